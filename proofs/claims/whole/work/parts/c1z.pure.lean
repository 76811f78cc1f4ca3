/-! each change, both sides: the relation again, and the same answer -/
section LWC
variable {F G H : FF} {A B C : AA}
theorem lw_mv {c k x y : Int} (h : REL F A) (g1 : chQ ((0 ≤ c ∧ c < A 2 0 ∧ 0 ≤ k ∧ k < A 2 (18 + c)) ∧ (0 ≤ x ∧ x ≤ 20 ∧ 0 ≤ y ∧ y ≤ 20)) F G A B (movR (A 2) c k x y)) :
    fgOK (mF B) ∧ (if (0 ≤ c ∧ c < A 2 0 ∧ 0 ≤ k ∧ k < A 2 (18 + c)) then (if (0 ≤ x ∧ x ≤ 20 ∧ 0 ≤ y ∧ y ≤ 20) then 100 * pxF (A 2) c k 0 + pxF (A 2) c k 1 else -2) else -1) = (if (0 ≤ c ∧ c < mF B 0 ∧ 0 ≤ k ∧ k < mF B (18 + c)) then (if (0 ≤ x ∧ x ≤ 20 ∧ 0 ≤ y ∧ y ≤ 20) then 100 * pxF (mF B) c k 0 + pxF (mF B) c k 1 else -2) else -1) ∧
    ∀ H C, msQ ((0 ≤ c ∧ c < mF B 0 ∧ 0 ≤ k ∧ k < mF B (18 + c)) ∧ (0 ≤ x ∧ x ≤ 20 ∧ 0 ≤ y ∧ y ≤ 20)) G H B C (movR (mF B) c k x y) → REL H C := by
  have hc := And.intro (fun z => chP_R (g1.1 z)) g1.2
  have e := rel_e h hc
  have f := rel_f h
  refine ⟨rel_g e h.1.2, mv_v e f (fun c0 c1 k0 k1 => ?_), fun H C hm => rel_cq h hc hm (fun e => mv_p e f) (fun e z => movR_c e) (fun z => movR_F h.1.2 z.1.1 z.1.2.1 z.1.2.2.1 z.1.2.2.2 ⟨z.2.1, z.2.2.1⟩ z.2.2.2)⟩
  have n := eqR_n e f c0 c1
  rw [pxF_c e c0 n.2.1 k0 (by omega) (by decide) (by decide), pxF_c e c0 n.2.1 k0 (by omega) (by decide) (by decide)]
theorem lw_wg {c k w : Int} (h : REL F A) (g1 : chQ ((0 ≤ c ∧ c < A 2 0 ∧ 0 ≤ k ∧ k < A 2 (18 + c)) ∧ (1 ≤ w ∧ w ≤ 3)) F G A B (wgR (A 2) c k w)) :
    fgOK (mF B) ∧ (if (0 ≤ c ∧ c < A 2 0 ∧ 0 ≤ k ∧ k < A 2 (18 + c)) then (if (1 ≤ w ∧ w ≤ 3) then pxF (A 2) c k 2 else -2) else -1) = (if (0 ≤ c ∧ c < mF B 0 ∧ 0 ≤ k ∧ k < mF B (18 + c)) then (if (1 ≤ w ∧ w ≤ 3) then pxF (mF B) c k 2 else -2) else -1) ∧
    ∀ H C, msQ ((0 ≤ c ∧ c < mF B 0 ∧ 0 ≤ k ∧ k < mF B (18 + c)) ∧ (1 ≤ w ∧ w ≤ 3)) G H B C (wgR (mF B) c k w) → REL H C := by
  have hc := And.intro (fun z => chP_R (g1.1 z)) g1.2
  have e := rel_e h hc
  have f := rel_f h
  refine ⟨rel_g e h.1.2, mv_v e f (fun c0 c1 k0 k1 => ?_), fun H C hm => rel_cq h hc hm (fun e => mv_p e f) (fun e z => wgR_c e) (fun z => wgR_F h.1.2 z.1.1 z.1.2.1 z.1.2.2.1 z.1.2.2.2 z.2)⟩
  have n := eqR_n e f c0 c1
  rw [pxF_c e c0 n.2.1 k0 (by omega) (by decide) (by decide)]
theorem lw_in {c k x y w : Int} (h : REL F A) (g1 : chQ ((0 ≤ c ∧ c < A 2 0) ∧ ((0 ≤ k ∧ k ≤ A 2 (18 + c)) ∧ (0 ≤ x ∧ x ≤ 20 ∧ 0 ≤ y ∧ y ≤ 20) ∧ (1 ≤ w ∧ w ≤ 3)) ∧ ¬ A 2 (18 + c) = 4) F G A B (insR (A 2) c k x y w)) :
    fgOK (mF B) ∧ (if (0 ≤ c ∧ c < A 2 0) then (if (0 ≤ k ∧ k ≤ A 2 (18 + c)) ∧ (0 ≤ x ∧ x ≤ 20 ∧ 0 ≤ y ∧ y ≤ 20) ∧ (1 ≤ w ∧ w ≤ 3) then (if A 2 (18 + c) = 4 then -3 else A 2 (18 + c)) else -2) else -1) = (if (0 ≤ c ∧ c < mF B 0) then (if (0 ≤ k ∧ k ≤ mF B (18 + c)) ∧ (0 ≤ x ∧ x ≤ 20 ∧ 0 ≤ y ∧ y ≤ 20) ∧ (1 ≤ w ∧ w ≤ 3) then (if mF B (18 + c) = 4 then -3 else mF B (18 + c)) else -2) else -1) ∧
    ∀ H C, msQ ((0 ≤ c ∧ c < mF B 0) ∧ ((0 ≤ k ∧ k ≤ mF B (18 + c)) ∧ (0 ≤ x ∧ x ≤ 20 ∧ 0 ≤ y ∧ y ≤ 20) ∧ (1 ≤ w ∧ w ≤ 3)) ∧ ¬ mF B (18 + c) = 4) G H B C (insR (mF B) c k x y w) → REL H C := by
  have hc := And.intro (fun z => chP_R (g1.1 z)) g1.2
  have e := rel_e h hc
  have f := rel_f h
  have e0 : eqR (mF B) (A 2) → mF B 0 = A 2 0 := fun e => e 0 (by decide) (by decide)
  refine ⟨rel_g e h.1.2, ?_, fun H C hm => rel_cq h hc hm (fun e => ?_) (fun e z => ?_) (fun z => ?_)⟩
  · rw [e0 e]
    by_cases z : 0 ≤ c ∧ c < A 2 0
    · rw [(eqR_n e f z.1 z.2).1]
    · rw [if_neg z, if_neg z]
  · rw [e0 e]
    by_cases z : 0 ≤ c ∧ c < A 2 0
    · rw [(eqR_n e f z.1 z.2).1]
    · exact ⟨fun w => absurd w.1 z, fun w => absurd w.1 z⟩
  · have n := eqR_n e f z.1.1 z.1.2
    have n4 := z.2.2
    exact insR_c e z.1.1 n.2.1 z.2.1.1.1 (by omega)
  · have n := eqR_n e f z.1.1 z.1.2
    have n4 := z.2.2
    exact insR_F h.1.2 z.1.1 z.1.2 z.2.1.1.1 z.2.1.1.2 (by omega) ⟨z.2.1.2.1.1, z.2.1.2.1.2.1⟩ z.2.1.2.1.2.2 z.2.1.2.2
theorem lw_dr {c k : Int} (h : REL F A) (g1 : chQ ((0 ≤ c ∧ c < A 2 0 ∧ 0 ≤ k ∧ k < A 2 (18 + c)) ∧ ¬ A 2 (18 + c) = 2) F G A B (drpR (A 2) c k)) :
    fgOK (mF B) ∧ (if (0 ≤ c ∧ c < A 2 0 ∧ 0 ≤ k ∧ k < A 2 (18 + c)) then (if A 2 (18 + c) = 2 then -3 else A 2 (18 + c) - 2) else -1) = (if (0 ≤ c ∧ c < mF B 0 ∧ 0 ≤ k ∧ k < mF B (18 + c)) then (if mF B (18 + c) = 2 then -3 else mF B (18 + c) - 2) else -1) ∧
    ∀ H C, msQ ((0 ≤ c ∧ c < mF B 0 ∧ 0 ≤ k ∧ k < mF B (18 + c)) ∧ ¬ mF B (18 + c) = 2) G H B C (drpR (mF B) c k) → REL H C := by
  have hc := And.intro (fun z => chP_R (g1.1 z)) g1.2
  have e := rel_e h hc
  have f := rel_f h
  have e0 : eqR (mF B) (A 2) → mF B 0 = A 2 0 := fun e => e 0 (by decide) (by decide)
  refine ⟨rel_g e h.1.2, ?_, fun H C hm => rel_cq h hc hm (fun e => ?_) (fun e z => ?_) (fun z => ?_)⟩
  · rw [e0 e]
    by_cases z : 0 ≤ c ∧ c < A 2 0
    · rw [(eqR_n e f z.1 z.2).1]
    · rw [if_neg (fun w => z ⟨w.1, w.2.1⟩), if_neg (fun w => z ⟨w.1, w.2.1⟩)]
  · rw [e0 e]
    by_cases z : 0 ≤ c ∧ c < A 2 0
    · rw [(eqR_n e f z.1 z.2).1]
    · exact ⟨fun w => absurd ⟨w.1.1, w.1.2.1⟩ z, fun w => absurd ⟨w.1.1, w.1.2.1⟩ z⟩
  · have n := eqR_n e f z.1.1 z.1.2.1
    exact drpR_c e z.1.1 n.2.1 z.1.2.2.1 n.2.2.2
  · exact drpR_F h.1.2 z.1.1 z.1.2.1 z.1.2.2.1 z.1.2.2.2 z.2
theorem lw_rv {c : Int} (h : REL F A) (g1 : chQ (0 ≤ c ∧ c < A 2 0) F G A B (revR (A 2) c)) :
    fgOK (mF B) ∧ (if (0 ≤ c ∧ c < A 2 0) then A 2 (18 + c) - 1 else -1) = (if (0 ≤ c ∧ c < mF B 0) then mF B (18 + c) - 1 else -1) ∧
    ∀ H C, msQ (0 ≤ c ∧ c < mF B 0) G H B C (revR (mF B) c) → REL H C := by
  have hc := And.intro (fun z => chP_R (g1.1 z)) g1.2
  have e := rel_e h hc
  have f := rel_f h
  have e0 : eqR (mF B) (A 2) → mF B 0 = A 2 0 := fun e => e 0 (by decide) (by decide)
  refine ⟨rel_g e h.1.2, ?_, fun H C hm => rel_cq h hc hm (fun e => by rw [e0 e]) (fun e z => ?_) (fun z => revR_F h.1.2 z.1 z.2)⟩
  · rw [e0 e]
    by_cases z : 0 ≤ c ∧ c < A 2 0
    · rw [(eqR_n e f z.1 z.2).1]
    · rw [if_neg z, if_neg z]
  · have n := eqR_n e f z.1 z.2
    exact revR_c e z.1 n.2.1 n.2.2.2
theorem lw_st {s v : Int} (h : REL F A) (g1 : chQ ((s = 0 ∨ s = 1) ∧ 1 ≤ v ∧ v ≤ (if s = 0 then 12 else 6)) F G A B (stR (A 2) s v)) :
    fgOK (mF B) ∧ (if ((s = 0 ∨ s = 1) ∧ 1 ≤ v ∧ v ≤ (if s = 0 then 12 else 6)) then A 2 (2 + s) else -2) = (if ((s = 0 ∨ s = 1) ∧ 1 ≤ v ∧ v ≤ (if s = 0 then 12 else 6)) then mF B (2 + s) else -2) ∧
    ∀ H C, msQ ((s = 0 ∨ s = 1) ∧ 1 ≤ v ∧ v ≤ (if s = 0 then 12 else 6)) G H B C (stR (mF B) s v) → REL H C := by
  have hc := And.intro (fun z => chP_R (g1.1 z)) g1.2
  have e := rel_e h hc
  refine ⟨rel_g e h.1.2, ?_, fun H C hm => rel_cq h hc hm (fun e => Iff.rfl) (fun e z => stR_c e) (fun z => stR_F h.1.2 z.1 z.2)⟩
  by_cases z : (s = 0 ∨ s = 1) ∧ 1 ≤ v ∧ v ≤ (if s = 0 then 12 else 6)
  · rw [if_pos z, if_pos z, e (2 + s) (by omega) (by omega)]
  · rw [if_neg z, if_neg z]
theorem lw_ln {l a b c : Int} (h : REL F A) (g1 : ((0 ≤ l ∧ l < A 2 1) ∧ ((-5 ≤ a ∧ a ≤ 5) ∧ (-5 ≤ b ∧ b ≤ 5) ∧ (-200 ≤ c ∧ c ≤ 200) ∧ ¬ (a = 0 ∧ b = 0)) → chR F G A B (lnR (A 2) l a b c)) ∧ (¬ ((0 ≤ l ∧ l < A 2 1) ∧ ((-5 ≤ a ∧ a ≤ 5) ∧ (-5 ≤ b ∧ b ≤ 5) ∧ (-200 ≤ c ∧ c ≤ 200) ∧ ¬ (a = 0 ∧ b = 0))) → ch0 F G A B)) :
    fgOK (mF B) ∧ (if (0 ≤ l ∧ l < A 2 1) then (if (-5 ≤ a ∧ a ≤ 5) ∧ (-5 ≤ b ∧ b ≤ 5) ∧ (-200 ≤ c ∧ c ≤ 200) ∧ ¬ (a = 0 ∧ b = 0) then onF (lnR (A 2) l a b c) l (Int.toNat (A 2 0)) else -2) else -1) = (if (0 ≤ l ∧ l < mF B 1) then (if (-5 ≤ a ∧ a ≤ 5) ∧ (-5 ≤ b ∧ b ≤ 5) ∧ (-200 ≤ c ∧ c ≤ 200) ∧ ¬ (a = 0 ∧ b = 0) then onF (lnR (mF B) l a b c) l (Int.toNat (mF B 0)) else -2) else -1) ∧
    ∀ H C, msQ ((0 ≤ l ∧ l < mF B 1) ∧ (-5 ≤ a ∧ a ≤ 5) ∧ (-5 ≤ b ∧ b ≤ 5) ∧ (-200 ≤ c ∧ c ≤ 200) ∧ ¬ (a = 0 ∧ b = 0)) G H B C (lnR (mF B) l a b c) → REL H C := by
  have e := rel_e h g1
  have f := rel_f h
  have f1 := f.1.2.2
  have f0 := f.1.1
  have e1 : eqR (mF B) (A 2) → mF B 1 = A 2 1 := fun e => e 1 (by decide) (by decide)
  refine ⟨rel_g e h.1.2, ?_, fun H C hm => rel_cq h g1 hm (fun e => by rw [e1 e]) (fun e z => lnR_c e) (fun z => lnR_F h.1.2 z.1.1 z.1.2 z.2.1 z.2.2.1 z.2.2.2.1)⟩
  rw [e1 e, e 0 (by decide) (by decide)]
  by_cases z : 0 ≤ l ∧ l < A 2 1
  · rw [if_pos z, if_pos z]
    have hl : ∀ i, 0 ≤ i → i < 140 → lnR (A 2) l a b c i = lnR (mF B) l a b c i := lnR_c e
    rw [onF_c (r := lnR (mF B) l a b c) (f := lnR (A 2) l a b c) (fun i i0 i1 => (hl i i0 i1).symm) z.1 (by omega) (Int.toNat (A 2 0)) (by omega) (fun j j0 j1 => by
      have q := (f.2.2.1 j j0 (by omega)).1
      unfold lnR
      rw [if_neg (by omega), if_neg (by omega), if_neg (by omega)]
      exact q.2)]
  · rw [if_neg z, if_neg z]
end LWC
