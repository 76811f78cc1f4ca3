/-! pairs and meetings: the class's grid against the model's picture -/
theorem cntP_Q {g : Int → Int} {p : Int → Prop} : ∀ m : Nat, (∀ k, 0 ≤ k → k < (m : Int) → (p k → g k = -1) ∧ (¬ p k → g k = -2)) → cntP g m = cntQ p m
  | 0, _ => rfl
  | m + 1, h => by
    have ih := cntP_Q m (fun k k0 k1 => h k k0 (by omega))
    have e := h m (by omega) (by omega)
    unfold cntP
    by_cases z : p m
    · rw [if_neg (by rw [e.1 z]; decide), cntQ_t0 z, ih]
    · rw [if_pos (e.2 z), cntQ_f0 z, ih]
theorem pkF_Q {g : Int → Int} {p : Int → Prop} {k : Int} : ∀ m : Nat, (∀ k, 0 ≤ k → k < (m : Int) → (p k → g k = -1) ∧ (¬ p k → g k = -2)) → pkF g k m = pkQ p k m
  | 0, _ => rfl
  | m + 1, h => by
    have ih := pkF_Q (k := k) m (fun k k0 k1 => h k k0 (by omega))
    have ec := cntP_Q m (fun k k0 k1 => h k k0 (by omega))
    have e := h m (by omega) (by omega)
    unfold pkF pkQ
    rw [ih, ec]
    by_cases y : pkQ p k m = -1
    · rw [if_pos y, if_pos y]
      by_cases z : p m
      · rw [if_neg (by rw [e.1 z]; decide)]
        by_cases x : cntQ p m = k
        · rw [if_pos x, if_pos ⟨z, x⟩]
        · rw [if_neg x, if_neg (fun w => x w.2)]
      · rw [if_pos (e.2 z), if_neg (fun w => z w.1)]
    · rw [if_neg y, if_neg y]
theorem mk_k {F G : FF} {A B : AA} {c e : Int} (hf : fgOK (A 2)) (c0 : 0 ≤ c) (cn : c < A 2 0) (e0 : 0 ≤ e) (en : e < A 2 0) (hC : caAll A) (h : mkP F G A B c e (A 2 3)) : ∀ k, 0 ≤ k → k < p2 (A 2 3) * p2 (A 2 3) → (prK (A 2) c e k → B 20 k = -1) ∧ (¬ prK (A 2) c e k → B 20 k = -2) := fun k k0 k1 => by
  have q4 := hf.2.1.2
  have sb := sq_b q4.1 q4.2
  have sk := sq_k sb.1.1 k0 k1
  have h2 : B 2 = A 2 := funext fun i => h.1.2.1 2 i (by omega)
  have hB := h.1.2.2.1 hC
  have q1 := hf.1.1
  have n1 := (hf.2.2.1 c c0 cn).1
  have n2 := (hf.2.2.1 e e0 en).1
  have m := prX_mt (i := k / p2 (A 2 3)) (j := k % p2 (A 2 3)) (hB c c0 (by omega)) h.2.2.1.1 (by rw [h2]; omega) (hB e e0 (by omega)) h.2.2.1.2 (by rw [h2]; omega) (show 0 ≤ A 2 3 by omega)
  rw [h2] at m
  have g := h.2.2.2.1 (k / p2 (A 2 3)) (k % p2 (A 2 3)) sk.1.1 sk.1.2 sk.2.1.1 sk.2.1.2
  rw [sk.2.2] at g
  exact ⟨fun z => g.1 (m.mpr z), fun z => g.2 (fun y => z (m.mp y))⟩
/-- pairs: their number, one of them -/
theorem pc_eq {F G : FF} {A B : AA} {c e : Int} (hf : fgOK (A 2)) (c0 : 0 ≤ c) (cn : c < A 2 0) (e0 : 0 ≤ e) (en : e < A 2 0) (hC : caAll A) (h : mkP F G A B c e (A 2 3)) : cntP (B 20) (Int.toNat (p2 (A 2 3) * p2 (A 2 3))) = cntQ (prK (A 2) c e) (Int.toNat (p2 (A 2 3) * p2 (A 2 3))) :=
  cntP_Q _ (fun k k0 k1 => mk_k hf c0 cn e0 en hC h k k0 (by omega))
theorem pr_pk {F G : FF} {A B : AA} {c e k : Int} (hf : fgOK (A 2)) (c0 : 0 ≤ c) (cn : c < A 2 0) (e0 : 0 ≤ e) (en : e < A 2 0) (hC : caAll A) (h : mkP F G A B c e (A 2 3)) : pkR (B 20) (p2 (A 2 3)) k = pkX (A 2) c e k := by
  have e9 := pkF_Q (k := k) (Int.toNat (p2 (A 2 3) * p2 (A 2 3))) (fun k k0 k1 => mk_k hf c0 cn e0 en hC h k k0 (by omega))
  unfold pkR pkX
  rw [e9]
/-- groups over grids that agree -/
theorem grpN_ag {N : Nat} {S : Int} {s t : BS} (h : ∀ i, 0 ≤ i → i < S * S → s.1 i = t.1 i) : ∀ k : Nat, (k : Int) ≤ S * S → (∀ i, 0 ≤ i → i < S * S → (grpN N S s k).1.1 i = (grpN N S t k).1.1 i) ∧ (grpN N S s k).2 = (grpN N S t k).2
  | 0, _ => ⟨h, rfl⟩
  | k + 1, hk => by
    have ih := grpN_ag (N := N) h k (by omega)
    have e := ih.1 k (by omega) (by omega)
    by_cases z : (grpN N S s k).1.1 k = -1
    · have z2 : (grpN N S t k).1.1 k = -1 := by rw [← e]; exact z
      rw [grpN_t z, grpN_t z2, ih.2]
      refine ⟨?_, rfl⟩
      have a0 : agB S ((grpN N S s k).1.1, (grpN N S s k).1.2.1, 0) ((grpN N S t k).1.1, (grpN N S t k).1.2.1, 0) := ⟨rfl, ih.1, fun j j0 j1 => absurd j1 (by show ¬ j < 0; omega)⟩
      have a1 := joinF_ag (i := k) (v := (grpN N S t k).2) a0 (Or.inr ⟨by omega, by omega⟩)
      exact (sprF_ag N _ _ 0 (Int.le_refl 0) a1).2.1
    · have z2 : ¬ (grpN N S t k).1.1 k = -1 := by rw [← e]; exact z
      rw [grpN_f z, grpN_f z2]
      exact ih
theorem gr_eq {F G H : FF} {A B C : AA} {c e : Int} (hf : fgOK (A 2)) (c0 : 0 ≤ c) (cn : c < A 2 0) (e0 : 0 ≤ e) (en : e < A 2 0) (hC : caAll A) (h : mkP F G A B c e (A 2 3)) : (∀ i, 0 ≤ i → i < p2 (A 2 3) * p2 (A 2 3) → (grpF (p2 (A 2 3)) (B 20, B 21, H 19 2) (Int.toNat (p2 (A 2 3) * p2 (A 2 3)))).1.1 i = gmX (A 2) c e i) ∧ (grpF (p2 (A 2 3)) (B 20, B 21, H 19 2) (Int.toNat (p2 (A 2 3) * p2 (A 2 3)))).2 = gnX (A 2) c e := by
  have ag : ∀ i, 0 ≤ i → i < p2 (A 2 3) * p2 (A 2 3) → ((B 20, B 21, H 19 2) : BS).1 i = (pairS (A 2) c e).1 i := fun i i0 i1 => by
    have m := mk_k hf c0 cn e0 en hC h i i0 i1
    by_cases z : prK (A 2) c e i
    · rw [pairS_t z]; exact m.1 z
    · rw [pairS_f z]; exact m.2 z
  have q4 := hf.2.1.2
  have sb := sq_b q4.1 q4.2
  unfold gmX gnX
  rw [grpN_F, grpN_F]
  exact grpN_ag ag _ (by omega)
theorem cntK_r {g r : Int → Int} {v : Int} : ∀ m : Nat, (∀ k, 0 ≤ k → k < (m : Int) → g k = r k) → cntK g v m = cntK r v m
  | 0, _ => rfl
  | m + 1, h => by
    have ih := cntK_r (v := v) m (fun k k0 k1 => h k k0 (by omega))
    have e := h m (by omega) (by omega)
    unfold cntK
    rw [ih, e]
theorem mvL_c {g r : Int → Int} {v S w z : Int} : ∀ m : Nat, (∀ k, 0 ≤ k → k < (m : Int) → g k = r k) → mvL g v S w z m = mvL r v S w z m
  | 0, _ => rfl
  | m + 1, h => by
    have ih := mvL_c (v := v) (S := S) (w := w) (z := z) m (fun k k0 k1 => h k k0 (by omega))
    have e := h m (by omega) (by omega)
    unfold mvL
    rw [ih, e]
theorem mvG_c {g r : Int → Int} {v S w z : Int} : ∀ m : Nat, (∀ k, 0 ≤ k → k < (m : Int) → g k = r k) → mvG g v S w z m = mvG r v S w z m
  | 0, _ => rfl
  | m + 1, h => by
    have ih := mvG_c (v := v) (S := S) (w := w) (z := z) m (fun k k0 k1 => h k k0 (by omega))
    have e := h m (by omega) (by omega)
    unfold mvG
    rw [ih, e]
theorem mvR_c {g r : Int → Int} {m S w : Int} (h : ∀ k, 0 ≤ k → k < S * S → g k = r k) : mvR g m S w = mvR r m S w := by
  unfold mvR
  rw [cntK_r (r := r) _ (fun k k0 k1 => h k k0 (by omega)), mvL_c (r := r) _ (fun k k0 k1 => h k k0 (by omega)), mvG_c (r := r) _ (fun k k0 k1 => h k k0 (by omega))]
theorem mtA_c {g r : Int → Int} {S q k : Int} (h : ∀ k, 0 ≤ k → k < S * S → g k = r k) : mtA g S q k = mtA r S q k := by
  unfold mtA
  by_cases z : 0 ≤ q ∧ q < S ∧ 0 ≤ k ∧ k < S
  · have b := ix_b z.1 z.2.1 z.2.2.1 z.2.2.2
    rw [h _ b.1 b.2]
  · rw [if_neg (fun y => z y.1), if_neg (fun y => z y.1)]
