/-! a curve's statement -/
/-- the class's end of a statement's body, and the model's: -11 may come late -/
def StS (U : Int → Int) (e : Int) (t : TK) (S : PS) : Prop := (e = 0 → S.1 = 0 ∧ tkR U t S.2.2 ∧ 0 ≤ pO S) ∧ (¬ e = 0 → (S.1 = e ∧ S.2.1 = t.1) ∨ (S.1 = 0 ∧ ¬ S.2.2.2.2.1 = 2 ∧ e = -11 ∧ S.2.2.1 = t.1))
theorem r29_up {A : AA} {g : Int → Int} {i v : Int} : upA (r29 A g) 27 i v = r29 (upA A 27 i v) g := by
  funext b j
  unfold upA r29
  by_cases hb : b = 29
  · rw [if_neg (fun y => absurd (hb.symm.trans y.1) (by decide)), if_pos hb, if_pos hb]
  · rw [if_neg hb, if_neg hb]
theorem mF_nc {A : AA} {c x y : Int} (c0 : 0 ≤ c) (c8 : c < 8) (i : Int) : mF (upA (upA A 27 c x) 27 14 y) i = if i = 0 then y else if i = 4 + c then x else mF A i := by
  have k : ∀ j : Int, j ≠ 14 → upA (upA A 27 c x) 27 14 y 27 j = if j = c then x else A 27 j := fun j hj => by
    rw [upA_o hj]
    by_cases z : j = c
    · rw [z, upA_s, if_pos rfl]
    · rw [upA_o z, if_neg z]
  have k29 : upA (upA A 27 c x) 27 14 y 29 = A 29 := by rw [upA_r (by decide), upA_r (by decide)]
  have k2 : upA (upA A 27 c x) 27 14 y 2 = A 2 := by rw [upA_r (by decide), upA_r (by decide)]
  unfold mF
  rw [k29, k2]
  by_cases h0 : i = 0
  · rw [if_pos h0, if_pos h0, upA_s]
  · rw [if_neg h0, if_neg h0]
    by_cases h1 : i = 1
    · rw [if_pos h1, if_neg (by omega), if_neg h0, if_pos h1, k 15 (by decide), if_neg (by omega)]
    · rw [if_neg h1, if_neg h0, if_neg h1]
      by_cases h2 : 2 ≤ i ∧ i < 4
      · rw [if_pos h2, if_neg (by omega), if_pos h2]
      · rw [if_neg h2, if_neg h2]
        by_cases h3 : 4 ≤ i ∧ i < 12
        · rw [if_pos h3, if_pos h3, k (i - 4) (by omega)]
          by_cases z : i = 4 + c
          · rw [if_pos z, if_pos (by omega)]
          · rw [if_neg z, if_neg (by omega)]
        · rw [if_neg h3, if_neg h3, if_neg (show ¬ i = 4 + c by omega)]
          by_cases h4 : 12 ≤ i ∧ i < 18
          · rw [if_pos h4, if_pos h4, k (8 + (i - 12)) (by omega), if_neg (by omega)]
          · rw [if_neg h4, if_neg h4]
theorem rdC_S {T : Int → Int} {n : Int} {A : AA} {t : TK} {s : PS} {f : Int → Int} (hU : byR T (A 26) n) (h : s.1 = 0) (hr : tkR (A 26) t s.2.2) (hp : 0 ≤ pO s) (hf : ∀ i, 0 ≤ i → i < 140 → f i = mF A i) (ct : ctM A) :
    StS (A 26) (rdC T n t f).1 (rdC T n t f).2.1 (rcR A n s).1 ∧ ((rdC T n t f).1 = 0 → ∀ i, 0 ≤ i → i < 140 → (rdC T n t f).2.2 i = mF (rcA A n s) i) := by
  have f0 : f 0 = A 27 14 := hf 0 (by decide) (by decide)
  by_cases z8 : f 0 < 8
  · have n8 : ¬ A 27 14 = 8 := by omega
    have e1 : rcS1 A n s = goM (A 26) n s := by unfold rcS1; rw [if_neg n8, fiP_0]
    obtain ⟨g1, g2, g3⟩ := go_S hU h hr hp
    have N := nm_S g1 g2 hf ct
    by_cases y : nmE f (nxT T n t) = 0
    · obtain ⟨n1, n2⟩ := N.1 y
      have eN : nmG A n (rcS1 A n s) = goM (A 26) n (goM (A 26) n s) := by unfold nmG; rw [e1, n1]
      obtain ⟨l1, l2, l3⟩ := go_S hU g1 g2 g3
      have eR : rdC T n t f = crv T n (f 0) (3 * 4 + 1) (3 * 0) (nxT T n (nxT T n t)) (up1 (up1 f (4 + f 0) (nxT T n t).2.2.2) 0 (f 0 + 1)) := by
        unfold rdC; rw [if_pos z8, if_pos y]; rfl
      have eM : rcR A n s = rcM (A 26) n (A 27 14) (4 + 2) 0 (goM (A 26) n (goM (A 26) n s)) (A 29) := by unfold rcR; rw [eN]
      have c0 : 0 ≤ A 27 14 := ct.1.1
      have c8 : A 27 14 < 8 := by omega
      have row : rowC (upA (upA A 27 (A 27 14) (nxT T n t).2.2.2) 27 14 (A 27 14 + 1)) (A 27 14) (up1 (up1 f (4 + A 27 14) (nxT T n t).2.2.2) 0 (A 27 14 + 1)) (A 29) := fun i i0 i1 iz => by
        have e29 : r29 (upA (upA A 27 (A 27 14) (nxT T n t).2.2.2) 27 14 (A 27 14 + 1)) (A 29) = upA (upA A 27 (A 27 14) (nxT T n t).2.2.2) 27 14 (A 27 14 + 1) := by
          rw [← r29_up, ← r29_up, r29_A]
        rw [e29, mF_nc c0 c8]
        by_cases w0 : i = 0
        · rw [if_pos w0, w0, up1_s]
        · rw [if_neg w0, up1_o w0]
          by_cases w1 : i = 4 + A 27 14
          · rw [if_pos w1, w1, up1_s]
          · rw [if_neg w1, up1_o w1, hf i i0 i1]
      have C := crv_S (A1 := upA (upA A 27 (A 27 14) (nxT T n t).2.2.2) 27 14 (A 27 14 + 1)) hU c0 c8 4 0 _ _ _ _ (by decide) (by decide) l1 l2 l3 row (fun w => absurd w (by decide))
      rw [f0] at eR
      rw [← eR, ← eM] at C
      refine ⟨⟨fun w => ⟨(C.1 w).1, (C.1 w).2.2.1, (C.1 w).2.2.2.1⟩, C.2⟩, fun w i i0 i1 => ?_⟩
      obtain ⟨C1, -, -, -, C5, C6⟩ := C.1 w
      have eA : rcA A n s = upA (r29 (upA (upA A 27 (A 27 14) (nxT T n t).2.2.2) 27 14 (A 27 14 + 1)) (rcR A n s).2.2) 29 (13 * A 27 14) (rcR A n s).2.1 := by
        unfold rcA
        rw [if_pos C1, e1, n2, r29_up, r29_up, upA_29]
      rw [eA, mF_zu c0 c8]
      by_cases iz : i = 18 + A 27 14
      · rw [iz, C6]; exact (if_pos rfl).symm
      · rw [C5 i i0 i1 iz]; exact (if_neg iz).symm
    · have eR : rdC T n t f = (nmE f (nxT T n t), nxT T n t, f) := by unfold rdC; rw [if_pos z8, if_neg y]
      have nz : ¬ ((nmE f (nxT T n t), (nxT T n t).1, (goM (A 26) n s).2.2) : PS).1 = 0 := y
      have eN : nmG A n (rcS1 A n s) = (nmE f (nxT T n t), (nxT T n t).1, (goM (A 26) n s).2.2) := by unfold nmG; rw [e1, N.2 y, goM_k nz]
      have eM : (rcR A n s).1 = (nmE f (nxT T n t), (nxT T n t).1, (goM (A 26) n s).2.2) := by
        unfold rcR
        rw [eN, rcM_u, if_neg (fun w => nz w.1)]
      rw [eR, eM]
      exact ⟨⟨fun w => absurd w y, fun _ => Or.inl ⟨rfl, rfl⟩⟩, fun w => absurd w y⟩
  · have e8 : A 27 14 = 8 := by have := ct.1; omega
    have eR : rdC T n t f = (-14, t, f) := by unfold rdC; rw [if_neg z8]
    have nz : ¬ ((-14, s.2.2.1, s.2.2) : PS).1 = 0 := by show ¬ (-14 : Int) = 0; decide
    have e1 : rcS1 A n s = (-14, s.2.2.1, s.2.2) := by unfold rcS1; rw [if_pos e8, fiP_1 h, goM_k nz]
    have eM : (rcR A n s).1 = (-14, s.2.2.1, s.2.2) := by
      unfold rcR
      rw [e1, nmG_k nz, rcM_u, if_neg (fun w => nz w.1)]
    rw [eR, eM]
    exact ⟨⟨fun w => absurd w (by show ¬ (-14 : Int) = 0; decide), fun _ => Or.inl ⟨rfl, hr.1.1.symm⟩⟩, fun w => absurd w (by show ¬ (-14 : Int) = 0; decide)⟩
