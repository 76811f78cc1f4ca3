/-! a line's statement -/
theorem mF_nl {A : AA} {l x y : Int} (l0 : 0 ≤ l) (l6 : l < 6) (i : Int) : mF (upA (upA A 27 (8 + l) x) 27 15 y) i = if i = 1 then y else if i = 12 + l then x else mF A i := by
  have k : ∀ j : Int, j ≠ 15 → upA (upA A 27 (8 + l) x) 27 15 y 27 j = if j = 8 + l then x else A 27 j := fun j hj => by
    rw [upA_o hj]
    by_cases z : j = 8 + l
    · rw [z, upA_s, if_pos rfl]
    · rw [upA_o z, if_neg z]
  have k29 : upA (upA A 27 (8 + l) x) 27 15 y 29 = A 29 := by rw [upA_r (by decide), upA_r (by decide)]
  have k2 : upA (upA A 27 (8 + l) x) 27 15 y 2 = A 2 := by rw [upA_r (by decide), upA_r (by decide)]
  unfold mF
  rw [k29, k2]
  by_cases h0 : i = 0
  · rw [if_pos h0, if_neg (by omega), if_neg (show ¬ i = 12 + l by omega), if_pos h0, k 14 (by decide), if_neg (by omega)]
  · rw [if_neg h0]
    by_cases h1 : i = 1
    · rw [if_pos h1, if_pos h1, upA_s]
    · rw [if_neg h1, if_neg h1, if_neg h0, if_neg h1]
      by_cases h2 : 2 ≤ i ∧ i < 4
      · rw [if_pos h2, if_neg (by omega), if_pos h2]
      · rw [if_neg h2, if_neg h2]
        by_cases h3 : 4 ≤ i ∧ i < 12
        · rw [if_pos h3, if_pos h3, k (i - 4) (by omega), if_neg (by omega), if_neg (show ¬ i = 12 + l by omega)]
        · rw [if_neg h3, if_neg h3]
          by_cases h4 : 12 ≤ i ∧ i < 18
          · rw [if_pos h4, if_pos h4, k (8 + (i - 12)) (by omega)]
            by_cases z : i = 12 + l
            · rw [if_pos z, if_pos (by omega)]
            · rw [if_neg z, if_neg (by omega)]
          · rw [if_neg h4, if_neg h4, if_neg (show ¬ i = 12 + l by omega)]
theorem rdL_S {T : Int → Int} {n : Int} {A : AA} {t : TK} {s : PS} {f : Int → Int} (hU : byR T (A 26) n) (h : s.1 = 0) (hr : tkR (A 26) t s.2.2) (hp : 0 ≤ pO s) (hf : ∀ i, 0 ≤ i → i < 140 → f i = mF A i) (ct : ctM A) :
    StS (A 26) (rdL T n t f).1 (rdL T n t f).2.1 (rlS5 A n s) ∧ ((rdL T n t f).1 = 0 → ∀ i, 0 ≤ i → i < 140 → (rdL T n t f).2.2 i = mF (rlA A n s) i) := by
  have f1 : f 1 = A 27 15 := hf 1 (by decide) (by decide)
  by_cases z6 : f 1 < 6
  · have n6 : ¬ A 27 15 = 6 := by omega
    have e1 : rlS1 A n s = goM (A 26) n s := by unfold rlS1; rw [if_neg n6, fiP_0]
    obtain ⟨g1, g2, g3⟩ := go_S hU h hr hp
    have N := nm_S g1 g2 hf ct
    by_cases y : nmE f (nxT T n t) = 0
    · obtain ⟨n1, n2⟩ := N.1 y
      have eN : rlS2 A n s = goM (A 26) n (goM (A 26) n s) := by unfold rlS2 nmG; rw [e1, n1]
      obtain ⟨l1, l2, l3⟩ := go_S hU g1 g2 g3
      have eR : rdL T n t f = lin T n (f 1) 3 0 (nxT T n (nxT T n t)) (up1 (up1 f (12 + f 1) (nxT T n t).2.2.2) 1 (f 1 + 1)) := by
        unfold rdL; rw [if_pos z6, if_pos y]
      have l0 : 0 ≤ A 27 15 := ct.2.1
      have l6 : A 27 15 < 6 := by omega
      rw [← eN] at l1 l2 l3
      have C := lin_S (l := A 27 15) (f := up1 (up1 f (12 + A 27 15) (nxT T n t).2.2.2) 1 (A 27 15 + 1)) hU l1 l2 l3 (s3 := rlS3 A n s) rfl (x := rlX A n s) rfl (s4 := rlS4 A n s) rfl (y := rlY A n s) rfl (s5 := rlS5 A n s) rfl (z := rlZ A n s) rfl
      rw [f1] at eR
      rw [← eR] at C
      refine ⟨⟨fun w => (C.1 w).1, fun w => Or.inl (C.2 w)⟩, fun w i i0 i1 => ?_⟩
      obtain ⟨C1, C2⟩ := C.1 w
      have eA : rlA A n s = upA (upA (upA (upA (upA A 27 (8 + A 27 15) (nxT T n t).2.2.2) 27 15 (A 27 15 + 1)) 29 (104 + 3 * A 27 15 + 0) (rlX A n s)) 29 (104 + 3 * A 27 15 + 1) (rlY A n s)) 29 (104 + 3 * A 27 15 + 2) (rlZ A n s) := by
        unfold rlA
        rw [if_pos C1.1, e1, n2, r29_up, r29_up, Int.add_zero, upA_29_3]
        have k29 : upA (upA A 27 (8 + A 27 15) (nxT T n t).2.2.2) 27 15 (A 27 15 + 1) 29 = A 29 := by rw [upA_r (by decide), upA_r (by decide)]
        rw [k29]
      rw [eA, C2, mF_lu l0 l6 (by decide) (by decide), mF_lu l0 l6 (by decide) (by decide), mF_lu l0 l6 (by decide) (by decide)]
      dsimp only
      by_cases w2 : i = 122 + A 27 15 * 3 + 2
      · rw [if_pos w2, w2, up1_s]
      · rw [if_neg w2, up1_o w2]
        by_cases w1 : i = 122 + A 27 15 * 3 + 1
        · rw [if_pos w1, w1, up1_s]
        · rw [if_neg w1, up1_o w1]
          by_cases w0 : i = 122 + A 27 15 * 3 + 0
          · rw [if_pos w0, w0, up1_s]
          · rw [if_neg w0, up1_o w0, mF_nl l0 l6]
            by_cases v1 : i = 1
            · rw [if_pos v1, v1, up1_s]
            · rw [if_neg v1, up1_o v1]
              by_cases v2 : i = 12 + A 27 15
              · rw [if_pos v2, v2, up1_s]
              · rw [if_neg v2, up1_o v2, hf i i0 i1]
    · have eR : rdL T n t f = (nmE f (nxT T n t), nxT T n t, f) := by unfold rdL; rw [if_pos z6, if_neg y]
      have nz : ¬ ((nmE f (nxT T n t), (nxT T n t).1, (goM (A 26) n s).2.2) : PS).1 = 0 := y
      have eN : rlS2 A n s = (nmE f (nxT T n t), (nxT T n t).1, (goM (A 26) n s).2.2) := by unfold rlS2 nmG; rw [e1, N.2 y, goM_k nz]
      have eM : rlS5 A n s = (nmE f (nxT T n t), (nxT T n t).1, (goM (A 26) n s).2.2) := by
        unfold rlS5 rlS4 rlS3
        rw [eN, sgS_k nz, sgS_k nz, sgS_k nz]
      rw [eR, eM]
      exact ⟨⟨fun w => absurd w y, fun _ => Or.inl ⟨rfl, rfl⟩⟩, fun w => absurd w y⟩
  · have e6 : A 27 15 = 6 := by have := ct.2; omega
    have eR : rdL T n t f = (-14, t, f) := by unfold rdL; rw [if_neg z6]
    have nz : ¬ ((-14, s.2.2.1, s.2.2) : PS).1 = 0 := by show ¬ (-14 : Int) = 0; decide
    have e1 : rlS1 A n s = (-14, s.2.2.1, s.2.2) := by unfold rlS1; rw [if_pos e6, fiP_1 h, goM_k nz]
    have eM : rlS5 A n s = (-14, s.2.2.1, s.2.2) := by
      unfold rlS5 rlS4 rlS3 rlS2
      rw [e1, nmG_k nz, sgS_k nz, sgS_k nz, sgS_k nz]
    rw [eR, eM]
    exact ⟨⟨fun w => absurd w (by show ¬ (-14 : Int) = 0; decide), fun _ => Or.inl ⟨rfl, hr.1.1.symm⟩⟩, fun w => absurd w (by show ¬ (-14 : Int) = 0; decide)⟩
