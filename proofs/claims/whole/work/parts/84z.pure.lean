/-! a root refined: the model's answer is the class's -/
theorem rf_ref {f : Int → Int} (h : fgOK f) {c l r d : Int} (c0 : 0 ≤ c) (c1 : c < f 0) (l0 : 0 ≤ l) (l1 : l < f 1) (h0 : 0 ≤ r) (h1 : r < ((rtsX f c l).length : Int)) (d0 : 0 ≤ d) (d1 : d ≤ 12) (hk : ¬ (rtN (rtsX f c l) r).1 = 2) : rfP f c l (rtN (rtsX f c l) r) d = refP f c l (rtN (rtsX f c l) r) d := by
  have hn := (h.2.2.1 c c0 c1).1
  have hb := rtN_b (f := f) (c := c) (l := l) (r := r) (by have := h.2.1.1; omega) h0 h1
  have hl : r.toNat < (rtsX f c l).length := by omega
  have e : rtN (rtsX f c l) r = (rtsX f c l)[r.toNat]'hl := by unfold rtN; rw [List.getD_eq_getElem?_getD, List.getElem?_eq_getElem hl]; rfl
  have m : rtN (rtsX f c l) r ∈ rtsX f c l := by rw [e]; exact List.getElem_mem hl
  generalize rtN (rtsX f c l) r = x at m hb hk ⊢
  have one := fun (hx : x.1 = 1) => rootsL_one (n := f (18 + c) - 1) (lim := f 2) (G := cfL f c l) m hx
  unfold rfP refP
  by_cases a : d ≤ x.2.1
  · rw [if_pos a, if_pos a]
  · rw [if_neg a, if_neg a]
    by_cases b : x.1 = 0
    · rw [if_pos b, if_pos b]
    · rw [if_neg b, if_neg b]
      have hx : x.1 = 1 := by omega
      have P := @p2_pos (3 * x.2.1)
      refine rf_fol (by omega) (by omega) _ _ _ (24600 * p2 (3 * x.2.1)) (fun i i0 i1 => ?_) (by omega) ?_ (one hx)
      · have z := cellF_bs (x := cfL f c l) (n := f (18 + c) - 1) (M := 24600) (by omega) (cfL_sm h c0 c1 l0 l1) (Int.toNat x.2.1) x.2.2 i i0 i1
        have le : p2 ((f (18 + c) - 1) * (Int.toNat x.2.1 : Int)) ≤ p2 (3 * x.2.1) := p2_le (by
          rw [show ((Int.toNat x.2.1 : Nat) : Int) = x.2.1 by omega]
          exact Int.mul_le_mul_of_nonneg_right (by omega) (by omega))
        exact ⟨Int.le_trans (by omega) z.1, Int.le_trans z.2 (by omega)⟩
      · rw [Int.mul_assoc, ← p2_add (by omega) (by omega), show 3 * x.2.1 + 3 * ((Int.toNat (d - x.2.1) : Nat) : Int) = 3 * d by omega]
        have le : p2 (3 * d) ≤ p2 36 := p2_le (by omega)
        rw [show p2 36 = 68719476736 from rfl] at le
        omega
