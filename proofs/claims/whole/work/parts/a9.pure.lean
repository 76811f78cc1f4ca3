theorem em_F {f : Int → Int} : figR (emR f) := by
  have k : ∀ i, 0 ≤ i → i < 140 → i ≠ 2 → i ≠ 3 → emR f i = 0 := fun i i0 i1 a b => by
    unfold emR
    rw [up1_o b, up1_o a]
    exact if_pos ⟨i0, i1⟩
  have e0 := k 0 (by decide) (by decide) (by decide) (by decide)
  have e1 := k 1 (by decide) (by decide) (by decide) (by decide)
  have e2 : emR f 2 = 10 := by unfold emR; rw [up1_o (by decide), up1_s]
  have e3 : emR f 3 = 4 := by unfold emR; rw [up1_s]
  refine ⟨⟨⟨?_, ?_⟩, ⟨?_, ?_⟩, fun e q0 q1 => ?_, fun l w l0 l1 w0 w1 => ?_⟩, fun l l0 l1 => ?_⟩
  · rw [e0]; decide
  · rw [e1]; decide
  · rw [e2]; decide
  · rw [e3]; decide
  · rw [e0] at q1; omega
  · rw [e1] at l1; omega
  · rw [e1] at l1; omega
theorem rdA_F {T : Int → Int} {n : Int} : ∀ (m : Nat) (c g : Int) (t : TK) (f : Int → Int), figR f → 0 ≤ c → (rdA T n m c t f g).1 < 0 ∨ figR (rdA T n m c t f g).2.2.1
  | 0, _, _, _, _, h, _ => Or.inr h
  | m + 1, c, g, t, f, h, c0 => by
    by_cases z : t.2.2.1 = 5
    · have e : rdA T n (m + 1) c t f g = (c, t, f, g) := if_pos z
      rw [e]; exact Or.inr h
    · rw [rdT_0 z]
      by_cases y : (rdT T n t f g).1 = 0
      · rw [if_pos y]
        exact rdA_F m _ _ _ _ (rdT_F h y) (by omega)
      · rw [if_neg y]
        have b := rdT_e (T := T) (n := n) (t := t) (f := f) (g := g)
        exact Or.inl (by omega)
theorem ld_F {A : AA} {F : FF} {n : Int} (h : ¬ (ldR A F n).1 < 0) : figR (ldR A F n).2.2.1 := (rdA_F 801 0 0 _ _ em_F (Int.le_refl 0)).resolve_left h
