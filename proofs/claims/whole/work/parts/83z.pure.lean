/-! boxes that meet, in the model; bits -/
abbrev meB (g : Int → Int) (a b : Int) : Prop := (¬ g (a + 4) * g (b + 1) < g b * g (a + 5) ∧ ¬ g (b + 4) * g (a + 1) < g a * g (b + 5)) ∧ ¬ g (a + 6) * g (b + 3) < g (b + 2) * g (a + 7) ∧ ¬ g (b + 6) * g (a + 3) < g (a + 2) * g (b + 7)
def bxO (g : Int → Int) (p : Int) : Prop := ∀ i, p ≤ i → i < p + 8 → 0 ≤ g i ∧ g i ≤ 2147483648
theorem pbB {x y : Int} (hx : 0 ≤ x ∧ x ≤ 2147483648) (hy : 0 ≤ y ∧ y ≤ 2147483648) : -4611686018427387904 ≤ x * y ∧ x * y ≤ 4611686018427387904 := by
  have := pr_b hx.1 hx.2 hy.1 hy.2
  omega
def bitM (v : Int) : Int := sumI (fun k => x_shr v k % 2) 8
theorem x_and_1 (a : Int) : x_and a 1 = a % 2 := x_and_p2 (a := a) (D := 1) (by decide) (by decide)
