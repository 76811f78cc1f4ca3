/-! what holds of a figure -/
def fgOK (f : Int → Int) : Prop := ((0 ≤ f 0 ∧ f 0 ≤ 8) ∧ (0 ≤ f 1 ∧ f 1 ≤ 6)) ∧ ((1 ≤ f 2 ∧ f 2 ≤ 12) ∧ (1 ≤ f 3 ∧ f 3 ≤ 6)) ∧ (∀ c, 0 ≤ c → c < f 0 → (2 ≤ f (18 + c) ∧ f (18 + c) ≤ 4) ∧ ∀ k, 0 ≤ k → k < f (18 + c) → (0 ≤ pxF f c k 0 ∧ pxF f c k 0 ≤ 20) ∧ (0 ≤ pxF f c k 1 ∧ pxF f c k 1 ≤ 20) ∧ (1 ≤ pxF f c k 2 ∧ pxF f c k 2 ≤ 3)) ∧ (∀ l w, 0 ≤ l → l < f 1 → 0 ≤ w → w ≤ 2 → -200 ≤ f (122 + l * 3 + w) ∧ f (122 + l * 3 + w) ≤ 200)
/-- the coefficient k, as the sum stands -/
def cfR (f : Int → Int) (c l k : Int) : Int := f (26 + (c * 4 + k) * 3 + 2) * (f (122 + l * 3 + 0) * f (26 + (c * 4 + k) * 3 + 0) + f (122 + l * 3 + 1) * f (26 + (c * 4 + k) * 3 + 1) + f (122 + l * 3 + 2))
