/-- the factor of t^k, by differences of the coefficients -/
def powL (g : Int → Int) (n k : Int) : Int := if n < k then 0 else if k = 0 then g 0 else if k = 1 then n * (g 1 - g 0) else if k = 2 then (if n = 3 then 3 else 1) * (g 2 - 2 * g 1 + g 0) else g 3 - 3 * g 2 + 3 * g 1 - g 0
abbrev cubP (a b c d : Int) : Prop := w64 (18 * a * b * c * d - 4 * b * b * b * d + b * b * c * c - 4 * a * c * c * c - 27 * a * a * d * d) = 0 ∧ if w64 (b * b - 3 * a * c) = 0 then isFr (w64 (-b)) (w64 (3 * a)) else isFr (w64 (9 * a * d - b * c)) (w64 (2 * (b * b - 3 * a * c)))
abbrev dblP (g : Int → Int) (n : Int) : Prop := if ¬ w64 (powL g n 3) = 0 then cubP (powL g n 3) (powL g n 2) (powL g n 1) (powL g n 0) else w64 (powL g n 2) ≠ 0 ∧ w64 (powL g n 1 * powL g n 1) = w64 (4 * powL g n 2 * powL g n 0) ∧ isFr (w64 (-(powL g n 1))) (w64 (2 * powL g n 2))
theorem bi_c {p q : Prop} [Decidable p] [Decidable q] (h : p ↔ q) : bi p = bi q := by
  unfold bi
  by_cases hp : p
  · rw [if_pos hp, if_pos (h.mp hp)]
  · rw [if_neg hp, if_neg (fun z => hp (h.mpr z))]
