/-- the token that begins at p -/
def adQ (T : Int → Int) (n v p : Int) : TK :=
  if n ≤ p then (p, p, 5, v)
  else if ltP (sgT T n p) then (p, runL T n (Int.toNat (n - p)) p, 0, if runL T n (Int.toNat (n - p)) p - p ≤ 6 then ltF T n p (Int.toNat (runL T n (Int.toNat (n - p)) p - p)) else 0)
  else if dgP (sgT T n p) then (p, runD T n (Int.toNat (n - p)) p, 1, ivF T n p (Int.toNat (runD T n (Int.toNat (n - p)) p - p)))
  else (p, p + 1, if sgT T n p = 59 then 2 else if sgT T n p = 45 then 3 else 4, v)
theorem adF_q {T : Int → Int} {n nx v : Int} : adF T n nx v = adQ T n v (runB T n (Int.toNat (n - nx)) nx) := rfl
