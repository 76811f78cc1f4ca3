theorem sm_eq {f : Int → Int} {c e : Int} : (if f (18 + c) = f (18 + e) then (if bc (alP f c e 0) = 1 then (1 : Int) else if bc (alP f c e 1) = 1 then 2 else 0) else 0) = (if aaF f c e 0 = 1 then 1 else if aaF f c e 1 = 1 then 2 else 0) := by
  unfold aaF
  by_cases z : f (18 + c) = f (18 + e)
  · rw [if_pos z, if_pos z, if_pos z]
  · rw [if_neg z, if_neg z, if_neg z, if_neg (by decide), if_neg (by decide)]
