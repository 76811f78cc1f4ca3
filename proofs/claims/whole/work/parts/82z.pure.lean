/-! places -/
theorem plF_e {f : Int → Int} {c d q w z : Int} : plF f c d q w z = (if z = 0 then ceX f c d.toNat (if q = p2 d then q - 1 else q) w (if q = p2 d then f (18 + c) - 1 else 0) else ceX f c d.toNat (if q = p2 d then q - 1 else q) 2 (if q = p2 d then f (18 + c) - 1 else 0)) / (Int.gcd (ceX f c d.toNat (if q = p2 d then q - 1 else q) w (if q = p2 d then f (18 + c) - 1 else 0)) (ceX f c d.toNat (if q = p2 d then q - 1 else q) 2 (if q = p2 d then f (18 + c) - 1 else 0)) : Int) := by
  unfold plF
  by_cases e : q = p2 d
  · rw [if_pos e, if_pos e, if_pos e, if_pos e]
  · rw [if_neg e, if_neg e, if_neg e, if_neg e]
