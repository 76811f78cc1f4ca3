theorem bnN_0 {f : Int → Int} {c : Int} : bnN f c 0 = 0 := by
  unfold bnN
  rw [Int.sub_self, Int.sub_self, Int.mul_zero, Int.mul_zero]; rfl
