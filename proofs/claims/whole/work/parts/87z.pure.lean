/-! the model's first error -/
def fiF (F : FF) (z v : Int) : FF := if F 25 26 = 0 ∧ z = 1 then upF (upF F 25 26 v) 25 27 (F 25 22) else F
theorem fiF_f {F : FF} {z v : Int} (h : ¬ (F 25 26 = 0 ∧ z = 1)) : fiF F z v = F := if_neg h
theorem fiF_t {F : FF} {z v : Int} (h : F 25 26 = 0 ∧ z = 1) : fiF F z v = upF (upF F 25 26 v) 25 27 (F 25 22) := if_pos h
