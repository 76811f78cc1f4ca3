/-! two curves alike, sizes compared too -/
noncomputable def aaF (f : Int → Int) (c e z : Int) : Int := if f (18 + c) = f (18 + e) then bc (alP f c e z) else 0
theorem aaF_01 {f : Int → Int} {c e z : Int} : aaF f c e z = 0 ∨ aaF f c e z = 1 := by
  unfold aaF
  split
  · exact bc_01
  · exact Or.inl rfl
theorem waa {f : Int → Int} {c e z : Int} : w32 (aaF f c e z) = 0 ↔ ¬ aaF f c e z = 1 := by
  rcases aaF_01 (f := f) (c := c) (e := e) (z := z) with h | h <;> rw [h] <;> decide
