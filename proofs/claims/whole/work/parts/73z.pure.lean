/-! sets as bits, with nought added -/
theorem x_or_0 (a : Int) : x_or a 0 = w32 a := by
  show (Int32.ofInt a ||| 0).toInt = (Int32.ofInt a).toInt
  rw [Int32.or_zero]
theorem bitP_r (p : Int → Prop) : ∀ n : Nat, -2147483648 ≤ bitP p n ∧ bitP p n < 2147483648
  | 0 => ⟨by show (-2147483648 : Int) ≤ 0; decide, by show (0 : Int) < 2147483648; decide⟩
  | n + 1 => by
    by_cases h : p n
    · rw [show bitP p (n + 1) = x_or (bitP p n) (x_shl 1 n) from if_pos h]; exact x_or_r _ _
    · rw [show bitP p (n + 1) = bitP p n from if_neg h]; exact bitP_r p n
theorem bitP_0 {p : Int → Prop} {n : Nat} : x_or (bitP p n) 0 = bitP p n := by
  rw [x_or_0, w32_id (bitP_r p n).1 (bitP_r p n).2]
