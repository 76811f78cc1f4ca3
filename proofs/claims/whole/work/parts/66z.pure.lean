/-! the JDK's signum -/
theorem y_shr63 (a : Int) : y_shr a 63 = if w64 a < 0 then -1 else 0 := by
  have hs : (((Int32.ofInt 63).toInt64 &&& 63).toBitVec.smod 64).toNat = 63 := by decide
  have h1 := Int64.le_toInt (Int64.ofInt a)
  have h2 := Int64.toInt_lt (Int64.ofInt a)
  have e : y_shr a 63 = w64 a / 9223372036854775808 := by
    unfold y_shr w64
    show ((Int64.ofInt a).toBitVec.sshiftRight' (((Int32.ofInt 63).toInt64 &&& 63).toBitVec.smod 64)).toInt = _
    rw [BitVec.sshiftRight_eq', hs, BitVec.toInt_sshiftRight, Int.shiftRight_eq_div_pow]
    rfl
  rw [e]
  unfold w64
  split <;> omega
theorem y_ushr63 (a : Int) : y_ushr a 63 = if w64 a < 0 then 1 else 0 := by
  have hs : ((Int32.ofInt 63).toInt64.toUInt64 &&& Int64.toUInt64 63).toNat = 63 := by decide
  unfold y_ushr
  generalize (Int32.ofInt 63).toInt64.toUInt64 &&& Int64.toUInt64 63 = s at hs
  have hn : ((Int64.ofInt a).toUInt64 >>> s).toNat = (Int64.ofInt a).toBitVec.toNat / 9223372036854775808 := by
    rw [UInt64.toNat_shiftRight, hs, Nat.shiftRight_eq_div_pow]; rfl
  have hw : w64 a = (Int64.ofInt a).toBitVec.toInt := rfl
  rw [BitVec.toInt_eq_toNat_cond] at hw
  have hb := (Int64.ofInt a).toBitVec.isLt
  generalize (Int64.ofInt a).toUInt64 >>> s = u at hn
  generalize (Int64.ofInt a).toBitVec.toNat = n at hn hw hb
  have hc : u.toNat = if w64 a < 0 then 1 else 0 := by
    rw [hn, hw]
    split <;> split <;> omega
  by_cases z : w64 a < 0
  · rw [if_pos z] at hc ⊢
    have : u = 1 := UInt64.toNat_inj.mp hc
    rw [this]; rfl
  · rw [if_neg z] at hc ⊢
    have : u = 0 := UInt64.toNat_inj.mp hc
    rw [this]; rfl
theorem w64_neg {a : Int} (h : -9223372036854775808 < w64 a) : w64 (-a) = -w64 a := by
  have h2 := Int64.toInt_lt (Int64.ofInt a)
  unfold w64 at h ⊢
  rw [Int64.ofInt_neg, Int64.toInt_neg]
  exact Int.bmod_eq_of_le (by omega) (by omega)
theorem y_sig (v : Int) : y_or (y_shr v 63) (y_ushr (-v) 63) = sg (w64 v) := by
  have h1 := Int64.le_toInt (Int64.ofInt v)
  have hl : -9223372036854775808 ≤ w64 v := h1
  rw [y_shr63, y_ushr63]
  by_cases z : w64 v < 0
  · rw [if_pos z, sg_n z]
    split <;> rfl
  · rw [if_neg z, w64_neg (by omega)]
    by_cases y : w64 v = 0
    · rw [y]; rfl
    · rw [if_pos (by omega), sg_p (by omega)]; rfl
theorem x_ushr31 (a : Int) : x_ushr a 31 = if w32 a < 0 then 1 else 0 := by
  have hs : ((Int32.ofInt 31).toUInt32 &&& Int32.toUInt32 31).toNat = 31 := by decide
  unfold x_ushr
  generalize (Int32.ofInt 31).toUInt32 &&& Int32.toUInt32 31 = s at hs
  have hn : ((Int32.ofInt a).toUInt32 >>> s).toNat = (Int32.ofInt a).toBitVec.toNat / 2147483648 := by
    rw [UInt32.toNat_shiftRight, hs, Nat.shiftRight_eq_div_pow]; rfl
  have hw : w32 a = (Int32.ofInt a).toBitVec.toInt := rfl
  rw [BitVec.toInt_eq_toNat_cond] at hw
  have hb := (Int32.ofInt a).toBitVec.isLt
  generalize (Int32.ofInt a).toUInt32 >>> s = u at hn
  generalize (Int32.ofInt a).toBitVec.toNat = n at hn hw hb
  have hc : u.toNat = if w32 a < 0 then 1 else 0 := by
    rw [hn, hw]
    split <;> split <;> omega
  by_cases z : w32 a < 0
  · rw [if_pos z] at hc ⊢
    have : u = 1 := UInt32.toNat_inj.mp hc
    rw [this]; rfl
  · rw [if_neg z] at hc ⊢
    have : u = 0 := UInt32.toNat_inj.mp hc
    rw [this]; rfl
theorem w32_neg {a : Int} (h : -2147483648 < w32 a) : w32 (-a) = -w32 a := by
  have h2 := Int32.toInt_lt (Int32.ofInt a)
  unfold w32 at h ⊢
  rw [Int32.ofInt_neg, Int32.toInt_neg]
  exact Int.bmod_eq_of_le (by omega) (by omega)
theorem x_sig (v : Int) : x_or (x_shr v 31) (x_ushr (-v) 31) = sg (w32 v) := by
  have hl := w32_ge v
  have hh := w32_lt2 v
  have e : x_shr v 31 = if w32 v < 0 then -1 else 0 := by
    rw [x_shr_eq (by decide) (by decide), show (2 : Int) ^ (31 : Int).toNat = 2147483648 from rfl]
    split <;> omega
  rw [e, x_ushr31]
  by_cases z : w32 v < 0
  · rw [if_pos z, sg_n z]
    split <;> rfl
  · rw [if_neg z, w32_neg (by omega)]
    by_cases y : w32 v = 0
    · rw [y]; rfl
    · rw [if_pos (by omega), sg_p (by omega)]; rfl
theorem chg_st {s l : Int} (hs : s = -1 ∨ s = 0 ∨ s = 1) (hl : l = -1 ∨ l = 0 ∨ l = 1) : (s * l < 0 ↔ ¬ s = 0 ∧ s = -l) := by
  rcases hs with rfl | rfl | rfl <;> rcases hl with rfl | rfl | rfl <;> decide
theorem chg_rng {s l : Int} (hs : s = -1 ∨ s = 0 ∨ s = 1) (hl : l = -1 ∨ l = 0 ∨ l = 1) : -1 ≤ s * l ∧ s * l ≤ 1 := by
  rcases hs with rfl | rfl | rfl <;> rcases hl with rfl | rfl | rfl <;> decide
/-- going down bit by bit -/
theorem bit_q {q d j : Int} (q0 : 0 ≤ q) (j0 : 1 ≤ j) (d0 : j ≤ d) : q / p2 (d - j) / 2 = q / p2 (d - (j - 1)) := by
  have e : p2 (d - (j - 1)) = p2 (d - j) * 2 := by
    rw [show d - (j - 1) = d - j + 1 by omega, p2_s (by omega), Int.mul_comm]
  rw [e, Int.ediv_ediv_of_nonneg (Int.le_of_lt p2_pos)]
