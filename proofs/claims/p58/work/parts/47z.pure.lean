/-! long quotients, greatest common divisors -/
theorem y_div_eq {a b : Int} (h0 : 0 ≤ a) (h1 : a < 9223372036854775808) (h2 : 0 < b) (h3 : b < 9223372036854775808) : y_div a b = a / b := by
  unfold y_div
  rw [Int64.toInt_div, show (Int64.ofInt a).toInt = a from w64_id (by omega) h1, show (Int64.ofInt b).toInt = b from w64_id (by omega) h3, Int.tdiv_eq_ediv_of_nonneg h0]
  have h4 : 0 ≤ a / b := Int.ediv_nonneg h0 (by omega)
  have h5 : a / b ≤ a := Int.ediv_le_self _ h0
  exact Int.bmod_eq_of_le (by omega) (by omega)
theorem y_rem_eq {a b : Int} (h0 : 0 ≤ a) (h1 : a < 9223372036854775808) (h2 : 0 < b) (h3 : b < 9223372036854775808) : y_rem a b = a % b := by
  unfold y_rem
  rw [Int64.toInt_sub, Int64.toInt_mul, Int64.toInt_div, Int.bmod_mul_bmod, Int.sub_bmod_bmod, Int.mul_comm ((Int64.ofInt a).toInt.tdiv (Int64.ofInt b).toInt), ← Int.tmod_def, show (Int64.ofInt a).toInt = a from w64_id (by omega) h1, show (Int64.ofInt b).toInt = b from w64_id (by omega) h3, Int.tmod_eq_emod_of_nonneg h0]
  have h4 := Int.emod_nonneg a (b := b) (by omega)
  have h5 := Int.emod_lt_of_pos a h2
  exact Int.bmod_eq_of_le (by omega) (by omega)
/-- the invariant of Euclid's algorithm with a bound on its steps -/
def gcI (x y a b s : Int) : Prop := (s = 0 ∧ a = x ∧ b = y ∨ 1 ≤ s ∧ 0 ≤ b ∧ b < a ∧ a < 2147483648 ∧ a * b * p2 (s - 1) < p2 62) ∧ (0 ≤ s ∧ s ≤ 200) ∧ Int.gcd a b = Int.gcd x y
theorem gcI_b {x y a b s : Int} (hx : 0 ≤ x ∧ x < 2147483648) (hy : 0 ≤ y ∧ y < 2147483648) (h : gcI x y a b s) : (0 ≤ a ∧ a < 2147483648) ∧ 0 ≤ b ∧ b < 2147483648 := by
  rcases h.1 with h | h <;> omega
theorem gcI_0 {x y : Int} : gcI x y x y 0 := ⟨Or.inl ⟨rfl, rfl, rfl⟩, by omega, rfl⟩
theorem gcI_s {x y a b s : Int} (hx : 0 ≤ x ∧ x < 2147483648) (hy : 0 ≤ y ∧ y < 2147483648) (h : gcI x y a b s) (hb : ¬ b = 0) (hs : s < 200) : gcI x y b (a % b) (s + 1) := by
  obtain ⟨h1, h2, h3⟩ := h
  have b0 : 0 < b := by rcases h1 with h | h <;> omega
  have r0 := Int.emod_nonneg a (b := b) (by omega)
  have r1 := Int.emod_lt_of_pos a b0
  have g : Int.gcd b (a % b) = Int.gcd a b := by
    rw [Int.gcd_comm a b, Int.emod_def]
    exact Int.gcd_sub_mul_left_right b a (a / b)
  refine ⟨Or.inr ⟨by omega, r0, r1, by rcases h1 with h | h <;> omega, ?_⟩, by omega, g.trans h3⟩
  rw [show s + 1 - 1 = s by omega]
  rcases h1 with ⟨e, ea, eb⟩ | ⟨k1, k2, k3, k4, k5⟩
  · rw [e, p2_0, Int.mul_one]
    have hb2 : b < 2147483648 := by omega
    have a1 : b * (a % b) ≤ 2147483648 * (a % b) := Int.mul_le_mul_of_nonneg_right (by omega) r0
    have e62 : p2 62 = 4611686018427387904 := rfl
    omega
  · have e : p2 s = 2 * p2 (s - 1) := by rw [← p2_s (by omega), show s - 1 + 1 = s by omega]
    have P := @p2_pos (s - 1)
    have d := Int.mul_ediv_add_emod a b
    have q1 : 1 ≤ a / b := by
      have := Int.le_ediv_of_mul_le b0 (show 1 * b ≤ a by omega)
      exact this
    have q2 : b * 1 ≤ b * (a / b) := Int.mul_le_mul_of_nonneg_left q1 (by omega)
    have m1 : 2 * (a % b) ≤ a := by omega
    have m2 : b * (2 * (a % b)) ≤ b * a := Int.mul_le_mul_of_nonneg_left m1 (by omega)
    have m3 : b * (2 * (a % b)) * p2 (s - 1) ≤ b * a * p2 (s - 1) := Int.mul_le_mul_of_nonneg_right m2 (by omega)
    rw [e]
    have m4 : b * (a % b) * (2 * p2 (s - 1)) = b * (2 * (a % b)) * p2 (s - 1) := by
      rw [Int.mul_comm 2 (p2 (s - 1)), ← Int.mul_assoc, Int.mul_left_comm b 2, Int.mul_assoc, Int.mul_comm, Int.mul_assoc, Int.mul_comm]
    rw [m4]
    rw [Int.mul_comm a b] at k5
    omega
theorem gcI_end {x y a b s : Int} (h : gcI x y a b s) (hx : 0 ≤ x) (hy : 0 ≤ y) (hs : 200 ≤ s ∨ b = 0) : a = (Int.gcd x y : Int) := by
  obtain ⟨h1, h2, h3⟩ := h
  have hb : b = 0 := by
    rcases hs with hs | hs
    · rcases h1 with ⟨e, -, -⟩ | ⟨k1, k2, k3, k4, k5⟩
      · omega
      · refine Classical.byContradiction fun z => ?_
        have e : s - 1 = 199 := by omega
        rw [e] at k5
        have w1 : 1 * 1 ≤ a * b := Int.mul_le_mul (by omega) (by omega) (by omega) (by omega)
        have w2 : 1 * p2 199 ≤ a * b * p2 199 := Int.mul_le_mul_of_nonneg_right (by omega) (Int.le_of_lt p2_pos)
        have w3 : p2 62 ≤ p2 199 := p2_le (by omega)
        omega
    · exact hs
  rw [← h3, hb, Int.gcd_zero_right]
  have : 0 ≤ a := by rcases h1 with h | h <;> omega
  omega
/-- what is told of a place, in lowest terms -/
def plF (f : Int → Int) (c d q w z : Int) : Int := (if z = 0 then (if q = p2 d then ceX f c d.toNat (q - 1) w (f (18 + c) - 1) else ceX f c d.toNat q w 0) else (if q = p2 d then ceX f c d.toNat (q - 1) 2 (f (18 + c) - 1) else ceX f c d.toNat q 2 0)) / (Int.gcd (if q = p2 d then ceX f c d.toNat (q - 1) w (f (18 + c) - 1) else ceX f c d.toNat q w 0) (if q = p2 d then ceX f c d.toNat (q - 1) 2 (f (18 + c) - 1) else ceX f c d.toNat q 2 0) : Int)
/-- a side of a cell's box, in hundredths -/
def bxF (f : Int → Int) (c d q s : Int) : Int := if s < 2 then 100 * ceX f c d.toNat q (s % 2) (exX f c d.toNat q s) / ceX f c d.toNat q 2 (exX f c d.toNat q s) else (100 * ceX f c d.toNat q (s % 2) (exX f c d.toNat q s) + ceX f c d.toNat q 2 (exX f c d.toNat q s) - 1) / ceX f c d.toNat q 2 (exX f c d.toNat q s)
theorem nd_cell' {B : AA} {c D d q w k : Int} (h : caOK B c) (hE : pltE B c D) (hs : 2 ≤ B 2 (18 + c)) (d0 : 0 ≤ d) (hd : d ≤ D) (q0 : 0 ≤ q) (q1 : q < p2 d) (w0 : 0 ≤ w) (w1 : w ≤ 2) (k0 : 0 ≤ k) (k1 : k < B 2 (18 + c)) : B 10 (((c * 127 + (p2 d - 1 + q)) * 3 + w) * 4 + k) = ceX (B 2) c d.toNat q w k := by
  have e : ((d.toNat : Nat) : Int) = d := by omega
  have a := nd_cell h hE hs d.toNat q w k (by omega) q0 (by rw [e]; exact q1) w0 w1 k0 k1
  rw [e] at a; exact a
theorem ex_cell' {B : AA} {c D d q s : Int} (h : caOK B c) (hE : pltE B c D) (hs : 2 ≤ B 2 (18 + c)) (d0 : 0 ≤ d) (hd : d ≤ D) (q0 : 0 ≤ q) (q1 : q < p2 d) (s0 : 0 ≤ s) (s1 : s < 4) : B 11 ((c * 127 + (p2 d - 1 + q)) * 4 + s) = exX (B 2) c d.toNat q s := by
  have e : ((d.toNat : Nat) : Int) = d := by omega
  have a := ex_cell h hE hs d.toNat q s (by omega) q0 (by rw [e]; exact q1) s0 s1
  rw [e] at a; exact a
theorem ndr {d q : Int} (hd : d ≤ 6) (q0 : 0 ≤ q) (q1 : q < p2 d) : 0 ≤ p2 d - 1 + q ∧ p2 d - 1 + q < 127 := by
  have a := @p2_pos d
  have b := p2_le hd
  rw [p2_6] at b
  omega
theorem gcd_b {X W : Int} (h : 0 < W) : 0 < (Int.gcd X W : Int) ∧ (Int.gcd X W : Int) ≤ W :=
  ⟨by have := Int.gcd_pos_of_ne_zero_right X (b := W) (by omega); omega, Int.le_of_dvd h (Int.gcd_dvd_right ..)⟩
