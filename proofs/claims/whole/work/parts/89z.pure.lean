/-! double roots: quotients that come out, a cubic's test by its derivative and by its discriminant -/
theorem mu_b {a b M N : Int} (ha : -M ≤ a ∧ a ≤ M) (hb : -N ≤ b ∧ b ≤ N) : -(M * N) ≤ a * b ∧ a * b ≤ M * N := by
  have h1 : 0 ≤ (M - a) * (N + b) := Int.mul_nonneg (by omega) (by omega)
  have h2 : 0 ≤ (M + a) * (N - b) := Int.mul_nonneg (by omega) (by omega)
  have h3 : 0 ≤ (M - a) * (N - b) := Int.mul_nonneg (by omega) (by omega)
  have h4 : 0 ≤ (M + a) * (N + b) := Int.mul_nonneg (by omega) (by omega)
  have e1 : (M - a) * (N + b) = M * N + M * b - a * N - a * b := by grind
  have e2 : (M + a) * (N - b) = M * N - M * b + a * N - a * b := by grind
  have e3 : (M - a) * (N - b) = M * N - M * b - a * N + a * b := by grind
  have e4 : (M + a) * (N + b) = M * N + M * b + a * N + a * b := by grind
  omega
theorem y_div_mul {a g : Int} (h0 : 0 < g) (h1 : g ≤ 1000000000) (h2 : -1000000000 ≤ a * g ∧ a * g ≤ 1000000000) (h3 : -1000000000 ≤ a ∧ a ≤ 1000000000) : y_div (a * g) g = a := by
  unfold y_div
  rw [Int64.toInt_div, show (Int64.ofInt (a * g)).toInt = a * g from w64_id (by omega) (by omega), show (Int64.ofInt g).toInt = g from w64_id (by omega) (by omega), Int.mul_tdiv_cancel _ (by omega)]
  exact Int.bmod_eq_of_le (by omega) (by omega)
theorem y_rem0 {a b : Int} (ha : -4611686018427387904 ≤ a ∧ a ≤ 4611686018427387904) (hb : -4611686018427387904 ≤ b ∧ b ≤ 4611686018427387904) (h : ¬ b = 0) : w64 (y_rem a b) = 0 ↔ b ∣ a := by
  have e : y_rem a b = a.tmod b := by
    unfold y_rem
    rw [Int64.toInt_sub, Int64.toInt_mul, Int64.toInt_div, Int.bmod_mul_bmod, Int.sub_bmod_bmod, Int.mul_comm ((Int64.ofInt a).toInt.tdiv (Int64.ofInt b).toInt), ← Int.tmod_def, show (Int64.ofInt a).toInt = a from w64_id (by omega) (by omega), show (Int64.ofInt b).toInt = b from w64_id (by omega) (by omega)]
    have h4 := Int.natAbs_tmod a b
    have h5 : a.natAbs % b.natAbs ≤ a.natAbs := Nat.mod_le _ _
    exact Int.bmod_eq_of_le (by omega) (by omega)
  have h4 := Int.natAbs_tmod a b
  have h5 : a.natAbs % b.natAbs ≤ a.natAbs := Nat.mod_le _ _
  rw [e, w64_id (by omega) (by omega), Int.dvd_iff_tmod_eq_zero]
theorem dv_b {a m M : Int} (h : a ∣ m) (hm : ¬ m = 0) (hb : -M ≤ m ∧ m ≤ M) : -M ≤ a ∧ a ≤ M := by
  have h1 : a.natAbs ∣ m.natAbs := Int.natAbs_dvd_natAbs.mpr h
  have h2 := Nat.le_of_dvd (by omega) h1
  omega
/-- two numbers by their greatest common divisor -/
theorem cb_div {A B : Int} (hA : ¬ A = 0) (ba : -1000000000 ≤ A ∧ A ≤ 1000000000) (bb : -1000000000 ≤ B ∧ B ≤ 1000000000) : ∃ a b g : Int, 0 < g ∧ g ≤ 1000000000 ∧ (Int.gcd A B : Int) = g ∧ A = a * g ∧ B = b * g ∧ Int.gcd a b = 1 ∧ y_div A g = a ∧ y_div B g = b ∧ ¬ a = 0 ∧ (-1000000000 ≤ a ∧ a ≤ 1000000000) ∧ (-1000000000 ≤ b ∧ b ≤ 1000000000) := by
  have g0 : 0 < Int.gcd A B := Int.gcd_pos_of_ne_zero_left _ hA
  obtain ⟨a, ea⟩ := Int.gcd_dvd_left A B
  obtain ⟨b, eb⟩ := Int.gcd_dvd_right A B
  rw [Int.mul_comm] at ea eb
  have g1 := (dv_b (M := 1000000000) (Int.gcd_dvd_left A B) hA ba).2
  have a0 : ¬ a = 0 := fun z => hA (by rw [ea, z, Int.zero_mul])
  have ab := dv_b (M := 1000000000) (a := a) ⟨_, ea⟩ hA ba
  have bb2 : -1000000000 ≤ b ∧ b ≤ 1000000000 := by
    by_cases z : B = 0
    · rcases Int.mul_eq_zero.mp (eb.symm.trans z) with h | h
      · omega
      · omega
    · exact dv_b (M := 1000000000) (a := b) ⟨_, eb⟩ z bb
  have cop : Int.gcd a b = 1 := by
    have h := Int.gcd_ediv_gcd_ediv_gcd g0
    have h1 : A / (Int.gcd A B : Int) = a := by
      conv => lhs; arg 1; rw [ea]
      exact Int.mul_ediv_cancel _ (by omega)
    have h2 : B / (Int.gcd A B : Int) = b := by
      conv => lhs; arg 1; rw [eb]
      exact Int.mul_ediv_cancel _ (by omega)
    rw [h1, h2] at h
    exact h
  generalize hg : (Int.gcd A B : Int) = g at ea eb g1
  exact ⟨a, b, g, by omega, g1, rfl, ea, eb, cop, by rw [ea]; exact y_div_mul (by omega) g1 (by rw [← ea]; exact ba) ab, by rw [eb]; exact y_div_mul (by omega) g1 (by rw [← eb]; exact bb) bb2, a0, ab, bb2⟩
/-- the derivative at -b / a, all times a * a -/
def cbX (y z v a b : Int) : Int := y * a * a - 2 * z * a * b + 3 * v * b * b
abbrev cbM (x y z v : Int) : Prop := if 6 * y * v - 2 * z * z = 0 then 9 * x * v - y * z = 0 ∧ isFr (-z) (3 * v) else cbX y z v (6 * y * v - 2 * z * z) (9 * x * v - y * z) = 0 ∧ isFr (-(9 * x * v - y * z)) (6 * y * v - 2 * z * z)
theorem cbX_mul {y z v a b g : Int} (h : 0 < g) : cbX y z v (a * g) (b * g) = 0 ↔ cbX y z v a b = 0 := by
  have e : cbX y z v (a * g) (b * g) = cbX y z v a b * (g * g) := by unfold cbX; grind
  rw [e]
  constructor
  · intro z
    rcases Int.mul_eq_zero.mp z with h1 | h1
    · exact h1
    · rcases Int.mul_eq_zero.mp h1 with h2 | h2 <;> omega
  · intro z; rw [z, Int.zero_mul]
theorem mg0 {a g : Int} (h : 0 < g) : (0 ≤ a * g ↔ 0 ≤ a) ∧ (0 < a * g ↔ 0 < a) := by
  constructor
  · constructor
    · intro z
      by_cases q : 0 ≤ a
      · exact q
      · have : a * g < 0 := Int.mul_neg_of_neg_of_pos (by omega) h
        omega
    · intro z; exact Int.mul_nonneg z (by omega)
  · constructor
    · intro z
      by_cases q : 0 < a
      · exact q
      · have : a * g ≤ 0 := Int.mul_nonpos_of_nonpos_of_nonneg (by omega) (by omega)
        omega
    · intro z; exact Int.mul_pos z h
theorem isFr_mul {u w g : Int} (h : 0 < g) : isFr (u * g) (w * g) ↔ isFr u w := by
  have a1 := mg0 (a := u) h
  have a2 := mg0 (a := -u) h
  have a3 := mg0 (a := w) h
  have a4 := mg0 (a := w - u) h
  have a5 := mg0 (a := u - w) h
  rw [Int.sub_mul] at a4 a5
  rw [Int.neg_mul] at a2
  show (ite (0 < w * g) _ _) ↔ (ite (0 < w) _ _)
  by_cases q : 0 < w
  · rw [if_pos (a3.2.mpr q), if_pos q]; omega
  · rw [if_neg (fun z => q (a3.2.mp z)), if_neg q]; omega
theorem cop_dvd {a b c : Int} (h : a ∣ b * c) (cop : Int.gcd a b = 1) : a ∣ c := by
  have h1 := Int.dvd_gcd_mul_iff_dvd_mul.mpr h
  rw [cop] at h1
  simpa using h1
/-- a common root is a fraction whose parts divide: told of numbers without a common divisor -/
theorem cb_dv {y z v a b : Int} (cop : Int.gcd a b = 1) (h : cbX y z v a b = 0) : a ∣ 3 * v ∧ b ∣ y := by
  unfold cbX at h
  constructor
  · have h1 : a ∣ b * (b * (3 * v)) := ⟨2 * z * b - y * a, by grind⟩
    exact cop_dvd (cop_dvd h1 cop) cop
  · have h1 : b ∣ a * (a * y) := ⟨2 * z * a - 3 * v * b, by grind⟩
    have cop2 : Int.gcd b a = 1 := by rw [Int.gcd_comm]; exact cop
    exact cop_dvd (cop_dvd h1 cop2) cop2
theorem isFr_neg {u w : Int} : isFr (-u) (-w) ↔ isFr u w := by
  show (ite (0 < -w) _ _) ↔ (ite (0 < w) _ _)
  by_cases q : 0 < w
  · rw [if_neg (by omega), if_pos q]; omega
  · by_cases r : w = 0
    · rw [if_neg (by omega), if_neg q]; omega
    · rw [if_pos (by omega), if_neg q]; omega
theorem cb_cub {x y z v : Int} (bx : -1200 ≤ x ∧ x ≤ 1200) (b_y : -7200 ≤ y ∧ y ≤ 7200) (bz : -14400 ≤ z ∧ z ≤ 14400) (bv : -9600 ≤ v ∧ v ≤ 9600) (v0 : ¬ v = 0) : cubP v z y x ↔ cbM x y z v := by
  have a1 := mu_b (a := 18 * v) (b := z) (M := 172800) (by omega) bz
  have a2 := mu_b (a := 18 * v * z) (b := y) (M := 2488320000) (by omega) b_y
  have a3 := mu_b (a := 18 * v * z * y) (b := x) (M := 17915904000000) (by omega) bx
  have c1 := mu_b (a := 4 * z) (b := z) (M := 57600) (by omega) bz
  have c2 := mu_b (a := 4 * z * z) (b := z) (M := 829440000) (by omega) bz
  have c3 := mu_b (a := 4 * z * z * z) (b := x) (M := 11943936000000) (by omega) bx
  have d1 := mu_b (a := z) (b := z) bz bz
  have d2 := mu_b (a := z * z) (b := y) (M := 207360000) (by omega) b_y
  have d3 := mu_b (a := z * z * y) (b := y) (M := 1492992000000) (by omega) b_y
  have e1 := mu_b (a := 4 * v) (b := y) (M := 38400) (by omega) b_y
  have e2 := mu_b (a := 4 * v * y) (b := y) (M := 276480000) (by omega) b_y
  have e3 := mu_b (a := 4 * v * y * y) (b := y) (M := 1990656000000) (by omega) b_y
  have f1 := mu_b (a := 27 * v) (b := v) (M := 259200) (by omega) bv
  have f2 := mu_b (a := 27 * v * v) (b := x) (M := 2488320000) (by omega) bx
  have f3 := mu_b (a := 27 * v * v * x) (b := x) (M := 2985984000000) (by omega) bx
  have g1 := mu_b (a := 3 * v) (b := y) (M := 28800) (by omega) b_y
  have g2 := mu_b (a := 9 * v) (b := x) (M := 86400) (by omega) bx
  have g3 := mu_b (a := z) (b := y) bz b_y
  have i1 : 3 * (18 * v * z * y * x - 4 * z * z * z * x + z * z * y * y - 4 * v * y * y * y - 27 * v * v * x * x) = 4 * (z * z - 3 * v * y) * (y * y - 3 * z * x) - (9 * x * v - y * z) * (9 * x * v - y * z) := by grind
  have i2 : cbX y z v (6 * y * v - 2 * z * z) (9 * x * v - y * z) = -9 * v * (18 * v * z * y * x - 4 * z * z * z * x + z * z * y * y - 4 * v * y * y * y - 27 * v * v * x * x) := by unfold cbX; grind
  have i3 : 9 * v * x - z * y = 9 * x * v - y * z := by grind
  have i4 : 6 * y * v - 2 * z * z = -(2 * (z * z - 3 * v * y)) := by grind
  show (_ = 0 ∧ ite _ _ _) ↔ ite _ _ _
  rw [w64_id (x := 18 * v * z * y * x - 4 * z * z * z * x + z * z * y * y - 4 * v * y * y * y - 27 * v * v * x * x) (by omega) (by omega), w64_id (x := z * z - 3 * v * y) (by omega) (by omega), w64_id (x := -z) (by omega) (by omega), w64_id (x := 3 * v) (by omega) (by omega), w64_id (x := 9 * v * x - z * y) (by omega) (by omega), w64_id (x := 2 * (z * z - 3 * v * y)) (by omega) (by omega), i2, i3]
  generalize 18 * v * z * y * x - 4 * z * z * z * x + z * z * y * y - 4 * v * y * y * y - 27 * v * v * x * x = D at i1 ⊢
  rw [i4]
  generalize z * z - 3 * v * y = S at i1 ⊢
  generalize 9 * x * v - y * z = B at i1 ⊢
  by_cases s0 : S = 0
  · rw [if_pos s0, if_pos (by omega)]
    have hd : D = 0 ↔ B = 0 := by
      rw [s0, Int.mul_zero, Int.zero_mul] at i1
      constructor
      · intro q
        have : B * B = 0 := by omega
        rcases Int.mul_eq_zero.mp this with h | h <;> exact h
      · intro q; rw [q, Int.mul_zero] at i1; omega
    rw [hd]
  · rw [if_neg s0, if_neg (by omega)]
    have hd : -9 * v * D = 0 ↔ D = 0 := by
      constructor
      · intro q
        rcases Int.mul_eq_zero.mp q with h | h
        · omega
        · exact h
      · intro q; rw [q, Int.mul_zero]
    have hf : isFr (-B) (-(2 * S)) ↔ isFr B (2 * S) := isFr_neg
    rw [hd, hf]
abbrev sqM (x y z : Int) : Prop := ¬ z = 0 ∧ y * y = 4 * x * z ∧ isFr (-y) (2 * z)
abbrev twM (g : Int → Int) (n : Int) : Prop := if n = 1 then False else if n = 2 then sqM (g 0) (2 * (g 1 - g 0)) (g 0 - 2 * g 1 + g 2) else if g 3 - 3 * g 2 + 3 * g 1 - g 0 = 0 then sqM (g 0) (3 * (g 1 - g 0)) (3 * (g 0 - 2 * g 1 + g 2)) else cbM (g 0) (3 * (g 1 - g 0)) (3 * (g 0 - 2 * g 1 + g 2)) (g 3 - 3 * g 2 + 3 * g 1 - g 0)
theorem sq_dbl {x y z : Int} (bx : -1200 ≤ x ∧ x ≤ 1200) (b_y : -7200 ≤ y ∧ y ≤ 7200) (bz : -14400 ≤ z ∧ z ≤ 14400) : (w64 z ≠ 0 ∧ w64 (y * y) = w64 (4 * z * x) ∧ isFr (w64 (-y)) (w64 (2 * z))) ↔ sqM x y z := by
  have a1 := mu_b (a := y) (b := y) b_y b_y
  have a2 := mu_b (a := 4 * z) (b := x) (M := 57600) (by omega) bx
  rw [w64_id (x := z) (by omega) (by omega), w64_id (x := y * y) (by omega) (by omega), w64_id (x := 4 * z * x) (by omega) (by omega), w64_id (x := -y) (by omega) (by omega), w64_id (x := 2 * z) (by omega) (by omega), show 4 * z * x = 4 * x * z by grind]
theorem tw_dbl {g : Int → Int} {n : Int} (n1 : 1 ≤ n) (n3 : n ≤ 3) (hb : ∀ k, 0 ≤ k → k ≤ n → -1200 ≤ g k ∧ g k ≤ 1200) : twM g n ↔ dblP g n := by
  have b0 := hb 0 (by omega) (by omega)
  have b1 := hb 1 (by omega) n1
  rcases (show n = 1 ∨ n = 2 ∨ n = 3 by omega) with rfl | rfl | rfl
  · have e3 : powL g 1 3 = 0 := rfl
    have e2 : powL g 1 2 = 0 := rfl
    show ite _ _ _ ↔ ite _ _ _
    rw [if_pos rfl, e3, w64_0, if_neg (fun q : ¬ _ => q rfl), e2, w64_0]
    exact ⟨False.elim, fun q => q.1 rfl⟩
  · have b2 := hb 2 (by omega) (by omega)
    have e3 : powL g 2 3 = 0 := rfl
    have e2 : powL g 2 2 = 1 * (g 2 - 2 * g 1 + g 0) := rfl
    have e1 : powL g 2 1 = 2 * (g 1 - g 0) := rfl
    have e0 : powL g 2 0 = g 0 := rfl
    show ite _ _ _ ↔ ite _ _ _
    rw [if_neg (by decide), if_pos rfl, e3, w64_0, if_neg (fun q : ¬ _ => q rfl), e2, e1, e0, show 1 * (g 2 - 2 * g 1 + g 0) = g 0 - 2 * g 1 + g 2 by omega]
    exact (sq_dbl b0 (by omega) (by omega)).symm
  · have b2 := hb 2 (by omega) (by omega)
    have b3 := hb 3 (by omega) (by omega)
    have e3 : powL g 3 3 = g 3 - 3 * g 2 + 3 * g 1 - g 0 := rfl
    have e2 : powL g 3 2 = 3 * (g 2 - 2 * g 1 + g 0) := rfl
    have e1 : powL g 3 1 = 3 * (g 1 - g 0) := rfl
    have e0 : powL g 3 0 = g 0 := rfl
    show ite _ _ _ ↔ ite _ _ _
    rw [if_neg (by decide), if_neg (by decide), e3, w64_id (by omega) (by omega), e2, e1, e0, show 3 * (g 2 - 2 * g 1 + g 0) = 3 * (g 0 - 2 * g 1 + g 2) by omega]
    by_cases q : g 3 - 3 * g 2 + 3 * g 1 - g 0 = 0
    · rw [if_pos q, if_neg (fun r : ¬ _ => r q)]
      exact (sq_dbl b0 (by omega) (by omega)).symm
    · rw [if_neg q, if_pos q]
      exact (cb_cub b0 (by omega) (by omega) (by omega) q).symm
/-- lines with small slopes -/
def lnOK (f : Int → Int) : Prop := ∀ l, 0 ≤ l → l < f 1 → (-5 ≤ f (122 + l * 3 + 0) ∧ f (122 + l * 3 + 0) ≤ 5) ∧ -5 ≤ f (122 + l * 3 + 1) ∧ f (122 + l * 3 + 1) ≤ 5
theorem cfR_s {f : Int → Int} (h : fgOK f) (hl : lnOK f) {c l k : Int} (c0 : 0 ≤ c) (c1 : c < f 0) (l0 : 0 ≤ l) (l1 : l < f 1) (k0 : 0 ≤ k) (k1 : k < f (18 + c)) : -1200 ≤ cfR f c l k ∧ cfR f c l k ≤ 1200 := by
  obtain ⟨a, b, d⟩ := (h.2.2.1 c c0 c1).2 k k0 k1
  unfold pxF at a b d
  have s := hl l l0 l1
  have t := h.2.2.2 l 2 l0 l1 (by decide) (by decide)
  have m1 := mu_b (a := f (122 + l * 3 + 0)) (b := f (26 + (c * 4 + k) * 3 + 0)) (M := 5) (N := 20) s.1 (by omega)
  have m2 := mu_b (a := f (122 + l * 3 + 1)) (b := f (26 + (c * 4 + k) * 3 + 1)) (M := 5) (N := 20) s.2 (by omega)
  have m3 := mu_b (a := f (26 + (c * 4 + k) * 3 + 2)) (b := f (122 + l * 3 + 0) * f (26 + (c * 4 + k) * 3 + 0) + f (122 + l * 3 + 1) * f (26 + (c * 4 + k) * 3 + 1) + f (122 + l * 3 + 2)) (M := 3) (N := 400) (by omega) (by omega)
  unfold cfR
  omega
theorem cfX_s {f : Int → Int} (h : fgOK f) (hl : lnOK f) {c l k : Int} (c0 : 0 ≤ c) (c1 : c < f 0) (l0 : 0 ≤ l) (l1 : l < f 1) (k0 : 0 ≤ k) (k1 : k < f (18 + c)) : -1200 ≤ cfL f c l k ∧ cfL f c l k ≤ 1200 := by
  have b := cfR_s h hl c0 c1 l0 l1 k0 k1
  have e : cfL f c l k = w32 (cfR f c l k) := rfl
  rw [e, w32_id (by omega) (by omega)]
  exact b
theorem cb_red {x y z v a b g : Int} (hA : ¬ 6 * y * v - 2 * z * z = 0) (g0 : 0 < g) (eA : 6 * y * v - 2 * z * z = a * g) (eB : 9 * x * v - y * z = b * g) : cbM x y z v ↔ cbX y z v a b = 0 ∧ isFr (-b) a := by
  show ite _ _ _ ↔ _
  rw [if_neg hA, eA, eB, cbX_mul g0, ← Int.neg_mul, isFr_mul g0]
theorem cbX_y0 {y z v a b : Int} (hy : y = 0) (hb : ¬ b = 0) : cbX y z v a b = 0 ↔ 3 * v * b = 2 * z * a := by
  have e : cbX y z v a b = b * (3 * v * b - 2 * z * a) := by unfold cbX; rw [hy]; grind
  rw [e]
  constructor
  · intro q
    rcases Int.mul_eq_zero.mp q with h | h
    · exact absurd h hb
    · omega
  · intro q; rw [q, Int.sub_self, Int.mul_zero]
theorem cbX_00 {y z v a b : Int} (hy : y = 0) (hb : b = 0) : cbX y z v a b = 0 := by
  unfold cbX; rw [hy, hb, Int.mul_zero, Int.mul_zero, Int.zero_mul, Int.zero_mul]; rfl
