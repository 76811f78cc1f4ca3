/-! the hull of the model -/
def faF (f : Int → Int) (c a b : Int) : Int := (pxF f c b 0 - pxF f c a 0) * (pxF f c b 0 - pxF f c a 0) + (pxF f c b 1 - pxF f c a 1) * (pxF f c b 1 - pxF f c a 1)
/-- of two numbers each, in line: the greater sum has the greater sum of squares -/
theorem co_lt {a b c d : Int} (ha : 0 ≤ a) (hb : 0 ≤ b) (hc : 0 ≤ c) (hd : 0 ≤ d) (h : a * d = b * c) (hl : c + d < a + b) : c * c + d * d < a * a + b * b := by
  have e1 : (a + b) * c = a * (c + d) := by grind
  have e2 : (a + b) * d = b * (c + d) := by grind
  have ac : c ≤ a := by
    by_cases z : c ≤ a
    · exact z
    · exfalso
      have m1 : a * (c + d) ≤ c * (c + d) := Int.mul_le_mul_of_nonneg_right (by omega) (by omega)
      have m2 : (c + d + 1) * c ≤ (a + b) * c := Int.mul_le_mul_of_nonneg_right (by omega) hc
      have e3 : (c + d + 1) * c = c * (c + d) + c := by rw [Int.add_mul, Int.mul_comm (c + d) c]; omega
      omega
  have bd : d ≤ b := by
    by_cases z : d ≤ b
    · exact z
    · exfalso
      have m1 : b * (c + d) ≤ d * (c + d) := Int.mul_le_mul_of_nonneg_right (by omega) (by omega)
      have m2 : (c + d + 1) * d ≤ (a + b) * d := Int.mul_le_mul_of_nonneg_right (by omega) hd
      have e3 : (c + d + 1) * d = d * (c + d) + d := by rw [Int.add_mul, Int.mul_comm (c + d) d]; omega
      omega
  have s1 : c * c ≤ a * a := Int.mul_le_mul ac ac hc ha
  have s2 : d * d ≤ b * b := Int.mul_le_mul bd bd hd hb
  by_cases z : c < a
  · have m1 : c * c ≤ c * a := Int.mul_le_mul_of_nonneg_left ac hc
    have m2 : (c + 1) * a ≤ a * a := Int.mul_le_mul_of_nonneg_right (by omega) ha
    have e3 : (c + 1) * a = c * a + a := by rw [Int.add_mul]; omega
    omega
  · have zb : d < b := by omega
    have m1 : d * d ≤ d * b := Int.mul_le_mul_of_nonneg_left bd hd
    have m2 : (d + 1) * b ≤ b * b := Int.mul_le_mul_of_nonneg_right (by omega) hb
    have e3 : (d + 1) * b = d * b + b := by rw [Int.add_mul]; omega
    omega
theorem co_eq {a b c d : Int} (ha : 0 ≤ a) (hb : 0 ≤ b) (hc : 0 ≤ c) (hd : 0 ≤ d) (h : a * d = b * c) (hl : c + d = a + b) : c * c + d * d = a * a + b * b := by
  have e1 : (a + b) * c = a * (c + d) := by rw [Int.add_mul, Int.mul_add, ← h]
  rw [hl] at e1
  by_cases z : a + b = 0
  · have : a = 0 := by omega
    have : b = 0 := by omega
    have : c = 0 := by omega
    have : d = 0 := by omega
    subst a b c d; rfl
  · have : c = a := by
      rw [Int.mul_comm a] at e1
      exact Int.eq_of_mul_eq_mul_left z e1
    have : d = b := by omega
    subst c d; rfl
theorem co_iff {a b c d : Int} (ha : 0 ≤ a) (hb : 0 ≤ b) (hc : 0 ≤ c) (hd : 0 ≤ d) (h : a * d = b * c) : c * c + d * d < a * a + b * b ↔ c + d < a + b := by
  constructor
  · intro z
    by_cases y : c + d < a + b
    · exact y
    · exfalso
      by_cases x : c + d = a + b
      · have := co_eq ha hb hc hd h x; omega
      · have := co_lt hc hd ha hb (by rw [Int.mul_comm c b, Int.mul_comm d a]; exact h.symm) (by omega); omega
  · exact co_lt ha hb hc hd h
theorem x_abs_n {u : Int} (h : -100 ≤ u ∧ u ≤ 100) : x_abs u = (u.natAbs : Int) := by
  unfold x_abs
  rw [w32_id (by omega) (by omega)]
  split <;> omega
theorem tn_w {f : Int → Int} {c a b k : Int} (ha : ∀ w, 0 ≤ w → w ≤ 1 → 0 ≤ pxF f c a w ∧ pxF f c a w ≤ 20) (hb : ∀ w, 0 ≤ w → w ≤ 1 → 0 ≤ pxF f c b w ∧ pxF f c b w ≤ 20) (hk : ∀ w, 0 ≤ w → w ≤ 1 → 0 ≤ pxF f c k w ∧ pxF f c k w ≤ 20) : w32 (tnF f c a b k) = tnF f c a b k := by
  have a0 := ha 0 (by decide) (by decide); have a1 := ha 1 (by decide) (by decide)
  have b0 := hb 0 (by decide) (by decide); have b1 := hb 1 (by decide) (by decide)
  have k0 := hk 0 (by decide) (by decide); have k1 := hk 1 (by decide) (by decide)
  unfold tnF
  generalize pxF f c a 0 = ax at *; generalize pxF f c a 1 = ay at *
  generalize pxF f c b 0 = bx at *; generalize pxF f c b 1 = bY at *
  generalize pxF f c k 0 = kx at *; generalize pxF f c k 1 = ky at *
  have m : ∀ p q : Int, -20 ≤ p → p ≤ 20 → -20 ≤ q → q ≤ 20 → -400 ≤ p * q ∧ p * q ≤ 400 := fun p q p0 p1 q0 q1 => by
    have e : (p * q).natAbs ≤ 20 * 20 := by rw [Int.natAbs_mul]; exact Nat.mul_le_mul (by omega) (by omega)
    omega
  have m1 := m (bx - ax) (ky - ay) (by omega) (by omega) (by omega) (by omega)
  have m2 := m (bY - ay) (kx - ax) (by omega) (by omega) (by omega) (by omega)
  exact w32_id (by omega) (by omega)
theorem far_iff {f : Int → Int} {c a b k : Int} (ha : ∀ w, 0 ≤ w → w ≤ 1 → 0 ≤ pxF f c a w ∧ pxF f c a w ≤ 20) (hb : ∀ w, 0 ≤ w → w ≤ 1 → 0 ≤ pxF f c b w ∧ pxF f c b w ≤ 20) (hk : ∀ w, 0 ≤ w → w ≤ 1 → 0 ≤ pxF f c k w ∧ pxF f c k w ≤ 20) (t : w32 (tnF f c a b k) = 0) : w32 (dsF f c a b) < w32 (dsF f c a k) ↔ w32 (faF f c a b) < w32 (faF f c a k) := by
  rw [tn_w ha hb hk] at t
  have a0 := ha 0 (by decide) (by decide); have a1 := ha 1 (by decide) (by decide)
  have b0 := hb 0 (by decide) (by decide); have b1 := hb 1 (by decide) (by decide)
  have k0 := hk 0 (by decide) (by decide); have k1 := hk 1 (by decide) (by decide)
  unfold tnF at t
  unfold dsF faF
  generalize pxF f c a 0 = ax at *; generalize pxF f c a 1 = ay at *
  generalize pxF f c b 0 = bx at *; generalize pxF f c b 1 = bY at *
  generalize pxF f c k 0 = kx at *; generalize pxF f c k 1 = ky at *
  rw [x_abs_n (u := bx - ax) (by omega), x_abs_n (u := bY - ay) (by omega), x_abs_n (u := kx - ax) (by omega), x_abs_n (u := ky - ay) (by omega)]
  have hx : ((kx - ax).natAbs : Int) * ((bY - ay).natAbs : Int) = ((ky - ay).natAbs : Int) * ((bx - ax).natAbs : Int) := by
    have e : (bx - ax) * (ky - ay) = (bY - ay) * (kx - ax) := by omega
    have e2 := congrArg Int.natAbs e
    rw [Int.natAbs_mul, Int.natAbs_mul] at e2
    rw [Int.mul_comm ((kx - ax).natAbs : Int), Int.mul_comm ((ky - ay).natAbs : Int)]
    exact_mod_cast e2.symm
  have sq : ∀ u : Int, u * u = (u.natAbs : Int) * (u.natAbs : Int) := fun u => (Int.natAbs_mul_self (a := u)).symm.trans (by simp)
  rw [sq (bx - ax), sq (bY - ay), sq (kx - ax), sq (ky - ay)]
  have z := co_iff (a := ((kx - ax).natAbs : Int)) (b := ((ky - ay).natAbs : Int)) (c := ((bx - ax).natAbs : Int)) (d := ((bY - ay).natAbs : Int)) (by omega) (by omega) (by omega) (by omega) hx
  have m : ∀ p : Int, 0 ≤ p → p ≤ 20 → 0 ≤ p * p ∧ p * p ≤ 400 := fun p p0 p1 => ⟨Int.mul_nonneg p0 p0, Int.mul_le_mul p1 p1 p0 (by decide)⟩
  have m1 := m ((kx - ax).natAbs : Int) (by omega) (by omega)
  have m2 := m ((ky - ay).natAbs : Int) (by omega) (by omega)
  have m3 := m ((bx - ax).natAbs : Int) (by omega) (by omega)
  have m4 := m ((bY - ay).natAbs : Int) (by omega) (by omega)
  rw [w32_id (by omega) (by omega), w32_id (by omega) (by omega), w32_id (by omega) (by omega), w32_id (by omega) (by omega)]
  exact z.symm
theorem ds_iff {f : Int → Int} {c a k : Int} (ha : ∀ w, 0 ≤ w → w ≤ 1 → 0 ≤ pxF f c a w ∧ pxF f c a w ≤ 20) (hk : ∀ w, 0 ≤ w → w ≤ 1 → 0 ≤ pxF f c k w ∧ pxF f c k w ≤ 20) : 0 < w32 (dsF f c a k) ↔ ¬ (w32 (pxF f c k 0) = w32 (pxF f c a 0) ∧ w32 (pxF f c k 1) = w32 (pxF f c a 1)) := by
  have a0 := ha 0 (by decide) (by decide); have a1 := ha 1 (by decide) (by decide)
  have k0 := hk 0 (by decide) (by decide); have k1 := hk 1 (by decide) (by decide)
  unfold dsF
  generalize pxF f c a 0 = ax at *; generalize pxF f c a 1 = ay at *
  generalize pxF f c k 0 = kx at *; generalize pxF f c k 1 = ky at *
  rw [x_abs_n (u := kx - ax) (by omega), x_abs_n (u := ky - ay) (by omega), w32_id (by omega) (by omega), w32_id (x := kx) (by omega) (by omega), w32_id (x := ax) (by omega) (by omega), w32_id (x := ky) (by omega) (by omega), w32_id (x := ay) (by omega) (by omega)]
  omega
