/-! shifts, masks and signs as arithmetic -/
theorem zk32 : ∀ n : Fin 32, ((Int32.ofInt (n.val : Int) &&& 31).toBitVec.smod 32).toNat = n.val := by decide +kernel
theorem x_shr_eq {a k : Int} (h0 : 0 ≤ k) (h1 : k < 32) : x_shr a k = w32 a / 2 ^ k.toNat := by
  obtain ⟨n, rfl⟩ : ∃ n : Nat, k = n := ⟨k.toNat, by omega⟩
  unfold x_shr w32
  rw [pk_shr _ _ n (zk32 ⟨n, by omega⟩), Int.shiftRight_eq_div_pow]
  rfl
theorem zl_nat {a : Int} (h0 : 0 ≤ a) (h1 : a < 4294967296) : (Int32.ofInt a).toBitVec.toNat = a.toNat := by
  obtain ⟨n, rfl⟩ : ∃ n : Nat, a = n := ⟨a.toNat, by omega⟩
  show (BitVec.ofInt 32 (n : Int)).toNat = _
  rw [BitVec.toNat_ofInt]
  omega
theorem zl_int {x : Int32} {n : Nat} (h : x.toBitVec.toNat = n) (h1 : n < 2147483648) : x.toInt = n := by
  show x.toBitVec.toInt = _
  rw [BitVec.toInt_eq_toNat_of_lt (by omega), h]
theorem x_shl_eq {a k : Int} (h0 : 0 ≤ k) (h1 : k < 32) (ha : 0 ≤ a) (h2 : a * 2 ^ k.toNat < 2147483648) : x_shl a k = a * 2 ^ k.toNat := by
  obtain ⟨n, rfl⟩ : ∃ n : Nat, k = n := ⟨k.toNat, by omega⟩
  obtain ⟨b, rfl⟩ : ∃ b : Nat, a = b := ⟨a.toNat, by omega⟩
  have hp : (((b * 2 ^ n : Nat) : Int)) = (b : Int) * 2 ^ n := by
    rw [Int.natCast_mul, Int.natCast_pow]; rfl
  have e1 : ((n : Int)).toNat = n := by omega
  rw [e1] at h2 ⊢
  have h3 : b * 2 ^ n < 2147483648 := by omega
  have hb : b ≤ b * 2 ^ n := Nat.le_mul_of_pos_right _ (Nat.two_pow_pos n)
  unfold x_shl
  rw [← hp]
  refine zl_int ?_ h3
  rw [pk_shl _ _ n (zk32 ⟨n, by omega⟩), zl_nat (by omega) (by omega)]
  show b * 2 ^ n % 2 ^ 32 = _
  rw [Nat.mod_eq_of_lt (by omega)]
theorem zs_and {x y : Int32} : (x &&& y).toBitVec.toNat = x.toBitVec.toNat &&& y.toBitVec.toNat := by
  show (x.toBitVec &&& y.toBitVec).toNat = _
  rw [BitVec.toNat_and]
theorem zn_w {a : Int} : ((Int32.ofInt a).toBitVec.toNat : Int) = a % 4294967296 := by
  show ((BitVec.ofInt 32 a).toNat : Int) = _
  rw [BitVec.toNat_ofInt]
  omega
theorem x_and_mask {a : Int} (m : Nat) (h : m < 31) : x_and a ((2 ^ m - 1 : Nat) : Int) = a % (2 ^ m : Nat) := by
  have hp : 2 ^ m ≤ 2 ^ 30 := Nat.pow_le_pow_right (by decide) (by omega)
  have hp0 : 0 < 2 ^ m := Nat.two_pow_pos m
  unfold x_and
  have e : ((Int32.ofInt a &&& Int32.ofInt ((2 ^ m - 1 : Nat) : Int))).toBitVec.toNat = (a % (2 ^ m : Nat)).toNat := by
    rw [zs_and, zl_nat (a := ((2 ^ m - 1 : Nat) : Int)) (by omega) (by omega), Int.toNat_natCast, Nat.and_two_pow_sub_one_eq_mod]
    have h1 := zn_w (a := a)
    have h2 : (((Int32.ofInt a).toBitVec.toNat % 2 ^ m : Nat) : Int) = a % (2 ^ m : Nat) := by
      rw [Int.natCast_emod, h1]
      refine Int.emod_emod_of_dvd _ ?_
      have h3 : (4294967296 : Int) = ((2 ^ m * 2 ^ (32 - m) : Nat) : Int) := by
        rw [← Nat.pow_add, show m + (32 - m) = 32 by omega]; rfl
      rw [h3, Int.natCast_mul]
      exact Int.dvd_mul_right _ _
    omega
  have h4 := Int.emod_nonneg a (b := ((2 ^ m : Nat) : Int)) (by omega)
  have h5 := Int.emod_lt_of_pos a (b := ((2 ^ m : Nat) : Int)) (by omega)
  rw [zl_int e (by omega)]
  omega
theorem x_and1 {a : Int} : x_and a 1 = a % 2 := x_and_mask 1 (by omega)
theorem x_and3 {a : Int} : x_and a 3 = a % 4 := x_and_mask 2 (by omega)
theorem x_and63 {a : Int} : x_and a 63 = a % 64 := x_and_mask 6 (by omega)
theorem x_and255 {a : Int} : x_and a 255 = a % 256 := x_and_mask 8 (by omega)
theorem zbm8 (x : Int) : Int.bmod x (2 ^ 8) = (x + 128) % 256 - 128 := by
  show (if x % 256 < (256 + 1) / 2 then x % 256 else x % 256 - 256) = _
  split <;> omega
theorem zbm32 (x : Int) : Int.bmod x 4294967296 = (x + 2147483648) % 4294967296 - 2147483648 := by
  show (if x % 4294967296 < (4294967296 + 1) / 2 then x % 4294967296 else x % 4294967296 - 4294967296) = _
  split <;> omega
theorem zw_eq {a : Int} : w32 a = (a + 2147483648) % 4294967296 - 2147483648 := by
  have h : w32 a = Int.bmod a Int32.size := Int32.toInt_ofInt
  rw [h]
  exact zbm32 a
theorem zb_mod {x : Int32} : (x.toInt8.toInt32).toInt = (x.toInt + 128) % 256 - 128 := by
  rw [Int8.toInt_toInt32, Int32.toInt_toInt8]
  exact zbm8 _
theorem x_i2b_eq {a : Int} : x_i2b a = (a + 128) % 256 - 128 := by
  unfold x_i2b
  rw [zb_mod]
  have h : (Int32.ofInt a).toInt = (a + 2147483648) % 4294967296 - 2147483648 := zw_eq
  rw [h]
  omega
/-- powers of two, small -/
def p2 (k : Int) : Int := 2 ^ k.toNat
theorem p2_0 : p2 0 = 1 := rfl
theorem p2_s {k : Int} (h : 0 ≤ k) : p2 (k + 1) = 2 * p2 k := by
  unfold p2
  rw [show (k + 1).toNat = k.toNat + 1 by omega, Int.pow_succ, Int.mul_comm]
theorem p2_pos {k : Int} : 0 < p2 k := Int.pow_pos (by decide)
theorem p2_le {j k : Int} (h : j ≤ k) : p2 j ≤ p2 k := by
  obtain ⟨d, hd⟩ : ∃ d : Nat, k.toNat = j.toNat + d := ⟨k.toNat - j.toNat, by omega⟩
  unfold p2
  rw [hd, Int.pow_add]
  have h1 : (0 : Int) < 2 ^ j.toNat := Int.pow_pos (by decide)
  have h2 : (0 : Int) < 2 ^ d := Int.pow_pos (by decide)
  have h3 : (2 : Int) ^ j.toNat * 1 ≤ 2 ^ j.toNat * 2 ^ d := Int.mul_le_mul_of_nonneg_left (by omega) (by omega)
  omega
theorem p2_add {j k : Int} (h : 0 ≤ j) (h2 : 0 ≤ k) : p2 (j + k) = p2 j * p2 k := by
  unfold p2
  rw [show (j + k).toNat = j.toNat + k.toNat by omega, Int.pow_add]
theorem p2_6 : p2 6 = 64 := rfl
theorem p2_12 : p2 12 = 4096 := rfl
theorem x_shl1 {k : Int} (h0 : 0 ≤ k) (h1 : k ≤ 12) : x_shl 1 k = p2 k := by
  have h := p2_le h1
  rw [p2_12] at h
  unfold p2 at h
  rw [x_shl_eq h0 (by omega) (by omega) (by omega)]
  unfold p2; omega
theorem x_shlp {a k : Int} (h0 : 0 ≤ k) (h1 : k < 32) (ha : 0 ≤ a) (h2 : a * p2 k < 2147483648) : x_shl a k = a * p2 k := x_shl_eq h0 h1 ha h2
theorem x_shrp {a k : Int} (h0 : 0 ≤ k) (h1 : k < 32) (ha : -2147483648 ≤ a) (hb : a < 2147483648) : x_shr a k = a / p2 k := by
  rw [x_shr_eq h0 h1, w32_id ha hb]; rfl
/-- signs -/
def sg (x : Int) : Int := if 0 < x then 1 else if x < 0 then -1 else 0
theorem sg_p {x : Int} (h : 0 < x) : sg x = 1 := if_pos h
theorem sg_n {x : Int} (h : x < 0) : sg x = -1 := by unfold sg; rw [if_neg (by omega), if_pos h]
theorem sg_0 : sg 0 = 0 := rfl
theorem sg_cases (x : Int) : (0 < x ∧ sg x = 1) ∨ (x < 0 ∧ sg x = -1) ∨ (x = 0 ∧ sg x = 0) := by
  unfold sg
  split
  · exact Or.inl ⟨by assumption, rfl⟩
  · split
    · exact Or.inr (Or.inl ⟨by assumption, rfl⟩)
    · exact Or.inr (Or.inr ⟨by omega, rfl⟩)
theorem sg_eq0 {x : Int} : sg x = 0 ↔ x = 0 := by rcases sg_cases x with h | h | h <;> omega
theorem y_cmp_eq {a b : Int} : y_cmp a b = sg (w64 a - w64 b) := by
  unfold y_cmp sg
  split
  · rw [if_pos (by omega)]
  · split
    · rw [if_neg (by omega), if_neg (by omega)]
    · rw [if_neg (by omega), if_pos (by omega)]
/-- a stretch of a row written anew: g (i) at s + i, for i from 0 to n - 1 -/
def setR (A : AA) (a : Nat) (s n : Int) (g : Int → Int) : AA := fun b i => if b = a ∧ s ≤ i ∧ i < s + n then g (i - s) else A b i
theorem setR_in {A : AA} {a : Nat} {s n : Int} {g : Int → Int} {i : Int} (h : s ≤ i) (h2 : i < s + n) : setR A a s n g a i = g (i - s) := if_pos ⟨rfl, h, h2⟩
theorem setR_at {A : AA} {a : Nat} {s n : Int} {g : Int → Int} {k : Int} (h : 0 ≤ k) (h2 : k < n) : setR A a s n g a (s + k) = g k := by
  rw [setR_in (by omega) (by omega)]; congr 1; omega
theorem setR_o {A : AA} {a b : Nat} {s n : Int} {g : Int → Int} {i : Int} (h : b ≠ a) : setR A a s n g b i = A b i := if_neg (fun q => h q.1)
theorem setR_lt {A : AA} {a b : Nat} {s n : Int} {g : Int → Int} {i : Int} (h : i < s) : setR A a s n g b i = A b i := if_neg (fun q => by omega)
theorem setR_ge {A : AA} {a b : Nat} {s n : Int} {g : Int → Int} {i : Int} (h : s + n ≤ i) : setR A a s n g b i = A b i := if_neg (fun q => by omega)
theorem setR_r {A : AA} {a b : Nat} {s n : Int} {g : Int → Int} (h : b ≠ a) : setR A a s n g b = A b := funext fun _ => setR_o h
theorem setR_0 {A : AA} {a : Nat} {s : Int} {g : Int → Int} : setR A a s 0 g = A := funext fun b => funext fun i => if_neg (fun q => by omega)
theorem setR_put {A : AA} {a : Nat} {s n k v : Int} {g g' : Int → Int} (hk : 0 ≤ k) (h : k < n) (hg : ∀ i, 0 ≤ i → i < n → g' i = if i = k then v else g i) : upA (setR A a s n g) a (s + k) v = setR A a s n g' := by
  funext b i
  unfold upA setR
  by_cases hb : b = a ∧ s ≤ i ∧ i < s + n
  · simp only [if_pos hb]
    rw [hg _ (by omega) (by omega)]
    by_cases hi : i = s + k
    · rw [if_pos ⟨hb.1, hi⟩, if_pos (show i - s = k by omega)]
    · rw [if_neg (fun q => hi q.2), if_neg (show ¬ i - s = k by omega)]
  · rw [if_neg hb, if_neg hb, if_neg (by omega)]
theorem setR_push {A : AA} {a : Nat} {s n v : Int} {g g' : Int → Int} (h : 0 ≤ n) (hg : ∀ i, 0 ≤ i → i < n → g' i = g i) (hv : g' n = v) : upA (setR A a s n g) a (s + n) v = setR A a s (n + 1) g' := by
  funext b i
  unfold upA setR
  by_cases hi : b = a ∧ i = s + n
  · rw [if_pos hi, if_pos (by omega), ← hv, hi.2]; congr 1; omega
  · rw [if_neg hi]
    by_cases hb : b = a ∧ s ≤ i ∧ i < s + n
    · rw [if_pos hb, if_pos (by omega), hg _ (by omega) (by omega)]
    · rw [if_neg hb, if_neg (by omega)]
theorem setR_c {A : AA} {a : Nat} {s n : Int} {g g' : Int → Int} (hg : ∀ i, 0 ≤ i → i < n → g i = g' i) : setR A a s n g = setR A a s n g' := by
  funext b i
  unfold setR
  by_cases hb : b = a ∧ s ≤ i ∧ i < s + n
  · rw [if_pos hb, if_pos hb, hg _ (by omega) (by omega)]
  · rw [if_neg hb, if_neg hb]
theorem w32_ofI (b : Int) : Int32.ofInt (w32 b) = Int32.ofInt b := Int32.ofInt_toInt _
theorem x_shl_w {a b : Int} : x_shl a b = x_shl a (w32 b) := by unfold x_shl; rw [w32_ofI]
theorem xs_w {d : Int} (h : 0 ≤ w32 d) (h2 : w32 d ≤ 12) : x_shl 1 d = p2 (w32 d) := by rw [x_shl_w, x_shl1 h h2]
theorem p2_12' {k : Int} (h : k ≤ 12) : p2 k ≤ 4096 := p2_le h
theorem sg_w {x : Int} : w32 (sg x) = sg x := by rcases sg_cases x with ⟨-, h⟩ | ⟨-, h⟩ | ⟨-, h⟩ <;> rw [h] <;> rfl
theorem y_shl1 {k : Int} (h0 : 0 ≤ k) (h1 : k ≤ 3) : y_shl 1 k = p2 k := by
  have : k = 0 ∨ k = 1 ∨ k = 2 ∨ k = 3 := by omega
  rcases this with rfl | rfl | rfl | rfl <;> rfl
/-! halving: the sums of the first and of the second half -/
def hS (x : Int → Int) : Nat → Int → Int
  | 0, i => x i
  | s + 1, i => if (s : Int) + 1 ≤ i then hS x s i + hS x s (i - 1) else hS x s i
def hR (x : Int → Int) (n : Int) : Nat → Int → Int
  | 0, i => x i
  | s + 1, i => if i ≤ n - ((s : Int) + 1) then hR x n s i + hR x n s (i + 1) else hR x n s i
def hP (x : Int → Int) (n z : Int) (s : Nat) : Int → Int := if z = 0 then hS x s else hR x n s
def hv (x : Int → Int) (n z : Int) : Int → Int := fun k => if z = 0 then hS x n.toNat k * p2 (n - k) else hR x n n.toNat k * p2 k
theorem hR_step {x : Int → Int} {n i s : Int} (h : 1 ≤ s) (h2 : i ≤ n - s) : hR x n (Int.toNat s) i = hR x n (Int.toNat (s - 1)) i + hR x n (Int.toNat (s - 1)) (i + 1) := by
  obtain ⟨m, rfl⟩ : ∃ m : Nat, s = m + 1 := ⟨(s - 1).toNat, by omega⟩
  have e1 : Int.toNat ((m : Int) + 1) = m + 1 := by omega
  have e2 : Int.toNat ((m : Int) + 1 - 1) = m := by omega
  rw [e1, e2]; exact if_pos (by omega)
theorem hR_stay {x : Int → Int} {n i s : Int} (h : 1 ≤ s) (h2 : n - s < i) : hR x n (Int.toNat s) i = hR x n (Int.toNat (s - 1)) i := by
  obtain ⟨m, rfl⟩ : ∃ m : Nat, s = m + 1 := ⟨(s - 1).toNat, by omega⟩
  have e1 : Int.toNat ((m : Int) + 1) = m + 1 := by omega
  have e2 : Int.toNat ((m : Int) + 1 - 1) = m := by omega
  rw [e1, e2]; exact if_neg (by omega)
theorem hS_step {x : Int → Int} {i s : Int} (h : 1 ≤ s) (h2 : s ≤ i) : hS x (Int.toNat s) i = hS x (Int.toNat (s - 1)) i + hS x (Int.toNat (s - 1)) (i - 1) := by
  obtain ⟨m, rfl⟩ : ∃ m : Nat, s = m + 1 := ⟨(s - 1).toNat, by omega⟩
  have e1 : Int.toNat ((m : Int) + 1) = m + 1 := by omega
  have e2 : Int.toNat ((m : Int) + 1 - 1) = m := by omega
  rw [e1, e2]; exact if_pos (by omega)
theorem hS_stay {x : Int → Int} {i s : Int} (h : 1 ≤ s) (h2 : i < s) : hS x (Int.toNat s) i = hS x (Int.toNat (s - 1)) i := by
  obtain ⟨m, rfl⟩ : ∃ m : Nat, s = m + 1 := ⟨(s - 1).toNat, by omega⟩
  have e1 : Int.toNat ((m : Int) + 1) = m + 1 := by omega
  have e2 : Int.toNat ((m : Int) + 1 - 1) = m := by omega
  rw [e1, e2]; exact if_neg (by omega)
