/-! the two readers' tokens -/
def byR (T U : Int → Int) (n : Int) : Prop := ∀ i, 0 ≤ i → i < n → U i = T i % 256
theorem sgT_e {T U : Int → Int} {n : Int} (h : byR T U n) : sgT U n = sgT T n := funext fun i => by
  unfold sgT
  by_cases z : 0 ≤ i ∧ i < n
  · rw [if_pos z, if_pos z, h i z.1 z.2]; omega
  · rw [if_neg z, if_neg z]
theorem runB_e {T U : Int → Int} {n : Int} (h : byR T U n) : ∀ (m : Nat) (p : Int), runB U n m p = runB T n m p
  | 0, _ => rfl
  | m + 1, p => by unfold runB; rw [sgT_e h, runB_e h m]
theorem runL_e {T U : Int → Int} {n : Int} (h : byR T U n) : ∀ (m : Nat) (p : Int), runL U n m p = runL T n m p
  | 0, _ => rfl
  | m + 1, p => by unfold runL; rw [sgT_e h, runL_e h m]
theorem runD_e {T U : Int → Int} {n : Int} (h : byR T U n) : ∀ (m : Nat) (p : Int), runD U n m p = runD T n m p
  | 0, _ => rfl
  | m + 1, p => by unfold runD; rw [sgT_e h, runD_e h m]
/-- numbers: equal, or both too great -/
abbrev ivR (a b : Int) : Prop := a = b ∨ (100000 ≤ a ∧ 100000 ≤ b)
theorem iv_R {T U : Int → Int} {n s : Int} (h : byR T U n) : ∀ m : Nat, (∀ k : Nat, k < m → dgP (sgT T n (s + k))) → ivR (ivF T n s m) (ivM U n s m)
  | 0, _ => Or.inl rfl
  | m + 1, hd => by
    have ih := iv_R h m (fun k hk => hd k (by omega))
    have d := hd m (by omega)
    unfold ivF ivM
    rw [sgT_e h]
    generalize ivF T n s m = a at *
    generalize ivM U n s m = b at *
    rcases ih with ih | ih
    · by_cases z : a < 100000
      · rw [if_pos z, if_neg (by omega)]; left; omega
      · rw [if_neg z]
        by_cases y : 100000 < b
        · rw [if_pos y]; exact Or.inl ih
        · rw [if_neg y]; right; omega
    · rw [if_neg (by omega)]
      by_cases y : 100000 < b
      · rw [if_pos y]; right; omega
      · rw [if_neg y]; right; omega
/-- words: a sum of letters -/
theorem zs_or {x y : Int32} : (x ||| y).toBitVec.toNat = x.toBitVec.toNat ||| y.toBitVec.toNat := by
  rw [Int32.toBitVec_or, BitVec.toNat_or]
theorem x_or_add {a b : Int} (j : Nat) (hj : j ≤ 30) (ha : 0 ≤ a) (hd : a % (2 ^ j : Nat) = 0) (hb : 0 ≤ b) (hb2 : b < (2 ^ j : Nat)) (hs : a + b < 2147483648) : x_or a b = a + b := by
  unfold x_or
  have e : ((Int32.ofInt a ||| Int32.ofInt b)).toBitVec.toNat = (a + b).toNat := by
    rw [zs_or, zl_nat ha (by omega), zl_nat hb (by omega)]
    obtain ⟨p, rfl⟩ : ∃ p : Nat, a = p := ⟨a.toNat, by omega⟩
    obtain ⟨q, rfl⟩ : ∃ q : Nat, b = q := ⟨b.toNat, by omega⟩
    have hd2 : p % 2 ^ j = 0 := by
      have : ((p % 2 ^ j : Nat) : Int) = 0 := by rw [Int.natCast_emod]; exact hd
      omega
    have hp : p = 2 ^ j * (p / 2 ^ j) := by
      have := Nat.div_add_mod p (2 ^ j)
      omega
    have hq : q < 2 ^ j := by omega
    rw [show Int.toNat (p : Int) = p by omega, show Int.toNat (q : Int) = q by omega, show Int.toNat ((p : Int) + (q : Int)) = p + q by omega]
    have key := Nat.two_pow_add_eq_or_of_lt hq (p / 2 ^ j)
    rw [← hp] at key
    exact key.symm
  rw [zl_int e (by omega)]
  omega
theorem sh5 {l : Int} (h0 : 0 ≤ l) (h1 : l * 32 < 2147483648) : x_shl l 5 = l * 32 := x_shl_eq (k := 5) (by decide) (by decide) h0 h1
theorem sh25 {l : Int} (h0 : 0 ≤ l) (h1 : l < 32) : x_shl l 25 = l * 33554432 := x_shl_eq (k := 25) (by decide) (by decide) h0 (by show l * 33554432 < _; omega)
theorem sh20 {l : Int} (h0 : 0 ≤ l) (h1 : l < 32) : x_shl l 20 = l * 1048576 := x_shl_eq (k := 20) (by decide) (by decide) h0 (by show l * 1048576 < _; omega)
theorem sh15 {l : Int} (h0 : 0 ≤ l) (h1 : l < 32) : x_shl l 15 = l * 32768 := x_shl_eq (k := 15) (by decide) (by decide) h0 (by show l * 32768 < _; omega)
theorem sh10 {l : Int} (h0 : 0 ≤ l) (h1 : l < 32) : x_shl l 10 = l * 1024 := x_shl_eq (k := 10) (by decide) (by decide) h0 (by show l * 1024 < _; omega)
theorem sh0 {l : Int} (h0 : 0 ≤ l) (h1 : l < 32) : x_shl l 0 = l := by
  have e := x_shl_eq (a := l) (k := 0) (by decide) (by decide) h0 (by show l * 1 < _; omega)
  rw [e]; exact Int.mul_one l
/-- the letter k of a word, 1 to 26; 0 behind its end -/
def leF (U : Int → Int) (p e k : Int) : Int := if p + k < e then U (p + k) - 97 + 1 else 0
def pkS (U : Int → Int) (p e : Int) : Int := leF U p e 0 * 33554432 + leF U p e 1 * 1048576 + leF U p e 2 * 32768 + leF U p e 3 * 1024 + leF U p e 4 * 32 + leF U p e 5
theorem nmP_S {U : Int → Int} {p e : Int} (h : ∀ k, 0 ≤ k → k < 6 → 0 ≤ leF U p e k ∧ leF U p e k < 27) : nmP U p e 6 = pkS U p e := by
  have l0 := h 0 (by decide) (by decide); have l1 := h 1 (by decide) (by decide); have l2 := h 2 (by decide) (by decide)
  have l3 := h 3 (by decide) (by decide); have l4 := h 4 (by decide) (by decide); have l5 := h 5 (by decide) (by decide)
  have s : ∀ k : Nat, nmP U p e (k + 1) = x_or (x_shl (nmP U p e k) 5) (leF U p e k) := fun _ => rfl
  have z : nmP U p e 0 = 0 := rfl
  have s1 : nmP U p e 1 = leF U p e 0 := by
    rw [s 0, z, sh5 (by decide) (by decide)]
    have := x_or_add (a := 0 * 32) (b := leF U p e ((0 : Nat) : Int)) 5 (by decide) (by decide) (by decide) l0.1 (by show leF U p e 0 < 32; omega) (by show 0 * 32 + leF U p e 0 < _; omega)
    rw [this]; show 0 * 32 + leF U p e 0 = _; omega
  have s2 : nmP U p e 2 = leF U p e 0 * 32 + leF U p e 1 := by
    rw [s 1, s1, sh5 (by omega) (by omega)]
    exact x_or_add 5 (by decide) (by omega) (by show leF U p e 0 * 32 % 32 = 0; omega) l1.1 (by show leF U p e 1 < 32; omega) (by show leF U p e 0 * 32 + leF U p e 1 < _; omega)
  have s3 : nmP U p e 3 = (leF U p e 0 * 32 + leF U p e 1) * 32 + leF U p e 2 := by
    rw [s 2, s2, sh5 (by omega) (by omega)]
    exact x_or_add 5 (by decide) (by omega) (by show (leF U p e 0 * 32 + leF U p e 1) * 32 % 32 = 0; omega) l2.1 (by show leF U p e 2 < 32; omega) (by show (leF U p e 0 * 32 + leF U p e 1) * 32 + leF U p e 2 < _; omega)
  have s4 : nmP U p e 4 = ((leF U p e 0 * 32 + leF U p e 1) * 32 + leF U p e 2) * 32 + leF U p e 3 := by
    rw [s 3, s3, sh5 (by omega) (by omega)]
    exact x_or_add 5 (by decide) (by omega) (by show ((leF U p e 0 * 32 + leF U p e 1) * 32 + leF U p e 2) * 32 % 32 = 0; omega) l3.1 (by show leF U p e 3 < 32; omega) (by show ((leF U p e 0 * 32 + leF U p e 1) * 32 + leF U p e 2) * 32 + leF U p e 3 < _; omega)
  have s5 : nmP U p e 5 = (((leF U p e 0 * 32 + leF U p e 1) * 32 + leF U p e 2) * 32 + leF U p e 3) * 32 + leF U p e 4 := by
    rw [s 4, s4, sh5 (by omega) (by omega)]
    exact x_or_add 5 (by decide) (by omega) (by show (((leF U p e 0 * 32 + leF U p e 1) * 32 + leF U p e 2) * 32 + leF U p e 3) * 32 % 32 = 0; omega) l4.1 (by show leF U p e 4 < 32; omega) (by show (((leF U p e 0 * 32 + leF U p e 1) * 32 + leF U p e 2) * 32 + leF U p e 3) * 32 + leF U p e 4 < _; omega)
  rw [s 5, s5, sh5 (by omega) (by omega)]
  have f := x_or_add (a := ((((leF U p e 0 * 32 + leF U p e 1) * 32 + leF U p e 2) * 32 + leF U p e 3) * 32 + leF U p e 4) * 32) (b := leF U p e 5) 5 (by decide) (by omega) (by show ((((leF U p e 0 * 32 + leF U p e 1) * 32 + leF U p e 2) * 32 + leF U p e 3) * 32 + leF U p e 4) * 32 % 32 = 0; omega) l5.1 (by show leF U p e 5 < 32; omega) (by omega)
  refine f.trans ?_
  unfold pkS; omega
