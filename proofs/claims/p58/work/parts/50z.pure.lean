/-! counting bits -/
def bitN (v : Int) : Int := (v % 2) + (v / 2 % 2) + (v / 4 % 2) + (v / 8 % 2) + (v / 16 % 2) + (v / 32 % 2) + (v / 64 % 2) + (v / 128 % 2)
theorem bitN_b (v : Int) : 0 ≤ bitN v ∧ bitN v ≤ 8 := by unfold bitN; omega
def bitT (v : Int) : Int := x_and (((x_and (((x_and (v - (x_and (x_ushr v 1) 1431655765)) 858993459) + (x_and (x_ushr (v - (x_and (x_ushr v 1) 1431655765)) 2) 858993459)) + (x_ushr ((x_and (v - (x_and (x_ushr v 1) 1431655765)) 858993459) + (x_and (x_ushr (v - (x_and (x_ushr v 1) 1431655765)) 2) 858993459)) 4)) 252645135) + (x_ushr (x_and (((x_and (v - (x_and (x_ushr v 1) 1431655765)) 858993459) + (x_and (x_ushr (v - (x_and (x_ushr v 1) 1431655765)) 2) 858993459)) + (x_ushr ((x_and (v - (x_and (x_ushr v 1) 1431655765)) 858993459) + (x_and (x_ushr (v - (x_and (x_ushr v 1) 1431655765)) 2) 858993459)) 4)) 252645135) 8)) + (x_ushr ((x_and (((x_and (v - (x_and (x_ushr v 1) 1431655765)) 858993459) + (x_and (x_ushr (v - (x_and (x_ushr v 1) 1431655765)) 2) 858993459)) + (x_ushr ((x_and (v - (x_and (x_ushr v 1) 1431655765)) 858993459) + (x_and (x_ushr (v - (x_and (x_ushr v 1) 1431655765)) 2) 858993459)) 4)) 252645135) + (x_ushr (x_and (((x_and (v - (x_and (x_ushr v 1) 1431655765)) 858993459) + (x_and (x_ushr (v - (x_and (x_ushr v 1) 1431655765)) 2) 858993459)) + (x_ushr ((x_and (v - (x_and (x_ushr v 1) 1431655765)) 858993459) + (x_and (x_ushr (v - (x_and (x_ushr v 1) 1431655765)) 2) 858993459)) 4)) 252645135) 8)) 16)) 63
theorem bitT_k : ∀ n : Fin 256, bitN (n.val : Int) = bitT (n.val : Int) := by decide +kernel
theorem bitN_eq {v : Int} (h0 : 0 ≤ v) (h1 : v ≤ 255) : bitN v = bitT v := by
  obtain ⟨n, rfl⟩ : ∃ n : Nat, v = n := ⟨v.toNat, by omega⟩
  exact bitT_k ⟨n, by omega⟩
theorem orP_k : ∀ n : Fin 8, ∀ a : Fin 256, a.val < 2 ^ n.val → x_or (a.val : Int) (x_shl 1 (n.val : Int)) = ((a.val + 2 ^ n.val : Nat) : Int) := by decide +kernel
theorem orP {a : Int} {n : Nat} (hn : n < 8) (h0 : 0 ≤ a) (h1 : a < p2 n) : x_or a (x_shl 1 n) = a + p2 n := by
  obtain ⟨b, rfl⟩ : ∃ b : Nat, a = b := ⟨a.toNat, by omega⟩
  have e : p2 (n : Int) = ((2 ^ n : Nat) : Int) := by
    unfold p2
    rw [show (n : Int).toNat = n by omega, Int.natCast_pow]; rfl
  have l : 2 ^ n ≤ 2 ^ 8 := Nat.pow_le_pow_right (by decide) (by omega)
  rw [e] at h1 ⊢
  have := orP_k ⟨n, hn⟩ ⟨b, by omega⟩ (by show b < 2 ^ n; omega)
  rw [show ((b : Int) + ((2 ^ n : Nat) : Int)) = ((b + 2 ^ n : Nat) : Int) by omega]
  exact this
theorem bitP_p2 (p : Int → Prop) : ∀ n : Nat, n ≤ 8 → 0 ≤ bitP p n ∧ bitP p n < p2 n
  | 0, _ => ⟨Int.le_refl 0, by show (0 : Int) < 1; decide⟩
  | n + 1, h => by
    have a := bitP_p2 p n (by omega)
    have ps : p2 ((n + 1 : Nat) : Int) = 2 * p2 n := by rw [Int.natCast_add]; exact p2_s (by omega)
    have P := @p2_pos n
    rw [ps]
    by_cases hp : p n
    · have e : bitP p (n + 1) = x_or (bitP p n) (x_shl 1 n) := if_pos hp
      rw [e, orP (by omega) a.1 a.2]; omega
    · have e : bitP p (n + 1) = bitP p n := if_neg hp
      rw [e]; omega
theorem bitP_b (p : Int → Prop) (n : Nat) (h : n ≤ 8) : 0 ≤ bitP p n ∧ bitP p n ≤ 255 := by
  have a := bitP_p2 p n h
  have b := p2_le (j := (n : Int)) (k := 8) (by omega)
  rw [show p2 8 = 256 from rfl] at b
  omega
