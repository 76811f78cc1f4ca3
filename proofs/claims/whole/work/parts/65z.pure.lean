/-! long shifts, signs; the model's halving -/
theorem l_shl (x : Int64) (s : Int64) (k : Nat) (hs : (s.toBitVec.smod 64).toNat = k) (c : Int64) (hc : c.toBitVec.toNat = 2 ^ k) : x <<< s = x * c := by
  apply Int64.toBitVec_inj.mp
  show x.toBitVec <<< (s.toBitVec.smod 64) = x.toBitVec * c.toBitVec
  apply BitVec.eq_of_toNat_eq
  rw [BitVec.shiftLeft_eq', hs, BitVec.toNat_shiftLeft, Nat.shiftLeft_eq, BitVec.toNat_mul, hc]
theorem y_shl_eq {a k : Int} (k0 : 0 ≤ k) (k3 : k ≤ 3) (h : -72057594037927936 ≤ a) (h2 : a ≤ 72057594037927936) : y_shl a k = a * p2 k := by
  have e : ∀ c : Int, Int64.ofInt a * Int64.ofInt c = Int64.ofInt (a * c) := fun c => (Int64.ofInt_mul _ _).symm
  have r : k = 0 ∨ k = 1 ∨ k = 2 ∨ k = 3 := by omega
  unfold y_shl
  rcases r with rfl | rfl | rfl | rfl
  · rw [l_shl _ _ 0 (by decide) (Int64.ofInt 1) (by decide), e]; exact w64_id (by omega) (by omega)
  · rw [l_shl _ _ 1 (by decide) (Int64.ofInt 2) (by decide), e]; exact w64_id (by omega) (by omega)
  · rw [l_shl _ _ 2 (by decide) (Int64.ofInt 4) (by decide), e]; exact w64_id (by omega) (by omega)
  · rw [l_shl _ _ 3 (by decide) (Int64.ofInt 8) (by decide), e]; exact w64_id (by omega) (by omega)
/-- sums of neighbours, again and again -/
def dF (x : Int → Int) : Nat → Int → Int
  | 0, i => x i
  | s + 1, i => dF x s i + dF x s (i + 1)
theorem dF_s {x : Int → Int} {k i : Int} (h : 0 ≤ k) : dF x (Int.toNat (k + 1)) i = dF x (Int.toNat k) i + dF x (Int.toNat k) (i + 1) := by
  rw [show Int.toNat (k + 1) = Int.toNat k + 1 by omega]; rfl
theorem hS_dF (x : Int → Int) : ∀ (s : Nat) (i : Int), (s : Int) ≤ i → hS x s i = dF x s (i - s)
  | 0, i, _ => by show x i = x (i - ((0 : Nat) : Int)); congr 1; omega
  | s + 1, i, h => by
    unfold hS
    rw [if_pos (by omega), hS_dF x s i (by omega), hS_dF x s (i - 1) (by omega)]
    show _ = dF x s (i - ((s + 1 : Nat) : Int)) + dF x s (i - ((s + 1 : Nat) : Int) + 1)
    rw [Int.add_comm]
    congr 1 <;> congr 1 <;> omega
theorem hR_dF (x : Int → Int) (n : Int) : ∀ (s : Nat) (i : Int), i ≤ n - s → hR x n s i = dF x s i
  | 0, i, _ => rfl
  | s + 1, i, h => by
    unfold hR
    rw [if_pos (by omega), hR_dF x n s i (by omega), hR_dF x n s (i + 1) (by omega)]; rfl
theorem hv_0 {x : Int → Int} {n k : Int} (k0 : 0 ≤ k) (k1 : k ≤ n) : hv x n 0 k = dF x (Int.toNat k) 0 * p2 (n - k) := by
  unfold hv
  rw [if_pos rfl, hS_stop x k n.toNat (by omega), hS_dF x k.toNat k (by omega), show k - ((k.toNat : Nat) : Int) = 0 by omega]
theorem hv_1 {x : Int → Int} {n k : Int} (k0 : 0 ≤ k) (k1 : k ≤ n) : hv x n 1 k = dF x (Int.toNat (n - k)) k * p2 k := by
  unfold hv
  rw [if_neg (by decide), hR_stop x n k k1 n.toNat (by omega), hR_dF x n (n - k).toNat k (by omega)]
theorem dF_b {x : Int → Int} {n M : Int} (h : ∀ i, 0 ≤ i → i ≤ n → -M ≤ x i ∧ x i ≤ M) : ∀ (s : Nat) (i : Int), 0 ≤ i → i + s ≤ n → -(M * p2 s) ≤ dF x s i ∧ dF x s i ≤ M * p2 s
  | 0, i, h0, h1 => by
    rw [show M * p2 ((0 : Nat) : Int) = M by show M * p2 0 = M; rw [p2_0, Int.mul_one]]
    exact h i h0 (by omega)
  | s + 1, i, h0, h1 => by
    have a := dF_b h s i h0 (by omega)
    have b := dF_b h s (i + 1) (by omega) (by omega)
    have ps : p2 ((s + 1 : Nat) : Int) = 2 * p2 s := by rw [Int.natCast_add]; exact p2_s (by omega)
    rw [ps, show M * (2 * p2 (s : Int)) = 2 * (M * p2 s) by rw [Int.mul_left_comm]]
    show _ ≤ dF x s i + dF x s (i + 1) ∧ dF x s i + dF x s (i + 1) ≤ _
    omega
theorem dF_b3 {x : Int → Int} {n k i : Int} (h : ∀ i, 0 ≤ i → i ≤ n → -1125899906842624 ≤ x i ∧ x i ≤ 1125899906842624) (k0 : 0 ≤ k) (k3 : k ≤ 3) (i0 : 0 ≤ i) (hn : i + k ≤ n) : -9007199254740992 ≤ dF x (Int.toNat k) i ∧ dF x (Int.toNat k) i ≤ 9007199254740992 := by
  have a := dF_b (M := 1125899906842624) h (Int.toNat k) i i0 (by omega)
  have b := p2_le (j := ((Int.toNat k : Nat) : Int)) (k := 3) (by omega)
  rw [show p2 3 = 8 from rfl] at b
  omega
