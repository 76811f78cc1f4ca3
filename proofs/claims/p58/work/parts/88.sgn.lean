/-! long shifts, signs; the model's halving -/
theorem l_shl (x : Int64) (s : Int64) (k : Nat) (hs : (s.toBitVec.smod 64).toNat = k) (c : Int64) (hc : c.toBitVec.toNat = 2 ^ k) : x <<< s = x * c := by
  apply Int64.toBitVec_inj.mp
  show x.toBitVec <<< (s.toBitVec.smod 64) = x.toBitVec * c.toBitVec
  apply BitVec.eq_of_toNat_eq
  rw [BitVec.shiftLeft_eq', hs, BitVec.toNat_shiftLeft, Nat.shiftLeft_eq, BitVec.toNat_mul, hc]
theorem y_shl_eq {a k : Int} (k0 : 0 ≤ k) (k3 : k ≤ 3) (h : -72057594037927936 ≤ a) (h2 : a ≤ 72057594037927936) : y_shl a k = a * p2 k := by
  have e : ∀ c : Int, Int64.ofInt a * Int64.ofInt c = Int64.ofInt (a * c) := fun c => (Int64.ofInt_mul _ _).symm
  have r : k = 0 ∨ k = 1 ∨ k = 2 ∨ k = 3 := by omega
  unfold y_shl
  rcases r with rfl | rfl | rfl | rfl
  · rw [l_shl _ _ 0 (by decide) (Int64.ofInt 1) (by decide), e]; exact w64_id (by omega) (by omega)
  · rw [l_shl _ _ 1 (by decide) (Int64.ofInt 2) (by decide), e]; exact w64_id (by omega) (by omega)
  · rw [l_shl _ _ 2 (by decide) (Int64.ofInt 4) (by decide), e]; exact w64_id (by omega) (by omega)
  · rw [l_shl _ _ 3 (by decide) (Int64.ofInt 8) (by decide), e]; exact w64_id (by omega) (by omega)
/-- sums of neighbours, again and again -/
def dF (x : Int → Int) : Nat → Int → Int
  | 0, i => x i
  | s + 1, i => dF x s i + dF x s (i + 1)
theorem dF_s {x : Int → Int} {k i : Int} (h : 0 ≤ k) : dF x (Int.toNat (k + 1)) i = dF x (Int.toNat k) i + dF x (Int.toNat k) (i + 1) := by
  rw [show Int.toNat (k + 1) = Int.toNat k + 1 by omega]; rfl
theorem hS_dF (x : Int → Int) : ∀ (s : Nat) (i : Int), (s : Int) ≤ i → hS x s i = dF x s (i - s)
  | 0, i, _ => by show x i = x (i - ((0 : Nat) : Int)); congr 1; omega
  | s + 1, i, h => by
    unfold hS
    rw [if_pos (by omega), hS_dF x s i (by omega), hS_dF x s (i - 1) (by omega)]
    show _ = dF x s (i - ((s + 1 : Nat) : Int)) + dF x s (i - ((s + 1 : Nat) : Int) + 1)
    rw [Int.add_comm]
    congr 1 <;> congr 1 <;> omega
theorem hR_dF (x : Int → Int) (n : Int) : ∀ (s : Nat) (i : Int), i ≤ n - s → hR x n s i = dF x s i
  | 0, i, _ => rfl
  | s + 1, i, h => by
    unfold hR
    rw [if_pos (by omega), hR_dF x n s i (by omega), hR_dF x n s (i + 1) (by omega)]; rfl
theorem hv_0 {x : Int → Int} {n k : Int} (k0 : 0 ≤ k) (k1 : k ≤ n) : hv x n 0 k = dF x (Int.toNat k) 0 * p2 (n - k) := by
  unfold hv
  rw [if_pos rfl, hS_stop x k n.toNat (by omega), hS_dF x k.toNat k (by omega), show k - ((k.toNat : Nat) : Int) = 0 by omega]
theorem hv_1 {x : Int → Int} {n k : Int} (k0 : 0 ≤ k) (k1 : k ≤ n) : hv x n 1 k = dF x (Int.toNat (n - k)) k * p2 k := by
  unfold hv
  rw [if_neg (by decide), hR_stop x n k k1 n.toNat (by omega), hR_dF x n (n - k).toNat k (by omega)]
theorem dF_b {x : Int → Int} {n M : Int} (h : ∀ i, 0 ≤ i → i ≤ n → -M ≤ x i ∧ x i ≤ M) : ∀ (s : Nat) (i : Int), 0 ≤ i → i + s ≤ n → -(M * p2 s) ≤ dF x s i ∧ dF x s i ≤ M * p2 s
  | 0, i, h0, h1 => by
    rw [show M * p2 ((0 : Nat) : Int) = M by show M * p2 0 = M; rw [p2_0, Int.mul_one]]
    exact h i h0 (by omega)
  | s + 1, i, h0, h1 => by
    have a := dF_b h s i h0 (by omega)
    have b := dF_b h s (i + 1) (by omega) (by omega)
    have ps : p2 ((s + 1 : Nat) : Int) = 2 * p2 s := by rw [Int.natCast_add]; exact p2_s (by omega)
    rw [ps, show M * (2 * p2 (s : Int)) = 2 * (M * p2 s) by rw [Int.mul_left_comm]]
    show _ ≤ dF x s i + dF x s (i + 1) ∧ dF x s i + dF x s (i + 1) ≤ _
    omega
theorem dF_b3 {x : Int → Int} {n k i : Int} (h : ∀ i, 0 ≤ i → i ≤ n → -1125899906842624 ≤ x i ∧ x i ≤ 1125899906842624) (k0 : 0 ≤ k) (k3 : k ≤ 3) (i0 : 0 ≤ i) (hn : i + k ≤ n) : -9007199254740992 ≤ dF x (Int.toNat k) i ∧ dF x (Int.toNat k) i ≤ 9007199254740992 := by
  have a := dF_b (M := 1125899906842624) h (Int.toNat k) i i0 (by omega)
  have b := p2_le (j := ((Int.toNat k : Nat) : Int)) (k := 3) (by omega)
  rw [show p2 3 = 8 from rfl] at b
  omega
/-! the JDK's signum -/
theorem y_shr63 (a : Int) : y_shr a 63 = if w64 a < 0 then -1 else 0 := by
  have hs : (((Int32.ofInt 63).toInt64 &&& 63).toBitVec.smod 64).toNat = 63 := by decide
  have h1 := Int64.le_toInt (Int64.ofInt a)
  have h2 := Int64.toInt_lt (Int64.ofInt a)
  have e : y_shr a 63 = w64 a / 9223372036854775808 := by
    unfold y_shr w64
    show ((Int64.ofInt a).toBitVec.sshiftRight' (((Int32.ofInt 63).toInt64 &&& 63).toBitVec.smod 64)).toInt = _
    rw [BitVec.sshiftRight_eq', hs, BitVec.toInt_sshiftRight, Int.shiftRight_eq_div_pow]
    rfl
  rw [e]
  unfold w64
  split <;> omega
theorem y_ushr63 (a : Int) : y_ushr a 63 = if w64 a < 0 then 1 else 0 := by
  have hs : ((Int32.ofInt 63).toInt64.toUInt64 &&& Int64.toUInt64 63).toNat = 63 := by decide
  unfold y_ushr
  generalize (Int32.ofInt 63).toInt64.toUInt64 &&& Int64.toUInt64 63 = s at hs
  have hn : ((Int64.ofInt a).toUInt64 >>> s).toNat = (Int64.ofInt a).toBitVec.toNat / 9223372036854775808 := by
    rw [UInt64.toNat_shiftRight, hs, Nat.shiftRight_eq_div_pow]; rfl
  have hw : w64 a = (Int64.ofInt a).toBitVec.toInt := rfl
  rw [BitVec.toInt_eq_toNat_cond] at hw
  have hb := (Int64.ofInt a).toBitVec.isLt
  generalize (Int64.ofInt a).toUInt64 >>> s = u at hn
  generalize (Int64.ofInt a).toBitVec.toNat = n at hn hw hb
  have hc : u.toNat = if w64 a < 0 then 1 else 0 := by
    rw [hn, hw]
    split <;> split <;> omega
  by_cases z : w64 a < 0
  · rw [if_pos z] at hc ⊢
    have : u = 1 := UInt64.toNat_inj.mp hc
    rw [this]; rfl
  · rw [if_neg z] at hc ⊢
    have : u = 0 := UInt64.toNat_inj.mp hc
    rw [this]; rfl
theorem w64_neg {a : Int} (h : -9223372036854775808 < w64 a) : w64 (-a) = -w64 a := by
  have h2 := Int64.toInt_lt (Int64.ofInt a)
  unfold w64 at h ⊢
  rw [Int64.ofInt_neg, Int64.toInt_neg]
  exact Int.bmod_eq_of_le (by omega) (by omega)
theorem y_sig (v : Int) : y_or (y_shr v 63) (y_ushr (-v) 63) = sg (w64 v) := by
  have h1 := Int64.le_toInt (Int64.ofInt v)
  have hl : -9223372036854775808 ≤ w64 v := h1
  rw [y_shr63, y_ushr63]
  by_cases z : w64 v < 0
  · rw [if_pos z, sg_n z]
    split <;> rfl
  · rw [if_neg z, w64_neg (by omega)]
    by_cases y : w64 v = 0
    · rw [y]; rfl
    · rw [if_pos (by omega), sg_p (by omega)]; rfl
theorem x_ushr31 (a : Int) : x_ushr a 31 = if w32 a < 0 then 1 else 0 := by
  have hs : ((Int32.ofInt 31).toUInt32 &&& Int32.toUInt32 31).toNat = 31 := by decide
  unfold x_ushr
  generalize (Int32.ofInt 31).toUInt32 &&& Int32.toUInt32 31 = s at hs
  have hn : ((Int32.ofInt a).toUInt32 >>> s).toNat = (Int32.ofInt a).toBitVec.toNat / 2147483648 := by
    rw [UInt32.toNat_shiftRight, hs, Nat.shiftRight_eq_div_pow]; rfl
  have hw : w32 a = (Int32.ofInt a).toBitVec.toInt := rfl
  rw [BitVec.toInt_eq_toNat_cond] at hw
  have hb := (Int32.ofInt a).toBitVec.isLt
  generalize (Int32.ofInt a).toUInt32 >>> s = u at hn
  generalize (Int32.ofInt a).toBitVec.toNat = n at hn hw hb
  have hc : u.toNat = if w32 a < 0 then 1 else 0 := by
    rw [hn, hw]
    split <;> split <;> omega
  by_cases z : w32 a < 0
  · rw [if_pos z] at hc ⊢
    have : u = 1 := UInt32.toNat_inj.mp hc
    rw [this]; rfl
  · rw [if_neg z] at hc ⊢
    have : u = 0 := UInt32.toNat_inj.mp hc
    rw [this]; rfl
theorem w32_neg {a : Int} (h : -2147483648 < w32 a) : w32 (-a) = -w32 a := by
  have h2 := Int32.toInt_lt (Int32.ofInt a)
  unfold w32 at h ⊢
  rw [Int32.ofInt_neg, Int32.toInt_neg]
  exact Int.bmod_eq_of_le (by omega) (by omega)
theorem x_sig (v : Int) : x_or (x_shr v 31) (x_ushr (-v) 31) = sg (w32 v) := by
  have hl := w32_ge v
  have hh := w32_lt2 v
  have e : x_shr v 31 = if w32 v < 0 then -1 else 0 := by
    rw [x_shr_eq (by decide) (by decide), show (2 : Int) ^ (31 : Int).toNat = 2147483648 from rfl]
    split <;> omega
  rw [e, x_ushr31]
  by_cases z : w32 v < 0
  · rw [if_pos z, sg_n z]
    split <;> rfl
  · rw [if_neg z, w32_neg (by omega)]
    by_cases y : w32 v = 0
    · rw [y]; rfl
    · rw [if_pos (by omega), sg_p (by omega)]; rfl
theorem chg_st {s l : Int} (hs : s = -1 ∨ s = 0 ∨ s = 1) (hl : l = -1 ∨ l = 0 ∨ l = 1) : (s * l < 0 ↔ ¬ s = 0 ∧ s = -l) := by
  rcases hs with rfl | rfl | rfl <;> rcases hl with rfl | rfl | rfl <;> decide
theorem chg_rng {s l : Int} (hs : s = -1 ∨ s = 0 ∨ s = 1) (hl : l = -1 ∨ l = 0 ∨ l = 1) : -1 ≤ s * l ∧ s * l ≤ 1 := by
  rcases hs with rfl | rfl | rfl <;> rcases hl with rfl | rfl | rfl <;> decide
/-- going down bit by bit -/
theorem bit_q {q d j : Int} (q0 : 0 ≤ q) (j0 : 1 ≤ j) (d0 : j ≤ d) : q / p2 (d - j) / 2 = q / p2 (d - (j - 1)) := by
  have e : p2 (d - (j - 1)) = p2 (d - j) * 2 := by
    rw [show d - (j - 1) = d - j + 1 by omega, p2_s (by omega), Int.mul_comm]
  rw [e, Int.ediv_ediv_of_nonneg (Int.le_of_lt p2_pos)]
/-! cells by going down bit by bit -/
theorem bq {q j : Int} (j0 : 0 ≤ j) : q / p2 j / 2 = q / p2 (j + 1) := by
  rw [p2_s j0, Int.ediv_ediv_of_nonneg (Int.le_of_lt p2_pos), Int.mul_comm]
theorem hv_bs {x : Int → Int} {n M z : Int} (h : ∀ i, 0 ≤ i → i ≤ n → -M ≤ x i ∧ x i ≤ M) (hz : z = 0 ∨ z = 1) {k : Int} (k0 : 0 ≤ k) (k1 : k ≤ n) : -(M * p2 n) ≤ hv x n z k ∧ hv x n z k ≤ M * p2 n := by
  have up : ∀ y j : Int, 0 ≤ j → j ≤ n → -(M * p2 j) ≤ y → y ≤ M * p2 j → -(M * p2 n) ≤ y * p2 (n - j) ∧ y * p2 (n - j) ≤ M * p2 n := by
    intro y j j0 j1 y0 y1
    have P := @p2_pos (n - j)
    have b : y * p2 (n - j) ≤ M * p2 j * p2 (n - j) := Int.mul_le_mul_of_nonneg_right y1 (by omega)
    have a : -(M * p2 j) * p2 (n - j) ≤ y * p2 (n - j) := Int.mul_le_mul_of_nonneg_right y0 (by omega)
    rw [Int.neg_mul] at a
    rw [Int.mul_assoc, ← p2_add j0 (by omega), show j + (n - j) = n by omega] at a b
    omega
  rcases hz with rfl | rfl
  · rw [hv_0 k0 k1]
    have a := dF_b h (Int.toNat k) 0 (by omega) (by omega)
    rw [show ((k.toNat : Nat) : Int) = k by omega] at a
    exact up _ k k0 k1 a.1 a.2
  · rw [hv_1 k0 k1]
    have a := dF_b h (Int.toNat (n - k)) k k0 (by omega)
    rw [show (((n - k).toNat : Nat) : Int) = n - k by omega] at a
    have b := up _ (n - k) (by omega) (by omega) a.1 a.2
    rw [show n - (n - k) = k by omega] at b
    exact b
theorem cellF_bs {x : Int → Int} {n M : Int} (n0 : 0 ≤ n) (h : ∀ i, 0 ≤ i → i ≤ n → -M ≤ x i ∧ x i ≤ M) : ∀ (d : Nat) (q i : Int), 0 ≤ i → i ≤ n → -(M * p2 (n * d)) ≤ cellF x n d q i ∧ cellF x n d q i ≤ M * p2 (n * d)
  | 0, _, i, h0, h1 => by
    show -(M * p2 (n * 0)) ≤ x i ∧ x i ≤ M * p2 (n * 0)
    rw [Int.mul_zero, p2_0]; have := h i h0 h1; omega
  | d + 1, q, i, h0, h1 => by
    have a := hv_bs (x := cellF x n d (q / 2)) (n := n) (M := M * p2 (n * d)) (z := q % 2) (fun j j0 j1 => cellF_bs n0 h d (q / 2) j j0 j1) (by omega) h0 h1
    rw [Int.mul_assoc, ← p2_add (Int.mul_nonneg n0 (by omega)) n0] at a
    rw [show n * ((d + 1 : Nat) : Int) = n * d + n by rw [Int.natCast_add, Int.mul_add]; simp]
    exact a
theorem cfR_b {f : Int → Int} (h : fgOK f) {c l k : Int} (c0 : 0 ≤ c) (c1 : c < f 0) (l0 : 0 ≤ l) (l1 : l < f 1) (k0 : 0 ≤ k) (k1 : k < f (18 + c)) : -24600 ≤ cfR f c l k ∧ cfR f c l k ≤ 24600 := by
  obtain ⟨a, b, d⟩ := (h.2.2.1 c c0 c1).2 k k0 k1
  have e0 := h.2.2.2 l 0 l0 l1 (by omega) (by omega)
  have e1 := h.2.2.2 l 1 l0 l1 (by omega) (by omega)
  have e2 := h.2.2.2 l 2 l0 l1 (by omega) (by omega)
  unfold pxF at a b d
  unfold cfR
  generalize f (26 + (c * 4 + k) * 3 + 0) = x at a ⊢
  generalize f (26 + (c * 4 + k) * 3 + 1) = y at b ⊢
  generalize f (26 + (c * 4 + k) * 3 + 2) = w at d ⊢
  generalize f (122 + l * 3 + 0) = u at e0 ⊢
  generalize f (122 + l * 3 + 1) = v at e1 ⊢
  generalize f (122 + l * 3 + 2) = z at e2 ⊢
  have m : ∀ s t : Int, -200 ≤ s → s ≤ 200 → 0 ≤ t → t ≤ 20 → -4000 ≤ s * t ∧ s * t ≤ 4000 := by
    intro s t s0 s1 t0 t1
    have p1 : s * t ≤ 200 * t := Int.mul_le_mul_of_nonneg_right s1 t0
    have p2 : -200 * t ≤ s * t := Int.mul_le_mul_of_nonneg_right s0 t0
    omega
  have m1 := m u x e0.1 e0.2 a.1 a.2
  have m2 := m v y e1.1 e1.2 b.1 b.2
  generalize u * x = s at m1 ⊢
  generalize v * y = t at m2 ⊢
  have r : w = 1 ∨ w = 2 ∨ w = 3 := by omega
  rcases r with rfl | rfl | rfl <;> omega
theorem cfX_R {f : Int → Int} (h : fgOK f) {c l k : Int} (c0 : 0 ≤ c) (c1 : c < f 0) (l0 : 0 ≤ l) (l1 : l < f 1) (k0 : 0 ≤ k) (k1 : k < f (18 + c)) : cfX f c l k = cfR f c l k := by
  have b := cfR_b h c0 c1 l0 l1 k0 k1
  exact w32_id (x := cfR f c l k) (by omega) (by omega)
/-- the coefficients of a cell -/
def ccX (f : Int → Int) (c l : Int) (d : Nat) (q : Int) : Int → Int := cellF (cfL f c l) (f (18 + c) - 1) d q
theorem ccX_b {f : Int → Int} (h : fgOK f) {c l k q : Int} {d : Nat} (hd : d ≤ 12) (c0 : 0 ≤ c) (c1 : c < f 0) (l0 : 0 ≤ l) (l1 : l < f 1) (k0 : 0 ≤ k) (k1 : k < f (18 + c)) : -1690499127705600 ≤ ccX f c l d q k ∧ ccX f c l d q k ≤ 1690499127705600 := by
  have hn := (h.2.2.1 c c0 c1).1
  have hp : p2 ((f (18 + c) - 1) * (d : Int)) ≤ 68719476736 := by
    have e : (f (18 + c) - 1) * (d : Int) ≤ 3 * 12 := Int.mul_le_mul (by omega) (by omega) (by omega) (by omega)
    exact p2_le e
  have P := @p2_pos ((f (18 + c) - 1) * (d : Int))
  have a := cellF_bs (x := cfL f c l) (n := f (18 + c) - 1) (M := 24600) (by omega) (fun i i0 i1 => by
    show -24600 ≤ cfX f c l i ∧ cfX f c l i ≤ 24600
    rw [cfX_R h c0 c1 l0 l1 i0 (by omega)]; exact cfR_b h c0 c1 l0 l1 i0 (by omega)) d q k k0 (by omega)
  unfold ccX; omega
theorem ccX_b11 {f : Int → Int} (h : fgOK f) {c l k q : Int} {d : Nat} (hd : d ≤ 11) (c0 : 0 ≤ c) (c1 : c < f 0) (l0 : 0 ≤ l) (l1 : l < f 1) (k0 : 0 ≤ k) (k1 : k < f (18 + c)) : -1125899906842624 ≤ ccX f c l d q k ∧ ccX f c l d q k ≤ 1125899906842624 := by
  have hn := (h.2.2.1 c c0 c1).1
  have hp : p2 ((f (18 + c) - 1) * (d : Int)) ≤ 8589934592 := by
    have e : (f (18 + c) - 1) * (d : Int) ≤ 3 * 11 := Int.mul_le_mul (by omega) (by omega) (by omega) (by omega)
    exact p2_le e
  have P := @p2_pos ((f (18 + c) - 1) * (d : Int))
  have a := cellF_bs (x := cfL f c l) (n := f (18 + c) - 1) (M := 24600) (by omega) (fun i i0 i1 => by
    show -24600 ≤ cfX f c l i ∧ cfX f c l i ≤ 24600
    rw [cfX_R h c0 c1 l0 l1 i0 (by omega)]; exact cfR_b h c0 c1 l0 l1 i0 (by omega)) d q k k0 (by omega)
  unfold ccX; omega
theorem ccX_s (f : Int → Int) (c l : Int) (d : Nat) (q : Int) : ccX f c l (d + 1) q = hv (ccX f c l d (q / 2)) (f (18 + c) - 1) (q % 2) := rfl
theorem ceX_s (f : Int → Int) (c : Int) (d : Nat) (q w : Int) : ceX f c (d + 1) q w = hv (ceX f c d (q / 2) w) (f (18 + c) - 1) (q % 2) := rfl
theorem hm_mul {f : Int → Int} (h : fgOK f) {c k w : Int} (c0 : 0 ≤ c) (c1 : c < f 0) (k0 : 0 ≤ k) (k1 : k < f (18 + c)) (w0 : 0 ≤ w) (w1 : w ≤ 1) : w32 (pxF f c k 2) * w32 (pxF f c k w) = hmX f c k w := by
  obtain ⟨a, b, d⟩ := (h.2.2.1 c c0 c1).2 k k0 k1
  have hw : 0 ≤ pxF f c k w ∧ pxF f c k w ≤ 20 := by rcases (show w = 0 ∨ w = 1 by omega) with rfl | rfl <;> assumption
  unfold hmX
  rw [if_neg (by omega)]
  show _ = w32 (pxF f c k 2 * pxF f c k w)
  generalize pxF f c k 2 = s at d ⊢
  generalize pxF f c k w = t at hw ⊢
  rw [w32_id (x := s) (by omega) (by omega), w32_id (x := t) (by omega) (by omega)]
  have r : s = 1 ∨ s = 2 ∨ s = 3 := by omega
  rcases r with rfl | rfl | rfl <;> exact (w32_id (by omega) (by omega)).symm
theorem hm_w {f : Int → Int} {c k : Int} : w32 (pxF f c k 2) = hmX f c k 2 := by
  unfold hmX; rw [if_pos rfl]; rfl
