/-! cells by going down bit by bit -/
theorem bq {q j : Int} (j0 : 0 ≤ j) : q / p2 j / 2 = q / p2 (j + 1) := by
  rw [p2_s j0, Int.ediv_ediv_of_nonneg (Int.le_of_lt p2_pos), Int.mul_comm]
theorem hv_bs {x : Int → Int} {n M z : Int} (h : ∀ i, 0 ≤ i → i ≤ n → -M ≤ x i ∧ x i ≤ M) (hz : z = 0 ∨ z = 1) {k : Int} (k0 : 0 ≤ k) (k1 : k ≤ n) : -(M * p2 n) ≤ hv x n z k ∧ hv x n z k ≤ M * p2 n := by
  have up : ∀ y j : Int, 0 ≤ j → j ≤ n → -(M * p2 j) ≤ y → y ≤ M * p2 j → -(M * p2 n) ≤ y * p2 (n - j) ∧ y * p2 (n - j) ≤ M * p2 n := by
    intro y j j0 j1 y0 y1
    have P := @p2_pos (n - j)
    have b : y * p2 (n - j) ≤ M * p2 j * p2 (n - j) := Int.mul_le_mul_of_nonneg_right y1 (by omega)
    have a : -(M * p2 j) * p2 (n - j) ≤ y * p2 (n - j) := Int.mul_le_mul_of_nonneg_right y0 (by omega)
    rw [Int.neg_mul] at a
    rw [Int.mul_assoc, ← p2_add j0 (by omega), show j + (n - j) = n by omega] at a b
    omega
  rcases hz with rfl | rfl
  · rw [hv_0 k0 k1]
    have a := dF_b h (Int.toNat k) 0 (by omega) (by omega)
    rw [show ((k.toNat : Nat) : Int) = k by omega] at a
    exact up _ k k0 k1 a.1 a.2
  · rw [hv_1 k0 k1]
    have a := dF_b h (Int.toNat (n - k)) k k0 (by omega)
    rw [show (((n - k).toNat : Nat) : Int) = n - k by omega] at a
    have b := up _ (n - k) (by omega) (by omega) a.1 a.2
    rw [show n - (n - k) = k by omega] at b
    exact b
theorem cellF_bs {x : Int → Int} {n M : Int} (n0 : 0 ≤ n) (h : ∀ i, 0 ≤ i → i ≤ n → -M ≤ x i ∧ x i ≤ M) : ∀ (d : Nat) (q i : Int), 0 ≤ i → i ≤ n → -(M * p2 (n * d)) ≤ cellF x n d q i ∧ cellF x n d q i ≤ M * p2 (n * d)
  | 0, _, i, h0, h1 => by
    show -(M * p2 (n * 0)) ≤ x i ∧ x i ≤ M * p2 (n * 0)
    rw [Int.mul_zero, p2_0]; have := h i h0 h1; omega
  | d + 1, q, i, h0, h1 => by
    have a := hv_bs (x := cellF x n d (q / 2)) (n := n) (M := M * p2 (n * d)) (z := q % 2) (fun j j0 j1 => cellF_bs n0 h d (q / 2) j j0 j1) (by omega) h0 h1
    rw [Int.mul_assoc, ← p2_add (Int.mul_nonneg n0 (by omega)) n0] at a
    rw [show n * ((d + 1 : Nat) : Int) = n * d + n by rw [Int.natCast_add, Int.mul_add]; simp]
    exact a
theorem cfR_b {f : Int → Int} (h : fgOK f) {c l k : Int} (c0 : 0 ≤ c) (c1 : c < f 0) (l0 : 0 ≤ l) (l1 : l < f 1) (k0 : 0 ≤ k) (k1 : k < f (18 + c)) : -24600 ≤ cfR f c l k ∧ cfR f c l k ≤ 24600 := by
  obtain ⟨a, b, d⟩ := (h.2.2.1 c c0 c1).2 k k0 k1
  have e0 := h.2.2.2 l 0 l0 l1 (by omega) (by omega)
  have e1 := h.2.2.2 l 1 l0 l1 (by omega) (by omega)
  have e2 := h.2.2.2 l 2 l0 l1 (by omega) (by omega)
  unfold pxF at a b d
  unfold cfR
  generalize f (26 + (c * 4 + k) * 3 + 0) = x at a ⊢
  generalize f (26 + (c * 4 + k) * 3 + 1) = y at b ⊢
  generalize f (26 + (c * 4 + k) * 3 + 2) = w at d ⊢
  generalize f (122 + l * 3 + 0) = u at e0 ⊢
  generalize f (122 + l * 3 + 1) = v at e1 ⊢
  generalize f (122 + l * 3 + 2) = z at e2 ⊢
  have m : ∀ s t : Int, -200 ≤ s → s ≤ 200 → 0 ≤ t → t ≤ 20 → -4000 ≤ s * t ∧ s * t ≤ 4000 := by
    intro s t s0 s1 t0 t1
    have p1 : s * t ≤ 200 * t := Int.mul_le_mul_of_nonneg_right s1 t0
    have p2 : -200 * t ≤ s * t := Int.mul_le_mul_of_nonneg_right s0 t0
    omega
  have m1 := m u x e0.1 e0.2 a.1 a.2
  have m2 := m v y e1.1 e1.2 b.1 b.2
  generalize u * x = s at m1 ⊢
  generalize v * y = t at m2 ⊢
  have r : w = 1 ∨ w = 2 ∨ w = 3 := by omega
  rcases r with rfl | rfl | rfl <;> omega
theorem cfX_R {f : Int → Int} (h : fgOK f) {c l k : Int} (c0 : 0 ≤ c) (c1 : c < f 0) (l0 : 0 ≤ l) (l1 : l < f 1) (k0 : 0 ≤ k) (k1 : k < f (18 + c)) : cfX f c l k = cfR f c l k := by
  have b := cfR_b h c0 c1 l0 l1 k0 k1
  exact w32_id (x := cfR f c l k) (by omega) (by omega)
/-- the coefficients of a cell -/
def ccX (f : Int → Int) (c l : Int) (d : Nat) (q : Int) : Int → Int := cellF (cfL f c l) (f (18 + c) - 1) d q
theorem ccX_b {f : Int → Int} (h : fgOK f) {c l k q : Int} {d : Nat} (hd : d ≤ 12) (c0 : 0 ≤ c) (c1 : c < f 0) (l0 : 0 ≤ l) (l1 : l < f 1) (k0 : 0 ≤ k) (k1 : k < f (18 + c)) : -1690499127705600 ≤ ccX f c l d q k ∧ ccX f c l d q k ≤ 1690499127705600 := by
  have hn := (h.2.2.1 c c0 c1).1
  have hp : p2 ((f (18 + c) - 1) * (d : Int)) ≤ 68719476736 := by
    have e : (f (18 + c) - 1) * (d : Int) ≤ 3 * 12 := Int.mul_le_mul (by omega) (by omega) (by omega) (by omega)
    exact p2_le e
  have P := @p2_pos ((f (18 + c) - 1) * (d : Int))
  have a := cellF_bs (x := cfL f c l) (n := f (18 + c) - 1) (M := 24600) (by omega) (fun i i0 i1 => by
    show -24600 ≤ cfX f c l i ∧ cfX f c l i ≤ 24600
    rw [cfX_R h c0 c1 l0 l1 i0 (by omega)]; exact cfR_b h c0 c1 l0 l1 i0 (by omega)) d q k k0 (by omega)
  unfold ccX; omega
theorem ccX_b11 {f : Int → Int} (h : fgOK f) {c l k q : Int} {d : Nat} (hd : d ≤ 11) (c0 : 0 ≤ c) (c1 : c < f 0) (l0 : 0 ≤ l) (l1 : l < f 1) (k0 : 0 ≤ k) (k1 : k < f (18 + c)) : -1125899906842624 ≤ ccX f c l d q k ∧ ccX f c l d q k ≤ 1125899906842624 := by
  have hn := (h.2.2.1 c c0 c1).1
  have hp : p2 ((f (18 + c) - 1) * (d : Int)) ≤ 8589934592 := by
    have e : (f (18 + c) - 1) * (d : Int) ≤ 3 * 11 := Int.mul_le_mul (by omega) (by omega) (by omega) (by omega)
    exact p2_le e
  have P := @p2_pos ((f (18 + c) - 1) * (d : Int))
  have a := cellF_bs (x := cfL f c l) (n := f (18 + c) - 1) (M := 24600) (by omega) (fun i i0 i1 => by
    show -24600 ≤ cfX f c l i ∧ cfX f c l i ≤ 24600
    rw [cfX_R h c0 c1 l0 l1 i0 (by omega)]; exact cfR_b h c0 c1 l0 l1 i0 (by omega)) d q k k0 (by omega)
  unfold ccX; omega
theorem ccX_s (f : Int → Int) (c l : Int) (d : Nat) (q : Int) : ccX f c l (d + 1) q = hv (ccX f c l d (q / 2)) (f (18 + c) - 1) (q % 2) := rfl
theorem ceX_s (f : Int → Int) (c : Int) (d : Nat) (q w : Int) : ceX f c (d + 1) q w = hv (ceX f c d (q / 2) w) (f (18 + c) - 1) (q % 2) := rfl
theorem hm_mul {f : Int → Int} (h : fgOK f) {c k w : Int} (c0 : 0 ≤ c) (c1 : c < f 0) (k0 : 0 ≤ k) (k1 : k < f (18 + c)) (w0 : 0 ≤ w) (w1 : w ≤ 1) : w32 (pxF f c k 2) * w32 (pxF f c k w) = hmX f c k w := by
  obtain ⟨a, b, d⟩ := (h.2.2.1 c c0 c1).2 k k0 k1
  have hw : 0 ≤ pxF f c k w ∧ pxF f c k w ≤ 20 := by rcases (show w = 0 ∨ w = 1 by omega) with rfl | rfl <;> assumption
  unfold hmX
  rw [if_neg (by omega)]
  show _ = w32 (pxF f c k 2 * pxF f c k w)
  generalize pxF f c k 2 = s at d ⊢
  generalize pxF f c k w = t at hw ⊢
  rw [w32_id (x := s) (by omega) (by omega), w32_id (x := t) (by omega) (by omega)]
  have r : s = 1 ∨ s = 2 ∨ s = 3 := by omega
  rcases r with rfl | rfl | rfl <;> exact (w32_id (by omega) (by omega)).symm
theorem hm_w {f : Int → Int} {c k : Int} : w32 (pxF f c k 2) = hmX f c k 2 := by
  unfold hmX; rw [if_pos rfl]; rfl
theorem mF_up {A : AA} {n : Nat} {i v : Int} (h : n ≠ 2 ∧ n ≠ 27 ∧ n ≠ 29) : mF (upA A n i v) = mF A := mF_c (upA_r (by omega)) (upA_r (by omega)) (upA_r (by omega))
