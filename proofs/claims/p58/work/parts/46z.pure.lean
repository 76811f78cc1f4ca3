/-! cells of a figure, purely -/
def ceX (f : Int → Int) (c : Int) (d : Nat) (q w : Int) : Int → Int := cellF (fun i => hmX f c i w) (f (18 + c) - 1) d q
theorem nd_cell {B : AA} {c D : Int} (h : caOK B c) (hE : pltE B c D) (hs : 2 ≤ B 2 (18 + c)) : ∀ (d : Nat) (q w k : Int), (d : Int) ≤ D → 0 ≤ q → q < p2 d → 0 ≤ w → w ≤ 2 → 0 ≤ k → k < B 2 (18 + c) → B 10 (((c * 127 + (p2 d - 1 + q)) * 3 + w) * 4 + k) = ceX (B 2) c d q w k
  | 0, q, w, k, _, q0, q1, w0, w1, k0, k1 => by
    rw [show p2 ((0 : Nat) : Int) = 1 from rfl] at q1 ⊢
    rw [show (1 : Int) - 1 + q = 0 by omega]
    exact hE.2.1 k w k0 k1 w0 w1
  | d + 1, q, w, k, hd, q0, q1, w0, w1, k0, k1 => by
    have ps : p2 ((d + 1 : Nat) : Int) = 2 * p2 d := by rw [Int.natCast_add]; exact p2_s (by omega)
    have P := @p2_pos d
    have hb := p2_le (j := ((d + 1 : Nat) : Int)) (k := B 13 c) (by have := hE.2.2; omega)
    rw [ps] at q1 hb ⊢
    have e12 := hE.1
    have a3 := (h.2.2 (by omega)).2.2 (2 * p2 d - 1 + q) (by omega) (by omega)
    rw [a3.1 w k w0 w1 k0 (by omega)]
    rw [show (2 * p2 d - 1 + q - 1) / 2 = p2 d - 1 + q / 2 by omega, show (2 * p2 d - 1 + q - 1) % 2 = q % 2 by omega, e12]
    show hv _ _ _ _ = hv _ _ _ _
    exact hv_c (fun i i0 i1 => nd_cell h hE hs d (q / 2) w i (by omega) (by omega) (by omega) w0 w1 i0 (by omega)) k0 (by omega)
/-- the control point that is extreme on a side of a cell -/
def exX (f : Int → Int) (c : Int) (d : Nat) (q s : Int) : Int := exB (ceX f c d q (s % 2)) (ceX f c d q 2) s (Int.toNat (f (18 + c) - 1))
theorem exX_b {f : Int → Int} {c : Int} {d : Nat} {q s : Int} (h : 2 ≤ f (18 + c)) : 0 ≤ exX f c d q s ∧ exX f c d q s < f (18 + c) := by
  have := exB_b (ceX f c d q (s % 2)) (ceX f c d q 2) s (Int.toNat (f (18 + c) - 1))
  unfold exX; omega
theorem ex_cell {B : AA} {c D : Int} (h : caOK B c) (hE : pltE B c D) (hs : 2 ≤ B 2 (18 + c)) (d : Nat) (q s : Int) (hd : (d : Int) ≤ D) (q0 : 0 ≤ q) (q1 : q < p2 d) (s0 : 0 ≤ s) (s1 : s < 4) : B 11 ((c * 127 + (p2 d - 1 + q)) * 4 + s) = exX (B 2) c d q s := by
  have P := @p2_pos d
  have hb := p2_le (j := (d : Int)) (k := B 13 c) (by have := hE.2.2; omega)
  have a3 := h.2.2 (by have := hE.1; omega)
  have e : exOK B c (p2 d - 1 + q) := by
    by_cases z : p2 d - 1 + q = 0
    · rw [z]; exact a3.2.1
    · exact (a3.2.2 _ (by omega) (by omega)).2
  rw [e s s0 s1, hE.1]
  unfold exX
  exact exB_c _ (fun i i0 i1 => ⟨nd_cell h hE hs d q (s % 2) i hd q0 q1 (by omega) (by omega) i0 (by omega), nd_cell h hE hs d q 2 i hd q0 q1 (by omega) (by omega) i0 (by omega)⟩)
/-- the boxes of two cells of a figure meet -/
def meF (f : Int → Int) (c e : Int) (l q r : Int) : Prop := ∀ w, 0 ≤ w → w ≤ 1 →
  ¬ 0 < w64 (ceX f c l.toNat q w (exX f c l.toNat q w) * ceX f e l.toNat r 2 (exX f e l.toNat r (2 + w)) - ceX f e l.toNat r w (exX f e l.toNat r (2 + w)) * ceX f c l.toNat q 2 (exX f c l.toNat q w)) ∧
  ¬ w64 (ceX f c l.toNat q w (exX f c l.toNat q (2 + w)) * ceX f e l.toNat r 2 (exX f e l.toNat r w) - ceX f e l.toNat r w (exX f e l.toNat r w) * ceX f c l.toNat q 2 (exX f c l.toNat q (2 + w))) < 0
theorem mt_me {B : AA} {c e D : Int} (h : caOK B c) (hE : pltE B c D) (hs : 2 ≤ B 2 (18 + c)) (h' : caOK B e) (hE' : pltE B e D) (hs' : 2 ≤ B 2 (18 + e)) {l q r : Int} (l0 : 0 ≤ l) (l1 : l ≤ D) (q0 : 0 ≤ q) (q1 : q < p2 l) (r0 : 0 ≤ r) (r1 : r < p2 l) : mtX B c e l q r ↔ meF (B 2) c e l q r := by
  obtain ⟨d, rfl⟩ : ∃ d : Nat, l = d := ⟨l.toNat, by omega⟩
  unfold mtX meetP meF
  rw [show ((d : Int)).toNat = d by omega]
  have X := fun (w : Int) (w0 : 0 ≤ w) (w1 : w < 4) => ex_cell h hE hs d q w l1 q0 q1 w0 w1
  have Y := fun (w : Int) (w0 : 0 ≤ w) (w1 : w < 4) => ex_cell h' hE' hs' d r w l1 r0 r1 w0 w1
  have U := fun (w s : Int) (w0 : 0 ≤ w) (w1 : w ≤ 2) => nd_cell h hE hs d q w _ l1 q0 q1 w0 w1 (exX_b (f := B 2) (d := d) (q := q) (s := s) hs).1 (exX_b hs).2
  have V := fun (w s : Int) (w0 : 0 ≤ w) (w1 : w ≤ 2) => nd_cell h' hE' hs' d r w _ l1 r0 r1 w0 w1 (exX_b (f := B 2) (d := d) (q := r) (s := s) hs').1 (exX_b hs').2
  refine forall_congr' fun w => forall_congr' fun w0 => forall_congr' fun w1 => ?_
  rw [X w w0 (by omega), X (2 + w) (by omega) (by omega), Y w w0 (by omega), Y (2 + w) (by omega) (by omega), U w w w0 (by omega), U w (2 + w) w0 (by omega), U 2 w (by omega) (by omega), U 2 (2 + w) (by omega) (by omega), V w w w0 (by omega), V w (2 + w) w0 (by omega), V 2 w (by omega) (by omega), V 2 (2 + w) (by omega) (by omega)]
theorem prF_c {M N : Int → Int → Int → Prop} {D i j : Int} (h : ∀ l q r, 0 ≤ l → l ≤ D → 0 ≤ q → q < p2 l → 0 ≤ r → r < p2 l → (M l q r ↔ N l q r)) : ∀ (f : Nat) (l q r : Int), 0 ≤ l → l ≤ D → 0 ≤ q → q < p2 l → 0 ≤ r → r < p2 l → (prF M D f l q r i j ↔ prF N D f l q r i j)
  | 0, _, _, _, _, _, _, _, _, _ => Iff.rfl
  | f + 1, l, q, r, l0, l1, q0, q1, r0, r1 => by
    unfold prF
    rw [h l q r l0 l1 q0 q1 r0 r1]
    by_cases hl : D ≤ l
    · rw [if_pos hl, if_pos hl]
    · have ps := p2_s l0
      rw [if_neg hl, if_neg hl, prF_c h f (l + 1) (2 * q) (2 * r) (by omega) (by omega) (by omega) (by omega) (by omega) (by omega), prF_c h f (l + 1) (2 * q) (2 * r + 1) (by omega) (by omega) (by omega) (by omega) (by omega) (by omega), prF_c h f (l + 1) (2 * q + 1) (2 * r) (by omega) (by omega) (by omega) (by omega) (by omega) (by omega), prF_c h f (l + 1) (2 * q + 1) (2 * r + 1) (by omega) (by omega) (by omega) (by omega) (by omega) (by omega)]
/-- the pairs of two curves of a figure -/
def prX (f : Int → Int) (c e D i j : Int) : Prop := prF (meF f c e) D 7 0 0 0 i j
theorem prX_mt {B : AA} {c e D : Int} (h : caOK B c) (hE : pltE B c D) (hs : 2 ≤ B 2 (18 + c)) (h' : caOK B e) (hE' : pltE B e D) (hs' : 2 ≤ B 2 (18 + e)) (D0 : 0 ≤ D) {i j : Int} : prF (mtX B c e) D 7 0 0 0 i j ↔ prX (B 2) c e D i j :=
  prF_c (fun l q r l0 l1 q0 q1 r0 r1 => mt_me h hE hs h' hE' hs' l0 l1 q0 q1 r0 r1) 7 0 0 0 (by omega) D0 (by omega) (by rw [p2_0]; omega) (by omega) (by rw [p2_0]; omega)
/-- an exact or isolated root's cell at a depth -/
def refP (f : Int → Int) (c l : Int) (x : RT) (d : Int) : Int := if d ≤ x.2.1 then x.2.2 / p2 (x.2.1 - d) else if x.1 = 0 then x.2.2 * p2 (d - x.2.1) else fol (f (18 + c) - 1) (Int.toNat (d - x.2.1)) (cellF (cfL f c l) (f (18 + c) - 1) (Int.toNat x.2.1) x.2.2) x.2.2
/-! bounds of halves -/
theorem hS_b {x : Int → Int} {n m M : Int} (h : ∀ i, 0 ≤ i → i ≤ n → m ≤ x i ∧ x i ≤ M) (m0 : 0 ≤ m) : ∀ (s : Nat) (i : Int), 0 ≤ i → i ≤ n → m ≤ hS x s i ∧ hS x s i ≤ M * p2 s
  | 0, i, h0, h1 => by
    show m ≤ x i ∧ x i ≤ M * p2 0
    rw [p2_0]; have := h i h0 h1; omega
  | s + 1, i, h0, h1 => by
    have a := hS_b h m0 s i h0 h1
    have ps : p2 ((s + 1 : Nat) : Int) = 2 * p2 s := by rw [Int.natCast_add]; exact p2_s (by omega)
    rw [ps, show M * (2 * p2 (s : Int)) = 2 * (M * p2 s) by rw [Int.mul_left_comm]]
    unfold hS
    split
    · have b := hS_b h m0 s (i - 1) (by omega) (by omega)
      omega
    · omega
theorem hR_b {x : Int → Int} {n m M : Int} (h : ∀ i, 0 ≤ i → i ≤ n → m ≤ x i ∧ x i ≤ M) (m0 : 0 ≤ m) : ∀ (s : Nat) (i : Int), 0 ≤ i → i ≤ n → m ≤ hR x n s i ∧ hR x n s i ≤ M * p2 s
  | 0, i, h0, h1 => by
    show m ≤ x i ∧ x i ≤ M * p2 0
    rw [p2_0]; have := h i h0 h1; omega
  | s + 1, i, h0, h1 => by
    have a := hR_b h m0 s i h0 h1
    have ps : p2 ((s + 1 : Nat) : Int) = 2 * p2 s := by rw [Int.natCast_add]; exact p2_s (by omega)
    rw [ps, show M * (2 * p2 (s : Int)) = 2 * (M * p2 s) by rw [Int.mul_left_comm]]
    unfold hR
    split
    · have b := hR_b h m0 s (i + 1) (by omega) (by omega)
      omega
    · omega
theorem hS_0 (x : Int → Int) : ∀ s : Nat, hS x s 0 = x 0
  | 0 => rfl
  | s + 1 => by unfold hS; rw [if_neg (by omega)]; exact hS_0 x s
theorem hR_n (x : Int → Int) (n : Int) : ∀ s : Nat, hR x n s n = x n
  | 0 => rfl
  | s + 1 => by unfold hR; rw [if_neg (by omega)]; exact hR_n x n s
/-- what is stored at k has been summed up to k times only: halves of numbers up to M are up to M * 2^n -/
theorem hS_stop (x : Int → Int) (k : Int) : ∀ s : Nat, k ≤ s → hS x s k = hS x k.toNat k
  | 0, h => by
    have : k.toNat = 0 := by omega
    rw [this]
  | s + 1, h => by
    by_cases e : k = ((s + 1 : Nat) : Int)
    · rw [e]; rfl
    · conv => lhs; unfold hS
      rw [if_neg (by omega)]; exact hS_stop x k s (by omega)
theorem hR_stop (x : Int → Int) (n k : Int) (hk : k ≤ n) : ∀ s : Nat, n - k ≤ s → hR x n s k = hR x n (n - k).toNat k
  | 0, h => by
    have : (n - k).toNat = 0 := by omega
    rw [this]
  | s + 1, h => by
    by_cases e : n - k = ((s + 1 : Nat) : Int)
    · rw [e]; rfl
    · conv => lhs; unfold hR
      rw [if_neg (by omega)]; exact hR_stop x n k hk s (by omega)
theorem hv_b {x : Int → Int} {n m M z : Int} (h : ∀ i, 0 ≤ i → i ≤ n → m ≤ x i ∧ x i ≤ M) (m0 : 0 ≤ m) {k : Int} (k0 : 0 ≤ k) (k1 : k ≤ n) : m ≤ hv x n z k ∧ hv x n z k ≤ M * p2 n := by
  have up : ∀ y j : Int, 0 ≤ j → j ≤ n → m ≤ y → y ≤ M * p2 j → m ≤ y * p2 (n - j) ∧ y * p2 (n - j) ≤ M * p2 n := by
    intro y j j0 j1 y0 y1
    have P := @p2_pos (n - j)
    have a : y * 1 ≤ y * p2 (n - j) := Int.mul_le_mul_of_nonneg_left (by omega) (by omega)
    have b : y * p2 (n - j) ≤ M * p2 j * p2 (n - j) := Int.mul_le_mul_of_nonneg_right y1 (by omega)
    rw [Int.mul_assoc, ← p2_add j0 (by omega), show j + (n - j) = n by omega] at b
    omega
  unfold hv
  split
  · rw [hS_stop x k n.toNat (by omega)]
    have a := hS_b h m0 k.toNat k k0 k1
    rw [show ((k.toNat : Nat) : Int) = k by omega] at a
    exact up _ k k0 k1 a.1 a.2
  · rw [hR_stop x n k k1 n.toNat (by omega)]
    have a := hR_b h m0 (n - k).toNat k k0 k1
    rw [show (((n - k).toNat : Nat) : Int) = n - k by omega] at a
    have b := up _ (n - k) (by omega) (by omega) a.1 a.2
    rw [show n - (n - k) = k by omega] at b
    exact b
theorem cellF_b {x : Int → Int} {n m M : Int} (n0 : 0 ≤ n) (h : ∀ i, 0 ≤ i → i ≤ n → m ≤ x i ∧ x i ≤ M) (m0 : 0 ≤ m) : ∀ (d : Nat) (q i : Int), 0 ≤ i → i ≤ n → m ≤ cellF x n d q i ∧ cellF x n d q i ≤ M * p2 (n * d)
  | 0, _, i, h0, h1 => by
    show m ≤ x i ∧ x i ≤ M * p2 (n * 0)
    rw [Int.mul_zero, p2_0]; have := h i h0 h1; omega
  | d + 1, q, i, h0, h1 => by
    have a := hv_b (x := cellF x n d (q / 2)) (n := n) (m := m) (M := M * p2 (n * d)) (z := q % 2) (fun j j0 j1 => cellF_b n0 h m0 d (q / 2) j j0 j1) m0 h0 h1
    rw [Int.mul_assoc, ← p2_add (Int.mul_nonneg n0 (by omega)) n0] at a
    rw [show n * ((d + 1 : Nat) : Int) = n * d + n by rw [Int.natCast_add, Int.mul_add]; simp]
    exact a
theorem hmX_b {f : Int → Int} (h : fgOK f) {c k w : Int} (c0 : 0 ≤ c) (c1 : c < f 0) (k0 : 0 ≤ k) (k1 : k < f (18 + c)) (w0 : 0 ≤ w) (w1 : w ≤ 2) : 0 ≤ hmX f c k w ∧ hmX f c k w ≤ 60 ∧ (w = 2 → 1 ≤ hmX f c k w ∧ hmX f c k w ≤ 3) := by
  obtain ⟨a, b, d⟩ := (h.2.2.1 c c0 c1).2 k k0 k1
  unfold pxF at a b d
  unfold hmX
  split
  · rw [w32_id (by omega) (by omega)]; omega
  · have e : ∀ x y : Int, 0 ≤ x → x ≤ 20 → 1 ≤ y → y ≤ 3 → 0 ≤ y * x ∧ y * x ≤ 60 := fun x y x0 x1 y0 y1 => by
      have : y = 1 ∨ y = 2 ∨ y = 3 := by omega
      rcases this with rfl | rfl | rfl <;> omega
    rcases (show w = 0 ∨ w = 1 by omega) with rfl | rfl
    · have := e _ _ a.1 a.2 d.1 d.2
      rw [w32_id (by omega) (by omega)]; omega
    · have := e _ _ b.1 b.2 d.1 d.2
      rw [w32_id (by omega) (by omega)]; omega
theorem ceX_b {f : Int → Int} (h : fgOK f) {c k w q : Int} {d : Nat} (hd : d ≤ 6) (c0 : 0 ≤ c) (c1 : c < f 0) (k0 : 0 ≤ k) (k1 : k < f (18 + c)) (w0 : 0 ≤ w) (w1 : w ≤ 2) : 0 ≤ ceX f c d q w k ∧ ceX f c d q w k ≤ 60 * 262144 ∧ (w = 2 → 1 ≤ ceX f c d q w k ∧ ceX f c d q w k ≤ 3 * 262144) := by
  have hn := (h.2.2.1 c c0 c1).1
  have hp : p2 ((f (18 + c) - 1) * (d : Int)) ≤ 262144 := by
    have e : (f (18 + c) - 1) * (d : Int) ≤ 3 * 6 := Int.mul_le_mul (by omega) (by omega) (by omega) (by omega)
    exact p2_le e
  have P := @p2_pos ((f (18 + c) - 1) * (d : Int))
  have a := cellF_b (x := fun i => hmX f c i w) (n := f (18 + c) - 1) (m := 0) (M := 60) (by omega) (fun i i0 i1 => ⟨(hmX_b h c0 c1 i0 (by omega) w0 w1).1, (hmX_b h c0 c1 i0 (by omega) w0 w1).2.1⟩) (by omega) d q k k0 (by omega)
  have a2 : 60 * p2 ((f (18 + c) - 1) * (d : Int)) ≤ 60 * 262144 := by omega
  refine ⟨a.1, by unfold ceX; omega, fun hw => ?_⟩
  have b := cellF_b (x := fun i => hmX f c i w) (n := f (18 + c) - 1) (m := 1) (M := 3) (by omega) (fun i i0 i1 => (hmX_b h c0 c1 i0 (by omega) w0 w1).2.2 hw) (by omega) d q k k0 (by omega)
  unfold ceX; omega
