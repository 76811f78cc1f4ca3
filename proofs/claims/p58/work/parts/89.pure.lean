/-! cells are the curve's polynomials -/
theorem atI_c {g g' : Int → Int} {n i m : Int} (n1 : 1 ≤ n) (n3 : n ≤ 3) (h : ∀ k, 0 ≤ k → k ≤ n → g k = g' k) : atI g n i m = atI g' n i m := by
  unfold atI
  rcases (show n = 1 ∨ n = 2 ∨ n = 3 by omega) with rfl | rfl | rfl
  · rw [if_pos rfl, if_pos rfl, h 0 (by omega) (by omega), h 1 (by omega) (by omega)]
  · rw [if_neg (by decide), if_pos rfl, if_neg (by decide), if_pos rfl, h 0 (by omega) (by omega), h 1 (by omega) (by omega), h 2 (by omega) (by omega)]
  · rw [if_neg (by decide), if_neg (by decide), if_neg (by decide), if_neg (by decide), h 0 (by omega) (by omega), h 1 (by omega) (by omega), h 2 (by omega) (by omega), h 3 (by omega) (by omega)]
theorem at1 (g : Int → Int) (i m : Int) : atI g 1 i m = g 0 * (m - i) + g 1 * i := if_pos rfl
theorem at2 (g : Int → Int) (i m : Int) : atI g 2 i m = g 0 * (m - i) * (m - i) + 2 * g 1 * i * (m - i) + g 2 * i * i := by
  unfold atI; rw [if_neg (by decide), if_pos rfl]
theorem at3 (g : Int → Int) (i m : Int) : atI g 3 i m = g 0 * (m - i) * (m - i) * (m - i) + 3 * g 1 * i * (m - i) * (m - i) + 3 * g 2 * i * i * (m - i) + g 3 * i * i * i := by
  unfold atI; rw [if_neg (by decide), if_neg (by decide)]
theorem hv1_ (g : Int → Int) : (hv g 1 0 0 = 2 * g 0 ∧ hv g 1 0 1 = g 0 + g 1) ∧ hv g 1 1 0 = g 0 + g 1 ∧ hv g 1 1 1 = 2 * g 1 := by
  refine ⟨⟨?_, ?_⟩, ?_, ?_⟩
  · rw [hv_0 (by decide) (by decide)]; show g 0 * 2 = _; omega
  · rw [hv_0 (by decide) (by decide)]; show (g 0 + g 1) * 1 = _; omega
  · rw [hv_1 (by decide) (by decide)]; show (g 0 + g 1) * 1 = _; omega
  · rw [hv_1 (by decide) (by decide)]; show g 1 * 2 = _; omega
theorem hv2_ (g : Int → Int) : (hv g 2 0 0 = 4 * g 0 ∧ hv g 2 0 1 = 2 * (g 0 + g 1) ∧ hv g 2 0 2 = g 0 + 2 * g 1 + g 2) ∧ hv g 2 1 0 = g 0 + 2 * g 1 + g 2 ∧ hv g 2 1 1 = 2 * (g 1 + g 2) ∧ hv g 2 1 2 = 4 * g 2 := by
  refine ⟨⟨?_, ?_, ?_⟩, ?_, ?_, ?_⟩
  · rw [hv_0 (by decide) (by decide)]; show g 0 * 4 = _; omega
  · rw [hv_0 (by decide) (by decide)]; show (g 0 + g 1) * 2 = _; omega
  · rw [hv_0 (by decide) (by decide)]; show (g 0 + g 1 + (g 1 + g 2)) * 1 = _; omega
  · rw [hv_1 (by decide) (by decide)]; show (g 0 + g 1 + (g 1 + g 2)) * 1 = _; omega
  · rw [hv_1 (by decide) (by decide)]; show (g 1 + g 2) * 2 = _; omega
  · rw [hv_1 (by decide) (by decide)]; show g 2 * 4 = _; omega
theorem hv3_ (g : Int → Int) : (hv g 3 0 0 = 8 * g 0 ∧ hv g 3 0 1 = 4 * (g 0 + g 1) ∧ hv g 3 0 2 = 2 * (g 0 + 2 * g 1 + g 2) ∧ hv g 3 0 3 = g 0 + 3 * g 1 + 3 * g 2 + g 3) ∧ hv g 3 1 0 = g 0 + 3 * g 1 + 3 * g 2 + g 3 ∧ hv g 3 1 1 = 2 * (g 1 + 2 * g 2 + g 3) ∧ hv g 3 1 2 = 4 * (g 2 + g 3) ∧ hv g 3 1 3 = 8 * g 3 := by
  refine ⟨⟨?_, ?_, ?_, ?_⟩, ?_, ?_, ?_, ?_⟩
  · rw [hv_0 (by decide) (by decide)]; show g 0 * 8 = _; omega
  · rw [hv_0 (by decide) (by decide)]; show (g 0 + g 1) * 4 = _; omega
  · rw [hv_0 (by decide) (by decide)]; show (g 0 + g 1 + (g 1 + g 2)) * 2 = _; omega
  · rw [hv_0 (by decide) (by decide)]; show (g 0 + g 1 + (g 1 + g 2) + (g 1 + g 2 + (g 2 + g 3))) * 1 = _; omega
  · rw [hv_1 (by decide) (by decide)]; show (g 0 + g 1 + (g 1 + g 2) + (g 1 + g 2 + (g 2 + g 3))) * 1 = _; omega
  · rw [hv_1 (by decide) (by decide)]; show (g 1 + g 2 + (g 2 + g 3)) * 2 = _; omega
  · rw [hv_1 (by decide) (by decide)]; show (g 2 + g 3) * 4 = _; omega
  · rw [hv_1 (by decide) (by decide)]; show g 3 * 8 = _; omega
theorem at_hv {g : Int → Int} {n : Int} (n1 : 1 ≤ n) (n3 : n ≤ 3) (u v : Int) : atI (hv g n 0) n u v = atI g n u (2 * v) ∧ atI (hv g n 1) n u v = atI g n (v + u) (2 * v) := by
  rcases (show n = 1 ∨ n = 2 ∨ n = 3 by omega) with rfl | rfl | rfl
  · obtain ⟨⟨a, b⟩, c, d⟩ := hv1_ g
    rw [at1, at1, at1, at1, a, b, c, d]
    constructor <;> grind
  · obtain ⟨⟨a, b, c⟩, d, e, f⟩ := hv2_ g
    rw [at2, at2, at2, at2, a, b, c, d, e, f]
    constructor <;> grind
  · obtain ⟨⟨a, b, c, d⟩, e, f, i, j⟩ := hv3_ g
    rw [at3, at3, at3, at3, a, b, c, d, e, f, i, j]
    constructor <;> grind
theorem at_cell {g : Int → Int} {n : Int} (n1 : 1 ≤ n) (n3 : n ≤ 3) : ∀ (d : Nat) (q u v : Int), 0 ≤ q → q < p2 d → atI (cellF g n d q) n u v = atI g n (q * v + u) (p2 d * v)
  | 0, q, u, v, q0, q1 => by
    rw [show p2 ((0 : Nat) : Int) = 1 from rfl] at q1 ⊢
    rw [show q = 0 by omega, Int.one_mul, Int.zero_mul, Int.zero_add]
    rfl
  | d + 1, q, u, v, q0, q1 => by
    have ps : p2 ((d + 1 : Nat) : Int) = 2 * p2 d := by rw [Int.natCast_add]; exact p2_s (by omega)
    rw [ps] at q1 ⊢
    show atI (hv (cellF g n d (q / 2)) n (q % 2)) n u v = _
    have a := at_hv (g := cellF g n d (q / 2)) n1 n3 u v
    rcases (show q % 2 = 0 ∨ q % 2 = 1 by omega) with z | z
    · rw [z, a.1, at_cell n1 n3 d (q / 2) u (2 * v) (by omega) (by omega)]
      have e : q = 2 * (q / 2) := by omega
      generalize q / 2 = r at e
      subst e
      congr 1 <;> grind
    · rw [z, a.2, at_cell n1 n3 d (q / 2) (v + u) (2 * v) (by omega) (by omega)]
      have e : q = 2 * (q / 2) + 1 := by omega
      generalize q / 2 = r at e
      subst e
      congr 1 <;> grind
theorem at_0 {g : Int → Int} {n : Int} (n1 : 1 ≤ n) (n3 : n ≤ 3) : atI g n 0 1 = g 0 := by
  rcases (show n = 1 ∨ n = 2 ∨ n = 3 by omega) with rfl | rfl | rfl
  · rw [at1]; grind
  · rw [at2]; grind
  · rw [at3]; grind
theorem at_1 {g : Int → Int} {n : Int} (n1 : 1 ≤ n) (n3 : n ≤ 3) : atI g n 1 1 = g n := by
  rcases (show n = 1 ∨ n = 2 ∨ n = 3 by omega) with rfl | rfl | rfl
  · rw [at1]; grind
  · rw [at2]; grind
  · rw [at3]; grind
theorem ce_0 {g : Int → Int} {n q : Int} {d : Nat} (n1 : 1 ≤ n) (n3 : n ≤ 3) (q0 : 0 ≤ q) (q1 : q < p2 d) : cellF g n d q 0 = atI g n q (p2 d) := by
  rw [← at_0 (g := cellF g n d q) n1 n3, at_cell n1 n3 d q 0 1 q0 q1]; congr 1 <;> omega
theorem ce_n {g : Int → Int} {n q : Int} {d : Nat} (n1 : 1 ≤ n) (n3 : n ≤ 3) (q0 : 0 ≤ q) (q1 : q < p2 d) : cellF g n d q n = atI g n (q + 1) (p2 d) := by
  rw [← at_1 (g := cellF g n d q) n1 n3, at_cell n1 n3 d q 1 1 q0 q1]; congr 1 <;> omega
theorem ce_2 {g : Int → Int} {n q : Int} {d : Nat} (n1 : 1 ≤ n) (n3 : n ≤ 3) (q0 : 0 ≤ q) (q1 : q < p2 d) : atI (cellF g n d q) n 1 2 = atI g n (2 * q + 1) (2 * p2 d) := by
  rw [at_cell n1 n3 d q 1 2 q0 q1]; congr 1 <;> omega
theorem ce_4 {g : Int → Int} {n q : Int} {d : Nat} (n1 : 1 ≤ n) (n3 : n ≤ 3) (q0 : 0 ≤ q) (q1 : q < p2 d) : atI (cellF g n d q) n 1 4 = atI g n (4 * q + 1) (4 * p2 d) := by
  rw [at_cell n1 n3 d q 1 4 q0 q1]; congr 1 <;> omega
/-! boxes -/
theorem mle {a b c : Int} (h : a ≤ b) (c0 : 0 ≤ c) : a * c ≤ b * c := Int.mul_le_mul_of_nonneg_right h c0
theorem mlt {a b c : Int} (c0 : 0 < c) (h : a * c ≤ b * c) : a ≤ b := by
  by_cases z : a ≤ b
  · exact z
  · have := Int.mul_lt_mul_of_pos_right (show b < a by omega) c0; omega
/-- numbers and weights of a cell, in their bounds -/
def xwB (X W : Int → Int) (n : Int) : Prop := ∀ k, 0 ≤ k → k ≤ n → (0 ≤ X k ∧ X k ≤ 15728640) ∧ 1 ≤ W k ∧ W k ≤ 786432
theorem xw_m {X W : Int → Int} {n j k : Int} (h : xwB X W n) (j0 : 0 ≤ j) (j1 : j ≤ n) (k0 : 0 ≤ k) (k1 : k ≤ n) : 0 ≤ X j * W k ∧ X j * W k ≤ 15728640 * 786432 := by
  obtain ⟨⟨a, b⟩, -, -⟩ := h j j0 j1
  obtain ⟨-, c, d⟩ := h k k0 k1
  exact ⟨Int.mul_nonneg a (by omega), Int.mul_le_mul b d (by omega) (by omega)⟩
/-- the extreme one is extreme -/
theorem exB_x {X W : Int → Int} {n s : Int} (h : xwB X W n) : ∀ (m : Nat), (m : Int) ≤ n → ∀ k : Int, 0 ≤ k → k ≤ m → if s < 2 then X (exB X W s m) * W k ≤ X k * W (exB X W s m) else X k * W (exB X W s m) ≤ X (exB X W s m) * W k
  | 0, hm, k, k0, k1 => by
    rw [show k = 0 by omega]
    show if s < 2 then X 0 * W 0 ≤ X 0 * W 0 else X 0 * W 0 ≤ X 0 * W 0
    split <;> exact Int.le_refl _
  | m + 1, hm, k, k0, k1 => by
    have eb := exB_b X W s m
    have ih := exB_x (s := s) h m (by omega)
    have w1 := xw_m h (show 0 ≤ (m : Int) + 1 by omega) (by omega) eb.1 (by omega)
    have w2 := xw_m h eb.1 (by omega) (show 0 ≤ (m : Int) + 1 by omega) (by omega)
    have pe := (h _ eb.1 (by omega)).2
    have pm := (h ((m : Int) + 1) (by omega) (by omega)).2
    have pk := (h k k0 (by omega)).2
    unfold exB
    rw [w64_id (x := X (m + 1) * W (exB X W s m) - X (exB X W s m) * W (m + 1)) (by omega) (by omega)]
    generalize exB X W s m = e at *
    by_cases hs : s < 2
    · simp only [if_pos hs] at ih ⊢
      by_cases z : X (m + 1) * W e - X e * W (m + 1) < 0
      · rw [if_pos z]
        by_cases kk : k ≤ m
        · have a := ih k k0 kk
          have b := mle a (c := W (m + 1)) (by omega)
          have c := mle (show X (m + 1) * W e ≤ X e * W (m + 1) by omega) (c := W k) (by omega)
          refine mlt (c := W e) (by omega) ?_
          have e1 : X (m + 1) * W k * W e = X (m + 1) * W e * W k := by grind
          have e2 : X k * W (m + 1) * W e = X k * W e * W (m + 1) := by grind
          have e3 : X e * W (m + 1) * W k = X e * W k * W (m + 1) := by grind
          omega
        · rw [show k = (m : Int) + 1 by omega]; exact Int.le_refl _
      · rw [if_neg z]
        by_cases kk : k ≤ m
        · exact ih k k0 kk
        · rw [show k = (m : Int) + 1 by omega]; omega
    · simp only [if_neg hs] at ih ⊢
      by_cases z : 0 < X (m + 1) * W e - X e * W (m + 1)
      · rw [if_pos z]
        by_cases kk : k ≤ m
        · have a := ih k k0 kk
          have b := mle a (c := W (m + 1)) (by omega)
          have c := mle (show X e * W (m + 1) ≤ X (m + 1) * W e by omega) (c := W k) (by omega)
          refine mlt (c := W e) (by omega) ?_
          have e1 : X (m + 1) * W k * W e = X (m + 1) * W e * W k := by grind
          have e2 : X k * W (m + 1) * W e = X k * W e * W (m + 1) := by grind
          have e3 : X e * W (m + 1) * W k = X e * W k * W (m + 1) := by grind
          omega
        · rw [show k = (m : Int) + 1 by omega]; exact Int.le_refl _
      · rw [if_neg z]
        by_cases kk : k ≤ m
        · exact ih k k0 kk
        · rw [show k = (m : Int) + 1 by omega]; omega
/-- a side in hundredths: rounded down for the least, up for the greatest -/
def sdI (X W : Int → Int) (s e : Int) : Int := if s < 2 then 100 * X e / W e else (100 * X e + W e - 1) / W e
theorem sd_lo {X W : Int → Int} {n s e k : Int} (h : xwB X W n) (e0 : 0 ≤ e) (e1 : e ≤ n) (k0 : 0 ≤ k) (k1 : k ≤ n) (hs : s < 2) (hx : X e * W k ≤ X k * W e) : sdI X W s e * W k ≤ 100 * X k := by
  unfold sdI; rw [if_pos hs]
  have pe := (h e e0 e1).2
  have pk := (h k k0 k1).2
  have d := Int.mul_ediv_add_emod (100 * X e) (W e)
  have r := Int.emod_nonneg (100 * X e) (b := W e) (by omega)
  generalize 100 * X e / W e = i at d ⊢
  have a : i * W e ≤ 100 * X e := by rw [Int.mul_comm i]; omega
  have b := mle a (c := W k) (by omega)
  refine mlt (c := W e) (by omega) ?_
  have e1 : i * W k * W e = i * W e * W k := by grind
  have e2 : 100 * X k * W e = 100 * (X k * W e) := by grind
  have e3 : 100 * X e * W k = 100 * (X e * W k) := by grind
  omega
theorem sd_hi {X W : Int → Int} {n s e k : Int} (h : xwB X W n) (e0 : 0 ≤ e) (e1 : e ≤ n) (k0 : 0 ≤ k) (k1 : k ≤ n) (hs : ¬ s < 2) (hx : X k * W e ≤ X e * W k) : 100 * X k ≤ sdI X W s e * W k := by
  unfold sdI; rw [if_neg hs]
  have pe := (h e e0 e1).2
  have pk := (h k k0 k1).2
  have d := Int.mul_ediv_add_emod (100 * X e + W e - 1) (W e)
  have r := Int.emod_lt_of_pos (100 * X e + W e - 1) (b := W e) (by omega)
  generalize (100 * X e + W e - 1) / W e = i at d ⊢
  have a : 100 * X e ≤ i * W e := by rw [Int.mul_comm i]; omega
  have b := mle a (c := W k) (by omega)
  refine mlt (c := W e) (by omega) ?_
  have e1 : i * W k * W e = i * W e * W k := by grind
  have e2 : 100 * X k * W e = 100 * (X k * W e) := by grind
  have e3 : 100 * X e * W k = 100 * (X e * W k) := by grind
  omega
theorem sd_at {X W : Int → Int} {n s e : Int} (h : xwB X W n) (e0 : 0 ≤ e) (e1 : e ≤ n) : if s < 2 then 100 * X e < (sdI X W s e + 1) * W e else (sdI X W s e - 1) * W e < 100 * X e := by
  have pe := (h e e0 e1).2
  unfold sdI
  by_cases hs : s < 2
  · simp only [if_pos hs]
    have d := Int.mul_ediv_add_emod (100 * X e) (W e)
    have r := Int.emod_lt_of_pos (100 * X e) (b := W e) (by omega)
    rw [Int.add_mul, Int.mul_comm (100 * X e / W e)]
    omega
  · simp only [if_neg hs]
    have d := Int.mul_ediv_add_emod (100 * X e + W e - 1) (W e)
    have r := Int.emod_nonneg (100 * X e + W e - 1) (b := W e) (by omega)
    rw [Int.sub_mul, Int.mul_comm ((100 * X e + W e - 1) / W e)]
    omega
theorem sd_b {X W : Int → Int} {n s e : Int} (h : xwB X W n) (e0 : 0 ≤ e) (e1 : e ≤ n) : 0 ≤ sdI X W s e ∧ sdI X W s e ≤ 1573650432 := by
  obtain ⟨⟨a, b⟩, c, d⟩ := h e e0 e1
  unfold sdI
  have q : ∀ y, 0 ≤ y → y ≤ 1573650432 → 0 ≤ y / W e ∧ y / W e ≤ 1573650432 := fun y y0 y1 => by
    have h4 : 0 ≤ y / W e := Int.ediv_nonneg y0 (by omega)
    have h5 : y / W e ≤ y := Int.ediv_le_self _ y0
    omega
  split
  · exact q _ (by omega) (by omega)
  · exact q _ (by omega) (by omega)
