/-! the hull's walk ends: vectors in a half plane -/
def Hv (u v x y : Int) : Prop := 0 < u * y - v * x ∨ (u * y - v * x = 0 ∧ u * x + v * y < 0)
def Gv (bx bY kx ky : Int) : Prop := 0 < bx * ky - bY * kx ∨ (bx * ky - bY * kx = 0 ∧ kx * kx + ky * ky ≤ bx * bx + bY * bY)
def Ev (bx bY kx ky : Int) : Prop := 0 < bx * ky - bY * kx ∨ (bx * ky - bY * kx = 0 ∧ 0 < bx * kx + bY * ky ∧ bx * kx + bY * ky ≤ bx * bx + bY * bY)
theorem hpn {a b : Int} (h : 0 < a) (h2 : b < 0) : a * b < 0 := Int.mul_neg_of_pos_of_neg h h2
theorem hnp {a b : Int} (h : a < 0) (h2 : 0 < b) : a * b < 0 := Int.mul_neg_of_neg_of_pos h h2
theorem hT {ab bb ak bk aj bj sb sk sj : Int} (Hb : 0 < ab ∨ (ab = 0 ∧ bb < 0)) (Hk : 0 < ak ∨ (ak = 0 ∧ bk < 0)) (Hj : 0 < aj ∨ (aj = 0 ∧ bj < 0)) (g1 : 0 < bb * ak - ab * bk ∨ (bb * ak - ab * bk = 0 ∧ sk ≤ sb)) (g2 : 0 < bk * aj - ak * bj ∨ (bk * aj - ak * bj = 0 ∧ sj ≤ sk)) : 0 < bb * aj - ab * bj ∨ (bb * aj - ab * bj = 0 ∧ sj ≤ sb) := by
  rcases Hk with hk | ⟨rfl, hk⟩
  · have id : ak * (bb * aj - ab * bj) = aj * (bb * ak - ab * bk) + ab * (bk * aj - ak * bj) := by grind
    have n1 : 0 ≤ aj * (bb * ak - ab * bk) := Int.mul_nonneg (by omega) (by omega)
    have n2 : 0 ≤ ab * (bk * aj - ak * bj) := Int.mul_nonneg (by omega) (by omega)
    rcases Int.lt_trichotomy (bb * aj - ab * bj) 0 with z | z | z
    · have := hpn hk z; omega
    · refine Or.inr ⟨z, ?_⟩
      rw [z, Int.mul_zero] at id
      rcases Hj with hj | ⟨rfl, hj⟩
      · rcases Hb with hb | ⟨rfl, hb⟩
        · have e1 : aj * (bb * ak - ab * bk) = 0 := by omega
          have e2 : ab * (bk * aj - ak * bj) = 0 := by omega
          rcases Int.mul_eq_zero.mp e1 with y1 | y1 <;> rcases Int.mul_eq_zero.mp e2 with y2 | y2 <;> omega
        · have := hnp hb hj; omega
      · rcases Hb with hb | ⟨rfl, hb⟩
        · have := hpn hb hj; omega
        · have := hnp hb hk; omega
    · exact Or.inl z
  · have q : bk * aj ≤ 0 := by
      rcases Hj with hj | ⟨rfl, hj⟩
      · have := hnp hk hj; omega
      · omega
    rcases Hj with hj | ⟨rfl, hj⟩
    · have := hnp hk hj; omega
    · rcases Hb with hb | ⟨rfl, hb⟩
      · have := hpn hb hj; omega
      · omega
theorem Gv_N {N C q p : Int} (h : 0 < N) : (0 < C ∨ (C = 0 ∧ q ≤ p)) ↔ (0 < N * C ∨ (N * C = 0 ∧ N * q ≤ N * p)) := by
  have a : 0 < N * C ↔ 0 < C := ⟨fun z => by
    rcases Int.lt_trichotomy C 0 with y | y | y
    · have := hpn h y; omega
    · rw [y] at z; omega
    · exact y, fun z => Int.mul_pos h z⟩
  have b : N * C = 0 ↔ C = 0 := ⟨fun z => by
    rcases Int.mul_eq_zero.mp z with y | y <;> omega, fun z => by rw [z, Int.mul_zero]⟩
  have c : N * q ≤ N * p ↔ q ≤ p := ⟨fun z => Int.le_of_mul_le_mul_left z h, fun z => Int.mul_le_mul_of_nonneg_left z (Int.le_of_lt h)⟩
  rw [a, b, c]
theorem Gv_t {u v bx bY kx ky jx jy : Int} (hN : 0 < u * u + v * v) (Hb : Hv u v bx bY) (Hk : Hv u v kx ky) (Hj : Hv u v jx jy) (g1 : Gv bx bY kx ky) (g2 : Gv kx ky jx jy) : Gv bx bY jx jy := by
  have cv : ∀ p q r s : Int, (u * u + v * v) * (p * s - q * r) = (u * p + v * q) * (u * s - v * r) - (u * q - v * p) * (u * r + v * s) := fun p q r s => by grind
  unfold Gv at *
  rw [Gv_N hN, cv] at g1 g2 ⊢
  exact hT Hb Hk Hj g1 g2
theorem Gv_T {bx bY kx ky : Int} (h : ¬ Gv bx bY kx ky) : Gv kx ky bx bY := by
  have e : kx * bY - ky * bx = -(bx * ky - bY * kx) := by grind
  unfold Gv at *
  rw [e]
  omega
theorem Gv_r {x y : Int} : Gv x y x y := Or.inr ⟨by grind, Int.le_refl _⟩
theorem sqle {a b : Int} (hb : 0 ≤ b) (h : a * a ≤ b * b) : a ≤ b := by
  rcases Int.lt_or_le b a with z | z
  · have : b * b < a * a := Int.lt_of_le_of_lt (Int.mul_le_mul_of_nonneg_left (Int.le_of_lt z) hb) (Int.mul_lt_mul_of_pos_right z (by omega))
    omega
  · exact z
theorem Ev_of {u v bx bY kx ky : Int} (hN : 0 < u * u + v * v) (Hb : Hv u v bx bY) (Hk : Hv u v kx ky) (g : Gv bx bY kx ky) : Ev bx bY kx ky := by
  rcases g with g | ⟨g, q⟩
  · exact Or.inl g
  · refine Or.inr ⟨g, ?_, ?_⟩
    · have cv : (u * u + v * v) * (bx * ky - bY * kx) = (u * bx + v * bY) * (u * ky - v * kx) - (u * bY - v * bx) * (u * kx + v * ky) := by grind
      have dv : (u * u + v * v) * (bx * kx + bY * ky) = (u * bY - v * bx) * (u * ky - v * kx) + (u * bx + v * bY) * (u * kx + v * ky) := by grind
      rw [g, Int.mul_zero] at cv
      have pos : 0 < (u * u + v * v) * (bx * kx + bY * ky) := by
        rw [dv]
        unfold Hv at Hb Hk
        generalize u * bY - v * bx = ab at *; generalize u * bx + v * bY = bb at *
        generalize u * ky - v * kx = ak at *; generalize u * kx + v * ky = bk at *
        rcases Hb with hb | ⟨rfl, hb⟩
        · rcases Hk with hk | ⟨rfl, hk⟩
          · have p1 := Int.mul_pos hb hk
            have p2 : 0 ≤ bb * bk := by
              rcases Int.lt_or_le (bb * bk) 0 with z | z
              · have e : ab * (bb * bk) = ak * (bb * bb) := by grind
                have := hpn hb z
                have s : 0 ≤ bb * bb := by
                  rcases Int.le_total 0 bb with y | y
                  · exact Int.mul_nonneg y y
                  · exact Int.mul_nonneg_of_nonpos_of_nonpos y y
                have := Int.mul_nonneg (Int.le_of_lt hk) s
                omega
              · exact z
            omega
          · have := hpn hb hk; omega
        · rcases Hk with hk | ⟨rfl, hk⟩
          · have := hnp hb hk; omega
          · have := Int.mul_pos_of_neg_of_neg hb hk; omega
      rcases Int.lt_or_le 0 (bx * kx + bY * ky) with z | z
      · exact z
      · have := Int.mul_nonpos_of_nonneg_of_nonpos (Int.le_of_lt hN) z
        omega
    · have id : (bx * kx + bY * ky) * (bx * kx + bY * ky) + (bx * ky - bY * kx) * (bx * ky - bY * kx) = (bx * bx + bY * bY) * (kx * kx + ky * ky) := by grind
      rw [g, Int.mul_zero, Int.add_zero] at id
      have s : ∀ x : Int, 0 ≤ x * x := fun x => by
        rcases Int.le_total 0 x with y | y
        · exact Int.mul_nonneg y y
        · exact Int.mul_nonneg_of_nonpos_of_nonpos y y
      have m0 : 0 ≤ bx * bx + bY * bY := Int.add_nonneg (s bx) (s bY)
      refine sqle m0 ?_
      rw [id]
      exact Int.mul_le_mul_of_nonneg_left q m0
theorem sq_0 {x y : Int} (h : x * x + y * y = 0) : x = 0 ∧ y = 0 := by
  have s : ∀ x : Int, 0 ≤ x * x := fun x => by
    rcases Int.le_total 0 x with y | y
    · exact Int.mul_nonneg y y
    · exact Int.mul_nonneg_of_nonpos_of_nonpos y y
  have := s x; have := s y
  exact ⟨by rcases Int.mul_eq_zero.mp (show x * x = 0 by omega) with z | z <;> exact z, by rcases Int.mul_eq_zero.mp (show y * y = 0 by omega) with z | z <;> exact z⟩
theorem sq_p {x y : Int} (h : ¬ (x = 0 ∧ y = 0)) : 0 < x * x + y * y := by
  have s : ∀ x : Int, 0 ≤ x * x := fun x => by
    rcases Int.le_total 0 x with y | y
    · exact Int.mul_nonneg y y
    · exact Int.mul_nonneg_of_nonpos_of_nonpos y y
  have := s x; have := s y
  rcases Int.lt_or_le 0 (x * x + y * y) with z | z
  · exact z
  · exact absurd (sq_0 (show x * x + y * y = 0 by omega)) h
/-- from the next corner all lies in a half plane again -/
theorem Ev_H {ux uy kx ky : Int} (h0 : ¬ (ux = 0 ∧ uy = 0)) (h : Ev ux uy kx ky) (h2 : ¬ (kx = ux ∧ ky = uy)) : Hv ux uy (kx - ux) (ky - uy) := by
  have e1 : ux * (ky - uy) - uy * (kx - ux) = ux * ky - uy * kx := by grind
  have e2 : ux * (kx - ux) + uy * (ky - uy) = (ux * kx + uy * ky) - (ux * ux + uy * uy) := by grind
  unfold Hv
  rw [e1, e2]
  rcases h with h | ⟨h, hd, hl⟩
  · exact Or.inl h
  · refine Or.inr ⟨h, ?_⟩
    have m := sq_p h0
    have i1 : (ux * ux + uy * uy) * kx = (ux * kx + uy * ky) * ux - (ux * ky - uy * kx) * uy := by grind
    have i2 : (ux * ux + uy * uy) * ky = (ux * kx + uy * ky) * uy + (ux * ky - uy * kx) * ux := by grind
    rw [h] at i1 i2
    rcases Int.lt_or_le (ux * kx + uy * ky) (ux * ux + uy * uy) with z | z
    · omega
    · have e : ux * kx + uy * ky = ux * ux + uy * uy := by omega
      rw [e] at i1 i2
      have j1 : kx = ux := Int.eq_of_mul_eq_mul_left (a := ux * ux + uy * uy) (by omega) (by rw [i1, Int.zero_mul, Int.sub_zero])
      have j2 : ky = uy := Int.eq_of_mul_eq_mul_left (a := ux * ux + uy * uy) (by omega) (by rw [i2, Int.zero_mul, Int.add_zero])
      exact absurd ⟨j1, j2⟩ h2
theorem Ev_H0 {ux uy : Int} (h0 : ¬ (ux = 0 ∧ uy = 0)) : Hv ux uy (0 - ux) (0 - uy) := by
  have e1 : ux * (0 - uy) - uy * (0 - ux) = 0 := by grind
  have e2 : ux * (0 - ux) + uy * (0 - uy) = -(ux * ux + uy * uy) := by grind
  have := sq_p h0
  exact Or.inr ⟨e1, by rw [e2]; omega⟩
/-- two corners don't share their next one -/
theorem Ev_inj {wx wy zx zy : Int} (h : Ev wx wy zx zy) (h2 : Ev (wx - zx) (wy - zy) (0 - zx) (0 - zy)) (h0 : ¬ (zx = 0 ∧ zy = 0)) : False := by
  have e1 : (wx - zx) * (0 - zy) - (wy - zy) * (0 - zx) = -(wx * zy - wy * zx) := by grind
  have e2 : (wx - zx) * (0 - zx) + (wy - zy) * (0 - zy) = (zx * zx + zy * zy) - (wx * zx + wy * zy) := by grind
  unfold Ev at h h2
  rw [e1, e2] at h2
  rcases h with h | ⟨h, hd, hl⟩
  · omega
  · rcases h2 with h2 | ⟨-, hd2, -⟩
    · omega
    · have id : (wx * zx + wy * zy) * (wx * zx + wy * zy) + (wx * zy - wy * zx) * (wx * zy - wy * zx) = (wx * wx + wy * wy) * (zx * zx + zy * zy) := by grind
      rw [h, Int.mul_zero, Int.add_zero] at id
      have l1 : (wx * zx + wy * zy) * (wx * zx + wy * zy) < (wx * zx + wy * zy) * (zx * zx + zy * zy) := Int.mul_lt_mul_of_pos_left (by omega) hd
      have l2 : (wx * zx + wy * zy) * (zx * zx + zy * zy) ≤ (wx * wx + wy * wy) * (zx * zx + zy * zy) := Int.mul_le_mul_of_nonneg_right hl (by omega)
      omega
/-! the scan for the next corner -/
abbrev spP (f : Int → Int) (c k a : Int) : Prop := pxF f c k 0 = pxF f c a 0 ∧ pxF f c k 1 = pxF f c a 1
def pB (f : Int → Int) (c n : Int) : Prop := ∀ k, 0 ≤ k → k < n → ∀ w, 0 ≤ w → w ≤ 1 → 0 ≤ pxF f c k w ∧ pxF f c k w ≤ 20
def GA (f : Int → Int) (c a b k : Int) : Prop := Gv (pxF f c b 0 - pxF f c a 0) (pxF f c b 1 - pxF f c a 1) (pxF f c k 0 - pxF f c a 0) (pxF f c k 1 - pxF f c a 1)
def HW (f : Int → Int) (c n u v a : Int) : Prop := 0 < u * u + v * v ∧ ∀ k, 0 ≤ k → k < n → ¬ spP f c k a → Hv u v (pxF f c k 0 - pxF f c a 0) (pxF f c k 1 - pxF f c a 1)
def Ed (f : Int → Int) (c n a b : Int) : Prop := ¬ spP f c b a ∧ ∀ k, 0 ≤ k → k < n → ¬ spP f c k a → Ev (pxF f c b 0 - pxF f c a 0) (pxF f c b 1 - pxF f c a 1) (pxF f c k 0 - pxF f c a 0) (pxF f c k 1 - pxF f c a 1)
def FI (f : Int → Int) (c n b : Int) : Prop := ∀ k, 0 ≤ k → k < n → spP f c k b → b ≤ k
theorem fa_w {f : Int → Int} {c a b : Int} (ha : ∀ w, 0 ≤ w → w ≤ 1 → 0 ≤ pxF f c a w ∧ pxF f c a w ≤ 20) (hb : ∀ w, 0 ≤ w → w ≤ 1 → 0 ≤ pxF f c b w ∧ pxF f c b w ≤ 20) : w32 (faF f c a b) = faF f c a b := by
  have a0 := ha 0 (by decide) (by decide); have a1 := ha 1 (by decide) (by decide)
  have b0 := hb 0 (by decide) (by decide); have b1 := hb 1 (by decide) (by decide)
  have m : ∀ p : Int, -20 ≤ p → p ≤ 20 → -400 ≤ p * p ∧ p * p ≤ 400 := fun p p0 p1 => by
    have e : (p * p).natAbs ≤ 20 * 20 := by rw [Int.natAbs_mul]; exact Nat.mul_le_mul (by omega) (by omega)
    omega
  have m1 := m (pxF f c b 0 - pxF f c a 0) (by omega) (by omega)
  have m2 := m (pxF f c b 1 - pxF f c a 1) (by omega) (by omega)
  unfold faF
  exact w32_id (by omega) (by omega)
theorem ot_iff {f : Int → Int} {c a b k : Int} (ha : ∀ w, 0 ≤ w → w ≤ 1 → 0 ≤ pxF f c a w ∧ pxF f c a w ≤ 20) (hb : ∀ w, 0 ≤ w → w ≤ 1 → 0 ≤ pxF f c b w ∧ pxF f c b w ≤ 20) (hk : ∀ w, 0 ≤ w → w ≤ 1 → 0 ≤ pxF f c k w ∧ pxF f c k w ≤ 20) : otF f c a b k ↔ ¬ GA f c a b k := by
  have tn := tn_w ha hb hk
  have w1 := fa_w ha hb
  have w2 := fa_w ha hk
  have eg : GA f c a b k ↔ (0 < tnF f c a b k ∨ (tnF f c a b k = 0 ∧ faF f c a k ≤ faF f c a b)) := Iff.rfl
  rw [eg]
  show (w32 (tnF f c a b k) < 0 ∨ w32 (tnF f c a b k) = 0 ∧ w32 (dsF f c a b) < w32 (dsF f c a k)) ↔ _
  by_cases t : tnF f c a b k = 0
  · have fi := far_iff ha hb hk (by rw [tn]; exact t)
    rw [w1, w2] at fi
    rw [fi, tn]
    omega
  · rw [tn]
    omega
theorem ds_p {f : Int → Int} {c a k : Int} (ha : ∀ w, 0 ≤ w → w ≤ 1 → 0 ≤ pxF f c a w ∧ pxF f c a w ≤ 20) (hk : ∀ w, 0 ≤ w → w ≤ 1 → 0 ≤ pxF f c k w ∧ pxF f c k w ≤ 20) : 0 < w32 (dsF f c a k) ↔ ¬ spP f c k a := by
  have a0 := ha 0 (by decide) (by decide); have a1 := ha 1 (by decide) (by decide)
  have k0 := hk 0 (by decide) (by decide); have k1 := hk 1 (by decide) (by decide)
  rw [ds_iff ha hk, w32_id (x := pxF f c k 0) (by omega) (by omega), w32_id (x := pxF f c a 0) (by omega) (by omega), w32_id (x := pxF f c k 1) (by omega) (by omega), w32_id (x := pxF f c a 1) (by omega) (by omega)]
theorem sc_ok {f : Int → Int} {c n a u v : Int} (pb : pB f c n) (a0 : 0 ≤ a) (an : a < n) (hw : HW f c n u v a) : ∀ m : Nat, (m : Int) ≤ n → (caF f c a m = -1 ∧ ∀ k, 0 ≤ k → k < (m : Int) → spP f c k a) ∨ ((0 ≤ caF f c a m ∧ caF f c a m < (m : Int)) ∧ ¬ spP f c (caF f c a m) a ∧ (∀ k, 0 ≤ k → k < (m : Int) → ¬ spP f c k a → GA f c a (caF f c a m) k) ∧ ∀ k, 0 ≤ k → k < (m : Int) → spP f c k (caF f c a m) → caF f c a m ≤ k)
  | 0, _ => Or.inl ⟨rfl, fun k h0 h1 => by omega⟩
  | m + 1, hm => by
    have ih := sc_ok pb a0 an hw m (by omega)
    have hm2 : (m : Int) < n := by omega
    have ds := ds_p (pb a a0 an) (pb m (by omega) hm2)
    unfold caF
    generalize caF f c a m = b at ih ⊢
    have ec : ((m + 1 : Nat) : Int) = (m : Int) + 1 := by omega
    rw [ec]
    rcases ih with ⟨e, i1⟩ | ⟨i0, i1, i2, i3⟩
    · by_cases z : spP f c m a
      · rw [if_neg (fun y => (ds.mp y.1) z)]
        refine Or.inl ⟨e, fun k h0 h1 => ?_⟩
        by_cases y : k = m
        · rw [y]; exact z
        · exact i1 k h0 (by omega)
      · rw [if_pos ⟨ds.mpr z, Or.inl e⟩]
        refine Or.inr ⟨by omega, z, fun k h0 h1 hk => ?_, fun k h0 h1 hk => ?_⟩
        · by_cases y : k = m
          · rw [y]; exact Gv_r
          · exact absurd (i1 k h0 (by omega)) hk
        · by_cases y : k = m
          · omega
          · have i := i1 k h0 (by omega)
            exact absurd ⟨hk.1.symm.trans i.1, hk.2.symm.trans i.2⟩ z
    · have ot := ot_iff (pb a a0 an) (pb b i0.1 (by omega)) (pb m (by omega) hm2)
      by_cases z : 0 < w32 (dsF f c a m) ∧ (b = -1 ∨ otF f c a b m)
      · rw [if_pos z]
        have nz := ds.mp z.1
        have ng := ot.mp (z.2.resolve_left (by omega))
        refine Or.inr ⟨by omega, nz, fun k h0 h1 hk => ?_, fun k h0 h1 hk => ?_⟩
        · by_cases y : k = m
          · rw [y]; exact Gv_r
          · exact Gv_t hw.1 (hw.2 m (by omega) hm2 nz) (hw.2 b i0.1 (by omega) i1) (hw.2 k h0 (by omega) hk) (Gv_T ng) (i2 k h0 (by omega) hk)
        · by_cases y : k = m
          · omega
          · have g := i2 k h0 (by omega) (fun s => nz ⟨hk.1.symm.trans s.1, hk.2.symm.trans s.2⟩)
            unfold GA at g ng
            rw [hk.1, hk.2] at g
            exact absurd g ng
      · rw [if_neg z]
        refine Or.inr ⟨by omega, i1, fun k h0 h1 hk => ?_, fun k h0 h1 hk => ?_⟩
        · by_cases y : k = m
          · rw [y] at hk ⊢
            by_cases g : GA f c a b m
            · exact g
            · exact absurd ⟨ds.mpr hk, Or.inr (ot.mpr g)⟩ z
          · exact i2 k h0 (by omega) hk
        · by_cases y : k = m
          · omega
          · exact i3 k h0 (by omega) hk
/-- one step of the walk -/
theorem wk_ok {f : Int → Int} {c n a u v : Int} (pb : pB f c n) (n0 : 0 ≤ n) (a0 : 0 ≤ a) (an : a < n) (hw : HW f c n u v a) : (caF f c a (Int.toNat n) = -1) ∨ ((0 ≤ caF f c a (Int.toNat n) ∧ caF f c a (Int.toNat n) < n) ∧ Ed f c n a (caF f c a (Int.toNat n)) ∧ FI f c n (caF f c a (Int.toNat n)) ∧ HW f c n (pxF f c (caF f c a (Int.toNat n)) 0 - pxF f c a 0) (pxF f c (caF f c a (Int.toNat n)) 1 - pxF f c a 1) (caF f c a (Int.toNat n))) := by
  have e : ((Int.toNat n : Nat) : Int) = n := Int.toNat_of_nonneg n0
  have sc := sc_ok pb a0 an hw (Int.toNat n) (by omega)
  rw [e] at sc
  generalize caF f c a (Int.toNat n) = b at sc ⊢
  rcases sc with ⟨e, -⟩ | ⟨i0, i1, i2, i3⟩
  · exact Or.inl e
  · have hne : ¬ (pxF f c b 0 - pxF f c a 0 = 0 ∧ pxF f c b 1 - pxF f c a 1 = 0) := fun z => i1 ⟨by omega, by omega⟩
    have ed : Ed f c n a b := ⟨i1, fun k h0 h1 hk => Ev_of hw.1 (hw.2 b i0.1 i0.2 i1) (hw.2 k h0 h1 hk) (i2 k h0 h1 hk)⟩
    refine Or.inr ⟨i0, ed, i3, sq_p hne, fun k h0 h1 hk => ?_⟩
    by_cases z : spP f c k a
    · have h := Ev_H0 hne
      rw [show 0 - (pxF f c b 0 - pxF f c a 0) = pxF f c k 0 - pxF f c b 0 by rw [z.1]; omega, show 0 - (pxF f c b 1 - pxF f c a 1) = pxF f c k 1 - pxF f c b 1 by rw [z.2]; omega] at h
      exact h
    · have h := Ev_H hne (ed.2 k h0 h1 z) (fun y => hk ⟨by omega, by omega⟩)
      rw [show pxF f c k 0 - pxF f c a 0 - (pxF f c b 0 - pxF f c a 0) = pxF f c k 0 - pxF f c b 0 by omega, show pxF f c k 1 - pxF f c a 1 - (pxF f c b 1 - pxF f c a 1) = pxF f c k 1 - pxF f c b 1 by omega] at h
      exact h
theorem Ed_inj {f : Int → Int} {c n a a' b : Int} (ha : 0 ≤ a ∧ a < n) (ha' : 0 ≤ a' ∧ a' < n) (h : Ed f c n a b) (h' : Ed f c n a' b) : spP f c a' a := by
  by_cases z : spP f c a' a
  · exact z
  · have v1 := h.2 a' ha'.1 ha'.2 z
    have v2 := h'.2 a ha.1 ha.2 (fun y => z ⟨y.1.symm, y.2.symm⟩)
    rw [show pxF f c b 0 - pxF f c a' 0 = (pxF f c b 0 - pxF f c a 0) - (pxF f c a' 0 - pxF f c a 0) by omega, show pxF f c b 1 - pxF f c a' 1 = (pxF f c b 1 - pxF f c a 1) - (pxF f c a' 1 - pxF f c a 1) by omega, show pxF f c a 0 - pxF f c a' 0 = 0 - (pxF f c a' 0 - pxF f c a 0) by omega, show pxF f c a 1 - pxF f c a' 1 = 0 - (pxF f c a' 1 - pxF f c a 1) by omega] at v2
    exact (Ev_inj v1 v2 (fun y => z ⟨by omega, by omega⟩)).elim
/-- the first corner -/
theorem lf_ok {f : Int → Int} {c n : Int} (pb : pB f c n) : ∀ m : Nat, (m : Int) < n → ∀ k, 0 ≤ k → k ≤ (m : Int) → (pxF f c (lfF f c m) 0 < pxF f c k 0 ∨ (pxF f c (lfF f c m) 0 = pxF f c k 0 ∧ pxF f c (lfF f c m) 1 ≤ pxF f c k 1)) ∧ (spP f c k (lfF f c m) → lfF f c m ≤ k)
  | 0, _, k, h0, h1 => by
    have e : k = 0 := by omega
    subst e
    exact ⟨Or.inr ⟨rfl, Int.le_refl _⟩, fun _ => Int.le_refl _⟩
  | m + 1, hm, k, h0, h1 => by
    have ih := lf_ok pb m (by omega)
    have lb := lfF_b f c m
    have ec : ((m + 1 : Nat) : Int) = (m : Int) + 1 := by omega
    rw [ec] at h1 hm
    unfold lfF
    generalize lfF f c m = L at ih lb ⊢
    have p0 := pb (m + 1) (by omega) hm 0 (by decide) (by decide)
    have p1 := pb (m + 1) (by omega) hm 1 (by decide) (by decide)
    have q0 := pb L lb.1 (by omega) 0 (by decide) (by decide)
    have q1 := pb L lb.1 (by omega) 1 (by decide) (by decide)
    rw [w32_id (x := pxF f c (m + 1) 0 - pxF f c L 0) (by omega) (by omega), w32_id (x := pxF f c (m + 1) 1 - pxF f c L 1) (by omega) (by omega)]
    by_cases z : pxF f c (m + 1) 0 - pxF f c L 0 < 0 ∨ pxF f c (m + 1) 0 - pxF f c L 0 = 0 ∧ pxF f c (m + 1) 1 - pxF f c L 1 < 0
    · rw [if_pos z]
      by_cases y : k = m + 1
      · rw [y]; exact ⟨Or.inr ⟨rfl, Int.le_refl _⟩, fun _ => Int.le_refl _⟩
      · have i := (ih k h0 (by omega)).1
        refine ⟨by omega, fun s => ?_⟩
        have s0 := s.1; have s1 := s.2
        omega
    · rw [if_neg z]
      by_cases y : k = m + 1
      · rw [y]
        refine ⟨by omega, fun s => ?_⟩
        omega
      · exact ih k h0 (by omega)
/-- the walk -/
def Wk (f : Int → Int) (c a : Int) : Prop := (0 ≤ a ∧ a < f (18 + c)) ∧ ∃ u v, HW f c (f (18 + c)) u v a
theorem wk_s {f : Int → Int} {c a : Int} (pb : pB f c (f (18 + c))) (n0 : 0 ≤ f (18 + c)) (h : Wk f c a) : nxF f c a = -1 ∨ (Wk f c (nxF f c a) ∧ Ed f c (f (18 + c)) a (nxF f c a) ∧ FI f c (f (18 + c)) (nxF f c a)) := by
  obtain ⟨⟨a0, an⟩, u, v, hw⟩ := h
  rcases wk_ok pb n0 a0 an hw with e | ⟨i0, i1, i2, i3⟩
  · exact Or.inl e
  · exact Or.inr ⟨⟨i0, _, _, i3⟩, i1, i2⟩
theorem sp_iff {f : Int → Int} {c n u x : Int} (pb : pB f c n) (hu : 0 ≤ u ∧ u < n) (hx : 0 ≤ x ∧ x < n) : spF f c u x ↔ spP f c u x := by
  have a0 := pb u hu.1 hu.2 0 (by decide) (by decide); have a1 := pb u hu.1 hu.2 1 (by decide) (by decide)
  have k0 := pb x hx.1 hx.2 0 (by decide) (by decide); have k1 := pb x hx.1 hx.2 1 (by decide) (by decide)
  unfold spF
  rw [w32_id (x := pxF f c u 0) (by omega) (by omega), w32_id (x := pxF f c x 0) (by omega) (by omega), w32_id (x := pxF f c u 1) (by omega) (by omega), w32_id (x := pxF f c x 1) (by omega) (by omega)]
theorem stop_iff {f : Int → Int} {c x a : Int} (pb : pB f c (f (18 + c))) (n0 : 0 ≤ f (18 + c)) (hx : 0 ≤ x ∧ x < f (18 + c)) (fx : FI f c (f (18 + c)) x) (h : Wk f c a) : (nxF f c a = -1 ∨ spF f c (nxF f c a) x) ↔ (nxF f c a = x ∨ nxF f c a = -1) := by
  rcases wk_s pb n0 h with e | ⟨w, ed, fi⟩
  · exact ⟨fun _ => Or.inr e, fun _ => Or.inl e⟩
  · have sp := sp_iff pb w.1 hx
    constructor
    · rintro (e | s)
      · exact Or.inr e
      · have s2 := sp.mp s
        have q1 := fx _ w.1.1 w.1.2 s2
        have q2 := fi x hx.1 hx.2 ⟨s2.1.symm, s2.2.symm⟩
        exact Or.inl (by omega)
    · rintro (e | e)
      · refine Or.inr (sp.mpr ?_)
        rw [e]; exact ⟨rfl, rfl⟩
      · exact Or.inl e
theorem wr_eq {f : Int → Int} {c x : Int} (pb : pB f c (f (18 + c))) (n0 : 0 ≤ f (18 + c)) (hx : 0 ≤ x ∧ x < f (18 + c)) (fx : FI f c (f (18 + c)) x) : ∀ (m : Nat) (a : Int), Wk f c a → wrM f c x m a = wrF f c (f (18 + c)) x m a
  | 0, _, _ => rfl
  | m + 1, a, h => by
    have st := stop_iff pb n0 hx fx h
    unfold wrM wrF
    by_cases z : nxF f c a = -1 ∨ spF f c (nxF f c a) x
    · rw [if_pos z, if_pos (st.mp z)]
    · rw [if_neg z, if_neg (fun y => z (st.mpr y))]
      rcases wk_s pb n0 h with e | ⟨w, -, -⟩
      · exact absurd (Or.inl e) z
      · rw [wr_eq pb n0 hx fx m _ w]
theorem no5 {f : Int → Int} {c n x a1 a2 a3 a4 : Int} (n4 : n ≤ 4) (bx : 0 ≤ x ∧ x < n) (b1 : 0 ≤ a1 ∧ a1 < n) (b2 : 0 ≤ a2 ∧ a2 < n) (b3 : 0 ≤ a3 ∧ a3 < n) (b4 : 0 ≤ a4 ∧ a4 < n) (d1 : Ed f c n x a1) (d2 : Ed f c n a1 a2) (d3 : Ed f c n a2 a3) (d4 : Ed f c n a3 a4) (f1 : FI f c n a1) (f3 : FI f c n a3) (z2 : ¬ spP f c a2 x) (z3 : ¬ spP f c a3 x) (z4 : ¬ spP f c a4 x) : False := by
  have x1 : a1 ≠ x := fun e => d1.1 (by rw [e]; exact ⟨rfl, rfl⟩)
  have x2 : a2 ≠ x := fun e => z2 (by rw [e]; exact ⟨rfl, rfl⟩)
  have x3 : a3 ≠ x := fun e => z3 (by rw [e]; exact ⟨rfl, rfl⟩)
  have x4 : a4 ≠ x := fun e => z4 (by rw [e]; exact ⟨rfl, rfl⟩)
  have n12 : a2 ≠ a1 := fun e => d2.1 (by rw [e]; exact ⟨rfl, rfl⟩)
  have n23 : a3 ≠ a2 := fun e => d3.1 (by rw [e]; exact ⟨rfl, rfl⟩)
  have n34 : a4 ≠ a3 := fun e => d4.1 (by rw [e]; exact ⟨rfl, rfl⟩)
  have n13 : a3 ≠ a1 := fun e => z2 (Ed_inj bx b2 d1 (e ▸ d3))
  have n14 : a4 ≠ a1 := fun e => z3 (Ed_inj bx b3 d1 (e ▸ d4))
  have n24 : a4 ≠ a2 := fun e => by
    have s := Ed_inj b1 b3 d2 (e ▸ d4)
    have q1 := f1 a3 b3.1 b3.2 s
    have q2 := f3 a1 b1.1 b1.2 ⟨s.1.symm, s.2.symm⟩
    omega
  omega
theorem hut : HUT := by
  intro f hf c c0 cn
  obtain ⟨hn, hp⟩ := hf.2.2.1 c c0 cn
  have pb : pB f c (f (18 + c)) := fun k h0 h1 w w0 w1 => by
    have h := hp k h0 h1
    rcases (show w = 0 ∨ w = 1 by omega) with rfl | rfl
    · exact h.1
    · exact h.2.1
  have n0 : 0 ≤ f (18 + c) := by omega
  have lb : 0 ≤ lmF f c ∧ lmF f c ≤ ((Int.toNat (f (18 + c) - 1) : Nat) : Int) := lfF_b f c (Int.toNat (f (18 + c) - 1))
  have lo : ∀ k, 0 ≤ k → k ≤ ((Int.toNat (f (18 + c) - 1) : Nat) : Int) → (pxF f c (lmF f c) 0 < pxF f c k 0 ∨ (pxF f c (lmF f c) 0 = pxF f c k 0 ∧ pxF f c (lmF f c) 1 ≤ pxF f c k 1)) ∧ (spP f c k (lmF f c) → lmF f c ≤ k) := lf_ok pb (Int.toNat (f (18 + c) - 1)) (by omega)
  have hx : 0 ≤ lmF f c ∧ lmF f c < f (18 + c) := ⟨lb.1, by have := lb.2; omega⟩
  have fx : FI f c (f (18 + c)) (lmF f c) := fun k h0 h1 s => (lo k h0 (by omega)).2 s
  have wx : Wk f c (lmF f c) := ⟨hx, 0, -1, by decide, fun k h0 h1 hk => by
    have l := (lo k h0 (by omega)).1
    have hk1 : ¬ (pxF f c k 0 = pxF f c (lmF f c) 0 ∧ pxF f c k 1 = pxF f c (lmF f c) 1) := hk
    unfold Hv
    omega⟩
  refine ⟨?_, wr_eq pb n0 hx fx 4 _ wx⟩
  generalize lmF f c = x at *
  by_cases s0 : nxF f c x = -1 ∨ spF f c (nxF f c x) x
  · exact Or.inl s0
  · rcases wk_s pb n0 wx with e | ⟨w1, d1, f1⟩
    · exact absurd (Or.inl e) s0
    · refine Or.inr ?_
      show endM f c x 3 (nxF f c x)
      generalize nxF f c x = a1 at *
      by_cases s1 : nxF f c a1 = -1 ∨ spF f c (nxF f c a1) x
      · exact Or.inl s1
      · rcases wk_s pb n0 w1 with e | ⟨w2, d2, f2⟩
        · exact absurd (Or.inl e) s1
        · refine Or.inr ?_
          show endM f c x 2 (nxF f c a1)
          generalize nxF f c a1 = a2 at *
          by_cases s2 : nxF f c a2 = -1 ∨ spF f c (nxF f c a2) x
          · exact Or.inl s2
          · rcases wk_s pb n0 w2 with e | ⟨w3, d3, f3⟩
            · exact absurd (Or.inl e) s2
            · refine Or.inr ?_
              show endM f c x 1 (nxF f c a2)
              generalize nxF f c a2 = a3 at *
              by_cases s3 : nxF f c a3 = -1 ∨ spF f c (nxF f c a3) x
              · exact Or.inl s3
              · rcases wk_s pb n0 w3 with e | ⟨w4, d4, f4⟩
                · exact absurd (Or.inl e) s3
                · exact (no5 (by omega) hx w1.1 w2.1 w3.1 w4.1 d1 d2 d3 d4 f1 f3 (fun y => s1 (Or.inr ((sp_iff pb w2.1 hx).mpr y))) (fun y => s2 (Or.inr ((sp_iff pb w3.1 hx).mpr y))) (fun y => s3 (Or.inr ((sp_iff pb w4.1 hx).mpr y)))).elim
