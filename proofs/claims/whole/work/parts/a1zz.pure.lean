/-! straight curves: the hull has fewer than three corners -/
theorem nx_1 {f : Int → Int} {c a : Int} (pb : pB f c (f (18 + c))) (n0 : 0 ≤ f (18 + c)) (h : Wk f c a) (e : nxF f c a = -1) : ∀ k, 0 ≤ k → k < f (18 + c) → spP f c k a := by
  obtain ⟨⟨a0, an⟩, u, v, hw⟩ := h
  have e9 : ((Int.toNat (f (18 + c)) : Nat) : Int) = f (18 + c) := Int.toNat_of_nonneg n0
  have sc := sc_ok pb a0 an hw (Int.toNat (f (18 + c))) (by omega)
  rw [e9] at sc
  rcases sc with ⟨-, i1⟩ | ⟨i0, -⟩
  · exact i1
  · have : nxF f c a = caF f c a (Int.toNat (f (18 + c))) := rfl
    omega
theorem tn_p1 {f : Int → Int} {c i j k : Int} : tnF f c i j k = -(tnF f c j i k) := by unfold tnF; grind
theorem tn_p2 {f : Int → Int} {c i j k : Int} : tnF f c i j k = -(tnF f c i k j) := by unfold tnF; grind
theorem tn_e1 {f : Int → Int} {c i k : Int} : tnF f c i i k = 0 := by unfold tnF; grind
theorem tn_e2 {f : Int → Int} {c i j : Int} : tnF f c i j j = 0 := by unfold tnF; grind
theorem tn_e3 {f : Int → Int} {c i j : Int} : tnF f c i j i = 0 := by unfold tnF; grind
theorem st_all {f : Int → Int} {c n : Int} (pb : pB f c n) (h : stP f c n) {i j k : Int} (hi : 0 ≤ i ∧ i < n) (hj : 0 ≤ j ∧ j < n) (hk : 0 ≤ k ∧ k < n) : tnF f c i j k = 0 := by
  have key : ∀ a b d, 0 ≤ a → a < b → b < d → d < n → tnF f c a b d = 0 := fun a b d a0 ab bd dn => by
    have t := h a b d a0 ab bd dn
    rw [tn_w (pb a a0 (by omega)) (pb b (by omega) (by omega)) (pb d (by omega) dn)] at t
    exact t
  have key2 : ∀ a b d, 0 ≤ a → a < b → b < n → 0 ≤ d → d < n → tnF f c a b d = 0 := fun a b d a0 ab bn d0 dn => by
    rcases Int.lt_trichotomy d a with z | z | z
    · have := key d a b d0 z ab bn
      rw [tn_p2, tn_p1, this]; decide
    · rw [z]; exact tn_e3
    · rcases Int.lt_trichotomy d b with y | y | y
      · have := key a d b a0 z y bn
        rw [tn_p2, this]; decide
      · rw [y]; exact tn_e2
      · exact key a b d a0 ab y dn
  rcases Int.lt_trichotomy i j with z | z | z
  · exact key2 i j k hi.1 z hj.2 hk.1 hk.2
  · rw [z]; exact tn_e1
  · have := key2 j i k hj.1 z hi.2 hk.1 hk.2
    rw [tn_p1, this]; decide
/-- three points of a line -/
theorem li_3 {wx wy px py qx qy rx ry : Int} (h0 : ¬ (wx = 0 ∧ wy = 0)) (hp : wx * py - wy * px = 0) (hq : wx * qy - wy * qx = 0) (hr : wx * ry - wy * rx = 0) : (qx - px) * (ry - py) - (qy - py) * (rx - px) = 0 := by
  have m := sq_p h0
  have id : (wx * wx + wy * wy) * ((qx - px) * (ry - py) - (qy - py) * (rx - px)) = (wx * (qx - px) + wy * (qy - py)) * ((wx * ry - wy * rx) - (wx * py - wy * px)) - ((wx * qy - wy * qx) - (wx * py - wy * px)) * (wx * (rx - px) + wy * (ry - py)) := by grind
  rw [hp, hq, hr, Int.sub_zero, Int.mul_zero, Int.zero_mul, Int.sub_zero] at id
  rcases Int.mul_eq_zero.mp id with z | z
  · omega
  · exact z
theorem Ev_2 {wx wy zx zy : Int} (h : Ev wx wy zx zy) (h2 : Ev (zx - wx) (zy - wy) (0 - wx) (0 - wy)) (hc : wx * zy - wy * zx = 0) (h0 : ¬ (zx = wx ∧ zy = wy)) : False := by
  have e1 : (zx - wx) * (0 - wy) - (zy - wy) * (0 - wx) = wx * zy - wy * zx := by grind
  have e2 : (zx - wx) * (0 - wx) + (zy - wy) * (0 - wy) = (wx * wx + wy * wy) - (wx * zx + wy * zy) := by grind
  have e3 : (zx - wx) * (zx - wx) + (zy - wy) * (zy - wy) = (zx * zx + zy * zy) - (wx * zx + wy * zy) - (wx * zx + wy * zy) + (wx * wx + wy * wy) := by grind
  unfold Ev at h h2
  rw [e1, e2, e3, hc] at h2
  rw [hc] at h
  have m := sq_p (x := zx - wx) (y := zy - wy) (fun y => h0 ⟨by omega, by omega⟩)
  rw [e3] at m
  have id : (wx * zx + wy * zy) * (wx * zx + wy * zy) + (wx * zy - wy * zx) * (wx * zy - wy * zx) = (wx * wx + wy * wy) * (zx * zx + zy * zy) := by grind
  rw [hc, Int.mul_zero, Int.add_zero] at id
  generalize wx * zx + wy * zy = d at *
  generalize wx * wx + wy * wy = M at *
  generalize zx * zx + zy * zy = Z at *
  have d0 : 0 < d := by omega
  have dM : d ≤ M := by omega
  have dZ : d ≤ Z := by omega
  rcases Int.lt_or_le d M with y | y
  · have l1 : d * Z < M * Z := Int.mul_lt_mul_of_pos_right y (by omega)
    have l2 : d * d ≤ d * Z := Int.mul_le_mul_of_nonneg_left dZ (by omega)
    omega
  · have eM : M = d := by omega
    rw [eM] at id
    have eZ : d = Z := Int.eq_of_mul_eq_mul_left (a := d) (by omega) id
    omega
theorem wrM_2 {f : Int → Int} {c x : Int} : (wrM f c x 4 x).length < 3 ↔ ((nxF f c x = -1 ∨ spF f c (nxF f c x) x) ∨ (nxF f c (nxF f c x) = -1 ∨ spF f c (nxF f c (nxF f c x)) x)) := by
  have e4 : wrM f c x 4 x = x :: (if nxF f c x = -1 ∨ spF f c (nxF f c x) x then [] else wrM f c x 3 (nxF f c x)) := rfl
  have e3 : wrM f c x 3 (nxF f c x) = nxF f c x :: (if nxF f c (nxF f c x) = -1 ∨ spF f c (nxF f c (nxF f c x)) x then [] else wrM f c x 2 (nxF f c (nxF f c x))) := rfl
  have e2 : wrM f c x 2 (nxF f c (nxF f c x)) = nxF f c (nxF f c x) :: (if nxF f c (nxF f c (nxF f c x)) = -1 ∨ spF f c (nxF f c (nxF f c (nxF f c x))) x then [] else wrM f c x 1 (nxF f c (nxF f c (nxF f c x)))) := rfl
  by_cases s0 : nxF f c x = -1 ∨ spF f c (nxF f c x) x
  · rw [e4, if_pos s0]
    exact ⟨fun _ => Or.inl s0, fun _ => by simp only [List.length_cons, List.length_nil]; omega⟩
  · rw [e4, if_neg s0, e3]
    by_cases s1 : nxF f c (nxF f c x) = -1 ∨ spF f c (nxF f c (nxF f c x)) x
    · rw [if_pos s1]
      exact ⟨fun _ => Or.inr s1, fun _ => by simp only [List.length_cons, List.length_nil]; omega⟩
    · rw [if_neg s1, e2]
      refine ⟨fun h => ?_, fun h => ?_⟩
      · simp only [List.length_cons] at h; omega
      · rcases h with h | h
        · exact absurd h s0
        · exact absurd h s1
theorem st_hu {f : Int → Int} {c : Int} (hf : fgOK f) (c0 : 0 ≤ c) (cn : c < f 0) : (huL f c).length < 3 ↔ stP f c (f (18 + c)) := by
  rw [← (hut f hf c c0 cn).2, wrM_2]
  obtain ⟨hn, hp⟩ := hf.2.2.1 c c0 cn
  have pb : pB f c (f (18 + c)) := fun k h0 h1 w w0 w1 => by
    have h := hp k h0 h1
    rcases (show w = 0 ∨ w = 1 by omega) with rfl | rfl
    · exact h.1
    · exact h.2.1
  have n0 : 0 ≤ f (18 + c) := by omega
  have lb : 0 ≤ lmF f c ∧ lmF f c ≤ ((Int.toNat (f (18 + c) - 1) : Nat) : Int) := lfF_b f c (Int.toNat (f (18 + c) - 1))
  have lo : ∀ k, 0 ≤ k → k ≤ ((Int.toNat (f (18 + c) - 1) : Nat) : Int) → (pxF f c (lmF f c) 0 < pxF f c k 0 ∨ (pxF f c (lmF f c) 0 = pxF f c k 0 ∧ pxF f c (lmF f c) 1 ≤ pxF f c k 1)) ∧ (spP f c k (lmF f c) → lmF f c ≤ k) := lf_ok pb (Int.toNat (f (18 + c) - 1)) (by omega)
  have hx : 0 ≤ lmF f c ∧ lmF f c < f (18 + c) := ⟨lb.1, by have := lb.2; omega⟩
  have wx : Wk f c (lmF f c) := ⟨hx, 0, -1, by decide, fun k h0 h1 hk => by
    have l := (lo k h0 (by omega)).1
    have hk1 : ¬ (pxF f c k 0 = pxF f c (lmF f c) 0 ∧ pxF f c k 1 = pxF f c (lmF f c) 1) := hk
    unfold Hv
    omega⟩
  generalize lmF f c = x at *
  have tw : ∀ a b k, 0 ≤ a → a < b → b < k → k < f (18 + c) → w32 (tnF f c a b k) = tnF f c a b k := fun a b k a0 ab bk kn => tn_w (pb a a0 (by omega)) (pb b (by omega) (by omega)) (pb k (by omega) kn)
  rcases wk_s pb n0 wx with e | ⟨w1, d1, f1⟩
  · refine ⟨fun _ a b k a0 ab bk kn => ?_, fun _ => Or.inl (Or.inl e)⟩
    have q := nx_1 pb n0 wx e
    rw [tw a b k a0 ab bk kn]
    unfold tnF
    rw [(q a a0 (by omega)).1, (q a a0 (by omega)).2, (q b (by omega) (by omega)).1, (q b (by omega) (by omega)).2, (q k (by omega) kn).1, (q k (by omega) kn).2]
    grind
  · have ne : ¬ (nxF f c x = -1 ∨ spF f c (nxF f c x) x) := fun z => by
      rcases z with z | z
      · have := w1.1.1; omega
      · exact d1.1 ((sp_iff pb w1.1 hx).mp z)
    rw [or_iff_right ne]
    generalize nxF f c x = a1 at *
    have hw : ¬ (pxF f c a1 0 - pxF f c x 0 = 0 ∧ pxF f c a1 1 - pxF f c x 1 = 0) := fun z => d1.1 ⟨by omega, by omega⟩
    rcases wk_s pb n0 w1 with e | ⟨w2, d2, f2⟩
    · exact absurd (nx_1 pb n0 w1 e x hx.1 hx.2) (fun y => d1.1 ⟨y.1.symm, y.2.symm⟩)
    · have e1 : ¬ nxF f c a1 = -1 := by have := w2.1.1; omega
      have sp := sp_iff pb w2.1 hx
      rw [or_iff_right e1, sp]
      generalize nxF f c a1 = a2 at *
      refine ⟨fun s a b k a0 ab bk kn => ?_, fun st => ?_⟩
      · rw [tw a b k a0 ab bk kn]
        have li : ∀ j, 0 ≤ j → j < f (18 + c) → (pxF f c a1 0 - pxF f c x 0) * (pxF f c j 1 - pxF f c x 1) - (pxF f c a1 1 - pxF f c x 1) * (pxF f c j 0 - pxF f c x 0) = 0 := fun j j0 jn => by
          by_cases z1 : spP f c j x
          · rw [z1.1, z1.2]; grind
          · by_cases z2 : spP f c j a1
            · rw [z2.1, z2.2]; grind
            · have v1 := d1.2 j j0 jn z1
              have v2 := d2.2 j j0 jn z2
              rw [s.1, s.2] at v2
              unfold Ev at v1 v2
              have er : (pxF f c x 0 - pxF f c a1 0) * (pxF f c j 1 - pxF f c a1 1) - (pxF f c x 1 - pxF f c a1 1) * (pxF f c j 0 - pxF f c a1 0) = -((pxF f c a1 0 - pxF f c x 0) * (pxF f c j 1 - pxF f c x 1) - (pxF f c a1 1 - pxF f c x 1) * (pxF f c j 0 - pxF f c x 0)) := by grind
              rw [er] at v2
              omega
        have r := li_3 hw (li a a0 (by omega)) (li b (by omega) (by omega)) (li k (by omega) kn)
        have er : tnF f c a b k = (pxF f c b 0 - pxF f c x 0 - (pxF f c a 0 - pxF f c x 0)) * (pxF f c k 1 - pxF f c x 1 - (pxF f c a 1 - pxF f c x 1)) - (pxF f c b 1 - pxF f c x 1 - (pxF f c a 1 - pxF f c x 1)) * (pxF f c k 0 - pxF f c x 0 - (pxF f c a 0 - pxF f c x 0)) := by unfold tnF; grind
        rw [er, r]
      · by_cases s : spP f c a2 x
        · exact s
        · have t := st_all pb st hx w1.1 w2.1
          have v1 := d1.2 a2 w2.1.1 w2.1.2 s
          have v2 := d2.2 x hx.1 hx.2 (fun y => d1.1 ⟨y.1.symm, y.2.symm⟩)
          rw [show pxF f c a2 0 - pxF f c a1 0 = (pxF f c a2 0 - pxF f c x 0) - (pxF f c a1 0 - pxF f c x 0) by omega, show pxF f c a2 1 - pxF f c a1 1 = (pxF f c a2 1 - pxF f c x 1) - (pxF f c a1 1 - pxF f c x 1) by omega, show pxF f c x 0 - pxF f c a1 0 = 0 - (pxF f c a1 0 - pxF f c x 0) by omega, show pxF f c x 1 - pxF f c a1 1 = 0 - (pxF f c a1 1 - pxF f c x 1) by omega] at v2
          exact (Ev_2 v1 v2 t (fun y => d2.1 ⟨by omega, by omega⟩)).elim
