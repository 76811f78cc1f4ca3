/-! isCut: from its end to its start -/
theorem cx_b {f : Int → Int} {c d q w n : Int} (hf : fgOK f) (hc : 0 ≤ c ∧ c < f 0) (hd : 0 ≤ d ∧ d ≤ 5) (hn : n = f (18 + c) - 1) (hw : w = 0 ∨ w = 1) : xwB (ceX f c d.toNat q w) (ceX f c d.toNat q 2) n := fun k k0 k1 => by
  have a := ceX_b hf (d := d.toNat) (q := q) (w := w) (by omega) hc.1 hc.2 k0 (show k < f (18 + c) by omega) (by omega) (by omega)
  have b := (ceX_b hf (d := d.toNat) (q := q) (w := 2) (by omega) hc.1 hc.2 k0 (show k < f (18 + c) by omega) (by omega) (by omega)).2.2 rfl
  exact ⟨⟨a.1, by omega⟩, by omega⟩
theorem bx_sd {f : Int → Int} {c d q s : Int} : bxF f c d q s = sdI (ceX f c d.toNat q (s % 2)) (ceX f c d.toNat q 2) s (exX f c d.toNat q s) := rfl
theorem bx_w {f : Int → Int} {c d q n sd : Int} (hf : fgOK f) (hc : 0 ≤ c ∧ c < f 0) (hd : 0 ≤ d ∧ d ≤ 5) (hn : n = f (18 + c) - 1) (hsd : 0 ≤ sd ∧ sd ≤ 3) : (0 ≤ bxF f c d q sd ∧ bxF f c d q sd ≤ 1573650432) ∧ 0 ≤ exX f c d.toNat q sd ∧ exX f c d.toNat q sd ≤ n := by
  have hs := (hf.2.2.1 c hc.1 hc.2).1
  have hb := cx_b (q := q) (w := sd % 2) hf hc hd hn (by omega)
  have he := exX_b (d := d.toNat) (q := q) (s := sd) hs.1
  rw [bx_sd]
  exact ⟨sd_b (s := sd) hb he.1 (by omega), he.1, by omega⟩
theorem bx_all {f : Int → Int} {c d q n sd k : Int} (hf : fgOK f) (hc : 0 ≤ c ∧ c < f 0) (hd : 0 ≤ d ∧ d ≤ 5) (hn : n = f (18 + c) - 1) (hsd : 0 ≤ sd ∧ sd ≤ 3) (hk : 0 ≤ k ∧ k ≤ n) :
    (w32 (bxF f c d q sd) = bxF f c d q sd ∧ w32 (bxF f c d q sd + 1) = bxF f c d q sd + 1 ∧ w32 (bxF f c d q sd - 1) = bxF f c d q sd - 1) ∧ w64 (100 * ceX f c d.toNat q (sd % 2) k) = 100 * ceX f c d.toNat q (sd % 2) k ∧
    (∀ y, -1 ≤ y → y ≤ 1573650433 → w64 (y * ceX f c d.toNat q 2 k) = y * ceX f c d.toNat q 2 k) ∧ (0 ≤ bxF f c d q sd ∧ bxF f c d q sd ≤ 1573650432) ∧
    (sd < 2 → bxF f c d q sd * ceX f c d.toNat q 2 k ≤ 100 * ceX f c d.toNat q (sd % 2) k) ∧ (¬ sd < 2 → 100 * ceX f c d.toNat q (sd % 2) k ≤ bxF f c d q sd * ceX f c d.toNat q 2 k) ∧
    (k = exX f c d.toNat q sd → sd < 2 → 100 * ceX f c d.toNat q (sd % 2) k < (bxF f c d q sd + 1) * ceX f c d.toNat q 2 k) ∧ (k = exX f c d.toNat q sd → ¬ sd < 2 → (bxF f c d q sd - 1) * ceX f c d.toNat q 2 k < 100 * ceX f c d.toNat q (sd % 2) k) := by
  have hs := (hf.2.2.1 c hc.1 hc.2).1
  have hb := cx_b (q := q) (w := sd % 2) hf hc hd hn (by omega)
  have he := exX_b (d := d.toNat) (q := q) (s := sd) hs.1
  have hx := exB_x (s := sd) hb (Int.toNat (f (18 + c) - 1)) (by omega) k hk.1 (by omega)
  have hat := sd_at (s := sd) hb he.1 (by omega)
  have hib := sd_b (s := sd) hb he.1 (by omega)
  rw [← bx_sd] at hat hib
  obtain ⟨v1, v2⟩ := hb k hk.1 hk.2
  refine ⟨⟨w32_id (by omega) (by omega), w32_id (by omega) (by omega), w32_id (by omega) (by omega)⟩, w64_id (by omega) (by omega), fun y y0 y1 => ?_, hib, fun h2 => ?_, fun h2 => ?_, fun e h2 => ?_, fun e h2 => ?_⟩
  · have a : y * ceX f c d.toNat q 2 k ≤ 1573650433 * ceX f c d.toNat q 2 k := mle y1 (by omega)
    have b : -1 * ceX f c d.toNat q 2 k ≤ y * ceX f c d.toNat q 2 k := mle y0 (by omega)
    exact w64_id (by omega) (by omega)
  · rw [bx_sd]
    rw [if_pos h2] at hx
    exact sd_lo hb he.1 (by omega) hk.1 hk.2 h2 hx
  · rw [bx_sd]
    rw [if_neg h2] at hx
    exact sd_hi hb he.1 (by omega) hk.1 hk.2 h2 hx
  · rw [if_pos h2] at hat
    rw [e]; exact hat
  · rw [if_neg h2] at hat
    rw [e]; exact hat
theorem bxV {X f : Int → Int} {c d q s : Int} {i : Decidable ((0 ≤ d ∧ d ≤ 6 ∧ 0 ≤ q ∧ q < p2 d) ∧ 0 ≤ s ∧ s ≤ 3)} (e : X = f) (hd : 0 ≤ d ∧ d ≤ 5) (hq : 0 ≤ q ∧ q < p2 d) (hs : 0 ≤ s ∧ s ≤ 3) : @ite Int ((0 ≤ d ∧ d ≤ 6 ∧ 0 ≤ q ∧ q < p2 d) ∧ 0 ≤ s ∧ s ≤ 3) i (bxF X c d q s) (-1) = bxF f c d q s := by
  subst e
  exact if_pos ⟨⟨hd.1, by omega, hq⟩, hs⟩
theorem or_0 {z : Int} (h : z = 0 ∨ z = 1) : x_or z 0 = z := by rcases h with rfl | rfl <;> rfl
theorem or_1 {z : Int} (h : z = 0 ∨ z = 1) : x_or z 1 = 1 := by rcases h with rfl | rfl <;> rfl
set_option maxRecDepth 20000 in
theorem isC_441 {F : FF} {A : AA} {sd k z : Int} {F0 : FF} {A0 : AA} {c d q n : Int} {K : KK} {V : REC} (hg : am_good qxL_isCutR6 K V) (hh : cuH F0 A0 c d q n) (hK : ∀ G B, qW F0 G A0 B → K (some (some (vI 1))) G B) (W0 : qW F0 F A0 A) (hsd : 0 ≤ sd ∧ sd ≤ 3) (hk : 0 ≤ k ∧ k ≤ n) (hz : z = 0 ∨ z = 1) (hx : ∀ z1, (z1 = 0 ∨ z1 = 1) → (z = 1 ∨ k = exX (A0 2) c d.toNat q sd → z1 = 1) → V 368 [some (vR 0), some (vI c), some (vI d), some (vI q), some (vI n), some (vL (p2 d)), none, none, none, none, none, none, none, some (vI sd), some (vI (bxF (A0 2) c d q sd)), some (vI z1), some (vI (k + 1)), none, none, none, none] [] F A 6) : V 441 [some (vR 0), some (vI c), some (vI d), some (vI q), some (vI n), some (vL (p2 d)), none, none, none, none, none, none, none, some (vI sd), some (vI (bxF (A0 2) c d q sd)), some (vI z), some (vI k), some (vL (100 * (ceX (A0 2) c d.toNat q (sd % 2) k))), none, some (vL (ceX (A0 2) c d.toNat q 2 k)), none] [] F A 6 := by
  obtain ⟨hf, hca, hc, hd, hq, hn⟩ := id hh
  have hc8 := hf.1.1
  have hs := (hf.2.2.1 c hc.1 hc.2).1
  have hp5 : p2 d ≤ 32 := p2_le (k := 5) hd.2
  obtain ⟨⟨wi, wip, wim⟩, wx, mm, hib, lo, hi, eq1, eq2⟩ := bx_all (q := q) (sd := sd) (k := k) hf hc hd hn hsd hk
  refine hg.1 _ (am_runs (cut := (fun pc => cond (Nat.beq pc 368) (some [true, true, true, true, true, true, true, false, false, false, false, false, false, true, true, true, true, false, false, false, false]) (none))) (Kc := V) (fun _ _ _ _ _ _ h => h) hg 22) 441 [some (vR 0), some (vI c), some (vI d), some (vI q), some (vI n), some (vL (p2 d)), none, none, none, none, none, none, none, some (vI sd), some (vI (bxF (A0 2) c d q sd)), some (vI z), some (vI k), some (vL (100 * (ceX (A0 2) c d.toNat q (sd % 2) k))), none, some (vL (ceX (A0 2) c d.toNat q 2 k)), none] [] _ _ 6 ?_
  show (w32 sd < w32 2 → ((w32 (y_cmp (100 * (ceX (A0 2) c d.toNat q (sd % 2) k)) ((w32 ((bxF (A0 2) c d q sd) + 1)) * (ceX (A0 2) c d.toNat q 2 k))) < w32 0 → (V 368 [some (vR 0), some (vI c), some (vI d), some (vI q), some (vI n), some (vL (p2 d)), none, none, none, none, none, none, none, some (vI sd), some (vI (bxF (A0 2) c d q sd)), some (vI (x_or z 1)), some (vI (k + 1)), none, none, none, none] [] F A 6)) ∧ (¬ w32 (y_cmp (100 * (ceX (A0 2) c d.toNat q (sd % 2) k)) ((w32 ((bxF (A0 2) c d q sd) + 1)) * (ceX (A0 2) c d.toNat q 2 k))) < w32 0 → (V 368 [some (vR 0), some (vI c), some (vI d), some (vI q), some (vI n), some (vL (p2 d)), none, none, none, none, none, none, none, some (vI sd), some (vI (bxF (A0 2) c d q sd)), some (vI (x_or z 0)), some (vI (k + 1)), none, none, none, none] [] F A 6)))) ∧ (¬ w32 sd < w32 2 → ((w32 0 < w32 (y_cmp (100 * (ceX (A0 2) c d.toNat q (sd % 2) k)) ((w32 ((bxF (A0 2) c d q sd) - 1)) * (ceX (A0 2) c d.toNat q 2 k))) → (V 368 [some (vR 0), some (vI c), some (vI d), some (vI q), some (vI n), some (vL (p2 d)), none, none, none, none, none, none, none, some (vI sd), some (vI (bxF (A0 2) c d q sd)), some (vI (x_or z 1)), some (vI (k + 1)), none, none, none, none] [] F A 6)) ∧ (¬ w32 0 < w32 (y_cmp (100 * (ceX (A0 2) c d.toNat q (sd % 2) k)) ((w32 ((bxF (A0 2) c d q sd) - 1)) * (ceX (A0 2) c d.toNat q 2 k))) → (V 368 [some (vR 0), some (vI c), some (vI d), some (vI q), some (vI n), some (vL (p2 d)), none, none, none, none, none, none, none, some (vI sd), some (vI (bxF (A0 2) c d q sd)), some (vI (x_or z 0)), some (vI (k + 1)), none, none, none, none] [] F A 6))))
  refine ⟨fun c1 => ?_, fun c1 => ?_⟩
  · skip
    skip
    (try simp (disch := omega) only [w32_0, w32_id] at c1)
    refine ⟨fun c2 => ?_, fun c2 => ?_⟩
    · skip
      skip
      rw [or_1 hz]; exact hx 1 (Or.inr rfl) (fun _ => rfl)
    · skip
      skip
      rw [wip, yc_l, wx, mm _ (by omega) (by omega)] at c2
      rw [or_0 hz]; exact hx z hz (fun q => q.elim id (fun e => absurd (eq1 e c1) c2))
  · skip
    skip
    (try simp (disch := omega) only [w32_0, w32_id] at c1)
    refine ⟨fun c2 => ?_, fun c2 => ?_⟩
    · skip
      skip
      rw [or_1 hz]; exact hx 1 (Or.inr rfl) (fun _ => rfl)
    · skip
      skip
      rw [wim, yc_g, wx, mm _ (by omega) (by omega)] at c2
      rw [or_0 hz]; exact hx z hz (fun q => q.elim id (fun e => absurd (eq2 e c1) c2))
set_option maxRecDepth 20000 in
theorem isC_406 {F : FF} {A : AA} {sd k z : Int} {F0 : FF} {A0 : AA} {c d q n : Int} {K : KK} {V : REC} (hg : am_good qxL_isCutR6 K V) (hh : cuH F0 A0 c d q n) (hK : ∀ G B, qW F0 G A0 B → K (some (some (vI 1))) G B) (W0 : qW F0 F A0 A) (hsd : 0 ≤ sd ∧ sd ≤ 3) (hk : 0 ≤ k ∧ k ≤ n) (hz : z = 0 ∨ z = 1) (hx : ∀ z1, (z1 = 0 ∨ z1 = 1) → (z = 1 ∨ k = exX (A0 2) c d.toNat q sd → z1 = 1) → V 368 [some (vR 0), some (vI c), some (vI d), some (vI q), some (vI n), some (vL (p2 d)), none, none, none, none, none, none, none, some (vI sd), some (vI (bxF (A0 2) c d q sd)), some (vI z1), some (vI (k + 1)), none, none, none, none] [] F A 6) : V 406 [some (vR 0), some (vI c), some (vI d), some (vI q), some (vI n), some (vL (p2 d)), none, none, none, none, none, none, none, some (vI sd), some (vI (bxF (A0 2) c d q sd)), some (vI z), some (vI k), some (vL (100 * (ceX (A0 2) c d.toNat q (sd % 2) k))), none, some (vL (ceX (A0 2) c d.toNat q 2 k)), none] [] F A 6 := by
  obtain ⟨hf, hca, hc, hd, hq, hn⟩ := id hh
  have hc8 := hf.1.1
  have hs := (hf.2.2.1 c hc.1 hc.2).1
  have hp5 : p2 d ≤ 32 := p2_le (k := 5) hd.2
  obtain ⟨⟨wi, wip, wim⟩, wx, mm, hib, lo, hi, eq1, eq2⟩ := bx_all (q := q) (sd := sd) (k := k) hf hc hd hn hsd hk
  refine hg.1 _ (am_runs (cut := (fun pc => cond (Nat.beq pc 441) (some [true, true, true, true, true, true, true, false, false, false, false, false, false, true, true, true, true, true, false, true, false]) (none))) (Kc := V) (fun _ _ _ _ _ _ h => h) hg 15) 406 [some (vR 0), some (vI c), some (vI d), some (vI q), some (vI n), some (vL (p2 d)), none, none, none, none, none, none, none, some (vI sd), some (vI (bxF (A0 2) c d q sd)), some (vI z), some (vI k), some (vL (100 * (ceX (A0 2) c d.toNat q (sd % 2) k))), none, some (vL (ceX (A0 2) c d.toNat q 2 k)), none] [] _ _ 6 ?_
  show (w32 sd < w32 2 → ((w32 (y_cmp (100 * (ceX (A0 2) c d.toNat q (sd % 2) k)) ((w32 (bxF (A0 2) c d q sd)) * (ceX (A0 2) c d.toNat q 2 k))) < w32 0 → ((0 = 0 ∨ 0 = 1) ∧ (K (some (some (vI 0))) F A))) ∧ (¬ w32 (y_cmp (100 * (ceX (A0 2) c d.toNat q (sd % 2) k)) ((w32 (bxF (A0 2) c d q sd)) * (ceX (A0 2) c d.toNat q 2 k))) < w32 0 → (V 441 [some (vR 0), some (vI c), some (vI d), some (vI q), some (vI n), some (vL (p2 d)), none, none, none, none, none, none, none, some (vI sd), some (vI (bxF (A0 2) c d q sd)), some (vI z), some (vI k), some (vL (100 * (ceX (A0 2) c d.toNat q (sd % 2) k))), none, some (vL (ceX (A0 2) c d.toNat q 2 k)), none] [] F A 6)))) ∧ (¬ w32 sd < w32 2 → ((w32 0 < w32 (y_cmp (100 * (ceX (A0 2) c d.toNat q (sd % 2) k)) ((w32 (bxF (A0 2) c d q sd)) * (ceX (A0 2) c d.toNat q 2 k))) → ((0 = 0 ∨ 0 = 1) ∧ (K (some (some (vI 0))) F A))) ∧ (¬ w32 0 < w32 (y_cmp (100 * (ceX (A0 2) c d.toNat q (sd % 2) k)) ((w32 (bxF (A0 2) c d q sd)) * (ceX (A0 2) c d.toNat q 2 k))) → (V 441 [some (vR 0), some (vI c), some (vI d), some (vI q), some (vI n), some (vL (p2 d)), none, none, none, none, none, none, none, some (vI sd), some (vI (bxF (A0 2) c d q sd)), some (vI z), some (vI k), some (vL (100 * (ceX (A0 2) c d.toNat q (sd % 2) k))), none, some (vL (ceX (A0 2) c d.toNat q 2 k)), none] [] F A 6))))
  refine ⟨fun c1 => ?_, fun c1 => ?_⟩
  · skip
    skip
    (try simp (disch := omega) only [w32_0, w32_id] at c1)
    refine ⟨fun c2 => ?_, fun c2 => ?_⟩
    · skip
      skip
      refine ⟨by first | exact Or.inl rfl | exact Or.inr rfl, ?_⟩
      rw [wi, yc_l, wx, mm _ (by omega) (by omega)] at c2
      have := lo c1; omega
    · skip
      skip
      exact isC_441 hg hh hK W0 hsd hk hz hx
  · skip
    skip
    (try simp (disch := omega) only [w32_0, w32_id] at c1)
    refine ⟨fun c2 => ?_, fun c2 => ?_⟩
    · skip
      skip
      refine ⟨by first | exact Or.inl rfl | exact Or.inr rfl, ?_⟩
      rw [wi, yc_g, wx, mm _ (by omega) (by omega)] at c2
      have := hi c1; omega
    · skip
      skip
      exact isC_441 hg hh hK W0 hsd hk hz hx
set_option maxRecDepth 20000 in
theorem isC_368 {sd : Int} {F0 : FF} {A0 : AA} {c d q n : Int} {K : KK} {V : REC} (hg : am_good qxL_isCutR6 K V) (hh : cuH F0 A0 c d q n) (hK : ∀ G B, qW F0 G A0 B → K (some (some (vI 1))) G B) (hsd : 0 ≤ sd ∧ sd ≤ 3) (hx5 : ∀ (F : FF) (A : AA), qW F0 F A0 A → V 345 [some (vR 0), some (vI c), some (vI d), some (vI q), some (vI n), some (vL (p2 d)), none, none, none, none, none, none, none, some (vI (sd + 1)), none, none, none, none, none, none, none] [] F A 6) : ∀ (j : Nat) (k z : Int) (F : FF) (A : AA), Int.toNat (n + 2 - k) ≤ j → (qW F0 F A0 A ∧ (0 ≤ k ∧ k ≤ n + 1) ∧ (z = 0 ∨ z = 1) ∧ (exX (A0 2) c d.toNat q sd < k → z = 1)) → V 368 [some (vR 0), some (vI c), some (vI d), some (vI q), some (vI n), some (vL (p2 d)), none, none, none, none, none, none, none, some (vI sd), some (vI (bxF (A0 2) c d q sd)), some (vI z), some (vI k), none, none, none, none] [] F A 6
  | 0, k, z, F, A, hj, hi => by
    obtain ⟨W0, hk, hz, hzz⟩ := hi
    omega
  | j + 1, k, z, F, A, hj, hi => by
    obtain ⟨W0, hk, hz, hzz⟩ := hi
    obtain ⟨hf, hca, hc, hd, hq, hn⟩ := id hh
    have hc8 := hf.1.1
    have hs := (hf.2.2.1 c hc.1 hc.2).1
    have hp5 : p2 d ≤ 32 := p2_le (k := 5) hd.2
    have hxr : x_rem sd 2 = sd % 2 := x_rem_eq hsd.1 (by omega) (by decide) (by decide)
    obtain ⟨hib, he0, he1⟩ := bx_w (q := q) hf hc hd hn hsd
    refine hg.1 _ (am_runs (cut := (fun pc => cond (Nat.beq pc 345) (some [true, true, true, true, true, true, true, false, false, false, false, false, false, true, false, false, false, false, false, false, false]) (cond (Nat.beq pc 406) (some [true, true, true, true, true, true, true, false, false, false, false, false, false, true, true, true, true, true, false, true, false]) (none)))) (Kc := V) (fun _ _ _ _ _ _ h => h) hg 26) 368 [some (vR 0), some (vI c), some (vI d), some (vI q), some (vI n), some (vL (p2 d)), none, none, none, none, none, none, none, some (vI sd), some (vI (bxF (A0 2) c d q sd)), some (vI z), some (vI k), none, none, none, none] [] _ _ 6 ?_
    show (w32 n < w32 k → ((w32 z = w32 0 → ((0 = 0 ∨ 0 = 1) ∧ (K (some (some (vI 0))) F A))) ∧ (¬ w32 z = w32 0 → (V 345 [some (vR 0), some (vI c), some (vI d), some (vI q), some (vI n), some (vL (p2 d)), none, none, none, none, none, none, none, some (vI (sd + 1)), none, none, none, none, none, none, none] [] F A 6)))) ∧ (¬ w32 n < w32 k → ((w32 2 ≠ 0) ∧ (((0 ≤ c ∧ c < A 2 0) ∧ fgOK (A 2) ∧ (-2147483648 ≤ c ∧ c < 2147483648) ∧ (-2147483648 ≤ d ∧ d < 2147483648) ∧ (-2147483648 ≤ q ∧ q < 2147483648) ∧ (-2147483648 ≤ k ∧ k < 2147483648) ∧ (-2147483648 ≤ (x_rem sd 2) ∧ (x_rem sd 2) < 2147483648) ∧ caAll A) ∧ (∀ (G_1 : FF) (B_1 : AA), (qrP F G_1 A B_1) → (((0 ≤ c ∧ c < B_1 2 0) ∧ fgOK (B_1 2) ∧ (-2147483648 ≤ c ∧ c < 2147483648) ∧ (-2147483648 ≤ d ∧ d < 2147483648) ∧ (-2147483648 ≤ q ∧ q < 2147483648) ∧ (-2147483648 ≤ k ∧ k < 2147483648) ∧ (-2147483648 ≤ 2 ∧ 2 < 2147483648) ∧ caAll B_1) ∧ (∀ (G_2 : FF) (B_2 : AA), (qrP G_1 G_2 B_1 B_2) → (V 406 [some (vR 0), some (vI c), some (vI d), some (vI q), some (vI n), some (vL (p2 d)), none, none, none, none, none, none, none, some (vI sd), some (vI (bxF (A0 2) c d q sd)), some (vI z), some (vI k), some (vL (100 * (if (0 ≤ d ∧ d ≤ 6 ∧ 0 ≤ q ∧ q < p2 d) ∧ (0 ≤ k ∧ k < A 2 (18 + c)) ∧ 0 ≤ (x_rem sd 2) ∧ (x_rem sd 2) ≤ 2 then ceX (A 2) c d.toNat q (x_rem sd 2) k else -1))), none, some (vL (if (0 ≤ d ∧ d ≤ 6 ∧ 0 ≤ q ∧ q < p2 d) ∧ (0 ≤ k ∧ k < B_1 2 (18 + c)) ∧ 0 ≤ 2 ∧ 2 ≤ 2 then ceX (B_1 2) c d.toNat q 2 k else -1)), none] [] G_2 B_2 6)))))))
    refine ⟨fun c1 => ?_, fun c1 => ?_⟩
    · skip
      (try simp (disch := omega) only [w32_0, w32_id] at c1)
      refine ⟨fun c2 => ?_, fun c2 => ?_⟩
      · skip
        (try simp (disch := omega) only [w32_0, w32_id] at c2)
        refine ⟨by first | exact Or.inl rfl | exact Or.inr rfl, ?_⟩
        have z1 := hzz (by omega); omega
      · skip
        (try simp (disch := omega) only [w32_0, w32_id] at c2)
        exact hx5 _ _ W0
    · skip
      (try simp (disch := omega) only [w32_0, w32_id] at c1)
      refine ⟨by decide, ?_⟩
      refine ⟨by exact ⟨(by rw [qW_2 W0]; exact hc), (by rw [qW_2 W0]; exact hf), (by omega), (by omega), (by omega), (by omega), (by omega), (W0.2.2.1 hca)⟩, ?_⟩
      intro G_1 B_1 g1
      have W1 := qW_q W0 g1
      refine ⟨by exact ⟨(by rw [qW_2 W1]; exact hc), (by rw [qW_2 W1]; exact hf), (by omega), (by omega), (by omega), (by omega), (by omega), (W1.2.2.1 hca)⟩, ?_⟩
      intro G_2 B_2 g2
      have W2 := qW_q W1 g2
      have v1 : (if (0 ≤ d ∧ d ≤ 6 ∧ 0 ≤ q ∧ q < p2 d) ∧ (0 ≤ k ∧ k < A 2 (18 + c)) ∧ 0 ≤ (x_rem sd 2) ∧ (x_rem sd 2) ≤ 2 then ceX (A 2) c d.toNat q (x_rem sd 2) k else -1) = ceX (A0 2) c d.toNat q (sd % 2) k := by rw [if_pos ⟨⟨hd.1, by omega, hq⟩, ⟨hk.1, by rw [qW_2 W0]; omega⟩, by rw [hxr]; omega⟩, qW_2 W0, hxr]
      rw [v1, ccV (qW_2 W1) hd hq ⟨hk.1, by omega⟩ (by decide)]
      exact isC_406 hg hh hK W2 hsd ⟨hk.1, by omega⟩ hz (fun z1 h1 h2 => isC_368 hg hh hK hsd hx5 j (k + 1) z1 _ _ (by omega) ⟨W2, by omega, h1, fun h3 => h2 (Classical.byCases (fun e : k = exX (A0 2) c d.toNat q sd => Or.inr e) (fun e => Or.inl (hzz (by omega))))⟩)
set_option maxRecDepth 20000 in
theorem isC_345 {F0 : FF} {A0 : AA} {c d q n : Int} {K : KK} {V : REC} (hg : am_good qxL_isCutR6 K V) (hh : cuH F0 A0 c d q n) (hK : ∀ G B, qW F0 G A0 B → K (some (some (vI 1))) G B) : ∀ (j : Nat) (sd : Int) (F : FF) (A : AA), Int.toNat (5 - sd) ≤ j → (qW F0 F A0 A ∧ (0 ≤ sd ∧ sd ≤ 4)) → V 345 [some (vR 0), some (vI c), some (vI d), some (vI q), some (vI n), some (vL (p2 d)), none, none, none, none, none, none, none, some (vI sd), none, none, none, none, none, none, none] [] F A 6
  | 0, sd, F, A, hj, hi => by
    obtain ⟨W0, hsd⟩ := hi
    omega
  | j + 1, sd, F, A, hj, hi => by
    obtain ⟨W0, hsd⟩ := hi
    obtain ⟨hf, hca, hc, hd, hq, hn⟩ := id hh
    have hc8 := hf.1.1
    have hs := (hf.2.2.1 c hc.1 hc.2).1
    have hp5 : p2 d ≤ 32 := p2_le (k := 5) hd.2
    refine hg.1 _ (am_runs (cut := (fun pc => cond (Nat.beq pc 368) (some [true, true, true, true, true, true, true, false, false, false, false, false, false, true, true, true, true, false, false, false, false]) (none))) (Kc := V) (fun _ _ _ _ _ _ h => h) hg 17) 345 [some (vR 0), some (vI c), some (vI d), some (vI q), some (vI n), some (vL (p2 d)), none, none, none, none, none, none, none, some (vI sd), none, none, none, none, none, none, none] [] _ _ 6 ?_
    show (w32 sd < w32 4 → (((0 ≤ c ∧ c < A 2 0) ∧ fgOK (A 2) ∧ (-2147483648 ≤ c ∧ c < 2147483648) ∧ (-2147483648 ≤ d ∧ d < 2147483648) ∧ (-2147483648 ≤ q ∧ q < 2147483648) ∧ (-2147483648 ≤ sd ∧ sd < 2147483648) ∧ caAll A) ∧ (∀ (G_1 : FF) (B_1 : AA), (qrP F G_1 A B_1) → (V 368 [some (vR 0), some (vI c), some (vI d), some (vI q), some (vI n), some (vL (p2 d)), none, none, none, none, none, none, none, some (vI sd), some (vI (if (0 ≤ d ∧ d ≤ 6 ∧ 0 ≤ q ∧ q < p2 d) ∧ 0 ≤ sd ∧ sd ≤ 3 then bxF (A 2) c d q sd else -1)), some (vI 0), some (vI 0), none, none, none, none] [] G_1 B_1 6)))) ∧ (¬ w32 sd < w32 4 → ((1 = 0 ∨ 1 = 1) ∧ (K (some (some (vI 1))) F A)))
    refine ⟨fun c1 => ?_, fun c1 => ?_⟩
    · skip
      (try simp (disch := omega) only [w32_0, w32_id] at c1)
      refine ⟨by exact ⟨(by rw [qW_2 W0]; exact hc), (by rw [qW_2 W0]; exact hf), (by omega), (by omega), (by omega), (by omega), (W0.2.2.1 hca)⟩, ?_⟩
      intro G_1 B_1 g1
      have W1 := qW_q W0 g1
      rw [bxV (qW_2 W0) hd hq (by omega)]
      exact isC_368 hg hh hK ⟨hsd.1, by omega⟩ (fun F A w => isC_345 hg hh hK j (sd + 1) F A (by omega) ⟨w, by omega⟩) _ 0 0 _ _ (Nat.le_refl _) ⟨W1, by omega, Or.inl rfl, fun h => by have := bx_w (q := q) (sd := sd) hf hc hd hn ⟨hsd.1, by omega⟩; omega⟩
    · skip
      (try simp (disch := omega) only [w32_0, w32_id] at c1)
      refine ⟨by first | exact Or.inl rfl | exact Or.inr rfl, ?_⟩
      exact hK _ _ W0
theorem pl_eq {f : Int → Int} {c d q w : Int} (h : q < p2 d) : plF f c d q w 0 * ceX f c d.toNat q 2 0 = ceX f c d.toNat q w 0 * plF f c d q w 1 := by
  unfold plF
  have hne : ¬ q = p2 d := by omega
  simp only [if_neg hne, if_true, if_false, Int.reduceEq, eq_self]
  generalize ceX f c d.toNat q w 0 = X
  generalize ceX f c d.toNat q 2 0 = W
  obtain ⟨a, ea⟩ := Int.gcd_dvd_left X W
  obtain ⟨b, eb⟩ := Int.gcd_dvd_right X W
  by_cases g : (Int.gcd X W : Int) = 0
  · rw [g, Int.ediv_zero, Int.ediv_zero, Int.zero_mul, Int.mul_zero]
  · have e1 : X / (Int.gcd X W : Int) = a := by
      conv => lhs; arg 1; rw [ea]
      exact Int.mul_ediv_cancel_left _ g
    have e2 : W / (Int.gcd X W : Int) = b := by
      conv => lhs; arg 1; rw [eb]
      exact Int.mul_ediv_cancel_left _ g
    rw [e1, e2]
    conv => lhs; rw [eb]
    conv => rhs; rw [ea]
    generalize (Int.gcd X W : Int) = t
    grind
theorem plV {X f : Int → Int} {c d q a z : Int} {i : Decidable (0 ≤ d ∧ d ≤ 6 ∧ 0 ≤ q ∧ q ≤ p2 d)} {j : Decidable (a = 0)} (e : X = f) (hd : 0 ≤ d ∧ d ≤ 5) (hq : 0 ≤ q ∧ q < p2 d) (ha : a = 0 ∨ a = 1) : @ite Int (0 ≤ d ∧ d ≤ 6 ∧ 0 ≤ q ∧ q ≤ p2 d) i (plF X c d q (@ite Int (a = 0) j 0 1) z) (-1) = plF f c d q a z := by
  subst e
  rw [if_pos ⟨hd.1, by omega, hq.1, by omega⟩]
  rcases ha with rfl | rfl
  · rw [if_pos rfl]
  · rw [if_neg (by omega)]
set_option maxRecDepth 20000 in
theorem isC_15_3 {F : FF} {A : AA} {F0 : FF} {A0 : AA} {c d q n : Int} {K : KK} {V : REC} (hg : am_good qxL_isCutR6 K V) (hh : cuH F0 A0 c d q n) (hK : ∀ G B, qW F0 G A0 B → K (some (some (vI 1))) G B) (W0 : qW F0 F A0 A) : V 15 [some (vR 0), some (vI c), some (vI d), some (vI q), some (vI n), some (vL (p2 d)), none, some (vI 3), none, none, none, none, none, none, none, none, none, none, none, none, none] [] F A 6 := by
  obtain ⟨hf, hca, hc, hd, hq, hn⟩ := id hh
  have hc8 := hf.1.1
  have hs := (hf.2.2.1 c hc.1 hc.2).1
  have hp5 : p2 d ≤ 32 := p2_le (k := 5) hd.2
  refine hg.1 _ (am_runs (cut := (fun pc => cond (Nat.beq pc 345) (some [true, true, true, true, true, true, true, false, false, false, false, false, false, true, false, false, false, false, false, false, false]) (none))) (Kc := V) (fun _ _ _ _ _ _ h => h) hg 68) 15 [some (vR 0), some (vI c), some (vI d), some (vI q), some (vI n), some (vL (p2 d)), none, some (vI 3), none, none, none, none, none, none, none, none, none, none, none, none, none] [] _ _ 6 ?_
  show (w32 3 < w32 3 → _) ∧ (¬ w32 3 < w32 3 → (((0 ≤ c ∧ c < A 2 0) ∧ fgOK (A 2) ∧ (-2147483648 ≤ c ∧ c < 2147483648) ∧ (-2147483648 ≤ d ∧ d < 2147483648) ∧ (-2147483648 ≤ q ∧ q < 2147483648) ∧ (-2147483648 ≤ 0 ∧ 0 < 2147483648) ∧ caAll A) ∧ (∀ (G_1 : FF) (B_1 : AA), (qrP F G_1 A B_1) → (((0 ≤ c ∧ c < B_1 2 0) ∧ fgOK (B_1 2) ∧ (-2147483648 ≤ c ∧ c < 2147483648) ∧ (-2147483648 ≤ d ∧ d < 2147483648) ∧ (-2147483648 ≤ q ∧ q < 2147483648) ∧ (-2147483648 ≤ 1 ∧ 1 < 2147483648) ∧ caAll B_1) ∧ (∀ (G_2 : FF) (B_2 : AA), (qrP G_1 G_2 B_1 B_2) → (((0 ≤ c ∧ c < B_2 2 0) ∧ fgOK (B_2 2) ∧ (-2147483648 ≤ c ∧ c < 2147483648) ∧ (-2147483648 ≤ d ∧ d < 2147483648) ∧ (-2147483648 ≤ q ∧ q < 2147483648) ∧ (-2147483648 ≤ 0 ∧ 0 < 2147483648) ∧ (-2147483648 ≤ 2 ∧ 2 < 2147483648) ∧ caAll B_2) ∧ (∀ (G_3 : FF) (B_3 : AA), (qrP G_2 G_3 B_2 B_3) → (((0 ≤ c ∧ c < B_3 2 0) ∧ fgOK (B_3 2) ∧ (-2147483648 ≤ c ∧ c < 2147483648) ∧ (-2147483648 ≤ d ∧ d < 2147483648) ∧ (-2147483648 ≤ q ∧ q < 2147483648) ∧ (-2147483648 ≤ 0 ∧ 0 < 2147483648) ∧ (-2147483648 ≤ 0 ∧ 0 < 2147483648) ∧ caAll B_3) ∧ (∀ (G_4 : FF) (B_4 : AA), (qrP G_3 G_4 B_3 B_4) → (((0 ≤ c ∧ c < B_4 2 0) ∧ fgOK (B_4 2) ∧ (-2147483648 ≤ c ∧ c < 2147483648) ∧ (-2147483648 ≤ d ∧ d < 2147483648) ∧ (-2147483648 ≤ q ∧ q < 2147483648) ∧ (-2147483648 ≤ 0 ∧ 0 < 2147483648) ∧ caAll B_4) ∧ (∀ (G_5 : FF) (B_5 : AA), (qrP G_4 G_5 B_4 B_5) → ((w32 (y_cmp ((if 0 ≤ d ∧ d ≤ 6 ∧ 0 ≤ q ∧ q ≤ p2 d then plF (A 2) c d q (if 0 = 0 then 0 else 1) 0 else -1) * (if (0 ≤ d ∧ d ≤ 6 ∧ 0 ≤ q ∧ q < p2 d) ∧ (0 ≤ 0 ∧ 0 < B_2 2 (18 + c)) ∧ 0 ≤ 2 ∧ 2 ≤ 2 then ceX (B_2 2) c d.toNat q 2 0 else -1)) ((if (0 ≤ d ∧ d ≤ 6 ∧ 0 ≤ q ∧ q < p2 d) ∧ (0 ≤ 0 ∧ 0 < B_3 2 (18 + c)) ∧ 0 ≤ 0 ∧ 0 ≤ 2 then ceX (B_3 2) c d.toNat q 0 0 else -1) * (if 0 ≤ d ∧ d ≤ 6 ∧ 0 ≤ q ∧ q ≤ p2 d then plF (B_4 2) c d q (if 0 = 0 then 0 else 1) 1 else -1))) = w32 0 → (((0 ≤ c ∧ c < B_5 2 0) ∧ fgOK (B_5 2) ∧ (-2147483648 ≤ c ∧ c < 2147483648) ∧ (-2147483648 ≤ d ∧ d < 2147483648) ∧ (-2147483648 ≤ q ∧ q < 2147483648) ∧ (-2147483648 ≤ 0 ∧ 0 < 2147483648) ∧ (-2147483648 ≤ 1 ∧ 1 < 2147483648) ∧ caAll B_5) ∧ (∀ (G_6 : FF) (B_6 : AA), (qrP G_5 G_6 B_5 B_6) → (((0 ≤ c ∧ c < B_6 2 0) ∧ fgOK (B_6 2) ∧ (-2147483648 ≤ c ∧ c < 2147483648) ∧ (-2147483648 ≤ d ∧ d < 2147483648) ∧ (-2147483648 ≤ q ∧ q < 2147483648) ∧ (-2147483648 ≤ 1 ∧ 1 < 2147483648) ∧ caAll B_6) ∧ (∀ (G_7 : FF) (B_7 : AA), (qrP G_6 G_7 B_6 B_7) → ((w32 (y_cmp ((if 0 ≤ d ∧ d ≤ 6 ∧ 0 ≤ q ∧ q ≤ p2 d then plF (B_1 2) c d q (if 1 = 0 then 0 else 1) 0 else -1) * (if (0 ≤ d ∧ d ≤ 6 ∧ 0 ≤ q ∧ q < p2 d) ∧ (0 ≤ 0 ∧ 0 < B_2 2 (18 + c)) ∧ 0 ≤ 2 ∧ 2 ≤ 2 then ceX (B_2 2) c d.toNat q 2 0 else -1)) ((if (0 ≤ d ∧ d ≤ 6 ∧ 0 ≤ q ∧ q < p2 d) ∧ (0 ≤ 0 ∧ 0 < B_5 2 (18 + c)) ∧ 0 ≤ 1 ∧ 1 ≤ 2 then ceX (B_5 2) c d.toNat q 1 0 else -1) * (if 0 ≤ d ∧ d ≤ 6 ∧ 0 ≤ q ∧ q ≤ p2 d then plF (B_6 2) c d q (if 1 = 0 then 0 else 1) 1 else -1))) = w32 0 → (V 345 [some (vR 0), some (vI c), some (vI d), some (vI q), some (vI n), some (vL (p2 d)), none, none, none, none, none, none, none, some (vI 0), none, none, none, none, none, none, none] [] G_7 B_7 6)) ∧ (¬ (w32 (y_cmp ((if 0 ≤ d ∧ d ≤ 6 ∧ 0 ≤ q ∧ q ≤ p2 d then plF (B_1 2) c d q (if 1 = 0 then 0 else 1) 0 else -1) * (if (0 ≤ d ∧ d ≤ 6 ∧ 0 ≤ q ∧ q < p2 d) ∧ (0 ≤ 0 ∧ 0 < B_2 2 (18 + c)) ∧ 0 ≤ 2 ∧ 2 ≤ 2 then ceX (B_2 2) c d.toNat q 2 0 else -1)) ((if (0 ≤ d ∧ d ≤ 6 ∧ 0 ≤ q ∧ q < p2 d) ∧ (0 ≤ 0 ∧ 0 < B_5 2 (18 + c)) ∧ 0 ≤ 1 ∧ 1 ≤ 2 then ceX (B_5 2) c d.toNat q 1 0 else -1) * (if 0 ≤ d ∧ d ≤ 6 ∧ 0 ≤ q ∧ q ≤ p2 d then plF (B_6 2) c d q (if 1 = 0 then 0 else 1) 1 else -1))) = w32 0) → ((0 = 0 ∨ 0 = 1) ∧ (K (some (some (vI 0))) G_7 B_7))))))))) ∧ (¬ (w32 (y_cmp ((if 0 ≤ d ∧ d ≤ 6 ∧ 0 ≤ q ∧ q ≤ p2 d then plF (A 2) c d q (if 0 = 0 then 0 else 1) 0 else -1) * (if (0 ≤ d ∧ d ≤ 6 ∧ 0 ≤ q ∧ q < p2 d) ∧ (0 ≤ 0 ∧ 0 < B_2 2 (18 + c)) ∧ 0 ≤ 2 ∧ 2 ≤ 2 then ceX (B_2 2) c d.toNat q 2 0 else -1)) ((if (0 ≤ d ∧ d ≤ 6 ∧ 0 ≤ q ∧ q < p2 d) ∧ (0 ≤ 0 ∧ 0 < B_3 2 (18 + c)) ∧ 0 ≤ 0 ∧ 0 ≤ 2 then ceX (B_3 2) c d.toNat q 0 0 else -1) * (if 0 ≤ d ∧ d ≤ 6 ∧ 0 ≤ q ∧ q ≤ p2 d then plF (B_4 2) c d q (if 0 = 0 then 0 else 1) 1 else -1))) = w32 0) → ((0 = 0 ∨ 0 = 1) ∧ (K (some (some (vI 0))) G_5 B_5)))))))))))))))
  refine ⟨fun q => absurd q (by decide), fun _ => ?_⟩
  refine ⟨by exact ⟨(by rw [qW_2 W0]; exact hc), (by rw [qW_2 W0]; exact hf), (by omega), (by omega), (by omega), (by omega), (W0.2.2.1 hca)⟩, ?_⟩
  intro G_1 B_1 g1
  have W1 := qW_q W0 g1
  refine ⟨by exact ⟨(by rw [qW_2 W1]; exact hc), (by rw [qW_2 W1]; exact hf), (by omega), (by omega), (by omega), (by omega), (W1.2.2.1 hca)⟩, ?_⟩
  intro G_2 B_2 g2
  have W2 := qW_q W1 g2
  refine ⟨by exact ⟨(by rw [qW_2 W2]; exact hc), (by rw [qW_2 W2]; exact hf), (by omega), (by omega), (by omega), (by omega), (by omega), (W2.2.2.1 hca)⟩, ?_⟩
  intro G_3 B_3 g3
  have W3 := qW_q W2 g3
  refine ⟨by exact ⟨(by rw [qW_2 W3]; exact hc), (by rw [qW_2 W3]; exact hf), (by omega), (by omega), (by omega), (by omega), (by omega), (W3.2.2.1 hca)⟩, ?_⟩
  intro G_4 B_4 g4
  have W4 := qW_q W3 g4
  refine ⟨by exact ⟨(by rw [qW_2 W4]; exact hc), (by rw [qW_2 W4]; exact hf), (by omega), (by omega), (by omega), (by omega), (W4.2.2.1 hca)⟩, ?_⟩
  intro G_5 B_5 g5
  have W5 := qW_q W4 g5
  refine ⟨fun c1 => ?_, fun c1 => ?_⟩
  · skip
    skip
    refine ⟨by exact ⟨(by rw [qW_2 W5]; exact hc), (by rw [qW_2 W5]; exact hf), (by omega), (by omega), (by omega), (by omega), (by omega), (W5.2.2.1 hca)⟩, ?_⟩
    intro G_6 B_6 g6
    have W6 := qW_q W5 g6
    refine ⟨by exact ⟨(by rw [qW_2 W6]; exact hc), (by rw [qW_2 W6]; exact hf), (by omega), (by omega), (by omega), (by omega), (W6.2.2.1 hca)⟩, ?_⟩
    intro G_7 B_7 g7
    have W7 := qW_q W6 g7
    refine ⟨fun c2 => ?_, fun c2 => ?_⟩
    · skip
      skip
      exact isC_345 hg hh hK _ 0 _ _ (Nat.le_refl _) ⟨W7, by omega⟩
    · skip
      skip
      refine ⟨by first | exact Or.inl rfl | exact Or.inr rfl, ?_⟩
      exact (c2 (yc_t (by rw [plV (qW_2 W1) hd hq (Or.inr rfl), plV (qW_2 W6) hd hq (Or.inr rfl), ccV (qW_2 W2) hd hq ⟨by omega, by omega⟩ (by decide), ccV (qW_2 W5) hd hq ⟨by omega, by omega⟩ (by decide)]; exact pl_eq hq.2))).elim
  · skip
    skip
    refine ⟨by first | exact Or.inl rfl | exact Or.inr rfl, ?_⟩
    exact (c1 (yc_t (by rw [plV (qW_2 W0) hd hq (Or.inl rfl), plV (qW_2 W4) hd hq (Or.inl rfl), ccV (qW_2 W2) hd hq ⟨by omega, by omega⟩ (by decide), ccV (qW_2 W3) hd hq ⟨by omega, by omega⟩ (by decide)]; exact pl_eq hq.2))).elim
