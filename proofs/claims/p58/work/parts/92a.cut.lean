/-! isCut's pass 2 -/
set_option maxRecDepth 20000 in
theorem isC_169_2 {F : FF} {A : AA} {F0 : FF} {A0 : AA} {c d q n : Int} {K : KK} {V : REC} (hg : am_good qxL_isCutR6 K V) (hh : cuH F0 A0 c d q n) (hK : ∀ G B, qW F0 G A0 B → K (some (some (vI 1))) G B) (W0 : qW F0 F A0 A) (hB : ∀ i, 0 ≤ i → i < n + 1 → A 29 i = hmR (A0 2) c 2 i) (hO : ∀ i, 0 ≤ i → i < n + 1 → A 30 i = ceX (A0 2) c d.toNat q 2 i) : V 169 [some (vR 0), some (vI c), some (vI d), some (vI q), some (vI n), some (vL (p2 d)), none, some (vI 2), some (vR 29), some (vR 30), none, none, none, none, none, none, none, none, none, none, none] [] F A 6 := by
  obtain ⟨hf, hca, hc, hd, hq, hn⟩ := id hh
  have hc8 := hf.1.1
  have hs := (hf.2.2.1 c hc.1 hc.2).1
  have hp5 : p2 d ≤ 32 := p2_le (k := 5) hd.2
  have n1 : 1 ≤ n := by omega
  have n3 : n ≤ 3 := by omega
  have eq : w32 q = q := w32_id (by omega) (by omega)
  have q1 : q < p2 ((d.toNat : Nat) : Int) := by rw [show ((d.toNat : Nat) : Int) = d by omega]; exact hq.2
  have cB : ∀ i m, atI (A 29) n i m = atI (hmR (A0 2) c 2) n i m := fun i m => atI_c n1 n3 (fun k k0 k1 => hB k k0 (by omega))
  have cO : ∀ i m, atI (A 30) n i m = atI (cellF (hmR (A0 2) c 2) n d.toNat q) n i m := fun i m => atI_c n1 n3 (fun k k0 k1 => by rw [hO k k0 (by omega), hn]; rfl)
  have k2 := ce_2 (g := hmR (A0 2) c 2) n1 n3 hq.1 q1
  have k4 := ce_4 (g := hmR (A0 2) c 2) n1 n3 hq.1 q1
  rw [show ((d.toNat : Nat) : Int) = d by omega] at k2 k4
  refine hg.1 _ (am_runs (cut := (fun pc => cond (Nat.beq pc 15) (some [true, true, true, true, true, true, true, true, false, false, false, false, false, false, false, false, false, false, false, false, false]) (none))) (Kc := V) (fun _ _ _ _ _ _ h => h) hg 46) 169 [some (vR 0), some (vI c), some (vI d), some (vI q), some (vI n), some (vL (p2 d)), none, some (vI 2), some (vR 29), some (vR 30), none, none, none, none, none, none, none, none, none, none, none] [] _ _ 6 ?_
  show (1 ≤ n ∧ n ≤ 3) ∧ ((1 ≤ n ∧ n ≤ 3) ∧ ((w32 (y_cmp (atI (A 30) n 1 2) (atI (A 29) n ((2 * (w32 q)) + 1) (2 * (p2 d)))) = w32 0 → ((w32 n = w32 3 → ((1 ≤ n ∧ n ≤ 3) ∧ ((1 ≤ n ∧ n ≤ 3) ∧ ((w32 (y_cmp (atI (A 30) n 1 4) (atI (A 29) n ((4 * (w32 q)) + 1) (4 * (p2 d)))) = w32 0 → (V 15 [some (vR 0), some (vI c), some (vI d), some (vI q), some (vI n), some (vL (p2 d)), none, some (vI 3), none, none, none, none, none, none, none, none, none, none, none, none, none] [] F A 6)) ∧ (¬ w32 (y_cmp (atI (A 30) n 1 4) (atI (A 29) n ((4 * (w32 q)) + 1) (4 * (p2 d)))) = w32 0 → ((0 = 0 ∨ 0 = 1) ∧ (K (some (some (vI 0))) F A))))))) ∧ (¬ w32 n = w32 3 → (V 15 [some (vR 0), some (vI c), some (vI d), some (vI q), some (vI n), some (vL (p2 d)), none, some (vI 3), none, none, none, none, none, none, none, none, none, none, none, none, none] [] F A 6)))) ∧ (¬ w32 (y_cmp (atI (A 30) n 1 2) (atI (A 29) n ((2 * (w32 q)) + 1) (2 * (p2 d)))) = w32 0 → ((0 = 0 ∨ 0 = 1) ∧ (K (some (some (vI 0))) F A)))))
  refine ⟨by omega, ?_⟩
  refine ⟨by omega, ?_⟩
  refine ⟨fun c1 => ?_, fun c1 => ?_⟩
  · skip
    skip
    refine ⟨fun c2 => ?_, fun c2 => ?_⟩
    · skip
      skip
      refine ⟨by omega, ?_⟩
      refine ⟨by omega, ?_⟩
      refine ⟨fun c3 => ?_, fun c3 => ?_⟩
      · skip
        skip
        exact isC_15_3 hg hh hK W0
      · skip
        skip
        refine ⟨by first | exact Or.inl rfl | exact Or.inr rfl, ?_⟩
        exact (c3 (yc_t (by rw [cO, cB, eq]; exact k4))).elim
    · skip
      skip
      exact isC_15_3 hg hh hK W0
  · skip
    skip
    refine ⟨by first | exact Or.inl rfl | exact Or.inr rfl, ?_⟩
    exact (c1 (yc_t (by rw [cO, cB, eq]; exact k2))).elim
set_option maxRecDepth 20000 in
theorem isC_140_2 {F0 : FF} {A0 : AA} {c d q n : Int} {K : KK} {V : REC} (hg : am_good qxL_isCutR6 K V) (hh : cuH F0 A0 c d q n) (hK : ∀ G B, qW F0 G A0 B → K (some (some (vI 1))) G B) : ∀ (j : Nat) (k : Int) (F : FF) (A : AA), Int.toNat (n + 2 - k) ≤ j → (qW F0 F A0 A ∧ (∀ i, 0 ≤ i → i < n + 1 → A 29 i = hmR (A0 2) c 2 i) ∧ (0 ≤ k ∧ k ≤ n + 1) ∧ ∀ i, 0 ≤ i → i < k → A 30 i = ceX (A0 2) c d.toNat q 2 i) → V 140 [some (vR 0), some (vI c), some (vI d), some (vI q), some (vI n), some (vL (p2 d)), none, some (vI 2), some (vR 29), some (vR 30), some (vI k), none, none, none, none, none, none, none, none, none, none] [] F A 6
  | 0, k, F, A, hj, hi => by
    obtain ⟨W0, hB, hk, hO⟩ := hi
    omega
  | j + 1, k, F, A, hj, hi => by
    obtain ⟨W0, hB, hk, hO⟩ := hi
    obtain ⟨hf, hca, hc, hd, hq, hn⟩ := id hh
    have hc8 := hf.1.1
    have hs := (hf.2.2.1 c hc.1 hc.2).1
    have hp5 : p2 d ≤ 32 := p2_le (k := 5) hd.2
    refine hg.1 _ (am_runs (cut := (fun pc => cond (Nat.beq pc 140) (some [true, true, true, true, true, true, true, true, true, true, true, false, false, false, false, false, false, false, false, false, false]) (cond (Nat.beq pc 169) (some [true, true, true, true, true, true, true, true, true, true, false, false, false, false, false, false, false, false, false, false, false]) (none)))) (Kc := V) (fun _ _ _ _ _ _ h => h) hg 18) 140 [some (vR 0), some (vI c), some (vI d), some (vI q), some (vI n), some (vL (p2 d)), none, some (vI 2), some (vR 29), some (vR 30), some (vI k), none, none, none, none, none, none, none, none, none, none] [] _ _ 6 ?_
    show (w32 n < w32 k → (V 169 [some (vR 0), some (vI c), some (vI d), some (vI q), some (vI n), some (vL (p2 d)), none, some (vI 2), some (vR 29), some (vR 30), none, none, none, none, none, none, none, none, none, none, none] [] F A 6)) ∧ (¬ w32 n < w32 k → (((0 ≤ c ∧ c < A 2 0) ∧ fgOK (A 2) ∧ (-2147483648 ≤ c ∧ c < 2147483648) ∧ (-2147483648 ≤ d ∧ d < 2147483648) ∧ (-2147483648 ≤ q ∧ q < 2147483648) ∧ (-2147483648 ≤ k ∧ k < 2147483648) ∧ (-2147483648 ≤ 2 ∧ 2 < 2147483648) ∧ caAll A) ∧ (∀ (G_1 : FF) (B_1 : AA), (qrP F G_1 A B_1) → ((0 ≤ w32 k ∧ w32 k < 4) ∧ (V 140 [some (vR 0), some (vI c), some (vI d), some (vI q), some (vI n), some (vL (p2 d)), none, some (vI 2), some (vR 29), some (vR 30), some (vI (k + 1)), none, none, none, none, none, none, none, none, none, none] [] G_1 (upA B_1 30 (w32 k) (if (0 ≤ d ∧ d ≤ 6 ∧ 0 ≤ q ∧ q < p2 d) ∧ (0 ≤ k ∧ k < A 2 (18 + c)) ∧ 0 ≤ 2 ∧ 2 ≤ 2 then ceX (A 2) c d.toNat q 2 k else -1)) 6)))))
    refine ⟨fun c1 => ?_, fun c1 => ?_⟩
    · skip
      (try simp (disch := omega) only [w32_0, w32_id] at c1)
      exact isC_169_2 hg hh hK W0 hB (fun i i0 i1 => hO i i0 (by omega))
    · skip
      (try simp (disch := omega) only [w32_0, w32_id] at c1)
      refine ⟨by exact ⟨(by rw [qW_2 W0]; exact hc), (by rw [qW_2 W0]; exact hf), (by omega), (by omega), (by omega), (by omega), (by omega), (W0.2.2.1 hca)⟩, ?_⟩
      intro G_1 B_1 g1
      have W1 := qW_q W0 g1
      refine ⟨by rw [w32_id (by omega) (by omega)]; omega, ?_⟩
      exact isC_140_2 hg hh hK j (k + 1) _ _ (by omega) ⟨qW_up W1 (by decide), rowU (by decide) (rowQ (by decide) g1 hB), by omega, rowS (rowQ (by decide) g1 hO) hk.1 (by omega) (ccV (qW_2 W0) hd hq ⟨hk.1, by omega⟩ (by decide))⟩
set_option maxRecDepth 20000 in
theorem isC_135_2 {F : FF} {A : AA} {F0 : FF} {A0 : AA} {c d q n : Int} {K : KK} {V : REC} (hg : am_good qxL_isCutR6 K V) (hh : cuH F0 A0 c d q n) (hK : ∀ G B, qW F0 G A0 B → K (some (some (vI 1))) G B) (W0 : qW F0 F A0 A) (hB : ∀ i, 0 ≤ i → i < n + 1 → A 29 i = hmR (A0 2) c 2 i) : V 135 [some (vR 0), some (vI c), some (vI d), some (vI q), some (vI n), some (vL (p2 d)), none, some (vI 2), some (vR 29), none, none, none, none, none, none, none, none, none, none, none, none] [vR 30] F A 6 := by
  obtain ⟨hf, hca, hc, hd, hq, hn⟩ := id hh
  have hc8 := hf.1.1
  have hs := (hf.2.2.1 c hc.1 hc.2).1
  have hp5 : p2 d ≤ 32 := p2_le (k := 5) hd.2
  refine hg.1 _ (am_runs (cut := (fun pc => cond (Nat.beq pc 140) (some [true, true, true, true, true, true, true, true, true, true, true, false, false, false, false, false, false, false, false, false, false]) (none))) (Kc := V) (fun _ _ _ _ _ _ h => h) hg 6) 135 [some (vR 0), some (vI c), some (vI d), some (vI q), some (vI n), some (vL (p2 d)), none, some (vI 2), some (vR 29), none, none, none, none, none, none, none, none, none, none, none, none] [vR 30] _ _ 6 ?_
  show V 140 [some (vR 0), some (vI c), some (vI d), some (vI q), some (vI n), some (vL (p2 d)), none, some (vI 2), some (vR 29), some (vR 30), some (vI 0), none, none, none, none, none, none, none, none, none, none] [] F A 6
  exact isC_140_2 hg hh hK _ 0 _ _ (Nat.le_refl _) ⟨W0, hB, by omega, fun i i0 i1 => by omega⟩
set_option maxRecDepth 20000 in
theorem isC_77_2 {F : FF} {A : AA} {F0 : FF} {A0 : AA} {c d q n : Int} {K : KK} {V : REC} (hg : am_good qxL_isCutR5 K V) (hh : cuH F0 A0 c d q n) (hK : ∀ G B, qW F0 G A0 B → K (some (some (vI 1))) G B) (W0 : qW F0 F A0 A) (hB : ∀ i, 0 ≤ i → i < n + 1 → A 29 i = hmR (A0 2) c 2 i) : V 77 [some (vR 0), some (vI c), some (vI d), some (vI q), some (vI n), some (vL (p2 d)), none, some (vI 2), some (vR 29), none, none, none, none, none, none, none, none, none, none, none, none] [] F A 5 := by
  obtain ⟨hf, hca, hc, hd, hq, hn⟩ := id hh
  have hc8 := hf.1.1
  have hs := (hf.2.2.1 c hc.1 hc.2).1
  have hp5 : p2 d ≤ 32 := p2_le (k := 5) hd.2
  have n1 : 1 ≤ n := by omega
  have n3 : n ≤ 3 := by omega
  have eq : w32 q = q := w32_id (by omega) (by omega)
  have eq1 : w32 (q + 1) = q + 1 := w32_id (by omega) (by omega)
  have q1 : q < p2 ((d.toNat : Nat) : Int) := by rw [show ((d.toNat : Nat) : Int) = d by omega]; exact hq.2
  have cB : ∀ (X : AA), (∀ i, 0 ≤ i → i < n + 1 → X 29 i = hmR (A0 2) c 2 i) → ∀ i m, atI (X 29) n i m = atI (hmR (A0 2) c 2) n i m := fun X hX i m => atI_c n1 n3 (fun k k0 k1 => hX k k0 (by omega))
  have k0 := ce_0 (g := hmR (A0 2) c 2) n1 n3 hq.1 q1
  have k1 := ce_n (g := hmR (A0 2) c 2) n1 n3 hq.1 q1
  rw [show ((d.toNat : Nat) : Int) = d by omega] at k0 k1
  rw [hn] at k0 k1
  refine hg.1 _ (am_runs (cut := (fun pc => none)) (Kc := V) (fun _ _ _ _ _ _ h => h) hg 36) 77 [some (vR 0), some (vI c), some (vI d), some (vI q), some (vI n), some (vL (p2 d)), none, some (vI 2), some (vR 29), none, none, none, none, none, none, none, none, none, none, none, none] [] _ _ 5 ?_
  show ((0 ≤ c ∧ c < A 2 0) ∧ fgOK (A 2) ∧ (-2147483648 ≤ c ∧ c < 2147483648) ∧ (-2147483648 ≤ d ∧ d < 2147483648) ∧ (-2147483648 ≤ q ∧ q < 2147483648) ∧ (-2147483648 ≤ 0 ∧ 0 < 2147483648) ∧ (-2147483648 ≤ 2 ∧ 2 < 2147483648) ∧ caAll A) ∧ (∀ (G_1 : FF) (B_1 : AA), (qrP F G_1 A B_1) → ((1 ≤ n ∧ n ≤ 3) ∧ ((w32 (y_cmp (if (0 ≤ d ∧ d ≤ 6 ∧ 0 ≤ q ∧ q < p2 d) ∧ (0 ≤ 0 ∧ 0 < A 2 (18 + c)) ∧ 0 ≤ 2 ∧ 2 ≤ 2 then ceX (A 2) c d.toNat q 2 0 else -1) (atI (B_1 29) n (w32 q) (p2 d))) = w32 0 → (((0 ≤ c ∧ c < B_1 2 0) ∧ fgOK (B_1 2) ∧ (-2147483648 ≤ c ∧ c < 2147483648) ∧ (-2147483648 ≤ d ∧ d < 2147483648) ∧ (-2147483648 ≤ q ∧ q < 2147483648) ∧ (-2147483648 ≤ n ∧ n < 2147483648) ∧ (-2147483648 ≤ 2 ∧ 2 < 2147483648) ∧ caAll B_1) ∧ (∀ (G_2 : FF) (B_2 : AA), (qrP G_1 G_2 B_1 B_2) → ((1 ≤ n ∧ n ≤ 3) ∧ ((w32 (y_cmp (if (0 ≤ d ∧ d ≤ 6 ∧ 0 ≤ q ∧ q < p2 d) ∧ (0 ≤ n ∧ n < B_1 2 (18 + c)) ∧ 0 ≤ 2 ∧ 2 ≤ 2 then ceX (B_1 2) c d.toNat q 2 n else -1) (atI (B_2 29) n (w32 (q + 1)) (p2 d))) = w32 0 → ((w32 4 = 4 ∧ am_nr 30 [some (vR 0), some (vI c), some (vI d), some (vI q), some (vI n), some (vL (p2 d)), none, some (vI 2), some (vR 29), none, none, none, none, none, none, none, none, none, none, none, none] = true ∧ am_nr 30 (List.map some []) = true ∧ 5 + 1 ≤ cxMc qxL_isCutR6) ∧ (∀ W : REC, am_good qxL_isCutR6 K W → W 135 [some (vR 0), some (vI c), some (vI d), some (vI q), some (vI n), some (vL (p2 d)), none, some (vI 2), some (vR 29), none, none, none, none, none, none, none, none, none, none, none, none] [vR 30] G_2 (zrA B_2 30) (5 + 1)))) ∧ (¬ (w32 (y_cmp (if (0 ≤ d ∧ d ≤ 6 ∧ 0 ≤ q ∧ q < p2 d) ∧ (0 ≤ n ∧ n < B_1 2 (18 + c)) ∧ 0 ≤ 2 ∧ 2 ≤ 2 then ceX (B_1 2) c d.toNat q 2 n else -1) (atI (B_2 29) n (w32 (q + 1)) (p2 d))) = w32 0) → ((0 = 0 ∨ 0 = 1) ∧ (K (some (some (vI 0))) G_2 B_2)))))))) ∧ (¬ (w32 (y_cmp (if (0 ≤ d ∧ d ≤ 6 ∧ 0 ≤ q ∧ q < p2 d) ∧ (0 ≤ 0 ∧ 0 < A 2 (18 + c)) ∧ 0 ≤ 2 ∧ 2 ≤ 2 then ceX (A 2) c d.toNat q 2 0 else -1) (atI (B_1 29) n (w32 q) (p2 d))) = w32 0) → ((0 = 0 ∨ 0 = 1) ∧ (K (some (some (vI 0))) G_1 B_1))))))
  refine ⟨by exact ⟨(by rw [qW_2 W0]; exact hc), (by rw [qW_2 W0]; exact hf), (by omega), (by omega), (by omega), (by omega), (by omega), (W0.2.2.1 hca)⟩, ?_⟩
  intro G_1 B_1 g1
  have W1 := qW_q W0 g1
  refine ⟨by omega, ?_⟩
  refine ⟨fun c1 => ?_, fun c1 => ?_⟩
  · skip
    skip
    refine ⟨by exact ⟨(by rw [qW_2 W1]; exact hc), (by rw [qW_2 W1]; exact hf), (by omega), (by omega), (by omega), (by omega), (by omega), (W1.2.2.1 hca)⟩, ?_⟩
    intro G_2 B_2 g2
    have W2 := qW_q W1 g2
    refine ⟨by omega, ?_⟩
    refine ⟨fun c2 => ?_, fun c2 => ?_⟩
    · skip
      skip
      refine ⟨by exact ⟨rfl, rfl, rfl, by decide⟩, ?_⟩
      exact fun V hg => isC_135_2 hg hh hK (qW_zr W2 (by decide)) (rowZ (by decide) (rowQ (by decide) g2 (rowQ (by decide) g1 hB)))
    · skip
      skip
      refine ⟨by first | exact Or.inl rfl | exact Or.inr rfl, ?_⟩
      exact (c2 (yc_t (by rw [ccV (qW_2 W1) hd hq ⟨by omega, by omega⟩ (by decide), cB _ (rowQ (by decide) g2 (rowQ (by decide) g1 hB)), eq1, hn]; exact k1))).elim
  · skip
    skip
    refine ⟨by first | exact Or.inl rfl | exact Or.inr rfl, ?_⟩
    exact (c1 (yc_t (by rw [ccV (qW_2 W0) hd hq ⟨by omega, by omega⟩ (by decide), cB _ (rowQ (by decide) g1 hB), eq, hn]; exact k0))).elim
set_option maxRecDepth 20000 in
theorem isC_29_2 {F0 : FF} {A0 : AA} {c d q n : Int} {K : KK} {V : REC} (hg : am_good qxL_isCutR5 K V) (hh : cuH F0 A0 c d q n) (hK : ∀ G B, qW F0 G A0 B → K (some (some (vI 1))) G B) : ∀ (j : Nat) (k : Int) (F : FF) (A : AA), Int.toNat (n + 2 - k) ≤ j → (qW F0 F A0 A ∧ (0 ≤ k ∧ k ≤ n + 1) ∧ ∀ i, 0 ≤ i → i < k → A 29 i = hmR (A0 2) c 2 i) → V 29 [some (vR 0), some (vI c), some (vI d), some (vI q), some (vI n), some (vL (p2 d)), none, some (vI 2), some (vR 29), some (vI k), none, none, none, none, none, none, none, none, none, none, none] [] F A 5
  | 0, k, F, A, hj, hi => by
    obtain ⟨W0, hk, hB⟩ := hi
    omega
  | j + 1, k, F, A, hj, hi => by
    obtain ⟨W0, hk, hB⟩ := hi
    obtain ⟨hf, hca, hc, hd, hq, hn⟩ := id hh
    have hc8 := hf.1.1
    have hs := (hf.2.2.1 c hc.1 hc.2).1
    have hp5 : p2 d ≤ 32 := p2_le (k := 5) hd.2
    refine hg.1 _ (am_runs (cut := (fun pc => cond (Nat.beq pc 29) (some [true, true, true, true, true, true, true, true, true, true, false, false, false, false, false, false, false, false, false, false, false]) (cond (Nat.beq pc 77) (some [true, true, true, true, true, true, true, true, true, false, false, false, false, false, false, false, false, false, false, false, false]) (none)))) (Kc := V) (fun _ _ _ _ _ _ h => h) hg 24) 29 [some (vR 0), some (vI c), some (vI d), some (vI q), some (vI n), some (vL (p2 d)), none, some (vI 2), some (vR 29), some (vI k), none, none, none, none, none, none, none, none, none, none, none] [] _ _ 5 ?_
    show (w32 n < w32 k → (V 77 [some (vR 0), some (vI c), some (vI d), some (vI q), some (vI n), some (vL (p2 d)), none, some (vI 2), some (vR 29), none, none, none, none, none, none, none, none, none, none, none, none] [] F A 5)) ∧ (¬ w32 n < w32 k → (((0 ≤ c ∧ c < A 2 0) ∧ fgOK (A 2) ∧ (-2147483648 ≤ c ∧ c < 2147483648) ∧ (-2147483648 ≤ k ∧ k < 2147483648) ∧ (-2147483648 ≤ 2 ∧ 2 < 2147483648)) ∧ ((w32 2 = w32 2 → ((0 ≤ w32 k ∧ w32 k < 4) ∧ (V 29 [some (vR 0), some (vI c), some (vI d), some (vI q), some (vI n), some (vL (p2 d)), none, some (vI 2), some (vR 29), some (vI (k + 1)), none, none, none, none, none, none, none, none, none, none, none] [] F (upA A 29 (w32 k) ((w32 (if 0 ≤ k ∧ k < A 2 (18 + c) then (if 0 ≤ 2 ∧ 2 ≤ 2 then A 2 (26 + (c * 4 + k) * 3 + 2) else -2) else -1)) * (w32 1))) 5))) ∧ (¬ w32 2 = w32 2 → _))))
    refine ⟨fun c1 => ?_, fun c1 => ?_⟩
    · skip
      (try simp (disch := omega) only [w32_0, w32_id] at c1)
      exact isC_77_2 hg hh hK W0 (fun i i0 i1 => hB i i0 (by omega))
    · skip
      (try simp (disch := omega) only [w32_0, w32_id] at c1)
      refine ⟨by exact ⟨(by rw [qW_2 W0]; exact hc), (by rw [qW_2 W0]; exact hf), (by omega), (by omega), (by omega)⟩, ?_⟩
      refine ⟨fun _ => ?_, fun q => absurd (by decide) q⟩
      refine ⟨by rw [w32_id (by omega) (by omega)]; omega, ?_⟩
      exact isC_29_2 hg hh hK j (k + 1) _ _ (by omega) ⟨qW_up W0 (by decide), by omega, rowS hB hk.1 (by omega) (by rw [ctV (qW_2 W0) ⟨hk.1, by omega⟩ (by decide), show w32 1 = 1 from rfl, Int.mul_one]; exact hm_w)⟩
set_option maxRecDepth 20000 in
theorem isC_24_2 {F : FF} {A : AA} {F0 : FF} {A0 : AA} {c d q n : Int} {K : KK} {V : REC} (hg : am_good qxL_isCutR5 K V) (hh : cuH F0 A0 c d q n) (hK : ∀ G B, qW F0 G A0 B → K (some (some (vI 1))) G B) (W0 : qW F0 F A0 A) : V 24 [some (vR 0), some (vI c), some (vI d), some (vI q), some (vI n), some (vL (p2 d)), none, some (vI 2), none, none, none, none, none, none, none, none, none, none, none, none, none] [vR 29] F A 5 := by
  obtain ⟨hf, hca, hc, hd, hq, hn⟩ := id hh
  have hc8 := hf.1.1
  have hs := (hf.2.2.1 c hc.1 hc.2).1
  have hp5 : p2 d ≤ 32 := p2_le (k := 5) hd.2
  refine hg.1 _ (am_runs (cut := (fun pc => cond (Nat.beq pc 29) (some [true, true, true, true, true, true, true, true, true, true, false, false, false, false, false, false, false, false, false, false, false]) (none))) (Kc := V) (fun _ _ _ _ _ _ h => h) hg 6) 24 [some (vR 0), some (vI c), some (vI d), some (vI q), some (vI n), some (vL (p2 d)), none, some (vI 2), none, none, none, none, none, none, none, none, none, none, none, none, none] [vR 29] _ _ 5 ?_
  show V 29 [some (vR 0), some (vI c), some (vI d), some (vI q), some (vI n), some (vL (p2 d)), none, some (vI 2), some (vR 29), some (vI 0), none, none, none, none, none, none, none, none, none, none, none] [] F A 5
  exact isC_29_2 hg hh hK _ 0 _ _ (Nat.le_refl _) ⟨W0, by omega, fun i i0 i1 => by omega⟩
set_option maxRecDepth 20000 in
theorem isC_15_2 {F : FF} {A : AA} {F0 : FF} {A0 : AA} {c d q n : Int} {K : KK} {V : REC} (hg : am_good qxL_isCutR4 K V) (hh : cuH F0 A0 c d q n) (hK : ∀ G B, qW F0 G A0 B → K (some (some (vI 1))) G B) (W0 : qW F0 F A0 A) : V 15 [some (vR 0), some (vI c), some (vI d), some (vI q), some (vI n), some (vL (p2 d)), none, some (vI 2), none, none, none, none, none, none, none, none, none, none, none, none, none] [] F A 4 := by
  obtain ⟨hf, hca, hc, hd, hq, hn⟩ := id hh
  have hc8 := hf.1.1
  have hs := (hf.2.2.1 c hc.1 hc.2).1
  have hp5 : p2 d ≤ 32 := p2_le (k := 5) hd.2
  refine hg.1 _ (am_runs (cut := (fun pc => none)) (Kc := V) (fun _ _ _ _ _ _ h => h) hg 7) 15 [some (vR 0), some (vI c), some (vI d), some (vI q), some (vI n), some (vL (p2 d)), none, some (vI 2), none, none, none, none, none, none, none, none, none, none, none, none, none] [] _ _ 4 ?_
  show (w32 2 < w32 3 → ((w32 4 = 4 ∧ am_nr 29 [some (vR 0), some (vI c), some (vI d), some (vI q), some (vI n), some (vL (p2 d)), none, some (vI 2), none, none, none, none, none, none, none, none, none, none, none, none, none] = true ∧ am_nr 29 (List.map some []) = true ∧ 4 + 1 ≤ cxMc qxL_isCutR5) ∧ (∀ W : REC, am_good qxL_isCutR5 K W → W 24 [some (vR 0), some (vI c), some (vI d), some (vI q), some (vI n), some (vL (p2 d)), none, some (vI 2), none, none, none, none, none, none, none, none, none, none, none, none, none] [vR 29] F (zrA A 29) (4 + 1)))) ∧ (¬ w32 2 < w32 3 → _)
  refine ⟨fun _ => ?_, fun q => absurd (by decide) q⟩
  refine ⟨by exact ⟨rfl, rfl, rfl, by decide⟩, ?_⟩
  exact fun V hg => isC_24_2 hg hh hK (qW_zr W0 (by decide))
