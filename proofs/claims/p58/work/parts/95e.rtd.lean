set_option maxRecDepth 20000 in
theorem isR_117 {F : FF} {A : AA} {on : Int} {F0 : FF} {A0 : AA} {c l n : Int} {K : KK} {V : REC} (hg : am_good qxL_isRootedR1 K V) (hh : rtH A0 c l n) (hK : ∀ G B, qW F0 G A0 B → K (some (some (vI 1))) G B) (W0 : qW F0 F A0 A) (hB : (∀ i, 0 ≤ i → i < n + 1 → A 25 i = (cfL (A0 2) c l) i)) (ho : on = 0 ∨ on = 1) (hoz : (on = 1 ↔ azP (cfL (A0 2) c l) (Int.toNat (A0 2 (18 + c))))) : V 117 [some (vR 0), some (vI c), some (vI l), some (vR 25), some (vI n), some (vI on), none, none, none, none, none, none, none, none, none, none, none, none, none, none] [] F A 1 := by
  obtain ⟨hf, hc, hl, hn⟩ := id hh
  have hc8 := hf.1.1
  have hl6 := hf.1.2
  have hs := (hf.2.2.1 c hc.1 hc.2).1
  obtain ⟨hlm, hsm, n1, n3, hnt, h8⟩ := rt_f hf hc hl hn
  refine hg.1 _ (am_runs (cut := (fun pc => none)) (Kc := V) (fun _ _ _ _ _ _ h => h) hg 32) 117 [some (vR 0), some (vI c), some (vI l), some (vR 25), some (vI n), some (vI on), none, none, none, none, none, none, none, none, none, none, none, none, none, none] [] _ _ 1 ?_
  show (w32 on = w32 0 → ((((0 ≤ c ∧ c < A 2 0) ∧ 0 ≤ l ∧ l < A 2 1) ∧ fgOK (A 2) ∧ (-2147483648 ≤ c ∧ c < 2147483648) ∧ (-2147483648 ≤ l ∧ l < 2147483648) ∧ rtB (A 2)) ∧ (∀ (G_1 : FF) (B_1 : AA), (qrP F G_1 A B_1) → ((w32 3 = 3 ∧ am_nr 26 [some (vR 0), some (vI c), some (vI l), some (vR 25), some (vI n), some (vI on), some (vI (if azP (cfL (A 2) c l) (Int.toNat (A 2 (18 + c))) then -1 else ((rtsX (A 2) c l).length : Int))), none, none, none, none, none, none, none, none, none, none, none, none, none] = true ∧ am_nr 26 (List.map some []) = true ∧ 1 + 1 ≤ cxMc qxL_isRootedK2) ∧ (∀ W : REC, am_good qxL_isRootedK2 K W → W 180 [some (vR 0), some (vI c), some (vI l), some (vR 25), some (vI n), some (vI on), some (vI (if azP (cfL (A 2) c l) (Int.toNat (A 2 (18 + c))) then -1 else ((rtsX (A 2) c l).length : Int))), none, none, none, none, none, none, none, none, none, none, none, none, none] [vR 26] G_1 (zrA B_1 26) (1 + 1)))))) ∧ (¬ w32 on = w32 0 → ((((0 ≤ c ∧ c < A 2 0) ∧ 0 ≤ l ∧ l < A 2 1) ∧ fgOK (A 2) ∧ (-2147483648 ≤ c ∧ c < 2147483648) ∧ (-2147483648 ≤ l ∧ l < 2147483648) ∧ rtB (A 2)) ∧ (∀ (G_1 : FF) (B_1 : AA), (qrP F G_1 A B_1) → ((w32 (if azP (cfL (A 2) c l) (Int.toNat (A 2 (18 + c))) then -1 else ((rtsX (A 2) c l).length : Int)) = w32 (-1) → ((((0 ≤ c ∧ c < B_1 2 0) ∧ 0 ≤ l ∧ l < B_1 2 1) ∧ fgOK (B_1 2) ∧ (-2147483648 ≤ c ∧ c < 2147483648) ∧ (-2147483648 ≤ l ∧ l < 2147483648) ∧ (-2147483648 ≤ 0 ∧ 0 < 2147483648) ∧ rtB (B_1 2)) ∧ (∀ (G_2 : FF) (B_2 : AA), (qrP G_1 G_2 B_1 B_2) → ((w32 (if 0 ≤ 0 ∧ 0 ≤ 2 then (if azP (cfL (B_1 2) c l) (Int.toNat (B_1 2 (18 + c))) then -1 else cntK (ktF (rtsX (B_1 2) c l)) 0 (rtsX (B_1 2) c l).length) else -2) = w32 (-1) → ((((0 ≤ c ∧ c < B_2 2 0) ∧ 0 ≤ l ∧ l < B_2 2 1) ∧ fgOK (B_2 2) ∧ (-2147483648 ≤ c ∧ c < 2147483648) ∧ (-2147483648 ≤ l ∧ l < 2147483648) ∧ (-2147483648 ≤ 0 ∧ 0 < 2147483648) ∧ rtB (B_2 2)) ∧ (∀ (G_3 : FF) (B_3 : AA), (qrP G_2 G_3 B_2 B_3) → ((w32 (if 0 ≤ 0 ∧ 0 < ((rtsX (B_2 2) c l).length : Int) then ((rtsX (B_2 2) c l).getD (Int.toNat 0) (0, 0, 0)).1 else -1) = w32 (-1) → ((((0 ≤ c ∧ c < B_3 2 0) ∧ 0 ≤ l ∧ l < B_3 2 1) ∧ fgOK (B_3 2) ∧ (-2147483648 ≤ c ∧ c < 2147483648) ∧ (-2147483648 ≤ l ∧ l < 2147483648)) ∧ (∀ (G_4 : FF) (B_4 : AA), (qrP G_3 G_4 B_3 B_4) → ((w32 (bi (dblP (cfL (B_3 2) c l) (B_3 2 (18 + c) - 1))) = w32 0 → ((1 = 0 ∨ 1 = 1) ∧ (K (some (some (vI 1))) G_4 B_4))) ∧ (¬ w32 (bi (dblP (cfL (B_3 2) c l) (B_3 2 (18 + c) - 1))) = w32 0 → ((0 = 0 ∨ 0 = 1) ∧ (K (some (some (vI 0))) G_4 B_4))))))) ∧ (¬ (w32 (if 0 ≤ 0 ∧ 0 < ((rtsX (B_2 2) c l).length : Int) then ((rtsX (B_2 2) c l).getD (Int.toNat 0) (0, 0, 0)).1 else -1) = w32 (-1)) → ((0 = 0 ∨ 0 = 1) ∧ (K (some (some (vI 0))) G_3 B_3))))))) ∧ (¬ (w32 (if 0 ≤ 0 ∧ 0 ≤ 2 then (if azP (cfL (B_1 2) c l) (Int.toNat (B_1 2 (18 + c))) then -1 else cntK (ktF (rtsX (B_1 2) c l)) 0 (rtsX (B_1 2) c l).length) else -2) = w32 (-1)) → ((0 = 0 ∨ 0 = 1) ∧ (K (some (some (vI 0))) G_2 B_2))))))) ∧ (¬ w32 (if azP (cfL (A 2) c l) (Int.toNat (A 2 (18 + c))) then -1 else ((rtsX (A 2) c l).length : Int)) = w32 (-1) → ((0 = 0 ∨ 0 = 1) ∧ (K (some (some (vI 0))) G_1 B_1)))))))
  refine ⟨fun c1 => ?_, fun c1 => ?_⟩
  · skip
    skip
    (try simp (disch := omega) only [w32_0, w32_id] at c1)
    have hza : ¬ azP (cfL (A0 2) c l) (Int.toNat (A0 2 (18 + c))) := fun q => by have := hoz.mpr q; omega
    refine ⟨by exact ⟨(by rw [qW_2 W0]; exact ⟨hc, hl⟩), (by rw [qW_2 W0]; exact hf), (by omega), (by omega), (by rw [qW_2 W0]; exact RTB_T _ hf)⟩, ?_⟩
    intro G_1 B_1 g1
    have W1 := qW_q W0 g1
    refine ⟨by exact ⟨rfl, rfl, rfl, by decide⟩, ?_⟩
    rw [rcN (qW_2 W0) hza, c1]
    exact fun V hg => isR_180 hg hh hK rfl hza (qW_zr W1 (by decide)) (rowZ (by decide) (rowQ (by decide) g1 hB)) (fun i => zrA_s)
  · skip
    skip
    (try simp (disch := omega) only [w32_0, w32_id] at c1)
    have haz : azP (cfL (A0 2) c l) (Int.toNat (A0 2 (18 + c))) := hoz.mp (by omega)
    refine ⟨by exact ⟨(by rw [qW_2 W0]; exact ⟨hc, hl⟩), (by rw [qW_2 W0]; exact hf), (by omega), (by omega), (by rw [qW_2 W0]; exact RTB_T _ hf)⟩, ?_⟩
    intro G_1 B_1 g1
    have W1 := qW_q W0 g1
    refine ⟨fun c2 => ?_, fun c2 => ?_⟩
    · skip
      skip
      refine ⟨by exact ⟨(by rw [qW_2 W1]; exact ⟨hc, hl⟩), (by rw [qW_2 W1]; exact hf), (by omega), (by omega), (by omega), (by rw [qW_2 W1]; exact RTB_T _ hf)⟩, ?_⟩
      intro G_2 B_2 g2
      have W2 := qW_q W1 g2
      refine ⟨fun c3 => ?_, fun c3 => ?_⟩
      · skip
        skip
        refine ⟨by exact ⟨(by rw [qW_2 W2]; exact ⟨hc, hl⟩), (by rw [qW_2 W2]; exact hf), (by omega), (by omega), (by omega), (by rw [qW_2 W2]; exact RTB_T _ hf)⟩, ?_⟩
        intro G_3 B_3 g3
        have W3 := qW_q W2 g3
        refine ⟨fun c4 => ?_, fun c4 => ?_⟩
        · skip
          skip
          refine ⟨by exact ⟨(by rw [qW_2 W3]; exact ⟨hc, hl⟩), (by rw [qW_2 W3]; exact hf), (by omega), (by omega)⟩, ?_⟩
          intro G_4 B_4 g4
          have W4 := qW_q W3 g4
          refine ⟨fun c5 => ?_, fun c5 => ?_⟩
          · skip
            skip
            refine ⟨by first | exact Or.inl rfl | exact Or.inr rfl, ?_⟩
            exact hK _ _ W4
          · skip
            skip
            refine ⟨by first | exact Or.inl rfl | exact Or.inr rfl, ?_⟩
            exact (c5 (by rw [bdV (qW_2 W3) (dbl_az (by omega) (by omega) (fun i i0 i1 => by have := haz (Int.toNat i) (by omega); rw [show ((Int.toNat i : Nat) : Int) = i by omega, G_w hsm i0 (by omega)] at this; exact this))])).elim
        · skip
          skip
          refine ⟨by first | exact Or.inl rfl | exact Or.inr rfl, ?_⟩
          exact (c4 (by rw [rkO (qW_2 W2) (by rw [rts_az hs.1 haz]; decide)])).elim
      · skip
        skip
        refine ⟨by first | exact Or.inl rfl | exact Or.inr rfl, ?_⟩
        exact (c3 (by rw [roA (qW_2 W1) (by decide) haz])).elim
    · skip
      skip
      refine ⟨by first | exact Or.inl rfl | exact Or.inr rfl, ?_⟩
      exact (c2 (by rw [rcA (qW_2 W0) haz])).elim
set_option maxRecDepth 20000 in
theorem isR_71 {F : FF} {A : AA} {on : Int} {F0 : FF} {A0 : AA} {c l n : Int} {K : KK} {V : REC} (hg : am_good qxL_isRootedR1 K V) (hh : rtH A0 c l n) (hK : ∀ G B, qW F0 G A0 B → K (some (some (vI 1))) G B) (W0 : qW F0 F A0 A) (hB : (∀ i, 0 ≤ i → i < n + 1 → A 25 i = (cfL (A0 2) c l) i)) (ho : on = 0 ∨ on = 1) (hoz : (on = 1 ↔ azP (cfL (A0 2) c l) (Int.toNat (A0 2 (18 + c))))) : V 71 [some (vR 0), some (vI c), some (vI l), some (vR 25), some (vI n), some (vI on), none, none, none, none, none, none, none, none, none, none, none, none, none, none] [] F A 1 := by
  obtain ⟨hf, hc, hl, hn⟩ := id hh
  have hc8 := hf.1.1
  have hl6 := hf.1.2
  have hs := (hf.2.2.1 c hc.1 hc.2).1
  obtain ⟨hlm, hsm, n1, n3, hnt, h8⟩ := rt_f hf hc hl hn
  have hbo : bi (azP (cfL (A0 2) c l) (Int.toNat (A0 2 (18 + c)))) = on := by
    rcases ho with h | h
    · rw [h, bi_f (fun q => by have := hoz.mpr q; omega)]
    · rw [h, bi_t (hoz.mp h)]
  refine hg.1 _ (am_runs (cut := (fun pc => cond (Nat.beq pc 117) (some [true, true, true, true, true, true, false, false, false, false, false, false, false, false, false, false, false, false, false, false]) (none))) (Kc := V) (fun _ _ _ _ _ _ h => h) hg 30) 71 [some (vR 0), some (vI c), some (vI l), some (vR 25), some (vI n), some (vI on), none, none, none, none, none, none, none, none, none, none, none, none, none, none] [] _ _ 1 ?_
  show (((0 ≤ c ∧ c < A 2 0) ∧ 0 ≤ l ∧ l < A 2 1) ∧ fgOK (A 2) ∧ (-2147483648 ≤ c ∧ c < 2147483648) ∧ (-2147483648 ≤ l ∧ l < 2147483648)) ∧ (∀ (G_1 : FF) (B_1 : AA), (qrP F G_1 A B_1) → ((w32 (bi (azP (cfL (A 2) c l) (Int.toNat (A 2 (18 + c))))) = w32 on → ((((0 ≤ c ∧ c < B_1 2 0) ∧ 0 ≤ l ∧ l < B_1 2 1) ∧ fgOK (B_1 2) ∧ (-2147483648 ≤ c ∧ c < 2147483648) ∧ (-2147483648 ≤ l ∧ l < 2147483648) ∧ (-2147483648 ≤ 0 ∧ 0 < 2147483648)) ∧ ((0 ≤ w32 0 ∧ w32 0 < 4) ∧ ((w32 (sg (w64 (w32 (cfR (B_1 2) c l (if 0 = 0 then 0 else B_1 2 (18 + c) - 1))))) = w32 (sg (w64 (B_1 25 (w32 0)))) → ((((0 ≤ c ∧ c < B_1 2 0) ∧ 0 ≤ l ∧ l < B_1 2 1) ∧ fgOK (B_1 2) ∧ (-2147483648 ≤ c ∧ c < 2147483648) ∧ (-2147483648 ≤ l ∧ l < 2147483648) ∧ (-2147483648 ≤ 1 ∧ 1 < 2147483648)) ∧ ((0 ≤ w32 n ∧ w32 n < 4) ∧ ((w32 (sg (w64 (w32 (cfR (B_1 2) c l (if 1 = 0 then 0 else B_1 2 (18 + c) - 1))))) = w32 (sg (w64 (B_1 25 (w32 n)))) → (V 117 [some (vR 0), some (vI c), some (vI l), some (vR 25), some (vI n), some (vI on), none, none, none, none, none, none, none, none, none, none, none, none, none, none] [] G_1 B_1 1)) ∧ (¬ w32 (sg (w64 (w32 (cfR (B_1 2) c l (if 1 = 0 then 0 else B_1 2 (18 + c) - 1))))) = w32 (sg (w64 (B_1 25 (w32 n)))) → ((0 = 0 ∨ 0 = 1) ∧ (K (some (some (vI 0))) G_1 B_1))))))) ∧ (¬ w32 (sg (w64 (w32 (cfR (B_1 2) c l (if 0 = 0 then 0 else B_1 2 (18 + c) - 1))))) = w32 (sg (w64 (B_1 25 (w32 0)))) → ((0 = 0 ∨ 0 = 1) ∧ (K (some (some (vI 0))) G_1 B_1))))))) ∧ (¬ w32 (bi (azP (cfL (A 2) c l) (Int.toNat (A 2 (18 + c))))) = w32 on → ((0 = 0 ∨ 0 = 1) ∧ (K (some (some (vI 0))) G_1 B_1)))))
  refine ⟨by exact ⟨(by rw [qW_2 W0]; exact ⟨hc, hl⟩), (by rw [qW_2 W0]; exact hf), (by omega), (by omega)⟩, ?_⟩
  intro G_1 B_1 g1
  have W1 := qW_q W0 g1
  refine ⟨fun c1 => ?_, fun c1 => ?_⟩
  · skip
    skip
    refine ⟨by exact ⟨(by rw [qW_2 W1]; exact ⟨hc, hl⟩), (by rw [qW_2 W1]; exact hf), (by omega), (by omega), (by omega)⟩, ?_⟩
    refine ⟨by decide, ?_⟩
    refine ⟨fun c2 => ?_, fun c2 => ?_⟩
    · skip
      skip
      refine ⟨by exact ⟨(by rw [qW_2 W1]; exact ⟨hc, hl⟩), (by rw [qW_2 W1]; exact hf), (by omega), (by omega), (by omega)⟩, ?_⟩
      refine ⟨by rw [w32_id (by omega) (by omega)]; omega, ?_⟩
      refine ⟨fun c3 => ?_, fun c3 => ?_⟩
      · skip
        skip
        exact isR_117 hg hh hK W1 (rowQ (by decide) g1 hB) ho hoz
      · skip
        skip
        refine ⟨by first | exact Or.inl rfl | exact Or.inr rfl, ?_⟩
        exact (c3 (by rw [sd1 (qW_2 W1), w32_id (x := n) (by omega) (by omega), rowQ (by decide) g1 hB n (by omega) (by omega), hn])).elim
    · skip
      skip
      refine ⟨by first | exact Or.inl rfl | exact Or.inr rfl, ?_⟩
      exact (c2 (by rw [sd0 (qW_2 W1), w32_0, rowQ (by decide) g1 hB 0 (by omega) (by omega)])).elim
  · skip
    skip
    refine ⟨by first | exact Or.inl rfl | exact Or.inr rfl, ?_⟩
    exact (c1 (by rw [biV (qW_2 W0), hbo])).elim
set_option maxRecDepth 20000 in
theorem isR_20 {F0 : FF} {A0 : AA} {c l n : Int} {K : KK} {V : REC} (hg : am_good qxL_isRootedR1 K V) (hh : rtH A0 c l n) (hK : ∀ G B, qW F0 G A0 B → K (some (some (vI 1))) G B) : ∀ (j : Nat) (on k : Int) (F : FF) (A : AA), Int.toNat (n + 2 - k) ≤ j → (qW F0 F A0 A ∧ (∀ i, 0 ≤ i → i < n + 1 → A 25 i = (cfL (A0 2) c l) i) ∧ (0 ≤ k ∧ k ≤ n + 1) ∧ (on = 0 ∨ on = 1) ∧ (on = 1 ↔ ∀ i, 0 ≤ i → i < k → (cfL (A0 2) c l) i = 0)) → V 20 [some (vR 0), some (vI c), some (vI l), some (vR 25), some (vI n), some (vI on), some (vI k), none, none, none, none, none, none, none, none, none, none, none, none, none] [] F A 1
  | 0, on, k, F, A, hj, hi => by
    obtain ⟨W0, hB, hk, ho, hoz⟩ := hi
    omega
  | j + 1, on, k, F, A, hj, hi => by
    obtain ⟨W0, hB, hk, ho, hoz⟩ := hi
    obtain ⟨hf, hc, hl, hn⟩ := id hh
    have hc8 := hf.1.1
    have hl6 := hf.1.2
    have hs := (hf.2.2.1 c hc.1 hc.2).1
    obtain ⟨hlm, hsm, n1, n3, hnt, h8⟩ := rt_f hf hc hl hn
    refine hg.1 _ (am_runs (cut := (fun pc => cond (Nat.beq pc 20) (some [true, true, true, true, true, true, true, false, false, false, false, false, false, false, false, false, false, false, false, false]) (cond (Nat.beq pc 71) (some [true, true, true, true, true, true, false, false, false, false, false, false, false, false, false, false, false, false, false, false]) (none)))) (Kc := V) (fun _ _ _ _ _ _ h => h) hg 30) 20 [some (vR 0), some (vI c), some (vI l), some (vR 25), some (vI n), some (vI on), some (vI k), none, none, none, none, none, none, none, none, none, none, none, none, none] [] _ _ 1 ?_
    show (w32 n < w32 k → (V 71 [some (vR 0), some (vI c), some (vI l), some (vR 25), some (vI n), some (vI on), none, none, none, none, none, none, none, none, none, none, none, none, none, none] [] F A 1)) ∧ (¬ w32 n < w32 k → ((((0 ≤ c ∧ c < A 2 0) ∧ 0 ≤ l ∧ l < A 2 1) ∧ fgOK (A 2) ∧ (-2147483648 ≤ c ∧ c < 2147483648) ∧ (-2147483648 ≤ l ∧ l < 2147483648) ∧ (-2147483648 ≤ k ∧ k < 2147483648)) ∧ ((0 ≤ w32 k ∧ w32 k < 4) ∧ ((w32 (y_cmp (w32 (if 0 ≤ k ∧ k < A 2 (18 + c) then cfR (A 2) c l k else -100000)) (A 25 (w32 k))) = w32 0 → ((0 ≤ w32 k ∧ w32 k < 4) ∧ ((w32 (y_cmp (A 25 (w32 k)) 0) = w32 0 → (V 20 [some (vR 0), some (vI c), some (vI l), some (vR 25), some (vI n), some (vI (x_and on 1)), some (vI (k + 1)), none, none, none, none, none, none, none, none, none, none, none, none, none] [] F A 1)) ∧ (¬ w32 (y_cmp (A 25 (w32 k)) 0) = w32 0 → (V 20 [some (vR 0), some (vI c), some (vI l), some (vR 25), some (vI n), some (vI (x_and on 0)), some (vI (k + 1)), none, none, none, none, none, none, none, none, none, none, none, none, none] [] F A 1))))) ∧ (¬ (w32 (y_cmp (w32 (if 0 ≤ k ∧ k < A 2 (18 + c) then cfR (A 2) c l k else -100000)) (A 25 (w32 k))) = w32 0) → ((0 = 0 ∨ 0 = 1) ∧ (K (some (some (vI 0))) F A)))))))
    refine ⟨fun c1 => ?_, fun c1 => ?_⟩
    · skip
      skip
      (try simp (disch := omega) only [w32_0, w32_id] at c1)
      exact isR_71 hg hh hK W0 hB ho (on_az hn hsm (by rw [show n + 1 = k by omega]; exact hoz))
    · skip
      skip
      (try simp (disch := omega) only [w32_0, w32_id] at c1)
      refine ⟨by exact ⟨(by rw [qW_2 W0]; exact ⟨hc, hl⟩), (by rw [qW_2 W0]; exact hf), (by omega), (by omega), (by omega)⟩, ?_⟩
      refine ⟨by rw [w32_id (by omega) (by omega)]; omega, ?_⟩
      refine ⟨fun c2 => ?_, fun c2 => ?_⟩
      · skip
        skip
        refine ⟨by rw [w32_id (by omega) (by omega)]; omega, ?_⟩
        refine ⟨fun c3 => ?_, fun c3 => ?_⟩
        · skip
          skip
          have e := yc_i.mp c3
          rw [w32_id (x := k) (by omega) (by omega), hB k hk.1 (by omega), G_w hsm hk.1 (by omega)] at e
          rw [and_1 ho]; exact isR_20 hg hh hK j on (k + 1) _ _ (by omega) ⟨W0, hB, by omega, ho, onS hoz e⟩
        · skip
          skip
          have e : ¬ (cfL (A0 2) c l) k = 0 := fun q => c3 (yc_i.mpr (by rw [w32_id (x := k) (by omega) (by omega), hB k hk.1 (by omega), G_w hsm hk.1 (by omega)]; exact q))
          rw [and_0 ho]; exact isR_20 hg hh hK j 0 (k + 1) _ _ (by omega) ⟨W0, hB, by omega, Or.inl rfl, onN hk.1 e⟩
      · skip
        skip
        refine ⟨by first | exact Or.inl rfl | exact Or.inr rfl, ?_⟩
        exact (c2 (yc_t (by rw [cofV (qW_2 W0) ⟨hk.1, by omega⟩, w32_id (x := k) (by omega) (by omega), hB k hk.1 (by omega)]; rfl))).elim
set_option maxRecDepth 20000 in
theorem isR_6 {F : FF} {A : AA} {F0 : FF} {A0 : AA} {c l : Int} {K : KK} {V : REC} (hg : am_good qxL_isRootedR1 K V) (hh : rtH A0 c l (A0 2 (18 + c) - 1)) (hK : ∀ G B, qW F0 G A0 B → K (some (some (vI 1))) G B) (W0 : qW F0 F A0 A) (hB : ∀ i, 0 ≤ i → i < A0 2 (18 + c) - 1 + 1 → A 25 i = (cfL (A0 2) c l) i) : V 6 [some (vR 0), some (vI c), some (vI l), none, none, none, none, none, none, none, none, none, none, none, none, none, none, none, none, none] [vR 25] F A 1 := by
  obtain ⟨hf, hc, hl, hn⟩ := id hh
  have hc8 := hf.1.1
  have hl6 := hf.1.2
  have hs := (hf.2.2.1 c hc.1 hc.2).1
  refine hg.1 _ (am_runs (cut := (fun pc => cond (Nat.beq pc 20) (some [true, true, true, true, true, true, true, false, false, false, false, false, false, false, false, false, false, false, false, false]) (none))) (Kc := V) (fun _ _ _ _ _ _ h => h) hg 12) 6 [some (vR 0), some (vI c), some (vI l), none, none, none, none, none, none, none, none, none, none, none, none, none, none, none, none, none] [vR 25] _ _ 1 ?_
  show ((0 ≤ c ∧ c < A 2 0) ∧ (0 ≤ A 2 0 ∧ A 2 0 ≤ 8) ∧ (0 ≤ A 2 1 ∧ A 2 1 ≤ 6) ∧ (-2147483648 ≤ c ∧ c < 2147483648)) ∧ (V 20 [some (vR 0), some (vI c), some (vI l), some (vR 25), some (vI (A 2 (18 + c) - 1)), some (vI 1), some (vI 0), none, none, none, none, none, none, none, none, none, none, none, none, none] [] F A 1)
  refine ⟨by rw [qW_2 W0]; exact ⟨hc, hf.1.1, hf.1.2, by omega⟩, ?_⟩
  rw [qW_2 W0]; exact isR_20 hg hh hK _ 1 0 _ _ (Nat.le_refl _) ⟨W0, hB, by omega, Or.inr rfl, fun _ i i0 i1 => by omega, fun _ => rfl⟩
set_option maxRecDepth 20000 in
theorem isR_0 {F : FF} {A : AA} {c l : Int} {K : KK} {V : REC} (hg : am_good qxL_isRootedR0 K V) (hh : rtH A c l (A 2 (18 + c) - 1)) (hK : ∀ G B, qW F G A B → K (some (some (vI 1))) G B) : V 0 [some (vR 0), some (vI c), some (vI l), none, none, none, none, none, none, none, none, none, none, none, none, none, none, none, none, none] [] F A 0 := by
  refine hg.1 _ (am_runs (cut := (fun pc => none)) (Kc := V) (fun _ _ _ _ _ _ h => h) hg 6) 0 [some (vR 0), some (vI c), some (vI l), none, none, none, none, none, none, none, none, none, none, none, none, none, none, none, none, none] [] _ _ 0 ?_
  show (0 = 0 ∧ coH A c l ∧ am_nr 25 [some (vR 0), some (vI c), some (vI l), none, none, none, none, none, none, none, none, none, none, none, none, none, none, none, none, none] = true ∧ 0 + 1 ≤ cxMc qxL_isRootedR1) ∧ (∀ W : REC, am_good qxL_isRootedR1 K W → ∀ B, coP A B c l → W 6 [some (vR 0), some (vI c), some (vI l), none, none, none, none, none, none, none, none, none, none, none, none, none, none, none, none, none] [vR 25] F B (0 + 1))
  refine ⟨by exact ⟨rfl, ⟨hh.1, hh.2.1, hh.2.2.1⟩, rfl, by decide⟩, ?_⟩
  exact fun V hg B hco => isR_6 hg hh hK (qW_r qW_id hco.1) (fun i i0 i1 => by rw [hco.2 i i0 (by omega)]; exact (cfX_R hh.1 hh.2.1.1 hh.2.1.2 hh.2.2.1.1 hh.2.2.1.2 i0 (by omega)).symm)
def qsL_isRooted : SP := fun as F A K => match as with
  | [.inr (.inr o), .inl c, .inl l] => cond (Nat.beq o 0) (coH A c l ∧ ∀ G B, qW F G A B → K (some (some (vI 1))) G B) False
  | _ => False
def qeL_isRooted : CE := (yL_isRooted, cL_isRooted, 20, (some .boolean), 3, none, 0, none, 2, 22, qsL_isRooted)
theorem qbL_isRooted : am_mb qeL_isRooted := ⟨am_tb_at 1081 (by decide +kernel) rfl, am_tb_at 34 (by decide +kernel) rfl, ⟨by decide, by decide, by decide +kernel⟩, by decide, am_tb_at 1080 (by decide +kernel) rfl⟩
theorem qtL_isRooted (l : Launch) : am_CX l layX qeL_isRooted := am_metX (x := qxL_isRootedR0) (by decide +kernel) rfl rfl rfl (qwL_isRootedR0 l) (fun as F A K h => by
  replace h : qsL_isRooted as F A K := h
  unfold qsL_isRooted at h
  split at h
  · rename_i o c l
    refine ⟨by first | exact Nat.le_of_ble_eq_true rfl | simp [am_fl, am_cat], ?_⟩
    replace h := am_cond2 h
    rcases h with ⟨hb, h⟩ | h
    · have hb := am_bq hb
      subst hb
      obtain ⟨⟨h1, h2, h3⟩, hK⟩ := h
      exact fun V hg => isR_0 hg ⟨h1, h2, h3, rfl⟩ hK
    · exact h.elim
  · exact h.elim)
