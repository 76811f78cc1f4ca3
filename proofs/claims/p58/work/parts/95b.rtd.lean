set_option maxRecDepth 20000 in
theorem isR_433 {al z : Int} {F0 : FF} {A0 : AA} {c l n : Int} {K : KK} {V : REC} (hg : am_good qxL_isRootedK2 K V) (hh : rtH A0 c l n) (hK : ∀ G B, qW F0 G A0 B → K (some (some (vI 1))) G B) (hal : al = ((rtsX (A0 2) c l).length : Int)) (hza : ¬ azP (cfL (A0 2) c l) (Int.toNat (A0 2 (18 + c)))) (hz : 0 ≤ z ∧ z ≤ n) : ∀ (j : Nat) (k : Int) (F : FF) (A : AA), Int.toNat (4 - k) ≤ j → (qW F0 F A0 A ∧ (∀ i, 0 ≤ i → i < n + 1 → A 25 i = (cfL (A0 2) c l) i) ∧ (∀ k, 0 ≤ k → k ≤ 2 → A 26 k = cntK (ktF (rtsX (A0 2) c l)) k (rtsX (A0 2) c l).length) ∧ (0 ≤ k ∧ k ≤ 3)) → V 433 [some (vR 0), some (vI c), some (vI l), some (vR 25), some (vI n), none, some (vI al), some (vR 26), none, none, some (vI z), some (vI k), none, none, none, none, none, none, none, none] [] F A 2
  | 0, k, F, A, hj, hi => by
    obtain ⟨W0, hB, hQ, hk⟩ := hi
    omega
  | j + 1, k, F, A, hj, hi => by
    obtain ⟨W0, hB, hQ, hk⟩ := hi
    obtain ⟨hf, hc, hl, hn⟩ := id hh
    have hc8 := hf.1.1
    have hl6 := hf.1.2
    have hs := (hf.2.2.1 c hc.1 hc.2).1
    obtain ⟨hlm, hsm, n1, n3, hnt, h8⟩ := rt_f hf hc hl hn
    refine hg.1 _ (am_runs (cut := (fun pc => cond (Nat.beq pc 433) (some [true, true, true, true, true, false, true, true, false, false, true, true, false, false, false, false, false, false, false, false]) (cond (Nat.beq pc 463) (some [true, true, true, true, true, false, true, false, false, false, true, false, false, false, false, false, false, false, false, false]) (none)))) (Kc := V) (fun _ _ _ _ _ _ h => h) hg 17) 433 [some (vR 0), some (vI c), some (vI l), some (vR 25), some (vI n), none, some (vI al), some (vR 26), none, none, some (vI z), some (vI k), none, none, none, none, none, none, none, none] [] _ _ 2 ?_
    show (w32 k < w32 3 → ((((0 ≤ c ∧ c < A 2 0) ∧ 0 ≤ l ∧ l < A 2 1) ∧ fgOK (A 2) ∧ (-2147483648 ≤ c ∧ c < 2147483648) ∧ (-2147483648 ≤ l ∧ l < 2147483648) ∧ (-2147483648 ≤ k ∧ k < 2147483648) ∧ rtB (A 2)) ∧ (∀ (G_1 : FF) (B_1 : AA), (qrP F G_1 A B_1) → ((0 ≤ w32 k ∧ w32 k < 3) ∧ ((w32 (if 0 ≤ k ∧ k ≤ 2 then (if azP (cfL (A 2) c l) (Int.toNat (A 2 (18 + c))) then -1 else cntK (ktF (rtsX (A 2) c l)) k (rtsX (A 2) c l).length) else -2) = w32 (B_1 26 (w32 k)) → (V 433 [some (vR 0), some (vI c), some (vI l), some (vR 25), some (vI n), none, some (vI al), some (vR 26), none, none, some (vI z), some (vI (k + 1)), none, none, none, none, none, none, none, none] [] G_1 B_1 2)) ∧ (¬ (w32 (if 0 ≤ k ∧ k ≤ 2 then (if azP (cfL (A 2) c l) (Int.toNat (A 2 (18 + c))) then -1 else cntK (ktF (rtsX (A 2) c l)) k (rtsX (A 2) c l).length) else -2) = w32 (B_1 26 (w32 k))) → ((0 = 0 ∨ 0 = 1) ∧ (K (some (some (vI 0))) G_1 B_1)))))))) ∧ (¬ w32 k < w32 3 → (V 463 [some (vR 0), some (vI c), some (vI l), some (vR 25), some (vI n), none, some (vI al), none, none, none, some (vI z), none, none, none, none, none, none, none, none, none] [] F A 2))
    refine ⟨fun c1 => ?_, fun c1 => ?_⟩
    · skip
      skip
      (try simp (disch := omega) only [w32_0, w32_id] at c1)
      refine ⟨by exact ⟨(by rw [qW_2 W0]; exact ⟨hc, hl⟩), (by rw [qW_2 W0]; exact hf), (by omega), (by omega), (by omega), (by rw [qW_2 W0]; exact RTB_T _ hf)⟩, ?_⟩
      intro G_1 B_1 g1
      have W1 := qW_q W0 g1
      refine ⟨by rw [w32_id (by omega) (by omega)]; omega, ?_⟩
      refine ⟨fun c2 => ?_, fun c2 => ?_⟩
      · skip
        skip
        exact isR_433 hg hh hK hal hza hz j (k + 1) _ _ (by omega) ⟨W1, rowQ (by decide) g1 hB, fun i i0 i1 => (g1.2.1 26 i (by omega)).trans (hQ i i0 i1), by omega⟩
      · skip
        skip
        refine ⟨by first | exact Or.inl rfl | exact Or.inr rfl, ?_⟩
        exact (c2 (by rw [roN (qW_2 W0) ⟨hk.1, by omega⟩ hza, w32_id (x := k) (by omega) (by omega), g1.2.1 26 k (by omega), hQ k hk.1 (by omega)])).elim
    · skip
      skip
      (try simp (disch := omega) only [w32_0, w32_id] at c1)
      exact isR_463 hg hh hK W0 hal hB hz hza
set_option maxRecDepth 20000 in
theorem isR_430 {F : FF} {A : AA} {al z : Int} {F0 : FF} {A0 : AA} {c l n : Int} {K : KK} {V : REC} (hg : am_good qxL_isRootedK2 K V) (hh : rtH A0 c l n) (hK : ∀ G B, qW F0 G A0 B → K (some (some (vI 1))) G B) (hal : al = ((rtsX (A0 2) c l).length : Int)) (hza : ¬ azP (cfL (A0 2) c l) (Int.toNat (A0 2 (18 + c)))) (W0 : qW F0 F A0 A) (hB : (∀ i, 0 ≤ i → i < n + 1 → A 25 i = (cfL (A0 2) c l) i)) (hQ : (∀ k, 0 ≤ k → k ≤ 2 → A 26 k = cntK (ktF (rtsX (A0 2) c l)) k (rtsX (A0 2) c l).length)) (hz : 0 ≤ z ∧ z ≤ n) : V 430 [some (vR 0), some (vI c), some (vI l), some (vR 25), some (vI n), none, some (vI al), some (vR 26), none, none, some (vI z), none, none, none, none, none, none, none, none, none] [] F A 2 := by
  refine hg.1 _ (am_runs (cut := (fun pc => cond (Nat.beq pc 433) (some [true, true, true, true, true, false, true, true, false, false, true, true, false, false, false, false, false, false, false, false]) (none))) (Kc := V) (fun _ _ _ _ _ _ h => h) hg 5) 430 [some (vR 0), some (vI c), some (vI l), some (vR 25), some (vI n), none, some (vI al), some (vR 26), none, none, some (vI z), none, none, none, none, none, none, none, none, none] [] _ _ 2 ?_
  show V 433 [some (vR 0), some (vI c), some (vI l), some (vR 25), some (vI n), none, some (vI al), some (vR 26), none, none, some (vI z), some (vI 0), none, none, none, none, none, none, none, none] [] F A 2
  exact isR_433 hg hh hK hal hza hz _ 0 _ _ (Nat.le_refl _) ⟨W0, hB, hQ, by omega⟩
set_option maxRecDepth 20000 in
theorem isR_390 {al : Int} {F0 : FF} {A0 : AA} {c l n : Int} {K : KK} {V : REC} (hg : am_good qxL_isRootedK2 K V) (hh : rtH A0 c l n) (hK : ∀ G B, qW F0 G A0 B → K (some (some (vI 1))) G B) (hal : al = ((rtsX (A0 2) c l).length : Int)) (hza : ¬ azP (cfL (A0 2) c l) (Int.toNat (A0 2 (18 + c)))) : ∀ (j : Nat) (z i : Int) (F : FF) (A : AA), Int.toNat (18 - i) ≤ j → (qW F0 F A0 A ∧ (∀ i, 0 ≤ i → i < n + 1 → A 25 i = (cfL (A0 2) c l) i) ∧ (∀ k, 0 ≤ k → k ≤ 2 → A 26 k = cntK (ktF (rtsX (A0 2) c l)) k (rtsX (A0 2) c l).length) ∧ (0 ≤ i ∧ i ≤ 17) ∧ z = cntK (fun i => w64 (atI (cfL (A0 2) c l) n i 16)) 0 (Int.toNat i)) → V 390 [some (vR 0), some (vI c), some (vI l), some (vR 25), some (vI n), none, some (vI al), some (vR 26), none, none, some (vI z), some (vI i), none, none, none, none, none, none, none, none] [] F A 2
  | 0, z, i, F, A, hj, hi => by
    obtain ⟨W0, hB, hQ, hi1, hz⟩ := hi
    omega
  | j + 1, z, i, F, A, hj, hi => by
    obtain ⟨W0, hB, hQ, hi1, hz⟩ := hi
    obtain ⟨hf, hc, hl, hn⟩ := id hh
    have hc8 := hf.1.1
    have hl6 := hf.1.2
    have hs := (hf.2.2.1 c hc.1 hc.2).1
    obtain ⟨hlm, hsm, n1, n3, hnt, h8⟩ := rt_f hf hc hl hn
    have cB : ∀ (X : AA), (∀ i, 0 ≤ i → i < n + 1 → X 25 i = (cfL (A0 2) c l) i) → ∀ i m, atI (X 25) n i m = atI (cfL (A0 2) c l) n i m := fun X hX i m => atI_c n1 n3 (fun k k0 k1 => hX k k0 (by omega))
    refine hg.1 _ (am_runs (cut := (fun pc => cond (Nat.beq pc 390) (some [true, true, true, true, true, false, true, true, false, false, true, true, false, false, false, false, false, false, false, false]) (cond (Nat.beq pc 430) (some [true, true, true, true, true, false, true, true, false, false, true, false, false, false, false, false, false, false, false, false]) (none)))) (Kc := V) (fun _ _ _ _ _ _ h => h) hg 22) 390 [some (vR 0), some (vI c), some (vI l), some (vR 25), some (vI n), none, some (vI al), some (vR 26), none, none, some (vI z), some (vI i), none, none, none, none, none, none, none, none] [] _ _ 2 ?_
    show (w32 16 < w32 i → (V 430 [some (vR 0), some (vI c), some (vI l), some (vR 25), some (vI n), none, some (vI al), some (vR 26), none, none, some (vI z), none, none, none, none, none, none, none, none, none] [] F A 2)) ∧ (¬ w32 16 < w32 i → ((1 ≤ n ∧ n ≤ 3) ∧ ((w32 (y_cmp (atI (A 25) n (w32 i) 16) 0) = w32 0 → (V 390 [some (vR 0), some (vI c), some (vI l), some (vR 25), some (vI n), none, some (vI al), some (vR 26), none, none, some (vI (z + 1)), some (vI (i + 1)), none, none, none, none, none, none, none, none] [] F A 2)) ∧ (¬ w32 (y_cmp (atI (A 25) n (w32 i) 16) 0) = w32 0 → (V 390 [some (vR 0), some (vI c), some (vI l), some (vR 25), some (vI n), none, some (vI al), some (vR 26), none, none, some (vI (z + 0)), some (vI (i + 1)), none, none, none, none, none, none, none, none] [] F A 2)))))
    refine ⟨fun c1 => ?_, fun c1 => ?_⟩
    · skip
      skip
      (try simp (disch := omega) only [w32_0, w32_id] at c1)
      exact isR_430 hg hh hK hal hza W0 hB hQ (by have a := zer_le n1 n3 hsm (by rw [← hnt]; exact hza); have b := cntK_b (fun i => w64 (atI (cfL (A0 2) c l) n i 16)) 0 17; rw [hz, show i = 17 by omega]; exact ⟨b.1, a⟩)
    · skip
      skip
      (try simp (disch := omega) only [w32_0, w32_id] at c1)
      refine ⟨by exact ⟨n1, n3⟩, ?_⟩
      refine ⟨fun c2 => ?_, fun c2 => ?_⟩
      · skip
        skip
        have e := yc_i.mp c2
        rw [cB _ hB, w32_id (x := i) (by omega) (by omega)] at e
        exact isR_390 hg hh hK hal hza j (z + 1) (i + 1) _ _ (by omega) ⟨W0, hB, hQ, by omega, by rw [cntK_s hi1.1, if_pos (show w64 (atI (cfL (A0 2) c l) n i 16) = 0 from e), ← hz]⟩
      · skip
        skip
        have e : ¬ w64 (atI (cfL (A0 2) c l) n i 16) = 0 := fun q => c2 (yc_i.mpr (by rw [cB _ hB, w32_id (x := i) (by omega) (by omega)]; exact q))
        exact isR_390 hg hh hK hal hza j (z + 0) (i + 1) _ _ (by omega) ⟨W0, hB, hQ, by omega, by rw [cntK_s hi1.1, if_neg e, ← hz, Int.add_zero]⟩
set_option maxRecDepth 20000 in
theorem isR_384 {F : FF} {A : AA} {al : Int} {F0 : FF} {A0 : AA} {c l n : Int} {K : KK} {V : REC} (hg : am_good qxL_isRootedK2 K V) (hh : rtH A0 c l n) (hK : ∀ G B, qW F0 G A0 B → K (some (some (vI 1))) G B) (hal : al = ((rtsX (A0 2) c l).length : Int)) (hza : ¬ azP (cfL (A0 2) c l) (Int.toNat (A0 2 (18 + c)))) (W0 : qW F0 F A0 A) (hB : (∀ i, 0 ≤ i → i < n + 1 → A 25 i = (cfL (A0 2) c l) i)) (hQ : (∀ k, 0 ≤ k → k ≤ 2 → A 26 k = cntK (ktF (rtsX (A0 2) c l)) k (rtsX (A0 2) c l).length)) : V 384 [some (vR 0), some (vI c), some (vI l), some (vR 25), some (vI n), none, some (vI al), some (vR 26), none, none, none, none, none, none, none, none, none, none, none, none] [] F A 2 := by
  refine hg.1 _ (am_runs (cut := (fun pc => cond (Nat.beq pc 390) (some [true, true, true, true, true, false, true, true, false, false, true, true, false, false, false, false, false, false, false, false]) (none))) (Kc := V) (fun _ _ _ _ _ _ h => h) hg 7) 384 [some (vR 0), some (vI c), some (vI l), some (vR 25), some (vI n), none, some (vI al), some (vR 26), none, none, none, none, none, none, none, none, none, none, none, none] [] _ _ 2 ?_
  show V 390 [some (vR 0), some (vI c), some (vI l), some (vR 25), some (vI n), none, some (vI al), some (vR 26), none, none, some (vI 0), some (vI 0), none, none, none, none, none, none, none, none] [] F A 2
  exact isR_390 hg hh hK hal hza _ 0 0 _ _ (Nat.le_refl _) ⟨W0, hB, hQ, by omega, rfl⟩
