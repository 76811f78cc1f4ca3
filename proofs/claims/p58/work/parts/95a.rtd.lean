set_option maxRecDepth 20000 in
theorem isR_554 {F : FF} {A : AA} {al : Int} {F0 : FF} {A0 : AA} {c l n : Int} {K : KK} {V : REC} (hg : am_good qxL_isRootedK2 K V) (hh : rtH A0 c l n) (hK : ∀ G B, qW F0 G A0 B → K (some (some (vI 1))) G B) (W0 : qW F0 F A0 A) (hal : al = ((rtsX (A0 2) c l).length : Int)) : V 554 [some (vR 0), some (vI c), some (vI l), some (vR 25), some (vI n), none, some (vI al), none, none, none, none, none, none, none, none, none, none, none, none, none] [] F A 2 := by
  obtain ⟨hf, hc, hl, hn⟩ := id hh
  have hc8 := hf.1.1
  have hl6 := hf.1.2
  have hs := (hf.2.2.1 c hc.1 hc.2).1
  obtain ⟨hlm, hsm, n1, n3, hnt, h8⟩ := rt_f hf hc hl hn
  refine hg.1 _ (am_runs (cut := (fun pc => none)) (Kc := V) (fun _ _ _ _ _ _ h => h) hg 19) 554 [some (vR 0), some (vI c), some (vI l), some (vR 25), some (vI n), none, some (vI al), none, none, none, none, none, none, none, none, none, none, none, none, none] [] _ _ 2 ?_
  show (((0 ≤ c ∧ c < A 2 0) ∧ 0 ≤ l ∧ l < A 2 1) ∧ fgOK (A 2) ∧ (-2147483648 ≤ c ∧ c < 2147483648) ∧ (-2147483648 ≤ l ∧ l < 2147483648) ∧ (-2147483648 ≤ al ∧ al < 2147483648) ∧ rtB (A 2)) ∧ (∀ (G_1 : FF) (B_1 : AA), (qrP F G_1 A B_1) → ((w32 (if 0 ≤ al ∧ al < ((rtsX (A 2) c l).length : Int) then ((rtsX (A 2) c l).getD (Int.toNat al) (0, 0, 0)).1 else -1) = w32 (-1) → ((((0 ≤ c ∧ c < B_1 2 0) ∧ 0 ≤ l ∧ l < B_1 2 1) ∧ fgOK (B_1 2) ∧ (-2147483648 ≤ c ∧ c < 2147483648) ∧ (-2147483648 ≤ l ∧ l < 2147483648) ∧ (-2147483648 ≤ 3 ∧ 3 < 2147483648) ∧ rtB (B_1 2)) ∧ (∀ (G_2 : FF) (B_2 : AA), (qrP G_1 G_2 B_1 B_2) → ((w32 (if 0 ≤ 3 ∧ 3 ≤ 2 then (if azP (cfL (B_1 2) c l) (Int.toNat (B_1 2 (18 + c))) then -1 else cntK (ktF (rtsX (B_1 2) c l)) 3 (rtsX (B_1 2) c l).length) else -2) = w32 (-2) → ((1 = 0 ∨ 1 = 1) ∧ (K (some (some (vI 1))) G_2 B_2))) ∧ (¬ (w32 (if 0 ≤ 3 ∧ 3 ≤ 2 then (if azP (cfL (B_1 2) c l) (Int.toNat (B_1 2 (18 + c))) then -1 else cntK (ktF (rtsX (B_1 2) c l)) 3 (rtsX (B_1 2) c l).length) else -2) = w32 (-2)) → ((0 = 0 ∨ 0 = 1) ∧ (K (some (some (vI 0))) G_2 B_2))))))) ∧ (¬ (w32 (if 0 ≤ al ∧ al < ((rtsX (A 2) c l).length : Int) then ((rtsX (A 2) c l).getD (Int.toNat al) (0, 0, 0)).1 else -1) = w32 (-1)) → ((0 = 0 ∨ 0 = 1) ∧ (K (some (some (vI 0))) G_1 B_1)))))
  refine ⟨by exact ⟨(by rw [qW_2 W0]; exact ⟨hc, hl⟩), (by rw [qW_2 W0]; exact hf), (by omega), (by omega), (by omega), (by rw [qW_2 W0]; exact RTB_T _ hf)⟩, ?_⟩
  intro G_1 B_1 g1
  have W1 := qW_q W0 g1
  refine ⟨fun c1 => ?_, fun c1 => ?_⟩
  · skip
    skip
    refine ⟨by exact ⟨(by rw [qW_2 W1]; exact ⟨hc, hl⟩), (by rw [qW_2 W1]; exact hf), (by omega), (by omega), (by omega), (by rw [qW_2 W1]; exact RTB_T _ hf)⟩, ?_⟩
    intro G_2 B_2 g2
    have W2 := qW_q W1 g2
    refine ⟨fun c2 => ?_, fun c2 => ?_⟩
    · skip
      skip
      refine ⟨by first | exact Or.inl rfl | exact Or.inr rfl, ?_⟩
      exact hK _ _ W2
    · skip
      skip
      refine ⟨by first | exact Or.inl rfl | exact Or.inr rfl, ?_⟩
      exact (c2 (by rw [ro3 (X := A0 2) (c := c) (l := l) (by decide)])).elim
  · skip
    skip
    refine ⟨by first | exact Or.inl rfl | exact Or.inr rfl, ?_⟩
    exact (c1 (by rw [rkO (qW_2 W0) (by omega)])).elim
set_option maxRecDepth 20000 in
theorem isR_497 {F : FF} {A : AA} {al z ch od : Int} {F0 : FF} {A0 : AA} {c l n : Int} {K : KK} {V : REC} (hg : am_good qxL_isRootedK2 K V) (hh : rtH A0 c l n) (hK : ∀ G B, qW F0 G A0 B → K (some (some (vI 1))) G B) (W0 : qW F0 F A0 A) (hal : al = ((rtsX (A0 2) c l).length : Int)) (hB : (∀ i, 0 ≤ i → i < n + 1 → A 25 i = (cfL (A0 2) c l) i)) (hz : 0 ≤ z ∧ z ≤ n) (hch : 0 ≤ ch ∧ ch ≤ 4) (hod : od = 0 ∨ od = 1) (h1 : od = 1 → ¬ al = 0) (h2 : ch = 0 → al = (if (cfL (A0 2) c l) 0 = 0 then 1 else 0) + (if (cfL (A0 2) c l) n = 0 then 1 else 0)) : V 497 [some (vR 0), some (vI c), some (vI l), some (vR 25), some (vI n), none, some (vI al), none, none, none, some (vI z), some (vI ch), some (vI od), none, none, none, none, none, none, none] [] F A 2 := by
  obtain ⟨hf, hc, hl, hn⟩ := id hh
  have hc8 := hf.1.1
  have hl6 := hf.1.2
  have hs := (hf.2.2.1 c hc.1 hc.2).1
  obtain ⟨hlm, hsm, n1, n3, hnt, h8⟩ := rt_f hf hc hl hn
  have al8 : 0 ≤ al ∧ al ≤ 8 := by omega
  have e0 : w64 (A 25 0) = (cfL (A0 2) c l) 0 := by rw [hB 0 (by omega) (by omega), G_w hsm (by omega) (by omega)]
  have en : w64 (A 25 n) = (cfL (A0 2) c l) n := by rw [hB n (by omega) (by omega), G_w hsm (by omega) (by omega)]
  have h2a : ch = 0 → (cfL (A0 2) c l) 0 = 0 → (cfL (A0 2) c l) n = 0 → al = 2 := fun a b d => by rw [h2 a, if_pos b, if_pos d]; rfl
  have h2b : ch = 0 → (cfL (A0 2) c l) 0 = 0 → ¬ (cfL (A0 2) c l) n = 0 → al = 1 := fun a b d => by rw [h2 a, if_pos b, if_neg d]; rfl
  have h2c : ch = 0 → ¬ (cfL (A0 2) c l) 0 = 0 → (cfL (A0 2) c l) n = 0 → al = 1 := fun a b d => by rw [h2 a, if_neg b, if_pos d]; rfl
  have h2d : ch = 0 → ¬ (cfL (A0 2) c l) 0 = 0 → ¬ (cfL (A0 2) c l) n = 0 → al = 0 := fun a b d => by rw [h2 a, if_neg b, if_neg d]; rfl
  clear h2
  generalize (cfL (A0 2) c l) 0 = g0 at e0 h2a h2b h2c h2d
  generalize (cfL (A0 2) c l) n = gn at en h2a h2b h2c h2d
  refine hg.1 _ (am_runs (cut := (fun pc => cond (Nat.beq pc 554) (some [true, true, true, true, true, false, true, false, false, false, false, false, false, false, false, false, false, false, false, false]) (none))) (Kc := V) (fun _ _ _ _ _ _ h => h) hg 32) 497 [some (vR 0), some (vI c), some (vI l), some (vR 25), some (vI n), none, some (vI al), none, none, none, some (vI z), some (vI ch), some (vI od), none, none, none, none, none, none, none] [] _ _ 2 ?_
  show (w32 od = w32 0 → ((w32 ch = w32 0 → ((0 ≤ w32 0 ∧ w32 0 < 4) ∧ ((w32 (y_cmp (A 25 (w32 0)) 0) = w32 0 → ((0 ≤ w32 n ∧ w32 n < 4) ∧ ((w32 (y_cmp (A 25 (w32 n)) 0) = w32 0 → ((w32 al = w32 2 → ((w32 n < w32 z → ((0 = 0 ∨ 0 = 1) ∧ (K (some (some (vI 0))) F A))) ∧ (¬ w32 n < w32 z → (V 554 [some (vR 0), some (vI c), some (vI l), some (vR 25), some (vI n), none, some (vI al), none, none, none, none, none, none, none, none, none, none, none, none, none] [] F A 2)))) ∧ (¬ w32 al = w32 2 → ((0 = 0 ∨ 0 = 1) ∧ (K (some (some (vI 0))) F A))))) ∧ (¬ w32 (y_cmp (A 25 (w32 n)) 0) = w32 0 → ((w32 al = w32 1 → ((w32 n < w32 z → ((0 = 0 ∨ 0 = 1) ∧ (K (some (some (vI 0))) F A))) ∧ (¬ w32 n < w32 z → (V 554 [some (vR 0), some (vI c), some (vI l), some (vR 25), some (vI n), none, some (vI al), none, none, none, none, none, none, none, none, none, none, none, none, none] [] F A 2)))) ∧ (¬ w32 al = w32 1 → ((0 = 0 ∨ 0 = 1) ∧ (K (some (some (vI 0))) F A)))))))) ∧ (¬ w32 (y_cmp (A 25 (w32 0)) 0) = w32 0 → ((0 ≤ w32 n ∧ w32 n < 4) ∧ ((w32 (y_cmp (A 25 (w32 n)) 0) = w32 0 → ((w32 al = w32 1 → ((w32 n < w32 z → ((0 = 0 ∨ 0 = 1) ∧ (K (some (some (vI 0))) F A))) ∧ (¬ w32 n < w32 z → (V 554 [some (vR 0), some (vI c), some (vI l), some (vR 25), some (vI n), none, some (vI al), none, none, none, none, none, none, none, none, none, none, none, none, none] [] F A 2)))) ∧ (¬ w32 al = w32 1 → ((0 = 0 ∨ 0 = 1) ∧ (K (some (some (vI 0))) F A))))) ∧ (¬ w32 (y_cmp (A 25 (w32 n)) 0) = w32 0 → ((w32 al = w32 0 → ((w32 n < w32 z → ((0 = 0 ∨ 0 = 1) ∧ (K (some (some (vI 0))) F A))) ∧ (¬ w32 n < w32 z → (V 554 [some (vR 0), some (vI c), some (vI l), some (vR 25), some (vI n), none, some (vI al), none, none, none, none, none, none, none, none, none, none, none, none, none] [] F A 2)))) ∧ (¬ w32 al = w32 0 → ((0 = 0 ∨ 0 = 1) ∧ (K (some (some (vI 0))) F A))))))))))) ∧ (¬ w32 ch = w32 0 → ((w32 n < w32 z → ((0 = 0 ∨ 0 = 1) ∧ (K (some (some (vI 0))) F A))) ∧ (¬ w32 n < w32 z → (V 554 [some (vR 0), some (vI c), some (vI l), some (vR 25), some (vI n), none, some (vI al), none, none, none, none, none, none, none, none, none, none, none, none, none] [] F A 2)))))) ∧ (¬ w32 od = w32 0 → ((w32 al = w32 0 → ((0 = 0 ∨ 0 = 1) ∧ (K (some (some (vI 0))) F A))) ∧ (¬ w32 al = w32 0 → ((w32 ch = w32 0 → ((0 ≤ w32 0 ∧ w32 0 < 4) ∧ ((w32 (y_cmp (A 25 (w32 0)) 0) = w32 0 → ((0 ≤ w32 n ∧ w32 n < 4) ∧ ((w32 (y_cmp (A 25 (w32 n)) 0) = w32 0 → ((w32 al = w32 2 → ((w32 n < w32 z → ((0 = 0 ∨ 0 = 1) ∧ (K (some (some (vI 0))) F A))) ∧ (¬ w32 n < w32 z → (V 554 [some (vR 0), some (vI c), some (vI l), some (vR 25), some (vI n), none, some (vI al), none, none, none, none, none, none, none, none, none, none, none, none, none] [] F A 2)))) ∧ (¬ w32 al = w32 2 → ((0 = 0 ∨ 0 = 1) ∧ (K (some (some (vI 0))) F A))))) ∧ (¬ w32 (y_cmp (A 25 (w32 n)) 0) = w32 0 → ((w32 al = w32 1 → ((w32 n < w32 z → ((0 = 0 ∨ 0 = 1) ∧ (K (some (some (vI 0))) F A))) ∧ (¬ w32 n < w32 z → (V 554 [some (vR 0), some (vI c), some (vI l), some (vR 25), some (vI n), none, some (vI al), none, none, none, none, none, none, none, none, none, none, none, none, none] [] F A 2)))) ∧ (¬ w32 al = w32 1 → ((0 = 0 ∨ 0 = 1) ∧ (K (some (some (vI 0))) F A)))))))) ∧ (¬ w32 (y_cmp (A 25 (w32 0)) 0) = w32 0 → ((0 ≤ w32 n ∧ w32 n < 4) ∧ ((w32 (y_cmp (A 25 (w32 n)) 0) = w32 0 → ((w32 al = w32 1 → ((w32 n < w32 z → ((0 = 0 ∨ 0 = 1) ∧ (K (some (some (vI 0))) F A))) ∧ (¬ w32 n < w32 z → (V 554 [some (vR 0), some (vI c), some (vI l), some (vR 25), some (vI n), none, some (vI al), none, none, none, none, none, none, none, none, none, none, none, none, none] [] F A 2)))) ∧ (¬ w32 al = w32 1 → ((0 = 0 ∨ 0 = 1) ∧ (K (some (some (vI 0))) F A))))) ∧ (¬ w32 (y_cmp (A 25 (w32 n)) 0) = w32 0 → ((w32 al = w32 0 → ((w32 n < w32 z → ((0 = 0 ∨ 0 = 1) ∧ (K (some (some (vI 0))) F A))) ∧ (¬ w32 n < w32 z → (V 554 [some (vR 0), some (vI c), some (vI l), some (vR 25), some (vI n), none, some (vI al), none, none, none, none, none, none, none, none, none, none, none, none, none] [] F A 2)))) ∧ (¬ w32 al = w32 0 → ((0 = 0 ∨ 0 = 1) ∧ (K (some (some (vI 0))) F A))))))))))) ∧ (¬ w32 ch = w32 0 → ((w32 n < w32 z → ((0 = 0 ∨ 0 = 1) ∧ (K (some (some (vI 0))) F A))) ∧ (¬ w32 n < w32 z → (V 554 [some (vR 0), some (vI c), some (vI l), some (vR 25), some (vI n), none, some (vI al), none, none, none, none, none, none, none, none, none, none, none, none, none] [] F A 2))))))))
  refine ⟨fun c1 => ?_, fun c1 => ?_⟩
  · skip
    (try simp (disch := omega) only [w32_0, w32_id, yc_eq0, w64_0, e0, en] at c1)
    refine ⟨fun c2 => ?_, fun c2 => ?_⟩
    · skip
      (try simp (disch := omega) only [w32_0, w32_id, yc_eq0, w64_0, e0, en] at c2)
      refine ⟨by decide, ?_⟩
      refine ⟨fun c3 => ?_, fun c3 => ?_⟩
      · skip
        (try simp (disch := omega) only [w32_0, w32_id, yc_eq0, w64_0, e0, en] at c3)
        refine ⟨by rw [w32_id (by omega) (by omega)]; omega, ?_⟩
        refine ⟨fun c4 => ?_, fun c4 => ?_⟩
        · skip
          (try simp (disch := omega) only [w32_0, w32_id, yc_eq0, w64_0, e0, en] at c4)
          refine ⟨fun c5 => ?_, fun c5 => ?_⟩
          · skip
            (try simp (disch := omega) only [w32_0, w32_id, yc_eq0, w64_0, e0, en] at c5)
            refine ⟨fun c6 => ?_, fun c6 => ?_⟩
            · skip
              (try simp (disch := omega) only [w32_0, w32_id, yc_eq0, w64_0, e0, en] at c6)
              refine ⟨by first | exact Or.inl rfl | exact Or.inr rfl, ?_⟩
              exfalso; omega
            · skip
              (try simp (disch := omega) only [w32_0, w32_id, yc_eq0, w64_0, e0, en] at c6)
              exact isR_554 hg hh hK W0 hal
          · skip
            (try simp (disch := omega) only [w32_0, w32_id, yc_eq0, w64_0, e0, en] at c5)
            refine ⟨by first | exact Or.inl rfl | exact Or.inr rfl, ?_⟩
            exfalso; omega
        · skip
          (try simp (disch := omega) only [w32_0, w32_id, yc_eq0, w64_0, e0, en] at c4)
          refine ⟨fun c5 => ?_, fun c5 => ?_⟩
          · skip
            (try simp (disch := omega) only [w32_0, w32_id, yc_eq0, w64_0, e0, en] at c5)
            refine ⟨fun c6 => ?_, fun c6 => ?_⟩
            · skip
              (try simp (disch := omega) only [w32_0, w32_id, yc_eq0, w64_0, e0, en] at c6)
              refine ⟨by first | exact Or.inl rfl | exact Or.inr rfl, ?_⟩
              exfalso; omega
            · skip
              (try simp (disch := omega) only [w32_0, w32_id, yc_eq0, w64_0, e0, en] at c6)
              exact isR_554 hg hh hK W0 hal
          · skip
            (try simp (disch := omega) only [w32_0, w32_id, yc_eq0, w64_0, e0, en] at c5)
            refine ⟨by first | exact Or.inl rfl | exact Or.inr rfl, ?_⟩
            exfalso; omega
      · skip
        (try simp (disch := omega) only [w32_0, w32_id, yc_eq0, w64_0, e0, en] at c3)
        refine ⟨by rw [w32_id (by omega) (by omega)]; omega, ?_⟩
        refine ⟨fun c4 => ?_, fun c4 => ?_⟩
        · skip
          (try simp (disch := omega) only [w32_0, w32_id, yc_eq0, w64_0, e0, en] at c4)
          refine ⟨fun c5 => ?_, fun c5 => ?_⟩
          · skip
            (try simp (disch := omega) only [w32_0, w32_id, yc_eq0, w64_0, e0, en] at c5)
            refine ⟨fun c6 => ?_, fun c6 => ?_⟩
            · skip
              (try simp (disch := omega) only [w32_0, w32_id, yc_eq0, w64_0, e0, en] at c6)
              refine ⟨by first | exact Or.inl rfl | exact Or.inr rfl, ?_⟩
              exfalso; omega
            · skip
              (try simp (disch := omega) only [w32_0, w32_id, yc_eq0, w64_0, e0, en] at c6)
              exact isR_554 hg hh hK W0 hal
          · skip
            (try simp (disch := omega) only [w32_0, w32_id, yc_eq0, w64_0, e0, en] at c5)
            refine ⟨by first | exact Or.inl rfl | exact Or.inr rfl, ?_⟩
            exfalso; omega
        · skip
          (try simp (disch := omega) only [w32_0, w32_id, yc_eq0, w64_0, e0, en] at c4)
          refine ⟨fun c5 => ?_, fun c5 => ?_⟩
          · skip
            (try simp (disch := omega) only [w32_0, w32_id, yc_eq0, w64_0, e0, en] at c5)
            refine ⟨fun c6 => ?_, fun c6 => ?_⟩
            · skip
              (try simp (disch := omega) only [w32_0, w32_id, yc_eq0, w64_0, e0, en] at c6)
              refine ⟨by first | exact Or.inl rfl | exact Or.inr rfl, ?_⟩
              exfalso; omega
            · skip
              (try simp (disch := omega) only [w32_0, w32_id, yc_eq0, w64_0, e0, en] at c6)
              exact isR_554 hg hh hK W0 hal
          · skip
            (try simp (disch := omega) only [w32_0, w32_id, yc_eq0, w64_0, e0, en] at c5)
            refine ⟨by first | exact Or.inl rfl | exact Or.inr rfl, ?_⟩
            exfalso; omega
    · skip
      (try simp (disch := omega) only [w32_0, w32_id, yc_eq0, w64_0, e0, en] at c2)
      refine ⟨fun c3 => ?_, fun c3 => ?_⟩
      · skip
        (try simp (disch := omega) only [w32_0, w32_id, yc_eq0, w64_0, e0, en] at c3)
        refine ⟨by first | exact Or.inl rfl | exact Or.inr rfl, ?_⟩
        exfalso; omega
      · skip
        (try simp (disch := omega) only [w32_0, w32_id, yc_eq0, w64_0, e0, en] at c3)
        exact isR_554 hg hh hK W0 hal
  · skip
    (try simp (disch := omega) only [w32_0, w32_id, yc_eq0, w64_0, e0, en] at c1)
    refine ⟨fun c2 => ?_, fun c2 => ?_⟩
    · skip
      (try simp (disch := omega) only [w32_0, w32_id, yc_eq0, w64_0, e0, en] at c2)
      refine ⟨by first | exact Or.inl rfl | exact Or.inr rfl, ?_⟩
      exfalso; omega
    · skip
      (try simp (disch := omega) only [w32_0, w32_id, yc_eq0, w64_0, e0, en] at c2)
      refine ⟨fun c3 => ?_, fun c3 => ?_⟩
      · skip
        (try simp (disch := omega) only [w32_0, w32_id, yc_eq0, w64_0, e0, en] at c3)
        refine ⟨by decide, ?_⟩
        refine ⟨fun c4 => ?_, fun c4 => ?_⟩
        · skip
          (try simp (disch := omega) only [w32_0, w32_id, yc_eq0, w64_0, e0, en] at c4)
          refine ⟨by rw [w32_id (by omega) (by omega)]; omega, ?_⟩
          refine ⟨fun c5 => ?_, fun c5 => ?_⟩
          · skip
            (try simp (disch := omega) only [w32_0, w32_id, yc_eq0, w64_0, e0, en] at c5)
            refine ⟨fun c6 => ?_, fun c6 => ?_⟩
            · skip
              (try simp (disch := omega) only [w32_0, w32_id, yc_eq0, w64_0, e0, en] at c6)
              refine ⟨fun c7 => ?_, fun c7 => ?_⟩
              · skip
                (try simp (disch := omega) only [w32_0, w32_id, yc_eq0, w64_0, e0, en] at c7)
                refine ⟨by first | exact Or.inl rfl | exact Or.inr rfl, ?_⟩
                exfalso; omega
              · skip
                (try simp (disch := omega) only [w32_0, w32_id, yc_eq0, w64_0, e0, en] at c7)
                exact isR_554 hg hh hK W0 hal
            · skip
              (try simp (disch := omega) only [w32_0, w32_id, yc_eq0, w64_0, e0, en] at c6)
              refine ⟨by first | exact Or.inl rfl | exact Or.inr rfl, ?_⟩
              exfalso; omega
          · skip
            (try simp (disch := omega) only [w32_0, w32_id, yc_eq0, w64_0, e0, en] at c5)
            refine ⟨fun c6 => ?_, fun c6 => ?_⟩
            · skip
              (try simp (disch := omega) only [w32_0, w32_id, yc_eq0, w64_0, e0, en] at c6)
              refine ⟨fun c7 => ?_, fun c7 => ?_⟩
              · skip
                (try simp (disch := omega) only [w32_0, w32_id, yc_eq0, w64_0, e0, en] at c7)
                refine ⟨by first | exact Or.inl rfl | exact Or.inr rfl, ?_⟩
                exfalso; omega
              · skip
                (try simp (disch := omega) only [w32_0, w32_id, yc_eq0, w64_0, e0, en] at c7)
                exact isR_554 hg hh hK W0 hal
            · skip
              (try simp (disch := omega) only [w32_0, w32_id, yc_eq0, w64_0, e0, en] at c6)
              refine ⟨by first | exact Or.inl rfl | exact Or.inr rfl, ?_⟩
              exfalso; omega
        · skip
          (try simp (disch := omega) only [w32_0, w32_id, yc_eq0, w64_0, e0, en] at c4)
          refine ⟨by rw [w32_id (by omega) (by omega)]; omega, ?_⟩
          refine ⟨fun c5 => ?_, fun c5 => ?_⟩
          · skip
            (try simp (disch := omega) only [w32_0, w32_id, yc_eq0, w64_0, e0, en] at c5)
            refine ⟨fun c6 => ?_, fun c6 => ?_⟩
            · skip
              (try simp (disch := omega) only [w32_0, w32_id, yc_eq0, w64_0, e0, en] at c6)
              refine ⟨fun c7 => ?_, fun c7 => ?_⟩
              · skip
                (try simp (disch := omega) only [w32_0, w32_id, yc_eq0, w64_0, e0, en] at c7)
                refine ⟨by first | exact Or.inl rfl | exact Or.inr rfl, ?_⟩
                exfalso; omega
              · skip
                (try simp (disch := omega) only [w32_0, w32_id, yc_eq0, w64_0, e0, en] at c7)
                exact isR_554 hg hh hK W0 hal
            · skip
              (try simp (disch := omega) only [w32_0, w32_id, yc_eq0, w64_0, e0, en] at c6)
              refine ⟨by first | exact Or.inl rfl | exact Or.inr rfl, ?_⟩
              exfalso; omega
          · skip
            (try simp (disch := omega) only [w32_0, w32_id, yc_eq0, w64_0, e0, en] at c5)
            refine ⟨fun c6 => ?_, fun c6 => ?_⟩
            · skip
              (try simp (disch := omega) only [w32_0, w32_id, yc_eq0, w64_0, e0, en] at c6)
              refine ⟨fun c7 => ?_, fun c7 => ?_⟩
              · skip
                (try simp (disch := omega) only [w32_0, w32_id, yc_eq0, w64_0, e0, en] at c7)
                refine ⟨by first | exact Or.inl rfl | exact Or.inr rfl, ?_⟩
                exfalso; omega
              · skip
                (try simp (disch := omega) only [w32_0, w32_id, yc_eq0, w64_0, e0, en] at c7)
                exact isR_554 hg hh hK W0 hal
            · skip
              (try simp (disch := omega) only [w32_0, w32_id, yc_eq0, w64_0, e0, en] at c6)
              refine ⟨by first | exact Or.inl rfl | exact Or.inr rfl, ?_⟩
              exfalso; omega
      · skip
        (try simp (disch := omega) only [w32_0, w32_id, yc_eq0, w64_0, e0, en] at c3)
        refine ⟨fun c4 => ?_, fun c4 => ?_⟩
        · skip
          (try simp (disch := omega) only [w32_0, w32_id, yc_eq0, w64_0, e0, en] at c4)
          refine ⟨by first | exact Or.inl rfl | exact Or.inr rfl, ?_⟩
          exfalso; omega
        · skip
          (try simp (disch := omega) only [w32_0, w32_id, yc_eq0, w64_0, e0, en] at c4)
          exact isR_554 hg hh hK W0 hal
set_option maxRecDepth 20000 in
theorem isR_463 {F : FF} {A : AA} {al z : Int} {F0 : FF} {A0 : AA} {c l n : Int} {K : KK} {V : REC} (hg : am_good qxL_isRootedK2 K V) (hh : rtH A0 c l n) (hK : ∀ G B, qW F0 G A0 B → K (some (some (vI 1))) G B) (W0 : qW F0 F A0 A) (hal : al = ((rtsX (A0 2) c l).length : Int)) (hB : (∀ i, 0 ≤ i → i < n + 1 → A 25 i = (cfL (A0 2) c l) i)) (hz : 0 ≤ z ∧ z ≤ n) (hza : ¬ azP (cfL (A0 2) c l) (Int.toNat (A0 2 (18 + c)))) : V 463 [some (vR 0), some (vI c), some (vI l), some (vR 25), some (vI n), none, some (vI al), none, none, none, some (vI z), none, none, none, none, none, none, none, none, none] [] F A 2 := by
  obtain ⟨hf, hc, hl, hn⟩ := id hh
  have hc8 := hf.1.1
  have hl6 := hf.1.2
  have hs := (hf.2.2.1 c hc.1 hc.2).1
  obtain ⟨hlm, hsm, n1, n3, hnt, h8⟩ := rt_f hf hc hl hn
  have hcb : 0 ≤ (chg (cfL (A0 2) c l) (Int.toNat (A0 2 (18 + c)))) ∧ (chg (cfL (A0 2) c l) (Int.toNat (A0 2 (18 + c)))) ≤ 4 := by have := chg_b (cfL (A0 2) c l) (Int.toNat (A0 2 (18 + c))); omega
  have eL : rtsX (A0 2) c l = rootsL (cfL (A0 2) c l) n (A0 2 2) := by unfold rtsX; rw [hn]
  have h2 : (chg (cfL (A0 2) c l) (Int.toNat (A0 2 (18 + c)))) = 0 → al = (if (cfL (A0 2) c l) 0 = 0 then 1 else 0) + (if (cfL (A0 2) c l) n = 0 then 1 else 0) := fun q => by
    rw [hal, eL]
    exact roots_0 n1 hsm (by rw [← hnt]; exact hza) (by rw [← hnt]; exact q)
  have h1 : ∀ {X : AA}, (∀ i, 0 ≤ i → i < n + 1 → X 25 i = (cfL (A0 2) c l) i) → w32 (sg (w64 (X 25 (w32 0))) * sg (w64 (X 25 (w32 n)))) < w32 0 → ¬ al = 0 := fun {X} hX q => by
    rw [w32_id (x := n) (by omega) (by omega), w32_0, hX 0 (by omega) (by omega), hX n (by omega) (by omega), G_w hsm (by omega) (by omega), G_w hsm (by omega) (by omega)] at q
    have s0 := sg_3 ((cfL (A0 2) c l) 0)
    have sn := sg_3 ((cfL (A0 2) c l) n)
    have q2 : sg ((cfL (A0 2) c l) 0) * sg ((cfL (A0 2) c l) n) < 0 := by
      rw [w32_id (by rcases s0 with h | h | h <;> rcases sn with k | k | k <;> rw [h, k] <;> decide) (by rcases s0 with h | h | h <;> rcases sn with k | k | k <;> rw [h, k] <;> decide)] at q
      exact q
    have := roots_odd n1 n3 hlm.1 hlm.2 hsm q2
    rw [hal, eL]
    intro z0
    exact this (List.eq_nil_of_length_eq_zero (by omega))
  refine hg.1 _ (am_runs (cut := (fun pc => cond (Nat.beq pc 497) (some [true, true, true, true, true, false, true, false, false, false, true, true, true, false, false, false, false, false, false, false]) (none))) (Kc := V) (fun _ _ _ _ _ _ h => h) hg 23) 463 [some (vR 0), some (vI c), some (vI l), some (vR 25), some (vI n), none, some (vI al), none, none, none, some (vI z), none, none, none, none, none, none, none, none, none] [] _ _ 2 ?_
  show (((0 ≤ c ∧ c < A 2 0) ∧ 0 ≤ l ∧ l < A 2 1) ∧ fgOK (A 2) ∧ (-2147483648 ≤ c ∧ c < 2147483648) ∧ (-2147483648 ≤ l ∧ l < 2147483648) ∧ (-2147483648 ≤ 0 ∧ 0 < 2147483648) ∧ (-2147483648 ≤ 0 ∧ 0 < 2147483648)) ∧ (∀ (G_1 : FF) (B_1 : AA), (qrP F G_1 A B_1) → ((0 ≤ w32 0 ∧ w32 0 < 4) ∧ ((0 ≤ w32 n ∧ w32 n < 4) ∧ ((w32 ((sg (w64 (B_1 25 (w32 0)))) * (sg (w64 (B_1 25 (w32 n))))) < w32 0 → (V 497 [some (vR 0), some (vI c), some (vI l), some (vR 25), some (vI n), none, some (vI al), none, none, none, some (vI z), some (vI (if 0 ≤ 0 ∧ 0 ≤ 12 ∧ 0 ≤ 0 ∧ 0 < p2 0 then chg (cellF (cfL (A 2) c l) (A 2 (18 + c) - 1) (Int.toNat 0) 0) (Int.toNat (A 2 (18 + c))) else -1)), some (vI 1), none, none, none, none, none, none, none] [] G_1 B_1 2)) ∧ (¬ w32 ((sg (w64 (B_1 25 (w32 0)))) * (sg (w64 (B_1 25 (w32 n))))) < w32 0 → (V 497 [some (vR 0), some (vI c), some (vI l), some (vR 25), some (vI n), none, some (vI al), none, none, none, some (vI z), some (vI (if 0 ≤ 0 ∧ 0 ≤ 12 ∧ 0 ≤ 0 ∧ 0 < p2 0 then chg (cellF (cfL (A 2) c l) (A 2 (18 + c) - 1) (Int.toNat 0) 0) (Int.toNat (A 2 (18 + c))) else -1)), some (vI 0), none, none, none, none, none, none, none] [] G_1 B_1 2))))))
  refine ⟨by exact ⟨(by rw [qW_2 W0]; exact ⟨hc, hl⟩), (by rw [qW_2 W0]; exact hf), (by omega), (by omega), (by omega), (by omega)⟩, ?_⟩
  intro G_1 B_1 g1
  have W1 := qW_q W0 g1
  refine ⟨by decide, ?_⟩
  refine ⟨by rw [w32_id (by omega) (by omega)]; omega, ?_⟩
  refine ⟨fun c1 => ?_, fun c1 => ?_⟩
  · skip
    skip
    rw [scV (qW_2 W0) (by decide)]
    exact isR_497 hg hh hK W1 hal (rowQ (by decide) g1 hB) hz (ch := (chg (cfL (A0 2) c l) (Int.toNat (A0 2 (18 + c))))) (od := 1) hcb (by decide) (fun _ => h1 (rowQ (by decide) g1 hB) c1) h2
  · skip
    skip
    rw [scV (qW_2 W0) (by decide)]
    exact isR_497 hg hh hK W1 hal (rowQ (by decide) g1 hB) hz (ch := (chg (cfL (A0 2) c l) (Int.toNat (A0 2 (18 + c))))) (od := 0) hcb (by decide) (fun q => absurd q (by decide)) h2
