set_option maxRecDepth 20000 in
theorem isR_343 {F : FF} {A : AA} {al last r kd dd qq : Int} {hq : Int → Int} {F0 : FF} {A0 : AA} {c l n : Int} {K : KK} {V : REC} (hg : am_good qxL_isRootedK2 K V) (hh : rtH A0 c l n) (hK : ∀ G B, qW F0 G A0 B → K (some (some (vI 1))) G B) (W0 : qW F0 F A0 A) (hB : (∀ i, 0 ≤ i → i < n + 1 → A 25 i = (cfL (A0 2) c l) i)) (hQ : (∀ k, 0 ≤ k → k ≤ 2 → A 26 k = hq k)) (gd : gdR (cfL (A0 2) c l) n (A0 2 2) (kd, dd, qq)) (hlt : -1 ≤ last ∧ last < plc (kd, dd, qq)) (hr : 0 ≤ r ∧ r < 8) (hx : ∀ (F : FF) (A : AA), qW F0 F A0 A → (∀ i, 0 ≤ i → i < n + 1 → A 25 i = (cfL (A0 2) c l) i) → (∀ k, 0 ≤ k → k ≤ 2 → A 26 k = hq k) → V 190 [some (vR 0), some (vI c), some (vI l), some (vR 25), some (vI n), none, some (vI al), some (vR 26), some (vL (plc (kd, dd, qq))), none, some (vI (r + 1)), none, none, none, none, none, none, none, none, none] [] F A 2) : V 343 [some (vR 0), some (vI c), some (vI l), some (vR 25), some (vI n), none, some (vI al), some (vR 26), some (vL last), none, some (vI r), some (vI kd), some (vI dd), some (vL qq), none, none, none, none, none, none] [] F A 2 := by
  obtain ⟨hf, hc, hl, hn⟩ := id hh
  have hc8 := hf.1.1
  have hl6 := hf.1.2
  have hs := (hf.2.2.1 c hc.1 hc.2).1
  obtain ⟨hlm, hsm, n1, n3, hnt, h8⟩ := rt_f hf hc hl hn
  have pb := pl_b gd hlm.2
  obtain ⟨⟨d0, d1⟩, ⟨q0, q1⟩, kc, kn, z0, z1, z2⟩ := id gd
  dsimp only at pb d0 d1 q0 q1 kc kn z0 z1 z2
  have e : y_shl qq (13 - dd) = qq * p2 (13 - dd) := y_shlp (by omega) (by omega) q0 (by omega)
  have ez : kd = 0 → y_shl qq (13 - dd) + 0 = plc (kd, dd, qq) := fun h => by
    unfold plc; dsimp only; rw [e, if_pos h]
  have en : ¬ kd = 0 → y_shl qq (13 - dd) + 1 = plc (kd, dd, qq) := fun h => by
    unfold plc; dsimp only; rw [e, if_neg h]
  have pl : plc (kd, dd, qq) ≤ 8193 := by
    unfold plc; dsimp only; split <;> omega
  have wl : w64 last = last := w64_id (by omega) (by omega)
  have wp : w64 (plc (kd, dd, qq)) = plc (kd, dd, qq) := w64_id (by omega) (by omega)
  refine hg.1 _ (am_runs (cut := (fun pc => cond (Nat.beq pc 190) (some [true, true, true, true, true, false, true, true, true, false, true, false, false, false, false, false, false, false, false, false]) (none))) (Kc := V) (fun _ _ _ _ _ _ h => h) hg 22) 343 [some (vR 0), some (vI c), some (vI l), some (vR 25), some (vI n), none, some (vI al), some (vR 26), some (vL last), none, some (vI r), some (vI kd), some (vI dd), some (vL qq), none, none, none, none, none, none] [] _ _ 2 ?_
  show (w32 kd = w32 0 → ((w32 0 < w32 (y_cmp ((y_shl qq (13 - dd)) + 0) last) → (V 190 [some (vR 0), some (vI c), some (vI l), some (vR 25), some (vI n), none, some (vI al), some (vR 26), some (vL ((y_shl qq (13 - dd)) + 0)), none, some (vI (r + 1)), none, none, none, none, none, none, none, none, none] [] F A 2)) ∧ (¬ w32 0 < w32 (y_cmp ((y_shl qq (13 - dd)) + 0) last) → ((0 = 0 ∨ 0 = 1) ∧ (K (some (some (vI 0))) F A))))) ∧ (¬ w32 kd = w32 0 → ((w32 0 < w32 (y_cmp ((y_shl qq (13 - dd)) + 1) last) → (V 190 [some (vR 0), some (vI c), some (vI l), some (vR 25), some (vI n), none, some (vI al), some (vR 26), some (vL ((y_shl qq (13 - dd)) + 1)), none, some (vI (r + 1)), none, none, none, none, none, none, none, none, none] [] F A 2)) ∧ (¬ w32 0 < w32 (y_cmp ((y_shl qq (13 - dd)) + 1) last) → ((0 = 0 ∨ 0 = 1) ∧ (K (some (some (vI 0))) F A)))))
  refine ⟨fun c1 => ?_, fun c1 => ?_⟩
  · skip
    skip
    (try simp (disch := omega) only [w32_0, w32_id] at c1)
    refine ⟨fun c2 => ?_, fun c2 => ?_⟩
    · skip
      skip
      rw [ez c1]; exact hx _ _ W0 hB hQ
    · skip
      skip
      refine ⟨by first | exact Or.inl rfl | exact Or.inr rfl, ?_⟩
      exact (c2 (yc_g.mpr (by rw [ez c1, wl, wp]; exact hlt.2))).elim
  · skip
    skip
    (try simp (disch := omega) only [w32_0, w32_id] at c1)
    refine ⟨fun c2 => ?_, fun c2 => ?_⟩
    · skip
      skip
      rw [en c1]; exact hx _ _ W0 hB hQ
    · skip
      skip
      refine ⟨by first | exact Or.inl rfl | exact Or.inr rfl, ?_⟩
      exact (c2 (yc_g.mpr (by rw [en c1, wl, wp]; exact hlt.2))).elim
set_option maxRecDepth 20000 in
theorem isR_307 {F : FF} {A : AA} {al last r kd dd qq ch : Int} {hq : Int → Int} {F0 : FF} {A0 : AA} {c l n : Int} {K : KK} {V : REC} (hg : am_good qxL_isRootedK2 K V) (hh : rtH A0 c l n) (hK : ∀ G B, qW F0 G A0 B → K (some (some (vI 1))) G B) (W0 : qW F0 F A0 A) (hB : (∀ i, 0 ≤ i → i < n + 1 → A 25 i = (cfL (A0 2) c l) i)) (hQ : (∀ k, 0 ≤ k → k ≤ 2 → A 26 k = hq k)) (gd : gdR (cfL (A0 2) c l) n (A0 2 2) (kd, dd, qq)) (hlt : -1 ≤ last ∧ last < plc (kd, dd, qq)) (hr : 0 ≤ r ∧ r < 8) (hx : ∀ (F : FF) (A : AA), qW F0 F A0 A → (∀ i, 0 ≤ i → i < n + 1 → A 25 i = (cfL (A0 2) c l) i) → (∀ k, 0 ≤ k → k ≤ 2 → A 26 k = hq k) → V 190 [some (vR 0), some (vI c), some (vI l), some (vR 25), some (vI n), none, some (vI al), some (vR 26), some (vL (plc (kd, dd, qq))), none, some (vI (r + 1)), none, none, none, none, none, none, none, none, none] [] F A 2) (hch : (0 ≤ ch ∧ ch ≤ 4) ∧ (kd = 1 → ch = 1) ∧ (kd = 2 → 2 ≤ ch ∧ dd = A0 2 2)) : V 307 [some (vR 0), some (vI c), some (vI l), some (vR 25), some (vI n), none, some (vI al), some (vR 26), some (vL last), none, some (vI r), some (vI kd), some (vI dd), some (vL qq), none, some (vL (p2 dd)), none, some (vI ch), none, none] [] F A 2 := by
  obtain ⟨hf, hc, hl, hn⟩ := id hh
  have hc8 := hf.1.1
  have hl6 := hf.1.2
  have hs := (hf.2.2.1 c hc.1 hc.2).1
  obtain ⟨hlm, hsm, n1, n3, hnt, h8⟩ := rt_f hf hc hl hn
  have pb := pl_b gd hlm.2
  obtain ⟨⟨d0, d1⟩, ⟨q0, q1⟩, kc, kn, z0, z1, z2⟩ := id gd
  dsimp only at pb d0 d1 q0 q1 kc kn z0 z1 z2
  refine hg.1 _ (am_runs (cut := (fun pc => cond (Nat.beq pc 343) (some [true, true, true, true, true, false, true, true, true, false, true, true, true, true, false, false, false, false, false, false]) (none))) (Kc := V) (fun _ _ _ _ _ _ h => h) hg 21) 307 [some (vR 0), some (vI c), some (vI l), some (vR 25), some (vI n), none, some (vI al), some (vR 26), some (vL last), none, some (vI r), some (vI kd), some (vI dd), some (vL qq), none, some (vL (p2 dd)), none, some (vI ch), none, none] [] _ _ 2 ?_
  show (w32 kd = w32 1 → ((w32 ch = w32 1 → ((w32 kd = w32 2 → ((w32 ch < w32 2 → ((0 = 0 ∨ 0 = 1) ∧ (K (some (some (vI 0))) F A))) ∧ (¬ w32 ch < w32 2 → (((-2147483648 ≤ 0 ∧ 0 < 2147483648)) ∧ ((w32 dd = w32 (if 0 = 0 ∨ 0 = 1 then A 2 (2 + 0) else -2) → (V 343 [some (vR 0), some (vI c), some (vI l), some (vR 25), some (vI n), none, some (vI al), some (vR 26), some (vL last), none, some (vI r), some (vI kd), some (vI dd), some (vL qq), none, none, none, none, none, none] [] F A 2)) ∧ (¬ (w32 dd = w32 (if 0 = 0 ∨ 0 = 1 then A 2 (2 + 0) else -2)) → ((0 = 0 ∨ 0 = 1) ∧ (K (some (some (vI 0))) F A)))))))) ∧ (¬ w32 kd = w32 2 → (V 343 [some (vR 0), some (vI c), some (vI l), some (vR 25), some (vI n), none, some (vI al), some (vR 26), some (vL last), none, some (vI r), some (vI kd), some (vI dd), some (vL qq), none, none, none, none, none, none] [] F A 2)))) ∧ (¬ w32 ch = w32 1 → ((0 = 0 ∨ 0 = 1) ∧ (K (some (some (vI 0))) F A))))) ∧ (¬ w32 kd = w32 1 → ((w32 kd = w32 2 → ((w32 ch < w32 2 → ((0 = 0 ∨ 0 = 1) ∧ (K (some (some (vI 0))) F A))) ∧ (¬ w32 ch < w32 2 → (((-2147483648 ≤ 0 ∧ 0 < 2147483648)) ∧ ((w32 dd = w32 (if 0 = 0 ∨ 0 = 1 then A 2 (2 + 0) else -2) → (V 343 [some (vR 0), some (vI c), some (vI l), some (vR 25), some (vI n), none, some (vI al), some (vR 26), some (vL last), none, some (vI r), some (vI kd), some (vI dd), some (vL qq), none, none, none, none, none, none] [] F A 2)) ∧ (¬ (w32 dd = w32 (if 0 = 0 ∨ 0 = 1 then A 2 (2 + 0) else -2)) → ((0 = 0 ∨ 0 = 1) ∧ (K (some (some (vI 0))) F A)))))))) ∧ (¬ w32 kd = w32 2 → (V 343 [some (vR 0), some (vI c), some (vI l), some (vR 25), some (vI n), none, some (vI al), some (vR 26), some (vL last), none, some (vI r), some (vI kd), some (vI dd), some (vL qq), none, none, none, none, none, none] [] F A 2))))
  refine ⟨fun c1 => ?_, fun c1 => ?_⟩
  · skip
    (try rw [gsV (qW_2 W0)] at c1); (try simp (disch := omega) only [w32_0, w32_id] at c1)
    refine ⟨fun c2 => ?_, fun c2 => ?_⟩
    · skip
      (try rw [gsV (qW_2 W0)] at c2); (try simp (disch := omega) only [w32_0, w32_id] at c2)
      refine ⟨fun c3 => ?_, fun c3 => ?_⟩
      · skip
        (try rw [gsV (qW_2 W0)] at c3); (try simp (disch := omega) only [w32_0, w32_id] at c3)
        refine ⟨fun c4 => ?_, fun c4 => ?_⟩
        · skip
          (try rw [gsV (qW_2 W0)] at c4); (try simp (disch := omega) only [w32_0, w32_id] at c4)
          refine ⟨by first | exact Or.inl rfl | exact Or.inr rfl, ?_⟩
          exfalso; omega
        · skip
          (try rw [gsV (qW_2 W0)] at c4); (try simp (disch := omega) only [w32_0, w32_id] at c4)
          refine ⟨by decide, ?_⟩
          refine ⟨fun c5 => ?_, fun c5 => ?_⟩
          · skip
            (try rw [gsV (qW_2 W0)] at c5); (try simp (disch := omega) only [w32_0, w32_id] at c5)
            exact isR_343 hg hh hK W0 hB hQ gd hlt hr hx
          · skip
            (try rw [gsV (qW_2 W0)] at c5); (try simp (disch := omega) only [w32_0, w32_id] at c5)
            refine ⟨by first | exact Or.inl rfl | exact Or.inr rfl, ?_⟩
            exfalso; omega
      · skip
        (try rw [gsV (qW_2 W0)] at c3); (try simp (disch := omega) only [w32_0, w32_id] at c3)
        exact isR_343 hg hh hK W0 hB hQ gd hlt hr hx
    · skip
      (try rw [gsV (qW_2 W0)] at c2); (try simp (disch := omega) only [w32_0, w32_id] at c2)
      refine ⟨by first | exact Or.inl rfl | exact Or.inr rfl, ?_⟩
      exfalso; omega
  · skip
    (try rw [gsV (qW_2 W0)] at c1); (try simp (disch := omega) only [w32_0, w32_id] at c1)
    refine ⟨fun c2 => ?_, fun c2 => ?_⟩
    · skip
      (try rw [gsV (qW_2 W0)] at c2); (try simp (disch := omega) only [w32_0, w32_id] at c2)
      refine ⟨fun c3 => ?_, fun c3 => ?_⟩
      · skip
        (try rw [gsV (qW_2 W0)] at c3); (try simp (disch := omega) only [w32_0, w32_id] at c3)
        refine ⟨by first | exact Or.inl rfl | exact Or.inr rfl, ?_⟩
        exfalso; omega
      · skip
        (try rw [gsV (qW_2 W0)] at c3); (try simp (disch := omega) only [w32_0, w32_id] at c3)
        refine ⟨by decide, ?_⟩
        refine ⟨fun c4 => ?_, fun c4 => ?_⟩
        · skip
          (try rw [gsV (qW_2 W0)] at c4); (try simp (disch := omega) only [w32_0, w32_id] at c4)
          exact isR_343 hg hh hK W0 hB hQ gd hlt hr hx
        · skip
          (try rw [gsV (qW_2 W0)] at c4); (try simp (disch := omega) only [w32_0, w32_id] at c4)
          refine ⟨by first | exact Or.inl rfl | exact Or.inr rfl, ?_⟩
          exfalso; omega
    · skip
      (try rw [gsV (qW_2 W0)] at c2); (try simp (disch := omega) only [w32_0, w32_id] at c2)
      exact isR_343 hg hh hK W0 hB hQ gd hlt hr hx
set_option maxRecDepth 20000 in
theorem isR_275 {F : FF} {A : AA} {al last r kd dd qq : Int} {hq : Int → Int} {F0 : FF} {A0 : AA} {c l n : Int} {K : KK} {V : REC} (hg : am_good qxL_isRootedK2 K V) (hh : rtH A0 c l n) (hK : ∀ G B, qW F0 G A0 B → K (some (some (vI 1))) G B) (W0 : qW F0 F A0 A) (hB : (∀ i, 0 ≤ i → i < n + 1 → A 25 i = (cfL (A0 2) c l) i)) (hQ : (∀ k, 0 ≤ k → k ≤ 2 → A 26 k = hq k)) (gd : gdR (cfL (A0 2) c l) n (A0 2 2) (kd, dd, qq)) (hlt : -1 ≤ last ∧ last < plc (kd, dd, qq)) (hr : 0 ≤ r ∧ r < 8) (hx : ∀ (F : FF) (A : AA), qW F0 F A0 A → (∀ i, 0 ≤ i → i < n + 1 → A 25 i = (cfL (A0 2) c l) i) → (∀ k, 0 ≤ k → k ≤ 2 → A 26 k = hq k) → V 190 [some (vR 0), some (vI c), some (vI l), some (vR 25), some (vI n), none, some (vI al), some (vR 26), some (vL (plc (kd, dd, qq))), none, some (vI (r + 1)), none, none, none, none, none, none, none, none, none] [] F A 2) : V 275 [some (vR 0), some (vI c), some (vI l), some (vR 25), some (vI n), none, some (vI al), some (vR 26), some (vL last), none, some (vI r), some (vI kd), some (vI dd), some (vL qq), none, some (vL (p2 dd)), none, none, none, none] [] F A 2 := by
  obtain ⟨hf, hc, hl, hn⟩ := id hh
  have hc8 := hf.1.1
  have hl6 := hf.1.2
  have hs := (hf.2.2.1 c hc.1 hc.2).1
  obtain ⟨hlm, hsm, n1, n3, hnt, h8⟩ := rt_f hf hc hl hn
  have pb := pl_b gd hlm.2
  obtain ⟨⟨d0, d1⟩, ⟨q0, q1⟩, kc, kn, z0, z1, z2⟩ := id gd
  dsimp only at pb d0 d1 q0 q1 kc kn z0 z1 z2
  have pp := @p2_pos dd
  refine hg.1 _ (am_runs (cut := (fun pc => cond (Nat.beq pc 307) (some [true, true, true, true, true, false, true, true, true, false, true, true, true, true, false, true, false, true, false, false]) (none))) (Kc := V) (fun _ _ _ _ _ _ h => h) hg 19) 275 [some (vR 0), some (vI c), some (vI l), some (vR 25), some (vI n), none, some (vI al), some (vR 26), some (vL last), none, some (vI r), some (vI kd), some (vI dd), some (vL qq), none, some (vL (p2 dd)), none, none, none, none] [] _ _ 2 ?_
  show (w32 12 < w32 dd → (V 307 [some (vR 0), some (vI c), some (vI l), some (vR 25), some (vI n), none, some (vI al), some (vR 26), some (vL last), none, some (vI r), some (vI kd), some (vI dd), some (vL qq), none, some (vL (p2 dd)), none, some (vI 0), none, none] [] F A 2)) ∧ (¬ w32 12 < w32 dd → ((w32 (y_cmp qq (p2 dd)) < w32 0 → ((((0 ≤ c ∧ c < A 2 0) ∧ 0 ≤ l ∧ l < A 2 1) ∧ fgOK (A 2) ∧ (-2147483648 ≤ c ∧ c < 2147483648) ∧ (-2147483648 ≤ l ∧ l < 2147483648) ∧ (-2147483648 ≤ dd ∧ dd < 2147483648) ∧ (-2147483648 ≤ qq ∧ qq < 2147483648)) ∧ (∀ (G_1 : FF) (B_1 : AA), (qrP F G_1 A B_1) → (V 307 [some (vR 0), some (vI c), some (vI l), some (vR 25), some (vI n), none, some (vI al), some (vR 26), some (vL last), none, some (vI r), some (vI kd), some (vI dd), some (vL qq), none, some (vL (p2 dd)), none, some (vI (if 0 ≤ dd ∧ dd ≤ 12 ∧ 0 ≤ qq ∧ qq < p2 dd then chg (cellF (cfL (A 2) c l) (A 2 (18 + c) - 1) (Int.toNat dd) qq) (Int.toNat (A 2 (18 + c))) else -1)), none, none] [] G_1 B_1 2)))) ∧ (¬ w32 (y_cmp qq (p2 dd)) < w32 0 → (V 307 [some (vR 0), some (vI c), some (vI l), some (vR 25), some (vI n), none, some (vI al), some (vR 26), some (vL last), none, some (vI r), some (vI kd), some (vI dd), some (vL qq), none, some (vL (p2 dd)), none, some (vI 0), none, none] [] F A 2))))
  refine ⟨fun c1 => ?_, fun c1 => ?_⟩
  · skip
    skip
    (try simp (disch := omega) only [w32_0, w32_id] at c1)
    exfalso; omega
  · skip
    skip
    (try simp (disch := omega) only [w32_0, w32_id] at c1)
    refine ⟨fun c2 => ?_, fun c2 => ?_⟩
    · skip
      skip
      refine ⟨by exact ⟨(by rw [qW_2 W0]; exact ⟨hc, hl⟩), (by rw [qW_2 W0]; exact hf), (by omega), (by omega), (by omega), (by omega)⟩, ?_⟩
      intro G_1 B_1 g1
      have W1 := qW_q W0 g1
      have e := yc_l.mp c2
      rw [w64_id (x := qq) (by omega) (by omega), w64_id (x := p2 dd) (by omega) (by omega)] at e
      rw [scV (qW_2 W0) ⟨d0, by omega, q0, e⟩]
      exact isR_307 hg hh hK W1 (rowQ (by decide) g1 hB) (fun i i0 i1 => (g1.2.1 26 i (by omega)).trans (hQ i i0 i1)) gd hlt hr hx ⟨by have := chg_b (cellF (cfL (A0 2) c l) (A0 2 (18 + c) - 1) (Int.toNat dd) qq) (Int.toNat (A0 2 (18 + c))); omega, fun q => by rw [hnt, ← hn]; exact z1 q, fun q => by rw [hnt, ← hn]; exact z2 q⟩
    · skip
      skip
      have e : ¬ qq < p2 dd := fun q => c2 (yc_l.mpr (by rw [w64_id (x := qq) (by omega) (by omega), w64_id (x := p2 dd) (by omega) (by omega)]; exact q))
      exact isR_307 hg hh hK W0 hB hQ gd hlt hr hx ⟨by decide, fun q => absurd (kn (by omega)) e, fun q => absurd (kn (by omega)) e⟩
set_option maxRecDepth 20000 in
theorem isR_243 {F : FF} {A : AA} {al last r kd dd qq : Int} {hq : Int → Int} {F0 : FF} {A0 : AA} {c l n : Int} {K : KK} {V : REC} (hg : am_good qxL_isRootedK2 K V) (hh : rtH A0 c l n) (hK : ∀ G B, qW F0 G A0 B → K (some (some (vI 1))) G B) (W0 : qW F0 F A0 A) (hB : (∀ i, 0 ≤ i → i < n + 1 → A 25 i = (cfL (A0 2) c l) i)) (hQ : (∀ k, 0 ≤ k → k ≤ 2 → A 26 k = hq k)) (gd : gdR (cfL (A0 2) c l) n (A0 2 2) (kd, dd, qq)) (hlt : -1 ≤ last ∧ last < plc (kd, dd, qq)) (hr : 0 ≤ r ∧ r < 8) (hx : ∀ (F : FF) (A : AA), qW F0 F A0 A → (∀ i, 0 ≤ i → i < n + 1 → A 25 i = (cfL (A0 2) c l) i) → (∀ k, 0 ≤ k → k ≤ 2 → A 26 k = hq k) → V 190 [some (vR 0), some (vI c), some (vI l), some (vR 25), some (vI n), none, some (vI al), some (vR 26), some (vL (plc (kd, dd, qq))), none, some (vI (r + 1)), none, none, none, none, none, none, none, none, none] [] F A 2) : V 243 [some (vR 0), some (vI c), some (vI l), some (vR 25), some (vI n), none, some (vI al), some (vR 26), some (vL last), none, some (vI r), some (vI kd), some (vI dd), some (vL qq), none, some (vL (p2 dd)), none, none, none, none] [] F A 2 := by
  obtain ⟨hf, hc, hl, hn⟩ := id hh
  have hc8 := hf.1.1
  have hl6 := hf.1.2
  have hs := (hf.2.2.1 c hc.1 hc.2).1
  obtain ⟨hlm, hsm, n1, n3, hnt, h8⟩ := rt_f hf hc hl hn
  have pb := pl_b gd hlm.2
  obtain ⟨⟨d0, d1⟩, ⟨q0, q1⟩, kc, kn, z0, z1, z2⟩ := id gd
  dsimp only at pb d0 d1 q0 q1 kc kn z0 z1 z2
  have cB : ∀ (X : AA), (∀ i, 0 ≤ i → i < n + 1 → X 25 i = (cfL (A0 2) c l) i) → ∀ i m, atI (X 25) n i m = atI (cfL (A0 2) c l) n i m := fun X hX i m => atI_c n1 n3 (fun k k0 k1 => hX k k0 (by omega))
  refine hg.1 _ (am_runs (cut := (fun pc => cond (Nat.beq pc 275) (some [true, true, true, true, true, false, true, true, true, false, true, true, true, true, false, true, false, false, false, false]) (none))) (Kc := V) (fun _ _ _ _ _ _ h => h) hg 19) 243 [some (vR 0), some (vI c), some (vI l), some (vR 25), some (vI n), none, some (vI al), some (vR 26), some (vL last), none, some (vI r), some (vI kd), some (vI dd), some (vL qq), none, some (vL (p2 dd)), none, none, none, none] [] _ _ 2 ?_
  show (w32 kd = w32 0 → ((1 ≤ n ∧ n ≤ 3) ∧ ((w32 (y_cmp (atI (A 25) n qq (p2 dd)) 0) = w32 0 → (((-2147483648 ≤ 0 ∧ 0 < 2147483648)) ∧ ((w32 (if 0 = 0 ∨ 0 = 1 then A 2 (2 + 0) else -2) < w32 dd → ((0 = 0 ∨ 0 = 1) ∧ (K (some (some (vI 0))) F A))) ∧ (¬ (w32 (if 0 = 0 ∨ 0 = 1 then A 2 (2 + 0) else -2) < w32 dd) → (V 275 [some (vR 0), some (vI c), some (vI l), some (vR 25), some (vI n), none, some (vI al), some (vR 26), some (vL last), none, some (vI r), some (vI kd), some (vI dd), some (vL qq), none, some (vL (p2 dd)), none, none, none, none] [] F A 2))))) ∧ (¬ w32 (y_cmp (atI (A 25) n qq (p2 dd)) 0) = w32 0 → ((0 = 0 ∨ 0 = 1) ∧ (K (some (some (vI 0))) F A)))))) ∧ (¬ w32 kd = w32 0 → (((-2147483648 ≤ 0 ∧ 0 < 2147483648)) ∧ ((w32 (if 0 = 0 ∨ 0 = 1 then A 2 (2 + 0) else -2) < w32 dd → ((0 = 0 ∨ 0 = 1) ∧ (K (some (some (vI 0))) F A))) ∧ (¬ (w32 (if 0 = 0 ∨ 0 = 1 then A 2 (2 + 0) else -2) < w32 dd) → (V 275 [some (vR 0), some (vI c), some (vI l), some (vR 25), some (vI n), none, some (vI al), some (vR 26), some (vL last), none, some (vI r), some (vI kd), some (vI dd), some (vL qq), none, some (vL (p2 dd)), none, none, none, none] [] F A 2)))))
  refine ⟨fun c1 => ?_, fun c1 => ?_⟩
  · skip
    skip
    (try simp (disch := omega) only [w32_0, w32_id] at c1)
    refine ⟨by exact ⟨n1, n3⟩, ?_⟩
    refine ⟨fun c2 => ?_, fun c2 => ?_⟩
    · skip
      skip
      refine ⟨by decide, ?_⟩
      refine ⟨fun c3 => ?_, fun c3 => ?_⟩
      · skip
        skip
        refine ⟨by first | exact Or.inl rfl | exact Or.inr rfl, ?_⟩
        rw [gsV (qW_2 W0), w32_id (by omega) (by omega), w32_id (by omega) (by omega)] at c3; omega
      · skip
        skip
        exact isR_275 hg hh hK W0 hB hQ gd hlt hr hx
    · skip
      skip
      refine ⟨by first | exact Or.inl rfl | exact Or.inr rfl, ?_⟩
      exact (c2 (yc_t (by rw [cB _ hB]; exact z0 c1))).elim
  · skip
    skip
    (try simp (disch := omega) only [w32_0, w32_id] at c1)
    refine ⟨by decide, ?_⟩
    refine ⟨fun c2 => ?_, fun c2 => ?_⟩
    · skip
      skip
      refine ⟨by first | exact Or.inl rfl | exact Or.inr rfl, ?_⟩
      rw [gsV (qW_2 W0), w32_id (by omega) (by omega), w32_id (by omega) (by omega)] at c2; omega
    · skip
      skip
      exact isR_275 hg hh hK W0 hB hQ gd hlt hr hx
