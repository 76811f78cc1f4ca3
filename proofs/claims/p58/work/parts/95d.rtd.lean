set_option maxRecDepth 20000 in
theorem isR_190 {al : Int} {F0 : FF} {A0 : AA} {c l n : Int} {K : KK} {V : REC} (hg : am_good qxL_isRootedK2 K V) (hh : rtH A0 c l n) (hK : ∀ G B, qW F0 G A0 B → K (some (some (vI 1))) G B) (hal : al = ((rtsX (A0 2) c l).length : Int)) (hza : ¬ azP (cfL (A0 2) c l) (Int.toNat (A0 2 (18 + c)))) : ∀ (j : Nat) (last r : Int) (F : FF) (A : AA), Int.toNat (al + 1 - r) ≤ j → (qW F0 F A0 A ∧ (∀ i, 0 ≤ i → i < n + 1 → A 25 i = (cfL (A0 2) c l) i) ∧ (∀ k, 0 ≤ k → k ≤ 2 → A 26 k = cntK (ktF (rtsX (A0 2) c l)) k (Int.toNat r)) ∧ (0 ≤ r ∧ r ≤ al) ∧ last = lstF (rtsX (A0 2) c l) r) → V 190 [some (vR 0), some (vI c), some (vI l), some (vR 25), some (vI n), none, some (vI al), some (vR 26), some (vL last), none, some (vI r), none, none, none, none, none, none, none, none, none] [] F A 2
  | 0, last, r, F, A, hj, hi => by
    obtain ⟨W0, hB, hQ, hr, hla⟩ := hi
    omega
  | j + 1, last, r, F, A, hj, hi => by
    obtain ⟨W0, hB, hQ, hr, hla⟩ := hi
    obtain ⟨hf, hc, hl, hn⟩ := id hh
    have hc8 := hf.1.1
    have hl6 := hf.1.2
    have hs := (hf.2.2.1 c hc.1 hc.2).1
    obtain ⟨hlm, hsm, n1, n3, hnt, h8⟩ := rt_f hf hc hl hn
    refine hg.1 _ (am_runs (cut := (fun pc => cond (Nat.beq pc 243) (some [true, true, true, true, true, false, true, true, true, false, true, true, true, true, false, true, false, false, false, false]) (cond (Nat.beq pc 384) (some [true, true, true, true, true, false, true, true, false, false, false, false, false, false, false, false, false, false, false, false]) (none)))) (Kc := V) (fun _ _ _ _ _ _ h => h) hg 36) 190 [some (vR 0), some (vI c), some (vI l), some (vR 25), some (vI n), none, some (vI al), some (vR 26), some (vL last), none, some (vI r), none, none, none, none, none, none, none, none, none] [] _ _ 2 ?_
    show (w32 r < w32 al → ((((0 ≤ c ∧ c < A 2 0) ∧ 0 ≤ l ∧ l < A 2 1) ∧ fgOK (A 2) ∧ (-2147483648 ≤ c ∧ c < 2147483648) ∧ (-2147483648 ≤ l ∧ l < 2147483648) ∧ (-2147483648 ≤ r ∧ r < 2147483648) ∧ rtB (A 2)) ∧ (∀ (G_1 : FF) (B_1 : AA), (qrP F G_1 A B_1) → ((((0 ≤ c ∧ c < B_1 2 0) ∧ 0 ≤ l ∧ l < B_1 2 1) ∧ fgOK (B_1 2) ∧ (-2147483648 ≤ c ∧ c < 2147483648) ∧ (-2147483648 ≤ l ∧ l < 2147483648) ∧ (-2147483648 ≤ r ∧ r < 2147483648) ∧ rtB (B_1 2)) ∧ (∀ (G_2 : FF) (B_2 : AA), (qrP G_1 G_2 B_1 B_2) → ((((0 ≤ c ∧ c < B_2 2 0) ∧ 0 ≤ l ∧ l < B_2 2 1) ∧ fgOK (B_2 2) ∧ (-2147483648 ≤ c ∧ c < 2147483648) ∧ (-2147483648 ≤ l ∧ l < 2147483648) ∧ (-2147483648 ≤ r ∧ r < 2147483648) ∧ rtB (B_2 2)) ∧ (∀ (G_3 : FF) (B_3 : AA), (qrP G_2 G_3 B_2 B_3) → ((0 ≤ w32 (if 0 ≤ r ∧ r < ((rtsX (A 2) c l).length : Int) then ((rtsX (A 2) c l).getD (Int.toNat r) (0, 0, 0)).1 else -1) ∧ w32 (if 0 ≤ r ∧ r < ((rtsX (A 2) c l).length : Int) then ((rtsX (A 2) c l).getD (Int.toNat r) (0, 0, 0)).1 else -1) < 3) ∧ ((0 ≤ w32 (if 0 ≤ r ∧ r < ((rtsX (A 2) c l).length : Int) then ((rtsX (A 2) c l).getD (Int.toNat r) (0, 0, 0)).1 else -1) ∧ w32 (if 0 ≤ r ∧ r < ((rtsX (A 2) c l).length : Int) then ((rtsX (A 2) c l).getD (Int.toNat r) (0, 0, 0)).1 else -1) < 3) ∧ (V 243 [some (vR 0), some (vI c), some (vI l), some (vR 25), some (vI n), none, some (vI al), some (vR 26), some (vL last), none, some (vI r), some (vI (if 0 ≤ r ∧ r < ((rtsX (A 2) c l).length : Int) then ((rtsX (A 2) c l).getD (Int.toNat r) (0, 0, 0)).1 else -1)), some (vI (if 0 ≤ r ∧ r < ((rtsX (B_1 2) c l).length : Int) then ((rtsX (B_1 2) c l).getD (Int.toNat r) (0, 0, 0)).2.1 else -1)), some (vL (w32 (if 0 ≤ r ∧ r < ((rtsX (B_2 2) c l).length : Int) then ((rtsX (B_2 2) c l).getD (Int.toNat r) (0, 0, 0)).2.2 else -1))), none, some (vL (y_shl 1 (if 0 ≤ r ∧ r < ((rtsX (B_1 2) c l).length : Int) then ((rtsX (B_1 2) c l).getD (Int.toNat r) (0, 0, 0)).2.1 else -1))), none, none, none, none] [] G_3 (upA B_3 26 (w32 (if 0 ≤ r ∧ r < ((rtsX (A 2) c l).length : Int) then ((rtsX (A 2) c l).getD (Int.toNat r) (0, 0, 0)).1 else -1)) ((B_3 26 (w32 (if 0 ≤ r ∧ r < ((rtsX (A 2) c l).length : Int) then ((rtsX (A 2) c l).getD (Int.toNat r) (0, 0, 0)).1 else -1))) + 1)) 2)))))))))) ∧ (¬ w32 r < w32 al → (V 384 [some (vR 0), some (vI c), some (vI l), some (vR 25), some (vI n), none, some (vI al), some (vR 26), none, none, none, none, none, none, none, none, none, none, none, none] [] F A 2))
    refine ⟨fun c1 => ?_, fun c1 => ?_⟩
    · skip
      skip
      (try simp (disch := omega) only [w32_0, w32_id] at c1)
      have hrl : r < ((rtsX (A0 2) c l).length : Int) := by omega
      obtain ⟨gd, hl1, hl2⟩ := rt_at hf hc hl hn hr.1 hrl
      have pb := pl_b gd hlm.2
      obtain ⟨⟨d0, d1⟩, ⟨q0, q1⟩, kc, -⟩ := id gd
      have wk : w32 ((rtsX (A0 2) c l).getD (Int.toNat r) (0, 0, 0)).1 = ((rtsX (A0 2) c l).getD (Int.toNat r) (0, 0, 0)).1 := w32_id (by omega) (by omega)
      have wq : w32 ((rtsX (A0 2) c l).getD (Int.toNat r) (0, 0, 0)).2.2 = ((rtsX (A0 2) c l).getD (Int.toNat r) (0, 0, 0)).2.2 := w32_id (by omega) (by omega)
      refine ⟨by exact ⟨(by rw [qW_2 W0]; exact ⟨hc, hl⟩), (by rw [qW_2 W0]; exact hf), (by omega), (by omega), (by omega), (by rw [qW_2 W0]; exact RTB_T _ hf)⟩, ?_⟩
      intro G_1 B_1 g1
      have W1 := qW_q W0 g1
      refine ⟨by exact ⟨(by rw [qW_2 W1]; exact ⟨hc, hl⟩), (by rw [qW_2 W1]; exact hf), (by omega), (by omega), (by omega), (by rw [qW_2 W1]; exact RTB_T _ hf)⟩, ?_⟩
      intro G_2 B_2 g2
      have W2 := qW_q W1 g2
      refine ⟨by exact ⟨(by rw [qW_2 W2]; exact ⟨hc, hl⟩), (by rw [qW_2 W2]; exact hf), (by omega), (by omega), (by omega), (by rw [qW_2 W2]; exact RTB_T _ hf)⟩, ?_⟩
      intro G_3 B_3 g3
      have W3 := qW_q W2 g3
      refine ⟨by rw [rkV (qW_2 W0) ⟨hr.1, by omega⟩, wk]; omega, ?_⟩
      refine ⟨by rw [rkV (qW_2 W0) ⟨hr.1, by omega⟩, wk]; omega, ?_⟩
      rw [rkV (qW_2 W0) ⟨hr.1, by omega⟩, rdV (qW_2 W1) ⟨hr.1, by omega⟩, rqV (qW_2 W2) ⟨hr.1, by omega⟩, wk, wq, y_shlp d0 (by omega) (by decide) (by decide), Int.one_mul]
      refine isR_243 hg hh hK (hq := fun k => cntK (ktF (rtsX (A0 2) c l)) k (Int.toNat (r + 1))) (qW_up W3 (by decide)) (rowU (by decide) (rowQ (by decide) g3 (rowQ (by decide) g2 (rowQ (by decide) g1 hB)))) (fun k k0 k1 => ?_) gd (by rw [hla]; exact ⟨hl1, hl2⟩) ⟨hr.1, by omega⟩ (fun F A w b q => isR_190 hg hh hK hal hza j (plc ((rtsX (A0 2) c l).getD (Int.toNat r) (0, 0, 0))) (r + 1) F A (by omega) ⟨w, b, q, by omega, (lst_s hr.1).symm⟩)
      rw [kt_s hr.1]
      have h26 : ∀ i, B_3 26 i = A 26 i := fun i => (g3.2.1 26 i (by omega)).trans ((g2.2.1 26 i (by omega)).trans (g1.2.1 26 i (by omega)))
      by_cases e : ((rtsX (A0 2) c l).getD (Int.toNat r) (0, 0, 0)).1 = k
      · rw [if_pos e, e, upA_s, h26, hQ k k0 k1]
      · rw [if_neg e, upA_o (fun z => e z.symm), h26, hQ k k0 k1]
    · skip
      skip
      (try simp (disch := omega) only [w32_0, w32_id] at c1)
      exact isR_384 hg hh hK hal hza W0 hB (fun k k0 k1 => by rw [hQ k k0 k1, show Int.toNat r = (rtsX (A0 2) c l).length by omega])
set_option maxRecDepth 20000 in
theorem isR_180 {F : FF} {A : AA} {al : Int} {F0 : FF} {A0 : AA} {c l n : Int} {K : KK} {V : REC} (hg : am_good qxL_isRootedK2 K V) (hh : rtH A0 c l n) (hK : ∀ G B, qW F0 G A0 B → K (some (some (vI 1))) G B) (hal : al = ((rtsX (A0 2) c l).length : Int)) (hza : ¬ azP (cfL (A0 2) c l) (Int.toNat (A0 2 (18 + c)))) (W0 : qW F0 F A0 A) (hB : (∀ i, 0 ≤ i → i < n + 1 → A 25 i = (cfL (A0 2) c l) i)) (h26 : ∀ i, A 26 i = 0) : V 180 [some (vR 0), some (vI c), some (vI l), some (vR 25), some (vI n), some (vI 0), some (vI al), none, none, none, none, none, none, none, none, none, none, none, none, none] [vR 26] F A 2 := by
  refine hg.1 _ (am_runs (cut := (fun pc => cond (Nat.beq pc 190) (some [true, true, true, true, true, false, true, true, true, false, true, false, false, false, false, false, false, false, false, false]) (none))) (Kc := V) (fun _ _ _ _ _ _ h => h) hg 8) 180 [some (vR 0), some (vI c), some (vI l), some (vR 25), some (vI n), some (vI 0), some (vI al), none, none, none, none, none, none, none, none, none, none, none, none, none] [vR 26] _ _ 2 ?_
  show V 190 [some (vR 0), some (vI c), some (vI l), some (vR 25), some (vI n), none, some (vI al), some (vR 26), some (vL (-1)), none, some (vI 0), none, none, none, none, none, none, none, none, none] [] F A 2
  exact isR_190 hg hh hK hal hza _ (-1) 0 _ _ (Nat.le_refl _) ⟨W0, hB, fun k k0 k1 => h26 k, by omega, rfl⟩
