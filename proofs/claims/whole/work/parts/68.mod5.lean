def qkX9_laysCoefficients : Nat → Option CI := fun pc => cond (Nat.ble 83 pc) none (cond (Nat.ble 41 pc) (cond (Nat.ble 61 pc) (cond (Nat.ble 69 pc) (cond (Nat.ble 76 pc) (cond (Nat.beq pc 76) (some (.iinc 6 (-1), 79, [])) (cond (Nat.beq pc 79) (some (.goto (-35), 82, [44])) (cond (Nat.beq pc 82) (some (.return_, 83, [])) (none)))) (cond (Nat.beq pc 69) (some (.goto 4, 72, [73])) (cond (Nat.beq pc 72) (some (.iconst 0, 73, [])) (cond (Nat.beq pc 73) (some (.invokevirtual 87, 76, [])) (none))))) (cond (Nat.ble 64 pc) (cond (Nat.beq pc 64) (some (.iconst 1, 65, [])) (cond (Nat.beq pc 65) (some (.if_icmp .ne 7, 68, [72])) (cond (Nat.beq pc 68) (some (.iconst 1, 69, [])) (none)))) (cond (Nat.beq pc 61) (some (.ishr, 62, [])) (cond (Nat.beq pc 62) (some (.iconst 1, 63, [])) (cond (Nat.beq pc 63) (some (.iand, 64, [])) (none)))))) (cond (Nat.ble 50 pc) (cond (Nat.ble 55 pc) (cond (Nat.beq pc 55) (some (.iload 5, 57, [])) (cond (Nat.beq pc 57) (some (.iload 4, 59, [])) (cond (Nat.beq pc 59) (some (.iload 6, 61, [])) (none)))) (cond (Nat.beq pc 50) (some (.aload_n 0, 51, [])) (cond (Nat.beq pc 51) (some (.getfield 35, 54, [])) (cond (Nat.beq pc 54) (some (.iconst 0, 55, [])) (none))))) (cond (Nat.ble 44 pc) (cond (Nat.beq pc 44) (some (.iload 6, 46, [])) (cond (Nat.beq pc 46) (some (.ifCond .lt 36, 49, [82])) (cond (Nat.beq pc 49) (some (.aload_n 0, 50, [])) (none)))) (cond (Nat.beq pc 41) (some (.isub, 42, [])) (cond (Nat.beq pc 42) (some (.istore 6, 44, [])) (none)))))) (cond (Nat.ble 21 pc) (cond (Nat.ble 31 pc) (cond (Nat.ble 36 pc) (cond (Nat.beq pc 36) (some (.goto (-26), 39, [10])) (cond (Nat.beq pc 39) (some (.iload_n 3, 40, [])) (cond (Nat.beq pc 40) (some (.iconst 1, 41, [])) (none)))) (cond (Nat.beq pc 31) (some (.i2l, 32, [])) (cond (Nat.beq pc 32) (some (.lastore, 33, [])) (cond (Nat.beq pc 33) (some (.iinc 6 1, 36, [])) (none))))) (cond (Nat.ble 25 pc) (cond (Nat.beq pc 25) (some (.iload_n 2, 26, [])) (cond (Nat.beq pc 26) (some (.iload 6, 28, [])) (cond (Nat.beq pc 28) (some (.invokevirtual 95, 31, [])) (none)))) (cond (Nat.beq pc 21) (some (.iload 6, 23, [])) (cond (Nat.beq pc 23) (some (.aload_n 0, 24, [])) (cond (Nat.beq pc 24) (some (.iload_n 1, 25, [])) (none)))))) (cond (Nat.ble 8 pc) (cond (Nat.ble 14 pc) (cond (Nat.beq pc 14) (some (.if_icmp .gt 25, 17, [39])) (cond (Nat.beq pc 17) (some (.aload_n 0, 18, [])) (cond (Nat.beq pc 18) (some (.getfield 35, 21, [])) (none)))) (cond (Nat.beq pc 8) (some (.istore 6, 10, [])) (cond (Nat.beq pc 10) (some (.iload 6, 12, [])) (cond (Nat.beq pc 12) (some (.iload 5, 14, [])) (none))))) (cond (Nat.ble 2 pc) (cond (Nat.beq pc 2) (some (.invokevirtual 80, 5, [])) (cond (Nat.beq pc 5) (some (.istore 5, 7, [])) (cond (Nat.beq pc 7) (some (.iconst 0, 8, [])) (none)))) (cond (Nat.beq pc 0) (some (.aload_n 0, 1, [])) (cond (Nat.beq pc 1) (some (.iload_n 1, 2, [])) (none)))))))
theorem qkX9_laysCoefficients_ok : ∀ pc i nx ts, qkX9_laysCoefficients pc = some (i, nx, ts) → am_cok cX9_laysCoefficients pc (i, nx, ts) = true := fun pc i nx ts h => am_tok_ok (n := 83) (by decide +kernel) (fun pc h => by show cond (Nat.ble 83 pc) _ _ = _; rw [Nat.ble_eq_true_of_le h]; rfl) h
def qaX9_laysCoefficients : Nat → Option CE := fun k => cond (Nat.beq k 80) (some qeX9_order) (cond (Nat.beq k 95) (some qeX9_coefficient0) (cond (Nat.beq k 87) (some qeX9_halves) (none)))
theorem qyX9_laysCoefficients (l : Launch) : ∀ k e1, qaX9_laysCoefficients k = some e1 → am_cal l layM RX9 5 k e1 ∧ ceT e1 = 0 := q_cons ⟨am_calV (ci := 9) (qtX9_order l) qbX9_order (by decide) rfl (am_tb_at 1659 (by decide +kernel) rfl), rfl⟩ (q_cons ⟨am_calV (ci := 9) (qtX9_coefficient0 l) qbX9_coefficient0 (by decide) rfl (am_tb_at 1778 (by decide +kernel) rfl), rfl⟩ (q_cons ⟨am_calV (ci := 9) (qtX9_halves l) qbX9_halves (by decide) rfl (am_tb_at 1703 (by decide +kernel) rfl), rfl⟩ (q_nil)))
def qxX9_laysCoefficients : CX := (qkX9_laysCoefficients, layM, qfX9, qaX9_laysCoefficients, qcX9, qlX9, qmX9, none, false, none, 0, none, fun _ => none)
theorem qzX9_laysCoefficients (l : Launch) : am_sta l qxX9_laysCoefficients RX9 5 cX9_laysCoefficients := ⟨qkX9_laysCoefficients_ok, layM_ok, qfX9_ok, qcX9_ok, qlX9_ok, am_mthP qmX9_ok (by decide), fun k e1 h => (qyX9_laysCoefficients l k e1 h).1⟩
def qsX9_laysCoefficients : SP := fun as F A K => match as with
  | [.inr (.inr o), .inl c, .inl l, .inl d, .inl q] => cond (Nat.beq o 25) ((fgOK (mF A) ∧ (0 ≤ c ∧ c < mF A 0) ∧ (0 ≤ l ∧ l < mF A 1) ∧ (0 ≤ d ∧ d ≤ 12) ∧ 0 ≤ q ∧ q < p2 d) ∧ (∀ (B_1 : AA), ((∀ b i, b ≠ 32 ∧ b ≠ 34 → B_1 b i = A b i) ∧ ∀ k, 0 ≤ k → k < mF A (18 + c) → B_1 34 k = ccX (mF A) c l (Int.toNat d) q k) → (K (some none) F B_1))) (False)
  | _ => False
def qeX9_laysCoefficients : CE := (yX9_laysCoefficients, cX9_laysCoefficients, 7, none, 4, some 9, 0, [], 0, 5, qsX9_laysCoefficients)
theorem qbX9_laysCoefficients : am_mb qeX9_laysCoefficients := ⟨am_tb_at 1790 (by decide +kernel) rfl, am_tb_at 124 (by decide +kernel) rfl, ⟨by decide, by decide, by decide +kernel⟩, by decide, by decide, am_tb_at 1789 (by decide +kernel) rfl, am_tb_at 85 (by decide +kernel) rfl, _, _, rfl⟩
def qnX9_laysCoefficients_25 : CUT := fun pc => cond (Nat.beq pc 10) (some [true, true, true, true, true, true, true]) (cond (Nat.beq pc 44) (some [true, true, true, true, true, true, true]) (none))
def qiX9_laysCoefficients_25 (c : Int) (l : Int) (d : Int) (q : Int) (F0 : FF) (A0 : AA) : REC := fun pc ls st F A u => cond (Nat.beq pc 10) (match ls, st, u with
    | [some (.inr (.inr s0)), some (.inl s1), some (.inl s2), some (.inl s3), some (.inl s4), some (.inl n), some (.inl k)], [], 0 => s0 = 25 ∧ s1 = c ∧ s2 = l ∧ s3 = d ∧ s4 = q ∧ F = F0 ∧ (n = mF A0 (18 + c) - 1 ∧ (0 ≤ k ∧ k ≤ n + 1) ∧ (∀ bb ii, bb ≠ 34 → A bb ii = A0 bb ii) ∧ ∀ ii, 0 ≤ ii → ii < k → A 34 ii = cfX (mF A0) c l ii)
    | _, _, _ => False) (cond (Nat.beq pc 44) (match ls, st, u with
    | [some (.inr (.inr s0)), some (.inl s1), some (.inl s2), some (.inl s3), some (.inl s4), some (.inl n), some (.inl j)], [], 0 => s0 = 25 ∧ s1 = c ∧ s2 = l ∧ s3 = d ∧ s4 = q ∧ F = F0 ∧ (n = mF A0 (18 + c) - 1 ∧ (-1 ≤ j ∧ j ≤ d - 1) ∧ (∀ bb ii, bb ≠ 32 ∧ bb ≠ 34 → A bb ii = A0 bb ii) ∧ ∀ kk, 0 ≤ kk → kk ≤ n → A 34 kk = ccX (mF A0) c l (Int.toNat (d - 1 - j)) (q / p2 (j + 1)) kk)
    | _, _, _ => False) (False))
def quX9_laysCoefficients_25 : Nat → LVs → List AV → FF → AA → Nat := fun pc ls _ F A => cond (Nat.beq pc 10) (match ls with
    | [some (.inr (.inr s0)), some (.inl s1), some (.inl s2), some (.inl s3), some (.inl s4), some (.inl n), some (.inl k)] => Int.toNat (100 - k)
    | _ => 0) (cond (Nat.beq pc 44) (match ls with
    | [some (.inr (.inr s0)), some (.inl s1), some (.inl s2), some (.inl s3), some (.inl s4), some (.inl n), some (.inl j)] => Int.toNat (j + 1)
    | _ => 0) (0))
set_option maxRecDepth 20000 in
theorem qvX9_laysCoefficients_25_0 (c : Int) (l : Int) (d : Int) (q : Int) (F0 : FF) (A0 : AA) (K : KK) (h : (fgOK (mF A0) ∧ (0 ≤ c ∧ c < mF A0 0) ∧ (0 ≤ l ∧ l < mF A0 1) ∧ (0 ≤ d ∧ d ≤ 12) ∧ 0 ≤ q ∧ q < p2 d) ∧ (∀ (B_1 : AA), ((∀ b i, b ≠ 32 ∧ b ≠ 34 → B_1 b i = A0 b i) ∧ ∀ k, 0 ≤ k → k < mF A0 (18 + c) → B_1 34 k = ccX (mF A0) c l (Int.toNat d) q k) → (K (some none) F0 B_1))) : am_stp qxX9_laysCoefficients (am_run qxX9_laysCoefficients qnX9_laysCoefficients_25 (qiX9_laysCoefficients_25 c l d q F0 A0) K 22) K 0 (am_ent [vR 25, vI c, vI l, vI d, vI q] 7) [] F0 A0 0 := by
  show am_stp qxX9_laysCoefficients (am_run qxX9_laysCoefficients qnX9_laysCoefficients_25 (qiX9_laysCoefficients_25 c l d q F0 A0) K 22) K 0 [some (vR 25), some (vI c), some (vI l), some (vI d), some (vI q), none, none] [] F0 A0 0
  obtain ⟨hp, h⟩ := h
  obtain ⟨p1, p2', p3, p4, p5⟩ := hp
  have q1 := p1.1.1
  have q2 := p1.1.2
  have q3 := (p1.2.2.1 c p2'.1 p2'.2).1
  have pd := p2_12' p4.2
  show (0 ≤ c ∧ c < 8) ∧ (25 = 25 ∧ c = c ∧ l = l ∧ d = d ∧ q = q ∧ F0 = F0 ∧ ((mF A0 (18 + c) - 1) = mF A0 (18 + c) - 1 ∧ (0 ≤ 0 ∧ 0 ≤ (mF A0 (18 + c) - 1) + 1) ∧ (∀ bb ii, bb ≠ 34 → A0 bb ii = A0 bb ii) ∧ ∀ ii, 0 ≤ ii → ii < 0 → A0 34 ii = cfX (mF A0) c l ii))
  refine ⟨by omega, ?_⟩
  refine ⟨rfl, rfl, rfl, rfl, rfl, rfl, ?_⟩
  exact ⟨rfl, by omega, fun _ _ _ => rfl, fun i i0 i1 => by omega⟩
set_option maxRecDepth 20000 in
theorem qvX9_laysCoefficients_25_10 (c : Int) (l : Int) (d : Int) (q : Int) (F0 : FF) (A0 : AA) (K : KK) (h : (fgOK (mF A0) ∧ (0 ≤ c ∧ c < mF A0 0) ∧ (0 ≤ l ∧ l < mF A0 1) ∧ (0 ≤ d ∧ d ≤ 12) ∧ 0 ≤ q ∧ q < p2 d) ∧ (∀ (B_1 : AA), ((∀ b i, b ≠ 32 ∧ b ≠ 34 → B_1 b i = A0 b i) ∧ ∀ k, 0 ≤ k → k < mF A0 (18 + c) → B_1 34 k = ccX (mF A0) c l (Int.toNat d) q k) → (K (some none) F0 B_1))) (n : Int) (k : Int) (A : AA) (hi : n = mF A0 (18 + c) - 1 ∧ (0 ≤ k ∧ k ≤ n + 1) ∧ (∀ bb ii, bb ≠ 34 → A bb ii = A0 bb ii) ∧ ∀ ii, 0 ≤ ii → ii < k → A 34 ii = cfX (mF A0) c l ii) : am_stp qxX9_laysCoefficients (am_run qxX9_laysCoefficients qnX9_laysCoefficients_25 (fun pc ls st F9 A9 u => qiX9_laysCoefficients_25 c l d q F0 A0 pc ls st F9 A9 u ∧ quX9_laysCoefficients_25 pc ls st F9 A9 < quX9_laysCoefficients_25 10 [some (vR 25), some (vI c), some (vI l), some (vI d), some (vI q), some (vI n), some (vI k)] [] F0 A) K 22) K 10 [some (vR 25), some (vI c), some (vI l), some (vI d), some (vI q), some (vI n), some (vI k)] [] F0 A 0 := by
  obtain ⟨hp, h⟩ := h
  obtain ⟨p1, p2', p3, p4, p5⟩ := hp
  have q1 := p1.1.1
  have q2 := p1.1.2
  have q3 := (p1.2.2.1 c p2'.1 p2'.2).1
  have pd := p2_12' p4.2
  obtain ⟨h1, h2, hF, hC⟩ := hi
  have eF : mF A = mF A0 := mF_c (funext fun i => hF 2 i (by decide)) (funext fun i => hF 27 i (by decide)) (funext fun i => hF 29 i (by decide))
  show (w32 n < w32 k → ((25 = 25 ∧ c = c ∧ l = l ∧ d = d ∧ q = q ∧ F0 = F0 ∧ (n = mF A0 (18 + c) - 1 ∧ (-1 ≤ (d - 1) ∧ (d - 1) ≤ d - 1) ∧ (∀ bb ii, bb ≠ 32 ∧ bb ≠ 34 → A bb ii = A0 bb ii) ∧ ∀ kk, 0 ≤ kk → kk ≤ n → A 34 kk = ccX (mF A0) c l (Int.toNat (d - 1 - (d - 1))) (q / p2 ((d - 1) + 1)) kk)) ∧ (Int.toNat ((d - 1) + 1)) < (Int.toNat (100 - k)))) ∧ (¬ w32 n < w32 k → (((0 ≤ c ∧ c < 8) ∧ (0 ≤ l ∧ l < 6) ∧ 0 ≤ k ∧ k < 4) ∧ ((0 ≤ w32 k ∧ w32 k < 4) ∧ ((25 = 25 ∧ c = c ∧ l = l ∧ d = d ∧ q = q ∧ F0 = F0 ∧ (n = mF A0 (18 + c) - 1 ∧ (0 ≤ (k + 1) ∧ (k + 1) ≤ n + 1) ∧ (∀ bb ii, bb ≠ 34 → (upA A 34 (w32 k) (w32 (cfR (mF A) c l k))) bb ii = A0 bb ii) ∧ ∀ ii, 0 ≤ ii → ii < (k + 1) → (upA A 34 (w32 k) (w32 (cfR (mF A) c l k))) 34 ii = cfX (mF A0) c l ii)) ∧ (Int.toNat (100 - (k + 1))) < (Int.toNat (100 - k))))))
  refine ⟨fun c1 => ?_, fun c1 => ?_⟩
  · skip
    (try rw [eF] at c1); (try simp (disch := omega) only [w32_0, w32_id] at c1)
    refine ⟨⟨rfl, rfl, rfl, rfl, rfl, rfl, ?_⟩, by omega⟩
    refine ⟨h1, by omega, fun b i hb => hF b i hb.2, fun k9 k0 k1 => ?_⟩
    rw [hC k9 k0 (by omega), show Int.toNat (d - 1 - (d - 1)) = 0 by omega]
    rfl
  · skip
    (try rw [eF] at c1); (try simp (disch := omega) only [w32_0, w32_id] at c1)
    refine ⟨by first | omega | (rw [w32_id (by omega) (by omega)]; omega) | exact ⟨by omega, by omega, by omega⟩, ?_⟩
    refine ⟨by first | omega | (rw [w32_id (by omega) (by omega)]; omega) | exact ⟨by omega, by omega, by omega⟩, ?_⟩
    refine ⟨⟨rfl, rfl, rfl, rfl, rfl, rfl, ?_⟩, by omega⟩
    rw [eF, w32_id (x := k) (by omega) (by omega)]
    refine ⟨h1, by omega, fun b i hb => by rw [upA_k hb]; exact hF b i hb, fun i i0 i1 => ?_⟩
    by_cases e : i = k
    · rw [e, upA_s]; rfl
    · rw [upA_o e]; exact hC i i0 (by omega)
set_option maxRecDepth 20000 in
theorem qvX9_laysCoefficients_25_44 (c : Int) (l : Int) (d : Int) (q : Int) (F0 : FF) (A0 : AA) (K : KK) (h : (fgOK (mF A0) ∧ (0 ≤ c ∧ c < mF A0 0) ∧ (0 ≤ l ∧ l < mF A0 1) ∧ (0 ≤ d ∧ d ≤ 12) ∧ 0 ≤ q ∧ q < p2 d) ∧ (∀ (B_1 : AA), ((∀ b i, b ≠ 32 ∧ b ≠ 34 → B_1 b i = A0 b i) ∧ ∀ k, 0 ≤ k → k < mF A0 (18 + c) → B_1 34 k = ccX (mF A0) c l (Int.toNat d) q k) → (K (some none) F0 B_1))) (n : Int) (j : Int) (A : AA) (hi : n = mF A0 (18 + c) - 1 ∧ (-1 ≤ j ∧ j ≤ d - 1) ∧ (∀ bb ii, bb ≠ 32 ∧ bb ≠ 34 → A bb ii = A0 bb ii) ∧ ∀ kk, 0 ≤ kk → kk ≤ n → A 34 kk = ccX (mF A0) c l (Int.toNat (d - 1 - j)) (q / p2 (j + 1)) kk) : am_stp qxX9_laysCoefficients (am_run qxX9_laysCoefficients qnX9_laysCoefficients_25 (fun pc ls st F9 A9 u => qiX9_laysCoefficients_25 c l d q F0 A0 pc ls st F9 A9 u ∧ quX9_laysCoefficients_25 pc ls st F9 A9 < quX9_laysCoefficients_25 44 [some (vR 25), some (vI c), some (vI l), some (vI d), some (vI q), some (vI n), some (vI j)] [] F0 A) K 22) K 44 [some (vR 25), some (vI c), some (vI l), some (vI d), some (vI q), some (vI n), some (vI j)] [] F0 A 0 := by
  obtain ⟨hp, h⟩ := h
  obtain ⟨p1, p2', p3, p4, p5⟩ := hp
  have q1 := p1.1.1
  have q2 := p1.1.2
  have q3 := (p1.2.2.1 c p2'.1 p2'.2).1
  have pd := p2_12' p4.2
  obtain ⟨h1, h2, hF, hC⟩ := hi
  have eF : mF A = mF A0 := mF_c (funext fun i => hF 2 i (by decide)) (funext fun i => hF 27 i (by decide)) (funext fun i => hF 29 i (by decide))
  have hb := fun (k9 : Int) (k0 : 0 ≤ k9) (k1 : k9 ≤ n) (hd : 0 ≤ j) => ccX_b11 (d := Int.toNat (d - 1 - j)) (q := q / p2 (j + 1)) p1 (by omega) p2'.1 p2'.2 p3.1 p3.2 k0 (show k9 < mF A0 (18 + c) by omega)
  show (w32 j < w32 0 → (K (some none) F0 A)) ∧ (¬ w32 j < w32 0 → ((w32 (x_and (x_shr q j) 1) = w32 1 → ((((0 ≤ n ∧ n ≤ 3) ∧ (1 = 0 ∨ 1 = 1)) ∧ (0 ≤ 0 ∧ 0 + 4 ≤ 4) ∧ ∀ i, 0 ≤ i → i ≤ n → -1125899906842624 ≤ A 34 (0 + i) ∧ A 34 (0 + i) ≤ 1125899906842624) ∧ (∀ (B_1 : AA), ((∀ b i, b ≠ 32 ∧ (b ≠ 34 ∨ i < 0 ∨ 0 + n < i) → B_1 b i = A b i) ∧ ∀ k, 0 ≤ k → k ≤ n → B_1 34 (0 + k) = hv (fun xx => A 34 (0 + xx)) n 1 k) → ((25 = 25 ∧ c = c ∧ l = l ∧ d = d ∧ q = q ∧ F0 = F0 ∧ (n = mF A0 (18 + c) - 1 ∧ (-1 ≤ (j + (-1)) ∧ (j + (-1)) ≤ d - 1) ∧ (∀ bb ii, bb ≠ 32 ∧ bb ≠ 34 → B_1 bb ii = A0 bb ii) ∧ ∀ kk, 0 ≤ kk → kk ≤ n → B_1 34 kk = ccX (mF A0) c l (Int.toNat (d - 1 - (j + (-1)))) (q / p2 ((j + (-1)) + 1)) kk)) ∧ (Int.toNat ((j + (-1)) + 1)) < (Int.toNat (j + 1)))))) ∧ (¬ w32 (x_and (x_shr q j) 1) = w32 1 → ((((0 ≤ n ∧ n ≤ 3) ∧ (0 = 0 ∨ 0 = 1)) ∧ (0 ≤ 0 ∧ 0 + 4 ≤ 4) ∧ ∀ i, 0 ≤ i → i ≤ n → -1125899906842624 ≤ A 34 (0 + i) ∧ A 34 (0 + i) ≤ 1125899906842624) ∧ (∀ (B_1 : AA), ((∀ b i, b ≠ 32 ∧ (b ≠ 34 ∨ i < 0 ∨ 0 + n < i) → B_1 b i = A b i) ∧ ∀ k, 0 ≤ k → k ≤ n → B_1 34 (0 + k) = hv (fun xx => A 34 (0 + xx)) n 0 k) → ((25 = 25 ∧ c = c ∧ l = l ∧ d = d ∧ q = q ∧ F0 = F0 ∧ (n = mF A0 (18 + c) - 1 ∧ (-1 ≤ (j + (-1)) ∧ (j + (-1)) ≤ d - 1) ∧ (∀ bb ii, bb ≠ 32 ∧ bb ≠ 34 → B_1 bb ii = A0 bb ii) ∧ ∀ kk, 0 ≤ kk → kk ≤ n → B_1 34 kk = ccX (mF A0) c l (Int.toNat (d - 1 - (j + (-1)))) (q / p2 ((j + (-1)) + 1)) kk)) ∧ (Int.toNat ((j + (-1)) + 1)) < (Int.toNat (j + 1))))))))
  refine ⟨fun c1 => ?_, fun c1 => ?_⟩
  · skip
    (try rw [w32_id (x := j) (by omega) (by omega)] at c1); (try simp only [w32_0] at c1)
    have ej : j = -1 := by omega
    subst ej
    refine h _ ⟨hF, fun k9 k0 k1 => ?_⟩
    rw [hC k9 k0 (by omega), show Int.toNat (d - 1 - -1) = Int.toNat d by omega, show (-1 : Int) + 1 = 0 by omega, p2_0, Int.ediv_one]
  · skip
    (try rw [w32_id (x := j) (by omega) (by omega)] at c1); (try simp only [w32_0] at c1)
    refine ⟨fun c2 => ?_, fun c2 => ?_⟩
    · skip
      (try rw [w32_id (x := j) (by omega) (by omega)] at c2); (try simp only [w32_0] at c2)
      refine ⟨by (refine ⟨⟨by omega, by omega⟩, ⟨by omega, by omega⟩, fun i i0 i1 => ?_⟩; rw [Int.zero_add, hC i i0 i1]; exact hb i i0 i1 (by omega)), ?_⟩
      intro B_1 g1
      refine ⟨⟨rfl, rfl, rfl, rfl, rfl, rfl, ?_⟩, by omega⟩
      obtain ⟨g2, g3⟩ := g1
      have xb : x_and (x_shr q j) 1 = q / p2 j % 2 := by rw [x_and1, x_shrp (by omega) (by omega) (by omega) (by omega)]
      rw [xb] at c2
      have hz : q / p2 j % 2 = 1 := by have w1 : w32 1 = 1 := rfl; rw [w32_id (by omega) (by omega)] at c2; first | exact c2 | omega
      refine ⟨h1, by omega, fun b i hb => (g2 b i ⟨hb.1, Or.inl hb.2⟩).trans (hF b i hb), fun k k0 k1 => ?_⟩
      have g4 := g3 k k0 k1
      rw [Int.zero_add] at g4
      rw [g4, show Int.toNat (d - 1 - (j + -1)) = Int.toNat (d - 1 - j) + 1 by omega, ccX_s, show j + -1 + 1 = j by omega, bq (by omega), hz, ← h1]
      exact hv_c (fun i i0 i1 => by rw [Int.zero_add]; exact hC i i0 i1) k0 k1
    · skip
      (try rw [w32_id (x := j) (by omega) (by omega)] at c2); (try simp only [w32_0] at c2)
      refine ⟨by (refine ⟨⟨by omega, by omega⟩, ⟨by omega, by omega⟩, fun i i0 i1 => ?_⟩; rw [Int.zero_add, hC i i0 i1]; exact hb i i0 i1 (by omega)), ?_⟩
      intro B_1 g1
      refine ⟨⟨rfl, rfl, rfl, rfl, rfl, rfl, ?_⟩, by omega⟩
      obtain ⟨g2, g3⟩ := g1
      have xb : x_and (x_shr q j) 1 = q / p2 j % 2 := by rw [x_and1, x_shrp (by omega) (by omega) (by omega) (by omega)]
      rw [xb] at c2
      have hz : q / p2 j % 2 = 0 := by have w1 : w32 1 = 1 := rfl; rw [w32_id (by omega) (by omega)] at c2; first | exact c2 | omega
      refine ⟨h1, by omega, fun b i hb => (g2 b i ⟨hb.1, Or.inl hb.2⟩).trans (hF b i hb), fun k k0 k1 => ?_⟩
      have g4 := g3 k k0 k1
      rw [Int.zero_add] at g4
      rw [g4, show Int.toNat (d - 1 - (j + -1)) = Int.toNat (d - 1 - j) + 1 by omega, ccX_s, show j + -1 + 1 = j by omega, bq (by omega), hz, ← h1]
      exact hv_c (fun i i0 i1 => by rw [Int.zero_add]; exact hC i i0 i1) k0 k1
set_option maxRecDepth 20000 in
theorem qvX9_laysCoefficients_25 (c : Int) (l : Int) (d : Int) (q : Int) (F0 : FF) (A0 : AA) (K : KK) (h : (fgOK (mF A0) ∧ (0 ≤ c ∧ c < mF A0 0) ∧ (0 ≤ l ∧ l < mF A0 1) ∧ (0 ≤ d ∧ d ≤ 12) ∧ 0 ≤ q ∧ q < p2 d) ∧ (∀ (B_1 : AA), ((∀ b i, b ≠ 32 ∧ b ≠ 34 → B_1 b i = A0 b i) ∧ ∀ k, 0 ≤ k → k < mF A0 (18 + c) → B_1 34 k = ccX (mF A0) c l (Int.toNat d) q k) → (K (some none) F0 B_1))) : am_body qxX9_laysCoefficients qnX9_laysCoefficients_25 22 (qiX9_laysCoefficients_25 c l d q F0 A0) quX9_laysCoefficients_25 [vR 25, vI c, vI l, vI d, vI q] 7 F0 A0 K := by
  refine ⟨qvX9_laysCoefficients_25_0 c l d q F0 A0 K h, fun pc ls st F A u hI => ?_⟩
  unfold qiX9_laysCoefficients_25 at hI
  replace hI := am_cond2 hI
  rcases hI with ⟨hb, hI⟩ | hI
  · have hb := am_bq hb
    subst hb
    split at hI
    · rename_i s0 s1 s2 s3 s4 n k
      obtain ⟨e0, e1, e2, e3, e4, e5, hI⟩ := hI
      subst e0
      subst e1
      subst e2
      subst e3
      subst e4
      subst e5
      exact qvX9_laysCoefficients_25_10 _ _ _ _ _ _ K h _ _ _ hI
    · exact hI.elim
  replace hI := am_cond2 hI
  rcases hI with ⟨hb, hI⟩ | hI
  · have hb := am_bq hb
    subst hb
    split at hI
    · rename_i s0 s1 s2 s3 s4 n j
      obtain ⟨e0, e1, e2, e3, e4, e5, hI⟩ := hI
      subst e0
      subst e1
      subst e2
      subst e3
      subst e4
      subst e5
      exact qvX9_laysCoefficients_25_44 _ _ _ _ _ _ K h _ _ _ hI
    · exact hI.elim
  exact hI.elim
theorem qtX9_laysCoefficients (l : Launch) : am_CT l layM qeX9_laysCoefficients := am_met0 rfl (by decide +kernel) rfl rfl rfl rfl rfl (fun _ => rfl) rfl (qzX9_laysCoefficients l) (fun k e1 h => (qyX9_laysCoefficients l k e1 h).2) (fun as F A K h => by
  replace h : qsX9_laysCoefficients as F A K := h
  unfold qsX9_laysCoefficients at h
  split at h
  · rename_i o c l d q
    refine ⟨by first | exact Nat.le_of_ble_eq_true rfl | simp [am_fl, am_cat], ?_⟩
    replace h := am_cond2 h
    rcases h with ⟨hb, h⟩ | h
    · skip
      have hb0 := hb
      have hb0 := am_bq hb0
      subst hb0
      exact am_way_body (qvX9_laysCoefficients_25 c l d q F A K h)
    exact h.elim
  · exact h.elim)
