def qkX9_laysCell : Nat → Option CI := fun pc => cond (Nat.ble 151 pc) none (cond (Nat.ble 69 pc) (cond (Nat.ble 107 pc) (cond (Nat.ble 127 pc) (cond (Nat.ble 135 pc) (cond (Nat.ble 144 pc) (cond (Nat.beq pc 144) (some (.iinc 5 (-1), 147, [])) (cond (Nat.beq pc 147) (some (.goto (-56), 150, [91])) (cond (Nat.beq pc 150) (some (.return_, 151, [])) (none)))) (cond (Nat.beq pc 135) (some (.invokevirtual 87, 138, [])) (cond (Nat.beq pc 138) (some (.iinc 7 1, 141, [])) (cond (Nat.beq pc 141) (some (.goto (-25), 144, [116])) (none))))) (cond (Nat.ble 130 pc) (cond (Nat.beq pc 130) (some (.imul, 131, [])) (cond (Nat.beq pc 131) (some (.iload 4, 133, [])) (cond (Nat.beq pc 133) (some (.iload 6, 135, [])) (none)))) (cond (Nat.beq pc 127) (some (.iconst 4, 128, [])) (cond (Nat.beq pc 128) (some (.iload 7, 130, [])) (none))))) (cond (Nat.ble 116 pc) (cond (Nat.ble 122 pc) (cond (Nat.beq pc 122) (some (.aload_n 0, 123, [])) (cond (Nat.beq pc 123) (some (.aload_n 0, 124, [])) (cond (Nat.beq pc 124) (some (.getfield 32, 127, [])) (none)))) (cond (Nat.beq pc 116) (some (.iload 7, 118, [])) (cond (Nat.beq pc 118) (some (.iconst 3, 119, [])) (cond (Nat.beq pc 119) (some (.if_icmp .ge 25, 122, [144])) (none))))) (cond (Nat.ble 111 pc) (cond (Nat.beq pc 111) (some (.istore 6, 113, [])) (cond (Nat.beq pc 113) (some (.iconst 0, 114, [])) (cond (Nat.beq pc 114) (some (.istore 7, 116, [])) (none)))) (cond (Nat.beq pc 107) (some (.goto 4, 110, [111])) (cond (Nat.beq pc 110) (some (.iconst 0, 111, [])) (none)))))) (cond (Nat.ble 89 pc) (cond (Nat.ble 99 pc) (cond (Nat.ble 102 pc) (cond (Nat.beq pc 102) (some (.iconst 1, 103, [])) (cond (Nat.beq pc 103) (some (.if_icmp .ne 7, 106, [110])) (cond (Nat.beq pc 106) (some (.iconst 1, 107, [])) (none)))) (cond (Nat.beq pc 99) (some (.ishr, 100, [])) (cond (Nat.beq pc 100) (some (.iconst 1, 101, [])) (cond (Nat.beq pc 101) (some (.iand, 102, [])) (none))))) (cond (Nat.ble 93 pc) (cond (Nat.beq pc 93) (some (.ifCond .lt 57, 96, [150])) (cond (Nat.beq pc 96) (some (.iload_n 3, 97, [])) (cond (Nat.beq pc 97) (some (.iload 5, 99, [])) (none)))) (cond (Nat.beq pc 89) (some (.istore 5, 91, [])) (cond (Nat.beq pc 91) (some (.iload 5, 93, [])) (none))))) (cond (Nat.ble 79 pc) (cond (Nat.ble 86 pc) (cond (Nat.beq pc 86) (some (.iload_n 2, 87, [])) (cond (Nat.beq pc 87) (some (.iconst 1, 88, [])) (cond (Nat.beq pc 88) (some (.isub, 89, [])) (none)))) (cond (Nat.beq pc 79) (some (.lastore, 80, [])) (cond (Nat.beq pc 80) (some (.iinc 5 1, 83, [])) (cond (Nat.beq pc 83) (some (.goto (-73), 86, [10])) (none))))) (cond (Nat.ble 74 pc) (cond (Nat.beq pc 74) (some (.iload 5, 76, [])) (cond (Nat.beq pc 76) (some (.iadd, 77, [])) (cond (Nat.beq pc 77) (some (.lload 6, 79, [])) (none)))) (cond (Nat.beq pc 69) (some (.getfield 32, 72, [])) (cond (Nat.beq pc 72) (some (.bipush 8, 74, [])) (none))))))) (cond (Nat.ble 37 pc) (cond (Nat.ble 54 pc) (cond (Nat.ble 61 pc) (cond (Nat.ble 66 pc) (cond (Nat.beq pc 66) (some (.lmul, 67, [])) (cond (Nat.beq pc 67) (some (.lastore, 68, [])) (cond (Nat.beq pc 68) (some (.aload_n 0, 69, [])) (none)))) (cond (Nat.beq pc 61) (some (.iconst 1, 62, [])) (cond (Nat.beq pc 62) (some (.invokevirtual 83, 65, [])) (cond (Nat.beq pc 65) (some (.i2l, 66, [])) (none))))) (cond (Nat.ble 57 pc) (cond (Nat.beq pc 57) (some (.aload_n 0, 58, [])) (cond (Nat.beq pc 58) (some (.iload_n 1, 59, [])) (cond (Nat.beq pc 59) (some (.iload 5, 61, [])) (none)))) (cond (Nat.beq pc 54) (some (.iadd, 55, [])) (cond (Nat.beq pc 55) (some (.lload 6, 57, [])) (none))))) (cond (Nat.ble 45 pc) (cond (Nat.ble 48 pc) (cond (Nat.beq pc 48) (some (.getfield 32, 51, [])) (cond (Nat.beq pc 51) (some (.iconst 4, 52, [])) (cond (Nat.beq pc 52) (some (.iload 5, 54, [])) (none)))) (cond (Nat.beq pc 45) (some (.lmul, 46, [])) (cond (Nat.beq pc 46) (some (.lastore, 47, [])) (cond (Nat.beq pc 47) (some (.aload_n 0, 48, [])) (none))))) (cond (Nat.ble 40 pc) (cond (Nat.beq pc 40) (some (.iconst 0, 41, [])) (cond (Nat.beq pc 41) (some (.invokevirtual 83, 44, [])) (cond (Nat.beq pc 44) (some (.i2l, 45, [])) (none)))) (cond (Nat.beq pc 37) (some (.iload_n 1, 38, [])) (cond (Nat.beq pc 38) (some (.iload 5, 40, [])) (none)))))) (cond (Nat.ble 18 pc) (cond (Nat.ble 26 pc) (cond (Nat.ble 32 pc) (cond (Nat.beq pc 32) (some (.iload 5, 34, [])) (cond (Nat.beq pc 34) (some (.lload 6, 36, [])) (cond (Nat.beq pc 36) (some (.aload_n 0, 37, [])) (none)))) (cond (Nat.beq pc 26) (some (.lstore 6, 28, [])) (cond (Nat.beq pc 28) (some (.aload_n 0, 29, [])) (cond (Nat.beq pc 29) (some (.getfield 32, 32, [])) (none))))) (cond (Nat.ble 21 pc) (cond (Nat.beq pc 21) (some (.iconst 2, 22, [])) (cond (Nat.beq pc 22) (some (.invokevirtual 83, 25, [])) (cond (Nat.beq pc 25) (some (.i2l, 26, [])) (none)))) (cond (Nat.beq pc 18) (some (.iload_n 1, 19, [])) (cond (Nat.beq pc 19) (some (.iload 5, 21, [])) (none))))) (cond (Nat.ble 8 pc) (cond (Nat.ble 12 pc) (cond (Nat.beq pc 12) (some (.iload 4, 14, [])) (cond (Nat.beq pc 14) (some (.if_icmp .gt 72, 17, [86])) (cond (Nat.beq pc 17) (some (.aload_n 0, 18, [])) (none)))) (cond (Nat.beq pc 8) (some (.istore 5, 10, [])) (cond (Nat.beq pc 10) (some (.iload 5, 12, [])) (none)))) (cond (Nat.ble 2 pc) (cond (Nat.beq pc 2) (some (.invokevirtual 80, 5, [])) (cond (Nat.beq pc 5) (some (.istore 4, 7, [])) (cond (Nat.beq pc 7) (some (.iconst 0, 8, [])) (none)))) (cond (Nat.beq pc 0) (some (.aload_n 0, 1, [])) (cond (Nat.beq pc 1) (some (.iload_n 1, 2, [])) (none))))))))
theorem qkX9_laysCell_ok : ∀ pc i nx ts, qkX9_laysCell pc = some (i, nx, ts) → am_cok cX9_laysCell pc (i, nx, ts) = true := fun pc i nx ts h => am_tok_ok (n := 151) (by decide +kernel) (fun pc h => by show cond (Nat.ble 151 pc) _ _ = _; rw [Nat.ble_eq_true_of_le h]; rfl) h
def qaX9_laysCell : Nat → Option CE := fun k => cond (Nat.beq k 80) (some qeX9_order) (cond (Nat.beq k 83) (some qeX9_point) (cond (Nat.beq k 87) (some qeX9_halves) (none)))
theorem qyX9_laysCell (l : Launch) : ∀ k e1, qaX9_laysCell k = some e1 → am_cal l layM RX9 5 k e1 ∧ ceT e1 = 0 := q_cons ⟨am_calV (ci := 9) (qtX9_order l) qbX9_order (by decide) rfl (am_tb_at 1659 (by decide +kernel) rfl), rfl⟩ (q_cons ⟨am_calV (ci := 9) (qtX9_point l) qbX9_point (by decide) rfl (am_tb_at 1675 (by decide +kernel) rfl), rfl⟩ (q_cons ⟨am_calV (ci := 9) (qtX9_halves l) qbX9_halves (by decide) rfl (am_tb_at 1703 (by decide +kernel) rfl), rfl⟩ (q_nil)))
def qxX9_laysCell : CX := (qkX9_laysCell, layM, qfX9, qaX9_laysCell, qcX9, qlX9, qmX9, none, false, none, 0, none, fun _ => none)
theorem qzX9_laysCell (l : Launch) : am_sta l qxX9_laysCell RX9 5 cX9_laysCell := ⟨qkX9_laysCell_ok, layM_ok, qfX9_ok, qcX9_ok, qlX9_ok, am_mthP qmX9_ok (by decide), fun k e1 h => (qyX9_laysCell l k e1 h).1⟩
def qsX9_laysCell : SP := fun as F A K => match as with
  | [.inr (.inr o), .inl c, .inl d, .inl q] => cond (Nat.beq o 25) ((fgOK (mF A) ∧ (0 ≤ c ∧ c < mF A 0) ∧ (0 ≤ d ∧ d ≤ 6) ∧ 0 ≤ q ∧ q < p2 d) ∧ (∀ (B_1 : AA), ((∀ b i, b ≠ 32 ∧ b ≠ 33 → B_1 b i = A b i) ∧ ∀ w k, 0 ≤ w → w ≤ 2 → 0 ≤ k → k < mF A (18 + c) → B_1 33 (4 * w + k) = ceX (mF A) c (Int.toNat d) q w k) → (K (some none) F B_1))) (False)
  | _ => False
def qeX9_laysCell : CE := (yX9_laysCell, cX9_laysCell, 8, none, 3, some 9, 0, [], 0, 5, qsX9_laysCell)
theorem qbX9_laysCell : am_mb qeX9_laysCell := ⟨am_tb_at 1702 (by decide +kernel) rfl, am_tb_at 124 (by decide +kernel) rfl, ⟨by decide, by decide, by decide +kernel⟩, by decide, by decide, am_tb_at 1701 (by decide +kernel) rfl, am_tb_at 73 (by decide +kernel) rfl, _, _, rfl⟩
def qnX9_laysCell_25 : CUT := fun pc => cond (Nat.beq pc 10) (some [true, true, true, true, true, true, false, false]) (cond (Nat.beq pc 91) (some [true, true, true, true, true, true, false, false]) (cond (Nat.beq pc 116) (some [true, true, true, true, true, true, true, true]) (none)))
def qiX9_laysCell_25 (c : Int) (d : Int) (q : Int) (F0 : FF) (A0 : AA) : REC := fun pc ls st F A u => cond (Nat.beq pc 10) (match ls, st, u with
    | [some (.inr (.inr s0)), some (.inl s1), some (.inl s2), some (.inl s3), some (.inl n), some (.inl k), none, none], [], 0 => s0 = 25 ∧ s1 = c ∧ s2 = d ∧ s3 = q ∧ F = F0 ∧ (n = mF A0 (18 + c) - 1 ∧ (0 ≤ k ∧ k ≤ n + 1) ∧ (∀ bb ii, bb ≠ 33 → A bb ii = A0 bb ii) ∧ ∀ ww kk, 0 ≤ ww → ww ≤ 2 → 0 ≤ kk → kk < k → A 33 (4 * ww + kk) = hmX (mF A0) c kk ww)
    | _, _, _ => False) (cond (Nat.beq pc 91) (match ls, st, u with
    | [some (.inr (.inr s0)), some (.inl s1), some (.inl s2), some (.inl s3), some (.inl n), some (.inl j), none, none], [], 0 => s0 = 25 ∧ s1 = c ∧ s2 = d ∧ s3 = q ∧ F = F0 ∧ (n = mF A0 (18 + c) - 1 ∧ (-1 ≤ j ∧ j ≤ d - 1) ∧ (∀ bb ii, bb ≠ 32 ∧ bb ≠ 33 → A bb ii = A0 bb ii) ∧ ∀ ww kk, 0 ≤ ww → ww ≤ 2 → 0 ≤ kk → kk ≤ n → A 33 (4 * ww + kk) = ceX (mF A0) c (Int.toNat (d - 1 - j)) (q / p2 (j + 1)) ww kk)
    | _, _, _ => False) (cond (Nat.beq pc 116) (match ls, st, u with
    | [some (.inr (.inr s0)), some (.inl s1), some (.inl s2), some (.inl s3), some (.inl n), some (.inl j), some (.inl z), some (.inl w)], [], 0 => s0 = 25 ∧ s1 = c ∧ s2 = d ∧ s3 = q ∧ F = F0 ∧ (n = mF A0 (18 + c) - 1 ∧ (0 ≤ j ∧ j ≤ d - 1) ∧ (0 ≤ w ∧ w ≤ 3) ∧ z = q / p2 j % 2 ∧ (∀ bb ii, bb ≠ 32 ∧ bb ≠ 33 → A bb ii = A0 bb ii) ∧ (∀ ww kk, 0 ≤ ww → ww < w → 0 ≤ kk → kk ≤ n → A 33 (4 * ww + kk) = hv (fun xx => ceX (mF A0) c (Int.toNat (d - 1 - j)) (q / p2 (j + 1)) ww xx) n z kk) ∧ ∀ ww kk, w ≤ ww → ww ≤ 2 → 0 ≤ kk → kk ≤ n → A 33 (4 * ww + kk) = ceX (mF A0) c (Int.toNat (d - 1 - j)) (q / p2 (j + 1)) ww kk)
    | _, _, _ => False) (False)))
def quX9_laysCell_25 : Nat → LVs → List AV → FF → AA → Nat := fun pc ls _ F A => cond (Nat.beq pc 10) (match ls with
    | [some (.inr (.inr s0)), some (.inl s1), some (.inl s2), some (.inl s3), some (.inl n), some (.inl k), none, none] => Int.toNat (1000 - k)
    | _ => 0) (cond (Nat.beq pc 91) (match ls with
    | [some (.inr (.inr s0)), some (.inl s1), some (.inl s2), some (.inl s3), some (.inl n), some (.inl j), none, none] => Int.toNat (10 * (j + 1))
    | _ => 0) (cond (Nat.beq pc 116) (match ls with
    | [some (.inr (.inr s0)), some (.inl s1), some (.inl s2), some (.inl s3), some (.inl n), some (.inl j), some (.inl z), some (.inl w)] => Int.toNat (10 * (j + 1) - 1 - w)
    | _ => 0) (0)))
set_option maxRecDepth 20000 in
theorem qvX9_laysCell_25_0 (c : Int) (d : Int) (q : Int) (F0 : FF) (A0 : AA) (K : KK) (h : (fgOK (mF A0) ∧ (0 ≤ c ∧ c < mF A0 0) ∧ (0 ≤ d ∧ d ≤ 6) ∧ 0 ≤ q ∧ q < p2 d) ∧ (∀ (B_1 : AA), ((∀ b i, b ≠ 32 ∧ b ≠ 33 → B_1 b i = A0 b i) ∧ ∀ w k, 0 ≤ w → w ≤ 2 → 0 ≤ k → k < mF A0 (18 + c) → B_1 33 (4 * w + k) = ceX (mF A0) c (Int.toNat d) q w k) → (K (some none) F0 B_1))) : am_stp qxX9_laysCell (am_run qxX9_laysCell qnX9_laysCell_25 (qiX9_laysCell_25 c d q F0 A0) K 48) K 0 (am_ent [vR 25, vI c, vI d, vI q] 8) [] F0 A0 0 := by
  show am_stp qxX9_laysCell (am_run qxX9_laysCell qnX9_laysCell_25 (qiX9_laysCell_25 c d q F0 A0) K 48) K 0 [some (vR 25), some (vI c), some (vI d), some (vI q), none, none, none, none] [] F0 A0 0
  obtain ⟨hp, h⟩ := h
  obtain ⟨p1, p2', p4, p5⟩ := hp
  have q1 := p1.1.1
  have q2 := p1.1.2
  have q3 := (p1.2.2.1 c p2'.1 p2'.2).1
  have pd := p2_le p4.2
  rw [p2_6] at pd
  show (0 ≤ c ∧ c < 8) ∧ (25 = 25 ∧ c = c ∧ d = d ∧ q = q ∧ F0 = F0 ∧ ((mF A0 (18 + c) - 1) = mF A0 (18 + c) - 1 ∧ (0 ≤ 0 ∧ 0 ≤ (mF A0 (18 + c) - 1) + 1) ∧ (∀ bb ii, bb ≠ 33 → A0 bb ii = A0 bb ii) ∧ ∀ ww kk, 0 ≤ ww → ww ≤ 2 → 0 ≤ kk → kk < 0 → A0 33 (4 * ww + kk) = hmX (mF A0) c kk ww))
  refine ⟨by omega, ?_⟩
  refine ⟨rfl, rfl, rfl, rfl, rfl, ?_⟩
  exact ⟨rfl, by omega, fun _ _ _ => rfl, fun ww kk _ _ _ _ => by omega⟩
set_option maxRecDepth 20000 in
theorem qvX9_laysCell_25_10 (c : Int) (d : Int) (q : Int) (F0 : FF) (A0 : AA) (K : KK) (h : (fgOK (mF A0) ∧ (0 ≤ c ∧ c < mF A0 0) ∧ (0 ≤ d ∧ d ≤ 6) ∧ 0 ≤ q ∧ q < p2 d) ∧ (∀ (B_1 : AA), ((∀ b i, b ≠ 32 ∧ b ≠ 33 → B_1 b i = A0 b i) ∧ ∀ w k, 0 ≤ w → w ≤ 2 → 0 ≤ k → k < mF A0 (18 + c) → B_1 33 (4 * w + k) = ceX (mF A0) c (Int.toNat d) q w k) → (K (some none) F0 B_1))) (n : Int) (k : Int) (A : AA) (hi : n = mF A0 (18 + c) - 1 ∧ (0 ≤ k ∧ k ≤ n + 1) ∧ (∀ bb ii, bb ≠ 33 → A bb ii = A0 bb ii) ∧ ∀ ww kk, 0 ≤ ww → ww ≤ 2 → 0 ≤ kk → kk < k → A 33 (4 * ww + kk) = hmX (mF A0) c kk ww) : am_stp qxX9_laysCell (am_run qxX9_laysCell qnX9_laysCell_25 (fun pc ls st F9 A9 u => qiX9_laysCell_25 c d q F0 A0 pc ls st F9 A9 u ∧ quX9_laysCell_25 pc ls st F9 A9 < quX9_laysCell_25 10 [some (vR 25), some (vI c), some (vI d), some (vI q), some (vI n), some (vI k), none, none] [] F0 A) K 48) K 10 [some (vR 25), some (vI c), some (vI d), some (vI q), some (vI n), some (vI k), none, none] [] F0 A 0 := by
  obtain ⟨hp, h⟩ := h
  obtain ⟨p1, p2', p4, p5⟩ := hp
  have q1 := p1.1.1
  have q2 := p1.1.2
  have q3 := (p1.2.2.1 c p2'.1 p2'.2).1
  have pd := p2_le p4.2
  rw [p2_6] at pd
  obtain ⟨h1, h2, hF, hC⟩ := hi
  have eF : mF A = mF A0 := mF_c (funext fun i => hF 2 i (by decide)) (funext fun i => hF 27 i (by decide)) (funext fun i => hF 29 i (by decide))
  show (w32 n < w32 k → ((25 = 25 ∧ c = c ∧ d = d ∧ q = q ∧ F0 = F0 ∧ (n = mF A0 (18 + c) - 1 ∧ (-1 ≤ (d - 1) ∧ (d - 1) ≤ d - 1) ∧ (∀ bb ii, bb ≠ 32 ∧ bb ≠ 33 → A bb ii = A0 bb ii) ∧ ∀ ww kk, 0 ≤ ww → ww ≤ 2 → 0 ≤ kk → kk ≤ n → A 33 (4 * ww + kk) = ceX (mF A0) c (Int.toNat (d - 1 - (d - 1))) (q / p2 ((d - 1) + 1)) ww kk)) ∧ (Int.toNat (10 * ((d - 1) + 1))) < (Int.toNat (1000 - k)))) ∧ (¬ w32 n < w32 k → (((0 ≤ c ∧ c < 8) ∧ (0 ≤ k ∧ k < 4) ∧ 0 ≤ 2 ∧ 2 ≤ 2) ∧ (((0 ≤ c ∧ c < 8) ∧ (0 ≤ k ∧ k < 4) ∧ 0 ≤ 0 ∧ 0 ≤ 2) ∧ ((0 ≤ w32 k ∧ w32 k < 12) ∧ (((0 ≤ c ∧ c < 8) ∧ (0 ≤ k ∧ k < 4) ∧ 0 ≤ 1 ∧ 1 ≤ 2) ∧ ((0 ≤ w32 (4 + k) ∧ w32 (4 + k) < 12) ∧ ((0 ≤ w32 (8 + k) ∧ w32 (8 + k) < 12) ∧ ((25 = 25 ∧ c = c ∧ d = d ∧ q = q ∧ F0 = F0 ∧ (n = mF A0 (18 + c) - 1 ∧ (0 ≤ (k + 1) ∧ (k + 1) ≤ n + 1) ∧ (∀ bb ii, bb ≠ 33 → (upA (upA (upA A 33 (w32 k) ((w32 (pxF (mF A) c k 2)) * (w32 (pxF (mF A) c k 0)))) 33 (w32 (4 + k)) ((w32 (pxF (mF A) c k 2)) * (w32 (pxF (mF (upA A 33 (w32 k) ((w32 (pxF (mF A) c k 2)) * (w32 (pxF (mF A) c k 0))))) c k 1)))) 33 (w32 (8 + k)) (w32 (pxF (mF A) c k 2))) bb ii = A0 bb ii) ∧ ∀ ww kk, 0 ≤ ww → ww ≤ 2 → 0 ≤ kk → kk < (k + 1) → (upA (upA (upA A 33 (w32 k) ((w32 (pxF (mF A) c k 2)) * (w32 (pxF (mF A) c k 0)))) 33 (w32 (4 + k)) ((w32 (pxF (mF A) c k 2)) * (w32 (pxF (mF (upA A 33 (w32 k) ((w32 (pxF (mF A) c k 2)) * (w32 (pxF (mF A) c k 0))))) c k 1)))) 33 (w32 (8 + k)) (w32 (pxF (mF A) c k 2))) 33 (4 * ww + kk) = hmX (mF A0) c kk ww)) ∧ (Int.toNat (1000 - (k + 1))) < (Int.toNat (1000 - k))))))))))
  refine ⟨fun c1 => ?_, fun c1 => ?_⟩
  · skip
    (try rw [eF] at c1); (try simp (disch := omega) only [w32_0, w32_id] at c1)
    refine ⟨⟨rfl, rfl, rfl, rfl, rfl, ?_⟩, by omega⟩
    refine ⟨h1, by omega, fun b i hb => hF b i hb.2, fun ww kk w0 w1 k0 k1 => ?_⟩
    rw [hC ww kk w0 w1 k0 (by omega), show Int.toNat (d - 1 - (d - 1)) = 0 by omega]
    rfl
  · skip
    (try rw [eF] at c1); (try simp (disch := omega) only [w32_0, w32_id] at c1)
    refine ⟨by first | omega | (rw [w32_id (by omega) (by omega)]; omega) | exact ⟨by omega, by omega, by omega⟩, ?_⟩
    refine ⟨by first | omega | (rw [w32_id (by omega) (by omega)]; omega) | exact ⟨by omega, by omega, by omega⟩, ?_⟩
    refine ⟨by first | omega | (rw [w32_id (by omega) (by omega)]; omega) | exact ⟨by omega, by omega, by omega⟩, ?_⟩
    refine ⟨by first | omega | (rw [w32_id (by omega) (by omega)]; omega) | exact ⟨by omega, by omega, by omega⟩, ?_⟩
    refine ⟨by first | omega | (rw [w32_id (by omega) (by omega)]; omega) | exact ⟨by omega, by omega, by omega⟩, ?_⟩
    refine ⟨by first | omega | (rw [w32_id (by omega) (by omega)]; omega) | exact ⟨by omega, by omega, by omega⟩, ?_⟩
    refine ⟨⟨rfl, rfl, rfl, rfl, rfl, ?_⟩, by omega⟩
    rw [mF_up (by decide), eF]
    simp (disch := omega) only [w32_id (x := k), w32_id (x := 4 + k), w32_id (x := 8 + k)]
    refine ⟨h1, by omega, fun b i hb => by rw [upA_k hb, upA_k hb, upA_k hb]; exact hF b i hb, fun ww kk w0 w1 k0 k1 => ?_⟩
    have hm0 := hm_mul (w := 0) p1 p2'.1 p2'.2 h2.1 (show k < mF A0 (18 + c) by omega) (by omega) (by omega)
    have hm1 := hm_mul (w := 1) p1 p2'.1 p2'.2 h2.1 (show k < mF A0 (18 + c) by omega) (by omega) (by omega)
    by_cases e : kk = k
    · subst e
      rcases (show ww = 0 ∨ ww = 1 ∨ ww = 2 by omega) with rfl | rfl | rfl
      · rw [upA_o (by omega), upA_o (by omega), show 4 * (0 : Int) + kk = kk by omega, upA_s]; exact hm0
      · rw [upA_o (by omega), show 4 * (1 : Int) + kk = 4 + kk by omega, upA_s]; exact hm1
      · rw [show 4 * (2 : Int) + kk = 8 + kk by omega, upA_s]; exact hm_w
    · rw [upA_o (by omega), upA_o (by omega), upA_o (by omega)]; exact hC ww kk w0 w1 k0 (by omega)
set_option maxRecDepth 20000 in
theorem qvX9_laysCell_25_91 (c : Int) (d : Int) (q : Int) (F0 : FF) (A0 : AA) (K : KK) (h : (fgOK (mF A0) ∧ (0 ≤ c ∧ c < mF A0 0) ∧ (0 ≤ d ∧ d ≤ 6) ∧ 0 ≤ q ∧ q < p2 d) ∧ (∀ (B_1 : AA), ((∀ b i, b ≠ 32 ∧ b ≠ 33 → B_1 b i = A0 b i) ∧ ∀ w k, 0 ≤ w → w ≤ 2 → 0 ≤ k → k < mF A0 (18 + c) → B_1 33 (4 * w + k) = ceX (mF A0) c (Int.toNat d) q w k) → (K (some none) F0 B_1))) (n : Int) (j : Int) (A : AA) (hi : n = mF A0 (18 + c) - 1 ∧ (-1 ≤ j ∧ j ≤ d - 1) ∧ (∀ bb ii, bb ≠ 32 ∧ bb ≠ 33 → A bb ii = A0 bb ii) ∧ ∀ ww kk, 0 ≤ ww → ww ≤ 2 → 0 ≤ kk → kk ≤ n → A 33 (4 * ww + kk) = ceX (mF A0) c (Int.toNat (d - 1 - j)) (q / p2 (j + 1)) ww kk) : am_stp qxX9_laysCell (am_run qxX9_laysCell qnX9_laysCell_25 (fun pc ls st F9 A9 u => qiX9_laysCell_25 c d q F0 A0 pc ls st F9 A9 u ∧ quX9_laysCell_25 pc ls st F9 A9 < quX9_laysCell_25 91 [some (vR 25), some (vI c), some (vI d), some (vI q), some (vI n), some (vI j), none, none] [] F0 A) K 48) K 91 [some (vR 25), some (vI c), some (vI d), some (vI q), some (vI n), some (vI j), none, none] [] F0 A 0 := by
  obtain ⟨hp, h⟩ := h
  obtain ⟨p1, p2', p4, p5⟩ := hp
  have q1 := p1.1.1
  have q2 := p1.1.2
  have q3 := (p1.2.2.1 c p2'.1 p2'.2).1
  have pd := p2_le p4.2
  rw [p2_6] at pd
  obtain ⟨h1, h2, hF, hC⟩ := hi
  show (w32 j < w32 0 → (K (some none) F0 A)) ∧ (¬ w32 j < w32 0 → ((w32 (x_and (x_shr q j) 1) = w32 1 → ((25 = 25 ∧ c = c ∧ d = d ∧ q = q ∧ F0 = F0 ∧ (n = mF A0 (18 + c) - 1 ∧ (0 ≤ j ∧ j ≤ d - 1) ∧ (0 ≤ 0 ∧ 0 ≤ 3) ∧ 1 = q / p2 j % 2 ∧ (∀ bb ii, bb ≠ 32 ∧ bb ≠ 33 → A bb ii = A0 bb ii) ∧ (∀ ww kk, 0 ≤ ww → ww < 0 → 0 ≤ kk → kk ≤ n → A 33 (4 * ww + kk) = hv (fun xx => ceX (mF A0) c (Int.toNat (d - 1 - j)) (q / p2 (j + 1)) ww xx) n 1 kk) ∧ ∀ ww kk, 0 ≤ ww → ww ≤ 2 → 0 ≤ kk → kk ≤ n → A 33 (4 * ww + kk) = ceX (mF A0) c (Int.toNat (d - 1 - j)) (q / p2 (j + 1)) ww kk)) ∧ (Int.toNat (10 * (j + 1) - 1 - 0)) < (Int.toNat (10 * (j + 1))))) ∧ (¬ w32 (x_and (x_shr q j) 1) = w32 1 → ((25 = 25 ∧ c = c ∧ d = d ∧ q = q ∧ F0 = F0 ∧ (n = mF A0 (18 + c) - 1 ∧ (0 ≤ j ∧ j ≤ d - 1) ∧ (0 ≤ 0 ∧ 0 ≤ 3) ∧ 0 = q / p2 j % 2 ∧ (∀ bb ii, bb ≠ 32 ∧ bb ≠ 33 → A bb ii = A0 bb ii) ∧ (∀ ww kk, 0 ≤ ww → ww < 0 → 0 ≤ kk → kk ≤ n → A 33 (4 * ww + kk) = hv (fun xx => ceX (mF A0) c (Int.toNat (d - 1 - j)) (q / p2 (j + 1)) ww xx) n 0 kk) ∧ ∀ ww kk, 0 ≤ ww → ww ≤ 2 → 0 ≤ kk → kk ≤ n → A 33 (4 * ww + kk) = ceX (mF A0) c (Int.toNat (d - 1 - j)) (q / p2 (j + 1)) ww kk)) ∧ (Int.toNat (10 * (j + 1) - 1 - 0)) < (Int.toNat (10 * (j + 1)))))))
  refine ⟨fun c1 => ?_, fun c1 => ?_⟩
  · skip
    (try rw [w32_id (x := j) (by omega) (by omega)] at c1); (try simp only [w32_0] at c1)
    have ej : j = -1 := by omega
    subst ej
    refine h _ ⟨hF, fun w9 k9 w0 w1 k0 k1 => ?_⟩
    rw [hC w9 k9 w0 w1 k0 (by omega), show Int.toNat (d - 1 - -1) = Int.toNat d by omega, show (-1 : Int) + 1 = 0 by omega, p2_0, Int.ediv_one]
  · skip
    (try rw [w32_id (x := j) (by omega) (by omega)] at c1); (try simp only [w32_0] at c1)
    refine ⟨fun c2 => ?_, fun c2 => ?_⟩
    · skip
      (try rw [w32_id (x := j) (by omega) (by omega)] at c2); (try simp only [w32_0] at c2)
      refine ⟨⟨rfl, rfl, rfl, rfl, rfl, ?_⟩, by omega⟩
      have xb : x_and (x_shr q j) 1 = q / p2 j % 2 := by rw [x_and1, x_shrp (by omega) (by omega) (by omega) (by omega)]
      rw [xb] at c2
      have hz : q / p2 j % 2 = 1 := by have w1 : w32 1 = 1 := rfl; rw [w32_id (by omega) (by omega)] at c2; first | exact c2 | omega
      exact ⟨h1, by omega, by omega, hz.symm, hF, fun ww kk w0 w1 k0 k1 => by omega, fun ww kk w0 w1 k0 k1 => hC ww kk (by omega) w1 k0 k1⟩
    · skip
      (try rw [w32_id (x := j) (by omega) (by omega)] at c2); (try simp only [w32_0] at c2)
      refine ⟨⟨rfl, rfl, rfl, rfl, rfl, ?_⟩, by omega⟩
      have xb : x_and (x_shr q j) 1 = q / p2 j % 2 := by rw [x_and1, x_shrp (by omega) (by omega) (by omega) (by omega)]
      rw [xb] at c2
      have hz : q / p2 j % 2 = 0 := by have w1 : w32 1 = 1 := rfl; rw [w32_id (by omega) (by omega)] at c2; first | exact c2 | omega
      exact ⟨h1, by omega, by omega, hz.symm, hF, fun ww kk w0 w1 k0 k1 => by omega, fun ww kk w0 w1 k0 k1 => hC ww kk (by omega) w1 k0 k1⟩
set_option maxRecDepth 20000 in
theorem qvX9_laysCell_25_116 (c : Int) (d : Int) (q : Int) (F0 : FF) (A0 : AA) (K : KK) (h : (fgOK (mF A0) ∧ (0 ≤ c ∧ c < mF A0 0) ∧ (0 ≤ d ∧ d ≤ 6) ∧ 0 ≤ q ∧ q < p2 d) ∧ (∀ (B_1 : AA), ((∀ b i, b ≠ 32 ∧ b ≠ 33 → B_1 b i = A0 b i) ∧ ∀ w k, 0 ≤ w → w ≤ 2 → 0 ≤ k → k < mF A0 (18 + c) → B_1 33 (4 * w + k) = ceX (mF A0) c (Int.toNat d) q w k) → (K (some none) F0 B_1))) (n : Int) (j : Int) (z : Int) (w : Int) (A : AA) (hi : n = mF A0 (18 + c) - 1 ∧ (0 ≤ j ∧ j ≤ d - 1) ∧ (0 ≤ w ∧ w ≤ 3) ∧ z = q / p2 j % 2 ∧ (∀ bb ii, bb ≠ 32 ∧ bb ≠ 33 → A bb ii = A0 bb ii) ∧ (∀ ww kk, 0 ≤ ww → ww < w → 0 ≤ kk → kk ≤ n → A 33 (4 * ww + kk) = hv (fun xx => ceX (mF A0) c (Int.toNat (d - 1 - j)) (q / p2 (j + 1)) ww xx) n z kk) ∧ ∀ ww kk, w ≤ ww → ww ≤ 2 → 0 ≤ kk → kk ≤ n → A 33 (4 * ww + kk) = ceX (mF A0) c (Int.toNat (d - 1 - j)) (q / p2 (j + 1)) ww kk) : am_stp qxX9_laysCell (am_run qxX9_laysCell qnX9_laysCell_25 (fun pc ls st F9 A9 u => qiX9_laysCell_25 c d q F0 A0 pc ls st F9 A9 u ∧ quX9_laysCell_25 pc ls st F9 A9 < quX9_laysCell_25 116 [some (vR 25), some (vI c), some (vI d), some (vI q), some (vI n), some (vI j), some (vI z), some (vI w)] [] F0 A) K 48) K 116 [some (vR 25), some (vI c), some (vI d), some (vI q), some (vI n), some (vI j), some (vI z), some (vI w)] [] F0 A 0 := by
  obtain ⟨hp, h⟩ := h
  obtain ⟨p1, p2', p4, p5⟩ := hp
  have q1 := p1.1.1
  have q2 := p1.1.2
  have q3 := (p1.2.2.1 c p2'.1 p2'.2).1
  have pd := p2_le p4.2
  rw [p2_6] at pd
  obtain ⟨h1, h2, h3, h4, hF, hD, hC⟩ := hi
  have eF : mF A = mF A0 := mF_c (funext fun i => hF 2 i (by decide)) (funext fun i => hF 27 i (by decide)) (funext fun i => hF 29 i (by decide))
  have hb := fun (ww k9 : Int) (w0 : 0 ≤ ww) (w1 : ww ≤ 2) (k0 : 0 ≤ k9) (k1 : k9 ≤ n) => ceX_b (d := Int.toNat (d - 1 - j)) (q := q / p2 (j + 1)) p1 (by omega) p2'.1 p2'.2 k0 (show k9 < mF A0 (18 + c) by omega) w0 w1
  show (w32 w < w32 3 → ((((0 ≤ n ∧ n ≤ 3) ∧ (z = 0 ∨ z = 1)) ∧ (0 ≤ (4 * w) ∧ (4 * w) + 4 ≤ 12) ∧ ∀ i, 0 ≤ i → i ≤ n → -1125899906842624 ≤ A 33 ((4 * w) + i) ∧ A 33 ((4 * w) + i) ≤ 1125899906842624) ∧ (∀ (B_1 : AA), ((∀ b i, b ≠ 32 ∧ (b ≠ 33 ∨ i < (4 * w) ∨ (4 * w) + n < i) → B_1 b i = A b i) ∧ ∀ k, 0 ≤ k → k ≤ n → B_1 33 ((4 * w) + k) = hv (fun xx => A 33 ((4 * w) + xx)) n z k) → ((25 = 25 ∧ c = c ∧ d = d ∧ q = q ∧ F0 = F0 ∧ (n = mF A0 (18 + c) - 1 ∧ (0 ≤ j ∧ j ≤ d - 1) ∧ (0 ≤ (w + 1) ∧ (w + 1) ≤ 3) ∧ z = q / p2 j % 2 ∧ (∀ bb ii, bb ≠ 32 ∧ bb ≠ 33 → B_1 bb ii = A0 bb ii) ∧ (∀ ww kk, 0 ≤ ww → ww < (w + 1) → 0 ≤ kk → kk ≤ n → B_1 33 (4 * ww + kk) = hv (fun xx => ceX (mF A0) c (Int.toNat (d - 1 - j)) (q / p2 (j + 1)) ww xx) n z kk) ∧ ∀ ww kk, (w + 1) ≤ ww → ww ≤ 2 → 0 ≤ kk → kk ≤ n → B_1 33 (4 * ww + kk) = ceX (mF A0) c (Int.toNat (d - 1 - j)) (q / p2 (j + 1)) ww kk)) ∧ (Int.toNat (10 * (j + 1) - 1 - (w + 1))) < (Int.toNat (10 * (j + 1) - 1 - w)))))) ∧ (¬ w32 w < w32 3 → ((25 = 25 ∧ c = c ∧ d = d ∧ q = q ∧ F0 = F0 ∧ (n = mF A0 (18 + c) - 1 ∧ (-1 ≤ (j + (-1)) ∧ (j + (-1)) ≤ d - 1) ∧ (∀ bb ii, bb ≠ 32 ∧ bb ≠ 33 → A bb ii = A0 bb ii) ∧ ∀ ww kk, 0 ≤ ww → ww ≤ 2 → 0 ≤ kk → kk ≤ n → A 33 (4 * ww + kk) = ceX (mF A0) c (Int.toNat (d - 1 - (j + (-1)))) (q / p2 ((j + (-1)) + 1)) ww kk)) ∧ (Int.toNat (10 * ((j + (-1)) + 1))) < (Int.toNat (10 * (j + 1) - 1 - w))))
  refine ⟨fun c1 => ?_, fun c1 => ?_⟩
  · skip
    (try simp (disch := omega) only [fat_in, w32_0, wbi0, Classical.not_not, w32_id] at c1)
    refine ⟨by (refine ⟨⟨by omega, by omega⟩, ⟨by omega, by omega⟩, fun i i0 i1 => ?_⟩; rw [hC w i (Int.le_refl w) (by omega) i0 i1]; have hb9 := hb w i h3.1 (by omega) i0 i1; omega), ?_⟩
    intro B_1 g1
    refine ⟨⟨rfl, rfl, rfl, rfl, rfl, ?_⟩, by omega⟩
    obtain ⟨g2, g3⟩ := g1
    refine ⟨h1, h2, by omega, h4, fun b i hb => (g2 b i ⟨hb.1, Or.inl hb.2⟩).trans (hF b i hb), fun ww kk w0 w1 k0 k1 => ?_, fun ww kk w0 w1 k0 k1 => ?_⟩
    · by_cases e : ww = w
      · subst e
        rw [g3 kk k0 k1]
        exact hv_c (fun i i0 i1 => hC ww i (Int.le_refl ww) (by omega) i0 i1) k0 k1
      · rw [g2 33 _ ⟨by decide, Or.inr (by omega)⟩]; exact hD ww kk w0 (by omega) k0 k1
    · rw [g2 33 _ ⟨by decide, Or.inr (by omega)⟩]; exact hC ww kk (by omega) w1 k0 k1
  · skip
    (try simp (disch := omega) only [fat_in, w32_0, wbi0, Classical.not_not, w32_id] at c1)
    refine ⟨⟨rfl, rfl, rfl, rfl, rfl, ?_⟩, by omega⟩
    refine ⟨h1, by omega, hF, fun ww kk w0 w1 k0 k1 => ?_⟩
    rw [hD ww kk w0 (by omega) k0 k1, show Int.toNat (d - 1 - (j + -1)) = Int.toNat (d - 1 - j) + 1 by omega, ceX_s, show j + -1 + 1 = j by omega, bq h2.1, h4, ← h1]
set_option maxRecDepth 20000 in
theorem qvX9_laysCell_25 (c : Int) (d : Int) (q : Int) (F0 : FF) (A0 : AA) (K : KK) (h : (fgOK (mF A0) ∧ (0 ≤ c ∧ c < mF A0 0) ∧ (0 ≤ d ∧ d ≤ 6) ∧ 0 ≤ q ∧ q < p2 d) ∧ (∀ (B_1 : AA), ((∀ b i, b ≠ 32 ∧ b ≠ 33 → B_1 b i = A0 b i) ∧ ∀ w k, 0 ≤ w → w ≤ 2 → 0 ≤ k → k < mF A0 (18 + c) → B_1 33 (4 * w + k) = ceX (mF A0) c (Int.toNat d) q w k) → (K (some none) F0 B_1))) : am_body qxX9_laysCell qnX9_laysCell_25 48 (qiX9_laysCell_25 c d q F0 A0) quX9_laysCell_25 [vR 25, vI c, vI d, vI q] 8 F0 A0 K := by
  refine ⟨qvX9_laysCell_25_0 c d q F0 A0 K h, fun pc ls st F A u hI => ?_⟩
  unfold qiX9_laysCell_25 at hI
  replace hI := am_cond2 hI
  rcases hI with ⟨hb, hI⟩ | hI
  · have hb := am_bq hb
    subst hb
    split at hI
    · rename_i s0 s1 s2 s3 n k
      obtain ⟨e0, e1, e2, e3, e4, hI⟩ := hI
      subst e0
      subst e1
      subst e2
      subst e3
      subst e4
      exact qvX9_laysCell_25_10 _ _ _ _ _ K h _ _ _ hI
    · exact hI.elim
  replace hI := am_cond2 hI
  rcases hI with ⟨hb, hI⟩ | hI
  · have hb := am_bq hb
    subst hb
    split at hI
    · rename_i s0 s1 s2 s3 n j
      obtain ⟨e0, e1, e2, e3, e4, hI⟩ := hI
      subst e0
      subst e1
      subst e2
      subst e3
      subst e4
      exact qvX9_laysCell_25_91 _ _ _ _ _ K h _ _ _ hI
    · exact hI.elim
  replace hI := am_cond2 hI
  rcases hI with ⟨hb, hI⟩ | hI
  · have hb := am_bq hb
    subst hb
    split at hI
    · rename_i s0 s1 s2 s3 n j z w
      obtain ⟨e0, e1, e2, e3, e4, hI⟩ := hI
      subst e0
      subst e1
      subst e2
      subst e3
      subst e4
      exact qvX9_laysCell_25_116 _ _ _ _ _ K h _ _ _ _ _ hI
    · exact hI.elim
  exact hI.elim
theorem qtX9_laysCell (l : Launch) : am_CT l layM qeX9_laysCell := am_met0 rfl (by decide +kernel) rfl rfl rfl rfl rfl (fun _ => rfl) rfl (qzX9_laysCell l) (fun k e1 h => (qyX9_laysCell l k e1 h).2) (fun as F A K h => by
  replace h : qsX9_laysCell as F A K := h
  unfold qsX9_laysCell at h
  split at h
  · rename_i o c d q
    refine ⟨by first | exact Nat.le_of_ble_eq_true rfl | simp [am_fl, am_cat], ?_⟩
    replace h := am_cond2 h
    rcases h with ⟨hb, h⟩ | h
    · skip
      have hb0 := hb
      have hb0 := am_bq hb0
      subst hb0
      exact am_way_body (qvX9_laysCell_25 c d q F A K h)
    exact h.elim
  · exact h.elim)
