def qkX9_isClipped : Nat → Option CI := fun pc => cond (Nat.ble 183 pc) none (cond (Nat.ble 86 pc) (cond (Nat.ble 130 pc) (cond (Nat.ble 154 pc) (cond (Nat.ble 169 pc) (cond (Nat.ble 177 pc) (cond (Nat.ble 181 pc) (cond (Nat.beq pc 181) (some (.iconst 0, 182, [])) (cond (Nat.beq pc 182) (some (.ireturn, 183, [])) (none))) (cond (Nat.beq pc 177) (some (.iconst 1, 178, [])) (cond (Nat.beq pc 178) (some (.goto 4, 181, [182])) (none)))) (cond (Nat.ble 171 pc) (cond (Nat.beq pc 171) (some (.invokevirtual 76, 174, [])) (cond (Nat.beq pc 174) (some (.if_icmp .ne 7, 177, [181])) (none))) (cond (Nat.beq pc 169) (some (.aload_n 0, 170, [])) (cond (Nat.beq pc 170) (some (.iload_n 1, 171, [])) (none))))) (cond (Nat.ble 160 pc) (cond (Nat.ble 164 pc) (cond (Nat.beq pc 164) (some (.if_icmp .eq 13, 167, [177])) (cond (Nat.beq pc 167) (some (.iload 5, 169, [])) (none))) (cond (Nat.beq pc 160) (some (.iload_n 1, 161, [])) (cond (Nat.beq pc 161) (some (.invokevirtual 76, 164, [])) (none)))) (cond (Nat.beq pc 154) (some (.goto (-134), 157, [20])) (cond (Nat.beq pc 157) (some (.iload 4, 159, [])) (cond (Nat.beq pc 159) (some (.aload_n 0, 160, [])) (none)))))) (cond (Nat.ble 140 pc) (cond (Nat.ble 147 pc) (cond (Nat.ble 149 pc) (cond (Nat.beq pc 149) (some (.istore 5, 151, [])) (cond (Nat.beq pc 151) (some (.iinc 6 1, 154, [])) (none))) (cond (Nat.beq pc 147) (some (.iconst 0, 148, [])) (cond (Nat.beq pc 148) (some (.iadd, 149, [])) (none)))) (cond (Nat.beq pc 140) (some (.ifCond .ge 7, 143, [147])) (cond (Nat.beq pc 143) (some (.iconst 1, 144, [])) (cond (Nat.beq pc 144) (some (.goto 4, 147, [148])) (none))))) (cond (Nat.ble 135 pc) (cond (Nat.ble 138 pc) (cond (Nat.beq pc 138) (some (.lmul, 139, [])) (cond (Nat.beq pc 139) (some (.lcmp, 140, [])) (none))) (cond (Nat.beq pc 135) (some (.i2l, 136, [])) (cond (Nat.beq pc 136) (some (.lload 7, 138, [])) (none)))) (cond (Nat.beq pc 130) (some (.aload_n 0, 131, [])) (cond (Nat.beq pc 131) (some (.iload_n 3, 132, [])) (cond (Nat.beq pc 132) (some (.invokevirtual 379, 135, [])) (none))))))) (cond (Nat.ble 106 pc) (cond (Nat.ble 118 pc) (cond (Nat.ble 123 pc) (cond (Nat.ble 126 pc) (cond (Nat.beq pc 126) (some (.iload 5, 128, [])) (cond (Nat.beq pc 128) (some (.lload 9, 130, [])) (none))) (cond (Nat.beq pc 123) (some (.iadd, 124, [])) (cond (Nat.beq pc 124) (some (.istore 4, 126, [])) (none)))) (cond (Nat.beq pc 118) (some (.iconst 1, 119, [])) (cond (Nat.beq pc 119) (some (.goto 4, 122, [123])) (cond (Nat.beq pc 122) (some (.iconst 0, 123, [])) (none))))) (cond (Nat.ble 111 pc) (cond (Nat.ble 114 pc) (cond (Nat.beq pc 114) (some (.lcmp, 115, [])) (cond (Nat.beq pc 115) (some (.ifCond .le 7, 118, [122])) (none))) (cond (Nat.beq pc 111) (some (.lload 7, 113, [])) (cond (Nat.beq pc 113) (some (.lmul, 114, [])) (none)))) (cond (Nat.beq pc 106) (some (.iload_n 3, 107, [])) (cond (Nat.beq pc 107) (some (.invokevirtual 382, 110, [])) (cond (Nat.beq pc 110) (some (.i2l, 111, [])) (none)))))) (cond (Nat.ble 96 pc) (cond (Nat.ble 99 pc) (cond (Nat.ble 103 pc) (cond (Nat.beq pc 103) (some (.lload 9, 105, [])) (cond (Nat.beq pc 105) (some (.aload_n 0, 106, [])) (none))) (cond (Nat.beq pc 99) (some (.lstore 9, 101, [])) (cond (Nat.beq pc 101) (some (.iload 4, 103, [])) (none)))) (cond (Nat.beq pc 96) (some (.lsub, 97, [])) (cond (Nat.beq pc 97) (some (.lmul, 98, [])) (cond (Nat.beq pc 98) (some (.lsub, 99, [])) (none))))) (cond (Nat.ble 89 pc) (cond (Nat.ble 93 pc) (cond (Nat.beq pc 93) (some (.lload 7, 95, [])) (cond (Nat.beq pc 95) (some (.lmul, 96, [])) (none))) (cond (Nat.beq pc 89) (some (.invokevirtual 83, 92, [])) (cond (Nat.beq pc 92) (some (.i2l, 93, [])) (none)))) (cond (Nat.beq pc 86) (some (.iload_n 3, 87, [])) (cond (Nat.beq pc 87) (some (.iconst 0, 88, [])) (cond (Nat.beq pc 88) (some (.iconst 0, 89, [])) (none)))))))) (cond (Nat.ble 45 pc) (cond (Nat.ble 66 pc) (cond (Nat.ble 74 pc) (cond (Nat.ble 79 pc) (cond (Nat.ble 84 pc) (cond (Nat.beq pc 84) (some (.laload, 85, [])) (cond (Nat.beq pc 85) (some (.aload_n 0, 86, [])) (none))) (cond (Nat.beq pc 79) (some (.getfield 32, 82, [])) (cond (Nat.beq pc 82) (some (.iload 6, 84, [])) (none)))) (cond (Nat.beq pc 74) (some (.invokevirtual 366, 77, [])) (cond (Nat.beq pc 77) (some (.i2l, 78, [])) (cond (Nat.beq pc 78) (some (.aload_n 0, 79, [])) (none))))) (cond (Nat.ble 70 pc) (cond (Nat.ble 72 pc) (cond (Nat.beq pc 72) (some (.iload_n 3, 73, [])) (cond (Nat.beq pc 73) (some (.iconst 1, 74, [])) (none))) (cond (Nat.beq pc 70) (some (.lmul, 71, [])) (cond (Nat.beq pc 71) (some (.aload_n 0, 72, [])) (none)))) (cond (Nat.beq pc 66) (some (.lload 7, 68, [])) (cond (Nat.beq pc 68) (some (.lmul, 69, [])) (cond (Nat.beq pc 69) (some (.lsub, 70, [])) (none)))))) (cond (Nat.ble 57 pc) (cond (Nat.ble 60 pc) (cond (Nat.ble 62 pc) (cond (Nat.beq pc 62) (some (.invokevirtual 83, 65, [])) (cond (Nat.beq pc 65) (some (.i2l, 66, [])) (none))) (cond (Nat.beq pc 60) (some (.iconst 0, 61, [])) (cond (Nat.beq pc 61) (some (.iconst 1, 62, [])) (none)))) (cond (Nat.beq pc 57) (some (.laload, 58, [])) (cond (Nat.beq pc 58) (some (.aload_n 0, 59, [])) (cond (Nat.beq pc 59) (some (.iload_n 3, 60, [])) (none))))) (cond (Nat.ble 50 pc) (cond (Nat.ble 54 pc) (cond (Nat.beq pc 54) (some (.iload 6, 56, [])) (cond (Nat.beq pc 56) (some (.iadd, 57, [])) (none))) (cond (Nat.beq pc 50) (some (.getfield 32, 53, [])) (cond (Nat.beq pc 53) (some (.iconst 4, 54, [])) (none)))) (cond (Nat.beq pc 45) (some (.invokevirtual 366, 48, [])) (cond (Nat.beq pc 48) (some (.i2l, 49, [])) (cond (Nat.beq pc 49) (some (.aload_n 0, 50, [])) (none))))))) (cond (Nat.ble 22 pc) (cond (Nat.ble 36 pc) (cond (Nat.ble 40 pc) (cond (Nat.ble 43 pc) (cond (Nat.beq pc 43) (some (.iload_n 3, 44, [])) (cond (Nat.beq pc 44) (some (.iconst 0, 45, [])) (none))) (cond (Nat.beq pc 40) (some (.lstore 7, 42, [])) (cond (Nat.beq pc 42) (some (.aload_n 0, 43, [])) (none)))) (cond (Nat.beq pc 36) (some (.iload 6, 38, [])) (cond (Nat.beq pc 38) (some (.iadd, 39, [])) (cond (Nat.beq pc 39) (some (.laload, 40, [])) (none))))) (cond (Nat.ble 27 pc) (cond (Nat.ble 31 pc) (cond (Nat.beq pc 31) (some (.getfield 32, 34, [])) (cond (Nat.beq pc 34) (some (.bipush 8, 36, [])) (none))) (cond (Nat.beq pc 27) (some (.if_icmp .ge 130, 30, [157])) (cond (Nat.beq pc 30) (some (.aload_n 0, 31, [])) (none)))) (cond (Nat.beq pc 22) (some (.aload_n 0, 23, [])) (cond (Nat.beq pc 23) (some (.iload_n 1, 24, [])) (cond (Nat.beq pc 24) (some (.invokevirtual 76, 27, [])) (none)))))) (cond (Nat.ble 11 pc) (cond (Nat.ble 15 pc) (cond (Nat.ble 18 pc) (cond (Nat.beq pc 18) (some (.istore 6, 20, [])) (cond (Nat.beq pc 20) (some (.iload 6, 22, [])) (none))) (cond (Nat.beq pc 15) (some (.istore 5, 17, [])) (cond (Nat.beq pc 17) (some (.iconst 0, 18, [])) (none)))) (cond (Nat.beq pc 11) (some (.iconst 0, 12, [])) (cond (Nat.beq pc 12) (some (.istore 4, 14, [])) (cond (Nat.beq pc 14) (some (.iconst 0, 15, [])) (none))))) (cond (Nat.ble 3 pc) (cond (Nat.ble 7 pc) (cond (Nat.beq pc 7) (some (.iload_n 2, 8, [])) (cond (Nat.beq pc 8) (some (.invokevirtual 163, 11, [])) (none))) (cond (Nat.beq pc 3) (some (.iconst 1, 4, [])) (cond (Nat.beq pc 4) (some (.invokevirtual 114, 7, [])) (none)))) (cond (Nat.beq pc 0) (some (.aload_n 0, 1, [])) (cond (Nat.beq pc 1) (some (.iload_n 1, 2, [])) (cond (Nat.beq pc 2) (some (.aload_n 0, 3, [])) (none)))))))))
theorem qkX9_isClipped_ok : ∀ pc i nx ts, qkX9_isClipped pc = some (i, nx, ts) → am_cok cX9_isClipped pc (i, nx, ts) = true := fun pc i nx ts h => am_tok_ok (n := 183) (by decide +kernel) (fun pc h => by show cond (Nat.ble 183 pc) _ _ = _; rw [Nat.ble_eq_true_of_le h]; rfl) h
def qaX9_isClipped : Nat → Option CE := fun k => cond (Nat.beq k 114) (some qeX9_set) (cond (Nat.beq k 163) (some qeX9_laysCell) (cond (Nat.beq k 76) (some qeX9_points) (cond (Nat.beq k 366) (some qeX9_across_) (cond (Nat.beq k 83) (some qeX9_point) (cond (Nat.beq k 382) (some qeX9_high) (cond (Nat.beq k 379) (some qeX9_low) (none)))))))
theorem qyX9_isClipped (l : Launch) : ∀ k e1, qaX9_isClipped k = some e1 → am_cal l layM RX9 8 k e1 ∧ ceT e1 = 0 := q_cons ⟨am_calV (ci := 9) (qtX9_set l) qbX9_set (by decide) rfl (am_tb_at 1643 (by decide +kernel) rfl), rfl⟩ (q_cons ⟨am_calV (ci := 9) (qtX9_laysCell l) qbX9_laysCell (by decide) rfl (am_tb_at 1699 (by decide +kernel) rfl), rfl⟩ (q_cons ⟨am_calV (ci := 9) (qtX9_points l) qbX9_points (by decide) rfl (am_tb_at 1663 (by decide +kernel) rfl), rfl⟩ (q_cons ⟨am_calV (ci := 9) (qtX9_across_ l) qbX9_across_ (by decide) rfl (am_tb_at 1911 (by decide +kernel) rfl), rfl⟩ (q_cons ⟨am_calV (ci := 9) (qtX9_point l) qbX9_point (by decide) rfl (am_tb_at 1675 (by decide +kernel) rfl), rfl⟩ (q_cons ⟨am_calV (ci := 9) (qtX9_high l) qbX9_high (by decide) rfl (am_tb_at 1920 (by decide +kernel) rfl), rfl⟩ (q_cons ⟨am_calV (ci := 9) (qtX9_low l) qbX9_low (by decide) rfl (am_tb_at 1903 (by decide +kernel) rfl), rfl⟩ (q_nil)))))))
def qxX9_isClipped : CX := (qkX9_isClipped, layM, qfX9, qaX9_isClipped, qcX9, qlX9, qmX9, (some .boolean), false, none, 0, none, fun _ => none)
theorem qzX9_isClipped (l : Launch) : am_sta l qxX9_isClipped RX9 8 cX9_isClipped := ⟨qkX9_isClipped_ok, layM_ok, qfX9_ok, qcX9_ok, qlX9_ok, am_mthP qmX9_ok (by decide), fun k e1 h => (qyX9_isClipped l k e1 h).1⟩
def qsX9_isClipped : SP := fun as F A K => match as with
  | [.inr (.inr o), .inl c, .inl q, .inl e] => cond (Nat.beq o 25) ((fgOK (mF A) ∧ (0 ≤ c ∧ c < mF A 0) ∧ (0 ≤ e ∧ e < mF A 0) ∧ 0 ≤ q ∧ q < p2 (mF A 3)) ∧ (∀ (B_1 : AA), (∀ b i, b ≠ 32 ∧ b ≠ 33 → B_1 b i = A b i) → (K (some (some (vI (bc (clM (mF A) c e q))))) F B_1))) (False)
  | _ => False
def qeX9_isClipped : CE := (yX9_isClipped, cX9_isClipped, 11, (some .boolean), 3, some 9, 0, [], 0, 8, qsX9_isClipped)
theorem qbX9_isClipped : am_mb qeX9_isClipped := ⟨am_tb_at 1940 (by decide +kernel) rfl, am_tb_at 124 (by decide +kernel) rfl, ⟨by decide, by decide, by decide +kernel⟩, by decide, by decide, am_tb_at 1939 (by decide +kernel) rfl, am_tb_at 102 (by decide +kernel) rfl, _, _, rfl⟩
def qnX9_isClipped_25 : CUT := fun pc => cond (Nat.beq pc 20) (some [true, true, true, true, true, true, true, false, false, false, false]) (none)
def qiX9_isClipped_25 (c : Int) (q : Int) (e : Int) (F0 : FF) (A0 : AA) : REC := fun pc ls st F A u => cond (Nat.beq pc 20) (match ls, st, u with
    | [some (.inr (.inr s0)), some (.inl s1), some (.inl s2), some (.inl s3), some (.inl a), some (.inl b), some (.inl k), none, none, none, none], [], 0 => s0 = 25 ∧ s1 = c ∧ s2 = q ∧ s3 = e ∧ F = F0 ∧ ((0 ≤ k ∧ k ≤ mF A0 (18 + c)) ∧ (∀ bb ii, bb ≠ 32 ∧ bb ≠ 33 → A bb ii = A0 bb ii) ∧ (∀ ww kk, 0 ≤ ww → ww ≤ 2 → 0 ≤ kk → kk < mF A0 (18 + c) → A 33 (4 * ww + kk) = ceX (mF A0) c (Int.toNat (mF A0 3)) q ww kk) ∧ a = cntQ (mnA (mF A0) c e (Int.toNat (mF A0 3)) q) (Int.toNat k) ∧ b = cntQ (mnB (mF A0) c e (Int.toNat (mF A0 3)) q) (Int.toNat k))
    | _, _, _ => False) (False)
def quX9_isClipped_25 : Nat → LVs → List AV → FF → AA → Nat := fun pc ls _ F A => cond (Nat.beq pc 20) (match ls with
    | [some (.inr (.inr s0)), some (.inl s1), some (.inl s2), some (.inl s3), some (.inl a), some (.inl b), some (.inl k), none, none, none, none] => Int.toNat (20 - k)
    | _ => 0) (0)
set_option maxRecDepth 20000 in
theorem qvX9_isClipped_25_0 (c : Int) (q : Int) (e : Int) (F0 : FF) (A0 : AA) (K : KK) (h : (fgOK (mF A0) ∧ (0 ≤ c ∧ c < mF A0 0) ∧ (0 ≤ e ∧ e < mF A0 0) ∧ 0 ≤ q ∧ q < p2 (mF A0 3)) ∧ (∀ (B_1 : AA), (∀ b i, b ≠ 32 ∧ b ≠ 33 → B_1 b i = A0 b i) → (K (some (some (vI (bc (clM (mF A0) c e q))))) F0 B_1))) : am_stp qxX9_isClipped (am_run qxX9_isClipped qnX9_isClipped_25 (qiX9_isClipped_25 c q e F0 A0) K 87) K 0 (am_ent [vR 25, vI c, vI q, vI e] 11) [] F0 A0 0 := by
  show am_stp qxX9_isClipped (am_run qxX9_isClipped qnX9_isClipped_25 (qiX9_isClipped_25 c q e F0 A0) K 87) K 0 [some (vR 25), some (vI c), some (vI q), some (vI e), none, none, none, none, none, none, none] [] F0 A0 0
  obtain ⟨hp, h⟩ := h
  obtain ⟨p1, p2', p3, p4⟩ := hp
  have q1 := p1.1.1
  have q3 := (p1.2.2.1 c p2'.1 p2'.2).1
  have q5 := (p1.2.2.1 e p3.1 p3.2).1
  have q4 := p1.2.1.2
  show (0 ≤ 1 ∧ 1 ≤ 1) ∧ ((fgOK (mF A0) ∧ (0 ≤ c ∧ c < mF A0 0) ∧ (0 ≤ (mF A0 (2 + 1)) ∧ (mF A0 (2 + 1)) ≤ 6) ∧ 0 ≤ q ∧ q < p2 (mF A0 (2 + 1))) ∧ (∀ (B_1 : AA), ((∀ b i, b ≠ 32 ∧ b ≠ 33 → B_1 b i = A0 b i) ∧ ∀ w k, 0 ≤ w → w ≤ 2 → 0 ≤ k → k < mF A0 (18 + c) → B_1 33 (4 * w + k) = ceX (mF A0) c (Int.toNat (mF A0 (2 + 1))) q w k) → (25 = 25 ∧ c = c ∧ q = q ∧ e = e ∧ F0 = F0 ∧ ((0 ≤ 0 ∧ 0 ≤ mF A0 (18 + c)) ∧ (∀ bb ii, bb ≠ 32 ∧ bb ≠ 33 → B_1 bb ii = A0 bb ii) ∧ (∀ ww kk, 0 ≤ ww → ww ≤ 2 → 0 ≤ kk → kk < mF A0 (18 + c) → B_1 33 (4 * ww + kk) = ceX (mF A0) c (Int.toNat (mF A0 3)) q ww kk) ∧ 0 = cntQ (mnA (mF A0) c e (Int.toNat (mF A0 3)) q) (Int.toNat 0) ∧ 0 = cntQ (mnB (mF A0) c e (Int.toNat (mF A0 3)) q) (Int.toNat 0)))))
  refine ⟨by first | decide | (rw [show (2 : Int) + 1 = 3 from rfl]; exact ⟨p1, p2', by omega, p4⟩), ?_⟩
  refine ⟨by first | decide | (rw [show (2 : Int) + 1 = 3 from rfl]; exact ⟨p1, p2', by omega, p4⟩), ?_⟩
  intro B_1 g1
  refine ⟨rfl, rfl, rfl, rfl, rfl, ?_⟩
  rw [show (2 : Int) + 1 = 3 from rfl] at g1
  exact ⟨by omega, g1.1, g1.2, rfl, rfl⟩
set_option maxRecDepth 20000 in
theorem qvX9_isClipped_25_20 (c : Int) (q : Int) (e : Int) (F0 : FF) (A0 : AA) (K : KK) (h : (fgOK (mF A0) ∧ (0 ≤ c ∧ c < mF A0 0) ∧ (0 ≤ e ∧ e < mF A0 0) ∧ 0 ≤ q ∧ q < p2 (mF A0 3)) ∧ (∀ (B_1 : AA), (∀ b i, b ≠ 32 ∧ b ≠ 33 → B_1 b i = A0 b i) → (K (some (some (vI (bc (clM (mF A0) c e q))))) F0 B_1))) (a : Int) (b : Int) (k : Int) (A : AA) (hi : (0 ≤ k ∧ k ≤ mF A0 (18 + c)) ∧ (∀ bb ii, bb ≠ 32 ∧ bb ≠ 33 → A bb ii = A0 bb ii) ∧ (∀ ww kk, 0 ≤ ww → ww ≤ 2 → 0 ≤ kk → kk < mF A0 (18 + c) → A 33 (4 * ww + kk) = ceX (mF A0) c (Int.toNat (mF A0 3)) q ww kk) ∧ a = cntQ (mnA (mF A0) c e (Int.toNat (mF A0 3)) q) (Int.toNat k) ∧ b = cntQ (mnB (mF A0) c e (Int.toNat (mF A0 3)) q) (Int.toNat k)) : am_stp qxX9_isClipped (am_run qxX9_isClipped qnX9_isClipped_25 (fun pc ls st F9 A9 u => qiX9_isClipped_25 c q e F0 A0 pc ls st F9 A9 u ∧ quX9_isClipped_25 pc ls st F9 A9 < quX9_isClipped_25 20 [some (vR 25), some (vI c), some (vI q), some (vI e), some (vI a), some (vI b), some (vI k), none, none, none, none] [] F0 A) K 87) K 20 [some (vR 25), some (vI c), some (vI q), some (vI e), some (vI a), some (vI b), some (vI k), none, none, none, none] [] F0 A 0 := by
  obtain ⟨hp, h⟩ := h
  obtain ⟨p1, p2', p3, p4⟩ := hp
  have q1 := p1.1.1
  have q3 := (p1.2.2.1 c p2'.1 p2'.2).1
  have q5 := (p1.2.2.1 e p3.1 p3.2).1
  have q4 := p1.2.1.2
  obtain ⟨h1, hF, hC, h3, h4⟩ := hi
  have eF : mF A = mF A0 := mF_c (funext fun i => hF 2 i (by decide)) (funext fun i => hF 27 i (by decide)) (funext fun i => hF 29 i (by decide))
  have ba := cntQ_b (mnA (mF A0) c e (Int.toNat (mF A0 3)) q) (Int.toNat k)
  have bb := cntQ_b (mnB (mF A0) c e (Int.toNat (mF A0 3)) q) (Int.toNat k)
  show (0 ≤ c ∧ c < 8) ∧ ((w32 k < w32 (mF A (18 + c)) → ((0 ≤ w32 (8 + k) ∧ w32 (8 + k) < 12) ∧ ((fgOK (mF A) ∧ (0 ≤ e ∧ e < mF A 0) ∧ (0 ≤ 0 ∧ 0 ≤ 1)) ∧ ((0 ≤ w32 (4 + k) ∧ w32 (4 + k) < 12) ∧ (((0 ≤ e ∧ e < 8) ∧ (0 ≤ 0 ∧ 0 < 4) ∧ 0 ≤ 1 ∧ 1 ≤ 2) ∧ ((fgOK (mF A) ∧ (0 ≤ e ∧ e < mF A 0) ∧ (0 ≤ 1 ∧ 1 ≤ 1)) ∧ ((0 ≤ w32 k ∧ w32 k < 12) ∧ (((0 ≤ e ∧ e < 8) ∧ (0 ≤ 0 ∧ 0 < 4) ∧ 0 ≤ 0 ∧ 0 ≤ 2) ∧ ((fgOK (mF A) ∧ (0 ≤ e ∧ e < mF A 0)) ∧ ((w32 0 < w32 (y_cmp (((w32 (pxF (mF A) e (mF A (18 + e) - 1) 0 - pxF (mF A) e 0 0)) * ((A 33 (w32 (4 + k))) - ((w32 (pxF (mF A) e 0 1)) * (A 33 (w32 (8 + k)))))) - ((w32 (pxF (mF A) e (mF A (18 + e) - 1) 1 - pxF (mF A) e 0 1)) * ((A 33 (w32 k)) - ((w32 (pxF (mF A) e 0 0)) * (A 33 (w32 (8 + k))))))) ((w32 (bHigh (mF A) e (Int.toNat (mF A (18 + e) - 1)))) * (A 33 (w32 (8 + k))))) → ((fgOK (mF A) ∧ (0 ≤ e ∧ e < mF A 0)) ∧ ((w32 (y_cmp (((w32 (pxF (mF A) e (mF A (18 + e) - 1) 0 - pxF (mF A) e 0 0)) * ((A 33 (w32 (4 + k))) - ((w32 (pxF (mF A) e 0 1)) * (A 33 (w32 (8 + k)))))) - ((w32 (pxF (mF A) e (mF A (18 + e) - 1) 1 - pxF (mF A) e 0 1)) * ((A 33 (w32 k)) - ((w32 (pxF (mF A) e 0 0)) * (A 33 (w32 (8 + k))))))) ((w32 (bLow (mF A) e (Int.toNat (mF A (18 + e) - 1)))) * (A 33 (w32 (8 + k))))) < w32 0 → ((25 = 25 ∧ c = c ∧ q = q ∧ e = e ∧ F0 = F0 ∧ ((0 ≤ (k + 1) ∧ (k + 1) ≤ mF A0 (18 + c)) ∧ (∀ bb ii, bb ≠ 32 ∧ bb ≠ 33 → A bb ii = A0 bb ii) ∧ (∀ ww kk, 0 ≤ ww → ww ≤ 2 → 0 ≤ kk → kk < mF A0 (18 + c) → A 33 (4 * ww + kk) = ceX (mF A0) c (Int.toNat (mF A0 3)) q ww kk) ∧ (a + 1) = cntQ (mnA (mF A0) c e (Int.toNat (mF A0 3)) q) (Int.toNat (k + 1)) ∧ (b + 1) = cntQ (mnB (mF A0) c e (Int.toNat (mF A0 3)) q) (Int.toNat (k + 1)))) ∧ (Int.toNat (20 - (k + 1))) < (Int.toNat (20 - k)))) ∧ (¬ w32 (y_cmp (((w32 (pxF (mF A) e (mF A (18 + e) - 1) 0 - pxF (mF A) e 0 0)) * ((A 33 (w32 (4 + k))) - ((w32 (pxF (mF A) e 0 1)) * (A 33 (w32 (8 + k)))))) - ((w32 (pxF (mF A) e (mF A (18 + e) - 1) 1 - pxF (mF A) e 0 1)) * ((A 33 (w32 k)) - ((w32 (pxF (mF A) e 0 0)) * (A 33 (w32 (8 + k))))))) ((w32 (bLow (mF A) e (Int.toNat (mF A (18 + e) - 1)))) * (A 33 (w32 (8 + k))))) < w32 0 → ((25 = 25 ∧ c = c ∧ q = q ∧ e = e ∧ F0 = F0 ∧ ((0 ≤ (k + 1) ∧ (k + 1) ≤ mF A0 (18 + c)) ∧ (∀ bb ii, bb ≠ 32 ∧ bb ≠ 33 → A bb ii = A0 bb ii) ∧ (∀ ww kk, 0 ≤ ww → ww ≤ 2 → 0 ≤ kk → kk < mF A0 (18 + c) → A 33 (4 * ww + kk) = ceX (mF A0) c (Int.toNat (mF A0 3)) q ww kk) ∧ (a + 1) = cntQ (mnA (mF A0) c e (Int.toNat (mF A0 3)) q) (Int.toNat (k + 1)) ∧ (b + 0) = cntQ (mnB (mF A0) c e (Int.toNat (mF A0 3)) q) (Int.toNat (k + 1)))) ∧ (Int.toNat (20 - (k + 1))) < (Int.toNat (20 - k))))))) ∧ (¬ w32 0 < w32 (y_cmp (((w32 (pxF (mF A) e (mF A (18 + e) - 1) 0 - pxF (mF A) e 0 0)) * ((A 33 (w32 (4 + k))) - ((w32 (pxF (mF A) e 0 1)) * (A 33 (w32 (8 + k)))))) - ((w32 (pxF (mF A) e (mF A (18 + e) - 1) 1 - pxF (mF A) e 0 1)) * ((A 33 (w32 k)) - ((w32 (pxF (mF A) e 0 0)) * (A 33 (w32 (8 + k))))))) ((w32 (bHigh (mF A) e (Int.toNat (mF A (18 + e) - 1)))) * (A 33 (w32 (8 + k))))) → ((fgOK (mF A) ∧ (0 ≤ e ∧ e < mF A 0)) ∧ ((w32 (y_cmp (((w32 (pxF (mF A) e (mF A (18 + e) - 1) 0 - pxF (mF A) e 0 0)) * ((A 33 (w32 (4 + k))) - ((w32 (pxF (mF A) e 0 1)) * (A 33 (w32 (8 + k)))))) - ((w32 (pxF (mF A) e (mF A (18 + e) - 1) 1 - pxF (mF A) e 0 1)) * ((A 33 (w32 k)) - ((w32 (pxF (mF A) e 0 0)) * (A 33 (w32 (8 + k))))))) ((w32 (bLow (mF A) e (Int.toNat (mF A (18 + e) - 1)))) * (A 33 (w32 (8 + k))))) < w32 0 → ((25 = 25 ∧ c = c ∧ q = q ∧ e = e ∧ F0 = F0 ∧ ((0 ≤ (k + 1) ∧ (k + 1) ≤ mF A0 (18 + c)) ∧ (∀ bb ii, bb ≠ 32 ∧ bb ≠ 33 → A bb ii = A0 bb ii) ∧ (∀ ww kk, 0 ≤ ww → ww ≤ 2 → 0 ≤ kk → kk < mF A0 (18 + c) → A 33 (4 * ww + kk) = ceX (mF A0) c (Int.toNat (mF A0 3)) q ww kk) ∧ (a + 0) = cntQ (mnA (mF A0) c e (Int.toNat (mF A0 3)) q) (Int.toNat (k + 1)) ∧ (b + 1) = cntQ (mnB (mF A0) c e (Int.toNat (mF A0 3)) q) (Int.toNat (k + 1)))) ∧ (Int.toNat (20 - (k + 1))) < (Int.toNat (20 - k)))) ∧ (¬ w32 (y_cmp (((w32 (pxF (mF A) e (mF A (18 + e) - 1) 0 - pxF (mF A) e 0 0)) * ((A 33 (w32 (4 + k))) - ((w32 (pxF (mF A) e 0 1)) * (A 33 (w32 (8 + k)))))) - ((w32 (pxF (mF A) e (mF A (18 + e) - 1) 1 - pxF (mF A) e 0 1)) * ((A 33 (w32 k)) - ((w32 (pxF (mF A) e 0 0)) * (A 33 (w32 (8 + k))))))) ((w32 (bLow (mF A) e (Int.toNat (mF A (18 + e) - 1)))) * (A 33 (w32 (8 + k))))) < w32 0 → ((25 = 25 ∧ c = c ∧ q = q ∧ e = e ∧ F0 = F0 ∧ ((0 ≤ (k + 1) ∧ (k + 1) ≤ mF A0 (18 + c)) ∧ (∀ bb ii, bb ≠ 32 ∧ bb ≠ 33 → A bb ii = A0 bb ii) ∧ (∀ ww kk, 0 ≤ ww → ww ≤ 2 → 0 ≤ kk → kk < mF A0 (18 + c) → A 33 (4 * ww + kk) = ceX (mF A0) c (Int.toNat (mF A0 3)) q ww kk) ∧ (a + 0) = cntQ (mnA (mF A0) c e (Int.toNat (mF A0 3)) q) (Int.toNat (k + 1)) ∧ (b + 0) = cntQ (mnB (mF A0) c e (Int.toNat (mF A0 3)) q) (Int.toNat (k + 1)))) ∧ (Int.toNat (20 - (k + 1))) < (Int.toNat (20 - k))))))))))))))))) ∧ (¬ w32 k < w32 (mF A (18 + c)) → ((0 ≤ c ∧ c < 8) ∧ ((w32 a = w32 (mF A (18 + c)) → ((1 = 0 ∨ 1 = 1) ∧ (K (some (some (vI 1))) F0 A))) ∧ (¬ w32 a = w32 (mF A (18 + c)) → ((0 ≤ c ∧ c < 8) ∧ ((w32 b = w32 (mF A (18 + c)) → ((1 = 0 ∨ 1 = 1) ∧ (K (some (some (vI 1))) F0 A))) ∧ (¬ w32 b = w32 (mF A (18 + c)) → ((0 = 0 ∨ 0 = 1) ∧ (K (some (some (vI 0))) F0 A))))))))))
  refine ⟨by first | decide | exact Or.inl rfl | exact Or.inr rfl | omega | (rw [eF]; first | exact ⟨p1, p3, by decide, by decide⟩ | exact ⟨p1, p3⟩ | exact ⟨by omega, by decide, by decide⟩ | exact ⟨by omega, by omega, by omega⟩ | omega) | exact ⟨p1, p3, by decide, by decide⟩ | exact ⟨p1, p3⟩ | exact ⟨by omega, by decide, by decide⟩, ?_⟩
  refine ⟨fun c1 => ?_, fun c1 => ?_⟩
  · skip
    (try rw [eF] at c1); (try simp only [w32_0, yc_gt0, yc_lt0] at c1); (try (rw [w32_id (x := k) (by omega) (by omega), w32_id (x := mF A0 (18 + c)) (by omega) (by omega)] at c1)); (try (rw [w32_id (x := a) (by omega) (by omega), w32_id (x := mF A0 (18 + c)) (by omega) (by omega)] at c1)); (try (rw [w32_id (x := b) (by omega) (by omega), w32_id (x := mF A0 (18 + c)) (by omega) (by omega)] at c1))
    have x0 := hC 0 k (by decide) (by decide) h1.1 c1
    have x1 := hC 1 k (by decide) (by decide) h1.1 c1
    have x2 := hC 2 k (by decide) (by decide) h1.1 c1
    rw [show (4 : Int) * 0 + k = k by omega] at x0
    rw [show (4 : Int) * 1 = 4 by decide] at x1
    rw [show (4 : Int) * 2 = 8 by decide] at x2
    rw [w32_id (x := 8 + k) (by omega) (by omega), w32_id (x := 4 + k) (by omega) (by omega), w32_id (x := k) (by omega) (by omega), x0, x1, x2, eF]
    refine ⟨by first | decide | exact Or.inl rfl | exact Or.inr rfl | omega | (rw [eF]; first | exact ⟨p1, p3, by decide, by decide⟩ | exact ⟨p1, p3⟩ | exact ⟨by omega, by decide, by decide⟩ | exact ⟨by omega, by omega, by omega⟩ | omega) | exact ⟨p1, p3, by decide, by decide⟩ | exact ⟨p1, p3⟩ | exact ⟨by omega, by decide, by decide⟩, ?_⟩
    refine ⟨by first | decide | exact Or.inl rfl | exact Or.inr rfl | omega | (rw [eF]; first | exact ⟨p1, p3, by decide, by decide⟩ | exact ⟨p1, p3⟩ | exact ⟨by omega, by decide, by decide⟩ | exact ⟨by omega, by omega, by omega⟩ | omega) | exact ⟨p1, p3, by decide, by decide⟩ | exact ⟨p1, p3⟩ | exact ⟨by omega, by decide, by decide⟩, ?_⟩
    refine ⟨by first | decide | exact Or.inl rfl | exact Or.inr rfl | omega | (rw [eF]; first | exact ⟨p1, p3, by decide, by decide⟩ | exact ⟨p1, p3⟩ | exact ⟨by omega, by decide, by decide⟩ | exact ⟨by omega, by omega, by omega⟩ | omega) | exact ⟨p1, p3, by decide, by decide⟩ | exact ⟨p1, p3⟩ | exact ⟨by omega, by decide, by decide⟩, ?_⟩
    refine ⟨by first | decide | exact Or.inl rfl | exact Or.inr rfl | omega | (rw [eF]; first | exact ⟨p1, p3, by decide, by decide⟩ | exact ⟨p1, p3⟩ | exact ⟨by omega, by decide, by decide⟩ | exact ⟨by omega, by omega, by omega⟩ | omega) | exact ⟨p1, p3, by decide, by decide⟩ | exact ⟨p1, p3⟩ | exact ⟨by omega, by decide, by decide⟩, ?_⟩
    refine ⟨by first | decide | exact Or.inl rfl | exact Or.inr rfl | omega | (rw [eF]; first | exact ⟨p1, p3, by decide, by decide⟩ | exact ⟨p1, p3⟩ | exact ⟨by omega, by decide, by decide⟩ | exact ⟨by omega, by omega, by omega⟩ | omega) | exact ⟨p1, p3, by decide, by decide⟩ | exact ⟨p1, p3⟩ | exact ⟨by omega, by decide, by decide⟩, ?_⟩
    refine ⟨by first | decide | exact Or.inl rfl | exact Or.inr rfl | omega | (rw [eF]; first | exact ⟨p1, p3, by decide, by decide⟩ | exact ⟨p1, p3⟩ | exact ⟨by omega, by decide, by decide⟩ | exact ⟨by omega, by omega, by omega⟩ | omega) | exact ⟨p1, p3, by decide, by decide⟩ | exact ⟨p1, p3⟩ | exact ⟨by omega, by decide, by decide⟩, ?_⟩
    refine ⟨by first | decide | exact Or.inl rfl | exact Or.inr rfl | omega | (rw [eF]; first | exact ⟨p1, p3, by decide, by decide⟩ | exact ⟨p1, p3⟩ | exact ⟨by omega, by decide, by decide⟩ | exact ⟨by omega, by omega, by omega⟩ | omega) | exact ⟨p1, p3, by decide, by decide⟩ | exact ⟨p1, p3⟩ | exact ⟨by omega, by decide, by decide⟩, ?_⟩
    refine ⟨by first | decide | exact Or.inl rfl | exact Or.inr rfl | omega | (rw [eF]; first | exact ⟨p1, p3, by decide, by decide⟩ | exact ⟨p1, p3⟩ | exact ⟨by omega, by decide, by decide⟩ | exact ⟨by omega, by omega, by omega⟩ | omega) | exact ⟨p1, p3, by decide, by decide⟩ | exact ⟨p1, p3⟩ | exact ⟨by omega, by decide, by decide⟩, ?_⟩
    refine ⟨fun c2 => ?_, fun c2 => ?_⟩
    · skip
      (try rw [eF] at c2); (try simp only [w32_0, yc_gt0, yc_lt0] at c2); (try (rw [w32_id (x := k) (by omega) (by omega), w32_id (x := mF A0 (18 + c)) (by omega) (by omega)] at c2)); (try (rw [w32_id (x := a) (by omega) (by omega), w32_id (x := mF A0 (18 + c)) (by omega) (by omega)] at c2)); (try (rw [w32_id (x := b) (by omega) (by omega), w32_id (x := mF A0 (18 + c)) (by omega) (by omega)] at c2))
      refine ⟨by first | decide | exact Or.inl rfl | exact Or.inr rfl | omega | (rw [eF]; first | exact ⟨p1, p3, by decide, by decide⟩ | exact ⟨p1, p3⟩ | exact ⟨by omega, by decide, by decide⟩ | exact ⟨by omega, by omega, by omega⟩ | omega) | exact ⟨p1, p3, by decide, by decide⟩ | exact ⟨p1, p3⟩ | exact ⟨by omega, by decide, by decide⟩, ?_⟩
      refine ⟨fun c3 => ?_, fun c3 => ?_⟩
      · skip
        (try rw [eF] at c3); (try simp only [w32_0, yc_gt0, yc_lt0] at c3); (try (rw [w32_id (x := k) (by omega) (by omega), w32_id (x := mF A0 (18 + c)) (by omega) (by omega)] at c3)); (try (rw [w32_id (x := a) (by omega) (by omega), w32_id (x := mF A0 (18 + c)) (by omega) (by omega)] at c3)); (try (rw [w32_id (x := b) (by omega) (by omega), w32_id (x := mF A0 (18 + c)) (by omega) (by omega)] at c3))
        refine ⟨⟨rfl, rfl, rfl, rfl, rfl, ?_⟩, by omega⟩
        refine ⟨by omega, hF, hC, ?_, ?_⟩
        · first
          | (rw [cntQ_t (p := (mnA (mF A0) c e (Int.toNat (mF A0 3)) q)) h1.1 c2, ← h3]; done)
          | (rw [cntQ_f (p := (mnA (mF A0) c e (Int.toNat (mF A0 3)) q)) h1.1 c2, ← h3, Int.add_zero]; done)
        · first
          | (rw [cntQ_t (p := (mnB (mF A0) c e (Int.toNat (mF A0 3)) q)) h1.1 c3, ← h4]; done)
          | (rw [cntQ_f (p := (mnB (mF A0) c e (Int.toNat (mF A0 3)) q)) h1.1 c3, ← h4, Int.add_zero]; done)
      · skip
        (try rw [eF] at c3); (try simp only [w32_0, yc_gt0, yc_lt0] at c3); (try (rw [w32_id (x := k) (by omega) (by omega), w32_id (x := mF A0 (18 + c)) (by omega) (by omega)] at c3)); (try (rw [w32_id (x := a) (by omega) (by omega), w32_id (x := mF A0 (18 + c)) (by omega) (by omega)] at c3)); (try (rw [w32_id (x := b) (by omega) (by omega), w32_id (x := mF A0 (18 + c)) (by omega) (by omega)] at c3))
        refine ⟨⟨rfl, rfl, rfl, rfl, rfl, ?_⟩, by omega⟩
        refine ⟨by omega, hF, hC, ?_, ?_⟩
        · first
          | (rw [cntQ_t (p := (mnA (mF A0) c e (Int.toNat (mF A0 3)) q)) h1.1 c2, ← h3]; done)
          | (rw [cntQ_f (p := (mnA (mF A0) c e (Int.toNat (mF A0 3)) q)) h1.1 c2, ← h3, Int.add_zero]; done)
        · first
          | (rw [cntQ_t (p := (mnB (mF A0) c e (Int.toNat (mF A0 3)) q)) h1.1 c3, ← h4]; done)
          | (rw [cntQ_f (p := (mnB (mF A0) c e (Int.toNat (mF A0 3)) q)) h1.1 c3, ← h4, Int.add_zero]; done)
    · skip
      (try rw [eF] at c2); (try simp only [w32_0, yc_gt0, yc_lt0] at c2); (try (rw [w32_id (x := k) (by omega) (by omega), w32_id (x := mF A0 (18 + c)) (by omega) (by omega)] at c2)); (try (rw [w32_id (x := a) (by omega) (by omega), w32_id (x := mF A0 (18 + c)) (by omega) (by omega)] at c2)); (try (rw [w32_id (x := b) (by omega) (by omega), w32_id (x := mF A0 (18 + c)) (by omega) (by omega)] at c2))
      refine ⟨by first | decide | exact Or.inl rfl | exact Or.inr rfl | omega | (rw [eF]; first | exact ⟨p1, p3, by decide, by decide⟩ | exact ⟨p1, p3⟩ | exact ⟨by omega, by decide, by decide⟩ | exact ⟨by omega, by omega, by omega⟩ | omega) | exact ⟨p1, p3, by decide, by decide⟩ | exact ⟨p1, p3⟩ | exact ⟨by omega, by decide, by decide⟩, ?_⟩
      refine ⟨fun c3 => ?_, fun c3 => ?_⟩
      · skip
        (try rw [eF] at c3); (try simp only [w32_0, yc_gt0, yc_lt0] at c3); (try (rw [w32_id (x := k) (by omega) (by omega), w32_id (x := mF A0 (18 + c)) (by omega) (by omega)] at c3)); (try (rw [w32_id (x := a) (by omega) (by omega), w32_id (x := mF A0 (18 + c)) (by omega) (by omega)] at c3)); (try (rw [w32_id (x := b) (by omega) (by omega), w32_id (x := mF A0 (18 + c)) (by omega) (by omega)] at c3))
        refine ⟨⟨rfl, rfl, rfl, rfl, rfl, ?_⟩, by omega⟩
        refine ⟨by omega, hF, hC, ?_, ?_⟩
        · first
          | (rw [cntQ_t (p := (mnA (mF A0) c e (Int.toNat (mF A0 3)) q)) h1.1 c2, ← h3]; done)
          | (rw [cntQ_f (p := (mnA (mF A0) c e (Int.toNat (mF A0 3)) q)) h1.1 c2, ← h3, Int.add_zero]; done)
        · first
          | (rw [cntQ_t (p := (mnB (mF A0) c e (Int.toNat (mF A0 3)) q)) h1.1 c3, ← h4]; done)
          | (rw [cntQ_f (p := (mnB (mF A0) c e (Int.toNat (mF A0 3)) q)) h1.1 c3, ← h4, Int.add_zero]; done)
      · skip
        (try rw [eF] at c3); (try simp only [w32_0, yc_gt0, yc_lt0] at c3); (try (rw [w32_id (x := k) (by omega) (by omega), w32_id (x := mF A0 (18 + c)) (by omega) (by omega)] at c3)); (try (rw [w32_id (x := a) (by omega) (by omega), w32_id (x := mF A0 (18 + c)) (by omega) (by omega)] at c3)); (try (rw [w32_id (x := b) (by omega) (by omega), w32_id (x := mF A0 (18 + c)) (by omega) (by omega)] at c3))
        refine ⟨⟨rfl, rfl, rfl, rfl, rfl, ?_⟩, by omega⟩
        refine ⟨by omega, hF, hC, ?_, ?_⟩
        · first
          | (rw [cntQ_t (p := (mnA (mF A0) c e (Int.toNat (mF A0 3)) q)) h1.1 c2, ← h3]; done)
          | (rw [cntQ_f (p := (mnA (mF A0) c e (Int.toNat (mF A0 3)) q)) h1.1 c2, ← h3, Int.add_zero]; done)
        · first
          | (rw [cntQ_t (p := (mnB (mF A0) c e (Int.toNat (mF A0 3)) q)) h1.1 c3, ← h4]; done)
          | (rw [cntQ_f (p := (mnB (mF A0) c e (Int.toNat (mF A0 3)) q)) h1.1 c3, ← h4, Int.add_zero]; done)
  · skip
    (try rw [eF] at c1); (try simp only [w32_0, yc_gt0, yc_lt0] at c1); (try (rw [w32_id (x := k) (by omega) (by omega), w32_id (x := mF A0 (18 + c)) (by omega) (by omega)] at c1)); (try (rw [w32_id (x := a) (by omega) (by omega), w32_id (x := mF A0 (18 + c)) (by omega) (by omega)] at c1)); (try (rw [w32_id (x := b) (by omega) (by omega), w32_id (x := mF A0 (18 + c)) (by omega) (by omega)] at c1))
    refine ⟨by first | decide | exact Or.inl rfl | exact Or.inr rfl | omega | (rw [eF]; first | exact ⟨p1, p3, by decide, by decide⟩ | exact ⟨p1, p3⟩ | exact ⟨by omega, by decide, by decide⟩ | exact ⟨by omega, by omega, by omega⟩ | omega) | exact ⟨p1, p3, by decide, by decide⟩ | exact ⟨p1, p3⟩ | exact ⟨by omega, by decide, by decide⟩, ?_⟩
    refine ⟨fun c2 => ?_, fun c2 => ?_⟩
    · skip
      (try rw [eF] at c2); (try simp only [w32_0, yc_gt0, yc_lt0] at c2); (try (rw [w32_id (x := k) (by omega) (by omega), w32_id (x := mF A0 (18 + c)) (by omega) (by omega)] at c2)); (try (rw [w32_id (x := a) (by omega) (by omega), w32_id (x := mF A0 (18 + c)) (by omega) (by omega)] at c2)); (try (rw [w32_id (x := b) (by omega) (by omega), w32_id (x := mF A0 (18 + c)) (by omega) (by omega)] at c2))
      refine ⟨by first | decide | exact Or.inl rfl | exact Or.inr rfl | omega | (rw [eF]; first | exact ⟨p1, p3, by decide, by decide⟩ | exact ⟨p1, p3⟩ | exact ⟨by omega, by decide, by decide⟩ | exact ⟨by omega, by omega, by omega⟩ | omega) | exact ⟨p1, p3, by decide, by decide⟩ | exact ⟨p1, p3⟩ | exact ⟨by omega, by decide, by decide⟩, ?_⟩
      have ek : k = mF A0 (18 + c) := by omega
      have aa := cntQ_all (p := (mnA (mF A0) c e (Int.toNat (mF A0 3)) q)) (Int.toNat (mF A0 (18 + c)))
      have ab := cntQ_all (p := (mnB (mF A0) c e (Int.toNat (mF A0 3)) q)) (Int.toNat (mF A0 (18 + c)))
      rw [ek] at h3 h4
      rw [← h3, show ((Int.toNat (mF A0 (18 + c)) : Nat) : Int) = mF A0 (18 + c) by omega] at aa
      rw [← h4, show ((Int.toNat (mF A0 (18 + c)) : Nat) : Int) = mF A0 (18 + c) by omega] at ab
      first
      | exact K_eq (h _ hF) (bc_t (Or.inl (aa.mp (by omega))))
      | exact K_eq (h _ hF) (bc_t (Or.inr (ab.mp (by omega))))
      | (refine K_eq (h _ hF) (bc_f (fun z => ?_))
         rcases z with z | z
         · have := aa.mpr z; omega
         · have := ab.mpr z; omega)
    · skip
      (try rw [eF] at c2); (try simp only [w32_0, yc_gt0, yc_lt0] at c2); (try (rw [w32_id (x := k) (by omega) (by omega), w32_id (x := mF A0 (18 + c)) (by omega) (by omega)] at c2)); (try (rw [w32_id (x := a) (by omega) (by omega), w32_id (x := mF A0 (18 + c)) (by omega) (by omega)] at c2)); (try (rw [w32_id (x := b) (by omega) (by omega), w32_id (x := mF A0 (18 + c)) (by omega) (by omega)] at c2))
      refine ⟨by first | decide | exact Or.inl rfl | exact Or.inr rfl | omega | (rw [eF]; first | exact ⟨p1, p3, by decide, by decide⟩ | exact ⟨p1, p3⟩ | exact ⟨by omega, by decide, by decide⟩ | exact ⟨by omega, by omega, by omega⟩ | omega) | exact ⟨p1, p3, by decide, by decide⟩ | exact ⟨p1, p3⟩ | exact ⟨by omega, by decide, by decide⟩, ?_⟩
      refine ⟨fun c3 => ?_, fun c3 => ?_⟩
      · skip
        (try rw [eF] at c3); (try simp only [w32_0, yc_gt0, yc_lt0] at c3); (try (rw [w32_id (x := k) (by omega) (by omega), w32_id (x := mF A0 (18 + c)) (by omega) (by omega)] at c3)); (try (rw [w32_id (x := a) (by omega) (by omega), w32_id (x := mF A0 (18 + c)) (by omega) (by omega)] at c3)); (try (rw [w32_id (x := b) (by omega) (by omega), w32_id (x := mF A0 (18 + c)) (by omega) (by omega)] at c3))
        refine ⟨by first | decide | exact Or.inl rfl | exact Or.inr rfl | omega | (rw [eF]; first | exact ⟨p1, p3, by decide, by decide⟩ | exact ⟨p1, p3⟩ | exact ⟨by omega, by decide, by decide⟩ | exact ⟨by omega, by omega, by omega⟩ | omega) | exact ⟨p1, p3, by decide, by decide⟩ | exact ⟨p1, p3⟩ | exact ⟨by omega, by decide, by decide⟩, ?_⟩
        have ek : k = mF A0 (18 + c) := by omega
        have aa := cntQ_all (p := (mnA (mF A0) c e (Int.toNat (mF A0 3)) q)) (Int.toNat (mF A0 (18 + c)))
        have ab := cntQ_all (p := (mnB (mF A0) c e (Int.toNat (mF A0 3)) q)) (Int.toNat (mF A0 (18 + c)))
        rw [ek] at h3 h4
        rw [← h3, show ((Int.toNat (mF A0 (18 + c)) : Nat) : Int) = mF A0 (18 + c) by omega] at aa
        rw [← h4, show ((Int.toNat (mF A0 (18 + c)) : Nat) : Int) = mF A0 (18 + c) by omega] at ab
        first
        | exact K_eq (h _ hF) (bc_t (Or.inl (aa.mp (by omega))))
        | exact K_eq (h _ hF) (bc_t (Or.inr (ab.mp (by omega))))
        | (refine K_eq (h _ hF) (bc_f (fun z => ?_))
           rcases z with z | z
           · have := aa.mpr z; omega
           · have := ab.mpr z; omega)
      · skip
        (try rw [eF] at c3); (try simp only [w32_0, yc_gt0, yc_lt0] at c3); (try (rw [w32_id (x := k) (by omega) (by omega), w32_id (x := mF A0 (18 + c)) (by omega) (by omega)] at c3)); (try (rw [w32_id (x := a) (by omega) (by omega), w32_id (x := mF A0 (18 + c)) (by omega) (by omega)] at c3)); (try (rw [w32_id (x := b) (by omega) (by omega), w32_id (x := mF A0 (18 + c)) (by omega) (by omega)] at c3))
        refine ⟨by first | decide | exact Or.inl rfl | exact Or.inr rfl | omega | (rw [eF]; first | exact ⟨p1, p3, by decide, by decide⟩ | exact ⟨p1, p3⟩ | exact ⟨by omega, by decide, by decide⟩ | exact ⟨by omega, by omega, by omega⟩ | omega) | exact ⟨p1, p3, by decide, by decide⟩ | exact ⟨p1, p3⟩ | exact ⟨by omega, by decide, by decide⟩, ?_⟩
        have ek : k = mF A0 (18 + c) := by omega
        have aa := cntQ_all (p := (mnA (mF A0) c e (Int.toNat (mF A0 3)) q)) (Int.toNat (mF A0 (18 + c)))
        have ab := cntQ_all (p := (mnB (mF A0) c e (Int.toNat (mF A0 3)) q)) (Int.toNat (mF A0 (18 + c)))
        rw [ek] at h3 h4
        rw [← h3, show ((Int.toNat (mF A0 (18 + c)) : Nat) : Int) = mF A0 (18 + c) by omega] at aa
        rw [← h4, show ((Int.toNat (mF A0 (18 + c)) : Nat) : Int) = mF A0 (18 + c) by omega] at ab
        first
        | exact K_eq (h _ hF) (bc_t (Or.inl (aa.mp (by omega))))
        | exact K_eq (h _ hF) (bc_t (Or.inr (ab.mp (by omega))))
        | (refine K_eq (h _ hF) (bc_f (fun z => ?_))
           rcases z with z | z
           · have := aa.mpr z; omega
           · have := ab.mpr z; omega)
set_option maxRecDepth 20000 in
theorem qvX9_isClipped_25 (c : Int) (q : Int) (e : Int) (F0 : FF) (A0 : AA) (K : KK) (h : (fgOK (mF A0) ∧ (0 ≤ c ∧ c < mF A0 0) ∧ (0 ≤ e ∧ e < mF A0 0) ∧ 0 ≤ q ∧ q < p2 (mF A0 3)) ∧ (∀ (B_1 : AA), (∀ b i, b ≠ 32 ∧ b ≠ 33 → B_1 b i = A0 b i) → (K (some (some (vI (bc (clM (mF A0) c e q))))) F0 B_1))) : am_body qxX9_isClipped qnX9_isClipped_25 87 (qiX9_isClipped_25 c q e F0 A0) quX9_isClipped_25 [vR 25, vI c, vI q, vI e] 11 F0 A0 K := by
  refine ⟨qvX9_isClipped_25_0 c q e F0 A0 K h, fun pc ls st F A u hI => ?_⟩
  unfold qiX9_isClipped_25 at hI
  replace hI := am_cond2 hI
  rcases hI with ⟨hb, hI⟩ | hI
  · have hb := am_bq hb
    subst hb
    split at hI
    · rename_i s0 s1 s2 s3 a b k
      obtain ⟨e0, e1, e2, e3, e4, hI⟩ := hI
      subst e0
      subst e1
      subst e2
      subst e3
      subst e4
      exact qvX9_isClipped_25_20 _ _ _ _ _ K h _ _ _ _ hI
    · exact hI.elim
  exact hI.elim
theorem qtX9_isClipped (l : Launch) : am_CT l layM qeX9_isClipped := am_met0 rfl (by decide +kernel) rfl rfl rfl rfl rfl (fun _ => rfl) rfl (qzX9_isClipped l) (fun k e1 h => (qyX9_isClipped l k e1 h).2) (fun as F A K h => by
  replace h : qsX9_isClipped as F A K := h
  unfold qsX9_isClipped at h
  split at h
  · rename_i o c q e
    refine ⟨by first | exact Nat.le_of_ble_eq_true rfl | simp [am_fl, am_cat], ?_⟩
    replace h := am_cond2 h
    rcases h with ⟨hb, h⟩ | h
    · skip
      have hb0 := hb
      have hb0 := am_bq hb0
      subst hb0
      exact am_way_body (qvX9_isClipped_25 c q e F A K h)
    exact h.elim
  · exact h.elim)
def qkX9_firstLeft : Nat → Option CI := fun pc => cond (Nat.ble 41 pc) none (cond (Nat.ble 18 pc) (cond (Nat.ble 28 pc) (cond (Nat.ble 33 pc) (cond (Nat.ble 39 pc) (cond (Nat.beq pc 39) (some (.iconst (-1), 40, [])) (cond (Nat.beq pc 40) (some (.ireturn, 41, [])) (none))) (cond (Nat.beq pc 33) (some (.iinc 3 1, 36, [])) (cond (Nat.beq pc 36) (some (.goto (-23), 39, [13])) (none)))) (cond (Nat.beq pc 28) (some (.ifCond .ne 5, 31, [33])) (cond (Nat.beq pc 31) (some (.iload_n 3, 32, [])) (cond (Nat.beq pc 32) (some (.ireturn, 33, [])) (none))))) (cond (Nat.ble 23 pc) (cond (Nat.beq pc 23) (some (.iload_n 3, 24, [])) (cond (Nat.beq pc 24) (some (.iload_n 2, 25, [])) (cond (Nat.beq pc 25) (some (.invokevirtual 388, 28, [])) (none)))) (cond (Nat.beq pc 18) (some (.if_icmp .ge 21, 21, [39])) (cond (Nat.beq pc 21) (some (.aload_n 0, 22, [])) (cond (Nat.beq pc 22) (some (.iload_n 1, 23, [])) (none)))))) (cond (Nat.ble 10 pc) (cond (Nat.ble 13 pc) (cond (Nat.beq pc 13) (some (.iload_n 3, 14, [])) (cond (Nat.beq pc 14) (some (.aload_n 0, 15, [])) (cond (Nat.beq pc 15) (some (.invokevirtual 176, 18, [])) (none)))) (cond (Nat.beq pc 10) (some (.ireturn, 11, [])) (cond (Nat.beq pc 11) (some (.iconst 0, 12, [])) (cond (Nat.beq pc 12) (some (.istore_n 3, 13, [])) (none))))) (cond (Nat.ble 3 pc) (cond (Nat.beq pc 3) (some (.invokevirtual 385, 6, [])) (cond (Nat.beq pc 6) (some (.ifCond .ne 5, 9, [11])) (cond (Nat.beq pc 9) (some (.iconst 0, 10, [])) (none)))) (cond (Nat.beq pc 0) (some (.aload_n 0, 1, [])) (cond (Nat.beq pc 1) (some (.iload_n 1, 2, [])) (cond (Nat.beq pc 2) (some (.iload_n 2, 3, [])) (none)))))))
theorem qkX9_firstLeft_ok : ∀ pc i nx ts, qkX9_firstLeft pc = some (i, nx, ts) → am_cok cX9_firstLeft pc (i, nx, ts) = true := fun pc i nx ts h => am_tok_ok (n := 41) (by decide +kernel) (fun pc h => by show cond (Nat.ble 41 pc) _ _ = _; rw [Nat.ble_eq_true_of_le h]; rfl) h
def qaX9_firstLeft : Nat → Option CE := fun k => cond (Nat.beq k 385) (some qeX9_areTwo) (cond (Nat.beq k 176) (some qeX9_across) (cond (Nat.beq k 388) (some qeX9_isClipped) (none)))
theorem qyX9_firstLeft (l : Launch) : ∀ k e1, qaX9_firstLeft k = some e1 → am_cal l layM RX9 9 k e1 ∧ ceT e1 = 0 := q_cons ⟨am_calV (ci := 9) (qtX9_areTwo l) qbX9_areTwo (by decide) rfl (am_tb_at 1929 (by decide +kernel) rfl), rfl⟩ (q_cons ⟨am_calV (ci := 9) (qtX9_across l) qbX9_across (by decide) rfl (am_tb_at 1933 (by decide +kernel) rfl), rfl⟩ (q_cons ⟨am_calV (ci := 9) (qtX9_isClipped l) qbX9_isClipped (by decide) rfl (am_tb_at 1937 (by decide +kernel) rfl), rfl⟩ (q_nil)))
def qxX9_firstLeft : CX := (qkX9_firstLeft, layM, qfX9, qaX9_firstLeft, qcX9, qlX9, qmX9, (some .int), false, none, 0, none, fun _ => none)
theorem qzX9_firstLeft (l : Launch) : am_sta l qxX9_firstLeft RX9 9 cX9_firstLeft := ⟨qkX9_firstLeft_ok, layM_ok, qfX9_ok, qcX9_ok, qlX9_ok, am_mthP qmX9_ok (by decide), fun k e1 h => (qyX9_firstLeft l k e1 h).1⟩
def qsX9_firstLeft : SP := fun as F A K => match as with
  | [.inr (.inr o), .inl c, .inl e] => cond (Nat.beq o 25) ((fgOK (mF A) ∧ (-2147483648 ≤ c ∧ c < 2147483648) ∧ (-2147483648 ≤ e ∧ e < 2147483648)) ∧ (∀ (G_1 : FF) (B_1 : AA), (qdP F G_1 A B_1 ∧ G_1 25 0 = (if (0 ≤ c ∧ c < mF A 0) ∧ 0 ≤ e ∧ e < mF A 0 then 0 else 1)) → (K (some (some (vI (if (0 ≤ c ∧ c < mF A 0) ∧ 0 ≤ e ∧ e < mF A 0 then firI (fun jj => ¬ clM (mF A) c e jj) (Int.toNat (p2 (mF A 3))) 0 else 0)))) G_1 B_1))) (False)
  | _ => False
def qeX9_firstLeft : CE := (yX9_firstLeft, cX9_firstLeft, 4, (some .int), 2, some 9, 0, [], 0, 9, qsX9_firstLeft)
theorem qbX9_firstLeft : am_mb qeX9_firstLeft := ⟨am_tb_at 1928 (by decide +kernel) rfl, am_tb_at 124 (by decide +kernel) rfl, ⟨by decide, by decide, by decide +kernel⟩, by decide, by decide, am_tb_at 1926 (by decide +kernel) rfl, am_tb_at 1927 (by decide +kernel) rfl, _, _, rfl⟩
def qnX9_firstLeft_25 : CUT := fun pc => cond (Nat.beq pc 13) (some [true, true, true, true]) (none)
def qiX9_firstLeft_25 (c : Int) (e : Int) (F0 : FF) (A0 : AA) : REC := fun pc ls st F A u => cond (Nat.beq pc 13) (match ls, st, u with
    | [some (.inr (.inr s0)), some (.inl s1), some (.inl s2), some (.inl k)], [], 0 => s0 = 25 ∧ s1 = c ∧ s2 = e ∧ (((0 ≤ c ∧ c < mF A0 0) ∧ 0 ≤ e ∧ e < mF A0 0) ∧ (0 ≤ k ∧ k ≤ p2 (mF A0 3)) ∧ (qdP F0 F A0 A ∧ F 25 0 = 0) ∧ firI (fun jj => ¬ clM (mF A0) c e jj) (Int.toNat (p2 (mF A0 3) - k)) k = firI (fun jj => ¬ clM (mF A0) c e jj) (Int.toNat (p2 (mF A0 3))) 0)
    | _, _, _ => False) (False)
def quX9_firstLeft_25 : Nat → LVs → List AV → FF → AA → Nat := fun pc ls _ F A => cond (Nat.beq pc 13) (match ls with
    | [some (.inr (.inr s0)), some (.inl s1), some (.inl s2), some (.inl k)] => Int.toNat (100 - k)
    | _ => 0) (0)
set_option maxRecDepth 20000 in
theorem qvX9_firstLeft_25_0 (c : Int) (e : Int) (F0 : FF) (A0 : AA) (K : KK) (h : (fgOK (mF A0) ∧ (-2147483648 ≤ c ∧ c < 2147483648) ∧ (-2147483648 ≤ e ∧ e < 2147483648)) ∧ (∀ (G_1 : FF) (B_1 : AA), (qdP F0 G_1 A0 B_1 ∧ G_1 25 0 = (if (0 ≤ c ∧ c < mF A0 0) ∧ 0 ≤ e ∧ e < mF A0 0 then 0 else 1)) → (K (some (some (vI (if (0 ≤ c ∧ c < mF A0 0) ∧ 0 ≤ e ∧ e < mF A0 0 then firI (fun jj => ¬ clM (mF A0) c e jj) (Int.toNat (p2 (mF A0 3))) 0 else 0)))) G_1 B_1))) : am_stp qxX9_firstLeft (am_run qxX9_firstLeft qnX9_firstLeft_25 (qiX9_firstLeft_25 c e F0 A0) K 15) K 0 (am_ent [vR 25, vI c, vI e] 4) [] F0 A0 0 := by
  show am_stp qxX9_firstLeft (am_run qxX9_firstLeft qnX9_firstLeft_25 (qiX9_firstLeft_25 c e F0 A0) K 15) K 0 [some (vR 25), some (vI c), some (vI e), none] [] F0 A0 0
  obtain ⟨hp, h⟩ := h
  have p1 := hp.1
  have q4 := p1.2.1.2
  have sb := sq_b q4.1 q4.2
  show (fgOK (mF A0) ∧ (-2147483648 ≤ c ∧ c < 2147483648) ∧ (-2147483648 ≤ e ∧ e < 2147483648)) ∧ ((w32 (bi ((0 ≤ c ∧ c < mF A0 0) ∧ 0 ≤ e ∧ e < mF A0 0)) = w32 0 → (K (some (some (vI 0))) (upF F0 25 0 (1 - bi ((0 ≤ c ∧ c < mF A0 0) ∧ 0 ≤ e ∧ e < mF A0 0))) A0)) ∧ (¬ (w32 (bi ((0 ≤ c ∧ c < mF A0 0) ∧ 0 ≤ e ∧ e < mF A0 0)) = w32 0) → (25 = 25 ∧ c = c ∧ e = e ∧ (((0 ≤ c ∧ c < mF A0 0) ∧ 0 ≤ e ∧ e < mF A0 0) ∧ (0 ≤ 0 ∧ 0 ≤ p2 (mF A0 3)) ∧ (qdP F0 (upF F0 25 0 (1 - bi ((0 ≤ c ∧ c < mF A0 0) ∧ 0 ≤ e ∧ e < mF A0 0))) A0 A0 ∧ (upF F0 25 0 (1 - bi ((0 ≤ c ∧ c < mF A0 0) ∧ 0 ≤ e ∧ e < mF A0 0))) 25 0 = 0) ∧ firI (fun jj => ¬ clM (mF A0) c e jj) (Int.toNat (p2 (mF A0 3) - 0)) 0 = firI (fun jj => ¬ clM (mF A0) c e jj) (Int.toNat (p2 (mF A0 3))) 0))))
  refine ⟨by first | trivial | exact ⟨p1, by omega, by omega⟩ | exact ⟨p1, c1.1, c1.2⟩ | omega, ?_⟩
  refine ⟨fun c1 => ?_, fun c1 => ?_⟩
  · skip
    (try simp only [w32_0, wbi0, Classical.not_not] at c1); (try simp (disch := omega) only [w32_id] at c1)
    exact K_eq (h _ _ ⟨qdP_F (by decide), by rw [upF_s, bi_f c1, if_neg c1]; rfl⟩) (if_neg c1)
  · skip
    (try simp only [w32_0, wbi0, Classical.not_not] at c1); (try simp (disch := omega) only [w32_id] at c1)
    refine ⟨rfl, rfl, rfl, ?_⟩
    exact ⟨c1, by omega, ⟨qdP_F (by decide), by rw [upF_s, bi_t c1]; rfl⟩, by rw [Int.sub_zero]⟩
set_option maxRecDepth 20000 in
theorem qvX9_firstLeft_25_13 (c : Int) (e : Int) (F0 : FF) (A0 : AA) (K : KK) (h : (fgOK (mF A0) ∧ (-2147483648 ≤ c ∧ c < 2147483648) ∧ (-2147483648 ≤ e ∧ e < 2147483648)) ∧ (∀ (G_1 : FF) (B_1 : AA), (qdP F0 G_1 A0 B_1 ∧ G_1 25 0 = (if (0 ≤ c ∧ c < mF A0 0) ∧ 0 ≤ e ∧ e < mF A0 0 then 0 else 1)) → (K (some (some (vI (if (0 ≤ c ∧ c < mF A0 0) ∧ 0 ≤ e ∧ e < mF A0 0 then firI (fun jj => ¬ clM (mF A0) c e jj) (Int.toNat (p2 (mF A0 3))) 0 else 0)))) G_1 B_1))) (k : Int) (F : FF) (A : AA) (hi : ((0 ≤ c ∧ c < mF A0 0) ∧ 0 ≤ e ∧ e < mF A0 0) ∧ (0 ≤ k ∧ k ≤ p2 (mF A0 3)) ∧ (qdP F0 F A0 A ∧ F 25 0 = 0) ∧ firI (fun jj => ¬ clM (mF A0) c e jj) (Int.toNat (p2 (mF A0 3) - k)) k = firI (fun jj => ¬ clM (mF A0) c e jj) (Int.toNat (p2 (mF A0 3))) 0) : am_stp qxX9_firstLeft (am_run qxX9_firstLeft qnX9_firstLeft_25 (fun pc ls st F9 A9 u => qiX9_firstLeft_25 c e F0 A0 pc ls st F9 A9 u ∧ quX9_firstLeft_25 pc ls st F9 A9 < quX9_firstLeft_25 13 [some (vR 25), some (vI c), some (vI e), some (vI k)] [] F A) K 15) K 13 [some (vR 25), some (vI c), some (vI e), some (vI k)] [] F A 0 := by
  obtain ⟨hp, h⟩ := h
  have p1 := hp.1
  have q4 := p1.2.1.2
  have sb := sq_b q4.1 q4.2
  obtain ⟨h1, h2, ⟨hQ, hT⟩, h4⟩ := hi
  have eF := qdP_f hQ
  have el : x_shl 1 (mF A (2 + 1)) = p2 (mF A0 3) := by rw [eF]; exact x_shl1 (by show 0 ≤ mF A0 3; omega) (by show mF A0 3 ≤ 12; omega)
  show (True) ∧ ((w32 k < w32 (x_shl 1 (mF A (2 + 1))) → ((fgOK (mF A) ∧ (0 ≤ c ∧ c < mF A 0) ∧ (0 ≤ e ∧ e < mF A 0) ∧ 0 ≤ k ∧ k < p2 (mF A 3)) ∧ (∀ (B_1 : AA), (∀ b i, b ≠ 32 ∧ b ≠ 33 → B_1 b i = A b i) → ((w32 (bc (clM (mF A) c e k)) = w32 0 → (K (some (some (vI k))) F B_1)) ∧ (¬ w32 (bc (clM (mF A) c e k)) = w32 0 → ((25 = 25 ∧ c = c ∧ e = e ∧ (((0 ≤ c ∧ c < mF A0 0) ∧ 0 ≤ e ∧ e < mF A0 0) ∧ (0 ≤ (k + 1) ∧ (k + 1) ≤ p2 (mF A0 3)) ∧ (qdP F0 F A0 B_1 ∧ F 25 0 = 0) ∧ firI (fun jj => ¬ clM (mF A0) c e jj) (Int.toNat (p2 (mF A0 3) - (k + 1))) (k + 1) = firI (fun jj => ¬ clM (mF A0) c e jj) (Int.toNat (p2 (mF A0 3))) 0)) ∧ (Int.toNat (100 - (k + 1))) < (Int.toNat (100 - k)))))))) ∧ (¬ w32 k < w32 (x_shl 1 (mF A (2 + 1))) → (K (some (some (vI (-1)))) F A)))
  refine ⟨by first | trivial | omega | (rw [eF]; exact ⟨p1, h1.1, h1.2, h2.1, c1⟩), ?_⟩
  refine ⟨fun c1 => ?_, fun c1 => ?_⟩
  · skip
    (try rw [el] at c1); (try simp only [w32_0, wbc0, Classical.not_not] at c1); (try rw [eF] at c1); (try simp (disch := omega) only [w32_id] at c1)
    refine ⟨by first | trivial | omega | (rw [eF]; exact ⟨p1, h1.1, h1.2, h2.1, c1⟩), ?_⟩
    intro B_1 g1
    refine ⟨fun c2 => ?_, fun c2 => ?_⟩
    · skip
      (try rw [el] at c2); (try simp only [w32_0, wbc0, Classical.not_not] at c2); (try rw [eF] at c2); (try simp (disch := omega) only [w32_id] at c2)
      first
      | (refine K_eq (h _ _ ⟨qdP_trans hQ (qdP_A (fun b i hb => g1 b i (by omega))), by rw [hT, if_pos h1]⟩) ?_
         rw [if_pos h1, ← h4]; exact firI_t c1 c2)
      | (refine K_eq (h _ _ ⟨hQ, by rw [hT, if_pos h1]⟩) ?_
         rw [if_pos h1, ← h4]; exact firI_0 (by omega))
    · skip
      (try rw [el] at c2); (try simp only [w32_0, wbc0, Classical.not_not] at c2); (try rw [eF] at c2); (try simp (disch := omega) only [w32_id] at c2)
      refine ⟨⟨rfl, rfl, rfl, ?_⟩, by omega⟩
      refine ⟨h1, by omega, ⟨qdP_trans hQ (qdP_A (fun b i hb => g1 b i (by omega))), hT⟩, ?_⟩
      rw [← h4]; exact (firI_f c1 (fun z => z c2)).symm
  · skip
    (try rw [el] at c1); (try simp only [w32_0, wbc0, Classical.not_not] at c1); (try rw [eF] at c1); (try simp (disch := omega) only [w32_id] at c1)
    first
    | (refine K_eq (h _ _ ⟨qdP_trans hQ (qdP_A (fun b i hb => g1 b i (by omega))), by rw [hT, if_pos h1]⟩) ?_
       rw [if_pos h1, ← h4]; exact firI_t c1 c2)
    | (refine K_eq (h _ _ ⟨hQ, by rw [hT, if_pos h1]⟩) ?_
       rw [if_pos h1, ← h4]; exact firI_0 (by omega))
set_option maxRecDepth 20000 in
theorem qvX9_firstLeft_25 (c : Int) (e : Int) (F0 : FF) (A0 : AA) (K : KK) (h : (fgOK (mF A0) ∧ (-2147483648 ≤ c ∧ c < 2147483648) ∧ (-2147483648 ≤ e ∧ e < 2147483648)) ∧ (∀ (G_1 : FF) (B_1 : AA), (qdP F0 G_1 A0 B_1 ∧ G_1 25 0 = (if (0 ≤ c ∧ c < mF A0 0) ∧ 0 ≤ e ∧ e < mF A0 0 then 0 else 1)) → (K (some (some (vI (if (0 ≤ c ∧ c < mF A0 0) ∧ 0 ≤ e ∧ e < mF A0 0 then firI (fun jj => ¬ clM (mF A0) c e jj) (Int.toNat (p2 (mF A0 3))) 0 else 0)))) G_1 B_1))) : am_body qxX9_firstLeft qnX9_firstLeft_25 15 (qiX9_firstLeft_25 c e F0 A0) quX9_firstLeft_25 [vR 25, vI c, vI e] 4 F0 A0 K := by
  refine ⟨qvX9_firstLeft_25_0 c e F0 A0 K h, fun pc ls st F A u hI => ?_⟩
  unfold qiX9_firstLeft_25 at hI
  replace hI := am_cond2 hI
  rcases hI with ⟨hb, hI⟩ | hI
  · have hb := am_bq hb
    subst hb
    split at hI
    · rename_i s0 s1 s2 k
      obtain ⟨e0, e1, e2, hI⟩ := hI
      subst e0
      subst e1
      subst e2
      exact qvX9_firstLeft_25_13 _ _ _ _ K h _ _ _ hI
    · exact hI.elim
  exact hI.elim
theorem qtX9_firstLeft (l : Launch) : am_CT l layM qeX9_firstLeft := am_met0 rfl (by decide +kernel) rfl rfl rfl rfl rfl (fun _ => rfl) rfl (qzX9_firstLeft l) (fun k e1 h => (qyX9_firstLeft l k e1 h).2) (fun as F A K h => by
  replace h : qsX9_firstLeft as F A K := h
  unfold qsX9_firstLeft at h
  split at h
  · rename_i o c e
    refine ⟨by first | exact Nat.le_of_ble_eq_true rfl | simp [am_fl, am_cat], ?_⟩
    replace h := am_cond2 h
    rcases h with ⟨hb, h⟩ | h
    · skip
      have hb0 := hb
      have hb0 := am_bq hb0
      subst hb0
      exact am_way_body (qvX9_firstLeft_25 c e F A K h)
    exact h.elim
  · exact h.elim)
def qkX9_lastLeft : Nat → Option CI := fun pc => cond (Nat.ble 42 pc) none (cond (Nat.ble 19 pc) (cond (Nat.ble 29 pc) (cond (Nat.ble 34 pc) (cond (Nat.ble 40 pc) (cond (Nat.beq pc 40) (some (.iconst (-1), 41, [])) (cond (Nat.beq pc 41) (some (.ireturn, 42, [])) (none))) (cond (Nat.beq pc 34) (some (.iinc 3 (-1), 37, [])) (cond (Nat.beq pc 37) (some (.goto (-19), 40, [18])) (none)))) (cond (Nat.beq pc 29) (some (.ifCond .ne 5, 32, [34])) (cond (Nat.beq pc 32) (some (.iload_n 3, 33, [])) (cond (Nat.beq pc 33) (some (.ireturn, 34, [])) (none))))) (cond (Nat.ble 24 pc) (cond (Nat.beq pc 24) (some (.iload_n 3, 25, [])) (cond (Nat.beq pc 25) (some (.iload_n 2, 26, [])) (cond (Nat.beq pc 26) (some (.invokevirtual 388, 29, [])) (none)))) (cond (Nat.beq pc 19) (some (.ifCond .lt 21, 22, [40])) (cond (Nat.beq pc 22) (some (.aload_n 0, 23, [])) (cond (Nat.beq pc 23) (some (.iload_n 1, 24, [])) (none)))))) (cond (Nat.ble 10 pc) (cond (Nat.ble 15 pc) (cond (Nat.ble 17 pc) (cond (Nat.beq pc 17) (some (.istore_n 3, 18, [])) (cond (Nat.beq pc 18) (some (.iload_n 3, 19, [])) (none))) (cond (Nat.beq pc 15) (some (.iconst 1, 16, [])) (cond (Nat.beq pc 16) (some (.isub, 17, [])) (none)))) (cond (Nat.beq pc 10) (some (.ireturn, 11, [])) (cond (Nat.beq pc 11) (some (.aload_n 0, 12, [])) (cond (Nat.beq pc 12) (some (.invokevirtual 176, 15, [])) (none))))) (cond (Nat.ble 3 pc) (cond (Nat.beq pc 3) (some (.invokevirtual 385, 6, [])) (cond (Nat.beq pc 6) (some (.ifCond .ne 5, 9, [11])) (cond (Nat.beq pc 9) (some (.iconst 0, 10, [])) (none)))) (cond (Nat.beq pc 0) (some (.aload_n 0, 1, [])) (cond (Nat.beq pc 1) (some (.iload_n 1, 2, [])) (cond (Nat.beq pc 2) (some (.iload_n 2, 3, [])) (none)))))))
theorem qkX9_lastLeft_ok : ∀ pc i nx ts, qkX9_lastLeft pc = some (i, nx, ts) → am_cok cX9_lastLeft pc (i, nx, ts) = true := fun pc i nx ts h => am_tok_ok (n := 42) (by decide +kernel) (fun pc h => by show cond (Nat.ble 42 pc) _ _ = _; rw [Nat.ble_eq_true_of_le h]; rfl) h
def qaX9_lastLeft : Nat → Option CE := fun k => cond (Nat.beq k 385) (some qeX9_areTwo) (cond (Nat.beq k 176) (some qeX9_across) (cond (Nat.beq k 388) (some qeX9_isClipped) (none)))
theorem qyX9_lastLeft (l : Launch) : ∀ k e1, qaX9_lastLeft k = some e1 → am_cal l layM RX9 9 k e1 ∧ ceT e1 = 0 := q_cons ⟨am_calV (ci := 9) (qtX9_areTwo l) qbX9_areTwo (by decide) rfl (am_tb_at 1929 (by decide +kernel) rfl), rfl⟩ (q_cons ⟨am_calV (ci := 9) (qtX9_across l) qbX9_across (by decide) rfl (am_tb_at 1933 (by decide +kernel) rfl), rfl⟩ (q_cons ⟨am_calV (ci := 9) (qtX9_isClipped l) qbX9_isClipped (by decide) rfl (am_tb_at 1937 (by decide +kernel) rfl), rfl⟩ (q_nil)))
def qxX9_lastLeft : CX := (qkX9_lastLeft, layM, qfX9, qaX9_lastLeft, qcX9, qlX9, qmX9, (some .int), false, none, 0, none, fun _ => none)
theorem qzX9_lastLeft (l : Launch) : am_sta l qxX9_lastLeft RX9 9 cX9_lastLeft := ⟨qkX9_lastLeft_ok, layM_ok, qfX9_ok, qcX9_ok, qlX9_ok, am_mthP qmX9_ok (by decide), fun k e1 h => (qyX9_lastLeft l k e1 h).1⟩
def qsX9_lastLeft : SP := fun as F A K => match as with
  | [.inr (.inr o), .inl c, .inl e] => cond (Nat.beq o 25) ((fgOK (mF A) ∧ (-2147483648 ≤ c ∧ c < 2147483648) ∧ (-2147483648 ≤ e ∧ e < 2147483648)) ∧ (∀ (G_1 : FF) (B_1 : AA), (qdP F G_1 A B_1 ∧ G_1 25 0 = (if (0 ≤ c ∧ c < mF A 0) ∧ 0 ≤ e ∧ e < mF A 0 then 0 else 1)) → (K (some (some (vI (if (0 ≤ c ∧ c < mF A 0) ∧ 0 ≤ e ∧ e < mF A 0 then lasI (fun jj => ¬ clM (mF A) c e jj) (Int.toNat (p2 (mF A 3))) else 0)))) G_1 B_1))) (False)
  | _ => False
def qeX9_lastLeft : CE := (yX9_lastLeft, cX9_lastLeft, 4, (some .int), 2, some 9, 0, [], 0, 9, qsX9_lastLeft)
theorem qbX9_lastLeft : am_mb qeX9_lastLeft := ⟨am_tb_at 1944 (by decide +kernel) rfl, am_tb_at 124 (by decide +kernel) rfl, ⟨by decide, by decide, by decide +kernel⟩, by decide, by decide, am_tb_at 1942 (by decide +kernel) rfl, am_tb_at 1943 (by decide +kernel) rfl, _, _, rfl⟩
def qnX9_lastLeft_25 : CUT := fun pc => cond (Nat.beq pc 18) (some [true, true, true, true]) (none)
def qiX9_lastLeft_25 (c : Int) (e : Int) (F0 : FF) (A0 : AA) : REC := fun pc ls st F A u => cond (Nat.beq pc 18) (match ls, st, u with
    | [some (.inr (.inr s0)), some (.inl s1), some (.inl s2), some (.inl k)], [], 0 => s0 = 25 ∧ s1 = c ∧ s2 = e ∧ (((0 ≤ c ∧ c < mF A0 0) ∧ 0 ≤ e ∧ e < mF A0 0) ∧ (-1 ≤ k ∧ k < p2 (mF A0 3)) ∧ (qdP F0 F A0 A ∧ F 25 0 = 0) ∧ lasI (fun jj => ¬ clM (mF A0) c e jj) (Int.toNat (k + 1)) = lasI (fun jj => ¬ clM (mF A0) c e jj) (Int.toNat (p2 (mF A0 3))))
    | _, _, _ => False) (False)
def quX9_lastLeft_25 : Nat → LVs → List AV → FF → AA → Nat := fun pc ls _ F A => cond (Nat.beq pc 18) (match ls with
    | [some (.inr (.inr s0)), some (.inl s1), some (.inl s2), some (.inl k)] => Int.toNat (k + 1)
    | _ => 0) (0)
set_option maxRecDepth 20000 in
theorem qvX9_lastLeft_25_0 (c : Int) (e : Int) (F0 : FF) (A0 : AA) (K : KK) (h : (fgOK (mF A0) ∧ (-2147483648 ≤ c ∧ c < 2147483648) ∧ (-2147483648 ≤ e ∧ e < 2147483648)) ∧ (∀ (G_1 : FF) (B_1 : AA), (qdP F0 G_1 A0 B_1 ∧ G_1 25 0 = (if (0 ≤ c ∧ c < mF A0 0) ∧ 0 ≤ e ∧ e < mF A0 0 then 0 else 1)) → (K (some (some (vI (if (0 ≤ c ∧ c < mF A0 0) ∧ 0 ≤ e ∧ e < mF A0 0 then lasI (fun jj => ¬ clM (mF A0) c e jj) (Int.toNat (p2 (mF A0 3))) else 0)))) G_1 B_1))) : am_stp qxX9_lastLeft (am_run qxX9_lastLeft qnX9_lastLeft_25 (qiX9_lastLeft_25 c e F0 A0) K 13) K 0 (am_ent [vR 25, vI c, vI e] 4) [] F0 A0 0 := by
  show am_stp qxX9_lastLeft (am_run qxX9_lastLeft qnX9_lastLeft_25 (qiX9_lastLeft_25 c e F0 A0) K 13) K 0 [some (vR 25), some (vI c), some (vI e), none] [] F0 A0 0
  obtain ⟨hp, h⟩ := h
  have p1 := hp.1
  have q4 := p1.2.1.2
  have sb := sq_b q4.1 q4.2
  show (fgOK (mF A0) ∧ (-2147483648 ≤ c ∧ c < 2147483648) ∧ (-2147483648 ≤ e ∧ e < 2147483648)) ∧ ((w32 (bi ((0 ≤ c ∧ c < mF A0 0) ∧ 0 ≤ e ∧ e < mF A0 0)) = w32 0 → (K (some (some (vI 0))) (upF F0 25 0 (1 - bi ((0 ≤ c ∧ c < mF A0 0) ∧ 0 ≤ e ∧ e < mF A0 0))) A0)) ∧ (¬ (w32 (bi ((0 ≤ c ∧ c < mF A0 0) ∧ 0 ≤ e ∧ e < mF A0 0)) = w32 0) → ((True) ∧ (25 = 25 ∧ c = c ∧ e = e ∧ (((0 ≤ c ∧ c < mF A0 0) ∧ 0 ≤ e ∧ e < mF A0 0) ∧ (-1 ≤ ((x_shl 1 (mF A0 (2 + 1))) - 1) ∧ ((x_shl 1 (mF A0 (2 + 1))) - 1) < p2 (mF A0 3)) ∧ (qdP F0 (upF F0 25 0 (1 - bi ((0 ≤ c ∧ c < mF A0 0) ∧ 0 ≤ e ∧ e < mF A0 0))) A0 A0 ∧ (upF F0 25 0 (1 - bi ((0 ≤ c ∧ c < mF A0 0) ∧ 0 ≤ e ∧ e < mF A0 0))) 25 0 = 0) ∧ lasI (fun jj => ¬ clM (mF A0) c e jj) (Int.toNat (((x_shl 1 (mF A0 (2 + 1))) - 1) + 1)) = lasI (fun jj => ¬ clM (mF A0) c e jj) (Int.toNat (p2 (mF A0 3))))))))
  refine ⟨by first | trivial | exact ⟨p1, by omega, by omega⟩ | exact ⟨p1, c1.1, c1.2⟩ | omega, ?_⟩
  refine ⟨fun c1 => ?_, fun c1 => ?_⟩
  · skip
    (try simp only [w32_0, wbi0, Classical.not_not] at c1); (try simp (disch := omega) only [w32_id] at c1)
    exact K_eq (h _ _ ⟨qdP_F (by decide), by rw [upF_s, bi_f c1, if_neg c1]; rfl⟩) (if_neg c1)
  · skip
    (try simp only [w32_0, wbi0, Classical.not_not] at c1); (try simp (disch := omega) only [w32_id] at c1)
    refine ⟨by first | trivial | exact ⟨p1, by omega, by omega⟩ | exact ⟨p1, c1.1, c1.2⟩ | omega, ?_⟩
    refine ⟨rfl, rfl, rfl, ?_⟩
    have el : x_shl 1 (mF A0 (2 + 1)) = p2 (mF A0 3) := x_shl1 (by show 0 ≤ mF A0 3; omega) (by show mF A0 3 ≤ 12; omega)
    rw [el]
    exact ⟨c1, by omega, ⟨qdP_F (by decide), by rw [upF_s, bi_t c1]; rfl⟩, by rw [Int.sub_add_cancel]⟩
set_option maxRecDepth 20000 in
theorem qvX9_lastLeft_25_18 (c : Int) (e : Int) (F0 : FF) (A0 : AA) (K : KK) (h : (fgOK (mF A0) ∧ (-2147483648 ≤ c ∧ c < 2147483648) ∧ (-2147483648 ≤ e ∧ e < 2147483648)) ∧ (∀ (G_1 : FF) (B_1 : AA), (qdP F0 G_1 A0 B_1 ∧ G_1 25 0 = (if (0 ≤ c ∧ c < mF A0 0) ∧ 0 ≤ e ∧ e < mF A0 0 then 0 else 1)) → (K (some (some (vI (if (0 ≤ c ∧ c < mF A0 0) ∧ 0 ≤ e ∧ e < mF A0 0 then lasI (fun jj => ¬ clM (mF A0) c e jj) (Int.toNat (p2 (mF A0 3))) else 0)))) G_1 B_1))) (k : Int) (F : FF) (A : AA) (hi : ((0 ≤ c ∧ c < mF A0 0) ∧ 0 ≤ e ∧ e < mF A0 0) ∧ (-1 ≤ k ∧ k < p2 (mF A0 3)) ∧ (qdP F0 F A0 A ∧ F 25 0 = 0) ∧ lasI (fun jj => ¬ clM (mF A0) c e jj) (Int.toNat (k + 1)) = lasI (fun jj => ¬ clM (mF A0) c e jj) (Int.toNat (p2 (mF A0 3)))) : am_stp qxX9_lastLeft (am_run qxX9_lastLeft qnX9_lastLeft_25 (fun pc ls st F9 A9 u => qiX9_lastLeft_25 c e F0 A0 pc ls st F9 A9 u ∧ quX9_lastLeft_25 pc ls st F9 A9 < quX9_lastLeft_25 18 [some (vR 25), some (vI c), some (vI e), some (vI k)] [] F A) K 13) K 18 [some (vR 25), some (vI c), some (vI e), some (vI k)] [] F A 0 := by
  obtain ⟨hp, h⟩ := h
  have p1 := hp.1
  have q4 := p1.2.1.2
  have sb := sq_b q4.1 q4.2
  obtain ⟨h1, h2, ⟨hQ, hT⟩, h4⟩ := hi
  have eF := qdP_f hQ
  have el : x_shl 1 (mF A (2 + 1)) = p2 (mF A0 3) := by rw [eF]; exact x_shl1 (by show 0 ≤ mF A0 3; omega) (by show mF A0 3 ≤ 12; omega)
  show (w32 k < w32 0 → (K (some (some (vI (-1)))) F A)) ∧ (¬ w32 k < w32 0 → ((fgOK (mF A) ∧ (0 ≤ c ∧ c < mF A 0) ∧ (0 ≤ e ∧ e < mF A 0) ∧ 0 ≤ k ∧ k < p2 (mF A 3)) ∧ (∀ (B_1 : AA), (∀ b i, b ≠ 32 ∧ b ≠ 33 → B_1 b i = A b i) → ((w32 (bc (clM (mF A) c e k)) = w32 0 → (K (some (some (vI k))) F B_1)) ∧ (¬ w32 (bc (clM (mF A) c e k)) = w32 0 → ((25 = 25 ∧ c = c ∧ e = e ∧ (((0 ≤ c ∧ c < mF A0 0) ∧ 0 ≤ e ∧ e < mF A0 0) ∧ (-1 ≤ (k + (-1)) ∧ (k + (-1)) < p2 (mF A0 3)) ∧ (qdP F0 F A0 B_1 ∧ F 25 0 = 0) ∧ lasI (fun jj => ¬ clM (mF A0) c e jj) (Int.toNat ((k + (-1)) + 1)) = lasI (fun jj => ¬ clM (mF A0) c e jj) (Int.toNat (p2 (mF A0 3))))) ∧ (Int.toNat ((k + (-1)) + 1)) < (Int.toNat (k + 1))))))))
  refine ⟨fun c1 => ?_, fun c1 => ?_⟩
  · skip
    (try rw [el] at c1); (try simp only [w32_0, wbc0, Classical.not_not] at c1); (try rw [eF] at c1); (try simp (disch := omega) only [w32_id] at c1)
    first
    | (refine K_eq (h _ _ ⟨qdP_trans hQ (qdP_A (fun b i hb => g1 b i (by omega))), by rw [hT, if_pos h1]⟩) ?_
       rw [if_pos h1, ← h4]; exact lasI_t (by omega) c2)
    | (refine K_eq (h _ _ ⟨hQ, by rw [hT, if_pos h1]⟩) ?_
       rw [if_pos h1, ← h4]; exact lasI_0 (by omega))
  · skip
    (try rw [el] at c1); (try simp only [w32_0, wbc0, Classical.not_not] at c1); (try rw [eF] at c1); (try simp (disch := omega) only [w32_id] at c1)
    refine ⟨by first | trivial | omega | (rw [eF]; exact ⟨p1, h1.1, h1.2, by omega, h2.2⟩), ?_⟩
    intro B_1 g1
    refine ⟨fun c2 => ?_, fun c2 => ?_⟩
    · skip
      (try rw [el] at c2); (try simp only [w32_0, wbc0, Classical.not_not] at c2); (try rw [eF] at c2); (try simp (disch := omega) only [w32_id] at c2)
      first
      | (refine K_eq (h _ _ ⟨qdP_trans hQ (qdP_A (fun b i hb => g1 b i (by omega))), by rw [hT, if_pos h1]⟩) ?_
         rw [if_pos h1, ← h4]; exact lasI_t (by omega) c2)
      | (refine K_eq (h _ _ ⟨hQ, by rw [hT, if_pos h1]⟩) ?_
         rw [if_pos h1, ← h4]; exact lasI_0 (by omega))
    · skip
      (try rw [el] at c2); (try simp only [w32_0, wbc0, Classical.not_not] at c2); (try rw [eF] at c2); (try simp (disch := omega) only [w32_id] at c2)
      refine ⟨⟨rfl, rfl, rfl, ?_⟩, by omega⟩
      refine ⟨h1, by omega, ⟨qdP_trans hQ (qdP_A (fun b i hb => g1 b i (by omega))), hT⟩, ?_⟩
      rw [← h4, show k + -1 + 1 = k by omega]; exact (lasI_f (by omega) (fun z => z c2)).symm
set_option maxRecDepth 20000 in
theorem qvX9_lastLeft_25 (c : Int) (e : Int) (F0 : FF) (A0 : AA) (K : KK) (h : (fgOK (mF A0) ∧ (-2147483648 ≤ c ∧ c < 2147483648) ∧ (-2147483648 ≤ e ∧ e < 2147483648)) ∧ (∀ (G_1 : FF) (B_1 : AA), (qdP F0 G_1 A0 B_1 ∧ G_1 25 0 = (if (0 ≤ c ∧ c < mF A0 0) ∧ 0 ≤ e ∧ e < mF A0 0 then 0 else 1)) → (K (some (some (vI (if (0 ≤ c ∧ c < mF A0 0) ∧ 0 ≤ e ∧ e < mF A0 0 then lasI (fun jj => ¬ clM (mF A0) c e jj) (Int.toNat (p2 (mF A0 3))) else 0)))) G_1 B_1))) : am_body qxX9_lastLeft qnX9_lastLeft_25 13 (qiX9_lastLeft_25 c e F0 A0) quX9_lastLeft_25 [vR 25, vI c, vI e] 4 F0 A0 K := by
  refine ⟨qvX9_lastLeft_25_0 c e F0 A0 K h, fun pc ls st F A u hI => ?_⟩
  unfold qiX9_lastLeft_25 at hI
  replace hI := am_cond2 hI
  rcases hI with ⟨hb, hI⟩ | hI
  · have hb := am_bq hb
    subst hb
    split at hI
    · rename_i s0 s1 s2 k
      obtain ⟨e0, e1, e2, hI⟩ := hI
      subst e0
      subst e1
      subst e2
      exact qvX9_lastLeft_25_18 _ _ _ _ K h _ _ _ hI
    · exact hI.elim
  exact hI.elim
theorem qtX9_lastLeft (l : Launch) : am_CT l layM qeX9_lastLeft := am_met0 rfl (by decide +kernel) rfl rfl rfl rfl rfl (fun _ => rfl) rfl (qzX9_lastLeft l) (fun k e1 h => (qyX9_lastLeft l k e1 h).2) (fun as F A K h => by
  replace h : qsX9_lastLeft as F A K := h
  unfold qsX9_lastLeft at h
  split at h
  · rename_i o c e
    refine ⟨by first | exact Nat.le_of_ble_eq_true rfl | simp [am_fl, am_cat], ?_⟩
    replace h := am_cond2 h
    rcases h with ⟨hb, h⟩ | h
    · skip
      have hb0 := hb
      have hb0 := am_bq hb0
      subst hb0
      exact am_way_body (qvX9_lastLeft_25 c e F A K h)
    exact h.elim
  · exact h.elim)
def qkX9_near : Nat → Option CI := fun pc => cond (Nat.ble 47 pc) none (cond (Nat.ble 22 pc) (cond (Nat.ble 33 pc) (cond (Nat.ble 39 pc) (cond (Nat.ble 45 pc) (cond (Nat.beq pc 45) (some (.iload_n 2, 46, [])) (cond (Nat.beq pc 46) (some (.ireturn, 47, [])) (none))) (cond (Nat.beq pc 39) (some (.iinc 3 1, 42, [])) (cond (Nat.beq pc 42) (some (.goto (-38), 45, [4])) (none)))) (cond (Nat.ble 37 pc) (cond (Nat.beq pc 37) (some (.ior, 38, [])) (cond (Nat.beq pc 38) (some (.istore_n 2, 39, [])) (none))) (cond (Nat.beq pc 33) (some (.goto 4, 36, [37])) (cond (Nat.beq pc 36) (some (.iconst 0, 37, [])) (none))))) (cond (Nat.ble 27 pc) (cond (Nat.ble 31 pc) (cond (Nat.beq pc 31) (some (.iload_n 3, 32, [])) (cond (Nat.beq pc 32) (some (.ishl, 33, [])) (none))) (cond (Nat.beq pc 27) (some (.ifCond .le 9, 30, [36])) (cond (Nat.beq pc 30) (some (.iconst 1, 31, [])) (none)))) (cond (Nat.beq pc 22) (some (.iload_n 1, 23, [])) (cond (Nat.beq pc 23) (some (.iload_n 3, 24, [])) (cond (Nat.beq pc 24) (some (.invokevirtual 186, 27, [])) (none)))))) (cond (Nat.ble 9 pc) (cond (Nat.ble 16 pc) (cond (Nat.ble 18 pc) (cond (Nat.beq pc 18) (some (.if_icmp .eq 18, 21, [36])) (cond (Nat.beq pc 21) (some (.aload_n 0, 22, [])) (none))) (cond (Nat.beq pc 16) (some (.iload_n 3, 17, [])) (cond (Nat.beq pc 17) (some (.iload_n 1, 18, [])) (none)))) (cond (Nat.ble 12 pc) (cond (Nat.beq pc 12) (some (.if_icmp .ge 33, 15, [45])) (cond (Nat.beq pc 15) (some (.iload_n 2, 16, [])) (none))) (cond (Nat.beq pc 9) (some (.bipush 14, 11, [])) (cond (Nat.beq pc 11) (some (.iaload, 12, [])) (none))))) (cond (Nat.ble 3 pc) (cond (Nat.ble 5 pc) (cond (Nat.beq pc 5) (some (.aload_n 0, 6, [])) (cond (Nat.beq pc 6) (some (.getfield 13, 9, [])) (none))) (cond (Nat.beq pc 3) (some (.istore_n 3, 4, [])) (cond (Nat.beq pc 4) (some (.iload_n 3, 5, [])) (none)))) (cond (Nat.beq pc 0) (some (.iconst 0, 1, [])) (cond (Nat.beq pc 1) (some (.istore_n 2, 2, [])) (cond (Nat.beq pc 2) (some (.iconst 0, 3, [])) (none)))))))
theorem qkX9_near_ok : ∀ pc i nx ts, qkX9_near pc = some (i, nx, ts) → am_cok cX9_near pc (i, nx, ts) = true := fun pc i nx ts h => am_tok_ok (n := 47) (by decide +kernel) (fun pc h => by show cond (Nat.ble 47 pc) _ _ = _; rw [Nat.ble_eq_true_of_le h]; rfl) h
def qaX9_near : Nat → Option CE := fun k => cond (Nat.beq k 186) (some qeX9_laysPairs) (none)
theorem qyX9_near (l : Launch) : ∀ k e1, qaX9_near k = some e1 → am_cal l layM RX9 14 k e1 ∧ ceT e1 = 0 := q_cons ⟨am_calV (ci := 9) (qtX9_laysPairs l) qbX9_laysPairs (by decide) rfl (am_tb_at 1949 (by decide +kernel) rfl), rfl⟩ (q_nil)
def qxX9_near : CX := (qkX9_near, layM, qfX9, qaX9_near, qcX9, qlX9, qmX9, (some .int), false, none, 0, none, fun _ => none)
theorem qzX9_near (l : Launch) : am_sta l qxX9_near RX9 14 cX9_near := ⟨qkX9_near_ok, layM_ok, qfX9_ok, qcX9_ok, qlX9_ok, am_mthP qmX9_ok (by decide), fun k e1 h => (qyX9_near l k e1 h).1⟩
def qsX9_near : SP := fun as F A K => match as with
  | [.inr (.inr o), .inl c] => cond (Nat.beq o 25) ((fgOK (mF A) ∧ (0 ≤ c ∧ c < mF A 0)) ∧ (∀ (B_1 : AA), (∀ b i, b ≠ 32 ∧ b ≠ 33 ∧ b ≠ 38 ∧ b ≠ 39 → B_1 b i = A b i) → (K (some (some (vI (nrF (mF A) c (Int.toNat (mF A 0)))))) F B_1))) (False)
  | _ => False
def qeX9_near : CE := (yX9_near, cX9_near, 4, (some .int), 1, some 9, 0, [], 0, 14, qsX9_near)
theorem qbX9_near : am_mb qeX9_near := ⟨am_tb_at 2015 (by decide +kernel) rfl, am_tb_at 124 (by decide +kernel) rfl, ⟨by decide, by decide, by decide +kernel⟩, by decide, by decide, am_tb_at 2014 (by decide +kernel) rfl, am_tb_at 111 (by decide +kernel) rfl, _, _, rfl⟩
def qnX9_near_25 : CUT := fun pc => cond (Nat.beq pc 4) (some [true, true, true, true]) (none)
def qiX9_near_25 (c : Int) (F0 : FF) (A0 : AA) : REC := fun pc ls st F A u => cond (Nat.beq pc 4) (match ls, st, u with
    | [some (.inr (.inr s0)), some (.inl s1), some (.inl s), some (.inl k)], [], 0 => s0 = 25 ∧ s1 = c ∧ F = F0 ∧ ((0 ≤ k ∧ k ≤ mF A0 0) ∧ (∀ bb ii, bb ≠ 32 ∧ bb ≠ 33 ∧ bb ≠ 38 ∧ bb ≠ 39 → A bb ii = A0 bb ii) ∧ s = bitP (fun oo => ¬ oo = c ∧ ∃ ii jj, prX (mF A0) c oo (mF A0 3) ii jj) (Int.toNat k))
    | _, _, _ => False) (False)
def quX9_near_25 : Nat → LVs → List AV → FF → AA → Nat := fun pc ls _ F A => cond (Nat.beq pc 4) (match ls with
    | [some (.inr (.inr s0)), some (.inl s1), some (.inl s), some (.inl k)] => Int.toNat (20 - k)
    | _ => 0) (0)
set_option maxRecDepth 20000 in
theorem qvX9_near_25_0 (c : Int) (F0 : FF) (A0 : AA) (K : KK) (h : (fgOK (mF A0) ∧ (0 ≤ c ∧ c < mF A0 0)) ∧ (∀ (B_1 : AA), (∀ b i, b ≠ 32 ∧ b ≠ 33 ∧ b ≠ 38 ∧ b ≠ 39 → B_1 b i = A0 b i) → (K (some (some (vI (nrF (mF A0) c (Int.toNat (mF A0 0)))))) F0 B_1))) : am_stp qxX9_near (am_run qxX9_near qnX9_near_25 (qiX9_near_25 c F0 A0) K 26) K 0 (am_ent [vR 25, vI c] 4) [] F0 A0 0 := by
  show am_stp qxX9_near (am_run qxX9_near qnX9_near_25 (qiX9_near_25 c F0 A0) K 26) K 0 [some (vR 25), some (vI c), none, none] [] F0 A0 0
  obtain ⟨hp, h⟩ := h
  obtain ⟨p1, p2'⟩ := hp
  have q1 := p1.1.1
  have m0 : A0 27 14 = mF A0 0 := rfl
  have q4 := p1.2.1.2
  have sb := sq_b q4.1 q4.2
  show 25 = 25 ∧ c = c ∧ F0 = F0 ∧ ((0 ≤ 0 ∧ 0 ≤ mF A0 0) ∧ (∀ bb ii, bb ≠ 32 ∧ bb ≠ 33 ∧ bb ≠ 38 ∧ bb ≠ 39 → A0 bb ii = A0 bb ii) ∧ 0 = bitP (fun oo => ¬ oo = c ∧ ∃ ii jj, prX (mF A0) c oo (mF A0 3) ii jj) (Int.toNat 0))
  refine ⟨rfl, rfl, rfl, ?_⟩
  exact ⟨by omega, fun _ _ _ => rfl, rfl⟩
set_option maxRecDepth 20000 in
theorem qvX9_near_25_4 (c : Int) (F0 : FF) (A0 : AA) (K : KK) (h : (fgOK (mF A0) ∧ (0 ≤ c ∧ c < mF A0 0)) ∧ (∀ (B_1 : AA), (∀ b i, b ≠ 32 ∧ b ≠ 33 ∧ b ≠ 38 ∧ b ≠ 39 → B_1 b i = A0 b i) → (K (some (some (vI (nrF (mF A0) c (Int.toNat (mF A0 0)))))) F0 B_1))) (s : Int) (k : Int) (A : AA) (hi : (0 ≤ k ∧ k ≤ mF A0 0) ∧ (∀ bb ii, bb ≠ 32 ∧ bb ≠ 33 ∧ bb ≠ 38 ∧ bb ≠ 39 → A bb ii = A0 bb ii) ∧ s = bitP (fun oo => ¬ oo = c ∧ ∃ ii jj, prX (mF A0) c oo (mF A0 3) ii jj) (Int.toNat k)) : am_stp qxX9_near (am_run qxX9_near qnX9_near_25 (fun pc ls st F9 A9 u => qiX9_near_25 c F0 A0 pc ls st F9 A9 u ∧ quX9_near_25 pc ls st F9 A9 < quX9_near_25 4 [some (vR 25), some (vI c), some (vI s), some (vI k)] [] F0 A) K 26) K 4 [some (vR 25), some (vI c), some (vI s), some (vI k)] [] F0 A 0 := by
  obtain ⟨hp, h⟩ := h
  obtain ⟨p1, p2'⟩ := hp
  have q1 := p1.1.1
  have m0 : A0 27 14 = mF A0 0 := rfl
  have q4 := p1.2.1.2
  have sb := sq_b q4.1 q4.2
  obtain ⟨h1, hF, h3⟩ := hi
  have eF := fr_f hF
  have n0 : A 27 14 = mF A0 0 := by rw [← eF]; rfl
  show (0 ≤ w32 14 ∧ w32 14 < 16) ∧ ((w32 k < w32 (A 27 (w32 14)) → ((w32 k = w32 c → ((25 = 25 ∧ c = c ∧ F0 = F0 ∧ ((0 ≤ (k + 1) ∧ (k + 1) ≤ mF A0 0) ∧ (∀ bb ii, bb ≠ 32 ∧ bb ≠ 33 ∧ bb ≠ 38 ∧ bb ≠ 39 → A bb ii = A0 bb ii) ∧ (x_or s 0) = bitP (fun oo => ¬ oo = c ∧ ∃ ii jj, prX (mF A0) c oo (mF A0 3) ii jj) (Int.toNat (k + 1)))) ∧ (Int.toNat (20 - (k + 1))) < (Int.toNat (20 - k)))) ∧ (¬ w32 k = w32 c → ((fgOK (mF A) ∧ (0 ≤ c ∧ c < mF A 0) ∧ (0 ≤ k ∧ k < mF A 0)) ∧ (∀ (B_1 : AA), (pqP A B_1 c k) → ((w32 0 < w32 (cntQ (prK (mF A) c k) (Int.toNat (p2 (mF A 3) * p2 (mF A 3)))) → ((25 = 25 ∧ c = c ∧ F0 = F0 ∧ ((0 ≤ (k + 1) ∧ (k + 1) ≤ mF A0 0) ∧ (∀ bb ii, bb ≠ 32 ∧ bb ≠ 33 ∧ bb ≠ 38 ∧ bb ≠ 39 → B_1 bb ii = A0 bb ii) ∧ (x_or s (x_shl 1 k)) = bitP (fun oo => ¬ oo = c ∧ ∃ ii jj, prX (mF A0) c oo (mF A0 3) ii jj) (Int.toNat (k + 1)))) ∧ (Int.toNat (20 - (k + 1))) < (Int.toNat (20 - k)))) ∧ (¬ w32 0 < w32 (cntQ (prK (mF A) c k) (Int.toNat (p2 (mF A 3) * p2 (mF A 3)))) → ((25 = 25 ∧ c = c ∧ F0 = F0 ∧ ((0 ≤ (k + 1) ∧ (k + 1) ≤ mF A0 0) ∧ (∀ bb ii, bb ≠ 32 ∧ bb ≠ 33 ∧ bb ≠ 38 ∧ bb ≠ 39 → B_1 bb ii = A0 bb ii) ∧ (x_or s 0) = bitP (fun oo => ¬ oo = c ∧ ∃ ii jj, prX (mF A0) c oo (mF A0 3) ii jj) (Int.toNat (k + 1)))) ∧ (Int.toNat (20 - (k + 1))) < (Int.toNat (20 - k)))))))))) ∧ (¬ w32 k < w32 (A 27 (w32 14)) → (K (some (some (vI s))) F0 A)))
  refine ⟨by first | decide | omega | (rw [eF]; exact ⟨p1, p2', by omega, by omega⟩), ?_⟩
  refine ⟨fun c1 => ?_, fun c1 => ?_⟩
  · skip
    (try rw [n0] at c1); (try rw [eF] at c1); (try simp (disch := omega) only [w32_0, w32_id] at c1); (try (have cb := cntQ_b (prK (mF A0) c k) (Int.toNat (p2 (mF A0 3) * p2 (mF A0 3))); rw [w32_id (x := cntQ (prK (mF A0) c k) (Int.toNat (p2 (mF A0 3) * p2 (mF A0 3)))) (by omega) (by omega), near_cnt p1] at c1))
    refine ⟨fun c2 => ?_, fun c2 => ?_⟩
    · skip
      (try rw [n0] at c2); (try rw [eF] at c2); (try simp (disch := omega) only [w32_0, w32_id] at c2); (try (have cb := cntQ_b (prK (mF A0) c k) (Int.toNat (p2 (mF A0 3) * p2 (mF A0 3))); rw [w32_id (x := cntQ (prK (mF A0) c k) (Int.toNat (p2 (mF A0 3) * p2 (mF A0 3)))) (by omega) (by omega), near_cnt p1] at c2))
      refine ⟨⟨rfl, rfl, rfl, ?_⟩, by omega⟩
      first
      | (refine ⟨by omega, hF, ?_⟩
         rw [bitP_f (p := (fun oo => ¬ oo = c ∧ ∃ ii jj, prX (mF A0) c oo (mF A0 3) ii jj)) h1.1 (fun z => z.1 (by omega)), h3, bitP_0]; done)
      | (refine ⟨by omega, fun b i hb => (g1.1 b i hb).trans (hF b i hb), ?_⟩
         rw [bitP_t (p := (fun oo => ¬ oo = c ∧ ∃ ii jj, prX (mF A0) c oo (mF A0 3) ii jj)) h1.1 ⟨by omega, c3⟩, h3]; done)
      | (refine ⟨by omega, fun b i hb => (g1.1 b i hb).trans (hF b i hb), ?_⟩
         rw [bitP_f (p := (fun oo => ¬ oo = c ∧ ∃ ii jj, prX (mF A0) c oo (mF A0 3) ii jj)) h1.1 (fun z => c3 z.2), h3, bitP_0]; done)
    · skip
      (try rw [n0] at c2); (try rw [eF] at c2); (try simp (disch := omega) only [w32_0, w32_id] at c2); (try (have cb := cntQ_b (prK (mF A0) c k) (Int.toNat (p2 (mF A0 3) * p2 (mF A0 3))); rw [w32_id (x := cntQ (prK (mF A0) c k) (Int.toNat (p2 (mF A0 3) * p2 (mF A0 3)))) (by omega) (by omega), near_cnt p1] at c2))
      refine ⟨by first | decide | omega | (rw [eF]; exact ⟨p1, p2', by omega, by omega⟩), ?_⟩
      intro B_1 g1
      refine ⟨fun c3 => ?_, fun c3 => ?_⟩
      · skip
        (try rw [n0] at c3); (try rw [eF] at c3); (try simp (disch := omega) only [w32_0, w32_id] at c3); (try (have cb := cntQ_b (prK (mF A0) c k) (Int.toNat (p2 (mF A0 3) * p2 (mF A0 3))); rw [w32_id (x := cntQ (prK (mF A0) c k) (Int.toNat (p2 (mF A0 3) * p2 (mF A0 3)))) (by omega) (by omega), near_cnt p1] at c3))
        refine ⟨⟨rfl, rfl, rfl, ?_⟩, by omega⟩
        first
        | (refine ⟨by omega, hF, ?_⟩
           rw [bitP_f (p := (fun oo => ¬ oo = c ∧ ∃ ii jj, prX (mF A0) c oo (mF A0 3) ii jj)) h1.1 (fun z => z.1 (by omega)), h3, bitP_0]; done)
        | (refine ⟨by omega, fun b i hb => (g1.1 b i hb).trans (hF b i hb), ?_⟩
           rw [bitP_t (p := (fun oo => ¬ oo = c ∧ ∃ ii jj, prX (mF A0) c oo (mF A0 3) ii jj)) h1.1 ⟨by omega, c3⟩, h3]; done)
        | (refine ⟨by omega, fun b i hb => (g1.1 b i hb).trans (hF b i hb), ?_⟩
           rw [bitP_f (p := (fun oo => ¬ oo = c ∧ ∃ ii jj, prX (mF A0) c oo (mF A0 3) ii jj)) h1.1 (fun z => c3 z.2), h3, bitP_0]; done)
      · skip
        (try rw [n0] at c3); (try rw [eF] at c3); (try simp (disch := omega) only [w32_0, w32_id] at c3); (try (have cb := cntQ_b (prK (mF A0) c k) (Int.toNat (p2 (mF A0 3) * p2 (mF A0 3))); rw [w32_id (x := cntQ (prK (mF A0) c k) (Int.toNat (p2 (mF A0 3) * p2 (mF A0 3)))) (by omega) (by omega), near_cnt p1] at c3))
        refine ⟨⟨rfl, rfl, rfl, ?_⟩, by omega⟩
        first
        | (refine ⟨by omega, hF, ?_⟩
           rw [bitP_f (p := (fun oo => ¬ oo = c ∧ ∃ ii jj, prX (mF A0) c oo (mF A0 3) ii jj)) h1.1 (fun z => z.1 (by omega)), h3, bitP_0]; done)
        | (refine ⟨by omega, fun b i hb => (g1.1 b i hb).trans (hF b i hb), ?_⟩
           rw [bitP_t (p := (fun oo => ¬ oo = c ∧ ∃ ii jj, prX (mF A0) c oo (mF A0 3) ii jj)) h1.1 ⟨by omega, c3⟩, h3]; done)
        | (refine ⟨by omega, fun b i hb => (g1.1 b i hb).trans (hF b i hb), ?_⟩
           rw [bitP_f (p := (fun oo => ¬ oo = c ∧ ∃ ii jj, prX (mF A0) c oo (mF A0 3) ii jj)) h1.1 (fun z => c3 z.2), h3, bitP_0]; done)
  · skip
    (try rw [n0] at c1); (try rw [eF] at c1); (try simp (disch := omega) only [w32_0, w32_id] at c1); (try (have cb := cntQ_b (prK (mF A0) c k) (Int.toNat (p2 (mF A0 3) * p2 (mF A0 3))); rw [w32_id (x := cntQ (prK (mF A0) c k) (Int.toNat (p2 (mF A0 3) * p2 (mF A0 3)))) (by omega) (by omega), near_cnt p1] at c1))
    exact K_eq (h _ hF) (by rw [h3]; unfold nrF; rw [show k = mF A0 0 by omega])
set_option maxRecDepth 20000 in
theorem qvX9_near_25 (c : Int) (F0 : FF) (A0 : AA) (K : KK) (h : (fgOK (mF A0) ∧ (0 ≤ c ∧ c < mF A0 0)) ∧ (∀ (B_1 : AA), (∀ b i, b ≠ 32 ∧ b ≠ 33 ∧ b ≠ 38 ∧ b ≠ 39 → B_1 b i = A0 b i) → (K (some (some (vI (nrF (mF A0) c (Int.toNat (mF A0 0)))))) F0 B_1))) : am_body qxX9_near qnX9_near_25 26 (qiX9_near_25 c F0 A0) quX9_near_25 [vR 25, vI c] 4 F0 A0 K := by
  refine ⟨qvX9_near_25_0 c F0 A0 K h, fun pc ls st F A u hI => ?_⟩
  unfold qiX9_near_25 at hI
  replace hI := am_cond2 hI
  rcases hI with ⟨hb, hI⟩ | hI
  · have hb := am_bq hb
    subst hb
    split at hI
    · rename_i s0 s1 s k
      obtain ⟨e0, e1, e2, hI⟩ := hI
      subst e0
      subst e1
      subst e2
      exact qvX9_near_25_4 _ _ _ K h _ _ _ hI
    · exact hI.elim
  exact hI.elim
theorem qtX9_near (l : Launch) : am_CT l layM qeX9_near := am_met0 rfl (by decide +kernel) rfl rfl rfl rfl rfl (fun _ => rfl) rfl (qzX9_near l) (fun k e1 h => (qyX9_near l k e1 h).2) (fun as F A K h => by
  replace h : qsX9_near as F A K := h
  unfold qsX9_near at h
  split at h
  · rename_i o c
    refine ⟨by first | exact Nat.le_of_ble_eq_true rfl | simp [am_fl, am_cat], ?_⟩
    replace h := am_cond2 h
    rcases h with ⟨hb, h⟩ | h
    · skip
      have hb0 := hb
      have hb0 := am_bq hb0
      subst hb0
      exact am_way_body (qvX9_near_25 c F A K h)
    exact h.elim
  · exact h.elim)
def qkX9_curvesNear : Nat → Option CI := fun pc => cond (Nat.ble 22 pc) none (cond (Nat.ble 12 pc) (cond (Nat.ble 17 pc) (cond (Nat.beq pc 17) (some (.goto 4, 20, [21])) (cond (Nat.beq pc 20) (some (.iconst 0, 21, [])) (cond (Nat.beq pc 21) (some (.ireturn, 22, [])) (none)))) (cond (Nat.beq pc 12) (some (.aload_n 0, 13, [])) (cond (Nat.beq pc 13) (some (.iload_n 1, 14, [])) (cond (Nat.beq pc 14) (some (.invokevirtual 402, 17, [])) (none))))) (cond (Nat.ble 3 pc) (cond (Nat.beq pc 3) (some (.invokevirtual 298, 6, [])) (cond (Nat.beq pc 6) (some (.invokevirtual 301, 9, [])) (cond (Nat.beq pc 9) (some (.ifCond .eq 11, 12, [20])) (none)))) (cond (Nat.beq pc 0) (some (.aload_n 0, 1, [])) (cond (Nat.beq pc 1) (some (.aload_n 0, 2, [])) (cond (Nat.beq pc 2) (some (.iload_n 1, 3, [])) (none))))))
theorem qkX9_curvesNear_ok : ∀ pc i nx ts, qkX9_curvesNear pc = some (i, nx, ts) → am_cok cX9_curvesNear pc (i, nx, ts) = true := fun pc i nx ts h => am_tok_ok (n := 22) (by decide +kernel) (fun pc h => by show cond (Nat.ble 22 pc) _ _ = _; rw [Nat.ble_eq_true_of_le h]; rfl) h
def qaX9_curvesNear : Nat → Option CE := fun k => cond (Nat.beq k 298) (some qeX9_isCurve) (cond (Nat.beq k 301) (some qeX9_checks) (cond (Nat.beq k 402) (some qeX9_near) (none)))
theorem qyX9_curvesNear (l : Launch) : ∀ k e1, qaX9_curvesNear k = some e1 → am_cal l layM RX9 15 k e1 ∧ ceT e1 = 0 := q_cons ⟨am_calV (ci := 9) (qtX9_isCurve l) qbX9_isCurve (by decide) rfl (am_tb_at 1651 (by decide +kernel) rfl), rfl⟩ (q_cons ⟨am_calV (ci := 9) (qtX9_checks l) qbX9_checks (by decide) rfl (am_tb_at 1655 (by decide +kernel) rfl), rfl⟩ (q_cons ⟨am_calV (ci := 9) (qtX9_near l) qbX9_near (by decide) rfl (am_tb_at 2012 (by decide +kernel) rfl), rfl⟩ (q_nil)))
def qxX9_curvesNear : CX := (qkX9_curvesNear, layM, qfX9, qaX9_curvesNear, qcX9, qlX9, qmX9, (some .int), false, none, 0, none, fun _ => none)
theorem qzX9_curvesNear (l : Launch) : am_sta l qxX9_curvesNear RX9 15 cX9_curvesNear := ⟨qkX9_curvesNear_ok, layM_ok, qfX9_ok, qcX9_ok, qlX9_ok, am_mthP qmX9_ok (by decide), fun k e1 h => (qyX9_curvesNear l k e1 h).1⟩
def qsX9_curvesNear : SP := fun as F A K => match as with
  | [.inr (.inr o), .inl c] => cond (Nat.beq o 25) ((fgOK (mF A) ∧ (-2147483648 ≤ c ∧ c < 2147483648)) ∧ (∀ (G_1 : FF) (B_1 : AA), (qdP F G_1 A B_1 ∧ G_1 25 0 = (if 0 ≤ c ∧ c < mF A 0 then 0 else 1)) → (K (some (some (vI (if 0 ≤ c ∧ c < mF A 0 then nrF (mF A) c (Int.toNat (mF A 0)) else 0)))) G_1 B_1))) (False)
  | _ => False
def qeX9_curvesNear : CE := (yX9_curvesNear, cX9_curvesNear, 2, (some .int), 1, some 9, 0, [], 0, 15, qsX9_curvesNear)
theorem qbX9_curvesNear : am_mb qeX9_curvesNear := ⟨am_tb_at 2011 (by decide +kernel) rfl, am_tb_at 124 (by decide +kernel) rfl, ⟨by decide, by decide, by decide +kernel⟩, by decide, by decide, am_tb_at 2009 (by decide +kernel) rfl, am_tb_at 2010 (by decide +kernel) rfl, _, _, rfl⟩
set_option maxRecDepth 20000 in
theorem qvX9_curvesNear_25 (c : Int) (F : FF) (A : AA) (K : KK) (h : (fgOK (mF A) ∧ (-2147483648 ≤ c ∧ c < 2147483648)) ∧ (∀ (G_1 : FF) (B_1 : AA), (qdP F G_1 A B_1 ∧ G_1 25 0 = (if 0 ≤ c ∧ c < mF A 0 then 0 else 1)) → (K (some (some (vI (if 0 ≤ c ∧ c < mF A 0 then nrF (mF A) c (Int.toNat (mF A 0)) else 0)))) G_1 B_1))) : am_line qxX9_curvesNear 12 [vR 25, vI c] 2 F A K := by
  show am_stp qxX9_curvesNear (am_run qxX9_curvesNear (fun _ => none) (fun _ _ _ _ _ _ => False) K 12) K 0 [some (vR 25), some (vI c)] [] F A 0
  obtain ⟨hp, h⟩ := h
  have p1 := hp.1
  have q1 := p1.1.1
  have q2 := p1.1.2
  have q4 := p1.2.1

  show ((0 ≤ mF A 0 ∧ mF A 0 ≤ 8) ∧ (0 ≤ mF A 1 ∧ mF A 1 ≤ 6) ∧ (-2147483648 ≤ c ∧ c < 2147483648)) ∧ (((bi (0 ≤ c ∧ c < mF A 0)) = 0 ∨ (bi (0 ≤ c ∧ c < mF A 0)) = 1) ∧ ((w32 (bi (0 ≤ c ∧ c < mF A 0)) = w32 0 → (K (some (some (vI 0))) (upF F 25 0 (1 - (bi (0 ≤ c ∧ c < mF A 0)))) A)) ∧ (¬ (w32 (bi (0 ≤ c ∧ c < mF A 0)) = w32 0) → ((fgOK (mF A) ∧ (0 ≤ c ∧ c < mF A 0)) ∧ (∀ (B_1 : AA), (∀ b i, b ≠ 32 ∧ b ≠ 33 ∧ b ≠ 38 ∧ b ≠ 39 → B_1 b i = A b i) → (K (some (some (vI (nrF (mF A) c (Int.toNat (mF A 0)))))) (upF F 25 0 (1 - (bi (0 ≤ c ∧ c < mF A 0)))) B_1))))))
  refine ⟨by omega, ?_⟩
  refine ⟨by first | exact bi_01 | exact ⟨p1, c1⟩ | omega, ?_⟩
  refine ⟨fun c1 => ?_, fun c1 => ?_⟩
  · skip
    (try simp (disch := omega) only [fat_in, w32_0, wbi0, Classical.not_not, w32_id] at c1)
    first
    | exact K_eq (h _ _ ⟨qdP_F (by decide), by rw [upF_s, bi_f c1, if_neg c1]; rfl⟩) (if_neg c1)
    | exact K_eq (h _ _ ⟨qdP_trans (qdP_F (by decide)) (qdP_A (fun b i hb => g1 b i (by omega))), by rw [upF_s, bi_t c1, if_pos c1]; rfl⟩) (by rw [if_pos c1])
  · skip
    (try simp (disch := omega) only [fat_in, w32_0, wbi0, Classical.not_not, w32_id] at c1)
    refine ⟨by first | exact bi_01 | exact ⟨p1, c1⟩ | omega, ?_⟩
    intro B_1 g1
    first
    | exact K_eq (h _ _ ⟨qdP_F (by decide), by rw [upF_s, bi_f c1, if_neg c1]; rfl⟩) (if_neg c1)
    | exact K_eq (h _ _ ⟨qdP_trans (qdP_F (by decide)) (qdP_A (fun b i hb => g1 b i (by omega))), by rw [upF_s, bi_t c1, if_pos c1]; rfl⟩) (by rw [if_pos c1])
theorem qtX9_curvesNear (l : Launch) : am_CT l layM qeX9_curvesNear := am_met0 rfl (by decide +kernel) rfl rfl rfl rfl rfl (fun _ => rfl) rfl (qzX9_curvesNear l) (fun k e1 h => (qyX9_curvesNear l k e1 h).2) (fun as F A K h => by
  replace h : qsX9_curvesNear as F A K := h
  unfold qsX9_curvesNear at h
  split at h
  · rename_i o c
    refine ⟨by first | exact Nat.le_of_ble_eq_true rfl | simp [am_fl, am_cat], ?_⟩
    replace h := am_cond2 h
    rcases h with ⟨hb, h⟩ | h
    · skip
      have hb0 := hb
      have hb0 := am_bq hb0
      subst hb0
      exact am_way_line (qvX9_curvesNear_25 c F A K h)
    exact h.elim
  · exact h.elim)
def qkX9_busiestCurve : Nat → Option CI := fun pc => cond (Nat.ble 54 pc) none (cond (Nat.ble 23 pc) (cond (Nat.ble 41 pc) (cond (Nat.ble 46 pc) (cond (Nat.ble 52 pc) (cond (Nat.beq pc 52) (some (.iload_n 1, 53, [])) (cond (Nat.beq pc 53) (some (.ireturn, 54, [])) (none))) (cond (Nat.beq pc 46) (some (.iinc 3 1, 49, [])) (cond (Nat.beq pc 49) (some (.goto (-38), 52, [11])) (none)))) (cond (Nat.ble 43 pc) (cond (Nat.beq pc 43) (some (.iload 4, 45, [])) (cond (Nat.beq pc 45) (some (.istore_n 2, 46, [])) (none))) (cond (Nat.beq pc 41) (some (.iload_n 3, 42, [])) (cond (Nat.beq pc 42) (some (.istore_n 1, 43, [])) (none))))) (cond (Nat.ble 32 pc) (cond (Nat.ble 35 pc) (cond (Nat.beq pc 35) (some (.if_icmp .gt 6, 38, [41])) (cond (Nat.beq pc 38) (some (.goto 8, 41, [46])) (none))) (cond (Nat.beq pc 32) (some (.iload 4, 34, [])) (cond (Nat.beq pc 34) (some (.iload_n 2, 35, [])) (none)))) (cond (Nat.ble 27 pc) (cond (Nat.beq pc 27) (some (.invokestatic 405, 30, [])) (cond (Nat.beq pc 30) (some (.istore 4, 32, [])) (none))) (cond (Nat.beq pc 23) (some (.iload_n 3, 24, [])) (cond (Nat.beq pc 24) (some (.invokevirtual 402, 27, [])) (none)))))) (cond (Nat.ble 10 pc) (cond (Nat.ble 16 pc) (cond (Nat.ble 19 pc) (cond (Nat.beq pc 19) (some (.if_icmp .ge 33, 22, [52])) (cond (Nat.beq pc 22) (some (.aload_n 0, 23, [])) (none))) (cond (Nat.beq pc 16) (some (.bipush 14, 18, [])) (cond (Nat.beq pc 18) (some (.iaload, 19, [])) (none)))) (cond (Nat.ble 12 pc) (cond (Nat.beq pc 12) (some (.aload_n 0, 13, [])) (cond (Nat.beq pc 13) (some (.getfield 13, 16, [])) (none))) (cond (Nat.beq pc 10) (some (.istore_n 3, 11, [])) (cond (Nat.beq pc 11) (some (.iload_n 3, 12, [])) (none))))) (cond (Nat.ble 6 pc) (cond (Nat.ble 8 pc) (cond (Nat.beq pc 8) (some (.istore_n 2, 9, [])) (cond (Nat.beq pc 9) (some (.iconst 0, 10, [])) (none))) (cond (Nat.beq pc 6) (some (.istore_n 1, 7, [])) (cond (Nat.beq pc 7) (some (.iconst (-1), 8, [])) (none)))) (cond (Nat.ble 2 pc) (cond (Nat.beq pc 2) (some (.putfield 70, 5, [])) (cond (Nat.beq pc 5) (some (.iconst (-1), 6, [])) (none))) (cond (Nat.beq pc 0) (some (.aload_n 0, 1, [])) (cond (Nat.beq pc 1) (some (.iconst 0, 2, [])) (none)))))))
theorem qkX9_busiestCurve_ok : ∀ pc i nx ts, qkX9_busiestCurve pc = some (i, nx, ts) → am_cok cX9_busiestCurve pc (i, nx, ts) = true := fun pc i nx ts h => am_tok_ok (n := 54) (by decide +kernel) (fun pc h => by show cond (Nat.ble 54 pc) _ _ = _; rw [Nat.ble_eq_true_of_le h]; rfl) h
def qaX9_busiestCurve : Nat → Option CE := fun k => cond (Nat.beq k 402) (some qeX9_near) (cond (Nat.beq k 405) (some qeX9_bits) (none))
theorem qyX9_busiestCurve (l : Launch) : ∀ k e1, qaX9_busiestCurve k = some e1 → am_cal l layM RX9 15 k e1 ∧ ceT e1 = 0 := q_cons ⟨am_calV (ci := 9) (qtX9_near l) qbX9_near (by decide) rfl (am_tb_at 2012 (by decide +kernel) rfl), rfl⟩ (q_cons ⟨am_calS (qtX9_bits l) qbX9_bits (by decide) rfl (by decide) (am_tb_at 2020 (by decide +kernel) rfl), rfl⟩ (q_nil))
def qxX9_busiestCurve : CX := (qkX9_busiestCurve, layM, qfX9, qaX9_busiestCurve, qcX9, qlX9, qmX9, (some .int), false, none, 0, none, fun _ => none)
theorem qzX9_busiestCurve (l : Launch) : am_sta l qxX9_busiestCurve RX9 15 cX9_busiestCurve := ⟨qkX9_busiestCurve_ok, layM_ok, qfX9_ok, qcX9_ok, qlX9_ok, am_mthP qmX9_ok (by decide), fun k e1 h => (qyX9_busiestCurve l k e1 h).1⟩
def qsX9_busiestCurve : SP := fun as F A K => match as with
  | [.inr (.inr o)] => cond (Nat.beq o 25) ((fgOK (mF A)) ∧ (∀ (G_1 : FF) (B_1 : AA), (qdP F G_1 A B_1 ∧ G_1 25 0 = 0) → (K (some (some (vI ((bestI (fun kk => bitN (nrF (mF A) kk (Int.toNat (mF A 0)))) (Int.toNat (mF A 0))).1)))) G_1 B_1))) (False)
  | _ => False
def qeX9_busiestCurve : CE := (yX9_busiestCurve, cX9_busiestCurve, 5, (some .int), 0, some 9, 0, [], 0, 15, qsX9_busiestCurve)
theorem qbX9_busiestCurve : am_mb qeX9_busiestCurve := ⟨am_tb_at 2019 (by decide +kernel) rfl, am_tb_at 124 (by decide +kernel) rfl, ⟨by decide, by decide, by decide +kernel⟩, by decide, by decide, am_tb_at 2017 (by decide +kernel) rfl, am_tb_at 2018 (by decide +kernel) rfl, _, _, rfl⟩
def qnX9_busiestCurve_25 : CUT := fun pc => cond (Nat.beq pc 11) (some [true, true, true, true, false]) (none)
def qiX9_busiestCurve_25  (F0 : FF) (A0 : AA) : REC := fun pc ls st F A u => cond (Nat.beq pc 11) (match ls, st, u with
    | [some (.inr (.inr s0)), some (.inl w), some (.inl v), some (.inl k), none], [], 0 => s0 = 25 ∧ ((0 ≤ k ∧ k ≤ mF A0 0) ∧ (-1 ≤ v ∧ v ≤ 32) ∧ (qdP F0 F A0 A ∧ F 25 0 = 0) ∧ (w, v) = bestI (fun kk => bitN (nrF (mF A0) kk (Int.toNat (mF A0 0)))) (Int.toNat k))
    | _, _, _ => False) (False)
def quX9_busiestCurve_25 : Nat → LVs → List AV → FF → AA → Nat := fun pc ls _ F A => cond (Nat.beq pc 11) (match ls with
    | [some (.inr (.inr s0)), some (.inl w), some (.inl v), some (.inl k), none] => Int.toNat (20 - k)
    | _ => 0) (0)
set_option maxRecDepth 20000 in
theorem qvX9_busiestCurve_25_0  (F0 : FF) (A0 : AA) (K : KK) (h : (fgOK (mF A0)) ∧ (∀ (G_1 : FF) (B_1 : AA), (qdP F0 G_1 A0 B_1 ∧ G_1 25 0 = 0) → (K (some (some (vI ((bestI (fun kk => bitN (nrF (mF A0) kk (Int.toNat (mF A0 0)))) (Int.toNat (mF A0 0))).1)))) G_1 B_1))) : am_stp qxX9_busiestCurve (am_run qxX9_busiestCurve qnX9_busiestCurve_25 (qiX9_busiestCurve_25  F0 A0) K 23) K 0 (am_ent [vR 25] 5) [] F0 A0 0 := by
  show am_stp qxX9_busiestCurve (am_run qxX9_busiestCurve qnX9_busiestCurve_25 (qiX9_busiestCurve_25  F0 A0) K 23) K 0 [some (vR 25), none, none, none, none] [] F0 A0 0
  obtain ⟨hp, h⟩ := h
  have p1 := hp
  have q1 := p1.1.1
  show 25 = 25 ∧ ((0 ≤ 0 ∧ 0 ≤ mF A0 0) ∧ (-1 ≤ (-1) ∧ (-1) ≤ 32) ∧ (qdP F0 (upF F0 25 0 0) A0 A0 ∧ (upF F0 25 0 0) 25 0 = 0) ∧ ((-1), (-1)) = bestI (fun kk => bitN (nrF (mF A0) kk (Int.toNat (mF A0 0)))) (Int.toNat 0))
  refine ⟨rfl, ?_⟩
  exact ⟨⟨by omega, by omega⟩, by omega, ⟨qdP_F (by decide), upF_s⟩, rfl⟩
set_option maxRecDepth 20000 in
theorem qvX9_busiestCurve_25_11  (F0 : FF) (A0 : AA) (K : KK) (h : (fgOK (mF A0)) ∧ (∀ (G_1 : FF) (B_1 : AA), (qdP F0 G_1 A0 B_1 ∧ G_1 25 0 = 0) → (K (some (some (vI ((bestI (fun kk => bitN (nrF (mF A0) kk (Int.toNat (mF A0 0)))) (Int.toNat (mF A0 0))).1)))) G_1 B_1))) (w : Int) (v : Int) (k : Int) (F : FF) (A : AA) (hi : (0 ≤ k ∧ k ≤ mF A0 0) ∧ (-1 ≤ v ∧ v ≤ 32) ∧ (qdP F0 F A0 A ∧ F 25 0 = 0) ∧ (w, v) = bestI (fun kk => bitN (nrF (mF A0) kk (Int.toNat (mF A0 0)))) (Int.toNat k)) : am_stp qxX9_busiestCurve (am_run qxX9_busiestCurve qnX9_busiestCurve_25 (fun pc ls st F9 A9 u => qiX9_busiestCurve_25  F0 A0 pc ls st F9 A9 u ∧ quX9_busiestCurve_25 pc ls st F9 A9 < quX9_busiestCurve_25 11 [some (vR 25), some (vI w), some (vI v), some (vI k), none] [] F A) K 23) K 11 [some (vR 25), some (vI w), some (vI v), some (vI k), none] [] F A 0 := by
  obtain ⟨hp, h⟩ := h
  have p1 := hp
  have q1 := p1.1.1
  obtain ⟨h1, h2, ⟨hQ, hT⟩, h4⟩ := hi
  have eF := qdP_f hQ
  have n0 : A 27 14 = mF A0 0 := by rw [← eF]; rfl
  show (0 ≤ w32 14 ∧ w32 14 < 16) ∧ ((w32 k < w32 (A 27 (w32 14)) → ((fgOK (mF A) ∧ (0 ≤ k ∧ k < mF A 0)) ∧ (∀ (B_1 : AA), (∀ b i, b ≠ 32 ∧ b ≠ 33 ∧ b ≠ 38 ∧ b ≠ 39 → B_1 b i = A b i) → (((-2147483648 ≤ (nrF (mF A) k (Int.toNat (mF A 0))) ∧ (nrF (mF A) k (Int.toNat (mF A 0))) < 2147483648)) ∧ ((w32 v < w32 (bitM (nrF (mF A) k (Int.toNat (mF A 0)))) → ((25 = 25 ∧ ((0 ≤ (k + 1) ∧ (k + 1) ≤ mF A0 0) ∧ (-1 ≤ (bitM (nrF (mF A) k (Int.toNat (mF A 0)))) ∧ (bitM (nrF (mF A) k (Int.toNat (mF A 0)))) ≤ 32) ∧ (qdP F0 F A0 B_1 ∧ F 25 0 = 0) ∧ (k, (bitM (nrF (mF A) k (Int.toNat (mF A 0))))) = bestI (fun kk => bitN (nrF (mF A0) kk (Int.toNat (mF A0 0)))) (Int.toNat (k + 1)))) ∧ (Int.toNat (20 - (k + 1))) < (Int.toNat (20 - k)))) ∧ (¬ w32 v < w32 (bitM (nrF (mF A) k (Int.toNat (mF A 0)))) → ((25 = 25 ∧ ((0 ≤ (k + 1) ∧ (k + 1) ≤ mF A0 0) ∧ (-1 ≤ v ∧ v ≤ 32) ∧ (qdP F0 F A0 B_1 ∧ F 25 0 = 0) ∧ (w, v) = bestI (fun kk => bitN (nrF (mF A0) kk (Int.toNat (mF A0 0)))) (Int.toNat (k + 1)))) ∧ (Int.toNat (20 - (k + 1))) < (Int.toNat (20 - k))))))))) ∧ (¬ w32 k < w32 (A 27 (w32 14)) → (K (some (some (vI w))) F A)))
  refine ⟨by first | decide | omega | (rw [eF]; exact ⟨p1, h1.1, by omega⟩), ?_⟩
  refine ⟨fun c1 => ?_, fun c1 => ?_⟩
  · skip
    (try rw [n0] at c1); (try rw [eF] at c1); (try simp (disch := omega) only [w32_0, w32_id] at c1); (try (have b9 := bitN_b (nrF (mF A0) k (Int.toNat (mF A0 0))); rw [w32_id (by omega) (by omega), w32_id (by omega) (by omega)] at c1))
    refine ⟨by first | decide | omega | (rw [eF]; exact ⟨p1, h1.1, by omega⟩), ?_⟩
    intro B_1 g1
    rw [eF]
    have n9 : 0 ≤ nrF (mF A0) k (Int.toNat (mF A0 0)) ∧ nrF (mF A0) k (Int.toNat (mF A0 0)) ≤ 255 := bitP_b (fun o => ¬ o = k ∧ ∃ ii jj, prX (mF A0) k o (mF A0 3) ii jj) (Int.toNat (mF A0 0)) (by omega)
    rw [bitM_N n9.1 n9.2]
    have b9 := bitN_b (nrF (mF A0) k (Int.toNat (mF A0 0)))
    refine ⟨by first | decide | omega | (rw [eF]; exact ⟨p1, h1.1, by omega⟩), ?_⟩
    refine ⟨fun c2 => ?_, fun c2 => ?_⟩
    · skip
      (try rw [n0] at c2); (try rw [eF] at c2); (try simp (disch := omega) only [w32_0, w32_id] at c2); (try (have b9 := bitN_b (nrF (mF A0) k (Int.toNat (mF A0 0))); rw [w32_id (by omega) (by omega), w32_id (by omega) (by omega)] at c2))
      refine ⟨⟨rfl, ?_⟩, by omega⟩
      first
      | exact ⟨by omega, by omega, ⟨qdP_trans hQ (qdP_A (fun b i hb => g1 b i (by omega))), hT⟩, bestI_t h1.1 h4 (by omega)⟩
      | exact ⟨by omega, h2, ⟨qdP_trans hQ (qdP_A (fun b i hb => g1 b i (by omega))), hT⟩, bestI_f h1.1 h4 (by omega)⟩
    · skip
      (try rw [n0] at c2); (try rw [eF] at c2); (try simp (disch := omega) only [w32_0, w32_id] at c2); (try (have b9 := bitN_b (nrF (mF A0) k (Int.toNat (mF A0 0))); rw [w32_id (by omega) (by omega), w32_id (by omega) (by omega)] at c2))
      refine ⟨⟨rfl, ?_⟩, by omega⟩
      first
      | exact ⟨by omega, by omega, ⟨qdP_trans hQ (qdP_A (fun b i hb => g1 b i (by omega))), hT⟩, bestI_t h1.1 h4 (by omega)⟩
      | exact ⟨by omega, h2, ⟨qdP_trans hQ (qdP_A (fun b i hb => g1 b i (by omega))), hT⟩, bestI_f h1.1 h4 (by omega)⟩
  · skip
    (try rw [n0] at c1); (try rw [eF] at c1); (try simp (disch := omega) only [w32_0, w32_id] at c1); (try (have b9 := bitN_b (nrF (mF A0) k (Int.toNat (mF A0 0))); rw [w32_id (by omega) (by omega), w32_id (by omega) (by omega)] at c1))
    exact K_eq (h _ _ ⟨hQ, hT⟩) (by rw [show k = mF A0 0 by omega] at h4; rw [← h4])
set_option maxRecDepth 20000 in
theorem qvX9_busiestCurve_25  (F0 : FF) (A0 : AA) (K : KK) (h : (fgOK (mF A0)) ∧ (∀ (G_1 : FF) (B_1 : AA), (qdP F0 G_1 A0 B_1 ∧ G_1 25 0 = 0) → (K (some (some (vI ((bestI (fun kk => bitN (nrF (mF A0) kk (Int.toNat (mF A0 0)))) (Int.toNat (mF A0 0))).1)))) G_1 B_1))) : am_body qxX9_busiestCurve qnX9_busiestCurve_25 23 (qiX9_busiestCurve_25  F0 A0) quX9_busiestCurve_25 [vR 25] 5 F0 A0 K := by
  refine ⟨qvX9_busiestCurve_25_0  F0 A0 K h, fun pc ls st F A u hI => ?_⟩
  unfold qiX9_busiestCurve_25 at hI
  replace hI := am_cond2 hI
  rcases hI with ⟨hb, hI⟩ | hI
  · have hb := am_bq hb
    subst hb
    split at hI
    · rename_i s0 w v k
      obtain ⟨e0, hI⟩ := hI
      subst e0
      exact qvX9_busiestCurve_25_11  _ _ K h _ _ _ _ _ hI
    · exact hI.elim
  exact hI.elim
theorem qtX9_busiestCurve (l : Launch) : am_CT l layM qeX9_busiestCurve := am_met0 rfl (by decide +kernel) rfl rfl rfl rfl rfl (fun _ => rfl) rfl (qzX9_busiestCurve l) (fun k e1 h => (qyX9_busiestCurve l k e1 h).2) (fun as F A K h => by
  replace h : qsX9_busiestCurve as F A K := h
  unfold qsX9_busiestCurve at h
  split at h
  · rename_i o
    refine ⟨by first | exact Nat.le_of_ble_eq_true rfl | simp [am_fl, am_cat], ?_⟩
    replace h := am_cond2 h
    rcases h with ⟨hb, h⟩ | h
    · skip
      have hb0 := hb
      have hb0 := am_bq hb0
      subst hb0
      exact am_way_body (qvX9_busiestCurve_25  F A K h)
    exact h.elim
  · exact h.elim)
