def qkX9_insertPoint : Nat → Option CI := fun pc => cond (Nat.ble 167 pc) none (cond (Nat.ble 87 pc) (cond (Nat.ble 131 pc) (cond (Nat.ble 149 pc) (cond (Nat.ble 158 pc) (cond (Nat.ble 161 pc) (cond (Nat.ble 163 pc) (cond (Nat.beq pc 163) (some (.invokevirtual 80, 166, [])) (cond (Nat.beq pc 166) (some (.ireturn, 167, [])) (none))) (cond (Nat.beq pc 161) (some (.aload_n 0, 162, [])) (cond (Nat.beq pc 162) (some (.iload_n 1, 163, [])) (none)))) (cond (Nat.beq pc 158) (some (.iconst 1, 159, [])) (cond (Nat.beq pc 159) (some (.iadd, 160, [])) (cond (Nat.beq pc 160) (some (.iastore, 161, [])) (none))))) (cond (Nat.ble 155 pc) (cond (Nat.beq pc 155) (some (.imul, 156, [])) (cond (Nat.beq pc 156) (some (.dup2, 157, [])) (cond (Nat.beq pc 157) (some (.iaload, 158, [])) (none)))) (cond (Nat.beq pc 149) (some (.getfield 19, 152, [])) (cond (Nat.beq pc 152) (some (.bipush 13, 154, [])) (cond (Nat.beq pc 154) (some (.iload_n 1, 155, [])) (none)))))) (cond (Nat.ble 140 pc) (cond (Nat.ble 143 pc) (cond (Nat.beq pc 143) (some (.iload 5, 145, [])) (cond (Nat.beq pc 145) (some (.invokevirtual 263, 148, [])) (cond (Nat.beq pc 148) (some (.aload_n 0, 149, [])) (none)))) (cond (Nat.beq pc 140) (some (.iload_n 1, 141, [])) (cond (Nat.beq pc 141) (some (.iload_n 2, 142, [])) (cond (Nat.beq pc 142) (some (.iconst 2, 143, [])) (none))))) (cond (Nat.ble 134 pc) (cond (Nat.beq pc 134) (some (.iload 4, 136, [])) (cond (Nat.beq pc 136) (some (.invokevirtual 263, 139, [])) (cond (Nat.beq pc 139) (some (.aload_n 0, 140, [])) (none)))) (cond (Nat.beq pc 131) (some (.iload_n 1, 132, [])) (cond (Nat.beq pc 132) (some (.iload_n 2, 133, [])) (cond (Nat.beq pc 133) (some (.iconst 1, 134, [])) (none))))))) (cond (Nat.ble 107 pc) (cond (Nat.ble 123 pc) (cond (Nat.ble 126 pc) (cond (Nat.beq pc 126) (some (.iload_n 3, 127, [])) (cond (Nat.beq pc 127) (some (.invokevirtual 263, 130, [])) (cond (Nat.beq pc 130) (some (.aload_n 0, 131, [])) (none)))) (cond (Nat.beq pc 123) (some (.iload_n 1, 124, [])) (cond (Nat.beq pc 124) (some (.iload_n 2, 125, [])) (cond (Nat.beq pc 125) (some (.iconst 0, 126, [])) (none))))) (cond (Nat.ble 116 pc) (cond (Nat.beq pc 116) (some (.iinc 6 (-1), 119, [])) (cond (Nat.beq pc 119) (some (.goto (-44), 122, [75])) (cond (Nat.beq pc 122) (some (.aload_n 0, 123, [])) (none)))) (cond (Nat.beq pc 107) (some (.invokevirtual 263, 110, [])) (cond (Nat.beq pc 110) (some (.iinc 7 1, 113, [])) (cond (Nat.beq pc 113) (some (.goto (-29), 116, [84])) (none)))))) (cond (Nat.ble 97 pc) (cond (Nat.ble 101 pc) (cond (Nat.beq pc 101) (some (.isub, 102, [])) (cond (Nat.beq pc 102) (some (.iload 7, 104, [])) (cond (Nat.beq pc 104) (some (.invokevirtual 83, 107, [])) (none)))) (cond (Nat.beq pc 97) (some (.iload_n 1, 98, [])) (cond (Nat.beq pc 98) (some (.iload 6, 100, [])) (cond (Nat.beq pc 100) (some (.iconst 1, 101, [])) (none))))) (cond (Nat.ble 92 pc) (cond (Nat.beq pc 92) (some (.iload 6, 94, [])) (cond (Nat.beq pc 94) (some (.iload 7, 96, [])) (cond (Nat.beq pc 96) (some (.aload_n 0, 97, [])) (none)))) (cond (Nat.beq pc 87) (some (.if_icmp .ge 29, 90, [116])) (cond (Nat.beq pc 90) (some (.aload_n 0, 91, [])) (cond (Nat.beq pc 91) (some (.iload_n 1, 92, [])) (none)))))))) (cond (Nat.ble 45 pc) (cond (Nat.ble 65 pc) (cond (Nat.ble 77 pc) (cond (Nat.ble 82 pc) (cond (Nat.beq pc 82) (some (.istore 7, 84, [])) (cond (Nat.beq pc 84) (some (.iload 7, 86, [])) (cond (Nat.beq pc 86) (some (.iconst 3, 87, [])) (none)))) (cond (Nat.beq pc 77) (some (.iload_n 2, 78, [])) (cond (Nat.beq pc 78) (some (.if_icmp .le 44, 81, [122])) (cond (Nat.beq pc 81) (some (.iconst 0, 82, [])) (none))))) (cond (Nat.ble 70 pc) (cond (Nat.beq pc 70) (some (.invokevirtual 76, 73, [])) (cond (Nat.beq pc 73) (some (.istore 6, 75, [])) (cond (Nat.beq pc 75) (some (.iload 6, 77, [])) (none)))) (cond (Nat.beq pc 65) (some (.invokevirtual 411, 68, [])) (cond (Nat.beq pc 68) (some (.aload_n 0, 69, [])) (cond (Nat.beq pc 69) (some (.iload_n 1, 70, [])) (none)))))) (cond (Nat.ble 54 pc) (cond (Nat.ble 61 pc) (cond (Nat.beq pc 61) (some (.bipush (-3), 63, [])) (cond (Nat.beq pc 63) (some (.ireturn, 64, [])) (cond (Nat.beq pc 64) (some (.aload_n 0, 65, [])) (none)))) (cond (Nat.beq pc 54) (some (.invokevirtual 76, 57, [])) (cond (Nat.beq pc 57) (some (.iconst 4, 58, [])) (cond (Nat.beq pc 58) (some (.if_icmp .ne 6, 61, [64])) (none))))) (cond (Nat.ble 51 pc) (cond (Nat.beq pc 51) (some (.ireturn, 52, [])) (cond (Nat.beq pc 52) (some (.aload_n 0, 53, [])) (cond (Nat.beq pc 53) (some (.iload_n 1, 54, [])) (none)))) (cond (Nat.beq pc 45) (some (.iconst 3, 46, [])) (cond (Nat.beq pc 46) (some (.if_icmp .le 6, 49, [52])) (cond (Nat.beq pc 49) (some (.bipush (-2), 51, [])) (none))))))) (cond (Nat.ble 20 pc) (cond (Nat.ble 31 pc) (cond (Nat.ble 39 pc) (cond (Nat.beq pc 39) (some (.iconst 1, 40, [])) (cond (Nat.beq pc 40) (some (.if_icmp .lt 9, 43, [49])) (cond (Nat.beq pc 43) (some (.iload 5, 45, [])) (none)))) (cond (Nat.beq pc 31) (some (.invokestatic 408, 34, [])) (cond (Nat.beq pc 34) (some (.ifCond .eq 15, 37, [49])) (cond (Nat.beq pc 37) (some (.iload 5, 39, [])) (none))))) (cond (Nat.ble 25 pc) (cond (Nat.beq pc 25) (some (.if_icmp .gt 24, 28, [49])) (cond (Nat.beq pc 28) (some (.iload_n 3, 29, [])) (cond (Nat.beq pc 29) (some (.iload 4, 31, [])) (none)))) (cond (Nat.beq pc 20) (some (.aload_n 0, 21, [])) (cond (Nat.beq pc 21) (some (.iload_n 1, 22, [])) (cond (Nat.beq pc 22) (some (.invokevirtual 76, 25, [])) (none)))))) (cond (Nat.ble 10 pc) (cond (Nat.ble 15 pc) (cond (Nat.beq pc 15) (some (.iload_n 2, 16, [])) (cond (Nat.beq pc 16) (some (.ifCond .lt 33, 19, [49])) (cond (Nat.beq pc 19) (some (.iload_n 2, 20, [])) (none)))) (cond (Nat.beq pc 10) (some (.ifCond .ne 5, 13, [15])) (cond (Nat.beq pc 13) (some (.iconst (-1), 14, [])) (cond (Nat.beq pc 14) (some (.ireturn, 15, [])) (none))))) (cond (Nat.ble 5 pc) (cond (Nat.beq pc 5) (some (.aload_n 0, 6, [])) (cond (Nat.beq pc 6) (some (.iload_n 1, 7, [])) (cond (Nat.beq pc 7) (some (.invokevirtual 298, 10, [])) (none)))) (cond (Nat.beq pc 0) (some (.aload_n 0, 1, [])) (cond (Nat.beq pc 1) (some (.iconst 0, 2, [])) (cond (Nat.beq pc 2) (some (.putfield 70, 5, [])) (none)))))))))
theorem qkX9_insertPoint_ok : ∀ pc i nx ts, qkX9_insertPoint pc = some (i, nx, ts) → am_cok cX9_insertPoint pc (i, nx, ts) = true := fun pc i nx ts h => am_tok_ok (n := 167) (by decide +kernel) (fun pc h => by show cond (Nat.ble 167 pc) _ _ = _; rw [Nat.ble_eq_true_of_le h]; rfl) h
def qaX9_insertPoint : Nat → Option CE := fun k => cond (Nat.beq k 298) (some qeX9_isCurve) (cond (Nat.beq k 76) (some qeX9_points) (cond (Nat.beq k 408) (some qeX9_isPlace) (cond (Nat.beq k 411) (some qeX9_keeps) (cond (Nat.beq k 83) (some qeX9_point) (cond (Nat.beq k 263) (some qeX9_setPoint) (cond (Nat.beq k 80) (some qeX9_order) (none)))))))
theorem qyX9_insertPoint (l : Launch) : ∀ k e1, qaX9_insertPoint k = some e1 → am_cal l layM RX9 5 k e1 ∧ ceT e1 = 0 := q_cons ⟨am_calV (ci := 9) (qtX9_isCurve l) qbX9_isCurve (by decide) rfl (am_tb_at 1651 (by decide +kernel) rfl), rfl⟩ (q_cons ⟨am_calV (ci := 9) (qtX9_points l) qbX9_points (by decide) rfl (am_tb_at 1663 (by decide +kernel) rfl), rfl⟩ (q_cons ⟨am_calS (qtX9_isPlace l) qbX9_isPlace (by decide) rfl (by decide) (am_tb_at 2027 (by decide +kernel) rfl), rfl⟩ (q_cons ⟨am_calV (ci := 9) (qtX9_keeps l) qbX9_keeps (by decide) rfl (am_tb_at 2038 (by decide +kernel) rfl), rfl⟩ (q_cons ⟨am_calV (ci := 9) (qtX9_point l) qbX9_point (by decide) rfl (am_tb_at 1675 (by decide +kernel) rfl), rfl⟩ (q_cons ⟨am_calV (ci := 9) (qtX9_setPoint l) qbX9_setPoint (by decide) rfl (am_tb_at 1596 (by decide +kernel) rfl), rfl⟩ (q_cons ⟨am_calV (ci := 9) (qtX9_order l) qbX9_order (by decide) rfl (am_tb_at 1659 (by decide +kernel) rfl), rfl⟩ (q_nil)))))))
def qxX9_insertPoint : CX := (qkX9_insertPoint, layM, qfX9, qaX9_insertPoint, qcX9, qlX9, qmX9, (some .int), false, none, 0, none, fun _ => none)
theorem qzX9_insertPoint (l : Launch) : am_sta l qxX9_insertPoint RX9 5 cX9_insertPoint := ⟨qkX9_insertPoint_ok, layM_ok, qfX9_ok, qcX9_ok, qlX9_ok, am_mthP qmX9_ok (by decide), fun k e1 h => (qyX9_insertPoint l k e1 h).1⟩
def qsX9_insertPoint : SP := fun as F A K => match as with
  | [.inr (.inr o), .inl c, .inl k, .inl x, .inl y, .inl w] => cond (Nat.beq o 25) ((fgOK (mF A) ∧ (0 ≤ (F 25 8) ∧ (F 25 8) ≤ 10) ∧ (-2147483648 ≤ c ∧ c < 2147483648) ∧ (-2147483648 ≤ k ∧ k < 2147483648) ∧ (-2147483648 ≤ x ∧ x < 2147483648) ∧ (-2147483648 ≤ y ∧ y < 2147483648) ∧ (-2147483648 ≤ w ∧ w < 2147483648)) ∧ (∀ (G_1 : FF) (B_1 : AA), (msQ ((0 ≤ c ∧ c < mF A 0) ∧ ((0 ≤ k ∧ k ≤ mF A (18 + c)) ∧ (0 ≤ x ∧ x ≤ 20 ∧ 0 ≤ y ∧ y ≤ 20) ∧ (1 ≤ w ∧ w ≤ 3)) ∧ ¬ mF A (18 + c) = 4) F G_1 A B_1 (insR (mF A) c k x y w)) → (K (some (some (vI (if (0 ≤ c ∧ c < mF A 0) then (if (0 ≤ k ∧ k ≤ mF A (18 + c)) ∧ (0 ≤ x ∧ x ≤ 20 ∧ 0 ≤ y ∧ y ≤ 20) ∧ (1 ≤ w ∧ w ≤ 3) then (if mF A (18 + c) = 4 then -3 else mF A (18 + c)) else -2) else -1)))) G_1 B_1))) (False)
  | _ => False
def qeX9_insertPoint : CE := (yX9_insertPoint, cX9_insertPoint, 8, (some .int), 5, some 9, 0, [], 0, 5, qsX9_insertPoint)
theorem qbX9_insertPoint : am_mb qeX9_insertPoint := ⟨am_tb_at 2049 (by decide +kernel) rfl, am_tb_at 124 (by decide +kernel) rfl, ⟨by decide, by decide, by decide +kernel⟩, by decide, by decide, am_tb_at 2047 (by decide +kernel) rfl, am_tb_at 2048 (by decide +kernel) rfl, _, _, rfl⟩
def qnX9_insertPoint_25 : CUT := fun pc => cond (Nat.beq pc 75) (some [true, true, true, true, true, true, true, false]) (none)
def qiX9_insertPoint_25 (c : Int) (k : Int) (x : Int) (y : Int) (w : Int) (F0 : FF) (A0 : AA) : REC := fun pc ls st F A u => cond (Nat.beq pc 75) (match ls, st, u with
    | [some (.inr (.inr s0)), some (.inl s1), some (.inl s2), some (.inl s3), some (.inl s4), some (.inl s5), some (.inl t), none], [], 0 => s0 = 25 ∧ s1 = c ∧ s2 = k ∧ s3 = x ∧ s4 = y ∧ s5 = w ∧ ((0 ≤ c ∧ c < mF A0 0) ∧ mF A0 (18 + c) < 4 ∧ (0 ≤ k ∧ k ≤ t ∧ t ≤ mF A0 (18 + c)) ∧ (0 ≤ x ∧ x ≤ 20 ∧ 0 ≤ y ∧ y ≤ 20) ∧ (1 ≤ w ∧ w ≤ 3) ∧ msW F0 F A0 A ∧ ∀ ii, 0 ≤ ii → ii < 140 → mF A ii = upR (mF A0) c t (mF A0 (18 + c)) ii)
    | _, _, _ => False) (False)
def quX9_insertPoint_25 : Nat → LVs → List AV → FF → AA → Nat := fun pc ls _ F A => cond (Nat.beq pc 75) (match ls with
    | [some (.inr (.inr s0)), some (.inl s1), some (.inl s2), some (.inl s3), some (.inl s4), some (.inl s5), some (.inl t), none] => Int.toNat (9 + t)
    | _ => 0) (0)
set_option maxRecDepth 20000 in
theorem qvX9_insertPoint_25_0 (c : Int) (k : Int) (x : Int) (y : Int) (w : Int) (F0 : FF) (A0 : AA) (K : KK) (h : (fgOK (mF A0) ∧ (0 ≤ (F0 25 8) ∧ (F0 25 8) ≤ 10) ∧ (-2147483648 ≤ c ∧ c < 2147483648) ∧ (-2147483648 ≤ k ∧ k < 2147483648) ∧ (-2147483648 ≤ x ∧ x < 2147483648) ∧ (-2147483648 ≤ y ∧ y < 2147483648) ∧ (-2147483648 ≤ w ∧ w < 2147483648)) ∧ (∀ (G_1 : FF) (B_1 : AA), (msQ ((0 ≤ c ∧ c < mF A0 0) ∧ ((0 ≤ k ∧ k ≤ mF A0 (18 + c)) ∧ (0 ≤ x ∧ x ≤ 20 ∧ 0 ≤ y ∧ y ≤ 20) ∧ (1 ≤ w ∧ w ≤ 3)) ∧ ¬ mF A0 (18 + c) = 4) F0 G_1 A0 B_1 (insR (mF A0) c k x y w)) → (K (some (some (vI (if (0 ≤ c ∧ c < mF A0 0) then (if (0 ≤ k ∧ k ≤ mF A0 (18 + c)) ∧ (0 ≤ x ∧ x ≤ 20 ∧ 0 ≤ y ∧ y ≤ 20) ∧ (1 ≤ w ∧ w ≤ 3) then (if mF A0 (18 + c) = 4 then -3 else mF A0 (18 + c)) else -2) else -1)))) G_1 B_1))) : am_stp qxX9_insertPoint (am_run qxX9_insertPoint qnX9_insertPoint_25 (qiX9_insertPoint_25 c k x y w F0 A0) K 64) K 0 (am_ent [vR 25, vI c, vI k, vI x, vI y, vI w] 8) [] F0 A0 0 := by
  show am_stp qxX9_insertPoint (am_run qxX9_insertPoint qnX9_insertPoint_25 (qiX9_insertPoint_25 c k x y w F0 A0) K 64) K 0 [some (vR 25), some (vI c), some (vI k), some (vI x), some (vI y), some (vI w), none, none] [] F0 A0 0
  obtain ⟨hp, h⟩ := h
  have p1 := hp.1
  have pu := hp.2.1
  have q1 := p1.1.1
  have q2 := p1.1.2
  have q4 := p1.2.1
  show ((0 ≤ mF A0 0 ∧ mF A0 0 ≤ 8) ∧ (0 ≤ mF A0 1 ∧ mF A0 1 ≤ 6) ∧ (-2147483648 ≤ c ∧ c < 2147483648)) ∧ ((w32 (bi (0 ≤ c ∧ c < mF A0 0)) = w32 0 → (K (some (some (vI (-1)))) (upF F0 25 0 0) A0)) ∧ (¬ (w32 (bi (0 ≤ c ∧ c < mF A0 0)) = w32 0) → ((w32 k < w32 0 → (K (some (some (vI (-2)))) (upF F0 25 0 0) A0)) ∧ (¬ w32 k < w32 0 → ((0 ≤ c ∧ c < 8) ∧ ((w32 (mF A0 (18 + c)) < w32 k → (K (some (some (vI (-2)))) (upF F0 25 0 0) A0)) ∧ (¬ w32 (mF A0 (18 + c)) < w32 k → (((-2147483648 ≤ x ∧ x < 2147483648) ∧ (-2147483648 ≤ y ∧ y < 2147483648)) ∧ ((w32 (bi (0 ≤ x ∧ x ≤ 20 ∧ 0 ≤ y ∧ y ≤ 20)) = w32 0 → (K (some (some (vI (-2)))) (upF F0 25 0 0) A0)) ∧ (¬ (w32 (bi (0 ≤ x ∧ x ≤ 20 ∧ 0 ≤ y ∧ y ≤ 20)) = w32 0) → ((w32 w < w32 1 → (K (some (some (vI (-2)))) (upF F0 25 0 0) A0)) ∧ (¬ w32 w < w32 1 → ((w32 3 < w32 w → (K (some (some (vI (-2)))) (upF F0 25 0 0) A0)) ∧ (¬ w32 3 < w32 w → ((0 ≤ c ∧ c < 8) ∧ ((w32 (mF A0 (18 + c)) = w32 4 → (K (some (some (vI (-3)))) (upF F0 25 0 0) A0)) ∧ (¬ w32 (mF A0 (18 + c)) = w32 4 → ((0 ≤ (F0 25 8) ∧ (F0 25 8) ≤ 10) ∧ (∀ (G_1 : FF) (B_1 : AA), (keP (upF F0 25 0 0) G_1 A0 B_1) → ((0 ≤ c ∧ c < 8) ∧ (25 = 25 ∧ c = c ∧ k = k ∧ x = x ∧ y = y ∧ w = w ∧ ((0 ≤ c ∧ c < mF A0 0) ∧ mF A0 (18 + c) < 4 ∧ (0 ≤ k ∧ k ≤ (mF B_1 (18 + c)) ∧ (mF B_1 (18 + c)) ≤ mF A0 (18 + c)) ∧ (0 ≤ x ∧ x ≤ 20 ∧ 0 ≤ y ∧ y ≤ 20) ∧ (1 ≤ w ∧ w ≤ 3) ∧ msW F0 G_1 A0 B_1 ∧ ∀ ii, 0 ≤ ii → ii < 140 → mF B_1 ii = upR (mF A0) c (mF B_1 (18 + c)) (mF A0 (18 + c)) ii))))))))))))))))))))))
  refine ⟨by first | exact bi_01 | omega | (have q3 := (p1.2.2.1 c (by omega) (by omega)).1; first | omega | exact ⟨by omega, by omega, by omega⟩) | (rw [upF_o (show (25 : Nat) ≠ 25 ∨ (8 : Nat) ≠ 0 by decide)]; exact pu), ?_⟩
  refine ⟨fun c1 => ?_, fun c1 => ?_⟩
  · skip
    (try simp only [w32_0, wbi0, Classical.not_not] at c1); (try (have q3 := (p1.2.2.1 c (by omega) (by omega)).1; simp (disch := omega) only [w32_id] at c1)); (try simp (disch := omega) only [w32_0, wbi0, Classical.not_not, w32_id] at c1)
    first
    | exact K_eq (h _ _ ⟨fun z => absurd z (by omega), fun _ => ⟨rfl, rfl⟩⟩) (if_neg (by omega))
    | exact K_eq (h _ _ ⟨fun z => absurd z (by omega), fun _ => ⟨rfl, rfl⟩⟩) (by rw [if_pos (by omega), if_neg (by omega)])
    | (have q3 := (p1.2.2.1 c (by omega) (by omega)).1; exact K_eq (h _ _ ⟨fun z => absurd z (by omega), fun _ => ⟨rfl, rfl⟩⟩) (by rw [if_pos (by omega), if_pos (by omega), if_pos (by omega)]))
  · skip
    (try simp only [w32_0, wbi0, Classical.not_not] at c1); (try (have q3 := (p1.2.2.1 c (by omega) (by omega)).1; simp (disch := omega) only [w32_id] at c1)); (try simp (disch := omega) only [w32_0, wbi0, Classical.not_not, w32_id] at c1)
    refine ⟨fun c2 => ?_, fun c2 => ?_⟩
    · skip
      (try simp only [w32_0, wbi0, Classical.not_not] at c2); (try (have q3 := (p1.2.2.1 c (by omega) (by omega)).1; simp (disch := omega) only [w32_id] at c2)); (try simp (disch := omega) only [w32_0, wbi0, Classical.not_not, w32_id] at c2)
      first
      | exact K_eq (h _ _ ⟨fun z => absurd z (by omega), fun _ => ⟨rfl, rfl⟩⟩) (if_neg (by omega))
      | exact K_eq (h _ _ ⟨fun z => absurd z (by omega), fun _ => ⟨rfl, rfl⟩⟩) (by rw [if_pos (by omega), if_neg (by omega)])
      | (have q3 := (p1.2.2.1 c (by omega) (by omega)).1; exact K_eq (h _ _ ⟨fun z => absurd z (by omega), fun _ => ⟨rfl, rfl⟩⟩) (by rw [if_pos (by omega), if_pos (by omega), if_pos (by omega)]))
    · skip
      (try simp only [w32_0, wbi0, Classical.not_not] at c2); (try (have q3 := (p1.2.2.1 c (by omega) (by omega)).1; simp (disch := omega) only [w32_id] at c2)); (try simp (disch := omega) only [w32_0, wbi0, Classical.not_not, w32_id] at c2)
      refine ⟨by first | exact bi_01 | omega | (have q3 := (p1.2.2.1 c (by omega) (by omega)).1; first | omega | exact ⟨by omega, by omega, by omega⟩) | (rw [upF_o (show (25 : Nat) ≠ 25 ∨ (8 : Nat) ≠ 0 by decide)]; exact pu), ?_⟩
      refine ⟨fun c3 => ?_, fun c3 => ?_⟩
      · skip
        (try simp only [w32_0, wbi0, Classical.not_not] at c3); (try (have q3 := (p1.2.2.1 c (by omega) (by omega)).1; simp (disch := omega) only [w32_id] at c3)); (try simp (disch := omega) only [w32_0, wbi0, Classical.not_not, w32_id] at c3)
        first
        | exact K_eq (h _ _ ⟨fun z => absurd z (by omega), fun _ => ⟨rfl, rfl⟩⟩) (if_neg (by omega))
        | exact K_eq (h _ _ ⟨fun z => absurd z (by omega), fun _ => ⟨rfl, rfl⟩⟩) (by rw [if_pos (by omega), if_neg (by omega)])
        | (have q3 := (p1.2.2.1 c (by omega) (by omega)).1; exact K_eq (h _ _ ⟨fun z => absurd z (by omega), fun _ => ⟨rfl, rfl⟩⟩) (by rw [if_pos (by omega), if_pos (by omega), if_pos (by omega)]))
      · skip
        (try simp only [w32_0, wbi0, Classical.not_not] at c3); (try (have q3 := (p1.2.2.1 c (by omega) (by omega)).1; simp (disch := omega) only [w32_id] at c3)); (try simp (disch := omega) only [w32_0, wbi0, Classical.not_not, w32_id] at c3)
        refine ⟨by first | exact bi_01 | omega | (have q3 := (p1.2.2.1 c (by omega) (by omega)).1; first | omega | exact ⟨by omega, by omega, by omega⟩) | (rw [upF_o (show (25 : Nat) ≠ 25 ∨ (8 : Nat) ≠ 0 by decide)]; exact pu), ?_⟩
        refine ⟨fun c4 => ?_, fun c4 => ?_⟩
        · skip
          (try simp only [w32_0, wbi0, Classical.not_not] at c4); (try (have q3 := (p1.2.2.1 c (by omega) (by omega)).1; simp (disch := omega) only [w32_id] at c4)); (try simp (disch := omega) only [w32_0, wbi0, Classical.not_not, w32_id] at c4)
          first
          | exact K_eq (h _ _ ⟨fun z => absurd z (by omega), fun _ => ⟨rfl, rfl⟩⟩) (if_neg (by omega))
          | exact K_eq (h _ _ ⟨fun z => absurd z (by omega), fun _ => ⟨rfl, rfl⟩⟩) (by rw [if_pos (by omega), if_neg (by omega)])
          | (have q3 := (p1.2.2.1 c (by omega) (by omega)).1; exact K_eq (h _ _ ⟨fun z => absurd z (by omega), fun _ => ⟨rfl, rfl⟩⟩) (by rw [if_pos (by omega), if_pos (by omega), if_pos (by omega)]))
        · skip
          (try simp only [w32_0, wbi0, Classical.not_not] at c4); (try (have q3 := (p1.2.2.1 c (by omega) (by omega)).1; simp (disch := omega) only [w32_id] at c4)); (try simp (disch := omega) only [w32_0, wbi0, Classical.not_not, w32_id] at c4)
          refine ⟨fun c5 => ?_, fun c5 => ?_⟩
          · skip
            (try simp only [w32_0, wbi0, Classical.not_not] at c5); (try (have q3 := (p1.2.2.1 c (by omega) (by omega)).1; simp (disch := omega) only [w32_id] at c5)); (try simp (disch := omega) only [w32_0, wbi0, Classical.not_not, w32_id] at c5)
            first
            | exact K_eq (h _ _ ⟨fun z => absurd z (by omega), fun _ => ⟨rfl, rfl⟩⟩) (if_neg (by omega))
            | exact K_eq (h _ _ ⟨fun z => absurd z (by omega), fun _ => ⟨rfl, rfl⟩⟩) (by rw [if_pos (by omega), if_neg (by omega)])
            | (have q3 := (p1.2.2.1 c (by omega) (by omega)).1; exact K_eq (h _ _ ⟨fun z => absurd z (by omega), fun _ => ⟨rfl, rfl⟩⟩) (by rw [if_pos (by omega), if_pos (by omega), if_pos (by omega)]))
          · skip
            (try simp only [w32_0, wbi0, Classical.not_not] at c5); (try (have q3 := (p1.2.2.1 c (by omega) (by omega)).1; simp (disch := omega) only [w32_id] at c5)); (try simp (disch := omega) only [w32_0, wbi0, Classical.not_not, w32_id] at c5)
            refine ⟨fun c6 => ?_, fun c6 => ?_⟩
            · skip
              (try simp only [w32_0, wbi0, Classical.not_not] at c6); (try (have q3 := (p1.2.2.1 c (by omega) (by omega)).1; simp (disch := omega) only [w32_id] at c6)); (try simp (disch := omega) only [w32_0, wbi0, Classical.not_not, w32_id] at c6)
              first
              | exact K_eq (h _ _ ⟨fun z => absurd z (by omega), fun _ => ⟨rfl, rfl⟩⟩) (if_neg (by omega))
              | exact K_eq (h _ _ ⟨fun z => absurd z (by omega), fun _ => ⟨rfl, rfl⟩⟩) (by rw [if_pos (by omega), if_neg (by omega)])
              | (have q3 := (p1.2.2.1 c (by omega) (by omega)).1; exact K_eq (h _ _ ⟨fun z => absurd z (by omega), fun _ => ⟨rfl, rfl⟩⟩) (by rw [if_pos (by omega), if_pos (by omega), if_pos (by omega)]))
            · skip
              (try simp only [w32_0, wbi0, Classical.not_not] at c6); (try (have q3 := (p1.2.2.1 c (by omega) (by omega)).1; simp (disch := omega) only [w32_id] at c6)); (try simp (disch := omega) only [w32_0, wbi0, Classical.not_not, w32_id] at c6)
              refine ⟨by first | exact bi_01 | omega | (have q3 := (p1.2.2.1 c (by omega) (by omega)).1; first | omega | exact ⟨by omega, by omega, by omega⟩) | (rw [upF_o (show (25 : Nat) ≠ 25 ∨ (8 : Nat) ≠ 0 by decide)]; exact pu), ?_⟩
              refine ⟨fun c7 => ?_, fun c7 => ?_⟩
              · skip
                (try simp only [w32_0, wbi0, Classical.not_not] at c7); (try (have q3 := (p1.2.2.1 c (by omega) (by omega)).1; simp (disch := omega) only [w32_id] at c7)); (try simp (disch := omega) only [w32_0, wbi0, Classical.not_not, w32_id] at c7)
                first
                | exact K_eq (h _ _ ⟨fun z => absurd z (by omega), fun _ => ⟨rfl, rfl⟩⟩) (if_neg (by omega))
                | exact K_eq (h _ _ ⟨fun z => absurd z (by omega), fun _ => ⟨rfl, rfl⟩⟩) (by rw [if_pos (by omega), if_neg (by omega)])
                | (have q3 := (p1.2.2.1 c (by omega) (by omega)).1; exact K_eq (h _ _ ⟨fun z => absurd z (by omega), fun _ => ⟨rfl, rfl⟩⟩) (by rw [if_pos (by omega), if_pos (by omega), if_pos (by omega)]))
              · skip
                (try simp only [w32_0, wbi0, Classical.not_not] at c7); (try (have q3 := (p1.2.2.1 c (by omega) (by omega)).1; simp (disch := omega) only [w32_id] at c7)); (try simp (disch := omega) only [w32_0, wbi0, Classical.not_not, w32_id] at c7)
                refine ⟨by first | exact bi_01 | omega | (have q3 := (p1.2.2.1 c (by omega) (by omega)).1; first | omega | exact ⟨by omega, by omega, by omega⟩) | (rw [upF_o (show (25 : Nat) ≠ 25 ∨ (8 : Nat) ≠ 0 by decide)]; exact pu), ?_⟩
                intro G_1 B_1 g1
                have eG := keP_f g1
                refine ⟨by first | exact bi_01 | omega | (have q3 := (p1.2.2.1 c (by omega) (by omega)).1; first | omega | exact ⟨by omega, by omega, by omega⟩) | (rw [upF_o (show (25 : Nat) ≠ 25 ∨ (8 : Nat) ≠ 0 by decide)]; exact pu), ?_⟩
                refine ⟨rfl, rfl, rfl, rfl, rfl, rfl, ?_⟩
                have q3 := (p1.2.2.1 c (by omega) (by omega)).1
                rw [eG]
                exact ⟨by omega, by omega, by omega, by omega, by omega, msW_of g1 (fun _ _ _ => rfl), fun i i0 i1 => by rw [upR_out (by omega)]⟩
set_option maxRecDepth 20000 in
theorem qvX9_insertPoint_25_75 (c : Int) (k : Int) (x : Int) (y : Int) (w : Int) (F0 : FF) (A0 : AA) (K : KK) (h : (fgOK (mF A0) ∧ (0 ≤ (F0 25 8) ∧ (F0 25 8) ≤ 10) ∧ (-2147483648 ≤ c ∧ c < 2147483648) ∧ (-2147483648 ≤ k ∧ k < 2147483648) ∧ (-2147483648 ≤ x ∧ x < 2147483648) ∧ (-2147483648 ≤ y ∧ y < 2147483648) ∧ (-2147483648 ≤ w ∧ w < 2147483648)) ∧ (∀ (G_1 : FF) (B_1 : AA), (msQ ((0 ≤ c ∧ c < mF A0 0) ∧ ((0 ≤ k ∧ k ≤ mF A0 (18 + c)) ∧ (0 ≤ x ∧ x ≤ 20 ∧ 0 ≤ y ∧ y ≤ 20) ∧ (1 ≤ w ∧ w ≤ 3)) ∧ ¬ mF A0 (18 + c) = 4) F0 G_1 A0 B_1 (insR (mF A0) c k x y w)) → (K (some (some (vI (if (0 ≤ c ∧ c < mF A0 0) then (if (0 ≤ k ∧ k ≤ mF A0 (18 + c)) ∧ (0 ≤ x ∧ x ≤ 20 ∧ 0 ≤ y ∧ y ≤ 20) ∧ (1 ≤ w ∧ w ≤ 3) then (if mF A0 (18 + c) = 4 then -3 else mF A0 (18 + c)) else -2) else -1)))) G_1 B_1))) (t : Int) (F : FF) (A : AA) (hi : (0 ≤ c ∧ c < mF A0 0) ∧ mF A0 (18 + c) < 4 ∧ (0 ≤ k ∧ k ≤ t ∧ t ≤ mF A0 (18 + c)) ∧ (0 ≤ x ∧ x ≤ 20 ∧ 0 ≤ y ∧ y ≤ 20) ∧ (1 ≤ w ∧ w ≤ 3) ∧ msW F0 F A0 A ∧ ∀ ii, 0 ≤ ii → ii < 140 → mF A ii = upR (mF A0) c t (mF A0 (18 + c)) ii) : am_stp qxX9_insertPoint (am_run qxX9_insertPoint qnX9_insertPoint_25 (fun pc ls st F9 A9 u => qiX9_insertPoint_25 c k x y w F0 A0 pc ls st F9 A9 u ∧ quX9_insertPoint_25 pc ls st F9 A9 < quX9_insertPoint_25 75 [some (vR 25), some (vI c), some (vI k), some (vI x), some (vI y), some (vI w), some (vI t), none] [] F A) K 64) K 75 [some (vR 25), some (vI c), some (vI k), some (vI x), some (vI y), some (vI w), some (vI t), none] [] F A 0 := by
  obtain ⟨hp, h⟩ := h
  have p1 := hp.1
  have pu := hp.2.1
  have q1 := p1.1.1
  have q2 := p1.1.2
  have q4 := p1.2.1
  obtain ⟨h1, h2, h3, h4, h5, hW, hR⟩ := hi
  have q3 := (p1.2.2.1 c h1.1 h1.2).1
  have e18 : mF A (18 + c) = mF A0 (18 + c) := by rw [hR _ (by omega) (by omega)]; exact upR_out (by omega)
  show (w32 k < w32 t → ((w32 0 < w32 3 → (((0 ≤ c ∧ c < 8) ∧ (0 ≤ (t - 1) ∧ (t - 1) < 4) ∧ 0 ≤ 0 ∧ 0 ≤ 2) ∧ (((0 ≤ c ∧ c < 8) ∧ (0 ≤ t ∧ t < 4) ∧ 0 ≤ 0 ∧ 0 ≤ 2) ∧ ((w32 1 < w32 3 → (((0 ≤ c ∧ c < 8) ∧ (0 ≤ (t - 1) ∧ (t - 1) < 4) ∧ 0 ≤ 1 ∧ 1 ≤ 2) ∧ (((0 ≤ c ∧ c < 8) ∧ (0 ≤ t ∧ t < 4) ∧ 0 ≤ 1 ∧ 1 ≤ 2) ∧ ((w32 2 < w32 3 → (((0 ≤ c ∧ c < 8) ∧ (0 ≤ (t - 1) ∧ (t - 1) < 4) ∧ 0 ≤ 2 ∧ 2 ≤ 2) ∧ (((0 ≤ c ∧ c < 8) ∧ (0 ≤ t ∧ t < 4) ∧ 0 ≤ 2 ∧ 2 ≤ 2) ∧ ((w32 3 < w32 3 → _) ∧ (¬ w32 3 < w32 3 → ((25 = 25 ∧ c = c ∧ k = k ∧ x = x ∧ y = y ∧ w = w ∧ ((0 ≤ c ∧ c < mF A0 0) ∧ mF A0 (18 + c) < 4 ∧ (0 ≤ k ∧ k ≤ (t + (-1)) ∧ (t + (-1)) ≤ mF A0 (18 + c)) ∧ (0 ≤ x ∧ x ≤ 20 ∧ 0 ≤ y ∧ y ≤ 20) ∧ (1 ≤ w ∧ w ≤ 3) ∧ msW F0 F A0 (upA (upA (upA A 29 (13 * c + 1 + 3 * t + 0) (pxF (mF A) c (t - 1) 0)) 29 (13 * c + 1 + 3 * t + 1) (pxF (mF (upA A 29 (13 * c + 1 + 3 * t + 0) (pxF (mF A) c (t - 1) 0))) c (t - 1) 1)) 29 (13 * c + 1 + 3 * t + 2) (pxF (mF (upA (upA A 29 (13 * c + 1 + 3 * t + 0) (pxF (mF A) c (t - 1) 0)) 29 (13 * c + 1 + 3 * t + 1) (pxF (mF (upA A 29 (13 * c + 1 + 3 * t + 0) (pxF (mF A) c (t - 1) 0))) c (t - 1) 1))) c (t - 1) 2)) ∧ ∀ ii, 0 ≤ ii → ii < 140 → mF (upA (upA (upA A 29 (13 * c + 1 + 3 * t + 0) (pxF (mF A) c (t - 1) 0)) 29 (13 * c + 1 + 3 * t + 1) (pxF (mF (upA A 29 (13 * c + 1 + 3 * t + 0) (pxF (mF A) c (t - 1) 0))) c (t - 1) 1)) 29 (13 * c + 1 + 3 * t + 2) (pxF (mF (upA (upA A 29 (13 * c + 1 + 3 * t + 0) (pxF (mF A) c (t - 1) 0)) 29 (13 * c + 1 + 3 * t + 1) (pxF (mF (upA A 29 (13 * c + 1 + 3 * t + 0) (pxF (mF A) c (t - 1) 0))) c (t - 1) 1))) c (t - 1) 2)) ii = upR (mF A0) c (t + (-1)) (mF A0 (18 + c)) ii)) ∧ (Int.toNat (9 + (t + (-1)))) < (Int.toNat (9 + t)))))))) ∧ (¬ w32 2 < w32 3 → _))))) ∧ (¬ w32 1 < w32 3 → _))))) ∧ (¬ w32 0 < w32 3 → _))) ∧ (¬ w32 k < w32 t → (((0 ≤ c ∧ c < 8) ∧ (0 ≤ k ∧ k < 4) ∧ 0 ≤ 0 ∧ 0 ≤ 2) ∧ (((0 ≤ c ∧ c < 8) ∧ (0 ≤ k ∧ k < 4) ∧ 0 ≤ 1 ∧ 1 ≤ 2) ∧ (((0 ≤ c ∧ c < 8) ∧ (0 ≤ k ∧ k < 4) ∧ 0 ≤ 2 ∧ 2 ≤ 2) ∧ ((0 ≤ w32 (13 * c) ∧ w32 (13 * c) < 124) ∧ ((0 ≤ w32 (13 * c) ∧ w32 (13 * c) < 124) ∧ ((0 ≤ c ∧ c < 8) ∧ (K (some (some (vI (mF (upA (upA (upA (upA A 29 (13 * c + 1 + 3 * k + 0) x) 29 (13 * c + 1 + 3 * k + 1) y) 29 (13 * c + 1 + 3 * k + 2) w) 29 (w32 (13 * c)) (((upA (upA (upA A 29 (13 * c + 1 + 3 * k + 0) x) 29 (13 * c + 1 + 3 * k + 1) y) 29 (13 * c + 1 + 3 * k + 2) w) 29 (w32 (13 * c))) + 1)) (18 + c) - 1)))) F (upA (upA (upA (upA A 29 (13 * c + 1 + 3 * k + 0) x) 29 (13 * c + 1 + 3 * k + 1) y) 29 (13 * c + 1 + 3 * k + 2) w) 29 (w32 (13 * c)) (((upA (upA (upA A 29 (13 * c + 1 + 3 * k + 0) x) 29 (13 * c + 1 + 3 * k + 1) y) 29 (13 * c + 1 + 3 * k + 2) w) 29 (w32 (13 * c))) + 1))))))))))
  refine ⟨fun c1 => ?_, fun c1 => ?_⟩
  · skip
    (try simp (disch := omega) only [w32_id] at c1)
    refine ⟨fun _ => ?_, fun q => absurd (by decide) q⟩
    refine ⟨by first | omega | exact ⟨by omega, by omega, by omega⟩ | (rw [w32_id (by omega) (by omega)]; omega), ?_⟩
    refine ⟨by first | omega | exact ⟨by omega, by omega, by omega⟩ | (rw [w32_id (by omega) (by omega)]; omega), ?_⟩
    refine ⟨fun _ => ?_, fun q => absurd (by decide) q⟩
    refine ⟨by first | omega | exact ⟨by omega, by omega, by omega⟩ | (rw [w32_id (by omega) (by omega)]; omega), ?_⟩
    refine ⟨by first | omega | exact ⟨by omega, by omega, by omega⟩ | (rw [w32_id (by omega) (by omega)]; omega), ?_⟩
    refine ⟨fun _ => ?_, fun q => absurd (by decide) q⟩
    refine ⟨by first | omega | exact ⟨by omega, by omega, by omega⟩ | (rw [w32_id (by omega) (by omega)]; omega), ?_⟩
    refine ⟨by first | omega | exact ⟨by omega, by omega, by omega⟩ | (rw [w32_id (by omega) (by omega)]; omega), ?_⟩
    refine ⟨fun q => absurd q (by decide), fun _ => ?_⟩
    refine ⟨⟨rfl, rfl, rfl, rfl, rfl, rfl, ?_⟩, by omega⟩
    simp (disch := omega) only [mF_px]
    refine ⟨h1, h2, by omega, h4, h5, msW_n hW (fun b i hb => (upA_k hb).trans ((upA_k hb).trans (upA_k hb))), ?_⟩
    rw [mF_p3 (by omega) (by omega) (by omega) (by omega)]
    first | exact upR_s (by omega) (by omega) (by omega) (by omega) (by omega) hR | (rw [show t + -1 = t - 1 by omega]; exact upR_s (by omega) (by omega) (by omega) (by omega) (by omega) hR)
  · skip
    (try simp (disch := omega) only [w32_id] at c1)
    refine ⟨by first | omega | exact ⟨by omega, by omega, by omega⟩ | (rw [w32_id (by omega) (by omega)]; omega), ?_⟩
    refine ⟨by first | omega | exact ⟨by omega, by omega, by omega⟩ | (rw [w32_id (by omega) (by omega)]; omega), ?_⟩
    refine ⟨by first | omega | exact ⟨by omega, by omega, by omega⟩ | (rw [w32_id (by omega) (by omega)]; omega), ?_⟩
    refine ⟨by first | omega | exact ⟨by omega, by omega, by omega⟩ | (rw [w32_id (by omega) (by omega)]; omega), ?_⟩
    refine ⟨by first | omega | exact ⟨by omega, by omega, by omega⟩ | (rw [w32_id (by omega) (by omega)]; omega), ?_⟩
    refine ⟨by first | omega | exact ⟨by omega, by omega, by omega⟩ | (rw [w32_id (by omega) (by omega)]; omega), ?_⟩
    have et : t = k := by omega
    subst et
    have ew : w32 (13 * c) = 13 * c := w32_id (by omega) (by omega)
    have e29 := (mF_sz (A := upA (upA (upA A 29 (13 * c + 1 + 3 * t + 0) x) 29 (13 * c + 1 + 3 * t + 1) y) 29 (13 * c + 1 + 3 * t + 2) w) (c := c) (by omega) (by omega)).symm
    rw [mF_p3 (by omega) (by omega) (by omega) (by omega), pnR_o (by omega), e18] at e29
    simp only [ew, e29]
    refine K_eq (h _ _ ⟨fun _ => ⟨msW_n hW (fun b i hb => (upA_k hb).trans ((upA_k hb).trans ((upA_k hb).trans (upA_k hb)))), fun i i0 i1 => ?_⟩, fun z => absurd ⟨h1, ⟨⟨h3.1, by omega⟩, h4, h5⟩, by omega⟩ z⟩) ?_
    · rw [mF_zu (by omega) (by omega), mF_p3 (by omega) (by omega) (by omega) (by omega)]
      exact insR_e (by omega) (by omega) h3.1 h3.2.2 h2 rfl hR i i0 i1
    · rw [if_pos h1, if_pos ⟨⟨h3.1, by omega⟩, h4, h5⟩, if_neg (by omega), mF_zu (by omega) (by omega)]
      show _ = ite (18 + c = 18 + c) _ _ - 1
      rw [if_pos rfl]; omega
set_option maxRecDepth 20000 in
theorem qvX9_insertPoint_25 (c : Int) (k : Int) (x : Int) (y : Int) (w : Int) (F0 : FF) (A0 : AA) (K : KK) (h : (fgOK (mF A0) ∧ (0 ≤ (F0 25 8) ∧ (F0 25 8) ≤ 10) ∧ (-2147483648 ≤ c ∧ c < 2147483648) ∧ (-2147483648 ≤ k ∧ k < 2147483648) ∧ (-2147483648 ≤ x ∧ x < 2147483648) ∧ (-2147483648 ≤ y ∧ y < 2147483648) ∧ (-2147483648 ≤ w ∧ w < 2147483648)) ∧ (∀ (G_1 : FF) (B_1 : AA), (msQ ((0 ≤ c ∧ c < mF A0 0) ∧ ((0 ≤ k ∧ k ≤ mF A0 (18 + c)) ∧ (0 ≤ x ∧ x ≤ 20 ∧ 0 ≤ y ∧ y ≤ 20) ∧ (1 ≤ w ∧ w ≤ 3)) ∧ ¬ mF A0 (18 + c) = 4) F0 G_1 A0 B_1 (insR (mF A0) c k x y w)) → (K (some (some (vI (if (0 ≤ c ∧ c < mF A0 0) then (if (0 ≤ k ∧ k ≤ mF A0 (18 + c)) ∧ (0 ≤ x ∧ x ≤ 20 ∧ 0 ≤ y ∧ y ≤ 20) ∧ (1 ≤ w ∧ w ≤ 3) then (if mF A0 (18 + c) = 4 then -3 else mF A0 (18 + c)) else -2) else -1)))) G_1 B_1))) : am_body qxX9_insertPoint qnX9_insertPoint_25 64 (qiX9_insertPoint_25 c k x y w F0 A0) quX9_insertPoint_25 [vR 25, vI c, vI k, vI x, vI y, vI w] 8 F0 A0 K := by
  refine ⟨qvX9_insertPoint_25_0 c k x y w F0 A0 K h, fun pc ls st F A u hI => ?_⟩
  unfold qiX9_insertPoint_25 at hI
  replace hI := am_cond2 hI
  rcases hI with ⟨hb, hI⟩ | hI
  · have hb := am_bq hb
    subst hb
    split at hI
    · rename_i s0 s1 s2 s3 s4 s5 t
      obtain ⟨e0, e1, e2, e3, e4, e5, hI⟩ := hI
      subst e0
      subst e1
      subst e2
      subst e3
      subst e4
      subst e5
      exact qvX9_insertPoint_25_75 _ _ _ _ _ _ _ K h _ _ _ hI
    · exact hI.elim
  exact hI.elim
theorem qtX9_insertPoint (l : Launch) : am_CT l layM qeX9_insertPoint := am_met0 rfl (by decide +kernel) rfl rfl rfl rfl rfl (fun _ => rfl) rfl (qzX9_insertPoint l) (fun k e1 h => (qyX9_insertPoint l k e1 h).2) (fun as F A K h => by
  replace h : qsX9_insertPoint as F A K := h
  unfold qsX9_insertPoint at h
  split at h
  · rename_i o c k x y w
    refine ⟨by first | exact Nat.le_of_ble_eq_true rfl | simp [am_fl, am_cat], ?_⟩
    replace h := am_cond2 h
    rcases h with ⟨hb, h⟩ | h
    · skip
      have hb0 := hb
      have hb0 := am_bq hb0
      subst hb0
      exact am_way_body (qvX9_insertPoint_25 c k x y w F A K h)
    exact h.elim
  · exact h.elim)
def qkX9_dropPoint : Nat → Option CI := fun pc => cond (Nat.ble 109 pc) none (cond (Nat.ble 52 pc) (cond (Nat.ble 76 pc) (cond (Nat.ble 88 pc) (cond (Nat.ble 100 pc) (cond (Nat.ble 104 pc) (cond (Nat.beq pc 104) (some (.iload_n 1, 105, [])) (cond (Nat.beq pc 105) (some (.invokevirtual 80, 108, [])) (cond (Nat.beq pc 108) (some (.ireturn, 109, [])) (none)))) (cond (Nat.beq pc 100) (some (.goto (-45), 103, [55])) (cond (Nat.beq pc 103) (some (.aload_n 0, 104, [])) (none)))) (cond (Nat.ble 94 pc) (cond (Nat.beq pc 94) (some (.goto (-27), 97, [67])) (cond (Nat.beq pc 97) (some (.iinc 3 1, 100, [])) (none))) (cond (Nat.beq pc 88) (some (.invokevirtual 263, 91, [])) (cond (Nat.beq pc 91) (some (.iinc 4 1, 94, [])) (none))))) (cond (Nat.ble 81 pc) (cond (Nat.ble 83 pc) (cond (Nat.beq pc 83) (some (.iload 4, 85, [])) (cond (Nat.beq pc 85) (some (.invokevirtual 83, 88, [])) (none))) (cond (Nat.beq pc 81) (some (.iconst 1, 82, [])) (cond (Nat.beq pc 82) (some (.iadd, 83, [])) (none)))) (cond (Nat.ble 79 pc) (cond (Nat.beq pc 79) (some (.iload_n 1, 80, [])) (cond (Nat.beq pc 80) (some (.iload_n 3, 81, [])) (none))) (cond (Nat.beq pc 76) (some (.iload 4, 78, [])) (cond (Nat.beq pc 78) (some (.aload_n 0, 79, [])) (none)))))) (cond (Nat.ble 64 pc) (cond (Nat.ble 70 pc) (cond (Nat.ble 74 pc) (cond (Nat.beq pc 74) (some (.iload_n 1, 75, [])) (cond (Nat.beq pc 75) (some (.iload_n 3, 76, [])) (none))) (cond (Nat.beq pc 70) (some (.if_icmp .ge 27, 73, [97])) (cond (Nat.beq pc 73) (some (.aload_n 0, 74, [])) (none)))) (cond (Nat.ble 67 pc) (cond (Nat.beq pc 67) (some (.iload 4, 69, [])) (cond (Nat.beq pc 69) (some (.iconst 3, 70, [])) (none))) (cond (Nat.beq pc 64) (some (.iconst 0, 65, [])) (cond (Nat.beq pc 65) (some (.istore 4, 67, [])) (none))))) (cond (Nat.ble 56 pc) (cond (Nat.ble 58 pc) (cond (Nat.beq pc 58) (some (.invokevirtual 76, 61, [])) (cond (Nat.beq pc 61) (some (.if_icmp .ge 42, 64, [103])) (none))) (cond (Nat.beq pc 56) (some (.aload_n 0, 57, [])) (cond (Nat.beq pc 57) (some (.iload_n 1, 58, [])) (none)))) (cond (Nat.ble 54 pc) (cond (Nat.beq pc 54) (some (.istore_n 3, 55, [])) (cond (Nat.beq pc 55) (some (.iload_n 3, 56, [])) (none))) (cond (Nat.beq pc 52) (some (.iastore, 53, [])) (cond (Nat.beq pc 53) (some (.iload_n 2, 54, [])) (none))))))) (cond (Nat.ble 26 pc) (cond (Nat.ble 41 pc) (cond (Nat.ble 48 pc) (cond (Nat.ble 50 pc) (cond (Nat.beq pc 50) (some (.iconst 1, 51, [])) (cond (Nat.beq pc 51) (some (.isub, 52, [])) (none))) (cond (Nat.beq pc 48) (some (.dup2, 49, [])) (cond (Nat.beq pc 49) (some (.iaload, 50, [])) (none)))) (cond (Nat.ble 46 pc) (cond (Nat.beq pc 46) (some (.iload_n 1, 47, [])) (cond (Nat.beq pc 47) (some (.imul, 48, [])) (none))) (cond (Nat.beq pc 41) (some (.getfield 19, 44, [])) (cond (Nat.beq pc 44) (some (.bipush 13, 46, [])) (none))))) (cond (Nat.ble 35 pc) (cond (Nat.ble 37 pc) (cond (Nat.beq pc 37) (some (.invokevirtual 411, 40, [])) (cond (Nat.beq pc 40) (some (.aload_n 0, 41, [])) (none))) (cond (Nat.beq pc 35) (some (.ireturn, 36, [])) (cond (Nat.beq pc 36) (some (.aload_n 0, 37, [])) (none)))) (cond (Nat.ble 30 pc) (cond (Nat.beq pc 30) (some (.if_icmp .ne 6, 33, [36])) (cond (Nat.beq pc 33) (some (.bipush (-3), 35, [])) (none))) (cond (Nat.beq pc 26) (some (.invokevirtual 76, 29, [])) (cond (Nat.beq pc 29) (some (.iconst 2, 30, [])) (none)))))) (cond (Nat.ble 14 pc) (cond (Nat.ble 22 pc) (cond (Nat.ble 24 pc) (cond (Nat.beq pc 24) (some (.aload_n 0, 25, [])) (cond (Nat.beq pc 25) (some (.iload_n 1, 26, [])) (none))) (cond (Nat.beq pc 22) (some (.iconst (-1), 23, [])) (cond (Nat.beq pc 23) (some (.ireturn, 24, [])) (none)))) (cond (Nat.ble 16 pc) (cond (Nat.beq pc 16) (some (.invokevirtual 305, 19, [])) (cond (Nat.beq pc 19) (some (.ifCond .ne 5, 22, [24])) (none))) (cond (Nat.beq pc 14) (some (.iload_n 1, 15, [])) (cond (Nat.beq pc 15) (some (.iload_n 2, 16, [])) (none))))) (cond (Nat.ble 6 pc) (cond (Nat.ble 10 pc) (cond (Nat.beq pc 10) (some (.ifCond .eq 12, 13, [22])) (cond (Nat.beq pc 13) (some (.aload_n 0, 14, [])) (none))) (cond (Nat.beq pc 6) (some (.iload_n 1, 7, [])) (cond (Nat.beq pc 7) (some (.invokevirtual 298, 10, [])) (none)))) (cond (Nat.ble 2 pc) (cond (Nat.beq pc 2) (some (.putfield 70, 5, [])) (cond (Nat.beq pc 5) (some (.aload_n 0, 6, [])) (none))) (cond (Nat.beq pc 0) (some (.aload_n 0, 1, [])) (cond (Nat.beq pc 1) (some (.iconst 0, 2, [])) (none))))))))
theorem qkX9_dropPoint_ok : ∀ pc i nx ts, qkX9_dropPoint pc = some (i, nx, ts) → am_cok cX9_dropPoint pc (i, nx, ts) = true := fun pc i nx ts h => am_tok_ok (n := 109) (by decide +kernel) (fun pc h => by show cond (Nat.ble 109 pc) _ _ = _; rw [Nat.ble_eq_true_of_le h]; rfl) h
def qaX9_dropPoint : Nat → Option CE := fun k => cond (Nat.beq k 298) (some qeX9_isCurve) (cond (Nat.beq k 305) (some qeX9_isPoint) (cond (Nat.beq k 76) (some qeX9_points) (cond (Nat.beq k 411) (some qeX9_keeps) (cond (Nat.beq k 83) (some qeX9_point) (cond (Nat.beq k 263) (some qeX9_setPoint) (cond (Nat.beq k 80) (some qeX9_order) (none)))))))
theorem qyX9_dropPoint (l : Launch) : ∀ k e1, qaX9_dropPoint k = some e1 → am_cal l layM RX9 5 k e1 ∧ ceT e1 = 0 := q_cons ⟨am_calV (ci := 9) (qtX9_isCurve l) qbX9_isCurve (by decide) rfl (am_tb_at 1651 (by decide +kernel) rfl), rfl⟩ (q_cons ⟨am_calV (ci := 9) (qtX9_isPoint l) qbX9_isPoint (by decide) rfl (am_tb_at 1671 (by decide +kernel) rfl), rfl⟩ (q_cons ⟨am_calV (ci := 9) (qtX9_points l) qbX9_points (by decide) rfl (am_tb_at 1663 (by decide +kernel) rfl), rfl⟩ (q_cons ⟨am_calV (ci := 9) (qtX9_keeps l) qbX9_keeps (by decide) rfl (am_tb_at 2038 (by decide +kernel) rfl), rfl⟩ (q_cons ⟨am_calV (ci := 9) (qtX9_point l) qbX9_point (by decide) rfl (am_tb_at 1675 (by decide +kernel) rfl), rfl⟩ (q_cons ⟨am_calV (ci := 9) (qtX9_setPoint l) qbX9_setPoint (by decide) rfl (am_tb_at 1596 (by decide +kernel) rfl), rfl⟩ (q_cons ⟨am_calV (ci := 9) (qtX9_order l) qbX9_order (by decide) rfl (am_tb_at 1659 (by decide +kernel) rfl), rfl⟩ (q_nil)))))))
def qxX9_dropPoint : CX := (qkX9_dropPoint, layM, qfX9, qaX9_dropPoint, qcX9, qlX9, qmX9, (some .int), false, none, 0, none, fun _ => none)
theorem qzX9_dropPoint (l : Launch) : am_sta l qxX9_dropPoint RX9 5 cX9_dropPoint := ⟨qkX9_dropPoint_ok, layM_ok, qfX9_ok, qcX9_ok, qlX9_ok, am_mthP qmX9_ok (by decide), fun k e1 h => (qyX9_dropPoint l k e1 h).1⟩
def qsX9_dropPoint : SP := fun as F A K => match as with
  | [.inr (.inr o), .inl c, .inl k] => cond (Nat.beq o 25) ((fgOK (mF A) ∧ (0 ≤ (F 25 8) ∧ (F 25 8) ≤ 10) ∧ (-2147483648 ≤ c ∧ c < 2147483648) ∧ (-2147483648 ≤ k ∧ k < 2147483648)) ∧ (∀ (G_1 : FF) (B_1 : AA), (msQ ((0 ≤ c ∧ c < mF A 0 ∧ 0 ≤ k ∧ k < mF A (18 + c)) ∧ ¬ mF A (18 + c) = 2) F G_1 A B_1 (drpR (mF A) c k)) → (K (some (some (vI (if (0 ≤ c ∧ c < mF A 0 ∧ 0 ≤ k ∧ k < mF A (18 + c)) then (if mF A (18 + c) = 2 then -3 else mF A (18 + c) - 2) else -1)))) G_1 B_1))) (False)
  | _ => False
def qeX9_dropPoint : CE := (yX9_dropPoint, cX9_dropPoint, 5, (some .int), 2, some 9, 0, [], 0, 5, qsX9_dropPoint)
theorem qbX9_dropPoint : am_mb qeX9_dropPoint := ⟨am_tb_at 2053 (by decide +kernel) rfl, am_tb_at 124 (by decide +kernel) rfl, ⟨by decide, by decide, by decide +kernel⟩, by decide, by decide, am_tb_at 2051 (by decide +kernel) rfl, am_tb_at 2052 (by decide +kernel) rfl, _, _, rfl⟩
def qnX9_dropPoint_25 : CUT := fun pc => cond (Nat.beq pc 55) (some [true, true, true, true, false]) (none)
def qiX9_dropPoint_25 (c : Int) (k : Int) (F0 : FF) (A0 : AA) : REC := fun pc ls st F A u => cond (Nat.beq pc 55) (match ls, st, u with
    | [some (.inr (.inr s0)), some (.inl s1), some (.inl s2), some (.inl t), none], [], 0 => s0 = 25 ∧ s1 = c ∧ s2 = k ∧ ((0 ≤ c ∧ c < mF A0 0) ∧ (2 < mF A0 (18 + c) ∧ mF A0 (18 + c) ≤ 4) ∧ (0 ≤ k ∧ k ≤ t ∧ t < mF A0 (18 + c)) ∧ msW F0 F A0 A ∧ ∀ ii, 0 ≤ ii → ii < 140 → mF A ii = if ii = 18 + c then mF A0 (18 + c) - 1 else dnR (mF A0) c k t ii)
    | _, _, _ => False) (False)
def quX9_dropPoint_25 : Nat → LVs → List AV → FF → AA → Nat := fun pc ls _ F A => cond (Nat.beq pc 55) (match ls with
    | [some (.inr (.inr s0)), some (.inl s1), some (.inl s2), some (.inl t), none] => Int.toNat (9 - t)
    | _ => 0) (0)
set_option maxRecDepth 20000 in
theorem qvX9_dropPoint_25_0 (c : Int) (k : Int) (F0 : FF) (A0 : AA) (K : KK) (h : (fgOK (mF A0) ∧ (0 ≤ (F0 25 8) ∧ (F0 25 8) ≤ 10) ∧ (-2147483648 ≤ c ∧ c < 2147483648) ∧ (-2147483648 ≤ k ∧ k < 2147483648)) ∧ (∀ (G_1 : FF) (B_1 : AA), (msQ ((0 ≤ c ∧ c < mF A0 0 ∧ 0 ≤ k ∧ k < mF A0 (18 + c)) ∧ ¬ mF A0 (18 + c) = 2) F0 G_1 A0 B_1 (drpR (mF A0) c k)) → (K (some (some (vI (if (0 ≤ c ∧ c < mF A0 0 ∧ 0 ≤ k ∧ k < mF A0 (18 + c)) then (if mF A0 (18 + c) = 2 then -3 else mF A0 (18 + c) - 2) else -1)))) G_1 B_1))) : am_stp qxX9_dropPoint (am_run qxX9_dropPoint qnX9_dropPoint_25 (qiX9_dropPoint_25 c k F0 A0) K 66) K 0 (am_ent [vR 25, vI c, vI k] 5) [] F0 A0 0 := by
  show am_stp qxX9_dropPoint (am_run qxX9_dropPoint qnX9_dropPoint_25 (qiX9_dropPoint_25 c k F0 A0) K 66) K 0 [some (vR 25), some (vI c), some (vI k), none, none] [] F0 A0 0
  obtain ⟨hp, h⟩ := h
  have p1 := hp.1
  have pu := hp.2.1
  have q1 := p1.1.1
  have q2 := p1.1.2
  have q4 := p1.2.1
  show ((0 ≤ mF A0 0 ∧ mF A0 0 ≤ 8) ∧ (0 ≤ mF A0 1 ∧ mF A0 1 ≤ 6) ∧ (-2147483648 ≤ c ∧ c < 2147483648)) ∧ ((w32 (bi (0 ≤ c ∧ c < mF A0 0)) = w32 0 → (K (some (some (vI (-1)))) (upF F0 25 0 0) A0)) ∧ (¬ (w32 (bi (0 ≤ c ∧ c < mF A0 0)) = w32 0) → (((0 ≤ c ∧ c < 8) ∧ (2 ≤ mF A0 (18 + c) ∧ mF A0 (18 + c) ≤ 4) ∧ (-2147483648 ≤ k ∧ k < 2147483648)) ∧ ((w32 (bi (0 ≤ k ∧ k < mF A0 (18 + c))) = w32 0 → (K (some (some (vI (-1)))) (upF F0 25 0 0) A0)) ∧ (¬ (w32 (bi (0 ≤ k ∧ k < mF A0 (18 + c))) = w32 0) → ((0 ≤ c ∧ c < 8) ∧ ((w32 (mF A0 (18 + c)) = w32 2 → (K (some (some (vI (-3)))) (upF F0 25 0 0) A0)) ∧ (¬ w32 (mF A0 (18 + c)) = w32 2 → ((0 ≤ (F0 25 8) ∧ (F0 25 8) ≤ 10) ∧ (∀ (G_1 : FF) (B_1 : AA), (keP (upF F0 25 0 0) G_1 A0 B_1) → ((0 ≤ w32 (13 * c) ∧ w32 (13 * c) < 124) ∧ ((0 ≤ w32 (13 * c) ∧ w32 (13 * c) < 124) ∧ (25 = 25 ∧ c = c ∧ k = k ∧ ((0 ≤ c ∧ c < mF A0 0) ∧ (2 < mF A0 (18 + c) ∧ mF A0 (18 + c) ≤ 4) ∧ (0 ≤ k ∧ k ≤ k ∧ k < mF A0 (18 + c)) ∧ msW F0 G_1 A0 (upA B_1 29 (w32 (13 * c)) ((B_1 29 (w32 (13 * c))) - 1)) ∧ ∀ ii, 0 ≤ ii → ii < 140 → mF (upA B_1 29 (w32 (13 * c)) ((B_1 29 (w32 (13 * c))) - 1)) ii = if ii = 18 + c then mF A0 (18 + c) - 1 else dnR (mF A0) c k k ii))))))))))))))
  refine ⟨by first | exact bi_01 | omega | (have q3 := (p1.2.2.1 c (by omega) (by omega)).1; first | omega | exact ⟨by omega, by omega, by omega⟩) | (rw [upF_o (show (25 : Nat) ≠ 25 ∨ (8 : Nat) ≠ 0 by decide)]; exact pu) | (rw [w32_id (by omega) (by omega)]; omega), ?_⟩
  refine ⟨fun c1 => ?_, fun c1 => ?_⟩
  · skip
    (try simp only [w32_0, wbi0, Classical.not_not] at c1); (try (have q3 := (p1.2.2.1 c (by omega) (by omega)).1; simp (disch := omega) only [w32_id] at c1)); (try simp (disch := omega) only [w32_0, wbi0, Classical.not_not, w32_id] at c1)
    first
    | exact K_eq (h _ _ ⟨fun z => absurd z (by omega), fun _ => ⟨rfl, rfl⟩⟩) (if_neg (by omega))
    | (have q3 := (p1.2.2.1 c (by omega) (by omega)).1; exact K_eq (h _ _ ⟨fun z => absurd z (by omega), fun _ => ⟨rfl, rfl⟩⟩) (by rw [if_pos (by omega), if_pos (by omega)]))
  · skip
    (try simp only [w32_0, wbi0, Classical.not_not] at c1); (try (have q3 := (p1.2.2.1 c (by omega) (by omega)).1; simp (disch := omega) only [w32_id] at c1)); (try simp (disch := omega) only [w32_0, wbi0, Classical.not_not, w32_id] at c1)
    refine ⟨by first | exact bi_01 | omega | (have q3 := (p1.2.2.1 c (by omega) (by omega)).1; first | omega | exact ⟨by omega, by omega, by omega⟩) | (rw [upF_o (show (25 : Nat) ≠ 25 ∨ (8 : Nat) ≠ 0 by decide)]; exact pu) | (rw [w32_id (by omega) (by omega)]; omega), ?_⟩
    refine ⟨fun c2 => ?_, fun c2 => ?_⟩
    · skip
      (try simp only [w32_0, wbi0, Classical.not_not] at c2); (try (have q3 := (p1.2.2.1 c (by omega) (by omega)).1; simp (disch := omega) only [w32_id] at c2)); (try simp (disch := omega) only [w32_0, wbi0, Classical.not_not, w32_id] at c2)
      first
      | exact K_eq (h _ _ ⟨fun z => absurd z (by omega), fun _ => ⟨rfl, rfl⟩⟩) (if_neg (by omega))
      | (have q3 := (p1.2.2.1 c (by omega) (by omega)).1; exact K_eq (h _ _ ⟨fun z => absurd z (by omega), fun _ => ⟨rfl, rfl⟩⟩) (by rw [if_pos (by omega), if_pos (by omega)]))
    · skip
      (try simp only [w32_0, wbi0, Classical.not_not] at c2); (try (have q3 := (p1.2.2.1 c (by omega) (by omega)).1; simp (disch := omega) only [w32_id] at c2)); (try simp (disch := omega) only [w32_0, wbi0, Classical.not_not, w32_id] at c2)
      refine ⟨by first | exact bi_01 | omega | (have q3 := (p1.2.2.1 c (by omega) (by omega)).1; first | omega | exact ⟨by omega, by omega, by omega⟩) | (rw [upF_o (show (25 : Nat) ≠ 25 ∨ (8 : Nat) ≠ 0 by decide)]; exact pu) | (rw [w32_id (by omega) (by omega)]; omega), ?_⟩
      refine ⟨fun c3 => ?_, fun c3 => ?_⟩
      · skip
        (try simp only [w32_0, wbi0, Classical.not_not] at c3); (try (have q3 := (p1.2.2.1 c (by omega) (by omega)).1; simp (disch := omega) only [w32_id] at c3)); (try simp (disch := omega) only [w32_0, wbi0, Classical.not_not, w32_id] at c3)
        first
        | exact K_eq (h _ _ ⟨fun z => absurd z (by omega), fun _ => ⟨rfl, rfl⟩⟩) (if_neg (by omega))
        | (have q3 := (p1.2.2.1 c (by omega) (by omega)).1; exact K_eq (h _ _ ⟨fun z => absurd z (by omega), fun _ => ⟨rfl, rfl⟩⟩) (by rw [if_pos (by omega), if_pos (by omega)]))
      · skip
        (try simp only [w32_0, wbi0, Classical.not_not] at c3); (try (have q3 := (p1.2.2.1 c (by omega) (by omega)).1; simp (disch := omega) only [w32_id] at c3)); (try simp (disch := omega) only [w32_0, wbi0, Classical.not_not, w32_id] at c3)
        refine ⟨by first | exact bi_01 | omega | (have q3 := (p1.2.2.1 c (by omega) (by omega)).1; first | omega | exact ⟨by omega, by omega, by omega⟩) | (rw [upF_o (show (25 : Nat) ≠ 25 ∨ (8 : Nat) ≠ 0 by decide)]; exact pu) | (rw [w32_id (by omega) (by omega)]; omega), ?_⟩
        intro G_1 B_1 g1
        have eG := keP_f g1
        refine ⟨by first | exact bi_01 | omega | (have q3 := (p1.2.2.1 c (by omega) (by omega)).1; first | omega | exact ⟨by omega, by omega, by omega⟩) | (rw [upF_o (show (25 : Nat) ≠ 25 ∨ (8 : Nat) ≠ 0 by decide)]; exact pu) | (rw [w32_id (by omega) (by omega)]; omega), ?_⟩
        refine ⟨by first | exact bi_01 | omega | (have q3 := (p1.2.2.1 c (by omega) (by omega)).1; first | omega | exact ⟨by omega, by omega, by omega⟩) | (rw [upF_o (show (25 : Nat) ≠ 25 ∨ (8 : Nat) ≠ 0 by decide)]; exact pu) | (rw [w32_id (by omega) (by omega)]; omega), ?_⟩
        refine ⟨rfl, rfl, rfl, ?_⟩
        have q3 := (p1.2.2.1 c (by omega) (by omega)).1
        have ew : w32 (13 * c) = 13 * c := w32_id (by omega) (by omega)
        have e29 := (mF_sz (A := B_1) (c := c) (by omega) (by omega)).symm
        rw [eG] at e29
        simp only [ew, e29]
        refine ⟨by omega, by omega, by omega, msW_of g1 (fun b i hb => upA_k hb), fun i i0 i1 => ?_⟩
        rw [mF_zu (by omega) (by omega), eG]
        show ite (i = 18 + c) _ _ = _
        by_cases e : i = 18 + c
        · rw [if_pos e, if_pos e]
        · rw [if_neg e, if_neg e, dnR_out (by omega)]
set_option maxRecDepth 20000 in
theorem qvX9_dropPoint_25_55 (c : Int) (k : Int) (F0 : FF) (A0 : AA) (K : KK) (h : (fgOK (mF A0) ∧ (0 ≤ (F0 25 8) ∧ (F0 25 8) ≤ 10) ∧ (-2147483648 ≤ c ∧ c < 2147483648) ∧ (-2147483648 ≤ k ∧ k < 2147483648)) ∧ (∀ (G_1 : FF) (B_1 : AA), (msQ ((0 ≤ c ∧ c < mF A0 0 ∧ 0 ≤ k ∧ k < mF A0 (18 + c)) ∧ ¬ mF A0 (18 + c) = 2) F0 G_1 A0 B_1 (drpR (mF A0) c k)) → (K (some (some (vI (if (0 ≤ c ∧ c < mF A0 0 ∧ 0 ≤ k ∧ k < mF A0 (18 + c)) then (if mF A0 (18 + c) = 2 then -3 else mF A0 (18 + c) - 2) else -1)))) G_1 B_1))) (t : Int) (F : FF) (A : AA) (hi : (0 ≤ c ∧ c < mF A0 0) ∧ (2 < mF A0 (18 + c) ∧ mF A0 (18 + c) ≤ 4) ∧ (0 ≤ k ∧ k ≤ t ∧ t < mF A0 (18 + c)) ∧ msW F0 F A0 A ∧ ∀ ii, 0 ≤ ii → ii < 140 → mF A ii = if ii = 18 + c then mF A0 (18 + c) - 1 else dnR (mF A0) c k t ii) : am_stp qxX9_dropPoint (am_run qxX9_dropPoint qnX9_dropPoint_25 (fun pc ls st F9 A9 u => qiX9_dropPoint_25 c k F0 A0 pc ls st F9 A9 u ∧ quX9_dropPoint_25 pc ls st F9 A9 < quX9_dropPoint_25 55 [some (vR 25), some (vI c), some (vI k), some (vI t), none] [] F A) K 66) K 55 [some (vR 25), some (vI c), some (vI k), some (vI t), none] [] F A 0 := by
  obtain ⟨hp, h⟩ := h
  have p1 := hp.1
  have pu := hp.2.1
  have q1 := p1.1.1
  have q2 := p1.1.2
  have q4 := p1.2.1
  obtain ⟨h1, h2, h3, hW, hR⟩ := hi
  have q3 := (p1.2.2.1 c h1.1 h1.2).1
  have e18 : mF A (18 + c) = mF A0 (18 + c) - 1 := by rw [hR _ (by omega) (by omega)]; exact if_pos rfl
  show (0 ≤ c ∧ c < 8) ∧ ((w32 t < w32 (mF A (18 + c)) → ((w32 0 < w32 3 → (((0 ≤ c ∧ c < 8) ∧ (0 ≤ (t + 1) ∧ (t + 1) < 4) ∧ 0 ≤ 0 ∧ 0 ≤ 2) ∧ (((0 ≤ c ∧ c < 8) ∧ (0 ≤ t ∧ t < 4) ∧ 0 ≤ 0 ∧ 0 ≤ 2) ∧ ((w32 1 < w32 3 → (((0 ≤ c ∧ c < 8) ∧ (0 ≤ (t + 1) ∧ (t + 1) < 4) ∧ 0 ≤ 1 ∧ 1 ≤ 2) ∧ (((0 ≤ c ∧ c < 8) ∧ (0 ≤ t ∧ t < 4) ∧ 0 ≤ 1 ∧ 1 ≤ 2) ∧ ((w32 2 < w32 3 → (((0 ≤ c ∧ c < 8) ∧ (0 ≤ (t + 1) ∧ (t + 1) < 4) ∧ 0 ≤ 2 ∧ 2 ≤ 2) ∧ (((0 ≤ c ∧ c < 8) ∧ (0 ≤ t ∧ t < 4) ∧ 0 ≤ 2 ∧ 2 ≤ 2) ∧ ((w32 3 < w32 3 → _) ∧ (¬ w32 3 < w32 3 → ((25 = 25 ∧ c = c ∧ k = k ∧ ((0 ≤ c ∧ c < mF A0 0) ∧ (2 < mF A0 (18 + c) ∧ mF A0 (18 + c) ≤ 4) ∧ (0 ≤ k ∧ k ≤ (t + 1) ∧ (t + 1) < mF A0 (18 + c)) ∧ msW F0 F A0 (upA (upA (upA A 29 (13 * c + 1 + 3 * t + 0) (pxF (mF A) c (t + 1) 0)) 29 (13 * c + 1 + 3 * t + 1) (pxF (mF (upA A 29 (13 * c + 1 + 3 * t + 0) (pxF (mF A) c (t + 1) 0))) c (t + 1) 1)) 29 (13 * c + 1 + 3 * t + 2) (pxF (mF (upA (upA A 29 (13 * c + 1 + 3 * t + 0) (pxF (mF A) c (t + 1) 0)) 29 (13 * c + 1 + 3 * t + 1) (pxF (mF (upA A 29 (13 * c + 1 + 3 * t + 0) (pxF (mF A) c (t + 1) 0))) c (t + 1) 1))) c (t + 1) 2)) ∧ ∀ ii, 0 ≤ ii → ii < 140 → mF (upA (upA (upA A 29 (13 * c + 1 + 3 * t + 0) (pxF (mF A) c (t + 1) 0)) 29 (13 * c + 1 + 3 * t + 1) (pxF (mF (upA A 29 (13 * c + 1 + 3 * t + 0) (pxF (mF A) c (t + 1) 0))) c (t + 1) 1)) 29 (13 * c + 1 + 3 * t + 2) (pxF (mF (upA (upA A 29 (13 * c + 1 + 3 * t + 0) (pxF (mF A) c (t + 1) 0)) 29 (13 * c + 1 + 3 * t + 1) (pxF (mF (upA A 29 (13 * c + 1 + 3 * t + 0) (pxF (mF A) c (t + 1) 0))) c (t + 1) 1))) c (t + 1) 2)) ii = if ii = 18 + c then mF A0 (18 + c) - 1 else dnR (mF A0) c k (t + 1) ii)) ∧ (Int.toNat (9 - (t + 1))) < (Int.toNat (9 - t)))))))) ∧ (¬ w32 2 < w32 3 → _))))) ∧ (¬ w32 1 < w32 3 → _))))) ∧ (¬ w32 0 < w32 3 → _))) ∧ (¬ w32 t < w32 (mF A (18 + c)) → ((0 ≤ c ∧ c < 8) ∧ (K (some (some (vI (mF A (18 + c) - 1)))) F A))))
  refine ⟨by first | omega | exact ⟨by omega, by omega, by omega⟩, ?_⟩
  refine ⟨fun c1 => ?_, fun c1 => ?_⟩
  · skip
    (try simp (disch := omega) only [w32_id] at c1)
    refine ⟨fun _ => ?_, fun q => absurd (by decide) q⟩
    refine ⟨by first | omega | exact ⟨by omega, by omega, by omega⟩, ?_⟩
    refine ⟨by first | omega | exact ⟨by omega, by omega, by omega⟩, ?_⟩
    refine ⟨fun _ => ?_, fun q => absurd (by decide) q⟩
    refine ⟨by first | omega | exact ⟨by omega, by omega, by omega⟩, ?_⟩
    refine ⟨by first | omega | exact ⟨by omega, by omega, by omega⟩, ?_⟩
    refine ⟨fun _ => ?_, fun q => absurd (by decide) q⟩
    refine ⟨by first | omega | exact ⟨by omega, by omega, by omega⟩, ?_⟩
    refine ⟨by first | omega | exact ⟨by omega, by omega, by omega⟩, ?_⟩
    refine ⟨fun q => absurd q (by decide), fun _ => ?_⟩
    refine ⟨⟨rfl, rfl, rfl, ?_⟩, by omega⟩
    simp (disch := omega) only [mF_px]
    refine ⟨h1, h2, by omega, msW_n hW (fun b i hb => (upA_k hb).trans ((upA_k hb).trans (upA_k hb))), ?_⟩
    rw [mF_p3 (by omega) (by omega) (by omega) (by omega)]
    exact dnR_s' (by omega) (by omega) (by omega) (by omega) (by omega) hR
  · skip
    (try simp (disch := omega) only [w32_id] at c1)
    refine ⟨by first | omega | exact ⟨by omega, by omega, by omega⟩, ?_⟩
    have et : t = mF A0 (18 + c) - 1 := by omega
    refine K_eq (h _ _ ⟨fun _ => ⟨hW, fun i i0 i1 => ?_⟩, fun z => absurd ⟨⟨h1.1, h1.2, h3.1, by omega⟩, by omega⟩ z⟩) ?_
    · rw [hR i i0 i1, et]; rfl
    · rw [if_pos ⟨h1.1, h1.2, h3.1, by omega⟩, if_neg (by omega), e18]; omega
set_option maxRecDepth 20000 in
theorem qvX9_dropPoint_25 (c : Int) (k : Int) (F0 : FF) (A0 : AA) (K : KK) (h : (fgOK (mF A0) ∧ (0 ≤ (F0 25 8) ∧ (F0 25 8) ≤ 10) ∧ (-2147483648 ≤ c ∧ c < 2147483648) ∧ (-2147483648 ≤ k ∧ k < 2147483648)) ∧ (∀ (G_1 : FF) (B_1 : AA), (msQ ((0 ≤ c ∧ c < mF A0 0 ∧ 0 ≤ k ∧ k < mF A0 (18 + c)) ∧ ¬ mF A0 (18 + c) = 2) F0 G_1 A0 B_1 (drpR (mF A0) c k)) → (K (some (some (vI (if (0 ≤ c ∧ c < mF A0 0 ∧ 0 ≤ k ∧ k < mF A0 (18 + c)) then (if mF A0 (18 + c) = 2 then -3 else mF A0 (18 + c) - 2) else -1)))) G_1 B_1))) : am_body qxX9_dropPoint qnX9_dropPoint_25 66 (qiX9_dropPoint_25 c k F0 A0) quX9_dropPoint_25 [vR 25, vI c, vI k] 5 F0 A0 K := by
  refine ⟨qvX9_dropPoint_25_0 c k F0 A0 K h, fun pc ls st F A u hI => ?_⟩
  unfold qiX9_dropPoint_25 at hI
  replace hI := am_cond2 hI
  rcases hI with ⟨hb, hI⟩ | hI
  · have hb := am_bq hb
    subst hb
    split at hI
    · rename_i s0 s1 s2 t
      obtain ⟨e0, e1, e2, hI⟩ := hI
      subst e0
      subst e1
      subst e2
      exact qvX9_dropPoint_25_55 _ _ _ _ K h _ _ _ hI
    · exact hI.elim
  exact hI.elim
theorem qtX9_dropPoint (l : Launch) : am_CT l layM qeX9_dropPoint := am_met0 rfl (by decide +kernel) rfl rfl rfl rfl rfl (fun _ => rfl) rfl (qzX9_dropPoint l) (fun k e1 h => (qyX9_dropPoint l k e1 h).2) (fun as F A K h => by
  replace h : qsX9_dropPoint as F A K := h
  unfold qsX9_dropPoint at h
  split at h
  · rename_i o c k
    refine ⟨by first | exact Nat.le_of_ble_eq_true rfl | simp [am_fl, am_cat], ?_⟩
    replace h := am_cond2 h
    rcases h with ⟨hb, h⟩ | h
    · skip
      have hb0 := hb
      have hb0 := am_bq hb0
      subst hb0
      exact am_way_body (qvX9_dropPoint_25 c k F A K h)
    exact h.elim
  · exact h.elim)
def qkX9_reverse : Nat → Option CI := fun pc => cond (Nat.ble 99 pc) none (cond (Nat.ble 46 pc) (cond (Nat.ble 67 pc) (cond (Nat.ble 80 pc) (cond (Nat.ble 91 pc) (cond (Nat.ble 97 pc) (cond (Nat.beq pc 97) (some (.iload_n 2, 98, [])) (cond (Nat.beq pc 98) (some (.ireturn, 99, [])) (none))) (cond (Nat.beq pc 91) (some (.iinc 3 1, 94, [])) (cond (Nat.beq pc 94) (some (.goto (-67), 97, [27])) (none)))) (cond (Nat.ble 85 pc) (cond (Nat.beq pc 85) (some (.iinc 4 1, 88, [])) (cond (Nat.beq pc 88) (some (.goto (-49), 91, [39])) (none))) (cond (Nat.beq pc 80) (some (.iload 5, 82, [])) (cond (Nat.beq pc 82) (some (.invokevirtual 263, 85, [])) (none))))) (cond (Nat.ble 75 pc) (cond (Nat.ble 77 pc) (cond (Nat.beq pc 77) (some (.isub, 78, [])) (cond (Nat.beq pc 78) (some (.iload 4, 80, [])) (none))) (cond (Nat.beq pc 75) (some (.iload_n 2, 76, [])) (cond (Nat.beq pc 76) (some (.iload_n 3, 77, [])) (none)))) (cond (Nat.ble 73 pc) (cond (Nat.beq pc 73) (some (.aload_n 0, 74, [])) (cond (Nat.beq pc 74) (some (.iload_n 1, 75, [])) (none))) (cond (Nat.beq pc 67) (some (.invokevirtual 83, 70, [])) (cond (Nat.beq pc 70) (some (.invokevirtual 263, 73, [])) (none)))))) (cond (Nat.ble 57 pc) (cond (Nat.ble 62 pc) (cond (Nat.ble 64 pc) (cond (Nat.beq pc 64) (some (.isub, 65, [])) (cond (Nat.beq pc 65) (some (.iload 4, 67, [])) (none))) (cond (Nat.beq pc 62) (some (.iload_n 2, 63, [])) (cond (Nat.beq pc 63) (some (.iload_n 3, 64, [])) (none)))) (cond (Nat.ble 60 pc) (cond (Nat.beq pc 60) (some (.aload_n 0, 61, [])) (cond (Nat.beq pc 61) (some (.iload_n 1, 62, [])) (none))) (cond (Nat.beq pc 57) (some (.iload_n 3, 58, [])) (cond (Nat.beq pc 58) (some (.iload 4, 60, [])) (none))))) (cond (Nat.ble 50 pc) (cond (Nat.ble 55 pc) (cond (Nat.beq pc 55) (some (.aload_n 0, 56, [])) (cond (Nat.beq pc 56) (some (.iload_n 1, 57, [])) (none))) (cond (Nat.beq pc 50) (some (.invokevirtual 83, 53, [])) (cond (Nat.beq pc 53) (some (.istore 5, 55, [])) (none)))) (cond (Nat.beq pc 46) (some (.iload_n 1, 47, [])) (cond (Nat.beq pc 47) (some (.iload_n 3, 48, [])) (cond (Nat.beq pc 48) (some (.iload 4, 50, [])) (none))))))) (cond (Nat.ble 25 pc) (cond (Nat.ble 32 pc) (cond (Nat.ble 39 pc) (cond (Nat.ble 42 pc) (cond (Nat.beq pc 42) (some (.if_icmp .ge 49, 45, [91])) (cond (Nat.beq pc 45) (some (.aload_n 0, 46, [])) (none))) (cond (Nat.beq pc 39) (some (.iload 4, 41, [])) (cond (Nat.beq pc 41) (some (.iconst 3, 42, [])) (none)))) (cond (Nat.ble 36 pc) (cond (Nat.beq pc 36) (some (.iconst 0, 37, [])) (cond (Nat.beq pc 37) (some (.istore 4, 39, [])) (none))) (cond (Nat.beq pc 32) (some (.idiv, 33, [])) (cond (Nat.beq pc 33) (some (.if_icmp .ge 64, 36, [97])) (none))))) (cond (Nat.ble 28 pc) (cond (Nat.ble 30 pc) (cond (Nat.beq pc 30) (some (.iadd, 31, [])) (cond (Nat.beq pc 31) (some (.iconst 2, 32, [])) (none))) (cond (Nat.beq pc 28) (some (.iload_n 2, 29, [])) (cond (Nat.beq pc 29) (some (.iconst 1, 30, [])) (none)))) (cond (Nat.beq pc 25) (some (.iconst 0, 26, [])) (cond (Nat.beq pc 26) (some (.istore_n 3, 27, [])) (cond (Nat.beq pc 27) (some (.iload_n 3, 28, [])) (none)))))) (cond (Nat.ble 13 pc) (cond (Nat.ble 19 pc) (cond (Nat.ble 21 pc) (cond (Nat.beq pc 21) (some (.invokevirtual 80, 24, [])) (cond (Nat.beq pc 24) (some (.istore_n 2, 25, [])) (none))) (cond (Nat.beq pc 19) (some (.aload_n 0, 20, [])) (cond (Nat.beq pc 20) (some (.iload_n 1, 21, [])) (none)))) (cond (Nat.ble 15 pc) (cond (Nat.beq pc 15) (some (.aload_n 0, 16, [])) (cond (Nat.beq pc 16) (some (.invokevirtual 411, 19, [])) (none))) (cond (Nat.beq pc 13) (some (.iconst (-1), 14, [])) (cond (Nat.beq pc 14) (some (.ireturn, 15, [])) (none))))) (cond (Nat.ble 5 pc) (cond (Nat.ble 7 pc) (cond (Nat.beq pc 7) (some (.invokevirtual 298, 10, [])) (cond (Nat.beq pc 10) (some (.ifCond .ne 5, 13, [15])) (none))) (cond (Nat.beq pc 5) (some (.aload_n 0, 6, [])) (cond (Nat.beq pc 6) (some (.iload_n 1, 7, [])) (none)))) (cond (Nat.beq pc 0) (some (.aload_n 0, 1, [])) (cond (Nat.beq pc 1) (some (.iconst 0, 2, [])) (cond (Nat.beq pc 2) (some (.putfield 70, 5, [])) (none))))))))
theorem qkX9_reverse_ok : ∀ pc i nx ts, qkX9_reverse pc = some (i, nx, ts) → am_cok cX9_reverse pc (i, nx, ts) = true := fun pc i nx ts h => am_tok_ok (n := 99) (by decide +kernel) (fun pc h => by show cond (Nat.ble 99 pc) _ _ = _; rw [Nat.ble_eq_true_of_le h]; rfl) h
def qaX9_reverse : Nat → Option CE := fun k => cond (Nat.beq k 298) (some qeX9_isCurve) (cond (Nat.beq k 411) (some qeX9_keeps) (cond (Nat.beq k 80) (some qeX9_order) (cond (Nat.beq k 83) (some qeX9_point) (cond (Nat.beq k 263) (some qeX9_setPoint) (none)))))
theorem qyX9_reverse (l : Launch) : ∀ k e1, qaX9_reverse k = some e1 → am_cal l layM RX9 5 k e1 ∧ ceT e1 = 0 := q_cons ⟨am_calV (ci := 9) (qtX9_isCurve l) qbX9_isCurve (by decide) rfl (am_tb_at 1651 (by decide +kernel) rfl), rfl⟩ (q_cons ⟨am_calV (ci := 9) (qtX9_keeps l) qbX9_keeps (by decide) rfl (am_tb_at 2038 (by decide +kernel) rfl), rfl⟩ (q_cons ⟨am_calV (ci := 9) (qtX9_order l) qbX9_order (by decide) rfl (am_tb_at 1659 (by decide +kernel) rfl), rfl⟩ (q_cons ⟨am_calV (ci := 9) (qtX9_point l) qbX9_point (by decide) rfl (am_tb_at 1675 (by decide +kernel) rfl), rfl⟩ (q_cons ⟨am_calV (ci := 9) (qtX9_setPoint l) qbX9_setPoint (by decide) rfl (am_tb_at 1596 (by decide +kernel) rfl), rfl⟩ (q_nil)))))
def qxX9_reverse : CX := (qkX9_reverse, layM, qfX9, qaX9_reverse, qcX9, qlX9, qmX9, (some .int), false, none, 0, none, fun _ => none)
theorem qzX9_reverse (l : Launch) : am_sta l qxX9_reverse RX9 5 cX9_reverse := ⟨qkX9_reverse_ok, layM_ok, qfX9_ok, qcX9_ok, qlX9_ok, am_mthP qmX9_ok (by decide), fun k e1 h => (qyX9_reverse l k e1 h).1⟩
def qsX9_reverse : SP := fun as F A K => match as with
  | [.inr (.inr o), .inl c] => cond (Nat.beq o 25) ((fgOK (mF A) ∧ (0 ≤ (F 25 8) ∧ (F 25 8) ≤ 10) ∧ (-2147483648 ≤ c ∧ c < 2147483648)) ∧ (∀ (G_1 : FF) (B_1 : AA), (msQ ((0 ≤ c ∧ c < mF A 0)) F G_1 A B_1 (revR (mF A) c)) → (K (some (some (vI (if (0 ≤ c ∧ c < mF A 0) then mF A (18 + c) - 1 else -1)))) G_1 B_1))) (False)
  | _ => False
def qeX9_reverse : CE := (yX9_reverse, cX9_reverse, 6, (some .int), 1, some 9, 0, [], 0, 5, qsX9_reverse)
theorem qbX9_reverse : am_mb qeX9_reverse := ⟨am_tb_at 2057 (by decide +kernel) rfl, am_tb_at 124 (by decide +kernel) rfl, ⟨by decide, by decide, by decide +kernel⟩, by decide, by decide, am_tb_at 2055 (by decide +kernel) rfl, am_tb_at 2056 (by decide +kernel) rfl, _, _, rfl⟩
def qnX9_reverse_25 : CUT := fun pc => cond (Nat.beq pc 27) (some [true, true, true, true, false, false]) (none)
def qiX9_reverse_25 (c : Int) (F0 : FF) (A0 : AA) : REC := fun pc ls st F A u => cond (Nat.beq pc 27) (match ls, st, u with
    | [some (.inr (.inr s0)), some (.inl s1), some (.inl n), some (.inl t), none, none], [], 0 => s0 = 25 ∧ s1 = c ∧ ((0 ≤ c ∧ c < mF A0 0) ∧ n = mF A0 (18 + c) - 1 ∧ (0 ≤ t ∧ t ≤ n - t + 1) ∧ msW F0 F A0 A ∧ ∀ ii, 0 ≤ ii → ii < 140 → mF A ii = swR (mF A0) c t n ii)
    | _, _, _ => False) (False)
def quX9_reverse_25 : Nat → LVs → List AV → FF → AA → Nat := fun pc ls _ F A => cond (Nat.beq pc 27) (match ls with
    | [some (.inr (.inr s0)), some (.inl s1), some (.inl n), some (.inl t), none, none] => Int.toNat (9 - t)
    | _ => 0) (0)
set_option maxRecDepth 20000 in
theorem qvX9_reverse_25_0 (c : Int) (F0 : FF) (A0 : AA) (K : KK) (h : (fgOK (mF A0) ∧ (0 ≤ (F0 25 8) ∧ (F0 25 8) ≤ 10) ∧ (-2147483648 ≤ c ∧ c < 2147483648)) ∧ (∀ (G_1 : FF) (B_1 : AA), (msQ ((0 ≤ c ∧ c < mF A0 0)) F0 G_1 A0 B_1 (revR (mF A0) c)) → (K (some (some (vI (if (0 ≤ c ∧ c < mF A0 0) then mF A0 (18 + c) - 1 else -1)))) G_1 B_1))) : am_stp qxX9_reverse (am_run qxX9_reverse qnX9_reverse_25 (qiX9_reverse_25 c F0 A0) K 110) K 0 (am_ent [vR 25, vI c] 6) [] F0 A0 0 := by
  show am_stp qxX9_reverse (am_run qxX9_reverse qnX9_reverse_25 (qiX9_reverse_25 c F0 A0) K 110) K 0 [some (vR 25), some (vI c), none, none, none, none] [] F0 A0 0
  obtain ⟨hp, h⟩ := h
  have p1 := hp.1
  have pu := hp.2.1
  have q1 := p1.1.1
  have q2 := p1.1.2
  have q4 := p1.2.1
  show ((0 ≤ mF A0 0 ∧ mF A0 0 ≤ 8) ∧ (0 ≤ mF A0 1 ∧ mF A0 1 ≤ 6) ∧ (-2147483648 ≤ c ∧ c < 2147483648)) ∧ ((w32 (bi (0 ≤ c ∧ c < mF A0 0)) = w32 0 → (K (some (some (vI (-1)))) (upF F0 25 0 0) A0)) ∧ (¬ (w32 (bi (0 ≤ c ∧ c < mF A0 0)) = w32 0) → ((0 ≤ (F0 25 8) ∧ (F0 25 8) ≤ 10) ∧ (∀ (G_1 : FF) (B_1 : AA), (keP (upF F0 25 0 0) G_1 A0 B_1) → ((0 ≤ c ∧ c < 8) ∧ (25 = 25 ∧ c = c ∧ ((0 ≤ c ∧ c < mF A0 0) ∧ (mF B_1 (18 + c) - 1) = mF A0 (18 + c) - 1 ∧ (0 ≤ 0 ∧ 0 ≤ (mF B_1 (18 + c) - 1) - 0 + 1) ∧ msW F0 G_1 A0 B_1 ∧ ∀ ii, 0 ≤ ii → ii < 140 → mF B_1 ii = swR (mF A0) c 0 (mF B_1 (18 + c) - 1) ii)))))))
  refine ⟨by first | exact bi_01 | omega | (have q3 := (p1.2.2.1 c (by omega) (by omega)).1; first | omega | exact ⟨by omega, by omega, by omega⟩) | (rw [upF_o (show (25 : Nat) ≠ 25 ∨ (8 : Nat) ≠ 0 by decide)]; exact pu), ?_⟩
  refine ⟨fun c1 => ?_, fun c1 => ?_⟩
  · skip
    (try simp only [w32_0, wbi0, Classical.not_not] at c1); (try (have q3 := (p1.2.2.1 c (by omega) (by omega)).1; simp (disch := omega) only [w32_id] at c1)); (try simp (disch := omega) only [w32_0, wbi0, Classical.not_not, w32_id] at c1)
    exact K_eq (h _ _ ⟨fun z => absurd z (by omega), fun _ => ⟨rfl, rfl⟩⟩) (if_neg (by omega))
  · skip
    (try simp only [w32_0, wbi0, Classical.not_not] at c1); (try (have q3 := (p1.2.2.1 c (by omega) (by omega)).1; simp (disch := omega) only [w32_id] at c1)); (try simp (disch := omega) only [w32_0, wbi0, Classical.not_not, w32_id] at c1)
    refine ⟨by first | exact bi_01 | omega | (have q3 := (p1.2.2.1 c (by omega) (by omega)).1; first | omega | exact ⟨by omega, by omega, by omega⟩) | (rw [upF_o (show (25 : Nat) ≠ 25 ∨ (8 : Nat) ≠ 0 by decide)]; exact pu), ?_⟩
    intro G_1 B_1 g1
    have eG := keP_f g1
    refine ⟨by first | exact bi_01 | omega | (have q3 := (p1.2.2.1 c (by omega) (by omega)).1; first | omega | exact ⟨by omega, by omega, by omega⟩) | (rw [upF_o (show (25 : Nat) ≠ 25 ∨ (8 : Nat) ≠ 0 by decide)]; exact pu), ?_⟩
    refine ⟨rfl, rfl, ?_⟩
    have q3 := (p1.2.2.1 c (by omega) (by omega)).1
    rw [eG]
    exact ⟨by omega, rfl, by omega, msW_of g1 (fun _ _ _ => rfl), fun i i0 i1 => by rw [swR_out (by omega)]⟩
set_option maxRecDepth 20000 in
theorem qvX9_reverse_25_27 (c : Int) (F0 : FF) (A0 : AA) (K : KK) (h : (fgOK (mF A0) ∧ (0 ≤ (F0 25 8) ∧ (F0 25 8) ≤ 10) ∧ (-2147483648 ≤ c ∧ c < 2147483648)) ∧ (∀ (G_1 : FF) (B_1 : AA), (msQ ((0 ≤ c ∧ c < mF A0 0)) F0 G_1 A0 B_1 (revR (mF A0) c)) → (K (some (some (vI (if (0 ≤ c ∧ c < mF A0 0) then mF A0 (18 + c) - 1 else -1)))) G_1 B_1))) (n : Int) (t : Int) (F : FF) (A : AA) (hi : (0 ≤ c ∧ c < mF A0 0) ∧ n = mF A0 (18 + c) - 1 ∧ (0 ≤ t ∧ t ≤ n - t + 1) ∧ msW F0 F A0 A ∧ ∀ ii, 0 ≤ ii → ii < 140 → mF A ii = swR (mF A0) c t n ii) : am_stp qxX9_reverse (am_run qxX9_reverse qnX9_reverse_25 (fun pc ls st F9 A9 u => qiX9_reverse_25 c F0 A0 pc ls st F9 A9 u ∧ quX9_reverse_25 pc ls st F9 A9 < quX9_reverse_25 27 [some (vR 25), some (vI c), some (vI n), some (vI t), none, none] [] F A) K 110) K 27 [some (vR 25), some (vI c), some (vI n), some (vI t), none, none] [] F A 0 := by
  obtain ⟨hp, h⟩ := h
  have p1 := hp.1
  have pu := hp.2.1
  have q1 := p1.1.1
  have q2 := p1.1.2
  have q4 := p1.2.1
  obtain ⟨h1, h2, h3, hW, hR⟩ := hi
  have q3 := (p1.2.2.1 c h1.1 h1.2).1
  have xd : x_div (n + 1) 2 = (n + 1) / 2 := x_div_eq (by omega) (by omega) (by decide) (by decide)
  show (w32 2 ≠ 0) ∧ ((w32 t < w32 (x_div (n + 1) 2) → ((w32 0 < w32 3 → (((0 ≤ c ∧ c < 8) ∧ (0 ≤ t ∧ t < 4) ∧ 0 ≤ 0 ∧ 0 ≤ 2) ∧ (((0 ≤ c ∧ c < 8) ∧ (0 ≤ (n - t) ∧ (n - t) < 4) ∧ 0 ≤ 0 ∧ 0 ≤ 2) ∧ (((0 ≤ c ∧ c < 8) ∧ (0 ≤ t ∧ t < 4) ∧ 0 ≤ 0 ∧ 0 ≤ 2) ∧ (((0 ≤ c ∧ c < 8) ∧ (0 ≤ (n - t) ∧ (n - t) < 4) ∧ 0 ≤ 0 ∧ 0 ≤ 2) ∧ ((w32 1 < w32 3 → (((0 ≤ c ∧ c < 8) ∧ (0 ≤ t ∧ t < 4) ∧ 0 ≤ 1 ∧ 1 ≤ 2) ∧ (((0 ≤ c ∧ c < 8) ∧ (0 ≤ (n - t) ∧ (n - t) < 4) ∧ 0 ≤ 1 ∧ 1 ≤ 2) ∧ (((0 ≤ c ∧ c < 8) ∧ (0 ≤ t ∧ t < 4) ∧ 0 ≤ 1 ∧ 1 ≤ 2) ∧ (((0 ≤ c ∧ c < 8) ∧ (0 ≤ (n - t) ∧ (n - t) < 4) ∧ 0 ≤ 1 ∧ 1 ≤ 2) ∧ ((w32 2 < w32 3 → (((0 ≤ c ∧ c < 8) ∧ (0 ≤ t ∧ t < 4) ∧ 0 ≤ 2 ∧ 2 ≤ 2) ∧ (((0 ≤ c ∧ c < 8) ∧ (0 ≤ (n - t) ∧ (n - t) < 4) ∧ 0 ≤ 2 ∧ 2 ≤ 2) ∧ (((0 ≤ c ∧ c < 8) ∧ (0 ≤ t ∧ t < 4) ∧ 0 ≤ 2 ∧ 2 ≤ 2) ∧ (((0 ≤ c ∧ c < 8) ∧ (0 ≤ (n - t) ∧ (n - t) < 4) ∧ 0 ≤ 2 ∧ 2 ≤ 2) ∧ ((w32 3 < w32 3 → _) ∧ (¬ w32 3 < w32 3 → ((25 = 25 ∧ c = c ∧ ((0 ≤ c ∧ c < mF A0 0) ∧ n = mF A0 (18 + c) - 1 ∧ (0 ≤ (t + 1) ∧ (t + 1) ≤ n - (t + 1) + 1) ∧ msW F0 F A0 (upA (upA (upA (upA (upA (upA A 29 (13 * c + 1 + 3 * t + 0) (pxF (mF A) c (n - t) 0)) 29 (13 * c + 1 + 3 * (n - t) + 0) (pxF (mF A) c t 0)) 29 (13 * c + 1 + 3 * t + 1) (pxF (mF (upA (upA A 29 (13 * c + 1 + 3 * t + 0) (pxF (mF A) c (n - t) 0)) 29 (13 * c + 1 + 3 * (n - t) + 0) (pxF (mF A) c t 0))) c (n - t) 1)) 29 (13 * c + 1 + 3 * (n - t) + 1) (pxF (mF (upA (upA A 29 (13 * c + 1 + 3 * t + 0) (pxF (mF A) c (n - t) 0)) 29 (13 * c + 1 + 3 * (n - t) + 0) (pxF (mF A) c t 0))) c t 1)) 29 (13 * c + 1 + 3 * t + 2) (pxF (mF (upA (upA (upA (upA A 29 (13 * c + 1 + 3 * t + 0) (pxF (mF A) c (n - t) 0)) 29 (13 * c + 1 + 3 * (n - t) + 0) (pxF (mF A) c t 0)) 29 (13 * c + 1 + 3 * t + 1) (pxF (mF (upA (upA A 29 (13 * c + 1 + 3 * t + 0) (pxF (mF A) c (n - t) 0)) 29 (13 * c + 1 + 3 * (n - t) + 0) (pxF (mF A) c t 0))) c (n - t) 1)) 29 (13 * c + 1 + 3 * (n - t) + 1) (pxF (mF (upA (upA A 29 (13 * c + 1 + 3 * t + 0) (pxF (mF A) c (n - t) 0)) 29 (13 * c + 1 + 3 * (n - t) + 0) (pxF (mF A) c t 0))) c t 1))) c (n - t) 2)) 29 (13 * c + 1 + 3 * (n - t) + 2) (pxF (mF (upA (upA (upA (upA A 29 (13 * c + 1 + 3 * t + 0) (pxF (mF A) c (n - t) 0)) 29 (13 * c + 1 + 3 * (n - t) + 0) (pxF (mF A) c t 0)) 29 (13 * c + 1 + 3 * t + 1) (pxF (mF (upA (upA A 29 (13 * c + 1 + 3 * t + 0) (pxF (mF A) c (n - t) 0)) 29 (13 * c + 1 + 3 * (n - t) + 0) (pxF (mF A) c t 0))) c (n - t) 1)) 29 (13 * c + 1 + 3 * (n - t) + 1) (pxF (mF (upA (upA A 29 (13 * c + 1 + 3 * t + 0) (pxF (mF A) c (n - t) 0)) 29 (13 * c + 1 + 3 * (n - t) + 0) (pxF (mF A) c t 0))) c t 1))) c t 2)) ∧ ∀ ii, 0 ≤ ii → ii < 140 → mF (upA (upA (upA (upA (upA (upA A 29 (13 * c + 1 + 3 * t + 0) (pxF (mF A) c (n - t) 0)) 29 (13 * c + 1 + 3 * (n - t) + 0) (pxF (mF A) c t 0)) 29 (13 * c + 1 + 3 * t + 1) (pxF (mF (upA (upA A 29 (13 * c + 1 + 3 * t + 0) (pxF (mF A) c (n - t) 0)) 29 (13 * c + 1 + 3 * (n - t) + 0) (pxF (mF A) c t 0))) c (n - t) 1)) 29 (13 * c + 1 + 3 * (n - t) + 1) (pxF (mF (upA (upA A 29 (13 * c + 1 + 3 * t + 0) (pxF (mF A) c (n - t) 0)) 29 (13 * c + 1 + 3 * (n - t) + 0) (pxF (mF A) c t 0))) c t 1)) 29 (13 * c + 1 + 3 * t + 2) (pxF (mF (upA (upA (upA (upA A 29 (13 * c + 1 + 3 * t + 0) (pxF (mF A) c (n - t) 0)) 29 (13 * c + 1 + 3 * (n - t) + 0) (pxF (mF A) c t 0)) 29 (13 * c + 1 + 3 * t + 1) (pxF (mF (upA (upA A 29 (13 * c + 1 + 3 * t + 0) (pxF (mF A) c (n - t) 0)) 29 (13 * c + 1 + 3 * (n - t) + 0) (pxF (mF A) c t 0))) c (n - t) 1)) 29 (13 * c + 1 + 3 * (n - t) + 1) (pxF (mF (upA (upA A 29 (13 * c + 1 + 3 * t + 0) (pxF (mF A) c (n - t) 0)) 29 (13 * c + 1 + 3 * (n - t) + 0) (pxF (mF A) c t 0))) c t 1))) c (n - t) 2)) 29 (13 * c + 1 + 3 * (n - t) + 2) (pxF (mF (upA (upA (upA (upA A 29 (13 * c + 1 + 3 * t + 0) (pxF (mF A) c (n - t) 0)) 29 (13 * c + 1 + 3 * (n - t) + 0) (pxF (mF A) c t 0)) 29 (13 * c + 1 + 3 * t + 1) (pxF (mF (upA (upA A 29 (13 * c + 1 + 3 * t + 0) (pxF (mF A) c (n - t) 0)) 29 (13 * c + 1 + 3 * (n - t) + 0) (pxF (mF A) c t 0))) c (n - t) 1)) 29 (13 * c + 1 + 3 * (n - t) + 1) (pxF (mF (upA (upA A 29 (13 * c + 1 + 3 * t + 0) (pxF (mF A) c (n - t) 0)) 29 (13 * c + 1 + 3 * (n - t) + 0) (pxF (mF A) c t 0))) c t 1))) c t 2)) ii = swR (mF A0) c (t + 1) n ii)) ∧ (Int.toNat (9 - (t + 1))) < (Int.toNat (9 - t)))))))))) ∧ (¬ w32 2 < w32 3 → _))))))) ∧ (¬ w32 1 < w32 3 → _))))))) ∧ (¬ w32 0 < w32 3 → _))) ∧ (¬ w32 t < w32 (x_div (n + 1) 2) → (K (some (some (vI n))) F A)))
  refine ⟨by first | omega | decide | exact ⟨by omega, by omega, by omega⟩, ?_⟩
  refine ⟨fun c1 => ?_, fun c1 => ?_⟩
  · skip
    (try rw [xd] at c1); (try simp (disch := omega) only [w32_id] at c1)
    refine ⟨fun _ => ?_, fun q => absurd (by decide) q⟩
    refine ⟨by first | omega | decide | exact ⟨by omega, by omega, by omega⟩, ?_⟩
    refine ⟨by first | omega | decide | exact ⟨by omega, by omega, by omega⟩, ?_⟩
    refine ⟨by first | omega | decide | exact ⟨by omega, by omega, by omega⟩, ?_⟩
    refine ⟨by first | omega | decide | exact ⟨by omega, by omega, by omega⟩, ?_⟩
    refine ⟨fun _ => ?_, fun q => absurd (by decide) q⟩
    refine ⟨by first | omega | decide | exact ⟨by omega, by omega, by omega⟩, ?_⟩
    refine ⟨by first | omega | decide | exact ⟨by omega, by omega, by omega⟩, ?_⟩
    refine ⟨by first | omega | decide | exact ⟨by omega, by omega, by omega⟩, ?_⟩
    refine ⟨by first | omega | decide | exact ⟨by omega, by omega, by omega⟩, ?_⟩
    refine ⟨fun _ => ?_, fun q => absurd (by decide) q⟩
    refine ⟨by first | omega | decide | exact ⟨by omega, by omega, by omega⟩, ?_⟩
    refine ⟨by first | omega | decide | exact ⟨by omega, by omega, by omega⟩, ?_⟩
    refine ⟨by first | omega | decide | exact ⟨by omega, by omega, by omega⟩, ?_⟩
    refine ⟨by first | omega | decide | exact ⟨by omega, by omega, by omega⟩, ?_⟩
    refine ⟨fun q => absurd q (by decide), fun _ => ?_⟩
    refine ⟨⟨rfl, rfl, ?_⟩, by omega⟩
    simp (disch := omega) only [mF_px]
    refine ⟨h1, h2, by omega, msW_n hW (fun b i hb => (upA_k hb).trans ((upA_k hb).trans ((upA_k hb).trans ((upA_k hb).trans ((upA_k hb).trans (upA_k hb)))))), ?_⟩
    rw [mF_p6 (by omega) (by omega) (by omega) (by omega) (by omega)]
    exact swR_s (by omega) (by omega) (by omega) (by omega) (by omega) hR
  · skip
    (try rw [xd] at c1); (try simp (disch := omega) only [w32_id] at c1)
    refine K_eq (h _ _ ⟨fun _ => ⟨hW, revR_e h1.1 h3.1 (by omega) h2 hR⟩, fun z => absurd h1 z⟩) ?_
    rw [if_pos h1]; exact h2.symm
set_option maxRecDepth 20000 in
theorem qvX9_reverse_25 (c : Int) (F0 : FF) (A0 : AA) (K : KK) (h : (fgOK (mF A0) ∧ (0 ≤ (F0 25 8) ∧ (F0 25 8) ≤ 10) ∧ (-2147483648 ≤ c ∧ c < 2147483648)) ∧ (∀ (G_1 : FF) (B_1 : AA), (msQ ((0 ≤ c ∧ c < mF A0 0)) F0 G_1 A0 B_1 (revR (mF A0) c)) → (K (some (some (vI (if (0 ≤ c ∧ c < mF A0 0) then mF A0 (18 + c) - 1 else -1)))) G_1 B_1))) : am_body qxX9_reverse qnX9_reverse_25 110 (qiX9_reverse_25 c F0 A0) quX9_reverse_25 [vR 25, vI c] 6 F0 A0 K := by
  refine ⟨qvX9_reverse_25_0 c F0 A0 K h, fun pc ls st F A u hI => ?_⟩
  unfold qiX9_reverse_25 at hI
  replace hI := am_cond2 hI
  rcases hI with ⟨hb, hI⟩ | hI
  · have hb := am_bq hb
    subst hb
    split at hI
    · rename_i s0 s1 n t
      obtain ⟨e0, e1, hI⟩ := hI
      subst e0
      subst e1
      exact qvX9_reverse_25_27 _ _ _ K h _ _ _ _ hI
    · exact hI.elim
  exact hI.elim
theorem qtX9_reverse (l : Launch) : am_CT l layM qeX9_reverse := am_met0 rfl (by decide +kernel) rfl rfl rfl rfl rfl (fun _ => rfl) rfl (qzX9_reverse l) (fun k e1 h => (qyX9_reverse l k e1 h).2) (fun as F A K h => by
  replace h : qsX9_reverse as F A K := h
  unfold qsX9_reverse at h
  split at h
  · rename_i o c
    refine ⟨by first | exact Nat.le_of_ble_eq_true rfl | simp [am_fl, am_cat], ?_⟩
    replace h := am_cond2 h
    rcases h with ⟨hb, h⟩ | h
    · skip
      have hb0 := hb
      have hb0 := am_bq hb0
      subst hb0
      exact am_way_body (qvX9_reverse_25 c F A K h)
    exact h.elim
  · exact h.elim)
