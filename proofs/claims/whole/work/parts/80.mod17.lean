def qkX9_setLine : Nat → Option CI := fun pc => cond (Nat.ble 156 pc) none (cond (Nat.ble 81 pc) (cond (Nat.ble 112 pc) (cond (Nat.ble 132 pc) (cond (Nat.ble 144 pc) (cond (Nat.ble 150 pc) (cond (Nat.beq pc 150) (some (.goto (-35), 153, [115])) (cond (Nat.beq pc 153) (some (.iload 5, 155, [])) (cond (Nat.beq pc 155) (some (.ireturn, 156, [])) (none)))) (cond (Nat.beq pc 144) (some (.iadd, 145, [])) (cond (Nat.beq pc 145) (some (.istore 5, 147, [])) (cond (Nat.beq pc 147) (some (.iinc 6 1, 150, [])) (none))))) (cond (Nat.ble 139 pc) (cond (Nat.beq pc 139) (some (.iconst 1, 140, [])) (cond (Nat.beq pc 140) (some (.goto 4, 143, [144])) (cond (Nat.beq pc 143) (some (.iconst 0, 144, [])) (none)))) (cond (Nat.beq pc 132) (some (.iload_n 1, 133, [])) (cond (Nat.beq pc 133) (some (.invokevirtual 124, 136, [])) (cond (Nat.beq pc 136) (some (.ifCond .eq 7, 139, [143])) (none)))))) (cond (Nat.ble 121 pc) (cond (Nat.ble 127 pc) (cond (Nat.beq pc 127) (some (.iload 5, 129, [])) (cond (Nat.beq pc 129) (some (.aload_n 0, 130, [])) (cond (Nat.beq pc 130) (some (.iload 6, 132, [])) (none)))) (cond (Nat.beq pc 121) (some (.bipush 14, 123, [])) (cond (Nat.beq pc 123) (some (.iaload, 124, [])) (cond (Nat.beq pc 124) (some (.if_icmp .ge 29, 127, [153])) (none))))) (cond (Nat.ble 115 pc) (cond (Nat.beq pc 115) (some (.iload 6, 117, [])) (cond (Nat.beq pc 117) (some (.aload_n 0, 118, [])) (cond (Nat.beq pc 118) (some (.getfield 13, 121, [])) (none)))) (cond (Nat.beq pc 112) (some (.iconst 0, 113, [])) (cond (Nat.beq pc 113) (some (.istore 6, 115, [])) (none)))))) (cond (Nat.ble 95 pc) (cond (Nat.ble 104 pc) (cond (Nat.ble 108 pc) (cond (Nat.beq pc 108) (some (.iastore, 109, [])) (cond (Nat.beq pc 109) (some (.iconst 0, 110, [])) (cond (Nat.beq pc 110) (some (.istore 5, 112, [])) (none)))) (cond (Nat.beq pc 104) (some (.iconst 2, 105, [])) (cond (Nat.beq pc 105) (some (.iadd, 106, [])) (cond (Nat.beq pc 106) (some (.iload 4, 108, [])) (none))))) (cond (Nat.ble 101 pc) (cond (Nat.beq pc 101) (some (.iload_n 1, 102, [])) (cond (Nat.beq pc 102) (some (.imul, 103, [])) (cond (Nat.beq pc 103) (some (.iadd, 104, [])) (none)))) (cond (Nat.beq pc 95) (some (.getfield 19, 98, [])) (cond (Nat.beq pc 98) (some (.bipush 104, 100, [])) (cond (Nat.beq pc 100) (some (.iconst 3, 101, [])) (none)))))) (cond (Nat.ble 89 pc) (cond (Nat.ble 92 pc) (cond (Nat.beq pc 92) (some (.iload_n 3, 93, [])) (cond (Nat.beq pc 93) (some (.iastore, 94, [])) (cond (Nat.beq pc 94) (some (.aload_n 0, 95, [])) (none)))) (cond (Nat.beq pc 89) (some (.iadd, 90, [])) (cond (Nat.beq pc 90) (some (.iconst 1, 91, [])) (cond (Nat.beq pc 91) (some (.iadd, 92, [])) (none))))) (cond (Nat.ble 86 pc) (cond (Nat.beq pc 86) (some (.iconst 3, 87, [])) (cond (Nat.beq pc 87) (some (.iload_n 1, 88, [])) (cond (Nat.beq pc 88) (some (.imul, 89, [])) (none)))) (cond (Nat.beq pc 81) (some (.getfield 19, 84, [])) (cond (Nat.beq pc 84) (some (.bipush 104, 86, [])) (none))))))) (cond (Nat.ble 39 pc) (cond (Nat.ble 64 pc) (cond (Nat.ble 75 pc) (cond (Nat.ble 78 pc) (cond (Nat.beq pc 78) (some (.iload_n 2, 79, [])) (cond (Nat.beq pc 79) (some (.iastore, 80, [])) (cond (Nat.beq pc 80) (some (.aload_n 0, 81, [])) (none)))) (cond (Nat.beq pc 75) (some (.iload_n 1, 76, [])) (cond (Nat.beq pc 76) (some (.imul, 77, [])) (cond (Nat.beq pc 77) (some (.iadd, 78, [])) (none))))) (cond (Nat.ble 69 pc) (cond (Nat.beq pc 69) (some (.getfield 19, 72, [])) (cond (Nat.beq pc 72) (some (.bipush 104, 74, [])) (cond (Nat.beq pc 74) (some (.iconst 3, 75, [])) (none)))) (cond (Nat.beq pc 64) (some (.aload_n 0, 65, [])) (cond (Nat.beq pc 65) (some (.invokevirtual 411, 68, [])) (cond (Nat.beq pc 68) (some (.aload_n 0, 69, [])) (none)))))) (cond (Nat.ble 53 pc) (cond (Nat.ble 58 pc) (cond (Nat.beq pc 58) (some (.ifCond .ne 6, 61, [64])) (cond (Nat.beq pc 61) (some (.bipush (-2), 63, [])) (cond (Nat.beq pc 63) (some (.ireturn, 64, [])) (none)))) (cond (Nat.beq pc 53) (some (.iload_n 2, 54, [])) (cond (Nat.beq pc 54) (some (.ifCond .ne 10, 57, [64])) (cond (Nat.beq pc 57) (some (.iload_n 3, 58, [])) (none))))) (cond (Nat.ble 45 pc) (cond (Nat.beq pc 45) (some (.iload 4, 47, [])) (cond (Nat.beq pc 47) (some (.sipush 200, 50, [])) (cond (Nat.beq pc 50) (some (.if_icmp .gt 11, 53, [61])) (none)))) (cond (Nat.beq pc 39) (some (.sipush (-200), 42, [])) (cond (Nat.beq pc 42) (some (.if_icmp .lt 19, 45, [61])) (none)))))) (cond (Nat.ble 18 pc) (cond (Nat.ble 27 pc) (cond (Nat.ble 33 pc) (cond (Nat.beq pc 33) (some (.iconst 5, 34, [])) (cond (Nat.beq pc 34) (some (.if_icmp .gt 27, 37, [61])) (cond (Nat.beq pc 37) (some (.iload 4, 39, [])) (none)))) (cond (Nat.beq pc 27) (some (.bipush (-5), 29, [])) (cond (Nat.beq pc 29) (some (.if_icmp .lt 32, 32, [61])) (cond (Nat.beq pc 32) (some (.iload_n 3, 33, [])) (none))))) (cond (Nat.ble 22 pc) (cond (Nat.beq pc 22) (some (.iconst 5, 23, [])) (cond (Nat.beq pc 23) (some (.if_icmp .gt 38, 26, [61])) (cond (Nat.beq pc 26) (some (.iload_n 3, 27, [])) (none)))) (cond (Nat.beq pc 18) (some (.if_icmp .lt 43, 21, [61])) (cond (Nat.beq pc 21) (some (.iload_n 2, 22, [])) (none))))) (cond (Nat.ble 7 pc) (cond (Nat.ble 14 pc) (cond (Nat.beq pc 14) (some (.ireturn, 15, [])) (cond (Nat.beq pc 15) (some (.iload_n 2, 16, [])) (cond (Nat.beq pc 16) (some (.bipush (-5), 18, [])) (none)))) (cond (Nat.beq pc 7) (some (.invokevirtual 308, 10, [])) (cond (Nat.beq pc 10) (some (.ifCond .ne 5, 13, [15])) (cond (Nat.beq pc 13) (some (.iconst (-1), 14, [])) (none))))) (cond (Nat.ble 2 pc) (cond (Nat.beq pc 2) (some (.putfield 70, 5, [])) (cond (Nat.beq pc 5) (some (.aload_n 0, 6, [])) (cond (Nat.beq pc 6) (some (.iload_n 1, 7, [])) (none)))) (cond (Nat.beq pc 0) (some (.aload_n 0, 1, [])) (cond (Nat.beq pc 1) (some (.iconst 0, 2, [])) (none))))))))
theorem qkX9_setLine_ok : ∀ pc i nx ts, qkX9_setLine pc = some (i, nx, ts) → am_cok cX9_setLine pc (i, nx, ts) = true := fun pc i nx ts h => am_tok_ok (n := 156) (by decide +kernel) (fun pc h => by show cond (Nat.ble 156 pc) _ _ = _; rw [Nat.ble_eq_true_of_le h]; rfl) h
def qaX9_setLine : Nat → Option CE := fun k => cond (Nat.beq k 308) (some qeX9_isLine) (cond (Nat.beq k 411) (some qeX9_keeps) (cond (Nat.beq k 124) (some qeX9_isOnLine) (none)))
theorem qyX9_setLine (l : Launch) : ∀ k e1, qaX9_setLine k = some e1 → am_cal l layM RX9 6 k e1 ∧ ceT e1 = 0 := q_cons ⟨am_calV (ci := 9) (qtX9_isLine l) qbX9_isLine (by decide) rfl (am_tb_at 1683 (by decide +kernel) rfl), rfl⟩ (q_cons ⟨am_calV (ci := 9) (qtX9_keeps l) qbX9_keeps (by decide) rfl (am_tb_at 2038 (by decide +kernel) rfl), rfl⟩ (q_cons ⟨am_calV (ci := 9) (qtX9_isOnLine l) qbX9_isOnLine (by decide) rfl (am_tb_at 1802 (by decide +kernel) rfl), rfl⟩ (q_nil)))
def qxX9_setLine : CX := (qkX9_setLine, layM, qfX9, qaX9_setLine, qcX9, qlX9, qmX9, (some .int), false, none, 0, none, fun _ => none)
theorem qzX9_setLine (l : Launch) : am_sta l qxX9_setLine RX9 6 cX9_setLine := ⟨qkX9_setLine_ok, layM_ok, qfX9_ok, qcX9_ok, qlX9_ok, am_mthP qmX9_ok (by decide), fun k e1 h => (qyX9_setLine l k e1 h).1⟩
def qsX9_setLine : SP := fun as F A K => match as with
  | [.inr (.inr o), .inl l, .inl a, .inl b, .inl c] => cond (Nat.beq o 25) ((fgOK (mF A) ∧ (0 ≤ (F 25 8) ∧ (F 25 8) ≤ 10) ∧ (-2147483648 ≤ l ∧ l < 2147483648) ∧ (-2147483648 ≤ a ∧ a < 2147483648) ∧ (-2147483648 ≤ b ∧ b < 2147483648) ∧ (-2147483648 ≤ c ∧ c < 2147483648)) ∧ (∀ (G_1 : FF) (B_1 : AA), (msQ ((0 ≤ l ∧ l < mF A 1) ∧ (-5 ≤ a ∧ a ≤ 5) ∧ (-5 ≤ b ∧ b ≤ 5) ∧ (-200 ≤ c ∧ c ≤ 200) ∧ ¬ (a = 0 ∧ b = 0)) F G_1 A B_1 ((lnR (mF A) l a b c))) → (K (some (some (vI (if (0 ≤ l ∧ l < mF A 1) then (if (-5 ≤ a ∧ a ≤ 5) ∧ (-5 ≤ b ∧ b ≤ 5) ∧ (-200 ≤ c ∧ c ≤ 200) ∧ ¬ (a = 0 ∧ b = 0) then onF (lnR (mF A) l a b c) l (Int.toNat (mF A 0)) else -2) else -1)))) G_1 B_1))) (False)
  | _ => False
def qeX9_setLine : CE := (yX9_setLine, cX9_setLine, 7, (some .int), 4, some 9, 0, [], 0, 6, qsX9_setLine)
theorem qbX9_setLine : am_mb qeX9_setLine := ⟨am_tb_at 2061 (by decide +kernel) rfl, am_tb_at 124 (by decide +kernel) rfl, ⟨by decide, by decide, by decide +kernel⟩, by decide, by decide, am_tb_at 2059 (by decide +kernel) rfl, am_tb_at 2060 (by decide +kernel) rfl, _, _, rfl⟩
def qnX9_setLine_25 : CUT := fun pc => cond (Nat.beq pc 115) (some [true, true, true, true, true, true, true]) (none)
def qiX9_setLine_25 (l : Int) (a : Int) (b : Int) (c : Int) (F0 : FF) (A0 : AA) : REC := fun pc ls st F A u => cond (Nat.beq pc 115) (match ls, st, u with
    | [some (.inr (.inr s0)), some (.inl s1), some (.inl s2), some (.inl s3), some (.inl s4), some (.inl n), some (.inl k)], [], 0 => s0 = 25 ∧ s1 = l ∧ s2 = a ∧ s3 = b ∧ s4 = c ∧ ((0 ≤ l ∧ l < mF A0 1) ∧ ((-5 ≤ a ∧ a ≤ 5) ∧ (-5 ≤ b ∧ b ≤ 5) ∧ (-200 ≤ c ∧ c ≤ 200) ∧ ¬ (a = 0 ∧ b = 0)) ∧ (0 ≤ k ∧ k ≤ mF A0 0) ∧ msW F0 F A0 A ∧ mF A = (lnR (mF A0) l a b c) ∧ n = onF (lnR (mF A0) l a b c) l (Int.toNat k))
    | _, _, _ => False) (False)
def quX9_setLine_25 : Nat → LVs → List AV → FF → AA → Nat := fun pc ls _ F A => cond (Nat.beq pc 115) (match ls with
    | [some (.inr (.inr s0)), some (.inl s1), some (.inl s2), some (.inl s3), some (.inl s4), some (.inl n), some (.inl k)] => Int.toNat (20 - k)
    | _ => 0) (0)
set_option maxRecDepth 20000 in
theorem qvX9_setLine_25_0 (l : Int) (a : Int) (b : Int) (c : Int) (F0 : FF) (A0 : AA) (K : KK) (h : (fgOK (mF A0) ∧ (0 ≤ (F0 25 8) ∧ (F0 25 8) ≤ 10) ∧ (-2147483648 ≤ l ∧ l < 2147483648) ∧ (-2147483648 ≤ a ∧ a < 2147483648) ∧ (-2147483648 ≤ b ∧ b < 2147483648) ∧ (-2147483648 ≤ c ∧ c < 2147483648)) ∧ (∀ (G_1 : FF) (B_1 : AA), (msQ ((0 ≤ l ∧ l < mF A0 1) ∧ (-5 ≤ a ∧ a ≤ 5) ∧ (-5 ≤ b ∧ b ≤ 5) ∧ (-200 ≤ c ∧ c ≤ 200) ∧ ¬ (a = 0 ∧ b = 0)) F0 G_1 A0 B_1 ((lnR (mF A0) l a b c))) → (K (some (some (vI (if (0 ≤ l ∧ l < mF A0 1) then (if (-5 ≤ a ∧ a ≤ 5) ∧ (-5 ≤ b ∧ b ≤ 5) ∧ (-200 ≤ c ∧ c ≤ 200) ∧ ¬ (a = 0 ∧ b = 0) then onF (lnR (mF A0) l a b c) l (Int.toNat (mF A0 0)) else -2) else -1)))) G_1 B_1))) : am_stp qxX9_setLine (am_run qxX9_setLine qnX9_setLine_25 (qiX9_setLine_25 l a b c F0 A0) K 69) K 0 (am_ent [vR 25, vI l, vI a, vI b, vI c] 7) [] F0 A0 0 := by
  show am_stp qxX9_setLine (am_run qxX9_setLine qnX9_setLine_25 (qiX9_setLine_25 l a b c F0 A0) K 69) K 0 [some (vR 25), some (vI l), some (vI a), some (vI b), some (vI c), none, none] [] F0 A0 0
  obtain ⟨hp, h⟩ := h
  have p1 := hp.1
  have pu := hp.2.1
  have q1 := p1.1.1
  have q2 := p1.1.2
  have q4 := p1.2.1
  show ((0 ≤ mF A0 0 ∧ mF A0 0 ≤ 8) ∧ (0 ≤ mF A0 1 ∧ mF A0 1 ≤ 6) ∧ (-2147483648 ≤ l ∧ l < 2147483648)) ∧ ((w32 (bi (0 ≤ l ∧ l < mF A0 1)) = w32 0 → (K (some (some (vI (-1)))) (upF F0 25 0 0) A0)) ∧ (¬ (w32 (bi (0 ≤ l ∧ l < mF A0 1)) = w32 0) → ((w32 a < w32 (-5) → (K (some (some (vI (-2)))) (upF F0 25 0 0) A0)) ∧ (¬ w32 a < w32 (-5) → ((w32 5 < w32 a → (K (some (some (vI (-2)))) (upF F0 25 0 0) A0)) ∧ (¬ w32 5 < w32 a → ((w32 b < w32 (-5) → (K (some (some (vI (-2)))) (upF F0 25 0 0) A0)) ∧ (¬ w32 b < w32 (-5) → ((w32 5 < w32 b → (K (some (some (vI (-2)))) (upF F0 25 0 0) A0)) ∧ (¬ w32 5 < w32 b → ((w32 c < w32 (-200) → (K (some (some (vI (-2)))) (upF F0 25 0 0) A0)) ∧ (¬ w32 c < w32 (-200) → ((w32 200 < w32 c → (K (some (some (vI (-2)))) (upF F0 25 0 0) A0)) ∧ (¬ w32 200 < w32 c → ((w32 a = w32 0 → ((w32 b = w32 0 → (K (some (some (vI (-2)))) (upF F0 25 0 0) A0)) ∧ (¬ w32 b = w32 0 → ((0 ≤ (F0 25 8) ∧ (F0 25 8) ≤ 10) ∧ (∀ (G_1 : FF) (B_1 : AA), (keP (upF F0 25 0 0) G_1 A0 B_1) → ((0 ≤ w32 (104 + (3 * l)) ∧ w32 (104 + (3 * l)) < 124) ∧ ((0 ≤ w32 ((104 + (3 * l)) + 1) ∧ w32 ((104 + (3 * l)) + 1) < 124) ∧ ((0 ≤ w32 ((104 + (3 * l)) + 2) ∧ w32 ((104 + (3 * l)) + 2) < 124) ∧ (25 = 25 ∧ l = l ∧ a = a ∧ b = b ∧ c = c ∧ ((0 ≤ l ∧ l < mF A0 1) ∧ ((-5 ≤ a ∧ a ≤ 5) ∧ (-5 ≤ b ∧ b ≤ 5) ∧ (-200 ≤ c ∧ c ≤ 200) ∧ ¬ (a = 0 ∧ b = 0)) ∧ (0 ≤ 0 ∧ 0 ≤ mF A0 0) ∧ msW F0 G_1 A0 (upA (upA (upA B_1 29 (w32 (104 + (3 * l))) a) 29 (w32 ((104 + (3 * l)) + 1)) b) 29 (w32 ((104 + (3 * l)) + 2)) c) ∧ mF (upA (upA (upA B_1 29 (w32 (104 + (3 * l))) a) 29 (w32 ((104 + (3 * l)) + 1)) b) 29 (w32 ((104 + (3 * l)) + 2)) c) = (lnR (mF A0) l a b c) ∧ 0 = onF (lnR (mF A0) l a b c) l (Int.toNat 0))))))))))) ∧ (¬ w32 a = w32 0 → ((0 ≤ (F0 25 8) ∧ (F0 25 8) ≤ 10) ∧ (∀ (G_1 : FF) (B_1 : AA), (keP (upF F0 25 0 0) G_1 A0 B_1) → ((0 ≤ w32 (104 + (3 * l)) ∧ w32 (104 + (3 * l)) < 124) ∧ ((0 ≤ w32 ((104 + (3 * l)) + 1) ∧ w32 ((104 + (3 * l)) + 1) < 124) ∧ ((0 ≤ w32 ((104 + (3 * l)) + 2) ∧ w32 ((104 + (3 * l)) + 2) < 124) ∧ (25 = 25 ∧ l = l ∧ a = a ∧ b = b ∧ c = c ∧ ((0 ≤ l ∧ l < mF A0 1) ∧ ((-5 ≤ a ∧ a ≤ 5) ∧ (-5 ≤ b ∧ b ≤ 5) ∧ (-200 ≤ c ∧ c ≤ 200) ∧ ¬ (a = 0 ∧ b = 0)) ∧ (0 ≤ 0 ∧ 0 ≤ mF A0 0) ∧ msW F0 G_1 A0 (upA (upA (upA B_1 29 (w32 (104 + (3 * l))) a) 29 (w32 ((104 + (3 * l)) + 1)) b) 29 (w32 ((104 + (3 * l)) + 2)) c) ∧ mF (upA (upA (upA B_1 29 (w32 (104 + (3 * l))) a) 29 (w32 ((104 + (3 * l)) + 1)) b) 29 (w32 ((104 + (3 * l)) + 2)) c) = (lnR (mF A0) l a b c) ∧ 0 = onF (lnR (mF A0) l a b c) l (Int.toNat 0))))))))))))))))))))))))
  refine ⟨by first | exact bi_01 | omega | (rw [upF_o (show (25 : Nat) ≠ 25 ∨ (8 : Nat) ≠ 0 by decide)]; exact pu) | (rw [w32_id (by omega) (by omega)]; omega), ?_⟩
  refine ⟨fun c1 => ?_, fun c1 => ?_⟩
  · skip
    (try simp only [w32_0, wbi0, Classical.not_not] at c1); (try simp (disch := omega) only [w32_0, wbi0, Classical.not_not, w32_id] at c1)
    first
    | exact K_eq (h _ _ ⟨fun z => absurd z (by omega), fun _ => ⟨rfl, rfl⟩⟩) (if_neg (by omega))
    | exact K_eq (h _ _ ⟨fun z => absurd z (by omega), fun _ => ⟨rfl, rfl⟩⟩) (by rw [if_pos (by omega), if_neg (by omega)])
  · skip
    (try simp only [w32_0, wbi0, Classical.not_not] at c1); (try simp (disch := omega) only [w32_0, wbi0, Classical.not_not, w32_id] at c1)
    refine ⟨fun c2 => ?_, fun c2 => ?_⟩
    · skip
      (try simp only [w32_0, wbi0, Classical.not_not] at c2); (try simp (disch := omega) only [w32_0, wbi0, Classical.not_not, w32_id] at c2)
      first
      | exact K_eq (h _ _ ⟨fun z => absurd z (by omega), fun _ => ⟨rfl, rfl⟩⟩) (if_neg (by omega))
      | exact K_eq (h _ _ ⟨fun z => absurd z (by omega), fun _ => ⟨rfl, rfl⟩⟩) (by rw [if_pos (by omega), if_neg (by omega)])
    · skip
      (try simp only [w32_0, wbi0, Classical.not_not] at c2); (try simp (disch := omega) only [w32_0, wbi0, Classical.not_not, w32_id] at c2)
      refine ⟨fun c3 => ?_, fun c3 => ?_⟩
      · skip
        (try simp only [w32_0, wbi0, Classical.not_not] at c3); (try simp (disch := omega) only [w32_0, wbi0, Classical.not_not, w32_id] at c3)
        first
        | exact K_eq (h _ _ ⟨fun z => absurd z (by omega), fun _ => ⟨rfl, rfl⟩⟩) (if_neg (by omega))
        | exact K_eq (h _ _ ⟨fun z => absurd z (by omega), fun _ => ⟨rfl, rfl⟩⟩) (by rw [if_pos (by omega), if_neg (by omega)])
      · skip
        (try simp only [w32_0, wbi0, Classical.not_not] at c3); (try simp (disch := omega) only [w32_0, wbi0, Classical.not_not, w32_id] at c3)
        refine ⟨fun c4 => ?_, fun c4 => ?_⟩
        · skip
          (try simp only [w32_0, wbi0, Classical.not_not] at c4); (try simp (disch := omega) only [w32_0, wbi0, Classical.not_not, w32_id] at c4)
          first
          | exact K_eq (h _ _ ⟨fun z => absurd z (by omega), fun _ => ⟨rfl, rfl⟩⟩) (if_neg (by omega))
          | exact K_eq (h _ _ ⟨fun z => absurd z (by omega), fun _ => ⟨rfl, rfl⟩⟩) (by rw [if_pos (by omega), if_neg (by omega)])
        · skip
          (try simp only [w32_0, wbi0, Classical.not_not] at c4); (try simp (disch := omega) only [w32_0, wbi0, Classical.not_not, w32_id] at c4)
          refine ⟨fun c5 => ?_, fun c5 => ?_⟩
          · skip
            (try simp only [w32_0, wbi0, Classical.not_not] at c5); (try simp (disch := omega) only [w32_0, wbi0, Classical.not_not, w32_id] at c5)
            first
            | exact K_eq (h _ _ ⟨fun z => absurd z (by omega), fun _ => ⟨rfl, rfl⟩⟩) (if_neg (by omega))
            | exact K_eq (h _ _ ⟨fun z => absurd z (by omega), fun _ => ⟨rfl, rfl⟩⟩) (by rw [if_pos (by omega), if_neg (by omega)])
          · skip
            (try simp only [w32_0, wbi0, Classical.not_not] at c5); (try simp (disch := omega) only [w32_0, wbi0, Classical.not_not, w32_id] at c5)
            refine ⟨fun c6 => ?_, fun c6 => ?_⟩
            · skip
              (try simp only [w32_0, wbi0, Classical.not_not] at c6); (try simp (disch := omega) only [w32_0, wbi0, Classical.not_not, w32_id] at c6)
              first
              | exact K_eq (h _ _ ⟨fun z => absurd z (by omega), fun _ => ⟨rfl, rfl⟩⟩) (if_neg (by omega))
              | exact K_eq (h _ _ ⟨fun z => absurd z (by omega), fun _ => ⟨rfl, rfl⟩⟩) (by rw [if_pos (by omega), if_neg (by omega)])
            · skip
              (try simp only [w32_0, wbi0, Classical.not_not] at c6); (try simp (disch := omega) only [w32_0, wbi0, Classical.not_not, w32_id] at c6)
              refine ⟨fun c7 => ?_, fun c7 => ?_⟩
              · skip
                (try simp only [w32_0, wbi0, Classical.not_not] at c7); (try simp (disch := omega) only [w32_0, wbi0, Classical.not_not, w32_id] at c7)
                first
                | exact K_eq (h _ _ ⟨fun z => absurd z (by omega), fun _ => ⟨rfl, rfl⟩⟩) (if_neg (by omega))
                | exact K_eq (h _ _ ⟨fun z => absurd z (by omega), fun _ => ⟨rfl, rfl⟩⟩) (by rw [if_pos (by omega), if_neg (by omega)])
              · skip
                (try simp only [w32_0, wbi0, Classical.not_not] at c7); (try simp (disch := omega) only [w32_0, wbi0, Classical.not_not, w32_id] at c7)
                refine ⟨fun c8 => ?_, fun c8 => ?_⟩
                · skip
                  (try simp only [w32_0, wbi0, Classical.not_not] at c8); (try simp (disch := omega) only [w32_0, wbi0, Classical.not_not, w32_id] at c8)
                  refine ⟨fun c9 => ?_, fun c9 => ?_⟩
                  · skip
                    (try simp only [w32_0, wbi0, Classical.not_not] at c9); (try simp (disch := omega) only [w32_0, wbi0, Classical.not_not, w32_id] at c9)
                    first
                    | exact K_eq (h _ _ ⟨fun z => absurd z (by omega), fun _ => ⟨rfl, rfl⟩⟩) (if_neg (by omega))
                    | exact K_eq (h _ _ ⟨fun z => absurd z (by omega), fun _ => ⟨rfl, rfl⟩⟩) (by rw [if_pos (by omega), if_neg (by omega)])
                  · skip
                    (try simp only [w32_0, wbi0, Classical.not_not] at c9); (try simp (disch := omega) only [w32_0, wbi0, Classical.not_not, w32_id] at c9)
                    refine ⟨by first | exact bi_01 | omega | (rw [upF_o (show (25 : Nat) ≠ 25 ∨ (8 : Nat) ≠ 0 by decide)]; exact pu) | (rw [w32_id (by omega) (by omega)]; omega), ?_⟩
                    intro G_1 B_1 g1
                    have eG := keP_f g1
                    refine ⟨by first | exact bi_01 | omega | (rw [upF_o (show (25 : Nat) ≠ 25 ∨ (8 : Nat) ≠ 0 by decide)]; exact pu) | (rw [w32_id (by omega) (by omega)]; omega), ?_⟩
                    refine ⟨by first | exact bi_01 | omega | (rw [upF_o (show (25 : Nat) ≠ 25 ∨ (8 : Nat) ≠ 0 by decide)]; exact pu) | (rw [w32_id (by omega) (by omega)]; omega), ?_⟩
                    refine ⟨by first | exact bi_01 | omega | (rw [upF_o (show (25 : Nat) ≠ 25 ∨ (8 : Nat) ≠ 0 by decide)]; exact pu) | (rw [w32_id (by omega) (by omega)]; omega), ?_⟩
                    refine ⟨rfl, rfl, rfl, rfl, rfl, ?_⟩
                    have w1 : w32 (104 + 3 * l) = 104 + 3 * l := w32_id (by omega) (by omega)
                    have w2 : w32 (104 + 3 * l + 1) = 104 + 3 * l + 1 := w32_id (by omega) (by omega)
                    have w3 : w32 (104 + 3 * l + 2) = 104 + 3 * l + 2 := w32_id (by omega) (by omega)
                    simp only [w1, w2, w3]
                    exact ⟨by omega, by omega, by omega, msW_of g1 (fun b i hb => (upA_k hb).trans ((upA_k hb).trans (upA_k hb))), by rw [mF_l3 (by omega) (by omega), eG], rfl⟩
                · skip
                  (try simp only [w32_0, wbi0, Classical.not_not] at c8); (try simp (disch := omega) only [w32_0, wbi0, Classical.not_not, w32_id] at c8)
                  refine ⟨by first | exact bi_01 | omega | (rw [upF_o (show (25 : Nat) ≠ 25 ∨ (8 : Nat) ≠ 0 by decide)]; exact pu) | (rw [w32_id (by omega) (by omega)]; omega), ?_⟩
                  intro G_1 B_1 g1
                  have eG := keP_f g1
                  refine ⟨by first | exact bi_01 | omega | (rw [upF_o (show (25 : Nat) ≠ 25 ∨ (8 : Nat) ≠ 0 by decide)]; exact pu) | (rw [w32_id (by omega) (by omega)]; omega), ?_⟩
                  refine ⟨by first | exact bi_01 | omega | (rw [upF_o (show (25 : Nat) ≠ 25 ∨ (8 : Nat) ≠ 0 by decide)]; exact pu) | (rw [w32_id (by omega) (by omega)]; omega), ?_⟩
                  refine ⟨by first | exact bi_01 | omega | (rw [upF_o (show (25 : Nat) ≠ 25 ∨ (8 : Nat) ≠ 0 by decide)]; exact pu) | (rw [w32_id (by omega) (by omega)]; omega), ?_⟩
                  refine ⟨rfl, rfl, rfl, rfl, rfl, ?_⟩
                  have w1 : w32 (104 + 3 * l) = 104 + 3 * l := w32_id (by omega) (by omega)
                  have w2 : w32 (104 + 3 * l + 1) = 104 + 3 * l + 1 := w32_id (by omega) (by omega)
                  have w3 : w32 (104 + 3 * l + 2) = 104 + 3 * l + 2 := w32_id (by omega) (by omega)
                  simp only [w1, w2, w3]
                  exact ⟨by omega, by omega, by omega, msW_of g1 (fun b i hb => (upA_k hb).trans ((upA_k hb).trans (upA_k hb))), by rw [mF_l3 (by omega) (by omega), eG], rfl⟩
set_option maxRecDepth 20000 in
theorem qvX9_setLine_25_115 (l : Int) (a : Int) (b : Int) (c : Int) (F0 : FF) (A0 : AA) (K : KK) (h : (fgOK (mF A0) ∧ (0 ≤ (F0 25 8) ∧ (F0 25 8) ≤ 10) ∧ (-2147483648 ≤ l ∧ l < 2147483648) ∧ (-2147483648 ≤ a ∧ a < 2147483648) ∧ (-2147483648 ≤ b ∧ b < 2147483648) ∧ (-2147483648 ≤ c ∧ c < 2147483648)) ∧ (∀ (G_1 : FF) (B_1 : AA), (msQ ((0 ≤ l ∧ l < mF A0 1) ∧ (-5 ≤ a ∧ a ≤ 5) ∧ (-5 ≤ b ∧ b ≤ 5) ∧ (-200 ≤ c ∧ c ≤ 200) ∧ ¬ (a = 0 ∧ b = 0)) F0 G_1 A0 B_1 ((lnR (mF A0) l a b c))) → (K (some (some (vI (if (0 ≤ l ∧ l < mF A0 1) then (if (-5 ≤ a ∧ a ≤ 5) ∧ (-5 ≤ b ∧ b ≤ 5) ∧ (-200 ≤ c ∧ c ≤ 200) ∧ ¬ (a = 0 ∧ b = 0) then onF (lnR (mF A0) l a b c) l (Int.toNat (mF A0 0)) else -2) else -1)))) G_1 B_1))) (n : Int) (k : Int) (F : FF) (A : AA) (hi : (0 ≤ l ∧ l < mF A0 1) ∧ ((-5 ≤ a ∧ a ≤ 5) ∧ (-5 ≤ b ∧ b ≤ 5) ∧ (-200 ≤ c ∧ c ≤ 200) ∧ ¬ (a = 0 ∧ b = 0)) ∧ (0 ≤ k ∧ k ≤ mF A0 0) ∧ msW F0 F A0 A ∧ mF A = (lnR (mF A0) l a b c) ∧ n = onF (lnR (mF A0) l a b c) l (Int.toNat k)) : am_stp qxX9_setLine (am_run qxX9_setLine qnX9_setLine_25 (fun pc ls st F9 A9 u => qiX9_setLine_25 l a b c F0 A0 pc ls st F9 A9 u ∧ quX9_setLine_25 pc ls st F9 A9 < quX9_setLine_25 115 [some (vR 25), some (vI l), some (vI a), some (vI b), some (vI c), some (vI n), some (vI k)] [] F A) K 69) K 115 [some (vR 25), some (vI l), some (vI a), some (vI b), some (vI c), some (vI n), some (vI k)] [] F A 0 := by
  obtain ⟨hp, h⟩ := h
  have p1 := hp.1
  have pu := hp.2.1
  have q1 := p1.1.1
  have q2 := p1.1.2
  have q4 := p1.2.1
  obtain ⟨h1, h2, h3, hW, eA, h4⟩ := hi
  have hfg := lnR_fg p1 h1.1 h1.2 h2.1 h2.2.1 h2.2.2.1
  have l0 : (lnR (mF A0) l a b c) 0 = mF A0 0 := by unfold lnR; rw [if_neg (by omega), if_neg (by omega), if_neg (by omega)]
  have l1 : (lnR (mF A0) l a b c) 1 = mF A0 1 := by unfold lnR; rw [if_neg (by omega), if_neg (by omega), if_neg (by omega)]
  have n0 : A 27 14 = mF A0 0 := by rw [← l0, ← eA]; rfl
  have nb := onF_b (lnR (mF A0) l a b c) l (Int.toNat k)
  show (0 ≤ w32 14 ∧ w32 14 < 16) ∧ ((w32 k < w32 (A 27 (w32 14)) → ((fgOK (mF A) ∧ (0 ≤ k ∧ k < mF A 0) ∧ (0 ≤ l ∧ l < mF A 1)) ∧ ((w32 (bi (azP (cfL (mF A) k l) (Int.toNat (mF A (18 + k))))) = w32 0 → ((25 = 25 ∧ l = l ∧ a = a ∧ b = b ∧ c = c ∧ ((0 ≤ l ∧ l < mF A0 1) ∧ ((-5 ≤ a ∧ a ≤ 5) ∧ (-5 ≤ b ∧ b ≤ 5) ∧ (-200 ≤ c ∧ c ≤ 200) ∧ ¬ (a = 0 ∧ b = 0)) ∧ (0 ≤ (k + 1) ∧ (k + 1) ≤ mF A0 0) ∧ msW F0 F A0 A ∧ mF A = (lnR (mF A0) l a b c) ∧ (n + 0) = onF (lnR (mF A0) l a b c) l (Int.toNat (k + 1)))) ∧ (Int.toNat (20 - (k + 1))) < (Int.toNat (20 - k)))) ∧ (¬ w32 (bi (azP (cfL (mF A) k l) (Int.toNat (mF A (18 + k))))) = w32 0 → ((25 = 25 ∧ l = l ∧ a = a ∧ b = b ∧ c = c ∧ ((0 ≤ l ∧ l < mF A0 1) ∧ ((-5 ≤ a ∧ a ≤ 5) ∧ (-5 ≤ b ∧ b ≤ 5) ∧ (-200 ≤ c ∧ c ≤ 200) ∧ ¬ (a = 0 ∧ b = 0)) ∧ (0 ≤ (k + 1) ∧ (k + 1) ≤ mF A0 0) ∧ msW F0 F A0 A ∧ mF A = (lnR (mF A0) l a b c) ∧ (n + 1) = onF (lnR (mF A0) l a b c) l (Int.toNat (k + 1)))) ∧ (Int.toNat (20 - (k + 1))) < (Int.toNat (20 - k))))))) ∧ (¬ w32 k < w32 (A 27 (w32 14)) → (K (some (some (vI n))) F A)))
  refine ⟨by first | decide | exact bi_01 | omega | (rw [eA]; exact ⟨hfg, by rw [l0]; omega, by rw [l1]; exact h1⟩), ?_⟩
  refine ⟨fun c1 => ?_, fun c1 => ?_⟩
  · skip
    (try simp (disch := omega) only [w32_0, w32_id] at c1); (try rw [n0] at c1); (try rw [eA] at c1); (try simp (disch := omega) only [w32_0, wbi0, Classical.not_not, w32_id] at c1)
    refine ⟨by first | decide | exact bi_01 | omega | (rw [eA]; exact ⟨hfg, by rw [l0]; omega, by rw [l1]; exact h1⟩), ?_⟩
    refine ⟨fun c2 => ?_, fun c2 => ?_⟩
    · skip
      (try simp (disch := omega) only [w32_0, w32_id] at c2); (try rw [n0] at c2); (try rw [eA] at c2); (try simp (disch := omega) only [w32_0, wbi0, Classical.not_not, w32_id] at c2)
      refine ⟨⟨rfl, rfl, rfl, rfl, rfl, ?_⟩, by omega⟩
      first
      | (refine ⟨h1, h2, by omega, hW, eA, ?_⟩
         rw [h4]; unfold onF; rw [sumI_s h3.1, bi_t c2]; done)
      | (refine ⟨h1, h2, by omega, hW, eA, ?_⟩
         rw [h4]; unfold onF; rw [sumI_s h3.1, bi_f c2]; done)
    · skip
      (try simp (disch := omega) only [w32_0, w32_id] at c2); (try rw [n0] at c2); (try rw [eA] at c2); (try simp (disch := omega) only [w32_0, wbi0, Classical.not_not, w32_id] at c2)
      refine ⟨⟨rfl, rfl, rfl, rfl, rfl, ?_⟩, by omega⟩
      first
      | (refine ⟨h1, h2, by omega, hW, eA, ?_⟩
         rw [h4]; unfold onF; rw [sumI_s h3.1, bi_t c2]; done)
      | (refine ⟨h1, h2, by omega, hW, eA, ?_⟩
         rw [h4]; unfold onF; rw [sumI_s h3.1, bi_f c2]; done)
  · skip
    (try simp (disch := omega) only [w32_0, w32_id] at c1); (try rw [n0] at c1); (try rw [eA] at c1); (try simp (disch := omega) only [w32_0, wbi0, Classical.not_not, w32_id] at c1)
    refine K_eq (h _ _ ⟨fun _ => ⟨hW, fun i i0 i1 => by rw [eA]⟩, fun z => absurd ⟨h1, h2⟩ z⟩) ?_
    rw [if_pos h1, if_pos h2, h4, show k = mF A0 0 by omega]
set_option maxRecDepth 20000 in
theorem qvX9_setLine_25 (l : Int) (a : Int) (b : Int) (c : Int) (F0 : FF) (A0 : AA) (K : KK) (h : (fgOK (mF A0) ∧ (0 ≤ (F0 25 8) ∧ (F0 25 8) ≤ 10) ∧ (-2147483648 ≤ l ∧ l < 2147483648) ∧ (-2147483648 ≤ a ∧ a < 2147483648) ∧ (-2147483648 ≤ b ∧ b < 2147483648) ∧ (-2147483648 ≤ c ∧ c < 2147483648)) ∧ (∀ (G_1 : FF) (B_1 : AA), (msQ ((0 ≤ l ∧ l < mF A0 1) ∧ (-5 ≤ a ∧ a ≤ 5) ∧ (-5 ≤ b ∧ b ≤ 5) ∧ (-200 ≤ c ∧ c ≤ 200) ∧ ¬ (a = 0 ∧ b = 0)) F0 G_1 A0 B_1 ((lnR (mF A0) l a b c))) → (K (some (some (vI (if (0 ≤ l ∧ l < mF A0 1) then (if (-5 ≤ a ∧ a ≤ 5) ∧ (-5 ≤ b ∧ b ≤ 5) ∧ (-200 ≤ c ∧ c ≤ 200) ∧ ¬ (a = 0 ∧ b = 0) then onF (lnR (mF A0) l a b c) l (Int.toNat (mF A0 0)) else -2) else -1)))) G_1 B_1))) : am_body qxX9_setLine qnX9_setLine_25 69 (qiX9_setLine_25 l a b c F0 A0) quX9_setLine_25 [vR 25, vI l, vI a, vI b, vI c] 7 F0 A0 K := by
  refine ⟨qvX9_setLine_25_0 l a b c F0 A0 K h, fun pc ls st F A u hI => ?_⟩
  unfold qiX9_setLine_25 at hI
  replace hI := am_cond2 hI
  rcases hI with ⟨hb, hI⟩ | hI
  · have hb := am_bq hb
    subst hb
    split at hI
    · rename_i s0 s1 s2 s3 s4 n k
      obtain ⟨e0, e1, e2, e3, e4, hI⟩ := hI
      subst e0
      subst e1
      subst e2
      subst e3
      subst e4
      exact qvX9_setLine_25_115 _ _ _ _ _ _ K h _ _ _ _ hI
    · exact hI.elim
  exact hI.elim
theorem qtX9_setLine (l : Launch) : am_CT l layM qeX9_setLine := am_met0 rfl (by decide +kernel) rfl rfl rfl rfl rfl (fun _ => rfl) rfl (qzX9_setLine l) (fun k e1 h => (qyX9_setLine l k e1 h).2) (fun as F A K h => by
  replace h : qsX9_setLine as F A K := h
  unfold qsX9_setLine at h
  split at h
  · rename_i o l a b c
    refine ⟨by first | exact Nat.le_of_ble_eq_true rfl | simp [am_fl, am_cat], ?_⟩
    replace h := am_cond2 h
    rcases h with ⟨hb, h⟩ | h
    · skip
      have hb0 := hb
      have hb0 := am_bq hb0
      subst hb0
      exact am_way_body (qvX9_setLine_25 l a b c F A K h)
    exact h.elim
  · exact h.elim)
def qkX9_rootsIfMoved : Nat → Option CI := fun pc => cond (Nat.ble 109 pc) none (cond (Nat.ble 54 pc) (cond (Nat.ble 82 pc) (cond (Nat.ble 94 pc) (cond (Nat.ble 100 pc) (cond (Nat.ble 103 pc) (cond (Nat.beq pc 103) (some (.invokevirtual 263, 106, [])) (cond (Nat.beq pc 106) (some (.iload 8, 108, [])) (cond (Nat.beq pc 108) (some (.ireturn, 109, [])) (none)))) (cond (Nat.beq pc 100) (some (.iconst 1, 101, [])) (cond (Nat.beq pc 101) (some (.iload 7, 103, [])) (none)))) (cond (Nat.ble 98 pc) (cond (Nat.beq pc 98) (some (.iload_n 1, 99, [])) (cond (Nat.beq pc 99) (some (.iload_n 3, 100, [])) (none))) (cond (Nat.beq pc 94) (some (.invokevirtual 263, 97, [])) (cond (Nat.beq pc 97) (some (.aload_n 0, 98, [])) (none))))) (cond (Nat.ble 89 pc) (cond (Nat.ble 91 pc) (cond (Nat.beq pc 91) (some (.iconst 0, 92, [])) (cond (Nat.beq pc 92) (some (.iload 6, 94, [])) (none))) (cond (Nat.beq pc 89) (some (.iload_n 1, 90, [])) (cond (Nat.beq pc 90) (some (.iload_n 3, 91, [])) (none)))) (cond (Nat.ble 86 pc) (cond (Nat.beq pc 86) (some (.istore 8, 88, [])) (cond (Nat.beq pc 88) (some (.aload_n 0, 89, [])) (none))) (cond (Nat.beq pc 82) (some (.goto 4, 85, [86])) (cond (Nat.beq pc 85) (some (.iconst (-1), 86, [])) (none)))))) (cond (Nat.ble 66 pc) (cond (Nat.ble 72 pc) (cond (Nat.ble 78 pc) (cond (Nat.beq pc 78) (some (.aload_n 0, 79, [])) (cond (Nat.beq pc 79) (some (.getfield 104, 82, [])) (none))) (cond (Nat.beq pc 72) (some (.invokevirtual 128, 75, [])) (cond (Nat.beq pc 75) (some (.ifCond .eq 10, 78, [85])) (none)))) (cond (Nat.ble 70 pc) (cond (Nat.beq pc 70) (some (.iload_n 1, 71, [])) (cond (Nat.beq pc 71) (some (.iload_n 2, 72, [])) (none))) (cond (Nat.beq pc 66) (some (.invokevirtual 263, 69, [])) (cond (Nat.beq pc 69) (some (.aload_n 0, 70, [])) (none))))) (cond (Nat.ble 61 pc) (cond (Nat.ble 63 pc) (cond (Nat.beq pc 63) (some (.iconst 1, 64, [])) (cond (Nat.beq pc 64) (some (.iload 5, 66, [])) (none))) (cond (Nat.beq pc 61) (some (.iload_n 1, 62, [])) (cond (Nat.beq pc 62) (some (.iload_n 3, 63, [])) (none)))) (cond (Nat.ble 57 pc) (cond (Nat.beq pc 57) (some (.invokevirtual 263, 60, [])) (cond (Nat.beq pc 60) (some (.aload_n 0, 61, [])) (none))) (cond (Nat.beq pc 54) (some (.iconst 0, 55, [])) (cond (Nat.beq pc 55) (some (.iload 4, 57, [])) (none))))))) (cond (Nat.ble 30 pc) (cond (Nat.ble 42 pc) (cond (Nat.ble 46 pc) (cond (Nat.ble 51 pc) (cond (Nat.beq pc 51) (some (.aload_n 0, 52, [])) (cond (Nat.beq pc 52) (some (.iload_n 1, 53, [])) (cond (Nat.beq pc 53) (some (.iload_n 3, 54, [])) (none)))) (cond (Nat.beq pc 46) (some (.invokevirtual 83, 49, [])) (cond (Nat.beq pc 49) (some (.istore 7, 51, [])) (none)))) (cond (Nat.ble 44 pc) (cond (Nat.beq pc 44) (some (.iload_n 3, 45, [])) (cond (Nat.beq pc 45) (some (.iconst 1, 46, [])) (none))) (cond (Nat.beq pc 42) (some (.aload_n 0, 43, [])) (cond (Nat.beq pc 43) (some (.iload_n 1, 44, [])) (none))))) (cond (Nat.ble 35 pc) (cond (Nat.ble 37 pc) (cond (Nat.beq pc 37) (some (.invokevirtual 83, 40, [])) (cond (Nat.beq pc 40) (some (.istore 6, 42, [])) (none))) (cond (Nat.beq pc 35) (some (.iload_n 3, 36, [])) (cond (Nat.beq pc 36) (some (.iconst 0, 37, [])) (none)))) (cond (Nat.ble 33 pc) (cond (Nat.beq pc 33) (some (.aload_n 0, 34, [])) (cond (Nat.beq pc 34) (some (.iload_n 1, 35, [])) (none))) (cond (Nat.beq pc 30) (some (.bipush (-2), 32, [])) (cond (Nat.beq pc 32) (some (.ireturn, 33, [])) (none)))))) (cond (Nat.ble 12 pc) (cond (Nat.ble 20 pc) (cond (Nat.ble 24 pc) (cond (Nat.beq pc 24) (some (.invokestatic 408, 27, [])) (cond (Nat.beq pc 27) (some (.ifCond .ne 6, 30, [33])) (none))) (cond (Nat.beq pc 20) (some (.iload 4, 22, [])) (cond (Nat.beq pc 22) (some (.iload 5, 24, [])) (none)))) (cond (Nat.ble 14 pc) (cond (Nat.beq pc 14) (some (.invokevirtual 305, 17, [])) (cond (Nat.beq pc 17) (some (.ifCond .eq 13, 20, [30])) (none))) (cond (Nat.beq pc 12) (some (.iload_n 1, 13, [])) (cond (Nat.beq pc 13) (some (.iload_n 3, 14, [])) (none))))) (cond (Nat.ble 6 pc) (cond (Nat.ble 10 pc) (cond (Nat.beq pc 10) (some (.ireturn, 11, [])) (cond (Nat.beq pc 11) (some (.aload_n 0, 12, [])) (none))) (cond (Nat.beq pc 6) (some (.ifCond .ne 5, 9, [11])) (cond (Nat.beq pc 9) (some (.iconst 0, 10, [])) (none)))) (cond (Nat.ble 2 pc) (cond (Nat.beq pc 2) (some (.iload_n 2, 3, [])) (cond (Nat.beq pc 3) (some (.invokevirtual 346, 6, [])) (none))) (cond (Nat.beq pc 0) (some (.aload_n 0, 1, [])) (cond (Nat.beq pc 1) (some (.iload_n 1, 2, [])) (none))))))))
theorem qkX9_rootsIfMoved_ok : ∀ pc i nx ts, qkX9_rootsIfMoved pc = some (i, nx, ts) → am_cok cX9_rootsIfMoved pc (i, nx, ts) = true := fun pc i nx ts h => am_tok_ok (n := 109) (by decide +kernel) (fun pc h => by show cond (Nat.ble 109 pc) _ _ = _; rw [Nat.ble_eq_true_of_le h]; rfl) h
def qaX9_rootsIfMoved : Nat → Option CE := fun k => cond (Nat.beq k 346) (some qeX9_areThere) (cond (Nat.beq k 305) (some qeX9_isPoint) (cond (Nat.beq k 408) (some qeX9_isPlace) (cond (Nat.beq k 83) (some qeX9_point) (cond (Nat.beq k 263) (some qeX9_setPoint) (cond (Nat.beq k 128) (some qeX9_laysRoots) (none))))))
theorem qyX9_rootsIfMoved (l : Launch) : ∀ k e1, qaX9_rootsIfMoved k = some e1 → am_cal l layM RX9 21 k e1 ∧ ceT e1 = 0 := q_cons ⟨am_calV (ci := 9) (qtX9_areThere l) qbX9_areThere (by decide) rfl (am_tb_at 1774 (by decide +kernel) rfl), rfl⟩ (q_cons ⟨am_calV (ci := 9) (qtX9_isPoint l) qbX9_isPoint (by decide) rfl (am_tb_at 1671 (by decide +kernel) rfl), rfl⟩ (q_cons ⟨am_calS (qtX9_isPlace l) qbX9_isPlace (by decide) rfl (by decide) (am_tb_at 2027 (by decide +kernel) rfl), rfl⟩ (q_cons ⟨am_calV (ci := 9) (qtX9_point l) qbX9_point (by decide) rfl (am_tb_at 1675 (by decide +kernel) rfl), rfl⟩ (q_cons ⟨am_calV (ci := 9) (qtX9_setPoint l) qbX9_setPoint (by decide) rfl (am_tb_at 1596 (by decide +kernel) rfl), rfl⟩ (q_cons ⟨am_calV (ci := 9) (qtX9_laysRoots l) qbX9_laysRoots (by decide) rfl (am_tb_at 1817 (by decide +kernel) rfl), rfl⟩ (q_nil))))))
def qxX9_rootsIfMoved : CX := (qkX9_rootsIfMoved, layM, qfX9, qaX9_rootsIfMoved, qcX9, qlX9, qmX9, (some .int), false, none, 0, none, fun _ => none)
theorem qzX9_rootsIfMoved (l : Launch) : am_sta l qxX9_rootsIfMoved RX9 21 cX9_rootsIfMoved := ⟨qkX9_rootsIfMoved_ok, layM_ok, qfX9_ok, qcX9_ok, qlX9_ok, am_mthP qmX9_ok (by decide), fun k e1 h => (qyX9_rootsIfMoved l k e1 h).1⟩
def qsX9_rootsIfMoved : SP := fun as F A K => match as with
  | [.inr (.inr o), .inl c, .inl l, .inl k, .inl x, .inl y] => cond (Nat.beq o 25) ((fgOK (mF A) ∧ (-2147483648 ≤ c ∧ c < 2147483648) ∧ (-2147483648 ≤ l ∧ l < 2147483648) ∧ (-2147483648 ≤ k ∧ k < 2147483648) ∧ (-2147483648 ≤ x ∧ x < 2147483648) ∧ (-2147483648 ≤ y ∧ y < 2147483648) ∧ RTB) ∧ (∀ (G_1 : FF) (B_1 : AA), (qdP F G_1 A B_1 ∧ G_1 25 0 = (if (0 ≤ c ∧ c < mF A 0) ∧ 0 ≤ l ∧ l < mF A 1 then 0 else 1)) → (K (some (some (vI (if (0 ≤ c ∧ c < mF A 0) ∧ 0 ≤ l ∧ l < mF A 1 then (if (0 ≤ k ∧ k < mF A (18 + c)) ∧ (0 ≤ x ∧ x ≤ 20 ∧ 0 ≤ y ∧ y ≤ 20) then (if azP (cfL (movR (mF A) c k x y) c l) (Int.toNat (mF A (18 + c))) then -1 else ((rtsX (movR (mF A) c k x y) c l).length : Int)) else -2) else 0)))) G_1 B_1))) (False)
  | _ => False
def qeX9_rootsIfMoved : CE := (yX9_rootsIfMoved, cX9_rootsIfMoved, 9, (some .int), 5, some 9, 0, [], 0, 21, qsX9_rootsIfMoved)
theorem qbX9_rootsIfMoved : am_mb qeX9_rootsIfMoved := ⟨am_tb_at 2026 (by decide +kernel) rfl, am_tb_at 124 (by decide +kernel) rfl, ⟨by decide, by decide, by decide +kernel⟩, by decide, by decide, am_tb_at 2024 (by decide +kernel) rfl, am_tb_at 2025 (by decide +kernel) rfl, _, _, rfl⟩
set_option maxRecDepth 20000 in
theorem qvX9_rootsIfMoved_25 (c : Int) (l : Int) (k : Int) (x : Int) (y : Int) (F : FF) (A : AA) (K : KK) (h : (fgOK (mF A) ∧ (-2147483648 ≤ c ∧ c < 2147483648) ∧ (-2147483648 ≤ l ∧ l < 2147483648) ∧ (-2147483648 ≤ k ∧ k < 2147483648) ∧ (-2147483648 ≤ x ∧ x < 2147483648) ∧ (-2147483648 ≤ y ∧ y < 2147483648) ∧ RTB) ∧ (∀ (G_1 : FF) (B_1 : AA), (qdP F G_1 A B_1 ∧ G_1 25 0 = (if (0 ≤ c ∧ c < mF A 0) ∧ 0 ≤ l ∧ l < mF A 1 then 0 else 1)) → (K (some (some (vI (if (0 ≤ c ∧ c < mF A 0) ∧ 0 ≤ l ∧ l < mF A 1 then (if (0 ≤ k ∧ k < mF A (18 + c)) ∧ (0 ≤ x ∧ x ≤ 20 ∧ 0 ≤ y ∧ y ≤ 20) then (if azP (cfL (movR (mF A) c k x y) c l) (Int.toNat (mF A (18 + c))) then -1 else ((rtsX (movR (mF A) c k x y) c l).length : Int)) else -2) else 0)))) G_1 B_1))) : am_line qxX9_rootsIfMoved 62 [vR 25, vI c, vI l, vI k, vI x, vI y] 9 F A K := by
  show am_stp qxX9_rootsIfMoved (am_run qxX9_rootsIfMoved (fun _ => none) (fun _ _ _ _ _ _ => False) K 62) K 0 [some (vR 25), some (vI c), some (vI l), some (vI k), some (vI x), some (vI y), none, none, none] [] F A 0
  obtain ⟨hp, h⟩ := h
  have p1 := hp.1
  have q1 := p1.1.1
  have q2 := p1.1.2
  have q4 := p1.2.1
  have rb := hp.2.2.2.2.2.2

  show (fgOK (mF A) ∧ (-2147483648 ≤ c ∧ c < 2147483648) ∧ (-2147483648 ≤ l ∧ l < 2147483648)) ∧ ((w32 (bi ((0 ≤ c ∧ c < mF A 0) ∧ 0 ≤ l ∧ l < mF A 1)) = w32 0 → (K (some (some (vI 0))) (upF F 25 0 (1 - bi ((0 ≤ c ∧ c < mF A 0) ∧ 0 ≤ l ∧ l < mF A 1))) A)) ∧ (¬ (w32 (bi ((0 ≤ c ∧ c < mF A 0) ∧ 0 ≤ l ∧ l < mF A 1)) = w32 0) → (((0 ≤ c ∧ c < 8) ∧ (2 ≤ mF A (18 + c) ∧ mF A (18 + c) ≤ 4) ∧ (-2147483648 ≤ k ∧ k < 2147483648)) ∧ ((w32 (bi (0 ≤ k ∧ k < mF A (18 + c))) = w32 0 → (K (some (some (vI (-2)))) (upF F 25 0 (1 - bi ((0 ≤ c ∧ c < mF A 0) ∧ 0 ≤ l ∧ l < mF A 1))) A)) ∧ (¬ (w32 (bi (0 ≤ k ∧ k < mF A (18 + c))) = w32 0) → (((-2147483648 ≤ x ∧ x < 2147483648) ∧ (-2147483648 ≤ y ∧ y < 2147483648)) ∧ ((w32 (bi (0 ≤ x ∧ x ≤ 20 ∧ 0 ≤ y ∧ y ≤ 20)) = w32 0 → (K (some (some (vI (-2)))) (upF F 25 0 (1 - bi ((0 ≤ c ∧ c < mF A 0) ∧ 0 ≤ l ∧ l < mF A 1))) A)) ∧ (¬ (w32 (bi (0 ≤ x ∧ x ≤ 20 ∧ 0 ≤ y ∧ y ≤ 20)) = w32 0) → (((0 ≤ c ∧ c < 8) ∧ (0 ≤ k ∧ k < 4) ∧ 0 ≤ 0 ∧ 0 ≤ 2) ∧ (((0 ≤ c ∧ c < 8) ∧ (0 ≤ k ∧ k < 4) ∧ 0 ≤ 1 ∧ 1 ≤ 2) ∧ (((0 ≤ c ∧ c < 8) ∧ (0 ≤ k ∧ k < 4) ∧ 0 ≤ 0 ∧ 0 ≤ 2) ∧ (((0 ≤ c ∧ c < 8) ∧ (0 ≤ k ∧ k < 4) ∧ 0 ≤ 1 ∧ 1 ≤ 2) ∧ ((fgOK (mF (upA (upA A 29 (13 * c + 1 + 3 * k + 0) x) 29 (13 * c + 1 + 3 * k + 1) y)) ∧ (0 ≤ c ∧ c < mF (upA (upA A 29 (13 * c + 1 + 3 * k + 0) x) 29 (13 * c + 1 + 3 * k + 1) y) 0) ∧ (0 ≤ l ∧ l < mF (upA (upA A 29 (13 * c + 1 + 3 * k + 0) x) 29 (13 * c + 1 + 3 * k + 1) y) 1) ∧ ((rtsX (mF (upA (upA A 29 (13 * c + 1 + 3 * k + 0) x) 29 (13 * c + 1 + 3 * k + 1) y)) c l).length : Int) ≤ 8) ∧ (∀ (G_1 : FF) (B_1 : AA), (roP (upF F 25 0 (1 - bi ((0 ≤ c ∧ c < mF A 0) ∧ 0 ≤ l ∧ l < mF A 1))) G_1 (upA (upA A 29 (13 * c + 1 + 3 * k + 0) x) 29 (13 * c + 1 + 3 * k + 1) y) B_1 c l) → ((w32 (bi (¬ azP (cfL (mF (upA (upA A 29 (13 * c + 1 + 3 * k + 0) x) 29 (13 * c + 1 + 3 * k + 1) y)) c l) (Int.toNat (mF (upA (upA A 29 (13 * c + 1 + 3 * k + 0) x) 29 (13 * c + 1 + 3 * k + 1) y) (18 + c))))) = w32 0 → (((0 ≤ c ∧ c < 8) ∧ (0 ≤ k ∧ k < 4) ∧ 0 ≤ 0 ∧ 0 ≤ 2) ∧ (((0 ≤ c ∧ c < 8) ∧ (0 ≤ k ∧ k < 4) ∧ 0 ≤ 1 ∧ 1 ≤ 2) ∧ (K (some (some (vI (-1)))) G_1 (upA (upA B_1 29 (13 * c + 1 + 3 * k + 0) (pxF (mF A) c k 0)) 29 (13 * c + 1 + 3 * k + 1) (pxF (mF A) c k 1)))))) ∧ (¬ w32 (bi (¬ azP (cfL (mF (upA (upA A 29 (13 * c + 1 + 3 * k + 0) x) 29 (13 * c + 1 + 3 * k + 1) y)) c l) (Int.toNat (mF (upA (upA A 29 (13 * c + 1 + 3 * k + 0) x) 29 (13 * c + 1 + 3 * k + 1) y) (18 + c))))) = w32 0 → (((0 ≤ c ∧ c < 8) ∧ (0 ≤ k ∧ k < 4) ∧ 0 ≤ 0 ∧ 0 ≤ 2) ∧ (((0 ≤ c ∧ c < 8) ∧ (0 ≤ k ∧ k < 4) ∧ 0 ≤ 1 ∧ 1 ≤ 2) ∧ (K (some (some (vI (G_1 25 12)))) G_1 (upA (upA B_1 29 (13 * c + 1 + 3 * k + 0) (pxF (mF A) c k 0)) 29 (13 * c + 1 + 3 * k + 1) (pxF (mF A) c k 1)))))))))))))))))))))
  refine ⟨by exact ⟨p1, by omega, by omega⟩, ?_⟩
  refine ⟨fun c1 => ?_, fun c1 => ?_⟩
  · skip
    (try simp only [w32_0, wbi0, Classical.not_not] at c1)
    first
    | exact K_eq (h _ _ ⟨qdP_F (by decide), by rw [upF_s, bi_f c1, if_neg c1]; rfl⟩) (if_neg c1)
    | (refine K_eq (h _ _ ⟨qdP_F (by decide), by rw [upF_s, bi_t c1, if_pos c1]; rfl⟩) ?_; rw [if_pos c1, if_neg (by omega)]; done)
    | (refine K_eq (h _ _ ⟨qE, by rw [oG, if_pos c1]⟩) ?_; rw [if_pos c1, if_pos (by omega), if_pos c4]; done)
    | (refine K_eq (h _ _ ⟨qE, by rw [oG, if_pos c1]⟩) ?_; rw [if_pos c1, if_pos (by omega), if_neg c4, g5]; done)
  · skip
    (try simp only [w32_0, wbi0, Classical.not_not] at c1)
    refine ⟨by first | exact bi_01 | omega | (have q3 := (p1.2.2.1 c c1.1.1 c1.1.2).1; first | omega | exact ⟨by omega, by omega, by omega⟩ | (rw [mF_mv (by omega) (by omega) (by omega) (by omega)]; have z1 := movR_fg p1 c1.1.1 c1.1.2 (k := k) (x := x) (y := y) (by omega) (by omega) (by omega) (by omega); have m0 : movR (mF A) c k x y 0 = mF A 0 := (by unfold movR; rw [if_neg (by omega), if_neg (by omega)]); have m1 : movR (mF A) c k x y 1 = mF A 1 := (by unfold movR; rw [if_neg (by omega), if_neg (by omega)]); exact ⟨z1, by rw [m0]; exact c1.1, by rw [m1]; exact c1.2, rb _ z1 c l (by omega) (by rw [m0]; omega) (by omega) (by rw [m1]; omega)⟩)), ?_⟩
    refine ⟨fun c2 => ?_, fun c2 => ?_⟩
    · skip
      (try simp only [w32_0, wbi0, Classical.not_not] at c2)
      first
      | exact K_eq (h _ _ ⟨qdP_F (by decide), by rw [upF_s, bi_f c1, if_neg c1]; rfl⟩) (if_neg c1)
      | (refine K_eq (h _ _ ⟨qdP_F (by decide), by rw [upF_s, bi_t c1, if_pos c1]; rfl⟩) ?_; rw [if_pos c1, if_neg (by omega)]; done)
      | (refine K_eq (h _ _ ⟨qE, by rw [oG, if_pos c1]⟩) ?_; rw [if_pos c1, if_pos (by omega), if_pos c4]; done)
      | (refine K_eq (h _ _ ⟨qE, by rw [oG, if_pos c1]⟩) ?_; rw [if_pos c1, if_pos (by omega), if_neg c4, g5]; done)
    · skip
      (try simp only [w32_0, wbi0, Classical.not_not] at c2)
      refine ⟨by first | exact bi_01 | omega | (have q3 := (p1.2.2.1 c c1.1.1 c1.1.2).1; first | omega | exact ⟨by omega, by omega, by omega⟩ | (rw [mF_mv (by omega) (by omega) (by omega) (by omega)]; have z1 := movR_fg p1 c1.1.1 c1.1.2 (k := k) (x := x) (y := y) (by omega) (by omega) (by omega) (by omega); have m0 : movR (mF A) c k x y 0 = mF A 0 := (by unfold movR; rw [if_neg (by omega), if_neg (by omega)]); have m1 : movR (mF A) c k x y 1 = mF A 1 := (by unfold movR; rw [if_neg (by omega), if_neg (by omega)]); exact ⟨z1, by rw [m0]; exact c1.1, by rw [m1]; exact c1.2, rb _ z1 c l (by omega) (by rw [m0]; omega) (by omega) (by rw [m1]; omega)⟩)), ?_⟩
      refine ⟨fun c3 => ?_, fun c3 => ?_⟩
      · skip
        (try simp only [w32_0, wbi0, Classical.not_not] at c3)
        first
        | exact K_eq (h _ _ ⟨qdP_F (by decide), by rw [upF_s, bi_f c1, if_neg c1]; rfl⟩) (if_neg c1)
        | (refine K_eq (h _ _ ⟨qdP_F (by decide), by rw [upF_s, bi_t c1, if_pos c1]; rfl⟩) ?_; rw [if_pos c1, if_neg (by omega)]; done)
        | (refine K_eq (h _ _ ⟨qE, by rw [oG, if_pos c1]⟩) ?_; rw [if_pos c1, if_pos (by omega), if_pos c4]; done)
        | (refine K_eq (h _ _ ⟨qE, by rw [oG, if_pos c1]⟩) ?_; rw [if_pos c1, if_pos (by omega), if_neg c4, g5]; done)
      · skip
        (try simp only [w32_0, wbi0, Classical.not_not] at c3)
        refine ⟨by first | exact bi_01 | omega | (have q3 := (p1.2.2.1 c c1.1.1 c1.1.2).1; first | omega | exact ⟨by omega, by omega, by omega⟩ | (rw [mF_mv (by omega) (by omega) (by omega) (by omega)]; have z1 := movR_fg p1 c1.1.1 c1.1.2 (k := k) (x := x) (y := y) (by omega) (by omega) (by omega) (by omega); have m0 : movR (mF A) c k x y 0 = mF A 0 := (by unfold movR; rw [if_neg (by omega), if_neg (by omega)]); have m1 : movR (mF A) c k x y 1 = mF A 1 := (by unfold movR; rw [if_neg (by omega), if_neg (by omega)]); exact ⟨z1, by rw [m0]; exact c1.1, by rw [m1]; exact c1.2, rb _ z1 c l (by omega) (by rw [m0]; omega) (by omega) (by rw [m1]; omega)⟩)), ?_⟩
        refine ⟨by first | exact bi_01 | omega | (have q3 := (p1.2.2.1 c c1.1.1 c1.1.2).1; first | omega | exact ⟨by omega, by omega, by omega⟩ | (rw [mF_mv (by omega) (by omega) (by omega) (by omega)]; have z1 := movR_fg p1 c1.1.1 c1.1.2 (k := k) (x := x) (y := y) (by omega) (by omega) (by omega) (by omega); have m0 : movR (mF A) c k x y 0 = mF A 0 := (by unfold movR; rw [if_neg (by omega), if_neg (by omega)]); have m1 : movR (mF A) c k x y 1 = mF A 1 := (by unfold movR; rw [if_neg (by omega), if_neg (by omega)]); exact ⟨z1, by rw [m0]; exact c1.1, by rw [m1]; exact c1.2, rb _ z1 c l (by omega) (by rw [m0]; omega) (by omega) (by rw [m1]; omega)⟩)), ?_⟩
        refine ⟨by first | exact bi_01 | omega | (have q3 := (p1.2.2.1 c c1.1.1 c1.1.2).1; first | omega | exact ⟨by omega, by omega, by omega⟩ | (rw [mF_mv (by omega) (by omega) (by omega) (by omega)]; have z1 := movR_fg p1 c1.1.1 c1.1.2 (k := k) (x := x) (y := y) (by omega) (by omega) (by omega) (by omega); have m0 : movR (mF A) c k x y 0 = mF A 0 := (by unfold movR; rw [if_neg (by omega), if_neg (by omega)]); have m1 : movR (mF A) c k x y 1 = mF A 1 := (by unfold movR; rw [if_neg (by omega), if_neg (by omega)]); exact ⟨z1, by rw [m0]; exact c1.1, by rw [m1]; exact c1.2, rb _ z1 c l (by omega) (by rw [m0]; omega) (by omega) (by rw [m1]; omega)⟩)), ?_⟩
        refine ⟨by first | exact bi_01 | omega | (have q3 := (p1.2.2.1 c c1.1.1 c1.1.2).1; first | omega | exact ⟨by omega, by omega, by omega⟩ | (rw [mF_mv (by omega) (by omega) (by omega) (by omega)]; have z1 := movR_fg p1 c1.1.1 c1.1.2 (k := k) (x := x) (y := y) (by omega) (by omega) (by omega) (by omega); have m0 : movR (mF A) c k x y 0 = mF A 0 := (by unfold movR; rw [if_neg (by omega), if_neg (by omega)]); have m1 : movR (mF A) c k x y 1 = mF A 1 := (by unfold movR; rw [if_neg (by omega), if_neg (by omega)]); exact ⟨z1, by rw [m0]; exact c1.1, by rw [m1]; exact c1.2, rb _ z1 c l (by omega) (by rw [m0]; omega) (by omega) (by rw [m1]; omega)⟩)), ?_⟩
        refine ⟨by first | exact bi_01 | omega | (have q3 := (p1.2.2.1 c c1.1.1 c1.1.2).1; first | omega | exact ⟨by omega, by omega, by omega⟩ | (rw [mF_mv (by omega) (by omega) (by omega) (by omega)]; have z1 := movR_fg p1 c1.1.1 c1.1.2 (k := k) (x := x) (y := y) (by omega) (by omega) (by omega) (by omega); have m0 : movR (mF A) c k x y 0 = mF A 0 := (by unfold movR; rw [if_neg (by omega), if_neg (by omega)]); have m1 : movR (mF A) c k x y 1 = mF A 1 := (by unfold movR; rw [if_neg (by omega), if_neg (by omega)]); exact ⟨z1, by rw [m0]; exact c1.1, by rw [m1]; exact c1.2, rb _ z1 c l (by omega) (by rw [m0]; omega) (by omega) (by rw [m1]; omega)⟩)), ?_⟩
        intro G_1 B_1 g1
        have q3 := (p1.2.2.1 c c1.1.1 c1.1.2).1
        have eM := mF_mv (A := A) (c := c) (k := k) (x := x) (y := y) (by omega) (by omega) (by omega) (by omega)
        have m18 : movR (mF A) c k x y (18 + c) = mF A (18 + c) := by unfold movR; rw [if_neg (by omega), if_neg (by omega)]
        rw [eM, m18]
        have qG := roP_q g1
        have g5 := g1.2.2
        rw [eM] at g5
        have oG : G_1 25 0 = 0 := (g1.2.1 25 0 (by decide)).trans (by rw [upF_s, bi_t c1]; rfl)
        have qE : qdP F G_1 A (upA (upA B_1 29 (13 * c + 1 + 3 * k + 0) (pxF (mF A) c k 0)) 29 (13 * c + 1 + 3 * k + 1) (pxF (mF A) c k 1)) := ⟨fun a b hab => ((roP_q g1).1 a b hab).trans (upF_o (by omega)), fun b i hb => by
          by_cases e1 : b = 29 ∧ i = 13 * c + 1 + 3 * k + 1
          · rw [e1.1, e1.2, upA_s]; exact mF_pt (by omega) (by omega) (by omega) (by omega) (by decide) (by decide)
          · by_cases e0 : b = 29 ∧ i = 13 * c + 1 + 3 * k + 0
            · rw [e0.1, e0.2, upA_o (by omega), upA_s]; exact mF_pt (by omega) (by omega) (by omega) (by omega) (by decide) (by decide)
            · rw [upA_x e1, upA_x e0, qG.2 b i hb, upA_x e1, upA_x e0]⟩
        refine ⟨fun c4 => ?_, fun c4 => ?_⟩
        · skip
          (try simp only [w32_0, wbi0, Classical.not_not] at c4)
          refine ⟨by first | exact bi_01 | omega | (have q3 := (p1.2.2.1 c c1.1.1 c1.1.2).1; first | omega | exact ⟨by omega, by omega, by omega⟩ | (rw [mF_mv (by omega) (by omega) (by omega) (by omega)]; have z1 := movR_fg p1 c1.1.1 c1.1.2 (k := k) (x := x) (y := y) (by omega) (by omega) (by omega) (by omega); have m0 : movR (mF A) c k x y 0 = mF A 0 := (by unfold movR; rw [if_neg (by omega), if_neg (by omega)]); have m1 : movR (mF A) c k x y 1 = mF A 1 := (by unfold movR; rw [if_neg (by omega), if_neg (by omega)]); exact ⟨z1, by rw [m0]; exact c1.1, by rw [m1]; exact c1.2, rb _ z1 c l (by omega) (by rw [m0]; omega) (by omega) (by rw [m1]; omega)⟩)), ?_⟩
          refine ⟨by first | exact bi_01 | omega | (have q3 := (p1.2.2.1 c c1.1.1 c1.1.2).1; first | omega | exact ⟨by omega, by omega, by omega⟩ | (rw [mF_mv (by omega) (by omega) (by omega) (by omega)]; have z1 := movR_fg p1 c1.1.1 c1.1.2 (k := k) (x := x) (y := y) (by omega) (by omega) (by omega) (by omega); have m0 : movR (mF A) c k x y 0 = mF A 0 := (by unfold movR; rw [if_neg (by omega), if_neg (by omega)]); have m1 : movR (mF A) c k x y 1 = mF A 1 := (by unfold movR; rw [if_neg (by omega), if_neg (by omega)]); exact ⟨z1, by rw [m0]; exact c1.1, by rw [m1]; exact c1.2, rb _ z1 c l (by omega) (by rw [m0]; omega) (by omega) (by rw [m1]; omega)⟩)), ?_⟩
          first
          | exact K_eq (h _ _ ⟨qdP_F (by decide), by rw [upF_s, bi_f c1, if_neg c1]; rfl⟩) (if_neg c1)
          | (refine K_eq (h _ _ ⟨qdP_F (by decide), by rw [upF_s, bi_t c1, if_pos c1]; rfl⟩) ?_; rw [if_pos c1, if_neg (by omega)]; done)
          | (refine K_eq (h _ _ ⟨qE, by rw [oG, if_pos c1]⟩) ?_; rw [if_pos c1, if_pos (by omega), if_pos c4]; done)
          | (refine K_eq (h _ _ ⟨qE, by rw [oG, if_pos c1]⟩) ?_; rw [if_pos c1, if_pos (by omega), if_neg c4, g5]; done)
        · skip
          (try simp only [w32_0, wbi0, Classical.not_not] at c4)
          refine ⟨by first | exact bi_01 | omega | (have q3 := (p1.2.2.1 c c1.1.1 c1.1.2).1; first | omega | exact ⟨by omega, by omega, by omega⟩ | (rw [mF_mv (by omega) (by omega) (by omega) (by omega)]; have z1 := movR_fg p1 c1.1.1 c1.1.2 (k := k) (x := x) (y := y) (by omega) (by omega) (by omega) (by omega); have m0 : movR (mF A) c k x y 0 = mF A 0 := (by unfold movR; rw [if_neg (by omega), if_neg (by omega)]); have m1 : movR (mF A) c k x y 1 = mF A 1 := (by unfold movR; rw [if_neg (by omega), if_neg (by omega)]); exact ⟨z1, by rw [m0]; exact c1.1, by rw [m1]; exact c1.2, rb _ z1 c l (by omega) (by rw [m0]; omega) (by omega) (by rw [m1]; omega)⟩)), ?_⟩
          refine ⟨by first | exact bi_01 | omega | (have q3 := (p1.2.2.1 c c1.1.1 c1.1.2).1; first | omega | exact ⟨by omega, by omega, by omega⟩ | (rw [mF_mv (by omega) (by omega) (by omega) (by omega)]; have z1 := movR_fg p1 c1.1.1 c1.1.2 (k := k) (x := x) (y := y) (by omega) (by omega) (by omega) (by omega); have m0 : movR (mF A) c k x y 0 = mF A 0 := (by unfold movR; rw [if_neg (by omega), if_neg (by omega)]); have m1 : movR (mF A) c k x y 1 = mF A 1 := (by unfold movR; rw [if_neg (by omega), if_neg (by omega)]); exact ⟨z1, by rw [m0]; exact c1.1, by rw [m1]; exact c1.2, rb _ z1 c l (by omega) (by rw [m0]; omega) (by omega) (by rw [m1]; omega)⟩)), ?_⟩
          first
          | exact K_eq (h _ _ ⟨qdP_F (by decide), by rw [upF_s, bi_f c1, if_neg c1]; rfl⟩) (if_neg c1)
          | (refine K_eq (h _ _ ⟨qdP_F (by decide), by rw [upF_s, bi_t c1, if_pos c1]; rfl⟩) ?_; rw [if_pos c1, if_neg (by omega)]; done)
          | (refine K_eq (h _ _ ⟨qE, by rw [oG, if_pos c1]⟩) ?_; rw [if_pos c1, if_pos (by omega), if_pos c4]; done)
          | (refine K_eq (h _ _ ⟨qE, by rw [oG, if_pos c1]⟩) ?_; rw [if_pos c1, if_pos (by omega), if_neg c4, g5]; done)
theorem qtX9_rootsIfMoved (l : Launch) : am_CT l layM qeX9_rootsIfMoved := am_met0 rfl (by decide +kernel) rfl rfl rfl rfl rfl (fun _ => rfl) rfl (qzX9_rootsIfMoved l) (fun k e1 h => (qyX9_rootsIfMoved l k e1 h).2) (fun as F A K h => by
  replace h : qsX9_rootsIfMoved as F A K := h
  unfold qsX9_rootsIfMoved at h
  split at h
  · rename_i o c l k x y
    refine ⟨by first | exact Nat.le_of_ble_eq_true rfl | simp [am_fl, am_cat], ?_⟩
    replace h := am_cond2 h
    rcases h with ⟨hb, h⟩ | h
    · skip
      have hb0 := hb
      have hb0 := am_bq hb0
      subst hb0
      exact am_way_line (qvX9_rootsIfMoved_25 c l k x y F A K h)
    exact h.elim
  · exact h.elim)
