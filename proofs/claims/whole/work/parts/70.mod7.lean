def qkX9_searchesR : Nat → Option CI := fun pc => cond (Nat.ble 133 pc) none (cond (Nat.ble 73 pc) (cond (Nat.ble 104 pc) (cond (Nat.ble 118 pc) (cond (Nat.ble 124 pc) (cond (Nat.ble 128 pc) (cond (Nat.beq pc 128) (some (.iadd, 129, [])) (cond (Nat.beq pc 129) (some (.invokevirtual 121, 132, [])) (cond (Nat.beq pc 132) (some (.return_, 133, [])) (none)))) (cond (Nat.beq pc 124) (some (.iload 4, 126, [])) (cond (Nat.beq pc 126) (some (.imul, 127, [])) (cond (Nat.beq pc 127) (some (.iconst 1, 128, [])) (none))))) (cond (Nat.ble 121 pc) (cond (Nat.beq pc 121) (some (.iconst 1, 122, [])) (cond (Nat.beq pc 122) (some (.iadd, 123, [])) (cond (Nat.beq pc 123) (some (.iconst 2, 124, [])) (none)))) (cond (Nat.beq pc 118) (some (.iload_n 1, 119, [])) (cond (Nat.beq pc 119) (some (.iload_n 2, 120, [])) (cond (Nat.beq pc 120) (some (.iload_n 3, 121, [])) (none)))))) (cond (Nat.ble 109 pc) (cond (Nat.ble 113 pc) (cond (Nat.beq pc 113) (some (.iadd, 114, [])) (cond (Nat.beq pc 114) (some (.invokevirtual 117, 117, [])) (cond (Nat.beq pc 117) (some (.aload_n 0, 118, [])) (none)))) (cond (Nat.beq pc 109) (some (.iload 4, 111, [])) (cond (Nat.beq pc 111) (some (.imul, 112, [])) (cond (Nat.beq pc 112) (some (.iconst 1, 113, [])) (none))))) (cond (Nat.ble 106 pc) (cond (Nat.beq pc 106) (some (.iconst 1, 107, [])) (cond (Nat.beq pc 107) (some (.iadd, 108, [])) (cond (Nat.beq pc 108) (some (.iconst 2, 109, [])) (none)))) (cond (Nat.beq pc 104) (some (.iconst 0, 105, [])) (cond (Nat.beq pc 105) (some (.iload_n 3, 106, [])) (none)))))) (cond (Nat.ble 87 pc) (cond (Nat.ble 96 pc) (cond (Nat.ble 99 pc) (cond (Nat.beq pc 99) (some (.lcmp, 100, [])) (cond (Nat.beq pc 100) (some (.ifCond .ne 17, 103, [117])) (cond (Nat.beq pc 103) (some (.aload_n 0, 104, [])) (none)))) (cond (Nat.beq pc 96) (some (.iconst 0, 97, [])) (cond (Nat.beq pc 97) (some (.laload, 98, [])) (cond (Nat.beq pc 98) (some (.lconst 0, 99, [])) (none))))) (cond (Nat.ble 89 pc) (cond (Nat.beq pc 89) (some (.invokevirtual 107, 92, [])) (cond (Nat.beq pc 92) (some (.aload_n 0, 93, [])) (cond (Nat.beq pc 93) (some (.getfield 35, 96, [])) (none)))) (cond (Nat.beq pc 87) (some (.iconst 1, 88, [])) (cond (Nat.beq pc 88) (some (.iadd, 89, [])) (none))))) (cond (Nat.ble 80 pc) (cond (Nat.ble 83 pc) (cond (Nat.beq pc 83) (some (.iconst 2, 84, [])) (cond (Nat.beq pc 84) (some (.iload 4, 86, [])) (cond (Nat.beq pc 86) (some (.imul, 87, [])) (none)))) (cond (Nat.beq pc 80) (some (.iload_n 3, 81, [])) (cond (Nat.beq pc 81) (some (.iconst 1, 82, [])) (cond (Nat.beq pc 82) (some (.iadd, 83, [])) (none))))) (cond (Nat.ble 77 pc) (cond (Nat.beq pc 77) (some (.aload_n 0, 78, [])) (cond (Nat.beq pc 78) (some (.iload_n 1, 79, [])) (cond (Nat.beq pc 79) (some (.iload_n 2, 80, [])) (none)))) (cond (Nat.beq pc 73) (some (.imul, 74, [])) (cond (Nat.beq pc 74) (some (.invokevirtual 121, 77, [])) (none))))))) (cond (Nat.ble 38 pc) (cond (Nat.ble 58 pc) (cond (Nat.ble 66 pc) (cond (Nat.ble 69 pc) (cond (Nat.beq pc 69) (some (.iadd, 70, [])) (cond (Nat.beq pc 70) (some (.iconst 2, 71, [])) (cond (Nat.beq pc 71) (some (.iload 4, 73, [])) (none)))) (cond (Nat.beq pc 66) (some (.iload_n 2, 67, [])) (cond (Nat.beq pc 67) (some (.iload_n 3, 68, [])) (cond (Nat.beq pc 68) (some (.iconst 1, 69, [])) (none))))) (cond (Nat.ble 63 pc) (cond (Nat.beq pc 63) (some (.return_, 64, [])) (cond (Nat.beq pc 64) (some (.aload_n 0, 65, [])) (cond (Nat.beq pc 65) (some (.iload_n 1, 66, [])) (none)))) (cond (Nat.beq pc 58) (some (.iload 4, 60, [])) (cond (Nat.beq pc 60) (some (.invokevirtual 117, 63, [])) (none))))) (cond (Nat.ble 48 pc) (cond (Nat.ble 53 pc) (cond (Nat.beq pc 53) (some (.goto 4, 56, [57])) (cond (Nat.beq pc 56) (some (.iconst 2, 57, [])) (cond (Nat.beq pc 57) (some (.iload_n 3, 58, [])) (none)))) (cond (Nat.beq pc 48) (some (.iconst 1, 49, [])) (cond (Nat.beq pc 49) (some (.if_icmp .ne 7, 52, [56])) (cond (Nat.beq pc 52) (some (.iconst 1, 53, [])) (none))))) (cond (Nat.ble 42 pc) (cond (Nat.beq pc 42) (some (.if_icmp .ne 22, 45, [64])) (cond (Nat.beq pc 45) (some (.aload_n 0, 46, [])) (cond (Nat.beq pc 46) (some (.iload 6, 48, [])) (none)))) (cond (Nat.beq pc 38) (some (.iconst 0, 39, [])) (cond (Nat.beq pc 39) (some (.invokevirtual 114, 42, [])) (none)))))) (cond (Nat.ble 17 pc) (cond (Nat.ble 29 pc) (cond (Nat.ble 33 pc) (cond (Nat.beq pc 33) (some (.if_icmp .eq 12, 36, [45])) (cond (Nat.beq pc 36) (some (.iload_n 3, 37, [])) (cond (Nat.beq pc 37) (some (.aload_n 0, 38, [])) (none)))) (cond (Nat.beq pc 29) (some (.return_, 30, [])) (cond (Nat.beq pc 30) (some (.iload 6, 32, [])) (cond (Nat.beq pc 32) (some (.iconst 1, 33, [])) (none))))) (cond (Nat.ble 22 pc) (cond (Nat.beq pc 22) (some (.istore 6, 24, [])) (cond (Nat.beq pc 24) (some (.iload 6, 26, [])) (cond (Nat.beq pc 26) (some (.ifCond .ne 4, 29, [30])) (none)))) (cond (Nat.beq pc 17) (some (.iload 5, 19, [])) (cond (Nat.beq pc 19) (some (.invokevirtual 111, 22, [])) (none))))) (cond (Nat.ble 8 pc) (cond (Nat.ble 11 pc) (cond (Nat.beq pc 11) (some (.iload 4, 13, [])) (cond (Nat.beq pc 13) (some (.invokevirtual 107, 16, [])) (cond (Nat.beq pc 16) (some (.aload_n 0, 17, [])) (none)))) (cond (Nat.beq pc 8) (some (.iload_n 1, 9, [])) (cond (Nat.beq pc 9) (some (.iload_n 2, 10, [])) (cond (Nat.beq pc 10) (some (.iload_n 3, 11, [])) (none))))) (cond (Nat.ble 2 pc) (cond (Nat.beq pc 2) (some (.invokevirtual 80, 5, [])) (cond (Nat.beq pc 5) (some (.istore 5, 7, [])) (cond (Nat.beq pc 7) (some (.aload_n 0, 8, [])) (none)))) (cond (Nat.beq pc 0) (some (.aload_n 0, 1, [])) (cond (Nat.beq pc 1) (some (.iload_n 1, 2, [])) (none))))))))
theorem qkX9_searchesR_ok : ∀ pc i nx ts, qkX9_searchesR pc = some (i, nx, ts) → am_cok cX9_searches pc (i, nx, ts) = true := fun pc i nx ts h => am_tok_ok (n := 133) (by decide +kernel) (fun pc h => by show cond (Nat.ble 133 pc) _ _ = _; rw [Nat.ble_eq_true_of_le h]; rfl) h
def qsX9_searchesR (f : Nat) : SP := fun as F A K => match as with
  | [.inr (.inr o), .inl c, .inl l, .inl d, .inl q] => cond (Nat.beq o 25) ((fgOK (mF A) ∧ (0 ≤ c ∧ c < mF A 0) ∧ (0 ≤ l ∧ l < mF A 1) ∧ (0 ≤ d ∧ d ≤ mF A 2 ∧ d + ((f : Nat) : Int) = 13) ∧ (0 ≤ q ∧ q < p2 d) ∧ 0 ≤ (F 25 12) ∧ (F 25 12) + ((smL (mF A) c l f d q).length : Int) ≤ 40) ∧ (∀ (B_1 : AA) (G_1 : FF) (L_1 : List RT), (L_1 = smL (mF A) c l f d q ∧ snP A B_1 ((F 25 12)) L_1 ∧ G_1 = upF F 25 12 ((F 25 12) + (L_1.length : Int))) → (K (some none) G_1 B_1))) (False)
  | _ => False
def qeX9_searchesR (f : Nat) : CE := (yX9_searches, cX9_searches, 7, none, 4, some 9, 0, [], 0, 6 + f, qsX9_searchesR f)
theorem qbX9_searchesR_0 : am_mb (yX9_searches, cX9_searches, 7, none, 4, some 9, 0, [], 0, 0, fun _ _ _ _ => True) := ⟨am_tb_at 1828 (by decide +kernel) rfl, am_tb_at 124 (by decide +kernel) rfl, ⟨by decide, by decide, by decide +kernel⟩, Nat.le_of_ble_eq_true rfl, (Nat.le_of_ble_eq_true rfl), am_tb_at 1827 (by decide +kernel) rfl, am_tb_at 90 (by decide +kernel) rfl, _, _, rfl⟩
theorem qbX9_searchesR (f : Nat) : am_mb (qeX9_searchesR f) := qbX9_searchesR_0
def qaX9_searchesR (f : Nat) : Nat → Option CE := fun k => cond (Nat.beq k 121) (some (qeX9_searchesR f)) (cond (Nat.beq k 80) (some qeX9_order) (cond (Nat.beq k 107) (some qeX9_laysCoefficients) (cond (Nat.beq k 111) (some qeX9_changes) (cond (Nat.beq k 114) (some qeX9_set) (cond (Nat.beq k 117) (some qeX9_notes) (none))))))
theorem qyX9_searchesR (l : Launch) (f : Nat) (hf : am_CT l layM (qeX9_searchesR f)) : ∀ k e1, qaX9_searchesR f k = some e1 → am_cal l layM RX9 (6 + (f + 1)) k e1 ∧ ceT e1 = 0 := q_cons ⟨am_calV (ci := 9) hf (qbX9_searchesR f) (show 6 + f + 1 ≤ 6 + (f + 1) by omega) rfl (show Cond.methodLink RX9 121 yX9_searches ∈ am_tb from am_tb_at 1825 (by decide +kernel) rfl), rfl⟩ (q_cons ⟨am_calV (ci := 9) (qtX9_order l) qbX9_order (show 4 + 1 ≤ 6 + (f + 1) by omega) rfl (show Cond.methodLink RX9 80 yX9_order ∈ am_tb from am_tb_at 1659 (by decide +kernel) rfl), rfl⟩ (q_cons ⟨am_calV (ci := 9) (qtX9_laysCoefficients l) qbX9_laysCoefficients (show 5 + 1 ≤ 6 + (f + 1) by omega) rfl (show Cond.methodLink RX9 107 yX9_laysCoefficients ∈ am_tb from am_tb_at 1787 (by decide +kernel) rfl), rfl⟩ (q_cons ⟨am_calV (ci := 9) (qtX9_changes l) qbX9_changes (show 4 + 1 ≤ 6 + (f + 1) by omega) rfl (show Cond.methodLink RX9 111 yX9_changes ∈ am_tb from am_tb_at 1791 (by decide +kernel) rfl), rfl⟩ (q_cons ⟨am_calV (ci := 9) (qtX9_set l) qbX9_set (show 3 + 1 ≤ 6 + (f + 1) by omega) rfl (show Cond.methodLink RX9 114 yX9_set ∈ am_tb from am_tb_at 1643 (by decide +kernel) rfl), rfl⟩ (q_cons ⟨am_calV (ci := 9) (qtX9_notes l) qbX9_notes (show 3 + 1 ≤ 6 + (f + 1) by omega) rfl (show Cond.methodLink RX9 117 yX9_notes ∈ am_tb from am_tb_at 1821 (by decide +kernel) rfl), rfl⟩ (q_nil))))))
def qxX9_searchesR (f : Nat) : CX := (qkX9_searchesR, layM, qfX9, qaX9_searchesR f, qcX9, qlX9, qmX9, none, false, none, 0, none, fun _ => none)
theorem qzX9_searchesR (l : Launch) (f : Nat) (hf : am_CT l layM (qeX9_searchesR f)) : am_sta l (qxX9_searchesR f) RX9 (6 + (f + 1)) cX9_searches := ⟨qkX9_searchesR_ok, layM_ok, qfX9_ok, qcX9_ok, qlX9_ok, am_mthP qmX9_ok (by omega), fun k e1 h => (qyX9_searchesR l f hf k e1 h).1⟩
set_option maxRecDepth 20000 in
theorem qvX9_searchesR_25 (f : Nat) (c : Int) (l : Int) (d : Int) (q : Int) (F : FF) (A : AA) (K : KK) (h : (fgOK (mF A) ∧ (0 ≤ c ∧ c < mF A 0) ∧ (0 ≤ l ∧ l < mF A 1) ∧ (0 ≤ d ∧ d ≤ mF A 2 ∧ d + (((f + 1) : Nat) : Int) = 13) ∧ (0 ≤ q ∧ q < p2 d) ∧ 0 ≤ (F 25 12) ∧ (F 25 12) + ((smL (mF A) c l (f + 1) d q).length : Int) ≤ 40) ∧ (∀ (B_1 : AA) (G_1 : FF) (L_1 : List RT), (L_1 = smL (mF A) c l (f + 1) d q ∧ snP A B_1 ((F 25 12)) L_1 ∧ G_1 = upF F 25 12 ((F 25 12) + (L_1.length : Int))) → (K (some none) G_1 B_1))) : am_line (qxX9_searchesR f) 78 [vR 25, vI c, vI l, vI d, vI q] 7 F A K := by
  show am_stp (qxX9_searchesR f) (am_run (qxX9_searchesR f) (fun _ => none) (fun _ _ _ _ _ _ => False) K 78) K 0 [some (vR 25), some (vI c), some (vI l), some (vI d), some (vI q), none, none] [] F A 0
  obtain ⟨hp, h⟩ := h
  obtain ⟨p1, p2', p3, p4, p5, p6, p7⟩ := hp
  have q1 := p1.1.1
  have q2 := p1.1.2
  have q3 := (p1.2.2.1 c p2'.1 p2'.2).1
  have q4 := p1.2.1.1
  have pd := p2_12' (show d ≤ 12 by omega)
  have ps := p2_s p4.1
  have mf0 : mF A (2 + 0) = mF A 2 := by rw [show (2 : Int) + 0 = 2 by omega]
  show (0 ≤ c ∧ c < 8) ∧ ((fgOK (mF A) ∧ (0 ≤ c ∧ c < mF A 0) ∧ (0 ≤ l ∧ l < mF A 1) ∧ (0 ≤ d ∧ d ≤ 12) ∧ 0 ≤ q ∧ q < p2 d) ∧ (∀ (B_1 : AA), ((∀ b i, b ≠ 32 ∧ b ≠ 34 → B_1 b i = A b i) ∧ ∀ k, 0 ≤ k → k < mF A (18 + c) → B_1 34 k = ccX (mF A) c l (Int.toNat d) q k) → ((0 ≤ (mF A (18 + c) - 1) ∧ (mF A (18 + c) - 1) ≤ 3) ∧ ((w32 (chg (B_1 34) (Int.toNat ((mF A (18 + c) - 1) + 1))) = w32 0 → (K (some none) F B_1)) ∧ (¬ w32 (chg (B_1 34) (Int.toNat ((mF A (18 + c) - 1) + 1))) = w32 0 → ((w32 (chg (B_1 34) (Int.toNat ((mF A (18 + c) - 1) + 1))) = w32 1 → ((w32 (chg (B_1 34) (Int.toNat ((mF A (18 + c) - 1) + 1))) = w32 1 → ((0 ≤ (F 25 12) ∧ (F 25 12) < 40) ∧ (K (some none) (upF F 25 12 ((F 25 12) + 1)) (upA (upA (upA B_1 35 ((F 25 12)) 1) 36 ((F 25 12)) d) 37 ((F 25 12)) q)))) ∧ (¬ w32 (chg (B_1 34) (Int.toNat ((mF A (18 + c) - 1) + 1))) = w32 1 → ((0 ≤ (F 25 12) ∧ (F 25 12) < 40) ∧ (K (some none) (upF F 25 12 ((F 25 12) + 1)) (upA (upA (upA B_1 35 ((F 25 12)) 2) 36 ((F 25 12)) d) 37 ((F 25 12)) q)))))) ∧ (¬ w32 (chg (B_1 34) (Int.toNat ((mF A (18 + c) - 1) + 1))) = w32 1 → ((0 ≤ 0 ∧ 0 ≤ 1) ∧ ((w32 d = w32 (mF B_1 (2 + 0)) → ((w32 (chg (B_1 34) (Int.toNat ((mF A (18 + c) - 1) + 1))) = w32 1 → ((0 ≤ (F 25 12) ∧ (F 25 12) < 40) ∧ (K (some none) (upF F 25 12 ((F 25 12) + 1)) (upA (upA (upA B_1 35 ((F 25 12)) 1) 36 ((F 25 12)) d) 37 ((F 25 12)) q)))) ∧ (¬ w32 (chg (B_1 34) (Int.toNat ((mF A (18 + c) - 1) + 1))) = w32 1 → ((0 ≤ (F 25 12) ∧ (F 25 12) < 40) ∧ (K (some none) (upF F 25 12 ((F 25 12) + 1)) (upA (upA (upA B_1 35 ((F 25 12)) 2) 36 ((F 25 12)) d) 37 ((F 25 12)) q)))))) ∧ (¬ w32 d = w32 (mF B_1 (2 + 0)) → ((fgOK (mF B_1) ∧ (0 ≤ c ∧ c < mF B_1 0) ∧ (0 ≤ l ∧ l < mF B_1 1) ∧ (0 ≤ (d + 1) ∧ (d + 1) ≤ mF B_1 2 ∧ (d + 1) + ((f : Nat) : Int) = 13) ∧ (0 ≤ (2 * q) ∧ (2 * q) < p2 (d + 1)) ∧ 0 ≤ (F 25 12) ∧ (F 25 12) + ((smL (mF B_1) c l f (d + 1) (2 * q)).length : Int) ≤ 40) ∧ (∀ (B_2 : AA) (G_2 : FF) (L_2 : List RT), (L_2 = smL (mF B_1) c l f (d + 1) (2 * q) ∧ snP B_1 B_2 ((F 25 12)) L_2 ∧ G_2 = upF F 25 12 ((F 25 12) + (L_2.length : Int))) → ((fgOK (mF B_2) ∧ (0 ≤ c ∧ c < mF B_2 0) ∧ (0 ≤ l ∧ l < mF B_2 1) ∧ (0 ≤ (d + 1) ∧ (d + 1) ≤ 12) ∧ 0 ≤ ((2 * q) + 1) ∧ ((2 * q) + 1) < p2 (d + 1)) ∧ (∀ (B_3 : AA), ((∀ b i, b ≠ 32 ∧ b ≠ 34 → B_3 b i = B_2 b i) ∧ ∀ k, 0 ≤ k → k < mF B_2 (18 + c) → B_3 34 k = ccX (mF B_2) c l (Int.toNat (d + 1)) ((2 * q) + 1) k) → ((0 ≤ w32 0 ∧ w32 0 < 4) ∧ ((w32 (y_cmp (B_3 34 (w32 0)) 0) = w32 0 → ((0 ≤ (G_2 25 12) ∧ (G_2 25 12) < 40) ∧ ((fgOK (mF (upA (upA (upA B_3 35 ((G_2 25 12)) 0) 36 ((G_2 25 12)) (d + 1)) 37 ((G_2 25 12)) ((2 * q) + 1))) ∧ (0 ≤ c ∧ c < mF (upA (upA (upA B_3 35 ((G_2 25 12)) 0) 36 ((G_2 25 12)) (d + 1)) 37 ((G_2 25 12)) ((2 * q) + 1)) 0) ∧ (0 ≤ l ∧ l < mF (upA (upA (upA B_3 35 ((G_2 25 12)) 0) 36 ((G_2 25 12)) (d + 1)) 37 ((G_2 25 12)) ((2 * q) + 1)) 1) ∧ (0 ≤ (d + 1) ∧ (d + 1) ≤ mF (upA (upA (upA B_3 35 ((G_2 25 12)) 0) 36 ((G_2 25 12)) (d + 1)) 37 ((G_2 25 12)) ((2 * q) + 1)) 2 ∧ (d + 1) + ((f : Nat) : Int) = 13) ∧ (0 ≤ ((2 * q) + 1) ∧ ((2 * q) + 1) < p2 (d + 1)) ∧ 0 ≤ ((upF G_2 25 12 ((G_2 25 12) + 1)) 25 12) ∧ ((upF G_2 25 12 ((G_2 25 12) + 1)) 25 12) + ((smL (mF (upA (upA (upA B_3 35 ((G_2 25 12)) 0) 36 ((G_2 25 12)) (d + 1)) 37 ((G_2 25 12)) ((2 * q) + 1))) c l f (d + 1) ((2 * q) + 1)).length : Int) ≤ 40) ∧ (∀ (B_4 : AA) (G_4 : FF) (L_4 : List RT), (L_4 = smL (mF (upA (upA (upA B_3 35 ((G_2 25 12)) 0) 36 ((G_2 25 12)) (d + 1)) 37 ((G_2 25 12)) ((2 * q) + 1))) c l f (d + 1) ((2 * q) + 1) ∧ snP (upA (upA (upA B_3 35 ((G_2 25 12)) 0) 36 ((G_2 25 12)) (d + 1)) 37 ((G_2 25 12)) ((2 * q) + 1)) B_4 (((upF G_2 25 12 ((G_2 25 12) + 1)) 25 12)) L_4 ∧ G_4 = upF (upF G_2 25 12 ((G_2 25 12) + 1)) 25 12 (((upF G_2 25 12 ((G_2 25 12) + 1)) 25 12) + (L_4.length : Int))) → (K (some none) G_4 B_4))))) ∧ (¬ w32 (y_cmp (B_3 34 (w32 0)) 0) = w32 0 → ((fgOK (mF B_3) ∧ (0 ≤ c ∧ c < mF B_3 0) ∧ (0 ≤ l ∧ l < mF B_3 1) ∧ (0 ≤ (d + 1) ∧ (d + 1) ≤ mF B_3 2 ∧ (d + 1) + ((f : Nat) : Int) = 13) ∧ (0 ≤ ((2 * q) + 1) ∧ ((2 * q) + 1) < p2 (d + 1)) ∧ 0 ≤ (G_2 25 12) ∧ (G_2 25 12) + ((smL (mF B_3) c l f (d + 1) ((2 * q) + 1)).length : Int) ≤ 40) ∧ (∀ (B_4 : AA) (G_4 : FF) (L_4 : List RT), (L_4 = smL (mF B_3) c l f (d + 1) ((2 * q) + 1) ∧ snP B_3 B_4 ((G_2 25 12)) L_4 ∧ G_4 = upF G_2 25 12 ((G_2 25 12) + (L_4.length : Int))) → (K (some none) G_4 B_4))))))))))))))))))))
  refine ⟨by omega, ?_⟩
  refine ⟨by exact ⟨p1, p2', p3, by omega, p5⟩, ?_⟩
  intro B_1 g1
  obtain ⟨gF, gC⟩ := g1
  have e1 := lay_f gF
  have hc : chg (B_1 34) (Int.toNat (mF A (18 + c) - 1 + 1)) = chg (ccX (mF A) c l (Int.toNat d) q) (Int.toNat (mF A (18 + c) - 1 + 1)) := chg_c (fun k k0 k1 => gC k k0 (by omega))
  rw [hc]
  have cb := chg_b (ccX (mF A) c l (Int.toNat d) q) (Int.toNat (mF A (18 + c) - 1 + 1))
  generalize hC : chg (ccX (mF A) c l (Int.toNat d) q) (Int.toNat (mF A (18 + c) - 1 + 1)) = C at cb ⊢
  rw [e1, mf0]
  have s1 : snP A B_1 (F 25 12) [] := snP_lay gF
  refine ⟨by omega, ?_⟩
  refine ⟨fun c1 => ?_, fun c1 => ?_⟩
  · skip
    (try simp (disch := omega) only [w32_0, w64_0, yc_eq0, w32_id] at c1)
    have e9 : smL (mF A) c l (f + 1) d q = [] := by unfold smL; exact srch_s0 (by rw [hC]; exact c1)
    exact h _ _ _ ⟨e9.symm, s1, (upF_id (by simp)).symm⟩
  · skip
    (try simp (disch := omega) only [w32_0, w64_0, yc_eq0, w32_id] at c1)
    refine ⟨fun c2 => ?_, fun c2 => ?_⟩
    · skip
      (try simp (disch := omega) only [w32_0, w64_0, yc_eq0, w32_id] at c2)
      refine ⟨fun c3 => ?_, fun c3 => ?_⟩
      · skip
        (try simp (disch := omega) only [w32_0, w64_0, yc_eq0, w32_id] at c3)
        refine ⟨by (have e9 : smL (mF A) c l (f + 1) d q = [(1, d, q)] := by { unfold smL; exact srch_s1 (by rw [hC]; exact c2) }; rw [e9] at p7; simp only [List.length_cons, List.length_nil] at p7; omega), ?_⟩
        have e9 : smL (mF A) c l (f + 1) d q = [(1, d, q)] := by unfold smL; exact srch_s1 (by rw [hC]; exact c2)
        exact h _ _ _ ⟨e9.symm, snP_trans s1 snP_add (by simp), rfl⟩
      · skip
        (try simp (disch := omega) only [w32_0, w64_0, yc_eq0, w32_id] at c3)
        try have e3 := smL_s3 (m := f) p4.1 (by rw [hC]; exact c1) (by rw [hC]; exact c2) (show ¬ mF A 2 ≤ d by omega)
        try rw [e3] at p7 h
        try simp only [List.length_append, Int.natCast_add] at p7
        refine ⟨by (exfalso; omega), ?_⟩
        exfalso; omega
    · skip
      (try simp (disch := omega) only [w32_0, w64_0, yc_eq0, w32_id] at c2)
      refine ⟨by omega, ?_⟩
      refine ⟨fun c3 => ?_, fun c3 => ?_⟩
      · skip
        (try simp (disch := omega) only [w32_0, w64_0, yc_eq0, w32_id] at c3)
        refine ⟨fun c4 => ?_, fun c4 => ?_⟩
        · skip
          (try simp (disch := omega) only [w32_0, w64_0, yc_eq0, w32_id] at c4)
          try rw [if_pos c4] at p7 h
          try simp only [List.length_cons, List.length_nil] at p7
          refine ⟨by (exfalso; omega), ?_⟩
          exfalso; omega
        · skip
          (try simp (disch := omega) only [w32_0, w64_0, yc_eq0, w32_id] at c4)
          try rw [if_neg c4] at p7 h
          try simp only [List.length_nil] at p7
          refine ⟨by (have e9 : smL (mF A) c l (f + 1) d q = [(2, d, q)] := by { unfold smL; exact srch_s2 (by rw [hC]; exact c1) (by rw [hC]; exact c2) (by omega) }; rw [e9] at p7; simp only [List.length_cons, List.length_nil] at p7; omega), ?_⟩
          have e9 : smL (mF A) c l (f + 1) d q = [(2, d, q)] := by unfold smL; exact srch_s2 (by rw [hC]; exact c1) (by rw [hC]; exact c2) (by omega)
          exact h _ _ _ ⟨e9.symm, snP_trans s1 snP_add (by simp), rfl⟩
      · skip
        (try simp (disch := omega) only [w32_0, w64_0, yc_eq0, w32_id] at c3)
        try have e3 := smL_s3 (m := f) p4.1 (by rw [hC]; exact c1) (by rw [hC]; exact c2) (show ¬ mF A 2 ≤ d by omega)
        try rw [e3] at p7 h
        try simp only [List.length_append, Int.natCast_add] at p7
        refine ⟨by (exact ⟨p1, p2', p3, ⟨by omega, by omega, by omega⟩, ⟨by omega, by omega⟩, by omega, by omega⟩), ?_⟩
        intro B_2 G_2 L_2 g2
        obtain ⟨gL, gP, gG⟩ := g2
        have e2 := (snP_f gP).trans e1
        have t2 := snP_trans s1 gP (by simp)
        rw [List.nil_append] at t2
        have f5 : G_2 25 12 = F 25 12 + (L_2.length : Int) := by rw [gG, upF_s]
        rw [← gL] at p7 h
        rw [e2]
        refine ⟨by exact ⟨p1, p2', p3, by omega, by omega, by omega⟩, ?_⟩
        intro B_3 g3
        obtain ⟨gF3, gC3⟩ := g3
        have e4 := (lay_f gF3).trans e2
        have t3 := snP_trans t2 (snP_lay (r := F 25 12 + (L_2.length : Int)) gF3) rfl
        rw [List.append_nil] at t3
        have c0 := gC3 0 (by omega) (by omega)
        rw [w32_0, c0, mF_up (n := 37) (by decide), mF_up (n := 36) (by decide), mF_up (n := 35) (by decide), e4]
        refine ⟨by omega, ?_⟩
        refine ⟨fun c4 => ?_, fun c4 => ?_⟩
        · skip
          (try simp (disch := omega) only [w32_0, w64_0, yc_eq0, w32_id] at c4)
          try rw [if_pos c4] at p7 h
          try simp only [List.length_cons, List.length_nil] at p7
          refine ⟨by (rw [f5]; omega), ?_⟩
          refine ⟨by (rw [upF_s, f5]; exact ⟨p1, p2', p3, ⟨by omega, by omega, by omega⟩, ⟨by omega, by omega⟩, by omega, by omega⟩), ?_⟩
          intro B_4 G_4 L_4 g4
          obtain ⟨kL, kP, kG⟩ := g4
          rw [← kL] at h
          have t4 := snP_trans t3 (snP_trans (snP_add (A := B_3) (r := G_2 25 12) (k := 0) (d := d + 1) (q := 2 * q + 1)) kP (by rw [upF_s]; simp)) f5
          refine h _ _ _ ⟨rfl, t4, ?_⟩
          rw [kG, upF_2, gG, upF_2]
          congr 1
          rw [upF_s, upF_s]
          simp only [List.length_append, List.length_cons, List.length_nil]
          omega
        · skip
          (try simp (disch := omega) only [w32_0, w64_0, yc_eq0, w32_id] at c4)
          try rw [if_neg c4] at p7 h
          try simp only [List.length_nil] at p7
          refine ⟨by (rw [f5]; exact ⟨p1, p2', p3, ⟨by omega, by omega, by omega⟩, ⟨by omega, by omega⟩, by omega, by omega⟩), ?_⟩
          intro B_4 G_4 L_4 g4
          obtain ⟨kL, kP, kG⟩ := g4
          rw [← kL] at h
          have t4 := snP_trans t3 kP f5
          refine h _ _ _ ⟨rfl, t4, ?_⟩
          rw [kG, gG, upF_2]
          congr 1
          rw [upF_s]
          simp only [List.length_append, List.length_nil, List.nil_append]
          omega
theorem qtX9_searchesR (l : Launch) : ∀ f : Nat, am_CT l layM (qeX9_searchesR f)
  | 0 => by
    intro layW hpre D al kC as F A K sz h
    exfalso
    replace h : qsX9_searchesR 0 as F A K := h
    unfold qsX9_searchesR at h
    split at h
    · rename_i o c l d q
      replace h := am_cond2 h
      rcases h with ⟨hb, h⟩ | h
      · (obtain ⟨⟨p1, -, -, p4, -⟩, -⟩ := h; have := p1.2.1.1; omega)
      exact h
    · exact h
  | f + 1 => am_met0 (x := qxX9_searchesR f) rfl (show plainName yX9_searches.cls = true by decide +kernel) rfl rfl rfl rfl rfl (fun _ => rfl) rfl (qzX9_searchesR l f (qtX9_searchesR l f)) (fun k e1 h => (qyX9_searchesR l f (qtX9_searchesR l f) k e1 h).2) (fun as F A K h => by
    replace h : qsX9_searchesR (f + 1) as F A K := h
    unfold qsX9_searchesR at h
    split at h
    · rename_i o c l d q
      refine ⟨by first | exact Nat.le_of_ble_eq_true rfl | simp [am_fl, am_cat], ?_⟩
      replace h := am_cond2 h
      rcases h with ⟨hb, h⟩ | h
      · skip
        have hb0 := hb
        have hb0 := am_bq hb0
        subst hb0
        exact am_way_line (qvX9_searchesR_25 f c l d q F A K h)
      exact h.elim
    · exact h.elim)
def qeX9_searches : CE := qeX9_searchesR 13
theorem qbX9_searches : am_mb qeX9_searches := qbX9_searchesR 13
theorem qtX9_searches (l : Launch) : am_CT l layM qeX9_searches := qtX9_searchesR l 13
