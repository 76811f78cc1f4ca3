def qkX7_readSetting : Nat → Option CI := fun pc => cond (Nat.ble 101 pc) none (cond (Nat.ble 54 pc) (cond (Nat.ble 76 pc) (cond (Nat.ble 87 pc) (cond (Nat.ble 95 pc) (cond (Nat.ble 99 pc) (cond (Nat.beq pc 99) (some (.iconst 0, 100, [])) (cond (Nat.beq pc 100) (some (.ireturn, 101, [])) (none))) (cond (Nat.beq pc 95) (some (.aload_n 0, 96, [])) (cond (Nat.beq pc 96) (some (.invokevirtual 36, 99, [])) (none)))) (cond (Nat.ble 89 pc) (cond (Nat.beq pc 89) (some (.getfield 69, 92, [])) (cond (Nat.beq pc 92) (some (.invokevirtual 109, 95, [])) (none))) (cond (Nat.beq pc 87) (some (.iload_n 2, 88, [])) (cond (Nat.beq pc 88) (some (.aload_n 0, 89, [])) (none))))) (cond (Nat.ble 81 pc) (cond (Nat.ble 85 pc) (cond (Nat.beq pc 85) (some (.ireturn, 86, [])) (cond (Nat.beq pc 86) (some (.aload_n 1, 87, [])) (none))) (cond (Nat.beq pc 81) (some (.ifCond .eq 5, 84, [86])) (cond (Nat.beq pc 84) (some (.iload_n 3, 85, [])) (none)))) (cond (Nat.beq pc 76) (some (.invokevirtual 88, 79, [])) (cond (Nat.beq pc 79) (some (.istore_n 3, 80, [])) (cond (Nat.beq pc 80) (some (.iload_n 3, 81, [])) (none)))))) (cond (Nat.ble 63 pc) (cond (Nat.ble 70 pc) (cond (Nat.ble 72 pc) (cond (Nat.beq pc 72) (some (.iload_n 2, 73, [])) (cond (Nat.beq pc 73) (some (.invokestatic 106, 76, [])) (none))) (cond (Nat.beq pc 70) (some (.aload_n 0, 71, [])) (cond (Nat.beq pc 71) (some (.iconst 1, 72, [])) (none)))) (cond (Nat.beq pc 63) (some (.putfield 28, 66, [])) (cond (Nat.beq pc 66) (some (.aload_n 0, 67, [])) (cond (Nat.beq pc 67) (some (.invokevirtual 36, 70, [])) (none))))) (cond (Nat.ble 59 pc) (cond (Nat.ble 61 pc) (cond (Nat.beq pc 61) (some (.ishl, 62, [])) (cond (Nat.beq pc 62) (some (.ior, 63, [])) (none))) (cond (Nat.beq pc 59) (some (.iconst 1, 60, [])) (cond (Nat.beq pc 60) (some (.iload_n 2, 61, [])) (none)))) (cond (Nat.beq pc 54) (some (.aload_n 0, 55, [])) (cond (Nat.beq pc 55) (some (.dup, 56, [])) (cond (Nat.beq pc 56) (some (.getfield 28, 59, [])) (none))))))) (cond (Nat.ble 29 pc) (cond (Nat.ble 41 pc) (cond (Nat.ble 47 pc) (cond (Nat.ble 51 pc) (cond (Nat.beq pc 51) (some (.bipush (-13), 53, [])) (cond (Nat.beq pc 53) (some (.ireturn, 54, [])) (none))) (cond (Nat.beq pc 47) (some (.iand, 48, [])) (cond (Nat.beq pc 48) (some (.ifCond .eq 6, 51, [54])) (none)))) (cond (Nat.ble 45 pc) (cond (Nat.beq pc 45) (some (.iload_n 2, 46, [])) (cond (Nat.beq pc 46) (some (.ishl, 47, [])) (none))) (cond (Nat.beq pc 41) (some (.getfield 28, 44, [])) (cond (Nat.beq pc 44) (some (.iconst 1, 45, [])) (none))))) (cond (Nat.ble 35 pc) (cond (Nat.ble 39 pc) (cond (Nat.beq pc 39) (some (.istore_n 2, 40, [])) (cond (Nat.beq pc 40) (some (.aload_n 0, 41, [])) (none))) (cond (Nat.beq pc 35) (some (.goto 4, 38, [39])) (cond (Nat.beq pc 38) (some (.iconst 1, 39, [])) (none)))) (cond (Nat.beq pc 29) (some (.ldc 104, 31, [])) (cond (Nat.beq pc 31) (some (.if_icmp .ne 7, 34, [38])) (cond (Nat.beq pc 34) (some (.iconst 0, 35, [])) (none)))))) (cond (Nat.ble 14 pc) (cond (Nat.ble 22 pc) (cond (Nat.ble 25 pc) (cond (Nat.beq pc 25) (some (.aload_n 0, 26, [])) (cond (Nat.beq pc 26) (some (.getfield 69, 29, [])) (none))) (cond (Nat.beq pc 22) (some (.bipush (-11), 24, [])) (cond (Nat.beq pc 24) (some (.ireturn, 25, [])) (none)))) (cond (Nat.beq pc 14) (some (.ldc 105, 16, [])) (cond (Nat.beq pc 16) (some (.invokevirtual 47, 19, [])) (cond (Nat.beq pc 19) (some (.ifCond .ne 6, 22, [25])) (none))))) (cond (Nat.ble 5 pc) (cond (Nat.ble 10 pc) (cond (Nat.beq pc 10) (some (.ifCond .ne 15, 13, [25])) (cond (Nat.beq pc 13) (some (.aload_n 0, 14, [])) (none))) (cond (Nat.beq pc 5) (some (.ldc 104, 7, [])) (cond (Nat.beq pc 7) (some (.invokevirtual 47, 10, [])) (none)))) (cond (Nat.beq pc 0) (some (.aload_n 0, 1, [])) (cond (Nat.beq pc 1) (some (.invokevirtual 36, 4, [])) (cond (Nat.beq pc 4) (some (.aload_n 0, 5, [])) (none))))))))
theorem qkX7_readSetting_ok : ∀ pc i nx ts, qkX7_readSetting pc = some (i, nx, ts) → am_cok cX7_readSetting pc (i, nx, ts) = true := fun pc i nx ts h => am_tok_ok (n := 101) (by decide +kernel) (fun pc h => by show cond (Nat.ble 101 pc) _ _ = _; rw [Nat.ble_eq_true_of_le h]; rfl) h
def qaX7_readSetting : Nat → Option CE := fun k => cond (Nat.beq k 36) (some qeX7_advance) (cond (Nat.beq k 47) (some qeX7_isWord) (cond (Nat.beq k 106) (some qeX8_greatestOf) (cond (Nat.beq k 88) (some qeX7_checkInteger) (cond (Nat.beq k 109) (some qeX2_putSetting) (none)))))
theorem qyX7_readSetting (l : Launch) : ∀ k e1, qaX7_readSetting k = some e1 → am_cal l layX RX7 6 k e1 ∧ ceT e1 = 0 := q_cons ⟨am_calV (ci := 7) (qtX7_advance l) qbX7_advance (by decide) rfl (am_tb_at 616 (by decide +kernel) rfl), rfl⟩ (q_cons ⟨am_calV (ci := 7) (qtX7_isWord l) qbX7_isWord (by decide) rfl (am_tb_at 647 (by decide +kernel) rfl), rfl⟩ (q_cons ⟨am_calN (host := "CurveMeetings") (qtX8_greatestOf l) qbX8_greatestOf (by decide) rfl rfl (am_tb_at 738 (by decide +kernel) rfl), rfl⟩ (q_cons ⟨am_calV (ci := 7) (qtX7_checkInteger l) qbX7_checkInteger (by decide) rfl (am_tb_at 699 (by decide +kernel) rfl), rfl⟩ (q_cons ⟨am_calV (ci := 2) (qtX2_putSetting l) qbX2_putSetting (by decide) rfl (am_tb_at 741 (by decide +kernel) rfl), rfl⟩ (q_nil)))))
def qxX7_readSetting : CX := (qkX7_readSetting, layX, qfX7, qaX7_readSetting, qcX7, qlX7, qmX7, (some .int), false, none, 0, none, fun _ => none)
theorem qzX7_readSetting (l : Launch) : am_sta l qxX7_readSetting RX7 6 cX7_readSetting := ⟨qkX7_readSetting_ok, layX_ok, qfX7_ok, qcX7_ok, qlX7_ok, am_mthP qmX7_ok (by decide), fun k e1 h => (qyX7_readSetting l k e1 h).1⟩
def qsX7_readSetting : SP := fun as F A K => match as with
  | [.inr (.inr o), .inr (.inr p)] => cond (Nat.beq o 7 && Nat.beq p 3) ((((0 ≤ (F 7 2) ∧ (F 7 2) ≤ 800) ∧ tkOK ((F 7 2)) (tkF F)) ∧ ctOK (A 4) ∧ 0 ≤ (F 7 7) ∧ (F 7 7) ≤ 3) ∧ (K (some (some (vI ((rdS (A 8) ((F 7 2)) (tkF F) (A 4) ((F 7 7))).1)))) (upF (tkS F ((rdS (A 8) ((F 7 2)) (tkF F) (A 4) ((F 7 7))).2.1)) 7 7 ((rdS (A 8) ((F 7 2)) (tkF F) (A 4) ((F 7 7))).2.2.2)) (r4 A ((rdS (A 8) ((F 7 2)) (tkF F) (A 4) ((F 7 7))).2.2.1)))) (False)
  | _ => False
def qeX7_readSetting : CE := (yX7_readSetting, cX7_readSetting, 4, (some .int), 1, some 7, 0, none, 0, 6, qsX7_readSetting)
theorem qbX7_readSetting : am_mb qeX7_readSetting := ⟨am_tb_at 737 (by decide +kernel) rfl, am_tb_at 38 (by decide +kernel) rfl, ⟨by decide, by decide, by decide +kernel⟩, by decide, am_tb_at 736 (by decide +kernel) rfl, am_tb_at 14 (by decide +kernel) rfl, _, _, rfl⟩
set_option maxRecDepth 20000 in
theorem qvX7_readSetting_7_3  (F : FF) (A : AA) (K : KK) (h : (((0 ≤ (F 7 2) ∧ (F 7 2) ≤ 800) ∧ tkOK ((F 7 2)) (tkF F)) ∧ ctOK (A 4) ∧ 0 ≤ (F 7 7) ∧ (F 7 7) ≤ 3) ∧ (K (some (some (vI ((rdS (A 8) ((F 7 2)) (tkF F) (A 4) ((F 7 7))).1)))) (upF (tkS F ((rdS (A 8) ((F 7 2)) (tkF F) (A 4) ((F 7 7))).2.1)) 7 7 ((rdS (A 8) ((F 7 2)) (tkF F) (A 4) ((F 7 7))).2.2.2)) (r4 A ((rdS (A 8) ((F 7 2)) (tkF F) (A 4) ((F 7 7))).2.2.1)))) : am_line qxX7_readSetting 52 [vR 7, vR 3] 4 F A K := by
  show am_stp qxX7_readSetting (am_run qxX7_readSetting (fun _ => none) (fun _ _ _ _ _ _ => False) K 52) K 0 [some (vR 7), some (vR 3), none, none] [] F A 0
  obtain ⟨hp, h⟩ := h
  obtain ⟨⟨pn, k0⟩, pc, pg⟩ := hp
  have k1 := nxT_ok (T := A 8) k0
  have k2 := nxT_ok (T := A 8) k1
  have b0 := k0.2.1
  have b1 := k1.2.1
  have b2 := k2.2.1
  have w0 := k0.2.2.2.2.2
  have w1 := k1.2.2.2.2.2
  have w2 := k2.2.2.2.2.2
  have v1 := k1.2.2.1
  have v2 := k2.2.2.1
  have ib := inE_b 1 12 (nxT (A 8) (F 7 2) (nxT (A 8) (F 7 2) (tkF F)))
  have ib2 := inE_b 1 6 (nxT (A 8) (F 7 2) (nxT (A 8) (F 7 2) (tkF F)))
  have bf2 : (tkF F).2.1 = F 7 4 := rfl
  have bf1 : (tkF F).1 = F 7 3 := rfl
  have z0 := k0.1
  have z1 := k1.1
  have z2 := k2.1

  show ((0 ≤ (F 7 2) ∧ (F 7 2) ≤ 800) ∧ 0 ≤ (F 7 4) ∧ (F 7 4) ≤ (F 7 2)) ∧ (((-2147483648 ≤ 412526208 ∧ 412526208 < 2147483648) ∧ (-2147483648 ≤ ((nxT (A 8) ((F 7 2)) (tkF F)).2.2.2) ∧ ((nxT (A 8) ((F 7 2)) (tkF F)).2.2.2) < 2147483648) ∧ (-2147483648 ≤ ((nxT (A 8) ((F 7 2)) (tkF F)).2.2.1) ∧ ((nxT (A 8) ((F 7 2)) (tkF F)).2.2.1) < 2147483648)) ∧ ((w32 (bi (iwP ((nxT (A 8) ((F 7 2)) (tkF F))) 412526208)) = w32 0 → (((-2147483648 ≤ 140005632 ∧ 140005632 < 2147483648) ∧ (-2147483648 ≤ ((nxT (A 8) ((F 7 2)) (tkF F)).2.2.2) ∧ ((nxT (A 8) ((F 7 2)) (tkF F)).2.2.2) < 2147483648) ∧ (-2147483648 ≤ ((nxT (A 8) ((F 7 2)) (tkF F)).2.2.1) ∧ ((nxT (A 8) ((F 7 2)) (tkF F)).2.2.1) < 2147483648)) ∧ ((w32 (bi (iwP ((nxT (A 8) ((F 7 2)) (tkF F))) 140005632)) = w32 0 → (K (some (some (vI (-11)))) (tkS F (nxT (A 8) ((F 7 2)) (tkF F))) A)) ∧ (¬ w32 (bi (iwP ((nxT (A 8) ((F 7 2)) (tkF F))) 140005632)) = w32 0 → ((w32 ((nxT (A 8) ((F 7 2)) (tkF F)).2.2.2) = w32 412526208 → ((w32 (x_and (F 7 7) (x_shl 1 0)) = w32 0 → (((0 ≤ (F 7 2) ∧ (F 7 2) ≤ 800) ∧ 0 ≤ ((nxT (A 8) ((F 7 2)) (tkF F)).2.1) ∧ ((nxT (A 8) ((F 7 2)) (tkF F)).2.1) ≤ (F 7 2)) ∧ (((-2147483648 ≤ 1 ∧ 1 < 2147483648) ∧ (-2147483648 ≤ (if w32 0 = 0 then 12 else 6) ∧ (if w32 0 = 0 then 12 else 6) < 2147483648) ∧ (-2147483648 ≤ ((nxT (A 8) ((F 7 2)) ((nxT (A 8) ((F 7 2)) (tkF F)))).2.2.2) ∧ ((nxT (A 8) ((F 7 2)) ((nxT (A 8) ((F 7 2)) (tkF F)))).2.2.2) < 2147483648) ∧ (-2147483648 ≤ ((nxT (A 8) ((F 7 2)) ((nxT (A 8) ((F 7 2)) (tkF F)))).2.2.1) ∧ ((nxT (A 8) ((F 7 2)) ((nxT (A 8) ((F 7 2)) (tkF F)))).2.2.1) < 2147483648)) ∧ ((w32 (inE 1 (if w32 0 = 0 then 12 else 6) ((nxT (A 8) ((F 7 2)) ((nxT (A 8) ((F 7 2)) (tkF F)))))) = w32 0 → (((0 ≤ (F 7 2) ∧ (F 7 2) ≤ 800) ∧ 0 ≤ ((nxT (A 8) ((F 7 2)) ((nxT (A 8) ((F 7 2)) (tkF F)))).2.1) ∧ ((nxT (A 8) ((F 7 2)) ((nxT (A 8) ((F 7 2)) (tkF F)))).2.1) ≤ (F 7 2)) ∧ (K (some (some (vI 0))) (tkS (tkS (upF (tkS F (nxT (A 8) ((F 7 2)) (tkF F))) 7 7 (x_or (F 7 7) (x_shl 1 0))) (nxT (A 8) ((F 7 2)) ((nxT (A 8) ((F 7 2)) (tkF F))))) (nxT ((fput A 4 (2 + 0) ((nxT (A 8) ((F 7 2)) ((nxT (A 8) ((F 7 2)) (tkF F)))).2.2.2)) 8) ((F 7 2)) ((nxT (A 8) ((F 7 2)) ((nxT (A 8) ((F 7 2)) (tkF F))))))) (fput A 4 (2 + 0) ((nxT (A 8) ((F 7 2)) ((nxT (A 8) ((F 7 2)) (tkF F)))).2.2.2))))) ∧ (¬ w32 (inE 1 (if w32 0 = 0 then 12 else 6) ((nxT (A 8) ((F 7 2)) ((nxT (A 8) ((F 7 2)) (tkF F)))))) = w32 0 → (K (some (some (vI (inE 1 (if w32 0 = 0 then 12 else 6) ((nxT (A 8) ((F 7 2)) ((nxT (A 8) ((F 7 2)) (tkF F))))))))) (tkS (upF (tkS F (nxT (A 8) ((F 7 2)) (tkF F))) 7 7 (x_or (F 7 7) (x_shl 1 0))) (nxT (A 8) ((F 7 2)) ((nxT (A 8) ((F 7 2)) (tkF F))))) A)))))) ∧ (¬ w32 (x_and (F 7 7) (x_shl 1 0)) = w32 0 → (K (some (some (vI (-13)))) (tkS F (nxT (A 8) ((F 7 2)) (tkF F))) A)))) ∧ (¬ w32 ((nxT (A 8) ((F 7 2)) (tkF F)).2.2.2) = w32 412526208 → ((w32 (x_and (F 7 7) (x_shl 1 1)) = w32 0 → (((0 ≤ (F 7 2) ∧ (F 7 2) ≤ 800) ∧ 0 ≤ ((nxT (A 8) ((F 7 2)) (tkF F)).2.1) ∧ ((nxT (A 8) ((F 7 2)) (tkF F)).2.1) ≤ (F 7 2)) ∧ (((-2147483648 ≤ 1 ∧ 1 < 2147483648) ∧ (-2147483648 ≤ (if w32 1 = 0 then 12 else 6) ∧ (if w32 1 = 0 then 12 else 6) < 2147483648) ∧ (-2147483648 ≤ ((nxT (A 8) ((F 7 2)) ((nxT (A 8) ((F 7 2)) (tkF F)))).2.2.2) ∧ ((nxT (A 8) ((F 7 2)) ((nxT (A 8) ((F 7 2)) (tkF F)))).2.2.2) < 2147483648) ∧ (-2147483648 ≤ ((nxT (A 8) ((F 7 2)) ((nxT (A 8) ((F 7 2)) (tkF F)))).2.2.1) ∧ ((nxT (A 8) ((F 7 2)) ((nxT (A 8) ((F 7 2)) (tkF F)))).2.2.1) < 2147483648)) ∧ ((w32 (inE 1 (if w32 1 = 0 then 12 else 6) ((nxT (A 8) ((F 7 2)) ((nxT (A 8) ((F 7 2)) (tkF F)))))) = w32 0 → (((0 ≤ (F 7 2) ∧ (F 7 2) ≤ 800) ∧ 0 ≤ ((nxT (A 8) ((F 7 2)) ((nxT (A 8) ((F 7 2)) (tkF F)))).2.1) ∧ ((nxT (A 8) ((F 7 2)) ((nxT (A 8) ((F 7 2)) (tkF F)))).2.1) ≤ (F 7 2)) ∧ (K (some (some (vI 0))) (tkS (tkS (upF (tkS F (nxT (A 8) ((F 7 2)) (tkF F))) 7 7 (x_or (F 7 7) (x_shl 1 1))) (nxT (A 8) ((F 7 2)) ((nxT (A 8) ((F 7 2)) (tkF F))))) (nxT ((fput A 4 (2 + 1) ((nxT (A 8) ((F 7 2)) ((nxT (A 8) ((F 7 2)) (tkF F)))).2.2.2)) 8) ((F 7 2)) ((nxT (A 8) ((F 7 2)) ((nxT (A 8) ((F 7 2)) (tkF F))))))) (fput A 4 (2 + 1) ((nxT (A 8) ((F 7 2)) ((nxT (A 8) ((F 7 2)) (tkF F)))).2.2.2))))) ∧ (¬ w32 (inE 1 (if w32 1 = 0 then 12 else 6) ((nxT (A 8) ((F 7 2)) ((nxT (A 8) ((F 7 2)) (tkF F)))))) = w32 0 → (K (some (some (vI (inE 1 (if w32 1 = 0 then 12 else 6) ((nxT (A 8) ((F 7 2)) ((nxT (A 8) ((F 7 2)) (tkF F))))))))) (tkS (upF (tkS F (nxT (A 8) ((F 7 2)) (tkF F))) 7 7 (x_or (F 7 7) (x_shl 1 1))) (nxT (A 8) ((F 7 2)) ((nxT (A 8) ((F 7 2)) (tkF F))))) A)))))) ∧ (¬ w32 (x_and (F 7 7) (x_shl 1 1)) = w32 0 → (K (some (some (vI (-13)))) (tkS F (nxT (A 8) ((F 7 2)) (tkF F))) A))))))))) ∧ (¬ w32 (bi (iwP ((nxT (A 8) ((F 7 2)) (tkF F))) 412526208)) = w32 0 → ((w32 ((nxT (A 8) ((F 7 2)) (tkF F)).2.2.2) = w32 412526208 → ((w32 (x_and (F 7 7) (x_shl 1 0)) = w32 0 → (((0 ≤ (F 7 2) ∧ (F 7 2) ≤ 800) ∧ 0 ≤ ((nxT (A 8) ((F 7 2)) (tkF F)).2.1) ∧ ((nxT (A 8) ((F 7 2)) (tkF F)).2.1) ≤ (F 7 2)) ∧ (((-2147483648 ≤ 1 ∧ 1 < 2147483648) ∧ (-2147483648 ≤ (if w32 0 = 0 then 12 else 6) ∧ (if w32 0 = 0 then 12 else 6) < 2147483648) ∧ (-2147483648 ≤ ((nxT (A 8) ((F 7 2)) ((nxT (A 8) ((F 7 2)) (tkF F)))).2.2.2) ∧ ((nxT (A 8) ((F 7 2)) ((nxT (A 8) ((F 7 2)) (tkF F)))).2.2.2) < 2147483648) ∧ (-2147483648 ≤ ((nxT (A 8) ((F 7 2)) ((nxT (A 8) ((F 7 2)) (tkF F)))).2.2.1) ∧ ((nxT (A 8) ((F 7 2)) ((nxT (A 8) ((F 7 2)) (tkF F)))).2.2.1) < 2147483648)) ∧ ((w32 (inE 1 (if w32 0 = 0 then 12 else 6) ((nxT (A 8) ((F 7 2)) ((nxT (A 8) ((F 7 2)) (tkF F)))))) = w32 0 → (((0 ≤ (F 7 2) ∧ (F 7 2) ≤ 800) ∧ 0 ≤ ((nxT (A 8) ((F 7 2)) ((nxT (A 8) ((F 7 2)) (tkF F)))).2.1) ∧ ((nxT (A 8) ((F 7 2)) ((nxT (A 8) ((F 7 2)) (tkF F)))).2.1) ≤ (F 7 2)) ∧ (K (some (some (vI 0))) (tkS (tkS (upF (tkS F (nxT (A 8) ((F 7 2)) (tkF F))) 7 7 (x_or (F 7 7) (x_shl 1 0))) (nxT (A 8) ((F 7 2)) ((nxT (A 8) ((F 7 2)) (tkF F))))) (nxT ((fput A 4 (2 + 0) ((nxT (A 8) ((F 7 2)) ((nxT (A 8) ((F 7 2)) (tkF F)))).2.2.2)) 8) ((F 7 2)) ((nxT (A 8) ((F 7 2)) ((nxT (A 8) ((F 7 2)) (tkF F))))))) (fput A 4 (2 + 0) ((nxT (A 8) ((F 7 2)) ((nxT (A 8) ((F 7 2)) (tkF F)))).2.2.2))))) ∧ (¬ w32 (inE 1 (if w32 0 = 0 then 12 else 6) ((nxT (A 8) ((F 7 2)) ((nxT (A 8) ((F 7 2)) (tkF F)))))) = w32 0 → (K (some (some (vI (inE 1 (if w32 0 = 0 then 12 else 6) ((nxT (A 8) ((F 7 2)) ((nxT (A 8) ((F 7 2)) (tkF F))))))))) (tkS (upF (tkS F (nxT (A 8) ((F 7 2)) (tkF F))) 7 7 (x_or (F 7 7) (x_shl 1 0))) (nxT (A 8) ((F 7 2)) ((nxT (A 8) ((F 7 2)) (tkF F))))) A)))))) ∧ (¬ w32 (x_and (F 7 7) (x_shl 1 0)) = w32 0 → (K (some (some (vI (-13)))) (tkS F (nxT (A 8) ((F 7 2)) (tkF F))) A)))) ∧ (¬ w32 ((nxT (A 8) ((F 7 2)) (tkF F)).2.2.2) = w32 412526208 → ((w32 (x_and (F 7 7) (x_shl 1 1)) = w32 0 → (((0 ≤ (F 7 2) ∧ (F 7 2) ≤ 800) ∧ 0 ≤ ((nxT (A 8) ((F 7 2)) (tkF F)).2.1) ∧ ((nxT (A 8) ((F 7 2)) (tkF F)).2.1) ≤ (F 7 2)) ∧ (((-2147483648 ≤ 1 ∧ 1 < 2147483648) ∧ (-2147483648 ≤ (if w32 1 = 0 then 12 else 6) ∧ (if w32 1 = 0 then 12 else 6) < 2147483648) ∧ (-2147483648 ≤ ((nxT (A 8) ((F 7 2)) ((nxT (A 8) ((F 7 2)) (tkF F)))).2.2.2) ∧ ((nxT (A 8) ((F 7 2)) ((nxT (A 8) ((F 7 2)) (tkF F)))).2.2.2) < 2147483648) ∧ (-2147483648 ≤ ((nxT (A 8) ((F 7 2)) ((nxT (A 8) ((F 7 2)) (tkF F)))).2.2.1) ∧ ((nxT (A 8) ((F 7 2)) ((nxT (A 8) ((F 7 2)) (tkF F)))).2.2.1) < 2147483648)) ∧ ((w32 (inE 1 (if w32 1 = 0 then 12 else 6) ((nxT (A 8) ((F 7 2)) ((nxT (A 8) ((F 7 2)) (tkF F)))))) = w32 0 → (((0 ≤ (F 7 2) ∧ (F 7 2) ≤ 800) ∧ 0 ≤ ((nxT (A 8) ((F 7 2)) ((nxT (A 8) ((F 7 2)) (tkF F)))).2.1) ∧ ((nxT (A 8) ((F 7 2)) ((nxT (A 8) ((F 7 2)) (tkF F)))).2.1) ≤ (F 7 2)) ∧ (K (some (some (vI 0))) (tkS (tkS (upF (tkS F (nxT (A 8) ((F 7 2)) (tkF F))) 7 7 (x_or (F 7 7) (x_shl 1 1))) (nxT (A 8) ((F 7 2)) ((nxT (A 8) ((F 7 2)) (tkF F))))) (nxT ((fput A 4 (2 + 1) ((nxT (A 8) ((F 7 2)) ((nxT (A 8) ((F 7 2)) (tkF F)))).2.2.2)) 8) ((F 7 2)) ((nxT (A 8) ((F 7 2)) ((nxT (A 8) ((F 7 2)) (tkF F))))))) (fput A 4 (2 + 1) ((nxT (A 8) ((F 7 2)) ((nxT (A 8) ((F 7 2)) (tkF F)))).2.2.2))))) ∧ (¬ w32 (inE 1 (if w32 1 = 0 then 12 else 6) ((nxT (A 8) ((F 7 2)) ((nxT (A 8) ((F 7 2)) (tkF F)))))) = w32 0 → (K (some (some (vI (inE 1 (if w32 1 = 0 then 12 else 6) ((nxT (A 8) ((F 7 2)) ((nxT (A 8) ((F 7 2)) (tkF F))))))))) (tkS (upF (tkS F (nxT (A 8) ((F 7 2)) (tkF F))) 7 7 (x_or (F 7 7) (x_shl 1 1))) (nxT (A 8) ((F 7 2)) ((nxT (A 8) ((F 7 2)) (tkF F))))) A)))))) ∧ (¬ w32 (x_and (F 7 7) (x_shl 1 1)) = w32 0 → (K (some (some (vI (-13)))) (tkS F (nxT (A 8) ((F 7 2)) (tkF F))) A))))))))
  refine ⟨by first | omega | (simp only [ifz0, ifz1]; omega), ?_⟩
  refine ⟨by first | omega | (simp only [ifz0, ifz1]; omega), ?_⟩
  refine ⟨fun c1 => ?_, fun c1 => ?_⟩
  · skip
    (try simp only [ifz0, ifz1] at c1); (try simp (disch := omega) only [w32_0, wbi0, Classical.not_not, w32_id] at c1); (try (rw [w32_id (x := x_and (F 7 7) (x_shl 1 0)) (x_and_r _ _).1 (x_and_r _ _).2] at c1)); (try (rw [w32_id (x := x_and (F 7 7) (x_shl 1 1)) (x_and_r _ _).1 (x_and_r _ _).2] at c1))
    refine ⟨by first | omega | (simp only [ifz0, ifz1]; omega), ?_⟩
    refine ⟨fun c2 => ?_, fun c2 => ?_⟩
    · skip
      (try simp only [ifz0, ifz1] at c2); (try simp (disch := omega) only [w32_0, wbi0, Classical.not_not, w32_id] at c2); (try (rw [w32_id (x := x_and (F 7 7) (x_shl 1 0)) (x_and_r _ _).1 (x_and_r _ _).2] at c2)); (try (rw [w32_id (x := x_and (F 7 7) (x_shl 1 1)) (x_and_r _ _).1 (x_and_r _ _).2] at c2))
      unfold rdS at h
      first
      | (rw [if_neg (by intro z; rcases z with z | z <;> contradiction)] at h
         exact FA_eq h rfl (by first | exact upF_id rfl | (simp only [tkS_up, tkS_S]; done) | (rw [fput_r (show (8 : Nat) ≠ 4 by decide)]; simp only [tkS_up, tkS_S]; done)) (by first | exact r4_A | exact (fput_r4 (by omega) (by omega)).symm))
      | (rw [if_pos (by first | exact Or.inl (by assumption) | exact Or.inr (by assumption))] at h
         first
         | (have hs : stI (nxT (A 8) (F 7 2) (tkF F)) = 0 := by unfold stI; exact if_pos (by assumption)
            rw [hs] at h
            first
            | (rw [if_neg (by first | assumption | exact c3 | exact c4 | exact c5)] at h; exact FA_eq h rfl (by first | exact upF_id rfl | (simp only [tkS_up, tkS_S]; done) | (rw [fput_r (show (8 : Nat) ≠ 4 by decide)]; simp only [tkS_up, tkS_S]; done)) (by first | exact r4_A | exact (fput_r4 (by omega) (by omega)).symm))
            | (rw [if_pos (by first | assumption | exact c3 | exact c4 | exact c5)] at h
               first
               | (rw [if_neg (by first | assumption | exact c3 | exact c4 | exact c5)] at h; exact FA_eq h rfl (by first | exact upF_id rfl | (simp only [tkS_up, tkS_S]; done) | (rw [fput_r (show (8 : Nat) ≠ 4 by decide)]; simp only [tkS_up, tkS_S]; done)) (by first | exact r4_A | exact (fput_r4 (by omega) (by omega)).symm))
               | (rw [if_pos (by first | assumption | exact c3 | exact c4 | exact c5)] at h; exact FA_eq h rfl (by first | exact upF_id rfl | (simp only [tkS_up, tkS_S]; done) | (rw [fput_r (show (8 : Nat) ≠ 4 by decide)]; simp only [tkS_up, tkS_S]; done)) (by first | exact r4_A | exact (fput_r4 (by omega) (by omega)).symm))))
         | (have hs : stI (nxT (A 8) (F 7 2) (tkF F)) = 1 := by unfold stI; exact if_neg (by assumption)
            rw [hs] at h
            first
            | (rw [if_neg (by first | assumption | exact c3 | exact c4 | exact c5)] at h; exact FA_eq h rfl (by first | exact upF_id rfl | (simp only [tkS_up, tkS_S]; done) | (rw [fput_r (show (8 : Nat) ≠ 4 by decide)]; simp only [tkS_up, tkS_S]; done)) (by first | exact r4_A | exact (fput_r4 (by omega) (by omega)).symm))
            | (rw [if_pos (by first | assumption | exact c3 | exact c4 | exact c5)] at h
               first
               | (rw [if_neg (by first | assumption | exact c3 | exact c4 | exact c5)] at h; exact FA_eq h rfl (by first | exact upF_id rfl | (simp only [tkS_up, tkS_S]; done) | (rw [fput_r (show (8 : Nat) ≠ 4 by decide)]; simp only [tkS_up, tkS_S]; done)) (by first | exact r4_A | exact (fput_r4 (by omega) (by omega)).symm))
               | (rw [if_pos (by first | assumption | exact c3 | exact c4 | exact c5)] at h; exact FA_eq h rfl (by first | exact upF_id rfl | (simp only [tkS_up, tkS_S]; done) | (rw [fput_r (show (8 : Nat) ≠ 4 by decide)]; simp only [tkS_up, tkS_S]; done)) (by first | exact r4_A | exact (fput_r4 (by omega) (by omega)).symm)))))
    · skip
      (try simp only [ifz0, ifz1] at c2); (try simp (disch := omega) only [w32_0, wbi0, Classical.not_not, w32_id] at c2); (try (rw [w32_id (x := x_and (F 7 7) (x_shl 1 0)) (x_and_r _ _).1 (x_and_r _ _).2] at c2)); (try (rw [w32_id (x := x_and (F 7 7) (x_shl 1 1)) (x_and_r _ _).1 (x_and_r _ _).2] at c2))
      refine ⟨fun c3 => ?_, fun c3 => ?_⟩
      · skip
        (try simp only [ifz0, ifz1] at c3); (try simp (disch := omega) only [w32_0, wbi0, Classical.not_not, w32_id] at c3); (try (rw [w32_id (x := x_and (F 7 7) (x_shl 1 0)) (x_and_r _ _).1 (x_and_r _ _).2] at c3)); (try (rw [w32_id (x := x_and (F 7 7) (x_shl 1 1)) (x_and_r _ _).1 (x_and_r _ _).2] at c3))
        refine ⟨fun c4 => ?_, fun c4 => ?_⟩
        · skip
          (try simp only [ifz0, ifz1] at c4); (try simp (disch := omega) only [w32_0, wbi0, Classical.not_not, w32_id] at c4); (try (rw [w32_id (x := x_and (F 7 7) (x_shl 1 0)) (x_and_r _ _).1 (x_and_r _ _).2] at c4)); (try (rw [w32_id (x := x_and (F 7 7) (x_shl 1 1)) (x_and_r _ _).1 (x_and_r _ _).2] at c4))
          refine ⟨by first | omega | (simp only [ifz0, ifz1]; omega), ?_⟩
          refine ⟨by first | omega | (simp only [ifz0, ifz1]; omega), ?_⟩
          refine ⟨fun c5 => ?_, fun c5 => ?_⟩
          · skip
            (try simp only [ifz0, ifz1] at c5); (try simp (disch := omega) only [w32_0, wbi0, Classical.not_not, w32_id] at c5); (try (rw [w32_id (x := x_and (F 7 7) (x_shl 1 0)) (x_and_r _ _).1 (x_and_r _ _).2] at c5)); (try (rw [w32_id (x := x_and (F 7 7) (x_shl 1 1)) (x_and_r _ _).1 (x_and_r _ _).2] at c5))
            refine ⟨by first | omega | (simp only [ifz0, ifz1]; omega), ?_⟩
            unfold rdS at h
            first
            | (rw [if_neg (by intro z; rcases z with z | z <;> contradiction)] at h
               exact FA_eq h rfl (by first | exact upF_id rfl | (simp only [tkS_up, tkS_S]; done) | (rw [fput_r (show (8 : Nat) ≠ 4 by decide)]; simp only [tkS_up, tkS_S]; done)) (by first | exact r4_A | exact (fput_r4 (by omega) (by omega)).symm))
            | (rw [if_pos (by first | exact Or.inl (by assumption) | exact Or.inr (by assumption))] at h
               first
               | (have hs : stI (nxT (A 8) (F 7 2) (tkF F)) = 0 := by unfold stI; exact if_pos (by assumption)
                  rw [hs] at h
                  first
                  | (rw [if_neg (by first | assumption | exact c3 | exact c4 | exact c5)] at h; exact FA_eq h rfl (by first | exact upF_id rfl | (simp only [tkS_up, tkS_S]; done) | (rw [fput_r (show (8 : Nat) ≠ 4 by decide)]; simp only [tkS_up, tkS_S]; done)) (by first | exact r4_A | exact (fput_r4 (by omega) (by omega)).symm))
                  | (rw [if_pos (by first | assumption | exact c3 | exact c4 | exact c5)] at h
                     first
                     | (rw [if_neg (by first | assumption | exact c3 | exact c4 | exact c5)] at h; exact FA_eq h rfl (by first | exact upF_id rfl | (simp only [tkS_up, tkS_S]; done) | (rw [fput_r (show (8 : Nat) ≠ 4 by decide)]; simp only [tkS_up, tkS_S]; done)) (by first | exact r4_A | exact (fput_r4 (by omega) (by omega)).symm))
                     | (rw [if_pos (by first | assumption | exact c3 | exact c4 | exact c5)] at h; exact FA_eq h rfl (by first | exact upF_id rfl | (simp only [tkS_up, tkS_S]; done) | (rw [fput_r (show (8 : Nat) ≠ 4 by decide)]; simp only [tkS_up, tkS_S]; done)) (by first | exact r4_A | exact (fput_r4 (by omega) (by omega)).symm))))
               | (have hs : stI (nxT (A 8) (F 7 2) (tkF F)) = 1 := by unfold stI; exact if_neg (by assumption)
                  rw [hs] at h
                  first
                  | (rw [if_neg (by first | assumption | exact c3 | exact c4 | exact c5)] at h; exact FA_eq h rfl (by first | exact upF_id rfl | (simp only [tkS_up, tkS_S]; done) | (rw [fput_r (show (8 : Nat) ≠ 4 by decide)]; simp only [tkS_up, tkS_S]; done)) (by first | exact r4_A | exact (fput_r4 (by omega) (by omega)).symm))
                  | (rw [if_pos (by first | assumption | exact c3 | exact c4 | exact c5)] at h
                     first
                     | (rw [if_neg (by first | assumption | exact c3 | exact c4 | exact c5)] at h; exact FA_eq h rfl (by first | exact upF_id rfl | (simp only [tkS_up, tkS_S]; done) | (rw [fput_r (show (8 : Nat) ≠ 4 by decide)]; simp only [tkS_up, tkS_S]; done)) (by first | exact r4_A | exact (fput_r4 (by omega) (by omega)).symm))
                     | (rw [if_pos (by first | assumption | exact c3 | exact c4 | exact c5)] at h; exact FA_eq h rfl (by first | exact upF_id rfl | (simp only [tkS_up, tkS_S]; done) | (rw [fput_r (show (8 : Nat) ≠ 4 by decide)]; simp only [tkS_up, tkS_S]; done)) (by first | exact r4_A | exact (fput_r4 (by omega) (by omega)).symm)))))
          · skip
            (try simp only [ifz0, ifz1] at c5); (try simp (disch := omega) only [w32_0, wbi0, Classical.not_not, w32_id] at c5); (try (rw [w32_id (x := x_and (F 7 7) (x_shl 1 0)) (x_and_r _ _).1 (x_and_r _ _).2] at c5)); (try (rw [w32_id (x := x_and (F 7 7) (x_shl 1 1)) (x_and_r _ _).1 (x_and_r _ _).2] at c5))
            unfold rdS at h
            first
            | (rw [if_neg (by intro z; rcases z with z | z <;> contradiction)] at h
               exact FA_eq h rfl (by first | exact upF_id rfl | (simp only [tkS_up, tkS_S]; done) | (rw [fput_r (show (8 : Nat) ≠ 4 by decide)]; simp only [tkS_up, tkS_S]; done)) (by first | exact r4_A | exact (fput_r4 (by omega) (by omega)).symm))
            | (rw [if_pos (by first | exact Or.inl (by assumption) | exact Or.inr (by assumption))] at h
               first
               | (have hs : stI (nxT (A 8) (F 7 2) (tkF F)) = 0 := by unfold stI; exact if_pos (by assumption)
                  rw [hs] at h
                  first
                  | (rw [if_neg (by first | assumption | exact c3 | exact c4 | exact c5)] at h; exact FA_eq h rfl (by first | exact upF_id rfl | (simp only [tkS_up, tkS_S]; done) | (rw [fput_r (show (8 : Nat) ≠ 4 by decide)]; simp only [tkS_up, tkS_S]; done)) (by first | exact r4_A | exact (fput_r4 (by omega) (by omega)).symm))
                  | (rw [if_pos (by first | assumption | exact c3 | exact c4 | exact c5)] at h
                     first
                     | (rw [if_neg (by first | assumption | exact c3 | exact c4 | exact c5)] at h; exact FA_eq h rfl (by first | exact upF_id rfl | (simp only [tkS_up, tkS_S]; done) | (rw [fput_r (show (8 : Nat) ≠ 4 by decide)]; simp only [tkS_up, tkS_S]; done)) (by first | exact r4_A | exact (fput_r4 (by omega) (by omega)).symm))
                     | (rw [if_pos (by first | assumption | exact c3 | exact c4 | exact c5)] at h; exact FA_eq h rfl (by first | exact upF_id rfl | (simp only [tkS_up, tkS_S]; done) | (rw [fput_r (show (8 : Nat) ≠ 4 by decide)]; simp only [tkS_up, tkS_S]; done)) (by first | exact r4_A | exact (fput_r4 (by omega) (by omega)).symm))))
               | (have hs : stI (nxT (A 8) (F 7 2) (tkF F)) = 1 := by unfold stI; exact if_neg (by assumption)
                  rw [hs] at h
                  first
                  | (rw [if_neg (by first | assumption | exact c3 | exact c4 | exact c5)] at h; exact FA_eq h rfl (by first | exact upF_id rfl | (simp only [tkS_up, tkS_S]; done) | (rw [fput_r (show (8 : Nat) ≠ 4 by decide)]; simp only [tkS_up, tkS_S]; done)) (by first | exact r4_A | exact (fput_r4 (by omega) (by omega)).symm))
                  | (rw [if_pos (by first | assumption | exact c3 | exact c4 | exact c5)] at h
                     first
                     | (rw [if_neg (by first | assumption | exact c3 | exact c4 | exact c5)] at h; exact FA_eq h rfl (by first | exact upF_id rfl | (simp only [tkS_up, tkS_S]; done) | (rw [fput_r (show (8 : Nat) ≠ 4 by decide)]; simp only [tkS_up, tkS_S]; done)) (by first | exact r4_A | exact (fput_r4 (by omega) (by omega)).symm))
                     | (rw [if_pos (by first | assumption | exact c3 | exact c4 | exact c5)] at h; exact FA_eq h rfl (by first | exact upF_id rfl | (simp only [tkS_up, tkS_S]; done) | (rw [fput_r (show (8 : Nat) ≠ 4 by decide)]; simp only [tkS_up, tkS_S]; done)) (by first | exact r4_A | exact (fput_r4 (by omega) (by omega)).symm)))))
        · skip
          (try simp only [ifz0, ifz1] at c4); (try simp (disch := omega) only [w32_0, wbi0, Classical.not_not, w32_id] at c4); (try (rw [w32_id (x := x_and (F 7 7) (x_shl 1 0)) (x_and_r _ _).1 (x_and_r _ _).2] at c4)); (try (rw [w32_id (x := x_and (F 7 7) (x_shl 1 1)) (x_and_r _ _).1 (x_and_r _ _).2] at c4))
          unfold rdS at h
          first
          | (rw [if_neg (by intro z; rcases z with z | z <;> contradiction)] at h
             exact FA_eq h rfl (by first | exact upF_id rfl | (simp only [tkS_up, tkS_S]; done) | (rw [fput_r (show (8 : Nat) ≠ 4 by decide)]; simp only [tkS_up, tkS_S]; done)) (by first | exact r4_A | exact (fput_r4 (by omega) (by omega)).symm))
          | (rw [if_pos (by first | exact Or.inl (by assumption) | exact Or.inr (by assumption))] at h
             first
             | (have hs : stI (nxT (A 8) (F 7 2) (tkF F)) = 0 := by unfold stI; exact if_pos (by assumption)
                rw [hs] at h
                first
                | (rw [if_neg (by first | assumption | exact c3 | exact c4 | exact c5)] at h; exact FA_eq h rfl (by first | exact upF_id rfl | (simp only [tkS_up, tkS_S]; done) | (rw [fput_r (show (8 : Nat) ≠ 4 by decide)]; simp only [tkS_up, tkS_S]; done)) (by first | exact r4_A | exact (fput_r4 (by omega) (by omega)).symm))
                | (rw [if_pos (by first | assumption | exact c3 | exact c4 | exact c5)] at h
                   first
                   | (rw [if_neg (by first | assumption | exact c3 | exact c4 | exact c5)] at h; exact FA_eq h rfl (by first | exact upF_id rfl | (simp only [tkS_up, tkS_S]; done) | (rw [fput_r (show (8 : Nat) ≠ 4 by decide)]; simp only [tkS_up, tkS_S]; done)) (by first | exact r4_A | exact (fput_r4 (by omega) (by omega)).symm))
                   | (rw [if_pos (by first | assumption | exact c3 | exact c4 | exact c5)] at h; exact FA_eq h rfl (by first | exact upF_id rfl | (simp only [tkS_up, tkS_S]; done) | (rw [fput_r (show (8 : Nat) ≠ 4 by decide)]; simp only [tkS_up, tkS_S]; done)) (by first | exact r4_A | exact (fput_r4 (by omega) (by omega)).symm))))
             | (have hs : stI (nxT (A 8) (F 7 2) (tkF F)) = 1 := by unfold stI; exact if_neg (by assumption)
                rw [hs] at h
                first
                | (rw [if_neg (by first | assumption | exact c3 | exact c4 | exact c5)] at h; exact FA_eq h rfl (by first | exact upF_id rfl | (simp only [tkS_up, tkS_S]; done) | (rw [fput_r (show (8 : Nat) ≠ 4 by decide)]; simp only [tkS_up, tkS_S]; done)) (by first | exact r4_A | exact (fput_r4 (by omega) (by omega)).symm))
                | (rw [if_pos (by first | assumption | exact c3 | exact c4 | exact c5)] at h
                   first
                   | (rw [if_neg (by first | assumption | exact c3 | exact c4 | exact c5)] at h; exact FA_eq h rfl (by first | exact upF_id rfl | (simp only [tkS_up, tkS_S]; done) | (rw [fput_r (show (8 : Nat) ≠ 4 by decide)]; simp only [tkS_up, tkS_S]; done)) (by first | exact r4_A | exact (fput_r4 (by omega) (by omega)).symm))
                   | (rw [if_pos (by first | assumption | exact c3 | exact c4 | exact c5)] at h; exact FA_eq h rfl (by first | exact upF_id rfl | (simp only [tkS_up, tkS_S]; done) | (rw [fput_r (show (8 : Nat) ≠ 4 by decide)]; simp only [tkS_up, tkS_S]; done)) (by first | exact r4_A | exact (fput_r4 (by omega) (by omega)).symm)))))
      · skip
        (try simp only [ifz0, ifz1] at c3); (try simp (disch := omega) only [w32_0, wbi0, Classical.not_not, w32_id] at c3); (try (rw [w32_id (x := x_and (F 7 7) (x_shl 1 0)) (x_and_r _ _).1 (x_and_r _ _).2] at c3)); (try (rw [w32_id (x := x_and (F 7 7) (x_shl 1 1)) (x_and_r _ _).1 (x_and_r _ _).2] at c3))
        refine ⟨fun c4 => ?_, fun c4 => ?_⟩
        · skip
          (try simp only [ifz0, ifz1] at c4); (try simp (disch := omega) only [w32_0, wbi0, Classical.not_not, w32_id] at c4); (try (rw [w32_id (x := x_and (F 7 7) (x_shl 1 0)) (x_and_r _ _).1 (x_and_r _ _).2] at c4)); (try (rw [w32_id (x := x_and (F 7 7) (x_shl 1 1)) (x_and_r _ _).1 (x_and_r _ _).2] at c4))
          refine ⟨by first | omega | (simp only [ifz0, ifz1]; omega), ?_⟩
          refine ⟨by first | omega | (simp only [ifz0, ifz1]; omega), ?_⟩
          refine ⟨fun c5 => ?_, fun c5 => ?_⟩
          · skip
            (try simp only [ifz0, ifz1] at c5); (try simp (disch := omega) only [w32_0, wbi0, Classical.not_not, w32_id] at c5); (try (rw [w32_id (x := x_and (F 7 7) (x_shl 1 0)) (x_and_r _ _).1 (x_and_r _ _).2] at c5)); (try (rw [w32_id (x := x_and (F 7 7) (x_shl 1 1)) (x_and_r _ _).1 (x_and_r _ _).2] at c5))
            refine ⟨by first | omega | (simp only [ifz0, ifz1]; omega), ?_⟩
            unfold rdS at h
            first
            | (rw [if_neg (by intro z; rcases z with z | z <;> contradiction)] at h
               exact FA_eq h rfl (by first | exact upF_id rfl | (simp only [tkS_up, tkS_S]; done) | (rw [fput_r (show (8 : Nat) ≠ 4 by decide)]; simp only [tkS_up, tkS_S]; done)) (by first | exact r4_A | exact (fput_r4 (by omega) (by omega)).symm))
            | (rw [if_pos (by first | exact Or.inl (by assumption) | exact Or.inr (by assumption))] at h
               first
               | (have hs : stI (nxT (A 8) (F 7 2) (tkF F)) = 0 := by unfold stI; exact if_pos (by assumption)
                  rw [hs] at h
                  first
                  | (rw [if_neg (by first | assumption | exact c3 | exact c4 | exact c5)] at h; exact FA_eq h rfl (by first | exact upF_id rfl | (simp only [tkS_up, tkS_S]; done) | (rw [fput_r (show (8 : Nat) ≠ 4 by decide)]; simp only [tkS_up, tkS_S]; done)) (by first | exact r4_A | exact (fput_r4 (by omega) (by omega)).symm))
                  | (rw [if_pos (by first | assumption | exact c3 | exact c4 | exact c5)] at h
                     first
                     | (rw [if_neg (by first | assumption | exact c3 | exact c4 | exact c5)] at h; exact FA_eq h rfl (by first | exact upF_id rfl | (simp only [tkS_up, tkS_S]; done) | (rw [fput_r (show (8 : Nat) ≠ 4 by decide)]; simp only [tkS_up, tkS_S]; done)) (by first | exact r4_A | exact (fput_r4 (by omega) (by omega)).symm))
                     | (rw [if_pos (by first | assumption | exact c3 | exact c4 | exact c5)] at h; exact FA_eq h rfl (by first | exact upF_id rfl | (simp only [tkS_up, tkS_S]; done) | (rw [fput_r (show (8 : Nat) ≠ 4 by decide)]; simp only [tkS_up, tkS_S]; done)) (by first | exact r4_A | exact (fput_r4 (by omega) (by omega)).symm))))
               | (have hs : stI (nxT (A 8) (F 7 2) (tkF F)) = 1 := by unfold stI; exact if_neg (by assumption)
                  rw [hs] at h
                  first
                  | (rw [if_neg (by first | assumption | exact c3 | exact c4 | exact c5)] at h; exact FA_eq h rfl (by first | exact upF_id rfl | (simp only [tkS_up, tkS_S]; done) | (rw [fput_r (show (8 : Nat) ≠ 4 by decide)]; simp only [tkS_up, tkS_S]; done)) (by first | exact r4_A | exact (fput_r4 (by omega) (by omega)).symm))
                  | (rw [if_pos (by first | assumption | exact c3 | exact c4 | exact c5)] at h
                     first
                     | (rw [if_neg (by first | assumption | exact c3 | exact c4 | exact c5)] at h; exact FA_eq h rfl (by first | exact upF_id rfl | (simp only [tkS_up, tkS_S]; done) | (rw [fput_r (show (8 : Nat) ≠ 4 by decide)]; simp only [tkS_up, tkS_S]; done)) (by first | exact r4_A | exact (fput_r4 (by omega) (by omega)).symm))
                     | (rw [if_pos (by first | assumption | exact c3 | exact c4 | exact c5)] at h; exact FA_eq h rfl (by first | exact upF_id rfl | (simp only [tkS_up, tkS_S]; done) | (rw [fput_r (show (8 : Nat) ≠ 4 by decide)]; simp only [tkS_up, tkS_S]; done)) (by first | exact r4_A | exact (fput_r4 (by omega) (by omega)).symm)))))
          · skip
            (try simp only [ifz0, ifz1] at c5); (try simp (disch := omega) only [w32_0, wbi0, Classical.not_not, w32_id] at c5); (try (rw [w32_id (x := x_and (F 7 7) (x_shl 1 0)) (x_and_r _ _).1 (x_and_r _ _).2] at c5)); (try (rw [w32_id (x := x_and (F 7 7) (x_shl 1 1)) (x_and_r _ _).1 (x_and_r _ _).2] at c5))
            unfold rdS at h
            first
            | (rw [if_neg (by intro z; rcases z with z | z <;> contradiction)] at h
               exact FA_eq h rfl (by first | exact upF_id rfl | (simp only [tkS_up, tkS_S]; done) | (rw [fput_r (show (8 : Nat) ≠ 4 by decide)]; simp only [tkS_up, tkS_S]; done)) (by first | exact r4_A | exact (fput_r4 (by omega) (by omega)).symm))
            | (rw [if_pos (by first | exact Or.inl (by assumption) | exact Or.inr (by assumption))] at h
               first
               | (have hs : stI (nxT (A 8) (F 7 2) (tkF F)) = 0 := by unfold stI; exact if_pos (by assumption)
                  rw [hs] at h
                  first
                  | (rw [if_neg (by first | assumption | exact c3 | exact c4 | exact c5)] at h; exact FA_eq h rfl (by first | exact upF_id rfl | (simp only [tkS_up, tkS_S]; done) | (rw [fput_r (show (8 : Nat) ≠ 4 by decide)]; simp only [tkS_up, tkS_S]; done)) (by first | exact r4_A | exact (fput_r4 (by omega) (by omega)).symm))
                  | (rw [if_pos (by first | assumption | exact c3 | exact c4 | exact c5)] at h
                     first
                     | (rw [if_neg (by first | assumption | exact c3 | exact c4 | exact c5)] at h; exact FA_eq h rfl (by first | exact upF_id rfl | (simp only [tkS_up, tkS_S]; done) | (rw [fput_r (show (8 : Nat) ≠ 4 by decide)]; simp only [tkS_up, tkS_S]; done)) (by first | exact r4_A | exact (fput_r4 (by omega) (by omega)).symm))
                     | (rw [if_pos (by first | assumption | exact c3 | exact c4 | exact c5)] at h; exact FA_eq h rfl (by first | exact upF_id rfl | (simp only [tkS_up, tkS_S]; done) | (rw [fput_r (show (8 : Nat) ≠ 4 by decide)]; simp only [tkS_up, tkS_S]; done)) (by first | exact r4_A | exact (fput_r4 (by omega) (by omega)).symm))))
               | (have hs : stI (nxT (A 8) (F 7 2) (tkF F)) = 1 := by unfold stI; exact if_neg (by assumption)
                  rw [hs] at h
                  first
                  | (rw [if_neg (by first | assumption | exact c3 | exact c4 | exact c5)] at h; exact FA_eq h rfl (by first | exact upF_id rfl | (simp only [tkS_up, tkS_S]; done) | (rw [fput_r (show (8 : Nat) ≠ 4 by decide)]; simp only [tkS_up, tkS_S]; done)) (by first | exact r4_A | exact (fput_r4 (by omega) (by omega)).symm))
                  | (rw [if_pos (by first | assumption | exact c3 | exact c4 | exact c5)] at h
                     first
                     | (rw [if_neg (by first | assumption | exact c3 | exact c4 | exact c5)] at h; exact FA_eq h rfl (by first | exact upF_id rfl | (simp only [tkS_up, tkS_S]; done) | (rw [fput_r (show (8 : Nat) ≠ 4 by decide)]; simp only [tkS_up, tkS_S]; done)) (by first | exact r4_A | exact (fput_r4 (by omega) (by omega)).symm))
                     | (rw [if_pos (by first | assumption | exact c3 | exact c4 | exact c5)] at h; exact FA_eq h rfl (by first | exact upF_id rfl | (simp only [tkS_up, tkS_S]; done) | (rw [fput_r (show (8 : Nat) ≠ 4 by decide)]; simp only [tkS_up, tkS_S]; done)) (by first | exact r4_A | exact (fput_r4 (by omega) (by omega)).symm)))))
        · skip
          (try simp only [ifz0, ifz1] at c4); (try simp (disch := omega) only [w32_0, wbi0, Classical.not_not, w32_id] at c4); (try (rw [w32_id (x := x_and (F 7 7) (x_shl 1 0)) (x_and_r _ _).1 (x_and_r _ _).2] at c4)); (try (rw [w32_id (x := x_and (F 7 7) (x_shl 1 1)) (x_and_r _ _).1 (x_and_r _ _).2] at c4))
          unfold rdS at h
          first
          | (rw [if_neg (by intro z; rcases z with z | z <;> contradiction)] at h
             exact FA_eq h rfl (by first | exact upF_id rfl | (simp only [tkS_up, tkS_S]; done) | (rw [fput_r (show (8 : Nat) ≠ 4 by decide)]; simp only [tkS_up, tkS_S]; done)) (by first | exact r4_A | exact (fput_r4 (by omega) (by omega)).symm))
          | (rw [if_pos (by first | exact Or.inl (by assumption) | exact Or.inr (by assumption))] at h
             first
             | (have hs : stI (nxT (A 8) (F 7 2) (tkF F)) = 0 := by unfold stI; exact if_pos (by assumption)
                rw [hs] at h
                first
                | (rw [if_neg (by first | assumption | exact c3 | exact c4 | exact c5)] at h; exact FA_eq h rfl (by first | exact upF_id rfl | (simp only [tkS_up, tkS_S]; done) | (rw [fput_r (show (8 : Nat) ≠ 4 by decide)]; simp only [tkS_up, tkS_S]; done)) (by first | exact r4_A | exact (fput_r4 (by omega) (by omega)).symm))
                | (rw [if_pos (by first | assumption | exact c3 | exact c4 | exact c5)] at h
                   first
                   | (rw [if_neg (by first | assumption | exact c3 | exact c4 | exact c5)] at h; exact FA_eq h rfl (by first | exact upF_id rfl | (simp only [tkS_up, tkS_S]; done) | (rw [fput_r (show (8 : Nat) ≠ 4 by decide)]; simp only [tkS_up, tkS_S]; done)) (by first | exact r4_A | exact (fput_r4 (by omega) (by omega)).symm))
                   | (rw [if_pos (by first | assumption | exact c3 | exact c4 | exact c5)] at h; exact FA_eq h rfl (by first | exact upF_id rfl | (simp only [tkS_up, tkS_S]; done) | (rw [fput_r (show (8 : Nat) ≠ 4 by decide)]; simp only [tkS_up, tkS_S]; done)) (by first | exact r4_A | exact (fput_r4 (by omega) (by omega)).symm))))
             | (have hs : stI (nxT (A 8) (F 7 2) (tkF F)) = 1 := by unfold stI; exact if_neg (by assumption)
                rw [hs] at h
                first
                | (rw [if_neg (by first | assumption | exact c3 | exact c4 | exact c5)] at h; exact FA_eq h rfl (by first | exact upF_id rfl | (simp only [tkS_up, tkS_S]; done) | (rw [fput_r (show (8 : Nat) ≠ 4 by decide)]; simp only [tkS_up, tkS_S]; done)) (by first | exact r4_A | exact (fput_r4 (by omega) (by omega)).symm))
                | (rw [if_pos (by first | assumption | exact c3 | exact c4 | exact c5)] at h
                   first
                   | (rw [if_neg (by first | assumption | exact c3 | exact c4 | exact c5)] at h; exact FA_eq h rfl (by first | exact upF_id rfl | (simp only [tkS_up, tkS_S]; done) | (rw [fput_r (show (8 : Nat) ≠ 4 by decide)]; simp only [tkS_up, tkS_S]; done)) (by first | exact r4_A | exact (fput_r4 (by omega) (by omega)).symm))
                   | (rw [if_pos (by first | assumption | exact c3 | exact c4 | exact c5)] at h; exact FA_eq h rfl (by first | exact upF_id rfl | (simp only [tkS_up, tkS_S]; done) | (rw [fput_r (show (8 : Nat) ≠ 4 by decide)]; simp only [tkS_up, tkS_S]; done)) (by first | exact r4_A | exact (fput_r4 (by omega) (by omega)).symm)))))
  · skip
    (try simp only [ifz0, ifz1] at c1); (try simp (disch := omega) only [w32_0, wbi0, Classical.not_not, w32_id] at c1); (try (rw [w32_id (x := x_and (F 7 7) (x_shl 1 0)) (x_and_r _ _).1 (x_and_r _ _).2] at c1)); (try (rw [w32_id (x := x_and (F 7 7) (x_shl 1 1)) (x_and_r _ _).1 (x_and_r _ _).2] at c1))
    refine ⟨fun c2 => ?_, fun c2 => ?_⟩
    · skip
      (try simp only [ifz0, ifz1] at c2); (try simp (disch := omega) only [w32_0, wbi0, Classical.not_not, w32_id] at c2); (try (rw [w32_id (x := x_and (F 7 7) (x_shl 1 0)) (x_and_r _ _).1 (x_and_r _ _).2] at c2)); (try (rw [w32_id (x := x_and (F 7 7) (x_shl 1 1)) (x_and_r _ _).1 (x_and_r _ _).2] at c2))
      refine ⟨fun c3 => ?_, fun c3 => ?_⟩
      · skip
        (try simp only [ifz0, ifz1] at c3); (try simp (disch := omega) only [w32_0, wbi0, Classical.not_not, w32_id] at c3); (try (rw [w32_id (x := x_and (F 7 7) (x_shl 1 0)) (x_and_r _ _).1 (x_and_r _ _).2] at c3)); (try (rw [w32_id (x := x_and (F 7 7) (x_shl 1 1)) (x_and_r _ _).1 (x_and_r _ _).2] at c3))
        refine ⟨by first | omega | (simp only [ifz0, ifz1]; omega), ?_⟩
        refine ⟨by first | omega | (simp only [ifz0, ifz1]; omega), ?_⟩
        refine ⟨fun c4 => ?_, fun c4 => ?_⟩
        · skip
          (try simp only [ifz0, ifz1] at c4); (try simp (disch := omega) only [w32_0, wbi0, Classical.not_not, w32_id] at c4); (try (rw [w32_id (x := x_and (F 7 7) (x_shl 1 0)) (x_and_r _ _).1 (x_and_r _ _).2] at c4)); (try (rw [w32_id (x := x_and (F 7 7) (x_shl 1 1)) (x_and_r _ _).1 (x_and_r _ _).2] at c4))
          refine ⟨by first | omega | (simp only [ifz0, ifz1]; omega), ?_⟩
          unfold rdS at h
          first
          | (rw [if_neg (by intro z; rcases z with z | z <;> contradiction)] at h
             exact FA_eq h rfl (by first | exact upF_id rfl | (simp only [tkS_up, tkS_S]; done) | (rw [fput_r (show (8 : Nat) ≠ 4 by decide)]; simp only [tkS_up, tkS_S]; done)) (by first | exact r4_A | exact (fput_r4 (by omega) (by omega)).symm))
          | (rw [if_pos (by first | exact Or.inl (by assumption) | exact Or.inr (by assumption))] at h
             first
             | (have hs : stI (nxT (A 8) (F 7 2) (tkF F)) = 0 := by unfold stI; exact if_pos (by assumption)
                rw [hs] at h
                first
                | (rw [if_neg (by first | assumption | exact c3 | exact c4 | exact c5)] at h; exact FA_eq h rfl (by first | exact upF_id rfl | (simp only [tkS_up, tkS_S]; done) | (rw [fput_r (show (8 : Nat) ≠ 4 by decide)]; simp only [tkS_up, tkS_S]; done)) (by first | exact r4_A | exact (fput_r4 (by omega) (by omega)).symm))
                | (rw [if_pos (by first | assumption | exact c3 | exact c4 | exact c5)] at h
                   first
                   | (rw [if_neg (by first | assumption | exact c3 | exact c4 | exact c5)] at h; exact FA_eq h rfl (by first | exact upF_id rfl | (simp only [tkS_up, tkS_S]; done) | (rw [fput_r (show (8 : Nat) ≠ 4 by decide)]; simp only [tkS_up, tkS_S]; done)) (by first | exact r4_A | exact (fput_r4 (by omega) (by omega)).symm))
                   | (rw [if_pos (by first | assumption | exact c3 | exact c4 | exact c5)] at h; exact FA_eq h rfl (by first | exact upF_id rfl | (simp only [tkS_up, tkS_S]; done) | (rw [fput_r (show (8 : Nat) ≠ 4 by decide)]; simp only [tkS_up, tkS_S]; done)) (by first | exact r4_A | exact (fput_r4 (by omega) (by omega)).symm))))
             | (have hs : stI (nxT (A 8) (F 7 2) (tkF F)) = 1 := by unfold stI; exact if_neg (by assumption)
                rw [hs] at h
                first
                | (rw [if_neg (by first | assumption | exact c3 | exact c4 | exact c5)] at h; exact FA_eq h rfl (by first | exact upF_id rfl | (simp only [tkS_up, tkS_S]; done) | (rw [fput_r (show (8 : Nat) ≠ 4 by decide)]; simp only [tkS_up, tkS_S]; done)) (by first | exact r4_A | exact (fput_r4 (by omega) (by omega)).symm))
                | (rw [if_pos (by first | assumption | exact c3 | exact c4 | exact c5)] at h
                   first
                   | (rw [if_neg (by first | assumption | exact c3 | exact c4 | exact c5)] at h; exact FA_eq h rfl (by first | exact upF_id rfl | (simp only [tkS_up, tkS_S]; done) | (rw [fput_r (show (8 : Nat) ≠ 4 by decide)]; simp only [tkS_up, tkS_S]; done)) (by first | exact r4_A | exact (fput_r4 (by omega) (by omega)).symm))
                   | (rw [if_pos (by first | assumption | exact c3 | exact c4 | exact c5)] at h; exact FA_eq h rfl (by first | exact upF_id rfl | (simp only [tkS_up, tkS_S]; done) | (rw [fput_r (show (8 : Nat) ≠ 4 by decide)]; simp only [tkS_up, tkS_S]; done)) (by first | exact r4_A | exact (fput_r4 (by omega) (by omega)).symm)))))
        · skip
          (try simp only [ifz0, ifz1] at c4); (try simp (disch := omega) only [w32_0, wbi0, Classical.not_not, w32_id] at c4); (try (rw [w32_id (x := x_and (F 7 7) (x_shl 1 0)) (x_and_r _ _).1 (x_and_r _ _).2] at c4)); (try (rw [w32_id (x := x_and (F 7 7) (x_shl 1 1)) (x_and_r _ _).1 (x_and_r _ _).2] at c4))
          unfold rdS at h
          first
          | (rw [if_neg (by intro z; rcases z with z | z <;> contradiction)] at h
             exact FA_eq h rfl (by first | exact upF_id rfl | (simp only [tkS_up, tkS_S]; done) | (rw [fput_r (show (8 : Nat) ≠ 4 by decide)]; simp only [tkS_up, tkS_S]; done)) (by first | exact r4_A | exact (fput_r4 (by omega) (by omega)).symm))
          | (rw [if_pos (by first | exact Or.inl (by assumption) | exact Or.inr (by assumption))] at h
             first
             | (have hs : stI (nxT (A 8) (F 7 2) (tkF F)) = 0 := by unfold stI; exact if_pos (by assumption)
                rw [hs] at h
                first
                | (rw [if_neg (by first | assumption | exact c3 | exact c4 | exact c5)] at h; exact FA_eq h rfl (by first | exact upF_id rfl | (simp only [tkS_up, tkS_S]; done) | (rw [fput_r (show (8 : Nat) ≠ 4 by decide)]; simp only [tkS_up, tkS_S]; done)) (by first | exact r4_A | exact (fput_r4 (by omega) (by omega)).symm))
                | (rw [if_pos (by first | assumption | exact c3 | exact c4 | exact c5)] at h
                   first
                   | (rw [if_neg (by first | assumption | exact c3 | exact c4 | exact c5)] at h; exact FA_eq h rfl (by first | exact upF_id rfl | (simp only [tkS_up, tkS_S]; done) | (rw [fput_r (show (8 : Nat) ≠ 4 by decide)]; simp only [tkS_up, tkS_S]; done)) (by first | exact r4_A | exact (fput_r4 (by omega) (by omega)).symm))
                   | (rw [if_pos (by first | assumption | exact c3 | exact c4 | exact c5)] at h; exact FA_eq h rfl (by first | exact upF_id rfl | (simp only [tkS_up, tkS_S]; done) | (rw [fput_r (show (8 : Nat) ≠ 4 by decide)]; simp only [tkS_up, tkS_S]; done)) (by first | exact r4_A | exact (fput_r4 (by omega) (by omega)).symm))))
             | (have hs : stI (nxT (A 8) (F 7 2) (tkF F)) = 1 := by unfold stI; exact if_neg (by assumption)
                rw [hs] at h
                first
                | (rw [if_neg (by first | assumption | exact c3 | exact c4 | exact c5)] at h; exact FA_eq h rfl (by first | exact upF_id rfl | (simp only [tkS_up, tkS_S]; done) | (rw [fput_r (show (8 : Nat) ≠ 4 by decide)]; simp only [tkS_up, tkS_S]; done)) (by first | exact r4_A | exact (fput_r4 (by omega) (by omega)).symm))
                | (rw [if_pos (by first | assumption | exact c3 | exact c4 | exact c5)] at h
                   first
                   | (rw [if_neg (by first | assumption | exact c3 | exact c4 | exact c5)] at h; exact FA_eq h rfl (by first | exact upF_id rfl | (simp only [tkS_up, tkS_S]; done) | (rw [fput_r (show (8 : Nat) ≠ 4 by decide)]; simp only [tkS_up, tkS_S]; done)) (by first | exact r4_A | exact (fput_r4 (by omega) (by omega)).symm))
                   | (rw [if_pos (by first | assumption | exact c3 | exact c4 | exact c5)] at h; exact FA_eq h rfl (by first | exact upF_id rfl | (simp only [tkS_up, tkS_S]; done) | (rw [fput_r (show (8 : Nat) ≠ 4 by decide)]; simp only [tkS_up, tkS_S]; done)) (by first | exact r4_A | exact (fput_r4 (by omega) (by omega)).symm)))))
      · skip
        (try simp only [ifz0, ifz1] at c3); (try simp (disch := omega) only [w32_0, wbi0, Classical.not_not, w32_id] at c3); (try (rw [w32_id (x := x_and (F 7 7) (x_shl 1 0)) (x_and_r _ _).1 (x_and_r _ _).2] at c3)); (try (rw [w32_id (x := x_and (F 7 7) (x_shl 1 1)) (x_and_r _ _).1 (x_and_r _ _).2] at c3))
        unfold rdS at h
        first
        | (rw [if_neg (by intro z; rcases z with z | z <;> contradiction)] at h
           exact FA_eq h rfl (by first | exact upF_id rfl | (simp only [tkS_up, tkS_S]; done) | (rw [fput_r (show (8 : Nat) ≠ 4 by decide)]; simp only [tkS_up, tkS_S]; done)) (by first | exact r4_A | exact (fput_r4 (by omega) (by omega)).symm))
        | (rw [if_pos (by first | exact Or.inl (by assumption) | exact Or.inr (by assumption))] at h
           first
           | (have hs : stI (nxT (A 8) (F 7 2) (tkF F)) = 0 := by unfold stI; exact if_pos (by assumption)
              rw [hs] at h
              first
              | (rw [if_neg (by first | assumption | exact c3 | exact c4 | exact c5)] at h; exact FA_eq h rfl (by first | exact upF_id rfl | (simp only [tkS_up, tkS_S]; done) | (rw [fput_r (show (8 : Nat) ≠ 4 by decide)]; simp only [tkS_up, tkS_S]; done)) (by first | exact r4_A | exact (fput_r4 (by omega) (by omega)).symm))
              | (rw [if_pos (by first | assumption | exact c3 | exact c4 | exact c5)] at h
                 first
                 | (rw [if_neg (by first | assumption | exact c3 | exact c4 | exact c5)] at h; exact FA_eq h rfl (by first | exact upF_id rfl | (simp only [tkS_up, tkS_S]; done) | (rw [fput_r (show (8 : Nat) ≠ 4 by decide)]; simp only [tkS_up, tkS_S]; done)) (by first | exact r4_A | exact (fput_r4 (by omega) (by omega)).symm))
                 | (rw [if_pos (by first | assumption | exact c3 | exact c4 | exact c5)] at h; exact FA_eq h rfl (by first | exact upF_id rfl | (simp only [tkS_up, tkS_S]; done) | (rw [fput_r (show (8 : Nat) ≠ 4 by decide)]; simp only [tkS_up, tkS_S]; done)) (by first | exact r4_A | exact (fput_r4 (by omega) (by omega)).symm))))
           | (have hs : stI (nxT (A 8) (F 7 2) (tkF F)) = 1 := by unfold stI; exact if_neg (by assumption)
              rw [hs] at h
              first
              | (rw [if_neg (by first | assumption | exact c3 | exact c4 | exact c5)] at h; exact FA_eq h rfl (by first | exact upF_id rfl | (simp only [tkS_up, tkS_S]; done) | (rw [fput_r (show (8 : Nat) ≠ 4 by decide)]; simp only [tkS_up, tkS_S]; done)) (by first | exact r4_A | exact (fput_r4 (by omega) (by omega)).symm))
              | (rw [if_pos (by first | assumption | exact c3 | exact c4 | exact c5)] at h
                 first
                 | (rw [if_neg (by first | assumption | exact c3 | exact c4 | exact c5)] at h; exact FA_eq h rfl (by first | exact upF_id rfl | (simp only [tkS_up, tkS_S]; done) | (rw [fput_r (show (8 : Nat) ≠ 4 by decide)]; simp only [tkS_up, tkS_S]; done)) (by first | exact r4_A | exact (fput_r4 (by omega) (by omega)).symm))
                 | (rw [if_pos (by first | assumption | exact c3 | exact c4 | exact c5)] at h; exact FA_eq h rfl (by first | exact upF_id rfl | (simp only [tkS_up, tkS_S]; done) | (rw [fput_r (show (8 : Nat) ≠ 4 by decide)]; simp only [tkS_up, tkS_S]; done)) (by first | exact r4_A | exact (fput_r4 (by omega) (by omega)).symm)))))
    · skip
      (try simp only [ifz0, ifz1] at c2); (try simp (disch := omega) only [w32_0, wbi0, Classical.not_not, w32_id] at c2); (try (rw [w32_id (x := x_and (F 7 7) (x_shl 1 0)) (x_and_r _ _).1 (x_and_r _ _).2] at c2)); (try (rw [w32_id (x := x_and (F 7 7) (x_shl 1 1)) (x_and_r _ _).1 (x_and_r _ _).2] at c2))
      refine ⟨fun c3 => ?_, fun c3 => ?_⟩
      · skip
        (try simp only [ifz0, ifz1] at c3); (try simp (disch := omega) only [w32_0, wbi0, Classical.not_not, w32_id] at c3); (try (rw [w32_id (x := x_and (F 7 7) (x_shl 1 0)) (x_and_r _ _).1 (x_and_r _ _).2] at c3)); (try (rw [w32_id (x := x_and (F 7 7) (x_shl 1 1)) (x_and_r _ _).1 (x_and_r _ _).2] at c3))
        refine ⟨by first | omega | (simp only [ifz0, ifz1]; omega), ?_⟩
        refine ⟨by first | omega | (simp only [ifz0, ifz1]; omega), ?_⟩
        refine ⟨fun c4 => ?_, fun c4 => ?_⟩
        · skip
          (try simp only [ifz0, ifz1] at c4); (try simp (disch := omega) only [w32_0, wbi0, Classical.not_not, w32_id] at c4); (try (rw [w32_id (x := x_and (F 7 7) (x_shl 1 0)) (x_and_r _ _).1 (x_and_r _ _).2] at c4)); (try (rw [w32_id (x := x_and (F 7 7) (x_shl 1 1)) (x_and_r _ _).1 (x_and_r _ _).2] at c4))
          refine ⟨by first | omega | (simp only [ifz0, ifz1]; omega), ?_⟩
          unfold rdS at h
          first
          | (rw [if_neg (by intro z; rcases z with z | z <;> contradiction)] at h
             exact FA_eq h rfl (by first | exact upF_id rfl | (simp only [tkS_up, tkS_S]; done) | (rw [fput_r (show (8 : Nat) ≠ 4 by decide)]; simp only [tkS_up, tkS_S]; done)) (by first | exact r4_A | exact (fput_r4 (by omega) (by omega)).symm))
          | (rw [if_pos (by first | exact Or.inl (by assumption) | exact Or.inr (by assumption))] at h
             first
             | (have hs : stI (nxT (A 8) (F 7 2) (tkF F)) = 0 := by unfold stI; exact if_pos (by assumption)
                rw [hs] at h
                first
                | (rw [if_neg (by first | assumption | exact c3 | exact c4 | exact c5)] at h; exact FA_eq h rfl (by first | exact upF_id rfl | (simp only [tkS_up, tkS_S]; done) | (rw [fput_r (show (8 : Nat) ≠ 4 by decide)]; simp only [tkS_up, tkS_S]; done)) (by first | exact r4_A | exact (fput_r4 (by omega) (by omega)).symm))
                | (rw [if_pos (by first | assumption | exact c3 | exact c4 | exact c5)] at h
                   first
                   | (rw [if_neg (by first | assumption | exact c3 | exact c4 | exact c5)] at h; exact FA_eq h rfl (by first | exact upF_id rfl | (simp only [tkS_up, tkS_S]; done) | (rw [fput_r (show (8 : Nat) ≠ 4 by decide)]; simp only [tkS_up, tkS_S]; done)) (by first | exact r4_A | exact (fput_r4 (by omega) (by omega)).symm))
                   | (rw [if_pos (by first | assumption | exact c3 | exact c4 | exact c5)] at h; exact FA_eq h rfl (by first | exact upF_id rfl | (simp only [tkS_up, tkS_S]; done) | (rw [fput_r (show (8 : Nat) ≠ 4 by decide)]; simp only [tkS_up, tkS_S]; done)) (by first | exact r4_A | exact (fput_r4 (by omega) (by omega)).symm))))
             | (have hs : stI (nxT (A 8) (F 7 2) (tkF F)) = 1 := by unfold stI; exact if_neg (by assumption)
                rw [hs] at h
                first
                | (rw [if_neg (by first | assumption | exact c3 | exact c4 | exact c5)] at h; exact FA_eq h rfl (by first | exact upF_id rfl | (simp only [tkS_up, tkS_S]; done) | (rw [fput_r (show (8 : Nat) ≠ 4 by decide)]; simp only [tkS_up, tkS_S]; done)) (by first | exact r4_A | exact (fput_r4 (by omega) (by omega)).symm))
                | (rw [if_pos (by first | assumption | exact c3 | exact c4 | exact c5)] at h
                   first
                   | (rw [if_neg (by first | assumption | exact c3 | exact c4 | exact c5)] at h; exact FA_eq h rfl (by first | exact upF_id rfl | (simp only [tkS_up, tkS_S]; done) | (rw [fput_r (show (8 : Nat) ≠ 4 by decide)]; simp only [tkS_up, tkS_S]; done)) (by first | exact r4_A | exact (fput_r4 (by omega) (by omega)).symm))
                   | (rw [if_pos (by first | assumption | exact c3 | exact c4 | exact c5)] at h; exact FA_eq h rfl (by first | exact upF_id rfl | (simp only [tkS_up, tkS_S]; done) | (rw [fput_r (show (8 : Nat) ≠ 4 by decide)]; simp only [tkS_up, tkS_S]; done)) (by first | exact r4_A | exact (fput_r4 (by omega) (by omega)).symm)))))
        · skip
          (try simp only [ifz0, ifz1] at c4); (try simp (disch := omega) only [w32_0, wbi0, Classical.not_not, w32_id] at c4); (try (rw [w32_id (x := x_and (F 7 7) (x_shl 1 0)) (x_and_r _ _).1 (x_and_r _ _).2] at c4)); (try (rw [w32_id (x := x_and (F 7 7) (x_shl 1 1)) (x_and_r _ _).1 (x_and_r _ _).2] at c4))
          unfold rdS at h
          first
          | (rw [if_neg (by intro z; rcases z with z | z <;> contradiction)] at h
             exact FA_eq h rfl (by first | exact upF_id rfl | (simp only [tkS_up, tkS_S]; done) | (rw [fput_r (show (8 : Nat) ≠ 4 by decide)]; simp only [tkS_up, tkS_S]; done)) (by first | exact r4_A | exact (fput_r4 (by omega) (by omega)).symm))
          | (rw [if_pos (by first | exact Or.inl (by assumption) | exact Or.inr (by assumption))] at h
             first
             | (have hs : stI (nxT (A 8) (F 7 2) (tkF F)) = 0 := by unfold stI; exact if_pos (by assumption)
                rw [hs] at h
                first
                | (rw [if_neg (by first | assumption | exact c3 | exact c4 | exact c5)] at h; exact FA_eq h rfl (by first | exact upF_id rfl | (simp only [tkS_up, tkS_S]; done) | (rw [fput_r (show (8 : Nat) ≠ 4 by decide)]; simp only [tkS_up, tkS_S]; done)) (by first | exact r4_A | exact (fput_r4 (by omega) (by omega)).symm))
                | (rw [if_pos (by first | assumption | exact c3 | exact c4 | exact c5)] at h
                   first
                   | (rw [if_neg (by first | assumption | exact c3 | exact c4 | exact c5)] at h; exact FA_eq h rfl (by first | exact upF_id rfl | (simp only [tkS_up, tkS_S]; done) | (rw [fput_r (show (8 : Nat) ≠ 4 by decide)]; simp only [tkS_up, tkS_S]; done)) (by first | exact r4_A | exact (fput_r4 (by omega) (by omega)).symm))
                   | (rw [if_pos (by first | assumption | exact c3 | exact c4 | exact c5)] at h; exact FA_eq h rfl (by first | exact upF_id rfl | (simp only [tkS_up, tkS_S]; done) | (rw [fput_r (show (8 : Nat) ≠ 4 by decide)]; simp only [tkS_up, tkS_S]; done)) (by first | exact r4_A | exact (fput_r4 (by omega) (by omega)).symm))))
             | (have hs : stI (nxT (A 8) (F 7 2) (tkF F)) = 1 := by unfold stI; exact if_neg (by assumption)
                rw [hs] at h
                first
                | (rw [if_neg (by first | assumption | exact c3 | exact c4 | exact c5)] at h; exact FA_eq h rfl (by first | exact upF_id rfl | (simp only [tkS_up, tkS_S]; done) | (rw [fput_r (show (8 : Nat) ≠ 4 by decide)]; simp only [tkS_up, tkS_S]; done)) (by first | exact r4_A | exact (fput_r4 (by omega) (by omega)).symm))
                | (rw [if_pos (by first | assumption | exact c3 | exact c4 | exact c5)] at h
                   first
                   | (rw [if_neg (by first | assumption | exact c3 | exact c4 | exact c5)] at h; exact FA_eq h rfl (by first | exact upF_id rfl | (simp only [tkS_up, tkS_S]; done) | (rw [fput_r (show (8 : Nat) ≠ 4 by decide)]; simp only [tkS_up, tkS_S]; done)) (by first | exact r4_A | exact (fput_r4 (by omega) (by omega)).symm))
                   | (rw [if_pos (by first | assumption | exact c3 | exact c4 | exact c5)] at h; exact FA_eq h rfl (by first | exact upF_id rfl | (simp only [tkS_up, tkS_S]; done) | (rw [fput_r (show (8 : Nat) ≠ 4 by decide)]; simp only [tkS_up, tkS_S]; done)) (by first | exact r4_A | exact (fput_r4 (by omega) (by omega)).symm)))))
      · skip
        (try simp only [ifz0, ifz1] at c3); (try simp (disch := omega) only [w32_0, wbi0, Classical.not_not, w32_id] at c3); (try (rw [w32_id (x := x_and (F 7 7) (x_shl 1 0)) (x_and_r _ _).1 (x_and_r _ _).2] at c3)); (try (rw [w32_id (x := x_and (F 7 7) (x_shl 1 1)) (x_and_r _ _).1 (x_and_r _ _).2] at c3))
        unfold rdS at h
        first
        | (rw [if_neg (by intro z; rcases z with z | z <;> contradiction)] at h
           exact FA_eq h rfl (by first | exact upF_id rfl | (simp only [tkS_up, tkS_S]; done) | (rw [fput_r (show (8 : Nat) ≠ 4 by decide)]; simp only [tkS_up, tkS_S]; done)) (by first | exact r4_A | exact (fput_r4 (by omega) (by omega)).symm))
        | (rw [if_pos (by first | exact Or.inl (by assumption) | exact Or.inr (by assumption))] at h
           first
           | (have hs : stI (nxT (A 8) (F 7 2) (tkF F)) = 0 := by unfold stI; exact if_pos (by assumption)
              rw [hs] at h
              first
              | (rw [if_neg (by first | assumption | exact c3 | exact c4 | exact c5)] at h; exact FA_eq h rfl (by first | exact upF_id rfl | (simp only [tkS_up, tkS_S]; done) | (rw [fput_r (show (8 : Nat) ≠ 4 by decide)]; simp only [tkS_up, tkS_S]; done)) (by first | exact r4_A | exact (fput_r4 (by omega) (by omega)).symm))
              | (rw [if_pos (by first | assumption | exact c3 | exact c4 | exact c5)] at h
                 first
                 | (rw [if_neg (by first | assumption | exact c3 | exact c4 | exact c5)] at h; exact FA_eq h rfl (by first | exact upF_id rfl | (simp only [tkS_up, tkS_S]; done) | (rw [fput_r (show (8 : Nat) ≠ 4 by decide)]; simp only [tkS_up, tkS_S]; done)) (by first | exact r4_A | exact (fput_r4 (by omega) (by omega)).symm))
                 | (rw [if_pos (by first | assumption | exact c3 | exact c4 | exact c5)] at h; exact FA_eq h rfl (by first | exact upF_id rfl | (simp only [tkS_up, tkS_S]; done) | (rw [fput_r (show (8 : Nat) ≠ 4 by decide)]; simp only [tkS_up, tkS_S]; done)) (by first | exact r4_A | exact (fput_r4 (by omega) (by omega)).symm))))
           | (have hs : stI (nxT (A 8) (F 7 2) (tkF F)) = 1 := by unfold stI; exact if_neg (by assumption)
              rw [hs] at h
              first
              | (rw [if_neg (by first | assumption | exact c3 | exact c4 | exact c5)] at h; exact FA_eq h rfl (by first | exact upF_id rfl | (simp only [tkS_up, tkS_S]; done) | (rw [fput_r (show (8 : Nat) ≠ 4 by decide)]; simp only [tkS_up, tkS_S]; done)) (by first | exact r4_A | exact (fput_r4 (by omega) (by omega)).symm))
              | (rw [if_pos (by first | assumption | exact c3 | exact c4 | exact c5)] at h
                 first
                 | (rw [if_neg (by first | assumption | exact c3 | exact c4 | exact c5)] at h; exact FA_eq h rfl (by first | exact upF_id rfl | (simp only [tkS_up, tkS_S]; done) | (rw [fput_r (show (8 : Nat) ≠ 4 by decide)]; simp only [tkS_up, tkS_S]; done)) (by first | exact r4_A | exact (fput_r4 (by omega) (by omega)).symm))
                 | (rw [if_pos (by first | assumption | exact c3 | exact c4 | exact c5)] at h; exact FA_eq h rfl (by first | exact upF_id rfl | (simp only [tkS_up, tkS_S]; done) | (rw [fput_r (show (8 : Nat) ≠ 4 by decide)]; simp only [tkS_up, tkS_S]; done)) (by first | exact r4_A | exact (fput_r4 (by omega) (by omega)).symm)))))
theorem qtX7_readSetting (l : Launch) : am_CT l layX qeX7_readSetting := am_met0 rfl (by decide +kernel) rfl rfl rfl rfl rfl (fun _ => rfl) rfl (qzX7_readSetting l) (fun k e1 h => (qyX7_readSetting l k e1 h).2) (fun as F A K h => by
  replace h : qsX7_readSetting as F A K := h
  unfold qsX7_readSetting at h
  split at h
  · rename_i o p
    refine ⟨by first | exact Nat.le_of_ble_eq_true rfl | simp [am_fl, am_cat], ?_⟩
    replace h := am_cond2 h
    rcases h with ⟨hb, h⟩ | h
    · simp only [Bool.and_eq_true] at hb
      obtain ⟨hb0, hb1⟩ := hb
      have hb0 := am_bq hb0
      subst hb0
      have hb1 := am_bq hb1
      subst hb1
      exact am_way_line (qvX7_readSetting_7_3  F A K h)
    exact h.elim
  · exact h.elim)
