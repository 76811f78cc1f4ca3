def qkX9_readStatement : Nat → Option CI := fun pc => cond (Nat.ble 106 pc) none (cond (Nat.ble 67 pc) (cond (Nat.ble 86 pc) (cond (Nat.ble 96 pc) (cond (Nat.ble 101 pc) (cond (Nat.beq pc 101) (some (.iadd, 102, [])) (cond (Nat.beq pc 102) (some (.putfield 285, 105, [])) (cond (Nat.beq pc 105) (some (.return_, 106, [])) (none)))) (cond (Nat.beq pc 96) (some (.dup, 97, [])) (cond (Nat.beq pc 97) (some (.getfield 285, 100, [])) (cond (Nat.beq pc 100) (some (.iconst 1, 101, [])) (none))))) (cond (Nat.ble 91 pc) (cond (Nat.beq pc 91) (some (.aload_n 0, 92, [])) (cond (Nat.beq pc 92) (some (.invokevirtual 248, 95, [])) (cond (Nat.beq pc 95) (some (.aload_n 0, 96, [])) (none)))) (cond (Nat.beq pc 86) (some (.bipush (-11), 88, [])) (cond (Nat.beq pc 88) (some (.invokevirtual 241, 91, [])) (none))))) (cond (Nat.ble 77 pc) (cond (Nat.ble 81 pc) (cond (Nat.beq pc 81) (some (.iconst 1, 82, [])) (cond (Nat.beq pc 82) (some (.goto 4, 85, [86])) (cond (Nat.beq pc 85) (some (.iconst 0, 86, [])) (none)))) (cond (Nat.beq pc 77) (some (.iconst 2, 78, [])) (cond (Nat.beq pc 78) (some (.if_icmp .eq 7, 81, [85])) (none)))) (cond (Nat.ble 72 pc) (cond (Nat.beq pc 72) (some (.aload_n 0, 73, [])) (cond (Nat.beq pc 73) (some (.aload_n 0, 74, [])) (cond (Nat.beq pc 74) (some (.getfield 204, 77, [])) (none)))) (cond (Nat.beq pc 67) (some (.bipush (-11), 69, [])) (cond (Nat.beq pc 69) (some (.invokevirtual 241, 72, [])) (none)))))) (cond (Nat.ble 44 pc) (cond (Nat.ble 55 pc) (cond (Nat.ble 62 pc) (cond (Nat.beq pc 62) (some (.goto 10, 65, [72])) (cond (Nat.beq pc 65) (some (.aload_n 0, 66, [])) (cond (Nat.beq pc 66) (some (.iconst 1, 67, [])) (none)))) (cond (Nat.beq pc 55) (some (.goto 17, 58, [72])) (cond (Nat.beq pc 58) (some (.aload_n 0, 59, [])) (cond (Nat.beq pc 59) (some (.invokevirtual 282, 62, [])) (none))))) (cond (Nat.ble 48 pc) (cond (Nat.beq pc 48) (some (.goto 24, 51, [72])) (cond (Nat.beq pc 51) (some (.aload_n 0, 52, [])) (cond (Nat.beq pc 52) (some (.invokevirtual 279, 55, [])) (none)))) (cond (Nat.beq pc 44) (some (.aload_n 0, 45, [])) (cond (Nat.beq pc 45) (some (.invokevirtual 276, 48, [])) (none))))) (cond (Nat.ble 11 pc) (cond (Nat.ble 15 pc) (cond (Nat.beq pc 15) (some (.istore_n 1, 16, [])) (cond (Nat.beq pc 16) (some (.iload_n 1, 17, [])) (cond (Nat.beq pc 17) (some (.tableswitch 48 0 2 #[27, 34, 41], 44, [65, 44, 51, 58])) (none)))) (cond (Nat.beq pc 11) (some (.goto 4, 14, [15])) (cond (Nat.beq pc 14) (some (.iconst (-1), 15, [])) (none)))) (cond (Nat.ble 4 pc) (cond (Nat.beq pc 4) (some (.ifCond .ne 10, 7, [14])) (cond (Nat.beq pc 7) (some (.aload_n 0, 8, [])) (cond (Nat.beq pc 8) (some (.getfield 214, 11, [])) (none)))) (cond (Nat.beq pc 0) (some (.aload_n 0, 1, [])) (cond (Nat.beq pc 1) (some (.getfield 204, 4, [])) (none)))))))
theorem qkX9_readStatement_ok : ∀ pc i nx ts, qkX9_readStatement pc = some (i, nx, ts) → am_cok cX9_readStatement pc (i, nx, ts) = true := fun pc i nx ts h => am_tok_ok (n := 106) (by decide +kernel) (fun pc h => by show cond (Nat.ble 106 pc) _ _ = _; rw [Nat.ble_eq_true_of_le h]; rfl) h
def qaX9_readStatement : Nat → Option CE := fun k => cond (Nat.beq k 276) (some qeX9_readCurve) (cond (Nat.beq k 279) (some qeX9_readLine) (cond (Nat.beq k 282) (some qeX9_readSetting) (cond (Nat.beq k 241) (some qeX9_failsIf) (cond (Nat.beq k 248) (some qeX9_goOn) (none)))))
theorem qyX9_readStatement (l : Launch) (hst : l.stackTraces = false) : ∀ k e1, qaX9_readStatement k = some e1 → am_cal l layM RX9 15 k e1 ∧ True := q_cons ⟨am_calV (ci := 9) (qtX9_readCurve l hst) qbX9_readCurve (by decide) rfl (am_tb_at 1568 (by decide +kernel) rfl), trivial⟩ (q_cons ⟨am_calV (ci := 9) (qtX9_readLine l hst) qbX9_readLine (by decide) rfl (am_tb_at 1600 (by decide +kernel) rfl), trivial⟩ (q_cons ⟨am_calV (ci := 9) (qtX9_readSetting l hst) qbX9_readSetting (by decide) rfl (am_tb_at 1608 (by decide +kernel) rfl), trivial⟩ (q_cons ⟨am_calV (ci := 9) (qtX9_failsIf l) qbX9_failsIf (by decide) rfl (am_tb_at 1572 (by decide +kernel) rfl), trivial⟩ (q_cons ⟨am_calV (ci := 9) (qtX9_goOn l hst) qbX9_goOn (by decide) rfl (am_tb_at 1576 (by decide +kernel) rfl), trivial⟩ (q_nil)))))
def qxX9_readStatement : CX := (qkX9_readStatement, layM, qfX9, qaX9_readStatement, qcX9, qlX9, qmX9, none, true, none, 0, none, fun _ => none)
theorem qzX9_readStatement (l : Launch) (hst : l.stackTraces = false) : am_sta l qxX9_readStatement RX9 15 cX9_readStatement := ⟨qkX9_readStatement_ok, layM_ok, qfX9_ok, qcX9_ok, qlX9_ok, am_mthP qmX9_ok (by decide), fun k e1 h => (qyX9_readStatement l hst k e1 h).1⟩
def qsX9_readStatement : SP := fun as F A K => match as with
  | [.inr (.inr o)] => cond (Nat.beq o 25) (((byO (A 26) ∧ (0 ≤ (F 25 20) ∧ (F 25 20) ≤ 800) ∧ psOK ((F 25 20)) (psF F)) ∧ ((0 ≤ A 27 14 ∧ A 27 14 ≤ 8) ∧ (0 ≤ A 27 15 ∧ A 27 15 ≤ 6)) ∧ (0 ≤ (F 25 30) ∧ (F 25 30) ≤ 3) ∧ (0 ≤ (F 25 29) ∧ (F 25 29) ≤ 900)) ∧ (K (some none) (upF (upF (upF (psS F (stS2 A ((F 25 20)) ((F 25 30)) (psF F))) 25 25 (stN A ((F 25 20)) ((F 25 25)) (psF F))) 25 30 (stG A ((F 25 20)) ((F 25 30)) (psF F))) 25 29 ((F 25 29) + 1)) (stA A ((F 25 20)) ((F 25 30)) (psF F)))) (False)
  | _ => False
def qeX9_readStatement : CE := (yX9_readStatement, cX9_readStatement, 2, none, 0, some 9, 1, [], 0, 15, qsX9_readStatement)
theorem qbX9_readStatement : am_mb qeX9_readStatement := ⟨am_tb_at 1567 (by decide +kernel) rfl, am_tb_at 124 (by decide +kernel) rfl, ⟨by decide, by decide, by decide +kernel⟩, by decide, by decide, am_tb_at 1566 (by decide +kernel) rfl, am_tb_at 52 (by decide +kernel) rfl, _, _, rfl⟩
def qnX9_readStatement_25 : CUT := fun pc => cond (Nat.beq pc 72) (some [true, false]) (none)
def qiX9_readStatement_25  (F0 : FF) (A0 : AA) : REC := fun pc ls st F A u => cond (Nat.beq pc 72) (match ls, st, u with
    | [some (.inr (.inr s0)), none], [], 0 => s0 = 25 ∧ (F = upF (upF (psS F0 (stS1 A0 (F0 25 20) (F0 25 30) (psF F0))) 25 25 (stN A0 (F0 25 20) (F0 25 25) (psF F0))) 25 30 (stG A0 (F0 25 20) (F0 25 30) (psF F0)) ∧ A = stA A0 (F0 25 20) (F0 25 30) (psF F0))
    | _, _, _ => False) (False)
def quX9_readStatement_25 : Nat → LVs → List AV → FF → AA → Nat := fun pc ls _ F A => cond (Nat.beq pc 72) (match ls with
    | [some (.inr (.inr s0)), none] => 0
    | _ => 0) (0)
set_option maxRecDepth 20000 in
theorem qvX9_readStatement_25_0  (F0 : FF) (A0 : AA) (K : KK) (h : ((byO (A0 26) ∧ (0 ≤ (F0 25 20) ∧ (F0 25 20) ≤ 800) ∧ psOK ((F0 25 20)) (psF F0)) ∧ ((0 ≤ A0 27 14 ∧ A0 27 14 ≤ 8) ∧ (0 ≤ A0 27 15 ∧ A0 27 15 ≤ 6)) ∧ (0 ≤ (F0 25 30) ∧ (F0 25 30) ≤ 3) ∧ (0 ≤ (F0 25 29) ∧ (F0 25 29) ≤ 900)) ∧ (K (some none) (upF (upF (upF (psS F0 (stS2 A0 ((F0 25 20)) ((F0 25 30)) (psF F0))) 25 25 (stN A0 ((F0 25 20)) ((F0 25 25)) (psF F0))) 25 30 (stG A0 ((F0 25 20)) ((F0 25 30)) (psF F0))) 25 29 ((F0 25 29) + 1)) (stA A0 ((F0 25 20)) ((F0 25 30)) (psF F0)))) : am_stp qxX9_readStatement (am_run qxX9_readStatement qnX9_readStatement_25 (qiX9_readStatement_25  F0 A0) K 20) K 0 (am_ent [vR 25] 2) [] F0 A0 0 := by
  show am_stp qxX9_readStatement (am_run qxX9_readStatement qnX9_readStatement_25 (qiX9_readStatement_25  F0 A0) K 20) K 0 [some (vR 25), none] [] F0 A0 0
  obtain ⟨hp, h⟩ := h
  obtain ⟨⟨pt, pn, pk⟩, pc, pg, pm⟩ := hp
  have ke : -14 ≤ F0 25 26 ∧ F0 25 26 ≤ 0 := pk.1
  have kt : 0 ≤ F0 25 23 ∧ F0 25 23 ≤ 4 := pk.2.2.2.2.1
  have kv : -1 ≤ F0 25 24 ∧ F0 25 24 ≤ 2000000 := pk.2.2.2.2.2.2
  have k1 : psOK (F0 25 20) (stS1 A0 (F0 25 20) (F0 25 30) (psF F0)) := stS1_ok pk pn.1 pn.2
  have k1e := k1.1
  have k1t := k1.2.2.2.2.1
  have j0 := fiP_ok (z := 0) (v := -11) k1 pn.2 (by decide)
  have j1 := fiP_ok (z := 1) (v := -11) k1 pn.2 (by decide)
  show (w32 (F0 25 23) = w32 0 → (((w32 (F0 25 24) = 0 → (((byO (A0 26) ∧ (0 ≤ (F0 25 20) ∧ (F0 25 20) ≤ 800) ∧ psOK ((F0 25 20)) (psF F0)) ∧ ((0 ≤ A0 27 14 ∧ A0 27 14 ≤ 8) ∧ (0 ≤ A0 27 15 ∧ A0 27 15 ≤ 6))) ∧ (25 = 25 ∧ ((upF (psS F0 ((rcR A0 ((F0 25 20)) (psF F0)).1)) 25 25 (nmN (A0 26) (rcS1 A0 ((F0 25 20)) (psF F0)))) = upF (upF (psS F0 (stS1 A0 (F0 25 20) (F0 25 30) (psF F0))) 25 25 (stN A0 (F0 25 20) (F0 25 25) (psF F0))) 25 30 (stG A0 (F0 25 20) (F0 25 30) (psF F0)) ∧ (rcA A0 ((F0 25 20)) (psF F0)) = stA A0 (F0 25 20) (F0 25 30) (psF F0))))) ∧ (w32 (F0 25 24) = 0 + 1 → (((byO (A0 26) ∧ (0 ≤ (F0 25 20) ∧ (F0 25 20) ≤ 800) ∧ psOK ((F0 25 20)) (psF F0)) ∧ ((0 ≤ A0 27 14 ∧ A0 27 14 ≤ 8) ∧ (0 ≤ A0 27 15 ∧ A0 27 15 ≤ 6))) ∧ (25 = 25 ∧ ((upF (psS F0 (rlS5 A0 ((F0 25 20)) (psF F0))) 25 25 (nmN (A0 26) (rlS1 A0 ((F0 25 20)) (psF F0)))) = upF (upF (psS F0 (stS1 A0 (F0 25 20) (F0 25 30) (psF F0))) 25 25 (stN A0 (F0 25 20) (F0 25 25) (psF F0))) 25 30 (stG A0 (F0 25 20) (F0 25 30) (psF F0)) ∧ (rlA A0 ((F0 25 20)) (psF F0)) = stA A0 (F0 25 20) (F0 25 30) (psF F0))))) ∧ (w32 (F0 25 24) = 0 + 1 + 1 → (((byO (A0 26) ∧ (0 ≤ (F0 25 20) ∧ (F0 25 20) ≤ 800) ∧ psOK ((F0 25 20)) (psF F0)) ∧ (0 ≤ (F0 25 30) ∧ (F0 25 30) ≤ 3)) ∧ (25 = 25 ∧ ((upF (psS F0 (rsS5 (A0 26) ((F0 25 20)) ((F0 25 30)) (psF F0))) 25 30 (x_or ((F0 25 30)) (x_shl 1 (rsW (A0 26) ((F0 25 20)) (psF F0))))) = upF (upF (psS F0 (stS1 A0 (F0 25 20) (F0 25 30) (psF F0))) 25 25 (stN A0 (F0 25 20) (F0 25 25) (psF F0))) 25 30 (stG A0 (F0 25 20) (F0 25 30) (psF F0)) ∧ (rsA A0 ((F0 25 20)) ((F0 25 30)) (psF F0)) = stA A0 (F0 25 20) (F0 25 30) (psF F0))))) ∧ True) ∧ (w32 (F0 25 24) < 0 ∨ 2 < w32 (F0 25 24) → (((1 = 0 ∨ 1 = 1) ∧ (-2147483648 ≤ (F0 25 26) ∧ (F0 25 26) < 2147483648)) ∧ (25 = 25 ∧ ((psS F0 (fiP (psF F0) 1 (-11))) = upF (upF (psS F0 (stS1 A0 (F0 25 20) (F0 25 30) (psF F0))) 25 25 (stN A0 (F0 25 20) (F0 25 25) (psF F0))) 25 30 (stG A0 (F0 25 20) (F0 25 30) (psF F0)) ∧ A0 = stA A0 (F0 25 20) (F0 25 30) (psF F0))))))) ∧ (¬ w32 (F0 25 23) = w32 0 → (((w32 (-1) = 0 → (((byO (A0 26) ∧ (0 ≤ (F0 25 20) ∧ (F0 25 20) ≤ 800) ∧ psOK ((F0 25 20)) (psF F0)) ∧ ((0 ≤ A0 27 14 ∧ A0 27 14 ≤ 8) ∧ (0 ≤ A0 27 15 ∧ A0 27 15 ≤ 6))) ∧ (25 = 25 ∧ ((upF (psS F0 ((rcR A0 ((F0 25 20)) (psF F0)).1)) 25 25 (nmN (A0 26) (rcS1 A0 ((F0 25 20)) (psF F0)))) = upF (upF (psS F0 (stS1 A0 (F0 25 20) (F0 25 30) (psF F0))) 25 25 (stN A0 (F0 25 20) (F0 25 25) (psF F0))) 25 30 (stG A0 (F0 25 20) (F0 25 30) (psF F0)) ∧ (rcA A0 ((F0 25 20)) (psF F0)) = stA A0 (F0 25 20) (F0 25 30) (psF F0))))) ∧ (w32 (-1) = 0 + 1 → (((byO (A0 26) ∧ (0 ≤ (F0 25 20) ∧ (F0 25 20) ≤ 800) ∧ psOK ((F0 25 20)) (psF F0)) ∧ ((0 ≤ A0 27 14 ∧ A0 27 14 ≤ 8) ∧ (0 ≤ A0 27 15 ∧ A0 27 15 ≤ 6))) ∧ (25 = 25 ∧ ((upF (psS F0 (rlS5 A0 ((F0 25 20)) (psF F0))) 25 25 (nmN (A0 26) (rlS1 A0 ((F0 25 20)) (psF F0)))) = upF (upF (psS F0 (stS1 A0 (F0 25 20) (F0 25 30) (psF F0))) 25 25 (stN A0 (F0 25 20) (F0 25 25) (psF F0))) 25 30 (stG A0 (F0 25 20) (F0 25 30) (psF F0)) ∧ (rlA A0 ((F0 25 20)) (psF F0)) = stA A0 (F0 25 20) (F0 25 30) (psF F0))))) ∧ (w32 (-1) = 0 + 1 + 1 → (((byO (A0 26) ∧ (0 ≤ (F0 25 20) ∧ (F0 25 20) ≤ 800) ∧ psOK ((F0 25 20)) (psF F0)) ∧ (0 ≤ (F0 25 30) ∧ (F0 25 30) ≤ 3)) ∧ (25 = 25 ∧ ((upF (psS F0 (rsS5 (A0 26) ((F0 25 20)) ((F0 25 30)) (psF F0))) 25 30 (x_or ((F0 25 30)) (x_shl 1 (rsW (A0 26) ((F0 25 20)) (psF F0))))) = upF (upF (psS F0 (stS1 A0 (F0 25 20) (F0 25 30) (psF F0))) 25 25 (stN A0 (F0 25 20) (F0 25 25) (psF F0))) 25 30 (stG A0 (F0 25 20) (F0 25 30) (psF F0)) ∧ (rsA A0 ((F0 25 20)) ((F0 25 30)) (psF F0)) = stA A0 (F0 25 20) (F0 25 30) (psF F0))))) ∧ True) ∧ (w32 (-1) < 0 ∨ 2 < w32 (-1) → (((1 = 0 ∨ 1 = 1) ∧ (-2147483648 ≤ (F0 25 26) ∧ (F0 25 26) < 2147483648)) ∧ (25 = 25 ∧ ((psS F0 (fiP (psF F0) 1 (-11))) = upF (upF (psS F0 (stS1 A0 (F0 25 20) (F0 25 30) (psF F0))) 25 25 (stN A0 (F0 25 20) (F0 25 25) (psF F0))) 25 30 (stG A0 (F0 25 20) (F0 25 30) (psF F0)) ∧ A0 = stA A0 (F0 25 20) (F0 25 30) (psF F0)))))))
  refine ⟨fun c1 => ?_, fun c1 => ?_⟩
  · skip
    (try simp only [fiP_22, inS_22, nmS_22, psF_e, psF_q, psF_p, psF_o, psF_t, psF_v] at c1); (try simp (disch := omega) only [w32_0, wbi0, Classical.not_not, w32_id] at c1)
    refine ⟨⟨fun c2 => ?_, fun c2 => ?_, fun c2 => ?_, trivial⟩, fun c2 => ?_⟩
    · skip
      (try simp only [fiP_22, inS_22, nmS_22, psF_e, psF_q, psF_p, psF_o, psF_t, psF_v] at c2); (try simp (disch := omega) only [w32_0, wbi0, Classical.not_not, w32_id] at c2)
      refine ⟨by first | exact ⟨⟨pt, pn, pk⟩, pc⟩ | exact ⟨⟨pt, pn, pk⟩, pg⟩ | exact ⟨Or.inr rfl, by omega, by omega⟩, ?_⟩
      refine ⟨rfl, ?_⟩
      first
      | (exfalso; omega)
      | (have eK : stK (psF F0) = if F0 25 23 = 0 then F0 25 24 else -1 := rfl
         first
         | rw [if_pos (show F0 25 23 = 0 by omega)] at eK
         | rw [if_neg (show ¬ F0 25 23 = 0 by omega)] at eK
         have eS : stS1 A0 (F0 25 20) (F0 25 30) (psF F0) = (rcR A0 (F0 25 20) (psF F0)).1 := by unfold stS1; rw [if_pos (show stK (psF F0) = 0 by rw [eK]; omega)]
         have eN : stN A0 (F0 25 20) (F0 25 25) (psF F0) = nmN (A0 26) (rcS1 A0 (F0 25 20) (psF F0)) := by unfold stN; rw [if_pos (show stK (psF F0) = 0 by rw [eK]; omega)]
         have eG : stG A0 (F0 25 20) (F0 25 30) (psF F0) = F0 25 30 := by unfold stG; rw [if_neg (show ¬ stK (psF F0) = 2 by rw [eK]; omega)]
         have eA : stA A0 (F0 25 20) (F0 25 30) (psF F0) = rcA A0 (F0 25 20) (psF F0) := by unfold stA; rw [if_pos (show stK (psF F0) = 0 by rw [eK]; omega)]
         rw [eS, eN, eG, eA]
         exact ⟨(upF_id (by rw [upF_o (by omega), psS_o (by omega)])).symm, rfl⟩)
      | (have eK : stK (psF F0) = if F0 25 23 = 0 then F0 25 24 else -1 := rfl
         first
         | rw [if_pos (show F0 25 23 = 0 by omega)] at eK
         | rw [if_neg (show ¬ F0 25 23 = 0 by omega)] at eK
         have eS : stS1 A0 (F0 25 20) (F0 25 30) (psF F0) = rlS5 A0 (F0 25 20) (psF F0) := by unfold stS1; rw [if_neg (show ¬ stK (psF F0) = 0 by rw [eK]; omega)]; rw [if_pos (show stK (psF F0) = 1 by rw [eK]; omega)]
         have eN : stN A0 (F0 25 20) (F0 25 25) (psF F0) = nmN (A0 26) (rlS1 A0 (F0 25 20) (psF F0)) := by unfold stN; rw [if_neg (show ¬ stK (psF F0) = 0 by rw [eK]; omega)]; rw [if_pos (show stK (psF F0) = 1 by rw [eK]; omega)]
         have eG : stG A0 (F0 25 20) (F0 25 30) (psF F0) = F0 25 30 := by unfold stG; rw [if_neg (show ¬ stK (psF F0) = 2 by rw [eK]; omega)]
         have eA : stA A0 (F0 25 20) (F0 25 30) (psF F0) = rlA A0 (F0 25 20) (psF F0) := by unfold stA; rw [if_neg (show ¬ stK (psF F0) = 0 by rw [eK]; omega)]; rw [if_pos (show stK (psF F0) = 1 by rw [eK]; omega)]
         rw [eS, eN, eG, eA]
         exact ⟨(upF_id (by rw [upF_o (by omega), psS_o (by omega)])).symm, rfl⟩)
      | (have eK : stK (psF F0) = if F0 25 23 = 0 then F0 25 24 else -1 := rfl
         first
         | rw [if_pos (show F0 25 23 = 0 by omega)] at eK
         | rw [if_neg (show ¬ F0 25 23 = 0 by omega)] at eK
         have eS : stS1 A0 (F0 25 20) (F0 25 30) (psF F0) = rsS5 (A0 26) (F0 25 20) (F0 25 30) (psF F0) := by unfold stS1; rw [if_neg (show ¬ stK (psF F0) = 0 by rw [eK]; omega)]; rw [if_neg (show ¬ stK (psF F0) = 1 by rw [eK]; omega)]; rw [if_pos (show stK (psF F0) = 2 by rw [eK]; omega)]
         have eN : stN A0 (F0 25 20) (F0 25 25) (psF F0) = F0 25 25 := by unfold stN; rw [if_neg (show ¬ stK (psF F0) = 0 by rw [eK]; omega)]; rw [if_neg (show ¬ stK (psF F0) = 1 by rw [eK]; omega)]
         have eG : stG A0 (F0 25 20) (F0 25 30) (psF F0) = x_or (F0 25 30) (x_shl 1 (rsW (A0 26) (F0 25 20) (psF F0))) := by unfold stG; rw [if_pos (show stK (psF F0) = 2 by rw [eK]; omega)]
         have eA : stA A0 (F0 25 20) (F0 25 30) (psF F0) = rsA A0 (F0 25 20) (F0 25 30) (psF F0) := by unfold stA; rw [if_neg (show ¬ stK (psF F0) = 0 by rw [eK]; omega)]; rw [if_neg (show ¬ stK (psF F0) = 1 by rw [eK]; omega)]; rw [if_pos (show stK (psF F0) = 2 by rw [eK]; omega)]
         rw [eS, eN, eG, eA]
         exact ⟨by rw [upF_id (F := psS F0 (rsS5 (A0 26) (F0 25 20) (F0 25 30) (psF F0))) (k := 25) (j := 25) (v := F0 25 25) (by rw [psS_o (by omega)])], rfl⟩)
      | (have eK : stK (psF F0) = if F0 25 23 = 0 then F0 25 24 else -1 := rfl
         first
         | rw [if_pos (show F0 25 23 = 0 by omega)] at eK
         | rw [if_neg (show ¬ F0 25 23 = 0 by omega)] at eK
         have eS : stS1 A0 (F0 25 20) (F0 25 30) (psF F0) = fiP (psF F0) 1 (-11) := by unfold stS1; rw [if_neg (show ¬ stK (psF F0) = 0 by rw [eK]; omega)]; rw [if_neg (show ¬ stK (psF F0) = 1 by rw [eK]; omega)]; rw [if_neg (show ¬ stK (psF F0) = 2 by rw [eK]; omega)]
         have eN : stN A0 (F0 25 20) (F0 25 25) (psF F0) = F0 25 25 := by unfold stN; rw [if_neg (show ¬ stK (psF F0) = 0 by rw [eK]; omega)]; rw [if_neg (show ¬ stK (psF F0) = 1 by rw [eK]; omega)]
         have eG : stG A0 (F0 25 20) (F0 25 30) (psF F0) = F0 25 30 := by unfold stG; rw [if_neg (show ¬ stK (psF F0) = 2 by rw [eK]; omega)]
         have eA : stA A0 (F0 25 20) (F0 25 30) (psF F0) = A0 := by unfold stA; rw [if_neg (show ¬ stK (psF F0) = 0 by rw [eK]; omega)]; rw [if_neg (show ¬ stK (psF F0) = 1 by rw [eK]; omega)]; rw [if_neg (show ¬ stK (psF F0) = 2 by rw [eK]; omega)]
         rw [eS, eN, eG, eA]
         exact ⟨by rw [upF_id (F := psS F0 (fiP (psF F0) 1 (-11))) (by rw [psS_o (by omega)]), upF_id (by rw [psS_o (by omega)])], rfl⟩)
    · skip
      (try simp only [fiP_22, inS_22, nmS_22, psF_e, psF_q, psF_p, psF_o, psF_t, psF_v] at c2); (try simp (disch := omega) only [w32_0, wbi0, Classical.not_not, w32_id] at c2)
      refine ⟨by first | exact ⟨⟨pt, pn, pk⟩, pc⟩ | exact ⟨⟨pt, pn, pk⟩, pg⟩ | exact ⟨Or.inr rfl, by omega, by omega⟩, ?_⟩
      refine ⟨rfl, ?_⟩
      first
      | (exfalso; omega)
      | (have eK : stK (psF F0) = if F0 25 23 = 0 then F0 25 24 else -1 := rfl
         first
         | rw [if_pos (show F0 25 23 = 0 by omega)] at eK
         | rw [if_neg (show ¬ F0 25 23 = 0 by omega)] at eK
         have eS : stS1 A0 (F0 25 20) (F0 25 30) (psF F0) = (rcR A0 (F0 25 20) (psF F0)).1 := by unfold stS1; rw [if_pos (show stK (psF F0) = 0 by rw [eK]; omega)]
         have eN : stN A0 (F0 25 20) (F0 25 25) (psF F0) = nmN (A0 26) (rcS1 A0 (F0 25 20) (psF F0)) := by unfold stN; rw [if_pos (show stK (psF F0) = 0 by rw [eK]; omega)]
         have eG : stG A0 (F0 25 20) (F0 25 30) (psF F0) = F0 25 30 := by unfold stG; rw [if_neg (show ¬ stK (psF F0) = 2 by rw [eK]; omega)]
         have eA : stA A0 (F0 25 20) (F0 25 30) (psF F0) = rcA A0 (F0 25 20) (psF F0) := by unfold stA; rw [if_pos (show stK (psF F0) = 0 by rw [eK]; omega)]
         rw [eS, eN, eG, eA]
         exact ⟨(upF_id (by rw [upF_o (by omega), psS_o (by omega)])).symm, rfl⟩)
      | (have eK : stK (psF F0) = if F0 25 23 = 0 then F0 25 24 else -1 := rfl
         first
         | rw [if_pos (show F0 25 23 = 0 by omega)] at eK
         | rw [if_neg (show ¬ F0 25 23 = 0 by omega)] at eK
         have eS : stS1 A0 (F0 25 20) (F0 25 30) (psF F0) = rlS5 A0 (F0 25 20) (psF F0) := by unfold stS1; rw [if_neg (show ¬ stK (psF F0) = 0 by rw [eK]; omega)]; rw [if_pos (show stK (psF F0) = 1 by rw [eK]; omega)]
         have eN : stN A0 (F0 25 20) (F0 25 25) (psF F0) = nmN (A0 26) (rlS1 A0 (F0 25 20) (psF F0)) := by unfold stN; rw [if_neg (show ¬ stK (psF F0) = 0 by rw [eK]; omega)]; rw [if_pos (show stK (psF F0) = 1 by rw [eK]; omega)]
         have eG : stG A0 (F0 25 20) (F0 25 30) (psF F0) = F0 25 30 := by unfold stG; rw [if_neg (show ¬ stK (psF F0) = 2 by rw [eK]; omega)]
         have eA : stA A0 (F0 25 20) (F0 25 30) (psF F0) = rlA A0 (F0 25 20) (psF F0) := by unfold stA; rw [if_neg (show ¬ stK (psF F0) = 0 by rw [eK]; omega)]; rw [if_pos (show stK (psF F0) = 1 by rw [eK]; omega)]
         rw [eS, eN, eG, eA]
         exact ⟨(upF_id (by rw [upF_o (by omega), psS_o (by omega)])).symm, rfl⟩)
      | (have eK : stK (psF F0) = if F0 25 23 = 0 then F0 25 24 else -1 := rfl
         first
         | rw [if_pos (show F0 25 23 = 0 by omega)] at eK
         | rw [if_neg (show ¬ F0 25 23 = 0 by omega)] at eK
         have eS : stS1 A0 (F0 25 20) (F0 25 30) (psF F0) = rsS5 (A0 26) (F0 25 20) (F0 25 30) (psF F0) := by unfold stS1; rw [if_neg (show ¬ stK (psF F0) = 0 by rw [eK]; omega)]; rw [if_neg (show ¬ stK (psF F0) = 1 by rw [eK]; omega)]; rw [if_pos (show stK (psF F0) = 2 by rw [eK]; omega)]
         have eN : stN A0 (F0 25 20) (F0 25 25) (psF F0) = F0 25 25 := by unfold stN; rw [if_neg (show ¬ stK (psF F0) = 0 by rw [eK]; omega)]; rw [if_neg (show ¬ stK (psF F0) = 1 by rw [eK]; omega)]
         have eG : stG A0 (F0 25 20) (F0 25 30) (psF F0) = x_or (F0 25 30) (x_shl 1 (rsW (A0 26) (F0 25 20) (psF F0))) := by unfold stG; rw [if_pos (show stK (psF F0) = 2 by rw [eK]; omega)]
         have eA : stA A0 (F0 25 20) (F0 25 30) (psF F0) = rsA A0 (F0 25 20) (F0 25 30) (psF F0) := by unfold stA; rw [if_neg (show ¬ stK (psF F0) = 0 by rw [eK]; omega)]; rw [if_neg (show ¬ stK (psF F0) = 1 by rw [eK]; omega)]; rw [if_pos (show stK (psF F0) = 2 by rw [eK]; omega)]
         rw [eS, eN, eG, eA]
         exact ⟨by rw [upF_id (F := psS F0 (rsS5 (A0 26) (F0 25 20) (F0 25 30) (psF F0))) (k := 25) (j := 25) (v := F0 25 25) (by rw [psS_o (by omega)])], rfl⟩)
      | (have eK : stK (psF F0) = if F0 25 23 = 0 then F0 25 24 else -1 := rfl
         first
         | rw [if_pos (show F0 25 23 = 0 by omega)] at eK
         | rw [if_neg (show ¬ F0 25 23 = 0 by omega)] at eK
         have eS : stS1 A0 (F0 25 20) (F0 25 30) (psF F0) = fiP (psF F0) 1 (-11) := by unfold stS1; rw [if_neg (show ¬ stK (psF F0) = 0 by rw [eK]; omega)]; rw [if_neg (show ¬ stK (psF F0) = 1 by rw [eK]; omega)]; rw [if_neg (show ¬ stK (psF F0) = 2 by rw [eK]; omega)]
         have eN : stN A0 (F0 25 20) (F0 25 25) (psF F0) = F0 25 25 := by unfold stN; rw [if_neg (show ¬ stK (psF F0) = 0 by rw [eK]; omega)]; rw [if_neg (show ¬ stK (psF F0) = 1 by rw [eK]; omega)]
         have eG : stG A0 (F0 25 20) (F0 25 30) (psF F0) = F0 25 30 := by unfold stG; rw [if_neg (show ¬ stK (psF F0) = 2 by rw [eK]; omega)]
         have eA : stA A0 (F0 25 20) (F0 25 30) (psF F0) = A0 := by unfold stA; rw [if_neg (show ¬ stK (psF F0) = 0 by rw [eK]; omega)]; rw [if_neg (show ¬ stK (psF F0) = 1 by rw [eK]; omega)]; rw [if_neg (show ¬ stK (psF F0) = 2 by rw [eK]; omega)]
         rw [eS, eN, eG, eA]
         exact ⟨by rw [upF_id (F := psS F0 (fiP (psF F0) 1 (-11))) (by rw [psS_o (by omega)]), upF_id (by rw [psS_o (by omega)])], rfl⟩)
    · skip
      (try simp only [fiP_22, inS_22, nmS_22, psF_e, psF_q, psF_p, psF_o, psF_t, psF_v] at c2); (try simp (disch := omega) only [w32_0, wbi0, Classical.not_not, w32_id] at c2)
      refine ⟨by first | exact ⟨⟨pt, pn, pk⟩, pc⟩ | exact ⟨⟨pt, pn, pk⟩, pg⟩ | exact ⟨Or.inr rfl, by omega, by omega⟩, ?_⟩
      refine ⟨rfl, ?_⟩
      first
      | (exfalso; omega)
      | (have eK : stK (psF F0) = if F0 25 23 = 0 then F0 25 24 else -1 := rfl
         first
         | rw [if_pos (show F0 25 23 = 0 by omega)] at eK
         | rw [if_neg (show ¬ F0 25 23 = 0 by omega)] at eK
         have eS : stS1 A0 (F0 25 20) (F0 25 30) (psF F0) = (rcR A0 (F0 25 20) (psF F0)).1 := by unfold stS1; rw [if_pos (show stK (psF F0) = 0 by rw [eK]; omega)]
         have eN : stN A0 (F0 25 20) (F0 25 25) (psF F0) = nmN (A0 26) (rcS1 A0 (F0 25 20) (psF F0)) := by unfold stN; rw [if_pos (show stK (psF F0) = 0 by rw [eK]; omega)]
         have eG : stG A0 (F0 25 20) (F0 25 30) (psF F0) = F0 25 30 := by unfold stG; rw [if_neg (show ¬ stK (psF F0) = 2 by rw [eK]; omega)]
         have eA : stA A0 (F0 25 20) (F0 25 30) (psF F0) = rcA A0 (F0 25 20) (psF F0) := by unfold stA; rw [if_pos (show stK (psF F0) = 0 by rw [eK]; omega)]
         rw [eS, eN, eG, eA]
         exact ⟨(upF_id (by rw [upF_o (by omega), psS_o (by omega)])).symm, rfl⟩)
      | (have eK : stK (psF F0) = if F0 25 23 = 0 then F0 25 24 else -1 := rfl
         first
         | rw [if_pos (show F0 25 23 = 0 by omega)] at eK
         | rw [if_neg (show ¬ F0 25 23 = 0 by omega)] at eK
         have eS : stS1 A0 (F0 25 20) (F0 25 30) (psF F0) = rlS5 A0 (F0 25 20) (psF F0) := by unfold stS1; rw [if_neg (show ¬ stK (psF F0) = 0 by rw [eK]; omega)]; rw [if_pos (show stK (psF F0) = 1 by rw [eK]; omega)]
         have eN : stN A0 (F0 25 20) (F0 25 25) (psF F0) = nmN (A0 26) (rlS1 A0 (F0 25 20) (psF F0)) := by unfold stN; rw [if_neg (show ¬ stK (psF F0) = 0 by rw [eK]; omega)]; rw [if_pos (show stK (psF F0) = 1 by rw [eK]; omega)]
         have eG : stG A0 (F0 25 20) (F0 25 30) (psF F0) = F0 25 30 := by unfold stG; rw [if_neg (show ¬ stK (psF F0) = 2 by rw [eK]; omega)]
         have eA : stA A0 (F0 25 20) (F0 25 30) (psF F0) = rlA A0 (F0 25 20) (psF F0) := by unfold stA; rw [if_neg (show ¬ stK (psF F0) = 0 by rw [eK]; omega)]; rw [if_pos (show stK (psF F0) = 1 by rw [eK]; omega)]
         rw [eS, eN, eG, eA]
         exact ⟨(upF_id (by rw [upF_o (by omega), psS_o (by omega)])).symm, rfl⟩)
      | (have eK : stK (psF F0) = if F0 25 23 = 0 then F0 25 24 else -1 := rfl
         first
         | rw [if_pos (show F0 25 23 = 0 by omega)] at eK
         | rw [if_neg (show ¬ F0 25 23 = 0 by omega)] at eK
         have eS : stS1 A0 (F0 25 20) (F0 25 30) (psF F0) = rsS5 (A0 26) (F0 25 20) (F0 25 30) (psF F0) := by unfold stS1; rw [if_neg (show ¬ stK (psF F0) = 0 by rw [eK]; omega)]; rw [if_neg (show ¬ stK (psF F0) = 1 by rw [eK]; omega)]; rw [if_pos (show stK (psF F0) = 2 by rw [eK]; omega)]
         have eN : stN A0 (F0 25 20) (F0 25 25) (psF F0) = F0 25 25 := by unfold stN; rw [if_neg (show ¬ stK (psF F0) = 0 by rw [eK]; omega)]; rw [if_neg (show ¬ stK (psF F0) = 1 by rw [eK]; omega)]
         have eG : stG A0 (F0 25 20) (F0 25 30) (psF F0) = x_or (F0 25 30) (x_shl 1 (rsW (A0 26) (F0 25 20) (psF F0))) := by unfold stG; rw [if_pos (show stK (psF F0) = 2 by rw [eK]; omega)]
         have eA : stA A0 (F0 25 20) (F0 25 30) (psF F0) = rsA A0 (F0 25 20) (F0 25 30) (psF F0) := by unfold stA; rw [if_neg (show ¬ stK (psF F0) = 0 by rw [eK]; omega)]; rw [if_neg (show ¬ stK (psF F0) = 1 by rw [eK]; omega)]; rw [if_pos (show stK (psF F0) = 2 by rw [eK]; omega)]
         rw [eS, eN, eG, eA]
         exact ⟨by rw [upF_id (F := psS F0 (rsS5 (A0 26) (F0 25 20) (F0 25 30) (psF F0))) (k := 25) (j := 25) (v := F0 25 25) (by rw [psS_o (by omega)])], rfl⟩)
      | (have eK : stK (psF F0) = if F0 25 23 = 0 then F0 25 24 else -1 := rfl
         first
         | rw [if_pos (show F0 25 23 = 0 by omega)] at eK
         | rw [if_neg (show ¬ F0 25 23 = 0 by omega)] at eK
         have eS : stS1 A0 (F0 25 20) (F0 25 30) (psF F0) = fiP (psF F0) 1 (-11) := by unfold stS1; rw [if_neg (show ¬ stK (psF F0) = 0 by rw [eK]; omega)]; rw [if_neg (show ¬ stK (psF F0) = 1 by rw [eK]; omega)]; rw [if_neg (show ¬ stK (psF F0) = 2 by rw [eK]; omega)]
         have eN : stN A0 (F0 25 20) (F0 25 25) (psF F0) = F0 25 25 := by unfold stN; rw [if_neg (show ¬ stK (psF F0) = 0 by rw [eK]; omega)]; rw [if_neg (show ¬ stK (psF F0) = 1 by rw [eK]; omega)]
         have eG : stG A0 (F0 25 20) (F0 25 30) (psF F0) = F0 25 30 := by unfold stG; rw [if_neg (show ¬ stK (psF F0) = 2 by rw [eK]; omega)]
         have eA : stA A0 (F0 25 20) (F0 25 30) (psF F0) = A0 := by unfold stA; rw [if_neg (show ¬ stK (psF F0) = 0 by rw [eK]; omega)]; rw [if_neg (show ¬ stK (psF F0) = 1 by rw [eK]; omega)]; rw [if_neg (show ¬ stK (psF F0) = 2 by rw [eK]; omega)]
         rw [eS, eN, eG, eA]
         exact ⟨by rw [upF_id (F := psS F0 (fiP (psF F0) 1 (-11))) (by rw [psS_o (by omega)]), upF_id (by rw [psS_o (by omega)])], rfl⟩)
    · skip
      (try simp only [fiP_22, inS_22, nmS_22, psF_e, psF_q, psF_p, psF_o, psF_t, psF_v] at c2); (try simp (disch := omega) only [w32_0, wbi0, Classical.not_not, w32_id] at c2)
      refine ⟨by first | exact ⟨⟨pt, pn, pk⟩, pc⟩ | exact ⟨⟨pt, pn, pk⟩, pg⟩ | exact ⟨Or.inr rfl, by omega, by omega⟩, ?_⟩
      refine ⟨rfl, ?_⟩
      first
      | (exfalso; omega)
      | (have eK : stK (psF F0) = if F0 25 23 = 0 then F0 25 24 else -1 := rfl
         first
         | rw [if_pos (show F0 25 23 = 0 by omega)] at eK
         | rw [if_neg (show ¬ F0 25 23 = 0 by omega)] at eK
         have eS : stS1 A0 (F0 25 20) (F0 25 30) (psF F0) = (rcR A0 (F0 25 20) (psF F0)).1 := by unfold stS1; rw [if_pos (show stK (psF F0) = 0 by rw [eK]; omega)]
         have eN : stN A0 (F0 25 20) (F0 25 25) (psF F0) = nmN (A0 26) (rcS1 A0 (F0 25 20) (psF F0)) := by unfold stN; rw [if_pos (show stK (psF F0) = 0 by rw [eK]; omega)]
         have eG : stG A0 (F0 25 20) (F0 25 30) (psF F0) = F0 25 30 := by unfold stG; rw [if_neg (show ¬ stK (psF F0) = 2 by rw [eK]; omega)]
         have eA : stA A0 (F0 25 20) (F0 25 30) (psF F0) = rcA A0 (F0 25 20) (psF F0) := by unfold stA; rw [if_pos (show stK (psF F0) = 0 by rw [eK]; omega)]
         rw [eS, eN, eG, eA]
         exact ⟨(upF_id (by rw [upF_o (by omega), psS_o (by omega)])).symm, rfl⟩)
      | (have eK : stK (psF F0) = if F0 25 23 = 0 then F0 25 24 else -1 := rfl
         first
         | rw [if_pos (show F0 25 23 = 0 by omega)] at eK
         | rw [if_neg (show ¬ F0 25 23 = 0 by omega)] at eK
         have eS : stS1 A0 (F0 25 20) (F0 25 30) (psF F0) = rlS5 A0 (F0 25 20) (psF F0) := by unfold stS1; rw [if_neg (show ¬ stK (psF F0) = 0 by rw [eK]; omega)]; rw [if_pos (show stK (psF F0) = 1 by rw [eK]; omega)]
         have eN : stN A0 (F0 25 20) (F0 25 25) (psF F0) = nmN (A0 26) (rlS1 A0 (F0 25 20) (psF F0)) := by unfold stN; rw [if_neg (show ¬ stK (psF F0) = 0 by rw [eK]; omega)]; rw [if_pos (show stK (psF F0) = 1 by rw [eK]; omega)]
         have eG : stG A0 (F0 25 20) (F0 25 30) (psF F0) = F0 25 30 := by unfold stG; rw [if_neg (show ¬ stK (psF F0) = 2 by rw [eK]; omega)]
         have eA : stA A0 (F0 25 20) (F0 25 30) (psF F0) = rlA A0 (F0 25 20) (psF F0) := by unfold stA; rw [if_neg (show ¬ stK (psF F0) = 0 by rw [eK]; omega)]; rw [if_pos (show stK (psF F0) = 1 by rw [eK]; omega)]
         rw [eS, eN, eG, eA]
         exact ⟨(upF_id (by rw [upF_o (by omega), psS_o (by omega)])).symm, rfl⟩)
      | (have eK : stK (psF F0) = if F0 25 23 = 0 then F0 25 24 else -1 := rfl
         first
         | rw [if_pos (show F0 25 23 = 0 by omega)] at eK
         | rw [if_neg (show ¬ F0 25 23 = 0 by omega)] at eK
         have eS : stS1 A0 (F0 25 20) (F0 25 30) (psF F0) = rsS5 (A0 26) (F0 25 20) (F0 25 30) (psF F0) := by unfold stS1; rw [if_neg (show ¬ stK (psF F0) = 0 by rw [eK]; omega)]; rw [if_neg (show ¬ stK (psF F0) = 1 by rw [eK]; omega)]; rw [if_pos (show stK (psF F0) = 2 by rw [eK]; omega)]
         have eN : stN A0 (F0 25 20) (F0 25 25) (psF F0) = F0 25 25 := by unfold stN; rw [if_neg (show ¬ stK (psF F0) = 0 by rw [eK]; omega)]; rw [if_neg (show ¬ stK (psF F0) = 1 by rw [eK]; omega)]
         have eG : stG A0 (F0 25 20) (F0 25 30) (psF F0) = x_or (F0 25 30) (x_shl 1 (rsW (A0 26) (F0 25 20) (psF F0))) := by unfold stG; rw [if_pos (show stK (psF F0) = 2 by rw [eK]; omega)]
         have eA : stA A0 (F0 25 20) (F0 25 30) (psF F0) = rsA A0 (F0 25 20) (F0 25 30) (psF F0) := by unfold stA; rw [if_neg (show ¬ stK (psF F0) = 0 by rw [eK]; omega)]; rw [if_neg (show ¬ stK (psF F0) = 1 by rw [eK]; omega)]; rw [if_pos (show stK (psF F0) = 2 by rw [eK]; omega)]
         rw [eS, eN, eG, eA]
         exact ⟨by rw [upF_id (F := psS F0 (rsS5 (A0 26) (F0 25 20) (F0 25 30) (psF F0))) (k := 25) (j := 25) (v := F0 25 25) (by rw [psS_o (by omega)])], rfl⟩)
      | (have eK : stK (psF F0) = if F0 25 23 = 0 then F0 25 24 else -1 := rfl
         first
         | rw [if_pos (show F0 25 23 = 0 by omega)] at eK
         | rw [if_neg (show ¬ F0 25 23 = 0 by omega)] at eK
         have eS : stS1 A0 (F0 25 20) (F0 25 30) (psF F0) = fiP (psF F0) 1 (-11) := by unfold stS1; rw [if_neg (show ¬ stK (psF F0) = 0 by rw [eK]; omega)]; rw [if_neg (show ¬ stK (psF F0) = 1 by rw [eK]; omega)]; rw [if_neg (show ¬ stK (psF F0) = 2 by rw [eK]; omega)]
         have eN : stN A0 (F0 25 20) (F0 25 25) (psF F0) = F0 25 25 := by unfold stN; rw [if_neg (show ¬ stK (psF F0) = 0 by rw [eK]; omega)]; rw [if_neg (show ¬ stK (psF F0) = 1 by rw [eK]; omega)]
         have eG : stG A0 (F0 25 20) (F0 25 30) (psF F0) = F0 25 30 := by unfold stG; rw [if_neg (show ¬ stK (psF F0) = 2 by rw [eK]; omega)]
         have eA : stA A0 (F0 25 20) (F0 25 30) (psF F0) = A0 := by unfold stA; rw [if_neg (show ¬ stK (psF F0) = 0 by rw [eK]; omega)]; rw [if_neg (show ¬ stK (psF F0) = 1 by rw [eK]; omega)]; rw [if_neg (show ¬ stK (psF F0) = 2 by rw [eK]; omega)]
         rw [eS, eN, eG, eA]
         exact ⟨by rw [upF_id (F := psS F0 (fiP (psF F0) 1 (-11))) (by rw [psS_o (by omega)]), upF_id (by rw [psS_o (by omega)])], rfl⟩)
  · skip
    (try simp only [fiP_22, inS_22, nmS_22, psF_e, psF_q, psF_p, psF_o, psF_t, psF_v] at c1); (try simp (disch := omega) only [w32_0, wbi0, Classical.not_not, w32_id] at c1)
    refine ⟨⟨fun c2 => ?_, fun c2 => ?_, fun c2 => ?_, trivial⟩, fun c2 => ?_⟩
    · skip
      (try simp only [fiP_22, inS_22, nmS_22, psF_e, psF_q, psF_p, psF_o, psF_t, psF_v] at c2); (try simp (disch := omega) only [w32_0, wbi0, Classical.not_not, w32_id] at c2)
      refine ⟨by first | exact ⟨⟨pt, pn, pk⟩, pc⟩ | exact ⟨⟨pt, pn, pk⟩, pg⟩ | exact ⟨Or.inr rfl, by omega, by omega⟩, ?_⟩
      refine ⟨rfl, ?_⟩
      first
      | (exfalso; omega)
      | (have eK : stK (psF F0) = if F0 25 23 = 0 then F0 25 24 else -1 := rfl
         first
         | rw [if_pos (show F0 25 23 = 0 by omega)] at eK
         | rw [if_neg (show ¬ F0 25 23 = 0 by omega)] at eK
         have eS : stS1 A0 (F0 25 20) (F0 25 30) (psF F0) = (rcR A0 (F0 25 20) (psF F0)).1 := by unfold stS1; rw [if_pos (show stK (psF F0) = 0 by rw [eK]; omega)]
         have eN : stN A0 (F0 25 20) (F0 25 25) (psF F0) = nmN (A0 26) (rcS1 A0 (F0 25 20) (psF F0)) := by unfold stN; rw [if_pos (show stK (psF F0) = 0 by rw [eK]; omega)]
         have eG : stG A0 (F0 25 20) (F0 25 30) (psF F0) = F0 25 30 := by unfold stG; rw [if_neg (show ¬ stK (psF F0) = 2 by rw [eK]; omega)]
         have eA : stA A0 (F0 25 20) (F0 25 30) (psF F0) = rcA A0 (F0 25 20) (psF F0) := by unfold stA; rw [if_pos (show stK (psF F0) = 0 by rw [eK]; omega)]
         rw [eS, eN, eG, eA]
         exact ⟨(upF_id (by rw [upF_o (by omega), psS_o (by omega)])).symm, rfl⟩)
      | (have eK : stK (psF F0) = if F0 25 23 = 0 then F0 25 24 else -1 := rfl
         first
         | rw [if_pos (show F0 25 23 = 0 by omega)] at eK
         | rw [if_neg (show ¬ F0 25 23 = 0 by omega)] at eK
         have eS : stS1 A0 (F0 25 20) (F0 25 30) (psF F0) = rlS5 A0 (F0 25 20) (psF F0) := by unfold stS1; rw [if_neg (show ¬ stK (psF F0) = 0 by rw [eK]; omega)]; rw [if_pos (show stK (psF F0) = 1 by rw [eK]; omega)]
         have eN : stN A0 (F0 25 20) (F0 25 25) (psF F0) = nmN (A0 26) (rlS1 A0 (F0 25 20) (psF F0)) := by unfold stN; rw [if_neg (show ¬ stK (psF F0) = 0 by rw [eK]; omega)]; rw [if_pos (show stK (psF F0) = 1 by rw [eK]; omega)]
         have eG : stG A0 (F0 25 20) (F0 25 30) (psF F0) = F0 25 30 := by unfold stG; rw [if_neg (show ¬ stK (psF F0) = 2 by rw [eK]; omega)]
         have eA : stA A0 (F0 25 20) (F0 25 30) (psF F0) = rlA A0 (F0 25 20) (psF F0) := by unfold stA; rw [if_neg (show ¬ stK (psF F0) = 0 by rw [eK]; omega)]; rw [if_pos (show stK (psF F0) = 1 by rw [eK]; omega)]
         rw [eS, eN, eG, eA]
         exact ⟨(upF_id (by rw [upF_o (by omega), psS_o (by omega)])).symm, rfl⟩)
      | (have eK : stK (psF F0) = if F0 25 23 = 0 then F0 25 24 else -1 := rfl
         first
         | rw [if_pos (show F0 25 23 = 0 by omega)] at eK
         | rw [if_neg (show ¬ F0 25 23 = 0 by omega)] at eK
         have eS : stS1 A0 (F0 25 20) (F0 25 30) (psF F0) = rsS5 (A0 26) (F0 25 20) (F0 25 30) (psF F0) := by unfold stS1; rw [if_neg (show ¬ stK (psF F0) = 0 by rw [eK]; omega)]; rw [if_neg (show ¬ stK (psF F0) = 1 by rw [eK]; omega)]; rw [if_pos (show stK (psF F0) = 2 by rw [eK]; omega)]
         have eN : stN A0 (F0 25 20) (F0 25 25) (psF F0) = F0 25 25 := by unfold stN; rw [if_neg (show ¬ stK (psF F0) = 0 by rw [eK]; omega)]; rw [if_neg (show ¬ stK (psF F0) = 1 by rw [eK]; omega)]
         have eG : stG A0 (F0 25 20) (F0 25 30) (psF F0) = x_or (F0 25 30) (x_shl 1 (rsW (A0 26) (F0 25 20) (psF F0))) := by unfold stG; rw [if_pos (show stK (psF F0) = 2 by rw [eK]; omega)]
         have eA : stA A0 (F0 25 20) (F0 25 30) (psF F0) = rsA A0 (F0 25 20) (F0 25 30) (psF F0) := by unfold stA; rw [if_neg (show ¬ stK (psF F0) = 0 by rw [eK]; omega)]; rw [if_neg (show ¬ stK (psF F0) = 1 by rw [eK]; omega)]; rw [if_pos (show stK (psF F0) = 2 by rw [eK]; omega)]
         rw [eS, eN, eG, eA]
         exact ⟨by rw [upF_id (F := psS F0 (rsS5 (A0 26) (F0 25 20) (F0 25 30) (psF F0))) (k := 25) (j := 25) (v := F0 25 25) (by rw [psS_o (by omega)])], rfl⟩)
      | (have eK : stK (psF F0) = if F0 25 23 = 0 then F0 25 24 else -1 := rfl
         first
         | rw [if_pos (show F0 25 23 = 0 by omega)] at eK
         | rw [if_neg (show ¬ F0 25 23 = 0 by omega)] at eK
         have eS : stS1 A0 (F0 25 20) (F0 25 30) (psF F0) = fiP (psF F0) 1 (-11) := by unfold stS1; rw [if_neg (show ¬ stK (psF F0) = 0 by rw [eK]; omega)]; rw [if_neg (show ¬ stK (psF F0) = 1 by rw [eK]; omega)]; rw [if_neg (show ¬ stK (psF F0) = 2 by rw [eK]; omega)]
         have eN : stN A0 (F0 25 20) (F0 25 25) (psF F0) = F0 25 25 := by unfold stN; rw [if_neg (show ¬ stK (psF F0) = 0 by rw [eK]; omega)]; rw [if_neg (show ¬ stK (psF F0) = 1 by rw [eK]; omega)]
         have eG : stG A0 (F0 25 20) (F0 25 30) (psF F0) = F0 25 30 := by unfold stG; rw [if_neg (show ¬ stK (psF F0) = 2 by rw [eK]; omega)]
         have eA : stA A0 (F0 25 20) (F0 25 30) (psF F0) = A0 := by unfold stA; rw [if_neg (show ¬ stK (psF F0) = 0 by rw [eK]; omega)]; rw [if_neg (show ¬ stK (psF F0) = 1 by rw [eK]; omega)]; rw [if_neg (show ¬ stK (psF F0) = 2 by rw [eK]; omega)]
         rw [eS, eN, eG, eA]
         exact ⟨by rw [upF_id (F := psS F0 (fiP (psF F0) 1 (-11))) (by rw [psS_o (by omega)]), upF_id (by rw [psS_o (by omega)])], rfl⟩)
    · skip
      (try simp only [fiP_22, inS_22, nmS_22, psF_e, psF_q, psF_p, psF_o, psF_t, psF_v] at c2); (try simp (disch := omega) only [w32_0, wbi0, Classical.not_not, w32_id] at c2)
      refine ⟨by first | exact ⟨⟨pt, pn, pk⟩, pc⟩ | exact ⟨⟨pt, pn, pk⟩, pg⟩ | exact ⟨Or.inr rfl, by omega, by omega⟩, ?_⟩
      refine ⟨rfl, ?_⟩
      first
      | (exfalso; omega)
      | (have eK : stK (psF F0) = if F0 25 23 = 0 then F0 25 24 else -1 := rfl
         first
         | rw [if_pos (show F0 25 23 = 0 by omega)] at eK
         | rw [if_neg (show ¬ F0 25 23 = 0 by omega)] at eK
         have eS : stS1 A0 (F0 25 20) (F0 25 30) (psF F0) = (rcR A0 (F0 25 20) (psF F0)).1 := by unfold stS1; rw [if_pos (show stK (psF F0) = 0 by rw [eK]; omega)]
         have eN : stN A0 (F0 25 20) (F0 25 25) (psF F0) = nmN (A0 26) (rcS1 A0 (F0 25 20) (psF F0)) := by unfold stN; rw [if_pos (show stK (psF F0) = 0 by rw [eK]; omega)]
         have eG : stG A0 (F0 25 20) (F0 25 30) (psF F0) = F0 25 30 := by unfold stG; rw [if_neg (show ¬ stK (psF F0) = 2 by rw [eK]; omega)]
         have eA : stA A0 (F0 25 20) (F0 25 30) (psF F0) = rcA A0 (F0 25 20) (psF F0) := by unfold stA; rw [if_pos (show stK (psF F0) = 0 by rw [eK]; omega)]
         rw [eS, eN, eG, eA]
         exact ⟨(upF_id (by rw [upF_o (by omega), psS_o (by omega)])).symm, rfl⟩)
      | (have eK : stK (psF F0) = if F0 25 23 = 0 then F0 25 24 else -1 := rfl
         first
         | rw [if_pos (show F0 25 23 = 0 by omega)] at eK
         | rw [if_neg (show ¬ F0 25 23 = 0 by omega)] at eK
         have eS : stS1 A0 (F0 25 20) (F0 25 30) (psF F0) = rlS5 A0 (F0 25 20) (psF F0) := by unfold stS1; rw [if_neg (show ¬ stK (psF F0) = 0 by rw [eK]; omega)]; rw [if_pos (show stK (psF F0) = 1 by rw [eK]; omega)]
         have eN : stN A0 (F0 25 20) (F0 25 25) (psF F0) = nmN (A0 26) (rlS1 A0 (F0 25 20) (psF F0)) := by unfold stN; rw [if_neg (show ¬ stK (psF F0) = 0 by rw [eK]; omega)]; rw [if_pos (show stK (psF F0) = 1 by rw [eK]; omega)]
         have eG : stG A0 (F0 25 20) (F0 25 30) (psF F0) = F0 25 30 := by unfold stG; rw [if_neg (show ¬ stK (psF F0) = 2 by rw [eK]; omega)]
         have eA : stA A0 (F0 25 20) (F0 25 30) (psF F0) = rlA A0 (F0 25 20) (psF F0) := by unfold stA; rw [if_neg (show ¬ stK (psF F0) = 0 by rw [eK]; omega)]; rw [if_pos (show stK (psF F0) = 1 by rw [eK]; omega)]
         rw [eS, eN, eG, eA]
         exact ⟨(upF_id (by rw [upF_o (by omega), psS_o (by omega)])).symm, rfl⟩)
      | (have eK : stK (psF F0) = if F0 25 23 = 0 then F0 25 24 else -1 := rfl
         first
         | rw [if_pos (show F0 25 23 = 0 by omega)] at eK
         | rw [if_neg (show ¬ F0 25 23 = 0 by omega)] at eK
         have eS : stS1 A0 (F0 25 20) (F0 25 30) (psF F0) = rsS5 (A0 26) (F0 25 20) (F0 25 30) (psF F0) := by unfold stS1; rw [if_neg (show ¬ stK (psF F0) = 0 by rw [eK]; omega)]; rw [if_neg (show ¬ stK (psF F0) = 1 by rw [eK]; omega)]; rw [if_pos (show stK (psF F0) = 2 by rw [eK]; omega)]
         have eN : stN A0 (F0 25 20) (F0 25 25) (psF F0) = F0 25 25 := by unfold stN; rw [if_neg (show ¬ stK (psF F0) = 0 by rw [eK]; omega)]; rw [if_neg (show ¬ stK (psF F0) = 1 by rw [eK]; omega)]
         have eG : stG A0 (F0 25 20) (F0 25 30) (psF F0) = x_or (F0 25 30) (x_shl 1 (rsW (A0 26) (F0 25 20) (psF F0))) := by unfold stG; rw [if_pos (show stK (psF F0) = 2 by rw [eK]; omega)]
         have eA : stA A0 (F0 25 20) (F0 25 30) (psF F0) = rsA A0 (F0 25 20) (F0 25 30) (psF F0) := by unfold stA; rw [if_neg (show ¬ stK (psF F0) = 0 by rw [eK]; omega)]; rw [if_neg (show ¬ stK (psF F0) = 1 by rw [eK]; omega)]; rw [if_pos (show stK (psF F0) = 2 by rw [eK]; omega)]
         rw [eS, eN, eG, eA]
         exact ⟨by rw [upF_id (F := psS F0 (rsS5 (A0 26) (F0 25 20) (F0 25 30) (psF F0))) (k := 25) (j := 25) (v := F0 25 25) (by rw [psS_o (by omega)])], rfl⟩)
      | (have eK : stK (psF F0) = if F0 25 23 = 0 then F0 25 24 else -1 := rfl
         first
         | rw [if_pos (show F0 25 23 = 0 by omega)] at eK
         | rw [if_neg (show ¬ F0 25 23 = 0 by omega)] at eK
         have eS : stS1 A0 (F0 25 20) (F0 25 30) (psF F0) = fiP (psF F0) 1 (-11) := by unfold stS1; rw [if_neg (show ¬ stK (psF F0) = 0 by rw [eK]; omega)]; rw [if_neg (show ¬ stK (psF F0) = 1 by rw [eK]; omega)]; rw [if_neg (show ¬ stK (psF F0) = 2 by rw [eK]; omega)]
         have eN : stN A0 (F0 25 20) (F0 25 25) (psF F0) = F0 25 25 := by unfold stN; rw [if_neg (show ¬ stK (psF F0) = 0 by rw [eK]; omega)]; rw [if_neg (show ¬ stK (psF F0) = 1 by rw [eK]; omega)]
         have eG : stG A0 (F0 25 20) (F0 25 30) (psF F0) = F0 25 30 := by unfold stG; rw [if_neg (show ¬ stK (psF F0) = 2 by rw [eK]; omega)]
         have eA : stA A0 (F0 25 20) (F0 25 30) (psF F0) = A0 := by unfold stA; rw [if_neg (show ¬ stK (psF F0) = 0 by rw [eK]; omega)]; rw [if_neg (show ¬ stK (psF F0) = 1 by rw [eK]; omega)]; rw [if_neg (show ¬ stK (psF F0) = 2 by rw [eK]; omega)]
         rw [eS, eN, eG, eA]
         exact ⟨by rw [upF_id (F := psS F0 (fiP (psF F0) 1 (-11))) (by rw [psS_o (by omega)]), upF_id (by rw [psS_o (by omega)])], rfl⟩)
    · skip
      (try simp only [fiP_22, inS_22, nmS_22, psF_e, psF_q, psF_p, psF_o, psF_t, psF_v] at c2); (try simp (disch := omega) only [w32_0, wbi0, Classical.not_not, w32_id] at c2)
      refine ⟨by first | exact ⟨⟨pt, pn, pk⟩, pc⟩ | exact ⟨⟨pt, pn, pk⟩, pg⟩ | exact ⟨Or.inr rfl, by omega, by omega⟩, ?_⟩
      refine ⟨rfl, ?_⟩
      first
      | (exfalso; omega)
      | (have eK : stK (psF F0) = if F0 25 23 = 0 then F0 25 24 else -1 := rfl
         first
         | rw [if_pos (show F0 25 23 = 0 by omega)] at eK
         | rw [if_neg (show ¬ F0 25 23 = 0 by omega)] at eK
         have eS : stS1 A0 (F0 25 20) (F0 25 30) (psF F0) = (rcR A0 (F0 25 20) (psF F0)).1 := by unfold stS1; rw [if_pos (show stK (psF F0) = 0 by rw [eK]; omega)]
         have eN : stN A0 (F0 25 20) (F0 25 25) (psF F0) = nmN (A0 26) (rcS1 A0 (F0 25 20) (psF F0)) := by unfold stN; rw [if_pos (show stK (psF F0) = 0 by rw [eK]; omega)]
         have eG : stG A0 (F0 25 20) (F0 25 30) (psF F0) = F0 25 30 := by unfold stG; rw [if_neg (show ¬ stK (psF F0) = 2 by rw [eK]; omega)]
         have eA : stA A0 (F0 25 20) (F0 25 30) (psF F0) = rcA A0 (F0 25 20) (psF F0) := by unfold stA; rw [if_pos (show stK (psF F0) = 0 by rw [eK]; omega)]
         rw [eS, eN, eG, eA]
         exact ⟨(upF_id (by rw [upF_o (by omega), psS_o (by omega)])).symm, rfl⟩)
      | (have eK : stK (psF F0) = if F0 25 23 = 0 then F0 25 24 else -1 := rfl
         first
         | rw [if_pos (show F0 25 23 = 0 by omega)] at eK
         | rw [if_neg (show ¬ F0 25 23 = 0 by omega)] at eK
         have eS : stS1 A0 (F0 25 20) (F0 25 30) (psF F0) = rlS5 A0 (F0 25 20) (psF F0) := by unfold stS1; rw [if_neg (show ¬ stK (psF F0) = 0 by rw [eK]; omega)]; rw [if_pos (show stK (psF F0) = 1 by rw [eK]; omega)]
         have eN : stN A0 (F0 25 20) (F0 25 25) (psF F0) = nmN (A0 26) (rlS1 A0 (F0 25 20) (psF F0)) := by unfold stN; rw [if_neg (show ¬ stK (psF F0) = 0 by rw [eK]; omega)]; rw [if_pos (show stK (psF F0) = 1 by rw [eK]; omega)]
         have eG : stG A0 (F0 25 20) (F0 25 30) (psF F0) = F0 25 30 := by unfold stG; rw [if_neg (show ¬ stK (psF F0) = 2 by rw [eK]; omega)]
         have eA : stA A0 (F0 25 20) (F0 25 30) (psF F0) = rlA A0 (F0 25 20) (psF F0) := by unfold stA; rw [if_neg (show ¬ stK (psF F0) = 0 by rw [eK]; omega)]; rw [if_pos (show stK (psF F0) = 1 by rw [eK]; omega)]
         rw [eS, eN, eG, eA]
         exact ⟨(upF_id (by rw [upF_o (by omega), psS_o (by omega)])).symm, rfl⟩)
      | (have eK : stK (psF F0) = if F0 25 23 = 0 then F0 25 24 else -1 := rfl
         first
         | rw [if_pos (show F0 25 23 = 0 by omega)] at eK
         | rw [if_neg (show ¬ F0 25 23 = 0 by omega)] at eK
         have eS : stS1 A0 (F0 25 20) (F0 25 30) (psF F0) = rsS5 (A0 26) (F0 25 20) (F0 25 30) (psF F0) := by unfold stS1; rw [if_neg (show ¬ stK (psF F0) = 0 by rw [eK]; omega)]; rw [if_neg (show ¬ stK (psF F0) = 1 by rw [eK]; omega)]; rw [if_pos (show stK (psF F0) = 2 by rw [eK]; omega)]
         have eN : stN A0 (F0 25 20) (F0 25 25) (psF F0) = F0 25 25 := by unfold stN; rw [if_neg (show ¬ stK (psF F0) = 0 by rw [eK]; omega)]; rw [if_neg (show ¬ stK (psF F0) = 1 by rw [eK]; omega)]
         have eG : stG A0 (F0 25 20) (F0 25 30) (psF F0) = x_or (F0 25 30) (x_shl 1 (rsW (A0 26) (F0 25 20) (psF F0))) := by unfold stG; rw [if_pos (show stK (psF F0) = 2 by rw [eK]; omega)]
         have eA : stA A0 (F0 25 20) (F0 25 30) (psF F0) = rsA A0 (F0 25 20) (F0 25 30) (psF F0) := by unfold stA; rw [if_neg (show ¬ stK (psF F0) = 0 by rw [eK]; omega)]; rw [if_neg (show ¬ stK (psF F0) = 1 by rw [eK]; omega)]; rw [if_pos (show stK (psF F0) = 2 by rw [eK]; omega)]
         rw [eS, eN, eG, eA]
         exact ⟨by rw [upF_id (F := psS F0 (rsS5 (A0 26) (F0 25 20) (F0 25 30) (psF F0))) (k := 25) (j := 25) (v := F0 25 25) (by rw [psS_o (by omega)])], rfl⟩)
      | (have eK : stK (psF F0) = if F0 25 23 = 0 then F0 25 24 else -1 := rfl
         first
         | rw [if_pos (show F0 25 23 = 0 by omega)] at eK
         | rw [if_neg (show ¬ F0 25 23 = 0 by omega)] at eK
         have eS : stS1 A0 (F0 25 20) (F0 25 30) (psF F0) = fiP (psF F0) 1 (-11) := by unfold stS1; rw [if_neg (show ¬ stK (psF F0) = 0 by rw [eK]; omega)]; rw [if_neg (show ¬ stK (psF F0) = 1 by rw [eK]; omega)]; rw [if_neg (show ¬ stK (psF F0) = 2 by rw [eK]; omega)]
         have eN : stN A0 (F0 25 20) (F0 25 25) (psF F0) = F0 25 25 := by unfold stN; rw [if_neg (show ¬ stK (psF F0) = 0 by rw [eK]; omega)]; rw [if_neg (show ¬ stK (psF F0) = 1 by rw [eK]; omega)]
         have eG : stG A0 (F0 25 20) (F0 25 30) (psF F0) = F0 25 30 := by unfold stG; rw [if_neg (show ¬ stK (psF F0) = 2 by rw [eK]; omega)]
         have eA : stA A0 (F0 25 20) (F0 25 30) (psF F0) = A0 := by unfold stA; rw [if_neg (show ¬ stK (psF F0) = 0 by rw [eK]; omega)]; rw [if_neg (show ¬ stK (psF F0) = 1 by rw [eK]; omega)]; rw [if_neg (show ¬ stK (psF F0) = 2 by rw [eK]; omega)]
         rw [eS, eN, eG, eA]
         exact ⟨by rw [upF_id (F := psS F0 (fiP (psF F0) 1 (-11))) (by rw [psS_o (by omega)]), upF_id (by rw [psS_o (by omega)])], rfl⟩)
    · skip
      (try simp only [fiP_22, inS_22, nmS_22, psF_e, psF_q, psF_p, psF_o, psF_t, psF_v] at c2); (try simp (disch := omega) only [w32_0, wbi0, Classical.not_not, w32_id] at c2)
      refine ⟨by first | exact ⟨⟨pt, pn, pk⟩, pc⟩ | exact ⟨⟨pt, pn, pk⟩, pg⟩ | exact ⟨Or.inr rfl, by omega, by omega⟩, ?_⟩
      refine ⟨rfl, ?_⟩
      first
      | (exfalso; omega)
      | (have eK : stK (psF F0) = if F0 25 23 = 0 then F0 25 24 else -1 := rfl
         first
         | rw [if_pos (show F0 25 23 = 0 by omega)] at eK
         | rw [if_neg (show ¬ F0 25 23 = 0 by omega)] at eK
         have eS : stS1 A0 (F0 25 20) (F0 25 30) (psF F0) = (rcR A0 (F0 25 20) (psF F0)).1 := by unfold stS1; rw [if_pos (show stK (psF F0) = 0 by rw [eK]; omega)]
         have eN : stN A0 (F0 25 20) (F0 25 25) (psF F0) = nmN (A0 26) (rcS1 A0 (F0 25 20) (psF F0)) := by unfold stN; rw [if_pos (show stK (psF F0) = 0 by rw [eK]; omega)]
         have eG : stG A0 (F0 25 20) (F0 25 30) (psF F0) = F0 25 30 := by unfold stG; rw [if_neg (show ¬ stK (psF F0) = 2 by rw [eK]; omega)]
         have eA : stA A0 (F0 25 20) (F0 25 30) (psF F0) = rcA A0 (F0 25 20) (psF F0) := by unfold stA; rw [if_pos (show stK (psF F0) = 0 by rw [eK]; omega)]
         rw [eS, eN, eG, eA]
         exact ⟨(upF_id (by rw [upF_o (by omega), psS_o (by omega)])).symm, rfl⟩)
      | (have eK : stK (psF F0) = if F0 25 23 = 0 then F0 25 24 else -1 := rfl
         first
         | rw [if_pos (show F0 25 23 = 0 by omega)] at eK
         | rw [if_neg (show ¬ F0 25 23 = 0 by omega)] at eK
         have eS : stS1 A0 (F0 25 20) (F0 25 30) (psF F0) = rlS5 A0 (F0 25 20) (psF F0) := by unfold stS1; rw [if_neg (show ¬ stK (psF F0) = 0 by rw [eK]; omega)]; rw [if_pos (show stK (psF F0) = 1 by rw [eK]; omega)]
         have eN : stN A0 (F0 25 20) (F0 25 25) (psF F0) = nmN (A0 26) (rlS1 A0 (F0 25 20) (psF F0)) := by unfold stN; rw [if_neg (show ¬ stK (psF F0) = 0 by rw [eK]; omega)]; rw [if_pos (show stK (psF F0) = 1 by rw [eK]; omega)]
         have eG : stG A0 (F0 25 20) (F0 25 30) (psF F0) = F0 25 30 := by unfold stG; rw [if_neg (show ¬ stK (psF F0) = 2 by rw [eK]; omega)]
         have eA : stA A0 (F0 25 20) (F0 25 30) (psF F0) = rlA A0 (F0 25 20) (psF F0) := by unfold stA; rw [if_neg (show ¬ stK (psF F0) = 0 by rw [eK]; omega)]; rw [if_pos (show stK (psF F0) = 1 by rw [eK]; omega)]
         rw [eS, eN, eG, eA]
         exact ⟨(upF_id (by rw [upF_o (by omega), psS_o (by omega)])).symm, rfl⟩)
      | (have eK : stK (psF F0) = if F0 25 23 = 0 then F0 25 24 else -1 := rfl
         first
         | rw [if_pos (show F0 25 23 = 0 by omega)] at eK
         | rw [if_neg (show ¬ F0 25 23 = 0 by omega)] at eK
         have eS : stS1 A0 (F0 25 20) (F0 25 30) (psF F0) = rsS5 (A0 26) (F0 25 20) (F0 25 30) (psF F0) := by unfold stS1; rw [if_neg (show ¬ stK (psF F0) = 0 by rw [eK]; omega)]; rw [if_neg (show ¬ stK (psF F0) = 1 by rw [eK]; omega)]; rw [if_pos (show stK (psF F0) = 2 by rw [eK]; omega)]
         have eN : stN A0 (F0 25 20) (F0 25 25) (psF F0) = F0 25 25 := by unfold stN; rw [if_neg (show ¬ stK (psF F0) = 0 by rw [eK]; omega)]; rw [if_neg (show ¬ stK (psF F0) = 1 by rw [eK]; omega)]
         have eG : stG A0 (F0 25 20) (F0 25 30) (psF F0) = x_or (F0 25 30) (x_shl 1 (rsW (A0 26) (F0 25 20) (psF F0))) := by unfold stG; rw [if_pos (show stK (psF F0) = 2 by rw [eK]; omega)]
         have eA : stA A0 (F0 25 20) (F0 25 30) (psF F0) = rsA A0 (F0 25 20) (F0 25 30) (psF F0) := by unfold stA; rw [if_neg (show ¬ stK (psF F0) = 0 by rw [eK]; omega)]; rw [if_neg (show ¬ stK (psF F0) = 1 by rw [eK]; omega)]; rw [if_pos (show stK (psF F0) = 2 by rw [eK]; omega)]
         rw [eS, eN, eG, eA]
         exact ⟨by rw [upF_id (F := psS F0 (rsS5 (A0 26) (F0 25 20) (F0 25 30) (psF F0))) (k := 25) (j := 25) (v := F0 25 25) (by rw [psS_o (by omega)])], rfl⟩)
      | (have eK : stK (psF F0) = if F0 25 23 = 0 then F0 25 24 else -1 := rfl
         first
         | rw [if_pos (show F0 25 23 = 0 by omega)] at eK
         | rw [if_neg (show ¬ F0 25 23 = 0 by omega)] at eK
         have eS : stS1 A0 (F0 25 20) (F0 25 30) (psF F0) = fiP (psF F0) 1 (-11) := by unfold stS1; rw [if_neg (show ¬ stK (psF F0) = 0 by rw [eK]; omega)]; rw [if_neg (show ¬ stK (psF F0) = 1 by rw [eK]; omega)]; rw [if_neg (show ¬ stK (psF F0) = 2 by rw [eK]; omega)]
         have eN : stN A0 (F0 25 20) (F0 25 25) (psF F0) = F0 25 25 := by unfold stN; rw [if_neg (show ¬ stK (psF F0) = 0 by rw [eK]; omega)]; rw [if_neg (show ¬ stK (psF F0) = 1 by rw [eK]; omega)]
         have eG : stG A0 (F0 25 20) (F0 25 30) (psF F0) = F0 25 30 := by unfold stG; rw [if_neg (show ¬ stK (psF F0) = 2 by rw [eK]; omega)]
         have eA : stA A0 (F0 25 20) (F0 25 30) (psF F0) = A0 := by unfold stA; rw [if_neg (show ¬ stK (psF F0) = 0 by rw [eK]; omega)]; rw [if_neg (show ¬ stK (psF F0) = 1 by rw [eK]; omega)]; rw [if_neg (show ¬ stK (psF F0) = 2 by rw [eK]; omega)]
         rw [eS, eN, eG, eA]
         exact ⟨by rw [upF_id (F := psS F0 (fiP (psF F0) 1 (-11))) (by rw [psS_o (by omega)]), upF_id (by rw [psS_o (by omega)])], rfl⟩)
set_option maxRecDepth 20000 in
theorem qvX9_readStatement_25_72  (F0 : FF) (A0 : AA) (K : KK) (h : ((byO (A0 26) ∧ (0 ≤ (F0 25 20) ∧ (F0 25 20) ≤ 800) ∧ psOK ((F0 25 20)) (psF F0)) ∧ ((0 ≤ A0 27 14 ∧ A0 27 14 ≤ 8) ∧ (0 ≤ A0 27 15 ∧ A0 27 15 ≤ 6)) ∧ (0 ≤ (F0 25 30) ∧ (F0 25 30) ≤ 3) ∧ (0 ≤ (F0 25 29) ∧ (F0 25 29) ≤ 900)) ∧ (K (some none) (upF (upF (upF (psS F0 (stS2 A0 ((F0 25 20)) ((F0 25 30)) (psF F0))) 25 25 (stN A0 ((F0 25 20)) ((F0 25 25)) (psF F0))) 25 30 (stG A0 ((F0 25 20)) ((F0 25 30)) (psF F0))) 25 29 ((F0 25 29) + 1)) (stA A0 ((F0 25 20)) ((F0 25 30)) (psF F0))))  (F : FF) (A : AA) (hi : F = upF (upF (psS F0 (stS1 A0 (F0 25 20) (F0 25 30) (psF F0))) 25 25 (stN A0 (F0 25 20) (F0 25 25) (psF F0))) 25 30 (stG A0 (F0 25 20) (F0 25 30) (psF F0)) ∧ A = stA A0 (F0 25 20) (F0 25 30) (psF F0)) : am_stp qxX9_readStatement (am_run qxX9_readStatement qnX9_readStatement_25 (fun pc ls st F9 A9 u => qiX9_readStatement_25  F0 A0 pc ls st F9 A9 u ∧ quX9_readStatement_25 pc ls st F9 A9 < quX9_readStatement_25 72 [some (vR 25), none] [] F A) K 20) K 72 [some (vR 25), none] [] F A 0 := by
  obtain ⟨hp, h⟩ := h
  obtain ⟨⟨pt, pn, pk⟩, pc, pg, pm⟩ := hp
  have ke : -14 ≤ F0 25 26 ∧ F0 25 26 ≤ 0 := pk.1
  have kt : 0 ≤ F0 25 23 ∧ F0 25 23 ≤ 4 := pk.2.2.2.2.1
  have kv : -1 ≤ F0 25 24 ∧ F0 25 24 ≤ 2000000 := pk.2.2.2.2.2.2
  have k1 : psOK (F0 25 20) (stS1 A0 (F0 25 20) (F0 25 30) (psF F0)) := stS1_ok pk pn.1 pn.2
  have k1e := k1.1
  have k1t := k1.2.2.2.2.1
  have j0 := fiP_ok (z := 0) (v := -11) k1 pn.2 (by decide)
  have j1 := fiP_ok (z := 1) (v := -11) k1 pn.2 (by decide)
  obtain ⟨rfl, rfl⟩ := hi
  show (w32 ((stS1 A0 (F0 25 20) (F0 25 30) (psF F0)).2.2.2.2.1) = w32 2 → (((0 = 0 ∨ 0 = 1) ∧ (-2147483648 ≤ ((stS1 A0 (F0 25 20) (F0 25 30) (psF F0)).1) ∧ ((stS1 A0 (F0 25 20) (F0 25 30) (psF F0)).1) < 2147483648)) ∧ ((byO ((stA A0 (F0 25 20) (F0 25 30) (psF F0)) 26) ∧ (0 ≤ (F0 25 20) ∧ (F0 25 20) ≤ 800) ∧ psOK ((F0 25 20)) ((fiP ((stS1 A0 (F0 25 20) (F0 25 30) (psF F0))) 0 (-11)))) ∧ (K (some none) (upF (psS (psS (upF (upF (psS F0 (stS1 A0 (F0 25 20) (F0 25 30) (psF F0))) 25 25 (stN A0 (F0 25 20) (F0 25 25) (psF F0))) 25 30 (stG A0 (F0 25 20) (F0 25 30) (psF F0))) (fiP ((stS1 A0 (F0 25 20) (F0 25 30) (psF F0))) 0 (-11))) (goM ((stA A0 (F0 25 20) (F0 25 30) (psF F0)) 26) ((F0 25 20)) ((fiP ((stS1 A0 (F0 25 20) (F0 25 30) (psF F0))) 0 (-11))))) 25 29 ((F0 25 29) + 1)) (stA A0 (F0 25 20) (F0 25 30) (psF F0)))))) ∧ (¬ w32 ((stS1 A0 (F0 25 20) (F0 25 30) (psF F0)).2.2.2.2.1) = w32 2 → (((1 = 0 ∨ 1 = 1) ∧ (-2147483648 ≤ ((stS1 A0 (F0 25 20) (F0 25 30) (psF F0)).1) ∧ ((stS1 A0 (F0 25 20) (F0 25 30) (psF F0)).1) < 2147483648)) ∧ ((byO ((stA A0 (F0 25 20) (F0 25 30) (psF F0)) 26) ∧ (0 ≤ (F0 25 20) ∧ (F0 25 20) ≤ 800) ∧ psOK ((F0 25 20)) ((fiP ((stS1 A0 (F0 25 20) (F0 25 30) (psF F0))) 1 (-11)))) ∧ (K (some none) (upF (psS (psS (upF (upF (psS F0 (stS1 A0 (F0 25 20) (F0 25 30) (psF F0))) 25 25 (stN A0 (F0 25 20) (F0 25 25) (psF F0))) 25 30 (stG A0 (F0 25 20) (F0 25 30) (psF F0))) (fiP ((stS1 A0 (F0 25 20) (F0 25 30) (psF F0))) 1 (-11))) (goM ((stA A0 (F0 25 20) (F0 25 30) (psF F0)) 26) ((F0 25 20)) ((fiP ((stS1 A0 (F0 25 20) (F0 25 30) (psF F0))) 1 (-11))))) 25 29 ((F0 25 29) + 1)) (stA A0 (F0 25 20) (F0 25 30) (psF F0))))))
  refine ⟨fun c1 => ?_, fun c1 => ?_⟩
  · skip
    (try simp only [stA_26] at c1); (try simp only [fiP_22, inS_22, nmS_22, psF_e, psF_q, psF_p, psF_o, psF_t, psF_v] at c1); (try simp (disch := omega) only [w32_0, wbi0, Classical.not_not, w32_id] at c1)
    refine ⟨by first | exact ⟨Or.inl rfl, by omega, by omega⟩ | exact ⟨Or.inr rfl, by omega, by omega⟩ | exact ⟨pt, pn, j0⟩ | exact ⟨pt, pn, j1⟩ | (rw [stA_26]; exact ⟨pt, pn, j0⟩) | (rw [stA_26]; exact ⟨pt, pn, j1⟩), ?_⟩
    refine ⟨by first | exact ⟨Or.inl rfl, by omega, by omega⟩ | exact ⟨Or.inr rfl, by omega, by omega⟩ | exact ⟨pt, pn, j0⟩ | exact ⟨pt, pn, j1⟩ | (rw [stA_26]; exact ⟨pt, pn, j0⟩) | (rw [stA_26]; exact ⟨pt, pn, j1⟩), ?_⟩
    have eS : stS2 A0 (F0 25 20) (F0 25 30) (psF F0) = goM (A0 26) (F0 25 20) (fiP (stS1 A0 (F0 25 20) (F0 25 30) (psF F0)) (if (stS1 A0 (F0 25 20) (F0 25 30) (psF F0)).2.2.2.2.1 = 2 then 0 else 1) (-11)) := rfl
    first
    | rw [if_pos (by assumption)] at eS
    | rw [if_neg (by assumption)] at eS
    rw [eS] at h
    simp only [stA_26]
    rw [psS_up (by decide), psS_up (by decide), psS_up (by decide), psS_up (by decide)]
    simp only [psS_S]
    have w9 : w32 (F0 25 29 + 1) = F0 25 29 + 1 := w32_id (by omega) (by omega)
    exact h
  · skip
    (try simp only [stA_26] at c1); (try simp only [fiP_22, inS_22, nmS_22, psF_e, psF_q, psF_p, psF_o, psF_t, psF_v] at c1); (try simp (disch := omega) only [w32_0, wbi0, Classical.not_not, w32_id] at c1)
    refine ⟨by first | exact ⟨Or.inl rfl, by omega, by omega⟩ | exact ⟨Or.inr rfl, by omega, by omega⟩ | exact ⟨pt, pn, j0⟩ | exact ⟨pt, pn, j1⟩ | (rw [stA_26]; exact ⟨pt, pn, j0⟩) | (rw [stA_26]; exact ⟨pt, pn, j1⟩), ?_⟩
    refine ⟨by first | exact ⟨Or.inl rfl, by omega, by omega⟩ | exact ⟨Or.inr rfl, by omega, by omega⟩ | exact ⟨pt, pn, j0⟩ | exact ⟨pt, pn, j1⟩ | (rw [stA_26]; exact ⟨pt, pn, j0⟩) | (rw [stA_26]; exact ⟨pt, pn, j1⟩), ?_⟩
    have eS : stS2 A0 (F0 25 20) (F0 25 30) (psF F0) = goM (A0 26) (F0 25 20) (fiP (stS1 A0 (F0 25 20) (F0 25 30) (psF F0)) (if (stS1 A0 (F0 25 20) (F0 25 30) (psF F0)).2.2.2.2.1 = 2 then 0 else 1) (-11)) := rfl
    first
    | rw [if_pos (by assumption)] at eS
    | rw [if_neg (by assumption)] at eS
    rw [eS] at h
    simp only [stA_26]
    rw [psS_up (by decide), psS_up (by decide), psS_up (by decide), psS_up (by decide)]
    simp only [psS_S]
    have w9 : w32 (F0 25 29 + 1) = F0 25 29 + 1 := w32_id (by omega) (by omega)
    exact h
set_option maxRecDepth 20000 in
theorem qvX9_readStatement_25  (F0 : FF) (A0 : AA) (K : KK) (h : ((byO (A0 26) ∧ (0 ≤ (F0 25 20) ∧ (F0 25 20) ≤ 800) ∧ psOK ((F0 25 20)) (psF F0)) ∧ ((0 ≤ A0 27 14 ∧ A0 27 14 ≤ 8) ∧ (0 ≤ A0 27 15 ∧ A0 27 15 ≤ 6)) ∧ (0 ≤ (F0 25 30) ∧ (F0 25 30) ≤ 3) ∧ (0 ≤ (F0 25 29) ∧ (F0 25 29) ≤ 900)) ∧ (K (some none) (upF (upF (upF (psS F0 (stS2 A0 ((F0 25 20)) ((F0 25 30)) (psF F0))) 25 25 (stN A0 ((F0 25 20)) ((F0 25 25)) (psF F0))) 25 30 (stG A0 ((F0 25 20)) ((F0 25 30)) (psF F0))) 25 29 ((F0 25 29) + 1)) (stA A0 ((F0 25 20)) ((F0 25 30)) (psF F0)))) : am_body qxX9_readStatement qnX9_readStatement_25 20 (qiX9_readStatement_25  F0 A0) quX9_readStatement_25 [vR 25] 2 F0 A0 K := by
  refine ⟨qvX9_readStatement_25_0  F0 A0 K h, fun pc ls st F A u hI => ?_⟩
  unfold qiX9_readStatement_25 at hI
  replace hI := am_cond2 hI
  rcases hI with ⟨hb, hI⟩ | hI
  · have hb := am_bq hb
    subst hb
    split at hI
    · rename_i s0
      obtain ⟨e0, hI⟩ := hI
      subst e0
      exact qvX9_readStatement_25_72  _ _ K h _ _ hI
    · exact hI.elim
  exact hI.elim
theorem qtX9_readStatement (l : Launch) (hst : l.stackTraces = false) : am_CT l layM qeX9_readStatement := am_met1 hst rfl (by decide +kernel) rfl rfl rfl rfl rfl (fun _ _ h => by cases h) rfl (qzX9_readStatement l hst) (fun as F A K h => by
  replace h : qsX9_readStatement as F A K := h
  unfold qsX9_readStatement at h
  split at h
  · rename_i o
    refine ⟨by first | exact Nat.le_of_ble_eq_true rfl | simp [am_fl, am_cat], ?_⟩
    replace h := am_cond2 h
    rcases h with ⟨hb, h⟩ | h
    · skip
      have hb0 := hb
      have hb0 := am_bq hb0
      subst hb0
      exact am_way_body (qvX9_readStatement_25  F A K h)
    exact h.elim
  · exact h.elim)
def qkX9_load : Nat → Option CI := fun pc => cond (Nat.ble 165 pc) none (cond (Nat.ble 79 pc) (cond (Nat.ble 122 pc) (cond (Nat.ble 144 pc) (cond (Nat.ble 155 pc) (cond (Nat.ble 160 pc) (cond (Nat.beq pc 160) (some (.aload_n 0, 161, [])) (cond (Nat.beq pc 161) (some (.getfield 285, 164, [])) (cond (Nat.beq pc 164) (some (.ireturn, 165, [])) (none)))) (cond (Nat.beq pc 155) (some (.aload_n 0, 156, [])) (cond (Nat.beq pc 156) (some (.iconst 0, 157, [])) (cond (Nat.beq pc 157) (some (.putfield 295, 160, [])) (none))))) (cond (Nat.ble 150 pc) (cond (Nat.beq pc 150) (some (.aload_n 0, 151, [])) (cond (Nat.beq pc 151) (some (.getfield 232, 154, [])) (cond (Nat.beq pc 154) (some (.ireturn, 155, [])) (none)))) (cond (Nat.beq pc 144) (some (.getfield 19, 147, [])) (cond (Nat.beq pc 147) (some (.invokestatic 288, 150, [])) (none))))) (cond (Nat.ble 133 pc) (cond (Nat.ble 139 pc) (cond (Nat.beq pc 139) (some (.aload_n 0, 140, [])) (cond (Nat.beq pc 140) (some (.getfield 22, 143, [])) (cond (Nat.beq pc 143) (some (.aload_n 0, 144, [])) (none)))) (cond (Nat.beq pc 133) (some (.getfield 13, 136, [])) (cond (Nat.beq pc 136) (some (.invokestatic 288, 139, [])) (none)))) (cond (Nat.ble 128 pc) (cond (Nat.beq pc 128) (some (.aload_n 0, 129, [])) (cond (Nat.beq pc 129) (some (.getfield 16, 132, [])) (cond (Nat.beq pc 132) (some (.aload_n 0, 133, [])) (none)))) (cond (Nat.beq pc 122) (some (.getfield 232, 125, [])) (cond (Nat.beq pc 125) (some (.ifCond .eq 30, 128, [155])) (none)))))) (cond (Nat.ble 99 pc) (cond (Nat.ble 110 pc) (cond (Nat.ble 115 pc) (cond (Nat.beq pc 115) (some (.getfield 235, 118, [])) (cond (Nat.beq pc 118) (some (.putfield 60, 121, [])) (cond (Nat.beq pc 121) (some (.aload_n 0, 122, [])) (none)))) (cond (Nat.beq pc 110) (some (.iconst (-1), 111, [])) (cond (Nat.beq pc 111) (some (.goto 7, 114, [118])) (cond (Nat.beq pc 114) (some (.aload_n 0, 115, [])) (none))))) (cond (Nat.ble 103 pc) (cond (Nat.beq pc 103) (some (.aload_n 0, 104, [])) (cond (Nat.beq pc 104) (some (.getfield 232, 107, [])) (cond (Nat.beq pc 107) (some (.ifCond .ne 7, 110, [114])) (none)))) (cond (Nat.beq pc 99) (some (.putfield 73, 102, [])) (cond (Nat.beq pc 102) (some (.aload_n 0, 103, [])) (none))))) (cond (Nat.ble 90 pc) (cond (Nat.ble 94 pc) (cond (Nat.beq pc 94) (some (.goto (-19), 97, [75])) (cond (Nat.beq pc 97) (some (.aload_n 0, 98, [])) (cond (Nat.beq pc 98) (some (.iconst 0, 99, [])) (none)))) (cond (Nat.beq pc 90) (some (.aload_n 0, 91, [])) (cond (Nat.beq pc 91) (some (.invokevirtual 292, 94, [])) (none)))) (cond (Nat.ble 83 pc) (cond (Nat.beq pc 83) (some (.getfield 204, 86, [])) (cond (Nat.beq pc 86) (some (.iconst 3, 87, [])) (cond (Nat.beq pc 87) (some (.if_icmp .eq 10, 90, [97])) (none)))) (cond (Nat.beq pc 79) (some (.ifCond .ne 18, 82, [97])) (cond (Nat.beq pc 82) (some (.aload_n 0, 83, [])) (none))))))) (cond (Nat.ble 42 pc) (cond (Nat.ble 58 pc) (cond (Nat.ble 67 pc) (cond (Nat.ble 72 pc) (cond (Nat.beq pc 72) (some (.invokevirtual 238, 75, [])) (cond (Nat.beq pc 75) (some (.aload_n 0, 76, [])) (cond (Nat.beq pc 76) (some (.getfield 232, 79, [])) (none)))) (cond (Nat.beq pc 67) (some (.iconst 0, 68, [])) (cond (Nat.beq pc 68) (some (.putfield 270, 71, [])) (cond (Nat.beq pc 71) (some (.aload_n 0, 72, [])) (none))))) (cond (Nat.ble 62 pc) (cond (Nat.beq pc 62) (some (.iconst 0, 63, [])) (cond (Nat.beq pc 63) (some (.putfield 285, 66, [])) (cond (Nat.beq pc 66) (some (.aload_n 0, 67, [])) (none)))) (cond (Nat.beq pc 58) (some (.putfield 232, 61, [])) (cond (Nat.beq pc 61) (some (.aload_n 0, 62, [])) (none))))) (cond (Nat.ble 51 pc) (cond (Nat.ble 53 pc) (cond (Nat.beq pc 53) (some (.putfield 192, 56, [])) (cond (Nat.beq pc 56) (some (.aload_n 0, 57, [])) (cond (Nat.beq pc 57) (some (.iconst 0, 58, [])) (none)))) (cond (Nat.beq pc 51) (some (.aload_n 0, 52, [])) (cond (Nat.beq pc 52) (some (.iconst 0, 53, [])) (none)))) (cond (Nat.ble 46 pc) (cond (Nat.beq pc 46) (some (.aload_n 0, 47, [])) (cond (Nat.beq pc 47) (some (.iload_n 1, 48, [])) (cond (Nat.beq pc 48) (some (.putfield 195, 51, [])) (none)))) (cond (Nat.beq pc 42) (some (.aload_n 0, 43, [])) (cond (Nat.beq pc 43) (some (.invokevirtual 67, 46, [])) (none)))))) (cond (Nat.ble 19 pc) (cond (Nat.ble 28 pc) (cond (Nat.ble 35 pc) (cond (Nat.beq pc 35) (some (.aload_n 0, 36, [])) (cond (Nat.beq pc 36) (some (.getfield 22, 39, [])) (cond (Nat.beq pc 39) (some (.invokestatic 288, 42, [])) (none)))) (cond (Nat.beq pc 28) (some (.invokestatic 288, 31, [])) (cond (Nat.beq pc 31) (some (.aload_n 0, 32, [])) (cond (Nat.beq pc 32) (some (.getfield 19, 35, [])) (none))))) (cond (Nat.ble 21 pc) (cond (Nat.beq pc 21) (some (.getfield 13, 24, [])) (cond (Nat.beq pc 24) (some (.aload_n 0, 25, [])) (cond (Nat.beq pc 25) (some (.getfield 16, 28, [])) (none)))) (cond (Nat.beq pc 19) (some (.ireturn, 20, [])) (cond (Nat.beq pc 20) (some (.aload_n 0, 21, [])) (none))))) (cond (Nat.ble 9 pc) (cond (Nat.ble 11 pc) (cond (Nat.beq pc 11) (some (.getfield 73, 14, [])) (cond (Nat.beq pc 14) (some (.if_icmp .le 6, 17, [20])) (cond (Nat.beq pc 17) (some (.bipush (-2), 19, [])) (none)))) (cond (Nat.beq pc 9) (some (.iload_n 1, 10, [])) (cond (Nat.beq pc 10) (some (.aload_n 0, 11, [])) (none)))) (cond (Nat.ble 2 pc) (cond (Nat.beq pc 2) (some (.putfield 70, 5, [])) (cond (Nat.beq pc 5) (some (.iload_n 1, 6, [])) (cond (Nat.beq pc 6) (some (.ifCond .lt 11, 9, [17])) (none)))) (cond (Nat.beq pc 0) (some (.aload_n 0, 1, [])) (cond (Nat.beq pc 1) (some (.iconst 0, 2, [])) (none))))))))
theorem qkX9_load_ok : ∀ pc i nx ts, qkX9_load pc = some (i, nx, ts) → am_cok cX9_load pc (i, nx, ts) = true := fun pc i nx ts h => am_tok_ok (n := 165) (by decide +kernel) (fun pc h => by show cond (Nat.ble 165 pc) _ _ = _; rw [Nat.ble_eq_true_of_le h]; rfl) h
def qaX9_load : Nat → Option CE := fun k => cond (Nat.beq k 288) (some qeX9_copies) (cond (Nat.beq k 67) (some qeX9_newFigure) (cond (Nat.beq k 238) (some qeX9_next) (cond (Nat.beq k 292) (some qeX9_readStatement) (none))))
theorem qyX9_load (l : Launch) (hst : l.stackTraces = false) : ∀ k e1, qaX9_load k = some e1 → am_cal l layM RX9 16 k e1 ∧ True := q_cons ⟨am_calS (qtX9_copies l) qbX9_copies (by decide) rfl (by decide) (am_tb_at 1493 (by decide +kernel) rfl), trivial⟩ (q_cons ⟨am_calV (ci := 9) (qtX9_newFigure l) qbX9_newFigure (by decide) rfl (am_tb_at 1376 (by decide +kernel) rfl), trivial⟩ (q_cons ⟨am_calV (ci := 9) (qtX9_next l hst) qbX9_next (by decide) rfl (am_tb_at 1496 (by decide +kernel) rfl), trivial⟩ (q_cons ⟨am_calV (ci := 9) (qtX9_readStatement l hst) qbX9_readStatement (by decide) rfl (am_tb_at 1564 (by decide +kernel) rfl), trivial⟩ (q_nil))))
def qxX9_load : CX := (qkX9_load, layM, qfX9, qaX9_load, qcX9, qlX9, qmX9, (some .int), true, none, 0, none, fun _ => none)
theorem qzX9_load (l : Launch) (hst : l.stackTraces = false) : am_sta l qxX9_load RX9 16 cX9_load := ⟨qkX9_load_ok, layM_ok, qfX9_ok, qcX9_ok, qlX9_ok, am_mthP qmX9_ok (by decide), fun k e1 h => (qyX9_load l hst k e1 h).1⟩
def qsX9_load : SP := fun as F A K => match as with
  | [.inr (.inr o), .inl n] => cond (Nat.beq o 25) ((byO (A 26) ∧ (0 ≤ (F 25 2) ∧ (F 25 2) ≤ 800) ∧ (0 ≤ (F 25 27) ∧ (F 25 27) ≤ 800) ∧ (-1 ≤ (F 25 24) ∧ (F 25 24) ≤ 2000000) ∧ (-2147483648 ≤ n ∧ n < 2147483648)) ∧ (∀ (G_1 : FF) (B_1 : AA), (((n < 0 ∨ (F 25 2) < n) → G_1 = upF F 25 0 0 ∧ B_1 = A) ∧ (¬ (n < 0 ∨ (F 25 2) < n) → G_1 = ldG F n (ldT F A n) ∧ B_1 = ldB (ldT F A n))) → (K (some (some (vI (if (n < 0 ∨ (F 25 2) < n) then -2 else if (ldT F A n).1.1 = 0 then (ldT F A n).2.2.2.1 else (ldT F A n).1.1)))) G_1 B_1))) (False)
  | _ => False
def qeX9_load : CE := (yX9_load, cX9_load, 2, (some .int), 1, some 9, 1, [], 0, 16, qsX9_load)
theorem qbX9_load : am_mb qeX9_load := ⟨am_tb_at 1492 (by decide +kernel) rfl, am_tb_at 124 (by decide +kernel) rfl, ⟨by decide, by decide, by decide +kernel⟩, by decide, by decide, am_tb_at 1490 (by decide +kernel) rfl, am_tb_at 1491 (by decide +kernel) rfl, _, _, rfl⟩
def qnX9_load_25 : CUT := fun pc => cond (Nat.beq pc 75) (some [true, true]) (none)
def qiX9_load_25 (n : Int) (F0 : FF) (A0 : AA) : REC := fun pc ls st F A u => cond (Nat.beq pc 75) (match ls, st, u with
    | [some (.inr (.inr s0)), some (.inl s1)], [], 0 => s0 = 25 ∧ s1 = n ∧ ((0 ≤ n ∧ n ≤ F0 25 2) ∧ ∃ (mq : Nat) (sq : PS) (xq gq cq : Int), F = ldF F0 n sq xq gq cq ∧ A 26 = A0 26 ∧ psOK n sq ∧ (0 ≤ gq ∧ gq ≤ 3) ∧ (0 ≤ cq ∧ (sq.1 = 0 → cq ≤ sq.2.2.1)) ∧ ctM A ∧ (sq.1 = 0 → n - sq.2.2.1 < mq) ∧ ldM n mq (sq, xq, gq, cq, A) = ldT F0 A0 n)
    | _, _, _ => False) (False)
def quX9_load_25 : Nat → LVs → List AV → FF → AA → Nat := fun pc ls _ F A => cond (Nat.beq pc 75) (match ls with
    | [some (.inr (.inr s0)), some (.inl s1)] => ldm (F 25 26) (F 25 22)
    | _ => 0) (0)
set_option maxRecDepth 20000 in
theorem qvX9_load_25_0 (n : Int) (F0 : FF) (A0 : AA) (K : KK) (h : (byO (A0 26) ∧ (0 ≤ (F0 25 2) ∧ (F0 25 2) ≤ 800) ∧ (0 ≤ (F0 25 27) ∧ (F0 25 27) ≤ 800) ∧ (-1 ≤ (F0 25 24) ∧ (F0 25 24) ≤ 2000000) ∧ (-2147483648 ≤ n ∧ n < 2147483648)) ∧ (∀ (G_1 : FF) (B_1 : AA), (((n < 0 ∨ (F0 25 2) < n) → G_1 = upF F0 25 0 0 ∧ B_1 = A0) ∧ (¬ (n < 0 ∨ (F0 25 2) < n) → G_1 = ldG F0 n (ldT F0 A0 n) ∧ B_1 = ldB (ldT F0 A0 n))) → (K (some (some (vI (if (n < 0 ∨ (F0 25 2) < n) then -2 else if (ldT F0 A0 n).1.1 = 0 then (ldT F0 A0 n).2.2.2.1 else (ldT F0 A0 n).1.1)))) G_1 B_1))) : am_stp qxX9_load (am_run qxX9_load qnX9_load_25 (qiX9_load_25 n F0 A0) K 41) K 0 (am_ent [vR 25, vI n] 2) [] F0 A0 0 := by
  show am_stp qxX9_load (am_run qxX9_load qnX9_load_25 (qiX9_load_25 n F0 A0) K 41) K 0 [some (vR 25), some (vI n)] [] F0 A0 0
  obtain ⟨hp, h⟩ := h
  obtain ⟨pt, pb, pe, pv, pr⟩ := hp
  show (w32 n < w32 0 → (K (some (some (vI (-2)))) (upF F0 25 0 0) A0)) ∧ (¬ w32 n < w32 0 → ((w32 (F0 25 2) < w32 n → (K (some (some (vI (-2)))) (upF F0 25 0 0) A0)) ∧ (¬ w32 (F0 25 2) < w32 n → ((byO ((setR (setR (setR (setR A0 28 0 16 (A0 27)) 30 0 124 ((setR A0 28 0 16 (A0 27)) 29)) 27 0 16 (fun _ => 0)) 29 0 124 (fun kk => if kk = 122 then 10 else if kk = 123 then 4 else 0)) 26) ∧ (0 ≤ n ∧ n ≤ 800) ∧ (0 ≤ 0 ∧ 0 ≤ n)) ∧ (25 = 25 ∧ n = n ∧ ((0 ≤ n ∧ n ≤ F0 25 2) ∧ ∃ (mq : Nat) (sq : PS) (xq gq cq : Int), (psS (upF (upF (upF (upF (upF (upF F0 25 0 0) 25 20 n) 25 21 0) 25 26 0) 25 29 0) 25 30 0) ((psF (upF (upF (upF (upF (upF (upF F0 25 0 0) 25 20 n) 25 21 0) 25 26 0) 25 29 0) 25 30 0)).1, (psF (upF (upF (upF (upF (upF (upF F0 25 0 0) 25 20 n) 25 21 0) 25 26 0) 25 29 0) 25 30 0)).2.1, nxK ((setR (setR (setR (setR A0 28 0 16 (A0 27)) 30 0 124 ((setR A0 28 0 16 (A0 27)) 29)) 27 0 16 (fun _ => 0)) 29 0 124 (fun kk => if kk = 122 then 10 else if kk = 123 then 4 else 0)) 26) (n) (psF (upF (upF (upF (upF (upF (upF F0 25 0 0) 25 20 n) 25 21 0) 25 26 0) 25 29 0) 25 30 0)).2.2)) = ldF F0 n sq xq gq cq ∧ (setR (setR (setR (setR A0 28 0 16 (A0 27)) 30 0 124 ((setR A0 28 0 16 (A0 27)) 29)) 27 0 16 (fun _ => 0)) 29 0 124 (fun kk => if kk = 122 then 10 else if kk = 123 then 4 else 0)) 26 = A0 26 ∧ psOK n sq ∧ (0 ≤ gq ∧ gq ≤ 3) ∧ (0 ≤ cq ∧ (sq.1 = 0 → cq ≤ sq.2.2.1)) ∧ ctM (setR (setR (setR (setR A0 28 0 16 (A0 27)) 30 0 124 ((setR A0 28 0 16 (A0 27)) 29)) 27 0 16 (fun _ => 0)) 29 0 124 (fun kk => if kk = 122 then 10 else if kk = 123 then 4 else 0)) ∧ (sq.1 = 0 → n - sq.2.2.1 < mq) ∧ ldM n mq (sq, xq, gq, cq, (setR (setR (setR (setR A0 28 0 16 (A0 27)) 30 0 124 ((setR A0 28 0 16 (A0 27)) 29)) 27 0 16 (fun _ => 0)) 29 0 124 (fun kk => if kk = 122 then 10 else if kk = 123 then 4 else 0))) = ldT F0 A0 n))))))
  refine ⟨fun c1 => ?_, fun c1 => ?_⟩
  · skip
    (try simp only [fiP_22, inS_22, nmS_22, psF_e, psF_q, psF_p, psF_o, psF_t, psF_v] at c1); (try simp (disch := omega) only [w32_0, wbi0, Classical.not_not, w32_id] at c1)
    have bad : n < 0 ∨ F0 25 2 < n := by omega
    exact K_eq (h _ _ ⟨fun _ => ⟨rfl, rfl⟩, fun y => absurd bad y⟩) (if_pos bad)
  · skip
    (try simp only [fiP_22, inS_22, nmS_22, psF_e, psF_q, psF_p, psF_o, psF_t, psF_v] at c1); (try simp (disch := omega) only [w32_0, wbi0, Classical.not_not, w32_id] at c1)
    refine ⟨fun c2 => ?_, fun c2 => ?_⟩
    · skip
      (try simp only [fiP_22, inS_22, nmS_22, psF_e, psF_q, psF_p, psF_o, psF_t, psF_v] at c2); (try simp (disch := omega) only [w32_0, wbi0, Classical.not_not, w32_id] at c2)
      have bad : n < 0 ∨ F0 25 2 < n := by omega
      exact K_eq (h _ _ ⟨fun _ => ⟨rfl, rfl⟩, fun y => absurd bad y⟩) (if_pos bad)
    · skip
      (try simp only [fiP_22, inS_22, nmS_22, psF_e, psF_q, psF_p, psF_o, psF_t, psF_v] at c2); (try simp (disch := omega) only [w32_0, wbi0, Classical.not_not, w32_id] at c2)
      refine ⟨by (have e26 : byO (ldA1 A0 26) := (by rw [ldA1_26]; exact pt); exact ⟨e26, ⟨by omega, by omega⟩, ⟨by decide, by omega⟩⟩), ?_⟩
      refine ⟨rfl, rfl, ?_⟩
      have hn : 0 ≤ n := by omega
      have e1 : setR A0 28 0 16 (A0 27) 29 = A0 29 := setR_r (by decide)
      have e26 : ldA1 A0 26 = A0 26 := ldA1_26
      simp only [e1]
      refine ⟨by omega, Int.toNat (n + 3), (ld0 F0 A0 n).1, F0 25 25, 0, 0, ?_, e26, ld0_ok hn (by omega) pe pv, by decide, ⟨by decide, fun _ => (ld0_ok hn (by omega) pe pv).2.2.1.1⟩, ldA1_ct, fun _ => ?_, rfl⟩
      · have e27 : (setR (setR (setR (setR A0 28 0 16 (A0 27)) 30 0 124 (A0 29)) 27 0 16 (fun _ => 0)) 29 0 124 (fun kk => if kk = 122 then 10 else if kk = 123 then 4 else 0)) 26 = A0 26 := e26
        rw [e27]
        exact ldF_0
      · have := (ld0_ok (A := A0) hn (by omega) pe pv).2.2.1.1; omega
set_option maxRecDepth 20000 in
theorem qvX9_load_25_75 (n : Int) (F0 : FF) (A0 : AA) (K : KK) (h : (byO (A0 26) ∧ (0 ≤ (F0 25 2) ∧ (F0 25 2) ≤ 800) ∧ (0 ≤ (F0 25 27) ∧ (F0 25 27) ≤ 800) ∧ (-1 ≤ (F0 25 24) ∧ (F0 25 24) ≤ 2000000) ∧ (-2147483648 ≤ n ∧ n < 2147483648)) ∧ (∀ (G_1 : FF) (B_1 : AA), (((n < 0 ∨ (F0 25 2) < n) → G_1 = upF F0 25 0 0 ∧ B_1 = A0) ∧ (¬ (n < 0 ∨ (F0 25 2) < n) → G_1 = ldG F0 n (ldT F0 A0 n) ∧ B_1 = ldB (ldT F0 A0 n))) → (K (some (some (vI (if (n < 0 ∨ (F0 25 2) < n) then -2 else if (ldT F0 A0 n).1.1 = 0 then (ldT F0 A0 n).2.2.2.1 else (ldT F0 A0 n).1.1)))) G_1 B_1)))  (F : FF) (A : AA) (hi : (0 ≤ n ∧ n ≤ F0 25 2) ∧ ∃ (mq : Nat) (sq : PS) (xq gq cq : Int), F = ldF F0 n sq xq gq cq ∧ A 26 = A0 26 ∧ psOK n sq ∧ (0 ≤ gq ∧ gq ≤ 3) ∧ (0 ≤ cq ∧ (sq.1 = 0 → cq ≤ sq.2.2.1)) ∧ ctM A ∧ (sq.1 = 0 → n - sq.2.2.1 < mq) ∧ ldM n mq (sq, xq, gq, cq, A) = ldT F0 A0 n) : am_stp qxX9_load (am_run qxX9_load qnX9_load_25 (fun pc ls st F9 A9 u => qiX9_load_25 n F0 A0 pc ls st F9 A9 u ∧ quX9_load_25 pc ls st F9 A9 < quX9_load_25 75 [some (vR 25), some (vI n)] [] F A) K 41) K 75 [some (vR 25), some (vI n)] [] F A 0 := by
  obtain ⟨hp, h⟩ := h
  obtain ⟨pt, pb, pe, pv, pr⟩ := hp
  obtain ⟨hn, m, ss, x, g, c, rfl, h26, h5, hg, hc, hct, hm, h7⟩ := hi
  have h5e := h5.1
  have h5p := h5.2.2.1
  have h5t := h5.2.2.2.2.1
  have hlt : ¬ ss.2.2.2.2.1 = 3 → (stS2 A n g ss).1 = 0 → ss.2.2.1 < (stS2 A n g ss).2.2.1 := fun z3 z0 => by
    have q1 : ss.2.2.2.1 ≤ (stS2 A n g ss).2.2.1 := stS2_pl z0
    have q2 := h5.2.2.2.2.2.1 z3
    omega
  show (w32 ss.1 = w32 0 → ((w32 ss.2.2.2.2.1 = w32 3 → ((w32 ss.1 = w32 0 → ((w32 ss.1 = w32 0 → (K (some (some (vI c))) (upF (upF (upF (upF (upF (upF (psS (upF (upF F0 25 0 0) 25 20 n) ss) 25 25 x) 25 30 g) 25 29 c) 25 2 0) 25 28 (-1)) 25 8 0) A)) ∧ (¬ w32 ss.1 = w32 0 → (K (some (some (vI ss.1))) (upF (upF (upF (upF (upF (psS (upF (upF F0 25 0 0) 25 20 n) ss) 25 25 x) 25 30 g) 25 29 c) 25 2 0) 25 28 (-1)) (setR (setR A 27 0 16 (A 28)) 29 0 124 ((setR A 27 0 16 (A 28)) 30)))))) ∧ (¬ w32 ss.1 = w32 0 → ((w32 ss.1 = w32 0 → (K (some (some (vI c))) (upF (upF (upF (upF (upF (upF (psS (upF (upF F0 25 0 0) 25 20 n) ss) 25 25 x) 25 30 g) 25 29 c) 25 2 0) 25 28 ss.2.1) 25 8 0) A)) ∧ (¬ w32 ss.1 = w32 0 → (K (some (some (vI ss.1))) (upF (upF (upF (upF (upF (psS (upF (upF F0 25 0 0) 25 20 n) ss) 25 25 x) 25 30 g) 25 29 c) 25 2 0) 25 28 ss.2.1) (setR (setR A 27 0 16 (A 28)) 29 0 124 ((setR A 27 0 16 (A 28)) 30)))))))) ∧ (¬ w32 ss.2.2.2.2.1 = w32 3 → (((byO (A 26) ∧ (0 ≤ n ∧ n ≤ 800) ∧ psOK (n) (ss)) ∧ ((0 ≤ A 27 14 ∧ A 27 14 ≤ 8) ∧ (0 ≤ A 27 15 ∧ A 27 15 ≤ 6)) ∧ (0 ≤ g ∧ g ≤ 3) ∧ (0 ≤ c ∧ c ≤ 900)) ∧ ((25 = 25 ∧ n = n ∧ ((0 ≤ n ∧ n ≤ F0 25 2) ∧ ∃ (mq : Nat) (sq : PS) (xq gq cq : Int), (upF (upF (upF (psS (upF (upF (upF (psS (upF (upF F0 25 0 0) 25 20 n) ss) 25 25 x) 25 30 g) 25 29 c) (stS2 A (n) (g) (ss))) 25 25 (stN A (n) (x) (ss))) 25 30 (stG A (n) (g) (ss))) 25 29 (c + 1)) = ldF F0 n sq xq gq cq ∧ (stA A (n) (g) (ss)) 26 = A0 26 ∧ psOK n sq ∧ (0 ≤ gq ∧ gq ≤ 3) ∧ (0 ≤ cq ∧ (sq.1 = 0 → cq ≤ sq.2.2.1)) ∧ ctM (stA A (n) (g) (ss)) ∧ (sq.1 = 0 → n - sq.2.2.1 < mq) ∧ ldM n mq (sq, xq, gq, cq, (stA A (n) (g) (ss))) = ldT F0 A0 n)) ∧ (ldm ((upF (upF (upF (psS (upF (upF (upF (psS (upF (upF F0 25 0 0) 25 20 n) ss) 25 25 x) 25 30 g) 25 29 c) (stS2 A (n) (g) (ss))) 25 25 (stN A (n) (x) (ss))) 25 30 (stG A (n) (g) (ss))) 25 29 (c + 1)) 25 26) ((upF (upF (upF (psS (upF (upF (upF (psS (upF (upF F0 25 0 0) 25 20 n) ss) 25 25 x) 25 30 g) 25 29 c) (stS2 A (n) (g) (ss))) 25 25 (stN A (n) (x) (ss))) 25 30 (stG A (n) (g) (ss))) 25 29 (c + 1)) 25 22)) < (ldm ((upF (upF (upF (psS (upF (upF F0 25 0 0) 25 20 n) ss) 25 25 x) 25 30 g) 25 29 c) 25 26) ((upF (upF (upF (psS (upF (upF F0 25 0 0) 25 20 n) ss) 25 25 x) 25 30 g) 25 29 c) 25 22))))))) ∧ (¬ w32 ss.1 = w32 0 → ((w32 ss.1 = w32 0 → ((w32 ss.1 = w32 0 → (K (some (some (vI c))) (upF (upF (upF (upF (upF (upF (psS (upF (upF F0 25 0 0) 25 20 n) ss) 25 25 x) 25 30 g) 25 29 c) 25 2 0) 25 28 (-1)) 25 8 0) A)) ∧ (¬ w32 ss.1 = w32 0 → (K (some (some (vI ss.1))) (upF (upF (upF (upF (upF (psS (upF (upF F0 25 0 0) 25 20 n) ss) 25 25 x) 25 30 g) 25 29 c) 25 2 0) 25 28 (-1)) (setR (setR A 27 0 16 (A 28)) 29 0 124 ((setR A 27 0 16 (A 28)) 30)))))) ∧ (¬ w32 ss.1 = w32 0 → ((w32 ss.1 = w32 0 → (K (some (some (vI c))) (upF (upF (upF (upF (upF (upF (psS (upF (upF F0 25 0 0) 25 20 n) ss) 25 25 x) 25 30 g) 25 29 c) 25 2 0) 25 28 ss.2.1) 25 8 0) A)) ∧ (¬ w32 ss.1 = w32 0 → (K (some (some (vI ss.1))) (upF (upF (upF (upF (upF (psS (upF (upF F0 25 0 0) 25 20 n) ss) 25 25 x) 25 30 g) 25 29 c) 25 2 0) 25 28 ss.2.1) (setR (setR A 27 0 16 (A 28)) 29 0 124 ((setR A 27 0 16 (A 28)) 30))))))))
  refine ⟨fun c1 => ?_, fun c1 => ?_⟩
  · skip
    (try simp only [fiP_22, inS_22, nmS_22, psF_e, psF_q, psF_p, psF_o, psF_t, psF_v] at c1); (try simp (disch := omega) only [w32_0, wbi0, Classical.not_not, w32_id] at c1)
    refine ⟨fun c2 => ?_, fun c2 => ?_⟩
    · skip
      (try simp only [fiP_22, inS_22, nmS_22, psF_e, psF_q, psF_p, psF_o, psF_t, psF_v] at c2); (try simp (disch := omega) only [w32_0, wbi0, Classical.not_not, w32_id] at c2)
      refine ⟨fun c3 => ?_, fun c3 => ?_⟩
      · skip
        (try simp only [fiP_22, inS_22, nmS_22, psF_e, psF_q, psF_p, psF_o, psF_t, psF_v] at c3); (try simp (disch := omega) only [w32_0, wbi0, Classical.not_not, w32_id] at c3)
        refine ⟨fun c4 => ?_, fun c4 => ?_⟩
        · skip
          (try simp only [fiP_22, inS_22, nmS_22, psF_e, psF_q, psF_p, psF_o, psF_t, psF_v] at c4); (try simp (disch := omega) only [w32_0, wbi0, Classical.not_not, w32_id] at c4)
          first
          | (exfalso; omega)
          | (have e0 : ss.1 = 0 := by assumption
             have e3 : ss.2.2.2.2.1 = 3 := by assumption
             rw [ldM_n (fun y => y.2 e3)] at h7
             refine K_eq (h _ _ ⟨fun y => absurd y (by omega), fun _ => ?_⟩) ?_
             · rw [← h7]
               exact ⟨(if_pos e0).symm, (if_pos e0).symm⟩
             · rw [if_neg (by omega), ← h7, if_pos e0])
          | (have e0 : ¬ ss.1 = 0 := by assumption
             rw [ldM_n (fun y => e0 y.1)] at h7
             refine K_eq (h _ _ ⟨fun y => absurd y (by omega), fun _ => ?_⟩) ?_
             · rw [← h7]
               have e9 : setR A 27 0 16 (A 28) 30 = A 30 := setR_r (by decide)
               refine ⟨(if_neg e0).symm, ?_⟩
               rw [e9]
               exact (if_neg e0).symm
             · rw [if_neg (by omega), ← h7, if_neg e0])
        · skip
          (try simp only [fiP_22, inS_22, nmS_22, psF_e, psF_q, psF_p, psF_o, psF_t, psF_v] at c4); (try simp (disch := omega) only [w32_0, wbi0, Classical.not_not, w32_id] at c4)
          first
          | (exfalso; omega)
          | (have e0 : ss.1 = 0 := by assumption
             have e3 : ss.2.2.2.2.1 = 3 := by assumption
             rw [ldM_n (fun y => y.2 e3)] at h7
             refine K_eq (h _ _ ⟨fun y => absurd y (by omega), fun _ => ?_⟩) ?_
             · rw [← h7]
               exact ⟨(if_pos e0).symm, (if_pos e0).symm⟩
             · rw [if_neg (by omega), ← h7, if_pos e0])
          | (have e0 : ¬ ss.1 = 0 := by assumption
             rw [ldM_n (fun y => e0 y.1)] at h7
             refine K_eq (h _ _ ⟨fun y => absurd y (by omega), fun _ => ?_⟩) ?_
             · rw [← h7]
               have e9 : setR A 27 0 16 (A 28) 30 = A 30 := setR_r (by decide)
               refine ⟨(if_neg e0).symm, ?_⟩
               rw [e9]
               exact (if_neg e0).symm
             · rw [if_neg (by omega), ← h7, if_neg e0])
      · skip
        (try simp only [fiP_22, inS_22, nmS_22, psF_e, psF_q, psF_p, psF_o, psF_t, psF_v] at c3); (try simp (disch := omega) only [w32_0, wbi0, Classical.not_not, w32_id] at c3)
        refine ⟨fun c4 => ?_, fun c4 => ?_⟩
        · skip
          (try simp only [fiP_22, inS_22, nmS_22, psF_e, psF_q, psF_p, psF_o, psF_t, psF_v] at c4); (try simp (disch := omega) only [w32_0, wbi0, Classical.not_not, w32_id] at c4)
          first
          | (exfalso; omega)
          | (have e0 : ss.1 = 0 := by assumption
             have e3 : ss.2.2.2.2.1 = 3 := by assumption
             rw [ldM_n (fun y => y.2 e3)] at h7
             refine K_eq (h _ _ ⟨fun y => absurd y (by omega), fun _ => ?_⟩) ?_
             · rw [← h7]
               exact ⟨(if_pos e0).symm, (if_pos e0).symm⟩
             · rw [if_neg (by omega), ← h7, if_pos e0])
          | (have e0 : ¬ ss.1 = 0 := by assumption
             rw [ldM_n (fun y => e0 y.1)] at h7
             refine K_eq (h _ _ ⟨fun y => absurd y (by omega), fun _ => ?_⟩) ?_
             · rw [← h7]
               have e9 : setR A 27 0 16 (A 28) 30 = A 30 := setR_r (by decide)
               refine ⟨(if_neg e0).symm, ?_⟩
               rw [e9]
               exact (if_neg e0).symm
             · rw [if_neg (by omega), ← h7, if_neg e0])
        · skip
          (try simp only [fiP_22, inS_22, nmS_22, psF_e, psF_q, psF_p, psF_o, psF_t, psF_v] at c4); (try simp (disch := omega) only [w32_0, wbi0, Classical.not_not, w32_id] at c4)
          first
          | (exfalso; omega)
          | (have e0 : ss.1 = 0 := by assumption
             have e3 : ss.2.2.2.2.1 = 3 := by assumption
             rw [ldM_n (fun y => y.2 e3)] at h7
             refine K_eq (h _ _ ⟨fun y => absurd y (by omega), fun _ => ?_⟩) ?_
             · rw [← h7]
               exact ⟨(if_pos e0).symm, (if_pos e0).symm⟩
             · rw [if_neg (by omega), ← h7, if_pos e0])
          | (have e0 : ¬ ss.1 = 0 := by assumption
             rw [ldM_n (fun y => e0 y.1)] at h7
             refine K_eq (h _ _ ⟨fun y => absurd y (by omega), fun _ => ?_⟩) ?_
             · rw [← h7]
               have e9 : setR A 27 0 16 (A 28) 30 = A 30 := setR_r (by decide)
               refine ⟨(if_neg e0).symm, ?_⟩
               rw [e9]
               exact (if_neg e0).symm
             · rw [if_neg (by omega), ← h7, if_neg e0])
    · skip
      (try simp only [fiP_22, inS_22, nmS_22, psF_e, psF_q, psF_p, psF_o, psF_t, psF_v] at c2); (try simp (disch := omega) only [w32_0, wbi0, Classical.not_not, w32_id] at c2)
      refine ⟨by exact ⟨⟨h26.symm ▸ pt, ⟨hn.1, by omega⟩, h5⟩, hct, hg, hc.1, by have := hc.2 (by assumption); omega⟩, ?_⟩
      refine ⟨⟨rfl, rfl, ?_⟩, by exact ldm_lt (by assumption) (fun e9 => hlt (by assumption) e9) (show ss.2.2.1 < 900 by omega)⟩
      have e0 : ss.1 = 0 := by assumption
      have e3 : ¬ ss.2.2.2.2.1 = 3 := by assumption
      obtain ⟨j, rfl⟩ : ∃ j : Nat, m = j + 1 := ⟨m - 1, by have := hm e0; omega⟩
      have st : ldM n (j + 1) (ss, x, g, c, A) = ldM n j (stS2 A n g ss, stN A n x ss, stG A n g ss, c + 1, stA A n g ss) := by
        show (if ss.1 = 0 ∧ ¬ ss.2.2.2.2.1 = 3 then _ else _) = _
        rw [if_pos ⟨e0, e3⟩]
      rw [st] at h7
      refine ⟨hn, j, stS2 A n g ss, stN A n x ss, stG A n g ss, c + 1, ldF_st, by rw [stA_26, h26], stS2_ok h5 hn.1 (by omega), stG_b hg, ⟨by omega, fun e9 => ?_⟩, stA_ct hct, fun e9 => ?_, h7⟩
      · have := hlt e3 e9; have := hc.2 e0; omega
      · have := hlt e3 e9; have := hm e0; omega
  · skip
    (try simp only [fiP_22, inS_22, nmS_22, psF_e, psF_q, psF_p, psF_o, psF_t, psF_v] at c1); (try simp (disch := omega) only [w32_0, wbi0, Classical.not_not, w32_id] at c1)
    refine ⟨fun c2 => ?_, fun c2 => ?_⟩
    · skip
      (try simp only [fiP_22, inS_22, nmS_22, psF_e, psF_q, psF_p, psF_o, psF_t, psF_v] at c2); (try simp (disch := omega) only [w32_0, wbi0, Classical.not_not, w32_id] at c2)
      refine ⟨fun c3 => ?_, fun c3 => ?_⟩
      · skip
        (try simp only [fiP_22, inS_22, nmS_22, psF_e, psF_q, psF_p, psF_o, psF_t, psF_v] at c3); (try simp (disch := omega) only [w32_0, wbi0, Classical.not_not, w32_id] at c3)
        first
        | (exfalso; omega)
        | (have e0 : ss.1 = 0 := by assumption
           have e3 : ss.2.2.2.2.1 = 3 := by assumption
           rw [ldM_n (fun y => y.2 e3)] at h7
           refine K_eq (h _ _ ⟨fun y => absurd y (by omega), fun _ => ?_⟩) ?_
           · rw [← h7]
             exact ⟨(if_pos e0).symm, (if_pos e0).symm⟩
           · rw [if_neg (by omega), ← h7, if_pos e0])
        | (have e0 : ¬ ss.1 = 0 := by assumption
           rw [ldM_n (fun y => e0 y.1)] at h7
           refine K_eq (h _ _ ⟨fun y => absurd y (by omega), fun _ => ?_⟩) ?_
           · rw [← h7]
             have e9 : setR A 27 0 16 (A 28) 30 = A 30 := setR_r (by decide)
             refine ⟨(if_neg e0).symm, ?_⟩
             rw [e9]
             exact (if_neg e0).symm
           · rw [if_neg (by omega), ← h7, if_neg e0])
      · skip
        (try simp only [fiP_22, inS_22, nmS_22, psF_e, psF_q, psF_p, psF_o, psF_t, psF_v] at c3); (try simp (disch := omega) only [w32_0, wbi0, Classical.not_not, w32_id] at c3)
        first
        | (exfalso; omega)
        | (have e0 : ss.1 = 0 := by assumption
           have e3 : ss.2.2.2.2.1 = 3 := by assumption
           rw [ldM_n (fun y => y.2 e3)] at h7
           refine K_eq (h _ _ ⟨fun y => absurd y (by omega), fun _ => ?_⟩) ?_
           · rw [← h7]
             exact ⟨(if_pos e0).symm, (if_pos e0).symm⟩
           · rw [if_neg (by omega), ← h7, if_pos e0])
        | (have e0 : ¬ ss.1 = 0 := by assumption
           rw [ldM_n (fun y => e0 y.1)] at h7
           refine K_eq (h _ _ ⟨fun y => absurd y (by omega), fun _ => ?_⟩) ?_
           · rw [← h7]
             have e9 : setR A 27 0 16 (A 28) 30 = A 30 := setR_r (by decide)
             refine ⟨(if_neg e0).symm, ?_⟩
             rw [e9]
             exact (if_neg e0).symm
           · rw [if_neg (by omega), ← h7, if_neg e0])
    · skip
      (try simp only [fiP_22, inS_22, nmS_22, psF_e, psF_q, psF_p, psF_o, psF_t, psF_v] at c2); (try simp (disch := omega) only [w32_0, wbi0, Classical.not_not, w32_id] at c2)
      refine ⟨fun c3 => ?_, fun c3 => ?_⟩
      · skip
        (try simp only [fiP_22, inS_22, nmS_22, psF_e, psF_q, psF_p, psF_o, psF_t, psF_v] at c3); (try simp (disch := omega) only [w32_0, wbi0, Classical.not_not, w32_id] at c3)
        first
        | (exfalso; omega)
        | (have e0 : ss.1 = 0 := by assumption
           have e3 : ss.2.2.2.2.1 = 3 := by assumption
           rw [ldM_n (fun y => y.2 e3)] at h7
           refine K_eq (h _ _ ⟨fun y => absurd y (by omega), fun _ => ?_⟩) ?_
           · rw [← h7]
             exact ⟨(if_pos e0).symm, (if_pos e0).symm⟩
           · rw [if_neg (by omega), ← h7, if_pos e0])
        | (have e0 : ¬ ss.1 = 0 := by assumption
           rw [ldM_n (fun y => e0 y.1)] at h7
           refine K_eq (h _ _ ⟨fun y => absurd y (by omega), fun _ => ?_⟩) ?_
           · rw [← h7]
             have e9 : setR A 27 0 16 (A 28) 30 = A 30 := setR_r (by decide)
             refine ⟨(if_neg e0).symm, ?_⟩
             rw [e9]
             exact (if_neg e0).symm
           · rw [if_neg (by omega), ← h7, if_neg e0])
      · skip
        (try simp only [fiP_22, inS_22, nmS_22, psF_e, psF_q, psF_p, psF_o, psF_t, psF_v] at c3); (try simp (disch := omega) only [w32_0, wbi0, Classical.not_not, w32_id] at c3)
        first
        | (exfalso; omega)
        | (have e0 : ss.1 = 0 := by assumption
           have e3 : ss.2.2.2.2.1 = 3 := by assumption
           rw [ldM_n (fun y => y.2 e3)] at h7
           refine K_eq (h _ _ ⟨fun y => absurd y (by omega), fun _ => ?_⟩) ?_
           · rw [← h7]
             exact ⟨(if_pos e0).symm, (if_pos e0).symm⟩
           · rw [if_neg (by omega), ← h7, if_pos e0])
        | (have e0 : ¬ ss.1 = 0 := by assumption
           rw [ldM_n (fun y => e0 y.1)] at h7
           refine K_eq (h _ _ ⟨fun y => absurd y (by omega), fun _ => ?_⟩) ?_
           · rw [← h7]
             have e9 : setR A 27 0 16 (A 28) 30 = A 30 := setR_r (by decide)
             refine ⟨(if_neg e0).symm, ?_⟩
             rw [e9]
             exact (if_neg e0).symm
           · rw [if_neg (by omega), ← h7, if_neg e0])
set_option maxRecDepth 20000 in
theorem qvX9_load_25 (n : Int) (F0 : FF) (A0 : AA) (K : KK) (h : (byO (A0 26) ∧ (0 ≤ (F0 25 2) ∧ (F0 25 2) ≤ 800) ∧ (0 ≤ (F0 25 27) ∧ (F0 25 27) ≤ 800) ∧ (-1 ≤ (F0 25 24) ∧ (F0 25 24) ≤ 2000000) ∧ (-2147483648 ≤ n ∧ n < 2147483648)) ∧ (∀ (G_1 : FF) (B_1 : AA), (((n < 0 ∨ (F0 25 2) < n) → G_1 = upF F0 25 0 0 ∧ B_1 = A0) ∧ (¬ (n < 0 ∨ (F0 25 2) < n) → G_1 = ldG F0 n (ldT F0 A0 n) ∧ B_1 = ldB (ldT F0 A0 n))) → (K (some (some (vI (if (n < 0 ∨ (F0 25 2) < n) then -2 else if (ldT F0 A0 n).1.1 = 0 then (ldT F0 A0 n).2.2.2.1 else (ldT F0 A0 n).1.1)))) G_1 B_1))) : am_body qxX9_load qnX9_load_25 41 (qiX9_load_25 n F0 A0) quX9_load_25 [vR 25, vI n] 2 F0 A0 K := by
  refine ⟨qvX9_load_25_0 n F0 A0 K h, fun pc ls st F A u hI => ?_⟩
  unfold qiX9_load_25 at hI
  replace hI := am_cond2 hI
  rcases hI with ⟨hb, hI⟩ | hI
  · have hb := am_bq hb
    subst hb
    split at hI
    · rename_i s0 s1
      obtain ⟨e0, e1, hI⟩ := hI
      subst e0
      subst e1
      exact qvX9_load_25_75 _ _ _ K h _ _ hI
    · exact hI.elim
  exact hI.elim
theorem qtX9_load (l : Launch) (hst : l.stackTraces = false) : am_CT l layM qeX9_load := am_met1 hst rfl (by decide +kernel) rfl rfl rfl rfl rfl (fun _ _ h => by cases h) rfl (qzX9_load l hst) (fun as F A K h => by
  replace h : qsX9_load as F A K := h
  unfold qsX9_load at h
  split at h
  · rename_i o n
    refine ⟨by first | exact Nat.le_of_ble_eq_true rfl | simp [am_fl, am_cat], ?_⟩
    replace h := am_cond2 h
    rcases h with ⟨hb, h⟩ | h
    · skip
      have hb0 := hb
      have hb0 := am_bq hb0
      subst hb0
      exact am_way_body (qvX9_load_25 n F A K h)
    exact h.elim
  · exact h.elim)
