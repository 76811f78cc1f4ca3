def qkX9_readStatement : Nat → Option CI := fun pc => cond (Nat.ble 106 pc) none (cond (Nat.ble 67 pc) (cond (Nat.ble 86 pc) (cond (Nat.ble 96 pc) (cond (Nat.ble 101 pc) (cond (Nat.beq pc 101) (some (.iadd, 102, [])) (cond (Nat.beq pc 102) (some (.putfield 285, 105, [])) (cond (Nat.beq pc 105) (some (.return_, 106, [])) (none)))) (cond (Nat.beq pc 96) (some (.dup, 97, [])) (cond (Nat.beq pc 97) (some (.getfield 285, 100, [])) (cond (Nat.beq pc 100) (some (.iconst 1, 101, [])) (none))))) (cond (Nat.ble 91 pc) (cond (Nat.beq pc 91) (some (.aload_n 0, 92, [])) (cond (Nat.beq pc 92) (some (.invokevirtual 248, 95, [])) (cond (Nat.beq pc 95) (some (.aload_n 0, 96, [])) (none)))) (cond (Nat.beq pc 86) (some (.bipush (-11), 88, [])) (cond (Nat.beq pc 88) (some (.invokevirtual 241, 91, [])) (none))))) (cond (Nat.ble 77 pc) (cond (Nat.ble 81 pc) (cond (Nat.beq pc 81) (some (.iconst 1, 82, [])) (cond (Nat.beq pc 82) (some (.goto 4, 85, [86])) (cond (Nat.beq pc 85) (some (.iconst 0, 86, [])) (none)))) (cond (Nat.beq pc 77) (some (.iconst 2, 78, [])) (cond (Nat.beq pc 78) (some (.if_icmp .eq 7, 81, [85])) (none)))) (cond (Nat.ble 72 pc) (cond (Nat.beq pc 72) (some (.aload_n 0, 73, [])) (cond (Nat.beq pc 73) (some (.aload_n 0, 74, [])) (cond (Nat.beq pc 74) (some (.getfield 204, 77, [])) (none)))) (cond (Nat.beq pc 67) (some (.bipush (-11), 69, [])) (cond (Nat.beq pc 69) (some (.invokevirtual 241, 72, [])) (none)))))) (cond (Nat.ble 44 pc) (cond (Nat.ble 55 pc) (cond (Nat.ble 62 pc) (cond (Nat.beq pc 62) (some (.goto 10, 65, [72])) (cond (Nat.beq pc 65) (some (.aload_n 0, 66, [])) (cond (Nat.beq pc 66) (some (.iconst 1, 67, [])) (none)))) (cond (Nat.beq pc 55) (some (.goto 17, 58, [72])) (cond (Nat.beq pc 58) (some (.aload_n 0, 59, [])) (cond (Nat.beq pc 59) (some (.invokevirtual 282, 62, [])) (none))))) (cond (Nat.ble 48 pc) (cond (Nat.beq pc 48) (some (.goto 24, 51, [72])) (cond (Nat.beq pc 51) (some (.aload_n 0, 52, [])) (cond (Nat.beq pc 52) (some (.invokevirtual 279, 55, [])) (none)))) (cond (Nat.beq pc 44) (some (.aload_n 0, 45, [])) (cond (Nat.beq pc 45) (some (.invokevirtual 276, 48, [])) (none))))) (cond (Nat.ble 11 pc) (cond (Nat.ble 15 pc) (cond (Nat.beq pc 15) (some (.istore_n 1, 16, [])) (cond (Nat.beq pc 16) (some (.iload_n 1, 17, [])) (cond (Nat.beq pc 17) (some (.tableswitch 48 0 2 #[27, 34, 41], 44, [65, 44, 51, 58])) (none)))) (cond (Nat.beq pc 11) (some (.goto 4, 14, [15])) (cond (Nat.beq pc 14) (some (.iconst (-1), 15, [])) (none)))) (cond (Nat.ble 4 pc) (cond (Nat.beq pc 4) (some (.ifCond .ne 10, 7, [14])) (cond (Nat.beq pc 7) (some (.aload_n 0, 8, [])) (cond (Nat.beq pc 8) (some (.getfield 214, 11, [])) (none)))) (cond (Nat.beq pc 0) (some (.aload_n 0, 1, [])) (cond (Nat.beq pc 1) (some (.getfield 204, 4, [])) (none)))))))
theorem qkX9_readStatement_ok : ∀ pc i nx ts, qkX9_readStatement pc = some (i, nx, ts) → am_cok cX9_readStatement pc (i, nx, ts) = true := fun pc i nx ts h => am_tok_ok (n := 106) (by decide +kernel) (fun pc h => by show cond (Nat.ble 106 pc) _ _ = _; rw [Nat.ble_eq_true_of_le h]; rfl) h
def qaX9_readStatement : Nat → Option CE := fun k => cond (Nat.beq k 276) (some qeX9_readCurve) (cond (Nat.beq k 279) (some qeX9_readLine) (cond (Nat.beq k 282) (some qeX9_readSetting) (cond (Nat.beq k 241) (some qeX9_failsIf) (cond (Nat.beq k 248) (some qeX9_goOn) (none)))))
theorem qyX9_readStatement (l : Launch) (hst : l.stackTraces = false) : ∀ k e1, qaX9_readStatement k = some e1 → am_cal l layM RX9 15 k e1 ∧ True := q_cons ⟨am_calV (ci := 9) (qtX9_readCurve l hst) qbX9_readCurve (by decide) rfl (am_tb_at 1568 (by decide +kernel) rfl), trivial⟩ (q_cons ⟨am_calV (ci := 9) (qtX9_readLine l hst) qbX9_readLine (by decide) rfl (am_tb_at 1600 (by decide +kernel) rfl), trivial⟩ (q_cons ⟨am_calV (ci := 9) (qtX9_readSetting l hst) qbX9_readSetting (by decide) rfl (am_tb_at 1608 (by decide +kernel) rfl), trivial⟩ (q_cons ⟨am_calV (ci := 9) (qtX9_failsIf l) qbX9_failsIf (by decide) rfl (am_tb_at 1572 (by decide +kernel) rfl), trivial⟩ (q_cons ⟨am_calV (ci := 9) (qtX9_goOn l hst) qbX9_goOn (by decide) rfl (am_tb_at 1576 (by decide +kernel) rfl), trivial⟩ (q_nil)))))
def qxX9_readStatement : CX := (qkX9_readStatement, layM, qfX9, qaX9_readStatement, qcX9, qlX9, qmX9, none, true, none, 0, none, fun _ => none)
theorem qzX9_readStatement (l : Launch) (hst : l.stackTraces = false) : am_sta l qxX9_readStatement RX9 15 cX9_readStatement := ⟨qkX9_readStatement_ok, layM_ok, qfX9_ok, qcX9_ok, qlX9_ok, am_mthP qmX9_ok (by decide), fun k e1 h => (qyX9_readStatement l hst k e1 h).1⟩
def qsX9_readStatement : SP := fun as F A K => match as with
  | [.inr (.inr o)] => cond (Nat.beq o 25) (((byO (A 26) ∧ (0 ≤ (F 25 20) ∧ (F 25 20) ≤ 800) ∧ psOK ((F 25 20)) (psF F)) ∧ ((0 ≤ A 27 14 ∧ A 27 14 ≤ 8) ∧ (0 ≤ A 27 15 ∧ A 27 15 ≤ 6)) ∧ (0 ≤ (F 25 30) ∧ (F 25 30) ≤ 3) ∧ (0 ≤ (F 25 29) ∧ (F 25 29) ≤ 900)) ∧ (K (some none) (upF (upF (upF (psS F (stS2 A ((F 25 20)) ((F 25 30)) (psF F))) 25 25 (stN A ((F 25 20)) ((F 25 25)) (psF F))) 25 30 (stG A ((F 25 20)) ((F 25 30)) (psF F))) 25 29 ((F 25 29) + 1)) (stA A ((F 25 20)) ((F 25 30)) (psF F)))) (False)
  | _ => False
def qeX9_readStatement : CE := (yX9_readStatement, cX9_readStatement, 2, none, 0, some 9, 1, [], 0, 15, qsX9_readStatement)
theorem qbX9_readStatement : am_mb qeX9_readStatement := ⟨am_tb_at 1567 (by decide +kernel) rfl, am_tb_at 124 (by decide +kernel) rfl, ⟨by decide, by decide, by decide +kernel⟩, by decide, by decide, am_tb_at 1566 (by decide +kernel) rfl, am_tb_at 52 (by decide +kernel) rfl, _, _, rfl⟩
def qnX9_readStatement_25 : CUT := fun pc => cond (Nat.beq pc 72) (some [true, false]) (none)
def qiX9_readStatement_25  (F0 : FF) (A0 : AA) : REC := fun pc ls st F A u => cond (Nat.beq pc 72) (match ls, st, u with
    | [some (.inr (.inr s0)), none], [], 0 => s0 = 25 ∧ (F = upF (upF (psS F0 (stS1 A0 (F0 25 20) (F0 25 30) (psF F0))) 25 25 (stN A0 (F0 25 20) (F0 25 25) (psF F0))) 25 30 (stG A0 (F0 25 20) (F0 25 30) (psF F0)) ∧ A = stA A0 (F0 25 20) (F0 25 30) (psF F0))
    | _, _, _ => False) (False)
def quX9_readStatement_25 : Nat → LVs → List AV → FF → AA → Nat := fun pc ls _ F A => cond (Nat.beq pc 72) (match ls with
    | [some (.inr (.inr s0)), none] => 0
    | _ => 0) (0)
set_option maxRecDepth 20000 in
theorem qvX9_readStatement_25_0  (F0 : FF) (A0 : AA) (K : KK) (h : ((byO (A0 26) ∧ (0 ≤ (F0 25 20) ∧ (F0 25 20) ≤ 800) ∧ psOK ((F0 25 20)) (psF F0)) ∧ ((0 ≤ A0 27 14 ∧ A0 27 14 ≤ 8) ∧ (0 ≤ A0 27 15 ∧ A0 27 15 ≤ 6)) ∧ (0 ≤ (F0 25 30) ∧ (F0 25 30) ≤ 3) ∧ (0 ≤ (F0 25 29) ∧ (F0 25 29) ≤ 900)) ∧ (K (some none) (upF (upF (upF (psS F0 (stS2 A0 ((F0 25 20)) ((F0 25 30)) (psF F0))) 25 25 (stN A0 ((F0 25 20)) ((F0 25 25)) (psF F0))) 25 30 (stG A0 ((F0 25 20)) ((F0 25 30)) (psF F0))) 25 29 ((F0 25 29) + 1)) (stA A0 ((F0 25 20)) ((F0 25 30)) (psF F0)))) : am_stp qxX9_readStatement (am_run qxX9_readStatement qnX9_readStatement_25 (qiX9_readStatement_25  F0 A0) K 20) K 0 (am_ent [vR 25] 2) [] F0 A0 0 := by
  show am_stp qxX9_readStatement (am_run qxX9_readStatement qnX9_readStatement_25 (qiX9_readStatement_25  F0 A0) K 20) K 0 [some (vR 25), none] [] F0 A0 0
  obtain ⟨hp, h⟩ := h
  obtain ⟨⟨pt, pn, pk⟩, pc, pg, pm⟩ := hp
  have ke : -14 ≤ F0 25 26 ∧ F0 25 26 ≤ 0 := pk.1
  have kt : 0 ≤ F0 25 23 ∧ F0 25 23 ≤ 4 := pk.2.2.2.2.1
  have kv : -1 ≤ F0 25 24 ∧ F0 25 24 ≤ 2000000 := pk.2.2.2.2.2.2
  have k1 : psOK (F0 25 20) (stS1 A0 (F0 25 20) (F0 25 30) (psF F0)) := stS1_ok pk pn.1 pn.2
  have k1e := k1.1
  have k1t := k1.2.2.2.2.1
  have j0 := fiP_ok (z := 0) (v := -11) k1 pn.2 (by decide)
  have j1 := fiP_ok (z := 1) (v := -11) k1 pn.2 (by decide)
  show (w32 (F0 25 23) = w32 0 → (((w32 (F0 25 24) = 0 → (((byO (A0 26) ∧ (0 ≤ (F0 25 20) ∧ (F0 25 20) ≤ 800) ∧ psOK ((F0 25 20)) (psF F0)) ∧ ((0 ≤ A0 27 14 ∧ A0 27 14 ≤ 8) ∧ (0 ≤ A0 27 15 ∧ A0 27 15 ≤ 6))) ∧ (25 = 25 ∧ ((upF (psS F0 ((rcR A0 ((F0 25 20)) (psF F0)).1)) 25 25 (nmN (A0 26) (rcS1 A0 ((F0 25 20)) (psF F0)))) = upF (upF (psS F0 (stS1 A0 (F0 25 20) (F0 25 30) (psF F0))) 25 25 (stN A0 (F0 25 20) (F0 25 25) (psF F0))) 25 30 (stG A0 (F0 25 20) (F0 25 30) (psF F0)) ∧ (rcA A0 ((F0 25 20)) (psF F0)) = stA A0 (F0 25 20) (F0 25 30) (psF F0))))) ∧ (w32 (F0 25 24) = 0 + 1 → (((byO (A0 26) ∧ (0 ≤ (F0 25 20) ∧ (F0 25 20) ≤ 800) ∧ psOK ((F0 25 20)) (psF F0)) ∧ ((0 ≤ A0 27 14 ∧ A0 27 14 ≤ 8) ∧ (0 ≤ A0 27 15 ∧ A0 27 15 ≤ 6))) ∧ (25 = 25 ∧ ((upF (psS F0 (rlS5 A0 ((F0 25 20)) (psF F0))) 25 25 (nmN (A0 26) (rlS1 A0 ((F0 25 20)) (psF F0)))) = upF (upF (psS F0 (stS1 A0 (F0 25 20) (F0 25 30) (psF F0))) 25 25 (stN A0 (F0 25 20) (F0 25 25) (psF F0))) 25 30 (stG A0 (F0 25 20) (F0 25 30) (psF F0)) ∧ (rlA A0 ((F0 25 20)) (psF F0)) = stA A0 (F0 25 20) (F0 25 30) (psF F0))))) ∧ (w32 (F0 25 24) = 0 + 1 + 1 → (((byO (A0 26) ∧ (0 ≤ (F0 25 20) ∧ (F0 25 20) ≤ 800) ∧ psOK ((F0 25 20)) (psF F0)) ∧ (0 ≤ (F0 25 30) ∧ (F0 25 30) ≤ 3)) ∧ (25 = 25 ∧ ((upF (psS F0 (rsS5 (A0 26) ((F0 25 20)) ((F0 25 30)) (psF F0))) 25 30 (x_or ((F0 25 30)) (x_shl 1 (rsW (A0 26) ((F0 25 20)) (psF F0))))) = upF (upF (psS F0 (stS1 A0 (F0 25 20) (F0 25 30) (psF F0))) 25 25 (stN A0 (F0 25 20) (F0 25 25) (psF F0))) 25 30 (stG A0 (F0 25 20) (F0 25 30) (psF F0)) ∧ (rsA A0 ((F0 25 20)) ((F0 25 30)) (psF F0)) = stA A0 (F0 25 20) (F0 25 30) (psF F0))))) ∧ True) ∧ (w32 (F0 25 24) < 0 ∨ 2 < w32 (F0 25 24) → (((1 = 0 ∨ 1 = 1) ∧ (-2147483648 ≤ (F0 25 26) ∧ (F0 25 26) < 2147483648)) ∧ (25 = 25 ∧ ((psS F0 (fiP (psF F0) 1 (-11))) = upF (upF (psS F0 (stS1 A0 (F0 25 20) (F0 25 30) (psF F0))) 25 25 (stN A0 (F0 25 20) (F0 25 25) (psF F0))) 25 30 (stG A0 (F0 25 20) (F0 25 30) (psF F0)) ∧ A0 = stA A0 (F0 25 20) (F0 25 30) (psF F0))))))) ∧ (¬ w32 (F0 25 23) = w32 0 → (((w32 (-1) = 0 → (((byO (A0 26) ∧ (0 ≤ (F0 25 20) ∧ (F0 25 20) ≤ 800) ∧ psOK ((F0 25 20)) (psF F0)) ∧ ((0 ≤ A0 27 14 ∧ A0 27 14 ≤ 8) ∧ (0 ≤ A0 27 15 ∧ A0 27 15 ≤ 6))) ∧ (25 = 25 ∧ ((upF (psS F0 ((rcR A0 ((F0 25 20)) (psF F0)).1)) 25 25 (nmN (A0 26) (rcS1 A0 ((F0 25 20)) (psF F0)))) = upF (upF (psS F0 (stS1 A0 (F0 25 20) (F0 25 30) (psF F0))) 25 25 (stN A0 (F0 25 20) (F0 25 25) (psF F0))) 25 30 (stG A0 (F0 25 20) (F0 25 30) (psF F0)) ∧ (rcA A0 ((F0 25 20)) (psF F0)) = stA A0 (F0 25 20) (F0 25 30) (psF F0))))) ∧ (w32 (-1) = 0 + 1 → (((byO (A0 26) ∧ (0 ≤ (F0 25 20) ∧ (F0 25 20) ≤ 800) ∧ psOK ((F0 25 20)) (psF F0)) ∧ ((0 ≤ A0 27 14 ∧ A0 27 14 ≤ 8) ∧ (0 ≤ A0 27 15 ∧ A0 27 15 ≤ 6))) ∧ (25 = 25 ∧ ((upF (psS F0 (rlS5 A0 ((F0 25 20)) (psF F0))) 25 25 (nmN (A0 26) (rlS1 A0 ((F0 25 20)) (psF F0)))) = upF (upF (psS F0 (stS1 A0 (F0 25 20) (F0 25 30) (psF F0))) 25 25 (stN A0 (F0 25 20) (F0 25 25) (psF F0))) 25 30 (stG A0 (F0 25 20) (F0 25 30) (psF F0)) ∧ (rlA A0 ((F0 25 20)) (psF F0)) = stA A0 (F0 25 20) (F0 25 30) (psF F0))))) ∧ (w32 (-1) = 0 + 1 + 1 → (((byO (A0 26) ∧ (0 ≤ (F0 25 20) ∧ (F0 25 20) ≤ 800) ∧ psOK ((F0 25 20)) (psF F0)) ∧ (0 ≤ (F0 25 30) ∧ (F0 25 30) ≤ 3)) ∧ (25 = 25 ∧ ((upF (psS F0 (rsS5 (A0 26) ((F0 25 20)) ((F0 25 30)) (psF F0))) 25 30 (x_or ((F0 25 30)) (x_shl 1 (rsW (A0 26) ((F0 25 20)) (psF F0))))) = upF (upF (psS F0 (stS1 A0 (F0 25 20) (F0 25 30) (psF F0))) 25 25 (stN A0 (F0 25 20) (F0 25 25) (psF F0))) 25 30 (stG A0 (F0 25 20) (F0 25 30) (psF F0)) ∧ (rsA A0 ((F0 25 20)) ((F0 25 30)) (psF F0)) = stA A0 (F0 25 20) (F0 25 30) (psF F0))))) ∧ True) ∧ (w32 (-1) < 0 ∨ 2 < w32 (-1) → (((1 = 0 ∨ 1 = 1) ∧ (-2147483648 ≤ (F0 25 26) ∧ (F0 25 26) < 2147483648)) ∧ (25 = 25 ∧ ((psS F0 (fiP (psF F0) 1 (-11))) = upF (upF (psS F0 (stS1 A0 (F0 25 20) (F0 25 30) (psF F0))) 25 25 (stN A0 (F0 25 20) (F0 25 25) (psF F0))) 25 30 (stG A0 (F0 25 20) (F0 25 30) (psF F0)) ∧ A0 = stA A0 (F0 25 20) (F0 25 30) (psF F0)))))))
  refine ⟨fun c1 => ?_, fun c1 => ?_⟩
  · skip
    (try simp only [fiP_22, inS_22, nmS_22, psF_e, psF_q, psF_p, psF_o, psF_t, psF_v] at c1); (try simp (disch := omega) only [w32_0, wbi0, Classical.not_not, w32_id] at c1)
    refine ⟨⟨fun c2 => ?_, fun c2 => ?_, fun c2 => ?_, trivial⟩, fun c2 => ?_⟩
    · skip
      (try simp only [fiP_22, inS_22, nmS_22, psF_e, psF_q, psF_p, psF_o, psF_t, psF_v] at c2); (try simp (disch := omega) only [w32_0, wbi0, Classical.not_not, w32_id] at c2)
      refine ⟨by first | exact ⟨⟨pt, pn, pk⟩, pc⟩ | exact ⟨⟨pt, pn, pk⟩, pg⟩ | exact ⟨Or.inr rfl, by omega, by omega⟩, ?_⟩
      refine ⟨rfl, ?_⟩
      first
      | (exfalso; omega)
      | (have eK : stK (psF F0) = if F0 25 23 = 0 then F0 25 24 else -1 := rfl
         first
         | rw [if_pos (show F0 25 23 = 0 by omega)] at eK
         | rw [if_neg (show ¬ F0 25 23 = 0 by omega)] at eK
         have eS : stS1 A0 (F0 25 20) (F0 25 30) (psF F0) = (rcR A0 (F0 25 20) (psF F0)).1 := by unfold stS1; rw [if_pos (show stK (psF F0) = 0 by rw [eK]; omega)]
         have eN : stN A0 (F0 25 20) (F0 25 25) (psF F0) = nmN (A0 26) (rcS1 A0 (F0 25 20) (psF F0)) := by unfold stN; rw [if_pos (show stK (psF F0) = 0 by rw [eK]; omega)]
         have eG : stG A0 (F0 25 20) (F0 25 30) (psF F0) = F0 25 30 := by unfold stG; rw [if_neg (show ¬ stK (psF F0) = 2 by rw [eK]; omega)]
         have eA : stA A0 (F0 25 20) (F0 25 30) (psF F0) = rcA A0 (F0 25 20) (psF F0) := by unfold stA; rw [if_pos (show stK (psF F0) = 0 by rw [eK]; omega)]
         rw [eS, eN, eG, eA]
         exact ⟨(upF_id (by rw [upF_o (by omega), psS_o (by omega)])).symm, rfl⟩)
      | (have eK : stK (psF F0) = if F0 25 23 = 0 then F0 25 24 else -1 := rfl
         first
         | rw [if_pos (show F0 25 23 = 0 by omega)] at eK
         | rw [if_neg (show ¬ F0 25 23 = 0 by omega)] at eK
         have eS : stS1 A0 (F0 25 20) (F0 25 30) (psF F0) = rlS5 A0 (F0 25 20) (psF F0) := by unfold stS1; rw [if_neg (show ¬ stK (psF F0) = 0 by rw [eK]; omega)]; rw [if_pos (show stK (psF F0) = 1 by rw [eK]; omega)]
         have eN : stN A0 (F0 25 20) (F0 25 25) (psF F0) = nmN (A0 26) (rlS1 A0 (F0 25 20) (psF F0)) := by unfold stN; rw [if_neg (show ¬ stK (psF F0) = 0 by rw [eK]; omega)]; rw [if_pos (show stK (psF F0) = 1 by rw [eK]; omega)]
         have eG : stG A0 (F0 25 20) (F0 25 30) (psF F0) = F0 25 30 := by unfold stG; rw [if_neg (show ¬ stK (psF F0) = 2 by rw [eK]; omega)]
         have eA : stA A0 (F0 25 20) (F0 25 30) (psF F0) = rlA A0 (F0 25 20) (psF F0) := by unfold stA; rw [if_neg (show ¬ stK (psF F0) = 0 by rw [eK]; omega)]; rw [if_pos (show stK (psF F0) = 1 by rw [eK]; omega)]
         rw [eS, eN, eG, eA]
         exact ⟨(upF_id (by rw [upF_o (by omega), psS_o (by omega)])).symm, rfl⟩)
      | (have eK : stK (psF F0) = if F0 25 23 = 0 then F0 25 24 else -1 := rfl
         first
         | rw [if_pos (show F0 25 23 = 0 by omega)] at eK
         | rw [if_neg (show ¬ F0 25 23 = 0 by omega)] at eK
         have eS : stS1 A0 (F0 25 20) (F0 25 30) (psF F0) = rsS5 (A0 26) (F0 25 20) (F0 25 30) (psF F0) := by unfold stS1; rw [if_neg (show ¬ stK (psF F0) = 0 by rw [eK]; omega)]; rw [if_neg (show ¬ stK (psF F0) = 1 by rw [eK]; omega)]; rw [if_pos (show stK (psF F0) = 2 by rw [eK]; omega)]
         have eN : stN A0 (F0 25 20) (F0 25 25) (psF F0) = F0 25 25 := by unfold stN; rw [if_neg (show ¬ stK (psF F0) = 0 by rw [eK]; omega)]; rw [if_neg (show ¬ stK (psF F0) = 1 by rw [eK]; omega)]
         have eG : stG A0 (F0 25 20) (F0 25 30) (psF F0) = x_or (F0 25 30) (x_shl 1 (rsW (A0 26) (F0 25 20) (psF F0))) := by unfold stG; rw [if_pos (show stK (psF F0) = 2 by rw [eK]; omega)]
         have eA : stA A0 (F0 25 20) (F0 25 30) (psF F0) = rsA A0 (F0 25 20) (F0 25 30) (psF F0) := by unfold stA; rw [if_neg (show ¬ stK (psF F0) = 0 by rw [eK]; omega)]; rw [if_neg (show ¬ stK (psF F0) = 1 by rw [eK]; omega)]; rw [if_pos (show stK (psF F0) = 2 by rw [eK]; omega)]
         rw [eS, eN, eG, eA]
         exact ⟨by rw [upF_id (F := psS F0 (rsS5 (A0 26) (F0 25 20) (F0 25 30) (psF F0))) (k := 25) (j := 25) (v := F0 25 25) (by rw [psS_o (by omega)])], rfl⟩)
      | (have eK : stK (psF F0) = if F0 25 23 = 0 then F0 25 24 else -1 := rfl
         first
         | rw [if_pos (show F0 25 23 = 0 by omega)] at eK
         | rw [if_neg (show ¬ F0 25 23 = 0 by omega)] at eK
         have eS : stS1 A0 (F0 25 20) (F0 25 30) (psF F0) = fiP (psF F0) 1 (-11) := by unfold stS1; rw [if_neg (show ¬ stK (psF F0) = 0 by rw [eK]; omega)]; rw [if_neg (show ¬ stK (psF F0) = 1 by rw [eK]; omega)]; rw [if_neg (show ¬ stK (psF F0) = 2 by rw [eK]; omega)]
         have eN : stN A0 (F0 25 20) (F0 25 25) (psF F0) = F0 25 25 := by unfold stN; rw [if_neg (show ¬ stK (psF F0) = 0 by rw [eK]; omega)]; rw [if_neg (show ¬ stK (psF F0) = 1 by rw [eK]; omega)]
         have eG : stG A0 (F0 25 20) (F0 25 30) (psF F0) = F0 25 30 := by unfold stG; rw [if_neg (show ¬ stK (psF F0) = 2 by rw [eK]; omega)]
         have eA : stA A0 (F0 25 20) (F0 25 30) (psF F0) = A0 := by unfold stA; rw [if_neg (show ¬ stK (psF F0) = 0 by rw [eK]; omega)]; rw [if_neg (show ¬ stK (psF F0) = 1 by rw [eK]; omega)]; rw [if_neg (show ¬ stK (psF F0) = 2 by rw [eK]; omega)]
         rw [eS, eN, eG, eA]
         exact ⟨by rw [upF_id (F := psS F0 (fiP (psF F0) 1 (-11))) (by rw [psS_o (by omega)]), upF_id (by rw [psS_o (by omega)])], rfl⟩)
    · skip
      (try simp only [fiP_22, inS_22, nmS_22, psF_e, psF_q, psF_p, psF_o, psF_t, psF_v] at c2); (try simp (disch := omega) only [w32_0, wbi0, Classical.not_not, w32_id] at c2)
      refine ⟨by first | exact ⟨⟨pt, pn, pk⟩, pc⟩ | exact ⟨⟨pt, pn, pk⟩, pg⟩ | exact ⟨Or.inr rfl, by omega, by omega⟩, ?_⟩
      refine ⟨rfl, ?_⟩
      first
      | (exfalso; omega)
      | (have eK : stK (psF F0) = if F0 25 23 = 0 then F0 25 24 else -1 := rfl
         first
         | rw [if_pos (show F0 25 23 = 0 by omega)] at eK
         | rw [if_neg (show ¬ F0 25 23 = 0 by omega)] at eK
         have eS : stS1 A0 (F0 25 20) (F0 25 30) (psF F0) = (rcR A0 (F0 25 20) (psF F0)).1 := by unfold stS1; rw [if_pos (show stK (psF F0) = 0 by rw [eK]; omega)]
         have eN : stN A0 (F0 25 20) (F0 25 25) (psF F0) = nmN (A0 26) (rcS1 A0 (F0 25 20) (psF F0)) := by unfold stN; rw [if_pos (show stK (psF F0) = 0 by rw [eK]; omega)]
         have eG : stG A0 (F0 25 20) (F0 25 30) (psF F0) = F0 25 30 := by unfold stG; rw [if_neg (show ¬ stK (psF F0) = 2 by rw [eK]; omega)]
         have eA : stA A0 (F0 25 20) (F0 25 30) (psF F0) = rcA A0 (F0 25 20) (psF F0) := by unfold stA; rw [if_pos (show stK (psF F0) = 0 by rw [eK]; omega)]
         rw [eS, eN, eG, eA]
         exact ⟨(upF_id (by rw [upF_o (by omega), psS_o (by omega)])).symm, rfl⟩)
      | (have eK : stK (psF F0) = if F0 25 23 = 0 then F0 25 24 else -1 := rfl
         first
         | rw [if_pos (show F0 25 23 = 0 by omega)] at eK
         | rw [if_neg (show ¬ F0 25 23 = 0 by omega)] at eK
         have eS : stS1 A0 (F0 25 20) (F0 25 30) (psF F0) = rlS5 A0 (F0 25 20) (psF F0) := by unfold stS1; rw [if_neg (show ¬ stK (psF F0) = 0 by rw [eK]; omega)]; rw [if_pos (show stK (psF F0) = 1 by rw [eK]; omega)]
         have eN : stN A0 (F0 25 20) (F0 25 25) (psF F0) = nmN (A0 26) (rlS1 A0 (F0 25 20) (psF F0)) := by unfold stN; rw [if_neg (show ¬ stK (psF F0) = 0 by rw [eK]; omega)]; rw [if_pos (show stK (psF F0) = 1 by rw [eK]; omega)]
         have eG : stG A0 (F0 25 20) (F0 25 30) (psF F0) = F0 25 30 := by unfold stG; rw [if_neg (show ¬ stK (psF F0) = 2 by rw [eK]; omega)]
         have eA : stA A0 (F0 25 20) (F0 25 30) (psF F0) = rlA A0 (F0 25 20) (psF F0) := by unfold stA; rw [if_neg (show ¬ stK (psF F0) = 0 by rw [eK]; omega)]; rw [if_pos (show stK (psF F0) = 1 by rw [eK]; omega)]
         rw [eS, eN, eG, eA]
         exact ⟨(upF_id (by rw [upF_o (by omega), psS_o (by omega)])).symm, rfl⟩)
      | (have eK : stK (psF F0) = if F0 25 23 = 0 then F0 25 24 else -1 := rfl
         first
         | rw [if_pos (show F0 25 23 = 0 by omega)] at eK
         | rw [if_neg (show ¬ F0 25 23 = 0 by omega)] at eK
         have eS : stS1 A0 (F0 25 20) (F0 25 30) (psF F0) = rsS5 (A0 26) (F0 25 20) (F0 25 30) (psF F0) := by unfold stS1; rw [if_neg (show ¬ stK (psF F0) = 0 by rw [eK]; omega)]; rw [if_neg (show ¬ stK (psF F0) = 1 by rw [eK]; omega)]; rw [if_pos (show stK (psF F0) = 2 by rw [eK]; omega)]
         have eN : stN A0 (F0 25 20) (F0 25 25) (psF F0) = F0 25 25 := by unfold stN; rw [if_neg (show ¬ stK (psF F0) = 0 by rw [eK]; omega)]; rw [if_neg (show ¬ stK (psF F0) = 1 by rw [eK]; omega)]
         have eG : stG A0 (F0 25 20) (F0 25 30) (psF F0) = x_or (F0 25 30) (x_shl 1 (rsW (A0 26) (F0 25 20) (psF F0))) := by unfold stG; rw [if_pos (show stK (psF F0) = 2 by rw [eK]; omega)]
         have eA : stA A0 (F0 25 20) (F0 25 30) (psF F0) = rsA A0 (F0 25 20) (F0 25 30) (psF F0) := by unfold stA; rw [if_neg (show ¬ stK (psF F0) = 0 by rw [eK]; omega)]; rw [if_neg (show ¬ stK (psF F0) = 1 by rw [eK]; omega)]; rw [if_pos (show stK (psF F0) = 2 by rw [eK]; omega)]
         rw [eS, eN, eG, eA]
         exact ⟨by rw [upF_id (F := psS F0 (rsS5 (A0 26) (F0 25 20) (F0 25 30) (psF F0))) (k := 25) (j := 25) (v := F0 25 25) (by rw [psS_o (by omega)])], rfl⟩)
      | (have eK : stK (psF F0) = if F0 25 23 = 0 then F0 25 24 else -1 := rfl
         first
         | rw [if_pos (show F0 25 23 = 0 by omega)] at eK
         | rw [if_neg (show ¬ F0 25 23 = 0 by omega)] at eK
         have eS : stS1 A0 (F0 25 20) (F0 25 30) (psF F0) = fiP (psF F0) 1 (-11) := by unfold stS1; rw [if_neg (show ¬ stK (psF F0) = 0 by rw [eK]; omega)]; rw [if_neg (show ¬ stK (psF F0) = 1 by rw [eK]; omega)]; rw [if_neg (show ¬ stK (psF F0) = 2 by rw [eK]; omega)]
         have eN : stN A0 (F0 25 20) (F0 25 25) (psF F0) = F0 25 25 := by unfold stN; rw [if_neg (show ¬ stK (psF F0) = 0 by rw [eK]; omega)]; rw [if_neg (show ¬ stK (psF F0) = 1 by rw [eK]; omega)]
         have eG : stG A0 (F0 25 20) (F0 25 30) (psF F0) = F0 25 30 := by unfold stG; rw [if_neg (show ¬ stK (psF F0) = 2 by rw [eK]; omega)]
         have eA : stA A0 (F0 25 20) (F0 25 30) (psF F0) = A0 := by unfold stA; rw [if_neg (show ¬ stK (psF F0) = 0 by rw [eK]; omega)]; rw [if_neg (show ¬ stK (psF F0) = 1 by rw [eK]; omega)]; rw [if_neg (show ¬ stK (psF F0) = 2 by rw [eK]; omega)]
         rw [eS, eN, eG, eA]
         exact ⟨by rw [upF_id (F := psS F0 (fiP (psF F0) 1 (-11))) (by rw [psS_o (by omega)]), upF_id (by rw [psS_o (by omega)])], rfl⟩)
    · skip
      (try simp only [fiP_22, inS_22, nmS_22, psF_e, psF_q, psF_p, psF_o, psF_t, psF_v] at c2); (try simp (disch := omega) only [w32_0, wbi0, Classical.not_not, w32_id] at c2)
      refine ⟨by first | exact ⟨⟨pt, pn, pk⟩, pc⟩ | exact ⟨⟨pt, pn, pk⟩, pg⟩ | exact ⟨Or.inr rfl, by omega, by omega⟩, ?_⟩
      refine ⟨rfl, ?_⟩
      first
      | (exfalso; omega)
      | (have eK : stK (psF F0) = if F0 25 23 = 0 then F0 25 24 else -1 := rfl
         first
         | rw [if_pos (show F0 25 23 = 0 by omega)] at eK
         | rw [if_neg (show ¬ F0 25 23 = 0 by omega)] at eK
         have eS : stS1 A0 (F0 25 20) (F0 25 30) (psF F0) = (rcR A0 (F0 25 20) (psF F0)).1 := by unfold stS1; rw [if_pos (show stK (psF F0) = 0 by rw [eK]; omega)]
         have eN : stN A0 (F0 25 20) (F0 25 25) (psF F0) = nmN (A0 26) (rcS1 A0 (F0 25 20) (psF F0)) := by unfold stN; rw [if_pos (show stK (psF F0) = 0 by rw [eK]; omega)]
         have eG : stG A0 (F0 25 20) (F0 25 30) (psF F0) = F0 25 30 := by unfold stG; rw [if_neg (show ¬ stK (psF F0) = 2 by rw [eK]; omega)]
         have eA : stA A0 (F0 25 20) (F0 25 30) (psF F0) = rcA A0 (F0 25 20) (psF F0) := by unfold stA; rw [if_pos (show stK (psF F0) = 0 by rw [eK]; omega)]
         rw [eS, eN, eG, eA]
         exact ⟨(upF_id (by rw [upF_o (by omega), psS_o (by omega)])).symm, rfl⟩)
      | (have eK : stK (psF F0) = if F0 25 23 = 0 then F0 25 24 else -1 := rfl
         first
         | rw [if_pos (show F0 25 23 = 0 by omega)] at eK
         | rw [if_neg (show ¬ F0 25 23 = 0 by omega)] at eK
         have eS : stS1 A0 (F0 25 20) (F0 25 30) (psF F0) = rlS5 A0 (F0 25 20) (psF F0) := by unfold stS1; rw [if_neg (show ¬ stK (psF F0) = 0 by rw [eK]; omega)]; rw [if_pos (show stK (psF F0) = 1 by rw [eK]; omega)]
         have eN : stN A0 (F0 25 20) (F0 25 25) (psF F0) = nmN (A0 26) (rlS1 A0 (F0 25 20) (psF F0)) := by unfold stN; rw [if_neg (show ¬ stK (psF F0) = 0 by rw [eK]; omega)]; rw [if_pos (show stK (psF F0) = 1 by rw [eK]; omega)]
         have eG : stG A0 (F0 25 20) (F0 25 30) (psF F0) = F0 25 30 := by unfold stG; rw [if_neg (show ¬ stK (psF F0) = 2 by rw [eK]; omega)]
         have eA : stA A0 (F0 25 20) (F0 25 30) (psF F0) = rlA A0 (F0 25 20) (psF F0) := by unfold stA; rw [if_neg (show ¬ stK (psF F0) = 0 by rw [eK]; omega)]; rw [if_pos (show stK (psF F0) = 1 by rw [eK]; omega)]
         rw [eS, eN, eG, eA]
         exact ⟨(upF_id (by rw [upF_o (by omega), psS_o (by omega)])).symm, rfl⟩)
      | (have eK : stK (psF F0) = if F0 25 23 = 0 then F0 25 24 else -1 := rfl
         first
         | rw [if_pos (show F0 25 23 = 0 by omega)] at eK
         | rw [if_neg (show ¬ F0 25 23 = 0 by omega)] at eK
         have eS : stS1 A0 (F0 25 20) (F0 25 30) (psF F0) = rsS5 (A0 26) (F0 25 20) (F0 25 30) (psF F0) := by unfold stS1; rw [if_neg (show ¬ stK (psF F0) = 0 by rw [eK]; omega)]; rw [if_neg (show ¬ stK (psF F0) = 1 by rw [eK]; omega)]; rw [if_pos (show stK (psF F0) = 2 by rw [eK]; omega)]
         have eN : stN A0 (F0 25 20) (F0 25 25) (psF F0) = F0 25 25 := by unfold stN; rw [if_neg (show ¬ stK (psF F0) = 0 by rw [eK]; omega)]; rw [if_neg (show ¬ stK (psF F0) = 1 by rw [eK]; omega)]
         have eG : stG A0 (F0 25 20) (F0 25 30) (psF F0) = x_or (F0 25 30) (x_shl 1 (rsW (A0 26) (F0 25 20) (psF F0))) := by unfold stG; rw [if_pos (show stK (psF F0) = 2 by rw [eK]; omega)]
         have eA : stA A0 (F0 25 20) (F0 25 30) (psF F0) = rsA A0 (F0 25 20) (F0 25 30) (psF F0) := by unfold stA; rw [if_neg (show ¬ stK (psF F0) = 0 by rw [eK]; omega)]; rw [if_neg (show ¬ stK (psF F0) = 1 by rw [eK]; omega)]; rw [if_pos (show stK (psF F0) = 2 by rw [eK]; omega)]
         rw [eS, eN, eG, eA]
         exact ⟨by rw [upF_id (F := psS F0 (rsS5 (A0 26) (F0 25 20) (F0 25 30) (psF F0))) (k := 25) (j := 25) (v := F0 25 25) (by rw [psS_o (by omega)])], rfl⟩)
      | (have eK : stK (psF F0) = if F0 25 23 = 0 then F0 25 24 else -1 := rfl
         first
         | rw [if_pos (show F0 25 23 = 0 by omega)] at eK
         | rw [if_neg (show ¬ F0 25 23 = 0 by omega)] at eK
         have eS : stS1 A0 (F0 25 20) (F0 25 30) (psF F0) = fiP (psF F0) 1 (-11) := by unfold stS1; rw [if_neg (show ¬ stK (psF F0) = 0 by rw [eK]; omega)]; rw [if_neg (show ¬ stK (psF F0) = 1 by rw [eK]; omega)]; rw [if_neg (show ¬ stK (psF F0) = 2 by rw [eK]; omega)]
         have eN : stN A0 (F0 25 20) (F0 25 25) (psF F0) = F0 25 25 := by unfold stN; rw [if_neg (show ¬ stK (psF F0) = 0 by rw [eK]; omega)]; rw [if_neg (show ¬ stK (psF F0) = 1 by rw [eK]; omega)]
         have eG : stG A0 (F0 25 20) (F0 25 30) (psF F0) = F0 25 30 := by unfold stG; rw [if_neg (show ¬ stK (psF F0) = 2 by rw [eK]; omega)]
         have eA : stA A0 (F0 25 20) (F0 25 30) (psF F0) = A0 := by unfold stA; rw [if_neg (show ¬ stK (psF F0) = 0 by rw [eK]; omega)]; rw [if_neg (show ¬ stK (psF F0) = 1 by rw [eK]; omega)]; rw [if_neg (show ¬ stK (psF F0) = 2 by rw [eK]; omega)]
         rw [eS, eN, eG, eA]
         exact ⟨by rw [upF_id (F := psS F0 (fiP (psF F0) 1 (-11))) (by rw [psS_o (by omega)]), upF_id (by rw [psS_o (by omega)])], rfl⟩)
    · skip
      (try simp only [fiP_22, inS_22, nmS_22, psF_e, psF_q, psF_p, psF_o, psF_t, psF_v] at c2); (try simp (disch := omega) only [w32_0, wbi0, Classical.not_not, w32_id] at c2)
      refine ⟨by first | exact ⟨⟨pt, pn, pk⟩, pc⟩ | exact ⟨⟨pt, pn, pk⟩, pg⟩ | exact ⟨Or.inr rfl, by omega, by omega⟩, ?_⟩
      refine ⟨rfl, ?_⟩
      first
      | (exfalso; omega)
      | (have eK : stK (psF F0) = if F0 25 23 = 0 then F0 25 24 else -1 := rfl
         first
         | rw [if_pos (show F0 25 23 = 0 by omega)] at eK
         | rw [if_neg (show ¬ F0 25 23 = 0 by omega)] at eK
         have eS : stS1 A0 (F0 25 20) (F0 25 30) (psF F0) = (rcR A0 (F0 25 20) (psF F0)).1 := by unfold stS1; rw [if_pos (show stK (psF F0) = 0 by rw [eK]; omega)]
         have eN : stN A0 (F0 25 20) (F0 25 25) (psF F0) = nmN (A0 26) (rcS1 A0 (F0 25 20) (psF F0)) := by unfold stN; rw [if_pos (show stK (psF F0) = 0 by rw [eK]; omega)]
         have eG : stG A0 (F0 25 20) (F0 25 30) (psF F0) = F0 25 30 := by unfold stG; rw [if_neg (show ¬ stK (psF F0) = 2 by rw [eK]; omega)]
         have eA : stA A0 (F0 25 20) (F0 25 30) (psF F0) = rcA A0 (F0 25 20) (psF F0) := by unfold stA; rw [if_pos (show stK (psF F0) = 0 by rw [eK]; omega)]
         rw [eS, eN, eG, eA]
         exact ⟨(upF_id (by rw [upF_o (by omega), psS_o (by omega)])).symm, rfl⟩)
      | (have eK : stK (psF F0) = if F0 25 23 = 0 then F0 25 24 else -1 := rfl
         first
         | rw [if_pos (show F0 25 23 = 0 by omega)] at eK
         | rw [if_neg (show ¬ F0 25 23 = 0 by omega)] at eK
         have eS : stS1 A0 (F0 25 20) (F0 25 30) (psF F0) = rlS5 A0 (F0 25 20) (psF F0) := by unfold stS1; rw [if_neg (show ¬ stK (psF F0) = 0 by rw [eK]; omega)]; rw [if_pos (show stK (psF F0) = 1 by rw [eK]; omega)]
         have eN : stN A0 (F0 25 20) (F0 25 25) (psF F0) = nmN (A0 26) (rlS1 A0 (F0 25 20) (psF F0)) := by unfold stN; rw [if_neg (show ¬ stK (psF F0) = 0 by rw [eK]; omega)]; rw [if_pos (show stK (psF F0) = 1 by rw [eK]; omega)]
         have eG : stG A0 (F0 25 20) (F0 25 30) (psF F0) = F0 25 30 := by unfold stG; rw [if_neg (show ¬ stK (psF F0) = 2 by rw [eK]; omega)]
         have eA : stA A0 (F0 25 20) (F0 25 30) (psF F0) = rlA A0 (F0 25 20) (psF F0) := by unfold stA; rw [if_neg (show ¬ stK (psF F0) = 0 by rw [eK]; omega)]; rw [if_pos (show stK (psF F0) = 1 by rw [eK]; omega)]
         rw [eS, eN, eG, eA]
         exact ⟨(upF_id (by rw [upF_o (by omega), psS_o (by omega)])).symm, rfl⟩)
      | (have eK : stK (psF F0) = if F0 25 23 = 0 then F0 25 24 else -1 := rfl
         first
         | rw [if_pos (show F0 25 23 = 0 by omega)] at eK
         | rw [if_neg (show ¬ F0 25 23 = 0 by omega)] at eK
         have eS : stS1 A0 (F0 25 20) (F0 25 30) (psF F0) = rsS5 (A0 26) (F0 25 20) (F0 25 30) (psF F0) := by unfold stS1; rw [if_neg (show ¬ stK (psF F0) = 0 by rw [eK]; omega)]; rw [if_neg (show ¬ stK (psF F0) = 1 by rw [eK]; omega)]; rw [if_pos (show stK (psF F0) = 2 by rw [eK]; omega)]
         have eN : stN A0 (F0 25 20) (F0 25 25) (psF F0) = F0 25 25 := by unfold stN; rw [if_neg (show ¬ stK (psF F0) = 0 by rw [eK]; omega)]; rw [if_neg (show ¬ stK (psF F0) = 1 by rw [eK]; omega)]
         have eG : stG A0 (F0 25 20) (F0 25 30) (psF F0) = x_or (F0 25 30) (x_shl 1 (rsW (A0 26) (F0 25 20) (psF F0))) := by unfold stG; rw [if_pos (show stK (psF F0) = 2 by rw [eK]; omega)]
         have eA : stA A0 (F0 25 20) (F0 25 30) (psF F0) = rsA A0 (F0 25 20) (F0 25 30) (psF F0) := by unfold stA; rw [if_neg (show ¬ stK (psF F0) = 0 by rw [eK]; omega)]; rw [if_neg (show ¬ stK (psF F0) = 1 by rw [eK]; omega)]; rw [if_pos (show stK (psF F0) = 2 by rw [eK]; omega)]
         rw [eS, eN, eG, eA]
         exact ⟨by rw [upF_id (F := psS F0 (rsS5 (A0 26) (F0 25 20) (F0 25 30) (psF F0))) (k := 25) (j := 25) (v := F0 25 25) (by rw [psS_o (by omega)])], rfl⟩)
      | (have eK : stK (psF F0) = if F0 25 23 = 0 then F0 25 24 else -1 := rfl
         first
         | rw [if_pos (show F0 25 23 = 0 by omega)] at eK
         | rw [if_neg (show ¬ F0 25 23 = 0 by omega)] at eK
         have eS : stS1 A0 (F0 25 20) (F0 25 30) (psF F0) = fiP (psF F0) 1 (-11) := by unfold stS1; rw [if_neg (show ¬ stK (psF F0) = 0 by rw [eK]; omega)]; rw [if_neg (show ¬ stK (psF F0) = 1 by rw [eK]; omega)]; rw [if_neg (show ¬ stK (psF F0) = 2 by rw [eK]; omega)]
         have eN : stN A0 (F0 25 20) (F0 25 25) (psF F0) = F0 25 25 := by unfold stN; rw [if_neg (show ¬ stK (psF F0) = 0 by rw [eK]; omega)]; rw [if_neg (show ¬ stK (psF F0) = 1 by rw [eK]; omega)]
         have eG : stG A0 (F0 25 20) (F0 25 30) (psF F0) = F0 25 30 := by unfold stG; rw [if_neg (show ¬ stK (psF F0) = 2 by rw [eK]; omega)]
         have eA : stA A0 (F0 25 20) (F0 25 30) (psF F0) = A0 := by unfold stA; rw [if_neg (show ¬ stK (psF F0) = 0 by rw [eK]; omega)]; rw [if_neg (show ¬ stK (psF F0) = 1 by rw [eK]; omega)]; rw [if_neg (show ¬ stK (psF F0) = 2 by rw [eK]; omega)]
         rw [eS, eN, eG, eA]
         exact ⟨by rw [upF_id (F := psS F0 (fiP (psF F0) 1 (-11))) (by rw [psS_o (by omega)]), upF_id (by rw [psS_o (by omega)])], rfl⟩)
  · skip
    (try simp only [fiP_22, inS_22, nmS_22, psF_e, psF_q, psF_p, psF_o, psF_t, psF_v] at c1); (try simp (disch := omega) only [w32_0, wbi0, Classical.not_not, w32_id] at c1)
    refine ⟨⟨fun c2 => ?_, fun c2 => ?_, fun c2 => ?_, trivial⟩, fun c2 => ?_⟩
    · skip
      (try simp only [fiP_22, inS_22, nmS_22, psF_e, psF_q, psF_p, psF_o, psF_t, psF_v] at c2); (try simp (disch := omega) only [w32_0, wbi0, Classical.not_not, w32_id] at c2)
      refine ⟨by first | exact ⟨⟨pt, pn, pk⟩, pc⟩ | exact ⟨⟨pt, pn, pk⟩, pg⟩ | exact ⟨Or.inr rfl, by omega, by omega⟩, ?_⟩
      refine ⟨rfl, ?_⟩
      first
      | (exfalso; omega)
      | (have eK : stK (psF F0) = if F0 25 23 = 0 then F0 25 24 else -1 := rfl
         first
         | rw [if_pos (show F0 25 23 = 0 by omega)] at eK
         | rw [if_neg (show ¬ F0 25 23 = 0 by omega)] at eK
         have eS : stS1 A0 (F0 25 20) (F0 25 30) (psF F0) = (rcR A0 (F0 25 20) (psF F0)).1 := by unfold stS1; rw [if_pos (show stK (psF F0) = 0 by rw [eK]; omega)]
         have eN : stN A0 (F0 25 20) (F0 25 25) (psF F0) = nmN (A0 26) (rcS1 A0 (F0 25 20) (psF F0)) := by unfold stN; rw [if_pos (show stK (psF F0) = 0 by rw [eK]; omega)]
         have eG : stG A0 (F0 25 20) (F0 25 30) (psF F0) = F0 25 30 := by unfold stG; rw [if_neg (show ¬ stK (psF F0) = 2 by rw [eK]; omega)]
         have eA : stA A0 (F0 25 20) (F0 25 30) (psF F0) = rcA A0 (F0 25 20) (psF F0) := by unfold stA; rw [if_pos (show stK (psF F0) = 0 by rw [eK]; omega)]
         rw [eS, eN, eG, eA]
         exact ⟨(upF_id (by rw [upF_o (by omega), psS_o (by omega)])).symm, rfl⟩)
      | (have eK : stK (psF F0) = if F0 25 23 = 0 then F0 25 24 else -1 := rfl
         first
         | rw [if_pos (show F0 25 23 = 0 by omega)] at eK
         | rw [if_neg (show ¬ F0 25 23 = 0 by omega)] at eK
         have eS : stS1 A0 (F0 25 20) (F0 25 30) (psF F0) = rlS5 A0 (F0 25 20) (psF F0) := by unfold stS1; rw [if_neg (show ¬ stK (psF F0) = 0 by rw [eK]; omega)]; rw [if_pos (show stK (psF F0) = 1 by rw [eK]; omega)]
         have eN : stN A0 (F0 25 20) (F0 25 25) (psF F0) = nmN (A0 26) (rlS1 A0 (F0 25 20) (psF F0)) := by unfold stN; rw [if_neg (show ¬ stK (psF F0) = 0 by rw [eK]; omega)]; rw [if_pos (show stK (psF F0) = 1 by rw [eK]; omega)]
         have eG : stG A0 (F0 25 20) (F0 25 30) (psF F0) = F0 25 30 := by unfold stG; rw [if_neg (show ¬ stK (psF F0) = 2 by rw [eK]; omega)]
         have eA : stA A0 (F0 25 20) (F0 25 30) (psF F0) = rlA A0 (F0 25 20) (psF F0) := by unfold stA; rw [if_neg (show ¬ stK (psF F0) = 0 by rw [eK]; omega)]; rw [if_pos (show stK (psF F0) = 1 by rw [eK]; omega)]
         rw [eS, eN, eG, eA]
         exact ⟨(upF_id (by rw [upF_o (by omega), psS_o (by omega)])).symm, rfl⟩)
      | (have eK : stK (psF F0) = if F0 25 23 = 0 then F0 25 24 else -1 := rfl
         first
         | rw [if_pos (show F0 25 23 = 0 by omega)] at eK
         | rw [if_neg (show ¬ F0 25 23 = 0 by omega)] at eK
         have eS : stS1 A0 (F0 25 20) (F0 25 30) (psF F0) = rsS5 (A0 26) (F0 25 20) (F0 25 30) (psF F0) := by unfold stS1; rw [if_neg (show ¬ stK (psF F0) = 0 by rw [eK]; omega)]; rw [if_neg (show ¬ stK (psF F0) = 1 by rw [eK]; omega)]; rw [if_pos (show stK (psF F0) = 2 by rw [eK]; omega)]
         have eN : stN A0 (F0 25 20) (F0 25 25) (psF F0) = F0 25 25 := by unfold stN; rw [if_neg (show ¬ stK (psF F0) = 0 by rw [eK]; omega)]; rw [if_neg (show ¬ stK (psF F0) = 1 by rw [eK]; omega)]
         have eG : stG A0 (F0 25 20) (F0 25 30) (psF F0) = x_or (F0 25 30) (x_shl 1 (rsW (A0 26) (F0 25 20) (psF F0))) := by unfold stG; rw [if_pos (show stK (psF F0) = 2 by rw [eK]; omega)]
         have eA : stA A0 (F0 25 20) (F0 25 30) (psF F0) = rsA A0 (F0 25 20) (F0 25 30) (psF F0) := by unfold stA; rw [if_neg (show ¬ stK (psF F0) = 0 by rw [eK]; omega)]; rw [if_neg (show ¬ stK (psF F0) = 1 by rw [eK]; omega)]; rw [if_pos (show stK (psF F0) = 2 by rw [eK]; omega)]
         rw [eS, eN, eG, eA]
         exact ⟨by rw [upF_id (F := psS F0 (rsS5 (A0 26) (F0 25 20) (F0 25 30) (psF F0))) (k := 25) (j := 25) (v := F0 25 25) (by rw [psS_o (by omega)])], rfl⟩)
      | (have eK : stK (psF F0) = if F0 25 23 = 0 then F0 25 24 else -1 := rfl
         first
         | rw [if_pos (show F0 25 23 = 0 by omega)] at eK
         | rw [if_neg (show ¬ F0 25 23 = 0 by omega)] at eK
         have eS : stS1 A0 (F0 25 20) (F0 25 30) (psF F0) = fiP (psF F0) 1 (-11) := by unfold stS1; rw [if_neg (show ¬ stK (psF F0) = 0 by rw [eK]; omega)]; rw [if_neg (show ¬ stK (psF F0) = 1 by rw [eK]; omega)]; rw [if_neg (show ¬ stK (psF F0) = 2 by rw [eK]; omega)]
         have eN : stN A0 (F0 25 20) (F0 25 25) (psF F0) = F0 25 25 := by unfold stN; rw [if_neg (show ¬ stK (psF F0) = 0 by rw [eK]; omega)]; rw [if_neg (show ¬ stK (psF F0) = 1 by rw [eK]; omega)]
         have eG : stG A0 (F0 25 20) (F0 25 30) (psF F0) = F0 25 30 := by unfold stG; rw [if_neg (show ¬ stK (psF F0) = 2 by rw [eK]; omega)]
         have eA : stA A0 (F0 25 20) (F0 25 30) (psF F0) = A0 := by unfold stA; rw [if_neg (show ¬ stK (psF F0) = 0 by rw [eK]; omega)]; rw [if_neg (show ¬ stK (psF F0) = 1 by rw [eK]; omega)]; rw [if_neg (show ¬ stK (psF F0) = 2 by rw [eK]; omega)]
         rw [eS, eN, eG, eA]
         exact ⟨by rw [upF_id (F := psS F0 (fiP (psF F0) 1 (-11))) (by rw [psS_o (by omega)]), upF_id (by rw [psS_o (by omega)])], rfl⟩)
    · skip
      (try simp only [fiP_22, inS_22, nmS_22, psF_e, psF_q, psF_p, psF_o, psF_t, psF_v] at c2); (try simp (disch := omega) only [w32_0, wbi0, Classical.not_not, w32_id] at c2)
      refine ⟨by first | exact ⟨⟨pt, pn, pk⟩, pc⟩ | exact ⟨⟨pt, pn, pk⟩, pg⟩ | exact ⟨Or.inr rfl, by omega, by omega⟩, ?_⟩
      refine ⟨rfl, ?_⟩
      first
      | (exfalso; omega)
      | (have eK : stK (psF F0) = if F0 25 23 = 0 then F0 25 24 else -1 := rfl
         first
         | rw [if_pos (show F0 25 23 = 0 by omega)] at eK
         | rw [if_neg (show ¬ F0 25 23 = 0 by omega)] at eK
         have eS : stS1 A0 (F0 25 20) (F0 25 30) (psF F0) = (rcR A0 (F0 25 20) (psF F0)).1 := by unfold stS1; rw [if_pos (show stK (psF F0) = 0 by rw [eK]; omega)]
         have eN : stN A0 (F0 25 20) (F0 25 25) (psF F0) = nmN (A0 26) (rcS1 A0 (F0 25 20) (psF F0)) := by unfold stN; rw [if_pos (show stK (psF F0) = 0 by rw [eK]; omega)]
         have eG : stG A0 (F0 25 20) (F0 25 30) (psF F0) = F0 25 30 := by unfold stG; rw [if_neg (show ¬ stK (psF F0) = 2 by rw [eK]; omega)]
         have eA : stA A0 (F0 25 20) (F0 25 30) (psF F0) = rcA A0 (F0 25 20) (psF F0) := by unfold stA; rw [if_pos (show stK (psF F0) = 0 by rw [eK]; omega)]
         rw [eS, eN, eG, eA]
         exact ⟨(upF_id (by rw [upF_o (by omega), psS_o (by omega)])).symm, rfl⟩)
      | (have eK : stK (psF F0) = if F0 25 23 = 0 then F0 25 24 else -1 := rfl
         first
         | rw [if_pos (show F0 25 23 = 0 by omega)] at eK
         | rw [if_neg (show ¬ F0 25 23 = 0 by omega)] at eK
         have eS : stS1 A0 (F0 25 20) (F0 25 30) (psF F0) = rlS5 A0 (F0 25 20) (psF F0) := by unfold stS1; rw [if_neg (show ¬ stK (psF F0) = 0 by rw [eK]; omega)]; rw [if_pos (show stK (psF F0) = 1 by rw [eK]; omega)]
         have eN : stN A0 (F0 25 20) (F0 25 25) (psF F0) = nmN (A0 26) (rlS1 A0 (F0 25 20) (psF F0)) := by unfold stN; rw [if_neg (show ¬ stK (psF F0) = 0 by rw [eK]; omega)]; rw [if_pos (show stK (psF F0) = 1 by rw [eK]; omega)]
         have eG : stG A0 (F0 25 20) (F0 25 30) (psF F0) = F0 25 30 := by unfold stG; rw [if_neg (show ¬ stK (psF F0) = 2 by rw [eK]; omega)]
         have eA : stA A0 (F0 25 20) (F0 25 30) (psF F0) = rlA A0 (F0 25 20) (psF F0) := by unfold stA; rw [if_neg (show ¬ stK (psF F0) = 0 by rw [eK]; omega)]; rw [if_pos (show stK (psF F0) = 1 by rw [eK]; omega)]
         rw [eS, eN, eG, eA]
         exact ⟨(upF_id (by rw [upF_o (by omega), psS_o (by omega)])).symm, rfl⟩)
      | (have eK : stK (psF F0) = if F0 25 23 = 0 then F0 25 24 else -1 := rfl
         first
         | rw [if_pos (show F0 25 23 = 0 by omega)] at eK
         | rw [if_neg (show ¬ F0 25 23 = 0 by omega)] at eK
         have eS : stS1 A0 (F0 25 20) (F0 25 30) (psF F0) = rsS5 (A0 26) (F0 25 20) (F0 25 30) (psF F0) := by unfold stS1; rw [if_neg (show ¬ stK (psF F0) = 0 by rw [eK]; omega)]; rw [if_neg (show ¬ stK (psF F0) = 1 by rw [eK]; omega)]; rw [if_pos (show stK (psF F0) = 2 by rw [eK]; omega)]
         have eN : stN A0 (F0 25 20) (F0 25 25) (psF F0) = F0 25 25 := by unfold stN; rw [if_neg (show ¬ stK (psF F0) = 0 by rw [eK]; omega)]; rw [if_neg (show ¬ stK (psF F0) = 1 by rw [eK]; omega)]
         have eG : stG A0 (F0 25 20) (F0 25 30) (psF F0) = x_or (F0 25 30) (x_shl 1 (rsW (A0 26) (F0 25 20) (psF F0))) := by unfold stG; rw [if_pos (show stK (psF F0) = 2 by rw [eK]; omega)]
         have eA : stA A0 (F0 25 20) (F0 25 30) (psF F0) = rsA A0 (F0 25 20) (F0 25 30) (psF F0) := by unfold stA; rw [if_neg (show ¬ stK (psF F0) = 0 by rw [eK]; omega)]; rw [if_neg (show ¬ stK (psF F0) = 1 by rw [eK]; omega)]; rw [if_pos (show stK (psF F0) = 2 by rw [eK]; omega)]
         rw [eS, eN, eG, eA]
         exact ⟨by rw [upF_id (F := psS F0 (rsS5 (A0 26) (F0 25 20) (F0 25 30) (psF F0))) (k := 25) (j := 25) (v := F0 25 25) (by rw [psS_o (by omega)])], rfl⟩)
      | (have eK : stK (psF F0) = if F0 25 23 = 0 then F0 25 24 else -1 := rfl
         first
         | rw [if_pos (show F0 25 23 = 0 by omega)] at eK
         | rw [if_neg (show ¬ F0 25 23 = 0 by omega)] at eK
         have eS : stS1 A0 (F0 25 20) (F0 25 30) (psF F0) = fiP (psF F0) 1 (-11) := by unfold stS1; rw [if_neg (show ¬ stK (psF F0) = 0 by rw [eK]; omega)]; rw [if_neg (show ¬ stK (psF F0) = 1 by rw [eK]; omega)]; rw [if_neg (show ¬ stK (psF F0) = 2 by rw [eK]; omega)]
         have eN : stN A0 (F0 25 20) (F0 25 25) (psF F0) = F0 25 25 := by unfold stN; rw [if_neg (show ¬ stK (psF F0) = 0 by rw [eK]; omega)]; rw [if_neg (show ¬ stK (psF F0) = 1 by rw [eK]; omega)]
         have eG : stG A0 (F0 25 20) (F0 25 30) (psF F0) = F0 25 30 := by unfold stG; rw [if_neg (show ¬ stK (psF F0) = 2 by rw [eK]; omega)]
         have eA : stA A0 (F0 25 20) (F0 25 30) (psF F0) = A0 := by unfold stA; rw [if_neg (show ¬ stK (psF F0) = 0 by rw [eK]; omega)]; rw [if_neg (show ¬ stK (psF F0) = 1 by rw [eK]; omega)]; rw [if_neg (show ¬ stK (psF F0) = 2 by rw [eK]; omega)]
         rw [eS, eN, eG, eA]
         exact ⟨by rw [upF_id (F := psS F0 (fiP (psF F0) 1 (-11))) (by rw [psS_o (by omega)]), upF_id (by rw [psS_o (by omega)])], rfl⟩)
    · skip
      (try simp only [fiP_22, inS_22, nmS_22, psF_e, psF_q, psF_p, psF_o, psF_t, psF_v] at c2); (try simp (disch := omega) only [w32_0, wbi0, Classical.not_not, w32_id] at c2)
      refine ⟨by first | exact ⟨⟨pt, pn, pk⟩, pc⟩ | exact ⟨⟨pt, pn, pk⟩, pg⟩ | exact ⟨Or.inr rfl, by omega, by omega⟩, ?_⟩
      refine ⟨rfl, ?_⟩
      first
      | (exfalso; omega)
      | (have eK : stK (psF F0) = if F0 25 23 = 0 then F0 25 24 else -1 := rfl
         first
         | rw [if_pos (show F0 25 23 = 0 by omega)] at eK
         | rw [if_neg (show ¬ F0 25 23 = 0 by omega)] at eK
         have eS : stS1 A0 (F0 25 20) (F0 25 30) (psF F0) = (rcR A0 (F0 25 20) (psF F0)).1 := by unfold stS1; rw [if_pos (show stK (psF F0) = 0 by rw [eK]; omega)]
         have eN : stN A0 (F0 25 20) (F0 25 25) (psF F0) = nmN (A0 26) (rcS1 A0 (F0 25 20) (psF F0)) := by unfold stN; rw [if_pos (show stK (psF F0) = 0 by rw [eK]; omega)]
         have eG : stG A0 (F0 25 20) (F0 25 30) (psF F0) = F0 25 30 := by unfold stG; rw [if_neg (show ¬ stK (psF F0) = 2 by rw [eK]; omega)]
         have eA : stA A0 (F0 25 20) (F0 25 30) (psF F0) = rcA A0 (F0 25 20) (psF F0) := by unfold stA; rw [if_pos (show stK (psF F0) = 0 by rw [eK]; omega)]
         rw [eS, eN, eG, eA]
         exact ⟨(upF_id (by rw [upF_o (by omega), psS_o (by omega)])).symm, rfl⟩)
      | (have eK : stK (psF F0) = if F0 25 23 = 0 then F0 25 24 else -1 := rfl
         first
         | rw [if_pos (show F0 25 23 = 0 by omega)] at eK
         | rw [if_neg (show ¬ F0 25 23 = 0 by omega)] at eK
         have eS : stS1 A0 (F0 25 20) (F0 25 30) (psF F0) = rlS5 A0 (F0 25 20) (psF F0) := by unfold stS1; rw [if_neg (show ¬ stK (psF F0) = 0 by rw [eK]; omega)]; rw [if_pos (show stK (psF F0) = 1 by rw [eK]; omega)]
         have eN : stN A0 (F0 25 20) (F0 25 25) (psF F0) = nmN (A0 26) (rlS1 A0 (F0 25 20) (psF F0)) := by unfold stN; rw [if_neg (show ¬ stK (psF F0) = 0 by rw [eK]; omega)]; rw [if_pos (show stK (psF F0) = 1 by rw [eK]; omega)]
         have eG : stG A0 (F0 25 20) (F0 25 30) (psF F0) = F0 25 30 := by unfold stG; rw [if_neg (show ¬ stK (psF F0) = 2 by rw [eK]; omega)]
         have eA : stA A0 (F0 25 20) (F0 25 30) (psF F0) = rlA A0 (F0 25 20) (psF F0) := by unfold stA; rw [if_neg (show ¬ stK (psF F0) = 0 by rw [eK]; omega)]; rw [if_pos (show stK (psF F0) = 1 by rw [eK]; omega)]
         rw [eS, eN, eG, eA]
         exact ⟨(upF_id (by rw [upF_o (by omega), psS_o (by omega)])).symm, rfl⟩)
      | (have eK : stK (psF F0) = if F0 25 23 = 0 then F0 25 24 else -1 := rfl
         first
         | rw [if_pos (show F0 25 23 = 0 by omega)] at eK
         | rw [if_neg (show ¬ F0 25 23 = 0 by omega)] at eK
         have eS : stS1 A0 (F0 25 20) (F0 25 30) (psF F0) = rsS5 (A0 26) (F0 25 20) (F0 25 30) (psF F0) := by unfold stS1; rw [if_neg (show ¬ stK (psF F0) = 0 by rw [eK]; omega)]; rw [if_neg (show ¬ stK (psF F0) = 1 by rw [eK]; omega)]; rw [if_pos (show stK (psF F0) = 2 by rw [eK]; omega)]
         have eN : stN A0 (F0 25 20) (F0 25 25) (psF F0) = F0 25 25 := by unfold stN; rw [if_neg (show ¬ stK (psF F0) = 0 by rw [eK]; omega)]; rw [if_neg (show ¬ stK (psF F0) = 1 by rw [eK]; omega)]
         have eG : stG A0 (F0 25 20) (F0 25 30) (psF F0) = x_or (F0 25 30) (x_shl 1 (rsW (A0 26) (F0 25 20) (psF F0))) := by unfold stG; rw [if_pos (show stK (psF F0) = 2 by rw [eK]; omega)]
         have eA : stA A0 (F0 25 20) (F0 25 30) (psF F0) = rsA A0 (F0 25 20) (F0 25 30) (psF F0) := by unfold stA; rw [if_neg (show ¬ stK (psF F0) = 0 by rw [eK]; omega)]; rw [if_neg (show ¬ stK (psF F0) = 1 by rw [eK]; omega)]; rw [if_pos (show stK (psF F0) = 2 by rw [eK]; omega)]
         rw [eS, eN, eG, eA]
         exact ⟨by rw [upF_id (F := psS F0 (rsS5 (A0 26) (F0 25 20) (F0 25 30) (psF F0))) (k := 25) (j := 25) (v := F0 25 25) (by rw [psS_o (by omega)])], rfl⟩)
      | (have eK : stK (psF F0) = if F0 25 23 = 0 then F0 25 24 else -1 := rfl
         first
         | rw [if_pos (show F0 25 23 = 0 by omega)] at eK
         | rw [if_neg (show ¬ F0 25 23 = 0 by omega)] at eK
         have eS : stS1 A0 (F0 25 20) (F0 25 30) (psF F0) = fiP (psF F0) 1 (-11) := by unfold stS1; rw [if_neg (show ¬ stK (psF F0) = 0 by rw [eK]; omega)]; rw [if_neg (show ¬ stK (psF F0) = 1 by rw [eK]; omega)]; rw [if_neg (show ¬ stK (psF F0) = 2 by rw [eK]; omega)]
         have eN : stN A0 (F0 25 20) (F0 25 25) (psF F0) = F0 25 25 := by unfold stN; rw [if_neg (show ¬ stK (psF F0) = 0 by rw [eK]; omega)]; rw [if_neg (show ¬ stK (psF F0) = 1 by rw [eK]; omega)]
         have eG : stG A0 (F0 25 20) (F0 25 30) (psF F0) = F0 25 30 := by unfold stG; rw [if_neg (show ¬ stK (psF F0) = 2 by rw [eK]; omega)]
         have eA : stA A0 (F0 25 20) (F0 25 30) (psF F0) = A0 := by unfold stA; rw [if_neg (show ¬ stK (psF F0) = 0 by rw [eK]; omega)]; rw [if_neg (show ¬ stK (psF F0) = 1 by rw [eK]; omega)]; rw [if_neg (show ¬ stK (psF F0) = 2 by rw [eK]; omega)]
         rw [eS, eN, eG, eA]
         exact ⟨by rw [upF_id (F := psS F0 (fiP (psF F0) 1 (-11))) (by rw [psS_o (by omega)]), upF_id (by rw [psS_o (by omega)])], rfl⟩)
    · skip
      (try simp only [fiP_22, inS_22, nmS_22, psF_e, psF_q, psF_p, psF_o, psF_t, psF_v] at c2); (try simp (disch := omega) only [w32_0, wbi0, Classical.not_not, w32_id] at c2)
      refine ⟨by first | exact ⟨⟨pt, pn, pk⟩, pc⟩ | exact ⟨⟨pt, pn, pk⟩, pg⟩ | exact ⟨Or.inr rfl, by omega, by omega⟩, ?_⟩
      refine ⟨rfl, ?_⟩
      first
      | (exfalso; omega)
      | (have eK : stK (psF F0) = if F0 25 23 = 0 then F0 25 24 else -1 := rfl
         first
         | rw [if_pos (show F0 25 23 = 0 by omega)] at eK
         | rw [if_neg (show ¬ F0 25 23 = 0 by omega)] at eK
         have eS : stS1 A0 (F0 25 20) (F0 25 30) (psF F0) = (rcR A0 (F0 25 20) (psF F0)).1 := by unfold stS1; rw [if_pos (show stK (psF F0) = 0 by rw [eK]; omega)]
         have eN : stN A0 (F0 25 20) (F0 25 25) (psF F0) = nmN (A0 26) (rcS1 A0 (F0 25 20) (psF F0)) := by unfold stN; rw [if_pos (show stK (psF F0) = 0 by rw [eK]; omega)]
         have eG : stG A0 (F0 25 20) (F0 25 30) (psF F0) = F0 25 30 := by unfold stG; rw [if_neg (show ¬ stK (psF F0) = 2 by rw [eK]; omega)]
         have eA : stA A0 (F0 25 20) (F0 25 30) (psF F0) = rcA A0 (F0 25 20) (psF F0) := by unfold stA; rw [if_pos (show stK (psF F0) = 0 by rw [eK]; omega)]
         rw [eS, eN, eG, eA]
         exact ⟨(upF_id (by rw [upF_o (by omega), psS_o (by omega)])).symm, rfl⟩)
      | (have eK : stK (psF F0) = if F0 25 23 = 0 then F0 25 24 else -1 := rfl
         first
         | rw [if_pos (show F0 25 23 = 0 by omega)] at eK
         | rw [if_neg (show ¬ F0 25 23 = 0 by omega)] at eK
         have eS : stS1 A0 (F0 25 20) (F0 25 30) (psF F0) = rlS5 A0 (F0 25 20) (psF F0) := by unfold stS1; rw [if_neg (show ¬ stK (psF F0) = 0 by rw [eK]; omega)]; rw [if_pos (show stK (psF F0) = 1 by rw [eK]; omega)]
         have eN : stN A0 (F0 25 20) (F0 25 25) (psF F0) = nmN (A0 26) (rlS1 A0 (F0 25 20) (psF F0)) := by unfold stN; rw [if_neg (show ¬ stK (psF F0) = 0 by rw [eK]; omega)]; rw [if_pos (show stK (psF F0) = 1 by rw [eK]; omega)]
         have eG : stG A0 (F0 25 20) (F0 25 30) (psF F0) = F0 25 30 := by unfold stG; rw [if_neg (show ¬ stK (psF F0) = 2 by rw [eK]; omega)]
         have eA : stA A0 (F0 25 20) (F0 25 30) (psF F0) = rlA A0 (F0 25 20) (psF F0) := by unfold stA; rw [if_neg (show ¬ stK (psF F0) = 0 by rw [eK]; omega)]; rw [if_pos (show stK (psF F0) = 1 by rw [eK]; omega)]
         rw [eS, eN, eG, eA]
         exact ⟨(upF_id (by rw [upF_o (by omega), psS_o (by omega)])).symm, rfl⟩)
      | (have eK : stK (psF F0) = if F0 25 23 = 0 then F0 25 24 else -1 := rfl
         first
         | rw [if_pos (show F0 25 23 = 0 by omega)] at eK
         | rw [if_neg (show ¬ F0 25 23 = 0 by omega)] at eK
         have eS : stS1 A0 (F0 25 20) (F0 25 30) (psF F0) = rsS5 (A0 26) (F0 25 20) (F0 25 30) (psF F0) := by unfold stS1; rw [if_neg (show ¬ stK (psF F0) = 0 by rw [eK]; omega)]; rw [if_neg (show ¬ stK (psF F0) = 1 by rw [eK]; omega)]; rw [if_pos (show stK (psF F0) = 2 by rw [eK]; omega)]
         have eN : stN A0 (F0 25 20) (F0 25 25) (psF F0) = F0 25 25 := by unfold stN; rw [if_neg (show ¬ stK (psF F0) = 0 by rw [eK]; omega)]; rw [if_neg (show ¬ stK (psF F0) = 1 by rw [eK]; omega)]
         have eG : stG A0 (F0 25 20) (F0 25 30) (psF F0) = x_or (F0 25 30) (x_shl 1 (rsW (A0 26) (F0 25 20) (psF F0))) := by unfold stG; rw [if_pos (show stK (psF F0) = 2 by rw [eK]; omega)]
         have eA : stA A0 (F0 25 20) (F0 25 30) (psF F0) = rsA A0 (F0 25 20) (F0 25 30) (psF F0) := by unfold stA; rw [if_neg (show ¬ stK (psF F0) = 0 by rw [eK]; omega)]; rw [if_neg (show ¬ stK (psF F0) = 1 by rw [eK]; omega)]; rw [if_pos (show stK (psF F0) = 2 by rw [eK]; omega)]
         rw [eS, eN, eG, eA]
         exact ⟨by rw [upF_id (F := psS F0 (rsS5 (A0 26) (F0 25 20) (F0 25 30) (psF F0))) (k := 25) (j := 25) (v := F0 25 25) (by rw [psS_o (by omega)])], rfl⟩)
      | (have eK : stK (psF F0) = if F0 25 23 = 0 then F0 25 24 else -1 := rfl
         first
         | rw [if_pos (show F0 25 23 = 0 by omega)] at eK
         | rw [if_neg (show ¬ F0 25 23 = 0 by omega)] at eK
         have eS : stS1 A0 (F0 25 20) (F0 25 30) (psF F0) = fiP (psF F0) 1 (-11) := by unfold stS1; rw [if_neg (show ¬ stK (psF F0) = 0 by rw [eK]; omega)]; rw [if_neg (show ¬ stK (psF F0) = 1 by rw [eK]; omega)]; rw [if_neg (show ¬ stK (psF F0) = 2 by rw [eK]; omega)]
         have eN : stN A0 (F0 25 20) (F0 25 25) (psF F0) = F0 25 25 := by unfold stN; rw [if_neg (show ¬ stK (psF F0) = 0 by rw [eK]; omega)]; rw [if_neg (show ¬ stK (psF F0) = 1 by rw [eK]; omega)]
         have eG : stG A0 (F0 25 20) (F0 25 30) (psF F0) = F0 25 30 := by unfold stG; rw [if_neg (show ¬ stK (psF F0) = 2 by rw [eK]; omega)]
         have eA : stA A0 (F0 25 20) (F0 25 30) (psF F0) = A0 := by unfold stA; rw [if_neg (show ¬ stK (psF F0) = 0 by rw [eK]; omega)]; rw [if_neg (show ¬ stK (psF F0) = 1 by rw [eK]; omega)]; rw [if_neg (show ¬ stK (psF F0) = 2 by rw [eK]; omega)]
         rw [eS, eN, eG, eA]
         exact ⟨by rw [upF_id (F := psS F0 (fiP (psF F0) 1 (-11))) (by rw [psS_o (by omega)]), upF_id (by rw [psS_o (by omega)])], rfl⟩)
set_option maxRecDepth 20000 in
theorem qvX9_readStatement_25_72  (F0 : FF) (A0 : AA) (K : KK) (h : ((byO (A0 26) ∧ (0 ≤ (F0 25 20) ∧ (F0 25 20) ≤ 800) ∧ psOK ((F0 25 20)) (psF F0)) ∧ ((0 ≤ A0 27 14 ∧ A0 27 14 ≤ 8) ∧ (0 ≤ A0 27 15 ∧ A0 27 15 ≤ 6)) ∧ (0 ≤ (F0 25 30) ∧ (F0 25 30) ≤ 3) ∧ (0 ≤ (F0 25 29) ∧ (F0 25 29) ≤ 900)) ∧ (K (some none) (upF (upF (upF (psS F0 (stS2 A0 ((F0 25 20)) ((F0 25 30)) (psF F0))) 25 25 (stN A0 ((F0 25 20)) ((F0 25 25)) (psF F0))) 25 30 (stG A0 ((F0 25 20)) ((F0 25 30)) (psF F0))) 25 29 ((F0 25 29) + 1)) (stA A0 ((F0 25 20)) ((F0 25 30)) (psF F0))))  (F : FF) (A : AA) (hi : F = upF (upF (psS F0 (stS1 A0 (F0 25 20) (F0 25 30) (psF F0))) 25 25 (stN A0 (F0 25 20) (F0 25 25) (psF F0))) 25 30 (stG A0 (F0 25 20) (F0 25 30) (psF F0)) ∧ A = stA A0 (F0 25 20) (F0 25 30) (psF F0)) : am_stp qxX9_readStatement (am_run qxX9_readStatement qnX9_readStatement_25 (fun pc ls st F9 A9 u => qiX9_readStatement_25  F0 A0 pc ls st F9 A9 u ∧ quX9_readStatement_25 pc ls st F9 A9 < quX9_readStatement_25 72 [some (vR 25), none] [] F A) K 20) K 72 [some (vR 25), none] [] F A 0 := by
  obtain ⟨hp, h⟩ := h
  obtain ⟨⟨pt, pn, pk⟩, pc, pg, pm⟩ := hp
  have ke : -14 ≤ F0 25 26 ∧ F0 25 26 ≤ 0 := pk.1
  have kt : 0 ≤ F0 25 23 ∧ F0 25 23 ≤ 4 := pk.2.2.2.2.1
  have kv : -1 ≤ F0 25 24 ∧ F0 25 24 ≤ 2000000 := pk.2.2.2.2.2.2
  have k1 : psOK (F0 25 20) (stS1 A0 (F0 25 20) (F0 25 30) (psF F0)) := stS1_ok pk pn.1 pn.2
  have k1e := k1.1
  have k1t := k1.2.2.2.2.1
  have j0 := fiP_ok (z := 0) (v := -11) k1 pn.2 (by decide)
  have j1 := fiP_ok (z := 1) (v := -11) k1 pn.2 (by decide)
  obtain ⟨rfl, rfl⟩ := hi
  show (w32 ((stS1 A0 (F0 25 20) (F0 25 30) (psF F0)).2.2.2.2.1) = w32 2 → (((0 = 0 ∨ 0 = 1) ∧ (-2147483648 ≤ ((stS1 A0 (F0 25 20) (F0 25 30) (psF F0)).1) ∧ ((stS1 A0 (F0 25 20) (F0 25 30) (psF F0)).1) < 2147483648)) ∧ ((byO ((stA A0 (F0 25 20) (F0 25 30) (psF F0)) 26) ∧ (0 ≤ (F0 25 20) ∧ (F0 25 20) ≤ 800) ∧ psOK ((F0 25 20)) ((fiP ((stS1 A0 (F0 25 20) (F0 25 30) (psF F0))) 0 (-11)))) ∧ (K (some none) (upF (psS (psS (upF (upF (psS F0 (stS1 A0 (F0 25 20) (F0 25 30) (psF F0))) 25 25 (stN A0 (F0 25 20) (F0 25 25) (psF F0))) 25 30 (stG A0 (F0 25 20) (F0 25 30) (psF F0))) (fiP ((stS1 A0 (F0 25 20) (F0 25 30) (psF F0))) 0 (-11))) (goM ((stA A0 (F0 25 20) (F0 25 30) (psF F0)) 26) ((F0 25 20)) ((fiP ((stS1 A0 (F0 25 20) (F0 25 30) (psF F0))) 0 (-11))))) 25 29 ((F0 25 29) + 1)) (stA A0 (F0 25 20) (F0 25 30) (psF F0)))))) ∧ (¬ w32 ((stS1 A0 (F0 25 20) (F0 25 30) (psF F0)).2.2.2.2.1) = w32 2 → (((1 = 0 ∨ 1 = 1) ∧ (-2147483648 ≤ ((stS1 A0 (F0 25 20) (F0 25 30) (psF F0)).1) ∧ ((stS1 A0 (F0 25 20) (F0 25 30) (psF F0)).1) < 2147483648)) ∧ ((byO ((stA A0 (F0 25 20) (F0 25 30) (psF F0)) 26) ∧ (0 ≤ (F0 25 20) ∧ (F0 25 20) ≤ 800) ∧ psOK ((F0 25 20)) ((fiP ((stS1 A0 (F0 25 20) (F0 25 30) (psF F0))) 1 (-11)))) ∧ (K (some none) (upF (psS (psS (upF (upF (psS F0 (stS1 A0 (F0 25 20) (F0 25 30) (psF F0))) 25 25 (stN A0 (F0 25 20) (F0 25 25) (psF F0))) 25 30 (stG A0 (F0 25 20) (F0 25 30) (psF F0))) (fiP ((stS1 A0 (F0 25 20) (F0 25 30) (psF F0))) 1 (-11))) (goM ((stA A0 (F0 25 20) (F0 25 30) (psF F0)) 26) ((F0 25 20)) ((fiP ((stS1 A0 (F0 25 20) (F0 25 30) (psF F0))) 1 (-11))))) 25 29 ((F0 25 29) + 1)) (stA A0 (F0 25 20) (F0 25 30) (psF F0))))))
  refine ⟨fun c1 => ?_, fun c1 => ?_⟩
  · skip
    (try simp only [stA_26] at c1); (try simp only [fiP_22, inS_22, nmS_22, psF_e, psF_q, psF_p, psF_o, psF_t, psF_v] at c1); (try simp (disch := omega) only [w32_0, wbi0, Classical.not_not, w32_id] at c1)
    refine ⟨by first | exact ⟨Or.inl rfl, by omega, by omega⟩ | exact ⟨Or.inr rfl, by omega, by omega⟩ | exact ⟨pt, pn, j0⟩ | exact ⟨pt, pn, j1⟩ | (rw [stA_26]; exact ⟨pt, pn, j0⟩) | (rw [stA_26]; exact ⟨pt, pn, j1⟩), ?_⟩
    refine ⟨by first | exact ⟨Or.inl rfl, by omega, by omega⟩ | exact ⟨Or.inr rfl, by omega, by omega⟩ | exact ⟨pt, pn, j0⟩ | exact ⟨pt, pn, j1⟩ | (rw [stA_26]; exact ⟨pt, pn, j0⟩) | (rw [stA_26]; exact ⟨pt, pn, j1⟩), ?_⟩
    have eS : stS2 A0 (F0 25 20) (F0 25 30) (psF F0) = goM (A0 26) (F0 25 20) (fiP (stS1 A0 (F0 25 20) (F0 25 30) (psF F0)) (if (stS1 A0 (F0 25 20) (F0 25 30) (psF F0)).2.2.2.2.1 = 2 then 0 else 1) (-11)) := rfl
    first
    | rw [if_pos (by assumption)] at eS
    | rw [if_neg (by assumption)] at eS
    rw [eS] at h
    simp only [stA_26]
    rw [psS_up (by decide), psS_up (by decide), psS_up (by decide), psS_up (by decide)]
    simp only [psS_S]
    have w9 : w32 (F0 25 29 + 1) = F0 25 29 + 1 := w32_id (by omega) (by omega)
    exact h
  · skip
    (try simp only [stA_26] at c1); (try simp only [fiP_22, inS_22, nmS_22, psF_e, psF_q, psF_p, psF_o, psF_t, psF_v] at c1); (try simp (disch := omega) only [w32_0, wbi0, Classical.not_not, w32_id] at c1)
    refine ⟨by first | exact ⟨Or.inl rfl, by omega, by omega⟩ | exact ⟨Or.inr rfl, by omega, by omega⟩ | exact ⟨pt, pn, j0⟩ | exact ⟨pt, pn, j1⟩ | (rw [stA_26]; exact ⟨pt, pn, j0⟩) | (rw [stA_26]; exact ⟨pt, pn, j1⟩), ?_⟩
    refine ⟨by first | exact ⟨Or.inl rfl, by omega, by omega⟩ | exact ⟨Or.inr rfl, by omega, by omega⟩ | exact ⟨pt, pn, j0⟩ | exact ⟨pt, pn, j1⟩ | (rw [stA_26]; exact ⟨pt, pn, j0⟩) | (rw [stA_26]; exact ⟨pt, pn, j1⟩), ?_⟩
    have eS : stS2 A0 (F0 25 20) (F0 25 30) (psF F0) = goM (A0 26) (F0 25 20) (fiP (stS1 A0 (F0 25 20) (F0 25 30) (psF F0)) (if (stS1 A0 (F0 25 20) (F0 25 30) (psF F0)).2.2.2.2.1 = 2 then 0 else 1) (-11)) := rfl
    first
    | rw [if_pos (by assumption)] at eS
    | rw [if_neg (by assumption)] at eS
    rw [eS] at h
    simp only [stA_26]
    rw [psS_up (by decide), psS_up (by decide), psS_up (by decide), psS_up (by decide)]
    simp only [psS_S]
    have w9 : w32 (F0 25 29 + 1) = F0 25 29 + 1 := w32_id (by omega) (by omega)
    exact h
set_option maxRecDepth 20000 in
theorem qvX9_readStatement_25  (F0 : FF) (A0 : AA) (K : KK) (h : ((byO (A0 26) ∧ (0 ≤ (F0 25 20) ∧ (F0 25 20) ≤ 800) ∧ psOK ((F0 25 20)) (psF F0)) ∧ ((0 ≤ A0 27 14 ∧ A0 27 14 ≤ 8) ∧ (0 ≤ A0 27 15 ∧ A0 27 15 ≤ 6)) ∧ (0 ≤ (F0 25 30) ∧ (F0 25 30) ≤ 3) ∧ (0 ≤ (F0 25 29) ∧ (F0 25 29) ≤ 900)) ∧ (K (some none) (upF (upF (upF (psS F0 (stS2 A0 ((F0 25 20)) ((F0 25 30)) (psF F0))) 25 25 (stN A0 ((F0 25 20)) ((F0 25 25)) (psF F0))) 25 30 (stG A0 ((F0 25 20)) ((F0 25 30)) (psF F0))) 25 29 ((F0 25 29) + 1)) (stA A0 ((F0 25 20)) ((F0 25 30)) (psF F0)))) : am_body qxX9_readStatement qnX9_readStatement_25 20 (qiX9_readStatement_25  F0 A0) quX9_readStatement_25 [vR 25] 2 F0 A0 K := by
  refine ⟨qvX9_readStatement_25_0  F0 A0 K h, fun pc ls st F A u hI => ?_⟩
  unfold qiX9_readStatement_25 at hI
  replace hI := am_cond2 hI
  rcases hI with ⟨hb, hI⟩ | hI
  · have hb := am_bq hb
    subst hb
    split at hI
    · rename_i s0
      obtain ⟨e0, hI⟩ := hI
      subst e0
      exact qvX9_readStatement_25_72  _ _ K h _ _ hI
    · exact hI.elim
  exact hI.elim
theorem qtX9_readStatement (l : Launch) (hst : l.stackTraces = false) : am_CT l layM qeX9_readStatement := am_met1 hst rfl (by decide +kernel) rfl rfl rfl rfl rfl (fun _ _ h => by cases h) rfl (qzX9_readStatement l hst) (fun as F A K h => by
  replace h : qsX9_readStatement as F A K := h
  unfold qsX9_readStatement at h
  split at h
  · rename_i o
    refine ⟨by first | exact Nat.le_of_ble_eq_true rfl | simp [am_fl, am_cat], ?_⟩
    replace h := am_cond2 h
    rcases h with ⟨hb, h⟩ | h
    · skip
      have hb0 := hb
      have hb0 := am_bq hb0
      subst hb0
      exact am_way_body (qvX9_readStatement_25  F A K h)
    exact h.elim
  · exact h.elim)
