def qkX9_readCurve : Nat → Option CI := fun pc => cond (Nat.ble 186 pc) none (cond (Nat.ble 99 pc) (cond (Nat.ble 144 pc) (cond (Nat.ble 169 pc) (cond (Nat.ble 178 pc) (cond (Nat.ble 182 pc) (cond (Nat.ble 184 pc) (cond (Nat.beq pc 184) (some (.iastore, 185, [])) (cond (Nat.beq pc 185) (some (.return_, 186, [])) (none))) (cond (Nat.beq pc 182) (some (.iconst 1, 183, [])) (cond (Nat.beq pc 183) (some (.iadd, 184, [])) (none)))) (cond (Nat.beq pc 178) (some (.bipush 14, 180, [])) (cond (Nat.beq pc 180) (some (.dup2, 181, [])) (cond (Nat.beq pc 181) (some (.iaload, 182, [])) (none))))) (cond (Nat.ble 172 pc) (cond (Nat.ble 174 pc) (cond (Nat.beq pc 174) (some (.aload_n 0, 175, [])) (cond (Nat.beq pc 175) (some (.getfield 13, 178, [])) (none))) (cond (Nat.beq pc 172) (some (.iload_n 2, 173, [])) (cond (Nat.beq pc 173) (some (.iastore, 174, [])) (none)))) (cond (Nat.beq pc 169) (some (.iconst 0, 170, [])) (cond (Nat.beq pc 170) (some (.iload_n 1, 171, [])) (cond (Nat.beq pc 171) (some (.iadd, 172, [])) (none)))))) (cond (Nat.ble 159 pc) (cond (Nat.ble 163 pc) (cond (Nat.ble 165 pc) (cond (Nat.beq pc 165) (some (.aload_n 0, 166, [])) (cond (Nat.beq pc 166) (some (.getfield 13, 169, [])) (none))) (cond (Nat.beq pc 163) (some (.iload_n 3, 164, [])) (cond (Nat.beq pc 164) (some (.iastore, 165, [])) (none)))) (cond (Nat.beq pc 159) (some (.bipush 13, 161, [])) (cond (Nat.beq pc 161) (some (.iload_n 1, 162, [])) (cond (Nat.beq pc 162) (some (.imul, 163, [])) (none))))) (cond (Nat.ble 151 pc) (cond (Nat.ble 155 pc) (cond (Nat.beq pc 155) (some (.aload_n 0, 156, [])) (cond (Nat.beq pc 156) (some (.getfield 19, 159, [])) (none))) (cond (Nat.beq pc 151) (some (.ifCond .eq 4, 154, [155])) (cond (Nat.beq pc 154) (some (.return_, 155, [])) (none)))) (cond (Nat.beq pc 144) (some (.goto (-104), 147, [40])) (cond (Nat.beq pc 147) (some (.aload_n 0, 148, [])) (cond (Nat.beq pc 148) (some (.getfield 232, 151, [])) (none))))))) (cond (Nat.ble 120 pc) (cond (Nat.ble 132 pc) (cond (Nat.ble 135 pc) (cond (Nat.ble 138 pc) (cond (Nat.beq pc 138) (some (.invokevirtual 263, 141, [])) (cond (Nat.beq pc 141) (some (.iinc 3 1, 144, [])) (none))) (cond (Nat.beq pc 135) (some (.iconst 2, 136, [])) (cond (Nat.beq pc 136) (some (.iload 6, 138, [])) (none)))) (cond (Nat.beq pc 132) (some (.aload_n 0, 133, [])) (cond (Nat.beq pc 133) (some (.iload_n 1, 134, [])) (cond (Nat.beq pc 134) (some (.iload_n 3, 135, [])) (none))))) (cond (Nat.ble 125 pc) (cond (Nat.ble 127 pc) (cond (Nat.beq pc 127) (some (.iload 5, 129, [])) (cond (Nat.beq pc 129) (some (.invokevirtual 263, 132, [])) (none))) (cond (Nat.beq pc 125) (some (.iload_n 3, 126, [])) (cond (Nat.beq pc 126) (some (.iconst 1, 127, [])) (none)))) (cond (Nat.beq pc 120) (some (.invokevirtual 263, 123, [])) (cond (Nat.beq pc 123) (some (.aload_n 0, 124, [])) (cond (Nat.beq pc 124) (some (.iload_n 1, 125, [])) (none)))))) (cond (Nat.ble 110 pc) (cond (Nat.ble 115 pc) (cond (Nat.ble 117 pc) (cond (Nat.beq pc 117) (some (.iconst 0, 118, [])) (cond (Nat.beq pc 118) (some (.iload 4, 120, [])) (none))) (cond (Nat.beq pc 115) (some (.iload_n 1, 116, [])) (cond (Nat.beq pc 116) (some (.iload_n 3, 117, [])) (none)))) (cond (Nat.beq pc 110) (some (.ifCond .eq 4, 113, [114])) (cond (Nat.beq pc 113) (some (.return_, 114, [])) (cond (Nat.beq pc 114) (some (.aload_n 0, 115, [])) (none))))) (cond (Nat.ble 104 pc) (cond (Nat.beq pc 104) (some (.istore 6, 106, [])) (cond (Nat.beq pc 106) (some (.aload_n 0, 107, [])) (cond (Nat.beq pc 107) (some (.getfield 232, 110, [])) (none)))) (cond (Nat.beq pc 99) (some (.iconst 1, 100, [])) (cond (Nat.beq pc 100) (some (.iconst 3, 101, [])) (cond (Nat.beq pc 101) (some (.invokevirtual 260, 104, [])) (none)))))))) (cond (Nat.ble 48 pc) (cond (Nat.ble 72 pc) (cond (Nat.ble 86 pc) (cond (Nat.ble 91 pc) (cond (Nat.ble 96 pc) (cond (Nat.beq pc 96) (some (.istore 5, 98, [])) (cond (Nat.beq pc 98) (some (.aload_n 0, 99, [])) (none))) (cond (Nat.beq pc 91) (some (.bipush 20, 93, [])) (cond (Nat.beq pc 93) (some (.invokevirtual 260, 96, [])) (none)))) (cond (Nat.beq pc 86) (some (.invokevirtual 248, 89, [])) (cond (Nat.beq pc 89) (some (.aload_n 0, 90, [])) (cond (Nat.beq pc 90) (some (.iconst 0, 91, [])) (none))))) (cond (Nat.ble 79 pc) (cond (Nat.ble 82 pc) (cond (Nat.beq pc 82) (some (.invokevirtual 241, 85, [])) (cond (Nat.beq pc 85) (some (.aload_n 0, 86, [])) (none))) (cond (Nat.beq pc 79) (some (.iconst 0, 80, [])) (cond (Nat.beq pc 80) (some (.bipush (-14), 82, [])) (none)))) (cond (Nat.beq pc 72) (some (.if_icmp .ne 7, 75, [79])) (cond (Nat.beq pc 75) (some (.iconst 1, 76, [])) (cond (Nat.beq pc 76) (some (.goto 4, 79, [80])) (none)))))) (cond (Nat.ble 61 pc) (cond (Nat.ble 67 pc) (cond (Nat.ble 70 pc) (cond (Nat.beq pc 70) (some (.iload_n 3, 71, [])) (cond (Nat.beq pc 71) (some (.iconst 4, 72, [])) (none))) (cond (Nat.beq pc 67) (some (.istore 4, 69, [])) (cond (Nat.beq pc 69) (some (.aload_n 0, 70, [])) (none)))) (cond (Nat.beq pc 61) (some (.iconst 0, 62, [])) (cond (Nat.beq pc 62) (some (.bipush 20, 64, [])) (cond (Nat.beq pc 64) (some (.invokevirtual 245, 67, [])) (none))))) (cond (Nat.ble 53 pc) (cond (Nat.ble 57 pc) (cond (Nat.beq pc 57) (some (.if_icmp .ne 90, 60, [147])) (cond (Nat.beq pc 60) (some (.aload_n 0, 61, [])) (none))) (cond (Nat.beq pc 53) (some (.getfield 204, 56, [])) (cond (Nat.beq pc 56) (some (.iconst 1, 57, [])) (none)))) (cond (Nat.beq pc 48) (some (.iconst 2, 49, [])) (cond (Nat.beq pc 49) (some (.if_icmp .lt 11, 52, [60])) (cond (Nat.beq pc 52) (some (.aload_n 0, 53, [])) (none))))))) (cond (Nat.ble 22 pc) (cond (Nat.ble 37 pc) (cond (Nat.ble 40 pc) (cond (Nat.ble 44 pc) (cond (Nat.beq pc 44) (some (.ifCond .ne 103, 47, [147])) (cond (Nat.beq pc 47) (some (.iload_n 3, 48, [])) (none))) (cond (Nat.beq pc 40) (some (.aload_n 0, 41, [])) (cond (Nat.beq pc 41) (some (.getfield 232, 44, [])) (none)))) (cond (Nat.beq pc 37) (some (.istore_n 2, 38, [])) (cond (Nat.beq pc 38) (some (.iconst 0, 39, [])) (cond (Nat.beq pc 39) (some (.istore_n 3, 40, [])) (none))))) (cond (Nat.ble 29 pc) (cond (Nat.ble 33 pc) (cond (Nat.beq pc 33) (some (.aload_n 0, 34, [])) (cond (Nat.beq pc 34) (some (.getfield 251, 37, [])) (none))) (cond (Nat.beq pc 29) (some (.aload_n 0, 30, [])) (cond (Nat.beq pc 30) (some (.invokevirtual 257, 33, [])) (none)))) (cond (Nat.beq pc 22) (some (.invokevirtual 241, 25, [])) (cond (Nat.beq pc 25) (some (.aload_n 0, 26, [])) (cond (Nat.beq pc 26) (some (.invokevirtual 248, 29, [])) (none)))))) (cond (Nat.ble 9 pc) (cond (Nat.ble 15 pc) (cond (Nat.ble 19 pc) (cond (Nat.beq pc 19) (some (.iconst 0, 20, [])) (cond (Nat.beq pc 20) (some (.bipush (-14), 22, [])) (none))) (cond (Nat.beq pc 15) (some (.iconst 1, 16, [])) (cond (Nat.beq pc 16) (some (.goto 4, 19, [20])) (none)))) (cond (Nat.beq pc 9) (some (.iload_n 1, 10, [])) (cond (Nat.beq pc 10) (some (.bipush 8, 12, [])) (cond (Nat.beq pc 12) (some (.if_icmp .ne 7, 15, [19])) (none))))) (cond (Nat.ble 6 pc) (cond (Nat.beq pc 6) (some (.iaload, 7, [])) (cond (Nat.beq pc 7) (some (.istore_n 1, 8, [])) (cond (Nat.beq pc 8) (some (.aload_n 0, 9, [])) (none)))) (cond (Nat.beq pc 0) (some (.aload_n 0, 1, [])) (cond (Nat.beq pc 1) (some (.getfield 13, 4, [])) (cond (Nat.beq pc 4) (some (.bipush 14, 6, [])) (none)))))))))
theorem qkX9_readCurve_ok : ∀ pc i nx ts, qkX9_readCurve pc = some (i, nx, ts) → am_cok cX9_readCurve pc (i, nx, ts) = true := fun pc i nx ts h => am_tok_ok (n := 186) (by decide +kernel) (fun pc h => by show cond (Nat.ble 186 pc) _ _ = _; rw [Nat.ble_eq_true_of_le h]; rfl) h
def qaX9_readCurve : Nat → Option CE := fun k => cond (Nat.beq k 241) (some qeX9_failsIf) (cond (Nat.beq k 248) (some qeX9_goOn) (cond (Nat.beq k 257) (some qeX9_newName) (cond (Nat.beq k 245) (some qeX9_integerHere) (cond (Nat.beq k 260) (some qeX9_integer) (cond (Nat.beq k 263) (some qeX9_setPoint) (none))))))
theorem qyX9_readCurve (l : Launch) (hst : l.stackTraces = false) : ∀ k e1, qaX9_readCurve k = some e1 → am_cal l layM RX9 14 k e1 ∧ True := q_cons ⟨am_calV (ci := 9) (qtX9_failsIf l) qbX9_failsIf (by decide) rfl (am_tb_at 1572 (by decide +kernel) rfl), trivial⟩ (q_cons ⟨am_calV (ci := 9) (qtX9_goOn l hst) qbX9_goOn (by decide) rfl (am_tb_at 1576 (by decide +kernel) rfl), trivial⟩ (q_cons ⟨am_calV (ci := 9) (qtX9_newName l hst) qbX9_newName (by decide) rfl (am_tb_at 1580 (by decide +kernel) rfl), trivial⟩ (q_cons ⟨am_calV (ci := 9) (qtX9_integerHere l) qbX9_integerHere (by decide) rfl (am_tb_at 1588 (by decide +kernel) rfl), trivial⟩ (q_cons ⟨am_calV (ci := 9) (qtX9_integer l hst) qbX9_integer (by decide) rfl (am_tb_at 1592 (by decide +kernel) rfl), trivial⟩ (q_cons ⟨am_calV (ci := 9) (qtX9_setPoint l) qbX9_setPoint (by decide) rfl (am_tb_at 1596 (by decide +kernel) rfl), trivial⟩ (q_nil))))))
def qxX9_readCurve : CX := (qkX9_readCurve, layM, qfX9, qaX9_readCurve, qcX9, qlX9, qmX9, none, true, none, 0, none, fun _ => none)
theorem qzX9_readCurve (l : Launch) (hst : l.stackTraces = false) : am_sta l qxX9_readCurve RX9 14 cX9_readCurve := ⟨qkX9_readCurve_ok, layM_ok, qfX9_ok, qcX9_ok, qlX9_ok, am_mthP qmX9_ok (by decide), fun k e1 h => (qyX9_readCurve l hst k e1 h).1⟩
def qsX9_readCurve : SP := fun as F A K => match as with
  | [.inr (.inr o)] => cond (Nat.beq o 25) (((byO (A 26) ∧ (0 ≤ (F 25 20) ∧ (F 25 20) ≤ 800) ∧ psOK ((F 25 20)) (psF F)) ∧ ((0 ≤ A 27 14 ∧ A 27 14 ≤ 8) ∧ (0 ≤ A 27 15 ∧ A 27 15 ≤ 6))) ∧ (K (some none) (upF (psS F ((rcR A ((F 25 20)) (psF F)).1)) 25 25 (nmN (A 26) (rcS1 A ((F 25 20)) (psF F)))) (rcA A ((F 25 20)) (psF F)))) (False)
  | _ => False
def qeX9_readCurve : CE := (yX9_readCurve, cX9_readCurve, 7, none, 0, some 9, 1, [], 0, 14, qsX9_readCurve)
theorem qbX9_readCurve : am_mb qeX9_readCurve := ⟨am_tb_at 1571 (by decide +kernel) rfl, am_tb_at 124 (by decide +kernel) rfl, ⟨by decide, by decide, by decide +kernel⟩, by decide, by decide, am_tb_at 1570 (by decide +kernel) rfl, am_tb_at 53 (by decide +kernel) rfl, _, _, rfl⟩
def qnX9_readCurve_25 : CUT := fun pc => cond (Nat.beq pc 40) (some [true, true, true, true, false, false, false]) (cond (Nat.beq pc 89) (some [true, true, true, true, true, false, false]) (none))
def qiX9_readCurve_25  (F0 : FF) (A0 : AA) : REC := fun pc ls st F A u => cond (Nat.beq pc 40) (match ls, st, u with
    | [some (.inr (.inr s0)), some (.inl c), some (.inl x), some (.inl k), none, none, none], [], 0 => s0 = 25 ∧ (c = A0 27 14 ∧ x = nmN (A0 26) (rcS1 A0 (F0 25 20) (psF F0)) ∧ (0 ≤ k ∧ k ≤ 4) ∧ ∃ (sq : PS) (gq : Int → Int), F = upF (psS F0 sq) 25 25 x ∧ A = r29 A0 gq ∧ psOK (F0 25 20) sq ∧ (sq.1 = 0 → c < 8) ∧ rcM (A0 26) (F0 25 20) c (Int.toNat (6 - k)) k sq gq = rcR A0 (F0 25 20) (psF F0))
    | _, _, _ => False) (cond (Nat.beq pc 89) (match ls, st, u with
    | [some (.inr (.inr s0)), some (.inl c), some (.inl x), some (.inl k), some (.inl y), none, none], [], 0 => s0 = 25 ∧ (c = A0 27 14 ∧ x = nmN (A0 26) (rcS1 A0 (F0 25 20) (psF F0)) ∧ (0 ≤ k ∧ k ≤ 4) ∧ ∃ (sq : PS) (gq : Int → Int), F = upF (psS F0 (pcS (A0 26) (F0 25 20) k sq)) 25 25 x ∧ A = r29 A0 gq ∧ psOK (F0 25 20) sq ∧ (sq.1 = 0 ∧ (k < 2 ∨ sq.2.2.2.2.1 = 1)) ∧ c < 8 ∧ y = inV 0 20 sq ∧ rcM (A0 26) (F0 25 20) c (Int.toNat (6 - k)) k sq gq = rcR A0 (F0 25 20) (psF F0))
    | _, _, _ => False) (False))
def quX9_readCurve_25 : Nat → LVs → List AV → FF → AA → Nat := fun pc ls _ F A => cond (Nat.beq pc 40) (match ls with
    | [some (.inr (.inr s0)), some (.inl c), some (.inl x), some (.inl k), none, none, none] => Int.toNat (10 - k) * 2 + 1
    | _ => 0) (cond (Nat.beq pc 89) (match ls with
    | [some (.inr (.inr s0)), some (.inl c), some (.inl x), some (.inl k), some (.inl y), none, none] => Int.toNat (10 - k) * 2
    | _ => 0) (0))
set_option maxRecDepth 20000 in
theorem qvX9_readCurve_25_0  (F0 : FF) (A0 : AA) (K : KK) (h : ((byO (A0 26) ∧ (0 ≤ (F0 25 20) ∧ (F0 25 20) ≤ 800) ∧ psOK ((F0 25 20)) (psF F0)) ∧ ((0 ≤ A0 27 14 ∧ A0 27 14 ≤ 8) ∧ (0 ≤ A0 27 15 ∧ A0 27 15 ≤ 6))) ∧ (K (some none) (upF (psS F0 ((rcR A0 ((F0 25 20)) (psF F0)).1)) 25 25 (nmN (A0 26) (rcS1 A0 ((F0 25 20)) (psF F0)))) (rcA A0 ((F0 25 20)) (psF F0)))) : am_stp qxX9_readCurve (am_run qxX9_readCurve qnX9_readCurve_25 (qiX9_readCurve_25  F0 A0) K 38) K 0 (am_ent [vR 25] 7) [] F0 A0 0 := by
  show am_stp qxX9_readCurve (am_run qxX9_readCurve qnX9_readCurve_25 (qiX9_readCurve_25  F0 A0) K 38) K 0 [some (vR 25), none, none, none, none, none, none] [] F0 A0 0
  obtain ⟨hp, h⟩ := h
  obtain ⟨⟨pt, pn, pk⟩, pc⟩ := hp
  have ke : -14 ≤ F0 25 26 ∧ F0 25 26 ≤ 0 := pk.1
  have k1 : psOK (F0 25 20) (rcS1 A0 (F0 25 20) (psF F0)) := goM_ok (fiP_ok pk pn.2 (by decide)) pn.1 pn.2
  have k2 := nmG_ok (A := A0) k1 pn.1 pn.2
  show (0 ≤ w32 14 ∧ w32 14 < 16) ∧ ((w32 (A0 27 (w32 14)) = w32 8 → (((1 = 0 ∨ 1 = 1) ∧ (-2147483648 ≤ (F0 25 26) ∧ (F0 25 26) < 2147483648)) ∧ ((byO (A0 26) ∧ (0 ≤ (F0 25 20) ∧ (F0 25 20) ≤ 800) ∧ psOK ((F0 25 20)) ((fiP (psF F0) 1 (-14)))) ∧ (((byO (A0 26) ∧ (0 ≤ (F0 25 20) ∧ (F0 25 20) ≤ 800) ∧ psOK ((F0 25 20)) ((goM (A0 26) ((F0 25 20)) ((fiP (psF F0) 1 (-14)))))) ∧ ((0 ≤ A0 27 14 ∧ A0 27 14 ≤ 8) ∧ (0 ≤ A0 27 15 ∧ A0 27 15 ≤ 6))) ∧ (25 = 25 ∧ ((A0 27 (w32 14)) = A0 27 14 ∧ (nmN (A0 26) ((goM (A0 26) ((F0 25 20)) ((fiP (psF F0) 1 (-14)))))) = nmN (A0 26) (rcS1 A0 (F0 25 20) (psF F0)) ∧ (0 ≤ 0 ∧ 0 ≤ 4) ∧ ∃ (sq : PS) (gq : Int → Int), (upF (psS (psS (psS F0 (fiP (psF F0) 1 (-14))) (goM (A0 26) ((F0 25 20)) ((fiP (psF F0) 1 (-14))))) (nmG A0 ((F0 25 20)) ((goM (A0 26) ((F0 25 20)) ((fiP (psF F0) 1 (-14))))))) 25 25 (nmN (A0 26) ((goM (A0 26) ((F0 25 20)) ((fiP (psF F0) 1 (-14))))))) = upF (psS F0 sq) 25 25 (nmN (A0 26) ((goM (A0 26) ((F0 25 20)) ((fiP (psF F0) 1 (-14)))))) ∧ A0 = r29 A0 gq ∧ psOK (F0 25 20) sq ∧ (sq.1 = 0 → (A0 27 (w32 14)) < 8) ∧ rcM (A0 26) (F0 25 20) (A0 27 (w32 14)) (Int.toNat (6 - 0)) 0 sq gq = rcR A0 (F0 25 20) (psF F0))))))) ∧ (¬ w32 (A0 27 (w32 14)) = w32 8 → (((0 = 0 ∨ 0 = 1) ∧ (-2147483648 ≤ (F0 25 26) ∧ (F0 25 26) < 2147483648)) ∧ ((byO (A0 26) ∧ (0 ≤ (F0 25 20) ∧ (F0 25 20) ≤ 800) ∧ psOK ((F0 25 20)) ((fiP (psF F0) 0 (-14)))) ∧ (((byO (A0 26) ∧ (0 ≤ (F0 25 20) ∧ (F0 25 20) ≤ 800) ∧ psOK ((F0 25 20)) ((goM (A0 26) ((F0 25 20)) ((fiP (psF F0) 0 (-14)))))) ∧ ((0 ≤ A0 27 14 ∧ A0 27 14 ≤ 8) ∧ (0 ≤ A0 27 15 ∧ A0 27 15 ≤ 6))) ∧ (25 = 25 ∧ ((A0 27 (w32 14)) = A0 27 14 ∧ (nmN (A0 26) ((goM (A0 26) ((F0 25 20)) ((fiP (psF F0) 0 (-14)))))) = nmN (A0 26) (rcS1 A0 (F0 25 20) (psF F0)) ∧ (0 ≤ 0 ∧ 0 ≤ 4) ∧ ∃ (sq : PS) (gq : Int → Int), (upF (psS (psS (psS F0 (fiP (psF F0) 0 (-14))) (goM (A0 26) ((F0 25 20)) ((fiP (psF F0) 0 (-14))))) (nmG A0 ((F0 25 20)) ((goM (A0 26) ((F0 25 20)) ((fiP (psF F0) 0 (-14))))))) 25 25 (nmN (A0 26) ((goM (A0 26) ((F0 25 20)) ((fiP (psF F0) 0 (-14))))))) = upF (psS F0 sq) 25 25 (nmN (A0 26) ((goM (A0 26) ((F0 25 20)) ((fiP (psF F0) 0 (-14)))))) ∧ A0 = r29 A0 gq ∧ psOK (F0 25 20) sq ∧ (sq.1 = 0 → (A0 27 (w32 14)) < 8) ∧ rcM (A0 26) (F0 25 20) (A0 27 (w32 14)) (Int.toNat (6 - 0)) 0 sq gq = rcR A0 (F0 25 20) (psF F0))))))))
  refine ⟨by first | decide | exact ⟨Or.inl rfl, by omega, by omega⟩ | exact ⟨Or.inr rfl, by omega, by omega⟩ | exact ⟨pt, pn, fiP_ok pk pn.2 (by decide)⟩ | exact ⟨⟨pt, pn, goM_ok (fiP_ok pk pn.2 (by decide)) pn.1 pn.2⟩, pc⟩, ?_⟩
  refine ⟨fun c1 => ?_, fun c1 => ?_⟩
  · skip
    (try simp only [show w32 14 = 14 from rfl] at c1); (try simp only [fiP_22, inS_22, nmS_22, psF_e, psF_q, psF_p, psF_o, psF_t, psF_v] at c1); (try simp (disch := omega) only [w32_0, wbi0, Classical.not_not, w32_id] at c1)
    refine ⟨by first | decide | exact ⟨Or.inl rfl, by omega, by omega⟩ | exact ⟨Or.inr rfl, by omega, by omega⟩ | exact ⟨pt, pn, fiP_ok pk pn.2 (by decide)⟩ | exact ⟨⟨pt, pn, goM_ok (fiP_ok pk pn.2 (by decide)) pn.1 pn.2⟩, pc⟩, ?_⟩
    refine ⟨by first | decide | exact ⟨Or.inl rfl, by omega, by omega⟩ | exact ⟨Or.inr rfl, by omega, by omega⟩ | exact ⟨pt, pn, fiP_ok pk pn.2 (by decide)⟩ | exact ⟨⟨pt, pn, goM_ok (fiP_ok pk pn.2 (by decide)) pn.1 pn.2⟩, pc⟩, ?_⟩
    refine ⟨by first | decide | exact ⟨Or.inl rfl, by omega, by omega⟩ | exact ⟨Or.inr rfl, by omega, by omega⟩ | exact ⟨pt, pn, fiP_ok pk pn.2 (by decide)⟩ | exact ⟨⟨pt, pn, goM_ok (fiP_ok pk pn.2 (by decide)) pn.1 pn.2⟩, pc⟩, ?_⟩
    refine ⟨rfl, ?_⟩
    first
    | (have e1 : (if A0 27 14 = 8 then (1 : Int) else 0) = 0 := if_neg (by omega)
       have eS : rcS1 A0 (F0 25 20) (psF F0) = goM (A0 26) (F0 25 20) (fiP (psF F0) 0 (-14)) := by unfold rcS1; rw [e1]
       rw [← eS, show w32 14 = 14 from rfl]
       refine ⟨rfl, rfl, by decide, nmG A0 (F0 25 20) (rcS1 A0 (F0 25 20) (psF F0)), A0 29, by simp only [psS_S], r29_A.symm, k2, fun y => ?_, ?_⟩
       rotate_left
       · unfold rcR; rw [show Int.toNat ((6 : Int) - 0) = 6 from rfl]
       by_cases c8 : A0 27 14 = 8
       · exact absurd y (rc_8 c8)
       · have := pc.1; omega)
    | (have e1 : (if A0 27 14 = 8 then (1 : Int) else 0) = 1 := if_pos (by omega)
       have eS : rcS1 A0 (F0 25 20) (psF F0) = goM (A0 26) (F0 25 20) (fiP (psF F0) 1 (-14)) := by unfold rcS1; rw [e1]
       rw [← eS, show w32 14 = 14 from rfl]
       refine ⟨rfl, rfl, by decide, nmG A0 (F0 25 20) (rcS1 A0 (F0 25 20) (psF F0)), A0 29, by simp only [psS_S], r29_A.symm, k2, fun y => ?_, ?_⟩
       rotate_left
       · unfold rcR; rw [show Int.toNat ((6 : Int) - 0) = 6 from rfl]
       by_cases c8 : A0 27 14 = 8
       · exact absurd y (rc_8 c8)
       · have := pc.1; omega)
  · skip
    (try simp only [show w32 14 = 14 from rfl] at c1); (try simp only [fiP_22, inS_22, nmS_22, psF_e, psF_q, psF_p, psF_o, psF_t, psF_v] at c1); (try simp (disch := omega) only [w32_0, wbi0, Classical.not_not, w32_id] at c1)
    refine ⟨by first | decide | exact ⟨Or.inl rfl, by omega, by omega⟩ | exact ⟨Or.inr rfl, by omega, by omega⟩ | exact ⟨pt, pn, fiP_ok pk pn.2 (by decide)⟩ | exact ⟨⟨pt, pn, goM_ok (fiP_ok pk pn.2 (by decide)) pn.1 pn.2⟩, pc⟩, ?_⟩
    refine ⟨by first | decide | exact ⟨Or.inl rfl, by omega, by omega⟩ | exact ⟨Or.inr rfl, by omega, by omega⟩ | exact ⟨pt, pn, fiP_ok pk pn.2 (by decide)⟩ | exact ⟨⟨pt, pn, goM_ok (fiP_ok pk pn.2 (by decide)) pn.1 pn.2⟩, pc⟩, ?_⟩
    refine ⟨by first | decide | exact ⟨Or.inl rfl, by omega, by omega⟩ | exact ⟨Or.inr rfl, by omega, by omega⟩ | exact ⟨pt, pn, fiP_ok pk pn.2 (by decide)⟩ | exact ⟨⟨pt, pn, goM_ok (fiP_ok pk pn.2 (by decide)) pn.1 pn.2⟩, pc⟩, ?_⟩
    refine ⟨rfl, ?_⟩
    first
    | (have e1 : (if A0 27 14 = 8 then (1 : Int) else 0) = 0 := if_neg (by omega)
       have eS : rcS1 A0 (F0 25 20) (psF F0) = goM (A0 26) (F0 25 20) (fiP (psF F0) 0 (-14)) := by unfold rcS1; rw [e1]
       rw [← eS, show w32 14 = 14 from rfl]
       refine ⟨rfl, rfl, by decide, nmG A0 (F0 25 20) (rcS1 A0 (F0 25 20) (psF F0)), A0 29, by simp only [psS_S], r29_A.symm, k2, fun y => ?_, ?_⟩
       rotate_left
       · unfold rcR; rw [show Int.toNat ((6 : Int) - 0) = 6 from rfl]
       by_cases c8 : A0 27 14 = 8
       · exact absurd y (rc_8 c8)
       · have := pc.1; omega)
    | (have e1 : (if A0 27 14 = 8 then (1 : Int) else 0) = 1 := if_pos (by omega)
       have eS : rcS1 A0 (F0 25 20) (psF F0) = goM (A0 26) (F0 25 20) (fiP (psF F0) 1 (-14)) := by unfold rcS1; rw [e1]
       rw [← eS, show w32 14 = 14 from rfl]
       refine ⟨rfl, rfl, by decide, nmG A0 (F0 25 20) (rcS1 A0 (F0 25 20) (psF F0)), A0 29, by simp only [psS_S], r29_A.symm, k2, fun y => ?_, ?_⟩
       rotate_left
       · unfold rcR; rw [show Int.toNat ((6 : Int) - 0) = 6 from rfl]
       by_cases c8 : A0 27 14 = 8
       · exact absurd y (rc_8 c8)
       · have := pc.1; omega)
set_option maxRecDepth 20000 in
theorem qvX9_readCurve_25_40  (F0 : FF) (A0 : AA) (K : KK) (h : ((byO (A0 26) ∧ (0 ≤ (F0 25 20) ∧ (F0 25 20) ≤ 800) ∧ psOK ((F0 25 20)) (psF F0)) ∧ ((0 ≤ A0 27 14 ∧ A0 27 14 ≤ 8) ∧ (0 ≤ A0 27 15 ∧ A0 27 15 ≤ 6))) ∧ (K (some none) (upF (psS F0 ((rcR A0 ((F0 25 20)) (psF F0)).1)) 25 25 (nmN (A0 26) (rcS1 A0 ((F0 25 20)) (psF F0)))) (rcA A0 ((F0 25 20)) (psF F0)))) (c : Int) (x : Int) (k : Int) (F : FF) (A : AA) (hi : c = A0 27 14 ∧ x = nmN (A0 26) (rcS1 A0 (F0 25 20) (psF F0)) ∧ (0 ≤ k ∧ k ≤ 4) ∧ ∃ (sq : PS) (gq : Int → Int), F = upF (psS F0 sq) 25 25 x ∧ A = r29 A0 gq ∧ psOK (F0 25 20) sq ∧ (sq.1 = 0 → c < 8) ∧ rcM (A0 26) (F0 25 20) c (Int.toNat (6 - k)) k sq gq = rcR A0 (F0 25 20) (psF F0)) : am_stp qxX9_readCurve (am_run qxX9_readCurve qnX9_readCurve_25 (fun pc ls st F9 A9 u => qiX9_readCurve_25  F0 A0 pc ls st F9 A9 u ∧ quX9_readCurve_25 pc ls st F9 A9 < quX9_readCurve_25 40 [some (vR 25), some (vI c), some (vI x), some (vI k), none, none, none] [] F A) K 38) K 40 [some (vR 25), some (vI c), some (vI x), some (vI k), none, none, none] [] F A 0 := by
  obtain ⟨hp, h⟩ := h
  obtain ⟨⟨pt, pn, pk⟩, pc⟩ := hp
  have ke : -14 ≤ F0 25 26 ∧ F0 25 26 ≤ 0 := pk.1
  have k1 : psOK (F0 25 20) (rcS1 A0 (F0 25 20) (psF F0)) := goM_ok (fiP_ok pk pn.2 (by decide)) pn.1 pn.2
  have k2 := nmG_ok (A := A0) k1 pn.1 pn.2
  obtain ⟨h1, h2, h3, ss, gg, rfl, rfl, h5, h6, h7⟩ := hi
  have rs := rcM_s (T := A0 26) (n := F0 25 20) (c := c) (k := k) (s := ss) (g := gg) (by omega)
  have j1 := inS_ok (a := 0) (b := 20) h5 pn.2
  have j1e := j1.1
  have h5e := h5.1
  have h5t := h5.2.2.2.2.1
  show (w32 ss.1 = w32 0 → ((w32 k < w32 2 → ((((0 ≤ (F0 25 20) ∧ (F0 25 20) ≤ 800) ∧ psOK ((F0 25 20)) (ss)) ∧ (-2147483648 ≤ 0 ∧ 0 < 2147483648) ∧ (-2147483648 ≤ 20 ∧ 20 < 2147483648)) ∧ ((w32 k = w32 4 → (((1 = 0 ∨ 1 = 1) ∧ (-2147483648 ≤ ((inS 0 20 (ss)).1) ∧ ((inS 0 20 (ss)).1) < 2147483648)) ∧ ((byO ((r29 A0 gg) 26) ∧ (0 ≤ (F0 25 20) ∧ (F0 25 20) ≤ 800) ∧ psOK ((F0 25 20)) ((fiP ((inS 0 20 (ss))) 1 (-14)))) ∧ ((25 = 25 ∧ (c = A0 27 14 ∧ x = nmN (A0 26) (rcS1 A0 (F0 25 20) (psF F0)) ∧ (0 ≤ k ∧ k ≤ 4) ∧ ∃ (sq : PS) (gq : Int → Int), (psS (psS (psS (upF (psS F0 ss) 25 25 x) (inS 0 20 (ss))) (fiP ((inS 0 20 (ss))) 1 (-14))) (goM ((r29 A0 gg) 26) ((F0 25 20)) ((fiP ((inS 0 20 (ss))) 1 (-14))))) = upF (psS F0 (pcS (A0 26) (F0 25 20) k sq)) 25 25 x ∧ (r29 A0 gg) = r29 A0 gq ∧ psOK (F0 25 20) sq ∧ (sq.1 = 0 ∧ (k < 2 ∨ sq.2.2.2.2.1 = 1)) ∧ c < 8 ∧ (inV 0 20 (ss)) = inV 0 20 sq ∧ rcM (A0 26) (F0 25 20) c (Int.toNat (6 - k)) k sq gq = rcR A0 (F0 25 20) (psF F0))) ∧ (Int.toNat (10 - k) * 2) < (Int.toNat (10 - k) * 2 + 1))))) ∧ (¬ w32 k = w32 4 → (((0 = 0 ∨ 0 = 1) ∧ (-2147483648 ≤ ((inS 0 20 (ss)).1) ∧ ((inS 0 20 (ss)).1) < 2147483648)) ∧ ((byO ((r29 A0 gg) 26) ∧ (0 ≤ (F0 25 20) ∧ (F0 25 20) ≤ 800) ∧ psOK ((F0 25 20)) ((fiP ((inS 0 20 (ss))) 0 (-14)))) ∧ ((25 = 25 ∧ (c = A0 27 14 ∧ x = nmN (A0 26) (rcS1 A0 (F0 25 20) (psF F0)) ∧ (0 ≤ k ∧ k ≤ 4) ∧ ∃ (sq : PS) (gq : Int → Int), (psS (psS (psS (upF (psS F0 ss) 25 25 x) (inS 0 20 (ss))) (fiP ((inS 0 20 (ss))) 0 (-14))) (goM ((r29 A0 gg) 26) ((F0 25 20)) ((fiP ((inS 0 20 (ss))) 0 (-14))))) = upF (psS F0 (pcS (A0 26) (F0 25 20) k sq)) 25 25 x ∧ (r29 A0 gg) = r29 A0 gq ∧ psOK (F0 25 20) sq ∧ (sq.1 = 0 ∧ (k < 2 ∨ sq.2.2.2.2.1 = 1)) ∧ c < 8 ∧ (inV 0 20 (ss)) = inV 0 20 sq ∧ rcM (A0 26) (F0 25 20) c (Int.toNat (6 - k)) k sq gq = rcR A0 (F0 25 20) (psF F0))) ∧ (Int.toNat (10 - k) * 2) < (Int.toNat (10 - k) * 2 + 1)))))))) ∧ (¬ w32 k < w32 2 → ((w32 ss.2.2.2.2.1 = w32 1 → ((((0 ≤ (F0 25 20) ∧ (F0 25 20) ≤ 800) ∧ psOK ((F0 25 20)) (ss)) ∧ (-2147483648 ≤ 0 ∧ 0 < 2147483648) ∧ (-2147483648 ≤ 20 ∧ 20 < 2147483648)) ∧ ((w32 k = w32 4 → (((1 = 0 ∨ 1 = 1) ∧ (-2147483648 ≤ ((inS 0 20 (ss)).1) ∧ ((inS 0 20 (ss)).1) < 2147483648)) ∧ ((byO ((r29 A0 gg) 26) ∧ (0 ≤ (F0 25 20) ∧ (F0 25 20) ≤ 800) ∧ psOK ((F0 25 20)) ((fiP ((inS 0 20 (ss))) 1 (-14)))) ∧ ((25 = 25 ∧ (c = A0 27 14 ∧ x = nmN (A0 26) (rcS1 A0 (F0 25 20) (psF F0)) ∧ (0 ≤ k ∧ k ≤ 4) ∧ ∃ (sq : PS) (gq : Int → Int), (psS (psS (psS (upF (psS F0 ss) 25 25 x) (inS 0 20 (ss))) (fiP ((inS 0 20 (ss))) 1 (-14))) (goM ((r29 A0 gg) 26) ((F0 25 20)) ((fiP ((inS 0 20 (ss))) 1 (-14))))) = upF (psS F0 (pcS (A0 26) (F0 25 20) k sq)) 25 25 x ∧ (r29 A0 gg) = r29 A0 gq ∧ psOK (F0 25 20) sq ∧ (sq.1 = 0 ∧ (k < 2 ∨ sq.2.2.2.2.1 = 1)) ∧ c < 8 ∧ (inV 0 20 (ss)) = inV 0 20 sq ∧ rcM (A0 26) (F0 25 20) c (Int.toNat (6 - k)) k sq gq = rcR A0 (F0 25 20) (psF F0))) ∧ (Int.toNat (10 - k) * 2) < (Int.toNat (10 - k) * 2 + 1))))) ∧ (¬ w32 k = w32 4 → (((0 = 0 ∨ 0 = 1) ∧ (-2147483648 ≤ ((inS 0 20 (ss)).1) ∧ ((inS 0 20 (ss)).1) < 2147483648)) ∧ ((byO ((r29 A0 gg) 26) ∧ (0 ≤ (F0 25 20) ∧ (F0 25 20) ≤ 800) ∧ psOK ((F0 25 20)) ((fiP ((inS 0 20 (ss))) 0 (-14)))) ∧ ((25 = 25 ∧ (c = A0 27 14 ∧ x = nmN (A0 26) (rcS1 A0 (F0 25 20) (psF F0)) ∧ (0 ≤ k ∧ k ≤ 4) ∧ ∃ (sq : PS) (gq : Int → Int), (psS (psS (psS (upF (psS F0 ss) 25 25 x) (inS 0 20 (ss))) (fiP ((inS 0 20 (ss))) 0 (-14))) (goM ((r29 A0 gg) 26) ((F0 25 20)) ((fiP ((inS 0 20 (ss))) 0 (-14))))) = upF (psS F0 (pcS (A0 26) (F0 25 20) k sq)) 25 25 x ∧ (r29 A0 gg) = r29 A0 gq ∧ psOK (F0 25 20) sq ∧ (sq.1 = 0 ∧ (k < 2 ∨ sq.2.2.2.2.1 = 1)) ∧ c < 8 ∧ (inV 0 20 (ss)) = inV 0 20 sq ∧ rcM (A0 26) (F0 25 20) c (Int.toNat (6 - k)) k sq gq = rcR A0 (F0 25 20) (psF F0))) ∧ (Int.toNat (10 - k) * 2) < (Int.toNat (10 - k) * 2 + 1)))))))) ∧ (¬ w32 ss.2.2.2.2.1 = w32 1 → ((w32 ss.1 = w32 0 → ((0 ≤ w32 (13 * c) ∧ w32 (13 * c) < 124) ∧ ((0 ≤ w32 (0 + c) ∧ w32 (0 + c) < 16) ∧ ((0 ≤ w32 14 ∧ w32 14 < 16) ∧ ((0 ≤ w32 14 ∧ w32 14 < 16) ∧ (K (some none) (upF (psS F0 ss) 25 25 x) (upA (upA (upA (r29 A0 gg) 29 (w32 (13 * c)) k) 27 (w32 (0 + c)) x) 27 (w32 14) (((upA (upA (r29 A0 gg) 29 (w32 (13 * c)) k) 27 (w32 (0 + c)) x) 27 (w32 14)) + 1)))))))) ∧ (¬ w32 ss.1 = w32 0 → (K (some none) (upF (psS F0 ss) 25 25 x) (r29 A0 gg))))))))) ∧ (¬ w32 ss.1 = w32 0 → ((w32 ss.1 = w32 0 → ((0 ≤ w32 (13 * c) ∧ w32 (13 * c) < 124) ∧ ((0 ≤ w32 (0 + c) ∧ w32 (0 + c) < 16) ∧ ((0 ≤ w32 14 ∧ w32 14 < 16) ∧ ((0 ≤ w32 14 ∧ w32 14 < 16) ∧ (K (some none) (upF (psS F0 ss) 25 25 x) (upA (upA (upA (r29 A0 gg) 29 (w32 (13 * c)) k) 27 (w32 (0 + c)) x) 27 (w32 14) (((upA (upA (r29 A0 gg) 29 (w32 (13 * c)) k) 27 (w32 (0 + c)) x) 27 (w32 14)) + 1)))))))) ∧ (¬ w32 ss.1 = w32 0 → (K (some none) (upF (psS F0 ss) 25 25 x) (r29 A0 gg)))))
  refine ⟨fun c1 => ?_, fun c1 => ?_⟩
  · skip
    (try simp only [r29_26, r29_27] at c1); (try simp only [fiP_22, inS_22, nmS_22, psF_e, psF_q, psF_p, psF_o, psF_t, psF_v] at c1); (try simp (disch := omega) only [w32_0, wbi0, Classical.not_not, w32_id] at c1)
    refine ⟨fun c2 => ?_, fun c2 => ?_⟩
    · skip
      (try simp only [r29_26, r29_27] at c2); (try simp only [fiP_22, inS_22, nmS_22, psF_e, psF_q, psF_p, psF_o, psF_t, psF_v] at c2); (try simp (disch := omega) only [w32_0, wbi0, Classical.not_not, w32_id] at c2)
      refine ⟨by exact ⟨⟨pn, h5⟩, by omega, by omega⟩, ?_⟩
      refine ⟨fun c3 => ?_, fun c3 => ?_⟩
      · skip
        (try simp only [r29_26, r29_27] at c3); (try simp only [fiP_22, inS_22, nmS_22, psF_e, psF_q, psF_p, psF_o, psF_t, psF_v] at c3); (try simp (disch := omega) only [w32_0, wbi0, Classical.not_not, w32_id] at c3)
        refine ⟨by exact ⟨Or.inr rfl, by omega, by omega⟩, ?_⟩
        refine ⟨by exact ⟨pt, pn, fiP_ok j1 pn.2 (by decide)⟩, ?_⟩
        refine ⟨⟨rfl, ?_⟩, by omega⟩
        have eC : pcS (A0 26) (F0 25 20) k ss = goM (A0 26) (F0 25 20) (fiP (inS 0 20 ss) (if k = 4 then 1 else 0) (-14)) := rfl
        first
        | rw [if_pos (show k = 4 by omega)] at eC
        | rw [if_neg (show ¬ k = 4 by omega)] at eC
        have e0 : ss.1 = 0 := by assumption
        refine ⟨h1, h2, h3, ss, gg, ?_, rfl, h5, ⟨e0, by omega⟩, h6 e0, rfl, h7⟩
        rw [eC]
        simp only [r29_26]
        rw [psS_up (by decide), psS_up (by decide), psS_up (by decide)]
        simp only [psS_S]
      · skip
        (try simp only [r29_26, r29_27] at c3); (try simp only [fiP_22, inS_22, nmS_22, psF_e, psF_q, psF_p, psF_o, psF_t, psF_v] at c3); (try simp (disch := omega) only [w32_0, wbi0, Classical.not_not, w32_id] at c3)
        refine ⟨by exact ⟨Or.inl rfl, by omega, by omega⟩, ?_⟩
        refine ⟨by exact ⟨pt, pn, fiP_ok j1 pn.2 (by decide)⟩, ?_⟩
        refine ⟨⟨rfl, ?_⟩, by omega⟩
        have eC : pcS (A0 26) (F0 25 20) k ss = goM (A0 26) (F0 25 20) (fiP (inS 0 20 ss) (if k = 4 then 1 else 0) (-14)) := rfl
        first
        | rw [if_pos (show k = 4 by omega)] at eC
        | rw [if_neg (show ¬ k = 4 by omega)] at eC
        have e0 : ss.1 = 0 := by assumption
        refine ⟨h1, h2, h3, ss, gg, ?_, rfl, h5, ⟨e0, by omega⟩, h6 e0, rfl, h7⟩
        rw [eC]
        simp only [r29_26]
        rw [psS_up (by decide), psS_up (by decide), psS_up (by decide)]
        simp only [psS_S]
    · skip
      (try simp only [r29_26, r29_27] at c2); (try simp only [fiP_22, inS_22, nmS_22, psF_e, psF_q, psF_p, psF_o, psF_t, psF_v] at c2); (try simp (disch := omega) only [w32_0, wbi0, Classical.not_not, w32_id] at c2)
      refine ⟨fun c3 => ?_, fun c3 => ?_⟩
      · skip
        (try simp only [r29_26, r29_27] at c3); (try simp only [fiP_22, inS_22, nmS_22, psF_e, psF_q, psF_p, psF_o, psF_t, psF_v] at c3); (try simp (disch := omega) only [w32_0, wbi0, Classical.not_not, w32_id] at c3)
        refine ⟨by exact ⟨⟨pn, h5⟩, by omega, by omega⟩, ?_⟩
        refine ⟨fun c4 => ?_, fun c4 => ?_⟩
        · skip
          (try simp only [r29_26, r29_27] at c4); (try simp only [fiP_22, inS_22, nmS_22, psF_e, psF_q, psF_p, psF_o, psF_t, psF_v] at c4); (try simp (disch := omega) only [w32_0, wbi0, Classical.not_not, w32_id] at c4)
          refine ⟨by exact ⟨Or.inr rfl, by omega, by omega⟩, ?_⟩
          refine ⟨by exact ⟨pt, pn, fiP_ok j1 pn.2 (by decide)⟩, ?_⟩
          refine ⟨⟨rfl, ?_⟩, by omega⟩
          have eC : pcS (A0 26) (F0 25 20) k ss = goM (A0 26) (F0 25 20) (fiP (inS 0 20 ss) (if k = 4 then 1 else 0) (-14)) := rfl
          first
          | rw [if_pos (show k = 4 by omega)] at eC
          | rw [if_neg (show ¬ k = 4 by omega)] at eC
          have e0 : ss.1 = 0 := by assumption
          refine ⟨h1, h2, h3, ss, gg, ?_, rfl, h5, ⟨e0, by omega⟩, h6 e0, rfl, h7⟩
          rw [eC]
          simp only [r29_26]
          rw [psS_up (by decide), psS_up (by decide), psS_up (by decide)]
          simp only [psS_S]
        · skip
          (try simp only [r29_26, r29_27] at c4); (try simp only [fiP_22, inS_22, nmS_22, psF_e, psF_q, psF_p, psF_o, psF_t, psF_v] at c4); (try simp (disch := omega) only [w32_0, wbi0, Classical.not_not, w32_id] at c4)
          refine ⟨by exact ⟨Or.inl rfl, by omega, by omega⟩, ?_⟩
          refine ⟨by exact ⟨pt, pn, fiP_ok j1 pn.2 (by decide)⟩, ?_⟩
          refine ⟨⟨rfl, ?_⟩, by omega⟩
          have eC : pcS (A0 26) (F0 25 20) k ss = goM (A0 26) (F0 25 20) (fiP (inS 0 20 ss) (if k = 4 then 1 else 0) (-14)) := rfl
          first
          | rw [if_pos (show k = 4 by omega)] at eC
          | rw [if_neg (show ¬ k = 4 by omega)] at eC
          have e0 : ss.1 = 0 := by assumption
          refine ⟨h1, h2, h3, ss, gg, ?_, rfl, h5, ⟨e0, by omega⟩, h6 e0, rfl, h7⟩
          rw [eC]
          simp only [r29_26]
          rw [psS_up (by decide), psS_up (by decide), psS_up (by decide)]
          simp only [psS_S]
      · skip
        (try simp only [r29_26, r29_27] at c3); (try simp only [fiP_22, inS_22, nmS_22, psF_e, psF_q, psF_p, psF_o, psF_t, psF_v] at c3); (try simp (disch := omega) only [w32_0, wbi0, Classical.not_not, w32_id] at c3)
        refine ⟨fun c4 => ?_, fun c4 => ?_⟩
        · skip
          (try simp only [r29_26, r29_27] at c4); (try simp only [fiP_22, inS_22, nmS_22, psF_e, psF_q, psF_p, psF_o, psF_t, psF_v] at c4); (try simp (disch := omega) only [w32_0, wbi0, Classical.not_not, w32_id] at c4)
          refine ⟨by (first | decide | (have c8 := h6 (by assumption); have cc := pc.1; simp (disch := omega) only [w32_id]; omega)), ?_⟩
          refine ⟨by (first | decide | (have c8 := h6 (by assumption); have cc := pc.1; simp (disch := omega) only [w32_id]; omega)), ?_⟩
          refine ⟨by (first | decide | (have c8 := h6 (by assumption); have cc := pc.1; simp (disch := omega) only [w32_id]; omega)), ?_⟩
          refine ⟨by (first | decide | (have c8 := h6 (by assumption); have cc := pc.1; simp (disch := omega) only [w32_id]; omega)), ?_⟩
          rw [h7] at rs
          first
          | (have no : ¬ (ss.1 = 0 ∧ (k < 2 ∨ ss.2.2.2.2.1 = 1)) := (fun y => absurd y.1 (by assumption))
             rw [if_neg no] at rs
             have eA : rcA A0 (F0 25 20) (psF F0) = r29 A0 gg := by unfold rcA; rw [rs, if_neg (by assumption)]
             rw [rs, eA, ← h2] at h
             exact h)
          | (have no : ¬ (ss.1 = 0 ∧ (k < 2 ∨ ss.2.2.2.2.1 = 1)) := (fun y => by rcases y.2 with y2 | y2 <;> omega)
             rw [if_neg no] at rs
             have e0 : ss.1 = 0 := by assumption
             have c8 := h6 e0
             have cc := pc.1
             have eA : rcA A0 (F0 25 20) (psF F0) = upA (upA (r29 A0 (up1 gg (13 * A0 27 14) k)) 27 (A0 27 14) x) 27 14 (A0 27 14 + 1) := by unfold rcA; rw [rs, if_pos e0, ← h2]
             rw [rs, eA, ← h2] at h
             refine FA_eq h rfl rfl ?_
             rw [upA_29, w32_id (x := 13 * c) (by omega) (by omega), w32_id (x := 0 + c) (by omega) (by omega), show w32 14 = 14 from rfl, h1, Int.zero_add]
             congr 1
             rw [upA_o (by omega), r29_27])
        · skip
          (try simp only [r29_26, r29_27] at c4); (try simp only [fiP_22, inS_22, nmS_22, psF_e, psF_q, psF_p, psF_o, psF_t, psF_v] at c4); (try simp (disch := omega) only [w32_0, wbi0, Classical.not_not, w32_id] at c4)
          rw [h7] at rs
          first
          | (have no : ¬ (ss.1 = 0 ∧ (k < 2 ∨ ss.2.2.2.2.1 = 1)) := (fun y => absurd y.1 (by assumption))
             rw [if_neg no] at rs
             have eA : rcA A0 (F0 25 20) (psF F0) = r29 A0 gg := by unfold rcA; rw [rs, if_neg (by assumption)]
             rw [rs, eA, ← h2] at h
             exact h)
          | (have no : ¬ (ss.1 = 0 ∧ (k < 2 ∨ ss.2.2.2.2.1 = 1)) := (fun y => by rcases y.2 with y2 | y2 <;> omega)
             rw [if_neg no] at rs
             have e0 : ss.1 = 0 := by assumption
             have c8 := h6 e0
             have cc := pc.1
             have eA : rcA A0 (F0 25 20) (psF F0) = upA (upA (r29 A0 (up1 gg (13 * A0 27 14) k)) 27 (A0 27 14) x) 27 14 (A0 27 14 + 1) := by unfold rcA; rw [rs, if_pos e0, ← h2]
             rw [rs, eA, ← h2] at h
             refine FA_eq h rfl rfl ?_
             rw [upA_29, w32_id (x := 13 * c) (by omega) (by omega), w32_id (x := 0 + c) (by omega) (by omega), show w32 14 = 14 from rfl, h1, Int.zero_add]
             congr 1
             rw [upA_o (by omega), r29_27])
  · skip
    (try simp only [r29_26, r29_27] at c1); (try simp only [fiP_22, inS_22, nmS_22, psF_e, psF_q, psF_p, psF_o, psF_t, psF_v] at c1); (try simp (disch := omega) only [w32_0, wbi0, Classical.not_not, w32_id] at c1)
    refine ⟨fun c2 => ?_, fun c2 => ?_⟩
    · skip
      (try simp only [r29_26, r29_27] at c2); (try simp only [fiP_22, inS_22, nmS_22, psF_e, psF_q, psF_p, psF_o, psF_t, psF_v] at c2); (try simp (disch := omega) only [w32_0, wbi0, Classical.not_not, w32_id] at c2)
      refine ⟨by (first | decide | (have c8 := h6 (by assumption); have cc := pc.1; simp (disch := omega) only [w32_id]; omega)), ?_⟩
      refine ⟨by (first | decide | (have c8 := h6 (by assumption); have cc := pc.1; simp (disch := omega) only [w32_id]; omega)), ?_⟩
      refine ⟨by (first | decide | (have c8 := h6 (by assumption); have cc := pc.1; simp (disch := omega) only [w32_id]; omega)), ?_⟩
      refine ⟨by (first | decide | (have c8 := h6 (by assumption); have cc := pc.1; simp (disch := omega) only [w32_id]; omega)), ?_⟩
      rw [h7] at rs
      first
      | (have no : ¬ (ss.1 = 0 ∧ (k < 2 ∨ ss.2.2.2.2.1 = 1)) := (fun y => absurd y.1 (by assumption))
         rw [if_neg no] at rs
         have eA : rcA A0 (F0 25 20) (psF F0) = r29 A0 gg := by unfold rcA; rw [rs, if_neg (by assumption)]
         rw [rs, eA, ← h2] at h
         exact h)
      | (have no : ¬ (ss.1 = 0 ∧ (k < 2 ∨ ss.2.2.2.2.1 = 1)) := (fun y => by rcases y.2 with y2 | y2 <;> omega)
         rw [if_neg no] at rs
         have e0 : ss.1 = 0 := by assumption
         have c8 := h6 e0
         have cc := pc.1
         have eA : rcA A0 (F0 25 20) (psF F0) = upA (upA (r29 A0 (up1 gg (13 * A0 27 14) k)) 27 (A0 27 14) x) 27 14 (A0 27 14 + 1) := by unfold rcA; rw [rs, if_pos e0, ← h2]
         rw [rs, eA, ← h2] at h
         refine FA_eq h rfl rfl ?_
         rw [upA_29, w32_id (x := 13 * c) (by omega) (by omega), w32_id (x := 0 + c) (by omega) (by omega), show w32 14 = 14 from rfl, h1, Int.zero_add]
         congr 1
         rw [upA_o (by omega), r29_27])
    · skip
      (try simp only [r29_26, r29_27] at c2); (try simp only [fiP_22, inS_22, nmS_22, psF_e, psF_q, psF_p, psF_o, psF_t, psF_v] at c2); (try simp (disch := omega) only [w32_0, wbi0, Classical.not_not, w32_id] at c2)
      rw [h7] at rs
      first
      | (have no : ¬ (ss.1 = 0 ∧ (k < 2 ∨ ss.2.2.2.2.1 = 1)) := (fun y => absurd y.1 (by assumption))
         rw [if_neg no] at rs
         have eA : rcA A0 (F0 25 20) (psF F0) = r29 A0 gg := by unfold rcA; rw [rs, if_neg (by assumption)]
         rw [rs, eA, ← h2] at h
         exact h)
      | (have no : ¬ (ss.1 = 0 ∧ (k < 2 ∨ ss.2.2.2.2.1 = 1)) := (fun y => by rcases y.2 with y2 | y2 <;> omega)
         rw [if_neg no] at rs
         have e0 : ss.1 = 0 := by assumption
         have c8 := h6 e0
         have cc := pc.1
         have eA : rcA A0 (F0 25 20) (psF F0) = upA (upA (r29 A0 (up1 gg (13 * A0 27 14) k)) 27 (A0 27 14) x) 27 14 (A0 27 14 + 1) := by unfold rcA; rw [rs, if_pos e0, ← h2]
         rw [rs, eA, ← h2] at h
         refine FA_eq h rfl rfl ?_
         rw [upA_29, w32_id (x := 13 * c) (by omega) (by omega), w32_id (x := 0 + c) (by omega) (by omega), show w32 14 = 14 from rfl, h1, Int.zero_add]
         congr 1
         rw [upA_o (by omega), r29_27])
set_option maxRecDepth 20000 in
theorem qvX9_readCurve_25_89  (F0 : FF) (A0 : AA) (K : KK) (h : ((byO (A0 26) ∧ (0 ≤ (F0 25 20) ∧ (F0 25 20) ≤ 800) ∧ psOK ((F0 25 20)) (psF F0)) ∧ ((0 ≤ A0 27 14 ∧ A0 27 14 ≤ 8) ∧ (0 ≤ A0 27 15 ∧ A0 27 15 ≤ 6))) ∧ (K (some none) (upF (psS F0 ((rcR A0 ((F0 25 20)) (psF F0)).1)) 25 25 (nmN (A0 26) (rcS1 A0 ((F0 25 20)) (psF F0)))) (rcA A0 ((F0 25 20)) (psF F0)))) (c : Int) (x : Int) (k : Int) (y : Int) (F : FF) (A : AA) (hi : c = A0 27 14 ∧ x = nmN (A0 26) (rcS1 A0 (F0 25 20) (psF F0)) ∧ (0 ≤ k ∧ k ≤ 4) ∧ ∃ (sq : PS) (gq : Int → Int), F = upF (psS F0 (pcS (A0 26) (F0 25 20) k sq)) 25 25 x ∧ A = r29 A0 gq ∧ psOK (F0 25 20) sq ∧ (sq.1 = 0 ∧ (k < 2 ∨ sq.2.2.2.2.1 = 1)) ∧ c < 8 ∧ y = inV 0 20 sq ∧ rcM (A0 26) (F0 25 20) c (Int.toNat (6 - k)) k sq gq = rcR A0 (F0 25 20) (psF F0)) : am_stp qxX9_readCurve (am_run qxX9_readCurve qnX9_readCurve_25 (fun pc ls st F9 A9 u => qiX9_readCurve_25  F0 A0 pc ls st F9 A9 u ∧ quX9_readCurve_25 pc ls st F9 A9 < quX9_readCurve_25 89 [some (vR 25), some (vI c), some (vI x), some (vI k), some (vI y), none, none] [] F A) K 38) K 89 [some (vR 25), some (vI c), some (vI x), some (vI k), some (vI y), none, none] [] F A 0 := by
  obtain ⟨hp, h⟩ := h
  obtain ⟨⟨pt, pn, pk⟩, pc⟩ := hp
  have ke : -14 ≤ F0 25 26 ∧ F0 25 26 ≤ 0 := pk.1
  have k1 : psOK (F0 25 20) (rcS1 A0 (F0 25 20) (psF F0)) := goM_ok (fiP_ok pk pn.2 (by decide)) pn.1 pn.2
  have k2 := nmG_ok (A := A0) k1 pn.1 pn.2
  obtain ⟨h1, h2, h3, ss, gg, rfl, rfl, h5, h0, h6, h8, h7⟩ := hi
  have rs := rcM_s (T := A0 26) (n := F0 25 20) (c := c) (k := k) (s := ss) (g := gg) (by omega)
  rw [h7, if_pos h0] at rs
  have cc := pc.1
  have j2 := pcS_ok (T := A0 26) (k := k) h5 pn.1 pn.2
  have j3 : psOK (F0 25 20) (goM (A0 26) (F0 25 20) (inS 0 20 (pcS (A0 26) (F0 25 20) k ss))) := pdS_ok (T := A0 26) (k := k) h5 pn.1 pn.2
  have j4 : psOK (F0 25 20) (goM (A0 26) (F0 25 20) (inS 1 3 (goM (A0 26) (F0 25 20) (inS 0 20 (pcS (A0 26) (F0 25 20) k ss))))) := peS_ok (T := A0 26) (k := k) h5 pn.1 pn.2
  have j4e := j4.1
  have eE : goM (A0 26) (F0 25 20) (inS 1 3 (goM (A0 26) (F0 25 20) (inS 0 20 (pcS (A0 26) (F0 25 20) k ss)))) = peS (A0 26) (F0 25 20) k ss := rfl
  rw [eE] at j4 j4e
  show ((byO ((r29 A0 gg) 26) ∧ (0 ≤ (F0 25 20) ∧ (F0 25 20) ≤ 800) ∧ psOK ((F0 25 20)) ((pcS (A0 26) (F0 25 20) k ss))) ∧ (-2147483648 ≤ 0 ∧ 0 < 2147483648) ∧ (-2147483648 ≤ 20 ∧ 20 < 2147483648)) ∧ (((byO ((r29 A0 gg) 26) ∧ (0 ≤ (F0 25 20) ∧ (F0 25 20) ≤ 800) ∧ psOK ((F0 25 20)) ((goM ((r29 A0 gg) 26) ((F0 25 20)) (inS 0 20 ((pcS (A0 26) (F0 25 20) k ss)))))) ∧ (-2147483648 ≤ 1 ∧ 1 < 2147483648) ∧ (-2147483648 ≤ 3 ∧ 3 < 2147483648)) ∧ ((w32 ((goM ((r29 A0 gg) 26) ((F0 25 20)) (inS 1 3 ((goM ((r29 A0 gg) 26) ((F0 25 20)) (inS 0 20 ((pcS (A0 26) (F0 25 20) k ss))))))).1) = w32 0 → (((0 ≤ c ∧ c < 8) ∧ (0 ≤ k ∧ k < 4) ∧ 0 ≤ 0 ∧ 0 ≤ 2) ∧ (((0 ≤ c ∧ c < 8) ∧ (0 ≤ k ∧ k < 4) ∧ 0 ≤ 1 ∧ 1 ≤ 2) ∧ (((0 ≤ c ∧ c < 8) ∧ (0 ≤ k ∧ k < 4) ∧ 0 ≤ 2 ∧ 2 ≤ 2) ∧ ((25 = 25 ∧ (c = A0 27 14 ∧ x = nmN (A0 26) (rcS1 A0 (F0 25 20) (psF F0)) ∧ (0 ≤ (k + 1) ∧ (k + 1) ≤ 4) ∧ ∃ (sq : PS) (gq : Int → Int), (psS (psS (upF (psS F0 (pcS (A0 26) (F0 25 20) k ss)) 25 25 x) (goM ((r29 A0 gg) 26) ((F0 25 20)) (inS 0 20 ((pcS (A0 26) (F0 25 20) k ss))))) (goM ((r29 A0 gg) 26) ((F0 25 20)) (inS 1 3 ((goM ((r29 A0 gg) 26) ((F0 25 20)) (inS 0 20 ((pcS (A0 26) (F0 25 20) k ss)))))))) = upF (psS F0 sq) 25 25 x ∧ (upA (upA (upA (r29 A0 gg) 29 (13 * c + 1 + 3 * k + 0) y) 29 (13 * c + 1 + 3 * k + 1) (inV 0 20 ((pcS (A0 26) (F0 25 20) k ss)))) 29 (13 * c + 1 + 3 * k + 2) (inV 1 3 ((goM ((r29 A0 gg) 26) ((F0 25 20)) (inS 0 20 ((pcS (A0 26) (F0 25 20) k ss))))))) = r29 A0 gq ∧ psOK (F0 25 20) sq ∧ (sq.1 = 0 → c < 8) ∧ rcM (A0 26) (F0 25 20) c (Int.toNat (6 - (k + 1))) (k + 1) sq gq = rcR A0 (F0 25 20) (psF F0))) ∧ (Int.toNat (10 - (k + 1)) * 2 + 1) < (Int.toNat (10 - k) * 2)))))) ∧ (¬ w32 ((goM ((r29 A0 gg) 26) ((F0 25 20)) (inS 1 3 ((goM ((r29 A0 gg) 26) ((F0 25 20)) (inS 0 20 ((pcS (A0 26) (F0 25 20) k ss))))))).1) = w32 0 → (K (some none) (psS (psS (upF (psS F0 (pcS (A0 26) (F0 25 20) k ss)) 25 25 x) (goM ((r29 A0 gg) 26) ((F0 25 20)) (inS 0 20 ((pcS (A0 26) (F0 25 20) k ss))))) (goM ((r29 A0 gg) 26) ((F0 25 20)) (inS 1 3 ((goM ((r29 A0 gg) 26) ((F0 25 20)) (inS 0 20 ((pcS (A0 26) (F0 25 20) k ss)))))))) (r29 A0 gg)))))
  refine ⟨by exact ⟨⟨pt, pn, j2⟩, by omega, by omega⟩, ?_⟩
  refine ⟨by exact ⟨⟨pt, pn, j3⟩, by omega, by omega⟩, ?_⟩
  refine ⟨fun c1 => ?_, fun c1 => ?_⟩
  · skip
    (try simp only [r29_26, r29_27] at c1); (try rw [eE] at c1); (try simp only [fiP_22, inS_22, nmS_22, psF_e, psF_q, psF_p, psF_o, psF_t, psF_v] at c1); (try simp (disch := omega) only [w32_0, wbi0, Classical.not_not, w32_id] at c1)
    skip
    refine ⟨by (have k4 : k < 4 := k4_of c1 h3; exact ⟨by omega, by omega, by omega⟩), ?_⟩
    refine ⟨by (have k4 : k < 4 := k4_of c1 h3; exact ⟨by omega, by omega, by omega⟩), ?_⟩
    refine ⟨by (have k4 : k < 4 := k4_of c1 h3; exact ⟨by omega, by omega, by omega⟩), ?_⟩
    refine ⟨⟨rfl, ?_⟩, by omega⟩
    first
    | (have e0 : (peS (A0 26) (F0 25 20) k ss).1 = 0 := by assumption
       rw [if_pos e0] at rs
       have k4 : k < 4 := k4_of e0 h3
       refine ⟨h1, h2, by omega, peS (A0 26) (F0 25 20) k ss, ptG (A0 26) (F0 25 20) c k ss gg, ?_, ?_, j4, fun _ => h6, rs.symm⟩
       · simp only [r29_26]
         rw [eE, psS_up (by decide), psS_up (by decide)]
         simp only [psS_S]
       · rw [upA_29, upA_29, upA_29, h8]; rfl)
  · skip
    (try simp only [r29_26, r29_27] at c1); (try rw [eE] at c1); (try simp only [fiP_22, inS_22, nmS_22, psF_e, psF_q, psF_p, psF_o, psF_t, psF_v] at c1); (try simp (disch := omega) only [w32_0, wbi0, Classical.not_not, w32_id] at c1)
    have e0 : ¬ (peS (A0 26) (F0 25 20) k ss).1 = 0 := by assumption
    rw [if_neg e0] at rs
    have eA : rcA A0 (F0 25 20) (psF F0) = r29 A0 gg := by unfold rcA; rw [rs, if_neg e0]
    rw [rs, eA, ← h2] at h
    simp only [r29_26]
    rw [eE, psS_up (by decide), psS_up (by decide)]
    simp only [psS_S]
    exact h
set_option maxRecDepth 20000 in
theorem qvX9_readCurve_25  (F0 : FF) (A0 : AA) (K : KK) (h : ((byO (A0 26) ∧ (0 ≤ (F0 25 20) ∧ (F0 25 20) ≤ 800) ∧ psOK ((F0 25 20)) (psF F0)) ∧ ((0 ≤ A0 27 14 ∧ A0 27 14 ≤ 8) ∧ (0 ≤ A0 27 15 ∧ A0 27 15 ≤ 6))) ∧ (K (some none) (upF (psS F0 ((rcR A0 ((F0 25 20)) (psF F0)).1)) 25 25 (nmN (A0 26) (rcS1 A0 ((F0 25 20)) (psF F0)))) (rcA A0 ((F0 25 20)) (psF F0)))) : am_body qxX9_readCurve qnX9_readCurve_25 38 (qiX9_readCurve_25  F0 A0) quX9_readCurve_25 [vR 25] 7 F0 A0 K := by
  refine ⟨qvX9_readCurve_25_0  F0 A0 K h, fun pc ls st F A u hI => ?_⟩
  unfold qiX9_readCurve_25 at hI
  replace hI := am_cond2 hI
  rcases hI with ⟨hb, hI⟩ | hI
  · have hb := am_bq hb
    subst hb
    split at hI
    · rename_i s0 c x k
      obtain ⟨e0, hI⟩ := hI
      subst e0
      exact qvX9_readCurve_25_40  _ _ K h _ _ _ _ _ hI
    · exact hI.elim
  replace hI := am_cond2 hI
  rcases hI with ⟨hb, hI⟩ | hI
  · have hb := am_bq hb
    subst hb
    split at hI
    · rename_i s0 c x k y
      obtain ⟨e0, hI⟩ := hI
      subst e0
      exact qvX9_readCurve_25_89  _ _ K h _ _ _ _ _ _ hI
    · exact hI.elim
  exact hI.elim
theorem qtX9_readCurve (l : Launch) (hst : l.stackTraces = false) : am_CT l layM qeX9_readCurve := am_met1 hst rfl (by decide +kernel) rfl rfl rfl rfl rfl (fun _ _ h => by cases h) rfl (qzX9_readCurve l hst) (fun as F A K h => by
  replace h : qsX9_readCurve as F A K := h
  unfold qsX9_readCurve at h
  split at h
  · rename_i o
    refine ⟨by first | exact Nat.le_of_ble_eq_true rfl | simp [am_fl, am_cat], ?_⟩
    replace h := am_cond2 h
    rcases h with ⟨hb, h⟩ | h
    · skip
      have hb0 := hb
      have hb0 := am_bq hb0
      subst hb0
      exact am_way_body (qvX9_readCurve_25  F A K h)
    exact h.elim
  · exact h.elim)
