def qkX9_readLine : Nat → Option CI := fun pc => cond (Nat.ble 143 pc) none (cond (Nat.ble 80 pc) (cond (Nat.ble 113 pc) (cond (Nat.ble 128 pc) (cond (Nat.ble 137 pc) (cond (Nat.ble 140 pc) (cond (Nat.beq pc 140) (some (.iadd, 141, [])) (cond (Nat.beq pc 141) (some (.iastore, 142, [])) (cond (Nat.beq pc 142) (some (.return_, 143, [])) (none)))) (cond (Nat.beq pc 137) (some (.dup2, 138, [])) (cond (Nat.beq pc 138) (some (.iaload, 139, [])) (cond (Nat.beq pc 139) (some (.iconst 1, 140, [])) (none))))) (cond (Nat.ble 131 pc) (cond (Nat.beq pc 131) (some (.aload_n 0, 132, [])) (cond (Nat.beq pc 132) (some (.getfield 13, 135, [])) (cond (Nat.beq pc 135) (some (.bipush 15, 137, [])) (none)))) (cond (Nat.beq pc 128) (some (.iadd, 129, [])) (cond (Nat.beq pc 129) (some (.iload_n 2, 130, [])) (cond (Nat.beq pc 130) (some (.iastore, 131, [])) (none)))))) (cond (Nat.ble 118 pc) (cond (Nat.ble 122 pc) (cond (Nat.beq pc 122) (some (.getfield 13, 125, [])) (cond (Nat.beq pc 125) (some (.bipush 8, 127, [])) (cond (Nat.beq pc 127) (some (.iload_n 1, 128, [])) (none)))) (cond (Nat.beq pc 118) (some (.iload 5, 120, [])) (cond (Nat.beq pc 120) (some (.iastore, 121, [])) (cond (Nat.beq pc 121) (some (.aload_n 0, 122, [])) (none))))) (cond (Nat.ble 115 pc) (cond (Nat.beq pc 115) (some (.iadd, 116, [])) (cond (Nat.beq pc 116) (some (.iconst 2, 117, [])) (cond (Nat.beq pc 117) (some (.iadd, 118, [])) (none)))) (cond (Nat.beq pc 113) (some (.iload_n 1, 114, [])) (cond (Nat.beq pc 114) (some (.imul, 115, [])) (none)))))) (cond (Nat.ble 97 pc) (cond (Nat.ble 103 pc) (cond (Nat.ble 107 pc) (cond (Nat.beq pc 107) (some (.getfield 19, 110, [])) (cond (Nat.beq pc 110) (some (.bipush 104, 112, [])) (cond (Nat.beq pc 112) (some (.iconst 3, 113, [])) (none)))) (cond (Nat.beq pc 103) (some (.iload 4, 105, [])) (cond (Nat.beq pc 105) (some (.iastore, 106, [])) (cond (Nat.beq pc 106) (some (.aload_n 0, 107, [])) (none))))) (cond (Nat.ble 100 pc) (cond (Nat.beq pc 100) (some (.iadd, 101, [])) (cond (Nat.beq pc 101) (some (.iconst 1, 102, [])) (cond (Nat.beq pc 102) (some (.iadd, 103, [])) (none)))) (cond (Nat.beq pc 97) (some (.iconst 3, 98, [])) (cond (Nat.beq pc 98) (some (.iload_n 1, 99, [])) (cond (Nat.beq pc 99) (some (.imul, 100, [])) (none)))))) (cond (Nat.ble 88 pc) (cond (Nat.ble 91 pc) (cond (Nat.beq pc 91) (some (.aload_n 0, 92, [])) (cond (Nat.beq pc 92) (some (.getfield 19, 95, [])) (cond (Nat.beq pc 95) (some (.bipush 104, 97, [])) (none)))) (cond (Nat.beq pc 88) (some (.iadd, 89, [])) (cond (Nat.beq pc 89) (some (.iload_n 3, 90, [])) (cond (Nat.beq pc 90) (some (.iastore, 91, [])) (none))))) (cond (Nat.ble 85 pc) (cond (Nat.beq pc 85) (some (.iconst 3, 86, [])) (cond (Nat.beq pc 86) (some (.iload_n 1, 87, [])) (cond (Nat.beq pc 87) (some (.imul, 88, [])) (none)))) (cond (Nat.beq pc 80) (some (.getfield 19, 83, [])) (cond (Nat.beq pc 83) (some (.bipush 104, 85, [])) (none))))))) (cond (Nat.ble 39 pc) (cond (Nat.ble 56 pc) (cond (Nat.ble 69 pc) (cond (Nat.ble 75 pc) (cond (Nat.beq pc 75) (some (.ifCond .eq 4, 78, [79])) (cond (Nat.beq pc 78) (some (.return_, 79, [])) (cond (Nat.beq pc 79) (some (.aload_n 0, 80, [])) (none)))) (cond (Nat.beq pc 69) (some (.istore 5, 71, [])) (cond (Nat.beq pc 71) (some (.aload_n 0, 72, [])) (cond (Nat.beq pc 72) (some (.getfield 232, 75, [])) (none))))) (cond (Nat.ble 62 pc) (cond (Nat.beq pc 62) (some (.sipush 200, 65, [])) (cond (Nat.beq pc 65) (some (.iconst 1, 66, [])) (cond (Nat.beq pc 66) (some (.invokevirtual 266, 69, [])) (none)))) (cond (Nat.beq pc 56) (some (.invokevirtual 266, 59, [])) (cond (Nat.beq pc 59) (some (.istore 4, 61, [])) (cond (Nat.beq pc 61) (some (.aload_n 0, 62, [])) (none)))))) (cond (Nat.ble 46 pc) (cond (Nat.ble 51 pc) (cond (Nat.beq pc 51) (some (.iconst 1, 52, [])) (cond (Nat.beq pc 52) (some (.goto 4, 55, [56])) (cond (Nat.beq pc 55) (some (.iconst 0, 56, [])) (none)))) (cond (Nat.beq pc 46) (some (.iconst 5, 47, [])) (cond (Nat.beq pc 47) (some (.iload_n 3, 48, [])) (cond (Nat.beq pc 48) (some (.ifCond .eq 7, 51, [55])) (none))))) (cond (Nat.ble 41 pc) (cond (Nat.beq pc 41) (some (.invokevirtual 266, 44, [])) (cond (Nat.beq pc 44) (some (.istore_n 3, 45, [])) (cond (Nat.beq pc 45) (some (.aload_n 0, 46, [])) (none)))) (cond (Nat.beq pc 39) (some (.iconst 5, 40, [])) (cond (Nat.beq pc 40) (some (.iconst 1, 41, [])) (none)))))) (cond (Nat.ble 19 pc) (cond (Nat.ble 29 pc) (cond (Nat.ble 34 pc) (cond (Nat.beq pc 34) (some (.getfield 251, 37, [])) (cond (Nat.beq pc 37) (some (.istore_n 2, 38, [])) (cond (Nat.beq pc 38) (some (.aload_n 0, 39, [])) (none)))) (cond (Nat.beq pc 29) (some (.aload_n 0, 30, [])) (cond (Nat.beq pc 30) (some (.invokevirtual 257, 33, [])) (cond (Nat.beq pc 33) (some (.aload_n 0, 34, [])) (none))))) (cond (Nat.ble 22 pc) (cond (Nat.beq pc 22) (some (.invokevirtual 241, 25, [])) (cond (Nat.beq pc 25) (some (.aload_n 0, 26, [])) (cond (Nat.beq pc 26) (some (.invokevirtual 248, 29, [])) (none)))) (cond (Nat.beq pc 19) (some (.iconst 0, 20, [])) (cond (Nat.beq pc 20) (some (.bipush (-14), 22, [])) (none))))) (cond (Nat.ble 8 pc) (cond (Nat.ble 12 pc) (cond (Nat.beq pc 12) (some (.if_icmp .ne 7, 15, [19])) (cond (Nat.beq pc 15) (some (.iconst 1, 16, [])) (cond (Nat.beq pc 16) (some (.goto 4, 19, [20])) (none)))) (cond (Nat.beq pc 8) (some (.aload_n 0, 9, [])) (cond (Nat.beq pc 9) (some (.iload_n 1, 10, [])) (cond (Nat.beq pc 10) (some (.bipush 6, 12, [])) (none))))) (cond (Nat.ble 4 pc) (cond (Nat.beq pc 4) (some (.bipush 15, 6, [])) (cond (Nat.beq pc 6) (some (.iaload, 7, [])) (cond (Nat.beq pc 7) (some (.istore_n 1, 8, [])) (none)))) (cond (Nat.beq pc 0) (some (.aload_n 0, 1, [])) (cond (Nat.beq pc 1) (some (.getfield 13, 4, [])) (none))))))))
theorem qkX9_readLine_ok : ∀ pc i nx ts, qkX9_readLine pc = some (i, nx, ts) → am_cok cX9_readLine pc (i, nx, ts) = true := fun pc i nx ts h => am_tok_ok (n := 143) (by decide +kernel) (fun pc h => by show cond (Nat.ble 143 pc) _ _ = _; rw [Nat.ble_eq_true_of_le h]; rfl) h
def qaX9_readLine : Nat → Option CE := fun k => cond (Nat.beq k 241) (some qeX9_failsIf) (cond (Nat.beq k 248) (some qeX9_goOn) (cond (Nat.beq k 257) (some qeX9_newName) (cond (Nat.beq k 266) (some qeX9_signed) (none))))
theorem qyX9_readLine (l : Launch) (hst : l.stackTraces = false) : ∀ k e1, qaX9_readLine k = some e1 → am_cal l layM RX9 14 k e1 ∧ True := q_cons ⟨am_calV (ci := 9) (qtX9_failsIf l) qbX9_failsIf (by decide) rfl (am_tb_at 1572 (by decide +kernel) rfl), trivial⟩ (q_cons ⟨am_calV (ci := 9) (qtX9_goOn l hst) qbX9_goOn (by decide) rfl (am_tb_at 1576 (by decide +kernel) rfl), trivial⟩ (q_cons ⟨am_calV (ci := 9) (qtX9_newName l hst) qbX9_newName (by decide) rfl (am_tb_at 1580 (by decide +kernel) rfl), trivial⟩ (q_cons ⟨am_calV (ci := 9) (qtX9_signed l hst) qbX9_signed (by decide) rfl (am_tb_at 1604 (by decide +kernel) rfl), trivial⟩ (q_nil))))
def qxX9_readLine : CX := (qkX9_readLine, layM, qfX9, qaX9_readLine, qcX9, qlX9, qmX9, none, true, none, 0, none, fun _ => none)
theorem qzX9_readLine (l : Launch) (hst : l.stackTraces = false) : am_sta l qxX9_readLine RX9 14 cX9_readLine := ⟨qkX9_readLine_ok, layM_ok, qfX9_ok, qcX9_ok, qlX9_ok, am_mthP qmX9_ok (by decide), fun k e1 h => (qyX9_readLine l hst k e1 h).1⟩
def qsX9_readLine : SP := fun as F A K => match as with
  | [.inr (.inr o)] => cond (Nat.beq o 25) (((byO (A 26) ∧ (0 ≤ (F 25 20) ∧ (F 25 20) ≤ 800) ∧ psOK ((F 25 20)) (psF F)) ∧ ((0 ≤ A 27 14 ∧ A 27 14 ≤ 8) ∧ (0 ≤ A 27 15 ∧ A 27 15 ≤ 6))) ∧ (K (some none) (upF (psS F (rlS5 A ((F 25 20)) (psF F))) 25 25 (nmN (A 26) (rlS1 A ((F 25 20)) (psF F)))) (rlA A ((F 25 20)) (psF F)))) (False)
  | _ => False
def qeX9_readLine : CE := (yX9_readLine, cX9_readLine, 6, none, 0, some 9, 1, [], 0, 14, qsX9_readLine)
theorem qbX9_readLine : am_mb qeX9_readLine := ⟨am_tb_at 1603 (by decide +kernel) rfl, am_tb_at 124 (by decide +kernel) rfl, ⟨by decide, by decide, by decide +kernel⟩, by decide, by decide, am_tb_at 1602 (by decide +kernel) rfl, am_tb_at 61 (by decide +kernel) rfl, _, _, rfl⟩
def qnX9_readLine_25 : CUT := fun pc => cond (Nat.beq pc 38) (some [true, true, true, false, false, false]) (none)
def qiX9_readLine_25  (F0 : FF) (A0 : AA) : REC := fun pc ls st F A u => cond (Nat.beq pc 38) (match ls, st, u with
    | [some (.inr (.inr s0)), some (.inl d), some (.inl x), none, none, none], [], 0 => s0 = 25 ∧ A = A0 ∧ (d = A0 27 15 ∧ x = nmN (A0 26) (rlS1 A0 (F0 25 20) (psF F0)) ∧ F = upF (psS F0 (rlS2 A0 (F0 25 20) (psF F0))) 25 25 x)
    | _, _, _ => False) (False)
def quX9_readLine_25 : Nat → LVs → List AV → FF → AA → Nat := fun pc ls _ F A => cond (Nat.beq pc 38) (match ls with
    | [some (.inr (.inr s0)), some (.inl d), some (.inl x), none, none, none] => 0
    | _ => 0) (0)
set_option maxRecDepth 20000 in
theorem qvX9_readLine_25_0  (F0 : FF) (A0 : AA) (K : KK) (h : ((byO (A0 26) ∧ (0 ≤ (F0 25 20) ∧ (F0 25 20) ≤ 800) ∧ psOK ((F0 25 20)) (psF F0)) ∧ ((0 ≤ A0 27 14 ∧ A0 27 14 ≤ 8) ∧ (0 ≤ A0 27 15 ∧ A0 27 15 ≤ 6))) ∧ (K (some none) (upF (psS F0 (rlS5 A0 ((F0 25 20)) (psF F0))) 25 25 (nmN (A0 26) (rlS1 A0 ((F0 25 20)) (psF F0)))) (rlA A0 ((F0 25 20)) (psF F0)))) : am_stp qxX9_readLine (am_run qxX9_readLine qnX9_readLine_25 (qiX9_readLine_25  F0 A0) K 70) K 0 (am_ent [vR 25] 6) [] F0 A0 0 := by
  show am_stp qxX9_readLine (am_run qxX9_readLine qnX9_readLine_25 (qiX9_readLine_25  F0 A0) K 70) K 0 [some (vR 25), none, none, none, none, none] [] F0 A0 0
  obtain ⟨hp, h⟩ := h
  obtain ⟨⟨pt, pn, pk⟩, pc⟩ := hp
  have ke : -14 ≤ F0 25 26 ∧ F0 25 26 ≤ 0 := pk.1
  have k1 : psOK (F0 25 20) (rlS1 A0 (F0 25 20) (psF F0)) := goM_ok (fiP_ok pk pn.2 (by decide)) pn.1 pn.2
  have k2 : psOK (F0 25 20) (rlS2 A0 (F0 25 20) (psF F0)) := nmG_ok (A := A0) k1 pn.1 pn.2
  have k3 : psOK (F0 25 20) (rlS3 A0 (F0 25 20) (psF F0)) := sgS_ok k2 pn.1 pn.2
  have k4 : psOK (F0 25 20) (rlS4 A0 (F0 25 20) (psF F0)) := sgS_ok k3 pn.1 pn.2
  have k5 : psOK (F0 25 20) (rlS5 A0 (F0 25 20) (psF F0)) := sgS_ok k4 pn.1 pn.2
  have k5e := k5.1
  have bx : -2000000 ≤ rlX A0 (F0 25 20) (psF F0) ∧ rlX A0 (F0 25 20) (psF F0) ≤ 2000000 := sgR_b k2 pn.1 pn.2
  show (0 ≤ w32 15 ∧ w32 15 < 16) ∧ ((w32 (A0 27 (w32 15)) = w32 6 → (((1 = 0 ∨ 1 = 1) ∧ (-2147483648 ≤ (F0 25 26) ∧ (F0 25 26) < 2147483648)) ∧ ((byO (A0 26) ∧ (0 ≤ (F0 25 20) ∧ (F0 25 20) ≤ 800) ∧ psOK ((F0 25 20)) ((fiP (psF F0) 1 (-14)))) ∧ (((byO (A0 26) ∧ (0 ≤ (F0 25 20) ∧ (F0 25 20) ≤ 800) ∧ psOK ((F0 25 20)) ((goM (A0 26) ((F0 25 20)) ((fiP (psF F0) 1 (-14)))))) ∧ ((0 ≤ A0 27 14 ∧ A0 27 14 ≤ 8) ∧ (0 ≤ A0 27 15 ∧ A0 27 15 ≤ 6))) ∧ (25 = 25 ∧ A0 = A0 ∧ ((A0 27 (w32 15)) = A0 27 15 ∧ (nmN (A0 26) ((goM (A0 26) ((F0 25 20)) ((fiP (psF F0) 1 (-14)))))) = nmN (A0 26) (rlS1 A0 (F0 25 20) (psF F0)) ∧ (upF (psS (psS (psS F0 (fiP (psF F0) 1 (-14))) (goM (A0 26) ((F0 25 20)) ((fiP (psF F0) 1 (-14))))) (nmG A0 ((F0 25 20)) ((goM (A0 26) ((F0 25 20)) ((fiP (psF F0) 1 (-14))))))) 25 25 (nmN (A0 26) ((goM (A0 26) ((F0 25 20)) ((fiP (psF F0) 1 (-14))))))) = upF (psS F0 (rlS2 A0 (F0 25 20) (psF F0))) 25 25 (nmN (A0 26) ((goM (A0 26) ((F0 25 20)) ((fiP (psF F0) 1 (-14)))))))))))) ∧ (¬ w32 (A0 27 (w32 15)) = w32 6 → (((0 = 0 ∨ 0 = 1) ∧ (-2147483648 ≤ (F0 25 26) ∧ (F0 25 26) < 2147483648)) ∧ ((byO (A0 26) ∧ (0 ≤ (F0 25 20) ∧ (F0 25 20) ≤ 800) ∧ psOK ((F0 25 20)) ((fiP (psF F0) 0 (-14)))) ∧ (((byO (A0 26) ∧ (0 ≤ (F0 25 20) ∧ (F0 25 20) ≤ 800) ∧ psOK ((F0 25 20)) ((goM (A0 26) ((F0 25 20)) ((fiP (psF F0) 0 (-14)))))) ∧ ((0 ≤ A0 27 14 ∧ A0 27 14 ≤ 8) ∧ (0 ≤ A0 27 15 ∧ A0 27 15 ≤ 6))) ∧ (25 = 25 ∧ A0 = A0 ∧ ((A0 27 (w32 15)) = A0 27 15 ∧ (nmN (A0 26) ((goM (A0 26) ((F0 25 20)) ((fiP (psF F0) 0 (-14)))))) = nmN (A0 26) (rlS1 A0 (F0 25 20) (psF F0)) ∧ (upF (psS (psS (psS F0 (fiP (psF F0) 0 (-14))) (goM (A0 26) ((F0 25 20)) ((fiP (psF F0) 0 (-14))))) (nmG A0 ((F0 25 20)) ((goM (A0 26) ((F0 25 20)) ((fiP (psF F0) 0 (-14))))))) 25 25 (nmN (A0 26) ((goM (A0 26) ((F0 25 20)) ((fiP (psF F0) 0 (-14))))))) = upF (psS F0 (rlS2 A0 (F0 25 20) (psF F0))) 25 25 (nmN (A0 26) ((goM (A0 26) ((F0 25 20)) ((fiP (psF F0) 0 (-14)))))))))))))
  refine ⟨by first | decide | exact ⟨Or.inl rfl, by omega, by omega⟩ | exact ⟨Or.inr rfl, by omega, by omega⟩ | exact ⟨pt, pn, fiP_ok pk pn.2 (by decide)⟩ | exact ⟨⟨pt, pn, goM_ok (fiP_ok pk pn.2 (by decide)) pn.1 pn.2⟩, pc⟩, ?_⟩
  refine ⟨fun c1 => ?_, fun c1 => ?_⟩
  · skip
    (try simp only [show w32 15 = 15 from rfl] at c1); (try simp only [fiP_22, inS_22, nmS_22, psF_e, psF_q, psF_p, psF_o, psF_t, psF_v] at c1); (try simp (disch := omega) only [w32_0, wbi0, Classical.not_not, w32_id] at c1)
    refine ⟨by first | decide | exact ⟨Or.inl rfl, by omega, by omega⟩ | exact ⟨Or.inr rfl, by omega, by omega⟩ | exact ⟨pt, pn, fiP_ok pk pn.2 (by decide)⟩ | exact ⟨⟨pt, pn, goM_ok (fiP_ok pk pn.2 (by decide)) pn.1 pn.2⟩, pc⟩, ?_⟩
    refine ⟨by first | decide | exact ⟨Or.inl rfl, by omega, by omega⟩ | exact ⟨Or.inr rfl, by omega, by omega⟩ | exact ⟨pt, pn, fiP_ok pk pn.2 (by decide)⟩ | exact ⟨⟨pt, pn, goM_ok (fiP_ok pk pn.2 (by decide)) pn.1 pn.2⟩, pc⟩, ?_⟩
    refine ⟨by first | decide | exact ⟨Or.inl rfl, by omega, by omega⟩ | exact ⟨Or.inr rfl, by omega, by omega⟩ | exact ⟨pt, pn, fiP_ok pk pn.2 (by decide)⟩ | exact ⟨⟨pt, pn, goM_ok (fiP_ok pk pn.2 (by decide)) pn.1 pn.2⟩, pc⟩, ?_⟩
    refine ⟨rfl, rfl, ?_⟩
    first
    | (have e1 : (if A0 27 15 = 6 then (1 : Int) else 0) = 0 := if_neg (by omega)
       have eS : rlS1 A0 (F0 25 20) (psF F0) = goM (A0 26) (F0 25 20) (fiP (psF F0) 0 (-14)) := by unfold rlS1; rw [e1]
       rw [← eS, show w32 15 = 15 from rfl]
       exact ⟨rfl, rfl, by simp only [psS_S]; rfl⟩)
    | (have e1 : (if A0 27 15 = 6 then (1 : Int) else 0) = 1 := if_pos (by omega)
       have eS : rlS1 A0 (F0 25 20) (psF F0) = goM (A0 26) (F0 25 20) (fiP (psF F0) 1 (-14)) := by unfold rlS1; rw [e1]
       rw [← eS, show w32 15 = 15 from rfl]
       exact ⟨rfl, rfl, by simp only [psS_S]; rfl⟩)
  · skip
    (try simp only [show w32 15 = 15 from rfl] at c1); (try simp only [fiP_22, inS_22, nmS_22, psF_e, psF_q, psF_p, psF_o, psF_t, psF_v] at c1); (try simp (disch := omega) only [w32_0, wbi0, Classical.not_not, w32_id] at c1)
    refine ⟨by first | decide | exact ⟨Or.inl rfl, by omega, by omega⟩ | exact ⟨Or.inr rfl, by omega, by omega⟩ | exact ⟨pt, pn, fiP_ok pk pn.2 (by decide)⟩ | exact ⟨⟨pt, pn, goM_ok (fiP_ok pk pn.2 (by decide)) pn.1 pn.2⟩, pc⟩, ?_⟩
    refine ⟨by first | decide | exact ⟨Or.inl rfl, by omega, by omega⟩ | exact ⟨Or.inr rfl, by omega, by omega⟩ | exact ⟨pt, pn, fiP_ok pk pn.2 (by decide)⟩ | exact ⟨⟨pt, pn, goM_ok (fiP_ok pk pn.2 (by decide)) pn.1 pn.2⟩, pc⟩, ?_⟩
    refine ⟨by first | decide | exact ⟨Or.inl rfl, by omega, by omega⟩ | exact ⟨Or.inr rfl, by omega, by omega⟩ | exact ⟨pt, pn, fiP_ok pk pn.2 (by decide)⟩ | exact ⟨⟨pt, pn, goM_ok (fiP_ok pk pn.2 (by decide)) pn.1 pn.2⟩, pc⟩, ?_⟩
    refine ⟨rfl, rfl, ?_⟩
    first
    | (have e1 : (if A0 27 15 = 6 then (1 : Int) else 0) = 0 := if_neg (by omega)
       have eS : rlS1 A0 (F0 25 20) (psF F0) = goM (A0 26) (F0 25 20) (fiP (psF F0) 0 (-14)) := by unfold rlS1; rw [e1]
       rw [← eS, show w32 15 = 15 from rfl]
       exact ⟨rfl, rfl, by simp only [psS_S]; rfl⟩)
    | (have e1 : (if A0 27 15 = 6 then (1 : Int) else 0) = 1 := if_pos (by omega)
       have eS : rlS1 A0 (F0 25 20) (psF F0) = goM (A0 26) (F0 25 20) (fiP (psF F0) 1 (-14)) := by unfold rlS1; rw [e1]
       rw [← eS, show w32 15 = 15 from rfl]
       exact ⟨rfl, rfl, by simp only [psS_S]; rfl⟩)
set_option maxRecDepth 20000 in
theorem qvX9_readLine_25_38  (F0 : FF) (A0 : AA) (K : KK) (h : ((byO (A0 26) ∧ (0 ≤ (F0 25 20) ∧ (F0 25 20) ≤ 800) ∧ psOK ((F0 25 20)) (psF F0)) ∧ ((0 ≤ A0 27 14 ∧ A0 27 14 ≤ 8) ∧ (0 ≤ A0 27 15 ∧ A0 27 15 ≤ 6))) ∧ (K (some none) (upF (psS F0 (rlS5 A0 ((F0 25 20)) (psF F0))) 25 25 (nmN (A0 26) (rlS1 A0 ((F0 25 20)) (psF F0)))) (rlA A0 ((F0 25 20)) (psF F0)))) (d : Int) (x : Int) (F : FF) (hi : d = A0 27 15 ∧ x = nmN (A0 26) (rlS1 A0 (F0 25 20) (psF F0)) ∧ F = upF (psS F0 (rlS2 A0 (F0 25 20) (psF F0))) 25 25 x) : am_stp qxX9_readLine (am_run qxX9_readLine qnX9_readLine_25 (fun pc ls st F9 A9 u => qiX9_readLine_25  F0 A0 pc ls st F9 A9 u ∧ quX9_readLine_25 pc ls st F9 A9 < quX9_readLine_25 38 [some (vR 25), some (vI d), some (vI x), none, none, none] [] F A0) K 70) K 38 [some (vR 25), some (vI d), some (vI x), none, none, none] [] F A0 0 := by
  obtain ⟨hp, h⟩ := h
  obtain ⟨⟨pt, pn, pk⟩, pc⟩ := hp
  have ke : -14 ≤ F0 25 26 ∧ F0 25 26 ≤ 0 := pk.1
  have k1 : psOK (F0 25 20) (rlS1 A0 (F0 25 20) (psF F0)) := goM_ok (fiP_ok pk pn.2 (by decide)) pn.1 pn.2
  have k2 : psOK (F0 25 20) (rlS2 A0 (F0 25 20) (psF F0)) := nmG_ok (A := A0) k1 pn.1 pn.2
  have k3 : psOK (F0 25 20) (rlS3 A0 (F0 25 20) (psF F0)) := sgS_ok k2 pn.1 pn.2
  have k4 : psOK (F0 25 20) (rlS4 A0 (F0 25 20) (psF F0)) := sgS_ok k3 pn.1 pn.2
  have k5 : psOK (F0 25 20) (rlS5 A0 (F0 25 20) (psF F0)) := sgS_ok k4 pn.1 pn.2
  have k5e := k5.1
  have bx : -2000000 ≤ rlX A0 (F0 25 20) (psF F0) ∧ rlX A0 (F0 25 20) (psF F0) ≤ 2000000 := sgR_b k2 pn.1 pn.2
  obtain ⟨h1, h2, rfl⟩ := hi
  have dl6 : (rlS5 A0 (F0 25 20) (psF F0)).1 = 0 → d < 6 := fun e0 => by
    by_cases z6 : A0 27 15 = 6
    · exact absurd e0 (rl5_n (rl_6 z6))
    · have := pc.2; omega
  have eX : sgR (A0 26) (F0 25 20) 5 (rlS2 A0 (F0 25 20) (psF F0)) = rlX A0 (F0 25 20) (psF F0) := rfl
  have e50 : rlX A0 (F0 25 20) (psF F0) = 0 → sgS (A0 26) (F0 25 20) 200 1 (sgS (A0 26) (F0 25 20) 5 0 (sgS (A0 26) (F0 25 20) 5 1 (rlS2 A0 (F0 25 20) (psF F0)))) = rlS5 A0 (F0 25 20) (psF F0) := fun z => by unfold rlS5 rlS4; rw [if_pos z]; rfl
  have e51 : ¬ rlX A0 (F0 25 20) (psF F0) = 0 → sgS (A0 26) (F0 25 20) 200 1 (sgS (A0 26) (F0 25 20) 5 1 (sgS (A0 26) (F0 25 20) 5 1 (rlS2 A0 (F0 25 20) (psF F0)))) = rlS5 A0 (F0 25 20) (psF F0) := fun z => by unfold rlS5 rlS4; rw [if_neg z]; rfl
  show ((byO (A0 26) ∧ (0 ≤ (F0 25 20) ∧ (F0 25 20) ≤ 800) ∧ psOK ((F0 25 20)) ((rlS2 A0 (F0 25 20) (psF F0)))) ∧ (0 ≤ 5 ∧ 5 ≤ 200) ∧ (1 = 0 ∨ 1 = 1)) ∧ ((w32 (sgR (A0 26) ((F0 25 20)) 5 ((rlS2 A0 (F0 25 20) (psF F0)))) = w32 0 → (((byO (A0 26) ∧ (0 ≤ (F0 25 20) ∧ (F0 25 20) ≤ 800) ∧ psOK ((F0 25 20)) ((sgS (A0 26) ((F0 25 20)) 5 1 ((rlS2 A0 (F0 25 20) (psF F0)))))) ∧ (0 ≤ 5 ∧ 5 ≤ 200) ∧ (0 = 0 ∨ 0 = 1)) ∧ (((byO (A0 26) ∧ (0 ≤ (F0 25 20) ∧ (F0 25 20) ≤ 800) ∧ psOK ((F0 25 20)) ((sgS (A0 26) ((F0 25 20)) 5 0 ((sgS (A0 26) ((F0 25 20)) 5 1 ((rlS2 A0 (F0 25 20) (psF F0)))))))) ∧ (0 ≤ 200 ∧ 200 ≤ 200) ∧ (1 = 0 ∨ 1 = 1)) ∧ ((w32 ((sgS (A0 26) ((F0 25 20)) 200 1 ((sgS (A0 26) ((F0 25 20)) 5 0 ((sgS (A0 26) ((F0 25 20)) 5 1 ((rlS2 A0 (F0 25 20) (psF F0)))))))).1) = w32 0 → ((0 ≤ w32 (104 + (3 * d)) ∧ w32 (104 + (3 * d)) < 124) ∧ ((0 ≤ w32 ((104 + (3 * d)) + 1) ∧ w32 ((104 + (3 * d)) + 1) < 124) ∧ ((0 ≤ w32 ((104 + (3 * d)) + 2) ∧ w32 ((104 + (3 * d)) + 2) < 124) ∧ ((0 ≤ w32 (8 + d) ∧ w32 (8 + d) < 16) ∧ ((0 ≤ w32 15 ∧ w32 15 < 16) ∧ ((0 ≤ w32 15 ∧ w32 15 < 16) ∧ (K (some none) (psS (psS (psS (upF (psS F0 (rlS2 A0 (F0 25 20) (psF F0))) 25 25 x) (sgS (A0 26) ((F0 25 20)) 5 1 ((rlS2 A0 (F0 25 20) (psF F0))))) (sgS (A0 26) ((F0 25 20)) 5 0 ((sgS (A0 26) ((F0 25 20)) 5 1 ((rlS2 A0 (F0 25 20) (psF F0))))))) (sgS (A0 26) ((F0 25 20)) 200 1 ((sgS (A0 26) ((F0 25 20)) 5 0 ((sgS (A0 26) ((F0 25 20)) 5 1 ((rlS2 A0 (F0 25 20) (psF F0))))))))) (upA (upA (upA (upA (upA A0 29 (w32 (104 + (3 * d))) (sgR (A0 26) ((F0 25 20)) 5 ((rlS2 A0 (F0 25 20) (psF F0))))) 29 (w32 ((104 + (3 * d)) + 1)) (sgR (A0 26) ((F0 25 20)) 5 ((sgS (A0 26) ((F0 25 20)) 5 1 ((rlS2 A0 (F0 25 20) (psF F0))))))) 29 (w32 ((104 + (3 * d)) + 2)) (sgR (A0 26) ((F0 25 20)) 200 ((sgS (A0 26) ((F0 25 20)) 5 0 ((sgS (A0 26) ((F0 25 20)) 5 1 ((rlS2 A0 (F0 25 20) (psF F0))))))))) 27 (w32 (8 + d)) x) 27 (w32 15) (((upA (upA (upA (upA A0 29 (w32 (104 + (3 * d))) (sgR (A0 26) ((F0 25 20)) 5 ((rlS2 A0 (F0 25 20) (psF F0))))) 29 (w32 ((104 + (3 * d)) + 1)) (sgR (A0 26) ((F0 25 20)) 5 ((sgS (A0 26) ((F0 25 20)) 5 1 ((rlS2 A0 (F0 25 20) (psF F0))))))) 29 (w32 ((104 + (3 * d)) + 2)) (sgR (A0 26) ((F0 25 20)) 200 ((sgS (A0 26) ((F0 25 20)) 5 0 ((sgS (A0 26) ((F0 25 20)) 5 1 ((rlS2 A0 (F0 25 20) (psF F0))))))))) 27 (w32 (8 + d)) x) 27 (w32 15)) + 1)))))))))) ∧ (¬ w32 ((sgS (A0 26) ((F0 25 20)) 200 1 ((sgS (A0 26) ((F0 25 20)) 5 0 ((sgS (A0 26) ((F0 25 20)) 5 1 ((rlS2 A0 (F0 25 20) (psF F0)))))))).1) = w32 0 → (K (some none) (psS (psS (psS (upF (psS F0 (rlS2 A0 (F0 25 20) (psF F0))) 25 25 x) (sgS (A0 26) ((F0 25 20)) 5 1 ((rlS2 A0 (F0 25 20) (psF F0))))) (sgS (A0 26) ((F0 25 20)) 5 0 ((sgS (A0 26) ((F0 25 20)) 5 1 ((rlS2 A0 (F0 25 20) (psF F0))))))) (sgS (A0 26) ((F0 25 20)) 200 1 ((sgS (A0 26) ((F0 25 20)) 5 0 ((sgS (A0 26) ((F0 25 20)) 5 1 ((rlS2 A0 (F0 25 20) (psF F0))))))))) A0)))))) ∧ (¬ w32 (sgR (A0 26) ((F0 25 20)) 5 ((rlS2 A0 (F0 25 20) (psF F0)))) = w32 0 → (((byO (A0 26) ∧ (0 ≤ (F0 25 20) ∧ (F0 25 20) ≤ 800) ∧ psOK ((F0 25 20)) ((sgS (A0 26) ((F0 25 20)) 5 1 ((rlS2 A0 (F0 25 20) (psF F0)))))) ∧ (0 ≤ 5 ∧ 5 ≤ 200) ∧ (1 = 0 ∨ 1 = 1)) ∧ (((byO (A0 26) ∧ (0 ≤ (F0 25 20) ∧ (F0 25 20) ≤ 800) ∧ psOK ((F0 25 20)) ((sgS (A0 26) ((F0 25 20)) 5 1 ((sgS (A0 26) ((F0 25 20)) 5 1 ((rlS2 A0 (F0 25 20) (psF F0)))))))) ∧ (0 ≤ 200 ∧ 200 ≤ 200) ∧ (1 = 0 ∨ 1 = 1)) ∧ ((w32 ((sgS (A0 26) ((F0 25 20)) 200 1 ((sgS (A0 26) ((F0 25 20)) 5 1 ((sgS (A0 26) ((F0 25 20)) 5 1 ((rlS2 A0 (F0 25 20) (psF F0)))))))).1) = w32 0 → ((0 ≤ w32 (104 + (3 * d)) ∧ w32 (104 + (3 * d)) < 124) ∧ ((0 ≤ w32 ((104 + (3 * d)) + 1) ∧ w32 ((104 + (3 * d)) + 1) < 124) ∧ ((0 ≤ w32 ((104 + (3 * d)) + 2) ∧ w32 ((104 + (3 * d)) + 2) < 124) ∧ ((0 ≤ w32 (8 + d) ∧ w32 (8 + d) < 16) ∧ ((0 ≤ w32 15 ∧ w32 15 < 16) ∧ ((0 ≤ w32 15 ∧ w32 15 < 16) ∧ (K (some none) (psS (psS (psS (upF (psS F0 (rlS2 A0 (F0 25 20) (psF F0))) 25 25 x) (sgS (A0 26) ((F0 25 20)) 5 1 ((rlS2 A0 (F0 25 20) (psF F0))))) (sgS (A0 26) ((F0 25 20)) 5 1 ((sgS (A0 26) ((F0 25 20)) 5 1 ((rlS2 A0 (F0 25 20) (psF F0))))))) (sgS (A0 26) ((F0 25 20)) 200 1 ((sgS (A0 26) ((F0 25 20)) 5 1 ((sgS (A0 26) ((F0 25 20)) 5 1 ((rlS2 A0 (F0 25 20) (psF F0))))))))) (upA (upA (upA (upA (upA A0 29 (w32 (104 + (3 * d))) (sgR (A0 26) ((F0 25 20)) 5 ((rlS2 A0 (F0 25 20) (psF F0))))) 29 (w32 ((104 + (3 * d)) + 1)) (sgR (A0 26) ((F0 25 20)) 5 ((sgS (A0 26) ((F0 25 20)) 5 1 ((rlS2 A0 (F0 25 20) (psF F0))))))) 29 (w32 ((104 + (3 * d)) + 2)) (sgR (A0 26) ((F0 25 20)) 200 ((sgS (A0 26) ((F0 25 20)) 5 1 ((sgS (A0 26) ((F0 25 20)) 5 1 ((rlS2 A0 (F0 25 20) (psF F0))))))))) 27 (w32 (8 + d)) x) 27 (w32 15) (((upA (upA (upA (upA A0 29 (w32 (104 + (3 * d))) (sgR (A0 26) ((F0 25 20)) 5 ((rlS2 A0 (F0 25 20) (psF F0))))) 29 (w32 ((104 + (3 * d)) + 1)) (sgR (A0 26) ((F0 25 20)) 5 ((sgS (A0 26) ((F0 25 20)) 5 1 ((rlS2 A0 (F0 25 20) (psF F0))))))) 29 (w32 ((104 + (3 * d)) + 2)) (sgR (A0 26) ((F0 25 20)) 200 ((sgS (A0 26) ((F0 25 20)) 5 1 ((sgS (A0 26) ((F0 25 20)) 5 1 ((rlS2 A0 (F0 25 20) (psF F0))))))))) 27 (w32 (8 + d)) x) 27 (w32 15)) + 1)))))))))) ∧ (¬ w32 ((sgS (A0 26) ((F0 25 20)) 200 1 ((sgS (A0 26) ((F0 25 20)) 5 1 ((sgS (A0 26) ((F0 25 20)) 5 1 ((rlS2 A0 (F0 25 20) (psF F0)))))))).1) = w32 0 → (K (some none) (psS (psS (psS (upF (psS F0 (rlS2 A0 (F0 25 20) (psF F0))) 25 25 x) (sgS (A0 26) ((F0 25 20)) 5 1 ((rlS2 A0 (F0 25 20) (psF F0))))) (sgS (A0 26) ((F0 25 20)) 5 1 ((sgS (A0 26) ((F0 25 20)) 5 1 ((rlS2 A0 (F0 25 20) (psF F0))))))) (sgS (A0 26) ((F0 25 20)) 200 1 ((sgS (A0 26) ((F0 25 20)) 5 1 ((sgS (A0 26) ((F0 25 20)) 5 1 ((rlS2 A0 (F0 25 20) (psF F0))))))))) A0)))))))
  refine ⟨by exact ⟨⟨pt, pn, k2⟩, by decide, by decide⟩, ?_⟩
  refine ⟨fun c1 => ?_, fun c1 => ?_⟩
  · skip
    (try rw [eX] at c1); (try rw [e50 (by assumption)] at c1); (try rw [e51 (by assumption)] at c1); (try simp only [fiP_22, inS_22, nmS_22, psF_e, psF_q, psF_p, psF_o, psF_t, psF_v] at c1); (try simp (disch := omega) only [w32_0, wbi0, Classical.not_not, w32_id] at c1)
    refine ⟨by exact ⟨⟨pt, pn, sgS_ok k2 pn.1 pn.2⟩, by decide, by decide⟩, ?_⟩
    refine ⟨by exact ⟨⟨pt, pn, sgS_ok (sgS_ok k2 pn.1 pn.2) pn.1 pn.2⟩, by decide, by decide⟩, ?_⟩
    refine ⟨fun c2 => ?_, fun c2 => ?_⟩
    · skip
      (try rw [eX] at c2); (try rw [e50 (by assumption)] at c2); (try rw [e51 (by assumption)] at c2); (try simp only [fiP_22, inS_22, nmS_22, psF_e, psF_q, psF_p, psF_o, psF_t, psF_v] at c2); (try simp (disch := omega) only [w32_0, wbi0, Classical.not_not, w32_id] at c2)
      refine ⟨by (first | decide | (have d6 : d < 6 := dl6 (by assumption); have d0 := pc.2.1; rw [w32_id (by omega) (by omega)]; omega)), ?_⟩
      refine ⟨by (first | decide | (have d6 : d < 6 := dl6 (by assumption); have d0 := pc.2.1; rw [w32_id (by omega) (by omega)]; omega)), ?_⟩
      refine ⟨by (first | decide | (have d6 : d < 6 := dl6 (by assumption); have d0 := pc.2.1; rw [w32_id (by omega) (by omega)]; omega)), ?_⟩
      refine ⟨by (first | decide | (have d6 : d < 6 := dl6 (by assumption); have d0 := pc.2.1; rw [w32_id (by omega) (by omega)]; omega)), ?_⟩
      refine ⟨by (first | decide | (have d6 : d < 6 := dl6 (by assumption); have d0 := pc.2.1; rw [w32_id (by omega) (by omega)]; omega)), ?_⟩
      refine ⟨by (first | decide | (have d6 : d < 6 := dl6 (by assumption); have d0 := pc.2.1; rw [w32_id (by omega) (by omega)]; omega)), ?_⟩
      first
      | (have e4 : (if rlX A0 (F0 25 20) (psF F0) = 0 then (0 : Int) else 1) = 0 := if_pos (by omega)
         have eX : sgR (A0 26) (F0 25 20) 5 (rlS2 A0 (F0 25 20) (psF F0)) = rlX A0 (F0 25 20) (psF F0) := rfl
         have e3 : sgS (A0 26) (F0 25 20) 5 1 (rlS2 A0 (F0 25 20) (psF F0)) = rlS3 A0 (F0 25 20) (psF F0) := rfl
         have eY : sgR (A0 26) (F0 25 20) 5 (rlS3 A0 (F0 25 20) (psF F0)) = rlY A0 (F0 25 20) (psF F0) := rfl
         have e4' : sgS (A0 26) (F0 25 20) 5 0 (rlS3 A0 (F0 25 20) (psF F0)) = rlS4 A0 (F0 25 20) (psF F0) := by unfold rlS4; rw [e4]
         have eZ : sgR (A0 26) (F0 25 20) 200 (rlS4 A0 (F0 25 20) (psF F0)) = rlZ A0 (F0 25 20) (psF F0) := rfl
         have e5 : sgS (A0 26) (F0 25 20) 200 1 (rlS4 A0 (F0 25 20) (psF F0)) = rlS5 A0 (F0 25 20) (psF F0) := rfl
         simp only [eX, e3, eY, e4', eZ, e5]
         rw [psS_up (by decide), psS_up (by decide), psS_up (by decide)]
         simp only [psS_S]
         first
         | (have e0 : ¬ (rlS5 A0 (F0 25 20) (psF F0)).1 = 0 := (by assumption)
            have eA : rlA A0 (F0 25 20) (psF F0) = A0 := by unfold rlA; rw [if_neg e0]
            rw [eA, ← h2] at h
            exact h)
         | (have e0 : (rlS5 A0 (F0 25 20) (psF F0)).1 = 0 := (by assumption)
            have eA : rlA A0 (F0 25 20) (psF F0) = _ := if_pos e0
            have d6 : d < 6 := by
              by_cases z6 : A0 27 15 = 6
              · exact absurd e0 (rl5_n (rl_6 z6))
              · have := pc.2; omega
            have d0 := pc.2.1
            rw [eA, ← h2] at h
            refine FA_eq h rfl rfl ?_
            rw [w32_id (x := 104 + 3 * d) (by omega) (by omega), w32_id (x := 104 + 3 * d + 1) (by omega) (by omega), w32_id (x := 104 + 3 * d + 2) (by omega) (by omega), w32_id (x := 8 + d) (by omega) (by omega), show w32 15 = 15 from rfl, h1]
            rw [upA_29_3]
            congr 1
            rw [upA_o (by omega), r29_27]))
      | (have e4 : (if rlX A0 (F0 25 20) (psF F0) = 0 then (0 : Int) else 1) = 1 := if_neg (by omega)
         have eX : sgR (A0 26) (F0 25 20) 5 (rlS2 A0 (F0 25 20) (psF F0)) = rlX A0 (F0 25 20) (psF F0) := rfl
         have e3 : sgS (A0 26) (F0 25 20) 5 1 (rlS2 A0 (F0 25 20) (psF F0)) = rlS3 A0 (F0 25 20) (psF F0) := rfl
         have eY : sgR (A0 26) (F0 25 20) 5 (rlS3 A0 (F0 25 20) (psF F0)) = rlY A0 (F0 25 20) (psF F0) := rfl
         have e4' : sgS (A0 26) (F0 25 20) 5 1 (rlS3 A0 (F0 25 20) (psF F0)) = rlS4 A0 (F0 25 20) (psF F0) := by unfold rlS4; rw [e4]
         have eZ : sgR (A0 26) (F0 25 20) 200 (rlS4 A0 (F0 25 20) (psF F0)) = rlZ A0 (F0 25 20) (psF F0) := rfl
         have e5 : sgS (A0 26) (F0 25 20) 200 1 (rlS4 A0 (F0 25 20) (psF F0)) = rlS5 A0 (F0 25 20) (psF F0) := rfl
         simp only [eX, e3, eY, e4', eZ, e5]
         rw [psS_up (by decide), psS_up (by decide), psS_up (by decide)]
         simp only [psS_S]
         first
         | (have e0 : ¬ (rlS5 A0 (F0 25 20) (psF F0)).1 = 0 := (by assumption)
            have eA : rlA A0 (F0 25 20) (psF F0) = A0 := by unfold rlA; rw [if_neg e0]
            rw [eA, ← h2] at h
            exact h)
         | (have e0 : (rlS5 A0 (F0 25 20) (psF F0)).1 = 0 := (by assumption)
            have eA : rlA A0 (F0 25 20) (psF F0) = _ := if_pos e0
            have d6 : d < 6 := by
              by_cases z6 : A0 27 15 = 6
              · exact absurd e0 (rl5_n (rl_6 z6))
              · have := pc.2; omega
            have d0 := pc.2.1
            rw [eA, ← h2] at h
            refine FA_eq h rfl rfl ?_
            rw [w32_id (x := 104 + 3 * d) (by omega) (by omega), w32_id (x := 104 + 3 * d + 1) (by omega) (by omega), w32_id (x := 104 + 3 * d + 2) (by omega) (by omega), w32_id (x := 8 + d) (by omega) (by omega), show w32 15 = 15 from rfl, h1]
            rw [upA_29_3]
            congr 1
            rw [upA_o (by omega), r29_27]))
    · skip
      (try rw [eX] at c2); (try rw [e50 (by assumption)] at c2); (try rw [e51 (by assumption)] at c2); (try simp only [fiP_22, inS_22, nmS_22, psF_e, psF_q, psF_p, psF_o, psF_t, psF_v] at c2); (try simp (disch := omega) only [w32_0, wbi0, Classical.not_not, w32_id] at c2)
      first
      | (have e4 : (if rlX A0 (F0 25 20) (psF F0) = 0 then (0 : Int) else 1) = 0 := if_pos (by omega)
         have eX : sgR (A0 26) (F0 25 20) 5 (rlS2 A0 (F0 25 20) (psF F0)) = rlX A0 (F0 25 20) (psF F0) := rfl
         have e3 : sgS (A0 26) (F0 25 20) 5 1 (rlS2 A0 (F0 25 20) (psF F0)) = rlS3 A0 (F0 25 20) (psF F0) := rfl
         have eY : sgR (A0 26) (F0 25 20) 5 (rlS3 A0 (F0 25 20) (psF F0)) = rlY A0 (F0 25 20) (psF F0) := rfl
         have e4' : sgS (A0 26) (F0 25 20) 5 0 (rlS3 A0 (F0 25 20) (psF F0)) = rlS4 A0 (F0 25 20) (psF F0) := by unfold rlS4; rw [e4]
         have eZ : sgR (A0 26) (F0 25 20) 200 (rlS4 A0 (F0 25 20) (psF F0)) = rlZ A0 (F0 25 20) (psF F0) := rfl
         have e5 : sgS (A0 26) (F0 25 20) 200 1 (rlS4 A0 (F0 25 20) (psF F0)) = rlS5 A0 (F0 25 20) (psF F0) := rfl
         simp only [eX, e3, eY, e4', eZ, e5]
         rw [psS_up (by decide), psS_up (by decide), psS_up (by decide)]
         simp only [psS_S]
         first
         | (have e0 : ¬ (rlS5 A0 (F0 25 20) (psF F0)).1 = 0 := (by assumption)
            have eA : rlA A0 (F0 25 20) (psF F0) = A0 := by unfold rlA; rw [if_neg e0]
            rw [eA, ← h2] at h
            exact h)
         | (have e0 : (rlS5 A0 (F0 25 20) (psF F0)).1 = 0 := (by assumption)
            have eA : rlA A0 (F0 25 20) (psF F0) = _ := if_pos e0
            have d6 : d < 6 := by
              by_cases z6 : A0 27 15 = 6
              · exact absurd e0 (rl5_n (rl_6 z6))
              · have := pc.2; omega
            have d0 := pc.2.1
            rw [eA, ← h2] at h
            refine FA_eq h rfl rfl ?_
            rw [w32_id (x := 104 + 3 * d) (by omega) (by omega), w32_id (x := 104 + 3 * d + 1) (by omega) (by omega), w32_id (x := 104 + 3 * d + 2) (by omega) (by omega), w32_id (x := 8 + d) (by omega) (by omega), show w32 15 = 15 from rfl, h1]
            rw [upA_29_3]
            congr 1
            rw [upA_o (by omega), r29_27]))
      | (have e4 : (if rlX A0 (F0 25 20) (psF F0) = 0 then (0 : Int) else 1) = 1 := if_neg (by omega)
         have eX : sgR (A0 26) (F0 25 20) 5 (rlS2 A0 (F0 25 20) (psF F0)) = rlX A0 (F0 25 20) (psF F0) := rfl
         have e3 : sgS (A0 26) (F0 25 20) 5 1 (rlS2 A0 (F0 25 20) (psF F0)) = rlS3 A0 (F0 25 20) (psF F0) := rfl
         have eY : sgR (A0 26) (F0 25 20) 5 (rlS3 A0 (F0 25 20) (psF F0)) = rlY A0 (F0 25 20) (psF F0) := rfl
         have e4' : sgS (A0 26) (F0 25 20) 5 1 (rlS3 A0 (F0 25 20) (psF F0)) = rlS4 A0 (F0 25 20) (psF F0) := by unfold rlS4; rw [e4]
         have eZ : sgR (A0 26) (F0 25 20) 200 (rlS4 A0 (F0 25 20) (psF F0)) = rlZ A0 (F0 25 20) (psF F0) := rfl
         have e5 : sgS (A0 26) (F0 25 20) 200 1 (rlS4 A0 (F0 25 20) (psF F0)) = rlS5 A0 (F0 25 20) (psF F0) := rfl
         simp only [eX, e3, eY, e4', eZ, e5]
         rw [psS_up (by decide), psS_up (by decide), psS_up (by decide)]
         simp only [psS_S]
         first
         | (have e0 : ¬ (rlS5 A0 (F0 25 20) (psF F0)).1 = 0 := (by assumption)
            have eA : rlA A0 (F0 25 20) (psF F0) = A0 := by unfold rlA; rw [if_neg e0]
            rw [eA, ← h2] at h
            exact h)
         | (have e0 : (rlS5 A0 (F0 25 20) (psF F0)).1 = 0 := (by assumption)
            have eA : rlA A0 (F0 25 20) (psF F0) = _ := if_pos e0
            have d6 : d < 6 := by
              by_cases z6 : A0 27 15 = 6
              · exact absurd e0 (rl5_n (rl_6 z6))
              · have := pc.2; omega
            have d0 := pc.2.1
            rw [eA, ← h2] at h
            refine FA_eq h rfl rfl ?_
            rw [w32_id (x := 104 + 3 * d) (by omega) (by omega), w32_id (x := 104 + 3 * d + 1) (by omega) (by omega), w32_id (x := 104 + 3 * d + 2) (by omega) (by omega), w32_id (x := 8 + d) (by omega) (by omega), show w32 15 = 15 from rfl, h1]
            rw [upA_29_3]
            congr 1
            rw [upA_o (by omega), r29_27]))
  · skip
    (try rw [eX] at c1); (try rw [e50 (by assumption)] at c1); (try rw [e51 (by assumption)] at c1); (try simp only [fiP_22, inS_22, nmS_22, psF_e, psF_q, psF_p, psF_o, psF_t, psF_v] at c1); (try simp (disch := omega) only [w32_0, wbi0, Classical.not_not, w32_id] at c1)
    refine ⟨by exact ⟨⟨pt, pn, sgS_ok k2 pn.1 pn.2⟩, by decide, by decide⟩, ?_⟩
    refine ⟨by exact ⟨⟨pt, pn, sgS_ok (sgS_ok k2 pn.1 pn.2) pn.1 pn.2⟩, by decide, by decide⟩, ?_⟩
    refine ⟨fun c2 => ?_, fun c2 => ?_⟩
    · skip
      (try rw [eX] at c2); (try rw [e50 (by assumption)] at c2); (try rw [e51 (by assumption)] at c2); (try simp only [fiP_22, inS_22, nmS_22, psF_e, psF_q, psF_p, psF_o, psF_t, psF_v] at c2); (try simp (disch := omega) only [w32_0, wbi0, Classical.not_not, w32_id] at c2)
      refine ⟨by (first | decide | (have d6 : d < 6 := dl6 (by assumption); have d0 := pc.2.1; rw [w32_id (by omega) (by omega)]; omega)), ?_⟩
      refine ⟨by (first | decide | (have d6 : d < 6 := dl6 (by assumption); have d0 := pc.2.1; rw [w32_id (by omega) (by omega)]; omega)), ?_⟩
      refine ⟨by (first | decide | (have d6 : d < 6 := dl6 (by assumption); have d0 := pc.2.1; rw [w32_id (by omega) (by omega)]; omega)), ?_⟩
      refine ⟨by (first | decide | (have d6 : d < 6 := dl6 (by assumption); have d0 := pc.2.1; rw [w32_id (by omega) (by omega)]; omega)), ?_⟩
      refine ⟨by (first | decide | (have d6 : d < 6 := dl6 (by assumption); have d0 := pc.2.1; rw [w32_id (by omega) (by omega)]; omega)), ?_⟩
      refine ⟨by (first | decide | (have d6 : d < 6 := dl6 (by assumption); have d0 := pc.2.1; rw [w32_id (by omega) (by omega)]; omega)), ?_⟩
      first
      | (have e4 : (if rlX A0 (F0 25 20) (psF F0) = 0 then (0 : Int) else 1) = 0 := if_pos (by omega)
         have eX : sgR (A0 26) (F0 25 20) 5 (rlS2 A0 (F0 25 20) (psF F0)) = rlX A0 (F0 25 20) (psF F0) := rfl
         have e3 : sgS (A0 26) (F0 25 20) 5 1 (rlS2 A0 (F0 25 20) (psF F0)) = rlS3 A0 (F0 25 20) (psF F0) := rfl
         have eY : sgR (A0 26) (F0 25 20) 5 (rlS3 A0 (F0 25 20) (psF F0)) = rlY A0 (F0 25 20) (psF F0) := rfl
         have e4' : sgS (A0 26) (F0 25 20) 5 0 (rlS3 A0 (F0 25 20) (psF F0)) = rlS4 A0 (F0 25 20) (psF F0) := by unfold rlS4; rw [e4]
         have eZ : sgR (A0 26) (F0 25 20) 200 (rlS4 A0 (F0 25 20) (psF F0)) = rlZ A0 (F0 25 20) (psF F0) := rfl
         have e5 : sgS (A0 26) (F0 25 20) 200 1 (rlS4 A0 (F0 25 20) (psF F0)) = rlS5 A0 (F0 25 20) (psF F0) := rfl
         simp only [eX, e3, eY, e4', eZ, e5]
         rw [psS_up (by decide), psS_up (by decide), psS_up (by decide)]
         simp only [psS_S]
         first
         | (have e0 : ¬ (rlS5 A0 (F0 25 20) (psF F0)).1 = 0 := (by assumption)
            have eA : rlA A0 (F0 25 20) (psF F0) = A0 := by unfold rlA; rw [if_neg e0]
            rw [eA, ← h2] at h
            exact h)
         | (have e0 : (rlS5 A0 (F0 25 20) (psF F0)).1 = 0 := (by assumption)
            have eA : rlA A0 (F0 25 20) (psF F0) = _ := if_pos e0
            have d6 : d < 6 := by
              by_cases z6 : A0 27 15 = 6
              · exact absurd e0 (rl5_n (rl_6 z6))
              · have := pc.2; omega
            have d0 := pc.2.1
            rw [eA, ← h2] at h
            refine FA_eq h rfl rfl ?_
            rw [w32_id (x := 104 + 3 * d) (by omega) (by omega), w32_id (x := 104 + 3 * d + 1) (by omega) (by omega), w32_id (x := 104 + 3 * d + 2) (by omega) (by omega), w32_id (x := 8 + d) (by omega) (by omega), show w32 15 = 15 from rfl, h1]
            rw [upA_29_3]
            congr 1
            rw [upA_o (by omega), r29_27]))
      | (have e4 : (if rlX A0 (F0 25 20) (psF F0) = 0 then (0 : Int) else 1) = 1 := if_neg (by omega)
         have eX : sgR (A0 26) (F0 25 20) 5 (rlS2 A0 (F0 25 20) (psF F0)) = rlX A0 (F0 25 20) (psF F0) := rfl
         have e3 : sgS (A0 26) (F0 25 20) 5 1 (rlS2 A0 (F0 25 20) (psF F0)) = rlS3 A0 (F0 25 20) (psF F0) := rfl
         have eY : sgR (A0 26) (F0 25 20) 5 (rlS3 A0 (F0 25 20) (psF F0)) = rlY A0 (F0 25 20) (psF F0) := rfl
         have e4' : sgS (A0 26) (F0 25 20) 5 1 (rlS3 A0 (F0 25 20) (psF F0)) = rlS4 A0 (F0 25 20) (psF F0) := by unfold rlS4; rw [e4]
         have eZ : sgR (A0 26) (F0 25 20) 200 (rlS4 A0 (F0 25 20) (psF F0)) = rlZ A0 (F0 25 20) (psF F0) := rfl
         have e5 : sgS (A0 26) (F0 25 20) 200 1 (rlS4 A0 (F0 25 20) (psF F0)) = rlS5 A0 (F0 25 20) (psF F0) := rfl
         simp only [eX, e3, eY, e4', eZ, e5]
         rw [psS_up (by decide), psS_up (by decide), psS_up (by decide)]
         simp only [psS_S]
         first
         | (have e0 : ¬ (rlS5 A0 (F0 25 20) (psF F0)).1 = 0 := (by assumption)
            have eA : rlA A0 (F0 25 20) (psF F0) = A0 := by unfold rlA; rw [if_neg e0]
            rw [eA, ← h2] at h
            exact h)
         | (have e0 : (rlS5 A0 (F0 25 20) (psF F0)).1 = 0 := (by assumption)
            have eA : rlA A0 (F0 25 20) (psF F0) = _ := if_pos e0
            have d6 : d < 6 := by
              by_cases z6 : A0 27 15 = 6
              · exact absurd e0 (rl5_n (rl_6 z6))
              · have := pc.2; omega
            have d0 := pc.2.1
            rw [eA, ← h2] at h
            refine FA_eq h rfl rfl ?_
            rw [w32_id (x := 104 + 3 * d) (by omega) (by omega), w32_id (x := 104 + 3 * d + 1) (by omega) (by omega), w32_id (x := 104 + 3 * d + 2) (by omega) (by omega), w32_id (x := 8 + d) (by omega) (by omega), show w32 15 = 15 from rfl, h1]
            rw [upA_29_3]
            congr 1
            rw [upA_o (by omega), r29_27]))
    · skip
      (try rw [eX] at c2); (try rw [e50 (by assumption)] at c2); (try rw [e51 (by assumption)] at c2); (try simp only [fiP_22, inS_22, nmS_22, psF_e, psF_q, psF_p, psF_o, psF_t, psF_v] at c2); (try simp (disch := omega) only [w32_0, wbi0, Classical.not_not, w32_id] at c2)
      first
      | (have e4 : (if rlX A0 (F0 25 20) (psF F0) = 0 then (0 : Int) else 1) = 0 := if_pos (by omega)
         have eX : sgR (A0 26) (F0 25 20) 5 (rlS2 A0 (F0 25 20) (psF F0)) = rlX A0 (F0 25 20) (psF F0) := rfl
         have e3 : sgS (A0 26) (F0 25 20) 5 1 (rlS2 A0 (F0 25 20) (psF F0)) = rlS3 A0 (F0 25 20) (psF F0) := rfl
         have eY : sgR (A0 26) (F0 25 20) 5 (rlS3 A0 (F0 25 20) (psF F0)) = rlY A0 (F0 25 20) (psF F0) := rfl
         have e4' : sgS (A0 26) (F0 25 20) 5 0 (rlS3 A0 (F0 25 20) (psF F0)) = rlS4 A0 (F0 25 20) (psF F0) := by unfold rlS4; rw [e4]
         have eZ : sgR (A0 26) (F0 25 20) 200 (rlS4 A0 (F0 25 20) (psF F0)) = rlZ A0 (F0 25 20) (psF F0) := rfl
         have e5 : sgS (A0 26) (F0 25 20) 200 1 (rlS4 A0 (F0 25 20) (psF F0)) = rlS5 A0 (F0 25 20) (psF F0) := rfl
         simp only [eX, e3, eY, e4', eZ, e5]
         rw [psS_up (by decide), psS_up (by decide), psS_up (by decide)]
         simp only [psS_S]
         first
         | (have e0 : ¬ (rlS5 A0 (F0 25 20) (psF F0)).1 = 0 := (by assumption)
            have eA : rlA A0 (F0 25 20) (psF F0) = A0 := by unfold rlA; rw [if_neg e0]
            rw [eA, ← h2] at h
            exact h)
         | (have e0 : (rlS5 A0 (F0 25 20) (psF F0)).1 = 0 := (by assumption)
            have eA : rlA A0 (F0 25 20) (psF F0) = _ := if_pos e0
            have d6 : d < 6 := by
              by_cases z6 : A0 27 15 = 6
              · exact absurd e0 (rl5_n (rl_6 z6))
              · have := pc.2; omega
            have d0 := pc.2.1
            rw [eA, ← h2] at h
            refine FA_eq h rfl rfl ?_
            rw [w32_id (x := 104 + 3 * d) (by omega) (by omega), w32_id (x := 104 + 3 * d + 1) (by omega) (by omega), w32_id (x := 104 + 3 * d + 2) (by omega) (by omega), w32_id (x := 8 + d) (by omega) (by omega), show w32 15 = 15 from rfl, h1]
            rw [upA_29_3]
            congr 1
            rw [upA_o (by omega), r29_27]))
      | (have e4 : (if rlX A0 (F0 25 20) (psF F0) = 0 then (0 : Int) else 1) = 1 := if_neg (by omega)
         have eX : sgR (A0 26) (F0 25 20) 5 (rlS2 A0 (F0 25 20) (psF F0)) = rlX A0 (F0 25 20) (psF F0) := rfl
         have e3 : sgS (A0 26) (F0 25 20) 5 1 (rlS2 A0 (F0 25 20) (psF F0)) = rlS3 A0 (F0 25 20) (psF F0) := rfl
         have eY : sgR (A0 26) (F0 25 20) 5 (rlS3 A0 (F0 25 20) (psF F0)) = rlY A0 (F0 25 20) (psF F0) := rfl
         have e4' : sgS (A0 26) (F0 25 20) 5 1 (rlS3 A0 (F0 25 20) (psF F0)) = rlS4 A0 (F0 25 20) (psF F0) := by unfold rlS4; rw [e4]
         have eZ : sgR (A0 26) (F0 25 20) 200 (rlS4 A0 (F0 25 20) (psF F0)) = rlZ A0 (F0 25 20) (psF F0) := rfl
         have e5 : sgS (A0 26) (F0 25 20) 200 1 (rlS4 A0 (F0 25 20) (psF F0)) = rlS5 A0 (F0 25 20) (psF F0) := rfl
         simp only [eX, e3, eY, e4', eZ, e5]
         rw [psS_up (by decide), psS_up (by decide), psS_up (by decide)]
         simp only [psS_S]
         first
         | (have e0 : ¬ (rlS5 A0 (F0 25 20) (psF F0)).1 = 0 := (by assumption)
            have eA : rlA A0 (F0 25 20) (psF F0) = A0 := by unfold rlA; rw [if_neg e0]
            rw [eA, ← h2] at h
            exact h)
         | (have e0 : (rlS5 A0 (F0 25 20) (psF F0)).1 = 0 := (by assumption)
            have eA : rlA A0 (F0 25 20) (psF F0) = _ := if_pos e0
            have d6 : d < 6 := by
              by_cases z6 : A0 27 15 = 6
              · exact absurd e0 (rl5_n (rl_6 z6))
              · have := pc.2; omega
            have d0 := pc.2.1
            rw [eA, ← h2] at h
            refine FA_eq h rfl rfl ?_
            rw [w32_id (x := 104 + 3 * d) (by omega) (by omega), w32_id (x := 104 + 3 * d + 1) (by omega) (by omega), w32_id (x := 104 + 3 * d + 2) (by omega) (by omega), w32_id (x := 8 + d) (by omega) (by omega), show w32 15 = 15 from rfl, h1]
            rw [upA_29_3]
            congr 1
            rw [upA_o (by omega), r29_27]))
set_option maxRecDepth 20000 in
theorem qvX9_readLine_25  (F0 : FF) (A0 : AA) (K : KK) (h : ((byO (A0 26) ∧ (0 ≤ (F0 25 20) ∧ (F0 25 20) ≤ 800) ∧ psOK ((F0 25 20)) (psF F0)) ∧ ((0 ≤ A0 27 14 ∧ A0 27 14 ≤ 8) ∧ (0 ≤ A0 27 15 ∧ A0 27 15 ≤ 6))) ∧ (K (some none) (upF (psS F0 (rlS5 A0 ((F0 25 20)) (psF F0))) 25 25 (nmN (A0 26) (rlS1 A0 ((F0 25 20)) (psF F0)))) (rlA A0 ((F0 25 20)) (psF F0)))) : am_body qxX9_readLine qnX9_readLine_25 70 (qiX9_readLine_25  F0 A0) quX9_readLine_25 [vR 25] 6 F0 A0 K := by
  refine ⟨qvX9_readLine_25_0  F0 A0 K h, fun pc ls st F A u hI => ?_⟩
  unfold qiX9_readLine_25 at hI
  replace hI := am_cond2 hI
  rcases hI with ⟨hb, hI⟩ | hI
  · have hb := am_bq hb
    subst hb
    split at hI
    · rename_i s0 d x
      obtain ⟨e0, e1, hI⟩ := hI
      subst e0
      subst e1
      exact qvX9_readLine_25_38  _ _ K h _ _ _ hI
    · exact hI.elim
  exact hI.elim
theorem qtX9_readLine (l : Launch) (hst : l.stackTraces = false) : am_CT l layM qeX9_readLine := am_met1 hst rfl (by decide +kernel) rfl rfl rfl rfl rfl (fun _ _ h => by cases h) rfl (qzX9_readLine l hst) (fun as F A K h => by
  replace h : qsX9_readLine as F A K := h
  unfold qsX9_readLine at h
  split at h
  · rename_i o
    refine ⟨by first | exact Nat.le_of_ble_eq_true rfl | simp [am_fl, am_cat], ?_⟩
    replace h := am_cond2 h
    rcases h with ⟨hb, h⟩ | h
    · skip
      have hb0 := hb
      have hb0 := am_bq hb0
      subst hb0
      exact am_way_body (qvX9_readLine_25  F A K h)
    exact h.elim
  · exact h.elim)
def qkX9_readSetting : Nat → Option CI := fun pc => cond (Nat.ble 115 pc) none (cond (Nat.ble 58 pc) (cond (Nat.ble 87 pc) (cond (Nat.ble 101 pc) (cond (Nat.ble 110 pc) (cond (Nat.ble 112 pc) (cond (Nat.beq pc 112) (some (.iload_n 2, 113, [])) (cond (Nat.beq pc 113) (some (.iastore, 114, [])) (cond (Nat.beq pc 114) (some (.return_, 115, [])) (none)))) (cond (Nat.beq pc 110) (some (.iload_n 1, 111, [])) (cond (Nat.beq pc 111) (some (.iadd, 112, [])) (none)))) (cond (Nat.ble 105 pc) (cond (Nat.beq pc 105) (some (.getfield 19, 108, [])) (cond (Nat.beq pc 108) (some (.bipush 122, 110, [])) (none))) (cond (Nat.beq pc 101) (some (.ifCond .ne 13, 104, [114])) (cond (Nat.beq pc 104) (some (.aload_n 0, 105, [])) (none))))) (cond (Nat.ble 93 pc) (cond (Nat.ble 97 pc) (cond (Nat.beq pc 97) (some (.aload_n 0, 98, [])) (cond (Nat.beq pc 98) (some (.getfield 232, 101, [])) (none))) (cond (Nat.beq pc 93) (some (.invokevirtual 260, 96, [])) (cond (Nat.beq pc 96) (some (.istore_n 2, 97, [])) (none)))) (cond (Nat.ble 89 pc) (cond (Nat.beq pc 89) (some (.iload_n 1, 90, [])) (cond (Nat.beq pc 90) (some (.invokestatic 273, 93, [])) (none))) (cond (Nat.beq pc 87) (some (.aload_n 0, 88, [])) (cond (Nat.beq pc 88) (some (.iconst 1, 89, [])) (none)))))) (cond (Nat.ble 73 pc) (cond (Nat.ble 79 pc) (cond (Nat.ble 83 pc) (cond (Nat.beq pc 83) (some (.aload_n 0, 84, [])) (cond (Nat.beq pc 84) (some (.invokevirtual 248, 87, [])) (none))) (cond (Nat.beq pc 79) (some (.ior, 80, [])) (cond (Nat.beq pc 80) (some (.putfield 270, 83, [])) (none)))) (cond (Nat.ble 77 pc) (cond (Nat.beq pc 77) (some (.iload_n 1, 78, [])) (cond (Nat.beq pc 78) (some (.ishl, 79, [])) (none))) (cond (Nat.beq pc 73) (some (.getfield 270, 76, [])) (cond (Nat.beq pc 76) (some (.iconst 1, 77, [])) (none))))) (cond (Nat.ble 66 pc) (cond (Nat.ble 71 pc) (cond (Nat.beq pc 71) (some (.aload_n 0, 72, [])) (cond (Nat.beq pc 72) (some (.dup, 73, [])) (none))) (cond (Nat.beq pc 66) (some (.bipush (-13), 68, [])) (cond (Nat.beq pc 68) (some (.invokevirtual 241, 71, [])) (none)))) (cond (Nat.ble 62 pc) (cond (Nat.beq pc 62) (some (.goto 4, 65, [66])) (cond (Nat.beq pc 65) (some (.iconst 0, 66, [])) (none))) (cond (Nat.beq pc 58) (some (.if_icmp .ne 7, 61, [65])) (cond (Nat.beq pc 61) (some (.iconst 1, 62, [])) (none))))))) (cond (Nat.ble 31 pc) (cond (Nat.ble 47 pc) (cond (Nat.ble 53 pc) (cond (Nat.ble 55 pc) (cond (Nat.beq pc 55) (some (.iconst 1, 56, [])) (cond (Nat.beq pc 56) (some (.iand, 57, [])) (cond (Nat.beq pc 57) (some (.iconst 1, 58, [])) (none)))) (cond (Nat.beq pc 53) (some (.iload_n 1, 54, [])) (cond (Nat.beq pc 54) (some (.ishr, 55, [])) (none)))) (cond (Nat.ble 49 pc) (cond (Nat.beq pc 49) (some (.aload_n 0, 50, [])) (cond (Nat.beq pc 50) (some (.getfield 270, 53, [])) (none))) (cond (Nat.beq pc 47) (some (.istore_n 1, 48, [])) (cond (Nat.beq pc 48) (some (.aload_n 0, 49, [])) (none))))) (cond (Nat.ble 41 pc) (cond (Nat.ble 43 pc) (cond (Nat.beq pc 43) (some (.goto 4, 46, [47])) (cond (Nat.beq pc 46) (some (.iconst 0, 47, [])) (none))) (cond (Nat.beq pc 41) (some (.iconst 3, 42, [])) (cond (Nat.beq pc 42) (some (.isub, 43, [])) (none)))) (cond (Nat.ble 37 pc) (cond (Nat.beq pc 37) (some (.aload_n 0, 38, [])) (cond (Nat.beq pc 38) (some (.getfield 214, 41, [])) (none))) (cond (Nat.beq pc 31) (some (.getfield 232, 34, [])) (cond (Nat.beq pc 34) (some (.ifCond .ne 12, 37, [46])) (none)))))) (cond (Nat.ble 16 pc) (cond (Nat.ble 24 pc) (cond (Nat.ble 27 pc) (cond (Nat.beq pc 27) (some (.invokevirtual 241, 30, [])) (cond (Nat.beq pc 30) (some (.aload_n 0, 31, [])) (none))) (cond (Nat.beq pc 24) (some (.iconst 0, 25, [])) (cond (Nat.beq pc 25) (some (.bipush (-11), 27, [])) (none)))) (cond (Nat.ble 20 pc) (cond (Nat.beq pc 20) (some (.iconst 1, 21, [])) (cond (Nat.beq pc 21) (some (.goto 4, 24, [25])) (none))) (cond (Nat.beq pc 16) (some (.iconst 3, 17, [])) (cond (Nat.beq pc 17) (some (.if_icmp .ge 7, 20, [24])) (none))))) (cond (Nat.ble 6 pc) (cond (Nat.ble 12 pc) (cond (Nat.beq pc 12) (some (.aload_n 0, 13, [])) (cond (Nat.beq pc 13) (some (.getfield 214, 16, [])) (none))) (cond (Nat.beq pc 6) (some (.getfield 204, 9, [])) (cond (Nat.beq pc 9) (some (.ifCond .ne 11, 12, [20])) (none)))) (cond (Nat.ble 4 pc) (cond (Nat.beq pc 4) (some (.aload_n 0, 5, [])) (cond (Nat.beq pc 5) (some (.aload_n 0, 6, [])) (none))) (cond (Nat.beq pc 0) (some (.aload_n 0, 1, [])) (cond (Nat.beq pc 1) (some (.invokevirtual 248, 4, [])) (none))))))))
theorem qkX9_readSetting_ok : ∀ pc i nx ts, qkX9_readSetting pc = some (i, nx, ts) → am_cok cX9_readSetting pc (i, nx, ts) = true := fun pc i nx ts h => am_tok_ok (n := 115) (by decide +kernel) (fun pc h => by show cond (Nat.ble 115 pc) _ _ = _; rw [Nat.ble_eq_true_of_le h]; rfl) h
def qaX9_readSetting : Nat → Option CE := fun k => cond (Nat.beq k 248) (some qeX9_goOn) (cond (Nat.beq k 241) (some qeX9_failsIf) (cond (Nat.beq k 273) (some qeX9_top) (cond (Nat.beq k 260) (some qeX9_integer) (none))))
theorem qyX9_readSetting (l : Launch) (hst : l.stackTraces = false) : ∀ k e1, qaX9_readSetting k = some e1 → am_cal l layM RX9 14 k e1 ∧ True := q_cons ⟨am_calV (ci := 9) (qtX9_goOn l hst) qbX9_goOn (by decide) rfl (am_tb_at 1576 (by decide +kernel) rfl), trivial⟩ (q_cons ⟨am_calV (ci := 9) (qtX9_failsIf l) qbX9_failsIf (by decide) rfl (am_tb_at 1572 (by decide +kernel) rfl), trivial⟩ (q_cons ⟨am_calS (qtX9_top l) qbX9_top (by decide) rfl (by decide) (am_tb_at 1612 (by decide +kernel) rfl), trivial⟩ (q_cons ⟨am_calV (ci := 9) (qtX9_integer l hst) qbX9_integer (by decide) rfl (am_tb_at 1592 (by decide +kernel) rfl), trivial⟩ (q_nil))))
def qxX9_readSetting : CX := (qkX9_readSetting, layM, qfX9, qaX9_readSetting, qcX9, qlX9, qmX9, none, true, none, 0, none, fun _ => none)
theorem qzX9_readSetting (l : Launch) (hst : l.stackTraces = false) : am_sta l qxX9_readSetting RX9 14 cX9_readSetting := ⟨qkX9_readSetting_ok, layM_ok, qfX9_ok, qcX9_ok, qlX9_ok, am_mthP qmX9_ok (by decide), fun k e1 h => (qyX9_readSetting l hst k e1 h).1⟩
def qsX9_readSetting : SP := fun as F A K => match as with
  | [.inr (.inr o)] => cond (Nat.beq o 25) (((byO (A 26) ∧ (0 ≤ (F 25 20) ∧ (F 25 20) ≤ 800) ∧ psOK ((F 25 20)) (psF F)) ∧ (0 ≤ (F 25 30) ∧ (F 25 30) ≤ 3)) ∧ (K (some none) (upF (psS F (rsS5 (A 26) ((F 25 20)) ((F 25 30)) (psF F))) 25 30 (x_or ((F 25 30)) (x_shl 1 (rsW (A 26) ((F 25 20)) (psF F))))) (rsA A ((F 25 20)) ((F 25 30)) (psF F)))) (False)
  | _ => False
def qeX9_readSetting : CE := (yX9_readSetting, cX9_readSetting, 3, none, 0, some 9, 1, [], 0, 14, qsX9_readSetting)
theorem qbX9_readSetting : am_mb qeX9_readSetting := ⟨am_tb_at 1611 (by decide +kernel) rfl, am_tb_at 124 (by decide +kernel) rfl, ⟨by decide, by decide, by decide +kernel⟩, by decide, by decide, am_tb_at 1610 (by decide +kernel) rfl, am_tb_at 63 (by decide +kernel) rfl, _, _, rfl⟩
def qnX9_readSetting_25 : CUT := fun pc => cond (Nat.beq pc 83) (some [true, true, false]) (none)
def qiX9_readSetting_25  (F0 : FF) (A0 : AA) : REC := fun pc ls st F A u => cond (Nat.beq pc 83) (match ls, st, u with
    | [some (.inr (.inr s0)), some (.inl w), none], [], 0 => s0 = 25 ∧ A = A0 ∧ (w = rsW (A0 26) (F0 25 20) (psF F0) ∧ F = upF (psS F0 (rsS3 (A0 26) (F0 25 20) (F0 25 30) (psF F0))) 25 30 (x_or (F0 25 30) (x_shl 1 (rsW (A0 26) (F0 25 20) (psF F0)))))
    | _, _, _ => False) (False)
def quX9_readSetting_25 : Nat → LVs → List AV → FF → AA → Nat := fun pc ls _ F A => cond (Nat.beq pc 83) (match ls with
    | [some (.inr (.inr s0)), some (.inl w), none] => 0
    | _ => 0) (0)
set_option maxRecDepth 20000 in
theorem qvX9_readSetting_25_0  (F0 : FF) (A0 : AA) (K : KK) (h : ((byO (A0 26) ∧ (0 ≤ (F0 25 20) ∧ (F0 25 20) ≤ 800) ∧ psOK ((F0 25 20)) (psF F0)) ∧ (0 ≤ (F0 25 30) ∧ (F0 25 30) ≤ 3)) ∧ (K (some none) (upF (psS F0 (rsS5 (A0 26) ((F0 25 20)) ((F0 25 30)) (psF F0))) 25 30 (x_or ((F0 25 30)) (x_shl 1 (rsW (A0 26) ((F0 25 20)) (psF F0))))) (rsA A0 ((F0 25 20)) ((F0 25 30)) (psF F0)))) : am_stp qxX9_readSetting (am_run qxX9_readSetting qnX9_readSetting_25 (qiX9_readSetting_25  F0 A0) K 47) K 0 (am_ent [vR 25] 3) [] F0 A0 0 := by
  show am_stp qxX9_readSetting (am_run qxX9_readSetting qnX9_readSetting_25 (qiX9_readSetting_25  F0 A0) K 47) K 0 [some (vR 25), none, none] [] F0 A0 0
  obtain ⟨hp, h⟩ := h
  obtain ⟨⟨pt, pn, pk⟩, pg⟩ := hp
  have kg := goM_ok (T := A0 26) pk pn.1 pn.2
  have kge := kg.1
  have kgt := kg.2.2.2.2.1
  have kgv := kg.2.2.2.2.2.2
  have k2 : psOK (F0 25 20) (rsS2 (A0 26) (F0 25 20) (psF F0)) := fiP_ok kg pn.2 (by decide)
  have k2e := k2.1
  have k3 : psOK (F0 25 20) (rsS3 (A0 26) (F0 25 20) (F0 25 30) (psF F0)) := fiP_ok k2 pn.2 (by decide)
  have k4 := goM_ok (T := A0 26) k3 pn.1 pn.2
  have wb := rsW_b (A0 26) (F0 25 20) (psF F0)
  have j20 := fiP_ok (z := 0) (v := -11) kg pn.2 (by decide)
  have j21 := fiP_ok (z := 1) (v := -11) kg pn.2 (by decide)
  have j20e := j20.1
  have j21e := j21.1
  show (byO (A0 26) ∧ (0 ≤ (F0 25 20) ∧ (F0 25 20) ≤ 800) ∧ psOK ((F0 25 20)) (psF F0)) ∧ ((w32 ((goM (A0 26) ((F0 25 20)) (psF F0)).2.2.2.2.1) = w32 0 → ((w32 ((goM (A0 26) ((F0 25 20)) (psF F0)).2.2.2.2.2) < w32 3 → (((1 = 0 ∨ 1 = 1) ∧ (-2147483648 ≤ ((goM (A0 26) ((F0 25 20)) (psF F0)).1) ∧ ((goM (A0 26) ((F0 25 20)) (psF F0)).1) < 2147483648)) ∧ ((w32 ((fiP ((goM (A0 26) ((F0 25 20)) (psF F0))) 1 (-11)).1) = w32 0 → ((w32 (x_and (x_shr (F0 25 30) (((fiP ((goM (A0 26) ((F0 25 20)) (psF F0))) 1 (-11)).2.2.2.2.2) - 3)) 1) = w32 1 → (((1 = 0 ∨ 1 = 1) ∧ (-2147483648 ≤ ((fiP ((goM (A0 26) ((F0 25 20)) (psF F0))) 1 (-11)).1) ∧ ((fiP ((goM (A0 26) ((F0 25 20)) (psF F0))) 1 (-11)).1) < 2147483648)) ∧ (25 = 25 ∧ A0 = A0 ∧ ((((fiP ((goM (A0 26) ((F0 25 20)) (psF F0))) 1 (-11)).2.2.2.2.2) - 3) = rsW (A0 26) (F0 25 20) (psF F0) ∧ (upF (psS (psS (psS F0 (goM (A0 26) ((F0 25 20)) (psF F0))) (fiP ((goM (A0 26) ((F0 25 20)) (psF F0))) 1 (-11))) (fiP ((fiP ((goM (A0 26) ((F0 25 20)) (psF F0))) 1 (-11))) 1 (-13))) 25 30 (x_or (F0 25 30) (x_shl 1 (((fiP ((goM (A0 26) ((F0 25 20)) (psF F0))) 1 (-11)).2.2.2.2.2) - 3)))) = upF (psS F0 (rsS3 (A0 26) (F0 25 20) (F0 25 30) (psF F0))) 25 30 (x_or (F0 25 30) (x_shl 1 (rsW (A0 26) (F0 25 20) (psF F0)))))))) ∧ (¬ w32 (x_and (x_shr (F0 25 30) (((fiP ((goM (A0 26) ((F0 25 20)) (psF F0))) 1 (-11)).2.2.2.2.2) - 3)) 1) = w32 1 → (((0 = 0 ∨ 0 = 1) ∧ (-2147483648 ≤ ((fiP ((goM (A0 26) ((F0 25 20)) (psF F0))) 1 (-11)).1) ∧ ((fiP ((goM (A0 26) ((F0 25 20)) (psF F0))) 1 (-11)).1) < 2147483648)) ∧ (25 = 25 ∧ A0 = A0 ∧ ((((fiP ((goM (A0 26) ((F0 25 20)) (psF F0))) 1 (-11)).2.2.2.2.2) - 3) = rsW (A0 26) (F0 25 20) (psF F0) ∧ (upF (psS (psS (psS F0 (goM (A0 26) ((F0 25 20)) (psF F0))) (fiP ((goM (A0 26) ((F0 25 20)) (psF F0))) 1 (-11))) (fiP ((fiP ((goM (A0 26) ((F0 25 20)) (psF F0))) 1 (-11))) 0 (-13))) 25 30 (x_or (F0 25 30) (x_shl 1 (((fiP ((goM (A0 26) ((F0 25 20)) (psF F0))) 1 (-11)).2.2.2.2.2) - 3)))) = upF (psS F0 (rsS3 (A0 26) (F0 25 20) (F0 25 30) (psF F0))) 25 30 (x_or (F0 25 30) (x_shl 1 (rsW (A0 26) (F0 25 20) (psF F0)))))))))) ∧ (¬ w32 ((fiP ((goM (A0 26) ((F0 25 20)) (psF F0))) 1 (-11)).1) = w32 0 → ((w32 (x_and (x_shr (F0 25 30) 0) 1) = w32 1 → (((1 = 0 ∨ 1 = 1) ∧ (-2147483648 ≤ ((fiP ((goM (A0 26) ((F0 25 20)) (psF F0))) 1 (-11)).1) ∧ ((fiP ((goM (A0 26) ((F0 25 20)) (psF F0))) 1 (-11)).1) < 2147483648)) ∧ (25 = 25 ∧ A0 = A0 ∧ (0 = rsW (A0 26) (F0 25 20) (psF F0) ∧ (upF (psS (psS (psS F0 (goM (A0 26) ((F0 25 20)) (psF F0))) (fiP ((goM (A0 26) ((F0 25 20)) (psF F0))) 1 (-11))) (fiP ((fiP ((goM (A0 26) ((F0 25 20)) (psF F0))) 1 (-11))) 1 (-13))) 25 30 (x_or (F0 25 30) (x_shl 1 0))) = upF (psS F0 (rsS3 (A0 26) (F0 25 20) (F0 25 30) (psF F0))) 25 30 (x_or (F0 25 30) (x_shl 1 (rsW (A0 26) (F0 25 20) (psF F0)))))))) ∧ (¬ w32 (x_and (x_shr (F0 25 30) 0) 1) = w32 1 → (((0 = 0 ∨ 0 = 1) ∧ (-2147483648 ≤ ((fiP ((goM (A0 26) ((F0 25 20)) (psF F0))) 1 (-11)).1) ∧ ((fiP ((goM (A0 26) ((F0 25 20)) (psF F0))) 1 (-11)).1) < 2147483648)) ∧ (25 = 25 ∧ A0 = A0 ∧ (0 = rsW (A0 26) (F0 25 20) (psF F0) ∧ (upF (psS (psS (psS F0 (goM (A0 26) ((F0 25 20)) (psF F0))) (fiP ((goM (A0 26) ((F0 25 20)) (psF F0))) 1 (-11))) (fiP ((fiP ((goM (A0 26) ((F0 25 20)) (psF F0))) 1 (-11))) 0 (-13))) 25 30 (x_or (F0 25 30) (x_shl 1 0))) = upF (psS F0 (rsS3 (A0 26) (F0 25 20) (F0 25 30) (psF F0))) 25 30 (x_or (F0 25 30) (x_shl 1 (rsW (A0 26) (F0 25 20) (psF F0))))))))))))) ∧ (¬ w32 ((goM (A0 26) ((F0 25 20)) (psF F0)).2.2.2.2.2) < w32 3 → (((0 = 0 ∨ 0 = 1) ∧ (-2147483648 ≤ ((goM (A0 26) ((F0 25 20)) (psF F0)).1) ∧ ((goM (A0 26) ((F0 25 20)) (psF F0)).1) < 2147483648)) ∧ ((w32 ((fiP ((goM (A0 26) ((F0 25 20)) (psF F0))) 0 (-11)).1) = w32 0 → ((w32 (x_and (x_shr (F0 25 30) (((fiP ((goM (A0 26) ((F0 25 20)) (psF F0))) 0 (-11)).2.2.2.2.2) - 3)) 1) = w32 1 → (((1 = 0 ∨ 1 = 1) ∧ (-2147483648 ≤ ((fiP ((goM (A0 26) ((F0 25 20)) (psF F0))) 0 (-11)).1) ∧ ((fiP ((goM (A0 26) ((F0 25 20)) (psF F0))) 0 (-11)).1) < 2147483648)) ∧ (25 = 25 ∧ A0 = A0 ∧ ((((fiP ((goM (A0 26) ((F0 25 20)) (psF F0))) 0 (-11)).2.2.2.2.2) - 3) = rsW (A0 26) (F0 25 20) (psF F0) ∧ (upF (psS (psS (psS F0 (goM (A0 26) ((F0 25 20)) (psF F0))) (fiP ((goM (A0 26) ((F0 25 20)) (psF F0))) 0 (-11))) (fiP ((fiP ((goM (A0 26) ((F0 25 20)) (psF F0))) 0 (-11))) 1 (-13))) 25 30 (x_or (F0 25 30) (x_shl 1 (((fiP ((goM (A0 26) ((F0 25 20)) (psF F0))) 0 (-11)).2.2.2.2.2) - 3)))) = upF (psS F0 (rsS3 (A0 26) (F0 25 20) (F0 25 30) (psF F0))) 25 30 (x_or (F0 25 30) (x_shl 1 (rsW (A0 26) (F0 25 20) (psF F0)))))))) ∧ (¬ w32 (x_and (x_shr (F0 25 30) (((fiP ((goM (A0 26) ((F0 25 20)) (psF F0))) 0 (-11)).2.2.2.2.2) - 3)) 1) = w32 1 → (((0 = 0 ∨ 0 = 1) ∧ (-2147483648 ≤ ((fiP ((goM (A0 26) ((F0 25 20)) (psF F0))) 0 (-11)).1) ∧ ((fiP ((goM (A0 26) ((F0 25 20)) (psF F0))) 0 (-11)).1) < 2147483648)) ∧ (25 = 25 ∧ A0 = A0 ∧ ((((fiP ((goM (A0 26) ((F0 25 20)) (psF F0))) 0 (-11)).2.2.2.2.2) - 3) = rsW (A0 26) (F0 25 20) (psF F0) ∧ (upF (psS (psS (psS F0 (goM (A0 26) ((F0 25 20)) (psF F0))) (fiP ((goM (A0 26) ((F0 25 20)) (psF F0))) 0 (-11))) (fiP ((fiP ((goM (A0 26) ((F0 25 20)) (psF F0))) 0 (-11))) 0 (-13))) 25 30 (x_or (F0 25 30) (x_shl 1 (((fiP ((goM (A0 26) ((F0 25 20)) (psF F0))) 0 (-11)).2.2.2.2.2) - 3)))) = upF (psS F0 (rsS3 (A0 26) (F0 25 20) (F0 25 30) (psF F0))) 25 30 (x_or (F0 25 30) (x_shl 1 (rsW (A0 26) (F0 25 20) (psF F0)))))))))) ∧ (¬ w32 ((fiP ((goM (A0 26) ((F0 25 20)) (psF F0))) 0 (-11)).1) = w32 0 → ((w32 (x_and (x_shr (F0 25 30) 0) 1) = w32 1 → (((1 = 0 ∨ 1 = 1) ∧ (-2147483648 ≤ ((fiP ((goM (A0 26) ((F0 25 20)) (psF F0))) 0 (-11)).1) ∧ ((fiP ((goM (A0 26) ((F0 25 20)) (psF F0))) 0 (-11)).1) < 2147483648)) ∧ (25 = 25 ∧ A0 = A0 ∧ (0 = rsW (A0 26) (F0 25 20) (psF F0) ∧ (upF (psS (psS (psS F0 (goM (A0 26) ((F0 25 20)) (psF F0))) (fiP ((goM (A0 26) ((F0 25 20)) (psF F0))) 0 (-11))) (fiP ((fiP ((goM (A0 26) ((F0 25 20)) (psF F0))) 0 (-11))) 1 (-13))) 25 30 (x_or (F0 25 30) (x_shl 1 0))) = upF (psS F0 (rsS3 (A0 26) (F0 25 20) (F0 25 30) (psF F0))) 25 30 (x_or (F0 25 30) (x_shl 1 (rsW (A0 26) (F0 25 20) (psF F0)))))))) ∧ (¬ w32 (x_and (x_shr (F0 25 30) 0) 1) = w32 1 → (((0 = 0 ∨ 0 = 1) ∧ (-2147483648 ≤ ((fiP ((goM (A0 26) ((F0 25 20)) (psF F0))) 0 (-11)).1) ∧ ((fiP ((goM (A0 26) ((F0 25 20)) (psF F0))) 0 (-11)).1) < 2147483648)) ∧ (25 = 25 ∧ A0 = A0 ∧ (0 = rsW (A0 26) (F0 25 20) (psF F0) ∧ (upF (psS (psS (psS F0 (goM (A0 26) ((F0 25 20)) (psF F0))) (fiP ((goM (A0 26) ((F0 25 20)) (psF F0))) 0 (-11))) (fiP ((fiP ((goM (A0 26) ((F0 25 20)) (psF F0))) 0 (-11))) 0 (-13))) 25 30 (x_or (F0 25 30) (x_shl 1 0))) = upF (psS F0 (rsS3 (A0 26) (F0 25 20) (F0 25 30) (psF F0))) 25 30 (x_or (F0 25 30) (x_shl 1 (rsW (A0 26) (F0 25 20) (psF F0))))))))))))))) ∧ (¬ w32 ((goM (A0 26) ((F0 25 20)) (psF F0)).2.2.2.2.1) = w32 0 → (((1 = 0 ∨ 1 = 1) ∧ (-2147483648 ≤ ((goM (A0 26) ((F0 25 20)) (psF F0)).1) ∧ ((goM (A0 26) ((F0 25 20)) (psF F0)).1) < 2147483648)) ∧ ((w32 ((fiP ((goM (A0 26) ((F0 25 20)) (psF F0))) 1 (-11)).1) = w32 0 → ((w32 (x_and (x_shr (F0 25 30) (((fiP ((goM (A0 26) ((F0 25 20)) (psF F0))) 1 (-11)).2.2.2.2.2) - 3)) 1) = w32 1 → (((1 = 0 ∨ 1 = 1) ∧ (-2147483648 ≤ ((fiP ((goM (A0 26) ((F0 25 20)) (psF F0))) 1 (-11)).1) ∧ ((fiP ((goM (A0 26) ((F0 25 20)) (psF F0))) 1 (-11)).1) < 2147483648)) ∧ (25 = 25 ∧ A0 = A0 ∧ ((((fiP ((goM (A0 26) ((F0 25 20)) (psF F0))) 1 (-11)).2.2.2.2.2) - 3) = rsW (A0 26) (F0 25 20) (psF F0) ∧ (upF (psS (psS (psS F0 (goM (A0 26) ((F0 25 20)) (psF F0))) (fiP ((goM (A0 26) ((F0 25 20)) (psF F0))) 1 (-11))) (fiP ((fiP ((goM (A0 26) ((F0 25 20)) (psF F0))) 1 (-11))) 1 (-13))) 25 30 (x_or (F0 25 30) (x_shl 1 (((fiP ((goM (A0 26) ((F0 25 20)) (psF F0))) 1 (-11)).2.2.2.2.2) - 3)))) = upF (psS F0 (rsS3 (A0 26) (F0 25 20) (F0 25 30) (psF F0))) 25 30 (x_or (F0 25 30) (x_shl 1 (rsW (A0 26) (F0 25 20) (psF F0)))))))) ∧ (¬ w32 (x_and (x_shr (F0 25 30) (((fiP ((goM (A0 26) ((F0 25 20)) (psF F0))) 1 (-11)).2.2.2.2.2) - 3)) 1) = w32 1 → (((0 = 0 ∨ 0 = 1) ∧ (-2147483648 ≤ ((fiP ((goM (A0 26) ((F0 25 20)) (psF F0))) 1 (-11)).1) ∧ ((fiP ((goM (A0 26) ((F0 25 20)) (psF F0))) 1 (-11)).1) < 2147483648)) ∧ (25 = 25 ∧ A0 = A0 ∧ ((((fiP ((goM (A0 26) ((F0 25 20)) (psF F0))) 1 (-11)).2.2.2.2.2) - 3) = rsW (A0 26) (F0 25 20) (psF F0) ∧ (upF (psS (psS (psS F0 (goM (A0 26) ((F0 25 20)) (psF F0))) (fiP ((goM (A0 26) ((F0 25 20)) (psF F0))) 1 (-11))) (fiP ((fiP ((goM (A0 26) ((F0 25 20)) (psF F0))) 1 (-11))) 0 (-13))) 25 30 (x_or (F0 25 30) (x_shl 1 (((fiP ((goM (A0 26) ((F0 25 20)) (psF F0))) 1 (-11)).2.2.2.2.2) - 3)))) = upF (psS F0 (rsS3 (A0 26) (F0 25 20) (F0 25 30) (psF F0))) 25 30 (x_or (F0 25 30) (x_shl 1 (rsW (A0 26) (F0 25 20) (psF F0)))))))))) ∧ (¬ w32 ((fiP ((goM (A0 26) ((F0 25 20)) (psF F0))) 1 (-11)).1) = w32 0 → ((w32 (x_and (x_shr (F0 25 30) 0) 1) = w32 1 → (((1 = 0 ∨ 1 = 1) ∧ (-2147483648 ≤ ((fiP ((goM (A0 26) ((F0 25 20)) (psF F0))) 1 (-11)).1) ∧ ((fiP ((goM (A0 26) ((F0 25 20)) (psF F0))) 1 (-11)).1) < 2147483648)) ∧ (25 = 25 ∧ A0 = A0 ∧ (0 = rsW (A0 26) (F0 25 20) (psF F0) ∧ (upF (psS (psS (psS F0 (goM (A0 26) ((F0 25 20)) (psF F0))) (fiP ((goM (A0 26) ((F0 25 20)) (psF F0))) 1 (-11))) (fiP ((fiP ((goM (A0 26) ((F0 25 20)) (psF F0))) 1 (-11))) 1 (-13))) 25 30 (x_or (F0 25 30) (x_shl 1 0))) = upF (psS F0 (rsS3 (A0 26) (F0 25 20) (F0 25 30) (psF F0))) 25 30 (x_or (F0 25 30) (x_shl 1 (rsW (A0 26) (F0 25 20) (psF F0)))))))) ∧ (¬ w32 (x_and (x_shr (F0 25 30) 0) 1) = w32 1 → (((0 = 0 ∨ 0 = 1) ∧ (-2147483648 ≤ ((fiP ((goM (A0 26) ((F0 25 20)) (psF F0))) 1 (-11)).1) ∧ ((fiP ((goM (A0 26) ((F0 25 20)) (psF F0))) 1 (-11)).1) < 2147483648)) ∧ (25 = 25 ∧ A0 = A0 ∧ (0 = rsW (A0 26) (F0 25 20) (psF F0) ∧ (upF (psS (psS (psS F0 (goM (A0 26) ((F0 25 20)) (psF F0))) (fiP ((goM (A0 26) ((F0 25 20)) (psF F0))) 1 (-11))) (fiP ((fiP ((goM (A0 26) ((F0 25 20)) (psF F0))) 1 (-11))) 0 (-13))) 25 30 (x_or (F0 25 30) (x_shl 1 0))) = upF (psS F0 (rsS3 (A0 26) (F0 25 20) (F0 25 30) (psF F0))) 25 30 (x_or (F0 25 30) (x_shl 1 (rsW (A0 26) (F0 25 20) (psF F0))))))))))))))
  refine ⟨by first | exact ⟨pt, pn, pk⟩ | exact ⟨Or.inl rfl, by omega, by omega⟩ | exact ⟨Or.inr rfl, by omega, by omega⟩, ?_⟩
  refine ⟨fun c1 => ?_, fun c1 => ?_⟩
  · skip
    (try rw [w32_id (x := x_and _ 1) (x_and_r _ _).1 (x_and_r _ _).2, w32_id (x := 1) (by decide) (by decide)] at c1); (try simp only [fiP_22, inS_22, nmS_22, psF_e, psF_q, psF_p, psF_o, psF_t, psF_v] at c1); (try simp (disch := omega) only [w32_0, wbi0, Classical.not_not, w32_id] at c1)
    refine ⟨fun c2 => ?_, fun c2 => ?_⟩
    · skip
      (try rw [w32_id (x := x_and _ 1) (x_and_r _ _).1 (x_and_r _ _).2, w32_id (x := 1) (by decide) (by decide)] at c2); (try simp only [fiP_22, inS_22, nmS_22, psF_e, psF_q, psF_p, psF_o, psF_t, psF_v] at c2); (try simp (disch := omega) only [w32_0, wbi0, Classical.not_not, w32_id] at c2)
      refine ⟨by first | exact ⟨pt, pn, pk⟩ | exact ⟨Or.inl rfl, by omega, by omega⟩ | exact ⟨Or.inr rfl, by omega, by omega⟩, ?_⟩
      refine ⟨fun c3 => ?_, fun c3 => ?_⟩
      · skip
        (try rw [w32_id (x := x_and _ 1) (x_and_r _ _).1 (x_and_r _ _).2, w32_id (x := 1) (by decide) (by decide)] at c3); (try simp only [fiP_22, inS_22, nmS_22, psF_e, psF_q, psF_p, psF_o, psF_t, psF_v] at c3); (try simp (disch := omega) only [w32_0, wbi0, Classical.not_not, w32_id] at c3)
        refine ⟨fun c4 => ?_, fun c4 => ?_⟩
        · skip
          (try rw [w32_id (x := x_and _ 1) (x_and_r _ _).1 (x_and_r _ _).2, w32_id (x := 1) (by decide) (by decide)] at c4); (try simp only [fiP_22, inS_22, nmS_22, psF_e, psF_q, psF_p, psF_o, psF_t, psF_v] at c4); (try simp (disch := omega) only [w32_0, wbi0, Classical.not_not, w32_id] at c4)
          refine ⟨by first | exact ⟨pt, pn, pk⟩ | exact ⟨Or.inl rfl, by omega, by omega⟩ | exact ⟨Or.inr rfl, by omega, by omega⟩, ?_⟩
          refine ⟨rfl, rfl, ?_⟩
          (try simp only [fiP_22])
          first
          | (have e1 : (if (¬ (goM (A0 26) (F0 25 20) (psF F0)).2.2.2.2.1 = 0) ∨ (goM (A0 26) (F0 25 20) (psF F0)).2.2.2.2.2 < 3 then (1 : Int) else 0) = 0 := if_neg (by omega)
             have eS : rsS2 (A0 26) (F0 25 20) (psF F0) = fiP (goM (A0 26) (F0 25 20) (psF F0)) 0 (-11) := by unfold rsS2; rw [e1]
             have eW : rsW (A0 26) (F0 25 20) (psF F0) = 0 := by unfold rsW; rw [eS]; exact if_neg (by assumption)
             have eY : (if x_and (x_shr (F0 25 30) (rsW (A0 26) (F0 25 20) (psF F0))) 1 = 1 then (1 : Int) else 0) = 0 := if_neg (by rw [eW]; (try simp only [fiP_22]); assumption)
             have eT : rsS3 (A0 26) (F0 25 20) (F0 25 30) (psF F0) = fiP (fiP (goM (A0 26) (F0 25 20) (psF F0)) 0 (-11)) 0 (-13) := by unfold rsS3; rw [eY, eS]
             refine ⟨?_, ?_⟩
             · rw [eW]; (try simp only [fiP_22])
             · rw [eT, eW]; simp only [psS_S, fiP_22])
          | (have e1 : (if (¬ (goM (A0 26) (F0 25 20) (psF F0)).2.2.2.2.1 = 0) ∨ (goM (A0 26) (F0 25 20) (psF F0)).2.2.2.2.2 < 3 then (1 : Int) else 0) = 0 := if_neg (by omega)
             have eS : rsS2 (A0 26) (F0 25 20) (psF F0) = fiP (goM (A0 26) (F0 25 20) (psF F0)) 0 (-11) := by unfold rsS2; rw [e1]
             have eW : rsW (A0 26) (F0 25 20) (psF F0) = 0 := by unfold rsW; rw [eS]; exact if_neg (by assumption)
             have eY : (if x_and (x_shr (F0 25 30) (rsW (A0 26) (F0 25 20) (psF F0))) 1 = 1 then (1 : Int) else 0) = 1 := if_pos (by rw [eW]; (try simp only [fiP_22]); assumption)
             have eT : rsS3 (A0 26) (F0 25 20) (F0 25 30) (psF F0) = fiP (fiP (goM (A0 26) (F0 25 20) (psF F0)) 0 (-11)) 1 (-13) := by unfold rsS3; rw [eY, eS]
             refine ⟨?_, ?_⟩
             · rw [eW]; (try simp only [fiP_22])
             · rw [eT, eW]; simp only [psS_S, fiP_22])
          | (have e1 : (if (¬ (goM (A0 26) (F0 25 20) (psF F0)).2.2.2.2.1 = 0) ∨ (goM (A0 26) (F0 25 20) (psF F0)).2.2.2.2.2 < 3 then (1 : Int) else 0) = 0 := if_neg (by omega)
             have eS : rsS2 (A0 26) (F0 25 20) (psF F0) = fiP (goM (A0 26) (F0 25 20) (psF F0)) 0 (-11) := by unfold rsS2; rw [e1]
             have eW : rsW (A0 26) (F0 25 20) (psF F0) = (goM (A0 26) (F0 25 20) (psF F0)).2.2.2.2.2 - 3 := by unfold rsW; rw [eS]; exact if_pos (by assumption)
             have eY : (if x_and (x_shr (F0 25 30) (rsW (A0 26) (F0 25 20) (psF F0))) 1 = 1 then (1 : Int) else 0) = 0 := if_neg (by rw [eW]; (try simp only [fiP_22]); assumption)
             have eT : rsS3 (A0 26) (F0 25 20) (F0 25 30) (psF F0) = fiP (fiP (goM (A0 26) (F0 25 20) (psF F0)) 0 (-11)) 0 (-13) := by unfold rsS3; rw [eY, eS]
             refine ⟨?_, ?_⟩
             · rw [eW]; (try simp only [fiP_22])
             · rw [eT, eW]; simp only [psS_S, fiP_22])
          | (have e1 : (if (¬ (goM (A0 26) (F0 25 20) (psF F0)).2.2.2.2.1 = 0) ∨ (goM (A0 26) (F0 25 20) (psF F0)).2.2.2.2.2 < 3 then (1 : Int) else 0) = 0 := if_neg (by omega)
             have eS : rsS2 (A0 26) (F0 25 20) (psF F0) = fiP (goM (A0 26) (F0 25 20) (psF F0)) 0 (-11) := by unfold rsS2; rw [e1]
             have eW : rsW (A0 26) (F0 25 20) (psF F0) = (goM (A0 26) (F0 25 20) (psF F0)).2.2.2.2.2 - 3 := by unfold rsW; rw [eS]; exact if_pos (by assumption)
             have eY : (if x_and (x_shr (F0 25 30) (rsW (A0 26) (F0 25 20) (psF F0))) 1 = 1 then (1 : Int) else 0) = 1 := if_pos (by rw [eW]; (try simp only [fiP_22]); assumption)
             have eT : rsS3 (A0 26) (F0 25 20) (F0 25 30) (psF F0) = fiP (fiP (goM (A0 26) (F0 25 20) (psF F0)) 0 (-11)) 1 (-13) := by unfold rsS3; rw [eY, eS]
             refine ⟨?_, ?_⟩
             · rw [eW]; (try simp only [fiP_22])
             · rw [eT, eW]; simp only [psS_S, fiP_22])
          | (have e1 : (if (¬ (goM (A0 26) (F0 25 20) (psF F0)).2.2.2.2.1 = 0) ∨ (goM (A0 26) (F0 25 20) (psF F0)).2.2.2.2.2 < 3 then (1 : Int) else 0) = 1 := if_pos (by omega)
             have eS : rsS2 (A0 26) (F0 25 20) (psF F0) = fiP (goM (A0 26) (F0 25 20) (psF F0)) 1 (-11) := by unfold rsS2; rw [e1]
             have eW : rsW (A0 26) (F0 25 20) (psF F0) = 0 := by unfold rsW; rw [eS]; exact if_neg (by assumption)
             have eY : (if x_and (x_shr (F0 25 30) (rsW (A0 26) (F0 25 20) (psF F0))) 1 = 1 then (1 : Int) else 0) = 0 := if_neg (by rw [eW]; (try simp only [fiP_22]); assumption)
             have eT : rsS3 (A0 26) (F0 25 20) (F0 25 30) (psF F0) = fiP (fiP (goM (A0 26) (F0 25 20) (psF F0)) 1 (-11)) 0 (-13) := by unfold rsS3; rw [eY, eS]
             refine ⟨?_, ?_⟩
             · rw [eW]; (try simp only [fiP_22])
             · rw [eT, eW]; simp only [psS_S, fiP_22])
          | (have e1 : (if (¬ (goM (A0 26) (F0 25 20) (psF F0)).2.2.2.2.1 = 0) ∨ (goM (A0 26) (F0 25 20) (psF F0)).2.2.2.2.2 < 3 then (1 : Int) else 0) = 1 := if_pos (by omega)
             have eS : rsS2 (A0 26) (F0 25 20) (psF F0) = fiP (goM (A0 26) (F0 25 20) (psF F0)) 1 (-11) := by unfold rsS2; rw [e1]
             have eW : rsW (A0 26) (F0 25 20) (psF F0) = 0 := by unfold rsW; rw [eS]; exact if_neg (by assumption)
             have eY : (if x_and (x_shr (F0 25 30) (rsW (A0 26) (F0 25 20) (psF F0))) 1 = 1 then (1 : Int) else 0) = 1 := if_pos (by rw [eW]; (try simp only [fiP_22]); assumption)
             have eT : rsS3 (A0 26) (F0 25 20) (F0 25 30) (psF F0) = fiP (fiP (goM (A0 26) (F0 25 20) (psF F0)) 1 (-11)) 1 (-13) := by unfold rsS3; rw [eY, eS]
             refine ⟨?_, ?_⟩
             · rw [eW]; (try simp only [fiP_22])
             · rw [eT, eW]; simp only [psS_S, fiP_22])
          | (have e1 : (if (¬ (goM (A0 26) (F0 25 20) (psF F0)).2.2.2.2.1 = 0) ∨ (goM (A0 26) (F0 25 20) (psF F0)).2.2.2.2.2 < 3 then (1 : Int) else 0) = 1 := if_pos (by omega)
             have eS : rsS2 (A0 26) (F0 25 20) (psF F0) = fiP (goM (A0 26) (F0 25 20) (psF F0)) 1 (-11) := by unfold rsS2; rw [e1]
             have eW : rsW (A0 26) (F0 25 20) (psF F0) = (goM (A0 26) (F0 25 20) (psF F0)).2.2.2.2.2 - 3 := by unfold rsW; rw [eS]; exact if_pos (by assumption)
             have eY : (if x_and (x_shr (F0 25 30) (rsW (A0 26) (F0 25 20) (psF F0))) 1 = 1 then (1 : Int) else 0) = 0 := if_neg (by rw [eW]; (try simp only [fiP_22]); assumption)
             have eT : rsS3 (A0 26) (F0 25 20) (F0 25 30) (psF F0) = fiP (fiP (goM (A0 26) (F0 25 20) (psF F0)) 1 (-11)) 0 (-13) := by unfold rsS3; rw [eY, eS]
             refine ⟨?_, ?_⟩
             · rw [eW]; (try simp only [fiP_22])
             · rw [eT, eW]; simp only [psS_S, fiP_22])
          | (have e1 : (if (¬ (goM (A0 26) (F0 25 20) (psF F0)).2.2.2.2.1 = 0) ∨ (goM (A0 26) (F0 25 20) (psF F0)).2.2.2.2.2 < 3 then (1 : Int) else 0) = 1 := if_pos (by omega)
             have eS : rsS2 (A0 26) (F0 25 20) (psF F0) = fiP (goM (A0 26) (F0 25 20) (psF F0)) 1 (-11) := by unfold rsS2; rw [e1]
             have eW : rsW (A0 26) (F0 25 20) (psF F0) = (goM (A0 26) (F0 25 20) (psF F0)).2.2.2.2.2 - 3 := by unfold rsW; rw [eS]; exact if_pos (by assumption)
             have eY : (if x_and (x_shr (F0 25 30) (rsW (A0 26) (F0 25 20) (psF F0))) 1 = 1 then (1 : Int) else 0) = 1 := if_pos (by rw [eW]; (try simp only [fiP_22]); assumption)
             have eT : rsS3 (A0 26) (F0 25 20) (F0 25 30) (psF F0) = fiP (fiP (goM (A0 26) (F0 25 20) (psF F0)) 1 (-11)) 1 (-13) := by unfold rsS3; rw [eY, eS]
             refine ⟨?_, ?_⟩
             · rw [eW]; (try simp only [fiP_22])
             · rw [eT, eW]; simp only [psS_S, fiP_22])
        · skip
          (try rw [w32_id (x := x_and _ 1) (x_and_r _ _).1 (x_and_r _ _).2, w32_id (x := 1) (by decide) (by decide)] at c4); (try simp only [fiP_22, inS_22, nmS_22, psF_e, psF_q, psF_p, psF_o, psF_t, psF_v] at c4); (try simp (disch := omega) only [w32_0, wbi0, Classical.not_not, w32_id] at c4)
          refine ⟨by first | exact ⟨pt, pn, pk⟩ | exact ⟨Or.inl rfl, by omega, by omega⟩ | exact ⟨Or.inr rfl, by omega, by omega⟩, ?_⟩
          refine ⟨rfl, rfl, ?_⟩
          (try simp only [fiP_22])
          first
          | (have e1 : (if (¬ (goM (A0 26) (F0 25 20) (psF F0)).2.2.2.2.1 = 0) ∨ (goM (A0 26) (F0 25 20) (psF F0)).2.2.2.2.2 < 3 then (1 : Int) else 0) = 0 := if_neg (by omega)
             have eS : rsS2 (A0 26) (F0 25 20) (psF F0) = fiP (goM (A0 26) (F0 25 20) (psF F0)) 0 (-11) := by unfold rsS2; rw [e1]
             have eW : rsW (A0 26) (F0 25 20) (psF F0) = 0 := by unfold rsW; rw [eS]; exact if_neg (by assumption)
             have eY : (if x_and (x_shr (F0 25 30) (rsW (A0 26) (F0 25 20) (psF F0))) 1 = 1 then (1 : Int) else 0) = 0 := if_neg (by rw [eW]; (try simp only [fiP_22]); assumption)
             have eT : rsS3 (A0 26) (F0 25 20) (F0 25 30) (psF F0) = fiP (fiP (goM (A0 26) (F0 25 20) (psF F0)) 0 (-11)) 0 (-13) := by unfold rsS3; rw [eY, eS]
             refine ⟨?_, ?_⟩
             · rw [eW]; (try simp only [fiP_22])
             · rw [eT, eW]; simp only [psS_S, fiP_22])
          | (have e1 : (if (¬ (goM (A0 26) (F0 25 20) (psF F0)).2.2.2.2.1 = 0) ∨ (goM (A0 26) (F0 25 20) (psF F0)).2.2.2.2.2 < 3 then (1 : Int) else 0) = 0 := if_neg (by omega)
             have eS : rsS2 (A0 26) (F0 25 20) (psF F0) = fiP (goM (A0 26) (F0 25 20) (psF F0)) 0 (-11) := by unfold rsS2; rw [e1]
             have eW : rsW (A0 26) (F0 25 20) (psF F0) = 0 := by unfold rsW; rw [eS]; exact if_neg (by assumption)
             have eY : (if x_and (x_shr (F0 25 30) (rsW (A0 26) (F0 25 20) (psF F0))) 1 = 1 then (1 : Int) else 0) = 1 := if_pos (by rw [eW]; (try simp only [fiP_22]); assumption)
             have eT : rsS3 (A0 26) (F0 25 20) (F0 25 30) (psF F0) = fiP (fiP (goM (A0 26) (F0 25 20) (psF F0)) 0 (-11)) 1 (-13) := by unfold rsS3; rw [eY, eS]
             refine ⟨?_, ?_⟩
             · rw [eW]; (try simp only [fiP_22])
             · rw [eT, eW]; simp only [psS_S, fiP_22])
          | (have e1 : (if (¬ (goM (A0 26) (F0 25 20) (psF F0)).2.2.2.2.1 = 0) ∨ (goM (A0 26) (F0 25 20) (psF F0)).2.2.2.2.2 < 3 then (1 : Int) else 0) = 0 := if_neg (by omega)
             have eS : rsS2 (A0 26) (F0 25 20) (psF F0) = fiP (goM (A0 26) (F0 25 20) (psF F0)) 0 (-11) := by unfold rsS2; rw [e1]
             have eW : rsW (A0 26) (F0 25 20) (psF F0) = (goM (A0 26) (F0 25 20) (psF F0)).2.2.2.2.2 - 3 := by unfold rsW; rw [eS]; exact if_pos (by assumption)
             have eY : (if x_and (x_shr (F0 25 30) (rsW (A0 26) (F0 25 20) (psF F0))) 1 = 1 then (1 : Int) else 0) = 0 := if_neg (by rw [eW]; (try simp only [fiP_22]); assumption)
             have eT : rsS3 (A0 26) (F0 25 20) (F0 25 30) (psF F0) = fiP (fiP (goM (A0 26) (F0 25 20) (psF F0)) 0 (-11)) 0 (-13) := by unfold rsS3; rw [eY, eS]
             refine ⟨?_, ?_⟩
             · rw [eW]; (try simp only [fiP_22])
             · rw [eT, eW]; simp only [psS_S, fiP_22])
          | (have e1 : (if (¬ (goM (A0 26) (F0 25 20) (psF F0)).2.2.2.2.1 = 0) ∨ (goM (A0 26) (F0 25 20) (psF F0)).2.2.2.2.2 < 3 then (1 : Int) else 0) = 0 := if_neg (by omega)
             have eS : rsS2 (A0 26) (F0 25 20) (psF F0) = fiP (goM (A0 26) (F0 25 20) (psF F0)) 0 (-11) := by unfold rsS2; rw [e1]
             have eW : rsW (A0 26) (F0 25 20) (psF F0) = (goM (A0 26) (F0 25 20) (psF F0)).2.2.2.2.2 - 3 := by unfold rsW; rw [eS]; exact if_pos (by assumption)
             have eY : (if x_and (x_shr (F0 25 30) (rsW (A0 26) (F0 25 20) (psF F0))) 1 = 1 then (1 : Int) else 0) = 1 := if_pos (by rw [eW]; (try simp only [fiP_22]); assumption)
             have eT : rsS3 (A0 26) (F0 25 20) (F0 25 30) (psF F0) = fiP (fiP (goM (A0 26) (F0 25 20) (psF F0)) 0 (-11)) 1 (-13) := by unfold rsS3; rw [eY, eS]
             refine ⟨?_, ?_⟩
             · rw [eW]; (try simp only [fiP_22])
             · rw [eT, eW]; simp only [psS_S, fiP_22])
          | (have e1 : (if (¬ (goM (A0 26) (F0 25 20) (psF F0)).2.2.2.2.1 = 0) ∨ (goM (A0 26) (F0 25 20) (psF F0)).2.2.2.2.2 < 3 then (1 : Int) else 0) = 1 := if_pos (by omega)
             have eS : rsS2 (A0 26) (F0 25 20) (psF F0) = fiP (goM (A0 26) (F0 25 20) (psF F0)) 1 (-11) := by unfold rsS2; rw [e1]
             have eW : rsW (A0 26) (F0 25 20) (psF F0) = 0 := by unfold rsW; rw [eS]; exact if_neg (by assumption)
             have eY : (if x_and (x_shr (F0 25 30) (rsW (A0 26) (F0 25 20) (psF F0))) 1 = 1 then (1 : Int) else 0) = 0 := if_neg (by rw [eW]; (try simp only [fiP_22]); assumption)
             have eT : rsS3 (A0 26) (F0 25 20) (F0 25 30) (psF F0) = fiP (fiP (goM (A0 26) (F0 25 20) (psF F0)) 1 (-11)) 0 (-13) := by unfold rsS3; rw [eY, eS]
             refine ⟨?_, ?_⟩
             · rw [eW]; (try simp only [fiP_22])
             · rw [eT, eW]; simp only [psS_S, fiP_22])
          | (have e1 : (if (¬ (goM (A0 26) (F0 25 20) (psF F0)).2.2.2.2.1 = 0) ∨ (goM (A0 26) (F0 25 20) (psF F0)).2.2.2.2.2 < 3 then (1 : Int) else 0) = 1 := if_pos (by omega)
             have eS : rsS2 (A0 26) (F0 25 20) (psF F0) = fiP (goM (A0 26) (F0 25 20) (psF F0)) 1 (-11) := by unfold rsS2; rw [e1]
             have eW : rsW (A0 26) (F0 25 20) (psF F0) = 0 := by unfold rsW; rw [eS]; exact if_neg (by assumption)
             have eY : (if x_and (x_shr (F0 25 30) (rsW (A0 26) (F0 25 20) (psF F0))) 1 = 1 then (1 : Int) else 0) = 1 := if_pos (by rw [eW]; (try simp only [fiP_22]); assumption)
             have eT : rsS3 (A0 26) (F0 25 20) (F0 25 30) (psF F0) = fiP (fiP (goM (A0 26) (F0 25 20) (psF F0)) 1 (-11)) 1 (-13) := by unfold rsS3; rw [eY, eS]
             refine ⟨?_, ?_⟩
             · rw [eW]; (try simp only [fiP_22])
             · rw [eT, eW]; simp only [psS_S, fiP_22])
          | (have e1 : (if (¬ (goM (A0 26) (F0 25 20) (psF F0)).2.2.2.2.1 = 0) ∨ (goM (A0 26) (F0 25 20) (psF F0)).2.2.2.2.2 < 3 then (1 : Int) else 0) = 1 := if_pos (by omega)
             have eS : rsS2 (A0 26) (F0 25 20) (psF F0) = fiP (goM (A0 26) (F0 25 20) (psF F0)) 1 (-11) := by unfold rsS2; rw [e1]
             have eW : rsW (A0 26) (F0 25 20) (psF F0) = (goM (A0 26) (F0 25 20) (psF F0)).2.2.2.2.2 - 3 := by unfold rsW; rw [eS]; exact if_pos (by assumption)
             have eY : (if x_and (x_shr (F0 25 30) (rsW (A0 26) (F0 25 20) (psF F0))) 1 = 1 then (1 : Int) else 0) = 0 := if_neg (by rw [eW]; (try simp only [fiP_22]); assumption)
             have eT : rsS3 (A0 26) (F0 25 20) (F0 25 30) (psF F0) = fiP (fiP (goM (A0 26) (F0 25 20) (psF F0)) 1 (-11)) 0 (-13) := by unfold rsS3; rw [eY, eS]
             refine ⟨?_, ?_⟩
             · rw [eW]; (try simp only [fiP_22])
             · rw [eT, eW]; simp only [psS_S, fiP_22])
          | (have e1 : (if (¬ (goM (A0 26) (F0 25 20) (psF F0)).2.2.2.2.1 = 0) ∨ (goM (A0 26) (F0 25 20) (psF F0)).2.2.2.2.2 < 3 then (1 : Int) else 0) = 1 := if_pos (by omega)
             have eS : rsS2 (A0 26) (F0 25 20) (psF F0) = fiP (goM (A0 26) (F0 25 20) (psF F0)) 1 (-11) := by unfold rsS2; rw [e1]
             have eW : rsW (A0 26) (F0 25 20) (psF F0) = (goM (A0 26) (F0 25 20) (psF F0)).2.2.2.2.2 - 3 := by unfold rsW; rw [eS]; exact if_pos (by assumption)
             have eY : (if x_and (x_shr (F0 25 30) (rsW (A0 26) (F0 25 20) (psF F0))) 1 = 1 then (1 : Int) else 0) = 1 := if_pos (by rw [eW]; (try simp only [fiP_22]); assumption)
             have eT : rsS3 (A0 26) (F0 25 20) (F0 25 30) (psF F0) = fiP (fiP (goM (A0 26) (F0 25 20) (psF F0)) 1 (-11)) 1 (-13) := by unfold rsS3; rw [eY, eS]
             refine ⟨?_, ?_⟩
             · rw [eW]; (try simp only [fiP_22])
             · rw [eT, eW]; simp only [psS_S, fiP_22])
      · skip
        (try rw [w32_id (x := x_and _ 1) (x_and_r _ _).1 (x_and_r _ _).2, w32_id (x := 1) (by decide) (by decide)] at c3); (try simp only [fiP_22, inS_22, nmS_22, psF_e, psF_q, psF_p, psF_o, psF_t, psF_v] at c3); (try simp (disch := omega) only [w32_0, wbi0, Classical.not_not, w32_id] at c3)
        refine ⟨fun c4 => ?_, fun c4 => ?_⟩
        · skip
          (try rw [w32_id (x := x_and _ 1) (x_and_r _ _).1 (x_and_r _ _).2, w32_id (x := 1) (by decide) (by decide)] at c4); (try simp only [fiP_22, inS_22, nmS_22, psF_e, psF_q, psF_p, psF_o, psF_t, psF_v] at c4); (try simp (disch := omega) only [w32_0, wbi0, Classical.not_not, w32_id] at c4)
          refine ⟨by first | exact ⟨pt, pn, pk⟩ | exact ⟨Or.inl rfl, by omega, by omega⟩ | exact ⟨Or.inr rfl, by omega, by omega⟩, ?_⟩
          refine ⟨rfl, rfl, ?_⟩
          (try simp only [fiP_22])
          first
          | (have e1 : (if (¬ (goM (A0 26) (F0 25 20) (psF F0)).2.2.2.2.1 = 0) ∨ (goM (A0 26) (F0 25 20) (psF F0)).2.2.2.2.2 < 3 then (1 : Int) else 0) = 0 := if_neg (by omega)
             have eS : rsS2 (A0 26) (F0 25 20) (psF F0) = fiP (goM (A0 26) (F0 25 20) (psF F0)) 0 (-11) := by unfold rsS2; rw [e1]
             have eW : rsW (A0 26) (F0 25 20) (psF F0) = 0 := by unfold rsW; rw [eS]; exact if_neg (by assumption)
             have eY : (if x_and (x_shr (F0 25 30) (rsW (A0 26) (F0 25 20) (psF F0))) 1 = 1 then (1 : Int) else 0) = 0 := if_neg (by rw [eW]; (try simp only [fiP_22]); assumption)
             have eT : rsS3 (A0 26) (F0 25 20) (F0 25 30) (psF F0) = fiP (fiP (goM (A0 26) (F0 25 20) (psF F0)) 0 (-11)) 0 (-13) := by unfold rsS3; rw [eY, eS]
             refine ⟨?_, ?_⟩
             · rw [eW]; (try simp only [fiP_22])
             · rw [eT, eW]; simp only [psS_S, fiP_22])
          | (have e1 : (if (¬ (goM (A0 26) (F0 25 20) (psF F0)).2.2.2.2.1 = 0) ∨ (goM (A0 26) (F0 25 20) (psF F0)).2.2.2.2.2 < 3 then (1 : Int) else 0) = 0 := if_neg (by omega)
             have eS : rsS2 (A0 26) (F0 25 20) (psF F0) = fiP (goM (A0 26) (F0 25 20) (psF F0)) 0 (-11) := by unfold rsS2; rw [e1]
             have eW : rsW (A0 26) (F0 25 20) (psF F0) = 0 := by unfold rsW; rw [eS]; exact if_neg (by assumption)
             have eY : (if x_and (x_shr (F0 25 30) (rsW (A0 26) (F0 25 20) (psF F0))) 1 = 1 then (1 : Int) else 0) = 1 := if_pos (by rw [eW]; (try simp only [fiP_22]); assumption)
             have eT : rsS3 (A0 26) (F0 25 20) (F0 25 30) (psF F0) = fiP (fiP (goM (A0 26) (F0 25 20) (psF F0)) 0 (-11)) 1 (-13) := by unfold rsS3; rw [eY, eS]
             refine ⟨?_, ?_⟩
             · rw [eW]; (try simp only [fiP_22])
             · rw [eT, eW]; simp only [psS_S, fiP_22])
          | (have e1 : (if (¬ (goM (A0 26) (F0 25 20) (psF F0)).2.2.2.2.1 = 0) ∨ (goM (A0 26) (F0 25 20) (psF F0)).2.2.2.2.2 < 3 then (1 : Int) else 0) = 0 := if_neg (by omega)
             have eS : rsS2 (A0 26) (F0 25 20) (psF F0) = fiP (goM (A0 26) (F0 25 20) (psF F0)) 0 (-11) := by unfold rsS2; rw [e1]
             have eW : rsW (A0 26) (F0 25 20) (psF F0) = (goM (A0 26) (F0 25 20) (psF F0)).2.2.2.2.2 - 3 := by unfold rsW; rw [eS]; exact if_pos (by assumption)
             have eY : (if x_and (x_shr (F0 25 30) (rsW (A0 26) (F0 25 20) (psF F0))) 1 = 1 then (1 : Int) else 0) = 0 := if_neg (by rw [eW]; (try simp only [fiP_22]); assumption)
             have eT : rsS3 (A0 26) (F0 25 20) (F0 25 30) (psF F0) = fiP (fiP (goM (A0 26) (F0 25 20) (psF F0)) 0 (-11)) 0 (-13) := by unfold rsS3; rw [eY, eS]
             refine ⟨?_, ?_⟩
             · rw [eW]; (try simp only [fiP_22])
             · rw [eT, eW]; simp only [psS_S, fiP_22])
          | (have e1 : (if (¬ (goM (A0 26) (F0 25 20) (psF F0)).2.2.2.2.1 = 0) ∨ (goM (A0 26) (F0 25 20) (psF F0)).2.2.2.2.2 < 3 then (1 : Int) else 0) = 0 := if_neg (by omega)
             have eS : rsS2 (A0 26) (F0 25 20) (psF F0) = fiP (goM (A0 26) (F0 25 20) (psF F0)) 0 (-11) := by unfold rsS2; rw [e1]
             have eW : rsW (A0 26) (F0 25 20) (psF F0) = (goM (A0 26) (F0 25 20) (psF F0)).2.2.2.2.2 - 3 := by unfold rsW; rw [eS]; exact if_pos (by assumption)
             have eY : (if x_and (x_shr (F0 25 30) (rsW (A0 26) (F0 25 20) (psF F0))) 1 = 1 then (1 : Int) else 0) = 1 := if_pos (by rw [eW]; (try simp only [fiP_22]); assumption)
             have eT : rsS3 (A0 26) (F0 25 20) (F0 25 30) (psF F0) = fiP (fiP (goM (A0 26) (F0 25 20) (psF F0)) 0 (-11)) 1 (-13) := by unfold rsS3; rw [eY, eS]
             refine ⟨?_, ?_⟩
             · rw [eW]; (try simp only [fiP_22])
             · rw [eT, eW]; simp only [psS_S, fiP_22])
          | (have e1 : (if (¬ (goM (A0 26) (F0 25 20) (psF F0)).2.2.2.2.1 = 0) ∨ (goM (A0 26) (F0 25 20) (psF F0)).2.2.2.2.2 < 3 then (1 : Int) else 0) = 1 := if_pos (by omega)
             have eS : rsS2 (A0 26) (F0 25 20) (psF F0) = fiP (goM (A0 26) (F0 25 20) (psF F0)) 1 (-11) := by unfold rsS2; rw [e1]
             have eW : rsW (A0 26) (F0 25 20) (psF F0) = 0 := by unfold rsW; rw [eS]; exact if_neg (by assumption)
             have eY : (if x_and (x_shr (F0 25 30) (rsW (A0 26) (F0 25 20) (psF F0))) 1 = 1 then (1 : Int) else 0) = 0 := if_neg (by rw [eW]; (try simp only [fiP_22]); assumption)
             have eT : rsS3 (A0 26) (F0 25 20) (F0 25 30) (psF F0) = fiP (fiP (goM (A0 26) (F0 25 20) (psF F0)) 1 (-11)) 0 (-13) := by unfold rsS3; rw [eY, eS]
             refine ⟨?_, ?_⟩
             · rw [eW]; (try simp only [fiP_22])
             · rw [eT, eW]; simp only [psS_S, fiP_22])
          | (have e1 : (if (¬ (goM (A0 26) (F0 25 20) (psF F0)).2.2.2.2.1 = 0) ∨ (goM (A0 26) (F0 25 20) (psF F0)).2.2.2.2.2 < 3 then (1 : Int) else 0) = 1 := if_pos (by omega)
             have eS : rsS2 (A0 26) (F0 25 20) (psF F0) = fiP (goM (A0 26) (F0 25 20) (psF F0)) 1 (-11) := by unfold rsS2; rw [e1]
             have eW : rsW (A0 26) (F0 25 20) (psF F0) = 0 := by unfold rsW; rw [eS]; exact if_neg (by assumption)
             have eY : (if x_and (x_shr (F0 25 30) (rsW (A0 26) (F0 25 20) (psF F0))) 1 = 1 then (1 : Int) else 0) = 1 := if_pos (by rw [eW]; (try simp only [fiP_22]); assumption)
             have eT : rsS3 (A0 26) (F0 25 20) (F0 25 30) (psF F0) = fiP (fiP (goM (A0 26) (F0 25 20) (psF F0)) 1 (-11)) 1 (-13) := by unfold rsS3; rw [eY, eS]
             refine ⟨?_, ?_⟩
             · rw [eW]; (try simp only [fiP_22])
             · rw [eT, eW]; simp only [psS_S, fiP_22])
          | (have e1 : (if (¬ (goM (A0 26) (F0 25 20) (psF F0)).2.2.2.2.1 = 0) ∨ (goM (A0 26) (F0 25 20) (psF F0)).2.2.2.2.2 < 3 then (1 : Int) else 0) = 1 := if_pos (by omega)
             have eS : rsS2 (A0 26) (F0 25 20) (psF F0) = fiP (goM (A0 26) (F0 25 20) (psF F0)) 1 (-11) := by unfold rsS2; rw [e1]
             have eW : rsW (A0 26) (F0 25 20) (psF F0) = (goM (A0 26) (F0 25 20) (psF F0)).2.2.2.2.2 - 3 := by unfold rsW; rw [eS]; exact if_pos (by assumption)
             have eY : (if x_and (x_shr (F0 25 30) (rsW (A0 26) (F0 25 20) (psF F0))) 1 = 1 then (1 : Int) else 0) = 0 := if_neg (by rw [eW]; (try simp only [fiP_22]); assumption)
             have eT : rsS3 (A0 26) (F0 25 20) (F0 25 30) (psF F0) = fiP (fiP (goM (A0 26) (F0 25 20) (psF F0)) 1 (-11)) 0 (-13) := by unfold rsS3; rw [eY, eS]
             refine ⟨?_, ?_⟩
             · rw [eW]; (try simp only [fiP_22])
             · rw [eT, eW]; simp only [psS_S, fiP_22])
          | (have e1 : (if (¬ (goM (A0 26) (F0 25 20) (psF F0)).2.2.2.2.1 = 0) ∨ (goM (A0 26) (F0 25 20) (psF F0)).2.2.2.2.2 < 3 then (1 : Int) else 0) = 1 := if_pos (by omega)
             have eS : rsS2 (A0 26) (F0 25 20) (psF F0) = fiP (goM (A0 26) (F0 25 20) (psF F0)) 1 (-11) := by unfold rsS2; rw [e1]
             have eW : rsW (A0 26) (F0 25 20) (psF F0) = (goM (A0 26) (F0 25 20) (psF F0)).2.2.2.2.2 - 3 := by unfold rsW; rw [eS]; exact if_pos (by assumption)
             have eY : (if x_and (x_shr (F0 25 30) (rsW (A0 26) (F0 25 20) (psF F0))) 1 = 1 then (1 : Int) else 0) = 1 := if_pos (by rw [eW]; (try simp only [fiP_22]); assumption)
             have eT : rsS3 (A0 26) (F0 25 20) (F0 25 30) (psF F0) = fiP (fiP (goM (A0 26) (F0 25 20) (psF F0)) 1 (-11)) 1 (-13) := by unfold rsS3; rw [eY, eS]
             refine ⟨?_, ?_⟩
             · rw [eW]; (try simp only [fiP_22])
             · rw [eT, eW]; simp only [psS_S, fiP_22])
        · skip
          (try rw [w32_id (x := x_and _ 1) (x_and_r _ _).1 (x_and_r _ _).2, w32_id (x := 1) (by decide) (by decide)] at c4); (try simp only [fiP_22, inS_22, nmS_22, psF_e, psF_q, psF_p, psF_o, psF_t, psF_v] at c4); (try simp (disch := omega) only [w32_0, wbi0, Classical.not_not, w32_id] at c4)
          refine ⟨by first | exact ⟨pt, pn, pk⟩ | exact ⟨Or.inl rfl, by omega, by omega⟩ | exact ⟨Or.inr rfl, by omega, by omega⟩, ?_⟩
          refine ⟨rfl, rfl, ?_⟩
          (try simp only [fiP_22])
          first
          | (have e1 : (if (¬ (goM (A0 26) (F0 25 20) (psF F0)).2.2.2.2.1 = 0) ∨ (goM (A0 26) (F0 25 20) (psF F0)).2.2.2.2.2 < 3 then (1 : Int) else 0) = 0 := if_neg (by omega)
             have eS : rsS2 (A0 26) (F0 25 20) (psF F0) = fiP (goM (A0 26) (F0 25 20) (psF F0)) 0 (-11) := by unfold rsS2; rw [e1]
             have eW : rsW (A0 26) (F0 25 20) (psF F0) = 0 := by unfold rsW; rw [eS]; exact if_neg (by assumption)
             have eY : (if x_and (x_shr (F0 25 30) (rsW (A0 26) (F0 25 20) (psF F0))) 1 = 1 then (1 : Int) else 0) = 0 := if_neg (by rw [eW]; (try simp only [fiP_22]); assumption)
             have eT : rsS3 (A0 26) (F0 25 20) (F0 25 30) (psF F0) = fiP (fiP (goM (A0 26) (F0 25 20) (psF F0)) 0 (-11)) 0 (-13) := by unfold rsS3; rw [eY, eS]
             refine ⟨?_, ?_⟩
             · rw [eW]; (try simp only [fiP_22])
             · rw [eT, eW]; simp only [psS_S, fiP_22])
          | (have e1 : (if (¬ (goM (A0 26) (F0 25 20) (psF F0)).2.2.2.2.1 = 0) ∨ (goM (A0 26) (F0 25 20) (psF F0)).2.2.2.2.2 < 3 then (1 : Int) else 0) = 0 := if_neg (by omega)
             have eS : rsS2 (A0 26) (F0 25 20) (psF F0) = fiP (goM (A0 26) (F0 25 20) (psF F0)) 0 (-11) := by unfold rsS2; rw [e1]
             have eW : rsW (A0 26) (F0 25 20) (psF F0) = 0 := by unfold rsW; rw [eS]; exact if_neg (by assumption)
             have eY : (if x_and (x_shr (F0 25 30) (rsW (A0 26) (F0 25 20) (psF F0))) 1 = 1 then (1 : Int) else 0) = 1 := if_pos (by rw [eW]; (try simp only [fiP_22]); assumption)
             have eT : rsS3 (A0 26) (F0 25 20) (F0 25 30) (psF F0) = fiP (fiP (goM (A0 26) (F0 25 20) (psF F0)) 0 (-11)) 1 (-13) := by unfold rsS3; rw [eY, eS]
             refine ⟨?_, ?_⟩
             · rw [eW]; (try simp only [fiP_22])
             · rw [eT, eW]; simp only [psS_S, fiP_22])
          | (have e1 : (if (¬ (goM (A0 26) (F0 25 20) (psF F0)).2.2.2.2.1 = 0) ∨ (goM (A0 26) (F0 25 20) (psF F0)).2.2.2.2.2 < 3 then (1 : Int) else 0) = 0 := if_neg (by omega)
             have eS : rsS2 (A0 26) (F0 25 20) (psF F0) = fiP (goM (A0 26) (F0 25 20) (psF F0)) 0 (-11) := by unfold rsS2; rw [e1]
             have eW : rsW (A0 26) (F0 25 20) (psF F0) = (goM (A0 26) (F0 25 20) (psF F0)).2.2.2.2.2 - 3 := by unfold rsW; rw [eS]; exact if_pos (by assumption)
             have eY : (if x_and (x_shr (F0 25 30) (rsW (A0 26) (F0 25 20) (psF F0))) 1 = 1 then (1 : Int) else 0) = 0 := if_neg (by rw [eW]; (try simp only [fiP_22]); assumption)
             have eT : rsS3 (A0 26) (F0 25 20) (F0 25 30) (psF F0) = fiP (fiP (goM (A0 26) (F0 25 20) (psF F0)) 0 (-11)) 0 (-13) := by unfold rsS3; rw [eY, eS]
             refine ⟨?_, ?_⟩
             · rw [eW]; (try simp only [fiP_22])
             · rw [eT, eW]; simp only [psS_S, fiP_22])
          | (have e1 : (if (¬ (goM (A0 26) (F0 25 20) (psF F0)).2.2.2.2.1 = 0) ∨ (goM (A0 26) (F0 25 20) (psF F0)).2.2.2.2.2 < 3 then (1 : Int) else 0) = 0 := if_neg (by omega)
             have eS : rsS2 (A0 26) (F0 25 20) (psF F0) = fiP (goM (A0 26) (F0 25 20) (psF F0)) 0 (-11) := by unfold rsS2; rw [e1]
             have eW : rsW (A0 26) (F0 25 20) (psF F0) = (goM (A0 26) (F0 25 20) (psF F0)).2.2.2.2.2 - 3 := by unfold rsW; rw [eS]; exact if_pos (by assumption)
             have eY : (if x_and (x_shr (F0 25 30) (rsW (A0 26) (F0 25 20) (psF F0))) 1 = 1 then (1 : Int) else 0) = 1 := if_pos (by rw [eW]; (try simp only [fiP_22]); assumption)
             have eT : rsS3 (A0 26) (F0 25 20) (F0 25 30) (psF F0) = fiP (fiP (goM (A0 26) (F0 25 20) (psF F0)) 0 (-11)) 1 (-13) := by unfold rsS3; rw [eY, eS]
             refine ⟨?_, ?_⟩
             · rw [eW]; (try simp only [fiP_22])
             · rw [eT, eW]; simp only [psS_S, fiP_22])
          | (have e1 : (if (¬ (goM (A0 26) (F0 25 20) (psF F0)).2.2.2.2.1 = 0) ∨ (goM (A0 26) (F0 25 20) (psF F0)).2.2.2.2.2 < 3 then (1 : Int) else 0) = 1 := if_pos (by omega)
             have eS : rsS2 (A0 26) (F0 25 20) (psF F0) = fiP (goM (A0 26) (F0 25 20) (psF F0)) 1 (-11) := by unfold rsS2; rw [e1]
             have eW : rsW (A0 26) (F0 25 20) (psF F0) = 0 := by unfold rsW; rw [eS]; exact if_neg (by assumption)
             have eY : (if x_and (x_shr (F0 25 30) (rsW (A0 26) (F0 25 20) (psF F0))) 1 = 1 then (1 : Int) else 0) = 0 := if_neg (by rw [eW]; (try simp only [fiP_22]); assumption)
             have eT : rsS3 (A0 26) (F0 25 20) (F0 25 30) (psF F0) = fiP (fiP (goM (A0 26) (F0 25 20) (psF F0)) 1 (-11)) 0 (-13) := by unfold rsS3; rw [eY, eS]
             refine ⟨?_, ?_⟩
             · rw [eW]; (try simp only [fiP_22])
             · rw [eT, eW]; simp only [psS_S, fiP_22])
          | (have e1 : (if (¬ (goM (A0 26) (F0 25 20) (psF F0)).2.2.2.2.1 = 0) ∨ (goM (A0 26) (F0 25 20) (psF F0)).2.2.2.2.2 < 3 then (1 : Int) else 0) = 1 := if_pos (by omega)
             have eS : rsS2 (A0 26) (F0 25 20) (psF F0) = fiP (goM (A0 26) (F0 25 20) (psF F0)) 1 (-11) := by unfold rsS2; rw [e1]
             have eW : rsW (A0 26) (F0 25 20) (psF F0) = 0 := by unfold rsW; rw [eS]; exact if_neg (by assumption)
             have eY : (if x_and (x_shr (F0 25 30) (rsW (A0 26) (F0 25 20) (psF F0))) 1 = 1 then (1 : Int) else 0) = 1 := if_pos (by rw [eW]; (try simp only [fiP_22]); assumption)
             have eT : rsS3 (A0 26) (F0 25 20) (F0 25 30) (psF F0) = fiP (fiP (goM (A0 26) (F0 25 20) (psF F0)) 1 (-11)) 1 (-13) := by unfold rsS3; rw [eY, eS]
             refine ⟨?_, ?_⟩
             · rw [eW]; (try simp only [fiP_22])
             · rw [eT, eW]; simp only [psS_S, fiP_22])
          | (have e1 : (if (¬ (goM (A0 26) (F0 25 20) (psF F0)).2.2.2.2.1 = 0) ∨ (goM (A0 26) (F0 25 20) (psF F0)).2.2.2.2.2 < 3 then (1 : Int) else 0) = 1 := if_pos (by omega)
             have eS : rsS2 (A0 26) (F0 25 20) (psF F0) = fiP (goM (A0 26) (F0 25 20) (psF F0)) 1 (-11) := by unfold rsS2; rw [e1]
             have eW : rsW (A0 26) (F0 25 20) (psF F0) = (goM (A0 26) (F0 25 20) (psF F0)).2.2.2.2.2 - 3 := by unfold rsW; rw [eS]; exact if_pos (by assumption)
             have eY : (if x_and (x_shr (F0 25 30) (rsW (A0 26) (F0 25 20) (psF F0))) 1 = 1 then (1 : Int) else 0) = 0 := if_neg (by rw [eW]; (try simp only [fiP_22]); assumption)
             have eT : rsS3 (A0 26) (F0 25 20) (F0 25 30) (psF F0) = fiP (fiP (goM (A0 26) (F0 25 20) (psF F0)) 1 (-11)) 0 (-13) := by unfold rsS3; rw [eY, eS]
             refine ⟨?_, ?_⟩
             · rw [eW]; (try simp only [fiP_22])
             · rw [eT, eW]; simp only [psS_S, fiP_22])
          | (have e1 : (if (¬ (goM (A0 26) (F0 25 20) (psF F0)).2.2.2.2.1 = 0) ∨ (goM (A0 26) (F0 25 20) (psF F0)).2.2.2.2.2 < 3 then (1 : Int) else 0) = 1 := if_pos (by omega)
             have eS : rsS2 (A0 26) (F0 25 20) (psF F0) = fiP (goM (A0 26) (F0 25 20) (psF F0)) 1 (-11) := by unfold rsS2; rw [e1]
             have eW : rsW (A0 26) (F0 25 20) (psF F0) = (goM (A0 26) (F0 25 20) (psF F0)).2.2.2.2.2 - 3 := by unfold rsW; rw [eS]; exact if_pos (by assumption)
             have eY : (if x_and (x_shr (F0 25 30) (rsW (A0 26) (F0 25 20) (psF F0))) 1 = 1 then (1 : Int) else 0) = 1 := if_pos (by rw [eW]; (try simp only [fiP_22]); assumption)
             have eT : rsS3 (A0 26) (F0 25 20) (F0 25 30) (psF F0) = fiP (fiP (goM (A0 26) (F0 25 20) (psF F0)) 1 (-11)) 1 (-13) := by unfold rsS3; rw [eY, eS]
             refine ⟨?_, ?_⟩
             · rw [eW]; (try simp only [fiP_22])
             · rw [eT, eW]; simp only [psS_S, fiP_22])
    · skip
      (try rw [w32_id (x := x_and _ 1) (x_and_r _ _).1 (x_and_r _ _).2, w32_id (x := 1) (by decide) (by decide)] at c2); (try simp only [fiP_22, inS_22, nmS_22, psF_e, psF_q, psF_p, psF_o, psF_t, psF_v] at c2); (try simp (disch := omega) only [w32_0, wbi0, Classical.not_not, w32_id] at c2)
      refine ⟨by first | exact ⟨pt, pn, pk⟩ | exact ⟨Or.inl rfl, by omega, by omega⟩ | exact ⟨Or.inr rfl, by omega, by omega⟩, ?_⟩
      refine ⟨fun c3 => ?_, fun c3 => ?_⟩
      · skip
        (try rw [w32_id (x := x_and _ 1) (x_and_r _ _).1 (x_and_r _ _).2, w32_id (x := 1) (by decide) (by decide)] at c3); (try simp only [fiP_22, inS_22, nmS_22, psF_e, psF_q, psF_p, psF_o, psF_t, psF_v] at c3); (try simp (disch := omega) only [w32_0, wbi0, Classical.not_not, w32_id] at c3)
        refine ⟨fun c4 => ?_, fun c4 => ?_⟩
        · skip
          (try rw [w32_id (x := x_and _ 1) (x_and_r _ _).1 (x_and_r _ _).2, w32_id (x := 1) (by decide) (by decide)] at c4); (try simp only [fiP_22, inS_22, nmS_22, psF_e, psF_q, psF_p, psF_o, psF_t, psF_v] at c4); (try simp (disch := omega) only [w32_0, wbi0, Classical.not_not, w32_id] at c4)
          refine ⟨by first | exact ⟨pt, pn, pk⟩ | exact ⟨Or.inl rfl, by omega, by omega⟩ | exact ⟨Or.inr rfl, by omega, by omega⟩, ?_⟩
          refine ⟨rfl, rfl, ?_⟩
          (try simp only [fiP_22])
          first
          | (have e1 : (if (¬ (goM (A0 26) (F0 25 20) (psF F0)).2.2.2.2.1 = 0) ∨ (goM (A0 26) (F0 25 20) (psF F0)).2.2.2.2.2 < 3 then (1 : Int) else 0) = 0 := if_neg (by omega)
             have eS : rsS2 (A0 26) (F0 25 20) (psF F0) = fiP (goM (A0 26) (F0 25 20) (psF F0)) 0 (-11) := by unfold rsS2; rw [e1]
             have eW : rsW (A0 26) (F0 25 20) (psF F0) = 0 := by unfold rsW; rw [eS]; exact if_neg (by assumption)
             have eY : (if x_and (x_shr (F0 25 30) (rsW (A0 26) (F0 25 20) (psF F0))) 1 = 1 then (1 : Int) else 0) = 0 := if_neg (by rw [eW]; (try simp only [fiP_22]); assumption)
             have eT : rsS3 (A0 26) (F0 25 20) (F0 25 30) (psF F0) = fiP (fiP (goM (A0 26) (F0 25 20) (psF F0)) 0 (-11)) 0 (-13) := by unfold rsS3; rw [eY, eS]
             refine ⟨?_, ?_⟩
             · rw [eW]; (try simp only [fiP_22])
             · rw [eT, eW]; simp only [psS_S, fiP_22])
          | (have e1 : (if (¬ (goM (A0 26) (F0 25 20) (psF F0)).2.2.2.2.1 = 0) ∨ (goM (A0 26) (F0 25 20) (psF F0)).2.2.2.2.2 < 3 then (1 : Int) else 0) = 0 := if_neg (by omega)
             have eS : rsS2 (A0 26) (F0 25 20) (psF F0) = fiP (goM (A0 26) (F0 25 20) (psF F0)) 0 (-11) := by unfold rsS2; rw [e1]
             have eW : rsW (A0 26) (F0 25 20) (psF F0) = 0 := by unfold rsW; rw [eS]; exact if_neg (by assumption)
             have eY : (if x_and (x_shr (F0 25 30) (rsW (A0 26) (F0 25 20) (psF F0))) 1 = 1 then (1 : Int) else 0) = 1 := if_pos (by rw [eW]; (try simp only [fiP_22]); assumption)
             have eT : rsS3 (A0 26) (F0 25 20) (F0 25 30) (psF F0) = fiP (fiP (goM (A0 26) (F0 25 20) (psF F0)) 0 (-11)) 1 (-13) := by unfold rsS3; rw [eY, eS]
             refine ⟨?_, ?_⟩
             · rw [eW]; (try simp only [fiP_22])
             · rw [eT, eW]; simp only [psS_S, fiP_22])
          | (have e1 : (if (¬ (goM (A0 26) (F0 25 20) (psF F0)).2.2.2.2.1 = 0) ∨ (goM (A0 26) (F0 25 20) (psF F0)).2.2.2.2.2 < 3 then (1 : Int) else 0) = 0 := if_neg (by omega)
             have eS : rsS2 (A0 26) (F0 25 20) (psF F0) = fiP (goM (A0 26) (F0 25 20) (psF F0)) 0 (-11) := by unfold rsS2; rw [e1]
             have eW : rsW (A0 26) (F0 25 20) (psF F0) = (goM (A0 26) (F0 25 20) (psF F0)).2.2.2.2.2 - 3 := by unfold rsW; rw [eS]; exact if_pos (by assumption)
             have eY : (if x_and (x_shr (F0 25 30) (rsW (A0 26) (F0 25 20) (psF F0))) 1 = 1 then (1 : Int) else 0) = 0 := if_neg (by rw [eW]; (try simp only [fiP_22]); assumption)
             have eT : rsS3 (A0 26) (F0 25 20) (F0 25 30) (psF F0) = fiP (fiP (goM (A0 26) (F0 25 20) (psF F0)) 0 (-11)) 0 (-13) := by unfold rsS3; rw [eY, eS]
             refine ⟨?_, ?_⟩
             · rw [eW]; (try simp only [fiP_22])
             · rw [eT, eW]; simp only [psS_S, fiP_22])
          | (have e1 : (if (¬ (goM (A0 26) (F0 25 20) (psF F0)).2.2.2.2.1 = 0) ∨ (goM (A0 26) (F0 25 20) (psF F0)).2.2.2.2.2 < 3 then (1 : Int) else 0) = 0 := if_neg (by omega)
             have eS : rsS2 (A0 26) (F0 25 20) (psF F0) = fiP (goM (A0 26) (F0 25 20) (psF F0)) 0 (-11) := by unfold rsS2; rw [e1]
             have eW : rsW (A0 26) (F0 25 20) (psF F0) = (goM (A0 26) (F0 25 20) (psF F0)).2.2.2.2.2 - 3 := by unfold rsW; rw [eS]; exact if_pos (by assumption)
             have eY : (if x_and (x_shr (F0 25 30) (rsW (A0 26) (F0 25 20) (psF F0))) 1 = 1 then (1 : Int) else 0) = 1 := if_pos (by rw [eW]; (try simp only [fiP_22]); assumption)
             have eT : rsS3 (A0 26) (F0 25 20) (F0 25 30) (psF F0) = fiP (fiP (goM (A0 26) (F0 25 20) (psF F0)) 0 (-11)) 1 (-13) := by unfold rsS3; rw [eY, eS]
             refine ⟨?_, ?_⟩
             · rw [eW]; (try simp only [fiP_22])
             · rw [eT, eW]; simp only [psS_S, fiP_22])
          | (have e1 : (if (¬ (goM (A0 26) (F0 25 20) (psF F0)).2.2.2.2.1 = 0) ∨ (goM (A0 26) (F0 25 20) (psF F0)).2.2.2.2.2 < 3 then (1 : Int) else 0) = 1 := if_pos (by omega)
             have eS : rsS2 (A0 26) (F0 25 20) (psF F0) = fiP (goM (A0 26) (F0 25 20) (psF F0)) 1 (-11) := by unfold rsS2; rw [e1]
             have eW : rsW (A0 26) (F0 25 20) (psF F0) = 0 := by unfold rsW; rw [eS]; exact if_neg (by assumption)
             have eY : (if x_and (x_shr (F0 25 30) (rsW (A0 26) (F0 25 20) (psF F0))) 1 = 1 then (1 : Int) else 0) = 0 := if_neg (by rw [eW]; (try simp only [fiP_22]); assumption)
             have eT : rsS3 (A0 26) (F0 25 20) (F0 25 30) (psF F0) = fiP (fiP (goM (A0 26) (F0 25 20) (psF F0)) 1 (-11)) 0 (-13) := by unfold rsS3; rw [eY, eS]
             refine ⟨?_, ?_⟩
             · rw [eW]; (try simp only [fiP_22])
             · rw [eT, eW]; simp only [psS_S, fiP_22])
          | (have e1 : (if (¬ (goM (A0 26) (F0 25 20) (psF F0)).2.2.2.2.1 = 0) ∨ (goM (A0 26) (F0 25 20) (psF F0)).2.2.2.2.2 < 3 then (1 : Int) else 0) = 1 := if_pos (by omega)
             have eS : rsS2 (A0 26) (F0 25 20) (psF F0) = fiP (goM (A0 26) (F0 25 20) (psF F0)) 1 (-11) := by unfold rsS2; rw [e1]
             have eW : rsW (A0 26) (F0 25 20) (psF F0) = 0 := by unfold rsW; rw [eS]; exact if_neg (by assumption)
             have eY : (if x_and (x_shr (F0 25 30) (rsW (A0 26) (F0 25 20) (psF F0))) 1 = 1 then (1 : Int) else 0) = 1 := if_pos (by rw [eW]; (try simp only [fiP_22]); assumption)
             have eT : rsS3 (A0 26) (F0 25 20) (F0 25 30) (psF F0) = fiP (fiP (goM (A0 26) (F0 25 20) (psF F0)) 1 (-11)) 1 (-13) := by unfold rsS3; rw [eY, eS]
             refine ⟨?_, ?_⟩
             · rw [eW]; (try simp only [fiP_22])
             · rw [eT, eW]; simp only [psS_S, fiP_22])
          | (have e1 : (if (¬ (goM (A0 26) (F0 25 20) (psF F0)).2.2.2.2.1 = 0) ∨ (goM (A0 26) (F0 25 20) (psF F0)).2.2.2.2.2 < 3 then (1 : Int) else 0) = 1 := if_pos (by omega)
             have eS : rsS2 (A0 26) (F0 25 20) (psF F0) = fiP (goM (A0 26) (F0 25 20) (psF F0)) 1 (-11) := by unfold rsS2; rw [e1]
             have eW : rsW (A0 26) (F0 25 20) (psF F0) = (goM (A0 26) (F0 25 20) (psF F0)).2.2.2.2.2 - 3 := by unfold rsW; rw [eS]; exact if_pos (by assumption)
             have eY : (if x_and (x_shr (F0 25 30) (rsW (A0 26) (F0 25 20) (psF F0))) 1 = 1 then (1 : Int) else 0) = 0 := if_neg (by rw [eW]; (try simp only [fiP_22]); assumption)
             have eT : rsS3 (A0 26) (F0 25 20) (F0 25 30) (psF F0) = fiP (fiP (goM (A0 26) (F0 25 20) (psF F0)) 1 (-11)) 0 (-13) := by unfold rsS3; rw [eY, eS]
             refine ⟨?_, ?_⟩
             · rw [eW]; (try simp only [fiP_22])
             · rw [eT, eW]; simp only [psS_S, fiP_22])
          | (have e1 : (if (¬ (goM (A0 26) (F0 25 20) (psF F0)).2.2.2.2.1 = 0) ∨ (goM (A0 26) (F0 25 20) (psF F0)).2.2.2.2.2 < 3 then (1 : Int) else 0) = 1 := if_pos (by omega)
             have eS : rsS2 (A0 26) (F0 25 20) (psF F0) = fiP (goM (A0 26) (F0 25 20) (psF F0)) 1 (-11) := by unfold rsS2; rw [e1]
             have eW : rsW (A0 26) (F0 25 20) (psF F0) = (goM (A0 26) (F0 25 20) (psF F0)).2.2.2.2.2 - 3 := by unfold rsW; rw [eS]; exact if_pos (by assumption)
             have eY : (if x_and (x_shr (F0 25 30) (rsW (A0 26) (F0 25 20) (psF F0))) 1 = 1 then (1 : Int) else 0) = 1 := if_pos (by rw [eW]; (try simp only [fiP_22]); assumption)
             have eT : rsS3 (A0 26) (F0 25 20) (F0 25 30) (psF F0) = fiP (fiP (goM (A0 26) (F0 25 20) (psF F0)) 1 (-11)) 1 (-13) := by unfold rsS3; rw [eY, eS]
             refine ⟨?_, ?_⟩
             · rw [eW]; (try simp only [fiP_22])
             · rw [eT, eW]; simp only [psS_S, fiP_22])
        · skip
          (try rw [w32_id (x := x_and _ 1) (x_and_r _ _).1 (x_and_r _ _).2, w32_id (x := 1) (by decide) (by decide)] at c4); (try simp only [fiP_22, inS_22, nmS_22, psF_e, psF_q, psF_p, psF_o, psF_t, psF_v] at c4); (try simp (disch := omega) only [w32_0, wbi0, Classical.not_not, w32_id] at c4)
          refine ⟨by first | exact ⟨pt, pn, pk⟩ | exact ⟨Or.inl rfl, by omega, by omega⟩ | exact ⟨Or.inr rfl, by omega, by omega⟩, ?_⟩
          refine ⟨rfl, rfl, ?_⟩
          (try simp only [fiP_22])
          first
          | (have e1 : (if (¬ (goM (A0 26) (F0 25 20) (psF F0)).2.2.2.2.1 = 0) ∨ (goM (A0 26) (F0 25 20) (psF F0)).2.2.2.2.2 < 3 then (1 : Int) else 0) = 0 := if_neg (by omega)
             have eS : rsS2 (A0 26) (F0 25 20) (psF F0) = fiP (goM (A0 26) (F0 25 20) (psF F0)) 0 (-11) := by unfold rsS2; rw [e1]
             have eW : rsW (A0 26) (F0 25 20) (psF F0) = 0 := by unfold rsW; rw [eS]; exact if_neg (by assumption)
             have eY : (if x_and (x_shr (F0 25 30) (rsW (A0 26) (F0 25 20) (psF F0))) 1 = 1 then (1 : Int) else 0) = 0 := if_neg (by rw [eW]; (try simp only [fiP_22]); assumption)
             have eT : rsS3 (A0 26) (F0 25 20) (F0 25 30) (psF F0) = fiP (fiP (goM (A0 26) (F0 25 20) (psF F0)) 0 (-11)) 0 (-13) := by unfold rsS3; rw [eY, eS]
             refine ⟨?_, ?_⟩
             · rw [eW]; (try simp only [fiP_22])
             · rw [eT, eW]; simp only [psS_S, fiP_22])
          | (have e1 : (if (¬ (goM (A0 26) (F0 25 20) (psF F0)).2.2.2.2.1 = 0) ∨ (goM (A0 26) (F0 25 20) (psF F0)).2.2.2.2.2 < 3 then (1 : Int) else 0) = 0 := if_neg (by omega)
             have eS : rsS2 (A0 26) (F0 25 20) (psF F0) = fiP (goM (A0 26) (F0 25 20) (psF F0)) 0 (-11) := by unfold rsS2; rw [e1]
             have eW : rsW (A0 26) (F0 25 20) (psF F0) = 0 := by unfold rsW; rw [eS]; exact if_neg (by assumption)
             have eY : (if x_and (x_shr (F0 25 30) (rsW (A0 26) (F0 25 20) (psF F0))) 1 = 1 then (1 : Int) else 0) = 1 := if_pos (by rw [eW]; (try simp only [fiP_22]); assumption)
             have eT : rsS3 (A0 26) (F0 25 20) (F0 25 30) (psF F0) = fiP (fiP (goM (A0 26) (F0 25 20) (psF F0)) 0 (-11)) 1 (-13) := by unfold rsS3; rw [eY, eS]
             refine ⟨?_, ?_⟩
             · rw [eW]; (try simp only [fiP_22])
             · rw [eT, eW]; simp only [psS_S, fiP_22])
          | (have e1 : (if (¬ (goM (A0 26) (F0 25 20) (psF F0)).2.2.2.2.1 = 0) ∨ (goM (A0 26) (F0 25 20) (psF F0)).2.2.2.2.2 < 3 then (1 : Int) else 0) = 0 := if_neg (by omega)
             have eS : rsS2 (A0 26) (F0 25 20) (psF F0) = fiP (goM (A0 26) (F0 25 20) (psF F0)) 0 (-11) := by unfold rsS2; rw [e1]
             have eW : rsW (A0 26) (F0 25 20) (psF F0) = (goM (A0 26) (F0 25 20) (psF F0)).2.2.2.2.2 - 3 := by unfold rsW; rw [eS]; exact if_pos (by assumption)
             have eY : (if x_and (x_shr (F0 25 30) (rsW (A0 26) (F0 25 20) (psF F0))) 1 = 1 then (1 : Int) else 0) = 0 := if_neg (by rw [eW]; (try simp only [fiP_22]); assumption)
             have eT : rsS3 (A0 26) (F0 25 20) (F0 25 30) (psF F0) = fiP (fiP (goM (A0 26) (F0 25 20) (psF F0)) 0 (-11)) 0 (-13) := by unfold rsS3; rw [eY, eS]
             refine ⟨?_, ?_⟩
             · rw [eW]; (try simp only [fiP_22])
             · rw [eT, eW]; simp only [psS_S, fiP_22])
          | (have e1 : (if (¬ (goM (A0 26) (F0 25 20) (psF F0)).2.2.2.2.1 = 0) ∨ (goM (A0 26) (F0 25 20) (psF F0)).2.2.2.2.2 < 3 then (1 : Int) else 0) = 0 := if_neg (by omega)
             have eS : rsS2 (A0 26) (F0 25 20) (psF F0) = fiP (goM (A0 26) (F0 25 20) (psF F0)) 0 (-11) := by unfold rsS2; rw [e1]
             have eW : rsW (A0 26) (F0 25 20) (psF F0) = (goM (A0 26) (F0 25 20) (psF F0)).2.2.2.2.2 - 3 := by unfold rsW; rw [eS]; exact if_pos (by assumption)
             have eY : (if x_and (x_shr (F0 25 30) (rsW (A0 26) (F0 25 20) (psF F0))) 1 = 1 then (1 : Int) else 0) = 1 := if_pos (by rw [eW]; (try simp only [fiP_22]); assumption)
             have eT : rsS3 (A0 26) (F0 25 20) (F0 25 30) (psF F0) = fiP (fiP (goM (A0 26) (F0 25 20) (psF F0)) 0 (-11)) 1 (-13) := by unfold rsS3; rw [eY, eS]
             refine ⟨?_, ?_⟩
             · rw [eW]; (try simp only [fiP_22])
             · rw [eT, eW]; simp only [psS_S, fiP_22])
          | (have e1 : (if (¬ (goM (A0 26) (F0 25 20) (psF F0)).2.2.2.2.1 = 0) ∨ (goM (A0 26) (F0 25 20) (psF F0)).2.2.2.2.2 < 3 then (1 : Int) else 0) = 1 := if_pos (by omega)
             have eS : rsS2 (A0 26) (F0 25 20) (psF F0) = fiP (goM (A0 26) (F0 25 20) (psF F0)) 1 (-11) := by unfold rsS2; rw [e1]
             have eW : rsW (A0 26) (F0 25 20) (psF F0) = 0 := by unfold rsW; rw [eS]; exact if_neg (by assumption)
             have eY : (if x_and (x_shr (F0 25 30) (rsW (A0 26) (F0 25 20) (psF F0))) 1 = 1 then (1 : Int) else 0) = 0 := if_neg (by rw [eW]; (try simp only [fiP_22]); assumption)
             have eT : rsS3 (A0 26) (F0 25 20) (F0 25 30) (psF F0) = fiP (fiP (goM (A0 26) (F0 25 20) (psF F0)) 1 (-11)) 0 (-13) := by unfold rsS3; rw [eY, eS]
             refine ⟨?_, ?_⟩
             · rw [eW]; (try simp only [fiP_22])
             · rw [eT, eW]; simp only [psS_S, fiP_22])
          | (have e1 : (if (¬ (goM (A0 26) (F0 25 20) (psF F0)).2.2.2.2.1 = 0) ∨ (goM (A0 26) (F0 25 20) (psF F0)).2.2.2.2.2 < 3 then (1 : Int) else 0) = 1 := if_pos (by omega)
             have eS : rsS2 (A0 26) (F0 25 20) (psF F0) = fiP (goM (A0 26) (F0 25 20) (psF F0)) 1 (-11) := by unfold rsS2; rw [e1]
             have eW : rsW (A0 26) (F0 25 20) (psF F0) = 0 := by unfold rsW; rw [eS]; exact if_neg (by assumption)
             have eY : (if x_and (x_shr (F0 25 30) (rsW (A0 26) (F0 25 20) (psF F0))) 1 = 1 then (1 : Int) else 0) = 1 := if_pos (by rw [eW]; (try simp only [fiP_22]); assumption)
             have eT : rsS3 (A0 26) (F0 25 20) (F0 25 30) (psF F0) = fiP (fiP (goM (A0 26) (F0 25 20) (psF F0)) 1 (-11)) 1 (-13) := by unfold rsS3; rw [eY, eS]
             refine ⟨?_, ?_⟩
             · rw [eW]; (try simp only [fiP_22])
             · rw [eT, eW]; simp only [psS_S, fiP_22])
          | (have e1 : (if (¬ (goM (A0 26) (F0 25 20) (psF F0)).2.2.2.2.1 = 0) ∨ (goM (A0 26) (F0 25 20) (psF F0)).2.2.2.2.2 < 3 then (1 : Int) else 0) = 1 := if_pos (by omega)
             have eS : rsS2 (A0 26) (F0 25 20) (psF F0) = fiP (goM (A0 26) (F0 25 20) (psF F0)) 1 (-11) := by unfold rsS2; rw [e1]
             have eW : rsW (A0 26) (F0 25 20) (psF F0) = (goM (A0 26) (F0 25 20) (psF F0)).2.2.2.2.2 - 3 := by unfold rsW; rw [eS]; exact if_pos (by assumption)
             have eY : (if x_and (x_shr (F0 25 30) (rsW (A0 26) (F0 25 20) (psF F0))) 1 = 1 then (1 : Int) else 0) = 0 := if_neg (by rw [eW]; (try simp only [fiP_22]); assumption)
             have eT : rsS3 (A0 26) (F0 25 20) (F0 25 30) (psF F0) = fiP (fiP (goM (A0 26) (F0 25 20) (psF F0)) 1 (-11)) 0 (-13) := by unfold rsS3; rw [eY, eS]
             refine ⟨?_, ?_⟩
             · rw [eW]; (try simp only [fiP_22])
             · rw [eT, eW]; simp only [psS_S, fiP_22])
          | (have e1 : (if (¬ (goM (A0 26) (F0 25 20) (psF F0)).2.2.2.2.1 = 0) ∨ (goM (A0 26) (F0 25 20) (psF F0)).2.2.2.2.2 < 3 then (1 : Int) else 0) = 1 := if_pos (by omega)
             have eS : rsS2 (A0 26) (F0 25 20) (psF F0) = fiP (goM (A0 26) (F0 25 20) (psF F0)) 1 (-11) := by unfold rsS2; rw [e1]
             have eW : rsW (A0 26) (F0 25 20) (psF F0) = (goM (A0 26) (F0 25 20) (psF F0)).2.2.2.2.2 - 3 := by unfold rsW; rw [eS]; exact if_pos (by assumption)
             have eY : (if x_and (x_shr (F0 25 30) (rsW (A0 26) (F0 25 20) (psF F0))) 1 = 1 then (1 : Int) else 0) = 1 := if_pos (by rw [eW]; (try simp only [fiP_22]); assumption)
             have eT : rsS3 (A0 26) (F0 25 20) (F0 25 30) (psF F0) = fiP (fiP (goM (A0 26) (F0 25 20) (psF F0)) 1 (-11)) 1 (-13) := by unfold rsS3; rw [eY, eS]
             refine ⟨?_, ?_⟩
             · rw [eW]; (try simp only [fiP_22])
             · rw [eT, eW]; simp only [psS_S, fiP_22])
      · skip
        (try rw [w32_id (x := x_and _ 1) (x_and_r _ _).1 (x_and_r _ _).2, w32_id (x := 1) (by decide) (by decide)] at c3); (try simp only [fiP_22, inS_22, nmS_22, psF_e, psF_q, psF_p, psF_o, psF_t, psF_v] at c3); (try simp (disch := omega) only [w32_0, wbi0, Classical.not_not, w32_id] at c3)
        refine ⟨fun c4 => ?_, fun c4 => ?_⟩
        · skip
          (try rw [w32_id (x := x_and _ 1) (x_and_r _ _).1 (x_and_r _ _).2, w32_id (x := 1) (by decide) (by decide)] at c4); (try simp only [fiP_22, inS_22, nmS_22, psF_e, psF_q, psF_p, psF_o, psF_t, psF_v] at c4); (try simp (disch := omega) only [w32_0, wbi0, Classical.not_not, w32_id] at c4)
          refine ⟨by first | exact ⟨pt, pn, pk⟩ | exact ⟨Or.inl rfl, by omega, by omega⟩ | exact ⟨Or.inr rfl, by omega, by omega⟩, ?_⟩
          refine ⟨rfl, rfl, ?_⟩
          (try simp only [fiP_22])
          first
          | (have e1 : (if (¬ (goM (A0 26) (F0 25 20) (psF F0)).2.2.2.2.1 = 0) ∨ (goM (A0 26) (F0 25 20) (psF F0)).2.2.2.2.2 < 3 then (1 : Int) else 0) = 0 := if_neg (by omega)
             have eS : rsS2 (A0 26) (F0 25 20) (psF F0) = fiP (goM (A0 26) (F0 25 20) (psF F0)) 0 (-11) := by unfold rsS2; rw [e1]
             have eW : rsW (A0 26) (F0 25 20) (psF F0) = 0 := by unfold rsW; rw [eS]; exact if_neg (by assumption)
             have eY : (if x_and (x_shr (F0 25 30) (rsW (A0 26) (F0 25 20) (psF F0))) 1 = 1 then (1 : Int) else 0) = 0 := if_neg (by rw [eW]; (try simp only [fiP_22]); assumption)
             have eT : rsS3 (A0 26) (F0 25 20) (F0 25 30) (psF F0) = fiP (fiP (goM (A0 26) (F0 25 20) (psF F0)) 0 (-11)) 0 (-13) := by unfold rsS3; rw [eY, eS]
             refine ⟨?_, ?_⟩
             · rw [eW]; (try simp only [fiP_22])
             · rw [eT, eW]; simp only [psS_S, fiP_22])
          | (have e1 : (if (¬ (goM (A0 26) (F0 25 20) (psF F0)).2.2.2.2.1 = 0) ∨ (goM (A0 26) (F0 25 20) (psF F0)).2.2.2.2.2 < 3 then (1 : Int) else 0) = 0 := if_neg (by omega)
             have eS : rsS2 (A0 26) (F0 25 20) (psF F0) = fiP (goM (A0 26) (F0 25 20) (psF F0)) 0 (-11) := by unfold rsS2; rw [e1]
             have eW : rsW (A0 26) (F0 25 20) (psF F0) = 0 := by unfold rsW; rw [eS]; exact if_neg (by assumption)
             have eY : (if x_and (x_shr (F0 25 30) (rsW (A0 26) (F0 25 20) (psF F0))) 1 = 1 then (1 : Int) else 0) = 1 := if_pos (by rw [eW]; (try simp only [fiP_22]); assumption)
             have eT : rsS3 (A0 26) (F0 25 20) (F0 25 30) (psF F0) = fiP (fiP (goM (A0 26) (F0 25 20) (psF F0)) 0 (-11)) 1 (-13) := by unfold rsS3; rw [eY, eS]
             refine ⟨?_, ?_⟩
             · rw [eW]; (try simp only [fiP_22])
             · rw [eT, eW]; simp only [psS_S, fiP_22])
          | (have e1 : (if (¬ (goM (A0 26) (F0 25 20) (psF F0)).2.2.2.2.1 = 0) ∨ (goM (A0 26) (F0 25 20) (psF F0)).2.2.2.2.2 < 3 then (1 : Int) else 0) = 0 := if_neg (by omega)
             have eS : rsS2 (A0 26) (F0 25 20) (psF F0) = fiP (goM (A0 26) (F0 25 20) (psF F0)) 0 (-11) := by unfold rsS2; rw [e1]
             have eW : rsW (A0 26) (F0 25 20) (psF F0) = (goM (A0 26) (F0 25 20) (psF F0)).2.2.2.2.2 - 3 := by unfold rsW; rw [eS]; exact if_pos (by assumption)
             have eY : (if x_and (x_shr (F0 25 30) (rsW (A0 26) (F0 25 20) (psF F0))) 1 = 1 then (1 : Int) else 0) = 0 := if_neg (by rw [eW]; (try simp only [fiP_22]); assumption)
             have eT : rsS3 (A0 26) (F0 25 20) (F0 25 30) (psF F0) = fiP (fiP (goM (A0 26) (F0 25 20) (psF F0)) 0 (-11)) 0 (-13) := by unfold rsS3; rw [eY, eS]
             refine ⟨?_, ?_⟩
             · rw [eW]; (try simp only [fiP_22])
             · rw [eT, eW]; simp only [psS_S, fiP_22])
          | (have e1 : (if (¬ (goM (A0 26) (F0 25 20) (psF F0)).2.2.2.2.1 = 0) ∨ (goM (A0 26) (F0 25 20) (psF F0)).2.2.2.2.2 < 3 then (1 : Int) else 0) = 0 := if_neg (by omega)
             have eS : rsS2 (A0 26) (F0 25 20) (psF F0) = fiP (goM (A0 26) (F0 25 20) (psF F0)) 0 (-11) := by unfold rsS2; rw [e1]
             have eW : rsW (A0 26) (F0 25 20) (psF F0) = (goM (A0 26) (F0 25 20) (psF F0)).2.2.2.2.2 - 3 := by unfold rsW; rw [eS]; exact if_pos (by assumption)
             have eY : (if x_and (x_shr (F0 25 30) (rsW (A0 26) (F0 25 20) (psF F0))) 1 = 1 then (1 : Int) else 0) = 1 := if_pos (by rw [eW]; (try simp only [fiP_22]); assumption)
             have eT : rsS3 (A0 26) (F0 25 20) (F0 25 30) (psF F0) = fiP (fiP (goM (A0 26) (F0 25 20) (psF F0)) 0 (-11)) 1 (-13) := by unfold rsS3; rw [eY, eS]
             refine ⟨?_, ?_⟩
             · rw [eW]; (try simp only [fiP_22])
             · rw [eT, eW]; simp only [psS_S, fiP_22])
          | (have e1 : (if (¬ (goM (A0 26) (F0 25 20) (psF F0)).2.2.2.2.1 = 0) ∨ (goM (A0 26) (F0 25 20) (psF F0)).2.2.2.2.2 < 3 then (1 : Int) else 0) = 1 := if_pos (by omega)
             have eS : rsS2 (A0 26) (F0 25 20) (psF F0) = fiP (goM (A0 26) (F0 25 20) (psF F0)) 1 (-11) := by unfold rsS2; rw [e1]
             have eW : rsW (A0 26) (F0 25 20) (psF F0) = 0 := by unfold rsW; rw [eS]; exact if_neg (by assumption)
             have eY : (if x_and (x_shr (F0 25 30) (rsW (A0 26) (F0 25 20) (psF F0))) 1 = 1 then (1 : Int) else 0) = 0 := if_neg (by rw [eW]; (try simp only [fiP_22]); assumption)
             have eT : rsS3 (A0 26) (F0 25 20) (F0 25 30) (psF F0) = fiP (fiP (goM (A0 26) (F0 25 20) (psF F0)) 1 (-11)) 0 (-13) := by unfold rsS3; rw [eY, eS]
             refine ⟨?_, ?_⟩
             · rw [eW]; (try simp only [fiP_22])
             · rw [eT, eW]; simp only [psS_S, fiP_22])
          | (have e1 : (if (¬ (goM (A0 26) (F0 25 20) (psF F0)).2.2.2.2.1 = 0) ∨ (goM (A0 26) (F0 25 20) (psF F0)).2.2.2.2.2 < 3 then (1 : Int) else 0) = 1 := if_pos (by omega)
             have eS : rsS2 (A0 26) (F0 25 20) (psF F0) = fiP (goM (A0 26) (F0 25 20) (psF F0)) 1 (-11) := by unfold rsS2; rw [e1]
             have eW : rsW (A0 26) (F0 25 20) (psF F0) = 0 := by unfold rsW; rw [eS]; exact if_neg (by assumption)
             have eY : (if x_and (x_shr (F0 25 30) (rsW (A0 26) (F0 25 20) (psF F0))) 1 = 1 then (1 : Int) else 0) = 1 := if_pos (by rw [eW]; (try simp only [fiP_22]); assumption)
             have eT : rsS3 (A0 26) (F0 25 20) (F0 25 30) (psF F0) = fiP (fiP (goM (A0 26) (F0 25 20) (psF F0)) 1 (-11)) 1 (-13) := by unfold rsS3; rw [eY, eS]
             refine ⟨?_, ?_⟩
             · rw [eW]; (try simp only [fiP_22])
             · rw [eT, eW]; simp only [psS_S, fiP_22])
          | (have e1 : (if (¬ (goM (A0 26) (F0 25 20) (psF F0)).2.2.2.2.1 = 0) ∨ (goM (A0 26) (F0 25 20) (psF F0)).2.2.2.2.2 < 3 then (1 : Int) else 0) = 1 := if_pos (by omega)
             have eS : rsS2 (A0 26) (F0 25 20) (psF F0) = fiP (goM (A0 26) (F0 25 20) (psF F0)) 1 (-11) := by unfold rsS2; rw [e1]
             have eW : rsW (A0 26) (F0 25 20) (psF F0) = (goM (A0 26) (F0 25 20) (psF F0)).2.2.2.2.2 - 3 := by unfold rsW; rw [eS]; exact if_pos (by assumption)
             have eY : (if x_and (x_shr (F0 25 30) (rsW (A0 26) (F0 25 20) (psF F0))) 1 = 1 then (1 : Int) else 0) = 0 := if_neg (by rw [eW]; (try simp only [fiP_22]); assumption)
             have eT : rsS3 (A0 26) (F0 25 20) (F0 25 30) (psF F0) = fiP (fiP (goM (A0 26) (F0 25 20) (psF F0)) 1 (-11)) 0 (-13) := by unfold rsS3; rw [eY, eS]
             refine ⟨?_, ?_⟩
             · rw [eW]; (try simp only [fiP_22])
             · rw [eT, eW]; simp only [psS_S, fiP_22])
          | (have e1 : (if (¬ (goM (A0 26) (F0 25 20) (psF F0)).2.2.2.2.1 = 0) ∨ (goM (A0 26) (F0 25 20) (psF F0)).2.2.2.2.2 < 3 then (1 : Int) else 0) = 1 := if_pos (by omega)
             have eS : rsS2 (A0 26) (F0 25 20) (psF F0) = fiP (goM (A0 26) (F0 25 20) (psF F0)) 1 (-11) := by unfold rsS2; rw [e1]
             have eW : rsW (A0 26) (F0 25 20) (psF F0) = (goM (A0 26) (F0 25 20) (psF F0)).2.2.2.2.2 - 3 := by unfold rsW; rw [eS]; exact if_pos (by assumption)
             have eY : (if x_and (x_shr (F0 25 30) (rsW (A0 26) (F0 25 20) (psF F0))) 1 = 1 then (1 : Int) else 0) = 1 := if_pos (by rw [eW]; (try simp only [fiP_22]); assumption)
             have eT : rsS3 (A0 26) (F0 25 20) (F0 25 30) (psF F0) = fiP (fiP (goM (A0 26) (F0 25 20) (psF F0)) 1 (-11)) 1 (-13) := by unfold rsS3; rw [eY, eS]
             refine ⟨?_, ?_⟩
             · rw [eW]; (try simp only [fiP_22])
             · rw [eT, eW]; simp only [psS_S, fiP_22])
        · skip
          (try rw [w32_id (x := x_and _ 1) (x_and_r _ _).1 (x_and_r _ _).2, w32_id (x := 1) (by decide) (by decide)] at c4); (try simp only [fiP_22, inS_22, nmS_22, psF_e, psF_q, psF_p, psF_o, psF_t, psF_v] at c4); (try simp (disch := omega) only [w32_0, wbi0, Classical.not_not, w32_id] at c4)
          refine ⟨by first | exact ⟨pt, pn, pk⟩ | exact ⟨Or.inl rfl, by omega, by omega⟩ | exact ⟨Or.inr rfl, by omega, by omega⟩, ?_⟩
          refine ⟨rfl, rfl, ?_⟩
          (try simp only [fiP_22])
          first
          | (have e1 : (if (¬ (goM (A0 26) (F0 25 20) (psF F0)).2.2.2.2.1 = 0) ∨ (goM (A0 26) (F0 25 20) (psF F0)).2.2.2.2.2 < 3 then (1 : Int) else 0) = 0 := if_neg (by omega)
             have eS : rsS2 (A0 26) (F0 25 20) (psF F0) = fiP (goM (A0 26) (F0 25 20) (psF F0)) 0 (-11) := by unfold rsS2; rw [e1]
             have eW : rsW (A0 26) (F0 25 20) (psF F0) = 0 := by unfold rsW; rw [eS]; exact if_neg (by assumption)
             have eY : (if x_and (x_shr (F0 25 30) (rsW (A0 26) (F0 25 20) (psF F0))) 1 = 1 then (1 : Int) else 0) = 0 := if_neg (by rw [eW]; (try simp only [fiP_22]); assumption)
             have eT : rsS3 (A0 26) (F0 25 20) (F0 25 30) (psF F0) = fiP (fiP (goM (A0 26) (F0 25 20) (psF F0)) 0 (-11)) 0 (-13) := by unfold rsS3; rw [eY, eS]
             refine ⟨?_, ?_⟩
             · rw [eW]; (try simp only [fiP_22])
             · rw [eT, eW]; simp only [psS_S, fiP_22])
          | (have e1 : (if (¬ (goM (A0 26) (F0 25 20) (psF F0)).2.2.2.2.1 = 0) ∨ (goM (A0 26) (F0 25 20) (psF F0)).2.2.2.2.2 < 3 then (1 : Int) else 0) = 0 := if_neg (by omega)
             have eS : rsS2 (A0 26) (F0 25 20) (psF F0) = fiP (goM (A0 26) (F0 25 20) (psF F0)) 0 (-11) := by unfold rsS2; rw [e1]
             have eW : rsW (A0 26) (F0 25 20) (psF F0) = 0 := by unfold rsW; rw [eS]; exact if_neg (by assumption)
             have eY : (if x_and (x_shr (F0 25 30) (rsW (A0 26) (F0 25 20) (psF F0))) 1 = 1 then (1 : Int) else 0) = 1 := if_pos (by rw [eW]; (try simp only [fiP_22]); assumption)
             have eT : rsS3 (A0 26) (F0 25 20) (F0 25 30) (psF F0) = fiP (fiP (goM (A0 26) (F0 25 20) (psF F0)) 0 (-11)) 1 (-13) := by unfold rsS3; rw [eY, eS]
             refine ⟨?_, ?_⟩
             · rw [eW]; (try simp only [fiP_22])
             · rw [eT, eW]; simp only [psS_S, fiP_22])
          | (have e1 : (if (¬ (goM (A0 26) (F0 25 20) (psF F0)).2.2.2.2.1 = 0) ∨ (goM (A0 26) (F0 25 20) (psF F0)).2.2.2.2.2 < 3 then (1 : Int) else 0) = 0 := if_neg (by omega)
             have eS : rsS2 (A0 26) (F0 25 20) (psF F0) = fiP (goM (A0 26) (F0 25 20) (psF F0)) 0 (-11) := by unfold rsS2; rw [e1]
             have eW : rsW (A0 26) (F0 25 20) (psF F0) = (goM (A0 26) (F0 25 20) (psF F0)).2.2.2.2.2 - 3 := by unfold rsW; rw [eS]; exact if_pos (by assumption)
             have eY : (if x_and (x_shr (F0 25 30) (rsW (A0 26) (F0 25 20) (psF F0))) 1 = 1 then (1 : Int) else 0) = 0 := if_neg (by rw [eW]; (try simp only [fiP_22]); assumption)
             have eT : rsS3 (A0 26) (F0 25 20) (F0 25 30) (psF F0) = fiP (fiP (goM (A0 26) (F0 25 20) (psF F0)) 0 (-11)) 0 (-13) := by unfold rsS3; rw [eY, eS]
             refine ⟨?_, ?_⟩
             · rw [eW]; (try simp only [fiP_22])
             · rw [eT, eW]; simp only [psS_S, fiP_22])
          | (have e1 : (if (¬ (goM (A0 26) (F0 25 20) (psF F0)).2.2.2.2.1 = 0) ∨ (goM (A0 26) (F0 25 20) (psF F0)).2.2.2.2.2 < 3 then (1 : Int) else 0) = 0 := if_neg (by omega)
             have eS : rsS2 (A0 26) (F0 25 20) (psF F0) = fiP (goM (A0 26) (F0 25 20) (psF F0)) 0 (-11) := by unfold rsS2; rw [e1]
             have eW : rsW (A0 26) (F0 25 20) (psF F0) = (goM (A0 26) (F0 25 20) (psF F0)).2.2.2.2.2 - 3 := by unfold rsW; rw [eS]; exact if_pos (by assumption)
             have eY : (if x_and (x_shr (F0 25 30) (rsW (A0 26) (F0 25 20) (psF F0))) 1 = 1 then (1 : Int) else 0) = 1 := if_pos (by rw [eW]; (try simp only [fiP_22]); assumption)
             have eT : rsS3 (A0 26) (F0 25 20) (F0 25 30) (psF F0) = fiP (fiP (goM (A0 26) (F0 25 20) (psF F0)) 0 (-11)) 1 (-13) := by unfold rsS3; rw [eY, eS]
             refine ⟨?_, ?_⟩
             · rw [eW]; (try simp only [fiP_22])
             · rw [eT, eW]; simp only [psS_S, fiP_22])
          | (have e1 : (if (¬ (goM (A0 26) (F0 25 20) (psF F0)).2.2.2.2.1 = 0) ∨ (goM (A0 26) (F0 25 20) (psF F0)).2.2.2.2.2 < 3 then (1 : Int) else 0) = 1 := if_pos (by omega)
             have eS : rsS2 (A0 26) (F0 25 20) (psF F0) = fiP (goM (A0 26) (F0 25 20) (psF F0)) 1 (-11) := by unfold rsS2; rw [e1]
             have eW : rsW (A0 26) (F0 25 20) (psF F0) = 0 := by unfold rsW; rw [eS]; exact if_neg (by assumption)
             have eY : (if x_and (x_shr (F0 25 30) (rsW (A0 26) (F0 25 20) (psF F0))) 1 = 1 then (1 : Int) else 0) = 0 := if_neg (by rw [eW]; (try simp only [fiP_22]); assumption)
             have eT : rsS3 (A0 26) (F0 25 20) (F0 25 30) (psF F0) = fiP (fiP (goM (A0 26) (F0 25 20) (psF F0)) 1 (-11)) 0 (-13) := by unfold rsS3; rw [eY, eS]
             refine ⟨?_, ?_⟩
             · rw [eW]; (try simp only [fiP_22])
             · rw [eT, eW]; simp only [psS_S, fiP_22])
          | (have e1 : (if (¬ (goM (A0 26) (F0 25 20) (psF F0)).2.2.2.2.1 = 0) ∨ (goM (A0 26) (F0 25 20) (psF F0)).2.2.2.2.2 < 3 then (1 : Int) else 0) = 1 := if_pos (by omega)
             have eS : rsS2 (A0 26) (F0 25 20) (psF F0) = fiP (goM (A0 26) (F0 25 20) (psF F0)) 1 (-11) := by unfold rsS2; rw [e1]
             have eW : rsW (A0 26) (F0 25 20) (psF F0) = 0 := by unfold rsW; rw [eS]; exact if_neg (by assumption)
             have eY : (if x_and (x_shr (F0 25 30) (rsW (A0 26) (F0 25 20) (psF F0))) 1 = 1 then (1 : Int) else 0) = 1 := if_pos (by rw [eW]; (try simp only [fiP_22]); assumption)
             have eT : rsS3 (A0 26) (F0 25 20) (F0 25 30) (psF F0) = fiP (fiP (goM (A0 26) (F0 25 20) (psF F0)) 1 (-11)) 1 (-13) := by unfold rsS3; rw [eY, eS]
             refine ⟨?_, ?_⟩
             · rw [eW]; (try simp only [fiP_22])
             · rw [eT, eW]; simp only [psS_S, fiP_22])
          | (have e1 : (if (¬ (goM (A0 26) (F0 25 20) (psF F0)).2.2.2.2.1 = 0) ∨ (goM (A0 26) (F0 25 20) (psF F0)).2.2.2.2.2 < 3 then (1 : Int) else 0) = 1 := if_pos (by omega)
             have eS : rsS2 (A0 26) (F0 25 20) (psF F0) = fiP (goM (A0 26) (F0 25 20) (psF F0)) 1 (-11) := by unfold rsS2; rw [e1]
             have eW : rsW (A0 26) (F0 25 20) (psF F0) = (goM (A0 26) (F0 25 20) (psF F0)).2.2.2.2.2 - 3 := by unfold rsW; rw [eS]; exact if_pos (by assumption)
             have eY : (if x_and (x_shr (F0 25 30) (rsW (A0 26) (F0 25 20) (psF F0))) 1 = 1 then (1 : Int) else 0) = 0 := if_neg (by rw [eW]; (try simp only [fiP_22]); assumption)
             have eT : rsS3 (A0 26) (F0 25 20) (F0 25 30) (psF F0) = fiP (fiP (goM (A0 26) (F0 25 20) (psF F0)) 1 (-11)) 0 (-13) := by unfold rsS3; rw [eY, eS]
             refine ⟨?_, ?_⟩
             · rw [eW]; (try simp only [fiP_22])
             · rw [eT, eW]; simp only [psS_S, fiP_22])
          | (have e1 : (if (¬ (goM (A0 26) (F0 25 20) (psF F0)).2.2.2.2.1 = 0) ∨ (goM (A0 26) (F0 25 20) (psF F0)).2.2.2.2.2 < 3 then (1 : Int) else 0) = 1 := if_pos (by omega)
             have eS : rsS2 (A0 26) (F0 25 20) (psF F0) = fiP (goM (A0 26) (F0 25 20) (psF F0)) 1 (-11) := by unfold rsS2; rw [e1]
             have eW : rsW (A0 26) (F0 25 20) (psF F0) = (goM (A0 26) (F0 25 20) (psF F0)).2.2.2.2.2 - 3 := by unfold rsW; rw [eS]; exact if_pos (by assumption)
             have eY : (if x_and (x_shr (F0 25 30) (rsW (A0 26) (F0 25 20) (psF F0))) 1 = 1 then (1 : Int) else 0) = 1 := if_pos (by rw [eW]; (try simp only [fiP_22]); assumption)
             have eT : rsS3 (A0 26) (F0 25 20) (F0 25 30) (psF F0) = fiP (fiP (goM (A0 26) (F0 25 20) (psF F0)) 1 (-11)) 1 (-13) := by unfold rsS3; rw [eY, eS]
             refine ⟨?_, ?_⟩
             · rw [eW]; (try simp only [fiP_22])
             · rw [eT, eW]; simp only [psS_S, fiP_22])
  · skip
    (try rw [w32_id (x := x_and _ 1) (x_and_r _ _).1 (x_and_r _ _).2, w32_id (x := 1) (by decide) (by decide)] at c1); (try simp only [fiP_22, inS_22, nmS_22, psF_e, psF_q, psF_p, psF_o, psF_t, psF_v] at c1); (try simp (disch := omega) only [w32_0, wbi0, Classical.not_not, w32_id] at c1)
    refine ⟨by first | exact ⟨pt, pn, pk⟩ | exact ⟨Or.inl rfl, by omega, by omega⟩ | exact ⟨Or.inr rfl, by omega, by omega⟩, ?_⟩
    refine ⟨fun c2 => ?_, fun c2 => ?_⟩
    · skip
      (try rw [w32_id (x := x_and _ 1) (x_and_r _ _).1 (x_and_r _ _).2, w32_id (x := 1) (by decide) (by decide)] at c2); (try simp only [fiP_22, inS_22, nmS_22, psF_e, psF_q, psF_p, psF_o, psF_t, psF_v] at c2); (try simp (disch := omega) only [w32_0, wbi0, Classical.not_not, w32_id] at c2)
      refine ⟨fun c3 => ?_, fun c3 => ?_⟩
      · skip
        (try rw [w32_id (x := x_and _ 1) (x_and_r _ _).1 (x_and_r _ _).2, w32_id (x := 1) (by decide) (by decide)] at c3); (try simp only [fiP_22, inS_22, nmS_22, psF_e, psF_q, psF_p, psF_o, psF_t, psF_v] at c3); (try simp (disch := omega) only [w32_0, wbi0, Classical.not_not, w32_id] at c3)
        refine ⟨by first | exact ⟨pt, pn, pk⟩ | exact ⟨Or.inl rfl, by omega, by omega⟩ | exact ⟨Or.inr rfl, by omega, by omega⟩, ?_⟩
        refine ⟨rfl, rfl, ?_⟩
        (try simp only [fiP_22])
        first
        | (have e1 : (if (¬ (goM (A0 26) (F0 25 20) (psF F0)).2.2.2.2.1 = 0) ∨ (goM (A0 26) (F0 25 20) (psF F0)).2.2.2.2.2 < 3 then (1 : Int) else 0) = 0 := if_neg (by omega)
           have eS : rsS2 (A0 26) (F0 25 20) (psF F0) = fiP (goM (A0 26) (F0 25 20) (psF F0)) 0 (-11) := by unfold rsS2; rw [e1]
           have eW : rsW (A0 26) (F0 25 20) (psF F0) = 0 := by unfold rsW; rw [eS]; exact if_neg (by assumption)
           have eY : (if x_and (x_shr (F0 25 30) (rsW (A0 26) (F0 25 20) (psF F0))) 1 = 1 then (1 : Int) else 0) = 0 := if_neg (by rw [eW]; (try simp only [fiP_22]); assumption)
           have eT : rsS3 (A0 26) (F0 25 20) (F0 25 30) (psF F0) = fiP (fiP (goM (A0 26) (F0 25 20) (psF F0)) 0 (-11)) 0 (-13) := by unfold rsS3; rw [eY, eS]
           refine ⟨?_, ?_⟩
           · rw [eW]; (try simp only [fiP_22])
           · rw [eT, eW]; simp only [psS_S, fiP_22])
        | (have e1 : (if (¬ (goM (A0 26) (F0 25 20) (psF F0)).2.2.2.2.1 = 0) ∨ (goM (A0 26) (F0 25 20) (psF F0)).2.2.2.2.2 < 3 then (1 : Int) else 0) = 0 := if_neg (by omega)
           have eS : rsS2 (A0 26) (F0 25 20) (psF F0) = fiP (goM (A0 26) (F0 25 20) (psF F0)) 0 (-11) := by unfold rsS2; rw [e1]
           have eW : rsW (A0 26) (F0 25 20) (psF F0) = 0 := by unfold rsW; rw [eS]; exact if_neg (by assumption)
           have eY : (if x_and (x_shr (F0 25 30) (rsW (A0 26) (F0 25 20) (psF F0))) 1 = 1 then (1 : Int) else 0) = 1 := if_pos (by rw [eW]; (try simp only [fiP_22]); assumption)
           have eT : rsS3 (A0 26) (F0 25 20) (F0 25 30) (psF F0) = fiP (fiP (goM (A0 26) (F0 25 20) (psF F0)) 0 (-11)) 1 (-13) := by unfold rsS3; rw [eY, eS]
           refine ⟨?_, ?_⟩
           · rw [eW]; (try simp only [fiP_22])
           · rw [eT, eW]; simp only [psS_S, fiP_22])
        | (have e1 : (if (¬ (goM (A0 26) (F0 25 20) (psF F0)).2.2.2.2.1 = 0) ∨ (goM (A0 26) (F0 25 20) (psF F0)).2.2.2.2.2 < 3 then (1 : Int) else 0) = 0 := if_neg (by omega)
           have eS : rsS2 (A0 26) (F0 25 20) (psF F0) = fiP (goM (A0 26) (F0 25 20) (psF F0)) 0 (-11) := by unfold rsS2; rw [e1]
           have eW : rsW (A0 26) (F0 25 20) (psF F0) = (goM (A0 26) (F0 25 20) (psF F0)).2.2.2.2.2 - 3 := by unfold rsW; rw [eS]; exact if_pos (by assumption)
           have eY : (if x_and (x_shr (F0 25 30) (rsW (A0 26) (F0 25 20) (psF F0))) 1 = 1 then (1 : Int) else 0) = 0 := if_neg (by rw [eW]; (try simp only [fiP_22]); assumption)
           have eT : rsS3 (A0 26) (F0 25 20) (F0 25 30) (psF F0) = fiP (fiP (goM (A0 26) (F0 25 20) (psF F0)) 0 (-11)) 0 (-13) := by unfold rsS3; rw [eY, eS]
           refine ⟨?_, ?_⟩
           · rw [eW]; (try simp only [fiP_22])
           · rw [eT, eW]; simp only [psS_S, fiP_22])
        | (have e1 : (if (¬ (goM (A0 26) (F0 25 20) (psF F0)).2.2.2.2.1 = 0) ∨ (goM (A0 26) (F0 25 20) (psF F0)).2.2.2.2.2 < 3 then (1 : Int) else 0) = 0 := if_neg (by omega)
           have eS : rsS2 (A0 26) (F0 25 20) (psF F0) = fiP (goM (A0 26) (F0 25 20) (psF F0)) 0 (-11) := by unfold rsS2; rw [e1]
           have eW : rsW (A0 26) (F0 25 20) (psF F0) = (goM (A0 26) (F0 25 20) (psF F0)).2.2.2.2.2 - 3 := by unfold rsW; rw [eS]; exact if_pos (by assumption)
           have eY : (if x_and (x_shr (F0 25 30) (rsW (A0 26) (F0 25 20) (psF F0))) 1 = 1 then (1 : Int) else 0) = 1 := if_pos (by rw [eW]; (try simp only [fiP_22]); assumption)
           have eT : rsS3 (A0 26) (F0 25 20) (F0 25 30) (psF F0) = fiP (fiP (goM (A0 26) (F0 25 20) (psF F0)) 0 (-11)) 1 (-13) := by unfold rsS3; rw [eY, eS]
           refine ⟨?_, ?_⟩
           · rw [eW]; (try simp only [fiP_22])
           · rw [eT, eW]; simp only [psS_S, fiP_22])
        | (have e1 : (if (¬ (goM (A0 26) (F0 25 20) (psF F0)).2.2.2.2.1 = 0) ∨ (goM (A0 26) (F0 25 20) (psF F0)).2.2.2.2.2 < 3 then (1 : Int) else 0) = 1 := if_pos (by omega)
           have eS : rsS2 (A0 26) (F0 25 20) (psF F0) = fiP (goM (A0 26) (F0 25 20) (psF F0)) 1 (-11) := by unfold rsS2; rw [e1]
           have eW : rsW (A0 26) (F0 25 20) (psF F0) = 0 := by unfold rsW; rw [eS]; exact if_neg (by assumption)
           have eY : (if x_and (x_shr (F0 25 30) (rsW (A0 26) (F0 25 20) (psF F0))) 1 = 1 then (1 : Int) else 0) = 0 := if_neg (by rw [eW]; (try simp only [fiP_22]); assumption)
           have eT : rsS3 (A0 26) (F0 25 20) (F0 25 30) (psF F0) = fiP (fiP (goM (A0 26) (F0 25 20) (psF F0)) 1 (-11)) 0 (-13) := by unfold rsS3; rw [eY, eS]
           refine ⟨?_, ?_⟩
           · rw [eW]; (try simp only [fiP_22])
           · rw [eT, eW]; simp only [psS_S, fiP_22])
        | (have e1 : (if (¬ (goM (A0 26) (F0 25 20) (psF F0)).2.2.2.2.1 = 0) ∨ (goM (A0 26) (F0 25 20) (psF F0)).2.2.2.2.2 < 3 then (1 : Int) else 0) = 1 := if_pos (by omega)
           have eS : rsS2 (A0 26) (F0 25 20) (psF F0) = fiP (goM (A0 26) (F0 25 20) (psF F0)) 1 (-11) := by unfold rsS2; rw [e1]
           have eW : rsW (A0 26) (F0 25 20) (psF F0) = 0 := by unfold rsW; rw [eS]; exact if_neg (by assumption)
           have eY : (if x_and (x_shr (F0 25 30) (rsW (A0 26) (F0 25 20) (psF F0))) 1 = 1 then (1 : Int) else 0) = 1 := if_pos (by rw [eW]; (try simp only [fiP_22]); assumption)
           have eT : rsS3 (A0 26) (F0 25 20) (F0 25 30) (psF F0) = fiP (fiP (goM (A0 26) (F0 25 20) (psF F0)) 1 (-11)) 1 (-13) := by unfold rsS3; rw [eY, eS]
           refine ⟨?_, ?_⟩
           · rw [eW]; (try simp only [fiP_22])
           · rw [eT, eW]; simp only [psS_S, fiP_22])
        | (have e1 : (if (¬ (goM (A0 26) (F0 25 20) (psF F0)).2.2.2.2.1 = 0) ∨ (goM (A0 26) (F0 25 20) (psF F0)).2.2.2.2.2 < 3 then (1 : Int) else 0) = 1 := if_pos (by omega)
           have eS : rsS2 (A0 26) (F0 25 20) (psF F0) = fiP (goM (A0 26) (F0 25 20) (psF F0)) 1 (-11) := by unfold rsS2; rw [e1]
           have eW : rsW (A0 26) (F0 25 20) (psF F0) = (goM (A0 26) (F0 25 20) (psF F0)).2.2.2.2.2 - 3 := by unfold rsW; rw [eS]; exact if_pos (by assumption)
           have eY : (if x_and (x_shr (F0 25 30) (rsW (A0 26) (F0 25 20) (psF F0))) 1 = 1 then (1 : Int) else 0) = 0 := if_neg (by rw [eW]; (try simp only [fiP_22]); assumption)
           have eT : rsS3 (A0 26) (F0 25 20) (F0 25 30) (psF F0) = fiP (fiP (goM (A0 26) (F0 25 20) (psF F0)) 1 (-11)) 0 (-13) := by unfold rsS3; rw [eY, eS]
           refine ⟨?_, ?_⟩
           · rw [eW]; (try simp only [fiP_22])
           · rw [eT, eW]; simp only [psS_S, fiP_22])
        | (have e1 : (if (¬ (goM (A0 26) (F0 25 20) (psF F0)).2.2.2.2.1 = 0) ∨ (goM (A0 26) (F0 25 20) (psF F0)).2.2.2.2.2 < 3 then (1 : Int) else 0) = 1 := if_pos (by omega)
           have eS : rsS2 (A0 26) (F0 25 20) (psF F0) = fiP (goM (A0 26) (F0 25 20) (psF F0)) 1 (-11) := by unfold rsS2; rw [e1]
           have eW : rsW (A0 26) (F0 25 20) (psF F0) = (goM (A0 26) (F0 25 20) (psF F0)).2.2.2.2.2 - 3 := by unfold rsW; rw [eS]; exact if_pos (by assumption)
           have eY : (if x_and (x_shr (F0 25 30) (rsW (A0 26) (F0 25 20) (psF F0))) 1 = 1 then (1 : Int) else 0) = 1 := if_pos (by rw [eW]; (try simp only [fiP_22]); assumption)
           have eT : rsS3 (A0 26) (F0 25 20) (F0 25 30) (psF F0) = fiP (fiP (goM (A0 26) (F0 25 20) (psF F0)) 1 (-11)) 1 (-13) := by unfold rsS3; rw [eY, eS]
           refine ⟨?_, ?_⟩
           · rw [eW]; (try simp only [fiP_22])
           · rw [eT, eW]; simp only [psS_S, fiP_22])
      · skip
        (try rw [w32_id (x := x_and _ 1) (x_and_r _ _).1 (x_and_r _ _).2, w32_id (x := 1) (by decide) (by decide)] at c3); (try simp only [fiP_22, inS_22, nmS_22, psF_e, psF_q, psF_p, psF_o, psF_t, psF_v] at c3); (try simp (disch := omega) only [w32_0, wbi0, Classical.not_not, w32_id] at c3)
        refine ⟨by first | exact ⟨pt, pn, pk⟩ | exact ⟨Or.inl rfl, by omega, by omega⟩ | exact ⟨Or.inr rfl, by omega, by omega⟩, ?_⟩
        refine ⟨rfl, rfl, ?_⟩
        (try simp only [fiP_22])
        first
        | (have e1 : (if (¬ (goM (A0 26) (F0 25 20) (psF F0)).2.2.2.2.1 = 0) ∨ (goM (A0 26) (F0 25 20) (psF F0)).2.2.2.2.2 < 3 then (1 : Int) else 0) = 0 := if_neg (by omega)
           have eS : rsS2 (A0 26) (F0 25 20) (psF F0) = fiP (goM (A0 26) (F0 25 20) (psF F0)) 0 (-11) := by unfold rsS2; rw [e1]
           have eW : rsW (A0 26) (F0 25 20) (psF F0) = 0 := by unfold rsW; rw [eS]; exact if_neg (by assumption)
           have eY : (if x_and (x_shr (F0 25 30) (rsW (A0 26) (F0 25 20) (psF F0))) 1 = 1 then (1 : Int) else 0) = 0 := if_neg (by rw [eW]; (try simp only [fiP_22]); assumption)
           have eT : rsS3 (A0 26) (F0 25 20) (F0 25 30) (psF F0) = fiP (fiP (goM (A0 26) (F0 25 20) (psF F0)) 0 (-11)) 0 (-13) := by unfold rsS3; rw [eY, eS]
           refine ⟨?_, ?_⟩
           · rw [eW]; (try simp only [fiP_22])
           · rw [eT, eW]; simp only [psS_S, fiP_22])
        | (have e1 : (if (¬ (goM (A0 26) (F0 25 20) (psF F0)).2.2.2.2.1 = 0) ∨ (goM (A0 26) (F0 25 20) (psF F0)).2.2.2.2.2 < 3 then (1 : Int) else 0) = 0 := if_neg (by omega)
           have eS : rsS2 (A0 26) (F0 25 20) (psF F0) = fiP (goM (A0 26) (F0 25 20) (psF F0)) 0 (-11) := by unfold rsS2; rw [e1]
           have eW : rsW (A0 26) (F0 25 20) (psF F0) = 0 := by unfold rsW; rw [eS]; exact if_neg (by assumption)
           have eY : (if x_and (x_shr (F0 25 30) (rsW (A0 26) (F0 25 20) (psF F0))) 1 = 1 then (1 : Int) else 0) = 1 := if_pos (by rw [eW]; (try simp only [fiP_22]); assumption)
           have eT : rsS3 (A0 26) (F0 25 20) (F0 25 30) (psF F0) = fiP (fiP (goM (A0 26) (F0 25 20) (psF F0)) 0 (-11)) 1 (-13) := by unfold rsS3; rw [eY, eS]
           refine ⟨?_, ?_⟩
           · rw [eW]; (try simp only [fiP_22])
           · rw [eT, eW]; simp only [psS_S, fiP_22])
        | (have e1 : (if (¬ (goM (A0 26) (F0 25 20) (psF F0)).2.2.2.2.1 = 0) ∨ (goM (A0 26) (F0 25 20) (psF F0)).2.2.2.2.2 < 3 then (1 : Int) else 0) = 0 := if_neg (by omega)
           have eS : rsS2 (A0 26) (F0 25 20) (psF F0) = fiP (goM (A0 26) (F0 25 20) (psF F0)) 0 (-11) := by unfold rsS2; rw [e1]
           have eW : rsW (A0 26) (F0 25 20) (psF F0) = (goM (A0 26) (F0 25 20) (psF F0)).2.2.2.2.2 - 3 := by unfold rsW; rw [eS]; exact if_pos (by assumption)
           have eY : (if x_and (x_shr (F0 25 30) (rsW (A0 26) (F0 25 20) (psF F0))) 1 = 1 then (1 : Int) else 0) = 0 := if_neg (by rw [eW]; (try simp only [fiP_22]); assumption)
           have eT : rsS3 (A0 26) (F0 25 20) (F0 25 30) (psF F0) = fiP (fiP (goM (A0 26) (F0 25 20) (psF F0)) 0 (-11)) 0 (-13) := by unfold rsS3; rw [eY, eS]
           refine ⟨?_, ?_⟩
           · rw [eW]; (try simp only [fiP_22])
           · rw [eT, eW]; simp only [psS_S, fiP_22])
        | (have e1 : (if (¬ (goM (A0 26) (F0 25 20) (psF F0)).2.2.2.2.1 = 0) ∨ (goM (A0 26) (F0 25 20) (psF F0)).2.2.2.2.2 < 3 then (1 : Int) else 0) = 0 := if_neg (by omega)
           have eS : rsS2 (A0 26) (F0 25 20) (psF F0) = fiP (goM (A0 26) (F0 25 20) (psF F0)) 0 (-11) := by unfold rsS2; rw [e1]
           have eW : rsW (A0 26) (F0 25 20) (psF F0) = (goM (A0 26) (F0 25 20) (psF F0)).2.2.2.2.2 - 3 := by unfold rsW; rw [eS]; exact if_pos (by assumption)
           have eY : (if x_and (x_shr (F0 25 30) (rsW (A0 26) (F0 25 20) (psF F0))) 1 = 1 then (1 : Int) else 0) = 1 := if_pos (by rw [eW]; (try simp only [fiP_22]); assumption)
           have eT : rsS3 (A0 26) (F0 25 20) (F0 25 30) (psF F0) = fiP (fiP (goM (A0 26) (F0 25 20) (psF F0)) 0 (-11)) 1 (-13) := by unfold rsS3; rw [eY, eS]
           refine ⟨?_, ?_⟩
           · rw [eW]; (try simp only [fiP_22])
           · rw [eT, eW]; simp only [psS_S, fiP_22])
        | (have e1 : (if (¬ (goM (A0 26) (F0 25 20) (psF F0)).2.2.2.2.1 = 0) ∨ (goM (A0 26) (F0 25 20) (psF F0)).2.2.2.2.2 < 3 then (1 : Int) else 0) = 1 := if_pos (by omega)
           have eS : rsS2 (A0 26) (F0 25 20) (psF F0) = fiP (goM (A0 26) (F0 25 20) (psF F0)) 1 (-11) := by unfold rsS2; rw [e1]
           have eW : rsW (A0 26) (F0 25 20) (psF F0) = 0 := by unfold rsW; rw [eS]; exact if_neg (by assumption)
           have eY : (if x_and (x_shr (F0 25 30) (rsW (A0 26) (F0 25 20) (psF F0))) 1 = 1 then (1 : Int) else 0) = 0 := if_neg (by rw [eW]; (try simp only [fiP_22]); assumption)
           have eT : rsS3 (A0 26) (F0 25 20) (F0 25 30) (psF F0) = fiP (fiP (goM (A0 26) (F0 25 20) (psF F0)) 1 (-11)) 0 (-13) := by unfold rsS3; rw [eY, eS]
           refine ⟨?_, ?_⟩
           · rw [eW]; (try simp only [fiP_22])
           · rw [eT, eW]; simp only [psS_S, fiP_22])
        | (have e1 : (if (¬ (goM (A0 26) (F0 25 20) (psF F0)).2.2.2.2.1 = 0) ∨ (goM (A0 26) (F0 25 20) (psF F0)).2.2.2.2.2 < 3 then (1 : Int) else 0) = 1 := if_pos (by omega)
           have eS : rsS2 (A0 26) (F0 25 20) (psF F0) = fiP (goM (A0 26) (F0 25 20) (psF F0)) 1 (-11) := by unfold rsS2; rw [e1]
           have eW : rsW (A0 26) (F0 25 20) (psF F0) = 0 := by unfold rsW; rw [eS]; exact if_neg (by assumption)
           have eY : (if x_and (x_shr (F0 25 30) (rsW (A0 26) (F0 25 20) (psF F0))) 1 = 1 then (1 : Int) else 0) = 1 := if_pos (by rw [eW]; (try simp only [fiP_22]); assumption)
           have eT : rsS3 (A0 26) (F0 25 20) (F0 25 30) (psF F0) = fiP (fiP (goM (A0 26) (F0 25 20) (psF F0)) 1 (-11)) 1 (-13) := by unfold rsS3; rw [eY, eS]
           refine ⟨?_, ?_⟩
           · rw [eW]; (try simp only [fiP_22])
           · rw [eT, eW]; simp only [psS_S, fiP_22])
        | (have e1 : (if (¬ (goM (A0 26) (F0 25 20) (psF F0)).2.2.2.2.1 = 0) ∨ (goM (A0 26) (F0 25 20) (psF F0)).2.2.2.2.2 < 3 then (1 : Int) else 0) = 1 := if_pos (by omega)
           have eS : rsS2 (A0 26) (F0 25 20) (psF F0) = fiP (goM (A0 26) (F0 25 20) (psF F0)) 1 (-11) := by unfold rsS2; rw [e1]
           have eW : rsW (A0 26) (F0 25 20) (psF F0) = (goM (A0 26) (F0 25 20) (psF F0)).2.2.2.2.2 - 3 := by unfold rsW; rw [eS]; exact if_pos (by assumption)
           have eY : (if x_and (x_shr (F0 25 30) (rsW (A0 26) (F0 25 20) (psF F0))) 1 = 1 then (1 : Int) else 0) = 0 := if_neg (by rw [eW]; (try simp only [fiP_22]); assumption)
           have eT : rsS3 (A0 26) (F0 25 20) (F0 25 30) (psF F0) = fiP (fiP (goM (A0 26) (F0 25 20) (psF F0)) 1 (-11)) 0 (-13) := by unfold rsS3; rw [eY, eS]
           refine ⟨?_, ?_⟩
           · rw [eW]; (try simp only [fiP_22])
           · rw [eT, eW]; simp only [psS_S, fiP_22])
        | (have e1 : (if (¬ (goM (A0 26) (F0 25 20) (psF F0)).2.2.2.2.1 = 0) ∨ (goM (A0 26) (F0 25 20) (psF F0)).2.2.2.2.2 < 3 then (1 : Int) else 0) = 1 := if_pos (by omega)
           have eS : rsS2 (A0 26) (F0 25 20) (psF F0) = fiP (goM (A0 26) (F0 25 20) (psF F0)) 1 (-11) := by unfold rsS2; rw [e1]
           have eW : rsW (A0 26) (F0 25 20) (psF F0) = (goM (A0 26) (F0 25 20) (psF F0)).2.2.2.2.2 - 3 := by unfold rsW; rw [eS]; exact if_pos (by assumption)
           have eY : (if x_and (x_shr (F0 25 30) (rsW (A0 26) (F0 25 20) (psF F0))) 1 = 1 then (1 : Int) else 0) = 1 := if_pos (by rw [eW]; (try simp only [fiP_22]); assumption)
           have eT : rsS3 (A0 26) (F0 25 20) (F0 25 30) (psF F0) = fiP (fiP (goM (A0 26) (F0 25 20) (psF F0)) 1 (-11)) 1 (-13) := by unfold rsS3; rw [eY, eS]
           refine ⟨?_, ?_⟩
           · rw [eW]; (try simp only [fiP_22])
           · rw [eT, eW]; simp only [psS_S, fiP_22])
    · skip
      (try rw [w32_id (x := x_and _ 1) (x_and_r _ _).1 (x_and_r _ _).2, w32_id (x := 1) (by decide) (by decide)] at c2); (try simp only [fiP_22, inS_22, nmS_22, psF_e, psF_q, psF_p, psF_o, psF_t, psF_v] at c2); (try simp (disch := omega) only [w32_0, wbi0, Classical.not_not, w32_id] at c2)
      refine ⟨fun c3 => ?_, fun c3 => ?_⟩
      · skip
        (try rw [w32_id (x := x_and _ 1) (x_and_r _ _).1 (x_and_r _ _).2, w32_id (x := 1) (by decide) (by decide)] at c3); (try simp only [fiP_22, inS_22, nmS_22, psF_e, psF_q, psF_p, psF_o, psF_t, psF_v] at c3); (try simp (disch := omega) only [w32_0, wbi0, Classical.not_not, w32_id] at c3)
        refine ⟨by first | exact ⟨pt, pn, pk⟩ | exact ⟨Or.inl rfl, by omega, by omega⟩ | exact ⟨Or.inr rfl, by omega, by omega⟩, ?_⟩
        refine ⟨rfl, rfl, ?_⟩
        (try simp only [fiP_22])
        first
        | (have e1 : (if (¬ (goM (A0 26) (F0 25 20) (psF F0)).2.2.2.2.1 = 0) ∨ (goM (A0 26) (F0 25 20) (psF F0)).2.2.2.2.2 < 3 then (1 : Int) else 0) = 0 := if_neg (by omega)
           have eS : rsS2 (A0 26) (F0 25 20) (psF F0) = fiP (goM (A0 26) (F0 25 20) (psF F0)) 0 (-11) := by unfold rsS2; rw [e1]
           have eW : rsW (A0 26) (F0 25 20) (psF F0) = 0 := by unfold rsW; rw [eS]; exact if_neg (by assumption)
           have eY : (if x_and (x_shr (F0 25 30) (rsW (A0 26) (F0 25 20) (psF F0))) 1 = 1 then (1 : Int) else 0) = 0 := if_neg (by rw [eW]; (try simp only [fiP_22]); assumption)
           have eT : rsS3 (A0 26) (F0 25 20) (F0 25 30) (psF F0) = fiP (fiP (goM (A0 26) (F0 25 20) (psF F0)) 0 (-11)) 0 (-13) := by unfold rsS3; rw [eY, eS]
           refine ⟨?_, ?_⟩
           · rw [eW]; (try simp only [fiP_22])
           · rw [eT, eW]; simp only [psS_S, fiP_22])
        | (have e1 : (if (¬ (goM (A0 26) (F0 25 20) (psF F0)).2.2.2.2.1 = 0) ∨ (goM (A0 26) (F0 25 20) (psF F0)).2.2.2.2.2 < 3 then (1 : Int) else 0) = 0 := if_neg (by omega)
           have eS : rsS2 (A0 26) (F0 25 20) (psF F0) = fiP (goM (A0 26) (F0 25 20) (psF F0)) 0 (-11) := by unfold rsS2; rw [e1]
           have eW : rsW (A0 26) (F0 25 20) (psF F0) = 0 := by unfold rsW; rw [eS]; exact if_neg (by assumption)
           have eY : (if x_and (x_shr (F0 25 30) (rsW (A0 26) (F0 25 20) (psF F0))) 1 = 1 then (1 : Int) else 0) = 1 := if_pos (by rw [eW]; (try simp only [fiP_22]); assumption)
           have eT : rsS3 (A0 26) (F0 25 20) (F0 25 30) (psF F0) = fiP (fiP (goM (A0 26) (F0 25 20) (psF F0)) 0 (-11)) 1 (-13) := by unfold rsS3; rw [eY, eS]
           refine ⟨?_, ?_⟩
           · rw [eW]; (try simp only [fiP_22])
           · rw [eT, eW]; simp only [psS_S, fiP_22])
        | (have e1 : (if (¬ (goM (A0 26) (F0 25 20) (psF F0)).2.2.2.2.1 = 0) ∨ (goM (A0 26) (F0 25 20) (psF F0)).2.2.2.2.2 < 3 then (1 : Int) else 0) = 0 := if_neg (by omega)
           have eS : rsS2 (A0 26) (F0 25 20) (psF F0) = fiP (goM (A0 26) (F0 25 20) (psF F0)) 0 (-11) := by unfold rsS2; rw [e1]
           have eW : rsW (A0 26) (F0 25 20) (psF F0) = (goM (A0 26) (F0 25 20) (psF F0)).2.2.2.2.2 - 3 := by unfold rsW; rw [eS]; exact if_pos (by assumption)
           have eY : (if x_and (x_shr (F0 25 30) (rsW (A0 26) (F0 25 20) (psF F0))) 1 = 1 then (1 : Int) else 0) = 0 := if_neg (by rw [eW]; (try simp only [fiP_22]); assumption)
           have eT : rsS3 (A0 26) (F0 25 20) (F0 25 30) (psF F0) = fiP (fiP (goM (A0 26) (F0 25 20) (psF F0)) 0 (-11)) 0 (-13) := by unfold rsS3; rw [eY, eS]
           refine ⟨?_, ?_⟩
           · rw [eW]; (try simp only [fiP_22])
           · rw [eT, eW]; simp only [psS_S, fiP_22])
        | (have e1 : (if (¬ (goM (A0 26) (F0 25 20) (psF F0)).2.2.2.2.1 = 0) ∨ (goM (A0 26) (F0 25 20) (psF F0)).2.2.2.2.2 < 3 then (1 : Int) else 0) = 0 := if_neg (by omega)
           have eS : rsS2 (A0 26) (F0 25 20) (psF F0) = fiP (goM (A0 26) (F0 25 20) (psF F0)) 0 (-11) := by unfold rsS2; rw [e1]
           have eW : rsW (A0 26) (F0 25 20) (psF F0) = (goM (A0 26) (F0 25 20) (psF F0)).2.2.2.2.2 - 3 := by unfold rsW; rw [eS]; exact if_pos (by assumption)
           have eY : (if x_and (x_shr (F0 25 30) (rsW (A0 26) (F0 25 20) (psF F0))) 1 = 1 then (1 : Int) else 0) = 1 := if_pos (by rw [eW]; (try simp only [fiP_22]); assumption)
           have eT : rsS3 (A0 26) (F0 25 20) (F0 25 30) (psF F0) = fiP (fiP (goM (A0 26) (F0 25 20) (psF F0)) 0 (-11)) 1 (-13) := by unfold rsS3; rw [eY, eS]
           refine ⟨?_, ?_⟩
           · rw [eW]; (try simp only [fiP_22])
           · rw [eT, eW]; simp only [psS_S, fiP_22])
        | (have e1 : (if (¬ (goM (A0 26) (F0 25 20) (psF F0)).2.2.2.2.1 = 0) ∨ (goM (A0 26) (F0 25 20) (psF F0)).2.2.2.2.2 < 3 then (1 : Int) else 0) = 1 := if_pos (by omega)
           have eS : rsS2 (A0 26) (F0 25 20) (psF F0) = fiP (goM (A0 26) (F0 25 20) (psF F0)) 1 (-11) := by unfold rsS2; rw [e1]
           have eW : rsW (A0 26) (F0 25 20) (psF F0) = 0 := by unfold rsW; rw [eS]; exact if_neg (by assumption)
           have eY : (if x_and (x_shr (F0 25 30) (rsW (A0 26) (F0 25 20) (psF F0))) 1 = 1 then (1 : Int) else 0) = 0 := if_neg (by rw [eW]; (try simp only [fiP_22]); assumption)
           have eT : rsS3 (A0 26) (F0 25 20) (F0 25 30) (psF F0) = fiP (fiP (goM (A0 26) (F0 25 20) (psF F0)) 1 (-11)) 0 (-13) := by unfold rsS3; rw [eY, eS]
           refine ⟨?_, ?_⟩
           · rw [eW]; (try simp only [fiP_22])
           · rw [eT, eW]; simp only [psS_S, fiP_22])
        | (have e1 : (if (¬ (goM (A0 26) (F0 25 20) (psF F0)).2.2.2.2.1 = 0) ∨ (goM (A0 26) (F0 25 20) (psF F0)).2.2.2.2.2 < 3 then (1 : Int) else 0) = 1 := if_pos (by omega)
           have eS : rsS2 (A0 26) (F0 25 20) (psF F0) = fiP (goM (A0 26) (F0 25 20) (psF F0)) 1 (-11) := by unfold rsS2; rw [e1]
           have eW : rsW (A0 26) (F0 25 20) (psF F0) = 0 := by unfold rsW; rw [eS]; exact if_neg (by assumption)
           have eY : (if x_and (x_shr (F0 25 30) (rsW (A0 26) (F0 25 20) (psF F0))) 1 = 1 then (1 : Int) else 0) = 1 := if_pos (by rw [eW]; (try simp only [fiP_22]); assumption)
           have eT : rsS3 (A0 26) (F0 25 20) (F0 25 30) (psF F0) = fiP (fiP (goM (A0 26) (F0 25 20) (psF F0)) 1 (-11)) 1 (-13) := by unfold rsS3; rw [eY, eS]
           refine ⟨?_, ?_⟩
           · rw [eW]; (try simp only [fiP_22])
           · rw [eT, eW]; simp only [psS_S, fiP_22])
        | (have e1 : (if (¬ (goM (A0 26) (F0 25 20) (psF F0)).2.2.2.2.1 = 0) ∨ (goM (A0 26) (F0 25 20) (psF F0)).2.2.2.2.2 < 3 then (1 : Int) else 0) = 1 := if_pos (by omega)
           have eS : rsS2 (A0 26) (F0 25 20) (psF F0) = fiP (goM (A0 26) (F0 25 20) (psF F0)) 1 (-11) := by unfold rsS2; rw [e1]
           have eW : rsW (A0 26) (F0 25 20) (psF F0) = (goM (A0 26) (F0 25 20) (psF F0)).2.2.2.2.2 - 3 := by unfold rsW; rw [eS]; exact if_pos (by assumption)
           have eY : (if x_and (x_shr (F0 25 30) (rsW (A0 26) (F0 25 20) (psF F0))) 1 = 1 then (1 : Int) else 0) = 0 := if_neg (by rw [eW]; (try simp only [fiP_22]); assumption)
           have eT : rsS3 (A0 26) (F0 25 20) (F0 25 30) (psF F0) = fiP (fiP (goM (A0 26) (F0 25 20) (psF F0)) 1 (-11)) 0 (-13) := by unfold rsS3; rw [eY, eS]
           refine ⟨?_, ?_⟩
           · rw [eW]; (try simp only [fiP_22])
           · rw [eT, eW]; simp only [psS_S, fiP_22])
        | (have e1 : (if (¬ (goM (A0 26) (F0 25 20) (psF F0)).2.2.2.2.1 = 0) ∨ (goM (A0 26) (F0 25 20) (psF F0)).2.2.2.2.2 < 3 then (1 : Int) else 0) = 1 := if_pos (by omega)
           have eS : rsS2 (A0 26) (F0 25 20) (psF F0) = fiP (goM (A0 26) (F0 25 20) (psF F0)) 1 (-11) := by unfold rsS2; rw [e1]
           have eW : rsW (A0 26) (F0 25 20) (psF F0) = (goM (A0 26) (F0 25 20) (psF F0)).2.2.2.2.2 - 3 := by unfold rsW; rw [eS]; exact if_pos (by assumption)
           have eY : (if x_and (x_shr (F0 25 30) (rsW (A0 26) (F0 25 20) (psF F0))) 1 = 1 then (1 : Int) else 0) = 1 := if_pos (by rw [eW]; (try simp only [fiP_22]); assumption)
           have eT : rsS3 (A0 26) (F0 25 20) (F0 25 30) (psF F0) = fiP (fiP (goM (A0 26) (F0 25 20) (psF F0)) 1 (-11)) 1 (-13) := by unfold rsS3; rw [eY, eS]
           refine ⟨?_, ?_⟩
           · rw [eW]; (try simp only [fiP_22])
           · rw [eT, eW]; simp only [psS_S, fiP_22])
      · skip
        (try rw [w32_id (x := x_and _ 1) (x_and_r _ _).1 (x_and_r _ _).2, w32_id (x := 1) (by decide) (by decide)] at c3); (try simp only [fiP_22, inS_22, nmS_22, psF_e, psF_q, psF_p, psF_o, psF_t, psF_v] at c3); (try simp (disch := omega) only [w32_0, wbi0, Classical.not_not, w32_id] at c3)
        refine ⟨by first | exact ⟨pt, pn, pk⟩ | exact ⟨Or.inl rfl, by omega, by omega⟩ | exact ⟨Or.inr rfl, by omega, by omega⟩, ?_⟩
        refine ⟨rfl, rfl, ?_⟩
        (try simp only [fiP_22])
        first
        | (have e1 : (if (¬ (goM (A0 26) (F0 25 20) (psF F0)).2.2.2.2.1 = 0) ∨ (goM (A0 26) (F0 25 20) (psF F0)).2.2.2.2.2 < 3 then (1 : Int) else 0) = 0 := if_neg (by omega)
           have eS : rsS2 (A0 26) (F0 25 20) (psF F0) = fiP (goM (A0 26) (F0 25 20) (psF F0)) 0 (-11) := by unfold rsS2; rw [e1]
           have eW : rsW (A0 26) (F0 25 20) (psF F0) = 0 := by unfold rsW; rw [eS]; exact if_neg (by assumption)
           have eY : (if x_and (x_shr (F0 25 30) (rsW (A0 26) (F0 25 20) (psF F0))) 1 = 1 then (1 : Int) else 0) = 0 := if_neg (by rw [eW]; (try simp only [fiP_22]); assumption)
           have eT : rsS3 (A0 26) (F0 25 20) (F0 25 30) (psF F0) = fiP (fiP (goM (A0 26) (F0 25 20) (psF F0)) 0 (-11)) 0 (-13) := by unfold rsS3; rw [eY, eS]
           refine ⟨?_, ?_⟩
           · rw [eW]; (try simp only [fiP_22])
           · rw [eT, eW]; simp only [psS_S, fiP_22])
        | (have e1 : (if (¬ (goM (A0 26) (F0 25 20) (psF F0)).2.2.2.2.1 = 0) ∨ (goM (A0 26) (F0 25 20) (psF F0)).2.2.2.2.2 < 3 then (1 : Int) else 0) = 0 := if_neg (by omega)
           have eS : rsS2 (A0 26) (F0 25 20) (psF F0) = fiP (goM (A0 26) (F0 25 20) (psF F0)) 0 (-11) := by unfold rsS2; rw [e1]
           have eW : rsW (A0 26) (F0 25 20) (psF F0) = 0 := by unfold rsW; rw [eS]; exact if_neg (by assumption)
           have eY : (if x_and (x_shr (F0 25 30) (rsW (A0 26) (F0 25 20) (psF F0))) 1 = 1 then (1 : Int) else 0) = 1 := if_pos (by rw [eW]; (try simp only [fiP_22]); assumption)
           have eT : rsS3 (A0 26) (F0 25 20) (F0 25 30) (psF F0) = fiP (fiP (goM (A0 26) (F0 25 20) (psF F0)) 0 (-11)) 1 (-13) := by unfold rsS3; rw [eY, eS]
           refine ⟨?_, ?_⟩
           · rw [eW]; (try simp only [fiP_22])
           · rw [eT, eW]; simp only [psS_S, fiP_22])
        | (have e1 : (if (¬ (goM (A0 26) (F0 25 20) (psF F0)).2.2.2.2.1 = 0) ∨ (goM (A0 26) (F0 25 20) (psF F0)).2.2.2.2.2 < 3 then (1 : Int) else 0) = 0 := if_neg (by omega)
           have eS : rsS2 (A0 26) (F0 25 20) (psF F0) = fiP (goM (A0 26) (F0 25 20) (psF F0)) 0 (-11) := by unfold rsS2; rw [e1]
           have eW : rsW (A0 26) (F0 25 20) (psF F0) = (goM (A0 26) (F0 25 20) (psF F0)).2.2.2.2.2 - 3 := by unfold rsW; rw [eS]; exact if_pos (by assumption)
           have eY : (if x_and (x_shr (F0 25 30) (rsW (A0 26) (F0 25 20) (psF F0))) 1 = 1 then (1 : Int) else 0) = 0 := if_neg (by rw [eW]; (try simp only [fiP_22]); assumption)
           have eT : rsS3 (A0 26) (F0 25 20) (F0 25 30) (psF F0) = fiP (fiP (goM (A0 26) (F0 25 20) (psF F0)) 0 (-11)) 0 (-13) := by unfold rsS3; rw [eY, eS]
           refine ⟨?_, ?_⟩
           · rw [eW]; (try simp only [fiP_22])
           · rw [eT, eW]; simp only [psS_S, fiP_22])
        | (have e1 : (if (¬ (goM (A0 26) (F0 25 20) (psF F0)).2.2.2.2.1 = 0) ∨ (goM (A0 26) (F0 25 20) (psF F0)).2.2.2.2.2 < 3 then (1 : Int) else 0) = 0 := if_neg (by omega)
           have eS : rsS2 (A0 26) (F0 25 20) (psF F0) = fiP (goM (A0 26) (F0 25 20) (psF F0)) 0 (-11) := by unfold rsS2; rw [e1]
           have eW : rsW (A0 26) (F0 25 20) (psF F0) = (goM (A0 26) (F0 25 20) (psF F0)).2.2.2.2.2 - 3 := by unfold rsW; rw [eS]; exact if_pos (by assumption)
           have eY : (if x_and (x_shr (F0 25 30) (rsW (A0 26) (F0 25 20) (psF F0))) 1 = 1 then (1 : Int) else 0) = 1 := if_pos (by rw [eW]; (try simp only [fiP_22]); assumption)
           have eT : rsS3 (A0 26) (F0 25 20) (F0 25 30) (psF F0) = fiP (fiP (goM (A0 26) (F0 25 20) (psF F0)) 0 (-11)) 1 (-13) := by unfold rsS3; rw [eY, eS]
           refine ⟨?_, ?_⟩
           · rw [eW]; (try simp only [fiP_22])
           · rw [eT, eW]; simp only [psS_S, fiP_22])
        | (have e1 : (if (¬ (goM (A0 26) (F0 25 20) (psF F0)).2.2.2.2.1 = 0) ∨ (goM (A0 26) (F0 25 20) (psF F0)).2.2.2.2.2 < 3 then (1 : Int) else 0) = 1 := if_pos (by omega)
           have eS : rsS2 (A0 26) (F0 25 20) (psF F0) = fiP (goM (A0 26) (F0 25 20) (psF F0)) 1 (-11) := by unfold rsS2; rw [e1]
           have eW : rsW (A0 26) (F0 25 20) (psF F0) = 0 := by unfold rsW; rw [eS]; exact if_neg (by assumption)
           have eY : (if x_and (x_shr (F0 25 30) (rsW (A0 26) (F0 25 20) (psF F0))) 1 = 1 then (1 : Int) else 0) = 0 := if_neg (by rw [eW]; (try simp only [fiP_22]); assumption)
           have eT : rsS3 (A0 26) (F0 25 20) (F0 25 30) (psF F0) = fiP (fiP (goM (A0 26) (F0 25 20) (psF F0)) 1 (-11)) 0 (-13) := by unfold rsS3; rw [eY, eS]
           refine ⟨?_, ?_⟩
           · rw [eW]; (try simp only [fiP_22])
           · rw [eT, eW]; simp only [psS_S, fiP_22])
        | (have e1 : (if (¬ (goM (A0 26) (F0 25 20) (psF F0)).2.2.2.2.1 = 0) ∨ (goM (A0 26) (F0 25 20) (psF F0)).2.2.2.2.2 < 3 then (1 : Int) else 0) = 1 := if_pos (by omega)
           have eS : rsS2 (A0 26) (F0 25 20) (psF F0) = fiP (goM (A0 26) (F0 25 20) (psF F0)) 1 (-11) := by unfold rsS2; rw [e1]
           have eW : rsW (A0 26) (F0 25 20) (psF F0) = 0 := by unfold rsW; rw [eS]; exact if_neg (by assumption)
           have eY : (if x_and (x_shr (F0 25 30) (rsW (A0 26) (F0 25 20) (psF F0))) 1 = 1 then (1 : Int) else 0) = 1 := if_pos (by rw [eW]; (try simp only [fiP_22]); assumption)
           have eT : rsS3 (A0 26) (F0 25 20) (F0 25 30) (psF F0) = fiP (fiP (goM (A0 26) (F0 25 20) (psF F0)) 1 (-11)) 1 (-13) := by unfold rsS3; rw [eY, eS]
           refine ⟨?_, ?_⟩
           · rw [eW]; (try simp only [fiP_22])
           · rw [eT, eW]; simp only [psS_S, fiP_22])
        | (have e1 : (if (¬ (goM (A0 26) (F0 25 20) (psF F0)).2.2.2.2.1 = 0) ∨ (goM (A0 26) (F0 25 20) (psF F0)).2.2.2.2.2 < 3 then (1 : Int) else 0) = 1 := if_pos (by omega)
           have eS : rsS2 (A0 26) (F0 25 20) (psF F0) = fiP (goM (A0 26) (F0 25 20) (psF F0)) 1 (-11) := by unfold rsS2; rw [e1]
           have eW : rsW (A0 26) (F0 25 20) (psF F0) = (goM (A0 26) (F0 25 20) (psF F0)).2.2.2.2.2 - 3 := by unfold rsW; rw [eS]; exact if_pos (by assumption)
           have eY : (if x_and (x_shr (F0 25 30) (rsW (A0 26) (F0 25 20) (psF F0))) 1 = 1 then (1 : Int) else 0) = 0 := if_neg (by rw [eW]; (try simp only [fiP_22]); assumption)
           have eT : rsS3 (A0 26) (F0 25 20) (F0 25 30) (psF F0) = fiP (fiP (goM (A0 26) (F0 25 20) (psF F0)) 1 (-11)) 0 (-13) := by unfold rsS3; rw [eY, eS]
           refine ⟨?_, ?_⟩
           · rw [eW]; (try simp only [fiP_22])
           · rw [eT, eW]; simp only [psS_S, fiP_22])
        | (have e1 : (if (¬ (goM (A0 26) (F0 25 20) (psF F0)).2.2.2.2.1 = 0) ∨ (goM (A0 26) (F0 25 20) (psF F0)).2.2.2.2.2 < 3 then (1 : Int) else 0) = 1 := if_pos (by omega)
           have eS : rsS2 (A0 26) (F0 25 20) (psF F0) = fiP (goM (A0 26) (F0 25 20) (psF F0)) 1 (-11) := by unfold rsS2; rw [e1]
           have eW : rsW (A0 26) (F0 25 20) (psF F0) = (goM (A0 26) (F0 25 20) (psF F0)).2.2.2.2.2 - 3 := by unfold rsW; rw [eS]; exact if_pos (by assumption)
           have eY : (if x_and (x_shr (F0 25 30) (rsW (A0 26) (F0 25 20) (psF F0))) 1 = 1 then (1 : Int) else 0) = 1 := if_pos (by rw [eW]; (try simp only [fiP_22]); assumption)
           have eT : rsS3 (A0 26) (F0 25 20) (F0 25 30) (psF F0) = fiP (fiP (goM (A0 26) (F0 25 20) (psF F0)) 1 (-11)) 1 (-13) := by unfold rsS3; rw [eY, eS]
           refine ⟨?_, ?_⟩
           · rw [eW]; (try simp only [fiP_22])
           · rw [eT, eW]; simp only [psS_S, fiP_22])
set_option maxRecDepth 20000 in
theorem qvX9_readSetting_25_83  (F0 : FF) (A0 : AA) (K : KK) (h : ((byO (A0 26) ∧ (0 ≤ (F0 25 20) ∧ (F0 25 20) ≤ 800) ∧ psOK ((F0 25 20)) (psF F0)) ∧ (0 ≤ (F0 25 30) ∧ (F0 25 30) ≤ 3)) ∧ (K (some none) (upF (psS F0 (rsS5 (A0 26) ((F0 25 20)) ((F0 25 30)) (psF F0))) 25 30 (x_or ((F0 25 30)) (x_shl 1 (rsW (A0 26) ((F0 25 20)) (psF F0))))) (rsA A0 ((F0 25 20)) ((F0 25 30)) (psF F0)))) (w : Int) (F : FF) (hi : w = rsW (A0 26) (F0 25 20) (psF F0) ∧ F = upF (psS F0 (rsS3 (A0 26) (F0 25 20) (F0 25 30) (psF F0))) 25 30 (x_or (F0 25 30) (x_shl 1 (rsW (A0 26) (F0 25 20) (psF F0))))) : am_stp qxX9_readSetting (am_run qxX9_readSetting qnX9_readSetting_25 (fun pc ls st F9 A9 u => qiX9_readSetting_25  F0 A0 pc ls st F9 A9 u ∧ quX9_readSetting_25 pc ls st F9 A9 < quX9_readSetting_25 83 [some (vR 25), some (vI w), none] [] F A0) K 47) K 83 [some (vR 25), some (vI w), none] [] F A0 0 := by
  obtain ⟨hp, h⟩ := h
  obtain ⟨⟨pt, pn, pk⟩, pg⟩ := hp
  have kg := goM_ok (T := A0 26) pk pn.1 pn.2
  have kge := kg.1
  have kgt := kg.2.2.2.2.1
  have kgv := kg.2.2.2.2.2.2
  have k2 : psOK (F0 25 20) (rsS2 (A0 26) (F0 25 20) (psF F0)) := fiP_ok kg pn.2 (by decide)
  have k2e := k2.1
  have k3 : psOK (F0 25 20) (rsS3 (A0 26) (F0 25 20) (F0 25 30) (psF F0)) := fiP_ok k2 pn.2 (by decide)
  have k4 := goM_ok (T := A0 26) k3 pn.1 pn.2
  have wb := rsW_b (A0 26) (F0 25 20) (psF F0)
  have j20 := fiP_ok (z := 0) (v := -11) kg pn.2 (by decide)
  have j21 := fiP_ok (z := 1) (v := -11) kg pn.2 (by decide)
  have j20e := j20.1
  have j21e := j21.1
  obtain ⟨h1, rfl⟩ := hi
  have wt : (if w = 0 then (12 : Int) else 6) = tpM w := rfl
  have e5p : (goM (A0 26) (F0 25 20) (inS 1 (tpM w) (goM (A0 26) (F0 25 20) (rsS3 (A0 26) (F0 25 20) (F0 25 30) (psF F0))))).1 = (rsS5 (A0 26) (F0 25 20) (F0 25 30) (psF F0)).1 := by rw [h1]; rfl
  have k5 : -14 ≤ (rsS5 (A0 26) (F0 25 20) (F0 25 30) (psF F0)).1 ∧ (rsS5 (A0 26) (F0 25 20) (F0 25 30) (psF F0)).1 ≤ 0 := (goM_ok (T := A0 26) (inS_ok (a := 1) (b := tpM (rsW (A0 26) (F0 25 20) (psF F0))) k4 pn.2) pn.1 pn.2).1
  show (byO (A0 26) ∧ (0 ≤ (F0 25 20) ∧ (F0 25 20) ≤ 800) ∧ psOK ((F0 25 20)) ((rsS3 (A0 26) (F0 25 20) (F0 25 30) (psF F0)))) ∧ (((-2147483648 ≤ w ∧ w < 2147483648)) ∧ (((byO (A0 26) ∧ (0 ≤ (F0 25 20) ∧ (F0 25 20) ≤ 800) ∧ psOK ((F0 25 20)) ((goM (A0 26) ((F0 25 20)) ((rsS3 (A0 26) (F0 25 20) (F0 25 30) (psF F0)))))) ∧ (-2147483648 ≤ 1 ∧ 1 < 2147483648) ∧ (-2147483648 ≤ (if w = 0 then 12 else 6) ∧ (if w = 0 then 12 else 6) < 2147483648)) ∧ ((w32 ((goM (A0 26) ((F0 25 20)) (inS 1 (if w = 0 then 12 else 6) ((goM (A0 26) ((F0 25 20)) ((rsS3 (A0 26) (F0 25 20) (F0 25 30) (psF F0))))))).1) = w32 0 → ((0 ≤ w32 (122 + w) ∧ w32 (122 + w) < 124) ∧ (K (some none) (psS (psS (upF (psS F0 (rsS3 (A0 26) (F0 25 20) (F0 25 30) (psF F0))) 25 30 (x_or (F0 25 30) (x_shl 1 (rsW (A0 26) (F0 25 20) (psF F0))))) (goM (A0 26) ((F0 25 20)) ((rsS3 (A0 26) (F0 25 20) (F0 25 30) (psF F0))))) (goM (A0 26) ((F0 25 20)) (inS 1 (if w = 0 then 12 else 6) ((goM (A0 26) ((F0 25 20)) ((rsS3 (A0 26) (F0 25 20) (F0 25 30) (psF F0)))))))) (upA A0 29 (w32 (122 + w)) (inV 1 (if w = 0 then 12 else 6) ((goM (A0 26) ((F0 25 20)) ((rsS3 (A0 26) (F0 25 20) (F0 25 30) (psF F0)))))))))) ∧ (¬ w32 ((goM (A0 26) ((F0 25 20)) (inS 1 (if w = 0 then 12 else 6) ((goM (A0 26) ((F0 25 20)) ((rsS3 (A0 26) (F0 25 20) (F0 25 30) (psF F0))))))).1) = w32 0 → (K (some none) (psS (psS (upF (psS F0 (rsS3 (A0 26) (F0 25 20) (F0 25 30) (psF F0))) 25 30 (x_or (F0 25 30) (x_shl 1 (rsW (A0 26) (F0 25 20) (psF F0))))) (goM (A0 26) ((F0 25 20)) ((rsS3 (A0 26) (F0 25 20) (F0 25 30) (psF F0))))) (goM (A0 26) ((F0 25 20)) (inS 1 (if w = 0 then 12 else 6) ((goM (A0 26) ((F0 25 20)) ((rsS3 (A0 26) (F0 25 20) (F0 25 30) (psF F0)))))))) A0)))))
  refine ⟨by first | decide | exact ⟨pt, pn, k3⟩ | omega | (rw [w32_id (by omega) (by omega)]; omega) | exact ⟨⟨pt, pn, k4⟩, by decide, by omega, by omega⟩, ?_⟩
  refine ⟨by first | decide | exact ⟨pt, pn, k3⟩ | omega | (rw [w32_id (by omega) (by omega)]; omega) | exact ⟨⟨pt, pn, k4⟩, by decide, by omega, by omega⟩, ?_⟩
  refine ⟨by first | decide | exact ⟨pt, pn, k3⟩ | omega | (rw [w32_id (by omega) (by omega)]; omega) | exact ⟨⟨pt, pn, k4⟩, by decide, by omega, by omega⟩, ?_⟩
  refine ⟨fun c1 => ?_, fun c1 => ?_⟩
  · skip
    (try rw [wt] at c1); (try rw [e5p] at c1); (try simp only [fiP_22, inS_22, nmS_22, psF_e, psF_q, psF_p, psF_o, psF_t, psF_v] at c1); (try simp (disch := omega) only [w32_0, wbi0, Classical.not_not, w32_id] at c1)
    refine ⟨by first | decide | exact ⟨pt, pn, k3⟩ | omega | (rw [w32_id (by omega) (by omega)]; omega) | exact ⟨⟨pt, pn, k4⟩, by decide, by omega, by omega⟩, ?_⟩
    simp only [wt]
    rw [psS_up (by decide), psS_up (by decide)]
    simp only [psS_S]
    have e5 : goM (A0 26) (F0 25 20) (inS 1 (tpM w) (goM (A0 26) (F0 25 20) (rsS3 (A0 26) (F0 25 20) (F0 25 30) (psF F0)))) = rsS5 (A0 26) (F0 25 20) (F0 25 30) (psF F0) := by rw [h1]; rfl
    first
    | (have e0 : ¬ (rsS5 (A0 26) (F0 25 20) (F0 25 30) (psF F0)).1 = 0 := by assumption
       have eA : rsA A0 (F0 25 20) (F0 25 30) (psF F0) = A0 := by unfold rsA; rw [if_neg e0]
       rw [eA] at h
       rw [← h1] at h ⊢
       rw [e5]
       exact h)
    | (have e0 : (rsS5 (A0 26) (F0 25 20) (F0 25 30) (psF F0)).1 = 0 := by assumption
       have eA : rsA A0 (F0 25 20) (F0 25 30) (psF F0) = _ := if_pos e0
       rw [eA] at h
       rw [← h1] at h ⊢
       have eV : inV 1 (tpM w) (goM (A0 26) (F0 25 20) (rsS3 (A0 26) (F0 25 20) (F0 25 30) (psF F0))) = rsV (A0 26) (F0 25 20) (F0 25 30) (psF F0) := by rw [h1]; rfl
       rw [e5, eV, w32_id (by omega) (by omega)]
       exact h)
  · skip
    (try rw [wt] at c1); (try rw [e5p] at c1); (try simp only [fiP_22, inS_22, nmS_22, psF_e, psF_q, psF_p, psF_o, psF_t, psF_v] at c1); (try simp (disch := omega) only [w32_0, wbi0, Classical.not_not, w32_id] at c1)
    simp only [wt]
    rw [psS_up (by decide), psS_up (by decide)]
    simp only [psS_S]
    have e5 : goM (A0 26) (F0 25 20) (inS 1 (tpM w) (goM (A0 26) (F0 25 20) (rsS3 (A0 26) (F0 25 20) (F0 25 30) (psF F0)))) = rsS5 (A0 26) (F0 25 20) (F0 25 30) (psF F0) := by rw [h1]; rfl
    first
    | (have e0 : ¬ (rsS5 (A0 26) (F0 25 20) (F0 25 30) (psF F0)).1 = 0 := by assumption
       have eA : rsA A0 (F0 25 20) (F0 25 30) (psF F0) = A0 := by unfold rsA; rw [if_neg e0]
       rw [eA] at h
       rw [← h1] at h ⊢
       rw [e5]
       exact h)
    | (have e0 : (rsS5 (A0 26) (F0 25 20) (F0 25 30) (psF F0)).1 = 0 := by assumption
       have eA : rsA A0 (F0 25 20) (F0 25 30) (psF F0) = _ := if_pos e0
       rw [eA] at h
       rw [← h1] at h ⊢
       have eV : inV 1 (tpM w) (goM (A0 26) (F0 25 20) (rsS3 (A0 26) (F0 25 20) (F0 25 30) (psF F0))) = rsV (A0 26) (F0 25 20) (F0 25 30) (psF F0) := by rw [h1]; rfl
       rw [e5, eV, w32_id (by omega) (by omega)]
       exact h)
set_option maxRecDepth 20000 in
theorem qvX9_readSetting_25  (F0 : FF) (A0 : AA) (K : KK) (h : ((byO (A0 26) ∧ (0 ≤ (F0 25 20) ∧ (F0 25 20) ≤ 800) ∧ psOK ((F0 25 20)) (psF F0)) ∧ (0 ≤ (F0 25 30) ∧ (F0 25 30) ≤ 3)) ∧ (K (some none) (upF (psS F0 (rsS5 (A0 26) ((F0 25 20)) ((F0 25 30)) (psF F0))) 25 30 (x_or ((F0 25 30)) (x_shl 1 (rsW (A0 26) ((F0 25 20)) (psF F0))))) (rsA A0 ((F0 25 20)) ((F0 25 30)) (psF F0)))) : am_body qxX9_readSetting qnX9_readSetting_25 47 (qiX9_readSetting_25  F0 A0) quX9_readSetting_25 [vR 25] 3 F0 A0 K := by
  refine ⟨qvX9_readSetting_25_0  F0 A0 K h, fun pc ls st F A u hI => ?_⟩
  unfold qiX9_readSetting_25 at hI
  replace hI := am_cond2 hI
  rcases hI with ⟨hb, hI⟩ | hI
  · have hb := am_bq hb
    subst hb
    split at hI
    · rename_i s0 w
      obtain ⟨e0, e1, hI⟩ := hI
      subst e0
      subst e1
      exact qvX9_readSetting_25_83  _ _ K h _ _ hI
    · exact hI.elim
  exact hI.elim
theorem qtX9_readSetting (l : Launch) (hst : l.stackTraces = false) : am_CT l layM qeX9_readSetting := am_met1 hst rfl (by decide +kernel) rfl rfl rfl rfl rfl (fun _ _ h => by cases h) rfl (qzX9_readSetting l hst) (fun as F A K h => by
  replace h : qsX9_readSetting as F A K := h
  unfold qsX9_readSetting at h
  split at h
  · rename_i o
    refine ⟨by first | exact Nat.le_of_ble_eq_true rfl | simp [am_fl, am_cat], ?_⟩
    replace h := am_cond2 h
    rcases h with ⟨hb, h⟩ | h
    · skip
      have hb0 := hb
      have hb0 := am_bq hb0
      subst hb0
      exact am_way_body (qvX9_readSetting_25  F A K h)
    exact h.elim
  · exact h.elim)
