def qkX7_readLine : Nat → Option CI := fun pc => cond (Nat.ble 164 pc) none (cond (Nat.ble 78 pc) (cond (Nat.ble 122 pc) (cond (Nat.ble 141 pc) (cond (Nat.ble 152 pc) (cond (Nat.ble 159 pc) (cond (Nat.beq pc 159) (some (.goto (-115), 162, [44])) (cond (Nat.beq pc 162) (some (.iconst 0, 163, [])) (cond (Nat.beq pc 163) (some (.ireturn, 164, [])) (none)))) (cond (Nat.beq pc 152) (some (.aload_n 0, 153, [])) (cond (Nat.beq pc 153) (some (.invokevirtual 36, 156, [])) (cond (Nat.beq pc 156) (some (.iinc 4 1, 159, [])) (none))))) (cond (Nat.ble 145 pc) (cond (Nat.beq pc 145) (some (.aload_n 0, 146, [])) (cond (Nat.beq pc 146) (some (.getfield 69, 149, [])) (cond (Nat.beq pc 149) (some (.invokevirtual 100, 152, [])) (none)))) (cond (Nat.beq pc 141) (some (.ineg, 142, [])) (cond (Nat.beq pc 142) (some (.goto 7, 145, [149])) (none))))) (cond (Nat.ble 129 pc) (cond (Nat.ble 134 pc) (cond (Nat.beq pc 134) (some (.ifCond .eq 11, 137, [145])) (cond (Nat.beq pc 137) (some (.aload_n 0, 138, [])) (cond (Nat.beq pc 138) (some (.getfield 69, 141, [])) (none)))) (cond (Nat.beq pc 129) (some (.iload_n 3, 130, [])) (cond (Nat.beq pc 130) (some (.iload 4, 132, [])) (cond (Nat.beq pc 132) (some (.iload 5, 134, [])) (none))))) (cond (Nat.ble 126 pc) (cond (Nat.beq pc 126) (some (.iload_n 2, 127, [])) (cond (Nat.beq pc 127) (some (.ireturn, 128, [])) (cond (Nat.beq pc 128) (some (.aload_n 1, 129, [])) (none)))) (cond (Nat.beq pc 122) (some (.iload_n 2, 123, [])) (cond (Nat.beq pc 123) (some (.ifCond .eq 5, 126, [128])) (none)))))) (cond (Nat.ble 100 pc) (cond (Nat.ble 109 pc) (cond (Nat.ble 116 pc) (cond (Nat.beq pc 116) (some (.ifCond .ne 6, 119, [122])) (cond (Nat.beq pc 119) (some (.bipush (-12), 121, [])) (cond (Nat.beq pc 121) (some (.istore_n 2, 122, [])) (none)))) (cond (Nat.beq pc 109) (some (.ifCond .ne 13, 112, [122])) (cond (Nat.beq pc 112) (some (.aload_n 0, 113, [])) (cond (Nat.beq pc 113) (some (.getfield 69, 116, [])) (none))))) (cond (Nat.ble 104 pc) (cond (Nat.beq pc 104) (some (.iload_n 3, 105, [])) (cond (Nat.beq pc 105) (some (.iconst 0, 106, [])) (cond (Nat.beq pc 106) (some (.invokevirtual 97, 109, [])) (none)))) (cond (Nat.beq pc 100) (some (.if_icmp .ne 22, 103, [122])) (cond (Nat.beq pc 103) (some (.aload_n 1, 104, [])) (none))))) (cond (Nat.ble 89 pc) (cond (Nat.ble 94 pc) (cond (Nat.beq pc 94) (some (.ifCond .ne 28, 97, [122])) (cond (Nat.beq pc 97) (some (.iload 4, 99, [])) (cond (Nat.beq pc 99) (some (.iconst 1, 100, [])) (none)))) (cond (Nat.beq pc 89) (some (.invokevirtual 88, 92, [])) (cond (Nat.beq pc 92) (some (.istore_n 2, 93, [])) (cond (Nat.beq pc 93) (some (.iload_n 2, 94, [])) (none))))) (cond (Nat.ble 82 pc) (cond (Nat.beq pc 82) (some (.iconst 5, 83, [])) (cond (Nat.beq pc 83) (some (.goto 6, 86, [89])) (cond (Nat.beq pc 86) (some (.sipush 200, 89, [])) (none)))) (cond (Nat.beq pc 78) (some (.iconst 2, 79, [])) (cond (Nat.beq pc 79) (some (.if_icmp .ge 7, 82, [86])) (none))))))) (cond (Nat.ble 37 pc) (cond (Nat.ble 58 pc) (cond (Nat.ble 67 pc) (cond (Nat.ble 74 pc) (cond (Nat.beq pc 74) (some (.aload_n 0, 75, [])) (cond (Nat.beq pc 75) (some (.iconst 0, 76, [])) (cond (Nat.beq pc 76) (some (.iload 4, 78, [])) (none)))) (cond (Nat.beq pc 67) (some (.ifCond .eq 7, 70, [74])) (cond (Nat.beq pc 70) (some (.aload_n 0, 71, [])) (cond (Nat.beq pc 71) (some (.invokevirtual 36, 74, [])) (none))))) (cond (Nat.ble 62 pc) (cond (Nat.beq pc 62) (some (.iconst 0, 63, [])) (cond (Nat.beq pc 63) (some (.istore 5, 65, [])) (cond (Nat.beq pc 65) (some (.iload 5, 67, [])) (none)))) (cond (Nat.beq pc 58) (some (.iconst 1, 59, [])) (cond (Nat.beq pc 59) (some (.goto 4, 62, [63])) (none))))) (cond (Nat.ble 46 pc) (cond (Nat.ble 51 pc) (cond (Nat.beq pc 51) (some (.getfield 39, 54, [])) (cond (Nat.beq pc 54) (some (.iconst 3, 55, [])) (cond (Nat.beq pc 55) (some (.if_icmp .ne 7, 58, [62])) (none)))) (cond (Nat.beq pc 46) (some (.iconst 3, 47, [])) (cond (Nat.beq pc 47) (some (.if_icmp .ge 115, 50, [162])) (cond (Nat.beq pc 50) (some (.aload_n 0, 51, [])) (none))))) (cond (Nat.ble 41 pc) (cond (Nat.beq pc 41) (some (.iconst 0, 42, [])) (cond (Nat.beq pc 42) (some (.istore 4, 44, [])) (cond (Nat.beq pc 44) (some (.iload 4, 46, [])) (none)))) (cond (Nat.beq pc 37) (some (.aload_n 0, 38, [])) (cond (Nat.beq pc 38) (some (.invokevirtual 36, 41, [])) (none)))))) (cond (Nat.ble 18 pc) (cond (Nat.ble 27 pc) (cond (Nat.ble 30 pc) (cond (Nat.beq pc 30) (some (.getfield 69, 33, [])) (cond (Nat.beq pc 33) (some (.invokevirtual 94, 36, [])) (cond (Nat.beq pc 36) (some (.istore_n 3, 37, [])) (none)))) (cond (Nat.beq pc 27) (some (.ireturn, 28, [])) (cond (Nat.beq pc 28) (some (.aload_n 1, 29, [])) (cond (Nat.beq pc 29) (some (.aload_n 0, 30, [])) (none))))) (cond (Nat.ble 22 pc) (cond (Nat.beq pc 22) (some (.iload_n 2, 23, [])) (cond (Nat.beq pc 23) (some (.ifCond .eq 5, 26, [28])) (cond (Nat.beq pc 26) (some (.iload_n 2, 27, [])) (none)))) (cond (Nat.beq pc 18) (some (.invokevirtual 66, 21, [])) (cond (Nat.beq pc 21) (some (.istore_n 2, 22, [])) (none))))) (cond (Nat.ble 11 pc) (cond (Nat.ble 13 pc) (cond (Nat.beq pc 13) (some (.invokevirtual 36, 16, [])) (cond (Nat.beq pc 16) (some (.aload_n 0, 17, [])) (cond (Nat.beq pc 17) (some (.aload_n 1, 18, [])) (none)))) (cond (Nat.beq pc 11) (some (.ireturn, 12, [])) (cond (Nat.beq pc 12) (some (.aload_n 0, 13, [])) (none)))) (cond (Nat.ble 4 pc) (cond (Nat.beq pc 4) (some (.bipush 6, 6, [])) (cond (Nat.beq pc 6) (some (.if_icmp .lt 6, 9, [12])) (cond (Nat.beq pc 9) (some (.bipush (-14), 11, [])) (none)))) (cond (Nat.beq pc 0) (some (.aload_n 1, 1, [])) (cond (Nat.beq pc 1) (some (.invokevirtual 91, 4, [])) (none))))))))
theorem qkX7_readLine_ok : ∀ pc i nx ts, qkX7_readLine pc = some (i, nx, ts) → am_cok cX7_readLine pc (i, nx, ts) = true := fun pc i nx ts h => am_tok_ok (n := 164) (by decide +kernel) (fun pc h => by show cond (Nat.ble 164 pc) _ _ = _; rw [Nat.ble_eq_true_of_le h]; rfl) h
def qaX7_readLine : Nat → Option CE := fun k => cond (Nat.beq k 91) (some qeX2_lines) (cond (Nat.beq k 36) (some qeX7_advance) (cond (Nat.beq k 66) (some qeX7_checkName) (cond (Nat.beq k 94) (some qeX2_addLine) (cond (Nat.beq k 88) (some qeX7_checkInteger) (cond (Nat.beq k 97) (some qeX2_lineValue) (cond (Nat.beq k 100) (some qeX2_putLineValue) (none)))))))
theorem qyX7_readLine (l : Launch) : ∀ k e1, qaX7_readLine k = some e1 → am_cal l layX RX7 7 k e1 ∧ ceT e1 = 0 := q_cons ⟨am_calV (ci := 2) (qtX2_lines l) qbX2_lines (by decide) rfl (am_tb_at 721 (by decide +kernel) rfl), rfl⟩ (q_cons ⟨am_calV (ci := 7) (qtX7_advance l) qbX7_advance (by decide) rfl (am_tb_at 616 (by decide +kernel) rfl), rfl⟩ (q_cons ⟨am_calV (ci := 7) (qtX7_checkName l) qbX7_checkName (by decide) rfl (am_tb_at 663 (by decide +kernel) rfl), rfl⟩ (q_cons ⟨am_calV (ci := 2) (qtX2_addLine l) qbX2_addLine (by decide) rfl (am_tb_at 722 (by decide +kernel) rfl), rfl⟩ (q_cons ⟨am_calV (ci := 7) (qtX7_checkInteger l) qbX7_checkInteger (by decide) rfl (am_tb_at 699 (by decide +kernel) rfl), rfl⟩ (q_cons ⟨am_calV (ci := 2) (qtX2_lineValue l) qbX2_lineValue (by decide) rfl (am_tb_at 726 (by decide +kernel) rfl), rfl⟩ (q_cons ⟨am_calV (ci := 2) (qtX2_putLineValue l) qbX2_putLineValue (by decide) rfl (am_tb_at 730 (by decide +kernel) rfl), rfl⟩ (q_nil)))))))
def qxX7_readLine : CX := (qkX7_readLine, layX, qfX7, qaX7_readLine, qcX7, qlX7, qmX7, (some .int), false, none, 0, none, fun _ => none)
theorem qzX7_readLine (l : Launch) : am_sta l qxX7_readLine RX7 7 cX7_readLine := ⟨qkX7_readLine_ok, layX_ok, qfX7_ok, qcX7_ok, qlX7_ok, am_mthP qmX7_ok (by decide), fun k e1 h => (qyX7_readLine l k e1 h).1⟩
def qsX7_readLine : SP := fun as F A K => match as with
  | [.inr (.inr o), .inr (.inr p)] => cond (Nat.beq o 7 && Nat.beq p 3) ((((0 ≤ (F 7 2) ∧ (F 7 2) ≤ 800) ∧ tkOK ((F 7 2)) (tkF F)) ∧ ctOK (A 4)) ∧ (K (some (some (vI ((rdL (A 8) ((F 7 2)) (tkF F) (A 4)).1)))) (tkS F ((rdL (A 8) ((F 7 2)) (tkF F) (A 4)).2.1)) (r4 A ((rdL (A 8) ((F 7 2)) (tkF F) (A 4)).2.2)))) (False)
  | _ => False
def qeX7_readLine : CE := (yX7_readLine, cX7_readLine, 6, (some .int), 1, some 7, 0, none, 0, 7, qsX7_readLine)
theorem qbX7_readLine : am_mb qeX7_readLine := ⟨am_tb_at 720 (by decide +kernel) rfl, am_tb_at 38 (by decide +kernel) rfl, ⟨by decide, by decide, by decide +kernel⟩, by decide, am_tb_at 719 (by decide +kernel) rfl, am_tb_at 13 (by decide +kernel) rfl, _, _, rfl⟩
def qnX7_readLine_7_3 : CUT := fun pc => cond (Nat.beq pc 44) (some [true, true, true, true, true, false]) (none)
def qiX7_readLine_7_3  (F0 : FF) (A0 : AA) : REC := fun pc ls st F A u => cond (Nat.beq pc 44) (match ls, st, u with
    | [some (.inr (.inr s0)), some (.inr (.inr s1)), some (.inl z), some (.inl l), some (.inl w), none], [], 0 => s0 = 7 ∧ s1 = 3 ∧ (∃ (tt : TK) (ff : Int → Int), F = tkS F0 tt ∧ A = r4 A0 ff ∧ (0 ≤ l ∧ l < 6) ∧ (0 ≤ w ∧ w ≤ 3) ∧ tkOK (F0 7 2) tt ∧ ctOK ff ∧ (rdL (A0 8) (F0 7 2) (tkF F0) (A0 4)) = lin (A0 8) (F0 7 2) l (Int.toNat (3 - w)) w tt ff)
    | _, _, _ => False) (False)
def quX7_readLine_7_3 : Nat → LVs → List AV → FF → AA → Nat := fun pc ls _ F A => cond (Nat.beq pc 44) (match ls with
    | [some (.inr (.inr s0)), some (.inr (.inr s1)), some (.inl z), some (.inl l), some (.inl w), none] => Int.toNat (9 - w)
    | _ => 0) (0)
set_option maxRecDepth 20000 in
theorem qvX7_readLine_7_3_0  (F0 : FF) (A0 : AA) (K : KK) (h : (((0 ≤ (F0 7 2) ∧ (F0 7 2) ≤ 800) ∧ tkOK ((F0 7 2)) (tkF F0)) ∧ ctOK (A0 4)) ∧ (K (some (some (vI ((rdL (A0 8) ((F0 7 2)) (tkF F0) (A0 4)).1)))) (tkS F0 ((rdL (A0 8) ((F0 7 2)) (tkF F0) (A0 4)).2.1)) (r4 A0 ((rdL (A0 8) ((F0 7 2)) (tkF F0) (A0 4)).2.2)))) : am_stp qxX7_readLine (am_run qxX7_readLine qnX7_readLine_7_3 (qiX7_readLine_7_3  F0 A0) K 55) K 0 (am_ent [vR 7, vR 3] 6) [] F0 A0 0 := by
  show am_stp qxX7_readLine (am_run qxX7_readLine qnX7_readLine_7_3 (qiX7_readLine_7_3  F0 A0) K 55) K 0 [some (vR 7), some (vR 3), none, none, none, none] [] F0 A0 0
  obtain ⟨hp, h⟩ := h
  obtain ⟨⟨pn, k0⟩, pc⟩ := hp
  have pc1 := pc.1
  have pc2 := pc.2
  have k1 := nxT_ok (T := A0 8) k0
  have k2 := nxT_ok (T := A0 8) k1
  have b0 := k0.2.1
  have b1 := k1.2.1
  have w1 := k1.2.2.2.2.2
  have v1 := k1.2.2.1
  have bf2 : (tkF F0).2.1 = F0 7 4 := rfl
  have bf1 : (tkF F0).1 = F0 7 3 := rfl
  have z0 := k0.1
  have z1 := k1.1
  have nb := nmE_b (A0 4) (nxT (A0 8) (F0 7 2) (tkF F0))
  show (w32 (fat (A0 4) 1) < w32 6 → (((0 ≤ (F0 7 2) ∧ (F0 7 2) ≤ 800) ∧ 0 ≤ (F0 7 4) ∧ (F0 7 4) ≤ (F0 7 2)) ∧ ((ctOK (A0 4) ∧ (-2147483648 ≤ ((nxT (A0 8) ((F0 7 2)) (tkF F0)).2.2.2) ∧ ((nxT (A0 8) ((F0 7 2)) (tkF F0)).2.2.2) < 2147483648) ∧ (-2147483648 ≤ ((nxT (A0 8) ((F0 7 2)) (tkF F0)).2.2.1) ∧ ((nxT (A0 8) ((F0 7 2)) (tkF F0)).2.2.1) < 2147483648)) ∧ ((w32 (nmE (A0 4) ((nxT (A0 8) ((F0 7 2)) (tkF F0)))) = w32 0 → (((0 ≤ (F0 7 2) ∧ (F0 7 2) ≤ 800) ∧ 0 ≤ ((nxT (A0 8) ((F0 7 2)) (tkF F0)).2.1) ∧ ((nxT (A0 8) ((F0 7 2)) (tkF F0)).2.1) ≤ (F0 7 2)) ∧ (7 = 7 ∧ 3 = 3 ∧ (∃ (tt : TK) (ff : Int → Int), (tkS (tkS F0 (nxT (A0 8) ((F0 7 2)) (tkF F0))) (nxT ((fput (fput A0 4 (12 + fat (A0 4) 1) ((nxT (A0 8) ((F0 7 2)) (tkF F0)).2.2.2)) 4 1 (fat (A0 4) 1 + 1)) 8) ((F0 7 2)) ((nxT (A0 8) ((F0 7 2)) (tkF F0))))) = tkS F0 tt ∧ (fput (fput A0 4 (12 + fat (A0 4) 1) ((nxT (A0 8) ((F0 7 2)) (tkF F0)).2.2.2)) 4 1 (fat (A0 4) 1 + 1)) = r4 A0 ff ∧ (0 ≤ (fat (A0 4) 1) ∧ (fat (A0 4) 1) < 6) ∧ (0 ≤ 0 ∧ 0 ≤ 3) ∧ tkOK (F0 7 2) tt ∧ ctOK ff ∧ (rdL (A0 8) (F0 7 2) (tkF F0) (A0 4)) = lin (A0 8) (F0 7 2) (fat (A0 4) 1) (Int.toNat (3 - 0)) 0 tt ff)))) ∧ (¬ w32 (nmE (A0 4) ((nxT (A0 8) ((F0 7 2)) (tkF F0)))) = w32 0 → (K (some (some (vI (nmE (A0 4) ((nxT (A0 8) ((F0 7 2)) (tkF F0))))))) (tkS F0 (nxT (A0 8) ((F0 7 2)) (tkF F0))) A0)))))) ∧ (¬ w32 (fat (A0 4) 1) < w32 6 → (K (some (some (vI (-14)))) F0 A0))
  refine ⟨fun c1 => ?_, fun c1 => ?_⟩
  · skip
    (try simp (disch := omega) only [fat_in, w32_0, wbi0, Classical.not_not, w32_id] at c1)
    refine ⟨by first | omega | exact ⟨pc, w1, by omega⟩ | exact ⟨pc, by omega, by omega⟩, ?_⟩
    refine ⟨by first | omega | exact ⟨pc, w1, by omega⟩ | exact ⟨pc, by omega, by omega⟩, ?_⟩
    refine ⟨fun c2 => ?_, fun c2 => ?_⟩
    · skip
      (try simp (disch := omega) only [fat_in, w32_0, wbi0, Classical.not_not, w32_id] at c2)
      refine ⟨by first | omega | exact ⟨pc, w1, by omega⟩ | exact ⟨pc, by omega, by omega⟩, ?_⟩
      refine ⟨rfl, rfl, ?_⟩
      rw [fat_in (i := 1) (by omega) (by omega)]
      refine ⟨(nxT (A0 8) (F0 7 2) (nxT (A0 8) (F0 7 2) (tkF F0))), up1 (up1 (A0 4) (12 + A0 4 1) (nxT (A0 8) (F0 7 2) (tkF F0)).2.2.2) 1 (A0 4 1 + 1), (by first | (simp only [tkS_up, tkS_S]; done) | (rw [fput_r (show (8 : Nat) ≠ 4 by decide), fput_r (show (8 : Nat) ≠ 4 by decide)]; simp only [tkS_up, tkS_S]; done) | (rw [fput_r (show (8 : Nat) ≠ 4 by decide), fput_r (show (8 : Nat) ≠ 4 by decide)]; done) | rfl | exact tkS_F.symm | exact tkS_F), ?_, by omega, by omega, k2, ?_, ?_⟩
      · have z := add2_r4 (A := A0) (s := 12) (i := 1) (v := (nxT (A0 8) (F0 7 2) (tkF F0)).2.2.2) (by omega) (by omega) (by omega) (by omega)
        rw [fat_in (i := 1) (by omega) (by omega)] at z
        exact z
      · unfold ctOK; rw [up1_s, up1_o (by omega), up1_o (by omega)]; omega
      · unfold rdL; rw [if_pos (by omega), if_pos (by omega)]; rfl
    · skip
      (try simp (disch := omega) only [fat_in, w32_0, wbi0, Classical.not_not, w32_id] at c2)
      unfold rdL at h
      first
      | (rw [if_neg (by omega)] at h; exact FA_eq h rfl (by first | (simp only [tkS_up, tkS_S]; done) | (rw [fput_r (show (8 : Nat) ≠ 4 by decide), fput_r (show (8 : Nat) ≠ 4 by decide)]; simp only [tkS_up, tkS_S]; done) | (rw [fput_r (show (8 : Nat) ≠ 4 by decide), fput_r (show (8 : Nat) ≠ 4 by decide)]; done) | rfl | exact tkS_F.symm | exact tkS_F) r4_A)
      | (rw [if_pos (by omega), if_neg (by omega)] at h; exact FA_eq h rfl (by first | (simp only [tkS_up, tkS_S]; done) | (rw [fput_r (show (8 : Nat) ≠ 4 by decide), fput_r (show (8 : Nat) ≠ 4 by decide)]; simp only [tkS_up, tkS_S]; done) | (rw [fput_r (show (8 : Nat) ≠ 4 by decide), fput_r (show (8 : Nat) ≠ 4 by decide)]; done) | rfl | exact tkS_F.symm | exact tkS_F) r4_A)
  · skip
    (try simp (disch := omega) only [fat_in, w32_0, wbi0, Classical.not_not, w32_id] at c1)
    unfold rdL at h
    first
    | (rw [if_neg (by omega)] at h; exact FA_eq h rfl (by first | (simp only [tkS_up, tkS_S]; done) | (rw [fput_r (show (8 : Nat) ≠ 4 by decide), fput_r (show (8 : Nat) ≠ 4 by decide)]; simp only [tkS_up, tkS_S]; done) | (rw [fput_r (show (8 : Nat) ≠ 4 by decide), fput_r (show (8 : Nat) ≠ 4 by decide)]; done) | rfl | exact tkS_F.symm | exact tkS_F) r4_A)
    | (rw [if_pos (by omega), if_neg (by omega)] at h; exact FA_eq h rfl (by first | (simp only [tkS_up, tkS_S]; done) | (rw [fput_r (show (8 : Nat) ≠ 4 by decide), fput_r (show (8 : Nat) ≠ 4 by decide)]; simp only [tkS_up, tkS_S]; done) | (rw [fput_r (show (8 : Nat) ≠ 4 by decide), fput_r (show (8 : Nat) ≠ 4 by decide)]; done) | rfl | exact tkS_F.symm | exact tkS_F) r4_A)
set_option maxRecDepth 20000 in
theorem qvX7_readLine_7_3_44  (F0 : FF) (A0 : AA) (K : KK) (h : (((0 ≤ (F0 7 2) ∧ (F0 7 2) ≤ 800) ∧ tkOK ((F0 7 2)) (tkF F0)) ∧ ctOK (A0 4)) ∧ (K (some (some (vI ((rdL (A0 8) ((F0 7 2)) (tkF F0) (A0 4)).1)))) (tkS F0 ((rdL (A0 8) ((F0 7 2)) (tkF F0) (A0 4)).2.1)) (r4 A0 ((rdL (A0 8) ((F0 7 2)) (tkF F0) (A0 4)).2.2)))) (z : Int) (l : Int) (w : Int) (F : FF) (A : AA) (hi : ∃ (tt : TK) (ff : Int → Int), F = tkS F0 tt ∧ A = r4 A0 ff ∧ (0 ≤ l ∧ l < 6) ∧ (0 ≤ w ∧ w ≤ 3) ∧ tkOK (F0 7 2) tt ∧ ctOK ff ∧ (rdL (A0 8) (F0 7 2) (tkF F0) (A0 4)) = lin (A0 8) (F0 7 2) l (Int.toNat (3 - w)) w tt ff) : am_stp qxX7_readLine (am_run qxX7_readLine qnX7_readLine_7_3 (fun pc ls st F9 A9 u => qiX7_readLine_7_3  F0 A0 pc ls st F9 A9 u ∧ quX7_readLine_7_3 pc ls st F9 A9 < quX7_readLine_7_3 44 [some (vR 7), some (vR 3), some (vI z), some (vI l), some (vI w), none] [] F A) K 55) K 44 [some (vR 7), some (vR 3), some (vI z), some (vI l), some (vI w), none] [] F A 0 := by
  obtain ⟨hp, h⟩ := h
  obtain ⟨⟨pn, k0⟩, pc⟩ := hp
  obtain ⟨t, f, rfl, rfl, h1, h2, kt, kc, hR⟩ := hi
  have kn := nxT_ok (T := A0 8) kt
  have b0 := kt.2.1
  have b1 := kn.2.1
  have w0 := kt.2.2.2.2.2
  have w1 := kn.2.2.2.2.2
  have v0 := kt.2.2.1
  have v1 := kn.2.2.1
  have z0 := kt.1
  have z1 := kn.1
  have kc1 := kc.1
  have kc2 := kc.2
  have i1 := inE_b 0 5 t
  have i2 := inE_b 0 200 t
  have i3 := inE_b 0 5 (nxT (A0 8) (F0 7 2) t)
  have i4 := inE_b 0 200 (nxT (A0 8) (F0 7 2) t)
  show (w32 w < w32 3 → ((w32 t.2.2.1 = w32 3 → ((w32 1 = w32 0 → _) ∧ (¬ w32 1 = w32 0 → (((0 ≤ (F0 7 2) ∧ (F0 7 2) ≤ 800) ∧ 0 ≤ t.2.1 ∧ t.2.1 ≤ (F0 7 2)) ∧ ((w32 w < w32 2 → (((-2147483648 ≤ 0 ∧ 0 < 2147483648) ∧ (-2147483648 ≤ 5 ∧ 5 < 2147483648) ∧ (-2147483648 ≤ ((nxT ((A0 8)) ((F0 7 2)) (t)).2.2.2) ∧ ((nxT ((A0 8)) ((F0 7 2)) (t)).2.2.2) < 2147483648) ∧ (-2147483648 ≤ ((nxT ((A0 8)) ((F0 7 2)) (t)).2.2.1) ∧ ((nxT ((A0 8)) ((F0 7 2)) (t)).2.2.1) < 2147483648)) ∧ ((w32 (inE 0 5 ((nxT ((A0 8)) ((F0 7 2)) (t)))) = w32 0 → ((w32 w = w32 1 → ((w32 (fat (f) (122 + l * 3 + 0)) = w32 0 → ((w32 ((nxT ((A0 8)) ((F0 7 2)) (t)).2.2.2) = w32 0 → ((w32 (-12) = w32 0 → _) ∧ (¬ w32 (-12) = w32 0 → (K (some (some (vI (-12)))) (tkS (tkS F0 t) (nxT ((A0 8)) ((F0 7 2)) (t))) (r4 A0 f))))) ∧ (¬ w32 ((nxT ((A0 8)) ((F0 7 2)) (t)).2.2.2) = w32 0 → ((w32 (inE 0 5 ((nxT ((A0 8)) ((F0 7 2)) (t)))) = w32 0 → ((w32 1 = w32 0 → _) ∧ (¬ w32 1 = w32 0 → (((0 ≤ (F0 7 2) ∧ (F0 7 2) ≤ 800) ∧ 0 ≤ ((nxT ((A0 8)) ((F0 7 2)) (t)).2.1) ∧ ((nxT ((A0 8)) ((F0 7 2)) (t)).2.1) ≤ (F0 7 2)) ∧ ((7 = 7 ∧ 3 = 3 ∧ (∃ (tt : TK) (ff : Int → Int), (tkS (tkS (tkS F0 t) (nxT ((A0 8)) ((F0 7 2)) (t))) (nxT ((fput (r4 A0 f) 4 (122 + l * 3 + w) (-((nxT ((A0 8)) ((F0 7 2)) (t)).2.2.2))) 8) ((F0 7 2)) ((nxT ((A0 8)) ((F0 7 2)) (t))))) = tkS F0 tt ∧ (fput (r4 A0 f) 4 (122 + l * 3 + w) (-((nxT ((A0 8)) ((F0 7 2)) (t)).2.2.2))) = r4 A0 ff ∧ (0 ≤ l ∧ l < 6) ∧ (0 ≤ (w + 1) ∧ (w + 1) ≤ 3) ∧ tkOK (F0 7 2) tt ∧ ctOK ff ∧ (rdL (A0 8) (F0 7 2) (tkF F0) (A0 4)) = lin (A0 8) (F0 7 2) l (Int.toNat (3 - (w + 1))) (w + 1) tt ff)) ∧ (Int.toNat (9 - (w + 1))) < (Int.toNat (9 - w))))))) ∧ (¬ w32 (inE 0 5 ((nxT ((A0 8)) ((F0 7 2)) (t)))) = w32 0 → (K (some (some (vI (inE 0 5 ((nxT ((A0 8)) ((F0 7 2)) (t))))))) (tkS (tkS F0 t) (nxT ((A0 8)) ((F0 7 2)) (t))) (r4 A0 f))))))) ∧ (¬ w32 (fat (f) (122 + l * 3 + 0)) = w32 0 → ((w32 (inE 0 5 ((nxT ((A0 8)) ((F0 7 2)) (t)))) = w32 0 → ((w32 1 = w32 0 → _) ∧ (¬ w32 1 = w32 0 → (((0 ≤ (F0 7 2) ∧ (F0 7 2) ≤ 800) ∧ 0 ≤ ((nxT ((A0 8)) ((F0 7 2)) (t)).2.1) ∧ ((nxT ((A0 8)) ((F0 7 2)) (t)).2.1) ≤ (F0 7 2)) ∧ ((7 = 7 ∧ 3 = 3 ∧ (∃ (tt : TK) (ff : Int → Int), (tkS (tkS (tkS F0 t) (nxT ((A0 8)) ((F0 7 2)) (t))) (nxT ((fput (r4 A0 f) 4 (122 + l * 3 + w) (-((nxT ((A0 8)) ((F0 7 2)) (t)).2.2.2))) 8) ((F0 7 2)) ((nxT ((A0 8)) ((F0 7 2)) (t))))) = tkS F0 tt ∧ (fput (r4 A0 f) 4 (122 + l * 3 + w) (-((nxT ((A0 8)) ((F0 7 2)) (t)).2.2.2))) = r4 A0 ff ∧ (0 ≤ l ∧ l < 6) ∧ (0 ≤ (w + 1) ∧ (w + 1) ≤ 3) ∧ tkOK (F0 7 2) tt ∧ ctOK ff ∧ (rdL (A0 8) (F0 7 2) (tkF F0) (A0 4)) = lin (A0 8) (F0 7 2) l (Int.toNat (3 - (w + 1))) (w + 1) tt ff)) ∧ (Int.toNat (9 - (w + 1))) < (Int.toNat (9 - w))))))) ∧ (¬ w32 (inE 0 5 ((nxT ((A0 8)) ((F0 7 2)) (t)))) = w32 0 → (K (some (some (vI (inE 0 5 ((nxT ((A0 8)) ((F0 7 2)) (t))))))) (tkS (tkS F0 t) (nxT ((A0 8)) ((F0 7 2)) (t))) (r4 A0 f))))))) ∧ (¬ w32 w = w32 1 → ((w32 (inE 0 5 ((nxT ((A0 8)) ((F0 7 2)) (t)))) = w32 0 → ((w32 1 = w32 0 → _) ∧ (¬ w32 1 = w32 0 → (((0 ≤ (F0 7 2) ∧ (F0 7 2) ≤ 800) ∧ 0 ≤ ((nxT ((A0 8)) ((F0 7 2)) (t)).2.1) ∧ ((nxT ((A0 8)) ((F0 7 2)) (t)).2.1) ≤ (F0 7 2)) ∧ ((7 = 7 ∧ 3 = 3 ∧ (∃ (tt : TK) (ff : Int → Int), (tkS (tkS (tkS F0 t) (nxT ((A0 8)) ((F0 7 2)) (t))) (nxT ((fput (r4 A0 f) 4 (122 + l * 3 + w) (-((nxT ((A0 8)) ((F0 7 2)) (t)).2.2.2))) 8) ((F0 7 2)) ((nxT ((A0 8)) ((F0 7 2)) (t))))) = tkS F0 tt ∧ (fput (r4 A0 f) 4 (122 + l * 3 + w) (-((nxT ((A0 8)) ((F0 7 2)) (t)).2.2.2))) = r4 A0 ff ∧ (0 ≤ l ∧ l < 6) ∧ (0 ≤ (w + 1) ∧ (w + 1) ≤ 3) ∧ tkOK (F0 7 2) tt ∧ ctOK ff ∧ (rdL (A0 8) (F0 7 2) (tkF F0) (A0 4)) = lin (A0 8) (F0 7 2) l (Int.toNat (3 - (w + 1))) (w + 1) tt ff)) ∧ (Int.toNat (9 - (w + 1))) < (Int.toNat (9 - w))))))) ∧ (¬ w32 (inE 0 5 ((nxT ((A0 8)) ((F0 7 2)) (t)))) = w32 0 → (K (some (some (vI (inE 0 5 ((nxT ((A0 8)) ((F0 7 2)) (t))))))) (tkS (tkS F0 t) (nxT ((A0 8)) ((F0 7 2)) (t))) (r4 A0 f))))))) ∧ (¬ w32 (inE 0 5 ((nxT ((A0 8)) ((F0 7 2)) (t)))) = w32 0 → ((w32 (inE 0 5 ((nxT ((A0 8)) ((F0 7 2)) (t)))) = w32 0 → ((w32 1 = w32 0 → _) ∧ (¬ w32 1 = w32 0 → (((0 ≤ (F0 7 2) ∧ (F0 7 2) ≤ 800) ∧ 0 ≤ ((nxT ((A0 8)) ((F0 7 2)) (t)).2.1) ∧ ((nxT ((A0 8)) ((F0 7 2)) (t)).2.1) ≤ (F0 7 2)) ∧ ((7 = 7 ∧ 3 = 3 ∧ (∃ (tt : TK) (ff : Int → Int), (tkS (tkS (tkS F0 t) (nxT ((A0 8)) ((F0 7 2)) (t))) (nxT ((fput (r4 A0 f) 4 (122 + l * 3 + w) (-((nxT ((A0 8)) ((F0 7 2)) (t)).2.2.2))) 8) ((F0 7 2)) ((nxT ((A0 8)) ((F0 7 2)) (t))))) = tkS F0 tt ∧ (fput (r4 A0 f) 4 (122 + l * 3 + w) (-((nxT ((A0 8)) ((F0 7 2)) (t)).2.2.2))) = r4 A0 ff ∧ (0 ≤ l ∧ l < 6) ∧ (0 ≤ (w + 1) ∧ (w + 1) ≤ 3) ∧ tkOK (F0 7 2) tt ∧ ctOK ff ∧ (rdL (A0 8) (F0 7 2) (tkF F0) (A0 4)) = lin (A0 8) (F0 7 2) l (Int.toNat (3 - (w + 1))) (w + 1) tt ff)) ∧ (Int.toNat (9 - (w + 1))) < (Int.toNat (9 - w))))))) ∧ (¬ w32 (inE 0 5 ((nxT ((A0 8)) ((F0 7 2)) (t)))) = w32 0 → (K (some (some (vI (inE 0 5 ((nxT ((A0 8)) ((F0 7 2)) (t))))))) (tkS (tkS F0 t) (nxT ((A0 8)) ((F0 7 2)) (t))) (r4 A0 f)))))))) ∧ (¬ w32 w < w32 2 → (((-2147483648 ≤ 0 ∧ 0 < 2147483648) ∧ (-2147483648 ≤ 200 ∧ 200 < 2147483648) ∧ (-2147483648 ≤ ((nxT ((A0 8)) ((F0 7 2)) (t)).2.2.2) ∧ ((nxT ((A0 8)) ((F0 7 2)) (t)).2.2.2) < 2147483648) ∧ (-2147483648 ≤ ((nxT ((A0 8)) ((F0 7 2)) (t)).2.2.1) ∧ ((nxT ((A0 8)) ((F0 7 2)) (t)).2.2.1) < 2147483648)) ∧ ((w32 (inE 0 200 ((nxT ((A0 8)) ((F0 7 2)) (t)))) = w32 0 → ((w32 w = w32 1 → ((w32 (fat (f) (122 + l * 3 + 0)) = w32 0 → ((w32 ((nxT ((A0 8)) ((F0 7 2)) (t)).2.2.2) = w32 0 → ((w32 (-12) = w32 0 → _) ∧ (¬ w32 (-12) = w32 0 → (K (some (some (vI (-12)))) (tkS (tkS F0 t) (nxT ((A0 8)) ((F0 7 2)) (t))) (r4 A0 f))))) ∧ (¬ w32 ((nxT ((A0 8)) ((F0 7 2)) (t)).2.2.2) = w32 0 → ((w32 (inE 0 200 ((nxT ((A0 8)) ((F0 7 2)) (t)))) = w32 0 → ((w32 1 = w32 0 → _) ∧ (¬ w32 1 = w32 0 → (((0 ≤ (F0 7 2) ∧ (F0 7 2) ≤ 800) ∧ 0 ≤ ((nxT ((A0 8)) ((F0 7 2)) (t)).2.1) ∧ ((nxT ((A0 8)) ((F0 7 2)) (t)).2.1) ≤ (F0 7 2)) ∧ ((7 = 7 ∧ 3 = 3 ∧ (∃ (tt : TK) (ff : Int → Int), (tkS (tkS (tkS F0 t) (nxT ((A0 8)) ((F0 7 2)) (t))) (nxT ((fput (r4 A0 f) 4 (122 + l * 3 + w) (-((nxT ((A0 8)) ((F0 7 2)) (t)).2.2.2))) 8) ((F0 7 2)) ((nxT ((A0 8)) ((F0 7 2)) (t))))) = tkS F0 tt ∧ (fput (r4 A0 f) 4 (122 + l * 3 + w) (-((nxT ((A0 8)) ((F0 7 2)) (t)).2.2.2))) = r4 A0 ff ∧ (0 ≤ l ∧ l < 6) ∧ (0 ≤ (w + 1) ∧ (w + 1) ≤ 3) ∧ tkOK (F0 7 2) tt ∧ ctOK ff ∧ (rdL (A0 8) (F0 7 2) (tkF F0) (A0 4)) = lin (A0 8) (F0 7 2) l (Int.toNat (3 - (w + 1))) (w + 1) tt ff)) ∧ (Int.toNat (9 - (w + 1))) < (Int.toNat (9 - w))))))) ∧ (¬ w32 (inE 0 200 ((nxT ((A0 8)) ((F0 7 2)) (t)))) = w32 0 → (K (some (some (vI (inE 0 200 ((nxT ((A0 8)) ((F0 7 2)) (t))))))) (tkS (tkS F0 t) (nxT ((A0 8)) ((F0 7 2)) (t))) (r4 A0 f))))))) ∧ (¬ w32 (fat (f) (122 + l * 3 + 0)) = w32 0 → ((w32 (inE 0 200 ((nxT ((A0 8)) ((F0 7 2)) (t)))) = w32 0 → ((w32 1 = w32 0 → _) ∧ (¬ w32 1 = w32 0 → (((0 ≤ (F0 7 2) ∧ (F0 7 2) ≤ 800) ∧ 0 ≤ ((nxT ((A0 8)) ((F0 7 2)) (t)).2.1) ∧ ((nxT ((A0 8)) ((F0 7 2)) (t)).2.1) ≤ (F0 7 2)) ∧ ((7 = 7 ∧ 3 = 3 ∧ (∃ (tt : TK) (ff : Int → Int), (tkS (tkS (tkS F0 t) (nxT ((A0 8)) ((F0 7 2)) (t))) (nxT ((fput (r4 A0 f) 4 (122 + l * 3 + w) (-((nxT ((A0 8)) ((F0 7 2)) (t)).2.2.2))) 8) ((F0 7 2)) ((nxT ((A0 8)) ((F0 7 2)) (t))))) = tkS F0 tt ∧ (fput (r4 A0 f) 4 (122 + l * 3 + w) (-((nxT ((A0 8)) ((F0 7 2)) (t)).2.2.2))) = r4 A0 ff ∧ (0 ≤ l ∧ l < 6) ∧ (0 ≤ (w + 1) ∧ (w + 1) ≤ 3) ∧ tkOK (F0 7 2) tt ∧ ctOK ff ∧ (rdL (A0 8) (F0 7 2) (tkF F0) (A0 4)) = lin (A0 8) (F0 7 2) l (Int.toNat (3 - (w + 1))) (w + 1) tt ff)) ∧ (Int.toNat (9 - (w + 1))) < (Int.toNat (9 - w))))))) ∧ (¬ w32 (inE 0 200 ((nxT ((A0 8)) ((F0 7 2)) (t)))) = w32 0 → (K (some (some (vI (inE 0 200 ((nxT ((A0 8)) ((F0 7 2)) (t))))))) (tkS (tkS F0 t) (nxT ((A0 8)) ((F0 7 2)) (t))) (r4 A0 f))))))) ∧ (¬ w32 w = w32 1 → ((w32 (inE 0 200 ((nxT ((A0 8)) ((F0 7 2)) (t)))) = w32 0 → ((w32 1 = w32 0 → _) ∧ (¬ w32 1 = w32 0 → (((0 ≤ (F0 7 2) ∧ (F0 7 2) ≤ 800) ∧ 0 ≤ ((nxT ((A0 8)) ((F0 7 2)) (t)).2.1) ∧ ((nxT ((A0 8)) ((F0 7 2)) (t)).2.1) ≤ (F0 7 2)) ∧ ((7 = 7 ∧ 3 = 3 ∧ (∃ (tt : TK) (ff : Int → Int), (tkS (tkS (tkS F0 t) (nxT ((A0 8)) ((F0 7 2)) (t))) (nxT ((fput (r4 A0 f) 4 (122 + l * 3 + w) (-((nxT ((A0 8)) ((F0 7 2)) (t)).2.2.2))) 8) ((F0 7 2)) ((nxT ((A0 8)) ((F0 7 2)) (t))))) = tkS F0 tt ∧ (fput (r4 A0 f) 4 (122 + l * 3 + w) (-((nxT ((A0 8)) ((F0 7 2)) (t)).2.2.2))) = r4 A0 ff ∧ (0 ≤ l ∧ l < 6) ∧ (0 ≤ (w + 1) ∧ (w + 1) ≤ 3) ∧ tkOK (F0 7 2) tt ∧ ctOK ff ∧ (rdL (A0 8) (F0 7 2) (tkF F0) (A0 4)) = lin (A0 8) (F0 7 2) l (Int.toNat (3 - (w + 1))) (w + 1) tt ff)) ∧ (Int.toNat (9 - (w + 1))) < (Int.toNat (9 - w))))))) ∧ (¬ w32 (inE 0 200 ((nxT ((A0 8)) ((F0 7 2)) (t)))) = w32 0 → (K (some (some (vI (inE 0 200 ((nxT ((A0 8)) ((F0 7 2)) (t))))))) (tkS (tkS F0 t) (nxT ((A0 8)) ((F0 7 2)) (t))) (r4 A0 f))))))) ∧ (¬ w32 (inE 0 200 ((nxT ((A0 8)) ((F0 7 2)) (t)))) = w32 0 → ((w32 (inE 0 200 ((nxT ((A0 8)) ((F0 7 2)) (t)))) = w32 0 → ((w32 1 = w32 0 → _) ∧ (¬ w32 1 = w32 0 → (((0 ≤ (F0 7 2) ∧ (F0 7 2) ≤ 800) ∧ 0 ≤ ((nxT ((A0 8)) ((F0 7 2)) (t)).2.1) ∧ ((nxT ((A0 8)) ((F0 7 2)) (t)).2.1) ≤ (F0 7 2)) ∧ ((7 = 7 ∧ 3 = 3 ∧ (∃ (tt : TK) (ff : Int → Int), (tkS (tkS (tkS F0 t) (nxT ((A0 8)) ((F0 7 2)) (t))) (nxT ((fput (r4 A0 f) 4 (122 + l * 3 + w) (-((nxT ((A0 8)) ((F0 7 2)) (t)).2.2.2))) 8) ((F0 7 2)) ((nxT ((A0 8)) ((F0 7 2)) (t))))) = tkS F0 tt ∧ (fput (r4 A0 f) 4 (122 + l * 3 + w) (-((nxT ((A0 8)) ((F0 7 2)) (t)).2.2.2))) = r4 A0 ff ∧ (0 ≤ l ∧ l < 6) ∧ (0 ≤ (w + 1) ∧ (w + 1) ≤ 3) ∧ tkOK (F0 7 2) tt ∧ ctOK ff ∧ (rdL (A0 8) (F0 7 2) (tkF F0) (A0 4)) = lin (A0 8) (F0 7 2) l (Int.toNat (3 - (w + 1))) (w + 1) tt ff)) ∧ (Int.toNat (9 - (w + 1))) < (Int.toNat (9 - w))))))) ∧ (¬ w32 (inE 0 200 ((nxT ((A0 8)) ((F0 7 2)) (t)))) = w32 0 → (K (some (some (vI (inE 0 200 ((nxT ((A0 8)) ((F0 7 2)) (t))))))) (tkS (tkS F0 t) (nxT ((A0 8)) ((F0 7 2)) (t))) (r4 A0 f))))))))))))) ∧ (¬ w32 t.2.2.1 = w32 3 → ((w32 0 = w32 0 → ((w32 w < w32 2 → (((-2147483648 ≤ 0 ∧ 0 < 2147483648) ∧ (-2147483648 ≤ 5 ∧ 5 < 2147483648) ∧ (-2147483648 ≤ t.2.2.2 ∧ t.2.2.2 < 2147483648) ∧ (-2147483648 ≤ t.2.2.1 ∧ t.2.2.1 < 2147483648)) ∧ ((w32 (inE 0 5 (t)) = w32 0 → ((w32 w = w32 1 → ((w32 (fat (f) (122 + l * 3 + 0)) = w32 0 → ((w32 t.2.2.2 = w32 0 → ((w32 (-12) = w32 0 → _) ∧ (¬ w32 (-12) = w32 0 → (K (some (some (vI (-12)))) (tkS F0 t) (r4 A0 f))))) ∧ (¬ w32 t.2.2.2 = w32 0 → ((w32 (inE 0 5 (t)) = w32 0 → ((w32 0 = w32 0 → (((0 ≤ (F0 7 2) ∧ (F0 7 2) ≤ 800) ∧ 0 ≤ t.2.1 ∧ t.2.1 ≤ (F0 7 2)) ∧ ((7 = 7 ∧ 3 = 3 ∧ (∃ (tt : TK) (ff : Int → Int), (tkS (tkS F0 t) (nxT ((fput (r4 A0 f) 4 (122 + l * 3 + w) t.2.2.2) 8) ((F0 7 2)) (t))) = tkS F0 tt ∧ (fput (r4 A0 f) 4 (122 + l * 3 + w) t.2.2.2) = r4 A0 ff ∧ (0 ≤ l ∧ l < 6) ∧ (0 ≤ (w + 1) ∧ (w + 1) ≤ 3) ∧ tkOK (F0 7 2) tt ∧ ctOK ff ∧ (rdL (A0 8) (F0 7 2) (tkF F0) (A0 4)) = lin (A0 8) (F0 7 2) l (Int.toNat (3 - (w + 1))) (w + 1) tt ff)) ∧ (Int.toNat (9 - (w + 1))) < (Int.toNat (9 - w))))) ∧ (¬ w32 0 = w32 0 → _))) ∧ (¬ w32 (inE 0 5 (t)) = w32 0 → (K (some (some (vI (inE 0 5 (t))))) (tkS F0 t) (r4 A0 f))))))) ∧ (¬ w32 (fat (f) (122 + l * 3 + 0)) = w32 0 → ((w32 (inE 0 5 (t)) = w32 0 → ((w32 0 = w32 0 → (((0 ≤ (F0 7 2) ∧ (F0 7 2) ≤ 800) ∧ 0 ≤ t.2.1 ∧ t.2.1 ≤ (F0 7 2)) ∧ ((7 = 7 ∧ 3 = 3 ∧ (∃ (tt : TK) (ff : Int → Int), (tkS (tkS F0 t) (nxT ((fput (r4 A0 f) 4 (122 + l * 3 + w) t.2.2.2) 8) ((F0 7 2)) (t))) = tkS F0 tt ∧ (fput (r4 A0 f) 4 (122 + l * 3 + w) t.2.2.2) = r4 A0 ff ∧ (0 ≤ l ∧ l < 6) ∧ (0 ≤ (w + 1) ∧ (w + 1) ≤ 3) ∧ tkOK (F0 7 2) tt ∧ ctOK ff ∧ (rdL (A0 8) (F0 7 2) (tkF F0) (A0 4)) = lin (A0 8) (F0 7 2) l (Int.toNat (3 - (w + 1))) (w + 1) tt ff)) ∧ (Int.toNat (9 - (w + 1))) < (Int.toNat (9 - w))))) ∧ (¬ w32 0 = w32 0 → _))) ∧ (¬ w32 (inE 0 5 (t)) = w32 0 → (K (some (some (vI (inE 0 5 (t))))) (tkS F0 t) (r4 A0 f))))))) ∧ (¬ w32 w = w32 1 → ((w32 (inE 0 5 (t)) = w32 0 → ((w32 0 = w32 0 → (((0 ≤ (F0 7 2) ∧ (F0 7 2) ≤ 800) ∧ 0 ≤ t.2.1 ∧ t.2.1 ≤ (F0 7 2)) ∧ ((7 = 7 ∧ 3 = 3 ∧ (∃ (tt : TK) (ff : Int → Int), (tkS (tkS F0 t) (nxT ((fput (r4 A0 f) 4 (122 + l * 3 + w) t.2.2.2) 8) ((F0 7 2)) (t))) = tkS F0 tt ∧ (fput (r4 A0 f) 4 (122 + l * 3 + w) t.2.2.2) = r4 A0 ff ∧ (0 ≤ l ∧ l < 6) ∧ (0 ≤ (w + 1) ∧ (w + 1) ≤ 3) ∧ tkOK (F0 7 2) tt ∧ ctOK ff ∧ (rdL (A0 8) (F0 7 2) (tkF F0) (A0 4)) = lin (A0 8) (F0 7 2) l (Int.toNat (3 - (w + 1))) (w + 1) tt ff)) ∧ (Int.toNat (9 - (w + 1))) < (Int.toNat (9 - w))))) ∧ (¬ w32 0 = w32 0 → _))) ∧ (¬ w32 (inE 0 5 (t)) = w32 0 → (K (some (some (vI (inE 0 5 (t))))) (tkS F0 t) (r4 A0 f))))))) ∧ (¬ w32 (inE 0 5 (t)) = w32 0 → ((w32 (inE 0 5 (t)) = w32 0 → ((w32 0 = w32 0 → (((0 ≤ (F0 7 2) ∧ (F0 7 2) ≤ 800) ∧ 0 ≤ t.2.1 ∧ t.2.1 ≤ (F0 7 2)) ∧ ((7 = 7 ∧ 3 = 3 ∧ (∃ (tt : TK) (ff : Int → Int), (tkS (tkS F0 t) (nxT ((fput (r4 A0 f) 4 (122 + l * 3 + w) t.2.2.2) 8) ((F0 7 2)) (t))) = tkS F0 tt ∧ (fput (r4 A0 f) 4 (122 + l * 3 + w) t.2.2.2) = r4 A0 ff ∧ (0 ≤ l ∧ l < 6) ∧ (0 ≤ (w + 1) ∧ (w + 1) ≤ 3) ∧ tkOK (F0 7 2) tt ∧ ctOK ff ∧ (rdL (A0 8) (F0 7 2) (tkF F0) (A0 4)) = lin (A0 8) (F0 7 2) l (Int.toNat (3 - (w + 1))) (w + 1) tt ff)) ∧ (Int.toNat (9 - (w + 1))) < (Int.toNat (9 - w))))) ∧ (¬ w32 0 = w32 0 → _))) ∧ (¬ w32 (inE 0 5 (t)) = w32 0 → (K (some (some (vI (inE 0 5 (t))))) (tkS F0 t) (r4 A0 f)))))))) ∧ (¬ w32 w < w32 2 → (((-2147483648 ≤ 0 ∧ 0 < 2147483648) ∧ (-2147483648 ≤ 200 ∧ 200 < 2147483648) ∧ (-2147483648 ≤ t.2.2.2 ∧ t.2.2.2 < 2147483648) ∧ (-2147483648 ≤ t.2.2.1 ∧ t.2.2.1 < 2147483648)) ∧ ((w32 (inE 0 200 (t)) = w32 0 → ((w32 w = w32 1 → ((w32 (fat (f) (122 + l * 3 + 0)) = w32 0 → ((w32 t.2.2.2 = w32 0 → ((w32 (-12) = w32 0 → _) ∧ (¬ w32 (-12) = w32 0 → (K (some (some (vI (-12)))) (tkS F0 t) (r4 A0 f))))) ∧ (¬ w32 t.2.2.2 = w32 0 → ((w32 (inE 0 200 (t)) = w32 0 → ((w32 0 = w32 0 → (((0 ≤ (F0 7 2) ∧ (F0 7 2) ≤ 800) ∧ 0 ≤ t.2.1 ∧ t.2.1 ≤ (F0 7 2)) ∧ ((7 = 7 ∧ 3 = 3 ∧ (∃ (tt : TK) (ff : Int → Int), (tkS (tkS F0 t) (nxT ((fput (r4 A0 f) 4 (122 + l * 3 + w) t.2.2.2) 8) ((F0 7 2)) (t))) = tkS F0 tt ∧ (fput (r4 A0 f) 4 (122 + l * 3 + w) t.2.2.2) = r4 A0 ff ∧ (0 ≤ l ∧ l < 6) ∧ (0 ≤ (w + 1) ∧ (w + 1) ≤ 3) ∧ tkOK (F0 7 2) tt ∧ ctOK ff ∧ (rdL (A0 8) (F0 7 2) (tkF F0) (A0 4)) = lin (A0 8) (F0 7 2) l (Int.toNat (3 - (w + 1))) (w + 1) tt ff)) ∧ (Int.toNat (9 - (w + 1))) < (Int.toNat (9 - w))))) ∧ (¬ w32 0 = w32 0 → _))) ∧ (¬ w32 (inE 0 200 (t)) = w32 0 → (K (some (some (vI (inE 0 200 (t))))) (tkS F0 t) (r4 A0 f))))))) ∧ (¬ w32 (fat (f) (122 + l * 3 + 0)) = w32 0 → ((w32 (inE 0 200 (t)) = w32 0 → ((w32 0 = w32 0 → (((0 ≤ (F0 7 2) ∧ (F0 7 2) ≤ 800) ∧ 0 ≤ t.2.1 ∧ t.2.1 ≤ (F0 7 2)) ∧ ((7 = 7 ∧ 3 = 3 ∧ (∃ (tt : TK) (ff : Int → Int), (tkS (tkS F0 t) (nxT ((fput (r4 A0 f) 4 (122 + l * 3 + w) t.2.2.2) 8) ((F0 7 2)) (t))) = tkS F0 tt ∧ (fput (r4 A0 f) 4 (122 + l * 3 + w) t.2.2.2) = r4 A0 ff ∧ (0 ≤ l ∧ l < 6) ∧ (0 ≤ (w + 1) ∧ (w + 1) ≤ 3) ∧ tkOK (F0 7 2) tt ∧ ctOK ff ∧ (rdL (A0 8) (F0 7 2) (tkF F0) (A0 4)) = lin (A0 8) (F0 7 2) l (Int.toNat (3 - (w + 1))) (w + 1) tt ff)) ∧ (Int.toNat (9 - (w + 1))) < (Int.toNat (9 - w))))) ∧ (¬ w32 0 = w32 0 → _))) ∧ (¬ w32 (inE 0 200 (t)) = w32 0 → (K (some (some (vI (inE 0 200 (t))))) (tkS F0 t) (r4 A0 f))))))) ∧ (¬ w32 w = w32 1 → ((w32 (inE 0 200 (t)) = w32 0 → ((w32 0 = w32 0 → (((0 ≤ (F0 7 2) ∧ (F0 7 2) ≤ 800) ∧ 0 ≤ t.2.1 ∧ t.2.1 ≤ (F0 7 2)) ∧ ((7 = 7 ∧ 3 = 3 ∧ (∃ (tt : TK) (ff : Int → Int), (tkS (tkS F0 t) (nxT ((fput (r4 A0 f) 4 (122 + l * 3 + w) t.2.2.2) 8) ((F0 7 2)) (t))) = tkS F0 tt ∧ (fput (r4 A0 f) 4 (122 + l * 3 + w) t.2.2.2) = r4 A0 ff ∧ (0 ≤ l ∧ l < 6) ∧ (0 ≤ (w + 1) ∧ (w + 1) ≤ 3) ∧ tkOK (F0 7 2) tt ∧ ctOK ff ∧ (rdL (A0 8) (F0 7 2) (tkF F0) (A0 4)) = lin (A0 8) (F0 7 2) l (Int.toNat (3 - (w + 1))) (w + 1) tt ff)) ∧ (Int.toNat (9 - (w + 1))) < (Int.toNat (9 - w))))) ∧ (¬ w32 0 = w32 0 → _))) ∧ (¬ w32 (inE 0 200 (t)) = w32 0 → (K (some (some (vI (inE 0 200 (t))))) (tkS F0 t) (r4 A0 f))))))) ∧ (¬ w32 (inE 0 200 (t)) = w32 0 → ((w32 (inE 0 200 (t)) = w32 0 → ((w32 0 = w32 0 → (((0 ≤ (F0 7 2) ∧ (F0 7 2) ≤ 800) ∧ 0 ≤ t.2.1 ∧ t.2.1 ≤ (F0 7 2)) ∧ ((7 = 7 ∧ 3 = 3 ∧ (∃ (tt : TK) (ff : Int → Int), (tkS (tkS F0 t) (nxT ((fput (r4 A0 f) 4 (122 + l * 3 + w) t.2.2.2) 8) ((F0 7 2)) (t))) = tkS F0 tt ∧ (fput (r4 A0 f) 4 (122 + l * 3 + w) t.2.2.2) = r4 A0 ff ∧ (0 ≤ l ∧ l < 6) ∧ (0 ≤ (w + 1) ∧ (w + 1) ≤ 3) ∧ tkOK (F0 7 2) tt ∧ ctOK ff ∧ (rdL (A0 8) (F0 7 2) (tkF F0) (A0 4)) = lin (A0 8) (F0 7 2) l (Int.toNat (3 - (w + 1))) (w + 1) tt ff)) ∧ (Int.toNat (9 - (w + 1))) < (Int.toNat (9 - w))))) ∧ (¬ w32 0 = w32 0 → _))) ∧ (¬ w32 (inE 0 200 (t)) = w32 0 → (K (some (some (vI (inE 0 200 (t))))) (tkS F0 t) (r4 A0 f)))))))))) ∧ (¬ w32 0 = w32 0 → _))))) ∧ (¬ w32 w < w32 3 → (K (some (some (vI 0))) (tkS F0 t) (r4 A0 f)))
  refine ⟨fun c1 => ?_, fun c1 => ?_⟩
  · skip
    (try simp (disch := omega) only [fat_in, w32_0, wbi0, Classical.not_not, w32_id] at c1)
    refine ⟨fun c2 => ?_, fun c2 => ?_⟩
    · skip
      (try simp (disch := omega) only [fat_in, w32_0, wbi0, Classical.not_not, w32_id] at c2)
      refine ⟨fun q => absurd q (by decide), fun _ => ?_⟩
      refine ⟨by first | omega | exact ⟨by omega, by omega⟩, ?_⟩
      refine ⟨fun c3 => ?_, fun c3 => ?_⟩
      · skip
        (try simp (disch := omega) only [fat_in, w32_0, wbi0, Classical.not_not, w32_id] at c3)
        refine ⟨by first | omega | exact ⟨by omega, by omega⟩, ?_⟩
        refine ⟨fun c4 => ?_, fun c4 => ?_⟩
        · skip
          (try simp (disch := omega) only [fat_in, w32_0, wbi0, Classical.not_not, w32_id] at c4)
          refine ⟨fun c5 => ?_, fun c5 => ?_⟩
          · skip
            (try simp (disch := omega) only [fat_in, w32_0, wbi0, Classical.not_not, w32_id] at c5)
            refine ⟨fun c6 => ?_, fun c6 => ?_⟩
            · skip
              (try simp (disch := omega) only [fat_in, w32_0, wbi0, Classical.not_not, w32_id] at c6)
              refine ⟨fun c7 => ?_, fun c7 => ?_⟩
              · skip
                (try simp (disch := omega) only [fat_in, w32_0, wbi0, Classical.not_not, w32_id] at c7)
                refine ⟨fun q => absurd q (by decide), fun _ => ?_⟩
                first
                | (exfalso; omega)
                | (rw [hR, lin_0 (by omega)] at h; exact h)
                | (have e1 : sgK (A0 8) (F0 7 2) t = t := by unfold sgK; first | exact if_pos (by assumption) | exact if_neg (by assumption)
                   have ls := lin_s (T := A0 8) (n := F0 7 2) (l := l) (w := w) (t := t) (f := f) (by omega)
                   rw [e1] at ls
                   have e2 : lnE w (f (122 + l * 3 + 0)) t = (-12) := by
                     unfold lnE
                     first | rw [if_pos (show w < 2 by omega)] | rw [if_neg (show ¬ w < 2 by omega)]
                     first | exact if_pos ⟨by omega, by omega, by omega, by omega⟩ | exact if_neg (by omega)
                   rw [e2] at ls
                   rw [if_neg (by omega)] at ls
                   rw [hR, ls] at h
                   exact FA_eq h rfl (by first | rfl | (simp only [tkS_S]; done)) rfl)
                | (have e1 : sgK (A0 8) (F0 7 2) t = t := by unfold sgK; first | exact if_pos (by assumption) | exact if_neg (by assumption)
                   have ls := lin_s (T := A0 8) (n := F0 7 2) (l := l) (w := w) (t := t) (f := f) (by omega)
                   rw [e1] at ls
                   have e2 : lnE w (f (122 + l * 3 + 0)) t = inE 0 5 t := by
                     unfold lnE
                     first | rw [if_pos (show w < 2 by omega)] | rw [if_neg (show ¬ w < 2 by omega)]
                     first | exact if_pos ⟨by omega, by omega, by omega, by omega⟩ | exact if_neg (by omega)
                   rw [e2] at ls
                   rw [if_neg (by omega)] at ls
                   rw [hR, ls] at h
                   exact FA_eq h rfl (by first | rfl | (simp only [tkS_S]; done)) rfl)
                | (have e1 : sgK (A0 8) (F0 7 2) t = t := by unfold sgK; first | exact if_pos (by assumption) | exact if_neg (by assumption)
                   have ls := lin_s (T := A0 8) (n := F0 7 2) (l := l) (w := w) (t := t) (f := f) (by omega)
                   rw [e1] at ls
                   have e2 : lnE w (f (122 + l * 3 + 0)) t = inE 0 200 t := by
                     unfold lnE
                     first | rw [if_pos (show w < 2 by omega)] | rw [if_neg (show ¬ w < 2 by omega)]
                     first | exact if_pos ⟨by omega, by omega, by omega, by omega⟩ | exact if_neg (by omega)
                   rw [e2] at ls
                   rw [if_neg (by omega)] at ls
                   rw [hR, ls] at h
                   exact FA_eq h rfl (by first | rfl | (simp only [tkS_S]; done)) rfl)
                | (have e1 : sgK (A0 8) (F0 7 2) t = (nxT (A0 8) (F0 7 2) t) := by unfold sgK; first | exact if_pos (by assumption) | exact if_neg (by assumption)
                   have ls := lin_s (T := A0 8) (n := F0 7 2) (l := l) (w := w) (t := t) (f := f) (by omega)
                   rw [e1] at ls
                   have e2 : lnE w (f (122 + l * 3 + 0)) (nxT (A0 8) (F0 7 2) t) = (-12) := by
                     unfold lnE
                     first | rw [if_pos (show w < 2 by omega)] | rw [if_neg (show ¬ w < 2 by omega)]
                     first | exact if_pos ⟨by omega, by omega, by omega, by omega⟩ | exact if_neg (by omega)
                   rw [e2] at ls
                   rw [if_neg (by omega)] at ls
                   rw [hR, ls] at h
                   exact FA_eq h rfl (by first | rfl | (simp only [tkS_S]; done)) rfl)
                | (have e1 : sgK (A0 8) (F0 7 2) t = (nxT (A0 8) (F0 7 2) t) := by unfold sgK; first | exact if_pos (by assumption) | exact if_neg (by assumption)
                   have ls := lin_s (T := A0 8) (n := F0 7 2) (l := l) (w := w) (t := t) (f := f) (by omega)
                   rw [e1] at ls
                   have e2 : lnE w (f (122 + l * 3 + 0)) (nxT (A0 8) (F0 7 2) t) = inE 0 5 (nxT (A0 8) (F0 7 2) t) := by
                     unfold lnE
                     first | rw [if_pos (show w < 2 by omega)] | rw [if_neg (show ¬ w < 2 by omega)]
                     first | exact if_pos ⟨by omega, by omega, by omega, by omega⟩ | exact if_neg (by omega)
                   rw [e2] at ls
                   rw [if_neg (by omega)] at ls
                   rw [hR, ls] at h
                   exact FA_eq h rfl (by first | rfl | (simp only [tkS_S]; done)) rfl)
                | (have e1 : sgK (A0 8) (F0 7 2) t = (nxT (A0 8) (F0 7 2) t) := by unfold sgK; first | exact if_pos (by assumption) | exact if_neg (by assumption)
                   have ls := lin_s (T := A0 8) (n := F0 7 2) (l := l) (w := w) (t := t) (f := f) (by omega)
                   rw [e1] at ls
                   have e2 : lnE w (f (122 + l * 3 + 0)) (nxT (A0 8) (F0 7 2) t) = inE 0 200 (nxT (A0 8) (F0 7 2) t) := by
                     unfold lnE
                     first | rw [if_pos (show w < 2 by omega)] | rw [if_neg (show ¬ w < 2 by omega)]
                     first | exact if_pos ⟨by omega, by omega, by omega, by omega⟩ | exact if_neg (by omega)
                   rw [e2] at ls
                   rw [if_neg (by omega)] at ls
                   rw [hR, ls] at h
                   exact FA_eq h rfl (by first | rfl | (simp only [tkS_S]; done)) rfl)
              · skip
                (try simp (disch := omega) only [fat_in, w32_0, wbi0, Classical.not_not, w32_id] at c7)
                refine ⟨fun c8 => ?_, fun c8 => ?_⟩
                · skip
                  (try simp (disch := omega) only [fat_in, w32_0, wbi0, Classical.not_not, w32_id] at c8)
                  refine ⟨fun q => absurd q (by decide), fun _ => ?_⟩
                  refine ⟨by first | omega | exact ⟨by omega, by omega⟩, ?_⟩
                  refine ⟨⟨rfl, rfl, ?_⟩, by omega⟩
                  first
                  | (exfalso; omega)
                  | (have e1 : sgK (A0 8) (F0 7 2) t = t := by unfold sgK; first | exact if_pos (by assumption) | exact if_neg (by assumption)
                     have ls := lin_s (T := A0 8) (n := F0 7 2) (l := l) (w := w) (t := t) (f := f) (by omega)
                     rw [e1] at ls
                     have e2 : lnE w (f (122 + l * 3 + 0)) t = inE 0 5 t := by
                       unfold lnE
                       first | rw [if_pos (show w < 2 by omega)] | rw [if_neg (show ¬ w < 2 by omega)]
                       first | exact if_pos ⟨by omega, by omega, by omega, by omega⟩ | exact if_neg (by omega)
                     rw [e2] at ls
                     rw [if_pos (by omega)] at ls
                     refine ⟨nxT (A0 8) (F0 7 2) t, up1 f (122 + l * 3 + w) (if t.2.2.1 = 3 then -(t).2.2.2 else (t).2.2.2), ?_, (fput_r4 (by omega) (by omega)).trans ?_, h1, by omega, nxT_ok (by first | exact kt | exact kn), ?_, by rw [hR, ls]⟩
                     · rw [fput_r (show (8 : Nat) ≠ 4 by decide)]; simp only [tkS_S, r4_8]; done
                     · rw [r4_4, r4_r4, if_neg (by assumption)]
                     · unfold ctOK; rw [up1_o (by omega), up1_o (by omega)]; exact kc)
                  | (have e1 : sgK (A0 8) (F0 7 2) t = t := by unfold sgK; first | exact if_pos (by assumption) | exact if_neg (by assumption)
                     have ls := lin_s (T := A0 8) (n := F0 7 2) (l := l) (w := w) (t := t) (f := f) (by omega)
                     rw [e1] at ls
                     have e2 : lnE w (f (122 + l * 3 + 0)) t = inE 0 200 t := by
                       unfold lnE
                       first | rw [if_pos (show w < 2 by omega)] | rw [if_neg (show ¬ w < 2 by omega)]
                       first | exact if_pos ⟨by omega, by omega, by omega, by omega⟩ | exact if_neg (by omega)
                     rw [e2] at ls
                     rw [if_pos (by omega)] at ls
                     refine ⟨nxT (A0 8) (F0 7 2) t, up1 f (122 + l * 3 + w) (if t.2.2.1 = 3 then -(t).2.2.2 else (t).2.2.2), ?_, (fput_r4 (by omega) (by omega)).trans ?_, h1, by omega, nxT_ok (by first | exact kt | exact kn), ?_, by rw [hR, ls]⟩
                     · rw [fput_r (show (8 : Nat) ≠ 4 by decide)]; simp only [tkS_S, r4_8]; done
                     · rw [r4_4, r4_r4, if_neg (by assumption)]
                     · unfold ctOK; rw [up1_o (by omega), up1_o (by omega)]; exact kc)
                  | (have e1 : sgK (A0 8) (F0 7 2) t = (nxT (A0 8) (F0 7 2) t) := by unfold sgK; first | exact if_pos (by assumption) | exact if_neg (by assumption)
                     have ls := lin_s (T := A0 8) (n := F0 7 2) (l := l) (w := w) (t := t) (f := f) (by omega)
                     rw [e1] at ls
                     have e2 : lnE w (f (122 + l * 3 + 0)) (nxT (A0 8) (F0 7 2) t) = inE 0 5 (nxT (A0 8) (F0 7 2) t) := by
                       unfold lnE
                       first | rw [if_pos (show w < 2 by omega)] | rw [if_neg (show ¬ w < 2 by omega)]
                       first | exact if_pos ⟨by omega, by omega, by omega, by omega⟩ | exact if_neg (by omega)
                     rw [e2] at ls
                     rw [if_pos (by omega)] at ls
                     refine ⟨nxT (A0 8) (F0 7 2) (nxT (A0 8) (F0 7 2) t), up1 f (122 + l * 3 + w) (if t.2.2.1 = 3 then -((nxT (A0 8) (F0 7 2) t)).2.2.2 else ((nxT (A0 8) (F0 7 2) t)).2.2.2), ?_, (fput_r4 (by omega) (by omega)).trans ?_, h1, by omega, nxT_ok (by first | exact kt | exact kn), ?_, by rw [hR, ls]⟩
                     · rw [fput_r (show (8 : Nat) ≠ 4 by decide)]; simp only [tkS_S, r4_8]; done
                     · rw [r4_4, r4_r4, if_pos (by assumption)]
                     · unfold ctOK; rw [up1_o (by omega), up1_o (by omega)]; exact kc)
                  | (have e1 : sgK (A0 8) (F0 7 2) t = (nxT (A0 8) (F0 7 2) t) := by unfold sgK; first | exact if_pos (by assumption) | exact if_neg (by assumption)
                     have ls := lin_s (T := A0 8) (n := F0 7 2) (l := l) (w := w) (t := t) (f := f) (by omega)
                     rw [e1] at ls
                     have e2 : lnE w (f (122 + l * 3 + 0)) (nxT (A0 8) (F0 7 2) t) = inE 0 200 (nxT (A0 8) (F0 7 2) t) := by
                       unfold lnE
                       first | rw [if_pos (show w < 2 by omega)] | rw [if_neg (show ¬ w < 2 by omega)]
                       first | exact if_pos ⟨by omega, by omega, by omega, by omega⟩ | exact if_neg (by omega)
                     rw [e2] at ls
                     rw [if_pos (by omega)] at ls
                     refine ⟨nxT (A0 8) (F0 7 2) (nxT (A0 8) (F0 7 2) t), up1 f (122 + l * 3 + w) (if t.2.2.1 = 3 then -((nxT (A0 8) (F0 7 2) t)).2.2.2 else ((nxT (A0 8) (F0 7 2) t)).2.2.2), ?_, (fput_r4 (by omega) (by omega)).trans ?_, h1, by omega, nxT_ok (by first | exact kt | exact kn), ?_, by rw [hR, ls]⟩
                     · rw [fput_r (show (8 : Nat) ≠ 4 by decide)]; simp only [tkS_S, r4_8]; done
                     · rw [r4_4, r4_r4, if_pos (by assumption)]
                     · unfold ctOK; rw [up1_o (by omega), up1_o (by omega)]; exact kc)
                · skip
                  (try simp (disch := omega) only [fat_in, w32_0, wbi0, Classical.not_not, w32_id] at c8)
                  first
                  | (exfalso; omega)
                  | (rw [hR, lin_0 (by omega)] at h; exact h)
                  | (have e1 : sgK (A0 8) (F0 7 2) t = t := by unfold sgK; first | exact if_pos (by assumption) | exact if_neg (by assumption)
                     have ls := lin_s (T := A0 8) (n := F0 7 2) (l := l) (w := w) (t := t) (f := f) (by omega)
                     rw [e1] at ls
                     have e2 : lnE w (f (122 + l * 3 + 0)) t = (-12) := by
                       unfold lnE
                       first | rw [if_pos (show w < 2 by omega)] | rw [if_neg (show ¬ w < 2 by omega)]
                       first | exact if_pos ⟨by omega, by omega, by omega, by omega⟩ | exact if_neg (by omega)
                     rw [e2] at ls
                     rw [if_neg (by omega)] at ls
                     rw [hR, ls] at h
                     exact FA_eq h rfl (by first | rfl | (simp only [tkS_S]; done)) rfl)
                  | (have e1 : sgK (A0 8) (F0 7 2) t = t := by unfold sgK; first | exact if_pos (by assumption) | exact if_neg (by assumption)
                     have ls := lin_s (T := A0 8) (n := F0 7 2) (l := l) (w := w) (t := t) (f := f) (by omega)
                     rw [e1] at ls
                     have e2 : lnE w (f (122 + l * 3 + 0)) t = inE 0 5 t := by
                       unfold lnE
                       first | rw [if_pos (show w < 2 by omega)] | rw [if_neg (show ¬ w < 2 by omega)]
                       first | exact if_pos ⟨by omega, by omega, by omega, by omega⟩ | exact if_neg (by omega)
                     rw [e2] at ls
                     rw [if_neg (by omega)] at ls
                     rw [hR, ls] at h
                     exact FA_eq h rfl (by first | rfl | (simp only [tkS_S]; done)) rfl)
                  | (have e1 : sgK (A0 8) (F0 7 2) t = t := by unfold sgK; first | exact if_pos (by assumption) | exact if_neg (by assumption)
                     have ls := lin_s (T := A0 8) (n := F0 7 2) (l := l) (w := w) (t := t) (f := f) (by omega)
                     rw [e1] at ls
                     have e2 : lnE w (f (122 + l * 3 + 0)) t = inE 0 200 t := by
                       unfold lnE
                       first | rw [if_pos (show w < 2 by omega)] | rw [if_neg (show ¬ w < 2 by omega)]
                       first | exact if_pos ⟨by omega, by omega, by omega, by omega⟩ | exact if_neg (by omega)
                     rw [e2] at ls
                     rw [if_neg (by omega)] at ls
                     rw [hR, ls] at h
                     exact FA_eq h rfl (by first | rfl | (simp only [tkS_S]; done)) rfl)
                  | (have e1 : sgK (A0 8) (F0 7 2) t = (nxT (A0 8) (F0 7 2) t) := by unfold sgK; first | exact if_pos (by assumption) | exact if_neg (by assumption)
                     have ls := lin_s (T := A0 8) (n := F0 7 2) (l := l) (w := w) (t := t) (f := f) (by omega)
                     rw [e1] at ls
                     have e2 : lnE w (f (122 + l * 3 + 0)) (nxT (A0 8) (F0 7 2) t) = (-12) := by
                       unfold lnE
                       first | rw [if_pos (show w < 2 by omega)] | rw [if_neg (show ¬ w < 2 by omega)]
                       first | exact if_pos ⟨by omega, by omega, by omega, by omega⟩ | exact if_neg (by omega)
                     rw [e2] at ls
                     rw [if_neg (by omega)] at ls
                     rw [hR, ls] at h
                     exact FA_eq h rfl (by first | rfl | (simp only [tkS_S]; done)) rfl)
                  | (have e1 : sgK (A0 8) (F0 7 2) t = (nxT (A0 8) (F0 7 2) t) := by unfold sgK; first | exact if_pos (by assumption) | exact if_neg (by assumption)
                     have ls := lin_s (T := A0 8) (n := F0 7 2) (l := l) (w := w) (t := t) (f := f) (by omega)
                     rw [e1] at ls
                     have e2 : lnE w (f (122 + l * 3 + 0)) (nxT (A0 8) (F0 7 2) t) = inE 0 5 (nxT (A0 8) (F0 7 2) t) := by
                       unfold lnE
                       first | rw [if_pos (show w < 2 by omega)] | rw [if_neg (show ¬ w < 2 by omega)]
                       first | exact if_pos ⟨by omega, by omega, by omega, by omega⟩ | exact if_neg (by omega)
                     rw [e2] at ls
                     rw [if_neg (by omega)] at ls
                     rw [hR, ls] at h
                     exact FA_eq h rfl (by first | rfl | (simp only [tkS_S]; done)) rfl)
                  | (have e1 : sgK (A0 8) (F0 7 2) t = (nxT (A0 8) (F0 7 2) t) := by unfold sgK; first | exact if_pos (by assumption) | exact if_neg (by assumption)
                     have ls := lin_s (T := A0 8) (n := F0 7 2) (l := l) (w := w) (t := t) (f := f) (by omega)
                     rw [e1] at ls
                     have e2 : lnE w (f (122 + l * 3 + 0)) (nxT (A0 8) (F0 7 2) t) = inE 0 200 (nxT (A0 8) (F0 7 2) t) := by
                       unfold lnE
                       first | rw [if_pos (show w < 2 by omega)] | rw [if_neg (show ¬ w < 2 by omega)]
                       first | exact if_pos ⟨by omega, by omega, by omega, by omega⟩ | exact if_neg (by omega)
                     rw [e2] at ls
                     rw [if_neg (by omega)] at ls
                     rw [hR, ls] at h
                     exact FA_eq h rfl (by first | rfl | (simp only [tkS_S]; done)) rfl)
            · skip
              (try simp (disch := omega) only [fat_in, w32_0, wbi0, Classical.not_not, w32_id] at c6)
              refine ⟨fun c7 => ?_, fun c7 => ?_⟩
              · skip
                (try simp (disch := omega) only [fat_in, w32_0, wbi0, Classical.not_not, w32_id] at c7)
                refine ⟨fun q => absurd q (by decide), fun _ => ?_⟩
                refine ⟨by first | omega | exact ⟨by omega, by omega⟩, ?_⟩
                refine ⟨⟨rfl, rfl, ?_⟩, by omega⟩
                first
                | (exfalso; omega)
                | (have e1 : sgK (A0 8) (F0 7 2) t = t := by unfold sgK; first | exact if_pos (by assumption) | exact if_neg (by assumption)
                   have ls := lin_s (T := A0 8) (n := F0 7 2) (l := l) (w := w) (t := t) (f := f) (by omega)
                   rw [e1] at ls
                   have e2 : lnE w (f (122 + l * 3 + 0)) t = inE 0 5 t := by
                     unfold lnE
                     first | rw [if_pos (show w < 2 by omega)] | rw [if_neg (show ¬ w < 2 by omega)]
                     first | exact if_pos ⟨by omega, by omega, by omega, by omega⟩ | exact if_neg (by omega)
                   rw [e2] at ls
                   rw [if_pos (by omega)] at ls
                   refine ⟨nxT (A0 8) (F0 7 2) t, up1 f (122 + l * 3 + w) (if t.2.2.1 = 3 then -(t).2.2.2 else (t).2.2.2), ?_, (fput_r4 (by omega) (by omega)).trans ?_, h1, by omega, nxT_ok (by first | exact kt | exact kn), ?_, by rw [hR, ls]⟩
                   · rw [fput_r (show (8 : Nat) ≠ 4 by decide)]; simp only [tkS_S, r4_8]; done
                   · rw [r4_4, r4_r4, if_neg (by assumption)]
                   · unfold ctOK; rw [up1_o (by omega), up1_o (by omega)]; exact kc)
                | (have e1 : sgK (A0 8) (F0 7 2) t = t := by unfold sgK; first | exact if_pos (by assumption) | exact if_neg (by assumption)
                   have ls := lin_s (T := A0 8) (n := F0 7 2) (l := l) (w := w) (t := t) (f := f) (by omega)
                   rw [e1] at ls
                   have e2 : lnE w (f (122 + l * 3 + 0)) t = inE 0 200 t := by
                     unfold lnE
                     first | rw [if_pos (show w < 2 by omega)] | rw [if_neg (show ¬ w < 2 by omega)]
                     first | exact if_pos ⟨by omega, by omega, by omega, by omega⟩ | exact if_neg (by omega)
                   rw [e2] at ls
                   rw [if_pos (by omega)] at ls
                   refine ⟨nxT (A0 8) (F0 7 2) t, up1 f (122 + l * 3 + w) (if t.2.2.1 = 3 then -(t).2.2.2 else (t).2.2.2), ?_, (fput_r4 (by omega) (by omega)).trans ?_, h1, by omega, nxT_ok (by first | exact kt | exact kn), ?_, by rw [hR, ls]⟩
                   · rw [fput_r (show (8 : Nat) ≠ 4 by decide)]; simp only [tkS_S, r4_8]; done
                   · rw [r4_4, r4_r4, if_neg (by assumption)]
                   · unfold ctOK; rw [up1_o (by omega), up1_o (by omega)]; exact kc)
                | (have e1 : sgK (A0 8) (F0 7 2) t = (nxT (A0 8) (F0 7 2) t) := by unfold sgK; first | exact if_pos (by assumption) | exact if_neg (by assumption)
                   have ls := lin_s (T := A0 8) (n := F0 7 2) (l := l) (w := w) (t := t) (f := f) (by omega)
                   rw [e1] at ls
                   have e2 : lnE w (f (122 + l * 3 + 0)) (nxT (A0 8) (F0 7 2) t) = inE 0 5 (nxT (A0 8) (F0 7 2) t) := by
                     unfold lnE
                     first | rw [if_pos (show w < 2 by omega)] | rw [if_neg (show ¬ w < 2 by omega)]
                     first | exact if_pos ⟨by omega, by omega, by omega, by omega⟩ | exact if_neg (by omega)
                   rw [e2] at ls
                   rw [if_pos (by omega)] at ls
                   refine ⟨nxT (A0 8) (F0 7 2) (nxT (A0 8) (F0 7 2) t), up1 f (122 + l * 3 + w) (if t.2.2.1 = 3 then -((nxT (A0 8) (F0 7 2) t)).2.2.2 else ((nxT (A0 8) (F0 7 2) t)).2.2.2), ?_, (fput_r4 (by omega) (by omega)).trans ?_, h1, by omega, nxT_ok (by first | exact kt | exact kn), ?_, by rw [hR, ls]⟩
                   · rw [fput_r (show (8 : Nat) ≠ 4 by decide)]; simp only [tkS_S, r4_8]; done
                   · rw [r4_4, r4_r4, if_pos (by assumption)]
                   · unfold ctOK; rw [up1_o (by omega), up1_o (by omega)]; exact kc)
                | (have e1 : sgK (A0 8) (F0 7 2) t = (nxT (A0 8) (F0 7 2) t) := by unfold sgK; first | exact if_pos (by assumption) | exact if_neg (by assumption)
                   have ls := lin_s (T := A0 8) (n := F0 7 2) (l := l) (w := w) (t := t) (f := f) (by omega)
                   rw [e1] at ls
                   have e2 : lnE w (f (122 + l * 3 + 0)) (nxT (A0 8) (F0 7 2) t) = inE 0 200 (nxT (A0 8) (F0 7 2) t) := by
                     unfold lnE
                     first | rw [if_pos (show w < 2 by omega)] | rw [if_neg (show ¬ w < 2 by omega)]
                     first | exact if_pos ⟨by omega, by omega, by omega, by omega⟩ | exact if_neg (by omega)
                   rw [e2] at ls
                   rw [if_pos (by omega)] at ls
                   refine ⟨nxT (A0 8) (F0 7 2) (nxT (A0 8) (F0 7 2) t), up1 f (122 + l * 3 + w) (if t.2.2.1 = 3 then -((nxT (A0 8) (F0 7 2) t)).2.2.2 else ((nxT (A0 8) (F0 7 2) t)).2.2.2), ?_, (fput_r4 (by omega) (by omega)).trans ?_, h1, by omega, nxT_ok (by first | exact kt | exact kn), ?_, by rw [hR, ls]⟩
                   · rw [fput_r (show (8 : Nat) ≠ 4 by decide)]; simp only [tkS_S, r4_8]; done
                   · rw [r4_4, r4_r4, if_pos (by assumption)]
                   · unfold ctOK; rw [up1_o (by omega), up1_o (by omega)]; exact kc)
              · skip
                (try simp (disch := omega) only [fat_in, w32_0, wbi0, Classical.not_not, w32_id] at c7)
                first
                | (exfalso; omega)
                | (rw [hR, lin_0 (by omega)] at h; exact h)
                | (have e1 : sgK (A0 8) (F0 7 2) t = t := by unfold sgK; first | exact if_pos (by assumption) | exact if_neg (by assumption)
                   have ls := lin_s (T := A0 8) (n := F0 7 2) (l := l) (w := w) (t := t) (f := f) (by omega)
                   rw [e1] at ls
                   have e2 : lnE w (f (122 + l * 3 + 0)) t = (-12) := by
                     unfold lnE
                     first | rw [if_pos (show w < 2 by omega)] | rw [if_neg (show ¬ w < 2 by omega)]
                     first | exact if_pos ⟨by omega, by omega, by omega, by omega⟩ | exact if_neg (by omega)
                   rw [e2] at ls
                   rw [if_neg (by omega)] at ls
                   rw [hR, ls] at h
                   exact FA_eq h rfl (by first | rfl | (simp only [tkS_S]; done)) rfl)
                | (have e1 : sgK (A0 8) (F0 7 2) t = t := by unfold sgK; first | exact if_pos (by assumption) | exact if_neg (by assumption)
                   have ls := lin_s (T := A0 8) (n := F0 7 2) (l := l) (w := w) (t := t) (f := f) (by omega)
                   rw [e1] at ls
                   have e2 : lnE w (f (122 + l * 3 + 0)) t = inE 0 5 t := by
                     unfold lnE
                     first | rw [if_pos (show w < 2 by omega)] | rw [if_neg (show ¬ w < 2 by omega)]
                     first | exact if_pos ⟨by omega, by omega, by omega, by omega⟩ | exact if_neg (by omega)
                   rw [e2] at ls
                   rw [if_neg (by omega)] at ls
                   rw [hR, ls] at h
                   exact FA_eq h rfl (by first | rfl | (simp only [tkS_S]; done)) rfl)
                | (have e1 : sgK (A0 8) (F0 7 2) t = t := by unfold sgK; first | exact if_pos (by assumption) | exact if_neg (by assumption)
                   have ls := lin_s (T := A0 8) (n := F0 7 2) (l := l) (w := w) (t := t) (f := f) (by omega)
                   rw [e1] at ls
                   have e2 : lnE w (f (122 + l * 3 + 0)) t = inE 0 200 t := by
                     unfold lnE
                     first | rw [if_pos (show w < 2 by omega)] | rw [if_neg (show ¬ w < 2 by omega)]
                     first | exact if_pos ⟨by omega, by omega, by omega, by omega⟩ | exact if_neg (by omega)
                   rw [e2] at ls
                   rw [if_neg (by omega)] at ls
                   rw [hR, ls] at h
                   exact FA_eq h rfl (by first | rfl | (simp only [tkS_S]; done)) rfl)
                | (have e1 : sgK (A0 8) (F0 7 2) t = (nxT (A0 8) (F0 7 2) t) := by unfold sgK; first | exact if_pos (by assumption) | exact if_neg (by assumption)
                   have ls := lin_s (T := A0 8) (n := F0 7 2) (l := l) (w := w) (t := t) (f := f) (by omega)
                   rw [e1] at ls
                   have e2 : lnE w (f (122 + l * 3 + 0)) (nxT (A0 8) (F0 7 2) t) = (-12) := by
                     unfold lnE
                     first | rw [if_pos (show w < 2 by omega)] | rw [if_neg (show ¬ w < 2 by omega)]
                     first | exact if_pos ⟨by omega, by omega, by omega, by omega⟩ | exact if_neg (by omega)
                   rw [e2] at ls
                   rw [if_neg (by omega)] at ls
                   rw [hR, ls] at h
                   exact FA_eq h rfl (by first | rfl | (simp only [tkS_S]; done)) rfl)
                | (have e1 : sgK (A0 8) (F0 7 2) t = (nxT (A0 8) (F0 7 2) t) := by unfold sgK; first | exact if_pos (by assumption) | exact if_neg (by assumption)
                   have ls := lin_s (T := A0 8) (n := F0 7 2) (l := l) (w := w) (t := t) (f := f) (by omega)
                   rw [e1] at ls
                   have e2 : lnE w (f (122 + l * 3 + 0)) (nxT (A0 8) (F0 7 2) t) = inE 0 5 (nxT (A0 8) (F0 7 2) t) := by
                     unfold lnE
                     first | rw [if_pos (show w < 2 by omega)] | rw [if_neg (show ¬ w < 2 by omega)]
                     first | exact if_pos ⟨by omega, by omega, by omega, by omega⟩ | exact if_neg (by omega)
                   rw [e2] at ls
                   rw [if_neg (by omega)] at ls
                   rw [hR, ls] at h
                   exact FA_eq h rfl (by first | rfl | (simp only [tkS_S]; done)) rfl)
                | (have e1 : sgK (A0 8) (F0 7 2) t = (nxT (A0 8) (F0 7 2) t) := by unfold sgK; first | exact if_pos (by assumption) | exact if_neg (by assumption)
                   have ls := lin_s (T := A0 8) (n := F0 7 2) (l := l) (w := w) (t := t) (f := f) (by omega)
                   rw [e1] at ls
                   have e2 : lnE w (f (122 + l * 3 + 0)) (nxT (A0 8) (F0 7 2) t) = inE 0 200 (nxT (A0 8) (F0 7 2) t) := by
                     unfold lnE
                     first | rw [if_pos (show w < 2 by omega)] | rw [if_neg (show ¬ w < 2 by omega)]
                     first | exact if_pos ⟨by omega, by omega, by omega, by omega⟩ | exact if_neg (by omega)
                   rw [e2] at ls
                   rw [if_neg (by omega)] at ls
                   rw [hR, ls] at h
                   exact FA_eq h rfl (by first | rfl | (simp only [tkS_S]; done)) rfl)
          · skip
            (try simp (disch := omega) only [fat_in, w32_0, wbi0, Classical.not_not, w32_id] at c5)
            refine ⟨fun c6 => ?_, fun c6 => ?_⟩
            · skip
              (try simp (disch := omega) only [fat_in, w32_0, wbi0, Classical.not_not, w32_id] at c6)
              refine ⟨fun q => absurd q (by decide), fun _ => ?_⟩
              refine ⟨by first | omega | exact ⟨by omega, by omega⟩, ?_⟩
              refine ⟨⟨rfl, rfl, ?_⟩, by omega⟩
              first
              | (exfalso; omega)
              | (have e1 : sgK (A0 8) (F0 7 2) t = t := by unfold sgK; first | exact if_pos (by assumption) | exact if_neg (by assumption)
                 have ls := lin_s (T := A0 8) (n := F0 7 2) (l := l) (w := w) (t := t) (f := f) (by omega)
                 rw [e1] at ls
                 have e2 : lnE w (f (122 + l * 3 + 0)) t = inE 0 5 t := by
                   unfold lnE
                   first | rw [if_pos (show w < 2 by omega)] | rw [if_neg (show ¬ w < 2 by omega)]
                   first | exact if_pos ⟨by omega, by omega, by omega, by omega⟩ | exact if_neg (by omega)
                 rw [e2] at ls
                 rw [if_pos (by omega)] at ls
                 refine ⟨nxT (A0 8) (F0 7 2) t, up1 f (122 + l * 3 + w) (if t.2.2.1 = 3 then -(t).2.2.2 else (t).2.2.2), ?_, (fput_r4 (by omega) (by omega)).trans ?_, h1, by omega, nxT_ok (by first | exact kt | exact kn), ?_, by rw [hR, ls]⟩
                 · rw [fput_r (show (8 : Nat) ≠ 4 by decide)]; simp only [tkS_S, r4_8]; done
                 · rw [r4_4, r4_r4, if_neg (by assumption)]
                 · unfold ctOK; rw [up1_o (by omega), up1_o (by omega)]; exact kc)
              | (have e1 : sgK (A0 8) (F0 7 2) t = t := by unfold sgK; first | exact if_pos (by assumption) | exact if_neg (by assumption)
                 have ls := lin_s (T := A0 8) (n := F0 7 2) (l := l) (w := w) (t := t) (f := f) (by omega)
                 rw [e1] at ls
                 have e2 : lnE w (f (122 + l * 3 + 0)) t = inE 0 200 t := by
                   unfold lnE
                   first | rw [if_pos (show w < 2 by omega)] | rw [if_neg (show ¬ w < 2 by omega)]
                   first | exact if_pos ⟨by omega, by omega, by omega, by omega⟩ | exact if_neg (by omega)
                 rw [e2] at ls
                 rw [if_pos (by omega)] at ls
                 refine ⟨nxT (A0 8) (F0 7 2) t, up1 f (122 + l * 3 + w) (if t.2.2.1 = 3 then -(t).2.2.2 else (t).2.2.2), ?_, (fput_r4 (by omega) (by omega)).trans ?_, h1, by omega, nxT_ok (by first | exact kt | exact kn), ?_, by rw [hR, ls]⟩
                 · rw [fput_r (show (8 : Nat) ≠ 4 by decide)]; simp only [tkS_S, r4_8]; done
                 · rw [r4_4, r4_r4, if_neg (by assumption)]
                 · unfold ctOK; rw [up1_o (by omega), up1_o (by omega)]; exact kc)
              | (have e1 : sgK (A0 8) (F0 7 2) t = (nxT (A0 8) (F0 7 2) t) := by unfold sgK; first | exact if_pos (by assumption) | exact if_neg (by assumption)
                 have ls := lin_s (T := A0 8) (n := F0 7 2) (l := l) (w := w) (t := t) (f := f) (by omega)
                 rw [e1] at ls
                 have e2 : lnE w (f (122 + l * 3 + 0)) (nxT (A0 8) (F0 7 2) t) = inE 0 5 (nxT (A0 8) (F0 7 2) t) := by
                   unfold lnE
                   first | rw [if_pos (show w < 2 by omega)] | rw [if_neg (show ¬ w < 2 by omega)]
                   first | exact if_pos ⟨by omega, by omega, by omega, by omega⟩ | exact if_neg (by omega)
                 rw [e2] at ls
                 rw [if_pos (by omega)] at ls
                 refine ⟨nxT (A0 8) (F0 7 2) (nxT (A0 8) (F0 7 2) t), up1 f (122 + l * 3 + w) (if t.2.2.1 = 3 then -((nxT (A0 8) (F0 7 2) t)).2.2.2 else ((nxT (A0 8) (F0 7 2) t)).2.2.2), ?_, (fput_r4 (by omega) (by omega)).trans ?_, h1, by omega, nxT_ok (by first | exact kt | exact kn), ?_, by rw [hR, ls]⟩
                 · rw [fput_r (show (8 : Nat) ≠ 4 by decide)]; simp only [tkS_S, r4_8]; done
                 · rw [r4_4, r4_r4, if_pos (by assumption)]
                 · unfold ctOK; rw [up1_o (by omega), up1_o (by omega)]; exact kc)
              | (have e1 : sgK (A0 8) (F0 7 2) t = (nxT (A0 8) (F0 7 2) t) := by unfold sgK; first | exact if_pos (by assumption) | exact if_neg (by assumption)
                 have ls := lin_s (T := A0 8) (n := F0 7 2) (l := l) (w := w) (t := t) (f := f) (by omega)
                 rw [e1] at ls
                 have e2 : lnE w (f (122 + l * 3 + 0)) (nxT (A0 8) (F0 7 2) t) = inE 0 200 (nxT (A0 8) (F0 7 2) t) := by
                   unfold lnE
                   first | rw [if_pos (show w < 2 by omega)] | rw [if_neg (show ¬ w < 2 by omega)]
                   first | exact if_pos ⟨by omega, by omega, by omega, by omega⟩ | exact if_neg (by omega)
                 rw [e2] at ls
                 rw [if_pos (by omega)] at ls
                 refine ⟨nxT (A0 8) (F0 7 2) (nxT (A0 8) (F0 7 2) t), up1 f (122 + l * 3 + w) (if t.2.2.1 = 3 then -((nxT (A0 8) (F0 7 2) t)).2.2.2 else ((nxT (A0 8) (F0 7 2) t)).2.2.2), ?_, (fput_r4 (by omega) (by omega)).trans ?_, h1, by omega, nxT_ok (by first | exact kt | exact kn), ?_, by rw [hR, ls]⟩
                 · rw [fput_r (show (8 : Nat) ≠ 4 by decide)]; simp only [tkS_S, r4_8]; done
                 · rw [r4_4, r4_r4, if_pos (by assumption)]
                 · unfold ctOK; rw [up1_o (by omega), up1_o (by omega)]; exact kc)
            · skip
              (try simp (disch := omega) only [fat_in, w32_0, wbi0, Classical.not_not, w32_id] at c6)
              first
              | (exfalso; omega)
              | (rw [hR, lin_0 (by omega)] at h; exact h)
              | (have e1 : sgK (A0 8) (F0 7 2) t = t := by unfold sgK; first | exact if_pos (by assumption) | exact if_neg (by assumption)
                 have ls := lin_s (T := A0 8) (n := F0 7 2) (l := l) (w := w) (t := t) (f := f) (by omega)
                 rw [e1] at ls
                 have e2 : lnE w (f (122 + l * 3 + 0)) t = (-12) := by
                   unfold lnE
                   first | rw [if_pos (show w < 2 by omega)] | rw [if_neg (show ¬ w < 2 by omega)]
                   first | exact if_pos ⟨by omega, by omega, by omega, by omega⟩ | exact if_neg (by omega)
                 rw [e2] at ls
                 rw [if_neg (by omega)] at ls
                 rw [hR, ls] at h
                 exact FA_eq h rfl (by first | rfl | (simp only [tkS_S]; done)) rfl)
              | (have e1 : sgK (A0 8) (F0 7 2) t = t := by unfold sgK; first | exact if_pos (by assumption) | exact if_neg (by assumption)
                 have ls := lin_s (T := A0 8) (n := F0 7 2) (l := l) (w := w) (t := t) (f := f) (by omega)
                 rw [e1] at ls
                 have e2 : lnE w (f (122 + l * 3 + 0)) t = inE 0 5 t := by
                   unfold lnE
                   first | rw [if_pos (show w < 2 by omega)] | rw [if_neg (show ¬ w < 2 by omega)]
                   first | exact if_pos ⟨by omega, by omega, by omega, by omega⟩ | exact if_neg (by omega)
                 rw [e2] at ls
                 rw [if_neg (by omega)] at ls
                 rw [hR, ls] at h
                 exact FA_eq h rfl (by first | rfl | (simp only [tkS_S]; done)) rfl)
              | (have e1 : sgK (A0 8) (F0 7 2) t = t := by unfold sgK; first | exact if_pos (by assumption) | exact if_neg (by assumption)
                 have ls := lin_s (T := A0 8) (n := F0 7 2) (l := l) (w := w) (t := t) (f := f) (by omega)
                 rw [e1] at ls
                 have e2 : lnE w (f (122 + l * 3 + 0)) t = inE 0 200 t := by
                   unfold lnE
                   first | rw [if_pos (show w < 2 by omega)] | rw [if_neg (show ¬ w < 2 by omega)]
                   first | exact if_pos ⟨by omega, by omega, by omega, by omega⟩ | exact if_neg (by omega)
                 rw [e2] at ls
                 rw [if_neg (by omega)] at ls
                 rw [hR, ls] at h
                 exact FA_eq h rfl (by first | rfl | (simp only [tkS_S]; done)) rfl)
              | (have e1 : sgK (A0 8) (F0 7 2) t = (nxT (A0 8) (F0 7 2) t) := by unfold sgK; first | exact if_pos (by assumption) | exact if_neg (by assumption)
                 have ls := lin_s (T := A0 8) (n := F0 7 2) (l := l) (w := w) (t := t) (f := f) (by omega)
                 rw [e1] at ls
                 have e2 : lnE w (f (122 + l * 3 + 0)) (nxT (A0 8) (F0 7 2) t) = (-12) := by
                   unfold lnE
                   first | rw [if_pos (show w < 2 by omega)] | rw [if_neg (show ¬ w < 2 by omega)]
                   first | exact if_pos ⟨by omega, by omega, by omega, by omega⟩ | exact if_neg (by omega)
                 rw [e2] at ls
                 rw [if_neg (by omega)] at ls
                 rw [hR, ls] at h
                 exact FA_eq h rfl (by first | rfl | (simp only [tkS_S]; done)) rfl)
              | (have e1 : sgK (A0 8) (F0 7 2) t = (nxT (A0 8) (F0 7 2) t) := by unfold sgK; first | exact if_pos (by assumption) | exact if_neg (by assumption)
                 have ls := lin_s (T := A0 8) (n := F0 7 2) (l := l) (w := w) (t := t) (f := f) (by omega)
                 rw [e1] at ls
                 have e2 : lnE w (f (122 + l * 3 + 0)) (nxT (A0 8) (F0 7 2) t) = inE 0 5 (nxT (A0 8) (F0 7 2) t) := by
                   unfold lnE
                   first | rw [if_pos (show w < 2 by omega)] | rw [if_neg (show ¬ w < 2 by omega)]
                   first | exact if_pos ⟨by omega, by omega, by omega, by omega⟩ | exact if_neg (by omega)
                 rw [e2] at ls
                 rw [if_neg (by omega)] at ls
                 rw [hR, ls] at h
                 exact FA_eq h rfl (by first | rfl | (simp only [tkS_S]; done)) rfl)
              | (have e1 : sgK (A0 8) (F0 7 2) t = (nxT (A0 8) (F0 7 2) t) := by unfold sgK; first | exact if_pos (by assumption) | exact if_neg (by assumption)
                 have ls := lin_s (T := A0 8) (n := F0 7 2) (l := l) (w := w) (t := t) (f := f) (by omega)
                 rw [e1] at ls
                 have e2 : lnE w (f (122 + l * 3 + 0)) (nxT (A0 8) (F0 7 2) t) = inE 0 200 (nxT (A0 8) (F0 7 2) t) := by
                   unfold lnE
                   first | rw [if_pos (show w < 2 by omega)] | rw [if_neg (show ¬ w < 2 by omega)]
                   first | exact if_pos ⟨by omega, by omega, by omega, by omega⟩ | exact if_neg (by omega)
                 rw [e2] at ls
                 rw [if_neg (by omega)] at ls
                 rw [hR, ls] at h
                 exact FA_eq h rfl (by first | rfl | (simp only [tkS_S]; done)) rfl)
        · skip
          (try simp (disch := omega) only [fat_in, w32_0, wbi0, Classical.not_not, w32_id] at c4)
          refine ⟨fun c5 => ?_, fun c5 => ?_⟩
          · skip
            (try simp (disch := omega) only [fat_in, w32_0, wbi0, Classical.not_not, w32_id] at c5)
            refine ⟨fun q => absurd q (by decide), fun _ => ?_⟩
            refine ⟨by first | omega | exact ⟨by omega, by omega⟩, ?_⟩
            refine ⟨⟨rfl, rfl, ?_⟩, by omega⟩
            first
            | (exfalso; omega)
            | (have e1 : sgK (A0 8) (F0 7 2) t = t := by unfold sgK; first | exact if_pos (by assumption) | exact if_neg (by assumption)
               have ls := lin_s (T := A0 8) (n := F0 7 2) (l := l) (w := w) (t := t) (f := f) (by omega)
               rw [e1] at ls
               have e2 : lnE w (f (122 + l * 3 + 0)) t = inE 0 5 t := by
                 unfold lnE
                 first | rw [if_pos (show w < 2 by omega)] | rw [if_neg (show ¬ w < 2 by omega)]
                 first | exact if_pos ⟨by omega, by omega, by omega, by omega⟩ | exact if_neg (by omega)
               rw [e2] at ls
               rw [if_pos (by omega)] at ls
               refine ⟨nxT (A0 8) (F0 7 2) t, up1 f (122 + l * 3 + w) (if t.2.2.1 = 3 then -(t).2.2.2 else (t).2.2.2), ?_, (fput_r4 (by omega) (by omega)).trans ?_, h1, by omega, nxT_ok (by first | exact kt | exact kn), ?_, by rw [hR, ls]⟩
               · rw [fput_r (show (8 : Nat) ≠ 4 by decide)]; simp only [tkS_S, r4_8]; done
               · rw [r4_4, r4_r4, if_neg (by assumption)]
               · unfold ctOK; rw [up1_o (by omega), up1_o (by omega)]; exact kc)
            | (have e1 : sgK (A0 8) (F0 7 2) t = t := by unfold sgK; first | exact if_pos (by assumption) | exact if_neg (by assumption)
               have ls := lin_s (T := A0 8) (n := F0 7 2) (l := l) (w := w) (t := t) (f := f) (by omega)
               rw [e1] at ls
               have e2 : lnE w (f (122 + l * 3 + 0)) t = inE 0 200 t := by
                 unfold lnE
                 first | rw [if_pos (show w < 2 by omega)] | rw [if_neg (show ¬ w < 2 by omega)]
                 first | exact if_pos ⟨by omega, by omega, by omega, by omega⟩ | exact if_neg (by omega)
               rw [e2] at ls
               rw [if_pos (by omega)] at ls
               refine ⟨nxT (A0 8) (F0 7 2) t, up1 f (122 + l * 3 + w) (if t.2.2.1 = 3 then -(t).2.2.2 else (t).2.2.2), ?_, (fput_r4 (by omega) (by omega)).trans ?_, h1, by omega, nxT_ok (by first | exact kt | exact kn), ?_, by rw [hR, ls]⟩
               · rw [fput_r (show (8 : Nat) ≠ 4 by decide)]; simp only [tkS_S, r4_8]; done
               · rw [r4_4, r4_r4, if_neg (by assumption)]
               · unfold ctOK; rw [up1_o (by omega), up1_o (by omega)]; exact kc)
            | (have e1 : sgK (A0 8) (F0 7 2) t = (nxT (A0 8) (F0 7 2) t) := by unfold sgK; first | exact if_pos (by assumption) | exact if_neg (by assumption)
               have ls := lin_s (T := A0 8) (n := F0 7 2) (l := l) (w := w) (t := t) (f := f) (by omega)
               rw [e1] at ls
               have e2 : lnE w (f (122 + l * 3 + 0)) (nxT (A0 8) (F0 7 2) t) = inE 0 5 (nxT (A0 8) (F0 7 2) t) := by
                 unfold lnE
                 first | rw [if_pos (show w < 2 by omega)] | rw [if_neg (show ¬ w < 2 by omega)]
                 first | exact if_pos ⟨by omega, by omega, by omega, by omega⟩ | exact if_neg (by omega)
               rw [e2] at ls
               rw [if_pos (by omega)] at ls
               refine ⟨nxT (A0 8) (F0 7 2) (nxT (A0 8) (F0 7 2) t), up1 f (122 + l * 3 + w) (if t.2.2.1 = 3 then -((nxT (A0 8) (F0 7 2) t)).2.2.2 else ((nxT (A0 8) (F0 7 2) t)).2.2.2), ?_, (fput_r4 (by omega) (by omega)).trans ?_, h1, by omega, nxT_ok (by first | exact kt | exact kn), ?_, by rw [hR, ls]⟩
               · rw [fput_r (show (8 : Nat) ≠ 4 by decide)]; simp only [tkS_S, r4_8]; done
               · rw [r4_4, r4_r4, if_pos (by assumption)]
               · unfold ctOK; rw [up1_o (by omega), up1_o (by omega)]; exact kc)
            | (have e1 : sgK (A0 8) (F0 7 2) t = (nxT (A0 8) (F0 7 2) t) := by unfold sgK; first | exact if_pos (by assumption) | exact if_neg (by assumption)
               have ls := lin_s (T := A0 8) (n := F0 7 2) (l := l) (w := w) (t := t) (f := f) (by omega)
               rw [e1] at ls
               have e2 : lnE w (f (122 + l * 3 + 0)) (nxT (A0 8) (F0 7 2) t) = inE 0 200 (nxT (A0 8) (F0 7 2) t) := by
                 unfold lnE
                 first | rw [if_pos (show w < 2 by omega)] | rw [if_neg (show ¬ w < 2 by omega)]
                 first | exact if_pos ⟨by omega, by omega, by omega, by omega⟩ | exact if_neg (by omega)
               rw [e2] at ls
               rw [if_pos (by omega)] at ls
               refine ⟨nxT (A0 8) (F0 7 2) (nxT (A0 8) (F0 7 2) t), up1 f (122 + l * 3 + w) (if t.2.2.1 = 3 then -((nxT (A0 8) (F0 7 2) t)).2.2.2 else ((nxT (A0 8) (F0 7 2) t)).2.2.2), ?_, (fput_r4 (by omega) (by omega)).trans ?_, h1, by omega, nxT_ok (by first | exact kt | exact kn), ?_, by rw [hR, ls]⟩
               · rw [fput_r (show (8 : Nat) ≠ 4 by decide)]; simp only [tkS_S, r4_8]; done
               · rw [r4_4, r4_r4, if_pos (by assumption)]
               · unfold ctOK; rw [up1_o (by omega), up1_o (by omega)]; exact kc)
          · skip
            (try simp (disch := omega) only [fat_in, w32_0, wbi0, Classical.not_not, w32_id] at c5)
            first
            | (exfalso; omega)
            | (rw [hR, lin_0 (by omega)] at h; exact h)
            | (have e1 : sgK (A0 8) (F0 7 2) t = t := by unfold sgK; first | exact if_pos (by assumption) | exact if_neg (by assumption)
               have ls := lin_s (T := A0 8) (n := F0 7 2) (l := l) (w := w) (t := t) (f := f) (by omega)
               rw [e1] at ls
               have e2 : lnE w (f (122 + l * 3 + 0)) t = (-12) := by
                 unfold lnE
                 first | rw [if_pos (show w < 2 by omega)] | rw [if_neg (show ¬ w < 2 by omega)]
                 first | exact if_pos ⟨by omega, by omega, by omega, by omega⟩ | exact if_neg (by omega)
               rw [e2] at ls
               rw [if_neg (by omega)] at ls
               rw [hR, ls] at h
               exact FA_eq h rfl (by first | rfl | (simp only [tkS_S]; done)) rfl)
            | (have e1 : sgK (A0 8) (F0 7 2) t = t := by unfold sgK; first | exact if_pos (by assumption) | exact if_neg (by assumption)
               have ls := lin_s (T := A0 8) (n := F0 7 2) (l := l) (w := w) (t := t) (f := f) (by omega)
               rw [e1] at ls
               have e2 : lnE w (f (122 + l * 3 + 0)) t = inE 0 5 t := by
                 unfold lnE
                 first | rw [if_pos (show w < 2 by omega)] | rw [if_neg (show ¬ w < 2 by omega)]
                 first | exact if_pos ⟨by omega, by omega, by omega, by omega⟩ | exact if_neg (by omega)
               rw [e2] at ls
               rw [if_neg (by omega)] at ls
               rw [hR, ls] at h
               exact FA_eq h rfl (by first | rfl | (simp only [tkS_S]; done)) rfl)
            | (have e1 : sgK (A0 8) (F0 7 2) t = t := by unfold sgK; first | exact if_pos (by assumption) | exact if_neg (by assumption)
               have ls := lin_s (T := A0 8) (n := F0 7 2) (l := l) (w := w) (t := t) (f := f) (by omega)
               rw [e1] at ls
               have e2 : lnE w (f (122 + l * 3 + 0)) t = inE 0 200 t := by
                 unfold lnE
                 first | rw [if_pos (show w < 2 by omega)] | rw [if_neg (show ¬ w < 2 by omega)]
                 first | exact if_pos ⟨by omega, by omega, by omega, by omega⟩ | exact if_neg (by omega)
               rw [e2] at ls
               rw [if_neg (by omega)] at ls
               rw [hR, ls] at h
               exact FA_eq h rfl (by first | rfl | (simp only [tkS_S]; done)) rfl)
            | (have e1 : sgK (A0 8) (F0 7 2) t = (nxT (A0 8) (F0 7 2) t) := by unfold sgK; first | exact if_pos (by assumption) | exact if_neg (by assumption)
               have ls := lin_s (T := A0 8) (n := F0 7 2) (l := l) (w := w) (t := t) (f := f) (by omega)
               rw [e1] at ls
               have e2 : lnE w (f (122 + l * 3 + 0)) (nxT (A0 8) (F0 7 2) t) = (-12) := by
                 unfold lnE
                 first | rw [if_pos (show w < 2 by omega)] | rw [if_neg (show ¬ w < 2 by omega)]
                 first | exact if_pos ⟨by omega, by omega, by omega, by omega⟩ | exact if_neg (by omega)
               rw [e2] at ls
               rw [if_neg (by omega)] at ls
               rw [hR, ls] at h
               exact FA_eq h rfl (by first | rfl | (simp only [tkS_S]; done)) rfl)
            | (have e1 : sgK (A0 8) (F0 7 2) t = (nxT (A0 8) (F0 7 2) t) := by unfold sgK; first | exact if_pos (by assumption) | exact if_neg (by assumption)
               have ls := lin_s (T := A0 8) (n := F0 7 2) (l := l) (w := w) (t := t) (f := f) (by omega)
               rw [e1] at ls
               have e2 : lnE w (f (122 + l * 3 + 0)) (nxT (A0 8) (F0 7 2) t) = inE 0 5 (nxT (A0 8) (F0 7 2) t) := by
                 unfold lnE
                 first | rw [if_pos (show w < 2 by omega)] | rw [if_neg (show ¬ w < 2 by omega)]
                 first | exact if_pos ⟨by omega, by omega, by omega, by omega⟩ | exact if_neg (by omega)
               rw [e2] at ls
               rw [if_neg (by omega)] at ls
               rw [hR, ls] at h
               exact FA_eq h rfl (by first | rfl | (simp only [tkS_S]; done)) rfl)
            | (have e1 : sgK (A0 8) (F0 7 2) t = (nxT (A0 8) (F0 7 2) t) := by unfold sgK; first | exact if_pos (by assumption) | exact if_neg (by assumption)
               have ls := lin_s (T := A0 8) (n := F0 7 2) (l := l) (w := w) (t := t) (f := f) (by omega)
               rw [e1] at ls
               have e2 : lnE w (f (122 + l * 3 + 0)) (nxT (A0 8) (F0 7 2) t) = inE 0 200 (nxT (A0 8) (F0 7 2) t) := by
                 unfold lnE
                 first | rw [if_pos (show w < 2 by omega)] | rw [if_neg (show ¬ w < 2 by omega)]
                 first | exact if_pos ⟨by omega, by omega, by omega, by omega⟩ | exact if_neg (by omega)
               rw [e2] at ls
               rw [if_neg (by omega)] at ls
               rw [hR, ls] at h
               exact FA_eq h rfl (by first | rfl | (simp only [tkS_S]; done)) rfl)
      · skip
        (try simp (disch := omega) only [fat_in, w32_0, wbi0, Classical.not_not, w32_id] at c3)
        refine ⟨by first | omega | exact ⟨by omega, by omega⟩, ?_⟩
        refine ⟨fun c4 => ?_, fun c4 => ?_⟩
        · skip
          (try simp (disch := omega) only [fat_in, w32_0, wbi0, Classical.not_not, w32_id] at c4)
          refine ⟨fun c5 => ?_, fun c5 => ?_⟩
          · skip
            (try simp (disch := omega) only [fat_in, w32_0, wbi0, Classical.not_not, w32_id] at c5)
            refine ⟨fun c6 => ?_, fun c6 => ?_⟩
            · skip
              (try simp (disch := omega) only [fat_in, w32_0, wbi0, Classical.not_not, w32_id] at c6)
              refine ⟨fun c7 => ?_, fun c7 => ?_⟩
              · skip
                (try simp (disch := omega) only [fat_in, w32_0, wbi0, Classical.not_not, w32_id] at c7)
                refine ⟨fun q => absurd q (by decide), fun _ => ?_⟩
                first
                | (exfalso; omega)
                | (rw [hR, lin_0 (by omega)] at h; exact h)
                | (have e1 : sgK (A0 8) (F0 7 2) t = t := by unfold sgK; first | exact if_pos (by assumption) | exact if_neg (by assumption)
                   have ls := lin_s (T := A0 8) (n := F0 7 2) (l := l) (w := w) (t := t) (f := f) (by omega)
                   rw [e1] at ls
                   have e2 : lnE w (f (122 + l * 3 + 0)) t = (-12) := by
                     unfold lnE
                     first | rw [if_pos (show w < 2 by omega)] | rw [if_neg (show ¬ w < 2 by omega)]
                     first | exact if_pos ⟨by omega, by omega, by omega, by omega⟩ | exact if_neg (by omega)
                   rw [e2] at ls
                   rw [if_neg (by omega)] at ls
                   rw [hR, ls] at h
                   exact FA_eq h rfl (by first | rfl | (simp only [tkS_S]; done)) rfl)
                | (have e1 : sgK (A0 8) (F0 7 2) t = t := by unfold sgK; first | exact if_pos (by assumption) | exact if_neg (by assumption)
                   have ls := lin_s (T := A0 8) (n := F0 7 2) (l := l) (w := w) (t := t) (f := f) (by omega)
                   rw [e1] at ls
                   have e2 : lnE w (f (122 + l * 3 + 0)) t = inE 0 5 t := by
                     unfold lnE
                     first | rw [if_pos (show w < 2 by omega)] | rw [if_neg (show ¬ w < 2 by omega)]
                     first | exact if_pos ⟨by omega, by omega, by omega, by omega⟩ | exact if_neg (by omega)
                   rw [e2] at ls
                   rw [if_neg (by omega)] at ls
                   rw [hR, ls] at h
                   exact FA_eq h rfl (by first | rfl | (simp only [tkS_S]; done)) rfl)
                | (have e1 : sgK (A0 8) (F0 7 2) t = t := by unfold sgK; first | exact if_pos (by assumption) | exact if_neg (by assumption)
                   have ls := lin_s (T := A0 8) (n := F0 7 2) (l := l) (w := w) (t := t) (f := f) (by omega)
                   rw [e1] at ls
                   have e2 : lnE w (f (122 + l * 3 + 0)) t = inE 0 200 t := by
                     unfold lnE
                     first | rw [if_pos (show w < 2 by omega)] | rw [if_neg (show ¬ w < 2 by omega)]
                     first | exact if_pos ⟨by omega, by omega, by omega, by omega⟩ | exact if_neg (by omega)
                   rw [e2] at ls
                   rw [if_neg (by omega)] at ls
                   rw [hR, ls] at h
                   exact FA_eq h rfl (by first | rfl | (simp only [tkS_S]; done)) rfl)
                | (have e1 : sgK (A0 8) (F0 7 2) t = (nxT (A0 8) (F0 7 2) t) := by unfold sgK; first | exact if_pos (by assumption) | exact if_neg (by assumption)
                   have ls := lin_s (T := A0 8) (n := F0 7 2) (l := l) (w := w) (t := t) (f := f) (by omega)
                   rw [e1] at ls
                   have e2 : lnE w (f (122 + l * 3 + 0)) (nxT (A0 8) (F0 7 2) t) = (-12) := by
                     unfold lnE
                     first | rw [if_pos (show w < 2 by omega)] | rw [if_neg (show ¬ w < 2 by omega)]
                     first | exact if_pos ⟨by omega, by omega, by omega, by omega⟩ | exact if_neg (by omega)
                   rw [e2] at ls
                   rw [if_neg (by omega)] at ls
                   rw [hR, ls] at h
                   exact FA_eq h rfl (by first | rfl | (simp only [tkS_S]; done)) rfl)
                | (have e1 : sgK (A0 8) (F0 7 2) t = (nxT (A0 8) (F0 7 2) t) := by unfold sgK; first | exact if_pos (by assumption) | exact if_neg (by assumption)
                   have ls := lin_s (T := A0 8) (n := F0 7 2) (l := l) (w := w) (t := t) (f := f) (by omega)
                   rw [e1] at ls
                   have e2 : lnE w (f (122 + l * 3 + 0)) (nxT (A0 8) (F0 7 2) t) = inE 0 5 (nxT (A0 8) (F0 7 2) t) := by
                     unfold lnE
                     first | rw [if_pos (show w < 2 by omega)] | rw [if_neg (show ¬ w < 2 by omega)]
                     first | exact if_pos ⟨by omega, by omega, by omega, by omega⟩ | exact if_neg (by omega)
                   rw [e2] at ls
                   rw [if_neg (by omega)] at ls
                   rw [hR, ls] at h
                   exact FA_eq h rfl (by first | rfl | (simp only [tkS_S]; done)) rfl)
                | (have e1 : sgK (A0 8) (F0 7 2) t = (nxT (A0 8) (F0 7 2) t) := by unfold sgK; first | exact if_pos (by assumption) | exact if_neg (by assumption)
                   have ls := lin_s (T := A0 8) (n := F0 7 2) (l := l) (w := w) (t := t) (f := f) (by omega)
                   rw [e1] at ls
                   have e2 : lnE w (f (122 + l * 3 + 0)) (nxT (A0 8) (F0 7 2) t) = inE 0 200 (nxT (A0 8) (F0 7 2) t) := by
                     unfold lnE
                     first | rw [if_pos (show w < 2 by omega)] | rw [if_neg (show ¬ w < 2 by omega)]
                     first | exact if_pos ⟨by omega, by omega, by omega, by omega⟩ | exact if_neg (by omega)
                   rw [e2] at ls
                   rw [if_neg (by omega)] at ls
                   rw [hR, ls] at h
                   exact FA_eq h rfl (by first | rfl | (simp only [tkS_S]; done)) rfl)
              · skip
                (try simp (disch := omega) only [fat_in, w32_0, wbi0, Classical.not_not, w32_id] at c7)
                refine ⟨fun c8 => ?_, fun c8 => ?_⟩
                · skip
                  (try simp (disch := omega) only [fat_in, w32_0, wbi0, Classical.not_not, w32_id] at c8)
                  refine ⟨fun q => absurd q (by decide), fun _ => ?_⟩
                  refine ⟨by first | omega | exact ⟨by omega, by omega⟩, ?_⟩
                  refine ⟨⟨rfl, rfl, ?_⟩, by omega⟩
                  first
                  | (exfalso; omega)
                  | (have e1 : sgK (A0 8) (F0 7 2) t = t := by unfold sgK; first | exact if_pos (by assumption) | exact if_neg (by assumption)
                     have ls := lin_s (T := A0 8) (n := F0 7 2) (l := l) (w := w) (t := t) (f := f) (by omega)
                     rw [e1] at ls
                     have e2 : lnE w (f (122 + l * 3 + 0)) t = inE 0 5 t := by
                       unfold lnE
                       first | rw [if_pos (show w < 2 by omega)] | rw [if_neg (show ¬ w < 2 by omega)]
                       first | exact if_pos ⟨by omega, by omega, by omega, by omega⟩ | exact if_neg (by omega)
                     rw [e2] at ls
                     rw [if_pos (by omega)] at ls
                     refine ⟨nxT (A0 8) (F0 7 2) t, up1 f (122 + l * 3 + w) (if t.2.2.1 = 3 then -(t).2.2.2 else (t).2.2.2), ?_, (fput_r4 (by omega) (by omega)).trans ?_, h1, by omega, nxT_ok (by first | exact kt | exact kn), ?_, by rw [hR, ls]⟩
                     · rw [fput_r (show (8 : Nat) ≠ 4 by decide)]; simp only [tkS_S, r4_8]; done
                     · rw [r4_4, r4_r4, if_neg (by assumption)]
                     · unfold ctOK; rw [up1_o (by omega), up1_o (by omega)]; exact kc)
                  | (have e1 : sgK (A0 8) (F0 7 2) t = t := by unfold sgK; first | exact if_pos (by assumption) | exact if_neg (by assumption)
                     have ls := lin_s (T := A0 8) (n := F0 7 2) (l := l) (w := w) (t := t) (f := f) (by omega)
                     rw [e1] at ls
                     have e2 : lnE w (f (122 + l * 3 + 0)) t = inE 0 200 t := by
                       unfold lnE
                       first | rw [if_pos (show w < 2 by omega)] | rw [if_neg (show ¬ w < 2 by omega)]
                       first | exact if_pos ⟨by omega, by omega, by omega, by omega⟩ | exact if_neg (by omega)
                     rw [e2] at ls
                     rw [if_pos (by omega)] at ls
                     refine ⟨nxT (A0 8) (F0 7 2) t, up1 f (122 + l * 3 + w) (if t.2.2.1 = 3 then -(t).2.2.2 else (t).2.2.2), ?_, (fput_r4 (by omega) (by omega)).trans ?_, h1, by omega, nxT_ok (by first | exact kt | exact kn), ?_, by rw [hR, ls]⟩
                     · rw [fput_r (show (8 : Nat) ≠ 4 by decide)]; simp only [tkS_S, r4_8]; done
                     · rw [r4_4, r4_r4, if_neg (by assumption)]
                     · unfold ctOK; rw [up1_o (by omega), up1_o (by omega)]; exact kc)
                  | (have e1 : sgK (A0 8) (F0 7 2) t = (nxT (A0 8) (F0 7 2) t) := by unfold sgK; first | exact if_pos (by assumption) | exact if_neg (by assumption)
                     have ls := lin_s (T := A0 8) (n := F0 7 2) (l := l) (w := w) (t := t) (f := f) (by omega)
                     rw [e1] at ls
                     have e2 : lnE w (f (122 + l * 3 + 0)) (nxT (A0 8) (F0 7 2) t) = inE 0 5 (nxT (A0 8) (F0 7 2) t) := by
                       unfold lnE
                       first | rw [if_pos (show w < 2 by omega)] | rw [if_neg (show ¬ w < 2 by omega)]
                       first | exact if_pos ⟨by omega, by omega, by omega, by omega⟩ | exact if_neg (by omega)
                     rw [e2] at ls
                     rw [if_pos (by omega)] at ls
                     refine ⟨nxT (A0 8) (F0 7 2) (nxT (A0 8) (F0 7 2) t), up1 f (122 + l * 3 + w) (if t.2.2.1 = 3 then -((nxT (A0 8) (F0 7 2) t)).2.2.2 else ((nxT (A0 8) (F0 7 2) t)).2.2.2), ?_, (fput_r4 (by omega) (by omega)).trans ?_, h1, by omega, nxT_ok (by first | exact kt | exact kn), ?_, by rw [hR, ls]⟩
                     · rw [fput_r (show (8 : Nat) ≠ 4 by decide)]; simp only [tkS_S, r4_8]; done
                     · rw [r4_4, r4_r4, if_pos (by assumption)]
                     · unfold ctOK; rw [up1_o (by omega), up1_o (by omega)]; exact kc)
                  | (have e1 : sgK (A0 8) (F0 7 2) t = (nxT (A0 8) (F0 7 2) t) := by unfold sgK; first | exact if_pos (by assumption) | exact if_neg (by assumption)
                     have ls := lin_s (T := A0 8) (n := F0 7 2) (l := l) (w := w) (t := t) (f := f) (by omega)
                     rw [e1] at ls
                     have e2 : lnE w (f (122 + l * 3 + 0)) (nxT (A0 8) (F0 7 2) t) = inE 0 200 (nxT (A0 8) (F0 7 2) t) := by
                       unfold lnE
                       first | rw [if_pos (show w < 2 by omega)] | rw [if_neg (show ¬ w < 2 by omega)]
                       first | exact if_pos ⟨by omega, by omega, by omega, by omega⟩ | exact if_neg (by omega)
                     rw [e2] at ls
                     rw [if_pos (by omega)] at ls
                     refine ⟨nxT (A0 8) (F0 7 2) (nxT (A0 8) (F0 7 2) t), up1 f (122 + l * 3 + w) (if t.2.2.1 = 3 then -((nxT (A0 8) (F0 7 2) t)).2.2.2 else ((nxT (A0 8) (F0 7 2) t)).2.2.2), ?_, (fput_r4 (by omega) (by omega)).trans ?_, h1, by omega, nxT_ok (by first | exact kt | exact kn), ?_, by rw [hR, ls]⟩
                     · rw [fput_r (show (8 : Nat) ≠ 4 by decide)]; simp only [tkS_S, r4_8]; done
                     · rw [r4_4, r4_r4, if_pos (by assumption)]
                     · unfold ctOK; rw [up1_o (by omega), up1_o (by omega)]; exact kc)
                · skip
                  (try simp (disch := omega) only [fat_in, w32_0, wbi0, Classical.not_not, w32_id] at c8)
                  first
                  | (exfalso; omega)
                  | (rw [hR, lin_0 (by omega)] at h; exact h)
                  | (have e1 : sgK (A0 8) (F0 7 2) t = t := by unfold sgK; first | exact if_pos (by assumption) | exact if_neg (by assumption)
                     have ls := lin_s (T := A0 8) (n := F0 7 2) (l := l) (w := w) (t := t) (f := f) (by omega)
                     rw [e1] at ls
                     have e2 : lnE w (f (122 + l * 3 + 0)) t = (-12) := by
                       unfold lnE
                       first | rw [if_pos (show w < 2 by omega)] | rw [if_neg (show ¬ w < 2 by omega)]
                       first | exact if_pos ⟨by omega, by omega, by omega, by omega⟩ | exact if_neg (by omega)
                     rw [e2] at ls
                     rw [if_neg (by omega)] at ls
                     rw [hR, ls] at h
                     exact FA_eq h rfl (by first | rfl | (simp only [tkS_S]; done)) rfl)
                  | (have e1 : sgK (A0 8) (F0 7 2) t = t := by unfold sgK; first | exact if_pos (by assumption) | exact if_neg (by assumption)
                     have ls := lin_s (T := A0 8) (n := F0 7 2) (l := l) (w := w) (t := t) (f := f) (by omega)
                     rw [e1] at ls
                     have e2 : lnE w (f (122 + l * 3 + 0)) t = inE 0 5 t := by
                       unfold lnE
                       first | rw [if_pos (show w < 2 by omega)] | rw [if_neg (show ¬ w < 2 by omega)]
                       first | exact if_pos ⟨by omega, by omega, by omega, by omega⟩ | exact if_neg (by omega)
                     rw [e2] at ls
                     rw [if_neg (by omega)] at ls
                     rw [hR, ls] at h
                     exact FA_eq h rfl (by first | rfl | (simp only [tkS_S]; done)) rfl)
                  | (have e1 : sgK (A0 8) (F0 7 2) t = t := by unfold sgK; first | exact if_pos (by assumption) | exact if_neg (by assumption)
                     have ls := lin_s (T := A0 8) (n := F0 7 2) (l := l) (w := w) (t := t) (f := f) (by omega)
                     rw [e1] at ls
                     have e2 : lnE w (f (122 + l * 3 + 0)) t = inE 0 200 t := by
                       unfold lnE
                       first | rw [if_pos (show w < 2 by omega)] | rw [if_neg (show ¬ w < 2 by omega)]
                       first | exact if_pos ⟨by omega, by omega, by omega, by omega⟩ | exact if_neg (by omega)
                     rw [e2] at ls
                     rw [if_neg (by omega)] at ls
                     rw [hR, ls] at h
                     exact FA_eq h rfl (by first | rfl | (simp only [tkS_S]; done)) rfl)
                  | (have e1 : sgK (A0 8) (F0 7 2) t = (nxT (A0 8) (F0 7 2) t) := by unfold sgK; first | exact if_pos (by assumption) | exact if_neg (by assumption)
                     have ls := lin_s (T := A0 8) (n := F0 7 2) (l := l) (w := w) (t := t) (f := f) (by omega)
                     rw [e1] at ls
                     have e2 : lnE w (f (122 + l * 3 + 0)) (nxT (A0 8) (F0 7 2) t) = (-12) := by
                       unfold lnE
                       first | rw [if_pos (show w < 2 by omega)] | rw [if_neg (show ¬ w < 2 by omega)]
                       first | exact if_pos ⟨by omega, by omega, by omega, by omega⟩ | exact if_neg (by omega)
                     rw [e2] at ls
                     rw [if_neg (by omega)] at ls
                     rw [hR, ls] at h
                     exact FA_eq h rfl (by first | rfl | (simp only [tkS_S]; done)) rfl)
                  | (have e1 : sgK (A0 8) (F0 7 2) t = (nxT (A0 8) (F0 7 2) t) := by unfold sgK; first | exact if_pos (by assumption) | exact if_neg (by assumption)
                     have ls := lin_s (T := A0 8) (n := F0 7 2) (l := l) (w := w) (t := t) (f := f) (by omega)
                     rw [e1] at ls
                     have e2 : lnE w (f (122 + l * 3 + 0)) (nxT (A0 8) (F0 7 2) t) = inE 0 5 (nxT (A0 8) (F0 7 2) t) := by
                       unfold lnE
                       first | rw [if_pos (show w < 2 by omega)] | rw [if_neg (show ¬ w < 2 by omega)]
                       first | exact if_pos ⟨by omega, by omega, by omega, by omega⟩ | exact if_neg (by omega)
                     rw [e2] at ls
                     rw [if_neg (by omega)] at ls
                     rw [hR, ls] at h
                     exact FA_eq h rfl (by first | rfl | (simp only [tkS_S]; done)) rfl)
                  | (have e1 : sgK (A0 8) (F0 7 2) t = (nxT (A0 8) (F0 7 2) t) := by unfold sgK; first | exact if_pos (by assumption) | exact if_neg (by assumption)
                     have ls := lin_s (T := A0 8) (n := F0 7 2) (l := l) (w := w) (t := t) (f := f) (by omega)
                     rw [e1] at ls
                     have e2 : lnE w (f (122 + l * 3 + 0)) (nxT (A0 8) (F0 7 2) t) = inE 0 200 (nxT (A0 8) (F0 7 2) t) := by
                       unfold lnE
                       first | rw [if_pos (show w < 2 by omega)] | rw [if_neg (show ¬ w < 2 by omega)]
                       first | exact if_pos ⟨by omega, by omega, by omega, by omega⟩ | exact if_neg (by omega)
                     rw [e2] at ls
                     rw [if_neg (by omega)] at ls
                     rw [hR, ls] at h
                     exact FA_eq h rfl (by first | rfl | (simp only [tkS_S]; done)) rfl)
            · skip
              (try simp (disch := omega) only [fat_in, w32_0, wbi0, Classical.not_not, w32_id] at c6)
              refine ⟨fun c7 => ?_, fun c7 => ?_⟩
              · skip
                (try simp (disch := omega) only [fat_in, w32_0, wbi0, Classical.not_not, w32_id] at c7)
                refine ⟨fun q => absurd q (by decide), fun _ => ?_⟩
                refine ⟨by first | omega | exact ⟨by omega, by omega⟩, ?_⟩
                refine ⟨⟨rfl, rfl, ?_⟩, by omega⟩
                first
                | (exfalso; omega)
                | (have e1 : sgK (A0 8) (F0 7 2) t = t := by unfold sgK; first | exact if_pos (by assumption) | exact if_neg (by assumption)
                   have ls := lin_s (T := A0 8) (n := F0 7 2) (l := l) (w := w) (t := t) (f := f) (by omega)
                   rw [e1] at ls
                   have e2 : lnE w (f (122 + l * 3 + 0)) t = inE 0 5 t := by
                     unfold lnE
                     first | rw [if_pos (show w < 2 by omega)] | rw [if_neg (show ¬ w < 2 by omega)]
                     first | exact if_pos ⟨by omega, by omega, by omega, by omega⟩ | exact if_neg (by omega)
                   rw [e2] at ls
                   rw [if_pos (by omega)] at ls
                   refine ⟨nxT (A0 8) (F0 7 2) t, up1 f (122 + l * 3 + w) (if t.2.2.1 = 3 then -(t).2.2.2 else (t).2.2.2), ?_, (fput_r4 (by omega) (by omega)).trans ?_, h1, by omega, nxT_ok (by first | exact kt | exact kn), ?_, by rw [hR, ls]⟩
                   · rw [fput_r (show (8 : Nat) ≠ 4 by decide)]; simp only [tkS_S, r4_8]; done
                   · rw [r4_4, r4_r4, if_neg (by assumption)]
                   · unfold ctOK; rw [up1_o (by omega), up1_o (by omega)]; exact kc)
                | (have e1 : sgK (A0 8) (F0 7 2) t = t := by unfold sgK; first | exact if_pos (by assumption) | exact if_neg (by assumption)
                   have ls := lin_s (T := A0 8) (n := F0 7 2) (l := l) (w := w) (t := t) (f := f) (by omega)
                   rw [e1] at ls
                   have e2 : lnE w (f (122 + l * 3 + 0)) t = inE 0 200 t := by
                     unfold lnE
                     first | rw [if_pos (show w < 2 by omega)] | rw [if_neg (show ¬ w < 2 by omega)]
                     first | exact if_pos ⟨by omega, by omega, by omega, by omega⟩ | exact if_neg (by omega)
                   rw [e2] at ls
                   rw [if_pos (by omega)] at ls
                   refine ⟨nxT (A0 8) (F0 7 2) t, up1 f (122 + l * 3 + w) (if t.2.2.1 = 3 then -(t).2.2.2 else (t).2.2.2), ?_, (fput_r4 (by omega) (by omega)).trans ?_, h1, by omega, nxT_ok (by first | exact kt | exact kn), ?_, by rw [hR, ls]⟩
                   · rw [fput_r (show (8 : Nat) ≠ 4 by decide)]; simp only [tkS_S, r4_8]; done
                   · rw [r4_4, r4_r4, if_neg (by assumption)]
                   · unfold ctOK; rw [up1_o (by omega), up1_o (by omega)]; exact kc)
                | (have e1 : sgK (A0 8) (F0 7 2) t = (nxT (A0 8) (F0 7 2) t) := by unfold sgK; first | exact if_pos (by assumption) | exact if_neg (by assumption)
                   have ls := lin_s (T := A0 8) (n := F0 7 2) (l := l) (w := w) (t := t) (f := f) (by omega)
                   rw [e1] at ls
                   have e2 : lnE w (f (122 + l * 3 + 0)) (nxT (A0 8) (F0 7 2) t) = inE 0 5 (nxT (A0 8) (F0 7 2) t) := by
                     unfold lnE
                     first | rw [if_pos (show w < 2 by omega)] | rw [if_neg (show ¬ w < 2 by omega)]
                     first | exact if_pos ⟨by omega, by omega, by omega, by omega⟩ | exact if_neg (by omega)
                   rw [e2] at ls
                   rw [if_pos (by omega)] at ls
                   refine ⟨nxT (A0 8) (F0 7 2) (nxT (A0 8) (F0 7 2) t), up1 f (122 + l * 3 + w) (if t.2.2.1 = 3 then -((nxT (A0 8) (F0 7 2) t)).2.2.2 else ((nxT (A0 8) (F0 7 2) t)).2.2.2), ?_, (fput_r4 (by omega) (by omega)).trans ?_, h1, by omega, nxT_ok (by first | exact kt | exact kn), ?_, by rw [hR, ls]⟩
                   · rw [fput_r (show (8 : Nat) ≠ 4 by decide)]; simp only [tkS_S, r4_8]; done
                   · rw [r4_4, r4_r4, if_pos (by assumption)]
                   · unfold ctOK; rw [up1_o (by omega), up1_o (by omega)]; exact kc)
                | (have e1 : sgK (A0 8) (F0 7 2) t = (nxT (A0 8) (F0 7 2) t) := by unfold sgK; first | exact if_pos (by assumption) | exact if_neg (by assumption)
                   have ls := lin_s (T := A0 8) (n := F0 7 2) (l := l) (w := w) (t := t) (f := f) (by omega)
                   rw [e1] at ls
                   have e2 : lnE w (f (122 + l * 3 + 0)) (nxT (A0 8) (F0 7 2) t) = inE 0 200 (nxT (A0 8) (F0 7 2) t) := by
                     unfold lnE
                     first | rw [if_pos (show w < 2 by omega)] | rw [if_neg (show ¬ w < 2 by omega)]
                     first | exact if_pos ⟨by omega, by omega, by omega, by omega⟩ | exact if_neg (by omega)
                   rw [e2] at ls
                   rw [if_pos (by omega)] at ls
                   refine ⟨nxT (A0 8) (F0 7 2) (nxT (A0 8) (F0 7 2) t), up1 f (122 + l * 3 + w) (if t.2.2.1 = 3 then -((nxT (A0 8) (F0 7 2) t)).2.2.2 else ((nxT (A0 8) (F0 7 2) t)).2.2.2), ?_, (fput_r4 (by omega) (by omega)).trans ?_, h1, by omega, nxT_ok (by first | exact kt | exact kn), ?_, by rw [hR, ls]⟩
                   · rw [fput_r (show (8 : Nat) ≠ 4 by decide)]; simp only [tkS_S, r4_8]; done
                   · rw [r4_4, r4_r4, if_pos (by assumption)]
                   · unfold ctOK; rw [up1_o (by omega), up1_o (by omega)]; exact kc)
              · skip
                (try simp (disch := omega) only [fat_in, w32_0, wbi0, Classical.not_not, w32_id] at c7)
                first
                | (exfalso; omega)
                | (rw [hR, lin_0 (by omega)] at h; exact h)
                | (have e1 : sgK (A0 8) (F0 7 2) t = t := by unfold sgK; first | exact if_pos (by assumption) | exact if_neg (by assumption)
                   have ls := lin_s (T := A0 8) (n := F0 7 2) (l := l) (w := w) (t := t) (f := f) (by omega)
                   rw [e1] at ls
                   have e2 : lnE w (f (122 + l * 3 + 0)) t = (-12) := by
                     unfold lnE
                     first | rw [if_pos (show w < 2 by omega)] | rw [if_neg (show ¬ w < 2 by omega)]
                     first | exact if_pos ⟨by omega, by omega, by omega, by omega⟩ | exact if_neg (by omega)
                   rw [e2] at ls
                   rw [if_neg (by omega)] at ls
                   rw [hR, ls] at h
                   exact FA_eq h rfl (by first | rfl | (simp only [tkS_S]; done)) rfl)
                | (have e1 : sgK (A0 8) (F0 7 2) t = t := by unfold sgK; first | exact if_pos (by assumption) | exact if_neg (by assumption)
                   have ls := lin_s (T := A0 8) (n := F0 7 2) (l := l) (w := w) (t := t) (f := f) (by omega)
                   rw [e1] at ls
                   have e2 : lnE w (f (122 + l * 3 + 0)) t = inE 0 5 t := by
                     unfold lnE
                     first | rw [if_pos (show w < 2 by omega)] | rw [if_neg (show ¬ w < 2 by omega)]
                     first | exact if_pos ⟨by omega, by omega, by omega, by omega⟩ | exact if_neg (by omega)
                   rw [e2] at ls
                   rw [if_neg (by omega)] at ls
                   rw [hR, ls] at h
                   exact FA_eq h rfl (by first | rfl | (simp only [tkS_S]; done)) rfl)
                | (have e1 : sgK (A0 8) (F0 7 2) t = t := by unfold sgK; first | exact if_pos (by assumption) | exact if_neg (by assumption)
                   have ls := lin_s (T := A0 8) (n := F0 7 2) (l := l) (w := w) (t := t) (f := f) (by omega)
                   rw [e1] at ls
                   have e2 : lnE w (f (122 + l * 3 + 0)) t = inE 0 200 t := by
                     unfold lnE
                     first | rw [if_pos (show w < 2 by omega)] | rw [if_neg (show ¬ w < 2 by omega)]
                     first | exact if_pos ⟨by omega, by omega, by omega, by omega⟩ | exact if_neg (by omega)
                   rw [e2] at ls
                   rw [if_neg (by omega)] at ls
                   rw [hR, ls] at h
                   exact FA_eq h rfl (by first | rfl | (simp only [tkS_S]; done)) rfl)
                | (have e1 : sgK (A0 8) (F0 7 2) t = (nxT (A0 8) (F0 7 2) t) := by unfold sgK; first | exact if_pos (by assumption) | exact if_neg (by assumption)
                   have ls := lin_s (T := A0 8) (n := F0 7 2) (l := l) (w := w) (t := t) (f := f) (by omega)
                   rw [e1] at ls
                   have e2 : lnE w (f (122 + l * 3 + 0)) (nxT (A0 8) (F0 7 2) t) = (-12) := by
                     unfold lnE
                     first | rw [if_pos (show w < 2 by omega)] | rw [if_neg (show ¬ w < 2 by omega)]
                     first | exact if_pos ⟨by omega, by omega, by omega, by omega⟩ | exact if_neg (by omega)
                   rw [e2] at ls
                   rw [if_neg (by omega)] at ls
                   rw [hR, ls] at h
                   exact FA_eq h rfl (by first | rfl | (simp only [tkS_S]; done)) rfl)
                | (have e1 : sgK (A0 8) (F0 7 2) t = (nxT (A0 8) (F0 7 2) t) := by unfold sgK; first | exact if_pos (by assumption) | exact if_neg (by assumption)
                   have ls := lin_s (T := A0 8) (n := F0 7 2) (l := l) (w := w) (t := t) (f := f) (by omega)
                   rw [e1] at ls
                   have e2 : lnE w (f (122 + l * 3 + 0)) (nxT (A0 8) (F0 7 2) t) = inE 0 5 (nxT (A0 8) (F0 7 2) t) := by
                     unfold lnE
                     first | rw [if_pos (show w < 2 by omega)] | rw [if_neg (show ¬ w < 2 by omega)]
                     first | exact if_pos ⟨by omega, by omega, by omega, by omega⟩ | exact if_neg (by omega)
                   rw [e2] at ls
                   rw [if_neg (by omega)] at ls
                   rw [hR, ls] at h
                   exact FA_eq h rfl (by first | rfl | (simp only [tkS_S]; done)) rfl)
                | (have e1 : sgK (A0 8) (F0 7 2) t = (nxT (A0 8) (F0 7 2) t) := by unfold sgK; first | exact if_pos (by assumption) | exact if_neg (by assumption)
                   have ls := lin_s (T := A0 8) (n := F0 7 2) (l := l) (w := w) (t := t) (f := f) (by omega)
                   rw [e1] at ls
                   have e2 : lnE w (f (122 + l * 3 + 0)) (nxT (A0 8) (F0 7 2) t) = inE 0 200 (nxT (A0 8) (F0 7 2) t) := by
                     unfold lnE
                     first | rw [if_pos (show w < 2 by omega)] | rw [if_neg (show ¬ w < 2 by omega)]
                     first | exact if_pos ⟨by omega, by omega, by omega, by omega⟩ | exact if_neg (by omega)
                   rw [e2] at ls
                   rw [if_neg (by omega)] at ls
                   rw [hR, ls] at h
                   exact FA_eq h rfl (by first | rfl | (simp only [tkS_S]; done)) rfl)
          · skip
            (try simp (disch := omega) only [fat_in, w32_0, wbi0, Classical.not_not, w32_id] at c5)
            refine ⟨fun c6 => ?_, fun c6 => ?_⟩
            · skip
              (try simp (disch := omega) only [fat_in, w32_0, wbi0, Classical.not_not, w32_id] at c6)
              refine ⟨fun q => absurd q (by decide), fun _ => ?_⟩
              refine ⟨by first | omega | exact ⟨by omega, by omega⟩, ?_⟩
              refine ⟨⟨rfl, rfl, ?_⟩, by omega⟩
              first
              | (exfalso; omega)
              | (have e1 : sgK (A0 8) (F0 7 2) t = t := by unfold sgK; first | exact if_pos (by assumption) | exact if_neg (by assumption)
                 have ls := lin_s (T := A0 8) (n := F0 7 2) (l := l) (w := w) (t := t) (f := f) (by omega)
                 rw [e1] at ls
                 have e2 : lnE w (f (122 + l * 3 + 0)) t = inE 0 5 t := by
                   unfold lnE
                   first | rw [if_pos (show w < 2 by omega)] | rw [if_neg (show ¬ w < 2 by omega)]
                   first | exact if_pos ⟨by omega, by omega, by omega, by omega⟩ | exact if_neg (by omega)
                 rw [e2] at ls
                 rw [if_pos (by omega)] at ls
                 refine ⟨nxT (A0 8) (F0 7 2) t, up1 f (122 + l * 3 + w) (if t.2.2.1 = 3 then -(t).2.2.2 else (t).2.2.2), ?_, (fput_r4 (by omega) (by omega)).trans ?_, h1, by omega, nxT_ok (by first | exact kt | exact kn), ?_, by rw [hR, ls]⟩
                 · rw [fput_r (show (8 : Nat) ≠ 4 by decide)]; simp only [tkS_S, r4_8]; done
                 · rw [r4_4, r4_r4, if_neg (by assumption)]
                 · unfold ctOK; rw [up1_o (by omega), up1_o (by omega)]; exact kc)
              | (have e1 : sgK (A0 8) (F0 7 2) t = t := by unfold sgK; first | exact if_pos (by assumption) | exact if_neg (by assumption)
                 have ls := lin_s (T := A0 8) (n := F0 7 2) (l := l) (w := w) (t := t) (f := f) (by omega)
                 rw [e1] at ls
                 have e2 : lnE w (f (122 + l * 3 + 0)) t = inE 0 200 t := by
                   unfold lnE
                   first | rw [if_pos (show w < 2 by omega)] | rw [if_neg (show ¬ w < 2 by omega)]
                   first | exact if_pos ⟨by omega, by omega, by omega, by omega⟩ | exact if_neg (by omega)
                 rw [e2] at ls
                 rw [if_pos (by omega)] at ls
                 refine ⟨nxT (A0 8) (F0 7 2) t, up1 f (122 + l * 3 + w) (if t.2.2.1 = 3 then -(t).2.2.2 else (t).2.2.2), ?_, (fput_r4 (by omega) (by omega)).trans ?_, h1, by omega, nxT_ok (by first | exact kt | exact kn), ?_, by rw [hR, ls]⟩
                 · rw [fput_r (show (8 : Nat) ≠ 4 by decide)]; simp only [tkS_S, r4_8]; done
                 · rw [r4_4, r4_r4, if_neg (by assumption)]
                 · unfold ctOK; rw [up1_o (by omega), up1_o (by omega)]; exact kc)
              | (have e1 : sgK (A0 8) (F0 7 2) t = (nxT (A0 8) (F0 7 2) t) := by unfold sgK; first | exact if_pos (by assumption) | exact if_neg (by assumption)
                 have ls := lin_s (T := A0 8) (n := F0 7 2) (l := l) (w := w) (t := t) (f := f) (by omega)
                 rw [e1] at ls
                 have e2 : lnE w (f (122 + l * 3 + 0)) (nxT (A0 8) (F0 7 2) t) = inE 0 5 (nxT (A0 8) (F0 7 2) t) := by
                   unfold lnE
                   first | rw [if_pos (show w < 2 by omega)] | rw [if_neg (show ¬ w < 2 by omega)]
                   first | exact if_pos ⟨by omega, by omega, by omega, by omega⟩ | exact if_neg (by omega)
                 rw [e2] at ls
                 rw [if_pos (by omega)] at ls
                 refine ⟨nxT (A0 8) (F0 7 2) (nxT (A0 8) (F0 7 2) t), up1 f (122 + l * 3 + w) (if t.2.2.1 = 3 then -((nxT (A0 8) (F0 7 2) t)).2.2.2 else ((nxT (A0 8) (F0 7 2) t)).2.2.2), ?_, (fput_r4 (by omega) (by omega)).trans ?_, h1, by omega, nxT_ok (by first | exact kt | exact kn), ?_, by rw [hR, ls]⟩
                 · rw [fput_r (show (8 : Nat) ≠ 4 by decide)]; simp only [tkS_S, r4_8]; done
                 · rw [r4_4, r4_r4, if_pos (by assumption)]
                 · unfold ctOK; rw [up1_o (by omega), up1_o (by omega)]; exact kc)
              | (have e1 : sgK (A0 8) (F0 7 2) t = (nxT (A0 8) (F0 7 2) t) := by unfold sgK; first | exact if_pos (by assumption) | exact if_neg (by assumption)
                 have ls := lin_s (T := A0 8) (n := F0 7 2) (l := l) (w := w) (t := t) (f := f) (by omega)
                 rw [e1] at ls
                 have e2 : lnE w (f (122 + l * 3 + 0)) (nxT (A0 8) (F0 7 2) t) = inE 0 200 (nxT (A0 8) (F0 7 2) t) := by
                   unfold lnE
                   first | rw [if_pos (show w < 2 by omega)] | rw [if_neg (show ¬ w < 2 by omega)]
                   first | exact if_pos ⟨by omega, by omega, by omega, by omega⟩ | exact if_neg (by omega)
                 rw [e2] at ls
                 rw [if_pos (by omega)] at ls
                 refine ⟨nxT (A0 8) (F0 7 2) (nxT (A0 8) (F0 7 2) t), up1 f (122 + l * 3 + w) (if t.2.2.1 = 3 then -((nxT (A0 8) (F0 7 2) t)).2.2.2 else ((nxT (A0 8) (F0 7 2) t)).2.2.2), ?_, (fput_r4 (by omega) (by omega)).trans ?_, h1, by omega, nxT_ok (by first | exact kt | exact kn), ?_, by rw [hR, ls]⟩
                 · rw [fput_r (show (8 : Nat) ≠ 4 by decide)]; simp only [tkS_S, r4_8]; done
                 · rw [r4_4, r4_r4, if_pos (by assumption)]
                 · unfold ctOK; rw [up1_o (by omega), up1_o (by omega)]; exact kc)
            · skip
              (try simp (disch := omega) only [fat_in, w32_0, wbi0, Classical.not_not, w32_id] at c6)
              first
              | (exfalso; omega)
              | (rw [hR, lin_0 (by omega)] at h; exact h)
              | (have e1 : sgK (A0 8) (F0 7 2) t = t := by unfold sgK; first | exact if_pos (by assumption) | exact if_neg (by assumption)
                 have ls := lin_s (T := A0 8) (n := F0 7 2) (l := l) (w := w) (t := t) (f := f) (by omega)
                 rw [e1] at ls
                 have e2 : lnE w (f (122 + l * 3 + 0)) t = (-12) := by
                   unfold lnE
                   first | rw [if_pos (show w < 2 by omega)] | rw [if_neg (show ¬ w < 2 by omega)]
                   first | exact if_pos ⟨by omega, by omega, by omega, by omega⟩ | exact if_neg (by omega)
                 rw [e2] at ls
                 rw [if_neg (by omega)] at ls
                 rw [hR, ls] at h
                 exact FA_eq h rfl (by first | rfl | (simp only [tkS_S]; done)) rfl)
              | (have e1 : sgK (A0 8) (F0 7 2) t = t := by unfold sgK; first | exact if_pos (by assumption) | exact if_neg (by assumption)
                 have ls := lin_s (T := A0 8) (n := F0 7 2) (l := l) (w := w) (t := t) (f := f) (by omega)
                 rw [e1] at ls
                 have e2 : lnE w (f (122 + l * 3 + 0)) t = inE 0 5 t := by
                   unfold lnE
                   first | rw [if_pos (show w < 2 by omega)] | rw [if_neg (show ¬ w < 2 by omega)]
                   first | exact if_pos ⟨by omega, by omega, by omega, by omega⟩ | exact if_neg (by omega)
                 rw [e2] at ls
                 rw [if_neg (by omega)] at ls
                 rw [hR, ls] at h
                 exact FA_eq h rfl (by first | rfl | (simp only [tkS_S]; done)) rfl)
              | (have e1 : sgK (A0 8) (F0 7 2) t = t := by unfold sgK; first | exact if_pos (by assumption) | exact if_neg (by assumption)
                 have ls := lin_s (T := A0 8) (n := F0 7 2) (l := l) (w := w) (t := t) (f := f) (by omega)
                 rw [e1] at ls
                 have e2 : lnE w (f (122 + l * 3 + 0)) t = inE 0 200 t := by
                   unfold lnE
                   first | rw [if_pos (show w < 2 by omega)] | rw [if_neg (show ¬ w < 2 by omega)]
                   first | exact if_pos ⟨by omega, by omega, by omega, by omega⟩ | exact if_neg (by omega)
                 rw [e2] at ls
                 rw [if_neg (by omega)] at ls
                 rw [hR, ls] at h
                 exact FA_eq h rfl (by first | rfl | (simp only [tkS_S]; done)) rfl)
              | (have e1 : sgK (A0 8) (F0 7 2) t = (nxT (A0 8) (F0 7 2) t) := by unfold sgK; first | exact if_pos (by assumption) | exact if_neg (by assumption)
                 have ls := lin_s (T := A0 8) (n := F0 7 2) (l := l) (w := w) (t := t) (f := f) (by omega)
                 rw [e1] at ls
                 have e2 : lnE w (f (122 + l * 3 + 0)) (nxT (A0 8) (F0 7 2) t) = (-12) := by
                   unfold lnE
                   first | rw [if_pos (show w < 2 by omega)] | rw [if_neg (show ¬ w < 2 by omega)]
                   first | exact if_pos ⟨by omega, by omega, by omega, by omega⟩ | exact if_neg (by omega)
                 rw [e2] at ls
                 rw [if_neg (by omega)] at ls
                 rw [hR, ls] at h
                 exact FA_eq h rfl (by first | rfl | (simp only [tkS_S]; done)) rfl)
              | (have e1 : sgK (A0 8) (F0 7 2) t = (nxT (A0 8) (F0 7 2) t) := by unfold sgK; first | exact if_pos (by assumption) | exact if_neg (by assumption)
                 have ls := lin_s (T := A0 8) (n := F0 7 2) (l := l) (w := w) (t := t) (f := f) (by omega)
                 rw [e1] at ls
                 have e2 : lnE w (f (122 + l * 3 + 0)) (nxT (A0 8) (F0 7 2) t) = inE 0 5 (nxT (A0 8) (F0 7 2) t) := by
                   unfold lnE
                   first | rw [if_pos (show w < 2 by omega)] | rw [if_neg (show ¬ w < 2 by omega)]
                   first | exact if_pos ⟨by omega, by omega, by omega, by omega⟩ | exact if_neg (by omega)
                 rw [e2] at ls
                 rw [if_neg (by omega)] at ls
                 rw [hR, ls] at h
                 exact FA_eq h rfl (by first | rfl | (simp only [tkS_S]; done)) rfl)
              | (have e1 : sgK (A0 8) (F0 7 2) t = (nxT (A0 8) (F0 7 2) t) := by unfold sgK; first | exact if_pos (by assumption) | exact if_neg (by assumption)
                 have ls := lin_s (T := A0 8) (n := F0 7 2) (l := l) (w := w) (t := t) (f := f) (by omega)
                 rw [e1] at ls
                 have e2 : lnE w (f (122 + l * 3 + 0)) (nxT (A0 8) (F0 7 2) t) = inE 0 200 (nxT (A0 8) (F0 7 2) t) := by
                   unfold lnE
                   first | rw [if_pos (show w < 2 by omega)] | rw [if_neg (show ¬ w < 2 by omega)]
                   first | exact if_pos ⟨by omega, by omega, by omega, by omega⟩ | exact if_neg (by omega)
                 rw [e2] at ls
                 rw [if_neg (by omega)] at ls
                 rw [hR, ls] at h
                 exact FA_eq h rfl (by first | rfl | (simp only [tkS_S]; done)) rfl)
        · skip
          (try simp (disch := omega) only [fat_in, w32_0, wbi0, Classical.not_not, w32_id] at c4)
          refine ⟨fun c5 => ?_, fun c5 => ?_⟩
          · skip
            (try simp (disch := omega) only [fat_in, w32_0, wbi0, Classical.not_not, w32_id] at c5)
            refine ⟨fun q => absurd q (by decide), fun _ => ?_⟩
            refine ⟨by first | omega | exact ⟨by omega, by omega⟩, ?_⟩
            refine ⟨⟨rfl, rfl, ?_⟩, by omega⟩
            first
            | (exfalso; omega)
            | (have e1 : sgK (A0 8) (F0 7 2) t = t := by unfold sgK; first | exact if_pos (by assumption) | exact if_neg (by assumption)
               have ls := lin_s (T := A0 8) (n := F0 7 2) (l := l) (w := w) (t := t) (f := f) (by omega)
               rw [e1] at ls
               have e2 : lnE w (f (122 + l * 3 + 0)) t = inE 0 5 t := by
                 unfold lnE
                 first | rw [if_pos (show w < 2 by omega)] | rw [if_neg (show ¬ w < 2 by omega)]
                 first | exact if_pos ⟨by omega, by omega, by omega, by omega⟩ | exact if_neg (by omega)
               rw [e2] at ls
               rw [if_pos (by omega)] at ls
               refine ⟨nxT (A0 8) (F0 7 2) t, up1 f (122 + l * 3 + w) (if t.2.2.1 = 3 then -(t).2.2.2 else (t).2.2.2), ?_, (fput_r4 (by omega) (by omega)).trans ?_, h1, by omega, nxT_ok (by first | exact kt | exact kn), ?_, by rw [hR, ls]⟩
               · rw [fput_r (show (8 : Nat) ≠ 4 by decide)]; simp only [tkS_S, r4_8]; done
               · rw [r4_4, r4_r4, if_neg (by assumption)]
               · unfold ctOK; rw [up1_o (by omega), up1_o (by omega)]; exact kc)
            | (have e1 : sgK (A0 8) (F0 7 2) t = t := by unfold sgK; first | exact if_pos (by assumption) | exact if_neg (by assumption)
               have ls := lin_s (T := A0 8) (n := F0 7 2) (l := l) (w := w) (t := t) (f := f) (by omega)
               rw [e1] at ls
               have e2 : lnE w (f (122 + l * 3 + 0)) t = inE 0 200 t := by
                 unfold lnE
                 first | rw [if_pos (show w < 2 by omega)] | rw [if_neg (show ¬ w < 2 by omega)]
                 first | exact if_pos ⟨by omega, by omega, by omega, by omega⟩ | exact if_neg (by omega)
               rw [e2] at ls
               rw [if_pos (by omega)] at ls
               refine ⟨nxT (A0 8) (F0 7 2) t, up1 f (122 + l * 3 + w) (if t.2.2.1 = 3 then -(t).2.2.2 else (t).2.2.2), ?_, (fput_r4 (by omega) (by omega)).trans ?_, h1, by omega, nxT_ok (by first | exact kt | exact kn), ?_, by rw [hR, ls]⟩
               · rw [fput_r (show (8 : Nat) ≠ 4 by decide)]; simp only [tkS_S, r4_8]; done
               · rw [r4_4, r4_r4, if_neg (by assumption)]
               · unfold ctOK; rw [up1_o (by omega), up1_o (by omega)]; exact kc)
            | (have e1 : sgK (A0 8) (F0 7 2) t = (nxT (A0 8) (F0 7 2) t) := by unfold sgK; first | exact if_pos (by assumption) | exact if_neg (by assumption)
               have ls := lin_s (T := A0 8) (n := F0 7 2) (l := l) (w := w) (t := t) (f := f) (by omega)
               rw [e1] at ls
               have e2 : lnE w (f (122 + l * 3 + 0)) (nxT (A0 8) (F0 7 2) t) = inE 0 5 (nxT (A0 8) (F0 7 2) t) := by
                 unfold lnE
                 first | rw [if_pos (show w < 2 by omega)] | rw [if_neg (show ¬ w < 2 by omega)]
                 first | exact if_pos ⟨by omega, by omega, by omega, by omega⟩ | exact if_neg (by omega)
               rw [e2] at ls
               rw [if_pos (by omega)] at ls
               refine ⟨nxT (A0 8) (F0 7 2) (nxT (A0 8) (F0 7 2) t), up1 f (122 + l * 3 + w) (if t.2.2.1 = 3 then -((nxT (A0 8) (F0 7 2) t)).2.2.2 else ((nxT (A0 8) (F0 7 2) t)).2.2.2), ?_, (fput_r4 (by omega) (by omega)).trans ?_, h1, by omega, nxT_ok (by first | exact kt | exact kn), ?_, by rw [hR, ls]⟩
               · rw [fput_r (show (8 : Nat) ≠ 4 by decide)]; simp only [tkS_S, r4_8]; done
               · rw [r4_4, r4_r4, if_pos (by assumption)]
               · unfold ctOK; rw [up1_o (by omega), up1_o (by omega)]; exact kc)
            | (have e1 : sgK (A0 8) (F0 7 2) t = (nxT (A0 8) (F0 7 2) t) := by unfold sgK; first | exact if_pos (by assumption) | exact if_neg (by assumption)
               have ls := lin_s (T := A0 8) (n := F0 7 2) (l := l) (w := w) (t := t) (f := f) (by omega)
               rw [e1] at ls
               have e2 : lnE w (f (122 + l * 3 + 0)) (nxT (A0 8) (F0 7 2) t) = inE 0 200 (nxT (A0 8) (F0 7 2) t) := by
                 unfold lnE
                 first | rw [if_pos (show w < 2 by omega)] | rw [if_neg (show ¬ w < 2 by omega)]
                 first | exact if_pos ⟨by omega, by omega, by omega, by omega⟩ | exact if_neg (by omega)
               rw [e2] at ls
               rw [if_pos (by omega)] at ls
               refine ⟨nxT (A0 8) (F0 7 2) (nxT (A0 8) (F0 7 2) t), up1 f (122 + l * 3 + w) (if t.2.2.1 = 3 then -((nxT (A0 8) (F0 7 2) t)).2.2.2 else ((nxT (A0 8) (F0 7 2) t)).2.2.2), ?_, (fput_r4 (by omega) (by omega)).trans ?_, h1, by omega, nxT_ok (by first | exact kt | exact kn), ?_, by rw [hR, ls]⟩
               · rw [fput_r (show (8 : Nat) ≠ 4 by decide)]; simp only [tkS_S, r4_8]; done
               · rw [r4_4, r4_r4, if_pos (by assumption)]
               · unfold ctOK; rw [up1_o (by omega), up1_o (by omega)]; exact kc)
          · skip
            (try simp (disch := omega) only [fat_in, w32_0, wbi0, Classical.not_not, w32_id] at c5)
            first
            | (exfalso; omega)
            | (rw [hR, lin_0 (by omega)] at h; exact h)
            | (have e1 : sgK (A0 8) (F0 7 2) t = t := by unfold sgK; first | exact if_pos (by assumption) | exact if_neg (by assumption)
               have ls := lin_s (T := A0 8) (n := F0 7 2) (l := l) (w := w) (t := t) (f := f) (by omega)
               rw [e1] at ls
               have e2 : lnE w (f (122 + l * 3 + 0)) t = (-12) := by
                 unfold lnE
                 first | rw [if_pos (show w < 2 by omega)] | rw [if_neg (show ¬ w < 2 by omega)]
                 first | exact if_pos ⟨by omega, by omega, by omega, by omega⟩ | exact if_neg (by omega)
               rw [e2] at ls
               rw [if_neg (by omega)] at ls
               rw [hR, ls] at h
               exact FA_eq h rfl (by first | rfl | (simp only [tkS_S]; done)) rfl)
            | (have e1 : sgK (A0 8) (F0 7 2) t = t := by unfold sgK; first | exact if_pos (by assumption) | exact if_neg (by assumption)
               have ls := lin_s (T := A0 8) (n := F0 7 2) (l := l) (w := w) (t := t) (f := f) (by omega)
               rw [e1] at ls
               have e2 : lnE w (f (122 + l * 3 + 0)) t = inE 0 5 t := by
                 unfold lnE
                 first | rw [if_pos (show w < 2 by omega)] | rw [if_neg (show ¬ w < 2 by omega)]
                 first | exact if_pos ⟨by omega, by omega, by omega, by omega⟩ | exact if_neg (by omega)
               rw [e2] at ls
               rw [if_neg (by omega)] at ls
               rw [hR, ls] at h
               exact FA_eq h rfl (by first | rfl | (simp only [tkS_S]; done)) rfl)
            | (have e1 : sgK (A0 8) (F0 7 2) t = t := by unfold sgK; first | exact if_pos (by assumption) | exact if_neg (by assumption)
               have ls := lin_s (T := A0 8) (n := F0 7 2) (l := l) (w := w) (t := t) (f := f) (by omega)
               rw [e1] at ls
               have e2 : lnE w (f (122 + l * 3 + 0)) t = inE 0 200 t := by
                 unfold lnE
                 first | rw [if_pos (show w < 2 by omega)] | rw [if_neg (show ¬ w < 2 by omega)]
                 first | exact if_pos ⟨by omega, by omega, by omega, by omega⟩ | exact if_neg (by omega)
               rw [e2] at ls
               rw [if_neg (by omega)] at ls
               rw [hR, ls] at h
               exact FA_eq h rfl (by first | rfl | (simp only [tkS_S]; done)) rfl)
            | (have e1 : sgK (A0 8) (F0 7 2) t = (nxT (A0 8) (F0 7 2) t) := by unfold sgK; first | exact if_pos (by assumption) | exact if_neg (by assumption)
               have ls := lin_s (T := A0 8) (n := F0 7 2) (l := l) (w := w) (t := t) (f := f) (by omega)
               rw [e1] at ls
               have e2 : lnE w (f (122 + l * 3 + 0)) (nxT (A0 8) (F0 7 2) t) = (-12) := by
                 unfold lnE
                 first | rw [if_pos (show w < 2 by omega)] | rw [if_neg (show ¬ w < 2 by omega)]
                 first | exact if_pos ⟨by omega, by omega, by omega, by omega⟩ | exact if_neg (by omega)
               rw [e2] at ls
               rw [if_neg (by omega)] at ls
               rw [hR, ls] at h
               exact FA_eq h rfl (by first | rfl | (simp only [tkS_S]; done)) rfl)
            | (have e1 : sgK (A0 8) (F0 7 2) t = (nxT (A0 8) (F0 7 2) t) := by unfold sgK; first | exact if_pos (by assumption) | exact if_neg (by assumption)
               have ls := lin_s (T := A0 8) (n := F0 7 2) (l := l) (w := w) (t := t) (f := f) (by omega)
               rw [e1] at ls
               have e2 : lnE w (f (122 + l * 3 + 0)) (nxT (A0 8) (F0 7 2) t) = inE 0 5 (nxT (A0 8) (F0 7 2) t) := by
                 unfold lnE
                 first | rw [if_pos (show w < 2 by omega)] | rw [if_neg (show ¬ w < 2 by omega)]
                 first | exact if_pos ⟨by omega, by omega, by omega, by omega⟩ | exact if_neg (by omega)
               rw [e2] at ls
               rw [if_neg (by omega)] at ls
               rw [hR, ls] at h
               exact FA_eq h rfl (by first | rfl | (simp only [tkS_S]; done)) rfl)
            | (have e1 : sgK (A0 8) (F0 7 2) t = (nxT (A0 8) (F0 7 2) t) := by unfold sgK; first | exact if_pos (by assumption) | exact if_neg (by assumption)
               have ls := lin_s (T := A0 8) (n := F0 7 2) (l := l) (w := w) (t := t) (f := f) (by omega)
               rw [e1] at ls
               have e2 : lnE w (f (122 + l * 3 + 0)) (nxT (A0 8) (F0 7 2) t) = inE 0 200 (nxT (A0 8) (F0 7 2) t) := by
                 unfold lnE
                 first | rw [if_pos (show w < 2 by omega)] | rw [if_neg (show ¬ w < 2 by omega)]
                 first | exact if_pos ⟨by omega, by omega, by omega, by omega⟩ | exact if_neg (by omega)
               rw [e2] at ls
               rw [if_neg (by omega)] at ls
               rw [hR, ls] at h
               exact FA_eq h rfl (by first | rfl | (simp only [tkS_S]; done)) rfl)
    · skip
      (try simp (disch := omega) only [fat_in, w32_0, wbi0, Classical.not_not, w32_id] at c2)
      refine ⟨fun _ => ?_, fun q => absurd (by decide) q⟩
      refine ⟨fun c3 => ?_, fun c3 => ?_⟩
      · skip
        (try simp (disch := omega) only [fat_in, w32_0, wbi0, Classical.not_not, w32_id] at c3)
        refine ⟨by first | omega | exact ⟨by omega, by omega⟩, ?_⟩
        refine ⟨fun c4 => ?_, fun c4 => ?_⟩
        · skip
          (try simp (disch := omega) only [fat_in, w32_0, wbi0, Classical.not_not, w32_id] at c4)
          refine ⟨fun c5 => ?_, fun c5 => ?_⟩
          · skip
            (try simp (disch := omega) only [fat_in, w32_0, wbi0, Classical.not_not, w32_id] at c5)
            refine ⟨fun c6 => ?_, fun c6 => ?_⟩
            · skip
              (try simp (disch := omega) only [fat_in, w32_0, wbi0, Classical.not_not, w32_id] at c6)
              refine ⟨fun c7 => ?_, fun c7 => ?_⟩
              · skip
                (try simp (disch := omega) only [fat_in, w32_0, wbi0, Classical.not_not, w32_id] at c7)
                refine ⟨fun q => absurd q (by decide), fun _ => ?_⟩
                first
                | (exfalso; omega)
                | (rw [hR, lin_0 (by omega)] at h; exact h)
                | (have e1 : sgK (A0 8) (F0 7 2) t = t := by unfold sgK; first | exact if_pos (by assumption) | exact if_neg (by assumption)
                   have ls := lin_s (T := A0 8) (n := F0 7 2) (l := l) (w := w) (t := t) (f := f) (by omega)
                   rw [e1] at ls
                   have e2 : lnE w (f (122 + l * 3 + 0)) t = (-12) := by
                     unfold lnE
                     first | rw [if_pos (show w < 2 by omega)] | rw [if_neg (show ¬ w < 2 by omega)]
                     first | exact if_pos ⟨by omega, by omega, by omega, by omega⟩ | exact if_neg (by omega)
                   rw [e2] at ls
                   rw [if_neg (by omega)] at ls
                   rw [hR, ls] at h
                   exact FA_eq h rfl (by first | rfl | (simp only [tkS_S]; done)) rfl)
                | (have e1 : sgK (A0 8) (F0 7 2) t = t := by unfold sgK; first | exact if_pos (by assumption) | exact if_neg (by assumption)
                   have ls := lin_s (T := A0 8) (n := F0 7 2) (l := l) (w := w) (t := t) (f := f) (by omega)
                   rw [e1] at ls
                   have e2 : lnE w (f (122 + l * 3 + 0)) t = inE 0 5 t := by
                     unfold lnE
                     first | rw [if_pos (show w < 2 by omega)] | rw [if_neg (show ¬ w < 2 by omega)]
                     first | exact if_pos ⟨by omega, by omega, by omega, by omega⟩ | exact if_neg (by omega)
                   rw [e2] at ls
                   rw [if_neg (by omega)] at ls
                   rw [hR, ls] at h
                   exact FA_eq h rfl (by first | rfl | (simp only [tkS_S]; done)) rfl)
                | (have e1 : sgK (A0 8) (F0 7 2) t = t := by unfold sgK; first | exact if_pos (by assumption) | exact if_neg (by assumption)
                   have ls := lin_s (T := A0 8) (n := F0 7 2) (l := l) (w := w) (t := t) (f := f) (by omega)
                   rw [e1] at ls
                   have e2 : lnE w (f (122 + l * 3 + 0)) t = inE 0 200 t := by
                     unfold lnE
                     first | rw [if_pos (show w < 2 by omega)] | rw [if_neg (show ¬ w < 2 by omega)]
                     first | exact if_pos ⟨by omega, by omega, by omega, by omega⟩ | exact if_neg (by omega)
                   rw [e2] at ls
                   rw [if_neg (by omega)] at ls
                   rw [hR, ls] at h
                   exact FA_eq h rfl (by first | rfl | (simp only [tkS_S]; done)) rfl)
                | (have e1 : sgK (A0 8) (F0 7 2) t = (nxT (A0 8) (F0 7 2) t) := by unfold sgK; first | exact if_pos (by assumption) | exact if_neg (by assumption)
                   have ls := lin_s (T := A0 8) (n := F0 7 2) (l := l) (w := w) (t := t) (f := f) (by omega)
                   rw [e1] at ls
                   have e2 : lnE w (f (122 + l * 3 + 0)) (nxT (A0 8) (F0 7 2) t) = (-12) := by
                     unfold lnE
                     first | rw [if_pos (show w < 2 by omega)] | rw [if_neg (show ¬ w < 2 by omega)]
                     first | exact if_pos ⟨by omega, by omega, by omega, by omega⟩ | exact if_neg (by omega)
                   rw [e2] at ls
                   rw [if_neg (by omega)] at ls
                   rw [hR, ls] at h
                   exact FA_eq h rfl (by first | rfl | (simp only [tkS_S]; done)) rfl)
                | (have e1 : sgK (A0 8) (F0 7 2) t = (nxT (A0 8) (F0 7 2) t) := by unfold sgK; first | exact if_pos (by assumption) | exact if_neg (by assumption)
                   have ls := lin_s (T := A0 8) (n := F0 7 2) (l := l) (w := w) (t := t) (f := f) (by omega)
                   rw [e1] at ls
                   have e2 : lnE w (f (122 + l * 3 + 0)) (nxT (A0 8) (F0 7 2) t) = inE 0 5 (nxT (A0 8) (F0 7 2) t) := by
                     unfold lnE
                     first | rw [if_pos (show w < 2 by omega)] | rw [if_neg (show ¬ w < 2 by omega)]
                     first | exact if_pos ⟨by omega, by omega, by omega, by omega⟩ | exact if_neg (by omega)
                   rw [e2] at ls
                   rw [if_neg (by omega)] at ls
                   rw [hR, ls] at h
                   exact FA_eq h rfl (by first | rfl | (simp only [tkS_S]; done)) rfl)
                | (have e1 : sgK (A0 8) (F0 7 2) t = (nxT (A0 8) (F0 7 2) t) := by unfold sgK; first | exact if_pos (by assumption) | exact if_neg (by assumption)
                   have ls := lin_s (T := A0 8) (n := F0 7 2) (l := l) (w := w) (t := t) (f := f) (by omega)
                   rw [e1] at ls
                   have e2 : lnE w (f (122 + l * 3 + 0)) (nxT (A0 8) (F0 7 2) t) = inE 0 200 (nxT (A0 8) (F0 7 2) t) := by
                     unfold lnE
                     first | rw [if_pos (show w < 2 by omega)] | rw [if_neg (show ¬ w < 2 by omega)]
                     first | exact if_pos ⟨by omega, by omega, by omega, by omega⟩ | exact if_neg (by omega)
                   rw [e2] at ls
                   rw [if_neg (by omega)] at ls
                   rw [hR, ls] at h
                   exact FA_eq h rfl (by first | rfl | (simp only [tkS_S]; done)) rfl)
              · skip
                (try simp (disch := omega) only [fat_in, w32_0, wbi0, Classical.not_not, w32_id] at c7)
                refine ⟨fun c8 => ?_, fun c8 => ?_⟩
                · skip
                  (try simp (disch := omega) only [fat_in, w32_0, wbi0, Classical.not_not, w32_id] at c8)
                  refine ⟨fun _ => ?_, fun q => absurd (by decide) q⟩
                  refine ⟨by first | omega | exact ⟨by omega, by omega⟩, ?_⟩
                  refine ⟨⟨rfl, rfl, ?_⟩, by omega⟩
                  first
                  | (exfalso; omega)
                  | (have e1 : sgK (A0 8) (F0 7 2) t = t := by unfold sgK; first | exact if_pos (by assumption) | exact if_neg (by assumption)
                     have ls := lin_s (T := A0 8) (n := F0 7 2) (l := l) (w := w) (t := t) (f := f) (by omega)
                     rw [e1] at ls
                     have e2 : lnE w (f (122 + l * 3 + 0)) t = inE 0 5 t := by
                       unfold lnE
                       first | rw [if_pos (show w < 2 by omega)] | rw [if_neg (show ¬ w < 2 by omega)]
                       first | exact if_pos ⟨by omega, by omega, by omega, by omega⟩ | exact if_neg (by omega)
                     rw [e2] at ls
                     rw [if_pos (by omega)] at ls
                     refine ⟨nxT (A0 8) (F0 7 2) t, up1 f (122 + l * 3 + w) (if t.2.2.1 = 3 then -(t).2.2.2 else (t).2.2.2), ?_, (fput_r4 (by omega) (by omega)).trans ?_, h1, by omega, nxT_ok (by first | exact kt | exact kn), ?_, by rw [hR, ls]⟩
                     · rw [fput_r (show (8 : Nat) ≠ 4 by decide)]; simp only [tkS_S, r4_8]; done
                     · rw [r4_4, r4_r4, if_neg (by assumption)]
                     · unfold ctOK; rw [up1_o (by omega), up1_o (by omega)]; exact kc)
                  | (have e1 : sgK (A0 8) (F0 7 2) t = t := by unfold sgK; first | exact if_pos (by assumption) | exact if_neg (by assumption)
                     have ls := lin_s (T := A0 8) (n := F0 7 2) (l := l) (w := w) (t := t) (f := f) (by omega)
                     rw [e1] at ls
                     have e2 : lnE w (f (122 + l * 3 + 0)) t = inE 0 200 t := by
                       unfold lnE
                       first | rw [if_pos (show w < 2 by omega)] | rw [if_neg (show ¬ w < 2 by omega)]
                       first | exact if_pos ⟨by omega, by omega, by omega, by omega⟩ | exact if_neg (by omega)
                     rw [e2] at ls
                     rw [if_pos (by omega)] at ls
                     refine ⟨nxT (A0 8) (F0 7 2) t, up1 f (122 + l * 3 + w) (if t.2.2.1 = 3 then -(t).2.2.2 else (t).2.2.2), ?_, (fput_r4 (by omega) (by omega)).trans ?_, h1, by omega, nxT_ok (by first | exact kt | exact kn), ?_, by rw [hR, ls]⟩
                     · rw [fput_r (show (8 : Nat) ≠ 4 by decide)]; simp only [tkS_S, r4_8]; done
                     · rw [r4_4, r4_r4, if_neg (by assumption)]
                     · unfold ctOK; rw [up1_o (by omega), up1_o (by omega)]; exact kc)
                  | (have e1 : sgK (A0 8) (F0 7 2) t = (nxT (A0 8) (F0 7 2) t) := by unfold sgK; first | exact if_pos (by assumption) | exact if_neg (by assumption)
                     have ls := lin_s (T := A0 8) (n := F0 7 2) (l := l) (w := w) (t := t) (f := f) (by omega)
                     rw [e1] at ls
                     have e2 : lnE w (f (122 + l * 3 + 0)) (nxT (A0 8) (F0 7 2) t) = inE 0 5 (nxT (A0 8) (F0 7 2) t) := by
                       unfold lnE
                       first | rw [if_pos (show w < 2 by omega)] | rw [if_neg (show ¬ w < 2 by omega)]
                       first | exact if_pos ⟨by omega, by omega, by omega, by omega⟩ | exact if_neg (by omega)
                     rw [e2] at ls
                     rw [if_pos (by omega)] at ls
                     refine ⟨nxT (A0 8) (F0 7 2) (nxT (A0 8) (F0 7 2) t), up1 f (122 + l * 3 + w) (if t.2.2.1 = 3 then -((nxT (A0 8) (F0 7 2) t)).2.2.2 else ((nxT (A0 8) (F0 7 2) t)).2.2.2), ?_, (fput_r4 (by omega) (by omega)).trans ?_, h1, by omega, nxT_ok (by first | exact kt | exact kn), ?_, by rw [hR, ls]⟩
                     · rw [fput_r (show (8 : Nat) ≠ 4 by decide)]; simp only [tkS_S, r4_8]; done
                     · rw [r4_4, r4_r4, if_pos (by assumption)]
                     · unfold ctOK; rw [up1_o (by omega), up1_o (by omega)]; exact kc)
                  | (have e1 : sgK (A0 8) (F0 7 2) t = (nxT (A0 8) (F0 7 2) t) := by unfold sgK; first | exact if_pos (by assumption) | exact if_neg (by assumption)
                     have ls := lin_s (T := A0 8) (n := F0 7 2) (l := l) (w := w) (t := t) (f := f) (by omega)
                     rw [e1] at ls
                     have e2 : lnE w (f (122 + l * 3 + 0)) (nxT (A0 8) (F0 7 2) t) = inE 0 200 (nxT (A0 8) (F0 7 2) t) := by
                       unfold lnE
                       first | rw [if_pos (show w < 2 by omega)] | rw [if_neg (show ¬ w < 2 by omega)]
                       first | exact if_pos ⟨by omega, by omega, by omega, by omega⟩ | exact if_neg (by omega)
                     rw [e2] at ls
                     rw [if_pos (by omega)] at ls
                     refine ⟨nxT (A0 8) (F0 7 2) (nxT (A0 8) (F0 7 2) t), up1 f (122 + l * 3 + w) (if t.2.2.1 = 3 then -((nxT (A0 8) (F0 7 2) t)).2.2.2 else ((nxT (A0 8) (F0 7 2) t)).2.2.2), ?_, (fput_r4 (by omega) (by omega)).trans ?_, h1, by omega, nxT_ok (by first | exact kt | exact kn), ?_, by rw [hR, ls]⟩
                     · rw [fput_r (show (8 : Nat) ≠ 4 by decide)]; simp only [tkS_S, r4_8]; done
                     · rw [r4_4, r4_r4, if_pos (by assumption)]
                     · unfold ctOK; rw [up1_o (by omega), up1_o (by omega)]; exact kc)
                · skip
                  (try simp (disch := omega) only [fat_in, w32_0, wbi0, Classical.not_not, w32_id] at c8)
                  first
                  | (exfalso; omega)
                  | (rw [hR, lin_0 (by omega)] at h; exact h)
                  | (have e1 : sgK (A0 8) (F0 7 2) t = t := by unfold sgK; first | exact if_pos (by assumption) | exact if_neg (by assumption)
                     have ls := lin_s (T := A0 8) (n := F0 7 2) (l := l) (w := w) (t := t) (f := f) (by omega)
                     rw [e1] at ls
                     have e2 : lnE w (f (122 + l * 3 + 0)) t = (-12) := by
                       unfold lnE
                       first | rw [if_pos (show w < 2 by omega)] | rw [if_neg (show ¬ w < 2 by omega)]
                       first | exact if_pos ⟨by omega, by omega, by omega, by omega⟩ | exact if_neg (by omega)
                     rw [e2] at ls
                     rw [if_neg (by omega)] at ls
                     rw [hR, ls] at h
                     exact FA_eq h rfl (by first | rfl | (simp only [tkS_S]; done)) rfl)
                  | (have e1 : sgK (A0 8) (F0 7 2) t = t := by unfold sgK; first | exact if_pos (by assumption) | exact if_neg (by assumption)
                     have ls := lin_s (T := A0 8) (n := F0 7 2) (l := l) (w := w) (t := t) (f := f) (by omega)
                     rw [e1] at ls
                     have e2 : lnE w (f (122 + l * 3 + 0)) t = inE 0 5 t := by
                       unfold lnE
                       first | rw [if_pos (show w < 2 by omega)] | rw [if_neg (show ¬ w < 2 by omega)]
                       first | exact if_pos ⟨by omega, by omega, by omega, by omega⟩ | exact if_neg (by omega)
                     rw [e2] at ls
                     rw [if_neg (by omega)] at ls
                     rw [hR, ls] at h
                     exact FA_eq h rfl (by first | rfl | (simp only [tkS_S]; done)) rfl)
                  | (have e1 : sgK (A0 8) (F0 7 2) t = t := by unfold sgK; first | exact if_pos (by assumption) | exact if_neg (by assumption)
                     have ls := lin_s (T := A0 8) (n := F0 7 2) (l := l) (w := w) (t := t) (f := f) (by omega)
                     rw [e1] at ls
                     have e2 : lnE w (f (122 + l * 3 + 0)) t = inE 0 200 t := by
                       unfold lnE
                       first | rw [if_pos (show w < 2 by omega)] | rw [if_neg (show ¬ w < 2 by omega)]
                       first | exact if_pos ⟨by omega, by omega, by omega, by omega⟩ | exact if_neg (by omega)
                     rw [e2] at ls
                     rw [if_neg (by omega)] at ls
                     rw [hR, ls] at h
                     exact FA_eq h rfl (by first | rfl | (simp only [tkS_S]; done)) rfl)
                  | (have e1 : sgK (A0 8) (F0 7 2) t = (nxT (A0 8) (F0 7 2) t) := by unfold sgK; first | exact if_pos (by assumption) | exact if_neg (by assumption)
                     have ls := lin_s (T := A0 8) (n := F0 7 2) (l := l) (w := w) (t := t) (f := f) (by omega)
                     rw [e1] at ls
                     have e2 : lnE w (f (122 + l * 3 + 0)) (nxT (A0 8) (F0 7 2) t) = (-12) := by
                       unfold lnE
                       first | rw [if_pos (show w < 2 by omega)] | rw [if_neg (show ¬ w < 2 by omega)]
                       first | exact if_pos ⟨by omega, by omega, by omega, by omega⟩ | exact if_neg (by omega)
                     rw [e2] at ls
                     rw [if_neg (by omega)] at ls
                     rw [hR, ls] at h
                     exact FA_eq h rfl (by first | rfl | (simp only [tkS_S]; done)) rfl)
                  | (have e1 : sgK (A0 8) (F0 7 2) t = (nxT (A0 8) (F0 7 2) t) := by unfold sgK; first | exact if_pos (by assumption) | exact if_neg (by assumption)
                     have ls := lin_s (T := A0 8) (n := F0 7 2) (l := l) (w := w) (t := t) (f := f) (by omega)
                     rw [e1] at ls
                     have e2 : lnE w (f (122 + l * 3 + 0)) (nxT (A0 8) (F0 7 2) t) = inE 0 5 (nxT (A0 8) (F0 7 2) t) := by
                       unfold lnE
                       first | rw [if_pos (show w < 2 by omega)] | rw [if_neg (show ¬ w < 2 by omega)]
                       first | exact if_pos ⟨by omega, by omega, by omega, by omega⟩ | exact if_neg (by omega)
                     rw [e2] at ls
                     rw [if_neg (by omega)] at ls
                     rw [hR, ls] at h
                     exact FA_eq h rfl (by first | rfl | (simp only [tkS_S]; done)) rfl)
                  | (have e1 : sgK (A0 8) (F0 7 2) t = (nxT (A0 8) (F0 7 2) t) := by unfold sgK; first | exact if_pos (by assumption) | exact if_neg (by assumption)
                     have ls := lin_s (T := A0 8) (n := F0 7 2) (l := l) (w := w) (t := t) (f := f) (by omega)
                     rw [e1] at ls
                     have e2 : lnE w (f (122 + l * 3 + 0)) (nxT (A0 8) (F0 7 2) t) = inE 0 200 (nxT (A0 8) (F0 7 2) t) := by
                       unfold lnE
                       first | rw [if_pos (show w < 2 by omega)] | rw [if_neg (show ¬ w < 2 by omega)]
                       first | exact if_pos ⟨by omega, by omega, by omega, by omega⟩ | exact if_neg (by omega)
                     rw [e2] at ls
                     rw [if_neg (by omega)] at ls
                     rw [hR, ls] at h
                     exact FA_eq h rfl (by first | rfl | (simp only [tkS_S]; done)) rfl)
            · skip
              (try simp (disch := omega) only [fat_in, w32_0, wbi0, Classical.not_not, w32_id] at c6)
              refine ⟨fun c7 => ?_, fun c7 => ?_⟩
              · skip
                (try simp (disch := omega) only [fat_in, w32_0, wbi0, Classical.not_not, w32_id] at c7)
                refine ⟨fun _ => ?_, fun q => absurd (by decide) q⟩
                refine ⟨by first | omega | exact ⟨by omega, by omega⟩, ?_⟩
                refine ⟨⟨rfl, rfl, ?_⟩, by omega⟩
                first
                | (exfalso; omega)
                | (have e1 : sgK (A0 8) (F0 7 2) t = t := by unfold sgK; first | exact if_pos (by assumption) | exact if_neg (by assumption)
                   have ls := lin_s (T := A0 8) (n := F0 7 2) (l := l) (w := w) (t := t) (f := f) (by omega)
                   rw [e1] at ls
                   have e2 : lnE w (f (122 + l * 3 + 0)) t = inE 0 5 t := by
                     unfold lnE
                     first | rw [if_pos (show w < 2 by omega)] | rw [if_neg (show ¬ w < 2 by omega)]
                     first | exact if_pos ⟨by omega, by omega, by omega, by omega⟩ | exact if_neg (by omega)
                   rw [e2] at ls
                   rw [if_pos (by omega)] at ls
                   refine ⟨nxT (A0 8) (F0 7 2) t, up1 f (122 + l * 3 + w) (if t.2.2.1 = 3 then -(t).2.2.2 else (t).2.2.2), ?_, (fput_r4 (by omega) (by omega)).trans ?_, h1, by omega, nxT_ok (by first | exact kt | exact kn), ?_, by rw [hR, ls]⟩
                   · rw [fput_r (show (8 : Nat) ≠ 4 by decide)]; simp only [tkS_S, r4_8]; done
                   · rw [r4_4, r4_r4, if_neg (by assumption)]
                   · unfold ctOK; rw [up1_o (by omega), up1_o (by omega)]; exact kc)
                | (have e1 : sgK (A0 8) (F0 7 2) t = t := by unfold sgK; first | exact if_pos (by assumption) | exact if_neg (by assumption)
                   have ls := lin_s (T := A0 8) (n := F0 7 2) (l := l) (w := w) (t := t) (f := f) (by omega)
                   rw [e1] at ls
                   have e2 : lnE w (f (122 + l * 3 + 0)) t = inE 0 200 t := by
                     unfold lnE
                     first | rw [if_pos (show w < 2 by omega)] | rw [if_neg (show ¬ w < 2 by omega)]
                     first | exact if_pos ⟨by omega, by omega, by omega, by omega⟩ | exact if_neg (by omega)
                   rw [e2] at ls
                   rw [if_pos (by omega)] at ls
                   refine ⟨nxT (A0 8) (F0 7 2) t, up1 f (122 + l * 3 + w) (if t.2.2.1 = 3 then -(t).2.2.2 else (t).2.2.2), ?_, (fput_r4 (by omega) (by omega)).trans ?_, h1, by omega, nxT_ok (by first | exact kt | exact kn), ?_, by rw [hR, ls]⟩
                   · rw [fput_r (show (8 : Nat) ≠ 4 by decide)]; simp only [tkS_S, r4_8]; done
                   · rw [r4_4, r4_r4, if_neg (by assumption)]
                   · unfold ctOK; rw [up1_o (by omega), up1_o (by omega)]; exact kc)
                | (have e1 : sgK (A0 8) (F0 7 2) t = (nxT (A0 8) (F0 7 2) t) := by unfold sgK; first | exact if_pos (by assumption) | exact if_neg (by assumption)
                   have ls := lin_s (T := A0 8) (n := F0 7 2) (l := l) (w := w) (t := t) (f := f) (by omega)
                   rw [e1] at ls
                   have e2 : lnE w (f (122 + l * 3 + 0)) (nxT (A0 8) (F0 7 2) t) = inE 0 5 (nxT (A0 8) (F0 7 2) t) := by
                     unfold lnE
                     first | rw [if_pos (show w < 2 by omega)] | rw [if_neg (show ¬ w < 2 by omega)]
                     first | exact if_pos ⟨by omega, by omega, by omega, by omega⟩ | exact if_neg (by omega)
                   rw [e2] at ls
                   rw [if_pos (by omega)] at ls
                   refine ⟨nxT (A0 8) (F0 7 2) (nxT (A0 8) (F0 7 2) t), up1 f (122 + l * 3 + w) (if t.2.2.1 = 3 then -((nxT (A0 8) (F0 7 2) t)).2.2.2 else ((nxT (A0 8) (F0 7 2) t)).2.2.2), ?_, (fput_r4 (by omega) (by omega)).trans ?_, h1, by omega, nxT_ok (by first | exact kt | exact kn), ?_, by rw [hR, ls]⟩
                   · rw [fput_r (show (8 : Nat) ≠ 4 by decide)]; simp only [tkS_S, r4_8]; done
                   · rw [r4_4, r4_r4, if_pos (by assumption)]
                   · unfold ctOK; rw [up1_o (by omega), up1_o (by omega)]; exact kc)
                | (have e1 : sgK (A0 8) (F0 7 2) t = (nxT (A0 8) (F0 7 2) t) := by unfold sgK; first | exact if_pos (by assumption) | exact if_neg (by assumption)
                   have ls := lin_s (T := A0 8) (n := F0 7 2) (l := l) (w := w) (t := t) (f := f) (by omega)
                   rw [e1] at ls
                   have e2 : lnE w (f (122 + l * 3 + 0)) (nxT (A0 8) (F0 7 2) t) = inE 0 200 (nxT (A0 8) (F0 7 2) t) := by
                     unfold lnE
                     first | rw [if_pos (show w < 2 by omega)] | rw [if_neg (show ¬ w < 2 by omega)]
                     first | exact if_pos ⟨by omega, by omega, by omega, by omega⟩ | exact if_neg (by omega)
                   rw [e2] at ls
                   rw [if_pos (by omega)] at ls
                   refine ⟨nxT (A0 8) (F0 7 2) (nxT (A0 8) (F0 7 2) t), up1 f (122 + l * 3 + w) (if t.2.2.1 = 3 then -((nxT (A0 8) (F0 7 2) t)).2.2.2 else ((nxT (A0 8) (F0 7 2) t)).2.2.2), ?_, (fput_r4 (by omega) (by omega)).trans ?_, h1, by omega, nxT_ok (by first | exact kt | exact kn), ?_, by rw [hR, ls]⟩
                   · rw [fput_r (show (8 : Nat) ≠ 4 by decide)]; simp only [tkS_S, r4_8]; done
                   · rw [r4_4, r4_r4, if_pos (by assumption)]
                   · unfold ctOK; rw [up1_o (by omega), up1_o (by omega)]; exact kc)
              · skip
                (try simp (disch := omega) only [fat_in, w32_0, wbi0, Classical.not_not, w32_id] at c7)
                first
                | (exfalso; omega)
                | (rw [hR, lin_0 (by omega)] at h; exact h)
                | (have e1 : sgK (A0 8) (F0 7 2) t = t := by unfold sgK; first | exact if_pos (by assumption) | exact if_neg (by assumption)
                   have ls := lin_s (T := A0 8) (n := F0 7 2) (l := l) (w := w) (t := t) (f := f) (by omega)
                   rw [e1] at ls
                   have e2 : lnE w (f (122 + l * 3 + 0)) t = (-12) := by
                     unfold lnE
                     first | rw [if_pos (show w < 2 by omega)] | rw [if_neg (show ¬ w < 2 by omega)]
                     first | exact if_pos ⟨by omega, by omega, by omega, by omega⟩ | exact if_neg (by omega)
                   rw [e2] at ls
                   rw [if_neg (by omega)] at ls
                   rw [hR, ls] at h
                   exact FA_eq h rfl (by first | rfl | (simp only [tkS_S]; done)) rfl)
                | (have e1 : sgK (A0 8) (F0 7 2) t = t := by unfold sgK; first | exact if_pos (by assumption) | exact if_neg (by assumption)
                   have ls := lin_s (T := A0 8) (n := F0 7 2) (l := l) (w := w) (t := t) (f := f) (by omega)
                   rw [e1] at ls
                   have e2 : lnE w (f (122 + l * 3 + 0)) t = inE 0 5 t := by
                     unfold lnE
                     first | rw [if_pos (show w < 2 by omega)] | rw [if_neg (show ¬ w < 2 by omega)]
                     first | exact if_pos ⟨by omega, by omega, by omega, by omega⟩ | exact if_neg (by omega)
                   rw [e2] at ls
                   rw [if_neg (by omega)] at ls
                   rw [hR, ls] at h
                   exact FA_eq h rfl (by first | rfl | (simp only [tkS_S]; done)) rfl)
                | (have e1 : sgK (A0 8) (F0 7 2) t = t := by unfold sgK; first | exact if_pos (by assumption) | exact if_neg (by assumption)
                   have ls := lin_s (T := A0 8) (n := F0 7 2) (l := l) (w := w) (t := t) (f := f) (by omega)
                   rw [e1] at ls
                   have e2 : lnE w (f (122 + l * 3 + 0)) t = inE 0 200 t := by
                     unfold lnE
                     first | rw [if_pos (show w < 2 by omega)] | rw [if_neg (show ¬ w < 2 by omega)]
                     first | exact if_pos ⟨by omega, by omega, by omega, by omega⟩ | exact if_neg (by omega)
                   rw [e2] at ls
                   rw [if_neg (by omega)] at ls
                   rw [hR, ls] at h
                   exact FA_eq h rfl (by first | rfl | (simp only [tkS_S]; done)) rfl)
                | (have e1 : sgK (A0 8) (F0 7 2) t = (nxT (A0 8) (F0 7 2) t) := by unfold sgK; first | exact if_pos (by assumption) | exact if_neg (by assumption)
                   have ls := lin_s (T := A0 8) (n := F0 7 2) (l := l) (w := w) (t := t) (f := f) (by omega)
                   rw [e1] at ls
                   have e2 : lnE w (f (122 + l * 3 + 0)) (nxT (A0 8) (F0 7 2) t) = (-12) := by
                     unfold lnE
                     first | rw [if_pos (show w < 2 by omega)] | rw [if_neg (show ¬ w < 2 by omega)]
                     first | exact if_pos ⟨by omega, by omega, by omega, by omega⟩ | exact if_neg (by omega)
                   rw [e2] at ls
                   rw [if_neg (by omega)] at ls
                   rw [hR, ls] at h
                   exact FA_eq h rfl (by first | rfl | (simp only [tkS_S]; done)) rfl)
                | (have e1 : sgK (A0 8) (F0 7 2) t = (nxT (A0 8) (F0 7 2) t) := by unfold sgK; first | exact if_pos (by assumption) | exact if_neg (by assumption)
                   have ls := lin_s (T := A0 8) (n := F0 7 2) (l := l) (w := w) (t := t) (f := f) (by omega)
                   rw [e1] at ls
                   have e2 : lnE w (f (122 + l * 3 + 0)) (nxT (A0 8) (F0 7 2) t) = inE 0 5 (nxT (A0 8) (F0 7 2) t) := by
                     unfold lnE
                     first | rw [if_pos (show w < 2 by omega)] | rw [if_neg (show ¬ w < 2 by omega)]
                     first | exact if_pos ⟨by omega, by omega, by omega, by omega⟩ | exact if_neg (by omega)
                   rw [e2] at ls
                   rw [if_neg (by omega)] at ls
                   rw [hR, ls] at h
                   exact FA_eq h rfl (by first | rfl | (simp only [tkS_S]; done)) rfl)
                | (have e1 : sgK (A0 8) (F0 7 2) t = (nxT (A0 8) (F0 7 2) t) := by unfold sgK; first | exact if_pos (by assumption) | exact if_neg (by assumption)
                   have ls := lin_s (T := A0 8) (n := F0 7 2) (l := l) (w := w) (t := t) (f := f) (by omega)
                   rw [e1] at ls
                   have e2 : lnE w (f (122 + l * 3 + 0)) (nxT (A0 8) (F0 7 2) t) = inE 0 200 (nxT (A0 8) (F0 7 2) t) := by
                     unfold lnE
                     first | rw [if_pos (show w < 2 by omega)] | rw [if_neg (show ¬ w < 2 by omega)]
                     first | exact if_pos ⟨by omega, by omega, by omega, by omega⟩ | exact if_neg (by omega)
                   rw [e2] at ls
                   rw [if_neg (by omega)] at ls
                   rw [hR, ls] at h
                   exact FA_eq h rfl (by first | rfl | (simp only [tkS_S]; done)) rfl)
          · skip
            (try simp (disch := omega) only [fat_in, w32_0, wbi0, Classical.not_not, w32_id] at c5)
            refine ⟨fun c6 => ?_, fun c6 => ?_⟩
            · skip
              (try simp (disch := omega) only [fat_in, w32_0, wbi0, Classical.not_not, w32_id] at c6)
              refine ⟨fun _ => ?_, fun q => absurd (by decide) q⟩
              refine ⟨by first | omega | exact ⟨by omega, by omega⟩, ?_⟩
              refine ⟨⟨rfl, rfl, ?_⟩, by omega⟩
              first
              | (exfalso; omega)
              | (have e1 : sgK (A0 8) (F0 7 2) t = t := by unfold sgK; first | exact if_pos (by assumption) | exact if_neg (by assumption)
                 have ls := lin_s (T := A0 8) (n := F0 7 2) (l := l) (w := w) (t := t) (f := f) (by omega)
                 rw [e1] at ls
                 have e2 : lnE w (f (122 + l * 3 + 0)) t = inE 0 5 t := by
                   unfold lnE
                   first | rw [if_pos (show w < 2 by omega)] | rw [if_neg (show ¬ w < 2 by omega)]
                   first | exact if_pos ⟨by omega, by omega, by omega, by omega⟩ | exact if_neg (by omega)
                 rw [e2] at ls
                 rw [if_pos (by omega)] at ls
                 refine ⟨nxT (A0 8) (F0 7 2) t, up1 f (122 + l * 3 + w) (if t.2.2.1 = 3 then -(t).2.2.2 else (t).2.2.2), ?_, (fput_r4 (by omega) (by omega)).trans ?_, h1, by omega, nxT_ok (by first | exact kt | exact kn), ?_, by rw [hR, ls]⟩
                 · rw [fput_r (show (8 : Nat) ≠ 4 by decide)]; simp only [tkS_S, r4_8]; done
                 · rw [r4_4, r4_r4, if_neg (by assumption)]
                 · unfold ctOK; rw [up1_o (by omega), up1_o (by omega)]; exact kc)
              | (have e1 : sgK (A0 8) (F0 7 2) t = t := by unfold sgK; first | exact if_pos (by assumption) | exact if_neg (by assumption)
                 have ls := lin_s (T := A0 8) (n := F0 7 2) (l := l) (w := w) (t := t) (f := f) (by omega)
                 rw [e1] at ls
                 have e2 : lnE w (f (122 + l * 3 + 0)) t = inE 0 200 t := by
                   unfold lnE
                   first | rw [if_pos (show w < 2 by omega)] | rw [if_neg (show ¬ w < 2 by omega)]
                   first | exact if_pos ⟨by omega, by omega, by omega, by omega⟩ | exact if_neg (by omega)
                 rw [e2] at ls
                 rw [if_pos (by omega)] at ls
                 refine ⟨nxT (A0 8) (F0 7 2) t, up1 f (122 + l * 3 + w) (if t.2.2.1 = 3 then -(t).2.2.2 else (t).2.2.2), ?_, (fput_r4 (by omega) (by omega)).trans ?_, h1, by omega, nxT_ok (by first | exact kt | exact kn), ?_, by rw [hR, ls]⟩
                 · rw [fput_r (show (8 : Nat) ≠ 4 by decide)]; simp only [tkS_S, r4_8]; done
                 · rw [r4_4, r4_r4, if_neg (by assumption)]
                 · unfold ctOK; rw [up1_o (by omega), up1_o (by omega)]; exact kc)
              | (have e1 : sgK (A0 8) (F0 7 2) t = (nxT (A0 8) (F0 7 2) t) := by unfold sgK; first | exact if_pos (by assumption) | exact if_neg (by assumption)
                 have ls := lin_s (T := A0 8) (n := F0 7 2) (l := l) (w := w) (t := t) (f := f) (by omega)
                 rw [e1] at ls
                 have e2 : lnE w (f (122 + l * 3 + 0)) (nxT (A0 8) (F0 7 2) t) = inE 0 5 (nxT (A0 8) (F0 7 2) t) := by
                   unfold lnE
                   first | rw [if_pos (show w < 2 by omega)] | rw [if_neg (show ¬ w < 2 by omega)]
                   first | exact if_pos ⟨by omega, by omega, by omega, by omega⟩ | exact if_neg (by omega)
                 rw [e2] at ls
                 rw [if_pos (by omega)] at ls
                 refine ⟨nxT (A0 8) (F0 7 2) (nxT (A0 8) (F0 7 2) t), up1 f (122 + l * 3 + w) (if t.2.2.1 = 3 then -((nxT (A0 8) (F0 7 2) t)).2.2.2 else ((nxT (A0 8) (F0 7 2) t)).2.2.2), ?_, (fput_r4 (by omega) (by omega)).trans ?_, h1, by omega, nxT_ok (by first | exact kt | exact kn), ?_, by rw [hR, ls]⟩
                 · rw [fput_r (show (8 : Nat) ≠ 4 by decide)]; simp only [tkS_S, r4_8]; done
                 · rw [r4_4, r4_r4, if_pos (by assumption)]
                 · unfold ctOK; rw [up1_o (by omega), up1_o (by omega)]; exact kc)
              | (have e1 : sgK (A0 8) (F0 7 2) t = (nxT (A0 8) (F0 7 2) t) := by unfold sgK; first | exact if_pos (by assumption) | exact if_neg (by assumption)
                 have ls := lin_s (T := A0 8) (n := F0 7 2) (l := l) (w := w) (t := t) (f := f) (by omega)
                 rw [e1] at ls
                 have e2 : lnE w (f (122 + l * 3 + 0)) (nxT (A0 8) (F0 7 2) t) = inE 0 200 (nxT (A0 8) (F0 7 2) t) := by
                   unfold lnE
                   first | rw [if_pos (show w < 2 by omega)] | rw [if_neg (show ¬ w < 2 by omega)]
                   first | exact if_pos ⟨by omega, by omega, by omega, by omega⟩ | exact if_neg (by omega)
                 rw [e2] at ls
                 rw [if_pos (by omega)] at ls
                 refine ⟨nxT (A0 8) (F0 7 2) (nxT (A0 8) (F0 7 2) t), up1 f (122 + l * 3 + w) (if t.2.2.1 = 3 then -((nxT (A0 8) (F0 7 2) t)).2.2.2 else ((nxT (A0 8) (F0 7 2) t)).2.2.2), ?_, (fput_r4 (by omega) (by omega)).trans ?_, h1, by omega, nxT_ok (by first | exact kt | exact kn), ?_, by rw [hR, ls]⟩
                 · rw [fput_r (show (8 : Nat) ≠ 4 by decide)]; simp only [tkS_S, r4_8]; done
                 · rw [r4_4, r4_r4, if_pos (by assumption)]
                 · unfold ctOK; rw [up1_o (by omega), up1_o (by omega)]; exact kc)
            · skip
              (try simp (disch := omega) only [fat_in, w32_0, wbi0, Classical.not_not, w32_id] at c6)
              first
              | (exfalso; omega)
              | (rw [hR, lin_0 (by omega)] at h; exact h)
              | (have e1 : sgK (A0 8) (F0 7 2) t = t := by unfold sgK; first | exact if_pos (by assumption) | exact if_neg (by assumption)
                 have ls := lin_s (T := A0 8) (n := F0 7 2) (l := l) (w := w) (t := t) (f := f) (by omega)
                 rw [e1] at ls
                 have e2 : lnE w (f (122 + l * 3 + 0)) t = (-12) := by
                   unfold lnE
                   first | rw [if_pos (show w < 2 by omega)] | rw [if_neg (show ¬ w < 2 by omega)]
                   first | exact if_pos ⟨by omega, by omega, by omega, by omega⟩ | exact if_neg (by omega)
                 rw [e2] at ls
                 rw [if_neg (by omega)] at ls
                 rw [hR, ls] at h
                 exact FA_eq h rfl (by first | rfl | (simp only [tkS_S]; done)) rfl)
              | (have e1 : sgK (A0 8) (F0 7 2) t = t := by unfold sgK; first | exact if_pos (by assumption) | exact if_neg (by assumption)
                 have ls := lin_s (T := A0 8) (n := F0 7 2) (l := l) (w := w) (t := t) (f := f) (by omega)
                 rw [e1] at ls
                 have e2 : lnE w (f (122 + l * 3 + 0)) t = inE 0 5 t := by
                   unfold lnE
                   first | rw [if_pos (show w < 2 by omega)] | rw [if_neg (show ¬ w < 2 by omega)]
                   first | exact if_pos ⟨by omega, by omega, by omega, by omega⟩ | exact if_neg (by omega)
                 rw [e2] at ls
                 rw [if_neg (by omega)] at ls
                 rw [hR, ls] at h
                 exact FA_eq h rfl (by first | rfl | (simp only [tkS_S]; done)) rfl)
              | (have e1 : sgK (A0 8) (F0 7 2) t = t := by unfold sgK; first | exact if_pos (by assumption) | exact if_neg (by assumption)
                 have ls := lin_s (T := A0 8) (n := F0 7 2) (l := l) (w := w) (t := t) (f := f) (by omega)
                 rw [e1] at ls
                 have e2 : lnE w (f (122 + l * 3 + 0)) t = inE 0 200 t := by
                   unfold lnE
                   first | rw [if_pos (show w < 2 by omega)] | rw [if_neg (show ¬ w < 2 by omega)]
                   first | exact if_pos ⟨by omega, by omega, by omega, by omega⟩ | exact if_neg (by omega)
                 rw [e2] at ls
                 rw [if_neg (by omega)] at ls
                 rw [hR, ls] at h
                 exact FA_eq h rfl (by first | rfl | (simp only [tkS_S]; done)) rfl)
              | (have e1 : sgK (A0 8) (F0 7 2) t = (nxT (A0 8) (F0 7 2) t) := by unfold sgK; first | exact if_pos (by assumption) | exact if_neg (by assumption)
                 have ls := lin_s (T := A0 8) (n := F0 7 2) (l := l) (w := w) (t := t) (f := f) (by omega)
                 rw [e1] at ls
                 have e2 : lnE w (f (122 + l * 3 + 0)) (nxT (A0 8) (F0 7 2) t) = (-12) := by
                   unfold lnE
                   first | rw [if_pos (show w < 2 by omega)] | rw [if_neg (show ¬ w < 2 by omega)]
                   first | exact if_pos ⟨by omega, by omega, by omega, by omega⟩ | exact if_neg (by omega)
                 rw [e2] at ls
                 rw [if_neg (by omega)] at ls
                 rw [hR, ls] at h
                 exact FA_eq h rfl (by first | rfl | (simp only [tkS_S]; done)) rfl)
              | (have e1 : sgK (A0 8) (F0 7 2) t = (nxT (A0 8) (F0 7 2) t) := by unfold sgK; first | exact if_pos (by assumption) | exact if_neg (by assumption)
                 have ls := lin_s (T := A0 8) (n := F0 7 2) (l := l) (w := w) (t := t) (f := f) (by omega)
                 rw [e1] at ls
                 have e2 : lnE w (f (122 + l * 3 + 0)) (nxT (A0 8) (F0 7 2) t) = inE 0 5 (nxT (A0 8) (F0 7 2) t) := by
                   unfold lnE
                   first | rw [if_pos (show w < 2 by omega)] | rw [if_neg (show ¬ w < 2 by omega)]
                   first | exact if_pos ⟨by omega, by omega, by omega, by omega⟩ | exact if_neg (by omega)
                 rw [e2] at ls
                 rw [if_neg (by omega)] at ls
                 rw [hR, ls] at h
                 exact FA_eq h rfl (by first | rfl | (simp only [tkS_S]; done)) rfl)
              | (have e1 : sgK (A0 8) (F0 7 2) t = (nxT (A0 8) (F0 7 2) t) := by unfold sgK; first | exact if_pos (by assumption) | exact if_neg (by assumption)
                 have ls := lin_s (T := A0 8) (n := F0 7 2) (l := l) (w := w) (t := t) (f := f) (by omega)
                 rw [e1] at ls
                 have e2 : lnE w (f (122 + l * 3 + 0)) (nxT (A0 8) (F0 7 2) t) = inE 0 200 (nxT (A0 8) (F0 7 2) t) := by
                   unfold lnE
                   first | rw [if_pos (show w < 2 by omega)] | rw [if_neg (show ¬ w < 2 by omega)]
                   first | exact if_pos ⟨by omega, by omega, by omega, by omega⟩ | exact if_neg (by omega)
                 rw [e2] at ls
                 rw [if_neg (by omega)] at ls
                 rw [hR, ls] at h
                 exact FA_eq h rfl (by first | rfl | (simp only [tkS_S]; done)) rfl)
        · skip
          (try simp (disch := omega) only [fat_in, w32_0, wbi0, Classical.not_not, w32_id] at c4)
          refine ⟨fun c5 => ?_, fun c5 => ?_⟩
          · skip
            (try simp (disch := omega) only [fat_in, w32_0, wbi0, Classical.not_not, w32_id] at c5)
            refine ⟨fun _ => ?_, fun q => absurd (by decide) q⟩
            refine ⟨by first | omega | exact ⟨by omega, by omega⟩, ?_⟩
            refine ⟨⟨rfl, rfl, ?_⟩, by omega⟩
            first
            | (exfalso; omega)
            | (have e1 : sgK (A0 8) (F0 7 2) t = t := by unfold sgK; first | exact if_pos (by assumption) | exact if_neg (by assumption)
               have ls := lin_s (T := A0 8) (n := F0 7 2) (l := l) (w := w) (t := t) (f := f) (by omega)
               rw [e1] at ls
               have e2 : lnE w (f (122 + l * 3 + 0)) t = inE 0 5 t := by
                 unfold lnE
                 first | rw [if_pos (show w < 2 by omega)] | rw [if_neg (show ¬ w < 2 by omega)]
                 first | exact if_pos ⟨by omega, by omega, by omega, by omega⟩ | exact if_neg (by omega)
               rw [e2] at ls
               rw [if_pos (by omega)] at ls
               refine ⟨nxT (A0 8) (F0 7 2) t, up1 f (122 + l * 3 + w) (if t.2.2.1 = 3 then -(t).2.2.2 else (t).2.2.2), ?_, (fput_r4 (by omega) (by omega)).trans ?_, h1, by omega, nxT_ok (by first | exact kt | exact kn), ?_, by rw [hR, ls]⟩
               · rw [fput_r (show (8 : Nat) ≠ 4 by decide)]; simp only [tkS_S, r4_8]; done
               · rw [r4_4, r4_r4, if_neg (by assumption)]
               · unfold ctOK; rw [up1_o (by omega), up1_o (by omega)]; exact kc)
            | (have e1 : sgK (A0 8) (F0 7 2) t = t := by unfold sgK; first | exact if_pos (by assumption) | exact if_neg (by assumption)
               have ls := lin_s (T := A0 8) (n := F0 7 2) (l := l) (w := w) (t := t) (f := f) (by omega)
               rw [e1] at ls
               have e2 : lnE w (f (122 + l * 3 + 0)) t = inE 0 200 t := by
                 unfold lnE
                 first | rw [if_pos (show w < 2 by omega)] | rw [if_neg (show ¬ w < 2 by omega)]
                 first | exact if_pos ⟨by omega, by omega, by omega, by omega⟩ | exact if_neg (by omega)
               rw [e2] at ls
               rw [if_pos (by omega)] at ls
               refine ⟨nxT (A0 8) (F0 7 2) t, up1 f (122 + l * 3 + w) (if t.2.2.1 = 3 then -(t).2.2.2 else (t).2.2.2), ?_, (fput_r4 (by omega) (by omega)).trans ?_, h1, by omega, nxT_ok (by first | exact kt | exact kn), ?_, by rw [hR, ls]⟩
               · rw [fput_r (show (8 : Nat) ≠ 4 by decide)]; simp only [tkS_S, r4_8]; done
               · rw [r4_4, r4_r4, if_neg (by assumption)]
               · unfold ctOK; rw [up1_o (by omega), up1_o (by omega)]; exact kc)
            | (have e1 : sgK (A0 8) (F0 7 2) t = (nxT (A0 8) (F0 7 2) t) := by unfold sgK; first | exact if_pos (by assumption) | exact if_neg (by assumption)
               have ls := lin_s (T := A0 8) (n := F0 7 2) (l := l) (w := w) (t := t) (f := f) (by omega)
               rw [e1] at ls
               have e2 : lnE w (f (122 + l * 3 + 0)) (nxT (A0 8) (F0 7 2) t) = inE 0 5 (nxT (A0 8) (F0 7 2) t) := by
                 unfold lnE
                 first | rw [if_pos (show w < 2 by omega)] | rw [if_neg (show ¬ w < 2 by omega)]
                 first | exact if_pos ⟨by omega, by omega, by omega, by omega⟩ | exact if_neg (by omega)
               rw [e2] at ls
               rw [if_pos (by omega)] at ls
               refine ⟨nxT (A0 8) (F0 7 2) (nxT (A0 8) (F0 7 2) t), up1 f (122 + l * 3 + w) (if t.2.2.1 = 3 then -((nxT (A0 8) (F0 7 2) t)).2.2.2 else ((nxT (A0 8) (F0 7 2) t)).2.2.2), ?_, (fput_r4 (by omega) (by omega)).trans ?_, h1, by omega, nxT_ok (by first | exact kt | exact kn), ?_, by rw [hR, ls]⟩
               · rw [fput_r (show (8 : Nat) ≠ 4 by decide)]; simp only [tkS_S, r4_8]; done
               · rw [r4_4, r4_r4, if_pos (by assumption)]
               · unfold ctOK; rw [up1_o (by omega), up1_o (by omega)]; exact kc)
            | (have e1 : sgK (A0 8) (F0 7 2) t = (nxT (A0 8) (F0 7 2) t) := by unfold sgK; first | exact if_pos (by assumption) | exact if_neg (by assumption)
               have ls := lin_s (T := A0 8) (n := F0 7 2) (l := l) (w := w) (t := t) (f := f) (by omega)
               rw [e1] at ls
               have e2 : lnE w (f (122 + l * 3 + 0)) (nxT (A0 8) (F0 7 2) t) = inE 0 200 (nxT (A0 8) (F0 7 2) t) := by
                 unfold lnE
                 first | rw [if_pos (show w < 2 by omega)] | rw [if_neg (show ¬ w < 2 by omega)]
                 first | exact if_pos ⟨by omega, by omega, by omega, by omega⟩ | exact if_neg (by omega)
               rw [e2] at ls
               rw [if_pos (by omega)] at ls
               refine ⟨nxT (A0 8) (F0 7 2) (nxT (A0 8) (F0 7 2) t), up1 f (122 + l * 3 + w) (if t.2.2.1 = 3 then -((nxT (A0 8) (F0 7 2) t)).2.2.2 else ((nxT (A0 8) (F0 7 2) t)).2.2.2), ?_, (fput_r4 (by omega) (by omega)).trans ?_, h1, by omega, nxT_ok (by first | exact kt | exact kn), ?_, by rw [hR, ls]⟩
               · rw [fput_r (show (8 : Nat) ≠ 4 by decide)]; simp only [tkS_S, r4_8]; done
               · rw [r4_4, r4_r4, if_pos (by assumption)]
               · unfold ctOK; rw [up1_o (by omega), up1_o (by omega)]; exact kc)
          · skip
            (try simp (disch := omega) only [fat_in, w32_0, wbi0, Classical.not_not, w32_id] at c5)
            first
            | (exfalso; omega)
            | (rw [hR, lin_0 (by omega)] at h; exact h)
            | (have e1 : sgK (A0 8) (F0 7 2) t = t := by unfold sgK; first | exact if_pos (by assumption) | exact if_neg (by assumption)
               have ls := lin_s (T := A0 8) (n := F0 7 2) (l := l) (w := w) (t := t) (f := f) (by omega)
               rw [e1] at ls
               have e2 : lnE w (f (122 + l * 3 + 0)) t = (-12) := by
                 unfold lnE
                 first | rw [if_pos (show w < 2 by omega)] | rw [if_neg (show ¬ w < 2 by omega)]
                 first | exact if_pos ⟨by omega, by omega, by omega, by omega⟩ | exact if_neg (by omega)
               rw [e2] at ls
               rw [if_neg (by omega)] at ls
               rw [hR, ls] at h
               exact FA_eq h rfl (by first | rfl | (simp only [tkS_S]; done)) rfl)
            | (have e1 : sgK (A0 8) (F0 7 2) t = t := by unfold sgK; first | exact if_pos (by assumption) | exact if_neg (by assumption)
               have ls := lin_s (T := A0 8) (n := F0 7 2) (l := l) (w := w) (t := t) (f := f) (by omega)
               rw [e1] at ls
               have e2 : lnE w (f (122 + l * 3 + 0)) t = inE 0 5 t := by
                 unfold lnE
                 first | rw [if_pos (show w < 2 by omega)] | rw [if_neg (show ¬ w < 2 by omega)]
                 first | exact if_pos ⟨by omega, by omega, by omega, by omega⟩ | exact if_neg (by omega)
               rw [e2] at ls
               rw [if_neg (by omega)] at ls
               rw [hR, ls] at h
               exact FA_eq h rfl (by first | rfl | (simp only [tkS_S]; done)) rfl)
            | (have e1 : sgK (A0 8) (F0 7 2) t = t := by unfold sgK; first | exact if_pos (by assumption) | exact if_neg (by assumption)
               have ls := lin_s (T := A0 8) (n := F0 7 2) (l := l) (w := w) (t := t) (f := f) (by omega)
               rw [e1] at ls
               have e2 : lnE w (f (122 + l * 3 + 0)) t = inE 0 200 t := by
                 unfold lnE
                 first | rw [if_pos (show w < 2 by omega)] | rw [if_neg (show ¬ w < 2 by omega)]
                 first | exact if_pos ⟨by omega, by omega, by omega, by omega⟩ | exact if_neg (by omega)
               rw [e2] at ls
               rw [if_neg (by omega)] at ls
               rw [hR, ls] at h
               exact FA_eq h rfl (by first | rfl | (simp only [tkS_S]; done)) rfl)
            | (have e1 : sgK (A0 8) (F0 7 2) t = (nxT (A0 8) (F0 7 2) t) := by unfold sgK; first | exact if_pos (by assumption) | exact if_neg (by assumption)
               have ls := lin_s (T := A0 8) (n := F0 7 2) (l := l) (w := w) (t := t) (f := f) (by omega)
               rw [e1] at ls
               have e2 : lnE w (f (122 + l * 3 + 0)) (nxT (A0 8) (F0 7 2) t) = (-12) := by
                 unfold lnE
                 first | rw [if_pos (show w < 2 by omega)] | rw [if_neg (show ¬ w < 2 by omega)]
                 first | exact if_pos ⟨by omega, by omega, by omega, by omega⟩ | exact if_neg (by omega)
               rw [e2] at ls
               rw [if_neg (by omega)] at ls
               rw [hR, ls] at h
               exact FA_eq h rfl (by first | rfl | (simp only [tkS_S]; done)) rfl)
            | (have e1 : sgK (A0 8) (F0 7 2) t = (nxT (A0 8) (F0 7 2) t) := by unfold sgK; first | exact if_pos (by assumption) | exact if_neg (by assumption)
               have ls := lin_s (T := A0 8) (n := F0 7 2) (l := l) (w := w) (t := t) (f := f) (by omega)
               rw [e1] at ls
               have e2 : lnE w (f (122 + l * 3 + 0)) (nxT (A0 8) (F0 7 2) t) = inE 0 5 (nxT (A0 8) (F0 7 2) t) := by
                 unfold lnE
                 first | rw [if_pos (show w < 2 by omega)] | rw [if_neg (show ¬ w < 2 by omega)]
                 first | exact if_pos ⟨by omega, by omega, by omega, by omega⟩ | exact if_neg (by omega)
               rw [e2] at ls
               rw [if_neg (by omega)] at ls
               rw [hR, ls] at h
               exact FA_eq h rfl (by first | rfl | (simp only [tkS_S]; done)) rfl)
            | (have e1 : sgK (A0 8) (F0 7 2) t = (nxT (A0 8) (F0 7 2) t) := by unfold sgK; first | exact if_pos (by assumption) | exact if_neg (by assumption)
               have ls := lin_s (T := A0 8) (n := F0 7 2) (l := l) (w := w) (t := t) (f := f) (by omega)
               rw [e1] at ls
               have e2 : lnE w (f (122 + l * 3 + 0)) (nxT (A0 8) (F0 7 2) t) = inE 0 200 (nxT (A0 8) (F0 7 2) t) := by
                 unfold lnE
                 first | rw [if_pos (show w < 2 by omega)] | rw [if_neg (show ¬ w < 2 by omega)]
                 first | exact if_pos ⟨by omega, by omega, by omega, by omega⟩ | exact if_neg (by omega)
               rw [e2] at ls
               rw [if_neg (by omega)] at ls
               rw [hR, ls] at h
               exact FA_eq h rfl (by first | rfl | (simp only [tkS_S]; done)) rfl)
      · skip
        (try simp (disch := omega) only [fat_in, w32_0, wbi0, Classical.not_not, w32_id] at c3)
        refine ⟨by first | omega | exact ⟨by omega, by omega⟩, ?_⟩
        refine ⟨fun c4 => ?_, fun c4 => ?_⟩
        · skip
          (try simp (disch := omega) only [fat_in, w32_0, wbi0, Classical.not_not, w32_id] at c4)
          refine ⟨fun c5 => ?_, fun c5 => ?_⟩
          · skip
            (try simp (disch := omega) only [fat_in, w32_0, wbi0, Classical.not_not, w32_id] at c5)
            refine ⟨fun c6 => ?_, fun c6 => ?_⟩
            · skip
              (try simp (disch := omega) only [fat_in, w32_0, wbi0, Classical.not_not, w32_id] at c6)
              refine ⟨fun c7 => ?_, fun c7 => ?_⟩
              · skip
                (try simp (disch := omega) only [fat_in, w32_0, wbi0, Classical.not_not, w32_id] at c7)
                refine ⟨fun q => absurd q (by decide), fun _ => ?_⟩
                first
                | (exfalso; omega)
                | (rw [hR, lin_0 (by omega)] at h; exact h)
                | (have e1 : sgK (A0 8) (F0 7 2) t = t := by unfold sgK; first | exact if_pos (by assumption) | exact if_neg (by assumption)
                   have ls := lin_s (T := A0 8) (n := F0 7 2) (l := l) (w := w) (t := t) (f := f) (by omega)
                   rw [e1] at ls
                   have e2 : lnE w (f (122 + l * 3 + 0)) t = (-12) := by
                     unfold lnE
                     first | rw [if_pos (show w < 2 by omega)] | rw [if_neg (show ¬ w < 2 by omega)]
                     first | exact if_pos ⟨by omega, by omega, by omega, by omega⟩ | exact if_neg (by omega)
                   rw [e2] at ls
                   rw [if_neg (by omega)] at ls
                   rw [hR, ls] at h
                   exact FA_eq h rfl (by first | rfl | (simp only [tkS_S]; done)) rfl)
                | (have e1 : sgK (A0 8) (F0 7 2) t = t := by unfold sgK; first | exact if_pos (by assumption) | exact if_neg (by assumption)
                   have ls := lin_s (T := A0 8) (n := F0 7 2) (l := l) (w := w) (t := t) (f := f) (by omega)
                   rw [e1] at ls
                   have e2 : lnE w (f (122 + l * 3 + 0)) t = inE 0 5 t := by
                     unfold lnE
                     first | rw [if_pos (show w < 2 by omega)] | rw [if_neg (show ¬ w < 2 by omega)]
                     first | exact if_pos ⟨by omega, by omega, by omega, by omega⟩ | exact if_neg (by omega)
                   rw [e2] at ls
                   rw [if_neg (by omega)] at ls
                   rw [hR, ls] at h
                   exact FA_eq h rfl (by first | rfl | (simp only [tkS_S]; done)) rfl)
                | (have e1 : sgK (A0 8) (F0 7 2) t = t := by unfold sgK; first | exact if_pos (by assumption) | exact if_neg (by assumption)
                   have ls := lin_s (T := A0 8) (n := F0 7 2) (l := l) (w := w) (t := t) (f := f) (by omega)
                   rw [e1] at ls
                   have e2 : lnE w (f (122 + l * 3 + 0)) t = inE 0 200 t := by
                     unfold lnE
                     first | rw [if_pos (show w < 2 by omega)] | rw [if_neg (show ¬ w < 2 by omega)]
                     first | exact if_pos ⟨by omega, by omega, by omega, by omega⟩ | exact if_neg (by omega)
                   rw [e2] at ls
                   rw [if_neg (by omega)] at ls
                   rw [hR, ls] at h
                   exact FA_eq h rfl (by first | rfl | (simp only [tkS_S]; done)) rfl)
                | (have e1 : sgK (A0 8) (F0 7 2) t = (nxT (A0 8) (F0 7 2) t) := by unfold sgK; first | exact if_pos (by assumption) | exact if_neg (by assumption)
                   have ls := lin_s (T := A0 8) (n := F0 7 2) (l := l) (w := w) (t := t) (f := f) (by omega)
                   rw [e1] at ls
                   have e2 : lnE w (f (122 + l * 3 + 0)) (nxT (A0 8) (F0 7 2) t) = (-12) := by
                     unfold lnE
                     first | rw [if_pos (show w < 2 by omega)] | rw [if_neg (show ¬ w < 2 by omega)]
                     first | exact if_pos ⟨by omega, by omega, by omega, by omega⟩ | exact if_neg (by omega)
                   rw [e2] at ls
                   rw [if_neg (by omega)] at ls
                   rw [hR, ls] at h
                   exact FA_eq h rfl (by first | rfl | (simp only [tkS_S]; done)) rfl)
                | (have e1 : sgK (A0 8) (F0 7 2) t = (nxT (A0 8) (F0 7 2) t) := by unfold sgK; first | exact if_pos (by assumption) | exact if_neg (by assumption)
                   have ls := lin_s (T := A0 8) (n := F0 7 2) (l := l) (w := w) (t := t) (f := f) (by omega)
                   rw [e1] at ls
                   have e2 : lnE w (f (122 + l * 3 + 0)) (nxT (A0 8) (F0 7 2) t) = inE 0 5 (nxT (A0 8) (F0 7 2) t) := by
                     unfold lnE
                     first | rw [if_pos (show w < 2 by omega)] | rw [if_neg (show ¬ w < 2 by omega)]
                     first | exact if_pos ⟨by omega, by omega, by omega, by omega⟩ | exact if_neg (by omega)
                   rw [e2] at ls
                   rw [if_neg (by omega)] at ls
                   rw [hR, ls] at h
                   exact FA_eq h rfl (by first | rfl | (simp only [tkS_S]; done)) rfl)
                | (have e1 : sgK (A0 8) (F0 7 2) t = (nxT (A0 8) (F0 7 2) t) := by unfold sgK; first | exact if_pos (by assumption) | exact if_neg (by assumption)
                   have ls := lin_s (T := A0 8) (n := F0 7 2) (l := l) (w := w) (t := t) (f := f) (by omega)
                   rw [e1] at ls
                   have e2 : lnE w (f (122 + l * 3 + 0)) (nxT (A0 8) (F0 7 2) t) = inE 0 200 (nxT (A0 8) (F0 7 2) t) := by
                     unfold lnE
                     first | rw [if_pos (show w < 2 by omega)] | rw [if_neg (show ¬ w < 2 by omega)]
                     first | exact if_pos ⟨by omega, by omega, by omega, by omega⟩ | exact if_neg (by omega)
                   rw [e2] at ls
                   rw [if_neg (by omega)] at ls
                   rw [hR, ls] at h
                   exact FA_eq h rfl (by first | rfl | (simp only [tkS_S]; done)) rfl)
              · skip
                (try simp (disch := omega) only [fat_in, w32_0, wbi0, Classical.not_not, w32_id] at c7)
                refine ⟨fun c8 => ?_, fun c8 => ?_⟩
                · skip
                  (try simp (disch := omega) only [fat_in, w32_0, wbi0, Classical.not_not, w32_id] at c8)
                  refine ⟨fun _ => ?_, fun q => absurd (by decide) q⟩
                  refine ⟨by first | omega | exact ⟨by omega, by omega⟩, ?_⟩
                  refine ⟨⟨rfl, rfl, ?_⟩, by omega⟩
                  first
                  | (exfalso; omega)
                  | (have e1 : sgK (A0 8) (F0 7 2) t = t := by unfold sgK; first | exact if_pos (by assumption) | exact if_neg (by assumption)
                     have ls := lin_s (T := A0 8) (n := F0 7 2) (l := l) (w := w) (t := t) (f := f) (by omega)
                     rw [e1] at ls
                     have e2 : lnE w (f (122 + l * 3 + 0)) t = inE 0 5 t := by
                       unfold lnE
                       first | rw [if_pos (show w < 2 by omega)] | rw [if_neg (show ¬ w < 2 by omega)]
                       first | exact if_pos ⟨by omega, by omega, by omega, by omega⟩ | exact if_neg (by omega)
                     rw [e2] at ls
                     rw [if_pos (by omega)] at ls
                     refine ⟨nxT (A0 8) (F0 7 2) t, up1 f (122 + l * 3 + w) (if t.2.2.1 = 3 then -(t).2.2.2 else (t).2.2.2), ?_, (fput_r4 (by omega) (by omega)).trans ?_, h1, by omega, nxT_ok (by first | exact kt | exact kn), ?_, by rw [hR, ls]⟩
                     · rw [fput_r (show (8 : Nat) ≠ 4 by decide)]; simp only [tkS_S, r4_8]; done
                     · rw [r4_4, r4_r4, if_neg (by assumption)]
                     · unfold ctOK; rw [up1_o (by omega), up1_o (by omega)]; exact kc)
                  | (have e1 : sgK (A0 8) (F0 7 2) t = t := by unfold sgK; first | exact if_pos (by assumption) | exact if_neg (by assumption)
                     have ls := lin_s (T := A0 8) (n := F0 7 2) (l := l) (w := w) (t := t) (f := f) (by omega)
                     rw [e1] at ls
                     have e2 : lnE w (f (122 + l * 3 + 0)) t = inE 0 200 t := by
                       unfold lnE
                       first | rw [if_pos (show w < 2 by omega)] | rw [if_neg (show ¬ w < 2 by omega)]
                       first | exact if_pos ⟨by omega, by omega, by omega, by omega⟩ | exact if_neg (by omega)
                     rw [e2] at ls
                     rw [if_pos (by omega)] at ls
                     refine ⟨nxT (A0 8) (F0 7 2) t, up1 f (122 + l * 3 + w) (if t.2.2.1 = 3 then -(t).2.2.2 else (t).2.2.2), ?_, (fput_r4 (by omega) (by omega)).trans ?_, h1, by omega, nxT_ok (by first | exact kt | exact kn), ?_, by rw [hR, ls]⟩
                     · rw [fput_r (show (8 : Nat) ≠ 4 by decide)]; simp only [tkS_S, r4_8]; done
                     · rw [r4_4, r4_r4, if_neg (by assumption)]
                     · unfold ctOK; rw [up1_o (by omega), up1_o (by omega)]; exact kc)
                  | (have e1 : sgK (A0 8) (F0 7 2) t = (nxT (A0 8) (F0 7 2) t) := by unfold sgK; first | exact if_pos (by assumption) | exact if_neg (by assumption)
                     have ls := lin_s (T := A0 8) (n := F0 7 2) (l := l) (w := w) (t := t) (f := f) (by omega)
                     rw [e1] at ls
                     have e2 : lnE w (f (122 + l * 3 + 0)) (nxT (A0 8) (F0 7 2) t) = inE 0 5 (nxT (A0 8) (F0 7 2) t) := by
                       unfold lnE
                       first | rw [if_pos (show w < 2 by omega)] | rw [if_neg (show ¬ w < 2 by omega)]
                       first | exact if_pos ⟨by omega, by omega, by omega, by omega⟩ | exact if_neg (by omega)
                     rw [e2] at ls
                     rw [if_pos (by omega)] at ls
                     refine ⟨nxT (A0 8) (F0 7 2) (nxT (A0 8) (F0 7 2) t), up1 f (122 + l * 3 + w) (if t.2.2.1 = 3 then -((nxT (A0 8) (F0 7 2) t)).2.2.2 else ((nxT (A0 8) (F0 7 2) t)).2.2.2), ?_, (fput_r4 (by omega) (by omega)).trans ?_, h1, by omega, nxT_ok (by first | exact kt | exact kn), ?_, by rw [hR, ls]⟩
                     · rw [fput_r (show (8 : Nat) ≠ 4 by decide)]; simp only [tkS_S, r4_8]; done
                     · rw [r4_4, r4_r4, if_pos (by assumption)]
                     · unfold ctOK; rw [up1_o (by omega), up1_o (by omega)]; exact kc)
                  | (have e1 : sgK (A0 8) (F0 7 2) t = (nxT (A0 8) (F0 7 2) t) := by unfold sgK; first | exact if_pos (by assumption) | exact if_neg (by assumption)
                     have ls := lin_s (T := A0 8) (n := F0 7 2) (l := l) (w := w) (t := t) (f := f) (by omega)
                     rw [e1] at ls
                     have e2 : lnE w (f (122 + l * 3 + 0)) (nxT (A0 8) (F0 7 2) t) = inE 0 200 (nxT (A0 8) (F0 7 2) t) := by
                       unfold lnE
                       first | rw [if_pos (show w < 2 by omega)] | rw [if_neg (show ¬ w < 2 by omega)]
                       first | exact if_pos ⟨by omega, by omega, by omega, by omega⟩ | exact if_neg (by omega)
                     rw [e2] at ls
                     rw [if_pos (by omega)] at ls
                     refine ⟨nxT (A0 8) (F0 7 2) (nxT (A0 8) (F0 7 2) t), up1 f (122 + l * 3 + w) (if t.2.2.1 = 3 then -((nxT (A0 8) (F0 7 2) t)).2.2.2 else ((nxT (A0 8) (F0 7 2) t)).2.2.2), ?_, (fput_r4 (by omega) (by omega)).trans ?_, h1, by omega, nxT_ok (by first | exact kt | exact kn), ?_, by rw [hR, ls]⟩
                     · rw [fput_r (show (8 : Nat) ≠ 4 by decide)]; simp only [tkS_S, r4_8]; done
                     · rw [r4_4, r4_r4, if_pos (by assumption)]
                     · unfold ctOK; rw [up1_o (by omega), up1_o (by omega)]; exact kc)
                · skip
                  (try simp (disch := omega) only [fat_in, w32_0, wbi0, Classical.not_not, w32_id] at c8)
                  first
                  | (exfalso; omega)
                  | (rw [hR, lin_0 (by omega)] at h; exact h)
                  | (have e1 : sgK (A0 8) (F0 7 2) t = t := by unfold sgK; first | exact if_pos (by assumption) | exact if_neg (by assumption)
                     have ls := lin_s (T := A0 8) (n := F0 7 2) (l := l) (w := w) (t := t) (f := f) (by omega)
                     rw [e1] at ls
                     have e2 : lnE w (f (122 + l * 3 + 0)) t = (-12) := by
                       unfold lnE
                       first | rw [if_pos (show w < 2 by omega)] | rw [if_neg (show ¬ w < 2 by omega)]
                       first | exact if_pos ⟨by omega, by omega, by omega, by omega⟩ | exact if_neg (by omega)
                     rw [e2] at ls
                     rw [if_neg (by omega)] at ls
                     rw [hR, ls] at h
                     exact FA_eq h rfl (by first | rfl | (simp only [tkS_S]; done)) rfl)
                  | (have e1 : sgK (A0 8) (F0 7 2) t = t := by unfold sgK; first | exact if_pos (by assumption) | exact if_neg (by assumption)
                     have ls := lin_s (T := A0 8) (n := F0 7 2) (l := l) (w := w) (t := t) (f := f) (by omega)
                     rw [e1] at ls
                     have e2 : lnE w (f (122 + l * 3 + 0)) t = inE 0 5 t := by
                       unfold lnE
                       first | rw [if_pos (show w < 2 by omega)] | rw [if_neg (show ¬ w < 2 by omega)]
                       first | exact if_pos ⟨by omega, by omega, by omega, by omega⟩ | exact if_neg (by omega)
                     rw [e2] at ls
                     rw [if_neg (by omega)] at ls
                     rw [hR, ls] at h
                     exact FA_eq h rfl (by first | rfl | (simp only [tkS_S]; done)) rfl)
                  | (have e1 : sgK (A0 8) (F0 7 2) t = t := by unfold sgK; first | exact if_pos (by assumption) | exact if_neg (by assumption)
                     have ls := lin_s (T := A0 8) (n := F0 7 2) (l := l) (w := w) (t := t) (f := f) (by omega)
                     rw [e1] at ls
                     have e2 : lnE w (f (122 + l * 3 + 0)) t = inE 0 200 t := by
                       unfold lnE
                       first | rw [if_pos (show w < 2 by omega)] | rw [if_neg (show ¬ w < 2 by omega)]
                       first | exact if_pos ⟨by omega, by omega, by omega, by omega⟩ | exact if_neg (by omega)
                     rw [e2] at ls
                     rw [if_neg (by omega)] at ls
                     rw [hR, ls] at h
                     exact FA_eq h rfl (by first | rfl | (simp only [tkS_S]; done)) rfl)
                  | (have e1 : sgK (A0 8) (F0 7 2) t = (nxT (A0 8) (F0 7 2) t) := by unfold sgK; first | exact if_pos (by assumption) | exact if_neg (by assumption)
                     have ls := lin_s (T := A0 8) (n := F0 7 2) (l := l) (w := w) (t := t) (f := f) (by omega)
                     rw [e1] at ls
                     have e2 : lnE w (f (122 + l * 3 + 0)) (nxT (A0 8) (F0 7 2) t) = (-12) := by
                       unfold lnE
                       first | rw [if_pos (show w < 2 by omega)] | rw [if_neg (show ¬ w < 2 by omega)]
                       first | exact if_pos ⟨by omega, by omega, by omega, by omega⟩ | exact if_neg (by omega)
                     rw [e2] at ls
                     rw [if_neg (by omega)] at ls
                     rw [hR, ls] at h
                     exact FA_eq h rfl (by first | rfl | (simp only [tkS_S]; done)) rfl)
                  | (have e1 : sgK (A0 8) (F0 7 2) t = (nxT (A0 8) (F0 7 2) t) := by unfold sgK; first | exact if_pos (by assumption) | exact if_neg (by assumption)
                     have ls := lin_s (T := A0 8) (n := F0 7 2) (l := l) (w := w) (t := t) (f := f) (by omega)
                     rw [e1] at ls
                     have e2 : lnE w (f (122 + l * 3 + 0)) (nxT (A0 8) (F0 7 2) t) = inE 0 5 (nxT (A0 8) (F0 7 2) t) := by
                       unfold lnE
                       first | rw [if_pos (show w < 2 by omega)] | rw [if_neg (show ¬ w < 2 by omega)]
                       first | exact if_pos ⟨by omega, by omega, by omega, by omega⟩ | exact if_neg (by omega)
                     rw [e2] at ls
                     rw [if_neg (by omega)] at ls
                     rw [hR, ls] at h
                     exact FA_eq h rfl (by first | rfl | (simp only [tkS_S]; done)) rfl)
                  | (have e1 : sgK (A0 8) (F0 7 2) t = (nxT (A0 8) (F0 7 2) t) := by unfold sgK; first | exact if_pos (by assumption) | exact if_neg (by assumption)
                     have ls := lin_s (T := A0 8) (n := F0 7 2) (l := l) (w := w) (t := t) (f := f) (by omega)
                     rw [e1] at ls
                     have e2 : lnE w (f (122 + l * 3 + 0)) (nxT (A0 8) (F0 7 2) t) = inE 0 200 (nxT (A0 8) (F0 7 2) t) := by
                       unfold lnE
                       first | rw [if_pos (show w < 2 by omega)] | rw [if_neg (show ¬ w < 2 by omega)]
                       first | exact if_pos ⟨by omega, by omega, by omega, by omega⟩ | exact if_neg (by omega)
                     rw [e2] at ls
                     rw [if_neg (by omega)] at ls
                     rw [hR, ls] at h
                     exact FA_eq h rfl (by first | rfl | (simp only [tkS_S]; done)) rfl)
            · skip
              (try simp (disch := omega) only [fat_in, w32_0, wbi0, Classical.not_not, w32_id] at c6)
              refine ⟨fun c7 => ?_, fun c7 => ?_⟩
              · skip
                (try simp (disch := omega) only [fat_in, w32_0, wbi0, Classical.not_not, w32_id] at c7)
                refine ⟨fun _ => ?_, fun q => absurd (by decide) q⟩
                refine ⟨by first | omega | exact ⟨by omega, by omega⟩, ?_⟩
                refine ⟨⟨rfl, rfl, ?_⟩, by omega⟩
                first
                | (exfalso; omega)
                | (have e1 : sgK (A0 8) (F0 7 2) t = t := by unfold sgK; first | exact if_pos (by assumption) | exact if_neg (by assumption)
                   have ls := lin_s (T := A0 8) (n := F0 7 2) (l := l) (w := w) (t := t) (f := f) (by omega)
                   rw [e1] at ls
                   have e2 : lnE w (f (122 + l * 3 + 0)) t = inE 0 5 t := by
                     unfold lnE
                     first | rw [if_pos (show w < 2 by omega)] | rw [if_neg (show ¬ w < 2 by omega)]
                     first | exact if_pos ⟨by omega, by omega, by omega, by omega⟩ | exact if_neg (by omega)
                   rw [e2] at ls
                   rw [if_pos (by omega)] at ls
                   refine ⟨nxT (A0 8) (F0 7 2) t, up1 f (122 + l * 3 + w) (if t.2.2.1 = 3 then -(t).2.2.2 else (t).2.2.2), ?_, (fput_r4 (by omega) (by omega)).trans ?_, h1, by omega, nxT_ok (by first | exact kt | exact kn), ?_, by rw [hR, ls]⟩
                   · rw [fput_r (show (8 : Nat) ≠ 4 by decide)]; simp only [tkS_S, r4_8]; done
                   · rw [r4_4, r4_r4, if_neg (by assumption)]
                   · unfold ctOK; rw [up1_o (by omega), up1_o (by omega)]; exact kc)
                | (have e1 : sgK (A0 8) (F0 7 2) t = t := by unfold sgK; first | exact if_pos (by assumption) | exact if_neg (by assumption)
                   have ls := lin_s (T := A0 8) (n := F0 7 2) (l := l) (w := w) (t := t) (f := f) (by omega)
                   rw [e1] at ls
                   have e2 : lnE w (f (122 + l * 3 + 0)) t = inE 0 200 t := by
                     unfold lnE
                     first | rw [if_pos (show w < 2 by omega)] | rw [if_neg (show ¬ w < 2 by omega)]
                     first | exact if_pos ⟨by omega, by omega, by omega, by omega⟩ | exact if_neg (by omega)
                   rw [e2] at ls
                   rw [if_pos (by omega)] at ls
                   refine ⟨nxT (A0 8) (F0 7 2) t, up1 f (122 + l * 3 + w) (if t.2.2.1 = 3 then -(t).2.2.2 else (t).2.2.2), ?_, (fput_r4 (by omega) (by omega)).trans ?_, h1, by omega, nxT_ok (by first | exact kt | exact kn), ?_, by rw [hR, ls]⟩
                   · rw [fput_r (show (8 : Nat) ≠ 4 by decide)]; simp only [tkS_S, r4_8]; done
                   · rw [r4_4, r4_r4, if_neg (by assumption)]
                   · unfold ctOK; rw [up1_o (by omega), up1_o (by omega)]; exact kc)
                | (have e1 : sgK (A0 8) (F0 7 2) t = (nxT (A0 8) (F0 7 2) t) := by unfold sgK; first | exact if_pos (by assumption) | exact if_neg (by assumption)
                   have ls := lin_s (T := A0 8) (n := F0 7 2) (l := l) (w := w) (t := t) (f := f) (by omega)
                   rw [e1] at ls
                   have e2 : lnE w (f (122 + l * 3 + 0)) (nxT (A0 8) (F0 7 2) t) = inE 0 5 (nxT (A0 8) (F0 7 2) t) := by
                     unfold lnE
                     first | rw [if_pos (show w < 2 by omega)] | rw [if_neg (show ¬ w < 2 by omega)]
                     first | exact if_pos ⟨by omega, by omega, by omega, by omega⟩ | exact if_neg (by omega)
                   rw [e2] at ls
                   rw [if_pos (by omega)] at ls
                   refine ⟨nxT (A0 8) (F0 7 2) (nxT (A0 8) (F0 7 2) t), up1 f (122 + l * 3 + w) (if t.2.2.1 = 3 then -((nxT (A0 8) (F0 7 2) t)).2.2.2 else ((nxT (A0 8) (F0 7 2) t)).2.2.2), ?_, (fput_r4 (by omega) (by omega)).trans ?_, h1, by omega, nxT_ok (by first | exact kt | exact kn), ?_, by rw [hR, ls]⟩
                   · rw [fput_r (show (8 : Nat) ≠ 4 by decide)]; simp only [tkS_S, r4_8]; done
                   · rw [r4_4, r4_r4, if_pos (by assumption)]
                   · unfold ctOK; rw [up1_o (by omega), up1_o (by omega)]; exact kc)
                | (have e1 : sgK (A0 8) (F0 7 2) t = (nxT (A0 8) (F0 7 2) t) := by unfold sgK; first | exact if_pos (by assumption) | exact if_neg (by assumption)
                   have ls := lin_s (T := A0 8) (n := F0 7 2) (l := l) (w := w) (t := t) (f := f) (by omega)
                   rw [e1] at ls
                   have e2 : lnE w (f (122 + l * 3 + 0)) (nxT (A0 8) (F0 7 2) t) = inE 0 200 (nxT (A0 8) (F0 7 2) t) := by
                     unfold lnE
                     first | rw [if_pos (show w < 2 by omega)] | rw [if_neg (show ¬ w < 2 by omega)]
                     first | exact if_pos ⟨by omega, by omega, by omega, by omega⟩ | exact if_neg (by omega)
                   rw [e2] at ls
                   rw [if_pos (by omega)] at ls
                   refine ⟨nxT (A0 8) (F0 7 2) (nxT (A0 8) (F0 7 2) t), up1 f (122 + l * 3 + w) (if t.2.2.1 = 3 then -((nxT (A0 8) (F0 7 2) t)).2.2.2 else ((nxT (A0 8) (F0 7 2) t)).2.2.2), ?_, (fput_r4 (by omega) (by omega)).trans ?_, h1, by omega, nxT_ok (by first | exact kt | exact kn), ?_, by rw [hR, ls]⟩
                   · rw [fput_r (show (8 : Nat) ≠ 4 by decide)]; simp only [tkS_S, r4_8]; done
                   · rw [r4_4, r4_r4, if_pos (by assumption)]
                   · unfold ctOK; rw [up1_o (by omega), up1_o (by omega)]; exact kc)
              · skip
                (try simp (disch := omega) only [fat_in, w32_0, wbi0, Classical.not_not, w32_id] at c7)
                first
                | (exfalso; omega)
                | (rw [hR, lin_0 (by omega)] at h; exact h)
                | (have e1 : sgK (A0 8) (F0 7 2) t = t := by unfold sgK; first | exact if_pos (by assumption) | exact if_neg (by assumption)
                   have ls := lin_s (T := A0 8) (n := F0 7 2) (l := l) (w := w) (t := t) (f := f) (by omega)
                   rw [e1] at ls
                   have e2 : lnE w (f (122 + l * 3 + 0)) t = (-12) := by
                     unfold lnE
                     first | rw [if_pos (show w < 2 by omega)] | rw [if_neg (show ¬ w < 2 by omega)]
                     first | exact if_pos ⟨by omega, by omega, by omega, by omega⟩ | exact if_neg (by omega)
                   rw [e2] at ls
                   rw [if_neg (by omega)] at ls
                   rw [hR, ls] at h
                   exact FA_eq h rfl (by first | rfl | (simp only [tkS_S]; done)) rfl)
                | (have e1 : sgK (A0 8) (F0 7 2) t = t := by unfold sgK; first | exact if_pos (by assumption) | exact if_neg (by assumption)
                   have ls := lin_s (T := A0 8) (n := F0 7 2) (l := l) (w := w) (t := t) (f := f) (by omega)
                   rw [e1] at ls
                   have e2 : lnE w (f (122 + l * 3 + 0)) t = inE 0 5 t := by
                     unfold lnE
                     first | rw [if_pos (show w < 2 by omega)] | rw [if_neg (show ¬ w < 2 by omega)]
                     first | exact if_pos ⟨by omega, by omega, by omega, by omega⟩ | exact if_neg (by omega)
                   rw [e2] at ls
                   rw [if_neg (by omega)] at ls
                   rw [hR, ls] at h
                   exact FA_eq h rfl (by first | rfl | (simp only [tkS_S]; done)) rfl)
                | (have e1 : sgK (A0 8) (F0 7 2) t = t := by unfold sgK; first | exact if_pos (by assumption) | exact if_neg (by assumption)
                   have ls := lin_s (T := A0 8) (n := F0 7 2) (l := l) (w := w) (t := t) (f := f) (by omega)
                   rw [e1] at ls
                   have e2 : lnE w (f (122 + l * 3 + 0)) t = inE 0 200 t := by
                     unfold lnE
                     first | rw [if_pos (show w < 2 by omega)] | rw [if_neg (show ¬ w < 2 by omega)]
                     first | exact if_pos ⟨by omega, by omega, by omega, by omega⟩ | exact if_neg (by omega)
                   rw [e2] at ls
                   rw [if_neg (by omega)] at ls
                   rw [hR, ls] at h
                   exact FA_eq h rfl (by first | rfl | (simp only [tkS_S]; done)) rfl)
                | (have e1 : sgK (A0 8) (F0 7 2) t = (nxT (A0 8) (F0 7 2) t) := by unfold sgK; first | exact if_pos (by assumption) | exact if_neg (by assumption)
                   have ls := lin_s (T := A0 8) (n := F0 7 2) (l := l) (w := w) (t := t) (f := f) (by omega)
                   rw [e1] at ls
                   have e2 : lnE w (f (122 + l * 3 + 0)) (nxT (A0 8) (F0 7 2) t) = (-12) := by
                     unfold lnE
                     first | rw [if_pos (show w < 2 by omega)] | rw [if_neg (show ¬ w < 2 by omega)]
                     first | exact if_pos ⟨by omega, by omega, by omega, by omega⟩ | exact if_neg (by omega)
                   rw [e2] at ls
                   rw [if_neg (by omega)] at ls
                   rw [hR, ls] at h
                   exact FA_eq h rfl (by first | rfl | (simp only [tkS_S]; done)) rfl)
                | (have e1 : sgK (A0 8) (F0 7 2) t = (nxT (A0 8) (F0 7 2) t) := by unfold sgK; first | exact if_pos (by assumption) | exact if_neg (by assumption)
                   have ls := lin_s (T := A0 8) (n := F0 7 2) (l := l) (w := w) (t := t) (f := f) (by omega)
                   rw [e1] at ls
                   have e2 : lnE w (f (122 + l * 3 + 0)) (nxT (A0 8) (F0 7 2) t) = inE 0 5 (nxT (A0 8) (F0 7 2) t) := by
                     unfold lnE
                     first | rw [if_pos (show w < 2 by omega)] | rw [if_neg (show ¬ w < 2 by omega)]
                     first | exact if_pos ⟨by omega, by omega, by omega, by omega⟩ | exact if_neg (by omega)
                   rw [e2] at ls
                   rw [if_neg (by omega)] at ls
                   rw [hR, ls] at h
                   exact FA_eq h rfl (by first | rfl | (simp only [tkS_S]; done)) rfl)
                | (have e1 : sgK (A0 8) (F0 7 2) t = (nxT (A0 8) (F0 7 2) t) := by unfold sgK; first | exact if_pos (by assumption) | exact if_neg (by assumption)
                   have ls := lin_s (T := A0 8) (n := F0 7 2) (l := l) (w := w) (t := t) (f := f) (by omega)
                   rw [e1] at ls
                   have e2 : lnE w (f (122 + l * 3 + 0)) (nxT (A0 8) (F0 7 2) t) = inE 0 200 (nxT (A0 8) (F0 7 2) t) := by
                     unfold lnE
                     first | rw [if_pos (show w < 2 by omega)] | rw [if_neg (show ¬ w < 2 by omega)]
                     first | exact if_pos ⟨by omega, by omega, by omega, by omega⟩ | exact if_neg (by omega)
                   rw [e2] at ls
                   rw [if_neg (by omega)] at ls
                   rw [hR, ls] at h
                   exact FA_eq h rfl (by first | rfl | (simp only [tkS_S]; done)) rfl)
          · skip
            (try simp (disch := omega) only [fat_in, w32_0, wbi0, Classical.not_not, w32_id] at c5)
            refine ⟨fun c6 => ?_, fun c6 => ?_⟩
            · skip
              (try simp (disch := omega) only [fat_in, w32_0, wbi0, Classical.not_not, w32_id] at c6)
              refine ⟨fun _ => ?_, fun q => absurd (by decide) q⟩
              refine ⟨by first | omega | exact ⟨by omega, by omega⟩, ?_⟩
              refine ⟨⟨rfl, rfl, ?_⟩, by omega⟩
              first
              | (exfalso; omega)
              | (have e1 : sgK (A0 8) (F0 7 2) t = t := by unfold sgK; first | exact if_pos (by assumption) | exact if_neg (by assumption)
                 have ls := lin_s (T := A0 8) (n := F0 7 2) (l := l) (w := w) (t := t) (f := f) (by omega)
                 rw [e1] at ls
                 have e2 : lnE w (f (122 + l * 3 + 0)) t = inE 0 5 t := by
                   unfold lnE
                   first | rw [if_pos (show w < 2 by omega)] | rw [if_neg (show ¬ w < 2 by omega)]
                   first | exact if_pos ⟨by omega, by omega, by omega, by omega⟩ | exact if_neg (by omega)
                 rw [e2] at ls
                 rw [if_pos (by omega)] at ls
                 refine ⟨nxT (A0 8) (F0 7 2) t, up1 f (122 + l * 3 + w) (if t.2.2.1 = 3 then -(t).2.2.2 else (t).2.2.2), ?_, (fput_r4 (by omega) (by omega)).trans ?_, h1, by omega, nxT_ok (by first | exact kt | exact kn), ?_, by rw [hR, ls]⟩
                 · rw [fput_r (show (8 : Nat) ≠ 4 by decide)]; simp only [tkS_S, r4_8]; done
                 · rw [r4_4, r4_r4, if_neg (by assumption)]
                 · unfold ctOK; rw [up1_o (by omega), up1_o (by omega)]; exact kc)
              | (have e1 : sgK (A0 8) (F0 7 2) t = t := by unfold sgK; first | exact if_pos (by assumption) | exact if_neg (by assumption)
                 have ls := lin_s (T := A0 8) (n := F0 7 2) (l := l) (w := w) (t := t) (f := f) (by omega)
                 rw [e1] at ls
                 have e2 : lnE w (f (122 + l * 3 + 0)) t = inE 0 200 t := by
                   unfold lnE
                   first | rw [if_pos (show w < 2 by omega)] | rw [if_neg (show ¬ w < 2 by omega)]
                   first | exact if_pos ⟨by omega, by omega, by omega, by omega⟩ | exact if_neg (by omega)
                 rw [e2] at ls
                 rw [if_pos (by omega)] at ls
                 refine ⟨nxT (A0 8) (F0 7 2) t, up1 f (122 + l * 3 + w) (if t.2.2.1 = 3 then -(t).2.2.2 else (t).2.2.2), ?_, (fput_r4 (by omega) (by omega)).trans ?_, h1, by omega, nxT_ok (by first | exact kt | exact kn), ?_, by rw [hR, ls]⟩
                 · rw [fput_r (show (8 : Nat) ≠ 4 by decide)]; simp only [tkS_S, r4_8]; done
                 · rw [r4_4, r4_r4, if_neg (by assumption)]
                 · unfold ctOK; rw [up1_o (by omega), up1_o (by omega)]; exact kc)
              | (have e1 : sgK (A0 8) (F0 7 2) t = (nxT (A0 8) (F0 7 2) t) := by unfold sgK; first | exact if_pos (by assumption) | exact if_neg (by assumption)
                 have ls := lin_s (T := A0 8) (n := F0 7 2) (l := l) (w := w) (t := t) (f := f) (by omega)
                 rw [e1] at ls
                 have e2 : lnE w (f (122 + l * 3 + 0)) (nxT (A0 8) (F0 7 2) t) = inE 0 5 (nxT (A0 8) (F0 7 2) t) := by
                   unfold lnE
                   first | rw [if_pos (show w < 2 by omega)] | rw [if_neg (show ¬ w < 2 by omega)]
                   first | exact if_pos ⟨by omega, by omega, by omega, by omega⟩ | exact if_neg (by omega)
                 rw [e2] at ls
                 rw [if_pos (by omega)] at ls
                 refine ⟨nxT (A0 8) (F0 7 2) (nxT (A0 8) (F0 7 2) t), up1 f (122 + l * 3 + w) (if t.2.2.1 = 3 then -((nxT (A0 8) (F0 7 2) t)).2.2.2 else ((nxT (A0 8) (F0 7 2) t)).2.2.2), ?_, (fput_r4 (by omega) (by omega)).trans ?_, h1, by omega, nxT_ok (by first | exact kt | exact kn), ?_, by rw [hR, ls]⟩
                 · rw [fput_r (show (8 : Nat) ≠ 4 by decide)]; simp only [tkS_S, r4_8]; done
                 · rw [r4_4, r4_r4, if_pos (by assumption)]
                 · unfold ctOK; rw [up1_o (by omega), up1_o (by omega)]; exact kc)
              | (have e1 : sgK (A0 8) (F0 7 2) t = (nxT (A0 8) (F0 7 2) t) := by unfold sgK; first | exact if_pos (by assumption) | exact if_neg (by assumption)
                 have ls := lin_s (T := A0 8) (n := F0 7 2) (l := l) (w := w) (t := t) (f := f) (by omega)
                 rw [e1] at ls
                 have e2 : lnE w (f (122 + l * 3 + 0)) (nxT (A0 8) (F0 7 2) t) = inE 0 200 (nxT (A0 8) (F0 7 2) t) := by
                   unfold lnE
                   first | rw [if_pos (show w < 2 by omega)] | rw [if_neg (show ¬ w < 2 by omega)]
                   first | exact if_pos ⟨by omega, by omega, by omega, by omega⟩ | exact if_neg (by omega)
                 rw [e2] at ls
                 rw [if_pos (by omega)] at ls
                 refine ⟨nxT (A0 8) (F0 7 2) (nxT (A0 8) (F0 7 2) t), up1 f (122 + l * 3 + w) (if t.2.2.1 = 3 then -((nxT (A0 8) (F0 7 2) t)).2.2.2 else ((nxT (A0 8) (F0 7 2) t)).2.2.2), ?_, (fput_r4 (by omega) (by omega)).trans ?_, h1, by omega, nxT_ok (by first | exact kt | exact kn), ?_, by rw [hR, ls]⟩
                 · rw [fput_r (show (8 : Nat) ≠ 4 by decide)]; simp only [tkS_S, r4_8]; done
                 · rw [r4_4, r4_r4, if_pos (by assumption)]
                 · unfold ctOK; rw [up1_o (by omega), up1_o (by omega)]; exact kc)
            · skip
              (try simp (disch := omega) only [fat_in, w32_0, wbi0, Classical.not_not, w32_id] at c6)
              first
              | (exfalso; omega)
              | (rw [hR, lin_0 (by omega)] at h; exact h)
              | (have e1 : sgK (A0 8) (F0 7 2) t = t := by unfold sgK; first | exact if_pos (by assumption) | exact if_neg (by assumption)
                 have ls := lin_s (T := A0 8) (n := F0 7 2) (l := l) (w := w) (t := t) (f := f) (by omega)
                 rw [e1] at ls
                 have e2 : lnE w (f (122 + l * 3 + 0)) t = (-12) := by
                   unfold lnE
                   first | rw [if_pos (show w < 2 by omega)] | rw [if_neg (show ¬ w < 2 by omega)]
                   first | exact if_pos ⟨by omega, by omega, by omega, by omega⟩ | exact if_neg (by omega)
                 rw [e2] at ls
                 rw [if_neg (by omega)] at ls
                 rw [hR, ls] at h
                 exact FA_eq h rfl (by first | rfl | (simp only [tkS_S]; done)) rfl)
              | (have e1 : sgK (A0 8) (F0 7 2) t = t := by unfold sgK; first | exact if_pos (by assumption) | exact if_neg (by assumption)
                 have ls := lin_s (T := A0 8) (n := F0 7 2) (l := l) (w := w) (t := t) (f := f) (by omega)
                 rw [e1] at ls
                 have e2 : lnE w (f (122 + l * 3 + 0)) t = inE 0 5 t := by
                   unfold lnE
                   first | rw [if_pos (show w < 2 by omega)] | rw [if_neg (show ¬ w < 2 by omega)]
                   first | exact if_pos ⟨by omega, by omega, by omega, by omega⟩ | exact if_neg (by omega)
                 rw [e2] at ls
                 rw [if_neg (by omega)] at ls
                 rw [hR, ls] at h
                 exact FA_eq h rfl (by first | rfl | (simp only [tkS_S]; done)) rfl)
              | (have e1 : sgK (A0 8) (F0 7 2) t = t := by unfold sgK; first | exact if_pos (by assumption) | exact if_neg (by assumption)
                 have ls := lin_s (T := A0 8) (n := F0 7 2) (l := l) (w := w) (t := t) (f := f) (by omega)
                 rw [e1] at ls
                 have e2 : lnE w (f (122 + l * 3 + 0)) t = inE 0 200 t := by
                   unfold lnE
                   first | rw [if_pos (show w < 2 by omega)] | rw [if_neg (show ¬ w < 2 by omega)]
                   first | exact if_pos ⟨by omega, by omega, by omega, by omega⟩ | exact if_neg (by omega)
                 rw [e2] at ls
                 rw [if_neg (by omega)] at ls
                 rw [hR, ls] at h
                 exact FA_eq h rfl (by first | rfl | (simp only [tkS_S]; done)) rfl)
              | (have e1 : sgK (A0 8) (F0 7 2) t = (nxT (A0 8) (F0 7 2) t) := by unfold sgK; first | exact if_pos (by assumption) | exact if_neg (by assumption)
                 have ls := lin_s (T := A0 8) (n := F0 7 2) (l := l) (w := w) (t := t) (f := f) (by omega)
                 rw [e1] at ls
                 have e2 : lnE w (f (122 + l * 3 + 0)) (nxT (A0 8) (F0 7 2) t) = (-12) := by
                   unfold lnE
                   first | rw [if_pos (show w < 2 by omega)] | rw [if_neg (show ¬ w < 2 by omega)]
                   first | exact if_pos ⟨by omega, by omega, by omega, by omega⟩ | exact if_neg (by omega)
                 rw [e2] at ls
                 rw [if_neg (by omega)] at ls
                 rw [hR, ls] at h
                 exact FA_eq h rfl (by first | rfl | (simp only [tkS_S]; done)) rfl)
              | (have e1 : sgK (A0 8) (F0 7 2) t = (nxT (A0 8) (F0 7 2) t) := by unfold sgK; first | exact if_pos (by assumption) | exact if_neg (by assumption)
                 have ls := lin_s (T := A0 8) (n := F0 7 2) (l := l) (w := w) (t := t) (f := f) (by omega)
                 rw [e1] at ls
                 have e2 : lnE w (f (122 + l * 3 + 0)) (nxT (A0 8) (F0 7 2) t) = inE 0 5 (nxT (A0 8) (F0 7 2) t) := by
                   unfold lnE
                   first | rw [if_pos (show w < 2 by omega)] | rw [if_neg (show ¬ w < 2 by omega)]
                   first | exact if_pos ⟨by omega, by omega, by omega, by omega⟩ | exact if_neg (by omega)
                 rw [e2] at ls
                 rw [if_neg (by omega)] at ls
                 rw [hR, ls] at h
                 exact FA_eq h rfl (by first | rfl | (simp only [tkS_S]; done)) rfl)
              | (have e1 : sgK (A0 8) (F0 7 2) t = (nxT (A0 8) (F0 7 2) t) := by unfold sgK; first | exact if_pos (by assumption) | exact if_neg (by assumption)
                 have ls := lin_s (T := A0 8) (n := F0 7 2) (l := l) (w := w) (t := t) (f := f) (by omega)
                 rw [e1] at ls
                 have e2 : lnE w (f (122 + l * 3 + 0)) (nxT (A0 8) (F0 7 2) t) = inE 0 200 (nxT (A0 8) (F0 7 2) t) := by
                   unfold lnE
                   first | rw [if_pos (show w < 2 by omega)] | rw [if_neg (show ¬ w < 2 by omega)]
                   first | exact if_pos ⟨by omega, by omega, by omega, by omega⟩ | exact if_neg (by omega)
                 rw [e2] at ls
                 rw [if_neg (by omega)] at ls
                 rw [hR, ls] at h
                 exact FA_eq h rfl (by first | rfl | (simp only [tkS_S]; done)) rfl)
        · skip
          (try simp (disch := omega) only [fat_in, w32_0, wbi0, Classical.not_not, w32_id] at c4)
          refine ⟨fun c5 => ?_, fun c5 => ?_⟩
          · skip
            (try simp (disch := omega) only [fat_in, w32_0, wbi0, Classical.not_not, w32_id] at c5)
            refine ⟨fun _ => ?_, fun q => absurd (by decide) q⟩
            refine ⟨by first | omega | exact ⟨by omega, by omega⟩, ?_⟩
            refine ⟨⟨rfl, rfl, ?_⟩, by omega⟩
            first
            | (exfalso; omega)
            | (have e1 : sgK (A0 8) (F0 7 2) t = t := by unfold sgK; first | exact if_pos (by assumption) | exact if_neg (by assumption)
               have ls := lin_s (T := A0 8) (n := F0 7 2) (l := l) (w := w) (t := t) (f := f) (by omega)
               rw [e1] at ls
               have e2 : lnE w (f (122 + l * 3 + 0)) t = inE 0 5 t := by
                 unfold lnE
                 first | rw [if_pos (show w < 2 by omega)] | rw [if_neg (show ¬ w < 2 by omega)]
                 first | exact if_pos ⟨by omega, by omega, by omega, by omega⟩ | exact if_neg (by omega)
               rw [e2] at ls
               rw [if_pos (by omega)] at ls
               refine ⟨nxT (A0 8) (F0 7 2) t, up1 f (122 + l * 3 + w) (if t.2.2.1 = 3 then -(t).2.2.2 else (t).2.2.2), ?_, (fput_r4 (by omega) (by omega)).trans ?_, h1, by omega, nxT_ok (by first | exact kt | exact kn), ?_, by rw [hR, ls]⟩
               · rw [fput_r (show (8 : Nat) ≠ 4 by decide)]; simp only [tkS_S, r4_8]; done
               · rw [r4_4, r4_r4, if_neg (by assumption)]
               · unfold ctOK; rw [up1_o (by omega), up1_o (by omega)]; exact kc)
            | (have e1 : sgK (A0 8) (F0 7 2) t = t := by unfold sgK; first | exact if_pos (by assumption) | exact if_neg (by assumption)
               have ls := lin_s (T := A0 8) (n := F0 7 2) (l := l) (w := w) (t := t) (f := f) (by omega)
               rw [e1] at ls
               have e2 : lnE w (f (122 + l * 3 + 0)) t = inE 0 200 t := by
                 unfold lnE
                 first | rw [if_pos (show w < 2 by omega)] | rw [if_neg (show ¬ w < 2 by omega)]
                 first | exact if_pos ⟨by omega, by omega, by omega, by omega⟩ | exact if_neg (by omega)
               rw [e2] at ls
               rw [if_pos (by omega)] at ls
               refine ⟨nxT (A0 8) (F0 7 2) t, up1 f (122 + l * 3 + w) (if t.2.2.1 = 3 then -(t).2.2.2 else (t).2.2.2), ?_, (fput_r4 (by omega) (by omega)).trans ?_, h1, by omega, nxT_ok (by first | exact kt | exact kn), ?_, by rw [hR, ls]⟩
               · rw [fput_r (show (8 : Nat) ≠ 4 by decide)]; simp only [tkS_S, r4_8]; done
               · rw [r4_4, r4_r4, if_neg (by assumption)]
               · unfold ctOK; rw [up1_o (by omega), up1_o (by omega)]; exact kc)
            | (have e1 : sgK (A0 8) (F0 7 2) t = (nxT (A0 8) (F0 7 2) t) := by unfold sgK; first | exact if_pos (by assumption) | exact if_neg (by assumption)
               have ls := lin_s (T := A0 8) (n := F0 7 2) (l := l) (w := w) (t := t) (f := f) (by omega)
               rw [e1] at ls
               have e2 : lnE w (f (122 + l * 3 + 0)) (nxT (A0 8) (F0 7 2) t) = inE 0 5 (nxT (A0 8) (F0 7 2) t) := by
                 unfold lnE
                 first | rw [if_pos (show w < 2 by omega)] | rw [if_neg (show ¬ w < 2 by omega)]
                 first | exact if_pos ⟨by omega, by omega, by omega, by omega⟩ | exact if_neg (by omega)
               rw [e2] at ls
               rw [if_pos (by omega)] at ls
               refine ⟨nxT (A0 8) (F0 7 2) (nxT (A0 8) (F0 7 2) t), up1 f (122 + l * 3 + w) (if t.2.2.1 = 3 then -((nxT (A0 8) (F0 7 2) t)).2.2.2 else ((nxT (A0 8) (F0 7 2) t)).2.2.2), ?_, (fput_r4 (by omega) (by omega)).trans ?_, h1, by omega, nxT_ok (by first | exact kt | exact kn), ?_, by rw [hR, ls]⟩
               · rw [fput_r (show (8 : Nat) ≠ 4 by decide)]; simp only [tkS_S, r4_8]; done
               · rw [r4_4, r4_r4, if_pos (by assumption)]
               · unfold ctOK; rw [up1_o (by omega), up1_o (by omega)]; exact kc)
            | (have e1 : sgK (A0 8) (F0 7 2) t = (nxT (A0 8) (F0 7 2) t) := by unfold sgK; first | exact if_pos (by assumption) | exact if_neg (by assumption)
               have ls := lin_s (T := A0 8) (n := F0 7 2) (l := l) (w := w) (t := t) (f := f) (by omega)
               rw [e1] at ls
               have e2 : lnE w (f (122 + l * 3 + 0)) (nxT (A0 8) (F0 7 2) t) = inE 0 200 (nxT (A0 8) (F0 7 2) t) := by
                 unfold lnE
                 first | rw [if_pos (show w < 2 by omega)] | rw [if_neg (show ¬ w < 2 by omega)]
                 first | exact if_pos ⟨by omega, by omega, by omega, by omega⟩ | exact if_neg (by omega)
               rw [e2] at ls
               rw [if_pos (by omega)] at ls
               refine ⟨nxT (A0 8) (F0 7 2) (nxT (A0 8) (F0 7 2) t), up1 f (122 + l * 3 + w) (if t.2.2.1 = 3 then -((nxT (A0 8) (F0 7 2) t)).2.2.2 else ((nxT (A0 8) (F0 7 2) t)).2.2.2), ?_, (fput_r4 (by omega) (by omega)).trans ?_, h1, by omega, nxT_ok (by first | exact kt | exact kn), ?_, by rw [hR, ls]⟩
               · rw [fput_r (show (8 : Nat) ≠ 4 by decide)]; simp only [tkS_S, r4_8]; done
               · rw [r4_4, r4_r4, if_pos (by assumption)]
               · unfold ctOK; rw [up1_o (by omega), up1_o (by omega)]; exact kc)
          · skip
            (try simp (disch := omega) only [fat_in, w32_0, wbi0, Classical.not_not, w32_id] at c5)
            first
            | (exfalso; omega)
            | (rw [hR, lin_0 (by omega)] at h; exact h)
            | (have e1 : sgK (A0 8) (F0 7 2) t = t := by unfold sgK; first | exact if_pos (by assumption) | exact if_neg (by assumption)
               have ls := lin_s (T := A0 8) (n := F0 7 2) (l := l) (w := w) (t := t) (f := f) (by omega)
               rw [e1] at ls
               have e2 : lnE w (f (122 + l * 3 + 0)) t = (-12) := by
                 unfold lnE
                 first | rw [if_pos (show w < 2 by omega)] | rw [if_neg (show ¬ w < 2 by omega)]
                 first | exact if_pos ⟨by omega, by omega, by omega, by omega⟩ | exact if_neg (by omega)
               rw [e2] at ls
               rw [if_neg (by omega)] at ls
               rw [hR, ls] at h
               exact FA_eq h rfl (by first | rfl | (simp only [tkS_S]; done)) rfl)
            | (have e1 : sgK (A0 8) (F0 7 2) t = t := by unfold sgK; first | exact if_pos (by assumption) | exact if_neg (by assumption)
               have ls := lin_s (T := A0 8) (n := F0 7 2) (l := l) (w := w) (t := t) (f := f) (by omega)
               rw [e1] at ls
               have e2 : lnE w (f (122 + l * 3 + 0)) t = inE 0 5 t := by
                 unfold lnE
                 first | rw [if_pos (show w < 2 by omega)] | rw [if_neg (show ¬ w < 2 by omega)]
                 first | exact if_pos ⟨by omega, by omega, by omega, by omega⟩ | exact if_neg (by omega)
               rw [e2] at ls
               rw [if_neg (by omega)] at ls
               rw [hR, ls] at h
               exact FA_eq h rfl (by first | rfl | (simp only [tkS_S]; done)) rfl)
            | (have e1 : sgK (A0 8) (F0 7 2) t = t := by unfold sgK; first | exact if_pos (by assumption) | exact if_neg (by assumption)
               have ls := lin_s (T := A0 8) (n := F0 7 2) (l := l) (w := w) (t := t) (f := f) (by omega)
               rw [e1] at ls
               have e2 : lnE w (f (122 + l * 3 + 0)) t = inE 0 200 t := by
                 unfold lnE
                 first | rw [if_pos (show w < 2 by omega)] | rw [if_neg (show ¬ w < 2 by omega)]
                 first | exact if_pos ⟨by omega, by omega, by omega, by omega⟩ | exact if_neg (by omega)
               rw [e2] at ls
               rw [if_neg (by omega)] at ls
               rw [hR, ls] at h
               exact FA_eq h rfl (by first | rfl | (simp only [tkS_S]; done)) rfl)
            | (have e1 : sgK (A0 8) (F0 7 2) t = (nxT (A0 8) (F0 7 2) t) := by unfold sgK; first | exact if_pos (by assumption) | exact if_neg (by assumption)
               have ls := lin_s (T := A0 8) (n := F0 7 2) (l := l) (w := w) (t := t) (f := f) (by omega)
               rw [e1] at ls
               have e2 : lnE w (f (122 + l * 3 + 0)) (nxT (A0 8) (F0 7 2) t) = (-12) := by
                 unfold lnE
                 first | rw [if_pos (show w < 2 by omega)] | rw [if_neg (show ¬ w < 2 by omega)]
                 first | exact if_pos ⟨by omega, by omega, by omega, by omega⟩ | exact if_neg (by omega)
               rw [e2] at ls
               rw [if_neg (by omega)] at ls
               rw [hR, ls] at h
               exact FA_eq h rfl (by first | rfl | (simp only [tkS_S]; done)) rfl)
            | (have e1 : sgK (A0 8) (F0 7 2) t = (nxT (A0 8) (F0 7 2) t) := by unfold sgK; first | exact if_pos (by assumption) | exact if_neg (by assumption)
               have ls := lin_s (T := A0 8) (n := F0 7 2) (l := l) (w := w) (t := t) (f := f) (by omega)
               rw [e1] at ls
               have e2 : lnE w (f (122 + l * 3 + 0)) (nxT (A0 8) (F0 7 2) t) = inE 0 5 (nxT (A0 8) (F0 7 2) t) := by
                 unfold lnE
                 first | rw [if_pos (show w < 2 by omega)] | rw [if_neg (show ¬ w < 2 by omega)]
                 first | exact if_pos ⟨by omega, by omega, by omega, by omega⟩ | exact if_neg (by omega)
               rw [e2] at ls
               rw [if_neg (by omega)] at ls
               rw [hR, ls] at h
               exact FA_eq h rfl (by first | rfl | (simp only [tkS_S]; done)) rfl)
            | (have e1 : sgK (A0 8) (F0 7 2) t = (nxT (A0 8) (F0 7 2) t) := by unfold sgK; first | exact if_pos (by assumption) | exact if_neg (by assumption)
               have ls := lin_s (T := A0 8) (n := F0 7 2) (l := l) (w := w) (t := t) (f := f) (by omega)
               rw [e1] at ls
               have e2 : lnE w (f (122 + l * 3 + 0)) (nxT (A0 8) (F0 7 2) t) = inE 0 200 (nxT (A0 8) (F0 7 2) t) := by
                 unfold lnE
                 first | rw [if_pos (show w < 2 by omega)] | rw [if_neg (show ¬ w < 2 by omega)]
                 first | exact if_pos ⟨by omega, by omega, by omega, by omega⟩ | exact if_neg (by omega)
               rw [e2] at ls
               rw [if_neg (by omega)] at ls
               rw [hR, ls] at h
               exact FA_eq h rfl (by first | rfl | (simp only [tkS_S]; done)) rfl)
  · skip
    (try simp (disch := omega) only [fat_in, w32_0, wbi0, Classical.not_not, w32_id] at c1)
    first
    | (exfalso; omega)
    | (rw [hR, lin_0 (by omega)] at h; exact h)
    | (have e1 : sgK (A0 8) (F0 7 2) t = t := by unfold sgK; first | exact if_pos (by assumption) | exact if_neg (by assumption)
       have ls := lin_s (T := A0 8) (n := F0 7 2) (l := l) (w := w) (t := t) (f := f) (by omega)
       rw [e1] at ls
       have e2 : lnE w (f (122 + l * 3 + 0)) t = (-12) := by
         unfold lnE
         first | rw [if_pos (show w < 2 by omega)] | rw [if_neg (show ¬ w < 2 by omega)]
         first | exact if_pos ⟨by omega, by omega, by omega, by omega⟩ | exact if_neg (by omega)
       rw [e2] at ls
       rw [if_neg (by omega)] at ls
       rw [hR, ls] at h
       exact FA_eq h rfl (by first | rfl | (simp only [tkS_S]; done)) rfl)
    | (have e1 : sgK (A0 8) (F0 7 2) t = t := by unfold sgK; first | exact if_pos (by assumption) | exact if_neg (by assumption)
       have ls := lin_s (T := A0 8) (n := F0 7 2) (l := l) (w := w) (t := t) (f := f) (by omega)
       rw [e1] at ls
       have e2 : lnE w (f (122 + l * 3 + 0)) t = inE 0 5 t := by
         unfold lnE
         first | rw [if_pos (show w < 2 by omega)] | rw [if_neg (show ¬ w < 2 by omega)]
         first | exact if_pos ⟨by omega, by omega, by omega, by omega⟩ | exact if_neg (by omega)
       rw [e2] at ls
       rw [if_neg (by omega)] at ls
       rw [hR, ls] at h
       exact FA_eq h rfl (by first | rfl | (simp only [tkS_S]; done)) rfl)
    | (have e1 : sgK (A0 8) (F0 7 2) t = t := by unfold sgK; first | exact if_pos (by assumption) | exact if_neg (by assumption)
       have ls := lin_s (T := A0 8) (n := F0 7 2) (l := l) (w := w) (t := t) (f := f) (by omega)
       rw [e1] at ls
       have e2 : lnE w (f (122 + l * 3 + 0)) t = inE 0 200 t := by
         unfold lnE
         first | rw [if_pos (show w < 2 by omega)] | rw [if_neg (show ¬ w < 2 by omega)]
         first | exact if_pos ⟨by omega, by omega, by omega, by omega⟩ | exact if_neg (by omega)
       rw [e2] at ls
       rw [if_neg (by omega)] at ls
       rw [hR, ls] at h
       exact FA_eq h rfl (by first | rfl | (simp only [tkS_S]; done)) rfl)
    | (have e1 : sgK (A0 8) (F0 7 2) t = (nxT (A0 8) (F0 7 2) t) := by unfold sgK; first | exact if_pos (by assumption) | exact if_neg (by assumption)
       have ls := lin_s (T := A0 8) (n := F0 7 2) (l := l) (w := w) (t := t) (f := f) (by omega)
       rw [e1] at ls
       have e2 : lnE w (f (122 + l * 3 + 0)) (nxT (A0 8) (F0 7 2) t) = (-12) := by
         unfold lnE
         first | rw [if_pos (show w < 2 by omega)] | rw [if_neg (show ¬ w < 2 by omega)]
         first | exact if_pos ⟨by omega, by omega, by omega, by omega⟩ | exact if_neg (by omega)
       rw [e2] at ls
       rw [if_neg (by omega)] at ls
       rw [hR, ls] at h
       exact FA_eq h rfl (by first | rfl | (simp only [tkS_S]; done)) rfl)
    | (have e1 : sgK (A0 8) (F0 7 2) t = (nxT (A0 8) (F0 7 2) t) := by unfold sgK; first | exact if_pos (by assumption) | exact if_neg (by assumption)
       have ls := lin_s (T := A0 8) (n := F0 7 2) (l := l) (w := w) (t := t) (f := f) (by omega)
       rw [e1] at ls
       have e2 : lnE w (f (122 + l * 3 + 0)) (nxT (A0 8) (F0 7 2) t) = inE 0 5 (nxT (A0 8) (F0 7 2) t) := by
         unfold lnE
         first | rw [if_pos (show w < 2 by omega)] | rw [if_neg (show ¬ w < 2 by omega)]
         first | exact if_pos ⟨by omega, by omega, by omega, by omega⟩ | exact if_neg (by omega)
       rw [e2] at ls
       rw [if_neg (by omega)] at ls
       rw [hR, ls] at h
       exact FA_eq h rfl (by first | rfl | (simp only [tkS_S]; done)) rfl)
    | (have e1 : sgK (A0 8) (F0 7 2) t = (nxT (A0 8) (F0 7 2) t) := by unfold sgK; first | exact if_pos (by assumption) | exact if_neg (by assumption)
       have ls := lin_s (T := A0 8) (n := F0 7 2) (l := l) (w := w) (t := t) (f := f) (by omega)
       rw [e1] at ls
       have e2 : lnE w (f (122 + l * 3 + 0)) (nxT (A0 8) (F0 7 2) t) = inE 0 200 (nxT (A0 8) (F0 7 2) t) := by
         unfold lnE
         first | rw [if_pos (show w < 2 by omega)] | rw [if_neg (show ¬ w < 2 by omega)]
         first | exact if_pos ⟨by omega, by omega, by omega, by omega⟩ | exact if_neg (by omega)
       rw [e2] at ls
       rw [if_neg (by omega)] at ls
       rw [hR, ls] at h
       exact FA_eq h rfl (by first | rfl | (simp only [tkS_S]; done)) rfl)
set_option maxRecDepth 20000 in
theorem qvX7_readLine_7_3  (F0 : FF) (A0 : AA) (K : KK) (h : (((0 ≤ (F0 7 2) ∧ (F0 7 2) ≤ 800) ∧ tkOK ((F0 7 2)) (tkF F0)) ∧ ctOK (A0 4)) ∧ (K (some (some (vI ((rdL (A0 8) ((F0 7 2)) (tkF F0) (A0 4)).1)))) (tkS F0 ((rdL (A0 8) ((F0 7 2)) (tkF F0) (A0 4)).2.1)) (r4 A0 ((rdL (A0 8) ((F0 7 2)) (tkF F0) (A0 4)).2.2)))) : am_body qxX7_readLine qnX7_readLine_7_3 55 (qiX7_readLine_7_3  F0 A0) quX7_readLine_7_3 [vR 7, vR 3] 6 F0 A0 K := by
  refine ⟨qvX7_readLine_7_3_0  F0 A0 K h, fun pc ls st F A u hI => ?_⟩
  unfold qiX7_readLine_7_3 at hI
  replace hI := am_cond2 hI
  rcases hI with ⟨hb, hI⟩ | hI
  · have hb := am_bq hb
    subst hb
    split at hI
    · rename_i s0 s1 z l w
      obtain ⟨e0, e1, hI⟩ := hI
      subst e0
      subst e1
      exact qvX7_readLine_7_3_44  _ _ K h _ _ _ _ _ hI
    · exact hI.elim
  exact hI.elim
theorem qtX7_readLine (l : Launch) : am_CT l layX qeX7_readLine := am_met0 rfl (by decide +kernel) rfl rfl rfl rfl rfl (fun _ => rfl) rfl (qzX7_readLine l) (fun k e1 h => (qyX7_readLine l k e1 h).2) (fun as F A K h => by
  replace h : qsX7_readLine as F A K := h
  unfold qsX7_readLine at h
  split at h
  · rename_i o p
    refine ⟨by first | exact Nat.le_of_ble_eq_true rfl | simp [am_fl, am_cat], ?_⟩
    replace h := am_cond2 h
    rcases h with ⟨hb, h⟩ | h
    · simp only [Bool.and_eq_true] at hb
      obtain ⟨hb0, hb1⟩ := hb
      have hb0 := am_bq hb0
      subst hb0
      have hb1 := am_bq hb1
      subst hb1
      exact am_way_body (qvX7_readLine_7_3  F A K h)
    exact h.elim
  · exact h.elim)
