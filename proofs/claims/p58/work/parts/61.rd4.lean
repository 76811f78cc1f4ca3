def qkX7_readCurve : Nat → Option CI := fun pc => cond (Nat.ble 134 pc) none (cond (Nat.ble 65 pc) (cond (Nat.ble 99 pc) (cond (Nat.ble 114 pc) (cond (Nat.ble 122 pc) (cond (Nat.ble 128 pc) (cond (Nat.beq pc 128) (some (.goto (-84), 131, [44])) (cond (Nat.beq pc 131) (some (.bipush (-14), 133, [])) (cond (Nat.beq pc 133) (some (.ireturn, 134, [])) (none)))) (cond (Nat.beq pc 122) (some (.invokevirtual 36, 125, [])) (cond (Nat.beq pc 125) (some (.iinc 4 1, 128, [])) (none)))) (cond (Nat.ble 117 pc) (cond (Nat.beq pc 117) (some (.iadd, 118, [])) (cond (Nat.beq pc 118) (some (.invokevirtual 84, 121, [])) (cond (Nat.beq pc 121) (some (.aload_n 0, 122, [])) (none)))) (cond (Nat.beq pc 114) (some (.iload 5, 116, [])) (cond (Nat.beq pc 116) (some (.iconst 1, 117, [])) (none))))) (cond (Nat.ble 105 pc) (cond (Nat.ble 109 pc) (cond (Nat.beq pc 109) (some (.invokevirtual 80, 112, [])) (cond (Nat.beq pc 112) (some (.aload_n 1, 113, [])) (cond (Nat.beq pc 113) (some (.iload_n 3, 114, [])) (none)))) (cond (Nat.beq pc 105) (some (.aload_n 0, 106, [])) (cond (Nat.beq pc 106) (some (.getfield 69, 109, [])) (none)))) (cond (Nat.ble 101 pc) (cond (Nat.beq pc 101) (some (.iload 5, 103, [])) (cond (Nat.beq pc 103) (some (.iload 6, 105, [])) (none))) (cond (Nat.beq pc 99) (some (.aload_n 1, 100, [])) (cond (Nat.beq pc 100) (some (.iload_n 3, 101, [])) (none)))))) (cond (Nat.ble 83 pc) (cond (Nat.ble 92 pc) (cond (Nat.ble 94 pc) (cond (Nat.beq pc 94) (some (.ifCond .eq 5, 97, [99])) (cond (Nat.beq pc 97) (some (.iload_n 2, 98, [])) (cond (Nat.beq pc 98) (some (.ireturn, 99, [])) (none)))) (cond (Nat.beq pc 92) (some (.istore_n 2, 93, [])) (cond (Nat.beq pc 93) (some (.iload_n 2, 94, [])) (none)))) (cond (Nat.ble 85 pc) (cond (Nat.beq pc 85) (some (.iload 5, 87, [])) (cond (Nat.beq pc 87) (some (.iload 6, 89, [])) (cond (Nat.beq pc 89) (some (.invokevirtual 76, 92, [])) (none)))) (cond (Nat.beq pc 83) (some (.ireturn, 84, [])) (cond (Nat.beq pc 84) (some (.aload_n 0, 85, [])) (none))))) (cond (Nat.ble 74 pc) (cond (Nat.ble 78 pc) (cond (Nat.beq pc 78) (some (.iconst 2, 79, [])) (cond (Nat.beq pc 79) (some (.if_icmp .ne 5, 82, [84])) (cond (Nat.beq pc 82) (some (.iconst 0, 83, [])) (none)))) (cond (Nat.beq pc 74) (some (.aload_n 0, 75, [])) (cond (Nat.beq pc 75) (some (.getfield 39, 78, [])) (none)))) (cond (Nat.ble 70 pc) (cond (Nat.beq pc 70) (some (.iconst 2, 71, [])) (cond (Nat.beq pc 71) (some (.if_icmp .lt 13, 74, [84])) (none))) (cond (Nat.beq pc 65) (some (.ifCond .ne 19, 68, [84])) (cond (Nat.beq pc 68) (some (.iload 5, 70, [])) (none))))))) (cond (Nat.ble 30 pc) (cond (Nat.ble 48 pc) (cond (Nat.ble 57 pc) (cond (Nat.ble 60 pc) (cond (Nat.beq pc 60) (some (.irem, 61, [])) (cond (Nat.beq pc 61) (some (.istore 6, 63, [])) (cond (Nat.beq pc 63) (some (.iload 6, 65, [])) (none)))) (cond (Nat.beq pc 57) (some (.iload 4, 59, [])) (cond (Nat.beq pc 59) (some (.iconst 3, 60, [])) (none)))) (cond (Nat.ble 53 pc) (cond (Nat.beq pc 53) (some (.iconst 3, 54, [])) (cond (Nat.beq pc 54) (some (.idiv, 55, [])) (cond (Nat.beq pc 55) (some (.istore 5, 57, [])) (none)))) (cond (Nat.beq pc 48) (some (.if_icmp .gt 83, 51, [131])) (cond (Nat.beq pc 51) (some (.iload 4, 53, [])) (none))))) (cond (Nat.ble 38 pc) (cond (Nat.ble 42 pc) (cond (Nat.beq pc 42) (some (.istore 4, 44, [])) (cond (Nat.beq pc 44) (some (.iload 4, 46, [])) (cond (Nat.beq pc 46) (some (.bipush 12, 48, [])) (none)))) (cond (Nat.beq pc 38) (some (.invokevirtual 36, 41, [])) (cond (Nat.beq pc 41) (some (.iconst 0, 42, [])) (none)))) (cond (Nat.ble 36 pc) (cond (Nat.beq pc 36) (some (.istore_n 3, 37, [])) (cond (Nat.beq pc 37) (some (.aload_n 0, 38, [])) (none))) (cond (Nat.beq pc 30) (some (.getfield 69, 33, [])) (cond (Nat.beq pc 33) (some (.invokevirtual 72, 36, [])) (none)))))) (cond (Nat.ble 17 pc) (cond (Nat.ble 23 pc) (cond (Nat.ble 27 pc) (cond (Nat.beq pc 27) (some (.ireturn, 28, [])) (cond (Nat.beq pc 28) (some (.aload_n 1, 29, [])) (cond (Nat.beq pc 29) (some (.aload_n 0, 30, [])) (none)))) (cond (Nat.beq pc 23) (some (.ifCond .eq 5, 26, [28])) (cond (Nat.beq pc 26) (some (.iload_n 2, 27, [])) (none)))) (cond (Nat.ble 21 pc) (cond (Nat.beq pc 21) (some (.istore_n 2, 22, [])) (cond (Nat.beq pc 22) (some (.iload_n 2, 23, [])) (none))) (cond (Nat.beq pc 17) (some (.aload_n 1, 18, [])) (cond (Nat.beq pc 18) (some (.invokevirtual 66, 21, [])) (none))))) (cond (Nat.ble 9 pc) (cond (Nat.ble 12 pc) (cond (Nat.beq pc 12) (some (.aload_n 0, 13, [])) (cond (Nat.beq pc 13) (some (.invokevirtual 36, 16, [])) (cond (Nat.beq pc 16) (some (.aload_n 0, 17, [])) (none)))) (cond (Nat.beq pc 9) (some (.bipush (-14), 11, [])) (cond (Nat.beq pc 11) (some (.ireturn, 12, [])) (none)))) (cond (Nat.ble 4 pc) (cond (Nat.beq pc 4) (some (.bipush 8, 6, [])) (cond (Nat.beq pc 6) (some (.if_icmp .lt 6, 9, [12])) (none))) (cond (Nat.beq pc 0) (some (.aload_n 1, 1, [])) (cond (Nat.beq pc 1) (some (.invokevirtual 62, 4, [])) (none))))))))
theorem qkX7_readCurve_ok : ∀ pc i nx ts, qkX7_readCurve pc = some (i, nx, ts) → am_cok cX7_readCurve pc (i, nx, ts) = true := fun pc i nx ts h => am_tok_ok (n := 134) (by decide +kernel) (fun pc h => by show cond (Nat.ble 134 pc) _ _ = _; rw [Nat.ble_eq_true_of_le h]; rfl) h
def qaX7_readCurve : Nat → Option CE := fun k => cond (Nat.beq k 62) (some qeX2_curves) (cond (Nat.beq k 36) (some qeX7_advance) (cond (Nat.beq k 66) (some qeX7_checkName) (cond (Nat.beq k 72) (some qeX2_addCurve) (cond (Nat.beq k 76) (some qeX7_checkPointNumber) (cond (Nat.beq k 80) (some qeX2_putPointNumber) (cond (Nat.beq k 84) (some qeX2_putSize) (none)))))))
theorem qyX7_readCurve (l : Launch) : ∀ k e1, qaX7_readCurve k = some e1 → am_cal l layX RX7 7 k e1 ∧ ceT e1 = 0 := q_cons ⟨am_calV (ci := 2) (qtX2_curves l) qbX2_curves (by decide) rfl (am_tb_at 655 (by decide +kernel) rfl), rfl⟩ (q_cons ⟨am_calV (ci := 7) (qtX7_advance l) qbX7_advance (by decide) rfl (am_tb_at 616 (by decide +kernel) rfl), rfl⟩ (q_cons ⟨am_calV (ci := 7) (qtX7_checkName l) qbX7_checkName (by decide) rfl (am_tb_at 663 (by decide +kernel) rfl), rfl⟩ (q_cons ⟨am_calV (ci := 2) (qtX2_addCurve l) qbX2_addCurve (by decide) rfl (am_tb_at 691 (by decide +kernel) rfl), rfl⟩ (q_cons ⟨am_calV (ci := 7) (qtX7_checkPointNumber l) qbX7_checkPointNumber (by decide) rfl (am_tb_at 695 (by decide +kernel) rfl), rfl⟩ (q_cons ⟨am_calV (ci := 2) (qtX2_putPointNumber l) qbX2_putPointNumber (by decide) rfl (am_tb_at 706 (by decide +kernel) rfl), rfl⟩ (q_cons ⟨am_calV (ci := 2) (qtX2_putSize l) qbX2_putSize (by decide) rfl (am_tb_at 713 (by decide +kernel) rfl), rfl⟩ (q_nil)))))))
def qxX7_readCurve : CX := (qkX7_readCurve, layX, qfX7, qaX7_readCurve, qcX7, qlX7, qmX7, (some .int), false, none, 0, none, fun _ => none)
theorem qzX7_readCurve (l : Launch) : am_sta l qxX7_readCurve RX7 7 cX7_readCurve := ⟨qkX7_readCurve_ok, layX_ok, qfX7_ok, qcX7_ok, qlX7_ok, am_mthP qmX7_ok (by decide), fun k e1 h => (qyX7_readCurve l k e1 h).1⟩
def qsX7_readCurve : SP := fun as F A K => match as with
  | [.inr (.inr o), .inr (.inr p)] => cond (Nat.beq o 7 && Nat.beq p 3) ((((0 ≤ (F 7 2) ∧ (F 7 2) ≤ 800) ∧ tkOK ((F 7 2)) (tkF F)) ∧ ctOK (A 4)) ∧ (K (some (some (vI ((rdC (A 8) ((F 7 2)) (tkF F) (A 4)).1)))) (tkS F ((rdC (A 8) ((F 7 2)) (tkF F) (A 4)).2.1)) (r4 A ((rdC (A 8) ((F 7 2)) (tkF F) (A 4)).2.2)))) (False)
  | _ => False
def qeX7_readCurve : CE := (yX7_readCurve, cX7_readCurve, 7, (some .int), 1, some 7, 0, none, 0, 7, qsX7_readCurve)
theorem qbX7_readCurve : am_mb qeX7_readCurve := ⟨am_tb_at 654 (by decide +kernel) rfl, am_tb_at 38 (by decide +kernel) rfl, ⟨by decide, by decide, by decide +kernel⟩, by decide, am_tb_at 653 (by decide +kernel) rfl, am_tb_at 7 (by decide +kernel) rfl, _, _, rfl⟩
def qnX7_readCurve_7_3 : CUT := fun pc => cond (Nat.beq pc 44) (some [true, true, true, true, true, false, false]) (none)
def qiX7_readCurve_7_3  (F0 : FF) (A0 : AA) : REC := fun pc ls st F A u => cond (Nat.beq pc 44) (match ls, st, u with
    | [some (.inr (.inr s0)), some (.inr (.inr s1)), some (.inl z), some (.inl c), some (.inl i), none, none], [], 0 => s0 = 7 ∧ s1 = 3 ∧ (∃ (tt : TK) (ff : Int → Int), F = tkS F0 tt ∧ A = r4 A0 ff ∧ (0 ≤ c ∧ c < 8) ∧ (0 ≤ i ∧ i ≤ 13) ∧ tkOK (F0 7 2) tt ∧ ctOK ff ∧ (rdC (A0 8) (F0 7 2) (tkF F0) (A0 4)) = crv (A0 8) (F0 7 2) c (Int.toNat (13 - i)) i tt ff)
    | _, _, _ => False) (False)
def quX7_readCurve_7_3 : Nat → LVs → List AV → FF → AA → Nat := fun pc ls _ F A => cond (Nat.beq pc 44) (match ls with
    | [some (.inr (.inr s0)), some (.inr (.inr s1)), some (.inl z), some (.inl c), some (.inl i), none, none] => Int.toNat (20 - i)
    | _ => 0) (0)
set_option maxRecDepth 20000 in
theorem qvX7_readCurve_7_3_0  (F0 : FF) (A0 : AA) (K : KK) (h : (((0 ≤ (F0 7 2) ∧ (F0 7 2) ≤ 800) ∧ tkOK ((F0 7 2)) (tkF F0)) ∧ ctOK (A0 4)) ∧ (K (some (some (vI ((rdC (A0 8) ((F0 7 2)) (tkF F0) (A0 4)).1)))) (tkS F0 ((rdC (A0 8) ((F0 7 2)) (tkF F0) (A0 4)).2.1)) (r4 A0 ((rdC (A0 8) ((F0 7 2)) (tkF F0) (A0 4)).2.2)))) : am_stp qxX7_readCurve (am_run qxX7_readCurve qnX7_readCurve_7_3 (qiX7_readCurve_7_3  F0 A0) K 47) K 0 (am_ent [vR 7, vR 3] 7) [] F0 A0 0 := by
  show am_stp qxX7_readCurve (am_run qxX7_readCurve qnX7_readCurve_7_3 (qiX7_readCurve_7_3  F0 A0) K 47) K 0 [some (vR 7), some (vR 3), none, none, none, none, none] [] F0 A0 0
  obtain ⟨hp, h⟩ := h
  obtain ⟨⟨pn, k0⟩, pc⟩ := hp
  have pc1 := pc.1
  have pc2 := pc.2
  have k1 := nxT_ok (T := A0 8) k0
  have k2 := nxT_ok (T := A0 8) k1
  have b0 := k0.2.1
  have b1 := k1.2.1
  have w1 := k1.2.2.2.2.2
  have v1 := k1.2.2.1
  have bf2 : (tkF F0).2.1 = F0 7 4 := rfl
  have bf1 : (tkF F0).1 = F0 7 3 := rfl
  have z0 := k0.1
  have z1 := k1.1
  have nb := nmE_b (A0 4) (nxT (A0 8) (F0 7 2) (tkF F0))
  show (w32 (fat (A0 4) 0) < w32 8 → (((0 ≤ (F0 7 2) ∧ (F0 7 2) ≤ 800) ∧ 0 ≤ (F0 7 4) ∧ (F0 7 4) ≤ (F0 7 2)) ∧ ((ctOK (A0 4) ∧ (-2147483648 ≤ ((nxT (A0 8) ((F0 7 2)) (tkF F0)).2.2.2) ∧ ((nxT (A0 8) ((F0 7 2)) (tkF F0)).2.2.2) < 2147483648) ∧ (-2147483648 ≤ ((nxT (A0 8) ((F0 7 2)) (tkF F0)).2.2.1) ∧ ((nxT (A0 8) ((F0 7 2)) (tkF F0)).2.2.1) < 2147483648)) ∧ ((w32 (nmE (A0 4) ((nxT (A0 8) ((F0 7 2)) (tkF F0)))) = w32 0 → (((0 ≤ (F0 7 2) ∧ (F0 7 2) ≤ 800) ∧ 0 ≤ ((nxT (A0 8) ((F0 7 2)) (tkF F0)).2.1) ∧ ((nxT (A0 8) ((F0 7 2)) (tkF F0)).2.1) ≤ (F0 7 2)) ∧ (7 = 7 ∧ 3 = 3 ∧ (∃ (tt : TK) (ff : Int → Int), (tkS (tkS F0 (nxT (A0 8) ((F0 7 2)) (tkF F0))) (nxT ((fput (fput A0 4 (4 + fat (A0 4) 0) ((nxT (A0 8) ((F0 7 2)) (tkF F0)).2.2.2)) 4 0 (fat (A0 4) 0 + 1)) 8) ((F0 7 2)) ((nxT (A0 8) ((F0 7 2)) (tkF F0))))) = tkS F0 tt ∧ (fput (fput A0 4 (4 + fat (A0 4) 0) ((nxT (A0 8) ((F0 7 2)) (tkF F0)).2.2.2)) 4 0 (fat (A0 4) 0 + 1)) = r4 A0 ff ∧ (0 ≤ (fat (A0 4) 0) ∧ (fat (A0 4) 0) < 8) ∧ (0 ≤ 0 ∧ 0 ≤ 13) ∧ tkOK (F0 7 2) tt ∧ ctOK ff ∧ (rdC (A0 8) (F0 7 2) (tkF F0) (A0 4)) = crv (A0 8) (F0 7 2) (fat (A0 4) 0) (Int.toNat (13 - 0)) 0 tt ff)))) ∧ (¬ w32 (nmE (A0 4) ((nxT (A0 8) ((F0 7 2)) (tkF F0)))) = w32 0 → (K (some (some (vI (nmE (A0 4) ((nxT (A0 8) ((F0 7 2)) (tkF F0))))))) (tkS F0 (nxT (A0 8) ((F0 7 2)) (tkF F0))) A0)))))) ∧ (¬ w32 (fat (A0 4) 0) < w32 8 → (K (some (some (vI (-14)))) F0 A0))
  refine ⟨fun c1 => ?_, fun c1 => ?_⟩
  · skip
    (try simp (disch := omega) only [fat_in, w32_0, wbi0, Classical.not_not, w32_id] at c1)
    refine ⟨by first | omega | exact ⟨pc, w1, by omega⟩ | exact ⟨pc, by omega, by omega⟩, ?_⟩
    refine ⟨by first | omega | exact ⟨pc, w1, by omega⟩ | exact ⟨pc, by omega, by omega⟩, ?_⟩
    refine ⟨fun c2 => ?_, fun c2 => ?_⟩
    · skip
      (try simp (disch := omega) only [fat_in, w32_0, wbi0, Classical.not_not, w32_id] at c2)
      refine ⟨by first | omega | exact ⟨pc, w1, by omega⟩ | exact ⟨pc, by omega, by omega⟩, ?_⟩
      refine ⟨rfl, rfl, ?_⟩
      rw [fat_in (i := 0) (by omega) (by omega)]
      refine ⟨(nxT (A0 8) (F0 7 2) (nxT (A0 8) (F0 7 2) (tkF F0))), up1 (up1 (A0 4) (4 + A0 4 0) (nxT (A0 8) (F0 7 2) (tkF F0)).2.2.2) 0 (A0 4 0 + 1), (by first | (simp only [tkS_up, tkS_S]; done) | (rw [fput_r (show (8 : Nat) ≠ 4 by decide), fput_r (show (8 : Nat) ≠ 4 by decide)]; simp only [tkS_up, tkS_S]; done) | (rw [fput_r (show (8 : Nat) ≠ 4 by decide), fput_r (show (8 : Nat) ≠ 4 by decide)]; done) | rfl | exact tkS_F.symm | exact tkS_F), ?_, by omega, by omega, k2, ?_, ?_⟩
      · have z := add2_r4 (A := A0) (s := 4) (i := 0) (v := (nxT (A0 8) (F0 7 2) (tkF F0)).2.2.2) (by omega) (by omega) (by omega) (by omega)
        rw [fat_in (i := 0) (by omega) (by omega)] at z
        exact z
      · unfold ctOK; rw [up1_s, up1_o (by omega), up1_o (by omega)]; omega
      · unfold rdC; rw [if_pos (by omega), if_pos (by omega)]; rfl
    · skip
      (try simp (disch := omega) only [fat_in, w32_0, wbi0, Classical.not_not, w32_id] at c2)
      unfold rdC at h
      first
      | (rw [if_neg (by omega)] at h; exact FA_eq h rfl (by first | (simp only [tkS_up, tkS_S]; done) | (rw [fput_r (show (8 : Nat) ≠ 4 by decide), fput_r (show (8 : Nat) ≠ 4 by decide)]; simp only [tkS_up, tkS_S]; done) | (rw [fput_r (show (8 : Nat) ≠ 4 by decide), fput_r (show (8 : Nat) ≠ 4 by decide)]; done) | rfl | exact tkS_F.symm | exact tkS_F) r4_A)
      | (rw [if_pos (by omega), if_neg (by omega)] at h; exact FA_eq h rfl (by first | (simp only [tkS_up, tkS_S]; done) | (rw [fput_r (show (8 : Nat) ≠ 4 by decide), fput_r (show (8 : Nat) ≠ 4 by decide)]; simp only [tkS_up, tkS_S]; done) | (rw [fput_r (show (8 : Nat) ≠ 4 by decide), fput_r (show (8 : Nat) ≠ 4 by decide)]; done) | rfl | exact tkS_F.symm | exact tkS_F) r4_A)
  · skip
    (try simp (disch := omega) only [fat_in, w32_0, wbi0, Classical.not_not, w32_id] at c1)
    unfold rdC at h
    first
    | (rw [if_neg (by omega)] at h; exact FA_eq h rfl (by first | (simp only [tkS_up, tkS_S]; done) | (rw [fput_r (show (8 : Nat) ≠ 4 by decide), fput_r (show (8 : Nat) ≠ 4 by decide)]; simp only [tkS_up, tkS_S]; done) | (rw [fput_r (show (8 : Nat) ≠ 4 by decide), fput_r (show (8 : Nat) ≠ 4 by decide)]; done) | rfl | exact tkS_F.symm | exact tkS_F) r4_A)
    | (rw [if_pos (by omega), if_neg (by omega)] at h; exact FA_eq h rfl (by first | (simp only [tkS_up, tkS_S]; done) | (rw [fput_r (show (8 : Nat) ≠ 4 by decide), fput_r (show (8 : Nat) ≠ 4 by decide)]; simp only [tkS_up, tkS_S]; done) | (rw [fput_r (show (8 : Nat) ≠ 4 by decide), fput_r (show (8 : Nat) ≠ 4 by decide)]; done) | rfl | exact tkS_F.symm | exact tkS_F) r4_A)
set_option maxRecDepth 20000 in
theorem qvX7_readCurve_7_3_44  (F0 : FF) (A0 : AA) (K : KK) (h : (((0 ≤ (F0 7 2) ∧ (F0 7 2) ≤ 800) ∧ tkOK ((F0 7 2)) (tkF F0)) ∧ ctOK (A0 4)) ∧ (K (some (some (vI ((rdC (A0 8) ((F0 7 2)) (tkF F0) (A0 4)).1)))) (tkS F0 ((rdC (A0 8) ((F0 7 2)) (tkF F0) (A0 4)).2.1)) (r4 A0 ((rdC (A0 8) ((F0 7 2)) (tkF F0) (A0 4)).2.2)))) (z : Int) (c : Int) (i : Int) (F : FF) (A : AA) (hi : ∃ (tt : TK) (ff : Int → Int), F = tkS F0 tt ∧ A = r4 A0 ff ∧ (0 ≤ c ∧ c < 8) ∧ (0 ≤ i ∧ i ≤ 13) ∧ tkOK (F0 7 2) tt ∧ ctOK ff ∧ (rdC (A0 8) (F0 7 2) (tkF F0) (A0 4)) = crv (A0 8) (F0 7 2) c (Int.toNat (13 - i)) i tt ff) : am_stp qxX7_readCurve (am_run qxX7_readCurve qnX7_readCurve_7_3 (fun pc ls st F9 A9 u => qiX7_readCurve_7_3  F0 A0 pc ls st F9 A9 u ∧ quX7_readCurve_7_3 pc ls st F9 A9 < quX7_readCurve_7_3 44 [some (vR 7), some (vR 3), some (vI z), some (vI c), some (vI i), none, none] [] F A) K 47) K 44 [some (vR 7), some (vR 3), some (vI z), some (vI c), some (vI i), none, none] [] F A 0 := by
  obtain ⟨hp, h⟩ := h
  obtain ⟨⟨pn, k0⟩, pc⟩ := hp
  obtain ⟨t, f, rfl, rfl, h1, h2, kt, kc, hR⟩ := hi
  have kn := nxT_ok (T := A0 8) kt
  have b0 := kt.2.1
  have w0 := kt.2.2.2.2.2
  have v0 := kt.2.2.1
  have z0 := kt.1
  have kc1 := kc.1
  have kc2 := kc.2
  have pb := ptE_b (i / 3) (i % 3) t
  have xd : x_div i 3 = i / 3 := x_div_eq (by omega) (by omega) (by omega) (by omega)
  have xr : x_rem i 3 = i % 3 := x_rem_eq (by omega) (by omega) (by omega) (by omega)
  show (w32 12 < w32 i → (K (some (some (vI (-14)))) (tkS F0 t) (r4 A0 f))) ∧ (¬ w32 12 < w32 i → ((w32 3 ≠ 0) ∧ ((w32 3 ≠ 0) ∧ ((w32 (x_rem i 3) = w32 0 → ((w32 (x_div i 3) < w32 2 → (((0 ≤ (x_div i 3) ∧ (x_div i 3) ≤ 4) ∧ (0 ≤ (x_rem i 3) ∧ (x_rem i 3) ≤ 2) ∧ (-2147483648 ≤ t.2.2.2 ∧ t.2.2.2 < 2147483648) ∧ (-2147483648 ≤ t.2.2.1 ∧ t.2.2.1 < 2147483648)) ∧ ((w32 (ptE (x_div i 3) (x_rem i 3) (t)) = w32 0 → (((0 ≤ (F0 7 2) ∧ (F0 7 2) ≤ 800) ∧ 0 ≤ t.2.1 ∧ t.2.1 ≤ (F0 7 2)) ∧ ((7 = 7 ∧ 3 = 3 ∧ (∃ (tt : TK) (ff : Int → Int), (tkS (tkS F0 t) (nxT ((fput (fput (r4 A0 f) 4 (26 + (c * 4 + (x_div i 3)) * 3 + (x_rem i 3)) t.2.2.2) 4 (18 + c) ((x_div i 3) + 1)) 8) ((F0 7 2)) (t))) = tkS F0 tt ∧ (fput (fput (r4 A0 f) 4 (26 + (c * 4 + (x_div i 3)) * 3 + (x_rem i 3)) t.2.2.2) 4 (18 + c) ((x_div i 3) + 1)) = r4 A0 ff ∧ (0 ≤ c ∧ c < 8) ∧ (0 ≤ (i + 1) ∧ (i + 1) ≤ 13) ∧ tkOK (F0 7 2) tt ∧ ctOK ff ∧ (rdC (A0 8) (F0 7 2) (tkF F0) (A0 4)) = crv (A0 8) (F0 7 2) c (Int.toNat (13 - (i + 1))) (i + 1) tt ff)) ∧ (Int.toNat (20 - (i + 1))) < (Int.toNat (20 - i))))) ∧ (¬ w32 (ptE (x_div i 3) (x_rem i 3) (t)) = w32 0 → (K (some (some (vI (ptE (x_div i 3) (x_rem i 3) (t))))) (tkS F0 t) (r4 A0 f)))))) ∧ (¬ w32 (x_div i 3) < w32 2 → ((w32 t.2.2.1 = w32 2 → (K (some (some (vI 0))) (tkS F0 t) (r4 A0 f))) ∧ (¬ w32 t.2.2.1 = w32 2 → (((0 ≤ (x_div i 3) ∧ (x_div i 3) ≤ 4) ∧ (0 ≤ (x_rem i 3) ∧ (x_rem i 3) ≤ 2) ∧ (-2147483648 ≤ t.2.2.2 ∧ t.2.2.2 < 2147483648) ∧ (-2147483648 ≤ t.2.2.1 ∧ t.2.2.1 < 2147483648)) ∧ ((w32 (ptE (x_div i 3) (x_rem i 3) (t)) = w32 0 → (((0 ≤ (F0 7 2) ∧ (F0 7 2) ≤ 800) ∧ 0 ≤ t.2.1 ∧ t.2.1 ≤ (F0 7 2)) ∧ ((7 = 7 ∧ 3 = 3 ∧ (∃ (tt : TK) (ff : Int → Int), (tkS (tkS F0 t) (nxT ((fput (fput (r4 A0 f) 4 (26 + (c * 4 + (x_div i 3)) * 3 + (x_rem i 3)) t.2.2.2) 4 (18 + c) ((x_div i 3) + 1)) 8) ((F0 7 2)) (t))) = tkS F0 tt ∧ (fput (fput (r4 A0 f) 4 (26 + (c * 4 + (x_div i 3)) * 3 + (x_rem i 3)) t.2.2.2) 4 (18 + c) ((x_div i 3) + 1)) = r4 A0 ff ∧ (0 ≤ c ∧ c < 8) ∧ (0 ≤ (i + 1) ∧ (i + 1) ≤ 13) ∧ tkOK (F0 7 2) tt ∧ ctOK ff ∧ (rdC (A0 8) (F0 7 2) (tkF F0) (A0 4)) = crv (A0 8) (F0 7 2) c (Int.toNat (13 - (i + 1))) (i + 1) tt ff)) ∧ (Int.toNat (20 - (i + 1))) < (Int.toNat (20 - i))))) ∧ (¬ w32 (ptE (x_div i 3) (x_rem i 3) (t)) = w32 0 → (K (some (some (vI (ptE (x_div i 3) (x_rem i 3) (t))))) (tkS F0 t) (r4 A0 f)))))))))) ∧ (¬ w32 (x_rem i 3) = w32 0 → (((0 ≤ (x_div i 3) ∧ (x_div i 3) ≤ 4) ∧ (0 ≤ (x_rem i 3) ∧ (x_rem i 3) ≤ 2) ∧ (-2147483648 ≤ t.2.2.2 ∧ t.2.2.2 < 2147483648) ∧ (-2147483648 ≤ t.2.2.1 ∧ t.2.2.1 < 2147483648)) ∧ ((w32 (ptE (x_div i 3) (x_rem i 3) (t)) = w32 0 → (((0 ≤ (F0 7 2) ∧ (F0 7 2) ≤ 800) ∧ 0 ≤ t.2.1 ∧ t.2.1 ≤ (F0 7 2)) ∧ ((7 = 7 ∧ 3 = 3 ∧ (∃ (tt : TK) (ff : Int → Int), (tkS (tkS F0 t) (nxT ((fput (fput (r4 A0 f) 4 (26 + (c * 4 + (x_div i 3)) * 3 + (x_rem i 3)) t.2.2.2) 4 (18 + c) ((x_div i 3) + 1)) 8) ((F0 7 2)) (t))) = tkS F0 tt ∧ (fput (fput (r4 A0 f) 4 (26 + (c * 4 + (x_div i 3)) * 3 + (x_rem i 3)) t.2.2.2) 4 (18 + c) ((x_div i 3) + 1)) = r4 A0 ff ∧ (0 ≤ c ∧ c < 8) ∧ (0 ≤ (i + 1) ∧ (i + 1) ≤ 13) ∧ tkOK (F0 7 2) tt ∧ ctOK ff ∧ (rdC (A0 8) (F0 7 2) (tkF F0) (A0 4)) = crv (A0 8) (F0 7 2) c (Int.toNat (13 - (i + 1))) (i + 1) tt ff)) ∧ (Int.toNat (20 - (i + 1))) < (Int.toNat (20 - i))))) ∧ (¬ w32 (ptE (x_div i 3) (x_rem i 3) (t)) = w32 0 → (K (some (some (vI (ptE (x_div i 3) (x_rem i 3) (t))))) (tkS F0 t) (r4 A0 f))))))))))
  refine ⟨fun c1 => ?_, fun c1 => ?_⟩
  · skip
    (try simp only [xd, xr] at c1); (try simp (disch := omega) only [fat_in, w32_0, wbi0, Classical.not_not, w32_id] at c1)
    first
    | (exfalso; omega)
    | (rw [hR, crv_0 (by omega)] at h; exact h)
    | (have ls := crv_s (T := A0 8) (n := F0 7 2) (c := c) (i := i) (t := t) (f := f) (by omega)
       rw [if_pos ⟨by omega, by omega, by omega⟩] at ls
       rw [hR, ls] at h
       exact h)
    | (have ls := crv_s (T := A0 8) (n := F0 7 2) (c := c) (i := i) (t := t) (f := f) (by omega)
       rw [if_neg (by omega), if_neg (by omega)] at ls
       rw [hR, ls] at h
       exact h)
  · skip
    (try simp only [xd, xr] at c1); (try simp (disch := omega) only [fat_in, w32_0, wbi0, Classical.not_not, w32_id] at c1)
    rw [xd, xr]
    refine ⟨by first | omega | decide | exact ⟨by omega, by omega, by omega, by omega⟩, ?_⟩
    refine ⟨by first | omega | decide | exact ⟨by omega, by omega, by omega, by omega⟩, ?_⟩
    refine ⟨fun c2 => ?_, fun c2 => ?_⟩
    · skip
      (try simp only [xd, xr] at c2); (try simp (disch := omega) only [fat_in, w32_0, wbi0, Classical.not_not, w32_id] at c2)
      refine ⟨fun c3 => ?_, fun c3 => ?_⟩
      · skip
        (try simp only [xd, xr] at c3); (try simp (disch := omega) only [fat_in, w32_0, wbi0, Classical.not_not, w32_id] at c3)
        refine ⟨by first | omega | decide | exact ⟨by omega, by omega, by omega, by omega⟩, ?_⟩
        refine ⟨fun c4 => ?_, fun c4 => ?_⟩
        · skip
          (try simp only [xd, xr] at c4); (try simp (disch := omega) only [fat_in, w32_0, wbi0, Classical.not_not, w32_id] at c4)
          refine ⟨by first | omega | decide | exact ⟨by omega, by omega, by omega, by omega⟩, ?_⟩
          refine ⟨⟨rfl, rfl, ?_⟩, by omega⟩
          first
          | (exfalso; omega)
          | (have ls := crv_s (T := A0 8) (n := F0 7 2) (c := c) (i := i) (t := t) (f := f) (by omega)
             rw [if_neg (by omega), if_pos (by omega)] at ls
             refine ⟨nxT (A0 8) (F0 7 2) t, up1 (up1 f (26 + (c * 4 + i / 3) * 3 + i % 3) t.2.2.2) (18 + c) (i / 3 + 1), ?_, put2_r4 (by omega) (by omega) (by omega) (by omega), h1, by omega, kn, ?_, by rw [hR, ls]⟩
             · rw [fput_r (show (8 : Nat) ≠ 4 by decide), fput_r (show (8 : Nat) ≠ 4 by decide)]; simp only [tkS_S, r4_8]; done
             · unfold ctOK; rw [up1_o (by omega), up1_o (by omega), up1_o (by omega), up1_o (by omega)]; exact kc)
        · skip
          (try simp only [xd, xr] at c4); (try simp (disch := omega) only [fat_in, w32_0, wbi0, Classical.not_not, w32_id] at c4)
          first
          | (exfalso; omega)
          | (rw [hR, crv_0 (by omega)] at h; exact h)
          | (have ls := crv_s (T := A0 8) (n := F0 7 2) (c := c) (i := i) (t := t) (f := f) (by omega)
             rw [if_pos ⟨by omega, by omega, by omega⟩] at ls
             rw [hR, ls] at h
             exact h)
          | (have ls := crv_s (T := A0 8) (n := F0 7 2) (c := c) (i := i) (t := t) (f := f) (by omega)
             rw [if_neg (by omega), if_neg (by omega)] at ls
             rw [hR, ls] at h
             exact h)
      · skip
        (try simp only [xd, xr] at c3); (try simp (disch := omega) only [fat_in, w32_0, wbi0, Classical.not_not, w32_id] at c3)
        refine ⟨fun c4 => ?_, fun c4 => ?_⟩
        · skip
          (try simp only [xd, xr] at c4); (try simp (disch := omega) only [fat_in, w32_0, wbi0, Classical.not_not, w32_id] at c4)
          first
          | (exfalso; omega)
          | (rw [hR, crv_0 (by omega)] at h; exact h)
          | (have ls := crv_s (T := A0 8) (n := F0 7 2) (c := c) (i := i) (t := t) (f := f) (by omega)
             rw [if_pos ⟨by omega, by omega, by omega⟩] at ls
             rw [hR, ls] at h
             exact h)
          | (have ls := crv_s (T := A0 8) (n := F0 7 2) (c := c) (i := i) (t := t) (f := f) (by omega)
             rw [if_neg (by omega), if_neg (by omega)] at ls
             rw [hR, ls] at h
             exact h)
        · skip
          (try simp only [xd, xr] at c4); (try simp (disch := omega) only [fat_in, w32_0, wbi0, Classical.not_not, w32_id] at c4)
          refine ⟨by first | omega | decide | exact ⟨by omega, by omega, by omega, by omega⟩, ?_⟩
          refine ⟨fun c5 => ?_, fun c5 => ?_⟩
          · skip
            (try simp only [xd, xr] at c5); (try simp (disch := omega) only [fat_in, w32_0, wbi0, Classical.not_not, w32_id] at c5)
            refine ⟨by first | omega | decide | exact ⟨by omega, by omega, by omega, by omega⟩, ?_⟩
            refine ⟨⟨rfl, rfl, ?_⟩, by omega⟩
            first
            | (exfalso; omega)
            | (have ls := crv_s (T := A0 8) (n := F0 7 2) (c := c) (i := i) (t := t) (f := f) (by omega)
               rw [if_neg (by omega), if_pos (by omega)] at ls
               refine ⟨nxT (A0 8) (F0 7 2) t, up1 (up1 f (26 + (c * 4 + i / 3) * 3 + i % 3) t.2.2.2) (18 + c) (i / 3 + 1), ?_, put2_r4 (by omega) (by omega) (by omega) (by omega), h1, by omega, kn, ?_, by rw [hR, ls]⟩
               · rw [fput_r (show (8 : Nat) ≠ 4 by decide), fput_r (show (8 : Nat) ≠ 4 by decide)]; simp only [tkS_S, r4_8]; done
               · unfold ctOK; rw [up1_o (by omega), up1_o (by omega), up1_o (by omega), up1_o (by omega)]; exact kc)
          · skip
            (try simp only [xd, xr] at c5); (try simp (disch := omega) only [fat_in, w32_0, wbi0, Classical.not_not, w32_id] at c5)
            first
            | (exfalso; omega)
            | (rw [hR, crv_0 (by omega)] at h; exact h)
            | (have ls := crv_s (T := A0 8) (n := F0 7 2) (c := c) (i := i) (t := t) (f := f) (by omega)
               rw [if_pos ⟨by omega, by omega, by omega⟩] at ls
               rw [hR, ls] at h
               exact h)
            | (have ls := crv_s (T := A0 8) (n := F0 7 2) (c := c) (i := i) (t := t) (f := f) (by omega)
               rw [if_neg (by omega), if_neg (by omega)] at ls
               rw [hR, ls] at h
               exact h)
    · skip
      (try simp only [xd, xr] at c2); (try simp (disch := omega) only [fat_in, w32_0, wbi0, Classical.not_not, w32_id] at c2)
      refine ⟨by first | omega | decide | exact ⟨by omega, by omega, by omega, by omega⟩, ?_⟩
      refine ⟨fun c3 => ?_, fun c3 => ?_⟩
      · skip
        (try simp only [xd, xr] at c3); (try simp (disch := omega) only [fat_in, w32_0, wbi0, Classical.not_not, w32_id] at c3)
        refine ⟨by first | omega | decide | exact ⟨by omega, by omega, by omega, by omega⟩, ?_⟩
        refine ⟨⟨rfl, rfl, ?_⟩, by omega⟩
        first
        | (exfalso; omega)
        | (have ls := crv_s (T := A0 8) (n := F0 7 2) (c := c) (i := i) (t := t) (f := f) (by omega)
           rw [if_neg (by omega), if_pos (by omega)] at ls
           refine ⟨nxT (A0 8) (F0 7 2) t, up1 (up1 f (26 + (c * 4 + i / 3) * 3 + i % 3) t.2.2.2) (18 + c) (i / 3 + 1), ?_, put2_r4 (by omega) (by omega) (by omega) (by omega), h1, by omega, kn, ?_, by rw [hR, ls]⟩
           · rw [fput_r (show (8 : Nat) ≠ 4 by decide), fput_r (show (8 : Nat) ≠ 4 by decide)]; simp only [tkS_S, r4_8]; done
           · unfold ctOK; rw [up1_o (by omega), up1_o (by omega), up1_o (by omega), up1_o (by omega)]; exact kc)
      · skip
        (try simp only [xd, xr] at c3); (try simp (disch := omega) only [fat_in, w32_0, wbi0, Classical.not_not, w32_id] at c3)
        first
        | (exfalso; omega)
        | (rw [hR, crv_0 (by omega)] at h; exact h)
        | (have ls := crv_s (T := A0 8) (n := F0 7 2) (c := c) (i := i) (t := t) (f := f) (by omega)
           rw [if_pos ⟨by omega, by omega, by omega⟩] at ls
           rw [hR, ls] at h
           exact h)
        | (have ls := crv_s (T := A0 8) (n := F0 7 2) (c := c) (i := i) (t := t) (f := f) (by omega)
           rw [if_neg (by omega), if_neg (by omega)] at ls
           rw [hR, ls] at h
           exact h)
set_option maxRecDepth 20000 in
theorem qvX7_readCurve_7_3  (F0 : FF) (A0 : AA) (K : KK) (h : (((0 ≤ (F0 7 2) ∧ (F0 7 2) ≤ 800) ∧ tkOK ((F0 7 2)) (tkF F0)) ∧ ctOK (A0 4)) ∧ (K (some (some (vI ((rdC (A0 8) ((F0 7 2)) (tkF F0) (A0 4)).1)))) (tkS F0 ((rdC (A0 8) ((F0 7 2)) (tkF F0) (A0 4)).2.1)) (r4 A0 ((rdC (A0 8) ((F0 7 2)) (tkF F0) (A0 4)).2.2)))) : am_body qxX7_readCurve qnX7_readCurve_7_3 47 (qiX7_readCurve_7_3  F0 A0) quX7_readCurve_7_3 [vR 7, vR 3] 7 F0 A0 K := by
  refine ⟨qvX7_readCurve_7_3_0  F0 A0 K h, fun pc ls st F A u hI => ?_⟩
  unfold qiX7_readCurve_7_3 at hI
  replace hI := am_cond2 hI
  rcases hI with ⟨hb, hI⟩ | hI
  · have hb := am_bq hb
    subst hb
    split at hI
    · rename_i s0 s1 z c i
      obtain ⟨e0, e1, hI⟩ := hI
      subst e0
      subst e1
      exact qvX7_readCurve_7_3_44  _ _ K h _ _ _ _ _ hI
    · exact hI.elim
  exact hI.elim
theorem qtX7_readCurve (l : Launch) : am_CT l layX qeX7_readCurve := am_met0 rfl (by decide +kernel) rfl rfl rfl rfl rfl (fun _ => rfl) rfl (qzX7_readCurve l) (fun k e1 h => (qyX7_readCurve l k e1 h).2) (fun as F A K h => by
  replace h : qsX7_readCurve as F A K := h
  unfold qsX7_readCurve at h
  split at h
  · rename_i o p
    refine ⟨by first | exact Nat.le_of_ble_eq_true rfl | simp [am_fl, am_cat], ?_⟩
    replace h := am_cond2 h
    rcases h with ⟨hb, h⟩ | h
    · simp only [Bool.and_eq_true] at hb
      obtain ⟨hb0, hb1⟩ := hb
      have hb0 := am_bq hb0
      subst hb0
      have hb1 := am_bq hb1
      subst hb1
      exact am_way_body (qvX7_readCurve_7_3  F A K h)
    exact h.elim
  · exact h.elim)
