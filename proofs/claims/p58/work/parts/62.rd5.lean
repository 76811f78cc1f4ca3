def qkX7_readStatement : Nat → Option CI := fun pc => cond (Nat.ble 77 pc) none (cond (Nat.ble 40 pc) (cond (Nat.ble 59 pc) (cond (Nat.ble 68 pc) (cond (Nat.ble 72 pc) (cond (Nat.beq pc 72) (some (.invokevirtual 36, 75, [])) (cond (Nat.beq pc 75) (some (.iconst 0, 76, [])) (cond (Nat.beq pc 76) (some (.ireturn, 77, [])) (none)))) (cond (Nat.beq pc 68) (some (.bipush (-11), 70, [])) (cond (Nat.beq pc 70) (some (.ireturn, 71, [])) (cond (Nat.beq pc 71) (some (.aload_n 0, 72, [])) (none))))) (cond (Nat.ble 61 pc) (cond (Nat.beq pc 61) (some (.getfield 39, 64, [])) (cond (Nat.beq pc 64) (some (.iconst 2, 65, [])) (cond (Nat.beq pc 65) (some (.if_icmp .eq 6, 68, [71])) (none)))) (cond (Nat.beq pc 59) (some (.ireturn, 60, [])) (cond (Nat.beq pc 60) (some (.aload_n 0, 61, [])) (none))))) (cond (Nat.ble 50 pc) (cond (Nat.ble 54 pc) (cond (Nat.beq pc 54) (some (.iload_n 2, 55, [])) (cond (Nat.beq pc 55) (some (.ifCond .eq 5, 58, [60])) (cond (Nat.beq pc 58) (some (.iload_n 2, 59, [])) (none)))) (cond (Nat.beq pc 50) (some (.invokevirtual 59, 53, [])) (cond (Nat.beq pc 53) (some (.istore_n 2, 54, [])) (none)))) (cond (Nat.ble 45 pc) (cond (Nat.beq pc 45) (some (.ifCond .eq 9, 48, [54])) (cond (Nat.beq pc 48) (some (.aload_n 0, 49, [])) (cond (Nat.beq pc 49) (some (.aload_n 1, 50, [])) (none)))) (cond (Nat.beq pc 40) (some (.ldc 58, 42, [])) (cond (Nat.beq pc 42) (some (.invokevirtual 47, 45, [])) (none)))))) (cond (Nat.ble 18 pc) (cond (Nat.ble 30 pc) (cond (Nat.ble 35 pc) (cond (Nat.beq pc 35) (some (.istore_n 2, 36, [])) (cond (Nat.beq pc 36) (some (.goto 18, 39, [54])) (cond (Nat.beq pc 39) (some (.aload_n 0, 40, [])) (none)))) (cond (Nat.beq pc 30) (some (.aload_n 0, 31, [])) (cond (Nat.beq pc 31) (some (.aload_n 1, 32, [])) (cond (Nat.beq pc 32) (some (.invokevirtual 55, 35, [])) (none))))) (cond (Nat.ble 22 pc) (cond (Nat.beq pc 22) (some (.ldc 54, 24, [])) (cond (Nat.beq pc 24) (some (.invokevirtual 47, 27, [])) (cond (Nat.beq pc 27) (some (.ifCond .eq 12, 30, [39])) (none)))) (cond (Nat.beq pc 18) (some (.goto 36, 21, [54])) (cond (Nat.beq pc 21) (some (.aload_n 0, 22, [])) (none))))) (cond (Nat.ble 9 pc) (cond (Nat.ble 13 pc) (cond (Nat.beq pc 13) (some (.aload_n 1, 14, [])) (cond (Nat.beq pc 14) (some (.invokevirtual 51, 17, [])) (cond (Nat.beq pc 17) (some (.istore_n 2, 18, [])) (none)))) (cond (Nat.beq pc 9) (some (.ifCond .eq 12, 12, [21])) (cond (Nat.beq pc 12) (some (.aload_n 0, 13, [])) (none)))) (cond (Nat.ble 3 pc) (cond (Nat.beq pc 3) (some (.aload_n 0, 4, [])) (cond (Nat.beq pc 4) (some (.ldc 46, 6, [])) (cond (Nat.beq pc 6) (some (.invokevirtual 47, 9, [])) (none)))) (cond (Nat.beq pc 0) (some (.bipush (-11), 2, [])) (cond (Nat.beq pc 2) (some (.istore_n 2, 3, [])) (none)))))))
theorem qkX7_readStatement_ok : ∀ pc i nx ts, qkX7_readStatement pc = some (i, nx, ts) → am_cok cX7_readStatement pc (i, nx, ts) = true := fun pc i nx ts h => am_tok_ok (n := 77) (by decide +kernel) (fun pc h => by show cond (Nat.ble 77 pc) _ _ = _; rw [Nat.ble_eq_true_of_le h]; rfl) h
def qaX7_readStatement : Nat → Option CE := fun k => cond (Nat.beq k 47) (some qeX7_isWord) (cond (Nat.beq k 51) (some qeX7_readCurve) (cond (Nat.beq k 55) (some qeX7_readLine) (cond (Nat.beq k 59) (some qeX7_readSetting) (cond (Nat.beq k 36) (some qeX7_advance) (none)))))
theorem qyX7_readStatement (l : Launch) : ∀ k e1, qaX7_readStatement k = some e1 → am_cal l layX RX7 8 k e1 ∧ ceT e1 = 0 := q_cons ⟨am_calV (ci := 7) (qtX7_isWord l) qbX7_isWord (by decide) rfl (am_tb_at 647 (by decide +kernel) rfl), rfl⟩ (q_cons ⟨am_calV (ci := 7) (qtX7_readCurve l) qbX7_readCurve (by decide) rfl (am_tb_at 651 (by decide +kernel) rfl), rfl⟩ (q_cons ⟨am_calV (ci := 7) (qtX7_readLine l) qbX7_readLine (by decide) rfl (am_tb_at 717 (by decide +kernel) rfl), rfl⟩ (q_cons ⟨am_calV (ci := 7) (qtX7_readSetting l) qbX7_readSetting (by decide) rfl (am_tb_at 734 (by decide +kernel) rfl), rfl⟩ (q_cons ⟨am_calV (ci := 7) (qtX7_advance l) qbX7_advance (by decide) rfl (am_tb_at 616 (by decide +kernel) rfl), rfl⟩ (q_nil)))))
def qxX7_readStatement : CX := (qkX7_readStatement, layX, qfX7, qaX7_readStatement, qcX7, qlX7, qmX7, (some .int), false, none, 0, none, fun _ => none)
theorem qzX7_readStatement (l : Launch) : am_sta l qxX7_readStatement RX7 8 cX7_readStatement := ⟨qkX7_readStatement_ok, layX_ok, qfX7_ok, qcX7_ok, qlX7_ok, am_mthP qmX7_ok (by decide), fun k e1 h => (qyX7_readStatement l k e1 h).1⟩
def qsX7_readStatement : SP := fun as F A K => match as with
  | [.inr (.inr o), .inr (.inr p)] => cond (Nat.beq o 7 && Nat.beq p 3) ((((0 ≤ (F 7 2) ∧ (F 7 2) ≤ 800) ∧ tkOK ((F 7 2)) (tkF F)) ∧ ctOK (A 4) ∧ 0 ≤ (F 7 7) ∧ (F 7 7) ≤ 3) ∧ (K (some (some (vI ((rdT (A 8) ((F 7 2)) (tkF F) (A 4) ((F 7 7))).1)))) (upF (tkS F ((rdT (A 8) ((F 7 2)) (tkF F) (A 4) ((F 7 7))).2.1)) 7 7 ((rdT (A 8) ((F 7 2)) (tkF F) (A 4) ((F 7 7))).2.2.2)) (r4 A ((rdT (A 8) ((F 7 2)) (tkF F) (A 4) ((F 7 7))).2.2.1)))) (False)
  | _ => False
def qeX7_readStatement : CE := (yX7_readStatement, cX7_readStatement, 3, (some .int), 1, some 7, 0, none, 0, 8, qsX7_readStatement)
theorem qbX7_readStatement : am_mb qeX7_readStatement := ⟨am_tb_at 645 (by decide +kernel) rfl, am_tb_at 38 (by decide +kernel) rfl, ⟨by decide, by decide, by decide +kernel⟩, by decide, am_tb_at 644 (by decide +kernel) rfl, am_tb_at 5 (by decide +kernel) rfl, _, _, rfl⟩
set_option maxRecDepth 20000 in
theorem qvX7_readStatement_7_3  (F : FF) (A : AA) (K : KK) (h : (((0 ≤ (F 7 2) ∧ (F 7 2) ≤ 800) ∧ tkOK ((F 7 2)) (tkF F)) ∧ ctOK (A 4) ∧ 0 ≤ (F 7 7) ∧ (F 7 7) ≤ 3) ∧ (K (some (some (vI ((rdT (A 8) ((F 7 2)) (tkF F) (A 4) ((F 7 7))).1)))) (upF (tkS F ((rdT (A 8) ((F 7 2)) (tkF F) (A 4) ((F 7 7))).2.1)) 7 7 ((rdT (A 8) ((F 7 2)) (tkF F) (A 4) ((F 7 7))).2.2.2)) (r4 A ((rdT (A 8) ((F 7 2)) (tkF F) (A 4) ((F 7 7))).2.2.1)))) : am_line qxX7_readStatement 29 [vR 7, vR 3] 3 F A K := by
  show am_stp qxX7_readStatement (am_run qxX7_readStatement (fun _ => none) (fun _ _ _ _ _ _ => False) K 29) K 0 [some (vR 7), some (vR 3), none] [] F A 0
  obtain ⟨hp, h⟩ := h
  obtain ⟨⟨pn, k0⟩, pc, pg⟩ := hp
  have b0 := k0.2.1
  have w0 := k0.2.2.2.2.2
  have v0 := k0.2.2.1
  have z0 := k0.1
  have bf1 : (tkF F).1 = F 7 3 := rfl
  have bf2 : (tkF F).2.1 = F 7 4 := rfl
  have bf3 : (tkF F).2.2.1 = F 7 5 := rfl
  have bf4 : (tkF F).2.2.2 = F 7 6 := rfl
  have oc := rdC_ok (T := A 8) k0 pc
  have ol := rdL_ok (T := A 8) k0 pc
  have os := rdS_ok (T := A 8) k0 pc pg
  have ec := @rdC_e (A 8) (F 7 2) (tkF F) (A 4)
  have el := @rdL_e (A 8) (F 7 2) (tkF F) (A 4)
  have es := @rdS_e (A 8) (F 7 2) (F 7 7) (tkF F) (A 4)
  have oc1 := oc.1.2.1
  have ol1 := ol.1.2.1
  have os1 := os.1.2.1
  have oc2 := oc.1.1
  have ol2 := ol.1.1
  have os2 := os.1.1
  have oc3 := oc.1.2.2.1
  have ol3 := ol.1.2.2.1
  have os3 := os.1.2.2.1

  show ((-2147483648 ≤ 123295904 ∧ 123295904 < 2147483648) ∧ (-2147483648 ≤ (F 7 6) ∧ (F 7 6) < 2147483648) ∧ (-2147483648 ≤ (F 7 5) ∧ (F 7 5) < 2147483648)) ∧ ((w32 (bi (iwP (tkF F) 123295904)) = w32 0 → (((-2147483648 ≤ 412554240 ∧ 412554240 < 2147483648) ∧ (-2147483648 ≤ (F 7 6) ∧ (F 7 6) < 2147483648) ∧ (-2147483648 ≤ (F 7 5) ∧ (F 7 5) < 2147483648)) ∧ ((w32 (bi (iwP (tkF F) 412554240)) = w32 0 → (((-2147483648 ≤ 643432448 ∧ 643432448 < 2147483648) ∧ (-2147483648 ≤ (F 7 6) ∧ (F 7 6) < 2147483648) ∧ (-2147483648 ≤ (F 7 5) ∧ (F 7 5) < 2147483648)) ∧ ((w32 (bi (iwP (tkF F) 643432448)) = w32 0 → ((w32 (-11) = w32 0 → _) ∧ (¬ w32 (-11) = w32 0 → (K (some (some (vI (-11)))) F A)))) ∧ (¬ w32 (bi (iwP (tkF F) 643432448)) = w32 0 → ((((0 ≤ (F 7 2) ∧ (F 7 2) ≤ 800) ∧ tkOK ((F 7 2)) (tkF F)) ∧ ctOK (A 4) ∧ 0 ≤ (F 7 7) ∧ (F 7 7) ≤ 3) ∧ ((w32 ((rdS (A 8) ((F 7 2)) (tkF F) (A 4) ((F 7 7))).1) = w32 0 → ((w32 (((rdS (A 8) ((F 7 2)) (tkF F) (A 4) ((F 7 7))).2.1).2.2.1) = w32 2 → (((0 ≤ (F 7 2) ∧ (F 7 2) ≤ 800) ∧ 0 ≤ (((rdS (A 8) ((F 7 2)) (tkF F) (A 4) ((F 7 7))).2.1).2.1) ∧ (((rdS (A 8) ((F 7 2)) (tkF F) (A 4) ((F 7 7))).2.1).2.1) ≤ (F 7 2)) ∧ (K (some (some (vI 0))) (tkS (upF (tkS F ((rdS (A 8) ((F 7 2)) (tkF F) (A 4) ((F 7 7))).2.1)) 7 7 ((rdS (A 8) ((F 7 2)) (tkF F) (A 4) ((F 7 7))).2.2.2)) (nxT ((A 8)) ((F 7 2)) (((rdS (A 8) ((F 7 2)) (tkF F) (A 4) ((F 7 7))).2.1)))) (r4 A ((rdS (A 8) ((F 7 2)) (tkF F) (A 4) ((F 7 7))).2.2.1))))) ∧ (¬ w32 (((rdS (A 8) ((F 7 2)) (tkF F) (A 4) ((F 7 7))).2.1).2.2.1) = w32 2 → (K (some (some (vI (-11)))) (upF (tkS F ((rdS (A 8) ((F 7 2)) (tkF F) (A 4) ((F 7 7))).2.1)) 7 7 ((rdS (A 8) ((F 7 2)) (tkF F) (A 4) ((F 7 7))).2.2.2)) (r4 A ((rdS (A 8) ((F 7 2)) (tkF F) (A 4) ((F 7 7))).2.2.1)))))) ∧ (¬ w32 ((rdS (A 8) ((F 7 2)) (tkF F) (A 4) ((F 7 7))).1) = w32 0 → (K (some (some (vI ((rdS (A 8) ((F 7 2)) (tkF F) (A 4) ((F 7 7))).1)))) (upF (tkS F ((rdS (A 8) ((F 7 2)) (tkF F) (A 4) ((F 7 7))).2.1)) 7 7 ((rdS (A 8) ((F 7 2)) (tkF F) (A 4) ((F 7 7))).2.2.2)) (r4 A ((rdS (A 8) ((F 7 2)) (tkF F) (A 4) ((F 7 7))).2.2.1)))))))))) ∧ (¬ w32 (bi (iwP (tkF F) 412554240)) = w32 0 → ((((0 ≤ (F 7 2) ∧ (F 7 2) ≤ 800) ∧ tkOK ((F 7 2)) (tkF F)) ∧ ctOK (A 4)) ∧ ((w32 ((rdL (A 8) ((F 7 2)) (tkF F) (A 4)).1) = w32 0 → ((w32 (((rdL (A 8) ((F 7 2)) (tkF F) (A 4)).2.1).2.2.1) = w32 2 → (((0 ≤ (F 7 2) ∧ (F 7 2) ≤ 800) ∧ 0 ≤ (((rdL (A 8) ((F 7 2)) (tkF F) (A 4)).2.1).2.1) ∧ (((rdL (A 8) ((F 7 2)) (tkF F) (A 4)).2.1).2.1) ≤ (F 7 2)) ∧ (K (some (some (vI 0))) (tkS (tkS F ((rdL (A 8) ((F 7 2)) (tkF F) (A 4)).2.1)) (nxT ((A 8)) ((F 7 2)) (((rdL (A 8) ((F 7 2)) (tkF F) (A 4)).2.1)))) (r4 A ((rdL (A 8) ((F 7 2)) (tkF F) (A 4)).2.2))))) ∧ (¬ w32 (((rdL (A 8) ((F 7 2)) (tkF F) (A 4)).2.1).2.2.1) = w32 2 → (K (some (some (vI (-11)))) (tkS F ((rdL (A 8) ((F 7 2)) (tkF F) (A 4)).2.1)) (r4 A ((rdL (A 8) ((F 7 2)) (tkF F) (A 4)).2.2)))))) ∧ (¬ w32 ((rdL (A 8) ((F 7 2)) (tkF F) (A 4)).1) = w32 0 → (K (some (some (vI ((rdL (A 8) ((F 7 2)) (tkF F) (A 4)).1)))) (tkS F ((rdL (A 8) ((F 7 2)) (tkF F) (A 4)).2.1)) (r4 A ((rdL (A 8) ((F 7 2)) (tkF F) (A 4)).2.2)))))))))) ∧ (¬ w32 (bi (iwP (tkF F) 123295904)) = w32 0 → ((((0 ≤ (F 7 2) ∧ (F 7 2) ≤ 800) ∧ tkOK ((F 7 2)) (tkF F)) ∧ ctOK (A 4)) ∧ ((w32 ((rdC (A 8) ((F 7 2)) (tkF F) (A 4)).1) = w32 0 → ((w32 (((rdC (A 8) ((F 7 2)) (tkF F) (A 4)).2.1).2.2.1) = w32 2 → (((0 ≤ (F 7 2) ∧ (F 7 2) ≤ 800) ∧ 0 ≤ (((rdC (A 8) ((F 7 2)) (tkF F) (A 4)).2.1).2.1) ∧ (((rdC (A 8) ((F 7 2)) (tkF F) (A 4)).2.1).2.1) ≤ (F 7 2)) ∧ (K (some (some (vI 0))) (tkS (tkS F ((rdC (A 8) ((F 7 2)) (tkF F) (A 4)).2.1)) (nxT ((A 8)) ((F 7 2)) (((rdC (A 8) ((F 7 2)) (tkF F) (A 4)).2.1)))) (r4 A ((rdC (A 8) ((F 7 2)) (tkF F) (A 4)).2.2))))) ∧ (¬ w32 (((rdC (A 8) ((F 7 2)) (tkF F) (A 4)).2.1).2.2.1) = w32 2 → (K (some (some (vI (-11)))) (tkS F ((rdC (A 8) ((F 7 2)) (tkF F) (A 4)).2.1)) (r4 A ((rdC (A 8) ((F 7 2)) (tkF F) (A 4)).2.2)))))) ∧ (¬ w32 ((rdC (A 8) ((F 7 2)) (tkF F) (A 4)).1) = w32 0 → (K (some (some (vI ((rdC (A 8) ((F 7 2)) (tkF F) (A 4)).1)))) (tkS F ((rdC (A 8) ((F 7 2)) (tkF F) (A 4)).2.1)) (r4 A ((rdC (A 8) ((F 7 2)) (tkF F) (A 4)).2.2))))))))
  refine ⟨by first | omega | exact ⟨⟨pn, k0⟩, pc⟩ | exact ⟨⟨pn, k0⟩, pc, pg⟩ | exact ⟨by omega, by omega, by omega⟩, ?_⟩
  refine ⟨fun c1 => ?_, fun c1 => ?_⟩
  · skip
    (try simp (disch := omega) only [w32_0, wbi0, Classical.not_not, w32_id] at c1)
    refine ⟨by first | omega | exact ⟨⟨pn, k0⟩, pc⟩ | exact ⟨⟨pn, k0⟩, pc, pg⟩ | exact ⟨by omega, by omega, by omega⟩, ?_⟩
    refine ⟨fun c2 => ?_, fun c2 => ?_⟩
    · skip
      (try simp (disch := omega) only [w32_0, wbi0, Classical.not_not, w32_id] at c2)
      refine ⟨by first | omega | exact ⟨⟨pn, k0⟩, pc⟩ | exact ⟨⟨pn, k0⟩, pc, pg⟩ | exact ⟨by omega, by omega, by omega⟩, ?_⟩
      refine ⟨fun c3 => ?_, fun c3 => ?_⟩
      · skip
        (try simp (disch := omega) only [w32_0, wbi0, Classical.not_not, w32_id] at c3)
        refine ⟨fun q => absurd q (by decide), fun _ => ?_⟩
        first
        | (have x : rdX (A 8) (F 7 2) (tkF F) (A 4) (F 7 7) = ((rdC (A 8) (F 7 2) (tkF F) (A 4)).1, (rdC (A 8) (F 7 2) (tkF F) (A 4)).2.1, (rdC (A 8) (F 7 2) (tkF F) (A 4)).2.2, F 7 7) := by unfold rdX; first | exact if_pos (by assumption) | (rw [if_neg (by assumption)]; first | exact if_pos (by assumption) | (rw [if_neg (by assumption)]; first | exact if_pos (by assumption) | exact if_neg (by assumption)))
           unfold rdT at h
           rw [x] at h
           try dsimp only at h
           first
           | (rw [if_neg (by omega)] at h; exact FA_eq h rfl (by first | exact upF_id rfl | (simp only [tkS_up, tkS_S]; done) | (simp only [tkS_up, tkS_S]; exact upF_id rfl) | rfl | (rw [tkS_F]; exact upF_id rfl)) (by first | rfl | exact r4_A))
           | (rw [if_pos (by omega), if_neg (by omega)] at h; exact FA_eq h rfl (by first | exact upF_id rfl | (simp only [tkS_up, tkS_S]; done) | (simp only [tkS_up, tkS_S]; exact upF_id rfl) | rfl | (rw [tkS_F]; exact upF_id rfl)) (by first | rfl | exact r4_A))
           | (rw [if_pos (by omega), if_pos (by omega)] at h; exact FA_eq h rfl (by first | exact upF_id rfl | (simp only [tkS_up, tkS_S]; done) | (simp only [tkS_up, tkS_S]; exact upF_id rfl) | rfl | (rw [tkS_F]; exact upF_id rfl)) (by first | rfl | exact r4_A)))
        | (have x : rdX (A 8) (F 7 2) (tkF F) (A 4) (F 7 7) = ((rdL (A 8) (F 7 2) (tkF F) (A 4)).1, (rdL (A 8) (F 7 2) (tkF F) (A 4)).2.1, (rdL (A 8) (F 7 2) (tkF F) (A 4)).2.2, F 7 7) := by unfold rdX; first | exact if_pos (by assumption) | (rw [if_neg (by assumption)]; first | exact if_pos (by assumption) | (rw [if_neg (by assumption)]; first | exact if_pos (by assumption) | exact if_neg (by assumption)))
           unfold rdT at h
           rw [x] at h
           try dsimp only at h
           first
           | (rw [if_neg (by omega)] at h; exact FA_eq h rfl (by first | exact upF_id rfl | (simp only [tkS_up, tkS_S]; done) | (simp only [tkS_up, tkS_S]; exact upF_id rfl) | rfl | (rw [tkS_F]; exact upF_id rfl)) (by first | rfl | exact r4_A))
           | (rw [if_pos (by omega), if_neg (by omega)] at h; exact FA_eq h rfl (by first | exact upF_id rfl | (simp only [tkS_up, tkS_S]; done) | (simp only [tkS_up, tkS_S]; exact upF_id rfl) | rfl | (rw [tkS_F]; exact upF_id rfl)) (by first | rfl | exact r4_A))
           | (rw [if_pos (by omega), if_pos (by omega)] at h; exact FA_eq h rfl (by first | exact upF_id rfl | (simp only [tkS_up, tkS_S]; done) | (simp only [tkS_up, tkS_S]; exact upF_id rfl) | rfl | (rw [tkS_F]; exact upF_id rfl)) (by first | rfl | exact r4_A)))
        | (have x : rdX (A 8) (F 7 2) (tkF F) (A 4) (F 7 7) = rdS (A 8) (F 7 2) (tkF F) (A 4) (F 7 7) := by unfold rdX; first | exact if_pos (by assumption) | (rw [if_neg (by assumption)]; first | exact if_pos (by assumption) | (rw [if_neg (by assumption)]; first | exact if_pos (by assumption) | exact if_neg (by assumption)))
           unfold rdT at h
           rw [x] at h
           try dsimp only at h
           first
           | (rw [if_neg (by omega)] at h; exact FA_eq h rfl (by first | exact upF_id rfl | (simp only [tkS_up, tkS_S]; done) | (simp only [tkS_up, tkS_S]; exact upF_id rfl) | rfl | (rw [tkS_F]; exact upF_id rfl)) (by first | rfl | exact r4_A))
           | (rw [if_pos (by omega), if_neg (by omega)] at h; exact FA_eq h rfl (by first | exact upF_id rfl | (simp only [tkS_up, tkS_S]; done) | (simp only [tkS_up, tkS_S]; exact upF_id rfl) | rfl | (rw [tkS_F]; exact upF_id rfl)) (by first | rfl | exact r4_A))
           | (rw [if_pos (by omega), if_pos (by omega)] at h; exact FA_eq h rfl (by first | exact upF_id rfl | (simp only [tkS_up, tkS_S]; done) | (simp only [tkS_up, tkS_S]; exact upF_id rfl) | rfl | (rw [tkS_F]; exact upF_id rfl)) (by first | rfl | exact r4_A)))
        | (have x : rdX (A 8) (F 7 2) (tkF F) (A 4) (F 7 7) = (-11, tkF F, A 4, F 7 7) := by unfold rdX; first | exact if_pos (by assumption) | (rw [if_neg (by assumption)]; first | exact if_pos (by assumption) | (rw [if_neg (by assumption)]; first | exact if_pos (by assumption) | exact if_neg (by assumption)))
           unfold rdT at h
           rw [x] at h
           try dsimp only at h
           first
           | (rw [if_neg (by omega)] at h; exact FA_eq h rfl (by first | exact upF_id rfl | (simp only [tkS_up, tkS_S]; done) | (simp only [tkS_up, tkS_S]; exact upF_id rfl) | rfl | (rw [tkS_F]; exact upF_id rfl)) (by first | rfl | exact r4_A))
           | (rw [if_pos (by omega), if_neg (by omega)] at h; exact FA_eq h rfl (by first | exact upF_id rfl | (simp only [tkS_up, tkS_S]; done) | (simp only [tkS_up, tkS_S]; exact upF_id rfl) | rfl | (rw [tkS_F]; exact upF_id rfl)) (by first | rfl | exact r4_A))
           | (rw [if_pos (by omega), if_pos (by omega)] at h; exact FA_eq h rfl (by first | exact upF_id rfl | (simp only [tkS_up, tkS_S]; done) | (simp only [tkS_up, tkS_S]; exact upF_id rfl) | rfl | (rw [tkS_F]; exact upF_id rfl)) (by first | rfl | exact r4_A)))
      · skip
        (try simp (disch := omega) only [w32_0, wbi0, Classical.not_not, w32_id] at c3)
        refine ⟨by first | omega | exact ⟨⟨pn, k0⟩, pc⟩ | exact ⟨⟨pn, k0⟩, pc, pg⟩ | exact ⟨by omega, by omega, by omega⟩, ?_⟩
        refine ⟨fun c4 => ?_, fun c4 => ?_⟩
        · skip
          (try simp (disch := omega) only [w32_0, wbi0, Classical.not_not, w32_id] at c4)
          refine ⟨fun c5 => ?_, fun c5 => ?_⟩
          · skip
            (try simp (disch := omega) only [w32_0, wbi0, Classical.not_not, w32_id] at c5)
            refine ⟨by first | omega | exact ⟨⟨pn, k0⟩, pc⟩ | exact ⟨⟨pn, k0⟩, pc, pg⟩ | exact ⟨by omega, by omega, by omega⟩, ?_⟩
            first
            | (have x : rdX (A 8) (F 7 2) (tkF F) (A 4) (F 7 7) = ((rdC (A 8) (F 7 2) (tkF F) (A 4)).1, (rdC (A 8) (F 7 2) (tkF F) (A 4)).2.1, (rdC (A 8) (F 7 2) (tkF F) (A 4)).2.2, F 7 7) := by unfold rdX; first | exact if_pos (by assumption) | (rw [if_neg (by assumption)]; first | exact if_pos (by assumption) | (rw [if_neg (by assumption)]; first | exact if_pos (by assumption) | exact if_neg (by assumption)))
               unfold rdT at h
               rw [x] at h
               try dsimp only at h
               first
               | (rw [if_neg (by omega)] at h; exact FA_eq h rfl (by first | exact upF_id rfl | (simp only [tkS_up, tkS_S]; done) | (simp only [tkS_up, tkS_S]; exact upF_id rfl) | rfl | (rw [tkS_F]; exact upF_id rfl)) (by first | rfl | exact r4_A))
               | (rw [if_pos (by omega), if_neg (by omega)] at h; exact FA_eq h rfl (by first | exact upF_id rfl | (simp only [tkS_up, tkS_S]; done) | (simp only [tkS_up, tkS_S]; exact upF_id rfl) | rfl | (rw [tkS_F]; exact upF_id rfl)) (by first | rfl | exact r4_A))
               | (rw [if_pos (by omega), if_pos (by omega)] at h; exact FA_eq h rfl (by first | exact upF_id rfl | (simp only [tkS_up, tkS_S]; done) | (simp only [tkS_up, tkS_S]; exact upF_id rfl) | rfl | (rw [tkS_F]; exact upF_id rfl)) (by first | rfl | exact r4_A)))
            | (have x : rdX (A 8) (F 7 2) (tkF F) (A 4) (F 7 7) = ((rdL (A 8) (F 7 2) (tkF F) (A 4)).1, (rdL (A 8) (F 7 2) (tkF F) (A 4)).2.1, (rdL (A 8) (F 7 2) (tkF F) (A 4)).2.2, F 7 7) := by unfold rdX; first | exact if_pos (by assumption) | (rw [if_neg (by assumption)]; first | exact if_pos (by assumption) | (rw [if_neg (by assumption)]; first | exact if_pos (by assumption) | exact if_neg (by assumption)))
               unfold rdT at h
               rw [x] at h
               try dsimp only at h
               first
               | (rw [if_neg (by omega)] at h; exact FA_eq h rfl (by first | exact upF_id rfl | (simp only [tkS_up, tkS_S]; done) | (simp only [tkS_up, tkS_S]; exact upF_id rfl) | rfl | (rw [tkS_F]; exact upF_id rfl)) (by first | rfl | exact r4_A))
               | (rw [if_pos (by omega), if_neg (by omega)] at h; exact FA_eq h rfl (by first | exact upF_id rfl | (simp only [tkS_up, tkS_S]; done) | (simp only [tkS_up, tkS_S]; exact upF_id rfl) | rfl | (rw [tkS_F]; exact upF_id rfl)) (by first | rfl | exact r4_A))
               | (rw [if_pos (by omega), if_pos (by omega)] at h; exact FA_eq h rfl (by first | exact upF_id rfl | (simp only [tkS_up, tkS_S]; done) | (simp only [tkS_up, tkS_S]; exact upF_id rfl) | rfl | (rw [tkS_F]; exact upF_id rfl)) (by first | rfl | exact r4_A)))
            | (have x : rdX (A 8) (F 7 2) (tkF F) (A 4) (F 7 7) = rdS (A 8) (F 7 2) (tkF F) (A 4) (F 7 7) := by unfold rdX; first | exact if_pos (by assumption) | (rw [if_neg (by assumption)]; first | exact if_pos (by assumption) | (rw [if_neg (by assumption)]; first | exact if_pos (by assumption) | exact if_neg (by assumption)))
               unfold rdT at h
               rw [x] at h
               try dsimp only at h
               first
               | (rw [if_neg (by omega)] at h; exact FA_eq h rfl (by first | exact upF_id rfl | (simp only [tkS_up, tkS_S]; done) | (simp only [tkS_up, tkS_S]; exact upF_id rfl) | rfl | (rw [tkS_F]; exact upF_id rfl)) (by first | rfl | exact r4_A))
               | (rw [if_pos (by omega), if_neg (by omega)] at h; exact FA_eq h rfl (by first | exact upF_id rfl | (simp only [tkS_up, tkS_S]; done) | (simp only [tkS_up, tkS_S]; exact upF_id rfl) | rfl | (rw [tkS_F]; exact upF_id rfl)) (by first | rfl | exact r4_A))
               | (rw [if_pos (by omega), if_pos (by omega)] at h; exact FA_eq h rfl (by first | exact upF_id rfl | (simp only [tkS_up, tkS_S]; done) | (simp only [tkS_up, tkS_S]; exact upF_id rfl) | rfl | (rw [tkS_F]; exact upF_id rfl)) (by first | rfl | exact r4_A)))
            | (have x : rdX (A 8) (F 7 2) (tkF F) (A 4) (F 7 7) = (-11, tkF F, A 4, F 7 7) := by unfold rdX; first | exact if_pos (by assumption) | (rw [if_neg (by assumption)]; first | exact if_pos (by assumption) | (rw [if_neg (by assumption)]; first | exact if_pos (by assumption) | exact if_neg (by assumption)))
               unfold rdT at h
               rw [x] at h
               try dsimp only at h
               first
               | (rw [if_neg (by omega)] at h; exact FA_eq h rfl (by first | exact upF_id rfl | (simp only [tkS_up, tkS_S]; done) | (simp only [tkS_up, tkS_S]; exact upF_id rfl) | rfl | (rw [tkS_F]; exact upF_id rfl)) (by first | rfl | exact r4_A))
               | (rw [if_pos (by omega), if_neg (by omega)] at h; exact FA_eq h rfl (by first | exact upF_id rfl | (simp only [tkS_up, tkS_S]; done) | (simp only [tkS_up, tkS_S]; exact upF_id rfl) | rfl | (rw [tkS_F]; exact upF_id rfl)) (by first | rfl | exact r4_A))
               | (rw [if_pos (by omega), if_pos (by omega)] at h; exact FA_eq h rfl (by first | exact upF_id rfl | (simp only [tkS_up, tkS_S]; done) | (simp only [tkS_up, tkS_S]; exact upF_id rfl) | rfl | (rw [tkS_F]; exact upF_id rfl)) (by first | rfl | exact r4_A)))
          · skip
            (try simp (disch := omega) only [w32_0, wbi0, Classical.not_not, w32_id] at c5)
            first
            | (have x : rdX (A 8) (F 7 2) (tkF F) (A 4) (F 7 7) = ((rdC (A 8) (F 7 2) (tkF F) (A 4)).1, (rdC (A 8) (F 7 2) (tkF F) (A 4)).2.1, (rdC (A 8) (F 7 2) (tkF F) (A 4)).2.2, F 7 7) := by unfold rdX; first | exact if_pos (by assumption) | (rw [if_neg (by assumption)]; first | exact if_pos (by assumption) | (rw [if_neg (by assumption)]; first | exact if_pos (by assumption) | exact if_neg (by assumption)))
               unfold rdT at h
               rw [x] at h
               try dsimp only at h
               first
               | (rw [if_neg (by omega)] at h; exact FA_eq h rfl (by first | exact upF_id rfl | (simp only [tkS_up, tkS_S]; done) | (simp only [tkS_up, tkS_S]; exact upF_id rfl) | rfl | (rw [tkS_F]; exact upF_id rfl)) (by first | rfl | exact r4_A))
               | (rw [if_pos (by omega), if_neg (by omega)] at h; exact FA_eq h rfl (by first | exact upF_id rfl | (simp only [tkS_up, tkS_S]; done) | (simp only [tkS_up, tkS_S]; exact upF_id rfl) | rfl | (rw [tkS_F]; exact upF_id rfl)) (by first | rfl | exact r4_A))
               | (rw [if_pos (by omega), if_pos (by omega)] at h; exact FA_eq h rfl (by first | exact upF_id rfl | (simp only [tkS_up, tkS_S]; done) | (simp only [tkS_up, tkS_S]; exact upF_id rfl) | rfl | (rw [tkS_F]; exact upF_id rfl)) (by first | rfl | exact r4_A)))
            | (have x : rdX (A 8) (F 7 2) (tkF F) (A 4) (F 7 7) = ((rdL (A 8) (F 7 2) (tkF F) (A 4)).1, (rdL (A 8) (F 7 2) (tkF F) (A 4)).2.1, (rdL (A 8) (F 7 2) (tkF F) (A 4)).2.2, F 7 7) := by unfold rdX; first | exact if_pos (by assumption) | (rw [if_neg (by assumption)]; first | exact if_pos (by assumption) | (rw [if_neg (by assumption)]; first | exact if_pos (by assumption) | exact if_neg (by assumption)))
               unfold rdT at h
               rw [x] at h
               try dsimp only at h
               first
               | (rw [if_neg (by omega)] at h; exact FA_eq h rfl (by first | exact upF_id rfl | (simp only [tkS_up, tkS_S]; done) | (simp only [tkS_up, tkS_S]; exact upF_id rfl) | rfl | (rw [tkS_F]; exact upF_id rfl)) (by first | rfl | exact r4_A))
               | (rw [if_pos (by omega), if_neg (by omega)] at h; exact FA_eq h rfl (by first | exact upF_id rfl | (simp only [tkS_up, tkS_S]; done) | (simp only [tkS_up, tkS_S]; exact upF_id rfl) | rfl | (rw [tkS_F]; exact upF_id rfl)) (by first | rfl | exact r4_A))
               | (rw [if_pos (by omega), if_pos (by omega)] at h; exact FA_eq h rfl (by first | exact upF_id rfl | (simp only [tkS_up, tkS_S]; done) | (simp only [tkS_up, tkS_S]; exact upF_id rfl) | rfl | (rw [tkS_F]; exact upF_id rfl)) (by first | rfl | exact r4_A)))
            | (have x : rdX (A 8) (F 7 2) (tkF F) (A 4) (F 7 7) = rdS (A 8) (F 7 2) (tkF F) (A 4) (F 7 7) := by unfold rdX; first | exact if_pos (by assumption) | (rw [if_neg (by assumption)]; first | exact if_pos (by assumption) | (rw [if_neg (by assumption)]; first | exact if_pos (by assumption) | exact if_neg (by assumption)))
               unfold rdT at h
               rw [x] at h
               try dsimp only at h
               first
               | (rw [if_neg (by omega)] at h; exact FA_eq h rfl (by first | exact upF_id rfl | (simp only [tkS_up, tkS_S]; done) | (simp only [tkS_up, tkS_S]; exact upF_id rfl) | rfl | (rw [tkS_F]; exact upF_id rfl)) (by first | rfl | exact r4_A))
               | (rw [if_pos (by omega), if_neg (by omega)] at h; exact FA_eq h rfl (by first | exact upF_id rfl | (simp only [tkS_up, tkS_S]; done) | (simp only [tkS_up, tkS_S]; exact upF_id rfl) | rfl | (rw [tkS_F]; exact upF_id rfl)) (by first | rfl | exact r4_A))
               | (rw [if_pos (by omega), if_pos (by omega)] at h; exact FA_eq h rfl (by first | exact upF_id rfl | (simp only [tkS_up, tkS_S]; done) | (simp only [tkS_up, tkS_S]; exact upF_id rfl) | rfl | (rw [tkS_F]; exact upF_id rfl)) (by first | rfl | exact r4_A)))
            | (have x : rdX (A 8) (F 7 2) (tkF F) (A 4) (F 7 7) = (-11, tkF F, A 4, F 7 7) := by unfold rdX; first | exact if_pos (by assumption) | (rw [if_neg (by assumption)]; first | exact if_pos (by assumption) | (rw [if_neg (by assumption)]; first | exact if_pos (by assumption) | exact if_neg (by assumption)))
               unfold rdT at h
               rw [x] at h
               try dsimp only at h
               first
               | (rw [if_neg (by omega)] at h; exact FA_eq h rfl (by first | exact upF_id rfl | (simp only [tkS_up, tkS_S]; done) | (simp only [tkS_up, tkS_S]; exact upF_id rfl) | rfl | (rw [tkS_F]; exact upF_id rfl)) (by first | rfl | exact r4_A))
               | (rw [if_pos (by omega), if_neg (by omega)] at h; exact FA_eq h rfl (by first | exact upF_id rfl | (simp only [tkS_up, tkS_S]; done) | (simp only [tkS_up, tkS_S]; exact upF_id rfl) | rfl | (rw [tkS_F]; exact upF_id rfl)) (by first | rfl | exact r4_A))
               | (rw [if_pos (by omega), if_pos (by omega)] at h; exact FA_eq h rfl (by first | exact upF_id rfl | (simp only [tkS_up, tkS_S]; done) | (simp only [tkS_up, tkS_S]; exact upF_id rfl) | rfl | (rw [tkS_F]; exact upF_id rfl)) (by first | rfl | exact r4_A)))
        · skip
          (try simp (disch := omega) only [w32_0, wbi0, Classical.not_not, w32_id] at c4)
          first
          | (have x : rdX (A 8) (F 7 2) (tkF F) (A 4) (F 7 7) = ((rdC (A 8) (F 7 2) (tkF F) (A 4)).1, (rdC (A 8) (F 7 2) (tkF F) (A 4)).2.1, (rdC (A 8) (F 7 2) (tkF F) (A 4)).2.2, F 7 7) := by unfold rdX; first | exact if_pos (by assumption) | (rw [if_neg (by assumption)]; first | exact if_pos (by assumption) | (rw [if_neg (by assumption)]; first | exact if_pos (by assumption) | exact if_neg (by assumption)))
             unfold rdT at h
             rw [x] at h
             try dsimp only at h
             first
             | (rw [if_neg (by omega)] at h; exact FA_eq h rfl (by first | exact upF_id rfl | (simp only [tkS_up, tkS_S]; done) | (simp only [tkS_up, tkS_S]; exact upF_id rfl) | rfl | (rw [tkS_F]; exact upF_id rfl)) (by first | rfl | exact r4_A))
             | (rw [if_pos (by omega), if_neg (by omega)] at h; exact FA_eq h rfl (by first | exact upF_id rfl | (simp only [tkS_up, tkS_S]; done) | (simp only [tkS_up, tkS_S]; exact upF_id rfl) | rfl | (rw [tkS_F]; exact upF_id rfl)) (by first | rfl | exact r4_A))
             | (rw [if_pos (by omega), if_pos (by omega)] at h; exact FA_eq h rfl (by first | exact upF_id rfl | (simp only [tkS_up, tkS_S]; done) | (simp only [tkS_up, tkS_S]; exact upF_id rfl) | rfl | (rw [tkS_F]; exact upF_id rfl)) (by first | rfl | exact r4_A)))
          | (have x : rdX (A 8) (F 7 2) (tkF F) (A 4) (F 7 7) = ((rdL (A 8) (F 7 2) (tkF F) (A 4)).1, (rdL (A 8) (F 7 2) (tkF F) (A 4)).2.1, (rdL (A 8) (F 7 2) (tkF F) (A 4)).2.2, F 7 7) := by unfold rdX; first | exact if_pos (by assumption) | (rw [if_neg (by assumption)]; first | exact if_pos (by assumption) | (rw [if_neg (by assumption)]; first | exact if_pos (by assumption) | exact if_neg (by assumption)))
             unfold rdT at h
             rw [x] at h
             try dsimp only at h
             first
             | (rw [if_neg (by omega)] at h; exact FA_eq h rfl (by first | exact upF_id rfl | (simp only [tkS_up, tkS_S]; done) | (simp only [tkS_up, tkS_S]; exact upF_id rfl) | rfl | (rw [tkS_F]; exact upF_id rfl)) (by first | rfl | exact r4_A))
             | (rw [if_pos (by omega), if_neg (by omega)] at h; exact FA_eq h rfl (by first | exact upF_id rfl | (simp only [tkS_up, tkS_S]; done) | (simp only [tkS_up, tkS_S]; exact upF_id rfl) | rfl | (rw [tkS_F]; exact upF_id rfl)) (by first | rfl | exact r4_A))
             | (rw [if_pos (by omega), if_pos (by omega)] at h; exact FA_eq h rfl (by first | exact upF_id rfl | (simp only [tkS_up, tkS_S]; done) | (simp only [tkS_up, tkS_S]; exact upF_id rfl) | rfl | (rw [tkS_F]; exact upF_id rfl)) (by first | rfl | exact r4_A)))
          | (have x : rdX (A 8) (F 7 2) (tkF F) (A 4) (F 7 7) = rdS (A 8) (F 7 2) (tkF F) (A 4) (F 7 7) := by unfold rdX; first | exact if_pos (by assumption) | (rw [if_neg (by assumption)]; first | exact if_pos (by assumption) | (rw [if_neg (by assumption)]; first | exact if_pos (by assumption) | exact if_neg (by assumption)))
             unfold rdT at h
             rw [x] at h
             try dsimp only at h
             first
             | (rw [if_neg (by omega)] at h; exact FA_eq h rfl (by first | exact upF_id rfl | (simp only [tkS_up, tkS_S]; done) | (simp only [tkS_up, tkS_S]; exact upF_id rfl) | rfl | (rw [tkS_F]; exact upF_id rfl)) (by first | rfl | exact r4_A))
             | (rw [if_pos (by omega), if_neg (by omega)] at h; exact FA_eq h rfl (by first | exact upF_id rfl | (simp only [tkS_up, tkS_S]; done) | (simp only [tkS_up, tkS_S]; exact upF_id rfl) | rfl | (rw [tkS_F]; exact upF_id rfl)) (by first | rfl | exact r4_A))
             | (rw [if_pos (by omega), if_pos (by omega)] at h; exact FA_eq h rfl (by first | exact upF_id rfl | (simp only [tkS_up, tkS_S]; done) | (simp only [tkS_up, tkS_S]; exact upF_id rfl) | rfl | (rw [tkS_F]; exact upF_id rfl)) (by first | rfl | exact r4_A)))
          | (have x : rdX (A 8) (F 7 2) (tkF F) (A 4) (F 7 7) = (-11, tkF F, A 4, F 7 7) := by unfold rdX; first | exact if_pos (by assumption) | (rw [if_neg (by assumption)]; first | exact if_pos (by assumption) | (rw [if_neg (by assumption)]; first | exact if_pos (by assumption) | exact if_neg (by assumption)))
             unfold rdT at h
             rw [x] at h
             try dsimp only at h
             first
             | (rw [if_neg (by omega)] at h; exact FA_eq h rfl (by first | exact upF_id rfl | (simp only [tkS_up, tkS_S]; done) | (simp only [tkS_up, tkS_S]; exact upF_id rfl) | rfl | (rw [tkS_F]; exact upF_id rfl)) (by first | rfl | exact r4_A))
             | (rw [if_pos (by omega), if_neg (by omega)] at h; exact FA_eq h rfl (by first | exact upF_id rfl | (simp only [tkS_up, tkS_S]; done) | (simp only [tkS_up, tkS_S]; exact upF_id rfl) | rfl | (rw [tkS_F]; exact upF_id rfl)) (by first | rfl | exact r4_A))
             | (rw [if_pos (by omega), if_pos (by omega)] at h; exact FA_eq h rfl (by first | exact upF_id rfl | (simp only [tkS_up, tkS_S]; done) | (simp only [tkS_up, tkS_S]; exact upF_id rfl) | rfl | (rw [tkS_F]; exact upF_id rfl)) (by first | rfl | exact r4_A)))
    · skip
      (try simp (disch := omega) only [w32_0, wbi0, Classical.not_not, w32_id] at c2)
      refine ⟨by first | omega | exact ⟨⟨pn, k0⟩, pc⟩ | exact ⟨⟨pn, k0⟩, pc, pg⟩ | exact ⟨by omega, by omega, by omega⟩, ?_⟩
      refine ⟨fun c3 => ?_, fun c3 => ?_⟩
      · skip
        (try simp (disch := omega) only [w32_0, wbi0, Classical.not_not, w32_id] at c3)
        refine ⟨fun c4 => ?_, fun c4 => ?_⟩
        · skip
          (try simp (disch := omega) only [w32_0, wbi0, Classical.not_not, w32_id] at c4)
          refine ⟨by first | omega | exact ⟨⟨pn, k0⟩, pc⟩ | exact ⟨⟨pn, k0⟩, pc, pg⟩ | exact ⟨by omega, by omega, by omega⟩, ?_⟩
          first
          | (have x : rdX (A 8) (F 7 2) (tkF F) (A 4) (F 7 7) = ((rdC (A 8) (F 7 2) (tkF F) (A 4)).1, (rdC (A 8) (F 7 2) (tkF F) (A 4)).2.1, (rdC (A 8) (F 7 2) (tkF F) (A 4)).2.2, F 7 7) := by unfold rdX; first | exact if_pos (by assumption) | (rw [if_neg (by assumption)]; first | exact if_pos (by assumption) | (rw [if_neg (by assumption)]; first | exact if_pos (by assumption) | exact if_neg (by assumption)))
             unfold rdT at h
             rw [x] at h
             try dsimp only at h
             first
             | (rw [if_neg (by omega)] at h; exact FA_eq h rfl (by first | exact upF_id rfl | (simp only [tkS_up, tkS_S]; done) | (simp only [tkS_up, tkS_S]; exact upF_id rfl) | rfl | (rw [tkS_F]; exact upF_id rfl)) (by first | rfl | exact r4_A))
             | (rw [if_pos (by omega), if_neg (by omega)] at h; exact FA_eq h rfl (by first | exact upF_id rfl | (simp only [tkS_up, tkS_S]; done) | (simp only [tkS_up, tkS_S]; exact upF_id rfl) | rfl | (rw [tkS_F]; exact upF_id rfl)) (by first | rfl | exact r4_A))
             | (rw [if_pos (by omega), if_pos (by omega)] at h; exact FA_eq h rfl (by first | exact upF_id rfl | (simp only [tkS_up, tkS_S]; done) | (simp only [tkS_up, tkS_S]; exact upF_id rfl) | rfl | (rw [tkS_F]; exact upF_id rfl)) (by first | rfl | exact r4_A)))
          | (have x : rdX (A 8) (F 7 2) (tkF F) (A 4) (F 7 7) = ((rdL (A 8) (F 7 2) (tkF F) (A 4)).1, (rdL (A 8) (F 7 2) (tkF F) (A 4)).2.1, (rdL (A 8) (F 7 2) (tkF F) (A 4)).2.2, F 7 7) := by unfold rdX; first | exact if_pos (by assumption) | (rw [if_neg (by assumption)]; first | exact if_pos (by assumption) | (rw [if_neg (by assumption)]; first | exact if_pos (by assumption) | exact if_neg (by assumption)))
             unfold rdT at h
             rw [x] at h
             try dsimp only at h
             first
             | (rw [if_neg (by omega)] at h; exact FA_eq h rfl (by first | exact upF_id rfl | (simp only [tkS_up, tkS_S]; done) | (simp only [tkS_up, tkS_S]; exact upF_id rfl) | rfl | (rw [tkS_F]; exact upF_id rfl)) (by first | rfl | exact r4_A))
             | (rw [if_pos (by omega), if_neg (by omega)] at h; exact FA_eq h rfl (by first | exact upF_id rfl | (simp only [tkS_up, tkS_S]; done) | (simp only [tkS_up, tkS_S]; exact upF_id rfl) | rfl | (rw [tkS_F]; exact upF_id rfl)) (by first | rfl | exact r4_A))
             | (rw [if_pos (by omega), if_pos (by omega)] at h; exact FA_eq h rfl (by first | exact upF_id rfl | (simp only [tkS_up, tkS_S]; done) | (simp only [tkS_up, tkS_S]; exact upF_id rfl) | rfl | (rw [tkS_F]; exact upF_id rfl)) (by first | rfl | exact r4_A)))
          | (have x : rdX (A 8) (F 7 2) (tkF F) (A 4) (F 7 7) = rdS (A 8) (F 7 2) (tkF F) (A 4) (F 7 7) := by unfold rdX; first | exact if_pos (by assumption) | (rw [if_neg (by assumption)]; first | exact if_pos (by assumption) | (rw [if_neg (by assumption)]; first | exact if_pos (by assumption) | exact if_neg (by assumption)))
             unfold rdT at h
             rw [x] at h
             try dsimp only at h
             first
             | (rw [if_neg (by omega)] at h; exact FA_eq h rfl (by first | exact upF_id rfl | (simp only [tkS_up, tkS_S]; done) | (simp only [tkS_up, tkS_S]; exact upF_id rfl) | rfl | (rw [tkS_F]; exact upF_id rfl)) (by first | rfl | exact r4_A))
             | (rw [if_pos (by omega), if_neg (by omega)] at h; exact FA_eq h rfl (by first | exact upF_id rfl | (simp only [tkS_up, tkS_S]; done) | (simp only [tkS_up, tkS_S]; exact upF_id rfl) | rfl | (rw [tkS_F]; exact upF_id rfl)) (by first | rfl | exact r4_A))
             | (rw [if_pos (by omega), if_pos (by omega)] at h; exact FA_eq h rfl (by first | exact upF_id rfl | (simp only [tkS_up, tkS_S]; done) | (simp only [tkS_up, tkS_S]; exact upF_id rfl) | rfl | (rw [tkS_F]; exact upF_id rfl)) (by first | rfl | exact r4_A)))
          | (have x : rdX (A 8) (F 7 2) (tkF F) (A 4) (F 7 7) = (-11, tkF F, A 4, F 7 7) := by unfold rdX; first | exact if_pos (by assumption) | (rw [if_neg (by assumption)]; first | exact if_pos (by assumption) | (rw [if_neg (by assumption)]; first | exact if_pos (by assumption) | exact if_neg (by assumption)))
             unfold rdT at h
             rw [x] at h
             try dsimp only at h
             first
             | (rw [if_neg (by omega)] at h; exact FA_eq h rfl (by first | exact upF_id rfl | (simp only [tkS_up, tkS_S]; done) | (simp only [tkS_up, tkS_S]; exact upF_id rfl) | rfl | (rw [tkS_F]; exact upF_id rfl)) (by first | rfl | exact r4_A))
             | (rw [if_pos (by omega), if_neg (by omega)] at h; exact FA_eq h rfl (by first | exact upF_id rfl | (simp only [tkS_up, tkS_S]; done) | (simp only [tkS_up, tkS_S]; exact upF_id rfl) | rfl | (rw [tkS_F]; exact upF_id rfl)) (by first | rfl | exact r4_A))
             | (rw [if_pos (by omega), if_pos (by omega)] at h; exact FA_eq h rfl (by first | exact upF_id rfl | (simp only [tkS_up, tkS_S]; done) | (simp only [tkS_up, tkS_S]; exact upF_id rfl) | rfl | (rw [tkS_F]; exact upF_id rfl)) (by first | rfl | exact r4_A)))
        · skip
          (try simp (disch := omega) only [w32_0, wbi0, Classical.not_not, w32_id] at c4)
          first
          | (have x : rdX (A 8) (F 7 2) (tkF F) (A 4) (F 7 7) = ((rdC (A 8) (F 7 2) (tkF F) (A 4)).1, (rdC (A 8) (F 7 2) (tkF F) (A 4)).2.1, (rdC (A 8) (F 7 2) (tkF F) (A 4)).2.2, F 7 7) := by unfold rdX; first | exact if_pos (by assumption) | (rw [if_neg (by assumption)]; first | exact if_pos (by assumption) | (rw [if_neg (by assumption)]; first | exact if_pos (by assumption) | exact if_neg (by assumption)))
             unfold rdT at h
             rw [x] at h
             try dsimp only at h
             first
             | (rw [if_neg (by omega)] at h; exact FA_eq h rfl (by first | exact upF_id rfl | (simp only [tkS_up, tkS_S]; done) | (simp only [tkS_up, tkS_S]; exact upF_id rfl) | rfl | (rw [tkS_F]; exact upF_id rfl)) (by first | rfl | exact r4_A))
             | (rw [if_pos (by omega), if_neg (by omega)] at h; exact FA_eq h rfl (by first | exact upF_id rfl | (simp only [tkS_up, tkS_S]; done) | (simp only [tkS_up, tkS_S]; exact upF_id rfl) | rfl | (rw [tkS_F]; exact upF_id rfl)) (by first | rfl | exact r4_A))
             | (rw [if_pos (by omega), if_pos (by omega)] at h; exact FA_eq h rfl (by first | exact upF_id rfl | (simp only [tkS_up, tkS_S]; done) | (simp only [tkS_up, tkS_S]; exact upF_id rfl) | rfl | (rw [tkS_F]; exact upF_id rfl)) (by first | rfl | exact r4_A)))
          | (have x : rdX (A 8) (F 7 2) (tkF F) (A 4) (F 7 7) = ((rdL (A 8) (F 7 2) (tkF F) (A 4)).1, (rdL (A 8) (F 7 2) (tkF F) (A 4)).2.1, (rdL (A 8) (F 7 2) (tkF F) (A 4)).2.2, F 7 7) := by unfold rdX; first | exact if_pos (by assumption) | (rw [if_neg (by assumption)]; first | exact if_pos (by assumption) | (rw [if_neg (by assumption)]; first | exact if_pos (by assumption) | exact if_neg (by assumption)))
             unfold rdT at h
             rw [x] at h
             try dsimp only at h
             first
             | (rw [if_neg (by omega)] at h; exact FA_eq h rfl (by first | exact upF_id rfl | (simp only [tkS_up, tkS_S]; done) | (simp only [tkS_up, tkS_S]; exact upF_id rfl) | rfl | (rw [tkS_F]; exact upF_id rfl)) (by first | rfl | exact r4_A))
             | (rw [if_pos (by omega), if_neg (by omega)] at h; exact FA_eq h rfl (by first | exact upF_id rfl | (simp only [tkS_up, tkS_S]; done) | (simp only [tkS_up, tkS_S]; exact upF_id rfl) | rfl | (rw [tkS_F]; exact upF_id rfl)) (by first | rfl | exact r4_A))
             | (rw [if_pos (by omega), if_pos (by omega)] at h; exact FA_eq h rfl (by first | exact upF_id rfl | (simp only [tkS_up, tkS_S]; done) | (simp only [tkS_up, tkS_S]; exact upF_id rfl) | rfl | (rw [tkS_F]; exact upF_id rfl)) (by first | rfl | exact r4_A)))
          | (have x : rdX (A 8) (F 7 2) (tkF F) (A 4) (F 7 7) = rdS (A 8) (F 7 2) (tkF F) (A 4) (F 7 7) := by unfold rdX; first | exact if_pos (by assumption) | (rw [if_neg (by assumption)]; first | exact if_pos (by assumption) | (rw [if_neg (by assumption)]; first | exact if_pos (by assumption) | exact if_neg (by assumption)))
             unfold rdT at h
             rw [x] at h
             try dsimp only at h
             first
             | (rw [if_neg (by omega)] at h; exact FA_eq h rfl (by first | exact upF_id rfl | (simp only [tkS_up, tkS_S]; done) | (simp only [tkS_up, tkS_S]; exact upF_id rfl) | rfl | (rw [tkS_F]; exact upF_id rfl)) (by first | rfl | exact r4_A))
             | (rw [if_pos (by omega), if_neg (by omega)] at h; exact FA_eq h rfl (by first | exact upF_id rfl | (simp only [tkS_up, tkS_S]; done) | (simp only [tkS_up, tkS_S]; exact upF_id rfl) | rfl | (rw [tkS_F]; exact upF_id rfl)) (by first | rfl | exact r4_A))
             | (rw [if_pos (by omega), if_pos (by omega)] at h; exact FA_eq h rfl (by first | exact upF_id rfl | (simp only [tkS_up, tkS_S]; done) | (simp only [tkS_up, tkS_S]; exact upF_id rfl) | rfl | (rw [tkS_F]; exact upF_id rfl)) (by first | rfl | exact r4_A)))
          | (have x : rdX (A 8) (F 7 2) (tkF F) (A 4) (F 7 7) = (-11, tkF F, A 4, F 7 7) := by unfold rdX; first | exact if_pos (by assumption) | (rw [if_neg (by assumption)]; first | exact if_pos (by assumption) | (rw [if_neg (by assumption)]; first | exact if_pos (by assumption) | exact if_neg (by assumption)))
             unfold rdT at h
             rw [x] at h
             try dsimp only at h
             first
             | (rw [if_neg (by omega)] at h; exact FA_eq h rfl (by first | exact upF_id rfl | (simp only [tkS_up, tkS_S]; done) | (simp only [tkS_up, tkS_S]; exact upF_id rfl) | rfl | (rw [tkS_F]; exact upF_id rfl)) (by first | rfl | exact r4_A))
             | (rw [if_pos (by omega), if_neg (by omega)] at h; exact FA_eq h rfl (by first | exact upF_id rfl | (simp only [tkS_up, tkS_S]; done) | (simp only [tkS_up, tkS_S]; exact upF_id rfl) | rfl | (rw [tkS_F]; exact upF_id rfl)) (by first | rfl | exact r4_A))
             | (rw [if_pos (by omega), if_pos (by omega)] at h; exact FA_eq h rfl (by first | exact upF_id rfl | (simp only [tkS_up, tkS_S]; done) | (simp only [tkS_up, tkS_S]; exact upF_id rfl) | rfl | (rw [tkS_F]; exact upF_id rfl)) (by first | rfl | exact r4_A)))
      · skip
        (try simp (disch := omega) only [w32_0, wbi0, Classical.not_not, w32_id] at c3)
        first
        | (have x : rdX (A 8) (F 7 2) (tkF F) (A 4) (F 7 7) = ((rdC (A 8) (F 7 2) (tkF F) (A 4)).1, (rdC (A 8) (F 7 2) (tkF F) (A 4)).2.1, (rdC (A 8) (F 7 2) (tkF F) (A 4)).2.2, F 7 7) := by unfold rdX; first | exact if_pos (by assumption) | (rw [if_neg (by assumption)]; first | exact if_pos (by assumption) | (rw [if_neg (by assumption)]; first | exact if_pos (by assumption) | exact if_neg (by assumption)))
           unfold rdT at h
           rw [x] at h
           try dsimp only at h
           first
           | (rw [if_neg (by omega)] at h; exact FA_eq h rfl (by first | exact upF_id rfl | (simp only [tkS_up, tkS_S]; done) | (simp only [tkS_up, tkS_S]; exact upF_id rfl) | rfl | (rw [tkS_F]; exact upF_id rfl)) (by first | rfl | exact r4_A))
           | (rw [if_pos (by omega), if_neg (by omega)] at h; exact FA_eq h rfl (by first | exact upF_id rfl | (simp only [tkS_up, tkS_S]; done) | (simp only [tkS_up, tkS_S]; exact upF_id rfl) | rfl | (rw [tkS_F]; exact upF_id rfl)) (by first | rfl | exact r4_A))
           | (rw [if_pos (by omega), if_pos (by omega)] at h; exact FA_eq h rfl (by first | exact upF_id rfl | (simp only [tkS_up, tkS_S]; done) | (simp only [tkS_up, tkS_S]; exact upF_id rfl) | rfl | (rw [tkS_F]; exact upF_id rfl)) (by first | rfl | exact r4_A)))
        | (have x : rdX (A 8) (F 7 2) (tkF F) (A 4) (F 7 7) = ((rdL (A 8) (F 7 2) (tkF F) (A 4)).1, (rdL (A 8) (F 7 2) (tkF F) (A 4)).2.1, (rdL (A 8) (F 7 2) (tkF F) (A 4)).2.2, F 7 7) := by unfold rdX; first | exact if_pos (by assumption) | (rw [if_neg (by assumption)]; first | exact if_pos (by assumption) | (rw [if_neg (by assumption)]; first | exact if_pos (by assumption) | exact if_neg (by assumption)))
           unfold rdT at h
           rw [x] at h
           try dsimp only at h
           first
           | (rw [if_neg (by omega)] at h; exact FA_eq h rfl (by first | exact upF_id rfl | (simp only [tkS_up, tkS_S]; done) | (simp only [tkS_up, tkS_S]; exact upF_id rfl) | rfl | (rw [tkS_F]; exact upF_id rfl)) (by first | rfl | exact r4_A))
           | (rw [if_pos (by omega), if_neg (by omega)] at h; exact FA_eq h rfl (by first | exact upF_id rfl | (simp only [tkS_up, tkS_S]; done) | (simp only [tkS_up, tkS_S]; exact upF_id rfl) | rfl | (rw [tkS_F]; exact upF_id rfl)) (by first | rfl | exact r4_A))
           | (rw [if_pos (by omega), if_pos (by omega)] at h; exact FA_eq h rfl (by first | exact upF_id rfl | (simp only [tkS_up, tkS_S]; done) | (simp only [tkS_up, tkS_S]; exact upF_id rfl) | rfl | (rw [tkS_F]; exact upF_id rfl)) (by first | rfl | exact r4_A)))
        | (have x : rdX (A 8) (F 7 2) (tkF F) (A 4) (F 7 7) = rdS (A 8) (F 7 2) (tkF F) (A 4) (F 7 7) := by unfold rdX; first | exact if_pos (by assumption) | (rw [if_neg (by assumption)]; first | exact if_pos (by assumption) | (rw [if_neg (by assumption)]; first | exact if_pos (by assumption) | exact if_neg (by assumption)))
           unfold rdT at h
           rw [x] at h
           try dsimp only at h
           first
           | (rw [if_neg (by omega)] at h; exact FA_eq h rfl (by first | exact upF_id rfl | (simp only [tkS_up, tkS_S]; done) | (simp only [tkS_up, tkS_S]; exact upF_id rfl) | rfl | (rw [tkS_F]; exact upF_id rfl)) (by first | rfl | exact r4_A))
           | (rw [if_pos (by omega), if_neg (by omega)] at h; exact FA_eq h rfl (by first | exact upF_id rfl | (simp only [tkS_up, tkS_S]; done) | (simp only [tkS_up, tkS_S]; exact upF_id rfl) | rfl | (rw [tkS_F]; exact upF_id rfl)) (by first | rfl | exact r4_A))
           | (rw [if_pos (by omega), if_pos (by omega)] at h; exact FA_eq h rfl (by first | exact upF_id rfl | (simp only [tkS_up, tkS_S]; done) | (simp only [tkS_up, tkS_S]; exact upF_id rfl) | rfl | (rw [tkS_F]; exact upF_id rfl)) (by first | rfl | exact r4_A)))
        | (have x : rdX (A 8) (F 7 2) (tkF F) (A 4) (F 7 7) = (-11, tkF F, A 4, F 7 7) := by unfold rdX; first | exact if_pos (by assumption) | (rw [if_neg (by assumption)]; first | exact if_pos (by assumption) | (rw [if_neg (by assumption)]; first | exact if_pos (by assumption) | exact if_neg (by assumption)))
           unfold rdT at h
           rw [x] at h
           try dsimp only at h
           first
           | (rw [if_neg (by omega)] at h; exact FA_eq h rfl (by first | exact upF_id rfl | (simp only [tkS_up, tkS_S]; done) | (simp only [tkS_up, tkS_S]; exact upF_id rfl) | rfl | (rw [tkS_F]; exact upF_id rfl)) (by first | rfl | exact r4_A))
           | (rw [if_pos (by omega), if_neg (by omega)] at h; exact FA_eq h rfl (by first | exact upF_id rfl | (simp only [tkS_up, tkS_S]; done) | (simp only [tkS_up, tkS_S]; exact upF_id rfl) | rfl | (rw [tkS_F]; exact upF_id rfl)) (by first | rfl | exact r4_A))
           | (rw [if_pos (by omega), if_pos (by omega)] at h; exact FA_eq h rfl (by first | exact upF_id rfl | (simp only [tkS_up, tkS_S]; done) | (simp only [tkS_up, tkS_S]; exact upF_id rfl) | rfl | (rw [tkS_F]; exact upF_id rfl)) (by first | rfl | exact r4_A)))
  · skip
    (try simp (disch := omega) only [w32_0, wbi0, Classical.not_not, w32_id] at c1)
    refine ⟨by first | omega | exact ⟨⟨pn, k0⟩, pc⟩ | exact ⟨⟨pn, k0⟩, pc, pg⟩ | exact ⟨by omega, by omega, by omega⟩, ?_⟩
    refine ⟨fun c2 => ?_, fun c2 => ?_⟩
    · skip
      (try simp (disch := omega) only [w32_0, wbi0, Classical.not_not, w32_id] at c2)
      refine ⟨fun c3 => ?_, fun c3 => ?_⟩
      · skip
        (try simp (disch := omega) only [w32_0, wbi0, Classical.not_not, w32_id] at c3)
        refine ⟨by first | omega | exact ⟨⟨pn, k0⟩, pc⟩ | exact ⟨⟨pn, k0⟩, pc, pg⟩ | exact ⟨by omega, by omega, by omega⟩, ?_⟩
        first
        | (have x : rdX (A 8) (F 7 2) (tkF F) (A 4) (F 7 7) = ((rdC (A 8) (F 7 2) (tkF F) (A 4)).1, (rdC (A 8) (F 7 2) (tkF F) (A 4)).2.1, (rdC (A 8) (F 7 2) (tkF F) (A 4)).2.2, F 7 7) := by unfold rdX; first | exact if_pos (by assumption) | (rw [if_neg (by assumption)]; first | exact if_pos (by assumption) | (rw [if_neg (by assumption)]; first | exact if_pos (by assumption) | exact if_neg (by assumption)))
           unfold rdT at h
           rw [x] at h
           try dsimp only at h
           first
           | (rw [if_neg (by omega)] at h; exact FA_eq h rfl (by first | exact upF_id rfl | (simp only [tkS_up, tkS_S]; done) | (simp only [tkS_up, tkS_S]; exact upF_id rfl) | rfl | (rw [tkS_F]; exact upF_id rfl)) (by first | rfl | exact r4_A))
           | (rw [if_pos (by omega), if_neg (by omega)] at h; exact FA_eq h rfl (by first | exact upF_id rfl | (simp only [tkS_up, tkS_S]; done) | (simp only [tkS_up, tkS_S]; exact upF_id rfl) | rfl | (rw [tkS_F]; exact upF_id rfl)) (by first | rfl | exact r4_A))
           | (rw [if_pos (by omega), if_pos (by omega)] at h; exact FA_eq h rfl (by first | exact upF_id rfl | (simp only [tkS_up, tkS_S]; done) | (simp only [tkS_up, tkS_S]; exact upF_id rfl) | rfl | (rw [tkS_F]; exact upF_id rfl)) (by first | rfl | exact r4_A)))
        | (have x : rdX (A 8) (F 7 2) (tkF F) (A 4) (F 7 7) = ((rdL (A 8) (F 7 2) (tkF F) (A 4)).1, (rdL (A 8) (F 7 2) (tkF F) (A 4)).2.1, (rdL (A 8) (F 7 2) (tkF F) (A 4)).2.2, F 7 7) := by unfold rdX; first | exact if_pos (by assumption) | (rw [if_neg (by assumption)]; first | exact if_pos (by assumption) | (rw [if_neg (by assumption)]; first | exact if_pos (by assumption) | exact if_neg (by assumption)))
           unfold rdT at h
           rw [x] at h
           try dsimp only at h
           first
           | (rw [if_neg (by omega)] at h; exact FA_eq h rfl (by first | exact upF_id rfl | (simp only [tkS_up, tkS_S]; done) | (simp only [tkS_up, tkS_S]; exact upF_id rfl) | rfl | (rw [tkS_F]; exact upF_id rfl)) (by first | rfl | exact r4_A))
           | (rw [if_pos (by omega), if_neg (by omega)] at h; exact FA_eq h rfl (by first | exact upF_id rfl | (simp only [tkS_up, tkS_S]; done) | (simp only [tkS_up, tkS_S]; exact upF_id rfl) | rfl | (rw [tkS_F]; exact upF_id rfl)) (by first | rfl | exact r4_A))
           | (rw [if_pos (by omega), if_pos (by omega)] at h; exact FA_eq h rfl (by first | exact upF_id rfl | (simp only [tkS_up, tkS_S]; done) | (simp only [tkS_up, tkS_S]; exact upF_id rfl) | rfl | (rw [tkS_F]; exact upF_id rfl)) (by first | rfl | exact r4_A)))
        | (have x : rdX (A 8) (F 7 2) (tkF F) (A 4) (F 7 7) = rdS (A 8) (F 7 2) (tkF F) (A 4) (F 7 7) := by unfold rdX; first | exact if_pos (by assumption) | (rw [if_neg (by assumption)]; first | exact if_pos (by assumption) | (rw [if_neg (by assumption)]; first | exact if_pos (by assumption) | exact if_neg (by assumption)))
           unfold rdT at h
           rw [x] at h
           try dsimp only at h
           first
           | (rw [if_neg (by omega)] at h; exact FA_eq h rfl (by first | exact upF_id rfl | (simp only [tkS_up, tkS_S]; done) | (simp only [tkS_up, tkS_S]; exact upF_id rfl) | rfl | (rw [tkS_F]; exact upF_id rfl)) (by first | rfl | exact r4_A))
           | (rw [if_pos (by omega), if_neg (by omega)] at h; exact FA_eq h rfl (by first | exact upF_id rfl | (simp only [tkS_up, tkS_S]; done) | (simp only [tkS_up, tkS_S]; exact upF_id rfl) | rfl | (rw [tkS_F]; exact upF_id rfl)) (by first | rfl | exact r4_A))
           | (rw [if_pos (by omega), if_pos (by omega)] at h; exact FA_eq h rfl (by first | exact upF_id rfl | (simp only [tkS_up, tkS_S]; done) | (simp only [tkS_up, tkS_S]; exact upF_id rfl) | rfl | (rw [tkS_F]; exact upF_id rfl)) (by first | rfl | exact r4_A)))
        | (have x : rdX (A 8) (F 7 2) (tkF F) (A 4) (F 7 7) = (-11, tkF F, A 4, F 7 7) := by unfold rdX; first | exact if_pos (by assumption) | (rw [if_neg (by assumption)]; first | exact if_pos (by assumption) | (rw [if_neg (by assumption)]; first | exact if_pos (by assumption) | exact if_neg (by assumption)))
           unfold rdT at h
           rw [x] at h
           try dsimp only at h
           first
           | (rw [if_neg (by omega)] at h; exact FA_eq h rfl (by first | exact upF_id rfl | (simp only [tkS_up, tkS_S]; done) | (simp only [tkS_up, tkS_S]; exact upF_id rfl) | rfl | (rw [tkS_F]; exact upF_id rfl)) (by first | rfl | exact r4_A))
           | (rw [if_pos (by omega), if_neg (by omega)] at h; exact FA_eq h rfl (by first | exact upF_id rfl | (simp only [tkS_up, tkS_S]; done) | (simp only [tkS_up, tkS_S]; exact upF_id rfl) | rfl | (rw [tkS_F]; exact upF_id rfl)) (by first | rfl | exact r4_A))
           | (rw [if_pos (by omega), if_pos (by omega)] at h; exact FA_eq h rfl (by first | exact upF_id rfl | (simp only [tkS_up, tkS_S]; done) | (simp only [tkS_up, tkS_S]; exact upF_id rfl) | rfl | (rw [tkS_F]; exact upF_id rfl)) (by first | rfl | exact r4_A)))
      · skip
        (try simp (disch := omega) only [w32_0, wbi0, Classical.not_not, w32_id] at c3)
        first
        | (have x : rdX (A 8) (F 7 2) (tkF F) (A 4) (F 7 7) = ((rdC (A 8) (F 7 2) (tkF F) (A 4)).1, (rdC (A 8) (F 7 2) (tkF F) (A 4)).2.1, (rdC (A 8) (F 7 2) (tkF F) (A 4)).2.2, F 7 7) := by unfold rdX; first | exact if_pos (by assumption) | (rw [if_neg (by assumption)]; first | exact if_pos (by assumption) | (rw [if_neg (by assumption)]; first | exact if_pos (by assumption) | exact if_neg (by assumption)))
           unfold rdT at h
           rw [x] at h
           try dsimp only at h
           first
           | (rw [if_neg (by omega)] at h; exact FA_eq h rfl (by first | exact upF_id rfl | (simp only [tkS_up, tkS_S]; done) | (simp only [tkS_up, tkS_S]; exact upF_id rfl) | rfl | (rw [tkS_F]; exact upF_id rfl)) (by first | rfl | exact r4_A))
           | (rw [if_pos (by omega), if_neg (by omega)] at h; exact FA_eq h rfl (by first | exact upF_id rfl | (simp only [tkS_up, tkS_S]; done) | (simp only [tkS_up, tkS_S]; exact upF_id rfl) | rfl | (rw [tkS_F]; exact upF_id rfl)) (by first | rfl | exact r4_A))
           | (rw [if_pos (by omega), if_pos (by omega)] at h; exact FA_eq h rfl (by first | exact upF_id rfl | (simp only [tkS_up, tkS_S]; done) | (simp only [tkS_up, tkS_S]; exact upF_id rfl) | rfl | (rw [tkS_F]; exact upF_id rfl)) (by first | rfl | exact r4_A)))
        | (have x : rdX (A 8) (F 7 2) (tkF F) (A 4) (F 7 7) = ((rdL (A 8) (F 7 2) (tkF F) (A 4)).1, (rdL (A 8) (F 7 2) (tkF F) (A 4)).2.1, (rdL (A 8) (F 7 2) (tkF F) (A 4)).2.2, F 7 7) := by unfold rdX; first | exact if_pos (by assumption) | (rw [if_neg (by assumption)]; first | exact if_pos (by assumption) | (rw [if_neg (by assumption)]; first | exact if_pos (by assumption) | exact if_neg (by assumption)))
           unfold rdT at h
           rw [x] at h
           try dsimp only at h
           first
           | (rw [if_neg (by omega)] at h; exact FA_eq h rfl (by first | exact upF_id rfl | (simp only [tkS_up, tkS_S]; done) | (simp only [tkS_up, tkS_S]; exact upF_id rfl) | rfl | (rw [tkS_F]; exact upF_id rfl)) (by first | rfl | exact r4_A))
           | (rw [if_pos (by omega), if_neg (by omega)] at h; exact FA_eq h rfl (by first | exact upF_id rfl | (simp only [tkS_up, tkS_S]; done) | (simp only [tkS_up, tkS_S]; exact upF_id rfl) | rfl | (rw [tkS_F]; exact upF_id rfl)) (by first | rfl | exact r4_A))
           | (rw [if_pos (by omega), if_pos (by omega)] at h; exact FA_eq h rfl (by first | exact upF_id rfl | (simp only [tkS_up, tkS_S]; done) | (simp only [tkS_up, tkS_S]; exact upF_id rfl) | rfl | (rw [tkS_F]; exact upF_id rfl)) (by first | rfl | exact r4_A)))
        | (have x : rdX (A 8) (F 7 2) (tkF F) (A 4) (F 7 7) = rdS (A 8) (F 7 2) (tkF F) (A 4) (F 7 7) := by unfold rdX; first | exact if_pos (by assumption) | (rw [if_neg (by assumption)]; first | exact if_pos (by assumption) | (rw [if_neg (by assumption)]; first | exact if_pos (by assumption) | exact if_neg (by assumption)))
           unfold rdT at h
           rw [x] at h
           try dsimp only at h
           first
           | (rw [if_neg (by omega)] at h; exact FA_eq h rfl (by first | exact upF_id rfl | (simp only [tkS_up, tkS_S]; done) | (simp only [tkS_up, tkS_S]; exact upF_id rfl) | rfl | (rw [tkS_F]; exact upF_id rfl)) (by first | rfl | exact r4_A))
           | (rw [if_pos (by omega), if_neg (by omega)] at h; exact FA_eq h rfl (by first | exact upF_id rfl | (simp only [tkS_up, tkS_S]; done) | (simp only [tkS_up, tkS_S]; exact upF_id rfl) | rfl | (rw [tkS_F]; exact upF_id rfl)) (by first | rfl | exact r4_A))
           | (rw [if_pos (by omega), if_pos (by omega)] at h; exact FA_eq h rfl (by first | exact upF_id rfl | (simp only [tkS_up, tkS_S]; done) | (simp only [tkS_up, tkS_S]; exact upF_id rfl) | rfl | (rw [tkS_F]; exact upF_id rfl)) (by first | rfl | exact r4_A)))
        | (have x : rdX (A 8) (F 7 2) (tkF F) (A 4) (F 7 7) = (-11, tkF F, A 4, F 7 7) := by unfold rdX; first | exact if_pos (by assumption) | (rw [if_neg (by assumption)]; first | exact if_pos (by assumption) | (rw [if_neg (by assumption)]; first | exact if_pos (by assumption) | exact if_neg (by assumption)))
           unfold rdT at h
           rw [x] at h
           try dsimp only at h
           first
           | (rw [if_neg (by omega)] at h; exact FA_eq h rfl (by first | exact upF_id rfl | (simp only [tkS_up, tkS_S]; done) | (simp only [tkS_up, tkS_S]; exact upF_id rfl) | rfl | (rw [tkS_F]; exact upF_id rfl)) (by first | rfl | exact r4_A))
           | (rw [if_pos (by omega), if_neg (by omega)] at h; exact FA_eq h rfl (by first | exact upF_id rfl | (simp only [tkS_up, tkS_S]; done) | (simp only [tkS_up, tkS_S]; exact upF_id rfl) | rfl | (rw [tkS_F]; exact upF_id rfl)) (by first | rfl | exact r4_A))
           | (rw [if_pos (by omega), if_pos (by omega)] at h; exact FA_eq h rfl (by first | exact upF_id rfl | (simp only [tkS_up, tkS_S]; done) | (simp only [tkS_up, tkS_S]; exact upF_id rfl) | rfl | (rw [tkS_F]; exact upF_id rfl)) (by first | rfl | exact r4_A)))
    · skip
      (try simp (disch := omega) only [w32_0, wbi0, Classical.not_not, w32_id] at c2)
      first
      | (have x : rdX (A 8) (F 7 2) (tkF F) (A 4) (F 7 7) = ((rdC (A 8) (F 7 2) (tkF F) (A 4)).1, (rdC (A 8) (F 7 2) (tkF F) (A 4)).2.1, (rdC (A 8) (F 7 2) (tkF F) (A 4)).2.2, F 7 7) := by unfold rdX; first | exact if_pos (by assumption) | (rw [if_neg (by assumption)]; first | exact if_pos (by assumption) | (rw [if_neg (by assumption)]; first | exact if_pos (by assumption) | exact if_neg (by assumption)))
         unfold rdT at h
         rw [x] at h
         try dsimp only at h
         first
         | (rw [if_neg (by omega)] at h; exact FA_eq h rfl (by first | exact upF_id rfl | (simp only [tkS_up, tkS_S]; done) | (simp only [tkS_up, tkS_S]; exact upF_id rfl) | rfl | (rw [tkS_F]; exact upF_id rfl)) (by first | rfl | exact r4_A))
         | (rw [if_pos (by omega), if_neg (by omega)] at h; exact FA_eq h rfl (by first | exact upF_id rfl | (simp only [tkS_up, tkS_S]; done) | (simp only [tkS_up, tkS_S]; exact upF_id rfl) | rfl | (rw [tkS_F]; exact upF_id rfl)) (by first | rfl | exact r4_A))
         | (rw [if_pos (by omega), if_pos (by omega)] at h; exact FA_eq h rfl (by first | exact upF_id rfl | (simp only [tkS_up, tkS_S]; done) | (simp only [tkS_up, tkS_S]; exact upF_id rfl) | rfl | (rw [tkS_F]; exact upF_id rfl)) (by first | rfl | exact r4_A)))
      | (have x : rdX (A 8) (F 7 2) (tkF F) (A 4) (F 7 7) = ((rdL (A 8) (F 7 2) (tkF F) (A 4)).1, (rdL (A 8) (F 7 2) (tkF F) (A 4)).2.1, (rdL (A 8) (F 7 2) (tkF F) (A 4)).2.2, F 7 7) := by unfold rdX; first | exact if_pos (by assumption) | (rw [if_neg (by assumption)]; first | exact if_pos (by assumption) | (rw [if_neg (by assumption)]; first | exact if_pos (by assumption) | exact if_neg (by assumption)))
         unfold rdT at h
         rw [x] at h
         try dsimp only at h
         first
         | (rw [if_neg (by omega)] at h; exact FA_eq h rfl (by first | exact upF_id rfl | (simp only [tkS_up, tkS_S]; done) | (simp only [tkS_up, tkS_S]; exact upF_id rfl) | rfl | (rw [tkS_F]; exact upF_id rfl)) (by first | rfl | exact r4_A))
         | (rw [if_pos (by omega), if_neg (by omega)] at h; exact FA_eq h rfl (by first | exact upF_id rfl | (simp only [tkS_up, tkS_S]; done) | (simp only [tkS_up, tkS_S]; exact upF_id rfl) | rfl | (rw [tkS_F]; exact upF_id rfl)) (by first | rfl | exact r4_A))
         | (rw [if_pos (by omega), if_pos (by omega)] at h; exact FA_eq h rfl (by first | exact upF_id rfl | (simp only [tkS_up, tkS_S]; done) | (simp only [tkS_up, tkS_S]; exact upF_id rfl) | rfl | (rw [tkS_F]; exact upF_id rfl)) (by first | rfl | exact r4_A)))
      | (have x : rdX (A 8) (F 7 2) (tkF F) (A 4) (F 7 7) = rdS (A 8) (F 7 2) (tkF F) (A 4) (F 7 7) := by unfold rdX; first | exact if_pos (by assumption) | (rw [if_neg (by assumption)]; first | exact if_pos (by assumption) | (rw [if_neg (by assumption)]; first | exact if_pos (by assumption) | exact if_neg (by assumption)))
         unfold rdT at h
         rw [x] at h
         try dsimp only at h
         first
         | (rw [if_neg (by omega)] at h; exact FA_eq h rfl (by first | exact upF_id rfl | (simp only [tkS_up, tkS_S]; done) | (simp only [tkS_up, tkS_S]; exact upF_id rfl) | rfl | (rw [tkS_F]; exact upF_id rfl)) (by first | rfl | exact r4_A))
         | (rw [if_pos (by omega), if_neg (by omega)] at h; exact FA_eq h rfl (by first | exact upF_id rfl | (simp only [tkS_up, tkS_S]; done) | (simp only [tkS_up, tkS_S]; exact upF_id rfl) | rfl | (rw [tkS_F]; exact upF_id rfl)) (by first | rfl | exact r4_A))
         | (rw [if_pos (by omega), if_pos (by omega)] at h; exact FA_eq h rfl (by first | exact upF_id rfl | (simp only [tkS_up, tkS_S]; done) | (simp only [tkS_up, tkS_S]; exact upF_id rfl) | rfl | (rw [tkS_F]; exact upF_id rfl)) (by first | rfl | exact r4_A)))
      | (have x : rdX (A 8) (F 7 2) (tkF F) (A 4) (F 7 7) = (-11, tkF F, A 4, F 7 7) := by unfold rdX; first | exact if_pos (by assumption) | (rw [if_neg (by assumption)]; first | exact if_pos (by assumption) | (rw [if_neg (by assumption)]; first | exact if_pos (by assumption) | exact if_neg (by assumption)))
         unfold rdT at h
         rw [x] at h
         try dsimp only at h
         first
         | (rw [if_neg (by omega)] at h; exact FA_eq h rfl (by first | exact upF_id rfl | (simp only [tkS_up, tkS_S]; done) | (simp only [tkS_up, tkS_S]; exact upF_id rfl) | rfl | (rw [tkS_F]; exact upF_id rfl)) (by first | rfl | exact r4_A))
         | (rw [if_pos (by omega), if_neg (by omega)] at h; exact FA_eq h rfl (by first | exact upF_id rfl | (simp only [tkS_up, tkS_S]; done) | (simp only [tkS_up, tkS_S]; exact upF_id rfl) | rfl | (rw [tkS_F]; exact upF_id rfl)) (by first | rfl | exact r4_A))
         | (rw [if_pos (by omega), if_pos (by omega)] at h; exact FA_eq h rfl (by first | exact upF_id rfl | (simp only [tkS_up, tkS_S]; done) | (simp only [tkS_up, tkS_S]; exact upF_id rfl) | rfl | (rw [tkS_F]; exact upF_id rfl)) (by first | rfl | exact r4_A)))
theorem qtX7_readStatement (l : Launch) : am_CT l layX qeX7_readStatement := am_met0 rfl (by decide +kernel) rfl rfl rfl rfl rfl (fun _ => rfl) rfl (qzX7_readStatement l) (fun k e1 h => (qyX7_readStatement l k e1 h).2) (fun as F A K h => by
  replace h : qsX7_readStatement as F A K := h
  unfold qsX7_readStatement at h
  split at h
  · rename_i o p
    refine ⟨by first | exact Nat.le_of_ble_eq_true rfl | simp [am_fl, am_cat], ?_⟩
    replace h := am_cond2 h
    rcases h with ⟨hb, h⟩ | h
    · simp only [Bool.and_eq_true] at hb
      obtain ⟨hb0, hb1⟩ := hb
      have hb0 := am_bq hb0
      subst hb0
      have hb1 := am_bq hb1
      subst hb1
      exact am_way_line (qvX7_readStatement_7_3  F A K h)
    exact h.elim
  · exact h.elim)
