def qkX9_signed : Nat → Option CI := fun pc => cond (Nat.ble 88 pc) none (cond (Nat.ble 44 pc) (cond (Nat.ble 65 pc) (cond (Nat.ble 76 pc) (cond (Nat.ble 82 pc) (cond (Nat.beq pc 82) (some (.goto 5, 85, [87])) (cond (Nat.beq pc 85) (some (.iload 4, 87, [])) (cond (Nat.beq pc 87) (some (.ireturn, 88, [])) (none)))) (cond (Nat.beq pc 76) (some (.ifCond .eq 9, 79, [85])) (cond (Nat.beq pc 79) (some (.iload 4, 81, [])) (cond (Nat.beq pc 81) (some (.ineg, 82, [])) (none))))) (cond (Nat.ble 71 pc) (cond (Nat.beq pc 71) (some (.aload_n 0, 72, [])) (cond (Nat.beq pc 72) (some (.invokevirtual 248, 75, [])) (cond (Nat.beq pc 75) (some (.iload_n 3, 76, [])) (none)))) (cond (Nat.beq pc 65) (some (.iconst 0, 66, [])) (cond (Nat.beq pc 66) (some (.bipush (-12), 68, [])) (cond (Nat.beq pc 68) (some (.invokevirtual 241, 71, [])) (none)))))) (cond (Nat.ble 52 pc) (cond (Nat.ble 58 pc) (cond (Nat.beq pc 58) (some (.ifCond .ne 7, 61, [65])) (cond (Nat.beq pc 61) (some (.iconst 1, 62, [])) (cond (Nat.beq pc 62) (some (.goto 4, 65, [66])) (none)))) (cond (Nat.beq pc 52) (some (.iload 4, 54, [])) (cond (Nat.beq pc 54) (some (.ifCond .ne 11, 57, [65])) (cond (Nat.beq pc 57) (some (.iload_n 2, 58, [])) (none))))) (cond (Nat.ble 46 pc) (cond (Nat.beq pc 46) (some (.invokevirtual 245, 49, [])) (cond (Nat.beq pc 49) (some (.istore 4, 51, [])) (cond (Nat.beq pc 51) (some (.aload_n 0, 52, [])) (none)))) (cond (Nat.beq pc 44) (some (.iconst 0, 45, [])) (cond (Nat.beq pc 45) (some (.iload_n 1, 46, [])) (none)))))) (cond (Nat.ble 23 pc) (cond (Nat.ble 34 pc) (cond (Nat.ble 39 pc) (cond (Nat.beq pc 39) (some (.aload_n 0, 40, [])) (cond (Nat.beq pc 40) (some (.invokevirtual 248, 43, [])) (cond (Nat.beq pc 43) (some (.aload_n 0, 44, [])) (none)))) (cond (Nat.beq pc 34) (some (.istore_n 3, 35, [])) (cond (Nat.beq pc 35) (some (.iload_n 3, 36, [])) (cond (Nat.beq pc 36) (some (.ifCond .eq 7, 39, [43])) (none))))) (cond (Nat.ble 29 pc) (cond (Nat.beq pc 29) (some (.iconst 1, 30, [])) (cond (Nat.beq pc 30) (some (.goto 4, 33, [34])) (cond (Nat.beq pc 33) (some (.iconst 0, 34, [])) (none)))) (cond (Nat.beq pc 23) (some (.iaload, 24, [])) (cond (Nat.beq pc 24) (some (.bipush 45, 26, [])) (cond (Nat.beq pc 26) (some (.if_icmp .ne 7, 29, [33])) (none)))))) (cond (Nat.ble 9 pc) (cond (Nat.ble 16 pc) (cond (Nat.beq pc 16) (some (.getfield 7, 19, [])) (cond (Nat.beq pc 19) (some (.aload_n 0, 20, [])) (cond (Nat.beq pc 20) (some (.getfield 201, 23, [])) (none)))) (cond (Nat.beq pc 9) (some (.getfield 232, 12, [])) (cond (Nat.beq pc 12) (some (.ifCond .ne 21, 15, [33])) (cond (Nat.beq pc 15) (some (.aload_n 0, 16, [])) (none))))) (cond (Nat.ble 4 pc) (cond (Nat.beq pc 4) (some (.iconst 4, 5, [])) (cond (Nat.beq pc 5) (some (.if_icmp .ne 28, 8, [33])) (cond (Nat.beq pc 8) (some (.aload_n 0, 9, [])) (none)))) (cond (Nat.beq pc 0) (some (.aload_n 0, 1, [])) (cond (Nat.beq pc 1) (some (.getfield 204, 4, [])) (none)))))))
theorem qkX9_signed_ok : ∀ pc i nx ts, qkX9_signed pc = some (i, nx, ts) → am_cok cX9_signed pc (i, nx, ts) = true := fun pc i nx ts h => am_tok_ok (n := 88) (by decide +kernel) (fun pc h => by show cond (Nat.ble 88 pc) _ _ = _; rw [Nat.ble_eq_true_of_le h]; rfl) h
def qaX9_signed : Nat → Option CE := fun k => cond (Nat.beq k 248) (some qeX9_goOn) (cond (Nat.beq k 245) (some qeX9_integerHere) (cond (Nat.beq k 241) (some qeX9_failsIf) (none)))
theorem qyX9_signed (l : Launch) (hst : l.stackTraces = false) : ∀ k e1, qaX9_signed k = some e1 → am_cal l layM RX9 13 k e1 ∧ True := q_cons ⟨am_calV (ci := 9) (qtX9_goOn l hst) qbX9_goOn (by decide) rfl (am_tb_at 1576 (by decide +kernel) rfl), trivial⟩ (q_cons ⟨am_calV (ci := 9) (qtX9_integerHere l) qbX9_integerHere (by decide) rfl (am_tb_at 1588 (by decide +kernel) rfl), trivial⟩ (q_cons ⟨am_calV (ci := 9) (qtX9_failsIf l) qbX9_failsIf (by decide) rfl (am_tb_at 1572 (by decide +kernel) rfl), trivial⟩ (q_nil)))
def qxX9_signed : CX := (qkX9_signed, layM, qfX9, qaX9_signed, qcX9, qlX9, qmX9, (some .int), true, none, 0, none, fun _ => none)
theorem qzX9_signed (l : Launch) (hst : l.stackTraces = false) : am_sta l qxX9_signed RX9 13 cX9_signed := ⟨qkX9_signed_ok, layM_ok, qfX9_ok, qcX9_ok, qlX9_ok, am_mthP qmX9_ok (by decide), fun k e1 h => (qyX9_signed l hst k e1 h).1⟩
def qsX9_signed : SP := fun as F A K => match as with
  | [.inr (.inr o), .inl m, .inl z] => cond (Nat.beq o 25) (((byO (A 26) ∧ (0 ≤ (F 25 20) ∧ (F 25 20) ≤ 800) ∧ psOK ((F 25 20)) (psF F)) ∧ (0 ≤ m ∧ m ≤ 200) ∧ (z = 0 ∨ z = 1)) ∧ (K (some (some (vI (sgR (A 26) ((F 25 20)) m (psF F))))) (psS F (sgS (A 26) ((F 25 20)) m z (psF F))) A)) (False)
  | _ => False
def qeX9_signed : CE := (yX9_signed, cX9_signed, 5, (some .int), 2, some 9, 1, [], 0, 13, qsX9_signed)
theorem qbX9_signed : am_mb qeX9_signed := ⟨am_tb_at 1607 (by decide +kernel) rfl, am_tb_at 124 (by decide +kernel) rfl, ⟨by decide, by decide, by decide +kernel⟩, by decide, by decide, am_tb_at 1606 (by decide +kernel) rfl, am_tb_at 62 (by decide +kernel) rfl, _, _, rfl⟩
set_option maxRecDepth 20000 in
theorem qvX9_signed_25 (m : Int) (z : Int) (F : FF) (A : AA) (K : KK) (h : ((byO (A 26) ∧ (0 ≤ (F 25 20) ∧ (F 25 20) ≤ 800) ∧ psOK ((F 25 20)) (psF F)) ∧ (0 ≤ m ∧ m ≤ 200) ∧ (z = 0 ∨ z = 1)) ∧ (K (some (some (vI (sgR (A 26) ((F 25 20)) m (psF F))))) (psS F (sgS (A 26) ((F 25 20)) m z (psF F))) A)) : am_line qxX9_signed 44 [vR 25, vI m, vI z] 5 F A K := by
  show am_stp qxX9_signed (am_run qxX9_signed (fun _ => none) (fun _ _ _ _ _ _ => False) K 44) K 0 [some (vR 25), some (vI m), some (vI z), none, none] [] F A 0
  obtain ⟨hp, h⟩ := h
  obtain ⟨⟨pt, pn, pk⟩, pm, pz⟩ := hp
  have ke : -14 ≤ F 25 26 ∧ F 25 26 ≤ 0 := pk.1
  have kt : 0 ≤ F 25 23 ∧ F 25 23 ≤ 4 := pk.2.2.2.2.1
  have k3 : 0 ≤ F 25 22 := pk.2.2.1.1
  have k4 : F 25 22 ≤ F 25 21 ∧ F 25 21 ≤ F 25 20 := pk.2.2.2.1
  have k5 : F 25 23 ≠ 3 → F 25 22 < F 25 21 := pk.2.2.2.2.2.1
  have kg := goM_ok (T := A 26) pk pn.1 pn.2
  have vg := inV_b (a := 0) (b := m) kg
  have vn := inV_b (a := 0) (b := m) pk
  have ig := inS_ok (a := 0) (b := m) kg pn.2
  have i_n := inS_ok (a := 0) (b := m) pk pn.2
  have bp : F 25 23 ≠ 3 → 0 ≤ A 26 (F 25 22) ∧ A 26 (F 25 22) ≤ 255 := fun q => pt (F 25 22) k3 (by have := k5 q; omega)

  show (w32 (F 25 23) = w32 4 → ((w32 (F 25 26) = w32 0 → ((0 ≤ w32 (F 25 22) ∧ w32 (F 25 22) < 800) ∧ ((w32 (A 26 (w32 (F 25 22))) = w32 45 → ((w32 1 = w32 0 → _) ∧ (¬ w32 1 = w32 0 → ((byO (A 26) ∧ (0 ≤ (F 25 20) ∧ (F 25 20) ≤ 800) ∧ psOK ((F 25 20)) (psF F)) ∧ ((((0 ≤ (F 25 20) ∧ (F 25 20) ≤ 800) ∧ psOK ((F 25 20)) ((goM (A 26) ((F 25 20)) (psF F)))) ∧ (-2147483648 ≤ 0 ∧ 0 < 2147483648) ∧ (-2147483648 ≤ m ∧ m < 2147483648)) ∧ ((w32 (inV 0 m ((goM (A 26) ((F 25 20)) (psF F)))) = w32 0 → ((w32 z = w32 0 → (((1 = 0 ∨ 1 = 1) ∧ (-2147483648 ≤ ((inS 0 m ((goM (A 26) ((F 25 20)) (psF F)))).1) ∧ ((inS 0 m ((goM (A 26) ((F 25 20)) (psF F)))).1) < 2147483648)) ∧ ((byO (A 26) ∧ (0 ≤ (F 25 20) ∧ (F 25 20) ≤ 800) ∧ psOK ((F 25 20)) ((fiP ((inS 0 m ((goM (A 26) ((F 25 20)) (psF F))))) 1 (-12)))) ∧ ((w32 1 = w32 0 → _) ∧ (¬ w32 1 = w32 0 → (K (some (some (vI (-(inV 0 m ((goM (A 26) ((F 25 20)) (psF F)))))))) (psS (psS (psS (psS F (goM (A 26) ((F 25 20)) (psF F))) (inS 0 m ((goM (A 26) ((F 25 20)) (psF F))))) (fiP ((inS 0 m ((goM (A 26) ((F 25 20)) (psF F))))) 1 (-12))) (goM (A 26) ((F 25 20)) ((fiP ((inS 0 m ((goM (A 26) ((F 25 20)) (psF F))))) 1 (-12))))) A)))))) ∧ (¬ w32 z = w32 0 → (((0 = 0 ∨ 0 = 1) ∧ (-2147483648 ≤ ((inS 0 m ((goM (A 26) ((F 25 20)) (psF F)))).1) ∧ ((inS 0 m ((goM (A 26) ((F 25 20)) (psF F)))).1) < 2147483648)) ∧ ((byO (A 26) ∧ (0 ≤ (F 25 20) ∧ (F 25 20) ≤ 800) ∧ psOK ((F 25 20)) ((fiP ((inS 0 m ((goM (A 26) ((F 25 20)) (psF F))))) 0 (-12)))) ∧ ((w32 1 = w32 0 → _) ∧ (¬ w32 1 = w32 0 → (K (some (some (vI (-(inV 0 m ((goM (A 26) ((F 25 20)) (psF F)))))))) (psS (psS (psS (psS F (goM (A 26) ((F 25 20)) (psF F))) (inS 0 m ((goM (A 26) ((F 25 20)) (psF F))))) (fiP ((inS 0 m ((goM (A 26) ((F 25 20)) (psF F))))) 0 (-12))) (goM (A 26) ((F 25 20)) ((fiP ((inS 0 m ((goM (A 26) ((F 25 20)) (psF F))))) 0 (-12))))) A)))))))) ∧ (¬ w32 (inV 0 m ((goM (A 26) ((F 25 20)) (psF F)))) = w32 0 → (((0 = 0 ∨ 0 = 1) ∧ (-2147483648 ≤ ((inS 0 m ((goM (A 26) ((F 25 20)) (psF F)))).1) ∧ ((inS 0 m ((goM (A 26) ((F 25 20)) (psF F)))).1) < 2147483648)) ∧ ((byO (A 26) ∧ (0 ≤ (F 25 20) ∧ (F 25 20) ≤ 800) ∧ psOK ((F 25 20)) ((fiP ((inS 0 m ((goM (A 26) ((F 25 20)) (psF F))))) 0 (-12)))) ∧ ((w32 1 = w32 0 → _) ∧ (¬ w32 1 = w32 0 → (K (some (some (vI (-(inV 0 m ((goM (A 26) ((F 25 20)) (psF F)))))))) (psS (psS (psS (psS F (goM (A 26) ((F 25 20)) (psF F))) (inS 0 m ((goM (A 26) ((F 25 20)) (psF F))))) (fiP ((inS 0 m ((goM (A 26) ((F 25 20)) (psF F))))) 0 (-12))) (goM (A 26) ((F 25 20)) ((fiP ((inS 0 m ((goM (A 26) ((F 25 20)) (psF F))))) 0 (-12))))) A)))))))))))) ∧ (¬ w32 (A 26 (w32 (F 25 22))) = w32 45 → ((w32 0 = w32 0 → ((((0 ≤ (F 25 20) ∧ (F 25 20) ≤ 800) ∧ psOK ((F 25 20)) (psF F)) ∧ (-2147483648 ≤ 0 ∧ 0 < 2147483648) ∧ (-2147483648 ≤ m ∧ m < 2147483648)) ∧ ((w32 (inV 0 m (psF F)) = w32 0 → ((w32 z = w32 0 → (((1 = 0 ∨ 1 = 1) ∧ (-2147483648 ≤ ((inS 0 m (psF F)).1) ∧ ((inS 0 m (psF F)).1) < 2147483648)) ∧ ((byO (A 26) ∧ (0 ≤ (F 25 20) ∧ (F 25 20) ≤ 800) ∧ psOK ((F 25 20)) ((fiP ((inS 0 m (psF F))) 1 (-12)))) ∧ ((w32 0 = w32 0 → (K (some (some (vI (inV 0 m (psF F))))) (psS (psS (psS F (inS 0 m (psF F))) (fiP ((inS 0 m (psF F))) 1 (-12))) (goM (A 26) ((F 25 20)) ((fiP ((inS 0 m (psF F))) 1 (-12))))) A)) ∧ (¬ w32 0 = w32 0 → _))))) ∧ (¬ w32 z = w32 0 → (((0 = 0 ∨ 0 = 1) ∧ (-2147483648 ≤ ((inS 0 m (psF F)).1) ∧ ((inS 0 m (psF F)).1) < 2147483648)) ∧ ((byO (A 26) ∧ (0 ≤ (F 25 20) ∧ (F 25 20) ≤ 800) ∧ psOK ((F 25 20)) ((fiP ((inS 0 m (psF F))) 0 (-12)))) ∧ ((w32 0 = w32 0 → (K (some (some (vI (inV 0 m (psF F))))) (psS (psS (psS F (inS 0 m (psF F))) (fiP ((inS 0 m (psF F))) 0 (-12))) (goM (A 26) ((F 25 20)) ((fiP ((inS 0 m (psF F))) 0 (-12))))) A)) ∧ (¬ w32 0 = w32 0 → _))))))) ∧ (¬ w32 (inV 0 m (psF F)) = w32 0 → (((0 = 0 ∨ 0 = 1) ∧ (-2147483648 ≤ ((inS 0 m (psF F)).1) ∧ ((inS 0 m (psF F)).1) < 2147483648)) ∧ ((byO (A 26) ∧ (0 ≤ (F 25 20) ∧ (F 25 20) ≤ 800) ∧ psOK ((F 25 20)) ((fiP ((inS 0 m (psF F))) 0 (-12)))) ∧ ((w32 0 = w32 0 → (K (some (some (vI (inV 0 m (psF F))))) (psS (psS (psS F (inS 0 m (psF F))) (fiP ((inS 0 m (psF F))) 0 (-12))) (goM (A 26) ((F 25 20)) ((fiP ((inS 0 m (psF F))) 0 (-12))))) A)) ∧ (¬ w32 0 = w32 0 → _)))))))) ∧ (¬ w32 0 = w32 0 → _)))))) ∧ (¬ w32 (F 25 26) = w32 0 → ((w32 0 = w32 0 → ((((0 ≤ (F 25 20) ∧ (F 25 20) ≤ 800) ∧ psOK ((F 25 20)) (psF F)) ∧ (-2147483648 ≤ 0 ∧ 0 < 2147483648) ∧ (-2147483648 ≤ m ∧ m < 2147483648)) ∧ ((w32 (inV 0 m (psF F)) = w32 0 → ((w32 z = w32 0 → (((1 = 0 ∨ 1 = 1) ∧ (-2147483648 ≤ ((inS 0 m (psF F)).1) ∧ ((inS 0 m (psF F)).1) < 2147483648)) ∧ ((byO (A 26) ∧ (0 ≤ (F 25 20) ∧ (F 25 20) ≤ 800) ∧ psOK ((F 25 20)) ((fiP ((inS 0 m (psF F))) 1 (-12)))) ∧ ((w32 0 = w32 0 → (K (some (some (vI (inV 0 m (psF F))))) (psS (psS (psS F (inS 0 m (psF F))) (fiP ((inS 0 m (psF F))) 1 (-12))) (goM (A 26) ((F 25 20)) ((fiP ((inS 0 m (psF F))) 1 (-12))))) A)) ∧ (¬ w32 0 = w32 0 → _))))) ∧ (¬ w32 z = w32 0 → (((0 = 0 ∨ 0 = 1) ∧ (-2147483648 ≤ ((inS 0 m (psF F)).1) ∧ ((inS 0 m (psF F)).1) < 2147483648)) ∧ ((byO (A 26) ∧ (0 ≤ (F 25 20) ∧ (F 25 20) ≤ 800) ∧ psOK ((F 25 20)) ((fiP ((inS 0 m (psF F))) 0 (-12)))) ∧ ((w32 0 = w32 0 → (K (some (some (vI (inV 0 m (psF F))))) (psS (psS (psS F (inS 0 m (psF F))) (fiP ((inS 0 m (psF F))) 0 (-12))) (goM (A 26) ((F 25 20)) ((fiP ((inS 0 m (psF F))) 0 (-12))))) A)) ∧ (¬ w32 0 = w32 0 → _))))))) ∧ (¬ w32 (inV 0 m (psF F)) = w32 0 → (((0 = 0 ∨ 0 = 1) ∧ (-2147483648 ≤ ((inS 0 m (psF F)).1) ∧ ((inS 0 m (psF F)).1) < 2147483648)) ∧ ((byO (A 26) ∧ (0 ≤ (F 25 20) ∧ (F 25 20) ≤ 800) ∧ psOK ((F 25 20)) ((fiP ((inS 0 m (psF F))) 0 (-12)))) ∧ ((w32 0 = w32 0 → (K (some (some (vI (inV 0 m (psF F))))) (psS (psS (psS F (inS 0 m (psF F))) (fiP ((inS 0 m (psF F))) 0 (-12))) (goM (A 26) ((F 25 20)) ((fiP ((inS 0 m (psF F))) 0 (-12))))) A)) ∧ (¬ w32 0 = w32 0 → _)))))))) ∧ (¬ w32 0 = w32 0 → _))))) ∧ (¬ w32 (F 25 23) = w32 4 → ((w32 0 = w32 0 → ((((0 ≤ (F 25 20) ∧ (F 25 20) ≤ 800) ∧ psOK ((F 25 20)) (psF F)) ∧ (-2147483648 ≤ 0 ∧ 0 < 2147483648) ∧ (-2147483648 ≤ m ∧ m < 2147483648)) ∧ ((w32 (inV 0 m (psF F)) = w32 0 → ((w32 z = w32 0 → (((1 = 0 ∨ 1 = 1) ∧ (-2147483648 ≤ ((inS 0 m (psF F)).1) ∧ ((inS 0 m (psF F)).1) < 2147483648)) ∧ ((byO (A 26) ∧ (0 ≤ (F 25 20) ∧ (F 25 20) ≤ 800) ∧ psOK ((F 25 20)) ((fiP ((inS 0 m (psF F))) 1 (-12)))) ∧ ((w32 0 = w32 0 → (K (some (some (vI (inV 0 m (psF F))))) (psS (psS (psS F (inS 0 m (psF F))) (fiP ((inS 0 m (psF F))) 1 (-12))) (goM (A 26) ((F 25 20)) ((fiP ((inS 0 m (psF F))) 1 (-12))))) A)) ∧ (¬ w32 0 = w32 0 → _))))) ∧ (¬ w32 z = w32 0 → (((0 = 0 ∨ 0 = 1) ∧ (-2147483648 ≤ ((inS 0 m (psF F)).1) ∧ ((inS 0 m (psF F)).1) < 2147483648)) ∧ ((byO (A 26) ∧ (0 ≤ (F 25 20) ∧ (F 25 20) ≤ 800) ∧ psOK ((F 25 20)) ((fiP ((inS 0 m (psF F))) 0 (-12)))) ∧ ((w32 0 = w32 0 → (K (some (some (vI (inV 0 m (psF F))))) (psS (psS (psS F (inS 0 m (psF F))) (fiP ((inS 0 m (psF F))) 0 (-12))) (goM (A 26) ((F 25 20)) ((fiP ((inS 0 m (psF F))) 0 (-12))))) A)) ∧ (¬ w32 0 = w32 0 → _))))))) ∧ (¬ w32 (inV 0 m (psF F)) = w32 0 → (((0 = 0 ∨ 0 = 1) ∧ (-2147483648 ≤ ((inS 0 m (psF F)).1) ∧ ((inS 0 m (psF F)).1) < 2147483648)) ∧ ((byO (A 26) ∧ (0 ≤ (F 25 20) ∧ (F 25 20) ≤ 800) ∧ psOK ((F 25 20)) ((fiP ((inS 0 m (psF F))) 0 (-12)))) ∧ ((w32 0 = w32 0 → (K (some (some (vI (inV 0 m (psF F))))) (psS (psS (psS F (inS 0 m (psF F))) (fiP ((inS 0 m (psF F))) 0 (-12))) (goM (A 26) ((F 25 20)) ((fiP ((inS 0 m (psF F))) 0 (-12))))) A)) ∧ (¬ w32 0 = w32 0 → _)))))))) ∧ (¬ w32 0 = w32 0 → _)))
  refine ⟨fun c1 => ?_, fun c1 => ?_⟩
  · skip
    (try (have bq := bp (by omega); rw [w32_id (x := F 25 22) (by omega) (by omega), w32_id (x := A 26 (F 25 22)) (by omega) (by omega)] at c1)); (try simp only [fiP_22, inS_22, nmS_22, psF_e, psF_q, psF_p, psF_o, psF_t, psF_v] at c1); (try simp (disch := omega) only [w32_0, wbi0, Classical.not_not, w32_id] at c1)
    refine ⟨fun c2 => ?_, fun c2 => ?_⟩
    · skip
      (try (have bq := bp (by omega); rw [w32_id (x := F 25 22) (by omega) (by omega), w32_id (x := A 26 (F 25 22)) (by omega) (by omega)] at c2)); (try simp only [fiP_22, inS_22, nmS_22, psF_e, psF_q, psF_p, psF_o, psF_t, psF_v] at c2); (try simp (disch := omega) only [w32_0, wbi0, Classical.not_not, w32_id] at c2)
      refine ⟨by first | exact ⟨pt, pn, pk⟩ | exact ⟨⟨pn, pk⟩, by omega, by omega⟩ | exact ⟨⟨pn, kg⟩, by omega, by omega⟩ | (have q9 := k5 (by omega); rw [w32_id (by omega) (by omega)]; omega) | exact ⟨Or.inl rfl, by have := ig.1; omega, by have := ig.1; omega⟩ | exact ⟨Or.inr rfl, by have := ig.1; omega, by have := ig.1; omega⟩ | exact ⟨Or.inl rfl, by have := i_n.1; omega, by have := i_n.1; omega⟩ | exact ⟨Or.inr rfl, by have := i_n.1; omega, by have := i_n.1; omega⟩ | exact ⟨pt, pn, fiP_ok ig pn.2 (by decide)⟩ | exact ⟨pt, pn, fiP_ok i_n pn.2 (by decide)⟩, ?_⟩
      refine ⟨fun c3 => ?_, fun c3 => ?_⟩
      · skip
        (try (have bq := bp (by omega); rw [w32_id (x := F 25 22) (by omega) (by omega), w32_id (x := A 26 (F 25 22)) (by omega) (by omega)] at c3)); (try simp only [fiP_22, inS_22, nmS_22, psF_e, psF_q, psF_p, psF_o, psF_t, psF_v] at c3); (try simp (disch := omega) only [w32_0, wbi0, Classical.not_not, w32_id] at c3)
        refine ⟨fun q => absurd q (by decide), fun _ => ?_⟩
        refine ⟨by first | exact ⟨pt, pn, pk⟩ | exact ⟨⟨pn, pk⟩, by omega, by omega⟩ | exact ⟨⟨pn, kg⟩, by omega, by omega⟩ | (have q9 := k5 (by omega); rw [w32_id (by omega) (by omega)]; omega) | exact ⟨Or.inl rfl, by have := ig.1; omega, by have := ig.1; omega⟩ | exact ⟨Or.inr rfl, by have := ig.1; omega, by have := ig.1; omega⟩ | exact ⟨Or.inl rfl, by have := i_n.1; omega, by have := i_n.1; omega⟩ | exact ⟨Or.inr rfl, by have := i_n.1; omega, by have := i_n.1; omega⟩ | exact ⟨pt, pn, fiP_ok ig pn.2 (by decide)⟩ | exact ⟨pt, pn, fiP_ok i_n pn.2 (by decide)⟩, ?_⟩
        refine ⟨by first | exact ⟨pt, pn, pk⟩ | exact ⟨⟨pn, pk⟩, by omega, by omega⟩ | exact ⟨⟨pn, kg⟩, by omega, by omega⟩ | (have q9 := k5 (by omega); rw [w32_id (by omega) (by omega)]; omega) | exact ⟨Or.inl rfl, by have := ig.1; omega, by have := ig.1; omega⟩ | exact ⟨Or.inr rfl, by have := ig.1; omega, by have := ig.1; omega⟩ | exact ⟨Or.inl rfl, by have := i_n.1; omega, by have := i_n.1; omega⟩ | exact ⟨Or.inr rfl, by have := i_n.1; omega, by have := i_n.1; omega⟩ | exact ⟨pt, pn, fiP_ok ig pn.2 (by decide)⟩ | exact ⟨pt, pn, fiP_ok i_n pn.2 (by decide)⟩, ?_⟩
        refine ⟨fun c4 => ?_, fun c4 => ?_⟩
        · skip
          (try (have bq := bp (by omega); rw [w32_id (x := F 25 22) (by omega) (by omega), w32_id (x := A 26 (F 25 22)) (by omega) (by omega)] at c4)); (try simp only [fiP_22, inS_22, nmS_22, psF_e, psF_q, psF_p, psF_o, psF_t, psF_v] at c4); (try simp (disch := omega) only [w32_0, wbi0, Classical.not_not, w32_id] at c4)
          refine ⟨fun c5 => ?_, fun c5 => ?_⟩
          · skip
            (try (have bq := bp (by omega); rw [w32_id (x := F 25 22) (by omega) (by omega), w32_id (x := A 26 (F 25 22)) (by omega) (by omega)] at c5)); (try simp only [fiP_22, inS_22, nmS_22, psF_e, psF_q, psF_p, psF_o, psF_t, psF_v] at c5); (try simp (disch := omega) only [w32_0, wbi0, Classical.not_not, w32_id] at c5)
            refine ⟨by first | exact ⟨pt, pn, pk⟩ | exact ⟨⟨pn, pk⟩, by omega, by omega⟩ | exact ⟨⟨pn, kg⟩, by omega, by omega⟩ | (have q9 := k5 (by omega); rw [w32_id (by omega) (by omega)]; omega) | exact ⟨Or.inl rfl, by have := ig.1; omega, by have := ig.1; omega⟩ | exact ⟨Or.inr rfl, by have := ig.1; omega, by have := ig.1; omega⟩ | exact ⟨Or.inl rfl, by have := i_n.1; omega, by have := i_n.1; omega⟩ | exact ⟨Or.inr rfl, by have := i_n.1; omega, by have := i_n.1; omega⟩ | exact ⟨pt, pn, fiP_ok ig pn.2 (by decide)⟩ | exact ⟨pt, pn, fiP_ok i_n pn.2 (by decide)⟩, ?_⟩
            refine ⟨by first | exact ⟨pt, pn, pk⟩ | exact ⟨⟨pn, pk⟩, by omega, by omega⟩ | exact ⟨⟨pn, kg⟩, by omega, by omega⟩ | (have q9 := k5 (by omega); rw [w32_id (by omega) (by omega)]; omega) | exact ⟨Or.inl rfl, by have := ig.1; omega, by have := ig.1; omega⟩ | exact ⟨Or.inr rfl, by have := ig.1; omega, by have := ig.1; omega⟩ | exact ⟨Or.inl rfl, by have := i_n.1; omega, by have := i_n.1; omega⟩ | exact ⟨Or.inr rfl, by have := i_n.1; omega, by have := i_n.1; omega⟩ | exact ⟨pt, pn, fiP_ok ig pn.2 (by decide)⟩ | exact ⟨pt, pn, fiP_ok i_n pn.2 (by decide)⟩, ?_⟩
            refine ⟨fun q => absurd q (by decide), fun _ => ?_⟩
            first
            | (have e1 : sg1 (A 26) (F 25 20) (psF F) = goM (A 26) (F 25 20) (psF F) := if_pos ⟨by show F 25 23 = 4; omega, by show F 25 26 = 0; omega, by show A 26 (F 25 22) = 45; omega⟩
               have e2 : (if inV 0 m (goM (A 26) (F 25 20) (psF F)) = 0 ∧ z = 0 then (1 : Int) else 0) = 0 := if_neg (by omega)
               have eS : sgS (A 26) (F 25 20) m z (psF F) = goM (A 26) (F 25 20) (fiP (inS 0 m (goM (A 26) (F 25 20) (psF F))) 0 (-12)) := by unfold sgS; rw [e1, e2]
               have eR : sgR (A 26) (F 25 20) m (psF F) = -(inV 0 m (goM (A 26) (F 25 20) (psF F))) := (if_pos ⟨by show F 25 23 = 4; omega, by show F 25 26 = 0; omega, by show A 26 (F 25 22) = 45; omega⟩).trans (by rw [e1])
               rw [eS, eR] at h
               simp only [psS_S]
               exact h)
            | (have e1 : sg1 (A 26) (F 25 20) (psF F) = goM (A 26) (F 25 20) (psF F) := if_pos ⟨by show F 25 23 = 4; omega, by show F 25 26 = 0; omega, by show A 26 (F 25 22) = 45; omega⟩
               have e2 : (if inV 0 m (goM (A 26) (F 25 20) (psF F)) = 0 ∧ z = 0 then (1 : Int) else 0) = 1 := if_pos (by omega)
               have eS : sgS (A 26) (F 25 20) m z (psF F) = goM (A 26) (F 25 20) (fiP (inS 0 m (goM (A 26) (F 25 20) (psF F))) 1 (-12)) := by unfold sgS; rw [e1, e2]
               have eR : sgR (A 26) (F 25 20) m (psF F) = -(inV 0 m (goM (A 26) (F 25 20) (psF F))) := (if_pos ⟨by show F 25 23 = 4; omega, by show F 25 26 = 0; omega, by show A 26 (F 25 22) = 45; omega⟩).trans (by rw [e1])
               rw [eS, eR] at h
               simp only [psS_S]
               exact h)
            | (have e1 : sg1 (A 26) (F 25 20) (psF F) = psF F := if_neg (fun y => by have y1 : F 25 23 = 4 := y.1; have y2 : F 25 26 = 0 := y.2.1; have y3 : A 26 (F 25 22) = 45 := y.2.2; omega)
               have e2 : (if inV 0 m (psF F) = 0 ∧ z = 0 then (1 : Int) else 0) = 0 := if_neg (by omega)
               have eS : sgS (A 26) (F 25 20) m z (psF F) = goM (A 26) (F 25 20) (fiP (inS 0 m (psF F)) 0 (-12)) := by unfold sgS; rw [e1, e2]
               have eR : sgR (A 26) (F 25 20) m (psF F) = inV 0 m (psF F) := (if_neg (fun y => by have y1 : F 25 23 = 4 := y.1; have y2 : F 25 26 = 0 := y.2.1; have y3 : A 26 (F 25 22) = 45 := y.2.2; omega)).trans (by rw [e1])
               rw [eS, eR] at h
               simp only [psS_S]
               exact h)
            | (have e1 : sg1 (A 26) (F 25 20) (psF F) = psF F := if_neg (fun y => by have y1 : F 25 23 = 4 := y.1; have y2 : F 25 26 = 0 := y.2.1; have y3 : A 26 (F 25 22) = 45 := y.2.2; omega)
               have e2 : (if inV 0 m (psF F) = 0 ∧ z = 0 then (1 : Int) else 0) = 1 := if_pos (by omega)
               have eS : sgS (A 26) (F 25 20) m z (psF F) = goM (A 26) (F 25 20) (fiP (inS 0 m (psF F)) 1 (-12)) := by unfold sgS; rw [e1, e2]
               have eR : sgR (A 26) (F 25 20) m (psF F) = inV 0 m (psF F) := (if_neg (fun y => by have y1 : F 25 23 = 4 := y.1; have y2 : F 25 26 = 0 := y.2.1; have y3 : A 26 (F 25 22) = 45 := y.2.2; omega)).trans (by rw [e1])
               rw [eS, eR] at h
               simp only [psS_S]
               exact h)
          · skip
            (try (have bq := bp (by omega); rw [w32_id (x := F 25 22) (by omega) (by omega), w32_id (x := A 26 (F 25 22)) (by omega) (by omega)] at c5)); (try simp only [fiP_22, inS_22, nmS_22, psF_e, psF_q, psF_p, psF_o, psF_t, psF_v] at c5); (try simp (disch := omega) only [w32_0, wbi0, Classical.not_not, w32_id] at c5)
            refine ⟨by first | exact ⟨pt, pn, pk⟩ | exact ⟨⟨pn, pk⟩, by omega, by omega⟩ | exact ⟨⟨pn, kg⟩, by omega, by omega⟩ | (have q9 := k5 (by omega); rw [w32_id (by omega) (by omega)]; omega) | exact ⟨Or.inl rfl, by have := ig.1; omega, by have := ig.1; omega⟩ | exact ⟨Or.inr rfl, by have := ig.1; omega, by have := ig.1; omega⟩ | exact ⟨Or.inl rfl, by have := i_n.1; omega, by have := i_n.1; omega⟩ | exact ⟨Or.inr rfl, by have := i_n.1; omega, by have := i_n.1; omega⟩ | exact ⟨pt, pn, fiP_ok ig pn.2 (by decide)⟩ | exact ⟨pt, pn, fiP_ok i_n pn.2 (by decide)⟩, ?_⟩
            refine ⟨by first | exact ⟨pt, pn, pk⟩ | exact ⟨⟨pn, pk⟩, by omega, by omega⟩ | exact ⟨⟨pn, kg⟩, by omega, by omega⟩ | (have q9 := k5 (by omega); rw [w32_id (by omega) (by omega)]; omega) | exact ⟨Or.inl rfl, by have := ig.1; omega, by have := ig.1; omega⟩ | exact ⟨Or.inr rfl, by have := ig.1; omega, by have := ig.1; omega⟩ | exact ⟨Or.inl rfl, by have := i_n.1; omega, by have := i_n.1; omega⟩ | exact ⟨Or.inr rfl, by have := i_n.1; omega, by have := i_n.1; omega⟩ | exact ⟨pt, pn, fiP_ok ig pn.2 (by decide)⟩ | exact ⟨pt, pn, fiP_ok i_n pn.2 (by decide)⟩, ?_⟩
            refine ⟨fun q => absurd q (by decide), fun _ => ?_⟩
            first
            | (have e1 : sg1 (A 26) (F 25 20) (psF F) = goM (A 26) (F 25 20) (psF F) := if_pos ⟨by show F 25 23 = 4; omega, by show F 25 26 = 0; omega, by show A 26 (F 25 22) = 45; omega⟩
               have e2 : (if inV 0 m (goM (A 26) (F 25 20) (psF F)) = 0 ∧ z = 0 then (1 : Int) else 0) = 0 := if_neg (by omega)
               have eS : sgS (A 26) (F 25 20) m z (psF F) = goM (A 26) (F 25 20) (fiP (inS 0 m (goM (A 26) (F 25 20) (psF F))) 0 (-12)) := by unfold sgS; rw [e1, e2]
               have eR : sgR (A 26) (F 25 20) m (psF F) = -(inV 0 m (goM (A 26) (F 25 20) (psF F))) := (if_pos ⟨by show F 25 23 = 4; omega, by show F 25 26 = 0; omega, by show A 26 (F 25 22) = 45; omega⟩).trans (by rw [e1])
               rw [eS, eR] at h
               simp only [psS_S]
               exact h)
            | (have e1 : sg1 (A 26) (F 25 20) (psF F) = goM (A 26) (F 25 20) (psF F) := if_pos ⟨by show F 25 23 = 4; omega, by show F 25 26 = 0; omega, by show A 26 (F 25 22) = 45; omega⟩
               have e2 : (if inV 0 m (goM (A 26) (F 25 20) (psF F)) = 0 ∧ z = 0 then (1 : Int) else 0) = 1 := if_pos (by omega)
               have eS : sgS (A 26) (F 25 20) m z (psF F) = goM (A 26) (F 25 20) (fiP (inS 0 m (goM (A 26) (F 25 20) (psF F))) 1 (-12)) := by unfold sgS; rw [e1, e2]
               have eR : sgR (A 26) (F 25 20) m (psF F) = -(inV 0 m (goM (A 26) (F 25 20) (psF F))) := (if_pos ⟨by show F 25 23 = 4; omega, by show F 25 26 = 0; omega, by show A 26 (F 25 22) = 45; omega⟩).trans (by rw [e1])
               rw [eS, eR] at h
               simp only [psS_S]
               exact h)
            | (have e1 : sg1 (A 26) (F 25 20) (psF F) = psF F := if_neg (fun y => by have y1 : F 25 23 = 4 := y.1; have y2 : F 25 26 = 0 := y.2.1; have y3 : A 26 (F 25 22) = 45 := y.2.2; omega)
               have e2 : (if inV 0 m (psF F) = 0 ∧ z = 0 then (1 : Int) else 0) = 0 := if_neg (by omega)
               have eS : sgS (A 26) (F 25 20) m z (psF F) = goM (A 26) (F 25 20) (fiP (inS 0 m (psF F)) 0 (-12)) := by unfold sgS; rw [e1, e2]
               have eR : sgR (A 26) (F 25 20) m (psF F) = inV 0 m (psF F) := (if_neg (fun y => by have y1 : F 25 23 = 4 := y.1; have y2 : F 25 26 = 0 := y.2.1; have y3 : A 26 (F 25 22) = 45 := y.2.2; omega)).trans (by rw [e1])
               rw [eS, eR] at h
               simp only [psS_S]
               exact h)
            | (have e1 : sg1 (A 26) (F 25 20) (psF F) = psF F := if_neg (fun y => by have y1 : F 25 23 = 4 := y.1; have y2 : F 25 26 = 0 := y.2.1; have y3 : A 26 (F 25 22) = 45 := y.2.2; omega)
               have e2 : (if inV 0 m (psF F) = 0 ∧ z = 0 then (1 : Int) else 0) = 1 := if_pos (by omega)
               have eS : sgS (A 26) (F 25 20) m z (psF F) = goM (A 26) (F 25 20) (fiP (inS 0 m (psF F)) 1 (-12)) := by unfold sgS; rw [e1, e2]
               have eR : sgR (A 26) (F 25 20) m (psF F) = inV 0 m (psF F) := (if_neg (fun y => by have y1 : F 25 23 = 4 := y.1; have y2 : F 25 26 = 0 := y.2.1; have y3 : A 26 (F 25 22) = 45 := y.2.2; omega)).trans (by rw [e1])
               rw [eS, eR] at h
               simp only [psS_S]
               exact h)
        · skip
          (try (have bq := bp (by omega); rw [w32_id (x := F 25 22) (by omega) (by omega), w32_id (x := A 26 (F 25 22)) (by omega) (by omega)] at c4)); (try simp only [fiP_22, inS_22, nmS_22, psF_e, psF_q, psF_p, psF_o, psF_t, psF_v] at c4); (try simp (disch := omega) only [w32_0, wbi0, Classical.not_not, w32_id] at c4)
          refine ⟨by first | exact ⟨pt, pn, pk⟩ | exact ⟨⟨pn, pk⟩, by omega, by omega⟩ | exact ⟨⟨pn, kg⟩, by omega, by omega⟩ | (have q9 := k5 (by omega); rw [w32_id (by omega) (by omega)]; omega) | exact ⟨Or.inl rfl, by have := ig.1; omega, by have := ig.1; omega⟩ | exact ⟨Or.inr rfl, by have := ig.1; omega, by have := ig.1; omega⟩ | exact ⟨Or.inl rfl, by have := i_n.1; omega, by have := i_n.1; omega⟩ | exact ⟨Or.inr rfl, by have := i_n.1; omega, by have := i_n.1; omega⟩ | exact ⟨pt, pn, fiP_ok ig pn.2 (by decide)⟩ | exact ⟨pt, pn, fiP_ok i_n pn.2 (by decide)⟩, ?_⟩
          refine ⟨by first | exact ⟨pt, pn, pk⟩ | exact ⟨⟨pn, pk⟩, by omega, by omega⟩ | exact ⟨⟨pn, kg⟩, by omega, by omega⟩ | (have q9 := k5 (by omega); rw [w32_id (by omega) (by omega)]; omega) | exact ⟨Or.inl rfl, by have := ig.1; omega, by have := ig.1; omega⟩ | exact ⟨Or.inr rfl, by have := ig.1; omega, by have := ig.1; omega⟩ | exact ⟨Or.inl rfl, by have := i_n.1; omega, by have := i_n.1; omega⟩ | exact ⟨Or.inr rfl, by have := i_n.1; omega, by have := i_n.1; omega⟩ | exact ⟨pt, pn, fiP_ok ig pn.2 (by decide)⟩ | exact ⟨pt, pn, fiP_ok i_n pn.2 (by decide)⟩, ?_⟩
          refine ⟨fun q => absurd q (by decide), fun _ => ?_⟩
          first
          | (have e1 : sg1 (A 26) (F 25 20) (psF F) = goM (A 26) (F 25 20) (psF F) := if_pos ⟨by show F 25 23 = 4; omega, by show F 25 26 = 0; omega, by show A 26 (F 25 22) = 45; omega⟩
             have e2 : (if inV 0 m (goM (A 26) (F 25 20) (psF F)) = 0 ∧ z = 0 then (1 : Int) else 0) = 0 := if_neg (by omega)
             have eS : sgS (A 26) (F 25 20) m z (psF F) = goM (A 26) (F 25 20) (fiP (inS 0 m (goM (A 26) (F 25 20) (psF F))) 0 (-12)) := by unfold sgS; rw [e1, e2]
             have eR : sgR (A 26) (F 25 20) m (psF F) = -(inV 0 m (goM (A 26) (F 25 20) (psF F))) := (if_pos ⟨by show F 25 23 = 4; omega, by show F 25 26 = 0; omega, by show A 26 (F 25 22) = 45; omega⟩).trans (by rw [e1])
             rw [eS, eR] at h
             simp only [psS_S]
             exact h)
          | (have e1 : sg1 (A 26) (F 25 20) (psF F) = goM (A 26) (F 25 20) (psF F) := if_pos ⟨by show F 25 23 = 4; omega, by show F 25 26 = 0; omega, by show A 26 (F 25 22) = 45; omega⟩
             have e2 : (if inV 0 m (goM (A 26) (F 25 20) (psF F)) = 0 ∧ z = 0 then (1 : Int) else 0) = 1 := if_pos (by omega)
             have eS : sgS (A 26) (F 25 20) m z (psF F) = goM (A 26) (F 25 20) (fiP (inS 0 m (goM (A 26) (F 25 20) (psF F))) 1 (-12)) := by unfold sgS; rw [e1, e2]
             have eR : sgR (A 26) (F 25 20) m (psF F) = -(inV 0 m (goM (A 26) (F 25 20) (psF F))) := (if_pos ⟨by show F 25 23 = 4; omega, by show F 25 26 = 0; omega, by show A 26 (F 25 22) = 45; omega⟩).trans (by rw [e1])
             rw [eS, eR] at h
             simp only [psS_S]
             exact h)
          | (have e1 : sg1 (A 26) (F 25 20) (psF F) = psF F := if_neg (fun y => by have y1 : F 25 23 = 4 := y.1; have y2 : F 25 26 = 0 := y.2.1; have y3 : A 26 (F 25 22) = 45 := y.2.2; omega)
             have e2 : (if inV 0 m (psF F) = 0 ∧ z = 0 then (1 : Int) else 0) = 0 := if_neg (by omega)
             have eS : sgS (A 26) (F 25 20) m z (psF F) = goM (A 26) (F 25 20) (fiP (inS 0 m (psF F)) 0 (-12)) := by unfold sgS; rw [e1, e2]
             have eR : sgR (A 26) (F 25 20) m (psF F) = inV 0 m (psF F) := (if_neg (fun y => by have y1 : F 25 23 = 4 := y.1; have y2 : F 25 26 = 0 := y.2.1; have y3 : A 26 (F 25 22) = 45 := y.2.2; omega)).trans (by rw [e1])
             rw [eS, eR] at h
             simp only [psS_S]
             exact h)
          | (have e1 : sg1 (A 26) (F 25 20) (psF F) = psF F := if_neg (fun y => by have y1 : F 25 23 = 4 := y.1; have y2 : F 25 26 = 0 := y.2.1; have y3 : A 26 (F 25 22) = 45 := y.2.2; omega)
             have e2 : (if inV 0 m (psF F) = 0 ∧ z = 0 then (1 : Int) else 0) = 1 := if_pos (by omega)
             have eS : sgS (A 26) (F 25 20) m z (psF F) = goM (A 26) (F 25 20) (fiP (inS 0 m (psF F)) 1 (-12)) := by unfold sgS; rw [e1, e2]
             have eR : sgR (A 26) (F 25 20) m (psF F) = inV 0 m (psF F) := (if_neg (fun y => by have y1 : F 25 23 = 4 := y.1; have y2 : F 25 26 = 0 := y.2.1; have y3 : A 26 (F 25 22) = 45 := y.2.2; omega)).trans (by rw [e1])
             rw [eS, eR] at h
             simp only [psS_S]
             exact h)
      · skip
        (try (have bq := bp (by omega); rw [w32_id (x := F 25 22) (by omega) (by omega), w32_id (x := A 26 (F 25 22)) (by omega) (by omega)] at c3)); (try simp only [fiP_22, inS_22, nmS_22, psF_e, psF_q, psF_p, psF_o, psF_t, psF_v] at c3); (try simp (disch := omega) only [w32_0, wbi0, Classical.not_not, w32_id] at c3)
        refine ⟨fun _ => ?_, fun q => absurd (by decide) q⟩
        refine ⟨by first | exact ⟨pt, pn, pk⟩ | exact ⟨⟨pn, pk⟩, by omega, by omega⟩ | exact ⟨⟨pn, kg⟩, by omega, by omega⟩ | (have q9 := k5 (by omega); rw [w32_id (by omega) (by omega)]; omega) | exact ⟨Or.inl rfl, by have := ig.1; omega, by have := ig.1; omega⟩ | exact ⟨Or.inr rfl, by have := ig.1; omega, by have := ig.1; omega⟩ | exact ⟨Or.inl rfl, by have := i_n.1; omega, by have := i_n.1; omega⟩ | exact ⟨Or.inr rfl, by have := i_n.1; omega, by have := i_n.1; omega⟩ | exact ⟨pt, pn, fiP_ok ig pn.2 (by decide)⟩ | exact ⟨pt, pn, fiP_ok i_n pn.2 (by decide)⟩, ?_⟩
        refine ⟨fun c4 => ?_, fun c4 => ?_⟩
        · skip
          (try (have bq := bp (by omega); rw [w32_id (x := F 25 22) (by omega) (by omega), w32_id (x := A 26 (F 25 22)) (by omega) (by omega)] at c4)); (try simp only [fiP_22, inS_22, nmS_22, psF_e, psF_q, psF_p, psF_o, psF_t, psF_v] at c4); (try simp (disch := omega) only [w32_0, wbi0, Classical.not_not, w32_id] at c4)
          refine ⟨fun c5 => ?_, fun c5 => ?_⟩
          · skip
            (try (have bq := bp (by omega); rw [w32_id (x := F 25 22) (by omega) (by omega), w32_id (x := A 26 (F 25 22)) (by omega) (by omega)] at c5)); (try simp only [fiP_22, inS_22, nmS_22, psF_e, psF_q, psF_p, psF_o, psF_t, psF_v] at c5); (try simp (disch := omega) only [w32_0, wbi0, Classical.not_not, w32_id] at c5)
            refine ⟨by first | exact ⟨pt, pn, pk⟩ | exact ⟨⟨pn, pk⟩, by omega, by omega⟩ | exact ⟨⟨pn, kg⟩, by omega, by omega⟩ | (have q9 := k5 (by omega); rw [w32_id (by omega) (by omega)]; omega) | exact ⟨Or.inl rfl, by have := ig.1; omega, by have := ig.1; omega⟩ | exact ⟨Or.inr rfl, by have := ig.1; omega, by have := ig.1; omega⟩ | exact ⟨Or.inl rfl, by have := i_n.1; omega, by have := i_n.1; omega⟩ | exact ⟨Or.inr rfl, by have := i_n.1; omega, by have := i_n.1; omega⟩ | exact ⟨pt, pn, fiP_ok ig pn.2 (by decide)⟩ | exact ⟨pt, pn, fiP_ok i_n pn.2 (by decide)⟩, ?_⟩
            refine ⟨by first | exact ⟨pt, pn, pk⟩ | exact ⟨⟨pn, pk⟩, by omega, by omega⟩ | exact ⟨⟨pn, kg⟩, by omega, by omega⟩ | (have q9 := k5 (by omega); rw [w32_id (by omega) (by omega)]; omega) | exact ⟨Or.inl rfl, by have := ig.1; omega, by have := ig.1; omega⟩ | exact ⟨Or.inr rfl, by have := ig.1; omega, by have := ig.1; omega⟩ | exact ⟨Or.inl rfl, by have := i_n.1; omega, by have := i_n.1; omega⟩ | exact ⟨Or.inr rfl, by have := i_n.1; omega, by have := i_n.1; omega⟩ | exact ⟨pt, pn, fiP_ok ig pn.2 (by decide)⟩ | exact ⟨pt, pn, fiP_ok i_n pn.2 (by decide)⟩, ?_⟩
            refine ⟨fun _ => ?_, fun q => absurd (by decide) q⟩
            first
            | (have e1 : sg1 (A 26) (F 25 20) (psF F) = goM (A 26) (F 25 20) (psF F) := if_pos ⟨by show F 25 23 = 4; omega, by show F 25 26 = 0; omega, by show A 26 (F 25 22) = 45; omega⟩
               have e2 : (if inV 0 m (goM (A 26) (F 25 20) (psF F)) = 0 ∧ z = 0 then (1 : Int) else 0) = 0 := if_neg (by omega)
               have eS : sgS (A 26) (F 25 20) m z (psF F) = goM (A 26) (F 25 20) (fiP (inS 0 m (goM (A 26) (F 25 20) (psF F))) 0 (-12)) := by unfold sgS; rw [e1, e2]
               have eR : sgR (A 26) (F 25 20) m (psF F) = -(inV 0 m (goM (A 26) (F 25 20) (psF F))) := (if_pos ⟨by show F 25 23 = 4; omega, by show F 25 26 = 0; omega, by show A 26 (F 25 22) = 45; omega⟩).trans (by rw [e1])
               rw [eS, eR] at h
               simp only [psS_S]
               exact h)
            | (have e1 : sg1 (A 26) (F 25 20) (psF F) = goM (A 26) (F 25 20) (psF F) := if_pos ⟨by show F 25 23 = 4; omega, by show F 25 26 = 0; omega, by show A 26 (F 25 22) = 45; omega⟩
               have e2 : (if inV 0 m (goM (A 26) (F 25 20) (psF F)) = 0 ∧ z = 0 then (1 : Int) else 0) = 1 := if_pos (by omega)
               have eS : sgS (A 26) (F 25 20) m z (psF F) = goM (A 26) (F 25 20) (fiP (inS 0 m (goM (A 26) (F 25 20) (psF F))) 1 (-12)) := by unfold sgS; rw [e1, e2]
               have eR : sgR (A 26) (F 25 20) m (psF F) = -(inV 0 m (goM (A 26) (F 25 20) (psF F))) := (if_pos ⟨by show F 25 23 = 4; omega, by show F 25 26 = 0; omega, by show A 26 (F 25 22) = 45; omega⟩).trans (by rw [e1])
               rw [eS, eR] at h
               simp only [psS_S]
               exact h)
            | (have e1 : sg1 (A 26) (F 25 20) (psF F) = psF F := if_neg (fun y => by have y1 : F 25 23 = 4 := y.1; have y2 : F 25 26 = 0 := y.2.1; have y3 : A 26 (F 25 22) = 45 := y.2.2; omega)
               have e2 : (if inV 0 m (psF F) = 0 ∧ z = 0 then (1 : Int) else 0) = 0 := if_neg (by omega)
               have eS : sgS (A 26) (F 25 20) m z (psF F) = goM (A 26) (F 25 20) (fiP (inS 0 m (psF F)) 0 (-12)) := by unfold sgS; rw [e1, e2]
               have eR : sgR (A 26) (F 25 20) m (psF F) = inV 0 m (psF F) := (if_neg (fun y => by have y1 : F 25 23 = 4 := y.1; have y2 : F 25 26 = 0 := y.2.1; have y3 : A 26 (F 25 22) = 45 := y.2.2; omega)).trans (by rw [e1])
               rw [eS, eR] at h
               simp only [psS_S]
               exact h)
            | (have e1 : sg1 (A 26) (F 25 20) (psF F) = psF F := if_neg (fun y => by have y1 : F 25 23 = 4 := y.1; have y2 : F 25 26 = 0 := y.2.1; have y3 : A 26 (F 25 22) = 45 := y.2.2; omega)
               have e2 : (if inV 0 m (psF F) = 0 ∧ z = 0 then (1 : Int) else 0) = 1 := if_pos (by omega)
               have eS : sgS (A 26) (F 25 20) m z (psF F) = goM (A 26) (F 25 20) (fiP (inS 0 m (psF F)) 1 (-12)) := by unfold sgS; rw [e1, e2]
               have eR : sgR (A 26) (F 25 20) m (psF F) = inV 0 m (psF F) := (if_neg (fun y => by have y1 : F 25 23 = 4 := y.1; have y2 : F 25 26 = 0 := y.2.1; have y3 : A 26 (F 25 22) = 45 := y.2.2; omega)).trans (by rw [e1])
               rw [eS, eR] at h
               simp only [psS_S]
               exact h)
          · skip
            (try (have bq := bp (by omega); rw [w32_id (x := F 25 22) (by omega) (by omega), w32_id (x := A 26 (F 25 22)) (by omega) (by omega)] at c5)); (try simp only [fiP_22, inS_22, nmS_22, psF_e, psF_q, psF_p, psF_o, psF_t, psF_v] at c5); (try simp (disch := omega) only [w32_0, wbi0, Classical.not_not, w32_id] at c5)
            refine ⟨by first | exact ⟨pt, pn, pk⟩ | exact ⟨⟨pn, pk⟩, by omega, by omega⟩ | exact ⟨⟨pn, kg⟩, by omega, by omega⟩ | (have q9 := k5 (by omega); rw [w32_id (by omega) (by omega)]; omega) | exact ⟨Or.inl rfl, by have := ig.1; omega, by have := ig.1; omega⟩ | exact ⟨Or.inr rfl, by have := ig.1; omega, by have := ig.1; omega⟩ | exact ⟨Or.inl rfl, by have := i_n.1; omega, by have := i_n.1; omega⟩ | exact ⟨Or.inr rfl, by have := i_n.1; omega, by have := i_n.1; omega⟩ | exact ⟨pt, pn, fiP_ok ig pn.2 (by decide)⟩ | exact ⟨pt, pn, fiP_ok i_n pn.2 (by decide)⟩, ?_⟩
            refine ⟨by first | exact ⟨pt, pn, pk⟩ | exact ⟨⟨pn, pk⟩, by omega, by omega⟩ | exact ⟨⟨pn, kg⟩, by omega, by omega⟩ | (have q9 := k5 (by omega); rw [w32_id (by omega) (by omega)]; omega) | exact ⟨Or.inl rfl, by have := ig.1; omega, by have := ig.1; omega⟩ | exact ⟨Or.inr rfl, by have := ig.1; omega, by have := ig.1; omega⟩ | exact ⟨Or.inl rfl, by have := i_n.1; omega, by have := i_n.1; omega⟩ | exact ⟨Or.inr rfl, by have := i_n.1; omega, by have := i_n.1; omega⟩ | exact ⟨pt, pn, fiP_ok ig pn.2 (by decide)⟩ | exact ⟨pt, pn, fiP_ok i_n pn.2 (by decide)⟩, ?_⟩
            refine ⟨fun _ => ?_, fun q => absurd (by decide) q⟩
            first
            | (have e1 : sg1 (A 26) (F 25 20) (psF F) = goM (A 26) (F 25 20) (psF F) := if_pos ⟨by show F 25 23 = 4; omega, by show F 25 26 = 0; omega, by show A 26 (F 25 22) = 45; omega⟩
               have e2 : (if inV 0 m (goM (A 26) (F 25 20) (psF F)) = 0 ∧ z = 0 then (1 : Int) else 0) = 0 := if_neg (by omega)
               have eS : sgS (A 26) (F 25 20) m z (psF F) = goM (A 26) (F 25 20) (fiP (inS 0 m (goM (A 26) (F 25 20) (psF F))) 0 (-12)) := by unfold sgS; rw [e1, e2]
               have eR : sgR (A 26) (F 25 20) m (psF F) = -(inV 0 m (goM (A 26) (F 25 20) (psF F))) := (if_pos ⟨by show F 25 23 = 4; omega, by show F 25 26 = 0; omega, by show A 26 (F 25 22) = 45; omega⟩).trans (by rw [e1])
               rw [eS, eR] at h
               simp only [psS_S]
               exact h)
            | (have e1 : sg1 (A 26) (F 25 20) (psF F) = goM (A 26) (F 25 20) (psF F) := if_pos ⟨by show F 25 23 = 4; omega, by show F 25 26 = 0; omega, by show A 26 (F 25 22) = 45; omega⟩
               have e2 : (if inV 0 m (goM (A 26) (F 25 20) (psF F)) = 0 ∧ z = 0 then (1 : Int) else 0) = 1 := if_pos (by omega)
               have eS : sgS (A 26) (F 25 20) m z (psF F) = goM (A 26) (F 25 20) (fiP (inS 0 m (goM (A 26) (F 25 20) (psF F))) 1 (-12)) := by unfold sgS; rw [e1, e2]
               have eR : sgR (A 26) (F 25 20) m (psF F) = -(inV 0 m (goM (A 26) (F 25 20) (psF F))) := (if_pos ⟨by show F 25 23 = 4; omega, by show F 25 26 = 0; omega, by show A 26 (F 25 22) = 45; omega⟩).trans (by rw [e1])
               rw [eS, eR] at h
               simp only [psS_S]
               exact h)
            | (have e1 : sg1 (A 26) (F 25 20) (psF F) = psF F := if_neg (fun y => by have y1 : F 25 23 = 4 := y.1; have y2 : F 25 26 = 0 := y.2.1; have y3 : A 26 (F 25 22) = 45 := y.2.2; omega)
               have e2 : (if inV 0 m (psF F) = 0 ∧ z = 0 then (1 : Int) else 0) = 0 := if_neg (by omega)
               have eS : sgS (A 26) (F 25 20) m z (psF F) = goM (A 26) (F 25 20) (fiP (inS 0 m (psF F)) 0 (-12)) := by unfold sgS; rw [e1, e2]
               have eR : sgR (A 26) (F 25 20) m (psF F) = inV 0 m (psF F) := (if_neg (fun y => by have y1 : F 25 23 = 4 := y.1; have y2 : F 25 26 = 0 := y.2.1; have y3 : A 26 (F 25 22) = 45 := y.2.2; omega)).trans (by rw [e1])
               rw [eS, eR] at h
               simp only [psS_S]
               exact h)
            | (have e1 : sg1 (A 26) (F 25 20) (psF F) = psF F := if_neg (fun y => by have y1 : F 25 23 = 4 := y.1; have y2 : F 25 26 = 0 := y.2.1; have y3 : A 26 (F 25 22) = 45 := y.2.2; omega)
               have e2 : (if inV 0 m (psF F) = 0 ∧ z = 0 then (1 : Int) else 0) = 1 := if_pos (by omega)
               have eS : sgS (A 26) (F 25 20) m z (psF F) = goM (A 26) (F 25 20) (fiP (inS 0 m (psF F)) 1 (-12)) := by unfold sgS; rw [e1, e2]
               have eR : sgR (A 26) (F 25 20) m (psF F) = inV 0 m (psF F) := (if_neg (fun y => by have y1 : F 25 23 = 4 := y.1; have y2 : F 25 26 = 0 := y.2.1; have y3 : A 26 (F 25 22) = 45 := y.2.2; omega)).trans (by rw [e1])
               rw [eS, eR] at h
               simp only [psS_S]
               exact h)
        · skip
          (try (have bq := bp (by omega); rw [w32_id (x := F 25 22) (by omega) (by omega), w32_id (x := A 26 (F 25 22)) (by omega) (by omega)] at c4)); (try simp only [fiP_22, inS_22, nmS_22, psF_e, psF_q, psF_p, psF_o, psF_t, psF_v] at c4); (try simp (disch := omega) only [w32_0, wbi0, Classical.not_not, w32_id] at c4)
          refine ⟨by first | exact ⟨pt, pn, pk⟩ | exact ⟨⟨pn, pk⟩, by omega, by omega⟩ | exact ⟨⟨pn, kg⟩, by omega, by omega⟩ | (have q9 := k5 (by omega); rw [w32_id (by omega) (by omega)]; omega) | exact ⟨Or.inl rfl, by have := ig.1; omega, by have := ig.1; omega⟩ | exact ⟨Or.inr rfl, by have := ig.1; omega, by have := ig.1; omega⟩ | exact ⟨Or.inl rfl, by have := i_n.1; omega, by have := i_n.1; omega⟩ | exact ⟨Or.inr rfl, by have := i_n.1; omega, by have := i_n.1; omega⟩ | exact ⟨pt, pn, fiP_ok ig pn.2 (by decide)⟩ | exact ⟨pt, pn, fiP_ok i_n pn.2 (by decide)⟩, ?_⟩
          refine ⟨by first | exact ⟨pt, pn, pk⟩ | exact ⟨⟨pn, pk⟩, by omega, by omega⟩ | exact ⟨⟨pn, kg⟩, by omega, by omega⟩ | (have q9 := k5 (by omega); rw [w32_id (by omega) (by omega)]; omega) | exact ⟨Or.inl rfl, by have := ig.1; omega, by have := ig.1; omega⟩ | exact ⟨Or.inr rfl, by have := ig.1; omega, by have := ig.1; omega⟩ | exact ⟨Or.inl rfl, by have := i_n.1; omega, by have := i_n.1; omega⟩ | exact ⟨Or.inr rfl, by have := i_n.1; omega, by have := i_n.1; omega⟩ | exact ⟨pt, pn, fiP_ok ig pn.2 (by decide)⟩ | exact ⟨pt, pn, fiP_ok i_n pn.2 (by decide)⟩, ?_⟩
          refine ⟨fun _ => ?_, fun q => absurd (by decide) q⟩
          first
          | (have e1 : sg1 (A 26) (F 25 20) (psF F) = goM (A 26) (F 25 20) (psF F) := if_pos ⟨by show F 25 23 = 4; omega, by show F 25 26 = 0; omega, by show A 26 (F 25 22) = 45; omega⟩
             have e2 : (if inV 0 m (goM (A 26) (F 25 20) (psF F)) = 0 ∧ z = 0 then (1 : Int) else 0) = 0 := if_neg (by omega)
             have eS : sgS (A 26) (F 25 20) m z (psF F) = goM (A 26) (F 25 20) (fiP (inS 0 m (goM (A 26) (F 25 20) (psF F))) 0 (-12)) := by unfold sgS; rw [e1, e2]
             have eR : sgR (A 26) (F 25 20) m (psF F) = -(inV 0 m (goM (A 26) (F 25 20) (psF F))) := (if_pos ⟨by show F 25 23 = 4; omega, by show F 25 26 = 0; omega, by show A 26 (F 25 22) = 45; omega⟩).trans (by rw [e1])
             rw [eS, eR] at h
             simp only [psS_S]
             exact h)
          | (have e1 : sg1 (A 26) (F 25 20) (psF F) = goM (A 26) (F 25 20) (psF F) := if_pos ⟨by show F 25 23 = 4; omega, by show F 25 26 = 0; omega, by show A 26 (F 25 22) = 45; omega⟩
             have e2 : (if inV 0 m (goM (A 26) (F 25 20) (psF F)) = 0 ∧ z = 0 then (1 : Int) else 0) = 1 := if_pos (by omega)
             have eS : sgS (A 26) (F 25 20) m z (psF F) = goM (A 26) (F 25 20) (fiP (inS 0 m (goM (A 26) (F 25 20) (psF F))) 1 (-12)) := by unfold sgS; rw [e1, e2]
             have eR : sgR (A 26) (F 25 20) m (psF F) = -(inV 0 m (goM (A 26) (F 25 20) (psF F))) := (if_pos ⟨by show F 25 23 = 4; omega, by show F 25 26 = 0; omega, by show A 26 (F 25 22) = 45; omega⟩).trans (by rw [e1])
             rw [eS, eR] at h
             simp only [psS_S]
             exact h)
          | (have e1 : sg1 (A 26) (F 25 20) (psF F) = psF F := if_neg (fun y => by have y1 : F 25 23 = 4 := y.1; have y2 : F 25 26 = 0 := y.2.1; have y3 : A 26 (F 25 22) = 45 := y.2.2; omega)
             have e2 : (if inV 0 m (psF F) = 0 ∧ z = 0 then (1 : Int) else 0) = 0 := if_neg (by omega)
             have eS : sgS (A 26) (F 25 20) m z (psF F) = goM (A 26) (F 25 20) (fiP (inS 0 m (psF F)) 0 (-12)) := by unfold sgS; rw [e1, e2]
             have eR : sgR (A 26) (F 25 20) m (psF F) = inV 0 m (psF F) := (if_neg (fun y => by have y1 : F 25 23 = 4 := y.1; have y2 : F 25 26 = 0 := y.2.1; have y3 : A 26 (F 25 22) = 45 := y.2.2; omega)).trans (by rw [e1])
             rw [eS, eR] at h
             simp only [psS_S]
             exact h)
          | (have e1 : sg1 (A 26) (F 25 20) (psF F) = psF F := if_neg (fun y => by have y1 : F 25 23 = 4 := y.1; have y2 : F 25 26 = 0 := y.2.1; have y3 : A 26 (F 25 22) = 45 := y.2.2; omega)
             have e2 : (if inV 0 m (psF F) = 0 ∧ z = 0 then (1 : Int) else 0) = 1 := if_pos (by omega)
             have eS : sgS (A 26) (F 25 20) m z (psF F) = goM (A 26) (F 25 20) (fiP (inS 0 m (psF F)) 1 (-12)) := by unfold sgS; rw [e1, e2]
             have eR : sgR (A 26) (F 25 20) m (psF F) = inV 0 m (psF F) := (if_neg (fun y => by have y1 : F 25 23 = 4 := y.1; have y2 : F 25 26 = 0 := y.2.1; have y3 : A 26 (F 25 22) = 45 := y.2.2; omega)).trans (by rw [e1])
             rw [eS, eR] at h
             simp only [psS_S]
             exact h)
    · skip
      (try (have bq := bp (by omega); rw [w32_id (x := F 25 22) (by omega) (by omega), w32_id (x := A 26 (F 25 22)) (by omega) (by omega)] at c2)); (try simp only [fiP_22, inS_22, nmS_22, psF_e, psF_q, psF_p, psF_o, psF_t, psF_v] at c2); (try simp (disch := omega) only [w32_0, wbi0, Classical.not_not, w32_id] at c2)
      refine ⟨fun _ => ?_, fun q => absurd (by decide) q⟩
      refine ⟨by first | exact ⟨pt, pn, pk⟩ | exact ⟨⟨pn, pk⟩, by omega, by omega⟩ | exact ⟨⟨pn, kg⟩, by omega, by omega⟩ | (have q9 := k5 (by omega); rw [w32_id (by omega) (by omega)]; omega) | exact ⟨Or.inl rfl, by have := ig.1; omega, by have := ig.1; omega⟩ | exact ⟨Or.inr rfl, by have := ig.1; omega, by have := ig.1; omega⟩ | exact ⟨Or.inl rfl, by have := i_n.1; omega, by have := i_n.1; omega⟩ | exact ⟨Or.inr rfl, by have := i_n.1; omega, by have := i_n.1; omega⟩ | exact ⟨pt, pn, fiP_ok ig pn.2 (by decide)⟩ | exact ⟨pt, pn, fiP_ok i_n pn.2 (by decide)⟩, ?_⟩
      refine ⟨fun c3 => ?_, fun c3 => ?_⟩
      · skip
        (try (have bq := bp (by omega); rw [w32_id (x := F 25 22) (by omega) (by omega), w32_id (x := A 26 (F 25 22)) (by omega) (by omega)] at c3)); (try simp only [fiP_22, inS_22, nmS_22, psF_e, psF_q, psF_p, psF_o, psF_t, psF_v] at c3); (try simp (disch := omega) only [w32_0, wbi0, Classical.not_not, w32_id] at c3)
        refine ⟨fun c4 => ?_, fun c4 => ?_⟩
        · skip
          (try (have bq := bp (by omega); rw [w32_id (x := F 25 22) (by omega) (by omega), w32_id (x := A 26 (F 25 22)) (by omega) (by omega)] at c4)); (try simp only [fiP_22, inS_22, nmS_22, psF_e, psF_q, psF_p, psF_o, psF_t, psF_v] at c4); (try simp (disch := omega) only [w32_0, wbi0, Classical.not_not, w32_id] at c4)
          refine ⟨by first | exact ⟨pt, pn, pk⟩ | exact ⟨⟨pn, pk⟩, by omega, by omega⟩ | exact ⟨⟨pn, kg⟩, by omega, by omega⟩ | (have q9 := k5 (by omega); rw [w32_id (by omega) (by omega)]; omega) | exact ⟨Or.inl rfl, by have := ig.1; omega, by have := ig.1; omega⟩ | exact ⟨Or.inr rfl, by have := ig.1; omega, by have := ig.1; omega⟩ | exact ⟨Or.inl rfl, by have := i_n.1; omega, by have := i_n.1; omega⟩ | exact ⟨Or.inr rfl, by have := i_n.1; omega, by have := i_n.1; omega⟩ | exact ⟨pt, pn, fiP_ok ig pn.2 (by decide)⟩ | exact ⟨pt, pn, fiP_ok i_n pn.2 (by decide)⟩, ?_⟩
          refine ⟨by first | exact ⟨pt, pn, pk⟩ | exact ⟨⟨pn, pk⟩, by omega, by omega⟩ | exact ⟨⟨pn, kg⟩, by omega, by omega⟩ | (have q9 := k5 (by omega); rw [w32_id (by omega) (by omega)]; omega) | exact ⟨Or.inl rfl, by have := ig.1; omega, by have := ig.1; omega⟩ | exact ⟨Or.inr rfl, by have := ig.1; omega, by have := ig.1; omega⟩ | exact ⟨Or.inl rfl, by have := i_n.1; omega, by have := i_n.1; omega⟩ | exact ⟨Or.inr rfl, by have := i_n.1; omega, by have := i_n.1; omega⟩ | exact ⟨pt, pn, fiP_ok ig pn.2 (by decide)⟩ | exact ⟨pt, pn, fiP_ok i_n pn.2 (by decide)⟩, ?_⟩
          refine ⟨fun _ => ?_, fun q => absurd (by decide) q⟩
          first
          | (have e1 : sg1 (A 26) (F 25 20) (psF F) = goM (A 26) (F 25 20) (psF F) := if_pos ⟨by show F 25 23 = 4; omega, by show F 25 26 = 0; omega, by show A 26 (F 25 22) = 45; omega⟩
             have e2 : (if inV 0 m (goM (A 26) (F 25 20) (psF F)) = 0 ∧ z = 0 then (1 : Int) else 0) = 0 := if_neg (by omega)
             have eS : sgS (A 26) (F 25 20) m z (psF F) = goM (A 26) (F 25 20) (fiP (inS 0 m (goM (A 26) (F 25 20) (psF F))) 0 (-12)) := by unfold sgS; rw [e1, e2]
             have eR : sgR (A 26) (F 25 20) m (psF F) = -(inV 0 m (goM (A 26) (F 25 20) (psF F))) := (if_pos ⟨by show F 25 23 = 4; omega, by show F 25 26 = 0; omega, by show A 26 (F 25 22) = 45; omega⟩).trans (by rw [e1])
             rw [eS, eR] at h
             simp only [psS_S]
             exact h)
          | (have e1 : sg1 (A 26) (F 25 20) (psF F) = goM (A 26) (F 25 20) (psF F) := if_pos ⟨by show F 25 23 = 4; omega, by show F 25 26 = 0; omega, by show A 26 (F 25 22) = 45; omega⟩
             have e2 : (if inV 0 m (goM (A 26) (F 25 20) (psF F)) = 0 ∧ z = 0 then (1 : Int) else 0) = 1 := if_pos (by omega)
             have eS : sgS (A 26) (F 25 20) m z (psF F) = goM (A 26) (F 25 20) (fiP (inS 0 m (goM (A 26) (F 25 20) (psF F))) 1 (-12)) := by unfold sgS; rw [e1, e2]
             have eR : sgR (A 26) (F 25 20) m (psF F) = -(inV 0 m (goM (A 26) (F 25 20) (psF F))) := (if_pos ⟨by show F 25 23 = 4; omega, by show F 25 26 = 0; omega, by show A 26 (F 25 22) = 45; omega⟩).trans (by rw [e1])
             rw [eS, eR] at h
             simp only [psS_S]
             exact h)
          | (have e1 : sg1 (A 26) (F 25 20) (psF F) = psF F := if_neg (fun y => by have y1 : F 25 23 = 4 := y.1; have y2 : F 25 26 = 0 := y.2.1; have y3 : A 26 (F 25 22) = 45 := y.2.2; omega)
             have e2 : (if inV 0 m (psF F) = 0 ∧ z = 0 then (1 : Int) else 0) = 0 := if_neg (by omega)
             have eS : sgS (A 26) (F 25 20) m z (psF F) = goM (A 26) (F 25 20) (fiP (inS 0 m (psF F)) 0 (-12)) := by unfold sgS; rw [e1, e2]
             have eR : sgR (A 26) (F 25 20) m (psF F) = inV 0 m (psF F) := (if_neg (fun y => by have y1 : F 25 23 = 4 := y.1; have y2 : F 25 26 = 0 := y.2.1; have y3 : A 26 (F 25 22) = 45 := y.2.2; omega)).trans (by rw [e1])
             rw [eS, eR] at h
             simp only [psS_S]
             exact h)
          | (have e1 : sg1 (A 26) (F 25 20) (psF F) = psF F := if_neg (fun y => by have y1 : F 25 23 = 4 := y.1; have y2 : F 25 26 = 0 := y.2.1; have y3 : A 26 (F 25 22) = 45 := y.2.2; omega)
             have e2 : (if inV 0 m (psF F) = 0 ∧ z = 0 then (1 : Int) else 0) = 1 := if_pos (by omega)
             have eS : sgS (A 26) (F 25 20) m z (psF F) = goM (A 26) (F 25 20) (fiP (inS 0 m (psF F)) 1 (-12)) := by unfold sgS; rw [e1, e2]
             have eR : sgR (A 26) (F 25 20) m (psF F) = inV 0 m (psF F) := (if_neg (fun y => by have y1 : F 25 23 = 4 := y.1; have y2 : F 25 26 = 0 := y.2.1; have y3 : A 26 (F 25 22) = 45 := y.2.2; omega)).trans (by rw [e1])
             rw [eS, eR] at h
             simp only [psS_S]
             exact h)
        · skip
          (try (have bq := bp (by omega); rw [w32_id (x := F 25 22) (by omega) (by omega), w32_id (x := A 26 (F 25 22)) (by omega) (by omega)] at c4)); (try simp only [fiP_22, inS_22, nmS_22, psF_e, psF_q, psF_p, psF_o, psF_t, psF_v] at c4); (try simp (disch := omega) only [w32_0, wbi0, Classical.not_not, w32_id] at c4)
          refine ⟨by first | exact ⟨pt, pn, pk⟩ | exact ⟨⟨pn, pk⟩, by omega, by omega⟩ | exact ⟨⟨pn, kg⟩, by omega, by omega⟩ | (have q9 := k5 (by omega); rw [w32_id (by omega) (by omega)]; omega) | exact ⟨Or.inl rfl, by have := ig.1; omega, by have := ig.1; omega⟩ | exact ⟨Or.inr rfl, by have := ig.1; omega, by have := ig.1; omega⟩ | exact ⟨Or.inl rfl, by have := i_n.1; omega, by have := i_n.1; omega⟩ | exact ⟨Or.inr rfl, by have := i_n.1; omega, by have := i_n.1; omega⟩ | exact ⟨pt, pn, fiP_ok ig pn.2 (by decide)⟩ | exact ⟨pt, pn, fiP_ok i_n pn.2 (by decide)⟩, ?_⟩
          refine ⟨by first | exact ⟨pt, pn, pk⟩ | exact ⟨⟨pn, pk⟩, by omega, by omega⟩ | exact ⟨⟨pn, kg⟩, by omega, by omega⟩ | (have q9 := k5 (by omega); rw [w32_id (by omega) (by omega)]; omega) | exact ⟨Or.inl rfl, by have := ig.1; omega, by have := ig.1; omega⟩ | exact ⟨Or.inr rfl, by have := ig.1; omega, by have := ig.1; omega⟩ | exact ⟨Or.inl rfl, by have := i_n.1; omega, by have := i_n.1; omega⟩ | exact ⟨Or.inr rfl, by have := i_n.1; omega, by have := i_n.1; omega⟩ | exact ⟨pt, pn, fiP_ok ig pn.2 (by decide)⟩ | exact ⟨pt, pn, fiP_ok i_n pn.2 (by decide)⟩, ?_⟩
          refine ⟨fun _ => ?_, fun q => absurd (by decide) q⟩
          first
          | (have e1 : sg1 (A 26) (F 25 20) (psF F) = goM (A 26) (F 25 20) (psF F) := if_pos ⟨by show F 25 23 = 4; omega, by show F 25 26 = 0; omega, by show A 26 (F 25 22) = 45; omega⟩
             have e2 : (if inV 0 m (goM (A 26) (F 25 20) (psF F)) = 0 ∧ z = 0 then (1 : Int) else 0) = 0 := if_neg (by omega)
             have eS : sgS (A 26) (F 25 20) m z (psF F) = goM (A 26) (F 25 20) (fiP (inS 0 m (goM (A 26) (F 25 20) (psF F))) 0 (-12)) := by unfold sgS; rw [e1, e2]
             have eR : sgR (A 26) (F 25 20) m (psF F) = -(inV 0 m (goM (A 26) (F 25 20) (psF F))) := (if_pos ⟨by show F 25 23 = 4; omega, by show F 25 26 = 0; omega, by show A 26 (F 25 22) = 45; omega⟩).trans (by rw [e1])
             rw [eS, eR] at h
             simp only [psS_S]
             exact h)
          | (have e1 : sg1 (A 26) (F 25 20) (psF F) = goM (A 26) (F 25 20) (psF F) := if_pos ⟨by show F 25 23 = 4; omega, by show F 25 26 = 0; omega, by show A 26 (F 25 22) = 45; omega⟩
             have e2 : (if inV 0 m (goM (A 26) (F 25 20) (psF F)) = 0 ∧ z = 0 then (1 : Int) else 0) = 1 := if_pos (by omega)
             have eS : sgS (A 26) (F 25 20) m z (psF F) = goM (A 26) (F 25 20) (fiP (inS 0 m (goM (A 26) (F 25 20) (psF F))) 1 (-12)) := by unfold sgS; rw [e1, e2]
             have eR : sgR (A 26) (F 25 20) m (psF F) = -(inV 0 m (goM (A 26) (F 25 20) (psF F))) := (if_pos ⟨by show F 25 23 = 4; omega, by show F 25 26 = 0; omega, by show A 26 (F 25 22) = 45; omega⟩).trans (by rw [e1])
             rw [eS, eR] at h
             simp only [psS_S]
             exact h)
          | (have e1 : sg1 (A 26) (F 25 20) (psF F) = psF F := if_neg (fun y => by have y1 : F 25 23 = 4 := y.1; have y2 : F 25 26 = 0 := y.2.1; have y3 : A 26 (F 25 22) = 45 := y.2.2; omega)
             have e2 : (if inV 0 m (psF F) = 0 ∧ z = 0 then (1 : Int) else 0) = 0 := if_neg (by omega)
             have eS : sgS (A 26) (F 25 20) m z (psF F) = goM (A 26) (F 25 20) (fiP (inS 0 m (psF F)) 0 (-12)) := by unfold sgS; rw [e1, e2]
             have eR : sgR (A 26) (F 25 20) m (psF F) = inV 0 m (psF F) := (if_neg (fun y => by have y1 : F 25 23 = 4 := y.1; have y2 : F 25 26 = 0 := y.2.1; have y3 : A 26 (F 25 22) = 45 := y.2.2; omega)).trans (by rw [e1])
             rw [eS, eR] at h
             simp only [psS_S]
             exact h)
          | (have e1 : sg1 (A 26) (F 25 20) (psF F) = psF F := if_neg (fun y => by have y1 : F 25 23 = 4 := y.1; have y2 : F 25 26 = 0 := y.2.1; have y3 : A 26 (F 25 22) = 45 := y.2.2; omega)
             have e2 : (if inV 0 m (psF F) = 0 ∧ z = 0 then (1 : Int) else 0) = 1 := if_pos (by omega)
             have eS : sgS (A 26) (F 25 20) m z (psF F) = goM (A 26) (F 25 20) (fiP (inS 0 m (psF F)) 1 (-12)) := by unfold sgS; rw [e1, e2]
             have eR : sgR (A 26) (F 25 20) m (psF F) = inV 0 m (psF F) := (if_neg (fun y => by have y1 : F 25 23 = 4 := y.1; have y2 : F 25 26 = 0 := y.2.1; have y3 : A 26 (F 25 22) = 45 := y.2.2; omega)).trans (by rw [e1])
             rw [eS, eR] at h
             simp only [psS_S]
             exact h)
      · skip
        (try (have bq := bp (by omega); rw [w32_id (x := F 25 22) (by omega) (by omega), w32_id (x := A 26 (F 25 22)) (by omega) (by omega)] at c3)); (try simp only [fiP_22, inS_22, nmS_22, psF_e, psF_q, psF_p, psF_o, psF_t, psF_v] at c3); (try simp (disch := omega) only [w32_0, wbi0, Classical.not_not, w32_id] at c3)
        refine ⟨by first | exact ⟨pt, pn, pk⟩ | exact ⟨⟨pn, pk⟩, by omega, by omega⟩ | exact ⟨⟨pn, kg⟩, by omega, by omega⟩ | (have q9 := k5 (by omega); rw [w32_id (by omega) (by omega)]; omega) | exact ⟨Or.inl rfl, by have := ig.1; omega, by have := ig.1; omega⟩ | exact ⟨Or.inr rfl, by have := ig.1; omega, by have := ig.1; omega⟩ | exact ⟨Or.inl rfl, by have := i_n.1; omega, by have := i_n.1; omega⟩ | exact ⟨Or.inr rfl, by have := i_n.1; omega, by have := i_n.1; omega⟩ | exact ⟨pt, pn, fiP_ok ig pn.2 (by decide)⟩ | exact ⟨pt, pn, fiP_ok i_n pn.2 (by decide)⟩, ?_⟩
        refine ⟨by first | exact ⟨pt, pn, pk⟩ | exact ⟨⟨pn, pk⟩, by omega, by omega⟩ | exact ⟨⟨pn, kg⟩, by omega, by omega⟩ | (have q9 := k5 (by omega); rw [w32_id (by omega) (by omega)]; omega) | exact ⟨Or.inl rfl, by have := ig.1; omega, by have := ig.1; omega⟩ | exact ⟨Or.inr rfl, by have := ig.1; omega, by have := ig.1; omega⟩ | exact ⟨Or.inl rfl, by have := i_n.1; omega, by have := i_n.1; omega⟩ | exact ⟨Or.inr rfl, by have := i_n.1; omega, by have := i_n.1; omega⟩ | exact ⟨pt, pn, fiP_ok ig pn.2 (by decide)⟩ | exact ⟨pt, pn, fiP_ok i_n pn.2 (by decide)⟩, ?_⟩
        refine ⟨fun _ => ?_, fun q => absurd (by decide) q⟩
        first
        | (have e1 : sg1 (A 26) (F 25 20) (psF F) = goM (A 26) (F 25 20) (psF F) := if_pos ⟨by show F 25 23 = 4; omega, by show F 25 26 = 0; omega, by show A 26 (F 25 22) = 45; omega⟩
           have e2 : (if inV 0 m (goM (A 26) (F 25 20) (psF F)) = 0 ∧ z = 0 then (1 : Int) else 0) = 0 := if_neg (by omega)
           have eS : sgS (A 26) (F 25 20) m z (psF F) = goM (A 26) (F 25 20) (fiP (inS 0 m (goM (A 26) (F 25 20) (psF F))) 0 (-12)) := by unfold sgS; rw [e1, e2]
           have eR : sgR (A 26) (F 25 20) m (psF F) = -(inV 0 m (goM (A 26) (F 25 20) (psF F))) := (if_pos ⟨by show F 25 23 = 4; omega, by show F 25 26 = 0; omega, by show A 26 (F 25 22) = 45; omega⟩).trans (by rw [e1])
           rw [eS, eR] at h
           simp only [psS_S]
           exact h)
        | (have e1 : sg1 (A 26) (F 25 20) (psF F) = goM (A 26) (F 25 20) (psF F) := if_pos ⟨by show F 25 23 = 4; omega, by show F 25 26 = 0; omega, by show A 26 (F 25 22) = 45; omega⟩
           have e2 : (if inV 0 m (goM (A 26) (F 25 20) (psF F)) = 0 ∧ z = 0 then (1 : Int) else 0) = 1 := if_pos (by omega)
           have eS : sgS (A 26) (F 25 20) m z (psF F) = goM (A 26) (F 25 20) (fiP (inS 0 m (goM (A 26) (F 25 20) (psF F))) 1 (-12)) := by unfold sgS; rw [e1, e2]
           have eR : sgR (A 26) (F 25 20) m (psF F) = -(inV 0 m (goM (A 26) (F 25 20) (psF F))) := (if_pos ⟨by show F 25 23 = 4; omega, by show F 25 26 = 0; omega, by show A 26 (F 25 22) = 45; omega⟩).trans (by rw [e1])
           rw [eS, eR] at h
           simp only [psS_S]
           exact h)
        | (have e1 : sg1 (A 26) (F 25 20) (psF F) = psF F := if_neg (fun y => by have y1 : F 25 23 = 4 := y.1; have y2 : F 25 26 = 0 := y.2.1; have y3 : A 26 (F 25 22) = 45 := y.2.2; omega)
           have e2 : (if inV 0 m (psF F) = 0 ∧ z = 0 then (1 : Int) else 0) = 0 := if_neg (by omega)
           have eS : sgS (A 26) (F 25 20) m z (psF F) = goM (A 26) (F 25 20) (fiP (inS 0 m (psF F)) 0 (-12)) := by unfold sgS; rw [e1, e2]
           have eR : sgR (A 26) (F 25 20) m (psF F) = inV 0 m (psF F) := (if_neg (fun y => by have y1 : F 25 23 = 4 := y.1; have y2 : F 25 26 = 0 := y.2.1; have y3 : A 26 (F 25 22) = 45 := y.2.2; omega)).trans (by rw [e1])
           rw [eS, eR] at h
           simp only [psS_S]
           exact h)
        | (have e1 : sg1 (A 26) (F 25 20) (psF F) = psF F := if_neg (fun y => by have y1 : F 25 23 = 4 := y.1; have y2 : F 25 26 = 0 := y.2.1; have y3 : A 26 (F 25 22) = 45 := y.2.2; omega)
           have e2 : (if inV 0 m (psF F) = 0 ∧ z = 0 then (1 : Int) else 0) = 1 := if_pos (by omega)
           have eS : sgS (A 26) (F 25 20) m z (psF F) = goM (A 26) (F 25 20) (fiP (inS 0 m (psF F)) 1 (-12)) := by unfold sgS; rw [e1, e2]
           have eR : sgR (A 26) (F 25 20) m (psF F) = inV 0 m (psF F) := (if_neg (fun y => by have y1 : F 25 23 = 4 := y.1; have y2 : F 25 26 = 0 := y.2.1; have y3 : A 26 (F 25 22) = 45 := y.2.2; omega)).trans (by rw [e1])
           rw [eS, eR] at h
           simp only [psS_S]
           exact h)
  · skip
    (try (have bq := bp (by omega); rw [w32_id (x := F 25 22) (by omega) (by omega), w32_id (x := A 26 (F 25 22)) (by omega) (by omega)] at c1)); (try simp only [fiP_22, inS_22, nmS_22, psF_e, psF_q, psF_p, psF_o, psF_t, psF_v] at c1); (try simp (disch := omega) only [w32_0, wbi0, Classical.not_not, w32_id] at c1)
    refine ⟨fun _ => ?_, fun q => absurd (by decide) q⟩
    refine ⟨by first | exact ⟨pt, pn, pk⟩ | exact ⟨⟨pn, pk⟩, by omega, by omega⟩ | exact ⟨⟨pn, kg⟩, by omega, by omega⟩ | (have q9 := k5 (by omega); rw [w32_id (by omega) (by omega)]; omega) | exact ⟨Or.inl rfl, by have := ig.1; omega, by have := ig.1; omega⟩ | exact ⟨Or.inr rfl, by have := ig.1; omega, by have := ig.1; omega⟩ | exact ⟨Or.inl rfl, by have := i_n.1; omega, by have := i_n.1; omega⟩ | exact ⟨Or.inr rfl, by have := i_n.1; omega, by have := i_n.1; omega⟩ | exact ⟨pt, pn, fiP_ok ig pn.2 (by decide)⟩ | exact ⟨pt, pn, fiP_ok i_n pn.2 (by decide)⟩, ?_⟩
    refine ⟨fun c2 => ?_, fun c2 => ?_⟩
    · skip
      (try (have bq := bp (by omega); rw [w32_id (x := F 25 22) (by omega) (by omega), w32_id (x := A 26 (F 25 22)) (by omega) (by omega)] at c2)); (try simp only [fiP_22, inS_22, nmS_22, psF_e, psF_q, psF_p, psF_o, psF_t, psF_v] at c2); (try simp (disch := omega) only [w32_0, wbi0, Classical.not_not, w32_id] at c2)
      refine ⟨fun c3 => ?_, fun c3 => ?_⟩
      · skip
        (try (have bq := bp (by omega); rw [w32_id (x := F 25 22) (by omega) (by omega), w32_id (x := A 26 (F 25 22)) (by omega) (by omega)] at c3)); (try simp only [fiP_22, inS_22, nmS_22, psF_e, psF_q, psF_p, psF_o, psF_t, psF_v] at c3); (try simp (disch := omega) only [w32_0, wbi0, Classical.not_not, w32_id] at c3)
        refine ⟨by first | exact ⟨pt, pn, pk⟩ | exact ⟨⟨pn, pk⟩, by omega, by omega⟩ | exact ⟨⟨pn, kg⟩, by omega, by omega⟩ | (have q9 := k5 (by omega); rw [w32_id (by omega) (by omega)]; omega) | exact ⟨Or.inl rfl, by have := ig.1; omega, by have := ig.1; omega⟩ | exact ⟨Or.inr rfl, by have := ig.1; omega, by have := ig.1; omega⟩ | exact ⟨Or.inl rfl, by have := i_n.1; omega, by have := i_n.1; omega⟩ | exact ⟨Or.inr rfl, by have := i_n.1; omega, by have := i_n.1; omega⟩ | exact ⟨pt, pn, fiP_ok ig pn.2 (by decide)⟩ | exact ⟨pt, pn, fiP_ok i_n pn.2 (by decide)⟩, ?_⟩
        refine ⟨by first | exact ⟨pt, pn, pk⟩ | exact ⟨⟨pn, pk⟩, by omega, by omega⟩ | exact ⟨⟨pn, kg⟩, by omega, by omega⟩ | (have q9 := k5 (by omega); rw [w32_id (by omega) (by omega)]; omega) | exact ⟨Or.inl rfl, by have := ig.1; omega, by have := ig.1; omega⟩ | exact ⟨Or.inr rfl, by have := ig.1; omega, by have := ig.1; omega⟩ | exact ⟨Or.inl rfl, by have := i_n.1; omega, by have := i_n.1; omega⟩ | exact ⟨Or.inr rfl, by have := i_n.1; omega, by have := i_n.1; omega⟩ | exact ⟨pt, pn, fiP_ok ig pn.2 (by decide)⟩ | exact ⟨pt, pn, fiP_ok i_n pn.2 (by decide)⟩, ?_⟩
        refine ⟨fun _ => ?_, fun q => absurd (by decide) q⟩
        first
        | (have e1 : sg1 (A 26) (F 25 20) (psF F) = goM (A 26) (F 25 20) (psF F) := if_pos ⟨by show F 25 23 = 4; omega, by show F 25 26 = 0; omega, by show A 26 (F 25 22) = 45; omega⟩
           have e2 : (if inV 0 m (goM (A 26) (F 25 20) (psF F)) = 0 ∧ z = 0 then (1 : Int) else 0) = 0 := if_neg (by omega)
           have eS : sgS (A 26) (F 25 20) m z (psF F) = goM (A 26) (F 25 20) (fiP (inS 0 m (goM (A 26) (F 25 20) (psF F))) 0 (-12)) := by unfold sgS; rw [e1, e2]
           have eR : sgR (A 26) (F 25 20) m (psF F) = -(inV 0 m (goM (A 26) (F 25 20) (psF F))) := (if_pos ⟨by show F 25 23 = 4; omega, by show F 25 26 = 0; omega, by show A 26 (F 25 22) = 45; omega⟩).trans (by rw [e1])
           rw [eS, eR] at h
           simp only [psS_S]
           exact h)
        | (have e1 : sg1 (A 26) (F 25 20) (psF F) = goM (A 26) (F 25 20) (psF F) := if_pos ⟨by show F 25 23 = 4; omega, by show F 25 26 = 0; omega, by show A 26 (F 25 22) = 45; omega⟩
           have e2 : (if inV 0 m (goM (A 26) (F 25 20) (psF F)) = 0 ∧ z = 0 then (1 : Int) else 0) = 1 := if_pos (by omega)
           have eS : sgS (A 26) (F 25 20) m z (psF F) = goM (A 26) (F 25 20) (fiP (inS 0 m (goM (A 26) (F 25 20) (psF F))) 1 (-12)) := by unfold sgS; rw [e1, e2]
           have eR : sgR (A 26) (F 25 20) m (psF F) = -(inV 0 m (goM (A 26) (F 25 20) (psF F))) := (if_pos ⟨by show F 25 23 = 4; omega, by show F 25 26 = 0; omega, by show A 26 (F 25 22) = 45; omega⟩).trans (by rw [e1])
           rw [eS, eR] at h
           simp only [psS_S]
           exact h)
        | (have e1 : sg1 (A 26) (F 25 20) (psF F) = psF F := if_neg (fun y => by have y1 : F 25 23 = 4 := y.1; have y2 : F 25 26 = 0 := y.2.1; have y3 : A 26 (F 25 22) = 45 := y.2.2; omega)
           have e2 : (if inV 0 m (psF F) = 0 ∧ z = 0 then (1 : Int) else 0) = 0 := if_neg (by omega)
           have eS : sgS (A 26) (F 25 20) m z (psF F) = goM (A 26) (F 25 20) (fiP (inS 0 m (psF F)) 0 (-12)) := by unfold sgS; rw [e1, e2]
           have eR : sgR (A 26) (F 25 20) m (psF F) = inV 0 m (psF F) := (if_neg (fun y => by have y1 : F 25 23 = 4 := y.1; have y2 : F 25 26 = 0 := y.2.1; have y3 : A 26 (F 25 22) = 45 := y.2.2; omega)).trans (by rw [e1])
           rw [eS, eR] at h
           simp only [psS_S]
           exact h)
        | (have e1 : sg1 (A 26) (F 25 20) (psF F) = psF F := if_neg (fun y => by have y1 : F 25 23 = 4 := y.1; have y2 : F 25 26 = 0 := y.2.1; have y3 : A 26 (F 25 22) = 45 := y.2.2; omega)
           have e2 : (if inV 0 m (psF F) = 0 ∧ z = 0 then (1 : Int) else 0) = 1 := if_pos (by omega)
           have eS : sgS (A 26) (F 25 20) m z (psF F) = goM (A 26) (F 25 20) (fiP (inS 0 m (psF F)) 1 (-12)) := by unfold sgS; rw [e1, e2]
           have eR : sgR (A 26) (F 25 20) m (psF F) = inV 0 m (psF F) := (if_neg (fun y => by have y1 : F 25 23 = 4 := y.1; have y2 : F 25 26 = 0 := y.2.1; have y3 : A 26 (F 25 22) = 45 := y.2.2; omega)).trans (by rw [e1])
           rw [eS, eR] at h
           simp only [psS_S]
           exact h)
      · skip
        (try (have bq := bp (by omega); rw [w32_id (x := F 25 22) (by omega) (by omega), w32_id (x := A 26 (F 25 22)) (by omega) (by omega)] at c3)); (try simp only [fiP_22, inS_22, nmS_22, psF_e, psF_q, psF_p, psF_o, psF_t, psF_v] at c3); (try simp (disch := omega) only [w32_0, wbi0, Classical.not_not, w32_id] at c3)
        refine ⟨by first | exact ⟨pt, pn, pk⟩ | exact ⟨⟨pn, pk⟩, by omega, by omega⟩ | exact ⟨⟨pn, kg⟩, by omega, by omega⟩ | (have q9 := k5 (by omega); rw [w32_id (by omega) (by omega)]; omega) | exact ⟨Or.inl rfl, by have := ig.1; omega, by have := ig.1; omega⟩ | exact ⟨Or.inr rfl, by have := ig.1; omega, by have := ig.1; omega⟩ | exact ⟨Or.inl rfl, by have := i_n.1; omega, by have := i_n.1; omega⟩ | exact ⟨Or.inr rfl, by have := i_n.1; omega, by have := i_n.1; omega⟩ | exact ⟨pt, pn, fiP_ok ig pn.2 (by decide)⟩ | exact ⟨pt, pn, fiP_ok i_n pn.2 (by decide)⟩, ?_⟩
        refine ⟨by first | exact ⟨pt, pn, pk⟩ | exact ⟨⟨pn, pk⟩, by omega, by omega⟩ | exact ⟨⟨pn, kg⟩, by omega, by omega⟩ | (have q9 := k5 (by omega); rw [w32_id (by omega) (by omega)]; omega) | exact ⟨Or.inl rfl, by have := ig.1; omega, by have := ig.1; omega⟩ | exact ⟨Or.inr rfl, by have := ig.1; omega, by have := ig.1; omega⟩ | exact ⟨Or.inl rfl, by have := i_n.1; omega, by have := i_n.1; omega⟩ | exact ⟨Or.inr rfl, by have := i_n.1; omega, by have := i_n.1; omega⟩ | exact ⟨pt, pn, fiP_ok ig pn.2 (by decide)⟩ | exact ⟨pt, pn, fiP_ok i_n pn.2 (by decide)⟩, ?_⟩
        refine ⟨fun _ => ?_, fun q => absurd (by decide) q⟩
        first
        | (have e1 : sg1 (A 26) (F 25 20) (psF F) = goM (A 26) (F 25 20) (psF F) := if_pos ⟨by show F 25 23 = 4; omega, by show F 25 26 = 0; omega, by show A 26 (F 25 22) = 45; omega⟩
           have e2 : (if inV 0 m (goM (A 26) (F 25 20) (psF F)) = 0 ∧ z = 0 then (1 : Int) else 0) = 0 := if_neg (by omega)
           have eS : sgS (A 26) (F 25 20) m z (psF F) = goM (A 26) (F 25 20) (fiP (inS 0 m (goM (A 26) (F 25 20) (psF F))) 0 (-12)) := by unfold sgS; rw [e1, e2]
           have eR : sgR (A 26) (F 25 20) m (psF F) = -(inV 0 m (goM (A 26) (F 25 20) (psF F))) := (if_pos ⟨by show F 25 23 = 4; omega, by show F 25 26 = 0; omega, by show A 26 (F 25 22) = 45; omega⟩).trans (by rw [e1])
           rw [eS, eR] at h
           simp only [psS_S]
           exact h)
        | (have e1 : sg1 (A 26) (F 25 20) (psF F) = goM (A 26) (F 25 20) (psF F) := if_pos ⟨by show F 25 23 = 4; omega, by show F 25 26 = 0; omega, by show A 26 (F 25 22) = 45; omega⟩
           have e2 : (if inV 0 m (goM (A 26) (F 25 20) (psF F)) = 0 ∧ z = 0 then (1 : Int) else 0) = 1 := if_pos (by omega)
           have eS : sgS (A 26) (F 25 20) m z (psF F) = goM (A 26) (F 25 20) (fiP (inS 0 m (goM (A 26) (F 25 20) (psF F))) 1 (-12)) := by unfold sgS; rw [e1, e2]
           have eR : sgR (A 26) (F 25 20) m (psF F) = -(inV 0 m (goM (A 26) (F 25 20) (psF F))) := (if_pos ⟨by show F 25 23 = 4; omega, by show F 25 26 = 0; omega, by show A 26 (F 25 22) = 45; omega⟩).trans (by rw [e1])
           rw [eS, eR] at h
           simp only [psS_S]
           exact h)
        | (have e1 : sg1 (A 26) (F 25 20) (psF F) = psF F := if_neg (fun y => by have y1 : F 25 23 = 4 := y.1; have y2 : F 25 26 = 0 := y.2.1; have y3 : A 26 (F 25 22) = 45 := y.2.2; omega)
           have e2 : (if inV 0 m (psF F) = 0 ∧ z = 0 then (1 : Int) else 0) = 0 := if_neg (by omega)
           have eS : sgS (A 26) (F 25 20) m z (psF F) = goM (A 26) (F 25 20) (fiP (inS 0 m (psF F)) 0 (-12)) := by unfold sgS; rw [e1, e2]
           have eR : sgR (A 26) (F 25 20) m (psF F) = inV 0 m (psF F) := (if_neg (fun y => by have y1 : F 25 23 = 4 := y.1; have y2 : F 25 26 = 0 := y.2.1; have y3 : A 26 (F 25 22) = 45 := y.2.2; omega)).trans (by rw [e1])
           rw [eS, eR] at h
           simp only [psS_S]
           exact h)
        | (have e1 : sg1 (A 26) (F 25 20) (psF F) = psF F := if_neg (fun y => by have y1 : F 25 23 = 4 := y.1; have y2 : F 25 26 = 0 := y.2.1; have y3 : A 26 (F 25 22) = 45 := y.2.2; omega)
           have e2 : (if inV 0 m (psF F) = 0 ∧ z = 0 then (1 : Int) else 0) = 1 := if_pos (by omega)
           have eS : sgS (A 26) (F 25 20) m z (psF F) = goM (A 26) (F 25 20) (fiP (inS 0 m (psF F)) 1 (-12)) := by unfold sgS; rw [e1, e2]
           have eR : sgR (A 26) (F 25 20) m (psF F) = inV 0 m (psF F) := (if_neg (fun y => by have y1 : F 25 23 = 4 := y.1; have y2 : F 25 26 = 0 := y.2.1; have y3 : A 26 (F 25 22) = 45 := y.2.2; omega)).trans (by rw [e1])
           rw [eS, eR] at h
           simp only [psS_S]
           exact h)
    · skip
      (try (have bq := bp (by omega); rw [w32_id (x := F 25 22) (by omega) (by omega), w32_id (x := A 26 (F 25 22)) (by omega) (by omega)] at c2)); (try simp only [fiP_22, inS_22, nmS_22, psF_e, psF_q, psF_p, psF_o, psF_t, psF_v] at c2); (try simp (disch := omega) only [w32_0, wbi0, Classical.not_not, w32_id] at c2)
      refine ⟨by first | exact ⟨pt, pn, pk⟩ | exact ⟨⟨pn, pk⟩, by omega, by omega⟩ | exact ⟨⟨pn, kg⟩, by omega, by omega⟩ | (have q9 := k5 (by omega); rw [w32_id (by omega) (by omega)]; omega) | exact ⟨Or.inl rfl, by have := ig.1; omega, by have := ig.1; omega⟩ | exact ⟨Or.inr rfl, by have := ig.1; omega, by have := ig.1; omega⟩ | exact ⟨Or.inl rfl, by have := i_n.1; omega, by have := i_n.1; omega⟩ | exact ⟨Or.inr rfl, by have := i_n.1; omega, by have := i_n.1; omega⟩ | exact ⟨pt, pn, fiP_ok ig pn.2 (by decide)⟩ | exact ⟨pt, pn, fiP_ok i_n pn.2 (by decide)⟩, ?_⟩
      refine ⟨by first | exact ⟨pt, pn, pk⟩ | exact ⟨⟨pn, pk⟩, by omega, by omega⟩ | exact ⟨⟨pn, kg⟩, by omega, by omega⟩ | (have q9 := k5 (by omega); rw [w32_id (by omega) (by omega)]; omega) | exact ⟨Or.inl rfl, by have := ig.1; omega, by have := ig.1; omega⟩ | exact ⟨Or.inr rfl, by have := ig.1; omega, by have := ig.1; omega⟩ | exact ⟨Or.inl rfl, by have := i_n.1; omega, by have := i_n.1; omega⟩ | exact ⟨Or.inr rfl, by have := i_n.1; omega, by have := i_n.1; omega⟩ | exact ⟨pt, pn, fiP_ok ig pn.2 (by decide)⟩ | exact ⟨pt, pn, fiP_ok i_n pn.2 (by decide)⟩, ?_⟩
      refine ⟨fun _ => ?_, fun q => absurd (by decide) q⟩
      first
      | (have e1 : sg1 (A 26) (F 25 20) (psF F) = goM (A 26) (F 25 20) (psF F) := if_pos ⟨by show F 25 23 = 4; omega, by show F 25 26 = 0; omega, by show A 26 (F 25 22) = 45; omega⟩
         have e2 : (if inV 0 m (goM (A 26) (F 25 20) (psF F)) = 0 ∧ z = 0 then (1 : Int) else 0) = 0 := if_neg (by omega)
         have eS : sgS (A 26) (F 25 20) m z (psF F) = goM (A 26) (F 25 20) (fiP (inS 0 m (goM (A 26) (F 25 20) (psF F))) 0 (-12)) := by unfold sgS; rw [e1, e2]
         have eR : sgR (A 26) (F 25 20) m (psF F) = -(inV 0 m (goM (A 26) (F 25 20) (psF F))) := (if_pos ⟨by show F 25 23 = 4; omega, by show F 25 26 = 0; omega, by show A 26 (F 25 22) = 45; omega⟩).trans (by rw [e1])
         rw [eS, eR] at h
         simp only [psS_S]
         exact h)
      | (have e1 : sg1 (A 26) (F 25 20) (psF F) = goM (A 26) (F 25 20) (psF F) := if_pos ⟨by show F 25 23 = 4; omega, by show F 25 26 = 0; omega, by show A 26 (F 25 22) = 45; omega⟩
         have e2 : (if inV 0 m (goM (A 26) (F 25 20) (psF F)) = 0 ∧ z = 0 then (1 : Int) else 0) = 1 := if_pos (by omega)
         have eS : sgS (A 26) (F 25 20) m z (psF F) = goM (A 26) (F 25 20) (fiP (inS 0 m (goM (A 26) (F 25 20) (psF F))) 1 (-12)) := by unfold sgS; rw [e1, e2]
         have eR : sgR (A 26) (F 25 20) m (psF F) = -(inV 0 m (goM (A 26) (F 25 20) (psF F))) := (if_pos ⟨by show F 25 23 = 4; omega, by show F 25 26 = 0; omega, by show A 26 (F 25 22) = 45; omega⟩).trans (by rw [e1])
         rw [eS, eR] at h
         simp only [psS_S]
         exact h)
      | (have e1 : sg1 (A 26) (F 25 20) (psF F) = psF F := if_neg (fun y => by have y1 : F 25 23 = 4 := y.1; have y2 : F 25 26 = 0 := y.2.1; have y3 : A 26 (F 25 22) = 45 := y.2.2; omega)
         have e2 : (if inV 0 m (psF F) = 0 ∧ z = 0 then (1 : Int) else 0) = 0 := if_neg (by omega)
         have eS : sgS (A 26) (F 25 20) m z (psF F) = goM (A 26) (F 25 20) (fiP (inS 0 m (psF F)) 0 (-12)) := by unfold sgS; rw [e1, e2]
         have eR : sgR (A 26) (F 25 20) m (psF F) = inV 0 m (psF F) := (if_neg (fun y => by have y1 : F 25 23 = 4 := y.1; have y2 : F 25 26 = 0 := y.2.1; have y3 : A 26 (F 25 22) = 45 := y.2.2; omega)).trans (by rw [e1])
         rw [eS, eR] at h
         simp only [psS_S]
         exact h)
      | (have e1 : sg1 (A 26) (F 25 20) (psF F) = psF F := if_neg (fun y => by have y1 : F 25 23 = 4 := y.1; have y2 : F 25 26 = 0 := y.2.1; have y3 : A 26 (F 25 22) = 45 := y.2.2; omega)
         have e2 : (if inV 0 m (psF F) = 0 ∧ z = 0 then (1 : Int) else 0) = 1 := if_pos (by omega)
         have eS : sgS (A 26) (F 25 20) m z (psF F) = goM (A 26) (F 25 20) (fiP (inS 0 m (psF F)) 1 (-12)) := by unfold sgS; rw [e1, e2]
         have eR : sgR (A 26) (F 25 20) m (psF F) = inV 0 m (psF F) := (if_neg (fun y => by have y1 : F 25 23 = 4 := y.1; have y2 : F 25 26 = 0 := y.2.1; have y3 : A 26 (F 25 22) = 45 := y.2.2; omega)).trans (by rw [e1])
         rw [eS, eR] at h
         simp only [psS_S]
         exact h)
theorem qtX9_signed (l : Launch) (hst : l.stackTraces = false) : am_CT l layM qeX9_signed := am_met1 hst rfl (by decide +kernel) rfl rfl rfl rfl rfl (fun _ _ h => by cases h) rfl (qzX9_signed l hst) (fun as F A K h => by
  replace h : qsX9_signed as F A K := h
  unfold qsX9_signed at h
  split at h
  · rename_i o m z
    refine ⟨by first | exact Nat.le_of_ble_eq_true rfl | simp [am_fl, am_cat], ?_⟩
    replace h := am_cond2 h
    rcases h with ⟨hb, h⟩ | h
    · skip
      have hb0 := hb
      have hb0 := am_bq hb0
      subst hb0
      exact am_way_line (qvX9_signed_25 m z F A K h)
    exact h.elim
  · exact h.elim)
def qkX9_newName : Nat → Option CI := fun pc => cond (Nat.ble 184 pc) none (cond (Nat.ble 91 pc) (cond (Nat.ble 137 pc) (cond (Nat.ble 158 pc) (cond (Nat.ble 170 pc) (cond (Nat.ble 176 pc) (cond (Nat.ble 180 pc) (cond (Nat.beq pc 180) (some (.invokevirtual 248, 183, [])) (cond (Nat.beq pc 183) (some (.return_, 184, [])) (none))) (cond (Nat.beq pc 176) (some (.invokevirtual 241, 179, [])) (cond (Nat.beq pc 179) (some (.aload_n 0, 180, [])) (none)))) (cond (Nat.beq pc 170) (some (.goto 4, 173, [174])) (cond (Nat.beq pc 173) (some (.iconst 0, 174, [])) (cond (Nat.beq pc 174) (some (.bipush (-13), 176, [])) (none))))) (cond (Nat.ble 165 pc) (cond (Nat.beq pc 165) (some (.iload_n 1, 166, [])) (cond (Nat.beq pc 166) (some (.ifCond .eq 7, 169, [173])) (cond (Nat.beq pc 169) (some (.iconst 1, 170, [])) (none)))) (cond (Nat.beq pc 158) (some (.aload_n 0, 159, [])) (cond (Nat.beq pc 159) (some (.getfield 232, 162, [])) (cond (Nat.beq pc 162) (some (.ifCond .ne 11, 165, [173])) (none)))))) (cond (Nat.ble 148 pc) (cond (Nat.ble 155 pc) (cond (Nat.beq pc 155) (some (.iconst 0, 156, [])) (cond (Nat.beq pc 156) (some (.istore_n 1, 157, [])) (cond (Nat.beq pc 157) (some (.aload_n 0, 158, [])) (none)))) (cond (Nat.beq pc 148) (some (.if_icmp .eq 7, 151, [155])) (cond (Nat.beq pc 151) (some (.iconst 1, 152, [])) (cond (Nat.beq pc 152) (some (.goto 4, 155, [156])) (none))))) (cond (Nat.ble 141 pc) (cond (Nat.beq pc 141) (some (.getfield 251, 144, [])) (cond (Nat.beq pc 144) (some (.invokevirtual 254, 147, [])) (cond (Nat.beq pc 147) (some (.iconst (-1), 148, [])) (none)))) (cond (Nat.beq pc 137) (some (.bipush 15, 139, [])) (cond (Nat.beq pc 139) (some (.iaload, 140, [])) (cond (Nat.beq pc 140) (some (.aload_n 0, 141, [])) (none))))))) (cond (Nat.ble 112 pc) (cond (Nat.ble 123 pc) (cond (Nat.ble 130 pc) (cond (Nat.ble 133 pc) (cond (Nat.beq pc 133) (some (.aload_n 0, 134, [])) (cond (Nat.beq pc 134) (some (.getfield 13, 137, [])) (none))) (cond (Nat.beq pc 130) (some (.aload_n 0, 131, [])) (cond (Nat.beq pc 131) (some (.bipush 8, 133, [])) (none)))) (cond (Nat.beq pc 123) (some (.invokevirtual 254, 126, [])) (cond (Nat.beq pc 126) (some (.iconst (-1), 127, [])) (cond (Nat.beq pc 127) (some (.if_icmp .ne 24, 130, [151])) (none))))) (cond (Nat.ble 118 pc) (cond (Nat.beq pc 118) (some (.iaload, 119, [])) (cond (Nat.beq pc 119) (some (.aload_n 0, 120, [])) (cond (Nat.beq pc 120) (some (.getfield 251, 123, [])) (none)))) (cond (Nat.beq pc 112) (some (.aload_n 0, 113, [])) (cond (Nat.beq pc 113) (some (.getfield 13, 116, [])) (cond (Nat.beq pc 116) (some (.bipush 14, 118, [])) (none)))))) (cond (Nat.ble 100 pc) (cond (Nat.ble 107 pc) (cond (Nat.beq pc 107) (some (.goto (-60), 110, [47])) (cond (Nat.beq pc 110) (some (.aload_n 0, 111, [])) (cond (Nat.beq pc 111) (some (.iconst 0, 112, [])) (none)))) (cond (Nat.beq pc 100) (some (.ior, 101, [])) (cond (Nat.beq pc 101) (some (.putfield 251, 104, [])) (cond (Nat.beq pc 104) (some (.iinc 1 1, 107, [])) (none))))) (cond (Nat.ble 95 pc) (cond (Nat.beq pc 95) (some (.iadd, 96, [])) (cond (Nat.beq pc 96) (some (.goto 4, 99, [100])) (cond (Nat.beq pc 99) (some (.iconst 0, 100, [])) (none)))) (cond (Nat.beq pc 91) (some (.bipush 97, 93, [])) (cond (Nat.beq pc 93) (some (.isub, 94, [])) (cond (Nat.beq pc 94) (some (.iconst 1, 95, [])) (none)))))))) (cond (Nat.ble 47 pc) (cond (Nat.ble 68 pc) (cond (Nat.ble 80 pc) (cond (Nat.ble 85 pc) (cond (Nat.ble 89 pc) (cond (Nat.beq pc 89) (some (.iadd, 90, [])) (cond (Nat.beq pc 90) (some (.iaload, 91, [])) (none))) (cond (Nat.beq pc 85) (some (.getfield 201, 88, [])) (cond (Nat.beq pc 88) (some (.iload_n 1, 89, [])) (none)))) (cond (Nat.beq pc 80) (some (.aload_n 0, 81, [])) (cond (Nat.beq pc 81) (some (.getfield 7, 84, [])) (cond (Nat.beq pc 84) (some (.aload_n 0, 85, [])) (none))))) (cond (Nat.ble 73 pc) (cond (Nat.beq pc 73) (some (.aload_n 0, 74, [])) (cond (Nat.beq pc 74) (some (.getfield 192, 77, [])) (cond (Nat.beq pc 77) (some (.if_icmp .ge 22, 80, [99])) (none)))) (cond (Nat.beq pc 68) (some (.getfield 201, 71, [])) (cond (Nat.beq pc 71) (some (.iload_n 1, 72, [])) (cond (Nat.beq pc 72) (some (.iadd, 73, [])) (none)))))) (cond (Nat.ble 60 pc) (cond (Nat.ble 65 pc) (cond (Nat.beq pc 65) (some (.iconst 5, 66, [])) (cond (Nat.beq pc 66) (some (.ishl, 67, [])) (cond (Nat.beq pc 67) (some (.aload_n 0, 68, [])) (none)))) (cond (Nat.beq pc 60) (some (.aload_n 0, 61, [])) (cond (Nat.beq pc 61) (some (.aload_n 0, 62, [])) (cond (Nat.beq pc 62) (some (.getfield 251, 65, [])) (none))))) (cond (Nat.ble 53 pc) (cond (Nat.beq pc 53) (some (.aload_n 0, 54, [])) (cond (Nat.beq pc 54) (some (.getfield 232, 57, [])) (cond (Nat.beq pc 57) (some (.ifCond .ne 53, 60, [110])) (none)))) (cond (Nat.beq pc 47) (some (.iload_n 1, 48, [])) (cond (Nat.beq pc 48) (some (.bipush 6, 50, [])) (cond (Nat.beq pc 50) (some (.if_icmp .ge 60, 53, [110])) (none))))))) (cond (Nat.ble 24 pc) (cond (Nat.ble 35 pc) (cond (Nat.ble 41 pc) (cond (Nat.ble 45 pc) (cond (Nat.beq pc 45) (some (.iconst 0, 46, [])) (cond (Nat.beq pc 46) (some (.istore_n 1, 47, [])) (none))) (cond (Nat.beq pc 41) (some (.iconst 0, 42, [])) (cond (Nat.beq pc 42) (some (.putfield 251, 45, [])) (none)))) (cond (Nat.beq pc 35) (some (.bipush (-11), 37, [])) (cond (Nat.beq pc 37) (some (.invokevirtual 241, 40, [])) (cond (Nat.beq pc 40) (some (.aload_n 0, 41, [])) (none))))) (cond (Nat.ble 30 pc) (cond (Nat.beq pc 30) (some (.iconst 1, 31, [])) (cond (Nat.beq pc 31) (some (.goto 4, 34, [35])) (cond (Nat.beq pc 34) (some (.iconst 0, 35, [])) (none)))) (cond (Nat.beq pc 24) (some (.isub, 25, [])) (cond (Nat.beq pc 25) (some (.bipush 6, 27, [])) (cond (Nat.beq pc 27) (some (.if_icmp .le 7, 30, [34])) (none)))))) (cond (Nat.ble 12 pc) (cond (Nat.ble 17 pc) (cond (Nat.beq pc 17) (some (.getfield 192, 20, [])) (cond (Nat.beq pc 20) (some (.aload_n 0, 21, [])) (cond (Nat.beq pc 21) (some (.getfield 201, 24, [])) (none)))) (cond (Nat.beq pc 12) (some (.iconst (-1), 13, [])) (cond (Nat.beq pc 13) (some (.if_icmp .ne 17, 16, [30])) (cond (Nat.beq pc 16) (some (.aload_n 0, 17, [])) (none))))) (cond (Nat.ble 5 pc) (cond (Nat.beq pc 5) (some (.ifCond .ne 25, 8, [30])) (cond (Nat.beq pc 8) (some (.aload_n 0, 9, [])) (cond (Nat.beq pc 9) (some (.getfield 214, 12, [])) (none)))) (cond (Nat.beq pc 0) (some (.aload_n 0, 1, [])) (cond (Nat.beq pc 1) (some (.aload_n 0, 2, [])) (cond (Nat.beq pc 2) (some (.getfield 204, 5, [])) (none)))))))))
theorem qkX9_newName_ok : ∀ pc i nx ts, qkX9_newName pc = some (i, nx, ts) → am_cok cX9_newName pc (i, nx, ts) = true := fun pc i nx ts h => am_tok_ok (n := 184) (by decide +kernel) (fun pc h => by show cond (Nat.ble 184 pc) _ _ = _; rw [Nat.ble_eq_true_of_le h]; rfl) h
def qaX9_newName : Nat → Option CE := fun k => cond (Nat.beq k 241) (some qeX9_failsIf) (cond (Nat.beq k 254) (some qeX9_found) (cond (Nat.beq k 248) (some qeX9_goOn) (none)))
theorem qyX9_newName (l : Launch) (hst : l.stackTraces = false) : ∀ k e1, qaX9_newName k = some e1 → am_cal l layM RX9 13 k e1 ∧ True := q_cons ⟨am_calV (ci := 9) (qtX9_failsIf l) qbX9_failsIf (by decide) rfl (am_tb_at 1572 (by decide +kernel) rfl), trivial⟩ (q_cons ⟨am_calV (ci := 9) (qtX9_found l) qbX9_found (by decide) rfl (am_tb_at 1584 (by decide +kernel) rfl), trivial⟩ (q_cons ⟨am_calV (ci := 9) (qtX9_goOn l hst) qbX9_goOn (by decide) rfl (am_tb_at 1576 (by decide +kernel) rfl), trivial⟩ (q_nil)))
def qxX9_newName : CX := (qkX9_newName, layM, qfX9, qaX9_newName, qcX9, qlX9, qmX9, none, true, none, 0, none, fun _ => none)
theorem qzX9_newName (l : Launch) (hst : l.stackTraces = false) : am_sta l qxX9_newName RX9 13 cX9_newName := ⟨qkX9_newName_ok, layM_ok, qfX9_ok, qcX9_ok, qlX9_ok, am_mthP qmX9_ok (by decide), fun k e1 h => (qyX9_newName l hst k e1 h).1⟩
def qsX9_newName : SP := fun as F A K => match as with
  | [.inr (.inr o)] => cond (Nat.beq o 25) (((byO (A 26) ∧ (0 ≤ (F 25 20) ∧ (F 25 20) ≤ 800) ∧ psOK ((F 25 20)) (psF F)) ∧ ((0 ≤ A 27 14 ∧ A 27 14 ≤ 8) ∧ (0 ≤ A 27 15 ∧ A 27 15 ≤ 6))) ∧ (K (some none) (upF (psS F (nmG A ((F 25 20)) (psF F))) 25 25 (nmN (A 26) (psF F))) A)) (False)
  | _ => False
def qeX9_newName : CE := (yX9_newName, cX9_newName, 2, none, 0, some 9, 1, [], 0, 13, qsX9_newName)
theorem qbX9_newName : am_mb qeX9_newName := ⟨am_tb_at 1583 (by decide +kernel) rfl, am_tb_at 124 (by decide +kernel) rfl, ⟨by decide, by decide, by decide +kernel⟩, by decide, by decide, am_tb_at 1582 (by decide +kernel) rfl, am_tb_at 56 (by decide +kernel) rfl, _, _, rfl⟩
def qnX9_newName_25 : CUT := fun pc => cond (Nat.beq pc 47) (some [true, true]) (none)
def qiX9_newName_25  (F0 : FF) (A0 : AA) : REC := fun pc ls st F A u => cond (Nat.beq pc 47) (match ls, st, u with
    | [some (.inr (.inr s0)), some (.inl k)], [], 0 => s0 = 25 ∧ A = A0 ∧ (∃ mm : Int, F = upF (psS F0 (nmS (psF F0))) 25 25 mm ∧ (0 ≤ k ∧ k ≤ 6) ∧ mm = (if (nmS (psF F0)).1 = 0 then nmP (A0 26) (F0 25 22) (F0 25 21) (Int.toNat k) else 0))
    | _, _, _ => False) (False)
def quX9_newName_25 : Nat → LVs → List AV → FF → AA → Nat := fun pc ls _ F A => cond (Nat.beq pc 47) (match ls with
    | [some (.inr (.inr s0)), some (.inl k)] => Int.toNat (10 - k)
    | _ => 0) (0)
set_option maxRecDepth 20000 in
theorem qvX9_newName_25_0  (F0 : FF) (A0 : AA) (K : KK) (h : ((byO (A0 26) ∧ (0 ≤ (F0 25 20) ∧ (F0 25 20) ≤ 800) ∧ psOK ((F0 25 20)) (psF F0)) ∧ ((0 ≤ A0 27 14 ∧ A0 27 14 ≤ 8) ∧ (0 ≤ A0 27 15 ∧ A0 27 15 ≤ 6))) ∧ (K (some none) (upF (psS F0 (nmG A0 ((F0 25 20)) (psF F0))) 25 25 (nmN (A0 26) (psF F0))) A0)) : am_stp qxX9_newName (am_run qxX9_newName qnX9_newName_25 (qiX9_newName_25  F0 A0) K 46) K 0 (am_ent [vR 25] 2) [] F0 A0 0 := by
  show am_stp qxX9_newName (am_run qxX9_newName qnX9_newName_25 (qiX9_newName_25  F0 A0) K 46) K 0 [some (vR 25), none] [] F0 A0 0
  obtain ⟨hp, h⟩ := h
  obtain ⟨⟨pt, pn, pk⟩, pc⟩ := hp
  have ke : -14 ≤ F0 25 26 ∧ F0 25 26 ≤ 0 := pk.1
  have kt : 0 ≤ F0 25 23 ∧ F0 25 23 ≤ 4 := pk.2.2.2.2.1
  have kv : -1 ≤ F0 25 24 ∧ F0 25 24 ≤ 2000000 := pk.2.2.2.2.2.2
  have k3 : 0 ≤ F0 25 22 := pk.2.2.1.1
  have k4 : F0 25 22 ≤ F0 25 21 ∧ F0 25 21 ≤ F0 25 20 := pk.2.2.2.1
  have kn := nmS_ok pk pn.2
  have kne := kn.1
  show (w32 (F0 25 23) = w32 0 → ((w32 (F0 25 24) = w32 (-1) → ((w32 6 < w32 ((F0 25 21) - (F0 25 22)) → (((1 = 0 ∨ 1 = 1) ∧ (-2147483648 ≤ (F0 25 26) ∧ (F0 25 26) < 2147483648)) ∧ (25 = 25 ∧ A0 = A0 ∧ (∃ mm : Int, (upF (psS F0 (fiP (psF F0) 1 (-11))) 25 25 0) = upF (psS F0 (nmS (psF F0))) 25 25 mm ∧ (0 ≤ 0 ∧ 0 ≤ 6) ∧ mm = (if (nmS (psF F0)).1 = 0 then nmP (A0 26) (F0 25 22) (F0 25 21) (Int.toNat 0) else 0))))) ∧ (¬ w32 6 < w32 ((F0 25 21) - (F0 25 22)) → (((0 = 0 ∨ 0 = 1) ∧ (-2147483648 ≤ (F0 25 26) ∧ (F0 25 26) < 2147483648)) ∧ (25 = 25 ∧ A0 = A0 ∧ (∃ mm : Int, (upF (psS F0 (fiP (psF F0) 0 (-11))) 25 25 0) = upF (psS F0 (nmS (psF F0))) 25 25 mm ∧ (0 ≤ 0 ∧ 0 ≤ 6) ∧ mm = (if (nmS (psF F0)).1 = 0 then nmP (A0 26) (F0 25 22) (F0 25 21) (Int.toNat 0) else 0))))))) ∧ (¬ w32 (F0 25 24) = w32 (-1) → (((1 = 0 ∨ 1 = 1) ∧ (-2147483648 ≤ (F0 25 26) ∧ (F0 25 26) < 2147483648)) ∧ (25 = 25 ∧ A0 = A0 ∧ (∃ mm : Int, (upF (psS F0 (fiP (psF F0) 1 (-11))) 25 25 0) = upF (psS F0 (nmS (psF F0))) 25 25 mm ∧ (0 ≤ 0 ∧ 0 ≤ 6) ∧ mm = (if (nmS (psF F0)).1 = 0 then nmP (A0 26) (F0 25 22) (F0 25 21) (Int.toNat 0) else 0))))))) ∧ (¬ w32 (F0 25 23) = w32 0 → (((1 = 0 ∨ 1 = 1) ∧ (-2147483648 ≤ (F0 25 26) ∧ (F0 25 26) < 2147483648)) ∧ (25 = 25 ∧ A0 = A0 ∧ (∃ mm : Int, (upF (psS F0 (fiP (psF F0) 1 (-11))) 25 25 0) = upF (psS F0 (nmS (psF F0))) 25 25 mm ∧ (0 ≤ 0 ∧ 0 ≤ 6) ∧ mm = (if (nmS (psF F0)).1 = 0 then nmP (A0 26) (F0 25 22) (F0 25 21) (Int.toNat 0) else 0)))))
  refine ⟨fun c1 => ?_, fun c1 => ?_⟩
  · skip
    (try simp only [fiP_22, inS_22, nmS_22, psF_e, psF_q, psF_p, psF_o, psF_t, psF_v] at c1); (try simp (disch := omega) only [w32_0, wbi0, Classical.not_not, w32_id] at c1)
    refine ⟨fun c2 => ?_, fun c2 => ?_⟩
    · skip
      (try simp only [fiP_22, inS_22, nmS_22, psF_e, psF_q, psF_p, psF_o, psF_t, psF_v] at c2); (try simp (disch := omega) only [w32_0, wbi0, Classical.not_not, w32_id] at c2)
      refine ⟨fun c3 => ?_, fun c3 => ?_⟩
      · skip
        (try simp only [fiP_22, inS_22, nmS_22, psF_e, psF_q, psF_p, psF_o, psF_t, psF_v] at c3); (try simp (disch := omega) only [w32_0, wbi0, Classical.not_not, w32_id] at c3)
        refine ⟨by first | exact ⟨Or.inl rfl, by omega, by omega⟩ | exact ⟨Or.inr rfl, by omega, by omega⟩, ?_⟩
        refine ⟨rfl, rfl, ?_⟩
        first
        | (have e1 : (if (¬ (psF F0).2.2.2.2.1 = 0) ∨ (¬ (psF F0).2.2.2.2.2 = -1) ∨ 6 < (psF F0).2.2.2.1 - (psF F0).2.2.1 then (1 : Int) else 0) = 0 := if_neg (by simp only [psF_t, psF_v, psF_o, psF_p]; omega)
           have eS : nmS (psF F0) = fiP (psF F0) 0 (-11) := by unfold nmS; rw [e1]
           rw [← eS]
           refine ⟨0, rfl, by decide, ?_⟩
           split <;> rfl)
        | (have e1 : (if (¬ (psF F0).2.2.2.2.1 = 0) ∨ (¬ (psF F0).2.2.2.2.2 = -1) ∨ 6 < (psF F0).2.2.2.1 - (psF F0).2.2.1 then (1 : Int) else 0) = 1 := if_pos (by simp only [psF_t, psF_v, psF_o, psF_p]; omega)
           have eS : nmS (psF F0) = fiP (psF F0) 1 (-11) := by unfold nmS; rw [e1]
           rw [← eS]
           refine ⟨0, rfl, by decide, ?_⟩
           split <;> rfl)
      · skip
        (try simp only [fiP_22, inS_22, nmS_22, psF_e, psF_q, psF_p, psF_o, psF_t, psF_v] at c3); (try simp (disch := omega) only [w32_0, wbi0, Classical.not_not, w32_id] at c3)
        refine ⟨by first | exact ⟨Or.inl rfl, by omega, by omega⟩ | exact ⟨Or.inr rfl, by omega, by omega⟩, ?_⟩
        refine ⟨rfl, rfl, ?_⟩
        first
        | (have e1 : (if (¬ (psF F0).2.2.2.2.1 = 0) ∨ (¬ (psF F0).2.2.2.2.2 = -1) ∨ 6 < (psF F0).2.2.2.1 - (psF F0).2.2.1 then (1 : Int) else 0) = 0 := if_neg (by simp only [psF_t, psF_v, psF_o, psF_p]; omega)
           have eS : nmS (psF F0) = fiP (psF F0) 0 (-11) := by unfold nmS; rw [e1]
           rw [← eS]
           refine ⟨0, rfl, by decide, ?_⟩
           split <;> rfl)
        | (have e1 : (if (¬ (psF F0).2.2.2.2.1 = 0) ∨ (¬ (psF F0).2.2.2.2.2 = -1) ∨ 6 < (psF F0).2.2.2.1 - (psF F0).2.2.1 then (1 : Int) else 0) = 1 := if_pos (by simp only [psF_t, psF_v, psF_o, psF_p]; omega)
           have eS : nmS (psF F0) = fiP (psF F0) 1 (-11) := by unfold nmS; rw [e1]
           rw [← eS]
           refine ⟨0, rfl, by decide, ?_⟩
           split <;> rfl)
    · skip
      (try simp only [fiP_22, inS_22, nmS_22, psF_e, psF_q, psF_p, psF_o, psF_t, psF_v] at c2); (try simp (disch := omega) only [w32_0, wbi0, Classical.not_not, w32_id] at c2)
      refine ⟨by first | exact ⟨Or.inl rfl, by omega, by omega⟩ | exact ⟨Or.inr rfl, by omega, by omega⟩, ?_⟩
      refine ⟨rfl, rfl, ?_⟩
      first
      | (have e1 : (if (¬ (psF F0).2.2.2.2.1 = 0) ∨ (¬ (psF F0).2.2.2.2.2 = -1) ∨ 6 < (psF F0).2.2.2.1 - (psF F0).2.2.1 then (1 : Int) else 0) = 0 := if_neg (by simp only [psF_t, psF_v, psF_o, psF_p]; omega)
         have eS : nmS (psF F0) = fiP (psF F0) 0 (-11) := by unfold nmS; rw [e1]
         rw [← eS]
         refine ⟨0, rfl, by decide, ?_⟩
         split <;> rfl)
      | (have e1 : (if (¬ (psF F0).2.2.2.2.1 = 0) ∨ (¬ (psF F0).2.2.2.2.2 = -1) ∨ 6 < (psF F0).2.2.2.1 - (psF F0).2.2.1 then (1 : Int) else 0) = 1 := if_pos (by simp only [psF_t, psF_v, psF_o, psF_p]; omega)
         have eS : nmS (psF F0) = fiP (psF F0) 1 (-11) := by unfold nmS; rw [e1]
         rw [← eS]
         refine ⟨0, rfl, by decide, ?_⟩
         split <;> rfl)
  · skip
    (try simp only [fiP_22, inS_22, nmS_22, psF_e, psF_q, psF_p, psF_o, psF_t, psF_v] at c1); (try simp (disch := omega) only [w32_0, wbi0, Classical.not_not, w32_id] at c1)
    refine ⟨by first | exact ⟨Or.inl rfl, by omega, by omega⟩ | exact ⟨Or.inr rfl, by omega, by omega⟩, ?_⟩
    refine ⟨rfl, rfl, ?_⟩
    first
    | (have e1 : (if (¬ (psF F0).2.2.2.2.1 = 0) ∨ (¬ (psF F0).2.2.2.2.2 = -1) ∨ 6 < (psF F0).2.2.2.1 - (psF F0).2.2.1 then (1 : Int) else 0) = 0 := if_neg (by simp only [psF_t, psF_v, psF_o, psF_p]; omega)
       have eS : nmS (psF F0) = fiP (psF F0) 0 (-11) := by unfold nmS; rw [e1]
       rw [← eS]
       refine ⟨0, rfl, by decide, ?_⟩
       split <;> rfl)
    | (have e1 : (if (¬ (psF F0).2.2.2.2.1 = 0) ∨ (¬ (psF F0).2.2.2.2.2 = -1) ∨ 6 < (psF F0).2.2.2.1 - (psF F0).2.2.1 then (1 : Int) else 0) = 1 := if_pos (by simp only [psF_t, psF_v, psF_o, psF_p]; omega)
       have eS : nmS (psF F0) = fiP (psF F0) 1 (-11) := by unfold nmS; rw [e1]
       rw [← eS]
       refine ⟨0, rfl, by decide, ?_⟩
       split <;> rfl)
set_option maxRecDepth 20000 in
theorem qvX9_newName_25_47  (F0 : FF) (A0 : AA) (K : KK) (h : ((byO (A0 26) ∧ (0 ≤ (F0 25 20) ∧ (F0 25 20) ≤ 800) ∧ psOK ((F0 25 20)) (psF F0)) ∧ ((0 ≤ A0 27 14 ∧ A0 27 14 ≤ 8) ∧ (0 ≤ A0 27 15 ∧ A0 27 15 ≤ 6))) ∧ (K (some none) (upF (psS F0 (nmG A0 ((F0 25 20)) (psF F0))) 25 25 (nmN (A0 26) (psF F0))) A0)) (k : Int) (F : FF) (hi : ∃ mm : Int, F = upF (psS F0 (nmS (psF F0))) 25 25 mm ∧ (0 ≤ k ∧ k ≤ 6) ∧ mm = (if (nmS (psF F0)).1 = 0 then nmP (A0 26) (F0 25 22) (F0 25 21) (Int.toNat k) else 0)) : am_stp qxX9_newName (am_run qxX9_newName qnX9_newName_25 (fun pc ls st F9 A9 u => qiX9_newName_25  F0 A0 pc ls st F9 A9 u ∧ quX9_newName_25 pc ls st F9 A9 < quX9_newName_25 47 [some (vR 25), some (vI k)] [] F A0) K 46) K 47 [some (vR 25), some (vI k)] [] F A0 0 := by
  obtain ⟨hp, h⟩ := h
  obtain ⟨⟨pt, pn, pk⟩, pc⟩ := hp
  have ke : -14 ≤ F0 25 26 ∧ F0 25 26 ≤ 0 := pk.1
  have kt : 0 ≤ F0 25 23 ∧ F0 25 23 ≤ 4 := pk.2.2.2.2.1
  have kv : -1 ≤ F0 25 24 ∧ F0 25 24 ≤ 2000000 := pk.2.2.2.2.2.2
  have k3 : 0 ≤ F0 25 22 := pk.2.2.1.1
  have k4 : F0 25 22 ≤ F0 25 21 ∧ F0 25 21 ≤ F0 25 20 := pk.2.2.2.1
  have kn := nmS_ok pk pn.2
  have kne := kn.1
  obtain ⟨nn, rfl, h1, h2⟩ := hi
  have ns := nmP_s (T := A0 26) (p := F0 25 22) (e := F0 25 21) h1.1
  have fb1 := firstk_b (fun jj => decide (w32 (A0 27 (0 + jj)) = w32 nn)) (Int.toNat (A0 27 14))
  have fb2 := firstk_b (fun jj => decide (w32 (A0 27 (8 + jj)) = w32 nn)) (Int.toNat (A0 27 15))
  have fb1 : -1 ≤ fnM A0 0 (A0 27 14) nn ∧ fnM A0 0 (A0 27 14) nn < (Int.toNat (A0 27 14) : Nat) := fb1
  have fb2 : -1 ≤ fnM A0 8 (A0 27 15) nn ∧ fnM A0 8 (A0 27 15) nn < (Int.toNat (A0 27 15) : Nat) := fb2
  show (w32 k < w32 6 → ((w32 ((nmS (psF F0)).1) = w32 0 → ((w32 (((nmS (psF F0)).2.2.1) + k) < w32 ((nmS (psF F0)).2.2.2.1) → ((0 ≤ w32 (((nmS (psF F0)).2.2.1) + k) ∧ w32 (((nmS (psF F0)).2.2.1) + k) < 800) ∧ ((25 = 25 ∧ A0 = A0 ∧ (∃ mm : Int, (upF (upF (psS F0 (nmS (psF F0))) 25 25 nn) 25 25 (x_or (x_shl nn 5) (((A0 26 (w32 (((nmS (psF F0)).2.2.1) + k))) - 97) + 1))) = upF (psS F0 (nmS (psF F0))) 25 25 mm ∧ (0 ≤ (k + 1) ∧ (k + 1) ≤ 6) ∧ mm = (if (nmS (psF F0)).1 = 0 then nmP (A0 26) (F0 25 22) (F0 25 21) (Int.toNat (k + 1)) else 0))) ∧ (Int.toNat (10 - (k + 1))) < (Int.toNat (10 - k))))) ∧ (¬ w32 (((nmS (psF F0)).2.2.1) + k) < w32 ((nmS (psF F0)).2.2.2.1) → ((25 = 25 ∧ A0 = A0 ∧ (∃ mm : Int, (upF (upF (psS F0 (nmS (psF F0))) 25 25 nn) 25 25 (x_or (x_shl nn 5) 0)) = upF (psS F0 (nmS (psF F0))) 25 25 mm ∧ (0 ≤ (k + 1) ∧ (k + 1) ≤ 6) ∧ mm = (if (nmS (psF F0)).1 = 0 then nmP (A0 26) (F0 25 22) (F0 25 21) (Int.toNat (k + 1)) else 0))) ∧ (Int.toNat (10 - (k + 1))) < (Int.toNat (10 - k)))))) ∧ (¬ w32 ((nmS (psF F0)).1) = w32 0 → ((0 ≤ w32 14 ∧ w32 14 < 16) ∧ (((0 ≤ 0 ∧ 0 ≤ 8) ∧ (0 ≤ (A0 27 (w32 14)) ∧ (A0 27 (w32 14)) ≤ 8)) ∧ ((w32 (firstk (fun jj => decide (w32 (A0 27 (0 + jj)) = w32 nn)) (Int.toNat (A0 27 (w32 14)))) = w32 (-1) → ((0 ≤ w32 15 ∧ w32 15 < 16) ∧ (((0 ≤ 8 ∧ 8 ≤ 8) ∧ (0 ≤ (A0 27 (w32 15)) ∧ (A0 27 (w32 15)) ≤ 8)) ∧ ((w32 (firstk (fun jj => decide (w32 (A0 27 (8 + jj)) = w32 nn)) (Int.toNat (A0 27 (w32 15)))) = w32 (-1) → ((w32 ((nmS (psF F0)).1) = w32 0 → ((w32 0 = w32 0 → (((0 = 0 ∨ 0 = 1) ∧ (-2147483648 ≤ ((nmS (psF F0)).1) ∧ ((nmS (psF F0)).1) < 2147483648)) ∧ ((byO (A0 26) ∧ (0 ≤ (F0 25 20) ∧ (F0 25 20) ≤ 800) ∧ psOK ((F0 25 20)) ((fiP ((nmS (psF F0))) 0 (-13)))) ∧ (K (some none) (psS (psS (upF (psS F0 (nmS (psF F0))) 25 25 nn) (fiP ((nmS (psF F0))) 0 (-13))) (goM (A0 26) ((F0 25 20)) ((fiP ((nmS (psF F0))) 0 (-13))))) A0)))) ∧ (¬ w32 0 = w32 0 → _))) ∧ (¬ w32 ((nmS (psF F0)).1) = w32 0 → (((0 = 0 ∨ 0 = 1) ∧ (-2147483648 ≤ ((nmS (psF F0)).1) ∧ ((nmS (psF F0)).1) < 2147483648)) ∧ ((byO (A0 26) ∧ (0 ≤ (F0 25 20) ∧ (F0 25 20) ≤ 800) ∧ psOK ((F0 25 20)) ((fiP ((nmS (psF F0))) 0 (-13)))) ∧ (K (some none) (psS (psS (upF (psS F0 (nmS (psF F0))) 25 25 nn) (fiP ((nmS (psF F0))) 0 (-13))) (goM (A0 26) ((F0 25 20)) ((fiP ((nmS (psF F0))) 0 (-13))))) A0)))))) ∧ (¬ w32 (firstk (fun jj => decide (w32 (A0 27 (8 + jj)) = w32 nn)) (Int.toNat (A0 27 (w32 15)))) = w32 (-1) → ((w32 ((nmS (psF F0)).1) = w32 0 → ((w32 1 = w32 0 → _) ∧ (¬ w32 1 = w32 0 → (((1 = 0 ∨ 1 = 1) ∧ (-2147483648 ≤ ((nmS (psF F0)).1) ∧ ((nmS (psF F0)).1) < 2147483648)) ∧ ((byO (A0 26) ∧ (0 ≤ (F0 25 20) ∧ (F0 25 20) ≤ 800) ∧ psOK ((F0 25 20)) ((fiP ((nmS (psF F0))) 1 (-13)))) ∧ (K (some none) (psS (psS (upF (psS F0 (nmS (psF F0))) 25 25 nn) (fiP ((nmS (psF F0))) 1 (-13))) (goM (A0 26) ((F0 25 20)) ((fiP ((nmS (psF F0))) 1 (-13))))) A0)))))) ∧ (¬ w32 ((nmS (psF F0)).1) = w32 0 → (((0 = 0 ∨ 0 = 1) ∧ (-2147483648 ≤ ((nmS (psF F0)).1) ∧ ((nmS (psF F0)).1) < 2147483648)) ∧ ((byO (A0 26) ∧ (0 ≤ (F0 25 20) ∧ (F0 25 20) ≤ 800) ∧ psOK ((F0 25 20)) ((fiP ((nmS (psF F0))) 0 (-13)))) ∧ (K (some none) (psS (psS (upF (psS F0 (nmS (psF F0))) 25 25 nn) (fiP ((nmS (psF F0))) 0 (-13))) (goM (A0 26) ((F0 25 20)) ((fiP ((nmS (psF F0))) 0 (-13))))) A0)))))))))) ∧ (¬ w32 (firstk (fun jj => decide (w32 (A0 27 (0 + jj)) = w32 nn)) (Int.toNat (A0 27 (w32 14)))) = w32 (-1) → ((w32 ((nmS (psF F0)).1) = w32 0 → ((w32 1 = w32 0 → _) ∧ (¬ w32 1 = w32 0 → (((1 = 0 ∨ 1 = 1) ∧ (-2147483648 ≤ ((nmS (psF F0)).1) ∧ ((nmS (psF F0)).1) < 2147483648)) ∧ ((byO (A0 26) ∧ (0 ≤ (F0 25 20) ∧ (F0 25 20) ≤ 800) ∧ psOK ((F0 25 20)) ((fiP ((nmS (psF F0))) 1 (-13)))) ∧ (K (some none) (psS (psS (upF (psS F0 (nmS (psF F0))) 25 25 nn) (fiP ((nmS (psF F0))) 1 (-13))) (goM (A0 26) ((F0 25 20)) ((fiP ((nmS (psF F0))) 1 (-13))))) A0)))))) ∧ (¬ w32 ((nmS (psF F0)).1) = w32 0 → (((0 = 0 ∨ 0 = 1) ∧ (-2147483648 ≤ ((nmS (psF F0)).1) ∧ ((nmS (psF F0)).1) < 2147483648)) ∧ ((byO (A0 26) ∧ (0 ≤ (F0 25 20) ∧ (F0 25 20) ≤ 800) ∧ psOK ((F0 25 20)) ((fiP ((nmS (psF F0))) 0 (-13)))) ∧ (K (some none) (psS (psS (upF (psS F0 (nmS (psF F0))) 25 25 nn) (fiP ((nmS (psF F0))) 0 (-13))) (goM (A0 26) ((F0 25 20)) ((fiP ((nmS (psF F0))) 0 (-13))))) A0)))))))))))) ∧ (¬ w32 k < w32 6 → ((0 ≤ w32 14 ∧ w32 14 < 16) ∧ (((0 ≤ 0 ∧ 0 ≤ 8) ∧ (0 ≤ (A0 27 (w32 14)) ∧ (A0 27 (w32 14)) ≤ 8)) ∧ ((w32 (firstk (fun jj => decide (w32 (A0 27 (0 + jj)) = w32 nn)) (Int.toNat (A0 27 (w32 14)))) = w32 (-1) → ((0 ≤ w32 15 ∧ w32 15 < 16) ∧ (((0 ≤ 8 ∧ 8 ≤ 8) ∧ (0 ≤ (A0 27 (w32 15)) ∧ (A0 27 (w32 15)) ≤ 8)) ∧ ((w32 (firstk (fun jj => decide (w32 (A0 27 (8 + jj)) = w32 nn)) (Int.toNat (A0 27 (w32 15)))) = w32 (-1) → ((w32 ((nmS (psF F0)).1) = w32 0 → ((w32 0 = w32 0 → (((0 = 0 ∨ 0 = 1) ∧ (-2147483648 ≤ ((nmS (psF F0)).1) ∧ ((nmS (psF F0)).1) < 2147483648)) ∧ ((byO (A0 26) ∧ (0 ≤ (F0 25 20) ∧ (F0 25 20) ≤ 800) ∧ psOK ((F0 25 20)) ((fiP ((nmS (psF F0))) 0 (-13)))) ∧ (K (some none) (psS (psS (upF (psS F0 (nmS (psF F0))) 25 25 nn) (fiP ((nmS (psF F0))) 0 (-13))) (goM (A0 26) ((F0 25 20)) ((fiP ((nmS (psF F0))) 0 (-13))))) A0)))) ∧ (¬ w32 0 = w32 0 → _))) ∧ (¬ w32 ((nmS (psF F0)).1) = w32 0 → (((0 = 0 ∨ 0 = 1) ∧ (-2147483648 ≤ ((nmS (psF F0)).1) ∧ ((nmS (psF F0)).1) < 2147483648)) ∧ ((byO (A0 26) ∧ (0 ≤ (F0 25 20) ∧ (F0 25 20) ≤ 800) ∧ psOK ((F0 25 20)) ((fiP ((nmS (psF F0))) 0 (-13)))) ∧ (K (some none) (psS (psS (upF (psS F0 (nmS (psF F0))) 25 25 nn) (fiP ((nmS (psF F0))) 0 (-13))) (goM (A0 26) ((F0 25 20)) ((fiP ((nmS (psF F0))) 0 (-13))))) A0)))))) ∧ (¬ w32 (firstk (fun jj => decide (w32 (A0 27 (8 + jj)) = w32 nn)) (Int.toNat (A0 27 (w32 15)))) = w32 (-1) → ((w32 ((nmS (psF F0)).1) = w32 0 → ((w32 1 = w32 0 → _) ∧ (¬ w32 1 = w32 0 → (((1 = 0 ∨ 1 = 1) ∧ (-2147483648 ≤ ((nmS (psF F0)).1) ∧ ((nmS (psF F0)).1) < 2147483648)) ∧ ((byO (A0 26) ∧ (0 ≤ (F0 25 20) ∧ (F0 25 20) ≤ 800) ∧ psOK ((F0 25 20)) ((fiP ((nmS (psF F0))) 1 (-13)))) ∧ (K (some none) (psS (psS (upF (psS F0 (nmS (psF F0))) 25 25 nn) (fiP ((nmS (psF F0))) 1 (-13))) (goM (A0 26) ((F0 25 20)) ((fiP ((nmS (psF F0))) 1 (-13))))) A0)))))) ∧ (¬ w32 ((nmS (psF F0)).1) = w32 0 → (((0 = 0 ∨ 0 = 1) ∧ (-2147483648 ≤ ((nmS (psF F0)).1) ∧ ((nmS (psF F0)).1) < 2147483648)) ∧ ((byO (A0 26) ∧ (0 ≤ (F0 25 20) ∧ (F0 25 20) ≤ 800) ∧ psOK ((F0 25 20)) ((fiP ((nmS (psF F0))) 0 (-13)))) ∧ (K (some none) (psS (psS (upF (psS F0 (nmS (psF F0))) 25 25 nn) (fiP ((nmS (psF F0))) 0 (-13))) (goM (A0 26) ((F0 25 20)) ((fiP ((nmS (psF F0))) 0 (-13))))) A0)))))))))) ∧ (¬ w32 (firstk (fun jj => decide (w32 (A0 27 (0 + jj)) = w32 nn)) (Int.toNat (A0 27 (w32 14)))) = w32 (-1) → ((w32 ((nmS (psF F0)).1) = w32 0 → ((w32 1 = w32 0 → _) ∧ (¬ w32 1 = w32 0 → (((1 = 0 ∨ 1 = 1) ∧ (-2147483648 ≤ ((nmS (psF F0)).1) ∧ ((nmS (psF F0)).1) < 2147483648)) ∧ ((byO (A0 26) ∧ (0 ≤ (F0 25 20) ∧ (F0 25 20) ≤ 800) ∧ psOK ((F0 25 20)) ((fiP ((nmS (psF F0))) 1 (-13)))) ∧ (K (some none) (psS (psS (upF (psS F0 (nmS (psF F0))) 25 25 nn) (fiP ((nmS (psF F0))) 1 (-13))) (goM (A0 26) ((F0 25 20)) ((fiP ((nmS (psF F0))) 1 (-13))))) A0)))))) ∧ (¬ w32 ((nmS (psF F0)).1) = w32 0 → (((0 = 0 ∨ 0 = 1) ∧ (-2147483648 ≤ ((nmS (psF F0)).1) ∧ ((nmS (psF F0)).1) < 2147483648)) ∧ ((byO (A0 26) ∧ (0 ≤ (F0 25 20) ∧ (F0 25 20) ≤ 800) ∧ psOK ((F0 25 20)) ((fiP ((nmS (psF F0))) 0 (-13)))) ∧ (K (some none) (psS (psS (upF (psS F0 (nmS (psF F0))) 25 25 nn) (fiP ((nmS (psF F0))) 0 (-13))) (goM (A0 26) ((F0 25 20)) ((fiP ((nmS (psF F0))) 0 (-13))))) A0))))))))))
  refine ⟨fun c1 => ?_, fun c1 => ?_⟩
  · skip
    (try (change w32 (fnM A0 0 (A0 27 14) nn) = w32 (-1) at c1; rw [w32_id (x := fnM A0 0 (A0 27 14) nn) (by omega) (by omega), w32_id (x := -1) (by decide) (by decide)] at c1)); (try (change ¬ w32 (fnM A0 0 (A0 27 14) nn) = w32 (-1) at c1; rw [w32_id (x := fnM A0 0 (A0 27 14) nn) (by omega) (by omega), w32_id (x := -1) (by decide) (by decide)] at c1)); (try (change w32 (fnM A0 8 (A0 27 15) nn) = w32 (-1) at c1; rw [w32_id (x := fnM A0 8 (A0 27 15) nn) (by omega) (by omega), w32_id (x := -1) (by decide) (by decide)] at c1)); (try (change ¬ w32 (fnM A0 8 (A0 27 15) nn) = w32 (-1) at c1; rw [w32_id (x := fnM A0 8 (A0 27 15) nn) (by omega) (by omega), w32_id (x := -1) (by decide) (by decide)] at c1)); (try simp only [fiP_22, inS_22, nmS_22, psF_e, psF_q, psF_p, psF_o, psF_t, psF_v] at c1); (try simp (disch := omega) only [w32_0, wbi0, Classical.not_not, w32_id] at c1)
    refine ⟨fun c2 => ?_, fun c2 => ?_⟩
    · skip
      (try (change w32 (fnM A0 0 (A0 27 14) nn) = w32 (-1) at c2; rw [w32_id (x := fnM A0 0 (A0 27 14) nn) (by omega) (by omega), w32_id (x := -1) (by decide) (by decide)] at c2)); (try (change ¬ w32 (fnM A0 0 (A0 27 14) nn) = w32 (-1) at c2; rw [w32_id (x := fnM A0 0 (A0 27 14) nn) (by omega) (by omega), w32_id (x := -1) (by decide) (by decide)] at c2)); (try (change w32 (fnM A0 8 (A0 27 15) nn) = w32 (-1) at c2; rw [w32_id (x := fnM A0 8 (A0 27 15) nn) (by omega) (by omega), w32_id (x := -1) (by decide) (by decide)] at c2)); (try (change ¬ w32 (fnM A0 8 (A0 27 15) nn) = w32 (-1) at c2; rw [w32_id (x := fnM A0 8 (A0 27 15) nn) (by omega) (by omega), w32_id (x := -1) (by decide) (by decide)] at c2)); (try simp only [fiP_22, inS_22, nmS_22, psF_e, psF_q, psF_p, psF_o, psF_t, psF_v] at c2); (try simp (disch := omega) only [w32_0, wbi0, Classical.not_not, w32_id] at c2)
      refine ⟨fun c3 => ?_, fun c3 => ?_⟩
      · skip
        (try (change w32 (fnM A0 0 (A0 27 14) nn) = w32 (-1) at c3; rw [w32_id (x := fnM A0 0 (A0 27 14) nn) (by omega) (by omega), w32_id (x := -1) (by decide) (by decide)] at c3)); (try (change ¬ w32 (fnM A0 0 (A0 27 14) nn) = w32 (-1) at c3; rw [w32_id (x := fnM A0 0 (A0 27 14) nn) (by omega) (by omega), w32_id (x := -1) (by decide) (by decide)] at c3)); (try (change w32 (fnM A0 8 (A0 27 15) nn) = w32 (-1) at c3; rw [w32_id (x := fnM A0 8 (A0 27 15) nn) (by omega) (by omega), w32_id (x := -1) (by decide) (by decide)] at c3)); (try (change ¬ w32 (fnM A0 8 (A0 27 15) nn) = w32 (-1) at c3; rw [w32_id (x := fnM A0 8 (A0 27 15) nn) (by omega) (by omega), w32_id (x := -1) (by decide) (by decide)] at c3)); (try simp only [fiP_22, inS_22, nmS_22, psF_e, psF_q, psF_p, psF_o, psF_t, psF_v] at c3); (try simp (disch := omega) only [w32_0, wbi0, Classical.not_not, w32_id] at c3)
        refine ⟨by first | decide | (show (0 ≤ (0 : Int) ∧ (0 : Int) ≤ 8) ∧ 0 ≤ A0 27 14 ∧ A0 27 14 ≤ 8; omega) | (show (0 ≤ (8 : Int) ∧ (8 : Int) ≤ 8) ∧ 0 ≤ A0 27 15 ∧ A0 27 15 ≤ 8; omega) | (simp only [nmS_22, psF_p]; rw [w32_id (by omega) (by omega)]; omega) | exact ⟨Or.inl rfl, by omega, by omega⟩ | exact ⟨Or.inr rfl, by omega, by omega⟩ | exact ⟨pt, pn, fiP_ok kn pn.2 (by decide)⟩, ?_⟩
        refine ⟨⟨rfl, rfl, ?_⟩, by omega⟩
        rw [if_pos (by assumption)] at h2
        refine ⟨_, upF_2, by omega, ?_⟩
        rw [if_pos (by assumption), ns, ← h2]
        try simp only [nmS_22, psF_p, psF_o]
        first
        | (rw [if_pos (by omega), w32_id (by omega) (by omega)]; done)
        | (rw [if_neg (by omega)]; done)
      · skip
        (try (change w32 (fnM A0 0 (A0 27 14) nn) = w32 (-1) at c3; rw [w32_id (x := fnM A0 0 (A0 27 14) nn) (by omega) (by omega), w32_id (x := -1) (by decide) (by decide)] at c3)); (try (change ¬ w32 (fnM A0 0 (A0 27 14) nn) = w32 (-1) at c3; rw [w32_id (x := fnM A0 0 (A0 27 14) nn) (by omega) (by omega), w32_id (x := -1) (by decide) (by decide)] at c3)); (try (change w32 (fnM A0 8 (A0 27 15) nn) = w32 (-1) at c3; rw [w32_id (x := fnM A0 8 (A0 27 15) nn) (by omega) (by omega), w32_id (x := -1) (by decide) (by decide)] at c3)); (try (change ¬ w32 (fnM A0 8 (A0 27 15) nn) = w32 (-1) at c3; rw [w32_id (x := fnM A0 8 (A0 27 15) nn) (by omega) (by omega), w32_id (x := -1) (by decide) (by decide)] at c3)); (try simp only [fiP_22, inS_22, nmS_22, psF_e, psF_q, psF_p, psF_o, psF_t, psF_v] at c3); (try simp (disch := omega) only [w32_0, wbi0, Classical.not_not, w32_id] at c3)
        refine ⟨⟨rfl, rfl, ?_⟩, by omega⟩
        rw [if_pos (by assumption)] at h2
        refine ⟨_, upF_2, by omega, ?_⟩
        rw [if_pos (by assumption), ns, ← h2]
        try simp only [nmS_22, psF_p, psF_o]
        first
        | (rw [if_pos (by omega), w32_id (by omega) (by omega)]; done)
        | (rw [if_neg (by omega)]; done)
    · skip
      (try (change w32 (fnM A0 0 (A0 27 14) nn) = w32 (-1) at c2; rw [w32_id (x := fnM A0 0 (A0 27 14) nn) (by omega) (by omega), w32_id (x := -1) (by decide) (by decide)] at c2)); (try (change ¬ w32 (fnM A0 0 (A0 27 14) nn) = w32 (-1) at c2; rw [w32_id (x := fnM A0 0 (A0 27 14) nn) (by omega) (by omega), w32_id (x := -1) (by decide) (by decide)] at c2)); (try (change w32 (fnM A0 8 (A0 27 15) nn) = w32 (-1) at c2; rw [w32_id (x := fnM A0 8 (A0 27 15) nn) (by omega) (by omega), w32_id (x := -1) (by decide) (by decide)] at c2)); (try (change ¬ w32 (fnM A0 8 (A0 27 15) nn) = w32 (-1) at c2; rw [w32_id (x := fnM A0 8 (A0 27 15) nn) (by omega) (by omega), w32_id (x := -1) (by decide) (by decide)] at c2)); (try simp only [fiP_22, inS_22, nmS_22, psF_e, psF_q, psF_p, psF_o, psF_t, psF_v] at c2); (try simp (disch := omega) only [w32_0, wbi0, Classical.not_not, w32_id] at c2)
      refine ⟨by first | decide | (show (0 ≤ (0 : Int) ∧ (0 : Int) ≤ 8) ∧ 0 ≤ A0 27 14 ∧ A0 27 14 ≤ 8; omega) | (show (0 ≤ (8 : Int) ∧ (8 : Int) ≤ 8) ∧ 0 ≤ A0 27 15 ∧ A0 27 15 ≤ 8; omega) | (simp only [nmS_22, psF_p]; rw [w32_id (by omega) (by omega)]; omega) | exact ⟨Or.inl rfl, by omega, by omega⟩ | exact ⟨Or.inr rfl, by omega, by omega⟩ | exact ⟨pt, pn, fiP_ok kn pn.2 (by decide)⟩, ?_⟩
      refine ⟨by first | decide | (show (0 ≤ (0 : Int) ∧ (0 : Int) ≤ 8) ∧ 0 ≤ A0 27 14 ∧ A0 27 14 ≤ 8; omega) | (show (0 ≤ (8 : Int) ∧ (8 : Int) ≤ 8) ∧ 0 ≤ A0 27 15 ∧ A0 27 15 ≤ 8; omega) | (simp only [nmS_22, psF_p]; rw [w32_id (by omega) (by omega)]; omega) | exact ⟨Or.inl rfl, by omega, by omega⟩ | exact ⟨Or.inr rfl, by omega, by omega⟩ | exact ⟨pt, pn, fiP_ok kn pn.2 (by decide)⟩, ?_⟩
      refine ⟨fun c3 => ?_, fun c3 => ?_⟩
      · skip
        (try (change w32 (fnM A0 0 (A0 27 14) nn) = w32 (-1) at c3; rw [w32_id (x := fnM A0 0 (A0 27 14) nn) (by omega) (by omega), w32_id (x := -1) (by decide) (by decide)] at c3)); (try (change ¬ w32 (fnM A0 0 (A0 27 14) nn) = w32 (-1) at c3; rw [w32_id (x := fnM A0 0 (A0 27 14) nn) (by omega) (by omega), w32_id (x := -1) (by decide) (by decide)] at c3)); (try (change w32 (fnM A0 8 (A0 27 15) nn) = w32 (-1) at c3; rw [w32_id (x := fnM A0 8 (A0 27 15) nn) (by omega) (by omega), w32_id (x := -1) (by decide) (by decide)] at c3)); (try (change ¬ w32 (fnM A0 8 (A0 27 15) nn) = w32 (-1) at c3; rw [w32_id (x := fnM A0 8 (A0 27 15) nn) (by omega) (by omega), w32_id (x := -1) (by decide) (by decide)] at c3)); (try simp only [fiP_22, inS_22, nmS_22, psF_e, psF_q, psF_p, psF_o, psF_t, psF_v] at c3); (try simp (disch := omega) only [w32_0, wbi0, Classical.not_not, w32_id] at c3)
        refine ⟨by first | decide | (show (0 ≤ (0 : Int) ∧ (0 : Int) ≤ 8) ∧ 0 ≤ A0 27 14 ∧ A0 27 14 ≤ 8; omega) | (show (0 ≤ (8 : Int) ∧ (8 : Int) ≤ 8) ∧ 0 ≤ A0 27 15 ∧ A0 27 15 ≤ 8; omega) | (simp only [nmS_22, psF_p]; rw [w32_id (by omega) (by omega)]; omega) | exact ⟨Or.inl rfl, by omega, by omega⟩ | exact ⟨Or.inr rfl, by omega, by omega⟩ | exact ⟨pt, pn, fiP_ok kn pn.2 (by decide)⟩, ?_⟩
        refine ⟨by first | decide | (show (0 ≤ (0 : Int) ∧ (0 : Int) ≤ 8) ∧ 0 ≤ A0 27 14 ∧ A0 27 14 ≤ 8; omega) | (show (0 ≤ (8 : Int) ∧ (8 : Int) ≤ 8) ∧ 0 ≤ A0 27 15 ∧ A0 27 15 ≤ 8; omega) | (simp only [nmS_22, psF_p]; rw [w32_id (by omega) (by omega)]; omega) | exact ⟨Or.inl rfl, by omega, by omega⟩ | exact ⟨Or.inr rfl, by omega, by omega⟩ | exact ⟨pt, pn, fiP_ok kn pn.2 (by decide)⟩, ?_⟩
        refine ⟨fun c4 => ?_, fun c4 => ?_⟩
        · skip
          (try (change w32 (fnM A0 0 (A0 27 14) nn) = w32 (-1) at c4; rw [w32_id (x := fnM A0 0 (A0 27 14) nn) (by omega) (by omega), w32_id (x := -1) (by decide) (by decide)] at c4)); (try (change ¬ w32 (fnM A0 0 (A0 27 14) nn) = w32 (-1) at c4; rw [w32_id (x := fnM A0 0 (A0 27 14) nn) (by omega) (by omega), w32_id (x := -1) (by decide) (by decide)] at c4)); (try (change w32 (fnM A0 8 (A0 27 15) nn) = w32 (-1) at c4; rw [w32_id (x := fnM A0 8 (A0 27 15) nn) (by omega) (by omega), w32_id (x := -1) (by decide) (by decide)] at c4)); (try (change ¬ w32 (fnM A0 8 (A0 27 15) nn) = w32 (-1) at c4; rw [w32_id (x := fnM A0 8 (A0 27 15) nn) (by omega) (by omega), w32_id (x := -1) (by decide) (by decide)] at c4)); (try simp only [fiP_22, inS_22, nmS_22, psF_e, psF_q, psF_p, psF_o, psF_t, psF_v] at c4); (try simp (disch := omega) only [w32_0, wbi0, Classical.not_not, w32_id] at c4)
          refine ⟨fun c5 => ?_, fun c5 => ?_⟩
          · skip
            (try (change w32 (fnM A0 0 (A0 27 14) nn) = w32 (-1) at c5; rw [w32_id (x := fnM A0 0 (A0 27 14) nn) (by omega) (by omega), w32_id (x := -1) (by decide) (by decide)] at c5)); (try (change ¬ w32 (fnM A0 0 (A0 27 14) nn) = w32 (-1) at c5; rw [w32_id (x := fnM A0 0 (A0 27 14) nn) (by omega) (by omega), w32_id (x := -1) (by decide) (by decide)] at c5)); (try (change w32 (fnM A0 8 (A0 27 15) nn) = w32 (-1) at c5; rw [w32_id (x := fnM A0 8 (A0 27 15) nn) (by omega) (by omega), w32_id (x := -1) (by decide) (by decide)] at c5)); (try (change ¬ w32 (fnM A0 8 (A0 27 15) nn) = w32 (-1) at c5; rw [w32_id (x := fnM A0 8 (A0 27 15) nn) (by omega) (by omega), w32_id (x := -1) (by decide) (by decide)] at c5)); (try simp only [fiP_22, inS_22, nmS_22, psF_e, psF_q, psF_p, psF_o, psF_t, psF_v] at c5); (try simp (disch := omega) only [w32_0, wbi0, Classical.not_not, w32_id] at c5)
            refine ⟨fun _ => ?_, fun q => absurd (by decide) q⟩
            refine ⟨by first | decide | (show (0 ≤ (0 : Int) ∧ (0 : Int) ≤ 8) ∧ 0 ≤ A0 27 14 ∧ A0 27 14 ≤ 8; omega) | (show (0 ≤ (8 : Int) ∧ (8 : Int) ≤ 8) ∧ 0 ≤ A0 27 15 ∧ A0 27 15 ≤ 8; omega) | (simp only [nmS_22, psF_p]; rw [w32_id (by omega) (by omega)]; omega) | exact ⟨Or.inl rfl, by omega, by omega⟩ | exact ⟨Or.inr rfl, by omega, by omega⟩ | exact ⟨pt, pn, fiP_ok kn pn.2 (by decide)⟩, ?_⟩
            refine ⟨by first | decide | (show (0 ≤ (0 : Int) ∧ (0 : Int) ≤ 8) ∧ 0 ≤ A0 27 14 ∧ A0 27 14 ≤ 8; omega) | (show (0 ≤ (8 : Int) ∧ (8 : Int) ≤ 8) ∧ 0 ≤ A0 27 15 ∧ A0 27 15 ≤ 8; omega) | (simp only [nmS_22, psF_p]; rw [w32_id (by omega) (by omega)]; omega) | exact ⟨Or.inl rfl, by omega, by omega⟩ | exact ⟨Or.inr rfl, by omega, by omega⟩ | exact ⟨pt, pn, fiP_ok kn pn.2 (by decide)⟩, ?_⟩
            have eN : nn = nmN (A0 26) (psF F0) := by
              unfold nmN
              rw [h2]
              first
              | (rw [if_pos (by assumption), if_pos (by assumption), show Int.toNat k = 6 by omega]; rfl)
              | (rw [if_neg (by assumption), if_neg (by assumption)])
            first
            | (have e2 : (if (nmS (psF F0)).1 = 0 ∧ haM A0 (nmN (A0 26) (psF F0)) then (1 : Int) else 0) = 0 := by
                 rw [← eN]
                 first
                 | exact if_neg (fun y => by have y1 := y.1; omega)
                 | exact if_neg (fun y => by rcases y.2 with y2 | y2 <;> exact y2 (by assumption))
                 | exact if_pos ⟨by assumption, Or.inl (by assumption)⟩
                 | exact if_pos ⟨by assumption, Or.inr (by assumption)⟩
               have eG : nmG A0 (F0 25 20) (psF F0) = goM (A0 26) (F0 25 20) (fiP (nmS (psF F0)) 0 (-13)) := by unfold nmG; rw [e2]
               rw [eG, ← eN] at h
               rw [psS_up (by decide), psS_up (by decide)]
               simp only [psS_S]
               exact h)
            | (have e2 : (if (nmS (psF F0)).1 = 0 ∧ haM A0 (nmN (A0 26) (psF F0)) then (1 : Int) else 0) = 1 := by
                 rw [← eN]
                 first
                 | exact if_neg (fun y => by have y1 := y.1; omega)
                 | exact if_neg (fun y => by rcases y.2 with y2 | y2 <;> exact y2 (by assumption))
                 | exact if_pos ⟨by assumption, Or.inl (by assumption)⟩
                 | exact if_pos ⟨by assumption, Or.inr (by assumption)⟩
               have eG : nmG A0 (F0 25 20) (psF F0) = goM (A0 26) (F0 25 20) (fiP (nmS (psF F0)) 1 (-13)) := by unfold nmG; rw [e2]
               rw [eG, ← eN] at h
               rw [psS_up (by decide), psS_up (by decide)]
               simp only [psS_S]
               exact h)
          · skip
            (try (change w32 (fnM A0 0 (A0 27 14) nn) = w32 (-1) at c5; rw [w32_id (x := fnM A0 0 (A0 27 14) nn) (by omega) (by omega), w32_id (x := -1) (by decide) (by decide)] at c5)); (try (change ¬ w32 (fnM A0 0 (A0 27 14) nn) = w32 (-1) at c5; rw [w32_id (x := fnM A0 0 (A0 27 14) nn) (by omega) (by omega), w32_id (x := -1) (by decide) (by decide)] at c5)); (try (change w32 (fnM A0 8 (A0 27 15) nn) = w32 (-1) at c5; rw [w32_id (x := fnM A0 8 (A0 27 15) nn) (by omega) (by omega), w32_id (x := -1) (by decide) (by decide)] at c5)); (try (change ¬ w32 (fnM A0 8 (A0 27 15) nn) = w32 (-1) at c5; rw [w32_id (x := fnM A0 8 (A0 27 15) nn) (by omega) (by omega), w32_id (x := -1) (by decide) (by decide)] at c5)); (try simp only [fiP_22, inS_22, nmS_22, psF_e, psF_q, psF_p, psF_o, psF_t, psF_v] at c5); (try simp (disch := omega) only [w32_0, wbi0, Classical.not_not, w32_id] at c5)
            refine ⟨by first | decide | (show (0 ≤ (0 : Int) ∧ (0 : Int) ≤ 8) ∧ 0 ≤ A0 27 14 ∧ A0 27 14 ≤ 8; omega) | (show (0 ≤ (8 : Int) ∧ (8 : Int) ≤ 8) ∧ 0 ≤ A0 27 15 ∧ A0 27 15 ≤ 8; omega) | (simp only [nmS_22, psF_p]; rw [w32_id (by omega) (by omega)]; omega) | exact ⟨Or.inl rfl, by omega, by omega⟩ | exact ⟨Or.inr rfl, by omega, by omega⟩ | exact ⟨pt, pn, fiP_ok kn pn.2 (by decide)⟩, ?_⟩
            refine ⟨by first | decide | (show (0 ≤ (0 : Int) ∧ (0 : Int) ≤ 8) ∧ 0 ≤ A0 27 14 ∧ A0 27 14 ≤ 8; omega) | (show (0 ≤ (8 : Int) ∧ (8 : Int) ≤ 8) ∧ 0 ≤ A0 27 15 ∧ A0 27 15 ≤ 8; omega) | (simp only [nmS_22, psF_p]; rw [w32_id (by omega) (by omega)]; omega) | exact ⟨Or.inl rfl, by omega, by omega⟩ | exact ⟨Or.inr rfl, by omega, by omega⟩ | exact ⟨pt, pn, fiP_ok kn pn.2 (by decide)⟩, ?_⟩
            have eN : nn = nmN (A0 26) (psF F0) := by
              unfold nmN
              rw [h2]
              first
              | (rw [if_pos (by assumption), if_pos (by assumption), show Int.toNat k = 6 by omega]; rfl)
              | (rw [if_neg (by assumption), if_neg (by assumption)])
            first
            | (have e2 : (if (nmS (psF F0)).1 = 0 ∧ haM A0 (nmN (A0 26) (psF F0)) then (1 : Int) else 0) = 0 := by
                 rw [← eN]
                 first
                 | exact if_neg (fun y => by have y1 := y.1; omega)
                 | exact if_neg (fun y => by rcases y.2 with y2 | y2 <;> exact y2 (by assumption))
                 | exact if_pos ⟨by assumption, Or.inl (by assumption)⟩
                 | exact if_pos ⟨by assumption, Or.inr (by assumption)⟩
               have eG : nmG A0 (F0 25 20) (psF F0) = goM (A0 26) (F0 25 20) (fiP (nmS (psF F0)) 0 (-13)) := by unfold nmG; rw [e2]
               rw [eG, ← eN] at h
               rw [psS_up (by decide), psS_up (by decide)]
               simp only [psS_S]
               exact h)
            | (have e2 : (if (nmS (psF F0)).1 = 0 ∧ haM A0 (nmN (A0 26) (psF F0)) then (1 : Int) else 0) = 1 := by
                 rw [← eN]
                 first
                 | exact if_neg (fun y => by have y1 := y.1; omega)
                 | exact if_neg (fun y => by rcases y.2 with y2 | y2 <;> exact y2 (by assumption))
                 | exact if_pos ⟨by assumption, Or.inl (by assumption)⟩
                 | exact if_pos ⟨by assumption, Or.inr (by assumption)⟩
               have eG : nmG A0 (F0 25 20) (psF F0) = goM (A0 26) (F0 25 20) (fiP (nmS (psF F0)) 1 (-13)) := by unfold nmG; rw [e2]
               rw [eG, ← eN] at h
               rw [psS_up (by decide), psS_up (by decide)]
               simp only [psS_S]
               exact h)
        · skip
          (try (change w32 (fnM A0 0 (A0 27 14) nn) = w32 (-1) at c4; rw [w32_id (x := fnM A0 0 (A0 27 14) nn) (by omega) (by omega), w32_id (x := -1) (by decide) (by decide)] at c4)); (try (change ¬ w32 (fnM A0 0 (A0 27 14) nn) = w32 (-1) at c4; rw [w32_id (x := fnM A0 0 (A0 27 14) nn) (by omega) (by omega), w32_id (x := -1) (by decide) (by decide)] at c4)); (try (change w32 (fnM A0 8 (A0 27 15) nn) = w32 (-1) at c4; rw [w32_id (x := fnM A0 8 (A0 27 15) nn) (by omega) (by omega), w32_id (x := -1) (by decide) (by decide)] at c4)); (try (change ¬ w32 (fnM A0 8 (A0 27 15) nn) = w32 (-1) at c4; rw [w32_id (x := fnM A0 8 (A0 27 15) nn) (by omega) (by omega), w32_id (x := -1) (by decide) (by decide)] at c4)); (try simp only [fiP_22, inS_22, nmS_22, psF_e, psF_q, psF_p, psF_o, psF_t, psF_v] at c4); (try simp (disch := omega) only [w32_0, wbi0, Classical.not_not, w32_id] at c4)
          refine ⟨fun c5 => ?_, fun c5 => ?_⟩
          · skip
            (try (change w32 (fnM A0 0 (A0 27 14) nn) = w32 (-1) at c5; rw [w32_id (x := fnM A0 0 (A0 27 14) nn) (by omega) (by omega), w32_id (x := -1) (by decide) (by decide)] at c5)); (try (change ¬ w32 (fnM A0 0 (A0 27 14) nn) = w32 (-1) at c5; rw [w32_id (x := fnM A0 0 (A0 27 14) nn) (by omega) (by omega), w32_id (x := -1) (by decide) (by decide)] at c5)); (try (change w32 (fnM A0 8 (A0 27 15) nn) = w32 (-1) at c5; rw [w32_id (x := fnM A0 8 (A0 27 15) nn) (by omega) (by omega), w32_id (x := -1) (by decide) (by decide)] at c5)); (try (change ¬ w32 (fnM A0 8 (A0 27 15) nn) = w32 (-1) at c5; rw [w32_id (x := fnM A0 8 (A0 27 15) nn) (by omega) (by omega), w32_id (x := -1) (by decide) (by decide)] at c5)); (try simp only [fiP_22, inS_22, nmS_22, psF_e, psF_q, psF_p, psF_o, psF_t, psF_v] at c5); (try simp (disch := omega) only [w32_0, wbi0, Classical.not_not, w32_id] at c5)
            refine ⟨fun q => absurd q (by decide), fun _ => ?_⟩
            refine ⟨by first | decide | (show (0 ≤ (0 : Int) ∧ (0 : Int) ≤ 8) ∧ 0 ≤ A0 27 14 ∧ A0 27 14 ≤ 8; omega) | (show (0 ≤ (8 : Int) ∧ (8 : Int) ≤ 8) ∧ 0 ≤ A0 27 15 ∧ A0 27 15 ≤ 8; omega) | (simp only [nmS_22, psF_p]; rw [w32_id (by omega) (by omega)]; omega) | exact ⟨Or.inl rfl, by omega, by omega⟩ | exact ⟨Or.inr rfl, by omega, by omega⟩ | exact ⟨pt, pn, fiP_ok kn pn.2 (by decide)⟩, ?_⟩
            refine ⟨by first | decide | (show (0 ≤ (0 : Int) ∧ (0 : Int) ≤ 8) ∧ 0 ≤ A0 27 14 ∧ A0 27 14 ≤ 8; omega) | (show (0 ≤ (8 : Int) ∧ (8 : Int) ≤ 8) ∧ 0 ≤ A0 27 15 ∧ A0 27 15 ≤ 8; omega) | (simp only [nmS_22, psF_p]; rw [w32_id (by omega) (by omega)]; omega) | exact ⟨Or.inl rfl, by omega, by omega⟩ | exact ⟨Or.inr rfl, by omega, by omega⟩ | exact ⟨pt, pn, fiP_ok kn pn.2 (by decide)⟩, ?_⟩
            have eN : nn = nmN (A0 26) (psF F0) := by
              unfold nmN
              rw [h2]
              first
              | (rw [if_pos (by assumption), if_pos (by assumption), show Int.toNat k = 6 by omega]; rfl)
              | (rw [if_neg (by assumption), if_neg (by assumption)])
            first
            | (have e2 : (if (nmS (psF F0)).1 = 0 ∧ haM A0 (nmN (A0 26) (psF F0)) then (1 : Int) else 0) = 0 := by
                 rw [← eN]
                 first
                 | exact if_neg (fun y => by have y1 := y.1; omega)
                 | exact if_neg (fun y => by rcases y.2 with y2 | y2 <;> exact y2 (by assumption))
                 | exact if_pos ⟨by assumption, Or.inl (by assumption)⟩
                 | exact if_pos ⟨by assumption, Or.inr (by assumption)⟩
               have eG : nmG A0 (F0 25 20) (psF F0) = goM (A0 26) (F0 25 20) (fiP (nmS (psF F0)) 0 (-13)) := by unfold nmG; rw [e2]
               rw [eG, ← eN] at h
               rw [psS_up (by decide), psS_up (by decide)]
               simp only [psS_S]
               exact h)
            | (have e2 : (if (nmS (psF F0)).1 = 0 ∧ haM A0 (nmN (A0 26) (psF F0)) then (1 : Int) else 0) = 1 := by
                 rw [← eN]
                 first
                 | exact if_neg (fun y => by have y1 := y.1; omega)
                 | exact if_neg (fun y => by rcases y.2 with y2 | y2 <;> exact y2 (by assumption))
                 | exact if_pos ⟨by assumption, Or.inl (by assumption)⟩
                 | exact if_pos ⟨by assumption, Or.inr (by assumption)⟩
               have eG : nmG A0 (F0 25 20) (psF F0) = goM (A0 26) (F0 25 20) (fiP (nmS (psF F0)) 1 (-13)) := by unfold nmG; rw [e2]
               rw [eG, ← eN] at h
               rw [psS_up (by decide), psS_up (by decide)]
               simp only [psS_S]
               exact h)
          · skip
            (try (change w32 (fnM A0 0 (A0 27 14) nn) = w32 (-1) at c5; rw [w32_id (x := fnM A0 0 (A0 27 14) nn) (by omega) (by omega), w32_id (x := -1) (by decide) (by decide)] at c5)); (try (change ¬ w32 (fnM A0 0 (A0 27 14) nn) = w32 (-1) at c5; rw [w32_id (x := fnM A0 0 (A0 27 14) nn) (by omega) (by omega), w32_id (x := -1) (by decide) (by decide)] at c5)); (try (change w32 (fnM A0 8 (A0 27 15) nn) = w32 (-1) at c5; rw [w32_id (x := fnM A0 8 (A0 27 15) nn) (by omega) (by omega), w32_id (x := -1) (by decide) (by decide)] at c5)); (try (change ¬ w32 (fnM A0 8 (A0 27 15) nn) = w32 (-1) at c5; rw [w32_id (x := fnM A0 8 (A0 27 15) nn) (by omega) (by omega), w32_id (x := -1) (by decide) (by decide)] at c5)); (try simp only [fiP_22, inS_22, nmS_22, psF_e, psF_q, psF_p, psF_o, psF_t, psF_v] at c5); (try simp (disch := omega) only [w32_0, wbi0, Classical.not_not, w32_id] at c5)
            refine ⟨by first | decide | (show (0 ≤ (0 : Int) ∧ (0 : Int) ≤ 8) ∧ 0 ≤ A0 27 14 ∧ A0 27 14 ≤ 8; omega) | (show (0 ≤ (8 : Int) ∧ (8 : Int) ≤ 8) ∧ 0 ≤ A0 27 15 ∧ A0 27 15 ≤ 8; omega) | (simp only [nmS_22, psF_p]; rw [w32_id (by omega) (by omega)]; omega) | exact ⟨Or.inl rfl, by omega, by omega⟩ | exact ⟨Or.inr rfl, by omega, by omega⟩ | exact ⟨pt, pn, fiP_ok kn pn.2 (by decide)⟩, ?_⟩
            refine ⟨by first | decide | (show (0 ≤ (0 : Int) ∧ (0 : Int) ≤ 8) ∧ 0 ≤ A0 27 14 ∧ A0 27 14 ≤ 8; omega) | (show (0 ≤ (8 : Int) ∧ (8 : Int) ≤ 8) ∧ 0 ≤ A0 27 15 ∧ A0 27 15 ≤ 8; omega) | (simp only [nmS_22, psF_p]; rw [w32_id (by omega) (by omega)]; omega) | exact ⟨Or.inl rfl, by omega, by omega⟩ | exact ⟨Or.inr rfl, by omega, by omega⟩ | exact ⟨pt, pn, fiP_ok kn pn.2 (by decide)⟩, ?_⟩
            have eN : nn = nmN (A0 26) (psF F0) := by
              unfold nmN
              rw [h2]
              first
              | (rw [if_pos (by assumption), if_pos (by assumption), show Int.toNat k = 6 by omega]; rfl)
              | (rw [if_neg (by assumption), if_neg (by assumption)])
            first
            | (have e2 : (if (nmS (psF F0)).1 = 0 ∧ haM A0 (nmN (A0 26) (psF F0)) then (1 : Int) else 0) = 0 := by
                 rw [← eN]
                 first
                 | exact if_neg (fun y => by have y1 := y.1; omega)
                 | exact if_neg (fun y => by rcases y.2 with y2 | y2 <;> exact y2 (by assumption))
                 | exact if_pos ⟨by assumption, Or.inl (by assumption)⟩
                 | exact if_pos ⟨by assumption, Or.inr (by assumption)⟩
               have eG : nmG A0 (F0 25 20) (psF F0) = goM (A0 26) (F0 25 20) (fiP (nmS (psF F0)) 0 (-13)) := by unfold nmG; rw [e2]
               rw [eG, ← eN] at h
               rw [psS_up (by decide), psS_up (by decide)]
               simp only [psS_S]
               exact h)
            | (have e2 : (if (nmS (psF F0)).1 = 0 ∧ haM A0 (nmN (A0 26) (psF F0)) then (1 : Int) else 0) = 1 := by
                 rw [← eN]
                 first
                 | exact if_neg (fun y => by have y1 := y.1; omega)
                 | exact if_neg (fun y => by rcases y.2 with y2 | y2 <;> exact y2 (by assumption))
                 | exact if_pos ⟨by assumption, Or.inl (by assumption)⟩
                 | exact if_pos ⟨by assumption, Or.inr (by assumption)⟩
               have eG : nmG A0 (F0 25 20) (psF F0) = goM (A0 26) (F0 25 20) (fiP (nmS (psF F0)) 1 (-13)) := by unfold nmG; rw [e2]
               rw [eG, ← eN] at h
               rw [psS_up (by decide), psS_up (by decide)]
               simp only [psS_S]
               exact h)
      · skip
        (try (change w32 (fnM A0 0 (A0 27 14) nn) = w32 (-1) at c3; rw [w32_id (x := fnM A0 0 (A0 27 14) nn) (by omega) (by omega), w32_id (x := -1) (by decide) (by decide)] at c3)); (try (change ¬ w32 (fnM A0 0 (A0 27 14) nn) = w32 (-1) at c3; rw [w32_id (x := fnM A0 0 (A0 27 14) nn) (by omega) (by omega), w32_id (x := -1) (by decide) (by decide)] at c3)); (try (change w32 (fnM A0 8 (A0 27 15) nn) = w32 (-1) at c3; rw [w32_id (x := fnM A0 8 (A0 27 15) nn) (by omega) (by omega), w32_id (x := -1) (by decide) (by decide)] at c3)); (try (change ¬ w32 (fnM A0 8 (A0 27 15) nn) = w32 (-1) at c3; rw [w32_id (x := fnM A0 8 (A0 27 15) nn) (by omega) (by omega), w32_id (x := -1) (by decide) (by decide)] at c3)); (try simp only [fiP_22, inS_22, nmS_22, psF_e, psF_q, psF_p, psF_o, psF_t, psF_v] at c3); (try simp (disch := omega) only [w32_0, wbi0, Classical.not_not, w32_id] at c3)
        refine ⟨fun c4 => ?_, fun c4 => ?_⟩
        · skip
          (try (change w32 (fnM A0 0 (A0 27 14) nn) = w32 (-1) at c4; rw [w32_id (x := fnM A0 0 (A0 27 14) nn) (by omega) (by omega), w32_id (x := -1) (by decide) (by decide)] at c4)); (try (change ¬ w32 (fnM A0 0 (A0 27 14) nn) = w32 (-1) at c4; rw [w32_id (x := fnM A0 0 (A0 27 14) nn) (by omega) (by omega), w32_id (x := -1) (by decide) (by decide)] at c4)); (try (change w32 (fnM A0 8 (A0 27 15) nn) = w32 (-1) at c4; rw [w32_id (x := fnM A0 8 (A0 27 15) nn) (by omega) (by omega), w32_id (x := -1) (by decide) (by decide)] at c4)); (try (change ¬ w32 (fnM A0 8 (A0 27 15) nn) = w32 (-1) at c4; rw [w32_id (x := fnM A0 8 (A0 27 15) nn) (by omega) (by omega), w32_id (x := -1) (by decide) (by decide)] at c4)); (try simp only [fiP_22, inS_22, nmS_22, psF_e, psF_q, psF_p, psF_o, psF_t, psF_v] at c4); (try simp (disch := omega) only [w32_0, wbi0, Classical.not_not, w32_id] at c4)
          refine ⟨fun q => absurd q (by decide), fun _ => ?_⟩
          refine ⟨by first | decide | (show (0 ≤ (0 : Int) ∧ (0 : Int) ≤ 8) ∧ 0 ≤ A0 27 14 ∧ A0 27 14 ≤ 8; omega) | (show (0 ≤ (8 : Int) ∧ (8 : Int) ≤ 8) ∧ 0 ≤ A0 27 15 ∧ A0 27 15 ≤ 8; omega) | (simp only [nmS_22, psF_p]; rw [w32_id (by omega) (by omega)]; omega) | exact ⟨Or.inl rfl, by omega, by omega⟩ | exact ⟨Or.inr rfl, by omega, by omega⟩ | exact ⟨pt, pn, fiP_ok kn pn.2 (by decide)⟩, ?_⟩
          refine ⟨by first | decide | (show (0 ≤ (0 : Int) ∧ (0 : Int) ≤ 8) ∧ 0 ≤ A0 27 14 ∧ A0 27 14 ≤ 8; omega) | (show (0 ≤ (8 : Int) ∧ (8 : Int) ≤ 8) ∧ 0 ≤ A0 27 15 ∧ A0 27 15 ≤ 8; omega) | (simp only [nmS_22, psF_p]; rw [w32_id (by omega) (by omega)]; omega) | exact ⟨Or.inl rfl, by omega, by omega⟩ | exact ⟨Or.inr rfl, by omega, by omega⟩ | exact ⟨pt, pn, fiP_ok kn pn.2 (by decide)⟩, ?_⟩
          have eN : nn = nmN (A0 26) (psF F0) := by
            unfold nmN
            rw [h2]
            first
            | (rw [if_pos (by assumption), if_pos (by assumption), show Int.toNat k = 6 by omega]; rfl)
            | (rw [if_neg (by assumption), if_neg (by assumption)])
          first
          | (have e2 : (if (nmS (psF F0)).1 = 0 ∧ haM A0 (nmN (A0 26) (psF F0)) then (1 : Int) else 0) = 0 := by
               rw [← eN]
               first
               | exact if_neg (fun y => by have y1 := y.1; omega)
               | exact if_neg (fun y => by rcases y.2 with y2 | y2 <;> exact y2 (by assumption))
               | exact if_pos ⟨by assumption, Or.inl (by assumption)⟩
               | exact if_pos ⟨by assumption, Or.inr (by assumption)⟩
             have eG : nmG A0 (F0 25 20) (psF F0) = goM (A0 26) (F0 25 20) (fiP (nmS (psF F0)) 0 (-13)) := by unfold nmG; rw [e2]
             rw [eG, ← eN] at h
             rw [psS_up (by decide), psS_up (by decide)]
             simp only [psS_S]
             exact h)
          | (have e2 : (if (nmS (psF F0)).1 = 0 ∧ haM A0 (nmN (A0 26) (psF F0)) then (1 : Int) else 0) = 1 := by
               rw [← eN]
               first
               | exact if_neg (fun y => by have y1 := y.1; omega)
               | exact if_neg (fun y => by rcases y.2 with y2 | y2 <;> exact y2 (by assumption))
               | exact if_pos ⟨by assumption, Or.inl (by assumption)⟩
               | exact if_pos ⟨by assumption, Or.inr (by assumption)⟩
             have eG : nmG A0 (F0 25 20) (psF F0) = goM (A0 26) (F0 25 20) (fiP (nmS (psF F0)) 1 (-13)) := by unfold nmG; rw [e2]
             rw [eG, ← eN] at h
             rw [psS_up (by decide), psS_up (by decide)]
             simp only [psS_S]
             exact h)
        · skip
          (try (change w32 (fnM A0 0 (A0 27 14) nn) = w32 (-1) at c4; rw [w32_id (x := fnM A0 0 (A0 27 14) nn) (by omega) (by omega), w32_id (x := -1) (by decide) (by decide)] at c4)); (try (change ¬ w32 (fnM A0 0 (A0 27 14) nn) = w32 (-1) at c4; rw [w32_id (x := fnM A0 0 (A0 27 14) nn) (by omega) (by omega), w32_id (x := -1) (by decide) (by decide)] at c4)); (try (change w32 (fnM A0 8 (A0 27 15) nn) = w32 (-1) at c4; rw [w32_id (x := fnM A0 8 (A0 27 15) nn) (by omega) (by omega), w32_id (x := -1) (by decide) (by decide)] at c4)); (try (change ¬ w32 (fnM A0 8 (A0 27 15) nn) = w32 (-1) at c4; rw [w32_id (x := fnM A0 8 (A0 27 15) nn) (by omega) (by omega), w32_id (x := -1) (by decide) (by decide)] at c4)); (try simp only [fiP_22, inS_22, nmS_22, psF_e, psF_q, psF_p, psF_o, psF_t, psF_v] at c4); (try simp (disch := omega) only [w32_0, wbi0, Classical.not_not, w32_id] at c4)
          refine ⟨by first | decide | (show (0 ≤ (0 : Int) ∧ (0 : Int) ≤ 8) ∧ 0 ≤ A0 27 14 ∧ A0 27 14 ≤ 8; omega) | (show (0 ≤ (8 : Int) ∧ (8 : Int) ≤ 8) ∧ 0 ≤ A0 27 15 ∧ A0 27 15 ≤ 8; omega) | (simp only [nmS_22, psF_p]; rw [w32_id (by omega) (by omega)]; omega) | exact ⟨Or.inl rfl, by omega, by omega⟩ | exact ⟨Or.inr rfl, by omega, by omega⟩ | exact ⟨pt, pn, fiP_ok kn pn.2 (by decide)⟩, ?_⟩
          refine ⟨by first | decide | (show (0 ≤ (0 : Int) ∧ (0 : Int) ≤ 8) ∧ 0 ≤ A0 27 14 ∧ A0 27 14 ≤ 8; omega) | (show (0 ≤ (8 : Int) ∧ (8 : Int) ≤ 8) ∧ 0 ≤ A0 27 15 ∧ A0 27 15 ≤ 8; omega) | (simp only [nmS_22, psF_p]; rw [w32_id (by omega) (by omega)]; omega) | exact ⟨Or.inl rfl, by omega, by omega⟩ | exact ⟨Or.inr rfl, by omega, by omega⟩ | exact ⟨pt, pn, fiP_ok kn pn.2 (by decide)⟩, ?_⟩
          have eN : nn = nmN (A0 26) (psF F0) := by
            unfold nmN
            rw [h2]
            first
            | (rw [if_pos (by assumption), if_pos (by assumption), show Int.toNat k = 6 by omega]; rfl)
            | (rw [if_neg (by assumption), if_neg (by assumption)])
          first
          | (have e2 : (if (nmS (psF F0)).1 = 0 ∧ haM A0 (nmN (A0 26) (psF F0)) then (1 : Int) else 0) = 0 := by
               rw [← eN]
               first
               | exact if_neg (fun y => by have y1 := y.1; omega)
               | exact if_neg (fun y => by rcases y.2 with y2 | y2 <;> exact y2 (by assumption))
               | exact if_pos ⟨by assumption, Or.inl (by assumption)⟩
               | exact if_pos ⟨by assumption, Or.inr (by assumption)⟩
             have eG : nmG A0 (F0 25 20) (psF F0) = goM (A0 26) (F0 25 20) (fiP (nmS (psF F0)) 0 (-13)) := by unfold nmG; rw [e2]
             rw [eG, ← eN] at h
             rw [psS_up (by decide), psS_up (by decide)]
             simp only [psS_S]
             exact h)
          | (have e2 : (if (nmS (psF F0)).1 = 0 ∧ haM A0 (nmN (A0 26) (psF F0)) then (1 : Int) else 0) = 1 := by
               rw [← eN]
               first
               | exact if_neg (fun y => by have y1 := y.1; omega)
               | exact if_neg (fun y => by rcases y.2 with y2 | y2 <;> exact y2 (by assumption))
               | exact if_pos ⟨by assumption, Or.inl (by assumption)⟩
               | exact if_pos ⟨by assumption, Or.inr (by assumption)⟩
             have eG : nmG A0 (F0 25 20) (psF F0) = goM (A0 26) (F0 25 20) (fiP (nmS (psF F0)) 1 (-13)) := by unfold nmG; rw [e2]
             rw [eG, ← eN] at h
             rw [psS_up (by decide), psS_up (by decide)]
             simp only [psS_S]
             exact h)
  · skip
    (try (change w32 (fnM A0 0 (A0 27 14) nn) = w32 (-1) at c1; rw [w32_id (x := fnM A0 0 (A0 27 14) nn) (by omega) (by omega), w32_id (x := -1) (by decide) (by decide)] at c1)); (try (change ¬ w32 (fnM A0 0 (A0 27 14) nn) = w32 (-1) at c1; rw [w32_id (x := fnM A0 0 (A0 27 14) nn) (by omega) (by omega), w32_id (x := -1) (by decide) (by decide)] at c1)); (try (change w32 (fnM A0 8 (A0 27 15) nn) = w32 (-1) at c1; rw [w32_id (x := fnM A0 8 (A0 27 15) nn) (by omega) (by omega), w32_id (x := -1) (by decide) (by decide)] at c1)); (try (change ¬ w32 (fnM A0 8 (A0 27 15) nn) = w32 (-1) at c1; rw [w32_id (x := fnM A0 8 (A0 27 15) nn) (by omega) (by omega), w32_id (x := -1) (by decide) (by decide)] at c1)); (try simp only [fiP_22, inS_22, nmS_22, psF_e, psF_q, psF_p, psF_o, psF_t, psF_v] at c1); (try simp (disch := omega) only [w32_0, wbi0, Classical.not_not, w32_id] at c1)
    refine ⟨by first | decide | (show (0 ≤ (0 : Int) ∧ (0 : Int) ≤ 8) ∧ 0 ≤ A0 27 14 ∧ A0 27 14 ≤ 8; omega) | (show (0 ≤ (8 : Int) ∧ (8 : Int) ≤ 8) ∧ 0 ≤ A0 27 15 ∧ A0 27 15 ≤ 8; omega) | (simp only [nmS_22, psF_p]; rw [w32_id (by omega) (by omega)]; omega) | exact ⟨Or.inl rfl, by omega, by omega⟩ | exact ⟨Or.inr rfl, by omega, by omega⟩ | exact ⟨pt, pn, fiP_ok kn pn.2 (by decide)⟩, ?_⟩
    refine ⟨by first | decide | (show (0 ≤ (0 : Int) ∧ (0 : Int) ≤ 8) ∧ 0 ≤ A0 27 14 ∧ A0 27 14 ≤ 8; omega) | (show (0 ≤ (8 : Int) ∧ (8 : Int) ≤ 8) ∧ 0 ≤ A0 27 15 ∧ A0 27 15 ≤ 8; omega) | (simp only [nmS_22, psF_p]; rw [w32_id (by omega) (by omega)]; omega) | exact ⟨Or.inl rfl, by omega, by omega⟩ | exact ⟨Or.inr rfl, by omega, by omega⟩ | exact ⟨pt, pn, fiP_ok kn pn.2 (by decide)⟩, ?_⟩
    refine ⟨fun c2 => ?_, fun c2 => ?_⟩
    · skip
      (try (change w32 (fnM A0 0 (A0 27 14) nn) = w32 (-1) at c2; rw [w32_id (x := fnM A0 0 (A0 27 14) nn) (by omega) (by omega), w32_id (x := -1) (by decide) (by decide)] at c2)); (try (change ¬ w32 (fnM A0 0 (A0 27 14) nn) = w32 (-1) at c2; rw [w32_id (x := fnM A0 0 (A0 27 14) nn) (by omega) (by omega), w32_id (x := -1) (by decide) (by decide)] at c2)); (try (change w32 (fnM A0 8 (A0 27 15) nn) = w32 (-1) at c2; rw [w32_id (x := fnM A0 8 (A0 27 15) nn) (by omega) (by omega), w32_id (x := -1) (by decide) (by decide)] at c2)); (try (change ¬ w32 (fnM A0 8 (A0 27 15) nn) = w32 (-1) at c2; rw [w32_id (x := fnM A0 8 (A0 27 15) nn) (by omega) (by omega), w32_id (x := -1) (by decide) (by decide)] at c2)); (try simp only [fiP_22, inS_22, nmS_22, psF_e, psF_q, psF_p, psF_o, psF_t, psF_v] at c2); (try simp (disch := omega) only [w32_0, wbi0, Classical.not_not, w32_id] at c2)
      refine ⟨by first | decide | (show (0 ≤ (0 : Int) ∧ (0 : Int) ≤ 8) ∧ 0 ≤ A0 27 14 ∧ A0 27 14 ≤ 8; omega) | (show (0 ≤ (8 : Int) ∧ (8 : Int) ≤ 8) ∧ 0 ≤ A0 27 15 ∧ A0 27 15 ≤ 8; omega) | (simp only [nmS_22, psF_p]; rw [w32_id (by omega) (by omega)]; omega) | exact ⟨Or.inl rfl, by omega, by omega⟩ | exact ⟨Or.inr rfl, by omega, by omega⟩ | exact ⟨pt, pn, fiP_ok kn pn.2 (by decide)⟩, ?_⟩
      refine ⟨by first | decide | (show (0 ≤ (0 : Int) ∧ (0 : Int) ≤ 8) ∧ 0 ≤ A0 27 14 ∧ A0 27 14 ≤ 8; omega) | (show (0 ≤ (8 : Int) ∧ (8 : Int) ≤ 8) ∧ 0 ≤ A0 27 15 ∧ A0 27 15 ≤ 8; omega) | (simp only [nmS_22, psF_p]; rw [w32_id (by omega) (by omega)]; omega) | exact ⟨Or.inl rfl, by omega, by omega⟩ | exact ⟨Or.inr rfl, by omega, by omega⟩ | exact ⟨pt, pn, fiP_ok kn pn.2 (by decide)⟩, ?_⟩
      refine ⟨fun c3 => ?_, fun c3 => ?_⟩
      · skip
        (try (change w32 (fnM A0 0 (A0 27 14) nn) = w32 (-1) at c3; rw [w32_id (x := fnM A0 0 (A0 27 14) nn) (by omega) (by omega), w32_id (x := -1) (by decide) (by decide)] at c3)); (try (change ¬ w32 (fnM A0 0 (A0 27 14) nn) = w32 (-1) at c3; rw [w32_id (x := fnM A0 0 (A0 27 14) nn) (by omega) (by omega), w32_id (x := -1) (by decide) (by decide)] at c3)); (try (change w32 (fnM A0 8 (A0 27 15) nn) = w32 (-1) at c3; rw [w32_id (x := fnM A0 8 (A0 27 15) nn) (by omega) (by omega), w32_id (x := -1) (by decide) (by decide)] at c3)); (try (change ¬ w32 (fnM A0 8 (A0 27 15) nn) = w32 (-1) at c3; rw [w32_id (x := fnM A0 8 (A0 27 15) nn) (by omega) (by omega), w32_id (x := -1) (by decide) (by decide)] at c3)); (try simp only [fiP_22, inS_22, nmS_22, psF_e, psF_q, psF_p, psF_o, psF_t, psF_v] at c3); (try simp (disch := omega) only [w32_0, wbi0, Classical.not_not, w32_id] at c3)
        refine ⟨fun c4 => ?_, fun c4 => ?_⟩
        · skip
          (try (change w32 (fnM A0 0 (A0 27 14) nn) = w32 (-1) at c4; rw [w32_id (x := fnM A0 0 (A0 27 14) nn) (by omega) (by omega), w32_id (x := -1) (by decide) (by decide)] at c4)); (try (change ¬ w32 (fnM A0 0 (A0 27 14) nn) = w32 (-1) at c4; rw [w32_id (x := fnM A0 0 (A0 27 14) nn) (by omega) (by omega), w32_id (x := -1) (by decide) (by decide)] at c4)); (try (change w32 (fnM A0 8 (A0 27 15) nn) = w32 (-1) at c4; rw [w32_id (x := fnM A0 8 (A0 27 15) nn) (by omega) (by omega), w32_id (x := -1) (by decide) (by decide)] at c4)); (try (change ¬ w32 (fnM A0 8 (A0 27 15) nn) = w32 (-1) at c4; rw [w32_id (x := fnM A0 8 (A0 27 15) nn) (by omega) (by omega), w32_id (x := -1) (by decide) (by decide)] at c4)); (try simp only [fiP_22, inS_22, nmS_22, psF_e, psF_q, psF_p, psF_o, psF_t, psF_v] at c4); (try simp (disch := omega) only [w32_0, wbi0, Classical.not_not, w32_id] at c4)
          refine ⟨fun _ => ?_, fun q => absurd (by decide) q⟩
          refine ⟨by first | decide | (show (0 ≤ (0 : Int) ∧ (0 : Int) ≤ 8) ∧ 0 ≤ A0 27 14 ∧ A0 27 14 ≤ 8; omega) | (show (0 ≤ (8 : Int) ∧ (8 : Int) ≤ 8) ∧ 0 ≤ A0 27 15 ∧ A0 27 15 ≤ 8; omega) | (simp only [nmS_22, psF_p]; rw [w32_id (by omega) (by omega)]; omega) | exact ⟨Or.inl rfl, by omega, by omega⟩ | exact ⟨Or.inr rfl, by omega, by omega⟩ | exact ⟨pt, pn, fiP_ok kn pn.2 (by decide)⟩, ?_⟩
          refine ⟨by first | decide | (show (0 ≤ (0 : Int) ∧ (0 : Int) ≤ 8) ∧ 0 ≤ A0 27 14 ∧ A0 27 14 ≤ 8; omega) | (show (0 ≤ (8 : Int) ∧ (8 : Int) ≤ 8) ∧ 0 ≤ A0 27 15 ∧ A0 27 15 ≤ 8; omega) | (simp only [nmS_22, psF_p]; rw [w32_id (by omega) (by omega)]; omega) | exact ⟨Or.inl rfl, by omega, by omega⟩ | exact ⟨Or.inr rfl, by omega, by omega⟩ | exact ⟨pt, pn, fiP_ok kn pn.2 (by decide)⟩, ?_⟩
          have eN : nn = nmN (A0 26) (psF F0) := by
            unfold nmN
            rw [h2]
            first
            | (rw [if_pos (by assumption), if_pos (by assumption), show Int.toNat k = 6 by omega]; rfl)
            | (rw [if_neg (by assumption), if_neg (by assumption)])
          first
          | (have e2 : (if (nmS (psF F0)).1 = 0 ∧ haM A0 (nmN (A0 26) (psF F0)) then (1 : Int) else 0) = 0 := by
               rw [← eN]
               first
               | exact if_neg (fun y => by have y1 := y.1; omega)
               | exact if_neg (fun y => by rcases y.2 with y2 | y2 <;> exact y2 (by assumption))
               | exact if_pos ⟨by assumption, Or.inl (by assumption)⟩
               | exact if_pos ⟨by assumption, Or.inr (by assumption)⟩
             have eG : nmG A0 (F0 25 20) (psF F0) = goM (A0 26) (F0 25 20) (fiP (nmS (psF F0)) 0 (-13)) := by unfold nmG; rw [e2]
             rw [eG, ← eN] at h
             rw [psS_up (by decide), psS_up (by decide)]
             simp only [psS_S]
             exact h)
          | (have e2 : (if (nmS (psF F0)).1 = 0 ∧ haM A0 (nmN (A0 26) (psF F0)) then (1 : Int) else 0) = 1 := by
               rw [← eN]
               first
               | exact if_neg (fun y => by have y1 := y.1; omega)
               | exact if_neg (fun y => by rcases y.2 with y2 | y2 <;> exact y2 (by assumption))
               | exact if_pos ⟨by assumption, Or.inl (by assumption)⟩
               | exact if_pos ⟨by assumption, Or.inr (by assumption)⟩
             have eG : nmG A0 (F0 25 20) (psF F0) = goM (A0 26) (F0 25 20) (fiP (nmS (psF F0)) 1 (-13)) := by unfold nmG; rw [e2]
             rw [eG, ← eN] at h
             rw [psS_up (by decide), psS_up (by decide)]
             simp only [psS_S]
             exact h)
        · skip
          (try (change w32 (fnM A0 0 (A0 27 14) nn) = w32 (-1) at c4; rw [w32_id (x := fnM A0 0 (A0 27 14) nn) (by omega) (by omega), w32_id (x := -1) (by decide) (by decide)] at c4)); (try (change ¬ w32 (fnM A0 0 (A0 27 14) nn) = w32 (-1) at c4; rw [w32_id (x := fnM A0 0 (A0 27 14) nn) (by omega) (by omega), w32_id (x := -1) (by decide) (by decide)] at c4)); (try (change w32 (fnM A0 8 (A0 27 15) nn) = w32 (-1) at c4; rw [w32_id (x := fnM A0 8 (A0 27 15) nn) (by omega) (by omega), w32_id (x := -1) (by decide) (by decide)] at c4)); (try (change ¬ w32 (fnM A0 8 (A0 27 15) nn) = w32 (-1) at c4; rw [w32_id (x := fnM A0 8 (A0 27 15) nn) (by omega) (by omega), w32_id (x := -1) (by decide) (by decide)] at c4)); (try simp only [fiP_22, inS_22, nmS_22, psF_e, psF_q, psF_p, psF_o, psF_t, psF_v] at c4); (try simp (disch := omega) only [w32_0, wbi0, Classical.not_not, w32_id] at c4)
          refine ⟨by first | decide | (show (0 ≤ (0 : Int) ∧ (0 : Int) ≤ 8) ∧ 0 ≤ A0 27 14 ∧ A0 27 14 ≤ 8; omega) | (show (0 ≤ (8 : Int) ∧ (8 : Int) ≤ 8) ∧ 0 ≤ A0 27 15 ∧ A0 27 15 ≤ 8; omega) | (simp only [nmS_22, psF_p]; rw [w32_id (by omega) (by omega)]; omega) | exact ⟨Or.inl rfl, by omega, by omega⟩ | exact ⟨Or.inr rfl, by omega, by omega⟩ | exact ⟨pt, pn, fiP_ok kn pn.2 (by decide)⟩, ?_⟩
          refine ⟨by first | decide | (show (0 ≤ (0 : Int) ∧ (0 : Int) ≤ 8) ∧ 0 ≤ A0 27 14 ∧ A0 27 14 ≤ 8; omega) | (show (0 ≤ (8 : Int) ∧ (8 : Int) ≤ 8) ∧ 0 ≤ A0 27 15 ∧ A0 27 15 ≤ 8; omega) | (simp only [nmS_22, psF_p]; rw [w32_id (by omega) (by omega)]; omega) | exact ⟨Or.inl rfl, by omega, by omega⟩ | exact ⟨Or.inr rfl, by omega, by omega⟩ | exact ⟨pt, pn, fiP_ok kn pn.2 (by decide)⟩, ?_⟩
          have eN : nn = nmN (A0 26) (psF F0) := by
            unfold nmN
            rw [h2]
            first
            | (rw [if_pos (by assumption), if_pos (by assumption), show Int.toNat k = 6 by omega]; rfl)
            | (rw [if_neg (by assumption), if_neg (by assumption)])
          first
          | (have e2 : (if (nmS (psF F0)).1 = 0 ∧ haM A0 (nmN (A0 26) (psF F0)) then (1 : Int) else 0) = 0 := by
               rw [← eN]
               first
               | exact if_neg (fun y => by have y1 := y.1; omega)
               | exact if_neg (fun y => by rcases y.2 with y2 | y2 <;> exact y2 (by assumption))
               | exact if_pos ⟨by assumption, Or.inl (by assumption)⟩
               | exact if_pos ⟨by assumption, Or.inr (by assumption)⟩
             have eG : nmG A0 (F0 25 20) (psF F0) = goM (A0 26) (F0 25 20) (fiP (nmS (psF F0)) 0 (-13)) := by unfold nmG; rw [e2]
             rw [eG, ← eN] at h
             rw [psS_up (by decide), psS_up (by decide)]
             simp only [psS_S]
             exact h)
          | (have e2 : (if (nmS (psF F0)).1 = 0 ∧ haM A0 (nmN (A0 26) (psF F0)) then (1 : Int) else 0) = 1 := by
               rw [← eN]
               first
               | exact if_neg (fun y => by have y1 := y.1; omega)
               | exact if_neg (fun y => by rcases y.2 with y2 | y2 <;> exact y2 (by assumption))
               | exact if_pos ⟨by assumption, Or.inl (by assumption)⟩
               | exact if_pos ⟨by assumption, Or.inr (by assumption)⟩
             have eG : nmG A0 (F0 25 20) (psF F0) = goM (A0 26) (F0 25 20) (fiP (nmS (psF F0)) 1 (-13)) := by unfold nmG; rw [e2]
             rw [eG, ← eN] at h
             rw [psS_up (by decide), psS_up (by decide)]
             simp only [psS_S]
             exact h)
      · skip
        (try (change w32 (fnM A0 0 (A0 27 14) nn) = w32 (-1) at c3; rw [w32_id (x := fnM A0 0 (A0 27 14) nn) (by omega) (by omega), w32_id (x := -1) (by decide) (by decide)] at c3)); (try (change ¬ w32 (fnM A0 0 (A0 27 14) nn) = w32 (-1) at c3; rw [w32_id (x := fnM A0 0 (A0 27 14) nn) (by omega) (by omega), w32_id (x := -1) (by decide) (by decide)] at c3)); (try (change w32 (fnM A0 8 (A0 27 15) nn) = w32 (-1) at c3; rw [w32_id (x := fnM A0 8 (A0 27 15) nn) (by omega) (by omega), w32_id (x := -1) (by decide) (by decide)] at c3)); (try (change ¬ w32 (fnM A0 8 (A0 27 15) nn) = w32 (-1) at c3; rw [w32_id (x := fnM A0 8 (A0 27 15) nn) (by omega) (by omega), w32_id (x := -1) (by decide) (by decide)] at c3)); (try simp only [fiP_22, inS_22, nmS_22, psF_e, psF_q, psF_p, psF_o, psF_t, psF_v] at c3); (try simp (disch := omega) only [w32_0, wbi0, Classical.not_not, w32_id] at c3)
        refine ⟨fun c4 => ?_, fun c4 => ?_⟩
        · skip
          (try (change w32 (fnM A0 0 (A0 27 14) nn) = w32 (-1) at c4; rw [w32_id (x := fnM A0 0 (A0 27 14) nn) (by omega) (by omega), w32_id (x := -1) (by decide) (by decide)] at c4)); (try (change ¬ w32 (fnM A0 0 (A0 27 14) nn) = w32 (-1) at c4; rw [w32_id (x := fnM A0 0 (A0 27 14) nn) (by omega) (by omega), w32_id (x := -1) (by decide) (by decide)] at c4)); (try (change w32 (fnM A0 8 (A0 27 15) nn) = w32 (-1) at c4; rw [w32_id (x := fnM A0 8 (A0 27 15) nn) (by omega) (by omega), w32_id (x := -1) (by decide) (by decide)] at c4)); (try (change ¬ w32 (fnM A0 8 (A0 27 15) nn) = w32 (-1) at c4; rw [w32_id (x := fnM A0 8 (A0 27 15) nn) (by omega) (by omega), w32_id (x := -1) (by decide) (by decide)] at c4)); (try simp only [fiP_22, inS_22, nmS_22, psF_e, psF_q, psF_p, psF_o, psF_t, psF_v] at c4); (try simp (disch := omega) only [w32_0, wbi0, Classical.not_not, w32_id] at c4)
          refine ⟨fun q => absurd q (by decide), fun _ => ?_⟩
          refine ⟨by first | decide | (show (0 ≤ (0 : Int) ∧ (0 : Int) ≤ 8) ∧ 0 ≤ A0 27 14 ∧ A0 27 14 ≤ 8; omega) | (show (0 ≤ (8 : Int) ∧ (8 : Int) ≤ 8) ∧ 0 ≤ A0 27 15 ∧ A0 27 15 ≤ 8; omega) | (simp only [nmS_22, psF_p]; rw [w32_id (by omega) (by omega)]; omega) | exact ⟨Or.inl rfl, by omega, by omega⟩ | exact ⟨Or.inr rfl, by omega, by omega⟩ | exact ⟨pt, pn, fiP_ok kn pn.2 (by decide)⟩, ?_⟩
          refine ⟨by first | decide | (show (0 ≤ (0 : Int) ∧ (0 : Int) ≤ 8) ∧ 0 ≤ A0 27 14 ∧ A0 27 14 ≤ 8; omega) | (show (0 ≤ (8 : Int) ∧ (8 : Int) ≤ 8) ∧ 0 ≤ A0 27 15 ∧ A0 27 15 ≤ 8; omega) | (simp only [nmS_22, psF_p]; rw [w32_id (by omega) (by omega)]; omega) | exact ⟨Or.inl rfl, by omega, by omega⟩ | exact ⟨Or.inr rfl, by omega, by omega⟩ | exact ⟨pt, pn, fiP_ok kn pn.2 (by decide)⟩, ?_⟩
          have eN : nn = nmN (A0 26) (psF F0) := by
            unfold nmN
            rw [h2]
            first
            | (rw [if_pos (by assumption), if_pos (by assumption), show Int.toNat k = 6 by omega]; rfl)
            | (rw [if_neg (by assumption), if_neg (by assumption)])
          first
          | (have e2 : (if (nmS (psF F0)).1 = 0 ∧ haM A0 (nmN (A0 26) (psF F0)) then (1 : Int) else 0) = 0 := by
               rw [← eN]
               first
               | exact if_neg (fun y => by have y1 := y.1; omega)
               | exact if_neg (fun y => by rcases y.2 with y2 | y2 <;> exact y2 (by assumption))
               | exact if_pos ⟨by assumption, Or.inl (by assumption)⟩
               | exact if_pos ⟨by assumption, Or.inr (by assumption)⟩
             have eG : nmG A0 (F0 25 20) (psF F0) = goM (A0 26) (F0 25 20) (fiP (nmS (psF F0)) 0 (-13)) := by unfold nmG; rw [e2]
             rw [eG, ← eN] at h
             rw [psS_up (by decide), psS_up (by decide)]
             simp only [psS_S]
             exact h)
          | (have e2 : (if (nmS (psF F0)).1 = 0 ∧ haM A0 (nmN (A0 26) (psF F0)) then (1 : Int) else 0) = 1 := by
               rw [← eN]
               first
               | exact if_neg (fun y => by have y1 := y.1; omega)
               | exact if_neg (fun y => by rcases y.2 with y2 | y2 <;> exact y2 (by assumption))
               | exact if_pos ⟨by assumption, Or.inl (by assumption)⟩
               | exact if_pos ⟨by assumption, Or.inr (by assumption)⟩
             have eG : nmG A0 (F0 25 20) (psF F0) = goM (A0 26) (F0 25 20) (fiP (nmS (psF F0)) 1 (-13)) := by unfold nmG; rw [e2]
             rw [eG, ← eN] at h
             rw [psS_up (by decide), psS_up (by decide)]
             simp only [psS_S]
             exact h)
        · skip
          (try (change w32 (fnM A0 0 (A0 27 14) nn) = w32 (-1) at c4; rw [w32_id (x := fnM A0 0 (A0 27 14) nn) (by omega) (by omega), w32_id (x := -1) (by decide) (by decide)] at c4)); (try (change ¬ w32 (fnM A0 0 (A0 27 14) nn) = w32 (-1) at c4; rw [w32_id (x := fnM A0 0 (A0 27 14) nn) (by omega) (by omega), w32_id (x := -1) (by decide) (by decide)] at c4)); (try (change w32 (fnM A0 8 (A0 27 15) nn) = w32 (-1) at c4; rw [w32_id (x := fnM A0 8 (A0 27 15) nn) (by omega) (by omega), w32_id (x := -1) (by decide) (by decide)] at c4)); (try (change ¬ w32 (fnM A0 8 (A0 27 15) nn) = w32 (-1) at c4; rw [w32_id (x := fnM A0 8 (A0 27 15) nn) (by omega) (by omega), w32_id (x := -1) (by decide) (by decide)] at c4)); (try simp only [fiP_22, inS_22, nmS_22, psF_e, psF_q, psF_p, psF_o, psF_t, psF_v] at c4); (try simp (disch := omega) only [w32_0, wbi0, Classical.not_not, w32_id] at c4)
          refine ⟨by first | decide | (show (0 ≤ (0 : Int) ∧ (0 : Int) ≤ 8) ∧ 0 ≤ A0 27 14 ∧ A0 27 14 ≤ 8; omega) | (show (0 ≤ (8 : Int) ∧ (8 : Int) ≤ 8) ∧ 0 ≤ A0 27 15 ∧ A0 27 15 ≤ 8; omega) | (simp only [nmS_22, psF_p]; rw [w32_id (by omega) (by omega)]; omega) | exact ⟨Or.inl rfl, by omega, by omega⟩ | exact ⟨Or.inr rfl, by omega, by omega⟩ | exact ⟨pt, pn, fiP_ok kn pn.2 (by decide)⟩, ?_⟩
          refine ⟨by first | decide | (show (0 ≤ (0 : Int) ∧ (0 : Int) ≤ 8) ∧ 0 ≤ A0 27 14 ∧ A0 27 14 ≤ 8; omega) | (show (0 ≤ (8 : Int) ∧ (8 : Int) ≤ 8) ∧ 0 ≤ A0 27 15 ∧ A0 27 15 ≤ 8; omega) | (simp only [nmS_22, psF_p]; rw [w32_id (by omega) (by omega)]; omega) | exact ⟨Or.inl rfl, by omega, by omega⟩ | exact ⟨Or.inr rfl, by omega, by omega⟩ | exact ⟨pt, pn, fiP_ok kn pn.2 (by decide)⟩, ?_⟩
          have eN : nn = nmN (A0 26) (psF F0) := by
            unfold nmN
            rw [h2]
            first
            | (rw [if_pos (by assumption), if_pos (by assumption), show Int.toNat k = 6 by omega]; rfl)
            | (rw [if_neg (by assumption), if_neg (by assumption)])
          first
          | (have e2 : (if (nmS (psF F0)).1 = 0 ∧ haM A0 (nmN (A0 26) (psF F0)) then (1 : Int) else 0) = 0 := by
               rw [← eN]
               first
               | exact if_neg (fun y => by have y1 := y.1; omega)
               | exact if_neg (fun y => by rcases y.2 with y2 | y2 <;> exact y2 (by assumption))
               | exact if_pos ⟨by assumption, Or.inl (by assumption)⟩
               | exact if_pos ⟨by assumption, Or.inr (by assumption)⟩
             have eG : nmG A0 (F0 25 20) (psF F0) = goM (A0 26) (F0 25 20) (fiP (nmS (psF F0)) 0 (-13)) := by unfold nmG; rw [e2]
             rw [eG, ← eN] at h
             rw [psS_up (by decide), psS_up (by decide)]
             simp only [psS_S]
             exact h)
          | (have e2 : (if (nmS (psF F0)).1 = 0 ∧ haM A0 (nmN (A0 26) (psF F0)) then (1 : Int) else 0) = 1 := by
               rw [← eN]
               first
               | exact if_neg (fun y => by have y1 := y.1; omega)
               | exact if_neg (fun y => by rcases y.2 with y2 | y2 <;> exact y2 (by assumption))
               | exact if_pos ⟨by assumption, Or.inl (by assumption)⟩
               | exact if_pos ⟨by assumption, Or.inr (by assumption)⟩
             have eG : nmG A0 (F0 25 20) (psF F0) = goM (A0 26) (F0 25 20) (fiP (nmS (psF F0)) 1 (-13)) := by unfold nmG; rw [e2]
             rw [eG, ← eN] at h
             rw [psS_up (by decide), psS_up (by decide)]
             simp only [psS_S]
             exact h)
    · skip
      (try (change w32 (fnM A0 0 (A0 27 14) nn) = w32 (-1) at c2; rw [w32_id (x := fnM A0 0 (A0 27 14) nn) (by omega) (by omega), w32_id (x := -1) (by decide) (by decide)] at c2)); (try (change ¬ w32 (fnM A0 0 (A0 27 14) nn) = w32 (-1) at c2; rw [w32_id (x := fnM A0 0 (A0 27 14) nn) (by omega) (by omega), w32_id (x := -1) (by decide) (by decide)] at c2)); (try (change w32 (fnM A0 8 (A0 27 15) nn) = w32 (-1) at c2; rw [w32_id (x := fnM A0 8 (A0 27 15) nn) (by omega) (by omega), w32_id (x := -1) (by decide) (by decide)] at c2)); (try (change ¬ w32 (fnM A0 8 (A0 27 15) nn) = w32 (-1) at c2; rw [w32_id (x := fnM A0 8 (A0 27 15) nn) (by omega) (by omega), w32_id (x := -1) (by decide) (by decide)] at c2)); (try simp only [fiP_22, inS_22, nmS_22, psF_e, psF_q, psF_p, psF_o, psF_t, psF_v] at c2); (try simp (disch := omega) only [w32_0, wbi0, Classical.not_not, w32_id] at c2)
      refine ⟨fun c3 => ?_, fun c3 => ?_⟩
      · skip
        (try (change w32 (fnM A0 0 (A0 27 14) nn) = w32 (-1) at c3; rw [w32_id (x := fnM A0 0 (A0 27 14) nn) (by omega) (by omega), w32_id (x := -1) (by decide) (by decide)] at c3)); (try (change ¬ w32 (fnM A0 0 (A0 27 14) nn) = w32 (-1) at c3; rw [w32_id (x := fnM A0 0 (A0 27 14) nn) (by omega) (by omega), w32_id (x := -1) (by decide) (by decide)] at c3)); (try (change w32 (fnM A0 8 (A0 27 15) nn) = w32 (-1) at c3; rw [w32_id (x := fnM A0 8 (A0 27 15) nn) (by omega) (by omega), w32_id (x := -1) (by decide) (by decide)] at c3)); (try (change ¬ w32 (fnM A0 8 (A0 27 15) nn) = w32 (-1) at c3; rw [w32_id (x := fnM A0 8 (A0 27 15) nn) (by omega) (by omega), w32_id (x := -1) (by decide) (by decide)] at c3)); (try simp only [fiP_22, inS_22, nmS_22, psF_e, psF_q, psF_p, psF_o, psF_t, psF_v] at c3); (try simp (disch := omega) only [w32_0, wbi0, Classical.not_not, w32_id] at c3)
        refine ⟨fun q => absurd q (by decide), fun _ => ?_⟩
        refine ⟨by first | decide | (show (0 ≤ (0 : Int) ∧ (0 : Int) ≤ 8) ∧ 0 ≤ A0 27 14 ∧ A0 27 14 ≤ 8; omega) | (show (0 ≤ (8 : Int) ∧ (8 : Int) ≤ 8) ∧ 0 ≤ A0 27 15 ∧ A0 27 15 ≤ 8; omega) | (simp only [nmS_22, psF_p]; rw [w32_id (by omega) (by omega)]; omega) | exact ⟨Or.inl rfl, by omega, by omega⟩ | exact ⟨Or.inr rfl, by omega, by omega⟩ | exact ⟨pt, pn, fiP_ok kn pn.2 (by decide)⟩, ?_⟩
        refine ⟨by first | decide | (show (0 ≤ (0 : Int) ∧ (0 : Int) ≤ 8) ∧ 0 ≤ A0 27 14 ∧ A0 27 14 ≤ 8; omega) | (show (0 ≤ (8 : Int) ∧ (8 : Int) ≤ 8) ∧ 0 ≤ A0 27 15 ∧ A0 27 15 ≤ 8; omega) | (simp only [nmS_22, psF_p]; rw [w32_id (by omega) (by omega)]; omega) | exact ⟨Or.inl rfl, by omega, by omega⟩ | exact ⟨Or.inr rfl, by omega, by omega⟩ | exact ⟨pt, pn, fiP_ok kn pn.2 (by decide)⟩, ?_⟩
        have eN : nn = nmN (A0 26) (psF F0) := by
          unfold nmN
          rw [h2]
          first
          | (rw [if_pos (by assumption), if_pos (by assumption), show Int.toNat k = 6 by omega]; rfl)
          | (rw [if_neg (by assumption), if_neg (by assumption)])
        first
        | (have e2 : (if (nmS (psF F0)).1 = 0 ∧ haM A0 (nmN (A0 26) (psF F0)) then (1 : Int) else 0) = 0 := by
             rw [← eN]
             first
             | exact if_neg (fun y => by have y1 := y.1; omega)
             | exact if_neg (fun y => by rcases y.2 with y2 | y2 <;> exact y2 (by assumption))
             | exact if_pos ⟨by assumption, Or.inl (by assumption)⟩
             | exact if_pos ⟨by assumption, Or.inr (by assumption)⟩
           have eG : nmG A0 (F0 25 20) (psF F0) = goM (A0 26) (F0 25 20) (fiP (nmS (psF F0)) 0 (-13)) := by unfold nmG; rw [e2]
           rw [eG, ← eN] at h
           rw [psS_up (by decide), psS_up (by decide)]
           simp only [psS_S]
           exact h)
        | (have e2 : (if (nmS (psF F0)).1 = 0 ∧ haM A0 (nmN (A0 26) (psF F0)) then (1 : Int) else 0) = 1 := by
             rw [← eN]
             first
             | exact if_neg (fun y => by have y1 := y.1; omega)
             | exact if_neg (fun y => by rcases y.2 with y2 | y2 <;> exact y2 (by assumption))
             | exact if_pos ⟨by assumption, Or.inl (by assumption)⟩
             | exact if_pos ⟨by assumption, Or.inr (by assumption)⟩
           have eG : nmG A0 (F0 25 20) (psF F0) = goM (A0 26) (F0 25 20) (fiP (nmS (psF F0)) 1 (-13)) := by unfold nmG; rw [e2]
           rw [eG, ← eN] at h
           rw [psS_up (by decide), psS_up (by decide)]
           simp only [psS_S]
           exact h)
      · skip
        (try (change w32 (fnM A0 0 (A0 27 14) nn) = w32 (-1) at c3; rw [w32_id (x := fnM A0 0 (A0 27 14) nn) (by omega) (by omega), w32_id (x := -1) (by decide) (by decide)] at c3)); (try (change ¬ w32 (fnM A0 0 (A0 27 14) nn) = w32 (-1) at c3; rw [w32_id (x := fnM A0 0 (A0 27 14) nn) (by omega) (by omega), w32_id (x := -1) (by decide) (by decide)] at c3)); (try (change w32 (fnM A0 8 (A0 27 15) nn) = w32 (-1) at c3; rw [w32_id (x := fnM A0 8 (A0 27 15) nn) (by omega) (by omega), w32_id (x := -1) (by decide) (by decide)] at c3)); (try (change ¬ w32 (fnM A0 8 (A0 27 15) nn) = w32 (-1) at c3; rw [w32_id (x := fnM A0 8 (A0 27 15) nn) (by omega) (by omega), w32_id (x := -1) (by decide) (by decide)] at c3)); (try simp only [fiP_22, inS_22, nmS_22, psF_e, psF_q, psF_p, psF_o, psF_t, psF_v] at c3); (try simp (disch := omega) only [w32_0, wbi0, Classical.not_not, w32_id] at c3)
        refine ⟨by first | decide | (show (0 ≤ (0 : Int) ∧ (0 : Int) ≤ 8) ∧ 0 ≤ A0 27 14 ∧ A0 27 14 ≤ 8; omega) | (show (0 ≤ (8 : Int) ∧ (8 : Int) ≤ 8) ∧ 0 ≤ A0 27 15 ∧ A0 27 15 ≤ 8; omega) | (simp only [nmS_22, psF_p]; rw [w32_id (by omega) (by omega)]; omega) | exact ⟨Or.inl rfl, by omega, by omega⟩ | exact ⟨Or.inr rfl, by omega, by omega⟩ | exact ⟨pt, pn, fiP_ok kn pn.2 (by decide)⟩, ?_⟩
        refine ⟨by first | decide | (show (0 ≤ (0 : Int) ∧ (0 : Int) ≤ 8) ∧ 0 ≤ A0 27 14 ∧ A0 27 14 ≤ 8; omega) | (show (0 ≤ (8 : Int) ∧ (8 : Int) ≤ 8) ∧ 0 ≤ A0 27 15 ∧ A0 27 15 ≤ 8; omega) | (simp only [nmS_22, psF_p]; rw [w32_id (by omega) (by omega)]; omega) | exact ⟨Or.inl rfl, by omega, by omega⟩ | exact ⟨Or.inr rfl, by omega, by omega⟩ | exact ⟨pt, pn, fiP_ok kn pn.2 (by decide)⟩, ?_⟩
        have eN : nn = nmN (A0 26) (psF F0) := by
          unfold nmN
          rw [h2]
          first
          | (rw [if_pos (by assumption), if_pos (by assumption), show Int.toNat k = 6 by omega]; rfl)
          | (rw [if_neg (by assumption), if_neg (by assumption)])
        first
        | (have e2 : (if (nmS (psF F0)).1 = 0 ∧ haM A0 (nmN (A0 26) (psF F0)) then (1 : Int) else 0) = 0 := by
             rw [← eN]
             first
             | exact if_neg (fun y => by have y1 := y.1; omega)
             | exact if_neg (fun y => by rcases y.2 with y2 | y2 <;> exact y2 (by assumption))
             | exact if_pos ⟨by assumption, Or.inl (by assumption)⟩
             | exact if_pos ⟨by assumption, Or.inr (by assumption)⟩
           have eG : nmG A0 (F0 25 20) (psF F0) = goM (A0 26) (F0 25 20) (fiP (nmS (psF F0)) 0 (-13)) := by unfold nmG; rw [e2]
           rw [eG, ← eN] at h
           rw [psS_up (by decide), psS_up (by decide)]
           simp only [psS_S]
           exact h)
        | (have e2 : (if (nmS (psF F0)).1 = 0 ∧ haM A0 (nmN (A0 26) (psF F0)) then (1 : Int) else 0) = 1 := by
             rw [← eN]
             first
             | exact if_neg (fun y => by have y1 := y.1; omega)
             | exact if_neg (fun y => by rcases y.2 with y2 | y2 <;> exact y2 (by assumption))
             | exact if_pos ⟨by assumption, Or.inl (by assumption)⟩
             | exact if_pos ⟨by assumption, Or.inr (by assumption)⟩
           have eG : nmG A0 (F0 25 20) (psF F0) = goM (A0 26) (F0 25 20) (fiP (nmS (psF F0)) 1 (-13)) := by unfold nmG; rw [e2]
           rw [eG, ← eN] at h
           rw [psS_up (by decide), psS_up (by decide)]
           simp only [psS_S]
           exact h)
set_option maxRecDepth 20000 in
theorem qvX9_newName_25  (F0 : FF) (A0 : AA) (K : KK) (h : ((byO (A0 26) ∧ (0 ≤ (F0 25 20) ∧ (F0 25 20) ≤ 800) ∧ psOK ((F0 25 20)) (psF F0)) ∧ ((0 ≤ A0 27 14 ∧ A0 27 14 ≤ 8) ∧ (0 ≤ A0 27 15 ∧ A0 27 15 ≤ 6))) ∧ (K (some none) (upF (psS F0 (nmG A0 ((F0 25 20)) (psF F0))) 25 25 (nmN (A0 26) (psF F0))) A0)) : am_body qxX9_newName qnX9_newName_25 46 (qiX9_newName_25  F0 A0) quX9_newName_25 [vR 25] 2 F0 A0 K := by
  refine ⟨qvX9_newName_25_0  F0 A0 K h, fun pc ls st F A u hI => ?_⟩
  unfold qiX9_newName_25 at hI
  replace hI := am_cond2 hI
  rcases hI with ⟨hb, hI⟩ | hI
  · have hb := am_bq hb
    subst hb
    split at hI
    · rename_i s0 k
      obtain ⟨e0, e1, hI⟩ := hI
      subst e0
      subst e1
      exact qvX9_newName_25_47  _ _ K h _ _ hI
    · exact hI.elim
  exact hI.elim
theorem qtX9_newName (l : Launch) (hst : l.stackTraces = false) : am_CT l layM qeX9_newName := am_met1 hst rfl (by decide +kernel) rfl rfl rfl rfl rfl (fun _ _ h => by cases h) rfl (qzX9_newName l hst) (fun as F A K h => by
  replace h : qsX9_newName as F A K := h
  unfold qsX9_newName at h
  split at h
  · rename_i o
    refine ⟨by first | exact Nat.le_of_ble_eq_true rfl | simp [am_fl, am_cat], ?_⟩
    replace h := am_cond2 h
    rcases h with ⟨hb, h⟩ | h
    · skip
      have hb0 := hb
      have hb0 := am_bq hb0
      subst hb0
      exact am_way_body (qvX9_newName_25  F A K h)
    exact h.elim
  · exact h.elim)
