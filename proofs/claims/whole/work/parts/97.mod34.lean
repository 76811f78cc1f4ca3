def qkX9_goOn : Nat → Option CI := fun pc => cond (Nat.ble 12 pc) none (cond (Nat.ble 7 pc) (cond (Nat.beq pc 7) (some (.aload_n 0, 8, [])) (cond (Nat.beq pc 8) (some (.invokevirtual 238, 11, [])) (cond (Nat.beq pc 11) (some (.return_, 12, [])) (none)))) (cond (Nat.beq pc 0) (some (.aload_n 0, 1, [])) (cond (Nat.beq pc 1) (some (.getfield 232, 4, [])) (cond (Nat.beq pc 4) (some (.ifCond .ne 7, 7, [11])) (none)))))
theorem qkX9_goOn_ok : ∀ pc i nx ts, qkX9_goOn pc = some (i, nx, ts) → am_cok cX9_goOn pc (i, nx, ts) = true := fun pc i nx ts h => am_tok_ok (n := 12) (by decide +kernel) (fun pc h => by show cond (Nat.ble 12 pc) _ _ = _; rw [Nat.ble_eq_true_of_le h]; rfl) h
def qaX9_goOn : Nat → Option CE := fun k => cond (Nat.beq k 238) (some qeX9_next) (none)
theorem qyX9_goOn (l : Launch) (hst : l.stackTraces = false) : ∀ k e1, qaX9_goOn k = some e1 → am_cal l layM RX9 12 k e1 ∧ True := q_cons ⟨am_calV (ci := 9) (qtX9_next l hst) qbX9_next (by decide) rfl (am_tb_at 1496 (by decide +kernel) rfl), trivial⟩ (q_nil)
def qxX9_goOn : CX := (qkX9_goOn, layM, qfX9, qaX9_goOn, qcX9, qlX9, qmX9, none, true, none, 0, none, fun _ => none)
theorem qzX9_goOn (l : Launch) (hst : l.stackTraces = false) : am_sta l qxX9_goOn RX9 12 cX9_goOn := ⟨qkX9_goOn_ok, layM_ok, qfX9_ok, qcX9_ok, qlX9_ok, am_mthP qmX9_ok (by decide), fun k e1 h => (qyX9_goOn l hst k e1 h).1⟩
def qsX9_goOn : SP := fun as F A K => match as with
  | [.inr (.inr o)] => cond (Nat.beq o 25) ((byO (A 26) ∧ (0 ≤ (F 25 20) ∧ (F 25 20) ≤ 800) ∧ psOK ((F 25 20)) (psF F)) ∧ (K (some none) (psS F (goM (A 26) ((F 25 20)) (psF F))) A)) (False)
  | _ => False
def qeX9_goOn : CE := (yX9_goOn, cX9_goOn, 1, none, 0, some 9, 1, [], 0, 12, qsX9_goOn)
theorem qbX9_goOn : am_mb qeX9_goOn := ⟨am_tb_at 1579 (by decide +kernel) rfl, am_tb_at 124 (by decide +kernel) rfl, ⟨by decide, by decide, by decide +kernel⟩, by decide, by decide, am_tb_at 1578 (by decide +kernel) rfl, am_tb_at 55 (by decide +kernel) rfl, _, _, rfl⟩
set_option maxRecDepth 20000 in
theorem qvX9_goOn_25  (F : FF) (A : AA) (K : KK) (h : (byO (A 26) ∧ (0 ≤ (F 25 20) ∧ (F 25 20) ≤ 800) ∧ psOK ((F 25 20)) (psF F)) ∧ (K (some none) (psS F (goM (A 26) ((F 25 20)) (psF F))) A)) : am_line qxX9_goOn 7 [vR 25] 1 F A K := by
  show am_stp qxX9_goOn (am_run qxX9_goOn (fun _ => none) (fun _ _ _ _ _ _ => False) K 7) K 0 [some (vR 25)] [] F A 0
  obtain ⟨hp, h⟩ := h
  obtain ⟨pt, pn, pk⟩ := hp
  have ke : -14 ≤ F 25 26 ∧ F 25 26 ≤ 0 := pk.1

  show (w32 (F 25 26) = w32 0 → ((byO (A 26) ∧ (0 ≤ (F 25 20) ∧ (F 25 20) ≤ 800) ∧ (0 ≤ (F 25 21) ∧ (F 25 21) ≤ (F 25 20))) ∧ (K (some none) (psS F ((psF F).1, (psF F).2.1, nxK (A 26) ((F 25 20)) (psF F).2.2)) A))) ∧ (¬ w32 (F 25 26) = w32 0 → (K (some none) F A))
  refine ⟨fun c1 => ?_, fun c1 => ?_⟩
  · skip
    (try simp only [fiP_22, inS_22, nmS_22, psF_e, psF_q, psF_p, psF_o, psF_t, psF_v] at c1); (try simp (disch := omega) only [w32_0, wbi0, Classical.not_not, w32_id] at c1)
    refine ⟨by exact ⟨pt, pn, by have a1 : 0 ≤ F 25 22 := pk.2.2.1.1; have a2 : F 25 22 ≤ F 25 21 := pk.2.2.2.1.1; omega, pk.2.2.2.1.2⟩, ?_⟩
    first
    | (have e9 : goM (A 26) (F 25 20) (psF F) = psF F := if_neg (show ¬ F 25 26 = 0 by omega)
       rw [e9, psS_F] at h; exact h)
    | (have e9 : goM (A 26) (F 25 20) (psF F) = ((psF F).1, (psF F).2.1, nxK (A 26) (F 25 20) (psF F).2.2) := if_pos (show F 25 26 = 0 by omega)
       rw [e9] at h; exact h)
  · skip
    (try simp only [fiP_22, inS_22, nmS_22, psF_e, psF_q, psF_p, psF_o, psF_t, psF_v] at c1); (try simp (disch := omega) only [w32_0, wbi0, Classical.not_not, w32_id] at c1)
    first
    | (have e9 : goM (A 26) (F 25 20) (psF F) = psF F := if_neg (show ¬ F 25 26 = 0 by omega)
       rw [e9, psS_F] at h; exact h)
    | (have e9 : goM (A 26) (F 25 20) (psF F) = ((psF F).1, (psF F).2.1, nxK (A 26) (F 25 20) (psF F).2.2) := if_pos (show F 25 26 = 0 by omega)
       rw [e9] at h; exact h)
theorem qtX9_goOn (l : Launch) (hst : l.stackTraces = false) : am_CT l layM qeX9_goOn := am_met1 hst rfl (by decide +kernel) rfl rfl rfl rfl rfl (fun _ _ h => by cases h) rfl (qzX9_goOn l hst) (fun as F A K h => by
  replace h : qsX9_goOn as F A K := h
  unfold qsX9_goOn at h
  split at h
  · rename_i o
    refine ⟨by first | exact Nat.le_of_ble_eq_true rfl | simp [am_fl, am_cat], ?_⟩
    replace h := am_cond2 h
    rcases h with ⟨hb, h⟩ | h
    · skip
      have hb0 := hb
      have hb0 := am_bq hb0
      subst hb0
      exact am_way_line (qvX9_goOn_25  F A K h)
    exact h.elim
  · exact h.elim)
def qkX9_integerHere : Nat → Option CI := fun pc => cond (Nat.ble 62 pc) none (cond (Nat.ble 29 pc) (cond (Nat.ble 46 pc) (cond (Nat.ble 54 pc) (cond (Nat.ble 60 pc) (cond (Nat.beq pc 60) (some (.iload_n 1, 61, [])) (cond (Nat.beq pc 61) (some (.ireturn, 62, [])) (none))) (cond (Nat.beq pc 54) (some (.getfield 214, 57, [])) (cond (Nat.beq pc 57) (some (.goto 4, 60, [61])) (none)))) (cond (Nat.ble 50 pc) (cond (Nat.beq pc 50) (some (.ifCond .ne 10, 53, [60])) (cond (Nat.beq pc 53) (some (.aload_n 0, 54, [])) (none))) (cond (Nat.beq pc 46) (some (.aload_n 0, 47, [])) (cond (Nat.beq pc 47) (some (.getfield 232, 50, [])) (none))))) (cond (Nat.ble 37 pc) (cond (Nat.ble 41 pc) (cond (Nat.beq pc 41) (some (.bipush (-12), 43, [])) (cond (Nat.beq pc 43) (some (.invokevirtual 241, 46, [])) (none))) (cond (Nat.beq pc 37) (some (.goto 4, 40, [41])) (cond (Nat.beq pc 40) (some (.iconst 0, 41, [])) (none)))) (cond (Nat.ble 33 pc) (cond (Nat.beq pc 33) (some (.if_icmp .le 7, 36, [40])) (cond (Nat.beq pc 36) (some (.iconst 1, 37, [])) (none))) (cond (Nat.beq pc 29) (some (.getfield 214, 32, [])) (cond (Nat.beq pc 32) (some (.iload_n 2, 33, [])) (none)))))) (cond (Nat.ble 14 pc) (cond (Nat.ble 21 pc) (cond (Nat.ble 25 pc) (cond (Nat.beq pc 25) (some (.if_icmp .lt 11, 28, [36])) (cond (Nat.beq pc 28) (some (.aload_n 0, 29, [])) (none))) (cond (Nat.beq pc 21) (some (.getfield 214, 24, [])) (cond (Nat.beq pc 24) (some (.iload_n 1, 25, [])) (none)))) (cond (Nat.ble 19 pc) (cond (Nat.beq pc 19) (some (.aload_n 0, 20, [])) (cond (Nat.beq pc 20) (some (.aload_n 0, 21, [])) (none))) (cond (Nat.beq pc 14) (some (.bipush (-11), 16, [])) (cond (Nat.beq pc 16) (some (.invokevirtual 241, 19, [])) (none))))) (cond (Nat.ble 6 pc) (cond (Nat.ble 10 pc) (cond (Nat.beq pc 10) (some (.goto 4, 13, [14])) (cond (Nat.beq pc 13) (some (.iconst 0, 14, [])) (none))) (cond (Nat.beq pc 6) (some (.if_icmp .eq 7, 9, [13])) (cond (Nat.beq pc 9) (some (.iconst 1, 10, [])) (none)))) (cond (Nat.ble 2 pc) (cond (Nat.beq pc 2) (some (.getfield 204, 5, [])) (cond (Nat.beq pc 5) (some (.iconst 1, 6, [])) (none))) (cond (Nat.beq pc 0) (some (.aload_n 0, 1, [])) (cond (Nat.beq pc 1) (some (.aload_n 0, 2, [])) (none)))))))
theorem qkX9_integerHere_ok : ∀ pc i nx ts, qkX9_integerHere pc = some (i, nx, ts) → am_cok cX9_integerHere pc (i, nx, ts) = true := fun pc i nx ts h => am_tok_ok (n := 62) (by decide +kernel) (fun pc h => by show cond (Nat.ble 62 pc) _ _ = _; rw [Nat.ble_eq_true_of_le h]; rfl) h
def qaX9_integerHere : Nat → Option CE := fun k => cond (Nat.beq k 241) (some qeX9_failsIf) (none)
theorem qyX9_integerHere (l : Launch) : ∀ k e1, qaX9_integerHere k = some e1 → am_cal l layM RX9 4 k e1 ∧ ceT e1 = 0 := q_cons ⟨am_calV (ci := 9) (qtX9_failsIf l) qbX9_failsIf (by decide) rfl (am_tb_at 1572 (by decide +kernel) rfl), rfl⟩ (q_nil)
def qxX9_integerHere : CX := (qkX9_integerHere, layM, qfX9, qaX9_integerHere, qcX9, qlX9, qmX9, (some .int), false, none, 0, none, fun _ => none)
theorem qzX9_integerHere (l : Launch) : am_sta l qxX9_integerHere RX9 4 cX9_integerHere := ⟨qkX9_integerHere_ok, layM_ok, qfX9_ok, qcX9_ok, qlX9_ok, am_mthP qmX9_ok (by decide), fun k e1 h => (qyX9_integerHere l k e1 h).1⟩
def qsX9_integerHere : SP := fun as F A K => match as with
  | [.inr (.inr o), .inl a, .inl b] => cond (Nat.beq o 25) ((((0 ≤ (F 25 20) ∧ (F 25 20) ≤ 800) ∧ psOK ((F 25 20)) (psF F)) ∧ (-2147483648 ≤ a ∧ a < 2147483648) ∧ (-2147483648 ≤ b ∧ b < 2147483648)) ∧ (K (some (some (vI (inV a b (psF F))))) (psS F (inS a b (psF F))) A)) (False)
  | _ => False
def qeX9_integerHere : CE := (yX9_integerHere, cX9_integerHere, 3, (some .int), 2, some 9, 0, [], 0, 4, qsX9_integerHere)
theorem qbX9_integerHere : am_mb qeX9_integerHere := ⟨am_tb_at 1591 (by decide +kernel) rfl, am_tb_at 124 (by decide +kernel) rfl, ⟨by decide, by decide, by decide +kernel⟩, by decide, by decide, am_tb_at 1590 (by decide +kernel) rfl, am_tb_at 58 (by decide +kernel) rfl, _, _, rfl⟩
set_option maxRecDepth 20000 in
theorem qvX9_integerHere_25 (a : Int) (b : Int) (F : FF) (A : AA) (K : KK) (h : (((0 ≤ (F 25 20) ∧ (F 25 20) ≤ 800) ∧ psOK ((F 25 20)) (psF F)) ∧ (-2147483648 ≤ a ∧ a < 2147483648) ∧ (-2147483648 ≤ b ∧ b < 2147483648)) ∧ (K (some (some (vI (inV a b (psF F))))) (psS F (inS a b (psF F))) A)) : am_line qxX9_integerHere 30 [vR 25, vI a, vI b] 3 F A K := by
  show am_stp qxX9_integerHere (am_run qxX9_integerHere (fun _ => none) (fun _ _ _ _ _ _ => False) K 30) K 0 [some (vR 25), some (vI a), some (vI b)] [] F A 0
  obtain ⟨hp, h⟩ := h
  obtain ⟨⟨pn, pk⟩, pa, pb⟩ := hp
  have ke : -14 ≤ F 25 26 ∧ F 25 26 ≤ 0 := pk.1
  have kt : 0 ≤ F 25 23 ∧ F 25 23 ≤ 4 := pk.2.2.2.2.1
  have kv : -1 ≤ F 25 24 ∧ F 25 24 ≤ 2000000 := pk.2.2.2.2.2.2
  have k10 := fiP_ok (z := 0) (v := -11) pk pn.2 (by decide)
  have k11 := fiP_ok (z := 1) (v := -11) pk pn.2 (by decide)
  have a0 := k10.1
  have a1 := k11.1
  have b00 := (fiP_ok (z := 0) (v := -12) k10 pn.2 (by decide)).1
  have b01 := (fiP_ok (z := 1) (v := -12) k10 pn.2 (by decide)).1
  have b10 := (fiP_ok (z := 0) (v := -12) k11 pn.2 (by decide)).1
  have b11 := (fiP_ok (z := 1) (v := -12) k11 pn.2 (by decide)).1

  show (w32 (F 25 23) = w32 1 → (((0 = 0 ∨ 0 = 1) ∧ (-2147483648 ≤ (F 25 26) ∧ (F 25 26) < 2147483648)) ∧ ((w32 ((fiP (psF F) 0 (-11)).2.2.2.2.2) < w32 a → (((1 = 0 ∨ 1 = 1) ∧ (-2147483648 ≤ ((fiP (psF F) 0 (-11)).1) ∧ ((fiP (psF F) 0 (-11)).1) < 2147483648)) ∧ ((w32 ((fiP ((fiP (psF F) 0 (-11))) 1 (-12)).1) = w32 0 → (K (some (some (vI ((fiP ((fiP (psF F) 0 (-11))) 1 (-12)).2.2.2.2.2)))) (psS (psS F (fiP (psF F) 0 (-11))) (fiP ((fiP (psF F) 0 (-11))) 1 (-12))) A)) ∧ (¬ w32 ((fiP ((fiP (psF F) 0 (-11))) 1 (-12)).1) = w32 0 → (K (some (some (vI a))) (psS (psS F (fiP (psF F) 0 (-11))) (fiP ((fiP (psF F) 0 (-11))) 1 (-12))) A))))) ∧ (¬ w32 ((fiP (psF F) 0 (-11)).2.2.2.2.2) < w32 a → ((w32 b < w32 ((fiP (psF F) 0 (-11)).2.2.2.2.2) → (((1 = 0 ∨ 1 = 1) ∧ (-2147483648 ≤ ((fiP (psF F) 0 (-11)).1) ∧ ((fiP (psF F) 0 (-11)).1) < 2147483648)) ∧ ((w32 ((fiP ((fiP (psF F) 0 (-11))) 1 (-12)).1) = w32 0 → (K (some (some (vI ((fiP ((fiP (psF F) 0 (-11))) 1 (-12)).2.2.2.2.2)))) (psS (psS F (fiP (psF F) 0 (-11))) (fiP ((fiP (psF F) 0 (-11))) 1 (-12))) A)) ∧ (¬ w32 ((fiP ((fiP (psF F) 0 (-11))) 1 (-12)).1) = w32 0 → (K (some (some (vI a))) (psS (psS F (fiP (psF F) 0 (-11))) (fiP ((fiP (psF F) 0 (-11))) 1 (-12))) A))))) ∧ (¬ w32 b < w32 ((fiP (psF F) 0 (-11)).2.2.2.2.2) → (((0 = 0 ∨ 0 = 1) ∧ (-2147483648 ≤ ((fiP (psF F) 0 (-11)).1) ∧ ((fiP (psF F) 0 (-11)).1) < 2147483648)) ∧ ((w32 ((fiP ((fiP (psF F) 0 (-11))) 0 (-12)).1) = w32 0 → (K (some (some (vI ((fiP ((fiP (psF F) 0 (-11))) 0 (-12)).2.2.2.2.2)))) (psS (psS F (fiP (psF F) 0 (-11))) (fiP ((fiP (psF F) 0 (-11))) 0 (-12))) A)) ∧ (¬ w32 ((fiP ((fiP (psF F) 0 (-11))) 0 (-12)).1) = w32 0 → (K (some (some (vI a))) (psS (psS F (fiP (psF F) 0 (-11))) (fiP ((fiP (psF F) 0 (-11))) 0 (-12))) A)))))))))) ∧ (¬ w32 (F 25 23) = w32 1 → (((1 = 0 ∨ 1 = 1) ∧ (-2147483648 ≤ (F 25 26) ∧ (F 25 26) < 2147483648)) ∧ ((w32 ((fiP (psF F) 1 (-11)).2.2.2.2.2) < w32 a → (((1 = 0 ∨ 1 = 1) ∧ (-2147483648 ≤ ((fiP (psF F) 1 (-11)).1) ∧ ((fiP (psF F) 1 (-11)).1) < 2147483648)) ∧ ((w32 ((fiP ((fiP (psF F) 1 (-11))) 1 (-12)).1) = w32 0 → (K (some (some (vI ((fiP ((fiP (psF F) 1 (-11))) 1 (-12)).2.2.2.2.2)))) (psS (psS F (fiP (psF F) 1 (-11))) (fiP ((fiP (psF F) 1 (-11))) 1 (-12))) A)) ∧ (¬ w32 ((fiP ((fiP (psF F) 1 (-11))) 1 (-12)).1) = w32 0 → (K (some (some (vI a))) (psS (psS F (fiP (psF F) 1 (-11))) (fiP ((fiP (psF F) 1 (-11))) 1 (-12))) A))))) ∧ (¬ w32 ((fiP (psF F) 1 (-11)).2.2.2.2.2) < w32 a → ((w32 b < w32 ((fiP (psF F) 1 (-11)).2.2.2.2.2) → (((1 = 0 ∨ 1 = 1) ∧ (-2147483648 ≤ ((fiP (psF F) 1 (-11)).1) ∧ ((fiP (psF F) 1 (-11)).1) < 2147483648)) ∧ ((w32 ((fiP ((fiP (psF F) 1 (-11))) 1 (-12)).1) = w32 0 → (K (some (some (vI ((fiP ((fiP (psF F) 1 (-11))) 1 (-12)).2.2.2.2.2)))) (psS (psS F (fiP (psF F) 1 (-11))) (fiP ((fiP (psF F) 1 (-11))) 1 (-12))) A)) ∧ (¬ w32 ((fiP ((fiP (psF F) 1 (-11))) 1 (-12)).1) = w32 0 → (K (some (some (vI a))) (psS (psS F (fiP (psF F) 1 (-11))) (fiP ((fiP (psF F) 1 (-11))) 1 (-12))) A))))) ∧ (¬ w32 b < w32 ((fiP (psF F) 1 (-11)).2.2.2.2.2) → (((0 = 0 ∨ 0 = 1) ∧ (-2147483648 ≤ ((fiP (psF F) 1 (-11)).1) ∧ ((fiP (psF F) 1 (-11)).1) < 2147483648)) ∧ ((w32 ((fiP ((fiP (psF F) 1 (-11))) 0 (-12)).1) = w32 0 → (K (some (some (vI ((fiP ((fiP (psF F) 1 (-11))) 0 (-12)).2.2.2.2.2)))) (psS (psS F (fiP (psF F) 1 (-11))) (fiP ((fiP (psF F) 1 (-11))) 0 (-12))) A)) ∧ (¬ w32 ((fiP ((fiP (psF F) 1 (-11))) 0 (-12)).1) = w32 0 → (K (some (some (vI a))) (psS (psS F (fiP (psF F) 1 (-11))) (fiP ((fiP (psF F) 1 (-11))) 0 (-12))) A))))))))))
  refine ⟨fun c1 => ?_, fun c1 => ?_⟩
  · skip
    (try simp only [fiP_22, inS_22, nmS_22, psF_e, psF_q, psF_p, psF_o, psF_t, psF_v] at c1); (try simp (disch := omega) only [w32_0, wbi0, Classical.not_not, w32_id] at c1)
    refine ⟨by first | omega | exact ⟨Or.inl rfl, by omega, by omega⟩ | exact ⟨Or.inr rfl, by omega, by omega⟩, ?_⟩
    refine ⟨fun c2 => ?_, fun c2 => ?_⟩
    · skip
      (try simp only [fiP_22, inS_22, nmS_22, psF_e, psF_q, psF_p, psF_o, psF_t, psF_v] at c2); (try simp (disch := omega) only [w32_0, wbi0, Classical.not_not, w32_id] at c2)
      refine ⟨by first | omega | exact ⟨Or.inl rfl, by omega, by omega⟩ | exact ⟨Or.inr rfl, by omega, by omega⟩, ?_⟩
      refine ⟨fun c3 => ?_, fun c3 => ?_⟩
      · skip
        (try simp only [fiP_22, inS_22, nmS_22, psF_e, psF_q, psF_p, psF_o, psF_t, psF_v] at c3); (try simp (disch := omega) only [w32_0, wbi0, Classical.not_not, w32_id] at c3)
        first
        | (have e1 : (if (psF F).2.2.2.2.1 = 1 then (0 : Int) else 1) = 0 := if_pos (show F 25 23 = 1 by omega)
           have e2 : (if (psF F).2.2.2.2.2 < a ∨ b < (psF F).2.2.2.2.2 then (1 : Int) else 0) = 0 := if_neg (show ¬ (F 25 24 < a ∨ b < F 25 24) by omega)
           have eS : inS a b (psF F) = fiP (fiP (psF F) 0 (-11)) 0 (-12) := by unfold inS; rw [e1, e2]
           have eV : inV a b (psF F) = if (inS a b (psF F)).1 = 0 then F 25 24 else a := rfl
           rw [eV, eS] at h
           first
           | (rw [if_pos (by assumption)] at h; simp only [fiP_22, psS_S]; exact h)
           | (rw [if_neg (by assumption)] at h; simp only [psS_S]; exact h))
        | (have e1 : (if (psF F).2.2.2.2.1 = 1 then (0 : Int) else 1) = 0 := if_pos (show F 25 23 = 1 by omega)
           have e2 : (if (psF F).2.2.2.2.2 < a ∨ b < (psF F).2.2.2.2.2 then (1 : Int) else 0) = 1 := if_pos (show F 25 24 < a ∨ b < F 25 24 by omega)
           have eS : inS a b (psF F) = fiP (fiP (psF F) 0 (-11)) 1 (-12) := by unfold inS; rw [e1, e2]
           have eV : inV a b (psF F) = if (inS a b (psF F)).1 = 0 then F 25 24 else a := rfl
           rw [eV, eS] at h
           first
           | (rw [if_pos (by assumption)] at h; simp only [fiP_22, psS_S]; exact h)
           | (rw [if_neg (by assumption)] at h; simp only [psS_S]; exact h))
        | (have e1 : (if (psF F).2.2.2.2.1 = 1 then (0 : Int) else 1) = 1 := if_neg (show ¬ F 25 23 = 1 by omega)
           have e2 : (if (psF F).2.2.2.2.2 < a ∨ b < (psF F).2.2.2.2.2 then (1 : Int) else 0) = 0 := if_neg (show ¬ (F 25 24 < a ∨ b < F 25 24) by omega)
           have eS : inS a b (psF F) = fiP (fiP (psF F) 1 (-11)) 0 (-12) := by unfold inS; rw [e1, e2]
           have eV : inV a b (psF F) = if (inS a b (psF F)).1 = 0 then F 25 24 else a := rfl
           rw [eV, eS] at h
           first
           | (rw [if_pos (by assumption)] at h; simp only [fiP_22, psS_S]; exact h)
           | (rw [if_neg (by assumption)] at h; simp only [psS_S]; exact h))
        | (have e1 : (if (psF F).2.2.2.2.1 = 1 then (0 : Int) else 1) = 1 := if_neg (show ¬ F 25 23 = 1 by omega)
           have e2 : (if (psF F).2.2.2.2.2 < a ∨ b < (psF F).2.2.2.2.2 then (1 : Int) else 0) = 1 := if_pos (show F 25 24 < a ∨ b < F 25 24 by omega)
           have eS : inS a b (psF F) = fiP (fiP (psF F) 1 (-11)) 1 (-12) := by unfold inS; rw [e1, e2]
           have eV : inV a b (psF F) = if (inS a b (psF F)).1 = 0 then F 25 24 else a := rfl
           rw [eV, eS] at h
           first
           | (rw [if_pos (by assumption)] at h; simp only [fiP_22, psS_S]; exact h)
           | (rw [if_neg (by assumption)] at h; simp only [psS_S]; exact h))
      · skip
        (try simp only [fiP_22, inS_22, nmS_22, psF_e, psF_q, psF_p, psF_o, psF_t, psF_v] at c3); (try simp (disch := omega) only [w32_0, wbi0, Classical.not_not, w32_id] at c3)
        first
        | (have e1 : (if (psF F).2.2.2.2.1 = 1 then (0 : Int) else 1) = 0 := if_pos (show F 25 23 = 1 by omega)
           have e2 : (if (psF F).2.2.2.2.2 < a ∨ b < (psF F).2.2.2.2.2 then (1 : Int) else 0) = 0 := if_neg (show ¬ (F 25 24 < a ∨ b < F 25 24) by omega)
           have eS : inS a b (psF F) = fiP (fiP (psF F) 0 (-11)) 0 (-12) := by unfold inS; rw [e1, e2]
           have eV : inV a b (psF F) = if (inS a b (psF F)).1 = 0 then F 25 24 else a := rfl
           rw [eV, eS] at h
           first
           | (rw [if_pos (by assumption)] at h; simp only [fiP_22, psS_S]; exact h)
           | (rw [if_neg (by assumption)] at h; simp only [psS_S]; exact h))
        | (have e1 : (if (psF F).2.2.2.2.1 = 1 then (0 : Int) else 1) = 0 := if_pos (show F 25 23 = 1 by omega)
           have e2 : (if (psF F).2.2.2.2.2 < a ∨ b < (psF F).2.2.2.2.2 then (1 : Int) else 0) = 1 := if_pos (show F 25 24 < a ∨ b < F 25 24 by omega)
           have eS : inS a b (psF F) = fiP (fiP (psF F) 0 (-11)) 1 (-12) := by unfold inS; rw [e1, e2]
           have eV : inV a b (psF F) = if (inS a b (psF F)).1 = 0 then F 25 24 else a := rfl
           rw [eV, eS] at h
           first
           | (rw [if_pos (by assumption)] at h; simp only [fiP_22, psS_S]; exact h)
           | (rw [if_neg (by assumption)] at h; simp only [psS_S]; exact h))
        | (have e1 : (if (psF F).2.2.2.2.1 = 1 then (0 : Int) else 1) = 1 := if_neg (show ¬ F 25 23 = 1 by omega)
           have e2 : (if (psF F).2.2.2.2.2 < a ∨ b < (psF F).2.2.2.2.2 then (1 : Int) else 0) = 0 := if_neg (show ¬ (F 25 24 < a ∨ b < F 25 24) by omega)
           have eS : inS a b (psF F) = fiP (fiP (psF F) 1 (-11)) 0 (-12) := by unfold inS; rw [e1, e2]
           have eV : inV a b (psF F) = if (inS a b (psF F)).1 = 0 then F 25 24 else a := rfl
           rw [eV, eS] at h
           first
           | (rw [if_pos (by assumption)] at h; simp only [fiP_22, psS_S]; exact h)
           | (rw [if_neg (by assumption)] at h; simp only [psS_S]; exact h))
        | (have e1 : (if (psF F).2.2.2.2.1 = 1 then (0 : Int) else 1) = 1 := if_neg (show ¬ F 25 23 = 1 by omega)
           have e2 : (if (psF F).2.2.2.2.2 < a ∨ b < (psF F).2.2.2.2.2 then (1 : Int) else 0) = 1 := if_pos (show F 25 24 < a ∨ b < F 25 24 by omega)
           have eS : inS a b (psF F) = fiP (fiP (psF F) 1 (-11)) 1 (-12) := by unfold inS; rw [e1, e2]
           have eV : inV a b (psF F) = if (inS a b (psF F)).1 = 0 then F 25 24 else a := rfl
           rw [eV, eS] at h
           first
           | (rw [if_pos (by assumption)] at h; simp only [fiP_22, psS_S]; exact h)
           | (rw [if_neg (by assumption)] at h; simp only [psS_S]; exact h))
    · skip
      (try simp only [fiP_22, inS_22, nmS_22, psF_e, psF_q, psF_p, psF_o, psF_t, psF_v] at c2); (try simp (disch := omega) only [w32_0, wbi0, Classical.not_not, w32_id] at c2)
      refine ⟨fun c3 => ?_, fun c3 => ?_⟩
      · skip
        (try simp only [fiP_22, inS_22, nmS_22, psF_e, psF_q, psF_p, psF_o, psF_t, psF_v] at c3); (try simp (disch := omega) only [w32_0, wbi0, Classical.not_not, w32_id] at c3)
        refine ⟨by first | omega | exact ⟨Or.inl rfl, by omega, by omega⟩ | exact ⟨Or.inr rfl, by omega, by omega⟩, ?_⟩
        refine ⟨fun c4 => ?_, fun c4 => ?_⟩
        · skip
          (try simp only [fiP_22, inS_22, nmS_22, psF_e, psF_q, psF_p, psF_o, psF_t, psF_v] at c4); (try simp (disch := omega) only [w32_0, wbi0, Classical.not_not, w32_id] at c4)
          first
          | (have e1 : (if (psF F).2.2.2.2.1 = 1 then (0 : Int) else 1) = 0 := if_pos (show F 25 23 = 1 by omega)
             have e2 : (if (psF F).2.2.2.2.2 < a ∨ b < (psF F).2.2.2.2.2 then (1 : Int) else 0) = 0 := if_neg (show ¬ (F 25 24 < a ∨ b < F 25 24) by omega)
             have eS : inS a b (psF F) = fiP (fiP (psF F) 0 (-11)) 0 (-12) := by unfold inS; rw [e1, e2]
             have eV : inV a b (psF F) = if (inS a b (psF F)).1 = 0 then F 25 24 else a := rfl
             rw [eV, eS] at h
             first
             | (rw [if_pos (by assumption)] at h; simp only [fiP_22, psS_S]; exact h)
             | (rw [if_neg (by assumption)] at h; simp only [psS_S]; exact h))
          | (have e1 : (if (psF F).2.2.2.2.1 = 1 then (0 : Int) else 1) = 0 := if_pos (show F 25 23 = 1 by omega)
             have e2 : (if (psF F).2.2.2.2.2 < a ∨ b < (psF F).2.2.2.2.2 then (1 : Int) else 0) = 1 := if_pos (show F 25 24 < a ∨ b < F 25 24 by omega)
             have eS : inS a b (psF F) = fiP (fiP (psF F) 0 (-11)) 1 (-12) := by unfold inS; rw [e1, e2]
             have eV : inV a b (psF F) = if (inS a b (psF F)).1 = 0 then F 25 24 else a := rfl
             rw [eV, eS] at h
             first
             | (rw [if_pos (by assumption)] at h; simp only [fiP_22, psS_S]; exact h)
             | (rw [if_neg (by assumption)] at h; simp only [psS_S]; exact h))
          | (have e1 : (if (psF F).2.2.2.2.1 = 1 then (0 : Int) else 1) = 1 := if_neg (show ¬ F 25 23 = 1 by omega)
             have e2 : (if (psF F).2.2.2.2.2 < a ∨ b < (psF F).2.2.2.2.2 then (1 : Int) else 0) = 0 := if_neg (show ¬ (F 25 24 < a ∨ b < F 25 24) by omega)
             have eS : inS a b (psF F) = fiP (fiP (psF F) 1 (-11)) 0 (-12) := by unfold inS; rw [e1, e2]
             have eV : inV a b (psF F) = if (inS a b (psF F)).1 = 0 then F 25 24 else a := rfl
             rw [eV, eS] at h
             first
             | (rw [if_pos (by assumption)] at h; simp only [fiP_22, psS_S]; exact h)
             | (rw [if_neg (by assumption)] at h; simp only [psS_S]; exact h))
          | (have e1 : (if (psF F).2.2.2.2.1 = 1 then (0 : Int) else 1) = 1 := if_neg (show ¬ F 25 23 = 1 by omega)
             have e2 : (if (psF F).2.2.2.2.2 < a ∨ b < (psF F).2.2.2.2.2 then (1 : Int) else 0) = 1 := if_pos (show F 25 24 < a ∨ b < F 25 24 by omega)
             have eS : inS a b (psF F) = fiP (fiP (psF F) 1 (-11)) 1 (-12) := by unfold inS; rw [e1, e2]
             have eV : inV a b (psF F) = if (inS a b (psF F)).1 = 0 then F 25 24 else a := rfl
             rw [eV, eS] at h
             first
             | (rw [if_pos (by assumption)] at h; simp only [fiP_22, psS_S]; exact h)
             | (rw [if_neg (by assumption)] at h; simp only [psS_S]; exact h))
        · skip
          (try simp only [fiP_22, inS_22, nmS_22, psF_e, psF_q, psF_p, psF_o, psF_t, psF_v] at c4); (try simp (disch := omega) only [w32_0, wbi0, Classical.not_not, w32_id] at c4)
          first
          | (have e1 : (if (psF F).2.2.2.2.1 = 1 then (0 : Int) else 1) = 0 := if_pos (show F 25 23 = 1 by omega)
             have e2 : (if (psF F).2.2.2.2.2 < a ∨ b < (psF F).2.2.2.2.2 then (1 : Int) else 0) = 0 := if_neg (show ¬ (F 25 24 < a ∨ b < F 25 24) by omega)
             have eS : inS a b (psF F) = fiP (fiP (psF F) 0 (-11)) 0 (-12) := by unfold inS; rw [e1, e2]
             have eV : inV a b (psF F) = if (inS a b (psF F)).1 = 0 then F 25 24 else a := rfl
             rw [eV, eS] at h
             first
             | (rw [if_pos (by assumption)] at h; simp only [fiP_22, psS_S]; exact h)
             | (rw [if_neg (by assumption)] at h; simp only [psS_S]; exact h))
          | (have e1 : (if (psF F).2.2.2.2.1 = 1 then (0 : Int) else 1) = 0 := if_pos (show F 25 23 = 1 by omega)
             have e2 : (if (psF F).2.2.2.2.2 < a ∨ b < (psF F).2.2.2.2.2 then (1 : Int) else 0) = 1 := if_pos (show F 25 24 < a ∨ b < F 25 24 by omega)
             have eS : inS a b (psF F) = fiP (fiP (psF F) 0 (-11)) 1 (-12) := by unfold inS; rw [e1, e2]
             have eV : inV a b (psF F) = if (inS a b (psF F)).1 = 0 then F 25 24 else a := rfl
             rw [eV, eS] at h
             first
             | (rw [if_pos (by assumption)] at h; simp only [fiP_22, psS_S]; exact h)
             | (rw [if_neg (by assumption)] at h; simp only [psS_S]; exact h))
          | (have e1 : (if (psF F).2.2.2.2.1 = 1 then (0 : Int) else 1) = 1 := if_neg (show ¬ F 25 23 = 1 by omega)
             have e2 : (if (psF F).2.2.2.2.2 < a ∨ b < (psF F).2.2.2.2.2 then (1 : Int) else 0) = 0 := if_neg (show ¬ (F 25 24 < a ∨ b < F 25 24) by omega)
             have eS : inS a b (psF F) = fiP (fiP (psF F) 1 (-11)) 0 (-12) := by unfold inS; rw [e1, e2]
             have eV : inV a b (psF F) = if (inS a b (psF F)).1 = 0 then F 25 24 else a := rfl
             rw [eV, eS] at h
             first
             | (rw [if_pos (by assumption)] at h; simp only [fiP_22, psS_S]; exact h)
             | (rw [if_neg (by assumption)] at h; simp only [psS_S]; exact h))
          | (have e1 : (if (psF F).2.2.2.2.1 = 1 then (0 : Int) else 1) = 1 := if_neg (show ¬ F 25 23 = 1 by omega)
             have e2 : (if (psF F).2.2.2.2.2 < a ∨ b < (psF F).2.2.2.2.2 then (1 : Int) else 0) = 1 := if_pos (show F 25 24 < a ∨ b < F 25 24 by omega)
             have eS : inS a b (psF F) = fiP (fiP (psF F) 1 (-11)) 1 (-12) := by unfold inS; rw [e1, e2]
             have eV : inV a b (psF F) = if (inS a b (psF F)).1 = 0 then F 25 24 else a := rfl
             rw [eV, eS] at h
             first
             | (rw [if_pos (by assumption)] at h; simp only [fiP_22, psS_S]; exact h)
             | (rw [if_neg (by assumption)] at h; simp only [psS_S]; exact h))
      · skip
        (try simp only [fiP_22, inS_22, nmS_22, psF_e, psF_q, psF_p, psF_o, psF_t, psF_v] at c3); (try simp (disch := omega) only [w32_0, wbi0, Classical.not_not, w32_id] at c3)
        refine ⟨by first | omega | exact ⟨Or.inl rfl, by omega, by omega⟩ | exact ⟨Or.inr rfl, by omega, by omega⟩, ?_⟩
        refine ⟨fun c4 => ?_, fun c4 => ?_⟩
        · skip
          (try simp only [fiP_22, inS_22, nmS_22, psF_e, psF_q, psF_p, psF_o, psF_t, psF_v] at c4); (try simp (disch := omega) only [w32_0, wbi0, Classical.not_not, w32_id] at c4)
          first
          | (have e1 : (if (psF F).2.2.2.2.1 = 1 then (0 : Int) else 1) = 0 := if_pos (show F 25 23 = 1 by omega)
             have e2 : (if (psF F).2.2.2.2.2 < a ∨ b < (psF F).2.2.2.2.2 then (1 : Int) else 0) = 0 := if_neg (show ¬ (F 25 24 < a ∨ b < F 25 24) by omega)
             have eS : inS a b (psF F) = fiP (fiP (psF F) 0 (-11)) 0 (-12) := by unfold inS; rw [e1, e2]
             have eV : inV a b (psF F) = if (inS a b (psF F)).1 = 0 then F 25 24 else a := rfl
             rw [eV, eS] at h
             first
             | (rw [if_pos (by assumption)] at h; simp only [fiP_22, psS_S]; exact h)
             | (rw [if_neg (by assumption)] at h; simp only [psS_S]; exact h))
          | (have e1 : (if (psF F).2.2.2.2.1 = 1 then (0 : Int) else 1) = 0 := if_pos (show F 25 23 = 1 by omega)
             have e2 : (if (psF F).2.2.2.2.2 < a ∨ b < (psF F).2.2.2.2.2 then (1 : Int) else 0) = 1 := if_pos (show F 25 24 < a ∨ b < F 25 24 by omega)
             have eS : inS a b (psF F) = fiP (fiP (psF F) 0 (-11)) 1 (-12) := by unfold inS; rw [e1, e2]
             have eV : inV a b (psF F) = if (inS a b (psF F)).1 = 0 then F 25 24 else a := rfl
             rw [eV, eS] at h
             first
             | (rw [if_pos (by assumption)] at h; simp only [fiP_22, psS_S]; exact h)
             | (rw [if_neg (by assumption)] at h; simp only [psS_S]; exact h))
          | (have e1 : (if (psF F).2.2.2.2.1 = 1 then (0 : Int) else 1) = 1 := if_neg (show ¬ F 25 23 = 1 by omega)
             have e2 : (if (psF F).2.2.2.2.2 < a ∨ b < (psF F).2.2.2.2.2 then (1 : Int) else 0) = 0 := if_neg (show ¬ (F 25 24 < a ∨ b < F 25 24) by omega)
             have eS : inS a b (psF F) = fiP (fiP (psF F) 1 (-11)) 0 (-12) := by unfold inS; rw [e1, e2]
             have eV : inV a b (psF F) = if (inS a b (psF F)).1 = 0 then F 25 24 else a := rfl
             rw [eV, eS] at h
             first
             | (rw [if_pos (by assumption)] at h; simp only [fiP_22, psS_S]; exact h)
             | (rw [if_neg (by assumption)] at h; simp only [psS_S]; exact h))
          | (have e1 : (if (psF F).2.2.2.2.1 = 1 then (0 : Int) else 1) = 1 := if_neg (show ¬ F 25 23 = 1 by omega)
             have e2 : (if (psF F).2.2.2.2.2 < a ∨ b < (psF F).2.2.2.2.2 then (1 : Int) else 0) = 1 := if_pos (show F 25 24 < a ∨ b < F 25 24 by omega)
             have eS : inS a b (psF F) = fiP (fiP (psF F) 1 (-11)) 1 (-12) := by unfold inS; rw [e1, e2]
             have eV : inV a b (psF F) = if (inS a b (psF F)).1 = 0 then F 25 24 else a := rfl
             rw [eV, eS] at h
             first
             | (rw [if_pos (by assumption)] at h; simp only [fiP_22, psS_S]; exact h)
             | (rw [if_neg (by assumption)] at h; simp only [psS_S]; exact h))
        · skip
          (try simp only [fiP_22, inS_22, nmS_22, psF_e, psF_q, psF_p, psF_o, psF_t, psF_v] at c4); (try simp (disch := omega) only [w32_0, wbi0, Classical.not_not, w32_id] at c4)
          first
          | (have e1 : (if (psF F).2.2.2.2.1 = 1 then (0 : Int) else 1) = 0 := if_pos (show F 25 23 = 1 by omega)
             have e2 : (if (psF F).2.2.2.2.2 < a ∨ b < (psF F).2.2.2.2.2 then (1 : Int) else 0) = 0 := if_neg (show ¬ (F 25 24 < a ∨ b < F 25 24) by omega)
             have eS : inS a b (psF F) = fiP (fiP (psF F) 0 (-11)) 0 (-12) := by unfold inS; rw [e1, e2]
             have eV : inV a b (psF F) = if (inS a b (psF F)).1 = 0 then F 25 24 else a := rfl
             rw [eV, eS] at h
             first
             | (rw [if_pos (by assumption)] at h; simp only [fiP_22, psS_S]; exact h)
             | (rw [if_neg (by assumption)] at h; simp only [psS_S]; exact h))
          | (have e1 : (if (psF F).2.2.2.2.1 = 1 then (0 : Int) else 1) = 0 := if_pos (show F 25 23 = 1 by omega)
             have e2 : (if (psF F).2.2.2.2.2 < a ∨ b < (psF F).2.2.2.2.2 then (1 : Int) else 0) = 1 := if_pos (show F 25 24 < a ∨ b < F 25 24 by omega)
             have eS : inS a b (psF F) = fiP (fiP (psF F) 0 (-11)) 1 (-12) := by unfold inS; rw [e1, e2]
             have eV : inV a b (psF F) = if (inS a b (psF F)).1 = 0 then F 25 24 else a := rfl
             rw [eV, eS] at h
             first
             | (rw [if_pos (by assumption)] at h; simp only [fiP_22, psS_S]; exact h)
             | (rw [if_neg (by assumption)] at h; simp only [psS_S]; exact h))
          | (have e1 : (if (psF F).2.2.2.2.1 = 1 then (0 : Int) else 1) = 1 := if_neg (show ¬ F 25 23 = 1 by omega)
             have e2 : (if (psF F).2.2.2.2.2 < a ∨ b < (psF F).2.2.2.2.2 then (1 : Int) else 0) = 0 := if_neg (show ¬ (F 25 24 < a ∨ b < F 25 24) by omega)
             have eS : inS a b (psF F) = fiP (fiP (psF F) 1 (-11)) 0 (-12) := by unfold inS; rw [e1, e2]
             have eV : inV a b (psF F) = if (inS a b (psF F)).1 = 0 then F 25 24 else a := rfl
             rw [eV, eS] at h
             first
             | (rw [if_pos (by assumption)] at h; simp only [fiP_22, psS_S]; exact h)
             | (rw [if_neg (by assumption)] at h; simp only [psS_S]; exact h))
          | (have e1 : (if (psF F).2.2.2.2.1 = 1 then (0 : Int) else 1) = 1 := if_neg (show ¬ F 25 23 = 1 by omega)
             have e2 : (if (psF F).2.2.2.2.2 < a ∨ b < (psF F).2.2.2.2.2 then (1 : Int) else 0) = 1 := if_pos (show F 25 24 < a ∨ b < F 25 24 by omega)
             have eS : inS a b (psF F) = fiP (fiP (psF F) 1 (-11)) 1 (-12) := by unfold inS; rw [e1, e2]
             have eV : inV a b (psF F) = if (inS a b (psF F)).1 = 0 then F 25 24 else a := rfl
             rw [eV, eS] at h
             first
             | (rw [if_pos (by assumption)] at h; simp only [fiP_22, psS_S]; exact h)
             | (rw [if_neg (by assumption)] at h; simp only [psS_S]; exact h))
  · skip
    (try simp only [fiP_22, inS_22, nmS_22, psF_e, psF_q, psF_p, psF_o, psF_t, psF_v] at c1); (try simp (disch := omega) only [w32_0, wbi0, Classical.not_not, w32_id] at c1)
    refine ⟨by first | omega | exact ⟨Or.inl rfl, by omega, by omega⟩ | exact ⟨Or.inr rfl, by omega, by omega⟩, ?_⟩
    refine ⟨fun c2 => ?_, fun c2 => ?_⟩
    · skip
      (try simp only [fiP_22, inS_22, nmS_22, psF_e, psF_q, psF_p, psF_o, psF_t, psF_v] at c2); (try simp (disch := omega) only [w32_0, wbi0, Classical.not_not, w32_id] at c2)
      refine ⟨by first | omega | exact ⟨Or.inl rfl, by omega, by omega⟩ | exact ⟨Or.inr rfl, by omega, by omega⟩, ?_⟩
      refine ⟨fun c3 => ?_, fun c3 => ?_⟩
      · skip
        (try simp only [fiP_22, inS_22, nmS_22, psF_e, psF_q, psF_p, psF_o, psF_t, psF_v] at c3); (try simp (disch := omega) only [w32_0, wbi0, Classical.not_not, w32_id] at c3)
        first
        | (have e1 : (if (psF F).2.2.2.2.1 = 1 then (0 : Int) else 1) = 0 := if_pos (show F 25 23 = 1 by omega)
           have e2 : (if (psF F).2.2.2.2.2 < a ∨ b < (psF F).2.2.2.2.2 then (1 : Int) else 0) = 0 := if_neg (show ¬ (F 25 24 < a ∨ b < F 25 24) by omega)
           have eS : inS a b (psF F) = fiP (fiP (psF F) 0 (-11)) 0 (-12) := by unfold inS; rw [e1, e2]
           have eV : inV a b (psF F) = if (inS a b (psF F)).1 = 0 then F 25 24 else a := rfl
           rw [eV, eS] at h
           first
           | (rw [if_pos (by assumption)] at h; simp only [fiP_22, psS_S]; exact h)
           | (rw [if_neg (by assumption)] at h; simp only [psS_S]; exact h))
        | (have e1 : (if (psF F).2.2.2.2.1 = 1 then (0 : Int) else 1) = 0 := if_pos (show F 25 23 = 1 by omega)
           have e2 : (if (psF F).2.2.2.2.2 < a ∨ b < (psF F).2.2.2.2.2 then (1 : Int) else 0) = 1 := if_pos (show F 25 24 < a ∨ b < F 25 24 by omega)
           have eS : inS a b (psF F) = fiP (fiP (psF F) 0 (-11)) 1 (-12) := by unfold inS; rw [e1, e2]
           have eV : inV a b (psF F) = if (inS a b (psF F)).1 = 0 then F 25 24 else a := rfl
           rw [eV, eS] at h
           first
           | (rw [if_pos (by assumption)] at h; simp only [fiP_22, psS_S]; exact h)
           | (rw [if_neg (by assumption)] at h; simp only [psS_S]; exact h))
        | (have e1 : (if (psF F).2.2.2.2.1 = 1 then (0 : Int) else 1) = 1 := if_neg (show ¬ F 25 23 = 1 by omega)
           have e2 : (if (psF F).2.2.2.2.2 < a ∨ b < (psF F).2.2.2.2.2 then (1 : Int) else 0) = 0 := if_neg (show ¬ (F 25 24 < a ∨ b < F 25 24) by omega)
           have eS : inS a b (psF F) = fiP (fiP (psF F) 1 (-11)) 0 (-12) := by unfold inS; rw [e1, e2]
           have eV : inV a b (psF F) = if (inS a b (psF F)).1 = 0 then F 25 24 else a := rfl
           rw [eV, eS] at h
           first
           | (rw [if_pos (by assumption)] at h; simp only [fiP_22, psS_S]; exact h)
           | (rw [if_neg (by assumption)] at h; simp only [psS_S]; exact h))
        | (have e1 : (if (psF F).2.2.2.2.1 = 1 then (0 : Int) else 1) = 1 := if_neg (show ¬ F 25 23 = 1 by omega)
           have e2 : (if (psF F).2.2.2.2.2 < a ∨ b < (psF F).2.2.2.2.2 then (1 : Int) else 0) = 1 := if_pos (show F 25 24 < a ∨ b < F 25 24 by omega)
           have eS : inS a b (psF F) = fiP (fiP (psF F) 1 (-11)) 1 (-12) := by unfold inS; rw [e1, e2]
           have eV : inV a b (psF F) = if (inS a b (psF F)).1 = 0 then F 25 24 else a := rfl
           rw [eV, eS] at h
           first
           | (rw [if_pos (by assumption)] at h; simp only [fiP_22, psS_S]; exact h)
           | (rw [if_neg (by assumption)] at h; simp only [psS_S]; exact h))
      · skip
        (try simp only [fiP_22, inS_22, nmS_22, psF_e, psF_q, psF_p, psF_o, psF_t, psF_v] at c3); (try simp (disch := omega) only [w32_0, wbi0, Classical.not_not, w32_id] at c3)
        first
        | (have e1 : (if (psF F).2.2.2.2.1 = 1 then (0 : Int) else 1) = 0 := if_pos (show F 25 23 = 1 by omega)
           have e2 : (if (psF F).2.2.2.2.2 < a ∨ b < (psF F).2.2.2.2.2 then (1 : Int) else 0) = 0 := if_neg (show ¬ (F 25 24 < a ∨ b < F 25 24) by omega)
           have eS : inS a b (psF F) = fiP (fiP (psF F) 0 (-11)) 0 (-12) := by unfold inS; rw [e1, e2]
           have eV : inV a b (psF F) = if (inS a b (psF F)).1 = 0 then F 25 24 else a := rfl
           rw [eV, eS] at h
           first
           | (rw [if_pos (by assumption)] at h; simp only [fiP_22, psS_S]; exact h)
           | (rw [if_neg (by assumption)] at h; simp only [psS_S]; exact h))
        | (have e1 : (if (psF F).2.2.2.2.1 = 1 then (0 : Int) else 1) = 0 := if_pos (show F 25 23 = 1 by omega)
           have e2 : (if (psF F).2.2.2.2.2 < a ∨ b < (psF F).2.2.2.2.2 then (1 : Int) else 0) = 1 := if_pos (show F 25 24 < a ∨ b < F 25 24 by omega)
           have eS : inS a b (psF F) = fiP (fiP (psF F) 0 (-11)) 1 (-12) := by unfold inS; rw [e1, e2]
           have eV : inV a b (psF F) = if (inS a b (psF F)).1 = 0 then F 25 24 else a := rfl
           rw [eV, eS] at h
           first
           | (rw [if_pos (by assumption)] at h; simp only [fiP_22, psS_S]; exact h)
           | (rw [if_neg (by assumption)] at h; simp only [psS_S]; exact h))
        | (have e1 : (if (psF F).2.2.2.2.1 = 1 then (0 : Int) else 1) = 1 := if_neg (show ¬ F 25 23 = 1 by omega)
           have e2 : (if (psF F).2.2.2.2.2 < a ∨ b < (psF F).2.2.2.2.2 then (1 : Int) else 0) = 0 := if_neg (show ¬ (F 25 24 < a ∨ b < F 25 24) by omega)
           have eS : inS a b (psF F) = fiP (fiP (psF F) 1 (-11)) 0 (-12) := by unfold inS; rw [e1, e2]
           have eV : inV a b (psF F) = if (inS a b (psF F)).1 = 0 then F 25 24 else a := rfl
           rw [eV, eS] at h
           first
           | (rw [if_pos (by assumption)] at h; simp only [fiP_22, psS_S]; exact h)
           | (rw [if_neg (by assumption)] at h; simp only [psS_S]; exact h))
        | (have e1 : (if (psF F).2.2.2.2.1 = 1 then (0 : Int) else 1) = 1 := if_neg (show ¬ F 25 23 = 1 by omega)
           have e2 : (if (psF F).2.2.2.2.2 < a ∨ b < (psF F).2.2.2.2.2 then (1 : Int) else 0) = 1 := if_pos (show F 25 24 < a ∨ b < F 25 24 by omega)
           have eS : inS a b (psF F) = fiP (fiP (psF F) 1 (-11)) 1 (-12) := by unfold inS; rw [e1, e2]
           have eV : inV a b (psF F) = if (inS a b (psF F)).1 = 0 then F 25 24 else a := rfl
           rw [eV, eS] at h
           first
           | (rw [if_pos (by assumption)] at h; simp only [fiP_22, psS_S]; exact h)
           | (rw [if_neg (by assumption)] at h; simp only [psS_S]; exact h))
    · skip
      (try simp only [fiP_22, inS_22, nmS_22, psF_e, psF_q, psF_p, psF_o, psF_t, psF_v] at c2); (try simp (disch := omega) only [w32_0, wbi0, Classical.not_not, w32_id] at c2)
      refine ⟨fun c3 => ?_, fun c3 => ?_⟩
      · skip
        (try simp only [fiP_22, inS_22, nmS_22, psF_e, psF_q, psF_p, psF_o, psF_t, psF_v] at c3); (try simp (disch := omega) only [w32_0, wbi0, Classical.not_not, w32_id] at c3)
        refine ⟨by first | omega | exact ⟨Or.inl rfl, by omega, by omega⟩ | exact ⟨Or.inr rfl, by omega, by omega⟩, ?_⟩
        refine ⟨fun c4 => ?_, fun c4 => ?_⟩
        · skip
          (try simp only [fiP_22, inS_22, nmS_22, psF_e, psF_q, psF_p, psF_o, psF_t, psF_v] at c4); (try simp (disch := omega) only [w32_0, wbi0, Classical.not_not, w32_id] at c4)
          first
          | (have e1 : (if (psF F).2.2.2.2.1 = 1 then (0 : Int) else 1) = 0 := if_pos (show F 25 23 = 1 by omega)
             have e2 : (if (psF F).2.2.2.2.2 < a ∨ b < (psF F).2.2.2.2.2 then (1 : Int) else 0) = 0 := if_neg (show ¬ (F 25 24 < a ∨ b < F 25 24) by omega)
             have eS : inS a b (psF F) = fiP (fiP (psF F) 0 (-11)) 0 (-12) := by unfold inS; rw [e1, e2]
             have eV : inV a b (psF F) = if (inS a b (psF F)).1 = 0 then F 25 24 else a := rfl
             rw [eV, eS] at h
             first
             | (rw [if_pos (by assumption)] at h; simp only [fiP_22, psS_S]; exact h)
             | (rw [if_neg (by assumption)] at h; simp only [psS_S]; exact h))
          | (have e1 : (if (psF F).2.2.2.2.1 = 1 then (0 : Int) else 1) = 0 := if_pos (show F 25 23 = 1 by omega)
             have e2 : (if (psF F).2.2.2.2.2 < a ∨ b < (psF F).2.2.2.2.2 then (1 : Int) else 0) = 1 := if_pos (show F 25 24 < a ∨ b < F 25 24 by omega)
             have eS : inS a b (psF F) = fiP (fiP (psF F) 0 (-11)) 1 (-12) := by unfold inS; rw [e1, e2]
             have eV : inV a b (psF F) = if (inS a b (psF F)).1 = 0 then F 25 24 else a := rfl
             rw [eV, eS] at h
             first
             | (rw [if_pos (by assumption)] at h; simp only [fiP_22, psS_S]; exact h)
             | (rw [if_neg (by assumption)] at h; simp only [psS_S]; exact h))
          | (have e1 : (if (psF F).2.2.2.2.1 = 1 then (0 : Int) else 1) = 1 := if_neg (show ¬ F 25 23 = 1 by omega)
             have e2 : (if (psF F).2.2.2.2.2 < a ∨ b < (psF F).2.2.2.2.2 then (1 : Int) else 0) = 0 := if_neg (show ¬ (F 25 24 < a ∨ b < F 25 24) by omega)
             have eS : inS a b (psF F) = fiP (fiP (psF F) 1 (-11)) 0 (-12) := by unfold inS; rw [e1, e2]
             have eV : inV a b (psF F) = if (inS a b (psF F)).1 = 0 then F 25 24 else a := rfl
             rw [eV, eS] at h
             first
             | (rw [if_pos (by assumption)] at h; simp only [fiP_22, psS_S]; exact h)
             | (rw [if_neg (by assumption)] at h; simp only [psS_S]; exact h))
          | (have e1 : (if (psF F).2.2.2.2.1 = 1 then (0 : Int) else 1) = 1 := if_neg (show ¬ F 25 23 = 1 by omega)
             have e2 : (if (psF F).2.2.2.2.2 < a ∨ b < (psF F).2.2.2.2.2 then (1 : Int) else 0) = 1 := if_pos (show F 25 24 < a ∨ b < F 25 24 by omega)
             have eS : inS a b (psF F) = fiP (fiP (psF F) 1 (-11)) 1 (-12) := by unfold inS; rw [e1, e2]
             have eV : inV a b (psF F) = if (inS a b (psF F)).1 = 0 then F 25 24 else a := rfl
             rw [eV, eS] at h
             first
             | (rw [if_pos (by assumption)] at h; simp only [fiP_22, psS_S]; exact h)
             | (rw [if_neg (by assumption)] at h; simp only [psS_S]; exact h))
        · skip
          (try simp only [fiP_22, inS_22, nmS_22, psF_e, psF_q, psF_p, psF_o, psF_t, psF_v] at c4); (try simp (disch := omega) only [w32_0, wbi0, Classical.not_not, w32_id] at c4)
          first
          | (have e1 : (if (psF F).2.2.2.2.1 = 1 then (0 : Int) else 1) = 0 := if_pos (show F 25 23 = 1 by omega)
             have e2 : (if (psF F).2.2.2.2.2 < a ∨ b < (psF F).2.2.2.2.2 then (1 : Int) else 0) = 0 := if_neg (show ¬ (F 25 24 < a ∨ b < F 25 24) by omega)
             have eS : inS a b (psF F) = fiP (fiP (psF F) 0 (-11)) 0 (-12) := by unfold inS; rw [e1, e2]
             have eV : inV a b (psF F) = if (inS a b (psF F)).1 = 0 then F 25 24 else a := rfl
             rw [eV, eS] at h
             first
             | (rw [if_pos (by assumption)] at h; simp only [fiP_22, psS_S]; exact h)
             | (rw [if_neg (by assumption)] at h; simp only [psS_S]; exact h))
          | (have e1 : (if (psF F).2.2.2.2.1 = 1 then (0 : Int) else 1) = 0 := if_pos (show F 25 23 = 1 by omega)
             have e2 : (if (psF F).2.2.2.2.2 < a ∨ b < (psF F).2.2.2.2.2 then (1 : Int) else 0) = 1 := if_pos (show F 25 24 < a ∨ b < F 25 24 by omega)
             have eS : inS a b (psF F) = fiP (fiP (psF F) 0 (-11)) 1 (-12) := by unfold inS; rw [e1, e2]
             have eV : inV a b (psF F) = if (inS a b (psF F)).1 = 0 then F 25 24 else a := rfl
             rw [eV, eS] at h
             first
             | (rw [if_pos (by assumption)] at h; simp only [fiP_22, psS_S]; exact h)
             | (rw [if_neg (by assumption)] at h; simp only [psS_S]; exact h))
          | (have e1 : (if (psF F).2.2.2.2.1 = 1 then (0 : Int) else 1) = 1 := if_neg (show ¬ F 25 23 = 1 by omega)
             have e2 : (if (psF F).2.2.2.2.2 < a ∨ b < (psF F).2.2.2.2.2 then (1 : Int) else 0) = 0 := if_neg (show ¬ (F 25 24 < a ∨ b < F 25 24) by omega)
             have eS : inS a b (psF F) = fiP (fiP (psF F) 1 (-11)) 0 (-12) := by unfold inS; rw [e1, e2]
             have eV : inV a b (psF F) = if (inS a b (psF F)).1 = 0 then F 25 24 else a := rfl
             rw [eV, eS] at h
             first
             | (rw [if_pos (by assumption)] at h; simp only [fiP_22, psS_S]; exact h)
             | (rw [if_neg (by assumption)] at h; simp only [psS_S]; exact h))
          | (have e1 : (if (psF F).2.2.2.2.1 = 1 then (0 : Int) else 1) = 1 := if_neg (show ¬ F 25 23 = 1 by omega)
             have e2 : (if (psF F).2.2.2.2.2 < a ∨ b < (psF F).2.2.2.2.2 then (1 : Int) else 0) = 1 := if_pos (show F 25 24 < a ∨ b < F 25 24 by omega)
             have eS : inS a b (psF F) = fiP (fiP (psF F) 1 (-11)) 1 (-12) := by unfold inS; rw [e1, e2]
             have eV : inV a b (psF F) = if (inS a b (psF F)).1 = 0 then F 25 24 else a := rfl
             rw [eV, eS] at h
             first
             | (rw [if_pos (by assumption)] at h; simp only [fiP_22, psS_S]; exact h)
             | (rw [if_neg (by assumption)] at h; simp only [psS_S]; exact h))
      · skip
        (try simp only [fiP_22, inS_22, nmS_22, psF_e, psF_q, psF_p, psF_o, psF_t, psF_v] at c3); (try simp (disch := omega) only [w32_0, wbi0, Classical.not_not, w32_id] at c3)
        refine ⟨by first | omega | exact ⟨Or.inl rfl, by omega, by omega⟩ | exact ⟨Or.inr rfl, by omega, by omega⟩, ?_⟩
        refine ⟨fun c4 => ?_, fun c4 => ?_⟩
        · skip
          (try simp only [fiP_22, inS_22, nmS_22, psF_e, psF_q, psF_p, psF_o, psF_t, psF_v] at c4); (try simp (disch := omega) only [w32_0, wbi0, Classical.not_not, w32_id] at c4)
          first
          | (have e1 : (if (psF F).2.2.2.2.1 = 1 then (0 : Int) else 1) = 0 := if_pos (show F 25 23 = 1 by omega)
             have e2 : (if (psF F).2.2.2.2.2 < a ∨ b < (psF F).2.2.2.2.2 then (1 : Int) else 0) = 0 := if_neg (show ¬ (F 25 24 < a ∨ b < F 25 24) by omega)
             have eS : inS a b (psF F) = fiP (fiP (psF F) 0 (-11)) 0 (-12) := by unfold inS; rw [e1, e2]
             have eV : inV a b (psF F) = if (inS a b (psF F)).1 = 0 then F 25 24 else a := rfl
             rw [eV, eS] at h
             first
             | (rw [if_pos (by assumption)] at h; simp only [fiP_22, psS_S]; exact h)
             | (rw [if_neg (by assumption)] at h; simp only [psS_S]; exact h))
          | (have e1 : (if (psF F).2.2.2.2.1 = 1 then (0 : Int) else 1) = 0 := if_pos (show F 25 23 = 1 by omega)
             have e2 : (if (psF F).2.2.2.2.2 < a ∨ b < (psF F).2.2.2.2.2 then (1 : Int) else 0) = 1 := if_pos (show F 25 24 < a ∨ b < F 25 24 by omega)
             have eS : inS a b (psF F) = fiP (fiP (psF F) 0 (-11)) 1 (-12) := by unfold inS; rw [e1, e2]
             have eV : inV a b (psF F) = if (inS a b (psF F)).1 = 0 then F 25 24 else a := rfl
             rw [eV, eS] at h
             first
             | (rw [if_pos (by assumption)] at h; simp only [fiP_22, psS_S]; exact h)
             | (rw [if_neg (by assumption)] at h; simp only [psS_S]; exact h))
          | (have e1 : (if (psF F).2.2.2.2.1 = 1 then (0 : Int) else 1) = 1 := if_neg (show ¬ F 25 23 = 1 by omega)
             have e2 : (if (psF F).2.2.2.2.2 < a ∨ b < (psF F).2.2.2.2.2 then (1 : Int) else 0) = 0 := if_neg (show ¬ (F 25 24 < a ∨ b < F 25 24) by omega)
             have eS : inS a b (psF F) = fiP (fiP (psF F) 1 (-11)) 0 (-12) := by unfold inS; rw [e1, e2]
             have eV : inV a b (psF F) = if (inS a b (psF F)).1 = 0 then F 25 24 else a := rfl
             rw [eV, eS] at h
             first
             | (rw [if_pos (by assumption)] at h; simp only [fiP_22, psS_S]; exact h)
             | (rw [if_neg (by assumption)] at h; simp only [psS_S]; exact h))
          | (have e1 : (if (psF F).2.2.2.2.1 = 1 then (0 : Int) else 1) = 1 := if_neg (show ¬ F 25 23 = 1 by omega)
             have e2 : (if (psF F).2.2.2.2.2 < a ∨ b < (psF F).2.2.2.2.2 then (1 : Int) else 0) = 1 := if_pos (show F 25 24 < a ∨ b < F 25 24 by omega)
             have eS : inS a b (psF F) = fiP (fiP (psF F) 1 (-11)) 1 (-12) := by unfold inS; rw [e1, e2]
             have eV : inV a b (psF F) = if (inS a b (psF F)).1 = 0 then F 25 24 else a := rfl
             rw [eV, eS] at h
             first
             | (rw [if_pos (by assumption)] at h; simp only [fiP_22, psS_S]; exact h)
             | (rw [if_neg (by assumption)] at h; simp only [psS_S]; exact h))
        · skip
          (try simp only [fiP_22, inS_22, nmS_22, psF_e, psF_q, psF_p, psF_o, psF_t, psF_v] at c4); (try simp (disch := omega) only [w32_0, wbi0, Classical.not_not, w32_id] at c4)
          first
          | (have e1 : (if (psF F).2.2.2.2.1 = 1 then (0 : Int) else 1) = 0 := if_pos (show F 25 23 = 1 by omega)
             have e2 : (if (psF F).2.2.2.2.2 < a ∨ b < (psF F).2.2.2.2.2 then (1 : Int) else 0) = 0 := if_neg (show ¬ (F 25 24 < a ∨ b < F 25 24) by omega)
             have eS : inS a b (psF F) = fiP (fiP (psF F) 0 (-11)) 0 (-12) := by unfold inS; rw [e1, e2]
             have eV : inV a b (psF F) = if (inS a b (psF F)).1 = 0 then F 25 24 else a := rfl
             rw [eV, eS] at h
             first
             | (rw [if_pos (by assumption)] at h; simp only [fiP_22, psS_S]; exact h)
             | (rw [if_neg (by assumption)] at h; simp only [psS_S]; exact h))
          | (have e1 : (if (psF F).2.2.2.2.1 = 1 then (0 : Int) else 1) = 0 := if_pos (show F 25 23 = 1 by omega)
             have e2 : (if (psF F).2.2.2.2.2 < a ∨ b < (psF F).2.2.2.2.2 then (1 : Int) else 0) = 1 := if_pos (show F 25 24 < a ∨ b < F 25 24 by omega)
             have eS : inS a b (psF F) = fiP (fiP (psF F) 0 (-11)) 1 (-12) := by unfold inS; rw [e1, e2]
             have eV : inV a b (psF F) = if (inS a b (psF F)).1 = 0 then F 25 24 else a := rfl
             rw [eV, eS] at h
             first
             | (rw [if_pos (by assumption)] at h; simp only [fiP_22, psS_S]; exact h)
             | (rw [if_neg (by assumption)] at h; simp only [psS_S]; exact h))
          | (have e1 : (if (psF F).2.2.2.2.1 = 1 then (0 : Int) else 1) = 1 := if_neg (show ¬ F 25 23 = 1 by omega)
             have e2 : (if (psF F).2.2.2.2.2 < a ∨ b < (psF F).2.2.2.2.2 then (1 : Int) else 0) = 0 := if_neg (show ¬ (F 25 24 < a ∨ b < F 25 24) by omega)
             have eS : inS a b (psF F) = fiP (fiP (psF F) 1 (-11)) 0 (-12) := by unfold inS; rw [e1, e2]
             have eV : inV a b (psF F) = if (inS a b (psF F)).1 = 0 then F 25 24 else a := rfl
             rw [eV, eS] at h
             first
             | (rw [if_pos (by assumption)] at h; simp only [fiP_22, psS_S]; exact h)
             | (rw [if_neg (by assumption)] at h; simp only [psS_S]; exact h))
          | (have e1 : (if (psF F).2.2.2.2.1 = 1 then (0 : Int) else 1) = 1 := if_neg (show ¬ F 25 23 = 1 by omega)
             have e2 : (if (psF F).2.2.2.2.2 < a ∨ b < (psF F).2.2.2.2.2 then (1 : Int) else 0) = 1 := if_pos (show F 25 24 < a ∨ b < F 25 24 by omega)
             have eS : inS a b (psF F) = fiP (fiP (psF F) 1 (-11)) 1 (-12) := by unfold inS; rw [e1, e2]
             have eV : inV a b (psF F) = if (inS a b (psF F)).1 = 0 then F 25 24 else a := rfl
             rw [eV, eS] at h
             first
             | (rw [if_pos (by assumption)] at h; simp only [fiP_22, psS_S]; exact h)
             | (rw [if_neg (by assumption)] at h; simp only [psS_S]; exact h))
theorem qtX9_integerHere (l : Launch) : am_CT l layM qeX9_integerHere := am_met0 rfl (by decide +kernel) rfl rfl rfl rfl rfl (fun _ => rfl) rfl (qzX9_integerHere l) (fun k e1 h => (qyX9_integerHere l k e1 h).2) (fun as F A K h => by
  replace h : qsX9_integerHere as F A K := h
  unfold qsX9_integerHere at h
  split at h
  · rename_i o a b
    refine ⟨by first | exact Nat.le_of_ble_eq_true rfl | simp [am_fl, am_cat], ?_⟩
    replace h := am_cond2 h
    rcases h with ⟨hb, h⟩ | h
    · skip
      have hb0 := hb
      have hb0 := am_bq hb0
      subst hb0
      exact am_way_line (qvX9_integerHere_25 a b F A K h)
    exact h.elim
  · exact h.elim)
def qkX9_integer : Nat → Option CI := fun pc => cond (Nat.ble 13 pc) none (cond (Nat.ble 6 pc) (cond (Nat.ble 8 pc) (cond (Nat.beq pc 8) (some (.invokevirtual 248, 11, [])) (cond (Nat.beq pc 11) (some (.iload_n 3, 12, [])) (cond (Nat.beq pc 12) (some (.ireturn, 13, [])) (none)))) (cond (Nat.beq pc 6) (some (.istore_n 3, 7, [])) (cond (Nat.beq pc 7) (some (.aload_n 0, 8, [])) (none)))) (cond (Nat.ble 2 pc) (cond (Nat.beq pc 2) (some (.iload_n 2, 3, [])) (cond (Nat.beq pc 3) (some (.invokevirtual 245, 6, [])) (none))) (cond (Nat.beq pc 0) (some (.aload_n 0, 1, [])) (cond (Nat.beq pc 1) (some (.iload_n 1, 2, [])) (none)))))
theorem qkX9_integer_ok : ∀ pc i nx ts, qkX9_integer pc = some (i, nx, ts) → am_cok cX9_integer pc (i, nx, ts) = true := fun pc i nx ts h => am_tok_ok (n := 13) (by decide +kernel) (fun pc h => by show cond (Nat.ble 13 pc) _ _ = _; rw [Nat.ble_eq_true_of_le h]; rfl) h
def qaX9_integer : Nat → Option CE := fun k => cond (Nat.beq k 245) (some qeX9_integerHere) (cond (Nat.beq k 248) (some qeX9_goOn) (none))
theorem qyX9_integer (l : Launch) (hst : l.stackTraces = false) : ∀ k e1, qaX9_integer k = some e1 → am_cal l layM RX9 13 k e1 ∧ True := q_cons ⟨am_calV (ci := 9) (qtX9_integerHere l) qbX9_integerHere (by decide) rfl (am_tb_at 1588 (by decide +kernel) rfl), trivial⟩ (q_cons ⟨am_calV (ci := 9) (qtX9_goOn l hst) qbX9_goOn (by decide) rfl (am_tb_at 1576 (by decide +kernel) rfl), trivial⟩ (q_nil))
def qxX9_integer : CX := (qkX9_integer, layM, qfX9, qaX9_integer, qcX9, qlX9, qmX9, (some .int), true, none, 0, none, fun _ => none)
theorem qzX9_integer (l : Launch) (hst : l.stackTraces = false) : am_sta l qxX9_integer RX9 13 cX9_integer := ⟨qkX9_integer_ok, layM_ok, qfX9_ok, qcX9_ok, qlX9_ok, am_mthP qmX9_ok (by decide), fun k e1 h => (qyX9_integer l hst k e1 h).1⟩
def qsX9_integer : SP := fun as F A K => match as with
  | [.inr (.inr o), .inl a, .inl b] => cond (Nat.beq o 25) (((byO (A 26) ∧ (0 ≤ (F 25 20) ∧ (F 25 20) ≤ 800) ∧ psOK ((F 25 20)) (psF F)) ∧ (-2147483648 ≤ a ∧ a < 2147483648) ∧ (-2147483648 ≤ b ∧ b < 2147483648)) ∧ (K (some (some (vI (inV a b (psF F))))) (psS F (goM (A 26) ((F 25 20)) (inS a b (psF F)))) A)) (False)
  | _ => False
def qeX9_integer : CE := (yX9_integer, cX9_integer, 4, (some .int), 2, some 9, 1, [], 0, 13, qsX9_integer)
theorem qbX9_integer : am_mb qeX9_integer := ⟨am_tb_at 1595 (by decide +kernel) rfl, am_tb_at 124 (by decide +kernel) rfl, ⟨by decide, by decide, by decide +kernel⟩, by decide, by decide, am_tb_at 1594 (by decide +kernel) rfl, am_tb_at 59 (by decide +kernel) rfl, _, _, rfl⟩
set_option maxRecDepth 20000 in
theorem qvX9_integer_25 (a : Int) (b : Int) (F : FF) (A : AA) (K : KK) (h : ((byO (A 26) ∧ (0 ≤ (F 25 20) ∧ (F 25 20) ≤ 800) ∧ psOK ((F 25 20)) (psF F)) ∧ (-2147483648 ≤ a ∧ a < 2147483648) ∧ (-2147483648 ≤ b ∧ b < 2147483648)) ∧ (K (some (some (vI (inV a b (psF F))))) (psS F (goM (A 26) ((F 25 20)) (inS a b (psF F)))) A)) : am_line qxX9_integer 10 [vR 25, vI a, vI b] 4 F A K := by
  show am_stp qxX9_integer (am_run qxX9_integer (fun _ => none) (fun _ _ _ _ _ _ => False) K 10) K 0 [some (vR 25), some (vI a), some (vI b), none] [] F A 0
  obtain ⟨hp, h⟩ := h
  obtain ⟨⟨pt, pn, pk⟩, pa, pb⟩ := hp

  show (((0 ≤ (F 25 20) ∧ (F 25 20) ≤ 800) ∧ psOK ((F 25 20)) (psF F)) ∧ (-2147483648 ≤ a ∧ a < 2147483648) ∧ (-2147483648 ≤ b ∧ b < 2147483648)) ∧ ((byO (A 26) ∧ (0 ≤ (F 25 20) ∧ (F 25 20) ≤ 800) ∧ psOK ((F 25 20)) ((inS a b (psF F)))) ∧ (K (some (some (vI (inV a b (psF F))))) (psS (psS F (inS a b (psF F))) (goM (A 26) ((F 25 20)) ((inS a b (psF F))))) A))
  refine ⟨by exact ⟨⟨pn, pk⟩, pa, pb⟩, ?_⟩
  refine ⟨by exact ⟨pt, pn, inS_ok pk pn.2⟩, ?_⟩
  rw [psS_S]; exact h
theorem qtX9_integer (l : Launch) (hst : l.stackTraces = false) : am_CT l layM qeX9_integer := am_met1 hst rfl (by decide +kernel) rfl rfl rfl rfl rfl (fun _ _ h => by cases h) rfl (qzX9_integer l hst) (fun as F A K h => by
  replace h : qsX9_integer as F A K := h
  unfold qsX9_integer at h
  split at h
  · rename_i o a b
    refine ⟨by first | exact Nat.le_of_ble_eq_true rfl | simp [am_fl, am_cat], ?_⟩
    replace h := am_cond2 h
    rcases h with ⟨hb, h⟩ | h
    · skip
      have hb0 := hb
      have hb0 := am_bq hb0
      subst hb0
      exact am_way_line (qvX9_integer_25 a b F A K h)
    exact h.elim
  · exact h.elim)
