def qkX8_isTangent : Nat → Option CI := fun pc => cond (Nat.ble 27 pc) none (cond (Nat.ble 11 pc) (cond (Nat.ble 19 pc) (cond (Nat.ble 23 pc) (cond (Nat.beq pc 23) (some (.invokevirtual 238, 26, [])) (cond (Nat.beq pc 26) (some (.ireturn, 27, [])) (none))) (cond (Nat.beq pc 19) (some (.aload_n 0, 20, [])) (cond (Nat.beq pc 20) (some (.getfield 43, 23, [])) (none)))) (cond (Nat.ble 15 pc) (cond (Nat.beq pc 15) (some (.iload_n 2, 16, [])) (cond (Nat.beq pc 16) (some (.invokevirtual 199, 19, [])) (none))) (cond (Nat.beq pc 11) (some (.getfield 10, 14, [])) (cond (Nat.beq pc 14) (some (.iload_n 1, 15, [])) (none))))) (cond (Nat.ble 3 pc) (cond (Nat.ble 7 pc) (cond (Nat.beq pc 7) (some (.getfield 43, 10, [])) (cond (Nat.beq pc 10) (some (.aload_n 0, 11, [])) (none))) (cond (Nat.beq pc 3) (some (.invokevirtual 191, 6, [])) (cond (Nat.beq pc 6) (some (.aload_n 0, 7, [])) (none)))) (cond (Nat.beq pc 0) (some (.aload_n 0, 1, [])) (cond (Nat.beq pc 1) (some (.iload_n 1, 2, [])) (cond (Nat.beq pc 2) (some (.iload_n 2, 3, [])) (none))))))
theorem qkX8_isTangent_ok : ∀ pc i nx ts, qkX8_isTangent pc = some (i, nx, ts) → am_cok cX8_isTangent pc (i, nx, ts) = true := fun pc i nx ts h => am_tok_ok (n := 27) (by decide +kernel) (fun pc h => by show cond (Nat.ble 27 pc) _ _ = _; rw [Nat.ble_eq_true_of_le h]; rfl) h
def qaX8_isTangent : Nat → Option CE := fun k => cond (Nat.beq k 191) (some qeX8_requireCurveAndLine) (cond (Nat.beq k 199) (some qeX5_begin) (cond (Nat.beq k 238) (some qeX5_hasDoubleRoot) (none)))
theorem qyX8_isTangent (l : Launch) (hst : l.stackTraces = false) : ∀ k e1, qaX8_isTangent k = some e1 → am_cal l layX RX8 11 k e1 ∧ True := q_cons ⟨am_calV (ci := 8) (qtX8_requireCurveAndLine l hst) qbX8_requireCurveAndLine (by decide) rfl (am_tb_at 1099 (by decide +kernel) rfl), trivial⟩ (q_cons ⟨am_calV (ci := 5) (qtX5_begin l) qbX5_begin (by decide) rfl (am_tb_at 942 (by decide +kernel) rfl), trivial⟩ (q_cons ⟨am_calV (ci := 5) (qtX5_hasDoubleRoot l) qbX5_hasDoubleRoot (by decide) rfl (am_tb_at 1178 (by decide +kernel) rfl), trivial⟩ (q_nil)))
def qxX8_isTangent : CX := (qkX8_isTangent, layX, qfX8, qaX8_isTangent, qcX8, qlX8, qmX8, (some .boolean), true, none, 2, none, fun _ => none)
theorem qzX8_isTangent (l : Launch) (hst : l.stackTraces = false) : am_sta l qxX8_isTangent RX8 11 cX8_isTangent := ⟨qkX8_isTangent_ok, layX_ok, qfX8_ok, qcX8_ok, qlX8_ok, am_mthP qmX8_ok (by decide), fun k e1 h => (qyX8_isTangent l hst k e1 h).1⟩
def qsX8_isTangent : SP := fun as F A K => match as with
  | [.inr (.inr o), .inl c, .inl l] => cond (Nat.beq o 0) ((fgOK (A 2) ∧ (-2147483648 ≤ c ∧ c < 2147483648) ∧ (-2147483648 ≤ l ∧ l < 2147483648)) ∧ (((0 ≤ c ∧ c < A 2 0) ∧ 0 ≤ l ∧ l < A 2 1 → (∀ (G_1 : FF) (B_1 : AA), (qrP F G_1 A B_1) → (K (some (some (vI (bi (dblP (cfL (A 2) c l) (A 2 (18 + c) - 1)))))) G_1 B_1))) ∧ (¬ ((0 ≤ c ∧ c < A 2 0) ∧ 0 ≤ l ∧ l < A 2 1) → (K none F A)))) (False)
  | _ => False
def qeX8_isTangent : CE := (yX8_isTangent, cX8_isTangent, 3, (some .boolean), 2, some 8, 1, none, 2, 11, qsX8_isTangent)
theorem qbX8_isTangent : am_mb qeX8_isTangent := ⟨am_tb_at 1177 (by decide +kernel) rfl, am_tb_at 35 (by decide +kernel) rfl, ⟨by decide, by decide, by decide +kernel⟩, by decide, am_tb_at 1175 (by decide +kernel) rfl, am_tb_at 1176 (by decide +kernel) rfl, _, _, rfl⟩
set_option maxRecDepth 20000 in
theorem qvX8_isTangent_0 (c : Int) (l : Int) (F : FF) (A : AA) (K : KK) (h : (fgOK (A 2) ∧ (-2147483648 ≤ c ∧ c < 2147483648) ∧ (-2147483648 ≤ l ∧ l < 2147483648)) ∧ (((0 ≤ c ∧ c < A 2 0) ∧ 0 ≤ l ∧ l < A 2 1 → (∀ (G_1 : FF) (B_1 : AA), (qrP F G_1 A B_1) → (K (some (some (vI (bi (dblP (cfL (A 2) c l) (A 2 (18 + c) - 1)))))) G_1 B_1))) ∧ (¬ ((0 ≤ c ∧ c < A 2 0) ∧ 0 ≤ l ∧ l < A 2 1) → (K none F A)))) : am_line qxX8_isTangent 16 [vR 0, vI c, vI l] 3 F A K := by
  show am_stp qxX8_isTangent (am_run qxX8_isTangent (fun _ => none) (fun _ _ _ _ _ _ => False) K 16) K 0 [some (vR 0), some (vI c), some (vI l)] [] F A 0
  obtain ⟨hp, h⟩ := h
  have p1 := hp.1
  have p2' := hp.2
  have q1 := p1.1.1
  have q2 := p1.1.2
  show ((0 ≤ A 2 0 ∧ A 2 0 ≤ 8) ∧ (0 ≤ A 2 1 ∧ A 2 1 ≤ 6) ∧ (-2147483648 ≤ c ∧ c < 2147483648) ∧ (-2147483648 ≤ l ∧ l < 2147483648)) ∧ (((0 ≤ c ∧ c < A 2 0) ∧ 0 ≤ l ∧ l < A 2 1 → ((0 ≤ c ∧ c < 8 ∧ 0 ≤ l ∧ l < 6 ∧ 1 ≤ A 2 (18 + c) ∧ A 2 (18 + c) ≤ 4) ∧ ((1 ≤ (A 2 (18 + c) - 1) ∧ (A 2 (18 + c) - 1) ≤ 3) ∧ (((bi (dblP ((setR A 15 0 (A 2 (18 + c)) (fun jj => cfX (A 2) c l jj)) 15) ((A 2 (18 + c) - 1)))) = 0 ∨ (bi (dblP ((setR A 15 0 (A 2 (18 + c)) (fun jj => cfX (A 2) c l jj)) 15) ((A 2 (18 + c) - 1)))) = 1) ∧ (K (some (some (vI (bi (dblP ((setR A 15 0 (A 2 (18 + c)) (fun jj => cfX (A 2) c l jj)) 15) ((A 2 (18 + c) - 1))))))) (upF F 14 4 (A 2 (18 + c) - 1)) (setR A 15 0 (A 2 (18 + c)) (fun jj => cfX (A 2) c l jj))))))) ∧ (¬ ((0 ≤ c ∧ c < A 2 0) ∧ 0 ≤ l ∧ l < A 2 1) → (K none F A)))
  refine ⟨by exact ⟨p1.1.1, p1.1.2, hp.2⟩, ?_⟩
  refine ⟨fun c1 => ?_, fun c1 => ?_⟩
  · skip
    skip
    refine ⟨by (have q3 := (p1.2.2.1 c c1.1.1 c1.1.2).1; first | exact bi_01 | omega), ?_⟩
    refine ⟨by (have q3 := (p1.2.2.1 c c1.1.1 c1.1.2).1; first | exact bi_01 | omega), ?_⟩
    refine ⟨by (have q3 := (p1.2.2.1 c c1.1.1 c1.1.2).1; first | exact bi_01 | omega), ?_⟩
    have q3 := (p1.2.2.1 c c1.1.1 c1.1.2).1
    have s0 : ∀ k, 0 ≤ k → k < A 2 (18 + c) → setR A 15 0 (A 2 (18 + c)) (fun jj => cfX (A 2) c l jj) 15 k = cfX (A 2) c l k := fun k k0 k1 => by rw [setR_in k0 (by omega), Int.sub_zero]
    have qb : qrP F (upF F 14 4 (A 2 (18 + c) - 1)) A (setR A 15 0 (A 2 (18 + c)) (fun jj => cfX (A 2) c l jj)) := qrP_of (fun a b hab => upF_o (by omega)) (fun b i hb => setR_o (by omega))
    exact K_eq (h.1 c1 _ _ qb) (bi_c (dblP_c (fun i i0 i1 => (s0 i i0 (by omega)).symm) (by omega)))
  · skip
    skip
    exact h.2 c1
theorem qtX8_isTangent (l : Launch) (hst : l.stackTraces = false) : am_CT l layX qeX8_isTangent := am_met1 hst rfl (by decide +kernel) rfl rfl rfl rfl rfl (fun _ _ h => by cases h) rfl (qzX8_isTangent l hst) (fun as F A K h => by
  replace h : qsX8_isTangent as F A K := h
  unfold qsX8_isTangent at h
  split at h
  · rename_i o c l
    refine ⟨by first | exact Nat.le_of_ble_eq_true rfl | simp [am_fl, am_cat], ?_⟩
    replace h := am_cond2 h
    rcases h with ⟨hb, h⟩ | h
    · skip
      have hb0 := hb
      have hb0 := am_bq hb0
      subst hb0
      exact am_way_line (qvX8_isTangent_0 c l F A K h)
    exact h.elim
  · exact h.elim)
def qkX8_rootsOf : Nat → Option CI := fun pc => cond (Nat.ble 47 pc) none (cond (Nat.ble 20 pc) (cond (Nat.ble 34 pc) (cond (Nat.ble 39 pc) (cond (Nat.ble 43 pc) (cond (Nat.beq pc 43) (some (.invokevirtual 223, 46, [])) (cond (Nat.beq pc 46) (some (.ireturn, 47, [])) (none))) (cond (Nat.beq pc 39) (some (.getfield 43, 42, [])) (cond (Nat.beq pc 42) (some (.iload_n 3, 43, [])) (none)))) (cond (Nat.beq pc 34) (some (.iconst (-1), 35, [])) (cond (Nat.beq pc 35) (some (.goto 11, 38, [46])) (cond (Nat.beq pc 38) (some (.aload_n 0, 39, [])) (none))))) (cond (Nat.ble 25 pc) (cond (Nat.beq pc 25) (some (.getfield 43, 28, [])) (cond (Nat.beq pc 28) (some (.invokevirtual 208, 31, [])) (cond (Nat.beq pc 31) (some (.ifCond .eq 7, 34, [38])) (none)))) (cond (Nat.beq pc 20) (some (.iload_n 2, 21, [])) (cond (Nat.beq pc 21) (some (.invokevirtual 216, 24, [])) (cond (Nat.beq pc 24) (some (.aload_n 0, 25, [])) (none)))))) (cond (Nat.ble 8 pc) (cond (Nat.ble 15 pc) (cond (Nat.ble 18 pc) (cond (Nat.beq pc 18) (some (.aload_n 0, 19, [])) (cond (Nat.beq pc 19) (some (.iload_n 1, 20, [])) (none))) (cond (Nat.beq pc 15) (some (.bipush (-2), 17, [])) (cond (Nat.beq pc 17) (some (.ireturn, 18, [])) (none)))) (cond (Nat.beq pc 8) (some (.iconst 2, 9, [])) (cond (Nat.beq pc 9) (some (.invokestatic 133, 12, [])) (cond (Nat.beq pc 12) (some (.ifCond .ne 6, 15, [18])) (none))))) (cond (Nat.ble 3 pc) (cond (Nat.beq pc 3) (some (.invokevirtual 191, 6, [])) (cond (Nat.beq pc 6) (some (.iload_n 3, 7, [])) (cond (Nat.beq pc 7) (some (.iconst 0, 8, [])) (none)))) (cond (Nat.beq pc 0) (some (.aload_n 0, 1, [])) (cond (Nat.beq pc 1) (some (.iload_n 1, 2, [])) (cond (Nat.beq pc 2) (some (.iload_n 2, 3, [])) (none)))))))
theorem qkX8_rootsOf_ok : ∀ pc i nx ts, qkX8_rootsOf pc = some (i, nx, ts) → am_cok cX8_rootsOf pc (i, nx, ts) = true := fun pc i nx ts h => am_tok_ok (n := 47) (by decide +kernel) (fun pc h => by show cond (Nat.ble 47 pc) _ _ = _; rw [Nat.ble_eq_true_of_le h]; rfl) h
def qaX8_rootsOf : Nat → Option CE := fun k => cond (Nat.beq k 191) (some qeX8_requireCurveAndLine) (cond (Nat.beq k 133) (some qeX8_isWithin) (cond (Nat.beq k 216) (some qeX8_findRoots) (cond (Nat.beq k 208) (some qeX5_isAllZero) (cond (Nat.beq k 223) (some qeX5_sizeOfKind) (none)))))
theorem qyX8_rootsOf (l : Launch) (hst : l.stackTraces = false) : ∀ k e1, qaX8_rootsOf k = some e1 → am_cal l layX RX8 21 k e1 ∧ True := q_cons ⟨am_calV (ci := 8) (qtX8_requireCurveAndLine l hst) qbX8_requireCurveAndLine (by decide) rfl (am_tb_at 1099 (by decide +kernel) rfl), trivial⟩ (q_cons ⟨am_calS (qtX8_isWithin l) qbX8_isWithin (by decide) rfl (by decide) (am_tb_at 875 (by decide +kernel) rfl), trivial⟩ (q_cons ⟨am_calV (ci := 8) (qtX8_findRoots l) qbX8_findRoots (by decide) rfl (am_tb_at 1123 (by decide +kernel) rfl), trivial⟩ (q_cons ⟨am_calV (ci := 5) (qtX5_isAllZero l) qbX5_isAllZero (by decide) rfl (am_tb_at 960 (by decide +kernel) rfl), trivial⟩ (q_cons ⟨am_calV (ci := 5) (qtX5_sizeOfKind l) qbX5_sizeOfKind (by decide) rfl (am_tb_at 1157 (by decide +kernel) rfl), trivial⟩ (q_nil)))))
def qxX8_rootsOf : CX := (qkX8_rootsOf, layX, qfX8, qaX8_rootsOf, qcX8, qlX8, qmX8, (some .int), true, none, 2, none, fun _ => none)
theorem qzX8_rootsOf (l : Launch) (hst : l.stackTraces = false) : am_sta l qxX8_rootsOf RX8 21 cX8_rootsOf := ⟨qkX8_rootsOf_ok, layX_ok, qfX8_ok, qcX8_ok, qlX8_ok, am_mthP qmX8_ok (by decide), fun k e1 h => (qyX8_rootsOf l hst k e1 h).1⟩
def qsX8_rootsOf : SP := fun as F A K => match as with
  | [.inr (.inr o), .inl c, .inl l, .inl k] => cond (Nat.beq o 0) ((fgOK (A 2) ∧ (-2147483648 ≤ c ∧ c < 2147483648) ∧ (-2147483648 ≤ l ∧ l < 2147483648) ∧ (-2147483648 ≤ k ∧ k < 2147483648) ∧ rtB (A 2)) ∧ (((0 ≤ c ∧ c < A 2 0) ∧ 0 ≤ l ∧ l < A 2 1 → (∀ (G_1 : FF) (B_1 : AA), (qrP F G_1 A B_1) → (K (some (some (vI (if 0 ≤ k ∧ k ≤ 2 then (if azP (cfL (A 2) c l) (Int.toNat (A 2 (18 + c))) then -1 else cntK (ktF (rtsX (A 2) c l)) k (rtsX (A 2) c l).length) else -2)))) G_1 B_1))) ∧ (¬ ((0 ≤ c ∧ c < A 2 0) ∧ 0 ≤ l ∧ l < A 2 1) → (K none F A)))) (False)
  | _ => False
def qeX8_rootsOf : CE := (yX8_rootsOf, cX8_rootsOf, 4, (some .int), 3, some 8, 1, none, 2, 21, qsX8_rootsOf)
theorem qbX8_rootsOf : am_mb qeX8_rootsOf := ⟨am_tb_at 1156 (by decide +kernel) rfl, am_tb_at 35 (by decide +kernel) rfl, ⟨by decide, by decide, by decide +kernel⟩, by decide, am_tb_at 1154 (by decide +kernel) rfl, am_tb_at 1155 (by decide +kernel) rfl, _, _, rfl⟩
set_option maxRecDepth 20000 in
theorem qvX8_rootsOf_0 (c : Int) (l : Int) (k : Int) (F : FF) (A : AA) (K : KK) (h : (fgOK (A 2) ∧ (-2147483648 ≤ c ∧ c < 2147483648) ∧ (-2147483648 ≤ l ∧ l < 2147483648) ∧ (-2147483648 ≤ k ∧ k < 2147483648) ∧ rtB (A 2)) ∧ (((0 ≤ c ∧ c < A 2 0) ∧ 0 ≤ l ∧ l < A 2 1 → (∀ (G_1 : FF) (B_1 : AA), (qrP F G_1 A B_1) → (K (some (some (vI (if 0 ≤ k ∧ k ≤ 2 then (if azP (cfL (A 2) c l) (Int.toNat (A 2 (18 + c))) then -1 else cntK (ktF (rtsX (A 2) c l)) k (rtsX (A 2) c l).length) else -2)))) G_1 B_1))) ∧ (¬ ((0 ≤ c ∧ c < A 2 0) ∧ 0 ≤ l ∧ l < A 2 1) → (K none F A)))) : am_line qxX8_rootsOf 23 [vR 0, vI c, vI l, vI k] 4 F A K := by
  show am_stp qxX8_rootsOf (am_run qxX8_rootsOf (fun _ => none) (fun _ _ _ _ _ _ => False) K 23) K 0 [some (vR 0), some (vI c), some (vI l), some (vI k)] [] F A 0
  obtain ⟨hp, h⟩ := h
  have p1 := hp.1
  have p2' := hp.2
  have q1 := p1.1.1
  have q2 := p1.1.2
  show ((0 ≤ A 2 0 ∧ A 2 0 ≤ 8) ∧ (0 ≤ A 2 1 ∧ A 2 1 ≤ 6) ∧ (-2147483648 ≤ c ∧ c < 2147483648) ∧ (-2147483648 ≤ l ∧ l < 2147483648)) ∧ (((0 ≤ c ∧ c < A 2 0) ∧ 0 ≤ l ∧ l < A 2 1 → ((w32 (bi (w32 0 ≤ w32 k ∧ w32 k ≤ w32 2)) = w32 0 → (K (some (some (vI (-2)))) F A)) ∧ (¬ (w32 (bi (w32 0 ≤ w32 k ∧ w32 k ≤ w32 2)) = w32 0) → ((fgOK (A 2) ∧ (0 ≤ c ∧ c < A 2 0) ∧ (0 ≤ l ∧ l < A 2 1) ∧ ((rtsX (A 2) c l).length : Int) ≤ 8) ∧ (∀ (G_1 : FF) (B_1 : AA), (qrP F G_1 A B_1 ∧ rcP G_1 B_1 (A 2) c l (rtsX (A 2) c l)) → ((0 ≤ (G_1 14 4) ∧ (G_1 14 4) ≤ 3) ∧ ((w32 (bi (azP (B_1 15) (Int.toNat ((G_1 14 4) + 1)))) = w32 0 → ((0 ≤ (G_1 14 5) ∧ (G_1 14 5) ≤ 8 ∧ (-2147483648 ≤ k ∧ k < 2147483648) ∧ ∀ i, 0 ≤ i → i < (G_1 14 5) → -1 ≤ B_1 16 i ∧ B_1 16 i ≤ 3) ∧ (K (some (some (vI (cntK (B_1 16) k (Int.toNat ((G_1 14 5))))))) G_1 B_1))) ∧ (¬ w32 (bi (azP (B_1 15) (Int.toNat ((G_1 14 4) + 1)))) = w32 0 → (K (some (some (vI (-1)))) G_1 B_1))))))))) ∧ (¬ ((0 ≤ c ∧ c < A 2 0) ∧ 0 ≤ l ∧ l < A 2 1) → (K none F A)))
  refine ⟨by exact ⟨p1.1.1, p1.1.2, hp.2.1, hp.2.2.1⟩, ?_⟩
  refine ⟨fun c1 => ?_, fun c1 => ?_⟩
  · skip
    (try simp (disch := omega) only [w32_0, wbi0, Classical.not_not, w32_id] at c1)
    refine ⟨fun c2 => ?_, fun c2 => ?_⟩
    · skip
      (try simp (disch := omega) only [w32_0, wbi0, Classical.not_not, w32_id] at c2)
      exact K_eq (h.1 c1 _ _ qrP_id) (if_neg c2)
    · skip
      (try simp (disch := omega) only [w32_0, wbi0, Classical.not_not, w32_id] at c2)
      refine ⟨by exact ⟨p1, c1.1, c1.2, hp.2.2.2.2 c l c1.1.1 c1.1.2 c1.2.1 c1.2.2⟩, ?_⟩
      intro G_1 B_1 g1
      refine ⟨by (have q3 := (p1.2.2.1 c c1.1.1 c1.1.2).1; rw [g1.2.1]; omega), ?_⟩
      refine ⟨fun c3 => ?_, fun c3 => ?_⟩
      · skip
        (try simp (disch := omega) only [w32_0, wbi0, Classical.not_not, w32_id] at c3)
        refine ⟨by (have q5 := hp.2.2.2.2 c l c1.1.1 c1.1.2 c1.2.1 c1.2.2; exact ⟨by rw [g1.2.2.1]; omega, by rw [g1.2.2.1]; omega, by omega, rc_kd g1.2⟩), ?_⟩
        have q3 := (p1.2.2.1 c c1.1.1 c1.1.2).1
        have az := rc_az g1.2 q3.1
        refine K_eq (h.1 c1 _ _ g1.1) ?_
        rw [if_pos c2, if_neg (fun z => c3 (az.mpr z)), rc_cnt g1.2]
      · skip
        (try simp (disch := omega) only [w32_0, wbi0, Classical.not_not, w32_id] at c3)
        have q3 := (p1.2.2.1 c c1.1.1 c1.1.2).1
        have az := rc_az g1.2 q3.1
        exact K_eq (h.1 c1 _ _ g1.1) (by rw [if_pos c2, if_pos (az.mp c3)])
  · skip
    (try simp (disch := omega) only [w32_0, wbi0, Classical.not_not, w32_id] at c1)
    exact h.2 c1
theorem qtX8_rootsOf (l : Launch) (hst : l.stackTraces = false) : am_CT l layX qeX8_rootsOf := am_met1 hst rfl (by decide +kernel) rfl rfl rfl rfl rfl (fun _ _ h => by cases h) rfl (qzX8_rootsOf l hst) (fun as F A K h => by
  replace h : qsX8_rootsOf as F A K := h
  unfold qsX8_rootsOf at h
  split at h
  · rename_i o c l k
    refine ⟨by first | exact Nat.le_of_ble_eq_true rfl | simp [am_fl, am_cat], ?_⟩
    replace h := am_cond2 h
    rcases h with ⟨hb, h⟩ | h
    · skip
      have hb0 := hb
      have hb0 := am_bq hb0
      subst hb0
      exact am_way_line (qvX8_rootsOf_0 c l k F A K h)
    exact h.elim
  · exact h.elim)
