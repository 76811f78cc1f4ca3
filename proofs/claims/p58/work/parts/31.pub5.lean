def qkX8_rootCount : Nat → Option CI := fun pc => cond (Nat.ble 34 pc) none (cond (Nat.ble 13 pc) (cond (Nat.ble 23 pc) (cond (Nat.ble 27 pc) (cond (Nat.beq pc 27) (some (.getfield 43, 30, [])) (cond (Nat.beq pc 30) (some (.invokevirtual 219, 33, [])) (cond (Nat.beq pc 33) (some (.ireturn, 34, [])) (none)))) (cond (Nat.beq pc 23) (some (.goto 10, 26, [33])) (cond (Nat.beq pc 26) (some (.aload_n 0, 27, [])) (none)))) (cond (Nat.ble 19 pc) (cond (Nat.beq pc 19) (some (.ifCond .eq 7, 22, [26])) (cond (Nat.beq pc 22) (some (.iconst (-1), 23, [])) (none))) (cond (Nat.beq pc 13) (some (.getfield 43, 16, [])) (cond (Nat.beq pc 16) (some (.invokevirtual 208, 19, [])) (none))))) (cond (Nat.ble 6 pc) (cond (Nat.ble 8 pc) (cond (Nat.beq pc 8) (some (.iload_n 2, 9, [])) (cond (Nat.beq pc 9) (some (.invokevirtual 216, 12, [])) (cond (Nat.beq pc 12) (some (.aload_n 0, 13, [])) (none)))) (cond (Nat.beq pc 6) (some (.aload_n 0, 7, [])) (cond (Nat.beq pc 7) (some (.iload_n 1, 8, [])) (none)))) (cond (Nat.ble 2 pc) (cond (Nat.beq pc 2) (some (.iload_n 2, 3, [])) (cond (Nat.beq pc 3) (some (.invokevirtual 191, 6, [])) (none))) (cond (Nat.beq pc 0) (some (.aload_n 0, 1, [])) (cond (Nat.beq pc 1) (some (.iload_n 1, 2, [])) (none))))))
theorem qkX8_rootCount_ok : ∀ pc i nx ts, qkX8_rootCount pc = some (i, nx, ts) → am_cok cX8_rootCount pc (i, nx, ts) = true := fun pc i nx ts h => am_tok_ok (n := 34) (by decide +kernel) (fun pc h => by show cond (Nat.ble 34 pc) _ _ = _; rw [Nat.ble_eq_true_of_le h]; rfl) h
def qaX8_rootCount : Nat → Option CE := fun k => cond (Nat.beq k 191) (some qeX8_requireCurveAndLine) (cond (Nat.beq k 216) (some qeX8_findRoots) (cond (Nat.beq k 208) (some qeX5_isAllZero) (cond (Nat.beq k 219) (some qeX5_size) (none))))
theorem qyX8_rootCount (l : Launch) (hst : l.stackTraces = false) : ∀ k e1, qaX8_rootCount k = some e1 → am_cal l layX RX8 21 k e1 ∧ True := q_cons ⟨am_calV (ci := 8) (qtX8_requireCurveAndLine l hst) qbX8_requireCurveAndLine (by decide) rfl (am_tb_at 1099 (by decide +kernel) rfl), trivial⟩ (q_cons ⟨am_calV (ci := 8) (qtX8_findRoots l) qbX8_findRoots (by decide) rfl (am_tb_at 1123 (by decide +kernel) rfl), trivial⟩ (q_cons ⟨am_calV (ci := 5) (qtX5_isAllZero l) qbX5_isAllZero (by decide) rfl (am_tb_at 960 (by decide +kernel) rfl), trivial⟩ (q_cons ⟨am_calV (ci := 5) (qtX5_size l) qbX5_size (by decide) rfl (am_tb_at 1149 (by decide +kernel) rfl), trivial⟩ (q_nil))))
def qxX8_rootCount : CX := (qkX8_rootCount, layX, qfX8, qaX8_rootCount, qcX8, qlX8, qmX8, (some .int), true, none, 2, none, fun _ => none)
theorem qzX8_rootCount (l : Launch) (hst : l.stackTraces = false) : am_sta l qxX8_rootCount RX8 21 cX8_rootCount := ⟨qkX8_rootCount_ok, layX_ok, qfX8_ok, qcX8_ok, qlX8_ok, am_mthP qmX8_ok (by decide), fun k e1 h => (qyX8_rootCount l hst k e1 h).1⟩
def qsX8_rootCount : SP := fun as F A K => match as with
  | [.inr (.inr o), .inl c, .inl l] => cond (Nat.beq o 0) ((fgOK (A 2) ∧ (-2147483648 ≤ c ∧ c < 2147483648) ∧ (-2147483648 ≤ l ∧ l < 2147483648) ∧ rtB (A 2)) ∧ (((0 ≤ c ∧ c < A 2 0) ∧ 0 ≤ l ∧ l < A 2 1 → (∀ (G_1 : FF) (B_1 : AA), (qrP F G_1 A B_1) → (K (some (some (vI (if azP (cfL (A 2) c l) (Int.toNat (A 2 (18 + c))) then -1 else ((rtsX (A 2) c l).length : Int))))) G_1 B_1))) ∧ (¬ ((0 ≤ c ∧ c < A 2 0) ∧ 0 ≤ l ∧ l < A 2 1) → (K none F A)))) (False)
  | _ => False
def qeX8_rootCount : CE := (yX8_rootCount, cX8_rootCount, 3, (some .int), 2, some 8, 1, none, 2, 21, qsX8_rootCount)
theorem qbX8_rootCount : am_mb qeX8_rootCount := ⟨am_tb_at 1122 (by decide +kernel) rfl, am_tb_at 35 (by decide +kernel) rfl, ⟨by decide, by decide, by decide +kernel⟩, by decide, am_tb_at 1120 (by decide +kernel) rfl, am_tb_at 1121 (by decide +kernel) rfl, _, _, rfl⟩
set_option maxRecDepth 20000 in
theorem qvX8_rootCount_0 (c : Int) (l : Int) (F : FF) (A : AA) (K : KK) (h : (fgOK (A 2) ∧ (-2147483648 ≤ c ∧ c < 2147483648) ∧ (-2147483648 ≤ l ∧ l < 2147483648) ∧ rtB (A 2)) ∧ (((0 ≤ c ∧ c < A 2 0) ∧ 0 ≤ l ∧ l < A 2 1 → (∀ (G_1 : FF) (B_1 : AA), (qrP F G_1 A B_1) → (K (some (some (vI (if azP (cfL (A 2) c l) (Int.toNat (A 2 (18 + c))) then -1 else ((rtsX (A 2) c l).length : Int))))) G_1 B_1))) ∧ (¬ ((0 ≤ c ∧ c < A 2 0) ∧ 0 ≤ l ∧ l < A 2 1) → (K none F A)))) : am_line qxX8_rootCount 17 [vR 0, vI c, vI l] 3 F A K := by
  show am_stp qxX8_rootCount (am_run qxX8_rootCount (fun _ => none) (fun _ _ _ _ _ _ => False) K 17) K 0 [some (vR 0), some (vI c), some (vI l)] [] F A 0
  obtain ⟨hp, h⟩ := h
  have p1 := hp.1
  have p2' := hp.2
  have q1 := p1.1.1
  have q2 := p1.1.2
  show ((0 ≤ A 2 0 ∧ A 2 0 ≤ 8) ∧ (0 ≤ A 2 1 ∧ A 2 1 ≤ 6) ∧ (-2147483648 ≤ c ∧ c < 2147483648) ∧ (-2147483648 ≤ l ∧ l < 2147483648)) ∧ (((0 ≤ c ∧ c < A 2 0) ∧ 0 ≤ l ∧ l < A 2 1 → ((fgOK (A 2) ∧ (0 ≤ c ∧ c < A 2 0) ∧ (0 ≤ l ∧ l < A 2 1) ∧ ((rtsX (A 2) c l).length : Int) ≤ 8) ∧ (∀ (G_1 : FF) (B_1 : AA), (qrP F G_1 A B_1 ∧ rcP G_1 B_1 (A 2) c l (rtsX (A 2) c l)) → ((0 ≤ (G_1 14 4) ∧ (G_1 14 4) ≤ 3) ∧ ((w32 (bi (azP (B_1 15) (Int.toNat ((G_1 14 4) + 1)))) = w32 0 → (K (some (some (vI (G_1 14 5)))) G_1 B_1)) ∧ (¬ w32 (bi (azP (B_1 15) (Int.toNat ((G_1 14 4) + 1)))) = w32 0 → (K (some (some (vI (-1)))) G_1 B_1))))))) ∧ (¬ ((0 ≤ c ∧ c < A 2 0) ∧ 0 ≤ l ∧ l < A 2 1) → (K none F A)))
  refine ⟨by exact ⟨p1.1.1, p1.1.2, hp.2.1, hp.2.2.1⟩, ?_⟩
  refine ⟨fun c1 => ?_, fun c1 => ?_⟩
  · skip
    (try simp (disch := omega) only [w32_0, wbi0, Classical.not_not, w32_id] at c1)
    refine ⟨by exact ⟨p1, c1.1, c1.2, hp.2.2.2 c l c1.1.1 c1.1.2 c1.2.1 c1.2.2⟩, ?_⟩
    intro G_1 B_1 g1
    refine ⟨by (have q3 := (p1.2.2.1 c c1.1.1 c1.1.2).1; first | (rw [g1.2.1]; omega) | (have q5 := hp.2.2.2 c l c1.1.1 c1.1.2 c1.2.1 c1.2.2; rw [g1.2.2.1]; omega)), ?_⟩
    refine ⟨fun c2 => ?_, fun c2 => ?_⟩
    · skip
      (try simp (disch := omega) only [w32_0, wbi0, Classical.not_not, w32_id] at c2)
      have q3 := (p1.2.2.1 c c1.1.1 c1.1.2).1
      have az := rc_az g1.2 q3.1
      refine K_eq (h.1 c1 _ _ g1.1) ?_
      rw [if_neg (fun z => c2 (az.mpr z))]
      exact g1.2.2.1.symm
    · skip
      (try simp (disch := omega) only [w32_0, wbi0, Classical.not_not, w32_id] at c2)
      have q3 := (p1.2.2.1 c c1.1.1 c1.1.2).1
      have az := rc_az g1.2 q3.1
      exact K_eq (h.1 c1 _ _ g1.1) (if_pos (az.mp c2))
  · skip
    (try simp (disch := omega) only [w32_0, wbi0, Classical.not_not, w32_id] at c1)
    exact h.2 c1
theorem qtX8_rootCount (l : Launch) (hst : l.stackTraces = false) : am_CT l layX qeX8_rootCount := am_met1 hst rfl (by decide +kernel) rfl rfl rfl rfl rfl (fun _ _ h => by cases h) rfl (qzX8_rootCount l hst) (fun as F A K h => by
  replace h : qsX8_rootCount as F A K := h
  unfold qsX8_rootCount at h
  split at h
  · rename_i o c l
    refine ⟨by first | exact Nat.le_of_ble_eq_true rfl | simp [am_fl, am_cat], ?_⟩
    replace h := am_cond2 h
    rcases h with ⟨hb, h⟩ | h
    · skip
      have hb0 := hb
      have hb0 := am_bq hb0
      subst hb0
      exact am_way_line (qvX8_rootCount_0 c l F A K h)
    exact h.elim
  · exact h.elim)
def qkX8_rootKind : Nat → Option CI := fun pc => cond (Nat.ble 21 pc) none (cond (Nat.ble 8 pc) (cond (Nat.ble 13 pc) (cond (Nat.ble 17 pc) (cond (Nat.beq pc 17) (some (.invokevirtual 226, 20, [])) (cond (Nat.beq pc 20) (some (.ireturn, 21, [])) (none))) (cond (Nat.beq pc 13) (some (.getfield 43, 16, [])) (cond (Nat.beq pc 16) (some (.iload_n 3, 17, [])) (none)))) (cond (Nat.beq pc 8) (some (.iload_n 2, 9, [])) (cond (Nat.beq pc 9) (some (.invokevirtual 216, 12, [])) (cond (Nat.beq pc 12) (some (.aload_n 0, 13, [])) (none))))) (cond (Nat.ble 3 pc) (cond (Nat.beq pc 3) (some (.invokevirtual 191, 6, [])) (cond (Nat.beq pc 6) (some (.aload_n 0, 7, [])) (cond (Nat.beq pc 7) (some (.iload_n 1, 8, [])) (none)))) (cond (Nat.beq pc 0) (some (.aload_n 0, 1, [])) (cond (Nat.beq pc 1) (some (.iload_n 1, 2, [])) (cond (Nat.beq pc 2) (some (.iload_n 2, 3, [])) (none))))))
theorem qkX8_rootKind_ok : ∀ pc i nx ts, qkX8_rootKind pc = some (i, nx, ts) → am_cok cX8_rootKind pc (i, nx, ts) = true := fun pc i nx ts h => am_tok_ok (n := 21) (by decide +kernel) (fun pc h => by show cond (Nat.ble 21 pc) _ _ = _; rw [Nat.ble_eq_true_of_le h]; rfl) h
def qaX8_rootKind : Nat → Option CE := fun k => cond (Nat.beq k 191) (some qeX8_requireCurveAndLine) (cond (Nat.beq k 216) (some qeX8_findRoots) (cond (Nat.beq k 226) (some qeX5_kindOf) (none)))
theorem qyX8_rootKind (l : Launch) (hst : l.stackTraces = false) : ∀ k e1, qaX8_rootKind k = some e1 → am_cal l layX RX8 21 k e1 ∧ True := q_cons ⟨am_calV (ci := 8) (qtX8_requireCurveAndLine l hst) qbX8_requireCurveAndLine (by decide) rfl (am_tb_at 1099 (by decide +kernel) rfl), trivial⟩ (q_cons ⟨am_calV (ci := 8) (qtX8_findRoots l) qbX8_findRoots (by decide) rfl (am_tb_at 1123 (by decide +kernel) rfl), trivial⟩ (q_cons ⟨am_calV (ci := 5) (qtX5_kindOf l) qbX5_kindOf (by decide) rfl (am_tb_at 1173 (by decide +kernel) rfl), trivial⟩ (q_nil)))
def qxX8_rootKind : CX := (qkX8_rootKind, layX, qfX8, qaX8_rootKind, qcX8, qlX8, qmX8, (some .int), true, none, 2, none, fun _ => none)
theorem qzX8_rootKind (l : Launch) (hst : l.stackTraces = false) : am_sta l qxX8_rootKind RX8 21 cX8_rootKind := ⟨qkX8_rootKind_ok, layX_ok, qfX8_ok, qcX8_ok, qlX8_ok, am_mthP qmX8_ok (by decide), fun k e1 h => (qyX8_rootKind l hst k e1 h).1⟩
def qsX8_rootKind : SP := fun as F A K => match as with
  | [.inr (.inr o), .inl c, .inl l, .inl r] => cond (Nat.beq o 0) ((fgOK (A 2) ∧ (-2147483648 ≤ c ∧ c < 2147483648) ∧ (-2147483648 ≤ l ∧ l < 2147483648) ∧ (-2147483648 ≤ r ∧ r < 2147483648) ∧ rtB (A 2)) ∧ (((0 ≤ c ∧ c < A 2 0) ∧ 0 ≤ l ∧ l < A 2 1 → (∀ (G_1 : FF) (B_1 : AA), (qrP F G_1 A B_1) → (K (some (some (vI (if 0 ≤ r ∧ r < ((rtsX (A 2) c l).length : Int) then ((rtsX (A 2) c l).getD (Int.toNat r) (0, 0, 0)).1 else -1)))) G_1 B_1))) ∧ (¬ ((0 ≤ c ∧ c < A 2 0) ∧ 0 ≤ l ∧ l < A 2 1) → (K none F A)))) (False)
  | _ => False
def qeX8_rootKind : CE := (yX8_rootKind, cX8_rootKind, 4, (some .int), 3, some 8, 1, none, 2, 21, qsX8_rootKind)
theorem qbX8_rootKind : am_mb qeX8_rootKind := ⟨am_tb_at 1172 (by decide +kernel) rfl, am_tb_at 35 (by decide +kernel) rfl, ⟨by decide, by decide, by decide +kernel⟩, by decide, am_tb_at 1170 (by decide +kernel) rfl, am_tb_at 1171 (by decide +kernel) rfl, _, _, rfl⟩
set_option maxRecDepth 20000 in
theorem qvX8_rootKind_0 (c : Int) (l : Int) (r : Int) (F : FF) (A : AA) (K : KK) (h : (fgOK (A 2) ∧ (-2147483648 ≤ c ∧ c < 2147483648) ∧ (-2147483648 ≤ l ∧ l < 2147483648) ∧ (-2147483648 ≤ r ∧ r < 2147483648) ∧ rtB (A 2)) ∧ (((0 ≤ c ∧ c < A 2 0) ∧ 0 ≤ l ∧ l < A 2 1 → (∀ (G_1 : FF) (B_1 : AA), (qrP F G_1 A B_1) → (K (some (some (vI (if 0 ≤ r ∧ r < ((rtsX (A 2) c l).length : Int) then ((rtsX (A 2) c l).getD (Int.toNat r) (0, 0, 0)).1 else -1)))) G_1 B_1))) ∧ (¬ ((0 ≤ c ∧ c < A 2 0) ∧ 0 ≤ l ∧ l < A 2 1) → (K none F A)))) : am_line qxX8_rootKind 14 [vR 0, vI c, vI l, vI r] 4 F A K := by
  show am_stp qxX8_rootKind (am_run qxX8_rootKind (fun _ => none) (fun _ _ _ _ _ _ => False) K 14) K 0 [some (vR 0), some (vI c), some (vI l), some (vI r)] [] F A 0
  obtain ⟨hp, h⟩ := h
  have p1 := hp.1
  have p2' := hp.2
  have q1 := p1.1.1
  have q2 := p1.1.2
  show ((0 ≤ A 2 0 ∧ A 2 0 ≤ 8) ∧ (0 ≤ A 2 1 ∧ A 2 1 ≤ 6) ∧ (-2147483648 ≤ c ∧ c < 2147483648) ∧ (-2147483648 ≤ l ∧ l < 2147483648)) ∧ (((0 ≤ c ∧ c < A 2 0) ∧ 0 ≤ l ∧ l < A 2 1 → ((fgOK (A 2) ∧ (0 ≤ c ∧ c < A 2 0) ∧ (0 ≤ l ∧ l < A 2 1) ∧ ((rtsX (A 2) c l).length : Int) ≤ 8) ∧ (∀ (G_1 : FF) (B_1 : AA), (qrP F G_1 A B_1 ∧ rcP G_1 B_1 (A 2) c l (rtsX (A 2) c l)) → ((0 ≤ (G_1 14 5) ∧ (G_1 14 5) ≤ 8) ∧ (K (some (some (vI (if 0 ≤ w32 r ∧ w32 r < (G_1 14 5) then B_1 16 (w32 r) else -1)))) G_1 B_1))))) ∧ (¬ ((0 ≤ c ∧ c < A 2 0) ∧ 0 ≤ l ∧ l < A 2 1) → (K none F A)))
  refine ⟨by exact ⟨p1.1.1, p1.1.2, hp.2.1, hp.2.2.1⟩, ?_⟩
  refine ⟨fun c1 => ?_, fun c1 => ?_⟩
  · skip
    (try simp (disch := omega) only [w32_0, wbi0, Classical.not_not, w32_id] at c1)
    refine ⟨by exact ⟨p1, c1.1, c1.2, hp.2.2.2.2 c l c1.1.1 c1.1.2 c1.2.1 c1.2.2⟩, ?_⟩
    intro G_1 B_1 g1
    refine ⟨by (have q3 := (p1.2.2.1 c c1.1.1 c1.1.2).1; first | (rw [g1.2.1]; omega) | (have q5 := hp.2.2.2.2 c l c1.1.1 c1.1.2 c1.2.1 c1.2.2; rw [g1.2.2.1]; omega)), ?_⟩
    refine K_eq (h.1 c1 _ _ g1.1) ?_
    rw [g1.2.2.1, w32_id (x := r) (by omega) (by omega)]
    split
    · rename_i hk
      exact (rts_get g1.2.2.2.1 hk.1 hk.2).1.symm
    · rfl
  · skip
    (try simp (disch := omega) only [w32_0, wbi0, Classical.not_not, w32_id] at c1)
    exact h.2 c1
theorem qtX8_rootKind (l : Launch) (hst : l.stackTraces = false) : am_CT l layX qeX8_rootKind := am_met1 hst rfl (by decide +kernel) rfl rfl rfl rfl rfl (fun _ _ h => by cases h) rfl (qzX8_rootKind l hst) (fun as F A K h => by
  replace h : qsX8_rootKind as F A K := h
  unfold qsX8_rootKind at h
  split at h
  · rename_i o c l r
    refine ⟨by first | exact Nat.le_of_ble_eq_true rfl | simp [am_fl, am_cat], ?_⟩
    replace h := am_cond2 h
    rcases h with ⟨hb, h⟩ | h
    · skip
      have hb0 := hb
      have hb0 := am_bq hb0
      subst hb0
      exact am_way_line (qvX8_rootKind_0 c l r F A K h)
    exact h.elim
  · exact h.elim)
def qkX8_rootDepth : Nat → Option CI := fun pc => cond (Nat.ble 21 pc) none (cond (Nat.ble 8 pc) (cond (Nat.ble 13 pc) (cond (Nat.ble 17 pc) (cond (Nat.beq pc 17) (some (.invokevirtual 229, 20, [])) (cond (Nat.beq pc 20) (some (.ireturn, 21, [])) (none))) (cond (Nat.beq pc 13) (some (.getfield 43, 16, [])) (cond (Nat.beq pc 16) (some (.iload_n 3, 17, [])) (none)))) (cond (Nat.beq pc 8) (some (.iload_n 2, 9, [])) (cond (Nat.beq pc 9) (some (.invokevirtual 216, 12, [])) (cond (Nat.beq pc 12) (some (.aload_n 0, 13, [])) (none))))) (cond (Nat.ble 3 pc) (cond (Nat.beq pc 3) (some (.invokevirtual 191, 6, [])) (cond (Nat.beq pc 6) (some (.aload_n 0, 7, [])) (cond (Nat.beq pc 7) (some (.iload_n 1, 8, [])) (none)))) (cond (Nat.beq pc 0) (some (.aload_n 0, 1, [])) (cond (Nat.beq pc 1) (some (.iload_n 1, 2, [])) (cond (Nat.beq pc 2) (some (.iload_n 2, 3, [])) (none))))))
theorem qkX8_rootDepth_ok : ∀ pc i nx ts, qkX8_rootDepth pc = some (i, nx, ts) → am_cok cX8_rootDepth pc (i, nx, ts) = true := fun pc i nx ts h => am_tok_ok (n := 21) (by decide +kernel) (fun pc h => by show cond (Nat.ble 21 pc) _ _ = _; rw [Nat.ble_eq_true_of_le h]; rfl) h
def qaX8_rootDepth : Nat → Option CE := fun k => cond (Nat.beq k 191) (some qeX8_requireCurveAndLine) (cond (Nat.beq k 216) (some qeX8_findRoots) (cond (Nat.beq k 229) (some qeX5_depthOf) (none)))
theorem qyX8_rootDepth (l : Launch) (hst : l.stackTraces = false) : ∀ k e1, qaX8_rootDepth k = some e1 → am_cal l layX RX8 21 k e1 ∧ True := q_cons ⟨am_calV (ci := 8) (qtX8_requireCurveAndLine l hst) qbX8_requireCurveAndLine (by decide) rfl (am_tb_at 1099 (by decide +kernel) rfl), trivial⟩ (q_cons ⟨am_calV (ci := 8) (qtX8_findRoots l) qbX8_findRoots (by decide) rfl (am_tb_at 1123 (by decide +kernel) rfl), trivial⟩ (q_cons ⟨am_calV (ci := 5) (qtX5_depthOf l) qbX5_depthOf (by decide) rfl (am_tb_at 1206 (by decide +kernel) rfl), trivial⟩ (q_nil)))
def qxX8_rootDepth : CX := (qkX8_rootDepth, layX, qfX8, qaX8_rootDepth, qcX8, qlX8, qmX8, (some .int), true, none, 2, none, fun _ => none)
theorem qzX8_rootDepth (l : Launch) (hst : l.stackTraces = false) : am_sta l qxX8_rootDepth RX8 21 cX8_rootDepth := ⟨qkX8_rootDepth_ok, layX_ok, qfX8_ok, qcX8_ok, qlX8_ok, am_mthP qmX8_ok (by decide), fun k e1 h => (qyX8_rootDepth l hst k e1 h).1⟩
def qsX8_rootDepth : SP := fun as F A K => match as with
  | [.inr (.inr o), .inl c, .inl l, .inl r] => cond (Nat.beq o 0) ((fgOK (A 2) ∧ (-2147483648 ≤ c ∧ c < 2147483648) ∧ (-2147483648 ≤ l ∧ l < 2147483648) ∧ (-2147483648 ≤ r ∧ r < 2147483648) ∧ rtB (A 2)) ∧ (((0 ≤ c ∧ c < A 2 0) ∧ 0 ≤ l ∧ l < A 2 1 → (∀ (G_1 : FF) (B_1 : AA), (qrP F G_1 A B_1) → (K (some (some (vI (if 0 ≤ r ∧ r < ((rtsX (A 2) c l).length : Int) then ((rtsX (A 2) c l).getD (Int.toNat r) (0, 0, 0)).2.1 else -1)))) G_1 B_1))) ∧ (¬ ((0 ≤ c ∧ c < A 2 0) ∧ 0 ≤ l ∧ l < A 2 1) → (K none F A)))) (False)
  | _ => False
def qeX8_rootDepth : CE := (yX8_rootDepth, cX8_rootDepth, 4, (some .int), 3, some 8, 1, none, 2, 21, qsX8_rootDepth)
theorem qbX8_rootDepth : am_mb qeX8_rootDepth := ⟨am_tb_at 1205 (by decide +kernel) rfl, am_tb_at 35 (by decide +kernel) rfl, ⟨by decide, by decide, by decide +kernel⟩, by decide, am_tb_at 1203 (by decide +kernel) rfl, am_tb_at 1204 (by decide +kernel) rfl, _, _, rfl⟩
set_option maxRecDepth 20000 in
theorem qvX8_rootDepth_0 (c : Int) (l : Int) (r : Int) (F : FF) (A : AA) (K : KK) (h : (fgOK (A 2) ∧ (-2147483648 ≤ c ∧ c < 2147483648) ∧ (-2147483648 ≤ l ∧ l < 2147483648) ∧ (-2147483648 ≤ r ∧ r < 2147483648) ∧ rtB (A 2)) ∧ (((0 ≤ c ∧ c < A 2 0) ∧ 0 ≤ l ∧ l < A 2 1 → (∀ (G_1 : FF) (B_1 : AA), (qrP F G_1 A B_1) → (K (some (some (vI (if 0 ≤ r ∧ r < ((rtsX (A 2) c l).length : Int) then ((rtsX (A 2) c l).getD (Int.toNat r) (0, 0, 0)).2.1 else -1)))) G_1 B_1))) ∧ (¬ ((0 ≤ c ∧ c < A 2 0) ∧ 0 ≤ l ∧ l < A 2 1) → (K none F A)))) : am_line qxX8_rootDepth 14 [vR 0, vI c, vI l, vI r] 4 F A K := by
  show am_stp qxX8_rootDepth (am_run qxX8_rootDepth (fun _ => none) (fun _ _ _ _ _ _ => False) K 14) K 0 [some (vR 0), some (vI c), some (vI l), some (vI r)] [] F A 0
  obtain ⟨hp, h⟩ := h
  have p1 := hp.1
  have p2' := hp.2
  have q1 := p1.1.1
  have q2 := p1.1.2
  show ((0 ≤ A 2 0 ∧ A 2 0 ≤ 8) ∧ (0 ≤ A 2 1 ∧ A 2 1 ≤ 6) ∧ (-2147483648 ≤ c ∧ c < 2147483648) ∧ (-2147483648 ≤ l ∧ l < 2147483648)) ∧ (((0 ≤ c ∧ c < A 2 0) ∧ 0 ≤ l ∧ l < A 2 1 → ((fgOK (A 2) ∧ (0 ≤ c ∧ c < A 2 0) ∧ (0 ≤ l ∧ l < A 2 1) ∧ ((rtsX (A 2) c l).length : Int) ≤ 8) ∧ (∀ (G_1 : FF) (B_1 : AA), (qrP F G_1 A B_1 ∧ rcP G_1 B_1 (A 2) c l (rtsX (A 2) c l)) → ((0 ≤ (G_1 14 5) ∧ (G_1 14 5) ≤ 8) ∧ (K (some (some (vI (if 0 ≤ w32 r ∧ w32 r < (G_1 14 5) then B_1 17 (w32 r) else -1)))) G_1 B_1))))) ∧ (¬ ((0 ≤ c ∧ c < A 2 0) ∧ 0 ≤ l ∧ l < A 2 1) → (K none F A)))
  refine ⟨by exact ⟨p1.1.1, p1.1.2, hp.2.1, hp.2.2.1⟩, ?_⟩
  refine ⟨fun c1 => ?_, fun c1 => ?_⟩
  · skip
    (try simp (disch := omega) only [w32_0, wbi0, Classical.not_not, w32_id] at c1)
    refine ⟨by exact ⟨p1, c1.1, c1.2, hp.2.2.2.2 c l c1.1.1 c1.1.2 c1.2.1 c1.2.2⟩, ?_⟩
    intro G_1 B_1 g1
    refine ⟨by (have q3 := (p1.2.2.1 c c1.1.1 c1.1.2).1; first | (rw [g1.2.1]; omega) | (have q5 := hp.2.2.2.2 c l c1.1.1 c1.1.2 c1.2.1 c1.2.2; rw [g1.2.2.1]; omega)), ?_⟩
    refine K_eq (h.1 c1 _ _ g1.1) ?_
    rw [g1.2.2.1, w32_id (x := r) (by omega) (by omega)]
    split
    · rename_i hk
      exact (rts_get g1.2.2.2.1 hk.1 hk.2).2.1.symm
    · rfl
  · skip
    (try simp (disch := omega) only [w32_0, wbi0, Classical.not_not, w32_id] at c1)
    exact h.2 c1
theorem qtX8_rootDepth (l : Launch) (hst : l.stackTraces = false) : am_CT l layX qeX8_rootDepth := am_met1 hst rfl (by decide +kernel) rfl rfl rfl rfl rfl (fun _ _ h => by cases h) rfl (qzX8_rootDepth l hst) (fun as F A K h => by
  replace h : qsX8_rootDepth as F A K := h
  unfold qsX8_rootDepth at h
  split at h
  · rename_i o c l r
    refine ⟨by first | exact Nat.le_of_ble_eq_true rfl | simp [am_fl, am_cat], ?_⟩
    replace h := am_cond2 h
    rcases h with ⟨hb, h⟩ | h
    · skip
      have hb0 := hb
      have hb0 := am_bq hb0
      subst hb0
      exact am_way_line (qvX8_rootDepth_0 c l r F A K h)
    exact h.elim
  · exact h.elim)
def qkX8_rootCell : Nat → Option CI := fun pc => cond (Nat.ble 21 pc) none (cond (Nat.ble 8 pc) (cond (Nat.ble 13 pc) (cond (Nat.ble 17 pc) (cond (Nat.beq pc 17) (some (.invokevirtual 232, 20, [])) (cond (Nat.beq pc 20) (some (.ireturn, 21, [])) (none))) (cond (Nat.beq pc 13) (some (.getfield 43, 16, [])) (cond (Nat.beq pc 16) (some (.iload_n 3, 17, [])) (none)))) (cond (Nat.beq pc 8) (some (.iload_n 2, 9, [])) (cond (Nat.beq pc 9) (some (.invokevirtual 216, 12, [])) (cond (Nat.beq pc 12) (some (.aload_n 0, 13, [])) (none))))) (cond (Nat.ble 3 pc) (cond (Nat.beq pc 3) (some (.invokevirtual 191, 6, [])) (cond (Nat.beq pc 6) (some (.aload_n 0, 7, [])) (cond (Nat.beq pc 7) (some (.iload_n 1, 8, [])) (none)))) (cond (Nat.beq pc 0) (some (.aload_n 0, 1, [])) (cond (Nat.beq pc 1) (some (.iload_n 1, 2, [])) (cond (Nat.beq pc 2) (some (.iload_n 2, 3, [])) (none))))))
theorem qkX8_rootCell_ok : ∀ pc i nx ts, qkX8_rootCell pc = some (i, nx, ts) → am_cok cX8_rootCell pc (i, nx, ts) = true := fun pc i nx ts h => am_tok_ok (n := 21) (by decide +kernel) (fun pc h => by show cond (Nat.ble 21 pc) _ _ = _; rw [Nat.ble_eq_true_of_le h]; rfl) h
def qaX8_rootCell : Nat → Option CE := fun k => cond (Nat.beq k 191) (some qeX8_requireCurveAndLine) (cond (Nat.beq k 216) (some qeX8_findRoots) (cond (Nat.beq k 232) (some qeX5_cellOf) (none)))
theorem qyX8_rootCell (l : Launch) (hst : l.stackTraces = false) : ∀ k e1, qaX8_rootCell k = some e1 → am_cal l layX RX8 21 k e1 ∧ True := q_cons ⟨am_calV (ci := 8) (qtX8_requireCurveAndLine l hst) qbX8_requireCurveAndLine (by decide) rfl (am_tb_at 1099 (by decide +kernel) rfl), trivial⟩ (q_cons ⟨am_calV (ci := 8) (qtX8_findRoots l) qbX8_findRoots (by decide) rfl (am_tb_at 1123 (by decide +kernel) rfl), trivial⟩ (q_cons ⟨am_calV (ci := 5) (qtX5_cellOf l) qbX5_cellOf (by decide) rfl (am_tb_at 1214 (by decide +kernel) rfl), trivial⟩ (q_nil)))
def qxX8_rootCell : CX := (qkX8_rootCell, layX, qfX8, qaX8_rootCell, qcX8, qlX8, qmX8, (some .int), true, none, 2, none, fun _ => none)
theorem qzX8_rootCell (l : Launch) (hst : l.stackTraces = false) : am_sta l qxX8_rootCell RX8 21 cX8_rootCell := ⟨qkX8_rootCell_ok, layX_ok, qfX8_ok, qcX8_ok, qlX8_ok, am_mthP qmX8_ok (by decide), fun k e1 h => (qyX8_rootCell l hst k e1 h).1⟩
def qsX8_rootCell : SP := fun as F A K => match as with
  | [.inr (.inr o), .inl c, .inl l, .inl r] => cond (Nat.beq o 0) ((fgOK (A 2) ∧ (-2147483648 ≤ c ∧ c < 2147483648) ∧ (-2147483648 ≤ l ∧ l < 2147483648) ∧ (-2147483648 ≤ r ∧ r < 2147483648) ∧ rtB (A 2)) ∧ (((0 ≤ c ∧ c < A 2 0) ∧ 0 ≤ l ∧ l < A 2 1 → (∀ (G_1 : FF) (B_1 : AA), (qrP F G_1 A B_1) → (K (some (some (vI (if 0 ≤ r ∧ r < ((rtsX (A 2) c l).length : Int) then ((rtsX (A 2) c l).getD (Int.toNat r) (0, 0, 0)).2.2 else -1)))) G_1 B_1))) ∧ (¬ ((0 ≤ c ∧ c < A 2 0) ∧ 0 ≤ l ∧ l < A 2 1) → (K none F A)))) (False)
  | _ => False
def qeX8_rootCell : CE := (yX8_rootCell, cX8_rootCell, 4, (some .int), 3, some 8, 1, none, 2, 21, qsX8_rootCell)
theorem qbX8_rootCell : am_mb qeX8_rootCell := ⟨am_tb_at 1213 (by decide +kernel) rfl, am_tb_at 35 (by decide +kernel) rfl, ⟨by decide, by decide, by decide +kernel⟩, by decide, am_tb_at 1211 (by decide +kernel) rfl, am_tb_at 1212 (by decide +kernel) rfl, _, _, rfl⟩
set_option maxRecDepth 20000 in
theorem qvX8_rootCell_0 (c : Int) (l : Int) (r : Int) (F : FF) (A : AA) (K : KK) (h : (fgOK (A 2) ∧ (-2147483648 ≤ c ∧ c < 2147483648) ∧ (-2147483648 ≤ l ∧ l < 2147483648) ∧ (-2147483648 ≤ r ∧ r < 2147483648) ∧ rtB (A 2)) ∧ (((0 ≤ c ∧ c < A 2 0) ∧ 0 ≤ l ∧ l < A 2 1 → (∀ (G_1 : FF) (B_1 : AA), (qrP F G_1 A B_1) → (K (some (some (vI (if 0 ≤ r ∧ r < ((rtsX (A 2) c l).length : Int) then ((rtsX (A 2) c l).getD (Int.toNat r) (0, 0, 0)).2.2 else -1)))) G_1 B_1))) ∧ (¬ ((0 ≤ c ∧ c < A 2 0) ∧ 0 ≤ l ∧ l < A 2 1) → (K none F A)))) : am_line qxX8_rootCell 14 [vR 0, vI c, vI l, vI r] 4 F A K := by
  show am_stp qxX8_rootCell (am_run qxX8_rootCell (fun _ => none) (fun _ _ _ _ _ _ => False) K 14) K 0 [some (vR 0), some (vI c), some (vI l), some (vI r)] [] F A 0
  obtain ⟨hp, h⟩ := h
  have p1 := hp.1
  have p2' := hp.2
  have q1 := p1.1.1
  have q2 := p1.1.2
  show ((0 ≤ A 2 0 ∧ A 2 0 ≤ 8) ∧ (0 ≤ A 2 1 ∧ A 2 1 ≤ 6) ∧ (-2147483648 ≤ c ∧ c < 2147483648) ∧ (-2147483648 ≤ l ∧ l < 2147483648)) ∧ (((0 ≤ c ∧ c < A 2 0) ∧ 0 ≤ l ∧ l < A 2 1 → ((fgOK (A 2) ∧ (0 ≤ c ∧ c < A 2 0) ∧ (0 ≤ l ∧ l < A 2 1) ∧ ((rtsX (A 2) c l).length : Int) ≤ 8) ∧ (∀ (G_1 : FF) (B_1 : AA), (qrP F G_1 A B_1 ∧ rcP G_1 B_1 (A 2) c l (rtsX (A 2) c l)) → ((0 ≤ (G_1 14 5) ∧ (G_1 14 5) ≤ 8) ∧ (K (some (some (vI (if 0 ≤ w32 r ∧ w32 r < (G_1 14 5) then B_1 18 (w32 r) else -1)))) G_1 B_1))))) ∧ (¬ ((0 ≤ c ∧ c < A 2 0) ∧ 0 ≤ l ∧ l < A 2 1) → (K none F A)))
  refine ⟨by exact ⟨p1.1.1, p1.1.2, hp.2.1, hp.2.2.1⟩, ?_⟩
  refine ⟨fun c1 => ?_, fun c1 => ?_⟩
  · skip
    (try simp (disch := omega) only [w32_0, wbi0, Classical.not_not, w32_id] at c1)
    refine ⟨by exact ⟨p1, c1.1, c1.2, hp.2.2.2.2 c l c1.1.1 c1.1.2 c1.2.1 c1.2.2⟩, ?_⟩
    intro G_1 B_1 g1
    refine ⟨by (have q3 := (p1.2.2.1 c c1.1.1 c1.1.2).1; first | (rw [g1.2.1]; omega) | (have q5 := hp.2.2.2.2 c l c1.1.1 c1.1.2 c1.2.1 c1.2.2; rw [g1.2.2.1]; omega)), ?_⟩
    refine K_eq (h.1 c1 _ _ g1.1) ?_
    rw [g1.2.2.1, w32_id (x := r) (by omega) (by omega)]
    split
    · rename_i hk
      exact (rts_get g1.2.2.2.1 hk.1 hk.2).2.2.symm
    · rfl
  · skip
    (try simp (disch := omega) only [w32_0, wbi0, Classical.not_not, w32_id] at c1)
    exact h.2 c1
theorem qtX8_rootCell (l : Launch) (hst : l.stackTraces = false) : am_CT l layX qeX8_rootCell := am_met1 hst rfl (by decide +kernel) rfl rfl rfl rfl rfl (fun _ _ h => by cases h) rfl (qzX8_rootCell l hst) (fun as F A K h => by
  replace h : qsX8_rootCell as F A K := h
  unfold qsX8_rootCell at h
  split at h
  · rename_i o c l r
    refine ⟨by first | exact Nat.le_of_ble_eq_true rfl | simp [am_fl, am_cat], ?_⟩
    replace h := am_cond2 h
    rcases h with ⟨hb, h⟩ | h
    · skip
      have hb0 := hb
      have hb0 := am_bq hb0
      subst hb0
      exact am_way_line (qvX8_rootCell_0 c l r F A K h)
    exact h.elim
  · exact h.elim)
def qkX8_isOn : Nat → Option CI := fun pc => cond (Nat.ble 13 pc) none (cond (Nat.ble 6 pc) (cond (Nat.ble 8 pc) (cond (Nat.beq pc 8) (some (.iload_n 2, 9, [])) (cond (Nat.beq pc 9) (some (.invokevirtual 205, 12, [])) (cond (Nat.beq pc 12) (some (.ireturn, 13, [])) (none)))) (cond (Nat.beq pc 6) (some (.aload_n 0, 7, [])) (cond (Nat.beq pc 7) (some (.iload_n 1, 8, [])) (none)))) (cond (Nat.ble 2 pc) (cond (Nat.beq pc 2) (some (.iload_n 2, 3, [])) (cond (Nat.beq pc 3) (some (.invokevirtual 191, 6, [])) (none))) (cond (Nat.beq pc 0) (some (.aload_n 0, 1, [])) (cond (Nat.beq pc 1) (some (.iload_n 1, 2, [])) (none)))))
theorem qkX8_isOn_ok : ∀ pc i nx ts, qkX8_isOn pc = some (i, nx, ts) → am_cok cX8_isOn pc (i, nx, ts) = true := fun pc i nx ts h => am_tok_ok (n := 13) (by decide +kernel) (fun pc h => by show cond (Nat.ble 13 pc) _ _ = _; rw [Nat.ble_eq_true_of_le h]; rfl) h
def qaX8_isOn : Nat → Option CE := fun k => cond (Nat.beq k 191) (some qeX8_requireCurveAndLine) (cond (Nat.beq k 205) (some qeX8_liesOn) (none))
theorem qyX8_isOn (l : Launch) (hst : l.stackTraces = false) : ∀ k e1, qaX8_isOn k = some e1 → am_cal l layX RX8 11 k e1 ∧ True := q_cons ⟨am_calV (ci := 8) (qtX8_requireCurveAndLine l hst) qbX8_requireCurveAndLine (by decide) rfl (am_tb_at 1099 (by decide +kernel) rfl), trivial⟩ (q_cons ⟨am_calV (ci := 8) (qtX8_liesOn l) qbX8_liesOn (by decide) rfl (am_tb_at 938 (by decide +kernel) rfl), trivial⟩ (q_nil))
def qxX8_isOn : CX := (qkX8_isOn, layX, qfX8, qaX8_isOn, qcX8, qlX8, qmX8, (some .boolean), true, none, 2, none, fun _ => none)
theorem qzX8_isOn (l : Launch) (hst : l.stackTraces = false) : am_sta l qxX8_isOn RX8 11 cX8_isOn := ⟨qkX8_isOn_ok, layX_ok, qfX8_ok, qcX8_ok, qlX8_ok, am_mthP qmX8_ok (by decide), fun k e1 h => (qyX8_isOn l hst k e1 h).1⟩
def qsX8_isOn : SP := fun as F A K => match as with
  | [.inr (.inr o), .inl c, .inl l] => cond (Nat.beq o 0) ((fgOK (A 2) ∧ (-2147483648 ≤ c ∧ c < 2147483648) ∧ (-2147483648 ≤ l ∧ l < 2147483648)) ∧ (((0 ≤ c ∧ c < A 2 0) ∧ 0 ≤ l ∧ l < A 2 1 → (∀ (G_1 : FF) (B_1 : AA), (qrP F G_1 A B_1) → (K (some (some (vI (bi (azP (cfL (A 2) c l) (Int.toNat (A 2 (18 + c)))))))) G_1 B_1))) ∧ (¬ ((0 ≤ c ∧ c < A 2 0) ∧ 0 ≤ l ∧ l < A 2 1) → (K none F A)))) (False)
  | _ => False
def qeX8_isOn : CE := (yX8_isOn, cX8_isOn, 3, (some .boolean), 2, some 8, 1, none, 2, 11, qsX8_isOn)
theorem qbX8_isOn : am_mb qeX8_isOn := ⟨am_tb_at 1108 (by decide +kernel) rfl, am_tb_at 35 (by decide +kernel) rfl, ⟨by decide, by decide, by decide +kernel⟩, by decide, am_tb_at 1106 (by decide +kernel) rfl, am_tb_at 1107 (by decide +kernel) rfl, _, _, rfl⟩
set_option maxRecDepth 20000 in
theorem qvX8_isOn_0 (c : Int) (l : Int) (F : FF) (A : AA) (K : KK) (h : (fgOK (A 2) ∧ (-2147483648 ≤ c ∧ c < 2147483648) ∧ (-2147483648 ≤ l ∧ l < 2147483648)) ∧ (((0 ≤ c ∧ c < A 2 0) ∧ 0 ≤ l ∧ l < A 2 1 → (∀ (G_1 : FF) (B_1 : AA), (qrP F G_1 A B_1) → (K (some (some (vI (bi (azP (cfL (A 2) c l) (Int.toNat (A 2 (18 + c)))))))) G_1 B_1))) ∧ (¬ ((0 ≤ c ∧ c < A 2 0) ∧ 0 ≤ l ∧ l < A 2 1) → (K none F A)))) : am_line qxX8_isOn 10 [vR 0, vI c, vI l] 3 F A K := by
  show am_stp qxX8_isOn (am_run qxX8_isOn (fun _ => none) (fun _ _ _ _ _ _ => False) K 10) K 0 [some (vR 0), some (vI c), some (vI l)] [] F A 0
  obtain ⟨hp, h⟩ := h
  have p1 := hp.1
  have p2' := hp.2
  have q1 := p1.1.1
  have q2 := p1.1.2
  show ((0 ≤ A 2 0 ∧ A 2 0 ≤ 8) ∧ (0 ≤ A 2 1 ∧ A 2 1 ≤ 6) ∧ (-2147483648 ≤ c ∧ c < 2147483648) ∧ (-2147483648 ≤ l ∧ l < 2147483648)) ∧ (((0 ≤ c ∧ c < A 2 0) ∧ 0 ≤ l ∧ l < A 2 1 → ((fgOK (A 2) ∧ (0 ≤ c ∧ c < A 2 0) ∧ (0 ≤ l ∧ l < A 2 1)) ∧ (∀ (G_1 : FF) (B_1 : AA), (qrP F G_1 A B_1) → (((bi (azP (cfL (A 2) c l) (Int.toNat (A 2 (18 + c))))) = 0 ∨ (bi (azP (cfL (A 2) c l) (Int.toNat (A 2 (18 + c))))) = 1) ∧ (K (some (some (vI (bi (azP (cfL (A 2) c l) (Int.toNat (A 2 (18 + c)))))))) G_1 B_1))))) ∧ (¬ ((0 ≤ c ∧ c < A 2 0) ∧ 0 ≤ l ∧ l < A 2 1) → (K none F A)))
  refine ⟨by exact ⟨p1.1.1, p1.1.2, hp.2⟩, ?_⟩
  refine ⟨fun c1 => ?_, fun c1 => ?_⟩
  · skip
    (try simp (disch := omega) only [w32_0, wbi0, Classical.not_not, w32_id] at c1)
    refine ⟨by exact ⟨p1, c1⟩, ?_⟩
    intro G_1 B_1 g1
    refine ⟨by exact bi_01, ?_⟩
    exact h.1 c1 _ _ g1
  · skip
    (try simp (disch := omega) only [w32_0, wbi0, Classical.not_not, w32_id] at c1)
    exact h.2 c1
theorem qtX8_isOn (l : Launch) (hst : l.stackTraces = false) : am_CT l layX qeX8_isOn := am_met1 hst rfl (by decide +kernel) rfl rfl rfl rfl rfl (fun _ _ h => by cases h) rfl (qzX8_isOn l hst) (fun as F A K h => by
  replace h : qsX8_isOn as F A K := h
  unfold qsX8_isOn at h
  split at h
  · rename_i o c l
    refine ⟨by first | exact Nat.le_of_ble_eq_true rfl | simp [am_fl, am_cat], ?_⟩
    replace h := am_cond2 h
    rcases h with ⟨hb, h⟩ | h
    · skip
      have hb0 := hb
      have hb0 := am_bq hb0
      subst hb0
      exact am_way_line (qvX8_isOn_0 c l F A K h)
    exact h.elim
  · exact h.elim)
