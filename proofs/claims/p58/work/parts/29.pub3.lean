def qkX8_lineNumber : Nat → Option CI := fun pc => cond (Nat.ble 30 pc) none (cond (Nat.ble 14 pc) (cond (Nat.ble 20 pc) (cond (Nat.ble 26 pc) (cond (Nat.beq pc 26) (some (.sipush 1000, 29, [])) (cond (Nat.beq pc 29) (some (.ireturn, 30, [])) (none))) (cond (Nat.beq pc 20) (some (.invokevirtual 144, 23, [])) (cond (Nat.beq pc 23) (some (.goto 6, 26, [29])) (none)))) (cond (Nat.ble 18 pc) (cond (Nat.beq pc 18) (some (.iload_n 1, 19, [])) (cond (Nat.beq pc 19) (some (.iload_n 2, 20, [])) (none))) (cond (Nat.beq pc 14) (some (.aload_n 0, 15, [])) (cond (Nat.beq pc 15) (some (.getfield 10, 18, [])) (none))))) (cond (Nat.ble 6 pc) (cond (Nat.ble 8 pc) (cond (Nat.beq pc 8) (some (.invokestatic 133, 11, [])) (cond (Nat.beq pc 11) (some (.ifCond .eq 15, 14, [26])) (none))) (cond (Nat.beq pc 6) (some (.iconst 0, 7, [])) (cond (Nat.beq pc 7) (some (.iconst 2, 8, [])) (none)))) (cond (Nat.ble 2 pc) (cond (Nat.beq pc 2) (some (.invokevirtual 141, 5, [])) (cond (Nat.beq pc 5) (some (.iload_n 2, 6, [])) (none))) (cond (Nat.beq pc 0) (some (.aload_n 0, 1, [])) (cond (Nat.beq pc 1) (some (.iload_n 1, 2, [])) (none))))))
theorem qkX8_lineNumber_ok : ∀ pc i nx ts, qkX8_lineNumber pc = some (i, nx, ts) → am_cok cX8_lineNumber pc (i, nx, ts) = true := fun pc i nx ts h => am_tok_ok (n := 30) (by decide +kernel) (fun pc h => by show cond (Nat.ble 30 pc) _ _ = _; rw [Nat.ble_eq_true_of_le h]; rfl) h
def qaX8_lineNumber : Nat → Option CE := fun k => cond (Nat.beq k 141) (some qeX8_requireLine) (cond (Nat.beq k 133) (some qeX8_isWithin) (cond (Nat.beq k 144) (some qeX2_lineValue) (none)))
theorem qyX8_lineNumber (l : Launch) (hst : l.stackTraces = false) : ∀ k e1, qaX8_lineNumber k = some e1 → am_cal l layX RX8 10 k e1 ∧ True := q_cons ⟨am_calV (ci := 8) (qtX8_requireLine l hst) qbX8_requireLine (by decide) rfl (am_tb_at 1089 (by decide +kernel) rfl), trivial⟩ (q_cons ⟨am_calS (qtX8_isWithin l) qbX8_isWithin (by decide) rfl (by decide) (am_tb_at 875 (by decide +kernel) rfl), trivial⟩ (q_cons ⟨am_calV (ci := 2) (qtX2_lineValue l) qbX2_lineValue (by decide) rfl (am_tb_at 1094 (by decide +kernel) rfl), trivial⟩ (q_nil)))
def qxX8_lineNumber : CX := (qkX8_lineNumber, layX, qfX8, qaX8_lineNumber, qcX8, qlX8, qmX8, (some .int), true, none, 1, none, fun _ => none)
theorem qzX8_lineNumber (l : Launch) (hst : l.stackTraces = false) : am_sta l qxX8_lineNumber RX8 10 cX8_lineNumber := ⟨qkX8_lineNumber_ok, layX_ok, qfX8_ok, qcX8_ok, qlX8_ok, am_mthP qmX8_ok (by decide), fun k e1 h => (qyX8_lineNumber l hst k e1 h).1⟩
def qsX8_lineNumber : SP := fun as F A K => match as with
  | [.inr (.inr o), .inl l, .inl w] => cond (Nat.beq o 0) ((fgOK (A 2) ∧ (-2147483648 ≤ l ∧ l < 2147483648) ∧ (-2147483648 ≤ w ∧ w < 2147483648)) ∧ ((0 ≤ l ∧ l < A 2 1 → (K (some (some (vI (if 0 ≤ w ∧ w ≤ 2 then A 2 (122 + l * 3 + w) else 1000)))) F A)) ∧ (¬ (0 ≤ l ∧ l < A 2 1) → (K none F A)))) (False)
  | _ => False
def qeX8_lineNumber : CE := (yX8_lineNumber, cX8_lineNumber, 3, (some .int), 2, some 8, 1, none, 1, 10, qsX8_lineNumber)
theorem qbX8_lineNumber : am_mb qeX8_lineNumber := ⟨am_tb_at 1088 (by decide +kernel) rfl, am_tb_at 35 (by decide +kernel) rfl, ⟨by decide, by decide, by decide +kernel⟩, by decide, am_tb_at 1086 (by decide +kernel) rfl, am_tb_at 1087 (by decide +kernel) rfl, _, _, rfl⟩
set_option maxRecDepth 20000 in
theorem qvX8_lineNumber_0 (l : Int) (w : Int) (F : FF) (A : AA) (K : KK) (h : (fgOK (A 2) ∧ (-2147483648 ≤ l ∧ l < 2147483648) ∧ (-2147483648 ≤ w ∧ w < 2147483648)) ∧ ((0 ≤ l ∧ l < A 2 1 → (K (some (some (vI (if 0 ≤ w ∧ w ≤ 2 then A 2 (122 + l * 3 + w) else 1000)))) F A)) ∧ (¬ (0 ≤ l ∧ l < A 2 1) → (K none F A)))) : am_line qxX8_lineNumber 16 [vR 0, vI l, vI w] 3 F A K := by
  show am_stp qxX8_lineNumber (am_run qxX8_lineNumber (fun _ => none) (fun _ _ _ _ _ _ => False) K 16) K 0 [some (vR 0), some (vI l), some (vI w)] [] F A 0
  obtain ⟨hp, h⟩ := h
  have p1 := hp.1
  have p2' := hp.2
  have q1 := p1.1.1
  have q2 := p1.1.2
  show ((0 ≤ A 2 0 ∧ A 2 0 ≤ 8) ∧ (0 ≤ A 2 1 ∧ A 2 1 ≤ 6) ∧ (-2147483648 ≤ l ∧ l < 2147483648)) ∧ ((0 ≤ l ∧ l < A 2 1 → ((w32 (bi (w32 0 ≤ w32 w ∧ w32 w ≤ w32 2)) = w32 0 → (K (some (some (vI 1000))) F A)) ∧ (¬ (w32 (bi (w32 0 ≤ w32 w ∧ w32 w ≤ w32 2)) = w32 0) → (K (some (some (vI (fat (A 2) (122 + l * 3 + w))))) F A)))) ∧ (¬ (0 ≤ l ∧ l < A 2 1) → (K none F A)))
  refine ⟨by first | exact ⟨p1.1.1, p1.1.2, by omega⟩ | exact ⟨p1.1.1, p1.1.2, by omega, by omega⟩ | omega, ?_⟩
  refine ⟨fun c1 => ?_, fun c1 => ?_⟩
  · skip
    (try simp (disch := omega) only [fat_in] at c1); (try simp (disch := omega) only [w32_0, wbi0, Classical.not_not, w32_id] at c1)
    refine ⟨fun c2 => ?_, fun c2 => ?_⟩
    · skip
      (try simp (disch := omega) only [fat_in] at c2); (try simp (disch := omega) only [w32_0, wbi0, Classical.not_not, w32_id] at c2)
      first | exact K_eq (h.1 c1) (if_neg (by omega)) | (simp (disch := omega) only [fat_in]; exact K_eq (h.1 c1) (if_pos (by omega)))
    · skip
      (try simp (disch := omega) only [fat_in] at c2); (try simp (disch := omega) only [w32_0, wbi0, Classical.not_not, w32_id] at c2)
      first | exact K_eq (h.1 c1) (if_neg (by omega)) | (simp (disch := omega) only [fat_in]; exact K_eq (h.1 c1) (if_pos (by omega)))
  · skip
    (try simp (disch := omega) only [fat_in] at c1); (try simp (disch := omega) only [w32_0, wbi0, Classical.not_not, w32_id] at c1)
    exact h.2 c1
theorem qtX8_lineNumber (l : Launch) (hst : l.stackTraces = false) : am_CT l layX qeX8_lineNumber := am_met1 hst rfl (by decide +kernel) rfl rfl rfl rfl rfl (fun _ _ h => by cases h) rfl (qzX8_lineNumber l hst) (fun as F A K h => by
  replace h : qsX8_lineNumber as F A K := h
  unfold qsX8_lineNumber at h
  split at h
  · rename_i o l w
    refine ⟨by first | exact Nat.le_of_ble_eq_true rfl | simp [am_fl, am_cat], ?_⟩
    replace h := am_cond2 h
    rcases h with ⟨hb, h⟩ | h
    · skip
      have hb0 := hb
      have hb0 := am_bq hb0
      subst hb0
      exact am_way_line (qvX8_lineNumber_0 l w F A K h)
    exact h.elim
  · exact h.elim)
def qkX8_coefficient : Nat → Option CI := fun pc => cond (Nat.ble 34 pc) none (cond (Nat.ble 15 pc) (cond (Nat.ble 24 pc) (cond (Nat.ble 28 pc) (cond (Nat.beq pc 28) (some (.goto 5, 31, [33])) (cond (Nat.beq pc 31) (some (.ldc 198, 33, [])) (cond (Nat.beq pc 33) (some (.ireturn, 34, [])) (none)))) (cond (Nat.beq pc 24) (some (.iload_n 3, 25, [])) (cond (Nat.beq pc 25) (some (.invokevirtual 195, 28, [])) (none)))) (cond (Nat.ble 19 pc) (cond (Nat.beq pc 19) (some (.getfield 10, 22, [])) (cond (Nat.beq pc 22) (some (.iload_n 1, 23, [])) (cond (Nat.beq pc 23) (some (.iload_n 2, 24, [])) (none)))) (cond (Nat.beq pc 15) (some (.ifCond .eq 16, 18, [31])) (cond (Nat.beq pc 18) (some (.aload_n 0, 19, [])) (none))))) (cond (Nat.ble 6 pc) (cond (Nat.ble 10 pc) (cond (Nat.beq pc 10) (some (.iload_n 1, 11, [])) (cond (Nat.beq pc 11) (some (.iload_n 3, 12, [])) (cond (Nat.beq pc 12) (some (.invokevirtual 129, 15, [])) (none)))) (cond (Nat.beq pc 6) (some (.aload_n 0, 7, [])) (cond (Nat.beq pc 7) (some (.getfield 10, 10, [])) (none)))) (cond (Nat.ble 2 pc) (cond (Nat.beq pc 2) (some (.iload_n 2, 3, [])) (cond (Nat.beq pc 3) (some (.invokevirtual 191, 6, [])) (none))) (cond (Nat.beq pc 0) (some (.aload_n 0, 1, [])) (cond (Nat.beq pc 1) (some (.iload_n 1, 2, [])) (none))))))
theorem qkX8_coefficient_ok : ∀ pc i nx ts, qkX8_coefficient pc = some (i, nx, ts) → am_cok cX8_coefficient pc (i, nx, ts) = true := fun pc i nx ts h => am_tok_ok (n := 34) (by decide +kernel) (fun pc h => by show cond (Nat.ble 34 pc) _ _ = _; rw [Nat.ble_eq_true_of_le h]; rfl) h
def qaX8_coefficient : Nat → Option CE := fun k => cond (Nat.beq k 191) (some qeX8_requireCurveAndLine) (cond (Nat.beq k 129) (some qeX2_hasPoint) (cond (Nat.beq k 195) (some qeX2_cutNumber) (none)))
theorem qyX8_coefficient (l : Launch) (hst : l.stackTraces = false) : ∀ k e1, qaX8_coefficient k = some e1 → am_cal l layX RX8 11 k e1 ∧ True := q_cons ⟨am_calV (ci := 8) (qtX8_requireCurveAndLine l hst) qbX8_requireCurveAndLine (by decide) rfl (am_tb_at 1099 (by decide +kernel) rfl), trivial⟩ (q_cons ⟨am_calV (ci := 2) (qtX2_hasPoint l) qbX2_hasPoint (by decide) rfl (am_tb_at 867 (by decide +kernel) rfl), trivial⟩ (q_cons ⟨am_calV (ci := 2) (qtX2_cutNumber l) qbX2_cutNumber (by decide) rfl (am_tb_at 1103 (by decide +kernel) rfl), trivial⟩ (q_nil)))
def qxX8_coefficient : CX := (qkX8_coefficient, layX, qfX8, qaX8_coefficient, qcX8, qlX8, qmX8, (some .int), true, none, 2, none, fun _ => none)
theorem qzX8_coefficient (l : Launch) (hst : l.stackTraces = false) : am_sta l qxX8_coefficient RX8 11 cX8_coefficient := ⟨qkX8_coefficient_ok, layX_ok, qfX8_ok, qcX8_ok, qlX8_ok, am_mthP qmX8_ok (by decide), fun k e1 h => (qyX8_coefficient l hst k e1 h).1⟩
def qsX8_coefficient : SP := fun as F A K => match as with
  | [.inr (.inr o), .inl c, .inl l, .inl k] => cond (Nat.beq o 0) ((fgOK (A 2) ∧ (-2147483648 ≤ c ∧ c < 2147483648) ∧ (-2147483648 ≤ l ∧ l < 2147483648) ∧ (-2147483648 ≤ k ∧ k < 2147483648)) ∧ (((0 ≤ c ∧ c < A 2 0) ∧ 0 ≤ l ∧ l < A 2 1 → (K (some (some (vI (if 0 ≤ k ∧ k < A 2 (18 + c) then cfR (A 2) c l k else -100000)))) F A)) ∧ (¬ ((0 ≤ c ∧ c < A 2 0) ∧ 0 ≤ l ∧ l < A 2 1) → (K none F A)))) (False)
  | _ => False
def qeX8_coefficient : CE := (yX8_coefficient, cX8_coefficient, 4, (some .int), 3, some 8, 1, none, 2, 11, qsX8_coefficient)
theorem qbX8_coefficient : am_mb qeX8_coefficient := ⟨am_tb_at 1098 (by decide +kernel) rfl, am_tb_at 35 (by decide +kernel) rfl, ⟨by decide, by decide, by decide +kernel⟩, by decide, am_tb_at 1096 (by decide +kernel) rfl, am_tb_at 1097 (by decide +kernel) rfl, _, _, rfl⟩
set_option maxRecDepth 20000 in
theorem qvX8_coefficient_0 (c : Int) (l : Int) (k : Int) (F : FF) (A : AA) (K : KK) (h : (fgOK (A 2) ∧ (-2147483648 ≤ c ∧ c < 2147483648) ∧ (-2147483648 ≤ l ∧ l < 2147483648) ∧ (-2147483648 ≤ k ∧ k < 2147483648)) ∧ (((0 ≤ c ∧ c < A 2 0) ∧ 0 ≤ l ∧ l < A 2 1 → (K (some (some (vI (if 0 ≤ k ∧ k < A 2 (18 + c) then cfR (A 2) c l k else -100000)))) F A)) ∧ (¬ ((0 ≤ c ∧ c < A 2 0) ∧ 0 ≤ l ∧ l < A 2 1) → (K none F A)))) : am_line qxX8_coefficient 19 [vR 0, vI c, vI l, vI k] 4 F A K := by
  show am_stp qxX8_coefficient (am_run qxX8_coefficient (fun _ => none) (fun _ _ _ _ _ _ => False) K 19) K 0 [some (vR 0), some (vI c), some (vI l), some (vI k)] [] F A 0
  obtain ⟨hp, h⟩ := h
  have p1 := hp.1
  have p2' := hp.2
  have q1 := p1.1.1
  have q2 := p1.1.2
  show ((0 ≤ A 2 0 ∧ A 2 0 ≤ 8) ∧ (0 ≤ A 2 1 ∧ A 2 1 ≤ 6) ∧ (-2147483648 ≤ c ∧ c < 2147483648) ∧ (-2147483648 ≤ l ∧ l < 2147483648)) ∧ (((0 ≤ c ∧ c < A 2 0) ∧ 0 ≤ l ∧ l < A 2 1 → ((w32 (bi (0 ≤ w32 c ∧ w32 c < w32 (fat (A 2) 0) ∧ 0 ≤ w32 k ∧ w32 k < w32 (fat (A 2) (18 + c)))) = w32 0 → (K (some (some (vI (-100000)))) F A)) ∧ (¬ (w32 (bi (0 ≤ w32 c ∧ w32 c < w32 (fat (A 2) 0) ∧ 0 ≤ w32 k ∧ w32 k < w32 (fat (A 2) (18 + c)))) = w32 0) → (K (some (some (vI ((fat (A 2) (26 + (c * 4 + k) * 3 + 2)) * (fat (A 2) (122 + l * 3 + 0) * (fat (A 2) (26 + (c * 4 + k) * 3 + 0)) + fat (A 2) (122 + l * 3 + 1) * (fat (A 2) (26 + (c * 4 + k) * 3 + 1)) + fat (A 2) (122 + l * 3 + 2)))))) F A)))) ∧ (¬ ((0 ≤ c ∧ c < A 2 0) ∧ 0 ≤ l ∧ l < A 2 1) → (K none F A)))
  refine ⟨by first | exact ⟨p1.1.1, p1.1.2, by omega⟩ | exact ⟨p1.1.1, p1.1.2, by omega, by omega⟩ | omega, ?_⟩
  refine ⟨fun c1 => ?_, fun c1 => ?_⟩
  · skip
    (try simp (disch := omega) only [fat_in] at c1); (try simp (disch := omega) only [w32_0, wbi0, Classical.not_not, w32_id] at c1); (try (have q3 := (p1.2.2.1 c c1.1.1 c1.1.2).1; simp (disch := omega) only [fat_in, w32_id] at c1))
    refine ⟨fun c2 => ?_, fun c2 => ?_⟩
    · skip
      (try simp (disch := omega) only [fat_in] at c2); (try simp (disch := omega) only [w32_0, wbi0, Classical.not_not, w32_id] at c2); (try (have q3 := (p1.2.2.1 c c1.1.1 c1.1.2).1; simp (disch := omega) only [fat_in, w32_id] at c2))
      have q3 := (p1.2.2.1 c c1.1.1 c1.1.2).1
      first | exact K_eq (h.1 c1) (if_neg (by omega)) | (simp (disch := omega) only [fat_in]; exact K_eq (h.1 c1) (if_pos (by omega)))
    · skip
      (try simp (disch := omega) only [fat_in] at c2); (try simp (disch := omega) only [w32_0, wbi0, Classical.not_not, w32_id] at c2); (try (have q3 := (p1.2.2.1 c c1.1.1 c1.1.2).1; simp (disch := omega) only [fat_in, w32_id] at c2))
      have q3 := (p1.2.2.1 c c1.1.1 c1.1.2).1
      first | exact K_eq (h.1 c1) (if_neg (by omega)) | (simp (disch := omega) only [fat_in]; exact K_eq (h.1 c1) (if_pos (by omega)))
  · skip
    (try simp (disch := omega) only [fat_in] at c1); (try simp (disch := omega) only [w32_0, wbi0, Classical.not_not, w32_id] at c1); (try (have q3 := (p1.2.2.1 c c1.1.1 c1.1.2).1; simp (disch := omega) only [fat_in, w32_id] at c1))
    exact h.2 c1
theorem qtX8_coefficient (l : Launch) (hst : l.stackTraces = false) : am_CT l layX qeX8_coefficient := am_met1 hst rfl (by decide +kernel) rfl rfl rfl rfl rfl (fun _ _ h => by cases h) rfl (qzX8_coefficient l hst) (fun as F A K h => by
  replace h : qsX8_coefficient as F A K := h
  unfold qsX8_coefficient at h
  split at h
  · rename_i o c l k
    refine ⟨by first | exact Nat.le_of_ble_eq_true rfl | simp [am_fl, am_cat], ?_⟩
    replace h := am_cond2 h
    rcases h with ⟨hb, h⟩ | h
    · skip
      have hb0 := hb
      have hb0 := am_bq hb0
      subst hb0
      exact am_way_line (qvX8_coefficient_0 c l k F A K h)
    exact h.elim
  · exact h.elim)
def qkX8_sideOf : Nat → Option CI := fun pc => cond (Nat.ble 36 pc) none (cond (Nat.ble 16 pc) (cond (Nat.ble 25 pc) (cond (Nat.ble 31 pc) (cond (Nat.beq pc 31) (some (.i2l, 32, [])) (cond (Nat.beq pc 32) (some (.invokestatic 212, 35, [])) (cond (Nat.beq pc 35) (some (.ireturn, 36, [])) (none)))) (cond (Nat.beq pc 25) (some (.invokevirtual 126, 28, [])) (cond (Nat.beq pc 28) (some (.invokevirtual 195, 31, [])) (none)))) (cond (Nat.ble 20 pc) (cond (Nat.beq pc 20) (some (.aload_n 0, 21, [])) (cond (Nat.beq pc 21) (some (.getfield 10, 24, [])) (cond (Nat.beq pc 24) (some (.iload_n 1, 25, [])) (none)))) (cond (Nat.beq pc 16) (some (.iconst 0, 17, [])) (cond (Nat.beq pc 17) (some (.goto 11, 20, [28])) (none))))) (cond (Nat.ble 7 pc) (cond (Nat.ble 11 pc) (cond (Nat.beq pc 11) (some (.iload_n 2, 12, [])) (cond (Nat.beq pc 12) (some (.iload_n 3, 13, [])) (cond (Nat.beq pc 13) (some (.ifCond .ne 7, 16, [20])) (none)))) (cond (Nat.beq pc 7) (some (.getfield 10, 10, [])) (cond (Nat.beq pc 10) (some (.iload_n 1, 11, [])) (none)))) (cond (Nat.ble 2 pc) (cond (Nat.beq pc 2) (some (.iload_n 2, 3, [])) (cond (Nat.beq pc 3) (some (.invokevirtual 191, 6, [])) (cond (Nat.beq pc 6) (some (.aload_n 0, 7, [])) (none)))) (cond (Nat.beq pc 0) (some (.aload_n 0, 1, [])) (cond (Nat.beq pc 1) (some (.iload_n 1, 2, [])) (none))))))
theorem qkX8_sideOf_ok : ∀ pc i nx ts, qkX8_sideOf pc = some (i, nx, ts) → am_cok cX8_sideOf pc (i, nx, ts) = true := fun pc i nx ts h => am_tok_ok (n := 36) (by decide +kernel) (fun pc h => by show cond (Nat.ble 36 pc) _ _ = _; rw [Nat.ble_eq_true_of_le h]; rfl) h
def qaX8_sideOf : Nat → Option CE := fun k => cond (Nat.beq k 191) (some qeX8_requireCurveAndLine) (cond (Nat.beq k 126) (some qeX2_top) (cond (Nat.beq k 195) (some qeX2_cutNumber) (cond (Nat.beq k 212) (some qeX8_signOf) (none))))
theorem qyX8_sideOf (l : Launch) (hst : l.stackTraces = false) : ∀ k e1, qaX8_sideOf k = some e1 → am_cal l layX RX8 11 k e1 ∧ True := q_cons ⟨am_calV (ci := 8) (qtX8_requireCurveAndLine l hst) qbX8_requireCurveAndLine (by decide) rfl (am_tb_at 1099 (by decide +kernel) rfl), trivial⟩ (q_cons ⟨am_calV (ci := 2) (qtX2_top l) qbX2_top (by decide) rfl (am_tb_at 850 (by decide +kernel) rfl), trivial⟩ (q_cons ⟨am_calV (ci := 2) (qtX2_cutNumber l) qbX2_cutNumber (by decide) rfl (am_tb_at 1103 (by decide +kernel) rfl), trivial⟩ (q_cons ⟨am_calS (qtX8_signOf l) qbX8_signOf (by decide) rfl (by decide) (am_tb_at 1113 (by decide +kernel) rfl), trivial⟩ (q_nil))))
def qxX8_sideOf : CX := (qkX8_sideOf, layX, qfX8, qaX8_sideOf, qcX8, qlX8, qmX8, (some .int), true, none, 2, none, fun _ => none)
theorem qzX8_sideOf (l : Launch) (hst : l.stackTraces = false) : am_sta l qxX8_sideOf RX8 11 cX8_sideOf := ⟨qkX8_sideOf_ok, layX_ok, qfX8_ok, qcX8_ok, qlX8_ok, am_mthP qmX8_ok (by decide), fun k e1 h => (qyX8_sideOf l hst k e1 h).1⟩
def qsX8_sideOf : SP := fun as F A K => match as with
  | [.inr (.inr o), .inl c, .inl l, .inl e] => cond (Nat.beq o 0) ((fgOK (A 2) ∧ (-2147483648 ≤ c ∧ c < 2147483648) ∧ (-2147483648 ≤ l ∧ l < 2147483648) ∧ (-2147483648 ≤ e ∧ e < 2147483648)) ∧ (((0 ≤ c ∧ c < A 2 0) ∧ 0 ≤ l ∧ l < A 2 1 → (K (some (some (vI (sg (w64 (w32 (cfR (A 2) c l (if e = 0 then 0 else A 2 (18 + c) - 1)))))))) F A)) ∧ (¬ ((0 ≤ c ∧ c < A 2 0) ∧ 0 ≤ l ∧ l < A 2 1) → (K none F A)))) (False)
  | _ => False
def qeX8_sideOf : CE := (yX8_sideOf, cX8_sideOf, 4, (some .int), 3, some 8, 1, none, 2, 11, qsX8_sideOf)
theorem qbX8_sideOf : am_mb qeX8_sideOf := ⟨am_tb_at 1112 (by decide +kernel) rfl, am_tb_at 35 (by decide +kernel) rfl, ⟨by decide, by decide, by decide +kernel⟩, by decide, am_tb_at 1110 (by decide +kernel) rfl, am_tb_at 1111 (by decide +kernel) rfl, _, _, rfl⟩
set_option maxRecDepth 20000 in
theorem qvX8_sideOf_0 (c : Int) (l : Int) (e : Int) (F : FF) (A : AA) (K : KK) (h : (fgOK (A 2) ∧ (-2147483648 ≤ c ∧ c < 2147483648) ∧ (-2147483648 ≤ l ∧ l < 2147483648) ∧ (-2147483648 ≤ e ∧ e < 2147483648)) ∧ (((0 ≤ c ∧ c < A 2 0) ∧ 0 ≤ l ∧ l < A 2 1 → (K (some (some (vI (sg (w64 (w32 (cfR (A 2) c l (if e = 0 then 0 else A 2 (18 + c) - 1)))))))) F A)) ∧ (¬ ((0 ≤ c ∧ c < A 2 0) ∧ 0 ≤ l ∧ l < A 2 1) → (K none F A)))) : am_line qxX8_sideOf 19 [vR 0, vI c, vI l, vI e] 4 F A K := by
  show am_stp qxX8_sideOf (am_run qxX8_sideOf (fun _ => none) (fun _ _ _ _ _ _ => False) K 19) K 0 [some (vR 0), some (vI c), some (vI l), some (vI e)] [] F A 0
  obtain ⟨hp, h⟩ := h
  have p1 := hp.1
  have p2' := hp.2
  have q1 := p1.1.1
  have q2 := p1.1.2
  show ((0 ≤ A 2 0 ∧ A 2 0 ≤ 8) ∧ (0 ≤ A 2 1 ∧ A 2 1 ≤ 6) ∧ (-2147483648 ≤ c ∧ c < 2147483648) ∧ (-2147483648 ≤ l ∧ l < 2147483648)) ∧ (((0 ≤ c ∧ c < A 2 0) ∧ 0 ≤ l ∧ l < A 2 1 → ((w32 e = w32 0 → (K (some (some (vI (sg (w64 (w32 ((fat (A 2) (26 + (c * 4 + 0) * 3 + 2)) * (fat (A 2) (122 + l * 3 + 0) * (fat (A 2) (26 + (c * 4 + 0) * 3 + 0)) + fat (A 2) (122 + l * 3 + 1) * (fat (A 2) (26 + (c * 4 + 0) * 3 + 1)) + fat (A 2) (122 + l * 3 + 2))))))))) F A)) ∧ (¬ w32 e = w32 0 → (K (some (some (vI (sg (w64 (w32 ((fat (A 2) (26 + (c * 4 + (fat (A 2) (18 + c) - 1)) * 3 + 2)) * (fat (A 2) (122 + l * 3 + 0) * (fat (A 2) (26 + (c * 4 + (fat (A 2) (18 + c) - 1)) * 3 + 0)) + fat (A 2) (122 + l * 3 + 1) * (fat (A 2) (26 + (c * 4 + (fat (A 2) (18 + c) - 1)) * 3 + 1)) + fat (A 2) (122 + l * 3 + 2))))))))) F A)))) ∧ (¬ ((0 ≤ c ∧ c < A 2 0) ∧ 0 ≤ l ∧ l < A 2 1) → (K none F A)))
  refine ⟨by first | exact ⟨p1.1.1, p1.1.2, by omega⟩ | exact ⟨p1.1.1, p1.1.2, by omega, by omega⟩ | omega, ?_⟩
  refine ⟨fun c1 => ?_, fun c1 => ?_⟩
  · skip
    (try have q3 := (p1.2.2.1 c c1.1.1 c1.1.2).1); (try simp (disch := omega) only [fat_in, w32_0, w32_id] at c1)
    refine ⟨fun c2 => ?_, fun c2 => ?_⟩
    · skip
      (try have q3 := (p1.2.2.1 c c1.1.1 c1.1.2).1); (try simp (disch := omega) only [fat_in, w32_0, w32_id] at c2)
      have q3 := (p1.2.2.1 c c1.1.1 c1.1.2).1
      simp (disch := omega) only [fat_in]
      exact K_eq (h.1 c1) (by rw [if_pos c2]; rfl)
    · skip
      (try have q3 := (p1.2.2.1 c c1.1.1 c1.1.2).1); (try simp (disch := omega) only [fat_in, w32_0, w32_id] at c2)
      have q3 := (p1.2.2.1 c c1.1.1 c1.1.2).1
      simp (disch := omega) only [fat_in]
      exact K_eq (h.1 c1) (by rw [if_neg c2]; rfl)
  · skip
    (try have q3 := (p1.2.2.1 c c1.1.1 c1.1.2).1); (try simp (disch := omega) only [fat_in, w32_0, w32_id] at c1)
    exact h.2 c1
theorem qtX8_sideOf (l : Launch) (hst : l.stackTraces = false) : am_CT l layX qeX8_sideOf := am_met1 hst rfl (by decide +kernel) rfl rfl rfl rfl rfl (fun _ _ h => by cases h) rfl (qzX8_sideOf l hst) (fun as F A K h => by
  replace h : qsX8_sideOf as F A K := h
  unfold qsX8_sideOf at h
  split at h
  · rename_i o c l e
    refine ⟨by first | exact Nat.le_of_ble_eq_true rfl | simp [am_fl, am_cat], ?_⟩
    replace h := am_cond2 h
    rcases h with ⟨hb, h⟩ | h
    · skip
      have hb0 := hb
      have hb0 := am_bq hb0
      subst hb0
      exact am_way_line (qvX8_sideOf_0 c l e F A K h)
    exact h.elim
  · exact h.elim)