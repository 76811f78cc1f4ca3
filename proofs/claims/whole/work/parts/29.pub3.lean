def qkX8_lineNumber : Nat → Option CI := fun pc => cond (Nat.ble 30 pc) none (cond (Nat.ble 14 pc) (cond (Nat.ble 20 pc) (cond (Nat.ble 26 pc) (cond (Nat.beq pc 26) (some (.sipush 1000, 29, [])) (cond (Nat.beq pc 29) (some (.ireturn, 30, [])) (none))) (cond (Nat.beq pc 20) (some (.invokevirtual 144, 23, [])) (cond (Nat.beq pc 23) (some (.goto 6, 26, [29])) (none)))) (cond (Nat.ble 18 pc) (cond (Nat.beq pc 18) (some (.iload_n 1, 19, [])) (cond (Nat.beq pc 19) (some (.iload_n 2, 20, [])) (none))) (cond (Nat.beq pc 14) (some (.aload_n 0, 15, [])) (cond (Nat.beq pc 15) (some (.getfield 10, 18, [])) (none))))) (cond (Nat.ble 6 pc) (cond (Nat.ble 8 pc) (cond (Nat.beq pc 8) (some (.invokestatic 133, 11, [])) (cond (Nat.beq pc 11) (some (.ifCond .eq 15, 14, [26])) (none))) (cond (Nat.beq pc 6) (some (.iconst 0, 7, [])) (cond (Nat.beq pc 7) (some (.iconst 2, 8, [])) (none)))) (cond (Nat.ble 2 pc) (cond (Nat.beq pc 2) (some (.invokevirtual 141, 5, [])) (cond (Nat.beq pc 5) (some (.iload_n 2, 6, [])) (none))) (cond (Nat.beq pc 0) (some (.aload_n 0, 1, [])) (cond (Nat.beq pc 1) (some (.iload_n 1, 2, [])) (none))))))
theorem qkX8_lineNumber_ok : ∀ pc i nx ts, qkX8_lineNumber pc = some (i, nx, ts) → am_cok cX8_lineNumber pc (i, nx, ts) = true := fun pc i nx ts h => am_tok_ok (n := 30) (by decide +kernel) (fun pc h => by show cond (Nat.ble 30 pc) _ _ = _; rw [Nat.ble_eq_true_of_le h]; rfl) h
def qaX8_lineNumber : Nat → Option CE := fun k => cond (Nat.beq k 141) (some qeX8_requireLine) (cond (Nat.beq k 133) (some qeX8_isWithin) (cond (Nat.beq k 144) (some qeX2_lineValue) (none)))
theorem qyX8_lineNumber (l : Launch) (hst : l.stackTraces = false) : ∀ k e1, qaX8_lineNumber k = some e1 → am_cal l layX RX8 10 k e1 ∧ True := q_cons ⟨am_calV (ci := 8) (qtX8_requireLine l hst) qbX8_requireLine (by decide) rfl (am_tb_at 924 (by decide +kernel) rfl), trivial⟩ (q_cons ⟨am_calS (qtX8_isWithin l) qbX8_isWithin (by decide) rfl (by decide) (am_tb_at 750 (by decide +kernel) rfl), trivial⟩ (q_cons ⟨am_calV (ci := 2) (qtX2_lineValue l) qbX2_lineValue (by decide) rfl (am_tb_at 929 (by decide +kernel) rfl), trivial⟩ (q_nil)))
def qxX8_lineNumber : CX := (qkX8_lineNumber, layX, qfX8, qaX8_lineNumber, qcX8, qlX8, qmX8, (some .int), true, none, 1, none, fun _ => none)
theorem qzX8_lineNumber (l : Launch) (hst : l.stackTraces = false) : am_sta l qxX8_lineNumber RX8 10 cX8_lineNumber := ⟨qkX8_lineNumber_ok, layX_ok, qfX8_ok, qcX8_ok, qlX8_ok, am_mthP qmX8_ok (by decide), fun k e1 h => (qyX8_lineNumber l hst k e1 h).1⟩
def qsX8_lineNumber : SP := fun as F A K => match as with
  | [.inr (.inr o), .inl l, .inl w] => cond (Nat.beq o 0) ((fgOK (A 2) ∧ (-2147483648 ≤ l ∧ l < 2147483648) ∧ (-2147483648 ≤ w ∧ w < 2147483648)) ∧ ((0 ≤ l ∧ l < A 2 1 → (K (some (some (vI (if 0 ≤ w ∧ w ≤ 2 then A 2 (122 + l * 3 + w) else 1000)))) F A)) ∧ (¬ (0 ≤ l ∧ l < A 2 1) → (K none F A)))) (False)
  | _ => False
def qeX8_lineNumber : CE := (yX8_lineNumber, cX8_lineNumber, 3, (some .int), 2, some 8, 1, [], 1, 10, qsX8_lineNumber)
theorem qbX8_lineNumber : am_mb qeX8_lineNumber := ⟨am_tb_at 923 (by decide +kernel) rfl, am_tb_at 114 (by decide +kernel) rfl, ⟨by decide, by decide, by decide +kernel⟩, by decide, by decide, am_tb_at 921 (by decide +kernel) rfl, am_tb_at 922 (by decide +kernel) rfl, _, _, rfl⟩
set_option maxRecDepth 20000 in
theorem qvX8_lineNumber_0 (l : Int) (w : Int) (F : FF) (A : AA) (K : KK) (h : (fgOK (A 2) ∧ (-2147483648 ≤ l ∧ l < 2147483648) ∧ (-2147483648 ≤ w ∧ w < 2147483648)) ∧ ((0 ≤ l ∧ l < A 2 1 → (K (some (some (vI (if 0 ≤ w ∧ w ≤ 2 then A 2 (122 + l * 3 + w) else 1000)))) F A)) ∧ (¬ (0 ≤ l ∧ l < A 2 1) → (K none F A)))) : am_line qxX8_lineNumber 16 [vR 0, vI l, vI w] 3 F A K := by
  show am_stp qxX8_lineNumber (am_run qxX8_lineNumber (fun _ => none) (fun _ _ _ _ _ _ => False) K 16) K 0 [some (vR 0), some (vI l), some (vI w)] [] F A 0
  obtain ⟨hp, h⟩ := h
  have p1 := hp.1
  have p2' := hp.2
  have q1 := p1.1.1
  have q2 := p1.1.2
  show ((0 ≤ A 2 0 ∧ A 2 0 ≤ 8) ∧ (0 ≤ A 2 1 ∧ A 2 1 ≤ 6) ∧ (-2147483648 ≤ l ∧ l < 2147483648)) ∧ ((0 ≤ l ∧ l < A 2 1 → ((w32 (bi (w32 0 ≤ w32 w ∧ w32 w ≤ w32 2)) = w32 0 → (K (some (some (vI 1000))) F A)) ∧ (¬ (w32 (bi (w32 0 ≤ w32 w ∧ w32 w ≤ w32 2)) = w32 0) → (K (some (some (vI (fat (A 2) (122 + l * 3 + w))))) F A)))) ∧ (¬ (0 ≤ l ∧ l < A 2 1) → (K none F A)))
  refine ⟨by first | exact ⟨p1.1.1, p1.1.2, by omega⟩ | exact ⟨p1.1.1, p1.1.2, by omega, by omega⟩ | omega, ?_⟩
  refine ⟨fun c1 => ?_, fun c1 => ?_⟩
  · skip
    (try simp (disch := omega) only [fat_in] at c1); (try simp (disch := omega) only [w32_0, wbi0, Classical.not_not, w32_id] at c1)
    refine ⟨fun c2 => ?_, fun c2 => ?_⟩
    · skip
      (try simp (disch := omega) only [fat_in] at c2); (try simp (disch := omega) only [w32_0, wbi0, Classical.not_not, w32_id] at c2)
      first | exact K_eq (h.1 c1) (if_neg (by omega)) | (simp (disch := omega) only [fat_in]; exact K_eq (h.1 c1) (if_pos (by omega)))
    · skip
      (try simp (disch := omega) only [fat_in] at c2); (try simp (disch := omega) only [w32_0, wbi0, Classical.not_not, w32_id] at c2)
      first | exact K_eq (h.1 c1) (if_neg (by omega)) | (simp (disch := omega) only [fat_in]; exact K_eq (h.1 c1) (if_pos (by omega)))
  · skip
    (try simp (disch := omega) only [fat_in] at c1); (try simp (disch := omega) only [w32_0, wbi0, Classical.not_not, w32_id] at c1)
    exact h.2 c1
theorem qtX8_lineNumber (l : Launch) (hst : l.stackTraces = false) : am_CT l layX qeX8_lineNumber := am_met1 hst rfl (by decide +kernel) rfl rfl rfl rfl rfl (fun _ _ h => by cases h) rfl (qzX8_lineNumber l hst) (fun as F A K h => by
  replace h : qsX8_lineNumber as F A K := h
  unfold qsX8_lineNumber at h
  split at h
  · rename_i o l w
    refine ⟨by first | exact Nat.le_of_ble_eq_true rfl | simp [am_fl, am_cat], ?_⟩
    replace h := am_cond2 h
    rcases h with ⟨hb, h⟩ | h
    · skip
      have hb0 := hb
      have hb0 := am_bq hb0
      subst hb0
      exact am_way_line (qvX8_lineNumber_0 l w F A K h)
    exact h.elim
  · exact h.elim)
def qkX8_coefficient : Nat → Option CI := fun pc => cond (Nat.ble 34 pc) none (cond (Nat.ble 15 pc) (cond (Nat.ble 24 pc) (cond (Nat.ble 28 pc) (cond (Nat.beq pc 28) (some (.goto 5, 31, [33])) (cond (Nat.beq pc 31) (some (.ldc 198, 33, [])) (cond (Nat.beq pc 33) (some (.ireturn, 34, [])) (none)))) (cond (Nat.beq pc 24) (some (.iload_n 3, 25, [])) (cond (Nat.beq pc 25) (some (.invokevirtual 195, 28, [])) (none)))) (cond (Nat.ble 19 pc) (cond (Nat.beq pc 19) (some (.getfield 10, 22, [])) (cond (Nat.beq pc 22) (some (.iload_n 1, 23, [])) (cond (Nat.beq pc 23) (some (.iload_n 2, 24, [])) (none)))) (cond (Nat.beq pc 15) (some (.ifCond .eq 16, 18, [31])) (cond (Nat.beq pc 18) (some (.aload_n 0, 19, [])) (none))))) (cond (Nat.ble 6 pc) (cond (Nat.ble 10 pc) (cond (Nat.beq pc 10) (some (.iload_n 1, 11, [])) (cond (Nat.beq pc 11) (some (.iload_n 3, 12, [])) (cond (Nat.beq pc 12) (some (.invokevirtual 129, 15, [])) (none)))) (cond (Nat.beq pc 6) (some (.aload_n 0, 7, [])) (cond (Nat.beq pc 7) (some (.getfield 10, 10, [])) (none)))) (cond (Nat.ble 2 pc) (cond (Nat.beq pc 2) (some (.iload_n 2, 3, [])) (cond (Nat.beq pc 3) (some (.invokevirtual 191, 6, [])) (none))) (cond (Nat.beq pc 0) (some (.aload_n 0, 1, [])) (cond (Nat.beq pc 1) (some (.iload_n 1, 2, [])) (none))))))
theorem qkX8_coefficient_ok : ∀ pc i nx ts, qkX8_coefficient pc = some (i, nx, ts) → am_cok cX8_coefficient pc (i, nx, ts) = true := fun pc i nx ts h => am_tok_ok (n := 34) (by decide +kernel) (fun pc h => by show cond (Nat.ble 34 pc) _ _ = _; rw [Nat.ble_eq_true_of_le h]; rfl) h
def qaX8_coefficient : Nat → Option CE := fun k => cond (Nat.beq k 191) (some qeX8_requireCurveAndLine) (cond (Nat.beq k 129) (some qeX2_hasPoint) (cond (Nat.beq k 195) (some qeX2_cutNumber) (none)))
theorem qyX8_coefficient (l : Launch) (hst : l.stackTraces = false) : ∀ k e1, qaX8_coefficient k = some e1 → am_cal l layX RX8 11 k e1 ∧ True := q_cons ⟨am_calV (ci := 8) (qtX8_requireCurveAndLine l hst) qbX8_requireCurveAndLine (by decide) rfl (am_tb_at 1035 (by decide +kernel) rfl), trivial⟩ (q_cons ⟨am_calV (ci := 2) (qtX2_hasPoint l) qbX2_hasPoint (by decide) rfl (am_tb_at 739 (by decide +kernel) rfl), trivial⟩ (q_cons ⟨am_calV (ci := 2) (qtX2_cutNumber l) qbX2_cutNumber (by decide) rfl (am_tb_at 1039 (by decide +kernel) rfl), trivial⟩ (q_nil)))
def qxX8_coefficient : CX := (qkX8_coefficient, layX, qfX8, qaX8_coefficient, qcX8, qlX8, qmX8, (some .int), true, none, 2, none, fun _ => none)
theorem qzX8_coefficient (l : Launch) (hst : l.stackTraces = false) : am_sta l qxX8_coefficient RX8 11 cX8_coefficient := ⟨qkX8_coefficient_ok, layX_ok, qfX8_ok, qcX8_ok, qlX8_ok, am_mthP qmX8_ok (by decide), fun k e1 h => (qyX8_coefficient l hst k e1 h).1⟩
def qsX8_coefficient : SP := fun as F A K => match as with
  | [.inr (.inr o), .inl c, .inl l, .inl k] => cond (Nat.beq o 0) ((fgOK (A 2) ∧ (-2147483648 ≤ c ∧ c < 2147483648) ∧ (-2147483648 ≤ l ∧ l < 2147483648) ∧ (-2147483648 ≤ k ∧ k < 2147483648)) ∧ (((0 ≤ c ∧ c < A 2 0) ∧ 0 ≤ l ∧ l < A 2 1 → (K (some (some (vI (if 0 ≤ k ∧ k < A 2 (18 + c) then cfR (A 2) c l k else -100000)))) F A)) ∧ (¬ ((0 ≤ c ∧ c < A 2 0) ∧ 0 ≤ l ∧ l < A 2 1) → (K none F A)))) (False)
  | _ => False
def qeX8_coefficient : CE := (yX8_coefficient, cX8_coefficient, 4, (some .int), 3, some 8, 1, [], 2, 11, qsX8_coefficient)
theorem qbX8_coefficient : am_mb qeX8_coefficient := ⟨am_tb_at 1034 (by decide +kernel) rfl, am_tb_at 114 (by decide +kernel) rfl, ⟨by decide, by decide, by decide +kernel⟩, by decide, by decide, am_tb_at 1032 (by decide +kernel) rfl, am_tb_at 1033 (by decide +kernel) rfl, _, _, rfl⟩
set_option maxRecDepth 20000 in
theorem qvX8_coefficient_0 (c : Int) (l : Int) (k : Int) (F : FF) (A : AA) (K : KK) (h : (fgOK (A 2) ∧ (-2147483648 ≤ c ∧ c < 2147483648) ∧ (-2147483648 ≤ l ∧ l < 2147483648) ∧ (-2147483648 ≤ k ∧ k < 2147483648)) ∧ (((0 ≤ c ∧ c < A 2 0) ∧ 0 ≤ l ∧ l < A 2 1 → (K (some (some (vI (if 0 ≤ k ∧ k < A 2 (18 + c) then cfR (A 2) c l k else -100000)))) F A)) ∧ (¬ ((0 ≤ c ∧ c < A 2 0) ∧ 0 ≤ l ∧ l < A 2 1) → (K none F A)))) : am_line qxX8_coefficient 19 [vR 0, vI c, vI l, vI k] 4 F A K := by
  show am_stp qxX8_coefficient (am_run qxX8_coefficient (fun _ => none) (fun _ _ _ _ _ _ => False) K 19) K 0 [some (vR 0), some (vI c), some (vI l), some (vI k)] [] F A 0
  obtain ⟨hp, h⟩ := h
  have p1 := hp.1
  have p2' := hp.2
  have q1 := p1.1.1
  have q2 := p1.1.2
  show ((0 ≤ A 2 0 ∧ A 2 0 ≤ 8) ∧ (0 ≤ A 2 1 ∧ A 2 1 ≤ 6) ∧ (-2147483648 ≤ c ∧ c < 2147483648) ∧ (-2147483648 ≤ l ∧ l < 2147483648)) ∧ (((0 ≤ c ∧ c < A 2 0) ∧ 0 ≤ l ∧ l < A 2 1 → ((w32 (bi (0 ≤ w32 c ∧ w32 c < w32 (fat (A 2) 0) ∧ 0 ≤ w32 k ∧ w32 k < w32 (fat (A 2) (18 + c)))) = w32 0 → (K (some (some (vI (-100000)))) F A)) ∧ (¬ (w32 (bi (0 ≤ w32 c ∧ w32 c < w32 (fat (A 2) 0) ∧ 0 ≤ w32 k ∧ w32 k < w32 (fat (A 2) (18 + c)))) = w32 0) → (K (some (some (vI ((fat (A 2) (26 + (c * 4 + k) * 3 + 2)) * (fat (A 2) (122 + l * 3 + 0) * (fat (A 2) (26 + (c * 4 + k) * 3 + 0)) + fat (A 2) (122 + l * 3 + 1) * (fat (A 2) (26 + (c * 4 + k) * 3 + 1)) + fat (A 2) (122 + l * 3 + 2)))))) F A)))) ∧ (¬ ((0 ≤ c ∧ c < A 2 0) ∧ 0 ≤ l ∧ l < A 2 1) → (K none F A)))
  refine ⟨by first | exact ⟨p1.1.1, p1.1.2, by omega⟩ | exact ⟨p1.1.1, p1.1.2, by omega, by omega⟩ | omega, ?_⟩
  refine ⟨fun c1 => ?_, fun c1 => ?_⟩
  · skip
    (try simp (disch := omega) only [fat_in] at c1); (try simp (disch := omega) only [w32_0, wbi0, Classical.not_not, w32_id] at c1); (try (have q3 := (p1.2.2.1 c c1.1.1 c1.1.2).1; simp (disch := omega) only [fat_in, w32_id] at c1))
    refine ⟨fun c2 => ?_, fun c2 => ?_⟩
    · skip
      (try simp (disch := omega) only [fat_in] at c2); (try simp (disch := omega) only [w32_0, wbi0, Classical.not_not, w32_id] at c2); (try (have q3 := (p1.2.2.1 c c1.1.1 c1.1.2).1; simp (disch := omega) only [fat_in, w32_id] at c2))
      have q3 := (p1.2.2.1 c c1.1.1 c1.1.2).1
      first | exact K_eq (h.1 c1) (if_neg (by omega)) | (simp (disch := omega) only [fat_in]; exact K_eq (h.1 c1) (if_pos (by omega)))
    · skip
      (try simp (disch := omega) only [fat_in] at c2); (try simp (disch := omega) only [w32_0, wbi0, Classical.not_not, w32_id] at c2); (try (have q3 := (p1.2.2.1 c c1.1.1 c1.1.2).1; simp (disch := omega) only [fat_in, w32_id] at c2))
      have q3 := (p1.2.2.1 c c1.1.1 c1.1.2).1
      first | exact K_eq (h.1 c1) (if_neg (by omega)) | (simp (disch := omega) only [fat_in]; exact K_eq (h.1 c1) (if_pos (by omega)))
  · skip
    (try simp (disch := omega) only [fat_in] at c1); (try simp (disch := omega) only [w32_0, wbi0, Classical.not_not, w32_id] at c1); (try (have q3 := (p1.2.2.1 c c1.1.1 c1.1.2).1; simp (disch := omega) only [fat_in, w32_id] at c1))
    exact h.2 c1
theorem qtX8_coefficient (l : Launch) (hst : l.stackTraces = false) : am_CT l layX qeX8_coefficient := am_met1 hst rfl (by decide +kernel) rfl rfl rfl rfl rfl (fun _ _ h => by cases h) rfl (qzX8_coefficient l hst) (fun as F A K h => by
  replace h : qsX8_coefficient as F A K := h
  unfold qsX8_coefficient at h
  split at h
  · rename_i o c l k
    refine ⟨by first | exact Nat.le_of_ble_eq_true rfl | simp [am_fl, am_cat], ?_⟩
    replace h := am_cond2 h
    rcases h with ⟨hb, h⟩ | h
    · skip
      have hb0 := hb
      have hb0 := am_bq hb0
      subst hb0
      exact am_way_line (qvX8_coefficient_0 c l k F A K h)
    exact h.elim
  · exact h.elim)
def qkX8_hullSize : Nat → Option CI := fun pc => cond (Nat.ble 25 pc) none (cond (Nat.ble 10 pc) (cond (Nat.ble 17 pc) (cond (Nat.ble 21 pc) (cond (Nat.beq pc 21) (some (.invokevirtual 187, 24, [])) (cond (Nat.beq pc 24) (some (.ireturn, 25, [])) (none))) (cond (Nat.beq pc 17) (some (.aload_n 0, 18, [])) (cond (Nat.beq pc 18) (some (.getfield 57, 21, [])) (none)))) (cond (Nat.beq pc 10) (some (.getfield 10, 13, [])) (cond (Nat.beq pc 13) (some (.iload_n 1, 14, [])) (cond (Nat.beq pc 14) (some (.invokevirtual 183, 17, [])) (none))))) (cond (Nat.ble 5 pc) (cond (Nat.beq pc 5) (some (.aload_n 0, 6, [])) (cond (Nat.beq pc 6) (some (.getfield 57, 9, [])) (cond (Nat.beq pc 9) (some (.aload_n 0, 10, [])) (none)))) (cond (Nat.beq pc 0) (some (.aload_n 0, 1, [])) (cond (Nat.beq pc 1) (some (.iload_n 1, 2, [])) (cond (Nat.beq pc 2) (some (.invokevirtual 123, 5, [])) (none))))))
theorem qkX8_hullSize_ok : ∀ pc i nx ts, qkX8_hullSize pc = some (i, nx, ts) → am_cok cX8_hullSize pc (i, nx, ts) = true := fun pc i nx ts h => am_tok_ok (n := 25) (by decide +kernel) (fun pc h => by show cond (Nat.ble 25 pc) _ _ = _; rw [Nat.ble_eq_true_of_le h]; rfl) h
def qaX8_hullSize : Nat → Option CE := fun k => cond (Nat.beq k 123) (some qeX8_requireCurve) (cond (Nat.beq k 183) (some qeX4_wrap) (cond (Nat.beq k 187) (some qeX4_size) (none)))
theorem qyX8_hullSize (l : Launch) (hst : l.stackTraces = false) : ∀ k e1, qaX8_hullSize k = some e1 → am_cal l layX RX8 10 k e1 ∧ True := q_cons ⟨am_calV (ci := 8) (qtX8_requireCurve l hst) qbX8_requireCurve (by decide) rfl (am_tb_at 841 (by decide +kernel) rfl), trivial⟩ (q_cons ⟨am_calV (ci := 4) (qtX4_wrap l) qbX4_wrap (by decide) rfl (am_tb_at 991 (by decide +kernel) rfl), trivial⟩ (q_cons ⟨am_calV (ci := 4) (qtX4_size l) qbX4_size (by decide) rfl (am_tb_at 1013 (by decide +kernel) rfl), trivial⟩ (q_nil)))
def qxX8_hullSize : CX := (qkX8_hullSize, layX, qfX8, qaX8_hullSize, qcX8, qlX8, qmX8, (some .int), true, none, 1, none, fun _ => none)
theorem qzX8_hullSize (l : Launch) (hst : l.stackTraces = false) : am_sta l qxX8_hullSize RX8 10 cX8_hullSize := ⟨qkX8_hullSize_ok, layX_ok, qfX8_ok, qcX8_ok, qlX8_ok, am_mthP qmX8_ok (by decide), fun k e1 h => (qyX8_hullSize l hst k e1 h).1⟩
def qsX8_hullSize : SP := fun as F A K => match as with
  | [.inr (.inr o), .inl c] => cond (Nat.beq o 0) ((fgOK (A 2) ∧ (-2147483648 ≤ c ∧ c < 2147483648)) ∧ ((0 ≤ c ∧ c < A 2 0 → (∀ (G_1 : FF) (B_1 : AA), (qrP F G_1 A B_1) → (K (some (some (vI ((huL (A 2) c).length : Int)))) G_1 B_1))) ∧ (¬ (0 ≤ c ∧ c < A 2 0) → (K none F A)))) (False)
  | _ => False
def qeX8_hullSize : CE := (yX8_hullSize, cX8_hullSize, 2, (some .int), 1, some 8, 1, [], 1, 10, qsX8_hullSize)
theorem qbX8_hullSize : am_mb qeX8_hullSize := ⟨am_tb_at 990 (by decide +kernel) rfl, am_tb_at 114 (by decide +kernel) rfl, ⟨by decide, by decide, by decide +kernel⟩, by decide, by decide, am_tb_at 988 (by decide +kernel) rfl, am_tb_at 989 (by decide +kernel) rfl, _, _, rfl⟩
set_option maxRecDepth 20000 in
theorem qvX8_hullSize_0 (c : Int) (F : FF) (A : AA) (K : KK) (h : (fgOK (A 2) ∧ (-2147483648 ≤ c ∧ c < 2147483648)) ∧ ((0 ≤ c ∧ c < A 2 0 → (∀ (G_1 : FF) (B_1 : AA), (qrP F G_1 A B_1) → (K (some (some (vI ((huL (A 2) c).length : Int)))) G_1 B_1))) ∧ (¬ (0 ≤ c ∧ c < A 2 0) → (K none F A)))) : am_line qxX8_hullSize 14 [vR 0, vI c] 2 F A K := by
  show am_stp qxX8_hullSize (am_run qxX8_hullSize (fun _ => none) (fun _ _ _ _ _ _ => False) K 14) K 0 [some (vR 0), some (vI c)] [] F A 0
  obtain ⟨hp, h⟩ := h
  have p1 := hp.1
  have p2' := hp.2
  have q1 := p1.1.1
  have q2 := p1.1.2
  show ((0 ≤ A 2 0 ∧ A 2 0 ≤ 8) ∧ (0 ≤ A 2 1 ∧ A 2 1 ≤ 6) ∧ (-2147483648 ≤ c ∧ c < 2147483648)) ∧ ((0 ≤ c ∧ c < A 2 0 → ((0 ≤ c ∧ c < 8 ∧ 1 ≤ A 2 (18 + c) ∧ A 2 (18 + c) ≤ 4) ∧ (∀ (G_1 : FF) (B_1 : AA), (huP F G_1 A B_1 (wrF (A 2) c (A 2 (18 + c)) (lfF (A 2) c (Int.toNat (A 2 (18 + c) - 1))) 4 (lfF (A 2) c (Int.toNat (A 2 (18 + c) - 1))))) → (K (some (some (vI (G_1 22 1)))) G_1 B_1)))) ∧ (¬ (0 ≤ c ∧ c < A 2 0) → (K none F A)))
  refine ⟨by first | exact ⟨p1.1.1, p1.1.2, by omega⟩ | exact ⟨p1.1.1, p1.1.2, by omega, by omega⟩ | omega, ?_⟩
  refine ⟨fun c1 => ?_, fun c1 => ?_⟩
  · skip
    (try simp (disch := omega) only [fat_in] at c1); (try simp (disch := omega) only [w32_0, wbi0, Classical.not_not, w32_id] at c1)
    refine ⟨by (have q3 := (p1.2.2.1 c c1.1 c1.2).1; omega), ?_⟩
    intro G_1 B_1 g1
    obtain ⟨a1, a2, a3, a4⟩ := g1
    exact K_eq (h.1 c1 _ _ (qrP_of (fun a b hab => a1 a b (by omega)) (fun b i hb => a2 b i (by omega)))) a3.symm
  · skip
    (try simp (disch := omega) only [fat_in] at c1); (try simp (disch := omega) only [w32_0, wbi0, Classical.not_not, w32_id] at c1)
    exact h.2 c1
theorem qtX8_hullSize (l : Launch) (hst : l.stackTraces = false) : am_CT l layX qeX8_hullSize := am_met1 hst rfl (by decide +kernel) rfl rfl rfl rfl rfl (fun _ _ h => by cases h) rfl (qzX8_hullSize l hst) (fun as F A K h => by
  replace h : qsX8_hullSize as F A K := h
  unfold qsX8_hullSize at h
  split at h
  · rename_i o c
    refine ⟨by first | exact Nat.le_of_ble_eq_true rfl | simp [am_fl, am_cat], ?_⟩
    replace h := am_cond2 h
    rcases h with ⟨hb, h⟩ | h
    · skip
      have hb0 := hb
      have hb0 := am_bq hb0
      subst hb0
      exact am_way_line (qvX8_hullSize_0 c F A K h)
    exact h.elim
  · exact h.elim)
def qkX8_hullCorner : Nat → Option CI := fun pc => cond (Nat.ble 26 pc) none (cond (Nat.ble 13 pc) (cond (Nat.ble 18 pc) (cond (Nat.ble 22 pc) (cond (Nat.beq pc 22) (some (.invokevirtual 188, 25, [])) (cond (Nat.beq pc 25) (some (.ireturn, 26, [])) (none))) (cond (Nat.beq pc 18) (some (.getfield 57, 21, [])) (cond (Nat.beq pc 21) (some (.iload_n 2, 22, [])) (none)))) (cond (Nat.beq pc 13) (some (.iload_n 1, 14, [])) (cond (Nat.beq pc 14) (some (.invokevirtual 183, 17, [])) (cond (Nat.beq pc 17) (some (.aload_n 0, 18, [])) (none))))) (cond (Nat.ble 5 pc) (cond (Nat.ble 9 pc) (cond (Nat.beq pc 9) (some (.aload_n 0, 10, [])) (cond (Nat.beq pc 10) (some (.getfield 10, 13, [])) (none))) (cond (Nat.beq pc 5) (some (.aload_n 0, 6, [])) (cond (Nat.beq pc 6) (some (.getfield 57, 9, [])) (none)))) (cond (Nat.beq pc 0) (some (.aload_n 0, 1, [])) (cond (Nat.beq pc 1) (some (.iload_n 1, 2, [])) (cond (Nat.beq pc 2) (some (.invokevirtual 123, 5, [])) (none))))))
theorem qkX8_hullCorner_ok : ∀ pc i nx ts, qkX8_hullCorner pc = some (i, nx, ts) → am_cok cX8_hullCorner pc (i, nx, ts) = true := fun pc i nx ts h => am_tok_ok (n := 26) (by decide +kernel) (fun pc h => by show cond (Nat.ble 26 pc) _ _ = _; rw [Nat.ble_eq_true_of_le h]; rfl) h
def qaX8_hullCorner : Nat → Option CE := fun k => cond (Nat.beq k 123) (some qeX8_requireCurve) (cond (Nat.beq k 183) (some qeX4_wrap) (cond (Nat.beq k 188) (some qeX4_corner) (none)))
theorem qyX8_hullCorner (l : Launch) (hst : l.stackTraces = false) : ∀ k e1, qaX8_hullCorner k = some e1 → am_cal l layX RX8 10 k e1 ∧ True := q_cons ⟨am_calV (ci := 8) (qtX8_requireCurve l hst) qbX8_requireCurve (by decide) rfl (am_tb_at 841 (by decide +kernel) rfl), trivial⟩ (q_cons ⟨am_calV (ci := 4) (qtX4_wrap l) qbX4_wrap (by decide) rfl (am_tb_at 991 (by decide +kernel) rfl), trivial⟩ (q_cons ⟨am_calV (ci := 4) (qtX4_corner l) qbX4_corner (by decide) rfl (am_tb_at 1024 (by decide +kernel) rfl), trivial⟩ (q_nil)))
def qxX8_hullCorner : CX := (qkX8_hullCorner, layX, qfX8, qaX8_hullCorner, qcX8, qlX8, qmX8, (some .int), true, none, 1, none, fun _ => none)
theorem qzX8_hullCorner (l : Launch) (hst : l.stackTraces = false) : am_sta l qxX8_hullCorner RX8 10 cX8_hullCorner := ⟨qkX8_hullCorner_ok, layX_ok, qfX8_ok, qcX8_ok, qlX8_ok, am_mthP qmX8_ok (by decide), fun k e1 h => (qyX8_hullCorner l hst k e1 h).1⟩
def qsX8_hullCorner : SP := fun as F A K => match as with
  | [.inr (.inr o), .inl c, .inl k] => cond (Nat.beq o 0) ((fgOK (A 2) ∧ (-2147483648 ≤ c ∧ c < 2147483648) ∧ (-2147483648 ≤ k ∧ k < 2147483648)) ∧ ((0 ≤ c ∧ c < A 2 0 → (∀ (G_1 : FF) (B_1 : AA), (qrP F G_1 A B_1) → (K (some (some (vI (if 0 ≤ k ∧ k < ((huL (A 2) c).length : Int) then (huL (A 2) c).getD (Int.toNat k) 0 else -1)))) G_1 B_1))) ∧ (¬ (0 ≤ c ∧ c < A 2 0) → (K none F A)))) (False)
  | _ => False
def qeX8_hullCorner : CE := (yX8_hullCorner, cX8_hullCorner, 3, (some .int), 2, some 8, 1, [], 1, 10, qsX8_hullCorner)
theorem qbX8_hullCorner : am_mb qeX8_hullCorner := ⟨am_tb_at 1023 (by decide +kernel) rfl, am_tb_at 114 (by decide +kernel) rfl, ⟨by decide, by decide, by decide +kernel⟩, by decide, by decide, am_tb_at 1021 (by decide +kernel) rfl, am_tb_at 1022 (by decide +kernel) rfl, _, _, rfl⟩
set_option maxRecDepth 20000 in
theorem qvX8_hullCorner_0 (c : Int) (k : Int) (F : FF) (A : AA) (K : KK) (h : (fgOK (A 2) ∧ (-2147483648 ≤ c ∧ c < 2147483648) ∧ (-2147483648 ≤ k ∧ k < 2147483648)) ∧ ((0 ≤ c ∧ c < A 2 0 → (∀ (G_1 : FF) (B_1 : AA), (qrP F G_1 A B_1) → (K (some (some (vI (if 0 ≤ k ∧ k < ((huL (A 2) c).length : Int) then (huL (A 2) c).getD (Int.toNat k) 0 else -1)))) G_1 B_1))) ∧ (¬ (0 ≤ c ∧ c < A 2 0) → (K none F A)))) : am_line qxX8_hullCorner 15 [vR 0, vI c, vI k] 3 F A K := by
  show am_stp qxX8_hullCorner (am_run qxX8_hullCorner (fun _ => none) (fun _ _ _ _ _ _ => False) K 15) K 0 [some (vR 0), some (vI c), some (vI k)] [] F A 0
  obtain ⟨hp, h⟩ := h
  have p1 := hp.1
  have p2' := hp.2
  have q1 := p1.1.1
  have q2 := p1.1.2
  show ((0 ≤ A 2 0 ∧ A 2 0 ≤ 8) ∧ (0 ≤ A 2 1 ∧ A 2 1 ≤ 6) ∧ (-2147483648 ≤ c ∧ c < 2147483648)) ∧ ((0 ≤ c ∧ c < A 2 0 → ((0 ≤ c ∧ c < 8 ∧ 1 ≤ A 2 (18 + c) ∧ A 2 (18 + c) ≤ 4) ∧ (∀ (G_1 : FF) (B_1 : AA), (huP F G_1 A B_1 (wrF (A 2) c (A 2 (18 + c)) (lfF (A 2) c (Int.toNat (A 2 (18 + c) - 1))) 4 (lfF (A 2) c (Int.toNat (A 2 (18 + c) - 1))))) → ((0 ≤ (G_1 22 1) ∧ (G_1 22 1) ≤ 4) ∧ (K (some (some (vI (if 0 ≤ w32 k ∧ w32 k < (G_1 22 1) then B_1 23 (w32 k) else -1)))) G_1 B_1))))) ∧ (¬ (0 ≤ c ∧ c < A 2 0) → (K none F A)))
  refine ⟨by first | exact ⟨p1.1.1, p1.1.2, by omega⟩ | exact ⟨p1.1.1, p1.1.2, by omega, by omega⟩ | omega, ?_⟩
  refine ⟨fun c1 => ?_, fun c1 => ?_⟩
  · skip
    (try simp (disch := omega) only [fat_in] at c1); (try simp (disch := omega) only [w32_0, wbi0, Classical.not_not, w32_id] at c1)
    refine ⟨by (have q3 := (p1.2.2.1 c c1.1 c1.2).1; omega), ?_⟩
    intro G_1 B_1 g1
    refine ⟨by (have q5 := wrF_len (f := A 2) (c := c) (n := A 2 (18 + c)) (x := lfF (A 2) c (Int.toNat (A 2 (18 + c) - 1))) 4 (lfF (A 2) c (Int.toNat (A 2 (18 + c) - 1))); rw [g1.2.2.1]; omega), ?_⟩
    obtain ⟨a1, a2, a3, a4⟩ := g1
    refine K_eq (h.1 c1 _ _ (qrP_of (fun a b hab => a1 a b (by omega)) (fun b i hb => a2 b i (by omega)))) ?_
    rw [a3, w32_id (x := k) (by omega) (by omega)]
    unfold huL
    split
    · rename_i hk
      exact (rowL_len a4 hk.1 hk.2).symm
    · rfl
  · skip
    (try simp (disch := omega) only [fat_in] at c1); (try simp (disch := omega) only [w32_0, wbi0, Classical.not_not, w32_id] at c1)
    exact h.2 c1
theorem qtX8_hullCorner (l : Launch) (hst : l.stackTraces = false) : am_CT l layX qeX8_hullCorner := am_met1 hst rfl (by decide +kernel) rfl rfl rfl rfl rfl (fun _ _ h => by cases h) rfl (qzX8_hullCorner l hst) (fun as F A K h => by
  replace h : qsX8_hullCorner as F A K := h
  unfold qsX8_hullCorner at h
  split at h
  · rename_i o c k
    refine ⟨by first | exact Nat.le_of_ble_eq_true rfl | simp [am_fl, am_cat], ?_⟩
    replace h := am_cond2 h
    rcases h with ⟨hb, h⟩ | h
    · skip
      have hb0 := hb
      have hb0 := am_bq hb0
      subst hb0
      exact am_way_line (qvX8_hullCorner_0 c k F A K h)
    exact h.elim
  · exact h.elim)
def qkX8_bandLow : Nat → Option CI := fun pc => cond (Nat.ble 25 pc) none (cond (Nat.ble 10 pc) (cond (Nat.ble 17 pc) (cond (Nat.ble 21 pc) (cond (Nat.beq pc 21) (some (.invokevirtual 257, 24, [])) (cond (Nat.beq pc 24) (some (.ireturn, 25, [])) (none))) (cond (Nat.beq pc 17) (some (.aload_n 0, 18, [])) (cond (Nat.beq pc 18) (some (.getfield 64, 21, [])) (none)))) (cond (Nat.beq pc 10) (some (.getfield 10, 13, [])) (cond (Nat.beq pc 13) (some (.iload_n 1, 14, [])) (cond (Nat.beq pc 14) (some (.invokevirtual 254, 17, [])) (none))))) (cond (Nat.ble 5 pc) (cond (Nat.beq pc 5) (some (.aload_n 0, 6, [])) (cond (Nat.beq pc 6) (some (.getfield 64, 9, [])) (cond (Nat.beq pc 9) (some (.aload_n 0, 10, [])) (none)))) (cond (Nat.beq pc 0) (some (.aload_n 0, 1, [])) (cond (Nat.beq pc 1) (some (.iload_n 1, 2, [])) (cond (Nat.beq pc 2) (some (.invokevirtual 123, 5, [])) (none))))))
theorem qkX8_bandLow_ok : ∀ pc i nx ts, qkX8_bandLow pc = some (i, nx, ts) → am_cok cX8_bandLow pc (i, nx, ts) = true := fun pc i nx ts h => am_tok_ok (n := 25) (by decide +kernel) (fun pc h => by show cond (Nat.ble 25 pc) _ _ = _; rw [Nat.ble_eq_true_of_le h]; rfl) h
def qaX8_bandLow : Nat → Option CE := fun k => cond (Nat.beq k 123) (some qeX8_requireCurve) (cond (Nat.beq k 254) (some qeX0_span) (cond (Nat.beq k 257) (some qeX0_low) (none)))
theorem qyX8_bandLow (l : Launch) (hst : l.stackTraces = false) : ∀ k e1, qaX8_bandLow k = some e1 → am_cal l layX RX8 10 k e1 ∧ True := q_cons ⟨am_calV (ci := 8) (qtX8_requireCurve l hst) qbX8_requireCurve (by decide) rfl (am_tb_at 841 (by decide +kernel) rfl), trivial⟩ (q_cons ⟨am_calV (ci := 0) (qtX0_span l) qbX0_span (by decide) rfl (am_tb_at 1188 (by decide +kernel) rfl), trivial⟩ (q_cons ⟨am_calV (ci := 0) (qtX0_low l) qbX0_low (by decide) rfl (am_tb_at 1200 (by decide +kernel) rfl), trivial⟩ (q_nil)))
def qxX8_bandLow : CX := (qkX8_bandLow, layX, qfX8, qaX8_bandLow, qcX8, qlX8, qmX8, (some .int), true, none, 1, none, fun _ => none)
theorem qzX8_bandLow (l : Launch) (hst : l.stackTraces = false) : am_sta l qxX8_bandLow RX8 10 cX8_bandLow := ⟨qkX8_bandLow_ok, layX_ok, qfX8_ok, qcX8_ok, qlX8_ok, am_mthP qmX8_ok (by decide), fun k e1 h => (qyX8_bandLow l hst k e1 h).1⟩
def qsX8_bandLow : SP := fun as F A K => match as with
  | [.inr (.inr o), .inl c] => cond (Nat.beq o 0) ((fgOK (A 2) ∧ (-2147483648 ≤ c ∧ c < 2147483648)) ∧ ((0 ≤ c ∧ c < A 2 0 → (∀ (G_1 : FF), (qrP F G_1 A A) → (K (some (some (vI (bLow (A 2) c (Int.toNat (A 2 (18 + c) - 1)))))) G_1 A))) ∧ (¬ (0 ≤ c ∧ c < A 2 0) → (K none F A)))) (False)
  | _ => False
def qeX8_bandLow : CE := (yX8_bandLow, cX8_bandLow, 2, (some .int), 1, some 8, 1, [], 1, 10, qsX8_bandLow)
theorem qbX8_bandLow : am_mb qeX8_bandLow := ⟨am_tb_at 1187 (by decide +kernel) rfl, am_tb_at 114 (by decide +kernel) rfl, ⟨by decide, by decide, by decide +kernel⟩, by decide, by decide, am_tb_at 1185 (by decide +kernel) rfl, am_tb_at 1186 (by decide +kernel) rfl, _, _, rfl⟩
set_option maxRecDepth 20000 in
theorem qvX8_bandLow_0 (c : Int) (F : FF) (A : AA) (K : KK) (h : (fgOK (A 2) ∧ (-2147483648 ≤ c ∧ c < 2147483648)) ∧ ((0 ≤ c ∧ c < A 2 0 → (∀ (G_1 : FF), (qrP F G_1 A A) → (K (some (some (vI (bLow (A 2) c (Int.toNat (A 2 (18 + c) - 1)))))) G_1 A))) ∧ (¬ (0 ≤ c ∧ c < A 2 0) → (K none F A)))) : am_line qxX8_bandLow 14 [vR 0, vI c] 2 F A K := by
  show am_stp qxX8_bandLow (am_run qxX8_bandLow (fun _ => none) (fun _ _ _ _ _ _ => False) K 14) K 0 [some (vR 0), some (vI c)] [] F A 0
  obtain ⟨hp, h⟩ := h
  have p1 := hp.1
  have p2' := hp.2
  have q1 := p1.1.1
  have q2 := p1.1.2
  show ((0 ≤ A 2 0 ∧ A 2 0 ≤ 8) ∧ (0 ≤ A 2 1 ∧ A 2 1 ≤ 6) ∧ (-2147483648 ≤ c ∧ c < 2147483648)) ∧ ((0 ≤ c ∧ c < A 2 0 → ((0 ≤ c ∧ c < 8 ∧ 2 ≤ A 2 (18 + c) ∧ A 2 (18 + c) ≤ 4) ∧ (∀ (G_1 : FF), ((∀ a b, a ≠ 24 → G_1 a b = F a b) ∧ bnP G_1 (A 2) c) → (K (some (some (vI (G_1 24 4)))) G_1 A)))) ∧ (¬ (0 ≤ c ∧ c < A 2 0) → (K none F A)))
  refine ⟨by first | exact ⟨p1.1.1, p1.1.2, by omega⟩ | exact ⟨p1.1.1, p1.1.2, by omega, by omega⟩ | omega, ?_⟩
  refine ⟨fun c1 => ?_, fun c1 => ?_⟩
  · skip
    (try simp (disch := omega) only [fat_in] at c1); (try simp (disch := omega) only [w32_0, wbi0, Classical.not_not, w32_id] at c1)
    refine ⟨by (have q3 := (p1.2.2.1 c c1.1 c1.2).1; omega), ?_⟩
    intro G_1 g1
    refine K_eq (h.1 c1 _ (qrP_of (fun a b hab => g1.1 a b (by omega)) (fun b i hb => rfl))) ?_
    exact g1.2.2.2.2.2.1.symm
  · skip
    (try simp (disch := omega) only [fat_in] at c1); (try simp (disch := omega) only [w32_0, wbi0, Classical.not_not, w32_id] at c1)
    exact h.2 c1
theorem qtX8_bandLow (l : Launch) (hst : l.stackTraces = false) : am_CT l layX qeX8_bandLow := am_met1 hst rfl (by decide +kernel) rfl rfl rfl rfl rfl (fun _ _ h => by cases h) rfl (qzX8_bandLow l hst) (fun as F A K h => by
  replace h : qsX8_bandLow as F A K := h
  unfold qsX8_bandLow at h
  split at h
  · rename_i o c
    refine ⟨by first | exact Nat.le_of_ble_eq_true rfl | simp [am_fl, am_cat], ?_⟩
    replace h := am_cond2 h
    rcases h with ⟨hb, h⟩ | h
    · skip
      have hb0 := hb
      have hb0 := am_bq hb0
      subst hb0
      exact am_way_line (qvX8_bandLow_0 c F A K h)
    exact h.elim
  · exact h.elim)
def qkX8_bandHigh : Nat → Option CI := fun pc => cond (Nat.ble 25 pc) none (cond (Nat.ble 10 pc) (cond (Nat.ble 17 pc) (cond (Nat.ble 21 pc) (cond (Nat.beq pc 21) (some (.invokevirtual 260, 24, [])) (cond (Nat.beq pc 24) (some (.ireturn, 25, [])) (none))) (cond (Nat.beq pc 17) (some (.aload_n 0, 18, [])) (cond (Nat.beq pc 18) (some (.getfield 64, 21, [])) (none)))) (cond (Nat.beq pc 10) (some (.getfield 10, 13, [])) (cond (Nat.beq pc 13) (some (.iload_n 1, 14, [])) (cond (Nat.beq pc 14) (some (.invokevirtual 254, 17, [])) (none))))) (cond (Nat.ble 5 pc) (cond (Nat.beq pc 5) (some (.aload_n 0, 6, [])) (cond (Nat.beq pc 6) (some (.getfield 64, 9, [])) (cond (Nat.beq pc 9) (some (.aload_n 0, 10, [])) (none)))) (cond (Nat.beq pc 0) (some (.aload_n 0, 1, [])) (cond (Nat.beq pc 1) (some (.iload_n 1, 2, [])) (cond (Nat.beq pc 2) (some (.invokevirtual 123, 5, [])) (none))))))
theorem qkX8_bandHigh_ok : ∀ pc i nx ts, qkX8_bandHigh pc = some (i, nx, ts) → am_cok cX8_bandHigh pc (i, nx, ts) = true := fun pc i nx ts h => am_tok_ok (n := 25) (by decide +kernel) (fun pc h => by show cond (Nat.ble 25 pc) _ _ = _; rw [Nat.ble_eq_true_of_le h]; rfl) h
def qaX8_bandHigh : Nat → Option CE := fun k => cond (Nat.beq k 123) (some qeX8_requireCurve) (cond (Nat.beq k 254) (some qeX0_span) (cond (Nat.beq k 260) (some qeX0_high) (none)))
theorem qyX8_bandHigh (l : Launch) (hst : l.stackTraces = false) : ∀ k e1, qaX8_bandHigh k = some e1 → am_cal l layX RX8 10 k e1 ∧ True := q_cons ⟨am_calV (ci := 8) (qtX8_requireCurve l hst) qbX8_requireCurve (by decide) rfl (am_tb_at 841 (by decide +kernel) rfl), trivial⟩ (q_cons ⟨am_calV (ci := 0) (qtX0_span l) qbX0_span (by decide) rfl (am_tb_at 1188 (by decide +kernel) rfl), trivial⟩ (q_cons ⟨am_calV (ci := 0) (qtX0_high l) qbX0_high (by decide) rfl (am_tb_at 1211 (by decide +kernel) rfl), trivial⟩ (q_nil)))
def qxX8_bandHigh : CX := (qkX8_bandHigh, layX, qfX8, qaX8_bandHigh, qcX8, qlX8, qmX8, (some .int), true, none, 1, none, fun _ => none)
theorem qzX8_bandHigh (l : Launch) (hst : l.stackTraces = false) : am_sta l qxX8_bandHigh RX8 10 cX8_bandHigh := ⟨qkX8_bandHigh_ok, layX_ok, qfX8_ok, qcX8_ok, qlX8_ok, am_mthP qmX8_ok (by decide), fun k e1 h => (qyX8_bandHigh l hst k e1 h).1⟩
def qsX8_bandHigh : SP := fun as F A K => match as with
  | [.inr (.inr o), .inl c] => cond (Nat.beq o 0) ((fgOK (A 2) ∧ (-2147483648 ≤ c ∧ c < 2147483648)) ∧ ((0 ≤ c ∧ c < A 2 0 → (∀ (G_1 : FF), (qrP F G_1 A A) → (K (some (some (vI (bHigh (A 2) c (Int.toNat (A 2 (18 + c) - 1)))))) G_1 A))) ∧ (¬ (0 ≤ c ∧ c < A 2 0) → (K none F A)))) (False)
  | _ => False
def qeX8_bandHigh : CE := (yX8_bandHigh, cX8_bandHigh, 2, (some .int), 1, some 8, 1, [], 1, 10, qsX8_bandHigh)
theorem qbX8_bandHigh : am_mb qeX8_bandHigh := ⟨am_tb_at 1210 (by decide +kernel) rfl, am_tb_at 114 (by decide +kernel) rfl, ⟨by decide, by decide, by decide +kernel⟩, by decide, by decide, am_tb_at 1208 (by decide +kernel) rfl, am_tb_at 1209 (by decide +kernel) rfl, _, _, rfl⟩
set_option maxRecDepth 20000 in
theorem qvX8_bandHigh_0 (c : Int) (F : FF) (A : AA) (K : KK) (h : (fgOK (A 2) ∧ (-2147483648 ≤ c ∧ c < 2147483648)) ∧ ((0 ≤ c ∧ c < A 2 0 → (∀ (G_1 : FF), (qrP F G_1 A A) → (K (some (some (vI (bHigh (A 2) c (Int.toNat (A 2 (18 + c) - 1)))))) G_1 A))) ∧ (¬ (0 ≤ c ∧ c < A 2 0) → (K none F A)))) : am_line qxX8_bandHigh 14 [vR 0, vI c] 2 F A K := by
  show am_stp qxX8_bandHigh (am_run qxX8_bandHigh (fun _ => none) (fun _ _ _ _ _ _ => False) K 14) K 0 [some (vR 0), some (vI c)] [] F A 0
  obtain ⟨hp, h⟩ := h
  have p1 := hp.1
  have p2' := hp.2
  have q1 := p1.1.1
  have q2 := p1.1.2
  show ((0 ≤ A 2 0 ∧ A 2 0 ≤ 8) ∧ (0 ≤ A 2 1 ∧ A 2 1 ≤ 6) ∧ (-2147483648 ≤ c ∧ c < 2147483648)) ∧ ((0 ≤ c ∧ c < A 2 0 → ((0 ≤ c ∧ c < 8 ∧ 2 ≤ A 2 (18 + c) ∧ A 2 (18 + c) ≤ 4) ∧ (∀ (G_1 : FF), ((∀ a b, a ≠ 24 → G_1 a b = F a b) ∧ bnP G_1 (A 2) c) → (K (some (some (vI (G_1 24 5)))) G_1 A)))) ∧ (¬ (0 ≤ c ∧ c < A 2 0) → (K none F A)))
  refine ⟨by first | exact ⟨p1.1.1, p1.1.2, by omega⟩ | exact ⟨p1.1.1, p1.1.2, by omega, by omega⟩ | omega, ?_⟩
  refine ⟨fun c1 => ?_, fun c1 => ?_⟩
  · skip
    (try simp (disch := omega) only [fat_in] at c1); (try simp (disch := omega) only [w32_0, wbi0, Classical.not_not, w32_id] at c1)
    refine ⟨by (have q3 := (p1.2.2.1 c c1.1 c1.2).1; omega), ?_⟩
    intro G_1 g1
    refine K_eq (h.1 c1 _ (qrP_of (fun a b hab => g1.1 a b (by omega)) (fun b i hb => rfl))) ?_
    exact g1.2.2.2.2.2.2.symm
  · skip
    (try simp (disch := omega) only [fat_in] at c1); (try simp (disch := omega) only [w32_0, wbi0, Classical.not_not, w32_id] at c1)
    exact h.2 c1
theorem qtX8_bandHigh (l : Launch) (hst : l.stackTraces = false) : am_CT l layX qeX8_bandHigh := am_met1 hst rfl (by decide +kernel) rfl rfl rfl rfl rfl (fun _ _ h => by cases h) rfl (qzX8_bandHigh l hst) (fun as F A K h => by
  replace h : qsX8_bandHigh as F A K := h
  unfold qsX8_bandHigh at h
  split at h
  · rename_i o c
    refine ⟨by first | exact Nat.le_of_ble_eq_true rfl | simp [am_fl, am_cat], ?_⟩
    replace h := am_cond2 h
    rcases h with ⟨hb, h⟩ | h
    · skip
      have hb0 := hb
      have hb0 := am_bq hb0
      subst hb0
      exact am_way_line (qvX8_bandHigh_0 c F A K h)
    exact h.elim
  · exact h.elim)
def qkX8_sideOf : Nat → Option CI := fun pc => cond (Nat.ble 36 pc) none (cond (Nat.ble 16 pc) (cond (Nat.ble 25 pc) (cond (Nat.ble 31 pc) (cond (Nat.beq pc 31) (some (.i2l, 32, [])) (cond (Nat.beq pc 32) (some (.invokestatic 212, 35, [])) (cond (Nat.beq pc 35) (some (.ireturn, 36, [])) (none)))) (cond (Nat.beq pc 25) (some (.invokevirtual 126, 28, [])) (cond (Nat.beq pc 28) (some (.invokevirtual 195, 31, [])) (none)))) (cond (Nat.ble 20 pc) (cond (Nat.beq pc 20) (some (.aload_n 0, 21, [])) (cond (Nat.beq pc 21) (some (.getfield 10, 24, [])) (cond (Nat.beq pc 24) (some (.iload_n 1, 25, [])) (none)))) (cond (Nat.beq pc 16) (some (.iconst 0, 17, [])) (cond (Nat.beq pc 17) (some (.goto 11, 20, [28])) (none))))) (cond (Nat.ble 7 pc) (cond (Nat.ble 11 pc) (cond (Nat.beq pc 11) (some (.iload_n 2, 12, [])) (cond (Nat.beq pc 12) (some (.iload_n 3, 13, [])) (cond (Nat.beq pc 13) (some (.ifCond .ne 7, 16, [20])) (none)))) (cond (Nat.beq pc 7) (some (.getfield 10, 10, [])) (cond (Nat.beq pc 10) (some (.iload_n 1, 11, [])) (none)))) (cond (Nat.ble 2 pc) (cond (Nat.beq pc 2) (some (.iload_n 2, 3, [])) (cond (Nat.beq pc 3) (some (.invokevirtual 191, 6, [])) (cond (Nat.beq pc 6) (some (.aload_n 0, 7, [])) (none)))) (cond (Nat.beq pc 0) (some (.aload_n 0, 1, [])) (cond (Nat.beq pc 1) (some (.iload_n 1, 2, [])) (none))))))
theorem qkX8_sideOf_ok : ∀ pc i nx ts, qkX8_sideOf pc = some (i, nx, ts) → am_cok cX8_sideOf pc (i, nx, ts) = true := fun pc i nx ts h => am_tok_ok (n := 36) (by decide +kernel) (fun pc h => by show cond (Nat.ble 36 pc) _ _ = _; rw [Nat.ble_eq_true_of_le h]; rfl) h
def qaX8_sideOf : Nat → Option CE := fun k => cond (Nat.beq k 191) (some qeX8_requireCurveAndLine) (cond (Nat.beq k 126) (some qeX2_top) (cond (Nat.beq k 195) (some qeX2_cutNumber) (cond (Nat.beq k 212) (some qeX8_signOf) (none))))
theorem qyX8_sideOf (l : Launch) (hst : l.stackTraces = false) : ∀ k e1, qaX8_sideOf k = some e1 → am_cal l layX RX8 11 k e1 ∧ True := q_cons ⟨am_calV (ci := 8) (qtX8_requireCurveAndLine l hst) qbX8_requireCurveAndLine (by decide) rfl (am_tb_at 1035 (by decide +kernel) rfl), trivial⟩ (q_cons ⟨am_calV (ci := 2) (qtX2_top l) qbX2_top (by decide) rfl (am_tb_at 784 (by decide +kernel) rfl), trivial⟩ (q_cons ⟨am_calV (ci := 2) (qtX2_cutNumber l) qbX2_cutNumber (by decide) rfl (am_tb_at 1039 (by decide +kernel) rfl), trivial⟩ (q_cons ⟨am_calS (qtX8_signOf l) qbX8_signOf (by decide) rfl (by decide) (am_tb_at 1070 (by decide +kernel) rfl), trivial⟩ (q_nil))))
def qxX8_sideOf : CX := (qkX8_sideOf, layX, qfX8, qaX8_sideOf, qcX8, qlX8, qmX8, (some .int), true, none, 2, none, fun _ => none)
theorem qzX8_sideOf (l : Launch) (hst : l.stackTraces = false) : am_sta l qxX8_sideOf RX8 11 cX8_sideOf := ⟨qkX8_sideOf_ok, layX_ok, qfX8_ok, qcX8_ok, qlX8_ok, am_mthP qmX8_ok (by decide), fun k e1 h => (qyX8_sideOf l hst k e1 h).1⟩
def qsX8_sideOf : SP := fun as F A K => match as with
  | [.inr (.inr o), .inl c, .inl l, .inl e] => cond (Nat.beq o 0) ((fgOK (A 2) ∧ (-2147483648 ≤ c ∧ c < 2147483648) ∧ (-2147483648 ≤ l ∧ l < 2147483648) ∧ (-2147483648 ≤ e ∧ e < 2147483648)) ∧ (((0 ≤ c ∧ c < A 2 0) ∧ 0 ≤ l ∧ l < A 2 1 → (K (some (some (vI (sg (w64 (w32 (cfR (A 2) c l (if e = 0 then 0 else A 2 (18 + c) - 1)))))))) F A)) ∧ (¬ ((0 ≤ c ∧ c < A 2 0) ∧ 0 ≤ l ∧ l < A 2 1) → (K none F A)))) (False)
  | _ => False
def qeX8_sideOf : CE := (yX8_sideOf, cX8_sideOf, 4, (some .int), 3, some 8, 1, [], 2, 11, qsX8_sideOf)
theorem qbX8_sideOf : am_mb qeX8_sideOf := ⟨am_tb_at 1069 (by decide +kernel) rfl, am_tb_at 114 (by decide +kernel) rfl, ⟨by decide, by decide, by decide +kernel⟩, by decide, by decide, am_tb_at 1067 (by decide +kernel) rfl, am_tb_at 1068 (by decide +kernel) rfl, _, _, rfl⟩
set_option maxRecDepth 20000 in
theorem qvX8_sideOf_0 (c : Int) (l : Int) (e : Int) (F : FF) (A : AA) (K : KK) (h : (fgOK (A 2) ∧ (-2147483648 ≤ c ∧ c < 2147483648) ∧ (-2147483648 ≤ l ∧ l < 2147483648) ∧ (-2147483648 ≤ e ∧ e < 2147483648)) ∧ (((0 ≤ c ∧ c < A 2 0) ∧ 0 ≤ l ∧ l < A 2 1 → (K (some (some (vI (sg (w64 (w32 (cfR (A 2) c l (if e = 0 then 0 else A 2 (18 + c) - 1)))))))) F A)) ∧ (¬ ((0 ≤ c ∧ c < A 2 0) ∧ 0 ≤ l ∧ l < A 2 1) → (K none F A)))) : am_line qxX8_sideOf 19 [vR 0, vI c, vI l, vI e] 4 F A K := by
  show am_stp qxX8_sideOf (am_run qxX8_sideOf (fun _ => none) (fun _ _ _ _ _ _ => False) K 19) K 0 [some (vR 0), some (vI c), some (vI l), some (vI e)] [] F A 0
  obtain ⟨hp, h⟩ := h
  have p1 := hp.1
  have p2' := hp.2
  have q1 := p1.1.1
  have q2 := p1.1.2
  show ((0 ≤ A 2 0 ∧ A 2 0 ≤ 8) ∧ (0 ≤ A 2 1 ∧ A 2 1 ≤ 6) ∧ (-2147483648 ≤ c ∧ c < 2147483648) ∧ (-2147483648 ≤ l ∧ l < 2147483648)) ∧ (((0 ≤ c ∧ c < A 2 0) ∧ 0 ≤ l ∧ l < A 2 1 → ((w32 e = w32 0 → (K (some (some (vI (sg (w64 (w32 ((fat (A 2) (26 + (c * 4 + 0) * 3 + 2)) * (fat (A 2) (122 + l * 3 + 0) * (fat (A 2) (26 + (c * 4 + 0) * 3 + 0)) + fat (A 2) (122 + l * 3 + 1) * (fat (A 2) (26 + (c * 4 + 0) * 3 + 1)) + fat (A 2) (122 + l * 3 + 2))))))))) F A)) ∧ (¬ w32 e = w32 0 → (K (some (some (vI (sg (w64 (w32 ((fat (A 2) (26 + (c * 4 + (fat (A 2) (18 + c) - 1)) * 3 + 2)) * (fat (A 2) (122 + l * 3 + 0) * (fat (A 2) (26 + (c * 4 + (fat (A 2) (18 + c) - 1)) * 3 + 0)) + fat (A 2) (122 + l * 3 + 1) * (fat (A 2) (26 + (c * 4 + (fat (A 2) (18 + c) - 1)) * 3 + 1)) + fat (A 2) (122 + l * 3 + 2))))))))) F A)))) ∧ (¬ ((0 ≤ c ∧ c < A 2 0) ∧ 0 ≤ l ∧ l < A 2 1) → (K none F A)))
  refine ⟨by first | exact ⟨p1.1.1, p1.1.2, by omega⟩ | exact ⟨p1.1.1, p1.1.2, by omega, by omega⟩ | omega, ?_⟩
  refine ⟨fun c1 => ?_, fun c1 => ?_⟩
  · skip
    (try have q3 := (p1.2.2.1 c c1.1.1 c1.1.2).1); (try simp (disch := omega) only [fat_in, w32_0, w32_id] at c1)
    refine ⟨fun c2 => ?_, fun c2 => ?_⟩
    · skip
      (try have q3 := (p1.2.2.1 c c1.1.1 c1.1.2).1); (try simp (disch := omega) only [fat_in, w32_0, w32_id] at c2)
      have q3 := (p1.2.2.1 c c1.1.1 c1.1.2).1
      simp (disch := omega) only [fat_in]
      exact K_eq (h.1 c1) (by rw [if_pos c2]; rfl)
    · skip
      (try have q3 := (p1.2.2.1 c c1.1.1 c1.1.2).1); (try simp (disch := omega) only [fat_in, w32_0, w32_id] at c2)
      have q3 := (p1.2.2.1 c c1.1.1 c1.1.2).1
      simp (disch := omega) only [fat_in]
      exact K_eq (h.1 c1) (by rw [if_neg c2]; rfl)
  · skip
    (try have q3 := (p1.2.2.1 c c1.1.1 c1.1.2).1); (try simp (disch := omega) only [fat_in, w32_0, w32_id] at c1)
    exact h.2 c1
theorem qtX8_sideOf (l : Launch) (hst : l.stackTraces = false) : am_CT l layX qeX8_sideOf := am_met1 hst rfl (by decide +kernel) rfl rfl rfl rfl rfl (fun _ _ h => by cases h) rfl (qzX8_sideOf l hst) (fun as F A K h => by
  replace h : qsX8_sideOf as F A K := h
  unfold qsX8_sideOf at h
  split at h
  · rename_i o c l e
    refine ⟨by first | exact Nat.le_of_ble_eq_true rfl | simp [am_fl, am_cat], ?_⟩
    replace h := am_cond2 h
    rcases h with ⟨hb, h⟩ | h
    · skip
      have hb0 := hb
      have hb0 := am_bq hb0
      subst hb0
      exact am_way_line (qvX8_sideOf_0 c l e F A K h)
    exact h.elim
  · exact h.elim)
def qkX8_isSamePlace : Nat → Option CI := fun pc => cond (Nat.ble 54 pc) none (cond (Nat.ble 28 pc) (cond (Nat.ble 39 pc) (cond (Nat.ble 48 pc) (cond (Nat.ble 52 pc) (cond (Nat.beq pc 52) (some (.iconst 0, 53, [])) (cond (Nat.beq pc 53) (some (.ireturn, 54, [])) (none))) (cond (Nat.beq pc 48) (some (.iconst 1, 49, [])) (cond (Nat.beq pc 49) (some (.goto 4, 52, [53])) (none)))) (cond (Nat.ble 42 pc) (cond (Nat.beq pc 42) (some (.invokevirtual 137, 45, [])) (cond (Nat.beq pc 45) (some (.if_icmp .ne 7, 48, [52])) (none))) (cond (Nat.beq pc 39) (some (.iload 4, 41, [])) (cond (Nat.beq pc 41) (some (.iconst 1, 42, [])) (none))))) (cond (Nat.ble 31 pc) (cond (Nat.ble 35 pc) (cond (Nat.beq pc 35) (some (.getfield 10, 38, [])) (cond (Nat.beq pc 38) (some (.iload_n 3, 39, [])) (none))) (cond (Nat.beq pc 31) (some (.invokevirtual 137, 34, [])) (cond (Nat.beq pc 34) (some (.aload_n 0, 35, [])) (none)))) (cond (Nat.beq pc 28) (some (.iload_n 1, 29, [])) (cond (Nat.beq pc 29) (some (.iload_n 2, 30, [])) (cond (Nat.beq pc 30) (some (.iconst 1, 31, [])) (none)))))) (cond (Nat.ble 11 pc) (cond (Nat.ble 18 pc) (cond (Nat.ble 24 pc) (cond (Nat.beq pc 24) (some (.aload_n 0, 25, [])) (cond (Nat.beq pc 25) (some (.getfield 10, 28, [])) (none))) (cond (Nat.beq pc 18) (some (.invokevirtual 137, 21, [])) (cond (Nat.beq pc 21) (some (.if_icmp .ne 31, 24, [52])) (none)))) (cond (Nat.ble 15 pc) (cond (Nat.beq pc 15) (some (.iload 4, 17, [])) (cond (Nat.beq pc 17) (some (.iconst 0, 18, [])) (none))) (cond (Nat.beq pc 11) (some (.getfield 10, 14, [])) (cond (Nat.beq pc 14) (some (.iload_n 3, 15, [])) (none))))) (cond (Nat.ble 5 pc) (cond (Nat.ble 7 pc) (cond (Nat.beq pc 7) (some (.invokevirtual 137, 10, [])) (cond (Nat.beq pc 10) (some (.aload_n 0, 11, [])) (none))) (cond (Nat.beq pc 5) (some (.iload_n 2, 6, [])) (cond (Nat.beq pc 6) (some (.iconst 0, 7, [])) (none)))) (cond (Nat.beq pc 0) (some (.aload_n 0, 1, [])) (cond (Nat.beq pc 1) (some (.getfield 10, 4, [])) (cond (Nat.beq pc 4) (some (.iload_n 1, 5, [])) (none)))))))
theorem qkX8_isSamePlace_ok : ∀ pc i nx ts, qkX8_isSamePlace pc = some (i, nx, ts) → am_cok cX8_isSamePlace pc (i, nx, ts) = true := fun pc i nx ts h => am_tok_ok (n := 54) (by decide +kernel) (fun pc h => by show cond (Nat.ble 54 pc) _ _ = _; rw [Nat.ble_eq_true_of_le h]; rfl) h
def qaX8_isSamePlace : Nat → Option CE := fun k => cond (Nat.beq k 137) (some qeX2_point) (none)
theorem qyX8_isSamePlace (l : Launch) : ∀ k e1, qaX8_isSamePlace k = some e1 → am_cal l layX RX8 5 k e1 ∧ ceT e1 = 0 := q_cons ⟨am_calV (ci := 2) (qtX2_point l) qbX2_point (by decide) rfl (am_tb_at 751 (by decide +kernel) rfl), rfl⟩ (q_nil)
def qxX8_isSamePlace : CX := (qkX8_isSamePlace, layX, qfX8, qaX8_isSamePlace, qcX8, qlX8, qmX8, (some .boolean), false, none, 0, none, fun _ => none)
theorem qzX8_isSamePlace (l : Launch) : am_sta l qxX8_isSamePlace RX8 5 cX8_isSamePlace := ⟨qkX8_isSamePlace_ok, layX_ok, qfX8_ok, qcX8_ok, qlX8_ok, am_mthP qmX8_ok (by decide), fun k e1 h => (qyX8_isSamePlace l k e1 h).1⟩
def qsX8_isSamePlace : SP := fun as F A K => match as with
  | [.inr (.inr o), .inl c, .inl k, .inl e, .inl i] => cond (Nat.beq o 0) (((0 ≤ c ∧ c < 8 ∧ 0 ≤ k ∧ k < 4) ∧ (0 ≤ e ∧ e < 8 ∧ 0 ≤ i ∧ i < 4)) ∧ (K (some (some (vI (bi (w32 (pxF (A 2) c k 0) = w32 (pxF (A 2) e i 0) ∧ w32 (pxF (A 2) c k 1) = w32 (pxF (A 2) e i 1)))))) F A)) (False)
  | _ => False
def qeX8_isSamePlace : CE := (yX8_isSamePlace, cX8_isSamePlace, 5, (some .boolean), 4, some 8, 0, [], 0, 5, qsX8_isSamePlace)
theorem qbX8_isSamePlace : am_mb qeX8_isSamePlace := ⟨am_tb_at 1346 (by decide +kernel) rfl, am_tb_at 114 (by decide +kernel) rfl, ⟨by decide, by decide, by decide +kernel⟩, by decide, by decide, am_tb_at 1345 (by decide +kernel) rfl, am_tb_at 47 (by decide +kernel) rfl, _, _, rfl⟩
set_option maxRecDepth 20000 in
theorem qvX8_isSamePlace_0 (c : Int) (k : Int) (e : Int) (i : Int) (F : FF) (A : AA) (K : KK) (h : ((0 ≤ c ∧ c < 8 ∧ 0 ≤ k ∧ k < 4) ∧ (0 ≤ e ∧ e < 8 ∧ 0 ≤ i ∧ i < 4)) ∧ (K (some (some (vI (bi (w32 (pxF (A 2) c k 0) = w32 (pxF (A 2) e i 0) ∧ w32 (pxF (A 2) c k 1) = w32 (pxF (A 2) e i 1)))))) F A)) : am_line qxX8_isSamePlace 30 [vR 0, vI c, vI k, vI e, vI i] 5 F A K := by
  show am_stp qxX8_isSamePlace (am_run qxX8_isSamePlace (fun _ => none) (fun _ _ _ _ _ _ => False) K 30) K 0 [some (vR 0), some (vI c), some (vI k), some (vI e), some (vI i)] [] F A 0
  obtain ⟨hp, h⟩ := h
  show (w32 (fat (A 2) (26 + (c * 4 + k) * 3 + 0)) = w32 (fat (A 2) (26 + (e * 4 + i) * 3 + 0)) → ((w32 (fat (A 2) (26 + (c * 4 + k) * 3 + 1)) = w32 (fat (A 2) (26 + (e * 4 + i) * 3 + 1)) → ((1 = 0 ∨ 1 = 1) ∧ (K (some (some (vI 1))) F A))) ∧ (¬ w32 (fat (A 2) (26 + (c * 4 + k) * 3 + 1)) = w32 (fat (A 2) (26 + (e * 4 + i) * 3 + 1)) → ((0 = 0 ∨ 0 = 1) ∧ (K (some (some (vI 0))) F A))))) ∧ (¬ w32 (fat (A 2) (26 + (c * 4 + k) * 3 + 0)) = w32 (fat (A 2) (26 + (e * 4 + i) * 3 + 0)) → ((0 = 0 ∨ 0 = 1) ∧ (K (some (some (vI 0))) F A)))
  refine ⟨fun c1 => ?_, fun c1 => ?_⟩
  · skip
    (try simp (disch := omega) only [fat_in] at c1)
    refine ⟨fun c2 => ?_, fun c2 => ?_⟩
    · skip
      (try simp (disch := omega) only [fat_in] at c2)
      refine ⟨by first | exact Or.inl rfl | exact Or.inr rfl, ?_⟩
      exact K_eq h (bi_t ⟨c1, c2⟩)
    · skip
      (try simp (disch := omega) only [fat_in] at c2)
      refine ⟨by first | exact Or.inl rfl | exact Or.inr rfl, ?_⟩
      exact K_eq h (bi_f (fun z => c2 z.2))
  · skip
    (try simp (disch := omega) only [fat_in] at c1)
    refine ⟨by first | exact Or.inl rfl | exact Or.inr rfl, ?_⟩
    exact K_eq h (bi_f (fun z => c1 z.1))
theorem qtX8_isSamePlace (l : Launch) : am_CT l layX qeX8_isSamePlace := am_met0 rfl (by decide +kernel) rfl rfl rfl rfl rfl (fun _ => rfl) rfl (qzX8_isSamePlace l) (fun k e1 h => (qyX8_isSamePlace l k e1 h).2) (fun as F A K h => by
  replace h : qsX8_isSamePlace as F A K := h
  unfold qsX8_isSamePlace at h
  split at h
  · rename_i o c k e i
    refine ⟨by first | exact Nat.le_of_ble_eq_true rfl | simp [am_fl, am_cat], ?_⟩
    replace h := am_cond2 h
    rcases h with ⟨hb, h⟩ | h
    · skip
      have hb0 := hb
      have hb0 := am_bq hb0
      subst hb0
      exact am_way_line (qvX8_isSamePlace_0 c k e i F A K h)
    exact h.elim
  · exact h.elim)
