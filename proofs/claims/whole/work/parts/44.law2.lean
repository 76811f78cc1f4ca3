def qkL_control : Nat → Option CI := fun pc => cond (Nat.ble 21 pc) none (cond (Nat.ble 10 pc) (cond (Nat.ble 17 pc) (cond (Nat.ble 19 pc) (cond (Nat.beq pc 19) (some (.iconst 0, 20, [])) (cond (Nat.beq pc 20) (some (.ireturn, 21, [])) (none))) (cond (Nat.beq pc 17) (some (.iconst 1, 18, [])) (cond (Nat.beq pc 18) (some (.ireturn, 19, [])) (none)))) (cond (Nat.ble 12 pc) (cond (Nat.beq pc 12) (some (.goto 7, 15, [19])) (cond (Nat.beq pc 15) (some (.astore 5, 17, [])) (none))) (cond (Nat.beq pc 10) (some (.i2l, 11, [])) (cond (Nat.beq pc 11) (some (.lastore, 12, [])) (none))))) (cond (Nat.ble 4 pc) (cond (Nat.ble 6 pc) (cond (Nat.beq pc 6) (some (.iload_n 3, 7, [])) (cond (Nat.beq pc 7) (some (.invokevirtual 15, 10, [])) (none))) (cond (Nat.beq pc 4) (some (.iload_n 1, 5, [])) (cond (Nat.beq pc 5) (some (.iload_n 2, 6, [])) (none)))) (cond (Nat.beq pc 0) (some (.aload 4, 2, [])) (cond (Nat.beq pc 2) (some (.iconst 0, 3, [])) (cond (Nat.beq pc 3) (some (.aload_n 0, 4, [])) (none))))))
theorem qkL_control_ok : ∀ pc i nx ts, qkL_control pc = some (i, nx, ts) → am_cok cL_control pc (i, nx, ts) = true := fun pc i nx ts h => am_tok_ok (n := 21) (by decide +kernel) (fun pc h => by show cond (Nat.ble 21 pc) _ _ = _; rw [Nat.ble_eq_true_of_le h]; rfl) h
def qaL_control : Nat → Option CE := fun k => cond (Nat.beq k 15) (some qeX8_control) (none)
theorem qyL_control (l : Launch) (hst : l.stackTraces = false) : ∀ k e1, qaL_control k = some e1 → am_cal l layL RL 11 k e1 ∧ True := q_cons ⟨am_calV (ci := 8) (am_CT_mono layX_L (qtX8_control l hst)) qbX8_control (by decide) rfl (am_tb_at 913 (by decide +kernel) rfl), trivial⟩ (q_nil)
def qxL_control : CX := (qkL_control, layL, qfL, qaL_control, qcL, qlL, qmL, (some .int), false, (some 17), 1, none, fun _ => none)
theorem qzL_control (l : Launch) (hst : l.stackTraces = false) : am_sta l qxL_control RL 11 cL_control := ⟨qkL_control_ok, layL_ok, qfL_ok, qcL_ok, qlL_ok, am_mthP qmL_ok (by decide), fun k e1 h => (qyL_control l hst k e1 h).1⟩
def qsL_control : SP := fun as F A K => match as with
  | [.inr (.inr x), .inl c, .inl k, .inl w, .inr (.inr o)] => cond (Nat.beq x 0 && Nat.beq o 43) ((fgOK (A 2) ∧ (-2147483648 ≤ c ∧ c < 2147483648) ∧ (-2147483648 ≤ k ∧ k < 2147483648) ∧ (-2147483648 ≤ w ∧ w < 2147483648)) ∧ ((0 ≤ c ∧ c < A 2 0 → (K (some (some (vI 0))) F (upA A 43 (w32 0) (w32 (if 0 ≤ k ∧ k < A 2 (18 + c) then (if 0 ≤ w ∧ w ≤ 2 then A 2 (26 + (c * 4 + k) * 3 + w) else -2) else -1))))) ∧ (¬ (0 ≤ c ∧ c < A 2 0) → (K (some (some (vI 1))) F A)))) (False)
  | _ => False
def qeL_control : CE := (yL_control, cL_control, 6, (some .int), 5, none, 2, [(0, 12, 15, 13)], 1, 11, qsL_control)
theorem qbL_control : am_mb qeL_control := ⟨am_tb_at 912 (by decide +kernel) rfl, am_tb_at 113 (by decide +kernel) rfl, ⟨by decide, by decide, by decide +kernel⟩, by decide, am_tb_at 911 (by decide +kernel) rfl⟩
set_option maxRecDepth 20000 in
theorem qvL_control_0_43 (c : Int) (k : Int) (w : Int) (F : FF) (A : AA) (K : KK) (h : (fgOK (A 2) ∧ (-2147483648 ≤ c ∧ c < 2147483648) ∧ (-2147483648 ≤ k ∧ k < 2147483648) ∧ (-2147483648 ≤ w ∧ w < 2147483648)) ∧ ((0 ≤ c ∧ c < A 2 0 → (K (some (some (vI 0))) F (upA A 43 (w32 0) (w32 (if 0 ≤ k ∧ k < A 2 (18 + c) then (if 0 ≤ w ∧ w ≤ 2 then A 2 (26 + (c * 4 + k) * 3 + w) else -2) else -1))))) ∧ (¬ (0 ≤ c ∧ c < A 2 0) → (K (some (some (vI 1))) F A)))) : am_line qxL_control 13 [vR 0, vI c, vI k, vI w, vR 43] 6 F A K := by
  show am_stp qxL_control (am_run qxL_control (fun _ => none) (fun _ _ _ _ _ _ => False) K 13) K 0 [some (vR 0), some (vI c), some (vI k), some (vI w), some (vR 43), none] [] F A 0
  obtain ⟨hp, h⟩ := h
  show (fgOK (A 2) ∧ (-2147483648 ≤ c ∧ c < 2147483648) ∧ (-2147483648 ≤ k ∧ k < 2147483648) ∧ (-2147483648 ≤ w ∧ w < 2147483648)) ∧ ((0 ≤ c ∧ c < A 2 0 → ((0 ≤ w32 0 ∧ w32 0 < 1) ∧ (K (some (some (vI 0))) F (upA A 43 (w32 0) (w32 (if 0 ≤ k ∧ k < A 2 (18 + c) then (if 0 ≤ w ∧ w ≤ 2 then A 2 (26 + (c * 4 + k) * 3 + w) else -2) else -1)))))) ∧ (¬ (0 ≤ c ∧ c < A 2 0) → (K (some (some (vI 1))) F A)))
  refine ⟨by exact hp, ?_⟩
  refine ⟨fun c1 => ?_, fun c1 => ?_⟩
  · skip
    skip
    refine ⟨by exact ⟨by decide, by decide⟩, ?_⟩
    first | exact h.1 c1 | exact h.2 c1 | exact h.1 c1 _ _ g1 | exact h.1 c1 _ g1 | exact h.1 c1 _ _ _ _ g1
  · skip
    skip
    first | exact h.1 c1 | exact h.2 c1 | exact h.1 c1 _ _ g1 | exact h.1 c1 _ g1 | exact h.1 c1 _ _ _ _ g1
theorem qtL_control (l : Launch) (hst : l.stackTraces = false) : am_CT l layL qeL_control := am_met2 (hp := 15) (hn := 17) (i := 5) (en := 12) rfl (by decide +kernel) rfl rfl rfl rfl rfl rfl (Or.inl ⟨by decide +kernel, rfl⟩) (by decide) (dc_cov (n := 21) (by decide +kernel) (by decide +kernel)) (fun _ => rfl) rfl (qzL_control l hst) (fun as F A K h => by
  replace h : qsL_control as F A K := h
  unfold qsL_control at h
  split at h
  · rename_i x c k w o
    refine ⟨by first | exact Nat.le_of_ble_eq_true rfl | simp [am_fl, am_cat], ?_⟩
    replace h := am_cond2 h
    rcases h with ⟨hb, h⟩ | h
    · simp only [Bool.and_eq_true] at hb
      obtain ⟨hb0, hb1⟩ := hb
      have hb0 := am_bq hb0
      subst hb0
      have hb1 := am_bq hb1
      subst hb1
      exact am_way_line (qvL_control_0_43 c k w F A K h)
    exact h.elim
  · exact h.elim)
def qkL_lineNumber : Nat → Option CI := fun pc => cond (Nat.ble 19 pc) none (cond (Nat.ble 9 pc) (cond (Nat.ble 15 pc) (cond (Nat.ble 17 pc) (cond (Nat.beq pc 17) (some (.iconst 0, 18, [])) (cond (Nat.beq pc 18) (some (.ireturn, 19, [])) (none))) (cond (Nat.beq pc 15) (some (.iconst 1, 16, [])) (cond (Nat.beq pc 16) (some (.ireturn, 17, [])) (none)))) (cond (Nat.beq pc 9) (some (.lastore, 10, [])) (cond (Nat.beq pc 10) (some (.goto 7, 13, [17])) (cond (Nat.beq pc 13) (some (.astore 4, 15, [])) (none))))) (cond (Nat.ble 3 pc) (cond (Nat.ble 5 pc) (cond (Nat.beq pc 5) (some (.invokevirtual 19, 8, [])) (cond (Nat.beq pc 8) (some (.i2l, 9, [])) (none))) (cond (Nat.beq pc 3) (some (.iload_n 1, 4, [])) (cond (Nat.beq pc 4) (some (.iload_n 2, 5, [])) (none)))) (cond (Nat.beq pc 0) (some (.aload_n 3, 1, [])) (cond (Nat.beq pc 1) (some (.iconst 0, 2, [])) (cond (Nat.beq pc 2) (some (.aload_n 0, 3, [])) (none))))))
theorem qkL_lineNumber_ok : ∀ pc i nx ts, qkL_lineNumber pc = some (i, nx, ts) → am_cok cL_lineNumber pc (i, nx, ts) = true := fun pc i nx ts h => am_tok_ok (n := 19) (by decide +kernel) (fun pc h => by show cond (Nat.ble 19 pc) _ _ = _; rw [Nat.ble_eq_true_of_le h]; rfl) h
def qaL_lineNumber : Nat → Option CE := fun k => cond (Nat.beq k 19) (some qeX8_lineNumber) (none)
theorem qyL_lineNumber (l : Launch) (hst : l.stackTraces = false) : ∀ k e1, qaL_lineNumber k = some e1 → am_cal l layL RL 11 k e1 ∧ True := q_cons ⟨am_calV (ci := 8) (am_CT_mono layX_L (qtX8_lineNumber l hst)) qbX8_lineNumber (by decide) rfl (am_tb_at 920 (by decide +kernel) rfl), trivial⟩ (q_nil)
def qxL_lineNumber : CX := (qkL_lineNumber, layL, qfL, qaL_lineNumber, qcL, qlL, qmL, (some .int), false, (some 15), 1, none, fun _ => none)
theorem qzL_lineNumber (l : Launch) (hst : l.stackTraces = false) : am_sta l qxL_lineNumber RL 11 cL_lineNumber := ⟨qkL_lineNumber_ok, layL_ok, qfL_ok, qcL_ok, qlL_ok, am_mthP qmL_ok (by decide), fun k e1 h => (qyL_lineNumber l hst k e1 h).1⟩
def qsL_lineNumber : SP := fun as F A K => match as with
  | [.inr (.inr x), .inl l, .inl w, .inr (.inr o)] => cond (Nat.beq x 0 && Nat.beq o 43) ((fgOK (A 2) ∧ (-2147483648 ≤ l ∧ l < 2147483648) ∧ (-2147483648 ≤ w ∧ w < 2147483648)) ∧ ((0 ≤ l ∧ l < A 2 1 → (K (some (some (vI 0))) F (upA A 43 (w32 0) (w32 (if 0 ≤ w ∧ w ≤ 2 then A 2 (122 + l * 3 + w) else 1000))))) ∧ (¬ (0 ≤ l ∧ l < A 2 1) → (K (some (some (vI 1))) F A)))) (False)
  | _ => False
def qeL_lineNumber : CE := (yL_lineNumber, cL_lineNumber, 5, (some .int), 4, none, 2, [(0, 10, 13, 13)], 1, 11, qsL_lineNumber)
theorem qbL_lineNumber : am_mb qeL_lineNumber := ⟨am_tb_at 919 (by decide +kernel) rfl, am_tb_at 113 (by decide +kernel) rfl, ⟨by decide, by decide, by decide +kernel⟩, by decide, am_tb_at 918 (by decide +kernel) rfl⟩
set_option maxRecDepth 20000 in
theorem qvL_lineNumber_0_43 (l : Int) (w : Int) (F : FF) (A : AA) (K : KK) (h : (fgOK (A 2) ∧ (-2147483648 ≤ l ∧ l < 2147483648) ∧ (-2147483648 ≤ w ∧ w < 2147483648)) ∧ ((0 ≤ l ∧ l < A 2 1 → (K (some (some (vI 0))) F (upA A 43 (w32 0) (w32 (if 0 ≤ w ∧ w ≤ 2 then A 2 (122 + l * 3 + w) else 1000))))) ∧ (¬ (0 ≤ l ∧ l < A 2 1) → (K (some (some (vI 1))) F A)))) : am_line qxL_lineNumber 12 [vR 0, vI l, vI w, vR 43] 5 F A K := by
  show am_stp qxL_lineNumber (am_run qxL_lineNumber (fun _ => none) (fun _ _ _ _ _ _ => False) K 12) K 0 [some (vR 0), some (vI l), some (vI w), some (vR 43), none] [] F A 0
  obtain ⟨hp, h⟩ := h
  show (fgOK (A 2) ∧ (-2147483648 ≤ l ∧ l < 2147483648) ∧ (-2147483648 ≤ w ∧ w < 2147483648)) ∧ ((0 ≤ l ∧ l < A 2 1 → ((0 ≤ w32 0 ∧ w32 0 < 1) ∧ (K (some (some (vI 0))) F (upA A 43 (w32 0) (w32 (if 0 ≤ w ∧ w ≤ 2 then A 2 (122 + l * 3 + w) else 1000)))))) ∧ (¬ (0 ≤ l ∧ l < A 2 1) → (K (some (some (vI 1))) F A)))
  refine ⟨by exact hp, ?_⟩
  refine ⟨fun c1 => ?_, fun c1 => ?_⟩
  · skip
    skip
    refine ⟨by exact ⟨by decide, by decide⟩, ?_⟩
    first | exact h.1 c1 | exact h.2 c1 | exact h.1 c1 _ _ g1 | exact h.1 c1 _ g1 | exact h.1 c1 _ _ _ _ g1
  · skip
    skip
    first | exact h.1 c1 | exact h.2 c1 | exact h.1 c1 _ _ g1 | exact h.1 c1 _ g1 | exact h.1 c1 _ _ _ _ g1
theorem qtL_lineNumber (l : Launch) (hst : l.stackTraces = false) : am_CT l layL qeL_lineNumber := am_met2 (hp := 13) (hn := 15) (i := 4) (en := 10) rfl (by decide +kernel) rfl rfl rfl rfl rfl rfl (Or.inl ⟨by decide +kernel, rfl⟩) (by decide) (dc_cov (n := 19) (by decide +kernel) (by decide +kernel)) (fun _ => rfl) rfl (qzL_lineNumber l hst) (fun as F A K h => by
  replace h : qsL_lineNumber as F A K := h
  unfold qsL_lineNumber at h
  split at h
  · rename_i x l w o
    refine ⟨by first | exact Nat.le_of_ble_eq_true rfl | simp [am_fl, am_cat], ?_⟩
    replace h := am_cond2 h
    rcases h with ⟨hb, h⟩ | h
    · simp only [Bool.and_eq_true] at hb
      obtain ⟨hb0, hb1⟩ := hb
      have hb0 := am_bq hb0
      subst hb0
      have hb1 := am_bq hb1
      subst hb1
      exact am_way_line (qvL_lineNumber_0_43 l w F A K h)
    exact h.elim
  · exact h.elim)
def qkL_coefficient : Nat → Option CI := fun pc => cond (Nat.ble 21 pc) none (cond (Nat.ble 10 pc) (cond (Nat.ble 17 pc) (cond (Nat.ble 19 pc) (cond (Nat.beq pc 19) (some (.iconst 0, 20, [])) (cond (Nat.beq pc 20) (some (.ireturn, 21, [])) (none))) (cond (Nat.beq pc 17) (some (.iconst 1, 18, [])) (cond (Nat.beq pc 18) (some (.ireturn, 19, [])) (none)))) (cond (Nat.ble 12 pc) (cond (Nat.beq pc 12) (some (.goto 7, 15, [19])) (cond (Nat.beq pc 15) (some (.astore 5, 17, [])) (none))) (cond (Nat.beq pc 10) (some (.i2l, 11, [])) (cond (Nat.beq pc 11) (some (.lastore, 12, [])) (none))))) (cond (Nat.ble 4 pc) (cond (Nat.ble 6 pc) (cond (Nat.beq pc 6) (some (.iload_n 3, 7, [])) (cond (Nat.beq pc 7) (some (.invokevirtual 48, 10, [])) (none))) (cond (Nat.beq pc 4) (some (.iload_n 1, 5, [])) (cond (Nat.beq pc 5) (some (.iload_n 2, 6, [])) (none)))) (cond (Nat.beq pc 0) (some (.aload 4, 2, [])) (cond (Nat.beq pc 2) (some (.iconst 0, 3, [])) (cond (Nat.beq pc 3) (some (.aload_n 0, 4, [])) (none))))))
theorem qkL_coefficient_ok : ∀ pc i nx ts, qkL_coefficient pc = some (i, nx, ts) → am_cok cL_coefficient pc (i, nx, ts) = true := fun pc i nx ts h => am_tok_ok (n := 21) (by decide +kernel) (fun pc h => by show cond (Nat.ble 21 pc) _ _ = _; rw [Nat.ble_eq_true_of_le h]; rfl) h
def qaL_coefficient : Nat → Option CE := fun k => cond (Nat.beq k 48) (some qeX8_coefficient) (none)
theorem qyL_coefficient (l : Launch) (hst : l.stackTraces = false) : ∀ k e1, qaL_coefficient k = some e1 → am_cal l layL RL 12 k e1 ∧ True := q_cons ⟨am_calV (ci := 8) (am_CT_mono layX_L (qtX8_coefficient l hst)) qbX8_coefficient (by decide) rfl (am_tb_at 1031 (by decide +kernel) rfl), trivial⟩ (q_nil)
def qxL_coefficient : CX := (qkL_coefficient, layL, qfL, qaL_coefficient, qcL, qlL, qmL, (some .int), false, (some 17), 2, none, fun _ => none)
theorem qzL_coefficient (l : Launch) (hst : l.stackTraces = false) : am_sta l qxL_coefficient RL 12 cL_coefficient := ⟨qkL_coefficient_ok, layL_ok, qfL_ok, qcL_ok, qlL_ok, am_mthP qmL_ok (by decide), fun k e1 h => (qyL_coefficient l hst k e1 h).1⟩
def qsL_coefficient : SP := fun as F A K => match as with
  | [.inr (.inr x), .inl c, .inl l, .inl k, .inr (.inr o)] => cond (Nat.beq x 0 && Nat.beq o 43) ((fgOK (A 2) ∧ (-2147483648 ≤ c ∧ c < 2147483648) ∧ (-2147483648 ≤ l ∧ l < 2147483648) ∧ (-2147483648 ≤ k ∧ k < 2147483648)) ∧ (((0 ≤ c ∧ c < A 2 0) ∧ 0 ≤ l ∧ l < A 2 1 → (K (some (some (vI 0))) F (upA A 43 (w32 0) (w32 (if 0 ≤ k ∧ k < A 2 (18 + c) then cfR (A 2) c l k else -100000))))) ∧ (¬ ((0 ≤ c ∧ c < A 2 0) ∧ 0 ≤ l ∧ l < A 2 1) → (K (some (some (vI 1))) F A)))) (False)
  | _ => False
def qeL_coefficient : CE := (yL_coefficient, cL_coefficient, 6, (some .int), 5, none, 2, [(0, 12, 15, 13)], 2, 12, qsL_coefficient)
theorem qbL_coefficient : am_mb qeL_coefficient := ⟨am_tb_at 1030 (by decide +kernel) rfl, am_tb_at 113 (by decide +kernel) rfl, ⟨by decide, by decide, by decide +kernel⟩, by decide, am_tb_at 1029 (by decide +kernel) rfl⟩
set_option maxRecDepth 20000 in
theorem qvL_coefficient_0_43 (c : Int) (l : Int) (k : Int) (F : FF) (A : AA) (K : KK) (h : (fgOK (A 2) ∧ (-2147483648 ≤ c ∧ c < 2147483648) ∧ (-2147483648 ≤ l ∧ l < 2147483648) ∧ (-2147483648 ≤ k ∧ k < 2147483648)) ∧ (((0 ≤ c ∧ c < A 2 0) ∧ 0 ≤ l ∧ l < A 2 1 → (K (some (some (vI 0))) F (upA A 43 (w32 0) (w32 (if 0 ≤ k ∧ k < A 2 (18 + c) then cfR (A 2) c l k else -100000))))) ∧ (¬ ((0 ≤ c ∧ c < A 2 0) ∧ 0 ≤ l ∧ l < A 2 1) → (K (some (some (vI 1))) F A)))) : am_line qxL_coefficient 13 [vR 0, vI c, vI l, vI k, vR 43] 6 F A K := by
  show am_stp qxL_coefficient (am_run qxL_coefficient (fun _ => none) (fun _ _ _ _ _ _ => False) K 13) K 0 [some (vR 0), some (vI c), some (vI l), some (vI k), some (vR 43), none] [] F A 0
  obtain ⟨hp, h⟩ := h
  show (fgOK (A 2) ∧ (-2147483648 ≤ c ∧ c < 2147483648) ∧ (-2147483648 ≤ l ∧ l < 2147483648) ∧ (-2147483648 ≤ k ∧ k < 2147483648)) ∧ (((0 ≤ c ∧ c < A 2 0) ∧ 0 ≤ l ∧ l < A 2 1 → ((0 ≤ w32 0 ∧ w32 0 < 1) ∧ (K (some (some (vI 0))) F (upA A 43 (w32 0) (w32 (if 0 ≤ k ∧ k < A 2 (18 + c) then cfR (A 2) c l k else -100000)))))) ∧ (¬ ((0 ≤ c ∧ c < A 2 0) ∧ 0 ≤ l ∧ l < A 2 1) → (K (some (some (vI 1))) F A)))
  refine ⟨by exact hp, ?_⟩
  refine ⟨fun c1 => ?_, fun c1 => ?_⟩
  · skip
    skip
    refine ⟨by exact ⟨by decide, by decide⟩, ?_⟩
    first | exact h.1 c1 | exact h.2 c1 | exact h.1 c1 _ _ g1 | exact h.1 c1 _ g1 | exact h.1 c1 _ _ _ _ g1
  · skip
    skip
    first | exact h.1 c1 | exact h.2 c1 | exact h.1 c1 _ _ g1 | exact h.1 c1 _ g1 | exact h.1 c1 _ _ _ _ g1
theorem qtL_coefficient (l : Launch) (hst : l.stackTraces = false) : am_CT l layL qeL_coefficient := am_met2 (hp := 15) (hn := 17) (i := 5) (en := 12) rfl (by decide +kernel) rfl rfl rfl rfl rfl rfl (Or.inl ⟨by decide +kernel, rfl⟩) (by decide) (dc_cov (n := 21) (by decide +kernel) (by decide +kernel)) (fun _ => rfl) rfl (qzL_coefficient l hst) (fun as F A K h => by
  replace h : qsL_coefficient as F A K := h
  unfold qsL_coefficient at h
  split at h
  · rename_i x c l k o
    refine ⟨by first | exact Nat.le_of_ble_eq_true rfl | simp [am_fl, am_cat], ?_⟩
    replace h := am_cond2 h
    rcases h with ⟨hb, h⟩ | h
    · simp only [Bool.and_eq_true] at hb
      obtain ⟨hb0, hb1⟩ := hb
      have hb0 := am_bq hb0
      subst hb0
      have hb1 := am_bq hb1
      subst hb1
      exact am_way_line (qvL_coefficient_0_43 c l k F A K h)
    exact h.elim
  · exact h.elim)
