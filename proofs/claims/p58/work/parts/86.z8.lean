def qkZ8_requireCurve : Nat → Option CI := fun pc => cond (Nat.ble 23 pc) none (cond (Nat.ble 8 pc) (cond (Nat.ble 14 pc) (cond (Nat.beq pc 14) (some (.dup, 15, [])) (cond (Nat.beq pc 15) (some (.ldc_w 354, 18, [])) (cond (Nat.beq pc 22) (some (.return_, 23, [])) (none)))) (cond (Nat.beq pc 8) (some (.ifCond .ne 14, 11, [22])) (cond (Nat.beq pc 11) (some (.new 352, 14, [])) (none)))) (cond (Nat.ble 4 pc) (cond (Nat.beq pc 4) (some (.iload_n 1, 5, [])) (cond (Nat.beq pc 5) (some (.invokevirtual 320, 8, [])) (none))) (cond (Nat.beq pc 0) (some (.aload_n 0, 1, [])) (cond (Nat.beq pc 1) (some (.getfield 10, 4, [])) (none)))))
theorem qkZ8_requireCurve_ok : ∀ pc i nx ts, qkZ8_requireCurve pc = some (i, nx, ts) → am_cok cX8_requireCurve pc (i, nx, ts) = true := fun pc i nx ts h => am_tok_ok (n := 23) (by decide +kernel) (fun pc h => by show cond (Nat.ble 23 pc) _ _ = _; rw [Nat.ble_eq_true_of_le h]; rfl) h
def qaZ8_requireCurve : Nat → Option CE := fun k => cond (Nat.beq k 320) (some qeX2_hasCurve) (none)
theorem qyZ8_requireCurve (l : Launch) : ∀ k e1, qaZ8_requireCurve k = some e1 → am_cal l layX RX8 9 k e1 ∧ ceT e1 = 0 := q_cons ⟨am_calV (ci := 2) (qtX2_hasCurve l) qbX2_hasCurve (by decide) rfl (am_tb_at 781 (by decide +kernel) rfl), rfl⟩ (q_nil)
def qxZ8_requireCurve : CX := (qkZ8_requireCurve, layX, qfX8, qaZ8_requireCurve, qcX8, qlX8, qmX8, none, false, none, 0, none, fun _ => none)
theorem qzZ8_requireCurve (l : Launch) : am_sta l qxZ8_requireCurve RX8 9 cX8_requireCurve := ⟨qkZ8_requireCurve_ok, layX_ok, qfX8_ok, qcX8_ok, qlX8_ok, am_mthP qmX8_ok (by decide), fun k e1 h => (qyZ8_requireCurve l k e1 h).1⟩
def qsZ8_requireCurve : SP := fun as F A K => match as with
  | [.inr (.inr o), .inl c] => cond (Nat.beq o 0) (((0 ≤ c ∧ c < A 2 0) ∧ (0 ≤ A 2 0 ∧ A 2 0 ≤ 8) ∧ (0 ≤ A 2 1 ∧ A 2 1 ≤ 6) ∧ (-2147483648 ≤ c ∧ c < 2147483648)) ∧ (K (some none) F A)) (False)
  | _ => False
def qeZ8_requireCurve : CE := (yX8_requireCurve, cX8_requireCurve, 2, none, 1, some 8, 0, none, 0, 9, qsZ8_requireCurve)
theorem qbZ8_requireCurve : am_mb qeZ8_requireCurve := ⟨am_tb_at 780 (by decide +kernel) rfl, am_tb_at 35 (by decide +kernel) rfl, ⟨by decide, by decide, by decide +kernel⟩, by decide, am_tb_at 779 (by decide +kernel) rfl, am_tb_at 15 (by decide +kernel) rfl, _, _, rfl⟩
set_option maxRecDepth 20000 in
theorem qvZ8_requireCurve_0 (c : Int) (F : FF) (A : AA) (K : KK) (h : ((0 ≤ c ∧ c < A 2 0) ∧ (0 ≤ A 2 0 ∧ A 2 0 ≤ 8) ∧ (0 ≤ A 2 1 ∧ A 2 1 ≤ 6) ∧ (-2147483648 ≤ c ∧ c < 2147483648)) ∧ (K (some none) F A)) : am_line qxZ8_requireCurve 7 [vR 0, vI c] 2 F A K := by
  show am_stp qxZ8_requireCurve (am_run qxZ8_requireCurve (fun _ => none) (fun _ _ _ _ _ _ => False) K 7) K 0 [some (vR 0), some (vI c)] [] F A 0
  obtain ⟨hp, h⟩ := h
  show (w32 (bi (0 ≤ w32 c ∧ w32 c < w32 (fat (A 2) 0))) = w32 0 → False) ∧ (¬ (w32 (bi (0 ≤ w32 c ∧ w32 c < w32 (fat (A 2) 0))) = w32 0) → (K (some none) F A))
  refine ⟨fun c1 => ?_, fun c1 => ?_⟩
  · skip
    (try simp (disch := omega) only [fat_in, w32_0, wbi0, Classical.not_not, w32_id] at c1)
    exact c1 hp.1
  · skip
    (try simp (disch := omega) only [fat_in, w32_0, wbi0, Classical.not_not, w32_id] at c1)
    exact h
theorem qtZ8_requireCurve (l : Launch) : am_CT l layX qeZ8_requireCurve := am_met0 rfl (by decide +kernel) rfl rfl rfl rfl rfl (fun _ => rfl) rfl (qzZ8_requireCurve l) (fun k e1 h => (qyZ8_requireCurve l k e1 h).2) (fun as F A K h => by
  replace h : qsZ8_requireCurve as F A K := h
  unfold qsZ8_requireCurve at h
  split at h
  · rename_i o c
    refine ⟨by first | exact Nat.le_of_ble_eq_true rfl | simp [am_fl, am_cat], ?_⟩
    replace h := am_cond2 h
    rcases h with ⟨hb, h⟩ | h
    · skip
      have hb0 := hb
      have hb0 := am_bq hb0
      subst hb0
      exact am_way_line (qvZ8_requireCurve_0 c F A K h)
    exact h.elim
  · exact h.elim)
def qkZ8_requireLine : Nat → Option CI := fun pc => cond (Nat.ble 23 pc) none (cond (Nat.ble 8 pc) (cond (Nat.ble 14 pc) (cond (Nat.beq pc 14) (some (.dup, 15, [])) (cond (Nat.beq pc 15) (some (.ldc_w 359, 18, [])) (cond (Nat.beq pc 22) (some (.return_, 23, [])) (none)))) (cond (Nat.beq pc 8) (some (.ifCond .ne 14, 11, [22])) (cond (Nat.beq pc 11) (some (.new 352, 14, [])) (none)))) (cond (Nat.ble 4 pc) (cond (Nat.beq pc 4) (some (.iload_n 1, 5, [])) (cond (Nat.beq pc 5) (some (.invokevirtual 333, 8, [])) (none))) (cond (Nat.beq pc 0) (some (.aload_n 0, 1, [])) (cond (Nat.beq pc 1) (some (.getfield 10, 4, [])) (none)))))
theorem qkZ8_requireLine_ok : ∀ pc i nx ts, qkZ8_requireLine pc = some (i, nx, ts) → am_cok cX8_requireLine pc (i, nx, ts) = true := fun pc i nx ts h => am_tok_ok (n := 23) (by decide +kernel) (fun pc h => by show cond (Nat.ble 23 pc) _ _ = _; rw [Nat.ble_eq_true_of_le h]; rfl) h
def qaZ8_requireLine : Nat → Option CE := fun k => cond (Nat.beq k 333) (some qeX2_hasLine) (none)
theorem qyZ8_requireLine (l : Launch) : ∀ k e1, qaZ8_requireLine k = some e1 → am_cal l layX RX8 9 k e1 ∧ ceT e1 = 0 := q_cons ⟨am_calV (ci := 2) (qtX2_hasLine l) qbX2_hasLine (by decide) rfl (am_tb_at 930 (by decide +kernel) rfl), rfl⟩ (q_nil)
def qxZ8_requireLine : CX := (qkZ8_requireLine, layX, qfX8, qaZ8_requireLine, qcX8, qlX8, qmX8, none, false, none, 0, none, fun _ => none)
theorem qzZ8_requireLine (l : Launch) : am_sta l qxZ8_requireLine RX8 9 cX8_requireLine := ⟨qkZ8_requireLine_ok, layX_ok, qfX8_ok, qcX8_ok, qlX8_ok, am_mthP qmX8_ok (by decide), fun k e1 h => (qyZ8_requireLine l k e1 h).1⟩
def qsZ8_requireLine : SP := fun as F A K => match as with
  | [.inr (.inr o), .inl c] => cond (Nat.beq o 0) (((0 ≤ c ∧ c < A 2 1) ∧ (0 ≤ A 2 0 ∧ A 2 0 ≤ 8) ∧ (0 ≤ A 2 1 ∧ A 2 1 ≤ 6) ∧ (-2147483648 ≤ c ∧ c < 2147483648)) ∧ (K (some none) F A)) (False)
  | _ => False
def qeZ8_requireLine : CE := (yX8_requireLine, cX8_requireLine, 2, none, 1, some 8, 0, none, 0, 9, qsZ8_requireLine)
theorem qbZ8_requireLine : am_mb qeZ8_requireLine := ⟨am_tb_at 1092 (by decide +kernel) rfl, am_tb_at 35 (by decide +kernel) rfl, ⟨by decide, by decide, by decide +kernel⟩, by decide, am_tb_at 1091 (by decide +kernel) rfl, am_tb_at 25 (by decide +kernel) rfl, _, _, rfl⟩
set_option maxRecDepth 20000 in
theorem qvZ8_requireLine_0 (c : Int) (F : FF) (A : AA) (K : KK) (h : ((0 ≤ c ∧ c < A 2 1) ∧ (0 ≤ A 2 0 ∧ A 2 0 ≤ 8) ∧ (0 ≤ A 2 1 ∧ A 2 1 ≤ 6) ∧ (-2147483648 ≤ c ∧ c < 2147483648)) ∧ (K (some none) F A)) : am_line qxZ8_requireLine 7 [vR 0, vI c] 2 F A K := by
  show am_stp qxZ8_requireLine (am_run qxZ8_requireLine (fun _ => none) (fun _ _ _ _ _ _ => False) K 7) K 0 [some (vR 0), some (vI c)] [] F A 0
  obtain ⟨hp, h⟩ := h
  show (w32 (bi (0 ≤ w32 c ∧ w32 c < w32 (fat (A 2) 1))) = w32 0 → False) ∧ (¬ (w32 (bi (0 ≤ w32 c ∧ w32 c < w32 (fat (A 2) 1))) = w32 0) → (K (some none) F A))
  refine ⟨fun c1 => ?_, fun c1 => ?_⟩
  · skip
    (try simp (disch := omega) only [fat_in, w32_0, wbi0, Classical.not_not, w32_id] at c1)
    exact c1 hp.1
  · skip
    (try simp (disch := omega) only [fat_in, w32_0, wbi0, Classical.not_not, w32_id] at c1)
    exact h
theorem qtZ8_requireLine (l : Launch) : am_CT l layX qeZ8_requireLine := am_met0 rfl (by decide +kernel) rfl rfl rfl rfl rfl (fun _ => rfl) rfl (qzZ8_requireLine l) (fun k e1 h => (qyZ8_requireLine l k e1 h).2) (fun as F A K h => by
  replace h : qsZ8_requireLine as F A K := h
  unfold qsZ8_requireLine at h
  split at h
  · rename_i o c
    refine ⟨by first | exact Nat.le_of_ble_eq_true rfl | simp [am_fl, am_cat], ?_⟩
    replace h := am_cond2 h
    rcases h with ⟨hb, h⟩ | h
    · skip
      have hb0 := hb
      have hb0 := am_bq hb0
      subst hb0
      exact am_way_line (qvZ8_requireLine_0 c F A K h)
    exact h.elim
  · exact h.elim)
def qkZ8_requireCurveAndLine : Nat → Option CI := fun pc => cond (Nat.ble 11 pc) none (cond (Nat.ble 5 pc) (cond (Nat.ble 7 pc) (cond (Nat.beq pc 7) (some (.invokevirtual 141, 10, [])) (cond (Nat.beq pc 10) (some (.return_, 11, [])) (none))) (cond (Nat.beq pc 5) (some (.aload_n 0, 6, [])) (cond (Nat.beq pc 6) (some (.iload_n 2, 7, [])) (none)))) (cond (Nat.beq pc 0) (some (.aload_n 0, 1, [])) (cond (Nat.beq pc 1) (some (.iload_n 1, 2, [])) (cond (Nat.beq pc 2) (some (.invokevirtual 123, 5, [])) (none)))))
theorem qkZ8_requireCurveAndLine_ok : ∀ pc i nx ts, qkZ8_requireCurveAndLine pc = some (i, nx, ts) → am_cok cX8_requireCurveAndLine pc (i, nx, ts) = true := fun pc i nx ts h => am_tok_ok (n := 11) (by decide +kernel) (fun pc h => by show cond (Nat.ble 11 pc) _ _ = _; rw [Nat.ble_eq_true_of_le h]; rfl) h
def qaZ8_requireCurveAndLine : Nat → Option CE := fun k => cond (Nat.beq k 123) (some qeZ8_requireCurve) (cond (Nat.beq k 141) (some qeZ8_requireLine) (none))
theorem qyZ8_requireCurveAndLine (l : Launch) : ∀ k e1, qaZ8_requireCurveAndLine k = some e1 → am_cal l layX RX8 10 k e1 ∧ ceT e1 = 0 := q_cons ⟨am_calV (ci := 8) (qtZ8_requireCurve l) qbZ8_requireCurve (by decide) rfl (am_tb_at 777 (by decide +kernel) rfl), rfl⟩ (q_cons ⟨am_calV (ci := 8) (qtZ8_requireLine l) qbZ8_requireLine (by decide) rfl (am_tb_at 1089 (by decide +kernel) rfl), rfl⟩ (q_nil))
def qxZ8_requireCurveAndLine : CX := (qkZ8_requireCurveAndLine, layX, qfX8, qaZ8_requireCurveAndLine, qcX8, qlX8, qmX8, none, false, none, 0, none, fun _ => none)
theorem qzZ8_requireCurveAndLine (l : Launch) : am_sta l qxZ8_requireCurveAndLine RX8 10 cX8_requireCurveAndLine := ⟨qkZ8_requireCurveAndLine_ok, layX_ok, qfX8_ok, qcX8_ok, qlX8_ok, am_mthP qmX8_ok (by decide), fun k e1 h => (qyZ8_requireCurveAndLine l k e1 h).1⟩
def qsZ8_requireCurveAndLine : SP := fun as F A K => match as with
  | [.inr (.inr o), .inl c, .inl e] => cond (Nat.beq o 0) ((((0 ≤ c ∧ c < A 2 0) ∧ 0 ≤ e ∧ e < A 2 1) ∧ (0 ≤ A 2 0 ∧ A 2 0 ≤ 8) ∧ (0 ≤ A 2 1 ∧ A 2 1 ≤ 6) ∧ (-2147483648 ≤ c ∧ c < 2147483648) ∧ (-2147483648 ≤ e ∧ e < 2147483648)) ∧ (K (some none) F A)) (False)
  | _ => False
def qeZ8_requireCurveAndLine : CE := (yX8_requireCurveAndLine, cX8_requireCurveAndLine, 3, none, 2, some 8, 0, none, 0, 10, qsZ8_requireCurveAndLine)
theorem qbZ8_requireCurveAndLine : am_mb qeZ8_requireCurveAndLine := ⟨am_tb_at 1102 (by decide +kernel) rfl, am_tb_at 35 (by decide +kernel) rfl, ⟨by decide, by decide, by decide +kernel⟩, by decide, am_tb_at 1101 (by decide +kernel) rfl, am_tb_at 26 (by decide +kernel) rfl, _, _, rfl⟩
set_option maxRecDepth 20000 in
theorem qvZ8_requireCurveAndLine_0 (c : Int) (e : Int) (F : FF) (A : AA) (K : KK) (h : (((0 ≤ c ∧ c < A 2 0) ∧ 0 ≤ e ∧ e < A 2 1) ∧ (0 ≤ A 2 0 ∧ A 2 0 ≤ 8) ∧ (0 ≤ A 2 1 ∧ A 2 1 ≤ 6) ∧ (-2147483648 ≤ c ∧ c < 2147483648) ∧ (-2147483648 ≤ e ∧ e < 2147483648)) ∧ (K (some none) F A)) : am_line qxZ8_requireCurveAndLine 8 [vR 0, vI c, vI e] 3 F A K := by
  show am_stp qxZ8_requireCurveAndLine (am_run qxZ8_requireCurveAndLine (fun _ => none) (fun _ _ _ _ _ _ => False) K 8) K 0 [some (vR 0), some (vI c), some (vI e)] [] F A 0
  obtain ⟨hp, h⟩ := h
  show ((0 ≤ c ∧ c < A 2 0) ∧ (0 ≤ A 2 0 ∧ A 2 0 ≤ 8) ∧ (0 ≤ A 2 1 ∧ A 2 1 ≤ 6) ∧ (-2147483648 ≤ c ∧ c < 2147483648)) ∧ (((0 ≤ e ∧ e < A 2 1) ∧ (0 ≤ A 2 0 ∧ A 2 0 ≤ 8) ∧ (0 ≤ A 2 1 ∧ A 2 1 ≤ 6) ∧ (-2147483648 ≤ e ∧ e < 2147483648)) ∧ (K (some none) F A))
  refine ⟨by exact ⟨hp.1.1, hp.2.1, hp.2.2.1, hp.2.2.2.1⟩, ?_⟩
  refine ⟨by exact ⟨hp.1.2, hp.2.1, hp.2.2.1, hp.2.2.2.2⟩, ?_⟩
  exact h
theorem qtZ8_requireCurveAndLine (l : Launch) : am_CT l layX qeZ8_requireCurveAndLine := am_met0 rfl (by decide +kernel) rfl rfl rfl rfl rfl (fun _ => rfl) rfl (qzZ8_requireCurveAndLine l) (fun k e1 h => (qyZ8_requireCurveAndLine l k e1 h).2) (fun as F A K h => by
  replace h : qsZ8_requireCurveAndLine as F A K := h
  unfold qsZ8_requireCurveAndLine at h
  split at h
  · rename_i o c e
    refine ⟨by first | exact Nat.le_of_ble_eq_true rfl | simp [am_fl, am_cat], ?_⟩
    replace h := am_cond2 h
    rcases h with ⟨hb, h⟩ | h
    · skip
      have hb0 := hb
      have hb0 := am_bq hb0
      subst hb0
      exact am_way_line (qvZ8_requireCurveAndLine_0 c e F A K h)
    exact h.elim
  · exact h.elim)
def qkZ8_degree : Nat → Option CI := fun pc => cond (Nat.ble 14 pc) none (cond (Nat.ble 6 pc) (cond (Nat.ble 10 pc) (cond (Nat.beq pc 10) (some (.invokevirtual 126, 13, [])) (cond (Nat.beq pc 13) (some (.ireturn, 14, [])) (none))) (cond (Nat.beq pc 6) (some (.getfield 10, 9, [])) (cond (Nat.beq pc 9) (some (.iload_n 1, 10, [])) (none)))) (cond (Nat.ble 2 pc) (cond (Nat.beq pc 2) (some (.invokevirtual 123, 5, [])) (cond (Nat.beq pc 5) (some (.aload_n 0, 6, [])) (none))) (cond (Nat.beq pc 0) (some (.aload_n 0, 1, [])) (cond (Nat.beq pc 1) (some (.iload_n 1, 2, [])) (none)))))
theorem qkZ8_degree_ok : ∀ pc i nx ts, qkZ8_degree pc = some (i, nx, ts) → am_cok cX8_degree pc (i, nx, ts) = true := fun pc i nx ts h => am_tok_ok (n := 14) (by decide +kernel) (fun pc h => by show cond (Nat.ble 14 pc) _ _ = _; rw [Nat.ble_eq_true_of_le h]; rfl) h
def qaZ8_degree : Nat → Option CE := fun k => cond (Nat.beq k 123) (some qeZ8_requireCurve) (cond (Nat.beq k 126) (some qeX2_top) (none))
theorem qyZ8_degree (l : Launch) : ∀ k e1, qaZ8_degree k = some e1 → am_cal l layX RX8 10 k e1 ∧ ceT e1 = 0 := q_cons ⟨am_calV (ci := 8) (qtZ8_requireCurve l) qbZ8_requireCurve (by decide) rfl (am_tb_at 777 (by decide +kernel) rfl), rfl⟩ (q_cons ⟨am_calV (ci := 2) (qtX2_top l) qbX2_top (by decide) rfl (am_tb_at 850 (by decide +kernel) rfl), rfl⟩ (q_nil))
def qxZ8_degree : CX := (qkZ8_degree, layX, qfX8, qaZ8_degree, qcX8, qlX8, qmX8, (some .int), false, none, 0, none, fun _ => none)
theorem qzZ8_degree (l : Launch) : am_sta l qxZ8_degree RX8 10 cX8_degree := ⟨qkZ8_degree_ok, layX_ok, qfX8_ok, qcX8_ok, qlX8_ok, am_mthP qmX8_ok (by decide), fun k e1 h => (qyZ8_degree l k e1 h).1⟩
def qsZ8_degree : SP := fun as F A K => match as with
  | [.inr (.inr o), .inl c] => cond (Nat.beq o 0) (((0 ≤ c ∧ c < A 2 0) ∧ (0 ≤ A 2 0 ∧ A 2 0 ≤ 8) ∧ (0 ≤ A 2 1 ∧ A 2 1 ≤ 6) ∧ (-2147483648 ≤ c ∧ c < 2147483648)) ∧ (K (some (some (vI (A 2 (18 + c) - 1)))) F A)) (False)
  | _ => False
def qeZ8_degree : CE := (yX8_degree, cX8_degree, 2, (some .int), 1, some 8, 0, none, 0, 10, qsZ8_degree)
theorem qbZ8_degree : am_mb qeZ8_degree := ⟨am_tb_at 776 (by decide +kernel) rfl, am_tb_at 35 (by decide +kernel) rfl, ⟨by decide, by decide, by decide +kernel⟩, by decide, am_tb_at 774 (by decide +kernel) rfl, am_tb_at 775 (by decide +kernel) rfl, _, _, rfl⟩
set_option maxRecDepth 20000 in
theorem qvZ8_degree_0 (c : Int) (F : FF) (A : AA) (K : KK) (h : ((0 ≤ c ∧ c < A 2 0) ∧ (0 ≤ A 2 0 ∧ A 2 0 ≤ 8) ∧ (0 ≤ A 2 1 ∧ A 2 1 ≤ 6) ∧ (-2147483648 ≤ c ∧ c < 2147483648)) ∧ (K (some (some (vI (A 2 (18 + c) - 1)))) F A)) : am_line qxZ8_degree 9 [vR 0, vI c] 2 F A K := by
  show am_stp qxZ8_degree (am_run qxZ8_degree (fun _ => none) (fun _ _ _ _ _ _ => False) K 9) K 0 [some (vR 0), some (vI c)] [] F A 0
  obtain ⟨hp, h⟩ := h
  have c1 := hp.1
  show ((0 ≤ c ∧ c < A 2 0) ∧ (0 ≤ A 2 0 ∧ A 2 0 ≤ 8) ∧ (0 ≤ A 2 1 ∧ A 2 1 ≤ 6) ∧ (-2147483648 ≤ c ∧ c < 2147483648)) ∧ (K (some (some (vI (fat (A 2) (18 + c) - 1)))) F A)
  refine ⟨by exact hp, ?_⟩
  have q1 := hp.2.1
  simp (disch := omega) only [fat_in]
  exact h
theorem qtZ8_degree (l : Launch) : am_CT l layX qeZ8_degree := am_met0 rfl (by decide +kernel) rfl rfl rfl rfl rfl (fun _ => rfl) rfl (qzZ8_degree l) (fun k e1 h => (qyZ8_degree l k e1 h).2) (fun as F A K h => by
  replace h : qsZ8_degree as F A K := h
  unfold qsZ8_degree at h
  split at h
  · rename_i o c
    refine ⟨by first | exact Nat.le_of_ble_eq_true rfl | simp [am_fl, am_cat], ?_⟩
    replace h := am_cond2 h
    rcases h with ⟨hb, h⟩ | h
    · skip
      have hb0 := hb
      have hb0 := am_bq hb0
      subst hb0
      exact am_way_line (qvZ8_degree_0 c F A K h)
    exact h.elim
  · exact h.elim)
def qkZ8_control : Nat → Option CI := fun pc => cond (Nat.ble 44 pc) none (cond (Nat.ble 20 pc) (cond (Nat.ble 32 pc) (cond (Nat.ble 35 pc) (cond (Nat.ble 41 pc) (cond (Nat.beq pc 41) (some (.bipush (-2), 43, [])) (cond (Nat.beq pc 43) (some (.ireturn, 44, [])) (none))) (cond (Nat.beq pc 35) (some (.invokevirtual 137, 38, [])) (cond (Nat.beq pc 38) (some (.goto 5, 41, [43])) (none)))) (cond (Nat.beq pc 32) (some (.iload_n 1, 33, [])) (cond (Nat.beq pc 33) (some (.iload_n 2, 34, [])) (cond (Nat.beq pc 34) (some (.iload_n 3, 35, [])) (none))))) (cond (Nat.ble 25 pc) (cond (Nat.beq pc 25) (some (.ifCond .eq 16, 28, [41])) (cond (Nat.beq pc 28) (some (.aload_n 0, 29, [])) (cond (Nat.beq pc 29) (some (.getfield 10, 32, [])) (none)))) (cond (Nat.beq pc 20) (some (.iconst 0, 21, [])) (cond (Nat.beq pc 21) (some (.iconst 2, 22, [])) (cond (Nat.beq pc 22) (some (.invokestatic 133, 25, [])) (none)))))) (cond (Nat.ble 10 pc) (cond (Nat.ble 17 pc) (cond (Nat.beq pc 17) (some (.iconst (-1), 18, [])) (cond (Nat.beq pc 18) (some (.ireturn, 19, [])) (cond (Nat.beq pc 19) (some (.iload_n 3, 20, [])) (none)))) (cond (Nat.beq pc 10) (some (.iload_n 2, 11, [])) (cond (Nat.beq pc 11) (some (.invokevirtual 129, 14, [])) (cond (Nat.beq pc 14) (some (.ifCond .ne 5, 17, [19])) (none))))) (cond (Nat.ble 5 pc) (cond (Nat.beq pc 5) (some (.aload_n 0, 6, [])) (cond (Nat.beq pc 6) (some (.getfield 10, 9, [])) (cond (Nat.beq pc 9) (some (.iload_n 1, 10, [])) (none)))) (cond (Nat.beq pc 0) (some (.aload_n 0, 1, [])) (cond (Nat.beq pc 1) (some (.iload_n 1, 2, [])) (cond (Nat.beq pc 2) (some (.invokevirtual 123, 5, [])) (none)))))))
theorem qkZ8_control_ok : ∀ pc i nx ts, qkZ8_control pc = some (i, nx, ts) → am_cok cX8_control pc (i, nx, ts) = true := fun pc i nx ts h => am_tok_ok (n := 44) (by decide +kernel) (fun pc h => by show cond (Nat.ble 44 pc) _ _ = _; rw [Nat.ble_eq_true_of_le h]; rfl) h
def qaZ8_control : Nat → Option CE := fun k => cond (Nat.beq k 123) (some qeZ8_requireCurve) (cond (Nat.beq k 129) (some qeX2_hasPoint) (cond (Nat.beq k 133) (some qeX8_isWithin) (cond (Nat.beq k 137) (some qeX2_point) (none))))
theorem qyZ8_control (l : Launch) : ∀ k e1, qaZ8_control k = some e1 → am_cal l layX RX8 10 k e1 ∧ ceT e1 = 0 := q_cons ⟨am_calV (ci := 8) (qtZ8_requireCurve l) qbZ8_requireCurve (by decide) rfl (am_tb_at 777 (by decide +kernel) rfl), rfl⟩ (q_cons ⟨am_calV (ci := 2) (qtX2_hasPoint l) qbX2_hasPoint (by decide) rfl (am_tb_at 867 (by decide +kernel) rfl), rfl⟩ (q_cons ⟨am_calS (qtX8_isWithin l) qbX8_isWithin (by decide) rfl (by decide) (am_tb_at 875 (by decide +kernel) rfl), rfl⟩ (q_cons ⟨am_calV (ci := 2) (qtX2_point l) qbX2_point (by decide) rfl (am_tb_at 876 (by decide +kernel) rfl), rfl⟩ (q_nil))))
def qxZ8_control : CX := (qkZ8_control, layX, qfX8, qaZ8_control, qcX8, qlX8, qmX8, (some .int), false, none, 0, none, fun _ => none)
theorem qzZ8_control (l : Launch) : am_sta l qxZ8_control RX8 10 cX8_control := ⟨qkZ8_control_ok, layX_ok, qfX8_ok, qcX8_ok, qlX8_ok, am_mthP qmX8_ok (by decide), fun k e1 h => (qyZ8_control l k e1 h).1⟩
def qsZ8_control : SP := fun as F A K => match as with
  | [.inr (.inr o), .inl c, .inl k, .inl w] => cond (Nat.beq o 0) (((0 ≤ c ∧ c < A 2 0) ∧ fgOK (A 2) ∧ (-2147483648 ≤ c ∧ c < 2147483648) ∧ (-2147483648 ≤ k ∧ k < 2147483648) ∧ (-2147483648 ≤ w ∧ w < 2147483648)) ∧ (K (some (some (vI (if 0 ≤ k ∧ k < A 2 (18 + c) then (if 0 ≤ w ∧ w ≤ 2 then A 2 (26 + (c * 4 + k) * 3 + w) else -2) else -1)))) F A)) (False)
  | _ => False
def qeZ8_control : CE := (yX8_control, cX8_control, 4, (some .int), 3, some 8, 0, none, 0, 10, qsZ8_control)
theorem qbZ8_control : am_mb qeZ8_control := ⟨am_tb_at 987 (by decide +kernel) rfl, am_tb_at 35 (by decide +kernel) rfl, ⟨by decide, by decide, by decide +kernel⟩, by decide, am_tb_at 985 (by decide +kernel) rfl, am_tb_at 986 (by decide +kernel) rfl, _, _, rfl⟩
set_option maxRecDepth 20000 in
theorem qvZ8_control_0 (c : Int) (k : Int) (w : Int) (F : FF) (A : AA) (K : KK) (h : ((0 ≤ c ∧ c < A 2 0) ∧ fgOK (A 2) ∧ (-2147483648 ≤ c ∧ c < 2147483648) ∧ (-2147483648 ≤ k ∧ k < 2147483648) ∧ (-2147483648 ≤ w ∧ w < 2147483648)) ∧ (K (some (some (vI (if 0 ≤ k ∧ k < A 2 (18 + c) then (if 0 ≤ w ∧ w ≤ 2 then A 2 (26 + (c * 4 + k) * 3 + w) else -2) else -1)))) F A)) : am_line qxZ8_control 23 [vR 0, vI c, vI k, vI w] 4 F A K := by
  show am_stp qxZ8_control (am_run qxZ8_control (fun _ => none) (fun _ _ _ _ _ _ => False) K 23) K 0 [some (vR 0), some (vI c), some (vI k), some (vI w)] [] F A 0
  obtain ⟨hp, h⟩ := h
  obtain ⟨c1, hp⟩ := hp
  have h := And.intro (fun (_ : 0 ≤ c ∧ c < A 2 0) => h) trivial
  have p1 := hp.1
  have p2' := hp.2
  have q1 := p1.1.1
  have q2 := p1.1.2
  show ((0 ≤ c ∧ c < A 2 0) ∧ (0 ≤ A 2 0 ∧ A 2 0 ≤ 8) ∧ (0 ≤ A 2 1 ∧ A 2 1 ≤ 6) ∧ (-2147483648 ≤ c ∧ c < 2147483648)) ∧ ((w32 (bi (0 ≤ w32 c ∧ w32 c < w32 (fat (A 2) 0) ∧ 0 ≤ w32 k ∧ w32 k < w32 (fat (A 2) (18 + c)))) = w32 0 → (K (some (some (vI (-1)))) F A)) ∧ (¬ (w32 (bi (0 ≤ w32 c ∧ w32 c < w32 (fat (A 2) 0) ∧ 0 ≤ w32 k ∧ w32 k < w32 (fat (A 2) (18 + c)))) = w32 0) → ((w32 (bi (w32 0 ≤ w32 w ∧ w32 w ≤ w32 2)) = w32 0 → (K (some (some (vI (-2)))) F A)) ∧ (¬ (w32 (bi (w32 0 ≤ w32 w ∧ w32 w ≤ w32 2)) = w32 0) → (K (some (some (vI (fat (A 2) (26 + (c * 4 + k) * 3 + w))))) F A)))))
  refine ⟨by (refine ⟨c1, ?_⟩; first | exact ⟨p1.1.1, p1.1.2, by omega⟩ | exact ⟨p1.1.1, p1.1.2, by omega, by omega⟩ | omega), ?_⟩
  refine ⟨fun c2 => ?_, fun c2 => ?_⟩
  · skip
    (try simp (disch := omega) only [fat_in] at c2); (try simp (disch := omega) only [w32_0, wbi0, Classical.not_not, w32_id] at c2); (try (have q3 := (p1.2.2.1 c c1.1 c1.2).1; simp (disch := omega) only [fat_in, w32_id] at c2))
    have q3 := (p1.2.2.1 c c1.1 c1.2).1
    first | exact K_eq (h.1 c1) (if_neg (by omega)) | exact K_eq (h.1 c1) (by rw [if_pos (by omega), if_neg (by omega)]) | (simp (disch := omega) only [fat_in]; exact K_eq (h.1 c1) (by rw [if_pos (by omega), if_pos (by omega)]))
  · skip
    (try simp (disch := omega) only [fat_in] at c2); (try simp (disch := omega) only [w32_0, wbi0, Classical.not_not, w32_id] at c2); (try (have q3 := (p1.2.2.1 c c1.1 c1.2).1; simp (disch := omega) only [fat_in, w32_id] at c2))
    refine ⟨fun c3 => ?_, fun c3 => ?_⟩
    · skip
      (try simp (disch := omega) only [fat_in] at c3); (try simp (disch := omega) only [w32_0, wbi0, Classical.not_not, w32_id] at c3); (try (have q3 := (p1.2.2.1 c c1.1 c1.2).1; simp (disch := omega) only [fat_in, w32_id] at c3))
      have q3 := (p1.2.2.1 c c1.1 c1.2).1
      first | exact K_eq (h.1 c1) (if_neg (by omega)) | exact K_eq (h.1 c1) (by rw [if_pos (by omega), if_neg (by omega)]) | (simp (disch := omega) only [fat_in]; exact K_eq (h.1 c1) (by rw [if_pos (by omega), if_pos (by omega)]))
    · skip
      (try simp (disch := omega) only [fat_in] at c3); (try simp (disch := omega) only [w32_0, wbi0, Classical.not_not, w32_id] at c3); (try (have q3 := (p1.2.2.1 c c1.1 c1.2).1; simp (disch := omega) only [fat_in, w32_id] at c3))
      have q3 := (p1.2.2.1 c c1.1 c1.2).1
      first | exact K_eq (h.1 c1) (if_neg (by omega)) | exact K_eq (h.1 c1) (by rw [if_pos (by omega), if_neg (by omega)]) | (simp (disch := omega) only [fat_in]; exact K_eq (h.1 c1) (by rw [if_pos (by omega), if_pos (by omega)]))
theorem qtZ8_control (l : Launch) : am_CT l layX qeZ8_control := am_met0 rfl (by decide +kernel) rfl rfl rfl rfl rfl (fun _ => rfl) rfl (qzZ8_control l) (fun k e1 h => (qyZ8_control l k e1 h).2) (fun as F A K h => by
  replace h : qsZ8_control as F A K := h
  unfold qsZ8_control at h
  split at h
  · rename_i o c k w
    refine ⟨by first | exact Nat.le_of_ble_eq_true rfl | simp [am_fl, am_cat], ?_⟩
    replace h := am_cond2 h
    rcases h with ⟨hb, h⟩ | h
    · skip
      have hb0 := hb
      have hb0 := am_bq hb0
      subst hb0
      exact am_way_line (qvZ8_control_0 c k w F A K h)
    exact h.elim
  · exact h.elim)
def qkZ8_lineNumber : Nat → Option CI := fun pc => cond (Nat.ble 30 pc) none (cond (Nat.ble 14 pc) (cond (Nat.ble 20 pc) (cond (Nat.ble 26 pc) (cond (Nat.beq pc 26) (some (.sipush 1000, 29, [])) (cond (Nat.beq pc 29) (some (.ireturn, 30, [])) (none))) (cond (Nat.beq pc 20) (some (.invokevirtual 144, 23, [])) (cond (Nat.beq pc 23) (some (.goto 6, 26, [29])) (none)))) (cond (Nat.ble 18 pc) (cond (Nat.beq pc 18) (some (.iload_n 1, 19, [])) (cond (Nat.beq pc 19) (some (.iload_n 2, 20, [])) (none))) (cond (Nat.beq pc 14) (some (.aload_n 0, 15, [])) (cond (Nat.beq pc 15) (some (.getfield 10, 18, [])) (none))))) (cond (Nat.ble 6 pc) (cond (Nat.ble 8 pc) (cond (Nat.beq pc 8) (some (.invokestatic 133, 11, [])) (cond (Nat.beq pc 11) (some (.ifCond .eq 15, 14, [26])) (none))) (cond (Nat.beq pc 6) (some (.iconst 0, 7, [])) (cond (Nat.beq pc 7) (some (.iconst 2, 8, [])) (none)))) (cond (Nat.ble 2 pc) (cond (Nat.beq pc 2) (some (.invokevirtual 141, 5, [])) (cond (Nat.beq pc 5) (some (.iload_n 2, 6, [])) (none))) (cond (Nat.beq pc 0) (some (.aload_n 0, 1, [])) (cond (Nat.beq pc 1) (some (.iload_n 1, 2, [])) (none))))))
theorem qkZ8_lineNumber_ok : ∀ pc i nx ts, qkZ8_lineNumber pc = some (i, nx, ts) → am_cok cX8_lineNumber pc (i, nx, ts) = true := fun pc i nx ts h => am_tok_ok (n := 30) (by decide +kernel) (fun pc h => by show cond (Nat.ble 30 pc) _ _ = _; rw [Nat.ble_eq_true_of_le h]; rfl) h
def qaZ8_lineNumber : Nat → Option CE := fun k => cond (Nat.beq k 141) (some qeZ8_requireLine) (cond (Nat.beq k 133) (some qeX8_isWithin) (cond (Nat.beq k 144) (some qeX2_lineValue) (none)))
theorem qyZ8_lineNumber (l : Launch) : ∀ k e1, qaZ8_lineNumber k = some e1 → am_cal l layX RX8 10 k e1 ∧ ceT e1 = 0 := q_cons ⟨am_calV (ci := 8) (qtZ8_requireLine l) qbZ8_requireLine (by decide) rfl (am_tb_at 1089 (by decide +kernel) rfl), rfl⟩ (q_cons ⟨am_calS (qtX8_isWithin l) qbX8_isWithin (by decide) rfl (by decide) (am_tb_at 875 (by decide +kernel) rfl), rfl⟩ (q_cons ⟨am_calV (ci := 2) (qtX2_lineValue l) qbX2_lineValue (by decide) rfl (am_tb_at 1094 (by decide +kernel) rfl), rfl⟩ (q_nil)))
def qxZ8_lineNumber : CX := (qkZ8_lineNumber, layX, qfX8, qaZ8_lineNumber, qcX8, qlX8, qmX8, (some .int), false, none, 0, none, fun _ => none)
theorem qzZ8_lineNumber (l : Launch) : am_sta l qxZ8_lineNumber RX8 10 cX8_lineNumber := ⟨qkZ8_lineNumber_ok, layX_ok, qfX8_ok, qcX8_ok, qlX8_ok, am_mthP qmX8_ok (by decide), fun k e1 h => (qyZ8_lineNumber l k e1 h).1⟩
def qsZ8_lineNumber : SP := fun as F A K => match as with
  | [.inr (.inr o), .inl l, .inl w] => cond (Nat.beq o 0) (((0 ≤ l ∧ l < A 2 1) ∧ fgOK (A 2) ∧ (-2147483648 ≤ l ∧ l < 2147483648) ∧ (-2147483648 ≤ w ∧ w < 2147483648)) ∧ (K (some (some (vI (if 0 ≤ w ∧ w ≤ 2 then A 2 (122 + l * 3 + w) else 1000)))) F A)) (False)
  | _ => False
def qeZ8_lineNumber : CE := (yX8_lineNumber, cX8_lineNumber, 3, (some .int), 2, some 8, 0, none, 0, 10, qsZ8_lineNumber)
theorem qbZ8_lineNumber : am_mb qeZ8_lineNumber := ⟨am_tb_at 1088 (by decide +kernel) rfl, am_tb_at 35 (by decide +kernel) rfl, ⟨by decide, by decide, by decide +kernel⟩, by decide, am_tb_at 1086 (by decide +kernel) rfl, am_tb_at 1087 (by decide +kernel) rfl, _, _, rfl⟩
set_option maxRecDepth 20000 in
theorem qvZ8_lineNumber_0 (l : Int) (w : Int) (F : FF) (A : AA) (K : KK) (h : ((0 ≤ l ∧ l < A 2 1) ∧ fgOK (A 2) ∧ (-2147483648 ≤ l ∧ l < 2147483648) ∧ (-2147483648 ≤ w ∧ w < 2147483648)) ∧ (K (some (some (vI (if 0 ≤ w ∧ w ≤ 2 then A 2 (122 + l * 3 + w) else 1000)))) F A)) : am_line qxZ8_lineNumber 16 [vR 0, vI l, vI w] 3 F A K := by
  show am_stp qxZ8_lineNumber (am_run qxZ8_lineNumber (fun _ => none) (fun _ _ _ _ _ _ => False) K 16) K 0 [some (vR 0), some (vI l), some (vI w)] [] F A 0
  obtain ⟨hp, h⟩ := h
  obtain ⟨c1, hp⟩ := hp
  have h := And.intro (fun (_ : 0 ≤ l ∧ l < A 2 1) => h) trivial
  have p1 := hp.1
  have p2' := hp.2
  have q1 := p1.1.1
  have q2 := p1.1.2
  show ((0 ≤ l ∧ l < A 2 1) ∧ (0 ≤ A 2 0 ∧ A 2 0 ≤ 8) ∧ (0 ≤ A 2 1 ∧ A 2 1 ≤ 6) ∧ (-2147483648 ≤ l ∧ l < 2147483648)) ∧ ((w32 (bi (w32 0 ≤ w32 w ∧ w32 w ≤ w32 2)) = w32 0 → (K (some (some (vI 1000))) F A)) ∧ (¬ (w32 (bi (w32 0 ≤ w32 w ∧ w32 w ≤ w32 2)) = w32 0) → (K (some (some (vI (fat (A 2) (122 + l * 3 + w))))) F A)))
  refine ⟨by (refine ⟨c1, ?_⟩; first | exact ⟨p1.1.1, p1.1.2, by omega⟩ | exact ⟨p1.1.1, p1.1.2, by omega, by omega⟩ | omega), ?_⟩
  refine ⟨fun c2 => ?_, fun c2 => ?_⟩
  · skip
    (try simp (disch := omega) only [fat_in] at c2); (try simp (disch := omega) only [w32_0, wbi0, Classical.not_not, w32_id] at c2)
    first | exact K_eq (h.1 c1) (if_neg (by omega)) | (simp (disch := omega) only [fat_in]; exact K_eq (h.1 c1) (if_pos (by omega)))
  · skip
    (try simp (disch := omega) only [fat_in] at c2); (try simp (disch := omega) only [w32_0, wbi0, Classical.not_not, w32_id] at c2)
    first | exact K_eq (h.1 c1) (if_neg (by omega)) | (simp (disch := omega) only [fat_in]; exact K_eq (h.1 c1) (if_pos (by omega)))
theorem qtZ8_lineNumber (l : Launch) : am_CT l layX qeZ8_lineNumber := am_met0 rfl (by decide +kernel) rfl rfl rfl rfl rfl (fun _ => rfl) rfl (qzZ8_lineNumber l) (fun k e1 h => (qyZ8_lineNumber l k e1 h).2) (fun as F A K h => by
  replace h : qsZ8_lineNumber as F A K := h
  unfold qsZ8_lineNumber at h
  split at h
  · rename_i o l w
    refine ⟨by first | exact Nat.le_of_ble_eq_true rfl | simp [am_fl, am_cat], ?_⟩
    replace h := am_cond2 h
    rcases h with ⟨hb, h⟩ | h
    · skip
      have hb0 := hb
      have hb0 := am_bq hb0
      subst hb0
      exact am_way_line (qvZ8_lineNumber_0 l w F A K h)
    exact h.elim
  · exact h.elim)
def qkZ8_coefficient : Nat → Option CI := fun pc => cond (Nat.ble 34 pc) none (cond (Nat.ble 15 pc) (cond (Nat.ble 24 pc) (cond (Nat.ble 28 pc) (cond (Nat.beq pc 28) (some (.goto 5, 31, [33])) (cond (Nat.beq pc 31) (some (.ldc 198, 33, [])) (cond (Nat.beq pc 33) (some (.ireturn, 34, [])) (none)))) (cond (Nat.beq pc 24) (some (.iload_n 3, 25, [])) (cond (Nat.beq pc 25) (some (.invokevirtual 195, 28, [])) (none)))) (cond (Nat.ble 19 pc) (cond (Nat.beq pc 19) (some (.getfield 10, 22, [])) (cond (Nat.beq pc 22) (some (.iload_n 1, 23, [])) (cond (Nat.beq pc 23) (some (.iload_n 2, 24, [])) (none)))) (cond (Nat.beq pc 15) (some (.ifCond .eq 16, 18, [31])) (cond (Nat.beq pc 18) (some (.aload_n 0, 19, [])) (none))))) (cond (Nat.ble 6 pc) (cond (Nat.ble 10 pc) (cond (Nat.beq pc 10) (some (.iload_n 1, 11, [])) (cond (Nat.beq pc 11) (some (.iload_n 3, 12, [])) (cond (Nat.beq pc 12) (some (.invokevirtual 129, 15, [])) (none)))) (cond (Nat.beq pc 6) (some (.aload_n 0, 7, [])) (cond (Nat.beq pc 7) (some (.getfield 10, 10, [])) (none)))) (cond (Nat.ble 2 pc) (cond (Nat.beq pc 2) (some (.iload_n 2, 3, [])) (cond (Nat.beq pc 3) (some (.invokevirtual 191, 6, [])) (none))) (cond (Nat.beq pc 0) (some (.aload_n 0, 1, [])) (cond (Nat.beq pc 1) (some (.iload_n 1, 2, [])) (none))))))
theorem qkZ8_coefficient_ok : ∀ pc i nx ts, qkZ8_coefficient pc = some (i, nx, ts) → am_cok cX8_coefficient pc (i, nx, ts) = true := fun pc i nx ts h => am_tok_ok (n := 34) (by decide +kernel) (fun pc h => by show cond (Nat.ble 34 pc) _ _ = _; rw [Nat.ble_eq_true_of_le h]; rfl) h
def qaZ8_coefficient : Nat → Option CE := fun k => cond (Nat.beq k 191) (some qeZ8_requireCurveAndLine) (cond (Nat.beq k 129) (some qeX2_hasPoint) (cond (Nat.beq k 195) (some qeX2_cutNumber) (none)))
theorem qyZ8_coefficient (l : Launch) : ∀ k e1, qaZ8_coefficient k = some e1 → am_cal l layX RX8 11 k e1 ∧ ceT e1 = 0 := q_cons ⟨am_calV (ci := 8) (qtZ8_requireCurveAndLine l) qbZ8_requireCurveAndLine (by decide) rfl (am_tb_at 1099 (by decide +kernel) rfl), rfl⟩ (q_cons ⟨am_calV (ci := 2) (qtX2_hasPoint l) qbX2_hasPoint (by decide) rfl (am_tb_at 867 (by decide +kernel) rfl), rfl⟩ (q_cons ⟨am_calV (ci := 2) (qtX2_cutNumber l) qbX2_cutNumber (by decide) rfl (am_tb_at 1103 (by decide +kernel) rfl), rfl⟩ (q_nil)))
def qxZ8_coefficient : CX := (qkZ8_coefficient, layX, qfX8, qaZ8_coefficient, qcX8, qlX8, qmX8, (some .int), false, none, 0, none, fun _ => none)
theorem qzZ8_coefficient (l : Launch) : am_sta l qxZ8_coefficient RX8 11 cX8_coefficient := ⟨qkZ8_coefficient_ok, layX_ok, qfX8_ok, qcX8_ok, qlX8_ok, am_mthP qmX8_ok (by decide), fun k e1 h => (qyZ8_coefficient l k e1 h).1⟩
def qsZ8_coefficient : SP := fun as F A K => match as with
  | [.inr (.inr o), .inl c, .inl l, .inl k] => cond (Nat.beq o 0) ((((0 ≤ c ∧ c < A 2 0) ∧ 0 ≤ l ∧ l < A 2 1) ∧ fgOK (A 2) ∧ (-2147483648 ≤ c ∧ c < 2147483648) ∧ (-2147483648 ≤ l ∧ l < 2147483648) ∧ (-2147483648 ≤ k ∧ k < 2147483648)) ∧ (K (some (some (vI (if 0 ≤ k ∧ k < A 2 (18 + c) then cfR (A 2) c l k else -100000)))) F A)) (False)
  | _ => False
def qeZ8_coefficient : CE := (yX8_coefficient, cX8_coefficient, 4, (some .int), 3, some 8, 0, none, 0, 11, qsZ8_coefficient)
theorem qbZ8_coefficient : am_mb qeZ8_coefficient := ⟨am_tb_at 1098 (by decide +kernel) rfl, am_tb_at 35 (by decide +kernel) rfl, ⟨by decide, by decide, by decide +kernel⟩, by decide, am_tb_at 1096 (by decide +kernel) rfl, am_tb_at 1097 (by decide +kernel) rfl, _, _, rfl⟩
set_option maxRecDepth 20000 in
theorem qvZ8_coefficient_0 (c : Int) (l : Int) (k : Int) (F : FF) (A : AA) (K : KK) (h : (((0 ≤ c ∧ c < A 2 0) ∧ 0 ≤ l ∧ l < A 2 1) ∧ fgOK (A 2) ∧ (-2147483648 ≤ c ∧ c < 2147483648) ∧ (-2147483648 ≤ l ∧ l < 2147483648) ∧ (-2147483648 ≤ k ∧ k < 2147483648)) ∧ (K (some (some (vI (if 0 ≤ k ∧ k < A 2 (18 + c) then cfR (A 2) c l k else -100000)))) F A)) : am_line qxZ8_coefficient 19 [vR 0, vI c, vI l, vI k] 4 F A K := by
  show am_stp qxZ8_coefficient (am_run qxZ8_coefficient (fun _ => none) (fun _ _ _ _ _ _ => False) K 19) K 0 [some (vR 0), some (vI c), some (vI l), some (vI k)] [] F A 0
  obtain ⟨hp, h⟩ := h
  obtain ⟨c1, hp⟩ := hp
  have h := And.intro (fun (_ : (0 ≤ c ∧ c < A 2 0) ∧ 0 ≤ l ∧ l < A 2 1) => h) trivial
  have p1 := hp.1
  have p2' := hp.2
  have q1 := p1.1.1
  have q2 := p1.1.2
  show (((0 ≤ c ∧ c < A 2 0) ∧ 0 ≤ l ∧ l < A 2 1) ∧ (0 ≤ A 2 0 ∧ A 2 0 ≤ 8) ∧ (0 ≤ A 2 1 ∧ A 2 1 ≤ 6) ∧ (-2147483648 ≤ c ∧ c < 2147483648) ∧ (-2147483648 ≤ l ∧ l < 2147483648)) ∧ ((w32 (bi (0 ≤ w32 c ∧ w32 c < w32 (fat (A 2) 0) ∧ 0 ≤ w32 k ∧ w32 k < w32 (fat (A 2) (18 + c)))) = w32 0 → (K (some (some (vI (-100000)))) F A)) ∧ (¬ (w32 (bi (0 ≤ w32 c ∧ w32 c < w32 (fat (A 2) 0) ∧ 0 ≤ w32 k ∧ w32 k < w32 (fat (A 2) (18 + c)))) = w32 0) → (K (some (some (vI ((fat (A 2) (26 + (c * 4 + k) * 3 + 2)) * (fat (A 2) (122 + l * 3 + 0) * (fat (A 2) (26 + (c * 4 + k) * 3 + 0)) + fat (A 2) (122 + l * 3 + 1) * (fat (A 2) (26 + (c * 4 + k) * 3 + 1)) + fat (A 2) (122 + l * 3 + 2)))))) F A)))
  refine ⟨by (refine ⟨c1, ?_⟩; first | exact ⟨p1.1.1, p1.1.2, by omega⟩ | exact ⟨p1.1.1, p1.1.2, by omega, by omega⟩ | omega), ?_⟩
  refine ⟨fun c2 => ?_, fun c2 => ?_⟩
  · skip
    (try simp (disch := omega) only [fat_in] at c2); (try simp (disch := omega) only [w32_0, wbi0, Classical.not_not, w32_id] at c2); (try (have q3 := (p1.2.2.1 c c1.1.1 c1.1.2).1; simp (disch := omega) only [fat_in, w32_id] at c2))
    have q3 := (p1.2.2.1 c c1.1.1 c1.1.2).1
    first | exact K_eq (h.1 c1) (if_neg (by omega)) | (simp (disch := omega) only [fat_in]; exact K_eq (h.1 c1) (if_pos (by omega)))
  · skip
    (try simp (disch := omega) only [fat_in] at c2); (try simp (disch := omega) only [w32_0, wbi0, Classical.not_not, w32_id] at c2); (try (have q3 := (p1.2.2.1 c c1.1.1 c1.1.2).1; simp (disch := omega) only [fat_in, w32_id] at c2))
    have q3 := (p1.2.2.1 c c1.1.1 c1.1.2).1
    first | exact K_eq (h.1 c1) (if_neg (by omega)) | (simp (disch := omega) only [fat_in]; exact K_eq (h.1 c1) (if_pos (by omega)))
theorem qtZ8_coefficient (l : Launch) : am_CT l layX qeZ8_coefficient := am_met0 rfl (by decide +kernel) rfl rfl rfl rfl rfl (fun _ => rfl) rfl (qzZ8_coefficient l) (fun k e1 h => (qyZ8_coefficient l k e1 h).2) (fun as F A K h => by
  replace h : qsZ8_coefficient as F A K := h
  unfold qsZ8_coefficient at h
  split at h
  · rename_i o c l k
    refine ⟨by first | exact Nat.le_of_ble_eq_true rfl | simp [am_fl, am_cat], ?_⟩
    replace h := am_cond2 h
    rcases h with ⟨hb, h⟩ | h
    · skip
      have hb0 := hb
      have hb0 := am_bq hb0
      subst hb0
      exact am_way_line (qvZ8_coefficient_0 c l k F A K h)
    exact h.elim
  · exact h.elim)
def qkZ8_sideOf : Nat → Option CI := fun pc => cond (Nat.ble 36 pc) none (cond (Nat.ble 16 pc) (cond (Nat.ble 25 pc) (cond (Nat.ble 31 pc) (cond (Nat.beq pc 31) (some (.i2l, 32, [])) (cond (Nat.beq pc 32) (some (.invokestatic 212, 35, [])) (cond (Nat.beq pc 35) (some (.ireturn, 36, [])) (none)))) (cond (Nat.beq pc 25) (some (.invokevirtual 126, 28, [])) (cond (Nat.beq pc 28) (some (.invokevirtual 195, 31, [])) (none)))) (cond (Nat.ble 20 pc) (cond (Nat.beq pc 20) (some (.aload_n 0, 21, [])) (cond (Nat.beq pc 21) (some (.getfield 10, 24, [])) (cond (Nat.beq pc 24) (some (.iload_n 1, 25, [])) (none)))) (cond (Nat.beq pc 16) (some (.iconst 0, 17, [])) (cond (Nat.beq pc 17) (some (.goto 11, 20, [28])) (none))))) (cond (Nat.ble 7 pc) (cond (Nat.ble 11 pc) (cond (Nat.beq pc 11) (some (.iload_n 2, 12, [])) (cond (Nat.beq pc 12) (some (.iload_n 3, 13, [])) (cond (Nat.beq pc 13) (some (.ifCond .ne 7, 16, [20])) (none)))) (cond (Nat.beq pc 7) (some (.getfield 10, 10, [])) (cond (Nat.beq pc 10) (some (.iload_n 1, 11, [])) (none)))) (cond (Nat.ble 2 pc) (cond (Nat.beq pc 2) (some (.iload_n 2, 3, [])) (cond (Nat.beq pc 3) (some (.invokevirtual 191, 6, [])) (cond (Nat.beq pc 6) (some (.aload_n 0, 7, [])) (none)))) (cond (Nat.beq pc 0) (some (.aload_n 0, 1, [])) (cond (Nat.beq pc 1) (some (.iload_n 1, 2, [])) (none))))))
theorem qkZ8_sideOf_ok : ∀ pc i nx ts, qkZ8_sideOf pc = some (i, nx, ts) → am_cok cX8_sideOf pc (i, nx, ts) = true := fun pc i nx ts h => am_tok_ok (n := 36) (by decide +kernel) (fun pc h => by show cond (Nat.ble 36 pc) _ _ = _; rw [Nat.ble_eq_true_of_le h]; rfl) h
def qaZ8_sideOf : Nat → Option CE := fun k => cond (Nat.beq k 191) (some qeZ8_requireCurveAndLine) (cond (Nat.beq k 126) (some qeX2_top) (cond (Nat.beq k 195) (some qeX2_cutNumber) (cond (Nat.beq k 212) (some qeX8_signOf) (none))))
theorem qyZ8_sideOf (l : Launch) : ∀ k e1, qaZ8_sideOf k = some e1 → am_cal l layX RX8 11 k e1 ∧ ceT e1 = 0 := q_cons ⟨am_calV (ci := 8) (qtZ8_requireCurveAndLine l) qbZ8_requireCurveAndLine (by decide) rfl (am_tb_at 1099 (by decide +kernel) rfl), rfl⟩ (q_cons ⟨am_calV (ci := 2) (qtX2_top l) qbX2_top (by decide) rfl (am_tb_at 850 (by decide +kernel) rfl), rfl⟩ (q_cons ⟨am_calV (ci := 2) (qtX2_cutNumber l) qbX2_cutNumber (by decide) rfl (am_tb_at 1103 (by decide +kernel) rfl), rfl⟩ (q_cons ⟨am_calS (qtX8_signOf l) qbX8_signOf (by decide) rfl (by decide) (am_tb_at 1113 (by decide +kernel) rfl), rfl⟩ (q_nil))))
def qxZ8_sideOf : CX := (qkZ8_sideOf, layX, qfX8, qaZ8_sideOf, qcX8, qlX8, qmX8, (some .int), false, none, 0, none, fun _ => none)
theorem qzZ8_sideOf (l : Launch) : am_sta l qxZ8_sideOf RX8 11 cX8_sideOf := ⟨qkZ8_sideOf_ok, layX_ok, qfX8_ok, qcX8_ok, qlX8_ok, am_mthP qmX8_ok (by decide), fun k e1 h => (qyZ8_sideOf l k e1 h).1⟩
def qsZ8_sideOf : SP := fun as F A K => match as with
  | [.inr (.inr o), .inl c, .inl l, .inl e] => cond (Nat.beq o 0) ((((0 ≤ c ∧ c < A 2 0) ∧ 0 ≤ l ∧ l < A 2 1) ∧ fgOK (A 2) ∧ (-2147483648 ≤ c ∧ c < 2147483648) ∧ (-2147483648 ≤ l ∧ l < 2147483648) ∧ (-2147483648 ≤ e ∧ e < 2147483648)) ∧ (K (some (some (vI (sg (w64 (w32 (cfR (A 2) c l (if e = 0 then 0 else A 2 (18 + c) - 1)))))))) F A)) (False)
  | _ => False
def qeZ8_sideOf : CE := (yX8_sideOf, cX8_sideOf, 4, (some .int), 3, some 8, 0, none, 0, 11, qsZ8_sideOf)
theorem qbZ8_sideOf : am_mb qeZ8_sideOf := ⟨am_tb_at 1112 (by decide +kernel) rfl, am_tb_at 35 (by decide +kernel) rfl, ⟨by decide, by decide, by decide +kernel⟩, by decide, am_tb_at 1110 (by decide +kernel) rfl, am_tb_at 1111 (by decide +kernel) rfl, _, _, rfl⟩
set_option maxRecDepth 20000 in
theorem qvZ8_sideOf_0 (c : Int) (l : Int) (e : Int) (F : FF) (A : AA) (K : KK) (h : (((0 ≤ c ∧ c < A 2 0) ∧ 0 ≤ l ∧ l < A 2 1) ∧ fgOK (A 2) ∧ (-2147483648 ≤ c ∧ c < 2147483648) ∧ (-2147483648 ≤ l ∧ l < 2147483648) ∧ (-2147483648 ≤ e ∧ e < 2147483648)) ∧ (K (some (some (vI (sg (w64 (w32 (cfR (A 2) c l (if e = 0 then 0 else A 2 (18 + c) - 1)))))))) F A)) : am_line qxZ8_sideOf 19 [vR 0, vI c, vI l, vI e] 4 F A K := by
  show am_stp qxZ8_sideOf (am_run qxZ8_sideOf (fun _ => none) (fun _ _ _ _ _ _ => False) K 19) K 0 [some (vR 0), some (vI c), some (vI l), some (vI e)] [] F A 0
  obtain ⟨hp, h⟩ := h
  obtain ⟨c1, hp⟩ := hp
  have h := And.intro (fun (_ : (0 ≤ c ∧ c < A 2 0) ∧ 0 ≤ l ∧ l < A 2 1) => h) trivial
  have p1 := hp.1
  have p2' := hp.2
  have q1 := p1.1.1
  have q2 := p1.1.2
  show (((0 ≤ c ∧ c < A 2 0) ∧ 0 ≤ l ∧ l < A 2 1) ∧ (0 ≤ A 2 0 ∧ A 2 0 ≤ 8) ∧ (0 ≤ A 2 1 ∧ A 2 1 ≤ 6) ∧ (-2147483648 ≤ c ∧ c < 2147483648) ∧ (-2147483648 ≤ l ∧ l < 2147483648)) ∧ ((w32 e = w32 0 → (K (some (some (vI (sg (w64 (w32 ((fat (A 2) (26 + (c * 4 + 0) * 3 + 2)) * (fat (A 2) (122 + l * 3 + 0) * (fat (A 2) (26 + (c * 4 + 0) * 3 + 0)) + fat (A 2) (122 + l * 3 + 1) * (fat (A 2) (26 + (c * 4 + 0) * 3 + 1)) + fat (A 2) (122 + l * 3 + 2))))))))) F A)) ∧ (¬ w32 e = w32 0 → (K (some (some (vI (sg (w64 (w32 ((fat (A 2) (26 + (c * 4 + (fat (A 2) (18 + c) - 1)) * 3 + 2)) * (fat (A 2) (122 + l * 3 + 0) * (fat (A 2) (26 + (c * 4 + (fat (A 2) (18 + c) - 1)) * 3 + 0)) + fat (A 2) (122 + l * 3 + 1) * (fat (A 2) (26 + (c * 4 + (fat (A 2) (18 + c) - 1)) * 3 + 1)) + fat (A 2) (122 + l * 3 + 2))))))))) F A)))
  refine ⟨by (refine ⟨c1, ?_⟩; first | exact ⟨p1.1.1, p1.1.2, by omega⟩ | exact ⟨p1.1.1, p1.1.2, by omega, by omega⟩ | omega), ?_⟩
  refine ⟨fun c2 => ?_, fun c2 => ?_⟩
  · skip
    (try have q3 := (p1.2.2.1 c c1.1.1 c1.1.2).1); (try simp (disch := omega) only [fat_in, w32_0, w32_id] at c2)
    have q3 := (p1.2.2.1 c c1.1.1 c1.1.2).1
    simp (disch := omega) only [fat_in]
    exact K_eq (h.1 c1) (by rw [if_pos c2]; rfl)
  · skip
    (try have q3 := (p1.2.2.1 c c1.1.1 c1.1.2).1); (try simp (disch := omega) only [fat_in, w32_0, w32_id] at c2)
    have q3 := (p1.2.2.1 c c1.1.1 c1.1.2).1
    simp (disch := omega) only [fat_in]
    exact K_eq (h.1 c1) (by rw [if_neg c2]; rfl)
theorem qtZ8_sideOf (l : Launch) : am_CT l layX qeZ8_sideOf := am_met0 rfl (by decide +kernel) rfl rfl rfl rfl rfl (fun _ => rfl) rfl (qzZ8_sideOf l) (fun k e1 h => (qyZ8_sideOf l k e1 h).2) (fun as F A K h => by
  replace h : qsZ8_sideOf as F A K := h
  unfold qsZ8_sideOf at h
  split at h
  · rename_i o c l e
    refine ⟨by first | exact Nat.le_of_ble_eq_true rfl | simp [am_fl, am_cat], ?_⟩
    replace h := am_cond2 h
    rcases h with ⟨hb, h⟩ | h
    · skip
      have hb0 := hb
      have hb0 := am_bq hb0
      subst hb0
      exact am_way_line (qvZ8_sideOf_0 c l e F A K h)
    exact h.elim
  · exact h.elim)
def qkZ8_rootCount : Nat → Option CI := fun pc => cond (Nat.ble 34 pc) none (cond (Nat.ble 13 pc) (cond (Nat.ble 23 pc) (cond (Nat.ble 27 pc) (cond (Nat.beq pc 27) (some (.getfield 43, 30, [])) (cond (Nat.beq pc 30) (some (.invokevirtual 219, 33, [])) (cond (Nat.beq pc 33) (some (.ireturn, 34, [])) (none)))) (cond (Nat.beq pc 23) (some (.goto 10, 26, [33])) (cond (Nat.beq pc 26) (some (.aload_n 0, 27, [])) (none)))) (cond (Nat.ble 19 pc) (cond (Nat.beq pc 19) (some (.ifCond .eq 7, 22, [26])) (cond (Nat.beq pc 22) (some (.iconst (-1), 23, [])) (none))) (cond (Nat.beq pc 13) (some (.getfield 43, 16, [])) (cond (Nat.beq pc 16) (some (.invokevirtual 208, 19, [])) (none))))) (cond (Nat.ble 6 pc) (cond (Nat.ble 8 pc) (cond (Nat.beq pc 8) (some (.iload_n 2, 9, [])) (cond (Nat.beq pc 9) (some (.invokevirtual 216, 12, [])) (cond (Nat.beq pc 12) (some (.aload_n 0, 13, [])) (none)))) (cond (Nat.beq pc 6) (some (.aload_n 0, 7, [])) (cond (Nat.beq pc 7) (some (.iload_n 1, 8, [])) (none)))) (cond (Nat.ble 2 pc) (cond (Nat.beq pc 2) (some (.iload_n 2, 3, [])) (cond (Nat.beq pc 3) (some (.invokevirtual 191, 6, [])) (none))) (cond (Nat.beq pc 0) (some (.aload_n 0, 1, [])) (cond (Nat.beq pc 1) (some (.iload_n 1, 2, [])) (none))))))
theorem qkZ8_rootCount_ok : ∀ pc i nx ts, qkZ8_rootCount pc = some (i, nx, ts) → am_cok cX8_rootCount pc (i, nx, ts) = true := fun pc i nx ts h => am_tok_ok (n := 34) (by decide +kernel) (fun pc h => by show cond (Nat.ble 34 pc) _ _ = _; rw [Nat.ble_eq_true_of_le h]; rfl) h
def qaZ8_rootCount : Nat → Option CE := fun k => cond (Nat.beq k 191) (some qeZ8_requireCurveAndLine) (cond (Nat.beq k 216) (some qeX8_findRoots) (cond (Nat.beq k 208) (some qeX5_isAllZero) (cond (Nat.beq k 219) (some qeX5_size) (none))))
theorem qyZ8_rootCount (l : Launch) : ∀ k e1, qaZ8_rootCount k = some e1 → am_cal l layX RX8 21 k e1 ∧ ceT e1 = 0 := q_cons ⟨am_calV (ci := 8) (qtZ8_requireCurveAndLine l) qbZ8_requireCurveAndLine (by decide) rfl (am_tb_at 1099 (by decide +kernel) rfl), rfl⟩ (q_cons ⟨am_calV (ci := 8) (qtX8_findRoots l) qbX8_findRoots (by decide) rfl (am_tb_at 1123 (by decide +kernel) rfl), rfl⟩ (q_cons ⟨am_calV (ci := 5) (qtX5_isAllZero l) qbX5_isAllZero (by decide) rfl (am_tb_at 960 (by decide +kernel) rfl), rfl⟩ (q_cons ⟨am_calV (ci := 5) (qtX5_size l) qbX5_size (by decide) rfl (am_tb_at 1149 (by decide +kernel) rfl), rfl⟩ (q_nil))))
def qxZ8_rootCount : CX := (qkZ8_rootCount, layX, qfX8, qaZ8_rootCount, qcX8, qlX8, qmX8, (some .int), false, none, 0, none, fun _ => none)
theorem qzZ8_rootCount (l : Launch) : am_sta l qxZ8_rootCount RX8 21 cX8_rootCount := ⟨qkZ8_rootCount_ok, layX_ok, qfX8_ok, qcX8_ok, qlX8_ok, am_mthP qmX8_ok (by decide), fun k e1 h => (qyZ8_rootCount l k e1 h).1⟩
def qsZ8_rootCount : SP := fun as F A K => match as with
  | [.inr (.inr o), .inl c, .inl l] => cond (Nat.beq o 0) ((((0 ≤ c ∧ c < A 2 0) ∧ 0 ≤ l ∧ l < A 2 1) ∧ fgOK (A 2) ∧ (-2147483648 ≤ c ∧ c < 2147483648) ∧ (-2147483648 ≤ l ∧ l < 2147483648) ∧ rtB (A 2)) ∧ (∀ (G_1 : FF) (B_1 : AA), (qrP F G_1 A B_1) → (K (some (some (vI (if azP (cfL (A 2) c l) (Int.toNat (A 2 (18 + c))) then -1 else ((rtsX (A 2) c l).length : Int))))) G_1 B_1))) (False)
  | _ => False
def qeZ8_rootCount : CE := (yX8_rootCount, cX8_rootCount, 3, (some .int), 2, some 8, 0, none, 0, 21, qsZ8_rootCount)
theorem qbZ8_rootCount : am_mb qeZ8_rootCount := ⟨am_tb_at 1122 (by decide +kernel) rfl, am_tb_at 35 (by decide +kernel) rfl, ⟨by decide, by decide, by decide +kernel⟩, by decide, am_tb_at 1120 (by decide +kernel) rfl, am_tb_at 1121 (by decide +kernel) rfl, _, _, rfl⟩
set_option maxRecDepth 20000 in
theorem qvZ8_rootCount_0 (c : Int) (l : Int) (F : FF) (A : AA) (K : KK) (h : (((0 ≤ c ∧ c < A 2 0) ∧ 0 ≤ l ∧ l < A 2 1) ∧ fgOK (A 2) ∧ (-2147483648 ≤ c ∧ c < 2147483648) ∧ (-2147483648 ≤ l ∧ l < 2147483648) ∧ rtB (A 2)) ∧ (∀ (G_1 : FF) (B_1 : AA), (qrP F G_1 A B_1) → (K (some (some (vI (if azP (cfL (A 2) c l) (Int.toNat (A 2 (18 + c))) then -1 else ((rtsX (A 2) c l).length : Int))))) G_1 B_1))) : am_line qxZ8_rootCount 17 [vR 0, vI c, vI l] 3 F A K := by
  show am_stp qxZ8_rootCount (am_run qxZ8_rootCount (fun _ => none) (fun _ _ _ _ _ _ => False) K 17) K 0 [some (vR 0), some (vI c), some (vI l)] [] F A 0
  obtain ⟨hp, h⟩ := h
  obtain ⟨c1, hp⟩ := hp
  have h := And.intro (fun (_ : (0 ≤ c ∧ c < A 2 0) ∧ 0 ≤ l ∧ l < A 2 1) => h) trivial
  have p1 := hp.1
  have p2' := hp.2
  have q1 := p1.1.1
  have q2 := p1.1.2
  show (((0 ≤ c ∧ c < A 2 0) ∧ 0 ≤ l ∧ l < A 2 1) ∧ (0 ≤ A 2 0 ∧ A 2 0 ≤ 8) ∧ (0 ≤ A 2 1 ∧ A 2 1 ≤ 6) ∧ (-2147483648 ≤ c ∧ c < 2147483648) ∧ (-2147483648 ≤ l ∧ l < 2147483648)) ∧ ((fgOK (A 2) ∧ (0 ≤ c ∧ c < A 2 0) ∧ (0 ≤ l ∧ l < A 2 1) ∧ ((rtsX (A 2) c l).length : Int) ≤ 8) ∧ (∀ (G_1 : FF) (B_1 : AA), (qrP F G_1 A B_1 ∧ rcP G_1 B_1 (A 2) c l (rtsX (A 2) c l)) → ((0 ≤ (G_1 14 4) ∧ (G_1 14 4) ≤ 3) ∧ ((w32 (bi (azP (B_1 15) (Int.toNat ((G_1 14 4) + 1)))) = w32 0 → (K (some (some (vI (G_1 14 5)))) G_1 B_1)) ∧ (¬ w32 (bi (azP (B_1 15) (Int.toNat ((G_1 14 4) + 1)))) = w32 0 → (K (some (some (vI (-1)))) G_1 B_1))))))
  refine ⟨by (refine ⟨c1, ?_⟩; exact ⟨p1.1.1, p1.1.2, hp.2.1, hp.2.2.1⟩), ?_⟩
  refine ⟨by exact ⟨p1, c1.1, c1.2, hp.2.2.2 c l c1.1.1 c1.1.2 c1.2.1 c1.2.2⟩, ?_⟩
  intro G_1 B_1 g1
  refine ⟨by (have q3 := (p1.2.2.1 c c1.1.1 c1.1.2).1; first | (rw [g1.2.1]; omega) | (have q5 := hp.2.2.2 c l c1.1.1 c1.1.2 c1.2.1 c1.2.2; rw [g1.2.2.1]; omega)), ?_⟩
  refine ⟨fun c2 => ?_, fun c2 => ?_⟩
  · skip
    (try simp (disch := omega) only [w32_0, wbi0, Classical.not_not, w32_id] at c2)
    have q3 := (p1.2.2.1 c c1.1.1 c1.1.2).1
    have az := rc_az g1.2 q3.1
    refine K_eq (h.1 c1 _ _ g1.1) ?_
    rw [if_neg (fun z => c2 (az.mpr z))]
    exact g1.2.2.1.symm
  · skip
    (try simp (disch := omega) only [w32_0, wbi0, Classical.not_not, w32_id] at c2)
    have q3 := (p1.2.2.1 c c1.1.1 c1.1.2).1
    have az := rc_az g1.2 q3.1
    exact K_eq (h.1 c1 _ _ g1.1) (if_pos (az.mp c2))
theorem qtZ8_rootCount (l : Launch) : am_CT l layX qeZ8_rootCount := am_met0 rfl (by decide +kernel) rfl rfl rfl rfl rfl (fun _ => rfl) rfl (qzZ8_rootCount l) (fun k e1 h => (qyZ8_rootCount l k e1 h).2) (fun as F A K h => by
  replace h : qsZ8_rootCount as F A K := h
  unfold qsZ8_rootCount at h
  split at h
  · rename_i o c l
    refine ⟨by first | exact Nat.le_of_ble_eq_true rfl | simp [am_fl, am_cat], ?_⟩
    replace h := am_cond2 h
    rcases h with ⟨hb, h⟩ | h
    · skip
      have hb0 := hb
      have hb0 := am_bq hb0
      subst hb0
      exact am_way_line (qvZ8_rootCount_0 c l F A K h)
    exact h.elim
  · exact h.elim)
def qkZ8_rootKind : Nat → Option CI := fun pc => cond (Nat.ble 21 pc) none (cond (Nat.ble 8 pc) (cond (Nat.ble 13 pc) (cond (Nat.ble 17 pc) (cond (Nat.beq pc 17) (some (.invokevirtual 226, 20, [])) (cond (Nat.beq pc 20) (some (.ireturn, 21, [])) (none))) (cond (Nat.beq pc 13) (some (.getfield 43, 16, [])) (cond (Nat.beq pc 16) (some (.iload_n 3, 17, [])) (none)))) (cond (Nat.beq pc 8) (some (.iload_n 2, 9, [])) (cond (Nat.beq pc 9) (some (.invokevirtual 216, 12, [])) (cond (Nat.beq pc 12) (some (.aload_n 0, 13, [])) (none))))) (cond (Nat.ble 3 pc) (cond (Nat.beq pc 3) (some (.invokevirtual 191, 6, [])) (cond (Nat.beq pc 6) (some (.aload_n 0, 7, [])) (cond (Nat.beq pc 7) (some (.iload_n 1, 8, [])) (none)))) (cond (Nat.beq pc 0) (some (.aload_n 0, 1, [])) (cond (Nat.beq pc 1) (some (.iload_n 1, 2, [])) (cond (Nat.beq pc 2) (some (.iload_n 2, 3, [])) (none))))))
theorem qkZ8_rootKind_ok : ∀ pc i nx ts, qkZ8_rootKind pc = some (i, nx, ts) → am_cok cX8_rootKind pc (i, nx, ts) = true := fun pc i nx ts h => am_tok_ok (n := 21) (by decide +kernel) (fun pc h => by show cond (Nat.ble 21 pc) _ _ = _; rw [Nat.ble_eq_true_of_le h]; rfl) h
def qaZ8_rootKind : Nat → Option CE := fun k => cond (Nat.beq k 191) (some qeZ8_requireCurveAndLine) (cond (Nat.beq k 216) (some qeX8_findRoots) (cond (Nat.beq k 226) (some qeX5_kindOf) (none)))
theorem qyZ8_rootKind (l : Launch) : ∀ k e1, qaZ8_rootKind k = some e1 → am_cal l layX RX8 21 k e1 ∧ ceT e1 = 0 := q_cons ⟨am_calV (ci := 8) (qtZ8_requireCurveAndLine l) qbZ8_requireCurveAndLine (by decide) rfl (am_tb_at 1099 (by decide +kernel) rfl), rfl⟩ (q_cons ⟨am_calV (ci := 8) (qtX8_findRoots l) qbX8_findRoots (by decide) rfl (am_tb_at 1123 (by decide +kernel) rfl), rfl⟩ (q_cons ⟨am_calV (ci := 5) (qtX5_kindOf l) qbX5_kindOf (by decide) rfl (am_tb_at 1173 (by decide +kernel) rfl), rfl⟩ (q_nil)))
def qxZ8_rootKind : CX := (qkZ8_rootKind, layX, qfX8, qaZ8_rootKind, qcX8, qlX8, qmX8, (some .int), false, none, 0, none, fun _ => none)
theorem qzZ8_rootKind (l : Launch) : am_sta l qxZ8_rootKind RX8 21 cX8_rootKind := ⟨qkZ8_rootKind_ok, layX_ok, qfX8_ok, qcX8_ok, qlX8_ok, am_mthP qmX8_ok (by decide), fun k e1 h => (qyZ8_rootKind l k e1 h).1⟩
def qsZ8_rootKind : SP := fun as F A K => match as with
  | [.inr (.inr o), .inl c, .inl l, .inl r] => cond (Nat.beq o 0) ((((0 ≤ c ∧ c < A 2 0) ∧ 0 ≤ l ∧ l < A 2 1) ∧ fgOK (A 2) ∧ (-2147483648 ≤ c ∧ c < 2147483648) ∧ (-2147483648 ≤ l ∧ l < 2147483648) ∧ (-2147483648 ≤ r ∧ r < 2147483648) ∧ rtB (A 2)) ∧ (∀ (G_1 : FF) (B_1 : AA), (qrP F G_1 A B_1) → (K (some (some (vI (if 0 ≤ r ∧ r < ((rtsX (A 2) c l).length : Int) then ((rtsX (A 2) c l).getD (Int.toNat r) (0, 0, 0)).1 else -1)))) G_1 B_1))) (False)
  | _ => False
def qeZ8_rootKind : CE := (yX8_rootKind, cX8_rootKind, 4, (some .int), 3, some 8, 0, none, 0, 21, qsZ8_rootKind)
theorem qbZ8_rootKind : am_mb qeZ8_rootKind := ⟨am_tb_at 1172 (by decide +kernel) rfl, am_tb_at 35 (by decide +kernel) rfl, ⟨by decide, by decide, by decide +kernel⟩, by decide, am_tb_at 1170 (by decide +kernel) rfl, am_tb_at 1171 (by decide +kernel) rfl, _, _, rfl⟩
set_option maxRecDepth 20000 in
theorem qvZ8_rootKind_0 (c : Int) (l : Int) (r : Int) (F : FF) (A : AA) (K : KK) (h : (((0 ≤ c ∧ c < A 2 0) ∧ 0 ≤ l ∧ l < A 2 1) ∧ fgOK (A 2) ∧ (-2147483648 ≤ c ∧ c < 2147483648) ∧ (-2147483648 ≤ l ∧ l < 2147483648) ∧ (-2147483648 ≤ r ∧ r < 2147483648) ∧ rtB (A 2)) ∧ (∀ (G_1 : FF) (B_1 : AA), (qrP F G_1 A B_1) → (K (some (some (vI (if 0 ≤ r ∧ r < ((rtsX (A 2) c l).length : Int) then ((rtsX (A 2) c l).getD (Int.toNat r) (0, 0, 0)).1 else -1)))) G_1 B_1))) : am_line qxZ8_rootKind 14 [vR 0, vI c, vI l, vI r] 4 F A K := by
  show am_stp qxZ8_rootKind (am_run qxZ8_rootKind (fun _ => none) (fun _ _ _ _ _ _ => False) K 14) K 0 [some (vR 0), some (vI c), some (vI l), some (vI r)] [] F A 0
  obtain ⟨hp, h⟩ := h
  obtain ⟨c1, hp⟩ := hp
  have h := And.intro (fun (_ : (0 ≤ c ∧ c < A 2 0) ∧ 0 ≤ l ∧ l < A 2 1) => h) trivial
  have p1 := hp.1
  have p2' := hp.2
  have q1 := p1.1.1
  have q2 := p1.1.2
  show (((0 ≤ c ∧ c < A 2 0) ∧ 0 ≤ l ∧ l < A 2 1) ∧ (0 ≤ A 2 0 ∧ A 2 0 ≤ 8) ∧ (0 ≤ A 2 1 ∧ A 2 1 ≤ 6) ∧ (-2147483648 ≤ c ∧ c < 2147483648) ∧ (-2147483648 ≤ l ∧ l < 2147483648)) ∧ ((fgOK (A 2) ∧ (0 ≤ c ∧ c < A 2 0) ∧ (0 ≤ l ∧ l < A 2 1) ∧ ((rtsX (A 2) c l).length : Int) ≤ 8) ∧ (∀ (G_1 : FF) (B_1 : AA), (qrP F G_1 A B_1 ∧ rcP G_1 B_1 (A 2) c l (rtsX (A 2) c l)) → ((0 ≤ (G_1 14 5) ∧ (G_1 14 5) ≤ 8) ∧ (K (some (some (vI (if 0 ≤ w32 r ∧ w32 r < (G_1 14 5) then B_1 16 (w32 r) else -1)))) G_1 B_1))))
  refine ⟨by (refine ⟨c1, ?_⟩; exact ⟨p1.1.1, p1.1.2, hp.2.1, hp.2.2.1⟩), ?_⟩
  refine ⟨by exact ⟨p1, c1.1, c1.2, hp.2.2.2.2 c l c1.1.1 c1.1.2 c1.2.1 c1.2.2⟩, ?_⟩
  intro G_1 B_1 g1
  refine ⟨by (have q3 := (p1.2.2.1 c c1.1.1 c1.1.2).1; first | (rw [g1.2.1]; omega) | (have q5 := hp.2.2.2.2 c l c1.1.1 c1.1.2 c1.2.1 c1.2.2; rw [g1.2.2.1]; omega)), ?_⟩
  refine K_eq (h.1 c1 _ _ g1.1) ?_
  rw [g1.2.2.1, w32_id (x := r) (by omega) (by omega)]
  split
  · rename_i hk
    exact (rts_get g1.2.2.2.1 hk.1 hk.2).1.symm
  · rfl
theorem qtZ8_rootKind (l : Launch) : am_CT l layX qeZ8_rootKind := am_met0 rfl (by decide +kernel) rfl rfl rfl rfl rfl (fun _ => rfl) rfl (qzZ8_rootKind l) (fun k e1 h => (qyZ8_rootKind l k e1 h).2) (fun as F A K h => by
  replace h : qsZ8_rootKind as F A K := h
  unfold qsZ8_rootKind at h
  split at h
  · rename_i o c l r
    refine ⟨by first | exact Nat.le_of_ble_eq_true rfl | simp [am_fl, am_cat], ?_⟩
    replace h := am_cond2 h
    rcases h with ⟨hb, h⟩ | h
    · skip
      have hb0 := hb
      have hb0 := am_bq hb0
      subst hb0
      exact am_way_line (qvZ8_rootKind_0 c l r F A K h)
    exact h.elim
  · exact h.elim)
def qkZ8_rootDepth : Nat → Option CI := fun pc => cond (Nat.ble 21 pc) none (cond (Nat.ble 8 pc) (cond (Nat.ble 13 pc) (cond (Nat.ble 17 pc) (cond (Nat.beq pc 17) (some (.invokevirtual 229, 20, [])) (cond (Nat.beq pc 20) (some (.ireturn, 21, [])) (none))) (cond (Nat.beq pc 13) (some (.getfield 43, 16, [])) (cond (Nat.beq pc 16) (some (.iload_n 3, 17, [])) (none)))) (cond (Nat.beq pc 8) (some (.iload_n 2, 9, [])) (cond (Nat.beq pc 9) (some (.invokevirtual 216, 12, [])) (cond (Nat.beq pc 12) (some (.aload_n 0, 13, [])) (none))))) (cond (Nat.ble 3 pc) (cond (Nat.beq pc 3) (some (.invokevirtual 191, 6, [])) (cond (Nat.beq pc 6) (some (.aload_n 0, 7, [])) (cond (Nat.beq pc 7) (some (.iload_n 1, 8, [])) (none)))) (cond (Nat.beq pc 0) (some (.aload_n 0, 1, [])) (cond (Nat.beq pc 1) (some (.iload_n 1, 2, [])) (cond (Nat.beq pc 2) (some (.iload_n 2, 3, [])) (none))))))
theorem qkZ8_rootDepth_ok : ∀ pc i nx ts, qkZ8_rootDepth pc = some (i, nx, ts) → am_cok cX8_rootDepth pc (i, nx, ts) = true := fun pc i nx ts h => am_tok_ok (n := 21) (by decide +kernel) (fun pc h => by show cond (Nat.ble 21 pc) _ _ = _; rw [Nat.ble_eq_true_of_le h]; rfl) h
def qaZ8_rootDepth : Nat → Option CE := fun k => cond (Nat.beq k 191) (some qeZ8_requireCurveAndLine) (cond (Nat.beq k 216) (some qeX8_findRoots) (cond (Nat.beq k 229) (some qeX5_depthOf) (none)))
theorem qyZ8_rootDepth (l : Launch) : ∀ k e1, qaZ8_rootDepth k = some e1 → am_cal l layX RX8 21 k e1 ∧ ceT e1 = 0 := q_cons ⟨am_calV (ci := 8) (qtZ8_requireCurveAndLine l) qbZ8_requireCurveAndLine (by decide) rfl (am_tb_at 1099 (by decide +kernel) rfl), rfl⟩ (q_cons ⟨am_calV (ci := 8) (qtX8_findRoots l) qbX8_findRoots (by decide) rfl (am_tb_at 1123 (by decide +kernel) rfl), rfl⟩ (q_cons ⟨am_calV (ci := 5) (qtX5_depthOf l) qbX5_depthOf (by decide) rfl (am_tb_at 1206 (by decide +kernel) rfl), rfl⟩ (q_nil)))
def qxZ8_rootDepth : CX := (qkZ8_rootDepth, layX, qfX8, qaZ8_rootDepth, qcX8, qlX8, qmX8, (some .int), false, none, 0, none, fun _ => none)
theorem qzZ8_rootDepth (l : Launch) : am_sta l qxZ8_rootDepth RX8 21 cX8_rootDepth := ⟨qkZ8_rootDepth_ok, layX_ok, qfX8_ok, qcX8_ok, qlX8_ok, am_mthP qmX8_ok (by decide), fun k e1 h => (qyZ8_rootDepth l k e1 h).1⟩
def qsZ8_rootDepth : SP := fun as F A K => match as with
  | [.inr (.inr o), .inl c, .inl l, .inl r] => cond (Nat.beq o 0) ((((0 ≤ c ∧ c < A 2 0) ∧ 0 ≤ l ∧ l < A 2 1) ∧ fgOK (A 2) ∧ (-2147483648 ≤ c ∧ c < 2147483648) ∧ (-2147483648 ≤ l ∧ l < 2147483648) ∧ (-2147483648 ≤ r ∧ r < 2147483648) ∧ rtB (A 2)) ∧ (∀ (G_1 : FF) (B_1 : AA), (qrP F G_1 A B_1) → (K (some (some (vI (if 0 ≤ r ∧ r < ((rtsX (A 2) c l).length : Int) then ((rtsX (A 2) c l).getD (Int.toNat r) (0, 0, 0)).2.1 else -1)))) G_1 B_1))) (False)
  | _ => False
def qeZ8_rootDepth : CE := (yX8_rootDepth, cX8_rootDepth, 4, (some .int), 3, some 8, 0, none, 0, 21, qsZ8_rootDepth)
theorem qbZ8_rootDepth : am_mb qeZ8_rootDepth := ⟨am_tb_at 1205 (by decide +kernel) rfl, am_tb_at 35 (by decide +kernel) rfl, ⟨by decide, by decide, by decide +kernel⟩, by decide, am_tb_at 1203 (by decide +kernel) rfl, am_tb_at 1204 (by decide +kernel) rfl, _, _, rfl⟩
set_option maxRecDepth 20000 in
theorem qvZ8_rootDepth_0 (c : Int) (l : Int) (r : Int) (F : FF) (A : AA) (K : KK) (h : (((0 ≤ c ∧ c < A 2 0) ∧ 0 ≤ l ∧ l < A 2 1) ∧ fgOK (A 2) ∧ (-2147483648 ≤ c ∧ c < 2147483648) ∧ (-2147483648 ≤ l ∧ l < 2147483648) ∧ (-2147483648 ≤ r ∧ r < 2147483648) ∧ rtB (A 2)) ∧ (∀ (G_1 : FF) (B_1 : AA), (qrP F G_1 A B_1) → (K (some (some (vI (if 0 ≤ r ∧ r < ((rtsX (A 2) c l).length : Int) then ((rtsX (A 2) c l).getD (Int.toNat r) (0, 0, 0)).2.1 else -1)))) G_1 B_1))) : am_line qxZ8_rootDepth 14 [vR 0, vI c, vI l, vI r] 4 F A K := by
  show am_stp qxZ8_rootDepth (am_run qxZ8_rootDepth (fun _ => none) (fun _ _ _ _ _ _ => False) K 14) K 0 [some (vR 0), some (vI c), some (vI l), some (vI r)] [] F A 0
  obtain ⟨hp, h⟩ := h
  obtain ⟨c1, hp⟩ := hp
  have h := And.intro (fun (_ : (0 ≤ c ∧ c < A 2 0) ∧ 0 ≤ l ∧ l < A 2 1) => h) trivial
  have p1 := hp.1
  have p2' := hp.2
  have q1 := p1.1.1
  have q2 := p1.1.2
  show (((0 ≤ c ∧ c < A 2 0) ∧ 0 ≤ l ∧ l < A 2 1) ∧ (0 ≤ A 2 0 ∧ A 2 0 ≤ 8) ∧ (0 ≤ A 2 1 ∧ A 2 1 ≤ 6) ∧ (-2147483648 ≤ c ∧ c < 2147483648) ∧ (-2147483648 ≤ l ∧ l < 2147483648)) ∧ ((fgOK (A 2) ∧ (0 ≤ c ∧ c < A 2 0) ∧ (0 ≤ l ∧ l < A 2 1) ∧ ((rtsX (A 2) c l).length : Int) ≤ 8) ∧ (∀ (G_1 : FF) (B_1 : AA), (qrP F G_1 A B_1 ∧ rcP G_1 B_1 (A 2) c l (rtsX (A 2) c l)) → ((0 ≤ (G_1 14 5) ∧ (G_1 14 5) ≤ 8) ∧ (K (some (some (vI (if 0 ≤ w32 r ∧ w32 r < (G_1 14 5) then B_1 17 (w32 r) else -1)))) G_1 B_1))))
  refine ⟨by (refine ⟨c1, ?_⟩; exact ⟨p1.1.1, p1.1.2, hp.2.1, hp.2.2.1⟩), ?_⟩
  refine ⟨by exact ⟨p1, c1.1, c1.2, hp.2.2.2.2 c l c1.1.1 c1.1.2 c1.2.1 c1.2.2⟩, ?_⟩
  intro G_1 B_1 g1
  refine ⟨by (have q3 := (p1.2.2.1 c c1.1.1 c1.1.2).1; first | (rw [g1.2.1]; omega) | (have q5 := hp.2.2.2.2 c l c1.1.1 c1.1.2 c1.2.1 c1.2.2; rw [g1.2.2.1]; omega)), ?_⟩
  refine K_eq (h.1 c1 _ _ g1.1) ?_
  rw [g1.2.2.1, w32_id (x := r) (by omega) (by omega)]
  split
  · rename_i hk
    exact (rts_get g1.2.2.2.1 hk.1 hk.2).2.1.symm
  · rfl
theorem qtZ8_rootDepth (l : Launch) : am_CT l layX qeZ8_rootDepth := am_met0 rfl (by decide +kernel) rfl rfl rfl rfl rfl (fun _ => rfl) rfl (qzZ8_rootDepth l) (fun k e1 h => (qyZ8_rootDepth l k e1 h).2) (fun as F A K h => by
  replace h : qsZ8_rootDepth as F A K := h
  unfold qsZ8_rootDepth at h
  split at h
  · rename_i o c l r
    refine ⟨by first | exact Nat.le_of_ble_eq_true rfl | simp [am_fl, am_cat], ?_⟩
    replace h := am_cond2 h
    rcases h with ⟨hb, h⟩ | h
    · skip
      have hb0 := hb
      have hb0 := am_bq hb0
      subst hb0
      exact am_way_line (qvZ8_rootDepth_0 c l r F A K h)
    exact h.elim
  · exact h.elim)
def qkZ8_rootCell : Nat → Option CI := fun pc => cond (Nat.ble 21 pc) none (cond (Nat.ble 8 pc) (cond (Nat.ble 13 pc) (cond (Nat.ble 17 pc) (cond (Nat.beq pc 17) (some (.invokevirtual 232, 20, [])) (cond (Nat.beq pc 20) (some (.ireturn, 21, [])) (none))) (cond (Nat.beq pc 13) (some (.getfield 43, 16, [])) (cond (Nat.beq pc 16) (some (.iload_n 3, 17, [])) (none)))) (cond (Nat.beq pc 8) (some (.iload_n 2, 9, [])) (cond (Nat.beq pc 9) (some (.invokevirtual 216, 12, [])) (cond (Nat.beq pc 12) (some (.aload_n 0, 13, [])) (none))))) (cond (Nat.ble 3 pc) (cond (Nat.beq pc 3) (some (.invokevirtual 191, 6, [])) (cond (Nat.beq pc 6) (some (.aload_n 0, 7, [])) (cond (Nat.beq pc 7) (some (.iload_n 1, 8, [])) (none)))) (cond (Nat.beq pc 0) (some (.aload_n 0, 1, [])) (cond (Nat.beq pc 1) (some (.iload_n 1, 2, [])) (cond (Nat.beq pc 2) (some (.iload_n 2, 3, [])) (none))))))
theorem qkZ8_rootCell_ok : ∀ pc i nx ts, qkZ8_rootCell pc = some (i, nx, ts) → am_cok cX8_rootCell pc (i, nx, ts) = true := fun pc i nx ts h => am_tok_ok (n := 21) (by decide +kernel) (fun pc h => by show cond (Nat.ble 21 pc) _ _ = _; rw [Nat.ble_eq_true_of_le h]; rfl) h
def qaZ8_rootCell : Nat → Option CE := fun k => cond (Nat.beq k 191) (some qeZ8_requireCurveAndLine) (cond (Nat.beq k 216) (some qeX8_findRoots) (cond (Nat.beq k 232) (some qeX5_cellOf) (none)))
theorem qyZ8_rootCell (l : Launch) : ∀ k e1, qaZ8_rootCell k = some e1 → am_cal l layX RX8 21 k e1 ∧ ceT e1 = 0 := q_cons ⟨am_calV (ci := 8) (qtZ8_requireCurveAndLine l) qbZ8_requireCurveAndLine (by decide) rfl (am_tb_at 1099 (by decide +kernel) rfl), rfl⟩ (q_cons ⟨am_calV (ci := 8) (qtX8_findRoots l) qbX8_findRoots (by decide) rfl (am_tb_at 1123 (by decide +kernel) rfl), rfl⟩ (q_cons ⟨am_calV (ci := 5) (qtX5_cellOf l) qbX5_cellOf (by decide) rfl (am_tb_at 1214 (by decide +kernel) rfl), rfl⟩ (q_nil)))
def qxZ8_rootCell : CX := (qkZ8_rootCell, layX, qfX8, qaZ8_rootCell, qcX8, qlX8, qmX8, (some .int), false, none, 0, none, fun _ => none)
theorem qzZ8_rootCell (l : Launch) : am_sta l qxZ8_rootCell RX8 21 cX8_rootCell := ⟨qkZ8_rootCell_ok, layX_ok, qfX8_ok, qcX8_ok, qlX8_ok, am_mthP qmX8_ok (by decide), fun k e1 h => (qyZ8_rootCell l k e1 h).1⟩
def qsZ8_rootCell : SP := fun as F A K => match as with
  | [.inr (.inr o), .inl c, .inl l, .inl r] => cond (Nat.beq o 0) ((((0 ≤ c ∧ c < A 2 0) ∧ 0 ≤ l ∧ l < A 2 1) ∧ fgOK (A 2) ∧ (-2147483648 ≤ c ∧ c < 2147483648) ∧ (-2147483648 ≤ l ∧ l < 2147483648) ∧ (-2147483648 ≤ r ∧ r < 2147483648) ∧ rtB (A 2)) ∧ (∀ (G_1 : FF) (B_1 : AA), (qrP F G_1 A B_1) → (K (some (some (vI (if 0 ≤ r ∧ r < ((rtsX (A 2) c l).length : Int) then ((rtsX (A 2) c l).getD (Int.toNat r) (0, 0, 0)).2.2 else -1)))) G_1 B_1))) (False)
  | _ => False
def qeZ8_rootCell : CE := (yX8_rootCell, cX8_rootCell, 4, (some .int), 3, some 8, 0, none, 0, 21, qsZ8_rootCell)
theorem qbZ8_rootCell : am_mb qeZ8_rootCell := ⟨am_tb_at 1213 (by decide +kernel) rfl, am_tb_at 35 (by decide +kernel) rfl, ⟨by decide, by decide, by decide +kernel⟩, by decide, am_tb_at 1211 (by decide +kernel) rfl, am_tb_at 1212 (by decide +kernel) rfl, _, _, rfl⟩
set_option maxRecDepth 20000 in
theorem qvZ8_rootCell_0 (c : Int) (l : Int) (r : Int) (F : FF) (A : AA) (K : KK) (h : (((0 ≤ c ∧ c < A 2 0) ∧ 0 ≤ l ∧ l < A 2 1) ∧ fgOK (A 2) ∧ (-2147483648 ≤ c ∧ c < 2147483648) ∧ (-2147483648 ≤ l ∧ l < 2147483648) ∧ (-2147483648 ≤ r ∧ r < 2147483648) ∧ rtB (A 2)) ∧ (∀ (G_1 : FF) (B_1 : AA), (qrP F G_1 A B_1) → (K (some (some (vI (if 0 ≤ r ∧ r < ((rtsX (A 2) c l).length : Int) then ((rtsX (A 2) c l).getD (Int.toNat r) (0, 0, 0)).2.2 else -1)))) G_1 B_1))) : am_line qxZ8_rootCell 14 [vR 0, vI c, vI l, vI r] 4 F A K := by
  show am_stp qxZ8_rootCell (am_run qxZ8_rootCell (fun _ => none) (fun _ _ _ _ _ _ => False) K 14) K 0 [some (vR 0), some (vI c), some (vI l), some (vI r)] [] F A 0
  obtain ⟨hp, h⟩ := h
  obtain ⟨c1, hp⟩ := hp
  have h := And.intro (fun (_ : (0 ≤ c ∧ c < A 2 0) ∧ 0 ≤ l ∧ l < A 2 1) => h) trivial
  have p1 := hp.1
  have p2' := hp.2
  have q1 := p1.1.1
  have q2 := p1.1.2
  show (((0 ≤ c ∧ c < A 2 0) ∧ 0 ≤ l ∧ l < A 2 1) ∧ (0 ≤ A 2 0 ∧ A 2 0 ≤ 8) ∧ (0 ≤ A 2 1 ∧ A 2 1 ≤ 6) ∧ (-2147483648 ≤ c ∧ c < 2147483648) ∧ (-2147483648 ≤ l ∧ l < 2147483648)) ∧ ((fgOK (A 2) ∧ (0 ≤ c ∧ c < A 2 0) ∧ (0 ≤ l ∧ l < A 2 1) ∧ ((rtsX (A 2) c l).length : Int) ≤ 8) ∧ (∀ (G_1 : FF) (B_1 : AA), (qrP F G_1 A B_1 ∧ rcP G_1 B_1 (A 2) c l (rtsX (A 2) c l)) → ((0 ≤ (G_1 14 5) ∧ (G_1 14 5) ≤ 8) ∧ (K (some (some (vI (if 0 ≤ w32 r ∧ w32 r < (G_1 14 5) then B_1 18 (w32 r) else -1)))) G_1 B_1))))
  refine ⟨by (refine ⟨c1, ?_⟩; exact ⟨p1.1.1, p1.1.2, hp.2.1, hp.2.2.1⟩), ?_⟩
  refine ⟨by exact ⟨p1, c1.1, c1.2, hp.2.2.2.2 c l c1.1.1 c1.1.2 c1.2.1 c1.2.2⟩, ?_⟩
  intro G_1 B_1 g1
  refine ⟨by (have q3 := (p1.2.2.1 c c1.1.1 c1.1.2).1; first | (rw [g1.2.1]; omega) | (have q5 := hp.2.2.2.2 c l c1.1.1 c1.1.2 c1.2.1 c1.2.2; rw [g1.2.2.1]; omega)), ?_⟩
  refine K_eq (h.1 c1 _ _ g1.1) ?_
  rw [g1.2.2.1, w32_id (x := r) (by omega) (by omega)]
  split
  · rename_i hk
    exact (rts_get g1.2.2.2.1 hk.1 hk.2).2.2.symm
  · rfl
theorem qtZ8_rootCell (l : Launch) : am_CT l layX qeZ8_rootCell := am_met0 rfl (by decide +kernel) rfl rfl rfl rfl rfl (fun _ => rfl) rfl (qzZ8_rootCell l) (fun k e1 h => (qyZ8_rootCell l k e1 h).2) (fun as F A K h => by
  replace h : qsZ8_rootCell as F A K := h
  unfold qsZ8_rootCell at h
  split at h
  · rename_i o c l r
    refine ⟨by first | exact Nat.le_of_ble_eq_true rfl | simp [am_fl, am_cat], ?_⟩
    replace h := am_cond2 h
    rcases h with ⟨hb, h⟩ | h
    · skip
      have hb0 := hb
      have hb0 := am_bq hb0
      subst hb0
      exact am_way_line (qvZ8_rootCell_0 c l r F A K h)
    exact h.elim
  · exact h.elim)
def qkZ8_isOn : Nat → Option CI := fun pc => cond (Nat.ble 13 pc) none (cond (Nat.ble 6 pc) (cond (Nat.ble 8 pc) (cond (Nat.beq pc 8) (some (.iload_n 2, 9, [])) (cond (Nat.beq pc 9) (some (.invokevirtual 205, 12, [])) (cond (Nat.beq pc 12) (some (.ireturn, 13, [])) (none)))) (cond (Nat.beq pc 6) (some (.aload_n 0, 7, [])) (cond (Nat.beq pc 7) (some (.iload_n 1, 8, [])) (none)))) (cond (Nat.ble 2 pc) (cond (Nat.beq pc 2) (some (.iload_n 2, 3, [])) (cond (Nat.beq pc 3) (some (.invokevirtual 191, 6, [])) (none))) (cond (Nat.beq pc 0) (some (.aload_n 0, 1, [])) (cond (Nat.beq pc 1) (some (.iload_n 1, 2, [])) (none)))))
theorem qkZ8_isOn_ok : ∀ pc i nx ts, qkZ8_isOn pc = some (i, nx, ts) → am_cok cX8_isOn pc (i, nx, ts) = true := fun pc i nx ts h => am_tok_ok (n := 13) (by decide +kernel) (fun pc h => by show cond (Nat.ble 13 pc) _ _ = _; rw [Nat.ble_eq_true_of_le h]; rfl) h
def qaZ8_isOn : Nat → Option CE := fun k => cond (Nat.beq k 191) (some qeZ8_requireCurveAndLine) (cond (Nat.beq k 205) (some qeX8_liesOn) (none))
theorem qyZ8_isOn (l : Launch) : ∀ k e1, qaZ8_isOn k = some e1 → am_cal l layX RX8 11 k e1 ∧ ceT e1 = 0 := q_cons ⟨am_calV (ci := 8) (qtZ8_requireCurveAndLine l) qbZ8_requireCurveAndLine (by decide) rfl (am_tb_at 1099 (by decide +kernel) rfl), rfl⟩ (q_cons ⟨am_calV (ci := 8) (qtX8_liesOn l) qbX8_liesOn (by decide) rfl (am_tb_at 938 (by decide +kernel) rfl), rfl⟩ (q_nil))
def qxZ8_isOn : CX := (qkZ8_isOn, layX, qfX8, qaZ8_isOn, qcX8, qlX8, qmX8, (some .boolean), false, none, 0, none, fun _ => none)
theorem qzZ8_isOn (l : Launch) : am_sta l qxZ8_isOn RX8 11 cX8_isOn := ⟨qkZ8_isOn_ok, layX_ok, qfX8_ok, qcX8_ok, qlX8_ok, am_mthP qmX8_ok (by decide), fun k e1 h => (qyZ8_isOn l k e1 h).1⟩
def qsZ8_isOn : SP := fun as F A K => match as with
  | [.inr (.inr o), .inl c, .inl l] => cond (Nat.beq o 0) ((((0 ≤ c ∧ c < A 2 0) ∧ 0 ≤ l ∧ l < A 2 1) ∧ fgOK (A 2) ∧ (-2147483648 ≤ c ∧ c < 2147483648) ∧ (-2147483648 ≤ l ∧ l < 2147483648)) ∧ (∀ (G_1 : FF) (B_1 : AA), (qrP F G_1 A B_1) → (K (some (some (vI (bi (azP (cfL (A 2) c l) (Int.toNat (A 2 (18 + c)))))))) G_1 B_1))) (False)
  | _ => False
def qeZ8_isOn : CE := (yX8_isOn, cX8_isOn, 3, (some .boolean), 2, some 8, 0, none, 0, 11, qsZ8_isOn)
theorem qbZ8_isOn : am_mb qeZ8_isOn := ⟨am_tb_at 1108 (by decide +kernel) rfl, am_tb_at 35 (by decide +kernel) rfl, ⟨by decide, by decide, by decide +kernel⟩, by decide, am_tb_at 1106 (by decide +kernel) rfl, am_tb_at 1107 (by decide +kernel) rfl, _, _, rfl⟩
set_option maxRecDepth 20000 in
theorem qvZ8_isOn_0 (c : Int) (l : Int) (F : FF) (A : AA) (K : KK) (h : (((0 ≤ c ∧ c < A 2 0) ∧ 0 ≤ l ∧ l < A 2 1) ∧ fgOK (A 2) ∧ (-2147483648 ≤ c ∧ c < 2147483648) ∧ (-2147483648 ≤ l ∧ l < 2147483648)) ∧ (∀ (G_1 : FF) (B_1 : AA), (qrP F G_1 A B_1) → (K (some (some (vI (bi (azP (cfL (A 2) c l) (Int.toNat (A 2 (18 + c)))))))) G_1 B_1))) : am_line qxZ8_isOn 10 [vR 0, vI c, vI l] 3 F A K := by
  show am_stp qxZ8_isOn (am_run qxZ8_isOn (fun _ => none) (fun _ _ _ _ _ _ => False) K 10) K 0 [some (vR 0), some (vI c), some (vI l)] [] F A 0
  obtain ⟨hp, h⟩ := h
  obtain ⟨c1, hp⟩ := hp
  have h := And.intro (fun (_ : (0 ≤ c ∧ c < A 2 0) ∧ 0 ≤ l ∧ l < A 2 1) => h) trivial
  have p1 := hp.1
  have p2' := hp.2
  have q1 := p1.1.1
  have q2 := p1.1.2
  show (((0 ≤ c ∧ c < A 2 0) ∧ 0 ≤ l ∧ l < A 2 1) ∧ (0 ≤ A 2 0 ∧ A 2 0 ≤ 8) ∧ (0 ≤ A 2 1 ∧ A 2 1 ≤ 6) ∧ (-2147483648 ≤ c ∧ c < 2147483648) ∧ (-2147483648 ≤ l ∧ l < 2147483648)) ∧ ((fgOK (A 2) ∧ (0 ≤ c ∧ c < A 2 0) ∧ (0 ≤ l ∧ l < A 2 1)) ∧ (∀ (G_1 : FF) (B_1 : AA), (qrP F G_1 A B_1) → (((bi (azP (cfL (A 2) c l) (Int.toNat (A 2 (18 + c))))) = 0 ∨ (bi (azP (cfL (A 2) c l) (Int.toNat (A 2 (18 + c))))) = 1) ∧ (K (some (some (vI (bi (azP (cfL (A 2) c l) (Int.toNat (A 2 (18 + c)))))))) G_1 B_1))))
  refine ⟨by (refine ⟨c1, ?_⟩; exact ⟨p1.1.1, p1.1.2, hp.2⟩), ?_⟩
  refine ⟨by exact ⟨p1, c1⟩, ?_⟩
  intro G_1 B_1 g1
  refine ⟨by exact bi_01, ?_⟩
  exact h.1 c1 _ _ g1
theorem qtZ8_isOn (l : Launch) : am_CT l layX qeZ8_isOn := am_met0 rfl (by decide +kernel) rfl rfl rfl rfl rfl (fun _ => rfl) rfl (qzZ8_isOn l) (fun k e1 h => (qyZ8_isOn l k e1 h).2) (fun as F A K h => by
  replace h : qsZ8_isOn as F A K := h
  unfold qsZ8_isOn at h
  split at h
  · rename_i o c l
    refine ⟨by first | exact Nat.le_of_ble_eq_true rfl | simp [am_fl, am_cat], ?_⟩
    replace h := am_cond2 h
    rcases h with ⟨hb, h⟩ | h
    · skip
      have hb0 := hb
      have hb0 := am_bq hb0
      subst hb0
      exact am_way_line (qvZ8_isOn_0 c l F A K h)
    exact h.elim
  · exact h.elim)
def qkZ8_isTangent : Nat → Option CI := fun pc => cond (Nat.ble 27 pc) none (cond (Nat.ble 11 pc) (cond (Nat.ble 19 pc) (cond (Nat.ble 23 pc) (cond (Nat.beq pc 23) (some (.invokevirtual 238, 26, [])) (cond (Nat.beq pc 26) (some (.ireturn, 27, [])) (none))) (cond (Nat.beq pc 19) (some (.aload_n 0, 20, [])) (cond (Nat.beq pc 20) (some (.getfield 43, 23, [])) (none)))) (cond (Nat.ble 15 pc) (cond (Nat.beq pc 15) (some (.iload_n 2, 16, [])) (cond (Nat.beq pc 16) (some (.invokevirtual 199, 19, [])) (none))) (cond (Nat.beq pc 11) (some (.getfield 10, 14, [])) (cond (Nat.beq pc 14) (some (.iload_n 1, 15, [])) (none))))) (cond (Nat.ble 3 pc) (cond (Nat.ble 7 pc) (cond (Nat.beq pc 7) (some (.getfield 43, 10, [])) (cond (Nat.beq pc 10) (some (.aload_n 0, 11, [])) (none))) (cond (Nat.beq pc 3) (some (.invokevirtual 191, 6, [])) (cond (Nat.beq pc 6) (some (.aload_n 0, 7, [])) (none)))) (cond (Nat.beq pc 0) (some (.aload_n 0, 1, [])) (cond (Nat.beq pc 1) (some (.iload_n 1, 2, [])) (cond (Nat.beq pc 2) (some (.iload_n 2, 3, [])) (none))))))
theorem qkZ8_isTangent_ok : ∀ pc i nx ts, qkZ8_isTangent pc = some (i, nx, ts) → am_cok cX8_isTangent pc (i, nx, ts) = true := fun pc i nx ts h => am_tok_ok (n := 27) (by decide +kernel) (fun pc h => by show cond (Nat.ble 27 pc) _ _ = _; rw [Nat.ble_eq_true_of_le h]; rfl) h
def qaZ8_isTangent : Nat → Option CE := fun k => cond (Nat.beq k 191) (some qeZ8_requireCurveAndLine) (cond (Nat.beq k 199) (some qeX5_begin) (cond (Nat.beq k 238) (some qeX5_hasDoubleRoot) (none)))
theorem qyZ8_isTangent (l : Launch) : ∀ k e1, qaZ8_isTangent k = some e1 → am_cal l layX RX8 11 k e1 ∧ ceT e1 = 0 := q_cons ⟨am_calV (ci := 8) (qtZ8_requireCurveAndLine l) qbZ8_requireCurveAndLine (by decide) rfl (am_tb_at 1099 (by decide +kernel) rfl), rfl⟩ (q_cons ⟨am_calV (ci := 5) (qtX5_begin l) qbX5_begin (by decide) rfl (am_tb_at 942 (by decide +kernel) rfl), rfl⟩ (q_cons ⟨am_calV (ci := 5) (qtX5_hasDoubleRoot l) qbX5_hasDoubleRoot (by decide) rfl (am_tb_at 1178 (by decide +kernel) rfl), rfl⟩ (q_nil)))
def qxZ8_isTangent : CX := (qkZ8_isTangent, layX, qfX8, qaZ8_isTangent, qcX8, qlX8, qmX8, (some .boolean), false, none, 0, none, fun _ => none)
theorem qzZ8_isTangent (l : Launch) : am_sta l qxZ8_isTangent RX8 11 cX8_isTangent := ⟨qkZ8_isTangent_ok, layX_ok, qfX8_ok, qcX8_ok, qlX8_ok, am_mthP qmX8_ok (by decide), fun k e1 h => (qyZ8_isTangent l k e1 h).1⟩
def qsZ8_isTangent : SP := fun as F A K => match as with
  | [.inr (.inr o), .inl c, .inl l] => cond (Nat.beq o 0) ((((0 ≤ c ∧ c < A 2 0) ∧ 0 ≤ l ∧ l < A 2 1) ∧ fgOK (A 2) ∧ (-2147483648 ≤ c ∧ c < 2147483648) ∧ (-2147483648 ≤ l ∧ l < 2147483648)) ∧ (∀ (G_1 : FF) (B_1 : AA), (qrP F G_1 A B_1) → (K (some (some (vI (bi (dblP (cfL (A 2) c l) (A 2 (18 + c) - 1)))))) G_1 B_1))) (False)
  | _ => False
def qeZ8_isTangent : CE := (yX8_isTangent, cX8_isTangent, 3, (some .boolean), 2, some 8, 0, none, 0, 11, qsZ8_isTangent)
theorem qbZ8_isTangent : am_mb qeZ8_isTangent := ⟨am_tb_at 1177 (by decide +kernel) rfl, am_tb_at 35 (by decide +kernel) rfl, ⟨by decide, by decide, by decide +kernel⟩, by decide, am_tb_at 1175 (by decide +kernel) rfl, am_tb_at 1176 (by decide +kernel) rfl, _, _, rfl⟩
set_option maxRecDepth 20000 in
theorem qvZ8_isTangent_0 (c : Int) (l : Int) (F : FF) (A : AA) (K : KK) (h : (((0 ≤ c ∧ c < A 2 0) ∧ 0 ≤ l ∧ l < A 2 1) ∧ fgOK (A 2) ∧ (-2147483648 ≤ c ∧ c < 2147483648) ∧ (-2147483648 ≤ l ∧ l < 2147483648)) ∧ (∀ (G_1 : FF) (B_1 : AA), (qrP F G_1 A B_1) → (K (some (some (vI (bi (dblP (cfL (A 2) c l) (A 2 (18 + c) - 1)))))) G_1 B_1))) : am_line qxZ8_isTangent 16 [vR 0, vI c, vI l] 3 F A K := by
  show am_stp qxZ8_isTangent (am_run qxZ8_isTangent (fun _ => none) (fun _ _ _ _ _ _ => False) K 16) K 0 [some (vR 0), some (vI c), some (vI l)] [] F A 0
  obtain ⟨hp, h⟩ := h
  obtain ⟨c1, hp⟩ := hp
  have h := And.intro (fun (_ : (0 ≤ c ∧ c < A 2 0) ∧ 0 ≤ l ∧ l < A 2 1) => h) trivial
  have p1 := hp.1
  have p2' := hp.2
  have q1 := p1.1.1
  have q2 := p1.1.2
  show (((0 ≤ c ∧ c < A 2 0) ∧ 0 ≤ l ∧ l < A 2 1) ∧ (0 ≤ A 2 0 ∧ A 2 0 ≤ 8) ∧ (0 ≤ A 2 1 ∧ A 2 1 ≤ 6) ∧ (-2147483648 ≤ c ∧ c < 2147483648) ∧ (-2147483648 ≤ l ∧ l < 2147483648)) ∧ ((0 ≤ c ∧ c < 8 ∧ 0 ≤ l ∧ l < 6 ∧ 1 ≤ A 2 (18 + c) ∧ A 2 (18 + c) ≤ 4) ∧ ((1 ≤ (A 2 (18 + c) - 1) ∧ (A 2 (18 + c) - 1) ≤ 3) ∧ (((bi (dblP ((setR A 15 0 (A 2 (18 + c)) (fun jj => cfX (A 2) c l jj)) 15) ((A 2 (18 + c) - 1)))) = 0 ∨ (bi (dblP ((setR A 15 0 (A 2 (18 + c)) (fun jj => cfX (A 2) c l jj)) 15) ((A 2 (18 + c) - 1)))) = 1) ∧ (K (some (some (vI (bi (dblP ((setR A 15 0 (A 2 (18 + c)) (fun jj => cfX (A 2) c l jj)) 15) ((A 2 (18 + c) - 1))))))) (upF F 14 4 (A 2 (18 + c) - 1)) (setR A 15 0 (A 2 (18 + c)) (fun jj => cfX (A 2) c l jj))))))
  refine ⟨by (refine ⟨c1, ?_⟩; exact ⟨p1.1.1, p1.1.2, hp.2⟩), ?_⟩
  refine ⟨by (have q3 := (p1.2.2.1 c c1.1.1 c1.1.2).1; first | exact bi_01 | omega), ?_⟩
  refine ⟨by (have q3 := (p1.2.2.1 c c1.1.1 c1.1.2).1; first | exact bi_01 | omega), ?_⟩
  refine ⟨by (have q3 := (p1.2.2.1 c c1.1.1 c1.1.2).1; first | exact bi_01 | omega), ?_⟩
  have q3 := (p1.2.2.1 c c1.1.1 c1.1.2).1
  have s0 : ∀ k, 0 ≤ k → k < A 2 (18 + c) → setR A 15 0 (A 2 (18 + c)) (fun jj => cfX (A 2) c l jj) 15 k = cfX (A 2) c l k := fun k k0 k1 => by rw [setR_in k0 (by omega), Int.sub_zero]
  have qb : qrP F (upF F 14 4 (A 2 (18 + c) - 1)) A (setR A 15 0 (A 2 (18 + c)) (fun jj => cfX (A 2) c l jj)) := qrP_of (fun a b hab => upF_o (by omega)) (fun b i hb => setR_o (by omega))
  exact K_eq (h.1 c1 _ _ qb) (bi_c (dblP_c (fun i i0 i1 => (s0 i i0 (by omega)).symm) (by omega)))
theorem qtZ8_isTangent (l : Launch) : am_CT l layX qeZ8_isTangent := am_met0 rfl (by decide +kernel) rfl rfl rfl rfl rfl (fun _ => rfl) rfl (qzZ8_isTangent l) (fun k e1 h => (qyZ8_isTangent l k e1 h).2) (fun as F A K h => by
  replace h : qsZ8_isTangent as F A K := h
  unfold qsZ8_isTangent at h
  split at h
  · rename_i o c l
    refine ⟨by first | exact Nat.le_of_ble_eq_true rfl | simp [am_fl, am_cat], ?_⟩
    replace h := am_cond2 h
    rcases h with ⟨hb, h⟩ | h
    · skip
      have hb0 := hb
      have hb0 := am_bq hb0
      subst hb0
      exact am_way_line (qvZ8_isTangent_0 c l F A K h)
    exact h.elim
  · exact h.elim)
def qkZ8_rootsOf : Nat → Option CI := fun pc => cond (Nat.ble 47 pc) none (cond (Nat.ble 20 pc) (cond (Nat.ble 34 pc) (cond (Nat.ble 39 pc) (cond (Nat.ble 43 pc) (cond (Nat.beq pc 43) (some (.invokevirtual 223, 46, [])) (cond (Nat.beq pc 46) (some (.ireturn, 47, [])) (none))) (cond (Nat.beq pc 39) (some (.getfield 43, 42, [])) (cond (Nat.beq pc 42) (some (.iload_n 3, 43, [])) (none)))) (cond (Nat.beq pc 34) (some (.iconst (-1), 35, [])) (cond (Nat.beq pc 35) (some (.goto 11, 38, [46])) (cond (Nat.beq pc 38) (some (.aload_n 0, 39, [])) (none))))) (cond (Nat.ble 25 pc) (cond (Nat.beq pc 25) (some (.getfield 43, 28, [])) (cond (Nat.beq pc 28) (some (.invokevirtual 208, 31, [])) (cond (Nat.beq pc 31) (some (.ifCond .eq 7, 34, [38])) (none)))) (cond (Nat.beq pc 20) (some (.iload_n 2, 21, [])) (cond (Nat.beq pc 21) (some (.invokevirtual 216, 24, [])) (cond (Nat.beq pc 24) (some (.aload_n 0, 25, [])) (none)))))) (cond (Nat.ble 8 pc) (cond (Nat.ble 15 pc) (cond (Nat.ble 18 pc) (cond (Nat.beq pc 18) (some (.aload_n 0, 19, [])) (cond (Nat.beq pc 19) (some (.iload_n 1, 20, [])) (none))) (cond (Nat.beq pc 15) (some (.bipush (-2), 17, [])) (cond (Nat.beq pc 17) (some (.ireturn, 18, [])) (none)))) (cond (Nat.beq pc 8) (some (.iconst 2, 9, [])) (cond (Nat.beq pc 9) (some (.invokestatic 133, 12, [])) (cond (Nat.beq pc 12) (some (.ifCond .ne 6, 15, [18])) (none))))) (cond (Nat.ble 3 pc) (cond (Nat.beq pc 3) (some (.invokevirtual 191, 6, [])) (cond (Nat.beq pc 6) (some (.iload_n 3, 7, [])) (cond (Nat.beq pc 7) (some (.iconst 0, 8, [])) (none)))) (cond (Nat.beq pc 0) (some (.aload_n 0, 1, [])) (cond (Nat.beq pc 1) (some (.iload_n 1, 2, [])) (cond (Nat.beq pc 2) (some (.iload_n 2, 3, [])) (none)))))))
theorem qkZ8_rootsOf_ok : ∀ pc i nx ts, qkZ8_rootsOf pc = some (i, nx, ts) → am_cok cX8_rootsOf pc (i, nx, ts) = true := fun pc i nx ts h => am_tok_ok (n := 47) (by decide +kernel) (fun pc h => by show cond (Nat.ble 47 pc) _ _ = _; rw [Nat.ble_eq_true_of_le h]; rfl) h
def qaZ8_rootsOf : Nat → Option CE := fun k => cond (Nat.beq k 191) (some qeZ8_requireCurveAndLine) (cond (Nat.beq k 133) (some qeX8_isWithin) (cond (Nat.beq k 216) (some qeX8_findRoots) (cond (Nat.beq k 208) (some qeX5_isAllZero) (cond (Nat.beq k 223) (some qeX5_sizeOfKind) (none)))))
theorem qyZ8_rootsOf (l : Launch) : ∀ k e1, qaZ8_rootsOf k = some e1 → am_cal l layX RX8 21 k e1 ∧ ceT e1 = 0 := q_cons ⟨am_calV (ci := 8) (qtZ8_requireCurveAndLine l) qbZ8_requireCurveAndLine (by decide) rfl (am_tb_at 1099 (by decide +kernel) rfl), rfl⟩ (q_cons ⟨am_calS (qtX8_isWithin l) qbX8_isWithin (by decide) rfl (by decide) (am_tb_at 875 (by decide +kernel) rfl), rfl⟩ (q_cons ⟨am_calV (ci := 8) (qtX8_findRoots l) qbX8_findRoots (by decide) rfl (am_tb_at 1123 (by decide +kernel) rfl), rfl⟩ (q_cons ⟨am_calV (ci := 5) (qtX5_isAllZero l) qbX5_isAllZero (by decide) rfl (am_tb_at 960 (by decide +kernel) rfl), rfl⟩ (q_cons ⟨am_calV (ci := 5) (qtX5_sizeOfKind l) qbX5_sizeOfKind (by decide) rfl (am_tb_at 1157 (by decide +kernel) rfl), rfl⟩ (q_nil)))))
def qxZ8_rootsOf : CX := (qkZ8_rootsOf, layX, qfX8, qaZ8_rootsOf, qcX8, qlX8, qmX8, (some .int), false, none, 0, none, fun _ => none)
theorem qzZ8_rootsOf (l : Launch) : am_sta l qxZ8_rootsOf RX8 21 cX8_rootsOf := ⟨qkZ8_rootsOf_ok, layX_ok, qfX8_ok, qcX8_ok, qlX8_ok, am_mthP qmX8_ok (by decide), fun k e1 h => (qyZ8_rootsOf l k e1 h).1⟩
def qsZ8_rootsOf : SP := fun as F A K => match as with
  | [.inr (.inr o), .inl c, .inl l, .inl k] => cond (Nat.beq o 0) ((((0 ≤ c ∧ c < A 2 0) ∧ 0 ≤ l ∧ l < A 2 1) ∧ fgOK (A 2) ∧ (-2147483648 ≤ c ∧ c < 2147483648) ∧ (-2147483648 ≤ l ∧ l < 2147483648) ∧ (-2147483648 ≤ k ∧ k < 2147483648) ∧ rtB (A 2)) ∧ (∀ (G_1 : FF) (B_1 : AA), (qrP F G_1 A B_1) → (K (some (some (vI (if 0 ≤ k ∧ k ≤ 2 then (if azP (cfL (A 2) c l) (Int.toNat (A 2 (18 + c))) then -1 else cntK (ktF (rtsX (A 2) c l)) k (rtsX (A 2) c l).length) else -2)))) G_1 B_1))) (False)
  | _ => False
def qeZ8_rootsOf : CE := (yX8_rootsOf, cX8_rootsOf, 4, (some .int), 3, some 8, 0, none, 0, 21, qsZ8_rootsOf)
theorem qbZ8_rootsOf : am_mb qeZ8_rootsOf := ⟨am_tb_at 1156 (by decide +kernel) rfl, am_tb_at 35 (by decide +kernel) rfl, ⟨by decide, by decide, by decide +kernel⟩, by decide, am_tb_at 1154 (by decide +kernel) rfl, am_tb_at 1155 (by decide +kernel) rfl, _, _, rfl⟩
set_option maxRecDepth 20000 in
theorem qvZ8_rootsOf_0 (c : Int) (l : Int) (k : Int) (F : FF) (A : AA) (K : KK) (h : (((0 ≤ c ∧ c < A 2 0) ∧ 0 ≤ l ∧ l < A 2 1) ∧ fgOK (A 2) ∧ (-2147483648 ≤ c ∧ c < 2147483648) ∧ (-2147483648 ≤ l ∧ l < 2147483648) ∧ (-2147483648 ≤ k ∧ k < 2147483648) ∧ rtB (A 2)) ∧ (∀ (G_1 : FF) (B_1 : AA), (qrP F G_1 A B_1) → (K (some (some (vI (if 0 ≤ k ∧ k ≤ 2 then (if azP (cfL (A 2) c l) (Int.toNat (A 2 (18 + c))) then -1 else cntK (ktF (rtsX (A 2) c l)) k (rtsX (A 2) c l).length) else -2)))) G_1 B_1))) : am_line qxZ8_rootsOf 23 [vR 0, vI c, vI l, vI k] 4 F A K := by
  show am_stp qxZ8_rootsOf (am_run qxZ8_rootsOf (fun _ => none) (fun _ _ _ _ _ _ => False) K 23) K 0 [some (vR 0), some (vI c), some (vI l), some (vI k)] [] F A 0
  obtain ⟨hp, h⟩ := h
  obtain ⟨c1, hp⟩ := hp
  have h := And.intro (fun (_ : (0 ≤ c ∧ c < A 2 0) ∧ 0 ≤ l ∧ l < A 2 1) => h) trivial
  have p1 := hp.1
  have p2' := hp.2
  have q1 := p1.1.1
  have q2 := p1.1.2
  show (((0 ≤ c ∧ c < A 2 0) ∧ 0 ≤ l ∧ l < A 2 1) ∧ (0 ≤ A 2 0 ∧ A 2 0 ≤ 8) ∧ (0 ≤ A 2 1 ∧ A 2 1 ≤ 6) ∧ (-2147483648 ≤ c ∧ c < 2147483648) ∧ (-2147483648 ≤ l ∧ l < 2147483648)) ∧ ((w32 (bi (w32 0 ≤ w32 k ∧ w32 k ≤ w32 2)) = w32 0 → (K (some (some (vI (-2)))) F A)) ∧ (¬ (w32 (bi (w32 0 ≤ w32 k ∧ w32 k ≤ w32 2)) = w32 0) → ((fgOK (A 2) ∧ (0 ≤ c ∧ c < A 2 0) ∧ (0 ≤ l ∧ l < A 2 1) ∧ ((rtsX (A 2) c l).length : Int) ≤ 8) ∧ (∀ (G_1 : FF) (B_1 : AA), (qrP F G_1 A B_1 ∧ rcP G_1 B_1 (A 2) c l (rtsX (A 2) c l)) → ((0 ≤ (G_1 14 4) ∧ (G_1 14 4) ≤ 3) ∧ ((w32 (bi (azP (B_1 15) (Int.toNat ((G_1 14 4) + 1)))) = w32 0 → ((0 ≤ (G_1 14 5) ∧ (G_1 14 5) ≤ 8 ∧ (-2147483648 ≤ k ∧ k < 2147483648) ∧ ∀ i, 0 ≤ i → i < (G_1 14 5) → -1 ≤ B_1 16 i ∧ B_1 16 i ≤ 3) ∧ (K (some (some (vI (cntK (B_1 16) k (Int.toNat ((G_1 14 5))))))) G_1 B_1))) ∧ (¬ w32 (bi (azP (B_1 15) (Int.toNat ((G_1 14 4) + 1)))) = w32 0 → (K (some (some (vI (-1)))) G_1 B_1))))))))
  refine ⟨by (refine ⟨c1, ?_⟩; exact ⟨p1.1.1, p1.1.2, hp.2.1, hp.2.2.1⟩), ?_⟩
  refine ⟨fun c2 => ?_, fun c2 => ?_⟩
  · skip
    (try simp (disch := omega) only [w32_0, wbi0, Classical.not_not, w32_id] at c2)
    exact K_eq (h.1 c1 _ _ qrP_id) (if_neg c2)
  · skip
    (try simp (disch := omega) only [w32_0, wbi0, Classical.not_not, w32_id] at c2)
    refine ⟨by exact ⟨p1, c1.1, c1.2, hp.2.2.2.2 c l c1.1.1 c1.1.2 c1.2.1 c1.2.2⟩, ?_⟩
    intro G_1 B_1 g1
    refine ⟨by (have q3 := (p1.2.2.1 c c1.1.1 c1.1.2).1; rw [g1.2.1]; omega), ?_⟩
    refine ⟨fun c3 => ?_, fun c3 => ?_⟩
    · skip
      (try simp (disch := omega) only [w32_0, wbi0, Classical.not_not, w32_id] at c3)
      refine ⟨by (have q5 := hp.2.2.2.2 c l c1.1.1 c1.1.2 c1.2.1 c1.2.2; exact ⟨by rw [g1.2.2.1]; omega, by rw [g1.2.2.1]; omega, by omega, rc_kd g1.2⟩), ?_⟩
      have q3 := (p1.2.2.1 c c1.1.1 c1.1.2).1
      have az := rc_az g1.2 q3.1
      refine K_eq (h.1 c1 _ _ g1.1) ?_
      rw [if_pos c2, if_neg (fun z => c3 (az.mpr z)), rc_cnt g1.2]
    · skip
      (try simp (disch := omega) only [w32_0, wbi0, Classical.not_not, w32_id] at c3)
      have q3 := (p1.2.2.1 c c1.1.1 c1.1.2).1
      have az := rc_az g1.2 q3.1
      exact K_eq (h.1 c1 _ _ g1.1) (by rw [if_pos c2, if_pos (az.mp c3)])
theorem qtZ8_rootsOf (l : Launch) : am_CT l layX qeZ8_rootsOf := am_met0 rfl (by decide +kernel) rfl rfl rfl rfl rfl (fun _ => rfl) rfl (qzZ8_rootsOf l) (fun k e1 h => (qyZ8_rootsOf l k e1 h).2) (fun as F A K h => by
  replace h : qsZ8_rootsOf as F A K := h
  unfold qsZ8_rootsOf at h
  split at h
  · rename_i o c l k
    refine ⟨by first | exact Nat.le_of_ble_eq_true rfl | simp [am_fl, am_cat], ?_⟩
    replace h := am_cond2 h
    rcases h with ⟨hb, h⟩ | h
    · skip
      have hb0 := hb
      have hb0 := am_bq hb0
      subst hb0
      exact am_way_line (qvZ8_rootsOf_0 c l k F A K h)
    exact h.elim
  · exact h.elim)
def qkZ8_signChanges : Nat → Option CI := fun pc => cond (Nat.ble 43 pc) none (cond (Nat.ble 20 pc) (cond (Nat.ble 32 pc) (cond (Nat.ble 37 pc) (cond (Nat.beq pc 37) (some (.iload 4, 39, [])) (cond (Nat.beq pc 39) (some (.invokevirtual 202, 42, [])) (cond (Nat.beq pc 42) (some (.ireturn, 43, [])) (none)))) (cond (Nat.beq pc 32) (some (.aload_n 0, 33, [])) (cond (Nat.beq pc 33) (some (.getfield 43, 36, [])) (cond (Nat.beq pc 36) (some (.iload_n 3, 37, [])) (none))))) (cond (Nat.ble 27 pc) (cond (Nat.beq pc 27) (some (.iload_n 1, 28, [])) (cond (Nat.beq pc 28) (some (.iload_n 2, 29, [])) (cond (Nat.beq pc 29) (some (.invokevirtual 199, 32, [])) (none)))) (cond (Nat.beq pc 20) (some (.getfield 43, 23, [])) (cond (Nat.beq pc 23) (some (.aload_n 0, 24, [])) (cond (Nat.beq pc 24) (some (.getfield 10, 27, [])) (none)))))) (cond (Nat.ble 9 pc) (cond (Nat.ble 17 pc) (cond (Nat.beq pc 17) (some (.iconst (-1), 18, [])) (cond (Nat.beq pc 18) (some (.ireturn, 19, [])) (cond (Nat.beq pc 19) (some (.aload_n 0, 20, [])) (none)))) (cond (Nat.beq pc 9) (some (.bipush 12, 11, [])) (cond (Nat.beq pc 11) (some (.invokestatic 148, 14, [])) (cond (Nat.beq pc 14) (some (.ifCond .ne 5, 17, [19])) (none))))) (cond (Nat.ble 3 pc) (cond (Nat.beq pc 3) (some (.invokevirtual 191, 6, [])) (cond (Nat.beq pc 6) (some (.iload_n 3, 7, [])) (cond (Nat.beq pc 7) (some (.iload 4, 9, [])) (none)))) (cond (Nat.beq pc 0) (some (.aload_n 0, 1, [])) (cond (Nat.beq pc 1) (some (.iload_n 1, 2, [])) (cond (Nat.beq pc 2) (some (.iload_n 2, 3, [])) (none)))))))
theorem qkZ8_signChanges_ok : ∀ pc i nx ts, qkZ8_signChanges pc = some (i, nx, ts) → am_cok cX8_signChanges pc (i, nx, ts) = true := fun pc i nx ts h => am_tok_ok (n := 43) (by decide +kernel) (fun pc h => by show cond (Nat.ble 43 pc) _ _ = _; rw [Nat.ble_eq_true_of_le h]; rfl) h
def qaZ8_signChanges : Nat → Option CE := fun k => cond (Nat.beq k 191) (some qeZ8_requireCurveAndLine) (cond (Nat.beq k 148) (some qeX8_isCell) (cond (Nat.beq k 199) (some qeX5_begin) (cond (Nat.beq k 202) (some qeX5_changesOfCell) (none))))
theorem qyZ8_signChanges (l : Launch) : ∀ k e1, qaZ8_signChanges k = some e1 → am_cal l layX RX8 11 k e1 ∧ ceT e1 = 0 := q_cons ⟨am_calV (ci := 8) (qtZ8_requireCurveAndLine l) qbZ8_requireCurveAndLine (by decide) rfl (am_tb_at 1099 (by decide +kernel) rfl), rfl⟩ (q_cons ⟨am_calS (qtX8_isCell l) qbX8_isCell (by decide) rfl (by decide) (am_tb_at 992 (by decide +kernel) rfl), rfl⟩ (q_cons ⟨am_calV (ci := 5) (qtX5_begin l) qbX5_begin (by decide) rfl (am_tb_at 942 (by decide +kernel) rfl), rfl⟩ (q_cons ⟨am_calV (ci := 5) (qtX5_changesOfCell l) qbX5_changesOfCell (by decide) rfl (am_tb_at 1226 (by decide +kernel) rfl), rfl⟩ (q_nil))))
def qxZ8_signChanges : CX := (qkZ8_signChanges, layX, qfX8, qaZ8_signChanges, qcX8, qlX8, qmX8, (some .int), false, none, 0, none, fun _ => none)
theorem qzZ8_signChanges (l : Launch) : am_sta l qxZ8_signChanges RX8 11 cX8_signChanges := ⟨qkZ8_signChanges_ok, layX_ok, qfX8_ok, qcX8_ok, qlX8_ok, am_mthP qmX8_ok (by decide), fun k e1 h => (qyZ8_signChanges l k e1 h).1⟩
def qsZ8_signChanges : SP := fun as F A K => match as with
  | [.inr (.inr o), .inl c, .inl l, .inl d, .inl q] => cond (Nat.beq o 0) ((((0 ≤ c ∧ c < A 2 0) ∧ 0 ≤ l ∧ l < A 2 1) ∧ fgOK (A 2) ∧ (-2147483648 ≤ c ∧ c < 2147483648) ∧ (-2147483648 ≤ l ∧ l < 2147483648) ∧ (-2147483648 ≤ d ∧ d < 2147483648) ∧ (-2147483648 ≤ q ∧ q < 2147483648)) ∧ (∀ (G_1 : FF) (B_1 : AA), (qrP F G_1 A B_1) → (K (some (some (vI (if 0 ≤ d ∧ d ≤ 12 ∧ 0 ≤ q ∧ q < p2 d then chg (cellF (cfL (A 2) c l) (A 2 (18 + c) - 1) (Int.toNat d) q) (Int.toNat (A 2 (18 + c))) else -1)))) G_1 B_1))) (False)
  | _ => False
def qeZ8_signChanges : CE := (yX8_signChanges, cX8_signChanges, 5, (some .int), 4, some 8, 0, none, 0, 11, qsZ8_signChanges)
theorem qbZ8_signChanges : am_mb qeZ8_signChanges := ⟨am_tb_at 1225 (by decide +kernel) rfl, am_tb_at 35 (by decide +kernel) rfl, ⟨by decide, by decide, by decide +kernel⟩, by decide, am_tb_at 1223 (by decide +kernel) rfl, am_tb_at 1224 (by decide +kernel) rfl, _, _, rfl⟩
set_option maxRecDepth 20000 in
theorem qvZ8_signChanges_0 (c : Int) (l : Int) (d : Int) (q : Int) (F : FF) (A : AA) (K : KK) (h : (((0 ≤ c ∧ c < A 2 0) ∧ 0 ≤ l ∧ l < A 2 1) ∧ fgOK (A 2) ∧ (-2147483648 ≤ c ∧ c < 2147483648) ∧ (-2147483648 ≤ l ∧ l < 2147483648) ∧ (-2147483648 ≤ d ∧ d < 2147483648) ∧ (-2147483648 ≤ q ∧ q < 2147483648)) ∧ (∀ (G_1 : FF) (B_1 : AA), (qrP F G_1 A B_1) → (K (some (some (vI (if 0 ≤ d ∧ d ≤ 12 ∧ 0 ≤ q ∧ q < p2 d then chg (cellF (cfL (A 2) c l) (A 2 (18 + c) - 1) (Int.toNat d) q) (Int.toNat (A 2 (18 + c))) else -1)))) G_1 B_1))) : am_line qxZ8_signChanges 23 [vR 0, vI c, vI l, vI d, vI q] 5 F A K := by
  show am_stp qxZ8_signChanges (am_run qxZ8_signChanges (fun _ => none) (fun _ _ _ _ _ _ => False) K 23) K 0 [some (vR 0), some (vI c), some (vI l), some (vI d), some (vI q)] [] F A 0
  obtain ⟨hp, h⟩ := h
  obtain ⟨c1, hp⟩ := hp
  have h := And.intro (fun (_ : (0 ≤ c ∧ c < A 2 0) ∧ 0 ≤ l ∧ l < A 2 1) => h) trivial
  have p1 := hp.1
  have p2' := hp.2
  have q1 := p1.1.1
  have q2 := p1.1.2
  show (((0 ≤ c ∧ c < A 2 0) ∧ 0 ≤ l ∧ l < A 2 1) ∧ (0 ≤ A 2 0 ∧ A 2 0 ≤ 8) ∧ (0 ≤ A 2 1 ∧ A 2 1 ≤ 6) ∧ (-2147483648 ≤ c ∧ c < 2147483648) ∧ (-2147483648 ≤ l ∧ l < 2147483648)) ∧ ((0 ≤ 12 ∧ 12 ≤ 12) ∧ ((w32 (bi (0 ≤ w32 d ∧ w32 d ≤ 12 ∧ 0 ≤ w32 q ∧ w32 q < p2 (w32 d))) = w32 0 → (K (some (some (vI (-1)))) F A)) ∧ (¬ (w32 (bi (0 ≤ w32 d ∧ w32 d ≤ 12 ∧ 0 ≤ w32 q ∧ w32 q < p2 (w32 d))) = w32 0) → ((0 ≤ c ∧ c < 8 ∧ 0 ≤ l ∧ l < 6 ∧ 1 ≤ A 2 (18 + c) ∧ A 2 (18 + c) ≤ 4) ∧ (((0 ≤ (A 2 (18 + c) - 1) ∧ (A 2 (18 + c) - 1) ≤ 3) ∧ 0 ≤ d ∧ d ≤ 12 ∧ 0 ≤ q ∧ q < 2147483648) ∧ (∀ (B_1 : AA), (gtP (setR A 15 0 (A 2 (18 + c)) (fun jj => cfX (A 2) c l jj)) B_1 ((A 2 (18 + c) - 1)) d q) → (K (some (some (vI (chg (cellF ((setR A 15 0 (A 2 (18 + c)) (fun jj => cfX (A 2) c l jj)) 15) ((A 2 (18 + c) - 1)) (Int.toNat d) q) (Int.toNat ((A 2 (18 + c) - 1) + 1)))))) (upF F 14 4 (A 2 (18 + c) - 1)) B_1)))))))
  refine ⟨by (refine ⟨c1, ?_⟩; exact ⟨p1.1.1, p1.1.2, hp.2.1, hp.2.2.1⟩), ?_⟩
  refine ⟨by (have q3 := (p1.2.2.1 c c1.1.1 c1.1.2).1; first | omega | (have q4 := p2_12' (k := d) (by omega); omega)), ?_⟩
  refine ⟨fun c2 => ?_, fun c2 => ?_⟩
  · skip
    (try simp (disch := omega) only [w32_0, wbi0, Classical.not_not, w32_id] at c2)
    exact K_eq (h.1 c1 _ _ qrP_id) (if_neg c2)
  · skip
    (try simp (disch := omega) only [w32_0, wbi0, Classical.not_not, w32_id] at c2)
    refine ⟨by (have q3 := (p1.2.2.1 c c1.1.1 c1.1.2).1; first | omega | (have q4 := p2_12' (k := d) (by omega); omega)), ?_⟩
    refine ⟨by (have q3 := (p1.2.2.1 c c1.1.1 c1.1.2).1; first | omega | (have q4 := p2_12' (k := d) (by omega); omega)), ?_⟩
    intro B_1 g1
    have q3 := (p1.2.2.1 c c1.1.1 c1.1.2).1
    have s0 : ∀ k, 0 ≤ k → k < A 2 (18 + c) → setR A 15 0 (A 2 (18 + c)) (fun jj => cfX (A 2) c l jj) 15 k = cfX (A 2) c l k := fun k k0 k1 => by rw [setR_in k0 (by omega), Int.sub_zero]
    have qb : qrP F (upF F 14 4 (A 2 (18 + c) - 1)) A (setR A 15 0 (A 2 (18 + c)) (fun jj => cfX (A 2) c l jj)) := qrP_of (fun a b hab => upF_o (by omega)) (fun b i hb => setR_o (by omega))
    refine K_eq (h.1 c1 _ _ (qrP_trans qb (qrP_of (fun _ _ _ => rfl) (fun b i hb => g1.1 b i (Or.inl (by omega)))))) ?_
    rw [if_pos c2, show A 2 (18 + c) - 1 + 1 = A 2 (18 + c) by omega]
    exact chg_c (fun k k0 k1 => cellF_c (fun i i0 i1 => (s0 i i0 (by omega)).symm) _ _ _ k0 (by omega))
theorem qtZ8_signChanges (l : Launch) : am_CT l layX qeZ8_signChanges := am_met0 rfl (by decide +kernel) rfl rfl rfl rfl rfl (fun _ => rfl) rfl (qzZ8_signChanges l) (fun k e1 h => (qyZ8_signChanges l k e1 h).2) (fun as F A K h => by
  replace h : qsZ8_signChanges as F A K := h
  unfold qsZ8_signChanges at h
  split at h
  · rename_i o c l d q
    refine ⟨by first | exact Nat.le_of_ble_eq_true rfl | simp [am_fl, am_cat], ?_⟩
    replace h := am_cond2 h
    rcases h with ⟨hb, h⟩ | h
    · skip
      have hb0 := hb
      have hb0 := am_bq hb0
      subst hb0
      exact am_way_line (qvZ8_signChanges_0 c l d q F A K h)
    exact h.elim
  · exact h.elim)
def qkZ8_cellControl : Nat → Option CI := fun pc => cond (Nat.ble 73 pc) none (cond (Nat.ble 38 pc) (cond (Nat.ble 55 pc) (cond (Nat.ble 62 pc) (cond (Nat.ble 67 pc) (cond (Nat.beq pc 67) (some (.iload 4, 69, [])) (cond (Nat.beq pc 69) (some (.invokevirtual 160, 72, [])) (cond (Nat.beq pc 72) (some (.lreturn, 73, [])) (none)))) (cond (Nat.beq pc 62) (some (.invokestatic 157, 65, [])) (cond (Nat.beq pc 65) (some (.iload 5, 67, [])) (none)))) (cond (Nat.ble 59 pc) (cond (Nat.beq pc 59) (some (.iload_n 1, 60, [])) (cond (Nat.beq pc 60) (some (.iload_n 2, 61, [])) (cond (Nat.beq pc 61) (some (.iload_n 3, 62, [])) (none)))) (cond (Nat.beq pc 55) (some (.aload_n 0, 56, [])) (cond (Nat.beq pc 56) (some (.getfield 36, 59, [])) (none))))) (cond (Nat.ble 46 pc) (cond (Nat.ble 50 pc) (cond (Nat.beq pc 50) (some (.iload_n 1, 51, [])) (cond (Nat.beq pc 51) (some (.iload_n 2, 52, [])) (cond (Nat.beq pc 52) (some (.invokevirtual 153, 55, [])) (none)))) (cond (Nat.beq pc 46) (some (.aload_n 0, 47, [])) (cond (Nat.beq pc 47) (some (.getfield 10, 50, [])) (none)))) (cond (Nat.ble 42 pc) (cond (Nat.beq pc 42) (some (.aload_n 0, 43, [])) (cond (Nat.beq pc 43) (some (.getfield 36, 46, [])) (none))) (cond (Nat.beq pc 38) (some (.ldc2_w 151, 41, [])) (cond (Nat.beq pc 41) (some (.lreturn, 42, [])) (none)))))) (cond (Nat.ble 16 pc) (cond (Nat.ble 28 pc) (cond (Nat.ble 31 pc) (cond (Nat.beq pc 31) (some (.iconst 2, 32, [])) (cond (Nat.beq pc 32) (some (.invokestatic 133, 35, [])) (cond (Nat.beq pc 35) (some (.ifCond .ne 7, 38, [42])) (none)))) (cond (Nat.beq pc 28) (some (.iload 5, 30, [])) (cond (Nat.beq pc 30) (some (.iconst 0, 31, [])) (none)))) (cond (Nat.ble 20 pc) (cond (Nat.beq pc 20) (some (.iload 4, 22, [])) (cond (Nat.beq pc 22) (some (.invokevirtual 129, 25, [])) (cond (Nat.beq pc 25) (some (.ifCond .eq 13, 28, [38])) (none)))) (cond (Nat.beq pc 16) (some (.getfield 10, 19, [])) (cond (Nat.beq pc 19) (some (.iload_n 1, 20, [])) (none))))) (cond (Nat.ble 6 pc) (cond (Nat.ble 9 pc) (cond (Nat.beq pc 9) (some (.invokestatic 148, 12, [])) (cond (Nat.beq pc 12) (some (.ifCond .eq 26, 15, [38])) (cond (Nat.beq pc 15) (some (.aload_n 0, 16, [])) (none)))) (cond (Nat.beq pc 6) (some (.iload_n 3, 7, [])) (cond (Nat.beq pc 7) (some (.bipush 6, 9, [])) (none)))) (cond (Nat.ble 2 pc) (cond (Nat.beq pc 2) (some (.invokevirtual 123, 5, [])) (cond (Nat.beq pc 5) (some (.iload_n 2, 6, [])) (none))) (cond (Nat.beq pc 0) (some (.aload_n 0, 1, [])) (cond (Nat.beq pc 1) (some (.iload_n 1, 2, [])) (none)))))))
theorem qkZ8_cellControl_ok : ∀ pc i nx ts, qkZ8_cellControl pc = some (i, nx, ts) → am_cok cX8_cellControl pc (i, nx, ts) = true := fun pc i nx ts h => am_tok_ok (n := 73) (by decide +kernel) (fun pc h => by show cond (Nat.ble 73 pc) _ _ = _; rw [Nat.ble_eq_true_of_le h]; rfl) h
def qaZ8_cellControl : Nat → Option CE := fun k => cond (Nat.beq k 123) (some qeZ8_requireCurve) (cond (Nat.beq k 148) (some qeX8_isCell) (cond (Nat.beq k 129) (some qeX2_hasPoint) (cond (Nat.beq k 133) (some qeX8_isWithin) (cond (Nat.beq k 153) (some qeX1_grow) (cond (Nat.beq k 157) (some qeX8_nodeOf) (cond (Nat.beq k 160) (some qeX1_number) (none)))))))
theorem qyZ8_cellControl (l : Launch) : ∀ k e1, qaZ8_cellControl k = some e1 → am_cal l layX RX8 10 k e1 ∧ ceT e1 = 0 := q_cons ⟨am_calV (ci := 8) (qtZ8_requireCurve l) qbZ8_requireCurve (by decide) rfl (am_tb_at 777 (by decide +kernel) rfl), rfl⟩ (q_cons ⟨am_calS (qtX8_isCell l) qbX8_isCell (by decide) rfl (by decide) (am_tb_at 992 (by decide +kernel) rfl), rfl⟩ (q_cons ⟨am_calV (ci := 2) (qtX2_hasPoint l) qbX2_hasPoint (by decide) rfl (am_tb_at 867 (by decide +kernel) rfl), rfl⟩ (q_cons ⟨am_calS (qtX8_isWithin l) qbX8_isWithin (by decide) rfl (by decide) (am_tb_at 875 (by decide +kernel) rfl), rfl⟩ (q_cons ⟨am_calV (ci := 1) (qtX1_grow l) qbX1_grow (by decide) rfl (am_tb_at 996 (by decide +kernel) rfl), rfl⟩ (q_cons ⟨am_calS (qtX8_nodeOf l) qbX8_nodeOf (by decide) rfl (by decide) (am_tb_at 1043 (by decide +kernel) rfl), rfl⟩ (q_cons ⟨am_calV (ci := 1) (qtX1_number l) qbX1_number (by decide) rfl (am_tb_at 1044 (by decide +kernel) rfl), rfl⟩ (q_nil)))))))
def qxZ8_cellControl : CX := (qkZ8_cellControl, layX, qfX8, qaZ8_cellControl, qcX8, qlX8, qmX8, (some .long), false, none, 0, none, fun _ => none)
theorem qzZ8_cellControl (l : Launch) : am_sta l qxZ8_cellControl RX8 10 cX8_cellControl := ⟨qkZ8_cellControl_ok, layX_ok, qfX8_ok, qcX8_ok, qlX8_ok, am_mthP qmX8_ok (by decide), fun k e1 h => (qyZ8_cellControl l k e1 h).1⟩
def qsZ8_cellControl : SP := fun as F A K => match as with
  | [.inr (.inr o), .inl c, .inl d, .inl q, .inl k, .inl w] => cond (Nat.beq o 0) (((0 ≤ c ∧ c < A 2 0) ∧ fgOK (A 2) ∧ (-2147483648 ≤ c ∧ c < 2147483648) ∧ (-2147483648 ≤ d ∧ d < 2147483648) ∧ (-2147483648 ≤ q ∧ q < 2147483648) ∧ (-2147483648 ≤ k ∧ k < 2147483648) ∧ (-2147483648 ≤ w ∧ w < 2147483648) ∧ caAll A) ∧ (∀ (G_1 : FF) (B_1 : AA), (qrP F G_1 A B_1) → (K (some (some (vL (if (0 ≤ d ∧ d ≤ 6 ∧ 0 ≤ q ∧ q < p2 d) ∧ (0 ≤ k ∧ k < A 2 (18 + c)) ∧ 0 ≤ w ∧ w ≤ 2 then ceX (A 2) c d.toNat q w k else -1)))) G_1 B_1))) (False)
  | _ => False
def qeZ8_cellControl : CE := (yX8_cellControl, cX8_cellControl, 6, (some .long), 5, some 8, 0, none, 0, 10, qsZ8_cellControl)
theorem qbZ8_cellControl : am_mb qeZ8_cellControl := ⟨am_tb_at 991 (by decide +kernel) rfl, am_tb_at 35 (by decide +kernel) rfl, ⟨by decide, by decide, by decide +kernel⟩, by decide, am_tb_at 989 (by decide +kernel) rfl, am_tb_at 990 (by decide +kernel) rfl, _, _, rfl⟩
set_option maxRecDepth 20000 in
theorem qvZ8_cellControl_0 (c : Int) (d : Int) (q : Int) (k : Int) (w : Int) (F : FF) (A : AA) (K : KK) (h : ((0 ≤ c ∧ c < A 2 0) ∧ fgOK (A 2) ∧ (-2147483648 ≤ c ∧ c < 2147483648) ∧ (-2147483648 ≤ d ∧ d < 2147483648) ∧ (-2147483648 ≤ q ∧ q < 2147483648) ∧ (-2147483648 ≤ k ∧ k < 2147483648) ∧ (-2147483648 ≤ w ∧ w < 2147483648) ∧ caAll A) ∧ (∀ (G_1 : FF) (B_1 : AA), (qrP F G_1 A B_1) → (K (some (some (vL (if (0 ≤ d ∧ d ≤ 6 ∧ 0 ≤ q ∧ q < p2 d) ∧ (0 ≤ k ∧ k < A 2 (18 + c)) ∧ 0 ≤ w ∧ w ≤ 2 then ceX (A 2) c d.toNat q w k else -1)))) G_1 B_1))) : am_line qxZ8_cellControl 37 [vR 0, vI c, vI d, vI q, vI k, vI w] 6 F A K := by
  show am_stp qxZ8_cellControl (am_run qxZ8_cellControl (fun _ => none) (fun _ _ _ _ _ _ => False) K 37) K 0 [some (vR 0), some (vI c), some (vI d), some (vI q), some (vI k), some (vI w)] [] F A 0
  obtain ⟨hp, h⟩ := h
  obtain ⟨c1, hp⟩ := hp
  have h := And.intro (fun (_ : 0 ≤ c ∧ c < A 2 0) => h) trivial
  have p1 := hp.1
  have p2' := hp.2
  have q1 := p1.1.1
  have q2 := p1.1.2
  show ((0 ≤ c ∧ c < A 2 0) ∧ (0 ≤ A 2 0 ∧ A 2 0 ≤ 8) ∧ (0 ≤ A 2 1 ∧ A 2 1 ≤ 6) ∧ (-2147483648 ≤ c ∧ c < 2147483648)) ∧ ((0 ≤ 6 ∧ 6 ≤ 12) ∧ ((w32 (bi (0 ≤ w32 d ∧ w32 d ≤ 6 ∧ 0 ≤ w32 q ∧ w32 q < p2 (w32 d))) = w32 0 → (K (some (some (vL (-1)))) F A)) ∧ (¬ (w32 (bi (0 ≤ w32 d ∧ w32 d ≤ 6 ∧ 0 ≤ w32 q ∧ w32 q < p2 (w32 d))) = w32 0) → ((w32 (bi (0 ≤ w32 c ∧ w32 c < w32 (fat (A 2) 0) ∧ 0 ≤ w32 k ∧ w32 k < w32 (fat (A 2) (18 + c)))) = w32 0 → (K (some (some (vL (-1)))) F A)) ∧ (¬ (w32 (bi (0 ≤ w32 c ∧ w32 c < w32 (fat (A 2) 0) ∧ 0 ≤ w32 k ∧ w32 k < w32 (fat (A 2) (18 + c)))) = w32 0) → ((w32 (bi (w32 0 ≤ w32 w ∧ w32 w ≤ w32 2)) = w32 0 → (K (some (some (vL (-1)))) F A)) ∧ (¬ (w32 (bi (w32 0 ≤ w32 w ∧ w32 w ≤ w32 2)) = w32 0) → ((0 ≤ c ∧ c < 8 ∧ 2 ≤ A 2 (18 + c) ∧ A 2 (18 + c) ≤ 4 ∧ 0 ≤ d ∧ d ≤ 6 ∧ caOK A c) ∧ (∀ (B_1 : AA), (grQ A B_1 c d) → ((0 ≤ c ∧ c < 8 ∧ 0 ≤ (x_shl 1 d - 1 + q) ∧ (x_shl 1 d - 1 + q) < 127 ∧ 0 ≤ w ∧ w ≤ 2 ∧ 0 ≤ k ∧ k < 4) ∧ (K (some (some (vL (B_1 10 (((c * 127 + (x_shl 1 d - 1 + q)) * 3 + w) * 4 + k))))) F B_1)))))))))))
  refine ⟨by (refine ⟨c1, ?_⟩; exact ⟨p1.1.1, p1.1.2, hp.2.1⟩), ?_⟩
  refine ⟨by (have q3 := (p1.2.2.1 c c1.1 c1.2).1; first | omega | (have n9 := ndr (d := d) (q := q) (by omega) (by omega) (by omega); simp (disch := omega) only [x_shl1, fat_in]; omega) | (simp (disch := omega) only [fat_in]; exact ⟨by omega, by omega, by omega, by omega, by omega, by omega, hp.2.2.2.2.2.2 c c1.1 (by omega)⟩) | exact ⟨by omega, by omega, by omega, by omega, by omega, by omega, hp.2.2.2.2.2.2 c c1.1 (by omega)⟩), ?_⟩
  refine ⟨fun c2 => ?_, fun c2 => ?_⟩
  · skip
    (try simp (disch := omega) only [w32_0, wbi0, Classical.not_not, w32_id] at c2); (try (have q3 := (p1.2.2.1 c c1.1 c1.2).1; simp (disch := omega) only [fat_in, w32_id] at c2))
    have q3 := (p1.2.2.1 c c1.1 c1.2).1
    first
    | exact L_eq (h.1 c1 _ _ qrP_id) (if_neg (by omega))
    | (have hB := grQ_f g1
       refine L_eq (h.1 c1 _ _ (qrP_gr (F := F) (G := F) (fun _ _ _ => rfl) g1)) ?_
       rw [if_pos (by omega), x_shl1 (by omega) (by omega), nd_cell' g1.2.1 g1.2.2.1 (by rw [hB]; omega) (by omega) (by omega) (by omega) (by omega) (by omega) (by omega) (by omega) (by rw [hB]; omega), hB])
  · skip
    (try simp (disch := omega) only [w32_0, wbi0, Classical.not_not, w32_id] at c2); (try (have q3 := (p1.2.2.1 c c1.1 c1.2).1; simp (disch := omega) only [fat_in, w32_id] at c2))
    refine ⟨fun c3 => ?_, fun c3 => ?_⟩
    · skip
      (try simp (disch := omega) only [w32_0, wbi0, Classical.not_not, w32_id] at c3); (try (have q3 := (p1.2.2.1 c c1.1 c1.2).1; simp (disch := omega) only [fat_in, w32_id] at c3))
      have q3 := (p1.2.2.1 c c1.1 c1.2).1
      first
      | exact L_eq (h.1 c1 _ _ qrP_id) (if_neg (by omega))
      | (have hB := grQ_f g1
         refine L_eq (h.1 c1 _ _ (qrP_gr (F := F) (G := F) (fun _ _ _ => rfl) g1)) ?_
         rw [if_pos (by omega), x_shl1 (by omega) (by omega), nd_cell' g1.2.1 g1.2.2.1 (by rw [hB]; omega) (by omega) (by omega) (by omega) (by omega) (by omega) (by omega) (by omega) (by rw [hB]; omega), hB])
    · skip
      (try simp (disch := omega) only [w32_0, wbi0, Classical.not_not, w32_id] at c3); (try (have q3 := (p1.2.2.1 c c1.1 c1.2).1; simp (disch := omega) only [fat_in, w32_id] at c3))
      refine ⟨fun c4 => ?_, fun c4 => ?_⟩
      · skip
        (try simp (disch := omega) only [w32_0, wbi0, Classical.not_not, w32_id] at c4); (try (have q3 := (p1.2.2.1 c c1.1 c1.2).1; simp (disch := omega) only [fat_in, w32_id] at c4))
        have q3 := (p1.2.2.1 c c1.1 c1.2).1
        first
        | exact L_eq (h.1 c1 _ _ qrP_id) (if_neg (by omega))
        | (have hB := grQ_f g1
           refine L_eq (h.1 c1 _ _ (qrP_gr (F := F) (G := F) (fun _ _ _ => rfl) g1)) ?_
           rw [if_pos (by omega), x_shl1 (by omega) (by omega), nd_cell' g1.2.1 g1.2.2.1 (by rw [hB]; omega) (by omega) (by omega) (by omega) (by omega) (by omega) (by omega) (by omega) (by rw [hB]; omega), hB])
      · skip
        (try simp (disch := omega) only [w32_0, wbi0, Classical.not_not, w32_id] at c4); (try (have q3 := (p1.2.2.1 c c1.1 c1.2).1; simp (disch := omega) only [fat_in, w32_id] at c4))
        refine ⟨by (have q3 := (p1.2.2.1 c c1.1 c1.2).1; first | omega | (have n9 := ndr (d := d) (q := q) (by omega) (by omega) (by omega); simp (disch := omega) only [x_shl1, fat_in]; omega) | (simp (disch := omega) only [fat_in]; exact ⟨by omega, by omega, by omega, by omega, by omega, by omega, hp.2.2.2.2.2.2 c c1.1 (by omega)⟩) | exact ⟨by omega, by omega, by omega, by omega, by omega, by omega, hp.2.2.2.2.2.2 c c1.1 (by omega)⟩), ?_⟩
        intro B_1 g1
        refine ⟨by (have q3 := (p1.2.2.1 c c1.1 c1.2).1; first | omega | (have n9 := ndr (d := d) (q := q) (by omega) (by omega) (by omega); simp (disch := omega) only [x_shl1, fat_in]; omega) | (simp (disch := omega) only [fat_in]; exact ⟨by omega, by omega, by omega, by omega, by omega, by omega, hp.2.2.2.2.2.2 c c1.1 (by omega)⟩) | exact ⟨by omega, by omega, by omega, by omega, by omega, by omega, hp.2.2.2.2.2.2 c c1.1 (by omega)⟩), ?_⟩
        have q3 := (p1.2.2.1 c c1.1 c1.2).1
        first
        | exact L_eq (h.1 c1 _ _ qrP_id) (if_neg (by omega))
        | (have hB := grQ_f g1
           refine L_eq (h.1 c1 _ _ (qrP_gr (F := F) (G := F) (fun _ _ _ => rfl) g1)) ?_
           rw [if_pos (by omega), x_shl1 (by omega) (by omega), nd_cell' g1.2.1 g1.2.2.1 (by rw [hB]; omega) (by omega) (by omega) (by omega) (by omega) (by omega) (by omega) (by omega) (by rw [hB]; omega), hB])
theorem qtZ8_cellControl (l : Launch) : am_CT l layX qeZ8_cellControl := am_met0 rfl (by decide +kernel) rfl rfl rfl rfl rfl (fun _ => rfl) rfl (qzZ8_cellControl l) (fun k e1 h => (qyZ8_cellControl l k e1 h).2) (fun as F A K h => by
  replace h : qsZ8_cellControl as F A K := h
  unfold qsZ8_cellControl at h
  split at h
  · rename_i o c d q k w
    refine ⟨by first | exact Nat.le_of_ble_eq_true rfl | simp [am_fl, am_cat], ?_⟩
    replace h := am_cond2 h
    rcases h with ⟨hb, h⟩ | h
    · skip
      have hb0 := hb
      have hb0 := am_bq hb0
      subst hb0
      exact am_way_line (qvZ8_cellControl_0 c d q k w F A K h)
    exact h.elim
  · exact h.elim)
def qkZ8_placeNumerator : Nat → Option CI := fun pc => cond (Nat.ble 24 pc) none (cond (Nat.ble 9 pc) (cond (Nat.ble 18 pc) (cond (Nat.ble 20 pc) (cond (Nat.beq pc 20) (some (.invokevirtual 164, 23, [])) (cond (Nat.beq pc 23) (some (.lreturn, 24, [])) (none))) (cond (Nat.beq pc 18) (some (.iconst 1, 19, [])) (cond (Nat.beq pc 19) (some (.iconst 0, 20, [])) (none)))) (cond (Nat.ble 14 pc) (cond (Nat.beq pc 14) (some (.iconst 0, 15, [])) (cond (Nat.beq pc 15) (some (.goto 4, 18, [19])) (none))) (cond (Nat.beq pc 9) (some (.iload 4, 11, [])) (cond (Nat.beq pc 11) (some (.ifCond .ne 7, 14, [18])) (none))))) (cond (Nat.ble 5 pc) (cond (Nat.ble 7 pc) (cond (Nat.beq pc 7) (some (.iload_n 2, 8, [])) (cond (Nat.beq pc 8) (some (.iload_n 3, 9, [])) (none))) (cond (Nat.beq pc 5) (some (.aload_n 0, 6, [])) (cond (Nat.beq pc 6) (some (.iload_n 1, 7, [])) (none)))) (cond (Nat.beq pc 0) (some (.aload_n 0, 1, [])) (cond (Nat.beq pc 1) (some (.iload_n 1, 2, [])) (cond (Nat.beq pc 2) (some (.invokevirtual 123, 5, [])) (none))))))
theorem qkZ8_placeNumerator_ok : ∀ pc i nx ts, qkZ8_placeNumerator pc = some (i, nx, ts) → am_cok cX8_placeNumerator pc (i, nx, ts) = true := fun pc i nx ts h => am_tok_ok (n := 24) (by decide +kernel) (fun pc h => by show cond (Nat.ble 24 pc) _ _ = _; rw [Nat.ble_eq_true_of_le h]; rfl) h
def qaZ8_placeNumerator : Nat → Option CE := fun k => cond (Nat.beq k 123) (some qeZ8_requireCurve) (cond (Nat.beq k 164) (some qeX8_placePart) (none))
theorem qyZ8_placeNumerator (l : Launch) : ∀ k e1, qaZ8_placeNumerator k = some e1 → am_cal l layX RX8 10 k e1 ∧ ceT e1 = 0 := q_cons ⟨am_calV (ci := 8) (qtZ8_requireCurve l) qbZ8_requireCurve (by decide) rfl (am_tb_at 777 (by decide +kernel) rfl), rfl⟩ (q_cons ⟨am_calV (ci := 8) (qtX8_placePart l) qbX8_placePart (by decide) rfl (am_tb_at 1058 (by decide +kernel) rfl), rfl⟩ (q_nil))
def qxZ8_placeNumerator : CX := (qkZ8_placeNumerator, layX, qfX8, qaZ8_placeNumerator, qcX8, qlX8, qmX8, (some .long), false, none, 0, none, fun _ => none)
theorem qzZ8_placeNumerator (l : Launch) : am_sta l qxZ8_placeNumerator RX8 10 cX8_placeNumerator := ⟨qkZ8_placeNumerator_ok, layX_ok, qfX8_ok, qcX8_ok, qlX8_ok, am_mthP qmX8_ok (by decide), fun k e1 h => (qyZ8_placeNumerator l k e1 h).1⟩
def qsZ8_placeNumerator : SP := fun as F A K => match as with
  | [.inr (.inr o), .inl c, .inl d, .inl q, .inl a] => cond (Nat.beq o 0) (((0 ≤ c ∧ c < A 2 0) ∧ fgOK (A 2) ∧ (-2147483648 ≤ c ∧ c < 2147483648) ∧ (-2147483648 ≤ d ∧ d < 2147483648) ∧ (-2147483648 ≤ q ∧ q < 2147483648) ∧ (-2147483648 ≤ a ∧ a < 2147483648) ∧ caAll A) ∧ (∀ (G_1 : FF) (B_1 : AA), (qrP F G_1 A B_1) → (K (some (some (vL (if 0 ≤ d ∧ d ≤ 6 ∧ 0 ≤ q ∧ q ≤ p2 d then plF (A 2) c d q (if a = 0 then 0 else 1) 0 else -1)))) G_1 B_1))) (False)
  | _ => False
def qeZ8_placeNumerator : CE := (yX8_placeNumerator, cX8_placeNumerator, 5, (some .long), 4, some 8, 0, none, 0, 10, qsZ8_placeNumerator)
theorem qbZ8_placeNumerator : am_mb qeZ8_placeNumerator := ⟨am_tb_at 1057 (by decide +kernel) rfl, am_tb_at 35 (by decide +kernel) rfl, ⟨by decide, by decide, by decide +kernel⟩, by decide, am_tb_at 1055 (by decide +kernel) rfl, am_tb_at 1056 (by decide +kernel) rfl, _, _, rfl⟩
set_option maxRecDepth 20000 in
theorem qvZ8_placeNumerator_0 (c : Int) (d : Int) (q : Int) (a : Int) (F : FF) (A : AA) (K : KK) (h : ((0 ≤ c ∧ c < A 2 0) ∧ fgOK (A 2) ∧ (-2147483648 ≤ c ∧ c < 2147483648) ∧ (-2147483648 ≤ d ∧ d < 2147483648) ∧ (-2147483648 ≤ q ∧ q < 2147483648) ∧ (-2147483648 ≤ a ∧ a < 2147483648) ∧ caAll A) ∧ (∀ (G_1 : FF) (B_1 : AA), (qrP F G_1 A B_1) → (K (some (some (vL (if 0 ≤ d ∧ d ≤ 6 ∧ 0 ≤ q ∧ q ≤ p2 d then plF (A 2) c d q (if a = 0 then 0 else 1) 0 else -1)))) G_1 B_1))) : am_line qxZ8_placeNumerator 15 [vR 0, vI c, vI d, vI q, vI a] 5 F A K := by
  show am_stp qxZ8_placeNumerator (am_run qxZ8_placeNumerator (fun _ => none) (fun _ _ _ _ _ _ => False) K 15) K 0 [some (vR 0), some (vI c), some (vI d), some (vI q), some (vI a)] [] F A 0
  obtain ⟨hp, h⟩ := h
  obtain ⟨c1, hp⟩ := hp
  have h := And.intro (fun (_ : 0 ≤ c ∧ c < A 2 0) => h) trivial
  have p1 := hp.1
  have p2' := hp.2
  have q1 := p1.1.1
  have q2 := p1.1.2
  show ((0 ≤ c ∧ c < A 2 0) ∧ (0 ≤ A 2 0 ∧ A 2 0 ≤ 8) ∧ (0 ≤ A 2 1 ∧ A 2 1 ≤ 6) ∧ (-2147483648 ≤ c ∧ c < 2147483648)) ∧ ((w32 a = w32 0 → ((fgOK (A 2) ∧ (0 ≤ c ∧ c < A 2 0) ∧ (-2147483648 ≤ d ∧ d < 2147483648) ∧ (-2147483648 ≤ q ∧ q < 2147483648) ∧ (0 ≤ 0 ∧ 0 ≤ 1) ∧ (0 = 0 ∨ 0 = 1) ∧ caAll A) ∧ (∀ (G_1 : FF) (B_1 : AA), (qrP F G_1 A B_1) → (K (some (some (vL (if 0 ≤ d ∧ d ≤ 6 ∧ 0 ≤ q ∧ q ≤ p2 d then plF (A 2) c d q 0 0 else -1)))) G_1 B_1)))) ∧ (¬ w32 a = w32 0 → ((fgOK (A 2) ∧ (0 ≤ c ∧ c < A 2 0) ∧ (-2147483648 ≤ d ∧ d < 2147483648) ∧ (-2147483648 ≤ q ∧ q < 2147483648) ∧ (0 ≤ 1 ∧ 1 ≤ 1) ∧ (0 = 0 ∨ 0 = 1) ∧ caAll A) ∧ (∀ (G_1 : FF) (B_1 : AA), (qrP F G_1 A B_1) → (K (some (some (vL (if 0 ≤ d ∧ d ≤ 6 ∧ 0 ≤ q ∧ q ≤ p2 d then plF (A 2) c d q 1 0 else -1)))) G_1 B_1)))))
  refine ⟨by (refine ⟨c1, ?_⟩; exact ⟨p1.1.1, p1.1.2, hp.2.1⟩), ?_⟩
  refine ⟨fun c2 => ?_, fun c2 => ?_⟩
  · skip
    (try simp (disch := omega) only [w32_0, w32_id] at c2)
    refine ⟨by exact ⟨p1, c1, hp.2.2.1, hp.2.2.2.1, by omega, by omega, hp.2.2.2.2.2⟩, ?_⟩
    intro G_1 B_1 g1
    exact L_eq (h.1 c1 _ _ g1) (by rw [if_pos (show a = 0 by omega)])
  · skip
    (try simp (disch := omega) only [w32_0, w32_id] at c2)
    refine ⟨by exact ⟨p1, c1, hp.2.2.1, hp.2.2.2.1, by omega, by omega, hp.2.2.2.2.2⟩, ?_⟩
    intro G_1 B_1 g1
    exact L_eq (h.1 c1 _ _ g1) (by rw [if_neg (show ¬ a = 0 by omega)])
theorem qtZ8_placeNumerator (l : Launch) : am_CT l layX qeZ8_placeNumerator := am_met0 rfl (by decide +kernel) rfl rfl rfl rfl rfl (fun _ => rfl) rfl (qzZ8_placeNumerator l) (fun k e1 h => (qyZ8_placeNumerator l k e1 h).2) (fun as F A K h => by
  replace h : qsZ8_placeNumerator as F A K := h
  unfold qsZ8_placeNumerator at h
  split at h
  · rename_i o c d q a
    refine ⟨by first | exact Nat.le_of_ble_eq_true rfl | simp [am_fl, am_cat], ?_⟩
    replace h := am_cond2 h
    rcases h with ⟨hb, h⟩ | h
    · skip
      have hb0 := hb
      have hb0 := am_bq hb0
      subst hb0
      exact am_way_line (qvZ8_placeNumerator_0 c d q a F A K h)
    exact h.elim
  · exact h.elim)
def qkZ8_placeDenominator : Nat → Option CI := fun pc => cond (Nat.ble 24 pc) none (cond (Nat.ble 9 pc) (cond (Nat.ble 18 pc) (cond (Nat.ble 20 pc) (cond (Nat.beq pc 20) (some (.invokevirtual 164, 23, [])) (cond (Nat.beq pc 23) (some (.lreturn, 24, [])) (none))) (cond (Nat.beq pc 18) (some (.iconst 1, 19, [])) (cond (Nat.beq pc 19) (some (.iconst 1, 20, [])) (none)))) (cond (Nat.ble 14 pc) (cond (Nat.beq pc 14) (some (.iconst 0, 15, [])) (cond (Nat.beq pc 15) (some (.goto 4, 18, [19])) (none))) (cond (Nat.beq pc 9) (some (.iload 4, 11, [])) (cond (Nat.beq pc 11) (some (.ifCond .ne 7, 14, [18])) (none))))) (cond (Nat.ble 5 pc) (cond (Nat.ble 7 pc) (cond (Nat.beq pc 7) (some (.iload_n 2, 8, [])) (cond (Nat.beq pc 8) (some (.iload_n 3, 9, [])) (none))) (cond (Nat.beq pc 5) (some (.aload_n 0, 6, [])) (cond (Nat.beq pc 6) (some (.iload_n 1, 7, [])) (none)))) (cond (Nat.beq pc 0) (some (.aload_n 0, 1, [])) (cond (Nat.beq pc 1) (some (.iload_n 1, 2, [])) (cond (Nat.beq pc 2) (some (.invokevirtual 123, 5, [])) (none))))))
theorem qkZ8_placeDenominator_ok : ∀ pc i nx ts, qkZ8_placeDenominator pc = some (i, nx, ts) → am_cok cX8_placeDenominator pc (i, nx, ts) = true := fun pc i nx ts h => am_tok_ok (n := 24) (by decide +kernel) (fun pc h => by show cond (Nat.ble 24 pc) _ _ = _; rw [Nat.ble_eq_true_of_le h]; rfl) h
def qaZ8_placeDenominator : Nat → Option CE := fun k => cond (Nat.beq k 123) (some qeZ8_requireCurve) (cond (Nat.beq k 164) (some qeX8_placePart) (none))
theorem qyZ8_placeDenominator (l : Launch) : ∀ k e1, qaZ8_placeDenominator k = some e1 → am_cal l layX RX8 10 k e1 ∧ ceT e1 = 0 := q_cons ⟨am_calV (ci := 8) (qtZ8_requireCurve l) qbZ8_requireCurve (by decide) rfl (am_tb_at 777 (by decide +kernel) rfl), rfl⟩ (q_cons ⟨am_calV (ci := 8) (qtX8_placePart l) qbX8_placePart (by decide) rfl (am_tb_at 1058 (by decide +kernel) rfl), rfl⟩ (q_nil))
def qxZ8_placeDenominator : CX := (qkZ8_placeDenominator, layX, qfX8, qaZ8_placeDenominator, qcX8, qlX8, qmX8, (some .long), false, none, 0, none, fun _ => none)
theorem qzZ8_placeDenominator (l : Launch) : am_sta l qxZ8_placeDenominator RX8 10 cX8_placeDenominator := ⟨qkZ8_placeDenominator_ok, layX_ok, qfX8_ok, qcX8_ok, qlX8_ok, am_mthP qmX8_ok (by decide), fun k e1 h => (qyZ8_placeDenominator l k e1 h).1⟩
def qsZ8_placeDenominator : SP := fun as F A K => match as with
  | [.inr (.inr o), .inl c, .inl d, .inl q, .inl a] => cond (Nat.beq o 0) (((0 ≤ c ∧ c < A 2 0) ∧ fgOK (A 2) ∧ (-2147483648 ≤ c ∧ c < 2147483648) ∧ (-2147483648 ≤ d ∧ d < 2147483648) ∧ (-2147483648 ≤ q ∧ q < 2147483648) ∧ (-2147483648 ≤ a ∧ a < 2147483648) ∧ caAll A) ∧ (∀ (G_1 : FF) (B_1 : AA), (qrP F G_1 A B_1) → (K (some (some (vL (if 0 ≤ d ∧ d ≤ 6 ∧ 0 ≤ q ∧ q ≤ p2 d then plF (A 2) c d q (if a = 0 then 0 else 1) 1 else -1)))) G_1 B_1))) (False)
  | _ => False
def qeZ8_placeDenominator : CE := (yX8_placeDenominator, cX8_placeDenominator, 5, (some .long), 4, some 8, 0, none, 0, 10, qsZ8_placeDenominator)
theorem qbZ8_placeDenominator : am_mb qeZ8_placeDenominator := ⟨am_tb_at 1068 (by decide +kernel) rfl, am_tb_at 35 (by decide +kernel) rfl, ⟨by decide, by decide, by decide +kernel⟩, by decide, am_tb_at 1066 (by decide +kernel) rfl, am_tb_at 1067 (by decide +kernel) rfl, _, _, rfl⟩
set_option maxRecDepth 20000 in
theorem qvZ8_placeDenominator_0 (c : Int) (d : Int) (q : Int) (a : Int) (F : FF) (A : AA) (K : KK) (h : ((0 ≤ c ∧ c < A 2 0) ∧ fgOK (A 2) ∧ (-2147483648 ≤ c ∧ c < 2147483648) ∧ (-2147483648 ≤ d ∧ d < 2147483648) ∧ (-2147483648 ≤ q ∧ q < 2147483648) ∧ (-2147483648 ≤ a ∧ a < 2147483648) ∧ caAll A) ∧ (∀ (G_1 : FF) (B_1 : AA), (qrP F G_1 A B_1) → (K (some (some (vL (if 0 ≤ d ∧ d ≤ 6 ∧ 0 ≤ q ∧ q ≤ p2 d then plF (A 2) c d q (if a = 0 then 0 else 1) 1 else -1)))) G_1 B_1))) : am_line qxZ8_placeDenominator 15 [vR 0, vI c, vI d, vI q, vI a] 5 F A K := by
  show am_stp qxZ8_placeDenominator (am_run qxZ8_placeDenominator (fun _ => none) (fun _ _ _ _ _ _ => False) K 15) K 0 [some (vR 0), some (vI c), some (vI d), some (vI q), some (vI a)] [] F A 0
  obtain ⟨hp, h⟩ := h
  obtain ⟨c1, hp⟩ := hp
  have h := And.intro (fun (_ : 0 ≤ c ∧ c < A 2 0) => h) trivial
  have p1 := hp.1
  have p2' := hp.2
  have q1 := p1.1.1
  have q2 := p1.1.2
  show ((0 ≤ c ∧ c < A 2 0) ∧ (0 ≤ A 2 0 ∧ A 2 0 ≤ 8) ∧ (0 ≤ A 2 1 ∧ A 2 1 ≤ 6) ∧ (-2147483648 ≤ c ∧ c < 2147483648)) ∧ ((w32 a = w32 0 → ((fgOK (A 2) ∧ (0 ≤ c ∧ c < A 2 0) ∧ (-2147483648 ≤ d ∧ d < 2147483648) ∧ (-2147483648 ≤ q ∧ q < 2147483648) ∧ (0 ≤ 0 ∧ 0 ≤ 1) ∧ (1 = 0 ∨ 1 = 1) ∧ caAll A) ∧ (∀ (G_1 : FF) (B_1 : AA), (qrP F G_1 A B_1) → (K (some (some (vL (if 0 ≤ d ∧ d ≤ 6 ∧ 0 ≤ q ∧ q ≤ p2 d then plF (A 2) c d q 0 1 else -1)))) G_1 B_1)))) ∧ (¬ w32 a = w32 0 → ((fgOK (A 2) ∧ (0 ≤ c ∧ c < A 2 0) ∧ (-2147483648 ≤ d ∧ d < 2147483648) ∧ (-2147483648 ≤ q ∧ q < 2147483648) ∧ (0 ≤ 1 ∧ 1 ≤ 1) ∧ (1 = 0 ∨ 1 = 1) ∧ caAll A) ∧ (∀ (G_1 : FF) (B_1 : AA), (qrP F G_1 A B_1) → (K (some (some (vL (if 0 ≤ d ∧ d ≤ 6 ∧ 0 ≤ q ∧ q ≤ p2 d then plF (A 2) c d q 1 1 else -1)))) G_1 B_1)))))
  refine ⟨by (refine ⟨c1, ?_⟩; exact ⟨p1.1.1, p1.1.2, hp.2.1⟩), ?_⟩
  refine ⟨fun c2 => ?_, fun c2 => ?_⟩
  · skip
    (try simp (disch := omega) only [w32_0, w32_id] at c2)
    refine ⟨by exact ⟨p1, c1, hp.2.2.1, hp.2.2.2.1, by omega, by omega, hp.2.2.2.2.2⟩, ?_⟩
    intro G_1 B_1 g1
    exact L_eq (h.1 c1 _ _ g1) (by rw [if_pos (show a = 0 by omega)])
  · skip
    (try simp (disch := omega) only [w32_0, w32_id] at c2)
    refine ⟨by exact ⟨p1, c1, hp.2.2.1, hp.2.2.2.1, by omega, by omega, hp.2.2.2.2.2⟩, ?_⟩
    intro G_1 B_1 g1
    exact L_eq (h.1 c1 _ _ g1) (by rw [if_neg (show ¬ a = 0 by omega)])
theorem qtZ8_placeDenominator (l : Launch) : am_CT l layX qeZ8_placeDenominator := am_met0 rfl (by decide +kernel) rfl rfl rfl rfl rfl (fun _ => rfl) rfl (qzZ8_placeDenominator l) (fun k e1 h => (qyZ8_placeDenominator l k e1 h).2) (fun as F A K h => by
  replace h : qsZ8_placeDenominator as F A K := h
  unfold qsZ8_placeDenominator at h
  split at h
  · rename_i o c d q a
    refine ⟨by first | exact Nat.le_of_ble_eq_true rfl | simp [am_fl, am_cat], ?_⟩
    replace h := am_cond2 h
    rcases h with ⟨hb, h⟩ | h
    · skip
      have hb0 := hb
      have hb0 := am_bq hb0
      subst hb0
      exact am_way_line (qvZ8_placeDenominator_0 c d q a F A K h)
    exact h.elim
  · exact h.elim)
def qkZ8_boxSide : Nat → Option CI := fun pc => cond (Nat.ble 141 pc) none (cond (Nat.ble 73 pc) (cond (Nat.ble 109 pc) (cond (Nat.ble 126 pc) (cond (Nat.ble 135 pc) (cond (Nat.ble 138 pc) (cond (Nat.beq pc 138) (some (.ldiv, 139, [])) (cond (Nat.beq pc 139) (some (.l2i, 140, [])) (cond (Nat.beq pc 140) (some (.ireturn, 141, [])) (none)))) (cond (Nat.beq pc 135) (some (.lsub, 136, [])) (cond (Nat.beq pc 136) (some (.lload 9, 138, [])) (none)))) (cond (Nat.ble 131 pc) (cond (Nat.beq pc 131) (some (.lload 9, 133, [])) (cond (Nat.beq pc 133) (some (.ladd, 134, [])) (cond (Nat.beq pc 134) (some (.lconst 1, 135, [])) (none)))) (cond (Nat.beq pc 126) (some (.goto 13, 129, [139])) (cond (Nat.beq pc 129) (some (.lload 7, 131, [])) (none))))) (cond (Nat.ble 117 pc) (cond (Nat.ble 121 pc) (cond (Nat.beq pc 121) (some (.lload 7, 123, [])) (cond (Nat.beq pc 123) (some (.lload 9, 125, [])) (cond (Nat.beq pc 125) (some (.ldiv, 126, [])) (none)))) (cond (Nat.beq pc 117) (some (.iconst 2, 118, [])) (cond (Nat.beq pc 118) (some (.if_icmp .ge 11, 121, [129])) (none)))) (cond (Nat.ble 113 pc) (cond (Nat.beq pc 113) (some (.iconst (-1), 114, [])) (cond (Nat.beq pc 114) (some (.ireturn, 115, [])) (cond (Nat.beq pc 115) (some (.iload 4, 117, [])) (none)))) (cond (Nat.beq pc 109) (some (.lcmp, 110, [])) (cond (Nat.beq pc 110) (some (.ifCond .gt 5, 113, [115])) (none)))))) (cond (Nat.ble 91 pc) (cond (Nat.ble 99 pc) (cond (Nat.ble 104 pc) (cond (Nat.beq pc 104) (some (.lstore 9, 106, [])) (cond (Nat.beq pc 106) (some (.lload 9, 108, [])) (cond (Nat.beq pc 108) (some (.lconst 0, 109, [])) (none)))) (cond (Nat.beq pc 99) (some (.iload 6, 101, [])) (cond (Nat.beq pc 101) (some (.invokevirtual 160, 104, [])) (none)))) (cond (Nat.ble 95 pc) (cond (Nat.beq pc 95) (some (.iload_n 1, 96, [])) (cond (Nat.beq pc 96) (some (.iload 5, 98, [])) (cond (Nat.beq pc 98) (some (.iconst 2, 99, [])) (none)))) (cond (Nat.beq pc 91) (some (.aload_n 0, 92, [])) (cond (Nat.beq pc 92) (some (.getfield 36, 95, [])) (none))))) (cond (Nat.ble 82 pc) (cond (Nat.ble 85 pc) (cond (Nat.beq pc 85) (some (.invokevirtual 160, 88, [])) (cond (Nat.beq pc 88) (some (.lmul, 89, [])) (cond (Nat.beq pc 89) (some (.lstore 7, 91, [])) (none)))) (cond (Nat.beq pc 82) (some (.iconst 1, 83, [])) (cond (Nat.beq pc 83) (some (.iload 6, 85, [])) (none)))) (cond (Nat.ble 75 pc) (cond (Nat.beq pc 75) (some (.ifCond .ne 7, 78, [82])) (cond (Nat.beq pc 78) (some (.iconst 0, 79, [])) (cond (Nat.beq pc 79) (some (.goto 4, 82, [83])) (none)))) (cond (Nat.beq pc 73) (some (.iconst 2, 74, [])) (cond (Nat.beq pc 74) (some (.irem, 75, [])) (none))))))) (cond (Nat.ble 35 pc) (cond (Nat.ble 52 pc) (cond (Nat.ble 64 pc) (cond (Nat.ble 68 pc) (cond (Nat.beq pc 68) (some (.iload_n 1, 69, [])) (cond (Nat.beq pc 69) (some (.iload 5, 71, [])) (cond (Nat.beq pc 71) (some (.iload 4, 73, [])) (none)))) (cond (Nat.beq pc 64) (some (.aload_n 0, 65, [])) (cond (Nat.beq pc 65) (some (.getfield 36, 68, [])) (none)))) (cond (Nat.ble 56 pc) (cond (Nat.beq pc 56) (some (.invokevirtual 172, 59, [])) (cond (Nat.beq pc 59) (some (.istore 6, 61, [])) (cond (Nat.beq pc 61) (some (.ldc2_w 175, 64, [])) (none)))) (cond (Nat.beq pc 52) (some (.iload 5, 54, [])) (cond (Nat.beq pc 54) (some (.iload 4, 56, [])) (none))))) (cond (Nat.ble 42 pc) (cond (Nat.ble 47 pc) (cond (Nat.beq pc 47) (some (.aload_n 0, 48, [])) (cond (Nat.beq pc 48) (some (.getfield 36, 51, [])) (cond (Nat.beq pc 51) (some (.iload_n 1, 52, [])) (none)))) (cond (Nat.beq pc 42) (some (.invokestatic 157, 45, [])) (cond (Nat.beq pc 45) (some (.istore 5, 47, [])) (none)))) (cond (Nat.ble 37 pc) (cond (Nat.beq pc 37) (some (.invokevirtual 153, 40, [])) (cond (Nat.beq pc 40) (some (.iload_n 2, 41, [])) (cond (Nat.beq pc 41) (some (.iload_n 3, 42, [])) (none)))) (cond (Nat.beq pc 35) (some (.iload_n 1, 36, [])) (cond (Nat.beq pc 36) (some (.iload_n 2, 37, [])) (none)))))) (cond (Nat.ble 17 pc) (cond (Nat.ble 26 pc) (cond (Nat.ble 28 pc) (cond (Nat.beq pc 28) (some (.getfield 36, 31, [])) (cond (Nat.beq pc 31) (some (.aload_n 0, 32, [])) (cond (Nat.beq pc 32) (some (.getfield 10, 35, [])) (none)))) (cond (Nat.beq pc 26) (some (.ireturn, 27, [])) (cond (Nat.beq pc 27) (some (.aload_n 0, 28, [])) (none)))) (cond (Nat.ble 19 pc) (cond (Nat.beq pc 19) (some (.invokestatic 133, 22, [])) (cond (Nat.beq pc 22) (some (.ifCond .ne 5, 25, [27])) (cond (Nat.beq pc 25) (some (.iconst (-1), 26, [])) (none)))) (cond (Nat.beq pc 17) (some (.iconst 0, 18, [])) (cond (Nat.beq pc 18) (some (.iconst 3, 19, [])) (none))))) (cond (Nat.ble 6 pc) (cond (Nat.ble 9 pc) (cond (Nat.beq pc 9) (some (.invokestatic 148, 12, [])) (cond (Nat.beq pc 12) (some (.ifCond .eq 13, 15, [25])) (cond (Nat.beq pc 15) (some (.iload 4, 17, [])) (none)))) (cond (Nat.beq pc 6) (some (.iload_n 3, 7, [])) (cond (Nat.beq pc 7) (some (.bipush 6, 9, [])) (none)))) (cond (Nat.ble 2 pc) (cond (Nat.beq pc 2) (some (.invokevirtual 123, 5, [])) (cond (Nat.beq pc 5) (some (.iload_n 2, 6, [])) (none))) (cond (Nat.beq pc 0) (some (.aload_n 0, 1, [])) (cond (Nat.beq pc 1) (some (.iload_n 1, 2, [])) (none))))))))
theorem qkZ8_boxSide_ok : ∀ pc i nx ts, qkZ8_boxSide pc = some (i, nx, ts) → am_cok cX8_boxSide pc (i, nx, ts) = true := fun pc i nx ts h => am_tok_ok (n := 141) (by decide +kernel) (fun pc h => by show cond (Nat.ble 141 pc) _ _ = _; rw [Nat.ble_eq_true_of_le h]; rfl) h
def qaZ8_boxSide : Nat → Option CE := fun k => cond (Nat.beq k 123) (some qeZ8_requireCurve) (cond (Nat.beq k 148) (some qeX8_isCell) (cond (Nat.beq k 133) (some qeX8_isWithin) (cond (Nat.beq k 153) (some qeX1_grow) (cond (Nat.beq k 157) (some qeX8_nodeOf) (cond (Nat.beq k 172) (some qeX1_extreme) (cond (Nat.beq k 160) (some qeX1_number) (none)))))))
theorem qyZ8_boxSide (l : Launch) : ∀ k e1, qaZ8_boxSide k = some e1 → am_cal l layX RX8 10 k e1 ∧ ceT e1 = 0 := q_cons ⟨am_calV (ci := 8) (qtZ8_requireCurve l) qbZ8_requireCurve (by decide) rfl (am_tb_at 777 (by decide +kernel) rfl), rfl⟩ (q_cons ⟨am_calS (qtX8_isCell l) qbX8_isCell (by decide) rfl (by decide) (am_tb_at 992 (by decide +kernel) rfl), rfl⟩ (q_cons ⟨am_calS (qtX8_isWithin l) qbX8_isWithin (by decide) rfl (by decide) (am_tb_at 875 (by decide +kernel) rfl), rfl⟩ (q_cons ⟨am_calV (ci := 1) (qtX1_grow l) qbX1_grow (by decide) rfl (am_tb_at 996 (by decide +kernel) rfl), rfl⟩ (q_cons ⟨am_calS (qtX8_nodeOf l) qbX8_nodeOf (by decide) rfl (by decide) (am_tb_at 1043 (by decide +kernel) rfl), rfl⟩ (q_cons ⟨am_calV (ci := 1) (qtX1_extreme l) qbX1_extreme (by decide) rfl (am_tb_at 1073 (by decide +kernel) rfl), rfl⟩ (q_cons ⟨am_calV (ci := 1) (qtX1_number l) qbX1_number (by decide) rfl (am_tb_at 1044 (by decide +kernel) rfl), rfl⟩ (q_nil)))))))
def qxZ8_boxSide : CX := (qkZ8_boxSide, layX, qfX8, qaZ8_boxSide, qcX8, qlX8, qmX8, (some .int), false, none, 0, none, fun _ => none)
theorem qzZ8_boxSide (l : Launch) : am_sta l qxZ8_boxSide RX8 10 cX8_boxSide := ⟨qkZ8_boxSide_ok, layX_ok, qfX8_ok, qcX8_ok, qlX8_ok, am_mthP qmX8_ok (by decide), fun k e1 h => (qyZ8_boxSide l k e1 h).1⟩
def qsZ8_boxSide : SP := fun as F A K => match as with
  | [.inr (.inr o), .inl c, .inl d, .inl q, .inl s] => cond (Nat.beq o 0) (((0 ≤ c ∧ c < A 2 0) ∧ fgOK (A 2) ∧ (-2147483648 ≤ c ∧ c < 2147483648) ∧ (-2147483648 ≤ d ∧ d < 2147483648) ∧ (-2147483648 ≤ q ∧ q < 2147483648) ∧ (-2147483648 ≤ s ∧ s < 2147483648) ∧ caAll A) ∧ (∀ (G_1 : FF) (B_1 : AA), (qrP F G_1 A B_1) → (K (some (some (vI (if (0 ≤ d ∧ d ≤ 6 ∧ 0 ≤ q ∧ q < p2 d) ∧ 0 ≤ s ∧ s ≤ 3 then bxF (A 2) c d q s else -1)))) G_1 B_1))) (False)
  | _ => False
def qeZ8_boxSide : CE := (yX8_boxSide, cX8_boxSide, 11, (some .int), 4, some 8, 0, none, 0, 10, qsZ8_boxSide)
theorem qbZ8_boxSide : am_mb qeZ8_boxSide := ⟨am_tb_at 1072 (by decide +kernel) rfl, am_tb_at 35 (by decide +kernel) rfl, ⟨by decide, by decide, by decide +kernel⟩, by decide, am_tb_at 1070 (by decide +kernel) rfl, am_tb_at 1071 (by decide +kernel) rfl, _, _, rfl⟩
set_option maxRecDepth 20000 in
theorem qvZ8_boxSide_0 (c : Int) (d : Int) (q : Int) (s : Int) (F : FF) (A : AA) (K : KK) (h : ((0 ≤ c ∧ c < A 2 0) ∧ fgOK (A 2) ∧ (-2147483648 ≤ c ∧ c < 2147483648) ∧ (-2147483648 ≤ d ∧ d < 2147483648) ∧ (-2147483648 ≤ q ∧ q < 2147483648) ∧ (-2147483648 ≤ s ∧ s < 2147483648) ∧ caAll A) ∧ (∀ (G_1 : FF) (B_1 : AA), (qrP F G_1 A B_1) → (K (some (some (vI (if (0 ≤ d ∧ d ≤ 6 ∧ 0 ≤ q ∧ q < p2 d) ∧ 0 ≤ s ∧ s ≤ 3 then bxF (A 2) c d q s else -1)))) G_1 B_1))) : am_line qxZ8_boxSide 71 [vR 0, vI c, vI d, vI q, vI s] 11 F A K := by
  show am_stp qxZ8_boxSide (am_run qxZ8_boxSide (fun _ => none) (fun _ _ _ _ _ _ => False) K 71) K 0 [some (vR 0), some (vI c), some (vI d), some (vI q), some (vI s), none, none, none, none, none, none] [] F A 0
  obtain ⟨hp, h⟩ := h
  obtain ⟨c1, hp⟩ := hp
  have h := And.intro (fun (_ : 0 ≤ c ∧ c < A 2 0) => h) trivial
  have p1 := hp.1
  have p2' := hp.2
  have q1 := p1.1.1
  have q2 := p1.1.2
  show ((0 ≤ c ∧ c < A 2 0) ∧ (0 ≤ A 2 0 ∧ A 2 0 ≤ 8) ∧ (0 ≤ A 2 1 ∧ A 2 1 ≤ 6) ∧ (-2147483648 ≤ c ∧ c < 2147483648)) ∧ ((0 ≤ 6 ∧ 6 ≤ 12) ∧ ((w32 (bi (0 ≤ w32 d ∧ w32 d ≤ 6 ∧ 0 ≤ w32 q ∧ w32 q < p2 (w32 d))) = w32 0 → (K (some (some (vI (-1)))) F A)) ∧ (¬ (w32 (bi (0 ≤ w32 d ∧ w32 d ≤ 6 ∧ 0 ≤ w32 q ∧ w32 q < p2 (w32 d))) = w32 0) → ((w32 (bi (w32 0 ≤ w32 s ∧ w32 s ≤ w32 3)) = w32 0 → (K (some (some (vI (-1)))) F A)) ∧ (¬ (w32 (bi (w32 0 ≤ w32 s ∧ w32 s ≤ w32 3)) = w32 0) → ((0 ≤ c ∧ c < 8 ∧ 2 ≤ A 2 (18 + c) ∧ A 2 (18 + c) ≤ 4 ∧ 0 ≤ d ∧ d ≤ 6 ∧ caOK A c) ∧ (∀ (B_1 : AA), (grQ A B_1 c d) → ((0 ≤ c ∧ c < 8 ∧ 0 ≤ (x_shl 1 d - 1 + q) ∧ (x_shl 1 d - 1 + q) < 127 ∧ 0 ≤ s ∧ s < 4) ∧ ((w32 2 ≠ 0) ∧ ((w32 (x_rem s 2) = w32 0 → ((0 ≤ c ∧ c < 8 ∧ 0 ≤ (x_shl 1 d - 1 + q) ∧ (x_shl 1 d - 1 + q) < 127 ∧ 0 ≤ 0 ∧ 0 ≤ 2 ∧ 0 ≤ (B_1 11 ((c * 127 + (x_shl 1 d - 1 + q)) * 4 + s)) ∧ (B_1 11 ((c * 127 + (x_shl 1 d - 1 + q)) * 4 + s)) < 4) ∧ ((0 ≤ c ∧ c < 8 ∧ 0 ≤ (x_shl 1 d - 1 + q) ∧ (x_shl 1 d - 1 + q) < 127 ∧ 0 ≤ 2 ∧ 2 ≤ 2 ∧ 0 ≤ (B_1 11 ((c * 127 + (x_shl 1 d - 1 + q)) * 4 + s)) ∧ (B_1 11 ((c * 127 + (x_shl 1 d - 1 + q)) * 4 + s)) < 4) ∧ ((w32 0 < w32 (y_cmp (B_1 10 (((c * 127 + (x_shl 1 d - 1 + q)) * 3 + 2) * 4 + (B_1 11 ((c * 127 + (x_shl 1 d - 1 + q)) * 4 + s)))) 0) → ((w32 s < w32 2 → ((w64 (B_1 10 (((c * 127 + (x_shl 1 d - 1 + q)) * 3 + 2) * 4 + (B_1 11 ((c * 127 + (x_shl 1 d - 1 + q)) * 4 + s)))) ≠ 0) ∧ (K (some (some (vI (y_div (100 * (B_1 10 (((c * 127 + (x_shl 1 d - 1 + q)) * 3 + 0) * 4 + (B_1 11 ((c * 127 + (x_shl 1 d - 1 + q)) * 4 + s))))) (B_1 10 (((c * 127 + (x_shl 1 d - 1 + q)) * 3 + 2) * 4 + (B_1 11 ((c * 127 + (x_shl 1 d - 1 + q)) * 4 + s)))))))) F B_1))) ∧ (¬ w32 s < w32 2 → ((w64 (B_1 10 (((c * 127 + (x_shl 1 d - 1 + q)) * 3 + 2) * 4 + (B_1 11 ((c * 127 + (x_shl 1 d - 1 + q)) * 4 + s)))) ≠ 0) ∧ (K (some (some (vI (y_div (((100 * (B_1 10 (((c * 127 + (x_shl 1 d - 1 + q)) * 3 + 0) * 4 + (B_1 11 ((c * 127 + (x_shl 1 d - 1 + q)) * 4 + s))))) + (B_1 10 (((c * 127 + (x_shl 1 d - 1 + q)) * 3 + 2) * 4 + (B_1 11 ((c * 127 + (x_shl 1 d - 1 + q)) * 4 + s))))) - 1) (B_1 10 (((c * 127 + (x_shl 1 d - 1 + q)) * 3 + 2) * 4 + (B_1 11 ((c * 127 + (x_shl 1 d - 1 + q)) * 4 + s)))))))) F B_1))))) ∧ (¬ w32 0 < w32 (y_cmp (B_1 10 (((c * 127 + (x_shl 1 d - 1 + q)) * 3 + 2) * 4 + (B_1 11 ((c * 127 + (x_shl 1 d - 1 + q)) * 4 + s)))) 0) → (K (some (some (vI (-1)))) F B_1)))))) ∧ (¬ w32 (x_rem s 2) = w32 0 → ((0 ≤ c ∧ c < 8 ∧ 0 ≤ (x_shl 1 d - 1 + q) ∧ (x_shl 1 d - 1 + q) < 127 ∧ 0 ≤ 1 ∧ 1 ≤ 2 ∧ 0 ≤ (B_1 11 ((c * 127 + (x_shl 1 d - 1 + q)) * 4 + s)) ∧ (B_1 11 ((c * 127 + (x_shl 1 d - 1 + q)) * 4 + s)) < 4) ∧ ((0 ≤ c ∧ c < 8 ∧ 0 ≤ (x_shl 1 d - 1 + q) ∧ (x_shl 1 d - 1 + q) < 127 ∧ 0 ≤ 2 ∧ 2 ≤ 2 ∧ 0 ≤ (B_1 11 ((c * 127 + (x_shl 1 d - 1 + q)) * 4 + s)) ∧ (B_1 11 ((c * 127 + (x_shl 1 d - 1 + q)) * 4 + s)) < 4) ∧ ((w32 0 < w32 (y_cmp (B_1 10 (((c * 127 + (x_shl 1 d - 1 + q)) * 3 + 2) * 4 + (B_1 11 ((c * 127 + (x_shl 1 d - 1 + q)) * 4 + s)))) 0) → ((w32 s < w32 2 → ((w64 (B_1 10 (((c * 127 + (x_shl 1 d - 1 + q)) * 3 + 2) * 4 + (B_1 11 ((c * 127 + (x_shl 1 d - 1 + q)) * 4 + s)))) ≠ 0) ∧ (K (some (some (vI (y_div (100 * (B_1 10 (((c * 127 + (x_shl 1 d - 1 + q)) * 3 + 1) * 4 + (B_1 11 ((c * 127 + (x_shl 1 d - 1 + q)) * 4 + s))))) (B_1 10 (((c * 127 + (x_shl 1 d - 1 + q)) * 3 + 2) * 4 + (B_1 11 ((c * 127 + (x_shl 1 d - 1 + q)) * 4 + s)))))))) F B_1))) ∧ (¬ w32 s < w32 2 → ((w64 (B_1 10 (((c * 127 + (x_shl 1 d - 1 + q)) * 3 + 2) * 4 + (B_1 11 ((c * 127 + (x_shl 1 d - 1 + q)) * 4 + s)))) ≠ 0) ∧ (K (some (some (vI (y_div (((100 * (B_1 10 (((c * 127 + (x_shl 1 d - 1 + q)) * 3 + 1) * 4 + (B_1 11 ((c * 127 + (x_shl 1 d - 1 + q)) * 4 + s))))) + (B_1 10 (((c * 127 + (x_shl 1 d - 1 + q)) * 3 + 2) * 4 + (B_1 11 ((c * 127 + (x_shl 1 d - 1 + q)) * 4 + s))))) - 1) (B_1 10 (((c * 127 + (x_shl 1 d - 1 + q)) * 3 + 2) * 4 + (B_1 11 ((c * 127 + (x_shl 1 d - 1 + q)) * 4 + s)))))))) F B_1))))) ∧ (¬ w32 0 < w32 (y_cmp (B_1 10 (((c * 127 + (x_shl 1 d - 1 + q)) * 3 + 2) * 4 + (B_1 11 ((c * 127 + (x_shl 1 d - 1 + q)) * 4 + s)))) 0) → (K (some (some (vI (-1)))) F B_1))))))))))))))))
  refine ⟨by (refine ⟨c1, ?_⟩; exact ⟨p1.1.1, p1.1.2, hp.2.1⟩), ?_⟩
  refine ⟨by (have q3 := (p1.2.2.1 c c1.1 c1.2).1; first | exact ⟨by decide, by decide⟩ | exact ⟨by omega, by omega, by omega, by omega, by omega, by omega, hp.2.2.2.2.2 c c1.1 (by omega)⟩ | (simp only [esh]; have n9 := ndr (d := d) (q := q) (by omega) (by omega) (by omega); omega) | (rw [w64_id (by omega) (by omega)]; omega) | decide | omega), ?_⟩
  refine ⟨fun c2 => ?_, fun c2 => ?_⟩
  · skip
    (try simp (disch := omega) only [w32_0, wbi0, Classical.not_not, w32_id] at c2); (try (have P6 := p2_le (show d ≤ 6 by omega); rw [p2_6] at P6)); (try (have P7 := @p2_pos d)); (try simp (disch := omega) only [x_shl1, x_rem_eq, w32_0, w64_0, wbi0, Classical.not_not, w32_id, yc_eq0, yc_gt0, yc_lt0, w64_id] at c2)
    have q3 := (p1.2.2.1 c c1.1 c1.2).1
    first
    | exact K_eq (h.1 c1 _ _ qrP_id) (if_neg (by omega))
    | (exfalso; omega)
    | (refine K_eq (h.1 c1 _ _ qG) ?_
       rw [if_pos (by omega), y_div_eq (by omega) (by omega) (by omega) (by omega)]
       unfold bxF
       rw [hK, hW]
       first
       | (rw [if_pos (show s < 2 by omega), show s % 2 = 0 by omega, hX]; done)
       | (rw [if_pos (show s < 2 by omega), show s % 2 = 1 by omega, hY]; done)
       | (rw [if_neg (show ¬ s < 2 by omega), show s % 2 = 0 by omega, hX]; done)
       | (rw [if_neg (show ¬ s < 2 by omega), show s % 2 = 1 by omega, hY]; done))
  · skip
    (try simp (disch := omega) only [w32_0, wbi0, Classical.not_not, w32_id] at c2); (try (have P6 := p2_le (show d ≤ 6 by omega); rw [p2_6] at P6)); (try (have P7 := @p2_pos d)); (try simp (disch := omega) only [x_shl1, x_rem_eq, w32_0, w64_0, wbi0, Classical.not_not, w32_id, yc_eq0, yc_gt0, yc_lt0, w64_id] at c2)
    refine ⟨fun c3 => ?_, fun c3 => ?_⟩
    · skip
      (try simp (disch := omega) only [w32_0, wbi0, Classical.not_not, w32_id] at c3); (try (have P6 := p2_le (show d ≤ 6 by omega); rw [p2_6] at P6)); (try (have P7 := @p2_pos d)); (try simp (disch := omega) only [x_shl1, x_rem_eq, w32_0, w64_0, wbi0, Classical.not_not, w32_id, yc_eq0, yc_gt0, yc_lt0, w64_id] at c3)
      have q3 := (p1.2.2.1 c c1.1 c1.2).1
      first
      | exact K_eq (h.1 c1 _ _ qrP_id) (if_neg (by omega))
      | (exfalso; omega)
      | (refine K_eq (h.1 c1 _ _ qG) ?_
         rw [if_pos (by omega), y_div_eq (by omega) (by omega) (by omega) (by omega)]
         unfold bxF
         rw [hK, hW]
         first
         | (rw [if_pos (show s < 2 by omega), show s % 2 = 0 by omega, hX]; done)
         | (rw [if_pos (show s < 2 by omega), show s % 2 = 1 by omega, hY]; done)
         | (rw [if_neg (show ¬ s < 2 by omega), show s % 2 = 0 by omega, hX]; done)
         | (rw [if_neg (show ¬ s < 2 by omega), show s % 2 = 1 by omega, hY]; done))
    · skip
      (try simp (disch := omega) only [w32_0, wbi0, Classical.not_not, w32_id] at c3); (try (have P6 := p2_le (show d ≤ 6 by omega); rw [p2_6] at P6)); (try (have P7 := @p2_pos d)); (try simp (disch := omega) only [x_shl1, x_rem_eq, w32_0, w64_0, wbi0, Classical.not_not, w32_id, yc_eq0, yc_gt0, yc_lt0, w64_id] at c3)
      refine ⟨by (have q3 := (p1.2.2.1 c c1.1 c1.2).1; first | exact ⟨by decide, by decide⟩ | exact ⟨by omega, by omega, by omega, by omega, by omega, by omega, hp.2.2.2.2.2 c c1.1 (by omega)⟩ | (simp only [esh]; have n9 := ndr (d := d) (q := q) (by omega) (by omega) (by omega); omega) | (rw [w64_id (by omega) (by omega)]; omega) | decide | omega), ?_⟩
      intro B_1 g1
      have hB := grQ_f g1
      have qG := qrP_gr (F := F) (G := F) (fun _ _ _ => rfl) g1
      have hd0 : 0 ≤ d ∧ d ≤ 6 := by omega
      have esh : x_shl 1 d = p2 d := x_shl1 (by omega) (by omega)
      have P6 := p2_le hd0.2
      rw [p2_6] at P6
      have P7 := @p2_pos d
      have q3 := (p1.2.2.1 c c1.1 c1.2).1
      have nd := fun (qq ww kk : Int) (a0 : 0 ≤ qq) (a1 : qq < p2 d) (b0 : 0 ≤ ww) (b1 : ww ≤ 2) (k0 : 0 ≤ kk) (k1 : kk < A 2 (18 + c)) => nd_cell' (k := kk) g1.2.1 g1.2.2.1 (by rw [hB]; omega) (by omega) (by omega) a0 a1 b0 b1 k0 (by rw [hB]; omega)
      have cb := fun (qq ww kk : Int) (b0 : 0 ≤ ww) (b1 : ww ≤ 2) (k0 : 0 ≤ kk) (k1 : kk < A 2 (18 + c)) => ceX_b (q := qq) (d := d.toNat) (w := ww) p1 (by omega) c1.1 c1.2 k0 k1 b0 b1
      have xe := ex_cell' (s := s) (q := q) (d := d) g1.2.1 g1.2.2.1 (by rw [hB]; omega) (by omega) (by omega) (by omega) (by omega) (by omega) (by omega)
      have xb := exX_b (f := A 2) (c := c) (d := d.toNat) (q := q) (s := s) q3.1
      simp only [esh, xe, hB]
      generalize hK : exX (A 2) c d.toNat q s = K1 at xb ⊢
      rw [nd q 2 K1 (by omega) (by omega) (by omega) (by omega) (by omega) (by omega), nd q 0 K1 (by omega) (by omega) (by omega) (by omega) (by omega) (by omega), nd q 1 K1 (by omega) (by omega) (by omega) (by omega) (by omega) (by omega), hB]
      have X0 := cb q 0 K1 (by omega) (by omega) (by omega) (by omega)
      have X1 := cb q 1 K1 (by omega) (by omega) (by omega) (by omega)
      have X2 := (cb q 2 K1 (by omega) (by omega) (by omega) (by omega)).2.2 rfl
      generalize hX : ceX (A 2) c d.toNat q 0 K1 = X at X0 ⊢
      generalize hY : ceX (A 2) c d.toNat q 1 K1 = Y at X1 ⊢
      generalize hW : ceX (A 2) c d.toNat q 2 K1 = W at X2 ⊢
      refine ⟨by (have q3 := (p1.2.2.1 c c1.1 c1.2).1; first | exact ⟨by decide, by decide⟩ | exact ⟨by omega, by omega, by omega, by omega, by omega, by omega, hp.2.2.2.2.2 c c1.1 (by omega)⟩ | (simp only [esh]; have n9 := ndr (d := d) (q := q) (by omega) (by omega) (by omega); omega) | (rw [w64_id (by omega) (by omega)]; omega) | decide | omega), ?_⟩
      refine ⟨by (have q3 := (p1.2.2.1 c c1.1 c1.2).1; first | exact ⟨by decide, by decide⟩ | exact ⟨by omega, by omega, by omega, by omega, by omega, by omega, hp.2.2.2.2.2 c c1.1 (by omega)⟩ | (simp only [esh]; have n9 := ndr (d := d) (q := q) (by omega) (by omega) (by omega); omega) | (rw [w64_id (by omega) (by omega)]; omega) | decide | omega), ?_⟩
      refine ⟨fun c4 => ?_, fun c4 => ?_⟩
      · skip
        (try simp (disch := omega) only [w32_0, wbi0, Classical.not_not, w32_id] at c4); (try (have P6 := p2_le (show d ≤ 6 by omega); rw [p2_6] at P6)); (try (have P7 := @p2_pos d)); (try simp (disch := omega) only [x_shl1, x_rem_eq, w32_0, w64_0, wbi0, Classical.not_not, w32_id, yc_eq0, yc_gt0, yc_lt0, w64_id] at c4)
        refine ⟨by (have q3 := (p1.2.2.1 c c1.1 c1.2).1; first | exact ⟨by decide, by decide⟩ | exact ⟨by omega, by omega, by omega, by omega, by omega, by omega, hp.2.2.2.2.2 c c1.1 (by omega)⟩ | (simp only [esh]; have n9 := ndr (d := d) (q := q) (by omega) (by omega) (by omega); omega) | (rw [w64_id (by omega) (by omega)]; omega) | decide | omega), ?_⟩
        refine ⟨by (have q3 := (p1.2.2.1 c c1.1 c1.2).1; first | exact ⟨by decide, by decide⟩ | exact ⟨by omega, by omega, by omega, by omega, by omega, by omega, hp.2.2.2.2.2 c c1.1 (by omega)⟩ | (simp only [esh]; have n9 := ndr (d := d) (q := q) (by omega) (by omega) (by omega); omega) | (rw [w64_id (by omega) (by omega)]; omega) | decide | omega), ?_⟩
        refine ⟨fun c5 => ?_, fun c5 => ?_⟩
        · skip
          (try simp (disch := omega) only [w32_0, wbi0, Classical.not_not, w32_id] at c5); (try (have P6 := p2_le (show d ≤ 6 by omega); rw [p2_6] at P6)); (try (have P7 := @p2_pos d)); (try simp (disch := omega) only [x_shl1, x_rem_eq, w32_0, w64_0, wbi0, Classical.not_not, w32_id, yc_eq0, yc_gt0, yc_lt0, w64_id] at c5)
          refine ⟨fun c6 => ?_, fun c6 => ?_⟩
          · skip
            (try simp (disch := omega) only [w32_0, wbi0, Classical.not_not, w32_id] at c6); (try (have P6 := p2_le (show d ≤ 6 by omega); rw [p2_6] at P6)); (try (have P7 := @p2_pos d)); (try simp (disch := omega) only [x_shl1, x_rem_eq, w32_0, w64_0, wbi0, Classical.not_not, w32_id, yc_eq0, yc_gt0, yc_lt0, w64_id] at c6)
            refine ⟨by (have q3 := (p1.2.2.1 c c1.1 c1.2).1; first | exact ⟨by decide, by decide⟩ | exact ⟨by omega, by omega, by omega, by omega, by omega, by omega, hp.2.2.2.2.2 c c1.1 (by omega)⟩ | (simp only [esh]; have n9 := ndr (d := d) (q := q) (by omega) (by omega) (by omega); omega) | (rw [w64_id (by omega) (by omega)]; omega) | decide | omega), ?_⟩
            have q3 := (p1.2.2.1 c c1.1 c1.2).1
            first
            | exact K_eq (h.1 c1 _ _ qrP_id) (if_neg (by omega))
            | (exfalso; omega)
            | (refine K_eq (h.1 c1 _ _ qG) ?_
               rw [if_pos (by omega), y_div_eq (by omega) (by omega) (by omega) (by omega)]
               unfold bxF
               rw [hK, hW]
               first
               | (rw [if_pos (show s < 2 by omega), show s % 2 = 0 by omega, hX]; done)
               | (rw [if_pos (show s < 2 by omega), show s % 2 = 1 by omega, hY]; done)
               | (rw [if_neg (show ¬ s < 2 by omega), show s % 2 = 0 by omega, hX]; done)
               | (rw [if_neg (show ¬ s < 2 by omega), show s % 2 = 1 by omega, hY]; done))
          · skip
            (try simp (disch := omega) only [w32_0, wbi0, Classical.not_not, w32_id] at c6); (try (have P6 := p2_le (show d ≤ 6 by omega); rw [p2_6] at P6)); (try (have P7 := @p2_pos d)); (try simp (disch := omega) only [x_shl1, x_rem_eq, w32_0, w64_0, wbi0, Classical.not_not, w32_id, yc_eq0, yc_gt0, yc_lt0, w64_id] at c6)
            refine ⟨by (have q3 := (p1.2.2.1 c c1.1 c1.2).1; first | exact ⟨by decide, by decide⟩ | exact ⟨by omega, by omega, by omega, by omega, by omega, by omega, hp.2.2.2.2.2 c c1.1 (by omega)⟩ | (simp only [esh]; have n9 := ndr (d := d) (q := q) (by omega) (by omega) (by omega); omega) | (rw [w64_id (by omega) (by omega)]; omega) | decide | omega), ?_⟩
            have q3 := (p1.2.2.1 c c1.1 c1.2).1
            first
            | exact K_eq (h.1 c1 _ _ qrP_id) (if_neg (by omega))
            | (exfalso; omega)
            | (refine K_eq (h.1 c1 _ _ qG) ?_
               rw [if_pos (by omega), y_div_eq (by omega) (by omega) (by omega) (by omega)]
               unfold bxF
               rw [hK, hW]
               first
               | (rw [if_pos (show s < 2 by omega), show s % 2 = 0 by omega, hX]; done)
               | (rw [if_pos (show s < 2 by omega), show s % 2 = 1 by omega, hY]; done)
               | (rw [if_neg (show ¬ s < 2 by omega), show s % 2 = 0 by omega, hX]; done)
               | (rw [if_neg (show ¬ s < 2 by omega), show s % 2 = 1 by omega, hY]; done))
        · skip
          (try simp (disch := omega) only [w32_0, wbi0, Classical.not_not, w32_id] at c5); (try (have P6 := p2_le (show d ≤ 6 by omega); rw [p2_6] at P6)); (try (have P7 := @p2_pos d)); (try simp (disch := omega) only [x_shl1, x_rem_eq, w32_0, w64_0, wbi0, Classical.not_not, w32_id, yc_eq0, yc_gt0, yc_lt0, w64_id] at c5)
          have q3 := (p1.2.2.1 c c1.1 c1.2).1
          first
          | exact K_eq (h.1 c1 _ _ qrP_id) (if_neg (by omega))
          | (exfalso; omega)
          | (refine K_eq (h.1 c1 _ _ qG) ?_
             rw [if_pos (by omega), y_div_eq (by omega) (by omega) (by omega) (by omega)]
             unfold bxF
             rw [hK, hW]
             first
             | (rw [if_pos (show s < 2 by omega), show s % 2 = 0 by omega, hX]; done)
             | (rw [if_pos (show s < 2 by omega), show s % 2 = 1 by omega, hY]; done)
             | (rw [if_neg (show ¬ s < 2 by omega), show s % 2 = 0 by omega, hX]; done)
             | (rw [if_neg (show ¬ s < 2 by omega), show s % 2 = 1 by omega, hY]; done))
      · skip
        (try simp (disch := omega) only [w32_0, wbi0, Classical.not_not, w32_id] at c4); (try (have P6 := p2_le (show d ≤ 6 by omega); rw [p2_6] at P6)); (try (have P7 := @p2_pos d)); (try simp (disch := omega) only [x_shl1, x_rem_eq, w32_0, w64_0, wbi0, Classical.not_not, w32_id, yc_eq0, yc_gt0, yc_lt0, w64_id] at c4)
        refine ⟨by (have q3 := (p1.2.2.1 c c1.1 c1.2).1; first | exact ⟨by decide, by decide⟩ | exact ⟨by omega, by omega, by omega, by omega, by omega, by omega, hp.2.2.2.2.2 c c1.1 (by omega)⟩ | (simp only [esh]; have n9 := ndr (d := d) (q := q) (by omega) (by omega) (by omega); omega) | (rw [w64_id (by omega) (by omega)]; omega) | decide | omega), ?_⟩
        refine ⟨by (have q3 := (p1.2.2.1 c c1.1 c1.2).1; first | exact ⟨by decide, by decide⟩ | exact ⟨by omega, by omega, by omega, by omega, by omega, by omega, hp.2.2.2.2.2 c c1.1 (by omega)⟩ | (simp only [esh]; have n9 := ndr (d := d) (q := q) (by omega) (by omega) (by omega); omega) | (rw [w64_id (by omega) (by omega)]; omega) | decide | omega), ?_⟩
        refine ⟨fun c5 => ?_, fun c5 => ?_⟩
        · skip
          (try simp (disch := omega) only [w32_0, wbi0, Classical.not_not, w32_id] at c5); (try (have P6 := p2_le (show d ≤ 6 by omega); rw [p2_6] at P6)); (try (have P7 := @p2_pos d)); (try simp (disch := omega) only [x_shl1, x_rem_eq, w32_0, w64_0, wbi0, Classical.not_not, w32_id, yc_eq0, yc_gt0, yc_lt0, w64_id] at c5)
          refine ⟨fun c6 => ?_, fun c6 => ?_⟩
          · skip
            (try simp (disch := omega) only [w32_0, wbi0, Classical.not_not, w32_id] at c6); (try (have P6 := p2_le (show d ≤ 6 by omega); rw [p2_6] at P6)); (try (have P7 := @p2_pos d)); (try simp (disch := omega) only [x_shl1, x_rem_eq, w32_0, w64_0, wbi0, Classical.not_not, w32_id, yc_eq0, yc_gt0, yc_lt0, w64_id] at c6)
            refine ⟨by (have q3 := (p1.2.2.1 c c1.1 c1.2).1; first | exact ⟨by decide, by decide⟩ | exact ⟨by omega, by omega, by omega, by omega, by omega, by omega, hp.2.2.2.2.2 c c1.1 (by omega)⟩ | (simp only [esh]; have n9 := ndr (d := d) (q := q) (by omega) (by omega) (by omega); omega) | (rw [w64_id (by omega) (by omega)]; omega) | decide | omega), ?_⟩
            have q3 := (p1.2.2.1 c c1.1 c1.2).1
            first
            | exact K_eq (h.1 c1 _ _ qrP_id) (if_neg (by omega))
            | (exfalso; omega)
            | (refine K_eq (h.1 c1 _ _ qG) ?_
               rw [if_pos (by omega), y_div_eq (by omega) (by omega) (by omega) (by omega)]
               unfold bxF
               rw [hK, hW]
               first
               | (rw [if_pos (show s < 2 by omega), show s % 2 = 0 by omega, hX]; done)
               | (rw [if_pos (show s < 2 by omega), show s % 2 = 1 by omega, hY]; done)
               | (rw [if_neg (show ¬ s < 2 by omega), show s % 2 = 0 by omega, hX]; done)
               | (rw [if_neg (show ¬ s < 2 by omega), show s % 2 = 1 by omega, hY]; done))
          · skip
            (try simp (disch := omega) only [w32_0, wbi0, Classical.not_not, w32_id] at c6); (try (have P6 := p2_le (show d ≤ 6 by omega); rw [p2_6] at P6)); (try (have P7 := @p2_pos d)); (try simp (disch := omega) only [x_shl1, x_rem_eq, w32_0, w64_0, wbi0, Classical.not_not, w32_id, yc_eq0, yc_gt0, yc_lt0, w64_id] at c6)
            refine ⟨by (have q3 := (p1.2.2.1 c c1.1 c1.2).1; first | exact ⟨by decide, by decide⟩ | exact ⟨by omega, by omega, by omega, by omega, by omega, by omega, hp.2.2.2.2.2 c c1.1 (by omega)⟩ | (simp only [esh]; have n9 := ndr (d := d) (q := q) (by omega) (by omega) (by omega); omega) | (rw [w64_id (by omega) (by omega)]; omega) | decide | omega), ?_⟩
            have q3 := (p1.2.2.1 c c1.1 c1.2).1
            first
            | exact K_eq (h.1 c1 _ _ qrP_id) (if_neg (by omega))
            | (exfalso; omega)
            | (refine K_eq (h.1 c1 _ _ qG) ?_
               rw [if_pos (by omega), y_div_eq (by omega) (by omega) (by omega) (by omega)]
               unfold bxF
               rw [hK, hW]
               first
               | (rw [if_pos (show s < 2 by omega), show s % 2 = 0 by omega, hX]; done)
               | (rw [if_pos (show s < 2 by omega), show s % 2 = 1 by omega, hY]; done)
               | (rw [if_neg (show ¬ s < 2 by omega), show s % 2 = 0 by omega, hX]; done)
               | (rw [if_neg (show ¬ s < 2 by omega), show s % 2 = 1 by omega, hY]; done))
        · skip
          (try simp (disch := omega) only [w32_0, wbi0, Classical.not_not, w32_id] at c5); (try (have P6 := p2_le (show d ≤ 6 by omega); rw [p2_6] at P6)); (try (have P7 := @p2_pos d)); (try simp (disch := omega) only [x_shl1, x_rem_eq, w32_0, w64_0, wbi0, Classical.not_not, w32_id, yc_eq0, yc_gt0, yc_lt0, w64_id] at c5)
          have q3 := (p1.2.2.1 c c1.1 c1.2).1
          first
          | exact K_eq (h.1 c1 _ _ qrP_id) (if_neg (by omega))
          | (exfalso; omega)
          | (refine K_eq (h.1 c1 _ _ qG) ?_
             rw [if_pos (by omega), y_div_eq (by omega) (by omega) (by omega) (by omega)]
             unfold bxF
             rw [hK, hW]
             first
             | (rw [if_pos (show s < 2 by omega), show s % 2 = 0 by omega, hX]; done)
             | (rw [if_pos (show s < 2 by omega), show s % 2 = 1 by omega, hY]; done)
             | (rw [if_neg (show ¬ s < 2 by omega), show s % 2 = 0 by omega, hX]; done)
             | (rw [if_neg (show ¬ s < 2 by omega), show s % 2 = 1 by omega, hY]; done))
theorem qtZ8_boxSide (l : Launch) : am_CT l layX qeZ8_boxSide := am_met0 rfl (by decide +kernel) rfl rfl rfl rfl rfl (fun _ => rfl) rfl (qzZ8_boxSide l) (fun k e1 h => (qyZ8_boxSide l k e1 h).2) (fun as F A K h => by
  replace h : qsZ8_boxSide as F A K := h
  unfold qsZ8_boxSide at h
  split at h
  · rename_i o c d q s
    refine ⟨by first | exact Nat.le_of_ble_eq_true rfl | simp [am_fl, am_cat], ?_⟩
    replace h := am_cond2 h
    rcases h with ⟨hb, h⟩ | h
    · skip
      have hb0 := hb
      have hb0 := am_bq hb0
      subst hb0
      exact am_way_line (qvZ8_boxSide_0 c d q s F A K h)
    exact h.elim
  · exact h.elim)
