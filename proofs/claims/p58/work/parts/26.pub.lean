def qkX8_requireCurve : Nat → Option CI := fun pc => cond (Nat.ble 23 pc) none (cond (Nat.ble 8 pc) (cond (Nat.ble 14 pc) (cond (Nat.beq pc 14) (some (.dup, 15, [])) (cond (Nat.beq pc 15) (some (.ldc_w 354, 18, [])) (cond (Nat.beq pc 22) (some (.return_, 23, [])) (none)))) (cond (Nat.beq pc 8) (some (.ifCond .ne 14, 11, [22])) (cond (Nat.beq pc 11) (some (.new 352, 14, [])) (none)))) (cond (Nat.ble 4 pc) (cond (Nat.beq pc 4) (some (.iload_n 1, 5, [])) (cond (Nat.beq pc 5) (some (.invokevirtual 320, 8, [])) (none))) (cond (Nat.beq pc 0) (some (.aload_n 0, 1, [])) (cond (Nat.beq pc 1) (some (.getfield 10, 4, [])) (none)))))
theorem qkX8_requireCurve_ok : ∀ pc i nx ts, qkX8_requireCurve pc = some (i, nx, ts) → am_cok cX8_requireCurve pc (i, nx, ts) = true := fun pc i nx ts h => am_tok_ok (n := 23) (by decide +kernel) (fun pc h => by show cond (Nat.ble 23 pc) _ _ = _; rw [Nat.ble_eq_true_of_le h]; rfl) h
def qaX8_requireCurve : Nat → Option CE := fun k => cond (Nat.beq k 320) (some qeX2_hasCurve) (none)
theorem qyX8_requireCurve (l : Launch) (hst : l.stackTraces = false) : ∀ k e1, qaX8_requireCurve k = some e1 → am_cal l layX RX8 9 k e1 ∧ ceT e1 = 0 := q_cons ⟨am_calV (ci := 2) (qtX2_hasCurve l) qbX2_hasCurve (by decide) rfl (am_tb_at 781 (by decide +kernel) rfl), rfl⟩ (q_nil)
def qxX8_requireCurve : CX := (qkX8_requireCurve, layX, qfX8, qaX8_requireCurve, qcX8, qlX8, qmX8, none, true, none, 1, none, fun pc => cond (Nat.beq pc 11) (some (am_thrB 1)) none)
theorem qzX8_requireCurve (l : Launch) (hst : l.stackTraces = false) : am_sta l qxX8_requireCurve RX8 9 cX8_requireCurve := ⟨qkX8_requireCurve_ok, layX_ok, qfX8_ok, qcX8_ok, qlX8_ok, am_mthP qmX8_ok (by decide), fun k e1 h => (qyX8_requireCurve l hst k e1 h).1⟩
def qsX8_requireCurve : SP := fun as F A K => match as with
  | [.inr (.inr o), .inl c] => cond (Nat.beq o 0) (((0 ≤ A 2 0 ∧ A 2 0 ≤ 8) ∧ (0 ≤ A 2 1 ∧ A 2 1 ≤ 6) ∧ (-2147483648 ≤ c ∧ c < 2147483648)) ∧ ((0 ≤ c ∧ c < A 2 0 → (K (some none) F A)) ∧ (¬ (0 ≤ c ∧ c < A 2 0) → (K none F A)))) (False)
  | _ => False
def qeX8_requireCurve : CE := (yX8_requireCurve, cX8_requireCurve, 2, none, 1, some 8, 1, none, 1, 9, qsX8_requireCurve)
theorem qbX8_requireCurve : am_mb qeX8_requireCurve := ⟨am_tb_at 780 (by decide +kernel) rfl, am_tb_at 35 (by decide +kernel) rfl, ⟨by decide, by decide, by decide +kernel⟩, by decide, am_tb_at 779 (by decide +kernel) rfl, am_tb_at 15 (by decide +kernel) rfl, _, _, rfl⟩
set_option maxRecDepth 20000 in
theorem qvX8_requireCurve_0 (c : Int) (F : FF) (A : AA) (K : KK) (h : ((0 ≤ A 2 0 ∧ A 2 0 ≤ 8) ∧ (0 ≤ A 2 1 ∧ A 2 1 ≤ 6) ∧ (-2147483648 ≤ c ∧ c < 2147483648)) ∧ ((0 ≤ c ∧ c < A 2 0 → (K (some none) F A)) ∧ (¬ (0 ≤ c ∧ c < A 2 0) → (K none F A)))) : am_line qxX8_requireCurve 7 [vR 0, vI c] 2 F A K := by
  show am_stp qxX8_requireCurve (am_run qxX8_requireCurve (fun _ => none) (fun _ _ _ _ _ _ => False) K 7) K 0 [some (vR 0), some (vI c)] [] F A 0
  obtain ⟨hp, h⟩ := h
  show (w32 (bi (0 ≤ w32 c ∧ w32 c < w32 (fat (A 2) 0))) = w32 0 → ([] = [] ∧ 0 + 1 ≤ 1 ∧ K none F A)) ∧ (¬ (w32 (bi (0 ≤ w32 c ∧ w32 c < w32 (fat (A 2) 0))) = w32 0) → (K (some none) F A))
  refine ⟨fun c1 => ?_, fun c1 => ?_⟩
  · skip
    (try simp (disch := omega) only [fat_in, w32_0, wbi0, Classical.not_not, w32_id] at c1)
    exact ⟨rfl, by decide, h.2 c1⟩
  · skip
    (try simp (disch := omega) only [fat_in, w32_0, wbi0, Classical.not_not, w32_id] at c1)
    exact h.1 c1
theorem qtX8_requireCurve (l : Launch) (hst : l.stackTraces = false) : am_CT l layX qeX8_requireCurve := am_met1 hst rfl (by decide +kernel) rfl rfl rfl rfl rfl (fun pc b h => by
    replace h : cond (Nat.beq pc 11) (some (am_thrB 1)) none = some b := h
    cases hb : Nat.beq pc 11 with
    | true => rw [hb] at h; cases h; have e := am_bq hb; subst e; exact ⟨rfl, by decide, rfl, Or.inl ⟨by decide +kernel, by decide +kernel, by decide +kernel, by decide +kernel, by decide +kernel⟩⟩
    | false => rw [hb] at h; cases h) rfl (qzX8_requireCurve l hst) (fun as F A K h => by
  replace h : qsX8_requireCurve as F A K := h
  unfold qsX8_requireCurve at h
  split at h
  · rename_i o c
    refine ⟨by first | exact Nat.le_of_ble_eq_true rfl | simp [am_fl, am_cat], ?_⟩
    replace h := am_cond2 h
    rcases h with ⟨hb, h⟩ | h
    · skip
      have hb0 := hb
      have hb0 := am_bq hb0
      subst hb0
      exact am_way_line (qvX8_requireCurve_0 c F A K h)
    exact h.elim
  · exact h.elim)
def qkX8_requireLine : Nat → Option CI := fun pc => cond (Nat.ble 23 pc) none (cond (Nat.ble 8 pc) (cond (Nat.ble 14 pc) (cond (Nat.beq pc 14) (some (.dup, 15, [])) (cond (Nat.beq pc 15) (some (.ldc_w 359, 18, [])) (cond (Nat.beq pc 22) (some (.return_, 23, [])) (none)))) (cond (Nat.beq pc 8) (some (.ifCond .ne 14, 11, [22])) (cond (Nat.beq pc 11) (some (.new 352, 14, [])) (none)))) (cond (Nat.ble 4 pc) (cond (Nat.beq pc 4) (some (.iload_n 1, 5, [])) (cond (Nat.beq pc 5) (some (.invokevirtual 333, 8, [])) (none))) (cond (Nat.beq pc 0) (some (.aload_n 0, 1, [])) (cond (Nat.beq pc 1) (some (.getfield 10, 4, [])) (none)))))
theorem qkX8_requireLine_ok : ∀ pc i nx ts, qkX8_requireLine pc = some (i, nx, ts) → am_cok cX8_requireLine pc (i, nx, ts) = true := fun pc i nx ts h => am_tok_ok (n := 23) (by decide +kernel) (fun pc h => by show cond (Nat.ble 23 pc) _ _ = _; rw [Nat.ble_eq_true_of_le h]; rfl) h
def qaX8_requireLine : Nat → Option CE := fun k => cond (Nat.beq k 333) (some qeX2_hasLine) (none)
theorem qyX8_requireLine (l : Launch) (hst : l.stackTraces = false) : ∀ k e1, qaX8_requireLine k = some e1 → am_cal l layX RX8 9 k e1 ∧ ceT e1 = 0 := q_cons ⟨am_calV (ci := 2) (qtX2_hasLine l) qbX2_hasLine (by decide) rfl (am_tb_at 930 (by decide +kernel) rfl), rfl⟩ (q_nil)
def qxX8_requireLine : CX := (qkX8_requireLine, layX, qfX8, qaX8_requireLine, qcX8, qlX8, qmX8, none, true, none, 1, none, fun pc => cond (Nat.beq pc 11) (some (am_thrB 1)) none)
theorem qzX8_requireLine (l : Launch) (hst : l.stackTraces = false) : am_sta l qxX8_requireLine RX8 9 cX8_requireLine := ⟨qkX8_requireLine_ok, layX_ok, qfX8_ok, qcX8_ok, qlX8_ok, am_mthP qmX8_ok (by decide), fun k e1 h => (qyX8_requireLine l hst k e1 h).1⟩
def qsX8_requireLine : SP := fun as F A K => match as with
  | [.inr (.inr o), .inl c] => cond (Nat.beq o 0) (((0 ≤ A 2 0 ∧ A 2 0 ≤ 8) ∧ (0 ≤ A 2 1 ∧ A 2 1 ≤ 6) ∧ (-2147483648 ≤ c ∧ c < 2147483648)) ∧ ((0 ≤ c ∧ c < A 2 1 → (K (some none) F A)) ∧ (¬ (0 ≤ c ∧ c < A 2 1) → (K none F A)))) (False)
  | _ => False
def qeX8_requireLine : CE := (yX8_requireLine, cX8_requireLine, 2, none, 1, some 8, 1, none, 1, 9, qsX8_requireLine)
theorem qbX8_requireLine : am_mb qeX8_requireLine := ⟨am_tb_at 1092 (by decide +kernel) rfl, am_tb_at 35 (by decide +kernel) rfl, ⟨by decide, by decide, by decide +kernel⟩, by decide, am_tb_at 1091 (by decide +kernel) rfl, am_tb_at 25 (by decide +kernel) rfl, _, _, rfl⟩
set_option maxRecDepth 20000 in
theorem qvX8_requireLine_0 (c : Int) (F : FF) (A : AA) (K : KK) (h : ((0 ≤ A 2 0 ∧ A 2 0 ≤ 8) ∧ (0 ≤ A 2 1 ∧ A 2 1 ≤ 6) ∧ (-2147483648 ≤ c ∧ c < 2147483648)) ∧ ((0 ≤ c ∧ c < A 2 1 → (K (some none) F A)) ∧ (¬ (0 ≤ c ∧ c < A 2 1) → (K none F A)))) : am_line qxX8_requireLine 7 [vR 0, vI c] 2 F A K := by
  show am_stp qxX8_requireLine (am_run qxX8_requireLine (fun _ => none) (fun _ _ _ _ _ _ => False) K 7) K 0 [some (vR 0), some (vI c)] [] F A 0
  obtain ⟨hp, h⟩ := h
  show (w32 (bi (0 ≤ w32 c ∧ w32 c < w32 (fat (A 2) 1))) = w32 0 → ([] = [] ∧ 0 + 1 ≤ 1 ∧ K none F A)) ∧ (¬ (w32 (bi (0 ≤ w32 c ∧ w32 c < w32 (fat (A 2) 1))) = w32 0) → (K (some none) F A))
  refine ⟨fun c1 => ?_, fun c1 => ?_⟩
  · skip
    (try simp (disch := omega) only [fat_in, w32_0, wbi0, Classical.not_not, w32_id] at c1)
    exact ⟨rfl, by decide, h.2 c1⟩
  · skip
    (try simp (disch := omega) only [fat_in, w32_0, wbi0, Classical.not_not, w32_id] at c1)
    exact h.1 c1
theorem qtX8_requireLine (l : Launch) (hst : l.stackTraces = false) : am_CT l layX qeX8_requireLine := am_met1 hst rfl (by decide +kernel) rfl rfl rfl rfl rfl (fun pc b h => by
    replace h : cond (Nat.beq pc 11) (some (am_thrB 1)) none = some b := h
    cases hb : Nat.beq pc 11 with
    | true => rw [hb] at h; cases h; have e := am_bq hb; subst e; exact ⟨rfl, by decide, rfl, Or.inr ⟨by decide +kernel, by decide +kernel, by decide +kernel, by decide +kernel, by decide +kernel⟩⟩
    | false => rw [hb] at h; cases h) rfl (qzX8_requireLine l hst) (fun as F A K h => by
  replace h : qsX8_requireLine as F A K := h
  unfold qsX8_requireLine at h
  split at h
  · rename_i o c
    refine ⟨by first | exact Nat.le_of_ble_eq_true rfl | simp [am_fl, am_cat], ?_⟩
    replace h := am_cond2 h
    rcases h with ⟨hb, h⟩ | h
    · skip
      have hb0 := hb
      have hb0 := am_bq hb0
      subst hb0
      exact am_way_line (qvX8_requireLine_0 c F A K h)
    exact h.elim
  · exact h.elim)
def qkX8_requireCurveAndLine : Nat → Option CI := fun pc => cond (Nat.ble 11 pc) none (cond (Nat.ble 5 pc) (cond (Nat.ble 7 pc) (cond (Nat.beq pc 7) (some (.invokevirtual 141, 10, [])) (cond (Nat.beq pc 10) (some (.return_, 11, [])) (none))) (cond (Nat.beq pc 5) (some (.aload_n 0, 6, [])) (cond (Nat.beq pc 6) (some (.iload_n 2, 7, [])) (none)))) (cond (Nat.beq pc 0) (some (.aload_n 0, 1, [])) (cond (Nat.beq pc 1) (some (.iload_n 1, 2, [])) (cond (Nat.beq pc 2) (some (.invokevirtual 123, 5, [])) (none)))))
theorem qkX8_requireCurveAndLine_ok : ∀ pc i nx ts, qkX8_requireCurveAndLine pc = some (i, nx, ts) → am_cok cX8_requireCurveAndLine pc (i, nx, ts) = true := fun pc i nx ts h => am_tok_ok (n := 11) (by decide +kernel) (fun pc h => by show cond (Nat.ble 11 pc) _ _ = _; rw [Nat.ble_eq_true_of_le h]; rfl) h
def qaX8_requireCurveAndLine : Nat → Option CE := fun k => cond (Nat.beq k 123) (some qeX8_requireCurve) (cond (Nat.beq k 141) (some qeX8_requireLine) (none))
theorem qyX8_requireCurveAndLine (l : Launch) (hst : l.stackTraces = false) : ∀ k e1, qaX8_requireCurveAndLine k = some e1 → am_cal l layX RX8 10 k e1 ∧ True := q_cons ⟨am_calV (ci := 8) (qtX8_requireCurve l hst) qbX8_requireCurve (by decide) rfl (am_tb_at 777 (by decide +kernel) rfl), trivial⟩ (q_cons ⟨am_calV (ci := 8) (qtX8_requireLine l hst) qbX8_requireLine (by decide) rfl (am_tb_at 1089 (by decide +kernel) rfl), trivial⟩ (q_nil))
def qxX8_requireCurveAndLine : CX := (qkX8_requireCurveAndLine, layX, qfX8, qaX8_requireCurveAndLine, qcX8, qlX8, qmX8, none, true, none, 2, none, fun _ => none)
theorem qzX8_requireCurveAndLine (l : Launch) (hst : l.stackTraces = false) : am_sta l qxX8_requireCurveAndLine RX8 10 cX8_requireCurveAndLine := ⟨qkX8_requireCurveAndLine_ok, layX_ok, qfX8_ok, qcX8_ok, qlX8_ok, am_mthP qmX8_ok (by decide), fun k e1 h => (qyX8_requireCurveAndLine l hst k e1 h).1⟩
def qsX8_requireCurveAndLine : SP := fun as F A K => match as with
  | [.inr (.inr o), .inl c, .inl e] => cond (Nat.beq o 0) (((0 ≤ A 2 0 ∧ A 2 0 ≤ 8) ∧ (0 ≤ A 2 1 ∧ A 2 1 ≤ 6) ∧ (-2147483648 ≤ c ∧ c < 2147483648) ∧ (-2147483648 ≤ e ∧ e < 2147483648)) ∧ (((0 ≤ c ∧ c < A 2 0) ∧ 0 ≤ e ∧ e < A 2 1 → (K (some none) F A)) ∧ (¬ ((0 ≤ c ∧ c < A 2 0) ∧ 0 ≤ e ∧ e < A 2 1) → (K none F A)))) (False)
  | _ => False
def qeX8_requireCurveAndLine : CE := (yX8_requireCurveAndLine, cX8_requireCurveAndLine, 3, none, 2, some 8, 1, none, 2, 10, qsX8_requireCurveAndLine)
theorem qbX8_requireCurveAndLine : am_mb qeX8_requireCurveAndLine := ⟨am_tb_at 1102 (by decide +kernel) rfl, am_tb_at 35 (by decide +kernel) rfl, ⟨by decide, by decide, by decide +kernel⟩, by decide, am_tb_at 1101 (by decide +kernel) rfl, am_tb_at 26 (by decide +kernel) rfl, _, _, rfl⟩
set_option maxRecDepth 20000 in
theorem qvX8_requireCurveAndLine_0 (c : Int) (e : Int) (F : FF) (A : AA) (K : KK) (h : ((0 ≤ A 2 0 ∧ A 2 0 ≤ 8) ∧ (0 ≤ A 2 1 ∧ A 2 1 ≤ 6) ∧ (-2147483648 ≤ c ∧ c < 2147483648) ∧ (-2147483648 ≤ e ∧ e < 2147483648)) ∧ (((0 ≤ c ∧ c < A 2 0) ∧ 0 ≤ e ∧ e < A 2 1 → (K (some none) F A)) ∧ (¬ ((0 ≤ c ∧ c < A 2 0) ∧ 0 ≤ e ∧ e < A 2 1) → (K none F A)))) : am_line qxX8_requireCurveAndLine 8 [vR 0, vI c, vI e] 3 F A K := by
  show am_stp qxX8_requireCurveAndLine (am_run qxX8_requireCurveAndLine (fun _ => none) (fun _ _ _ _ _ _ => False) K 8) K 0 [some (vR 0), some (vI c), some (vI e)] [] F A 0
  obtain ⟨hp, h⟩ := h
  show ((0 ≤ A 2 0 ∧ A 2 0 ≤ 8) ∧ (0 ≤ A 2 1 ∧ A 2 1 ≤ 6) ∧ (-2147483648 ≤ c ∧ c < 2147483648)) ∧ ((0 ≤ c ∧ c < A 2 0 → (((0 ≤ A 2 0 ∧ A 2 0 ≤ 8) ∧ (0 ≤ A 2 1 ∧ A 2 1 ≤ 6) ∧ (-2147483648 ≤ e ∧ e < 2147483648)) ∧ ((0 ≤ e ∧ e < A 2 1 → (K (some none) F A)) ∧ (¬ (0 ≤ e ∧ e < A 2 1) → (K none F A))))) ∧ (¬ (0 ≤ c ∧ c < A 2 0) → (K none F A)))
  refine ⟨by first | exact ⟨hp.1, hp.2.1, hp.2.2.1⟩ | exact ⟨hp.1, hp.2.1, hp.2.2.2⟩, ?_⟩
  refine ⟨fun c1 => ?_, fun c1 => ?_⟩
  · skip
    skip
    refine ⟨by first | exact ⟨hp.1, hp.2.1, hp.2.2.1⟩ | exact ⟨hp.1, hp.2.1, hp.2.2.2⟩, ?_⟩
    refine ⟨fun c2 => ?_, fun c2 => ?_⟩
    · skip
      skip
      exact h.1 ⟨c1, c2⟩
    · skip
      skip
      exact h.2 (fun z => c2 z.2)
  · skip
    skip
    exact h.2 (fun z => c1 z.1)
theorem qtX8_requireCurveAndLine (l : Launch) (hst : l.stackTraces = false) : am_CT l layX qeX8_requireCurveAndLine := am_met1 hst rfl (by decide +kernel) rfl rfl rfl rfl rfl (fun _ _ h => by cases h) rfl (qzX8_requireCurveAndLine l hst) (fun as F A K h => by
  replace h : qsX8_requireCurveAndLine as F A K := h
  unfold qsX8_requireCurveAndLine at h
  split at h
  · rename_i o c e
    refine ⟨by first | exact Nat.le_of_ble_eq_true rfl | simp [am_fl, am_cat], ?_⟩
    replace h := am_cond2 h
    rcases h with ⟨hb, h⟩ | h
    · skip
      have hb0 := hb
      have hb0 := am_bq hb0
      subst hb0
      exact am_way_line (qvX8_requireCurveAndLine_0 c e F A K h)
    exact h.elim
  · exact h.elim)
def qkX8_degree : Nat → Option CI := fun pc => cond (Nat.ble 14 pc) none (cond (Nat.ble 6 pc) (cond (Nat.ble 10 pc) (cond (Nat.beq pc 10) (some (.invokevirtual 126, 13, [])) (cond (Nat.beq pc 13) (some (.ireturn, 14, [])) (none))) (cond (Nat.beq pc 6) (some (.getfield 10, 9, [])) (cond (Nat.beq pc 9) (some (.iload_n 1, 10, [])) (none)))) (cond (Nat.ble 2 pc) (cond (Nat.beq pc 2) (some (.invokevirtual 123, 5, [])) (cond (Nat.beq pc 5) (some (.aload_n 0, 6, [])) (none))) (cond (Nat.beq pc 0) (some (.aload_n 0, 1, [])) (cond (Nat.beq pc 1) (some (.iload_n 1, 2, [])) (none)))))
theorem qkX8_degree_ok : ∀ pc i nx ts, qkX8_degree pc = some (i, nx, ts) → am_cok cX8_degree pc (i, nx, ts) = true := fun pc i nx ts h => am_tok_ok (n := 14) (by decide +kernel) (fun pc h => by show cond (Nat.ble 14 pc) _ _ = _; rw [Nat.ble_eq_true_of_le h]; rfl) h
def qaX8_degree : Nat → Option CE := fun k => cond (Nat.beq k 123) (some qeX8_requireCurve) (cond (Nat.beq k 126) (some qeX2_top) (none))
theorem qyX8_degree (l : Launch) (hst : l.stackTraces = false) : ∀ k e1, qaX8_degree k = some e1 → am_cal l layX RX8 10 k e1 ∧ True := q_cons ⟨am_calV (ci := 8) (qtX8_requireCurve l hst) qbX8_requireCurve (by decide) rfl (am_tb_at 777 (by decide +kernel) rfl), trivial⟩ (q_cons ⟨am_calV (ci := 2) (qtX2_top l) qbX2_top (by decide) rfl (am_tb_at 850 (by decide +kernel) rfl), trivial⟩ (q_nil))
def qxX8_degree : CX := (qkX8_degree, layX, qfX8, qaX8_degree, qcX8, qlX8, qmX8, (some .int), true, none, 1, none, fun _ => none)
theorem qzX8_degree (l : Launch) (hst : l.stackTraces = false) : am_sta l qxX8_degree RX8 10 cX8_degree := ⟨qkX8_degree_ok, layX_ok, qfX8_ok, qcX8_ok, qlX8_ok, am_mthP qmX8_ok (by decide), fun k e1 h => (qyX8_degree l hst k e1 h).1⟩
def qsX8_degree : SP := fun as F A K => match as with
  | [.inr (.inr o), .inl c] => cond (Nat.beq o 0) (((0 ≤ A 2 0 ∧ A 2 0 ≤ 8) ∧ (0 ≤ A 2 1 ∧ A 2 1 ≤ 6) ∧ (-2147483648 ≤ c ∧ c < 2147483648)) ∧ ((0 ≤ c ∧ c < A 2 0 → (K (some (some (vI (A 2 (18 + c) - 1)))) F A)) ∧ (¬ (0 ≤ c ∧ c < A 2 0) → (K none F A)))) (False)
  | _ => False
def qeX8_degree : CE := (yX8_degree, cX8_degree, 2, (some .int), 1, some 8, 1, none, 1, 10, qsX8_degree)
theorem qbX8_degree : am_mb qeX8_degree := ⟨am_tb_at 776 (by decide +kernel) rfl, am_tb_at 35 (by decide +kernel) rfl, ⟨by decide, by decide, by decide +kernel⟩, by decide, am_tb_at 774 (by decide +kernel) rfl, am_tb_at 775 (by decide +kernel) rfl, _, _, rfl⟩
set_option maxRecDepth 20000 in
theorem qvX8_degree_0 (c : Int) (F : FF) (A : AA) (K : KK) (h : ((0 ≤ A 2 0 ∧ A 2 0 ≤ 8) ∧ (0 ≤ A 2 1 ∧ A 2 1 ≤ 6) ∧ (-2147483648 ≤ c ∧ c < 2147483648)) ∧ ((0 ≤ c ∧ c < A 2 0 → (K (some (some (vI (A 2 (18 + c) - 1)))) F A)) ∧ (¬ (0 ≤ c ∧ c < A 2 0) → (K none F A)))) : am_line qxX8_degree 9 [vR 0, vI c] 2 F A K := by
  show am_stp qxX8_degree (am_run qxX8_degree (fun _ => none) (fun _ _ _ _ _ _ => False) K 9) K 0 [some (vR 0), some (vI c)] [] F A 0
  obtain ⟨hp, h⟩ := h
  show ((0 ≤ A 2 0 ∧ A 2 0 ≤ 8) ∧ (0 ≤ A 2 1 ∧ A 2 1 ≤ 6) ∧ (-2147483648 ≤ c ∧ c < 2147483648)) ∧ ((0 ≤ c ∧ c < A 2 0 → (K (some (some (vI (fat (A 2) (18 + c) - 1)))) F A)) ∧ (¬ (0 ≤ c ∧ c < A 2 0) → (K none F A)))
  refine ⟨by exact hp, ?_⟩
  refine ⟨fun c1 => ?_, fun c1 => ?_⟩
  · skip
    skip
    simp (disch := omega) only [fat_in]
    exact h.1 c1
  · skip
    skip
    exact h.2 c1
theorem qtX8_degree (l : Launch) (hst : l.stackTraces = false) : am_CT l layX qeX8_degree := am_met1 hst rfl (by decide +kernel) rfl rfl rfl rfl rfl (fun _ _ h => by cases h) rfl (qzX8_degree l hst) (fun as F A K h => by
  replace h : qsX8_degree as F A K := h
  unfold qsX8_degree at h
  split at h
  · rename_i o c
    refine ⟨by first | exact Nat.le_of_ble_eq_true rfl | simp [am_fl, am_cat], ?_⟩
    replace h := am_cond2 h
    rcases h with ⟨hb, h⟩ | h
    · skip
      have hb0 := hb
      have hb0 := am_bq hb0
      subst hb0
      exact am_way_line (qvX8_degree_0 c F A K h)
    exact h.elim
  · exact h.elim)
