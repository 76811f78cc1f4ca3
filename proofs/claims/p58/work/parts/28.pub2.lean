def qkX8_curveCount : Nat → Option CI := fun pc => cond (Nat.ble 8 pc) none (cond (Nat.ble 4 pc) (cond (Nat.beq pc 4) (some (.invokevirtual 100, 7, [])) (cond (Nat.beq pc 7) (some (.ireturn, 8, [])) (none))) (cond (Nat.beq pc 0) (some (.aload_n 0, 1, [])) (cond (Nat.beq pc 1) (some (.getfield 10, 4, [])) (none))))
theorem qkX8_curveCount_ok : ∀ pc i nx ts, qkX8_curveCount pc = some (i, nx, ts) → am_cok cX8_curveCount pc (i, nx, ts) = true := fun pc i nx ts h => am_tok_ok (n := 8) (by decide +kernel) (fun pc h => by show cond (Nat.ble 8 pc) _ _ = _; rw [Nat.ble_eq_true_of_le h]; rfl) h
def qaX8_curveCount : Nat → Option CE := fun k => cond (Nat.beq k 100) (some qeX2_curves) (none)
theorem qyX8_curveCount (l : Launch) : ∀ k e1, qaX8_curveCount k = some e1 → am_cal l layX RX8 5 k e1 ∧ ceT e1 = 0 := q_cons ⟨am_calV (ci := 2) (qtX2_curves l) qbX2_curves (by decide) rfl (am_tb_at 772 (by decide +kernel) rfl), rfl⟩ (q_nil)
def qxX8_curveCount : CX := (qkX8_curveCount, layX, qfX8, qaX8_curveCount, qcX8, qlX8, qmX8, (some .int), false, none, 0, none, fun _ => none)
theorem qzX8_curveCount (l : Launch) : am_sta l qxX8_curveCount RX8 5 cX8_curveCount := ⟨qkX8_curveCount_ok, layX_ok, qfX8_ok, qcX8_ok, qlX8_ok, am_mthP qmX8_ok (by decide), fun k e1 h => (qyX8_curveCount l k e1 h).1⟩
def qsX8_curveCount : SP := fun as F A K => match as with
  | [.inr (.inr o)] => cond (Nat.beq o 0) (K (some (some (vI (A 2 0)))) F A) (False)
  | _ => False
def qeX8_curveCount : CE := (yX8_curveCount, cX8_curveCount, 1, (some .int), 0, some 8, 0, none, 0, 5, qsX8_curveCount)
theorem qbX8_curveCount : am_mb qeX8_curveCount := ⟨am_tb_at 771 (by decide +kernel) rfl, am_tb_at 35 (by decide +kernel) rfl, ⟨by decide, by decide, by decide +kernel⟩, by decide, am_tb_at 769 (by decide +kernel) rfl, am_tb_at 770 (by decide +kernel) rfl, _, _, rfl⟩
set_option maxRecDepth 20000 in
theorem qvX8_curveCount_0  (F : FF) (A : AA) (K : KK) (h : K (some (some (vI (A 2 0)))) F A) : am_line qxX8_curveCount 5 [vR 0] 1 F A K := by
  show am_stp qxX8_curveCount (am_run qxX8_curveCount (fun _ => none) (fun _ _ _ _ _ _ => False) K 5) K 0 [some (vR 0)] [] F A 0
  show K (some (some (vI (fat (A 2) 0)))) F A
  rw [fat_in (by omega) (by omega)]; exact h
theorem qtX8_curveCount (l : Launch) : am_CT l layX qeX8_curveCount := am_met0 rfl (by decide +kernel) rfl rfl rfl rfl rfl (fun _ => rfl) rfl (qzX8_curveCount l) (fun k e1 h => (qyX8_curveCount l k e1 h).2) (fun as F A K h => by
  replace h : qsX8_curveCount as F A K := h
  unfold qsX8_curveCount at h
  split at h
  · rename_i o
    refine ⟨by first | exact Nat.le_of_ble_eq_true rfl | simp [am_fl, am_cat], ?_⟩
    replace h := am_cond2 h
    rcases h with ⟨hb, h⟩ | h
    · skip
      have hb0 := hb
      have hb0 := am_bq hb0
      subst hb0
      exact am_way_line (qvX8_curveCount_0  F A K h)
    exact h.elim
  · exact h.elim)
def qkX8_lineCount : Nat → Option CI := fun pc => cond (Nat.ble 8 pc) none (cond (Nat.ble 4 pc) (cond (Nat.beq pc 4) (some (.invokevirtual 103, 7, [])) (cond (Nat.beq pc 7) (some (.ireturn, 8, [])) (none))) (cond (Nat.beq pc 0) (some (.aload_n 0, 1, [])) (cond (Nat.beq pc 1) (some (.getfield 10, 4, [])) (none))))
theorem qkX8_lineCount_ok : ∀ pc i nx ts, qkX8_lineCount pc = some (i, nx, ts) → am_cok cX8_lineCount pc (i, nx, ts) = true := fun pc i nx ts h => am_tok_ok (n := 8) (by decide +kernel) (fun pc h => by show cond (Nat.ble 8 pc) _ _ = _; rw [Nat.ble_eq_true_of_le h]; rfl) h
def qaX8_lineCount : Nat → Option CE := fun k => cond (Nat.beq k 103) (some qeX2_lines) (none)
theorem qyX8_lineCount (l : Launch) : ∀ k e1, qaX8_lineCount k = some e1 → am_cal l layX RX8 5 k e1 ∧ ceT e1 = 0 := q_cons ⟨am_calV (ci := 2) (qtX2_lines l) qbX2_lines (by decide) rfl (am_tb_at 862 (by decide +kernel) rfl), rfl⟩ (q_nil)
def qxX8_lineCount : CX := (qkX8_lineCount, layX, qfX8, qaX8_lineCount, qcX8, qlX8, qmX8, (some .int), false, none, 0, none, fun _ => none)
theorem qzX8_lineCount (l : Launch) : am_sta l qxX8_lineCount RX8 5 cX8_lineCount := ⟨qkX8_lineCount_ok, layX_ok, qfX8_ok, qcX8_ok, qlX8_ok, am_mthP qmX8_ok (by decide), fun k e1 h => (qyX8_lineCount l k e1 h).1⟩
def qsX8_lineCount : SP := fun as F A K => match as with
  | [.inr (.inr o)] => cond (Nat.beq o 0) (K (some (some (vI (A 2 1)))) F A) (False)
  | _ => False
def qeX8_lineCount : CE := (yX8_lineCount, cX8_lineCount, 1, (some .int), 0, some 8, 0, none, 0, 5, qsX8_lineCount)
theorem qbX8_lineCount : am_mb qeX8_lineCount := ⟨am_tb_at 861 (by decide +kernel) rfl, am_tb_at 35 (by decide +kernel) rfl, ⟨by decide, by decide, by decide +kernel⟩, by decide, am_tb_at 859 (by decide +kernel) rfl, am_tb_at 860 (by decide +kernel) rfl, _, _, rfl⟩
set_option maxRecDepth 20000 in
theorem qvX8_lineCount_0  (F : FF) (A : AA) (K : KK) (h : K (some (some (vI (A 2 1)))) F A) : am_line qxX8_lineCount 5 [vR 0] 1 F A K := by
  show am_stp qxX8_lineCount (am_run qxX8_lineCount (fun _ => none) (fun _ _ _ _ _ _ => False) K 5) K 0 [some (vR 0)] [] F A 0
  show K (some (some (vI (fat (A 2) 1)))) F A
  rw [fat_in (by omega) (by omega)]; exact h
theorem qtX8_lineCount (l : Launch) : am_CT l layX qeX8_lineCount := am_met0 rfl (by decide +kernel) rfl rfl rfl rfl rfl (fun _ => rfl) rfl (qzX8_lineCount l) (fun k e1 h => (qyX8_lineCount l k e1 h).2) (fun as F A K h => by
  replace h : qsX8_lineCount as F A K := h
  unfold qsX8_lineCount at h
  split at h
  · rename_i o
    refine ⟨by first | exact Nat.le_of_ble_eq_true rfl | simp [am_fl, am_cat], ?_⟩
    replace h := am_cond2 h
    rcases h with ⟨hb, h⟩ | h
    · skip
      have hb0 := hb
      have hb0 := am_bq hb0
      subst hb0
      exact am_way_line (qvX8_lineCount_0  F A K h)
    exact h.elim
  · exact h.elim)
def qkX8_getSetting : Nat → Option CI := fun pc => cond (Nat.ble 21 pc) none (cond (Nat.ble 11 pc) (cond (Nat.ble 15 pc) (cond (Nat.beq pc 15) (some (.goto 5, 18, [20])) (cond (Nat.beq pc 18) (some (.bipush (-2), 20, [])) (cond (Nat.beq pc 20) (some (.ireturn, 21, [])) (none)))) (cond (Nat.beq pc 11) (some (.iload_n 1, 12, [])) (cond (Nat.beq pc 12) (some (.invokevirtual 120, 15, [])) (none)))) (cond (Nat.ble 4 pc) (cond (Nat.beq pc 4) (some (.ifCond .eq 14, 7, [18])) (cond (Nat.beq pc 7) (some (.aload_n 0, 8, [])) (cond (Nat.beq pc 8) (some (.getfield 10, 11, [])) (none)))) (cond (Nat.beq pc 0) (some (.iload_n 1, 1, [])) (cond (Nat.beq pc 1) (some (.invokestatic 116, 4, [])) (none)))))
theorem qkX8_getSetting_ok : ∀ pc i nx ts, qkX8_getSetting pc = some (i, nx, ts) → am_cok cX8_getSetting pc (i, nx, ts) = true := fun pc i nx ts h => am_tok_ok (n := 21) (by decide +kernel) (fun pc h => by show cond (Nat.ble 21 pc) _ _ = _; rw [Nat.ble_eq_true_of_le h]; rfl) h
def qaX8_getSetting : Nat → Option CE := fun k => cond (Nat.beq k 116) (some qeX8_isSetting) (cond (Nat.beq k 120) (some qeX2_setting) (none))
theorem qyX8_getSetting (l : Launch) : ∀ k e1, qaX8_getSetting k = some e1 → am_cal l layX RX8 5 k e1 ∧ ceT e1 = 0 := q_cons ⟨am_calS (qtX8_isSetting l) qbX8_isSetting (by decide) rfl (by decide) (am_tb_at 972 (by decide +kernel) rfl), rfl⟩ (q_cons ⟨am_calV (ci := 2) (qtX2_setting l) qbX2_setting (by decide) rfl (am_tb_at 976 (by decide +kernel) rfl), rfl⟩ (q_nil))
def qxX8_getSetting : CX := (qkX8_getSetting, layX, qfX8, qaX8_getSetting, qcX8, qlX8, qmX8, (some .int), false, none, 0, none, fun _ => none)
theorem qzX8_getSetting (l : Launch) : am_sta l qxX8_getSetting RX8 5 cX8_getSetting := ⟨qkX8_getSetting_ok, layX_ok, qfX8_ok, qcX8_ok, qlX8_ok, am_mthP qmX8_ok (by decide), fun k e1 h => (qyX8_getSetting l k e1 h).1⟩
def qsX8_getSetting : SP := fun as F A K => match as with
  | [.inr (.inr o), .inl s] => cond (Nat.beq o 0) (((-2147483648 ≤ s ∧ s < 2147483648)) ∧ (K (some (some (vI (if s = 0 ∨ s = 1 then A 2 (2 + s) else -2)))) F A)) (False)
  | _ => False
def qeX8_getSetting : CE := (yX8_getSetting, cX8_getSetting, 2, (some .int), 1, some 8, 0, none, 0, 5, qsX8_getSetting)
theorem qbX8_getSetting : am_mb qeX8_getSetting := ⟨am_tb_at 1221 (by decide +kernel) rfl, am_tb_at 35 (by decide +kernel) rfl, ⟨by decide, by decide, by decide +kernel⟩, by decide, am_tb_at 1219 (by decide +kernel) rfl, am_tb_at 1220 (by decide +kernel) rfl, _, _, rfl⟩
set_option maxRecDepth 20000 in
theorem qvX8_getSetting_0 (s : Int) (F : FF) (A : AA) (K : KK) (h : ((-2147483648 ≤ s ∧ s < 2147483648)) ∧ (K (some (some (vI (if s = 0 ∨ s = 1 then A 2 (2 + s) else -2)))) F A)) : am_line qxX8_getSetting 10 [vR 0, vI s] 2 F A K := by
  show am_stp qxX8_getSetting (am_run qxX8_getSetting (fun _ => none) (fun _ _ _ _ _ _ => False) K 10) K 0 [some (vR 0), some (vI s)] [] F A 0
  obtain ⟨hp, h⟩ := h
  show (w32 (bi (w32 s = 0 ∨ w32 s = 1)) = w32 0 → (K (some (some (vI (-2)))) F A)) ∧ (¬ (w32 (bi (w32 s = 0 ∨ w32 s = 1)) = w32 0) → (K (some (some (vI (fat (A 2) (2 + s))))) F A))
  refine ⟨fun c1 => ?_, fun c1 => ?_⟩
  · skip
    (try simp (disch := omega) only [w32_0, wbi0, Classical.not_not, w32_id] at c1)
    first | (rw [fat_in (by omega) (by omega)]; exact K_eq h (if_pos (by omega))) | exact K_eq h (if_neg (by omega))
  · skip
    (try simp (disch := omega) only [w32_0, wbi0, Classical.not_not, w32_id] at c1)
    first | (rw [fat_in (by omega) (by omega)]; exact K_eq h (if_pos (by omega))) | exact K_eq h (if_neg (by omega))
theorem qtX8_getSetting (l : Launch) : am_CT l layX qeX8_getSetting := am_met0 rfl (by decide +kernel) rfl rfl rfl rfl rfl (fun _ => rfl) rfl (qzX8_getSetting l) (fun k e1 h => (qyX8_getSetting l k e1 h).2) (fun as F A K h => by
  replace h : qsX8_getSetting as F A K := h
  unfold qsX8_getSetting at h
  split at h
  · rename_i o s
    refine ⟨by first | exact Nat.le_of_ble_eq_true rfl | simp [am_fl, am_cat], ?_⟩
    replace h := am_cond2 h
    rcases h with ⟨hb, h⟩ | h
    · skip
      have hb0 := hb
      have hb0 := am_bq hb0
      subst hb0
      exact am_way_line (qvX8_getSetting_0 s F A K h)
    exact h.elim
  · exact h.elim)
def qkX8_control : Nat → Option CI := fun pc => cond (Nat.ble 44 pc) none (cond (Nat.ble 20 pc) (cond (Nat.ble 32 pc) (cond (Nat.ble 35 pc) (cond (Nat.ble 41 pc) (cond (Nat.beq pc 41) (some (.bipush (-2), 43, [])) (cond (Nat.beq pc 43) (some (.ireturn, 44, [])) (none))) (cond (Nat.beq pc 35) (some (.invokevirtual 137, 38, [])) (cond (Nat.beq pc 38) (some (.goto 5, 41, [43])) (none)))) (cond (Nat.beq pc 32) (some (.iload_n 1, 33, [])) (cond (Nat.beq pc 33) (some (.iload_n 2, 34, [])) (cond (Nat.beq pc 34) (some (.iload_n 3, 35, [])) (none))))) (cond (Nat.ble 25 pc) (cond (Nat.beq pc 25) (some (.ifCond .eq 16, 28, [41])) (cond (Nat.beq pc 28) (some (.aload_n 0, 29, [])) (cond (Nat.beq pc 29) (some (.getfield 10, 32, [])) (none)))) (cond (Nat.beq pc 20) (some (.iconst 0, 21, [])) (cond (Nat.beq pc 21) (some (.iconst 2, 22, [])) (cond (Nat.beq pc 22) (some (.invokestatic 133, 25, [])) (none)))))) (cond (Nat.ble 10 pc) (cond (Nat.ble 17 pc) (cond (Nat.beq pc 17) (some (.iconst (-1), 18, [])) (cond (Nat.beq pc 18) (some (.ireturn, 19, [])) (cond (Nat.beq pc 19) (some (.iload_n 3, 20, [])) (none)))) (cond (Nat.beq pc 10) (some (.iload_n 2, 11, [])) (cond (Nat.beq pc 11) (some (.invokevirtual 129, 14, [])) (cond (Nat.beq pc 14) (some (.ifCond .ne 5, 17, [19])) (none))))) (cond (Nat.ble 5 pc) (cond (Nat.beq pc 5) (some (.aload_n 0, 6, [])) (cond (Nat.beq pc 6) (some (.getfield 10, 9, [])) (cond (Nat.beq pc 9) (some (.iload_n 1, 10, [])) (none)))) (cond (Nat.beq pc 0) (some (.aload_n 0, 1, [])) (cond (Nat.beq pc 1) (some (.iload_n 1, 2, [])) (cond (Nat.beq pc 2) (some (.invokevirtual 123, 5, [])) (none)))))))
theorem qkX8_control_ok : ∀ pc i nx ts, qkX8_control pc = some (i, nx, ts) → am_cok cX8_control pc (i, nx, ts) = true := fun pc i nx ts h => am_tok_ok (n := 44) (by decide +kernel) (fun pc h => by show cond (Nat.ble 44 pc) _ _ = _; rw [Nat.ble_eq_true_of_le h]; rfl) h
def qaX8_control : Nat → Option CE := fun k => cond (Nat.beq k 123) (some qeX8_requireCurve) (cond (Nat.beq k 129) (some qeX2_hasPoint) (cond (Nat.beq k 133) (some qeX8_isWithin) (cond (Nat.beq k 137) (some qeX2_point) (none))))
theorem qyX8_control (l : Launch) (hst : l.stackTraces = false) : ∀ k e1, qaX8_control k = some e1 → am_cal l layX RX8 10 k e1 ∧ True := q_cons ⟨am_calV (ci := 8) (qtX8_requireCurve l hst) qbX8_requireCurve (by decide) rfl (am_tb_at 777 (by decide +kernel) rfl), trivial⟩ (q_cons ⟨am_calV (ci := 2) (qtX2_hasPoint l) qbX2_hasPoint (by decide) rfl (am_tb_at 867 (by decide +kernel) rfl), trivial⟩ (q_cons ⟨am_calS (qtX8_isWithin l) qbX8_isWithin (by decide) rfl (by decide) (am_tb_at 875 (by decide +kernel) rfl), trivial⟩ (q_cons ⟨am_calV (ci := 2) (qtX2_point l) qbX2_point (by decide) rfl (am_tb_at 876 (by decide +kernel) rfl), trivial⟩ (q_nil))))
def qxX8_control : CX := (qkX8_control, layX, qfX8, qaX8_control, qcX8, qlX8, qmX8, (some .int), true, none, 1, none, fun _ => none)
theorem qzX8_control (l : Launch) (hst : l.stackTraces = false) : am_sta l qxX8_control RX8 10 cX8_control := ⟨qkX8_control_ok, layX_ok, qfX8_ok, qcX8_ok, qlX8_ok, am_mthP qmX8_ok (by decide), fun k e1 h => (qyX8_control l hst k e1 h).1⟩
def qsX8_control : SP := fun as F A K => match as with
  | [.inr (.inr o), .inl c, .inl k, .inl w] => cond (Nat.beq o 0) ((fgOK (A 2) ∧ (-2147483648 ≤ c ∧ c < 2147483648) ∧ (-2147483648 ≤ k ∧ k < 2147483648) ∧ (-2147483648 ≤ w ∧ w < 2147483648)) ∧ ((0 ≤ c ∧ c < A 2 0 → (K (some (some (vI (if 0 ≤ k ∧ k < A 2 (18 + c) then (if 0 ≤ w ∧ w ≤ 2 then A 2 (26 + (c * 4 + k) * 3 + w) else -2) else -1)))) F A)) ∧ (¬ (0 ≤ c ∧ c < A 2 0) → (K none F A)))) (False)
  | _ => False
def qeX8_control : CE := (yX8_control, cX8_control, 4, (some .int), 3, some 8, 1, none, 1, 10, qsX8_control)
theorem qbX8_control : am_mb qeX8_control := ⟨am_tb_at 987 (by decide +kernel) rfl, am_tb_at 35 (by decide +kernel) rfl, ⟨by decide, by decide, by decide +kernel⟩, by decide, am_tb_at 985 (by decide +kernel) rfl, am_tb_at 986 (by decide +kernel) rfl, _, _, rfl⟩
set_option maxRecDepth 20000 in
theorem qvX8_control_0 (c : Int) (k : Int) (w : Int) (F : FF) (A : AA) (K : KK) (h : (fgOK (A 2) ∧ (-2147483648 ≤ c ∧ c < 2147483648) ∧ (-2147483648 ≤ k ∧ k < 2147483648) ∧ (-2147483648 ≤ w ∧ w < 2147483648)) ∧ ((0 ≤ c ∧ c < A 2 0 → (K (some (some (vI (if 0 ≤ k ∧ k < A 2 (18 + c) then (if 0 ≤ w ∧ w ≤ 2 then A 2 (26 + (c * 4 + k) * 3 + w) else -2) else -1)))) F A)) ∧ (¬ (0 ≤ c ∧ c < A 2 0) → (K none F A)))) : am_line qxX8_control 23 [vR 0, vI c, vI k, vI w] 4 F A K := by
  show am_stp qxX8_control (am_run qxX8_control (fun _ => none) (fun _ _ _ _ _ _ => False) K 23) K 0 [some (vR 0), some (vI c), some (vI k), some (vI w)] [] F A 0
  obtain ⟨hp, h⟩ := h
  have p1 := hp.1
  have p2' := hp.2
  have q1 := p1.1.1
  have q2 := p1.1.2
  show ((0 ≤ A 2 0 ∧ A 2 0 ≤ 8) ∧ (0 ≤ A 2 1 ∧ A 2 1 ≤ 6) ∧ (-2147483648 ≤ c ∧ c < 2147483648)) ∧ ((0 ≤ c ∧ c < A 2 0 → ((w32 (bi (0 ≤ w32 c ∧ w32 c < w32 (fat (A 2) 0) ∧ 0 ≤ w32 k ∧ w32 k < w32 (fat (A 2) (18 + c)))) = w32 0 → (K (some (some (vI (-1)))) F A)) ∧ (¬ (w32 (bi (0 ≤ w32 c ∧ w32 c < w32 (fat (A 2) 0) ∧ 0 ≤ w32 k ∧ w32 k < w32 (fat (A 2) (18 + c)))) = w32 0) → ((w32 (bi (w32 0 ≤ w32 w ∧ w32 w ≤ w32 2)) = w32 0 → (K (some (some (vI (-2)))) F A)) ∧ (¬ (w32 (bi (w32 0 ≤ w32 w ∧ w32 w ≤ w32 2)) = w32 0) → (K (some (some (vI (fat (A 2) (26 + (c * 4 + k) * 3 + w))))) F A)))))) ∧ (¬ (0 ≤ c ∧ c < A 2 0) → (K none F A)))
  refine ⟨by first | exact ⟨p1.1.1, p1.1.2, by omega⟩ | exact ⟨p1.1.1, p1.1.2, by omega, by omega⟩ | omega, ?_⟩
  refine ⟨fun c1 => ?_, fun c1 => ?_⟩
  · skip
    (try simp (disch := omega) only [fat_in] at c1); (try simp (disch := omega) only [w32_0, wbi0, Classical.not_not, w32_id] at c1); (try (have q3 := (p1.2.2.1 c c1.1 c1.2).1; simp (disch := omega) only [fat_in, w32_id] at c1))
    refine ⟨fun c2 => ?_, fun c2 => ?_⟩
    · skip
      (try simp (disch := omega) only [fat_in] at c2); (try simp (disch := omega) only [w32_0, wbi0, Classical.not_not, w32_id] at c2); (try (have q3 := (p1.2.2.1 c c1.1 c1.2).1; simp (disch := omega) only [fat_in, w32_id] at c2))
      have q3 := (p1.2.2.1 c c1.1 c1.2).1
      first | exact K_eq (h.1 c1) (if_neg (by omega)) | exact K_eq (h.1 c1) (by rw [if_pos (by omega), if_neg (by omega)]) | (simp (disch := omega) only [fat_in]; exact K_eq (h.1 c1) (by rw [if_pos (by omega), if_pos (by omega)]))
    · skip
      (try simp (disch := omega) only [fat_in] at c2); (try simp (disch := omega) only [w32_0, wbi0, Classical.not_not, w32_id] at c2); (try (have q3 := (p1.2.2.1 c c1.1 c1.2).1; simp (disch := omega) only [fat_in, w32_id] at c2))
      refine ⟨fun c3 => ?_, fun c3 => ?_⟩
      · skip
        (try simp (disch := omega) only [fat_in] at c3); (try simp (disch := omega) only [w32_0, wbi0, Classical.not_not, w32_id] at c3); (try (have q3 := (p1.2.2.1 c c1.1 c1.2).1; simp (disch := omega) only [fat_in, w32_id] at c3))
        have q3 := (p1.2.2.1 c c1.1 c1.2).1
        first | exact K_eq (h.1 c1) (if_neg (by omega)) | exact K_eq (h.1 c1) (by rw [if_pos (by omega), if_neg (by omega)]) | (simp (disch := omega) only [fat_in]; exact K_eq (h.1 c1) (by rw [if_pos (by omega), if_pos (by omega)]))
      · skip
        (try simp (disch := omega) only [fat_in] at c3); (try simp (disch := omega) only [w32_0, wbi0, Classical.not_not, w32_id] at c3); (try (have q3 := (p1.2.2.1 c c1.1 c1.2).1; simp (disch := omega) only [fat_in, w32_id] at c3))
        have q3 := (p1.2.2.1 c c1.1 c1.2).1
        first | exact K_eq (h.1 c1) (if_neg (by omega)) | exact K_eq (h.1 c1) (by rw [if_pos (by omega), if_neg (by omega)]) | (simp (disch := omega) only [fat_in]; exact K_eq (h.1 c1) (by rw [if_pos (by omega), if_pos (by omega)]))
  · skip
    (try simp (disch := omega) only [fat_in] at c1); (try simp (disch := omega) only [w32_0, wbi0, Classical.not_not, w32_id] at c1); (try (have q3 := (p1.2.2.1 c c1.1 c1.2).1; simp (disch := omega) only [fat_in, w32_id] at c1))
    exact h.2 c1
theorem qtX8_control (l : Launch) (hst : l.stackTraces = false) : am_CT l layX qeX8_control := am_met1 hst rfl (by decide +kernel) rfl rfl rfl rfl rfl (fun _ _ h => by cases h) rfl (qzX8_control l hst) (fun as F A K h => by
  replace h : qsX8_control as F A K := h
  unfold qsX8_control at h
  split at h
  · rename_i o c k w
    refine ⟨by first | exact Nat.le_of_ble_eq_true rfl | simp [am_fl, am_cat], ?_⟩
    replace h := am_cond2 h
    rcases h with ⟨hb, h⟩ | h
    · skip
      have hb0 := hb
      have hb0 := am_bq hb0
      subst hb0
      exact am_way_line (qvX8_control_0 c k w F A K h)
    exact h.elim
  · exact h.elim)
