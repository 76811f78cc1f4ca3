def qkX9_points : Nat → Option CI := fun pc => cond (Nat.ble 10 pc) none (cond (Nat.ble 6 pc) (cond (Nat.ble 8 pc) (cond (Nat.beq pc 8) (some (.iaload, 9, [])) (cond (Nat.beq pc 9) (some (.ireturn, 10, [])) (none))) (cond (Nat.beq pc 6) (some (.iload_n 1, 7, [])) (cond (Nat.beq pc 7) (some (.imul, 8, [])) (none)))) (cond (Nat.beq pc 0) (some (.aload_n 0, 1, [])) (cond (Nat.beq pc 1) (some (.getfield 19, 4, [])) (cond (Nat.beq pc 4) (some (.bipush 13, 6, [])) (none)))))
theorem qkX9_points_ok : ∀ pc i nx ts, qkX9_points pc = some (i, nx, ts) → am_cok cX9_points pc (i, nx, ts) = true := fun pc i nx ts h => am_tok_ok (n := 10) (by decide +kernel) (fun pc h => by show cond (Nat.ble 10 pc) _ _ = _; rw [Nat.ble_eq_true_of_le h]; rfl) h
def qaX9_points : Nat → Option CE := fun k => none
theorem qyX9_points (l : Launch) : ∀ k e1, qaX9_points k = some e1 → am_cal l layM RX9 3 k e1 ∧ ceT e1 = 0 := q_nil
def qxX9_points : CX := (qkX9_points, layM, qfX9, qaX9_points, qcX9, qlX9, qmX9, (some .int), false, none, 0, none, fun _ => none)
theorem qzX9_points (l : Launch) : am_sta l qxX9_points RX9 3 cX9_points := ⟨qkX9_points_ok, layM_ok, qfX9_ok, qcX9_ok, qlX9_ok, am_mthP qmX9_ok (by decide), fun k e1 h => (qyX9_points l k e1 h).1⟩
def qsX9_points : SP := fun as F A K => match as with
  | [.inr (.inr o), .inl c] => cond (Nat.beq o 25) ((0 ≤ c ∧ c < 8) ∧ (K (some (some (vI (mF A (18 + c))))) F A)) (False)
  | _ => False
def qeX9_points : CE := (yX9_points, cX9_points, 2, (some .int), 1, some 9, 0, [], 0, 3, qsX9_points)
theorem qbX9_points : am_mb qeX9_points := ⟨am_tb_at 1666 (by decide +kernel) rfl, am_tb_at 124 (by decide +kernel) rfl, ⟨by decide, by decide, by decide +kernel⟩, by decide, by decide, am_tb_at 1665 (by decide +kernel) rfl, am_tb_at 68 (by decide +kernel) rfl, _, _, rfl⟩
set_option maxRecDepth 20000 in
theorem qvX9_points_25 (c : Int) (F : FF) (A : AA) (K : KK) (h : (0 ≤ c ∧ c < 8) ∧ (K (some (some (vI (mF A (18 + c))))) F A)) : am_line qxX9_points 8 [vR 25, vI c] 2 F A K := by
  show am_stp qxX9_points (am_run qxX9_points (fun _ => none) (fun _ _ _ _ _ _ => False) K 8) K 0 [some (vR 25), some (vI c)] [] F A 0
  obtain ⟨hp, h⟩ := h
  show (0 ≤ w32 (13 * c) ∧ w32 (13 * c) < 124) ∧ (K (some (some (vI (A 29 (w32 (13 * c)))))) F A)
  refine ⟨by (rw [w32_id (by omega) (by omega)]; omega), ?_⟩
  rw [mF_sz (by omega) (by omega)] at h
  simp (disch := omega) only [w32_id]
  exact h
theorem qtX9_points (l : Launch) : am_CT l layM qeX9_points := am_met0 rfl (by decide +kernel) rfl rfl rfl rfl rfl (fun _ => rfl) rfl (qzX9_points l) (fun k e1 h => (qyX9_points l k e1 h).2) (fun as F A K h => by
  replace h : qsX9_points as F A K := h
  unfold qsX9_points at h
  split at h
  · rename_i o c
    refine ⟨by first | exact Nat.le_of_ble_eq_true rfl | simp [am_fl, am_cat], ?_⟩
    replace h := am_cond2 h
    rcases h with ⟨hb, h⟩ | h
    · skip
      have hb0 := hb
      have hb0 := am_bq hb0
      subst hb0
      exact am_way_line (qvX9_points_25 c F A K h)
    exact h.elim
  · exact h.elim)
def qkX9_order : Nat → Option CI := fun pc => cond (Nat.ble 8 pc) none (cond (Nat.ble 5 pc) (cond (Nat.beq pc 5) (some (.iconst 1, 6, [])) (cond (Nat.beq pc 6) (some (.isub, 7, [])) (cond (Nat.beq pc 7) (some (.ireturn, 8, [])) (none)))) (cond (Nat.beq pc 0) (some (.aload_n 0, 1, [])) (cond (Nat.beq pc 1) (some (.iload_n 1, 2, [])) (cond (Nat.beq pc 2) (some (.invokevirtual 76, 5, [])) (none)))))
theorem qkX9_order_ok : ∀ pc i nx ts, qkX9_order pc = some (i, nx, ts) → am_cok cX9_order pc (i, nx, ts) = true := fun pc i nx ts h => am_tok_ok (n := 8) (by decide +kernel) (fun pc h => by show cond (Nat.ble 8 pc) _ _ = _; rw [Nat.ble_eq_true_of_le h]; rfl) h
def qaX9_order : Nat → Option CE := fun k => cond (Nat.beq k 76) (some qeX9_points) (none)
theorem qyX9_order (l : Launch) : ∀ k e1, qaX9_order k = some e1 → am_cal l layM RX9 4 k e1 ∧ ceT e1 = 0 := q_cons ⟨am_calV (ci := 9) (qtX9_points l) qbX9_points (by decide) rfl (am_tb_at 1663 (by decide +kernel) rfl), rfl⟩ (q_nil)
def qxX9_order : CX := (qkX9_order, layM, qfX9, qaX9_order, qcX9, qlX9, qmX9, (some .int), false, none, 0, none, fun _ => none)
theorem qzX9_order (l : Launch) : am_sta l qxX9_order RX9 4 cX9_order := ⟨qkX9_order_ok, layM_ok, qfX9_ok, qcX9_ok, qlX9_ok, am_mthP qmX9_ok (by decide), fun k e1 h => (qyX9_order l k e1 h).1⟩
def qsX9_order : SP := fun as F A K => match as with
  | [.inr (.inr o), .inl c] => cond (Nat.beq o 25) ((0 ≤ c ∧ c < 8) ∧ (K (some (some (vI (mF A (18 + c) - 1)))) F A)) (False)
  | _ => False
def qeX9_order : CE := (yX9_order, cX9_order, 2, (some .int), 1, some 9, 0, [], 0, 4, qsX9_order)
theorem qbX9_order : am_mb qeX9_order := ⟨am_tb_at 1662 (by decide +kernel) rfl, am_tb_at 124 (by decide +kernel) rfl, ⟨by decide, by decide, by decide +kernel⟩, by decide, by decide, am_tb_at 1661 (by decide +kernel) rfl, am_tb_at 67 (by decide +kernel) rfl, _, _, rfl⟩
set_option maxRecDepth 20000 in
theorem qvX9_order_25 (c : Int) (F : FF) (A : AA) (K : KK) (h : (0 ≤ c ∧ c < 8) ∧ (K (some (some (vI (mF A (18 + c) - 1)))) F A)) : am_line qxX9_order 7 [vR 25, vI c] 2 F A K := by
  show am_stp qxX9_order (am_run qxX9_order (fun _ => none) (fun _ _ _ _ _ _ => False) K 7) K 0 [some (vR 25), some (vI c)] [] F A 0
  obtain ⟨hp, h⟩ := h
  show (0 ≤ c ∧ c < 8) ∧ (K (some (some (vI ((mF A (18 + c)) - 1)))) F A)
  refine ⟨by omega, ?_⟩
  first | exact h | exact K_eq h (by first | omega | (simp (disch := omega) only [w32_0, w64_0, wbi0, wbi1, yc_eq0, yc_lt0, yc_gt0, Classical.not_not, w32_id, w64_id]; omega) | (simp (disch := omega) only [w32_0, w64_0, wbi0, wbi1, yc_eq0, yc_lt0, yc_gt0, Classical.not_not, w32_id, w64_id]; done))
theorem qtX9_order (l : Launch) : am_CT l layM qeX9_order := am_met0 rfl (by decide +kernel) rfl rfl rfl rfl rfl (fun _ => rfl) rfl (qzX9_order l) (fun k e1 h => (qyX9_order l k e1 h).2) (fun as F A K h => by
  replace h : qsX9_order as F A K := h
  unfold qsX9_order at h
  split at h
  · rename_i o c
    refine ⟨by first | exact Nat.le_of_ble_eq_true rfl | simp [am_fl, am_cat], ?_⟩
    replace h := am_cond2 h
    rcases h with ⟨hb, h⟩ | h
    · skip
      have hb0 := hb
      have hb0 := am_bq hb0
      subst hb0
      exact am_way_line (qvX9_order_25 c F A K h)
    exact h.elim
  · exact h.elim)
def qkX9_point : Nat → Option CI := fun pc => cond (Nat.ble 18 pc) none (cond (Nat.ble 10 pc) (cond (Nat.ble 14 pc) (cond (Nat.ble 16 pc) (cond (Nat.beq pc 16) (some (.iaload, 17, [])) (cond (Nat.beq pc 17) (some (.ireturn, 18, [])) (none))) (cond (Nat.beq pc 14) (some (.iload_n 3, 15, [])) (cond (Nat.beq pc 15) (some (.iadd, 16, [])) (none)))) (cond (Nat.ble 12 pc) (cond (Nat.beq pc 12) (some (.imul, 13, [])) (cond (Nat.beq pc 13) (some (.iadd, 14, [])) (none))) (cond (Nat.beq pc 10) (some (.iconst 3, 11, [])) (cond (Nat.beq pc 11) (some (.iload_n 2, 12, [])) (none))))) (cond (Nat.ble 6 pc) (cond (Nat.ble 8 pc) (cond (Nat.beq pc 8) (some (.iconst 1, 9, [])) (cond (Nat.beq pc 9) (some (.iadd, 10, [])) (none))) (cond (Nat.beq pc 6) (some (.iload_n 1, 7, [])) (cond (Nat.beq pc 7) (some (.imul, 8, [])) (none)))) (cond (Nat.beq pc 0) (some (.aload_n 0, 1, [])) (cond (Nat.beq pc 1) (some (.getfield 19, 4, [])) (cond (Nat.beq pc 4) (some (.bipush 13, 6, [])) (none))))))
theorem qkX9_point_ok : ∀ pc i nx ts, qkX9_point pc = some (i, nx, ts) → am_cok cX9_point pc (i, nx, ts) = true := fun pc i nx ts h => am_tok_ok (n := 18) (by decide +kernel) (fun pc h => by show cond (Nat.ble 18 pc) _ _ = _; rw [Nat.ble_eq_true_of_le h]; rfl) h
def qaX9_point : Nat → Option CE := fun k => none
theorem qyX9_point (l : Launch) : ∀ k e1, qaX9_point k = some e1 → am_cal l layM RX9 3 k e1 ∧ ceT e1 = 0 := q_nil
def qxX9_point : CX := (qkX9_point, layM, qfX9, qaX9_point, qcX9, qlX9, qmX9, (some .int), false, none, 0, none, fun _ => none)
theorem qzX9_point (l : Launch) : am_sta l qxX9_point RX9 3 cX9_point := ⟨qkX9_point_ok, layM_ok, qfX9_ok, qcX9_ok, qlX9_ok, am_mthP qmX9_ok (by decide), fun k e1 h => (qyX9_point l k e1 h).1⟩
def qsX9_point : SP := fun as F A K => match as with
  | [.inr (.inr o), .inl c, .inl k, .inl w] => cond (Nat.beq o 25) (((0 ≤ c ∧ c < 8) ∧ (0 ≤ k ∧ k < 4) ∧ 0 ≤ w ∧ w ≤ 2) ∧ (K (some (some (vI (pxF (mF A) c k w)))) F A)) (False)
  | _ => False
def qeX9_point : CE := (yX9_point, cX9_point, 4, (some .int), 3, some 9, 0, [], 0, 3, qsX9_point)
theorem qbX9_point : am_mb qeX9_point := ⟨am_tb_at 1678 (by decide +kernel) rfl, am_tb_at 124 (by decide +kernel) rfl, ⟨by decide, by decide, by decide +kernel⟩, by decide, by decide, am_tb_at 1677 (by decide +kernel) rfl, am_tb_at 70 (by decide +kernel) rfl, _, _, rfl⟩
set_option maxRecDepth 20000 in
theorem qvX9_point_25 (c : Int) (k : Int) (w : Int) (F : FF) (A : AA) (K : KK) (h : ((0 ≤ c ∧ c < 8) ∧ (0 ≤ k ∧ k < 4) ∧ 0 ≤ w ∧ w ≤ 2) ∧ (K (some (some (vI (pxF (mF A) c k w)))) F A)) : am_line qxX9_point 16 [vR 25, vI c, vI k, vI w] 4 F A K := by
  show am_stp qxX9_point (am_run qxX9_point (fun _ => none) (fun _ _ _ _ _ _ => False) K 16) K 0 [some (vR 25), some (vI c), some (vI k), some (vI w)] [] F A 0
  obtain ⟨hp, h⟩ := h
  show (0 ≤ w32 ((((13 * c) + 1) + (3 * k)) + w) ∧ w32 ((((13 * c) + 1) + (3 * k)) + w) < 124) ∧ (K (some (some (vI (A 29 (w32 ((((13 * c) + 1) + (3 * k)) + w)))))) F A)
  refine ⟨by first | omega | (rw [w32_id (by omega) (by omega)]; omega), ?_⟩
  unfold pxF at h
  rw [mF_pt (by omega) (by omega) (by omega) (by omega) (by omega) (by omega)] at h
  simp (disch := omega) only [w32_id]
  exact h
theorem qtX9_point (l : Launch) : am_CT l layM qeX9_point := am_met0 rfl (by decide +kernel) rfl rfl rfl rfl rfl (fun _ => rfl) rfl (qzX9_point l) (fun k e1 h => (qyX9_point l k e1 h).2) (fun as F A K h => by
  replace h : qsX9_point as F A K := h
  unfold qsX9_point at h
  split at h
  · rename_i o c k w
    refine ⟨by first | exact Nat.le_of_ble_eq_true rfl | simp [am_fl, am_cat], ?_⟩
    replace h := am_cond2 h
    rcases h with ⟨hb, h⟩ | h
    · skip
      have hb0 := hb
      have hb0 := am_bq hb0
      subst hb0
      exact am_way_line (qvX9_point_25 c k w F A K h)
    exact h.elim
  · exact h.elim)
def qkX9_setPoint : Nat → Option CI := fun pc => cond (Nat.ble 20 pc) none (cond (Nat.ble 11 pc) (cond (Nat.ble 15 pc) (cond (Nat.ble 18 pc) (cond (Nat.beq pc 18) (some (.iastore, 19, [])) (cond (Nat.beq pc 19) (some (.return_, 20, [])) (none))) (cond (Nat.beq pc 15) (some (.iadd, 16, [])) (cond (Nat.beq pc 16) (some (.iload 4, 18, [])) (none)))) (cond (Nat.ble 13 pc) (cond (Nat.beq pc 13) (some (.iadd, 14, [])) (cond (Nat.beq pc 14) (some (.iload_n 3, 15, [])) (none))) (cond (Nat.beq pc 11) (some (.iload_n 2, 12, [])) (cond (Nat.beq pc 12) (some (.imul, 13, [])) (none))))) (cond (Nat.ble 7 pc) (cond (Nat.ble 9 pc) (cond (Nat.beq pc 9) (some (.iadd, 10, [])) (cond (Nat.beq pc 10) (some (.iconst 3, 11, [])) (none))) (cond (Nat.beq pc 7) (some (.imul, 8, [])) (cond (Nat.beq pc 8) (some (.iconst 1, 9, [])) (none)))) (cond (Nat.ble 4 pc) (cond (Nat.beq pc 4) (some (.bipush 13, 6, [])) (cond (Nat.beq pc 6) (some (.iload_n 1, 7, [])) (none))) (cond (Nat.beq pc 0) (some (.aload_n 0, 1, [])) (cond (Nat.beq pc 1) (some (.getfield 19, 4, [])) (none))))))
theorem qkX9_setPoint_ok : ∀ pc i nx ts, qkX9_setPoint pc = some (i, nx, ts) → am_cok cX9_setPoint pc (i, nx, ts) = true := fun pc i nx ts h => am_tok_ok (n := 20) (by decide +kernel) (fun pc h => by show cond (Nat.ble 20 pc) _ _ = _; rw [Nat.ble_eq_true_of_le h]; rfl) h
def qaX9_setPoint : Nat → Option CE := fun k => none
theorem qyX9_setPoint (l : Launch) : ∀ k e1, qaX9_setPoint k = some e1 → am_cal l layM RX9 3 k e1 ∧ ceT e1 = 0 := q_nil
def qxX9_setPoint : CX := (qkX9_setPoint, layM, qfX9, qaX9_setPoint, qcX9, qlX9, qmX9, none, false, none, 0, none, fun _ => none)
theorem qzX9_setPoint (l : Launch) : am_sta l qxX9_setPoint RX9 3 cX9_setPoint := ⟨qkX9_setPoint_ok, layM_ok, qfX9_ok, qcX9_ok, qlX9_ok, am_mthP qmX9_ok (by decide), fun k e1 h => (qyX9_setPoint l k e1 h).1⟩
def qsX9_setPoint : SP := fun as F A K => match as with
  | [.inr (.inr o), .inl c, .inl k, .inl w, .inl v] => cond (Nat.beq o 25) (((0 ≤ c ∧ c < 8) ∧ (0 ≤ k ∧ k < 4) ∧ 0 ≤ w ∧ w ≤ 2) ∧ (K (some none) F (upA A 29 (13 * c + 1 + 3 * k + w) v))) (False)
  | _ => False
def qeX9_setPoint : CE := (yX9_setPoint, cX9_setPoint, 5, none, 4, some 9, 0, [], 0, 3, qsX9_setPoint)
theorem qbX9_setPoint : am_mb qeX9_setPoint := ⟨am_tb_at 1599 (by decide +kernel) rfl, am_tb_at 124 (by decide +kernel) rfl, ⟨by decide, by decide, by decide +kernel⟩, by decide, by decide, am_tb_at 1598 (by decide +kernel) rfl, am_tb_at 60 (by decide +kernel) rfl, _, _, rfl⟩
set_option maxRecDepth 20000 in
theorem qvX9_setPoint_25 (c : Int) (k : Int) (w : Int) (v : Int) (F : FF) (A : AA) (K : KK) (h : ((0 ≤ c ∧ c < 8) ∧ (0 ≤ k ∧ k < 4) ∧ 0 ≤ w ∧ w ≤ 2) ∧ (K (some none) F (upA A 29 (13 * c + 1 + 3 * k + w) v))) : am_line qxX9_setPoint 17 [vR 25, vI c, vI k, vI w, vI v] 5 F A K := by
  show am_stp qxX9_setPoint (am_run qxX9_setPoint (fun _ => none) (fun _ _ _ _ _ _ => False) K 17) K 0 [some (vR 25), some (vI c), some (vI k), some (vI w), some (vI v)] [] F A 0
  obtain ⟨hp, h⟩ := h
  show (0 ≤ w32 ((((13 * c) + 1) + (3 * k)) + w) ∧ w32 ((((13 * c) + 1) + (3 * k)) + w) < 124) ∧ (K (some none) F (upA A 29 (w32 ((((13 * c) + 1) + (3 * k)) + w)) v))
  refine ⟨by first | omega | (rw [w32_id (by omega) (by omega)]; omega), ?_⟩
  simp (disch := omega) only [w32_id]
  exact h
theorem qtX9_setPoint (l : Launch) : am_CT l layM qeX9_setPoint := am_met0 rfl (by decide +kernel) rfl rfl rfl rfl rfl (fun _ => rfl) rfl (qzX9_setPoint l) (fun k e1 h => (qyX9_setPoint l k e1 h).2) (fun as F A K h => by
  replace h : qsX9_setPoint as F A K := h
  unfold qsX9_setPoint at h
  split at h
  · rename_i o c k w v
    refine ⟨by first | exact Nat.le_of_ble_eq_true rfl | simp [am_fl, am_cat], ?_⟩
    replace h := am_cond2 h
    rcases h with ⟨hb, h⟩ | h
    · skip
      have hb0 := hb
      have hb0 := am_bq hb0
      subst hb0
      exact am_way_line (qvX9_setPoint_25 c k w v F A K h)
    exact h.elim
  · exact h.elim)
def qkX9_lineOf : Nat → Option CI := fun pc => cond (Nat.ble 14 pc) none (cond (Nat.ble 8 pc) (cond (Nat.ble 11 pc) (cond (Nat.beq pc 11) (some (.iadd, 12, [])) (cond (Nat.beq pc 12) (some (.iaload, 13, [])) (cond (Nat.beq pc 13) (some (.ireturn, 14, [])) (none)))) (cond (Nat.beq pc 8) (some (.imul, 9, [])) (cond (Nat.beq pc 9) (some (.iadd, 10, [])) (cond (Nat.beq pc 10) (some (.iload_n 2, 11, [])) (none))))) (cond (Nat.ble 4 pc) (cond (Nat.beq pc 4) (some (.bipush 104, 6, [])) (cond (Nat.beq pc 6) (some (.iconst 3, 7, [])) (cond (Nat.beq pc 7) (some (.iload_n 1, 8, [])) (none)))) (cond (Nat.beq pc 0) (some (.aload_n 0, 1, [])) (cond (Nat.beq pc 1) (some (.getfield 19, 4, [])) (none)))))
theorem qkX9_lineOf_ok : ∀ pc i nx ts, qkX9_lineOf pc = some (i, nx, ts) → am_cok cX9_lineOf pc (i, nx, ts) = true := fun pc i nx ts h => am_tok_ok (n := 14) (by decide +kernel) (fun pc h => by show cond (Nat.ble 14 pc) _ _ = _; rw [Nat.ble_eq_true_of_le h]; rfl) h
def qaX9_lineOf : Nat → Option CE := fun k => none
theorem qyX9_lineOf (l : Launch) : ∀ k e1, qaX9_lineOf k = some e1 → am_cal l layM RX9 3 k e1 ∧ ceT e1 = 0 := q_nil
def qxX9_lineOf : CX := (qkX9_lineOf, layM, qfX9, qaX9_lineOf, qcX9, qlX9, qmX9, (some .int), false, none, 0, none, fun _ => none)
theorem qzX9_lineOf (l : Launch) : am_sta l qxX9_lineOf RX9 3 cX9_lineOf := ⟨qkX9_lineOf_ok, layM_ok, qfX9_ok, qcX9_ok, qlX9_ok, am_mthP qmX9_ok (by decide), fun k e1 h => (qyX9_lineOf l k e1 h).1⟩
def qsX9_lineOf : SP := fun as F A K => match as with
  | [.inr (.inr o), .inl l, .inl w] => cond (Nat.beq o 25) (((0 ≤ l ∧ l < 6) ∧ 0 ≤ w ∧ w ≤ 2) ∧ (K (some (some (vI (mF A (122 + l * 3 + w))))) F A)) (False)
  | _ => False
def qeX9_lineOf : CE := (yX9_lineOf, cX9_lineOf, 3, (some .int), 2, some 9, 0, [], 0, 3, qsX9_lineOf)
theorem qbX9_lineOf : am_mb qeX9_lineOf := ⟨am_tb_at 1690 (by decide +kernel) rfl, am_tb_at 124 (by decide +kernel) rfl, ⟨by decide, by decide, by decide +kernel⟩, by decide, by decide, am_tb_at 1689 (by decide +kernel) rfl, am_tb_at 72 (by decide +kernel) rfl, _, _, rfl⟩
set_option maxRecDepth 20000 in
theorem qvX9_lineOf_25 (l : Int) (w : Int) (F : FF) (A : AA) (K : KK) (h : ((0 ≤ l ∧ l < 6) ∧ 0 ≤ w ∧ w ≤ 2) ∧ (K (some (some (vI (mF A (122 + l * 3 + w))))) F A)) : am_line qxX9_lineOf 12 [vR 25, vI l, vI w] 3 F A K := by
  show am_stp qxX9_lineOf (am_run qxX9_lineOf (fun _ => none) (fun _ _ _ _ _ _ => False) K 12) K 0 [some (vR 25), some (vI l), some (vI w)] [] F A 0
  obtain ⟨hp, h⟩ := h
  show (0 ≤ w32 ((104 + (3 * l)) + w) ∧ w32 ((104 + (3 * l)) + w) < 124) ∧ (K (some (some (vI (A 29 (w32 ((104 + (3 * l)) + w)))))) F A)
  refine ⟨by first | omega | (rw [w32_id (by omega) (by omega)]; omega), ?_⟩
  rw [mF_lv (by omega) (by omega) (by omega) (by omega)] at h
  simp (disch := omega) only [w32_id]
  exact h
theorem qtX9_lineOf (l : Launch) : am_CT l layM qeX9_lineOf := am_met0 rfl (by decide +kernel) rfl rfl rfl rfl rfl (fun _ => rfl) rfl (qzX9_lineOf l) (fun k e1 h => (qyX9_lineOf l k e1 h).2) (fun as F A K h => by
  replace h : qsX9_lineOf as F A K := h
  unfold qsX9_lineOf at h
  split at h
  · rename_i o l w
    refine ⟨by first | exact Nat.le_of_ble_eq_true rfl | simp [am_fl, am_cat], ?_⟩
    replace h := am_cond2 h
    rcases h with ⟨hb, h⟩ | h
    · skip
      have hb0 := hb
      have hb0 := am_bq hb0
      subst hb0
      exact am_way_line (qvX9_lineOf_25 l w F A K h)
    exact h.elim
  · exact h.elim)
def qkX9_set : Nat → Option CI := fun pc => cond (Nat.ble 10 pc) none (cond (Nat.ble 6 pc) (cond (Nat.ble 8 pc) (cond (Nat.beq pc 8) (some (.iaload, 9, [])) (cond (Nat.beq pc 9) (some (.ireturn, 10, [])) (none))) (cond (Nat.beq pc 6) (some (.iload_n 1, 7, [])) (cond (Nat.beq pc 7) (some (.iadd, 8, [])) (none)))) (cond (Nat.beq pc 0) (some (.aload_n 0, 1, [])) (cond (Nat.beq pc 1) (some (.getfield 19, 4, [])) (cond (Nat.beq pc 4) (some (.bipush 122, 6, [])) (none)))))
theorem qkX9_set_ok : ∀ pc i nx ts, qkX9_set pc = some (i, nx, ts) → am_cok cX9_set pc (i, nx, ts) = true := fun pc i nx ts h => am_tok_ok (n := 10) (by decide +kernel) (fun pc h => by show cond (Nat.ble 10 pc) _ _ = _; rw [Nat.ble_eq_true_of_le h]; rfl) h
def qaX9_set : Nat → Option CE := fun k => none
theorem qyX9_set (l : Launch) : ∀ k e1, qaX9_set k = some e1 → am_cal l layM RX9 3 k e1 ∧ ceT e1 = 0 := q_nil
def qxX9_set : CX := (qkX9_set, layM, qfX9, qaX9_set, qcX9, qlX9, qmX9, (some .int), false, none, 0, none, fun _ => none)
theorem qzX9_set (l : Launch) : am_sta l qxX9_set RX9 3 cX9_set := ⟨qkX9_set_ok, layM_ok, qfX9_ok, qcX9_ok, qlX9_ok, am_mthP qmX9_ok (by decide), fun k e1 h => (qyX9_set l k e1 h).1⟩
def qsX9_set : SP := fun as F A K => match as with
  | [.inr (.inr o), .inl s] => cond (Nat.beq o 25) ((0 ≤ s ∧ s ≤ 1) ∧ (K (some (some (vI (mF A (2 + s))))) F A)) (False)
  | _ => False
def qeX9_set : CE := (yX9_set, cX9_set, 2, (some .int), 1, some 9, 0, [], 0, 3, qsX9_set)
theorem qbX9_set : am_mb qeX9_set := ⟨am_tb_at 1646 (by decide +kernel) rfl, am_tb_at 124 (by decide +kernel) rfl, ⟨by decide, by decide, by decide +kernel⟩, by decide, by decide, am_tb_at 1645 (by decide +kernel) rfl, am_tb_at 64 (by decide +kernel) rfl, _, _, rfl⟩
set_option maxRecDepth 20000 in
theorem qvX9_set_25 (s : Int) (F : FF) (A : AA) (K : KK) (h : (0 ≤ s ∧ s ≤ 1) ∧ (K (some (some (vI (mF A (2 + s))))) F A)) : am_line qxX9_set 8 [vR 25, vI s] 2 F A K := by
  show am_stp qxX9_set (am_run qxX9_set (fun _ => none) (fun _ _ _ _ _ _ => False) K 8) K 0 [some (vR 25), some (vI s)] [] F A 0
  obtain ⟨hp, h⟩ := h
  show (0 ≤ w32 (122 + s) ∧ w32 (122 + s) < 124) ∧ (K (some (some (vI (A 29 (w32 (122 + s)))))) F A)
  refine ⟨by first | omega | (rw [w32_id (by omega) (by omega)]; omega), ?_⟩
  rw [mF_st (by omega) (by omega)] at h
  simp (disch := omega) only [w32_id]
  exact h
theorem qtX9_set (l : Launch) : am_CT l layM qeX9_set := am_met0 rfl (by decide +kernel) rfl rfl rfl rfl rfl (fun _ => rfl) rfl (qzX9_set l) (fun k e1 h => (qyX9_set l k e1 h).2) (fun as F A K h => by
  replace h : qsX9_set as F A K := h
  unfold qsX9_set at h
  split at h
  · rename_i o s
    refine ⟨by first | exact Nat.le_of_ble_eq_true rfl | simp [am_fl, am_cat], ?_⟩
    replace h := am_cond2 h
    rcases h with ⟨hb, h⟩ | h
    · skip
      have hb0 := hb
      have hb0 := am_bq hb0
      subst hb0
      exact am_way_line (qvX9_set_25 s F A K h)
    exact h.elim
  · exact h.elim)
def qkX9_thrown : Nat → Option CI := fun pc => cond (Nat.ble 5 pc) none (cond (Nat.beq pc 0) (some (.aload_n 0, 1, [])) (cond (Nat.beq pc 1) (some (.getfield 70, 4, [])) (cond (Nat.beq pc 4) (some (.ireturn, 5, [])) (none))))
theorem qkX9_thrown_ok : ∀ pc i nx ts, qkX9_thrown pc = some (i, nx, ts) → am_cok cX9_thrown pc (i, nx, ts) = true := fun pc i nx ts h => am_tok_ok (n := 5) (by decide +kernel) (fun pc h => by show cond (Nat.ble 5 pc) _ _ = _; rw [Nat.ble_eq_true_of_le h]; rfl) h
def qaX9_thrown : Nat → Option CE := fun k => none
theorem qyX9_thrown (l : Launch) : ∀ k e1, qaX9_thrown k = some e1 → am_cal l layM RX9 3 k e1 ∧ ceT e1 = 0 := q_nil
def qxX9_thrown : CX := (qkX9_thrown, layM, qfX9, qaX9_thrown, qcX9, qlX9, qmX9, (some .int), false, none, 0, none, fun _ => none)
theorem qzX9_thrown (l : Launch) : am_sta l qxX9_thrown RX9 3 cX9_thrown := ⟨qkX9_thrown_ok, layM_ok, qfX9_ok, qcX9_ok, qlX9_ok, am_mthP qmX9_ok (by decide), fun k e1 h => (qyX9_thrown l k e1 h).1⟩
def qsX9_thrown : SP := fun as F A K => match as with
  | [.inr (.inr o)] => cond (Nat.beq o 25) (K (some (some (vI (F 25 0)))) F A) (False)
  | _ => False
def qeX9_thrown : CE := (yX9_thrown, cX9_thrown, 1, (some .int), 0, some 9, 0, [], 0, 3, qsX9_thrown)
theorem qbX9_thrown : am_mb qeX9_thrown := ⟨am_tb_at 1484 (by decide +kernel) rfl, am_tb_at 124 (by decide +kernel) rfl, ⟨by decide, by decide, by decide +kernel⟩, by decide, by decide, am_tb_at 1482 (by decide +kernel) rfl, am_tb_at 1483 (by decide +kernel) rfl, _, _, rfl⟩
set_option maxRecDepth 20000 in
theorem qvX9_thrown_25  (F : FF) (A : AA) (K : KK) (h : K (some (some (vI (F 25 0)))) F A) : am_line qxX9_thrown 4 [vR 25] 1 F A K := by
  show am_stp qxX9_thrown (am_run qxX9_thrown (fun _ => none) (fun _ _ _ _ _ _ => False) K 4) K 0 [some (vR 25)] [] F A 0
  show K (some (some (vI (F 25 0)))) F A
  first | exact h | exact K_eq h (by first | omega | (simp (disch := omega) only [w32_0, w64_0, wbi0, wbi1, yc_eq0, yc_lt0, yc_gt0, Classical.not_not, w32_id, w64_id]; omega) | (simp (disch := omega) only [w32_0, w64_0, wbi0, wbi1, yc_eq0, yc_lt0, yc_gt0, Classical.not_not, w32_id, w64_id]; done))
theorem qtX9_thrown (l : Launch) : am_CT l layM qeX9_thrown := am_met0 rfl (by decide +kernel) rfl rfl rfl rfl rfl (fun _ => rfl) rfl (qzX9_thrown l) (fun k e1 h => (qyX9_thrown l k e1 h).2) (fun as F A K h => by
  replace h : qsX9_thrown as F A K := h
  unfold qsX9_thrown at h
  split at h
  · rename_i o
    refine ⟨by first | exact Nat.le_of_ble_eq_true rfl | simp [am_fl, am_cat], ?_⟩
    replace h := am_cond2 h
    rcases h with ⟨hb, h⟩ | h
    · skip
      have hb0 := hb
      have hb0 := am_bq hb0
      subst hb0
      exact am_way_line (qvX9_thrown_25  F A K h)
    exact h.elim
  · exact h.elim)
def qkX9_coefficient0 : Nat → Option CI := fun pc => cond (Nat.ble 45 pc) none (cond (Nat.ble 22 pc) (cond (Nat.ble 34 pc) (cond (Nat.ble 38 pc) (cond (Nat.ble 42 pc) (cond (Nat.beq pc 42) (some (.iadd, 43, [])) (cond (Nat.beq pc 43) (some (.imul, 44, [])) (cond (Nat.beq pc 44) (some (.ireturn, 45, [])) (none)))) (cond (Nat.beq pc 38) (some (.iconst 2, 39, [])) (cond (Nat.beq pc 39) (some (.invokevirtual 91, 42, [])) (none)))) (cond (Nat.ble 36 pc) (cond (Nat.beq pc 36) (some (.aload_n 0, 37, [])) (cond (Nat.beq pc 37) (some (.iload_n 2, 38, [])) (none))) (cond (Nat.beq pc 34) (some (.imul, 35, [])) (cond (Nat.beq pc 35) (some (.iadd, 36, [])) (none))))) (cond (Nat.ble 28 pc) (cond (Nat.ble 30 pc) (cond (Nat.beq pc 30) (some (.iconst 1, 31, [])) (cond (Nat.beq pc 31) (some (.invokevirtual 83, 34, [])) (none))) (cond (Nat.beq pc 28) (some (.iload_n 1, 29, [])) (cond (Nat.beq pc 29) (some (.iload_n 3, 30, [])) (none)))) (cond (Nat.ble 24 pc) (cond (Nat.beq pc 24) (some (.invokevirtual 91, 27, [])) (cond (Nat.beq pc 27) (some (.aload_n 0, 28, [])) (none))) (cond (Nat.beq pc 22) (some (.iload_n 2, 23, [])) (cond (Nat.beq pc 23) (some (.iconst 1, 24, [])) (none)))))) (cond (Nat.ble 10 pc) (cond (Nat.ble 16 pc) (cond (Nat.ble 20 pc) (cond (Nat.beq pc 20) (some (.imul, 21, [])) (cond (Nat.beq pc 21) (some (.aload_n 0, 22, [])) (none))) (cond (Nat.beq pc 16) (some (.iconst 0, 17, [])) (cond (Nat.beq pc 17) (some (.invokevirtual 83, 20, [])) (none)))) (cond (Nat.ble 14 pc) (cond (Nat.beq pc 14) (some (.iload_n 1, 15, [])) (cond (Nat.beq pc 15) (some (.iload_n 3, 16, [])) (none))) (cond (Nat.beq pc 10) (some (.invokevirtual 91, 13, [])) (cond (Nat.beq pc 13) (some (.aload_n 0, 14, [])) (none))))) (cond (Nat.ble 4 pc) (cond (Nat.ble 8 pc) (cond (Nat.beq pc 8) (some (.iload_n 2, 9, [])) (cond (Nat.beq pc 9) (some (.iconst 0, 10, [])) (none))) (cond (Nat.beq pc 4) (some (.invokevirtual 83, 7, [])) (cond (Nat.beq pc 7) (some (.aload_n 0, 8, [])) (none)))) (cond (Nat.ble 2 pc) (cond (Nat.beq pc 2) (some (.iload_n 3, 3, [])) (cond (Nat.beq pc 3) (some (.iconst 2, 4, [])) (none))) (cond (Nat.beq pc 0) (some (.aload_n 0, 1, [])) (cond (Nat.beq pc 1) (some (.iload_n 1, 2, [])) (none)))))))
theorem qkX9_coefficient0_ok : ∀ pc i nx ts, qkX9_coefficient0 pc = some (i, nx, ts) → am_cok cX9_coefficient0 pc (i, nx, ts) = true := fun pc i nx ts h => am_tok_ok (n := 45) (by decide +kernel) (fun pc h => by show cond (Nat.ble 45 pc) _ _ = _; rw [Nat.ble_eq_true_of_le h]; rfl) h
def qaX9_coefficient0 : Nat → Option CE := fun k => cond (Nat.beq k 83) (some qeX9_point) (cond (Nat.beq k 91) (some qeX9_lineOf) (none))
theorem qyX9_coefficient0 (l : Launch) : ∀ k e1, qaX9_coefficient0 k = some e1 → am_cal l layM RX9 4 k e1 ∧ ceT e1 = 0 := q_cons ⟨am_calV (ci := 9) (qtX9_point l) qbX9_point (by decide) rfl (am_tb_at 1675 (by decide +kernel) rfl), rfl⟩ (q_cons ⟨am_calV (ci := 9) (qtX9_lineOf l) qbX9_lineOf (by decide) rfl (am_tb_at 1687 (by decide +kernel) rfl), rfl⟩ (q_nil))
def qxX9_coefficient0 : CX := (qkX9_coefficient0, layM, qfX9, qaX9_coefficient0, qcX9, qlX9, qmX9, (some .int), false, none, 0, none, fun _ => none)
theorem qzX9_coefficient0 (l : Launch) : am_sta l qxX9_coefficient0 RX9 4 cX9_coefficient0 := ⟨qkX9_coefficient0_ok, layM_ok, qfX9_ok, qcX9_ok, qlX9_ok, am_mthP qmX9_ok (by decide), fun k e1 h => (qyX9_coefficient0 l k e1 h).1⟩
def qsX9_coefficient0 : SP := fun as F A K => match as with
  | [.inr (.inr o), .inl c, .inl l, .inl k] => cond (Nat.beq o 25) (((0 ≤ c ∧ c < 8) ∧ (0 ≤ l ∧ l < 6) ∧ 0 ≤ k ∧ k < 4) ∧ (K (some (some (vI (cfR (mF A) c l k)))) F A)) (False)
  | _ => False
def qeX9_coefficient0 : CE := (yX9_coefficient0, cX9_coefficient0, 4, (some .int), 3, some 9, 0, [], 0, 4, qsX9_coefficient0)
theorem qbX9_coefficient0 : am_mb qeX9_coefficient0 := ⟨am_tb_at 1781 (by decide +kernel) rfl, am_tb_at 124 (by decide +kernel) rfl, ⟨by decide, by decide, by decide +kernel⟩, by decide, by decide, am_tb_at 1780 (by decide +kernel) rfl, am_tb_at 84 (by decide +kernel) rfl, _, _, rfl⟩
set_option maxRecDepth 20000 in
theorem qvX9_coefficient0_25 (c : Int) (l : Int) (k : Int) (F : FF) (A : AA) (K : KK) (h : ((0 ≤ c ∧ c < 8) ∧ (0 ≤ l ∧ l < 6) ∧ 0 ≤ k ∧ k < 4) ∧ (K (some (some (vI (cfR (mF A) c l k)))) F A)) : am_line qxX9_coefficient0 34 [vR 25, vI c, vI l, vI k] 4 F A K := by
  show am_stp qxX9_coefficient0 (am_run qxX9_coefficient0 (fun _ => none) (fun _ _ _ _ _ _ => False) K 34) K 0 [some (vR 25), some (vI c), some (vI l), some (vI k)] [] F A 0
  obtain ⟨hp, h⟩ := h
  show ((0 ≤ c ∧ c < 8) ∧ (0 ≤ k ∧ k < 4) ∧ 0 ≤ 2 ∧ 2 ≤ 2) ∧ (((0 ≤ l ∧ l < 6) ∧ 0 ≤ 0 ∧ 0 ≤ 2) ∧ (((0 ≤ c ∧ c < 8) ∧ (0 ≤ k ∧ k < 4) ∧ 0 ≤ 0 ∧ 0 ≤ 2) ∧ (((0 ≤ l ∧ l < 6) ∧ 0 ≤ 1 ∧ 1 ≤ 2) ∧ (((0 ≤ c ∧ c < 8) ∧ (0 ≤ k ∧ k < 4) ∧ 0 ≤ 1 ∧ 1 ≤ 2) ∧ (((0 ≤ l ∧ l < 6) ∧ 0 ≤ 2 ∧ 2 ≤ 2) ∧ (K (some (some (vI ((pxF (mF A) c k 2) * ((((mF A (122 + l * 3 + 0)) * (pxF (mF A) c k 0)) + ((mF A (122 + l * 3 + 1)) * (pxF (mF A) c k 1))) + (mF A (122 + l * 3 + 2))))))) F A))))))
  refine ⟨by first | omega | exact ⟨by omega, by omega, by omega⟩, ?_⟩
  refine ⟨by first | omega | exact ⟨by omega, by omega, by omega⟩, ?_⟩
  refine ⟨by first | omega | exact ⟨by omega, by omega, by omega⟩, ?_⟩
  refine ⟨by first | omega | exact ⟨by omega, by omega, by omega⟩, ?_⟩
  refine ⟨by first | omega | exact ⟨by omega, by omega, by omega⟩, ?_⟩
  refine ⟨by first | omega | exact ⟨by omega, by omega, by omega⟩, ?_⟩
  first | exact h | exact K_eq h (by first | omega | (simp (disch := omega) only [w32_0, w64_0, wbi0, wbi1, yc_eq0, yc_lt0, yc_gt0, Classical.not_not, w32_id, w64_id]; omega) | (simp (disch := omega) only [w32_0, w64_0, wbi0, wbi1, yc_eq0, yc_lt0, yc_gt0, Classical.not_not, w32_id, w64_id]; done))
theorem qtX9_coefficient0 (l : Launch) : am_CT l layM qeX9_coefficient0 := am_met0 rfl (by decide +kernel) rfl rfl rfl rfl rfl (fun _ => rfl) rfl (qzX9_coefficient0 l) (fun k e1 h => (qyX9_coefficient0 l k e1 h).2) (fun as F A K h => by
  replace h : qsX9_coefficient0 as F A K := h
  unfold qsX9_coefficient0 at h
  split at h
  · rename_i o c l k
    refine ⟨by first | exact Nat.le_of_ble_eq_true rfl | simp [am_fl, am_cat], ?_⟩
    replace h := am_cond2 h
    rcases h with ⟨hb, h⟩ | h
    · skip
      have hb0 := hb
      have hb0 := am_bq hb0
      subst hb0
      exact am_way_line (qvX9_coefficient0_25 c l k F A K h)
    exact h.elim
  · exact h.elim)
def qkX9_isCurve : Nat → Option CI := fun pc => cond (Nat.ble 21 pc) none (cond (Nat.ble 11 pc) (cond (Nat.ble 16 pc) (cond (Nat.beq pc 16) (some (.goto 4, 19, [20])) (cond (Nat.beq pc 19) (some (.iconst 0, 20, [])) (cond (Nat.beq pc 20) (some (.ireturn, 21, [])) (none)))) (cond (Nat.beq pc 11) (some (.iaload, 12, [])) (cond (Nat.beq pc 12) (some (.if_icmp .ge 7, 15, [19])) (cond (Nat.beq pc 15) (some (.iconst 1, 16, [])) (none))))) (cond (Nat.ble 5 pc) (cond (Nat.beq pc 5) (some (.aload_n 0, 6, [])) (cond (Nat.beq pc 6) (some (.getfield 13, 9, [])) (cond (Nat.beq pc 9) (some (.bipush 14, 11, [])) (none)))) (cond (Nat.beq pc 0) (some (.iload_n 1, 1, [])) (cond (Nat.beq pc 1) (some (.ifCond .lt 18, 4, [19])) (cond (Nat.beq pc 4) (some (.iload_n 1, 5, [])) (none))))))
theorem qkX9_isCurve_ok : ∀ pc i nx ts, qkX9_isCurve pc = some (i, nx, ts) → am_cok cX9_isCurve pc (i, nx, ts) = true := fun pc i nx ts h => am_tok_ok (n := 21) (by decide +kernel) (fun pc h => by show cond (Nat.ble 21 pc) _ _ = _; rw [Nat.ble_eq_true_of_le h]; rfl) h
def qaX9_isCurve : Nat → Option CE := fun k => none
theorem qyX9_isCurve (l : Launch) : ∀ k e1, qaX9_isCurve k = some e1 → am_cal l layM RX9 3 k e1 ∧ ceT e1 = 0 := q_nil
def qxX9_isCurve : CX := (qkX9_isCurve, layM, qfX9, qaX9_isCurve, qcX9, qlX9, qmX9, (some .boolean), false, none, 0, none, fun _ => none)
theorem qzX9_isCurve (l : Launch) : am_sta l qxX9_isCurve RX9 3 cX9_isCurve := ⟨qkX9_isCurve_ok, layM_ok, qfX9_ok, qcX9_ok, qlX9_ok, am_mthP qmX9_ok (by decide), fun k e1 h => (qyX9_isCurve l k e1 h).1⟩
def qsX9_isCurve : SP := fun as F A K => match as with
  | [.inr (.inr o), .inl c] => cond (Nat.beq o 25) (((0 ≤ mF A 0 ∧ mF A 0 ≤ 8) ∧ (0 ≤ mF A 1 ∧ mF A 1 ≤ 6) ∧ (-2147483648 ≤ c ∧ c < 2147483648)) ∧ (K (some (some (vI (bi (0 ≤ c ∧ c < mF A 0))))) F A)) (False)
  | _ => False
def qeX9_isCurve : CE := (yX9_isCurve, cX9_isCurve, 2, (some .boolean), 1, some 9, 0, [], 0, 3, qsX9_isCurve)
theorem qbX9_isCurve : am_mb qeX9_isCurve := ⟨am_tb_at 1654 (by decide +kernel) rfl, am_tb_at 124 (by decide +kernel) rfl, ⟨by decide, by decide, by decide +kernel⟩, by decide, by decide, am_tb_at 1653 (by decide +kernel) rfl, am_tb_at 65 (by decide +kernel) rfl, _, _, rfl⟩
set_option maxRecDepth 20000 in
theorem qvX9_isCurve_25 (c : Int) (F : FF) (A : AA) (K : KK) (h : ((0 ≤ mF A 0 ∧ mF A 0 ≤ 8) ∧ (0 ≤ mF A 1 ∧ mF A 1 ≤ 6) ∧ (-2147483648 ≤ c ∧ c < 2147483648)) ∧ (K (some (some (vI (bi (0 ≤ c ∧ c < mF A 0))))) F A)) : am_line qxX9_isCurve 12 [vR 25, vI c] 2 F A K := by
  show am_stp qxX9_isCurve (am_run qxX9_isCurve (fun _ => none) (fun _ _ _ _ _ _ => False) K 12) K 0 [some (vR 25), some (vI c)] [] F A 0
  obtain ⟨hp, h⟩ := h
  have m0 : A 27 14 = mF A 0 := rfl
  have m1 : A 27 15 = mF A 1 := rfl
  show (w32 c < w32 0 → ((0 = 0 ∨ 0 = 1) ∧ (K (some (some (vI 0))) F A))) ∧ (¬ w32 c < w32 0 → ((0 ≤ w32 14 ∧ w32 14 < 16) ∧ ((w32 c < w32 (A 27 (w32 14)) → ((1 = 0 ∨ 1 = 1) ∧ (K (some (some (vI 1))) F A))) ∧ (¬ w32 c < w32 (A 27 (w32 14)) → ((0 = 0 ∨ 0 = 1) ∧ (K (some (some (vI 0))) F A))))))
  refine ⟨fun c1 => ?_, fun c1 => ?_⟩
  · skip
    (try simp (disch := omega) only [fat_in, w32_0, wbi0, Classical.not_not, w32_id] at c1); (try (rw [m0] at c1)); (try (rw [m1] at c1)); (try simp (disch := omega) only [fat_in, w32_0, wbi0, Classical.not_not, w32_id] at c1)
    refine ⟨by first | exact Or.inl rfl | exact Or.inr rfl | exact bi_01 | decide | omega, ?_⟩
    first | exact h | exact K_eq h (bi_t (by omega)) | exact K_eq h (bi_f (by omega))
  · skip
    (try simp (disch := omega) only [fat_in, w32_0, wbi0, Classical.not_not, w32_id] at c1); (try (rw [m0] at c1)); (try (rw [m1] at c1)); (try simp (disch := omega) only [fat_in, w32_0, wbi0, Classical.not_not, w32_id] at c1)
    refine ⟨by first | exact Or.inl rfl | exact Or.inr rfl | exact bi_01 | decide | omega, ?_⟩
    refine ⟨fun c2 => ?_, fun c2 => ?_⟩
    · skip
      (try simp (disch := omega) only [fat_in, w32_0, wbi0, Classical.not_not, w32_id] at c2); (try (rw [m0] at c2)); (try (rw [m1] at c2)); (try simp (disch := omega) only [fat_in, w32_0, wbi0, Classical.not_not, w32_id] at c2)
      refine ⟨by first | exact Or.inl rfl | exact Or.inr rfl | exact bi_01 | decide | omega, ?_⟩
      first | exact h | exact K_eq h (bi_t (by omega)) | exact K_eq h (bi_f (by omega))
    · skip
      (try simp (disch := omega) only [fat_in, w32_0, wbi0, Classical.not_not, w32_id] at c2); (try (rw [m0] at c2)); (try (rw [m1] at c2)); (try simp (disch := omega) only [fat_in, w32_0, wbi0, Classical.not_not, w32_id] at c2)
      refine ⟨by first | exact Or.inl rfl | exact Or.inr rfl | exact bi_01 | decide | omega, ?_⟩
      first | exact h | exact K_eq h (bi_t (by omega)) | exact K_eq h (bi_f (by omega))
theorem qtX9_isCurve (l : Launch) : am_CT l layM qeX9_isCurve := am_met0 rfl (by decide +kernel) rfl rfl rfl rfl rfl (fun _ => rfl) rfl (qzX9_isCurve l) (fun k e1 h => (qyX9_isCurve l k e1 h).2) (fun as F A K h => by
  replace h : qsX9_isCurve as F A K := h
  unfold qsX9_isCurve at h
  split at h
  · rename_i o c
    refine ⟨by first | exact Nat.le_of_ble_eq_true rfl | simp [am_fl, am_cat], ?_⟩
    replace h := am_cond2 h
    rcases h with ⟨hb, h⟩ | h
    · skip
      have hb0 := hb
      have hb0 := am_bq hb0
      subst hb0
      exact am_way_line (qvX9_isCurve_25 c F A K h)
    exact h.elim
  · exact h.elim)
def qkX9_isLine : Nat → Option CI := fun pc => cond (Nat.ble 21 pc) none (cond (Nat.ble 11 pc) (cond (Nat.ble 16 pc) (cond (Nat.beq pc 16) (some (.goto 4, 19, [20])) (cond (Nat.beq pc 19) (some (.iconst 0, 20, [])) (cond (Nat.beq pc 20) (some (.ireturn, 21, [])) (none)))) (cond (Nat.beq pc 11) (some (.iaload, 12, [])) (cond (Nat.beq pc 12) (some (.if_icmp .ge 7, 15, [19])) (cond (Nat.beq pc 15) (some (.iconst 1, 16, [])) (none))))) (cond (Nat.ble 5 pc) (cond (Nat.beq pc 5) (some (.aload_n 0, 6, [])) (cond (Nat.beq pc 6) (some (.getfield 13, 9, [])) (cond (Nat.beq pc 9) (some (.bipush 15, 11, [])) (none)))) (cond (Nat.beq pc 0) (some (.iload_n 1, 1, [])) (cond (Nat.beq pc 1) (some (.ifCond .lt 18, 4, [19])) (cond (Nat.beq pc 4) (some (.iload_n 1, 5, [])) (none))))))
theorem qkX9_isLine_ok : ∀ pc i nx ts, qkX9_isLine pc = some (i, nx, ts) → am_cok cX9_isLine pc (i, nx, ts) = true := fun pc i nx ts h => am_tok_ok (n := 21) (by decide +kernel) (fun pc h => by show cond (Nat.ble 21 pc) _ _ = _; rw [Nat.ble_eq_true_of_le h]; rfl) h
def qaX9_isLine : Nat → Option CE := fun k => none
theorem qyX9_isLine (l : Launch) : ∀ k e1, qaX9_isLine k = some e1 → am_cal l layM RX9 3 k e1 ∧ ceT e1 = 0 := q_nil
def qxX9_isLine : CX := (qkX9_isLine, layM, qfX9, qaX9_isLine, qcX9, qlX9, qmX9, (some .boolean), false, none, 0, none, fun _ => none)
theorem qzX9_isLine (l : Launch) : am_sta l qxX9_isLine RX9 3 cX9_isLine := ⟨qkX9_isLine_ok, layM_ok, qfX9_ok, qcX9_ok, qlX9_ok, am_mthP qmX9_ok (by decide), fun k e1 h => (qyX9_isLine l k e1 h).1⟩
def qsX9_isLine : SP := fun as F A K => match as with
  | [.inr (.inr o), .inl l] => cond (Nat.beq o 25) (((0 ≤ mF A 0 ∧ mF A 0 ≤ 8) ∧ (0 ≤ mF A 1 ∧ mF A 1 ≤ 6) ∧ (-2147483648 ≤ l ∧ l < 2147483648)) ∧ (K (some (some (vI (bi (0 ≤ l ∧ l < mF A 1))))) F A)) (False)
  | _ => False
def qeX9_isLine : CE := (yX9_isLine, cX9_isLine, 2, (some .boolean), 1, some 9, 0, [], 0, 3, qsX9_isLine)
theorem qbX9_isLine : am_mb qeX9_isLine := ⟨am_tb_at 1686 (by decide +kernel) rfl, am_tb_at 124 (by decide +kernel) rfl, ⟨by decide, by decide, by decide +kernel⟩, by decide, by decide, am_tb_at 1685 (by decide +kernel) rfl, am_tb_at 71 (by decide +kernel) rfl, _, _, rfl⟩
set_option maxRecDepth 20000 in
theorem qvX9_isLine_25 (l : Int) (F : FF) (A : AA) (K : KK) (h : ((0 ≤ mF A 0 ∧ mF A 0 ≤ 8) ∧ (0 ≤ mF A 1 ∧ mF A 1 ≤ 6) ∧ (-2147483648 ≤ l ∧ l < 2147483648)) ∧ (K (some (some (vI (bi (0 ≤ l ∧ l < mF A 1))))) F A)) : am_line qxX9_isLine 12 [vR 25, vI l] 2 F A K := by
  show am_stp qxX9_isLine (am_run qxX9_isLine (fun _ => none) (fun _ _ _ _ _ _ => False) K 12) K 0 [some (vR 25), some (vI l)] [] F A 0
  obtain ⟨hp, h⟩ := h
  have m0 : A 27 14 = mF A 0 := rfl
  have m1 : A 27 15 = mF A 1 := rfl
  show (w32 l < w32 0 → ((0 = 0 ∨ 0 = 1) ∧ (K (some (some (vI 0))) F A))) ∧ (¬ w32 l < w32 0 → ((0 ≤ w32 15 ∧ w32 15 < 16) ∧ ((w32 l < w32 (A 27 (w32 15)) → ((1 = 0 ∨ 1 = 1) ∧ (K (some (some (vI 1))) F A))) ∧ (¬ w32 l < w32 (A 27 (w32 15)) → ((0 = 0 ∨ 0 = 1) ∧ (K (some (some (vI 0))) F A))))))
  refine ⟨fun c1 => ?_, fun c1 => ?_⟩
  · skip
    (try simp (disch := omega) only [fat_in, w32_0, wbi0, Classical.not_not, w32_id] at c1); (try (rw [m0] at c1)); (try (rw [m1] at c1)); (try simp (disch := omega) only [fat_in, w32_0, wbi0, Classical.not_not, w32_id] at c1)
    refine ⟨by first | exact Or.inl rfl | exact Or.inr rfl | exact bi_01 | decide | omega, ?_⟩
    first | exact h | exact K_eq h (bi_t (by omega)) | exact K_eq h (bi_f (by omega))
  · skip
    (try simp (disch := omega) only [fat_in, w32_0, wbi0, Classical.not_not, w32_id] at c1); (try (rw [m0] at c1)); (try (rw [m1] at c1)); (try simp (disch := omega) only [fat_in, w32_0, wbi0, Classical.not_not, w32_id] at c1)
    refine ⟨by first | exact Or.inl rfl | exact Or.inr rfl | exact bi_01 | decide | omega, ?_⟩
    refine ⟨fun c2 => ?_, fun c2 => ?_⟩
    · skip
      (try simp (disch := omega) only [fat_in, w32_0, wbi0, Classical.not_not, w32_id] at c2); (try (rw [m0] at c2)); (try (rw [m1] at c2)); (try simp (disch := omega) only [fat_in, w32_0, wbi0, Classical.not_not, w32_id] at c2)
      refine ⟨by first | exact Or.inl rfl | exact Or.inr rfl | exact bi_01 | decide | omega, ?_⟩
      first | exact h | exact K_eq h (bi_t (by omega)) | exact K_eq h (bi_f (by omega))
    · skip
      (try simp (disch := omega) only [fat_in, w32_0, wbi0, Classical.not_not, w32_id] at c2); (try (rw [m0] at c2)); (try (rw [m1] at c2)); (try simp (disch := omega) only [fat_in, w32_0, wbi0, Classical.not_not, w32_id] at c2)
      refine ⟨by first | exact Or.inl rfl | exact Or.inr rfl | exact bi_01 | decide | omega, ?_⟩
      first | exact h | exact K_eq h (bi_t (by omega)) | exact K_eq h (bi_f (by omega))
theorem qtX9_isLine (l : Launch) : am_CT l layM qeX9_isLine := am_met0 rfl (by decide +kernel) rfl rfl rfl rfl rfl (fun _ => rfl) rfl (qzX9_isLine l) (fun k e1 h => (qyX9_isLine l k e1 h).2) (fun as F A K h => by
  replace h : qsX9_isLine as F A K := h
  unfold qsX9_isLine at h
  split at h
  · rename_i o l
    refine ⟨by first | exact Nat.le_of_ble_eq_true rfl | simp [am_fl, am_cat], ?_⟩
    replace h := am_cond2 h
    rcases h with ⟨hb, h⟩ | h
    · skip
      have hb0 := hb
      have hb0 := am_bq hb0
      subst hb0
      exact am_way_line (qvX9_isLine_25 l F A K h)
    exact h.elim
  · exact h.elim)
def qkX9_isPoint : Nat → Option CI := fun pc => cond (Nat.ble 19 pc) none (cond (Nat.ble 7 pc) (cond (Nat.ble 14 pc) (cond (Nat.beq pc 14) (some (.goto 4, 17, [18])) (cond (Nat.beq pc 17) (some (.iconst 0, 18, [])) (cond (Nat.beq pc 18) (some (.ireturn, 19, [])) (none)))) (cond (Nat.beq pc 7) (some (.invokevirtual 76, 10, [])) (cond (Nat.beq pc 10) (some (.if_icmp .ge 7, 13, [17])) (cond (Nat.beq pc 13) (some (.iconst 1, 14, [])) (none))))) (cond (Nat.ble 4 pc) (cond (Nat.beq pc 4) (some (.iload_n 2, 5, [])) (cond (Nat.beq pc 5) (some (.aload_n 0, 6, [])) (cond (Nat.beq pc 6) (some (.iload_n 1, 7, [])) (none)))) (cond (Nat.beq pc 0) (some (.iload_n 2, 1, [])) (cond (Nat.beq pc 1) (some (.ifCond .lt 16, 4, [17])) (none)))))
theorem qkX9_isPoint_ok : ∀ pc i nx ts, qkX9_isPoint pc = some (i, nx, ts) → am_cok cX9_isPoint pc (i, nx, ts) = true := fun pc i nx ts h => am_tok_ok (n := 19) (by decide +kernel) (fun pc h => by show cond (Nat.ble 19 pc) _ _ = _; rw [Nat.ble_eq_true_of_le h]; rfl) h
def qaX9_isPoint : Nat → Option CE := fun k => cond (Nat.beq k 76) (some qeX9_points) (none)
theorem qyX9_isPoint (l : Launch) : ∀ k e1, qaX9_isPoint k = some e1 → am_cal l layM RX9 4 k e1 ∧ ceT e1 = 0 := q_cons ⟨am_calV (ci := 9) (qtX9_points l) qbX9_points (by decide) rfl (am_tb_at 1663 (by decide +kernel) rfl), rfl⟩ (q_nil)
def qxX9_isPoint : CX := (qkX9_isPoint, layM, qfX9, qaX9_isPoint, qcX9, qlX9, qmX9, (some .boolean), false, none, 0, none, fun _ => none)
theorem qzX9_isPoint (l : Launch) : am_sta l qxX9_isPoint RX9 4 cX9_isPoint := ⟨qkX9_isPoint_ok, layM_ok, qfX9_ok, qcX9_ok, qlX9_ok, am_mthP qmX9_ok (by decide), fun k e1 h => (qyX9_isPoint l k e1 h).1⟩
def qsX9_isPoint : SP := fun as F A K => match as with
  | [.inr (.inr o), .inl c, .inl k] => cond (Nat.beq o 25) (((0 ≤ c ∧ c < 8) ∧ (2 ≤ mF A (18 + c) ∧ mF A (18 + c) ≤ 4) ∧ (-2147483648 ≤ k ∧ k < 2147483648)) ∧ (K (some (some (vI (bi (0 ≤ k ∧ k < mF A (18 + c)))))) F A)) (False)
  | _ => False
def qeX9_isPoint : CE := (yX9_isPoint, cX9_isPoint, 3, (some .boolean), 2, some 9, 0, [], 0, 4, qsX9_isPoint)
theorem qbX9_isPoint : am_mb qeX9_isPoint := ⟨am_tb_at 1674 (by decide +kernel) rfl, am_tb_at 124 (by decide +kernel) rfl, ⟨by decide, by decide, by decide +kernel⟩, by decide, by decide, am_tb_at 1673 (by decide +kernel) rfl, am_tb_at 69 (by decide +kernel) rfl, _, _, rfl⟩
set_option maxRecDepth 20000 in
theorem qvX9_isPoint_25 (c : Int) (k : Int) (F : FF) (A : AA) (K : KK) (h : ((0 ≤ c ∧ c < 8) ∧ (2 ≤ mF A (18 + c) ∧ mF A (18 + c) ≤ 4) ∧ (-2147483648 ≤ k ∧ k < 2147483648)) ∧ (K (some (some (vI (bi (0 ≤ k ∧ k < mF A (18 + c)))))) F A)) : am_line qxX9_isPoint 11 [vR 25, vI c, vI k] 3 F A K := by
  show am_stp qxX9_isPoint (am_run qxX9_isPoint (fun _ => none) (fun _ _ _ _ _ _ => False) K 11) K 0 [some (vR 25), some (vI c), some (vI k)] [] F A 0
  obtain ⟨hp, h⟩ := h
  show (w32 k < w32 0 → ((0 = 0 ∨ 0 = 1) ∧ (K (some (some (vI 0))) F A))) ∧ (¬ w32 k < w32 0 → ((0 ≤ c ∧ c < 8) ∧ ((w32 k < w32 (mF A (18 + c)) → ((1 = 0 ∨ 1 = 1) ∧ (K (some (some (vI 1))) F A))) ∧ (¬ w32 k < w32 (mF A (18 + c)) → ((0 = 0 ∨ 0 = 1) ∧ (K (some (some (vI 0))) F A))))))
  refine ⟨fun c1 => ?_, fun c1 => ?_⟩
  · skip
    (try simp (disch := omega) only [fat_in, w32_0, wbi0, Classical.not_not, w32_id] at c1)
    refine ⟨by first | exact Or.inl rfl | exact Or.inr rfl | exact bi_01 | omega, ?_⟩
    first | exact h | exact K_eq h (bi_t (by omega)) | exact K_eq h (bi_f (by omega))
  · skip
    (try simp (disch := omega) only [fat_in, w32_0, wbi0, Classical.not_not, w32_id] at c1)
    refine ⟨by first | exact Or.inl rfl | exact Or.inr rfl | exact bi_01 | omega, ?_⟩
    refine ⟨fun c2 => ?_, fun c2 => ?_⟩
    · skip
      (try simp (disch := omega) only [fat_in, w32_0, wbi0, Classical.not_not, w32_id] at c2)
      refine ⟨by first | exact Or.inl rfl | exact Or.inr rfl | exact bi_01 | omega, ?_⟩
      first | exact h | exact K_eq h (bi_t (by omega)) | exact K_eq h (bi_f (by omega))
    · skip
      (try simp (disch := omega) only [fat_in, w32_0, wbi0, Classical.not_not, w32_id] at c2)
      refine ⟨by first | exact Or.inl rfl | exact Or.inr rfl | exact bi_01 | omega, ?_⟩
      first | exact h | exact K_eq h (bi_t (by omega)) | exact K_eq h (bi_f (by omega))
theorem qtX9_isPoint (l : Launch) : am_CT l layM qeX9_isPoint := am_met0 rfl (by decide +kernel) rfl rfl rfl rfl rfl (fun _ => rfl) rfl (qzX9_isPoint l) (fun k e1 h => (qyX9_isPoint l k e1 h).2) (fun as F A K h => by
  replace h : qsX9_isPoint as F A K := h
  unfold qsX9_isPoint at h
  split at h
  · rename_i o c k
    refine ⟨by first | exact Nat.le_of_ble_eq_true rfl | simp [am_fl, am_cat], ?_⟩
    replace h := am_cond2 h
    rcases h with ⟨hb, h⟩ | h
    · skip
      have hb0 := hb
      have hb0 := am_bq hb0
      subst hb0
      exact am_way_line (qvX9_isPoint_25 c k F A K h)
    exact h.elim
  · exact h.elim)
def qkX9_isCell : Nat → Option CI := fun pc => cond (Nat.ble 26 pc) none (cond (Nat.ble 14 pc) (cond (Nat.ble 20 pc) (cond (Nat.ble 24 pc) (cond (Nat.beq pc 24) (some (.iconst 0, 25, [])) (cond (Nat.beq pc 25) (some (.ireturn, 26, [])) (none))) (cond (Nat.beq pc 20) (some (.iconst 1, 21, [])) (cond (Nat.beq pc 21) (some (.goto 4, 24, [25])) (none)))) (cond (Nat.ble 16 pc) (cond (Nat.beq pc 16) (some (.ishl, 17, [])) (cond (Nat.beq pc 17) (some (.if_icmp .ge 7, 20, [24])) (none))) (cond (Nat.beq pc 14) (some (.iconst 1, 15, [])) (cond (Nat.beq pc 15) (some (.iload_n 0, 16, [])) (none))))) (cond (Nat.ble 6 pc) (cond (Nat.ble 10 pc) (cond (Nat.beq pc 10) (some (.ifCond .lt 14, 13, [24])) (cond (Nat.beq pc 13) (some (.iload_n 2, 14, [])) (none))) (cond (Nat.beq pc 6) (some (.if_icmp .gt 18, 9, [24])) (cond (Nat.beq pc 9) (some (.iload_n 2, 10, [])) (none)))) (cond (Nat.ble 4 pc) (cond (Nat.beq pc 4) (some (.iload_n 0, 5, [])) (cond (Nat.beq pc 5) (some (.iload_n 1, 6, [])) (none))) (cond (Nat.beq pc 0) (some (.iload_n 0, 1, [])) (cond (Nat.beq pc 1) (some (.ifCond .lt 23, 4, [24])) (none))))))
theorem qkX9_isCell_ok : ∀ pc i nx ts, qkX9_isCell pc = some (i, nx, ts) → am_cok cX9_isCell pc (i, nx, ts) = true := fun pc i nx ts h => am_tok_ok (n := 26) (by decide +kernel) (fun pc h => by show cond (Nat.ble 26 pc) _ _ = _; rw [Nat.ble_eq_true_of_le h]; rfl) h
def qaX9_isCell : Nat → Option CE := fun k => none
theorem qyX9_isCell (l : Launch) : ∀ k e1, qaX9_isCell k = some e1 → am_cal l layM RX9 3 k e1 ∧ ceT e1 = 0 := q_nil
def qxX9_isCell : CX := (qkX9_isCell, layM, qfX9, qaX9_isCell, qcX9, qlX9, qmX9, (some .boolean), false, none, 0, none, fun _ => none)
theorem qzX9_isCell (l : Launch) : am_sta l qxX9_isCell RX9 3 cX9_isCell := ⟨qkX9_isCell_ok, layM_ok, qfX9_ok, qcX9_ok, qlX9_ok, am_mthP qmX9_ok (by decide), fun k e1 h => (qyX9_isCell l k e1 h).1⟩
def qsX9_isCell : SP := fun as F A K => match as with
  | [.inl d, .inl m, .inl q] => ((0 ≤ m ∧ m ≤ 12) ∧ (-2147483648 ≤ d ∧ d < 2147483648) ∧ (-2147483648 ≤ q ∧ q < 2147483648)) ∧ (K (some (some (vI (bi (0 ≤ d ∧ d ≤ m ∧ 0 ≤ q ∧ q < p2 d))))) F A)
  | _ => False
def qeX9_isCell : CE := (yX9_isCell, cX9_isCell, 3, (some .boolean), 3, none, 0, [], 0, 3, qsX9_isCell)
theorem qbX9_isCell : am_mb qeX9_isCell := ⟨am_tb_at 1697 (by decide +kernel) rfl, am_tb_at 124 (by decide +kernel) rfl, ⟨by decide, by decide, by decide +kernel⟩, by decide, am_tb_at 1696 (by decide +kernel) rfl⟩
set_option maxRecDepth 20000 in
theorem qvX9_isCell (d : Int) (m : Int) (q : Int) (F : FF) (A : AA) (K : KK) (h : ((0 ≤ m ∧ m ≤ 12) ∧ (-2147483648 ≤ d ∧ d < 2147483648) ∧ (-2147483648 ≤ q ∧ q < 2147483648)) ∧ (K (some (some (vI (bi (0 ≤ d ∧ d ≤ m ∧ 0 ≤ q ∧ q < p2 d))))) F A)) : am_line qxX9_isCell 16 [vI d, vI m, vI q] 3 F A K := by
  show am_stp qxX9_isCell (am_run qxX9_isCell (fun _ => none) (fun _ _ _ _ _ _ => False) K 16) K 0 [some (vI d), some (vI m), some (vI q)] [] F A 0
  obtain ⟨hp, h⟩ := h
  show (w32 d < w32 0 → ((0 = 0 ∨ 0 = 1) ∧ (K (some (some (vI 0))) F A))) ∧ (¬ w32 d < w32 0 → ((w32 m < w32 d → ((0 = 0 ∨ 0 = 1) ∧ (K (some (some (vI 0))) F A))) ∧ (¬ w32 m < w32 d → ((w32 q < w32 0 → ((0 = 0 ∨ 0 = 1) ∧ (K (some (some (vI 0))) F A))) ∧ (¬ w32 q < w32 0 → ((w32 q < w32 (x_shl 1 d) → ((1 = 0 ∨ 1 = 1) ∧ (K (some (some (vI 1))) F A))) ∧ (¬ w32 q < w32 (x_shl 1 d) → ((0 = 0 ∨ 0 = 1) ∧ (K (some (some (vI 0))) F A)))))))))
  refine ⟨fun c1 => ?_, fun c1 => ?_⟩
  · skip
    (try simp (disch := omega) only [w32_0, w32_id] at c1); (try rw [x_shl1 (by omega) (by omega)] at c1); (try have hp2 := p2_12' (k := d) (by omega)); (try have hp3 := @p2_pos d); (try simp (disch := omega) only [w32_id] at c1)
    refine ⟨by first | exact Or.inl rfl | exact Or.inr rfl | exact bi_01 | omega, ?_⟩
    first | exact h | exact K_eq h (bi_t (by omega)) | exact K_eq h (bi_f (by omega))
  · skip
    (try simp (disch := omega) only [w32_0, w32_id] at c1); (try rw [x_shl1 (by omega) (by omega)] at c1); (try have hp2 := p2_12' (k := d) (by omega)); (try have hp3 := @p2_pos d); (try simp (disch := omega) only [w32_id] at c1)
    refine ⟨fun c2 => ?_, fun c2 => ?_⟩
    · skip
      (try simp (disch := omega) only [w32_0, w32_id] at c2); (try rw [x_shl1 (by omega) (by omega)] at c2); (try have hp2 := p2_12' (k := d) (by omega)); (try have hp3 := @p2_pos d); (try simp (disch := omega) only [w32_id] at c2)
      refine ⟨by first | exact Or.inl rfl | exact Or.inr rfl | exact bi_01 | omega, ?_⟩
      first | exact h | exact K_eq h (bi_t (by omega)) | exact K_eq h (bi_f (by omega))
    · skip
      (try simp (disch := omega) only [w32_0, w32_id] at c2); (try rw [x_shl1 (by omega) (by omega)] at c2); (try have hp2 := p2_12' (k := d) (by omega)); (try have hp3 := @p2_pos d); (try simp (disch := omega) only [w32_id] at c2)
      refine ⟨fun c3 => ?_, fun c3 => ?_⟩
      · skip
        (try simp (disch := omega) only [w32_0, w32_id] at c3); (try rw [x_shl1 (by omega) (by omega)] at c3); (try have hp2 := p2_12' (k := d) (by omega)); (try have hp3 := @p2_pos d); (try simp (disch := omega) only [w32_id] at c3)
        refine ⟨by first | exact Or.inl rfl | exact Or.inr rfl | exact bi_01 | omega, ?_⟩
        first | exact h | exact K_eq h (bi_t (by omega)) | exact K_eq h (bi_f (by omega))
      · skip
        (try simp (disch := omega) only [w32_0, w32_id] at c3); (try rw [x_shl1 (by omega) (by omega)] at c3); (try have hp2 := p2_12' (k := d) (by omega)); (try have hp3 := @p2_pos d); (try simp (disch := omega) only [w32_id] at c3)
        refine ⟨fun c4 => ?_, fun c4 => ?_⟩
        · skip
          (try simp (disch := omega) only [w32_0, w32_id] at c4); (try rw [x_shl1 (by omega) (by omega)] at c4); (try have hp2 := p2_12' (k := d) (by omega)); (try have hp3 := @p2_pos d); (try simp (disch := omega) only [w32_id] at c4)
          refine ⟨by first | exact Or.inl rfl | exact Or.inr rfl | exact bi_01 | omega, ?_⟩
          first | exact h | exact K_eq h (bi_t (by omega)) | exact K_eq h (bi_f (by omega))
        · skip
          (try simp (disch := omega) only [w32_0, w32_id] at c4); (try rw [x_shl1 (by omega) (by omega)] at c4); (try have hp2 := p2_12' (k := d) (by omega)); (try have hp3 := @p2_pos d); (try simp (disch := omega) only [w32_id] at c4)
          refine ⟨by first | exact Or.inl rfl | exact Or.inr rfl | exact bi_01 | omega, ?_⟩
          first | exact h | exact K_eq h (bi_t (by omega)) | exact K_eq h (bi_f (by omega))
theorem qtX9_isCell (l : Launch) : am_CT l layM qeX9_isCell := am_met0 rfl (by decide +kernel) rfl rfl rfl rfl rfl (fun _ => rfl) rfl (qzX9_isCell l) (fun k e1 h => (qyX9_isCell l k e1 h).2) (fun as F A K h => by
  replace h : qsX9_isCell as F A K := h
  unfold qsX9_isCell at h
  split at h
  · rename_i d m q
    refine ⟨by first | exact Nat.le_of_ble_eq_true rfl | simp [am_fl, am_cat], ?_⟩
    exact am_way_line (qvX9_isCell d m q F A K h)
  · exact h.elim)
def qkX9_checks : Nat → Option CI := fun pc => cond (Nat.ble 15 pc) none (cond (Nat.ble 6 pc) (cond (Nat.ble 10 pc) (cond (Nat.beq pc 10) (some (.putfield 70, 13, [])) (cond (Nat.beq pc 13) (some (.iload_n 1, 14, [])) (cond (Nat.beq pc 14) (some (.ireturn, 15, [])) (none)))) (cond (Nat.beq pc 6) (some (.goto 4, 9, [10])) (cond (Nat.beq pc 9) (some (.iconst 1, 10, [])) (none)))) (cond (Nat.ble 2 pc) (cond (Nat.beq pc 2) (some (.ifCond .eq 7, 5, [9])) (cond (Nat.beq pc 5) (some (.iconst 0, 6, [])) (none))) (cond (Nat.beq pc 0) (some (.aload_n 0, 1, [])) (cond (Nat.beq pc 1) (some (.iload_n 1, 2, [])) (none)))))
theorem qkX9_checks_ok : ∀ pc i nx ts, qkX9_checks pc = some (i, nx, ts) → am_cok cX9_checks pc (i, nx, ts) = true := fun pc i nx ts h => am_tok_ok (n := 15) (by decide +kernel) (fun pc h => by show cond (Nat.ble 15 pc) _ _ = _; rw [Nat.ble_eq_true_of_le h]; rfl) h
def qaX9_checks : Nat → Option CE := fun k => none
theorem qyX9_checks (l : Launch) : ∀ k e1, qaX9_checks k = some e1 → am_cal l layM RX9 3 k e1 ∧ ceT e1 = 0 := q_nil
def qxX9_checks : CX := (qkX9_checks, layM, qfX9, qaX9_checks, qcX9, qlX9, qmX9, (some .boolean), false, none, 0, none, fun _ => none)
theorem qzX9_checks (l : Launch) : am_sta l qxX9_checks RX9 3 cX9_checks := ⟨qkX9_checks_ok, layM_ok, qfX9_ok, qcX9_ok, qlX9_ok, am_mthP qmX9_ok (by decide), fun k e1 h => (qyX9_checks l k e1 h).1⟩
def qsX9_checks : SP := fun as F A K => match as with
  | [.inr (.inr o), .inl z] => cond (Nat.beq o 25) ((z = 0 ∨ z = 1) ∧ (K (some (some (vI z))) (upF F 25 0 (1 - z)) A)) (False)
  | _ => False
def qeX9_checks : CE := (yX9_checks, cX9_checks, 2, (some .boolean), 1, some 9, 0, [], 0, 3, qsX9_checks)
theorem qbX9_checks : am_mb qeX9_checks := ⟨am_tb_at 1658 (by decide +kernel) rfl, am_tb_at 124 (by decide +kernel) rfl, ⟨by decide, by decide, by decide +kernel⟩, by decide, by decide, am_tb_at 1657 (by decide +kernel) rfl, am_tb_at 66 (by decide +kernel) rfl, _, _, rfl⟩
set_option maxRecDepth 20000 in
theorem qvX9_checks_25 (z : Int) (F : FF) (A : AA) (K : KK) (h : (z = 0 ∨ z = 1) ∧ (K (some (some (vI z))) (upF F 25 0 (1 - z)) A)) : am_line qxX9_checks 9 [vR 25, vI z] 2 F A K := by
  show am_stp qxX9_checks (am_run qxX9_checks (fun _ => none) (fun _ _ _ _ _ _ => False) K 9) K 0 [some (vR 25), some (vI z)] [] F A 0
  obtain ⟨hp, h⟩ := h
  show (w32 z = w32 0 → ((z = 0 ∨ z = 1) ∧ (K (some (some (vI z))) (upF F 25 0 1) A))) ∧ (¬ w32 z = w32 0 → ((z = 0 ∨ z = 1) ∧ (K (some (some (vI z))) (upF F 25 0 0) A)))
  refine ⟨fun c1 => ?_, fun c1 => ?_⟩
  · skip
    (try simp (disch := omega) only [fat_in, w32_0, wbi0, Classical.not_not, w32_id] at c1)
    refine ⟨by omega, ?_⟩
    exact FA_eq h rfl (by congr 1; omega) rfl
  · skip
    (try simp (disch := omega) only [fat_in, w32_0, wbi0, Classical.not_not, w32_id] at c1)
    refine ⟨by omega, ?_⟩
    exact FA_eq h rfl (by congr 1; omega) rfl
theorem qtX9_checks (l : Launch) : am_CT l layM qeX9_checks := am_met0 rfl (by decide +kernel) rfl rfl rfl rfl rfl (fun _ => rfl) rfl (qzX9_checks l) (fun k e1 h => (qyX9_checks l k e1 h).2) (fun as F A K h => by
  replace h : qsX9_checks as F A K := h
  unfold qsX9_checks at h
  split at h
  · rename_i o z
    refine ⟨by first | exact Nat.le_of_ble_eq_true rfl | simp [am_fl, am_cat], ?_⟩
    replace h := am_cond2 h
    rcases h with ⟨hb, h⟩ | h
    · skip
      have hb0 := hb
      have hb0 := am_bq hb0
      subst hb0
      exact am_way_line (qvX9_checks_25 z F A K h)
    exact h.elim
  · exact h.elim)
