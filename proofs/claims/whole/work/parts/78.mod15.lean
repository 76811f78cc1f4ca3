def qkX9_isPlace : Nat → Option CI := fun pc => cond (Nat.ble 26 pc) none (cond (Nat.ble 14 pc) (cond (Nat.ble 20 pc) (cond (Nat.ble 24 pc) (cond (Nat.beq pc 24) (some (.iconst 0, 25, [])) (cond (Nat.beq pc 25) (some (.ireturn, 26, [])) (none))) (cond (Nat.beq pc 20) (some (.iconst 1, 21, [])) (cond (Nat.beq pc 21) (some (.goto 4, 24, [25])) (none)))) (cond (Nat.beq pc 14) (some (.iload_n 1, 15, [])) (cond (Nat.beq pc 15) (some (.bipush 20, 17, [])) (cond (Nat.beq pc 17) (some (.if_icmp .gt 7, 20, [24])) (none))))) (cond (Nat.ble 5 pc) (cond (Nat.ble 10 pc) (cond (Nat.beq pc 10) (some (.iload_n 1, 11, [])) (cond (Nat.beq pc 11) (some (.ifCond .lt 13, 14, [24])) (none))) (cond (Nat.beq pc 5) (some (.bipush 20, 7, [])) (cond (Nat.beq pc 7) (some (.if_icmp .gt 17, 10, [24])) (none)))) (cond (Nat.beq pc 0) (some (.iload_n 0, 1, [])) (cond (Nat.beq pc 1) (some (.ifCond .lt 23, 4, [24])) (cond (Nat.beq pc 4) (some (.iload_n 0, 5, [])) (none))))))
theorem qkX9_isPlace_ok : ∀ pc i nx ts, qkX9_isPlace pc = some (i, nx, ts) → am_cok cX9_isPlace pc (i, nx, ts) = true := fun pc i nx ts h => am_tok_ok (n := 26) (by decide +kernel) (fun pc h => by show cond (Nat.ble 26 pc) _ _ = _; rw [Nat.ble_eq_true_of_le h]; rfl) h
def qaX9_isPlace : Nat → Option CE := fun k => none
theorem qyX9_isPlace (l : Launch) : ∀ k e1, qaX9_isPlace k = some e1 → am_cal l layM RX9 3 k e1 ∧ ceT e1 = 0 := q_nil
def qxX9_isPlace : CX := (qkX9_isPlace, layM, qfX9, qaX9_isPlace, qcX9, qlX9, qmX9, (some .boolean), false, none, 0, none, fun _ => none)
theorem qzX9_isPlace (l : Launch) : am_sta l qxX9_isPlace RX9 3 cX9_isPlace := ⟨qkX9_isPlace_ok, layM_ok, qfX9_ok, qcX9_ok, qlX9_ok, am_mthP qmX9_ok (by decide), fun k e1 h => (qyX9_isPlace l k e1 h).1⟩
def qsX9_isPlace : SP := fun as F A K => match as with
  | [.inl x, .inl y] => ((-2147483648 ≤ x ∧ x < 2147483648) ∧ (-2147483648 ≤ y ∧ y < 2147483648)) ∧ (K (some (some (vI (bi (0 ≤ x ∧ x ≤ 20 ∧ 0 ≤ y ∧ y ≤ 20))))) F A)
  | _ => False
def qeX9_isPlace : CE := (yX9_isPlace, cX9_isPlace, 2, (some .boolean), 2, none, 0, [], 0, 3, qsX9_isPlace)
theorem qbX9_isPlace : am_mb qeX9_isPlace := ⟨am_tb_at 2029 (by decide +kernel) rfl, am_tb_at 124 (by decide +kernel) rfl, ⟨by decide, by decide, by decide +kernel⟩, by decide, am_tb_at 2028 (by decide +kernel) rfl⟩
set_option maxRecDepth 20000 in
theorem qvX9_isPlace (x : Int) (y : Int) (F : FF) (A : AA) (K : KK) (h : ((-2147483648 ≤ x ∧ x < 2147483648) ∧ (-2147483648 ≤ y ∧ y < 2147483648)) ∧ (K (some (some (vI (bi (0 ≤ x ∧ x ≤ 20 ∧ 0 ≤ y ∧ y ≤ 20))))) F A)) : am_line qxX9_isPlace 14 [vI x, vI y] 2 F A K := by
  show am_stp qxX9_isPlace (am_run qxX9_isPlace (fun _ => none) (fun _ _ _ _ _ _ => False) K 14) K 0 [some (vI x), some (vI y)] [] F A 0
  obtain ⟨hp, h⟩ := h
  show (w32 x < w32 0 → ((0 = 0 ∨ 0 = 1) ∧ (K (some (some (vI 0))) F A))) ∧ (¬ w32 x < w32 0 → ((w32 20 < w32 x → ((0 = 0 ∨ 0 = 1) ∧ (K (some (some (vI 0))) F A))) ∧ (¬ w32 20 < w32 x → ((w32 y < w32 0 → ((0 = 0 ∨ 0 = 1) ∧ (K (some (some (vI 0))) F A))) ∧ (¬ w32 y < w32 0 → ((w32 20 < w32 y → ((0 = 0 ∨ 0 = 1) ∧ (K (some (some (vI 0))) F A))) ∧ (¬ w32 20 < w32 y → ((1 = 0 ∨ 1 = 1) ∧ (K (some (some (vI 1))) F A)))))))))
  refine ⟨fun c1 => ?_, fun c1 => ?_⟩
  · skip
    (try simp (disch := omega) only [fat_in, w32_0, wbi0, Classical.not_not, w32_id] at c1)
    refine ⟨by first | exact Or.inl rfl | exact Or.inr rfl | exact bi_01 | omega, ?_⟩
    first | exact h | exact K_eq h (bi_t (by omega)) | exact K_eq h (bi_f (by omega))
  · skip
    (try simp (disch := omega) only [fat_in, w32_0, wbi0, Classical.not_not, w32_id] at c1)
    refine ⟨fun c2 => ?_, fun c2 => ?_⟩
    · skip
      (try simp (disch := omega) only [fat_in, w32_0, wbi0, Classical.not_not, w32_id] at c2)
      refine ⟨by first | exact Or.inl rfl | exact Or.inr rfl | exact bi_01 | omega, ?_⟩
      first | exact h | exact K_eq h (bi_t (by omega)) | exact K_eq h (bi_f (by omega))
    · skip
      (try simp (disch := omega) only [fat_in, w32_0, wbi0, Classical.not_not, w32_id] at c2)
      refine ⟨fun c3 => ?_, fun c3 => ?_⟩
      · skip
        (try simp (disch := omega) only [fat_in, w32_0, wbi0, Classical.not_not, w32_id] at c3)
        refine ⟨by first | exact Or.inl rfl | exact Or.inr rfl | exact bi_01 | omega, ?_⟩
        first | exact h | exact K_eq h (bi_t (by omega)) | exact K_eq h (bi_f (by omega))
      · skip
        (try simp (disch := omega) only [fat_in, w32_0, wbi0, Classical.not_not, w32_id] at c3)
        refine ⟨fun c4 => ?_, fun c4 => ?_⟩
        · skip
          (try simp (disch := omega) only [fat_in, w32_0, wbi0, Classical.not_not, w32_id] at c4)
          refine ⟨by first | exact Or.inl rfl | exact Or.inr rfl | exact bi_01 | omega, ?_⟩
          first | exact h | exact K_eq h (bi_t (by omega)) | exact K_eq h (bi_f (by omega))
        · skip
          (try simp (disch := omega) only [fat_in, w32_0, wbi0, Classical.not_not, w32_id] at c4)
          refine ⟨by first | exact Or.inl rfl | exact Or.inr rfl | exact bi_01 | omega, ?_⟩
          first | exact h | exact K_eq h (bi_t (by omega)) | exact K_eq h (bi_f (by omega))
theorem qtX9_isPlace (l : Launch) : am_CT l layM qeX9_isPlace := am_met0 rfl (by decide +kernel) rfl rfl rfl rfl rfl (fun _ => rfl) rfl (qzX9_isPlace l) (fun k e1 h => (qyX9_isPlace l k e1 h).2) (fun as F A K h => by
  replace h : qsX9_isPlace as F A K := h
  unfold qsX9_isPlace at h
  split at h
  · rename_i x y
    refine ⟨by first | exact Nat.le_of_ble_eq_true rfl | simp [am_fl, am_cat], ?_⟩
    exact am_way_line (qvX9_isPlace x y F A K h)
  · exact h.elim)
def qkX9_top : Nat → Option CI := fun pc => cond (Nat.ble 12 pc) none (cond (Nat.ble 6 pc) (cond (Nat.beq pc 6) (some (.goto 5, 9, [11])) (cond (Nat.beq pc 9) (some (.bipush 6, 11, [])) (cond (Nat.beq pc 11) (some (.ireturn, 12, [])) (none)))) (cond (Nat.beq pc 0) (some (.iload_n 0, 1, [])) (cond (Nat.beq pc 1) (some (.ifCond .ne 8, 4, [9])) (cond (Nat.beq pc 4) (some (.bipush 12, 6, [])) (none)))))
theorem qkX9_top_ok : ∀ pc i nx ts, qkX9_top pc = some (i, nx, ts) → am_cok cX9_top pc (i, nx, ts) = true := fun pc i nx ts h => am_tok_ok (n := 12) (by decide +kernel) (fun pc h => by show cond (Nat.ble 12 pc) _ _ = _; rw [Nat.ble_eq_true_of_le h]; rfl) h
def qaX9_top : Nat → Option CE := fun k => none
theorem qyX9_top (l : Launch) : ∀ k e1, qaX9_top k = some e1 → am_cal l layM RX9 3 k e1 ∧ ceT e1 = 0 := q_nil
def qxX9_top : CX := (qkX9_top, layM, qfX9, qaX9_top, qcX9, qlX9, qmX9, (some .int), false, none, 0, none, fun _ => none)
theorem qzX9_top (l : Launch) : am_sta l qxX9_top RX9 3 cX9_top := ⟨qkX9_top_ok, layM_ok, qfX9_ok, qcX9_ok, qlX9_ok, am_mthP qmX9_ok (by decide), fun k e1 h => (qyX9_top l k e1 h).1⟩
def qsX9_top : SP := fun as F A K => match as with
  | [.inl s] => ((-2147483648 ≤ s ∧ s < 2147483648)) ∧ (K (some (some (vI (if s = 0 then 12 else 6)))) F A)
  | _ => False
def qeX9_top : CE := (yX9_top, cX9_top, 1, (some .int), 1, none, 0, [], 0, 3, qsX9_top)
theorem qbX9_top : am_mb qeX9_top := ⟨am_tb_at 1614 (by decide +kernel) rfl, am_tb_at 124 (by decide +kernel) rfl, ⟨by decide, by decide, by decide +kernel⟩, by decide, am_tb_at 1613 (by decide +kernel) rfl⟩
set_option maxRecDepth 20000 in
theorem qvX9_top (s : Int) (F : FF) (A : AA) (K : KK) (h : ((-2147483648 ≤ s ∧ s < 2147483648)) ∧ (K (some (some (vI (if s = 0 then 12 else 6)))) F A)) : am_line qxX9_top 6 [vI s] 1 F A K := by
  show am_stp qxX9_top (am_run qxX9_top (fun _ => none) (fun _ _ _ _ _ _ => False) K 6) K 0 [some (vI s)] [] F A 0
  obtain ⟨hp, h⟩ := h
  show (w32 s = w32 0 → (K (some (some (vI 12))) F A)) ∧ (¬ w32 s = w32 0 → (K (some (some (vI 6))) F A))
  refine ⟨fun c1 => ?_, fun c1 => ?_⟩
  · skip
    (try simp (disch := omega) only [fat_in, w32_0, wbi0, Classical.not_not, w32_id] at c1)
    first | exact K_eq h (if_pos (by omega)) | exact K_eq h (if_neg (by omega))
  · skip
    (try simp (disch := omega) only [fat_in, w32_0, wbi0, Classical.not_not, w32_id] at c1)
    first | exact K_eq h (if_pos (by omega)) | exact K_eq h (if_neg (by omega))
theorem qtX9_top (l : Launch) : am_CT l layM qeX9_top := am_met0 rfl (by decide +kernel) rfl rfl rfl rfl rfl (fun _ => rfl) rfl (qzX9_top l) (fun k e1 h => (qyX9_top l k e1 h).2) (fun as F A K h => by
  replace h : qsX9_top as F A K := h
  unfold qsX9_top at h
  split at h
  · rename_i s
    refine ⟨by first | exact Nat.le_of_ble_eq_true rfl | simp [am_fl, am_cat], ?_⟩
    exact am_way_line (qvX9_top s F A K h)
  · exact h.elim)
def qkX9_movePoint : Nat → Option CI := fun pc => cond (Nat.ble 80 pc) none (cond (Nat.ble 44 pc) (cond (Nat.ble 61 pc) (cond (Nat.ble 69 pc) (cond (Nat.ble 72 pc) (cond (Nat.ble 77 pc) (cond (Nat.beq pc 77) (some (.iload 5, 79, [])) (cond (Nat.beq pc 79) (some (.ireturn, 80, [])) (none))) (cond (Nat.beq pc 72) (some (.iload 4, 74, [])) (cond (Nat.beq pc 74) (some (.invokevirtual 263, 77, [])) (none)))) (cond (Nat.beq pc 69) (some (.iload_n 1, 70, [])) (cond (Nat.beq pc 70) (some (.iload_n 2, 71, [])) (cond (Nat.beq pc 71) (some (.iconst 1, 72, [])) (none))))) (cond (Nat.ble 64 pc) (cond (Nat.beq pc 64) (some (.iload_n 3, 65, [])) (cond (Nat.beq pc 65) (some (.invokevirtual 263, 68, [])) (cond (Nat.beq pc 68) (some (.aload_n 0, 69, [])) (none)))) (cond (Nat.beq pc 61) (some (.iload_n 1, 62, [])) (cond (Nat.beq pc 62) (some (.iload_n 2, 63, [])) (cond (Nat.beq pc 63) (some (.iconst 0, 64, [])) (none)))))) (cond (Nat.ble 52 pc) (cond (Nat.ble 57 pc) (cond (Nat.beq pc 57) (some (.iadd, 58, [])) (cond (Nat.beq pc 58) (some (.istore 5, 60, [])) (cond (Nat.beq pc 60) (some (.aload_n 0, 61, [])) (none)))) (cond (Nat.beq pc 52) (some (.iload_n 2, 53, [])) (cond (Nat.beq pc 53) (some (.iconst 1, 54, [])) (cond (Nat.beq pc 54) (some (.invokevirtual 83, 57, [])) (none))))) (cond (Nat.ble 49 pc) (cond (Nat.beq pc 49) (some (.imul, 50, [])) (cond (Nat.beq pc 50) (some (.aload_n 0, 51, [])) (cond (Nat.beq pc 51) (some (.iload_n 1, 52, [])) (none)))) (cond (Nat.beq pc 44) (some (.iload_n 2, 45, [])) (cond (Nat.beq pc 45) (some (.iconst 0, 46, [])) (cond (Nat.beq pc 46) (some (.invokevirtual 83, 49, [])) (none))))))) (cond (Nat.ble 22 pc) (cond (Nat.ble 33 pc) (cond (Nat.ble 37 pc) (cond (Nat.ble 42 pc) (cond (Nat.beq pc 42) (some (.aload_n 0, 43, [])) (cond (Nat.beq pc 43) (some (.iload_n 1, 44, [])) (none))) (cond (Nat.beq pc 37) (some (.invokevirtual 411, 40, [])) (cond (Nat.beq pc 40) (some (.bipush 100, 42, [])) (none)))) (cond (Nat.beq pc 33) (some (.bipush (-2), 35, [])) (cond (Nat.beq pc 35) (some (.ireturn, 36, [])) (cond (Nat.beq pc 36) (some (.aload_n 0, 37, [])) (none))))) (cond (Nat.ble 25 pc) (cond (Nat.beq pc 25) (some (.iload 4, 27, [])) (cond (Nat.beq pc 27) (some (.invokestatic 408, 30, [])) (cond (Nat.beq pc 30) (some (.ifCond .ne 6, 33, [36])) (none)))) (cond (Nat.beq pc 22) (some (.iconst (-1), 23, [])) (cond (Nat.beq pc 23) (some (.ireturn, 24, [])) (cond (Nat.beq pc 24) (some (.iload_n 3, 25, [])) (none)))))) (cond (Nat.ble 10 pc) (cond (Nat.ble 15 pc) (cond (Nat.beq pc 15) (some (.iload_n 2, 16, [])) (cond (Nat.beq pc 16) (some (.invokevirtual 305, 19, [])) (cond (Nat.beq pc 19) (some (.ifCond .ne 5, 22, [24])) (none)))) (cond (Nat.beq pc 10) (some (.ifCond .eq 12, 13, [22])) (cond (Nat.beq pc 13) (some (.aload_n 0, 14, [])) (cond (Nat.beq pc 14) (some (.iload_n 1, 15, [])) (none))))) (cond (Nat.ble 5 pc) (cond (Nat.beq pc 5) (some (.aload_n 0, 6, [])) (cond (Nat.beq pc 6) (some (.iload_n 1, 7, [])) (cond (Nat.beq pc 7) (some (.invokevirtual 298, 10, [])) (none)))) (cond (Nat.beq pc 0) (some (.aload_n 0, 1, [])) (cond (Nat.beq pc 1) (some (.iconst 0, 2, [])) (cond (Nat.beq pc 2) (some (.putfield 70, 5, [])) (none))))))))
theorem qkX9_movePoint_ok : ∀ pc i nx ts, qkX9_movePoint pc = some (i, nx, ts) → am_cok cX9_movePoint pc (i, nx, ts) = true := fun pc i nx ts h => am_tok_ok (n := 80) (by decide +kernel) (fun pc h => by show cond (Nat.ble 80 pc) _ _ = _; rw [Nat.ble_eq_true_of_le h]; rfl) h
def qaX9_movePoint : Nat → Option CE := fun k => cond (Nat.beq k 298) (some qeX9_isCurve) (cond (Nat.beq k 305) (some qeX9_isPoint) (cond (Nat.beq k 408) (some qeX9_isPlace) (cond (Nat.beq k 411) (some qeX9_keeps) (cond (Nat.beq k 83) (some qeX9_point) (cond (Nat.beq k 263) (some qeX9_setPoint) (none))))))
theorem qyX9_movePoint (l : Launch) : ∀ k e1, qaX9_movePoint k = some e1 → am_cal l layM RX9 5 k e1 ∧ ceT e1 = 0 := q_cons ⟨am_calV (ci := 9) (qtX9_isCurve l) qbX9_isCurve (by decide) rfl (am_tb_at 1651 (by decide +kernel) rfl), rfl⟩ (q_cons ⟨am_calV (ci := 9) (qtX9_isPoint l) qbX9_isPoint (by decide) rfl (am_tb_at 1671 (by decide +kernel) rfl), rfl⟩ (q_cons ⟨am_calS (qtX9_isPlace l) qbX9_isPlace (by decide) rfl (by decide) (am_tb_at 2027 (by decide +kernel) rfl), rfl⟩ (q_cons ⟨am_calV (ci := 9) (qtX9_keeps l) qbX9_keeps (by decide) rfl (am_tb_at 2038 (by decide +kernel) rfl), rfl⟩ (q_cons ⟨am_calV (ci := 9) (qtX9_point l) qbX9_point (by decide) rfl (am_tb_at 1675 (by decide +kernel) rfl), rfl⟩ (q_cons ⟨am_calV (ci := 9) (qtX9_setPoint l) qbX9_setPoint (by decide) rfl (am_tb_at 1596 (by decide +kernel) rfl), rfl⟩ (q_nil))))))
def qxX9_movePoint : CX := (qkX9_movePoint, layM, qfX9, qaX9_movePoint, qcX9, qlX9, qmX9, (some .int), false, none, 0, none, fun _ => none)
theorem qzX9_movePoint (l : Launch) : am_sta l qxX9_movePoint RX9 5 cX9_movePoint := ⟨qkX9_movePoint_ok, layM_ok, qfX9_ok, qcX9_ok, qlX9_ok, am_mthP qmX9_ok (by decide), fun k e1 h => (qyX9_movePoint l k e1 h).1⟩
def qsX9_movePoint : SP := fun as F A K => match as with
  | [.inr (.inr o), .inl c, .inl k, .inl x, .inl y] => cond (Nat.beq o 25) ((fgOK (mF A) ∧ (0 ≤ (F 25 8) ∧ (F 25 8) ≤ 10) ∧ (-2147483648 ≤ c ∧ c < 2147483648) ∧ (-2147483648 ≤ k ∧ k < 2147483648) ∧ (-2147483648 ≤ x ∧ x < 2147483648) ∧ (-2147483648 ≤ y ∧ y < 2147483648)) ∧ (∀ (G_1 : FF) (B_1 : AA), (msQ ((0 ≤ c ∧ c < mF A 0 ∧ 0 ≤ k ∧ k < mF A (18 + c)) ∧ (0 ≤ x ∧ x ≤ 20 ∧ 0 ≤ y ∧ y ≤ 20)) F G_1 A B_1 (movR (mF A) c k x y)) → (K (some (some (vI (if (0 ≤ c ∧ c < mF A 0 ∧ 0 ≤ k ∧ k < mF A (18 + c)) then (if (0 ≤ x ∧ x ≤ 20 ∧ 0 ≤ y ∧ y ≤ 20) then 100 * pxF (mF A) c k 0 + pxF (mF A) c k 1 else -2) else -1)))) G_1 B_1))) (False)
  | _ => False
def qeX9_movePoint : CE := (yX9_movePoint, cX9_movePoint, 6, (some .int), 4, some 9, 0, [], 0, 5, qsX9_movePoint)
theorem qbX9_movePoint : am_mb qeX9_movePoint := ⟨am_tb_at 2037 (by decide +kernel) rfl, am_tb_at 124 (by decide +kernel) rfl, ⟨by decide, by decide, by decide +kernel⟩, by decide, by decide, am_tb_at 2035 (by decide +kernel) rfl, am_tb_at 2036 (by decide +kernel) rfl, _, _, rfl⟩
set_option maxRecDepth 20000 in
theorem qvX9_movePoint_25 (c : Int) (k : Int) (x : Int) (y : Int) (F : FF) (A : AA) (K : KK) (h : (fgOK (mF A) ∧ (0 ≤ (F 25 8) ∧ (F 25 8) ≤ 10) ∧ (-2147483648 ≤ c ∧ c < 2147483648) ∧ (-2147483648 ≤ k ∧ k < 2147483648) ∧ (-2147483648 ≤ x ∧ x < 2147483648) ∧ (-2147483648 ≤ y ∧ y < 2147483648)) ∧ (∀ (G_1 : FF) (B_1 : AA), (msQ ((0 ≤ c ∧ c < mF A 0 ∧ 0 ≤ k ∧ k < mF A (18 + c)) ∧ (0 ≤ x ∧ x ≤ 20 ∧ 0 ≤ y ∧ y ≤ 20)) F G_1 A B_1 (movR (mF A) c k x y)) → (K (some (some (vI (if (0 ≤ c ∧ c < mF A 0 ∧ 0 ≤ k ∧ k < mF A (18 + c)) then (if (0 ≤ x ∧ x ≤ 20 ∧ 0 ≤ y ∧ y ≤ 20) then 100 * pxF (mF A) c k 0 + pxF (mF A) c k 1 else -2) else -1)))) G_1 B_1))) : am_line qxX9_movePoint 47 [vR 25, vI c, vI k, vI x, vI y] 6 F A K := by
  show am_stp qxX9_movePoint (am_run qxX9_movePoint (fun _ => none) (fun _ _ _ _ _ _ => False) K 47) K 0 [some (vR 25), some (vI c), some (vI k), some (vI x), some (vI y), none] [] F A 0
  obtain ⟨hp, h⟩ := h
  have p1 := hp.1
  have pu := hp.2.1
  have q1 := p1.1.1
  have q2 := p1.1.2
  have q4 := p1.2.1

  show ((0 ≤ mF A 0 ∧ mF A 0 ≤ 8) ∧ (0 ≤ mF A 1 ∧ mF A 1 ≤ 6) ∧ (-2147483648 ≤ c ∧ c < 2147483648)) ∧ ((w32 (bi (0 ≤ c ∧ c < mF A 0)) = w32 0 → (K (some (some (vI (-1)))) (upF F 25 0 0) A)) ∧ (¬ (w32 (bi (0 ≤ c ∧ c < mF A 0)) = w32 0) → (((0 ≤ c ∧ c < 8) ∧ (2 ≤ mF A (18 + c) ∧ mF A (18 + c) ≤ 4) ∧ (-2147483648 ≤ k ∧ k < 2147483648)) ∧ ((w32 (bi (0 ≤ k ∧ k < mF A (18 + c))) = w32 0 → (K (some (some (vI (-1)))) (upF F 25 0 0) A)) ∧ (¬ (w32 (bi (0 ≤ k ∧ k < mF A (18 + c))) = w32 0) → (((-2147483648 ≤ x ∧ x < 2147483648) ∧ (-2147483648 ≤ y ∧ y < 2147483648)) ∧ ((w32 (bi (0 ≤ x ∧ x ≤ 20 ∧ 0 ≤ y ∧ y ≤ 20)) = w32 0 → (K (some (some (vI (-2)))) (upF F 25 0 0) A)) ∧ (¬ (w32 (bi (0 ≤ x ∧ x ≤ 20 ∧ 0 ≤ y ∧ y ≤ 20)) = w32 0) → ((0 ≤ (F 25 8) ∧ (F 25 8) ≤ 10) ∧ (∀ (G_1 : FF) (B_1 : AA), (keP (upF F 25 0 0) G_1 A B_1) → (((0 ≤ c ∧ c < 8) ∧ (0 ≤ k ∧ k < 4) ∧ 0 ≤ 0 ∧ 0 ≤ 2) ∧ (((0 ≤ c ∧ c < 8) ∧ (0 ≤ k ∧ k < 4) ∧ 0 ≤ 1 ∧ 1 ≤ 2) ∧ (((0 ≤ c ∧ c < 8) ∧ (0 ≤ k ∧ k < 4) ∧ 0 ≤ 0 ∧ 0 ≤ 2) ∧ (((0 ≤ c ∧ c < 8) ∧ (0 ≤ k ∧ k < 4) ∧ 0 ≤ 1 ∧ 1 ≤ 2) ∧ (K (some (some (vI ((100 * (pxF (mF B_1) c k 0)) + (pxF (mF B_1) c k 1))))) G_1 (upA (upA B_1 29 (13 * c + 1 + 3 * k + 0) x) 29 (13 * c + 1 + 3 * k + 1) y))))))))))))))))
  refine ⟨by first | exact bi_01 | omega | (have q3 := (p1.2.2.1 c (by omega) (by omega)).1; first | omega | exact ⟨by omega, by omega, by omega⟩) | (rw [upF_o (show (25 : Nat) ≠ 25 ∨ (8 : Nat) ≠ 0 by decide)]; exact pu), ?_⟩
  refine ⟨fun c1 => ?_, fun c1 => ?_⟩
  · skip
    (try simp only [w32_0, wbi0, Classical.not_not] at c1); (try simp (disch := omega) only [w32_0, wbi0, Classical.not_not, w32_id] at c1)
    first
    | exact K_eq (h _ _ ⟨fun z => absurd z (by omega), fun _ => ⟨rfl, rfl⟩⟩) (if_neg (by omega))
    | exact K_eq (h _ _ ⟨fun z => absurd z (by omega), fun _ => ⟨rfl, rfl⟩⟩) (by rw [if_pos (by omega), if_neg (by omega)])
    | (have q3 := (p1.2.2.1 c (by omega) (by omega)).1
       have eG := keP_f g1
       refine K_eq (h _ _ ⟨fun _ => msP_of g1 (fun b i hb => (upA_k hb).trans (upA_k hb)) ?_, fun z => absurd (by omega) z⟩) ?_
       · rw [mF_pu (by omega) (by omega) (by omega) (by omega) (by omega) (by omega), mF_pu (by omega) (by omega) (by omega) (by omega) (by omega) (by omega), eG]
         funext i
         unfold movR
         dsimp only
         by_cases e1 : i = 26 + (c * 4 + k) * 3 + 1
         · rw [if_pos e1, if_neg (by omega), if_pos e1]
         · rw [if_neg e1]
           by_cases e0 : i = 26 + (c * 4 + k) * 3
           · rw [if_pos (by omega), if_pos e0]
           · rw [if_neg (by omega), if_neg e0, if_neg e1]
       · rw [eG, if_pos (by omega), if_pos (by omega)])
  · skip
    (try simp only [w32_0, wbi0, Classical.not_not] at c1); (try simp (disch := omega) only [w32_0, wbi0, Classical.not_not, w32_id] at c1)
    refine ⟨by first | exact bi_01 | omega | (have q3 := (p1.2.2.1 c (by omega) (by omega)).1; first | omega | exact ⟨by omega, by omega, by omega⟩) | (rw [upF_o (show (25 : Nat) ≠ 25 ∨ (8 : Nat) ≠ 0 by decide)]; exact pu), ?_⟩
    refine ⟨fun c2 => ?_, fun c2 => ?_⟩
    · skip
      (try simp only [w32_0, wbi0, Classical.not_not] at c2); (try simp (disch := omega) only [w32_0, wbi0, Classical.not_not, w32_id] at c2)
      first
      | exact K_eq (h _ _ ⟨fun z => absurd z (by omega), fun _ => ⟨rfl, rfl⟩⟩) (if_neg (by omega))
      | exact K_eq (h _ _ ⟨fun z => absurd z (by omega), fun _ => ⟨rfl, rfl⟩⟩) (by rw [if_pos (by omega), if_neg (by omega)])
      | (have q3 := (p1.2.2.1 c (by omega) (by omega)).1
         have eG := keP_f g1
         refine K_eq (h _ _ ⟨fun _ => msP_of g1 (fun b i hb => (upA_k hb).trans (upA_k hb)) ?_, fun z => absurd (by omega) z⟩) ?_
         · rw [mF_pu (by omega) (by omega) (by omega) (by omega) (by omega) (by omega), mF_pu (by omega) (by omega) (by omega) (by omega) (by omega) (by omega), eG]
           funext i
           unfold movR
           dsimp only
           by_cases e1 : i = 26 + (c * 4 + k) * 3 + 1
           · rw [if_pos e1, if_neg (by omega), if_pos e1]
           · rw [if_neg e1]
             by_cases e0 : i = 26 + (c * 4 + k) * 3
             · rw [if_pos (by omega), if_pos e0]
             · rw [if_neg (by omega), if_neg e0, if_neg e1]
         · rw [eG, if_pos (by omega), if_pos (by omega)])
    · skip
      (try simp only [w32_0, wbi0, Classical.not_not] at c2); (try simp (disch := omega) only [w32_0, wbi0, Classical.not_not, w32_id] at c2)
      refine ⟨by first | exact bi_01 | omega | (have q3 := (p1.2.2.1 c (by omega) (by omega)).1; first | omega | exact ⟨by omega, by omega, by omega⟩) | (rw [upF_o (show (25 : Nat) ≠ 25 ∨ (8 : Nat) ≠ 0 by decide)]; exact pu), ?_⟩
      refine ⟨fun c3 => ?_, fun c3 => ?_⟩
      · skip
        (try simp only [w32_0, wbi0, Classical.not_not] at c3); (try simp (disch := omega) only [w32_0, wbi0, Classical.not_not, w32_id] at c3)
        first
        | exact K_eq (h _ _ ⟨fun z => absurd z (by omega), fun _ => ⟨rfl, rfl⟩⟩) (if_neg (by omega))
        | exact K_eq (h _ _ ⟨fun z => absurd z (by omega), fun _ => ⟨rfl, rfl⟩⟩) (by rw [if_pos (by omega), if_neg (by omega)])
        | (have q3 := (p1.2.2.1 c (by omega) (by omega)).1
           have eG := keP_f g1
           refine K_eq (h _ _ ⟨fun _ => msP_of g1 (fun b i hb => (upA_k hb).trans (upA_k hb)) ?_, fun z => absurd (by omega) z⟩) ?_
           · rw [mF_pu (by omega) (by omega) (by omega) (by omega) (by omega) (by omega), mF_pu (by omega) (by omega) (by omega) (by omega) (by omega) (by omega), eG]
             funext i
             unfold movR
             dsimp only
             by_cases e1 : i = 26 + (c * 4 + k) * 3 + 1
             · rw [if_pos e1, if_neg (by omega), if_pos e1]
             · rw [if_neg e1]
               by_cases e0 : i = 26 + (c * 4 + k) * 3
               · rw [if_pos (by omega), if_pos e0]
               · rw [if_neg (by omega), if_neg e0, if_neg e1]
           · rw [eG, if_pos (by omega), if_pos (by omega)])
      · skip
        (try simp only [w32_0, wbi0, Classical.not_not] at c3); (try simp (disch := omega) only [w32_0, wbi0, Classical.not_not, w32_id] at c3)
        refine ⟨by first | exact bi_01 | omega | (have q3 := (p1.2.2.1 c (by omega) (by omega)).1; first | omega | exact ⟨by omega, by omega, by omega⟩) | (rw [upF_o (show (25 : Nat) ≠ 25 ∨ (8 : Nat) ≠ 0 by decide)]; exact pu), ?_⟩
        intro G_1 B_1 g1
        refine ⟨by first | exact bi_01 | omega | (have q3 := (p1.2.2.1 c (by omega) (by omega)).1; first | omega | exact ⟨by omega, by omega, by omega⟩) | (rw [upF_o (show (25 : Nat) ≠ 25 ∨ (8 : Nat) ≠ 0 by decide)]; exact pu), ?_⟩
        refine ⟨by first | exact bi_01 | omega | (have q3 := (p1.2.2.1 c (by omega) (by omega)).1; first | omega | exact ⟨by omega, by omega, by omega⟩) | (rw [upF_o (show (25 : Nat) ≠ 25 ∨ (8 : Nat) ≠ 0 by decide)]; exact pu), ?_⟩
        refine ⟨by first | exact bi_01 | omega | (have q3 := (p1.2.2.1 c (by omega) (by omega)).1; first | omega | exact ⟨by omega, by omega, by omega⟩) | (rw [upF_o (show (25 : Nat) ≠ 25 ∨ (8 : Nat) ≠ 0 by decide)]; exact pu), ?_⟩
        refine ⟨by first | exact bi_01 | omega | (have q3 := (p1.2.2.1 c (by omega) (by omega)).1; first | omega | exact ⟨by omega, by omega, by omega⟩) | (rw [upF_o (show (25 : Nat) ≠ 25 ∨ (8 : Nat) ≠ 0 by decide)]; exact pu), ?_⟩
        first
        | exact K_eq (h _ _ ⟨fun z => absurd z (by omega), fun _ => ⟨rfl, rfl⟩⟩) (if_neg (by omega))
        | exact K_eq (h _ _ ⟨fun z => absurd z (by omega), fun _ => ⟨rfl, rfl⟩⟩) (by rw [if_pos (by omega), if_neg (by omega)])
        | (have q3 := (p1.2.2.1 c (by omega) (by omega)).1
           have eG := keP_f g1
           refine K_eq (h _ _ ⟨fun _ => msP_of g1 (fun b i hb => (upA_k hb).trans (upA_k hb)) ?_, fun z => absurd (by omega) z⟩) ?_
           · rw [mF_pu (by omega) (by omega) (by omega) (by omega) (by omega) (by omega), mF_pu (by omega) (by omega) (by omega) (by omega) (by omega) (by omega), eG]
             funext i
             unfold movR
             dsimp only
             by_cases e1 : i = 26 + (c * 4 + k) * 3 + 1
             · rw [if_pos e1, if_neg (by omega), if_pos e1]
             · rw [if_neg e1]
               by_cases e0 : i = 26 + (c * 4 + k) * 3
               · rw [if_pos (by omega), if_pos e0]
               · rw [if_neg (by omega), if_neg e0, if_neg e1]
           · rw [eG, if_pos (by omega), if_pos (by omega)])
theorem qtX9_movePoint (l : Launch) : am_CT l layM qeX9_movePoint := am_met0 rfl (by decide +kernel) rfl rfl rfl rfl rfl (fun _ => rfl) rfl (qzX9_movePoint l) (fun k e1 h => (qyX9_movePoint l k e1 h).2) (fun as F A K h => by
  replace h : qsX9_movePoint as F A K := h
  unfold qsX9_movePoint at h
  split at h
  · rename_i o c k x y
    refine ⟨by first | exact Nat.le_of_ble_eq_true rfl | simp [am_fl, am_cat], ?_⟩
    replace h := am_cond2 h
    rcases h with ⟨hb, h⟩ | h
    · skip
      have hb0 := hb
      have hb0 := am_bq hb0
      subst hb0
      exact am_way_line (qvX9_movePoint_25 c k x y F A K h)
    exact h.elim
  · exact h.elim)
def qkX9_setWeight : Nat → Option CI := fun pc => cond (Nat.ble 61 pc) none (cond (Nat.ble 31 pc) (cond (Nat.ble 45 pc) (cond (Nat.ble 53 pc) (cond (Nat.ble 55 pc) (cond (Nat.beq pc 55) (some (.invokevirtual 263, 58, [])) (cond (Nat.beq pc 58) (some (.iload 4, 60, [])) (cond (Nat.beq pc 60) (some (.ireturn, 61, [])) (none)))) (cond (Nat.beq pc 53) (some (.iconst 2, 54, [])) (cond (Nat.beq pc 54) (some (.iload_n 3, 55, [])) (none)))) (cond (Nat.ble 50 pc) (cond (Nat.beq pc 50) (some (.aload_n 0, 51, [])) (cond (Nat.beq pc 51) (some (.iload_n 1, 52, [])) (cond (Nat.beq pc 52) (some (.iload_n 2, 53, [])) (none)))) (cond (Nat.beq pc 45) (some (.invokevirtual 83, 48, [])) (cond (Nat.beq pc 48) (some (.istore 4, 50, [])) (none))))) (cond (Nat.ble 38 pc) (cond (Nat.ble 42 pc) (cond (Nat.beq pc 42) (some (.iload_n 1, 43, [])) (cond (Nat.beq pc 43) (some (.iload_n 2, 44, [])) (cond (Nat.beq pc 44) (some (.iconst 2, 45, [])) (none)))) (cond (Nat.beq pc 38) (some (.invokevirtual 411, 41, [])) (cond (Nat.beq pc 41) (some (.aload_n 0, 42, [])) (none)))) (cond (Nat.ble 36 pc) (cond (Nat.beq pc 36) (some (.ireturn, 37, [])) (cond (Nat.beq pc 37) (some (.aload_n 0, 38, [])) (none))) (cond (Nat.beq pc 31) (some (.if_icmp .le 6, 34, [37])) (cond (Nat.beq pc 34) (some (.bipush (-2), 36, [])) (none)))))) (cond (Nat.ble 15 pc) (cond (Nat.ble 24 pc) (cond (Nat.ble 26 pc) (cond (Nat.beq pc 26) (some (.if_icmp .lt 8, 29, [34])) (cond (Nat.beq pc 29) (some (.iload_n 3, 30, [])) (cond (Nat.beq pc 30) (some (.iconst 3, 31, [])) (none)))) (cond (Nat.beq pc 24) (some (.iload_n 3, 25, [])) (cond (Nat.beq pc 25) (some (.iconst 1, 26, [])) (none)))) (cond (Nat.ble 19 pc) (cond (Nat.beq pc 19) (some (.ifCond .ne 5, 22, [24])) (cond (Nat.beq pc 22) (some (.iconst (-1), 23, [])) (cond (Nat.beq pc 23) (some (.ireturn, 24, [])) (none)))) (cond (Nat.beq pc 15) (some (.iload_n 2, 16, [])) (cond (Nat.beq pc 16) (some (.invokevirtual 305, 19, [])) (none))))) (cond (Nat.ble 6 pc) (cond (Nat.ble 10 pc) (cond (Nat.beq pc 10) (some (.ifCond .eq 12, 13, [22])) (cond (Nat.beq pc 13) (some (.aload_n 0, 14, [])) (cond (Nat.beq pc 14) (some (.iload_n 1, 15, [])) (none)))) (cond (Nat.beq pc 6) (some (.iload_n 1, 7, [])) (cond (Nat.beq pc 7) (some (.invokevirtual 298, 10, [])) (none)))) (cond (Nat.ble 2 pc) (cond (Nat.beq pc 2) (some (.putfield 70, 5, [])) (cond (Nat.beq pc 5) (some (.aload_n 0, 6, [])) (none))) (cond (Nat.beq pc 0) (some (.aload_n 0, 1, [])) (cond (Nat.beq pc 1) (some (.iconst 0, 2, [])) (none)))))))
theorem qkX9_setWeight_ok : ∀ pc i nx ts, qkX9_setWeight pc = some (i, nx, ts) → am_cok cX9_setWeight pc (i, nx, ts) = true := fun pc i nx ts h => am_tok_ok (n := 61) (by decide +kernel) (fun pc h => by show cond (Nat.ble 61 pc) _ _ = _; rw [Nat.ble_eq_true_of_le h]; rfl) h
def qaX9_setWeight : Nat → Option CE := fun k => cond (Nat.beq k 298) (some qeX9_isCurve) (cond (Nat.beq k 305) (some qeX9_isPoint) (cond (Nat.beq k 411) (some qeX9_keeps) (cond (Nat.beq k 83) (some qeX9_point) (cond (Nat.beq k 263) (some qeX9_setPoint) (none)))))
theorem qyX9_setWeight (l : Launch) : ∀ k e1, qaX9_setWeight k = some e1 → am_cal l layM RX9 5 k e1 ∧ ceT e1 = 0 := q_cons ⟨am_calV (ci := 9) (qtX9_isCurve l) qbX9_isCurve (by decide) rfl (am_tb_at 1651 (by decide +kernel) rfl), rfl⟩ (q_cons ⟨am_calV (ci := 9) (qtX9_isPoint l) qbX9_isPoint (by decide) rfl (am_tb_at 1671 (by decide +kernel) rfl), rfl⟩ (q_cons ⟨am_calV (ci := 9) (qtX9_keeps l) qbX9_keeps (by decide) rfl (am_tb_at 2038 (by decide +kernel) rfl), rfl⟩ (q_cons ⟨am_calV (ci := 9) (qtX9_point l) qbX9_point (by decide) rfl (am_tb_at 1675 (by decide +kernel) rfl), rfl⟩ (q_cons ⟨am_calV (ci := 9) (qtX9_setPoint l) qbX9_setPoint (by decide) rfl (am_tb_at 1596 (by decide +kernel) rfl), rfl⟩ (q_nil)))))
def qxX9_setWeight : CX := (qkX9_setWeight, layM, qfX9, qaX9_setWeight, qcX9, qlX9, qmX9, (some .int), false, none, 0, none, fun _ => none)
theorem qzX9_setWeight (l : Launch) : am_sta l qxX9_setWeight RX9 5 cX9_setWeight := ⟨qkX9_setWeight_ok, layM_ok, qfX9_ok, qcX9_ok, qlX9_ok, am_mthP qmX9_ok (by decide), fun k e1 h => (qyX9_setWeight l k e1 h).1⟩
def qsX9_setWeight : SP := fun as F A K => match as with
  | [.inr (.inr o), .inl c, .inl k, .inl w] => cond (Nat.beq o 25) ((fgOK (mF A) ∧ (0 ≤ (F 25 8) ∧ (F 25 8) ≤ 10) ∧ (-2147483648 ≤ c ∧ c < 2147483648) ∧ (-2147483648 ≤ k ∧ k < 2147483648) ∧ (-2147483648 ≤ w ∧ w < 2147483648)) ∧ (∀ (G_1 : FF) (B_1 : AA), (msQ ((0 ≤ c ∧ c < mF A 0 ∧ 0 ≤ k ∧ k < mF A (18 + c)) ∧ (1 ≤ w ∧ w ≤ 3)) F G_1 A B_1 (wgR (mF A) c k w)) → (K (some (some (vI (if (0 ≤ c ∧ c < mF A 0 ∧ 0 ≤ k ∧ k < mF A (18 + c)) then (if (1 ≤ w ∧ w ≤ 3) then pxF (mF A) c k 2 else -2) else -1)))) G_1 B_1))) (False)
  | _ => False
def qeX9_setWeight : CE := (yX9_setWeight, cX9_setWeight, 5, (some .int), 3, some 9, 0, [], 0, 5, qsX9_setWeight)
theorem qbX9_setWeight : am_mb qeX9_setWeight := ⟨am_tb_at 2045 (by decide +kernel) rfl, am_tb_at 124 (by decide +kernel) rfl, ⟨by decide, by decide, by decide +kernel⟩, by decide, by decide, am_tb_at 2043 (by decide +kernel) rfl, am_tb_at 2044 (by decide +kernel) rfl, _, _, rfl⟩
set_option maxRecDepth 20000 in
theorem qvX9_setWeight_25 (c : Int) (k : Int) (w : Int) (F : FF) (A : AA) (K : KK) (h : (fgOK (mF A) ∧ (0 ≤ (F 25 8) ∧ (F 25 8) ≤ 10) ∧ (-2147483648 ≤ c ∧ c < 2147483648) ∧ (-2147483648 ≤ k ∧ k < 2147483648) ∧ (-2147483648 ≤ w ∧ w < 2147483648)) ∧ (∀ (G_1 : FF) (B_1 : AA), (msQ ((0 ≤ c ∧ c < mF A 0 ∧ 0 ≤ k ∧ k < mF A (18 + c)) ∧ (1 ≤ w ∧ w ≤ 3)) F G_1 A B_1 (wgR (mF A) c k w)) → (K (some (some (vI (if (0 ≤ c ∧ c < mF A 0 ∧ 0 ≤ k ∧ k < mF A (18 + c)) then (if (1 ≤ w ∧ w ≤ 3) then pxF (mF A) c k 2 else -2) else -1)))) G_1 B_1))) : am_line qxX9_setWeight 35 [vR 25, vI c, vI k, vI w] 5 F A K := by
  show am_stp qxX9_setWeight (am_run qxX9_setWeight (fun _ => none) (fun _ _ _ _ _ _ => False) K 35) K 0 [some (vR 25), some (vI c), some (vI k), some (vI w), none] [] F A 0
  obtain ⟨hp, h⟩ := h
  have p1 := hp.1
  have pu := hp.2.1
  have q1 := p1.1.1
  have q2 := p1.1.2
  have q4 := p1.2.1

  show ((0 ≤ mF A 0 ∧ mF A 0 ≤ 8) ∧ (0 ≤ mF A 1 ∧ mF A 1 ≤ 6) ∧ (-2147483648 ≤ c ∧ c < 2147483648)) ∧ ((w32 (bi (0 ≤ c ∧ c < mF A 0)) = w32 0 → (K (some (some (vI (-1)))) (upF F 25 0 0) A)) ∧ (¬ (w32 (bi (0 ≤ c ∧ c < mF A 0)) = w32 0) → (((0 ≤ c ∧ c < 8) ∧ (2 ≤ mF A (18 + c) ∧ mF A (18 + c) ≤ 4) ∧ (-2147483648 ≤ k ∧ k < 2147483648)) ∧ ((w32 (bi (0 ≤ k ∧ k < mF A (18 + c))) = w32 0 → (K (some (some (vI (-1)))) (upF F 25 0 0) A)) ∧ (¬ (w32 (bi (0 ≤ k ∧ k < mF A (18 + c))) = w32 0) → ((w32 w < w32 1 → (K (some (some (vI (-2)))) (upF F 25 0 0) A)) ∧ (¬ w32 w < w32 1 → ((w32 3 < w32 w → (K (some (some (vI (-2)))) (upF F 25 0 0) A)) ∧ (¬ w32 3 < w32 w → ((0 ≤ (F 25 8) ∧ (F 25 8) ≤ 10) ∧ (∀ (G_1 : FF) (B_1 : AA), (keP (upF F 25 0 0) G_1 A B_1) → (((0 ≤ c ∧ c < 8) ∧ (0 ≤ k ∧ k < 4) ∧ 0 ≤ 2 ∧ 2 ≤ 2) ∧ (((0 ≤ c ∧ c < 8) ∧ (0 ≤ k ∧ k < 4) ∧ 0 ≤ 2 ∧ 2 ≤ 2) ∧ (K (some (some (vI (pxF (mF B_1) c k 2)))) G_1 (upA B_1 29 (13 * c + 1 + 3 * k + 2) w)))))))))))))))
  refine ⟨by first | exact bi_01 | omega | (have q3 := (p1.2.2.1 c (by omega) (by omega)).1; first | omega | exact ⟨by omega, by omega, by omega⟩) | (rw [upF_o (show (25 : Nat) ≠ 25 ∨ (8 : Nat) ≠ 0 by decide)]; exact pu), ?_⟩
  refine ⟨fun c1 => ?_, fun c1 => ?_⟩
  · skip
    (try simp only [w32_0, wbi0, Classical.not_not] at c1); (try simp (disch := omega) only [w32_0, wbi0, Classical.not_not, w32_id] at c1)
    first
    | exact K_eq (h _ _ ⟨fun z => absurd z (by omega), fun _ => ⟨rfl, rfl⟩⟩) (if_neg (by omega))
    | exact K_eq (h _ _ ⟨fun z => absurd z (by omega), fun _ => ⟨rfl, rfl⟩⟩) (by rw [if_pos (by omega), if_neg (by omega)])
    | (have q3 := (p1.2.2.1 c (by omega) (by omega)).1
       have eG := keP_f g1
       refine K_eq (h _ _ ⟨fun _ => msP_of g1 (fun b i hb => (upA_k hb)) ?_, fun z => absurd (by omega) z⟩) ?_
       · rw [mF_pu (by omega) (by omega) (by omega) (by omega) (by omega) (by omega), eG]
         funext i
         rfl
       · rw [eG, if_pos (by omega), if_pos (by omega)])
  · skip
    (try simp only [w32_0, wbi0, Classical.not_not] at c1); (try simp (disch := omega) only [w32_0, wbi0, Classical.not_not, w32_id] at c1)
    refine ⟨by first | exact bi_01 | omega | (have q3 := (p1.2.2.1 c (by omega) (by omega)).1; first | omega | exact ⟨by omega, by omega, by omega⟩) | (rw [upF_o (show (25 : Nat) ≠ 25 ∨ (8 : Nat) ≠ 0 by decide)]; exact pu), ?_⟩
    refine ⟨fun c2 => ?_, fun c2 => ?_⟩
    · skip
      (try simp only [w32_0, wbi0, Classical.not_not] at c2); (try simp (disch := omega) only [w32_0, wbi0, Classical.not_not, w32_id] at c2)
      first
      | exact K_eq (h _ _ ⟨fun z => absurd z (by omega), fun _ => ⟨rfl, rfl⟩⟩) (if_neg (by omega))
      | exact K_eq (h _ _ ⟨fun z => absurd z (by omega), fun _ => ⟨rfl, rfl⟩⟩) (by rw [if_pos (by omega), if_neg (by omega)])
      | (have q3 := (p1.2.2.1 c (by omega) (by omega)).1
         have eG := keP_f g1
         refine K_eq (h _ _ ⟨fun _ => msP_of g1 (fun b i hb => (upA_k hb)) ?_, fun z => absurd (by omega) z⟩) ?_
         · rw [mF_pu (by omega) (by omega) (by omega) (by omega) (by omega) (by omega), eG]
           funext i
           rfl
         · rw [eG, if_pos (by omega), if_pos (by omega)])
    · skip
      (try simp only [w32_0, wbi0, Classical.not_not] at c2); (try simp (disch := omega) only [w32_0, wbi0, Classical.not_not, w32_id] at c2)
      refine ⟨fun c3 => ?_, fun c3 => ?_⟩
      · skip
        (try simp only [w32_0, wbi0, Classical.not_not] at c3); (try simp (disch := omega) only [w32_0, wbi0, Classical.not_not, w32_id] at c3)
        first
        | exact K_eq (h _ _ ⟨fun z => absurd z (by omega), fun _ => ⟨rfl, rfl⟩⟩) (if_neg (by omega))
        | exact K_eq (h _ _ ⟨fun z => absurd z (by omega), fun _ => ⟨rfl, rfl⟩⟩) (by rw [if_pos (by omega), if_neg (by omega)])
        | (have q3 := (p1.2.2.1 c (by omega) (by omega)).1
           have eG := keP_f g1
           refine K_eq (h _ _ ⟨fun _ => msP_of g1 (fun b i hb => (upA_k hb)) ?_, fun z => absurd (by omega) z⟩) ?_
           · rw [mF_pu (by omega) (by omega) (by omega) (by omega) (by omega) (by omega), eG]
             funext i
             rfl
           · rw [eG, if_pos (by omega), if_pos (by omega)])
      · skip
        (try simp only [w32_0, wbi0, Classical.not_not] at c3); (try simp (disch := omega) only [w32_0, wbi0, Classical.not_not, w32_id] at c3)
        refine ⟨fun c4 => ?_, fun c4 => ?_⟩
        · skip
          (try simp only [w32_0, wbi0, Classical.not_not] at c4); (try simp (disch := omega) only [w32_0, wbi0, Classical.not_not, w32_id] at c4)
          first
          | exact K_eq (h _ _ ⟨fun z => absurd z (by omega), fun _ => ⟨rfl, rfl⟩⟩) (if_neg (by omega))
          | exact K_eq (h _ _ ⟨fun z => absurd z (by omega), fun _ => ⟨rfl, rfl⟩⟩) (by rw [if_pos (by omega), if_neg (by omega)])
          | (have q3 := (p1.2.2.1 c (by omega) (by omega)).1
             have eG := keP_f g1
             refine K_eq (h _ _ ⟨fun _ => msP_of g1 (fun b i hb => (upA_k hb)) ?_, fun z => absurd (by omega) z⟩) ?_
             · rw [mF_pu (by omega) (by omega) (by omega) (by omega) (by omega) (by omega), eG]
               funext i
               rfl
             · rw [eG, if_pos (by omega), if_pos (by omega)])
        · skip
          (try simp only [w32_0, wbi0, Classical.not_not] at c4); (try simp (disch := omega) only [w32_0, wbi0, Classical.not_not, w32_id] at c4)
          refine ⟨by first | exact bi_01 | omega | (have q3 := (p1.2.2.1 c (by omega) (by omega)).1; first | omega | exact ⟨by omega, by omega, by omega⟩) | (rw [upF_o (show (25 : Nat) ≠ 25 ∨ (8 : Nat) ≠ 0 by decide)]; exact pu), ?_⟩
          intro G_1 B_1 g1
          refine ⟨by first | exact bi_01 | omega | (have q3 := (p1.2.2.1 c (by omega) (by omega)).1; first | omega | exact ⟨by omega, by omega, by omega⟩) | (rw [upF_o (show (25 : Nat) ≠ 25 ∨ (8 : Nat) ≠ 0 by decide)]; exact pu), ?_⟩
          refine ⟨by first | exact bi_01 | omega | (have q3 := (p1.2.2.1 c (by omega) (by omega)).1; first | omega | exact ⟨by omega, by omega, by omega⟩) | (rw [upF_o (show (25 : Nat) ≠ 25 ∨ (8 : Nat) ≠ 0 by decide)]; exact pu), ?_⟩
          first
          | exact K_eq (h _ _ ⟨fun z => absurd z (by omega), fun _ => ⟨rfl, rfl⟩⟩) (if_neg (by omega))
          | exact K_eq (h _ _ ⟨fun z => absurd z (by omega), fun _ => ⟨rfl, rfl⟩⟩) (by rw [if_pos (by omega), if_neg (by omega)])
          | (have q3 := (p1.2.2.1 c (by omega) (by omega)).1
             have eG := keP_f g1
             refine K_eq (h _ _ ⟨fun _ => msP_of g1 (fun b i hb => (upA_k hb)) ?_, fun z => absurd (by omega) z⟩) ?_
             · rw [mF_pu (by omega) (by omega) (by omega) (by omega) (by omega) (by omega), eG]
               funext i
               rfl
             · rw [eG, if_pos (by omega), if_pos (by omega)])
theorem qtX9_setWeight (l : Launch) : am_CT l layM qeX9_setWeight := am_met0 rfl (by decide +kernel) rfl rfl rfl rfl rfl (fun _ => rfl) rfl (qzX9_setWeight l) (fun k e1 h => (qyX9_setWeight l k e1 h).2) (fun as F A K h => by
  replace h : qsX9_setWeight as F A K := h
  unfold qsX9_setWeight at h
  split at h
  · rename_i o c k w
    refine ⟨by first | exact Nat.le_of_ble_eq_true rfl | simp [am_fl, am_cat], ?_⟩
    replace h := am_cond2 h
    rcases h with ⟨hb, h⟩ | h
    · skip
      have hb0 := hb
      have hb0 := am_bq hb0
      subst hb0
      exact am_way_line (qvX9_setWeight_25 c k w F A K h)
    exact h.elim
  · exact h.elim)
def qkX9_setSetting : Nat → Option CI := fun pc => cond (Nat.ble 52 pc) none (cond (Nat.ble 29 pc) (cond (Nat.ble 41 pc) (cond (Nat.ble 48 pc) (cond (Nat.ble 50 pc) (cond (Nat.beq pc 50) (some (.iload_n 3, 51, [])) (cond (Nat.beq pc 51) (some (.ireturn, 52, [])) (none))) (cond (Nat.beq pc 48) (some (.iload_n 2, 49, [])) (cond (Nat.beq pc 49) (some (.iastore, 50, [])) (none)))) (cond (Nat.ble 46 pc) (cond (Nat.beq pc 46) (some (.iload_n 1, 47, [])) (cond (Nat.beq pc 47) (some (.iadd, 48, [])) (none))) (cond (Nat.beq pc 41) (some (.getfield 19, 44, [])) (cond (Nat.beq pc 44) (some (.bipush 122, 46, [])) (none))))) (cond (Nat.ble 35 pc) (cond (Nat.ble 39 pc) (cond (Nat.beq pc 39) (some (.istore_n 3, 40, [])) (cond (Nat.beq pc 40) (some (.aload_n 0, 41, [])) (none))) (cond (Nat.beq pc 35) (some (.iload_n 1, 36, [])) (cond (Nat.beq pc 36) (some (.invokevirtual 114, 39, [])) (none)))) (cond (Nat.ble 31 pc) (cond (Nat.beq pc 31) (some (.invokevirtual 411, 34, [])) (cond (Nat.beq pc 34) (some (.aload_n 0, 35, [])) (none))) (cond (Nat.beq pc 29) (some (.ireturn, 30, [])) (cond (Nat.beq pc 30) (some (.aload_n 0, 31, [])) (none)))))) (cond (Nat.ble 14 pc) (cond (Nat.ble 20 pc) (cond (Nat.ble 24 pc) (cond (Nat.beq pc 24) (some (.if_icmp .le 6, 27, [30])) (cond (Nat.beq pc 27) (some (.bipush (-2), 29, [])) (none))) (cond (Nat.beq pc 20) (some (.iload_n 1, 21, [])) (cond (Nat.beq pc 21) (some (.invokestatic 273, 24, [])) (none)))) (cond (Nat.ble 16 pc) (cond (Nat.beq pc 16) (some (.if_icmp .lt 11, 19, [27])) (cond (Nat.beq pc 19) (some (.iload_n 2, 20, [])) (none))) (cond (Nat.beq pc 14) (some (.iload_n 2, 15, [])) (cond (Nat.beq pc 15) (some (.iconst 1, 16, [])) (none))))) (cond (Nat.ble 6 pc) (cond (Nat.ble 10 pc) (cond (Nat.beq pc 10) (some (.iconst 1, 11, [])) (cond (Nat.beq pc 11) (some (.if_icmp .ne 16, 14, [27])) (none))) (cond (Nat.beq pc 6) (some (.ifCond .eq 8, 9, [14])) (cond (Nat.beq pc 9) (some (.iload_n 1, 10, [])) (none)))) (cond (Nat.ble 2 pc) (cond (Nat.beq pc 2) (some (.putfield 70, 5, [])) (cond (Nat.beq pc 5) (some (.iload_n 1, 6, [])) (none))) (cond (Nat.beq pc 0) (some (.aload_n 0, 1, [])) (cond (Nat.beq pc 1) (some (.iconst 0, 2, [])) (none)))))))
theorem qkX9_setSetting_ok : ∀ pc i nx ts, qkX9_setSetting pc = some (i, nx, ts) → am_cok cX9_setSetting pc (i, nx, ts) = true := fun pc i nx ts h => am_tok_ok (n := 52) (by decide +kernel) (fun pc h => by show cond (Nat.ble 52 pc) _ _ = _; rw [Nat.ble_eq_true_of_le h]; rfl) h
def qaX9_setSetting : Nat → Option CE := fun k => cond (Nat.beq k 273) (some qeX9_top) (cond (Nat.beq k 411) (some qeX9_keeps) (cond (Nat.beq k 114) (some qeX9_set) (none)))
theorem qyX9_setSetting (l : Launch) : ∀ k e1, qaX9_setSetting k = some e1 → am_cal l layM RX9 4 k e1 ∧ ceT e1 = 0 := q_cons ⟨am_calS (qtX9_top l) qbX9_top (by decide) rfl (by decide) (am_tb_at 1612 (by decide +kernel) rfl), rfl⟩ (q_cons ⟨am_calV (ci := 9) (qtX9_keeps l) qbX9_keeps (by decide) rfl (am_tb_at 2038 (by decide +kernel) rfl), rfl⟩ (q_cons ⟨am_calV (ci := 9) (qtX9_set l) qbX9_set (by decide) rfl (am_tb_at 1643 (by decide +kernel) rfl), rfl⟩ (q_nil)))
def qxX9_setSetting : CX := (qkX9_setSetting, layM, qfX9, qaX9_setSetting, qcX9, qlX9, qmX9, (some .int), false, none, 0, none, fun _ => none)
theorem qzX9_setSetting (l : Launch) : am_sta l qxX9_setSetting RX9 4 cX9_setSetting := ⟨qkX9_setSetting_ok, layM_ok, qfX9_ok, qcX9_ok, qlX9_ok, am_mthP qmX9_ok (by decide), fun k e1 h => (qyX9_setSetting l k e1 h).1⟩
def qsX9_setSetting : SP := fun as F A K => match as with
  | [.inr (.inr o), .inl s, .inl v] => cond (Nat.beq o 25) ((fgOK (mF A) ∧ (0 ≤ (F 25 8) ∧ (F 25 8) ≤ 10) ∧ (-2147483648 ≤ s ∧ s < 2147483648) ∧ (-2147483648 ≤ v ∧ v < 2147483648)) ∧ (∀ (G_1 : FF) (B_1 : AA), (msQ (((s = 0 ∨ s = 1) ∧ 1 ≤ v ∧ v ≤ (if s = 0 then 12 else 6))) F G_1 A B_1 (stR (mF A) s v)) → (K (some (some (vI (if ((s = 0 ∨ s = 1) ∧ 1 ≤ v ∧ v ≤ (if s = 0 then 12 else 6)) then mF A (2 + s) else -2)))) G_1 B_1))) (False)
  | _ => False
def qeX9_setSetting : CE := (yX9_setSetting, cX9_setSetting, 4, (some .int), 2, some 9, 0, [], 0, 4, qsX9_setSetting)
theorem qbX9_setSetting : am_mb qeX9_setSetting := ⟨am_tb_at 2065 (by decide +kernel) rfl, am_tb_at 124 (by decide +kernel) rfl, ⟨by decide, by decide, by decide +kernel⟩, by decide, by decide, am_tb_at 2063 (by decide +kernel) rfl, am_tb_at 2064 (by decide +kernel) rfl, _, _, rfl⟩
set_option maxRecDepth 20000 in
theorem qvX9_setSetting_25 (s : Int) (v : Int) (F : FF) (A : AA) (K : KK) (h : (fgOK (mF A) ∧ (0 ≤ (F 25 8) ∧ (F 25 8) ≤ 10) ∧ (-2147483648 ≤ s ∧ s < 2147483648) ∧ (-2147483648 ≤ v ∧ v < 2147483648)) ∧ (∀ (G_1 : FF) (B_1 : AA), (msQ (((s = 0 ∨ s = 1) ∧ 1 ≤ v ∧ v ≤ (if s = 0 then 12 else 6))) F G_1 A B_1 (stR (mF A) s v)) → (K (some (some (vI (if ((s = 0 ∨ s = 1) ∧ 1 ≤ v ∧ v ≤ (if s = 0 then 12 else 6)) then mF A (2 + s) else -2)))) G_1 B_1))) : am_line qxX9_setSetting 31 [vR 25, vI s, vI v] 4 F A K := by
  show am_stp qxX9_setSetting (am_run qxX9_setSetting (fun _ => none) (fun _ _ _ _ _ _ => False) K 31) K 0 [some (vR 25), some (vI s), some (vI v), none] [] F A 0
  obtain ⟨hp, h⟩ := h
  have p1 := hp.1
  have pu := hp.2.1
  have q1 := p1.1.1
  have q2 := p1.1.2
  have q4 := p1.2.1

  show (w32 s = w32 0 → ((w32 v < w32 1 → (K (some (some (vI (-2)))) (upF F 25 0 0) A)) ∧ (¬ w32 v < w32 1 → (((-2147483648 ≤ s ∧ s < 2147483648)) ∧ ((w32 (if s = 0 then 12 else 6) < w32 v → (K (some (some (vI (-2)))) (upF F 25 0 0) A)) ∧ (¬ w32 (if s = 0 then 12 else 6) < w32 v → ((0 ≤ (F 25 8) ∧ (F 25 8) ≤ 10) ∧ (∀ (G_1 : FF) (B_1 : AA), (keP (upF F 25 0 0) G_1 A B_1) → ((0 ≤ s ∧ s ≤ 1) ∧ ((0 ≤ w32 (122 + s) ∧ w32 (122 + s) < 124) ∧ (K (some (some (vI (mF B_1 (2 + s))))) G_1 (upA B_1 29 (w32 (122 + s)) v)))))))))))) ∧ (¬ w32 s = w32 0 → ((w32 s = w32 1 → ((w32 v < w32 1 → (K (some (some (vI (-2)))) (upF F 25 0 0) A)) ∧ (¬ w32 v < w32 1 → (((-2147483648 ≤ s ∧ s < 2147483648)) ∧ ((w32 (if s = 0 then 12 else 6) < w32 v → (K (some (some (vI (-2)))) (upF F 25 0 0) A)) ∧ (¬ w32 (if s = 0 then 12 else 6) < w32 v → ((0 ≤ (F 25 8) ∧ (F 25 8) ≤ 10) ∧ (∀ (G_1 : FF) (B_1 : AA), (keP (upF F 25 0 0) G_1 A B_1) → ((0 ≤ s ∧ s ≤ 1) ∧ ((0 ≤ w32 (122 + s) ∧ w32 (122 + s) < 124) ∧ (K (some (some (vI (mF B_1 (2 + s))))) G_1 (upA B_1 29 (w32 (122 + s)) v)))))))))))) ∧ (¬ w32 s = w32 1 → (K (some (some (vI (-2)))) (upF F 25 0 0) A))))
  refine ⟨fun c1 => ?_, fun c1 => ?_⟩
  · skip
    (try simp only [w32_0, wbi0, Classical.not_not] at c1); (try simp (disch := omega) only [w32_0, wbi0, Classical.not_not, w32_id] at c1)
    refine ⟨fun c2 => ?_, fun c2 => ?_⟩
    · skip
      (try simp only [w32_0, wbi0, Classical.not_not] at c2); (try simp (disch := omega) only [w32_0, wbi0, Classical.not_not, w32_id] at c2)
      first
      | exact K_eq (h _ _ ⟨fun z => absurd z (by omega), fun _ => ⟨rfl, rfl⟩⟩) (if_neg (by omega))
      | (have eG := keP_f g1
         have es : w32 (122 + s) = 122 + s := w32_id (by omega) (by omega)
         rw [es]
         refine K_eq (h _ _ ⟨fun _ => msP_of g1 (fun b i hb => upA_k hb) ?_, fun z => absurd (by omega) z⟩) ?_
         · rw [mF_su (by omega) (by omega), eG]; rfl
         · rw [eG, if_pos (by omega)])
    · skip
      (try simp only [w32_0, wbi0, Classical.not_not] at c2); (try simp (disch := omega) only [w32_0, wbi0, Classical.not_not, w32_id] at c2)
      refine ⟨by first | omega | (rw [upF_o (show (25 : Nat) ≠ 25 ∨ (8 : Nat) ≠ 0 by decide)]; exact pu) | (rw [w32_id (by omega) (by omega)]; omega), ?_⟩
      refine ⟨fun c3 => ?_, fun c3 => ?_⟩
      · skip
        (try simp only [w32_0, wbi0, Classical.not_not] at c3); (try simp (disch := omega) only [w32_0, wbi0, Classical.not_not, w32_id] at c3)
        first
        | exact K_eq (h _ _ ⟨fun z => absurd z (by omega), fun _ => ⟨rfl, rfl⟩⟩) (if_neg (by omega))
        | (have eG := keP_f g1
           have es : w32 (122 + s) = 122 + s := w32_id (by omega) (by omega)
           rw [es]
           refine K_eq (h _ _ ⟨fun _ => msP_of g1 (fun b i hb => upA_k hb) ?_, fun z => absurd (by omega) z⟩) ?_
           · rw [mF_su (by omega) (by omega), eG]; rfl
           · rw [eG, if_pos (by omega)])
      · skip
        (try simp only [w32_0, wbi0, Classical.not_not] at c3); (try simp (disch := omega) only [w32_0, wbi0, Classical.not_not, w32_id] at c3)
        refine ⟨by first | omega | (rw [upF_o (show (25 : Nat) ≠ 25 ∨ (8 : Nat) ≠ 0 by decide)]; exact pu) | (rw [w32_id (by omega) (by omega)]; omega), ?_⟩
        intro G_1 B_1 g1
        refine ⟨by first | omega | (rw [upF_o (show (25 : Nat) ≠ 25 ∨ (8 : Nat) ≠ 0 by decide)]; exact pu) | (rw [w32_id (by omega) (by omega)]; omega), ?_⟩
        refine ⟨by first | omega | (rw [upF_o (show (25 : Nat) ≠ 25 ∨ (8 : Nat) ≠ 0 by decide)]; exact pu) | (rw [w32_id (by omega) (by omega)]; omega), ?_⟩
        first
        | exact K_eq (h _ _ ⟨fun z => absurd z (by omega), fun _ => ⟨rfl, rfl⟩⟩) (if_neg (by omega))
        | (have eG := keP_f g1
           have es : w32 (122 + s) = 122 + s := w32_id (by omega) (by omega)
           rw [es]
           refine K_eq (h _ _ ⟨fun _ => msP_of g1 (fun b i hb => upA_k hb) ?_, fun z => absurd (by omega) z⟩) ?_
           · rw [mF_su (by omega) (by omega), eG]; rfl
           · rw [eG, if_pos (by omega)])
  · skip
    (try simp only [w32_0, wbi0, Classical.not_not] at c1); (try simp (disch := omega) only [w32_0, wbi0, Classical.not_not, w32_id] at c1)
    refine ⟨fun c2 => ?_, fun c2 => ?_⟩
    · skip
      (try simp only [w32_0, wbi0, Classical.not_not] at c2); (try simp (disch := omega) only [w32_0, wbi0, Classical.not_not, w32_id] at c2)
      refine ⟨fun c3 => ?_, fun c3 => ?_⟩
      · skip
        (try simp only [w32_0, wbi0, Classical.not_not] at c3); (try simp (disch := omega) only [w32_0, wbi0, Classical.not_not, w32_id] at c3)
        first
        | exact K_eq (h _ _ ⟨fun z => absurd z (by omega), fun _ => ⟨rfl, rfl⟩⟩) (if_neg (by omega))
        | (have eG := keP_f g1
           have es : w32 (122 + s) = 122 + s := w32_id (by omega) (by omega)
           rw [es]
           refine K_eq (h _ _ ⟨fun _ => msP_of g1 (fun b i hb => upA_k hb) ?_, fun z => absurd (by omega) z⟩) ?_
           · rw [mF_su (by omega) (by omega), eG]; rfl
           · rw [eG, if_pos (by omega)])
      · skip
        (try simp only [w32_0, wbi0, Classical.not_not] at c3); (try simp (disch := omega) only [w32_0, wbi0, Classical.not_not, w32_id] at c3)
        refine ⟨by first | omega | (rw [upF_o (show (25 : Nat) ≠ 25 ∨ (8 : Nat) ≠ 0 by decide)]; exact pu) | (rw [w32_id (by omega) (by omega)]; omega), ?_⟩
        refine ⟨fun c4 => ?_, fun c4 => ?_⟩
        · skip
          (try simp only [w32_0, wbi0, Classical.not_not] at c4); (try simp (disch := omega) only [w32_0, wbi0, Classical.not_not, w32_id] at c4)
          first
          | exact K_eq (h _ _ ⟨fun z => absurd z (by omega), fun _ => ⟨rfl, rfl⟩⟩) (if_neg (by omega))
          | (have eG := keP_f g1
             have es : w32 (122 + s) = 122 + s := w32_id (by omega) (by omega)
             rw [es]
             refine K_eq (h _ _ ⟨fun _ => msP_of g1 (fun b i hb => upA_k hb) ?_, fun z => absurd (by omega) z⟩) ?_
             · rw [mF_su (by omega) (by omega), eG]; rfl
             · rw [eG, if_pos (by omega)])
        · skip
          (try simp only [w32_0, wbi0, Classical.not_not] at c4); (try simp (disch := omega) only [w32_0, wbi0, Classical.not_not, w32_id] at c4)
          refine ⟨by first | omega | (rw [upF_o (show (25 : Nat) ≠ 25 ∨ (8 : Nat) ≠ 0 by decide)]; exact pu) | (rw [w32_id (by omega) (by omega)]; omega), ?_⟩
          intro G_1 B_1 g1
          refine ⟨by first | omega | (rw [upF_o (show (25 : Nat) ≠ 25 ∨ (8 : Nat) ≠ 0 by decide)]; exact pu) | (rw [w32_id (by omega) (by omega)]; omega), ?_⟩
          refine ⟨by first | omega | (rw [upF_o (show (25 : Nat) ≠ 25 ∨ (8 : Nat) ≠ 0 by decide)]; exact pu) | (rw [w32_id (by omega) (by omega)]; omega), ?_⟩
          first
          | exact K_eq (h _ _ ⟨fun z => absurd z (by omega), fun _ => ⟨rfl, rfl⟩⟩) (if_neg (by omega))
          | (have eG := keP_f g1
             have es : w32 (122 + s) = 122 + s := w32_id (by omega) (by omega)
             rw [es]
             refine K_eq (h _ _ ⟨fun _ => msP_of g1 (fun b i hb => upA_k hb) ?_, fun z => absurd (by omega) z⟩) ?_
             · rw [mF_su (by omega) (by omega), eG]; rfl
             · rw [eG, if_pos (by omega)])
    · skip
      (try simp only [w32_0, wbi0, Classical.not_not] at c2); (try simp (disch := omega) only [w32_0, wbi0, Classical.not_not, w32_id] at c2)
      first
      | exact K_eq (h _ _ ⟨fun z => absurd z (by omega), fun _ => ⟨rfl, rfl⟩⟩) (if_neg (by omega))
      | (have eG := keP_f g1
         have es : w32 (122 + s) = 122 + s := w32_id (by omega) (by omega)
         rw [es]
         refine K_eq (h _ _ ⟨fun _ => msP_of g1 (fun b i hb => upA_k hb) ?_, fun z => absurd (by omega) z⟩) ?_
         · rw [mF_su (by omega) (by omega), eG]; rfl
         · rw [eG, if_pos (by omega)])
theorem qtX9_setSetting (l : Launch) : am_CT l layM qeX9_setSetting := am_met0 rfl (by decide +kernel) rfl rfl rfl rfl rfl (fun _ => rfl) rfl (qzX9_setSetting l) (fun k e1 h => (qyX9_setSetting l k e1 h).2) (fun as F A K h => by
  replace h : qsX9_setSetting as F A K := h
  unfold qsX9_setSetting at h
  split at h
  · rename_i o s v
    refine ⟨by first | exact Nat.le_of_ble_eq_true rfl | simp [am_fl, am_cat], ?_⟩
    replace h := am_cond2 h
    rcases h with ⟨hb, h⟩ | h
    · skip
      have hb0 := hb
      have hb0 := am_bq hb0
      subst hb0
      exact am_way_line (qvX9_setSetting_25 s v F A K h)
    exact h.elim
  · exact h.elim)
