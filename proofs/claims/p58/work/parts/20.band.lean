def qkX3_forget : Nat → Option CI := fun pc => cond (Nat.ble 6 pc) none (cond (Nat.ble 2 pc) (cond (Nat.beq pc 2) (some (.putfield 17, 5, [])) (cond (Nat.beq pc 5) (some (.return_, 6, [])) (none))) (cond (Nat.beq pc 0) (some (.aload_n 0, 1, [])) (cond (Nat.beq pc 1) (some (.iconst 0, 2, [])) (none))))
theorem qkX3_forget_ok : ∀ pc i nx ts, qkX3_forget pc = some (i, nx, ts) → am_cok cX3_forget pc (i, nx, ts) = true := fun pc i nx ts h => am_tok_ok (n := 6) (by decide +kernel) (fun pc h => by show cond (Nat.ble 6 pc) _ _ = _; rw [Nat.ble_eq_true_of_le h]; rfl) h
def qaX3_forget : Nat → Option CE := fun k => none
theorem qyX3_forget (l : Launch) : ∀ k e1, qaX3_forget k = some e1 → am_cal l layX RX3 3 k e1 ∧ ceT e1 = 0 := q_nil
def qxX3_forget : CX := (qkX3_forget, layX, qfX3, qaX3_forget, qcX3, qlX3, qmX3, none, false, none, 0, none, fun _ => none)
theorem qzX3_forget (l : Launch) : am_sta l qxX3_forget RX3 3 cX3_forget := ⟨qkX3_forget_ok, layX_ok, qfX3_ok, qcX3_ok, qlX3_ok, am_mthP qmX3_ok (by decide), fun k e1 h => (qyX3_forget l k e1 h).1⟩
def qsX3_forget : SP := fun as F A K => match as with
  | [.inr (.inr o)] => cond (Nat.beq o 5) (K (some none) (upF F 5 2 0) A) (False)
  | _ => False
def qeX3_forget : CE := (yX3_forget, cX3_forget, 1, none, 0, some 3, 0, none, 0, 3, qsX3_forget)
theorem qbX3_forget : am_mb qeX3_forget := ⟨am_tb_at 761 (by decide +kernel) rfl, am_tb_at 37 (by decide +kernel) rfl, ⟨by decide, by decide, by decide +kernel⟩, by decide, am_tb_at 759 (by decide +kernel) rfl, am_tb_at 760 (by decide +kernel) rfl, _, _, rfl⟩
set_option maxRecDepth 20000 in
theorem qvX3_forget_5  (F : FF) (A : AA) (K : KK) (h : K (some none) (upF F 5 2 0) A) : am_line qxX3_forget 5 [vR 5] 1 F A K := by
  show am_stp qxX3_forget (am_run qxX3_forget (fun _ => none) (fun _ _ _ _ _ _ => False) K 5) K 0 [some (vR 5)] [] F A 0
  show K (some none) (upF F 5 2 0) A
  first | exact h | exact K_eq h (by first | omega | (simp (disch := omega) only [w32_0, w64_0, wbi0, wbi1, yc_eq0, yc_lt0, yc_gt0, Classical.not_not, w32_id, w64_id]; omega) | (simp (disch := omega) only [w32_0, w64_0, wbi0, wbi1, yc_eq0, yc_lt0, yc_gt0, Classical.not_not, w32_id, w64_id]; done))
theorem qtX3_forget (l : Launch) : am_CT l layX qeX3_forget := am_met0 rfl (by decide +kernel) rfl rfl rfl rfl rfl (fun _ => rfl) rfl (qzX3_forget l) (fun k e1 h => (qyX3_forget l k e1 h).2) (fun as F A K h => by
  replace h : qsX3_forget as F A K := h
  unfold qsX3_forget at h
  split at h
  · rename_i o
    refine ⟨by first | exact Nat.le_of_ble_eq_true rfl | simp [am_fl, am_cat], ?_⟩
    replace h := am_cond2 h
    rcases h with ⟨hb, h⟩ | h
    · skip
      have hb0 := hb
      have hb0 := am_bq hb0
      subst hb0
      exact am_way_line (qvX3_forget_5  F A K h)
    exact h.elim
  · exact h.elim)
def qkX3_startOf : Nat → Option CI := fun pc => cond (Nat.ble 9 pc) none (cond (Nat.ble 4 pc) (cond (Nat.beq pc 4) (some (.sipush 140, 7, [])) (cond (Nat.beq pc 7) (some (.imul, 8, [])) (cond (Nat.beq pc 8) (some (.ireturn, 9, [])) (none)))) (cond (Nat.beq pc 0) (some (.iload_n 0, 1, [])) (cond (Nat.beq pc 1) (some (.bipush 10, 3, [])) (cond (Nat.beq pc 3) (some (.irem, 4, [])) (none)))))
theorem qkX3_startOf_ok : ∀ pc i nx ts, qkX3_startOf pc = some (i, nx, ts) → am_cok cX3_startOf pc (i, nx, ts) = true := fun pc i nx ts h => am_tok_ok (n := 9) (by decide +kernel) (fun pc h => by show cond (Nat.ble 9 pc) _ _ = _; rw [Nat.ble_eq_true_of_le h]; rfl) h
def qaX3_startOf : Nat → Option CE := fun k => none
theorem qyX3_startOf (l : Launch) : ∀ k e1, qaX3_startOf k = some e1 → am_cal l layX RX3 3 k e1 ∧ ceT e1 = 0 := q_nil
def qxX3_startOf : CX := (qkX3_startOf, layX, qfX3, qaX3_startOf, qcX3, qlX3, qmX3, (some .int), false, none, 0, none, fun _ => none)
theorem qzX3_startOf (l : Launch) : am_sta l qxX3_startOf RX3 3 cX3_startOf := ⟨qkX3_startOf_ok, layX_ok, qfX3_ok, qcX3_ok, qlX3_ok, am_mthP qmX3_ok (by decide), fun k e1 h => (qyX3_startOf l k e1 h).1⟩
def qsX3_startOf : SP := fun as F A K => match as with
  | [.inl s] => (0 ≤ s ∧ s < 1000) ∧ (K (some (some (vI (s % 10 * 140)))) F A)
  | _ => False
def qeX3_startOf : CE := (yX3_startOf, cX3_startOf, 1, (some .int), 1, none, 0, none, 0, 3, qsX3_startOf)
theorem qbX3_startOf : am_mb qeX3_startOf := ⟨am_tb_at 886 (by decide +kernel) rfl, am_tb_at 37 (by decide +kernel) rfl, ⟨by decide, by decide, by decide +kernel⟩, by decide, am_tb_at 885 (by decide +kernel) rfl⟩
set_option maxRecDepth 20000 in
theorem qvX3_startOf (s : Int) (F : FF) (A : AA) (K : KK) (h : (0 ≤ s ∧ s < 1000) ∧ (K (some (some (vI (s % 10 * 140)))) F A)) : am_line qxX3_startOf 7 [vI s] 1 F A K := by
  show am_stp qxX3_startOf (am_run qxX3_startOf (fun _ => none) (fun _ _ _ _ _ _ => False) K 7) K 0 [some (vI s)] [] F A 0
  obtain ⟨hp, h⟩ := h
  show (w32 10 ≠ 0) ∧ (K (some (some (vI ((x_rem s 10) * 140)))) F A)
  refine ⟨by first | omega | (simp (disch := omega) only [w32_0, w64_0, wbi0, wbi1, yc_eq0, yc_lt0, yc_gt0, Classical.not_not, w32_id, w64_id]; omega) | (simp (disch := omega) only [w32_0, w64_0, wbi0, wbi1, yc_eq0, yc_lt0, yc_gt0, Classical.not_not, w32_id, w64_id]; done), ?_⟩
  rw [x_rem_eq (by omega) (by omega) (by omega) (by omega)]; exact h
theorem qtX3_startOf (l : Launch) : am_CT l layX qeX3_startOf := am_met0 rfl (by decide +kernel) rfl rfl rfl rfl rfl (fun _ => rfl) rfl (qzX3_startOf l) (fun k e1 h => (qyX3_startOf l k e1 h).2) (fun as F A K h => by
  replace h : qsX3_startOf as F A K := h
  unfold qsX3_startOf at h
  split at h
  · rename_i s
    refine ⟨by first | exact Nat.le_of_ble_eq_true rfl | simp [am_fl, am_cat], ?_⟩
    exact am_way_line (qvX3_startOf s F A K h)
  · exact h.elim)
def qkX3_keep : Nat → Option CI := fun pc => cond (Nat.ble 63 pc) none (cond (Nat.ble 29 pc) (cond (Nat.ble 46 pc) (cond (Nat.ble 54 pc) (cond (Nat.ble 58 pc) (cond (Nat.beq pc 58) (some (.iadd, 59, [])) (cond (Nat.beq pc 59) (some (.putfield 17, 62, [])) (cond (Nat.beq pc 62) (some (.return_, 63, [])) (none)))) (cond (Nat.beq pc 54) (some (.getfield 17, 57, [])) (cond (Nat.beq pc 57) (some (.iconst 1, 58, [])) (none)))) (cond (Nat.ble 52 pc) (cond (Nat.beq pc 52) (some (.aload_n 0, 53, [])) (cond (Nat.beq pc 53) (some (.dup, 54, [])) (none))) (cond (Nat.beq pc 46) (some (.invokestatic 24, 49, [])) (cond (Nat.beq pc 49) (some (.invokevirtual 28, 52, [])) (none))))) (cond (Nat.ble 37 pc) (cond (Nat.ble 41 pc) (cond (Nat.beq pc 41) (some (.aload_n 0, 42, [])) (cond (Nat.beq pc 42) (some (.getfield 17, 45, [])) (cond (Nat.beq pc 45) (some (.iadd, 46, [])) (none)))) (cond (Nat.beq pc 37) (some (.aload_n 0, 38, [])) (cond (Nat.beq pc 38) (some (.getfield 21, 41, [])) (none)))) (cond (Nat.ble 33 pc) (cond (Nat.beq pc 33) (some (.aload_n 0, 34, [])) (cond (Nat.beq pc 34) (some (.getfield 11, 37, [])) (none))) (cond (Nat.beq pc 29) (some (.putfield 17, 32, [])) (cond (Nat.beq pc 32) (some (.aload_n 1, 33, [])) (none)))))) (cond (Nat.ble 15 pc) (cond (Nat.ble 22 pc) (cond (Nat.ble 24 pc) (cond (Nat.beq pc 24) (some (.getfield 17, 27, [])) (cond (Nat.beq pc 27) (some (.iconst 1, 28, [])) (cond (Nat.beq pc 28) (some (.isub, 29, [])) (none)))) (cond (Nat.beq pc 22) (some (.aload_n 0, 23, [])) (cond (Nat.beq pc 23) (some (.dup, 24, [])) (none)))) (cond (Nat.ble 18 pc) (cond (Nat.beq pc 18) (some (.irem, 19, [])) (cond (Nat.beq pc 19) (some (.putfield 21, 22, [])) (none))) (cond (Nat.beq pc 15) (some (.iadd, 16, [])) (cond (Nat.beq pc 16) (some (.bipush 10, 18, [])) (none))))) (cond (Nat.ble 9 pc) (cond (Nat.ble 11 pc) (cond (Nat.beq pc 11) (some (.getfield 21, 14, [])) (cond (Nat.beq pc 14) (some (.iconst 1, 15, [])) (none))) (cond (Nat.beq pc 9) (some (.aload_n 0, 10, [])) (cond (Nat.beq pc 10) (some (.aload_n 0, 11, [])) (none)))) (cond (Nat.ble 4 pc) (cond (Nat.beq pc 4) (some (.bipush 10, 6, [])) (cond (Nat.beq pc 6) (some (.if_icmp .lt 26, 9, [32])) (none))) (cond (Nat.beq pc 0) (some (.aload_n 0, 1, [])) (cond (Nat.beq pc 1) (some (.getfield 17, 4, [])) (none)))))))
theorem qkX3_keep_ok : ∀ pc i nx ts, qkX3_keep pc = some (i, nx, ts) → am_cok cX3_keep pc (i, nx, ts) = true := fun pc i nx ts h => am_tok_ok (n := 63) (by decide +kernel) (fun pc h => by show cond (Nat.ble 63 pc) _ _ = _; rw [Nat.ble_eq_true_of_le h]; rfl) h
def qaX3_keep : Nat → Option CE := fun k => cond (Nat.beq k 24) (some qeX3_startOf) (cond (Nat.beq k 28) (some qeX2_saveTo) (none))
theorem qyX3_keep (l : Launch) : ∀ k e1, qaX3_keep k = some e1 → am_cal l layX RX3 4 k e1 ∧ ceT e1 = 0 := q_cons ⟨am_calS (qtX3_startOf l) qbX3_startOf (by decide) rfl (by decide) (am_tb_at 884 (by decide +kernel) rfl), rfl⟩ (q_cons ⟨am_calV (ci := 2) (qtX2_saveTo l) qbX2_saveTo (by decide) rfl (am_tb_at 887 (by decide +kernel) rfl), rfl⟩ (q_nil))
def qxX3_keep : CX := (qkX3_keep, layX, qfX3, qaX3_keep, qcX3, qlX3, qmX3, none, false, none, 0, none, fun _ => none)
theorem qzX3_keep (l : Launch) : am_sta l qxX3_keep RX3 4 cX3_keep := ⟨qkX3_keep_ok, layX_ok, qfX3_ok, qcX3_ok, qlX3_ok, am_mthP qmX3_ok (by decide), fun k e1 h => (qyX3_keep l k e1 h).1⟩
def qsX3_keep : SP := fun as F A K => match as with
  | [.inr (.inr o), .inr (.inr g)] => cond (Nat.beq o 5 && Nat.beq g 1) ((0 ≤ (F 5 1) ∧ (F 5 1) ≤ 9 ∧ 0 ≤ (F 5 2) ∧ (F 5 2) ≤ 10) ∧ (∀ (G_1 : FF), (G_1 = upF (upF F 5 1 (if (F 5 2) = 10 then ((F 5 1) + 1) % 10 else (F 5 1))) 5 2 (if (F 5 2) = 10 then 10 else (F 5 2) + 1)) → (K (some none) G_1 (setR A 6 ((if (F 5 2) = 10 then ((F 5 1) + 1) % 10 + 9 else (F 5 1) + (F 5 2)) % 10 * 140) 140 (A 2))))) (False)
  | _ => False
def qeX3_keep : CE := (yX3_keep, cX3_keep, 2, none, 1, some 3, 0, none, 0, 4, qsX3_keep)
theorem qbX3_keep : am_mb qeX3_keep := ⟨am_tb_at 883 (by decide +kernel) rfl, am_tb_at 37 (by decide +kernel) rfl, ⟨by decide, by decide, by decide +kernel⟩, by decide, am_tb_at 881 (by decide +kernel) rfl, am_tb_at 882 (by decide +kernel) rfl, _, _, rfl⟩
set_option maxRecDepth 20000 in
theorem qvX3_keep_5_1  (F : FF) (A : AA) (K : KK) (h : (0 ≤ (F 5 1) ∧ (F 5 1) ≤ 9 ∧ 0 ≤ (F 5 2) ∧ (F 5 2) ≤ 10) ∧ (∀ (G_1 : FF), (G_1 = upF (upF F 5 1 (if (F 5 2) = 10 then ((F 5 1) + 1) % 10 else (F 5 1))) 5 2 (if (F 5 2) = 10 then 10 else (F 5 2) + 1)) → (K (some none) G_1 (setR A 6 ((if (F 5 2) = 10 then ((F 5 1) + 1) % 10 + 9 else (F 5 1) + (F 5 2)) % 10 * 140) 140 (A 2))))) : am_line qxX3_keep 36 [vR 5, vR 1] 2 F A K := by
  show am_stp qxX3_keep (am_run qxX3_keep (fun _ => none) (fun _ _ _ _ _ _ => False) K 36) K 0 [some (vR 5), some (vR 1)] [] F A 0
  obtain ⟨hp, h⟩ := h
  show (w32 (F 5 2) < w32 10 → ((0 ≤ ((F 5 1) + (F 5 2)) ∧ ((F 5 1) + (F 5 2)) < 1000) ∧ ((0 ≤ w32 (((F 5 1) + (F 5 2)) % 10 * 140) ∧ w32 (((F 5 1) + (F 5 2)) % 10 * 140) ≤ 1260) ∧ (K (some none) (upF F 5 2 ((F 5 2) + 1)) (cpA A 2 (w32 0) 0 (w32 (((F 5 1) + (F 5 2)) % 10 * 140)) (w32 140) 6))))) ∧ (¬ w32 (F 5 2) < w32 10 → ((w32 10 ≠ 0) ∧ ((0 ≤ ((x_rem ((F 5 1) + 1) 10) + ((F 5 2) - 1)) ∧ ((x_rem ((F 5 1) + 1) 10) + ((F 5 2) - 1)) < 1000) ∧ ((0 ≤ w32 (((x_rem ((F 5 1) + 1) 10) + ((F 5 2) - 1)) % 10 * 140) ∧ w32 (((x_rem ((F 5 1) + 1) 10) + ((F 5 2) - 1)) % 10 * 140) ≤ 1260) ∧ (K (some none) (upF (upF (upF F 5 1 (x_rem ((F 5 1) + 1) 10)) 5 2 ((F 5 2) - 1)) 5 2 (((F 5 2) - 1) + 1)) (cpA A 2 (w32 0) 0 (w32 (((x_rem ((F 5 1) + 1) 10) + ((F 5 2) - 1)) % 10 * 140)) (w32 140) 6))))))
  refine ⟨fun c1 => ?_, fun c1 => ?_⟩
  · skip
    try simp (disch := omega) only [w32_0, w64_0, wbi0, wbi1, yc_eq0, yc_lt0, yc_gt0, Classical.not_not, w32_id, w64_id] at c1
    refine ⟨by first | exact Or.inl rfl | exact Or.inr rfl | omega | (simp (disch := omega) only [upF_s, upF_o (show (5 : Nat) ≠ 5 ∨ (1 : Nat) ≠ 2 by decide), upF_o (show (5 : Nat) ≠ 5 ∨ (2 : Nat) ≠ 1 by decide), x_rem_eq, w32_id]; omega), ?_⟩
    refine ⟨by first | exact Or.inl rfl | exact Or.inr rfl | omega | (simp (disch := omega) only [upF_s, upF_o (show (5 : Nat) ≠ 5 ∨ (1 : Nat) ≠ 2 by decide), upF_o (show (5 : Nat) ≠ 5 ∨ (2 : Nat) ≠ 1 by decide), x_rem_eq, w32_id]; omega), ?_⟩
    have h2 := h _ rfl
    simp only [if_neg (show ¬ F 5 2 = 10 by omega)] at h2
    rw [upF_id (show F 5 1 = F 5 1 from rfl)] at h2
    simp (disch := omega) only [w32_0, w32_id]
    rw [cpA_set]
    simp only [Int.zero_add]
    exact h2
  · skip
    try simp (disch := omega) only [w32_0, w64_0, wbi0, wbi1, yc_eq0, yc_lt0, yc_gt0, Classical.not_not, w32_id, w64_id] at c1
    refine ⟨by first | exact Or.inl rfl | exact Or.inr rfl | omega | (simp (disch := omega) only [upF_s, upF_o (show (5 : Nat) ≠ 5 ∨ (1 : Nat) ≠ 2 by decide), upF_o (show (5 : Nat) ≠ 5 ∨ (2 : Nat) ≠ 1 by decide), x_rem_eq, w32_id]; omega), ?_⟩
    refine ⟨by first | exact Or.inl rfl | exact Or.inr rfl | omega | (simp (disch := omega) only [upF_s, upF_o (show (5 : Nat) ≠ 5 ∨ (1 : Nat) ≠ 2 by decide), upF_o (show (5 : Nat) ≠ 5 ∨ (2 : Nat) ≠ 1 by decide), x_rem_eq, w32_id]; omega), ?_⟩
    refine ⟨by first | exact Or.inl rfl | exact Or.inr rfl | omega | (simp (disch := omega) only [upF_s, upF_o (show (5 : Nat) ≠ 5 ∨ (1 : Nat) ≠ 2 by decide), upF_o (show (5 : Nat) ≠ 5 ∨ (2 : Nat) ≠ 1 by decide), x_rem_eq, w32_id]; omega), ?_⟩
    have h2 := h _ rfl
    simp only [if_pos (show F 5 2 = 10 by omega)] at h2
    simp (disch := omega) only [w32_0, x_rem_eq, w32_id]
    rw [cpA_set, upF_2, show F 5 2 - 1 + 1 = 10 by omega, show F 5 2 - 1 = 9 by omega]
    simp only [Int.zero_add]
    exact h2
theorem qtX3_keep (l : Launch) : am_CT l layX qeX3_keep := am_met0 rfl (by decide +kernel) rfl rfl rfl rfl rfl (fun _ => rfl) rfl (qzX3_keep l) (fun k e1 h => (qyX3_keep l k e1 h).2) (fun as F A K h => by
  replace h : qsX3_keep as F A K := h
  unfold qsX3_keep at h
  split at h
  · rename_i o g
    refine ⟨by first | exact Nat.le_of_ble_eq_true rfl | simp [am_fl, am_cat], ?_⟩
    replace h := am_cond2 h
    rcases h with ⟨hb, h⟩ | h
    · simp only [Bool.and_eq_true] at hb
      obtain ⟨hb0, hb1⟩ := hb
      have hb0 := am_bq hb0
      subst hb0
      have hb1 := am_bq hb1
      subst hb1
      exact am_way_line (qvX3_keep_5_1  F A K h)
    exact h.elim
  · exact h.elim)