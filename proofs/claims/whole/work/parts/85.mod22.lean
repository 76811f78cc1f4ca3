def qkX9_boxAt : Nat → Option CI := fun pc => cond (Nat.ble 11 pc) none (cond (Nat.ble 6 pc) (cond (Nat.ble 8 pc) (cond (Nat.beq pc 8) (some (.iadd, 9, [])) (cond (Nat.beq pc 9) (some (.imul, 10, [])) (cond (Nat.beq pc 10) (some (.ireturn, 11, [])) (none)))) (cond (Nat.beq pc 6) (some (.isub, 7, [])) (cond (Nat.beq pc 7) (some (.iload_n 1, 8, [])) (none)))) (cond (Nat.ble 3 pc) (cond (Nat.beq pc 3) (some (.iload_n 0, 4, [])) (cond (Nat.beq pc 4) (some (.ishl, 5, [])) (cond (Nat.beq pc 5) (some (.iconst 1, 6, [])) (none)))) (cond (Nat.beq pc 0) (some (.bipush 8, 2, [])) (cond (Nat.beq pc 2) (some (.iconst 1, 3, [])) (none)))))
theorem qkX9_boxAt_ok : ∀ pc i nx ts, qkX9_boxAt pc = some (i, nx, ts) → am_cok cX9_boxAt pc (i, nx, ts) = true := fun pc i nx ts h => am_tok_ok (n := 11) (by decide +kernel) (fun pc h => by show cond (Nat.ble 11 pc) _ _ = _; rw [Nat.ble_eq_true_of_le h]; rfl) h
def qaX9_boxAt : Nat → Option CE := fun k => none
theorem qyX9_boxAt (l : Launch) : ∀ k e1, qaX9_boxAt k = some e1 → am_cal l layM RX9 3 k e1 ∧ ceT e1 = 0 := q_nil
def qxX9_boxAt : CX := (qkX9_boxAt, layM, qfX9, qaX9_boxAt, qcX9, qlX9, qmX9, (some .int), false, none, 0, none, fun _ => none)
theorem qzX9_boxAt (l : Launch) : am_sta l qxX9_boxAt RX9 3 cX9_boxAt := ⟨qkX9_boxAt_ok, layM_ok, qfX9_ok, qcX9_ok, qlX9_ok, am_mthP qmX9_ok (by decide), fun k e1 h => (qyX9_boxAt l k e1 h).1⟩
def qsX9_boxAt : SP := fun as F A K => match as with
  | [.inl d, .inl q] => ((0 ≤ d ∧ d ≤ 6) ∧ 0 ≤ q ∧ q < p2 d) ∧ (K (some (some (vI (8 * (p2 d - 1 + q))))) F A)
  | _ => False
def qeX9_boxAt : CE := (yX9_boxAt, cX9_boxAt, 2, (some .int), 2, none, 0, [], 0, 3, qsX9_boxAt)
theorem qbX9_boxAt : am_mb qeX9_boxAt := ⟨am_tb_at 1959 (by decide +kernel) rfl, am_tb_at 124 (by decide +kernel) rfl, ⟨by decide, by decide, by decide +kernel⟩, by decide, am_tb_at 1958 (by decide +kernel) rfl⟩
set_option maxRecDepth 20000 in
theorem qvX9_boxAt (d : Int) (q : Int) (F : FF) (A : AA) (K : KK) (h : ((0 ≤ d ∧ d ≤ 6) ∧ 0 ≤ q ∧ q < p2 d) ∧ (K (some (some (vI (8 * (p2 d - 1 + q))))) F A)) : am_line qxX9_boxAt 11 [vI d, vI q] 2 F A K := by
  show am_stp qxX9_boxAt (am_run qxX9_boxAt (fun _ => none) (fun _ _ _ _ _ _ => False) K 11) K 0 [some (vI d), some (vI q)] [] F A 0
  obtain ⟨hp, h⟩ := h
  show K (some (some (vI (8 * (((x_shl 1 d) - 1) + q))))) F A
  rw [x_shl1 (by omega) (by omega)]
  exact h
theorem qtX9_boxAt (l : Launch) : am_CT l layM qeX9_boxAt := am_met0 rfl (by decide +kernel) rfl rfl rfl rfl rfl (fun _ => rfl) rfl (qzX9_boxAt l) (fun k e1 h => (qyX9_boxAt l k e1 h).2) (fun as F A K h => by
  replace h : qsX9_boxAt as F A K := h
  unfold qsX9_boxAt at h
  split at h
  · rename_i d q
    refine ⟨by first | exact Nat.le_of_ble_eq_true rfl | simp [am_fl, am_cat], ?_⟩
    exact am_way_line (qvX9_boxAt d q F A K h)
  · exact h.elim)
def qkX9_isSmall : Nat → Option CI := fun pc => cond (Nat.ble 18 pc) none (cond (Nat.ble 9 pc) (cond (Nat.ble 13 pc) (cond (Nat.beq pc 13) (some (.goto 4, 16, [17])) (cond (Nat.beq pc 16) (some (.iconst 0, 17, [])) (cond (Nat.beq pc 17) (some (.ireturn, 18, [])) (none)))) (cond (Nat.beq pc 9) (some (.if_icmp .gt 7, 12, [16])) (cond (Nat.beq pc 12) (some (.iconst 1, 13, [])) (none)))) (cond (Nat.ble 3 pc) (cond (Nat.beq pc 3) (some (.if_icmp .lt 13, 6, [16])) (cond (Nat.beq pc 6) (some (.iload_n 0, 7, [])) (cond (Nat.beq pc 7) (some (.bipush 122, 9, [])) (none)))) (cond (Nat.beq pc 0) (some (.iload_n 0, 1, [])) (cond (Nat.beq pc 1) (some (.bipush 97, 3, [])) (none)))))
theorem qkX9_isSmall_ok : ∀ pc i nx ts, qkX9_isSmall pc = some (i, nx, ts) → am_cok cX9_isSmall pc (i, nx, ts) = true := fun pc i nx ts h => am_tok_ok (n := 18) (by decide +kernel) (fun pc h => by show cond (Nat.ble 18 pc) _ _ = _; rw [Nat.ble_eq_true_of_le h]; rfl) h
def qaX9_isSmall : Nat → Option CE := fun k => none
theorem qyX9_isSmall (l : Launch) : ∀ k e1, qaX9_isSmall k = some e1 → am_cal l layM RX9 3 k e1 ∧ ceT e1 = 0 := q_nil
def qxX9_isSmall : CX := (qkX9_isSmall, layM, qfX9, qaX9_isSmall, qcX9, qlX9, qmX9, (some .boolean), false, none, 0, none, fun _ => none)
theorem qzX9_isSmall (l : Launch) : am_sta l qxX9_isSmall RX9 3 cX9_isSmall := ⟨qkX9_isSmall_ok, layM_ok, qfX9_ok, qcX9_ok, qlX9_ok, am_mthP qmX9_ok (by decide), fun k e1 h => (qyX9_isSmall l k e1 h).1⟩
def qsX9_isSmall : SP := fun as F A K => match as with
  | [.inl c] => ((-2147483648 ≤ c ∧ c < 2147483648)) ∧ (K (some (some (vI (bi (97 ≤ c ∧ c ≤ 122))))) F A)
  | _ => False
def qeX9_isSmall : CE := (yX9_isSmall, cX9_isSmall, 1, (some .boolean), 1, none, 0, [], 0, 3, qsX9_isSmall)
theorem qbX9_isSmall : am_mb qeX9_isSmall := ⟨am_tb_at 1506 (by decide +kernel) rfl, am_tb_at 124 (by decide +kernel) rfl, ⟨by decide, by decide, by decide +kernel⟩, by decide, am_tb_at 1505 (by decide +kernel) rfl⟩
set_option maxRecDepth 20000 in
theorem qvX9_isSmall (c : Int) (F : FF) (A : AA) (K : KK) (h : ((-2147483648 ≤ c ∧ c < 2147483648)) ∧ (K (some (some (vI (bi (97 ≤ c ∧ c ≤ 122))))) F A)) : am_line qxX9_isSmall 10 [vI c] 1 F A K := by
  show am_stp qxX9_isSmall (am_run qxX9_isSmall (fun _ => none) (fun _ _ _ _ _ _ => False) K 10) K 0 [some (vI c)] [] F A 0
  obtain ⟨hp, h⟩ := h
  show (w32 c < w32 97 → ((0 = 0 ∨ 0 = 1) ∧ (K (some (some (vI 0))) F A))) ∧ (¬ w32 c < w32 97 → ((w32 122 < w32 c → ((0 = 0 ∨ 0 = 1) ∧ (K (some (some (vI 0))) F A))) ∧ (¬ w32 122 < w32 c → ((1 = 0 ∨ 1 = 1) ∧ (K (some (some (vI 1))) F A)))))
  refine ⟨fun c1 => ?_, fun c1 => ?_⟩
  · skip
    (try simp (disch := omega) only [fat_in, w32_0, wbi0, Classical.not_not, w32_id] at c1)
    refine ⟨by first | exact Or.inl rfl | exact Or.inr rfl | exact bi_01 | omega, ?_⟩
    first | exact h | exact K_eq h (bi_t (by omega)) | exact K_eq h (bi_f (by omega))
  · skip
    (try simp (disch := omega) only [fat_in, w32_0, wbi0, Classical.not_not, w32_id] at c1)
    refine ⟨fun c2 => ?_, fun c2 => ?_⟩
    · skip
      (try simp (disch := omega) only [fat_in, w32_0, wbi0, Classical.not_not, w32_id] at c2)
      refine ⟨by first | exact Or.inl rfl | exact Or.inr rfl | exact bi_01 | omega, ?_⟩
      first | exact h | exact K_eq h (bi_t (by omega)) | exact K_eq h (bi_f (by omega))
    · skip
      (try simp (disch := omega) only [fat_in, w32_0, wbi0, Classical.not_not, w32_id] at c2)
      refine ⟨by first | exact Or.inl rfl | exact Or.inr rfl | exact bi_01 | omega, ?_⟩
      first | exact h | exact K_eq h (bi_t (by omega)) | exact K_eq h (bi_f (by omega))
theorem qtX9_isSmall (l : Launch) : am_CT l layM qeX9_isSmall := am_met0 rfl (by decide +kernel) rfl rfl rfl rfl rfl (fun _ => rfl) rfl (qzX9_isSmall l) (fun k e1 h => (qyX9_isSmall l k e1 h).2) (fun as F A K h => by
  replace h : qsX9_isSmall as F A K := h
  unfold qsX9_isSmall at h
  split at h
  · rename_i c
    refine ⟨by first | exact Nat.le_of_ble_eq_true rfl | simp [am_fl, am_cat], ?_⟩
    exact am_way_line (qvX9_isSmall c F A K h)
  · exact h.elim)
def qkX9_isDigit : Nat → Option CI := fun pc => cond (Nat.ble 18 pc) none (cond (Nat.ble 9 pc) (cond (Nat.ble 13 pc) (cond (Nat.beq pc 13) (some (.goto 4, 16, [17])) (cond (Nat.beq pc 16) (some (.iconst 0, 17, [])) (cond (Nat.beq pc 17) (some (.ireturn, 18, [])) (none)))) (cond (Nat.beq pc 9) (some (.if_icmp .gt 7, 12, [16])) (cond (Nat.beq pc 12) (some (.iconst 1, 13, [])) (none)))) (cond (Nat.ble 3 pc) (cond (Nat.beq pc 3) (some (.if_icmp .lt 13, 6, [16])) (cond (Nat.beq pc 6) (some (.iload_n 0, 7, [])) (cond (Nat.beq pc 7) (some (.bipush 57, 9, [])) (none)))) (cond (Nat.beq pc 0) (some (.iload_n 0, 1, [])) (cond (Nat.beq pc 1) (some (.bipush 48, 3, [])) (none)))))
theorem qkX9_isDigit_ok : ∀ pc i nx ts, qkX9_isDigit pc = some (i, nx, ts) → am_cok cX9_isDigit pc (i, nx, ts) = true := fun pc i nx ts h => am_tok_ok (n := 18) (by decide +kernel) (fun pc h => by show cond (Nat.ble 18 pc) _ _ = _; rw [Nat.ble_eq_true_of_le h]; rfl) h
def qaX9_isDigit : Nat → Option CE := fun k => none
theorem qyX9_isDigit (l : Launch) : ∀ k e1, qaX9_isDigit k = some e1 → am_cal l layM RX9 3 k e1 ∧ ceT e1 = 0 := q_nil
def qxX9_isDigit : CX := (qkX9_isDigit, layM, qfX9, qaX9_isDigit, qcX9, qlX9, qmX9, (some .boolean), false, none, 0, none, fun _ => none)
theorem qzX9_isDigit (l : Launch) : am_sta l qxX9_isDigit RX9 3 cX9_isDigit := ⟨qkX9_isDigit_ok, layM_ok, qfX9_ok, qcX9_ok, qlX9_ok, am_mthP qmX9_ok (by decide), fun k e1 h => (qyX9_isDigit l k e1 h).1⟩
def qsX9_isDigit : SP := fun as F A K => match as with
  | [.inl c] => ((-2147483648 ≤ c ∧ c < 2147483648)) ∧ (K (some (some (vI (bi (48 ≤ c ∧ c ≤ 57))))) F A)
  | _ => False
def qeX9_isDigit : CE := (yX9_isDigit, cX9_isDigit, 1, (some .boolean), 1, none, 0, [], 0, 3, qsX9_isDigit)
theorem qbX9_isDigit : am_mb qeX9_isDigit := ⟨am_tb_at 1562 (by decide +kernel) rfl, am_tb_at 124 (by decide +kernel) rfl, ⟨by decide, by decide, by decide +kernel⟩, by decide, am_tb_at 1561 (by decide +kernel) rfl⟩
set_option maxRecDepth 20000 in
theorem qvX9_isDigit (c : Int) (F : FF) (A : AA) (K : KK) (h : ((-2147483648 ≤ c ∧ c < 2147483648)) ∧ (K (some (some (vI (bi (48 ≤ c ∧ c ≤ 57))))) F A)) : am_line qxX9_isDigit 10 [vI c] 1 F A K := by
  show am_stp qxX9_isDigit (am_run qxX9_isDigit (fun _ => none) (fun _ _ _ _ _ _ => False) K 10) K 0 [some (vI c)] [] F A 0
  obtain ⟨hp, h⟩ := h
  show (w32 c < w32 48 → ((0 = 0 ∨ 0 = 1) ∧ (K (some (some (vI 0))) F A))) ∧ (¬ w32 c < w32 48 → ((w32 57 < w32 c → ((0 = 0 ∨ 0 = 1) ∧ (K (some (some (vI 0))) F A))) ∧ (¬ w32 57 < w32 c → ((1 = 0 ∨ 1 = 1) ∧ (K (some (some (vI 1))) F A)))))
  refine ⟨fun c1 => ?_, fun c1 => ?_⟩
  · skip
    (try simp (disch := omega) only [fat_in, w32_0, wbi0, Classical.not_not, w32_id] at c1)
    refine ⟨by first | exact Or.inl rfl | exact Or.inr rfl | exact bi_01 | omega, ?_⟩
    first | exact h | exact K_eq h (bi_t (by omega)) | exact K_eq h (bi_f (by omega))
  · skip
    (try simp (disch := omega) only [fat_in, w32_0, wbi0, Classical.not_not, w32_id] at c1)
    refine ⟨fun c2 => ?_, fun c2 => ?_⟩
    · skip
      (try simp (disch := omega) only [fat_in, w32_0, wbi0, Classical.not_not, w32_id] at c2)
      refine ⟨by first | exact Or.inl rfl | exact Or.inr rfl | exact bi_01 | omega, ?_⟩
      first | exact h | exact K_eq h (bi_t (by omega)) | exact K_eq h (bi_f (by omega))
    · skip
      (try simp (disch := omega) only [fat_in, w32_0, wbi0, Classical.not_not, w32_id] at c2)
      refine ⟨by first | exact Or.inl rfl | exact Or.inr rfl | exact bi_01 | omega, ?_⟩
      first | exact h | exact K_eq h (bi_t (by omega)) | exact K_eq h (bi_f (by omega))
theorem qtX9_isDigit (l : Launch) : am_CT l layM qeX9_isDigit := am_met0 rfl (by decide +kernel) rfl rfl rfl rfl rfl (fun _ => rfl) rfl (qzX9_isDigit l) (fun k e1 h => (qyX9_isDigit l k e1 h).2) (fun as F A K h => by
  replace h : qsX9_isDigit as F A K := h
  unfold qsX9_isDigit at h
  split at h
  · rename_i c
    refine ⟨by first | exact Nat.le_of_ble_eq_true rfl | simp [am_fl, am_cat], ?_⟩
    exact am_way_line (qvX9_isDigit c F A K h)
  · exact h.elim)
def qkX9_isPart : Nat → Option CI := fun pc => cond (Nat.ble 44 pc) none (cond (Nat.ble 22 pc) (cond (Nat.ble 33 pc) (cond (Nat.ble 38 pc) (cond (Nat.ble 42 pc) (cond (Nat.beq pc 42) (some (.iconst 0, 43, [])) (cond (Nat.beq pc 43) (some (.ireturn, 44, [])) (none))) (cond (Nat.beq pc 38) (some (.iconst 1, 39, [])) (cond (Nat.beq pc 39) (some (.goto 4, 42, [43])) (none)))) (cond (Nat.beq pc 33) (some (.lload_n 2, 34, [])) (cond (Nat.beq pc 34) (some (.lcmp, 35, [])) (cond (Nat.beq pc 35) (some (.ifCond .lt 7, 38, [42])) (none))))) (cond (Nat.ble 27 pc) (cond (Nat.ble 29 pc) (cond (Nat.beq pc 29) (some (.ifCond .gt 13, 32, [42])) (cond (Nat.beq pc 32) (some (.lload_n 0, 33, [])) (none))) (cond (Nat.beq pc 27) (some (.lconst 0, 28, [])) (cond (Nat.beq pc 28) (some (.lcmp, 29, [])) (none)))) (cond (Nat.beq pc 22) (some (.iconst 0, 23, [])) (cond (Nat.beq pc 23) (some (.goto 20, 26, [43])) (cond (Nat.beq pc 26) (some (.lload_n 0, 27, [])) (none)))))) (cond (Nat.ble 9 pc) (cond (Nat.ble 14 pc) (cond (Nat.ble 18 pc) (cond (Nat.beq pc 18) (some (.iconst 1, 19, [])) (cond (Nat.beq pc 19) (some (.goto 24, 22, [43])) (none))) (cond (Nat.beq pc 14) (some (.lcmp, 15, [])) (cond (Nat.beq pc 15) (some (.ifCond .gt 7, 18, [22])) (none)))) (cond (Nat.beq pc 9) (some (.ifCond .lt 13, 12, [22])) (cond (Nat.beq pc 12) (some (.lload_n 0, 13, [])) (cond (Nat.beq pc 13) (some (.lload_n 2, 14, [])) (none))))) (cond (Nat.ble 3 pc) (cond (Nat.ble 7 pc) (cond (Nat.beq pc 7) (some (.lconst 0, 8, [])) (cond (Nat.beq pc 8) (some (.lcmp, 9, [])) (none))) (cond (Nat.beq pc 3) (some (.ifCond .le 23, 6, [26])) (cond (Nat.beq pc 6) (some (.lload_n 0, 7, [])) (none)))) (cond (Nat.beq pc 0) (some (.lload_n 2, 1, [])) (cond (Nat.beq pc 1) (some (.lconst 0, 2, [])) (cond (Nat.beq pc 2) (some (.lcmp, 3, [])) (none)))))))
theorem qkX9_isPart_ok : ∀ pc i nx ts, qkX9_isPart pc = some (i, nx, ts) → am_cok cX9_isPart pc (i, nx, ts) = true := fun pc i nx ts h => am_tok_ok (n := 44) (by decide +kernel) (fun pc h => by show cond (Nat.ble 44 pc) _ _ = _; rw [Nat.ble_eq_true_of_le h]; rfl) h
def qaX9_isPart : Nat → Option CE := fun k => none
theorem qyX9_isPart (l : Launch) : ∀ k e1, qaX9_isPart k = some e1 → am_cal l layM RX9 3 k e1 ∧ ceT e1 = 0 := q_nil
def qxX9_isPart : CX := (qkX9_isPart, layM, qfX9, qaX9_isPart, qcX9, qlX9, qmX9, (some .boolean), false, none, 0, none, fun _ => none)
theorem qzX9_isPart (l : Launch) : am_sta l qxX9_isPart RX9 3 cX9_isPart := ⟨qkX9_isPart_ok, layM_ok, qfX9_ok, qcX9_ok, qlX9_ok, am_mthP qmX9_ok (by decide), fun k e1 h => (qyX9_isPart l k e1 h).1⟩
def qsX9_isPart : SP := fun as F A K => match as with
  | [.inr (.inl a), .inr (.inl b)] => ((-4611686018427387904 ≤ a ∧ a ≤ 4611686018427387904) ∧ (-4611686018427387904 ≤ b ∧ b ≤ 4611686018427387904)) ∧ (K (some (some (vI (bi (isFr a b))))) F A)
  | _ => False
def qeX9_isPart : CE := (yX9_isPart, cX9_isPart, 4, (some .boolean), 2, none, 0, [], 0, 3, qsX9_isPart)
theorem qbX9_isPart : am_mb qeX9_isPart := ⟨am_tb_at 1876 (by decide +kernel) rfl, am_tb_at 124 (by decide +kernel) rfl, ⟨by decide, by decide, by decide +kernel⟩, by decide, am_tb_at 1875 (by decide +kernel) rfl⟩
set_option maxRecDepth 20000 in
theorem qvX9_isPart (a : Int) (b : Int) (F : FF) (A : AA) (K : KK) (h : ((-4611686018427387904 ≤ a ∧ a ≤ 4611686018427387904) ∧ (-4611686018427387904 ≤ b ∧ b ≤ 4611686018427387904)) ∧ (K (some (some (vI (bi (isFr a b))))) F A)) : am_line qxX9_isPart 16 [vL a, vL b] 4 F A K := by
  show am_stp qxX9_isPart (am_run qxX9_isPart (fun _ => none) (fun _ _ _ _ _ _ => False) K 16) K 0 [some (vL a), none, some (vL b), none] [] F A 0
  obtain ⟨hp, h⟩ := h
  show (w32 0 < w32 (y_cmp b 0) → ((w32 (y_cmp a 0) < w32 0 → ((0 = 0 ∨ 0 = 1) ∧ (K (some (some (vI 0))) F A))) ∧ (¬ w32 (y_cmp a 0) < w32 0 → ((w32 0 < w32 (y_cmp a b) → ((0 = 0 ∨ 0 = 1) ∧ (K (some (some (vI 0))) F A))) ∧ (¬ w32 0 < w32 (y_cmp a b) → ((1 = 0 ∨ 1 = 1) ∧ (K (some (some (vI 1))) F A))))))) ∧ (¬ w32 0 < w32 (y_cmp b 0) → ((w32 0 < w32 (y_cmp a 0) → ((0 = 0 ∨ 0 = 1) ∧ (K (some (some (vI 0))) F A))) ∧ (¬ w32 0 < w32 (y_cmp a 0) → ((w32 (y_cmp a b) < w32 0 → ((0 = 0 ∨ 0 = 1) ∧ (K (some (some (vI 0))) F A))) ∧ (¬ w32 (y_cmp a b) < w32 0 → ((1 = 0 ∨ 1 = 1) ∧ (K (some (some (vI 1))) F A)))))))
  refine ⟨fun c1 => ?_, fun c1 => ?_⟩
  · skip
    (try simp only [w32_0, yc_lt0, yc_gt0] at c1); (try rw [w64_id (by omega) (by omega), w64_id (by omega) (by omega)] at c1)
    refine ⟨fun c2 => ?_, fun c2 => ?_⟩
    · skip
      (try simp only [w32_0, yc_lt0, yc_gt0] at c2); (try rw [w64_id (by omega) (by omega), w64_id (by omega) (by omega)] at c2)
      refine ⟨by first | omega | (simp (disch := omega) only [w32_0, w64_0, wbi0, wbi1, yc_eq0, yc_lt0, yc_gt0, Classical.not_not, w32_id, w64_id]; omega) | (simp (disch := omega) only [w32_0, w64_0, wbi0, wbi1, yc_eq0, yc_lt0, yc_gt0, Classical.not_not, w32_id, w64_id]; done), ?_⟩
      first
      | (refine K_eq h (bi_t ?_); show ite (0 < b) _ _; split <;> omega)
      | (refine K_eq h (bi_f ?_); show ¬ ite (0 < b) _ _; split <;> omega)
    · skip
      (try simp only [w32_0, yc_lt0, yc_gt0] at c2); (try rw [w64_id (by omega) (by omega), w64_id (by omega) (by omega)] at c2)
      refine ⟨fun c3 => ?_, fun c3 => ?_⟩
      · skip
        (try simp only [w32_0, yc_lt0, yc_gt0] at c3); (try rw [w64_id (by omega) (by omega), w64_id (by omega) (by omega)] at c3)
        refine ⟨by first | omega | (simp (disch := omega) only [w32_0, w64_0, wbi0, wbi1, yc_eq0, yc_lt0, yc_gt0, Classical.not_not, w32_id, w64_id]; omega) | (simp (disch := omega) only [w32_0, w64_0, wbi0, wbi1, yc_eq0, yc_lt0, yc_gt0, Classical.not_not, w32_id, w64_id]; done), ?_⟩
        first
        | (refine K_eq h (bi_t ?_); show ite (0 < b) _ _; split <;> omega)
        | (refine K_eq h (bi_f ?_); show ¬ ite (0 < b) _ _; split <;> omega)
      · skip
        (try simp only [w32_0, yc_lt0, yc_gt0] at c3); (try rw [w64_id (by omega) (by omega), w64_id (by omega) (by omega)] at c3)
        refine ⟨by first | omega | (simp (disch := omega) only [w32_0, w64_0, wbi0, wbi1, yc_eq0, yc_lt0, yc_gt0, Classical.not_not, w32_id, w64_id]; omega) | (simp (disch := omega) only [w32_0, w64_0, wbi0, wbi1, yc_eq0, yc_lt0, yc_gt0, Classical.not_not, w32_id, w64_id]; done), ?_⟩
        first
        | (refine K_eq h (bi_t ?_); show ite (0 < b) _ _; split <;> omega)
        | (refine K_eq h (bi_f ?_); show ¬ ite (0 < b) _ _; split <;> omega)
  · skip
    (try simp only [w32_0, yc_lt0, yc_gt0] at c1); (try rw [w64_id (by omega) (by omega), w64_id (by omega) (by omega)] at c1)
    refine ⟨fun c2 => ?_, fun c2 => ?_⟩
    · skip
      (try simp only [w32_0, yc_lt0, yc_gt0] at c2); (try rw [w64_id (by omega) (by omega), w64_id (by omega) (by omega)] at c2)
      refine ⟨by first | omega | (simp (disch := omega) only [w32_0, w64_0, wbi0, wbi1, yc_eq0, yc_lt0, yc_gt0, Classical.not_not, w32_id, w64_id]; omega) | (simp (disch := omega) only [w32_0, w64_0, wbi0, wbi1, yc_eq0, yc_lt0, yc_gt0, Classical.not_not, w32_id, w64_id]; done), ?_⟩
      first
      | (refine K_eq h (bi_t ?_); show ite (0 < b) _ _; split <;> omega)
      | (refine K_eq h (bi_f ?_); show ¬ ite (0 < b) _ _; split <;> omega)
    · skip
      (try simp only [w32_0, yc_lt0, yc_gt0] at c2); (try rw [w64_id (by omega) (by omega), w64_id (by omega) (by omega)] at c2)
      refine ⟨fun c3 => ?_, fun c3 => ?_⟩
      · skip
        (try simp only [w32_0, yc_lt0, yc_gt0] at c3); (try rw [w64_id (by omega) (by omega), w64_id (by omega) (by omega)] at c3)
        refine ⟨by first | omega | (simp (disch := omega) only [w32_0, w64_0, wbi0, wbi1, yc_eq0, yc_lt0, yc_gt0, Classical.not_not, w32_id, w64_id]; omega) | (simp (disch := omega) only [w32_0, w64_0, wbi0, wbi1, yc_eq0, yc_lt0, yc_gt0, Classical.not_not, w32_id, w64_id]; done), ?_⟩
        first
        | (refine K_eq h (bi_t ?_); show ite (0 < b) _ _; split <;> omega)
        | (refine K_eq h (bi_f ?_); show ¬ ite (0 < b) _ _; split <;> omega)
      · skip
        (try simp only [w32_0, yc_lt0, yc_gt0] at c3); (try rw [w64_id (by omega) (by omega), w64_id (by omega) (by omega)] at c3)
        refine ⟨by first | omega | (simp (disch := omega) only [w32_0, w64_0, wbi0, wbi1, yc_eq0, yc_lt0, yc_gt0, Classical.not_not, w32_id, w64_id]; omega) | (simp (disch := omega) only [w32_0, w64_0, wbi0, wbi1, yc_eq0, yc_lt0, yc_gt0, Classical.not_not, w32_id, w64_id]; done), ?_⟩
        first
        | (refine K_eq h (bi_t ?_); show ite (0 < b) _ _; split <;> omega)
        | (refine K_eq h (bi_f ?_); show ¬ ite (0 < b) _ _; split <;> omega)
theorem qtX9_isPart (l : Launch) : am_CT l layM qeX9_isPart := am_met0 rfl (by decide +kernel) rfl rfl rfl rfl rfl (fun _ => rfl) rfl (qzX9_isPart l) (fun k e1 h => (qyX9_isPart l k e1 h).2) (fun as F A K h => by
  replace h : qsX9_isPart as F A K := h
  unfold qsX9_isPart at h
  split at h
  · rename_i a b
    refine ⟨by first | exact Nat.le_of_ble_eq_true rfl | simp [am_fl, am_cat], ?_⟩
    exact am_way_line (qvX9_isPart a b F A K h)
  · exact h.elim)
