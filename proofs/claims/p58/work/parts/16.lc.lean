def qkX5_replace : Nat → Option CI := fun pc => cond (Nat.ble 17 pc) none (cond (Nat.ble 9 pc) (cond (Nat.ble 14 pc) (cond (Nat.beq pc 14) (some (.lload_n 2, 15, [])) (cond (Nat.beq pc 15) (some (.lastore, 16, [])) (cond (Nat.beq pc 16) (some (.return_, 17, [])) (none)))) (cond (Nat.beq pc 9) (some (.aload_n 0, 10, [])) (cond (Nat.beq pc 10) (some (.getfield 9, 13, [])) (cond (Nat.beq pc 13) (some (.iload_n 1, 14, [])) (none))))) (cond (Nat.ble 4 pc) (cond (Nat.beq pc 4) (some (.iload_n 1, 5, [])) (cond (Nat.beq pc 5) (some (.iconst 4, 6, [])) (cond (Nat.beq pc 6) (some (.if_icmp .ge 10, 9, [16])) (none)))) (cond (Nat.beq pc 0) (some (.iload_n 1, 1, [])) (cond (Nat.beq pc 1) (some (.ifCond .lt 15, 4, [16])) (none)))))
theorem qkX5_replace_ok : ∀ pc i nx ts, qkX5_replace pc = some (i, nx, ts) → am_cok cX5_replace pc (i, nx, ts) = true := fun pc i nx ts h => am_tok_ok (n := 17) (by decide +kernel) (fun pc h => by show cond (Nat.ble 17 pc) _ _ = _; rw [Nat.ble_eq_true_of_le h]; rfl) h
def qaX5_replace : Nat → Option CE := fun k => none
theorem qyX5_replace (l : Launch) : ∀ k e1, qaX5_replace k = some e1 → am_cal l layX RX5 3 k e1 ∧ ceT e1 = 0 := q_nil
def qxX5_replace : CX := (qkX5_replace, layX, qfX5, qaX5_replace, qcX5, qlX5, qmX5, none, false, none, 0, none, fun _ => none)
theorem qzX5_replace (l : Launch) : am_sta l qxX5_replace RX5 3 cX5_replace := ⟨qkX5_replace_ok, layX_ok, qfX5_ok, qcX5_ok, qlX5_ok, am_mthP qmX5_ok (by decide), fun k e1 h => (qyX5_replace l k e1 h).1⟩
def qsX5_replace : SP := fun as F A K => match as with
  | [.inr (.inr o), .inl k, .inr (.inl v)] => cond (Nat.beq o 14) ((0 ≤ k ∧ k < 4) ∧ (K (some none) F (upA A 15 k v))) (False)
  | _ => False
def qeX5_replace : CE := (yX5_replace, cX5_replace, 4, none, 2, some 5, 0, none, 0, 3, qsX5_replace)
theorem qbX5_replace : am_mb qeX5_replace := ⟨am_tb_at 959 (by decide +kernel) rfl, am_tb_at 40 (by decide +kernel) rfl, ⟨by decide, by decide, by decide +kernel⟩, by decide, am_tb_at 957 (by decide +kernel) rfl, am_tb_at 958 (by decide +kernel) rfl, _, _, rfl⟩
set_option maxRecDepth 20000 in
theorem qvX5_replace_14 (k : Int) (v : Int) (F : FF) (A : AA) (K : KK) (h : (0 ≤ k ∧ k < 4) ∧ (K (some none) F (upA A 15 k v))) : am_line qxX5_replace 12 [vR 14, vI k, vL v] 4 F A K := by
  show am_stp qxX5_replace (am_run qxX5_replace (fun _ => none) (fun _ _ _ _ _ _ => False) K 12) K 0 [some (vR 14), some (vI k), some (vL v), none] [] F A 0
  obtain ⟨hp, h⟩ := h
  show (w32 k < w32 0 → (K (some none) F A)) ∧ (¬ w32 k < w32 0 → ((w32 k < w32 4 → ((0 ≤ w32 k ∧ w32 k < 52) ∧ (K (some none) F (upA A 15 (w32 k) v)))) ∧ (¬ w32 k < w32 4 → (K (some none) F A))))
  refine ⟨fun c1 => ?_, fun c1 => ?_⟩
  · skip
    try simp (disch := omega) only [w32_0, w64_0, wbi0, wbi1, yc_eq0, yc_lt0, yc_gt0, Classical.not_not, w32_id, w64_id] at c1
    first | (exfalso; omega) | (simp (disch := omega) only [w32_id]; exact h) | exact h
  · skip
    try simp (disch := omega) only [w32_0, w64_0, wbi0, wbi1, yc_eq0, yc_lt0, yc_gt0, Classical.not_not, w32_id, w64_id] at c1
    refine ⟨fun c2 => ?_, fun c2 => ?_⟩
    · skip
      try simp (disch := omega) only [w32_0, w64_0, wbi0, wbi1, yc_eq0, yc_lt0, yc_gt0, Classical.not_not, w32_id, w64_id] at c2
      refine ⟨by first | omega | (simp (disch := omega) only [w32_0, w64_0, wbi0, wbi1, yc_eq0, yc_lt0, yc_gt0, Classical.not_not, w32_id, w64_id]; omega) | (simp (disch := omega) only [w32_0, w64_0, wbi0, wbi1, yc_eq0, yc_lt0, yc_gt0, Classical.not_not, w32_id, w64_id]; done), ?_⟩
      first | (exfalso; omega) | (simp (disch := omega) only [w32_id]; exact h) | exact h
    · skip
      try simp (disch := omega) only [w32_0, w64_0, wbi0, wbi1, yc_eq0, yc_lt0, yc_gt0, Classical.not_not, w32_id, w64_id] at c2
      first | (exfalso; omega) | (simp (disch := omega) only [w32_id]; exact h) | exact h
theorem qtX5_replace (l : Launch) : am_CT l layX qeX5_replace := am_met0 rfl (by decide +kernel) rfl rfl rfl rfl rfl (fun _ => rfl) rfl (qzX5_replace l) (fun k e1 h => (qyX5_replace l k e1 h).2) (fun as F A K h => by
  replace h : qsX5_replace as F A K := h
  unfold qsX5_replace at h
  split at h
  · rename_i o k v
    refine ⟨by first | exact Nat.le_of_ble_eq_true rfl | simp [am_fl, am_cat], ?_⟩
    replace h := am_cond2 h
    rcases h with ⟨hb, h⟩ | h
    · skip
      have hb0 := hb
      have hb0 := am_bq hb0
      subst hb0
      exact am_way_line (qvX5_replace_14 k v F A K h)
    exact h.elim
  · exact h.elim)
def qkX5_number : Nat → Option CI := fun pc => cond (Nat.ble 30 pc) none (cond (Nat.ble 12 pc) (cond (Nat.ble 23 pc) (cond (Nat.ble 25 pc) (cond (Nat.beq pc 25) (some (.goto 4, 28, [29])) (cond (Nat.beq pc 28) (some (.lconst 0, 29, [])) (cond (Nat.beq pc 29) (some (.lreturn, 30, [])) (none)))) (cond (Nat.beq pc 23) (some (.iload_n 3, 24, [])) (cond (Nat.beq pc 24) (some (.laload, 25, [])) (none)))) (cond (Nat.ble 16 pc) (cond (Nat.beq pc 16) (some (.if_icmp .ge 12, 19, [28])) (cond (Nat.beq pc 19) (some (.aload_n 0, 20, [])) (cond (Nat.beq pc 20) (some (.getfield 9, 23, [])) (none)))) (cond (Nat.beq pc 12) (some (.getfield 9, 15, [])) (cond (Nat.beq pc 15) (some (.arraylength, 16, [])) (none))))) (cond (Nat.ble 5 pc) (cond (Nat.ble 7 pc) (cond (Nat.beq pc 7) (some (.ifCond .lt 21, 10, [28])) (cond (Nat.beq pc 10) (some (.iload_n 3, 11, [])) (cond (Nat.beq pc 11) (some (.aload_n 0, 12, [])) (none)))) (cond (Nat.beq pc 5) (some (.istore_n 3, 6, [])) (cond (Nat.beq pc 6) (some (.iload_n 3, 7, [])) (none)))) (cond (Nat.ble 2 pc) (cond (Nat.beq pc 2) (some (.imul, 3, [])) (cond (Nat.beq pc 3) (some (.iload_n 2, 4, [])) (cond (Nat.beq pc 4) (some (.iadd, 5, [])) (none)))) (cond (Nat.beq pc 0) (some (.iload_n 1, 1, [])) (cond (Nat.beq pc 1) (some (.iconst 4, 2, [])) (none))))))
theorem qkX5_number_ok : ∀ pc i nx ts, qkX5_number pc = some (i, nx, ts) → am_cok cX5_number pc (i, nx, ts) = true := fun pc i nx ts h => am_tok_ok (n := 30) (by decide +kernel) (fun pc h => by show cond (Nat.ble 30 pc) _ _ = _; rw [Nat.ble_eq_true_of_le h]; rfl) h
def qaX5_number : Nat → Option CE := fun k => none
theorem qyX5_number (l : Launch) : ∀ k e1, qaX5_number k = some e1 → am_cal l layX RX5 3 k e1 ∧ ceT e1 = 0 := q_nil
def qxX5_number : CX := (qkX5_number, layX, qfX5, qaX5_number, qcX5, qlX5, qmX5, (some .long), false, none, 0, none, fun _ => none)
theorem qzX5_number (l : Launch) : am_sta l qxX5_number RX5 3 cX5_number := ⟨qkX5_number_ok, layX_ok, qfX5_ok, qcX5_ok, qlX5_ok, am_mthP qmX5_ok (by decide), fun k e1 h => (qyX5_number l k e1 h).1⟩
def qsX5_number : SP := fun as F A K => match as with
  | [.inr (.inr o), .inl d, .inl k] => cond (Nat.beq o 14) ((0 ≤ d ∧ d ≤ 12 ∧ 0 ≤ k ∧ k < 4) ∧ (K (some (some (vL (A 15 (d * 4 + k))))) F A)) (False)
  | _ => False
def qeX5_number : CE := (yX5_number, cX5_number, 4, (some .long), 2, some 5, 0, none, 0, 3, qsX5_number)
theorem qbX5_number : am_mb qeX5_number := ⟨am_tb_at 967 (by decide +kernel) rfl, am_tb_at 40 (by decide +kernel) rfl, ⟨by decide, by decide, by decide +kernel⟩, by decide, am_tb_at 966 (by decide +kernel) rfl, am_tb_at 18 (by decide +kernel) rfl, _, _, rfl⟩
set_option maxRecDepth 20000 in
theorem qvX5_number_14 (d : Int) (k : Int) (F : FF) (A : AA) (K : KK) (h : (0 ≤ d ∧ d ≤ 12 ∧ 0 ≤ k ∧ k < 4) ∧ (K (some (some (vL (A 15 (d * 4 + k))))) F A)) : am_line qxX5_number 20 [vR 14, vI d, vI k] 4 F A K := by
  show am_stp qxX5_number (am_run qxX5_number (fun _ => none) (fun _ _ _ _ _ _ => False) K 20) K 0 [some (vR 14), some (vI d), some (vI k), none] [] F A 0
  obtain ⟨hp, h⟩ := h
  show (w32 ((d * 4) + k) < w32 0 → (K (some (some (vL 0))) F A)) ∧ (¬ w32 ((d * 4) + k) < w32 0 → ((w32 ((d * 4) + k) < w32 52 → ((0 ≤ w32 ((d * 4) + k) ∧ w32 ((d * 4) + k) < 52) ∧ (K (some (some (vL (A 15 (w32 ((d * 4) + k)))))) F A))) ∧ (¬ w32 ((d * 4) + k) < w32 52 → (K (some (some (vL 0))) F A))))
  refine ⟨fun c1 => ?_, fun c1 => ?_⟩
  · skip
    try simp (disch := omega) only [w32_0, w64_0, wbi0, wbi1, yc_eq0, yc_lt0, yc_gt0, Classical.not_not, w32_id, w64_id] at c1
    first | (exfalso; omega) | (simp (disch := omega) only [w32_id]; exact h)
  · skip
    try simp (disch := omega) only [w32_0, w64_0, wbi0, wbi1, yc_eq0, yc_lt0, yc_gt0, Classical.not_not, w32_id, w64_id] at c1
    refine ⟨fun c2 => ?_, fun c2 => ?_⟩
    · skip
      try simp (disch := omega) only [w32_0, w64_0, wbi0, wbi1, yc_eq0, yc_lt0, yc_gt0, Classical.not_not, w32_id, w64_id] at c2
      refine ⟨by first | omega | (simp (disch := omega) only [w32_0, w64_0, wbi0, wbi1, yc_eq0, yc_lt0, yc_gt0, Classical.not_not, w32_id, w64_id]; omega) | (simp (disch := omega) only [w32_0, w64_0, wbi0, wbi1, yc_eq0, yc_lt0, yc_gt0, Classical.not_not, w32_id, w64_id]; done), ?_⟩
      first | (exfalso; omega) | (simp (disch := omega) only [w32_id]; exact h)
    · skip
      try simp (disch := omega) only [w32_0, w64_0, wbi0, wbi1, yc_eq0, yc_lt0, yc_gt0, Classical.not_not, w32_id, w64_id] at c2
      first | (exfalso; omega) | (simp (disch := omega) only [w32_id]; exact h)
theorem qtX5_number (l : Launch) : am_CT l layX qeX5_number := am_met0 rfl (by decide +kernel) rfl rfl rfl rfl rfl (fun _ => rfl) rfl (qzX5_number l) (fun k e1 h => (qyX5_number l k e1 h).2) (fun as F A K h => by
  replace h : qsX5_number as F A K := h
  unfold qsX5_number at h
  split at h
  · rename_i o d k
    refine ⟨by first | exact Nat.le_of_ble_eq_true rfl | simp [am_fl, am_cat], ?_⟩
    replace h := am_cond2 h
    rcases h with ⟨hb, h⟩ | h
    · skip
      have hb0 := hb
      have hb0 := am_bq hb0
      subst hb0
      exact am_way_line (qvX5_number_14 d k F A K h)
    exact h.elim
  · exact h.elim)
def qkX5_isAllZero : Nat → Option CI := fun pc => cond (Nat.ble 31 pc) none (cond (Nat.ble 13 pc) (cond (Nat.ble 22 pc) (cond (Nat.ble 26 pc) (cond (Nat.beq pc 26) (some (.goto (-24), 29, [2])) (cond (Nat.beq pc 29) (some (.iconst 1, 30, [])) (cond (Nat.beq pc 30) (some (.ireturn, 31, [])) (none)))) (cond (Nat.beq pc 22) (some (.ireturn, 23, [])) (cond (Nat.beq pc 23) (some (.iinc 1 1, 26, [])) (none)))) (cond (Nat.ble 17 pc) (cond (Nat.beq pc 17) (some (.lcmp, 18, [])) (cond (Nat.beq pc 18) (some (.ifCond .eq 5, 21, [23])) (cond (Nat.beq pc 21) (some (.iconst 0, 22, [])) (none)))) (cond (Nat.beq pc 13) (some (.invokevirtual 43, 16, [])) (cond (Nat.beq pc 16) (some (.lconst 0, 17, [])) (none))))) (cond (Nat.ble 4 pc) (cond (Nat.ble 10 pc) (cond (Nat.beq pc 10) (some (.aload_n 0, 11, [])) (cond (Nat.beq pc 11) (some (.iconst 0, 12, [])) (cond (Nat.beq pc 12) (some (.iload_n 1, 13, [])) (none)))) (cond (Nat.beq pc 4) (some (.getfield 31, 7, [])) (cond (Nat.beq pc 7) (some (.if_icmp .gt 22, 10, [29])) (none)))) (cond (Nat.ble 2 pc) (cond (Nat.beq pc 2) (some (.iload_n 1, 3, [])) (cond (Nat.beq pc 3) (some (.aload_n 0, 4, [])) (none))) (cond (Nat.beq pc 0) (some (.iconst 0, 1, [])) (cond (Nat.beq pc 1) (some (.istore_n 1, 2, [])) (none))))))
theorem qkX5_isAllZero_ok : ∀ pc i nx ts, qkX5_isAllZero pc = some (i, nx, ts) → am_cok cX5_isAllZero pc (i, nx, ts) = true := fun pc i nx ts h => am_tok_ok (n := 31) (by decide +kernel) (fun pc h => by show cond (Nat.ble 31 pc) _ _ = _; rw [Nat.ble_eq_true_of_le h]; rfl) h
def qaX5_isAllZero : Nat → Option CE := fun k => cond (Nat.beq k 43) (some qeX5_number) (none)
theorem qyX5_isAllZero (l : Launch) : ∀ k e1, qaX5_isAllZero k = some e1 → am_cal l layX RX5 4 k e1 ∧ ceT e1 = 0 := q_cons ⟨am_calV (ci := 5) (qtX5_number l) qbX5_number (by decide) rfl (am_tb_at 964 (by decide +kernel) rfl), rfl⟩ (q_nil)
def qxX5_isAllZero : CX := (qkX5_isAllZero, layX, qfX5, qaX5_isAllZero, qcX5, qlX5, qmX5, (some .boolean), false, none, 0, none, fun _ => none)
theorem qzX5_isAllZero (l : Launch) : am_sta l qxX5_isAllZero RX5 4 cX5_isAllZero := ⟨qkX5_isAllZero_ok, layX_ok, qfX5_ok, qcX5_ok, qlX5_ok, am_mthP qmX5_ok (by decide), fun k e1 h => (qyX5_isAllZero l k e1 h).1⟩
def qsX5_isAllZero : SP := fun as F A K => match as with
  | [.inr (.inr o)] => cond (Nat.beq o 14) ((0 ≤ (F 14 4) ∧ (F 14 4) ≤ 3) ∧ (K (some (some (vI (bi (azP (A 15) (Int.toNat ((F 14 4) + 1))))))) F A)) (False)
  | _ => False
def qeX5_isAllZero : CE := (yX5_isAllZero, cX5_isAllZero, 2, (some .boolean), 0, some 5, 0, none, 0, 4, qsX5_isAllZero)
theorem qbX5_isAllZero : am_mb qeX5_isAllZero := ⟨am_tb_at 963 (by decide +kernel) rfl, am_tb_at 40 (by decide +kernel) rfl, ⟨by decide, by decide, by decide +kernel⟩, by decide, am_tb_at 961 (by decide +kernel) rfl, am_tb_at 962 (by decide +kernel) rfl, _, _, rfl⟩
def qnX5_isAllZero_14 : CUT := fun pc => cond (Nat.beq pc 2) (some [true, true]) (none)
def qiX5_isAllZero_14  (F0 : FF) (A0 : AA) : REC := fun pc ls st F A u => cond (Nat.beq pc 2) (match ls, st, u with
    | [some (.inr (.inr s0)), some (.inl k)], [], 0 => s0 = 14 ∧ F = F0 ∧ A = A0 ∧ (0 ≤ k ∧ k ≤ F0 14 4 + 1 ∧ ∀ j : Nat, (j : Int) < k → w64 (A0 15 j) = 0)
    | _, _, _ => False) (False)
def quX5_isAllZero_14 : Nat → LVs → List AV → FF → AA → Nat := fun pc ls _ F A => cond (Nat.beq pc 2) (match ls with
    | [some (.inr (.inr s0)), some (.inl k)] => Int.toNat (10 - k)
    | _ => 0) (0)
set_option maxRecDepth 20000 in
theorem qvX5_isAllZero_14_0  (F0 : FF) (A0 : AA) (K : KK) (h : (0 ≤ (F0 14 4) ∧ (F0 14 4) ≤ 3) ∧ (K (some (some (vI (bi (azP (A0 15) (Int.toNat ((F0 14 4) + 1))))))) F0 A0)) : am_stp qxX5_isAllZero (am_run qxX5_isAllZero qnX5_isAllZero_14 (qiX5_isAllZero_14  F0 A0) K 16) K 0 (am_ent [vR 14] 2) [] F0 A0 0 := by
  show am_stp qxX5_isAllZero (am_run qxX5_isAllZero qnX5_isAllZero_14 (qiX5_isAllZero_14  F0 A0) K 16) K 0 [some (vR 14), none] [] F0 A0 0
  obtain ⟨hp, h⟩ := h
  show 14 = 14 ∧ F0 = F0 ∧ A0 = A0 ∧ (0 ≤ 0 ∧ 0 ≤ F0 14 4 + 1 ∧ ∀ j : Nat, (j : Int) < 0 → w64 (A0 15 j) = 0)
  refine ⟨rfl, rfl, rfl, ?_⟩
  exact ⟨by omega, by omega, fun j hj => by omega⟩
set_option maxRecDepth 20000 in
theorem qvX5_isAllZero_14_2  (F0 : FF) (A0 : AA) (K : KK) (h : (0 ≤ (F0 14 4) ∧ (F0 14 4) ≤ 3) ∧ (K (some (some (vI (bi (azP (A0 15) (Int.toNat ((F0 14 4) + 1))))))) F0 A0)) (k : Int) (hi : 0 ≤ k ∧ k ≤ F0 14 4 + 1 ∧ ∀ j : Nat, (j : Int) < k → w64 (A0 15 j) = 0) : am_stp qxX5_isAllZero (am_run qxX5_isAllZero qnX5_isAllZero_14 (fun pc ls st F A u => qiX5_isAllZero_14  F0 A0 pc ls st F A u ∧ quX5_isAllZero_14 pc ls st F A < quX5_isAllZero_14 2 [some (vR 14), some (vI k)] [] F0 A0) K 16) K 2 [some (vR 14), some (vI k)] [] F0 A0 0 := by
  obtain ⟨hp, h⟩ := h
  obtain ⟨h1, h2, h3⟩ := hi
  show (w32 (F0 14 4) < w32 k → ((1 = 0 ∨ 1 = 1) ∧ (K (some (some (vI 1))) F0 A0))) ∧ (¬ w32 (F0 14 4) < w32 k → ((0 ≤ 0 ∧ 0 ≤ 12 ∧ 0 ≤ k ∧ k < 4) ∧ ((w32 (y_cmp (A0 15 (0 * 4 + k)) 0) = w32 0 → ((14 = 14 ∧ F0 = F0 ∧ A0 = A0 ∧ (0 ≤ (k + 1) ∧ (k + 1) ≤ F0 14 4 + 1 ∧ ∀ j : Nat, (j : Int) < (k + 1) → w64 (A0 15 j) = 0)) ∧ (Int.toNat (10 - (k + 1))) < (Int.toNat (10 - k)))) ∧ (¬ w32 (y_cmp (A0 15 (0 * 4 + k)) 0) = w32 0 → ((0 = 0 ∨ 0 = 1) ∧ (K (some (some (vI 0))) F0 A0))))))
  refine ⟨fun c1 => ?_, fun c1 => ?_⟩
  · skip
    try simp (disch := omega) only [w32_0, w64_0, wbi0, wbi1, yc_eq0, yc_lt0, yc_gt0, Classical.not_not, w32_id, w64_id] at c1
    refine ⟨by first | exact Or.inl rfl | exact Or.inr rfl | first | omega | (simp (disch := omega) only [w32_id, w32_0]; omega), ?_⟩
    exact K_eq h (bi_t (fun j hj => h3 j (by omega)))
  · skip
    try simp (disch := omega) only [w32_0, w64_0, wbi0, wbi1, yc_eq0, yc_lt0, yc_gt0, Classical.not_not, w32_id, w64_id] at c1
    refine ⟨by first | exact Or.inl rfl | exact Or.inr rfl | first | omega | (simp (disch := omega) only [w32_id, w32_0]; omega), ?_⟩
    refine ⟨fun c2 => ?_, fun c2 => ?_⟩
    · skip
      try simp (disch := omega) only [w32_0, w64_0, wbi0, wbi1, yc_eq0, yc_lt0, yc_gt0, Classical.not_not, w32_id, w64_id] at c2
      refine ⟨⟨rfl, rfl, rfl, ?_⟩, by omega⟩
      refine ⟨by omega, by omega, fun j hj => ?_⟩
      by_cases e : (j : Int) = k
      · rw [e]; simpa using c2
      · exact h3 j (by omega)
    · skip
      try simp (disch := omega) only [w32_0, w64_0, wbi0, wbi1, yc_eq0, yc_lt0, yc_gt0, Classical.not_not, w32_id, w64_id] at c2
      refine ⟨by first | exact Or.inl rfl | exact Or.inr rfl | first | omega | (simp (disch := omega) only [w32_id, w32_0]; omega), ?_⟩
      refine K_eq h (bi_f (fun q => c2 ?_))
      have := q k.toNat (by omega)
      rw [show ((k.toNat : Nat) : Int) = k by omega] at this
      simpa using this
set_option maxRecDepth 20000 in
theorem qvX5_isAllZero_14  (F0 : FF) (A0 : AA) (K : KK) (h : (0 ≤ (F0 14 4) ∧ (F0 14 4) ≤ 3) ∧ (K (some (some (vI (bi (azP (A0 15) (Int.toNat ((F0 14 4) + 1))))))) F0 A0)) : am_body qxX5_isAllZero qnX5_isAllZero_14 16 (qiX5_isAllZero_14  F0 A0) quX5_isAllZero_14 [vR 14] 2 F0 A0 K := by
  refine ⟨qvX5_isAllZero_14_0  F0 A0 K h, fun pc ls st F A u hI => ?_⟩
  unfold qiX5_isAllZero_14 at hI
  replace hI := am_cond2 hI
  rcases hI with ⟨hb, hI⟩ | hI
  · have hb := am_bq hb
    subst hb
    split at hI
    · rename_i s0 k
      obtain ⟨e0, e1, e2, hI⟩ := hI
      subst e0
      subst e1
      subst e2
      exact qvX5_isAllZero_14_2  _ _ K h _ hI
    · exact hI.elim
  exact hI.elim
theorem qtX5_isAllZero (l : Launch) : am_CT l layX qeX5_isAllZero := am_met0 rfl (by decide +kernel) rfl rfl rfl rfl rfl (fun _ => rfl) rfl (qzX5_isAllZero l) (fun k e1 h => (qyX5_isAllZero l k e1 h).2) (fun as F A K h => by
  replace h : qsX5_isAllZero as F A K := h
  unfold qsX5_isAllZero at h
  split at h
  · rename_i o
    refine ⟨by first | exact Nat.le_of_ble_eq_true rfl | simp [am_fl, am_cat], ?_⟩
    replace h := am_cond2 h
    rcases h with ⟨hb, h⟩ | h
    · skip
      have hb0 := hb
      have hb0 := am_bq hb0
      subst hb0
      exact am_way_body (qvX5_isAllZero_14  F A K h)
    exact h.elim
  · exact h.elim)
def qkX5_goDown : Nat → Option CI := fun pc => cond (Nat.ble 21 pc) none (cond (Nat.ble 9 pc) (cond (Nat.ble 13 pc) (cond (Nat.ble 17 pc) (cond (Nat.beq pc 17) (some (.invokestatic 47, 20, [])) (cond (Nat.beq pc 20) (some (.return_, 21, [])) (none))) (cond (Nat.beq pc 13) (some (.getfield 31, 16, [])) (cond (Nat.beq pc 16) (some (.iload_n 2, 17, [])) (none)))) (cond (Nat.ble 11 pc) (cond (Nat.beq pc 11) (some (.imul, 12, [])) (cond (Nat.beq pc 12) (some (.aload_n 0, 13, [])) (none))) (cond (Nat.beq pc 9) (some (.iadd, 10, [])) (cond (Nat.beq pc 10) (some (.iconst 4, 11, [])) (none))))) (cond (Nat.ble 5 pc) (cond (Nat.ble 7 pc) (cond (Nat.beq pc 7) (some (.iload_n 1, 8, [])) (cond (Nat.beq pc 8) (some (.iconst 1, 9, [])) (none))) (cond (Nat.beq pc 5) (some (.iconst 4, 6, [])) (cond (Nat.beq pc 6) (some (.imul, 7, [])) (none)))) (cond (Nat.beq pc 0) (some (.aload_n 0, 1, [])) (cond (Nat.beq pc 1) (some (.getfield 9, 4, [])) (cond (Nat.beq pc 4) (some (.iload_n 1, 5, [])) (none))))))
theorem qkX5_goDown_ok : ∀ pc i nx ts, qkX5_goDown pc = some (i, nx, ts) → am_cok cX5_goDown pc (i, nx, ts) = true := fun pc i nx ts h => am_tok_ok (n := 21) (by decide +kernel) (fun pc h => by show cond (Nat.ble 21 pc) _ _ = _; rw [Nat.ble_eq_true_of_le h]; rfl) h
def qaX5_goDown : Nat → Option CE := fun k => cond (Nat.beq k 47) (some qeX8_halve) (none)
theorem qyX5_goDown (l : Launch) : ∀ k e1, qaX5_goDown k = some e1 → am_cal l layX RX5 4 k e1 ∧ ceT e1 = 0 := q_cons ⟨am_calN (host := "CurveMeetings") (qtX8_halve l) qbX8_halve (by decide) rfl rfl (am_tb_at 1148 (by decide +kernel) rfl), rfl⟩ (q_nil)
def qxX5_goDown : CX := (qkX5_goDown, layX, qfX5, qaX5_goDown, qcX5, qlX5, qmX5, none, false, none, 0, none, fun _ => none)
theorem qzX5_goDown (l : Launch) : am_sta l qxX5_goDown RX5 4 cX5_goDown := ⟨qkX5_goDown_ok, layX_ok, qfX5_ok, qcX5_ok, qlX5_ok, am_mthP qmX5_ok (by decide), fun k e1 h => (qyX5_goDown l k e1 h).1⟩
def qsX5_goDown : SP := fun as F A K => match as with
  | [.inr (.inr o), .inl d, .inl z] => cond (Nat.beq o 14) (((0 ≤ (F 14 4) ∧ (F 14 4) ≤ 3) ∧ 0 ≤ d ∧ d ≤ 11 ∧ (z = 0 ∨ z = 1)) ∧ (K (some none) F (setR A 15 ((d + 1) * 4) ((F 14 4) + 1) (hv (fun i => A 15 (d * 4 + i)) ((F 14 4)) z)))) (False)
  | _ => False
def qeX5_goDown : CE := (yX5_goDown, cX5_goDown, 3, none, 2, some 5, 0, none, 0, 4, qsX5_goDown)
theorem qbX5_goDown : am_mb qeX5_goDown := ⟨am_tb_at 1147 (by decide +kernel) rfl, am_tb_at 40 (by decide +kernel) rfl, ⟨by decide, by decide, by decide +kernel⟩, by decide, am_tb_at 1146 (by decide +kernel) rfl, am_tb_at 30 (by decide +kernel) rfl, _, _, rfl⟩
set_option maxRecDepth 20000 in
theorem qvX5_goDown_14 (d : Int) (z : Int) (F : FF) (A : AA) (K : KK) (h : ((0 ≤ (F 14 4) ∧ (F 14 4) ≤ 3) ∧ 0 ≤ d ∧ d ≤ 11 ∧ (z = 0 ∨ z = 1)) ∧ (K (some none) F (setR A 15 ((d + 1) * 4) ((F 14 4) + 1) (hv (fun i => A 15 (d * 4 + i)) ((F 14 4)) z)))) : am_line qxX5_goDown 16 [vR 14, vI d, vI z] 3 F A K := by
  show am_stp qxX5_goDown (am_run qxX5_goDown (fun _ => none) (fun _ _ _ _ _ _ => False) K 16) K 0 [some (vR 14), some (vI d), some (vI z)] [] F A 0
  obtain ⟨hp, h⟩ := h
  show ((0 ≤ (F 14 4) ∧ (F 14 4) ≤ 3) ∧ (z = 0 ∨ z = 1) ∧ 0 ≤ (d * 4) ∧ (d * 4) + 4 ≤ ((d + 1) * 4) ∧ ((d + 1) * 4) + 4 ≤ 52) ∧ (K (some none) F (setR A 15 ((d + 1) * 4) ((F 14 4) + 1) (hv (fun i => A 15 ((d * 4) + i)) (F 14 4) z)))
  refine ⟨by first | omega | (simp (disch := omega) only [w32_0, w64_0, wbi0, wbi1, yc_eq0, yc_lt0, yc_gt0, Classical.not_not, w32_id, w64_id]; omega) | (simp (disch := omega) only [w32_0, w64_0, wbi0, wbi1, yc_eq0, yc_lt0, yc_gt0, Classical.not_not, w32_id, w64_id]; done), ?_⟩
  first | exact h | exact K_eq h (by first | omega | (simp (disch := omega) only [w32_0, w64_0, wbi0, wbi1, yc_eq0, yc_lt0, yc_gt0, Classical.not_not, w32_id, w64_id]; omega) | (simp (disch := omega) only [w32_0, w64_0, wbi0, wbi1, yc_eq0, yc_lt0, yc_gt0, Classical.not_not, w32_id, w64_id]; done))
theorem qtX5_goDown (l : Launch) : am_CT l layX qeX5_goDown := am_met0 rfl (by decide +kernel) rfl rfl rfl rfl rfl (fun _ => rfl) rfl (qzX5_goDown l) (fun k e1 h => (qyX5_goDown l k e1 h).2) (fun as F A K h => by
  replace h : qsX5_goDown as F A K := h
  unfold qsX5_goDown at h
  split at h
  · rename_i o d z
    refine ⟨by first | exact Nat.le_of_ble_eq_true rfl | simp [am_fl, am_cat], ?_⟩
    replace h := am_cond2 h
    rcases h with ⟨hb, h⟩ | h
    · skip
      have hb0 := hb
      have hb0 := am_bq hb0
      subst hb0
      exact am_way_line (qvX5_goDown_14 d z F A K h)
    exact h.elim
  · exact h.elim)
def qkX5_changesAt : Nat → Option CI := fun pc => cond (Nat.ble 54 pc) none (cond (Nat.ble 23 pc) (cond (Nat.ble 37 pc) (cond (Nat.ble 46 pc) (cond (Nat.ble 52 pc) (cond (Nat.beq pc 52) (some (.iload_n 2, 53, [])) (cond (Nat.beq pc 53) (some (.ireturn, 54, [])) (none))) (cond (Nat.beq pc 46) (some (.iinc 4 1, 49, [])) (cond (Nat.beq pc 49) (some (.goto (-42), 52, [7])) (none)))) (cond (Nat.ble 43 pc) (cond (Nat.beq pc 43) (some (.iload 5, 45, [])) (cond (Nat.beq pc 45) (some (.istore_n 3, 46, [])) (none))) (cond (Nat.beq pc 37) (some (.if_icmp .ne 6, 40, [43])) (cond (Nat.beq pc 40) (some (.iinc 2 1, 43, [])) (none))))) (cond (Nat.ble 30 pc) (cond (Nat.ble 35 pc) (cond (Nat.beq pc 35) (some (.iload_n 3, 36, [])) (cond (Nat.beq pc 36) (some (.ineg, 37, [])) (none))) (cond (Nat.beq pc 30) (some (.ifCond .eq 16, 33, [46])) (cond (Nat.beq pc 33) (some (.iload 5, 35, [])) (none)))) (cond (Nat.beq pc 23) (some (.invokestatic 62, 26, [])) (cond (Nat.beq pc 26) (some (.istore 5, 28, [])) (cond (Nat.beq pc 28) (some (.iload 5, 30, [])) (none)))))) (cond (Nat.ble 9 pc) (cond (Nat.ble 16 pc) (cond (Nat.ble 18 pc) (cond (Nat.beq pc 18) (some (.iload 4, 20, [])) (cond (Nat.beq pc 20) (some (.invokevirtual 43, 23, [])) (none))) (cond (Nat.beq pc 16) (some (.aload_n 0, 17, [])) (cond (Nat.beq pc 17) (some (.iload_n 1, 18, [])) (none)))) (cond (Nat.beq pc 9) (some (.aload_n 0, 10, [])) (cond (Nat.beq pc 10) (some (.getfield 31, 13, [])) (cond (Nat.beq pc 13) (some (.if_icmp .gt 39, 16, [52])) (none))))) (cond (Nat.ble 3 pc) (cond (Nat.ble 5 pc) (cond (Nat.beq pc 5) (some (.istore 4, 7, [])) (cond (Nat.beq pc 7) (some (.iload 4, 9, [])) (none))) (cond (Nat.beq pc 3) (some (.istore_n 3, 4, [])) (cond (Nat.beq pc 4) (some (.iconst 0, 5, [])) (none)))) (cond (Nat.beq pc 0) (some (.iconst 0, 1, [])) (cond (Nat.beq pc 1) (some (.istore_n 2, 2, [])) (cond (Nat.beq pc 2) (some (.iconst 0, 3, [])) (none)))))))
theorem qkX5_changesAt_ok : ∀ pc i nx ts, qkX5_changesAt pc = some (i, nx, ts) → am_cok cX5_changesAt pc (i, nx, ts) = true := fun pc i nx ts h => am_tok_ok (n := 54) (by decide +kernel) (fun pc h => by show cond (Nat.ble 54 pc) _ _ = _; rw [Nat.ble_eq_true_of_le h]; rfl) h
def qaX5_changesAt : Nat → Option CE := fun k => cond (Nat.beq k 43) (some qeX5_number) (cond (Nat.beq k 62) (some qeX8_signOf) (none))
theorem qyX5_changesAt (l : Launch) : ∀ k e1, qaX5_changesAt k = some e1 → am_cal l layX RX5 4 k e1 ∧ ceT e1 = 0 := q_cons ⟨am_calV (ci := 5) (qtX5_number l) qbX5_number (by decide) rfl (am_tb_at 964 (by decide +kernel) rfl), rfl⟩ (q_cons ⟨am_calN (host := "CurveMeetings") (qtX8_signOf l) qbX8_signOf (by decide) rfl rfl (am_tb_at 1143 (by decide +kernel) rfl), rfl⟩ (q_nil))
def qxX5_changesAt : CX := (qkX5_changesAt, layX, qfX5, qaX5_changesAt, qcX5, qlX5, qmX5, (some .int), false, none, 0, none, fun _ => none)
theorem qzX5_changesAt (l : Launch) : am_sta l qxX5_changesAt RX5 4 cX5_changesAt := ⟨qkX5_changesAt_ok, layX_ok, qfX5_ok, qcX5_ok, qlX5_ok, am_mthP qmX5_ok (by decide), fun k e1 h => (qyX5_changesAt l k e1 h).1⟩
def qsX5_changesAt : SP := fun as F A K => match as with
  | [.inr (.inr o), .inl d] => cond (Nat.beq o 14) (((0 ≤ (F 14 4) ∧ (F 14 4) ≤ 3) ∧ 0 ≤ d ∧ d ≤ 12) ∧ (K (some (some (vI (chg (fun i => A 15 (d * 4 + i)) (Int.toNat ((F 14 4) + 1)))))) F A)) (False)
  | _ => False
def qeX5_changesAt : CE := (yX5_changesAt, cX5_changesAt, 6, (some .int), 1, some 5, 0, none, 0, 4, qsX5_changesAt)
theorem qbX5_changesAt : am_mb qeX5_changesAt := ⟨am_tb_at 1142 (by decide +kernel) rfl, am_tb_at 40 (by decide +kernel) rfl, ⟨by decide, by decide, by decide +kernel⟩, by decide, am_tb_at 1141 (by decide +kernel) rfl, am_tb_at 29 (by decide +kernel) rfl, _, _, rfl⟩
def qnX5_changesAt_14 : CUT := fun pc => cond (Nat.beq pc 7) (some [true, true, true, true, true, false]) (none)
def qiX5_changesAt_14 (d : Int) (F0 : FF) (A0 : AA) : REC := fun pc ls st F A u => cond (Nat.beq pc 7) (match ls, st, u with
    | [some (.inr (.inr s0)), some (.inl s1), some (.inl ch), some (.inl be), some (.inl k), none], [], 0 => s0 = 14 ∧ s1 = d ∧ F = F0 ∧ A = A0 ∧ (0 ≤ k ∧ k ≤ F0 14 4 + 1 ∧ ch = (chgF (fun i => A0 15 (d * 4 + i)) (Int.toNat k)).1 ∧ be = (chgF (fun i => A0 15 (d * 4 + i)) (Int.toNat k)).2)
    | _, _, _ => False) (False)
def quX5_changesAt_14 : Nat → LVs → List AV → FF → AA → Nat := fun pc ls _ F A => cond (Nat.beq pc 7) (match ls with
    | [some (.inr (.inr s0)), some (.inl s1), some (.inl ch), some (.inl be), some (.inl k), none] => Int.toNat (10 - k)
    | _ => 0) (0)
set_option maxRecDepth 20000 in
theorem qvX5_changesAt_14_0 (d : Int) (F0 : FF) (A0 : AA) (K : KK) (h : ((0 ≤ (F0 14 4) ∧ (F0 14 4) ≤ 3) ∧ 0 ≤ d ∧ d ≤ 12) ∧ (K (some (some (vI (chg (fun i => A0 15 (d * 4 + i)) (Int.toNat ((F0 14 4) + 1)))))) F0 A0)) : am_stp qxX5_changesAt (am_run qxX5_changesAt qnX5_changesAt_14 (qiX5_changesAt_14 d F0 A0) K 24) K 0 (am_ent [vR 14, vI d] 6) [] F0 A0 0 := by
  show am_stp qxX5_changesAt (am_run qxX5_changesAt qnX5_changesAt_14 (qiX5_changesAt_14 d F0 A0) K 24) K 0 [some (vR 14), some (vI d), none, none, none, none] [] F0 A0 0
  obtain ⟨hp, h⟩ := h
  show 14 = 14 ∧ d = d ∧ F0 = F0 ∧ A0 = A0 ∧ (0 ≤ 0 ∧ 0 ≤ F0 14 4 + 1 ∧ 0 = (chgF (fun i => A0 15 (d * 4 + i)) (Int.toNat 0)).1 ∧ 0 = (chgF (fun i => A0 15 (d * 4 + i)) (Int.toNat 0)).2)
  refine ⟨rfl, rfl, rfl, rfl, ?_⟩
  exact ⟨by omega, by omega, rfl, rfl⟩
set_option maxRecDepth 20000 in
theorem qvX5_changesAt_14_7 (d : Int) (F0 : FF) (A0 : AA) (K : KK) (h : ((0 ≤ (F0 14 4) ∧ (F0 14 4) ≤ 3) ∧ 0 ≤ d ∧ d ≤ 12) ∧ (K (some (some (vI (chg (fun i => A0 15 (d * 4 + i)) (Int.toNat ((F0 14 4) + 1)))))) F0 A0)) (ch : Int) (be : Int) (k : Int) (hi : 0 ≤ k ∧ k ≤ F0 14 4 + 1 ∧ ch = (chgF (fun i => A0 15 (d * 4 + i)) (Int.toNat k)).1 ∧ be = (chgF (fun i => A0 15 (d * 4 + i)) (Int.toNat k)).2) : am_stp qxX5_changesAt (am_run qxX5_changesAt qnX5_changesAt_14 (fun pc ls st F A u => qiX5_changesAt_14 d F0 A0 pc ls st F A u ∧ quX5_changesAt_14 pc ls st F A < quX5_changesAt_14 7 [some (vR 14), some (vI d), some (vI ch), some (vI be), some (vI k), none] [] F0 A0) K 24) K 7 [some (vR 14), some (vI d), some (vI ch), some (vI be), some (vI k), none] [] F0 A0 0 := by
  obtain ⟨hp, h⟩ := h
  obtain ⟨h1, h2, h3, h4⟩ := hi
  have h5 := chgF_b (fun i => A0 15 (d * 4 + i)) (Int.toNat k)
  have h6 := chgF_s (g := fun i => A0 15 (d * 4 + i)) h1
  have h7 := sg_cases (w64 (A0 15 (d * 4 + k)))
  show (w32 (F0 14 4) < w32 k → (K (some (some (vI ch))) F0 A0)) ∧ (¬ w32 (F0 14 4) < w32 k → ((0 ≤ d ∧ d ≤ 12 ∧ 0 ≤ k ∧ k < 4) ∧ ((w32 (sg (w64 (A0 15 (d * 4 + k)))) = w32 0 → ((14 = 14 ∧ d = d ∧ F0 = F0 ∧ A0 = A0 ∧ (0 ≤ (k + 1) ∧ (k + 1) ≤ F0 14 4 + 1 ∧ ch = (chgF (fun i => A0 15 (d * 4 + i)) (Int.toNat (k + 1))).1 ∧ be = (chgF (fun i => A0 15 (d * 4 + i)) (Int.toNat (k + 1))).2)) ∧ (Int.toNat (10 - (k + 1))) < (Int.toNat (10 - k)))) ∧ (¬ w32 (sg (w64 (A0 15 (d * 4 + k)))) = w32 0 → ((w32 (sg (w64 (A0 15 (d * 4 + k)))) = w32 (-be) → ((14 = 14 ∧ d = d ∧ F0 = F0 ∧ A0 = A0 ∧ (0 ≤ (k + 1) ∧ (k + 1) ≤ F0 14 4 + 1 ∧ (ch + 1) = (chgF (fun i => A0 15 (d * 4 + i)) (Int.toNat (k + 1))).1 ∧ (sg (w64 (A0 15 (d * 4 + k)))) = (chgF (fun i => A0 15 (d * 4 + i)) (Int.toNat (k + 1))).2)) ∧ (Int.toNat (10 - (k + 1))) < (Int.toNat (10 - k)))) ∧ (¬ w32 (sg (w64 (A0 15 (d * 4 + k)))) = w32 (-be) → ((14 = 14 ∧ d = d ∧ F0 = F0 ∧ A0 = A0 ∧ (0 ≤ (k + 1) ∧ (k + 1) ≤ F0 14 4 + 1 ∧ ch = (chgF (fun i => A0 15 (d * 4 + i)) (Int.toNat (k + 1))).1 ∧ (sg (w64 (A0 15 (d * 4 + k)))) = (chgF (fun i => A0 15 (d * 4 + i)) (Int.toNat (k + 1))).2)) ∧ (Int.toNat (10 - (k + 1))) < (Int.toNat (10 - k)))))))))
  refine ⟨fun c1 => ?_, fun c1 => ?_⟩
  · skip
    try simp (disch := omega) only [w32_0, w64_0, wbi0, wbi1, yc_eq0, yc_lt0, yc_gt0, Classical.not_not, w32_id, w64_id, sg_w] at c1
    refine K_eq h ?_
    rw [h3, show k = F0 14 4 + 1 by omega]; rfl
  · skip
    try simp (disch := omega) only [w32_0, w64_0, wbi0, wbi1, yc_eq0, yc_lt0, yc_gt0, Classical.not_not, w32_id, w64_id, sg_w] at c1
    refine ⟨by first | omega | (simp (disch := omega) only [w32_0, w64_0, wbi0, wbi1, yc_eq0, yc_lt0, yc_gt0, Classical.not_not, w32_id, w64_id, sg_w]; omega) | (simp (disch := omega) only [w32_0, w64_0, wbi0, wbi1, yc_eq0, yc_lt0, yc_gt0, Classical.not_not, w32_id, w64_id, sg_w]; done), ?_⟩
    refine ⟨fun c2 => ?_, fun c2 => ?_⟩
    · skip
      try simp (disch := omega) only [w32_0, w64_0, wbi0, wbi1, yc_eq0, yc_lt0, yc_gt0, Classical.not_not, w32_id, w64_id, sg_w] at c2
      refine ⟨⟨rfl, rfl, rfl, rfl, ?_⟩, by omega⟩
      rw [if_pos (by omega)] at h6
      exact ⟨by omega, by omega, by rw [h6]; exact h3, by rw [h6]; exact h4⟩
    · skip
      try simp (disch := omega) only [w32_0, w64_0, wbi0, wbi1, yc_eq0, yc_lt0, yc_gt0, Classical.not_not, w32_id, w64_id, sg_w] at c2
      refine ⟨fun c3 => ?_, fun c3 => ?_⟩
      · skip
        try simp (disch := omega) only [w32_0, w64_0, wbi0, wbi1, yc_eq0, yc_lt0, yc_gt0, Classical.not_not, w32_id, w64_id, sg_w] at c3
        refine ⟨⟨rfl, rfl, rfl, rfl, ?_⟩, by omega⟩
        rw [if_neg (by omega), if_pos (by omega)] at h6
        exact ⟨by omega, by omega, by rw [h6, h3], by rw [h6]⟩
      · skip
        try simp (disch := omega) only [w32_0, w64_0, wbi0, wbi1, yc_eq0, yc_lt0, yc_gt0, Classical.not_not, w32_id, w64_id, sg_w] at c3
        refine ⟨⟨rfl, rfl, rfl, rfl, ?_⟩, by omega⟩
        rw [if_neg (by omega), if_neg (by omega)] at h6
        exact ⟨by omega, by omega, by rw [h6, h3], by rw [h6]⟩
set_option maxRecDepth 20000 in
theorem qvX5_changesAt_14 (d : Int) (F0 : FF) (A0 : AA) (K : KK) (h : ((0 ≤ (F0 14 4) ∧ (F0 14 4) ≤ 3) ∧ 0 ≤ d ∧ d ≤ 12) ∧ (K (some (some (vI (chg (fun i => A0 15 (d * 4 + i)) (Int.toNat ((F0 14 4) + 1)))))) F0 A0)) : am_body qxX5_changesAt qnX5_changesAt_14 24 (qiX5_changesAt_14 d F0 A0) quX5_changesAt_14 [vR 14, vI d] 6 F0 A0 K := by
  refine ⟨qvX5_changesAt_14_0 d F0 A0 K h, fun pc ls st F A u hI => ?_⟩
  unfold qiX5_changesAt_14 at hI
  replace hI := am_cond2 hI
  rcases hI with ⟨hb, hI⟩ | hI
  · have hb := am_bq hb
    subst hb
    split at hI
    · rename_i s0 s1 ch be k
      obtain ⟨e0, e1, e2, e3, hI⟩ := hI
      subst e0
      subst e1
      subst e2
      subst e3
      exact qvX5_changesAt_14_7 _ _ _ K h _ _ _ hI
    · exact hI.elim
  exact hI.elim
theorem qtX5_changesAt (l : Launch) : am_CT l layX qeX5_changesAt := am_met0 rfl (by decide +kernel) rfl rfl rfl rfl rfl (fun _ => rfl) rfl (qzX5_changesAt l) (fun k e1 h => (qyX5_changesAt l k e1 h).2) (fun as F A K h => by
  replace h : qsX5_changesAt as F A K := h
  unfold qsX5_changesAt at h
  split at h
  · rename_i o d
    refine ⟨by first | exact Nat.le_of_ble_eq_true rfl | simp [am_fl, am_cat], ?_⟩
    replace h := am_cond2 h
    rcases h with ⟨hb, h⟩ | h
    · skip
      have hb0 := hb
      have hb0 := am_bq hb0
      subst hb0
      exact am_way_body (qvX5_changesAt_14 d F A K h)
    exact h.elim
  · exact h.elim)
def qkX5_goTo : Nat → Option CI := fun pc => cond (Nat.ble 43 pc) none (cond (Nat.ble 19 pc) (cond (Nat.ble 28 pc) (cond (Nat.ble 33 pc) (cond (Nat.ble 39 pc) (cond (Nat.beq pc 39) (some (.goto (-37), 42, [2])) (cond (Nat.beq pc 42) (some (.return_, 43, [])) (none))) (cond (Nat.beq pc 33) (some (.invokevirtual 51, 36, [])) (cond (Nat.beq pc 36) (some (.iinc 3 1, 39, [])) (none)))) (cond (Nat.beq pc 28) (some (.iconst 1, 29, [])) (cond (Nat.beq pc 29) (some (.goto 4, 32, [33])) (cond (Nat.beq pc 32) (some (.iconst 0, 33, [])) (none))))) (cond (Nat.ble 22 pc) (cond (Nat.ble 24 pc) (cond (Nat.beq pc 24) (some (.iconst 1, 25, [])) (cond (Nat.beq pc 25) (some (.if_icmp .ne 7, 28, [32])) (none))) (cond (Nat.beq pc 22) (some (.iconst 1, 23, [])) (cond (Nat.beq pc 23) (some (.iand, 24, [])) (none)))) (cond (Nat.beq pc 19) (some (.iload_n 3, 20, [])) (cond (Nat.beq pc 20) (some (.isub, 21, [])) (cond (Nat.beq pc 21) (some (.ishr, 22, [])) (none)))))) (cond (Nat.ble 10 pc) (cond (Nat.ble 15 pc) (cond (Nat.ble 17 pc) (cond (Nat.beq pc 17) (some (.iconst 1, 18, [])) (cond (Nat.beq pc 18) (some (.isub, 19, [])) (none))) (cond (Nat.beq pc 15) (some (.iload_n 2, 16, [])) (cond (Nat.beq pc 16) (some (.iload_n 1, 17, [])) (none)))) (cond (Nat.beq pc 10) (some (.if_icmp .ge 32, 13, [42])) (cond (Nat.beq pc 13) (some (.aload_n 0, 14, [])) (cond (Nat.beq pc 14) (some (.iload_n 3, 15, [])) (none))))) (cond (Nat.ble 3 pc) (cond (Nat.ble 7 pc) (cond (Nat.beq pc 7) (some (.iload_n 3, 8, [])) (cond (Nat.beq pc 8) (some (.bipush 12, 10, [])) (none))) (cond (Nat.beq pc 3) (some (.iload_n 1, 4, [])) (cond (Nat.beq pc 4) (some (.if_icmp .ge 38, 7, [42])) (none)))) (cond (Nat.beq pc 0) (some (.iconst 0, 1, [])) (cond (Nat.beq pc 1) (some (.istore_n 3, 2, [])) (cond (Nat.beq pc 2) (some (.iload_n 3, 3, [])) (none)))))))
theorem qkX5_goTo_ok : ∀ pc i nx ts, qkX5_goTo pc = some (i, nx, ts) → am_cok cX5_goTo pc (i, nx, ts) = true := fun pc i nx ts h => am_tok_ok (n := 43) (by decide +kernel) (fun pc h => by show cond (Nat.ble 43 pc) _ _ = _; rw [Nat.ble_eq_true_of_le h]; rfl) h
def qaX5_goTo : Nat → Option CE := fun k => cond (Nat.beq k 51) (some qeX5_goDown) (none)
theorem qyX5_goTo (l : Launch) : ∀ k e1, qaX5_goTo k = some e1 → am_cal l layX RX5 5 k e1 ∧ ceT e1 = 0 := q_cons ⟨am_calV (ci := 5) (qtX5_goDown l) qbX5_goDown (by decide) rfl (am_tb_at 1144 (by decide +kernel) rfl), rfl⟩ (q_nil)
def qxX5_goTo : CX := (qkX5_goTo, layX, qfX5, qaX5_goTo, qcX5, qlX5, qmX5, none, false, none, 0, none, fun _ => none)
theorem qzX5_goTo (l : Launch) : am_sta l qxX5_goTo RX5 5 cX5_goTo := ⟨qkX5_goTo_ok, layX_ok, qfX5_ok, qcX5_ok, qlX5_ok, am_mthP qmX5_ok (by decide), fun k e1 h => (qyX5_goTo l k e1 h).1⟩
def qsX5_goTo : SP := fun as F A K => match as with
  | [.inr (.inr o), .inl d, .inl q] => cond (Nat.beq o 14) (((0 ≤ (F 14 4) ∧ (F 14 4) ≤ 3) ∧ 0 ≤ d ∧ d ≤ 12 ∧ 0 ≤ q ∧ q < 2147483648) ∧ (∀ (B_1 : AA), (gtP A B_1 ((F 14 4)) d q) → (K (some none) F B_1))) (False)
  | _ => False
def qeX5_goTo : CE := (yX5_goTo, cX5_goTo, 4, none, 2, some 5, 0, none, 0, 5, qsX5_goTo)
theorem qbX5_goTo : am_mb qeX5_goTo := ⟨am_tb_at 1233 (by decide +kernel) rfl, am_tb_at 40 (by decide +kernel) rfl, ⟨by decide, by decide, by decide +kernel⟩, by decide, am_tb_at 1232 (by decide +kernel) rfl, am_tb_at 33 (by decide +kernel) rfl, _, _, rfl⟩
def qnX5_goTo_14 : CUT := fun pc => cond (Nat.beq pc 2) (some [true, true, true, true]) (none)
def qiX5_goTo_14 (d : Int) (q : Int) (F0 : FF) (A0 : AA) : REC := fun pc ls st F A u => cond (Nat.beq pc 2) (match ls, st, u with
    | [some (.inr (.inr s0)), some (.inl s1), some (.inl s2), some (.inl k)], [], 0 => s0 = 14 ∧ s1 = d ∧ s2 = q ∧ F = F0 ∧ (0 ≤ k ∧ k ≤ d ∧ (∀ b i, b ≠ 15 ∨ i < 4 → A b i = A0 b i) ∧ ∀ i, 0 ≤ i → i ≤ F0 14 4 → A 15 (k * 4 + i) = cellF (A0 15) (F0 14 4) (Int.toNat k) (q / p2 (d - k)) i)
    | _, _, _ => False) (False)
def quX5_goTo_14 : Nat → LVs → List AV → FF → AA → Nat := fun pc ls _ F A => cond (Nat.beq pc 2) (match ls with
    | [some (.inr (.inr s0)), some (.inl s1), some (.inl s2), some (.inl k)] => Int.toNat (20 - k)
    | _ => 0) (0)
set_option maxRecDepth 20000 in
theorem qvX5_goTo_14_0 (d : Int) (q : Int) (F0 : FF) (A0 : AA) (K : KK) (h : ((0 ≤ (F0 14 4) ∧ (F0 14 4) ≤ 3) ∧ 0 ≤ d ∧ d ≤ 12 ∧ 0 ≤ q ∧ q < 2147483648) ∧ (∀ (B_1 : AA), (gtP A0 B_1 ((F0 14 4)) d q) → (K (some none) F0 B_1))) : am_stp qxX5_goTo (am_run qxX5_goTo qnX5_goTo_14 (qiX5_goTo_14 d q F0 A0) K 27) K 0 (am_ent [vR 14, vI d, vI q] 4) [] F0 A0 0 := by
  show am_stp qxX5_goTo (am_run qxX5_goTo qnX5_goTo_14 (qiX5_goTo_14 d q F0 A0) K 27) K 0 [some (vR 14), some (vI d), some (vI q), none] [] F0 A0 0
  obtain ⟨hp, h⟩ := h
  show 14 = 14 ∧ d = d ∧ q = q ∧ F0 = F0 ∧ (0 ≤ 0 ∧ 0 ≤ d ∧ (∀ b i, b ≠ 15 ∨ i < 4 → A0 b i = A0 b i) ∧ ∀ i, 0 ≤ i → i ≤ F0 14 4 → A0 15 (0 * 4 + i) = cellF (A0 15) (F0 14 4) (Int.toNat 0) (q / p2 (d - 0)) i)
  refine ⟨rfl, rfl, rfl, rfl, ?_⟩
  refine ⟨by omega, by omega, fun _ _ _ => rfl, fun i i0 i1 => ?_⟩
  rw [Int.zero_mul, Int.zero_add]; rfl
set_option maxRecDepth 20000 in
theorem qvX5_goTo_14_2 (d : Int) (q : Int) (F0 : FF) (A0 : AA) (K : KK) (h : ((0 ≤ (F0 14 4) ∧ (F0 14 4) ≤ 3) ∧ 0 ≤ d ∧ d ≤ 12 ∧ 0 ≤ q ∧ q < 2147483648) ∧ (∀ (B_1 : AA), (gtP A0 B_1 ((F0 14 4)) d q) → (K (some none) F0 B_1))) (k : Int) (A : AA) (hi : 0 ≤ k ∧ k ≤ d ∧ (∀ b i, b ≠ 15 ∨ i < 4 → A b i = A0 b i) ∧ ∀ i, 0 ≤ i → i ≤ F0 14 4 → A 15 (k * 4 + i) = cellF (A0 15) (F0 14 4) (Int.toNat k) (q / p2 (d - k)) i) : am_stp qxX5_goTo (am_run qxX5_goTo qnX5_goTo_14 (fun pc ls st F A u => qiX5_goTo_14 d q F0 A0 pc ls st F A u ∧ quX5_goTo_14 pc ls st F A < quX5_goTo_14 2 [some (vR 14), some (vI d), some (vI q), some (vI k)] [] F0 A) K 27) K 2 [some (vR 14), some (vI d), some (vI q), some (vI k)] [] F0 A 0 := by
  obtain ⟨hp, h⟩ := h
  obtain ⟨h1, h2, h4, h5⟩ := hi
  show (w32 k < w32 d → ((w32 k < w32 12 → ((w32 (x_and (x_shr q ((d - 1) - k)) 1) = w32 1 → (((0 ≤ (F0 14 4) ∧ (F0 14 4) ≤ 3) ∧ 0 ≤ k ∧ k ≤ 11 ∧ (1 = 0 ∨ 1 = 1)) ∧ ((14 = 14 ∧ d = d ∧ q = q ∧ F0 = F0 ∧ (0 ≤ (k + 1) ∧ (k + 1) ≤ d ∧ (∀ b i, b ≠ 15 ∨ i < 4 → (setR A 15 ((k + 1) * 4) ((F0 14 4) + 1) (hv (fun i => A 15 (k * 4 + i)) ((F0 14 4)) 1)) b i = A0 b i) ∧ ∀ i, 0 ≤ i → i ≤ F0 14 4 → (setR A 15 ((k + 1) * 4) ((F0 14 4) + 1) (hv (fun i => A 15 (k * 4 + i)) ((F0 14 4)) 1)) 15 ((k + 1) * 4 + i) = cellF (A0 15) (F0 14 4) (Int.toNat (k + 1)) (q / p2 (d - (k + 1))) i)) ∧ (Int.toNat (20 - (k + 1))) < (Int.toNat (20 - k))))) ∧ (¬ w32 (x_and (x_shr q ((d - 1) - k)) 1) = w32 1 → (((0 ≤ (F0 14 4) ∧ (F0 14 4) ≤ 3) ∧ 0 ≤ k ∧ k ≤ 11 ∧ (0 = 0 ∨ 0 = 1)) ∧ ((14 = 14 ∧ d = d ∧ q = q ∧ F0 = F0 ∧ (0 ≤ (k + 1) ∧ (k + 1) ≤ d ∧ (∀ b i, b ≠ 15 ∨ i < 4 → (setR A 15 ((k + 1) * 4) ((F0 14 4) + 1) (hv (fun i => A 15 (k * 4 + i)) ((F0 14 4)) 0)) b i = A0 b i) ∧ ∀ i, 0 ≤ i → i ≤ F0 14 4 → (setR A 15 ((k + 1) * 4) ((F0 14 4) + 1) (hv (fun i => A 15 (k * 4 + i)) ((F0 14 4)) 0)) 15 ((k + 1) * 4 + i) = cellF (A0 15) (F0 14 4) (Int.toNat (k + 1)) (q / p2 (d - (k + 1))) i)) ∧ (Int.toNat (20 - (k + 1))) < (Int.toNat (20 - k))))))) ∧ (¬ w32 k < w32 12 → (K (some none) F0 A)))) ∧ (¬ w32 k < w32 d → (K (some none) F0 A))
  refine ⟨fun c1 => ?_, fun c1 => ?_⟩
  · skip
    try simp (disch := omega) only [w32_0, w32_id] at c1
    refine ⟨fun c2 => ?_, fun c2 => ?_⟩
    · skip
      try simp (disch := omega) only [w32_0, w32_id] at c2
      refine ⟨fun c3 => ?_, fun c3 => ?_⟩
      · skip
        try simp (disch := omega) only [w32_0, w32_id] at c3
        refine ⟨by first | omega | (simp (disch := omega) only [w32_0, w64_0, wbi0, wbi1, yc_eq0, yc_lt0, yc_gt0, Classical.not_not, w32_id, w64_id]; omega) | (simp (disch := omega) only [w32_0, w64_0, wbi0, wbi1, yc_eq0, yc_lt0, yc_gt0, Classical.not_not, w32_id, w64_id]; done), ?_⟩
        refine ⟨⟨rfl, rfl, rfl, rfl, ?_⟩, by omega⟩
        have hq : x_and (x_shr q (d - 1 - k)) 1 = q / p2 (d - 1 - k) % 2 := by rw [x_and1, x_shrp (by omega) (by omega) (by omega) (by omega)]
        have hp2 : p2 (d - k) = 2 * p2 (d - 1 - k) := by rw [show d - k = d - 1 - k + 1 by omega]; exact p2_s (by omega)
        have hz : q / p2 (d - 1 - k) % 2 = 1 := by
          rw [hq] at c3
          simp (disch := omega) only [w32_id] at c3
          omega
        refine ⟨by omega, by omega, fun b i hb => ?_, fun i i0 i1 => ?_⟩
        · by_cases hbb : b = 15
          · subst hbb
            rw [setR_lt (by omega)]; exact h4 _ _ hb
          · rw [setR_o hbb]; exact h4 _ _ hb
        · rw [setR_at i0 (by omega), cellF_s h1, show q / p2 (d - (k + 1)) / 2 = q / p2 (d - k) by rw [Int.ediv_ediv_of_nonneg (Int.le_of_lt p2_pos), hp2, show d - (k + 1) = d - 1 - k by omega, Int.mul_comm], show d - (k + 1) = d - 1 - k by omega, hz]
          exact hv_c (fun j j0 j1 => h5 j j0 j1) i0 i1
      · skip
        try simp (disch := omega) only [w32_0, w32_id] at c3
        refine ⟨by first | omega | (simp (disch := omega) only [w32_0, w64_0, wbi0, wbi1, yc_eq0, yc_lt0, yc_gt0, Classical.not_not, w32_id, w64_id]; omega) | (simp (disch := omega) only [w32_0, w64_0, wbi0, wbi1, yc_eq0, yc_lt0, yc_gt0, Classical.not_not, w32_id, w64_id]; done), ?_⟩
        refine ⟨⟨rfl, rfl, rfl, rfl, ?_⟩, by omega⟩
        have hq : x_and (x_shr q (d - 1 - k)) 1 = q / p2 (d - 1 - k) % 2 := by rw [x_and1, x_shrp (by omega) (by omega) (by omega) (by omega)]
        have hp2 : p2 (d - k) = 2 * p2 (d - 1 - k) := by rw [show d - k = d - 1 - k + 1 by omega]; exact p2_s (by omega)
        have hz : q / p2 (d - 1 - k) % 2 = 0 := by
          rw [hq] at c3
          simp (disch := omega) only [w32_id] at c3
          omega
        refine ⟨by omega, by omega, fun b i hb => ?_, fun i i0 i1 => ?_⟩
        · by_cases hbb : b = 15
          · subst hbb
            rw [setR_lt (by omega)]; exact h4 _ _ hb
          · rw [setR_o hbb]; exact h4 _ _ hb
        · rw [setR_at i0 (by omega), cellF_s h1, show q / p2 (d - (k + 1)) / 2 = q / p2 (d - k) by rw [Int.ediv_ediv_of_nonneg (Int.le_of_lt p2_pos), hp2, show d - (k + 1) = d - 1 - k by omega, Int.mul_comm], show d - (k + 1) = d - 1 - k by omega, hz]
          exact hv_c (fun j j0 j1 => h5 j j0 j1) i0 i1
    · skip
      try simp (disch := omega) only [w32_0, w32_id] at c2
      exfalso; omega
  · skip
    try simp (disch := omega) only [w32_0, w32_id] at c1
    exact h _ ⟨h4, fun i i0 i1 => by rw [show d = k by omega, h5 i i0 i1, show d - k = 0 by omega, p2_0, Int.ediv_one]⟩
set_option maxRecDepth 20000 in
theorem qvX5_goTo_14 (d : Int) (q : Int) (F0 : FF) (A0 : AA) (K : KK) (h : ((0 ≤ (F0 14 4) ∧ (F0 14 4) ≤ 3) ∧ 0 ≤ d ∧ d ≤ 12 ∧ 0 ≤ q ∧ q < 2147483648) ∧ (∀ (B_1 : AA), (gtP A0 B_1 ((F0 14 4)) d q) → (K (some none) F0 B_1))) : am_body qxX5_goTo qnX5_goTo_14 27 (qiX5_goTo_14 d q F0 A0) quX5_goTo_14 [vR 14, vI d, vI q] 4 F0 A0 K := by
  refine ⟨qvX5_goTo_14_0 d q F0 A0 K h, fun pc ls st F A u hI => ?_⟩
  unfold qiX5_goTo_14 at hI
  replace hI := am_cond2 hI
  rcases hI with ⟨hb, hI⟩ | hI
  · have hb := am_bq hb
    subst hb
    split at hI
    · rename_i s0 s1 s2 k
      obtain ⟨e0, e1, e2, e3, hI⟩ := hI
      subst e0
      subst e1
      subst e2
      subst e3
      exact qvX5_goTo_14_2 _ _ _ _ K h _ _ hI
    · exact hI.elim
  exact hI.elim
theorem qtX5_goTo (l : Launch) : am_CT l layX qeX5_goTo := am_met0 rfl (by decide +kernel) rfl rfl rfl rfl rfl (fun _ => rfl) rfl (qzX5_goTo l) (fun k e1 h => (qyX5_goTo l k e1 h).2) (fun as F A K h => by
  replace h : qsX5_goTo as F A K := h
  unfold qsX5_goTo at h
  split at h
  · rename_i o d q
    refine ⟨by first | exact Nat.le_of_ble_eq_true rfl | simp [am_fl, am_cat], ?_⟩
    replace h := am_cond2 h
    rcases h with ⟨hb, h⟩ | h
    · skip
      have hb0 := hb
      have hb0 := am_bq hb0
      subst hb0
      exact am_way_body (qvX5_goTo_14 d q F A K h)
    exact h.elim
  · exact h.elim)
def qkX5_changesOfCell : Nat → Option CI := fun pc => cond (Nat.ble 12 pc) none (cond (Nat.ble 6 pc) (cond (Nat.ble 8 pc) (cond (Nat.beq pc 8) (some (.invokevirtual 59, 11, [])) (cond (Nat.beq pc 11) (some (.ireturn, 12, [])) (none))) (cond (Nat.beq pc 6) (some (.aload_n 0, 7, [])) (cond (Nat.beq pc 7) (some (.iload_n 1, 8, [])) (none)))) (cond (Nat.ble 2 pc) (cond (Nat.beq pc 2) (some (.iload_n 2, 3, [])) (cond (Nat.beq pc 3) (some (.invokevirtual 55, 6, [])) (none))) (cond (Nat.beq pc 0) (some (.aload_n 0, 1, [])) (cond (Nat.beq pc 1) (some (.iload_n 1, 2, [])) (none)))))
theorem qkX5_changesOfCell_ok : ∀ pc i nx ts, qkX5_changesOfCell pc = some (i, nx, ts) → am_cok cX5_changesOfCell pc (i, nx, ts) = true := fun pc i nx ts h => am_tok_ok (n := 12) (by decide +kernel) (fun pc h => by show cond (Nat.ble 12 pc) _ _ = _; rw [Nat.ble_eq_true_of_le h]; rfl) h
def qaX5_changesOfCell : Nat → Option CE := fun k => cond (Nat.beq k 55) (some qeX5_goTo) (cond (Nat.beq k 59) (some qeX5_changesAt) (none))
theorem qyX5_changesOfCell (l : Launch) : ∀ k e1, qaX5_changesOfCell k = some e1 → am_cal l layX RX5 6 k e1 ∧ ceT e1 = 0 := q_cons ⟨am_calV (ci := 5) (qtX5_goTo l) qbX5_goTo (by decide) rfl (am_tb_at 1230 (by decide +kernel) rfl), rfl⟩ (q_cons ⟨am_calV (ci := 5) (qtX5_changesAt l) qbX5_changesAt (by decide) rfl (am_tb_at 1139 (by decide +kernel) rfl), rfl⟩ (q_nil))
def qxX5_changesOfCell : CX := (qkX5_changesOfCell, layX, qfX5, qaX5_changesOfCell, qcX5, qlX5, qmX5, (some .int), false, none, 0, none, fun _ => none)
theorem qzX5_changesOfCell (l : Launch) : am_sta l qxX5_changesOfCell RX5 6 cX5_changesOfCell := ⟨qkX5_changesOfCell_ok, layX_ok, qfX5_ok, qcX5_ok, qlX5_ok, am_mthP qmX5_ok (by decide), fun k e1 h => (qyX5_changesOfCell l k e1 h).1⟩
def qsX5_changesOfCell : SP := fun as F A K => match as with
  | [.inr (.inr o), .inl d, .inl q] => cond (Nat.beq o 14) (((0 ≤ (F 14 4) ∧ (F 14 4) ≤ 3) ∧ 0 ≤ d ∧ d ≤ 12 ∧ 0 ≤ q ∧ q < 2147483648) ∧ (∀ (B_1 : AA), (gtP A B_1 ((F 14 4)) d q) → (K (some (some (vI (chg (cellF (A 15) ((F 14 4)) (Int.toNat d) q) (Int.toNat ((F 14 4) + 1)))))) F B_1))) (False)
  | _ => False
def qeX5_changesOfCell : CE := (yX5_changesOfCell, cX5_changesOfCell, 3, (some .int), 2, some 5, 0, none, 0, 6, qsX5_changesOfCell)
theorem qbX5_changesOfCell : am_mb qeX5_changesOfCell := ⟨am_tb_at 1229 (by decide +kernel) rfl, am_tb_at 40 (by decide +kernel) rfl, ⟨by decide, by decide, by decide +kernel⟩, by decide, am_tb_at 1227 (by decide +kernel) rfl, am_tb_at 1228 (by decide +kernel) rfl, _, _, rfl⟩
set_option maxRecDepth 20000 in
theorem qvX5_changesOfCell_14 (d : Int) (q : Int) (F : FF) (A : AA) (K : KK) (h : ((0 ≤ (F 14 4) ∧ (F 14 4) ≤ 3) ∧ 0 ≤ d ∧ d ≤ 12 ∧ 0 ≤ q ∧ q < 2147483648) ∧ (∀ (B_1 : AA), (gtP A B_1 ((F 14 4)) d q) → (K (some (some (vI (chg (cellF (A 15) ((F 14 4)) (Int.toNat d) q) (Int.toNat ((F 14 4) + 1)))))) F B_1))) : am_line qxX5_changesOfCell 9 [vR 14, vI d, vI q] 3 F A K := by
  show am_stp qxX5_changesOfCell (am_run qxX5_changesOfCell (fun _ => none) (fun _ _ _ _ _ _ => False) K 9) K 0 [some (vR 14), some (vI d), some (vI q)] [] F A 0
  obtain ⟨hp, h⟩ := h
  show ((0 ≤ (F 14 4) ∧ (F 14 4) ≤ 3) ∧ 0 ≤ d ∧ d ≤ 12 ∧ 0 ≤ q ∧ q < 2147483648) ∧ (∀ (B_1 : AA), (gtP A B_1 ((F 14 4)) d q) → (((0 ≤ (F 14 4) ∧ (F 14 4) ≤ 3) ∧ 0 ≤ d ∧ d ≤ 12) ∧ (K (some (some (vI (chg (fun i => B_1 15 (d * 4 + i)) (Int.toNat ((F 14 4) + 1)))))) F B_1)))
  refine ⟨by first | omega | (simp (disch := omega) only [w32_0, w64_0, wbi0, wbi1, yc_eq0, yc_lt0, yc_gt0, Classical.not_not, w32_id, w64_id]; omega) | (simp (disch := omega) only [w32_0, w64_0, wbi0, wbi1, yc_eq0, yc_lt0, yc_gt0, Classical.not_not, w32_id, w64_id]; done), ?_⟩
  intro B_1 g1
  refine ⟨by first | omega | (simp (disch := omega) only [w32_0, w64_0, wbi0, wbi1, yc_eq0, yc_lt0, yc_gt0, Classical.not_not, w32_id, w64_id]; omega) | (simp (disch := omega) only [w32_0, w64_0, wbi0, wbi1, yc_eq0, yc_lt0, yc_gt0, Classical.not_not, w32_id, w64_id]; done), ?_⟩
  refine K_eq (h _ g1) ?_
  exact chg_c (fun k k0 k1 => (g1.2 k k0 (by omega)).symm)
theorem qtX5_changesOfCell (l : Launch) : am_CT l layX qeX5_changesOfCell := am_met0 rfl (by decide +kernel) rfl rfl rfl rfl rfl (fun _ => rfl) rfl (qzX5_changesOfCell l) (fun k e1 h => (qyX5_changesOfCell l k e1 h).2) (fun as F A K h => by
  replace h : qsX5_changesOfCell as F A K := h
  unfold qsX5_changesOfCell at h
  split at h
  · rename_i o d q
    refine ⟨by first | exact Nat.le_of_ble_eq_true rfl | simp [am_fl, am_cat], ?_⟩
    replace h := am_cond2 h
    rcases h with ⟨hb, h⟩ | h
    · skip
      have hb0 := hb
      have hb0 := am_bq hb0
      subst hb0
      exact am_way_line (qvX5_changesOfCell_14 d q F A K h)
    exact h.elim
  · exact h.elim)
def qkX5_add : Nat → Option CI := fun pc => cond (Nat.ble 57 pc) none (cond (Nat.ble 31 pc) (cond (Nat.ble 45 pc) (cond (Nat.ble 51 pc) (cond (Nat.ble 53 pc) (cond (Nat.beq pc 53) (some (.putfield 66, 56, [])) (cond (Nat.beq pc 56) (some (.return_, 57, [])) (none))) (cond (Nat.beq pc 51) (some (.iconst 1, 52, [])) (cond (Nat.beq pc 52) (some (.iadd, 53, [])) (none)))) (cond (Nat.ble 47 pc) (cond (Nat.beq pc 47) (some (.dup, 48, [])) (cond (Nat.beq pc 48) (some (.getfield 66, 51, [])) (none))) (cond (Nat.beq pc 45) (some (.iastore, 46, [])) (cond (Nat.beq pc 46) (some (.aload_n 0, 47, [])) (none))))) (cond (Nat.ble 37 pc) (cond (Nat.ble 41 pc) (cond (Nat.beq pc 41) (some (.getfield 66, 44, [])) (cond (Nat.beq pc 44) (some (.iload_n 3, 45, [])) (none))) (cond (Nat.beq pc 37) (some (.getfield 22, 40, [])) (cond (Nat.beq pc 40) (some (.aload_n 0, 41, [])) (none)))) (cond (Nat.ble 35 pc) (cond (Nat.beq pc 35) (some (.iastore, 36, [])) (cond (Nat.beq pc 36) (some (.aload_n 0, 37, [])) (none))) (cond (Nat.beq pc 31) (some (.getfield 66, 34, [])) (cond (Nat.beq pc 34) (some (.iload_n 2, 35, [])) (none)))))) (cond (Nat.ble 17 pc) (cond (Nat.ble 25 pc) (cond (Nat.ble 27 pc) (cond (Nat.beq pc 27) (some (.getfield 19, 30, [])) (cond (Nat.beq pc 30) (some (.aload_n 0, 31, [])) (none))) (cond (Nat.beq pc 25) (some (.iastore, 26, [])) (cond (Nat.beq pc 26) (some (.aload_n 0, 27, [])) (none)))) (cond (Nat.ble 21 pc) (cond (Nat.beq pc 21) (some (.getfield 66, 24, [])) (cond (Nat.beq pc 24) (some (.iload_n 1, 25, [])) (none))) (cond (Nat.beq pc 17) (some (.getfield 15, 20, [])) (cond (Nat.beq pc 20) (some (.aload_n 0, 21, [])) (none))))) (cond (Nat.ble 8 pc) (cond (Nat.ble 13 pc) (cond (Nat.beq pc 13) (some (.if_icmp .ge 43, 16, [56])) (cond (Nat.beq pc 16) (some (.aload_n 0, 17, [])) (none))) (cond (Nat.beq pc 8) (some (.getfield 66, 11, [])) (cond (Nat.beq pc 11) (some (.bipush 8, 13, [])) (none)))) (cond (Nat.ble 4 pc) (cond (Nat.beq pc 4) (some (.ifCond .lt 52, 7, [56])) (cond (Nat.beq pc 7) (some (.aload_n 0, 8, [])) (none))) (cond (Nat.beq pc 0) (some (.aload_n 0, 1, [])) (cond (Nat.beq pc 1) (some (.getfield 66, 4, [])) (none)))))))
theorem qkX5_add_ok : ∀ pc i nx ts, qkX5_add pc = some (i, nx, ts) → am_cok cX5_add pc (i, nx, ts) = true := fun pc i nx ts h => am_tok_ok (n := 57) (by decide +kernel) (fun pc h => by show cond (Nat.ble 57 pc) _ _ = _; rw [Nat.ble_eq_true_of_le h]; rfl) h
def qaX5_add : Nat → Option CE := fun k => none
theorem qyX5_add (l : Launch) : ∀ k e1, qaX5_add k = some e1 → am_cal l layX RX5 3 k e1 ∧ ceT e1 = 0 := q_nil
def qxX5_add : CX := (qkX5_add, layX, qfX5, qaX5_add, qcX5, qlX5, qmX5, none, false, none, 0, none, fun _ => none)
theorem qzX5_add (l : Launch) : am_sta l qxX5_add RX5 3 cX5_add := ⟨qkX5_add_ok, layX_ok, qfX5_ok, qcX5_ok, qlX5_ok, am_mthP qmX5_ok (by decide), fun k e1 h => (qyX5_add l k e1 h).1⟩
def qsX5_add : SP := fun as F A K => match as with
  | [.inr (.inr o), .inl k, .inl d, .inl q] => cond (Nat.beq o 14) ((0 ≤ (F 14 5) ∧ (F 14 5) < 8) ∧ (K (some none) (upF F 14 5 ((F 14 5) + 1)) (upA (upA (upA A 16 ((F 14 5)) k) 17 ((F 14 5)) d) 18 ((F 14 5)) q))) (False)
  | _ => False
def qeX5_add : CE := (yX5_add, cX5_add, 4, none, 3, some 5, 0, none, 0, 3, qsX5_add)
theorem qbX5_add : am_mb qeX5_add := ⟨am_tb_at 1135 (by decide +kernel) rfl, am_tb_at 40 (by decide +kernel) rfl, ⟨by decide, by decide, by decide +kernel⟩, by decide, am_tb_at 1134 (by decide +kernel) rfl, am_tb_at 28 (by decide +kernel) rfl, _, _, rfl⟩
set_option maxRecDepth 20000 in
theorem qvX5_add_14 (k : Int) (d : Int) (q : Int) (F : FF) (A : AA) (K : KK) (h : (0 ≤ (F 14 5) ∧ (F 14 5) < 8) ∧ (K (some none) (upF F 14 5 ((F 14 5) + 1)) (upA (upA (upA A 16 ((F 14 5)) k) 17 ((F 14 5)) d) 18 ((F 14 5)) q))) : am_line qxX5_add 33 [vR 14, vI k, vI d, vI q] 4 F A K := by
  show am_stp qxX5_add (am_run qxX5_add (fun _ => none) (fun _ _ _ _ _ _ => False) K 33) K 0 [some (vR 14), some (vI k), some (vI d), some (vI q)] [] F A 0
  obtain ⟨hp, h⟩ := h
  show (w32 (F 14 5) < w32 0 → (K (some none) F A)) ∧ (¬ w32 (F 14 5) < w32 0 → ((w32 (F 14 5) < w32 8 → ((0 ≤ w32 (F 14 5) ∧ w32 (F 14 5) < 8) ∧ ((0 ≤ w32 (F 14 5) ∧ w32 (F 14 5) < 8) ∧ ((0 ≤ w32 (F 14 5) ∧ w32 (F 14 5) < 8) ∧ (K (some none) (upF F 14 5 ((F 14 5) + 1)) (upA (upA (upA A 16 (w32 (F 14 5)) k) 17 (w32 (F 14 5)) d) 18 (w32 (F 14 5)) q)))))) ∧ (¬ w32 (F 14 5) < w32 8 → (K (some none) F A))))
  refine ⟨fun c1 => ?_, fun c1 => ?_⟩
  · skip
    try simp (disch := omega) only [w32_0, w64_0, wbi0, wbi1, yc_eq0, yc_lt0, yc_gt0, Classical.not_not, w32_id, w64_id] at c1
    first | (exfalso; omega) | (simp (disch := omega) only [w32_id]; exact h)
  · skip
    try simp (disch := omega) only [w32_0, w64_0, wbi0, wbi1, yc_eq0, yc_lt0, yc_gt0, Classical.not_not, w32_id, w64_id] at c1
    refine ⟨fun c2 => ?_, fun c2 => ?_⟩
    · skip
      try simp (disch := omega) only [w32_0, w64_0, wbi0, wbi1, yc_eq0, yc_lt0, yc_gt0, Classical.not_not, w32_id, w64_id] at c2
      refine ⟨by first | omega | (simp (disch := omega) only [w32_0, w64_0, wbi0, wbi1, yc_eq0, yc_lt0, yc_gt0, Classical.not_not, w32_id, w64_id]; omega) | (simp (disch := omega) only [w32_0, w64_0, wbi0, wbi1, yc_eq0, yc_lt0, yc_gt0, Classical.not_not, w32_id, w64_id]; done), ?_⟩
      refine ⟨by first | omega | (simp (disch := omega) only [w32_0, w64_0, wbi0, wbi1, yc_eq0, yc_lt0, yc_gt0, Classical.not_not, w32_id, w64_id]; omega) | (simp (disch := omega) only [w32_0, w64_0, wbi0, wbi1, yc_eq0, yc_lt0, yc_gt0, Classical.not_not, w32_id, w64_id]; done), ?_⟩
      refine ⟨by first | omega | (simp (disch := omega) only [w32_0, w64_0, wbi0, wbi1, yc_eq0, yc_lt0, yc_gt0, Classical.not_not, w32_id, w64_id]; omega) | (simp (disch := omega) only [w32_0, w64_0, wbi0, wbi1, yc_eq0, yc_lt0, yc_gt0, Classical.not_not, w32_id, w64_id]; done), ?_⟩
      first | (exfalso; omega) | (simp (disch := omega) only [w32_id]; exact h)
    · skip
      try simp (disch := omega) only [w32_0, w64_0, wbi0, wbi1, yc_eq0, yc_lt0, yc_gt0, Classical.not_not, w32_id, w64_id] at c2
      first | (exfalso; omega) | (simp (disch := omega) only [w32_id]; exact h)
theorem qtX5_add (l : Launch) : am_CT l layX qeX5_add := am_met0 rfl (by decide +kernel) rfl rfl rfl rfl rfl (fun _ => rfl) rfl (qzX5_add l) (fun k e1 h => (qyX5_add l k e1 h).2) (fun as F A K h => by
  replace h : qsX5_add as F A K := h
  unfold qsX5_add at h
  split at h
  · rename_i o k d q
    refine ⟨by first | exact Nat.le_of_ble_eq_true rfl | simp [am_fl, am_cat], ?_⟩
    replace h := am_cond2 h
    rcases h with ⟨hb, h⟩ | h
    · skip
      have hb0 := hb
      have hb0 := am_bq hb0
      subst hb0
      exact am_way_line (qvX5_add_14 k d q F A K h)
    exact h.elim
  · exact h.elim)
def qkX5_size : Nat → Option CI := fun pc => cond (Nat.ble 5 pc) none (cond (Nat.beq pc 0) (some (.aload_n 0, 1, [])) (cond (Nat.beq pc 1) (some (.getfield 66, 4, [])) (cond (Nat.beq pc 4) (some (.ireturn, 5, [])) (none))))
theorem qkX5_size_ok : ∀ pc i nx ts, qkX5_size pc = some (i, nx, ts) → am_cok cX5_size pc (i, nx, ts) = true := fun pc i nx ts h => am_tok_ok (n := 5) (by decide +kernel) (fun pc h => by show cond (Nat.ble 5 pc) _ _ = _; rw [Nat.ble_eq_true_of_le h]; rfl) h
def qaX5_size : Nat → Option CE := fun k => none
theorem qyX5_size (l : Launch) : ∀ k e1, qaX5_size k = some e1 → am_cal l layX RX5 3 k e1 ∧ ceT e1 = 0 := q_nil
def qxX5_size : CX := (qkX5_size, layX, qfX5, qaX5_size, qcX5, qlX5, qmX5, (some .int), false, none, 0, none, fun _ => none)
theorem qzX5_size (l : Launch) : am_sta l qxX5_size RX5 3 cX5_size := ⟨qkX5_size_ok, layX_ok, qfX5_ok, qcX5_ok, qlX5_ok, am_mthP qmX5_ok (by decide), fun k e1 h => (qyX5_size l k e1 h).1⟩
def qsX5_size : SP := fun as F A K => match as with
  | [.inr (.inr o)] => cond (Nat.beq o 14) (K (some (some (vI (F 14 5)))) F A) (False)
  | _ => False
def qeX5_size : CE := (yX5_size, cX5_size, 1, (some .int), 0, some 5, 0, none, 0, 3, qsX5_size)
theorem qbX5_size : am_mb qeX5_size := ⟨am_tb_at 1152 (by decide +kernel) rfl, am_tb_at 40 (by decide +kernel) rfl, ⟨by decide, by decide, by decide +kernel⟩, by decide, am_tb_at 1150 (by decide +kernel) rfl, am_tb_at 1151 (by decide +kernel) rfl, _, _, rfl⟩
set_option maxRecDepth 20000 in
theorem qvX5_size_14  (F : FF) (A : AA) (K : KK) (h : K (some (some (vI (F 14 5)))) F A) : am_line qxX5_size 4 [vR 14] 1 F A K := by
  show am_stp qxX5_size (am_run qxX5_size (fun _ => none) (fun _ _ _ _ _ _ => False) K 4) K 0 [some (vR 14)] [] F A 0
  show K (some (some (vI (F 14 5)))) F A
  first | exact h | exact K_eq h (by first | omega | (simp (disch := omega) only [w32_0, w64_0, wbi0, wbi1, yc_eq0, yc_lt0, yc_gt0, Classical.not_not, w32_id, w64_id]; omega) | (simp (disch := omega) only [w32_0, w64_0, wbi0, wbi1, yc_eq0, yc_lt0, yc_gt0, Classical.not_not, w32_id, w64_id]; done))
theorem qtX5_size (l : Launch) : am_CT l layX qeX5_size := am_met0 rfl (by decide +kernel) rfl rfl rfl rfl rfl (fun _ => rfl) rfl (qzX5_size l) (fun k e1 h => (qyX5_size l k e1 h).2) (fun as F A K h => by
  replace h : qsX5_size as F A K := h
  unfold qsX5_size at h
  split at h
  · rename_i o
    refine ⟨by first | exact Nat.le_of_ble_eq_true rfl | simp [am_fl, am_cat], ?_⟩
    replace h := am_cond2 h
    rcases h with ⟨hb, h⟩ | h
    · skip
      have hb0 := hb
      have hb0 := am_bq hb0
      subst hb0
      exact am_way_line (qvX5_size_14  F A K h)
    exact h.elim
  · exact h.elim)
def qkX5_hasRoot : Nat → Option CI := fun pc => cond (Nat.ble 24 pc) none (cond (Nat.ble 12 pc) (cond (Nat.ble 18 pc) (cond (Nat.ble 22 pc) (cond (Nat.beq pc 22) (some (.iconst 0, 23, [])) (cond (Nat.beq pc 23) (some (.ireturn, 24, [])) (none))) (cond (Nat.beq pc 18) (some (.iconst 1, 19, [])) (cond (Nat.beq pc 19) (some (.goto 4, 22, [23])) (none)))) (cond (Nat.beq pc 12) (some (.iload_n 1, 13, [])) (cond (Nat.beq pc 13) (some (.bipush 8, 15, [])) (cond (Nat.beq pc 15) (some (.if_icmp .ge 7, 18, [22])) (none))))) (cond (Nat.ble 5 pc) (cond (Nat.beq pc 5) (some (.aload_n 0, 6, [])) (cond (Nat.beq pc 6) (some (.getfield 66, 9, [])) (cond (Nat.beq pc 9) (some (.if_icmp .ge 13, 12, [22])) (none)))) (cond (Nat.beq pc 0) (some (.iload_n 1, 1, [])) (cond (Nat.beq pc 1) (some (.ifCond .lt 21, 4, [22])) (cond (Nat.beq pc 4) (some (.iload_n 1, 5, [])) (none))))))
theorem qkX5_hasRoot_ok : ∀ pc i nx ts, qkX5_hasRoot pc = some (i, nx, ts) → am_cok cX5_hasRoot pc (i, nx, ts) = true := fun pc i nx ts h => am_tok_ok (n := 24) (by decide +kernel) (fun pc h => by show cond (Nat.ble 24 pc) _ _ = _; rw [Nat.ble_eq_true_of_le h]; rfl) h
def qaX5_hasRoot : Nat → Option CE := fun k => none
theorem qyX5_hasRoot (l : Launch) : ∀ k e1, qaX5_hasRoot k = some e1 → am_cal l layX RX5 3 k e1 ∧ ceT e1 = 0 := q_nil
def qxX5_hasRoot : CX := (qkX5_hasRoot, layX, qfX5, qaX5_hasRoot, qcX5, qlX5, qmX5, (some .boolean), false, none, 0, none, fun _ => none)
theorem qzX5_hasRoot (l : Launch) : am_sta l qxX5_hasRoot RX5 3 cX5_hasRoot := ⟨qkX5_hasRoot_ok, layX_ok, qfX5_ok, qcX5_ok, qlX5_ok, am_mthP qmX5_ok (by decide), fun k e1 h => (qyX5_hasRoot l k e1 h).1⟩
def qsX5_hasRoot : SP := fun as F A K => match as with
  | [.inr (.inr o), .inl r] => cond (Nat.beq o 14) ((0 ≤ (F 14 5) ∧ (F 14 5) ≤ 8) ∧ (K (some (some (vI (bi (0 ≤ w32 r ∧ w32 r < (F 14 5)))))) F A)) (False)
  | _ => False
def qeX5_hasRoot : CE := (yX5_hasRoot, cX5_hasRoot, 2, (some .boolean), 1, some 5, 0, none, 0, 3, qsX5_hasRoot)
theorem qbX5_hasRoot : am_mb qeX5_hasRoot := ⟨am_tb_at 1168 (by decide +kernel) rfl, am_tb_at 40 (by decide +kernel) rfl, ⟨by decide, by decide, by decide +kernel⟩, by decide, am_tb_at 1167 (by decide +kernel) rfl, am_tb_at 31 (by decide +kernel) rfl, _, _, rfl⟩
set_option maxRecDepth 20000 in
theorem qvX5_hasRoot_14 (r : Int) (F : FF) (A : AA) (K : KK) (h : (0 ≤ (F 14 5) ∧ (F 14 5) ≤ 8) ∧ (K (some (some (vI (bi (0 ≤ w32 r ∧ w32 r < (F 14 5)))))) F A)) : am_line qxX5_hasRoot 13 [vR 14, vI r] 2 F A K := by
  show am_stp qxX5_hasRoot (am_run qxX5_hasRoot (fun _ => none) (fun _ _ _ _ _ _ => False) K 13) K 0 [some (vR 14), some (vI r)] [] F A 0
  obtain ⟨hp, h⟩ := h
  show (w32 r < w32 0 → ((0 = 0 ∨ 0 = 1) ∧ (K (some (some (vI 0))) F A))) ∧ (¬ w32 r < w32 0 → ((w32 r < w32 (F 14 5) → ((w32 r < w32 8 → ((1 = 0 ∨ 1 = 1) ∧ (K (some (some (vI 1))) F A))) ∧ (¬ w32 r < w32 8 → ((0 = 0 ∨ 0 = 1) ∧ (K (some (some (vI 0))) F A))))) ∧ (¬ w32 r < w32 (F 14 5) → ((0 = 0 ∨ 0 = 1) ∧ (K (some (some (vI 0))) F A)))))
  refine ⟨fun c1 => ?_, fun c1 => ?_⟩
  · skip
    try simp (disch := omega) only [w32_0, w64_0, wbi0, wbi1, yc_eq0, yc_lt0, yc_gt0, Classical.not_not, w32_id, w64_id] at c1
    refine ⟨by first | exact Or.inl rfl | exact Or.inr rfl | exact bi_01 | omega, ?_⟩
    first | exact h | exact K_eq h (bi_t (by omega)) | exact K_eq h (bi_f (by omega)) | exact K_eq h (by omega)
  · skip
    try simp (disch := omega) only [w32_0, w64_0, wbi0, wbi1, yc_eq0, yc_lt0, yc_gt0, Classical.not_not, w32_id, w64_id] at c1
    refine ⟨fun c2 => ?_, fun c2 => ?_⟩
    · skip
      try simp (disch := omega) only [w32_0, w64_0, wbi0, wbi1, yc_eq0, yc_lt0, yc_gt0, Classical.not_not, w32_id, w64_id] at c2
      refine ⟨fun c3 => ?_, fun c3 => ?_⟩
      · skip
        try simp (disch := omega) only [w32_0, w64_0, wbi0, wbi1, yc_eq0, yc_lt0, yc_gt0, Classical.not_not, w32_id, w64_id] at c3
        refine ⟨by first | exact Or.inl rfl | exact Or.inr rfl | exact bi_01 | omega, ?_⟩
        first | exact h | exact K_eq h (bi_t (by omega)) | exact K_eq h (bi_f (by omega)) | exact K_eq h (by omega)
      · skip
        try simp (disch := omega) only [w32_0, w64_0, wbi0, wbi1, yc_eq0, yc_lt0, yc_gt0, Classical.not_not, w32_id, w64_id] at c3
        refine ⟨by first | exact Or.inl rfl | exact Or.inr rfl | exact bi_01 | omega, ?_⟩
        first | exact h | exact K_eq h (bi_t (by omega)) | exact K_eq h (bi_f (by omega)) | exact K_eq h (by omega)
    · skip
      try simp (disch := omega) only [w32_0, w64_0, wbi0, wbi1, yc_eq0, yc_lt0, yc_gt0, Classical.not_not, w32_id, w64_id] at c2
      refine ⟨by first | exact Or.inl rfl | exact Or.inr rfl | exact bi_01 | omega, ?_⟩
      first | exact h | exact K_eq h (bi_t (by omega)) | exact K_eq h (bi_f (by omega)) | exact K_eq h (by omega)
theorem qtX5_hasRoot (l : Launch) : am_CT l layX qeX5_hasRoot := am_met0 rfl (by decide +kernel) rfl rfl rfl rfl rfl (fun _ => rfl) rfl (qzX5_hasRoot l) (fun k e1 h => (qyX5_hasRoot l k e1 h).2) (fun as F A K h => by
  replace h : qsX5_hasRoot as F A K := h
  unfold qsX5_hasRoot at h
  split at h
  · rename_i o r
    refine ⟨by first | exact Nat.le_of_ble_eq_true rfl | simp [am_fl, am_cat], ?_⟩
    replace h := am_cond2 h
    rcases h with ⟨hb, h⟩ | h
    · skip
      have hb0 := hb
      have hb0 := am_bq hb0
      subst hb0
      exact am_way_line (qvX5_hasRoot_14 r F A K h)
    exact h.elim
  · exact h.elim)
def qkX5_kindOf : Nat → Option CI := fun pc => cond (Nat.ble 19 pc) none (cond (Nat.ble 9 pc) (cond (Nat.ble 14 pc) (cond (Nat.beq pc 14) (some (.goto 4, 17, [18])) (cond (Nat.beq pc 17) (some (.iconst (-1), 18, [])) (cond (Nat.beq pc 18) (some (.ireturn, 19, [])) (none)))) (cond (Nat.beq pc 9) (some (.getfield 15, 12, [])) (cond (Nat.beq pc 12) (some (.iload_n 1, 13, [])) (cond (Nat.beq pc 13) (some (.iaload, 14, [])) (none))))) (cond (Nat.ble 2 pc) (cond (Nat.beq pc 2) (some (.invokevirtual 84, 5, [])) (cond (Nat.beq pc 5) (some (.ifCond .eq 12, 8, [17])) (cond (Nat.beq pc 8) (some (.aload_n 0, 9, [])) (none)))) (cond (Nat.beq pc 0) (some (.aload_n 0, 1, [])) (cond (Nat.beq pc 1) (some (.iload_n 1, 2, [])) (none)))))
theorem qkX5_kindOf_ok : ∀ pc i nx ts, qkX5_kindOf pc = some (i, nx, ts) → am_cok cX5_kindOf pc (i, nx, ts) = true := fun pc i nx ts h => am_tok_ok (n := 19) (by decide +kernel) (fun pc h => by show cond (Nat.ble 19 pc) _ _ = _; rw [Nat.ble_eq_true_of_le h]; rfl) h
def qaX5_kindOf : Nat → Option CE := fun k => cond (Nat.beq k 84) (some qeX5_hasRoot) (none)
theorem qyX5_kindOf (l : Launch) : ∀ k e1, qaX5_kindOf k = some e1 → am_cal l layX RX5 4 k e1 ∧ ceT e1 = 0 := q_cons ⟨am_calV (ci := 5) (qtX5_hasRoot l) qbX5_hasRoot (by decide) rfl (am_tb_at 1165 (by decide +kernel) rfl), rfl⟩ (q_nil)
def qxX5_kindOf : CX := (qkX5_kindOf, layX, qfX5, qaX5_kindOf, qcX5, qlX5, qmX5, (some .int), false, none, 0, none, fun _ => none)
theorem qzX5_kindOf (l : Launch) : am_sta l qxX5_kindOf RX5 4 cX5_kindOf := ⟨qkX5_kindOf_ok, layX_ok, qfX5_ok, qcX5_ok, qlX5_ok, am_mthP qmX5_ok (by decide), fun k e1 h => (qyX5_kindOf l k e1 h).1⟩
def qsX5_kindOf : SP := fun as F A K => match as with
  | [.inr (.inr o), .inl r] => cond (Nat.beq o 14) ((0 ≤ (F 14 5) ∧ (F 14 5) ≤ 8) ∧ (K (some (some (vI (if 0 ≤ w32 r ∧ w32 r < (F 14 5) then A 16 (w32 r) else -1)))) F A)) (False)
  | _ => False
def qeX5_kindOf : CE := (yX5_kindOf, cX5_kindOf, 2, (some .int), 1, some 5, 0, none, 0, 4, qsX5_kindOf)
theorem qbX5_kindOf : am_mb qeX5_kindOf := ⟨am_tb_at 1164 (by decide +kernel) rfl, am_tb_at 40 (by decide +kernel) rfl, ⟨by decide, by decide, by decide +kernel⟩, by decide, am_tb_at 1162 (by decide +kernel) rfl, am_tb_at 1163 (by decide +kernel) rfl, _, _, rfl⟩
set_option maxRecDepth 20000 in
theorem qvX5_kindOf_14 (r : Int) (F : FF) (A : AA) (K : KK) (h : (0 ≤ (F 14 5) ∧ (F 14 5) ≤ 8) ∧ (K (some (some (vI (if 0 ≤ w32 r ∧ w32 r < (F 14 5) then A 16 (w32 r) else -1)))) F A)) : am_line qxX5_kindOf 11 [vR 14, vI r] 2 F A K := by
  show am_stp qxX5_kindOf (am_run qxX5_kindOf (fun _ => none) (fun _ _ _ _ _ _ => False) K 11) K 0 [some (vR 14), some (vI r)] [] F A 0
  obtain ⟨hp, h⟩ := h
  show (0 ≤ (F 14 5) ∧ (F 14 5) ≤ 8) ∧ ((w32 (bi (0 ≤ w32 r ∧ w32 r < (F 14 5))) = w32 0 → (K (some (some (vI (-1)))) F A)) ∧ (¬ w32 (bi (0 ≤ w32 r ∧ w32 r < (F 14 5))) = w32 0 → ((0 ≤ w32 r ∧ w32 r < 8) ∧ (K (some (some (vI (A 16 (w32 r))))) F A))))
  refine ⟨by first | omega | (simp (disch := omega) only [w32_0, w64_0, wbi0, wbi1, yc_eq0, yc_lt0, yc_gt0, Classical.not_not, w32_id, w64_id]; omega) | (simp (disch := omega) only [w32_0, w64_0, wbi0, wbi1, yc_eq0, yc_lt0, yc_gt0, Classical.not_not, w32_id, w64_id]; done), ?_⟩
  refine ⟨fun c1 => ?_, fun c1 => ?_⟩
  · skip
    try simp (disch := omega) only [w32_0, w64_0, wbi0, wbi1, yc_eq0, yc_lt0, yc_gt0, Classical.not_not, w32_id, w64_id] at c1
    exact K_eq h (if_neg c1)
  · skip
    try simp (disch := omega) only [w32_0, w64_0, wbi0, wbi1, yc_eq0, yc_lt0, yc_gt0, Classical.not_not, w32_id, w64_id] at c1
    refine ⟨by first | omega | (simp (disch := omega) only [w32_0, w64_0, wbi0, wbi1, yc_eq0, yc_lt0, yc_gt0, Classical.not_not, w32_id, w64_id]; omega) | (simp (disch := omega) only [w32_0, w64_0, wbi0, wbi1, yc_eq0, yc_lt0, yc_gt0, Classical.not_not, w32_id, w64_id]; done), ?_⟩
    exact K_eq h (if_pos c1)
theorem qtX5_kindOf (l : Launch) : am_CT l layX qeX5_kindOf := am_met0 rfl (by decide +kernel) rfl rfl rfl rfl rfl (fun _ => rfl) rfl (qzX5_kindOf l) (fun k e1 h => (qyX5_kindOf l k e1 h).2) (fun as F A K h => by
  replace h : qsX5_kindOf as F A K := h
  unfold qsX5_kindOf at h
  split at h
  · rename_i o r
    refine ⟨by first | exact Nat.le_of_ble_eq_true rfl | simp [am_fl, am_cat], ?_⟩
    replace h := am_cond2 h
    rcases h with ⟨hb, h⟩ | h
    · skip
      have hb0 := hb
      have hb0 := am_bq hb0
      subst hb0
      exact am_way_line (qvX5_kindOf_14 r F A K h)
    exact h.elim
  · exact h.elim)
def qkX5_depthOf : Nat → Option CI := fun pc => cond (Nat.ble 19 pc) none (cond (Nat.ble 9 pc) (cond (Nat.ble 14 pc) (cond (Nat.beq pc 14) (some (.goto 4, 17, [18])) (cond (Nat.beq pc 17) (some (.iconst (-1), 18, [])) (cond (Nat.beq pc 18) (some (.ireturn, 19, [])) (none)))) (cond (Nat.beq pc 9) (some (.getfield 19, 12, [])) (cond (Nat.beq pc 12) (some (.iload_n 1, 13, [])) (cond (Nat.beq pc 13) (some (.iaload, 14, [])) (none))))) (cond (Nat.ble 2 pc) (cond (Nat.beq pc 2) (some (.invokevirtual 84, 5, [])) (cond (Nat.beq pc 5) (some (.ifCond .eq 12, 8, [17])) (cond (Nat.beq pc 8) (some (.aload_n 0, 9, [])) (none)))) (cond (Nat.beq pc 0) (some (.aload_n 0, 1, [])) (cond (Nat.beq pc 1) (some (.iload_n 1, 2, [])) (none)))))
theorem qkX5_depthOf_ok : ∀ pc i nx ts, qkX5_depthOf pc = some (i, nx, ts) → am_cok cX5_depthOf pc (i, nx, ts) = true := fun pc i nx ts h => am_tok_ok (n := 19) (by decide +kernel) (fun pc h => by show cond (Nat.ble 19 pc) _ _ = _; rw [Nat.ble_eq_true_of_le h]; rfl) h
def qaX5_depthOf : Nat → Option CE := fun k => cond (Nat.beq k 84) (some qeX5_hasRoot) (none)
theorem qyX5_depthOf (l : Launch) : ∀ k e1, qaX5_depthOf k = some e1 → am_cal l layX RX5 4 k e1 ∧ ceT e1 = 0 := q_cons ⟨am_calV (ci := 5) (qtX5_hasRoot l) qbX5_hasRoot (by decide) rfl (am_tb_at 1165 (by decide +kernel) rfl), rfl⟩ (q_nil)
def qxX5_depthOf : CX := (qkX5_depthOf, layX, qfX5, qaX5_depthOf, qcX5, qlX5, qmX5, (some .int), false, none, 0, none, fun _ => none)
theorem qzX5_depthOf (l : Launch) : am_sta l qxX5_depthOf RX5 4 cX5_depthOf := ⟨qkX5_depthOf_ok, layX_ok, qfX5_ok, qcX5_ok, qlX5_ok, am_mthP qmX5_ok (by decide), fun k e1 h => (qyX5_depthOf l k e1 h).1⟩
def qsX5_depthOf : SP := fun as F A K => match as with
  | [.inr (.inr o), .inl r] => cond (Nat.beq o 14) ((0 ≤ (F 14 5) ∧ (F 14 5) ≤ 8) ∧ (K (some (some (vI (if 0 ≤ w32 r ∧ w32 r < (F 14 5) then A 17 (w32 r) else -1)))) F A)) (False)
  | _ => False
def qeX5_depthOf : CE := (yX5_depthOf, cX5_depthOf, 2, (some .int), 1, some 5, 0, none, 0, 4, qsX5_depthOf)
theorem qbX5_depthOf : am_mb qeX5_depthOf := ⟨am_tb_at 1209 (by decide +kernel) rfl, am_tb_at 40 (by decide +kernel) rfl, ⟨by decide, by decide, by decide +kernel⟩, by decide, am_tb_at 1207 (by decide +kernel) rfl, am_tb_at 1208 (by decide +kernel) rfl, _, _, rfl⟩
set_option maxRecDepth 20000 in
theorem qvX5_depthOf_14 (r : Int) (F : FF) (A : AA) (K : KK) (h : (0 ≤ (F 14 5) ∧ (F 14 5) ≤ 8) ∧ (K (some (some (vI (if 0 ≤ w32 r ∧ w32 r < (F 14 5) then A 17 (w32 r) else -1)))) F A)) : am_line qxX5_depthOf 11 [vR 14, vI r] 2 F A K := by
  show am_stp qxX5_depthOf (am_run qxX5_depthOf (fun _ => none) (fun _ _ _ _ _ _ => False) K 11) K 0 [some (vR 14), some (vI r)] [] F A 0
  obtain ⟨hp, h⟩ := h
  show (0 ≤ (F 14 5) ∧ (F 14 5) ≤ 8) ∧ ((w32 (bi (0 ≤ w32 r ∧ w32 r < (F 14 5))) = w32 0 → (K (some (some (vI (-1)))) F A)) ∧ (¬ w32 (bi (0 ≤ w32 r ∧ w32 r < (F 14 5))) = w32 0 → ((0 ≤ w32 r ∧ w32 r < 8) ∧ (K (some (some (vI (A 17 (w32 r))))) F A))))
  refine ⟨by first | omega | (simp (disch := omega) only [w32_0, w64_0, wbi0, wbi1, yc_eq0, yc_lt0, yc_gt0, Classical.not_not, w32_id, w64_id]; omega) | (simp (disch := omega) only [w32_0, w64_0, wbi0, wbi1, yc_eq0, yc_lt0, yc_gt0, Classical.not_not, w32_id, w64_id]; done), ?_⟩
  refine ⟨fun c1 => ?_, fun c1 => ?_⟩
  · skip
    try simp (disch := omega) only [w32_0, w64_0, wbi0, wbi1, yc_eq0, yc_lt0, yc_gt0, Classical.not_not, w32_id, w64_id] at c1
    exact K_eq h (if_neg c1)
  · skip
    try simp (disch := omega) only [w32_0, w64_0, wbi0, wbi1, yc_eq0, yc_lt0, yc_gt0, Classical.not_not, w32_id, w64_id] at c1
    refine ⟨by first | omega | (simp (disch := omega) only [w32_0, w64_0, wbi0, wbi1, yc_eq0, yc_lt0, yc_gt0, Classical.not_not, w32_id, w64_id]; omega) | (simp (disch := omega) only [w32_0, w64_0, wbi0, wbi1, yc_eq0, yc_lt0, yc_gt0, Classical.not_not, w32_id, w64_id]; done), ?_⟩
    exact K_eq h (if_pos c1)
theorem qtX5_depthOf (l : Launch) : am_CT l layX qeX5_depthOf := am_met0 rfl (by decide +kernel) rfl rfl rfl rfl rfl (fun _ => rfl) rfl (qzX5_depthOf l) (fun k e1 h => (qyX5_depthOf l k e1 h).2) (fun as F A K h => by
  replace h : qsX5_depthOf as F A K := h
  unfold qsX5_depthOf at h
  split at h
  · rename_i o r
    refine ⟨by first | exact Nat.le_of_ble_eq_true rfl | simp [am_fl, am_cat], ?_⟩
    replace h := am_cond2 h
    rcases h with ⟨hb, h⟩ | h
    · skip
      have hb0 := hb
      have hb0 := am_bq hb0
      subst hb0
      exact am_way_line (qvX5_depthOf_14 r F A K h)
    exact h.elim
  · exact h.elim)
def qkX5_cellOf : Nat → Option CI := fun pc => cond (Nat.ble 19 pc) none (cond (Nat.ble 9 pc) (cond (Nat.ble 14 pc) (cond (Nat.beq pc 14) (some (.goto 4, 17, [18])) (cond (Nat.beq pc 17) (some (.iconst (-1), 18, [])) (cond (Nat.beq pc 18) (some (.ireturn, 19, [])) (none)))) (cond (Nat.beq pc 9) (some (.getfield 22, 12, [])) (cond (Nat.beq pc 12) (some (.iload_n 1, 13, [])) (cond (Nat.beq pc 13) (some (.iaload, 14, [])) (none))))) (cond (Nat.ble 2 pc) (cond (Nat.beq pc 2) (some (.invokevirtual 84, 5, [])) (cond (Nat.beq pc 5) (some (.ifCond .eq 12, 8, [17])) (cond (Nat.beq pc 8) (some (.aload_n 0, 9, [])) (none)))) (cond (Nat.beq pc 0) (some (.aload_n 0, 1, [])) (cond (Nat.beq pc 1) (some (.iload_n 1, 2, [])) (none)))))
theorem qkX5_cellOf_ok : ∀ pc i nx ts, qkX5_cellOf pc = some (i, nx, ts) → am_cok cX5_cellOf pc (i, nx, ts) = true := fun pc i nx ts h => am_tok_ok (n := 19) (by decide +kernel) (fun pc h => by show cond (Nat.ble 19 pc) _ _ = _; rw [Nat.ble_eq_true_of_le h]; rfl) h
def qaX5_cellOf : Nat → Option CE := fun k => cond (Nat.beq k 84) (some qeX5_hasRoot) (none)
theorem qyX5_cellOf (l : Launch) : ∀ k e1, qaX5_cellOf k = some e1 → am_cal l layX RX5 4 k e1 ∧ ceT e1 = 0 := q_cons ⟨am_calV (ci := 5) (qtX5_hasRoot l) qbX5_hasRoot (by decide) rfl (am_tb_at 1165 (by decide +kernel) rfl), rfl⟩ (q_nil)
def qxX5_cellOf : CX := (qkX5_cellOf, layX, qfX5, qaX5_cellOf, qcX5, qlX5, qmX5, (some .int), false, none, 0, none, fun _ => none)
theorem qzX5_cellOf (l : Launch) : am_sta l qxX5_cellOf RX5 4 cX5_cellOf := ⟨qkX5_cellOf_ok, layX_ok, qfX5_ok, qcX5_ok, qlX5_ok, am_mthP qmX5_ok (by decide), fun k e1 h => (qyX5_cellOf l k e1 h).1⟩
def qsX5_cellOf : SP := fun as F A K => match as with
  | [.inr (.inr o), .inl r] => cond (Nat.beq o 14) ((0 ≤ (F 14 5) ∧ (F 14 5) ≤ 8) ∧ (K (some (some (vI (if 0 ≤ w32 r ∧ w32 r < (F 14 5) then A 18 (w32 r) else -1)))) F A)) (False)
  | _ => False
def qeX5_cellOf : CE := (yX5_cellOf, cX5_cellOf, 2, (some .int), 1, some 5, 0, none, 0, 4, qsX5_cellOf)
theorem qbX5_cellOf : am_mb qeX5_cellOf := ⟨am_tb_at 1217 (by decide +kernel) rfl, am_tb_at 40 (by decide +kernel) rfl, ⟨by decide, by decide, by decide +kernel⟩, by decide, am_tb_at 1215 (by decide +kernel) rfl, am_tb_at 1216 (by decide +kernel) rfl, _, _, rfl⟩
set_option maxRecDepth 20000 in
theorem qvX5_cellOf_14 (r : Int) (F : FF) (A : AA) (K : KK) (h : (0 ≤ (F 14 5) ∧ (F 14 5) ≤ 8) ∧ (K (some (some (vI (if 0 ≤ w32 r ∧ w32 r < (F 14 5) then A 18 (w32 r) else -1)))) F A)) : am_line qxX5_cellOf 11 [vR 14, vI r] 2 F A K := by
  show am_stp qxX5_cellOf (am_run qxX5_cellOf (fun _ => none) (fun _ _ _ _ _ _ => False) K 11) K 0 [some (vR 14), some (vI r)] [] F A 0
  obtain ⟨hp, h⟩ := h
  show (0 ≤ (F 14 5) ∧ (F 14 5) ≤ 8) ∧ ((w32 (bi (0 ≤ w32 r ∧ w32 r < (F 14 5))) = w32 0 → (K (some (some (vI (-1)))) F A)) ∧ (¬ w32 (bi (0 ≤ w32 r ∧ w32 r < (F 14 5))) = w32 0 → ((0 ≤ w32 r ∧ w32 r < 8) ∧ (K (some (some (vI (A 18 (w32 r))))) F A))))
  refine ⟨by first | omega | (simp (disch := omega) only [w32_0, w64_0, wbi0, wbi1, yc_eq0, yc_lt0, yc_gt0, Classical.not_not, w32_id, w64_id]; omega) | (simp (disch := omega) only [w32_0, w64_0, wbi0, wbi1, yc_eq0, yc_lt0, yc_gt0, Classical.not_not, w32_id, w64_id]; done), ?_⟩
  refine ⟨fun c1 => ?_, fun c1 => ?_⟩
  · skip
    try simp (disch := omega) only [w32_0, w64_0, wbi0, wbi1, yc_eq0, yc_lt0, yc_gt0, Classical.not_not, w32_id, w64_id] at c1
    exact K_eq h (if_neg c1)
  · skip
    try simp (disch := omega) only [w32_0, w64_0, wbi0, wbi1, yc_eq0, yc_lt0, yc_gt0, Classical.not_not, w32_id, w64_id] at c1
    refine ⟨by first | omega | (simp (disch := omega) only [w32_0, w64_0, wbi0, wbi1, yc_eq0, yc_lt0, yc_gt0, Classical.not_not, w32_id, w64_id]; omega) | (simp (disch := omega) only [w32_0, w64_0, wbi0, wbi1, yc_eq0, yc_lt0, yc_gt0, Classical.not_not, w32_id, w64_id]; done), ?_⟩
    exact K_eq h (if_pos c1)
theorem qtX5_cellOf (l : Launch) : am_CT l layX qeX5_cellOf := am_met0 rfl (by decide +kernel) rfl rfl rfl rfl rfl (fun _ => rfl) rfl (qzX5_cellOf l) (fun k e1 h => (qyX5_cellOf l k e1 h).2) (fun as F A K h => by
  replace h : qsX5_cellOf as F A K := h
  unfold qsX5_cellOf at h
  split at h
  · rename_i o r
    refine ⟨by first | exact Nat.le_of_ble_eq_true rfl | simp [am_fl, am_cat], ?_⟩
    replace h := am_cond2 h
    rcases h with ⟨hb, h⟩ | h
    · skip
      have hb0 := hb
      have hb0 := am_bq hb0
      subst hb0
      exact am_way_line (qvX5_cellOf_14 r F A K h)
    exact h.elim
  · exact h.elim)
def qkX5_sizeOfKind : Nat → Option CI := fun pc => cond (Nat.ble 32 pc) none (cond (Nat.ble 13 pc) (cond (Nat.ble 21 pc) (cond (Nat.ble 27 pc) (cond (Nat.beq pc 27) (some (.goto (-23), 30, [4])) (cond (Nat.beq pc 30) (some (.iload_n 2, 31, [])) (cond (Nat.beq pc 31) (some (.ireturn, 32, [])) (none)))) (cond (Nat.beq pc 21) (some (.iinc 2 1, 24, [])) (cond (Nat.beq pc 24) (some (.iinc 3 1, 27, [])) (none)))) (cond (Nat.ble 17 pc) (cond (Nat.beq pc 17) (some (.iload_n 1, 18, [])) (cond (Nat.beq pc 18) (some (.if_icmp .ne 6, 21, [24])) (none))) (cond (Nat.beq pc 13) (some (.iload_n 3, 14, [])) (cond (Nat.beq pc 14) (some (.invokevirtual 81, 17, [])) (none))))) (cond (Nat.ble 4 pc) (cond (Nat.ble 6 pc) (cond (Nat.beq pc 6) (some (.getfield 66, 9, [])) (cond (Nat.beq pc 9) (some (.if_icmp .ge 21, 12, [30])) (cond (Nat.beq pc 12) (some (.aload_n 0, 13, [])) (none)))) (cond (Nat.beq pc 4) (some (.iload_n 3, 5, [])) (cond (Nat.beq pc 5) (some (.aload_n 0, 6, [])) (none)))) (cond (Nat.ble 2 pc) (cond (Nat.beq pc 2) (some (.iconst 0, 3, [])) (cond (Nat.beq pc 3) (some (.istore_n 3, 4, [])) (none))) (cond (Nat.beq pc 0) (some (.iconst 0, 1, [])) (cond (Nat.beq pc 1) (some (.istore_n 2, 2, [])) (none))))))
theorem qkX5_sizeOfKind_ok : ∀ pc i nx ts, qkX5_sizeOfKind pc = some (i, nx, ts) → am_cok cX5_sizeOfKind pc (i, nx, ts) = true := fun pc i nx ts h => am_tok_ok (n := 32) (by decide +kernel) (fun pc h => by show cond (Nat.ble 32 pc) _ _ = _; rw [Nat.ble_eq_true_of_le h]; rfl) h
def qaX5_sizeOfKind : Nat → Option CE := fun k => cond (Nat.beq k 81) (some qeX5_kindOf) (none)
theorem qyX5_sizeOfKind (l : Launch) : ∀ k e1, qaX5_sizeOfKind k = some e1 → am_cal l layX RX5 5 k e1 ∧ ceT e1 = 0 := q_cons ⟨am_calV (ci := 5) (qtX5_kindOf l) qbX5_kindOf (by decide) rfl (am_tb_at 1161 (by decide +kernel) rfl), rfl⟩ (q_nil)
def qxX5_sizeOfKind : CX := (qkX5_sizeOfKind, layX, qfX5, qaX5_sizeOfKind, qcX5, qlX5, qmX5, (some .int), false, none, 0, none, fun _ => none)
theorem qzX5_sizeOfKind (l : Launch) : am_sta l qxX5_sizeOfKind RX5 5 cX5_sizeOfKind := ⟨qkX5_sizeOfKind_ok, layX_ok, qfX5_ok, qcX5_ok, qlX5_ok, am_mthP qmX5_ok (by decide), fun k e1 h => (qyX5_sizeOfKind l k e1 h).1⟩
def qsX5_sizeOfKind : SP := fun as F A K => match as with
  | [.inr (.inr o), .inl k] => cond (Nat.beq o 14) ((0 ≤ (F 14 5) ∧ (F 14 5) ≤ 8 ∧ (-2147483648 ≤ k ∧ k < 2147483648) ∧ ∀ i, 0 ≤ i → i < (F 14 5) → -1 ≤ A 16 i ∧ A 16 i ≤ 3) ∧ (K (some (some (vI (cntK (A 16) k (Int.toNat ((F 14 5))))))) F A)) (False)
  | _ => False
def qeX5_sizeOfKind : CE := (yX5_sizeOfKind, cX5_sizeOfKind, 4, (some .int), 1, some 5, 0, none, 0, 5, qsX5_sizeOfKind)
theorem qbX5_sizeOfKind : am_mb qeX5_sizeOfKind := ⟨am_tb_at 1160 (by decide +kernel) rfl, am_tb_at 40 (by decide +kernel) rfl, ⟨by decide, by decide, by decide +kernel⟩, by decide, am_tb_at 1158 (by decide +kernel) rfl, am_tb_at 1159 (by decide +kernel) rfl, _, _, rfl⟩
def qnX5_sizeOfKind_14 : CUT := fun pc => cond (Nat.beq pc 4) (some [true, true, true, true]) (none)
def qiX5_sizeOfKind_14 (k : Int) (F0 : FF) (A0 : AA) : REC := fun pc ls st F A u => cond (Nat.beq pc 4) (match ls, st, u with
    | [some (.inr (.inr s0)), some (.inl s1), some (.inl n), some (.inl i)], [], 0 => s0 = 14 ∧ s1 = k ∧ F = F0 ∧ A = A0 ∧ (0 ≤ i ∧ i ≤ F0 14 5 ∧ n = cntK (A0 16) k (Int.toNat i))
    | _, _, _ => False) (False)
def quX5_sizeOfKind_14 : Nat → LVs → List AV → FF → AA → Nat := fun pc ls _ F A => cond (Nat.beq pc 4) (match ls with
    | [some (.inr (.inr s0)), some (.inl s1), some (.inl n), some (.inl i)] => Int.toNat (10 - i)
    | _ => 0) (0)
set_option maxRecDepth 20000 in
theorem qvX5_sizeOfKind_14_0 (k : Int) (F0 : FF) (A0 : AA) (K : KK) (h : (0 ≤ (F0 14 5) ∧ (F0 14 5) ≤ 8 ∧ (-2147483648 ≤ k ∧ k < 2147483648) ∧ ∀ i, 0 ≤ i → i < (F0 14 5) → -1 ≤ A0 16 i ∧ A0 16 i ≤ 3) ∧ (K (some (some (vI (cntK (A0 16) k (Int.toNat ((F0 14 5))))))) F0 A0)) : am_stp qxX5_sizeOfKind (am_run qxX5_sizeOfKind qnX5_sizeOfKind_14 (qiX5_sizeOfKind_14 k F0 A0) K 15) K 0 (am_ent [vR 14, vI k] 4) [] F0 A0 0 := by
  show am_stp qxX5_sizeOfKind (am_run qxX5_sizeOfKind qnX5_sizeOfKind_14 (qiX5_sizeOfKind_14 k F0 A0) K 15) K 0 [some (vR 14), some (vI k), none, none] [] F0 A0 0
  obtain ⟨hp, h⟩ := h
  show 14 = 14 ∧ k = k ∧ F0 = F0 ∧ A0 = A0 ∧ (0 ≤ 0 ∧ 0 ≤ F0 14 5 ∧ 0 = cntK (A0 16) k (Int.toNat 0))
  refine ⟨rfl, rfl, rfl, rfl, ?_⟩
  exact ⟨by omega, by omega, rfl⟩
set_option maxRecDepth 20000 in
theorem qvX5_sizeOfKind_14_4 (k : Int) (F0 : FF) (A0 : AA) (K : KK) (h : (0 ≤ (F0 14 5) ∧ (F0 14 5) ≤ 8 ∧ (-2147483648 ≤ k ∧ k < 2147483648) ∧ ∀ i, 0 ≤ i → i < (F0 14 5) → -1 ≤ A0 16 i ∧ A0 16 i ≤ 3) ∧ (K (some (some (vI (cntK (A0 16) k (Int.toNat ((F0 14 5))))))) F0 A0)) (n : Int) (i : Int) (hi : 0 ≤ i ∧ i ≤ F0 14 5 ∧ n = cntK (A0 16) k (Int.toNat i)) : am_stp qxX5_sizeOfKind (am_run qxX5_sizeOfKind qnX5_sizeOfKind_14 (fun pc ls st F A u => qiX5_sizeOfKind_14 k F0 A0 pc ls st F A u ∧ quX5_sizeOfKind_14 pc ls st F A < quX5_sizeOfKind_14 4 [some (vR 14), some (vI k), some (vI n), some (vI i)] [] F0 A0) K 15) K 4 [some (vR 14), some (vI k), some (vI n), some (vI i)] [] F0 A0 0 := by
  obtain ⟨hp, h⟩ := h
  obtain ⟨h1, h2, h3⟩ := hi
  have h6 := cntK_s (g := A0 16) (k := k) h1
  show (w32 i < w32 (F0 14 5) → ((0 ≤ (F0 14 5) ∧ (F0 14 5) ≤ 8) ∧ ((w32 (if 0 ≤ w32 i ∧ w32 i < (F0 14 5) then A0 16 (w32 i) else -1) = w32 k → ((14 = 14 ∧ k = k ∧ F0 = F0 ∧ A0 = A0 ∧ (0 ≤ (i + 1) ∧ (i + 1) ≤ F0 14 5 ∧ (n + 1) = cntK (A0 16) k (Int.toNat (i + 1)))) ∧ (Int.toNat (10 - (i + 1))) < (Int.toNat (10 - i)))) ∧ (¬ w32 (if 0 ≤ w32 i ∧ w32 i < (F0 14 5) then A0 16 (w32 i) else -1) = w32 k → ((14 = 14 ∧ k = k ∧ F0 = F0 ∧ A0 = A0 ∧ (0 ≤ (i + 1) ∧ (i + 1) ≤ F0 14 5 ∧ n = cntK (A0 16) k (Int.toNat (i + 1)))) ∧ (Int.toNat (10 - (i + 1))) < (Int.toNat (10 - i))))))) ∧ (¬ w32 i < w32 (F0 14 5) → (K (some (some (vI n))) F0 A0))
  refine ⟨fun c1 => ?_, fun c1 => ?_⟩
  · skip
    (try simp (disch := omega) only [w32_0, w32_id] at c1); (try (have h7 := hp.2.2.2 i h1 (by omega); rw [if_pos ⟨h1, by omega⟩] at c1; simp (disch := omega) only [w32_id] at c1))
    refine ⟨by first | omega | (simp (disch := omega) only [w32_0, w64_0, wbi0, wbi1, yc_eq0, yc_lt0, yc_gt0, Classical.not_not, w32_id, w64_id]; omega) | (simp (disch := omega) only [w32_0, w64_0, wbi0, wbi1, yc_eq0, yc_lt0, yc_gt0, Classical.not_not, w32_id, w64_id]; done), ?_⟩
    refine ⟨fun c2 => ?_, fun c2 => ?_⟩
    · skip
      (try simp (disch := omega) only [w32_0, w32_id] at c2); (try (have h7 := hp.2.2.2 i h1 (by omega); rw [if_pos ⟨h1, by omega⟩] at c2; simp (disch := omega) only [w32_id] at c2))
      refine ⟨⟨rfl, rfl, rfl, rfl, ?_⟩, by omega⟩
      rw [if_pos c2] at h6
      exact ⟨by omega, by omega, by omega⟩
    · skip
      (try simp (disch := omega) only [w32_0, w32_id] at c2); (try (have h7 := hp.2.2.2 i h1 (by omega); rw [if_pos ⟨h1, by omega⟩] at c2; simp (disch := omega) only [w32_id] at c2))
      refine ⟨⟨rfl, rfl, rfl, rfl, ?_⟩, by omega⟩
      rw [if_neg c2] at h6
      exact ⟨by omega, by omega, by omega⟩
  · skip
    (try simp (disch := omega) only [w32_0, w32_id] at c1); (try (have h7 := hp.2.2.2 i h1 (by omega); rw [if_pos ⟨h1, by omega⟩] at c1; simp (disch := omega) only [w32_id] at c1))
    refine K_eq h ?_
    rw [h3, show i = F0 14 5 by omega]
set_option maxRecDepth 20000 in
theorem qvX5_sizeOfKind_14 (k : Int) (F0 : FF) (A0 : AA) (K : KK) (h : (0 ≤ (F0 14 5) ∧ (F0 14 5) ≤ 8 ∧ (-2147483648 ≤ k ∧ k < 2147483648) ∧ ∀ i, 0 ≤ i → i < (F0 14 5) → -1 ≤ A0 16 i ∧ A0 16 i ≤ 3) ∧ (K (some (some (vI (cntK (A0 16) k (Int.toNat ((F0 14 5))))))) F0 A0)) : am_body qxX5_sizeOfKind qnX5_sizeOfKind_14 15 (qiX5_sizeOfKind_14 k F0 A0) quX5_sizeOfKind_14 [vR 14, vI k] 4 F0 A0 K := by
  refine ⟨qvX5_sizeOfKind_14_0 k F0 A0 K h, fun pc ls st F A u hI => ?_⟩
  unfold qiX5_sizeOfKind_14 at hI
  replace hI := am_cond2 hI
  rcases hI with ⟨hb, hI⟩ | hI
  · have hb := am_bq hb
    subst hb
    split at hI
    · rename_i s0 s1 n i
      obtain ⟨e0, e1, e2, e3, hI⟩ := hI
      subst e0
      subst e1
      subst e2
      subst e3
      exact qvX5_sizeOfKind_14_4 _ _ _ K h _ _ hI
    · exact hI.elim
  exact hI.elim
theorem qtX5_sizeOfKind (l : Launch) : am_CT l layX qeX5_sizeOfKind := am_met0 rfl (by decide +kernel) rfl rfl rfl rfl rfl (fun _ => rfl) rfl (qzX5_sizeOfKind l) (fun k e1 h => (qyX5_sizeOfKind l k e1 h).2) (fun as F A K h => by
  replace h : qsX5_sizeOfKind as F A K := h
  unfold qsX5_sizeOfKind at h
  split at h
  · rename_i o k
    refine ⟨by first | exact Nat.le_of_ble_eq_true rfl | simp [am_fl, am_cat], ?_⟩
    replace h := am_cond2 h
    rcases h with ⟨hb, h⟩ | h
    · skip
      have hb0 := hb
      have hb0 := am_bq hb0
      subst hb0
      exact am_way_body (qvX5_sizeOfKind_14 k F A K h)
    exact h.elim
  · exact h.elim)
def qkX5_searchR : Nat → Option CI := fun pc => cond (Nat.ble 109 pc) none (cond (Nat.ble 58 pc) (cond (Nat.ble 85 pc) (cond (Nat.ble 97 pc) (cond (Nat.ble 102 pc) (cond (Nat.ble 104 pc) (cond (Nat.beq pc 104) (some (.iload_n 3, 105, [])) (cond (Nat.beq pc 105) (some (.invokestatic 77, 108, [])) (cond (Nat.beq pc 108) (some (.return_, 109, [])) (none)))) (cond (Nat.beq pc 102) (some (.iconst 1, 103, [])) (cond (Nat.beq pc 103) (some (.iadd, 104, [])) (none)))) (cond (Nat.ble 99 pc) (cond (Nat.beq pc 99) (some (.iconst 2, 100, [])) (cond (Nat.beq pc 100) (some (.iload_n 2, 101, [])) (cond (Nat.beq pc 101) (some (.imul, 102, [])) (none)))) (cond (Nat.beq pc 97) (some (.iconst 1, 98, [])) (cond (Nat.beq pc 98) (some (.iadd, 99, [])) (none))))) (cond (Nat.ble 90 pc) (cond (Nat.ble 92 pc) (cond (Nat.beq pc 92) (some (.invokevirtual 73, 95, [])) (cond (Nat.beq pc 95) (some (.aload_n 0, 96, [])) (cond (Nat.beq pc 96) (some (.iload_n 1, 97, [])) (none)))) (cond (Nat.beq pc 90) (some (.iconst 1, 91, [])) (cond (Nat.beq pc 91) (some (.iadd, 92, [])) (none)))) (cond (Nat.ble 87 pc) (cond (Nat.beq pc 87) (some (.iconst 2, 88, [])) (cond (Nat.beq pc 88) (some (.iload_n 2, 89, [])) (cond (Nat.beq pc 89) (some (.imul, 90, [])) (none)))) (cond (Nat.beq pc 85) (some (.iconst 1, 86, [])) (cond (Nat.beq pc 86) (some (.iadd, 87, [])) (none)))))) (cond (Nat.ble 71 pc) (cond (Nat.ble 78 pc) (cond (Nat.ble 82 pc) (cond (Nat.beq pc 82) (some (.aload_n 0, 83, [])) (cond (Nat.beq pc 83) (some (.iconst 0, 84, [])) (cond (Nat.beq pc 84) (some (.iload_n 1, 85, [])) (none)))) (cond (Nat.beq pc 78) (some (.lcmp, 79, [])) (cond (Nat.beq pc 79) (some (.ifCond .ne 16, 82, [95])) (none)))) (cond (Nat.ble 73 pc) (cond (Nat.beq pc 73) (some (.iconst 0, 74, [])) (cond (Nat.beq pc 74) (some (.invokevirtual 43, 77, [])) (cond (Nat.beq pc 77) (some (.lconst 0, 78, [])) (none)))) (cond (Nat.beq pc 71) (some (.iconst 1, 72, [])) (cond (Nat.beq pc 72) (some (.iadd, 73, [])) (none))))) (cond (Nat.ble 64 pc) (cond (Nat.ble 66 pc) (cond (Nat.beq pc 66) (some (.invokevirtual 51, 69, [])) (cond (Nat.beq pc 69) (some (.aload_n 0, 70, [])) (cond (Nat.beq pc 70) (some (.iload_n 1, 71, [])) (none)))) (cond (Nat.beq pc 64) (some (.iload_n 1, 65, [])) (cond (Nat.beq pc 65) (some (.iconst 1, 66, [])) (none)))) (cond (Nat.ble 60 pc) (cond (Nat.beq pc 60) (some (.invokestatic 77, 63, [])) (cond (Nat.beq pc 63) (some (.aload_n 0, 64, [])) (none))) (cond (Nat.beq pc 58) (some (.imul, 59, [])) (cond (Nat.beq pc 59) (some (.iload_n 3, 60, [])) (none))))))) (cond (Nat.ble 32 pc) (cond (Nat.ble 46 pc) (cond (Nat.ble 53 pc) (cond (Nat.ble 55 pc) (cond (Nat.beq pc 55) (some (.iadd, 56, [])) (cond (Nat.beq pc 56) (some (.iconst 2, 57, [])) (cond (Nat.beq pc 57) (some (.iload_n 2, 58, [])) (none)))) (cond (Nat.beq pc 53) (some (.iload_n 1, 54, [])) (cond (Nat.beq pc 54) (some (.iconst 1, 55, [])) (none)))) (cond (Nat.ble 48 pc) (cond (Nat.beq pc 48) (some (.iconst 0, 49, [])) (cond (Nat.beq pc 49) (some (.invokevirtual 51, 52, [])) (cond (Nat.beq pc 52) (some (.aload_n 0, 53, [])) (none)))) (cond (Nat.beq pc 46) (some (.aload_n 0, 47, [])) (cond (Nat.beq pc 47) (some (.iload_n 1, 48, [])) (none))))) (cond (Nat.ble 39 pc) (cond (Nat.ble 41 pc) (cond (Nat.beq pc 41) (some (.iload_n 2, 42, [])) (cond (Nat.beq pc 42) (some (.invokevirtual 73, 45, [])) (cond (Nat.beq pc 45) (some (.return_, 46, [])) (none)))) (cond (Nat.beq pc 39) (some (.iconst 2, 40, [])) (cond (Nat.beq pc 40) (some (.iload_n 1, 41, [])) (none)))) (cond (Nat.ble 35 pc) (cond (Nat.beq pc 35) (some (.if_icmp .lt 11, 38, [46])) (cond (Nat.beq pc 38) (some (.aload_n 0, 39, [])) (none))) (cond (Nat.beq pc 32) (some (.iload_n 1, 33, [])) (cond (Nat.beq pc 33) (some (.bipush 12, 35, [])) (none)))))) (cond (Nat.ble 16 pc) (cond (Nat.ble 23 pc) (cond (Nat.ble 27 pc) (cond (Nat.beq pc 27) (some (.iload_n 1, 28, [])) (cond (Nat.beq pc 28) (some (.iload_n 3, 29, [])) (cond (Nat.beq pc 29) (some (.if_icmp .ge 9, 32, [38])) (none)))) (cond (Nat.beq pc 23) (some (.invokevirtual 73, 26, [])) (cond (Nat.beq pc 26) (some (.return_, 27, [])) (none)))) (cond (Nat.ble 20 pc) (cond (Nat.beq pc 20) (some (.iconst 1, 21, [])) (cond (Nat.beq pc 21) (some (.iload_n 1, 22, [])) (cond (Nat.beq pc 22) (some (.iload_n 2, 23, [])) (none)))) (cond (Nat.beq pc 16) (some (.if_icmp .ne 11, 19, [27])) (cond (Nat.beq pc 19) (some (.aload_n 0, 20, [])) (none))))) (cond (Nat.ble 7 pc) (cond (Nat.ble 12 pc) (cond (Nat.beq pc 12) (some (.return_, 13, [])) (cond (Nat.beq pc 13) (some (.iload 4, 15, [])) (cond (Nat.beq pc 15) (some (.iconst 1, 16, [])) (none)))) (cond (Nat.beq pc 7) (some (.iload 4, 9, [])) (cond (Nat.beq pc 9) (some (.ifCond .ne 4, 12, [13])) (none)))) (cond (Nat.ble 2 pc) (cond (Nat.beq pc 2) (some (.invokevirtual 59, 5, [])) (cond (Nat.beq pc 5) (some (.istore 4, 7, [])) (none))) (cond (Nat.beq pc 0) (some (.aload_n 0, 1, [])) (cond (Nat.beq pc 1) (some (.iload_n 1, 2, [])) (none))))))))
theorem qkX5_searchR_ok : ∀ pc i nx ts, qkX5_searchR pc = some (i, nx, ts) → am_cok cX5_search pc (i, nx, ts) = true := fun pc i nx ts h => am_tok_ok (n := 109) (by decide +kernel) (fun pc h => by show cond (Nat.ble 109 pc) _ _ = _; rw [Nat.ble_eq_true_of_le h]; rfl) h
def qsX5_searchR (f : Nat) : SP := fun as F A K => match as with
  | [.inr (.inr cut), .inl d, .inl q, .inl lim] => cond (Nat.beq cut 14) (((0 ≤ (F 14 4) ∧ (F 14 4) ≤ 3) ∧ 0 ≤ d ∧ d + ((f : Nat) : Int) = 13 ∧ (1 ≤ lim ∧ lim ≤ 12) ∧ d ≤ 12 ∧ 0 ≤ (F 14 5) ∧ (F 14 5) + ((srch ((F 14 4)) lim f (fun i => A 15 (d * 4 + i)) d q).length : Int) ≤ 8) ∧ (∀ (B_1 : AA) (G_1 : FF) (L_1 : List RT), (L_1 = srch ((F 14 4)) lim f (fun i => A 15 (d * 4 + i)) d q ∧ srP A B_1 ((F 14 5)) d L_1 ∧ G_1 = upF F 14 5 ((F 14 5) + (L_1.length : Int))) → (K (some none) G_1 B_1))) (False)
  | _ => False
def qeX5_searchR (f : Nat) : CE := (yX5_search, cX5_search, 5, none, 4, none, 0, none, 0, 5 + f, qsX5_searchR f)
theorem qbX5_searchR_0 : am_mb (yX5_search, cX5_search, 5, none, 4, none, 0, none, 0, 0, fun _ _ _ _ => True) := ⟨am_tb_at 1138 (by decide +kernel) rfl, am_tb_at 40 (by decide +kernel) rfl, ⟨by decide, by decide, by decide +kernel⟩, Nat.le_of_ble_eq_true rfl, am_tb_at 1137 (by decide +kernel) rfl⟩
theorem qbX5_searchR (f : Nat) : am_mb (qeX5_searchR f) := qbX5_searchR_0
def qaX5_searchR (f : Nat) : Nat → Option CE := fun k => cond (Nat.beq k 77) (some (qeX5_searchR f)) (cond (Nat.beq k 59) (some qeX5_changesAt) (cond (Nat.beq k 73) (some qeX5_add) (cond (Nat.beq k 51) (some qeX5_goDown) (cond (Nat.beq k 43) (some qeX5_number) (none)))))
theorem qyX5_searchR (l : Launch) (f : Nat) (hf : am_CT l layX (qeX5_searchR f)) : ∀ k e1, qaX5_searchR f k = some e1 → am_cal l layX RX5 (5 + (f + 1)) k e1 ∧ ceT e1 = 0 := q_cons ⟨am_calS hf (qbX5_searchR f) (show 5 + f + 1 ≤ 5 + (f + 1) by omega) rfl (show (0 : Nat) ≠ 1 by decide) (show Cond.methodLink RX5 77 yX5_search ∈ am_tb from am_tb_at 1136 (by decide +kernel) rfl), rfl⟩ (q_cons ⟨am_calV (ci := 5) (qtX5_changesAt l) qbX5_changesAt (show 4 + 1 ≤ 5 + (f + 1) by omega) rfl (show Cond.methodLink RX5 59 yX5_changesAt ∈ am_tb from am_tb_at 1139 (by decide +kernel) rfl), rfl⟩ (q_cons ⟨am_calV (ci := 5) (qtX5_add l) qbX5_add (show 3 + 1 ≤ 5 + (f + 1) by omega) rfl (show Cond.methodLink RX5 73 yX5_add ∈ am_tb from am_tb_at 1132 (by decide +kernel) rfl), rfl⟩ (q_cons ⟨am_calV (ci := 5) (qtX5_goDown l) qbX5_goDown (show 4 + 1 ≤ 5 + (f + 1) by omega) rfl (show Cond.methodLink RX5 51 yX5_goDown ∈ am_tb from am_tb_at 1144 (by decide +kernel) rfl), rfl⟩ (q_cons ⟨am_calV (ci := 5) (qtX5_number l) qbX5_number (show 3 + 1 ≤ 5 + (f + 1) by omega) rfl (show Cond.methodLink RX5 43 yX5_number ∈ am_tb from am_tb_at 964 (by decide +kernel) rfl), rfl⟩ (q_nil)))))
def qxX5_searchR (f : Nat) : CX := (qkX5_searchR, layX, qfX5, qaX5_searchR f, qcX5, qlX5, qmX5, none, false, none, 0, none, fun _ => none)
theorem qzX5_searchR (l : Launch) (f : Nat) (hf : am_CT l layX (qeX5_searchR f)) : am_sta l (qxX5_searchR f) RX5 (5 + (f + 1)) cX5_search := ⟨qkX5_searchR_ok, layX_ok, qfX5_ok, qcX5_ok, qlX5_ok, am_mthP qmX5_ok (by omega), fun k e1 h => (qyX5_searchR l f hf k e1 h).1⟩
set_option maxRecDepth 20000 in
theorem qvX5_searchR_14 (f : Nat) (d : Int) (q : Int) (lim : Int) (F : FF) (A : AA) (K : KK) (h : ((0 ≤ (F 14 4) ∧ (F 14 4) ≤ 3) ∧ 0 ≤ d ∧ d + (((f + 1) : Nat) : Int) = 13 ∧ (1 ≤ lim ∧ lim ≤ 12) ∧ d ≤ 12 ∧ 0 ≤ (F 14 5) ∧ (F 14 5) + ((srch ((F 14 4)) lim (f + 1) (fun i => A 15 (d * 4 + i)) d q).length : Int) ≤ 8) ∧ (∀ (B_1 : AA) (G_1 : FF) (L_1 : List RT), (L_1 = srch ((F 14 4)) lim (f + 1) (fun i => A 15 (d * 4 + i)) d q ∧ srP A B_1 ((F 14 5)) d L_1 ∧ G_1 = upF F 14 5 ((F 14 5) + (L_1.length : Int))) → (K (some none) G_1 B_1))) : am_line (qxX5_searchR f) 65 [vR 14, vI d, vI q, vI lim] 5 F A K := by
  show am_stp (qxX5_searchR f) (am_run (qxX5_searchR f) (fun _ => none) (fun _ _ _ _ _ _ => False) K 65) K 0 [some (vR 14), some (vI d), some (vI q), some (vI lim), none] [] F A 0
  obtain ⟨hp, h⟩ := h
  obtain ⟨p1, p2, p3, p4, p7, p5, p6⟩ := hp
  have hb := chg_b (fun i => A 15 (d * 4 + i)) (Int.toNat (F 14 4 + 1))
  show ((0 ≤ (F 14 4) ∧ (F 14 4) ≤ 3) ∧ 0 ≤ d ∧ d ≤ 12) ∧ ((w32 (chg (fun i => A 15 (d * 4 + i)) (Int.toNat ((F 14 4) + 1))) = w32 0 → (K (some none) F A)) ∧ (¬ w32 (chg (fun i => A 15 (d * 4 + i)) (Int.toNat ((F 14 4) + 1))) = w32 0 → ((w32 (chg (fun i => A 15 (d * 4 + i)) (Int.toNat ((F 14 4) + 1))) = w32 1 → ((0 ≤ (F 14 5) ∧ (F 14 5) < 8) ∧ (K (some none) (upF F 14 5 ((F 14 5) + 1)) (upA (upA (upA A 16 ((F 14 5)) 1) 17 ((F 14 5)) d) 18 ((F 14 5)) q)))) ∧ (¬ w32 (chg (fun i => A 15 (d * 4 + i)) (Int.toNat ((F 14 4) + 1))) = w32 1 → ((w32 d < w32 lim → ((w32 d < w32 12 → (((0 ≤ (F 14 4) ∧ (F 14 4) ≤ 3) ∧ 0 ≤ d ∧ d ≤ 11 ∧ (0 = 0 ∨ 0 = 1)) ∧ (((0 ≤ (F 14 4) ∧ (F 14 4) ≤ 3) ∧ 0 ≤ (d + 1) ∧ (d + 1) + ((f : Nat) : Int) = 13 ∧ (1 ≤ lim ∧ lim ≤ 12) ∧ (d + 1) ≤ 12 ∧ 0 ≤ (F 14 5) ∧ (F 14 5) + ((srch ((F 14 4)) lim f (fun i => (setR A 15 ((d + 1) * 4) ((F 14 4) + 1) (hv (fun i => A 15 (d * 4 + i)) ((F 14 4)) 0)) 15 ((d + 1) * 4 + i)) (d + 1) (2 * q)).length : Int) ≤ 8) ∧ (∀ (B_1 : AA) (G_1 : FF) (L_1 : List RT), (L_1 = srch ((F 14 4)) lim f (fun i => (setR A 15 ((d + 1) * 4) ((F 14 4) + 1) (hv (fun i => A 15 (d * 4 + i)) ((F 14 4)) 0)) 15 ((d + 1) * 4 + i)) (d + 1) (2 * q) ∧ srP (setR A 15 ((d + 1) * 4) ((F 14 4) + 1) (hv (fun i => A 15 (d * 4 + i)) ((F 14 4)) 0)) B_1 ((F 14 5)) (d + 1) L_1 ∧ G_1 = upF F 14 5 ((F 14 5) + (L_1.length : Int))) → (((0 ≤ (G_1 14 4) ∧ (G_1 14 4) ≤ 3) ∧ 0 ≤ d ∧ d ≤ 11 ∧ (1 = 0 ∨ 1 = 1)) ∧ ((0 ≤ (d + 1) ∧ (d + 1) ≤ 12 ∧ 0 ≤ 0 ∧ 0 < 4) ∧ ((w32 (y_cmp ((setR B_1 15 ((d + 1) * 4) ((G_1 14 4) + 1) (hv (fun i => B_1 15 (d * 4 + i)) ((G_1 14 4)) 1)) 15 ((d + 1) * 4 + 0)) 0) = w32 0 → ((0 ≤ (G_1 14 5) ∧ (G_1 14 5) < 8) ∧ (((0 ≤ ((upF G_1 14 5 ((G_1 14 5) + 1)) 14 4) ∧ ((upF G_1 14 5 ((G_1 14 5) + 1)) 14 4) ≤ 3) ∧ 0 ≤ (d + 1) ∧ (d + 1) + ((f : Nat) : Int) = 13 ∧ (1 ≤ lim ∧ lim ≤ 12) ∧ (d + 1) ≤ 12 ∧ 0 ≤ ((upF G_1 14 5 ((G_1 14 5) + 1)) 14 5) ∧ ((upF G_1 14 5 ((G_1 14 5) + 1)) 14 5) + ((srch (((upF G_1 14 5 ((G_1 14 5) + 1)) 14 4)) lim f (fun i => (upA (upA (upA (setR B_1 15 ((d + 1) * 4) ((G_1 14 4) + 1) (hv (fun i => B_1 15 (d * 4 + i)) ((G_1 14 4)) 1)) 16 ((G_1 14 5)) 0) 17 ((G_1 14 5)) (d + 1)) 18 ((G_1 14 5)) ((2 * q) + 1)) 15 ((d + 1) * 4 + i)) (d + 1) ((2 * q) + 1)).length : Int) ≤ 8) ∧ (∀ (B_2 : AA) (G_2 : FF) (L_2 : List RT), (L_2 = srch (((upF G_1 14 5 ((G_1 14 5) + 1)) 14 4)) lim f (fun i => (upA (upA (upA (setR B_1 15 ((d + 1) * 4) ((G_1 14 4) + 1) (hv (fun i => B_1 15 (d * 4 + i)) ((G_1 14 4)) 1)) 16 ((G_1 14 5)) 0) 17 ((G_1 14 5)) (d + 1)) 18 ((G_1 14 5)) ((2 * q) + 1)) 15 ((d + 1) * 4 + i)) (d + 1) ((2 * q) + 1) ∧ srP (upA (upA (upA (setR B_1 15 ((d + 1) * 4) ((G_1 14 4) + 1) (hv (fun i => B_1 15 (d * 4 + i)) ((G_1 14 4)) 1)) 16 ((G_1 14 5)) 0) 17 ((G_1 14 5)) (d + 1)) 18 ((G_1 14 5)) ((2 * q) + 1)) B_2 (((upF G_1 14 5 ((G_1 14 5) + 1)) 14 5)) (d + 1) L_2 ∧ G_2 = upF (upF G_1 14 5 ((G_1 14 5) + 1)) 14 5 (((upF G_1 14 5 ((G_1 14 5) + 1)) 14 5) + (L_2.length : Int))) → (K (some none) G_2 B_2))))) ∧ (¬ w32 (y_cmp ((setR B_1 15 ((d + 1) * 4) ((G_1 14 4) + 1) (hv (fun i => B_1 15 (d * 4 + i)) ((G_1 14 4)) 1)) 15 ((d + 1) * 4 + 0)) 0) = w32 0 → (((0 ≤ (G_1 14 4) ∧ (G_1 14 4) ≤ 3) ∧ 0 ≤ (d + 1) ∧ (d + 1) + ((f : Nat) : Int) = 13 ∧ (1 ≤ lim ∧ lim ≤ 12) ∧ (d + 1) ≤ 12 ∧ 0 ≤ (G_1 14 5) ∧ (G_1 14 5) + ((srch ((G_1 14 4)) lim f (fun i => (setR B_1 15 ((d + 1) * 4) ((G_1 14 4) + 1) (hv (fun i => B_1 15 (d * 4 + i)) ((G_1 14 4)) 1)) 15 ((d + 1) * 4 + i)) (d + 1) ((2 * q) + 1)).length : Int) ≤ 8) ∧ (∀ (B_2 : AA) (G_2 : FF) (L_2 : List RT), (L_2 = srch ((G_1 14 4)) lim f (fun i => (setR B_1 15 ((d + 1) * 4) ((G_1 14 4) + 1) (hv (fun i => B_1 15 (d * 4 + i)) ((G_1 14 4)) 1)) 15 ((d + 1) * 4 + i)) (d + 1) ((2 * q) + 1) ∧ srP (setR B_1 15 ((d + 1) * 4) ((G_1 14 4) + 1) (hv (fun i => B_1 15 (d * 4 + i)) ((G_1 14 4)) 1)) B_2 ((G_1 14 5)) (d + 1) L_2 ∧ G_2 = upF G_1 14 5 ((G_1 14 5) + (L_2.length : Int))) → (K (some none) G_2 B_2))))))))))) ∧ (¬ w32 d < w32 12 → ((0 ≤ (F 14 5) ∧ (F 14 5) < 8) ∧ (K (some none) (upF F 14 5 ((F 14 5) + 1)) (upA (upA (upA A 16 ((F 14 5)) 2) 17 ((F 14 5)) d) 18 ((F 14 5)) q)))))) ∧ (¬ w32 d < w32 lim → ((0 ≤ (F 14 5) ∧ (F 14 5) < 8) ∧ (K (some none) (upF F 14 5 ((F 14 5) + 1)) (upA (upA (upA A 16 ((F 14 5)) 2) 17 ((F 14 5)) d) 18 ((F 14 5)) q)))))))))
  refine ⟨by omega, ?_⟩
  refine ⟨fun c1 => ?_, fun c1 => ?_⟩
  · skip
    (try simp (disch := omega) only [w32_0, w64_0, yc_eq0, w32_id, chg_b] at c1); (try rw [c0] at c1)
    rw [srch_s0 (f := f) (lim := lim) (n := F 14 4) (g := fun i => A 15 (d * 4 + i)) (d := d) (q := q) c1] at h
    have h2 := h A _ _ ⟨rfl, srP_id, rfl⟩
    rw [upF_id (by simp)] at h2
    exact h2
  · skip
    (try simp (disch := omega) only [w32_0, w64_0, yc_eq0, w32_id, chg_b] at c1); (try rw [c0] at c1)
    refine ⟨fun c2 => ?_, fun c2 => ?_⟩
    · skip
      (try simp (disch := omega) only [w32_0, w64_0, yc_eq0, w32_id, chg_b] at c2); (try rw [c0] at c2)
      refine ⟨by (rw [(srch_s1 (f := f) (lim := lim) (n := F 14 4) (g := fun i => A 15 (d * 4 + i)) (d := d) (q := q) c2)] at p6; simp only [List.length_cons, List.length_nil] at p6; omega), ?_⟩
      rw [(srch_s1 (f := f) (lim := lim) (n := F 14 4) (g := fun i => A 15 (d * 4 + i)) (d := d) (q := q) c2)] at p6 h
      exact h _ _ _ ⟨rfl, srP_add, rfl⟩
    · skip
      (try simp (disch := omega) only [w32_0, w64_0, yc_eq0, w32_id, chg_b] at c2); (try rw [c0] at c2)
      refine ⟨fun c3 => ?_, fun c3 => ?_⟩
      · skip
        (try simp (disch := omega) only [w32_0, w64_0, yc_eq0, w32_id, chg_b] at c3); (try rw [c0] at c3)
        refine ⟨fun c4 => ?_, fun c4 => ?_⟩
        · skip
          (try simp (disch := omega) only [w32_0, w64_0, yc_eq0, w32_id, chg_b] at c4); (try rw [c0] at c4)
          refine ⟨by omega, ?_⟩
          refine ⟨by (rw [srch_s3 (f := f) (lim := lim) (n := F 14 4) (g := fun i => A 15 (d * 4 + i)) (d := d) (q := q) c1 c2 (by omega)] at p6; simp only [List.length_append, Int.natCast_add] at p6; rw [srch_c (x := fun i => setR A 15 ((d + 1) * 4) (F 14 4 + 1) (hv (fun i => A 15 (d * 4 + i)) (F 14 4) 0) 15 ((d + 1) * 4 + i)) (y := hv (fun i => A 15 (d * 4 + i)) (F 14 4) 0) (by omega) f _ _ (fun i i0 i1 => setR_at i0 (by omega))]; omega), ?_⟩
          intro B_1 G_1 L_1 g1
          obtain ⟨gL, gP, gG⟩ := g1
          have e3 := srch_s3 (f := f) (lim := lim) (n := F 14 4) (g := fun i => A 15 (d * 4 + i)) (d := d) (q := q) c1 c2 (by omega)
          rw [e3] at p6 h
          have eL : L_1 = srch (F 14 4) lim f (hv (fun i => A 15 (d * 4 + i)) (F 14 4) 0) (d + 1) (2 * q) := by
            rw [gL]
            exact srch_c (by omega) f _ _ (fun i i0 i1 => setR_at i0 (by omega))
          have f4 : G_1 14 4 = F 14 4 := by rw [gG]; exact upF_o (by decide)
          have f5 : G_1 14 5 = F 14 5 + (L_1.length : Int) := by rw [gG]; exact upF_s
          rw [← eL] at p6 h
          simp only [List.length_append, Int.natCast_add] at p6
          have rw0 : ∀ i, 0 ≤ i → i ≤ F 14 4 → B_1 15 (d * 4 + i) = A 15 (d * 4 + i) := fun i i0 i1 => by
            rw [gP.1 15 _ (Or.inr (Or.inl ⟨rfl, by omega⟩))]; exact setR_lt (by omega)
          have hv1 : ∀ k, 0 ≤ k → k ≤ F 14 4 → hv (fun i => B_1 15 (d * 4 + i)) (G_1 14 4) 1 k = hv (fun i => A 15 (d * 4 + i)) (F 14 4) 1 k := fun k k0 k1 => by
            rw [f4]; exact hv_c rw0 k0 k1
          have c0 : setR B_1 15 ((d + 1) * 4) (G_1 14 4 + 1) (hv (fun i => B_1 15 (d * 4 + i)) (G_1 14 4) 1) 15 ((d + 1) * 4 + 0) = hv (fun i => A 15 (d * 4 + i)) (F 14 4) 1 0 := by
            rw [setR_at (by omega) (by omega)]; exact hv1 0 (by omega) (by omega)
          have t1 : srP A B_1 (F 14 5) d ([] ++ L_1) := srP_trans srP_row (srP_up gP) (by simp)
          have sc3 : ∀ X : AA, (∀ i, X 15 i = setR B_1 15 ((d + 1) * 4) (F 14 4 + 1) (hv (fun i => B_1 15 (d * 4 + i)) (F 14 4) 1) 15 i) → srch (F 14 4) lim f (fun i => X 15 ((d + 1) * 4 + i)) (d + 1) (2 * q + 1) = srch (F 14 4) lim f (hv (fun i => A 15 (d * 4 + i)) (F 14 4) 1) (d + 1) (2 * q + 1) := fun X hX => srch_c (by omega) f _ _ (fun i i0 i1 => by rw [hX, setR_at i0 (by omega), ← hv1 i i0 i1, f4])
          have t2 : srP B_1 (setR B_1 15 ((d + 1) * 4) (G_1 14 4 + 1) (hv (fun i => B_1 15 (d * 4 + i)) (G_1 14 4) 1)) (G_1 14 5) d [] := srP_row
          have t3 := srP_trans t1 t2 (by rw [f5]; simp)
          simp only [List.nil_append, List.append_nil] at t3
          refine ⟨by omega, ?_⟩
          refine ⟨by omega, ?_⟩
          refine ⟨fun c5 => ?_, fun c5 => ?_⟩
          · skip
            (try simp (disch := omega) only [w32_0, w64_0, yc_eq0, w32_id, chg_b] at c5); (try rw [c0] at c5)
            refine ⟨by (rw [if_pos c5] at p6; simp only [List.length_cons, List.length_nil] at p6; omega), ?_⟩
            refine ⟨by (rw [upF_o (by decide), upF_s, f4, sc3 _ (fun i => by rw [upA_k (by decide), upA_k (by decide), upA_k (by decide)])]; rw [if_pos c5] at p6; simp only [List.length_cons, List.length_nil] at p6; omega), ?_⟩
            intro B_2 G_2 L_2 g2
            obtain ⟨kL, kP, kG⟩ := g2
            rw [upF_o (by decide), f4, sc3 _ (fun i => by rw [upA_k (by decide), upA_k (by decide), upA_k (by decide)])] at kL
            rw [upF_s] at kP kG
            rw [if_pos c5, ← kL] at h
            have t4 := srP_trans t3 (srP_trans (srP_add (A := setR B_1 15 ((d + 1) * 4) (G_1 14 4 + 1) (hv (fun i => B_1 15 (d * 4 + i)) (G_1 14 4) 1)) (r := G_1 14 5) (d := d) (k := 0) (d' := d + 1) (q := 2 * q + 1)) (srP_up kP) (by simp)) (by rw [f5])
            refine h _ _ _ ⟨rfl, t4, ?_⟩
            rw [kG, upF_2, gG, upF_2]
            congr 1
            rw [upF_s]
            simp only [List.length_append, List.length_cons, List.length_nil]
            omega
          · skip
            (try simp (disch := omega) only [w32_0, w64_0, yc_eq0, w32_id, chg_b] at c5); (try rw [c0] at c5)
            refine ⟨by (rw [f4, sc3 _ (fun _ => rfl)]; rw [if_neg c5] at p6; simp only [List.length_nil] at p6; omega), ?_⟩
            intro B_2 G_2 L_2 g2
            obtain ⟨kL, kP, kG⟩ := g2
            rw [f4, sc3 _ (fun _ => rfl)] at kL
            rw [if_neg c5, ← kL] at h
            have t4 := srP_trans t3 (srP_up kP) (by rw [f5])
            refine h _ _ _ ⟨rfl, t4, ?_⟩
            rw [kG, gG, upF_2]
            congr 1
            rw [upF_s]
            simp only [List.length_append, List.nil_append]
            omega
        · skip
          (try simp (disch := omega) only [w32_0, w64_0, yc_eq0, w32_id, chg_b] at c4); (try rw [c0] at c4)
          refine ⟨by (rw [(srch_s2 (f := f) (lim := lim) (n := F 14 4) (g := fun i => A 15 (d * 4 + i)) (d := d) (q := q) c1 c2 (by omega))] at p6; simp only [List.length_cons, List.length_nil] at p6; omega), ?_⟩
          rw [(srch_s2 (f := f) (lim := lim) (n := F 14 4) (g := fun i => A 15 (d * 4 + i)) (d := d) (q := q) c1 c2 (by omega))] at p6 h
          exact h _ _ _ ⟨rfl, srP_add, rfl⟩
      · skip
        (try simp (disch := omega) only [w32_0, w64_0, yc_eq0, w32_id, chg_b] at c3); (try rw [c0] at c3)
        refine ⟨by (rw [(srch_s2 (f := f) (lim := lim) (n := F 14 4) (g := fun i => A 15 (d * 4 + i)) (d := d) (q := q) c1 c2 (by omega))] at p6; simp only [List.length_cons, List.length_nil] at p6; omega), ?_⟩
        rw [(srch_s2 (f := f) (lim := lim) (n := F 14 4) (g := fun i => A 15 (d * 4 + i)) (d := d) (q := q) c1 c2 (by omega))] at p6 h
        exact h _ _ _ ⟨rfl, srP_add, rfl⟩
theorem qtX5_searchR (l : Launch) : ∀ f : Nat, am_CT l layX (qeX5_searchR f)
  | 0 => by
    intro layW hpre D al kC as F A K sz h
    exfalso
    replace h : qsX5_searchR 0 as F A K := h
    unfold qsX5_searchR at h
    split at h
    · rename_i cut d q lim
      replace h := am_cond2 h
      rcases h with ⟨hb, h⟩ | h
      · omega
      exact h
    · exact h
  | f + 1 => am_met0 (x := qxX5_searchR f) rfl (show plainName yX5_search.cls = true by decide +kernel) rfl rfl rfl rfl rfl (fun _ => rfl) rfl (qzX5_searchR l f (qtX5_searchR l f)) (fun k e1 h => (qyX5_searchR l f (qtX5_searchR l f) k e1 h).2) (fun as F A K h => by
    replace h : qsX5_searchR (f + 1) as F A K := h
    unfold qsX5_searchR at h
    split at h
    · rename_i cut d q lim
      refine ⟨by first | exact Nat.le_of_ble_eq_true rfl | simp [am_fl, am_cat], ?_⟩
      replace h := am_cond2 h
      rcases h with ⟨hb, h⟩ | h
      · skip
        have hb0 := hb
        have hb0 := am_bq hb0
        subst hb0
        exact am_way_line (qvX5_searchR_14 f d q lim F A K h)
      exact h.elim
    · exact h.elim)
def qeX5_search : CE := qeX5_searchR 13
theorem qbX5_search : am_mb qeX5_search := qbX5_searchR 13
theorem qtX5_search (l : Launch) : am_CT l layX qeX5_search := qtX5_searchR l 13
