def qkX5_replace : Nat → Option CI := fun pc => cond (Nat.ble 17 pc) none (cond (Nat.ble 9 pc) (cond (Nat.ble 14 pc) (cond (Nat.beq pc 14) (some (.lload_n 2, 15, [])) (cond (Nat.beq pc 15) (some (.lastore, 16, [])) (cond (Nat.beq pc 16) (some (.return_, 17, [])) (none)))) (cond (Nat.beq pc 9) (some (.aload_n 0, 10, [])) (cond (Nat.beq pc 10) (some (.getfield 9, 13, [])) (cond (Nat.beq pc 13) (some (.iload_n 1, 14, [])) (none))))) (cond (Nat.ble 4 pc) (cond (Nat.beq pc 4) (some (.iload_n 1, 5, [])) (cond (Nat.beq pc 5) (some (.iconst 4, 6, [])) (cond (Nat.beq pc 6) (some (.if_icmp .ge 10, 9, [16])) (none)))) (cond (Nat.beq pc 0) (some (.iload_n 1, 1, [])) (cond (Nat.beq pc 1) (some (.ifCond .lt 15, 4, [16])) (none)))))
theorem qkX5_replace_ok : ∀ pc i nx ts, qkX5_replace pc = some (i, nx, ts) → am_cok cX5_replace pc (i, nx, ts) = true := fun pc i nx ts h => am_tok_ok (n := 17) (by decide +kernel) (fun pc h => by show cond (Nat.ble 17 pc) _ _ = _; rw [Nat.ble_eq_true_of_le h]; rfl) h
def qaX5_replace : Nat → Option CE := fun k => none
theorem qyX5_replace (l : Launch) : ∀ k e1, qaX5_replace k = some e1 → am_cal l layX RX5 3 k e1 ∧ ceT e1 = 0 := q_nil
def qxX5_replace : CX := (qkX5_replace, layX, qfX5, qaX5_replace, qcX5, qlX5, qmX5, none, false, none, 0, none, fun _ => none)
theorem qzX5_replace (l : Launch) : am_sta l qxX5_replace RX5 3 cX5_replace := ⟨qkX5_replace_ok, layX_ok, qfX5_ok, qcX5_ok, qlX5_ok, am_mthP qmX5_ok (by decide), fun k e1 h => (qyX5_replace l k e1 h).1⟩
def qsX5_replace : SP := fun as F A K => match as with
  | [.inr (.inr o), .inl k, .inr (.inl v)] => cond (Nat.beq o 14) ((0 ≤ k ∧ k < 4) ∧ (K (some none) F (upA A 15 k v))) (False)
  | _ => False
def qeX5_replace : CE := (yX5_replace, cX5_replace, 4, none, 2, some 5, 0, [], 0, 3, qsX5_replace)
theorem qbX5_replace : am_mb qeX5_replace := ⟨am_tb_at 609 (by decide +kernel) rfl, am_tb_at 119 (by decide +kernel) rfl, ⟨by decide, by decide, by decide +kernel⟩, by decide, by decide, am_tb_at 607 (by decide +kernel) rfl, am_tb_at 608 (by decide +kernel) rfl, _, _, rfl⟩
theorem qvX5_replace_14 (k : Int) (v : Int) (F : FF) (A : AA) (K : KK) (h : (0 ≤ k ∧ k < 4) ∧ (K (some none) F (upA A 15 k v))) : am_line qxX5_replace 12 [vR 14, vI k, vL v] 4 F A K := by
  obtain ⟨hp, h⟩ := h
  show (w32 k < w32 0 → (K (some none) F A)) ∧ (¬ w32 k < w32 0 → ((w32 k < w32 4 → ((0 ≤ w32 k ∧ w32 k < 52) ∧ (K (some none) F (upA A 15 (w32 k) v)))) ∧ (¬ w32 k < w32 4 → (K (some none) F A))))
  refine ⟨fun c1 => ?_, fun c1 => ?_⟩
  · skip
    try simp (disch := omega) only [w32_0, w64_0, wbi0, wbi1, yc_eq0, yc_lt0, yc_gt0, Classical.not_not, w32_id, w64_id] at c1
    first | (exfalso; omega) | (simp (disch := omega) only [w32_id]; exact h) | exact h
  · skip
    try simp (disch := omega) only [w32_0, w64_0, wbi0, wbi1, yc_eq0, yc_lt0, yc_gt0, Classical.not_not, w32_id, w64_id] at c1
    refine ⟨fun c2 => ?_, fun c2 => ?_⟩
    · skip
      try simp (disch := omega) only [w32_0, w64_0, wbi0, wbi1, yc_eq0, yc_lt0, yc_gt0, Classical.not_not, w32_id, w64_id] at c2
      refine ⟨by first | omega | (simp (disch := omega) only [w32_0, w64_0, wbi0, wbi1, yc_eq0, yc_lt0, yc_gt0, Classical.not_not, w32_id, w64_id]; omega) | (simp (disch := omega) only [w32_0, w64_0, wbi0, wbi1, yc_eq0, yc_lt0, yc_gt0, Classical.not_not, w32_id, w64_id]; done), ?_⟩
      first | (exfalso; omega) | (simp (disch := omega) only [w32_id]; exact h) | exact h
    · skip
      try simp (disch := omega) only [w32_0, w64_0, wbi0, wbi1, yc_eq0, yc_lt0, yc_gt0, Classical.not_not, w32_id, w64_id] at c2
      first | (exfalso; omega) | (simp (disch := omega) only [w32_id]; exact h) | exact h
theorem qtX5_replace (l : Launch) : am_CT l layX qeX5_replace := am_met0 rfl (by decide +kernel) rfl rfl rfl rfl rfl (fun _ => rfl) rfl (qzX5_replace l) (fun k e1 h => (qyX5_replace l k e1 h).2) (fun as F A K h => by
  replace h : qsX5_replace as F A K := h
  unfold qsX5_replace at h
  split at h
  · rename_i o k v
    refine ⟨by first | exact Nat.le_of_ble_eq_true rfl | simp [am_fl, am_cat], ?_⟩
    replace h := am_cond2 h
    rcases h with ⟨hb, h⟩ | h
    · skip
      have hb0 := hb
      have hb0 := am_bq hb0
      subst hb0
      exact am_way_line (qvX5_replace_14 k v F A K h)
    exact h.elim
  · exact h.elim)
def qkX5_number : Nat → Option CI := fun pc => cond (Nat.ble 30 pc) none (cond (Nat.ble 12 pc) (cond (Nat.ble 23 pc) (cond (Nat.ble 25 pc) (cond (Nat.beq pc 25) (some (.goto 4, 28, [29])) (cond (Nat.beq pc 28) (some (.lconst 0, 29, [])) (cond (Nat.beq pc 29) (some (.lreturn, 30, [])) (none)))) (cond (Nat.beq pc 23) (some (.iload_n 3, 24, [])) (cond (Nat.beq pc 24) (some (.laload, 25, [])) (none)))) (cond (Nat.ble 16 pc) (cond (Nat.beq pc 16) (some (.if_icmp .ge 12, 19, [28])) (cond (Nat.beq pc 19) (some (.aload_n 0, 20, [])) (cond (Nat.beq pc 20) (some (.getfield 9, 23, [])) (none)))) (cond (Nat.beq pc 12) (some (.getfield 9, 15, [])) (cond (Nat.beq pc 15) (some (.arraylength, 16, [])) (none))))) (cond (Nat.ble 5 pc) (cond (Nat.ble 7 pc) (cond (Nat.beq pc 7) (some (.ifCond .lt 21, 10, [28])) (cond (Nat.beq pc 10) (some (.iload_n 3, 11, [])) (cond (Nat.beq pc 11) (some (.aload_n 0, 12, [])) (none)))) (cond (Nat.beq pc 5) (some (.istore_n 3, 6, [])) (cond (Nat.beq pc 6) (some (.iload_n 3, 7, [])) (none)))) (cond (Nat.ble 2 pc) (cond (Nat.beq pc 2) (some (.imul, 3, [])) (cond (Nat.beq pc 3) (some (.iload_n 2, 4, [])) (cond (Nat.beq pc 4) (some (.iadd, 5, [])) (none)))) (cond (Nat.beq pc 0) (some (.iload_n 1, 1, [])) (cond (Nat.beq pc 1) (some (.iconst 4, 2, [])) (none))))))
theorem qkX5_number_ok : ∀ pc i nx ts, qkX5_number pc = some (i, nx, ts) → am_cok cX5_number pc (i, nx, ts) = true := fun pc i nx ts h => am_tok_ok (n := 30) (by decide +kernel) (fun pc h => by show cond (Nat.ble 30 pc) _ _ = _; rw [Nat.ble_eq_true_of_le h]; rfl) h
def qaX5_number : Nat → Option CE := fun k => none
theorem qyX5_number (l : Launch) : ∀ k e1, qaX5_number k = some e1 → am_cal l layX RX5 3 k e1 ∧ ceT e1 = 0 := q_nil
def qxX5_number : CX := (qkX5_number, layX, qfX5, qaX5_number, qcX5, qlX5, qmX5, (some .long), false, none, 0, none, fun _ => none)
theorem qzX5_number (l : Launch) : am_sta l qxX5_number RX5 3 cX5_number := ⟨qkX5_number_ok, layX_ok, qfX5_ok, qcX5_ok, qlX5_ok, am_mthP qmX5_ok (by decide), fun k e1 h => (qyX5_number l k e1 h).1⟩
def qsX5_number : SP := fun as F A K => match as with
  | [.inr (.inr o), .inl d, .inl k] => cond (Nat.beq o 14) ((0 ≤ d ∧ d ≤ 12 ∧ 0 ≤ k ∧ k < 4) ∧ (K (some (some (vL (A 15 (d * 4 + k))))) F A)) (False)
  | _ => False
def qeX5_number : CE := (yX5_number, cX5_number, 4, (some .long), 2, some 5, 0, [], 0, 3, qsX5_number)
theorem qbX5_number : am_mb qeX5_number := ⟨am_tb_at 621 (by decide +kernel) rfl, am_tb_at 119 (by decide +kernel) rfl, ⟨by decide, by decide, by decide +kernel⟩, by decide, by decide, am_tb_at 620 (by decide +kernel) rfl, am_tb_at 17 (by decide +kernel) rfl, _, _, rfl⟩
theorem qvX5_number_14 (d : Int) (k : Int) (F : FF) (A : AA) (K : KK) (h : (0 ≤ d ∧ d ≤ 12 ∧ 0 ≤ k ∧ k < 4) ∧ (K (some (some (vL (A 15 (d * 4 + k))))) F A)) : am_line qxX5_number 20 [vR 14, vI d, vI k] 4 F A K := by
  obtain ⟨hp, h⟩ := h
  show (w32 ((d * 4) + k) < w32 0 → (K (some (some (vL 0))) F A)) ∧ (¬ w32 ((d * 4) + k) < w32 0 → ((w32 ((d * 4) + k) < w32 52 → ((0 ≤ w32 ((d * 4) + k) ∧ w32 ((d * 4) + k) < 52) ∧ (K (some (some (vL (A 15 (w32 ((d * 4) + k)))))) F A))) ∧ (¬ w32 ((d * 4) + k) < w32 52 → (K (some (some (vL 0))) F A))))
  refine ⟨fun c1 => ?_, fun c1 => ?_⟩
  · skip
    try simp (disch := omega) only [w32_0, w64_0, wbi0, wbi1, yc_eq0, yc_lt0, yc_gt0, Classical.not_not, w32_id, w64_id] at c1
    first | (exfalso; omega) | (simp (disch := omega) only [w32_id]; exact h)
  · skip
    try simp (disch := omega) only [w32_0, w64_0, wbi0, wbi1, yc_eq0, yc_lt0, yc_gt0, Classical.not_not, w32_id, w64_id] at c1
    refine ⟨fun c2 => ?_, fun c2 => ?_⟩
    · skip
      try simp (disch := omega) only [w32_0, w64_0, wbi0, wbi1, yc_eq0, yc_lt0, yc_gt0, Classical.not_not, w32_id, w64_id] at c2
      refine ⟨by first | omega | (simp (disch := omega) only [w32_0, w64_0, wbi0, wbi1, yc_eq0, yc_lt0, yc_gt0, Classical.not_not, w32_id, w64_id]; omega) | (simp (disch := omega) only [w32_0, w64_0, wbi0, wbi1, yc_eq0, yc_lt0, yc_gt0, Classical.not_not, w32_id, w64_id]; done), ?_⟩
      first | (exfalso; omega) | (simp (disch := omega) only [w32_id]; exact h)
    · skip
      try simp (disch := omega) only [w32_0, w64_0, wbi0, wbi1, yc_eq0, yc_lt0, yc_gt0, Classical.not_not, w32_id, w64_id] at c2
      first | (exfalso; omega) | (simp (disch := omega) only [w32_id]; exact h)
theorem qtX5_number (l : Launch) : am_CT l layX qeX5_number := am_met0 rfl (by decide +kernel) rfl rfl rfl rfl rfl (fun _ => rfl) rfl (qzX5_number l) (fun k e1 h => (qyX5_number l k e1 h).2) (fun as F A K h => by
  replace h : qsX5_number as F A K := h
  unfold qsX5_number at h
  split at h
  · rename_i o d k
    refine ⟨by first | exact Nat.le_of_ble_eq_true rfl | simp [am_fl, am_cat], ?_⟩
    replace h := am_cond2 h
    rcases h with ⟨hb, h⟩ | h
    · skip
      have hb0 := hb
      have hb0 := am_bq hb0
      subst hb0
      exact am_way_line (qvX5_number_14 d k F A K h)
    exact h.elim
  · exact h.elim)
def qkX5_isAllZero : Nat → Option CI := fun pc => cond (Nat.ble 31 pc) none (cond (Nat.ble 13 pc) (cond (Nat.ble 22 pc) (cond (Nat.ble 26 pc) (cond (Nat.beq pc 26) (some (.goto (-24), 29, [2])) (cond (Nat.beq pc 29) (some (.iconst 1, 30, [])) (cond (Nat.beq pc 30) (some (.ireturn, 31, [])) (none)))) (cond (Nat.beq pc 22) (some (.ireturn, 23, [])) (cond (Nat.beq pc 23) (some (.iinc 1 1, 26, [])) (none)))) (cond (Nat.ble 17 pc) (cond (Nat.beq pc 17) (some (.lcmp, 18, [])) (cond (Nat.beq pc 18) (some (.ifCond .eq 5, 21, [23])) (cond (Nat.beq pc 21) (some (.iconst 0, 22, [])) (none)))) (cond (Nat.beq pc 13) (some (.invokevirtual 43, 16, [])) (cond (Nat.beq pc 16) (some (.lconst 0, 17, [])) (none))))) (cond (Nat.ble 4 pc) (cond (Nat.ble 10 pc) (cond (Nat.beq pc 10) (some (.aload_n 0, 11, [])) (cond (Nat.beq pc 11) (some (.iconst 0, 12, [])) (cond (Nat.beq pc 12) (some (.iload_n 1, 13, [])) (none)))) (cond (Nat.beq pc 4) (some (.getfield 31, 7, [])) (cond (Nat.beq pc 7) (some (.if_icmp .gt 22, 10, [29])) (none)))) (cond (Nat.ble 2 pc) (cond (Nat.beq pc 2) (some (.iload_n 1, 3, [])) (cond (Nat.beq pc 3) (some (.aload_n 0, 4, [])) (none))) (cond (Nat.beq pc 0) (some (.iconst 0, 1, [])) (cond (Nat.beq pc 1) (some (.istore_n 1, 2, [])) (none))))))
theorem qkX5_isAllZero_ok : ∀ pc i nx ts, qkX5_isAllZero pc = some (i, nx, ts) → am_cok cX5_isAllZero pc (i, nx, ts) = true := fun pc i nx ts h => am_tok_ok (n := 31) (by decide +kernel) (fun pc h => by show cond (Nat.ble 31 pc) _ _ = _; rw [Nat.ble_eq_true_of_le h]; rfl) h
def qaX5_isAllZero : Nat → Option CE := fun k => cond (Nat.beq k 43) (some qeX5_number) (none)
theorem qyX5_isAllZero (l : Launch) : ∀ k e1, qaX5_isAllZero k = some e1 → am_cal l layX RX5 4 k e1 ∧ ceT e1 = 0 := q_cons ⟨am_calV (ci := 5) (qtX5_number l) qbX5_number (by decide) rfl (am_tb_at 618 (by decide +kernel) rfl), rfl⟩ (q_nil)
def qxX5_isAllZero : CX := (qkX5_isAllZero, layX, qfX5, qaX5_isAllZero, qcX5, qlX5, qmX5, (some .boolean), false, none, 0, none, fun _ => none)
theorem qzX5_isAllZero (l : Launch) : am_sta l qxX5_isAllZero RX5 4 cX5_isAllZero := ⟨qkX5_isAllZero_ok, layX_ok, qfX5_ok, qcX5_ok, qlX5_ok, am_mthP qmX5_ok (by decide), fun k e1 h => (qyX5_isAllZero l k e1 h).1⟩
def qsX5_isAllZero : SP := fun as F A K => match as with
  | [.inr (.inr o)] => cond (Nat.beq o 14) ((0 ≤ (F 14 4) ∧ (F 14 4) ≤ 3) ∧ (K (some (some (vI (bi (azP (A 15) (Int.toNat ((F 14 4) + 1))))))) F A)) (False)
  | _ => False
def qeX5_isAllZero : CE := (yX5_isAllZero, cX5_isAllZero, 2, (some .boolean), 0, some 5, 0, [], 0, 4, qsX5_isAllZero)
theorem qbX5_isAllZero : am_mb qeX5_isAllZero := ⟨am_tb_at 617 (by decide +kernel) rfl, am_tb_at 119 (by decide +kernel) rfl, ⟨by decide, by decide, by decide +kernel⟩, by decide, by decide, am_tb_at 615 (by decide +kernel) rfl, am_tb_at 616 (by decide +kernel) rfl, _, _, rfl⟩
def qnX5_isAllZero_14 : CUT := fun pc => cond (Nat.beq pc 2) (some [true, true]) (none)
def qiX5_isAllZero_14  (F0 : FF) (A0 : AA) : REC := fun pc ls st F A u => cond (Nat.beq pc 2) (match ls, st, u with
    | [some (.inr (.inr s0)), some (.inl k)], [], 0 => s0 = 14 ∧ F = F0 ∧ A = A0 ∧ (0 ≤ k ∧ k ≤ F0 14 4 + 1 ∧ ∀ j : Nat, (j : Int) < k → w64 (A0 15 j) = 0)
    | _, _, _ => False) (False)
def quX5_isAllZero_14 : Nat → LVs → List AV → FF → AA → Nat := fun pc ls _ F A => cond (Nat.beq pc 2) (match ls with
    | [some (.inr (.inr s0)), some (.inl k)] => Int.toNat (10 - k)
    | _ => 0) (0)
theorem qvX5_isAllZero_14_0  (F0 : FF) (A0 : AA) (K : KK) (h : (0 ≤ (F0 14 4) ∧ (F0 14 4) ≤ 3) ∧ (K (some (some (vI (bi (azP (A0 15) (Int.toNat ((F0 14 4) + 1))))))) F0 A0)) : am_stp qxX5_isAllZero (am_run qxX5_isAllZero qnX5_isAllZero_14 (qiX5_isAllZero_14  F0 A0) K 16) K 0 (am_ent [vR 14] 2) [] F0 A0 0 := by
  obtain ⟨hp, h⟩ := h
  show 14 = 14 ∧ F0 = F0 ∧ A0 = A0 ∧ (0 ≤ 0 ∧ 0 ≤ F0 14 4 + 1 ∧ ∀ j : Nat, (j : Int) < 0 → w64 (A0 15 j) = 0)
  refine ⟨rfl, rfl, rfl, ?_⟩
  exact ⟨by omega, by omega, fun j hj => by omega⟩
theorem qvX5_isAllZero_14_2  (F0 : FF) (A0 : AA) (K : KK) (h : (0 ≤ (F0 14 4) ∧ (F0 14 4) ≤ 3) ∧ (K (some (some (vI (bi (azP (A0 15) (Int.toNat ((F0 14 4) + 1))))))) F0 A0)) (k : Int) (hi : 0 ≤ k ∧ k ≤ F0 14 4 + 1 ∧ ∀ j : Nat, (j : Int) < k → w64 (A0 15 j) = 0) : am_stp qxX5_isAllZero (am_run qxX5_isAllZero qnX5_isAllZero_14 (fun pc ls st F A u => qiX5_isAllZero_14  F0 A0 pc ls st F A u ∧ quX5_isAllZero_14 pc ls st F A < quX5_isAllZero_14 2 [some (vR 14), some (vI k)] [] F0 A0) K 16) K 2 [some (vR 14), some (vI k)] [] F0 A0 0 := by
  obtain ⟨hp, h⟩ := h
  obtain ⟨h1, h2, h3⟩ := hi
  show (w32 (F0 14 4) < w32 k → ((1 = 0 ∨ 1 = 1) ∧ (K (some (some (vI 1))) F0 A0))) ∧ (¬ w32 (F0 14 4) < w32 k → ((0 ≤ 0 ∧ 0 ≤ 12 ∧ 0 ≤ k ∧ k < 4) ∧ ((w32 (y_cmp (A0 15 (0 * 4 + k)) 0) = w32 0 → ((14 = 14 ∧ F0 = F0 ∧ A0 = A0 ∧ (0 ≤ (k + 1) ∧ (k + 1) ≤ F0 14 4 + 1 ∧ ∀ j : Nat, (j : Int) < (k + 1) → w64 (A0 15 j) = 0)) ∧ (Int.toNat (10 - (k + 1))) < (Int.toNat (10 - k)))) ∧ (¬ w32 (y_cmp (A0 15 (0 * 4 + k)) 0) = w32 0 → ((0 = 0 ∨ 0 = 1) ∧ (K (some (some (vI 0))) F0 A0))))))
  refine ⟨fun c1 => ?_, fun c1 => ?_⟩
  · skip
    try simp (disch := omega) only [w32_0, w64_0, wbi0, wbi1, yc_eq0, yc_lt0, yc_gt0, Classical.not_not, w32_id, w64_id] at c1
    refine ⟨by first | exact Or.inl rfl | exact Or.inr rfl | first | omega | (simp (disch := omega) only [w32_id, w32_0]; omega), ?_⟩
    exact K_eq h (bi_t (fun j hj => h3 j (by omega)))
  · skip
    try simp (disch := omega) only [w32_0, w64_0, wbi0, wbi1, yc_eq0, yc_lt0, yc_gt0, Classical.not_not, w32_id, w64_id] at c1
    refine ⟨by first | exact Or.inl rfl | exact Or.inr rfl | first | omega | (simp (disch := omega) only [w32_id, w32_0]; omega), ?_⟩
    refine ⟨fun c2 => ?_, fun c2 => ?_⟩
    · skip
      try simp (disch := omega) only [w32_0, w64_0, wbi0, wbi1, yc_eq0, yc_lt0, yc_gt0, Classical.not_not, w32_id, w64_id] at c2
      refine ⟨⟨rfl, rfl, rfl, ?_⟩, by omega⟩
      refine ⟨by omega, by omega, fun j hj => ?_⟩
      by_cases e : (j : Int) = k
      · rw [e]; simpa using c2
      · exact h3 j (by omega)
    · skip
      try simp (disch := omega) only [w32_0, w64_0, wbi0, wbi1, yc_eq0, yc_lt0, yc_gt0, Classical.not_not, w32_id, w64_id] at c2
      refine ⟨by first | exact Or.inl rfl | exact Or.inr rfl | first | omega | (simp (disch := omega) only [w32_id, w32_0]; omega), ?_⟩
      refine K_eq h (bi_f (fun q => c2 ?_))
      have := q k.toNat (by omega)
      rw [show ((k.toNat : Nat) : Int) = k by omega] at this
      simpa using this
theorem qvX5_isAllZero_14  (F0 : FF) (A0 : AA) (K : KK) (h : (0 ≤ (F0 14 4) ∧ (F0 14 4) ≤ 3) ∧ (K (some (some (vI (bi (azP (A0 15) (Int.toNat ((F0 14 4) + 1))))))) F0 A0)) : am_body qxX5_isAllZero qnX5_isAllZero_14 16 (qiX5_isAllZero_14  F0 A0) quX5_isAllZero_14 [vR 14] 2 F0 A0 K := by
  refine ⟨qvX5_isAllZero_14_0  F0 A0 K h, fun pc ls st F A u hI => ?_⟩
  unfold qiX5_isAllZero_14 at hI
  replace hI := am_cond2 hI
  rcases hI with ⟨hb, hI⟩ | hI
  · have hb := am_bq hb
    subst hb
    split at hI
    · rename_i s0 k
      obtain ⟨e0, e1, e2, hI⟩ := hI
      subst e0
      subst e1
      subst e2
      exact qvX5_isAllZero_14_2  _ _ K h _ hI
    · exact hI.elim
  exact hI.elim
theorem qtX5_isAllZero (l : Launch) : am_CT l layX qeX5_isAllZero := am_met0 rfl (by decide +kernel) rfl rfl rfl rfl rfl (fun _ => rfl) rfl (qzX5_isAllZero l) (fun k e1 h => (qyX5_isAllZero l k e1 h).2) (fun as F A K h => by
  replace h : qsX5_isAllZero as F A K := h
  unfold qsX5_isAllZero at h
  split at h
  · rename_i o
    refine ⟨by first | exact Nat.le_of_ble_eq_true rfl | simp [am_fl, am_cat], ?_⟩
    replace h := am_cond2 h
    rcases h with ⟨hb, h⟩ | h
    · skip
      have hb0 := hb
      have hb0 := am_bq hb0
      subst hb0
      exact am_way_body (qvX5_isAllZero_14  F A K h)
    exact h.elim
  · exact h.elim)
def qkX5_goDown : Nat → Option CI := fun pc => cond (Nat.ble 21 pc) none (cond (Nat.ble 9 pc) (cond (Nat.ble 13 pc) (cond (Nat.ble 17 pc) (cond (Nat.beq pc 17) (some (.invokestatic 47, 20, [])) (cond (Nat.beq pc 20) (some (.return_, 21, [])) (none))) (cond (Nat.beq pc 13) (some (.getfield 31, 16, [])) (cond (Nat.beq pc 16) (some (.iload_n 2, 17, [])) (none)))) (cond (Nat.ble 11 pc) (cond (Nat.beq pc 11) (some (.imul, 12, [])) (cond (Nat.beq pc 12) (some (.aload_n 0, 13, [])) (none))) (cond (Nat.beq pc 9) (some (.iadd, 10, [])) (cond (Nat.beq pc 10) (some (.iconst 4, 11, [])) (none))))) (cond (Nat.ble 5 pc) (cond (Nat.ble 7 pc) (cond (Nat.beq pc 7) (some (.iload_n 1, 8, [])) (cond (Nat.beq pc 8) (some (.iconst 1, 9, [])) (none))) (cond (Nat.beq pc 5) (some (.iconst 4, 6, [])) (cond (Nat.beq pc 6) (some (.imul, 7, [])) (none)))) (cond (Nat.beq pc 0) (some (.aload_n 0, 1, [])) (cond (Nat.beq pc 1) (some (.getfield 9, 4, [])) (cond (Nat.beq pc 4) (some (.iload_n 1, 5, [])) (none))))))
theorem qkX5_goDown_ok : ∀ pc i nx ts, qkX5_goDown pc = some (i, nx, ts) → am_cok cX5_goDown pc (i, nx, ts) = true := fun pc i nx ts h => am_tok_ok (n := 21) (by decide +kernel) (fun pc h => by show cond (Nat.ble 21 pc) _ _ = _; rw [Nat.ble_eq_true_of_le h]; rfl) h
def qaX5_goDown : Nat → Option CE := fun k => cond (Nat.beq k 47) (some qeX8_halve) (none)
theorem qyX5_goDown (l : Launch) : ∀ k e1, qaX5_goDown k = some e1 → am_cal l layX RX5 4 k e1 ∧ ceT e1 = 0 := q_cons ⟨am_calN (host := "CurveMeetings") (qtX8_halve l) qbX8_halve (by decide) rfl rfl (am_tb_at 640 (by decide +kernel) rfl), rfl⟩ (q_nil)
def qxX5_goDown : CX := (qkX5_goDown, layX, qfX5, qaX5_goDown, qcX5, qlX5, qmX5, none, false, none, 0, none, fun _ => none)
theorem qzX5_goDown (l : Launch) : am_sta l qxX5_goDown RX5 4 cX5_goDown := ⟨qkX5_goDown_ok, layX_ok, qfX5_ok, qcX5_ok, qlX5_ok, am_mthP qmX5_ok (by decide), fun k e1 h => (qyX5_goDown l k e1 h).1⟩
def qsX5_goDown : SP := fun as F A K => match as with
  | [.inr (.inr o), .inl d, .inl z] => cond (Nat.beq o 14) (((0 ≤ (F 14 4) ∧ (F 14 4) ≤ 3) ∧ 0 ≤ d ∧ d ≤ 11 ∧ (z = 0 ∨ z = 1)) ∧ (K (some none) F (setR A 15 ((d + 1) * 4) ((F 14 4) + 1) (hv (fun i => A 15 (d * 4 + i)) ((F 14 4)) z)))) (False)
  | _ => False
def qeX5_goDown : CE := (yX5_goDown, cX5_goDown, 3, none, 2, some 5, 0, [], 0, 4, qsX5_goDown)
theorem qbX5_goDown : am_mb qeX5_goDown := ⟨am_tb_at 639 (by decide +kernel) rfl, am_tb_at 119 (by decide +kernel) rfl, ⟨by decide, by decide, by decide +kernel⟩, by decide, by decide, am_tb_at 638 (by decide +kernel) rfl, am_tb_at 20 (by decide +kernel) rfl, _, _, rfl⟩
theorem qvX5_goDown_14 (d : Int) (z : Int) (F : FF) (A : AA) (K : KK) (h : ((0 ≤ (F 14 4) ∧ (F 14 4) ≤ 3) ∧ 0 ≤ d ∧ d ≤ 11 ∧ (z = 0 ∨ z = 1)) ∧ (K (some none) F (setR A 15 ((d + 1) * 4) ((F 14 4) + 1) (hv (fun i => A 15 (d * 4 + i)) ((F 14 4)) z)))) : am_line qxX5_goDown 16 [vR 14, vI d, vI z] 3 F A K := by
  obtain ⟨hp, h⟩ := h
  show ((0 ≤ (F 14 4) ∧ (F 14 4) ≤ 3) ∧ (z = 0 ∨ z = 1) ∧ 0 ≤ (d * 4) ∧ (d * 4) + 4 ≤ ((d + 1) * 4) ∧ ((d + 1) * 4) + 4 ≤ 52) ∧ (K (some none) F (setR A 15 ((d + 1) * 4) ((F 14 4) + 1) (hv (fun i => A 15 ((d * 4) + i)) (F 14 4) z)))
  refine ⟨by first | omega | (simp (disch := omega) only [w32_0, w64_0, wbi0, wbi1, yc_eq0, yc_lt0, yc_gt0, Classical.not_not, w32_id, w64_id]; omega) | (simp (disch := omega) only [w32_0, w64_0, wbi0, wbi1, yc_eq0, yc_lt0, yc_gt0, Classical.not_not, w32_id, w64_id]; done), ?_⟩
  first | exact h | exact K_eq h (by first | omega | (simp (disch := omega) only [w32_0, w64_0, wbi0, wbi1, yc_eq0, yc_lt0, yc_gt0, Classical.not_not, w32_id, w64_id]; omega) | (simp (disch := omega) only [w32_0, w64_0, wbi0, wbi1, yc_eq0, yc_lt0, yc_gt0, Classical.not_not, w32_id, w64_id]; done))
theorem qtX5_goDown (l : Launch) : am_CT l layX qeX5_goDown := am_met0 rfl (by decide +kernel) rfl rfl rfl rfl rfl (fun _ => rfl) rfl (qzX5_goDown l) (fun k e1 h => (qyX5_goDown l k e1 h).2) (fun as F A K h => by
  replace h : qsX5_goDown as F A K := h
  unfold qsX5_goDown at h
  split at h
  · rename_i o d z
    refine ⟨by first | exact Nat.le_of_ble_eq_true rfl | simp [am_fl, am_cat], ?_⟩
    replace h := am_cond2 h
    rcases h with ⟨hb, h⟩ | h
    · skip
      have hb0 := hb
      have hb0 := am_bq hb0
      subst hb0
      exact am_way_line (qvX5_goDown_14 d z F A K h)
    exact h.elim
  · exact h.elim)
def qkX5_changesAt : Nat → Option CI := fun pc => cond (Nat.ble 54 pc) none (cond (Nat.ble 23 pc) (cond (Nat.ble 37 pc) (cond (Nat.ble 46 pc) (cond (Nat.ble 52 pc) (cond (Nat.beq pc 52) (some (.iload_n 2, 53, [])) (cond (Nat.beq pc 53) (some (.ireturn, 54, [])) (none))) (cond (Nat.beq pc 46) (some (.iinc 4 1, 49, [])) (cond (Nat.beq pc 49) (some (.goto (-42), 52, [7])) (none)))) (cond (Nat.ble 43 pc) (cond (Nat.beq pc 43) (some (.iload 5, 45, [])) (cond (Nat.beq pc 45) (some (.istore_n 3, 46, [])) (none))) (cond (Nat.beq pc 37) (some (.if_icmp .ne 6, 40, [43])) (cond (Nat.beq pc 40) (some (.iinc 2 1, 43, [])) (none))))) (cond (Nat.ble 30 pc) (cond (Nat.ble 35 pc) (cond (Nat.beq pc 35) (some (.iload_n 3, 36, [])) (cond (Nat.beq pc 36) (some (.ineg, 37, [])) (none))) (cond (Nat.beq pc 30) (some (.ifCond .eq 16, 33, [46])) (cond (Nat.beq pc 33) (some (.iload 5, 35, [])) (none)))) (cond (Nat.beq pc 23) (some (.invokestatic 62, 26, [])) (cond (Nat.beq pc 26) (some (.istore 5, 28, [])) (cond (Nat.beq pc 28) (some (.iload 5, 30, [])) (none)))))) (cond (Nat.ble 9 pc) (cond (Nat.ble 16 pc) (cond (Nat.ble 18 pc) (cond (Nat.beq pc 18) (some (.iload 4, 20, [])) (cond (Nat.beq pc 20) (some (.invokevirtual 43, 23, [])) (none))) (cond (Nat.beq pc 16) (some (.aload_n 0, 17, [])) (cond (Nat.beq pc 17) (some (.iload_n 1, 18, [])) (none)))) (cond (Nat.beq pc 9) (some (.aload_n 0, 10, [])) (cond (Nat.beq pc 10) (some (.getfield 31, 13, [])) (cond (Nat.beq pc 13) (some (.if_icmp .gt 39, 16, [52])) (none))))) (cond (Nat.ble 3 pc) (cond (Nat.ble 5 pc) (cond (Nat.beq pc 5) (some (.istore 4, 7, [])) (cond (Nat.beq pc 7) (some (.iload 4, 9, [])) (none))) (cond (Nat.beq pc 3) (some (.istore_n 3, 4, [])) (cond (Nat.beq pc 4) (some (.iconst 0, 5, [])) (none)))) (cond (Nat.beq pc 0) (some (.iconst 0, 1, [])) (cond (Nat.beq pc 1) (some (.istore_n 2, 2, [])) (cond (Nat.beq pc 2) (some (.iconst 0, 3, [])) (none)))))))
theorem qkX5_changesAt_ok : ∀ pc i nx ts, qkX5_changesAt pc = some (i, nx, ts) → am_cok cX5_changesAt pc (i, nx, ts) = true := fun pc i nx ts h => am_tok_ok (n := 54) (by decide +kernel) (fun pc h => by show cond (Nat.ble 54 pc) _ _ = _; rw [Nat.ble_eq_true_of_le h]; rfl) h
def qaX5_changesAt : Nat → Option CE := fun k => cond (Nat.beq k 43) (some qeX5_number) (cond (Nat.beq k 62) (some qeX8_signOf) (none))
theorem qyX5_changesAt (l : Launch) : ∀ k e1, qaX5_changesAt k = some e1 → am_cal l layX RX5 4 k e1 ∧ ceT e1 = 0 := q_cons ⟨am_calV (ci := 5) (qtX5_number l) qbX5_number (by decide) rfl (am_tb_at 618 (by decide +kernel) rfl), rfl⟩ (q_cons ⟨am_calN (host := "CurveMeetings") (qtX8_signOf l) qbX8_signOf (by decide) rfl rfl (am_tb_at 633 (by decide +kernel) rfl), rfl⟩ (q_nil))
def qxX5_changesAt : CX := (qkX5_changesAt, layX, qfX5, qaX5_changesAt, qcX5, qlX5, qmX5, (some .int), false, none, 0, none, fun _ => none)
theorem qzX5_changesAt (l : Launch) : am_sta l qxX5_changesAt RX5 4 cX5_changesAt := ⟨qkX5_changesAt_ok, layX_ok, qfX5_ok, qcX5_ok, qlX5_ok, am_mthP qmX5_ok (by decide), fun k e1 h => (qyX5_changesAt l k e1 h).1⟩
def qsX5_changesAt : SP := fun as F A K => match as with
  | [.inr (.inr o), .inl d] => cond (Nat.beq o 14) (((0 ≤ (F 14 4) ∧ (F 14 4) ≤ 3) ∧ 0 ≤ d ∧ d ≤ 12) ∧ (K (some (some (vI (chg (fun i => A 15 (d * 4 + i)) (Int.toNat ((F 14 4) + 1)))))) F A)) (False)
  | _ => False
def qeX5_changesAt : CE := (yX5_changesAt, cX5_changesAt, 6, (some .int), 1, some 5, 0, [], 0, 4, qsX5_changesAt)
theorem qbX5_changesAt : am_mb qeX5_changesAt := ⟨am_tb_at 632 (by decide +kernel) rfl, am_tb_at 119 (by decide +kernel) rfl, ⟨by decide, by decide, by decide +kernel⟩, by decide, by decide, am_tb_at 631 (by decide +kernel) rfl, am_tb_at 19 (by decide +kernel) rfl, _, _, rfl⟩
def qnX5_changesAt_14 : CUT := fun pc => cond (Nat.beq pc 7) (some [true, true, true, true, true, false]) (none)
def qiX5_changesAt_14 (d : Int) (F0 : FF) (A0 : AA) : REC := fun pc ls st F A u => cond (Nat.beq pc 7) (match ls, st, u with
    | [some (.inr (.inr s0)), some (.inl s1), some (.inl ch), some (.inl be), some (.inl k), none], [], 0 => s0 = 14 ∧ s1 = d ∧ F = F0 ∧ A = A0 ∧ (0 ≤ k ∧ k ≤ F0 14 4 + 1 ∧ ch = (chgF (fun i => A0 15 (d * 4 + i)) (Int.toNat k)).1 ∧ be = (chgF (fun i => A0 15 (d * 4 + i)) (Int.toNat k)).2)
    | _, _, _ => False) (False)
def quX5_changesAt_14 : Nat → LVs → List AV → FF → AA → Nat := fun pc ls _ F A => cond (Nat.beq pc 7) (match ls with
    | [some (.inr (.inr s0)), some (.inl s1), some (.inl ch), some (.inl be), some (.inl k), none] => Int.toNat (10 - k)
    | _ => 0) (0)
theorem qvX5_changesAt_14_0 (d : Int) (F0 : FF) (A0 : AA) (K : KK) (h : ((0 ≤ (F0 14 4) ∧ (F0 14 4) ≤ 3) ∧ 0 ≤ d ∧ d ≤ 12) ∧ (K (some (some (vI (chg (fun i => A0 15 (d * 4 + i)) (Int.toNat ((F0 14 4) + 1)))))) F0 A0)) : am_stp qxX5_changesAt (am_run qxX5_changesAt qnX5_changesAt_14 (qiX5_changesAt_14 d F0 A0) K 24) K 0 (am_ent [vR 14, vI d] 6) [] F0 A0 0 := by
  obtain ⟨hp, h⟩ := h
  show 14 = 14 ∧ d = d ∧ F0 = F0 ∧ A0 = A0 ∧ (0 ≤ 0 ∧ 0 ≤ F0 14 4 + 1 ∧ 0 = (chgF (fun i => A0 15 (d * 4 + i)) (Int.toNat 0)).1 ∧ 0 = (chgF (fun i => A0 15 (d * 4 + i)) (Int.toNat 0)).2)
  refine ⟨rfl, rfl, rfl, rfl, ?_⟩
  exact ⟨by omega, by omega, rfl, rfl⟩
theorem qvX5_changesAt_14_7 (d : Int) (F0 : FF) (A0 : AA) (K : KK) (h : ((0 ≤ (F0 14 4) ∧ (F0 14 4) ≤ 3) ∧ 0 ≤ d ∧ d ≤ 12) ∧ (K (some (some (vI (chg (fun i => A0 15 (d * 4 + i)) (Int.toNat ((F0 14 4) + 1)))))) F0 A0)) (ch : Int) (be : Int) (k : Int) (hi : 0 ≤ k ∧ k ≤ F0 14 4 + 1 ∧ ch = (chgF (fun i => A0 15 (d * 4 + i)) (Int.toNat k)).1 ∧ be = (chgF (fun i => A0 15 (d * 4 + i)) (Int.toNat k)).2) : am_stp qxX5_changesAt (am_run qxX5_changesAt qnX5_changesAt_14 (fun pc ls st F A u => qiX5_changesAt_14 d F0 A0 pc ls st F A u ∧ quX5_changesAt_14 pc ls st F A < quX5_changesAt_14 7 [some (vR 14), some (vI d), some (vI ch), some (vI be), some (vI k), none] [] F0 A0) K 24) K 7 [some (vR 14), some (vI d), some (vI ch), some (vI be), some (vI k), none] [] F0 A0 0 := by
  obtain ⟨hp, h⟩ := h
  obtain ⟨h1, h2, h3, h4⟩ := hi
  have h5 := chgF_b (fun i => A0 15 (d * 4 + i)) (Int.toNat k)
  have h6 := chgF_s (g := fun i => A0 15 (d * 4 + i)) h1
  have h7 := sg_cases (w64 (A0 15 (d * 4 + k)))
  show (w32 (F0 14 4) < w32 k → (K (some (some (vI ch))) F0 A0)) ∧ (¬ w32 (F0 14 4) < w32 k → ((0 ≤ d ∧ d ≤ 12 ∧ 0 ≤ k ∧ k < 4) ∧ ((w32 (sg (w64 (A0 15 (d * 4 + k)))) = w32 0 → ((14 = 14 ∧ d = d ∧ F0 = F0 ∧ A0 = A0 ∧ (0 ≤ (k + 1) ∧ (k + 1) ≤ F0 14 4 + 1 ∧ ch = (chgF (fun i => A0 15 (d * 4 + i)) (Int.toNat (k + 1))).1 ∧ be = (chgF (fun i => A0 15 (d * 4 + i)) (Int.toNat (k + 1))).2)) ∧ (Int.toNat (10 - (k + 1))) < (Int.toNat (10 - k)))) ∧ (¬ w32 (sg (w64 (A0 15 (d * 4 + k)))) = w32 0 → ((w32 (sg (w64 (A0 15 (d * 4 + k)))) = w32 (-be) → ((14 = 14 ∧ d = d ∧ F0 = F0 ∧ A0 = A0 ∧ (0 ≤ (k + 1) ∧ (k + 1) ≤ F0 14 4 + 1 ∧ (ch + 1) = (chgF (fun i => A0 15 (d * 4 + i)) (Int.toNat (k + 1))).1 ∧ (sg (w64 (A0 15 (d * 4 + k)))) = (chgF (fun i => A0 15 (d * 4 + i)) (Int.toNat (k + 1))).2)) ∧ (Int.toNat (10 - (k + 1))) < (Int.toNat (10 - k)))) ∧ (¬ w32 (sg (w64 (A0 15 (d * 4 + k)))) = w32 (-be) → ((14 = 14 ∧ d = d ∧ F0 = F0 ∧ A0 = A0 ∧ (0 ≤ (k + 1) ∧ (k + 1) ≤ F0 14 4 + 1 ∧ ch = (chgF (fun i => A0 15 (d * 4 + i)) (Int.toNat (k + 1))).1 ∧ (sg (w64 (A0 15 (d * 4 + k)))) = (chgF (fun i => A0 15 (d * 4 + i)) (Int.toNat (k + 1))).2)) ∧ (Int.toNat (10 - (k + 1))) < (Int.toNat (10 - k)))))))))
  refine ⟨fun c1 => ?_, fun c1 => ?_⟩
  · skip
    try simp (disch := omega) only [w32_0, w64_0, wbi0, wbi1, yc_eq0, yc_lt0, yc_gt0, Classical.not_not, w32_id, w64_id, sg_w] at c1
    refine K_eq h ?_
    rw [h3, show k = F0 14 4 + 1 by omega]; rfl
  · skip
    try simp (disch := omega) only [w32_0, w64_0, wbi0, wbi1, yc_eq0, yc_lt0, yc_gt0, Classical.not_not, w32_id, w64_id, sg_w] at c1
    refine ⟨by first | omega | (simp (disch := omega) only [w32_0, w64_0, wbi0, wbi1, yc_eq0, yc_lt0, yc_gt0, Classical.not_not, w32_id, w64_id, sg_w]; omega) | (simp (disch := omega) only [w32_0, w64_0, wbi0, wbi1, yc_eq0, yc_lt0, yc_gt0, Classical.not_not, w32_id, w64_id, sg_w]; done), ?_⟩
    refine ⟨fun c2 => ?_, fun c2 => ?_⟩
    · skip
      try simp (disch := omega) only [w32_0, w64_0, wbi0, wbi1, yc_eq0, yc_lt0, yc_gt0, Classical.not_not, w32_id, w64_id, sg_w] at c2
      refine ⟨⟨rfl, rfl, rfl, rfl, ?_⟩, by omega⟩
      rw [if_pos (by omega)] at h6
      exact ⟨by omega, by omega, by rw [h6]; exact h3, by rw [h6]; exact h4⟩
    · skip
      try simp (disch := omega) only [w32_0, w64_0, wbi0, wbi1, yc_eq0, yc_lt0, yc_gt0, Classical.not_not, w32_id, w64_id, sg_w] at c2
      refine ⟨fun c3 => ?_, fun c3 => ?_⟩
      · skip
        try simp (disch := omega) only [w32_0, w64_0, wbi0, wbi1, yc_eq0, yc_lt0, yc_gt0, Classical.not_not, w32_id, w64_id, sg_w] at c3
        refine ⟨⟨rfl, rfl, rfl, rfl, ?_⟩, by omega⟩
        rw [if_neg (by omega), if_pos (by omega)] at h6
        exact ⟨by omega, by omega, by rw [h6, h3], by rw [h6]⟩
      · skip
        try simp (disch := omega) only [w32_0, w64_0, wbi0, wbi1, yc_eq0, yc_lt0, yc_gt0, Classical.not_not, w32_id, w64_id, sg_w] at c3
        refine ⟨⟨rfl, rfl, rfl, rfl, ?_⟩, by omega⟩
        rw [if_neg (by omega), if_neg (by omega)] at h6
        exact ⟨by omega, by omega, by rw [h6, h3], by rw [h6]⟩
theorem qvX5_changesAt_14 (d : Int) (F0 : FF) (A0 : AA) (K : KK) (h : ((0 ≤ (F0 14 4) ∧ (F0 14 4) ≤ 3) ∧ 0 ≤ d ∧ d ≤ 12) ∧ (K (some (some (vI (chg (fun i => A0 15 (d * 4 + i)) (Int.toNat ((F0 14 4) + 1)))))) F0 A0)) : am_body qxX5_changesAt qnX5_changesAt_14 24 (qiX5_changesAt_14 d F0 A0) quX5_changesAt_14 [vR 14, vI d] 6 F0 A0 K := by
  refine ⟨qvX5_changesAt_14_0 d F0 A0 K h, fun pc ls st F A u hI => ?_⟩
  unfold qiX5_changesAt_14 at hI
  replace hI := am_cond2 hI
  rcases hI with ⟨hb, hI⟩ | hI
  · have hb := am_bq hb
    subst hb
    split at hI
    · rename_i s0 s1 ch be k
      obtain ⟨e0, e1, e2, e3, hI⟩ := hI
      subst e0
      subst e1
      subst e2
      subst e3
      exact qvX5_changesAt_14_7 _ _ _ K h _ _ _ hI
    · exact hI.elim
  exact hI.elim
theorem qtX5_changesAt (l : Launch) : am_CT l layX qeX5_changesAt := am_met0 rfl (by decide +kernel) rfl rfl rfl rfl rfl (fun _ => rfl) rfl (qzX5_changesAt l) (fun k e1 h => (qyX5_changesAt l k e1 h).2) (fun as F A K h => by
  replace h : qsX5_changesAt as F A K := h
  unfold qsX5_changesAt at h
  split at h
  · rename_i o d
    refine ⟨by first | exact Nat.le_of_ble_eq_true rfl | simp [am_fl, am_cat], ?_⟩
    replace h := am_cond2 h
    rcases h with ⟨hb, h⟩ | h
    · skip
      have hb0 := hb
      have hb0 := am_bq hb0
      subst hb0
      exact am_way_body (qvX5_changesAt_14 d F A K h)
    exact h.elim
  · exact h.elim)
