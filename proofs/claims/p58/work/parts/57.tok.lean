def qkX7_signAt : Nat → Option CI := fun pc => cond (Nat.ble 36 pc) none (cond (Nat.ble 18 pc) (cond (Nat.ble 27 pc) (cond (Nat.ble 31 pc) (cond (Nat.beq pc 31) (some (.goto 4, 34, [35])) (cond (Nat.beq pc 34) (some (.iconst (-1), 35, [])) (cond (Nat.beq pc 35) (some (.ireturn, 36, [])) (none)))) (cond (Nat.beq pc 27) (some (.sipush 255, 30, [])) (cond (Nat.beq pc 30) (some (.iand, 31, [])) (none)))) (cond (Nat.ble 22 pc) (cond (Nat.beq pc 22) (some (.getfield 9, 25, [])) (cond (Nat.beq pc 25) (some (.iload_n 1, 26, [])) (cond (Nat.beq pc 26) (some (.baload, 27, [])) (none)))) (cond (Nat.beq pc 18) (some (.if_icmp .ge 16, 21, [34])) (cond (Nat.beq pc 21) (some (.aload_n 0, 22, [])) (none))))) (cond (Nat.ble 9 pc) (cond (Nat.ble 13 pc) (cond (Nat.beq pc 13) (some (.aload_n 0, 14, [])) (cond (Nat.beq pc 14) (some (.getfield 9, 17, [])) (cond (Nat.beq pc 17) (some (.arraylength, 18, [])) (none)))) (cond (Nat.beq pc 9) (some (.if_icmp .ge 25, 12, [34])) (cond (Nat.beq pc 12) (some (.iload_n 1, 13, [])) (none)))) (cond (Nat.ble 4 pc) (cond (Nat.beq pc 4) (some (.iload_n 1, 5, [])) (cond (Nat.beq pc 5) (some (.aload_n 0, 6, [])) (cond (Nat.beq pc 6) (some (.getfield 22, 9, [])) (none)))) (cond (Nat.beq pc 0) (some (.iload_n 1, 1, [])) (cond (Nat.beq pc 1) (some (.ifCond .lt 33, 4, [34])) (none))))))
theorem qkX7_signAt_ok : ∀ pc i nx ts, qkX7_signAt pc = some (i, nx, ts) → am_cok cX7_signAt pc (i, nx, ts) = true := fun pc i nx ts h => am_tok_ok (n := 36) (by decide +kernel) (fun pc h => by show cond (Nat.ble 36 pc) _ _ = _; rw [Nat.ble_eq_true_of_le h]; rfl) h
def qaX7_signAt : Nat → Option CE := fun k => none
theorem qyX7_signAt (l : Launch) : ∀ k e1, qaX7_signAt k = some e1 → am_cal l layX RX7 3 k e1 ∧ ceT e1 = 0 := q_nil
def qxX7_signAt : CX := (qkX7_signAt, layX, qfX7, qaX7_signAt, qcX7, qlX7, qmX7, (some .int), false, none, 0, none, fun _ => none)
theorem qzX7_signAt (l : Launch) : am_sta l qxX7_signAt RX7 3 cX7_signAt := ⟨qkX7_signAt_ok, layX_ok, qfX7_ok, qcX7_ok, qlX7_ok, am_mthP qmX7_ok (by decide), fun k e1 h => (qyX7_signAt l k e1 h).1⟩
def qsX7_signAt : SP := fun as F A K => match as with
  | [.inr (.inr o), .inl i] => cond (Nat.beq o 7) (((0 ≤ (F 7 2) ∧ (F 7 2) ≤ 800) ∧ (-2147483648 ≤ i ∧ i < 2147483648)) ∧ (K (some (some (vI (sgT (A 8) ((F 7 2)) i)))) F A)) (False)
  | _ => False
def qeX7_signAt : CE := (yX7_signAt, cX7_signAt, 2, (some .int), 1, some 7, 0, none, 0, 3, qsX7_signAt)
theorem qbX7_signAt : am_mb qeX7_signAt := ⟨am_tb_at 623 (by decide +kernel) rfl, am_tb_at 38 (by decide +kernel) rfl, ⟨by decide, by decide, by decide +kernel⟩, by decide, am_tb_at 622 (by decide +kernel) rfl, am_tb_at 2 (by decide +kernel) rfl, _, _, rfl⟩
set_option maxRecDepth 20000 in
theorem qvX7_signAt_7 (i : Int) (F : FF) (A : AA) (K : KK) (h : ((0 ≤ (F 7 2) ∧ (F 7 2) ≤ 800) ∧ (-2147483648 ≤ i ∧ i < 2147483648)) ∧ (K (some (some (vI (sgT (A 8) ((F 7 2)) i)))) F A)) : am_line qxX7_signAt 20 [vR 7, vI i] 2 F A K := by
  show am_stp qxX7_signAt (am_run qxX7_signAt (fun _ => none) (fun _ _ _ _ _ _ => False) K 20) K 0 [some (vR 7), some (vI i)] [] F A 0
  obtain ⟨hp, h⟩ := h
  show (w32 i < w32 0 → (K (some (some (vI (-1)))) F A)) ∧ (¬ w32 i < w32 0 → ((w32 i < w32 (F 7 2) → ((w32 i < w32 800 → ((0 ≤ w32 i ∧ w32 i < 800) ∧ (K (some (some (vI (x_and (A 8 (w32 i)) 255)))) F A))) ∧ (¬ w32 i < w32 800 → (K (some (some (vI (-1)))) F A)))) ∧ (¬ w32 i < w32 (F 7 2) → (K (some (some (vI (-1)))) F A))))
  refine ⟨fun c1 => ?_, fun c1 => ?_⟩
  · skip
    (try simp (disch := omega) only [w32_0, wbi0, Classical.not_not, w32_id] at c1)
    first | (exfalso; omega) | exact K_eq h (if_neg (by omega)) | (refine K_eq h ?_; rw [w32_id (x := i) (by omega) (by omega), x_and255]; exact if_pos (by omega))
  · skip
    (try simp (disch := omega) only [w32_0, wbi0, Classical.not_not, w32_id] at c1)
    refine ⟨fun c2 => ?_, fun c2 => ?_⟩
    · skip
      (try simp (disch := omega) only [w32_0, wbi0, Classical.not_not, w32_id] at c2)
      refine ⟨fun c3 => ?_, fun c3 => ?_⟩
      · skip
        (try simp (disch := omega) only [w32_0, wbi0, Classical.not_not, w32_id] at c3)
        refine ⟨by first | omega | (simp (disch := omega) only [w32_0, w64_0, wbi0, wbi1, yc_eq0, yc_lt0, yc_gt0, Classical.not_not, w32_id, w64_id]; omega) | (simp (disch := omega) only [w32_0, w64_0, wbi0, wbi1, yc_eq0, yc_lt0, yc_gt0, Classical.not_not, w32_id, w64_id]; done), ?_⟩
        first | (exfalso; omega) | exact K_eq h (if_neg (by omega)) | (refine K_eq h ?_; rw [w32_id (x := i) (by omega) (by omega), x_and255]; exact if_pos (by omega))
      · skip
        (try simp (disch := omega) only [w32_0, wbi0, Classical.not_not, w32_id] at c3)
        first | (exfalso; omega) | exact K_eq h (if_neg (by omega)) | (refine K_eq h ?_; rw [w32_id (x := i) (by omega) (by omega), x_and255]; exact if_pos (by omega))
    · skip
      (try simp (disch := omega) only [w32_0, wbi0, Classical.not_not, w32_id] at c2)
      first | (exfalso; omega) | exact K_eq h (if_neg (by omega)) | (refine K_eq h ?_; rw [w32_id (x := i) (by omega) (by omega), x_and255]; exact if_pos (by omega))
theorem qtX7_signAt (l : Launch) : am_CT l layX qeX7_signAt := am_met0 rfl (by decide +kernel) rfl rfl rfl rfl rfl (fun _ => rfl) rfl (qzX7_signAt l) (fun k e1 h => (qyX7_signAt l k e1 h).2) (fun as F A K h => by
  replace h : qsX7_signAt as F A K := h
  unfold qsX7_signAt at h
  split at h
  · rename_i o i
    refine ⟨by first | exact Nat.le_of_ble_eq_true rfl | simp [am_fl, am_cat], ?_⟩
    replace h := am_cond2 h
    rcases h with ⟨hb, h⟩ | h
    · skip
      have hb0 := hb
      have hb0 := am_bq hb0
      subst hb0
      exact am_way_line (qvX7_signAt_7 i F A K h)
    exact h.elim
  · exact h.elim)
def qkX7_isLetter : Nat → Option CI := fun pc => cond (Nat.ble 18 pc) none (cond (Nat.ble 9 pc) (cond (Nat.ble 13 pc) (cond (Nat.beq pc 13) (some (.goto 4, 16, [17])) (cond (Nat.beq pc 16) (some (.iconst 0, 17, [])) (cond (Nat.beq pc 17) (some (.ireturn, 18, [])) (none)))) (cond (Nat.beq pc 9) (some (.if_icmp .gt 7, 12, [16])) (cond (Nat.beq pc 12) (some (.iconst 1, 13, [])) (none)))) (cond (Nat.ble 3 pc) (cond (Nat.beq pc 3) (some (.if_icmp .lt 13, 6, [16])) (cond (Nat.beq pc 6) (some (.iload_n 0, 7, [])) (cond (Nat.beq pc 7) (some (.bipush 122, 9, [])) (none)))) (cond (Nat.beq pc 0) (some (.iload_n 0, 1, [])) (cond (Nat.beq pc 1) (some (.bipush 97, 3, [])) (none)))))
theorem qkX7_isLetter_ok : ∀ pc i nx ts, qkX7_isLetter pc = some (i, nx, ts) → am_cok cX7_isLetter pc (i, nx, ts) = true := fun pc i nx ts h => am_tok_ok (n := 18) (by decide +kernel) (fun pc h => by show cond (Nat.ble 18 pc) _ _ = _; rw [Nat.ble_eq_true_of_le h]; rfl) h
def qaX7_isLetter : Nat → Option CE := fun k => none
theorem qyX7_isLetter (l : Launch) : ∀ k e1, qaX7_isLetter k = some e1 → am_cal l layX RX7 3 k e1 ∧ ceT e1 = 0 := q_nil
def qxX7_isLetter : CX := (qkX7_isLetter, layX, qfX7, qaX7_isLetter, qcX7, qlX7, qmX7, (some .boolean), false, none, 0, none, fun _ => none)
theorem qzX7_isLetter (l : Launch) : am_sta l qxX7_isLetter RX7 3 cX7_isLetter := ⟨qkX7_isLetter_ok, layX_ok, qfX7_ok, qcX7_ok, qlX7_ok, am_mthP qmX7_ok (by decide), fun k e1 h => (qyX7_isLetter l k e1 h).1⟩
def qsX7_isLetter : SP := fun as F A K => match as with
  | [.inl s] => K (some (some (vI (bi (ltP (w32 s)))))) F A
  | _ => False
def qeX7_isLetter : CE := (yX7_isLetter, cX7_isLetter, 1, (some .boolean), 1, none, 0, none, 0, 3, qsX7_isLetter)
theorem qbX7_isLetter : am_mb qeX7_isLetter := ⟨am_tb_at 629 (by decide +kernel) rfl, am_tb_at 38 (by decide +kernel) rfl, ⟨by decide, by decide, by decide +kernel⟩, by decide, am_tb_at 628 (by decide +kernel) rfl⟩
set_option maxRecDepth 20000 in
theorem qvX7_isLetter (s : Int) (F : FF) (A : AA) (K : KK) (h : K (some (some (vI (bi (ltP (w32 s)))))) F A) : am_line qxX7_isLetter 10 [vI s] 1 F A K := by
  show am_stp qxX7_isLetter (am_run qxX7_isLetter (fun _ => none) (fun _ _ _ _ _ _ => False) K 10) K 0 [some (vI s)] [] F A 0
  show (w32 s < w32 97 → ((0 = 0 ∨ 0 = 1) ∧ (K (some (some (vI 0))) F A))) ∧ (¬ w32 s < w32 97 → ((w32 122 < w32 s → ((0 = 0 ∨ 0 = 1) ∧ (K (some (some (vI 0))) F A))) ∧ (¬ w32 122 < w32 s → ((1 = 0 ∨ 1 = 1) ∧ (K (some (some (vI 1))) F A)))))
  refine ⟨fun c1 => ?_, fun c1 => ?_⟩
  · skip
    try simp (disch := omega) only [w32_0, w64_0, wbi0, wbi1, yc_eq0, yc_lt0, yc_gt0, Classical.not_not, w32_id, w64_id] at c1
    refine ⟨by first | exact Or.inl rfl | exact Or.inr rfl | exact bi_01 | omega, ?_⟩
    first | exact h | exact K_eq h (bi_t (by omega)) | exact K_eq h (bi_f (by omega)) | exact K_eq h (by omega)
  · skip
    try simp (disch := omega) only [w32_0, w64_0, wbi0, wbi1, yc_eq0, yc_lt0, yc_gt0, Classical.not_not, w32_id, w64_id] at c1
    refine ⟨fun c2 => ?_, fun c2 => ?_⟩
    · skip
      try simp (disch := omega) only [w32_0, w64_0, wbi0, wbi1, yc_eq0, yc_lt0, yc_gt0, Classical.not_not, w32_id, w64_id] at c2
      refine ⟨by first | exact Or.inl rfl | exact Or.inr rfl | exact bi_01 | omega, ?_⟩
      first | exact h | exact K_eq h (bi_t (by omega)) | exact K_eq h (bi_f (by omega)) | exact K_eq h (by omega)
    · skip
      try simp (disch := omega) only [w32_0, w64_0, wbi0, wbi1, yc_eq0, yc_lt0, yc_gt0, Classical.not_not, w32_id, w64_id] at c2
      refine ⟨by first | exact Or.inl rfl | exact Or.inr rfl | exact bi_01 | omega, ?_⟩
      first | exact h | exact K_eq h (bi_t (by omega)) | exact K_eq h (bi_f (by omega)) | exact K_eq h (by omega)
theorem qtX7_isLetter (l : Launch) : am_CT l layX qeX7_isLetter := am_met0 rfl (by decide +kernel) rfl rfl rfl rfl rfl (fun _ => rfl) rfl (qzX7_isLetter l) (fun k e1 h => (qyX7_isLetter l k e1 h).2) (fun as F A K h => by
  replace h : qsX7_isLetter as F A K := h
  unfold qsX7_isLetter at h
  split at h
  · rename_i s
    refine ⟨by first | exact Nat.le_of_ble_eq_true rfl | simp [am_fl, am_cat], ?_⟩
    exact am_way_line (qvX7_isLetter s F A K h)
  · exact h.elim)
def qkX7_isDigit : Nat → Option CI := fun pc => cond (Nat.ble 18 pc) none (cond (Nat.ble 9 pc) (cond (Nat.ble 13 pc) (cond (Nat.beq pc 13) (some (.goto 4, 16, [17])) (cond (Nat.beq pc 16) (some (.iconst 0, 17, [])) (cond (Nat.beq pc 17) (some (.ireturn, 18, [])) (none)))) (cond (Nat.beq pc 9) (some (.if_icmp .gt 7, 12, [16])) (cond (Nat.beq pc 12) (some (.iconst 1, 13, [])) (none)))) (cond (Nat.ble 3 pc) (cond (Nat.beq pc 3) (some (.if_icmp .lt 13, 6, [16])) (cond (Nat.beq pc 6) (some (.iload_n 0, 7, [])) (cond (Nat.beq pc 7) (some (.bipush 57, 9, [])) (none)))) (cond (Nat.beq pc 0) (some (.iload_n 0, 1, [])) (cond (Nat.beq pc 1) (some (.bipush 48, 3, [])) (none)))))
theorem qkX7_isDigit_ok : ∀ pc i nx ts, qkX7_isDigit pc = some (i, nx, ts) → am_cok cX7_isDigit pc (i, nx, ts) = true := fun pc i nx ts h => am_tok_ok (n := 18) (by decide +kernel) (fun pc h => by show cond (Nat.ble 18 pc) _ _ = _; rw [Nat.ble_eq_true_of_le h]; rfl) h
def qaX7_isDigit : Nat → Option CE := fun k => none
theorem qyX7_isDigit (l : Launch) : ∀ k e1, qaX7_isDigit k = some e1 → am_cal l layX RX7 3 k e1 ∧ ceT e1 = 0 := q_nil
def qxX7_isDigit : CX := (qkX7_isDigit, layX, qfX7, qaX7_isDigit, qcX7, qlX7, qmX7, (some .boolean), false, none, 0, none, fun _ => none)
theorem qzX7_isDigit (l : Launch) : am_sta l qxX7_isDigit RX7 3 cX7_isDigit := ⟨qkX7_isDigit_ok, layX_ok, qfX7_ok, qcX7_ok, qlX7_ok, am_mthP qmX7_ok (by decide), fun k e1 h => (qyX7_isDigit l k e1 h).1⟩
def qsX7_isDigit : SP := fun as F A K => match as with
  | [.inl s] => K (some (some (vI (bi (dgP (w32 s)))))) F A
  | _ => False
def qeX7_isDigit : CE := (yX7_isDigit, cX7_isDigit, 1, (some .boolean), 1, none, 0, none, 0, 3, qsX7_isDigit)
theorem qbX7_isDigit : am_mb qeX7_isDigit := ⟨am_tb_at 636 (by decide +kernel) rfl, am_tb_at 38 (by decide +kernel) rfl, ⟨by decide, by decide, by decide +kernel⟩, by decide, am_tb_at 635 (by decide +kernel) rfl⟩
set_option maxRecDepth 20000 in
theorem qvX7_isDigit (s : Int) (F : FF) (A : AA) (K : KK) (h : K (some (some (vI (bi (dgP (w32 s)))))) F A) : am_line qxX7_isDigit 10 [vI s] 1 F A K := by
  show am_stp qxX7_isDigit (am_run qxX7_isDigit (fun _ => none) (fun _ _ _ _ _ _ => False) K 10) K 0 [some (vI s)] [] F A 0
  show (w32 s < w32 48 → ((0 = 0 ∨ 0 = 1) ∧ (K (some (some (vI 0))) F A))) ∧ (¬ w32 s < w32 48 → ((w32 57 < w32 s → ((0 = 0 ∨ 0 = 1) ∧ (K (some (some (vI 0))) F A))) ∧ (¬ w32 57 < w32 s → ((1 = 0 ∨ 1 = 1) ∧ (K (some (some (vI 1))) F A)))))
  refine ⟨fun c1 => ?_, fun c1 => ?_⟩
  · skip
    try simp (disch := omega) only [w32_0, w64_0, wbi0, wbi1, yc_eq0, yc_lt0, yc_gt0, Classical.not_not, w32_id, w64_id] at c1
    refine ⟨by first | exact Or.inl rfl | exact Or.inr rfl | exact bi_01 | omega, ?_⟩
    first | exact h | exact K_eq h (bi_t (by omega)) | exact K_eq h (bi_f (by omega)) | exact K_eq h (by omega)
  · skip
    try simp (disch := omega) only [w32_0, w64_0, wbi0, wbi1, yc_eq0, yc_lt0, yc_gt0, Classical.not_not, w32_id, w64_id] at c1
    refine ⟨fun c2 => ?_, fun c2 => ?_⟩
    · skip
      try simp (disch := omega) only [w32_0, w64_0, wbi0, wbi1, yc_eq0, yc_lt0, yc_gt0, Classical.not_not, w32_id, w64_id] at c2
      refine ⟨by first | exact Or.inl rfl | exact Or.inr rfl | exact bi_01 | omega, ?_⟩
      first | exact h | exact K_eq h (bi_t (by omega)) | exact K_eq h (bi_f (by omega)) | exact K_eq h (by omega)
    · skip
      try simp (disch := omega) only [w32_0, w64_0, wbi0, wbi1, yc_eq0, yc_lt0, yc_gt0, Classical.not_not, w32_id, w64_id] at c2
      refine ⟨by first | exact Or.inl rfl | exact Or.inr rfl | exact bi_01 | omega, ?_⟩
      first | exact h | exact K_eq h (bi_t (by omega)) | exact K_eq h (bi_f (by omega)) | exact K_eq h (by omega)
theorem qtX7_isDigit (l : Launch) : am_CT l layX qeX7_isDigit := am_met0 rfl (by decide +kernel) rfl rfl rfl rfl rfl (fun _ => rfl) rfl (qzX7_isDigit l) (fun k e1 h => (qyX7_isDigit l k e1 h).2) (fun as F A K h => by
  replace h : qsX7_isDigit as F A K := h
  unfold qsX7_isDigit at h
  split at h
  · rename_i s
    refine ⟨by first | exact Nat.le_of_ble_eq_true rfl | simp [am_fl, am_cat], ?_⟩
    exact am_way_line (qvX7_isDigit s F A K h)
  · exact h.elim)
def qkX7_isBlank : Nat → Option CI := fun pc => cond (Nat.ble 18 pc) none (cond (Nat.ble 9 pc) (cond (Nat.ble 13 pc) (cond (Nat.beq pc 13) (some (.goto 4, 16, [17])) (cond (Nat.beq pc 16) (some (.iconst 0, 17, [])) (cond (Nat.beq pc 17) (some (.ireturn, 18, [])) (none)))) (cond (Nat.beq pc 9) (some (.if_icmp .ne 7, 12, [16])) (cond (Nat.beq pc 12) (some (.iconst 1, 13, [])) (none)))) (cond (Nat.ble 3 pc) (cond (Nat.beq pc 3) (some (.if_icmp .eq 9, 6, [12])) (cond (Nat.beq pc 6) (some (.iload_n 0, 7, [])) (cond (Nat.beq pc 7) (some (.bipush 10, 9, [])) (none)))) (cond (Nat.beq pc 0) (some (.iload_n 0, 1, [])) (cond (Nat.beq pc 1) (some (.bipush 32, 3, [])) (none)))))
theorem qkX7_isBlank_ok : ∀ pc i nx ts, qkX7_isBlank pc = some (i, nx, ts) → am_cok cX7_isBlank pc (i, nx, ts) = true := fun pc i nx ts h => am_tok_ok (n := 18) (by decide +kernel) (fun pc h => by show cond (Nat.ble 18 pc) _ _ = _; rw [Nat.ble_eq_true_of_le h]; rfl) h
def qaX7_isBlank : Nat → Option CE := fun k => none
theorem qyX7_isBlank (l : Launch) : ∀ k e1, qaX7_isBlank k = some e1 → am_cal l layX RX7 3 k e1 ∧ ceT e1 = 0 := q_nil
def qxX7_isBlank : CX := (qkX7_isBlank, layX, qfX7, qaX7_isBlank, qcX7, qlX7, qmX7, (some .boolean), false, none, 0, none, fun _ => none)
theorem qzX7_isBlank (l : Launch) : am_sta l qxX7_isBlank RX7 3 cX7_isBlank := ⟨qkX7_isBlank_ok, layX_ok, qfX7_ok, qcX7_ok, qlX7_ok, am_mthP qmX7_ok (by decide), fun k e1 h => (qyX7_isBlank l k e1 h).1⟩
def qsX7_isBlank : SP := fun as F A K => match as with
  | [.inl s] => K (some (some (vI (bi (blP (w32 s)))))) F A
  | _ => False
def qeX7_isBlank : CE := (yX7_isBlank, cX7_isBlank, 1, (some .boolean), 1, none, 0, none, 0, 3, qsX7_isBlank)
theorem qbX7_isBlank : am_mb qeX7_isBlank := ⟨am_tb_at 626 (by decide +kernel) rfl, am_tb_at 38 (by decide +kernel) rfl, ⟨by decide, by decide, by decide +kernel⟩, by decide, am_tb_at 625 (by decide +kernel) rfl⟩
set_option maxRecDepth 20000 in
theorem qvX7_isBlank (s : Int) (F : FF) (A : AA) (K : KK) (h : K (some (some (vI (bi (blP (w32 s)))))) F A) : am_line qxX7_isBlank 10 [vI s] 1 F A K := by
  show am_stp qxX7_isBlank (am_run qxX7_isBlank (fun _ => none) (fun _ _ _ _ _ _ => False) K 10) K 0 [some (vI s)] [] F A 0
  show (w32 s = w32 32 → ((1 = 0 ∨ 1 = 1) ∧ (K (some (some (vI 1))) F A))) ∧ (¬ w32 s = w32 32 → ((w32 s = w32 10 → ((1 = 0 ∨ 1 = 1) ∧ (K (some (some (vI 1))) F A))) ∧ (¬ w32 s = w32 10 → ((0 = 0 ∨ 0 = 1) ∧ (K (some (some (vI 0))) F A)))))
  refine ⟨fun c1 => ?_, fun c1 => ?_⟩
  · skip
    try simp (disch := omega) only [w32_0, w64_0, wbi0, wbi1, yc_eq0, yc_lt0, yc_gt0, Classical.not_not, w32_id, w64_id] at c1
    refine ⟨by first | exact Or.inl rfl | exact Or.inr rfl | exact bi_01 | omega, ?_⟩
    first | exact h | exact K_eq h (bi_t (by omega)) | exact K_eq h (bi_f (by omega)) | exact K_eq h (by omega)
  · skip
    try simp (disch := omega) only [w32_0, w64_0, wbi0, wbi1, yc_eq0, yc_lt0, yc_gt0, Classical.not_not, w32_id, w64_id] at c1
    refine ⟨fun c2 => ?_, fun c2 => ?_⟩
    · skip
      try simp (disch := omega) only [w32_0, w64_0, wbi0, wbi1, yc_eq0, yc_lt0, yc_gt0, Classical.not_not, w32_id, w64_id] at c2
      refine ⟨by first | exact Or.inl rfl | exact Or.inr rfl | exact bi_01 | omega, ?_⟩
      first | exact h | exact K_eq h (bi_t (by omega)) | exact K_eq h (bi_f (by omega)) | exact K_eq h (by omega)
    · skip
      try simp (disch := omega) only [w32_0, w64_0, wbi0, wbi1, yc_eq0, yc_lt0, yc_gt0, Classical.not_not, w32_id, w64_id] at c2
      refine ⟨by first | exact Or.inl rfl | exact Or.inr rfl | exact bi_01 | omega, ?_⟩
      first | exact h | exact K_eq h (bi_t (by omega)) | exact K_eq h (bi_f (by omega)) | exact K_eq h (by omega)
theorem qtX7_isBlank (l : Launch) : am_CT l layX qeX7_isBlank := am_met0 rfl (by decide +kernel) rfl rfl rfl rfl rfl (fun _ => rfl) rfl (qzX7_isBlank l) (fun k e1 h => (qyX7_isBlank l k e1 h).2) (fun as F A K h => by
  replace h : qsX7_isBlank as F A K := h
  unfold qsX7_isBlank at h
  split at h
  · rename_i s
    refine ⟨by first | exact Nat.le_of_ble_eq_true rfl | simp [am_fl, am_cat], ?_⟩
    exact am_way_line (qvX7_isBlank s F A K h)
  · exact h.elim)
def qkX7_takeWord : Nat → Option CI := fun pc => cond (Nat.ble 107 pc) none (cond (Nat.ble 59 pc) (cond (Nat.ble 76 pc) (cond (Nat.ble 92 pc) (cond (Nat.ble 99 pc) (cond (Nat.ble 103 pc) (cond (Nat.beq pc 103) (some (.putfield 69, 106, [])) (cond (Nat.beq pc 106) (some (.return_, 107, [])) (none))) (cond (Nat.beq pc 99) (some (.goto 4, 102, [103])) (cond (Nat.beq pc 102) (some (.iconst 0, 103, [])) (none)))) (cond (Nat.ble 95 pc) (cond (Nat.beq pc 95) (some (.if_icmp .gt 7, 98, [102])) (cond (Nat.beq pc 98) (some (.iload_n 1, 99, [])) (none))) (cond (Nat.beq pc 92) (some (.isub, 93, [])) (cond (Nat.beq pc 93) (some (.bipush 6, 95, [])) (none))))) (cond (Nat.ble 84 pc) (cond (Nat.ble 88 pc) (cond (Nat.beq pc 88) (some (.aload_n 0, 89, [])) (cond (Nat.beq pc 89) (some (.getfield 19, 92, [])) (none))) (cond (Nat.beq pc 84) (some (.aload_n 0, 85, [])) (cond (Nat.beq pc 85) (some (.getfield 25, 88, [])) (none)))) (cond (Nat.ble 80 pc) (cond (Nat.beq pc 80) (some (.goto (-73), 83, [7])) (cond (Nat.beq pc 83) (some (.aload_n 0, 84, [])) (none))) (cond (Nat.beq pc 76) (some (.iadd, 77, [])) (cond (Nat.beq pc 77) (some (.putfield 25, 80, [])) (none)))))) (cond (Nat.ble 66 pc) (cond (Nat.ble 70 pc) (cond (Nat.ble 72 pc) (cond (Nat.beq pc 72) (some (.getfield 25, 75, [])) (cond (Nat.beq pc 75) (some (.iconst 1, 76, [])) (none))) (cond (Nat.beq pc 70) (some (.aload_n 0, 71, [])) (cond (Nat.beq pc 71) (some (.dup, 72, [])) (none)))) (cond (Nat.ble 68 pc) (cond (Nat.beq pc 68) (some (.ior, 69, [])) (cond (Nat.beq pc 69) (some (.istore_n 1, 70, [])) (none))) (cond (Nat.beq pc 66) (some (.imul, 67, [])) (cond (Nat.beq pc 67) (some (.ishl, 68, [])) (none))))) (cond (Nat.ble 62 pc) (cond (Nat.ble 64 pc) (cond (Nat.beq pc 64) (some (.iload_n 2, 65, [])) (cond (Nat.beq pc 65) (some (.isub, 66, [])) (none))) (cond (Nat.beq pc 62) (some (.iconst 5, 63, [])) (cond (Nat.beq pc 63) (some (.iconst 5, 64, [])) (none)))) (cond (Nat.beq pc 59) (some (.isub, 60, [])) (cond (Nat.beq pc 60) (some (.iconst 1, 61, [])) (cond (Nat.beq pc 61) (some (.iadd, 62, [])) (none))))))) (cond (Nat.ble 29 pc) (cond (Nat.ble 43 pc) (cond (Nat.ble 50 pc) (cond (Nat.ble 54 pc) (cond (Nat.beq pc 54) (some (.invokevirtual 125, 57, [])) (cond (Nat.beq pc 57) (some (.bipush 97, 59, [])) (none))) (cond (Nat.beq pc 50) (some (.aload_n 0, 51, [])) (cond (Nat.beq pc 51) (some (.getfield 25, 54, [])) (none)))) (cond (Nat.ble 48 pc) (cond (Nat.beq pc 48) (some (.iload_n 1, 49, [])) (cond (Nat.beq pc 49) (some (.aload_n 0, 50, [])) (none))) (cond (Nat.beq pc 43) (some (.bipush 6, 45, [])) (cond (Nat.beq pc 45) (some (.if_icmp .ge 25, 48, [70])) (none))))) (cond (Nat.ble 37 pc) (cond (Nat.ble 41 pc) (cond (Nat.beq pc 41) (some (.istore_n 2, 42, [])) (cond (Nat.beq pc 42) (some (.iload_n 2, 43, [])) (none))) (cond (Nat.beq pc 37) (some (.getfield 19, 40, [])) (cond (Nat.beq pc 40) (some (.isub, 41, [])) (none)))) (cond (Nat.ble 33 pc) (cond (Nat.beq pc 33) (some (.getfield 25, 36, [])) (cond (Nat.beq pc 36) (some (.aload_n 0, 37, [])) (none))) (cond (Nat.beq pc 29) (some (.ifCond .eq 54, 32, [83])) (cond (Nat.beq pc 32) (some (.aload_n 0, 33, [])) (none)))))) (cond (Nat.ble 11 pc) (cond (Nat.ble 19 pc) (cond (Nat.ble 23 pc) (cond (Nat.beq pc 23) (some (.invokevirtual 125, 26, [])) (cond (Nat.beq pc 26) (some (.invokestatic 131, 29, [])) (none))) (cond (Nat.beq pc 19) (some (.aload_n 0, 20, [])) (cond (Nat.beq pc 20) (some (.getfield 25, 23, [])) (none)))) (cond (Nat.ble 15 pc) (cond (Nat.beq pc 15) (some (.if_icmp .ge 68, 18, [83])) (cond (Nat.beq pc 18) (some (.aload_n 0, 19, [])) (none))) (cond (Nat.beq pc 11) (some (.aload_n 0, 12, [])) (cond (Nat.beq pc 12) (some (.getfield 22, 15, [])) (none))))) (cond (Nat.ble 5 pc) (cond (Nat.ble 7 pc) (cond (Nat.beq pc 7) (some (.aload_n 0, 8, [])) (cond (Nat.beq pc 8) (some (.getfield 25, 11, [])) (none))) (cond (Nat.beq pc 5) (some (.iconst 0, 6, [])) (cond (Nat.beq pc 6) (some (.istore_n 1, 7, [])) (none)))) (cond (Nat.beq pc 0) (some (.aload_n 0, 1, [])) (cond (Nat.beq pc 1) (some (.iconst 0, 2, [])) (cond (Nat.beq pc 2) (some (.putfield 39, 5, [])) (none))))))))
theorem qkX7_takeWord_ok : ∀ pc i nx ts, qkX7_takeWord pc = some (i, nx, ts) → am_cok cX7_takeWord pc (i, nx, ts) = true := fun pc i nx ts h => am_tok_ok (n := 107) (by decide +kernel) (fun pc h => by show cond (Nat.ble 107 pc) _ _ = _; rw [Nat.ble_eq_true_of_le h]; rfl) h
def qaX7_takeWord : Nat → Option CE := fun k => cond (Nat.beq k 125) (some qeX7_signAt) (cond (Nat.beq k 131) (some qeX7_isLetter) (none))
theorem qyX7_takeWord (l : Launch) : ∀ k e1, qaX7_takeWord k = some e1 → am_cal l layX RX7 4 k e1 ∧ ceT e1 = 0 := q_cons ⟨am_calV (ci := 7) (qtX7_signAt l) qbX7_signAt (by decide) rfl (am_tb_at 620 (by decide +kernel) rfl), rfl⟩ (q_cons ⟨am_calS (qtX7_isLetter l) qbX7_isLetter (by decide) rfl (by decide) (am_tb_at 627 (by decide +kernel) rfl), rfl⟩ (q_nil))
def qxX7_takeWord : CX := (qkX7_takeWord, layX, qfX7, qaX7_takeWord, qcX7, qlX7, qmX7, none, false, none, 0, none, fun _ => none)
theorem qzX7_takeWord (l : Launch) : am_sta l qxX7_takeWord RX7 4 cX7_takeWord := ⟨qkX7_takeWord_ok, layX_ok, qfX7_ok, qcX7_ok, qlX7_ok, am_mthP qmX7_ok (by decide), fun k e1 h => (qyX7_takeWord l k e1 h).1⟩
def qsX7_takeWord : SP := fun as F A K => match as with
  | [.inr (.inr o)] => cond (Nat.beq o 7) (((0 ≤ (F 7 2) ∧ (F 7 2) ≤ 800) ∧ (0 ≤ (F 7 3) ∧ (F 7 3) ≤ (F 7 2)) ∧ (F 7 4) = (F 7 3)) ∧ (∀ (G_1 : FF), ((∀ a b, a ≠ 7 ∨ (b ≠ 4 ∧ b ≠ 5 ∧ b ≠ 6) → G_1 a b = F a b) ∧ G_1 7 4 = runL (A 8) ((F 7 2)) (Int.toNat ((F 7 2) - (F 7 3))) ((F 7 3)) ∧ G_1 7 5 = 0 ∧ G_1 7 6 = (if runL (A 8) ((F 7 2)) (Int.toNat ((F 7 2) - (F 7 3))) ((F 7 3)) - (F 7 3) ≤ 6 then ltF (A 8) ((F 7 2)) ((F 7 3)) (Int.toNat (runL (A 8) ((F 7 2)) (Int.toNat ((F 7 2) - (F 7 3))) ((F 7 3)) - (F 7 3))) else 0)) → (K (some none) G_1 A))) (False)
  | _ => False
def qeX7_takeWord : CE := (yX7_takeWord, cX7_takeWord, 3, none, 0, some 7, 0, none, 0, 4, qsX7_takeWord)
theorem qbX7_takeWord : am_mb qeX7_takeWord := ⟨am_tb_at 633 (by decide +kernel) rfl, am_tb_at 38 (by decide +kernel) rfl, ⟨by decide, by decide, by decide +kernel⟩, by decide, am_tb_at 632 (by decide +kernel) rfl, am_tb_at 3 (by decide +kernel) rfl, _, _, rfl⟩
def qnX7_takeWord_7 : CUT := fun pc => cond (Nat.beq pc 7) (some [true, true, false]) (none)
def qiX7_takeWord_7  (F0 : FF) (A0 : AA) : REC := fun pc ls st F A u => cond (Nat.beq pc 7) (match ls, st, u with
    | [some (.inr (.inr s0)), some (.inl v), none], [], 0 => s0 = 7 ∧ A = A0 ∧ ((∀ a b, a ≠ 7 ∨ (b ≠ 4 ∧ b ≠ 5 ∧ b ≠ 6) → F a b = F0 a b) ∧ F 7 5 = 0 ∧ (F0 7 3 ≤ F 7 4 ∧ F 7 4 ≤ F0 7 2) ∧ v = ltF (A0 8) (F0 7 2) (F0 7 3) (Int.toNat (F 7 4 - F0 7 3)) ∧ runL (A0 8) (F0 7 2) (Int.toNat (F0 7 2 - F 7 4)) (F 7 4) = runL (A0 8) (F0 7 2) (Int.toNat (F0 7 2 - F0 7 3)) (F0 7 3))
    | _, _, _ => False) (False)
def quX7_takeWord_7 : Nat → LVs → List AV → FF → AA → Nat := fun pc ls _ F A => cond (Nat.beq pc 7) (match ls with
    | [some (.inr (.inr s0)), some (.inl v), none] => Int.toNat (F 7 2 - F 7 4 + 1)
    | _ => 0) (0)
set_option maxRecDepth 20000 in
theorem qvX7_takeWord_7_0  (F0 : FF) (A0 : AA) (K : KK) (h : ((0 ≤ (F0 7 2) ∧ (F0 7 2) ≤ 800) ∧ (0 ≤ (F0 7 3) ∧ (F0 7 3) ≤ (F0 7 2)) ∧ (F0 7 4) = (F0 7 3)) ∧ (∀ (G_1 : FF), ((∀ a b, a ≠ 7 ∨ (b ≠ 4 ∧ b ≠ 5 ∧ b ≠ 6) → G_1 a b = F0 a b) ∧ G_1 7 4 = runL (A0 8) ((F0 7 2)) (Int.toNat ((F0 7 2) - (F0 7 3))) ((F0 7 3)) ∧ G_1 7 5 = 0 ∧ G_1 7 6 = (if runL (A0 8) ((F0 7 2)) (Int.toNat ((F0 7 2) - (F0 7 3))) ((F0 7 3)) - (F0 7 3) ≤ 6 then ltF (A0 8) ((F0 7 2)) ((F0 7 3)) (Int.toNat (runL (A0 8) ((F0 7 2)) (Int.toNat ((F0 7 2) - (F0 7 3))) ((F0 7 3)) - (F0 7 3))) else 0)) → (K (some none) G_1 A0))) : am_stp qxX7_takeWord (am_run qxX7_takeWord qnX7_takeWord_7 (qiX7_takeWord_7  F0 A0) K 47) K 0 (am_ent [vR 7] 3) [] F0 A0 0 := by
  show am_stp qxX7_takeWord (am_run qxX7_takeWord qnX7_takeWord_7 (qiX7_takeWord_7  F0 A0) K 47) K 0 [some (vR 7), none, none] [] F0 A0 0
  obtain ⟨hp, h⟩ := h
  obtain ⟨p1, p2', p3⟩ := hp
  show 7 = 7 ∧ A0 = A0 ∧ ((∀ a b, a ≠ 7 ∨ (b ≠ 4 ∧ b ≠ 5 ∧ b ≠ 6) → (upF F0 7 5 0) a b = F0 a b) ∧ (upF F0 7 5 0) 7 5 = 0 ∧ (F0 7 3 ≤ (upF F0 7 5 0) 7 4 ∧ (upF F0 7 5 0) 7 4 ≤ F0 7 2) ∧ 0 = ltF (A0 8) (F0 7 2) (F0 7 3) (Int.toNat ((upF F0 7 5 0) 7 4 - F0 7 3)) ∧ runL (A0 8) (F0 7 2) (Int.toNat (F0 7 2 - (upF F0 7 5 0) 7 4)) ((upF F0 7 5 0) 7 4) = runL (A0 8) (F0 7 2) (Int.toNat (F0 7 2 - F0 7 3)) (F0 7 3))
  refine ⟨rfl, rfl, ?_⟩
  simp only [upF_s, upF_o (show (7 : Nat) ≠ 7 ∨ (1 : Nat) ≠ 5 by decide), upF_o (show (7 : Nat) ≠ 7 ∨ (2 : Nat) ≠ 5 by decide), upF_o (show (7 : Nat) ≠ 7 ∨ (3 : Nat) ≠ 5 by decide), upF_o (show (7 : Nat) ≠ 7 ∨ (4 : Nat) ≠ 5 by decide), upF_o (show (7 : Nat) ≠ 7 ∨ (6 : Nat) ≠ 5 by decide), upF_o (show (7 : Nat) ≠ 7 ∨ (7 : Nat) ≠ 5 by decide)]
  refine ⟨fun a b hab => upF_o (by omega), trivial, by omega, ?_, by rw [p3]⟩
  rw [show F0 7 4 - F0 7 3 = 0 by omega]; rfl
set_option maxRecDepth 20000 in
theorem qvX7_takeWord_7_7  (F0 : FF) (A0 : AA) (K : KK) (h : ((0 ≤ (F0 7 2) ∧ (F0 7 2) ≤ 800) ∧ (0 ≤ (F0 7 3) ∧ (F0 7 3) ≤ (F0 7 2)) ∧ (F0 7 4) = (F0 7 3)) ∧ (∀ (G_1 : FF), ((∀ a b, a ≠ 7 ∨ (b ≠ 4 ∧ b ≠ 5 ∧ b ≠ 6) → G_1 a b = F0 a b) ∧ G_1 7 4 = runL (A0 8) ((F0 7 2)) (Int.toNat ((F0 7 2) - (F0 7 3))) ((F0 7 3)) ∧ G_1 7 5 = 0 ∧ G_1 7 6 = (if runL (A0 8) ((F0 7 2)) (Int.toNat ((F0 7 2) - (F0 7 3))) ((F0 7 3)) - (F0 7 3) ≤ 6 then ltF (A0 8) ((F0 7 2)) ((F0 7 3)) (Int.toNat (runL (A0 8) ((F0 7 2)) (Int.toNat ((F0 7 2) - (F0 7 3))) ((F0 7 3)) - (F0 7 3))) else 0)) → (K (some none) G_1 A0))) (v : Int) (F : FF) (hi : (∀ a b, a ≠ 7 ∨ (b ≠ 4 ∧ b ≠ 5 ∧ b ≠ 6) → F a b = F0 a b) ∧ F 7 5 = 0 ∧ (F0 7 3 ≤ F 7 4 ∧ F 7 4 ≤ F0 7 2) ∧ v = ltF (A0 8) (F0 7 2) (F0 7 3) (Int.toNat (F 7 4 - F0 7 3)) ∧ runL (A0 8) (F0 7 2) (Int.toNat (F0 7 2 - F 7 4)) (F 7 4) = runL (A0 8) (F0 7 2) (Int.toNat (F0 7 2 - F0 7 3)) (F0 7 3)) : am_stp qxX7_takeWord (am_run qxX7_takeWord qnX7_takeWord_7 (fun pc ls st F9 A9 u => qiX7_takeWord_7  F0 A0 pc ls st F9 A9 u ∧ quX7_takeWord_7 pc ls st F9 A9 < quX7_takeWord_7 7 [some (vR 7), some (vI v), none] [] F A0) K 47) K 7 [some (vR 7), some (vI v), none] [] F A0 0 := by
  obtain ⟨hp, h⟩ := h
  obtain ⟨p1, p2', p3⟩ := hp
  obtain ⟨hF, h5, h1, h2, h3⟩ := hi
  have f2 : F 7 2 = F0 7 2 := hF 7 2 (by decide)
  have f3 : F 7 3 = F0 7 3 := hF 7 3 (by decide)
  have sb := sgT_b (A0 8) (F0 7 2) (F 7 4)
  have ls := ltF_s (T := A0 8) (n := F0 7 2) (s := F0 7 3) (k := F 7 4 - F0 7 3) (by omega)
  rw [show F0 7 3 + (F 7 4 - F0 7 3) = F 7 4 by omega] at ls
  show (w32 (F 7 4) < w32 (F 7 2) → (((0 ≤ (F 7 2) ∧ (F 7 2) ≤ 800) ∧ (-2147483648 ≤ (F 7 4) ∧ (F 7 4) < 2147483648)) ∧ ((w32 (bi (ltP (w32 (sgT (A0 8) ((F 7 2)) (F 7 4))))) = w32 0 → ((w32 6 < w32 ((F 7 4) - (F 7 3)) → (K (some none) (upF F 7 6 0) A0)) ∧ (¬ w32 6 < w32 ((F 7 4) - (F 7 3)) → (K (some none) (upF F 7 6 v) A0)))) ∧ (¬ w32 (bi (ltP (w32 (sgT (A0 8) ((F 7 2)) (F 7 4))))) = w32 0 → ((w32 ((F 7 4) - (F 7 3)) < w32 6 → (((0 ≤ (F 7 2) ∧ (F 7 2) ≤ 800) ∧ (-2147483648 ≤ (F 7 4) ∧ (F 7 4) < 2147483648)) ∧ ((7 = 7 ∧ A0 = A0 ∧ ((∀ a b, a ≠ 7 ∨ (b ≠ 4 ∧ b ≠ 5 ∧ b ≠ 6) → (upF F 7 4 ((F 7 4) + 1)) a b = F0 a b) ∧ (upF F 7 4 ((F 7 4) + 1)) 7 5 = 0 ∧ (F0 7 3 ≤ (upF F 7 4 ((F 7 4) + 1)) 7 4 ∧ (upF F 7 4 ((F 7 4) + 1)) 7 4 ≤ F0 7 2) ∧ (x_or v (x_shl (((sgT (A0 8) ((F 7 2)) (F 7 4)) - 97) + 1) (5 * (5 - ((F 7 4) - (F 7 3)))))) = ltF (A0 8) (F0 7 2) (F0 7 3) (Int.toNat ((upF F 7 4 ((F 7 4) + 1)) 7 4 - F0 7 3)) ∧ runL (A0 8) (F0 7 2) (Int.toNat (F0 7 2 - (upF F 7 4 ((F 7 4) + 1)) 7 4)) ((upF F 7 4 ((F 7 4) + 1)) 7 4) = runL (A0 8) (F0 7 2) (Int.toNat (F0 7 2 - F0 7 3)) (F0 7 3))) ∧ (Int.toNat ((upF F 7 4 ((F 7 4) + 1)) 7 2 - (upF F 7 4 ((F 7 4) + 1)) 7 4 + 1)) < (Int.toNat (F 7 2 - F 7 4 + 1))))) ∧ (¬ w32 ((F 7 4) - (F 7 3)) < w32 6 → ((7 = 7 ∧ A0 = A0 ∧ ((∀ a b, a ≠ 7 ∨ (b ≠ 4 ∧ b ≠ 5 ∧ b ≠ 6) → (upF F 7 4 ((F 7 4) + 1)) a b = F0 a b) ∧ (upF F 7 4 ((F 7 4) + 1)) 7 5 = 0 ∧ (F0 7 3 ≤ (upF F 7 4 ((F 7 4) + 1)) 7 4 ∧ (upF F 7 4 ((F 7 4) + 1)) 7 4 ≤ F0 7 2) ∧ v = ltF (A0 8) (F0 7 2) (F0 7 3) (Int.toNat ((upF F 7 4 ((F 7 4) + 1)) 7 4 - F0 7 3)) ∧ runL (A0 8) (F0 7 2) (Int.toNat (F0 7 2 - (upF F 7 4 ((F 7 4) + 1)) 7 4)) ((upF F 7 4 ((F 7 4) + 1)) 7 4) = runL (A0 8) (F0 7 2) (Int.toNat (F0 7 2 - F0 7 3)) (F0 7 3))) ∧ (Int.toNat ((upF F 7 4 ((F 7 4) + 1)) 7 2 - (upF F 7 4 ((F 7 4) + 1)) 7 4 + 1)) < (Int.toNat (F 7 2 - F 7 4 + 1))))))))) ∧ (¬ w32 (F 7 4) < w32 (F 7 2) → ((w32 6 < w32 ((F 7 4) - (F 7 3)) → (K (some none) (upF F 7 6 0) A0)) ∧ (¬ w32 6 < w32 ((F 7 4) - (F 7 3)) → (K (some none) (upF F 7 6 v) A0))))
  refine ⟨fun c1 => ?_, fun c1 => ?_⟩
  · skip
    (try simp only [f2, f3] at c1); (try simp (disch := omega) only [w32_0, wbi0, Classical.not_not, w32_id] at c1); (try (rw [w32_id (x := sgT (A0 8) (F0 7 2) (F 7 4)) (by omega) (by omega)] at c1))
    refine ⟨by first | omega | (simp only [f2]; omega), ?_⟩
    refine ⟨fun c2 => ?_, fun c2 => ?_⟩
    · skip
      (try simp only [f2, f3] at c2); (try simp (disch := omega) only [w32_0, wbi0, Classical.not_not, w32_id] at c2); (try (rw [w32_id (x := sgT (A0 8) (F0 7 2) (F 7 4)) (by omega) (by omega)] at c2))
      refine ⟨fun c3 => ?_, fun c3 => ?_⟩
      · skip
        (try simp only [f2, f3] at c3); (try simp (disch := omega) only [w32_0, wbi0, Classical.not_not, w32_id] at c3); (try (rw [w32_id (x := sgT (A0 8) (F0 7 2) (F 7 4)) (by omega) (by omega)] at c3))
        have e4 : F 7 4 = runL (A0 8) (F0 7 2) (Int.toNat (F0 7 2 - F0 7 3)) (F0 7 3) := by
          rw [← h3]
          first
          | exact (runL_0 (by omega)).symm
          | (have rs := runL_s (T := A0 8) (n := F0 7 2) (p := F 7 4) (by omega)
             rw [if_neg c2] at rs
             exact rs.symm)
        refine h _ ⟨fun a b hab => by rw [upF_o (by omega)]; exact hF a b hab, ?_, ?_, ?_⟩
        · simp only [upF_s, upF_o (show (7 : Nat) ≠ 7 ∨ (1 : Nat) ≠ 6 by decide), upF_o (show (7 : Nat) ≠ 7 ∨ (2 : Nat) ≠ 6 by decide), upF_o (show (7 : Nat) ≠ 7 ∨ (3 : Nat) ≠ 6 by decide), upF_o (show (7 : Nat) ≠ 7 ∨ (4 : Nat) ≠ 6 by decide), upF_o (show (7 : Nat) ≠ 7 ∨ (5 : Nat) ≠ 6 by decide), upF_o (show (7 : Nat) ≠ 7 ∨ (7 : Nat) ≠ 6 by decide)]; exact e4
        · simp only [upF_s, upF_o (show (7 : Nat) ≠ 7 ∨ (1 : Nat) ≠ 6 by decide), upF_o (show (7 : Nat) ≠ 7 ∨ (2 : Nat) ≠ 6 by decide), upF_o (show (7 : Nat) ≠ 7 ∨ (3 : Nat) ≠ 6 by decide), upF_o (show (7 : Nat) ≠ 7 ∨ (4 : Nat) ≠ 6 by decide), upF_o (show (7 : Nat) ≠ 7 ∨ (5 : Nat) ≠ 6 by decide), upF_o (show (7 : Nat) ≠ 7 ∨ (7 : Nat) ≠ 6 by decide)]; exact h5
        · simp only [upF_s, upF_o (show (7 : Nat) ≠ 7 ∨ (1 : Nat) ≠ 6 by decide), upF_o (show (7 : Nat) ≠ 7 ∨ (2 : Nat) ≠ 6 by decide), upF_o (show (7 : Nat) ≠ 7 ∨ (3 : Nat) ≠ 6 by decide), upF_o (show (7 : Nat) ≠ 7 ∨ (4 : Nat) ≠ 6 by decide), upF_o (show (7 : Nat) ≠ 7 ∨ (5 : Nat) ≠ 6 by decide), upF_o (show (7 : Nat) ≠ 7 ∨ (7 : Nat) ≠ 6 by decide)]; rw [← e4]; first | (rw [if_pos (by omega)]; exact h2) | (rw [if_neg (by omega)])
      · skip
        (try simp only [f2, f3] at c3); (try simp (disch := omega) only [w32_0, wbi0, Classical.not_not, w32_id] at c3); (try (rw [w32_id (x := sgT (A0 8) (F0 7 2) (F 7 4)) (by omega) (by omega)] at c3))
        have e4 : F 7 4 = runL (A0 8) (F0 7 2) (Int.toNat (F0 7 2 - F0 7 3)) (F0 7 3) := by
          rw [← h3]
          first
          | exact (runL_0 (by omega)).symm
          | (have rs := runL_s (T := A0 8) (n := F0 7 2) (p := F 7 4) (by omega)
             rw [if_neg c2] at rs
             exact rs.symm)
        refine h _ ⟨fun a b hab => by rw [upF_o (by omega)]; exact hF a b hab, ?_, ?_, ?_⟩
        · simp only [upF_s, upF_o (show (7 : Nat) ≠ 7 ∨ (1 : Nat) ≠ 6 by decide), upF_o (show (7 : Nat) ≠ 7 ∨ (2 : Nat) ≠ 6 by decide), upF_o (show (7 : Nat) ≠ 7 ∨ (3 : Nat) ≠ 6 by decide), upF_o (show (7 : Nat) ≠ 7 ∨ (4 : Nat) ≠ 6 by decide), upF_o (show (7 : Nat) ≠ 7 ∨ (5 : Nat) ≠ 6 by decide), upF_o (show (7 : Nat) ≠ 7 ∨ (7 : Nat) ≠ 6 by decide)]; exact e4
        · simp only [upF_s, upF_o (show (7 : Nat) ≠ 7 ∨ (1 : Nat) ≠ 6 by decide), upF_o (show (7 : Nat) ≠ 7 ∨ (2 : Nat) ≠ 6 by decide), upF_o (show (7 : Nat) ≠ 7 ∨ (3 : Nat) ≠ 6 by decide), upF_o (show (7 : Nat) ≠ 7 ∨ (4 : Nat) ≠ 6 by decide), upF_o (show (7 : Nat) ≠ 7 ∨ (5 : Nat) ≠ 6 by decide), upF_o (show (7 : Nat) ≠ 7 ∨ (7 : Nat) ≠ 6 by decide)]; exact h5
        · simp only [upF_s, upF_o (show (7 : Nat) ≠ 7 ∨ (1 : Nat) ≠ 6 by decide), upF_o (show (7 : Nat) ≠ 7 ∨ (2 : Nat) ≠ 6 by decide), upF_o (show (7 : Nat) ≠ 7 ∨ (3 : Nat) ≠ 6 by decide), upF_o (show (7 : Nat) ≠ 7 ∨ (4 : Nat) ≠ 6 by decide), upF_o (show (7 : Nat) ≠ 7 ∨ (5 : Nat) ≠ 6 by decide), upF_o (show (7 : Nat) ≠ 7 ∨ (7 : Nat) ≠ 6 by decide)]; rw [← e4]; first | (rw [if_pos (by omega)]; exact h2) | (rw [if_neg (by omega)])
    · skip
      (try simp only [f2, f3] at c2); (try simp (disch := omega) only [w32_0, wbi0, Classical.not_not, w32_id] at c2); (try (rw [w32_id (x := sgT (A0 8) (F0 7 2) (F 7 4)) (by omega) (by omega)] at c2))
      refine ⟨fun c3 => ?_, fun c3 => ?_⟩
      · skip
        (try simp only [f2, f3] at c3); (try simp (disch := omega) only [w32_0, wbi0, Classical.not_not, w32_id] at c3); (try (rw [w32_id (x := sgT (A0 8) (F0 7 2) (F 7 4)) (by omega) (by omega)] at c3))
        refine ⟨by first | omega | (simp only [f2]; omega), ?_⟩
        refine ⟨⟨rfl, rfl, ?_⟩, by (simp only [upF_s, upF_o (show (7 : Nat) ≠ 7 ∨ (1 : Nat) ≠ 4 by decide), upF_o (show (7 : Nat) ≠ 7 ∨ (1 : Nat) ≠ 6 by decide), upF_o (show (7 : Nat) ≠ 7 ∨ (2 : Nat) ≠ 4 by decide), upF_o (show (7 : Nat) ≠ 7 ∨ (2 : Nat) ≠ 6 by decide), upF_o (show (7 : Nat) ≠ 7 ∨ (3 : Nat) ≠ 4 by decide), upF_o (show (7 : Nat) ≠ 7 ∨ (3 : Nat) ≠ 6 by decide), upF_o (show (7 : Nat) ≠ 7 ∨ (4 : Nat) ≠ 6 by decide), upF_o (show (7 : Nat) ≠ 7 ∨ (5 : Nat) ≠ 4 by decide), upF_o (show (7 : Nat) ≠ 7 ∨ (5 : Nat) ≠ 6 by decide), upF_o (show (7 : Nat) ≠ 7 ∨ (6 : Nat) ≠ 4 by decide), upF_o (show (7 : Nat) ≠ 7 ∨ (7 : Nat) ≠ 4 by decide), upF_o (show (7 : Nat) ≠ 7 ∨ (7 : Nat) ≠ 6 by decide)]; omega)⟩
        have rs := runL_s (T := A0 8) (n := F0 7 2) (p := F 7 4) (by omega)
        rw [if_pos c2] at rs
        rw [if_pos (by omega)] at ls
        simp only [upF_s, upF_o (show (7 : Nat) ≠ 7 ∨ (1 : Nat) ≠ 4 by decide), upF_o (show (7 : Nat) ≠ 7 ∨ (2 : Nat) ≠ 4 by decide), upF_o (show (7 : Nat) ≠ 7 ∨ (3 : Nat) ≠ 4 by decide), upF_o (show (7 : Nat) ≠ 7 ∨ (5 : Nat) ≠ 4 by decide), upF_o (show (7 : Nat) ≠ 7 ∨ (6 : Nat) ≠ 4 by decide), upF_o (show (7 : Nat) ≠ 7 ∨ (7 : Nat) ≠ 4 by decide), f2, f3]
        refine ⟨fun a b hab => by rw [upF_o (by omega)]; exact hF a b hab, h5, by omega, ?_, ?_⟩
        · rw [show F 7 4 + 1 - F0 7 3 = F 7 4 - F0 7 3 + 1 by omega, ls, h2]
        · rw [← h3, rs]
      · skip
        (try simp only [f2, f3] at c3); (try simp (disch := omega) only [w32_0, wbi0, Classical.not_not, w32_id] at c3); (try (rw [w32_id (x := sgT (A0 8) (F0 7 2) (F 7 4)) (by omega) (by omega)] at c3))
        refine ⟨⟨rfl, rfl, ?_⟩, by (simp only [upF_s, upF_o (show (7 : Nat) ≠ 7 ∨ (1 : Nat) ≠ 4 by decide), upF_o (show (7 : Nat) ≠ 7 ∨ (1 : Nat) ≠ 6 by decide), upF_o (show (7 : Nat) ≠ 7 ∨ (2 : Nat) ≠ 4 by decide), upF_o (show (7 : Nat) ≠ 7 ∨ (2 : Nat) ≠ 6 by decide), upF_o (show (7 : Nat) ≠ 7 ∨ (3 : Nat) ≠ 4 by decide), upF_o (show (7 : Nat) ≠ 7 ∨ (3 : Nat) ≠ 6 by decide), upF_o (show (7 : Nat) ≠ 7 ∨ (4 : Nat) ≠ 6 by decide), upF_o (show (7 : Nat) ≠ 7 ∨ (5 : Nat) ≠ 4 by decide), upF_o (show (7 : Nat) ≠ 7 ∨ (5 : Nat) ≠ 6 by decide), upF_o (show (7 : Nat) ≠ 7 ∨ (6 : Nat) ≠ 4 by decide), upF_o (show (7 : Nat) ≠ 7 ∨ (7 : Nat) ≠ 4 by decide), upF_o (show (7 : Nat) ≠ 7 ∨ (7 : Nat) ≠ 6 by decide)]; omega)⟩
        have rs := runL_s (T := A0 8) (n := F0 7 2) (p := F 7 4) (by omega)
        rw [if_pos c2] at rs
        rw [if_neg (by omega)] at ls
        simp only [upF_s, upF_o (show (7 : Nat) ≠ 7 ∨ (1 : Nat) ≠ 4 by decide), upF_o (show (7 : Nat) ≠ 7 ∨ (2 : Nat) ≠ 4 by decide), upF_o (show (7 : Nat) ≠ 7 ∨ (3 : Nat) ≠ 4 by decide), upF_o (show (7 : Nat) ≠ 7 ∨ (5 : Nat) ≠ 4 by decide), upF_o (show (7 : Nat) ≠ 7 ∨ (6 : Nat) ≠ 4 by decide), upF_o (show (7 : Nat) ≠ 7 ∨ (7 : Nat) ≠ 4 by decide), f2, f3]
        refine ⟨fun a b hab => by rw [upF_o (by omega)]; exact hF a b hab, h5, by omega, ?_, ?_⟩
        · rw [show F 7 4 + 1 - F0 7 3 = F 7 4 - F0 7 3 + 1 by omega, ls, h2]
        · rw [← h3, rs]
  · skip
    (try simp only [f2, f3] at c1); (try simp (disch := omega) only [w32_0, wbi0, Classical.not_not, w32_id] at c1); (try (rw [w32_id (x := sgT (A0 8) (F0 7 2) (F 7 4)) (by omega) (by omega)] at c1))
    refine ⟨fun c2 => ?_, fun c2 => ?_⟩
    · skip
      (try simp only [f2, f3] at c2); (try simp (disch := omega) only [w32_0, wbi0, Classical.not_not, w32_id] at c2); (try (rw [w32_id (x := sgT (A0 8) (F0 7 2) (F 7 4)) (by omega) (by omega)] at c2))
      have e4 : F 7 4 = runL (A0 8) (F0 7 2) (Int.toNat (F0 7 2 - F0 7 3)) (F0 7 3) := by
        rw [← h3]
        first
        | exact (runL_0 (by omega)).symm
        | (have rs := runL_s (T := A0 8) (n := F0 7 2) (p := F 7 4) (by omega)
           rw [if_neg c2] at rs
           exact rs.symm)
      refine h _ ⟨fun a b hab => by rw [upF_o (by omega)]; exact hF a b hab, ?_, ?_, ?_⟩
      · simp only [upF_s, upF_o (show (7 : Nat) ≠ 7 ∨ (1 : Nat) ≠ 6 by decide), upF_o (show (7 : Nat) ≠ 7 ∨ (2 : Nat) ≠ 6 by decide), upF_o (show (7 : Nat) ≠ 7 ∨ (3 : Nat) ≠ 6 by decide), upF_o (show (7 : Nat) ≠ 7 ∨ (4 : Nat) ≠ 6 by decide), upF_o (show (7 : Nat) ≠ 7 ∨ (5 : Nat) ≠ 6 by decide), upF_o (show (7 : Nat) ≠ 7 ∨ (7 : Nat) ≠ 6 by decide)]; exact e4
      · simp only [upF_s, upF_o (show (7 : Nat) ≠ 7 ∨ (1 : Nat) ≠ 6 by decide), upF_o (show (7 : Nat) ≠ 7 ∨ (2 : Nat) ≠ 6 by decide), upF_o (show (7 : Nat) ≠ 7 ∨ (3 : Nat) ≠ 6 by decide), upF_o (show (7 : Nat) ≠ 7 ∨ (4 : Nat) ≠ 6 by decide), upF_o (show (7 : Nat) ≠ 7 ∨ (5 : Nat) ≠ 6 by decide), upF_o (show (7 : Nat) ≠ 7 ∨ (7 : Nat) ≠ 6 by decide)]; exact h5
      · simp only [upF_s, upF_o (show (7 : Nat) ≠ 7 ∨ (1 : Nat) ≠ 6 by decide), upF_o (show (7 : Nat) ≠ 7 ∨ (2 : Nat) ≠ 6 by decide), upF_o (show (7 : Nat) ≠ 7 ∨ (3 : Nat) ≠ 6 by decide), upF_o (show (7 : Nat) ≠ 7 ∨ (4 : Nat) ≠ 6 by decide), upF_o (show (7 : Nat) ≠ 7 ∨ (5 : Nat) ≠ 6 by decide), upF_o (show (7 : Nat) ≠ 7 ∨ (7 : Nat) ≠ 6 by decide)]; rw [← e4]; first | (rw [if_pos (by omega)]; exact h2) | (rw [if_neg (by omega)])
    · skip
      (try simp only [f2, f3] at c2); (try simp (disch := omega) only [w32_0, wbi0, Classical.not_not, w32_id] at c2); (try (rw [w32_id (x := sgT (A0 8) (F0 7 2) (F 7 4)) (by omega) (by omega)] at c2))
      have e4 : F 7 4 = runL (A0 8) (F0 7 2) (Int.toNat (F0 7 2 - F0 7 3)) (F0 7 3) := by
        rw [← h3]
        first
        | exact (runL_0 (by omega)).symm
        | (have rs := runL_s (T := A0 8) (n := F0 7 2) (p := F 7 4) (by omega)
           rw [if_neg c2] at rs
           exact rs.symm)
      refine h _ ⟨fun a b hab => by rw [upF_o (by omega)]; exact hF a b hab, ?_, ?_, ?_⟩
      · simp only [upF_s, upF_o (show (7 : Nat) ≠ 7 ∨ (1 : Nat) ≠ 6 by decide), upF_o (show (7 : Nat) ≠ 7 ∨ (2 : Nat) ≠ 6 by decide), upF_o (show (7 : Nat) ≠ 7 ∨ (3 : Nat) ≠ 6 by decide), upF_o (show (7 : Nat) ≠ 7 ∨ (4 : Nat) ≠ 6 by decide), upF_o (show (7 : Nat) ≠ 7 ∨ (5 : Nat) ≠ 6 by decide), upF_o (show (7 : Nat) ≠ 7 ∨ (7 : Nat) ≠ 6 by decide)]; exact e4
      · simp only [upF_s, upF_o (show (7 : Nat) ≠ 7 ∨ (1 : Nat) ≠ 6 by decide), upF_o (show (7 : Nat) ≠ 7 ∨ (2 : Nat) ≠ 6 by decide), upF_o (show (7 : Nat) ≠ 7 ∨ (3 : Nat) ≠ 6 by decide), upF_o (show (7 : Nat) ≠ 7 ∨ (4 : Nat) ≠ 6 by decide), upF_o (show (7 : Nat) ≠ 7 ∨ (5 : Nat) ≠ 6 by decide), upF_o (show (7 : Nat) ≠ 7 ∨ (7 : Nat) ≠ 6 by decide)]; exact h5
      · simp only [upF_s, upF_o (show (7 : Nat) ≠ 7 ∨ (1 : Nat) ≠ 6 by decide), upF_o (show (7 : Nat) ≠ 7 ∨ (2 : Nat) ≠ 6 by decide), upF_o (show (7 : Nat) ≠ 7 ∨ (3 : Nat) ≠ 6 by decide), upF_o (show (7 : Nat) ≠ 7 ∨ (4 : Nat) ≠ 6 by decide), upF_o (show (7 : Nat) ≠ 7 ∨ (5 : Nat) ≠ 6 by decide), upF_o (show (7 : Nat) ≠ 7 ∨ (7 : Nat) ≠ 6 by decide)]; rw [← e4]; first | (rw [if_pos (by omega)]; exact h2) | (rw [if_neg (by omega)])
set_option maxRecDepth 20000 in
theorem qvX7_takeWord_7  (F0 : FF) (A0 : AA) (K : KK) (h : ((0 ≤ (F0 7 2) ∧ (F0 7 2) ≤ 800) ∧ (0 ≤ (F0 7 3) ∧ (F0 7 3) ≤ (F0 7 2)) ∧ (F0 7 4) = (F0 7 3)) ∧ (∀ (G_1 : FF), ((∀ a b, a ≠ 7 ∨ (b ≠ 4 ∧ b ≠ 5 ∧ b ≠ 6) → G_1 a b = F0 a b) ∧ G_1 7 4 = runL (A0 8) ((F0 7 2)) (Int.toNat ((F0 7 2) - (F0 7 3))) ((F0 7 3)) ∧ G_1 7 5 = 0 ∧ G_1 7 6 = (if runL (A0 8) ((F0 7 2)) (Int.toNat ((F0 7 2) - (F0 7 3))) ((F0 7 3)) - (F0 7 3) ≤ 6 then ltF (A0 8) ((F0 7 2)) ((F0 7 3)) (Int.toNat (runL (A0 8) ((F0 7 2)) (Int.toNat ((F0 7 2) - (F0 7 3))) ((F0 7 3)) - (F0 7 3))) else 0)) → (K (some none) G_1 A0))) : am_body qxX7_takeWord qnX7_takeWord_7 47 (qiX7_takeWord_7  F0 A0) quX7_takeWord_7 [vR 7] 3 F0 A0 K := by
  refine ⟨qvX7_takeWord_7_0  F0 A0 K h, fun pc ls st F A u hI => ?_⟩
  unfold qiX7_takeWord_7 at hI
  replace hI := am_cond2 hI
  rcases hI with ⟨hb, hI⟩ | hI
  · have hb := am_bq hb
    subst hb
    split at hI
    · rename_i s0 v
      obtain ⟨e0, e1, hI⟩ := hI
      subst e0
      subst e1
      exact qvX7_takeWord_7_7  _ _ K h _ _ hI
    · exact hI.elim
  exact hI.elim
theorem qtX7_takeWord (l : Launch) : am_CT l layX qeX7_takeWord := am_met0 rfl (by decide +kernel) rfl rfl rfl rfl rfl (fun _ => rfl) rfl (qzX7_takeWord l) (fun k e1 h => (qyX7_takeWord l k e1 h).2) (fun as F A K h => by
  replace h : qsX7_takeWord as F A K := h
  unfold qsX7_takeWord at h
  split at h
  · rename_i o
    refine ⟨by first | exact Nat.le_of_ble_eq_true rfl | simp [am_fl, am_cat], ?_⟩
    replace h := am_cond2 h
    rcases h with ⟨hb, h⟩ | h
    · skip
      have hb0 := hb
      have hb0 := am_bq hb0
      subst hb0
      exact am_way_body (qvX7_takeWord_7  F A K h)
    exact h.elim
  · exact h.elim)
def qkX7_takeInteger : Nat → Option CI := fun pc => cond (Nat.ble 81 pc) none (cond (Nat.ble 44 pc) (cond (Nat.ble 61 pc) (cond (Nat.ble 69 pc) (cond (Nat.ble 74 pc) (cond (Nat.beq pc 74) (some (.putfield 25, 77, [])) (cond (Nat.beq pc 77) (some (.goto (-67), 80, [10])) (cond (Nat.beq pc 80) (some (.return_, 81, [])) (none)))) (cond (Nat.beq pc 69) (some (.getfield 25, 72, [])) (cond (Nat.beq pc 72) (some (.iconst 1, 73, [])) (cond (Nat.beq pc 73) (some (.iadd, 74, [])) (none))))) (cond (Nat.ble 64 pc) (cond (Nat.beq pc 64) (some (.putfield 69, 67, [])) (cond (Nat.beq pc 67) (some (.aload_n 0, 68, [])) (cond (Nat.beq pc 68) (some (.dup, 69, [])) (none)))) (cond (Nat.beq pc 61) (some (.bipush 48, 63, [])) (cond (Nat.beq pc 63) (some (.isub, 64, [])) (none))))) (cond (Nat.ble 52 pc) (cond (Nat.ble 54 pc) (cond (Nat.beq pc 54) (some (.getfield 25, 57, [])) (cond (Nat.beq pc 57) (some (.invokevirtual 125, 60, [])) (cond (Nat.beq pc 60) (some (.iadd, 61, [])) (none)))) (cond (Nat.beq pc 52) (some (.aload_n 0, 53, [])) (cond (Nat.beq pc 53) (some (.aload_n 0, 54, [])) (none)))) (cond (Nat.ble 47 pc) (cond (Nat.beq pc 47) (some (.aload_n 0, 48, [])) (cond (Nat.beq pc 48) (some (.getfield 69, 51, [])) (cond (Nat.beq pc 51) (some (.imul, 52, [])) (none)))) (cond (Nat.beq pc 44) (some (.aload_n 0, 45, [])) (cond (Nat.beq pc 45) (some (.bipush 10, 47, [])) (none)))))) (cond (Nat.ble 18 pc) (cond (Nat.ble 29 pc) (cond (Nat.ble 36 pc) (cond (Nat.beq pc 36) (some (.getfield 69, 39, [])) (cond (Nat.beq pc 39) (some (.ldc 143, 41, [])) (cond (Nat.beq pc 41) (some (.if_icmp .ge 26, 44, [67])) (none)))) (cond (Nat.beq pc 29) (some (.invokestatic 137, 32, [])) (cond (Nat.beq pc 32) (some (.ifCond .eq 48, 35, [80])) (cond (Nat.beq pc 35) (some (.aload_n 0, 36, [])) (none))))) (cond (Nat.ble 22 pc) (cond (Nat.beq pc 22) (some (.aload_n 0, 23, [])) (cond (Nat.beq pc 23) (some (.getfield 25, 26, [])) (cond (Nat.beq pc 26) (some (.invokevirtual 125, 29, [])) (none)))) (cond (Nat.beq pc 18) (some (.if_icmp .ge 62, 21, [80])) (cond (Nat.beq pc 21) (some (.aload_n 0, 22, [])) (none))))) (cond (Nat.ble 7 pc) (cond (Nat.ble 11 pc) (cond (Nat.beq pc 11) (some (.getfield 25, 14, [])) (cond (Nat.beq pc 14) (some (.aload_n 0, 15, [])) (cond (Nat.beq pc 15) (some (.getfield 22, 18, [])) (none)))) (cond (Nat.beq pc 7) (some (.putfield 69, 10, [])) (cond (Nat.beq pc 10) (some (.aload_n 0, 11, [])) (none)))) (cond (Nat.ble 2 pc) (cond (Nat.beq pc 2) (some (.putfield 39, 5, [])) (cond (Nat.beq pc 5) (some (.aload_n 0, 6, [])) (cond (Nat.beq pc 6) (some (.iconst 0, 7, [])) (none)))) (cond (Nat.beq pc 0) (some (.aload_n 0, 1, [])) (cond (Nat.beq pc 1) (some (.iconst 1, 2, [])) (none)))))))
theorem qkX7_takeInteger_ok : ∀ pc i nx ts, qkX7_takeInteger pc = some (i, nx, ts) → am_cok cX7_takeInteger pc (i, nx, ts) = true := fun pc i nx ts h => am_tok_ok (n := 81) (by decide +kernel) (fun pc h => by show cond (Nat.ble 81 pc) _ _ = _; rw [Nat.ble_eq_true_of_le h]; rfl) h
def qaX7_takeInteger : Nat → Option CE := fun k => cond (Nat.beq k 125) (some qeX7_signAt) (cond (Nat.beq k 137) (some qeX7_isDigit) (none))
theorem qyX7_takeInteger (l : Launch) : ∀ k e1, qaX7_takeInteger k = some e1 → am_cal l layX RX7 4 k e1 ∧ ceT e1 = 0 := q_cons ⟨am_calV (ci := 7) (qtX7_signAt l) qbX7_signAt (by decide) rfl (am_tb_at 620 (by decide +kernel) rfl), rfl⟩ (q_cons ⟨am_calS (qtX7_isDigit l) qbX7_isDigit (by decide) rfl (by decide) (am_tb_at 634 (by decide +kernel) rfl), rfl⟩ (q_nil))
def qxX7_takeInteger : CX := (qkX7_takeInteger, layX, qfX7, qaX7_takeInteger, qcX7, qlX7, qmX7, none, false, none, 0, none, fun _ => none)
theorem qzX7_takeInteger (l : Launch) : am_sta l qxX7_takeInteger RX7 4 cX7_takeInteger := ⟨qkX7_takeInteger_ok, layX_ok, qfX7_ok, qcX7_ok, qlX7_ok, am_mthP qmX7_ok (by decide), fun k e1 h => (qyX7_takeInteger l k e1 h).1⟩
def qsX7_takeInteger : SP := fun as F A K => match as with
  | [.inr (.inr o)] => cond (Nat.beq o 7) (((0 ≤ (F 7 2) ∧ (F 7 2) ≤ 800) ∧ (0 ≤ (F 7 3) ∧ (F 7 3) ≤ (F 7 2)) ∧ (F 7 4) = (F 7 3)) ∧ (∀ (G_1 : FF), ((∀ a b, a ≠ 7 ∨ (b ≠ 4 ∧ b ≠ 5 ∧ b ≠ 6) → G_1 a b = F a b) ∧ G_1 7 4 = runD (A 8) ((F 7 2)) (Int.toNat ((F 7 2) - (F 7 3))) ((F 7 3)) ∧ G_1 7 5 = 1 ∧ G_1 7 6 = ivF (A 8) ((F 7 2)) ((F 7 3)) (Int.toNat (runD (A 8) ((F 7 2)) (Int.toNat ((F 7 2) - (F 7 3))) ((F 7 3)) - (F 7 3)))) → (K (some none) G_1 A))) (False)
  | _ => False
def qeX7_takeInteger : CE := (yX7_takeInteger, cX7_takeInteger, 1, none, 0, some 7, 0, none, 0, 4, qsX7_takeInteger)
theorem qbX7_takeInteger : am_mb qeX7_takeInteger := ⟨am_tb_at 640 (by decide +kernel) rfl, am_tb_at 38 (by decide +kernel) rfl, ⟨by decide, by decide, by decide +kernel⟩, by decide, am_tb_at 639 (by decide +kernel) rfl, am_tb_at 4 (by decide +kernel) rfl, _, _, rfl⟩
def qnX7_takeInteger_7 : CUT := fun pc => cond (Nat.beq pc 10) (some [true]) (none)
def qiX7_takeInteger_7  (F0 : FF) (A0 : AA) : REC := fun pc ls st F A u => cond (Nat.beq pc 10) (match ls, st, u with
    | [some (.inr (.inr s0))], [], 0 => s0 = 7 ∧ A = A0 ∧ ((∀ a b, a ≠ 7 ∨ (b ≠ 4 ∧ b ≠ 5 ∧ b ≠ 6) → F a b = F0 a b) ∧ F 7 5 = 1 ∧ (F0 7 3 ≤ F 7 4 ∧ F 7 4 ≤ F0 7 2) ∧ (0 ≤ F 7 6 ∧ F 7 6 < 1000000) ∧ F 7 6 = ivF (A0 8) (F0 7 2) (F0 7 3) (Int.toNat (F 7 4 - F0 7 3)) ∧ runD (A0 8) (F0 7 2) (Int.toNat (F0 7 2 - F 7 4)) (F 7 4) = runD (A0 8) (F0 7 2) (Int.toNat (F0 7 2 - F0 7 3)) (F0 7 3))
    | _, _, _ => False) (False)
def quX7_takeInteger_7 : Nat → LVs → List AV → FF → AA → Nat := fun pc ls _ F A => cond (Nat.beq pc 10) (match ls with
    | [some (.inr (.inr s0))] => Int.toNat (F 7 2 - F 7 4 + 1)
    | _ => 0) (0)
set_option maxRecDepth 20000 in
theorem qvX7_takeInteger_7_0  (F0 : FF) (A0 : AA) (K : KK) (h : ((0 ≤ (F0 7 2) ∧ (F0 7 2) ≤ 800) ∧ (0 ≤ (F0 7 3) ∧ (F0 7 3) ≤ (F0 7 2)) ∧ (F0 7 4) = (F0 7 3)) ∧ (∀ (G_1 : FF), ((∀ a b, a ≠ 7 ∨ (b ≠ 4 ∧ b ≠ 5 ∧ b ≠ 6) → G_1 a b = F0 a b) ∧ G_1 7 4 = runD (A0 8) ((F0 7 2)) (Int.toNat ((F0 7 2) - (F0 7 3))) ((F0 7 3)) ∧ G_1 7 5 = 1 ∧ G_1 7 6 = ivF (A0 8) ((F0 7 2)) ((F0 7 3)) (Int.toNat (runD (A0 8) ((F0 7 2)) (Int.toNat ((F0 7 2) - (F0 7 3))) ((F0 7 3)) - (F0 7 3)))) → (K (some none) G_1 A0))) : am_stp qxX7_takeInteger (am_run qxX7_takeInteger qnX7_takeInteger_7 (qiX7_takeInteger_7  F0 A0) K 38) K 0 (am_ent [vR 7] 1) [] F0 A0 0 := by
  show am_stp qxX7_takeInteger (am_run qxX7_takeInteger qnX7_takeInteger_7 (qiX7_takeInteger_7  F0 A0) K 38) K 0 [some (vR 7)] [] F0 A0 0
  obtain ⟨hp, h⟩ := h
  obtain ⟨p1, p2', p3⟩ := hp
  show 7 = 7 ∧ A0 = A0 ∧ ((∀ a b, a ≠ 7 ∨ (b ≠ 4 ∧ b ≠ 5 ∧ b ≠ 6) → (upF (upF F0 7 5 1) 7 6 0) a b = F0 a b) ∧ (upF (upF F0 7 5 1) 7 6 0) 7 5 = 1 ∧ (F0 7 3 ≤ (upF (upF F0 7 5 1) 7 6 0) 7 4 ∧ (upF (upF F0 7 5 1) 7 6 0) 7 4 ≤ F0 7 2) ∧ (0 ≤ (upF (upF F0 7 5 1) 7 6 0) 7 6 ∧ (upF (upF F0 7 5 1) 7 6 0) 7 6 < 1000000) ∧ (upF (upF F0 7 5 1) 7 6 0) 7 6 = ivF (A0 8) (F0 7 2) (F0 7 3) (Int.toNat ((upF (upF F0 7 5 1) 7 6 0) 7 4 - F0 7 3)) ∧ runD (A0 8) (F0 7 2) (Int.toNat (F0 7 2 - (upF (upF F0 7 5 1) 7 6 0) 7 4)) ((upF (upF F0 7 5 1) 7 6 0) 7 4) = runD (A0 8) (F0 7 2) (Int.toNat (F0 7 2 - F0 7 3)) (F0 7 3))
  refine ⟨rfl, rfl, ?_⟩
  simp only [upF_s, upF_o (show (7 : Nat) ≠ 7 ∨ (1 : Nat) ≠ 5 by decide), upF_o (show (7 : Nat) ≠ 7 ∨ (1 : Nat) ≠ 6 by decide), upF_o (show (7 : Nat) ≠ 7 ∨ (2 : Nat) ≠ 5 by decide), upF_o (show (7 : Nat) ≠ 7 ∨ (2 : Nat) ≠ 6 by decide), upF_o (show (7 : Nat) ≠ 7 ∨ (3 : Nat) ≠ 5 by decide), upF_o (show (7 : Nat) ≠ 7 ∨ (3 : Nat) ≠ 6 by decide), upF_o (show (7 : Nat) ≠ 7 ∨ (4 : Nat) ≠ 5 by decide), upF_o (show (7 : Nat) ≠ 7 ∨ (4 : Nat) ≠ 6 by decide), upF_o (show (7 : Nat) ≠ 7 ∨ (5 : Nat) ≠ 6 by decide), upF_o (show (7 : Nat) ≠ 7 ∨ (6 : Nat) ≠ 5 by decide), upF_o (show (7 : Nat) ≠ 7 ∨ (7 : Nat) ≠ 5 by decide), upF_o (show (7 : Nat) ≠ 7 ∨ (7 : Nat) ≠ 6 by decide)]
  refine ⟨fun a b hab => by rw [upF_o (by omega), upF_o (by omega)], trivial, by omega, by omega, ?_, by rw [p3]⟩
  rw [show F0 7 4 - F0 7 3 = 0 by omega]; rfl
set_option maxRecDepth 20000 in
theorem qvX7_takeInteger_7_10  (F0 : FF) (A0 : AA) (K : KK) (h : ((0 ≤ (F0 7 2) ∧ (F0 7 2) ≤ 800) ∧ (0 ≤ (F0 7 3) ∧ (F0 7 3) ≤ (F0 7 2)) ∧ (F0 7 4) = (F0 7 3)) ∧ (∀ (G_1 : FF), ((∀ a b, a ≠ 7 ∨ (b ≠ 4 ∧ b ≠ 5 ∧ b ≠ 6) → G_1 a b = F0 a b) ∧ G_1 7 4 = runD (A0 8) ((F0 7 2)) (Int.toNat ((F0 7 2) - (F0 7 3))) ((F0 7 3)) ∧ G_1 7 5 = 1 ∧ G_1 7 6 = ivF (A0 8) ((F0 7 2)) ((F0 7 3)) (Int.toNat (runD (A0 8) ((F0 7 2)) (Int.toNat ((F0 7 2) - (F0 7 3))) ((F0 7 3)) - (F0 7 3)))) → (K (some none) G_1 A0)))  (F : FF) (hi : (∀ a b, a ≠ 7 ∨ (b ≠ 4 ∧ b ≠ 5 ∧ b ≠ 6) → F a b = F0 a b) ∧ F 7 5 = 1 ∧ (F0 7 3 ≤ F 7 4 ∧ F 7 4 ≤ F0 7 2) ∧ (0 ≤ F 7 6 ∧ F 7 6 < 1000000) ∧ F 7 6 = ivF (A0 8) (F0 7 2) (F0 7 3) (Int.toNat (F 7 4 - F0 7 3)) ∧ runD (A0 8) (F0 7 2) (Int.toNat (F0 7 2 - F 7 4)) (F 7 4) = runD (A0 8) (F0 7 2) (Int.toNat (F0 7 2 - F0 7 3)) (F0 7 3)) : am_stp qxX7_takeInteger (am_run qxX7_takeInteger qnX7_takeInteger_7 (fun pc ls st F9 A9 u => qiX7_takeInteger_7  F0 A0 pc ls st F9 A9 u ∧ quX7_takeInteger_7 pc ls st F9 A9 < quX7_takeInteger_7 10 [some (vR 7)] [] F A0) K 38) K 10 [some (vR 7)] [] F A0 0 := by
  obtain ⟨hp, h⟩ := h
  obtain ⟨p1, p2', p3⟩ := hp
  obtain ⟨hF, h5, h1, h6, h2, h3⟩ := hi
  have f2 : F 7 2 = F0 7 2 := hF 7 2 (by decide)
  have f3 : F 7 3 = F0 7 3 := hF 7 3 (by decide)
  have sb := sgT_b (A0 8) (F0 7 2) (F 7 4)
  have ls := ivF_s (T := A0 8) (n := F0 7 2) (s := F0 7 3) (k := F 7 4 - F0 7 3) (by omega)
  rw [show F0 7 3 + (F 7 4 - F0 7 3) = F 7 4 by omega, ← h2] at ls
  show (w32 (F 7 4) < w32 (F 7 2) → (((0 ≤ (F 7 2) ∧ (F 7 2) ≤ 800) ∧ (-2147483648 ≤ (F 7 4) ∧ (F 7 4) < 2147483648)) ∧ ((w32 (bi (dgP (w32 (sgT (A0 8) ((F 7 2)) (F 7 4))))) = w32 0 → (K (some none) F A0)) ∧ (¬ w32 (bi (dgP (w32 (sgT (A0 8) ((F 7 2)) (F 7 4))))) = w32 0 → ((w32 (F 7 6) < w32 100000 → (((0 ≤ (F 7 2) ∧ (F 7 2) ≤ 800) ∧ (-2147483648 ≤ (F 7 4) ∧ (F 7 4) < 2147483648)) ∧ ((7 = 7 ∧ A0 = A0 ∧ ((∀ a b, a ≠ 7 ∨ (b ≠ 4 ∧ b ≠ 5 ∧ b ≠ 6) → (upF (upF F 7 6 (((10 * (F 7 6)) + (sgT (A0 8) ((F 7 2)) (F 7 4))) - 48)) 7 4 ((F 7 4) + 1)) a b = F0 a b) ∧ (upF (upF F 7 6 (((10 * (F 7 6)) + (sgT (A0 8) ((F 7 2)) (F 7 4))) - 48)) 7 4 ((F 7 4) + 1)) 7 5 = 1 ∧ (F0 7 3 ≤ (upF (upF F 7 6 (((10 * (F 7 6)) + (sgT (A0 8) ((F 7 2)) (F 7 4))) - 48)) 7 4 ((F 7 4) + 1)) 7 4 ∧ (upF (upF F 7 6 (((10 * (F 7 6)) + (sgT (A0 8) ((F 7 2)) (F 7 4))) - 48)) 7 4 ((F 7 4) + 1)) 7 4 ≤ F0 7 2) ∧ (0 ≤ (upF (upF F 7 6 (((10 * (F 7 6)) + (sgT (A0 8) ((F 7 2)) (F 7 4))) - 48)) 7 4 ((F 7 4) + 1)) 7 6 ∧ (upF (upF F 7 6 (((10 * (F 7 6)) + (sgT (A0 8) ((F 7 2)) (F 7 4))) - 48)) 7 4 ((F 7 4) + 1)) 7 6 < 1000000) ∧ (upF (upF F 7 6 (((10 * (F 7 6)) + (sgT (A0 8) ((F 7 2)) (F 7 4))) - 48)) 7 4 ((F 7 4) + 1)) 7 6 = ivF (A0 8) (F0 7 2) (F0 7 3) (Int.toNat ((upF (upF F 7 6 (((10 * (F 7 6)) + (sgT (A0 8) ((F 7 2)) (F 7 4))) - 48)) 7 4 ((F 7 4) + 1)) 7 4 - F0 7 3)) ∧ runD (A0 8) (F0 7 2) (Int.toNat (F0 7 2 - (upF (upF F 7 6 (((10 * (F 7 6)) + (sgT (A0 8) ((F 7 2)) (F 7 4))) - 48)) 7 4 ((F 7 4) + 1)) 7 4)) ((upF (upF F 7 6 (((10 * (F 7 6)) + (sgT (A0 8) ((F 7 2)) (F 7 4))) - 48)) 7 4 ((F 7 4) + 1)) 7 4) = runD (A0 8) (F0 7 2) (Int.toNat (F0 7 2 - F0 7 3)) (F0 7 3))) ∧ (Int.toNat ((upF (upF F 7 6 (((10 * (F 7 6)) + (sgT (A0 8) ((F 7 2)) (F 7 4))) - 48)) 7 4 ((F 7 4) + 1)) 7 2 - (upF (upF F 7 6 (((10 * (F 7 6)) + (sgT (A0 8) ((F 7 2)) (F 7 4))) - 48)) 7 4 ((F 7 4) + 1)) 7 4 + 1)) < (Int.toNat (F 7 2 - F 7 4 + 1))))) ∧ (¬ w32 (F 7 6) < w32 100000 → ((7 = 7 ∧ A0 = A0 ∧ ((∀ a b, a ≠ 7 ∨ (b ≠ 4 ∧ b ≠ 5 ∧ b ≠ 6) → (upF F 7 4 ((F 7 4) + 1)) a b = F0 a b) ∧ (upF F 7 4 ((F 7 4) + 1)) 7 5 = 1 ∧ (F0 7 3 ≤ (upF F 7 4 ((F 7 4) + 1)) 7 4 ∧ (upF F 7 4 ((F 7 4) + 1)) 7 4 ≤ F0 7 2) ∧ (0 ≤ (upF F 7 4 ((F 7 4) + 1)) 7 6 ∧ (upF F 7 4 ((F 7 4) + 1)) 7 6 < 1000000) ∧ (upF F 7 4 ((F 7 4) + 1)) 7 6 = ivF (A0 8) (F0 7 2) (F0 7 3) (Int.toNat ((upF F 7 4 ((F 7 4) + 1)) 7 4 - F0 7 3)) ∧ runD (A0 8) (F0 7 2) (Int.toNat (F0 7 2 - (upF F 7 4 ((F 7 4) + 1)) 7 4)) ((upF F 7 4 ((F 7 4) + 1)) 7 4) = runD (A0 8) (F0 7 2) (Int.toNat (F0 7 2 - F0 7 3)) (F0 7 3))) ∧ (Int.toNat ((upF F 7 4 ((F 7 4) + 1)) 7 2 - (upF F 7 4 ((F 7 4) + 1)) 7 4 + 1)) < (Int.toNat (F 7 2 - F 7 4 + 1))))))))) ∧ (¬ w32 (F 7 4) < w32 (F 7 2) → (K (some none) F A0))
  refine ⟨fun c1 => ?_, fun c1 => ?_⟩
  · skip
    (try simp only [f2, f3] at c1); (try simp (disch := omega) only [w32_0, wbi0, Classical.not_not, w32_id] at c1); (try (rw [w32_id (x := sgT (A0 8) (F0 7 2) (F 7 4)) (by omega) (by omega)] at c1))
    refine ⟨by first | omega | (simp only [f2]; omega), ?_⟩
    refine ⟨fun c2 => ?_, fun c2 => ?_⟩
    · skip
      (try simp only [f2, f3] at c2); (try simp (disch := omega) only [w32_0, wbi0, Classical.not_not, w32_id] at c2); (try (rw [w32_id (x := sgT (A0 8) (F0 7 2) (F 7 4)) (by omega) (by omega)] at c2))
      have e4 : F 7 4 = runD (A0 8) (F0 7 2) (Int.toNat (F0 7 2 - F0 7 3)) (F0 7 3) := by
        rw [← h3]
        first
        | exact (runD_0 (by omega)).symm
        | (have rs := runD_s (T := A0 8) (n := F0 7 2) (p := F 7 4) (by omega)
           rw [if_neg c2] at rs
           exact rs.symm)
      exact h _ ⟨hF, e4, h5, by rw [← e4]; exact h2⟩
    · skip
      (try simp only [f2, f3] at c2); (try simp (disch := omega) only [w32_0, wbi0, Classical.not_not, w32_id] at c2); (try (rw [w32_id (x := sgT (A0 8) (F0 7 2) (F 7 4)) (by omega) (by omega)] at c2))
      refine ⟨fun c3 => ?_, fun c3 => ?_⟩
      · skip
        (try simp only [f2, f3] at c3); (try simp (disch := omega) only [w32_0, wbi0, Classical.not_not, w32_id] at c3); (try (rw [w32_id (x := sgT (A0 8) (F0 7 2) (F 7 4)) (by omega) (by omega)] at c3))
        refine ⟨by first | omega | (simp only [f2]; omega), ?_⟩
        refine ⟨⟨rfl, rfl, ?_⟩, by (simp only [upF_s, upF_o (show (7 : Nat) ≠ 7 ∨ (1 : Nat) ≠ 4 by decide), upF_o (show (7 : Nat) ≠ 7 ∨ (1 : Nat) ≠ 6 by decide), upF_o (show (7 : Nat) ≠ 7 ∨ (2 : Nat) ≠ 4 by decide), upF_o (show (7 : Nat) ≠ 7 ∨ (2 : Nat) ≠ 6 by decide), upF_o (show (7 : Nat) ≠ 7 ∨ (3 : Nat) ≠ 4 by decide), upF_o (show (7 : Nat) ≠ 7 ∨ (3 : Nat) ≠ 6 by decide), upF_o (show (7 : Nat) ≠ 7 ∨ (4 : Nat) ≠ 6 by decide), upF_o (show (7 : Nat) ≠ 7 ∨ (5 : Nat) ≠ 4 by decide), upF_o (show (7 : Nat) ≠ 7 ∨ (5 : Nat) ≠ 6 by decide), upF_o (show (7 : Nat) ≠ 7 ∨ (6 : Nat) ≠ 4 by decide), upF_o (show (7 : Nat) ≠ 7 ∨ (7 : Nat) ≠ 4 by decide), upF_o (show (7 : Nat) ≠ 7 ∨ (7 : Nat) ≠ 6 by decide)]; omega)⟩
        have rs := runD_s (T := A0 8) (n := F0 7 2) (p := F 7 4) (by omega)
        rw [if_pos c2] at rs
        rw [if_pos (by omega)] at ls
        simp only [upF_s, upF_o (show (7 : Nat) ≠ 7 ∨ (1 : Nat) ≠ 4 by decide), upF_o (show (7 : Nat) ≠ 7 ∨ (1 : Nat) ≠ 6 by decide), upF_o (show (7 : Nat) ≠ 7 ∨ (2 : Nat) ≠ 4 by decide), upF_o (show (7 : Nat) ≠ 7 ∨ (2 : Nat) ≠ 6 by decide), upF_o (show (7 : Nat) ≠ 7 ∨ (3 : Nat) ≠ 4 by decide), upF_o (show (7 : Nat) ≠ 7 ∨ (3 : Nat) ≠ 6 by decide), upF_o (show (7 : Nat) ≠ 7 ∨ (4 : Nat) ≠ 6 by decide), upF_o (show (7 : Nat) ≠ 7 ∨ (5 : Nat) ≠ 4 by decide), upF_o (show (7 : Nat) ≠ 7 ∨ (5 : Nat) ≠ 6 by decide), upF_o (show (7 : Nat) ≠ 7 ∨ (6 : Nat) ≠ 4 by decide), upF_o (show (7 : Nat) ≠ 7 ∨ (7 : Nat) ≠ 4 by decide), upF_o (show (7 : Nat) ≠ 7 ∨ (7 : Nat) ≠ 6 by decide), f2, f3]
        refine ⟨fun a b hab => by rw [upF_o (by omega), upF_o (by omega)]; exact hF a b hab, h5, by omega, by omega, ?_, ?_⟩
        · rw [show F 7 4 + 1 - F0 7 3 = F 7 4 - F0 7 3 + 1 by omega, ls]
        · rw [← h3, rs]
      · skip
        (try simp only [f2, f3] at c3); (try simp (disch := omega) only [w32_0, wbi0, Classical.not_not, w32_id] at c3); (try (rw [w32_id (x := sgT (A0 8) (F0 7 2) (F 7 4)) (by omega) (by omega)] at c3))
        refine ⟨⟨rfl, rfl, ?_⟩, by (simp only [upF_s, upF_o (show (7 : Nat) ≠ 7 ∨ (1 : Nat) ≠ 4 by decide), upF_o (show (7 : Nat) ≠ 7 ∨ (1 : Nat) ≠ 6 by decide), upF_o (show (7 : Nat) ≠ 7 ∨ (2 : Nat) ≠ 4 by decide), upF_o (show (7 : Nat) ≠ 7 ∨ (2 : Nat) ≠ 6 by decide), upF_o (show (7 : Nat) ≠ 7 ∨ (3 : Nat) ≠ 4 by decide), upF_o (show (7 : Nat) ≠ 7 ∨ (3 : Nat) ≠ 6 by decide), upF_o (show (7 : Nat) ≠ 7 ∨ (4 : Nat) ≠ 6 by decide), upF_o (show (7 : Nat) ≠ 7 ∨ (5 : Nat) ≠ 4 by decide), upF_o (show (7 : Nat) ≠ 7 ∨ (5 : Nat) ≠ 6 by decide), upF_o (show (7 : Nat) ≠ 7 ∨ (6 : Nat) ≠ 4 by decide), upF_o (show (7 : Nat) ≠ 7 ∨ (7 : Nat) ≠ 4 by decide), upF_o (show (7 : Nat) ≠ 7 ∨ (7 : Nat) ≠ 6 by decide)]; omega)⟩
        have rs := runD_s (T := A0 8) (n := F0 7 2) (p := F 7 4) (by omega)
        rw [if_pos c2] at rs
        rw [if_neg (by omega)] at ls
        simp only [upF_s, upF_o (show (7 : Nat) ≠ 7 ∨ (1 : Nat) ≠ 4 by decide), upF_o (show (7 : Nat) ≠ 7 ∨ (2 : Nat) ≠ 4 by decide), upF_o (show (7 : Nat) ≠ 7 ∨ (3 : Nat) ≠ 4 by decide), upF_o (show (7 : Nat) ≠ 7 ∨ (5 : Nat) ≠ 4 by decide), upF_o (show (7 : Nat) ≠ 7 ∨ (6 : Nat) ≠ 4 by decide), upF_o (show (7 : Nat) ≠ 7 ∨ (7 : Nat) ≠ 4 by decide), f2, f3]
        refine ⟨fun a b hab => by rw [upF_o (by omega)]; exact hF a b hab, h5, by omega, h6, ?_, ?_⟩
        · rw [show F 7 4 + 1 - F0 7 3 = F 7 4 - F0 7 3 + 1 by omega, ls]
        · rw [← h3, rs]
  · skip
    (try simp only [f2, f3] at c1); (try simp (disch := omega) only [w32_0, wbi0, Classical.not_not, w32_id] at c1); (try (rw [w32_id (x := sgT (A0 8) (F0 7 2) (F 7 4)) (by omega) (by omega)] at c1))
    have e4 : F 7 4 = runD (A0 8) (F0 7 2) (Int.toNat (F0 7 2 - F0 7 3)) (F0 7 3) := by
      rw [← h3]
      first
      | exact (runD_0 (by omega)).symm
      | (have rs := runD_s (T := A0 8) (n := F0 7 2) (p := F 7 4) (by omega)
         rw [if_neg c2] at rs
         exact rs.symm)
    exact h _ ⟨hF, e4, h5, by rw [← e4]; exact h2⟩
set_option maxRecDepth 20000 in
theorem qvX7_takeInteger_7  (F0 : FF) (A0 : AA) (K : KK) (h : ((0 ≤ (F0 7 2) ∧ (F0 7 2) ≤ 800) ∧ (0 ≤ (F0 7 3) ∧ (F0 7 3) ≤ (F0 7 2)) ∧ (F0 7 4) = (F0 7 3)) ∧ (∀ (G_1 : FF), ((∀ a b, a ≠ 7 ∨ (b ≠ 4 ∧ b ≠ 5 ∧ b ≠ 6) → G_1 a b = F0 a b) ∧ G_1 7 4 = runD (A0 8) ((F0 7 2)) (Int.toNat ((F0 7 2) - (F0 7 3))) ((F0 7 3)) ∧ G_1 7 5 = 1 ∧ G_1 7 6 = ivF (A0 8) ((F0 7 2)) ((F0 7 3)) (Int.toNat (runD (A0 8) ((F0 7 2)) (Int.toNat ((F0 7 2) - (F0 7 3))) ((F0 7 3)) - (F0 7 3)))) → (K (some none) G_1 A0))) : am_body qxX7_takeInteger qnX7_takeInteger_7 38 (qiX7_takeInteger_7  F0 A0) quX7_takeInteger_7 [vR 7] 1 F0 A0 K := by
  refine ⟨qvX7_takeInteger_7_0  F0 A0 K h, fun pc ls st F A u hI => ?_⟩
  unfold qiX7_takeInteger_7 at hI
  replace hI := am_cond2 hI
  rcases hI with ⟨hb, hI⟩ | hI
  · have hb := am_bq hb
    subst hb
    split at hI
    · rename_i s0
      obtain ⟨e0, e1, hI⟩ := hI
      subst e0
      subst e1
      exact qvX7_takeInteger_7_10  _ _ K h _ hI
    · exact hI.elim
  exact hI.elim
theorem qtX7_takeInteger (l : Launch) : am_CT l layX qeX7_takeInteger := am_met0 rfl (by decide +kernel) rfl rfl rfl rfl rfl (fun _ => rfl) rfl (qzX7_takeInteger l) (fun k e1 h => (qyX7_takeInteger l k e1 h).2) (fun as F A K h => by
  replace h : qsX7_takeInteger as F A K := h
  unfold qsX7_takeInteger at h
  split at h
  · rename_i o
    refine ⟨by first | exact Nat.le_of_ble_eq_true rfl | simp [am_fl, am_cat], ?_⟩
    replace h := am_cond2 h
    rcases h with ⟨hb, h⟩ | h
    · skip
      have hb0 := hb
      have hb0 := am_bq hb0
      subst hb0
      exact am_way_body (qvX7_takeInteger_7  F A K h)
    exact h.elim
  · exact h.elim)
def qkX7_advance : Nat → Option CI := fun pc => cond (Nat.ble 146 pc) none (cond (Nat.ble 74 pc) (cond (Nat.ble 112 pc) (cond (Nat.ble 131 pc) (cond (Nat.ble 137 pc) (cond (Nat.ble 141 pc) (cond (Nat.beq pc 141) (some (.iadd, 142, [])) (cond (Nat.beq pc 142) (some (.putfield 25, 145, [])) (cond (Nat.beq pc 145) (some (.return_, 146, [])) (none)))) (cond (Nat.beq pc 137) (some (.getfield 19, 140, [])) (cond (Nat.beq pc 140) (some (.iconst 1, 141, [])) (none)))) (cond (Nat.ble 135 pc) (cond (Nat.beq pc 135) (some (.aload_n 0, 136, [])) (cond (Nat.beq pc 136) (some (.aload_n 0, 137, [])) (none))) (cond (Nat.beq pc 131) (some (.iconst 4, 132, [])) (cond (Nat.beq pc 132) (some (.putfield 39, 135, [])) (none))))) (cond (Nat.ble 121 pc) (cond (Nat.ble 124 pc) (cond (Nat.beq pc 124) (some (.if_icmp .ne 7, 127, [131])) (cond (Nat.beq pc 127) (some (.iconst 3, 128, [])) (cond (Nat.beq pc 128) (some (.goto 4, 131, [132])) (none)))) (cond (Nat.beq pc 121) (some (.iload_n 1, 122, [])) (cond (Nat.beq pc 122) (some (.bipush 45, 124, [])) (none)))) (cond (Nat.ble 117 pc) (cond (Nat.beq pc 117) (some (.iconst 2, 118, [])) (cond (Nat.beq pc 118) (some (.goto 14, 121, [132])) (none))) (cond (Nat.beq pc 112) (some (.bipush 59, 114, [])) (cond (Nat.beq pc 114) (some (.if_icmp .ne 7, 117, [121])) (none)))))) (cond (Nat.ble 93 pc) (cond (Nat.ble 103 pc) (cond (Nat.ble 107 pc) (cond (Nat.beq pc 107) (some (.goto 38, 110, [145])) (cond (Nat.beq pc 110) (some (.aload_n 0, 111, [])) (cond (Nat.beq pc 111) (some (.iload_n 1, 112, [])) (none)))) (cond (Nat.beq pc 103) (some (.aload_n 0, 104, [])) (cond (Nat.beq pc 104) (some (.invokevirtual 140, 107, [])) (none)))) (cond (Nat.ble 97 pc) (cond (Nat.beq pc 97) (some (.invokestatic 137, 100, [])) (cond (Nat.beq pc 100) (some (.ifCond .eq 10, 103, [110])) (none))) (cond (Nat.beq pc 93) (some (.goto 52, 96, [145])) (cond (Nat.beq pc 96) (some (.iload_n 1, 97, [])) (none))))) (cond (Nat.ble 82 pc) (cond (Nat.ble 86 pc) (cond (Nat.beq pc 86) (some (.ifCond .eq 10, 89, [96])) (cond (Nat.beq pc 89) (some (.aload_n 0, 90, [])) (cond (Nat.beq pc 90) (some (.invokevirtual 134, 93, [])) (none)))) (cond (Nat.beq pc 82) (some (.iload_n 1, 83, [])) (cond (Nat.beq pc 83) (some (.invokestatic 131, 86, [])) (none)))) (cond (Nat.ble 76 pc) (cond (Nat.beq pc 76) (some (.putfield 39, 79, [])) (cond (Nat.beq pc 79) (some (.goto 66, 82, [145])) (none))) (cond (Nat.beq pc 74) (some (.aload_n 0, 75, [])) (cond (Nat.beq pc 75) (some (.iconst 5, 76, [])) (none))))))) (cond (Nat.ble 38 pc) (cond (Nat.ble 55 pc) (cond (Nat.ble 63 pc) (cond (Nat.ble 67 pc) (cond (Nat.beq pc 67) (some (.aload_n 0, 68, [])) (cond (Nat.beq pc 68) (some (.getfield 22, 71, [])) (cond (Nat.beq pc 71) (some (.if_icmp .lt 11, 74, [82])) (none)))) (cond (Nat.beq pc 63) (some (.aload_n 0, 64, [])) (cond (Nat.beq pc 64) (some (.getfield 19, 67, [])) (none)))) (cond (Nat.ble 59 pc) (cond (Nat.beq pc 59) (some (.invokevirtual 125, 62, [])) (cond (Nat.beq pc 62) (some (.istore_n 1, 63, [])) (none))) (cond (Nat.beq pc 55) (some (.aload_n 0, 56, [])) (cond (Nat.beq pc 56) (some (.getfield 19, 59, [])) (none))))) (cond (Nat.ble 46 pc) (cond (Nat.ble 48 pc) (cond (Nat.beq pc 48) (some (.getfield 19, 51, [])) (cond (Nat.beq pc 51) (some (.putfield 25, 54, [])) (cond (Nat.beq pc 54) (some (.aload_n 0, 55, [])) (none)))) (cond (Nat.beq pc 46) (some (.aload_n 0, 47, [])) (cond (Nat.beq pc 47) (some (.aload_n 0, 48, [])) (none)))) (cond (Nat.ble 40 pc) (cond (Nat.beq pc 40) (some (.putfield 19, 43, [])) (cond (Nat.beq pc 43) (some (.goto (-35), 46, [8])) (none))) (cond (Nat.beq pc 38) (some (.iconst 1, 39, [])) (cond (Nat.beq pc 39) (some (.iadd, 40, [])) (none)))))) (cond (Nat.ble 19 pc) (cond (Nat.ble 27 pc) (cond (Nat.ble 33 pc) (cond (Nat.beq pc 33) (some (.aload_n 0, 34, [])) (cond (Nat.beq pc 34) (some (.dup, 35, [])) (cond (Nat.beq pc 35) (some (.getfield 19, 38, [])) (none)))) (cond (Nat.beq pc 27) (some (.invokestatic 128, 30, [])) (cond (Nat.beq pc 30) (some (.ifCond .eq 16, 33, [46])) (none)))) (cond (Nat.ble 21 pc) (cond (Nat.beq pc 21) (some (.getfield 19, 24, [])) (cond (Nat.beq pc 24) (some (.invokevirtual 125, 27, [])) (none))) (cond (Nat.beq pc 19) (some (.aload_n 0, 20, [])) (cond (Nat.beq pc 20) (some (.aload_n 0, 21, [])) (none))))) (cond (Nat.ble 8 pc) (cond (Nat.ble 12 pc) (cond (Nat.beq pc 12) (some (.aload_n 0, 13, [])) (cond (Nat.beq pc 13) (some (.getfield 22, 16, [])) (cond (Nat.beq pc 16) (some (.if_icmp .ge 30, 19, [46])) (none)))) (cond (Nat.beq pc 8) (some (.aload_n 0, 9, [])) (cond (Nat.beq pc 9) (some (.getfield 19, 12, [])) (none)))) (cond (Nat.ble 2 pc) (cond (Nat.beq pc 2) (some (.getfield 25, 5, [])) (cond (Nat.beq pc 5) (some (.putfield 19, 8, [])) (none))) (cond (Nat.beq pc 0) (some (.aload_n 0, 1, [])) (cond (Nat.beq pc 1) (some (.aload_n 0, 2, [])) (none))))))))
theorem qkX7_advance_ok : ∀ pc i nx ts, qkX7_advance pc = some (i, nx, ts) → am_cok cX7_advance pc (i, nx, ts) = true := fun pc i nx ts h => am_tok_ok (n := 146) (by decide +kernel) (fun pc h => by show cond (Nat.ble 146 pc) _ _ = _; rw [Nat.ble_eq_true_of_le h]; rfl) h
def qaX7_advance : Nat → Option CE := fun k => cond (Nat.beq k 125) (some qeX7_signAt) (cond (Nat.beq k 128) (some qeX7_isBlank) (cond (Nat.beq k 131) (some qeX7_isLetter) (cond (Nat.beq k 134) (some qeX7_takeWord) (cond (Nat.beq k 137) (some qeX7_isDigit) (cond (Nat.beq k 140) (some qeX7_takeInteger) (none))))))
theorem qyX7_advance (l : Launch) : ∀ k e1, qaX7_advance k = some e1 → am_cal l layX RX7 5 k e1 ∧ ceT e1 = 0 := q_cons ⟨am_calV (ci := 7) (qtX7_signAt l) qbX7_signAt (by decide) rfl (am_tb_at 620 (by decide +kernel) rfl), rfl⟩ (q_cons ⟨am_calS (qtX7_isBlank l) qbX7_isBlank (by decide) rfl (by decide) (am_tb_at 624 (by decide +kernel) rfl), rfl⟩ (q_cons ⟨am_calS (qtX7_isLetter l) qbX7_isLetter (by decide) rfl (by decide) (am_tb_at 627 (by decide +kernel) rfl), rfl⟩ (q_cons ⟨am_calV (ci := 7) (qtX7_takeWord l) qbX7_takeWord (by decide) rfl (am_tb_at 630 (by decide +kernel) rfl), rfl⟩ (q_cons ⟨am_calS (qtX7_isDigit l) qbX7_isDigit (by decide) rfl (by decide) (am_tb_at 634 (by decide +kernel) rfl), rfl⟩ (q_cons ⟨am_calV (ci := 7) (qtX7_takeInteger l) qbX7_takeInteger (by decide) rfl (am_tb_at 637 (by decide +kernel) rfl), rfl⟩ (q_nil))))))
def qxX7_advance : CX := (qkX7_advance, layX, qfX7, qaX7_advance, qcX7, qlX7, qmX7, none, false, none, 0, none, fun _ => none)
theorem qzX7_advance (l : Launch) : am_sta l qxX7_advance RX7 5 cX7_advance := ⟨qkX7_advance_ok, layX_ok, qfX7_ok, qcX7_ok, qlX7_ok, am_mthP qmX7_ok (by decide), fun k e1 h => (qyX7_advance l k e1 h).1⟩
def qsX7_advance : SP := fun as F A K => match as with
  | [.inr (.inr o)] => cond (Nat.beq o 7) (((0 ≤ (F 7 2) ∧ (F 7 2) ≤ 800) ∧ 0 ≤ (F 7 4) ∧ (F 7 4) ≤ (F 7 2)) ∧ (K (some none) (tkS F (nxT (A 8) ((F 7 2)) (tkF F))) A)) (False)
  | _ => False
def qeX7_advance : CE := (yX7_advance, cX7_advance, 2, none, 0, some 7, 0, none, 0, 5, qsX7_advance)
theorem qbX7_advance : am_mb qeX7_advance := ⟨am_tb_at 619 (by decide +kernel) rfl, am_tb_at 38 (by decide +kernel) rfl, ⟨by decide, by decide, by decide +kernel⟩, by decide, am_tb_at 618 (by decide +kernel) rfl, am_tb_at 1 (by decide +kernel) rfl, _, _, rfl⟩
def qnX7_advance_7 : CUT := fun pc => cond (Nat.beq pc 8) (some [true, false]) (none)
def qiX7_advance_7  (F0 : FF) (A0 : AA) : REC := fun pc ls st F A u => cond (Nat.beq pc 8) (match ls, st, u with
    | [some (.inr (.inr s0)), none], [], 0 => s0 = 7 ∧ A = A0 ∧ ((∀ a b, a ≠ 7 ∨ b ≠ 3 → F a b = F0 a b) ∧ (F0 7 4 ≤ F 7 3 ∧ F 7 3 ≤ F0 7 2) ∧ runB (A0 8) (F0 7 2) (Int.toNat (F0 7 2 - F 7 3)) (F 7 3) = runB (A0 8) (F0 7 2) (Int.toNat (F0 7 2 - F0 7 4)) (F0 7 4))
    | _, _, _ => False) (False)
def quX7_advance_7 : Nat → LVs → List AV → FF → AA → Nat := fun pc ls _ F A => cond (Nat.beq pc 8) (match ls with
    | [some (.inr (.inr s0)), none] => Int.toNat (F 7 2 - F 7 3 + 1)
    | _ => 0) (0)
set_option maxRecDepth 20000 in
theorem qvX7_advance_7_0  (F0 : FF) (A0 : AA) (K : KK) (h : ((0 ≤ (F0 7 2) ∧ (F0 7 2) ≤ 800) ∧ 0 ≤ (F0 7 4) ∧ (F0 7 4) ≤ (F0 7 2)) ∧ (K (some none) (tkS F0 (nxT (A0 8) ((F0 7 2)) (tkF F0))) A0)) : am_stp qxX7_advance (am_run qxX7_advance qnX7_advance_7 (qiX7_advance_7  F0 A0) K 50) K 0 (am_ent [vR 7] 2) [] F0 A0 0 := by
  show am_stp qxX7_advance (am_run qxX7_advance qnX7_advance_7 (qiX7_advance_7  F0 A0) K 50) K 0 [some (vR 7), none] [] F0 A0 0
  obtain ⟨hp, h⟩ := h
  obtain ⟨p1, p2'⟩ := hp
  show 7 = 7 ∧ A0 = A0 ∧ ((∀ a b, a ≠ 7 ∨ b ≠ 3 → (upF F0 7 3 (F0 7 4)) a b = F0 a b) ∧ (F0 7 4 ≤ (upF F0 7 3 (F0 7 4)) 7 3 ∧ (upF F0 7 3 (F0 7 4)) 7 3 ≤ F0 7 2) ∧ runB (A0 8) (F0 7 2) (Int.toNat (F0 7 2 - (upF F0 7 3 (F0 7 4)) 7 3)) ((upF F0 7 3 (F0 7 4)) 7 3) = runB (A0 8) (F0 7 2) (Int.toNat (F0 7 2 - F0 7 4)) (F0 7 4))
  refine ⟨rfl, rfl, ?_⟩
  simp only [upF_s, upF_o (show (7 : Nat) ≠ 7 ∨ (1 : Nat) ≠ 3 by decide), upF_o (show (7 : Nat) ≠ 7 ∨ (2 : Nat) ≠ 3 by decide), upF_o (show (7 : Nat) ≠ 7 ∨ (4 : Nat) ≠ 3 by decide), upF_o (show (7 : Nat) ≠ 7 ∨ (5 : Nat) ≠ 3 by decide), upF_o (show (7 : Nat) ≠ 7 ∨ (6 : Nat) ≠ 3 by decide), upF_o (show (7 : Nat) ≠ 7 ∨ (7 : Nat) ≠ 3 by decide)]
  refine ⟨fun a b hab => upF_o (by omega), by omega, trivial⟩
set_option maxRecDepth 20000 in
theorem qvX7_advance_7_8  (F0 : FF) (A0 : AA) (K : KK) (h : ((0 ≤ (F0 7 2) ∧ (F0 7 2) ≤ 800) ∧ 0 ≤ (F0 7 4) ∧ (F0 7 4) ≤ (F0 7 2)) ∧ (K (some none) (tkS F0 (nxT (A0 8) ((F0 7 2)) (tkF F0))) A0))  (F : FF) (hi : (∀ a b, a ≠ 7 ∨ b ≠ 3 → F a b = F0 a b) ∧ (F0 7 4 ≤ F 7 3 ∧ F 7 3 ≤ F0 7 2) ∧ runB (A0 8) (F0 7 2) (Int.toNat (F0 7 2 - F 7 3)) (F 7 3) = runB (A0 8) (F0 7 2) (Int.toNat (F0 7 2 - F0 7 4)) (F0 7 4)) : am_stp qxX7_advance (am_run qxX7_advance qnX7_advance_7 (fun pc ls st F9 A9 u => qiX7_advance_7  F0 A0 pc ls st F9 A9 u ∧ quX7_advance_7 pc ls st F9 A9 < quX7_advance_7 8 [some (vR 7), none] [] F A0) K 50) K 8 [some (vR 7), none] [] F A0 0 := by
  obtain ⟨hp, h⟩ := h
  obtain ⟨p1, p2'⟩ := hp
  obtain ⟨hF, h1, h2⟩ := hi
  have f2 : F 7 2 = F0 7 2 := hF 7 2 (by decide)
  have f4 : F 7 4 = F0 7 4 := hF 7 4 (by decide)
  have sb := sgT_b (A0 8) (F0 7 2) (F 7 3)
  show (w32 (F 7 3) < w32 (F 7 2) → (((0 ≤ (F 7 2) ∧ (F 7 2) ≤ 800) ∧ (-2147483648 ≤ (F 7 3) ∧ (F 7 3) < 2147483648)) ∧ ((w32 (bi (blP (w32 (sgT (A0 8) ((F 7 2)) (F 7 3))))) = w32 0 → (((0 ≤ (F 7 2) ∧ (F 7 2) ≤ 800) ∧ (-2147483648 ≤ (F 7 3) ∧ (F 7 3) < 2147483648)) ∧ ((w32 (F 7 3) < w32 (F 7 2) → ((w32 (bi (ltP (w32 (sgT (A0 8) ((F 7 2)) (F 7 3))))) = w32 0 → ((w32 (bi (dgP (w32 (sgT (A0 8) ((F 7 2)) (F 7 3))))) = w32 0 → ((w32 (sgT (A0 8) ((F 7 2)) (F 7 3)) = w32 59 → (K (some none) (upF (upF (upF F 7 4 (F 7 3)) 7 5 2) 7 4 ((F 7 3) + 1)) A0)) ∧ (¬ w32 (sgT (A0 8) ((F 7 2)) (F 7 3)) = w32 59 → ((w32 (sgT (A0 8) ((F 7 2)) (F 7 3)) = w32 45 → (K (some none) (upF (upF (upF F 7 4 (F 7 3)) 7 5 3) 7 4 ((F 7 3) + 1)) A0)) ∧ (¬ w32 (sgT (A0 8) ((F 7 2)) (F 7 3)) = w32 45 → (K (some none) (upF (upF (upF F 7 4 (F 7 3)) 7 5 4) 7 4 ((F 7 3) + 1)) A0)))))) ∧ (¬ w32 (bi (dgP (w32 (sgT (A0 8) ((F 7 2)) (F 7 3))))) = w32 0 → (((0 ≤ (F 7 2) ∧ (F 7 2) ≤ 800) ∧ (0 ≤ (F 7 3) ∧ (F 7 3) ≤ (F 7 2)) ∧ (F 7 3) = (F 7 3)) ∧ (∀ (G_1 : FF), ((∀ a b, a ≠ 7 ∨ (b ≠ 4 ∧ b ≠ 5 ∧ b ≠ 6) → G_1 a b = (upF F 7 4 (F 7 3)) a b) ∧ G_1 7 4 = runD (A0 8) ((F 7 2)) (Int.toNat ((F 7 2) - (F 7 3))) ((F 7 3)) ∧ G_1 7 5 = 1 ∧ G_1 7 6 = ivF (A0 8) ((F 7 2)) ((F 7 3)) (Int.toNat (runD (A0 8) ((F 7 2)) (Int.toNat ((F 7 2) - (F 7 3))) ((F 7 3)) - (F 7 3)))) → (K (some none) G_1 A0)))))) ∧ (¬ w32 (bi (ltP (w32 (sgT (A0 8) ((F 7 2)) (F 7 3))))) = w32 0 → (((0 ≤ (F 7 2) ∧ (F 7 2) ≤ 800) ∧ (0 ≤ (F 7 3) ∧ (F 7 3) ≤ (F 7 2)) ∧ (F 7 3) = (F 7 3)) ∧ (∀ (G_1 : FF), ((∀ a b, a ≠ 7 ∨ (b ≠ 4 ∧ b ≠ 5 ∧ b ≠ 6) → G_1 a b = (upF F 7 4 (F 7 3)) a b) ∧ G_1 7 4 = runL (A0 8) ((F 7 2)) (Int.toNat ((F 7 2) - (F 7 3))) ((F 7 3)) ∧ G_1 7 5 = 0 ∧ G_1 7 6 = (if runL (A0 8) ((F 7 2)) (Int.toNat ((F 7 2) - (F 7 3))) ((F 7 3)) - (F 7 3) ≤ 6 then ltF (A0 8) ((F 7 2)) ((F 7 3)) (Int.toNat (runL (A0 8) ((F 7 2)) (Int.toNat ((F 7 2) - (F 7 3))) ((F 7 3)) - (F 7 3))) else 0)) → (K (some none) G_1 A0)))))) ∧ (¬ w32 (F 7 3) < w32 (F 7 2) → (K (some none) (upF (upF F 7 4 (F 7 3)) 7 5 5) A0))))) ∧ (¬ w32 (bi (blP (w32 (sgT (A0 8) ((F 7 2)) (F 7 3))))) = w32 0 → ((7 = 7 ∧ A0 = A0 ∧ ((∀ a b, a ≠ 7 ∨ b ≠ 3 → (upF F 7 3 ((F 7 3) + 1)) a b = F0 a b) ∧ (F0 7 4 ≤ (upF F 7 3 ((F 7 3) + 1)) 7 3 ∧ (upF F 7 3 ((F 7 3) + 1)) 7 3 ≤ F0 7 2) ∧ runB (A0 8) (F0 7 2) (Int.toNat (F0 7 2 - (upF F 7 3 ((F 7 3) + 1)) 7 3)) ((upF F 7 3 ((F 7 3) + 1)) 7 3) = runB (A0 8) (F0 7 2) (Int.toNat (F0 7 2 - F0 7 4)) (F0 7 4))) ∧ (Int.toNat ((upF F 7 3 ((F 7 3) + 1)) 7 2 - (upF F 7 3 ((F 7 3) + 1)) 7 3 + 1)) < (Int.toNat (F 7 2 - F 7 3 + 1))))))) ∧ (¬ w32 (F 7 3) < w32 (F 7 2) → (((0 ≤ (F 7 2) ∧ (F 7 2) ≤ 800) ∧ (-2147483648 ≤ (F 7 3) ∧ (F 7 3) < 2147483648)) ∧ ((w32 (F 7 3) < w32 (F 7 2) → ((w32 (bi (ltP (w32 (sgT (A0 8) ((F 7 2)) (F 7 3))))) = w32 0 → ((w32 (bi (dgP (w32 (sgT (A0 8) ((F 7 2)) (F 7 3))))) = w32 0 → ((w32 (sgT (A0 8) ((F 7 2)) (F 7 3)) = w32 59 → (K (some none) (upF (upF (upF F 7 4 (F 7 3)) 7 5 2) 7 4 ((F 7 3) + 1)) A0)) ∧ (¬ w32 (sgT (A0 8) ((F 7 2)) (F 7 3)) = w32 59 → ((w32 (sgT (A0 8) ((F 7 2)) (F 7 3)) = w32 45 → (K (some none) (upF (upF (upF F 7 4 (F 7 3)) 7 5 3) 7 4 ((F 7 3) + 1)) A0)) ∧ (¬ w32 (sgT (A0 8) ((F 7 2)) (F 7 3)) = w32 45 → (K (some none) (upF (upF (upF F 7 4 (F 7 3)) 7 5 4) 7 4 ((F 7 3) + 1)) A0)))))) ∧ (¬ w32 (bi (dgP (w32 (sgT (A0 8) ((F 7 2)) (F 7 3))))) = w32 0 → (((0 ≤ (F 7 2) ∧ (F 7 2) ≤ 800) ∧ (0 ≤ (F 7 3) ∧ (F 7 3) ≤ (F 7 2)) ∧ (F 7 3) = (F 7 3)) ∧ (∀ (G_1 : FF), ((∀ a b, a ≠ 7 ∨ (b ≠ 4 ∧ b ≠ 5 ∧ b ≠ 6) → G_1 a b = (upF F 7 4 (F 7 3)) a b) ∧ G_1 7 4 = runD (A0 8) ((F 7 2)) (Int.toNat ((F 7 2) - (F 7 3))) ((F 7 3)) ∧ G_1 7 5 = 1 ∧ G_1 7 6 = ivF (A0 8) ((F 7 2)) ((F 7 3)) (Int.toNat (runD (A0 8) ((F 7 2)) (Int.toNat ((F 7 2) - (F 7 3))) ((F 7 3)) - (F 7 3)))) → (K (some none) G_1 A0)))))) ∧ (¬ w32 (bi (ltP (w32 (sgT (A0 8) ((F 7 2)) (F 7 3))))) = w32 0 → (((0 ≤ (F 7 2) ∧ (F 7 2) ≤ 800) ∧ (0 ≤ (F 7 3) ∧ (F 7 3) ≤ (F 7 2)) ∧ (F 7 3) = (F 7 3)) ∧ (∀ (G_1 : FF), ((∀ a b, a ≠ 7 ∨ (b ≠ 4 ∧ b ≠ 5 ∧ b ≠ 6) → G_1 a b = (upF F 7 4 (F 7 3)) a b) ∧ G_1 7 4 = runL (A0 8) ((F 7 2)) (Int.toNat ((F 7 2) - (F 7 3))) ((F 7 3)) ∧ G_1 7 5 = 0 ∧ G_1 7 6 = (if runL (A0 8) ((F 7 2)) (Int.toNat ((F 7 2) - (F 7 3))) ((F 7 3)) - (F 7 3) ≤ 6 then ltF (A0 8) ((F 7 2)) ((F 7 3)) (Int.toNat (runL (A0 8) ((F 7 2)) (Int.toNat ((F 7 2) - (F 7 3))) ((F 7 3)) - (F 7 3))) else 0)) → (K (some none) G_1 A0)))))) ∧ (¬ w32 (F 7 3) < w32 (F 7 2) → (K (some none) (upF (upF F 7 4 (F 7 3)) 7 5 5) A0)))))
  refine ⟨fun c1 => ?_, fun c1 => ?_⟩
  · skip
    (try simp only [f2, f4] at c1); (try simp (disch := omega) only [w32_0, wbi0, Classical.not_not, w32_id] at c1); (try (rw [w32_id (x := sgT (A0 8) (F0 7 2) (F 7 3)) (by omega) (by omega)] at c1))
    refine ⟨by first | omega | (simp only [upF_s, upF_o (show (7 : Nat) ≠ 7 ∨ (1 : Nat) ≠ 3 by decide), upF_o (show (7 : Nat) ≠ 7 ∨ (1 : Nat) ≠ 4 by decide), upF_o (show (7 : Nat) ≠ 7 ∨ (1 : Nat) ≠ 5 by decide), upF_o (show (7 : Nat) ≠ 7 ∨ (1 : Nat) ≠ 6 by decide), upF_o (show (7 : Nat) ≠ 7 ∨ (2 : Nat) ≠ 3 by decide), upF_o (show (7 : Nat) ≠ 7 ∨ (2 : Nat) ≠ 4 by decide), upF_o (show (7 : Nat) ≠ 7 ∨ (2 : Nat) ≠ 5 by decide), upF_o (show (7 : Nat) ≠ 7 ∨ (2 : Nat) ≠ 6 by decide), upF_o (show (7 : Nat) ≠ 7 ∨ (3 : Nat) ≠ 4 by decide), upF_o (show (7 : Nat) ≠ 7 ∨ (3 : Nat) ≠ 5 by decide), upF_o (show (7 : Nat) ≠ 7 ∨ (3 : Nat) ≠ 6 by decide), upF_o (show (7 : Nat) ≠ 7 ∨ (4 : Nat) ≠ 3 by decide), upF_o (show (7 : Nat) ≠ 7 ∨ (4 : Nat) ≠ 5 by decide), upF_o (show (7 : Nat) ≠ 7 ∨ (4 : Nat) ≠ 6 by decide), upF_o (show (7 : Nat) ≠ 7 ∨ (5 : Nat) ≠ 3 by decide), upF_o (show (7 : Nat) ≠ 7 ∨ (5 : Nat) ≠ 4 by decide), upF_o (show (7 : Nat) ≠ 7 ∨ (5 : Nat) ≠ 6 by decide), upF_o (show (7 : Nat) ≠ 7 ∨ (6 : Nat) ≠ 3 by decide), upF_o (show (7 : Nat) ≠ 7 ∨ (6 : Nat) ≠ 4 by decide), upF_o (show (7 : Nat) ≠ 7 ∨ (6 : Nat) ≠ 5 by decide), upF_o (show (7 : Nat) ≠ 7 ∨ (7 : Nat) ≠ 3 by decide), upF_o (show (7 : Nat) ≠ 7 ∨ (7 : Nat) ≠ 4 by decide), upF_o (show (7 : Nat) ≠ 7 ∨ (7 : Nat) ≠ 5 by decide), upF_o (show (7 : Nat) ≠ 7 ∨ (7 : Nat) ≠ 6 by decide)]; omega), ?_⟩
    refine ⟨fun c2 => ?_, fun c2 => ?_⟩
    · skip
      (try simp only [f2, f4] at c2); (try simp (disch := omega) only [w32_0, wbi0, Classical.not_not, w32_id] at c2); (try (rw [w32_id (x := sgT (A0 8) (F0 7 2) (F 7 3)) (by omega) (by omega)] at c2))
      refine ⟨by first | omega | (simp only [upF_s, upF_o (show (7 : Nat) ≠ 7 ∨ (1 : Nat) ≠ 3 by decide), upF_o (show (7 : Nat) ≠ 7 ∨ (1 : Nat) ≠ 4 by decide), upF_o (show (7 : Nat) ≠ 7 ∨ (1 : Nat) ≠ 5 by decide), upF_o (show (7 : Nat) ≠ 7 ∨ (1 : Nat) ≠ 6 by decide), upF_o (show (7 : Nat) ≠ 7 ∨ (2 : Nat) ≠ 3 by decide), upF_o (show (7 : Nat) ≠ 7 ∨ (2 : Nat) ≠ 4 by decide), upF_o (show (7 : Nat) ≠ 7 ∨ (2 : Nat) ≠ 5 by decide), upF_o (show (7 : Nat) ≠ 7 ∨ (2 : Nat) ≠ 6 by decide), upF_o (show (7 : Nat) ≠ 7 ∨ (3 : Nat) ≠ 4 by decide), upF_o (show (7 : Nat) ≠ 7 ∨ (3 : Nat) ≠ 5 by decide), upF_o (show (7 : Nat) ≠ 7 ∨ (3 : Nat) ≠ 6 by decide), upF_o (show (7 : Nat) ≠ 7 ∨ (4 : Nat) ≠ 3 by decide), upF_o (show (7 : Nat) ≠ 7 ∨ (4 : Nat) ≠ 5 by decide), upF_o (show (7 : Nat) ≠ 7 ∨ (4 : Nat) ≠ 6 by decide), upF_o (show (7 : Nat) ≠ 7 ∨ (5 : Nat) ≠ 3 by decide), upF_o (show (7 : Nat) ≠ 7 ∨ (5 : Nat) ≠ 4 by decide), upF_o (show (7 : Nat) ≠ 7 ∨ (5 : Nat) ≠ 6 by decide), upF_o (show (7 : Nat) ≠ 7 ∨ (6 : Nat) ≠ 3 by decide), upF_o (show (7 : Nat) ≠ 7 ∨ (6 : Nat) ≠ 4 by decide), upF_o (show (7 : Nat) ≠ 7 ∨ (6 : Nat) ≠ 5 by decide), upF_o (show (7 : Nat) ≠ 7 ∨ (7 : Nat) ≠ 3 by decide), upF_o (show (7 : Nat) ≠ 7 ∨ (7 : Nat) ≠ 4 by decide), upF_o (show (7 : Nat) ≠ 7 ∨ (7 : Nat) ≠ 5 by decide), upF_o (show (7 : Nat) ≠ 7 ∨ (7 : Nat) ≠ 6 by decide)]; omega), ?_⟩
      refine ⟨fun c3 => ?_, fun c3 => ?_⟩
      · skip
        (try simp only [f2, f4] at c3); (try simp (disch := omega) only [w32_0, wbi0, Classical.not_not, w32_id] at c3); (try (rw [w32_id (x := sgT (A0 8) (F0 7 2) (F 7 3)) (by omega) (by omega)] at c3))
        refine ⟨fun c4 => ?_, fun c4 => ?_⟩
        · skip
          (try simp only [f2, f4] at c4); (try simp (disch := omega) only [w32_0, wbi0, Classical.not_not, w32_id] at c4); (try (rw [w32_id (x := sgT (A0 8) (F0 7 2) (F 7 3)) (by omega) (by omega)] at c4))
          refine ⟨fun c5 => ?_, fun c5 => ?_⟩
          · skip
            (try simp only [f2, f4] at c5); (try simp (disch := omega) only [w32_0, wbi0, Classical.not_not, w32_id] at c5); (try (rw [w32_id (x := sgT (A0 8) (F0 7 2) (F 7 3)) (by omega) (by omega)] at c5))
            refine ⟨fun c6 => ?_, fun c6 => ?_⟩
            · skip
              (try simp only [f2, f4] at c6); (try simp (disch := omega) only [w32_0, wbi0, Classical.not_not, w32_id] at c6); (try (rw [w32_id (x := sgT (A0 8) (F0 7 2) (F 7 3)) (by omega) (by omega)] at c6))
              have ep : F 7 3 = runB (A0 8) (F0 7 2) (Int.toNat (F0 7 2 - F0 7 4)) (F0 7 4) := by
                rw [← h2]
                first
                | exact (runB_0 (by omega)).symm
                | (have rs := runB_s (T := A0 8) (n := F0 7 2) (p := F 7 3) (by omega)
                   rw [if_neg c2] at rs
                   exact rs.symm)
              have ad : adF (A0 8) (F0 7 2) (F0 7 4) (F0 7 6) = adQ (A0 8) (F0 7 2) (F0 7 6) (F 7 3) := by rw [adF_q, ← ep]
              unfold adQ at ad
              rw [if_neg (by omega), if_neg c4, if_neg c5, if_pos c6] at ad
              exact FA_eq h rfl (tkP_S (show tkP F0 _ (adF (A0 8) (F0 7 2) (F0 7 4) (F0 7 6)) from by rw [ad]; exact ⟨fun a b hab => by rw [upF_o (by omega), upF_o (by omega), upF_o (by omega)]; exact hF a b (by omega), by simp only [upF_s, upF_o (show (7 : Nat) ≠ 7 ∨ (1 : Nat) ≠ 4 by decide), upF_o (show (7 : Nat) ≠ 7 ∨ (1 : Nat) ≠ 5 by decide), upF_o (show (7 : Nat) ≠ 7 ∨ (2 : Nat) ≠ 4 by decide), upF_o (show (7 : Nat) ≠ 7 ∨ (2 : Nat) ≠ 5 by decide), upF_o (show (7 : Nat) ≠ 7 ∨ (3 : Nat) ≠ 4 by decide), upF_o (show (7 : Nat) ≠ 7 ∨ (3 : Nat) ≠ 5 by decide), upF_o (show (7 : Nat) ≠ 7 ∨ (4 : Nat) ≠ 5 by decide), upF_o (show (7 : Nat) ≠ 7 ∨ (5 : Nat) ≠ 4 by decide), upF_o (show (7 : Nat) ≠ 7 ∨ (6 : Nat) ≠ 4 by decide), upF_o (show (7 : Nat) ≠ 7 ∨ (6 : Nat) ≠ 5 by decide), upF_o (show (7 : Nat) ≠ 7 ∨ (7 : Nat) ≠ 4 by decide), upF_o (show (7 : Nat) ≠ 7 ∨ (7 : Nat) ≠ 5 by decide)], by simp only [upF_s, upF_o (show (7 : Nat) ≠ 7 ∨ (1 : Nat) ≠ 4 by decide), upF_o (show (7 : Nat) ≠ 7 ∨ (1 : Nat) ≠ 5 by decide), upF_o (show (7 : Nat) ≠ 7 ∨ (2 : Nat) ≠ 4 by decide), upF_o (show (7 : Nat) ≠ 7 ∨ (2 : Nat) ≠ 5 by decide), upF_o (show (7 : Nat) ≠ 7 ∨ (3 : Nat) ≠ 4 by decide), upF_o (show (7 : Nat) ≠ 7 ∨ (3 : Nat) ≠ 5 by decide), upF_o (show (7 : Nat) ≠ 7 ∨ (4 : Nat) ≠ 5 by decide), upF_o (show (7 : Nat) ≠ 7 ∨ (5 : Nat) ≠ 4 by decide), upF_o (show (7 : Nat) ≠ 7 ∨ (6 : Nat) ≠ 4 by decide), upF_o (show (7 : Nat) ≠ 7 ∨ (6 : Nat) ≠ 5 by decide), upF_o (show (7 : Nat) ≠ 7 ∨ (7 : Nat) ≠ 4 by decide), upF_o (show (7 : Nat) ≠ 7 ∨ (7 : Nat) ≠ 5 by decide)], by simp only [upF_s, upF_o (show (7 : Nat) ≠ 7 ∨ (1 : Nat) ≠ 4 by decide), upF_o (show (7 : Nat) ≠ 7 ∨ (1 : Nat) ≠ 5 by decide), upF_o (show (7 : Nat) ≠ 7 ∨ (2 : Nat) ≠ 4 by decide), upF_o (show (7 : Nat) ≠ 7 ∨ (2 : Nat) ≠ 5 by decide), upF_o (show (7 : Nat) ≠ 7 ∨ (3 : Nat) ≠ 4 by decide), upF_o (show (7 : Nat) ≠ 7 ∨ (3 : Nat) ≠ 5 by decide), upF_o (show (7 : Nat) ≠ 7 ∨ (4 : Nat) ≠ 5 by decide), upF_o (show (7 : Nat) ≠ 7 ∨ (5 : Nat) ≠ 4 by decide), upF_o (show (7 : Nat) ≠ 7 ∨ (6 : Nat) ≠ 4 by decide), upF_o (show (7 : Nat) ≠ 7 ∨ (6 : Nat) ≠ 5 by decide), upF_o (show (7 : Nat) ≠ 7 ∨ (7 : Nat) ≠ 4 by decide), upF_o (show (7 : Nat) ≠ 7 ∨ (7 : Nat) ≠ 5 by decide)], by simp only [upF_s, upF_o (show (7 : Nat) ≠ 7 ∨ (1 : Nat) ≠ 4 by decide), upF_o (show (7 : Nat) ≠ 7 ∨ (1 : Nat) ≠ 5 by decide), upF_o (show (7 : Nat) ≠ 7 ∨ (2 : Nat) ≠ 4 by decide), upF_o (show (7 : Nat) ≠ 7 ∨ (2 : Nat) ≠ 5 by decide), upF_o (show (7 : Nat) ≠ 7 ∨ (3 : Nat) ≠ 4 by decide), upF_o (show (7 : Nat) ≠ 7 ∨ (3 : Nat) ≠ 5 by decide), upF_o (show (7 : Nat) ≠ 7 ∨ (4 : Nat) ≠ 5 by decide), upF_o (show (7 : Nat) ≠ 7 ∨ (5 : Nat) ≠ 4 by decide), upF_o (show (7 : Nat) ≠ 7 ∨ (6 : Nat) ≠ 4 by decide), upF_o (show (7 : Nat) ≠ 7 ∨ (6 : Nat) ≠ 5 by decide), upF_o (show (7 : Nat) ≠ 7 ∨ (7 : Nat) ≠ 4 by decide), upF_o (show (7 : Nat) ≠ 7 ∨ (7 : Nat) ≠ 5 by decide)]; exact hF 7 6 (by decide)⟩)).symm rfl
            · skip
              (try simp only [f2, f4] at c6); (try simp (disch := omega) only [w32_0, wbi0, Classical.not_not, w32_id] at c6); (try (rw [w32_id (x := sgT (A0 8) (F0 7 2) (F 7 3)) (by omega) (by omega)] at c6))
              refine ⟨fun c7 => ?_, fun c7 => ?_⟩
              · skip
                (try simp only [f2, f4] at c7); (try simp (disch := omega) only [w32_0, wbi0, Classical.not_not, w32_id] at c7); (try (rw [w32_id (x := sgT (A0 8) (F0 7 2) (F 7 3)) (by omega) (by omega)] at c7))
                have ep : F 7 3 = runB (A0 8) (F0 7 2) (Int.toNat (F0 7 2 - F0 7 4)) (F0 7 4) := by
                  rw [← h2]
                  first
                  | exact (runB_0 (by omega)).symm
                  | (have rs := runB_s (T := A0 8) (n := F0 7 2) (p := F 7 3) (by omega)
                     rw [if_neg c2] at rs
                     exact rs.symm)
                have ad : adF (A0 8) (F0 7 2) (F0 7 4) (F0 7 6) = adQ (A0 8) (F0 7 2) (F0 7 6) (F 7 3) := by rw [adF_q, ← ep]
                unfold adQ at ad
                rw [if_neg (by omega), if_neg c4, if_neg c5, if_neg c6, if_pos c7] at ad
                exact FA_eq h rfl (tkP_S (show tkP F0 _ (adF (A0 8) (F0 7 2) (F0 7 4) (F0 7 6)) from by rw [ad]; exact ⟨fun a b hab => by rw [upF_o (by omega), upF_o (by omega), upF_o (by omega)]; exact hF a b (by omega), by simp only [upF_s, upF_o (show (7 : Nat) ≠ 7 ∨ (1 : Nat) ≠ 4 by decide), upF_o (show (7 : Nat) ≠ 7 ∨ (1 : Nat) ≠ 5 by decide), upF_o (show (7 : Nat) ≠ 7 ∨ (2 : Nat) ≠ 4 by decide), upF_o (show (7 : Nat) ≠ 7 ∨ (2 : Nat) ≠ 5 by decide), upF_o (show (7 : Nat) ≠ 7 ∨ (3 : Nat) ≠ 4 by decide), upF_o (show (7 : Nat) ≠ 7 ∨ (3 : Nat) ≠ 5 by decide), upF_o (show (7 : Nat) ≠ 7 ∨ (4 : Nat) ≠ 5 by decide), upF_o (show (7 : Nat) ≠ 7 ∨ (5 : Nat) ≠ 4 by decide), upF_o (show (7 : Nat) ≠ 7 ∨ (6 : Nat) ≠ 4 by decide), upF_o (show (7 : Nat) ≠ 7 ∨ (6 : Nat) ≠ 5 by decide), upF_o (show (7 : Nat) ≠ 7 ∨ (7 : Nat) ≠ 4 by decide), upF_o (show (7 : Nat) ≠ 7 ∨ (7 : Nat) ≠ 5 by decide)], by simp only [upF_s, upF_o (show (7 : Nat) ≠ 7 ∨ (1 : Nat) ≠ 4 by decide), upF_o (show (7 : Nat) ≠ 7 ∨ (1 : Nat) ≠ 5 by decide), upF_o (show (7 : Nat) ≠ 7 ∨ (2 : Nat) ≠ 4 by decide), upF_o (show (7 : Nat) ≠ 7 ∨ (2 : Nat) ≠ 5 by decide), upF_o (show (7 : Nat) ≠ 7 ∨ (3 : Nat) ≠ 4 by decide), upF_o (show (7 : Nat) ≠ 7 ∨ (3 : Nat) ≠ 5 by decide), upF_o (show (7 : Nat) ≠ 7 ∨ (4 : Nat) ≠ 5 by decide), upF_o (show (7 : Nat) ≠ 7 ∨ (5 : Nat) ≠ 4 by decide), upF_o (show (7 : Nat) ≠ 7 ∨ (6 : Nat) ≠ 4 by decide), upF_o (show (7 : Nat) ≠ 7 ∨ (6 : Nat) ≠ 5 by decide), upF_o (show (7 : Nat) ≠ 7 ∨ (7 : Nat) ≠ 4 by decide), upF_o (show (7 : Nat) ≠ 7 ∨ (7 : Nat) ≠ 5 by decide)], by simp only [upF_s, upF_o (show (7 : Nat) ≠ 7 ∨ (1 : Nat) ≠ 4 by decide), upF_o (show (7 : Nat) ≠ 7 ∨ (1 : Nat) ≠ 5 by decide), upF_o (show (7 : Nat) ≠ 7 ∨ (2 : Nat) ≠ 4 by decide), upF_o (show (7 : Nat) ≠ 7 ∨ (2 : Nat) ≠ 5 by decide), upF_o (show (7 : Nat) ≠ 7 ∨ (3 : Nat) ≠ 4 by decide), upF_o (show (7 : Nat) ≠ 7 ∨ (3 : Nat) ≠ 5 by decide), upF_o (show (7 : Nat) ≠ 7 ∨ (4 : Nat) ≠ 5 by decide), upF_o (show (7 : Nat) ≠ 7 ∨ (5 : Nat) ≠ 4 by decide), upF_o (show (7 : Nat) ≠ 7 ∨ (6 : Nat) ≠ 4 by decide), upF_o (show (7 : Nat) ≠ 7 ∨ (6 : Nat) ≠ 5 by decide), upF_o (show (7 : Nat) ≠ 7 ∨ (7 : Nat) ≠ 4 by decide), upF_o (show (7 : Nat) ≠ 7 ∨ (7 : Nat) ≠ 5 by decide)], by simp only [upF_s, upF_o (show (7 : Nat) ≠ 7 ∨ (1 : Nat) ≠ 4 by decide), upF_o (show (7 : Nat) ≠ 7 ∨ (1 : Nat) ≠ 5 by decide), upF_o (show (7 : Nat) ≠ 7 ∨ (2 : Nat) ≠ 4 by decide), upF_o (show (7 : Nat) ≠ 7 ∨ (2 : Nat) ≠ 5 by decide), upF_o (show (7 : Nat) ≠ 7 ∨ (3 : Nat) ≠ 4 by decide), upF_o (show (7 : Nat) ≠ 7 ∨ (3 : Nat) ≠ 5 by decide), upF_o (show (7 : Nat) ≠ 7 ∨ (4 : Nat) ≠ 5 by decide), upF_o (show (7 : Nat) ≠ 7 ∨ (5 : Nat) ≠ 4 by decide), upF_o (show (7 : Nat) ≠ 7 ∨ (6 : Nat) ≠ 4 by decide), upF_o (show (7 : Nat) ≠ 7 ∨ (6 : Nat) ≠ 5 by decide), upF_o (show (7 : Nat) ≠ 7 ∨ (7 : Nat) ≠ 4 by decide), upF_o (show (7 : Nat) ≠ 7 ∨ (7 : Nat) ≠ 5 by decide)]; exact hF 7 6 (by decide)⟩)).symm rfl
              · skip
                (try simp only [f2, f4] at c7); (try simp (disch := omega) only [w32_0, wbi0, Classical.not_not, w32_id] at c7); (try (rw [w32_id (x := sgT (A0 8) (F0 7 2) (F 7 3)) (by omega) (by omega)] at c7))
                have ep : F 7 3 = runB (A0 8) (F0 7 2) (Int.toNat (F0 7 2 - F0 7 4)) (F0 7 4) := by
                  rw [← h2]
                  first
                  | exact (runB_0 (by omega)).symm
                  | (have rs := runB_s (T := A0 8) (n := F0 7 2) (p := F 7 3) (by omega)
                     rw [if_neg c2] at rs
                     exact rs.symm)
                have ad : adF (A0 8) (F0 7 2) (F0 7 4) (F0 7 6) = adQ (A0 8) (F0 7 2) (F0 7 6) (F 7 3) := by rw [adF_q, ← ep]
                unfold adQ at ad
                rw [if_neg (by omega), if_neg c4, if_neg c5, if_neg c6, if_neg c7] at ad
                exact FA_eq h rfl (tkP_S (show tkP F0 _ (adF (A0 8) (F0 7 2) (F0 7 4) (F0 7 6)) from by rw [ad]; exact ⟨fun a b hab => by rw [upF_o (by omega), upF_o (by omega), upF_o (by omega)]; exact hF a b (by omega), by simp only [upF_s, upF_o (show (7 : Nat) ≠ 7 ∨ (1 : Nat) ≠ 4 by decide), upF_o (show (7 : Nat) ≠ 7 ∨ (1 : Nat) ≠ 5 by decide), upF_o (show (7 : Nat) ≠ 7 ∨ (2 : Nat) ≠ 4 by decide), upF_o (show (7 : Nat) ≠ 7 ∨ (2 : Nat) ≠ 5 by decide), upF_o (show (7 : Nat) ≠ 7 ∨ (3 : Nat) ≠ 4 by decide), upF_o (show (7 : Nat) ≠ 7 ∨ (3 : Nat) ≠ 5 by decide), upF_o (show (7 : Nat) ≠ 7 ∨ (4 : Nat) ≠ 5 by decide), upF_o (show (7 : Nat) ≠ 7 ∨ (5 : Nat) ≠ 4 by decide), upF_o (show (7 : Nat) ≠ 7 ∨ (6 : Nat) ≠ 4 by decide), upF_o (show (7 : Nat) ≠ 7 ∨ (6 : Nat) ≠ 5 by decide), upF_o (show (7 : Nat) ≠ 7 ∨ (7 : Nat) ≠ 4 by decide), upF_o (show (7 : Nat) ≠ 7 ∨ (7 : Nat) ≠ 5 by decide)], by simp only [upF_s, upF_o (show (7 : Nat) ≠ 7 ∨ (1 : Nat) ≠ 4 by decide), upF_o (show (7 : Nat) ≠ 7 ∨ (1 : Nat) ≠ 5 by decide), upF_o (show (7 : Nat) ≠ 7 ∨ (2 : Nat) ≠ 4 by decide), upF_o (show (7 : Nat) ≠ 7 ∨ (2 : Nat) ≠ 5 by decide), upF_o (show (7 : Nat) ≠ 7 ∨ (3 : Nat) ≠ 4 by decide), upF_o (show (7 : Nat) ≠ 7 ∨ (3 : Nat) ≠ 5 by decide), upF_o (show (7 : Nat) ≠ 7 ∨ (4 : Nat) ≠ 5 by decide), upF_o (show (7 : Nat) ≠ 7 ∨ (5 : Nat) ≠ 4 by decide), upF_o (show (7 : Nat) ≠ 7 ∨ (6 : Nat) ≠ 4 by decide), upF_o (show (7 : Nat) ≠ 7 ∨ (6 : Nat) ≠ 5 by decide), upF_o (show (7 : Nat) ≠ 7 ∨ (7 : Nat) ≠ 4 by decide), upF_o (show (7 : Nat) ≠ 7 ∨ (7 : Nat) ≠ 5 by decide)], by simp only [upF_s, upF_o (show (7 : Nat) ≠ 7 ∨ (1 : Nat) ≠ 4 by decide), upF_o (show (7 : Nat) ≠ 7 ∨ (1 : Nat) ≠ 5 by decide), upF_o (show (7 : Nat) ≠ 7 ∨ (2 : Nat) ≠ 4 by decide), upF_o (show (7 : Nat) ≠ 7 ∨ (2 : Nat) ≠ 5 by decide), upF_o (show (7 : Nat) ≠ 7 ∨ (3 : Nat) ≠ 4 by decide), upF_o (show (7 : Nat) ≠ 7 ∨ (3 : Nat) ≠ 5 by decide), upF_o (show (7 : Nat) ≠ 7 ∨ (4 : Nat) ≠ 5 by decide), upF_o (show (7 : Nat) ≠ 7 ∨ (5 : Nat) ≠ 4 by decide), upF_o (show (7 : Nat) ≠ 7 ∨ (6 : Nat) ≠ 4 by decide), upF_o (show (7 : Nat) ≠ 7 ∨ (6 : Nat) ≠ 5 by decide), upF_o (show (7 : Nat) ≠ 7 ∨ (7 : Nat) ≠ 4 by decide), upF_o (show (7 : Nat) ≠ 7 ∨ (7 : Nat) ≠ 5 by decide)], by simp only [upF_s, upF_o (show (7 : Nat) ≠ 7 ∨ (1 : Nat) ≠ 4 by decide), upF_o (show (7 : Nat) ≠ 7 ∨ (1 : Nat) ≠ 5 by decide), upF_o (show (7 : Nat) ≠ 7 ∨ (2 : Nat) ≠ 4 by decide), upF_o (show (7 : Nat) ≠ 7 ∨ (2 : Nat) ≠ 5 by decide), upF_o (show (7 : Nat) ≠ 7 ∨ (3 : Nat) ≠ 4 by decide), upF_o (show (7 : Nat) ≠ 7 ∨ (3 : Nat) ≠ 5 by decide), upF_o (show (7 : Nat) ≠ 7 ∨ (4 : Nat) ≠ 5 by decide), upF_o (show (7 : Nat) ≠ 7 ∨ (5 : Nat) ≠ 4 by decide), upF_o (show (7 : Nat) ≠ 7 ∨ (6 : Nat) ≠ 4 by decide), upF_o (show (7 : Nat) ≠ 7 ∨ (6 : Nat) ≠ 5 by decide), upF_o (show (7 : Nat) ≠ 7 ∨ (7 : Nat) ≠ 4 by decide), upF_o (show (7 : Nat) ≠ 7 ∨ (7 : Nat) ≠ 5 by decide)]; exact hF 7 6 (by decide)⟩)).symm rfl
          · skip
            (try simp only [f2, f4] at c5); (try simp (disch := omega) only [w32_0, wbi0, Classical.not_not, w32_id] at c5); (try (rw [w32_id (x := sgT (A0 8) (F0 7 2) (F 7 3)) (by omega) (by omega)] at c5))
            refine ⟨by first | omega | (simp only [upF_s, upF_o (show (7 : Nat) ≠ 7 ∨ (1 : Nat) ≠ 3 by decide), upF_o (show (7 : Nat) ≠ 7 ∨ (1 : Nat) ≠ 4 by decide), upF_o (show (7 : Nat) ≠ 7 ∨ (1 : Nat) ≠ 5 by decide), upF_o (show (7 : Nat) ≠ 7 ∨ (1 : Nat) ≠ 6 by decide), upF_o (show (7 : Nat) ≠ 7 ∨ (2 : Nat) ≠ 3 by decide), upF_o (show (7 : Nat) ≠ 7 ∨ (2 : Nat) ≠ 4 by decide), upF_o (show (7 : Nat) ≠ 7 ∨ (2 : Nat) ≠ 5 by decide), upF_o (show (7 : Nat) ≠ 7 ∨ (2 : Nat) ≠ 6 by decide), upF_o (show (7 : Nat) ≠ 7 ∨ (3 : Nat) ≠ 4 by decide), upF_o (show (7 : Nat) ≠ 7 ∨ (3 : Nat) ≠ 5 by decide), upF_o (show (7 : Nat) ≠ 7 ∨ (3 : Nat) ≠ 6 by decide), upF_o (show (7 : Nat) ≠ 7 ∨ (4 : Nat) ≠ 3 by decide), upF_o (show (7 : Nat) ≠ 7 ∨ (4 : Nat) ≠ 5 by decide), upF_o (show (7 : Nat) ≠ 7 ∨ (4 : Nat) ≠ 6 by decide), upF_o (show (7 : Nat) ≠ 7 ∨ (5 : Nat) ≠ 3 by decide), upF_o (show (7 : Nat) ≠ 7 ∨ (5 : Nat) ≠ 4 by decide), upF_o (show (7 : Nat) ≠ 7 ∨ (5 : Nat) ≠ 6 by decide), upF_o (show (7 : Nat) ≠ 7 ∨ (6 : Nat) ≠ 3 by decide), upF_o (show (7 : Nat) ≠ 7 ∨ (6 : Nat) ≠ 4 by decide), upF_o (show (7 : Nat) ≠ 7 ∨ (6 : Nat) ≠ 5 by decide), upF_o (show (7 : Nat) ≠ 7 ∨ (7 : Nat) ≠ 3 by decide), upF_o (show (7 : Nat) ≠ 7 ∨ (7 : Nat) ≠ 4 by decide), upF_o (show (7 : Nat) ≠ 7 ∨ (7 : Nat) ≠ 5 by decide), upF_o (show (7 : Nat) ≠ 7 ∨ (7 : Nat) ≠ 6 by decide)]; omega), ?_⟩
            intro G_1 g1
            have ep : F 7 3 = runB (A0 8) (F0 7 2) (Int.toNat (F0 7 2 - F0 7 4)) (F0 7 4) := by
              rw [← h2]
              first
              | exact (runB_0 (by omega)).symm
              | (have rs := runB_s (T := A0 8) (n := F0 7 2) (p := F 7 3) (by omega)
                 rw [if_neg c2] at rs
                 exact rs.symm)
            have ad : adF (A0 8) (F0 7 2) (F0 7 4) (F0 7 6) = adQ (A0 8) (F0 7 2) (F0 7 6) (F 7 3) := by rw [adF_q, ← ep]
            unfold adQ at ad
            rw [if_neg (by omega), if_neg c4, if_pos c5] at ad
            obtain ⟨k1, k2, k3, k4⟩ := g1
            exact FA_eq h rfl (tkP_S (show tkP F0 _ (adF (A0 8) (F0 7 2) (F0 7 4) (F0 7 6)) from by rw [ad]; exact ⟨fun a b hab => by rw [k1 a b (by omega), upF_o (by omega)]; exact hF a b (by omega), by rw [k1 7 3 (by decide), upF_o (by decide)], by rw [k2, f2], k3, by rw [k4, f2]⟩)).symm rfl
        · skip
          (try simp only [f2, f4] at c4); (try simp (disch := omega) only [w32_0, wbi0, Classical.not_not, w32_id] at c4); (try (rw [w32_id (x := sgT (A0 8) (F0 7 2) (F 7 3)) (by omega) (by omega)] at c4))
          refine ⟨by first | omega | (simp only [upF_s, upF_o (show (7 : Nat) ≠ 7 ∨ (1 : Nat) ≠ 3 by decide), upF_o (show (7 : Nat) ≠ 7 ∨ (1 : Nat) ≠ 4 by decide), upF_o (show (7 : Nat) ≠ 7 ∨ (1 : Nat) ≠ 5 by decide), upF_o (show (7 : Nat) ≠ 7 ∨ (1 : Nat) ≠ 6 by decide), upF_o (show (7 : Nat) ≠ 7 ∨ (2 : Nat) ≠ 3 by decide), upF_o (show (7 : Nat) ≠ 7 ∨ (2 : Nat) ≠ 4 by decide), upF_o (show (7 : Nat) ≠ 7 ∨ (2 : Nat) ≠ 5 by decide), upF_o (show (7 : Nat) ≠ 7 ∨ (2 : Nat) ≠ 6 by decide), upF_o (show (7 : Nat) ≠ 7 ∨ (3 : Nat) ≠ 4 by decide), upF_o (show (7 : Nat) ≠ 7 ∨ (3 : Nat) ≠ 5 by decide), upF_o (show (7 : Nat) ≠ 7 ∨ (3 : Nat) ≠ 6 by decide), upF_o (show (7 : Nat) ≠ 7 ∨ (4 : Nat) ≠ 3 by decide), upF_o (show (7 : Nat) ≠ 7 ∨ (4 : Nat) ≠ 5 by decide), upF_o (show (7 : Nat) ≠ 7 ∨ (4 : Nat) ≠ 6 by decide), upF_o (show (7 : Nat) ≠ 7 ∨ (5 : Nat) ≠ 3 by decide), upF_o (show (7 : Nat) ≠ 7 ∨ (5 : Nat) ≠ 4 by decide), upF_o (show (7 : Nat) ≠ 7 ∨ (5 : Nat) ≠ 6 by decide), upF_o (show (7 : Nat) ≠ 7 ∨ (6 : Nat) ≠ 3 by decide), upF_o (show (7 : Nat) ≠ 7 ∨ (6 : Nat) ≠ 4 by decide), upF_o (show (7 : Nat) ≠ 7 ∨ (6 : Nat) ≠ 5 by decide), upF_o (show (7 : Nat) ≠ 7 ∨ (7 : Nat) ≠ 3 by decide), upF_o (show (7 : Nat) ≠ 7 ∨ (7 : Nat) ≠ 4 by decide), upF_o (show (7 : Nat) ≠ 7 ∨ (7 : Nat) ≠ 5 by decide), upF_o (show (7 : Nat) ≠ 7 ∨ (7 : Nat) ≠ 6 by decide)]; omega), ?_⟩
          intro G_1 g1
          have ep : F 7 3 = runB (A0 8) (F0 7 2) (Int.toNat (F0 7 2 - F0 7 4)) (F0 7 4) := by
            rw [← h2]
            first
            | exact (runB_0 (by omega)).symm
            | (have rs := runB_s (T := A0 8) (n := F0 7 2) (p := F 7 3) (by omega)
               rw [if_neg c2] at rs
               exact rs.symm)
          have ad : adF (A0 8) (F0 7 2) (F0 7 4) (F0 7 6) = adQ (A0 8) (F0 7 2) (F0 7 6) (F 7 3) := by rw [adF_q, ← ep]
          unfold adQ at ad
          rw [if_neg (by omega), if_pos c4] at ad
          obtain ⟨k1, k2, k3, k4⟩ := g1
          exact FA_eq h rfl (tkP_S (show tkP F0 _ (adF (A0 8) (F0 7 2) (F0 7 4) (F0 7 6)) from by rw [ad]; exact ⟨fun a b hab => by rw [k1 a b (by omega), upF_o (by omega)]; exact hF a b (by omega), by rw [k1 7 3 (by decide), upF_o (by decide)], by rw [k2, f2], k3, by rw [k4, f2]⟩)).symm rfl
      · skip
        (try simp only [f2, f4] at c3); (try simp (disch := omega) only [w32_0, wbi0, Classical.not_not, w32_id] at c3); (try (rw [w32_id (x := sgT (A0 8) (F0 7 2) (F 7 3)) (by omega) (by omega)] at c3))
        exfalso; omega
    · skip
      (try simp only [f2, f4] at c2); (try simp (disch := omega) only [w32_0, wbi0, Classical.not_not, w32_id] at c2); (try (rw [w32_id (x := sgT (A0 8) (F0 7 2) (F 7 3)) (by omega) (by omega)] at c2))
      refine ⟨⟨rfl, rfl, ?_⟩, by (simp only [upF_s, upF_o (show (7 : Nat) ≠ 7 ∨ (1 : Nat) ≠ 3 by decide), upF_o (show (7 : Nat) ≠ 7 ∨ (2 : Nat) ≠ 3 by decide), upF_o (show (7 : Nat) ≠ 7 ∨ (4 : Nat) ≠ 3 by decide), upF_o (show (7 : Nat) ≠ 7 ∨ (5 : Nat) ≠ 3 by decide), upF_o (show (7 : Nat) ≠ 7 ∨ (6 : Nat) ≠ 3 by decide), upF_o (show (7 : Nat) ≠ 7 ∨ (7 : Nat) ≠ 3 by decide)]; omega)⟩
      have rs := runB_s (T := A0 8) (n := F0 7 2) (p := F 7 3) (by omega)
      rw [if_pos c2] at rs
      simp only [upF_s, upF_o (show (7 : Nat) ≠ 7 ∨ (1 : Nat) ≠ 3 by decide), upF_o (show (7 : Nat) ≠ 7 ∨ (2 : Nat) ≠ 3 by decide), upF_o (show (7 : Nat) ≠ 7 ∨ (4 : Nat) ≠ 3 by decide), upF_o (show (7 : Nat) ≠ 7 ∨ (5 : Nat) ≠ 3 by decide), upF_o (show (7 : Nat) ≠ 7 ∨ (6 : Nat) ≠ 3 by decide), upF_o (show (7 : Nat) ≠ 7 ∨ (7 : Nat) ≠ 3 by decide), f2]
      refine ⟨fun a b hab => by rw [upF_o (by omega)]; exact hF a b hab, by omega, by rw [← h2, rs]⟩
  · skip
    (try simp only [f2, f4] at c1); (try simp (disch := omega) only [w32_0, wbi0, Classical.not_not, w32_id] at c1); (try (rw [w32_id (x := sgT (A0 8) (F0 7 2) (F 7 3)) (by omega) (by omega)] at c1))
    refine ⟨by first | omega | (simp only [upF_s, upF_o (show (7 : Nat) ≠ 7 ∨ (1 : Nat) ≠ 3 by decide), upF_o (show (7 : Nat) ≠ 7 ∨ (1 : Nat) ≠ 4 by decide), upF_o (show (7 : Nat) ≠ 7 ∨ (1 : Nat) ≠ 5 by decide), upF_o (show (7 : Nat) ≠ 7 ∨ (1 : Nat) ≠ 6 by decide), upF_o (show (7 : Nat) ≠ 7 ∨ (2 : Nat) ≠ 3 by decide), upF_o (show (7 : Nat) ≠ 7 ∨ (2 : Nat) ≠ 4 by decide), upF_o (show (7 : Nat) ≠ 7 ∨ (2 : Nat) ≠ 5 by decide), upF_o (show (7 : Nat) ≠ 7 ∨ (2 : Nat) ≠ 6 by decide), upF_o (show (7 : Nat) ≠ 7 ∨ (3 : Nat) ≠ 4 by decide), upF_o (show (7 : Nat) ≠ 7 ∨ (3 : Nat) ≠ 5 by decide), upF_o (show (7 : Nat) ≠ 7 ∨ (3 : Nat) ≠ 6 by decide), upF_o (show (7 : Nat) ≠ 7 ∨ (4 : Nat) ≠ 3 by decide), upF_o (show (7 : Nat) ≠ 7 ∨ (4 : Nat) ≠ 5 by decide), upF_o (show (7 : Nat) ≠ 7 ∨ (4 : Nat) ≠ 6 by decide), upF_o (show (7 : Nat) ≠ 7 ∨ (5 : Nat) ≠ 3 by decide), upF_o (show (7 : Nat) ≠ 7 ∨ (5 : Nat) ≠ 4 by decide), upF_o (show (7 : Nat) ≠ 7 ∨ (5 : Nat) ≠ 6 by decide), upF_o (show (7 : Nat) ≠ 7 ∨ (6 : Nat) ≠ 3 by decide), upF_o (show (7 : Nat) ≠ 7 ∨ (6 : Nat) ≠ 4 by decide), upF_o (show (7 : Nat) ≠ 7 ∨ (6 : Nat) ≠ 5 by decide), upF_o (show (7 : Nat) ≠ 7 ∨ (7 : Nat) ≠ 3 by decide), upF_o (show (7 : Nat) ≠ 7 ∨ (7 : Nat) ≠ 4 by decide), upF_o (show (7 : Nat) ≠ 7 ∨ (7 : Nat) ≠ 5 by decide), upF_o (show (7 : Nat) ≠ 7 ∨ (7 : Nat) ≠ 6 by decide)]; omega), ?_⟩
    refine ⟨fun c2 => ?_, fun c2 => ?_⟩
    · skip
      (try simp only [f2, f4] at c2); (try simp (disch := omega) only [w32_0, wbi0, Classical.not_not, w32_id] at c2); (try (rw [w32_id (x := sgT (A0 8) (F0 7 2) (F 7 3)) (by omega) (by omega)] at c2))
      refine ⟨fun c3 => ?_, fun c3 => ?_⟩
      · skip
        (try simp only [f2, f4] at c3); (try simp (disch := omega) only [w32_0, wbi0, Classical.not_not, w32_id] at c3); (try (rw [w32_id (x := sgT (A0 8) (F0 7 2) (F 7 3)) (by omega) (by omega)] at c3))
        refine ⟨fun c4 => ?_, fun c4 => ?_⟩
        · skip
          (try simp only [f2, f4] at c4); (try simp (disch := omega) only [w32_0, wbi0, Classical.not_not, w32_id] at c4); (try (rw [w32_id (x := sgT (A0 8) (F0 7 2) (F 7 3)) (by omega) (by omega)] at c4))
          refine ⟨fun c5 => ?_, fun c5 => ?_⟩
          · skip
            (try simp only [f2, f4] at c5); (try simp (disch := omega) only [w32_0, wbi0, Classical.not_not, w32_id] at c5); (try (rw [w32_id (x := sgT (A0 8) (F0 7 2) (F 7 3)) (by omega) (by omega)] at c5))
            exfalso; omega
          · skip
            (try simp only [f2, f4] at c5); (try simp (disch := omega) only [w32_0, wbi0, Classical.not_not, w32_id] at c5); (try (rw [w32_id (x := sgT (A0 8) (F0 7 2) (F 7 3)) (by omega) (by omega)] at c5))
            refine ⟨fun c6 => ?_, fun c6 => ?_⟩
            · skip
              (try simp only [f2, f4] at c6); (try simp (disch := omega) only [w32_0, wbi0, Classical.not_not, w32_id] at c6); (try (rw [w32_id (x := sgT (A0 8) (F0 7 2) (F 7 3)) (by omega) (by omega)] at c6))
              exfalso; omega
            · skip
              (try simp only [f2, f4] at c6); (try simp (disch := omega) only [w32_0, wbi0, Classical.not_not, w32_id] at c6); (try (rw [w32_id (x := sgT (A0 8) (F0 7 2) (F 7 3)) (by omega) (by omega)] at c6))
              exfalso; omega
        · skip
          (try simp only [f2, f4] at c4); (try simp (disch := omega) only [w32_0, wbi0, Classical.not_not, w32_id] at c4); (try (rw [w32_id (x := sgT (A0 8) (F0 7 2) (F 7 3)) (by omega) (by omega)] at c4))
          refine ⟨by first | omega | (simp only [upF_s, upF_o (show (7 : Nat) ≠ 7 ∨ (1 : Nat) ≠ 3 by decide), upF_o (show (7 : Nat) ≠ 7 ∨ (1 : Nat) ≠ 4 by decide), upF_o (show (7 : Nat) ≠ 7 ∨ (1 : Nat) ≠ 5 by decide), upF_o (show (7 : Nat) ≠ 7 ∨ (1 : Nat) ≠ 6 by decide), upF_o (show (7 : Nat) ≠ 7 ∨ (2 : Nat) ≠ 3 by decide), upF_o (show (7 : Nat) ≠ 7 ∨ (2 : Nat) ≠ 4 by decide), upF_o (show (7 : Nat) ≠ 7 ∨ (2 : Nat) ≠ 5 by decide), upF_o (show (7 : Nat) ≠ 7 ∨ (2 : Nat) ≠ 6 by decide), upF_o (show (7 : Nat) ≠ 7 ∨ (3 : Nat) ≠ 4 by decide), upF_o (show (7 : Nat) ≠ 7 ∨ (3 : Nat) ≠ 5 by decide), upF_o (show (7 : Nat) ≠ 7 ∨ (3 : Nat) ≠ 6 by decide), upF_o (show (7 : Nat) ≠ 7 ∨ (4 : Nat) ≠ 3 by decide), upF_o (show (7 : Nat) ≠ 7 ∨ (4 : Nat) ≠ 5 by decide), upF_o (show (7 : Nat) ≠ 7 ∨ (4 : Nat) ≠ 6 by decide), upF_o (show (7 : Nat) ≠ 7 ∨ (5 : Nat) ≠ 3 by decide), upF_o (show (7 : Nat) ≠ 7 ∨ (5 : Nat) ≠ 4 by decide), upF_o (show (7 : Nat) ≠ 7 ∨ (5 : Nat) ≠ 6 by decide), upF_o (show (7 : Nat) ≠ 7 ∨ (6 : Nat) ≠ 3 by decide), upF_o (show (7 : Nat) ≠ 7 ∨ (6 : Nat) ≠ 4 by decide), upF_o (show (7 : Nat) ≠ 7 ∨ (6 : Nat) ≠ 5 by decide), upF_o (show (7 : Nat) ≠ 7 ∨ (7 : Nat) ≠ 3 by decide), upF_o (show (7 : Nat) ≠ 7 ∨ (7 : Nat) ≠ 4 by decide), upF_o (show (7 : Nat) ≠ 7 ∨ (7 : Nat) ≠ 5 by decide), upF_o (show (7 : Nat) ≠ 7 ∨ (7 : Nat) ≠ 6 by decide)]; omega), ?_⟩
          intro G_1 g1
          exfalso; omega
      · skip
        (try simp only [f2, f4] at c3); (try simp (disch := omega) only [w32_0, wbi0, Classical.not_not, w32_id] at c3); (try (rw [w32_id (x := sgT (A0 8) (F0 7 2) (F 7 3)) (by omega) (by omega)] at c3))
        refine ⟨by first | omega | (simp only [upF_s, upF_o (show (7 : Nat) ≠ 7 ∨ (1 : Nat) ≠ 3 by decide), upF_o (show (7 : Nat) ≠ 7 ∨ (1 : Nat) ≠ 4 by decide), upF_o (show (7 : Nat) ≠ 7 ∨ (1 : Nat) ≠ 5 by decide), upF_o (show (7 : Nat) ≠ 7 ∨ (1 : Nat) ≠ 6 by decide), upF_o (show (7 : Nat) ≠ 7 ∨ (2 : Nat) ≠ 3 by decide), upF_o (show (7 : Nat) ≠ 7 ∨ (2 : Nat) ≠ 4 by decide), upF_o (show (7 : Nat) ≠ 7 ∨ (2 : Nat) ≠ 5 by decide), upF_o (show (7 : Nat) ≠ 7 ∨ (2 : Nat) ≠ 6 by decide), upF_o (show (7 : Nat) ≠ 7 ∨ (3 : Nat) ≠ 4 by decide), upF_o (show (7 : Nat) ≠ 7 ∨ (3 : Nat) ≠ 5 by decide), upF_o (show (7 : Nat) ≠ 7 ∨ (3 : Nat) ≠ 6 by decide), upF_o (show (7 : Nat) ≠ 7 ∨ (4 : Nat) ≠ 3 by decide), upF_o (show (7 : Nat) ≠ 7 ∨ (4 : Nat) ≠ 5 by decide), upF_o (show (7 : Nat) ≠ 7 ∨ (4 : Nat) ≠ 6 by decide), upF_o (show (7 : Nat) ≠ 7 ∨ (5 : Nat) ≠ 3 by decide), upF_o (show (7 : Nat) ≠ 7 ∨ (5 : Nat) ≠ 4 by decide), upF_o (show (7 : Nat) ≠ 7 ∨ (5 : Nat) ≠ 6 by decide), upF_o (show (7 : Nat) ≠ 7 ∨ (6 : Nat) ≠ 3 by decide), upF_o (show (7 : Nat) ≠ 7 ∨ (6 : Nat) ≠ 4 by decide), upF_o (show (7 : Nat) ≠ 7 ∨ (6 : Nat) ≠ 5 by decide), upF_o (show (7 : Nat) ≠ 7 ∨ (7 : Nat) ≠ 3 by decide), upF_o (show (7 : Nat) ≠ 7 ∨ (7 : Nat) ≠ 4 by decide), upF_o (show (7 : Nat) ≠ 7 ∨ (7 : Nat) ≠ 5 by decide), upF_o (show (7 : Nat) ≠ 7 ∨ (7 : Nat) ≠ 6 by decide)]; omega), ?_⟩
        intro G_1 g1
        exfalso; omega
    · skip
      (try simp only [f2, f4] at c2); (try simp (disch := omega) only [w32_0, wbi0, Classical.not_not, w32_id] at c2); (try (rw [w32_id (x := sgT (A0 8) (F0 7 2) (F 7 3)) (by omega) (by omega)] at c2))
      have ep : F 7 3 = runB (A0 8) (F0 7 2) (Int.toNat (F0 7 2 - F0 7 4)) (F0 7 4) := by
        rw [← h2]
        first
        | exact (runB_0 (by omega)).symm
        | (have rs := runB_s (T := A0 8) (n := F0 7 2) (p := F 7 3) (by omega)
           rw [if_neg c2] at rs
           exact rs.symm)
      have ad : adF (A0 8) (F0 7 2) (F0 7 4) (F0 7 6) = adQ (A0 8) (F0 7 2) (F0 7 6) (F 7 3) := by rw [adF_q, ← ep]
      unfold adQ at ad
      rw [if_pos (by omega)] at ad
      exact FA_eq h rfl (tkP_S (show tkP F0 _ (adF (A0 8) (F0 7 2) (F0 7 4) (F0 7 6)) from by rw [ad]; exact ⟨fun a b hab => by rw [upF_o (by omega), upF_o (by omega)]; exact hF a b (by omega), by simp only [upF_s, upF_o (show (7 : Nat) ≠ 7 ∨ (1 : Nat) ≠ 4 by decide), upF_o (show (7 : Nat) ≠ 7 ∨ (1 : Nat) ≠ 5 by decide), upF_o (show (7 : Nat) ≠ 7 ∨ (2 : Nat) ≠ 4 by decide), upF_o (show (7 : Nat) ≠ 7 ∨ (2 : Nat) ≠ 5 by decide), upF_o (show (7 : Nat) ≠ 7 ∨ (3 : Nat) ≠ 4 by decide), upF_o (show (7 : Nat) ≠ 7 ∨ (3 : Nat) ≠ 5 by decide), upF_o (show (7 : Nat) ≠ 7 ∨ (4 : Nat) ≠ 5 by decide), upF_o (show (7 : Nat) ≠ 7 ∨ (5 : Nat) ≠ 4 by decide), upF_o (show (7 : Nat) ≠ 7 ∨ (6 : Nat) ≠ 4 by decide), upF_o (show (7 : Nat) ≠ 7 ∨ (6 : Nat) ≠ 5 by decide), upF_o (show (7 : Nat) ≠ 7 ∨ (7 : Nat) ≠ 4 by decide), upF_o (show (7 : Nat) ≠ 7 ∨ (7 : Nat) ≠ 5 by decide)], by simp only [upF_s, upF_o (show (7 : Nat) ≠ 7 ∨ (1 : Nat) ≠ 4 by decide), upF_o (show (7 : Nat) ≠ 7 ∨ (1 : Nat) ≠ 5 by decide), upF_o (show (7 : Nat) ≠ 7 ∨ (2 : Nat) ≠ 4 by decide), upF_o (show (7 : Nat) ≠ 7 ∨ (2 : Nat) ≠ 5 by decide), upF_o (show (7 : Nat) ≠ 7 ∨ (3 : Nat) ≠ 4 by decide), upF_o (show (7 : Nat) ≠ 7 ∨ (3 : Nat) ≠ 5 by decide), upF_o (show (7 : Nat) ≠ 7 ∨ (4 : Nat) ≠ 5 by decide), upF_o (show (7 : Nat) ≠ 7 ∨ (5 : Nat) ≠ 4 by decide), upF_o (show (7 : Nat) ≠ 7 ∨ (6 : Nat) ≠ 4 by decide), upF_o (show (7 : Nat) ≠ 7 ∨ (6 : Nat) ≠ 5 by decide), upF_o (show (7 : Nat) ≠ 7 ∨ (7 : Nat) ≠ 4 by decide), upF_o (show (7 : Nat) ≠ 7 ∨ (7 : Nat) ≠ 5 by decide)], by simp only [upF_s, upF_o (show (7 : Nat) ≠ 7 ∨ (1 : Nat) ≠ 4 by decide), upF_o (show (7 : Nat) ≠ 7 ∨ (1 : Nat) ≠ 5 by decide), upF_o (show (7 : Nat) ≠ 7 ∨ (2 : Nat) ≠ 4 by decide), upF_o (show (7 : Nat) ≠ 7 ∨ (2 : Nat) ≠ 5 by decide), upF_o (show (7 : Nat) ≠ 7 ∨ (3 : Nat) ≠ 4 by decide), upF_o (show (7 : Nat) ≠ 7 ∨ (3 : Nat) ≠ 5 by decide), upF_o (show (7 : Nat) ≠ 7 ∨ (4 : Nat) ≠ 5 by decide), upF_o (show (7 : Nat) ≠ 7 ∨ (5 : Nat) ≠ 4 by decide), upF_o (show (7 : Nat) ≠ 7 ∨ (6 : Nat) ≠ 4 by decide), upF_o (show (7 : Nat) ≠ 7 ∨ (6 : Nat) ≠ 5 by decide), upF_o (show (7 : Nat) ≠ 7 ∨ (7 : Nat) ≠ 4 by decide), upF_o (show (7 : Nat) ≠ 7 ∨ (7 : Nat) ≠ 5 by decide)], by simp only [upF_s, upF_o (show (7 : Nat) ≠ 7 ∨ (1 : Nat) ≠ 4 by decide), upF_o (show (7 : Nat) ≠ 7 ∨ (1 : Nat) ≠ 5 by decide), upF_o (show (7 : Nat) ≠ 7 ∨ (2 : Nat) ≠ 4 by decide), upF_o (show (7 : Nat) ≠ 7 ∨ (2 : Nat) ≠ 5 by decide), upF_o (show (7 : Nat) ≠ 7 ∨ (3 : Nat) ≠ 4 by decide), upF_o (show (7 : Nat) ≠ 7 ∨ (3 : Nat) ≠ 5 by decide), upF_o (show (7 : Nat) ≠ 7 ∨ (4 : Nat) ≠ 5 by decide), upF_o (show (7 : Nat) ≠ 7 ∨ (5 : Nat) ≠ 4 by decide), upF_o (show (7 : Nat) ≠ 7 ∨ (6 : Nat) ≠ 4 by decide), upF_o (show (7 : Nat) ≠ 7 ∨ (6 : Nat) ≠ 5 by decide), upF_o (show (7 : Nat) ≠ 7 ∨ (7 : Nat) ≠ 4 by decide), upF_o (show (7 : Nat) ≠ 7 ∨ (7 : Nat) ≠ 5 by decide)]; exact hF 7 6 (by decide)⟩)).symm rfl
set_option maxRecDepth 20000 in
theorem qvX7_advance_7  (F0 : FF) (A0 : AA) (K : KK) (h : ((0 ≤ (F0 7 2) ∧ (F0 7 2) ≤ 800) ∧ 0 ≤ (F0 7 4) ∧ (F0 7 4) ≤ (F0 7 2)) ∧ (K (some none) (tkS F0 (nxT (A0 8) ((F0 7 2)) (tkF F0))) A0)) : am_body qxX7_advance qnX7_advance_7 50 (qiX7_advance_7  F0 A0) quX7_advance_7 [vR 7] 2 F0 A0 K := by
  refine ⟨qvX7_advance_7_0  F0 A0 K h, fun pc ls st F A u hI => ?_⟩
  unfold qiX7_advance_7 at hI
  replace hI := am_cond2 hI
  rcases hI with ⟨hb, hI⟩ | hI
  · have hb := am_bq hb
    subst hb
    split at hI
    · rename_i s0
      obtain ⟨e0, e1, hI⟩ := hI
      subst e0
      subst e1
      exact qvX7_advance_7_8  _ _ K h _ hI
    · exact hI.elim
  exact hI.elim
theorem qtX7_advance (l : Launch) : am_CT l layX qeX7_advance := am_met0 rfl (by decide +kernel) rfl rfl rfl rfl rfl (fun _ => rfl) rfl (qzX7_advance l) (fun k e1 h => (qyX7_advance l k e1 h).2) (fun as F A K h => by
  replace h : qsX7_advance as F A K := h
  unfold qsX7_advance at h
  split at h
  · rename_i o
    refine ⟨by first | exact Nat.le_of_ble_eq_true rfl | simp [am_fl, am_cat], ?_⟩
    replace h := am_cond2 h
    rcases h with ⟨hb, h⟩ | h
    · skip
      have hb0 := hb
      have hb0 := am_bq hb0
      subst hb0
      exact am_way_body (qvX7_advance_7  F A K h)
    exact h.elim
  · exact h.elim)
