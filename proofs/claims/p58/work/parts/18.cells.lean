def qkX1_startOf : Nat → Option CI := fun pc => cond (Nat.ble 13 pc) none (cond (Nat.ble 7 pc) (cond (Nat.ble 10 pc) (cond (Nat.beq pc 10) (some (.iconst 4, 11, [])) (cond (Nat.beq pc 11) (some (.imul, 12, [])) (cond (Nat.beq pc 12) (some (.ireturn, 13, [])) (none)))) (cond (Nat.beq pc 7) (some (.imul, 8, [])) (cond (Nat.beq pc 8) (some (.iload_n 2, 9, [])) (cond (Nat.beq pc 9) (some (.iadd, 10, [])) (none))))) (cond (Nat.ble 4 pc) (cond (Nat.beq pc 4) (some (.iload_n 1, 5, [])) (cond (Nat.beq pc 5) (some (.iadd, 6, [])) (cond (Nat.beq pc 6) (some (.iconst 3, 7, [])) (none)))) (cond (Nat.beq pc 0) (some (.iload_n 0, 1, [])) (cond (Nat.beq pc 1) (some (.bipush 127, 3, [])) (cond (Nat.beq pc 3) (some (.imul, 4, [])) (none))))))
theorem qkX1_startOf_ok : ∀ pc i nx ts, qkX1_startOf pc = some (i, nx, ts) → am_cok cX1_startOf pc (i, nx, ts) = true := fun pc i nx ts h => am_tok_ok (n := 13) (by decide +kernel) (fun pc h => by show cond (Nat.ble 13 pc) _ _ = _; rw [Nat.ble_eq_true_of_le h]; rfl) h
def qaX1_startOf : Nat → Option CE := fun k => none
theorem qyX1_startOf (l : Launch) : ∀ k e1, qaX1_startOf k = some e1 → am_cal l layX RX1 3 k e1 ∧ ceT e1 = 0 := q_nil
def qxX1_startOf : CX := (qkX1_startOf, layX, qfX1, qaX1_startOf, qcX1, qlX1, qmX1, (some .int), false, none, 0, none, fun _ => none)
theorem qzX1_startOf (l : Launch) : am_sta l qxX1_startOf RX1 3 cX1_startOf := ⟨qkX1_startOf_ok, layX_ok, qfX1_ok, qcX1_ok, qlX1_ok, am_mthP qmX1_ok (by decide), fun k e1 h => (qyX1_startOf l k e1 h).1⟩
def qsX1_startOf : SP := fun as F A K => match as with
  | [.inl c, .inl nd, .inl w] => K (some (some (vI (((c * 127 + nd) * 3 + w) * 4)))) F A
  | _ => False
def qeX1_startOf : CE := (yX1_startOf, cX1_startOf, 3, (some .int), 3, none, 0, none, 0, 3, qsX1_startOf)
theorem qbX1_startOf : am_mb qeX1_startOf := ⟨am_tb_at 1016 (by decide +kernel) rfl, am_tb_at 39 (by decide +kernel) rfl, ⟨by decide, by decide, by decide +kernel⟩, by decide, am_tb_at 1015 (by decide +kernel) rfl⟩
set_option maxRecDepth 20000 in
theorem qvX1_startOf (c : Int) (nd : Int) (w : Int) (F : FF) (A : AA) (K : KK) (h : K (some (some (vI (((c * 127 + nd) * 3 + w) * 4)))) F A) : am_line qxX1_startOf 13 [vI c, vI nd, vI w] 3 F A K := by
  show am_stp qxX1_startOf (am_run qxX1_startOf (fun _ => none) (fun _ _ _ _ _ _ => False) K 13) K 0 [some (vI c), some (vI nd), some (vI w)] [] F A 0
  show K (some (some (vI (((((c * 127) + nd) * 3) + w) * 4)))) F A
  first | exact h | exact K_eq h (by first | omega | (simp (disch := omega) only [w32_0, w64_0, wbi0, wbi1, yc_eq0, yc_lt0, yc_gt0, Classical.not_not, w32_id, w64_id]; omega) | (simp (disch := omega) only [w32_0, w64_0, wbi0, wbi1, yc_eq0, yc_lt0, yc_gt0, Classical.not_not, w32_id, w64_id]; done))
theorem qtX1_startOf (l : Launch) : am_CT l layX qeX1_startOf := am_met0 rfl (by decide +kernel) rfl rfl rfl rfl rfl (fun _ => rfl) rfl (qzX1_startOf l) (fun k e1 h => (qyX1_startOf l k e1 h).2) (fun as F A K h => by
  replace h : qsX1_startOf as F A K := h
  unfold qsX1_startOf at h
  split at h
  · rename_i c nd w
    refine ⟨by first | exact Nat.le_of_ble_eq_true rfl | simp [am_fl, am_cat], ?_⟩
    exact am_way_line (qvX1_startOf c nd w F A K h)
  · exact h.elim)
def qkX1_number : Nat → Option CI := fun pc => cond (Nat.ble 38 pc) none (cond (Nat.ble 18 pc) (cond (Nat.ble 27 pc) (cond (Nat.ble 33 pc) (cond (Nat.beq pc 33) (some (.goto 4, 36, [37])) (cond (Nat.beq pc 36) (some (.lconst 0, 37, [])) (cond (Nat.beq pc 37) (some (.lreturn, 38, [])) (none)))) (cond (Nat.beq pc 27) (some (.getfield 11, 30, [])) (cond (Nat.beq pc 30) (some (.iload 5, 32, [])) (cond (Nat.beq pc 32) (some (.laload, 33, [])) (none))))) (cond (Nat.ble 22 pc) (cond (Nat.beq pc 22) (some (.arraylength, 23, [])) (cond (Nat.beq pc 23) (some (.if_icmp .ge 13, 26, [36])) (cond (Nat.beq pc 26) (some (.aload_n 0, 27, [])) (none)))) (cond (Nat.beq pc 18) (some (.aload_n 0, 19, [])) (cond (Nat.beq pc 19) (some (.getfield 11, 22, [])) (none))))) (cond (Nat.ble 8 pc) (cond (Nat.ble 11 pc) (cond (Nat.beq pc 11) (some (.iload 5, 13, [])) (cond (Nat.beq pc 13) (some (.ifCond .lt 23, 16, [36])) (cond (Nat.beq pc 16) (some (.iload 5, 18, [])) (none)))) (cond (Nat.beq pc 8) (some (.iadd, 9, [])) (cond (Nat.beq pc 9) (some (.istore 5, 11, [])) (none)))) (cond (Nat.ble 2 pc) (cond (Nat.beq pc 2) (some (.iload_n 3, 3, [])) (cond (Nat.beq pc 3) (some (.invokestatic 25, 6, [])) (cond (Nat.beq pc 6) (some (.iload 4, 8, [])) (none)))) (cond (Nat.beq pc 0) (some (.iload_n 1, 1, [])) (cond (Nat.beq pc 1) (some (.iload_n 2, 2, [])) (none))))))
theorem qkX1_number_ok : ∀ pc i nx ts, qkX1_number pc = some (i, nx, ts) → am_cok cX1_number pc (i, nx, ts) = true := fun pc i nx ts h => am_tok_ok (n := 38) (by decide +kernel) (fun pc h => by show cond (Nat.ble 38 pc) _ _ = _; rw [Nat.ble_eq_true_of_le h]; rfl) h
def qaX1_number : Nat → Option CE := fun k => cond (Nat.beq k 25) (some qeX1_startOf) (none)
theorem qyX1_number (l : Launch) : ∀ k e1, qaX1_number k = some e1 → am_cal l layX RX1 4 k e1 ∧ ceT e1 = 0 := q_cons ⟨am_calS (qtX1_startOf l) qbX1_startOf (by decide) rfl (by decide) (am_tb_at 1014 (by decide +kernel) rfl), rfl⟩ (q_nil)
def qxX1_number : CX := (qkX1_number, layX, qfX1, qaX1_number, qcX1, qlX1, qmX1, (some .long), false, none, 0, none, fun _ => none)
theorem qzX1_number (l : Launch) : am_sta l qxX1_number RX1 4 cX1_number := ⟨qkX1_number_ok, layX_ok, qfX1_ok, qcX1_ok, qlX1_ok, am_mthP qmX1_ok (by decide), fun k e1 h => (qyX1_number l k e1 h).1⟩
def qsX1_number : SP := fun as F A K => match as with
  | [.inr (.inr o), .inl c, .inl nd, .inl w, .inl k] => cond (Nat.beq o 9) ((0 ≤ c ∧ c < 8 ∧ 0 ≤ nd ∧ nd < 127 ∧ 0 ≤ w ∧ w ≤ 2 ∧ 0 ≤ k ∧ k < 4) ∧ (K (some (some (vL (A 10 (((c * 127 + nd) * 3 + w) * 4 + k))))) F A)) (False)
  | _ => False
def qeX1_number : CE := (yX1_number, cX1_number, 6, (some .long), 4, some 1, 0, none, 0, 4, qsX1_number)
theorem qbX1_number : am_mb qeX1_number := ⟨am_tb_at 1013 (by decide +kernel) rfl, am_tb_at 39 (by decide +kernel) rfl, ⟨by decide, by decide, by decide +kernel⟩, by decide, am_tb_at 1011 (by decide +kernel) rfl, am_tb_at 1012 (by decide +kernel) rfl, _, _, rfl⟩
set_option maxRecDepth 20000 in
theorem qvX1_number_9 (c : Int) (nd : Int) (w : Int) (k : Int) (F : FF) (A : AA) (K : KK) (h : (0 ≤ c ∧ c < 8 ∧ 0 ≤ nd ∧ nd < 127 ∧ 0 ≤ w ∧ w ≤ 2 ∧ 0 ≤ k ∧ k < 4) ∧ (K (some (some (vL (A 10 (((c * 127 + nd) * 3 + w) * 4 + k))))) F A)) : am_line qxX1_number 21 [vR 9, vI c, vI nd, vI w, vI k] 6 F A K := by
  show am_stp qxX1_number (am_run qxX1_number (fun _ => none) (fun _ _ _ _ _ _ => False) K 21) K 0 [some (vR 9), some (vI c), some (vI nd), some (vI w), some (vI k), none] [] F A 0
  obtain ⟨hp, h⟩ := h
  show (w32 ((((c * 127 + nd) * 3 + w) * 4) + k) < w32 0 → (K (some (some (vL 0))) F A)) ∧ (¬ w32 ((((c * 127 + nd) * 3 + w) * 4) + k) < w32 0 → ((w32 ((((c * 127 + nd) * 3 + w) * 4) + k) < w32 12192 → ((0 ≤ w32 ((((c * 127 + nd) * 3 + w) * 4) + k) ∧ w32 ((((c * 127 + nd) * 3 + w) * 4) + k) < 12192) ∧ (K (some (some (vL (A 10 (w32 ((((c * 127 + nd) * 3 + w) * 4) + k)))))) F A))) ∧ (¬ w32 ((((c * 127 + nd) * 3 + w) * 4) + k) < w32 12192 → (K (some (some (vL 0))) F A))))
  refine ⟨fun c1 => ?_, fun c1 => ?_⟩
  · skip
    try simp (disch := omega) only [w32_0, w64_0, wbi0, wbi1, yc_eq0, yc_lt0, yc_gt0, Classical.not_not, w32_id, w64_id] at c1
    first | (exfalso; omega) | (simp (disch := omega) only [w32_id]; exact h) | exact h
  · skip
    try simp (disch := omega) only [w32_0, w64_0, wbi0, wbi1, yc_eq0, yc_lt0, yc_gt0, Classical.not_not, w32_id, w64_id] at c1
    refine ⟨fun c2 => ?_, fun c2 => ?_⟩
    · skip
      try simp (disch := omega) only [w32_0, w64_0, wbi0, wbi1, yc_eq0, yc_lt0, yc_gt0, Classical.not_not, w32_id, w64_id] at c2
      refine ⟨by first | omega | (simp (disch := omega) only [w32_0, w64_0, wbi0, wbi1, yc_eq0, yc_lt0, yc_gt0, Classical.not_not, w32_id, w64_id]; omega) | (simp (disch := omega) only [w32_0, w64_0, wbi0, wbi1, yc_eq0, yc_lt0, yc_gt0, Classical.not_not, w32_id, w64_id]; done), ?_⟩
      first | (exfalso; omega) | (simp (disch := omega) only [w32_id]; exact h) | exact h
    · skip
      try simp (disch := omega) only [w32_0, w64_0, wbi0, wbi1, yc_eq0, yc_lt0, yc_gt0, Classical.not_not, w32_id, w64_id] at c2
      first | (exfalso; omega) | (simp (disch := omega) only [w32_id]; exact h) | exact h
theorem qtX1_number (l : Launch) : am_CT l layX qeX1_number := am_met0 rfl (by decide +kernel) rfl rfl rfl rfl rfl (fun _ => rfl) rfl (qzX1_number l) (fun k e1 h => (qyX1_number l k e1 h).2) (fun as F A K h => by
  replace h : qsX1_number as F A K := h
  unfold qsX1_number at h
  split at h
  · rename_i o c nd w k
    refine ⟨by first | exact Nat.le_of_ble_eq_true rfl | simp [am_fl, am_cat], ?_⟩
    replace h := am_cond2 h
    rcases h with ⟨hb, h⟩ | h
    · skip
      have hb0 := hb
      have hb0 := am_bq hb0
      subst hb0
      exact am_way_line (qvX1_number_9 c nd w k F A K h)
    exact h.elim
  · exact h.elim)
def qkX1_extreme : Nat → Option CI := fun pc => cond (Nat.ble 39 pc) none (cond (Nat.ble 17 pc) (cond (Nat.ble 28 pc) (cond (Nat.ble 34 pc) (cond (Nat.beq pc 34) (some (.goto 4, 37, [38])) (cond (Nat.beq pc 37) (some (.iconst 0, 38, [])) (cond (Nat.beq pc 38) (some (.ireturn, 39, [])) (none)))) (cond (Nat.beq pc 28) (some (.getfield 15, 31, [])) (cond (Nat.beq pc 31) (some (.iload 4, 33, [])) (cond (Nat.beq pc 33) (some (.iaload, 34, [])) (none))))) (cond (Nat.ble 23 pc) (cond (Nat.beq pc 23) (some (.arraylength, 24, [])) (cond (Nat.beq pc 24) (some (.if_icmp .ge 13, 27, [37])) (cond (Nat.beq pc 27) (some (.aload_n 0, 28, [])) (none)))) (cond (Nat.beq pc 17) (some (.iload 4, 19, [])) (cond (Nat.beq pc 19) (some (.aload_n 0, 20, [])) (cond (Nat.beq pc 20) (some (.getfield 15, 23, [])) (none)))))) (cond (Nat.ble 7 pc) (cond (Nat.ble 10 pc) (cond (Nat.beq pc 10) (some (.istore 4, 12, [])) (cond (Nat.beq pc 12) (some (.iload 4, 14, [])) (cond (Nat.beq pc 14) (some (.ifCond .lt 23, 17, [37])) (none)))) (cond (Nat.beq pc 7) (some (.imul, 8, [])) (cond (Nat.beq pc 8) (some (.iload_n 3, 9, [])) (cond (Nat.beq pc 9) (some (.iadd, 10, [])) (none))))) (cond (Nat.ble 4 pc) (cond (Nat.beq pc 4) (some (.iload_n 2, 5, [])) (cond (Nat.beq pc 5) (some (.iadd, 6, [])) (cond (Nat.beq pc 6) (some (.iconst 4, 7, [])) (none)))) (cond (Nat.beq pc 0) (some (.iload_n 1, 1, [])) (cond (Nat.beq pc 1) (some (.bipush 127, 3, [])) (cond (Nat.beq pc 3) (some (.imul, 4, [])) (none)))))))
theorem qkX1_extreme_ok : ∀ pc i nx ts, qkX1_extreme pc = some (i, nx, ts) → am_cok cX1_extreme pc (i, nx, ts) = true := fun pc i nx ts h => am_tok_ok (n := 39) (by decide +kernel) (fun pc h => by show cond (Nat.ble 39 pc) _ _ = _; rw [Nat.ble_eq_true_of_le h]; rfl) h
def qaX1_extreme : Nat → Option CE := fun k => none
theorem qyX1_extreme (l : Launch) : ∀ k e1, qaX1_extreme k = some e1 → am_cal l layX RX1 3 k e1 ∧ ceT e1 = 0 := q_nil
def qxX1_extreme : CX := (qkX1_extreme, layX, qfX1, qaX1_extreme, qcX1, qlX1, qmX1, (some .int), false, none, 0, none, fun _ => none)
theorem qzX1_extreme (l : Launch) : am_sta l qxX1_extreme RX1 3 cX1_extreme := ⟨qkX1_extreme_ok, layX_ok, qfX1_ok, qcX1_ok, qlX1_ok, am_mthP qmX1_ok (by decide), fun k e1 h => (qyX1_extreme l k e1 h).1⟩
def qsX1_extreme : SP := fun as F A K => match as with
  | [.inr (.inr o), .inl c, .inl nd, .inl s] => cond (Nat.beq o 9) ((0 ≤ c ∧ c < 8 ∧ 0 ≤ nd ∧ nd < 127 ∧ 0 ≤ s ∧ s < 4) ∧ (K (some (some (vI (A 11 ((c * 127 + nd) * 4 + s))))) F A)) (False)
  | _ => False
def qeX1_extreme : CE := (yX1_extreme, cX1_extreme, 5, (some .int), 3, some 1, 0, none, 0, 3, qsX1_extreme)
theorem qbX1_extreme : am_mb qeX1_extreme := ⟨am_tb_at 1076 (by decide +kernel) rfl, am_tb_at 39 (by decide +kernel) rfl, ⟨by decide, by decide, by decide +kernel⟩, by decide, am_tb_at 1074 (by decide +kernel) rfl, am_tb_at 1075 (by decide +kernel) rfl, _, _, rfl⟩
set_option maxRecDepth 20000 in
theorem qvX1_extreme_9 (c : Int) (nd : Int) (s : Int) (F : FF) (A : AA) (K : KK) (h : (0 ≤ c ∧ c < 8 ∧ 0 ≤ nd ∧ nd < 127 ∧ 0 ≤ s ∧ s < 4) ∧ (K (some (some (vI (A 11 ((c * 127 + nd) * 4 + s))))) F A)) : am_line qxX1_extreme 24 [vR 9, vI c, vI nd, vI s] 5 F A K := by
  show am_stp qxX1_extreme (am_run qxX1_extreme (fun _ => none) (fun _ _ _ _ _ _ => False) K 24) K 0 [some (vR 9), some (vI c), some (vI nd), some (vI s), none] [] F A 0
  obtain ⟨hp, h⟩ := h
  show (w32 ((((c * 127) + nd) * 4) + s) < w32 0 → (K (some (some (vI 0))) F A)) ∧ (¬ w32 ((((c * 127) + nd) * 4) + s) < w32 0 → ((w32 ((((c * 127) + nd) * 4) + s) < w32 4064 → ((0 ≤ w32 ((((c * 127) + nd) * 4) + s) ∧ w32 ((((c * 127) + nd) * 4) + s) < 4064) ∧ (K (some (some (vI (A 11 (w32 ((((c * 127) + nd) * 4) + s)))))) F A))) ∧ (¬ w32 ((((c * 127) + nd) * 4) + s) < w32 4064 → (K (some (some (vI 0))) F A))))
  refine ⟨fun c1 => ?_, fun c1 => ?_⟩
  · skip
    try simp (disch := omega) only [w32_0, w64_0, wbi0, wbi1, yc_eq0, yc_lt0, yc_gt0, Classical.not_not, w32_id, w64_id] at c1
    first | (exfalso; omega) | (simp (disch := omega) only [w32_id]; exact h) | exact h
  · skip
    try simp (disch := omega) only [w32_0, w64_0, wbi0, wbi1, yc_eq0, yc_lt0, yc_gt0, Classical.not_not, w32_id, w64_id] at c1
    refine ⟨fun c2 => ?_, fun c2 => ?_⟩
    · skip
      try simp (disch := omega) only [w32_0, w64_0, wbi0, wbi1, yc_eq0, yc_lt0, yc_gt0, Classical.not_not, w32_id, w64_id] at c2
      refine ⟨by first | omega | (simp (disch := omega) only [w32_0, w64_0, wbi0, wbi1, yc_eq0, yc_lt0, yc_gt0, Classical.not_not, w32_id, w64_id]; omega) | (simp (disch := omega) only [w32_0, w64_0, wbi0, wbi1, yc_eq0, yc_lt0, yc_gt0, Classical.not_not, w32_id, w64_id]; done), ?_⟩
      first | (exfalso; omega) | (simp (disch := omega) only [w32_id]; exact h) | exact h
    · skip
      try simp (disch := omega) only [w32_0, w64_0, wbi0, wbi1, yc_eq0, yc_lt0, yc_gt0, Classical.not_not, w32_id, w64_id] at c2
      first | (exfalso; omega) | (simp (disch := omega) only [w32_id]; exact h) | exact h
theorem qtX1_extreme (l : Launch) : am_CT l layX qeX1_extreme := am_met0 rfl (by decide +kernel) rfl rfl rfl rfl rfl (fun _ => rfl) rfl (qzX1_extreme l) (fun k e1 h => (qyX1_extreme l k e1 h).2) (fun as F A K h => by
  replace h : qsX1_extreme as F A K := h
  unfold qsX1_extreme at h
  split at h
  · rename_i o c nd s
    refine ⟨by first | exact Nat.le_of_ble_eq_true rfl | simp [am_fl, am_cat], ?_⟩
    replace h := am_cond2 h
    rcases h with ⟨hb, h⟩ | h
    · skip
      have hb0 := hb
      have hb0 := am_bq hb0
      subst hb0
      exact am_way_line (qvX1_extreme_9 c nd s F A K h)
    exact h.elim
  · exact h.elim)
def qkX1_degreeOf : Nat → Option CI := fun pc => cond (Nat.ble 24 pc) none (cond (Nat.ble 13 pc) (cond (Nat.ble 18 pc) (cond (Nat.ble 22 pc) (cond (Nat.beq pc 22) (some (.iconst 0, 23, [])) (cond (Nat.beq pc 23) (some (.ireturn, 24, [])) (none))) (cond (Nat.beq pc 18) (some (.iaload, 19, [])) (cond (Nat.beq pc 19) (some (.goto 4, 22, [23])) (none)))) (cond (Nat.beq pc 13) (some (.aload_n 0, 14, [])) (cond (Nat.beq pc 14) (some (.getfield 19, 17, [])) (cond (Nat.beq pc 17) (some (.iload_n 1, 18, [])) (none))))) (cond (Nat.ble 5 pc) (cond (Nat.ble 9 pc) (cond (Nat.beq pc 9) (some (.arraylength, 10, [])) (cond (Nat.beq pc 10) (some (.if_icmp .ge 12, 13, [22])) (none))) (cond (Nat.beq pc 5) (some (.aload_n 0, 6, [])) (cond (Nat.beq pc 6) (some (.getfield 19, 9, [])) (none)))) (cond (Nat.beq pc 0) (some (.iload_n 1, 1, [])) (cond (Nat.beq pc 1) (some (.ifCond .lt 21, 4, [22])) (cond (Nat.beq pc 4) (some (.iload_n 1, 5, [])) (none))))))
theorem qkX1_degreeOf_ok : ∀ pc i nx ts, qkX1_degreeOf pc = some (i, nx, ts) → am_cok cX1_degreeOf pc (i, nx, ts) = true := fun pc i nx ts h => am_tok_ok (n := 24) (by decide +kernel) (fun pc h => by show cond (Nat.ble 24 pc) _ _ = _; rw [Nat.ble_eq_true_of_le h]; rfl) h
def qaX1_degreeOf : Nat → Option CE := fun k => none
theorem qyX1_degreeOf (l : Launch) : ∀ k e1, qaX1_degreeOf k = some e1 → am_cal l layX RX1 3 k e1 ∧ ceT e1 = 0 := q_nil
def qxX1_degreeOf : CX := (qkX1_degreeOf, layX, qfX1, qaX1_degreeOf, qcX1, qlX1, qmX1, (some .int), false, none, 0, none, fun _ => none)
theorem qzX1_degreeOf (l : Launch) : am_sta l qxX1_degreeOf RX1 3 cX1_degreeOf := ⟨qkX1_degreeOf_ok, layX_ok, qfX1_ok, qcX1_ok, qlX1_ok, am_mthP qmX1_ok (by decide), fun k e1 h => (qyX1_degreeOf l k e1 h).1⟩
def qsX1_degreeOf : SP := fun as F A K => match as with
  | [.inr (.inr o), .inl c] => cond (Nat.beq o 9) ((0 ≤ c ∧ c < 8) ∧ (K (some (some (vI (A 12 c)))) F A)) (False)
  | _ => False
def qeX1_degreeOf : CE := (yX1_degreeOf, cX1_degreeOf, 2, (some .int), 1, some 1, 0, none, 0, 3, qsX1_degreeOf)
theorem qbX1_degreeOf : am_mb qeX1_degreeOf := ⟨am_tb_at 1007 (by decide +kernel) rfl, am_tb_at 39 (by decide +kernel) rfl, ⟨by decide, by decide, by decide +kernel⟩, by decide, am_tb_at 1005 (by decide +kernel) rfl, am_tb_at 1006 (by decide +kernel) rfl, _, _, rfl⟩
set_option maxRecDepth 20000 in
theorem qvX1_degreeOf_9 (c : Int) (F : FF) (A : AA) (K : KK) (h : (0 ≤ c ∧ c < 8) ∧ (K (some (some (vI (A 12 c)))) F A)) : am_line qxX1_degreeOf 14 [vR 9, vI c] 2 F A K := by
  show am_stp qxX1_degreeOf (am_run qxX1_degreeOf (fun _ => none) (fun _ _ _ _ _ _ => False) K 14) K 0 [some (vR 9), some (vI c)] [] F A 0
  obtain ⟨hp, h⟩ := h
  show (w32 c < w32 0 → (K (some (some (vI 0))) F A)) ∧ (¬ w32 c < w32 0 → ((w32 c < w32 8 → ((0 ≤ w32 c ∧ w32 c < 8) ∧ (K (some (some (vI (A 12 (w32 c))))) F A))) ∧ (¬ w32 c < w32 8 → (K (some (some (vI 0))) F A))))
  refine ⟨fun c1 => ?_, fun c1 => ?_⟩
  · skip
    try simp (disch := omega) only [w32_0, w64_0, wbi0, wbi1, yc_eq0, yc_lt0, yc_gt0, Classical.not_not, w32_id, w64_id] at c1
    first | (exfalso; omega) | (simp (disch := omega) only [w32_id]; exact h) | exact h
  · skip
    try simp (disch := omega) only [w32_0, w64_0, wbi0, wbi1, yc_eq0, yc_lt0, yc_gt0, Classical.not_not, w32_id, w64_id] at c1
    refine ⟨fun c2 => ?_, fun c2 => ?_⟩
    · skip
      try simp (disch := omega) only [w32_0, w64_0, wbi0, wbi1, yc_eq0, yc_lt0, yc_gt0, Classical.not_not, w32_id, w64_id] at c2
      refine ⟨by first | omega | (simp (disch := omega) only [w32_0, w64_0, wbi0, wbi1, yc_eq0, yc_lt0, yc_gt0, Classical.not_not, w32_id, w64_id]; omega) | (simp (disch := omega) only [w32_0, w64_0, wbi0, wbi1, yc_eq0, yc_lt0, yc_gt0, Classical.not_not, w32_id, w64_id]; done), ?_⟩
      first | (exfalso; omega) | (simp (disch := omega) only [w32_id]; exact h) | exact h
    · skip
      try simp (disch := omega) only [w32_0, w64_0, wbi0, wbi1, yc_eq0, yc_lt0, yc_gt0, Classical.not_not, w32_id, w64_id] at c2
      first | (exfalso; omega) | (simp (disch := omega) only [w32_id]; exact h) | exact h
theorem qtX1_degreeOf (l : Launch) : am_CT l layX qeX1_degreeOf := am_met0 rfl (by decide +kernel) rfl rfl rfl rfl rfl (fun _ => rfl) rfl (qzX1_degreeOf l) (fun k e1 h => (qyX1_degreeOf l k e1 h).2) (fun as F A K h => by
  replace h : qsX1_degreeOf as F A K := h
  unfold qsX1_degreeOf at h
  split at h
  · rename_i o c
    refine ⟨by first | exact Nat.le_of_ble_eq_true rfl | simp [am_fl, am_cat], ?_⟩
    replace h := am_cond2 h
    rcases h with ⟨hb, h⟩ | h
    · skip
      have hb0 := hb
      have hb0 := am_bq hb0
      subst hb0
      exact am_way_line (qvX1_degreeOf_9 c F A K h)
    exact h.elim
  · exact h.elim)
def qkX1_homogeneous : Nat → Option CI := fun pc => cond (Nat.ble 32 pc) none (cond (Nat.ble 16 pc) (cond (Nat.ble 24 pc) (cond (Nat.ble 29 pc) (cond (Nat.beq pc 29) (some (.imul, 30, [])) (cond (Nat.beq pc 30) (some (.i2l, 31, [])) (cond (Nat.beq pc 31) (some (.lreturn, 32, [])) (none)))) (cond (Nat.beq pc 24) (some (.iload_n 2, 25, [])) (cond (Nat.beq pc 25) (some (.iload_n 3, 26, [])) (cond (Nat.beq pc 26) (some (.invokevirtual 61, 29, [])) (none))))) (cond (Nat.ble 20 pc) (cond (Nat.beq pc 20) (some (.iload 4, 22, [])) (cond (Nat.beq pc 22) (some (.aload_n 0, 23, [])) (cond (Nat.beq pc 23) (some (.iload_n 1, 24, [])) (none)))) (cond (Nat.beq pc 16) (some (.i2l, 17, [])) (cond (Nat.beq pc 17) (some (.goto 14, 20, [31])) (none))))) (cond (Nat.ble 7 pc) (cond (Nat.ble 10 pc) (cond (Nat.beq pc 10) (some (.iconst 2, 11, [])) (cond (Nat.beq pc 11) (some (.if_icmp .ne 9, 14, [20])) (cond (Nat.beq pc 14) (some (.iload 4, 16, [])) (none)))) (cond (Nat.beq pc 7) (some (.istore 4, 9, [])) (cond (Nat.beq pc 9) (some (.iload_n 3, 10, [])) (none)))) (cond (Nat.ble 2 pc) (cond (Nat.beq pc 2) (some (.iload_n 2, 3, [])) (cond (Nat.beq pc 3) (some (.iconst 2, 4, [])) (cond (Nat.beq pc 4) (some (.invokevirtual 61, 7, [])) (none)))) (cond (Nat.beq pc 0) (some (.aload_n 0, 1, [])) (cond (Nat.beq pc 1) (some (.iload_n 1, 2, [])) (none))))))
theorem qkX1_homogeneous_ok : ∀ pc i nx ts, qkX1_homogeneous pc = some (i, nx, ts) → am_cok cX1_homogeneous pc (i, nx, ts) = true := fun pc i nx ts h => am_tok_ok (n := 32) (by decide +kernel) (fun pc h => by show cond (Nat.ble 32 pc) _ _ = _; rw [Nat.ble_eq_true_of_le h]; rfl) h
def qaX1_homogeneous : Nat → Option CE := fun k => cond (Nat.beq k 61) (some qeX2_point) (none)
theorem qyX1_homogeneous (l : Launch) : ∀ k e1, qaX1_homogeneous k = some e1 → am_cal l layX RX1 5 k e1 ∧ ceT e1 = 0 := q_cons ⟨am_calV (ci := 2) (qtX2_point l) qbX2_point (by decide) rfl (am_tb_at 1020 (by decide +kernel) rfl), rfl⟩ (q_nil)
def qxX1_homogeneous : CX := (qkX1_homogeneous, layX, qfX1, qaX1_homogeneous, qcX1, qlX1, qmX1, (some .long), false, none, 0, none, fun _ => none)
theorem qzX1_homogeneous (l : Launch) : am_sta l qxX1_homogeneous RX1 5 cX1_homogeneous := ⟨qkX1_homogeneous_ok, layX_ok, qfX1_ok, qcX1_ok, qlX1_ok, am_mthP qmX1_ok (by decide), fun k e1 h => (qyX1_homogeneous l k e1 h).1⟩
def qsX1_homogeneous : SP := fun as F A K => match as with
  | [.inr (.inr g), .inl c, .inl k, .inl w] => cond (Nat.beq g 1) ((0 ≤ c ∧ c < 8 ∧ 0 ≤ k ∧ k < 4 ∧ 0 ≤ w ∧ w ≤ 2) ∧ (K (some (some (vL (hmX (A 2) c k w)))) F A)) (False)
  | _ => False
def qeX1_homogeneous : CE := (yX1_homogeneous, cX1_homogeneous, 5, (some .long), 4, none, 0, none, 0, 5, qsX1_homogeneous)
theorem qbX1_homogeneous : am_mb qeX1_homogeneous := ⟨am_tb_at 1019 (by decide +kernel) rfl, am_tb_at 39 (by decide +kernel) rfl, ⟨by decide, by decide, by decide +kernel⟩, by decide, am_tb_at 1018 (by decide +kernel) rfl⟩
set_option maxRecDepth 20000 in
theorem qvX1_homogeneous_1 (c : Int) (k : Int) (w : Int) (F : FF) (A : AA) (K : KK) (h : (0 ≤ c ∧ c < 8 ∧ 0 ≤ k ∧ k < 4 ∧ 0 ≤ w ∧ w ≤ 2) ∧ (K (some (some (vL (hmX (A 2) c k w)))) F A)) : am_line qxX1_homogeneous 19 [vR 1, vI c, vI k, vI w] 5 F A K := by
  show am_stp qxX1_homogeneous (am_run qxX1_homogeneous (fun _ => none) (fun _ _ _ _ _ _ => False) K 19) K 0 [some (vR 1), some (vI c), some (vI k), some (vI w), none] [] F A 0
  obtain ⟨hp, h⟩ := h
  show (w32 w = w32 2 → (K (some (some (vL (w32 (fat (A 2) (26 + (c * 4 + k) * 3 + 2)))))) F A)) ∧ (¬ w32 w = w32 2 → (K (some (some (vL (w32 ((fat (A 2) (26 + (c * 4 + k) * 3 + 2)) * (fat (A 2) (26 + (c * 4 + k) * 3 + w))))))) F A))
  refine ⟨fun c1 => ?_, fun c1 => ?_⟩
  · skip
    try simp (disch := omega) only [w32_0, w64_0, wbi0, wbi1, yc_eq0, yc_lt0, yc_gt0, Classical.not_not, w32_id, w64_id] at c1
    refine L_eq h ?_
    unfold hmX
    simp (disch := omega) only [fat_in, w32_w32]
    first | (rw [if_pos (by omega)]; done) | (rw [if_neg (by omega)]; done)
  · skip
    try simp (disch := omega) only [w32_0, w64_0, wbi0, wbi1, yc_eq0, yc_lt0, yc_gt0, Classical.not_not, w32_id, w64_id] at c1
    refine L_eq h ?_
    unfold hmX
    simp (disch := omega) only [fat_in, w32_w32]
    first | (rw [if_pos (by omega)]; done) | (rw [if_neg (by omega)]; done)
theorem qtX1_homogeneous (l : Launch) : am_CT l layX qeX1_homogeneous := am_met0 rfl (by decide +kernel) rfl rfl rfl rfl rfl (fun _ => rfl) rfl (qzX1_homogeneous l) (fun k e1 h => (qyX1_homogeneous l k e1 h).2) (fun as F A K h => by
  replace h : qsX1_homogeneous as F A K := h
  unfold qsX1_homogeneous at h
  split at h
  · rename_i g c k w
    refine ⟨by first | exact Nat.le_of_ble_eq_true rfl | simp [am_fl, am_cat], ?_⟩
    replace h := am_cond2 h
    rcases h with ⟨hb, h⟩ | h
    · skip
      have hb0 := hb
      have hb0 := am_bq hb0
      subst hb0
      exact am_way_line (qvX1_homogeneous_1 c k w F A K h)
    exact h.elim
  · exact h.elim)
def qkX1_compare : Nat → Option CI := fun pc => cond (Nat.ble 44 pc) none (cond (Nat.ble 22 pc) (cond (Nat.ble 35 pc) (cond (Nat.ble 38 pc) (cond (Nat.ble 42 pc) (cond (Nat.beq pc 42) (some (.lsub, 43, [])) (cond (Nat.beq pc 43) (some (.lreturn, 44, [])) (none))) (cond (Nat.beq pc 38) (some (.invokevirtual 53, 41, [])) (cond (Nat.beq pc 41) (some (.lmul, 42, [])) (none)))) (cond (Nat.beq pc 35) (some (.iload_n 2, 36, [])) (cond (Nat.beq pc 36) (some (.iconst 2, 37, [])) (cond (Nat.beq pc 37) (some (.iload_n 3, 38, [])) (none))))) (cond (Nat.ble 28 pc) (cond (Nat.ble 33 pc) (cond (Nat.beq pc 33) (some (.aload_n 0, 34, [])) (cond (Nat.beq pc 34) (some (.iload_n 1, 35, [])) (none))) (cond (Nat.beq pc 28) (some (.iload 6, 30, [])) (cond (Nat.beq pc 30) (some (.invokevirtual 53, 33, [])) (none)))) (cond (Nat.beq pc 22) (some (.iload 4, 24, [])) (cond (Nat.beq pc 24) (some (.iload 5, 26, [])) (cond (Nat.beq pc 26) (some (.iload 7, 28, [])) (none)))))) (cond (Nat.ble 10 pc) (cond (Nat.ble 15 pc) (cond (Nat.ble 20 pc) (cond (Nat.beq pc 20) (some (.lmul, 21, [])) (cond (Nat.beq pc 21) (some (.aload_n 0, 22, [])) (none))) (cond (Nat.beq pc 15) (some (.iload 6, 17, [])) (cond (Nat.beq pc 17) (some (.invokevirtual 53, 20, [])) (none)))) (cond (Nat.beq pc 10) (some (.iload 4, 12, [])) (cond (Nat.beq pc 12) (some (.iload 5, 14, [])) (cond (Nat.beq pc 14) (some (.iconst 2, 15, [])) (none))))) (cond (Nat.ble 3 pc) (cond (Nat.ble 6 pc) (cond (Nat.beq pc 6) (some (.invokevirtual 53, 9, [])) (cond (Nat.beq pc 9) (some (.aload_n 0, 10, [])) (none))) (cond (Nat.beq pc 3) (some (.iload 7, 5, [])) (cond (Nat.beq pc 5) (some (.iload_n 3, 6, [])) (none)))) (cond (Nat.beq pc 0) (some (.aload_n 0, 1, [])) (cond (Nat.beq pc 1) (some (.iload_n 1, 2, [])) (cond (Nat.beq pc 2) (some (.iload_n 2, 3, [])) (none)))))))
theorem qkX1_compare_ok : ∀ pc i nx ts, qkX1_compare pc = some (i, nx, ts) → am_cok cX1_compare pc (i, nx, ts) = true := fun pc i nx ts h => am_tok_ok (n := 44) (by decide +kernel) (fun pc h => by show cond (Nat.ble 44 pc) _ _ = _; rw [Nat.ble_eq_true_of_le h]; rfl) h
def qaX1_compare : Nat → Option CE := fun k => cond (Nat.beq k 53) (some qeX1_number) (none)
theorem qyX1_compare (l : Launch) : ∀ k e1, qaX1_compare k = some e1 → am_cal l layX RX1 5 k e1 ∧ ceT e1 = 0 := q_cons ⟨am_calV (ci := 1) (qtX1_number l) qbX1_number (by decide) rfl (am_tb_at 1010 (by decide +kernel) rfl), rfl⟩ (q_nil)
def qxX1_compare : CX := (qkX1_compare, layX, qfX1, qaX1_compare, qcX1, qlX1, qmX1, (some .long), false, none, 0, none, fun _ => none)
theorem qzX1_compare (l : Launch) : am_sta l qxX1_compare RX1 5 cX1_compare := ⟨qkX1_compare_ok, layX_ok, qfX1_ok, qcX1_ok, qlX1_ok, am_mthP qmX1_ok (by decide), fun k e1 h => (qyX1_compare l k e1 h).1⟩
def qsX1_compare : SP := fun as F A K => match as with
  | [.inr (.inr o), .inl c, .inl nd, .inl k, .inl c2, .inl nd2, .inl k2, .inl w] => cond (Nat.beq o 9) (((0 ≤ c ∧ c < 8 ∧ 0 ≤ nd ∧ nd < 127 ∧ 0 ≤ k ∧ k < 4) ∧ (0 ≤ c2 ∧ c2 < 8 ∧ 0 ≤ nd2 ∧ nd2 < 127 ∧ 0 ≤ k2 ∧ k2 < 4) ∧ 0 ≤ w ∧ w ≤ 1) ∧ (K (some (some (vL (A 10 (((c * 127 + nd) * 3 + w) * 4 + k) * A 10 (((c2 * 127 + nd2) * 3 + 2) * 4 + k2) - A 10 (((c2 * 127 + nd2) * 3 + w) * 4 + k2) * A 10 (((c * 127 + nd) * 3 + 2) * 4 + k))))) F A)) (False)
  | _ => False
def qeX1_compare : CE := (yX1_compare, cX1_compare, 8, (some .long), 7, some 1, 0, none, 0, 5, qsX1_compare)
theorem qbX1_compare : am_mb qeX1_compare := ⟨am_tb_at 1032 (by decide +kernel) rfl, am_tb_at 39 (by decide +kernel) rfl, ⟨by decide, by decide, by decide +kernel⟩, by decide, am_tb_at 1031 (by decide +kernel) rfl, am_tb_at 22 (by decide +kernel) rfl, _, _, rfl⟩
set_option maxRecDepth 20000 in
theorem qvX1_compare_9 (c : Int) (nd : Int) (k : Int) (c2 : Int) (nd2 : Int) (k2 : Int) (w : Int) (F : FF) (A : AA) (K : KK) (h : ((0 ≤ c ∧ c < 8 ∧ 0 ≤ nd ∧ nd < 127 ∧ 0 ≤ k ∧ k < 4) ∧ (0 ≤ c2 ∧ c2 < 8 ∧ 0 ≤ nd2 ∧ nd2 < 127 ∧ 0 ≤ k2 ∧ k2 < 4) ∧ 0 ≤ w ∧ w ≤ 1) ∧ (K (some (some (vL (A 10 (((c * 127 + nd) * 3 + w) * 4 + k) * A 10 (((c2 * 127 + nd2) * 3 + 2) * 4 + k2) - A 10 (((c2 * 127 + nd2) * 3 + w) * 4 + k2) * A 10 (((c * 127 + nd) * 3 + 2) * 4 + k))))) F A)) : am_line qxX1_compare 29 [vR 9, vI c, vI nd, vI k, vI c2, vI nd2, vI k2, vI w] 8 F A K := by
  show am_stp qxX1_compare (am_run qxX1_compare (fun _ => none) (fun _ _ _ _ _ _ => False) K 29) K 0 [some (vR 9), some (vI c), some (vI nd), some (vI k), some (vI c2), some (vI nd2), some (vI k2), some (vI w)] [] F A 0
  obtain ⟨hp, h⟩ := h
  show (0 ≤ c ∧ c < 8 ∧ 0 ≤ nd ∧ nd < 127 ∧ 0 ≤ w ∧ w ≤ 2 ∧ 0 ≤ k ∧ k < 4) ∧ ((0 ≤ c2 ∧ c2 < 8 ∧ 0 ≤ nd2 ∧ nd2 < 127 ∧ 0 ≤ 2 ∧ 2 ≤ 2 ∧ 0 ≤ k2 ∧ k2 < 4) ∧ ((0 ≤ c2 ∧ c2 < 8 ∧ 0 ≤ nd2 ∧ nd2 < 127 ∧ 0 ≤ w ∧ w ≤ 2 ∧ 0 ≤ k2 ∧ k2 < 4) ∧ ((0 ≤ c ∧ c < 8 ∧ 0 ≤ nd ∧ nd < 127 ∧ 0 ≤ 2 ∧ 2 ≤ 2 ∧ 0 ≤ k ∧ k < 4) ∧ (K (some (some (vL (((A 10 (((c * 127 + nd) * 3 + w) * 4 + k)) * (A 10 (((c2 * 127 + nd2) * 3 + 2) * 4 + k2))) - ((A 10 (((c2 * 127 + nd2) * 3 + w) * 4 + k2)) * (A 10 (((c * 127 + nd) * 3 + 2) * 4 + k))))))) F A))))
  refine ⟨by first | omega | (simp (disch := omega) only [w32_0, w64_0, wbi0, wbi1, yc_eq0, yc_lt0, yc_gt0, Classical.not_not, w32_id, w64_id]; omega) | (simp (disch := omega) only [w32_0, w64_0, wbi0, wbi1, yc_eq0, yc_lt0, yc_gt0, Classical.not_not, w32_id, w64_id]; done), ?_⟩
  refine ⟨by first | omega | (simp (disch := omega) only [w32_0, w64_0, wbi0, wbi1, yc_eq0, yc_lt0, yc_gt0, Classical.not_not, w32_id, w64_id]; omega) | (simp (disch := omega) only [w32_0, w64_0, wbi0, wbi1, yc_eq0, yc_lt0, yc_gt0, Classical.not_not, w32_id, w64_id]; done), ?_⟩
  refine ⟨by first | omega | (simp (disch := omega) only [w32_0, w64_0, wbi0, wbi1, yc_eq0, yc_lt0, yc_gt0, Classical.not_not, w32_id, w64_id]; omega) | (simp (disch := omega) only [w32_0, w64_0, wbi0, wbi1, yc_eq0, yc_lt0, yc_gt0, Classical.not_not, w32_id, w64_id]; done), ?_⟩
  refine ⟨by first | omega | (simp (disch := omega) only [w32_0, w64_0, wbi0, wbi1, yc_eq0, yc_lt0, yc_gt0, Classical.not_not, w32_id, w64_id]; omega) | (simp (disch := omega) only [w32_0, w64_0, wbi0, wbi1, yc_eq0, yc_lt0, yc_gt0, Classical.not_not, w32_id, w64_id]; done), ?_⟩
  first | exact h | exact K_eq h (by first | omega | (simp (disch := omega) only [w32_0, w64_0, wbi0, wbi1, yc_eq0, yc_lt0, yc_gt0, Classical.not_not, w32_id, w64_id]; omega) | (simp (disch := omega) only [w32_0, w64_0, wbi0, wbi1, yc_eq0, yc_lt0, yc_gt0, Classical.not_not, w32_id, w64_id]; done))
theorem qtX1_compare (l : Launch) : am_CT l layX qeX1_compare := am_met0 rfl (by decide +kernel) rfl rfl rfl rfl rfl (fun _ => rfl) rfl (qzX1_compare l) (fun k e1 h => (qyX1_compare l k e1 h).2) (fun as F A K h => by
  replace h : qsX1_compare as F A K := h
  unfold qsX1_compare at h
  split at h
  · rename_i o c nd k c2 nd2 k2 w
    refine ⟨by first | exact Nat.le_of_ble_eq_true rfl | simp [am_fl, am_cat], ?_⟩
    replace h := am_cond2 h
    rcases h with ⟨hb, h⟩ | h
    · skip
      have hb0 := hb
      have hb0 := am_bq hb0
      subst hb0
      exact am_way_line (qvX1_compare_9 c nd k c2 nd2 k2 w F A K h)
    exact h.elim
  · exact h.elim)
def qkX1_findExtremes : Nat → Option CI := fun pc => cond (Nat.ble 127 pc) none (cond (Nat.ble 59 pc) (cond (Nat.ble 91 pc) (cond (Nat.ble 107 pc) (cond (Nat.ble 117 pc) (cond (Nat.ble 120 pc) (cond (Nat.beq pc 120) (some (.iinc 3 1, 123, [])) (cond (Nat.beq pc 123) (some (.goto (-121), 126, [2])) (cond (Nat.beq pc 126) (some (.return_, 127, [])) (none)))) (cond (Nat.beq pc 117) (some (.iload 5, 119, [])) (cond (Nat.beq pc 119) (some (.iastore, 120, [])) (none)))) (cond (Nat.ble 111 pc) (cond (Nat.beq pc 111) (some (.aload_n 0, 112, [])) (cond (Nat.beq pc 112) (some (.getfield 15, 115, [])) (cond (Nat.beq pc 115) (some (.iload 6, 117, [])) (none)))) (cond (Nat.beq pc 107) (some (.arraylength, 108, [])) (cond (Nat.beq pc 108) (some (.if_icmp .ge 12, 111, [120])) (none))))) (cond (Nat.ble 96 pc) (cond (Nat.ble 101 pc) (cond (Nat.beq pc 101) (some (.iload 6, 103, [])) (cond (Nat.beq pc 103) (some (.aload_n 0, 104, [])) (cond (Nat.beq pc 104) (some (.getfield 15, 107, [])) (none)))) (cond (Nat.beq pc 96) (some (.iload 6, 98, [])) (cond (Nat.beq pc 98) (some (.ifCond .lt 22, 101, [120])) (none)))) (cond (Nat.ble 93 pc) (cond (Nat.beq pc 93) (some (.iadd, 94, [])) (cond (Nat.beq pc 94) (some (.istore 6, 96, [])) (none))) (cond (Nat.beq pc 91) (some (.imul, 92, [])) (cond (Nat.beq pc 92) (some (.iload_n 3, 93, [])) (none)))))) (cond (Nat.ble 76 pc) (cond (Nat.ble 85 pc) (cond (Nat.ble 88 pc) (cond (Nat.beq pc 88) (some (.iload_n 2, 89, [])) (cond (Nat.beq pc 89) (some (.iadd, 90, [])) (cond (Nat.beq pc 90) (some (.iconst 4, 91, [])) (none)))) (cond (Nat.beq pc 85) (some (.bipush 127, 87, [])) (cond (Nat.beq pc 87) (some (.imul, 88, [])) (none)))) (cond (Nat.ble 81 pc) (cond (Nat.beq pc 81) (some (.goto (-55), 84, [26])) (cond (Nat.beq pc 84) (some (.iload_n 1, 85, [])) (none))) (cond (Nat.beq pc 76) (some (.istore 5, 78, [])) (cond (Nat.beq pc 78) (some (.iinc 6 1, 81, [])) (none))))) (cond (Nat.ble 67 pc) (cond (Nat.ble 70 pc) (cond (Nat.beq pc 70) (some (.lcmp, 71, [])) (cond (Nat.beq pc 71) (some (.ifCond .le 7, 74, [78])) (cond (Nat.beq pc 74) (some (.iload 6, 76, [])) (none)))) (cond (Nat.beq pc 67) (some (.lload 7, 69, [])) (cond (Nat.beq pc 69) (some (.lconst 0, 70, [])) (none)))) (cond (Nat.ble 61 pc) (cond (Nat.beq pc 61) (some (.ifCond .ge 17, 64, [78])) (cond (Nat.beq pc 64) (some (.goto 10, 67, [74])) (none))) (cond (Nat.beq pc 59) (some (.lconst 0, 60, [])) (cond (Nat.beq pc 60) (some (.lcmp, 61, [])) (none))))))) (cond (Nat.ble 28 pc) (cond (Nat.ble 42 pc) (cond (Nat.ble 50 pc) (cond (Nat.ble 53 pc) (cond (Nat.beq pc 53) (some (.iconst 2, 54, [])) (cond (Nat.beq pc 54) (some (.if_icmp .ge 13, 57, [67])) (cond (Nat.beq pc 57) (some (.lload 7, 59, [])) (none)))) (cond (Nat.beq pc 50) (some (.lstore 7, 52, [])) (cond (Nat.beq pc 52) (some (.iload_n 3, 53, [])) (none)))) (cond (Nat.ble 45 pc) (cond (Nat.beq pc 45) (some (.iload 4, 47, [])) (cond (Nat.beq pc 47) (some (.invokevirtual 75, 50, [])) (none))) (cond (Nat.beq pc 42) (some (.iload_n 2, 43, [])) (cond (Nat.beq pc 43) (some (.iload 5, 45, [])) (none))))) (cond (Nat.ble 36 pc) (cond (Nat.ble 38 pc) (cond (Nat.beq pc 38) (some (.iload_n 2, 39, [])) (cond (Nat.beq pc 39) (some (.iload 6, 41, [])) (cond (Nat.beq pc 41) (some (.iload_n 1, 42, [])) (none)))) (cond (Nat.beq pc 36) (some (.aload_n 0, 37, [])) (cond (Nat.beq pc 37) (some (.iload_n 1, 38, [])) (none)))) (cond (Nat.ble 30 pc) (cond (Nat.beq pc 30) (some (.invokevirtual 47, 33, [])) (cond (Nat.beq pc 33) (some (.if_icmp .gt 51, 36, [84])) (none))) (cond (Nat.beq pc 28) (some (.aload_n 0, 29, [])) (cond (Nat.beq pc 29) (some (.iload_n 1, 30, [])) (none)))))) (cond (Nat.ble 13 pc) (cond (Nat.ble 20 pc) (cond (Nat.ble 23 pc) (cond (Nat.beq pc 23) (some (.iconst 1, 24, [])) (cond (Nat.beq pc 24) (some (.istore 6, 26, [])) (cond (Nat.beq pc 26) (some (.iload 6, 28, [])) (none)))) (cond (Nat.beq pc 20) (some (.iconst 0, 21, [])) (cond (Nat.beq pc 21) (some (.istore 5, 23, [])) (none)))) (cond (Nat.ble 17 pc) (cond (Nat.beq pc 17) (some (.iconst 1, 18, [])) (cond (Nat.beq pc 18) (some (.istore 4, 20, [])) (none))) (cond (Nat.beq pc 13) (some (.iconst 0, 14, [])) (cond (Nat.beq pc 14) (some (.goto 4, 17, [18])) (none))))) (cond (Nat.ble 4 pc) (cond (Nat.ble 8 pc) (cond (Nat.beq pc 8) (some (.iconst 2, 9, [])) (cond (Nat.beq pc 9) (some (.irem, 10, [])) (cond (Nat.beq pc 10) (some (.ifCond .ne 7, 13, [17])) (none)))) (cond (Nat.beq pc 4) (some (.if_icmp .ge 122, 7, [126])) (cond (Nat.beq pc 7) (some (.iload_n 3, 8, [])) (none)))) (cond (Nat.ble 2 pc) (cond (Nat.beq pc 2) (some (.iload_n 3, 3, [])) (cond (Nat.beq pc 3) (some (.iconst 4, 4, [])) (none))) (cond (Nat.beq pc 0) (some (.iconst 0, 1, [])) (cond (Nat.beq pc 1) (some (.istore_n 3, 2, [])) (none))))))))
theorem qkX1_findExtremes_ok : ∀ pc i nx ts, qkX1_findExtremes pc = some (i, nx, ts) → am_cok cX1_findExtremes pc (i, nx, ts) = true := fun pc i nx ts h => am_tok_ok (n := 127) (by decide +kernel) (fun pc h => by show cond (Nat.ble 127 pc) _ _ = _; rw [Nat.ble_eq_true_of_le h]; rfl) h
def qaX1_findExtremes : Nat → Option CE := fun k => cond (Nat.beq k 47) (some qeX1_degreeOf) (cond (Nat.beq k 75) (some qeX1_compare) (none))
theorem qyX1_findExtremes (l : Launch) : ∀ k e1, qaX1_findExtremes k = some e1 → am_cal l layX RX1 6 k e1 ∧ ceT e1 = 0 := q_cons ⟨am_calV (ci := 1) (qtX1_degreeOf l) qbX1_degreeOf (by decide) rfl (am_tb_at 1004 (by decide +kernel) rfl), rfl⟩ (q_cons ⟨am_calV (ci := 1) (qtX1_compare l) qbX1_compare (by decide) rfl (am_tb_at 1029 (by decide +kernel) rfl), rfl⟩ (q_nil))
def qxX1_findExtremes : CX := (qkX1_findExtremes, layX, qfX1, qaX1_findExtremes, qcX1, qlX1, qmX1, none, false, none, 0, none, fun _ => none)
theorem qzX1_findExtremes (l : Launch) : am_sta l qxX1_findExtremes RX1 6 cX1_findExtremes := ⟨qkX1_findExtremes_ok, layX_ok, qfX1_ok, qcX1_ok, qlX1_ok, am_mthP qmX1_ok (by decide), fun k e1 h => (qyX1_findExtremes l k e1 h).1⟩
def qsX1_findExtremes : SP := fun as F A K => match as with
  | [.inr (.inr o), .inl c, .inl nd] => cond (Nat.beq o 9) ((0 ≤ c ∧ c < 8 ∧ 0 ≤ nd ∧ nd < 127 ∧ 0 ≤ A 12 c ∧ A 12 c ≤ 3) ∧ (K (some none) F (setR A 11 ((c * 127 + nd) * 4) 4 (fun ss => exB (fun jj => A 10 (((c * 127 + nd) * 3 + ss % 2) * 4 + jj)) (fun jj => A 10 (((c * 127 + nd) * 3 + 2) * 4 + jj)) ss (Int.toNat (A 12 c)))))) (False)
  | _ => False
def qeX1_findExtremes : CE := (yX1_findExtremes, cX1_findExtremes, 9, none, 2, some 1, 0, none, 0, 6, qsX1_findExtremes)
theorem qbX1_findExtremes : am_mb qeX1_findExtremes := ⟨am_tb_at 1028 (by decide +kernel) rfl, am_tb_at 39 (by decide +kernel) rfl, ⟨by decide, by decide, by decide +kernel⟩, by decide, am_tb_at 1027 (by decide +kernel) rfl, am_tb_at 21 (by decide +kernel) rfl, _, _, rfl⟩
def qnX1_findExtremes_9 : CUT := fun pc => cond (Nat.beq pc 2) (some [true, true, true, true, false, false, false, false, false]) (cond (Nat.beq pc 26) (some [true, true, true, true, true, true, true, false, false]) (none))
def qiX1_findExtremes_9 (c : Int) (nd : Int) (F0 : FF) (A0 : AA) : REC := fun pc ls st F A u => cond (Nat.beq pc 2) (match ls, st, u with
    | [some (.inr (.inr s0)), some (.inl s1), some (.inl s2), some (.inl s), none, none, none, none, none], [], 0 => s0 = 9 ∧ s1 = c ∧ s2 = nd ∧ F = F0 ∧ (0 ≤ s ∧ s ≤ 4 ∧ A = setR A0 11 ((c * 127 + nd) * 4) s (fun ss => exB (fun jj => A0 10 (((c * 127 + nd) * 3 + ss % 2) * 4 + jj)) (fun jj => A0 10 (((c * 127 + nd) * 3 + 2) * 4 + jj)) ss (Int.toNat (A0 12 c))))
    | _, _, _ => False) (cond (Nat.beq pc 26) (match ls, st, u with
    | [some (.inr (.inr s0)), some (.inl s1), some (.inl s2), some (.inl s), some (.inl w), some (.inl b), some (.inl k), none, none], [], 0 => s0 = 9 ∧ s1 = c ∧ s2 = nd ∧ F = F0 ∧ (0 ≤ s ∧ s ≤ 3 ∧ w = s % 2 ∧ 1 ≤ k ∧ k ≤ A0 12 c + 1 ∧ b = exB (fun jj => A0 10 (((c * 127 + nd) * 3 + s % 2) * 4 + jj)) (fun jj => A0 10 (((c * 127 + nd) * 3 + 2) * 4 + jj)) s (Int.toNat (k - 1)) ∧ A = setR A0 11 ((c * 127 + nd) * 4) s (fun ss => exB (fun jj => A0 10 (((c * 127 + nd) * 3 + ss % 2) * 4 + jj)) (fun jj => A0 10 (((c * 127 + nd) * 3 + 2) * 4 + jj)) ss (Int.toNat (A0 12 c))))
    | _, _, _ => False) (False))
def quX1_findExtremes_9 : Nat → LVs → List AV → FF → AA → Nat := fun pc ls _ F A => cond (Nat.beq pc 2) (match ls with
    | [some (.inr (.inr s0)), some (.inl s1), some (.inl s2), some (.inl s), none, none, none, none, none] => Int.toNat (100 - 20 * s)
    | _ => 0) (cond (Nat.beq pc 26) (match ls with
    | [some (.inr (.inr s0)), some (.inl s1), some (.inl s2), some (.inl s), some (.inl w), some (.inl b), some (.inl k), none, none] => Int.toNat (99 - 20 * s - k)
    | _ => 0) (0))
set_option maxRecDepth 20000 in
theorem qvX1_findExtremes_9_0 (c : Int) (nd : Int) (F0 : FF) (A0 : AA) (K : KK) (h : (0 ≤ c ∧ c < 8 ∧ 0 ≤ nd ∧ nd < 127 ∧ 0 ≤ A0 12 c ∧ A0 12 c ≤ 3) ∧ (K (some none) F0 (setR A0 11 ((c * 127 + nd) * 4) 4 (fun ss => exB (fun jj => A0 10 (((c * 127 + nd) * 3 + ss % 2) * 4 + jj)) (fun jj => A0 10 (((c * 127 + nd) * 3 + 2) * 4 + jj)) ss (Int.toNat (A0 12 c)))))) : am_stp qxX1_findExtremes (am_run qxX1_findExtremes qnX1_findExtremes_9 (qiX1_findExtremes_9 c nd F0 A0) K 32) K 0 (am_ent [vR 9, vI c, vI nd] 9) [] F0 A0 0 := by
  show am_stp qxX1_findExtremes (am_run qxX1_findExtremes qnX1_findExtremes_9 (qiX1_findExtremes_9 c nd F0 A0) K 32) K 0 [some (vR 9), some (vI c), some (vI nd), none, none, none, none, none, none] [] F0 A0 0
  obtain ⟨hp, h⟩ := h
  show 9 = 9 ∧ c = c ∧ nd = nd ∧ F0 = F0 ∧ (0 ≤ 0 ∧ 0 ≤ 4 ∧ A0 = setR A0 11 ((c * 127 + nd) * 4) 0 (fun ss => exB (fun jj => A0 10 (((c * 127 + nd) * 3 + ss % 2) * 4 + jj)) (fun jj => A0 10 (((c * 127 + nd) * 3 + 2) * 4 + jj)) ss (Int.toNat (A0 12 c))))
  refine ⟨rfl, rfl, rfl, rfl, ?_⟩
  exact ⟨by omega, by omega, setR_0.symm⟩
set_option maxRecDepth 20000 in
theorem qvX1_findExtremes_9_2 (c : Int) (nd : Int) (F0 : FF) (A0 : AA) (K : KK) (h : (0 ≤ c ∧ c < 8 ∧ 0 ≤ nd ∧ nd < 127 ∧ 0 ≤ A0 12 c ∧ A0 12 c ≤ 3) ∧ (K (some none) F0 (setR A0 11 ((c * 127 + nd) * 4) 4 (fun ss => exB (fun jj => A0 10 (((c * 127 + nd) * 3 + ss % 2) * 4 + jj)) (fun jj => A0 10 (((c * 127 + nd) * 3 + 2) * 4 + jj)) ss (Int.toNat (A0 12 c)))))) (s : Int) (A : AA) (hi : 0 ≤ s ∧ s ≤ 4 ∧ A = setR A0 11 ((c * 127 + nd) * 4) s (fun ss => exB (fun jj => A0 10 (((c * 127 + nd) * 3 + ss % 2) * 4 + jj)) (fun jj => A0 10 (((c * 127 + nd) * 3 + 2) * 4 + jj)) ss (Int.toNat (A0 12 c)))) : am_stp qxX1_findExtremes (am_run qxX1_findExtremes qnX1_findExtremes_9 (fun pc ls st F A u => qiX1_findExtremes_9 c nd F0 A0 pc ls st F A u ∧ quX1_findExtremes_9 pc ls st F A < quX1_findExtremes_9 2 [some (vR 9), some (vI c), some (vI nd), some (vI s), none, none, none, none, none] [] F0 A) K 32) K 2 [some (vR 9), some (vI c), some (vI nd), some (vI s), none, none, none, none, none] [] F0 A 0 := by
  obtain ⟨hp, h⟩ := h
  obtain ⟨h1, h2, hA⟩ := hi
  show (w32 s < w32 4 → ((w32 2 ≠ 0) ∧ ((w32 (x_rem s 2) = w32 0 → ((9 = 9 ∧ c = c ∧ nd = nd ∧ F0 = F0 ∧ (0 ≤ s ∧ s ≤ 3 ∧ 0 = s % 2 ∧ 1 ≤ 1 ∧ 1 ≤ A0 12 c + 1 ∧ 0 = exB (fun jj => A0 10 (((c * 127 + nd) * 3 + s % 2) * 4 + jj)) (fun jj => A0 10 (((c * 127 + nd) * 3 + 2) * 4 + jj)) s (Int.toNat (1 - 1)) ∧ A = setR A0 11 ((c * 127 + nd) * 4) s (fun ss => exB (fun jj => A0 10 (((c * 127 + nd) * 3 + ss % 2) * 4 + jj)) (fun jj => A0 10 (((c * 127 + nd) * 3 + 2) * 4 + jj)) ss (Int.toNat (A0 12 c))))) ∧ (Int.toNat (99 - 20 * s - 1)) < (Int.toNat (100 - 20 * s)))) ∧ (¬ w32 (x_rem s 2) = w32 0 → ((9 = 9 ∧ c = c ∧ nd = nd ∧ F0 = F0 ∧ (0 ≤ s ∧ s ≤ 3 ∧ 1 = s % 2 ∧ 1 ≤ 1 ∧ 1 ≤ A0 12 c + 1 ∧ 0 = exB (fun jj => A0 10 (((c * 127 + nd) * 3 + s % 2) * 4 + jj)) (fun jj => A0 10 (((c * 127 + nd) * 3 + 2) * 4 + jj)) s (Int.toNat (1 - 1)) ∧ A = setR A0 11 ((c * 127 + nd) * 4) s (fun ss => exB (fun jj => A0 10 (((c * 127 + nd) * 3 + ss % 2) * 4 + jj)) (fun jj => A0 10 (((c * 127 + nd) * 3 + 2) * 4 + jj)) ss (Int.toNat (A0 12 c))))) ∧ (Int.toNat (99 - 20 * s - 1)) < (Int.toNat (100 - 20 * s))))))) ∧ (¬ w32 s < w32 4 → (K (some none) F0 A))
  refine ⟨fun c1 => ?_, fun c1 => ?_⟩
  · skip
    (try simp (disch := omega) only [w32_0, w32_id, x_rem_eq] at c1)
    refine ⟨by first | omega | (simp (disch := omega) only [w32_0, w64_0, wbi0, wbi1, yc_eq0, yc_lt0, yc_gt0, Classical.not_not, w32_id, w64_id]; omega) | (simp (disch := omega) only [w32_0, w64_0, wbi0, wbi1, yc_eq0, yc_lt0, yc_gt0, Classical.not_not, w32_id, w64_id]; done), ?_⟩
    refine ⟨fun c2 => ?_, fun c2 => ?_⟩
    · skip
      (try simp (disch := omega) only [w32_0, w32_id, x_rem_eq] at c2)
      refine ⟨⟨rfl, rfl, rfl, rfl, ?_⟩, by omega⟩
      exact ⟨by omega, by omega, by omega, by omega, by omega, rfl, hA⟩
    · skip
      (try simp (disch := omega) only [w32_0, w32_id, x_rem_eq] at c2)
      refine ⟨⟨rfl, rfl, rfl, rfl, ?_⟩, by omega⟩
      exact ⟨by omega, by omega, by omega, by omega, by omega, rfl, hA⟩
  · skip
    (try simp (disch := omega) only [w32_0, w32_id, x_rem_eq] at c1)
    rw [hA, show s = 4 by omega]; exact h
set_option maxRecDepth 20000 in
theorem qvX1_findExtremes_9_26 (c : Int) (nd : Int) (F0 : FF) (A0 : AA) (K : KK) (h : (0 ≤ c ∧ c < 8 ∧ 0 ≤ nd ∧ nd < 127 ∧ 0 ≤ A0 12 c ∧ A0 12 c ≤ 3) ∧ (K (some none) F0 (setR A0 11 ((c * 127 + nd) * 4) 4 (fun ss => exB (fun jj => A0 10 (((c * 127 + nd) * 3 + ss % 2) * 4 + jj)) (fun jj => A0 10 (((c * 127 + nd) * 3 + 2) * 4 + jj)) ss (Int.toNat (A0 12 c)))))) (s : Int) (w : Int) (b : Int) (k : Int) (A : AA) (hi : 0 ≤ s ∧ s ≤ 3 ∧ w = s % 2 ∧ 1 ≤ k ∧ k ≤ A0 12 c + 1 ∧ b = exB (fun jj => A0 10 (((c * 127 + nd) * 3 + s % 2) * 4 + jj)) (fun jj => A0 10 (((c * 127 + nd) * 3 + 2) * 4 + jj)) s (Int.toNat (k - 1)) ∧ A = setR A0 11 ((c * 127 + nd) * 4) s (fun ss => exB (fun jj => A0 10 (((c * 127 + nd) * 3 + ss % 2) * 4 + jj)) (fun jj => A0 10 (((c * 127 + nd) * 3 + 2) * 4 + jj)) ss (Int.toNat (A0 12 c)))) : am_stp qxX1_findExtremes (am_run qxX1_findExtremes qnX1_findExtremes_9 (fun pc ls st F A u => qiX1_findExtremes_9 c nd F0 A0 pc ls st F A u ∧ quX1_findExtremes_9 pc ls st F A < quX1_findExtremes_9 26 [some (vR 9), some (vI c), some (vI nd), some (vI s), some (vI w), some (vI b), some (vI k), none, none] [] F0 A) K 32) K 26 [some (vR 9), some (vI c), some (vI nd), some (vI s), some (vI w), some (vI b), some (vI k), none, none] [] F0 A 0 := by
  obtain ⟨hp, h⟩ := h
  obtain ⟨h1, h2, hw, h3, h4, h5, hA⟩ := hi
  have e10 : A 10 = A0 10 := by rw [hA]; exact setR_r (by decide)
  have e12 : A 12 = A0 12 := by rw [hA]; exact setR_r (by decide)
  have hs := exB_s (X := (fun jj => A0 10 (((c * 127 + nd) * 3 + s % 2) * 4 + jj))) (W := (fun jj => A0 10 (((c * 127 + nd) * 3 + 2) * 4 + jj))) (s := s) h3
  have hb := exB_b (fun jj => A0 10 (((c * 127 + nd) * 3 + s % 2) * 4 + jj)) (fun jj => A0 10 (((c * 127 + nd) * 3 + 2) * 4 + jj)) s (Int.toNat (k - 1))
  rw [← h5] at hs hb
  show (0 ≤ c ∧ c < 8) ∧ ((w32 (A 12 c) < w32 k → ((w32 ((((c * 127) + nd) * 4) + s) < w32 0 → ((9 = 9 ∧ c = c ∧ nd = nd ∧ F0 = F0 ∧ (0 ≤ (s + 1) ∧ (s + 1) ≤ 4 ∧ A = setR A0 11 ((c * 127 + nd) * 4) (s + 1) (fun ss => exB (fun jj => A0 10 (((c * 127 + nd) * 3 + ss % 2) * 4 + jj)) (fun jj => A0 10 (((c * 127 + nd) * 3 + 2) * 4 + jj)) ss (Int.toNat (A0 12 c))))) ∧ (Int.toNat (100 - 20 * (s + 1))) < (Int.toNat (99 - 20 * s - k)))) ∧ (¬ w32 ((((c * 127) + nd) * 4) + s) < w32 0 → ((w32 ((((c * 127) + nd) * 4) + s) < w32 4064 → ((0 ≤ w32 ((((c * 127) + nd) * 4) + s) ∧ w32 ((((c * 127) + nd) * 4) + s) < 4064) ∧ ((9 = 9 ∧ c = c ∧ nd = nd ∧ F0 = F0 ∧ (0 ≤ (s + 1) ∧ (s + 1) ≤ 4 ∧ (upA A 11 (w32 ((((c * 127) + nd) * 4) + s)) b) = setR A0 11 ((c * 127 + nd) * 4) (s + 1) (fun ss => exB (fun jj => A0 10 (((c * 127 + nd) * 3 + ss % 2) * 4 + jj)) (fun jj => A0 10 (((c * 127 + nd) * 3 + 2) * 4 + jj)) ss (Int.toNat (A0 12 c))))) ∧ (Int.toNat (100 - 20 * (s + 1))) < (Int.toNat (99 - 20 * s - k))))) ∧ (¬ w32 ((((c * 127) + nd) * 4) + s) < w32 4064 → ((9 = 9 ∧ c = c ∧ nd = nd ∧ F0 = F0 ∧ (0 ≤ (s + 1) ∧ (s + 1) ≤ 4 ∧ A = setR A0 11 ((c * 127 + nd) * 4) (s + 1) (fun ss => exB (fun jj => A0 10 (((c * 127 + nd) * 3 + ss % 2) * 4 + jj)) (fun jj => A0 10 (((c * 127 + nd) * 3 + 2) * 4 + jj)) ss (Int.toNat (A0 12 c))))) ∧ (Int.toNat (100 - 20 * (s + 1))) < (Int.toNat (99 - 20 * s - k)))))))) ∧ (¬ w32 (A 12 c) < w32 k → (((0 ≤ c ∧ c < 8 ∧ 0 ≤ nd ∧ nd < 127 ∧ 0 ≤ k ∧ k < 4) ∧ (0 ≤ c ∧ c < 8 ∧ 0 ≤ nd ∧ nd < 127 ∧ 0 ≤ b ∧ b < 4) ∧ 0 ≤ w ∧ w ≤ 1) ∧ ((w32 s < w32 2 → ((w32 (y_cmp (A 10 (((c * 127 + nd) * 3 + w) * 4 + k) * A 10 (((c * 127 + nd) * 3 + 2) * 4 + b) - A 10 (((c * 127 + nd) * 3 + w) * 4 + b) * A 10 (((c * 127 + nd) * 3 + 2) * 4 + k)) 0) < w32 0 → ((9 = 9 ∧ c = c ∧ nd = nd ∧ F0 = F0 ∧ (0 ≤ s ∧ s ≤ 3 ∧ w = s % 2 ∧ 1 ≤ (k + 1) ∧ (k + 1) ≤ A0 12 c + 1 ∧ k = exB (fun jj => A0 10 (((c * 127 + nd) * 3 + s % 2) * 4 + jj)) (fun jj => A0 10 (((c * 127 + nd) * 3 + 2) * 4 + jj)) s (Int.toNat ((k + 1) - 1)) ∧ A = setR A0 11 ((c * 127 + nd) * 4) s (fun ss => exB (fun jj => A0 10 (((c * 127 + nd) * 3 + ss % 2) * 4 + jj)) (fun jj => A0 10 (((c * 127 + nd) * 3 + 2) * 4 + jj)) ss (Int.toNat (A0 12 c))))) ∧ (Int.toNat (99 - 20 * s - (k + 1))) < (Int.toNat (99 - 20 * s - k)))) ∧ (¬ w32 (y_cmp (A 10 (((c * 127 + nd) * 3 + w) * 4 + k) * A 10 (((c * 127 + nd) * 3 + 2) * 4 + b) - A 10 (((c * 127 + nd) * 3 + w) * 4 + b) * A 10 (((c * 127 + nd) * 3 + 2) * 4 + k)) 0) < w32 0 → ((9 = 9 ∧ c = c ∧ nd = nd ∧ F0 = F0 ∧ (0 ≤ s ∧ s ≤ 3 ∧ w = s % 2 ∧ 1 ≤ (k + 1) ∧ (k + 1) ≤ A0 12 c + 1 ∧ b = exB (fun jj => A0 10 (((c * 127 + nd) * 3 + s % 2) * 4 + jj)) (fun jj => A0 10 (((c * 127 + nd) * 3 + 2) * 4 + jj)) s (Int.toNat ((k + 1) - 1)) ∧ A = setR A0 11 ((c * 127 + nd) * 4) s (fun ss => exB (fun jj => A0 10 (((c * 127 + nd) * 3 + ss % 2) * 4 + jj)) (fun jj => A0 10 (((c * 127 + nd) * 3 + 2) * 4 + jj)) ss (Int.toNat (A0 12 c))))) ∧ (Int.toNat (99 - 20 * s - (k + 1))) < (Int.toNat (99 - 20 * s - k)))))) ∧ (¬ w32 s < w32 2 → ((w32 0 < w32 (y_cmp (A 10 (((c * 127 + nd) * 3 + w) * 4 + k) * A 10 (((c * 127 + nd) * 3 + 2) * 4 + b) - A 10 (((c * 127 + nd) * 3 + w) * 4 + b) * A 10 (((c * 127 + nd) * 3 + 2) * 4 + k)) 0) → ((9 = 9 ∧ c = c ∧ nd = nd ∧ F0 = F0 ∧ (0 ≤ s ∧ s ≤ 3 ∧ w = s % 2 ∧ 1 ≤ (k + 1) ∧ (k + 1) ≤ A0 12 c + 1 ∧ k = exB (fun jj => A0 10 (((c * 127 + nd) * 3 + s % 2) * 4 + jj)) (fun jj => A0 10 (((c * 127 + nd) * 3 + 2) * 4 + jj)) s (Int.toNat ((k + 1) - 1)) ∧ A = setR A0 11 ((c * 127 + nd) * 4) s (fun ss => exB (fun jj => A0 10 (((c * 127 + nd) * 3 + ss % 2) * 4 + jj)) (fun jj => A0 10 (((c * 127 + nd) * 3 + 2) * 4 + jj)) ss (Int.toNat (A0 12 c))))) ∧ (Int.toNat (99 - 20 * s - (k + 1))) < (Int.toNat (99 - 20 * s - k)))) ∧ (¬ w32 0 < w32 (y_cmp (A 10 (((c * 127 + nd) * 3 + w) * 4 + k) * A 10 (((c * 127 + nd) * 3 + 2) * 4 + b) - A 10 (((c * 127 + nd) * 3 + w) * 4 + b) * A 10 (((c * 127 + nd) * 3 + 2) * 4 + k)) 0) → ((9 = 9 ∧ c = c ∧ nd = nd ∧ F0 = F0 ∧ (0 ≤ s ∧ s ≤ 3 ∧ w = s % 2 ∧ 1 ≤ (k + 1) ∧ (k + 1) ≤ A0 12 c + 1 ∧ b = exB (fun jj => A0 10 (((c * 127 + nd) * 3 + s % 2) * 4 + jj)) (fun jj => A0 10 (((c * 127 + nd) * 3 + 2) * 4 + jj)) s (Int.toNat ((k + 1) - 1)) ∧ A = setR A0 11 ((c * 127 + nd) * 4) s (fun ss => exB (fun jj => A0 10 (((c * 127 + nd) * 3 + ss % 2) * 4 + jj)) (fun jj => A0 10 (((c * 127 + nd) * 3 + 2) * 4 + jj)) ss (Int.toNat (A0 12 c))))) ∧ (Int.toNat (99 - 20 * s - (k + 1))) < (Int.toNat (99 - 20 * s - k))))))))))
  refine ⟨by first | omega | (simp only [e12]; omega) | (simp (disch := omega) only [w32_id]; omega), ?_⟩
  refine ⟨fun c1 => ?_, fun c1 => ?_⟩
  · skip
    (try simp only [e10, e12] at c1); (try simp (disch := omega) only [w32_0, w64_0, yc_lt0, yc_gt0, yc_eq0, w32_id] at c1)
    refine ⟨fun c2 => ?_, fun c2 => ?_⟩
    · skip
      (try simp only [e10, e12] at c2); (try simp (disch := omega) only [w32_0, w64_0, yc_lt0, yc_gt0, yc_eq0, w32_id] at c2)
      refine ⟨⟨rfl, rfl, rfl, rfl, ?_⟩, by omega⟩
      exfalso; omega
    · skip
      (try simp only [e10, e12] at c2); (try simp (disch := omega) only [w32_0, w64_0, yc_lt0, yc_gt0, yc_eq0, w32_id] at c2)
      refine ⟨fun c3 => ?_, fun c3 => ?_⟩
      · skip
        (try simp only [e10, e12] at c3); (try simp (disch := omega) only [w32_0, w64_0, yc_lt0, yc_gt0, yc_eq0, w32_id] at c3)
        refine ⟨by first | omega | (simp only [e12]; omega) | (simp (disch := omega) only [w32_id]; omega), ?_⟩
        refine ⟨⟨rfl, rfl, rfl, rfl, ?_⟩, by omega⟩
        refine ⟨by omega, by omega, ?_⟩
        simp (disch := omega) only [w32_id]
        rw [hA]
        exact setR_push (by omega) (fun _ _ _ => rfl) (by rw [h5, show k - 1 = A0 12 c by omega])
      · skip
        (try simp only [e10, e12] at c3); (try simp (disch := omega) only [w32_0, w64_0, yc_lt0, yc_gt0, yc_eq0, w32_id] at c3)
        refine ⟨⟨rfl, rfl, rfl, rfl, ?_⟩, by omega⟩
        exfalso; omega
  · skip
    (try simp only [e10, e12] at c1); (try simp (disch := omega) only [w32_0, w64_0, yc_lt0, yc_gt0, yc_eq0, w32_id] at c1)
    refine ⟨by first | omega | (simp only [e12]; omega) | (simp (disch := omega) only [w32_id]; omega), ?_⟩
    refine ⟨fun c2 => ?_, fun c2 => ?_⟩
    · skip
      (try simp only [e10, e12] at c2); (try simp (disch := omega) only [w32_0, w64_0, yc_lt0, yc_gt0, yc_eq0, w32_id] at c2)
      refine ⟨fun c3 => ?_, fun c3 => ?_⟩
      · skip
        (try simp only [e10, e12] at c3); (try simp (disch := omega) only [w32_0, w64_0, yc_lt0, yc_gt0, yc_eq0, w32_id] at c3)
        refine ⟨⟨rfl, rfl, rfl, rfl, ?_⟩, by omega⟩
        rw [hw] at c3
        refine ⟨h1, h2, hw, by omega, by omega, ?_, hA⟩
        rw [show k + 1 - 1 = k by omega, hs]
        rw [if_pos (by rw [if_pos (by omega)]; exact c3)]
      · skip
        (try simp only [e10, e12] at c3); (try simp (disch := omega) only [w32_0, w64_0, yc_lt0, yc_gt0, yc_eq0, w32_id] at c3)
        refine ⟨⟨rfl, rfl, rfl, rfl, ?_⟩, by omega⟩
        rw [hw] at c3
        refine ⟨h1, h2, hw, by omega, by omega, ?_, hA⟩
        rw [show k + 1 - 1 = k by omega, hs]
        rw [if_neg (by rw [if_pos (by omega)]; exact c3)]
    · skip
      (try simp only [e10, e12] at c2); (try simp (disch := omega) only [w32_0, w64_0, yc_lt0, yc_gt0, yc_eq0, w32_id] at c2)
      refine ⟨fun c3 => ?_, fun c3 => ?_⟩
      · skip
        (try simp only [e10, e12] at c3); (try simp (disch := omega) only [w32_0, w64_0, yc_lt0, yc_gt0, yc_eq0, w32_id] at c3)
        refine ⟨⟨rfl, rfl, rfl, rfl, ?_⟩, by omega⟩
        rw [hw] at c3
        refine ⟨h1, h2, hw, by omega, by omega, ?_, hA⟩
        rw [show k + 1 - 1 = k by omega, hs]
        rw [if_pos (by rw [if_neg (by omega)]; exact c3)]
      · skip
        (try simp only [e10, e12] at c3); (try simp (disch := omega) only [w32_0, w64_0, yc_lt0, yc_gt0, yc_eq0, w32_id] at c3)
        refine ⟨⟨rfl, rfl, rfl, rfl, ?_⟩, by omega⟩
        rw [hw] at c3
        refine ⟨h1, h2, hw, by omega, by omega, ?_, hA⟩
        rw [show k + 1 - 1 = k by omega, hs]
        rw [if_neg (by rw [if_neg (by omega)]; exact c3)]
set_option maxRecDepth 20000 in
theorem qvX1_findExtremes_9 (c : Int) (nd : Int) (F0 : FF) (A0 : AA) (K : KK) (h : (0 ≤ c ∧ c < 8 ∧ 0 ≤ nd ∧ nd < 127 ∧ 0 ≤ A0 12 c ∧ A0 12 c ≤ 3) ∧ (K (some none) F0 (setR A0 11 ((c * 127 + nd) * 4) 4 (fun ss => exB (fun jj => A0 10 (((c * 127 + nd) * 3 + ss % 2) * 4 + jj)) (fun jj => A0 10 (((c * 127 + nd) * 3 + 2) * 4 + jj)) ss (Int.toNat (A0 12 c)))))) : am_body qxX1_findExtremes qnX1_findExtremes_9 32 (qiX1_findExtremes_9 c nd F0 A0) quX1_findExtremes_9 [vR 9, vI c, vI nd] 9 F0 A0 K := by
  refine ⟨qvX1_findExtremes_9_0 c nd F0 A0 K h, fun pc ls st F A u hI => ?_⟩
  unfold qiX1_findExtremes_9 at hI
  replace hI := am_cond2 hI
  rcases hI with ⟨hb, hI⟩ | hI
  · have hb := am_bq hb
    subst hb
    split at hI
    · rename_i s0 s1 s2 s
      obtain ⟨e0, e1, e2, e3, hI⟩ := hI
      subst e0
      subst e1
      subst e2
      subst e3
      exact qvX1_findExtremes_9_2 _ _ _ _ K h _ _ hI
    · exact hI.elim
  replace hI := am_cond2 hI
  rcases hI with ⟨hb, hI⟩ | hI
  · have hb := am_bq hb
    subst hb
    split at hI
    · rename_i s0 s1 s2 s w b k
      obtain ⟨e0, e1, e2, e3, hI⟩ := hI
      subst e0
      subst e1
      subst e2
      subst e3
      exact qvX1_findExtremes_9_26 _ _ _ _ K h _ _ _ _ _ hI
    · exact hI.elim
  exact hI.elim
theorem qtX1_findExtremes (l : Launch) : am_CT l layX qeX1_findExtremes := am_met0 rfl (by decide +kernel) rfl rfl rfl rfl rfl (fun _ => rfl) rfl (qzX1_findExtremes l) (fun k e1 h => (qyX1_findExtremes l k e1 h).2) (fun as F A K h => by
  replace h : qsX1_findExtremes as F A K := h
  unfold qsX1_findExtremes at h
  split at h
  · rename_i o c nd
    refine ⟨by first | exact Nat.le_of_ble_eq_true rfl | simp [am_fl, am_cat], ?_⟩
    replace h := am_cond2 h
    rcases h with ⟨hb, h⟩ | h
    · skip
      have hb0 := hb
      have hb0 := am_bq hb0
      subst hb0
      exact am_way_body (qvX1_findExtremes_9 c nd F A K h)
    exact h.elim
  · exact h.elim)
def qkX1_isPlanted : Nat → Option CI := fun pc => cond (Nat.ble 72 pc) none (cond (Nat.ble 35 pc) (cond (Nat.ble 49 pc) (cond (Nat.ble 58 pc) (cond (Nat.ble 67 pc) (cond (Nat.beq pc 67) (some (.goto (-50), 70, [17])) (cond (Nat.beq pc 70) (some (.iconst 1, 71, [])) (cond (Nat.beq pc 71) (some (.ireturn, 72, [])) (none)))) (cond (Nat.beq pc 58) (some (.iinc 4 1, 61, [])) (cond (Nat.beq pc 61) (some (.goto (-32), 64, [29])) (cond (Nat.beq pc 64) (some (.iinc 3 1, 67, [])) (none))))) (cond (Nat.ble 53 pc) (cond (Nat.beq pc 53) (some (.ifCond .eq 5, 56, [58])) (cond (Nat.beq pc 56) (some (.iconst 0, 57, [])) (cond (Nat.beq pc 57) (some (.ireturn, 58, [])) (none)))) (cond (Nat.beq pc 49) (some (.invokestatic 57, 52, [])) (cond (Nat.beq pc 52) (some (.lcmp, 53, [])) (none))))) (cond (Nat.ble 41 pc) (cond (Nat.ble 45 pc) (cond (Nat.beq pc 45) (some (.iload_n 2, 46, [])) (cond (Nat.beq pc 46) (some (.iload_n 3, 47, [])) (cond (Nat.beq pc 47) (some (.iload 4, 49, [])) (none)))) (cond (Nat.beq pc 41) (some (.invokevirtual 53, 44, [])) (cond (Nat.beq pc 44) (some (.aload_n 1, 45, [])) (none)))) (cond (Nat.ble 37 pc) (cond (Nat.beq pc 37) (some (.iconst 0, 38, [])) (cond (Nat.beq pc 38) (some (.iload 4, 40, [])) (cond (Nat.beq pc 40) (some (.iload_n 3, 41, [])) (none)))) (cond (Nat.beq pc 35) (some (.aload_n 0, 36, [])) (cond (Nat.beq pc 36) (some (.iload_n 2, 37, [])) (none)))))) (cond (Nat.ble 16 pc) (cond (Nat.ble 23 pc) (cond (Nat.ble 29 pc) (cond (Nat.beq pc 29) (some (.iload 4, 31, [])) (cond (Nat.beq pc 31) (some (.iconst 2, 32, [])) (cond (Nat.beq pc 32) (some (.if_icmp .gt 32, 35, [64])) (none)))) (cond (Nat.beq pc 23) (some (.if_icmp .ge 47, 26, [70])) (cond (Nat.beq pc 26) (some (.iconst 0, 27, [])) (cond (Nat.beq pc 27) (some (.istore 4, 29, [])) (none))))) (cond (Nat.ble 18 pc) (cond (Nat.beq pc 18) (some (.aload_n 1, 19, [])) (cond (Nat.beq pc 19) (some (.iload_n 2, 20, [])) (cond (Nat.beq pc 20) (some (.invokevirtual 50, 23, [])) (none)))) (cond (Nat.beq pc 16) (some (.istore_n 3, 17, [])) (cond (Nat.beq pc 17) (some (.iload_n 3, 18, [])) (none))))) (cond (Nat.ble 7 pc) (cond (Nat.ble 13 pc) (cond (Nat.beq pc 13) (some (.iconst 0, 14, [])) (cond (Nat.beq pc 14) (some (.ireturn, 15, [])) (cond (Nat.beq pc 15) (some (.iconst 0, 16, [])) (none)))) (cond (Nat.beq pc 7) (some (.invokevirtual 33, 10, [])) (cond (Nat.beq pc 10) (some (.if_icmp .eq 5, 13, [15])) (none)))) (cond (Nat.ble 2 pc) (cond (Nat.beq pc 2) (some (.invokevirtual 47, 5, [])) (cond (Nat.beq pc 5) (some (.aload_n 1, 6, [])) (cond (Nat.beq pc 6) (some (.iload_n 2, 7, [])) (none)))) (cond (Nat.beq pc 0) (some (.aload_n 0, 1, [])) (cond (Nat.beq pc 1) (some (.iload_n 2, 2, [])) (none)))))))
theorem qkX1_isPlanted_ok : ∀ pc i nx ts, qkX1_isPlanted pc = some (i, nx, ts) → am_cok cX1_isPlanted pc (i, nx, ts) = true := fun pc i nx ts h => am_tok_ok (n := 72) (by decide +kernel) (fun pc h => by show cond (Nat.ble 72 pc) _ _ = _; rw [Nat.ble_eq_true_of_le h]; rfl) h
def qaX1_isPlanted : Nat → Option CE := fun k => cond (Nat.beq k 47) (some qeX1_degreeOf) (cond (Nat.beq k 33) (some qeX2_top) (cond (Nat.beq k 50) (some qeX2_size) (cond (Nat.beq k 53) (some qeX1_number) (cond (Nat.beq k 57) (some qeX1_homogeneous) (none)))))
theorem qyX1_isPlanted (l : Launch) : ∀ k e1, qaX1_isPlanted k = some e1 → am_cal l layX RX1 6 k e1 ∧ ceT e1 = 0 := q_cons ⟨am_calV (ci := 1) (qtX1_degreeOf l) qbX1_degreeOf (by decide) rfl (am_tb_at 1004 (by decide +kernel) rfl), rfl⟩ (q_cons ⟨am_calV (ci := 2) (qtX2_top l) qbX2_top (by decide) rfl (am_tb_at 1008 (by decide +kernel) rfl), rfl⟩ (q_cons ⟨am_calV (ci := 2) (qtX2_size l) qbX2_size (by decide) rfl (am_tb_at 1009 (by decide +kernel) rfl), rfl⟩ (q_cons ⟨am_calV (ci := 1) (qtX1_number l) qbX1_number (by decide) rfl (am_tb_at 1010 (by decide +kernel) rfl), rfl⟩ (q_cons ⟨am_calS (qtX1_homogeneous l) qbX1_homogeneous (by decide) rfl (by decide) (am_tb_at 1017 (by decide +kernel) rfl), rfl⟩ (q_nil)))))
def qxX1_isPlanted : CX := (qkX1_isPlanted, layX, qfX1, qaX1_isPlanted, qcX1, qlX1, qmX1, (some .boolean), false, none, 0, none, fun _ => none)
theorem qzX1_isPlanted (l : Launch) : am_sta l qxX1_isPlanted RX1 6 cX1_isPlanted := ⟨qkX1_isPlanted_ok, layX_ok, qfX1_ok, qcX1_ok, qlX1_ok, am_mthP qmX1_ok (by decide), fun k e1 h => (qyX1_isPlanted l k e1 h).1⟩
def qsX1_isPlanted : SP := fun as F A K => match as with
  | [.inr (.inr o), .inr (.inr g), .inl c] => cond (Nat.beq o 9 && Nat.beq g 1) ((0 ≤ c ∧ c < 8 ∧ 1 ≤ A 2 (18 + c) ∧ A 2 (18 + c) ≤ 4 ∧ 0 ≤ A 12 c ∧ A 12 c ≤ 3) ∧ (K (some (some (vI (bc (pltP A c))))) F A)) (False)
  | _ => False
def qeX1_isPlanted : CE := (yX1_isPlanted, cX1_isPlanted, 5, (some .boolean), 2, some 1, 0, none, 0, 6, qsX1_isPlanted)
theorem qbX1_isPlanted : am_mb qeX1_isPlanted := ⟨am_tb_at 1003 (by decide +kernel) rfl, am_tb_at 39 (by decide +kernel) rfl, ⟨by decide, by decide, by decide +kernel⟩, by decide, am_tb_at 1002 (by decide +kernel) rfl, am_tb_at 19 (by decide +kernel) rfl, _, _, rfl⟩
def qnX1_isPlanted_9_1 : CUT := fun pc => cond (Nat.beq pc 17) (some [true, true, true, true, false]) (cond (Nat.beq pc 29) (some [true, true, true, true, true]) (none))
def qiX1_isPlanted_9_1 (c : Int) (F0 : FF) (A0 : AA) : REC := fun pc ls st F A u => cond (Nat.beq pc 17) (match ls, st, u with
    | [some (.inr (.inr s0)), some (.inr (.inr s1)), some (.inl s2), some (.inl k), none], [], 0 => s0 = 9 ∧ s1 = 1 ∧ s2 = c ∧ F = F0 ∧ A = A0 ∧ (0 ≤ k ∧ k ≤ A0 2 (18 + c) ∧ A0 12 c = A0 2 (18 + c) - 1 ∧ ∀ kk ww, 0 ≤ kk → kk < k → 0 ≤ ww → ww ≤ 2 → w64 (A0 10 (((c * 127 + 0) * 3 + ww) * 4 + kk)) = w64 (hmX (A0 2) c kk ww))
    | _, _, _ => False) (cond (Nat.beq pc 29) (match ls, st, u with
    | [some (.inr (.inr s0)), some (.inr (.inr s1)), some (.inl s2), some (.inl k), some (.inl w)], [], 0 => s0 = 9 ∧ s1 = 1 ∧ s2 = c ∧ F = F0 ∧ A = A0 ∧ (0 ≤ k ∧ k < A0 2 (18 + c) ∧ 0 ≤ w ∧ w ≤ 3 ∧ A0 12 c = A0 2 (18 + c) - 1 ∧ (∀ kk ww, 0 ≤ kk → kk < k → 0 ≤ ww → ww ≤ 2 → w64 (A0 10 (((c * 127 + 0) * 3 + ww) * 4 + kk)) = w64 (hmX (A0 2) c kk ww)) ∧ ∀ ww, 0 ≤ ww → ww < w → w64 (A0 10 (((c * 127 + 0) * 3 + ww) * 4 + k)) = w64 (hmX (A0 2) c k ww))
    | _, _, _ => False) (False))
def quX1_isPlanted_9_1 : Nat → LVs → List AV → FF → AA → Nat := fun pc ls _ F A => cond (Nat.beq pc 17) (match ls with
    | [some (.inr (.inr s0)), some (.inr (.inr s1)), some (.inl s2), some (.inl k), none] => Int.toNat (100 - 10 * k)
    | _ => 0) (cond (Nat.beq pc 29) (match ls with
    | [some (.inr (.inr s0)), some (.inr (.inr s1)), some (.inl s2), some (.inl k), some (.inl w)] => Int.toNat (99 - 10 * k - w)
    | _ => 0) (0))
set_option maxRecDepth 20000 in
theorem qvX1_isPlanted_9_1_0 (c : Int) (F0 : FF) (A0 : AA) (K : KK) (h : (0 ≤ c ∧ c < 8 ∧ 1 ≤ A0 2 (18 + c) ∧ A0 2 (18 + c) ≤ 4 ∧ 0 ≤ A0 12 c ∧ A0 12 c ≤ 3) ∧ (K (some (some (vI (bc (pltP A0 c))))) F0 A0)) : am_stp qxX1_isPlanted (am_run qxX1_isPlanted qnX1_isPlanted_9_1 (qiX1_isPlanted_9_1 c F0 A0) K 21) K 0 (am_ent [vR 9, vR 1, vI c] 5) [] F0 A0 0 := by
  show am_stp qxX1_isPlanted (am_run qxX1_isPlanted qnX1_isPlanted_9_1 (qiX1_isPlanted_9_1 c F0 A0) K 21) K 0 [some (vR 9), some (vR 1), some (vI c), none, none] [] F0 A0 0
  obtain ⟨hp, h⟩ := h
  show (0 ≤ c ∧ c < 8) ∧ ((w32 (A0 12 c) = w32 (fat (A0 2) (18 + c) - 1) → (9 = 9 ∧ 1 = 1 ∧ c = c ∧ F0 = F0 ∧ A0 = A0 ∧ (0 ≤ 0 ∧ 0 ≤ A0 2 (18 + c) ∧ A0 12 c = A0 2 (18 + c) - 1 ∧ ∀ kk ww, 0 ≤ kk → kk < 0 → 0 ≤ ww → ww ≤ 2 → w64 (A0 10 (((c * 127 + 0) * 3 + ww) * 4 + kk)) = w64 (hmX (A0 2) c kk ww)))) ∧ (¬ w32 (A0 12 c) = w32 (fat (A0 2) (18 + c) - 1) → ((0 = 0 ∨ 0 = 1) ∧ (K (some (some (vI 0))) F0 A0))))
  refine ⟨by first | exact Or.inl rfl | omega, ?_⟩
  refine ⟨fun c1 => ?_, fun c1 => ?_⟩
  · skip
    (try simp (disch := omega) only [fat_in] at c1); (try simp (disch := omega) only [w32_0, w32_id, yc_eq0] at c1)
    refine ⟨rfl, rfl, rfl, rfl, rfl, ?_⟩
    exact ⟨by omega, by omega, c1, fun kk ww a0 a1 => by omega⟩
  · skip
    (try simp (disch := omega) only [fat_in] at c1); (try simp (disch := omega) only [w32_0, w32_id, yc_eq0] at c1)
    refine ⟨by first | exact Or.inl rfl | omega, ?_⟩
    exact K_eq h (bc_f (fun z => c1 z.1))
set_option maxRecDepth 20000 in
theorem qvX1_isPlanted_9_1_17 (c : Int) (F0 : FF) (A0 : AA) (K : KK) (h : (0 ≤ c ∧ c < 8 ∧ 1 ≤ A0 2 (18 + c) ∧ A0 2 (18 + c) ≤ 4 ∧ 0 ≤ A0 12 c ∧ A0 12 c ≤ 3) ∧ (K (some (some (vI (bc (pltP A0 c))))) F0 A0)) (k : Int) (hi : 0 ≤ k ∧ k ≤ A0 2 (18 + c) ∧ A0 12 c = A0 2 (18 + c) - 1 ∧ ∀ kk ww, 0 ≤ kk → kk < k → 0 ≤ ww → ww ≤ 2 → w64 (A0 10 (((c * 127 + 0) * 3 + ww) * 4 + kk)) = w64 (hmX (A0 2) c kk ww)) : am_stp qxX1_isPlanted (am_run qxX1_isPlanted qnX1_isPlanted_9_1 (fun pc ls st F A u => qiX1_isPlanted_9_1 c F0 A0 pc ls st F A u ∧ quX1_isPlanted_9_1 pc ls st F A < quX1_isPlanted_9_1 17 [some (vR 9), some (vR 1), some (vI c), some (vI k), none] [] F0 A0) K 21) K 17 [some (vR 9), some (vR 1), some (vI c), some (vI k), none] [] F0 A0 0 := by
  obtain ⟨hp, h⟩ := h
  obtain ⟨h1, h2, h3, h4⟩ := hi
  show (w32 k < w32 (fat (A0 2) (18 + c)) → ((9 = 9 ∧ 1 = 1 ∧ c = c ∧ F0 = F0 ∧ A0 = A0 ∧ (0 ≤ k ∧ k < A0 2 (18 + c) ∧ 0 ≤ 0 ∧ 0 ≤ 3 ∧ A0 12 c = A0 2 (18 + c) - 1 ∧ (∀ kk ww, 0 ≤ kk → kk < k → 0 ≤ ww → ww ≤ 2 → w64 (A0 10 (((c * 127 + 0) * 3 + ww) * 4 + kk)) = w64 (hmX (A0 2) c kk ww)) ∧ ∀ ww, 0 ≤ ww → ww < 0 → w64 (A0 10 (((c * 127 + 0) * 3 + ww) * 4 + k)) = w64 (hmX (A0 2) c k ww))) ∧ (Int.toNat (99 - 10 * k - 0)) < (Int.toNat (100 - 10 * k)))) ∧ (¬ w32 k < w32 (fat (A0 2) (18 + c)) → ((1 = 0 ∨ 1 = 1) ∧ (K (some (some (vI 1))) F0 A0)))
  refine ⟨fun c1 => ?_, fun c1 => ?_⟩
  · skip
    (try simp (disch := omega) only [fat_in] at c1); (try simp (disch := omega) only [w32_0, w32_id, yc_eq0] at c1)
    refine ⟨⟨rfl, rfl, rfl, rfl, rfl, ?_⟩, by omega⟩
    exact ⟨by omega, by omega, by omega, by omega, h3, h4, fun ww a0 a1 => by omega⟩
  · skip
    (try simp (disch := omega) only [fat_in] at c1); (try simp (disch := omega) only [w32_0, w32_id, yc_eq0] at c1)
    refine ⟨by first | exact Or.inr rfl | omega, ?_⟩
    exact K_eq h (bc_t ⟨h3, fun kk ww a0 a1 a2 a3 => h4 kk ww a0 (by omega) a2 a3⟩)
set_option maxRecDepth 20000 in
theorem qvX1_isPlanted_9_1_29 (c : Int) (F0 : FF) (A0 : AA) (K : KK) (h : (0 ≤ c ∧ c < 8 ∧ 1 ≤ A0 2 (18 + c) ∧ A0 2 (18 + c) ≤ 4 ∧ 0 ≤ A0 12 c ∧ A0 12 c ≤ 3) ∧ (K (some (some (vI (bc (pltP A0 c))))) F0 A0)) (k : Int) (w : Int) (hi : 0 ≤ k ∧ k < A0 2 (18 + c) ∧ 0 ≤ w ∧ w ≤ 3 ∧ A0 12 c = A0 2 (18 + c) - 1 ∧ (∀ kk ww, 0 ≤ kk → kk < k → 0 ≤ ww → ww ≤ 2 → w64 (A0 10 (((c * 127 + 0) * 3 + ww) * 4 + kk)) = w64 (hmX (A0 2) c kk ww)) ∧ ∀ ww, 0 ≤ ww → ww < w → w64 (A0 10 (((c * 127 + 0) * 3 + ww) * 4 + k)) = w64 (hmX (A0 2) c k ww)) : am_stp qxX1_isPlanted (am_run qxX1_isPlanted qnX1_isPlanted_9_1 (fun pc ls st F A u => qiX1_isPlanted_9_1 c F0 A0 pc ls st F A u ∧ quX1_isPlanted_9_1 pc ls st F A < quX1_isPlanted_9_1 29 [some (vR 9), some (vR 1), some (vI c), some (vI k), some (vI w)] [] F0 A0) K 21) K 29 [some (vR 9), some (vR 1), some (vI c), some (vI k), some (vI w)] [] F0 A0 0 := by
  obtain ⟨hp, h⟩ := h
  obtain ⟨h1, h2, h5, h6, h3, h4, h7⟩ := hi
  show (w32 2 < w32 w → ((9 = 9 ∧ 1 = 1 ∧ c = c ∧ F0 = F0 ∧ A0 = A0 ∧ (0 ≤ (k + 1) ∧ (k + 1) ≤ A0 2 (18 + c) ∧ A0 12 c = A0 2 (18 + c) - 1 ∧ ∀ kk ww, 0 ≤ kk → kk < (k + 1) → 0 ≤ ww → ww ≤ 2 → w64 (A0 10 (((c * 127 + 0) * 3 + ww) * 4 + kk)) = w64 (hmX (A0 2) c kk ww))) ∧ (Int.toNat (100 - 10 * (k + 1))) < (Int.toNat (99 - 10 * k - w)))) ∧ (¬ w32 2 < w32 w → ((0 ≤ c ∧ c < 8 ∧ 0 ≤ 0 ∧ 0 < 127 ∧ 0 ≤ w ∧ w ≤ 2 ∧ 0 ≤ k ∧ k < 4) ∧ ((0 ≤ c ∧ c < 8 ∧ 0 ≤ k ∧ k < 4 ∧ 0 ≤ w ∧ w ≤ 2) ∧ ((w32 (y_cmp (A0 10 (((c * 127 + 0) * 3 + w) * 4 + k)) (hmX (A0 2) c k w)) = w32 0 → ((9 = 9 ∧ 1 = 1 ∧ c = c ∧ F0 = F0 ∧ A0 = A0 ∧ (0 ≤ k ∧ k < A0 2 (18 + c) ∧ 0 ≤ (w + 1) ∧ (w + 1) ≤ 3 ∧ A0 12 c = A0 2 (18 + c) - 1 ∧ (∀ kk ww, 0 ≤ kk → kk < k → 0 ≤ ww → ww ≤ 2 → w64 (A0 10 (((c * 127 + 0) * 3 + ww) * 4 + kk)) = w64 (hmX (A0 2) c kk ww)) ∧ ∀ ww, 0 ≤ ww → ww < (w + 1) → w64 (A0 10 (((c * 127 + 0) * 3 + ww) * 4 + k)) = w64 (hmX (A0 2) c k ww))) ∧ (Int.toNat (99 - 10 * k - (w + 1))) < (Int.toNat (99 - 10 * k - w)))) ∧ (¬ w32 (y_cmp (A0 10 (((c * 127 + 0) * 3 + w) * 4 + k)) (hmX (A0 2) c k w)) = w32 0 → ((0 = 0 ∨ 0 = 1) ∧ (K (some (some (vI 0))) F0 A0)))))))
  refine ⟨fun c1 => ?_, fun c1 => ?_⟩
  · skip
    (try simp (disch := omega) only [fat_in] at c1); (try simp (disch := omega) only [w32_0, w32_id, yc_eq0] at c1)
    refine ⟨⟨rfl, rfl, rfl, rfl, rfl, ?_⟩, by omega⟩
    refine ⟨by omega, by omega, h3, fun kk ww a0 a1 a2 a3 => ?_⟩
    by_cases e : kk = k
    · rw [e]; exact h7 ww a2 (by omega)
    · exact h4 kk ww a0 (by omega) a2 a3
  · skip
    (try simp (disch := omega) only [fat_in] at c1); (try simp (disch := omega) only [w32_0, w32_id, yc_eq0] at c1)
    refine ⟨by first | exact Or.inl rfl | omega, ?_⟩
    refine ⟨by first | exact Or.inl rfl | omega, ?_⟩
    refine ⟨fun c2 => ?_, fun c2 => ?_⟩
    · skip
      (try simp (disch := omega) only [fat_in] at c2); (try simp (disch := omega) only [w32_0, w32_id, yc_eq0] at c2)
      refine ⟨⟨rfl, rfl, rfl, rfl, rfl, ?_⟩, by omega⟩
      refine ⟨by omega, by omega, by omega, by omega, h3, h4, fun ww a0 a1 => ?_⟩
      by_cases e : ww = w
      · rw [e]; exact c2
      · exact h7 ww a0 (by omega)
    · skip
      (try simp (disch := omega) only [fat_in] at c2); (try simp (disch := omega) only [w32_0, w32_id, yc_eq0] at c2)
      refine ⟨by first | exact Or.inl rfl | omega, ?_⟩
      exact K_eq h (bc_f (fun z => c2 (z.2 k w h1 h2 h5 (by omega))))
set_option maxRecDepth 20000 in
theorem qvX1_isPlanted_9_1 (c : Int) (F0 : FF) (A0 : AA) (K : KK) (h : (0 ≤ c ∧ c < 8 ∧ 1 ≤ A0 2 (18 + c) ∧ A0 2 (18 + c) ≤ 4 ∧ 0 ≤ A0 12 c ∧ A0 12 c ≤ 3) ∧ (K (some (some (vI (bc (pltP A0 c))))) F0 A0)) : am_body qxX1_isPlanted qnX1_isPlanted_9_1 21 (qiX1_isPlanted_9_1 c F0 A0) quX1_isPlanted_9_1 [vR 9, vR 1, vI c] 5 F0 A0 K := by
  refine ⟨qvX1_isPlanted_9_1_0 c F0 A0 K h, fun pc ls st F A u hI => ?_⟩
  unfold qiX1_isPlanted_9_1 at hI
  replace hI := am_cond2 hI
  rcases hI with ⟨hb, hI⟩ | hI
  · have hb := am_bq hb
    subst hb
    split at hI
    · rename_i s0 s1 s2 k
      obtain ⟨e0, e1, e2, e3, e4, hI⟩ := hI
      subst e0
      subst e1
      subst e2
      subst e3
      subst e4
      exact qvX1_isPlanted_9_1_17 _ _ _ K h _ hI
    · exact hI.elim
  replace hI := am_cond2 hI
  rcases hI with ⟨hb, hI⟩ | hI
  · have hb := am_bq hb
    subst hb
    split at hI
    · rename_i s0 s1 s2 k w
      obtain ⟨e0, e1, e2, e3, e4, hI⟩ := hI
      subst e0
      subst e1
      subst e2
      subst e3
      subst e4
      exact qvX1_isPlanted_9_1_29 _ _ _ K h _ _ hI
    · exact hI.elim
  exact hI.elim
theorem qtX1_isPlanted (l : Launch) : am_CT l layX qeX1_isPlanted := am_met0 rfl (by decide +kernel) rfl rfl rfl rfl rfl (fun _ => rfl) rfl (qzX1_isPlanted l) (fun k e1 h => (qyX1_isPlanted l k e1 h).2) (fun as F A K h => by
  replace h : qsX1_isPlanted as F A K := h
  unfold qsX1_isPlanted at h
  split at h
  · rename_i o g c
    refine ⟨by first | exact Nat.le_of_ble_eq_true rfl | simp [am_fl, am_cat], ?_⟩
    replace h := am_cond2 h
    rcases h with ⟨hb, h⟩ | h
    · simp only [Bool.and_eq_true] at hb
      obtain ⟨hb0, hb1⟩ := hb
      have hb0 := am_bq hb0
      subst hb0
      have hb1 := am_bq hb1
      subst hb1
      exact am_way_body (qvX1_isPlanted_9_1 c F A K h)
    exact h.elim
  · exact h.elim)
def qkX1_plant : Nat → Option CI := fun pc => cond (Nat.ble 80 pc) none (cond (Nat.ble 38 pc) (cond (Nat.ble 57 pc) (cond (Nat.ble 70 pc) (cond (Nat.ble 75 pc) (cond (Nat.beq pc 75) (some (.iconst 0, 76, [])) (cond (Nat.beq pc 76) (some (.invokevirtual 64, 79, [])) (cond (Nat.beq pc 79) (some (.return_, 80, [])) (none)))) (cond (Nat.beq pc 70) (some (.goto (-68), 73, [2])) (cond (Nat.beq pc 73) (some (.aload_n 0, 74, [])) (cond (Nat.beq pc 74) (some (.iload_n 2, 75, [])) (none))))) (cond (Nat.ble 61 pc) (cond (Nat.beq pc 61) (some (.iinc 4 1, 64, [])) (cond (Nat.beq pc 64) (some (.goto (-50), 67, [14])) (cond (Nat.beq pc 67) (some (.iinc 3 1, 70, [])) (none)))) (cond (Nat.beq pc 57) (some (.invokestatic 57, 60, [])) (cond (Nat.beq pc 60) (some (.lastore, 61, [])) (none))))) (cond (Nat.ble 47 pc) (cond (Nat.ble 53 pc) (cond (Nat.beq pc 53) (some (.iload_n 2, 54, [])) (cond (Nat.beq pc 54) (some (.iload_n 3, 55, [])) (cond (Nat.beq pc 55) (some (.iload 4, 57, [])) (none)))) (cond (Nat.beq pc 47) (some (.getfield 11, 50, [])) (cond (Nat.beq pc 50) (some (.iload 5, 52, [])) (cond (Nat.beq pc 52) (some (.aload_n 1, 53, [])) (none))))) (cond (Nat.ble 42 pc) (cond (Nat.beq pc 42) (some (.arraylength, 43, [])) (cond (Nat.beq pc 43) (some (.if_icmp .ge 18, 46, [61])) (cond (Nat.beq pc 46) (some (.aload_n 0, 47, [])) (none)))) (cond (Nat.beq pc 38) (some (.aload_n 0, 39, [])) (cond (Nat.beq pc 39) (some (.getfield 11, 42, [])) (none)))))) (cond (Nat.ble 17 pc) (cond (Nat.ble 27 pc) (cond (Nat.ble 31 pc) (cond (Nat.beq pc 31) (some (.iload 5, 33, [])) (cond (Nat.beq pc 33) (some (.ifCond .lt 28, 36, [61])) (cond (Nat.beq pc 36) (some (.iload 5, 38, [])) (none)))) (cond (Nat.beq pc 27) (some (.iload_n 3, 28, [])) (cond (Nat.beq pc 28) (some (.iadd, 29, [])) (cond (Nat.beq pc 29) (some (.istore 5, 31, [])) (none))))) (cond (Nat.ble 21 pc) (cond (Nat.beq pc 21) (some (.iconst 0, 22, [])) (cond (Nat.beq pc 22) (some (.iload 4, 24, [])) (cond (Nat.beq pc 24) (some (.invokestatic 25, 27, [])) (none)))) (cond (Nat.beq pc 17) (some (.if_icmp .gt 50, 20, [67])) (cond (Nat.beq pc 20) (some (.iload_n 2, 21, [])) (none))))) (cond (Nat.ble 5 pc) (cond (Nat.ble 12 pc) (cond (Nat.beq pc 12) (some (.istore 4, 14, [])) (cond (Nat.beq pc 14) (some (.iload 4, 16, [])) (cond (Nat.beq pc 16) (some (.iconst 2, 17, [])) (none)))) (cond (Nat.beq pc 5) (some (.invokevirtual 50, 8, [])) (cond (Nat.beq pc 8) (some (.if_icmp .ge 65, 11, [73])) (cond (Nat.beq pc 11) (some (.iconst 0, 12, [])) (none))))) (cond (Nat.ble 2 pc) (cond (Nat.beq pc 2) (some (.iload_n 3, 3, [])) (cond (Nat.beq pc 3) (some (.aload_n 1, 4, [])) (cond (Nat.beq pc 4) (some (.iload_n 2, 5, [])) (none)))) (cond (Nat.beq pc 0) (some (.iconst 0, 1, [])) (cond (Nat.beq pc 1) (some (.istore_n 3, 2, [])) (none)))))))
theorem qkX1_plant_ok : ∀ pc i nx ts, qkX1_plant pc = some (i, nx, ts) → am_cok cX1_plant pc (i, nx, ts) = true := fun pc i nx ts h => am_tok_ok (n := 80) (by decide +kernel) (fun pc h => by show cond (Nat.ble 80 pc) _ _ = _; rw [Nat.ble_eq_true_of_le h]; rfl) h
def qaX1_plant : Nat → Option CE := fun k => cond (Nat.beq k 50) (some qeX2_size) (cond (Nat.beq k 25) (some qeX1_startOf) (cond (Nat.beq k 57) (some qeX1_homogeneous) (cond (Nat.beq k 64) (some qeX1_findExtremes) (none))))
theorem qyX1_plant (l : Launch) : ∀ k e1, qaX1_plant k = some e1 → am_cal l layX RX1 7 k e1 ∧ ceT e1 = 0 := q_cons ⟨am_calV (ci := 2) (qtX2_size l) qbX2_size (by decide) rfl (am_tb_at 1009 (by decide +kernel) rfl), rfl⟩ (q_cons ⟨am_calS (qtX1_startOf l) qbX1_startOf (by decide) rfl (by decide) (am_tb_at 1014 (by decide +kernel) rfl), rfl⟩ (q_cons ⟨am_calS (qtX1_homogeneous l) qbX1_homogeneous (by decide) rfl (by decide) (am_tb_at 1017 (by decide +kernel) rfl), rfl⟩ (q_cons ⟨am_calV (ci := 1) (qtX1_findExtremes l) qbX1_findExtremes (by decide) rfl (am_tb_at 1025 (by decide +kernel) rfl), rfl⟩ (q_nil))))
def qxX1_plant : CX := (qkX1_plant, layX, qfX1, qaX1_plant, qcX1, qlX1, qmX1, none, false, none, 0, none, fun _ => none)
theorem qzX1_plant (l : Launch) : am_sta l qxX1_plant RX1 7 cX1_plant := ⟨qkX1_plant_ok, layX_ok, qfX1_ok, qcX1_ok, qlX1_ok, am_mthP qmX1_ok (by decide), fun k e1 h => (qyX1_plant l k e1 h).1⟩
def qsX1_plant : SP := fun as F A K => match as with
  | [.inr (.inr o), .inr (.inr g), .inl c] => cond (Nat.beq o 9 && Nat.beq g 1) ((0 ≤ c ∧ c < 8 ∧ 1 ≤ A 2 (18 + c) ∧ A 2 (18 + c) ≤ 4 ∧ A 12 c = A 2 (18 + c) - 1) ∧ (∀ (B_1 : AA), (plQ A B_1 c) → (K (some none) F B_1))) (False)
  | _ => False
def qeX1_plant : CE := (yX1_plant, cX1_plant, 6, none, 2, some 1, 0, none, 0, 7, qsX1_plant)
theorem qbX1_plant : am_mb qeX1_plant := ⟨am_tb_at 1024 (by decide +kernel) rfl, am_tb_at 39 (by decide +kernel) rfl, ⟨by decide, by decide, by decide +kernel⟩, by decide, am_tb_at 1023 (by decide +kernel) rfl, am_tb_at 20 (by decide +kernel) rfl, _, _, rfl⟩
def qnX1_plant_9_1 : CUT := fun pc => cond (Nat.beq pc 2) (some [true, true, true, true, false, false]) (cond (Nat.beq pc 14) (some [true, true, true, true, true, false]) (none))
def qiX1_plant_9_1 (c : Int) (F0 : FF) (A0 : AA) : REC := fun pc ls st F A u => cond (Nat.beq pc 2) (match ls, st, u with
    | [some (.inr (.inr s0)), some (.inr (.inr s1)), some (.inl s2), some (.inl k), none, none], [], 0 => s0 = 9 ∧ s1 = 1 ∧ s2 = c ∧ F = F0 ∧ (0 ≤ k ∧ k ≤ A0 2 (18 + c) ∧ (∀ b i, b ≠ 10 ∨ i < c * 1524 ∨ c * 1524 + 12 ≤ i → A b i = A0 b i) ∧ (∀ kk ww, 0 ≤ kk → kk < k → 0 ≤ ww → ww ≤ 2 → A 10 (((c * 127 + 0) * 3 + ww) * 4 + kk) = hmX (A0 2) c kk ww))
    | _, _, _ => False) (cond (Nat.beq pc 14) (match ls, st, u with
    | [some (.inr (.inr s0)), some (.inr (.inr s1)), some (.inl s2), some (.inl k), some (.inl w), none], [], 0 => s0 = 9 ∧ s1 = 1 ∧ s2 = c ∧ F = F0 ∧ (0 ≤ k ∧ k < A0 2 (18 + c) ∧ 0 ≤ w ∧ w ≤ 3 ∧ (∀ b i, b ≠ 10 ∨ i < c * 1524 ∨ c * 1524 + 12 ≤ i → A b i = A0 b i) ∧ (∀ kk ww, 0 ≤ kk → kk < k → 0 ≤ ww → ww ≤ 2 → A 10 (((c * 127 + 0) * 3 + ww) * 4 + kk) = hmX (A0 2) c kk ww) ∧ ∀ ww, 0 ≤ ww → ww < w → A 10 (((c * 127 + 0) * 3 + ww) * 4 + k) = hmX (A0 2) c k ww)
    | _, _, _ => False) (False))
def quX1_plant_9_1 : Nat → LVs → List AV → FF → AA → Nat := fun pc ls _ F A => cond (Nat.beq pc 2) (match ls with
    | [some (.inr (.inr s0)), some (.inr (.inr s1)), some (.inl s2), some (.inl k), none, none] => Int.toNat (100 - 10 * k)
    | _ => 0) (cond (Nat.beq pc 14) (match ls with
    | [some (.inr (.inr s0)), some (.inr (.inr s1)), some (.inl s2), some (.inl k), some (.inl w), none] => Int.toNat (99 - 10 * k - w)
    | _ => 0) (0))
set_option maxRecDepth 20000 in
theorem qvX1_plant_9_1_0 (c : Int) (F0 : FF) (A0 : AA) (K : KK) (h : (0 ≤ c ∧ c < 8 ∧ 1 ≤ A0 2 (18 + c) ∧ A0 2 (18 + c) ≤ 4 ∧ A0 12 c = A0 2 (18 + c) - 1) ∧ (∀ (B_1 : AA), (plQ A0 B_1 c) → (K (some none) F0 B_1))) : am_stp qxX1_plant (am_run qxX1_plant qnX1_plant_9_1 (qiX1_plant_9_1 c F0 A0) K 31) K 0 (am_ent [vR 9, vR 1, vI c] 6) [] F0 A0 0 := by
  show am_stp qxX1_plant (am_run qxX1_plant qnX1_plant_9_1 (qiX1_plant_9_1 c F0 A0) K 31) K 0 [some (vR 9), some (vR 1), some (vI c), none, none, none] [] F0 A0 0
  obtain ⟨hp, h⟩ := h
  show 9 = 9 ∧ 1 = 1 ∧ c = c ∧ F0 = F0 ∧ (0 ≤ 0 ∧ 0 ≤ A0 2 (18 + c) ∧ (∀ b i, b ≠ 10 ∨ i < c * 1524 ∨ c * 1524 + 12 ≤ i → A0 b i = A0 b i) ∧ (∀ kk ww, 0 ≤ kk → kk < 0 → 0 ≤ ww → ww ≤ 2 → A0 10 (((c * 127 + 0) * 3 + ww) * 4 + kk) = hmX (A0 2) c kk ww))
  refine ⟨rfl, rfl, rfl, rfl, ?_⟩
  exact ⟨by omega, by omega, fun _ _ _ => rfl, fun kk ww a0 a1 => by omega⟩
set_option maxRecDepth 20000 in
theorem qvX1_plant_9_1_2 (c : Int) (F0 : FF) (A0 : AA) (K : KK) (h : (0 ≤ c ∧ c < 8 ∧ 1 ≤ A0 2 (18 + c) ∧ A0 2 (18 + c) ≤ 4 ∧ A0 12 c = A0 2 (18 + c) - 1) ∧ (∀ (B_1 : AA), (plQ A0 B_1 c) → (K (some none) F0 B_1))) (k : Int) (A : AA) (hi : 0 ≤ k ∧ k ≤ A0 2 (18 + c) ∧ (∀ b i, b ≠ 10 ∨ i < c * 1524 ∨ c * 1524 + 12 ≤ i → A b i = A0 b i) ∧ (∀ kk ww, 0 ≤ kk → kk < k → 0 ≤ ww → ww ≤ 2 → A 10 (((c * 127 + 0) * 3 + ww) * 4 + kk) = hmX (A0 2) c kk ww)) : am_stp qxX1_plant (am_run qxX1_plant qnX1_plant_9_1 (fun pc ls st F A u => qiX1_plant_9_1 c F0 A0 pc ls st F A u ∧ quX1_plant_9_1 pc ls st F A < quX1_plant_9_1 2 [some (vR 9), some (vR 1), some (vI c), some (vI k), none, none] [] F0 A) K 31) K 2 [some (vR 9), some (vR 1), some (vI c), some (vI k), none, none] [] F0 A 0 := by
  obtain ⟨hp, h⟩ := h
  obtain ⟨h1, h2, h4, h5⟩ := hi
  have e2 : A 2 = A0 2 := funext fun i => h4 2 i (Or.inl (by decide))
  have e12 : A 12 = A0 12 := funext fun i => h4 12 i (Or.inl (by decide))
  show (w32 k < w32 (fat (A 2) (18 + c)) → ((9 = 9 ∧ 1 = 1 ∧ c = c ∧ F0 = F0 ∧ (0 ≤ k ∧ k < A0 2 (18 + c) ∧ 0 ≤ 0 ∧ 0 ≤ 3 ∧ (∀ b i, b ≠ 10 ∨ i < c * 1524 ∨ c * 1524 + 12 ≤ i → A b i = A0 b i) ∧ (∀ kk ww, 0 ≤ kk → kk < k → 0 ≤ ww → ww ≤ 2 → A 10 (((c * 127 + 0) * 3 + ww) * 4 + kk) = hmX (A0 2) c kk ww) ∧ ∀ ww, 0 ≤ ww → ww < 0 → A 10 (((c * 127 + 0) * 3 + ww) * 4 + k) = hmX (A0 2) c k ww)) ∧ (Int.toNat (99 - 10 * k - 0)) < (Int.toNat (100 - 10 * k)))) ∧ (¬ w32 k < w32 (fat (A 2) (18 + c)) → ((0 ≤ c ∧ c < 8 ∧ 0 ≤ 0 ∧ 0 < 127 ∧ 0 ≤ A 12 c ∧ A 12 c ≤ 3) ∧ (K (some none) F0 (setR A 11 ((c * 127 + 0) * 4) 4 (fun ss => exB (fun jj => A 10 (((c * 127 + 0) * 3 + ss % 2) * 4 + jj)) (fun jj => A 10 (((c * 127 + 0) * 3 + 2) * 4 + jj)) ss (Int.toNat (A 12 c)))))))
  refine ⟨fun c1 => ?_, fun c1 => ?_⟩
  · skip
    (try simp only [e2, e12] at c1); (try simp (disch := omega) only [fat_in] at c1); (try simp (disch := omega) only [w32_0, w32_id, yc_eq0] at c1)
    refine ⟨⟨rfl, rfl, rfl, rfl, ?_⟩, by omega⟩
    exact ⟨by omega, by omega, by omega, by omega, h4, h5, fun ww a0 a1 => by omega⟩
  · skip
    (try simp only [e2, e12] at c1); (try simp (disch := omega) only [fat_in] at c1); (try simp (disch := omega) only [w32_0, w32_id, yc_eq0] at c1)
    refine ⟨by (simp only [e12]; omega), ?_⟩
    refine h _ ⟨fun b i hb => ?_, fun kk ww a0 a1 a2 a3 => ?_, exOK_set⟩
    · by_cases hbb : b = 11
      · subst hbb
        by_cases hi : i < (c * 127 + 0) * 4
        · rw [setR_lt hi]; exact h4 _ _ (by omega)
        · rw [setR_ge (by omega)]; exact h4 _ _ (by omega)
      · rw [setR_o hbb]; exact h4 _ _ (by omega)
    · rw [setR_o (by decide)]; exact h5 kk ww a0 (by omega) a2 a3
set_option maxRecDepth 20000 in
theorem qvX1_plant_9_1_14 (c : Int) (F0 : FF) (A0 : AA) (K : KK) (h : (0 ≤ c ∧ c < 8 ∧ 1 ≤ A0 2 (18 + c) ∧ A0 2 (18 + c) ≤ 4 ∧ A0 12 c = A0 2 (18 + c) - 1) ∧ (∀ (B_1 : AA), (plQ A0 B_1 c) → (K (some none) F0 B_1))) (k : Int) (w : Int) (A : AA) (hi : 0 ≤ k ∧ k < A0 2 (18 + c) ∧ 0 ≤ w ∧ w ≤ 3 ∧ (∀ b i, b ≠ 10 ∨ i < c * 1524 ∨ c * 1524 + 12 ≤ i → A b i = A0 b i) ∧ (∀ kk ww, 0 ≤ kk → kk < k → 0 ≤ ww → ww ≤ 2 → A 10 (((c * 127 + 0) * 3 + ww) * 4 + kk) = hmX (A0 2) c kk ww) ∧ ∀ ww, 0 ≤ ww → ww < w → A 10 (((c * 127 + 0) * 3 + ww) * 4 + k) = hmX (A0 2) c k ww) : am_stp qxX1_plant (am_run qxX1_plant qnX1_plant_9_1 (fun pc ls st F A u => qiX1_plant_9_1 c F0 A0 pc ls st F A u ∧ quX1_plant_9_1 pc ls st F A < quX1_plant_9_1 14 [some (vR 9), some (vR 1), some (vI c), some (vI k), some (vI w), none] [] F0 A) K 31) K 14 [some (vR 9), some (vR 1), some (vI c), some (vI k), some (vI w), none] [] F0 A 0 := by
  obtain ⟨hp, h⟩ := h
  obtain ⟨h1, h2, h6, h7, h4, h5, h8⟩ := hi
  have e2 : A 2 = A0 2 := funext fun i => h4 2 i (Or.inl (by decide))
  have e12 : A 12 = A0 12 := funext fun i => h4 12 i (Or.inl (by decide))
  show (w32 2 < w32 w → ((9 = 9 ∧ 1 = 1 ∧ c = c ∧ F0 = F0 ∧ (0 ≤ (k + 1) ∧ (k + 1) ≤ A0 2 (18 + c) ∧ (∀ b i, b ≠ 10 ∨ i < c * 1524 ∨ c * 1524 + 12 ≤ i → A b i = A0 b i) ∧ (∀ kk ww, 0 ≤ kk → kk < (k + 1) → 0 ≤ ww → ww ≤ 2 → A 10 (((c * 127 + 0) * 3 + ww) * 4 + kk) = hmX (A0 2) c kk ww))) ∧ (Int.toNat (100 - 10 * (k + 1))) < (Int.toNat (99 - 10 * k - w)))) ∧ (¬ w32 2 < w32 w → ((w32 ((((c * 127 + 0) * 3 + w) * 4) + k) < w32 0 → ((9 = 9 ∧ 1 = 1 ∧ c = c ∧ F0 = F0 ∧ (0 ≤ k ∧ k < A0 2 (18 + c) ∧ 0 ≤ (w + 1) ∧ (w + 1) ≤ 3 ∧ (∀ b i, b ≠ 10 ∨ i < c * 1524 ∨ c * 1524 + 12 ≤ i → A b i = A0 b i) ∧ (∀ kk ww, 0 ≤ kk → kk < k → 0 ≤ ww → ww ≤ 2 → A 10 (((c * 127 + 0) * 3 + ww) * 4 + kk) = hmX (A0 2) c kk ww) ∧ ∀ ww, 0 ≤ ww → ww < (w + 1) → A 10 (((c * 127 + 0) * 3 + ww) * 4 + k) = hmX (A0 2) c k ww)) ∧ (Int.toNat (99 - 10 * k - (w + 1))) < (Int.toNat (99 - 10 * k - w)))) ∧ (¬ w32 ((((c * 127 + 0) * 3 + w) * 4) + k) < w32 0 → ((w32 ((((c * 127 + 0) * 3 + w) * 4) + k) < w32 12192 → ((0 ≤ c ∧ c < 8 ∧ 0 ≤ k ∧ k < 4 ∧ 0 ≤ w ∧ w ≤ 2) ∧ ((0 ≤ w32 ((((c * 127 + 0) * 3 + w) * 4) + k) ∧ w32 ((((c * 127 + 0) * 3 + w) * 4) + k) < 12192) ∧ ((9 = 9 ∧ 1 = 1 ∧ c = c ∧ F0 = F0 ∧ (0 ≤ k ∧ k < A0 2 (18 + c) ∧ 0 ≤ (w + 1) ∧ (w + 1) ≤ 3 ∧ (∀ b i, b ≠ 10 ∨ i < c * 1524 ∨ c * 1524 + 12 ≤ i → (upA A 10 (w32 ((((c * 127 + 0) * 3 + w) * 4) + k)) (hmX (A 2) c k w)) b i = A0 b i) ∧ (∀ kk ww, 0 ≤ kk → kk < k → 0 ≤ ww → ww ≤ 2 → (upA A 10 (w32 ((((c * 127 + 0) * 3 + w) * 4) + k)) (hmX (A 2) c k w)) 10 (((c * 127 + 0) * 3 + ww) * 4 + kk) = hmX (A0 2) c kk ww) ∧ ∀ ww, 0 ≤ ww → ww < (w + 1) → (upA A 10 (w32 ((((c * 127 + 0) * 3 + w) * 4) + k)) (hmX (A 2) c k w)) 10 (((c * 127 + 0) * 3 + ww) * 4 + k) = hmX (A0 2) c k ww)) ∧ (Int.toNat (99 - 10 * k - (w + 1))) < (Int.toNat (99 - 10 * k - w)))))) ∧ (¬ w32 ((((c * 127 + 0) * 3 + w) * 4) + k) < w32 12192 → ((9 = 9 ∧ 1 = 1 ∧ c = c ∧ F0 = F0 ∧ (0 ≤ k ∧ k < A0 2 (18 + c) ∧ 0 ≤ (w + 1) ∧ (w + 1) ≤ 3 ∧ (∀ b i, b ≠ 10 ∨ i < c * 1524 ∨ c * 1524 + 12 ≤ i → A b i = A0 b i) ∧ (∀ kk ww, 0 ≤ kk → kk < k → 0 ≤ ww → ww ≤ 2 → A 10 (((c * 127 + 0) * 3 + ww) * 4 + kk) = hmX (A0 2) c kk ww) ∧ ∀ ww, 0 ≤ ww → ww < (w + 1) → A 10 (((c * 127 + 0) * 3 + ww) * 4 + k) = hmX (A0 2) c k ww)) ∧ (Int.toNat (99 - 10 * k - (w + 1))) < (Int.toNat (99 - 10 * k - w))))))))
  refine ⟨fun c1 => ?_, fun c1 => ?_⟩
  · skip
    (try simp only [e2, e12] at c1); (try simp (disch := omega) only [fat_in] at c1); (try simp (disch := omega) only [w32_0, w32_id, yc_eq0] at c1)
    refine ⟨⟨rfl, rfl, rfl, rfl, ?_⟩, by omega⟩
    refine ⟨by omega, by omega, h4, fun kk ww a0 a1 a2 a3 => ?_⟩
    by_cases e : kk = k
    · rw [e]; exact h8 ww a2 (by omega)
    · exact h5 kk ww a0 (by omega) a2 a3
  · skip
    (try simp only [e2, e12] at c1); (try simp (disch := omega) only [fat_in] at c1); (try simp (disch := omega) only [w32_0, w32_id, yc_eq0] at c1)
    refine ⟨fun c2 => ?_, fun c2 => ?_⟩
    · skip
      (try simp only [e2, e12] at c2); (try simp (disch := omega) only [fat_in] at c2); (try simp (disch := omega) only [w32_0, w32_id, yc_eq0] at c2)
      refine ⟨⟨rfl, rfl, rfl, rfl, ?_⟩, by omega⟩
      exfalso; omega
    · skip
      (try simp only [e2, e12] at c2); (try simp (disch := omega) only [fat_in] at c2); (try simp (disch := omega) only [w32_0, w32_id, yc_eq0] at c2)
      refine ⟨fun c3 => ?_, fun c3 => ?_⟩
      · skip
        (try simp only [e2, e12] at c3); (try simp (disch := omega) only [fat_in] at c3); (try simp (disch := omega) only [w32_0, w32_id, yc_eq0] at c3)
        refine ⟨by first | omega | (simp (disch := omega) only [w32_id]; omega), ?_⟩
        refine ⟨by first | omega | (simp (disch := omega) only [w32_id]; omega), ?_⟩
        refine ⟨⟨rfl, rfl, rfl, rfl, ?_⟩, by omega⟩
        simp (disch := omega) only [w32_id, e2]
        refine ⟨by omega, by omega, by omega, by omega, fun b i hb => ?_, fun kk ww a0 a1 a2 a3 => ?_, fun ww a0 a1 => ?_⟩
        · by_cases hbb : b = 10
          · subst hbb; rw [upA_o (by omega)]; exact h4 _ _ hb
          · rw [upA_k hbb]; exact h4 _ _ hb
        · rw [upA_o (by omega)]; exact h5 kk ww a0 a1 a2 a3
        · by_cases e : ww = w
          · rw [e, upA_s]
          · rw [upA_o (by omega)]; exact h8 ww a0 (by omega)
      · skip
        (try simp only [e2, e12] at c3); (try simp (disch := omega) only [fat_in] at c3); (try simp (disch := omega) only [w32_0, w32_id, yc_eq0] at c3)
        refine ⟨⟨rfl, rfl, rfl, rfl, ?_⟩, by omega⟩
        exfalso; omega
set_option maxRecDepth 20000 in
theorem qvX1_plant_9_1 (c : Int) (F0 : FF) (A0 : AA) (K : KK) (h : (0 ≤ c ∧ c < 8 ∧ 1 ≤ A0 2 (18 + c) ∧ A0 2 (18 + c) ≤ 4 ∧ A0 12 c = A0 2 (18 + c) - 1) ∧ (∀ (B_1 : AA), (plQ A0 B_1 c) → (K (some none) F0 B_1))) : am_body qxX1_plant qnX1_plant_9_1 31 (qiX1_plant_9_1 c F0 A0) quX1_plant_9_1 [vR 9, vR 1, vI c] 6 F0 A0 K := by
  refine ⟨qvX1_plant_9_1_0 c F0 A0 K h, fun pc ls st F A u hI => ?_⟩
  unfold qiX1_plant_9_1 at hI
  replace hI := am_cond2 hI
  rcases hI with ⟨hb, hI⟩ | hI
  · have hb := am_bq hb
    subst hb
    split at hI
    · rename_i s0 s1 s2 k
      obtain ⟨e0, e1, e2, e3, hI⟩ := hI
      subst e0
      subst e1
      subst e2
      subst e3
      exact qvX1_plant_9_1_2 _ _ _ K h _ _ hI
    · exact hI.elim
  replace hI := am_cond2 hI
  rcases hI with ⟨hb, hI⟩ | hI
  · have hb := am_bq hb
    subst hb
    split at hI
    · rename_i s0 s1 s2 k w
      obtain ⟨e0, e1, e2, e3, hI⟩ := hI
      subst e0
      subst e1
      subst e2
      subst e3
      exact qvX1_plant_9_1_14 _ _ _ K h _ _ _ hI
    · exact hI.elim
  exact hI.elim
theorem qtX1_plant (l : Launch) : am_CT l layX qeX1_plant := am_met0 rfl (by decide +kernel) rfl rfl rfl rfl rfl (fun _ => rfl) rfl (qzX1_plant l) (fun k e1 h => (qyX1_plant l k e1 h).2) (fun as F A K h => by
  replace h : qsX1_plant as F A K := h
  unfold qsX1_plant at h
  split at h
  · rename_i o g c
    refine ⟨by first | exact Nat.le_of_ble_eq_true rfl | simp [am_fl, am_cat], ?_⟩
    replace h := am_cond2 h
    rcases h with ⟨hb, h⟩ | h
    · simp only [Bool.and_eq_true] at hb
      obtain ⟨hb0, hb1⟩ := hb
      have hb0 := am_bq hb0
      subst hb0
      have hb1 := am_bq hb1
      subst hb1
      exact am_way_body (qvX1_plant_9_1 c F A K h)
    exact h.elim
  · exact h.elim)
def qkX1_growLevel : Nat → Option CI := fun pc => cond (Nat.ble 123 pc) none (cond (Nat.ble 52 pc) (cond (Nat.ble 84 pc) (cond (Nat.ble 103 pc) (cond (Nat.ble 110 pc) (cond (Nat.ble 116 pc) (cond (Nat.beq pc 116) (some (.iinc 4 1, 119, [])) (cond (Nat.beq pc 119) (some (.goto (-110), 122, [9])) (cond (Nat.beq pc 122) (some (.return_, 123, [])) (none)))) (cond (Nat.beq pc 110) (some (.iinc 6 1, 113, [])) (cond (Nat.beq pc 113) (some (.goto (-80), 116, [33])) (none)))) (cond (Nat.ble 105 pc) (cond (Nat.beq pc 105) (some (.iload 6, 107, [])) (cond (Nat.beq pc 107) (some (.invokevirtual 64, 110, [])) (none))) (cond (Nat.beq pc 103) (some (.aload_n 0, 104, [])) (cond (Nat.beq pc 104) (some (.iload_n 1, 105, [])) (none))))) (cond (Nat.ble 92 pc) (cond (Nat.ble 97 pc) (cond (Nat.beq pc 97) (some (.iinc 8 1, 100, [])) (cond (Nat.beq pc 100) (some (.goto (-35), 103, [65])) (none))) (cond (Nat.beq pc 92) (some (.iload 7, 94, [])) (cond (Nat.beq pc 94) (some (.invokestatic 71, 97, [])) (none)))) (cond (Nat.ble 88 pc) (cond (Nat.beq pc 88) (some (.invokestatic 25, 91, [])) (cond (Nat.beq pc 91) (some (.iload_n 3, 92, [])) (none))) (cond (Nat.beq pc 84) (some (.iload 6, 86, [])) (cond (Nat.beq pc 86) (some (.iload 8, 88, [])) (none)))))) (cond (Nat.ble 67 pc) (cond (Nat.ble 75 pc) (cond (Nat.ble 78 pc) (cond (Nat.beq pc 78) (some (.iload 8, 80, [])) (cond (Nat.beq pc 80) (some (.invokestatic 25, 83, [])) (cond (Nat.beq pc 83) (some (.iload_n 1, 84, [])) (none)))) (cond (Nat.beq pc 75) (some (.iload_n 1, 76, [])) (cond (Nat.beq pc 76) (some (.iload 5, 78, [])) (none)))) (cond (Nat.ble 71 pc) (cond (Nat.beq pc 71) (some (.aload_n 0, 72, [])) (cond (Nat.beq pc 72) (some (.getfield 11, 75, [])) (none))) (cond (Nat.beq pc 67) (some (.iconst 2, 68, [])) (cond (Nat.beq pc 68) (some (.if_icmp .gt 35, 71, [103])) (none))))) (cond (Nat.ble 60 pc) (cond (Nat.ble 63 pc) (cond (Nat.beq pc 63) (some (.istore 8, 65, [])) (cond (Nat.beq pc 65) (some (.iload 8, 67, [])) (none))) (cond (Nat.beq pc 60) (some (.istore 7, 62, [])) (cond (Nat.beq pc 62) (some (.iconst 0, 63, [])) (none)))) (cond (Nat.ble 56 pc) (cond (Nat.beq pc 56) (some (.goto 4, 59, [60])) (cond (Nat.beq pc 59) (some (.iconst 0, 60, [])) (none))) (cond (Nat.beq pc 52) (some (.if_icmp .ne 7, 55, [59])) (cond (Nat.beq pc 55) (some (.iconst 1, 56, [])) (none))))))) (cond (Nat.ble 28 pc) (cond (Nat.ble 39 pc) (cond (Nat.ble 46 pc) (cond (Nat.ble 49 pc) (cond (Nat.beq pc 49) (some (.imul, 50, [])) (cond (Nat.beq pc 50) (some (.iconst 2, 51, [])) (cond (Nat.beq pc 51) (some (.iadd, 52, [])) (none)))) (cond (Nat.beq pc 46) (some (.iconst 2, 47, [])) (cond (Nat.beq pc 47) (some (.iload 5, 49, [])) (none)))) (cond (Nat.ble 41 pc) (cond (Nat.beq pc 41) (some (.if_icmp .gt 75, 44, [116])) (cond (Nat.beq pc 44) (some (.iload 6, 46, [])) (none))) (cond (Nat.beq pc 39) (some (.iconst 2, 40, [])) (cond (Nat.beq pc 40) (some (.iadd, 41, [])) (none))))) (cond (Nat.ble 33 pc) (cond (Nat.ble 36 pc) (cond (Nat.beq pc 36) (some (.iload 5, 38, [])) (cond (Nat.beq pc 38) (some (.imul, 39, [])) (none))) (cond (Nat.beq pc 33) (some (.iload 6, 35, [])) (cond (Nat.beq pc 35) (some (.iconst 2, 36, [])) (none)))) (cond (Nat.ble 30 pc) (cond (Nat.beq pc 30) (some (.iadd, 31, [])) (cond (Nat.beq pc 31) (some (.istore 6, 33, [])) (none))) (cond (Nat.beq pc 28) (some (.imul, 29, [])) (cond (Nat.beq pc 29) (some (.iconst 1, 30, [])) (none)))))) (cond (Nat.ble 12 pc) (cond (Nat.ble 18 pc) (cond (Nat.ble 23 pc) (cond (Nat.beq pc 23) (some (.istore 5, 25, [])) (cond (Nat.beq pc 25) (some (.iconst 2, 26, [])) (cond (Nat.beq pc 26) (some (.iload 5, 28, [])) (none)))) (cond (Nat.beq pc 18) (some (.iload 4, 20, [])) (cond (Nat.beq pc 20) (some (.invokestatic 67, 23, [])) (none)))) (cond (Nat.ble 14 pc) (cond (Nat.beq pc 14) (some (.if_icmp .ge 108, 17, [122])) (cond (Nat.beq pc 17) (some (.iload_n 2, 18, [])) (none))) (cond (Nat.beq pc 12) (some (.iload_n 2, 13, [])) (cond (Nat.beq pc 13) (some (.ishl, 14, [])) (none))))) (cond (Nat.ble 6 pc) (cond (Nat.ble 9 pc) (cond (Nat.beq pc 9) (some (.iload 4, 11, [])) (cond (Nat.beq pc 11) (some (.iconst 1, 12, [])) (none))) (cond (Nat.beq pc 6) (some (.iconst 0, 7, [])) (cond (Nat.beq pc 7) (some (.istore 4, 9, [])) (none)))) (cond (Nat.ble 2 pc) (cond (Nat.beq pc 2) (some (.invokevirtual 47, 5, [])) (cond (Nat.beq pc 5) (some (.istore_n 3, 6, [])) (none))) (cond (Nat.beq pc 0) (some (.aload_n 0, 1, [])) (cond (Nat.beq pc 1) (some (.iload_n 1, 2, [])) (none))))))))
theorem qkX1_growLevel_ok : ∀ pc i nx ts, qkX1_growLevel pc = some (i, nx, ts) → am_cok cX1_growLevel pc (i, nx, ts) = true := fun pc i nx ts h => am_tok_ok (n := 123) (by decide +kernel) (fun pc h => by show cond (Nat.ble 123 pc) _ _ = _; rw [Nat.ble_eq_true_of_le h]; rfl) h
def qaX1_growLevel : Nat → Option CE := fun k => cond (Nat.beq k 47) (some qeX1_degreeOf) (cond (Nat.beq k 67) (some qeX8_nodeOf) (cond (Nat.beq k 25) (some qeX1_startOf) (cond (Nat.beq k 71) (some qeX8_halve) (cond (Nat.beq k 64) (some qeX1_findExtremes) (none)))))
theorem qyX1_growLevel (l : Launch) : ∀ k e1, qaX1_growLevel k = some e1 → am_cal l layX RX1 7 k e1 ∧ ceT e1 = 0 := q_cons ⟨am_calV (ci := 1) (qtX1_degreeOf l) qbX1_degreeOf (by decide) rfl (am_tb_at 1004 (by decide +kernel) rfl), rfl⟩ (q_cons ⟨am_calN (host := "CurveMeetings") (qtX8_nodeOf l) qbX8_nodeOf (by decide) rfl rfl (am_tb_at 1037 (by decide +kernel) rfl), rfl⟩ (q_cons ⟨am_calS (qtX1_startOf l) qbX1_startOf (by decide) rfl (by decide) (am_tb_at 1014 (by decide +kernel) rfl), rfl⟩ (q_cons ⟨am_calN (host := "CurveMeetings") (qtX8_halve l) qbX8_halve (by decide) rfl rfl (am_tb_at 1040 (by decide +kernel) rfl), rfl⟩ (q_cons ⟨am_calV (ci := 1) (qtX1_findExtremes l) qbX1_findExtremes (by decide) rfl (am_tb_at 1025 (by decide +kernel) rfl), rfl⟩ (q_nil)))))
def qxX1_growLevel : CX := (qkX1_growLevel, layX, qfX1, qaX1_growLevel, qcX1, qlX1, qmX1, none, false, none, 0, none, fun _ => none)
theorem qzX1_growLevel (l : Launch) : am_sta l qxX1_growLevel RX1 7 cX1_growLevel := ⟨qkX1_growLevel_ok, layX_ok, qfX1_ok, qcX1_ok, qlX1_ok, am_mthP qmX1_ok (by decide), fun k e1 h => (qyX1_growLevel l k e1 h).1⟩
def qsX1_growLevel : SP := fun as F A K => match as with
  | [.inr (.inr o), .inl c, .inl lv] => cond (Nat.beq o 9) ((0 ≤ c ∧ c < 8 ∧ 0 ≤ lv ∧ lv ≤ 5 ∧ 0 ≤ A 12 c ∧ A 12 c ≤ 3) ∧ (∀ (B_1 : AA), (frG A B_1 c (p2 lv) ∧ ∀ nd, 2 * p2 lv - 1 ≤ nd → nd < 4 * p2 lv - 1 → ndOK B_1 c nd) → (K (some none) F B_1))) (False)
  | _ => False
def qeX1_growLevel : CE := (yX1_growLevel, cX1_growLevel, 9, none, 2, some 1, 0, none, 0, 7, qsX1_growLevel)
theorem qbX1_growLevel : am_mb qeX1_growLevel := ⟨am_tb_at 1036 (by decide +kernel) rfl, am_tb_at 39 (by decide +kernel) rfl, ⟨by decide, by decide, by decide +kernel⟩, by decide, am_tb_at 1035 (by decide +kernel) rfl, am_tb_at 23 (by decide +kernel) rfl, _, _, rfl⟩
def qnX1_growLevel_9 : CUT := fun pc => cond (Nat.beq pc 9) (some [true, true, true, true, true, false, false, false, false]) (cond (Nat.beq pc 33) (some [true, true, true, true, true, true, true, false, false]) (cond (Nat.beq pc 65) (some [true, true, true, true, true, true, true, true, true]) (none)))
def qiX1_growLevel_9 (c : Int) (lv : Int) (F0 : FF) (A0 : AA) : REC := fun pc ls st F A u => cond (Nat.beq pc 9) (match ls, st, u with
    | [some (.inr (.inr s0)), some (.inl s1), some (.inl s2), some (.inl n), some (.inl q), none, none, none, none], [], 0 => s0 = 9 ∧ s1 = c ∧ s2 = lv ∧ F = F0 ∧ (n = A0 12 c ∧ 0 ≤ q ∧ q ≤ p2 lv ∧ frG A0 A c (p2 lv) ∧ (∀ nn, 2 * p2 lv - 1 ≤ nn → nn < 2 * p2 lv - 1 + 2 * q → ndOK A c nn))
    | _, _, _ => False) (cond (Nat.beq pc 33) (match ls, st, u with
    | [some (.inr (.inr s0)), some (.inl s1), some (.inl s2), some (.inl n), some (.inl q), some (.inl nd), some (.inl ch), none, none], [], 0 => s0 = 9 ∧ s1 = c ∧ s2 = lv ∧ F = F0 ∧ (n = A0 12 c ∧ 0 ≤ q ∧ q < p2 lv ∧ nd = p2 lv - 1 + q ∧ 2 * nd + 1 ≤ ch ∧ ch ≤ 2 * nd + 3 ∧ frG A0 A c (p2 lv) ∧ (∀ nn, 2 * p2 lv - 1 ≤ nn → nn < ch → ndOK A c nn))
    | _, _, _ => False) (cond (Nat.beq pc 65) (match ls, st, u with
    | [some (.inr (.inr s0)), some (.inl s1), some (.inl s2), some (.inl n), some (.inl q), some (.inl nd), some (.inl ch), some (.inl z), some (.inl w)], [], 0 => s0 = 9 ∧ s1 = c ∧ s2 = lv ∧ F = F0 ∧ (n = A0 12 c ∧ 0 ≤ q ∧ q < p2 lv ∧ nd = p2 lv - 1 + q ∧ (ch = 2 * nd + 1 ∧ z = 0 ∨ ch = 2 * nd + 2 ∧ z = 1) ∧ 0 ≤ w ∧ w ≤ 3 ∧ frG A0 A c (p2 lv) ∧ (∀ nn, 2 * p2 lv - 1 ≤ nn → nn < ch → ndOK A c nn) ∧ ∀ ww kk, 0 ≤ ww → ww < w → 0 ≤ kk → kk ≤ n → A 10 (((c * 127 + ch) * 3 + ww) * 4 + kk) = hv (fun jj => A 10 (((c * 127 + nd) * 3 + ww) * 4 + jj)) n z kk)
    | _, _, _ => False) (False)))
def quX1_growLevel_9 : Nat → LVs → List AV → FF → AA → Nat := fun pc ls _ F A => cond (Nat.beq pc 9) (match ls with
    | [some (.inr (.inr s0)), some (.inl s1), some (.inl s2), some (.inl n), some (.inl q), none, none, none, none] => Int.toNat (5000 - 100 * q)
    | _ => 0) (cond (Nat.beq pc 33) (match ls with
    | [some (.inr (.inr s0)), some (.inl s1), some (.inl s2), some (.inl n), some (.inl q), some (.inl nd), some (.inl ch), none, none] => Int.toNat (4990 - 100 * q - 10 * (ch - 2 * nd))
    | _ => 0) (cond (Nat.beq pc 65) (match ls with
    | [some (.inr (.inr s0)), some (.inl s1), some (.inl s2), some (.inl n), some (.inl q), some (.inl nd), some (.inl ch), some (.inl z), some (.inl w)] => Int.toNat (4989 - 100 * q - 10 * (ch - 2 * nd) - w)
    | _ => 0) (0)))
set_option maxRecDepth 20000 in
theorem qvX1_growLevel_9_0 (c : Int) (lv : Int) (F0 : FF) (A0 : AA) (K : KK) (h : (0 ≤ c ∧ c < 8 ∧ 0 ≤ lv ∧ lv ≤ 5 ∧ 0 ≤ A0 12 c ∧ A0 12 c ≤ 3) ∧ (∀ (B_1 : AA), (frG A0 B_1 c (p2 lv) ∧ ∀ nd, 2 * p2 lv - 1 ≤ nd → nd < 4 * p2 lv - 1 → ndOK B_1 c nd) → (K (some none) F0 B_1))) : am_stp qxX1_growLevel (am_run qxX1_growLevel qnX1_growLevel_9 (qiX1_growLevel_9 c lv F0 A0) K 22) K 0 (am_ent [vR 9, vI c, vI lv] 9) [] F0 A0 0 := by
  show am_stp qxX1_growLevel (am_run qxX1_growLevel qnX1_growLevel_9 (qiX1_growLevel_9 c lv F0 A0) K 22) K 0 [some (vR 9), some (vI c), some (vI lv), none, none, none, none, none, none] [] F0 A0 0
  obtain ⟨hp, h⟩ := h
  show (0 ≤ c ∧ c < 8) ∧ (9 = 9 ∧ c = c ∧ lv = lv ∧ F0 = F0 ∧ ((A0 12 c) = A0 12 c ∧ 0 ≤ 0 ∧ 0 ≤ p2 lv ∧ frG A0 A0 c (p2 lv) ∧ (∀ nn, 2 * p2 lv - 1 ≤ nn → nn < 2 * p2 lv - 1 + 2 * 0 → ndOK A0 c nn)))
  refine ⟨by first | omega | (simp (disch := omega) only [w32_0, w64_0, wbi0, wbi1, yc_eq0, yc_lt0, yc_gt0, Classical.not_not, w32_id, w64_id]; omega) | (simp (disch := omega) only [w32_0, w64_0, wbi0, wbi1, yc_eq0, yc_lt0, yc_gt0, Classical.not_not, w32_id, w64_id]; done), ?_⟩
  refine ⟨rfl, rfl, rfl, rfl, ?_⟩
  exact ⟨rfl, by omega, by have := @p2_pos lv; omega, fun _ _ _ => rfl, fun nn a0 a1 => by omega⟩
set_option maxRecDepth 20000 in
theorem qvX1_growLevel_9_9 (c : Int) (lv : Int) (F0 : FF) (A0 : AA) (K : KK) (h : (0 ≤ c ∧ c < 8 ∧ 0 ≤ lv ∧ lv ≤ 5 ∧ 0 ≤ A0 12 c ∧ A0 12 c ≤ 3) ∧ (∀ (B_1 : AA), (frG A0 B_1 c (p2 lv) ∧ ∀ nd, 2 * p2 lv - 1 ≤ nd → nd < 4 * p2 lv - 1 → ndOK B_1 c nd) → (K (some none) F0 B_1))) (n : Int) (q : Int) (A : AA) (hi : n = A0 12 c ∧ 0 ≤ q ∧ q ≤ p2 lv ∧ frG A0 A c (p2 lv) ∧ (∀ nn, 2 * p2 lv - 1 ≤ nn → nn < 2 * p2 lv - 1 + 2 * q → ndOK A c nn)) : am_stp qxX1_growLevel (am_run qxX1_growLevel qnX1_growLevel_9 (fun pc ls st F A u => qiX1_growLevel_9 c lv F0 A0 pc ls st F A u ∧ quX1_growLevel_9 pc ls st F A < quX1_growLevel_9 9 [some (vR 9), some (vI c), some (vI lv), some (vI n), some (vI q), none, none, none, none] [] F0 A) K 22) K 9 [some (vR 9), some (vI c), some (vI lv), some (vI n), some (vI q), none, none, none, none] [] F0 A 0 := by
  obtain ⟨hp, h⟩ := h
  obtain ⟨p1, p2', p3, p4, p5, p6⟩ := hp
  have hP : 1 ≤ p2 lv ∧ p2 lv ≤ 32 := ⟨p2_pos, p2_le p4⟩
  have esh : x_shl 1 lv = p2 lv := x_shl1 p3 (by omega)
  obtain ⟨h1, h2, h3, hF, hN⟩ := hi
  have e12 : A 12 = A0 12 := funext fun i => hF 12 i (Or.inl ⟨by decide, by decide⟩)
  show (w32 q < w32 (x_shl 1 lv) → ((9 = 9 ∧ c = c ∧ lv = lv ∧ F0 = F0 ∧ (n = A0 12 c ∧ 0 ≤ q ∧ q < p2 lv ∧ (x_shl 1 lv - 1 + q) = p2 lv - 1 + q ∧ 2 * (x_shl 1 lv - 1 + q) + 1 ≤ ((2 * (x_shl 1 lv - 1 + q)) + 1) ∧ ((2 * (x_shl 1 lv - 1 + q)) + 1) ≤ 2 * (x_shl 1 lv - 1 + q) + 3 ∧ frG A0 A c (p2 lv) ∧ (∀ nn, 2 * p2 lv - 1 ≤ nn → nn < ((2 * (x_shl 1 lv - 1 + q)) + 1) → ndOK A c nn))) ∧ (Int.toNat (4990 - 100 * q - 10 * (((2 * (x_shl 1 lv - 1 + q)) + 1) - 2 * (x_shl 1 lv - 1 + q)))) < (Int.toNat (5000 - 100 * q)))) ∧ (¬ w32 q < w32 (x_shl 1 lv) → (K (some none) F0 A))
  refine ⟨fun c1 => ?_, fun c1 => ?_⟩
  · skip
    (try simp only [esh] at c1); (try simp (disch := omega) only [w32_0, w32_id] at c1)
    refine ⟨⟨rfl, rfl, rfl, rfl, ?_⟩, by omega⟩
    rw [esh]
    exact ⟨h1, h2, c1, by omega, by omega, by omega, hF, fun nn a0 a1 => hN nn a0 (by omega)⟩
  · skip
    (try simp only [esh] at c1); (try simp (disch := omega) only [w32_0, w32_id] at c1)
    exact h _ ⟨hF, fun nn a0 a1 => hN nn a0 (by omega)⟩
set_option maxRecDepth 20000 in
theorem qvX1_growLevel_9_33 (c : Int) (lv : Int) (F0 : FF) (A0 : AA) (K : KK) (h : (0 ≤ c ∧ c < 8 ∧ 0 ≤ lv ∧ lv ≤ 5 ∧ 0 ≤ A0 12 c ∧ A0 12 c ≤ 3) ∧ (∀ (B_1 : AA), (frG A0 B_1 c (p2 lv) ∧ ∀ nd, 2 * p2 lv - 1 ≤ nd → nd < 4 * p2 lv - 1 → ndOK B_1 c nd) → (K (some none) F0 B_1))) (n : Int) (q : Int) (nd : Int) (ch : Int) (A : AA) (hi : n = A0 12 c ∧ 0 ≤ q ∧ q < p2 lv ∧ nd = p2 lv - 1 + q ∧ 2 * nd + 1 ≤ ch ∧ ch ≤ 2 * nd + 3 ∧ frG A0 A c (p2 lv) ∧ (∀ nn, 2 * p2 lv - 1 ≤ nn → nn < ch → ndOK A c nn)) : am_stp qxX1_growLevel (am_run qxX1_growLevel qnX1_growLevel_9 (fun pc ls st F A u => qiX1_growLevel_9 c lv F0 A0 pc ls st F A u ∧ quX1_growLevel_9 pc ls st F A < quX1_growLevel_9 33 [some (vR 9), some (vI c), some (vI lv), some (vI n), some (vI q), some (vI nd), some (vI ch), none, none] [] F0 A) K 22) K 33 [some (vR 9), some (vI c), some (vI lv), some (vI n), some (vI q), some (vI nd), some (vI ch), none, none] [] F0 A 0 := by
  obtain ⟨hp, h⟩ := h
  obtain ⟨p1, p2', p3, p4, p5, p6⟩ := hp
  have hP : 1 ≤ p2 lv ∧ p2 lv ≤ 32 := ⟨p2_pos, p2_le p4⟩
  have esh : x_shl 1 lv = p2 lv := x_shl1 p3 (by omega)
  obtain ⟨h1, h2, h3, h4, h5, h6, hF, hN⟩ := hi
  have e12 : A 12 = A0 12 := funext fun i => hF 12 i (Or.inl ⟨by decide, by decide⟩)
  show (w32 ((2 * nd) + 2) < w32 ch → ((9 = 9 ∧ c = c ∧ lv = lv ∧ F0 = F0 ∧ (n = A0 12 c ∧ 0 ≤ (q + 1) ∧ (q + 1) ≤ p2 lv ∧ frG A0 A c (p2 lv) ∧ (∀ nn, 2 * p2 lv - 1 ≤ nn → nn < 2 * p2 lv - 1 + 2 * (q + 1) → ndOK A c nn))) ∧ (Int.toNat (5000 - 100 * (q + 1))) < (Int.toNat (4990 - 100 * q - 10 * (ch - 2 * nd))))) ∧ (¬ w32 ((2 * nd) + 2) < w32 ch → ((w32 ch = w32 ((2 * nd) + 2) → ((9 = 9 ∧ c = c ∧ lv = lv ∧ F0 = F0 ∧ (n = A0 12 c ∧ 0 ≤ q ∧ q < p2 lv ∧ nd = p2 lv - 1 + q ∧ (ch = 2 * nd + 1 ∧ 1 = 0 ∨ ch = 2 * nd + 2 ∧ 1 = 1) ∧ 0 ≤ 0 ∧ 0 ≤ 3 ∧ frG A0 A c (p2 lv) ∧ (∀ nn, 2 * p2 lv - 1 ≤ nn → nn < ch → ndOK A c nn) ∧ ∀ ww kk, 0 ≤ ww → ww < 0 → 0 ≤ kk → kk ≤ n → A 10 (((c * 127 + ch) * 3 + ww) * 4 + kk) = hv (fun jj => A 10 (((c * 127 + nd) * 3 + ww) * 4 + jj)) n 1 kk)) ∧ (Int.toNat (4989 - 100 * q - 10 * (ch - 2 * nd) - 0)) < (Int.toNat (4990 - 100 * q - 10 * (ch - 2 * nd))))) ∧ (¬ w32 ch = w32 ((2 * nd) + 2) → ((9 = 9 ∧ c = c ∧ lv = lv ∧ F0 = F0 ∧ (n = A0 12 c ∧ 0 ≤ q ∧ q < p2 lv ∧ nd = p2 lv - 1 + q ∧ (ch = 2 * nd + 1 ∧ 0 = 0 ∨ ch = 2 * nd + 2 ∧ 0 = 1) ∧ 0 ≤ 0 ∧ 0 ≤ 3 ∧ frG A0 A c (p2 lv) ∧ (∀ nn, 2 * p2 lv - 1 ≤ nn → nn < ch → ndOK A c nn) ∧ ∀ ww kk, 0 ≤ ww → ww < 0 → 0 ≤ kk → kk ≤ n → A 10 (((c * 127 + ch) * 3 + ww) * 4 + kk) = hv (fun jj => A 10 (((c * 127 + nd) * 3 + ww) * 4 + jj)) n 0 kk)) ∧ (Int.toNat (4989 - 100 * q - 10 * (ch - 2 * nd) - 0)) < (Int.toNat (4990 - 100 * q - 10 * (ch - 2 * nd)))))))
  refine ⟨fun c1 => ?_, fun c1 => ?_⟩
  · skip
    (try simp only [esh] at c1); (try simp (disch := omega) only [w32_0, w32_id] at c1)
    refine ⟨⟨rfl, rfl, rfl, rfl, ?_⟩, by omega⟩
    exact ⟨h1, by omega, by omega, hF, fun nn a0 a1 => hN nn a0 (by omega)⟩
  · skip
    (try simp only [esh] at c1); (try simp (disch := omega) only [w32_0, w32_id] at c1)
    refine ⟨fun c2 => ?_, fun c2 => ?_⟩
    · skip
      (try simp only [esh] at c2); (try simp (disch := omega) only [w32_0, w32_id] at c2)
      refine ⟨⟨rfl, rfl, rfl, rfl, ?_⟩, by omega⟩
      exact ⟨h1, h2, h3, h4, by omega, by omega, by omega, hF, hN, fun ww kk a0 a1 => by omega⟩
    · skip
      (try simp only [esh] at c2); (try simp (disch := omega) only [w32_0, w32_id] at c2)
      refine ⟨⟨rfl, rfl, rfl, rfl, ?_⟩, by omega⟩
      exact ⟨h1, h2, h3, h4, by omega, by omega, by omega, hF, hN, fun ww kk a0 a1 => by omega⟩
set_option maxRecDepth 20000 in
theorem qvX1_growLevel_9_65 (c : Int) (lv : Int) (F0 : FF) (A0 : AA) (K : KK) (h : (0 ≤ c ∧ c < 8 ∧ 0 ≤ lv ∧ lv ≤ 5 ∧ 0 ≤ A0 12 c ∧ A0 12 c ≤ 3) ∧ (∀ (B_1 : AA), (frG A0 B_1 c (p2 lv) ∧ ∀ nd, 2 * p2 lv - 1 ≤ nd → nd < 4 * p2 lv - 1 → ndOK B_1 c nd) → (K (some none) F0 B_1))) (n : Int) (q : Int) (nd : Int) (ch : Int) (z : Int) (w : Int) (A : AA) (hi : n = A0 12 c ∧ 0 ≤ q ∧ q < p2 lv ∧ nd = p2 lv - 1 + q ∧ (ch = 2 * nd + 1 ∧ z = 0 ∨ ch = 2 * nd + 2 ∧ z = 1) ∧ 0 ≤ w ∧ w ≤ 3 ∧ frG A0 A c (p2 lv) ∧ (∀ nn, 2 * p2 lv - 1 ≤ nn → nn < ch → ndOK A c nn) ∧ ∀ ww kk, 0 ≤ ww → ww < w → 0 ≤ kk → kk ≤ n → A 10 (((c * 127 + ch) * 3 + ww) * 4 + kk) = hv (fun jj => A 10 (((c * 127 + nd) * 3 + ww) * 4 + jj)) n z kk) : am_stp qxX1_growLevel (am_run qxX1_growLevel qnX1_growLevel_9 (fun pc ls st F A u => qiX1_growLevel_9 c lv F0 A0 pc ls st F A u ∧ quX1_growLevel_9 pc ls st F A < quX1_growLevel_9 65 [some (vR 9), some (vI c), some (vI lv), some (vI n), some (vI q), some (vI nd), some (vI ch), some (vI z), some (vI w)] [] F0 A) K 22) K 65 [some (vR 9), some (vI c), some (vI lv), some (vI n), some (vI q), some (vI nd), some (vI ch), some (vI z), some (vI w)] [] F0 A 0 := by
  obtain ⟨hp, h⟩ := h
  obtain ⟨p1, p2', p3, p4, p5, p6⟩ := hp
  have hP : 1 ≤ p2 lv ∧ p2 lv ≤ 32 := ⟨p2_pos, p2_le p4⟩
  have esh : x_shl 1 lv = p2 lv := x_shl1 p3 (by omega)
  obtain ⟨h1, h2, h3, h4, h5, h6, h7, hF, hN, hW⟩ := hi
  have e12 : A 12 = A0 12 := funext fun i => hF 12 i (Or.inl ⟨by decide, by decide⟩)
  show (w32 2 < w32 w → ((0 ≤ c ∧ c < 8 ∧ 0 ≤ ch ∧ ch < 127 ∧ 0 ≤ A 12 c ∧ A 12 c ≤ 3) ∧ ((9 = 9 ∧ c = c ∧ lv = lv ∧ F0 = F0 ∧ (n = A0 12 c ∧ 0 ≤ q ∧ q < p2 lv ∧ nd = p2 lv - 1 + q ∧ 2 * nd + 1 ≤ (ch + 1) ∧ (ch + 1) ≤ 2 * nd + 3 ∧ frG A0 (setR A 11 ((c * 127 + ch) * 4) 4 (fun ss => exB (fun jj => A 10 (((c * 127 + ch) * 3 + ss % 2) * 4 + jj)) (fun jj => A 10 (((c * 127 + ch) * 3 + 2) * 4 + jj)) ss (Int.toNat (A 12 c)))) c (p2 lv) ∧ (∀ nn, 2 * p2 lv - 1 ≤ nn → nn < (ch + 1) → ndOK (setR A 11 ((c * 127 + ch) * 4) 4 (fun ss => exB (fun jj => A 10 (((c * 127 + ch) * 3 + ss % 2) * 4 + jj)) (fun jj => A 10 (((c * 127 + ch) * 3 + 2) * 4 + jj)) ss (Int.toNat (A 12 c)))) c nn))) ∧ (Int.toNat (4990 - 100 * q - 10 * ((ch + 1) - 2 * nd))) < (Int.toNat (4989 - 100 * q - 10 * (ch - 2 * nd) - w))))) ∧ (¬ w32 2 < w32 w → (((0 ≤ n ∧ n ≤ 3) ∧ (z = 0 ∨ z = 1) ∧ 0 ≤ (((c * 127 + nd) * 3 + w) * 4) ∧ (((c * 127 + nd) * 3 + w) * 4) + 4 ≤ (((c * 127 + ch) * 3 + w) * 4) ∧ (((c * 127 + ch) * 3 + w) * 4) + 4 ≤ 12192) ∧ ((9 = 9 ∧ c = c ∧ lv = lv ∧ F0 = F0 ∧ (n = A0 12 c ∧ 0 ≤ q ∧ q < p2 lv ∧ nd = p2 lv - 1 + q ∧ (ch = 2 * nd + 1 ∧ z = 0 ∨ ch = 2 * nd + 2 ∧ z = 1) ∧ 0 ≤ (w + 1) ∧ (w + 1) ≤ 3 ∧ frG A0 (setR A 10 (((c * 127 + ch) * 3 + w) * 4) (n + 1) (hv (fun i => A 10 ((((c * 127 + nd) * 3 + w) * 4) + i)) n z)) c (p2 lv) ∧ (∀ nn, 2 * p2 lv - 1 ≤ nn → nn < ch → ndOK (setR A 10 (((c * 127 + ch) * 3 + w) * 4) (n + 1) (hv (fun i => A 10 ((((c * 127 + nd) * 3 + w) * 4) + i)) n z)) c nn) ∧ ∀ ww kk, 0 ≤ ww → ww < (w + 1) → 0 ≤ kk → kk ≤ n → (setR A 10 (((c * 127 + ch) * 3 + w) * 4) (n + 1) (hv (fun i => A 10 ((((c * 127 + nd) * 3 + w) * 4) + i)) n z)) 10 (((c * 127 + ch) * 3 + ww) * 4 + kk) = hv (fun jj => (setR A 10 (((c * 127 + ch) * 3 + w) * 4) (n + 1) (hv (fun i => A 10 ((((c * 127 + nd) * 3 + w) * 4) + i)) n z)) 10 (((c * 127 + nd) * 3 + ww) * 4 + jj)) n z kk)) ∧ (Int.toNat (4989 - 100 * q - 10 * (ch - 2 * nd) - (w + 1))) < (Int.toNat (4989 - 100 * q - 10 * (ch - 2 * nd) - w)))))
  refine ⟨fun c1 => ?_, fun c1 => ?_⟩
  · skip
    (try simp only [esh] at c1); (try simp (disch := omega) only [w32_0, w32_id] at c1)
    refine ⟨by first | omega | (simp only [e12]; omega), ?_⟩
    refine ⟨⟨rfl, rfl, rfl, rfl, ?_⟩, by omega⟩
    refine ⟨h1, h2, h3, h4, by omega, by omega, frG_set11 hF (by omega) (by omega), fun nn a0 a1 => ?_⟩
    by_cases e : nn = ch
    · rw [e]
      refine ⟨fun ww kk b0 b1 b2 b3 => ?_, exOK_set⟩
      rw [setR_r (show (12 : Nat) ≠ 11 by decide)] at b3 ⊢
      rw [setR_r (show (10 : Nat) ≠ 11 by decide), e12, ← h1, show (ch - 1) / 2 = nd by omega, show (ch - 1) % 2 = z by omega]
      exact hW ww kk b0 (by omega) b2 (by rw [e12, ← h1] at b3; exact b3)
    · exact ndOK_c (A := A) (m := ch) (fun i hi => setR_o (by decide)) (fun i hi => setR_lt (by omega)) (setR_o (by decide)) (by rw [e12]; omega) (by omega) (by omega) (hN nn a0 (by omega))
  · skip
    (try simp only [esh] at c1); (try simp (disch := omega) only [w32_0, w32_id] at c1)
    refine ⟨by first | omega | (simp only [e12]; omega), ?_⟩
    refine ⟨⟨rfl, rfl, rfl, rfl, ?_⟩, by omega⟩
    refine ⟨h1, h2, h3, h4, h5, by omega, by omega, frG_set10 hF (by omega) (by omega) h6 (by omega) (by omega), fun nn a0 a1 => ?_, fun ww kk a0 a1 a2 a3 => ?_⟩
    · refine ndOK_c (A := A) (m := ch) (fun i hi => setR_lt (by omega)) (fun i hi => setR_o (by decide)) (setR_o (by decide)) (by rw [e12]; omega) (by omega) a1 (hN nn a0 a1)
    · by_cases e : ww = w
      · subst e
        rw [setR_at a2 (by omega)]
        exact hv_c (fun i i0 i1 => (setR_lt (by omega)).symm) a2 a3
      · rw [setR_lt (by omega), hW ww kk a0 (by omega) a2 a3]
        exact hv_c (fun i i0 i1 => (setR_lt (by omega)).symm) a2 a3
set_option maxRecDepth 20000 in
theorem qvX1_growLevel_9 (c : Int) (lv : Int) (F0 : FF) (A0 : AA) (K : KK) (h : (0 ≤ c ∧ c < 8 ∧ 0 ≤ lv ∧ lv ≤ 5 ∧ 0 ≤ A0 12 c ∧ A0 12 c ≤ 3) ∧ (∀ (B_1 : AA), (frG A0 B_1 c (p2 lv) ∧ ∀ nd, 2 * p2 lv - 1 ≤ nd → nd < 4 * p2 lv - 1 → ndOK B_1 c nd) → (K (some none) F0 B_1))) : am_body qxX1_growLevel qnX1_growLevel_9 22 (qiX1_growLevel_9 c lv F0 A0) quX1_growLevel_9 [vR 9, vI c, vI lv] 9 F0 A0 K := by
  refine ⟨qvX1_growLevel_9_0 c lv F0 A0 K h, fun pc ls st F A u hI => ?_⟩
  unfold qiX1_growLevel_9 at hI
  replace hI := am_cond2 hI
  rcases hI with ⟨hb, hI⟩ | hI
  · have hb := am_bq hb
    subst hb
    split at hI
    · rename_i s0 s1 s2 n q
      obtain ⟨e0, e1, e2, e3, hI⟩ := hI
      subst e0
      subst e1
      subst e2
      subst e3
      exact qvX1_growLevel_9_9 _ _ _ _ K h _ _ _ hI
    · exact hI.elim
  replace hI := am_cond2 hI
  rcases hI with ⟨hb, hI⟩ | hI
  · have hb := am_bq hb
    subst hb
    split at hI
    · rename_i s0 s1 s2 n q nd ch
      obtain ⟨e0, e1, e2, e3, hI⟩ := hI
      subst e0
      subst e1
      subst e2
      subst e3
      exact qvX1_growLevel_9_33 _ _ _ _ K h _ _ _ _ _ hI
    · exact hI.elim
  replace hI := am_cond2 hI
  rcases hI with ⟨hb, hI⟩ | hI
  · have hb := am_bq hb
    subst hb
    split at hI
    · rename_i s0 s1 s2 n q nd ch z w
      obtain ⟨e0, e1, e2, e3, hI⟩ := hI
      subst e0
      subst e1
      subst e2
      subst e3
      exact qvX1_growLevel_9_65 _ _ _ _ K h _ _ _ _ _ _ _ hI
    · exact hI.elim
  exact hI.elim
theorem qtX1_growLevel (l : Launch) : am_CT l layX qeX1_growLevel := am_met0 rfl (by decide +kernel) rfl rfl rfl rfl rfl (fun _ => rfl) rfl (qzX1_growLevel l) (fun k e1 h => (qyX1_growLevel l k e1 h).2) (fun as F A K h => by
  replace h : qsX1_growLevel as F A K := h
  unfold qsX1_growLevel at h
  split at h
  · rename_i o c lv
    refine ⟨by first | exact Nat.le_of_ble_eq_true rfl | simp [am_fl, am_cat], ?_⟩
    replace h := am_cond2 h
    rcases h with ⟨hb, h⟩ | h
    · skip
      have hb0 := hb
      have hb0 := am_bq hb0
      subst hb0
      exact am_way_body (qvX1_growLevel_9 c lv F A K h)
    exact h.elim
  · exact h.elim)
