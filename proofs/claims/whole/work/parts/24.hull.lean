def qkX4_size : Nat → Option CI := fun pc => cond (Nat.ble 5 pc) none (cond (Nat.beq pc 0) (some (.aload_n 0, 1, [])) (cond (Nat.beq pc 1) (some (.getfield 15, 4, [])) (cond (Nat.beq pc 4) (some (.ireturn, 5, [])) (none))))
theorem qkX4_size_ok : ∀ pc i nx ts, qkX4_size pc = some (i, nx, ts) → am_cok cX4_size pc (i, nx, ts) = true := fun pc i nx ts h => am_tok_ok (n := 5) (by decide +kernel) (fun pc h => by show cond (Nat.ble 5 pc) _ _ = _; rw [Nat.ble_eq_true_of_le h]; rfl) h
def qaX4_size : Nat → Option CE := fun k => none
theorem qyX4_size (l : Launch) : ∀ k e1, qaX4_size k = some e1 → am_cal l layX RX4 3 k e1 ∧ ceT e1 = 0 := q_nil
def qxX4_size : CX := (qkX4_size, layX, qfX4, qaX4_size, qcX4, qlX4, qmX4, (some .int), false, none, 0, none, fun _ => none)
theorem qzX4_size (l : Launch) : am_sta l qxX4_size RX4 3 cX4_size := ⟨qkX4_size_ok, layX_ok, qfX4_ok, qcX4_ok, qlX4_ok, am_mthP qmX4_ok (by decide), fun k e1 h => (qyX4_size l k e1 h).1⟩
def qsX4_size : SP := fun as F A K => match as with
  | [.inr (.inr o)] => cond (Nat.beq o 22) (K (some (some (vI (F 22 1)))) F A) (False)
  | _ => False
def qeX4_size : CE := (yX4_size, cX4_size, 1, (some .int), 0, some 4, 0, [], 0, 3, qsX4_size)
theorem qbX4_size : am_mb qeX4_size := ⟨am_tb_at 1016 (by decide +kernel) rfl, am_tb_at 121 (by decide +kernel) rfl, ⟨by decide, by decide, by decide +kernel⟩, by decide, by decide, am_tb_at 1014 (by decide +kernel) rfl, am_tb_at 1015 (by decide +kernel) rfl, _, _, rfl⟩
set_option maxRecDepth 20000 in
theorem qvX4_size_22  (F : FF) (A : AA) (K : KK) (h : K (some (some (vI (F 22 1)))) F A) : am_line qxX4_size 4 [vR 22] 1 F A K := by
  show am_stp qxX4_size (am_run qxX4_size (fun _ => none) (fun _ _ _ _ _ _ => False) K 4) K 0 [some (vR 22)] [] F A 0
  show K (some (some (vI (F 22 1)))) F A
  first | exact h | exact K_eq h (by first | omega | (simp (disch := omega) only [w32_0, w64_0, wbi0, wbi1, yc_eq0, yc_lt0, yc_gt0, Classical.not_not, w32_id, w64_id]; omega) | (simp (disch := omega) only [w32_0, w64_0, wbi0, wbi1, yc_eq0, yc_lt0, yc_gt0, Classical.not_not, w32_id, w64_id]; done))
theorem qtX4_size (l : Launch) : am_CT l layX qeX4_size := am_met0 rfl (by decide +kernel) rfl rfl rfl rfl rfl (fun _ => rfl) rfl (qzX4_size l) (fun k e1 h => (qyX4_size l k e1 h).2) (fun as F A K h => by
  replace h : qsX4_size as F A K := h
  unfold qsX4_size at h
  split at h
  · rename_i o
    refine ⟨by first | exact Nat.le_of_ble_eq_true rfl | simp [am_fl, am_cat], ?_⟩
    replace h := am_cond2 h
    rcases h with ⟨hb, h⟩ | h
    · skip
      have hb0 := hb
      have hb0 := am_bq hb0
      subst hb0
      exact am_way_line (qvX4_size_22  F A K h)
    exact h.elim
  · exact h.elim)
def qkX4_corner : Nat → Option CI := fun pc => cond (Nat.ble 28 pc) none (cond (Nat.ble 14 pc) (cond (Nat.ble 22 pc) (cond (Nat.ble 26 pc) (cond (Nat.beq pc 26) (some (.iconst (-1), 27, [])) (cond (Nat.beq pc 27) (some (.ireturn, 28, [])) (none))) (cond (Nat.beq pc 22) (some (.iaload, 23, [])) (cond (Nat.beq pc 23) (some (.goto 4, 26, [27])) (none)))) (cond (Nat.ble 18 pc) (cond (Nat.beq pc 18) (some (.getfield 9, 21, [])) (cond (Nat.beq pc 21) (some (.iload_n 1, 22, [])) (none))) (cond (Nat.beq pc 14) (some (.if_icmp .ge 12, 17, [26])) (cond (Nat.beq pc 17) (some (.aload_n 0, 18, [])) (none))))) (cond (Nat.ble 6 pc) (cond (Nat.ble 12 pc) (cond (Nat.beq pc 12) (some (.iload_n 1, 13, [])) (cond (Nat.beq pc 13) (some (.iconst 4, 14, [])) (none))) (cond (Nat.beq pc 6) (some (.getfield 15, 9, [])) (cond (Nat.beq pc 9) (some (.if_icmp .ge 17, 12, [26])) (none)))) (cond (Nat.ble 4 pc) (cond (Nat.beq pc 4) (some (.iload_n 1, 5, [])) (cond (Nat.beq pc 5) (some (.aload_n 0, 6, [])) (none))) (cond (Nat.beq pc 0) (some (.iload_n 1, 1, [])) (cond (Nat.beq pc 1) (some (.ifCond .lt 25, 4, [26])) (none))))))
theorem qkX4_corner_ok : ∀ pc i nx ts, qkX4_corner pc = some (i, nx, ts) → am_cok cX4_corner pc (i, nx, ts) = true := fun pc i nx ts h => am_tok_ok (n := 28) (by decide +kernel) (fun pc h => by show cond (Nat.ble 28 pc) _ _ = _; rw [Nat.ble_eq_true_of_le h]; rfl) h
def qaX4_corner : Nat → Option CE := fun k => none
theorem qyX4_corner (l : Launch) : ∀ k e1, qaX4_corner k = some e1 → am_cal l layX RX4 3 k e1 ∧ ceT e1 = 0 := q_nil
def qxX4_corner : CX := (qkX4_corner, layX, qfX4, qaX4_corner, qcX4, qlX4, qmX4, (some .int), false, none, 0, none, fun _ => none)
theorem qzX4_corner (l : Launch) : am_sta l qxX4_corner RX4 3 cX4_corner := ⟨qkX4_corner_ok, layX_ok, qfX4_ok, qcX4_ok, qlX4_ok, am_mthP qmX4_ok (by decide), fun k e1 h => (qyX4_corner l k e1 h).1⟩
def qsX4_corner : SP := fun as F A K => match as with
  | [.inr (.inr o), .inl k] => cond (Nat.beq o 22) ((0 ≤ (F 22 1) ∧ (F 22 1) ≤ 4) ∧ (K (some (some (vI (if 0 ≤ w32 k ∧ w32 k < (F 22 1) then A 23 (w32 k) else -1)))) F A)) (False)
  | _ => False
def qeX4_corner : CE := (yX4_corner, cX4_corner, 2, (some .int), 1, some 4, 0, [], 0, 3, qsX4_corner)
theorem qbX4_corner : am_mb qeX4_corner := ⟨am_tb_at 1027 (by decide +kernel) rfl, am_tb_at 121 (by decide +kernel) rfl, ⟨by decide, by decide, by decide +kernel⟩, by decide, by decide, am_tb_at 1025 (by decide +kernel) rfl, am_tb_at 1026 (by decide +kernel) rfl, _, _, rfl⟩
set_option maxRecDepth 20000 in
theorem qvX4_corner_22 (k : Int) (F : FF) (A : AA) (K : KK) (h : (0 ≤ (F 22 1) ∧ (F 22 1) ≤ 4) ∧ (K (some (some (vI (if 0 ≤ w32 k ∧ w32 k < (F 22 1) then A 23 (w32 k) else -1)))) F A)) : am_line qxX4_corner 16 [vR 22, vI k] 2 F A K := by
  show am_stp qxX4_corner (am_run qxX4_corner (fun _ => none) (fun _ _ _ _ _ _ => False) K 16) K 0 [some (vR 22), some (vI k)] [] F A 0
  obtain ⟨hp, h⟩ := h
  show (w32 k < w32 0 → (K (some (some (vI (-1)))) F A)) ∧ (¬ w32 k < w32 0 → ((w32 k < w32 (F 22 1) → ((w32 k < w32 4 → ((0 ≤ w32 k ∧ w32 k < 4) ∧ (K (some (some (vI (A 23 (w32 k))))) F A))) ∧ (¬ w32 k < w32 4 → (K (some (some (vI (-1)))) F A)))) ∧ (¬ w32 k < w32 (F 22 1) → (K (some (some (vI (-1)))) F A))))
  refine ⟨fun c1 => ?_, fun c1 => ?_⟩
  · skip
    try simp (disch := omega) only [w32_0, w64_0, wbi0, wbi1, yc_eq0, yc_lt0, yc_gt0, Classical.not_not, w32_id, w64_id] at c1
    first | exact K_eq h (if_pos ⟨by omega, by omega⟩) | exact K_eq h (if_neg (by omega))
  · skip
    try simp (disch := omega) only [w32_0, w64_0, wbi0, wbi1, yc_eq0, yc_lt0, yc_gt0, Classical.not_not, w32_id, w64_id] at c1
    refine ⟨fun c2 => ?_, fun c2 => ?_⟩
    · skip
      try simp (disch := omega) only [w32_0, w64_0, wbi0, wbi1, yc_eq0, yc_lt0, yc_gt0, Classical.not_not, w32_id, w64_id] at c2
      refine ⟨fun c3 => ?_, fun c3 => ?_⟩
      · skip
        try simp (disch := omega) only [w32_0, w64_0, wbi0, wbi1, yc_eq0, yc_lt0, yc_gt0, Classical.not_not, w32_id, w64_id] at c3
        refine ⟨by first | omega | (simp (disch := omega) only [w32_0, w64_0, wbi0, wbi1, yc_eq0, yc_lt0, yc_gt0, Classical.not_not, w32_id, w64_id]; omega) | (simp (disch := omega) only [w32_0, w64_0, wbi0, wbi1, yc_eq0, yc_lt0, yc_gt0, Classical.not_not, w32_id, w64_id]; done), ?_⟩
        first | exact K_eq h (if_pos ⟨by omega, by omega⟩) | exact K_eq h (if_neg (by omega))
      · skip
        try simp (disch := omega) only [w32_0, w64_0, wbi0, wbi1, yc_eq0, yc_lt0, yc_gt0, Classical.not_not, w32_id, w64_id] at c3
        first | exact K_eq h (if_pos ⟨by omega, by omega⟩) | exact K_eq h (if_neg (by omega))
    · skip
      try simp (disch := omega) only [w32_0, w64_0, wbi0, wbi1, yc_eq0, yc_lt0, yc_gt0, Classical.not_not, w32_id, w64_id] at c2
      first | exact K_eq h (if_pos ⟨by omega, by omega⟩) | exact K_eq h (if_neg (by omega))
theorem qtX4_corner (l : Launch) : am_CT l layX qeX4_corner := am_met0 rfl (by decide +kernel) rfl rfl rfl rfl rfl (fun _ => rfl) rfl (qzX4_corner l) (fun k e1 h => (qyX4_corner l k e1 h).2) (fun as F A K h => by
  replace h : qsX4_corner as F A K := h
  unfold qsX4_corner at h
  split at h
  · rename_i o k
    refine ⟨by first | exact Nat.le_of_ble_eq_true rfl | simp [am_fl, am_cat], ?_⟩
    replace h := am_cond2 h
    rcases h with ⟨hb, h⟩ | h
    · skip
      have hb0 := hb
      have hb0 := am_bq hb0
      subst hb0
      exact am_way_line (qvX4_corner_22 k F A K h)
    exact h.elim
  · exact h.elim)
def qkX4_distance : Nat → Option CI := fun pc => cond (Nat.ble 38 pc) none (cond (Nat.ble 19 pc) (cond (Nat.ble 27 pc) (cond (Nat.ble 32 pc) (cond (Nat.ble 36 pc) (cond (Nat.beq pc 36) (some (.iadd, 37, [])) (cond (Nat.beq pc 37) (some (.ireturn, 38, [])) (none))) (cond (Nat.beq pc 32) (some (.isub, 33, [])) (cond (Nat.beq pc 33) (some (.invokestatic 49, 36, [])) (none)))) (cond (Nat.beq pc 27) (some (.iload_n 2, 28, [])) (cond (Nat.beq pc 28) (some (.iconst 1, 29, [])) (cond (Nat.beq pc 29) (some (.invokevirtual 33, 32, [])) (none))))) (cond (Nat.ble 22 pc) (cond (Nat.beq pc 22) (some (.invokevirtual 33, 25, [])) (cond (Nat.beq pc 25) (some (.aload_n 0, 26, [])) (cond (Nat.beq pc 26) (some (.iload_n 1, 27, [])) (none)))) (cond (Nat.beq pc 19) (some (.iload_n 1, 20, [])) (cond (Nat.beq pc 20) (some (.iload_n 3, 21, [])) (cond (Nat.beq pc 21) (some (.iconst 1, 22, [])) (none)))))) (cond (Nat.ble 8 pc) (cond (Nat.ble 11 pc) (cond (Nat.ble 15 pc) (cond (Nat.beq pc 15) (some (.invokestatic 49, 18, [])) (cond (Nat.beq pc 18) (some (.aload_n 0, 19, [])) (none))) (cond (Nat.beq pc 11) (some (.invokevirtual 33, 14, [])) (cond (Nat.beq pc 14) (some (.isub, 15, [])) (none)))) (cond (Nat.beq pc 8) (some (.iload_n 1, 9, [])) (cond (Nat.beq pc 9) (some (.iload_n 2, 10, [])) (cond (Nat.beq pc 10) (some (.iconst 0, 11, [])) (none))))) (cond (Nat.ble 3 pc) (cond (Nat.beq pc 3) (some (.iconst 0, 4, [])) (cond (Nat.beq pc 4) (some (.invokevirtual 33, 7, [])) (cond (Nat.beq pc 7) (some (.aload_n 0, 8, [])) (none)))) (cond (Nat.beq pc 0) (some (.aload_n 0, 1, [])) (cond (Nat.beq pc 1) (some (.iload_n 1, 2, [])) (cond (Nat.beq pc 2) (some (.iload_n 3, 3, [])) (none)))))))
theorem qkX4_distance_ok : ∀ pc i nx ts, qkX4_distance pc = some (i, nx, ts) → am_cok cX4_distance pc (i, nx, ts) = true := fun pc i nx ts h => am_tok_ok (n := 38) (by decide +kernel) (fun pc h => by show cond (Nat.ble 38 pc) _ _ = _; rw [Nat.ble_eq_true_of_le h]; rfl) h
def qaX4_distance : Nat → Option CE := fun k => cond (Nat.beq k 33) (some qeX2_point) (none)
theorem qyX4_distance (l : Launch) : ∀ k e1, qaX4_distance k = some e1 → am_cal l layX RX4 5 k e1 ∧ ceT e1 = 0 := q_cons ⟨am_calV (ci := 2) (qtX2_point l) qbX2_point (by decide) rfl (am_tb_at 999 (by decide +kernel) rfl), rfl⟩ (q_nil)
def qxX4_distance : CX := (qkX4_distance, layX, qfX4, qaX4_distance, qcX4, qlX4, qmX4, (some .int), false, none, 0, none, fun _ => none)
theorem qzX4_distance (l : Launch) : am_sta l qxX4_distance RX4 5 cX4_distance := ⟨qkX4_distance_ok, layX_ok, qfX4_ok, qcX4_ok, qlX4_ok, am_mthP qmX4_ok (by decide), fun k e1 h => (qyX4_distance l k e1 h).1⟩
def qsX4_distance : SP := fun as F A K => match as with
  | [.inr (.inr g), .inl c, .inl a, .inl b] => cond (Nat.beq g 1) ((0 ≤ c ∧ c < 8 ∧ 0 ≤ a ∧ a < 4 ∧ 0 ≤ b ∧ b < 4) ∧ (K (some (some (vI (dsF (A 2) c a b)))) F A)) (False)
  | _ => False
def qeX4_distance : CE := (yX4_distance, cX4_distance, 4, (some .int), 4, none, 0, [], 0, 5, qsX4_distance)
theorem qbX4_distance : am_mb qeX4_distance := ⟨am_tb_at 1005 (by decide +kernel) rfl, am_tb_at 121 (by decide +kernel) rfl, ⟨by decide, by decide, by decide +kernel⟩, by decide, am_tb_at 1004 (by decide +kernel) rfl⟩
set_option maxRecDepth 20000 in
theorem qvX4_distance_1 (c : Int) (a : Int) (b : Int) (F : FF) (A : AA) (K : KK) (h : (0 ≤ c ∧ c < 8 ∧ 0 ≤ a ∧ a < 4 ∧ 0 ≤ b ∧ b < 4) ∧ (K (some (some (vI (dsF (A 2) c a b)))) F A)) : am_line qxX4_distance 27 [vR 1, vI c, vI a, vI b] 4 F A K := by
  show am_stp qxX4_distance (am_run qxX4_distance (fun _ => none) (fun _ _ _ _ _ _ => False) K 27) K 0 [some (vR 1), some (vI c), some (vI a), some (vI b)] [] F A 0
  obtain ⟨hp, h⟩ := h
  show K (some (some (vI ((x_abs ((fat (A 2) (26 + (c * 4 + b) * 3 + 0)) - (fat (A 2) (26 + (c * 4 + a) * 3 + 0)))) + (x_abs ((fat (A 2) (26 + (c * 4 + b) * 3 + 1)) - (fat (A 2) (26 + (c * 4 + a) * 3 + 1)))))))) F A
  simp (disch := omega) only [fat_in]
  exact h
theorem qtX4_distance (l : Launch) : am_CT l layX qeX4_distance := am_met0 rfl (by decide +kernel) rfl rfl rfl rfl rfl (fun _ => rfl) rfl (qzX4_distance l) (fun k e1 h => (qyX4_distance l k e1 h).2) (fun as F A K h => by
  replace h : qsX4_distance as F A K := h
  unfold qsX4_distance at h
  split at h
  · rename_i g c a b
    refine ⟨by first | exact Nat.le_of_ble_eq_true rfl | simp [am_fl, am_cat], ?_⟩
    replace h := am_cond2 h
    rcases h with ⟨hb, h⟩ | h
    · skip
      have hb0 := hb
      have hb0 := am_bq hb0
      subst hb0
      exact am_way_line (qvX4_distance_1 c a b F A K h)
    exact h.elim
  · exact h.elim)
def qkX4_isOutside : Nat → Option CI := fun pc => cond (Nat.ble 45 pc) none (cond (Nat.ble 23 pc) (cond (Nat.ble 32 pc) (cond (Nat.ble 39 pc) (cond (Nat.ble 43 pc) (cond (Nat.beq pc 43) (some (.iconst 0, 44, [])) (cond (Nat.beq pc 44) (some (.ireturn, 45, [])) (none))) (cond (Nat.beq pc 39) (some (.iconst 1, 40, [])) (cond (Nat.beq pc 40) (some (.goto 4, 43, [44])) (none)))) (cond (Nat.beq pc 32) (some (.iload_n 3, 33, [])) (cond (Nat.beq pc 33) (some (.invokestatic 37, 36, [])) (cond (Nat.beq pc 36) (some (.if_icmp .le 7, 39, [43])) (none))))) (cond (Nat.ble 29 pc) (cond (Nat.beq pc 29) (some (.aload_n 0, 30, [])) (cond (Nat.beq pc 30) (some (.iload_n 1, 31, [])) (cond (Nat.beq pc 31) (some (.iload_n 2, 32, [])) (none)))) (cond (Nat.beq pc 23) (some (.iload_n 2, 24, [])) (cond (Nat.beq pc 24) (some (.iload 4, 26, [])) (cond (Nat.beq pc 26) (some (.invokestatic 37, 29, [])) (none)))))) (cond (Nat.ble 9 pc) (cond (Nat.ble 16 pc) (cond (Nat.ble 21 pc) (cond (Nat.beq pc 21) (some (.aload_n 0, 22, [])) (cond (Nat.beq pc 22) (some (.iload_n 1, 23, [])) (none))) (cond (Nat.beq pc 16) (some (.iload 5, 18, [])) (cond (Nat.beq pc 18) (some (.ifCond .ne 25, 21, [43])) (none)))) (cond (Nat.beq pc 9) (some (.istore 5, 11, [])) (cond (Nat.beq pc 11) (some (.iload 5, 13, [])) (cond (Nat.beq pc 13) (some (.ifCond .lt 26, 16, [39])) (none))))) (cond (Nat.ble 3 pc) (cond (Nat.beq pc 3) (some (.iload_n 3, 4, [])) (cond (Nat.beq pc 4) (some (.iload 4, 6, [])) (cond (Nat.beq pc 6) (some (.invokevirtual 45, 9, [])) (none)))) (cond (Nat.beq pc 0) (some (.aload_n 0, 1, [])) (cond (Nat.beq pc 1) (some (.iload_n 1, 2, [])) (cond (Nat.beq pc 2) (some (.iload_n 2, 3, [])) (none)))))))
theorem qkX4_isOutside_ok : ∀ pc i nx ts, qkX4_isOutside pc = some (i, nx, ts) → am_cok cX4_isOutside pc (i, nx, ts) = true := fun pc i nx ts h => am_tok_ok (n := 45) (by decide +kernel) (fun pc h => by show cond (Nat.ble 45 pc) _ _ = _; rw [Nat.ble_eq_true_of_le h]; rfl) h
def qaX4_isOutside : Nat → Option CE := fun k => cond (Nat.beq k 45) (some qeX2_turn) (cond (Nat.beq k 37) (some qeX4_distance) (none))
theorem qyX4_isOutside (l : Launch) : ∀ k e1, qaX4_isOutside k = some e1 → am_cal l layX RX4 6 k e1 ∧ ceT e1 = 0 := q_cons ⟨am_calV (ci := 2) (qtX2_turn l) qbX2_turn (by decide) rfl (am_tb_at 1012 (by decide +kernel) rfl), rfl⟩ (q_cons ⟨am_calS (qtX4_distance l) qbX4_distance (by decide) rfl (by decide) (am_tb_at 1003 (by decide +kernel) rfl), rfl⟩ (q_nil))
def qxX4_isOutside : CX := (qkX4_isOutside, layX, qfX4, qaX4_isOutside, qcX4, qlX4, qmX4, (some .boolean), false, none, 0, none, fun _ => none)
theorem qzX4_isOutside (l : Launch) : am_sta l qxX4_isOutside RX4 6 cX4_isOutside := ⟨qkX4_isOutside_ok, layX_ok, qfX4_ok, qcX4_ok, qlX4_ok, am_mthP qmX4_ok (by decide), fun k e1 h => (qyX4_isOutside l k e1 h).1⟩
def qsX4_isOutside : SP := fun as F A K => match as with
  | [.inr (.inr g), .inl c, .inl a, .inl b, .inl k] => cond (Nat.beq g 1) ((0 ≤ c ∧ c < 8 ∧ 0 ≤ a ∧ a < 4 ∧ 0 ≤ b ∧ b < 4 ∧ 0 ≤ k ∧ k < 4) ∧ (K (some (some (vI (bi (otF (A 2) c a b k))))) F A)) (False)
  | _ => False
def qeX4_isOutside : CE := (yX4_isOutside, cX4_isOutside, 6, (some .boolean), 5, none, 0, [], 0, 6, qsX4_isOutside)
theorem qbX4_isOutside : am_mb qeX4_isOutside := ⟨am_tb_at 1011 (by decide +kernel) rfl, am_tb_at 121 (by decide +kernel) rfl, ⟨by decide, by decide, by decide +kernel⟩, by decide, am_tb_at 1010 (by decide +kernel) rfl⟩
set_option maxRecDepth 20000 in
theorem qvX4_isOutside_1 (c : Int) (a : Int) (b : Int) (k : Int) (F : FF) (A : AA) (K : KK) (h : (0 ≤ c ∧ c < 8 ∧ 0 ≤ a ∧ a < 4 ∧ 0 ≤ b ∧ b < 4 ∧ 0 ≤ k ∧ k < 4) ∧ (K (some (some (vI (bi (otF (A 2) c a b k))))) F A)) : am_line qxX4_isOutside 26 [vR 1, vI c, vI a, vI b, vI k] 6 F A K := by
  show am_stp qxX4_isOutside (am_run qxX4_isOutside (fun _ => none) (fun _ _ _ _ _ _ => False) K 26) K 0 [some (vR 1), some (vI c), some (vI a), some (vI b), some (vI k), none] [] F A 0
  obtain ⟨hp, h⟩ := h
  have et : (fat (A 2) (26 + (c * 4 + b) * 3 + 0) - fat (A 2) (26 + (c * 4 + a) * 3 + 0)) * (fat (A 2) (26 + (c * 4 + k) * 3 + 1) - fat (A 2) (26 + (c * 4 + a) * 3 + 1)) - (fat (A 2) (26 + (c * 4 + b) * 3 + 1) - fat (A 2) (26 + (c * 4 + a) * 3 + 1)) * (fat (A 2) (26 + (c * 4 + k) * 3 + 0) - fat (A 2) (26 + (c * 4 + a) * 3 + 0)) = tnF (A 2) c a b k := by
    simp (disch := omega) only [fat_in]; rfl
  show (w32 (((fat (A 2) (26 + (c * 4 + b) * 3 + 0)) - (fat (A 2) (26 + (c * 4 + a) * 3 + 0))) * ((fat (A 2) (26 + (c * 4 + k) * 3 + 1)) - (fat (A 2) (26 + (c * 4 + a) * 3 + 1))) - ((fat (A 2) (26 + (c * 4 + b) * 3 + 1)) - (fat (A 2) (26 + (c * 4 + a) * 3 + 1))) * ((fat (A 2) (26 + (c * 4 + k) * 3 + 0)) - (fat (A 2) (26 + (c * 4 + a) * 3 + 0)))) < w32 0 → ((1 = 0 ∨ 1 = 1) ∧ (K (some (some (vI 1))) F A))) ∧ (¬ w32 (((fat (A 2) (26 + (c * 4 + b) * 3 + 0)) - (fat (A 2) (26 + (c * 4 + a) * 3 + 0))) * ((fat (A 2) (26 + (c * 4 + k) * 3 + 1)) - (fat (A 2) (26 + (c * 4 + a) * 3 + 1))) - ((fat (A 2) (26 + (c * 4 + b) * 3 + 1)) - (fat (A 2) (26 + (c * 4 + a) * 3 + 1))) * ((fat (A 2) (26 + (c * 4 + k) * 3 + 0)) - (fat (A 2) (26 + (c * 4 + a) * 3 + 0)))) < w32 0 → ((w32 (((fat (A 2) (26 + (c * 4 + b) * 3 + 0)) - (fat (A 2) (26 + (c * 4 + a) * 3 + 0))) * ((fat (A 2) (26 + (c * 4 + k) * 3 + 1)) - (fat (A 2) (26 + (c * 4 + a) * 3 + 1))) - ((fat (A 2) (26 + (c * 4 + b) * 3 + 1)) - (fat (A 2) (26 + (c * 4 + a) * 3 + 1))) * ((fat (A 2) (26 + (c * 4 + k) * 3 + 0)) - (fat (A 2) (26 + (c * 4 + a) * 3 + 0)))) = w32 0 → ((0 ≤ c ∧ c < 8 ∧ 0 ≤ a ∧ a < 4 ∧ 0 ≤ k ∧ k < 4) ∧ ((0 ≤ c ∧ c < 8 ∧ 0 ≤ a ∧ a < 4 ∧ 0 ≤ b ∧ b < 4) ∧ ((w32 (dsF (A 2) c a b) < w32 (dsF (A 2) c a k) → ((1 = 0 ∨ 1 = 1) ∧ (K (some (some (vI 1))) F A))) ∧ (¬ w32 (dsF (A 2) c a b) < w32 (dsF (A 2) c a k) → ((0 = 0 ∨ 0 = 1) ∧ (K (some (some (vI 0))) F A))))))) ∧ (¬ w32 (((fat (A 2) (26 + (c * 4 + b) * 3 + 0)) - (fat (A 2) (26 + (c * 4 + a) * 3 + 0))) * ((fat (A 2) (26 + (c * 4 + k) * 3 + 1)) - (fat (A 2) (26 + (c * 4 + a) * 3 + 1))) - ((fat (A 2) (26 + (c * 4 + b) * 3 + 1)) - (fat (A 2) (26 + (c * 4 + a) * 3 + 1))) * ((fat (A 2) (26 + (c * 4 + k) * 3 + 0)) - (fat (A 2) (26 + (c * 4 + a) * 3 + 0)))) = w32 0 → ((0 = 0 ∨ 0 = 1) ∧ (K (some (some (vI 0))) F A)))))
  refine ⟨fun c1 => ?_, fun c1 => ?_⟩
  · skip
    (try rw [et] at c1); (try simp only [w32_0] at c1)
    refine ⟨by first | exact Or.inl rfl | exact Or.inr rfl | omega, ?_⟩
    exact K_eq h (bi_t (Or.inl c1))
  · skip
    (try rw [et] at c1); (try simp only [w32_0] at c1)
    refine ⟨fun c2 => ?_, fun c2 => ?_⟩
    · skip
      (try rw [et] at c2); (try simp only [w32_0] at c2)
      refine ⟨by first | exact Or.inl rfl | exact Or.inr rfl | omega, ?_⟩
      refine ⟨by first | exact Or.inl rfl | exact Or.inr rfl | omega, ?_⟩
      refine ⟨fun c3 => ?_, fun c3 => ?_⟩
      · skip
        (try rw [et] at c3); (try simp only [w32_0] at c3)
        refine ⟨by first | exact Or.inl rfl | exact Or.inr rfl | omega, ?_⟩
        exact K_eq h (bi_t (Or.inr ⟨c2, c3⟩))
      · skip
        (try rw [et] at c3); (try simp only [w32_0] at c3)
        refine ⟨by first | exact Or.inl rfl | exact Or.inr rfl | omega, ?_⟩
        exact K_eq h (bi_f (fun z => z.elim (fun y => c1 y) (fun y => c3 y.2)))
    · skip
      (try rw [et] at c2); (try simp only [w32_0] at c2)
      refine ⟨by first | exact Or.inl rfl | exact Or.inr rfl | omega, ?_⟩
      exact K_eq h (bi_f (fun z => z.elim (fun y => c1 y) (fun y => c2 y.1)))
theorem qtX4_isOutside (l : Launch) : am_CT l layX qeX4_isOutside := am_met0 rfl (by decide +kernel) rfl rfl rfl rfl rfl (fun _ => rfl) rfl (qzX4_isOutside l) (fun k e1 h => (qyX4_isOutside l k e1 h).2) (fun as F A K h => by
  replace h : qsX4_isOutside as F A K := h
  unfold qsX4_isOutside at h
  split at h
  · rename_i g c a b k
    refine ⟨by first | exact Nat.le_of_ble_eq_true rfl | simp [am_fl, am_cat], ?_⟩
    replace h := am_cond2 h
    rcases h with ⟨hb, h⟩ | h
    · skip
      have hb0 := hb
      have hb0 := am_bq hb0
      subst hb0
      exact am_way_line (qvX4_isOutside_1 c a b k F A K h)
    exact h.elim
  · exact h.elim)
def qkX4_leftmost : Nat → Option CI := fun pc => cond (Nat.ble 72 pc) none (cond (Nat.ble 31 pc) (cond (Nat.ble 47 pc) (cond (Nat.ble 62 pc) (cond (Nat.ble 67 pc) (cond (Nat.beq pc 67) (some (.goto (-63), 70, [4])) (cond (Nat.beq pc 70) (some (.iload_n 2, 71, [])) (cond (Nat.beq pc 71) (some (.ireturn, 72, [])) (none)))) (cond (Nat.beq pc 62) (some (.iload_n 3, 63, [])) (cond (Nat.beq pc 63) (some (.istore_n 2, 64, [])) (cond (Nat.beq pc 64) (some (.iinc 3 1, 67, [])) (none))))) (cond (Nat.ble 54 pc) (cond (Nat.beq pc 54) (some (.ifCond .ne 10, 57, [64])) (cond (Nat.beq pc 57) (some (.iload 5, 59, [])) (cond (Nat.beq pc 59) (some (.ifCond .ge 5, 62, [64])) (none)))) (cond (Nat.beq pc 47) (some (.iload 4, 49, [])) (cond (Nat.beq pc 49) (some (.ifCond .lt 13, 52, [62])) (cond (Nat.beq pc 52) (some (.iload 4, 54, [])) (none)))))) (cond (Nat.ble 38 pc) (cond (Nat.ble 41 pc) (cond (Nat.beq pc 41) (some (.invokevirtual 33, 44, [])) (cond (Nat.beq pc 44) (some (.isub, 45, [])) (cond (Nat.beq pc 45) (some (.istore 5, 47, [])) (none)))) (cond (Nat.beq pc 38) (some (.iload_n 1, 39, [])) (cond (Nat.beq pc 39) (some (.iload_n 2, 40, [])) (cond (Nat.beq pc 40) (some (.iconst 1, 41, [])) (none))))) (cond (Nat.ble 33 pc) (cond (Nat.beq pc 33) (some (.iconst 1, 34, [])) (cond (Nat.beq pc 34) (some (.invokevirtual 33, 37, [])) (cond (Nat.beq pc 37) (some (.aload_n 0, 38, [])) (none)))) (cond (Nat.beq pc 31) (some (.iload_n 1, 32, [])) (cond (Nat.beq pc 32) (some (.iload_n 3, 33, [])) (none)))))) (cond (Nat.ble 15 pc) (cond (Nat.ble 22 pc) (cond (Nat.ble 27 pc) (cond (Nat.beq pc 27) (some (.isub, 28, [])) (cond (Nat.beq pc 28) (some (.istore 4, 30, [])) (cond (Nat.beq pc 30) (some (.aload_n 0, 31, [])) (none)))) (cond (Nat.beq pc 22) (some (.iload_n 2, 23, [])) (cond (Nat.beq pc 23) (some (.iconst 0, 24, [])) (cond (Nat.beq pc 24) (some (.invokevirtual 33, 27, [])) (none))))) (cond (Nat.ble 17 pc) (cond (Nat.beq pc 17) (some (.invokevirtual 33, 20, [])) (cond (Nat.beq pc 20) (some (.aload_n 0, 21, [])) (cond (Nat.beq pc 21) (some (.iload_n 1, 22, [])) (none)))) (cond (Nat.beq pc 15) (some (.iload_n 3, 16, [])) (cond (Nat.beq pc 16) (some (.iconst 0, 17, [])) (none))))) (cond (Nat.ble 5 pc) (cond (Nat.ble 10 pc) (cond (Nat.beq pc 10) (some (.if_icmp .ge 60, 13, [70])) (cond (Nat.beq pc 13) (some (.aload_n 0, 14, [])) (cond (Nat.beq pc 14) (some (.iload_n 1, 15, [])) (none)))) (cond (Nat.beq pc 5) (some (.aload_n 0, 6, [])) (cond (Nat.beq pc 6) (some (.iload_n 1, 7, [])) (cond (Nat.beq pc 7) (some (.invokevirtual 27, 10, [])) (none))))) (cond (Nat.ble 2 pc) (cond (Nat.beq pc 2) (some (.iconst 1, 3, [])) (cond (Nat.beq pc 3) (some (.istore_n 3, 4, [])) (cond (Nat.beq pc 4) (some (.iload_n 3, 5, [])) (none)))) (cond (Nat.beq pc 0) (some (.iconst 0, 1, [])) (cond (Nat.beq pc 1) (some (.istore_n 2, 2, [])) (none)))))))
theorem qkX4_leftmost_ok : ∀ pc i nx ts, qkX4_leftmost pc = some (i, nx, ts) → am_cok cX4_leftmost pc (i, nx, ts) = true := fun pc i nx ts h => am_tok_ok (n := 72) (by decide +kernel) (fun pc h => by show cond (Nat.ble 72 pc) _ _ = _; rw [Nat.ble_eq_true_of_le h]; rfl) h
def qaX4_leftmost : Nat → Option CE := fun k => cond (Nat.beq k 27) (some qeX2_size) (cond (Nat.beq k 33) (some qeX2_point) (none))
theorem qyX4_leftmost (l : Launch) : ∀ k e1, qaX4_leftmost k = some e1 → am_cal l layX RX4 5 k e1 ∧ ceT e1 = 0 := q_cons ⟨am_calV (ci := 2) (qtX2_size l) qbX2_size (by decide) rfl (am_tb_at 998 (by decide +kernel) rfl), rfl⟩ (q_cons ⟨am_calV (ci := 2) (qtX2_point l) qbX2_point (by decide) rfl (am_tb_at 999 (by decide +kernel) rfl), rfl⟩ (q_nil))
def qxX4_leftmost : CX := (qkX4_leftmost, layX, qfX4, qaX4_leftmost, qcX4, qlX4, qmX4, (some .int), false, none, 0, none, fun _ => none)
theorem qzX4_leftmost (l : Launch) : am_sta l qxX4_leftmost RX4 5 cX4_leftmost := ⟨qkX4_leftmost_ok, layX_ok, qfX4_ok, qcX4_ok, qlX4_ok, am_mthP qmX4_ok (by decide), fun k e1 h => (qyX4_leftmost l k e1 h).1⟩
def qsX4_leftmost : SP := fun as F A K => match as with
  | [.inr (.inr g), .inl c] => cond (Nat.beq g 1) ((0 ≤ c ∧ c < 8 ∧ 1 ≤ A 2 (18 + c) ∧ A 2 (18 + c) ≤ 4) ∧ (K (some (some (vI (lfF (A 2) c (Int.toNat (A 2 (18 + c) - 1)))))) F A)) (False)
  | _ => False
def qeX4_leftmost : CE := (yX4_leftmost, cX4_leftmost, 6, (some .int), 2, none, 0, [], 0, 5, qsX4_leftmost)
theorem qbX4_leftmost : am_mb qeX4_leftmost := ⟨am_tb_at 997 (by decide +kernel) rfl, am_tb_at 121 (by decide +kernel) rfl, ⟨by decide, by decide, by decide +kernel⟩, by decide, am_tb_at 996 (by decide +kernel) rfl⟩
def qnX4_leftmost_1 : CUT := fun pc => cond (Nat.beq pc 4) (some [true, true, true, true, false, false]) (none)
def qiX4_leftmost_1 (c : Int) (F0 : FF) (A0 : AA) : REC := fun pc ls st F A u => cond (Nat.beq pc 4) (match ls, st, u with
    | [some (.inr (.inr s0)), some (.inl s1), some (.inl b), some (.inl k), none, none], [], 0 => s0 = 1 ∧ s1 = c ∧ F = F0 ∧ A = A0 ∧ (1 ≤ k ∧ k ≤ A0 2 (18 + c) ∧ b = lfF (A0 2) c (Int.toNat (k - 1)))
    | _, _, _ => False) (False)
def quX4_leftmost_1 : Nat → LVs → List AV → FF → AA → Nat := fun pc ls _ F A => cond (Nat.beq pc 4) (match ls with
    | [some (.inr (.inr s0)), some (.inl s1), some (.inl b), some (.inl k), none, none] => Int.toNat (9 - k)
    | _ => 0) (0)
set_option maxRecDepth 20000 in
theorem qvX4_leftmost_1_0 (c : Int) (F0 : FF) (A0 : AA) (K : KK) (h : (0 ≤ c ∧ c < 8 ∧ 1 ≤ A0 2 (18 + c) ∧ A0 2 (18 + c) ≤ 4) ∧ (K (some (some (vI (lfF (A0 2) c (Int.toNat (A0 2 (18 + c) - 1)))))) F0 A0)) : am_stp qxX4_leftmost (am_run qxX4_leftmost qnX4_leftmost_1 (qiX4_leftmost_1 c F0 A0) K 42) K 0 (am_ent [vR 1, vI c] 6) [] F0 A0 0 := by
  show am_stp qxX4_leftmost (am_run qxX4_leftmost qnX4_leftmost_1 (qiX4_leftmost_1 c F0 A0) K 42) K 0 [some (vR 1), some (vI c), none, none, none, none] [] F0 A0 0
  obtain ⟨hp, h⟩ := h
  show 1 = 1 ∧ c = c ∧ F0 = F0 ∧ A0 = A0 ∧ (1 ≤ 1 ∧ 1 ≤ A0 2 (18 + c) ∧ 0 = lfF (A0 2) c (Int.toNat (1 - 1)))
  refine ⟨rfl, rfl, rfl, rfl, ?_⟩
  exact ⟨by omega, by omega, rfl⟩
set_option maxRecDepth 20000 in
theorem qvX4_leftmost_1_4 (c : Int) (F0 : FF) (A0 : AA) (K : KK) (h : (0 ≤ c ∧ c < 8 ∧ 1 ≤ A0 2 (18 + c) ∧ A0 2 (18 + c) ≤ 4) ∧ (K (some (some (vI (lfF (A0 2) c (Int.toNat (A0 2 (18 + c) - 1)))))) F0 A0)) (b : Int) (k : Int) (hi : 1 ≤ k ∧ k ≤ A0 2 (18 + c) ∧ b = lfF (A0 2) c (Int.toNat (k - 1))) : am_stp qxX4_leftmost (am_run qxX4_leftmost qnX4_leftmost_1 (fun pc ls st F A u => qiX4_leftmost_1 c F0 A0 pc ls st F A u ∧ quX4_leftmost_1 pc ls st F A < quX4_leftmost_1 4 [some (vR 1), some (vI c), some (vI b), some (vI k), none, none] [] F0 A0) K 42) K 4 [some (vR 1), some (vI c), some (vI b), some (vI k), none, none] [] F0 A0 0 := by
  obtain ⟨hp, h⟩ := h
  obtain ⟨h1, h2, h3⟩ := hi
  have h5 := lfF_b (A0 2) c (Int.toNat (k - 1))
  have h6 := lfF_s (f := A0 2) (c := c) h1
  rw [← h3] at h5 h6
  show (w32 k < w32 (fat (A0 2) (18 + c)) → ((w32 ((fat (A0 2) (26 + (c * 4 + k) * 3 + 0)) - (fat (A0 2) (26 + (c * 4 + b) * 3 + 0))) < w32 0 → ((1 = 1 ∧ c = c ∧ F0 = F0 ∧ A0 = A0 ∧ (1 ≤ (k + 1) ∧ (k + 1) ≤ A0 2 (18 + c) ∧ k = lfF (A0 2) c (Int.toNat ((k + 1) - 1)))) ∧ (Int.toNat (9 - (k + 1))) < (Int.toNat (9 - k)))) ∧ (¬ w32 ((fat (A0 2) (26 + (c * 4 + k) * 3 + 0)) - (fat (A0 2) (26 + (c * 4 + b) * 3 + 0))) < w32 0 → ((w32 ((fat (A0 2) (26 + (c * 4 + k) * 3 + 0)) - (fat (A0 2) (26 + (c * 4 + b) * 3 + 0))) = w32 0 → ((w32 ((fat (A0 2) (26 + (c * 4 + k) * 3 + 1)) - (fat (A0 2) (26 + (c * 4 + b) * 3 + 1))) < w32 0 → ((1 = 1 ∧ c = c ∧ F0 = F0 ∧ A0 = A0 ∧ (1 ≤ (k + 1) ∧ (k + 1) ≤ A0 2 (18 + c) ∧ k = lfF (A0 2) c (Int.toNat ((k + 1) - 1)))) ∧ (Int.toNat (9 - (k + 1))) < (Int.toNat (9 - k)))) ∧ (¬ w32 ((fat (A0 2) (26 + (c * 4 + k) * 3 + 1)) - (fat (A0 2) (26 + (c * 4 + b) * 3 + 1))) < w32 0 → ((1 = 1 ∧ c = c ∧ F0 = F0 ∧ A0 = A0 ∧ (1 ≤ (k + 1) ∧ (k + 1) ≤ A0 2 (18 + c) ∧ b = lfF (A0 2) c (Int.toNat ((k + 1) - 1)))) ∧ (Int.toNat (9 - (k + 1))) < (Int.toNat (9 - k)))))) ∧ (¬ w32 ((fat (A0 2) (26 + (c * 4 + k) * 3 + 0)) - (fat (A0 2) (26 + (c * 4 + b) * 3 + 0))) = w32 0 → ((1 = 1 ∧ c = c ∧ F0 = F0 ∧ A0 = A0 ∧ (1 ≤ (k + 1) ∧ (k + 1) ≤ A0 2 (18 + c) ∧ b = lfF (A0 2) c (Int.toNat ((k + 1) - 1)))) ∧ (Int.toNat (9 - (k + 1))) < (Int.toNat (9 - k)))))))) ∧ (¬ w32 k < w32 (fat (A0 2) (18 + c)) → (K (some (some (vI b))) F0 A0))
  refine ⟨fun c1 => ?_, fun c1 => ?_⟩
  · skip
    (try simp (disch := omega) only [fat_in] at c1); (try simp (disch := omega) only [w32_0, w32_id] at c1)
    refine ⟨fun c2 => ?_, fun c2 => ?_⟩
    · skip
      (try simp (disch := omega) only [fat_in] at c2); (try simp (disch := omega) only [w32_0, w32_id] at c2)
      refine ⟨⟨rfl, rfl, rfl, rfl, ?_⟩, by omega⟩
      refine ⟨by omega, by omega, ?_⟩
      rw [show k + 1 - 1 = k by omega, h6]
      exact (if_pos (Or.inl c2)).symm
    · skip
      (try simp (disch := omega) only [fat_in] at c2); (try simp (disch := omega) only [w32_0, w32_id] at c2)
      refine ⟨fun c3 => ?_, fun c3 => ?_⟩
      · skip
        (try simp (disch := omega) only [fat_in] at c3); (try simp (disch := omega) only [w32_0, w32_id] at c3)
        refine ⟨fun c4 => ?_, fun c4 => ?_⟩
        · skip
          (try simp (disch := omega) only [fat_in] at c4); (try simp (disch := omega) only [w32_0, w32_id] at c4)
          refine ⟨⟨rfl, rfl, rfl, rfl, ?_⟩, by omega⟩
          refine ⟨by omega, by omega, ?_⟩
          rw [show k + 1 - 1 = k by omega, h6]
          exact (if_pos (Or.inr ⟨c3, c4⟩)).symm
        · skip
          (try simp (disch := omega) only [fat_in] at c4); (try simp (disch := omega) only [w32_0, w32_id] at c4)
          refine ⟨⟨rfl, rfl, rfl, rfl, ?_⟩, by omega⟩
          refine ⟨by omega, by omega, ?_⟩
          rw [show k + 1 - 1 = k by omega, h6]
          exact (if_neg (fun z => z.elim (fun y => c2 y) (fun y => c4 y.2))).symm
      · skip
        (try simp (disch := omega) only [fat_in] at c3); (try simp (disch := omega) only [w32_0, w32_id] at c3)
        refine ⟨⟨rfl, rfl, rfl, rfl, ?_⟩, by omega⟩
        refine ⟨by omega, by omega, ?_⟩
        rw [show k + 1 - 1 = k by omega, h6]
        exact (if_neg (fun z => z.elim (fun y => c2 y) (fun y => c3 y.1))).symm
  · skip
    (try simp (disch := omega) only [fat_in] at c1); (try simp (disch := omega) only [w32_0, w32_id] at c1)
    refine K_eq h ?_
    rw [h3, show k - 1 = A0 2 (18 + c) - 1 by omega]
set_option maxRecDepth 20000 in
theorem qvX4_leftmost_1 (c : Int) (F0 : FF) (A0 : AA) (K : KK) (h : (0 ≤ c ∧ c < 8 ∧ 1 ≤ A0 2 (18 + c) ∧ A0 2 (18 + c) ≤ 4) ∧ (K (some (some (vI (lfF (A0 2) c (Int.toNat (A0 2 (18 + c) - 1)))))) F0 A0)) : am_body qxX4_leftmost qnX4_leftmost_1 42 (qiX4_leftmost_1 c F0 A0) quX4_leftmost_1 [vR 1, vI c] 6 F0 A0 K := by
  refine ⟨qvX4_leftmost_1_0 c F0 A0 K h, fun pc ls st F A u hI => ?_⟩
  unfold qiX4_leftmost_1 at hI
  replace hI := am_cond2 hI
  rcases hI with ⟨hb, hI⟩ | hI
  · have hb := am_bq hb
    subst hb
    split at hI
    · rename_i s0 s1 b k
      obtain ⟨e0, e1, e2, e3, hI⟩ := hI
      subst e0
      subst e1
      subst e2
      subst e3
      exact qvX4_leftmost_1_4 _ _ _ K h _ _ hI
    · exact hI.elim
  exact hI.elim
theorem qtX4_leftmost (l : Launch) : am_CT l layX qeX4_leftmost := am_met0 rfl (by decide +kernel) rfl rfl rfl rfl rfl (fun _ => rfl) rfl (qzX4_leftmost l) (fun k e1 h => (qyX4_leftmost l k e1 h).2) (fun as F A K h => by
  replace h : qsX4_leftmost as F A K := h
  unfold qsX4_leftmost at h
  split at h
  · rename_i g c
    refine ⟨by first | exact Nat.le_of_ble_eq_true rfl | simp [am_fl, am_cat], ?_⟩
    replace h := am_cond2 h
    rcases h with ⟨hb, h⟩ | h
    · skip
      have hb0 := hb
      have hb0 := am_bq hb0
      subst hb0
      exact am_way_body (qvX4_leftmost_1 c F A K h)
    exact h.elim
  · exact h.elim)
def qkX4_cornerAfter : Nat → Option CI := fun pc => cond (Nat.ble 54 pc) none (cond (Nat.ble 26 pc) (cond (Nat.ble 37 pc) (cond (Nat.ble 46 pc) (cond (Nat.ble 52 pc) (cond (Nat.beq pc 52) (some (.iload_n 3, 53, [])) (cond (Nat.beq pc 53) (some (.ireturn, 54, [])) (none))) (cond (Nat.beq pc 46) (some (.iinc 4 1, 49, [])) (cond (Nat.beq pc 49) (some (.goto (-44), 52, [5])) (none)))) (cond (Nat.ble 43 pc) (cond (Nat.beq pc 43) (some (.iload 4, 45, [])) (cond (Nat.beq pc 45) (some (.istore_n 3, 46, [])) (none))) (cond (Nat.beq pc 37) (some (.invokestatic 41, 40, [])) (cond (Nat.beq pc 40) (some (.ifCond .eq 6, 43, [46])) (none))))) (cond (Nat.ble 32 pc) (cond (Nat.ble 34 pc) (cond (Nat.beq pc 34) (some (.iload_n 3, 35, [])) (cond (Nat.beq pc 35) (some (.iload 4, 37, [])) (none))) (cond (Nat.beq pc 32) (some (.iload_n 1, 33, [])) (cond (Nat.beq pc 33) (some (.iload_n 2, 34, [])) (none)))) (cond (Nat.ble 28 pc) (cond (Nat.beq pc 28) (some (.if_icmp .eq 15, 31, [43])) (cond (Nat.beq pc 31) (some (.aload_n 0, 32, [])) (none))) (cond (Nat.beq pc 26) (some (.iload_n 3, 27, [])) (cond (Nat.beq pc 27) (some (.iconst (-1), 28, [])) (none)))))) (cond (Nat.ble 9 pc) (cond (Nat.ble 17 pc) (cond (Nat.ble 20 pc) (cond (Nat.beq pc 20) (some (.invokestatic 37, 23, [])) (cond (Nat.beq pc 23) (some (.ifCond .le 23, 26, [46])) (none))) (cond (Nat.beq pc 17) (some (.iload_n 2, 18, [])) (cond (Nat.beq pc 18) (some (.iload 4, 20, [])) (none)))) (cond (Nat.ble 15 pc) (cond (Nat.beq pc 15) (some (.aload_n 0, 16, [])) (cond (Nat.beq pc 16) (some (.iload_n 1, 17, [])) (none))) (cond (Nat.beq pc 9) (some (.invokevirtual 27, 12, [])) (cond (Nat.beq pc 12) (some (.if_icmp .ge 40, 15, [52])) (none))))) (cond (Nat.ble 3 pc) (cond (Nat.ble 7 pc) (cond (Nat.beq pc 7) (some (.aload_n 0, 8, [])) (cond (Nat.beq pc 8) (some (.iload_n 1, 9, [])) (none))) (cond (Nat.beq pc 3) (some (.istore 4, 5, [])) (cond (Nat.beq pc 5) (some (.iload 4, 7, [])) (none)))) (cond (Nat.beq pc 0) (some (.iconst (-1), 1, [])) (cond (Nat.beq pc 1) (some (.istore_n 3, 2, [])) (cond (Nat.beq pc 2) (some (.iconst 0, 3, [])) (none)))))))
theorem qkX4_cornerAfter_ok : ∀ pc i nx ts, qkX4_cornerAfter pc = some (i, nx, ts) → am_cok cX4_cornerAfter pc (i, nx, ts) = true := fun pc i nx ts h => am_tok_ok (n := 54) (by decide +kernel) (fun pc h => by show cond (Nat.ble 54 pc) _ _ = _; rw [Nat.ble_eq_true_of_le h]; rfl) h
def qaX4_cornerAfter : Nat → Option CE := fun k => cond (Nat.beq k 27) (some qeX2_size) (cond (Nat.beq k 37) (some qeX4_distance) (cond (Nat.beq k 41) (some qeX4_isOutside) (none)))
theorem qyX4_cornerAfter (l : Launch) : ∀ k e1, qaX4_cornerAfter k = some e1 → am_cal l layX RX4 7 k e1 ∧ ceT e1 = 0 := q_cons ⟨am_calV (ci := 2) (qtX2_size l) qbX2_size (by decide) rfl (am_tb_at 998 (by decide +kernel) rfl), rfl⟩ (q_cons ⟨am_calS (qtX4_distance l) qbX4_distance (by decide) rfl (by decide) (am_tb_at 1003 (by decide +kernel) rfl), rfl⟩ (q_cons ⟨am_calS (qtX4_isOutside l) qbX4_isOutside (by decide) rfl (by decide) (am_tb_at 1009 (by decide +kernel) rfl), rfl⟩ (q_nil)))
def qxX4_cornerAfter : CX := (qkX4_cornerAfter, layX, qfX4, qaX4_cornerAfter, qcX4, qlX4, qmX4, (some .int), false, none, 0, none, fun _ => none)
theorem qzX4_cornerAfter (l : Launch) : am_sta l qxX4_cornerAfter RX4 7 cX4_cornerAfter := ⟨qkX4_cornerAfter_ok, layX_ok, qfX4_ok, qcX4_ok, qlX4_ok, am_mthP qmX4_ok (by decide), fun k e1 h => (qyX4_cornerAfter l k e1 h).1⟩
def qsX4_cornerAfter : SP := fun as F A K => match as with
  | [.inr (.inr g), .inl c, .inl a] => cond (Nat.beq g 1) ((0 ≤ c ∧ c < 8 ∧ 1 ≤ A 2 (18 + c) ∧ A 2 (18 + c) ≤ 4 ∧ 0 ≤ a ∧ a < A 2 (18 + c)) ∧ (K (some (some (vI (caF (A 2) c a (Int.toNat (A 2 (18 + c))))))) F A)) (False)
  | _ => False
def qeX4_cornerAfter : CE := (yX4_cornerAfter, cX4_cornerAfter, 5, (some .int), 3, none, 0, [], 0, 7, qsX4_cornerAfter)
theorem qbX4_cornerAfter : am_mb qeX4_cornerAfter := ⟨am_tb_at 1002 (by decide +kernel) rfl, am_tb_at 121 (by decide +kernel) rfl, ⟨by decide, by decide, by decide +kernel⟩, by decide, am_tb_at 1001 (by decide +kernel) rfl⟩
def qnX4_cornerAfter_1 : CUT := fun pc => cond (Nat.beq pc 5) (some [true, true, true, true, true]) (none)
def qiX4_cornerAfter_1 (c : Int) (a : Int) (F0 : FF) (A0 : AA) : REC := fun pc ls st F A u => cond (Nat.beq pc 5) (match ls, st, u with
    | [some (.inr (.inr s0)), some (.inl s1), some (.inl s2), some (.inl b), some (.inl k)], [], 0 => s0 = 1 ∧ s1 = c ∧ s2 = a ∧ F = F0 ∧ A = A0 ∧ (0 ≤ k ∧ k ≤ A0 2 (18 + c) ∧ b = caF (A0 2) c a (Int.toNat k))
    | _, _, _ => False) (False)
def quX4_cornerAfter_1 : Nat → LVs → List AV → FF → AA → Nat := fun pc ls _ F A => cond (Nat.beq pc 5) (match ls with
    | [some (.inr (.inr s0)), some (.inl s1), some (.inl s2), some (.inl b), some (.inl k)] => Int.toNat (9 - k)
    | _ => 0) (0)
set_option maxRecDepth 20000 in
theorem qvX4_cornerAfter_1_0 (c : Int) (a : Int) (F0 : FF) (A0 : AA) (K : KK) (h : (0 ≤ c ∧ c < 8 ∧ 1 ≤ A0 2 (18 + c) ∧ A0 2 (18 + c) ≤ 4 ∧ 0 ≤ a ∧ a < A0 2 (18 + c)) ∧ (K (some (some (vI (caF (A0 2) c a (Int.toNat (A0 2 (18 + c))))))) F0 A0)) : am_stp qxX4_cornerAfter (am_run qxX4_cornerAfter qnX4_cornerAfter_1 (qiX4_cornerAfter_1 c a F0 A0) K 28) K 0 (am_ent [vR 1, vI c, vI a] 5) [] F0 A0 0 := by
  show am_stp qxX4_cornerAfter (am_run qxX4_cornerAfter qnX4_cornerAfter_1 (qiX4_cornerAfter_1 c a F0 A0) K 28) K 0 [some (vR 1), some (vI c), some (vI a), none, none] [] F0 A0 0
  obtain ⟨hp, h⟩ := h
  show 1 = 1 ∧ c = c ∧ a = a ∧ F0 = F0 ∧ A0 = A0 ∧ (0 ≤ 0 ∧ 0 ≤ A0 2 (18 + c) ∧ (-1) = caF (A0 2) c a (Int.toNat 0))
  refine ⟨rfl, rfl, rfl, rfl, rfl, ?_⟩
  exact ⟨by omega, by omega, rfl⟩
set_option maxRecDepth 20000 in
theorem qvX4_cornerAfter_1_5 (c : Int) (a : Int) (F0 : FF) (A0 : AA) (K : KK) (h : (0 ≤ c ∧ c < 8 ∧ 1 ≤ A0 2 (18 + c) ∧ A0 2 (18 + c) ≤ 4 ∧ 0 ≤ a ∧ a < A0 2 (18 + c)) ∧ (K (some (some (vI (caF (A0 2) c a (Int.toNat (A0 2 (18 + c))))))) F0 A0)) (b : Int) (k : Int) (hi : 0 ≤ k ∧ k ≤ A0 2 (18 + c) ∧ b = caF (A0 2) c a (Int.toNat k)) : am_stp qxX4_cornerAfter (am_run qxX4_cornerAfter qnX4_cornerAfter_1 (fun pc ls st F A u => qiX4_cornerAfter_1 c a F0 A0 pc ls st F A u ∧ quX4_cornerAfter_1 pc ls st F A < quX4_cornerAfter_1 5 [some (vR 1), some (vI c), some (vI a), some (vI b), some (vI k)] [] F0 A0) K 28) K 5 [some (vR 1), some (vI c), some (vI a), some (vI b), some (vI k)] [] F0 A0 0 := by
  obtain ⟨hp, h⟩ := h
  obtain ⟨h1, h2, h3⟩ := hi
  have h5 := caF_b (A0 2) c a (Int.toNat k)
  have h6 := caF_s (f := A0 2) (c := c) (a := a) h1
  rw [← h3] at h5 h6
  show (w32 k < w32 (fat (A0 2) (18 + c)) → ((0 ≤ c ∧ c < 8 ∧ 0 ≤ a ∧ a < 4 ∧ 0 ≤ k ∧ k < 4) ∧ ((w32 0 < w32 (dsF (A0 2) c a k) → ((w32 b = w32 (-1) → ((1 = 1 ∧ c = c ∧ a = a ∧ F0 = F0 ∧ A0 = A0 ∧ (0 ≤ (k + 1) ∧ (k + 1) ≤ A0 2 (18 + c) ∧ k = caF (A0 2) c a (Int.toNat (k + 1)))) ∧ (Int.toNat (9 - (k + 1))) < (Int.toNat (9 - k)))) ∧ (¬ w32 b = w32 (-1) → ((0 ≤ c ∧ c < 8 ∧ 0 ≤ a ∧ a < 4 ∧ 0 ≤ b ∧ b < 4 ∧ 0 ≤ k ∧ k < 4) ∧ ((w32 (bi (otF (A0 2) c a b k)) = w32 0 → ((1 = 1 ∧ c = c ∧ a = a ∧ F0 = F0 ∧ A0 = A0 ∧ (0 ≤ (k + 1) ∧ (k + 1) ≤ A0 2 (18 + c) ∧ b = caF (A0 2) c a (Int.toNat (k + 1)))) ∧ (Int.toNat (9 - (k + 1))) < (Int.toNat (9 - k)))) ∧ (¬ w32 (bi (otF (A0 2) c a b k)) = w32 0 → ((1 = 1 ∧ c = c ∧ a = a ∧ F0 = F0 ∧ A0 = A0 ∧ (0 ≤ (k + 1) ∧ (k + 1) ≤ A0 2 (18 + c) ∧ k = caF (A0 2) c a (Int.toNat (k + 1)))) ∧ (Int.toNat (9 - (k + 1))) < (Int.toNat (9 - k))))))))) ∧ (¬ w32 0 < w32 (dsF (A0 2) c a k) → ((1 = 1 ∧ c = c ∧ a = a ∧ F0 = F0 ∧ A0 = A0 ∧ (0 ≤ (k + 1) ∧ (k + 1) ≤ A0 2 (18 + c) ∧ b = caF (A0 2) c a (Int.toNat (k + 1)))) ∧ (Int.toNat (9 - (k + 1))) < (Int.toNat (9 - k))))))) ∧ (¬ w32 k < w32 (fat (A0 2) (18 + c)) → (K (some (some (vI b))) F0 A0))
  refine ⟨fun c1 => ?_, fun c1 => ?_⟩
  · skip
    (try simp (disch := omega) only [fat_in] at c1); (try simp (disch := omega) only [w32_0, wbi0, Classical.not_not, w32_id] at c1)
    refine ⟨by first | omega | (simp (disch := omega) only [w32_0, w64_0, wbi0, wbi1, yc_eq0, yc_lt0, yc_gt0, Classical.not_not, w32_id, w64_id]; omega) | (simp (disch := omega) only [w32_0, w64_0, wbi0, wbi1, yc_eq0, yc_lt0, yc_gt0, Classical.not_not, w32_id, w64_id]; done), ?_⟩
    refine ⟨fun c2 => ?_, fun c2 => ?_⟩
    · skip
      (try simp (disch := omega) only [fat_in] at c2); (try simp (disch := omega) only [w32_0, wbi0, Classical.not_not, w32_id] at c2)
      refine ⟨fun c3 => ?_, fun c3 => ?_⟩
      · skip
        (try simp (disch := omega) only [fat_in] at c3); (try simp (disch := omega) only [w32_0, wbi0, Classical.not_not, w32_id] at c3)
        refine ⟨⟨rfl, rfl, rfl, rfl, rfl, ?_⟩, by omega⟩
        refine ⟨by omega, by omega, ?_⟩
        rw [h6]
        exact (if_pos ⟨c2, Or.inl c3⟩).symm
      · skip
        (try simp (disch := omega) only [fat_in] at c3); (try simp (disch := omega) only [w32_0, wbi0, Classical.not_not, w32_id] at c3)
        refine ⟨by first | omega | (simp (disch := omega) only [w32_0, w64_0, wbi0, wbi1, yc_eq0, yc_lt0, yc_gt0, Classical.not_not, w32_id, w64_id]; omega) | (simp (disch := omega) only [w32_0, w64_0, wbi0, wbi1, yc_eq0, yc_lt0, yc_gt0, Classical.not_not, w32_id, w64_id]; done), ?_⟩
        refine ⟨fun c4 => ?_, fun c4 => ?_⟩
        · skip
          (try simp (disch := omega) only [fat_in] at c4); (try simp (disch := omega) only [w32_0, wbi0, Classical.not_not, w32_id] at c4)
          refine ⟨⟨rfl, rfl, rfl, rfl, rfl, ?_⟩, by omega⟩
          refine ⟨by omega, by omega, ?_⟩
          rw [h6]
          exact (if_neg (fun z => z.2.elim (fun y => c3 y) (fun y => c4 y))).symm
        · skip
          (try simp (disch := omega) only [fat_in] at c4); (try simp (disch := omega) only [w32_0, wbi0, Classical.not_not, w32_id] at c4)
          refine ⟨⟨rfl, rfl, rfl, rfl, rfl, ?_⟩, by omega⟩
          refine ⟨by omega, by omega, ?_⟩
          rw [h6]
          exact (if_pos ⟨c2, Or.inr c4⟩).symm
    · skip
      (try simp (disch := omega) only [fat_in] at c2); (try simp (disch := omega) only [w32_0, wbi0, Classical.not_not, w32_id] at c2)
      refine ⟨⟨rfl, rfl, rfl, rfl, rfl, ?_⟩, by omega⟩
      refine ⟨by omega, by omega, ?_⟩
      rw [h6]
      exact (if_neg (fun z => c2 z.1)).symm
  · skip
    (try simp (disch := omega) only [fat_in] at c1); (try simp (disch := omega) only [w32_0, wbi0, Classical.not_not, w32_id] at c1)
    refine K_eq h ?_
    rw [h3, show k = A0 2 (18 + c) by omega]
set_option maxRecDepth 20000 in
theorem qvX4_cornerAfter_1 (c : Int) (a : Int) (F0 : FF) (A0 : AA) (K : KK) (h : (0 ≤ c ∧ c < 8 ∧ 1 ≤ A0 2 (18 + c) ∧ A0 2 (18 + c) ≤ 4 ∧ 0 ≤ a ∧ a < A0 2 (18 + c)) ∧ (K (some (some (vI (caF (A0 2) c a (Int.toNat (A0 2 (18 + c))))))) F0 A0)) : am_body qxX4_cornerAfter qnX4_cornerAfter_1 28 (qiX4_cornerAfter_1 c a F0 A0) quX4_cornerAfter_1 [vR 1, vI c, vI a] 5 F0 A0 K := by
  refine ⟨qvX4_cornerAfter_1_0 c a F0 A0 K h, fun pc ls st F A u hI => ?_⟩
  unfold qiX4_cornerAfter_1 at hI
  replace hI := am_cond2 hI
  rcases hI with ⟨hb, hI⟩ | hI
  · have hb := am_bq hb
    subst hb
    split at hI
    · rename_i s0 s1 s2 b k
      obtain ⟨e0, e1, e2, e3, e4, hI⟩ := hI
      subst e0
      subst e1
      subst e2
      subst e3
      subst e4
      exact qvX4_cornerAfter_1_5 _ _ _ _ K h _ _ hI
    · exact hI.elim
  exact hI.elim
theorem qtX4_cornerAfter (l : Launch) : am_CT l layX qeX4_cornerAfter := am_met0 rfl (by decide +kernel) rfl rfl rfl rfl rfl (fun _ => rfl) rfl (qzX4_cornerAfter l) (fun k e1 h => (qyX4_cornerAfter l k e1 h).2) (fun as F A K h => by
  replace h : qsX4_cornerAfter as F A K := h
  unfold qsX4_cornerAfter at h
  split at h
  · rename_i g c a
    refine ⟨by first | exact Nat.le_of_ble_eq_true rfl | simp [am_fl, am_cat], ?_⟩
    replace h := am_cond2 h
    rcases h with ⟨hb, h⟩ | h
    · skip
      have hb0 := hb
      have hb0 := am_bq hb0
      subst hb0
      exact am_way_body (qvX4_cornerAfter_1 c a F A K h)
    exact h.elim
  · exact h.elim)
def qkX4_wrap : Nat → Option CI := fun pc => cond (Nat.ble 69 pc) none (cond (Nat.ble 32 pc) (cond (Nat.ble 49 pc) (cond (Nat.ble 58 pc) (cond (Nat.ble 62 pc) (cond (Nat.beq pc 62) (some (.iinc 5 1, 65, [])) (cond (Nat.beq pc 65) (some (.goto (-48), 68, [17])) (cond (Nat.beq pc 68) (some (.return_, 69, [])) (none)))) (cond (Nat.beq pc 58) (some (.if_icmp .ne 4, 61, [62])) (cond (Nat.beq pc 61) (some (.return_, 62, [])) (none)))) (cond (Nat.ble 52 pc) (cond (Nat.beq pc 52) (some (.if_icmp .eq 9, 55, [61])) (cond (Nat.beq pc 55) (some (.iload 4, 57, [])) (cond (Nat.beq pc 57) (some (.iconst (-1), 58, [])) (none)))) (cond (Nat.beq pc 49) (some (.iload 4, 51, [])) (cond (Nat.beq pc 51) (some (.iload_n 3, 52, [])) (none))))) (cond (Nat.ble 40 pc) (cond (Nat.ble 42 pc) (cond (Nat.beq pc 42) (some (.iload 4, 44, [])) (cond (Nat.beq pc 44) (some (.invokestatic 23, 47, [])) (cond (Nat.beq pc 47) (some (.istore 4, 49, [])) (none)))) (cond (Nat.beq pc 40) (some (.aload_n 1, 41, [])) (cond (Nat.beq pc 41) (some (.iload_n 2, 42, [])) (none)))) (cond (Nat.ble 35 pc) (cond (Nat.beq pc 35) (some (.iconst 1, 36, [])) (cond (Nat.beq pc 36) (some (.iadd, 37, [])) (cond (Nat.beq pc 37) (some (.putfield 15, 40, [])) (none)))) (cond (Nat.beq pc 32) (some (.aload_n 0, 33, [])) (cond (Nat.beq pc 33) (some (.iload 5, 35, [])) (none)))))) (cond (Nat.ble 14 pc) (cond (Nat.ble 23 pc) (cond (Nat.ble 27 pc) (cond (Nat.beq pc 27) (some (.iload 5, 29, [])) (cond (Nat.beq pc 29) (some (.iload 4, 31, [])) (cond (Nat.beq pc 31) (some (.iastore, 32, [])) (none)))) (cond (Nat.beq pc 23) (some (.aload_n 0, 24, [])) (cond (Nat.beq pc 24) (some (.getfield 9, 27, [])) (none)))) (cond (Nat.ble 17 pc) (cond (Nat.beq pc 17) (some (.iload 5, 19, [])) (cond (Nat.beq pc 19) (some (.iconst 4, 20, [])) (cond (Nat.beq pc 20) (some (.if_icmp .ge 48, 23, [68])) (none)))) (cond (Nat.beq pc 14) (some (.iconst 0, 15, [])) (cond (Nat.beq pc 15) (some (.istore 5, 17, [])) (none))))) (cond (Nat.ble 6 pc) (cond (Nat.ble 9 pc) (cond (Nat.beq pc 9) (some (.aload_n 0, 10, [])) (cond (Nat.beq pc 10) (some (.iconst 0, 11, [])) (cond (Nat.beq pc 11) (some (.putfield 15, 14, [])) (none)))) (cond (Nat.beq pc 6) (some (.iload_n 3, 7, [])) (cond (Nat.beq pc 7) (some (.istore 4, 9, [])) (none)))) (cond (Nat.ble 2 pc) (cond (Nat.beq pc 2) (some (.invokestatic 19, 5, [])) (cond (Nat.beq pc 5) (some (.istore_n 3, 6, [])) (none))) (cond (Nat.beq pc 0) (some (.aload_n 1, 1, [])) (cond (Nat.beq pc 1) (some (.iload_n 2, 2, [])) (none)))))))
theorem qkX4_wrap_ok : ∀ pc i nx ts, qkX4_wrap pc = some (i, nx, ts) → am_cok cX4_wrap pc (i, nx, ts) = true := fun pc i nx ts h => am_tok_ok (n := 69) (by decide +kernel) (fun pc h => by show cond (Nat.ble 69 pc) _ _ = _; rw [Nat.ble_eq_true_of_le h]; rfl) h
def qaX4_wrap : Nat → Option CE := fun k => cond (Nat.beq k 19) (some qeX4_leftmost) (cond (Nat.beq k 23) (some qeX4_cornerAfter) (none))
theorem qyX4_wrap (l : Launch) : ∀ k e1, qaX4_wrap k = some e1 → am_cal l layX RX4 8 k e1 ∧ ceT e1 = 0 := q_cons ⟨am_calS (qtX4_leftmost l) qbX4_leftmost (by decide) rfl (by decide) (am_tb_at 995 (by decide +kernel) rfl), rfl⟩ (q_cons ⟨am_calS (qtX4_cornerAfter l) qbX4_cornerAfter (by decide) rfl (by decide) (am_tb_at 1000 (by decide +kernel) rfl), rfl⟩ (q_nil))
def qxX4_wrap : CX := (qkX4_wrap, layX, qfX4, qaX4_wrap, qcX4, qlX4, qmX4, none, false, none, 0, none, fun _ => none)
theorem qzX4_wrap (l : Launch) : am_sta l qxX4_wrap RX4 8 cX4_wrap := ⟨qkX4_wrap_ok, layX_ok, qfX4_ok, qcX4_ok, qlX4_ok, am_mthP qmX4_ok (by decide), fun k e1 h => (qyX4_wrap l k e1 h).1⟩
def qsX4_wrap : SP := fun as F A K => match as with
  | [.inr (.inr o), .inr (.inr g), .inl c] => cond (Nat.beq o 22 && Nat.beq g 1) ((0 ≤ c ∧ c < 8 ∧ 1 ≤ A 2 (18 + c) ∧ A 2 (18 + c) ≤ 4) ∧ (∀ (G_1 : FF) (B_1 : AA), (huP F G_1 A B_1 (wrF (A 2) c (A 2 (18 + c)) (lfF (A 2) c (Int.toNat (A 2 (18 + c) - 1))) 4 (lfF (A 2) c (Int.toNat (A 2 (18 + c) - 1))))) → (K (some none) G_1 B_1))) (False)
  | _ => False
def qeX4_wrap : CE := (yX4_wrap, cX4_wrap, 6, none, 2, some 4, 0, [], 0, 8, qsX4_wrap)
theorem qbX4_wrap : am_mb qeX4_wrap := ⟨am_tb_at 994 (by decide +kernel) rfl, am_tb_at 121 (by decide +kernel) rfl, ⟨by decide, by decide, by decide +kernel⟩, by decide, by decide, am_tb_at 992 (by decide +kernel) rfl, am_tb_at 993 (by decide +kernel) rfl, _, _, rfl⟩
def qnX4_wrap_22_1 : CUT := fun pc => cond (Nat.beq pc 17) (some [true, true, true, true, true, true]) (none)
def qiX4_wrap_22_1 (c : Int) (F0 : FF) (A0 : AA) : REC := fun pc ls st F A u => cond (Nat.beq pc 17) (match ls, st, u with
    | [some (.inr (.inr s0)), some (.inr (.inr s1)), some (.inl s2), some (.inl x), some (.inl a), some (.inl k)], [], 0 => s0 = 22 ∧ s1 = 1 ∧ s2 = c ∧ (x = (lfF (A0 2) c (Int.toNat (A0 2 (18 + c) - 1))) ∧ (0 ≤ k ∧ k ≤ 4) ∧ (0 ≤ a ∧ a < (A0 2 (18 + c))) ∧ (∀ aa bb, aa ≠ 22 ∨ bb ≠ 1 → F aa bb = F0 aa bb) ∧ (∀ bb ii, bb ≠ 23 → A bb ii = A0 bb ii) ∧ F 22 1 = k ∧ ∃ L : List Int, (L.length : Int) = k ∧ rowL (A 23) 0 L ∧ (wrF (A0 2) c (A0 2 (18 + c)) (lfF (A0 2) c (Int.toNat (A0 2 (18 + c) - 1))) 4 (lfF (A0 2) c (Int.toNat (A0 2 (18 + c) - 1)))) = L ++ wrF (A0 2) c (A0 2 (18 + c)) (lfF (A0 2) c (Int.toNat (A0 2 (18 + c) - 1))) (Int.toNat (4 - k)) a)
    | _, _, _ => False) (False)
def quX4_wrap_22_1 : Nat → LVs → List AV → FF → AA → Nat := fun pc ls _ F A => cond (Nat.beq pc 17) (match ls with
    | [some (.inr (.inr s0)), some (.inr (.inr s1)), some (.inl s2), some (.inl x), some (.inl a), some (.inl k)] => Int.toNat (9 - k)
    | _ => 0) (0)
set_option maxRecDepth 20000 in
theorem qvX4_wrap_22_1_0 (c : Int) (F0 : FF) (A0 : AA) (K : KK) (h : (0 ≤ c ∧ c < 8 ∧ 1 ≤ A0 2 (18 + c) ∧ A0 2 (18 + c) ≤ 4) ∧ (∀ (G_1 : FF) (B_1 : AA), (huP F0 G_1 A0 B_1 (wrF (A0 2) c (A0 2 (18 + c)) (lfF (A0 2) c (Int.toNat (A0 2 (18 + c) - 1))) 4 (lfF (A0 2) c (Int.toNat (A0 2 (18 + c) - 1))))) → (K (some none) G_1 B_1))) : am_stp qxX4_wrap (am_run qxX4_wrap qnX4_wrap_22_1 (qiX4_wrap_22_1 c F0 A0) K 29) K 0 (am_ent [vR 22, vR 1, vI c] 6) [] F0 A0 0 := by
  show am_stp qxX4_wrap (am_run qxX4_wrap qnX4_wrap_22_1 (qiX4_wrap_22_1 c F0 A0) K 29) K 0 [some (vR 22), some (vR 1), some (vI c), none, none, none] [] F0 A0 0
  obtain ⟨hp, h⟩ := h
  show (0 ≤ c ∧ c < 8 ∧ 1 ≤ A0 2 (18 + c) ∧ A0 2 (18 + c) ≤ 4) ∧ (22 = 22 ∧ 1 = 1 ∧ c = c ∧ ((lfF (A0 2) c (Int.toNat (A0 2 (18 + c) - 1))) = (lfF (A0 2) c (Int.toNat (A0 2 (18 + c) - 1))) ∧ (0 ≤ 0 ∧ 0 ≤ 4) ∧ (0 ≤ (lfF (A0 2) c (Int.toNat (A0 2 (18 + c) - 1))) ∧ (lfF (A0 2) c (Int.toNat (A0 2 (18 + c) - 1))) < (A0 2 (18 + c))) ∧ (∀ aa bb, aa ≠ 22 ∨ bb ≠ 1 → (upF F0 22 1 0) aa bb = F0 aa bb) ∧ (∀ bb ii, bb ≠ 23 → A0 bb ii = A0 bb ii) ∧ (upF F0 22 1 0) 22 1 = 0 ∧ ∃ L : List Int, (L.length : Int) = 0 ∧ rowL (A0 23) 0 L ∧ (wrF (A0 2) c (A0 2 (18 + c)) (lfF (A0 2) c (Int.toNat (A0 2 (18 + c) - 1))) 4 (lfF (A0 2) c (Int.toNat (A0 2 (18 + c) - 1)))) = L ++ wrF (A0 2) c (A0 2 (18 + c)) (lfF (A0 2) c (Int.toNat (A0 2 (18 + c) - 1))) (Int.toNat (4 - 0)) (lfF (A0 2) c (Int.toNat (A0 2 (18 + c) - 1)))))
  refine ⟨by first | omega | (simp (disch := omega) only [w32_0, w64_0, wbi0, wbi1, yc_eq0, yc_lt0, yc_gt0, Classical.not_not, w32_id, w64_id]; omega) | (simp (disch := omega) only [w32_0, w64_0, wbi0, wbi1, yc_eq0, yc_lt0, yc_gt0, Classical.not_not, w32_id, w64_id]; done), ?_⟩
  refine ⟨rfl, rfl, rfl, ?_⟩
  have hb := lfF_b (A0 2) c (Int.toNat (A0 2 (18 + c) - 1))
  exact ⟨rfl, by omega, by omega, fun aa bb hab => upF_o hab, fun _ _ _ => rfl, upF_s, [], rfl, trivial, rfl⟩
set_option maxRecDepth 20000 in
theorem qvX4_wrap_22_1_17 (c : Int) (F0 : FF) (A0 : AA) (K : KK) (h : (0 ≤ c ∧ c < 8 ∧ 1 ≤ A0 2 (18 + c) ∧ A0 2 (18 + c) ≤ 4) ∧ (∀ (G_1 : FF) (B_1 : AA), (huP F0 G_1 A0 B_1 (wrF (A0 2) c (A0 2 (18 + c)) (lfF (A0 2) c (Int.toNat (A0 2 (18 + c) - 1))) 4 (lfF (A0 2) c (Int.toNat (A0 2 (18 + c) - 1))))) → (K (some none) G_1 B_1))) (x : Int) (a : Int) (k : Int) (F : FF) (A : AA) (hi : x = (lfF (A0 2) c (Int.toNat (A0 2 (18 + c) - 1))) ∧ (0 ≤ k ∧ k ≤ 4) ∧ (0 ≤ a ∧ a < (A0 2 (18 + c))) ∧ (∀ aa bb, aa ≠ 22 ∨ bb ≠ 1 → F aa bb = F0 aa bb) ∧ (∀ bb ii, bb ≠ 23 → A bb ii = A0 bb ii) ∧ F 22 1 = k ∧ ∃ L : List Int, (L.length : Int) = k ∧ rowL (A 23) 0 L ∧ (wrF (A0 2) c (A0 2 (18 + c)) (lfF (A0 2) c (Int.toNat (A0 2 (18 + c) - 1))) 4 (lfF (A0 2) c (Int.toNat (A0 2 (18 + c) - 1)))) = L ++ wrF (A0 2) c (A0 2 (18 + c)) (lfF (A0 2) c (Int.toNat (A0 2 (18 + c) - 1))) (Int.toNat (4 - k)) a) : am_stp qxX4_wrap (am_run qxX4_wrap qnX4_wrap_22_1 (fun pc ls st F A u => qiX4_wrap_22_1 c F0 A0 pc ls st F A u ∧ quX4_wrap_22_1 pc ls st F A < quX4_wrap_22_1 17 [some (vR 22), some (vR 1), some (vI c), some (vI x), some (vI a), some (vI k)] [] F A) K 29) K 17 [some (vR 22), some (vR 1), some (vI c), some (vI x), some (vI a), some (vI k)] [] F A 0 := by
  obtain ⟨hp, h⟩ := h
  obtain ⟨h1, h2, h3, hF, hA, h4, L, h5, h6, h7⟩ := hi
  have e2 : A 2 = A0 2 := funext fun i => hA 2 i (by decide)
  have hc := caF_b (A0 2) c a (Int.toNat (A0 2 (18 + c)))
  have hl := lfF_b (A0 2) c (Int.toNat (A0 2 (18 + c) - 1))
  have hr := @wrF_s (A0 2) c (A0 2 (18 + c)) (lfF (A0 2) c (Int.toNat (A0 2 (18 + c) - 1))) k a
  have RL : rowL (upA A 23 k a 23) 0 (L ++ [a]) := (rowL_app L [a] 0).mpr ⟨rowL_c L 0 (fun i i0 i1 => upA_o (by omega)) h6, ⟨by rw [show (0 : Int) + L.length = k by omega]; exact upA_s, trivial⟩⟩
  show (w32 k < w32 4 → ((0 ≤ w32 k ∧ w32 k < 4) ∧ ((0 ≤ c ∧ c < 8 ∧ 1 ≤ (upA A 23 (w32 k) a) 2 (18 + c) ∧ (upA A 23 (w32 k) a) 2 (18 + c) ≤ 4 ∧ 0 ≤ a ∧ a < (upA A 23 (w32 k) a) 2 (18 + c)) ∧ ((w32 (caF ((upA A 23 (w32 k) a) 2) c a (Int.toNat ((upA A 23 (w32 k) a) 2 (18 + c)))) = w32 x → (K (some none) (upF F 22 1 (k + 1)) (upA A 23 (w32 k) a))) ∧ (¬ w32 (caF ((upA A 23 (w32 k) a) 2) c a (Int.toNat ((upA A 23 (w32 k) a) 2 (18 + c)))) = w32 x → ((w32 (caF ((upA A 23 (w32 k) a) 2) c a (Int.toNat ((upA A 23 (w32 k) a) 2 (18 + c)))) = w32 (-1) → (K (some none) (upF F 22 1 (k + 1)) (upA A 23 (w32 k) a))) ∧ (¬ w32 (caF ((upA A 23 (w32 k) a) 2) c a (Int.toNat ((upA A 23 (w32 k) a) 2 (18 + c)))) = w32 (-1) → ((22 = 22 ∧ 1 = 1 ∧ c = c ∧ (x = (lfF (A0 2) c (Int.toNat (A0 2 (18 + c) - 1))) ∧ (0 ≤ (k + 1) ∧ (k + 1) ≤ 4) ∧ (0 ≤ (caF ((upA A 23 (w32 k) a) 2) c a (Int.toNat ((upA A 23 (w32 k) a) 2 (18 + c)))) ∧ (caF ((upA A 23 (w32 k) a) 2) c a (Int.toNat ((upA A 23 (w32 k) a) 2 (18 + c)))) < (A0 2 (18 + c))) ∧ (∀ aa bb, aa ≠ 22 ∨ bb ≠ 1 → (upF F 22 1 (k + 1)) aa bb = F0 aa bb) ∧ (∀ bb ii, bb ≠ 23 → (upA A 23 (w32 k) a) bb ii = A0 bb ii) ∧ (upF F 22 1 (k + 1)) 22 1 = (k + 1) ∧ ∃ L : List Int, (L.length : Int) = (k + 1) ∧ rowL ((upA A 23 (w32 k) a) 23) 0 L ∧ (wrF (A0 2) c (A0 2 (18 + c)) (lfF (A0 2) c (Int.toNat (A0 2 (18 + c) - 1))) 4 (lfF (A0 2) c (Int.toNat (A0 2 (18 + c) - 1)))) = L ++ wrF (A0 2) c (A0 2 (18 + c)) (lfF (A0 2) c (Int.toNat (A0 2 (18 + c) - 1))) (Int.toNat (4 - (k + 1))) (caF ((upA A 23 (w32 k) a) 2) c a (Int.toNat ((upA A 23 (w32 k) a) 2 (18 + c)))))) ∧ (Int.toNat (9 - (k + 1))) < (Int.toNat (9 - k)))))))))) ∧ (¬ w32 k < w32 4 → (K (some none) F A))
  refine ⟨fun c1 => ?_, fun c1 => ?_⟩
  · skip
    (try rw [upA_r (show (2 : Nat) ≠ 23 by decide), e2] at c1); (try simp (disch := omega) only [w32_0, w32_id] at c1)
    refine ⟨by first | omega | (simp (disch := omega) only [w32_id]; omega) | (rw [upA_r (show (2 : Nat) ≠ 23 by decide), e2]; omega), ?_⟩
    refine ⟨by first | omega | (simp (disch := omega) only [w32_id]; omega) | (rw [upA_r (show (2 : Nat) ≠ 23 by decide), e2]; omega), ?_⟩
    refine ⟨fun c2 => ?_, fun c2 => ?_⟩
    · skip
      (try rw [upA_r (show (2 : Nat) ≠ 23 by decide), e2] at c2); (try simp (disch := omega) only [w32_0, w32_id] at c2)
      have e := hr c1
      rw [if_pos (Or.inl (by rw [← h1]; exact c2))] at e
      simp (disch := omega) only [w32_id]
      refine h _ _ ⟨fun aa bb hab => by rw [upF_o hab]; exact hF aa bb hab, fun bb ii hb => by rw [upA_k hb]; exact hA bb ii hb, ?_, ?_⟩
      · rw [upF_s, h7, e]; simp only [List.length_append, List.length_cons, List.length_nil]; omega
      · rw [h7, e]; exact RL
    · skip
      (try rw [upA_r (show (2 : Nat) ≠ 23 by decide), e2] at c2); (try simp (disch := omega) only [w32_0, w32_id] at c2)
      refine ⟨fun c3 => ?_, fun c3 => ?_⟩
      · skip
        (try rw [upA_r (show (2 : Nat) ≠ 23 by decide), e2] at c3); (try simp (disch := omega) only [w32_0, w32_id] at c3)
        have e := hr c1
        rw [if_pos (Or.inr c3)] at e
        simp (disch := omega) only [w32_id]
        refine h _ _ ⟨fun aa bb hab => by rw [upF_o hab]; exact hF aa bb hab, fun bb ii hb => by rw [upA_k hb]; exact hA bb ii hb, ?_, ?_⟩
        · rw [upF_s, h7, e]; simp only [List.length_append, List.length_cons, List.length_nil]; omega
        · rw [h7, e]; exact RL
      · skip
        (try rw [upA_r (show (2 : Nat) ≠ 23 by decide), e2] at c3); (try simp (disch := omega) only [w32_0, w32_id] at c3)
        refine ⟨⟨rfl, rfl, rfl, ?_⟩, by omega⟩
        have e := hr c1
        rw [if_neg (fun z => z.elim (fun y => c2 (by rw [h1]; exact y)) c3)] at e
        rw [upA_r (show (2 : Nat) ≠ 23 by decide), e2]
        simp (disch := omega) only [w32_id]
        refine ⟨h1, by omega, by omega, fun aa bb hab => by rw [upF_o hab]; exact hF aa bb hab, fun bb ii hb => by rw [upA_k hb]; exact hA bb ii hb, upF_s, L ++ [a], ?_, RL, ?_⟩
        · simp only [List.length_append, List.length_cons, List.length_nil]; omega
        · rw [h7, e, List.append_assoc]; rfl
  · skip
    (try rw [upA_r (show (2 : Nat) ≠ 23 by decide), e2] at c1); (try simp (disch := omega) only [w32_0, w32_id] at c1)
    rw [show Int.toNat (4 - k) = 0 by omega] at h7
    refine h _ _ ⟨hF, hA, ?_, ?_⟩
    · rw [h4, h7]; simp only [wrF, List.append_nil]; omega
    · rw [h7]; simp only [wrF, List.append_nil]; exact h6
set_option maxRecDepth 20000 in
theorem qvX4_wrap_22_1 (c : Int) (F0 : FF) (A0 : AA) (K : KK) (h : (0 ≤ c ∧ c < 8 ∧ 1 ≤ A0 2 (18 + c) ∧ A0 2 (18 + c) ≤ 4) ∧ (∀ (G_1 : FF) (B_1 : AA), (huP F0 G_1 A0 B_1 (wrF (A0 2) c (A0 2 (18 + c)) (lfF (A0 2) c (Int.toNat (A0 2 (18 + c) - 1))) 4 (lfF (A0 2) c (Int.toNat (A0 2 (18 + c) - 1))))) → (K (some none) G_1 B_1))) : am_body qxX4_wrap qnX4_wrap_22_1 29 (qiX4_wrap_22_1 c F0 A0) quX4_wrap_22_1 [vR 22, vR 1, vI c] 6 F0 A0 K := by
  refine ⟨qvX4_wrap_22_1_0 c F0 A0 K h, fun pc ls st F A u hI => ?_⟩
  unfold qiX4_wrap_22_1 at hI
  replace hI := am_cond2 hI
  rcases hI with ⟨hb, hI⟩ | hI
  · have hb := am_bq hb
    subst hb
    split at hI
    · rename_i s0 s1 s2 x a k
      obtain ⟨e0, e1, e2, hI⟩ := hI
      subst e0
      subst e1
      subst e2
      exact qvX4_wrap_22_1_17 _ _ _ K h _ _ _ _ _ hI
    · exact hI.elim
  exact hI.elim
theorem qtX4_wrap (l : Launch) : am_CT l layX qeX4_wrap := am_met0 rfl (by decide +kernel) rfl rfl rfl rfl rfl (fun _ => rfl) rfl (qzX4_wrap l) (fun k e1 h => (qyX4_wrap l k e1 h).2) (fun as F A K h => by
  replace h : qsX4_wrap as F A K := h
  unfold qsX4_wrap at h
  split at h
  · rename_i o g c
    refine ⟨by first | exact Nat.le_of_ble_eq_true rfl | simp [am_fl, am_cat], ?_⟩
    replace h := am_cond2 h
    rcases h with ⟨hb, h⟩ | h
    · simp only [Bool.and_eq_true] at hb
      obtain ⟨hb0, hb1⟩ := hb
      have hb0 := am_bq hb0
      subst hb0
      have hb1 := am_bq hb1
      subst hb1
      exact am_way_body (qvX4_wrap_22_1 c F A K h)
    exact h.elim
  · exact h.elim)
