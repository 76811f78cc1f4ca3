def qkX6_prepare : Nat → Option CI := fun pc => cond (Nat.ble 40 pc) none (cond (Nat.ble 20 pc) (cond (Nat.ble 30 pc) (cond (Nat.ble 35 pc) (cond (Nat.beq pc 35) (some (.iload_n 2, 36, [])) (cond (Nat.beq pc 36) (some (.putfield 32, 39, [])) (cond (Nat.beq pc 39) (some (.return_, 40, [])) (none)))) (cond (Nat.beq pc 30) (some (.iload_n 1, 31, [])) (cond (Nat.beq pc 31) (some (.putfield 29, 34, [])) (cond (Nat.beq pc 34) (some (.aload_n 0, 35, [])) (none))))) (cond (Nat.ble 25 pc) (cond (Nat.beq pc 25) (some (.ishl, 26, [])) (cond (Nat.beq pc 26) (some (.putfield 26, 29, [])) (cond (Nat.beq pc 29) (some (.aload_n 0, 30, [])) (none)))) (cond (Nat.beq pc 20) (some (.iconst 1, 21, [])) (cond (Nat.beq pc 21) (some (.aload_n 0, 22, [])) (cond (Nat.beq pc 22) (some (.getfield 22, 25, [])) (none)))))) (cond (Nat.ble 8 pc) (cond (Nat.ble 15 pc) (cond (Nat.beq pc 15) (some (.iconst 0, 16, [])) (cond (Nat.beq pc 16) (some (.putfield 22, 19, [])) (cond (Nat.beq pc 19) (some (.aload_n 0, 20, [])) (none)))) (cond (Nat.beq pc 8) (some (.ifCond .eq 7, 11, [15])) (cond (Nat.beq pc 11) (some (.iload_n 3, 12, [])) (cond (Nat.beq pc 12) (some (.goto 4, 15, [16])) (none))))) (cond (Nat.ble 2 pc) (cond (Nat.beq pc 2) (some (.iconst 0, 3, [])) (cond (Nat.beq pc 3) (some (.bipush 6, 5, [])) (cond (Nat.beq pc 5) (some (.invokestatic 18, 8, [])) (none)))) (cond (Nat.beq pc 0) (some (.aload_n 0, 1, [])) (cond (Nat.beq pc 1) (some (.iload_n 3, 2, [])) (none))))))
theorem qkX6_prepare_ok : ∀ pc i nx ts, qkX6_prepare pc = some (i, nx, ts) → am_cok cX6_prepare pc (i, nx, ts) = true := fun pc i nx ts h => am_tok_ok (n := 40) (by decide +kernel) (fun pc h => by show cond (Nat.ble 40 pc) _ _ = _; rw [Nat.ble_eq_true_of_le h]; rfl) h
def qaX6_prepare : Nat → Option CE := fun k => cond (Nat.beq k 18) (some qeX8_isWithin) (none)
theorem qyX6_prepare (l : Launch) : ∀ k e1, qaX6_prepare k = some e1 → am_cal l layX RX6 4 k e1 ∧ ceT e1 = 0 := q_cons ⟨am_calN (host := "CurveMeetings") (qtX8_isWithin l) qbX8_isWithin (by decide) rfl rfl (am_tb_at 716 (by decide +kernel) rfl), rfl⟩ (q_nil)
def qxX6_prepare : CX := (qkX6_prepare, layX, qfX6, qaX6_prepare, qcX6, qlX6, qmX6, none, false, none, 0, none, fun _ => none)
theorem qzX6_prepare (l : Launch) : am_sta l qxX6_prepare RX6 4 cX6_prepare := ⟨qkX6_prepare_ok, layX_ok, qfX6_ok, qcX6_ok, qlX6_ok, am_mthP qmX6_ok (by decide), fun k e1 h => (qyX6_prepare l k e1 h).1⟩
def qsX6_prepare : SP := fun as F A K => match as with
  | [.inr (.inr o), .inl a, .inl b, .inl d] => cond (Nat.beq o 19) ((0 ≤ d ∧ d ≤ 6) ∧ (K (some none) (upF (upF (upF (upF F 19 3 d) 19 4 (p2 d)) 19 5 a) 19 6 b) A)) (False)
  | _ => False
def qeX6_prepare : CE := (yX6_prepare, cX6_prepare, 4, none, 3, some 6, 0, [], 0, 4, qsX6_prepare)
theorem qbX6_prepare : am_mb qeX6_prepare := ⟨am_tb_at 715 (by decide +kernel) rfl, am_tb_at 120 (by decide +kernel) rfl, ⟨by decide, by decide, by decide +kernel⟩, by decide, by decide, am_tb_at 714 (by decide +kernel) rfl, am_tb_at 28 (by decide +kernel) rfl, _, _, rfl⟩
set_option maxRecDepth 20000 in
theorem qvX6_prepare_19 (a : Int) (b : Int) (d : Int) (F : FF) (A : AA) (K : KK) (h : (0 ≤ d ∧ d ≤ 6) ∧ (K (some none) (upF (upF (upF (upF F 19 3 d) 19 4 (p2 d)) 19 5 a) 19 6 b) A)) : am_line qxX6_prepare 23 [vR 19, vI a, vI b, vI d] 4 F A K := by
  show am_stp qxX6_prepare (am_run qxX6_prepare (fun _ => none) (fun _ _ _ _ _ _ => False) K 23) K 0 [some (vR 19), some (vI a), some (vI b), some (vI d)] [] F A 0
  obtain ⟨hp, h⟩ := h
  show (w32 (bi (w32 0 ≤ w32 d ∧ w32 d ≤ w32 6)) = w32 0 → (K (some none) (upF (upF (upF (upF F 19 3 0) 19 4 (x_shl 1 0)) 19 5 a) 19 6 b) A)) ∧ (¬ w32 (bi (w32 0 ≤ w32 d ∧ w32 d ≤ w32 6)) = w32 0 → (K (some none) (upF (upF (upF (upF F 19 3 d) 19 4 (x_shl 1 d)) 19 5 a) 19 6 b) A))
  refine ⟨fun c1 => ?_, fun c1 => ?_⟩
  · skip
    try simp (disch := omega) only [w32_0, w64_0, wbi0, wbi1, yc_eq0, yc_lt0, yc_gt0, Classical.not_not, w32_id, w64_id] at c1
    exfalso; omega
  · skip
    try simp (disch := omega) only [w32_0, w64_0, wbi0, wbi1, yc_eq0, yc_lt0, yc_gt0, Classical.not_not, w32_id, w64_id] at c1
    rw [x_shl1 (k := d) (by omega) (by omega)]; exact h
theorem qtX6_prepare (l : Launch) : am_CT l layX qeX6_prepare := am_met0 rfl (by decide +kernel) rfl rfl rfl rfl rfl (fun _ => rfl) rfl (qzX6_prepare l) (fun k e1 h => (qyX6_prepare l k e1 h).2) (fun as F A K h => by
  replace h : qsX6_prepare as F A K := h
  unfold qsX6_prepare at h
  split at h
  · rename_i o a b d
    refine ⟨by first | exact Nat.le_of_ble_eq_true rfl | simp [am_fl, am_cat], ?_⟩
    replace h := am_cond2 h
    rcases h with ⟨hb, h⟩ | h
    · skip
      have hb0 := hb
      have hb0 := am_bq hb0
      subst hb0
      exact am_way_line (qvX6_prepare_19 a b d F A K h)
    exact h.elim
  · exact h.elim)
def qkX6_indexOf : Nat → Option CI := fun pc => cond (Nat.ble 47 pc) none (cond (Nat.ble 25 pc) (cond (Nat.ble 36 pc) (cond (Nat.ble 41 pc) (cond (Nat.ble 45 pc) (cond (Nat.beq pc 45) (some (.iconst (-1), 46, [])) (cond (Nat.beq pc 46) (some (.ireturn, 47, [])) (none))) (cond (Nat.beq pc 41) (some (.iadd, 42, [])) (cond (Nat.beq pc 42) (some (.goto 4, 45, [46])) (none)))) (cond (Nat.beq pc 36) (some (.getfield 26, 39, [])) (cond (Nat.beq pc 39) (some (.imul, 40, [])) (cond (Nat.beq pc 40) (some (.iload_n 2, 41, [])) (none))))) (cond (Nat.ble 30 pc) (cond (Nat.ble 34 pc) (cond (Nat.beq pc 34) (some (.iload_n 1, 35, [])) (cond (Nat.beq pc 35) (some (.aload_n 0, 36, [])) (none))) (cond (Nat.beq pc 30) (some (.iload_n 3, 31, [])) (cond (Nat.beq pc 31) (some (.ifCond .eq 14, 34, [45])) (none)))) (cond (Nat.beq pc 25) (some (.goto 4, 28, [29])) (cond (Nat.beq pc 28) (some (.iconst 0, 29, [])) (cond (Nat.beq pc 29) (some (.istore_n 3, 30, [])) (none)))))) (cond (Nat.ble 12 pc) (cond (Nat.ble 17 pc) (cond (Nat.ble 21 pc) (cond (Nat.beq pc 21) (some (.if_icmp .ge 7, 24, [28])) (cond (Nat.beq pc 24) (some (.iconst 1, 25, [])) (none))) (cond (Nat.beq pc 17) (some (.aload_n 0, 18, [])) (cond (Nat.beq pc 18) (some (.getfield 26, 21, [])) (none)))) (cond (Nat.beq pc 12) (some (.iload_n 2, 13, [])) (cond (Nat.beq pc 13) (some (.ifCond .lt 15, 16, [28])) (cond (Nat.beq pc 16) (some (.iload_n 2, 17, [])) (none))))) (cond (Nat.ble 5 pc) (cond (Nat.beq pc 5) (some (.aload_n 0, 6, [])) (cond (Nat.beq pc 6) (some (.getfield 26, 9, [])) (cond (Nat.beq pc 9) (some (.if_icmp .ge 19, 12, [28])) (none)))) (cond (Nat.beq pc 0) (some (.iload_n 1, 1, [])) (cond (Nat.beq pc 1) (some (.ifCond .lt 27, 4, [28])) (cond (Nat.beq pc 4) (some (.iload_n 1, 5, [])) (none)))))))
theorem qkX6_indexOf_ok : ∀ pc i nx ts, qkX6_indexOf pc = some (i, nx, ts) → am_cok cX6_indexOf pc (i, nx, ts) = true := fun pc i nx ts h => am_tok_ok (n := 47) (by decide +kernel) (fun pc h => by show cond (Nat.ble 47 pc) _ _ = _; rw [Nat.ble_eq_true_of_le h]; rfl) h
def qaX6_indexOf : Nat → Option CE := fun k => none
theorem qyX6_indexOf (l : Launch) : ∀ k e1, qaX6_indexOf k = some e1 → am_cal l layX RX6 3 k e1 ∧ ceT e1 = 0 := q_nil
def qxX6_indexOf : CX := (qkX6_indexOf, layX, qfX6, qaX6_indexOf, qcX6, qlX6, qmX6, (some .int), false, none, 0, none, fun _ => none)
theorem qzX6_indexOf (l : Launch) : am_sta l qxX6_indexOf RX6 3 cX6_indexOf := ⟨qkX6_indexOf_ok, layX_ok, qfX6_ok, qcX6_ok, qlX6_ok, am_mthP qmX6_ok (by decide), fun k e1 h => (qyX6_indexOf l k e1 h).1⟩
def qsX6_indexOf : SP := fun as F A K => match as with
  | [.inr (.inr o), .inl q, .inl r] => cond (Nat.beq o 19) (((1 ≤ (F 19 4) ∧ (F 19 4) ≤ 64) ∧ (-2147483648 ≤ q ∧ q < 2147483648) ∧ -2147483648 ≤ r ∧ r < 2147483648) ∧ (K (some (some (vI (if 0 ≤ q ∧ q < (F 19 4) ∧ 0 ≤ r ∧ r < (F 19 4) then q * (F 19 4) + r else -1)))) F A)) (False)
  | _ => False
def qeX6_indexOf : CE := (yX6_indexOf, cX6_indexOf, 4, (some .int), 2, some 6, 0, [], 0, 3, qsX6_indexOf)
theorem qbX6_indexOf : am_mb qeX6_indexOf := ⟨am_tb_at 1265 (by decide +kernel) rfl, am_tb_at 120 (by decide +kernel) rfl, ⟨by decide, by decide, by decide +kernel⟩, by decide, by decide, am_tb_at 1264 (by decide +kernel) rfl, am_tb_at 41 (by decide +kernel) rfl, _, _, rfl⟩
set_option maxRecDepth 20000 in
theorem qvX6_indexOf_19 (q : Int) (r : Int) (F : FF) (A : AA) (K : KK) (h : ((1 ≤ (F 19 4) ∧ (F 19 4) ≤ 64) ∧ (-2147483648 ≤ q ∧ q < 2147483648) ∧ -2147483648 ≤ r ∧ r < 2147483648) ∧ (K (some (some (vI (if 0 ≤ q ∧ q < (F 19 4) ∧ 0 ≤ r ∧ r < (F 19 4) then q * (F 19 4) + r else -1)))) F A)) : am_line qxX6_indexOf 26 [vR 19, vI q, vI r] 4 F A K := by
  show am_stp qxX6_indexOf (am_run qxX6_indexOf (fun _ => none) (fun _ _ _ _ _ _ => False) K 26) K 0 [some (vR 19), some (vI q), some (vI r), none] [] F A 0
  obtain ⟨hp, h⟩ := h
  show (w32 q < w32 0 → ((w32 0 = w32 0 → (K (some (some (vI (-1)))) F A)) ∧ (¬ w32 0 = w32 0 → _))) ∧ (¬ w32 q < w32 0 → ((w32 q < w32 (F 19 4) → ((w32 r < w32 0 → ((w32 0 = w32 0 → (K (some (some (vI (-1)))) F A)) ∧ (¬ w32 0 = w32 0 → _))) ∧ (¬ w32 r < w32 0 → ((w32 r < w32 (F 19 4) → ((w32 1 = w32 0 → _) ∧ (¬ w32 1 = w32 0 → (K (some (some (vI ((q * (F 19 4)) + r)))) F A)))) ∧ (¬ w32 r < w32 (F 19 4) → ((w32 0 = w32 0 → (K (some (some (vI (-1)))) F A)) ∧ (¬ w32 0 = w32 0 → _))))))) ∧ (¬ w32 q < w32 (F 19 4) → ((w32 0 = w32 0 → (K (some (some (vI (-1)))) F A)) ∧ (¬ w32 0 = w32 0 → _)))))
  refine ⟨fun c1 => ?_, fun c1 => ?_⟩
  · skip
    try simp (disch := omega) only [w32_0, w64_0, wbi0, wbi1, yc_eq0, yc_lt0, yc_gt0, Classical.not_not, w32_id, w64_id] at c1
    refine ⟨fun _ => ?_, fun q => absurd (by decide) q⟩
    first | exact K_eq h (if_pos ⟨by omega, by omega, by omega, by omega⟩) | exact K_eq h (if_neg (by omega))
  · skip
    try simp (disch := omega) only [w32_0, w64_0, wbi0, wbi1, yc_eq0, yc_lt0, yc_gt0, Classical.not_not, w32_id, w64_id] at c1
    refine ⟨fun c2 => ?_, fun c2 => ?_⟩
    · skip
      try simp (disch := omega) only [w32_0, w64_0, wbi0, wbi1, yc_eq0, yc_lt0, yc_gt0, Classical.not_not, w32_id, w64_id] at c2
      refine ⟨fun c3 => ?_, fun c3 => ?_⟩
      · skip
        try simp (disch := omega) only [w32_0, w64_0, wbi0, wbi1, yc_eq0, yc_lt0, yc_gt0, Classical.not_not, w32_id, w64_id] at c3
        refine ⟨fun _ => ?_, fun q => absurd (by decide) q⟩
        first | exact K_eq h (if_pos ⟨by omega, by omega, by omega, by omega⟩) | exact K_eq h (if_neg (by omega))
      · skip
        try simp (disch := omega) only [w32_0, w64_0, wbi0, wbi1, yc_eq0, yc_lt0, yc_gt0, Classical.not_not, w32_id, w64_id] at c3
        refine ⟨fun c4 => ?_, fun c4 => ?_⟩
        · skip
          try simp (disch := omega) only [w32_0, w64_0, wbi0, wbi1, yc_eq0, yc_lt0, yc_gt0, Classical.not_not, w32_id, w64_id] at c4
          refine ⟨fun q => absurd q (by decide), fun _ => ?_⟩
          first | exact K_eq h (if_pos ⟨by omega, by omega, by omega, by omega⟩) | exact K_eq h (if_neg (by omega))
        · skip
          try simp (disch := omega) only [w32_0, w64_0, wbi0, wbi1, yc_eq0, yc_lt0, yc_gt0, Classical.not_not, w32_id, w64_id] at c4
          refine ⟨fun _ => ?_, fun q => absurd (by decide) q⟩
          first | exact K_eq h (if_pos ⟨by omega, by omega, by omega, by omega⟩) | exact K_eq h (if_neg (by omega))
    · skip
      try simp (disch := omega) only [w32_0, w64_0, wbi0, wbi1, yc_eq0, yc_lt0, yc_gt0, Classical.not_not, w32_id, w64_id] at c2
      refine ⟨fun _ => ?_, fun q => absurd (by decide) q⟩
      first | exact K_eq h (if_pos ⟨by omega, by omega, by omega, by omega⟩) | exact K_eq h (if_neg (by omega))
theorem qtX6_indexOf (l : Launch) : am_CT l layX qeX6_indexOf := am_met0 rfl (by decide +kernel) rfl rfl rfl rfl rfl (fun _ => rfl) rfl (qzX6_indexOf l) (fun k e1 h => (qyX6_indexOf l k e1 h).2) (fun as F A K h => by
  replace h : qsX6_indexOf as F A K := h
  unfold qsX6_indexOf at h
  split at h
  · rename_i o q r
    refine ⟨by first | exact Nat.le_of_ble_eq_true rfl | simp [am_fl, am_cat], ?_⟩
    replace h := am_cond2 h
    rcases h with ⟨hb, h⟩ | h
    · skip
      have hb0 := hb
      have hb0 := am_bq hb0
      subst hb0
      exact am_way_line (qvX6_indexOf_19 q r F A K h)
    exact h.elim
  · exact h.elim)
def qkX6_at : Nat → Option CI := fun pc => cond (Nat.ble 25 pc) none (cond (Nat.ble 13 pc) (cond (Nat.ble 18 pc) (cond (Nat.ble 22 pc) (cond (Nat.beq pc 22) (some (.bipush (-2), 24, [])) (cond (Nat.beq pc 24) (some (.ireturn, 25, [])) (none))) (cond (Nat.beq pc 18) (some (.iaload, 19, [])) (cond (Nat.beq pc 19) (some (.goto 5, 22, [24])) (none)))) (cond (Nat.beq pc 13) (some (.aload_n 0, 14, [])) (cond (Nat.beq pc 14) (some (.getfield 11, 17, [])) (cond (Nat.beq pc 17) (some (.iload_n 1, 18, [])) (none))))) (cond (Nat.ble 5 pc) (cond (Nat.ble 9 pc) (cond (Nat.beq pc 9) (some (.arraylength, 10, [])) (cond (Nat.beq pc 10) (some (.if_icmp .ge 12, 13, [22])) (none))) (cond (Nat.beq pc 5) (some (.aload_n 0, 6, [])) (cond (Nat.beq pc 6) (some (.getfield 11, 9, [])) (none)))) (cond (Nat.beq pc 0) (some (.iload_n 1, 1, [])) (cond (Nat.beq pc 1) (some (.ifCond .lt 21, 4, [22])) (cond (Nat.beq pc 4) (some (.iload_n 1, 5, [])) (none))))))
theorem qkX6_at_ok : ∀ pc i nx ts, qkX6_at pc = some (i, nx, ts) → am_cok cX6_at pc (i, nx, ts) = true := fun pc i nx ts h => am_tok_ok (n := 25) (by decide +kernel) (fun pc h => by show cond (Nat.ble 25 pc) _ _ = _; rw [Nat.ble_eq_true_of_le h]; rfl) h
def qaX6_at : Nat → Option CE := fun k => none
theorem qyX6_at (l : Launch) : ∀ k e1, qaX6_at k = some e1 → am_cal l layX RX6 3 k e1 ∧ ceT e1 = 0 := q_nil
def qxX6_at : CX := (qkX6_at, layX, qfX6, qaX6_at, qcX6, qlX6, qmX6, (some .int), false, none, 0, none, fun _ => none)
theorem qzX6_at (l : Launch) : am_sta l qxX6_at RX6 3 cX6_at := ⟨qkX6_at_ok, layX_ok, qfX6_ok, qcX6_ok, qlX6_ok, am_mthP qmX6_ok (by decide), fun k e1 h => (qyX6_at l k e1 h).1⟩
def qsX6_at : SP := fun as F A K => match as with
  | [.inr (.inr o), .inl i] => cond (Nat.beq o 19) (K (some (some (vI (if 0 ≤ w32 i ∧ w32 i < 4096 then A 20 (w32 i) else -2)))) F A) (False)
  | _ => False
def qeX6_at : CE := (yX6_at, cX6_at, 2, (some .int), 1, some 6, 0, [], 0, 3, qsX6_at)
theorem qbX6_at : am_mb qeX6_at := ⟨am_tb_at 1277 (by decide +kernel) rfl, am_tb_at 120 (by decide +kernel) rfl, ⟨by decide, by decide, by decide +kernel⟩, by decide, by decide, am_tb_at 1276 (by decide +kernel) rfl, am_tb_at 43 (by decide +kernel) rfl, _, _, rfl⟩
set_option maxRecDepth 20000 in
theorem qvX6_at_19 (i : Int) (F : FF) (A : AA) (K : KK) (h : K (some (some (vI (if 0 ≤ w32 i ∧ w32 i < 4096 then A 20 (w32 i) else -2)))) F A) : am_line qxX6_at 14 [vR 19, vI i] 2 F A K := by
  show am_stp qxX6_at (am_run qxX6_at (fun _ => none) (fun _ _ _ _ _ _ => False) K 14) K 0 [some (vR 19), some (vI i)] [] F A 0
  show (w32 i < w32 0 → (K (some (some (vI (-2)))) F A)) ∧ (¬ w32 i < w32 0 → ((w32 i < w32 4096 → ((0 ≤ w32 i ∧ w32 i < 4096) ∧ (K (some (some (vI (A 20 (w32 i))))) F A))) ∧ (¬ w32 i < w32 4096 → (K (some (some (vI (-2)))) F A))))
  refine ⟨fun c1 => ?_, fun c1 => ?_⟩
  · skip
    try simp (disch := omega) only [w32_0, w64_0, wbi0, wbi1, yc_eq0, yc_lt0, yc_gt0, Classical.not_not, w32_id, w64_id] at c1
    first | exact K_eq h (if_pos ⟨by omega, by omega⟩) | exact K_eq h (if_neg (by omega))
  · skip
    try simp (disch := omega) only [w32_0, w64_0, wbi0, wbi1, yc_eq0, yc_lt0, yc_gt0, Classical.not_not, w32_id, w64_id] at c1
    refine ⟨fun c2 => ?_, fun c2 => ?_⟩
    · skip
      try simp (disch := omega) only [w32_0, w64_0, wbi0, wbi1, yc_eq0, yc_lt0, yc_gt0, Classical.not_not, w32_id, w64_id] at c2
      refine ⟨by first | omega | (simp (disch := omega) only [w32_0, w64_0, wbi0, wbi1, yc_eq0, yc_lt0, yc_gt0, Classical.not_not, w32_id, w64_id]; omega) | (simp (disch := omega) only [w32_0, w64_0, wbi0, wbi1, yc_eq0, yc_lt0, yc_gt0, Classical.not_not, w32_id, w64_id]; done), ?_⟩
      first | exact K_eq h (if_pos ⟨by omega, by omega⟩) | exact K_eq h (if_neg (by omega))
    · skip
      try simp (disch := omega) only [w32_0, w64_0, wbi0, wbi1, yc_eq0, yc_lt0, yc_gt0, Classical.not_not, w32_id, w64_id] at c2
      first | exact K_eq h (if_pos ⟨by omega, by omega⟩) | exact K_eq h (if_neg (by omega))
theorem qtX6_at (l : Launch) : am_CT l layX qeX6_at := am_met0 rfl (by decide +kernel) rfl rfl rfl rfl rfl (fun _ => rfl) rfl (qzX6_at l) (fun k e1 h => (qyX6_at l k e1 h).2) (fun as F A K h => by
  replace h : qsX6_at as F A K := h
  unfold qsX6_at at h
  split at h
  · rename_i o i
    refine ⟨by first | exact Nat.le_of_ble_eq_true rfl | simp [am_fl, am_cat], ?_⟩
    replace h := am_cond2 h
    rcases h with ⟨hb, h⟩ | h
    · skip
      have hb0 := hb
      have hb0 := am_bq hb0
      subst hb0
      exact am_way_line (qvX6_at_19 i F A K h)
    exact h.elim
  · exact h.elim)
def qkX6_put : Nat → Option CI := fun pc => cond (Nat.ble 21 pc) none (cond (Nat.ble 10 pc) (cond (Nat.ble 17 pc) (cond (Nat.ble 19 pc) (cond (Nat.beq pc 19) (some (.iastore, 20, [])) (cond (Nat.beq pc 20) (some (.return_, 21, [])) (none))) (cond (Nat.beq pc 17) (some (.iload_n 1, 18, [])) (cond (Nat.beq pc 18) (some (.iload_n 2, 19, [])) (none)))) (cond (Nat.beq pc 10) (some (.if_icmp .ge 10, 13, [20])) (cond (Nat.beq pc 13) (some (.aload_n 0, 14, [])) (cond (Nat.beq pc 14) (some (.getfield 11, 17, [])) (none))))) (cond (Nat.ble 5 pc) (cond (Nat.beq pc 5) (some (.aload_n 0, 6, [])) (cond (Nat.beq pc 6) (some (.getfield 11, 9, [])) (cond (Nat.beq pc 9) (some (.arraylength, 10, [])) (none)))) (cond (Nat.beq pc 0) (some (.iload_n 1, 1, [])) (cond (Nat.beq pc 1) (some (.ifCond .lt 19, 4, [20])) (cond (Nat.beq pc 4) (some (.iload_n 1, 5, [])) (none))))))
theorem qkX6_put_ok : ∀ pc i nx ts, qkX6_put pc = some (i, nx, ts) → am_cok cX6_put pc (i, nx, ts) = true := fun pc i nx ts h => am_tok_ok (n := 21) (by decide +kernel) (fun pc h => by show cond (Nat.ble 21 pc) _ _ = _; rw [Nat.ble_eq_true_of_le h]; rfl) h
def qaX6_put : Nat → Option CE := fun k => none
theorem qyX6_put (l : Launch) : ∀ k e1, qaX6_put k = some e1 → am_cal l layX RX6 3 k e1 ∧ ceT e1 = 0 := q_nil
def qxX6_put : CX := (qkX6_put, layX, qfX6, qaX6_put, qcX6, qlX6, qmX6, none, false, none, 0, none, fun _ => none)
theorem qzX6_put (l : Launch) : am_sta l qxX6_put RX6 3 cX6_put := ⟨qkX6_put_ok, layX_ok, qfX6_ok, qcX6_ok, qlX6_ok, am_mthP qmX6_ok (by decide), fun k e1 h => (qyX6_put l k e1 h).1⟩
def qsX6_put : SP := fun as F A K => match as with
  | [.inr (.inr o), .inl i, .inl v] => cond (Nat.beq o 19) ((0 ≤ i ∧ i < 4096) ∧ (K (some none) F (upA A 20 i v))) (False)
  | _ => False
def qeX6_put : CE := (yX6_put, cX6_put, 3, none, 2, some 6, 0, [], 0, 3, qsX6_put)
theorem qbX6_put : am_mb qeX6_put := ⟨am_tb_at 1269 (by decide +kernel) rfl, am_tb_at 120 (by decide +kernel) rfl, ⟨by decide, by decide, by decide +kernel⟩, by decide, by decide, am_tb_at 1268 (by decide +kernel) rfl, am_tb_at 42 (by decide +kernel) rfl, _, _, rfl⟩
set_option maxRecDepth 20000 in
theorem qvX6_put_19 (i : Int) (v : Int) (F : FF) (A : AA) (K : KK) (h : (0 ≤ i ∧ i < 4096) ∧ (K (some none) F (upA A 20 i v))) : am_line qxX6_put 14 [vR 19, vI i, vI v] 3 F A K := by
  show am_stp qxX6_put (am_run qxX6_put (fun _ => none) (fun _ _ _ _ _ _ => False) K 14) K 0 [some (vR 19), some (vI i), some (vI v)] [] F A 0
  obtain ⟨hp, h⟩ := h
  show (w32 i < w32 0 → (K (some none) F A)) ∧ (¬ w32 i < w32 0 → ((w32 i < w32 4096 → ((0 ≤ w32 i ∧ w32 i < 4096) ∧ (K (some none) F (upA A 20 (w32 i) v)))) ∧ (¬ w32 i < w32 4096 → (K (some none) F A))))
  refine ⟨fun c1 => ?_, fun c1 => ?_⟩
  · skip
    try simp (disch := omega) only [w32_0, w64_0, wbi0, wbi1, yc_eq0, yc_lt0, yc_gt0, Classical.not_not, w32_id, w64_id] at c1
    first | (exfalso; omega) | (simp (disch := omega) only [w32_id]; exact h)
  · skip
    try simp (disch := omega) only [w32_0, w64_0, wbi0, wbi1, yc_eq0, yc_lt0, yc_gt0, Classical.not_not, w32_id, w64_id] at c1
    refine ⟨fun c2 => ?_, fun c2 => ?_⟩
    · skip
      try simp (disch := omega) only [w32_0, w64_0, wbi0, wbi1, yc_eq0, yc_lt0, yc_gt0, Classical.not_not, w32_id, w64_id] at c2
      refine ⟨by first | omega | (simp (disch := omega) only [w32_0, w64_0, wbi0, wbi1, yc_eq0, yc_lt0, yc_gt0, Classical.not_not, w32_id, w64_id]; omega) | (simp (disch := omega) only [w32_0, w64_0, wbi0, wbi1, yc_eq0, yc_lt0, yc_gt0, Classical.not_not, w32_id, w64_id]; done), ?_⟩
      first | (exfalso; omega) | (simp (disch := omega) only [w32_id]; exact h)
    · skip
      try simp (disch := omega) only [w32_0, w64_0, wbi0, wbi1, yc_eq0, yc_lt0, yc_gt0, Classical.not_not, w32_id, w64_id] at c2
      first | (exfalso; omega) | (simp (disch := omega) only [w32_id]; exact h)
theorem qtX6_put (l : Launch) : am_CT l layX qeX6_put := am_met0 rfl (by decide +kernel) rfl rfl rfl rfl rfl (fun _ => rfl) rfl (qzX6_put l) (fun k e1 h => (qyX6_put l k e1 h).2) (fun as F A K h => by
  replace h : qsX6_put as F A K := h
  unfold qsX6_put at h
  split at h
  · rename_i o i v
    refine ⟨by first | exact Nat.le_of_ble_eq_true rfl | simp [am_fl, am_cat], ?_⟩
    replace h := am_cond2 h
    rcases h with ⟨hb, h⟩ | h
    · skip
      have hb0 := hb
      have hb0 := am_bq hb0
      subst hb0
      exact am_way_line (qvX6_put_19 i v F A K h)
    exact h.elim
  · exact h.elim)
def qkX6_markBelowR : Nat → Option CI := fun pc => cond (Nat.ble 123 pc) none (cond (Nat.ble 71 pc) (cond (Nat.ble 95 pc) (cond (Nat.ble 109 pc) (cond (Nat.ble 114 pc) (cond (Nat.ble 118 pc) (cond (Nat.beq pc 118) (some (.iadd, 119, [])) (cond (Nat.beq pc 119) (some (.invokestatic 45, 122, [])) (cond (Nat.beq pc 122) (some (.return_, 123, [])) (none)))) (cond (Nat.beq pc 114) (some (.iload 4, 116, [])) (cond (Nat.beq pc 116) (some (.imul, 117, [])) (cond (Nat.beq pc 117) (some (.iconst 1, 118, [])) (none))))) (cond (Nat.ble 111 pc) (cond (Nat.beq pc 111) (some (.iconst 1, 112, [])) (cond (Nat.beq pc 112) (some (.iadd, 113, [])) (cond (Nat.beq pc 113) (some (.iconst 2, 114, [])) (none)))) (cond (Nat.beq pc 109) (some (.iload_n 3, 110, [])) (cond (Nat.beq pc 110) (some (.imul, 111, [])) (none))))) (cond (Nat.ble 103 pc) (cond (Nat.ble 106 pc) (cond (Nat.beq pc 106) (some (.iconst 1, 107, [])) (cond (Nat.beq pc 107) (some (.iadd, 108, [])) (cond (Nat.beq pc 108) (some (.iconst 2, 109, [])) (none)))) (cond (Nat.beq pc 103) (some (.aload_n 0, 104, [])) (cond (Nat.beq pc 104) (some (.aload_n 1, 105, [])) (cond (Nat.beq pc 105) (some (.iload_n 2, 106, [])) (none))))) (cond (Nat.ble 97 pc) (cond (Nat.beq pc 97) (some (.iload 4, 99, [])) (cond (Nat.beq pc 99) (some (.imul, 100, [])) (cond (Nat.beq pc 100) (some (.invokestatic 45, 103, [])) (none)))) (cond (Nat.beq pc 95) (some (.iadd, 96, [])) (cond (Nat.beq pc 96) (some (.iconst 2, 97, [])) (none)))))) (cond (Nat.ble 82 pc) (cond (Nat.ble 89 pc) (cond (Nat.ble 92 pc) (cond (Nat.beq pc 92) (some (.iload_n 3, 93, [])) (cond (Nat.beq pc 93) (some (.imul, 94, [])) (cond (Nat.beq pc 94) (some (.iconst 1, 95, [])) (none)))) (cond (Nat.beq pc 89) (some (.iconst 1, 90, [])) (cond (Nat.beq pc 90) (some (.iadd, 91, [])) (cond (Nat.beq pc 91) (some (.iconst 2, 92, [])) (none))))) (cond (Nat.ble 86 pc) (cond (Nat.beq pc 86) (some (.aload_n 0, 87, [])) (cond (Nat.beq pc 87) (some (.aload_n 1, 88, [])) (cond (Nat.beq pc 88) (some (.iload_n 2, 89, [])) (none)))) (cond (Nat.beq pc 82) (some (.iadd, 83, [])) (cond (Nat.beq pc 83) (some (.invokestatic 45, 86, [])) (none))))) (cond (Nat.ble 76 pc) (cond (Nat.ble 78 pc) (cond (Nat.beq pc 78) (some (.iload 4, 80, [])) (cond (Nat.beq pc 80) (some (.imul, 81, [])) (cond (Nat.beq pc 81) (some (.iconst 1, 82, [])) (none)))) (cond (Nat.beq pc 76) (some (.imul, 77, [])) (cond (Nat.beq pc 77) (some (.iconst 2, 78, [])) (none)))) (cond (Nat.ble 73 pc) (cond (Nat.beq pc 73) (some (.iadd, 74, [])) (cond (Nat.beq pc 74) (some (.iconst 2, 75, [])) (cond (Nat.beq pc 75) (some (.iload_n 3, 76, [])) (none)))) (cond (Nat.beq pc 71) (some (.iload_n 2, 72, [])) (cond (Nat.beq pc 72) (some (.iconst 1, 73, [])) (none))))))) (cond (Nat.ble 41 pc) (cond (Nat.ble 57 pc) (cond (Nat.ble 62 pc) (cond (Nat.ble 66 pc) (cond (Nat.beq pc 66) (some (.invokestatic 45, 69, [])) (cond (Nat.beq pc 69) (some (.aload_n 0, 70, [])) (cond (Nat.beq pc 70) (some (.aload_n 1, 71, [])) (none)))) (cond (Nat.beq pc 62) (some (.iconst 2, 63, [])) (cond (Nat.beq pc 63) (some (.iload 4, 65, [])) (cond (Nat.beq pc 65) (some (.imul, 66, [])) (none))))) (cond (Nat.ble 59 pc) (cond (Nat.beq pc 59) (some (.iconst 2, 60, [])) (cond (Nat.beq pc 60) (some (.iload_n 3, 61, [])) (cond (Nat.beq pc 61) (some (.imul, 62, [])) (none)))) (cond (Nat.beq pc 57) (some (.iconst 1, 58, [])) (cond (Nat.beq pc 58) (some (.iadd, 59, [])) (none))))) (cond (Nat.ble 49 pc) (cond (Nat.ble 54 pc) (cond (Nat.beq pc 54) (some (.aload_n 0, 55, [])) (cond (Nat.beq pc 55) (some (.aload_n 1, 56, [])) (cond (Nat.beq pc 56) (some (.iload_n 2, 57, [])) (none)))) (cond (Nat.beq pc 49) (some (.iconst (-1), 50, [])) (cond (Nat.beq pc 50) (some (.invokevirtual 62, 53, [])) (cond (Nat.beq pc 53) (some (.return_, 54, [])) (none))))) (cond (Nat.ble 43 pc) (cond (Nat.beq pc 43) (some (.iload_n 3, 44, [])) (cond (Nat.beq pc 44) (some (.iload 4, 46, [])) (cond (Nat.beq pc 46) (some (.invokevirtual 59, 49, [])) (none)))) (cond (Nat.beq pc 41) (some (.aload_n 0, 42, [])) (cond (Nat.beq pc 42) (some (.aload_n 0, 43, [])) (none)))))) (cond (Nat.ble 17 pc) (cond (Nat.ble 28 pc) (cond (Nat.ble 35 pc) (cond (Nat.beq pc 35) (some (.iload_n 2, 36, [])) (cond (Nat.beq pc 36) (some (.bipush 6, 38, [])) (cond (Nat.beq pc 38) (some (.if_icmp .lt 16, 41, [54])) (none)))) (cond (Nat.beq pc 28) (some (.aload_n 0, 29, [])) (cond (Nat.beq pc 29) (some (.getfield 22, 32, [])) (cond (Nat.beq pc 32) (some (.if_icmp .ge 9, 35, [41])) (none))))) (cond (Nat.ble 23 pc) (cond (Nat.beq pc 23) (some (.ifCond .ne 4, 26, [27])) (cond (Nat.beq pc 26) (some (.return_, 27, [])) (cond (Nat.beq pc 27) (some (.iload_n 2, 28, [])) (none)))) (cond (Nat.beq pc 17) (some (.invokestatic 49, 20, [])) (cond (Nat.beq pc 20) (some (.invokevirtual 53, 23, [])) (none))))) (cond (Nat.ble 7 pc) (cond (Nat.ble 11 pc) (cond (Nat.beq pc 11) (some (.getfield 32, 14, [])) (cond (Nat.beq pc 14) (some (.iload_n 2, 15, [])) (cond (Nat.beq pc 15) (some (.iload 4, 17, [])) (none)))) (cond (Nat.beq pc 7) (some (.invokestatic 49, 10, [])) (cond (Nat.beq pc 10) (some (.aload_n 0, 11, [])) (none)))) (cond (Nat.ble 2 pc) (cond (Nat.beq pc 2) (some (.getfield 29, 5, [])) (cond (Nat.beq pc 5) (some (.iload_n 2, 6, [])) (cond (Nat.beq pc 6) (some (.iload_n 3, 7, [])) (none)))) (cond (Nat.beq pc 0) (some (.aload_n 1, 1, [])) (cond (Nat.beq pc 1) (some (.aload_n 0, 2, [])) (none))))))))
theorem qkX6_markBelowR_ok : ∀ pc i nx ts, qkX6_markBelowR pc = some (i, nx, ts) → am_cok cX6_markBelow pc (i, nx, ts) = true := fun pc i nx ts h => am_tok_ok (n := 123) (by decide +kernel) (fun pc h => by show cond (Nat.ble 123 pc) _ _ = _; rw [Nat.ble_eq_true_of_le h]; rfl) h
def qsX6_markBelowR (f : Nat) : SP := fun as F A K => match as with
  | [.inr (.inr g), .inr (.inr p), .inl l, .inl q, .inl r] => cond (Nat.beq g 19 && Nat.beq p 9) ((((0 ≤ (F 19 3) ∧ (F 19 3) ≤ 6) ∧ (F 19 4) = p2 ((F 19 3)) ∧ (0 ≤ (F 19 5) ∧ (F 19 5) < 8) ∧ (0 ≤ (F 19 6) ∧ (F 19 6) < 8) ∧ exR A ((F 19 5)) ((F 19 3)) ∧ exR A ((F 19 6)) ((F 19 3))) ∧ 0 ≤ l ∧ l ≤ (F 19 3) ∧ l + ((f : Nat) : Int) = 7 ∧ (0 ≤ q ∧ q < p2 l) ∧ 0 ≤ r ∧ r < p2 l) ∧ (∀ (B_1 : AA), (mk2 A B_1 ((F 19 4)) (prF (mtX A ((F 19 5)) ((F 19 6))) ((F 19 3)) f l q r)) → (K (some none) F B_1))) (False)
  | _ => False
def qeX6_markBelowR (f : Nat) : CE := (yX6_markBelow, cX6_markBelow, 5, none, 5, none, 0, [], 0, 7 + f, qsX6_markBelowR f)
theorem qbX6_markBelowR_0 : am_mb (yX6_markBelow, cX6_markBelow, 5, none, 5, none, 0, [], 0, 0, fun _ _ _ _ => True) := ⟨am_tb_at 1261 (by decide +kernel) rfl, am_tb_at 120 (by decide +kernel) rfl, ⟨by decide, by decide, by decide +kernel⟩, Nat.le_of_ble_eq_true rfl, am_tb_at 1260 (by decide +kernel) rfl⟩
theorem qbX6_markBelowR (f : Nat) : am_mb (qeX6_markBelowR f) := qbX6_markBelowR_0
def qaX6_markBelowR (f : Nat) : Nat → Option CE := fun k => cond (Nat.beq k 45) (some (qeX6_markBelowR f)) (cond (Nat.beq k 49) (some qeX8_nodeOf) (cond (Nat.beq k 53) (some qeX1_boxesMeet) (cond (Nat.beq k 59) (some qeX6_indexOf) (cond (Nat.beq k 62) (some qeX6_put) (none)))))
theorem qyX6_markBelowR (l : Launch) (f : Nat) (hf : am_CT l layX (qeX6_markBelowR f)) : ∀ k e1, qaX6_markBelowR f k = some e1 → am_cal l layX RX6 (7 + (f + 1)) k e1 ∧ ceT e1 = 0 := q_cons ⟨am_calS hf (qbX6_markBelowR f) (show 7 + f + 1 ≤ 7 + (f + 1) by omega) rfl (Or.inl rfl) (show Cond.methodLink RX6 45 yX6_markBelow ∈ am_tb from am_tb_at 1259 (by decide +kernel) rfl), rfl⟩ (q_cons ⟨am_calN (host := "CurveMeetings") (qtX8_nodeOf l) qbX8_nodeOf (show 3 + 1 ≤ 7 + (f + 1) by omega) rfl rfl (show Cond.methodLinkNest RX6 49 yX8_nodeOf "CurveMeetings" ∈ am_tb from am_tb_at 720 (by decide +kernel) rfl), rfl⟩ (q_cons ⟨am_calV (ci := 1) (qtX1_boxesMeet l) qbX1_boxesMeet (show 6 + 1 ≤ 7 + (f + 1) by omega) rfl (show Cond.methodLink RX6 53 yX1_boxesMeet ∈ am_tb from am_tb_at 721 (by decide +kernel) rfl), rfl⟩ (q_cons ⟨am_calV (ci := 6) (qtX6_indexOf l) qbX6_indexOf (show 3 + 1 ≤ 7 + (f + 1) by omega) rfl (show Cond.methodLink RX6 59 yX6_indexOf ∈ am_tb from am_tb_at 1262 (by decide +kernel) rfl), rfl⟩ (q_cons ⟨am_calV (ci := 6) (qtX6_put l) qbX6_put (show 3 + 1 ≤ 7 + (f + 1) by omega) rfl (show Cond.methodLink RX6 62 yX6_put ∈ am_tb from am_tb_at 1266 (by decide +kernel) rfl), rfl⟩ (q_nil)))))
def qxX6_markBelowR (f : Nat) : CX := (qkX6_markBelowR, layX, qfX6, qaX6_markBelowR f, qcX6, qlX6, qmX6, none, false, none, 0, none, fun _ => none)
theorem qzX6_markBelowR (l : Launch) (f : Nat) (hf : am_CT l layX (qeX6_markBelowR f)) : am_sta l (qxX6_markBelowR f) RX6 (7 + (f + 1)) cX6_markBelow := ⟨qkX6_markBelowR_ok, layX_ok, qfX6_ok, qcX6_ok, qlX6_ok, am_mthP qmX6_ok (by omega), fun k e1 h => (qyX6_markBelowR l f hf k e1 h).1⟩
set_option maxRecDepth 20000 in
theorem qvX6_markBelowR_19_9 (f : Nat) (l : Int) (q : Int) (r : Int) (F : FF) (A : AA) (K : KK) (h : (((0 ≤ (F 19 3) ∧ (F 19 3) ≤ 6) ∧ (F 19 4) = p2 ((F 19 3)) ∧ (0 ≤ (F 19 5) ∧ (F 19 5) < 8) ∧ (0 ≤ (F 19 6) ∧ (F 19 6) < 8) ∧ exR A ((F 19 5)) ((F 19 3)) ∧ exR A ((F 19 6)) ((F 19 3))) ∧ 0 ≤ l ∧ l ≤ (F 19 3) ∧ l + (((f + 1) : Nat) : Int) = 7 ∧ (0 ≤ q ∧ q < p2 l) ∧ 0 ≤ r ∧ r < p2 l) ∧ (∀ (B_1 : AA), (mk2 A B_1 ((F 19 4)) (prF (mtX A ((F 19 5)) ((F 19 6))) ((F 19 3)) (f + 1) l q r)) → (K (some none) F B_1))) : am_line (qxX6_markBelowR f) 78 [vR 19, vR 9, vI l, vI q, vI r] 5 F A K := by
  show am_stp (qxX6_markBelowR f) (am_run (qxX6_markBelowR f) (fun _ => none) (fun _ _ _ _ _ _ => False) K 78) K 0 [some (vR 19), some (vR 9), some (vI l), some (vI q), some (vI r)] [] F A 0
  obtain ⟨hp, h⟩ := h
  obtain ⟨⟨p1, p2', p3, p4, p5, p6⟩, q1, q2, q3, q4, q5⟩ := hp
  have hP : 1 ≤ p2 l ∧ p2 l ≤ p2 (F 19 3) := ⟨p2_pos, p2_le q2⟩
  have hQ : p2 (F 19 3) ≤ 64 := p2_le p1.2
  have hl : x_shl 1 l = p2 l := x_shl1 q1 (by omega)
  have hN : p2 l - 1 + q < 2 * p2 (F 19 3) - 1 ∧ p2 l - 1 + r < 2 * p2 (F 19 3) - 1 := by omega
  have hs : p2 (l + 1) = 2 * p2 l := p2_s q1
  have hb := ix_b (S := F 19 4) q4.1 (by rw [p2']; omega) q5.1 (by rw [p2']; omega)
  have hSS := sq64 (S := F 19 4) (by rw [p2']; omega) (by rw [p2']; omega)
  show ((0 ≤ (F 19 5) ∧ (F 19 5) < 8 ∧ 0 ≤ (x_shl 1 l - 1 + q) ∧ (x_shl 1 l - 1 + q) < 127) ∧ (0 ≤ (F 19 6) ∧ (F 19 6) < 8 ∧ 0 ≤ (x_shl 1 l - 1 + r) ∧ (x_shl 1 l - 1 + r) < 127) ∧ (∀ s, 0 ≤ s → s < 4 → 0 ≤ A 11 (((F 19 5) * 127 + (x_shl 1 l - 1 + q)) * 4 + s) ∧ A 11 (((F 19 5) * 127 + (x_shl 1 l - 1 + q)) * 4 + s) < 4) ∧ ∀ s, 0 ≤ s → s < 4 → 0 ≤ A 11 (((F 19 6) * 127 + (x_shl 1 l - 1 + r)) * 4 + s) ∧ A 11 (((F 19 6) * 127 + (x_shl 1 l - 1 + r)) * 4 + s) < 4) ∧ ((w32 (bc (meetP A (F 19 5) (x_shl 1 l - 1 + q) (F 19 6) (x_shl 1 l - 1 + r))) = w32 0 → (K (some none) F A)) ∧ (¬ w32 (bc (meetP A (F 19 5) (x_shl 1 l - 1 + q) (F 19 6) (x_shl 1 l - 1 + r))) = w32 0 → ((w32 l < w32 (F 19 3) → ((w32 l < w32 6 → ((((0 ≤ (F 19 3) ∧ (F 19 3) ≤ 6) ∧ (F 19 4) = p2 ((F 19 3)) ∧ (0 ≤ (F 19 5) ∧ (F 19 5) < 8) ∧ (0 ≤ (F 19 6) ∧ (F 19 6) < 8) ∧ exR A ((F 19 5)) ((F 19 3)) ∧ exR A ((F 19 6)) ((F 19 3))) ∧ 0 ≤ (l + 1) ∧ (l + 1) ≤ (F 19 3) ∧ (l + 1) + ((f : Nat) : Int) = 7 ∧ (0 ≤ (2 * q) ∧ (2 * q) < p2 (l + 1)) ∧ 0 ≤ (2 * r) ∧ (2 * r) < p2 (l + 1)) ∧ (∀ (B_1 : AA), (mk2 A B_1 ((F 19 4)) (prF (mtX A ((F 19 5)) ((F 19 6))) ((F 19 3)) f (l + 1) (2 * q) (2 * r))) → ((((0 ≤ (F 19 3) ∧ (F 19 3) ≤ 6) ∧ (F 19 4) = p2 ((F 19 3)) ∧ (0 ≤ (F 19 5) ∧ (F 19 5) < 8) ∧ (0 ≤ (F 19 6) ∧ (F 19 6) < 8) ∧ exR B_1 ((F 19 5)) ((F 19 3)) ∧ exR B_1 ((F 19 6)) ((F 19 3))) ∧ 0 ≤ (l + 1) ∧ (l + 1) ≤ (F 19 3) ∧ (l + 1) + ((f : Nat) : Int) = 7 ∧ (0 ≤ (2 * q) ∧ (2 * q) < p2 (l + 1)) ∧ 0 ≤ ((2 * r) + 1) ∧ ((2 * r) + 1) < p2 (l + 1)) ∧ (∀ (B_2 : AA), (mk2 B_1 B_2 ((F 19 4)) (prF (mtX B_1 ((F 19 5)) ((F 19 6))) ((F 19 3)) f (l + 1) (2 * q) ((2 * r) + 1))) → ((((0 ≤ (F 19 3) ∧ (F 19 3) ≤ 6) ∧ (F 19 4) = p2 ((F 19 3)) ∧ (0 ≤ (F 19 5) ∧ (F 19 5) < 8) ∧ (0 ≤ (F 19 6) ∧ (F 19 6) < 8) ∧ exR B_2 ((F 19 5)) ((F 19 3)) ∧ exR B_2 ((F 19 6)) ((F 19 3))) ∧ 0 ≤ (l + 1) ∧ (l + 1) ≤ (F 19 3) ∧ (l + 1) + ((f : Nat) : Int) = 7 ∧ (0 ≤ ((2 * q) + 1) ∧ ((2 * q) + 1) < p2 (l + 1)) ∧ 0 ≤ (2 * r) ∧ (2 * r) < p2 (l + 1)) ∧ (∀ (B_3 : AA), (mk2 B_2 B_3 ((F 19 4)) (prF (mtX B_2 ((F 19 5)) ((F 19 6))) ((F 19 3)) f (l + 1) ((2 * q) + 1) (2 * r))) → ((((0 ≤ (F 19 3) ∧ (F 19 3) ≤ 6) ∧ (F 19 4) = p2 ((F 19 3)) ∧ (0 ≤ (F 19 5) ∧ (F 19 5) < 8) ∧ (0 ≤ (F 19 6) ∧ (F 19 6) < 8) ∧ exR B_3 ((F 19 5)) ((F 19 3)) ∧ exR B_3 ((F 19 6)) ((F 19 3))) ∧ 0 ≤ (l + 1) ∧ (l + 1) ≤ (F 19 3) ∧ (l + 1) + ((f : Nat) : Int) = 7 ∧ (0 ≤ ((2 * q) + 1) ∧ ((2 * q) + 1) < p2 (l + 1)) ∧ 0 ≤ ((2 * r) + 1) ∧ ((2 * r) + 1) < p2 (l + 1)) ∧ (∀ (B_4 : AA), (mk2 B_3 B_4 ((F 19 4)) (prF (mtX B_3 ((F 19 5)) ((F 19 6))) ((F 19 3)) f (l + 1) ((2 * q) + 1) ((2 * r) + 1))) → (K (some none) F B_4)))))))))) ∧ (¬ w32 l < w32 6 → (((1 ≤ (F 19 4) ∧ (F 19 4) ≤ 64) ∧ (-2147483648 ≤ q ∧ q < 2147483648) ∧ -2147483648 ≤ r ∧ r < 2147483648) ∧ ((0 ≤ (if 0 ≤ q ∧ q < (F 19 4) ∧ 0 ≤ r ∧ r < (F 19 4) then q * (F 19 4) + r else -1) ∧ (if 0 ≤ q ∧ q < (F 19 4) ∧ 0 ≤ r ∧ r < (F 19 4) then q * (F 19 4) + r else -1) < 4096) ∧ (K (some none) F (upA A 20 (if 0 ≤ q ∧ q < (F 19 4) ∧ 0 ≤ r ∧ r < (F 19 4) then q * (F 19 4) + r else -1) (-1)))))))) ∧ (¬ w32 l < w32 (F 19 3) → (((1 ≤ (F 19 4) ∧ (F 19 4) ≤ 64) ∧ (-2147483648 ≤ q ∧ q < 2147483648) ∧ -2147483648 ≤ r ∧ r < 2147483648) ∧ ((0 ≤ (if 0 ≤ q ∧ q < (F 19 4) ∧ 0 ≤ r ∧ r < (F 19 4) then q * (F 19 4) + r else -1) ∧ (if 0 ≤ q ∧ q < (F 19 4) ∧ 0 ≤ r ∧ r < (F 19 4) then q * (F 19 4) + r else -1) < 4096) ∧ (K (some none) F (upA A 20 (if 0 ≤ q ∧ q < (F 19 4) ∧ 0 ≤ r ∧ r < (F 19 4) then q * (F 19 4) + r else -1) (-1)))))))))
  refine ⟨by (simp only [hl]; exact ⟨⟨by omega, by omega, by omega, by omega⟩, ⟨by omega, by omega, by omega, by omega⟩, fun s a0 a1 => p5 _ s (by omega) hN.1 a0 a1, fun s a0 a1 => p6 _ s (by omega) hN.2 a0 a1⟩), ?_⟩
  refine ⟨fun c1 => ?_, fun c1 => ?_⟩
  · skip
    (try simp only [hl, w32_0, wbc0, Classical.not_not] at c1); (try simp (disch := omega) only [w32_0, w32_id] at c1)
    exact h _ (mk2_id (prF_no (M := mtX A (F 19 5) (F 19 6)) c1))
  · skip
    (try simp only [hl, w32_0, wbc0, Classical.not_not] at c1); (try simp (disch := omega) only [w32_0, w32_id] at c1)
    refine ⟨fun c2 => ?_, fun c2 => ?_⟩
    · skip
      (try simp only [hl, w32_0, wbc0, Classical.not_not] at c2); (try simp (disch := omega) only [w32_0, w32_id] at c2)
      refine ⟨fun c3 => ?_, fun c3 => ?_⟩
      · skip
        (try simp only [hl, w32_0, wbc0, Classical.not_not] at c3); (try simp (disch := omega) only [w32_0, w32_id] at c3)
        refine ⟨by (exact ⟨⟨p1, p2', p3, p4, exR_c rfl p5, exR_c rfl p6⟩, by omega, by omega, by omega, ⟨by omega, by omega⟩, by omega, by omega⟩), ?_⟩
        intro B_1 g1
        have v1 := mk2_rows g1
        refine ⟨by (exact ⟨⟨p1, p2', p3, p4, exR_c v1.2 p5, exR_c v1.2 p6⟩, by omega, by omega, by omega, ⟨by omega, by omega⟩, by omega, by omega⟩), ?_⟩
        intro B_2 g2
        rw [mtX_c v1.1 v1.2] at g2
        have w2 := mk2_rows g2
        have v2 := And.intro (w2.1.trans v1.1) (w2.2.trans v1.2)
        refine ⟨by (exact ⟨⟨p1, p2', p3, p4, exR_c v2.2 p5, exR_c v2.2 p6⟩, by omega, by omega, by omega, ⟨by omega, by omega⟩, by omega, by omega⟩), ?_⟩
        intro B_3 g3
        rw [mtX_c v2.1 v2.2] at g3
        have w3 := mk2_rows g3
        have v3 := And.intro (w3.1.trans v2.1) (w3.2.trans v2.2)
        refine ⟨by (exact ⟨⟨p1, p2', p3, p4, exR_c v3.2 p5, exR_c v3.2 p6⟩, by omega, by omega, by omega, ⟨by omega, by omega⟩, by omega, by omega⟩), ?_⟩
        intro B_4 g4
        rw [mtX_c v3.1 v3.2] at g4
        exact h _ (mk2_c (mk2_trans g1 (mk2_trans g2 (mk2_trans g3 g4))) (fun i j => (prF_kids (M := mtX A (F 19 5) (F 19 6)) c1 (by omega) i j).symm))
      · skip
        (try simp only [hl, w32_0, wbc0, Classical.not_not] at c3); (try simp (disch := omega) only [w32_0, w32_id] at c3)
        refine ⟨by (rw [p2']; omega), ?_⟩
        refine ⟨by (exfalso; omega), ?_⟩
        exfalso; omega
    · skip
      (try simp only [hl, w32_0, wbc0, Classical.not_not] at c2); (try simp (disch := omega) only [w32_0, w32_id] at c2)
      refine ⟨by (rw [p2']; omega), ?_⟩
      refine ⟨by (rw [if_pos (show 0 ≤ q ∧ q < F 19 4 ∧ 0 ≤ r ∧ r < F 19 4 by rw [p2']; omega)]; omega), ?_⟩
      rw [if_pos (show 0 ≤ q ∧ q < F 19 4 ∧ 0 ≤ r ∧ r < F 19 4 by rw [p2']; omega)]
      exact h _ (mk2_put q4.1 (by rw [p2']; omega) q5.1 (by rw [p2']; omega) (prF_leaf (M := mtX A (F 19 5) (F 19 6)) c1 (by omega)))
theorem qtX6_markBelowR (l : Launch) : ∀ f : Nat, am_CT l layX (qeX6_markBelowR f)
  | 0 => by
    intro layW hpre D al kC as F A K sz h
    exfalso
    replace h : qsX6_markBelowR 0 as F A K := h
    unfold qsX6_markBelowR at h
    split at h
    · rename_i g p l q r
      replace h := am_cond2 h
      rcases h with ⟨hb, h⟩ | h
      · omega
      exact h
    · exact h
  | f + 1 => am_met0 (x := qxX6_markBelowR f) rfl (show plainName yX6_markBelow.cls = true by decide +kernel) rfl rfl rfl rfl rfl (fun _ => rfl) rfl (qzX6_markBelowR l f (qtX6_markBelowR l f)) (fun k e1 h => (qyX6_markBelowR l f (qtX6_markBelowR l f) k e1 h).2) (fun as F A K h => by
    replace h : qsX6_markBelowR (f + 1) as F A K := h
    unfold qsX6_markBelowR at h
    split at h
    · rename_i g p l q r
      refine ⟨by first | exact Nat.le_of_ble_eq_true rfl | simp [am_fl, am_cat], ?_⟩
      replace h := am_cond2 h
      rcases h with ⟨hb, h⟩ | h
      · simp only [Bool.and_eq_true] at hb
        obtain ⟨hb0, hb1⟩ := hb
        have hb0 := am_bq hb0
        subst hb0
        have hb1 := am_bq hb1
        subst hb1
        exact am_way_line (qvX6_markBelowR_19_9 f l q r F A K h)
      exact h.elim
    · exact h.elim)
def qeX6_markBelow : CE := qeX6_markBelowR 7
theorem qbX6_markBelow : am_mb qeX6_markBelow := qbX6_markBelowR 7
theorem qtX6_markBelow (l : Launch) : am_CT l layX qeX6_markBelow := qtX6_markBelowR l 7
def qkX6_mark : Nat → Option CI := fun pc => cond (Nat.ble 26 pc) none (cond (Nat.ble 14 pc) (cond (Nat.ble 20 pc) (cond (Nat.ble 22 pc) (cond (Nat.beq pc 22) (some (.invokestatic 45, 25, [])) (cond (Nat.beq pc 25) (some (.return_, 26, [])) (none))) (cond (Nat.beq pc 20) (some (.iconst 0, 21, [])) (cond (Nat.beq pc 21) (some (.iconst 0, 22, [])) (none)))) (cond (Nat.ble 18 pc) (cond (Nat.beq pc 18) (some (.aload_n 1, 19, [])) (cond (Nat.beq pc 19) (some (.iconst 0, 20, [])) (none))) (cond (Nat.beq pc 14) (some (.invokestatic 39, 17, [])) (cond (Nat.beq pc 17) (some (.aload_n 0, 18, [])) (none))))) (cond (Nat.ble 5 pc) (cond (Nat.ble 9 pc) (cond (Nat.beq pc 9) (some (.getfield 11, 12, [])) (cond (Nat.beq pc 12) (some (.bipush (-2), 14, [])) (none))) (cond (Nat.beq pc 5) (some (.invokevirtual 35, 8, [])) (cond (Nat.beq pc 8) (some (.aload_n 0, 9, [])) (none)))) (cond (Nat.ble 2 pc) (cond (Nat.beq pc 2) (some (.iload_n 3, 3, [])) (cond (Nat.beq pc 3) (some (.iload 4, 5, [])) (none))) (cond (Nat.beq pc 0) (some (.aload_n 0, 1, [])) (cond (Nat.beq pc 1) (some (.iload_n 2, 2, [])) (none))))))
theorem qkX6_mark_ok : ∀ pc i nx ts, qkX6_mark pc = some (i, nx, ts) → am_cok cX6_mark pc (i, nx, ts) = true := fun pc i nx ts h => am_tok_ok (n := 26) (by decide +kernel) (fun pc h => by show cond (Nat.ble 26 pc) _ _ = _; rw [Nat.ble_eq_true_of_le h]; rfl) h
def qaX6_mark : Nat → Option CE := fun k => cond (Nat.beq k 35) (some qeX6_prepare) (cond (Nat.beq k 39) (some qeJ7_fill_53178) (cond (Nat.beq k 45) (some qeX6_markBelow) (none)))
theorem qyX6_mark (l : Launch) : ∀ k e1, qaX6_mark k = some e1 → am_cal l layX RX6 15 k e1 ∧ ceT e1 = 0 := q_cons ⟨am_calV (ci := 6) (qtX6_prepare l) qbX6_prepare (by decide) rfl (am_tb_at 712 (by decide +kernel) rfl), rfl⟩ (q_cons ⟨am_calS (qtJ7_fill_53178 l) qbJ7_fill_53178 (by decide) rfl (by decide) (am_tb_at 1258 (by decide +kernel) rfl), rfl⟩ (q_cons ⟨am_calS (qtX6_markBelow l) qbX6_markBelow (by decide) rfl (by decide) (am_tb_at 1259 (by decide +kernel) rfl), rfl⟩ (q_nil)))
def qxX6_mark : CX := (qkX6_mark, layX, qfX6, qaX6_mark, qcX6, qlX6, qmX6, none, false, none, 0, none, fun _ => none)
theorem qzX6_mark (l : Launch) : am_sta l qxX6_mark RX6 15 cX6_mark := ⟨qkX6_mark_ok, layX_ok, qfX6_ok, qcX6_ok, qlX6_ok, am_mthP qmX6_ok (by decide), fun k e1 h => (qyX6_mark l k e1 h).1⟩
def qsX6_mark : SP := fun as F A K => match as with
  | [.inr (.inr o), .inr (.inr p), .inl a, .inl b, .inl d] => cond (Nat.beq o 19 && Nat.beq p 9) (((0 ≤ d ∧ d ≤ 6) ∧ (0 ≤ a ∧ a < 8) ∧ (0 ≤ b ∧ b < 8) ∧ exR A a d ∧ exR A b d) ∧ (∀ (G_1 : FF) (B_1 : AA), (G_1 = upF (upF (upF (upF F 19 3 d) 19 4 (p2 d)) 19 5 a) 19 6 b ∧ mk2 (fillA A 20 4096 (-2)) B_1 (p2 d) (prF (mtX A a b) d 7 0 0 0)) → (K (some none) G_1 B_1))) (False)
  | _ => False
def qeX6_mark : CE := (yX6_mark, cX6_mark, 5, none, 4, some 6, 0, [], 0, 15, qsX6_mark)
theorem qbX6_mark : am_mb qeX6_mark := ⟨am_tb_at 1257 (by decide +kernel) rfl, am_tb_at 120 (by decide +kernel) rfl, ⟨by decide, by decide, by decide +kernel⟩, by decide, by decide, am_tb_at 1255 (by decide +kernel) rfl, am_tb_at 1256 (by decide +kernel) rfl, _, _, rfl⟩
set_option maxRecDepth 20000 in
theorem qvX6_mark_19_9 (a : Int) (b : Int) (d : Int) (F : FF) (A : AA) (K : KK) (h : ((0 ≤ d ∧ d ≤ 6) ∧ (0 ≤ a ∧ a < 8) ∧ (0 ≤ b ∧ b < 8) ∧ exR A a d ∧ exR A b d) ∧ (∀ (G_1 : FF) (B_1 : AA), (G_1 = upF (upF (upF (upF F 19 3 d) 19 4 (p2 d)) 19 5 a) 19 6 b ∧ mk2 (fillA A 20 4096 (-2)) B_1 (p2 d) (prF (mtX A a b) d 7 0 0 0)) → (K (some none) G_1 B_1))) : am_line qxX6_mark 17 [vR 19, vR 9, vI a, vI b, vI d] 5 F A K := by
  show am_stp qxX6_mark (am_run qxX6_mark (fun _ => none) (fun _ _ _ _ _ _ => False) K 17) K 0 [some (vR 19), some (vR 9), some (vI a), some (vI b), some (vI d)] [] F A 0
  obtain ⟨hp, h⟩ := h
  obtain ⟨p1, p2', p3, p4, p5⟩ := hp
  have ef : fillA A 20 4096 (-2) 11 = A 11 := by funext i; unfold fillA; exact if_neg (by omega)
  have eg : fillA A 20 4096 (-2) 10 = A 10 := by funext i; unfold fillA; exact if_neg (by omega)
  show (0 ≤ d ∧ d ≤ 6) ∧ ((((0 ≤ d ∧ d ≤ 6) ∧ (p2 d) = p2 (d) ∧ (0 ≤ a ∧ a < 8) ∧ (0 ≤ b ∧ b < 8) ∧ exR (fillA A 20 4096 (-2)) (a) (d) ∧ exR (fillA A 20 4096 (-2)) (b) (d)) ∧ 0 ≤ 0 ∧ 0 ≤ d ∧ 0 + ((7 : Nat) : Int) = 7 ∧ (0 ≤ 0 ∧ 0 < p2 0) ∧ 0 ≤ 0 ∧ 0 < p2 0) ∧ (∀ (B_1 : AA), (mk2 (fillA A 20 4096 (-2)) B_1 ((p2 d)) (prF (mtX (fillA A 20 4096 (-2)) (a) (b)) (d) 7 0 0 0)) → (K (some none) (upF (upF (upF (upF F 19 3 d) 19 4 (p2 d)) 19 5 a) 19 6 b) B_1)))
  refine ⟨by first | omega | (simp only [upF_s, upF_o (show (19 : Nat) ≠ 19 ∨ (3 : Nat) ≠ 4 by decide), upF_o (show (19 : Nat) ≠ 19 ∨ (3 : Nat) ≠ 5 by decide), upF_o (show (19 : Nat) ≠ 19 ∨ (3 : Nat) ≠ 6 by decide), upF_o (show (19 : Nat) ≠ 19 ∨ (4 : Nat) ≠ 3 by decide), upF_o (show (19 : Nat) ≠ 19 ∨ (4 : Nat) ≠ 5 by decide), upF_o (show (19 : Nat) ≠ 19 ∨ (4 : Nat) ≠ 6 by decide), upF_o (show (19 : Nat) ≠ 19 ∨ (5 : Nat) ≠ 3 by decide), upF_o (show (19 : Nat) ≠ 19 ∨ (5 : Nat) ≠ 4 by decide), upF_o (show (19 : Nat) ≠ 19 ∨ (5 : Nat) ≠ 6 by decide), upF_o (show (19 : Nat) ≠ 19 ∨ (6 : Nat) ≠ 3 by decide), upF_o (show (19 : Nat) ≠ 19 ∨ (6 : Nat) ≠ 4 by decide), upF_o (show (19 : Nat) ≠ 19 ∨ (6 : Nat) ≠ 5 by decide)]; exact ⟨⟨p1, trivial, p2', p3, exR_c ef p4, exR_c ef p5⟩, by omega, by omega, by omega, ⟨by omega, by decide⟩, by omega, by decide⟩), ?_⟩
  refine ⟨by first | omega | (simp only [upF_s, upF_o (show (19 : Nat) ≠ 19 ∨ (3 : Nat) ≠ 4 by decide), upF_o (show (19 : Nat) ≠ 19 ∨ (3 : Nat) ≠ 5 by decide), upF_o (show (19 : Nat) ≠ 19 ∨ (3 : Nat) ≠ 6 by decide), upF_o (show (19 : Nat) ≠ 19 ∨ (4 : Nat) ≠ 3 by decide), upF_o (show (19 : Nat) ≠ 19 ∨ (4 : Nat) ≠ 5 by decide), upF_o (show (19 : Nat) ≠ 19 ∨ (4 : Nat) ≠ 6 by decide), upF_o (show (19 : Nat) ≠ 19 ∨ (5 : Nat) ≠ 3 by decide), upF_o (show (19 : Nat) ≠ 19 ∨ (5 : Nat) ≠ 4 by decide), upF_o (show (19 : Nat) ≠ 19 ∨ (5 : Nat) ≠ 6 by decide), upF_o (show (19 : Nat) ≠ 19 ∨ (6 : Nat) ≠ 3 by decide), upF_o (show (19 : Nat) ≠ 19 ∨ (6 : Nat) ≠ 4 by decide), upF_o (show (19 : Nat) ≠ 19 ∨ (6 : Nat) ≠ 5 by decide)]; exact ⟨⟨p1, trivial, p2', p3, exR_c ef p4, exR_c ef p5⟩, by omega, by omega, by omega, ⟨by omega, by decide⟩, by omega, by decide⟩), ?_⟩
  intro B_1 g1
  try simp only [upF_s, upF_o (show (19 : Nat) ≠ 19 ∨ (3 : Nat) ≠ 4 by decide), upF_o (show (19 : Nat) ≠ 19 ∨ (3 : Nat) ≠ 5 by decide), upF_o (show (19 : Nat) ≠ 19 ∨ (3 : Nat) ≠ 6 by decide), upF_o (show (19 : Nat) ≠ 19 ∨ (4 : Nat) ≠ 3 by decide), upF_o (show (19 : Nat) ≠ 19 ∨ (4 : Nat) ≠ 5 by decide), upF_o (show (19 : Nat) ≠ 19 ∨ (4 : Nat) ≠ 6 by decide), upF_o (show (19 : Nat) ≠ 19 ∨ (5 : Nat) ≠ 3 by decide), upF_o (show (19 : Nat) ≠ 19 ∨ (5 : Nat) ≠ 4 by decide), upF_o (show (19 : Nat) ≠ 19 ∨ (5 : Nat) ≠ 6 by decide), upF_o (show (19 : Nat) ≠ 19 ∨ (6 : Nat) ≠ 3 by decide), upF_o (show (19 : Nat) ≠ 19 ∨ (6 : Nat) ≠ 4 by decide), upF_o (show (19 : Nat) ≠ 19 ∨ (6 : Nat) ≠ 5 by decide)] at g1
  rw [mtX_c eg ef] at g1
  exact h _ _ ⟨rfl, g1⟩
theorem qtX6_mark (l : Launch) : am_CT l layX qeX6_mark := am_met0 rfl (by decide +kernel) rfl rfl rfl rfl rfl (fun _ => rfl) rfl (qzX6_mark l) (fun k e1 h => (qyX6_mark l k e1 h).2) (fun as F A K h => by
  replace h : qsX6_mark as F A K := h
  unfold qsX6_mark at h
  split at h
  · rename_i o p a b d
    refine ⟨by first | exact Nat.le_of_ble_eq_true rfl | simp [am_fl, am_cat], ?_⟩
    replace h := am_cond2 h
    rcases h with ⟨hb, h⟩ | h
    · simp only [Bool.and_eq_true] at hb
      obtain ⟨hb0, hb1⟩ := hb
      have hb0 := am_bq hb0
      subst hb0
      have hb1 := am_bq hb1
      subst hb1
      exact am_way_line (qvX6_mark_19_9 a b d F A K h)
    exact h.elim
  · exact h.elim)
def qkX6_hasAnyBelowR : Nat → Option CI := fun pc => cond (Nat.ble 130 pc) none (cond (Nat.ble 69 pc) (cond (Nat.ble 99 pc) (cond (Nat.ble 112 pc) (cond (Nat.ble 118 pc) (cond (Nat.ble 125 pc) (cond (Nat.beq pc 125) (some (.goto 4, 128, [129])) (cond (Nat.beq pc 128) (some (.iconst 0, 129, [])) (cond (Nat.beq pc 129) (some (.ireturn, 130, [])) (none)))) (cond (Nat.beq pc 118) (some (.invokestatic 66, 121, [])) (cond (Nat.beq pc 121) (some (.ifCond .eq 7, 124, [128])) (cond (Nat.beq pc 124) (some (.iconst 1, 125, [])) (none))))) (cond (Nat.ble 115 pc) (cond (Nat.beq pc 115) (some (.imul, 116, [])) (cond (Nat.beq pc 116) (some (.iconst 1, 117, [])) (cond (Nat.beq pc 117) (some (.iadd, 118, [])) (none)))) (cond (Nat.beq pc 112) (some (.iconst 2, 113, [])) (cond (Nat.beq pc 113) (some (.iload 4, 115, [])) (none))))) (cond (Nat.ble 106 pc) (cond (Nat.ble 109 pc) (cond (Nat.beq pc 109) (some (.imul, 110, [])) (cond (Nat.beq pc 110) (some (.iconst 1, 111, [])) (cond (Nat.beq pc 111) (some (.iadd, 112, [])) (none)))) (cond (Nat.beq pc 106) (some (.iadd, 107, [])) (cond (Nat.beq pc 107) (some (.iconst 2, 108, [])) (cond (Nat.beq pc 108) (some (.iload_n 3, 109, [])) (none))))) (cond (Nat.ble 103 pc) (cond (Nat.beq pc 103) (some (.aload_n 1, 104, [])) (cond (Nat.beq pc 104) (some (.iload_n 2, 105, [])) (cond (Nat.beq pc 105) (some (.iconst 1, 106, [])) (none)))) (cond (Nat.beq pc 99) (some (.ifCond .ne 25, 102, [124])) (cond (Nat.beq pc 102) (some (.aload_n 0, 103, [])) (none)))))) (cond (Nat.ble 85 pc) (cond (Nat.ble 90 pc) (cond (Nat.ble 93 pc) (cond (Nat.beq pc 93) (some (.iload 4, 95, [])) (cond (Nat.beq pc 95) (some (.imul, 96, [])) (cond (Nat.beq pc 96) (some (.invokestatic 66, 99, [])) (none)))) (cond (Nat.beq pc 90) (some (.iconst 1, 91, [])) (cond (Nat.beq pc 91) (some (.iadd, 92, [])) (cond (Nat.beq pc 92) (some (.iconst 2, 93, [])) (none))))) (cond (Nat.ble 87 pc) (cond (Nat.beq pc 87) (some (.iconst 2, 88, [])) (cond (Nat.beq pc 88) (some (.iload_n 3, 89, [])) (cond (Nat.beq pc 89) (some (.imul, 90, [])) (none)))) (cond (Nat.beq pc 85) (some (.iconst 1, 86, [])) (cond (Nat.beq pc 86) (some (.iadd, 87, [])) (none))))) (cond (Nat.ble 75 pc) (cond (Nat.ble 82 pc) (cond (Nat.beq pc 82) (some (.aload_n 0, 83, [])) (cond (Nat.beq pc 83) (some (.aload_n 1, 84, [])) (cond (Nat.beq pc 84) (some (.iload_n 2, 85, [])) (none)))) (cond (Nat.beq pc 75) (some (.iadd, 76, [])) (cond (Nat.beq pc 76) (some (.invokestatic 66, 79, [])) (cond (Nat.beq pc 79) (some (.ifCond .ne 45, 82, [124])) (none))))) (cond (Nat.ble 71 pc) (cond (Nat.beq pc 71) (some (.iload 4, 73, [])) (cond (Nat.beq pc 73) (some (.imul, 74, [])) (cond (Nat.beq pc 74) (some (.iconst 1, 75, [])) (none)))) (cond (Nat.beq pc 69) (some (.imul, 70, [])) (cond (Nat.beq pc 70) (some (.iconst 2, 71, [])) (none))))))) (cond (Nat.ble 42 pc) (cond (Nat.ble 53 pc) (cond (Nat.ble 63 pc) (cond (Nat.ble 66 pc) (cond (Nat.beq pc 66) (some (.iadd, 67, [])) (cond (Nat.beq pc 67) (some (.iconst 2, 68, [])) (cond (Nat.beq pc 68) (some (.iload_n 3, 69, [])) (none)))) (cond (Nat.beq pc 63) (some (.aload_n 1, 64, [])) (cond (Nat.beq pc 64) (some (.iload_n 2, 65, [])) (cond (Nat.beq pc 65) (some (.iconst 1, 66, [])) (none))))) (cond (Nat.ble 56 pc) (cond (Nat.beq pc 56) (some (.invokestatic 66, 59, [])) (cond (Nat.beq pc 59) (some (.ifCond .ne 65, 62, [124])) (cond (Nat.beq pc 62) (some (.aload_n 0, 63, [])) (none)))) (cond (Nat.beq pc 53) (some (.iload 4, 55, [])) (cond (Nat.beq pc 55) (some (.imul, 56, [])) (none))))) (cond (Nat.ble 47 pc) (cond (Nat.ble 50 pc) (cond (Nat.beq pc 50) (some (.iload_n 3, 51, [])) (cond (Nat.beq pc 51) (some (.imul, 52, [])) (cond (Nat.beq pc 52) (some (.iconst 2, 53, [])) (none)))) (cond (Nat.beq pc 47) (some (.iconst 1, 48, [])) (cond (Nat.beq pc 48) (some (.iadd, 49, [])) (cond (Nat.beq pc 49) (some (.iconst 2, 50, [])) (none))))) (cond (Nat.ble 44 pc) (cond (Nat.beq pc 44) (some (.aload_n 0, 45, [])) (cond (Nat.beq pc 45) (some (.aload_n 1, 46, [])) (cond (Nat.beq pc 46) (some (.iload_n 2, 47, [])) (none)))) (cond (Nat.beq pc 42) (some (.iconst 1, 43, [])) (cond (Nat.beq pc 43) (some (.ireturn, 44, [])) (none)))))) (cond (Nat.ble 20 pc) (cond (Nat.ble 29 pc) (cond (Nat.ble 36 pc) (cond (Nat.beq pc 36) (some (.iload_n 2, 37, [])) (cond (Nat.beq pc 37) (some (.bipush 6, 39, [])) (cond (Nat.beq pc 39) (some (.if_icmp .lt 5, 42, [44])) (none)))) (cond (Nat.beq pc 29) (some (.aload_n 0, 30, [])) (cond (Nat.beq pc 30) (some (.getfield 22, 33, [])) (cond (Nat.beq pc 33) (some (.if_icmp .ge 9, 36, [42])) (none))))) (cond (Nat.ble 26 pc) (cond (Nat.beq pc 26) (some (.iconst 0, 27, [])) (cond (Nat.beq pc 27) (some (.ireturn, 28, [])) (cond (Nat.beq pc 28) (some (.iload_n 2, 29, [])) (none)))) (cond (Nat.beq pc 20) (some (.invokevirtual 53, 23, [])) (cond (Nat.beq pc 23) (some (.ifCond .ne 5, 26, [28])) (none))))) (cond (Nat.ble 7 pc) (cond (Nat.ble 14 pc) (cond (Nat.beq pc 14) (some (.iload_n 2, 15, [])) (cond (Nat.beq pc 15) (some (.iload 4, 17, [])) (cond (Nat.beq pc 17) (some (.invokestatic 49, 20, [])) (none)))) (cond (Nat.beq pc 7) (some (.invokestatic 49, 10, [])) (cond (Nat.beq pc 10) (some (.aload_n 0, 11, [])) (cond (Nat.beq pc 11) (some (.getfield 32, 14, [])) (none))))) (cond (Nat.ble 2 pc) (cond (Nat.beq pc 2) (some (.getfield 29, 5, [])) (cond (Nat.beq pc 5) (some (.iload_n 2, 6, [])) (cond (Nat.beq pc 6) (some (.iload_n 3, 7, [])) (none)))) (cond (Nat.beq pc 0) (some (.aload_n 1, 1, [])) (cond (Nat.beq pc 1) (some (.aload_n 0, 2, [])) (none))))))))
theorem qkX6_hasAnyBelowR_ok : ∀ pc i nx ts, qkX6_hasAnyBelowR pc = some (i, nx, ts) → am_cok cX6_hasAnyBelow pc (i, nx, ts) = true := fun pc i nx ts h => am_tok_ok (n := 130) (by decide +kernel) (fun pc h => by show cond (Nat.ble 130 pc) _ _ = _; rw [Nat.ble_eq_true_of_le h]; rfl) h
def qsX6_hasAnyBelowR (f : Nat) : SP := fun as F A K => match as with
  | [.inr (.inr g), .inr (.inr p), .inl l, .inl q, .inl r] => cond (Nat.beq g 19 && Nat.beq p 9) ((((0 ≤ (F 19 3) ∧ (F 19 3) ≤ 6) ∧ (F 19 4) = p2 ((F 19 3)) ∧ (0 ≤ (F 19 5) ∧ (F 19 5) < 8) ∧ (0 ≤ (F 19 6) ∧ (F 19 6) < 8) ∧ exR A ((F 19 5)) ((F 19 3)) ∧ exR A ((F 19 6)) ((F 19 3))) ∧ 0 ≤ l ∧ l ≤ (F 19 3) ∧ l + ((f : Nat) : Int) = 7 ∧ (0 ≤ q ∧ q < p2 l) ∧ 0 ≤ r ∧ r < p2 l) ∧ (K (some (some (vI (bc (∃ ii jj, prF (mtX A ((F 19 5)) ((F 19 6))) ((F 19 3)) f l q r ii jj))))) F A)) (False)
  | _ => False
def qeX6_hasAnyBelowR (f : Nat) : CE := (yX6_hasAnyBelow, cX6_hasAnyBelow, 5, (some .boolean), 5, none, 0, [], 0, 7 + f, qsX6_hasAnyBelowR f)
theorem qbX6_hasAnyBelowR_0 : am_mb (yX6_hasAnyBelow, cX6_hasAnyBelow, 5, (some .boolean), 5, none, 0, [], 0, 0, fun _ _ _ _ => True) := ⟨am_tb_at 719 (by decide +kernel) rfl, am_tb_at 120 (by decide +kernel) rfl, ⟨by decide, by decide, by decide +kernel⟩, Nat.le_of_ble_eq_true rfl, am_tb_at 718 (by decide +kernel) rfl⟩
theorem qbX6_hasAnyBelowR (f : Nat) : am_mb (qeX6_hasAnyBelowR f) := qbX6_hasAnyBelowR_0
def qaX6_hasAnyBelowR (f : Nat) : Nat → Option CE := fun k => cond (Nat.beq k 66) (some (qeX6_hasAnyBelowR f)) (cond (Nat.beq k 49) (some qeX8_nodeOf) (cond (Nat.beq k 53) (some qeX1_boxesMeet) (none)))
theorem qyX6_hasAnyBelowR (l : Launch) (f : Nat) (hf : am_CT l layX (qeX6_hasAnyBelowR f)) : ∀ k e1, qaX6_hasAnyBelowR f k = some e1 → am_cal l layX RX6 (7 + (f + 1)) k e1 ∧ ceT e1 = 0 := q_cons ⟨am_calS hf (qbX6_hasAnyBelowR f) (show 7 + f + 1 ≤ 7 + (f + 1) by omega) rfl (Or.inl rfl) (show Cond.methodLink RX6 66 yX6_hasAnyBelow ∈ am_tb from am_tb_at 717 (by decide +kernel) rfl), rfl⟩ (q_cons ⟨am_calN (host := "CurveMeetings") (qtX8_nodeOf l) qbX8_nodeOf (show 3 + 1 ≤ 7 + (f + 1) by omega) rfl rfl (show Cond.methodLinkNest RX6 49 yX8_nodeOf "CurveMeetings" ∈ am_tb from am_tb_at 720 (by decide +kernel) rfl), rfl⟩ (q_cons ⟨am_calV (ci := 1) (qtX1_boxesMeet l) qbX1_boxesMeet (show 6 + 1 ≤ 7 + (f + 1) by omega) rfl (show Cond.methodLink RX6 53 yX1_boxesMeet ∈ am_tb from am_tb_at 721 (by decide +kernel) rfl), rfl⟩ (q_nil)))
def qxX6_hasAnyBelowR (f : Nat) : CX := (qkX6_hasAnyBelowR, layX, qfX6, qaX6_hasAnyBelowR f, qcX6, qlX6, qmX6, (some .boolean), false, none, 0, none, fun _ => none)
theorem qzX6_hasAnyBelowR (l : Launch) (f : Nat) (hf : am_CT l layX (qeX6_hasAnyBelowR f)) : am_sta l (qxX6_hasAnyBelowR f) RX6 (7 + (f + 1)) cX6_hasAnyBelow := ⟨qkX6_hasAnyBelowR_ok, layX_ok, qfX6_ok, qcX6_ok, qlX6_ok, am_mthP qmX6_ok (by omega), fun k e1 h => (qyX6_hasAnyBelowR l f hf k e1 h).1⟩
set_option maxRecDepth 20000 in
theorem qvX6_hasAnyBelowR_19_9 (f : Nat) (l : Int) (q : Int) (r : Int) (F : FF) (A : AA) (K : KK) (h : (((0 ≤ (F 19 3) ∧ (F 19 3) ≤ 6) ∧ (F 19 4) = p2 ((F 19 3)) ∧ (0 ≤ (F 19 5) ∧ (F 19 5) < 8) ∧ (0 ≤ (F 19 6) ∧ (F 19 6) < 8) ∧ exR A ((F 19 5)) ((F 19 3)) ∧ exR A ((F 19 6)) ((F 19 3))) ∧ 0 ≤ l ∧ l ≤ (F 19 3) ∧ l + (((f + 1) : Nat) : Int) = 7 ∧ (0 ≤ q ∧ q < p2 l) ∧ 0 ≤ r ∧ r < p2 l) ∧ (K (some (some (vI (bc (∃ ii jj, prF (mtX A ((F 19 5)) ((F 19 6))) ((F 19 3)) (f + 1) l q r ii jj))))) F A)) : am_line (qxX6_hasAnyBelowR f) 84 [vR 19, vR 9, vI l, vI q, vI r] 5 F A K := by
  show am_stp (qxX6_hasAnyBelowR f) (am_run (qxX6_hasAnyBelowR f) (fun _ => none) (fun _ _ _ _ _ _ => False) K 84) K 0 [some (vR 19), some (vR 9), some (vI l), some (vI q), some (vI r)] [] F A 0
  obtain ⟨hp, h⟩ := h
  obtain ⟨⟨p1, p2', p3, p4, p5, p6⟩, q1, q2, q3, q4, q5⟩ := hp
  have hP : 1 ≤ p2 l ∧ p2 l ≤ p2 (F 19 3) := ⟨p2_pos, p2_le q2⟩
  have hQ : p2 (F 19 3) ≤ 64 := p2_le p1.2
  have hl : x_shl 1 l = p2 l := x_shl1 q1 (by omega)
  have hN : p2 l - 1 + q < 2 * p2 (F 19 3) - 1 ∧ p2 l - 1 + r < 2 * p2 (F 19 3) - 1 := by omega
  have hs : p2 (l + 1) = 2 * p2 l := p2_s q1
  show ((0 ≤ (F 19 5) ∧ (F 19 5) < 8 ∧ 0 ≤ (x_shl 1 l - 1 + q) ∧ (x_shl 1 l - 1 + q) < 127) ∧ (0 ≤ (F 19 6) ∧ (F 19 6) < 8 ∧ 0 ≤ (x_shl 1 l - 1 + r) ∧ (x_shl 1 l - 1 + r) < 127) ∧ (∀ s, 0 ≤ s → s < 4 → 0 ≤ A 11 (((F 19 5) * 127 + (x_shl 1 l - 1 + q)) * 4 + s) ∧ A 11 (((F 19 5) * 127 + (x_shl 1 l - 1 + q)) * 4 + s) < 4) ∧ ∀ s, 0 ≤ s → s < 4 → 0 ≤ A 11 (((F 19 6) * 127 + (x_shl 1 l - 1 + r)) * 4 + s) ∧ A 11 (((F 19 6) * 127 + (x_shl 1 l - 1 + r)) * 4 + s) < 4) ∧ ((w32 (bc (meetP A (F 19 5) (x_shl 1 l - 1 + q) (F 19 6) (x_shl 1 l - 1 + r))) = w32 0 → ((0 = 0 ∨ 0 = 1) ∧ (K (some (some (vI 0))) F A))) ∧ (¬ w32 (bc (meetP A (F 19 5) (x_shl 1 l - 1 + q) (F 19 6) (x_shl 1 l - 1 + r))) = w32 0 → ((w32 l < w32 (F 19 3) → ((w32 l < w32 6 → ((((0 ≤ (F 19 3) ∧ (F 19 3) ≤ 6) ∧ (F 19 4) = p2 ((F 19 3)) ∧ (0 ≤ (F 19 5) ∧ (F 19 5) < 8) ∧ (0 ≤ (F 19 6) ∧ (F 19 6) < 8) ∧ exR A ((F 19 5)) ((F 19 3)) ∧ exR A ((F 19 6)) ((F 19 3))) ∧ 0 ≤ (l + 1) ∧ (l + 1) ≤ (F 19 3) ∧ (l + 1) + ((f : Nat) : Int) = 7 ∧ (0 ≤ (2 * q) ∧ (2 * q) < p2 (l + 1)) ∧ 0 ≤ (2 * r) ∧ (2 * r) < p2 (l + 1)) ∧ ((w32 (bc (∃ ii jj, prF (mtX A ((F 19 5)) ((F 19 6))) ((F 19 3)) f (l + 1) (2 * q) (2 * r) ii jj)) = w32 0 → ((((0 ≤ (F 19 3) ∧ (F 19 3) ≤ 6) ∧ (F 19 4) = p2 ((F 19 3)) ∧ (0 ≤ (F 19 5) ∧ (F 19 5) < 8) ∧ (0 ≤ (F 19 6) ∧ (F 19 6) < 8) ∧ exR A ((F 19 5)) ((F 19 3)) ∧ exR A ((F 19 6)) ((F 19 3))) ∧ 0 ≤ (l + 1) ∧ (l + 1) ≤ (F 19 3) ∧ (l + 1) + ((f : Nat) : Int) = 7 ∧ (0 ≤ (2 * q) ∧ (2 * q) < p2 (l + 1)) ∧ 0 ≤ ((2 * r) + 1) ∧ ((2 * r) + 1) < p2 (l + 1)) ∧ ((w32 (bc (∃ ii jj, prF (mtX A ((F 19 5)) ((F 19 6))) ((F 19 3)) f (l + 1) (2 * q) ((2 * r) + 1) ii jj)) = w32 0 → ((((0 ≤ (F 19 3) ∧ (F 19 3) ≤ 6) ∧ (F 19 4) = p2 ((F 19 3)) ∧ (0 ≤ (F 19 5) ∧ (F 19 5) < 8) ∧ (0 ≤ (F 19 6) ∧ (F 19 6) < 8) ∧ exR A ((F 19 5)) ((F 19 3)) ∧ exR A ((F 19 6)) ((F 19 3))) ∧ 0 ≤ (l + 1) ∧ (l + 1) ≤ (F 19 3) ∧ (l + 1) + ((f : Nat) : Int) = 7 ∧ (0 ≤ ((2 * q) + 1) ∧ ((2 * q) + 1) < p2 (l + 1)) ∧ 0 ≤ (2 * r) ∧ (2 * r) < p2 (l + 1)) ∧ ((w32 (bc (∃ ii jj, prF (mtX A ((F 19 5)) ((F 19 6))) ((F 19 3)) f (l + 1) ((2 * q) + 1) (2 * r) ii jj)) = w32 0 → ((((0 ≤ (F 19 3) ∧ (F 19 3) ≤ 6) ∧ (F 19 4) = p2 ((F 19 3)) ∧ (0 ≤ (F 19 5) ∧ (F 19 5) < 8) ∧ (0 ≤ (F 19 6) ∧ (F 19 6) < 8) ∧ exR A ((F 19 5)) ((F 19 3)) ∧ exR A ((F 19 6)) ((F 19 3))) ∧ 0 ≤ (l + 1) ∧ (l + 1) ≤ (F 19 3) ∧ (l + 1) + ((f : Nat) : Int) = 7 ∧ (0 ≤ ((2 * q) + 1) ∧ ((2 * q) + 1) < p2 (l + 1)) ∧ 0 ≤ ((2 * r) + 1) ∧ ((2 * r) + 1) < p2 (l + 1)) ∧ ((w32 (bc (∃ ii jj, prF (mtX A ((F 19 5)) ((F 19 6))) ((F 19 3)) f (l + 1) ((2 * q) + 1) ((2 * r) + 1) ii jj)) = w32 0 → ((0 = 0 ∨ 0 = 1) ∧ (K (some (some (vI 0))) F A))) ∧ (¬ w32 (bc (∃ ii jj, prF (mtX A ((F 19 5)) ((F 19 6))) ((F 19 3)) f (l + 1) ((2 * q) + 1) ((2 * r) + 1) ii jj)) = w32 0 → ((1 = 0 ∨ 1 = 1) ∧ (K (some (some (vI 1))) F A)))))) ∧ (¬ w32 (bc (∃ ii jj, prF (mtX A ((F 19 5)) ((F 19 6))) ((F 19 3)) f (l + 1) ((2 * q) + 1) (2 * r) ii jj)) = w32 0 → ((1 = 0 ∨ 1 = 1) ∧ (K (some (some (vI 1))) F A)))))) ∧ (¬ w32 (bc (∃ ii jj, prF (mtX A ((F 19 5)) ((F 19 6))) ((F 19 3)) f (l + 1) (2 * q) ((2 * r) + 1) ii jj)) = w32 0 → ((1 = 0 ∨ 1 = 1) ∧ (K (some (some (vI 1))) F A)))))) ∧ (¬ w32 (bc (∃ ii jj, prF (mtX A ((F 19 5)) ((F 19 6))) ((F 19 3)) f (l + 1) (2 * q) (2 * r) ii jj)) = w32 0 → ((1 = 0 ∨ 1 = 1) ∧ (K (some (some (vI 1))) F A)))))) ∧ (¬ w32 l < w32 6 → ((1 = 0 ∨ 1 = 1) ∧ (K (some (some (vI 1))) F A))))) ∧ (¬ w32 l < w32 (F 19 3) → ((1 = 0 ∨ 1 = 1) ∧ (K (some (some (vI 1))) F A))))))
  refine ⟨by (simp only [hl]; exact ⟨⟨by omega, by omega, by omega, by omega⟩, ⟨by omega, by omega, by omega, by omega⟩, fun s a0 a1 => p5 _ s (by omega) hN.1 a0 a1, fun s a0 a1 => p6 _ s (by omega) hN.2 a0 a1⟩), ?_⟩
  refine ⟨fun c1 => ?_, fun c1 => ?_⟩
  · skip
    (try simp only [hl, w32_0, wbc0, Classical.not_not] at c1); (try simp (disch := omega) only [w32_0, w32_id] at c1)
    refine ⟨by first | exact Or.inl rfl | exact Or.inr rfl | omega | (exact ⟨⟨p1, p2', p3, p4, exR_c rfl p5, exR_c rfl p6⟩, by omega, by omega, by omega, ⟨by omega, by omega⟩, by omega, by omega⟩), ?_⟩
    exact K_eq h (bc_f (fun z => by obtain ⟨i, j, y⟩ := z; exact prF_no (M := mtX A (F 19 5) (F 19 6)) c1 i j y))
  · skip
    (try simp only [hl, w32_0, wbc0, Classical.not_not] at c1); (try simp (disch := omega) only [w32_0, w32_id] at c1)
    refine ⟨fun c2 => ?_, fun c2 => ?_⟩
    · skip
      (try simp only [hl, w32_0, wbc0, Classical.not_not] at c2); (try simp (disch := omega) only [w32_0, w32_id] at c2)
      refine ⟨fun c3 => ?_, fun c3 => ?_⟩
      · skip
        (try simp only [hl, w32_0, wbc0, Classical.not_not] at c3); (try simp (disch := omega) only [w32_0, w32_id] at c3)
        refine ⟨by first | exact Or.inl rfl | exact Or.inr rfl | omega | (exact ⟨⟨p1, p2', p3, p4, exR_c rfl p5, exR_c rfl p6⟩, by omega, by omega, by omega, ⟨by omega, by omega⟩, by omega, by omega⟩), ?_⟩
        refine ⟨fun c4 => ?_, fun c4 => ?_⟩
        · skip
          (try simp only [hl, w32_0, wbc0, Classical.not_not] at c4); (try simp (disch := omega) only [w32_0, w32_id] at c4)
          refine ⟨by first | exact Or.inl rfl | exact Or.inr rfl | omega | (exact ⟨⟨p1, p2', p3, p4, exR_c rfl p5, exR_c rfl p6⟩, by omega, by omega, by omega, ⟨by omega, by omega⟩, by omega, by omega⟩), ?_⟩
          refine ⟨fun c5 => ?_, fun c5 => ?_⟩
          · skip
            (try simp only [hl, w32_0, wbc0, Classical.not_not] at c5); (try simp (disch := omega) only [w32_0, w32_id] at c5)
            refine ⟨by first | exact Or.inl rfl | exact Or.inr rfl | omega | (exact ⟨⟨p1, p2', p3, p4, exR_c rfl p5, exR_c rfl p6⟩, by omega, by omega, by omega, ⟨by omega, by omega⟩, by omega, by omega⟩), ?_⟩
            refine ⟨fun c6 => ?_, fun c6 => ?_⟩
            · skip
              (try simp only [hl, w32_0, wbc0, Classical.not_not] at c6); (try simp (disch := omega) only [w32_0, w32_id] at c6)
              refine ⟨by first | exact Or.inl rfl | exact Or.inr rfl | omega | (exact ⟨⟨p1, p2', p3, p4, exR_c rfl p5, exR_c rfl p6⟩, by omega, by omega, by omega, ⟨by omega, by omega⟩, by omega, by omega⟩), ?_⟩
              refine ⟨fun c7 => ?_, fun c7 => ?_⟩
              · skip
                (try simp only [hl, w32_0, wbc0, Classical.not_not] at c7); (try simp (disch := omega) only [w32_0, w32_id] at c7)
                refine ⟨by first | exact Or.inl rfl | exact Or.inr rfl | omega | (exact ⟨⟨p1, p2', p3, p4, exR_c rfl p5, exR_c rfl p6⟩, by omega, by omega, by omega, ⟨by omega, by omega⟩, by omega, by omega⟩), ?_⟩
                refine K_eq h (bc_f (fun z => ?_))
                obtain ⟨i, j, y⟩ := z
                rcases (prF_kids (M := mtX A (F 19 5) (F 19 6)) (f := f) (q := q) (r := r) c1 (show ¬ F 19 3 ≤ l by omega) i j).mp y with y | y | y | y
                · exact c4 ⟨i, j, y⟩
                · exact c5 ⟨i, j, y⟩
                · exact c6 ⟨i, j, y⟩
                · exact c7 ⟨i, j, y⟩
              · skip
                (try simp only [hl, w32_0, wbc0, Classical.not_not] at c7); (try simp (disch := omega) only [w32_0, w32_id] at c7)
                refine ⟨by first | exact Or.inl rfl | exact Or.inr rfl | omega | (exact ⟨⟨p1, p2', p3, p4, exR_c rfl p5, exR_c rfl p6⟩, by omega, by omega, by omega, ⟨by omega, by omega⟩, by omega, by omega⟩), ?_⟩
                obtain ⟨i, j, y⟩ := c7
                exact K_eq h (bc_t ⟨i, j, ((prF_kids (M := mtX A (F 19 5) (F 19 6)) (f := f) (q := q) (r := r) c1 (show ¬ F 19 3 ≤ l by omega) i j).mpr (Or.inr (Or.inr (Or.inr y))))⟩)
            · skip
              (try simp only [hl, w32_0, wbc0, Classical.not_not] at c6); (try simp (disch := omega) only [w32_0, w32_id] at c6)
              refine ⟨by first | exact Or.inl rfl | exact Or.inr rfl | omega | (exact ⟨⟨p1, p2', p3, p4, exR_c rfl p5, exR_c rfl p6⟩, by omega, by omega, by omega, ⟨by omega, by omega⟩, by omega, by omega⟩), ?_⟩
              obtain ⟨i, j, y⟩ := c6
              exact K_eq h (bc_t ⟨i, j, ((prF_kids (M := mtX A (F 19 5) (F 19 6)) (f := f) (q := q) (r := r) c1 (show ¬ F 19 3 ≤ l by omega) i j).mpr (Or.inr (Or.inr (Or.inl y))))⟩)
          · skip
            (try simp only [hl, w32_0, wbc0, Classical.not_not] at c5); (try simp (disch := omega) only [w32_0, w32_id] at c5)
            refine ⟨by first | exact Or.inl rfl | exact Or.inr rfl | omega | (exact ⟨⟨p1, p2', p3, p4, exR_c rfl p5, exR_c rfl p6⟩, by omega, by omega, by omega, ⟨by omega, by omega⟩, by omega, by omega⟩), ?_⟩
            obtain ⟨i, j, y⟩ := c5
            exact K_eq h (bc_t ⟨i, j, ((prF_kids (M := mtX A (F 19 5) (F 19 6)) (f := f) (q := q) (r := r) c1 (show ¬ F 19 3 ≤ l by omega) i j).mpr (Or.inr (Or.inl y)))⟩)
        · skip
          (try simp only [hl, w32_0, wbc0, Classical.not_not] at c4); (try simp (disch := omega) only [w32_0, w32_id] at c4)
          refine ⟨by first | exact Or.inl rfl | exact Or.inr rfl | omega | (exact ⟨⟨p1, p2', p3, p4, exR_c rfl p5, exR_c rfl p6⟩, by omega, by omega, by omega, ⟨by omega, by omega⟩, by omega, by omega⟩), ?_⟩
          obtain ⟨i, j, y⟩ := c4
          exact K_eq h (bc_t ⟨i, j, ((prF_kids (M := mtX A (F 19 5) (F 19 6)) (f := f) (q := q) (r := r) c1 (show ¬ F 19 3 ≤ l by omega) i j).mpr (Or.inl y))⟩)
      · skip
        (try simp only [hl, w32_0, wbc0, Classical.not_not] at c3); (try simp (disch := omega) only [w32_0, w32_id] at c3)
        refine ⟨by first | exact Or.inl rfl | exact Or.inr rfl | omega | (exact ⟨⟨p1, p2', p3, p4, exR_c rfl p5, exR_c rfl p6⟩, by omega, by omega, by omega, ⟨by omega, by omega⟩, by omega, by omega⟩), ?_⟩
        exfalso; omega
    · skip
      (try simp only [hl, w32_0, wbc0, Classical.not_not] at c2); (try simp (disch := omega) only [w32_0, w32_id] at c2)
      refine ⟨by first | exact Or.inl rfl | exact Or.inr rfl | omega | (exact ⟨⟨p1, p2', p3, p4, exR_c rfl p5, exR_c rfl p6⟩, by omega, by omega, by omega, ⟨by omega, by omega⟩, by omega, by omega⟩), ?_⟩
      exact K_eq h (bc_t ⟨q, r, (prF_leaf (M := mtX A (F 19 5) (F 19 6)) c1 (by omega) q r).mpr ⟨rfl, rfl⟩⟩)
theorem qtX6_hasAnyBelowR (l : Launch) : ∀ f : Nat, am_CT l layX (qeX6_hasAnyBelowR f)
  | 0 => by
    intro layW hpre D al kC as F A K sz h
    exfalso
    replace h : qsX6_hasAnyBelowR 0 as F A K := h
    unfold qsX6_hasAnyBelowR at h
    split at h
    · rename_i g p l q r
      replace h := am_cond2 h
      rcases h with ⟨hb, h⟩ | h
      · omega
      exact h
    · exact h
  | f + 1 => am_met0 (x := qxX6_hasAnyBelowR f) rfl (show plainName yX6_hasAnyBelow.cls = true by decide +kernel) rfl rfl rfl rfl rfl (fun _ => rfl) rfl (qzX6_hasAnyBelowR l f (qtX6_hasAnyBelowR l f)) (fun k e1 h => (qyX6_hasAnyBelowR l f (qtX6_hasAnyBelowR l f) k e1 h).2) (fun as F A K h => by
    replace h : qsX6_hasAnyBelowR (f + 1) as F A K := h
    unfold qsX6_hasAnyBelowR at h
    split at h
    · rename_i g p l q r
      refine ⟨by first | exact Nat.le_of_ble_eq_true rfl | simp [am_fl, am_cat], ?_⟩
      replace h := am_cond2 h
      rcases h with ⟨hb, h⟩ | h
      · simp only [Bool.and_eq_true] at hb
        obtain ⟨hb0, hb1⟩ := hb
        have hb0 := am_bq hb0
        subst hb0
        have hb1 := am_bq hb1
        subst hb1
        exact am_way_line (qvX6_hasAnyBelowR_19_9 f l q r F A K h)
      exact h.elim
    · exact h.elim)
def qeX6_hasAnyBelow : CE := qeX6_hasAnyBelowR 7
theorem qbX6_hasAnyBelow : am_mb qeX6_hasAnyBelow := qbX6_hasAnyBelowR 7
theorem qtX6_hasAnyBelow (l : Launch) : am_CT l layX qeX6_hasAnyBelow := qtX6_hasAnyBelowR l 7
def qkX6_hasAny : Nat → Option CI := fun pc => cond (Nat.ble 17 pc) none (cond (Nat.ble 9 pc) (cond (Nat.ble 12 pc) (cond (Nat.beq pc 12) (some (.iconst 0, 13, [])) (cond (Nat.beq pc 13) (some (.invokestatic 66, 16, [])) (cond (Nat.beq pc 16) (some (.ireturn, 17, [])) (none)))) (cond (Nat.beq pc 9) (some (.aload_n 1, 10, [])) (cond (Nat.beq pc 10) (some (.iconst 0, 11, [])) (cond (Nat.beq pc 11) (some (.iconst 0, 12, [])) (none))))) (cond (Nat.ble 3 pc) (cond (Nat.beq pc 3) (some (.iload 4, 5, [])) (cond (Nat.beq pc 5) (some (.invokevirtual 35, 8, [])) (cond (Nat.beq pc 8) (some (.aload_n 0, 9, [])) (none)))) (cond (Nat.beq pc 0) (some (.aload_n 0, 1, [])) (cond (Nat.beq pc 1) (some (.iload_n 2, 2, [])) (cond (Nat.beq pc 2) (some (.iload_n 3, 3, [])) (none))))))
theorem qkX6_hasAny_ok : ∀ pc i nx ts, qkX6_hasAny pc = some (i, nx, ts) → am_cok cX6_hasAny pc (i, nx, ts) = true := fun pc i nx ts h => am_tok_ok (n := 17) (by decide +kernel) (fun pc h => by show cond (Nat.ble 17 pc) _ _ = _; rw [Nat.ble_eq_true_of_le h]; rfl) h
def qaX6_hasAny : Nat → Option CE := fun k => cond (Nat.beq k 35) (some qeX6_prepare) (cond (Nat.beq k 66) (some qeX6_hasAnyBelow) (none))
theorem qyX6_hasAny (l : Launch) : ∀ k e1, qaX6_hasAny k = some e1 → am_cal l layX RX6 15 k e1 ∧ ceT e1 = 0 := q_cons ⟨am_calV (ci := 6) (qtX6_prepare l) qbX6_prepare (by decide) rfl (am_tb_at 712 (by decide +kernel) rfl), rfl⟩ (q_cons ⟨am_calS (qtX6_hasAnyBelow l) qbX6_hasAnyBelow (by decide) rfl (by decide) (am_tb_at 717 (by decide +kernel) rfl), rfl⟩ (q_nil))
def qxX6_hasAny : CX := (qkX6_hasAny, layX, qfX6, qaX6_hasAny, qcX6, qlX6, qmX6, (some .boolean), false, none, 0, none, fun _ => none)
theorem qzX6_hasAny (l : Launch) : am_sta l qxX6_hasAny RX6 15 cX6_hasAny := ⟨qkX6_hasAny_ok, layX_ok, qfX6_ok, qcX6_ok, qlX6_ok, am_mthP qmX6_ok (by decide), fun k e1 h => (qyX6_hasAny l k e1 h).1⟩
def qsX6_hasAny : SP := fun as F A K => match as with
  | [.inr (.inr o), .inr (.inr p), .inl a, .inl b, .inl d] => cond (Nat.beq o 19 && Nat.beq p 9) (((0 ≤ d ∧ d ≤ 6) ∧ (0 ≤ a ∧ a < 8) ∧ (0 ≤ b ∧ b < 8) ∧ exR A a d ∧ exR A b d) ∧ (K (some (some (vI (bc (∃ ii jj, prF (mtX A a b) d 7 0 0 0 ii jj))))) (upF (upF (upF (upF F 19 3 d) 19 4 (p2 d)) 19 5 a) 19 6 b) A)) (False)
  | _ => False
def qeX6_hasAny : CE := (yX6_hasAny, cX6_hasAny, 5, (some .boolean), 4, some 6, 0, [], 0, 15, qsX6_hasAny)
theorem qbX6_hasAny : am_mb qeX6_hasAny := ⟨am_tb_at 711 (by decide +kernel) rfl, am_tb_at 120 (by decide +kernel) rfl, ⟨by decide, by decide, by decide +kernel⟩, by decide, by decide, am_tb_at 709 (by decide +kernel) rfl, am_tb_at 710 (by decide +kernel) rfl, _, _, rfl⟩
set_option maxRecDepth 20000 in
theorem qvX6_hasAny_19_9 (a : Int) (b : Int) (d : Int) (F : FF) (A : AA) (K : KK) (h : ((0 ≤ d ∧ d ≤ 6) ∧ (0 ≤ a ∧ a < 8) ∧ (0 ≤ b ∧ b < 8) ∧ exR A a d ∧ exR A b d) ∧ (K (some (some (vI (bc (∃ ii jj, prF (mtX A a b) d 7 0 0 0 ii jj))))) (upF (upF (upF (upF F 19 3 d) 19 4 (p2 d)) 19 5 a) 19 6 b) A)) : am_line qxX6_hasAny 13 [vR 19, vR 9, vI a, vI b, vI d] 5 F A K := by
  show am_stp qxX6_hasAny (am_run qxX6_hasAny (fun _ => none) (fun _ _ _ _ _ _ => False) K 13) K 0 [some (vR 19), some (vR 9), some (vI a), some (vI b), some (vI d)] [] F A 0
  obtain ⟨hp, h⟩ := h
  obtain ⟨p1, p2', p3, p4, p5⟩ := hp
  show (0 ≤ d ∧ d ≤ 6) ∧ ((((0 ≤ d ∧ d ≤ 6) ∧ (p2 d) = p2 (d) ∧ (0 ≤ a ∧ a < 8) ∧ (0 ≤ b ∧ b < 8) ∧ exR A (a) (d) ∧ exR A (b) (d)) ∧ 0 ≤ 0 ∧ 0 ≤ d ∧ 0 + ((7 : Nat) : Int) = 7 ∧ (0 ≤ 0 ∧ 0 < p2 0) ∧ 0 ≤ 0 ∧ 0 < p2 0) ∧ (((bc (∃ ii jj, prF (mtX A (a) (b)) (d) 7 0 0 0 ii jj)) = 0 ∨ (bc (∃ ii jj, prF (mtX A (a) (b)) (d) 7 0 0 0 ii jj)) = 1) ∧ (K (some (some (vI (bc (∃ ii jj, prF (mtX A (a) (b)) (d) 7 0 0 0 ii jj))))) (upF (upF (upF (upF F 19 3 d) 19 4 (p2 d)) 19 5 a) 19 6 b) A)))
  refine ⟨by first | exact bc_01 | omega | (simp only [upF_s, upF_o (show (19 : Nat) ≠ 19 ∨ (3 : Nat) ≠ 4 by decide), upF_o (show (19 : Nat) ≠ 19 ∨ (3 : Nat) ≠ 5 by decide), upF_o (show (19 : Nat) ≠ 19 ∨ (3 : Nat) ≠ 6 by decide), upF_o (show (19 : Nat) ≠ 19 ∨ (4 : Nat) ≠ 3 by decide), upF_o (show (19 : Nat) ≠ 19 ∨ (4 : Nat) ≠ 5 by decide), upF_o (show (19 : Nat) ≠ 19 ∨ (4 : Nat) ≠ 6 by decide), upF_o (show (19 : Nat) ≠ 19 ∨ (5 : Nat) ≠ 3 by decide), upF_o (show (19 : Nat) ≠ 19 ∨ (5 : Nat) ≠ 4 by decide), upF_o (show (19 : Nat) ≠ 19 ∨ (5 : Nat) ≠ 6 by decide), upF_o (show (19 : Nat) ≠ 19 ∨ (6 : Nat) ≠ 3 by decide), upF_o (show (19 : Nat) ≠ 19 ∨ (6 : Nat) ≠ 4 by decide), upF_o (show (19 : Nat) ≠ 19 ∨ (6 : Nat) ≠ 5 by decide)]; exact ⟨⟨p1, trivial, p2', p3, p4, p5⟩, by omega, by omega, by omega, ⟨by omega, by decide⟩, by omega, by decide⟩) | exact ⟨⟨p1, rfl, p2', p3, p4, p5⟩, by omega, by omega, by omega, ⟨by omega, by decide⟩, by omega, by decide⟩, ?_⟩
  refine ⟨by first | exact bc_01 | omega | (simp only [upF_s, upF_o (show (19 : Nat) ≠ 19 ∨ (3 : Nat) ≠ 4 by decide), upF_o (show (19 : Nat) ≠ 19 ∨ (3 : Nat) ≠ 5 by decide), upF_o (show (19 : Nat) ≠ 19 ∨ (3 : Nat) ≠ 6 by decide), upF_o (show (19 : Nat) ≠ 19 ∨ (4 : Nat) ≠ 3 by decide), upF_o (show (19 : Nat) ≠ 19 ∨ (4 : Nat) ≠ 5 by decide), upF_o (show (19 : Nat) ≠ 19 ∨ (4 : Nat) ≠ 6 by decide), upF_o (show (19 : Nat) ≠ 19 ∨ (5 : Nat) ≠ 3 by decide), upF_o (show (19 : Nat) ≠ 19 ∨ (5 : Nat) ≠ 4 by decide), upF_o (show (19 : Nat) ≠ 19 ∨ (5 : Nat) ≠ 6 by decide), upF_o (show (19 : Nat) ≠ 19 ∨ (6 : Nat) ≠ 3 by decide), upF_o (show (19 : Nat) ≠ 19 ∨ (6 : Nat) ≠ 4 by decide), upF_o (show (19 : Nat) ≠ 19 ∨ (6 : Nat) ≠ 5 by decide)]; exact ⟨⟨p1, trivial, p2', p3, p4, p5⟩, by omega, by omega, by omega, ⟨by omega, by decide⟩, by omega, by decide⟩) | exact ⟨⟨p1, rfl, p2', p3, p4, p5⟩, by omega, by omega, by omega, ⟨by omega, by decide⟩, by omega, by decide⟩, ?_⟩
  refine ⟨by first | exact bc_01 | omega | (simp only [upF_s, upF_o (show (19 : Nat) ≠ 19 ∨ (3 : Nat) ≠ 4 by decide), upF_o (show (19 : Nat) ≠ 19 ∨ (3 : Nat) ≠ 5 by decide), upF_o (show (19 : Nat) ≠ 19 ∨ (3 : Nat) ≠ 6 by decide), upF_o (show (19 : Nat) ≠ 19 ∨ (4 : Nat) ≠ 3 by decide), upF_o (show (19 : Nat) ≠ 19 ∨ (4 : Nat) ≠ 5 by decide), upF_o (show (19 : Nat) ≠ 19 ∨ (4 : Nat) ≠ 6 by decide), upF_o (show (19 : Nat) ≠ 19 ∨ (5 : Nat) ≠ 3 by decide), upF_o (show (19 : Nat) ≠ 19 ∨ (5 : Nat) ≠ 4 by decide), upF_o (show (19 : Nat) ≠ 19 ∨ (5 : Nat) ≠ 6 by decide), upF_o (show (19 : Nat) ≠ 19 ∨ (6 : Nat) ≠ 3 by decide), upF_o (show (19 : Nat) ≠ 19 ∨ (6 : Nat) ≠ 4 by decide), upF_o (show (19 : Nat) ≠ 19 ∨ (6 : Nat) ≠ 5 by decide)]; exact ⟨⟨p1, trivial, p2', p3, p4, p5⟩, by omega, by omega, by omega, ⟨by omega, by decide⟩, by omega, by decide⟩) | exact ⟨⟨p1, rfl, p2', p3, p4, p5⟩, by omega, by omega, by omega, ⟨by omega, by decide⟩, by omega, by decide⟩, ?_⟩
  first | exact h | exact K_eq h (by first | omega | (simp (disch := omega) only [w32_0, w64_0, wbi0, wbi1, yc_eq0, yc_lt0, yc_gt0, Classical.not_not, w32_id, w64_id]; omega) | (simp (disch := omega) only [w32_0, w64_0, wbi0, wbi1, yc_eq0, yc_lt0, yc_gt0, Classical.not_not, w32_id, w64_id]; done))
theorem qtX6_hasAny (l : Launch) : am_CT l layX qeX6_hasAny := am_met0 rfl (by decide +kernel) rfl rfl rfl rfl rfl (fun _ => rfl) rfl (qzX6_hasAny l) (fun k e1 h => (qyX6_hasAny l k e1 h).2) (fun as F A K h => by
  replace h : qsX6_hasAny as F A K := h
  unfold qsX6_hasAny at h
  split at h
  · rename_i o p a b d
    refine ⟨by first | exact Nat.le_of_ble_eq_true rfl | simp [am_fl, am_cat], ?_⟩
    replace h := am_cond2 h
    rcases h with ⟨hb, h⟩ | h
    · simp only [Bool.and_eq_true] at hb
      obtain ⟨hb0, hb1⟩ := hb
      have hb0 := am_bq hb0
      subst hb0
      have hb1 := am_bq hb1
      subst hb1
      exact am_way_line (qvX6_hasAny_19_9 a b d F A K h)
    exact h.elim
  · exact h.elim)
def qkX6_size : Nat → Option CI := fun pc => cond (Nat.ble 38 pc) none (cond (Nat.ble 14 pc) (cond (Nat.ble 24 pc) (cond (Nat.ble 33 pc) (cond (Nat.beq pc 33) (some (.goto (-29), 36, [4])) (cond (Nat.beq pc 36) (some (.iload_n 1, 37, [])) (cond (Nat.beq pc 37) (some (.ireturn, 38, [])) (none)))) (cond (Nat.beq pc 24) (some (.if_icmp .eq 6, 27, [30])) (cond (Nat.beq pc 27) (some (.iinc 1 1, 30, [])) (cond (Nat.beq pc 30) (some (.iinc 2 1, 33, [])) (none))))) (cond (Nat.ble 18 pc) (cond (Nat.beq pc 18) (some (.iload_n 2, 19, [])) (cond (Nat.beq pc 19) (some (.invokevirtual 70, 22, [])) (cond (Nat.beq pc 22) (some (.bipush (-2), 24, [])) (none)))) (cond (Nat.beq pc 14) (some (.if_icmp .ge 22, 17, [36])) (cond (Nat.beq pc 17) (some (.aload_n 0, 18, [])) (none))))) (cond (Nat.ble 5 pc) (cond (Nat.ble 9 pc) (cond (Nat.beq pc 9) (some (.aload_n 0, 10, [])) (cond (Nat.beq pc 10) (some (.getfield 26, 13, [])) (cond (Nat.beq pc 13) (some (.imul, 14, [])) (none)))) (cond (Nat.beq pc 5) (some (.aload_n 0, 6, [])) (cond (Nat.beq pc 6) (some (.getfield 26, 9, [])) (none)))) (cond (Nat.ble 2 pc) (cond (Nat.beq pc 2) (some (.iconst 0, 3, [])) (cond (Nat.beq pc 3) (some (.istore_n 2, 4, [])) (cond (Nat.beq pc 4) (some (.iload_n 2, 5, [])) (none)))) (cond (Nat.beq pc 0) (some (.iconst 0, 1, [])) (cond (Nat.beq pc 1) (some (.istore_n 1, 2, [])) (none))))))
theorem qkX6_size_ok : ∀ pc i nx ts, qkX6_size pc = some (i, nx, ts) → am_cok cX6_size pc (i, nx, ts) = true := fun pc i nx ts h => am_tok_ok (n := 38) (by decide +kernel) (fun pc h => by show cond (Nat.ble 38 pc) _ _ = _; rw [Nat.ble_eq_true_of_le h]; rfl) h
def qaX6_size : Nat → Option CE := fun k => cond (Nat.beq k 70) (some qeX6_at) (none)
theorem qyX6_size (l : Launch) : ∀ k e1, qaX6_size k = some e1 → am_cal l layX RX6 4 k e1 ∧ ceT e1 = 0 := q_cons ⟨am_calV (ci := 6) (qtX6_at l) qbX6_at (by decide) rfl (am_tb_at 1274 (by decide +kernel) rfl), rfl⟩ (q_nil)
def qxX6_size : CX := (qkX6_size, layX, qfX6, qaX6_size, qcX6, qlX6, qmX6, (some .int), false, none, 0, none, fun _ => none)
theorem qzX6_size (l : Launch) : am_sta l qxX6_size RX6 4 cX6_size := ⟨qkX6_size_ok, layX_ok, qfX6_ok, qcX6_ok, qlX6_ok, am_mthP qmX6_ok (by decide), fun k e1 h => (qyX6_size l k e1 h).1⟩
def qsX6_size : SP := fun as F A K => match as with
  | [.inr (.inr o)] => cond (Nat.beq o 19) ((1 ≤ (F 19 4) ∧ (F 19 4) ≤ 64 ∧ (∀ i, 0 ≤ i → i < (F 19 4) * (F 19 4) → -2 ≤ A 20 i ∧ A 20 i < 5000)) ∧ (K (some (some (vI (cntP (A 20) (Int.toNat ((F 19 4) * (F 19 4))))))) F A)) (False)
  | _ => False
def qeX6_size : CE := (yX6_size, cX6_size, 3, (some .int), 0, some 6, 0, [], 0, 4, qsX6_size)
theorem qbX6_size : am_mb qeX6_size := ⟨am_tb_at 1273 (by decide +kernel) rfl, am_tb_at 120 (by decide +kernel) rfl, ⟨by decide, by decide, by decide +kernel⟩, by decide, by decide, am_tb_at 1271 (by decide +kernel) rfl, am_tb_at 1272 (by decide +kernel) rfl, _, _, rfl⟩
def qnX6_size_19 : CUT := fun pc => cond (Nat.beq pc 4) (some [true, true, true]) (none)
def qiX6_size_19  (F0 : FF) (A0 : AA) : REC := fun pc ls st F A u => cond (Nat.beq pc 4) (match ls, st, u with
    | [some (.inr (.inr s0)), some (.inl n), some (.inl i)], [], 0 => s0 = 19 ∧ F = F0 ∧ A = A0 ∧ (0 ≤ i ∧ i ≤ F0 19 4 * F0 19 4 ∧ n = cntP (A0 20) (Int.toNat i))
    | _, _, _ => False) (False)
def quX6_size_19 : Nat → LVs → List AV → FF → AA → Nat := fun pc ls _ F A => cond (Nat.beq pc 4) (match ls with
    | [some (.inr (.inr s0)), some (.inl n), some (.inl i)] => Int.toNat (5000 - i)
    | _ => 0) (0)
set_option maxRecDepth 20000 in
theorem qvX6_size_19_0  (F0 : FF) (A0 : AA) (K : KK) (h : (1 ≤ (F0 19 4) ∧ (F0 19 4) ≤ 64 ∧ (∀ i, 0 ≤ i → i < (F0 19 4) * (F0 19 4) → -2 ≤ A0 20 i ∧ A0 20 i < 5000)) ∧ (K (some (some (vI (cntP (A0 20) (Int.toNat ((F0 19 4) * (F0 19 4))))))) F0 A0)) : am_stp qxX6_size (am_run qxX6_size qnX6_size_19 (qiX6_size_19  F0 A0) K 18) K 0 (am_ent [vR 19] 3) [] F0 A0 0 := by
  show am_stp qxX6_size (am_run qxX6_size qnX6_size_19 (qiX6_size_19  F0 A0) K 18) K 0 [some (vR 19), none, none] [] F0 A0 0
  obtain ⟨hp, h⟩ := h
  have hSS := sq64 (S := F0 19 4) (by omega) (by omega)
  have hS0 : 0 ≤ F0 19 4 * F0 19 4 := Int.mul_nonneg (by omega) (by omega)
  show 19 = 19 ∧ F0 = F0 ∧ A0 = A0 ∧ (0 ≤ 0 ∧ 0 ≤ F0 19 4 * F0 19 4 ∧ 0 = cntP (A0 20) (Int.toNat 0))
  refine ⟨rfl, rfl, rfl, ?_⟩
  exact ⟨by omega, by omega, rfl⟩
set_option maxRecDepth 20000 in
theorem qvX6_size_19_4  (F0 : FF) (A0 : AA) (K : KK) (h : (1 ≤ (F0 19 4) ∧ (F0 19 4) ≤ 64 ∧ (∀ i, 0 ≤ i → i < (F0 19 4) * (F0 19 4) → -2 ≤ A0 20 i ∧ A0 20 i < 5000)) ∧ (K (some (some (vI (cntP (A0 20) (Int.toNat ((F0 19 4) * (F0 19 4))))))) F0 A0)) (n : Int) (i : Int) (hi : 0 ≤ i ∧ i ≤ F0 19 4 * F0 19 4 ∧ n = cntP (A0 20) (Int.toNat i)) : am_stp qxX6_size (am_run qxX6_size qnX6_size_19 (fun pc ls st F A u => qiX6_size_19  F0 A0 pc ls st F A u ∧ quX6_size_19 pc ls st F A < quX6_size_19 4 [some (vR 19), some (vI n), some (vI i)] [] F0 A0) K 18) K 4 [some (vR 19), some (vI n), some (vI i)] [] F0 A0 0 := by
  obtain ⟨hp, h⟩ := h
  have hSS := sq64 (S := F0 19 4) (by omega) (by omega)
  have hS0 : 0 ≤ F0 19 4 * F0 19 4 := Int.mul_nonneg (by omega) (by omega)
  obtain ⟨h1, h2, h3⟩ := hi
  have h6 := cntP_s (g := A0 20) h1
  show (w32 i < w32 ((F0 19 4) * (F0 19 4)) → ((w32 (if 0 ≤ w32 i ∧ w32 i < 4096 then A0 20 (w32 i) else -2) = w32 (-2) → ((19 = 19 ∧ F0 = F0 ∧ A0 = A0 ∧ (0 ≤ (i + 1) ∧ (i + 1) ≤ F0 19 4 * F0 19 4 ∧ n = cntP (A0 20) (Int.toNat (i + 1)))) ∧ (Int.toNat (5000 - (i + 1))) < (Int.toNat (5000 - i)))) ∧ (¬ w32 (if 0 ≤ w32 i ∧ w32 i < 4096 then A0 20 (w32 i) else -2) = w32 (-2) → ((19 = 19 ∧ F0 = F0 ∧ A0 = A0 ∧ (0 ≤ (i + 1) ∧ (i + 1) ≤ F0 19 4 * F0 19 4 ∧ (n + 1) = cntP (A0 20) (Int.toNat (i + 1)))) ∧ (Int.toNat (5000 - (i + 1))) < (Int.toNat (5000 - i)))))) ∧ (¬ w32 i < w32 ((F0 19 4) * (F0 19 4)) → (K (some (some (vI n))) F0 A0))
  refine ⟨fun c1 => ?_, fun c1 => ?_⟩
  · skip
    (try simp (disch := omega) only [w32_id] at c1); (try (have h7 := hp.2.2 i h1 (by omega); rw [if_pos ⟨h1, by omega⟩] at c1; simp (disch := omega) only [w32_id] at c1))
    refine ⟨fun c2 => ?_, fun c2 => ?_⟩
    · skip
      (try simp (disch := omega) only [w32_id] at c2); (try (have h7 := hp.2.2 i h1 (by omega); rw [if_pos ⟨h1, by omega⟩] at c2; simp (disch := omega) only [w32_id] at c2))
      refine ⟨⟨rfl, rfl, rfl, ?_⟩, by omega⟩
      rw [if_pos c2] at h6
      exact ⟨by omega, by omega, by omega⟩
    · skip
      (try simp (disch := omega) only [w32_id] at c2); (try (have h7 := hp.2.2 i h1 (by omega); rw [if_pos ⟨h1, by omega⟩] at c2; simp (disch := omega) only [w32_id] at c2))
      refine ⟨⟨rfl, rfl, rfl, ?_⟩, by omega⟩
      rw [if_neg c2] at h6
      exact ⟨by omega, by omega, by omega⟩
  · skip
    (try simp (disch := omega) only [w32_id] at c1); (try (have h7 := hp.2.2 i h1 (by omega); rw [if_pos ⟨h1, by omega⟩] at c1; simp (disch := omega) only [w32_id] at c1))
    refine K_eq h ?_
    rw [h3, show i = F0 19 4 * F0 19 4 by omega]
set_option maxRecDepth 20000 in
theorem qvX6_size_19  (F0 : FF) (A0 : AA) (K : KK) (h : (1 ≤ (F0 19 4) ∧ (F0 19 4) ≤ 64 ∧ (∀ i, 0 ≤ i → i < (F0 19 4) * (F0 19 4) → -2 ≤ A0 20 i ∧ A0 20 i < 5000)) ∧ (K (some (some (vI (cntP (A0 20) (Int.toNat ((F0 19 4) * (F0 19 4))))))) F0 A0)) : am_body qxX6_size qnX6_size_19 18 (qiX6_size_19  F0 A0) quX6_size_19 [vR 19] 3 F0 A0 K := by
  refine ⟨qvX6_size_19_0  F0 A0 K h, fun pc ls st F A u hI => ?_⟩
  unfold qiX6_size_19 at hI
  replace hI := am_cond2 hI
  rcases hI with ⟨hb, hI⟩ | hI
  · have hb := am_bq hb
    subst hb
    split at hI
    · rename_i s0 n i
      obtain ⟨e0, e1, e2, hI⟩ := hI
      subst e0
      subst e1
      subst e2
      exact qvX6_size_19_4  _ _ K h _ _ hI
    · exact hI.elim
  exact hI.elim
theorem qtX6_size (l : Launch) : am_CT l layX qeX6_size := am_met0 rfl (by decide +kernel) rfl rfl rfl rfl rfl (fun _ => rfl) rfl (qzX6_size l) (fun k e1 h => (qyX6_size l k e1 h).2) (fun as F A K h => by
  replace h : qsX6_size as F A K := h
  unfold qsX6_size at h
  split at h
  · rename_i o
    refine ⟨by first | exact Nat.le_of_ble_eq_true rfl | simp [am_fl, am_cat], ?_⟩
    replace h := am_cond2 h
    rcases h with ⟨hb, h⟩ | h
    · skip
      have hb0 := hb
      have hb0 := am_bq hb0
      subst hb0
      exact am_way_body (qvX6_size_19  F A K h)
    exact h.elim
  · exact h.elim)
