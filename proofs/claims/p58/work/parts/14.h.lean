def qkX8_isWithin : Nat → Option CI := fun pc => cond (Nat.ble 16 pc) none (cond (Nat.ble 7 pc) (cond (Nat.ble 11 pc) (cond (Nat.beq pc 11) (some (.goto 4, 14, [15])) (cond (Nat.beq pc 14) (some (.iconst 0, 15, [])) (cond (Nat.beq pc 15) (some (.ireturn, 16, [])) (none)))) (cond (Nat.beq pc 7) (some (.if_icmp .gt 7, 10, [14])) (cond (Nat.beq pc 10) (some (.iconst 1, 11, [])) (none)))) (cond (Nat.ble 2 pc) (cond (Nat.beq pc 2) (some (.if_icmp .lt 12, 5, [14])) (cond (Nat.beq pc 5) (some (.iload_n 0, 6, [])) (cond (Nat.beq pc 6) (some (.iload_n 2, 7, [])) (none)))) (cond (Nat.beq pc 0) (some (.iload_n 0, 1, [])) (cond (Nat.beq pc 1) (some (.iload_n 1, 2, [])) (none)))))
theorem qkX8_isWithin_ok : ∀ pc i nx ts, qkX8_isWithin pc = some (i, nx, ts) → am_cok cX8_isWithin pc (i, nx, ts) = true := fun pc i nx ts h => am_tok_ok (n := 16) (by decide +kernel) (fun pc h => by show cond (Nat.ble 16 pc) _ _ = _; rw [Nat.ble_eq_true_of_le h]; rfl) h
def qaX8_isWithin : Nat → Option CE := fun k => none
theorem qyX8_isWithin (l : Launch) : ∀ k e1, qaX8_isWithin k = some e1 → am_cal l layX RX8 3 k e1 ∧ ceT e1 = 0 := q_nil
def qxX8_isWithin : CX := (qkX8_isWithin, layX, qfX8, qaX8_isWithin, qcX8, qlX8, qmX8, (some .boolean), false, none, 0, none, fun _ => none)
theorem qzX8_isWithin (l : Launch) : am_sta l qxX8_isWithin RX8 3 cX8_isWithin := ⟨qkX8_isWithin_ok, layX_ok, qfX8_ok, qcX8_ok, qlX8_ok, am_mthP qmX8_ok (by decide), fun k e1 h => (qyX8_isWithin l k e1 h).1⟩
def qsX8_isWithin : SP := fun as F A K => match as with
  | [.inl v, .inl a, .inl b] => K (some (some (vI (bi (w32 a ≤ w32 v ∧ w32 v ≤ w32 b))))) F A
  | _ => False
def qeX8_isWithin : CE := (yX8_isWithin, cX8_isWithin, 3, (some .boolean), 3, none, 0, none, 0, 3, qsX8_isWithin)
theorem qbX8_isWithin : am_mb qeX8_isWithin := ⟨am_tb_at 705 (by decide +kernel) rfl, am_tb_at 35 (by decide +kernel) rfl, ⟨by decide, by decide, by decide +kernel⟩, by decide, am_tb_at 704 (by decide +kernel) rfl⟩
set_option maxRecDepth 20000 in
theorem qvX8_isWithin (v : Int) (a : Int) (b : Int) (F : FF) (A : AA) (K : KK) (h : K (some (some (vI (bi (w32 a ≤ w32 v ∧ w32 v ≤ w32 b))))) F A) : am_line qxX8_isWithin 10 [vI v, vI a, vI b] 3 F A K := by
  show am_stp qxX8_isWithin (am_run qxX8_isWithin (fun _ => none) (fun _ _ _ _ _ _ => False) K 10) K 0 [some (vI v), some (vI a), some (vI b)] [] F A 0
  show (w32 v < w32 a → ((0 = 0 ∨ 0 = 1) ∧ (K (some (some (vI 0))) F A))) ∧ (¬ w32 v < w32 a → ((w32 b < w32 v → ((0 = 0 ∨ 0 = 1) ∧ (K (some (some (vI 0))) F A))) ∧ (¬ w32 b < w32 v → ((1 = 0 ∨ 1 = 1) ∧ (K (some (some (vI 1))) F A)))))
  refine ⟨fun c1 => ?_, fun c1 => ?_⟩
  · skip
    try simp (disch := omega) only [w32_0, w64_0, wbi0, wbi1, yc_eq0, yc_lt0, yc_gt0, Classical.not_not, w32_id, w64_id] at c1
    refine ⟨by first | exact Or.inl rfl | exact Or.inr rfl | exact bi_01 | omega, ?_⟩
    first | exact h | exact K_eq h (bi_t (by omega)) | exact K_eq h (bi_f (by omega)) | exact K_eq h (by omega)
  · skip
    try simp (disch := omega) only [w32_0, w64_0, wbi0, wbi1, yc_eq0, yc_lt0, yc_gt0, Classical.not_not, w32_id, w64_id] at c1
    refine ⟨fun c2 => ?_, fun c2 => ?_⟩
    · skip
      try simp (disch := omega) only [w32_0, w64_0, wbi0, wbi1, yc_eq0, yc_lt0, yc_gt0, Classical.not_not, w32_id, w64_id] at c2
      refine ⟨by first | exact Or.inl rfl | exact Or.inr rfl | exact bi_01 | omega, ?_⟩
      first | exact h | exact K_eq h (bi_t (by omega)) | exact K_eq h (bi_f (by omega)) | exact K_eq h (by omega)
    · skip
      try simp (disch := omega) only [w32_0, w64_0, wbi0, wbi1, yc_eq0, yc_lt0, yc_gt0, Classical.not_not, w32_id, w64_id] at c2
      refine ⟨by first | exact Or.inl rfl | exact Or.inr rfl | exact bi_01 | omega, ?_⟩
      first | exact h | exact K_eq h (bi_t (by omega)) | exact K_eq h (bi_f (by omega)) | exact K_eq h (by omega)
theorem qtX8_isWithin (l : Launch) : am_CT l layX qeX8_isWithin := am_met0 rfl (by decide +kernel) rfl rfl rfl rfl rfl (fun _ => rfl) rfl (qzX8_isWithin l) (fun k e1 h => (qyX8_isWithin l k e1 h).2) (fun as F A K h => by
  replace h : qsX8_isWithin as F A K := h
  unfold qsX8_isWithin at h
  split at h
  · rename_i v a b
    refine ⟨by first | exact Nat.le_of_ble_eq_true rfl | simp [am_fl, am_cat], ?_⟩
    exact am_way_line (qvX8_isWithin v a b F A K h)
  · exact h.elim)
def qkX8_isPlace : Nat → Option CI := fun pc => cond (Nat.ble 26 pc) none (cond (Nat.ble 12 pc) (cond (Nat.ble 20 pc) (cond (Nat.ble 24 pc) (cond (Nat.beq pc 24) (some (.iconst 0, 25, [])) (cond (Nat.beq pc 25) (some (.ireturn, 26, [])) (none))) (cond (Nat.beq pc 20) (some (.iconst 1, 21, [])) (cond (Nat.beq pc 21) (some (.goto 4, 24, [25])) (none)))) (cond (Nat.beq pc 12) (some (.bipush 20, 14, [])) (cond (Nat.beq pc 14) (some (.invokestatic 133, 17, [])) (cond (Nat.beq pc 17) (some (.ifCond .eq 7, 20, [24])) (none))))) (cond (Nat.ble 4 pc) (cond (Nat.ble 10 pc) (cond (Nat.beq pc 10) (some (.iload_n 1, 11, [])) (cond (Nat.beq pc 11) (some (.iconst 0, 12, [])) (none))) (cond (Nat.beq pc 4) (some (.invokestatic 133, 7, [])) (cond (Nat.beq pc 7) (some (.ifCond .eq 17, 10, [24])) (none)))) (cond (Nat.beq pc 0) (some (.iload_n 0, 1, [])) (cond (Nat.beq pc 1) (some (.iconst 0, 2, [])) (cond (Nat.beq pc 2) (some (.bipush 20, 4, [])) (none))))))
theorem qkX8_isPlace_ok : ∀ pc i nx ts, qkX8_isPlace pc = some (i, nx, ts) → am_cok cX8_isPlace pc (i, nx, ts) = true := fun pc i nx ts h => am_tok_ok (n := 26) (by decide +kernel) (fun pc h => by show cond (Nat.ble 26 pc) _ _ = _; rw [Nat.ble_eq_true_of_le h]; rfl) h
def qaX8_isPlace : Nat → Option CE := fun k => cond (Nat.beq k 133) (some qeX8_isWithin) (none)
theorem qyX8_isPlace (l : Launch) : ∀ k e1, qaX8_isPlace k = some e1 → am_cal l layX RX8 4 k e1 ∧ ceT e1 = 0 := q_cons ⟨am_calS (qtX8_isWithin l) qbX8_isWithin (by decide) rfl (by decide) (am_tb_at 875 (by decide +kernel) rfl), rfl⟩ (q_nil)
def qxX8_isPlace : CX := (qkX8_isPlace, layX, qfX8, qaX8_isPlace, qcX8, qlX8, qmX8, (some .boolean), false, none, 0, none, fun _ => none)
theorem qzX8_isPlace (l : Launch) : am_sta l qxX8_isPlace RX8 4 cX8_isPlace := ⟨qkX8_isPlace_ok, layX_ok, qfX8_ok, qcX8_ok, qlX8_ok, am_mthP qmX8_ok (by decide), fun k e1 h => (qyX8_isPlace l k e1 h).1⟩
def qsX8_isPlace : SP := fun as F A K => match as with
  | [.inl x, .inl y] => K (some (some (vI (bi (0 ≤ w32 x ∧ w32 x ≤ 20 ∧ 0 ≤ w32 y ∧ w32 y ≤ 20))))) F A
  | _ => False
def qeX8_isPlace : CE := (yX8_isPlace, cX8_isPlace, 2, (some .boolean), 2, none, 0, none, 0, 4, qsX8_isPlace)
theorem qbX8_isPlace : am_mb qeX8_isPlace := ⟨am_tb_at 874 (by decide +kernel) rfl, am_tb_at 35 (by decide +kernel) rfl, ⟨by decide, by decide, by decide +kernel⟩, by decide, am_tb_at 873 (by decide +kernel) rfl⟩
set_option maxRecDepth 20000 in
theorem qvX8_isPlace (x : Int) (y : Int) (F : FF) (A : AA) (K : KK) (h : K (some (some (vI (bi (0 ≤ w32 x ∧ w32 x ≤ 20 ∧ 0 ≤ w32 y ∧ w32 y ≤ 20))))) F A) : am_line qxX8_isPlace 14 [vI x, vI y] 2 F A K := by
  show am_stp qxX8_isPlace (am_run qxX8_isPlace (fun _ => none) (fun _ _ _ _ _ _ => False) K 14) K 0 [some (vI x), some (vI y)] [] F A 0
  show (w32 (bi (w32 0 ≤ w32 x ∧ w32 x ≤ w32 20)) = w32 0 → ((0 = 0 ∨ 0 = 1) ∧ (K (some (some (vI 0))) F A))) ∧ (¬ w32 (bi (w32 0 ≤ w32 x ∧ w32 x ≤ w32 20)) = w32 0 → ((w32 (bi (w32 0 ≤ w32 y ∧ w32 y ≤ w32 20)) = w32 0 → ((0 = 0 ∨ 0 = 1) ∧ (K (some (some (vI 0))) F A))) ∧ (¬ w32 (bi (w32 0 ≤ w32 y ∧ w32 y ≤ w32 20)) = w32 0 → ((1 = 0 ∨ 1 = 1) ∧ (K (some (some (vI 1))) F A)))))
  refine ⟨fun c1 => ?_, fun c1 => ?_⟩
  · skip
    (try rw [w32_bi] at c1); (try simp (disch := omega) only [w32_id, bi_0, bi_1] at c1)
    refine ⟨by first | exact Or.inl rfl | exact Or.inr rfl | exact bi_01 | omega, ?_⟩
    first | exact h | exact K_eq h (bi_t (by omega)) | exact K_eq h (bi_f (by omega)) | exact K_eq h (by omega)
  · skip
    (try rw [w32_bi] at c1); (try simp (disch := omega) only [w32_id, bi_0, bi_1] at c1)
    refine ⟨fun c2 => ?_, fun c2 => ?_⟩
    · skip
      (try rw [w32_bi] at c2); (try simp (disch := omega) only [w32_id, bi_0, bi_1] at c2)
      refine ⟨by first | exact Or.inl rfl | exact Or.inr rfl | exact bi_01 | omega, ?_⟩
      first | exact h | exact K_eq h (bi_t (by omega)) | exact K_eq h (bi_f (by omega)) | exact K_eq h (by omega)
    · skip
      (try rw [w32_bi] at c2); (try simp (disch := omega) only [w32_id, bi_0, bi_1] at c2)
      refine ⟨by first | exact Or.inl rfl | exact Or.inr rfl | exact bi_01 | omega, ?_⟩
      first | exact h | exact K_eq h (bi_t (by omega)) | exact K_eq h (bi_f (by omega)) | exact K_eq h (by omega)
theorem qtX8_isPlace (l : Launch) : am_CT l layX qeX8_isPlace := am_met0 rfl (by decide +kernel) rfl rfl rfl rfl rfl (fun _ => rfl) rfl (qzX8_isPlace l) (fun k e1 h => (qyX8_isPlace l k e1 h).2) (fun as F A K h => by
  replace h : qsX8_isPlace as F A K := h
  unfold qsX8_isPlace at h
  split at h
  · rename_i x y
    refine ⟨by first | exact Nat.le_of_ble_eq_true rfl | simp [am_fl, am_cat], ?_⟩
    exact am_way_line (qvX8_isPlace x y F A K h)
  · exact h.elim)
def qkX8_isLine : Nat → Option CI := fun pc => cond (Nat.ble 47 pc) none (cond (Nat.ble 21 pc) (cond (Nat.ble 37 pc) (cond (Nat.ble 42 pc) (cond (Nat.beq pc 42) (some (.goto 4, 45, [46])) (cond (Nat.beq pc 45) (some (.iconst 0, 46, [])) (cond (Nat.beq pc 46) (some (.ireturn, 47, [])) (none)))) (cond (Nat.beq pc 37) (some (.iload_n 1, 38, [])) (cond (Nat.beq pc 38) (some (.ifCond .eq 7, 41, [45])) (cond (Nat.beq pc 41) (some (.iconst 1, 42, [])) (none))))) (cond (Nat.ble 30 pc) (cond (Nat.beq pc 30) (some (.ifCond .eq 15, 33, [45])) (cond (Nat.beq pc 33) (some (.iload_n 0, 34, [])) (cond (Nat.beq pc 34) (some (.ifCond .ne 7, 37, [41])) (none)))) (cond (Nat.beq pc 21) (some (.sipush (-200), 24, [])) (cond (Nat.beq pc 24) (some (.sipush 200, 27, [])) (cond (Nat.beq pc 27) (some (.invokestatic 133, 30, [])) (none)))))) (cond (Nat.ble 10 pc) (cond (Nat.ble 14 pc) (cond (Nat.beq pc 14) (some (.invokestatic 133, 17, [])) (cond (Nat.beq pc 17) (some (.ifCond .eq 28, 20, [45])) (cond (Nat.beq pc 20) (some (.iload_n 2, 21, [])) (none)))) (cond (Nat.beq pc 10) (some (.iload_n 1, 11, [])) (cond (Nat.beq pc 11) (some (.bipush (-5), 13, [])) (cond (Nat.beq pc 13) (some (.iconst 5, 14, [])) (none))))) (cond (Nat.ble 3 pc) (cond (Nat.beq pc 3) (some (.iconst 5, 4, [])) (cond (Nat.beq pc 4) (some (.invokestatic 133, 7, [])) (cond (Nat.beq pc 7) (some (.ifCond .eq 38, 10, [45])) (none)))) (cond (Nat.beq pc 0) (some (.iload_n 0, 1, [])) (cond (Nat.beq pc 1) (some (.bipush (-5), 3, [])) (none))))))
theorem qkX8_isLine_ok : ∀ pc i nx ts, qkX8_isLine pc = some (i, nx, ts) → am_cok cX8_isLine pc (i, nx, ts) = true := fun pc i nx ts h => am_tok_ok (n := 47) (by decide +kernel) (fun pc h => by show cond (Nat.ble 47 pc) _ _ = _; rw [Nat.ble_eq_true_of_le h]; rfl) h
def qaX8_isLine : Nat → Option CE := fun k => cond (Nat.beq k 133) (some qeX8_isWithin) (none)
theorem qyX8_isLine (l : Launch) : ∀ k e1, qaX8_isLine k = some e1 → am_cal l layX RX8 4 k e1 ∧ ceT e1 = 0 := q_cons ⟨am_calS (qtX8_isWithin l) qbX8_isWithin (by decide) rfl (by decide) (am_tb_at 875 (by decide +kernel) rfl), rfl⟩ (q_nil)
def qxX8_isLine : CX := (qkX8_isLine, layX, qfX8, qaX8_isLine, qcX8, qlX8, qmX8, (some .boolean), false, none, 0, none, fun _ => none)
theorem qzX8_isLine (l : Launch) : am_sta l qxX8_isLine RX8 4 cX8_isLine := ⟨qkX8_isLine_ok, layX_ok, qfX8_ok, qcX8_ok, qlX8_ok, am_mthP qmX8_ok (by decide), fun k e1 h => (qyX8_isLine l k e1 h).1⟩
def qsX8_isLine : SP := fun as F A K => match as with
  | [.inl a, .inl b, .inl c] => K (some (some (vI (bi (-5 ≤ w32 a ∧ w32 a ≤ 5 ∧ -5 ≤ w32 b ∧ w32 b ≤ 5 ∧ -200 ≤ w32 c ∧ w32 c ≤ 200 ∧ (w32 a ≠ 0 ∨ w32 b ≠ 0)))))) F A
  | _ => False
def qeX8_isLine : CE := (yX8_isLine, cX8_isLine, 3, (some .boolean), 3, none, 0, none, 0, 4, qsX8_isLine)
theorem qbX8_isLine : am_mb qeX8_isLine := ⟨am_tb_at 936 (by decide +kernel) rfl, am_tb_at 35 (by decide +kernel) rfl, ⟨by decide, by decide, by decide +kernel⟩, by decide, am_tb_at 935 (by decide +kernel) rfl⟩
set_option maxRecDepth 20000 in
theorem qvX8_isLine (a : Int) (b : Int) (c : Int) (F : FF) (A : AA) (K : KK) (h : K (some (some (vI (bi (-5 ≤ w32 a ∧ w32 a ≤ 5 ∧ -5 ≤ w32 b ∧ w32 b ≤ 5 ∧ -200 ≤ w32 c ∧ w32 c ≤ 200 ∧ (w32 a ≠ 0 ∨ w32 b ≠ 0)))))) F A) : am_line qxX8_isLine 23 [vI a, vI b, vI c] 3 F A K := by
  show am_stp qxX8_isLine (am_run qxX8_isLine (fun _ => none) (fun _ _ _ _ _ _ => False) K 23) K 0 [some (vI a), some (vI b), some (vI c)] [] F A 0
  show (w32 (bi (w32 (-5) ≤ w32 a ∧ w32 a ≤ w32 5)) = w32 0 → ((0 = 0 ∨ 0 = 1) ∧ (K (some (some (vI 0))) F A))) ∧ (¬ w32 (bi (w32 (-5) ≤ w32 a ∧ w32 a ≤ w32 5)) = w32 0 → ((w32 (bi (w32 (-5) ≤ w32 b ∧ w32 b ≤ w32 5)) = w32 0 → ((0 = 0 ∨ 0 = 1) ∧ (K (some (some (vI 0))) F A))) ∧ (¬ w32 (bi (w32 (-5) ≤ w32 b ∧ w32 b ≤ w32 5)) = w32 0 → ((w32 (bi (w32 (-200) ≤ w32 c ∧ w32 c ≤ w32 200)) = w32 0 → ((0 = 0 ∨ 0 = 1) ∧ (K (some (some (vI 0))) F A))) ∧ (¬ w32 (bi (w32 (-200) ≤ w32 c ∧ w32 c ≤ w32 200)) = w32 0 → ((w32 a = w32 0 → ((w32 b = w32 0 → ((0 = 0 ∨ 0 = 1) ∧ (K (some (some (vI 0))) F A))) ∧ (¬ w32 b = w32 0 → ((1 = 0 ∨ 1 = 1) ∧ (K (some (some (vI 1))) F A))))) ∧ (¬ w32 a = w32 0 → ((1 = 0 ∨ 1 = 1) ∧ (K (some (some (vI 1))) F A)))))))))
  refine ⟨fun c1 => ?_, fun c1 => ?_⟩
  · skip
    (try rw [w32_bi] at c1); (try simp (disch := omega) only [w32_id, bi_0, bi_1] at c1)
    refine ⟨by first | exact Or.inl rfl | exact Or.inr rfl | exact bi_01 | omega, ?_⟩
    first | exact h | exact K_eq h (bi_t (by omega)) | exact K_eq h (bi_f (by omega)) | exact K_eq h (by omega)
  · skip
    (try rw [w32_bi] at c1); (try simp (disch := omega) only [w32_id, bi_0, bi_1] at c1)
    refine ⟨fun c2 => ?_, fun c2 => ?_⟩
    · skip
      (try rw [w32_bi] at c2); (try simp (disch := omega) only [w32_id, bi_0, bi_1] at c2)
      refine ⟨by first | exact Or.inl rfl | exact Or.inr rfl | exact bi_01 | omega, ?_⟩
      first | exact h | exact K_eq h (bi_t (by omega)) | exact K_eq h (bi_f (by omega)) | exact K_eq h (by omega)
    · skip
      (try rw [w32_bi] at c2); (try simp (disch := omega) only [w32_id, bi_0, bi_1] at c2)
      refine ⟨fun c3 => ?_, fun c3 => ?_⟩
      · skip
        (try rw [w32_bi] at c3); (try simp (disch := omega) only [w32_id, bi_0, bi_1] at c3)
        refine ⟨by first | exact Or.inl rfl | exact Or.inr rfl | exact bi_01 | omega, ?_⟩
        first | exact h | exact K_eq h (bi_t (by omega)) | exact K_eq h (bi_f (by omega)) | exact K_eq h (by omega)
      · skip
        (try rw [w32_bi] at c3); (try simp (disch := omega) only [w32_id, bi_0, bi_1] at c3)
        refine ⟨fun c4 => ?_, fun c4 => ?_⟩
        · skip
          (try rw [w32_bi] at c4); (try simp (disch := omega) only [w32_id, bi_0, bi_1] at c4)
          refine ⟨fun c5 => ?_, fun c5 => ?_⟩
          · skip
            (try rw [w32_bi] at c5); (try simp (disch := omega) only [w32_id, bi_0, bi_1] at c5)
            refine ⟨by first | exact Or.inl rfl | exact Or.inr rfl | exact bi_01 | omega, ?_⟩
            first | exact h | exact K_eq h (bi_t (by omega)) | exact K_eq h (bi_f (by omega)) | exact K_eq h (by omega)
          · skip
            (try rw [w32_bi] at c5); (try simp (disch := omega) only [w32_id, bi_0, bi_1] at c5)
            refine ⟨by first | exact Or.inl rfl | exact Or.inr rfl | exact bi_01 | omega, ?_⟩
            first | exact h | exact K_eq h (bi_t (by omega)) | exact K_eq h (bi_f (by omega)) | exact K_eq h (by omega)
        · skip
          (try rw [w32_bi] at c4); (try simp (disch := omega) only [w32_id, bi_0, bi_1] at c4)
          refine ⟨by first | exact Or.inl rfl | exact Or.inr rfl | exact bi_01 | omega, ?_⟩
          first | exact h | exact K_eq h (bi_t (by omega)) | exact K_eq h (bi_f (by omega)) | exact K_eq h (by omega)
theorem qtX8_isLine (l : Launch) : am_CT l layX qeX8_isLine := am_met0 rfl (by decide +kernel) rfl rfl rfl rfl rfl (fun _ => rfl) rfl (qzX8_isLine l) (fun k e1 h => (qyX8_isLine l k e1 h).2) (fun as F A K h => by
  replace h : qsX8_isLine as F A K := h
  unfold qsX8_isLine at h
  split at h
  · rename_i a b c
    refine ⟨by first | exact Nat.le_of_ble_eq_true rfl | simp [am_fl, am_cat], ?_⟩
    exact am_way_line (qvX8_isLine a b c F A K h)
  · exact h.elim)
def qkX8_isSetting : Nat → Option CI := fun pc => cond (Nat.ble 15 pc) none (cond (Nat.ble 6 pc) (cond (Nat.ble 10 pc) (cond (Nat.beq pc 10) (some (.goto 4, 13, [14])) (cond (Nat.beq pc 13) (some (.iconst 0, 14, [])) (cond (Nat.beq pc 14) (some (.ireturn, 15, [])) (none)))) (cond (Nat.beq pc 6) (some (.if_icmp .ne 7, 9, [13])) (cond (Nat.beq pc 9) (some (.iconst 1, 10, [])) (none)))) (cond (Nat.ble 4 pc) (cond (Nat.beq pc 4) (some (.iload_n 0, 5, [])) (cond (Nat.beq pc 5) (some (.iconst 1, 6, [])) (none))) (cond (Nat.beq pc 0) (some (.iload_n 0, 1, [])) (cond (Nat.beq pc 1) (some (.ifCond .eq 8, 4, [9])) (none)))))
theorem qkX8_isSetting_ok : ∀ pc i nx ts, qkX8_isSetting pc = some (i, nx, ts) → am_cok cX8_isSetting pc (i, nx, ts) = true := fun pc i nx ts h => am_tok_ok (n := 15) (by decide +kernel) (fun pc h => by show cond (Nat.ble 15 pc) _ _ = _; rw [Nat.ble_eq_true_of_le h]; rfl) h
def qaX8_isSetting : Nat → Option CE := fun k => none
theorem qyX8_isSetting (l : Launch) : ∀ k e1, qaX8_isSetting k = some e1 → am_cal l layX RX8 3 k e1 ∧ ceT e1 = 0 := q_nil
def qxX8_isSetting : CX := (qkX8_isSetting, layX, qfX8, qaX8_isSetting, qcX8, qlX8, qmX8, (some .boolean), false, none, 0, none, fun _ => none)
theorem qzX8_isSetting (l : Launch) : am_sta l qxX8_isSetting RX8 3 cX8_isSetting := ⟨qkX8_isSetting_ok, layX_ok, qfX8_ok, qcX8_ok, qlX8_ok, am_mthP qmX8_ok (by decide), fun k e1 h => (qyX8_isSetting l k e1 h).1⟩
def qsX8_isSetting : SP := fun as F A K => match as with
  | [.inl s] => K (some (some (vI (bi (w32 s = 0 ∨ w32 s = 1))))) F A
  | _ => False
def qeX8_isSetting : CE := (yX8_isSetting, cX8_isSetting, 1, (some .boolean), 1, none, 0, none, 0, 3, qsX8_isSetting)
theorem qbX8_isSetting : am_mb qeX8_isSetting := ⟨am_tb_at 974 (by decide +kernel) rfl, am_tb_at 35 (by decide +kernel) rfl, ⟨by decide, by decide, by decide +kernel⟩, by decide, am_tb_at 973 (by decide +kernel) rfl⟩
set_option maxRecDepth 20000 in
theorem qvX8_isSetting (s : Int) (F : FF) (A : AA) (K : KK) (h : K (some (some (vI (bi (w32 s = 0 ∨ w32 s = 1))))) F A) : am_line qxX8_isSetting 9 [vI s] 1 F A K := by
  show am_stp qxX8_isSetting (am_run qxX8_isSetting (fun _ => none) (fun _ _ _ _ _ _ => False) K 9) K 0 [some (vI s)] [] F A 0
  show (w32 s = w32 0 → ((1 = 0 ∨ 1 = 1) ∧ (K (some (some (vI 1))) F A))) ∧ (¬ w32 s = w32 0 → ((w32 s = w32 1 → ((1 = 0 ∨ 1 = 1) ∧ (K (some (some (vI 1))) F A))) ∧ (¬ w32 s = w32 1 → ((0 = 0 ∨ 0 = 1) ∧ (K (some (some (vI 0))) F A)))))
  refine ⟨fun c1 => ?_, fun c1 => ?_⟩
  · skip
    (try rw [w32_bi] at c1); (try simp (disch := omega) only [w32_id, bi_0, bi_1] at c1)
    refine ⟨by first | exact Or.inl rfl | exact Or.inr rfl | exact bi_01 | omega, ?_⟩
    first | exact h | exact K_eq h (bi_t (by omega)) | exact K_eq h (bi_f (by omega)) | exact K_eq h (by omega)
  · skip
    (try rw [w32_bi] at c1); (try simp (disch := omega) only [w32_id, bi_0, bi_1] at c1)
    refine ⟨fun c2 => ?_, fun c2 => ?_⟩
    · skip
      (try rw [w32_bi] at c2); (try simp (disch := omega) only [w32_id, bi_0, bi_1] at c2)
      refine ⟨by first | exact Or.inl rfl | exact Or.inr rfl | exact bi_01 | omega, ?_⟩
      first | exact h | exact K_eq h (bi_t (by omega)) | exact K_eq h (bi_f (by omega)) | exact K_eq h (by omega)
    · skip
      (try rw [w32_bi] at c2); (try simp (disch := omega) only [w32_id, bi_0, bi_1] at c2)
      refine ⟨by first | exact Or.inl rfl | exact Or.inr rfl | exact bi_01 | omega, ?_⟩
      first | exact h | exact K_eq h (bi_t (by omega)) | exact K_eq h (bi_f (by omega)) | exact K_eq h (by omega)
theorem qtX8_isSetting (l : Launch) : am_CT l layX qeX8_isSetting := am_met0 rfl (by decide +kernel) rfl rfl rfl rfl rfl (fun _ => rfl) rfl (qzX8_isSetting l) (fun k e1 h => (qyX8_isSetting l k e1 h).2) (fun as F A K h => by
  replace h : qsX8_isSetting as F A K := h
  unfold qsX8_isSetting at h
  split at h
  · rename_i s
    refine ⟨by first | exact Nat.le_of_ble_eq_true rfl | simp [am_fl, am_cat], ?_⟩
    exact am_way_line (qvX8_isSetting s F A K h)
  · exact h.elim)
def qkX8_greatestOf : Nat → Option CI := fun pc => cond (Nat.ble 12 pc) none (cond (Nat.ble 6 pc) (cond (Nat.beq pc 6) (some (.goto 5, 9, [11])) (cond (Nat.beq pc 9) (some (.bipush 6, 11, [])) (cond (Nat.beq pc 11) (some (.ireturn, 12, [])) (none)))) (cond (Nat.beq pc 0) (some (.iload_n 0, 1, [])) (cond (Nat.beq pc 1) (some (.ifCond .ne 8, 4, [9])) (cond (Nat.beq pc 4) (some (.bipush 12, 6, [])) (none)))))
theorem qkX8_greatestOf_ok : ∀ pc i nx ts, qkX8_greatestOf pc = some (i, nx, ts) → am_cok cX8_greatestOf pc (i, nx, ts) = true := fun pc i nx ts h => am_tok_ok (n := 12) (by decide +kernel) (fun pc h => by show cond (Nat.ble 12 pc) _ _ = _; rw [Nat.ble_eq_true_of_le h]; rfl) h
def qaX8_greatestOf : Nat → Option CE := fun k => none
theorem qyX8_greatestOf (l : Launch) : ∀ k e1, qaX8_greatestOf k = some e1 → am_cal l layX RX8 3 k e1 ∧ ceT e1 = 0 := q_nil
def qxX8_greatestOf : CX := (qkX8_greatestOf, layX, qfX8, qaX8_greatestOf, qcX8, qlX8, qmX8, (some .int), false, none, 0, none, fun _ => none)
theorem qzX8_greatestOf (l : Launch) : am_sta l qxX8_greatestOf RX8 3 cX8_greatestOf := ⟨qkX8_greatestOf_ok, layX_ok, qfX8_ok, qcX8_ok, qlX8_ok, am_mthP qmX8_ok (by decide), fun k e1 h => (qyX8_greatestOf l k e1 h).1⟩
def qsX8_greatestOf : SP := fun as F A K => match as with
  | [.inl s] => K (some (some (vI (if w32 s = 0 then 12 else 6)))) F A
  | _ => False
def qeX8_greatestOf : CE := (yX8_greatestOf, cX8_greatestOf, 1, (some .int), 1, none, 0, none, 0, 3, qsX8_greatestOf)
theorem qbX8_greatestOf : am_mb qeX8_greatestOf := ⟨am_tb_at 740 (by decide +kernel) rfl, am_tb_at 35 (by decide +kernel) rfl, ⟨by decide, by decide, by decide +kernel⟩, by decide, am_tb_at 739 (by decide +kernel) rfl⟩
set_option maxRecDepth 20000 in
theorem qvX8_greatestOf (s : Int) (F : FF) (A : AA) (K : KK) (h : K (some (some (vI (if w32 s = 0 then 12 else 6)))) F A) : am_line qxX8_greatestOf 6 [vI s] 1 F A K := by
  show am_stp qxX8_greatestOf (am_run qxX8_greatestOf (fun _ => none) (fun _ _ _ _ _ _ => False) K 6) K 0 [some (vI s)] [] F A 0
  show (w32 s = w32 0 → (K (some (some (vI 12))) F A)) ∧ (¬ w32 s = w32 0 → (K (some (some (vI 6))) F A))
  refine ⟨fun c1 => ?_, fun c1 => ?_⟩
  · skip
    try simp (disch := omega) only [w32_id] at c1
    first | exact K_eq h (if_pos (by omega)) | exact K_eq h (if_neg (by omega))
  · skip
    try simp (disch := omega) only [w32_id] at c1
    first | exact K_eq h (if_pos (by omega)) | exact K_eq h (if_neg (by omega))
theorem qtX8_greatestOf (l : Launch) : am_CT l layX qeX8_greatestOf := am_met0 rfl (by decide +kernel) rfl rfl rfl rfl rfl (fun _ => rfl) rfl (qzX8_greatestOf l) (fun k e1 h => (qyX8_greatestOf l k e1 h).2) (fun as F A K h => by
  replace h : qsX8_greatestOf as F A K := h
  unfold qsX8_greatestOf at h
  split at h
  · rename_i s
    refine ⟨by first | exact Nat.le_of_ble_eq_true rfl | simp [am_fl, am_cat], ?_⟩
    exact am_way_line (qvX8_greatestOf s F A K h)
  · exact h.elim)
def qkX8_isCell : Nat → Option CI := fun pc => cond (Nat.ble 26 pc) none (cond (Nat.ble 14 pc) (cond (Nat.ble 20 pc) (cond (Nat.ble 24 pc) (cond (Nat.beq pc 24) (some (.iconst 0, 25, [])) (cond (Nat.beq pc 25) (some (.ireturn, 26, [])) (none))) (cond (Nat.beq pc 20) (some (.iconst 1, 21, [])) (cond (Nat.beq pc 21) (some (.goto 4, 24, [25])) (none)))) (cond (Nat.ble 16 pc) (cond (Nat.beq pc 16) (some (.ishl, 17, [])) (cond (Nat.beq pc 17) (some (.if_icmp .ge 7, 20, [24])) (none))) (cond (Nat.beq pc 14) (some (.iconst 1, 15, [])) (cond (Nat.beq pc 15) (some (.iload_n 0, 16, [])) (none))))) (cond (Nat.ble 6 pc) (cond (Nat.ble 10 pc) (cond (Nat.beq pc 10) (some (.ifCond .lt 14, 13, [24])) (cond (Nat.beq pc 13) (some (.iload_n 1, 14, [])) (none))) (cond (Nat.beq pc 6) (some (.ifCond .eq 18, 9, [24])) (cond (Nat.beq pc 9) (some (.iload_n 1, 10, [])) (none)))) (cond (Nat.ble 2 pc) (cond (Nat.beq pc 2) (some (.iload_n 2, 3, [])) (cond (Nat.beq pc 3) (some (.invokestatic 133, 6, [])) (none))) (cond (Nat.beq pc 0) (some (.iload_n 0, 1, [])) (cond (Nat.beq pc 1) (some (.iconst 0, 2, [])) (none))))))
theorem qkX8_isCell_ok : ∀ pc i nx ts, qkX8_isCell pc = some (i, nx, ts) → am_cok cX8_isCell pc (i, nx, ts) = true := fun pc i nx ts h => am_tok_ok (n := 26) (by decide +kernel) (fun pc h => by show cond (Nat.ble 26 pc) _ _ = _; rw [Nat.ble_eq_true_of_le h]; rfl) h
def qaX8_isCell : Nat → Option CE := fun k => cond (Nat.beq k 133) (some qeX8_isWithin) (none)
theorem qyX8_isCell (l : Launch) : ∀ k e1, qaX8_isCell k = some e1 → am_cal l layX RX8 4 k e1 ∧ ceT e1 = 0 := q_cons ⟨am_calS (qtX8_isWithin l) qbX8_isWithin (by decide) rfl (by decide) (am_tb_at 875 (by decide +kernel) rfl), rfl⟩ (q_nil)
def qxX8_isCell : CX := (qkX8_isCell, layX, qfX8, qaX8_isCell, qcX8, qlX8, qmX8, (some .boolean), false, none, 0, none, fun _ => none)
theorem qzX8_isCell (l : Launch) : am_sta l qxX8_isCell RX8 4 cX8_isCell := ⟨qkX8_isCell_ok, layX_ok, qfX8_ok, qcX8_ok, qlX8_ok, am_mthP qmX8_ok (by decide), fun k e1 h => (qyX8_isCell l k e1 h).1⟩
def qsX8_isCell : SP := fun as F A K => match as with
  | [.inl d, .inl q, .inl m] => (0 ≤ m ∧ m ≤ 12) ∧ (K (some (some (vI (bi (0 ≤ w32 d ∧ w32 d ≤ m ∧ 0 ≤ w32 q ∧ w32 q < p2 (w32 d)))))) F A)
  | _ => False
def qeX8_isCell : CE := (yX8_isCell, cX8_isCell, 3, (some .boolean), 3, none, 0, none, 0, 4, qsX8_isCell)
theorem qbX8_isCell : am_mb qeX8_isCell := ⟨am_tb_at 994 (by decide +kernel) rfl, am_tb_at 35 (by decide +kernel) rfl, ⟨by decide, by decide, by decide +kernel⟩, by decide, am_tb_at 993 (by decide +kernel) rfl⟩
set_option maxRecDepth 20000 in
theorem qvX8_isCell (d : Int) (q : Int) (m : Int) (F : FF) (A : AA) (K : KK) (h : (0 ≤ m ∧ m ≤ 12) ∧ (K (some (some (vI (bi (0 ≤ w32 d ∧ w32 d ≤ m ∧ 0 ≤ w32 q ∧ w32 q < p2 (w32 d)))))) F A)) : am_line qxX8_isCell 16 [vI d, vI q, vI m] 3 F A K := by
  show am_stp qxX8_isCell (am_run qxX8_isCell (fun _ => none) (fun _ _ _ _ _ _ => False) K 16) K 0 [some (vI d), some (vI q), some (vI m)] [] F A 0
  obtain ⟨hp, h⟩ := h
  show (w32 (bi (w32 0 ≤ w32 d ∧ w32 d ≤ w32 m)) = w32 0 → ((0 = 0 ∨ 0 = 1) ∧ (K (some (some (vI 0))) F A))) ∧ (¬ w32 (bi (w32 0 ≤ w32 d ∧ w32 d ≤ w32 m)) = w32 0 → ((w32 q < w32 0 → ((0 = 0 ∨ 0 = 1) ∧ (K (some (some (vI 0))) F A))) ∧ (¬ w32 q < w32 0 → ((w32 q < w32 (x_shl 1 d) → ((1 = 0 ∨ 1 = 1) ∧ (K (some (some (vI 1))) F A))) ∧ (¬ w32 q < w32 (x_shl 1 d) → ((0 = 0 ∨ 0 = 1) ∧ (K (some (some (vI 0))) F A)))))))
  refine ⟨fun c1 => ?_, fun c1 => ?_⟩
  · skip
    (try rw [w32_bi] at c1); (try simp (disch := omega) only [w32_id, bi_0, bi_1] at c1); (try rw [xs_w (by omega) (by omega)] at c1); (try have hp2 := @p2_12' (w32 d) (by omega)); (try have hp3 := @p2_pos (w32 d)); (try simp (disch := omega) only [w32_id] at c1)
    refine ⟨by first | exact Or.inl rfl | exact Or.inr rfl | exact bi_01 | omega, ?_⟩
    first | exact h | exact K_eq h (bi_t (by omega)) | exact K_eq h (bi_f (by omega)) | exact K_eq h (by omega)
  · skip
    (try rw [w32_bi] at c1); (try simp (disch := omega) only [w32_id, bi_0, bi_1] at c1); (try rw [xs_w (by omega) (by omega)] at c1); (try have hp2 := @p2_12' (w32 d) (by omega)); (try have hp3 := @p2_pos (w32 d)); (try simp (disch := omega) only [w32_id] at c1)
    refine ⟨fun c2 => ?_, fun c2 => ?_⟩
    · skip
      (try rw [w32_bi] at c2); (try simp (disch := omega) only [w32_id, bi_0, bi_1] at c2); (try rw [xs_w (by omega) (by omega)] at c2); (try have hp2 := @p2_12' (w32 d) (by omega)); (try have hp3 := @p2_pos (w32 d)); (try simp (disch := omega) only [w32_id] at c2)
      refine ⟨by first | exact Or.inl rfl | exact Or.inr rfl | exact bi_01 | omega, ?_⟩
      first | exact h | exact K_eq h (bi_t (by omega)) | exact K_eq h (bi_f (by omega)) | exact K_eq h (by omega)
    · skip
      (try rw [w32_bi] at c2); (try simp (disch := omega) only [w32_id, bi_0, bi_1] at c2); (try rw [xs_w (by omega) (by omega)] at c2); (try have hp2 := @p2_12' (w32 d) (by omega)); (try have hp3 := @p2_pos (w32 d)); (try simp (disch := omega) only [w32_id] at c2)
      refine ⟨fun c3 => ?_, fun c3 => ?_⟩
      · skip
        (try rw [w32_bi] at c3); (try simp (disch := omega) only [w32_id, bi_0, bi_1] at c3); (try rw [xs_w (by omega) (by omega)] at c3); (try have hp2 := @p2_12' (w32 d) (by omega)); (try have hp3 := @p2_pos (w32 d)); (try simp (disch := omega) only [w32_id] at c3)
        refine ⟨by first | exact Or.inl rfl | exact Or.inr rfl | exact bi_01 | omega, ?_⟩
        first | exact h | exact K_eq h (bi_t (by omega)) | exact K_eq h (bi_f (by omega)) | exact K_eq h (by omega)
      · skip
        (try rw [w32_bi] at c3); (try simp (disch := omega) only [w32_id, bi_0, bi_1] at c3); (try rw [xs_w (by omega) (by omega)] at c3); (try have hp2 := @p2_12' (w32 d) (by omega)); (try have hp3 := @p2_pos (w32 d)); (try simp (disch := omega) only [w32_id] at c3)
        refine ⟨by first | exact Or.inl rfl | exact Or.inr rfl | exact bi_01 | omega, ?_⟩
        first | exact h | exact K_eq h (bi_t (by omega)) | exact K_eq h (bi_f (by omega)) | exact K_eq h (by omega)
theorem qtX8_isCell (l : Launch) : am_CT l layX qeX8_isCell := am_met0 rfl (by decide +kernel) rfl rfl rfl rfl rfl (fun _ => rfl) rfl (qzX8_isCell l) (fun k e1 h => (qyX8_isCell l k e1 h).2) (fun as F A K h => by
  replace h : qsX8_isCell as F A K := h
  unfold qsX8_isCell at h
  split at h
  · rename_i d q m
    refine ⟨by first | exact Nat.le_of_ble_eq_true rfl | simp [am_fl, am_cat], ?_⟩
    exact am_way_line (qvX8_isCell d q m F A K h)
  · exact h.elim)
def qkX8_signOf : Nat → Option CI := fun pc => cond (Nat.ble 22 pc) none (cond (Nat.ble 11 pc) (cond (Nat.ble 16 pc) (cond (Nat.ble 20 pc) (cond (Nat.beq pc 20) (some (.iconst 0, 21, [])) (cond (Nat.beq pc 21) (some (.ireturn, 22, [])) (none))) (cond (Nat.beq pc 16) (some (.iconst (-1), 17, [])) (cond (Nat.beq pc 17) (some (.goto 4, 20, [21])) (none)))) (cond (Nat.beq pc 11) (some (.lconst 0, 12, [])) (cond (Nat.beq pc 12) (some (.lcmp, 13, [])) (cond (Nat.beq pc 13) (some (.ifCond .ge 7, 16, [20])) (none))))) (cond (Nat.ble 3 pc) (cond (Nat.ble 7 pc) (cond (Nat.beq pc 7) (some (.goto 14, 10, [21])) (cond (Nat.beq pc 10) (some (.lload_n 0, 11, [])) (none))) (cond (Nat.beq pc 3) (some (.ifCond .le 7, 6, [10])) (cond (Nat.beq pc 6) (some (.iconst 1, 7, [])) (none)))) (cond (Nat.beq pc 0) (some (.lload_n 0, 1, [])) (cond (Nat.beq pc 1) (some (.lconst 0, 2, [])) (cond (Nat.beq pc 2) (some (.lcmp, 3, [])) (none))))))
theorem qkX8_signOf_ok : ∀ pc i nx ts, qkX8_signOf pc = some (i, nx, ts) → am_cok cX8_signOf pc (i, nx, ts) = true := fun pc i nx ts h => am_tok_ok (n := 22) (by decide +kernel) (fun pc h => by show cond (Nat.ble 22 pc) _ _ = _; rw [Nat.ble_eq_true_of_le h]; rfl) h
def qaX8_signOf : Nat → Option CE := fun k => none
theorem qyX8_signOf (l : Launch) : ∀ k e1, qaX8_signOf k = some e1 → am_cal l layX RX8 3 k e1 ∧ ceT e1 = 0 := q_nil
def qxX8_signOf : CX := (qkX8_signOf, layX, qfX8, qaX8_signOf, qcX8, qlX8, qmX8, (some .int), false, none, 0, none, fun _ => none)
theorem qzX8_signOf (l : Launch) : am_sta l qxX8_signOf RX8 3 cX8_signOf := ⟨qkX8_signOf_ok, layX_ok, qfX8_ok, qcX8_ok, qlX8_ok, am_mthP qmX8_ok (by decide), fun k e1 h => (qyX8_signOf l k e1 h).1⟩
def qsX8_signOf : SP := fun as F A K => match as with
  | [.inr (.inl x)] => K (some (some (vI (sg (w64 x))))) F A
  | _ => False
def qeX8_signOf : CE := (yX8_signOf, cX8_signOf, 2, (some .int), 1, none, 0, none, 0, 3, qsX8_signOf)
theorem qbX8_signOf : am_mb qeX8_signOf := ⟨am_tb_at 1115 (by decide +kernel) rfl, am_tb_at 35 (by decide +kernel) rfl, ⟨by decide, by decide, by decide +kernel⟩, by decide, am_tb_at 1114 (by decide +kernel) rfl⟩
set_option maxRecDepth 20000 in
theorem qvX8_signOf (x : Int) (F : FF) (A : AA) (K : KK) (h : K (some (some (vI (sg (w64 x))))) F A) : am_line qxX8_signOf 12 [vL x] 2 F A K := by
  show am_stp qxX8_signOf (am_run qxX8_signOf (fun _ => none) (fun _ _ _ _ _ _ => False) K 12) K 0 [some (vL x), none] [] F A 0
  show (w32 0 < w32 (y_cmp x 0) → (K (some (some (vI 1))) F A)) ∧ (¬ w32 0 < w32 (y_cmp x 0) → ((w32 (y_cmp x 0) < w32 0 → (K (some (some (vI (-1)))) F A)) ∧ (¬ w32 (y_cmp x 0) < w32 0 → (K (some (some (vI 0))) F A))))
  refine ⟨fun c1 => ?_, fun c1 => ?_⟩
  · skip
    (try rw [y_cmp_eq] at c1); (try simp (disch := omega) only [w32_id, w64_id, sg_w] at c1)
    refine K_eq h ?_
    have e0 : w64 0 = 0 := rfl
    have q1 := sg_cases (w64 x - 0)
    have e1 : sg (w64 x - 0) = sg (w64 x) := by congr 1; omega
    have q2 := sg_cases (w64 x)
    omega
  · skip
    (try rw [y_cmp_eq] at c1); (try simp (disch := omega) only [w32_id, w64_id, sg_w] at c1)
    refine ⟨fun c2 => ?_, fun c2 => ?_⟩
    · skip
      (try rw [y_cmp_eq] at c2); (try simp (disch := omega) only [w32_id, w64_id, sg_w] at c2)
      refine K_eq h ?_
      have e0 : w64 0 = 0 := rfl
      have q1 := sg_cases (w64 x - 0)
      have e1 : sg (w64 x - 0) = sg (w64 x) := by congr 1; omega
      have q2 := sg_cases (w64 x)
      omega
    · skip
      (try rw [y_cmp_eq] at c2); (try simp (disch := omega) only [w32_id, w64_id, sg_w] at c2)
      refine K_eq h ?_
      have e0 : w64 0 = 0 := rfl
      have q1 := sg_cases (w64 x - 0)
      have e1 : sg (w64 x - 0) = sg (w64 x) := by congr 1; omega
      have q2 := sg_cases (w64 x)
      omega
theorem qtX8_signOf (l : Launch) : am_CT l layX qeX8_signOf := am_met0 rfl (by decide +kernel) rfl rfl rfl rfl rfl (fun _ => rfl) rfl (qzX8_signOf l) (fun k e1 h => (qyX8_signOf l k e1 h).2) (fun as F A K h => by
  replace h : qsX8_signOf as F A K := h
  unfold qsX8_signOf at h
  split at h
  · rename_i x
    refine ⟨by first | exact Nat.le_of_ble_eq_true rfl | simp [am_fl, am_cat], ?_⟩
    exact am_way_line (qvX8_signOf x F A K h)
  · exact h.elim)
def qkX8_nodeOf : Nat → Option CI := fun pc => cond (Nat.ble 8 pc) none (cond (Nat.ble 4 pc) (cond (Nat.ble 6 pc) (cond (Nat.beq pc 6) (some (.iadd, 7, [])) (cond (Nat.beq pc 7) (some (.ireturn, 8, [])) (none))) (cond (Nat.beq pc 4) (some (.isub, 5, [])) (cond (Nat.beq pc 5) (some (.iload_n 1, 6, [])) (none)))) (cond (Nat.ble 2 pc) (cond (Nat.beq pc 2) (some (.ishl, 3, [])) (cond (Nat.beq pc 3) (some (.iconst 1, 4, [])) (none))) (cond (Nat.beq pc 0) (some (.iconst 1, 1, [])) (cond (Nat.beq pc 1) (some (.iload_n 0, 2, [])) (none)))))
theorem qkX8_nodeOf_ok : ∀ pc i nx ts, qkX8_nodeOf pc = some (i, nx, ts) → am_cok cX8_nodeOf pc (i, nx, ts) = true := fun pc i nx ts h => am_tok_ok (n := 8) (by decide +kernel) (fun pc h => by show cond (Nat.ble 8 pc) _ _ = _; rw [Nat.ble_eq_true_of_le h]; rfl) h
def qaX8_nodeOf : Nat → Option CE := fun k => none
theorem qyX8_nodeOf (l : Launch) : ∀ k e1, qaX8_nodeOf k = some e1 → am_cal l layX RX8 3 k e1 ∧ ceT e1 = 0 := q_nil
def qxX8_nodeOf : CX := (qkX8_nodeOf, layX, qfX8, qaX8_nodeOf, qcX8, qlX8, qmX8, (some .int), false, none, 0, none, fun _ => none)
theorem qzX8_nodeOf (l : Launch) : am_sta l qxX8_nodeOf RX8 3 cX8_nodeOf := ⟨qkX8_nodeOf_ok, layX_ok, qfX8_ok, qcX8_ok, qlX8_ok, am_mthP qmX8_ok (by decide), fun k e1 h => (qyX8_nodeOf l k e1 h).1⟩
def qsX8_nodeOf : SP := fun as F A K => match as with
  | [.inl d, .inl q] => K (some (some (vI (x_shl 1 d - 1 + q)))) F A
  | _ => False
def qeX8_nodeOf : CE := (yX8_nodeOf, cX8_nodeOf, 2, (some .int), 2, none, 0, none, 0, 3, qsX8_nodeOf)
theorem qbX8_nodeOf : am_mb qeX8_nodeOf := ⟨am_tb_at 1039 (by decide +kernel) rfl, am_tb_at 35 (by decide +kernel) rfl, ⟨by decide, by decide, by decide +kernel⟩, by decide, am_tb_at 1038 (by decide +kernel) rfl⟩
set_option maxRecDepth 20000 in
theorem qvX8_nodeOf (d : Int) (q : Int) (F : FF) (A : AA) (K : KK) (h : K (some (some (vI (x_shl 1 d - 1 + q)))) F A) : am_line qxX8_nodeOf 9 [vI d, vI q] 2 F A K := by
  show am_stp qxX8_nodeOf (am_run qxX8_nodeOf (fun _ => none) (fun _ _ _ _ _ _ => False) K 9) K 0 [some (vI d), some (vI q)] [] F A 0
  show K (some (some (vI (((x_shl 1 d) - 1) + q)))) F A
  first | exact h | exact K_eq h (by first | omega | (simp (disch := omega) only [w32_0, w64_0, wbi0, wbi1, yc_eq0, yc_lt0, yc_gt0, Classical.not_not, w32_id, w64_id]; omega) | (simp (disch := omega) only [w32_0, w64_0, wbi0, wbi1, yc_eq0, yc_lt0, yc_gt0, Classical.not_not, w32_id, w64_id]; done))
theorem qtX8_nodeOf (l : Launch) : am_CT l layX qeX8_nodeOf := am_met0 rfl (by decide +kernel) rfl rfl rfl rfl rfl (fun _ => rfl) rfl (qzX8_nodeOf l) (fun k e1 h => (qyX8_nodeOf l k e1 h).2) (fun as F A K h => by
  replace h : qsX8_nodeOf as F A K := h
  unfold qsX8_nodeOf at h
  split at h
  · rename_i d q
    refine ⟨by first | exact Nat.le_of_ble_eq_true rfl | simp [am_fl, am_cat], ?_⟩
    exact am_way_line (qvX8_nodeOf d q F A K h)
  · exact h.elim)
def qkX8_halve : Nat → Option CI := fun pc => cond (Nat.ble 193 pc) none (cond (Nat.ble 95 pc) (cond (Nat.ble 139 pc) (cond (Nat.ble 167 pc) (cond (Nat.ble 180 pc) (cond (Nat.ble 185 pc) (cond (Nat.ble 189 pc) (cond (Nat.beq pc 189) (some (.goto (-34), 192, [155])) (cond (Nat.beq pc 192) (some (.return_, 193, [])) (none))) (cond (Nat.beq pc 185) (some (.lastore, 186, [])) (cond (Nat.beq pc 186) (some (.iinc 5 1, 189, [])) (none)))) (cond (Nat.ble 183 pc) (cond (Nat.beq pc 183) (some (.lshl, 184, [])) (cond (Nat.beq pc 184) (some (.lmul, 185, [])) (none))) (cond (Nat.beq pc 180) (some (.iload 5, 182, [])) (cond (Nat.beq pc 182) (some (.isub, 183, [])) (none))))) (cond (Nat.ble 171 pc) (cond (Nat.ble 176 pc) (cond (Nat.beq pc 176) (some (.goto 7, 179, [183])) (cond (Nat.beq pc 179) (some (.iload_n 3, 180, [])) (none))) (cond (Nat.beq pc 171) (some (.ifCond .eq 8, 174, [179])) (cond (Nat.beq pc 174) (some (.iload 5, 176, [])) (none)))) (cond (Nat.beq pc 167) (some (.laload, 168, [])) (cond (Nat.beq pc 168) (some (.lconst 1, 169, [])) (cond (Nat.beq pc 169) (some (.iload 4, 171, [])) (none)))))) (cond (Nat.ble 155 pc) (cond (Nat.ble 162 pc) (cond (Nat.ble 165 pc) (cond (Nat.beq pc 165) (some (.iadd, 166, [])) (cond (Nat.beq pc 166) (some (.dup2, 167, [])) (none))) (cond (Nat.beq pc 162) (some (.iload_n 2, 163, [])) (cond (Nat.beq pc 163) (some (.iload 5, 165, [])) (none)))) (cond (Nat.ble 158 pc) (cond (Nat.beq pc 158) (some (.if_icmp .gt 34, 161, [192])) (cond (Nat.beq pc 161) (some (.aload_n 0, 162, [])) (none))) (cond (Nat.beq pc 155) (some (.iload 5, 157, [])) (cond (Nat.beq pc 157) (some (.iload_n 3, 158, [])) (none))))) (cond (Nat.ble 146 pc) (cond (Nat.ble 152 pc) (cond (Nat.beq pc 152) (some (.iconst 0, 153, [])) (cond (Nat.beq pc 153) (some (.istore 5, 155, [])) (none))) (cond (Nat.beq pc 146) (some (.iinc 5 1, 149, [])) (cond (Nat.beq pc 149) (some (.goto (-85), 152, [64])) (none)))) (cond (Nat.beq pc 139) (some (.lastore, 140, [])) (cond (Nat.beq pc 140) (some (.iinc 6 (-1), 143, [])) (cond (Nat.beq pc 143) (some (.goto (-27), 146, [116])) (none))))))) (cond (Nat.ble 120 pc) (cond (Nat.ble 130 pc) (cond (Nat.ble 135 pc) (cond (Nat.ble 137 pc) (cond (Nat.beq pc 137) (some (.laload, 138, [])) (cond (Nat.beq pc 138) (some (.ladd, 139, [])) (none))) (cond (Nat.beq pc 135) (some (.iconst 1, 136, [])) (cond (Nat.beq pc 136) (some (.isub, 137, [])) (none)))) (cond (Nat.ble 132 pc) (cond (Nat.beq pc 132) (some (.iload 6, 134, [])) (cond (Nat.beq pc 134) (some (.iadd, 135, [])) (none))) (cond (Nat.beq pc 130) (some (.aload_n 0, 131, [])) (cond (Nat.beq pc 131) (some (.iload_n 2, 132, [])) (none))))) (cond (Nat.ble 125 pc) (cond (Nat.ble 128 pc) (cond (Nat.beq pc 128) (some (.dup2, 129, [])) (cond (Nat.beq pc 129) (some (.laload, 130, [])) (none))) (cond (Nat.beq pc 125) (some (.iload 6, 127, [])) (cond (Nat.beq pc 127) (some (.iadd, 128, [])) (none)))) (cond (Nat.beq pc 120) (some (.if_icmp .lt 26, 123, [146])) (cond (Nat.beq pc 123) (some (.aload_n 0, 124, [])) (cond (Nat.beq pc 124) (some (.iload_n 2, 125, [])) (none)))))) (cond (Nat.ble 103 pc) (cond (Nat.ble 113 pc) (cond (Nat.ble 116 pc) (cond (Nat.beq pc 116) (some (.iload 6, 118, [])) (cond (Nat.beq pc 118) (some (.iload 5, 120, [])) (none))) (cond (Nat.beq pc 113) (some (.iload_n 3, 114, [])) (cond (Nat.beq pc 114) (some (.istore 6, 116, [])) (none)))) (cond (Nat.ble 107 pc) (cond (Nat.beq pc 107) (some (.goto (-29), 110, [78])) (cond (Nat.beq pc 110) (some (.goto 36, 113, [146])) (none))) (cond (Nat.beq pc 103) (some (.lastore, 104, [])) (cond (Nat.beq pc 104) (some (.iinc 6 1, 107, [])) (none))))) (cond (Nat.ble 99 pc) (cond (Nat.ble 101 pc) (cond (Nat.beq pc 101) (some (.laload, 102, [])) (cond (Nat.beq pc 102) (some (.ladd, 103, [])) (none))) (cond (Nat.beq pc 99) (some (.iconst 1, 100, [])) (cond (Nat.beq pc 100) (some (.iadd, 101, [])) (none)))) (cond (Nat.beq pc 95) (some (.iload_n 2, 96, [])) (cond (Nat.beq pc 96) (some (.iload 6, 98, [])) (cond (Nat.beq pc 98) (some (.iadd, 99, [])) (none)))))))) (cond (Nat.ble 47 pc) (cond (Nat.ble 72 pc) (cond (Nat.ble 84 pc) (cond (Nat.ble 91 pc) (cond (Nat.ble 93 pc) (cond (Nat.beq pc 93) (some (.laload, 94, [])) (cond (Nat.beq pc 94) (some (.aload_n 0, 95, [])) (none))) (cond (Nat.beq pc 91) (some (.iadd, 92, [])) (cond (Nat.beq pc 92) (some (.dup2, 93, [])) (none)))) (cond (Nat.ble 88 pc) (cond (Nat.beq pc 88) (some (.iload_n 2, 89, [])) (cond (Nat.beq pc 89) (some (.iload 6, 91, [])) (none))) (cond (Nat.beq pc 84) (some (.if_icmp .gt 26, 87, [110])) (cond (Nat.beq pc 87) (some (.aload_n 0, 88, [])) (none))))) (cond (Nat.ble 78 pc) (cond (Nat.ble 81 pc) (cond (Nat.beq pc 81) (some (.iload 5, 83, [])) (cond (Nat.beq pc 83) (some (.isub, 84, [])) (none))) (cond (Nat.beq pc 78) (some (.iload 6, 80, [])) (cond (Nat.beq pc 80) (some (.iload_n 3, 81, [])) (none)))) (cond (Nat.beq pc 72) (some (.ifCond .eq 41, 75, [113])) (cond (Nat.beq pc 75) (some (.iconst 0, 76, [])) (cond (Nat.beq pc 76) (some (.istore 6, 78, [])) (none)))))) (cond (Nat.ble 55 pc) (cond (Nat.ble 64 pc) (cond (Nat.ble 67 pc) (cond (Nat.beq pc 67) (some (.if_icmp .gt 85, 70, [152])) (cond (Nat.beq pc 70) (some (.iload 4, 72, [])) (none))) (cond (Nat.beq pc 64) (some (.iload 5, 66, [])) (cond (Nat.beq pc 66) (some (.iload_n 3, 67, [])) (none)))) (cond (Nat.ble 61 pc) (cond (Nat.beq pc 61) (some (.iconst 1, 62, [])) (cond (Nat.beq pc 62) (some (.istore 5, 64, [])) (none))) (cond (Nat.beq pc 55) (some (.iinc 5 1, 58, [])) (cond (Nat.beq pc 58) (some (.goto (-21), 61, [37])) (none))))) (cond (Nat.ble 50 pc) (cond (Nat.ble 53 pc) (cond (Nat.beq pc 53) (some (.laload, 54, [])) (cond (Nat.beq pc 54) (some (.lastore, 55, [])) (none))) (cond (Nat.beq pc 50) (some (.iload 5, 52, [])) (cond (Nat.beq pc 52) (some (.iadd, 53, [])) (none)))) (cond (Nat.beq pc 47) (some (.iadd, 48, [])) (cond (Nat.beq pc 48) (some (.aload_n 0, 49, [])) (cond (Nat.beq pc 49) (some (.iload_n 1, 50, [])) (none))))))) (cond (Nat.ble 25 pc) (cond (Nat.ble 34 pc) (cond (Nat.ble 40 pc) (cond (Nat.ble 44 pc) (cond (Nat.beq pc 44) (some (.iload_n 2, 45, [])) (cond (Nat.beq pc 45) (some (.iload 5, 47, [])) (none))) (cond (Nat.beq pc 40) (some (.if_icmp .gt 21, 43, [61])) (cond (Nat.beq pc 43) (some (.aload_n 0, 44, [])) (none)))) (cond (Nat.ble 37 pc) (cond (Nat.beq pc 37) (some (.iload 5, 39, [])) (cond (Nat.beq pc 39) (some (.iload_n 3, 40, [])) (none))) (cond (Nat.beq pc 34) (some (.iconst 0, 35, [])) (cond (Nat.beq pc 35) (some (.istore 5, 37, [])) (none))))) (cond (Nat.ble 28 pc) (cond (Nat.ble 30 pc) (cond (Nat.beq pc 30) (some (.if_icmp .le 4, 33, [34])) (cond (Nat.beq pc 33) (some (.return_, 34, [])) (none))) (cond (Nat.beq pc 28) (some (.iconst 4, 29, [])) (cond (Nat.beq pc 29) (some (.isub, 30, [])) (none)))) (cond (Nat.beq pc 25) (some (.iload_n 2, 26, [])) (cond (Nat.beq pc 26) (some (.aload_n 0, 27, [])) (cond (Nat.beq pc 27) (some (.arraylength, 28, [])) (none)))))) (cond (Nat.ble 13 pc) (cond (Nat.ble 17 pc) (cond (Nat.ble 21 pc) (cond (Nat.beq pc 21) (some (.iload_n 2, 22, [])) (cond (Nat.beq pc 22) (some (.ifCond .lt 11, 25, [33])) (none))) (cond (Nat.beq pc 17) (some (.isub, 18, [])) (cond (Nat.beq pc 18) (some (.if_icmp .gt 15, 21, [33])) (none)))) (cond (Nat.ble 15 pc) (cond (Nat.beq pc 15) (some (.arraylength, 16, [])) (cond (Nat.beq pc 16) (some (.iconst 4, 17, [])) (none))) (cond (Nat.beq pc 13) (some (.iload_n 1, 14, [])) (cond (Nat.beq pc 14) (some (.aload_n 0, 15, [])) (none))))) (cond (Nat.ble 5 pc) (cond (Nat.ble 9 pc) (cond (Nat.beq pc 9) (some (.iload_n 1, 10, [])) (cond (Nat.beq pc 10) (some (.ifCond .lt 23, 13, [33])) (none))) (cond (Nat.beq pc 5) (some (.iconst 4, 6, [])) (cond (Nat.beq pc 6) (some (.if_icmp .ge 27, 9, [33])) (none)))) (cond (Nat.beq pc 0) (some (.iload_n 3, 1, [])) (cond (Nat.beq pc 1) (some (.ifCond .lt 32, 4, [33])) (cond (Nat.beq pc 4) (some (.iload_n 3, 5, [])) (none)))))))))
theorem qkX8_halve_ok : ∀ pc i nx ts, qkX8_halve pc = some (i, nx, ts) → am_cok cX8_halve pc (i, nx, ts) = true := fun pc i nx ts h => am_tok_ok (n := 193) (by decide +kernel) (fun pc h => by show cond (Nat.ble 193 pc) _ _ = _; rw [Nat.ble_eq_true_of_le h]; rfl) h
def qaX8_halve : Nat → Option CE := fun k => none
theorem qyX8_halve (l : Launch) : ∀ k e1, qaX8_halve k = some e1 → am_cal l layX RX8 3 k e1 ∧ ceT e1 = 0 := q_nil
def qxX8_halve : CX := (qkX8_halve, layX, qfX8, qaX8_halve, qcX8, qlX8, qmX8, none, false, none, 0, none, fun _ => none)
theorem qzX8_halve (l : Launch) : am_sta l qxX8_halve RX8 3 cX8_halve := ⟨qkX8_halve_ok, layX_ok, qfX8_ok, qcX8_ok, qlX8_ok, am_mthP qmX8_ok (by decide), fun k e1 h => (qyX8_halve l k e1 h).1⟩
def qsX8_halve : SP := fun as F A K => match as with
  | [.inr (.inr r), .inl sfrom, .inl to, .inl n, .inl z] => cond (Nat.beq r 10) (((0 ≤ n ∧ n ≤ 3) ∧ (z = 0 ∨ z = 1) ∧ 0 ≤ sfrom ∧ sfrom + 4 ≤ to ∧ to + 4 ≤ 12192) ∧ (K (some none) F (setR A 10 to (n + 1) (hv (fun i => A 10 (sfrom + i)) n z)))) (cond (Nat.beq r 15) (((0 ≤ n ∧ n ≤ 3) ∧ (z = 0 ∨ z = 1) ∧ 0 ≤ sfrom ∧ sfrom + 4 ≤ to ∧ to + 4 ≤ 52) ∧ (K (some none) F (setR A 15 to (n + 1) (hv (fun i => A 15 (sfrom + i)) n z)))) (False))
  | _ => False
def qeX8_halve : CE := (yX8_halve, cX8_halve, 7, none, 5, none, 0, none, 0, 3, qsX8_halve)
theorem qbX8_halve : am_mb qeX8_halve := ⟨am_tb_at 1042 (by decide +kernel) rfl, am_tb_at 35 (by decide +kernel) rfl, ⟨by decide, by decide, by decide +kernel⟩, by decide, am_tb_at 1041 (by decide +kernel) rfl⟩
def qnX8_halve_10 : CUT := fun pc => cond (Nat.beq pc 37) (some [true, true, true, true, true, true, false]) (cond (Nat.beq pc 64) (some [true, true, true, true, true, true, false]) (cond (Nat.beq pc 78) (some [true, true, true, true, true, true, true]) (cond (Nat.beq pc 116) (some [true, true, true, true, true, true, true]) (cond (Nat.beq pc 155) (some [true, true, true, true, true, true, false]) (none)))))
def qiX8_halve_10 (sfrom : Int) (to : Int) (n : Int) (z : Int) (F0 : FF) (A0 : AA) : REC := fun pc ls st F A u => cond (Nat.beq pc 37) (match ls, st, u with
    | [some (.inr (.inr s0)), some (.inl s1), some (.inl s2), some (.inl s3), some (.inl s4), some (.inl k), none], [], 0 => s0 = 10 ∧ s1 = sfrom ∧ s2 = to ∧ s3 = n ∧ s4 = z ∧ F = F0 ∧ (0 ≤ k ∧ k ≤ n + 1 ∧ A = setR A0 10 to (k) ((fun i => A0 10 (sfrom + i))))
    | _, _, _ => False) (cond (Nat.beq pc 64) (match ls, st, u with
    | [some (.inr (.inr s0)), some (.inl s1), some (.inl s2), some (.inl s3), some (.inl s4), some (.inl s), none], [], 0 => s0 = 10 ∧ s1 = sfrom ∧ s2 = to ∧ s3 = n ∧ s4 = z ∧ F = F0 ∧ (1 ≤ s ∧ s ≤ n + 1 ∧ A = setR A0 10 to (n + 1) (hP (fun i => A0 10 (sfrom + i)) n z (Int.toNat (s - 1))))
    | _, _, _ => False) (cond (Nat.beq pc 78) (match ls, st, u with
    | [some (.inr (.inr s0)), some (.inl s1), some (.inl s2), some (.inl s3), some (.inl s4), some (.inl s), some (.inl k)], [], 0 => s0 = 10 ∧ s1 = sfrom ∧ s2 = to ∧ s3 = n ∧ s4 = z ∧ F = F0 ∧ (1 ≤ s ∧ s ≤ n ∧ z = 1 ∧ 0 ≤ k ∧ k ≤ n - s + 1 ∧ A = setR A0 10 to (n + 1) (fun i => if i < k then hR (fun i => A0 10 (sfrom + i)) n (Int.toNat s) i else hR (fun i => A0 10 (sfrom + i)) n (Int.toNat (s - 1)) i))
    | _, _, _ => False) (cond (Nat.beq pc 116) (match ls, st, u with
    | [some (.inr (.inr s0)), some (.inl s1), some (.inl s2), some (.inl s3), some (.inl s4), some (.inl s), some (.inl k)], [], 0 => s0 = 10 ∧ s1 = sfrom ∧ s2 = to ∧ s3 = n ∧ s4 = z ∧ F = F0 ∧ (1 ≤ s ∧ s ≤ n ∧ z = 0 ∧ s - 1 ≤ k ∧ k ≤ n ∧ A = setR A0 10 to (n + 1) (fun i => if k < i then hS (fun i => A0 10 (sfrom + i)) (Int.toNat s) i else hS (fun i => A0 10 (sfrom + i)) (Int.toNat (s - 1)) i))
    | _, _, _ => False) (cond (Nat.beq pc 155) (match ls, st, u with
    | [some (.inr (.inr s0)), some (.inl s1), some (.inl s2), some (.inl s3), some (.inl s4), some (.inl k), none], [], 0 => s0 = 10 ∧ s1 = sfrom ∧ s2 = to ∧ s3 = n ∧ s4 = z ∧ F = F0 ∧ (0 ≤ k ∧ k ≤ n + 1 ∧ A = setR A0 10 to (n + 1) (fun i => if i < k then hv (fun i => A0 10 (sfrom + i)) n z i else hP (fun i => A0 10 (sfrom + i)) n z (Int.toNat n) i))
    | _, _, _ => False) (False)))))
def quX8_halve_10 : Nat → LVs → List AV → FF → AA → Nat := fun pc ls _ F A => cond (Nat.beq pc 37) (match ls with
    | [some (.inr (.inr s0)), some (.inl s1), some (.inl s2), some (.inl s3), some (.inl s4), some (.inl k), none] => Int.toNat (400 - k)
    | _ => 0) (cond (Nat.beq pc 64) (match ls with
    | [some (.inr (.inr s0)), some (.inl s1), some (.inl s2), some (.inl s3), some (.inl s4), some (.inl s), none] => Int.toNat (300 - 20 * s)
    | _ => 0) (cond (Nat.beq pc 78) (match ls with
    | [some (.inr (.inr s0)), some (.inl s1), some (.inl s2), some (.inl s3), some (.inl s4), some (.inl s), some (.inl k)] => Int.toNat (299 - 20 * s - k)
    | _ => 0) (cond (Nat.beq pc 116) (match ls with
    | [some (.inr (.inr s0)), some (.inl s1), some (.inl s2), some (.inl s3), some (.inl s4), some (.inl s), some (.inl k)] => Int.toNat (290 - 20 * s + k)
    | _ => 0) (cond (Nat.beq pc 155) (match ls with
    | [some (.inr (.inr s0)), some (.inl s1), some (.inl s2), some (.inl s3), some (.inl s4), some (.inl k), none] => Int.toNat (100 - k)
    | _ => 0) (0)))))
set_option maxRecDepth 20000 in
theorem qvX8_halve_10_0 (sfrom : Int) (to : Int) (n : Int) (z : Int) (F0 : FF) (A0 : AA) (K : KK) (h : ((0 ≤ n ∧ n ≤ 3) ∧ (z = 0 ∨ z = 1) ∧ 0 ≤ sfrom ∧ sfrom + 4 ≤ to ∧ to + 4 ≤ 12192) ∧ (K (some none) F0 (setR A0 10 to (n + 1) (hv (fun i => A0 10 (sfrom + i)) n z)))) : am_stp qxX8_halve (am_run qxX8_halve qnX8_halve_10 (qiX8_halve_10 sfrom to n z F0 A0) K 26) K 0 (am_ent [vR 10, vI sfrom, vI to, vI n, vI z] 7) [] F0 A0 0 := by
  show am_stp qxX8_halve (am_run qxX8_halve qnX8_halve_10 (qiX8_halve_10 sfrom to n z F0 A0) K 26) K 0 [some (vR 10), some (vI sfrom), some (vI to), some (vI n), some (vI z), none, none] [] F0 A0 0
  obtain ⟨hp, h⟩ := h
  obtain ⟨⟨p1, p2⟩, p3, p4, p5, p6⟩ := hp
  show (w32 n < w32 0 → (K (some none) F0 A0)) ∧ (¬ w32 n < w32 0 → ((w32 n < w32 4 → ((w32 sfrom < w32 0 → (K (some none) F0 A0)) ∧ (¬ w32 sfrom < w32 0 → ((w32 12188 < w32 sfrom → (K (some none) F0 A0)) ∧ (¬ w32 12188 < w32 sfrom → ((w32 to < w32 0 → (K (some none) F0 A0)) ∧ (¬ w32 to < w32 0 → ((w32 12188 < w32 to → (K (some none) F0 A0)) ∧ (¬ w32 12188 < w32 to → (10 = 10 ∧ sfrom = sfrom ∧ to = to ∧ n = n ∧ z = z ∧ F0 = F0 ∧ (0 ≤ 0 ∧ 0 ≤ n + 1 ∧ A0 = setR A0 10 to (0) ((fun i => A0 10 (sfrom + i)))))))))))))) ∧ (¬ w32 n < w32 4 → (K (some none) F0 A0))))
  refine ⟨fun c1 => ?_, fun c1 => ?_⟩
  · skip
    (try simp (disch := omega) only [w32_id] at c1)
    exact absurd h (by omega)
  · skip
    (try simp (disch := omega) only [w32_id] at c1)
    refine ⟨fun c2 => ?_, fun c2 => ?_⟩
    · skip
      (try simp (disch := omega) only [w32_id] at c2)
      refine ⟨fun c3 => ?_, fun c3 => ?_⟩
      · skip
        (try simp (disch := omega) only [w32_id] at c3)
        exact absurd h (by omega)
      · skip
        (try simp (disch := omega) only [w32_id] at c3)
        refine ⟨fun c4 => ?_, fun c4 => ?_⟩
        · skip
          (try simp (disch := omega) only [w32_id] at c4)
          exact absurd h (by omega)
        · skip
          (try simp (disch := omega) only [w32_id] at c4)
          refine ⟨fun c5 => ?_, fun c5 => ?_⟩
          · skip
            (try simp (disch := omega) only [w32_id] at c5)
            exact absurd h (by omega)
          · skip
            (try simp (disch := omega) only [w32_id] at c5)
            refine ⟨fun c6 => ?_, fun c6 => ?_⟩
            · skip
              (try simp (disch := omega) only [w32_id] at c6)
              exact absurd h (by omega)
            · skip
              (try simp (disch := omega) only [w32_id] at c6)
              refine ⟨rfl, rfl, rfl, rfl, rfl, rfl, ?_⟩
              refine ⟨by omega, by omega, setR_0.symm⟩
    · skip
      (try simp (disch := omega) only [w32_id] at c2)
      exact absurd h (by omega)
set_option maxRecDepth 20000 in
theorem qvX8_halve_10_37 (sfrom : Int) (to : Int) (n : Int) (z : Int) (F0 : FF) (A0 : AA) (K : KK) (h : ((0 ≤ n ∧ n ≤ 3) ∧ (z = 0 ∨ z = 1) ∧ 0 ≤ sfrom ∧ sfrom + 4 ≤ to ∧ to + 4 ≤ 12192) ∧ (K (some none) F0 (setR A0 10 to (n + 1) (hv (fun i => A0 10 (sfrom + i)) n z)))) (k : Int) (A : AA) (hi : 0 ≤ k ∧ k ≤ n + 1 ∧ A = setR A0 10 to (k) ((fun i => A0 10 (sfrom + i)))) : am_stp qxX8_halve (am_run qxX8_halve qnX8_halve_10 (fun pc ls st F A u => qiX8_halve_10 sfrom to n z F0 A0 pc ls st F A u ∧ quX8_halve_10 pc ls st F A < quX8_halve_10 37 [some (vR 10), some (vI sfrom), some (vI to), some (vI n), some (vI z), some (vI k), none] [] F0 A) K 26) K 37 [some (vR 10), some (vI sfrom), some (vI to), some (vI n), some (vI z), some (vI k), none] [] F0 A 0 := by
  obtain ⟨hp, h⟩ := h
  obtain ⟨⟨p1, p2⟩, p3, p4, p5, p6⟩ := hp
  obtain ⟨h1, h2, hA⟩ := hi
  show (w32 n < w32 k → ((10 = 10 ∧ sfrom = sfrom ∧ to = to ∧ n = n ∧ z = z ∧ F0 = F0 ∧ (1 ≤ 1 ∧ 1 ≤ n + 1 ∧ A = setR A0 10 to (n + 1) (hP (fun i => A0 10 (sfrom + i)) n z (Int.toNat (1 - 1))))) ∧ (Int.toNat (300 - 20 * 1)) < (Int.toNat (400 - k)))) ∧ (¬ w32 n < w32 k → ((0 ≤ w32 (sfrom + k) ∧ w32 (sfrom + k) < 12192) ∧ ((0 ≤ w32 (to + k) ∧ w32 (to + k) < 12192) ∧ ((10 = 10 ∧ sfrom = sfrom ∧ to = to ∧ n = n ∧ z = z ∧ F0 = F0 ∧ (0 ≤ (k + 1) ∧ (k + 1) ≤ n + 1 ∧ (upA A 10 (w32 (to + k)) (A 10 (w32 (sfrom + k)))) = setR A0 10 to ((k + 1)) ((fun i => A0 10 (sfrom + i))))) ∧ (Int.toNat (400 - (k + 1))) < (Int.toNat (400 - k))))))
  refine ⟨fun c1 => ?_, fun c1 => ?_⟩
  · skip
    (try simp (disch := omega) only [w32_id] at c1)
    refine ⟨⟨rfl, rfl, rfl, rfl, rfl, rfl, ?_⟩, by omega⟩
    have e : k = n + 1 := by omega
    subst e
    refine ⟨by omega, by omega, ?_⟩
    rw [hA]
    unfold hP
    split <;> rfl
  · skip
    (try simp (disch := omega) only [w32_id] at c1)
    refine ⟨by first | omega | (simp (disch := omega) only [w32_0, w64_0, wbi0, wbi1, yc_eq0, yc_lt0, yc_gt0, Classical.not_not, w32_id, w64_id]; omega) | (simp (disch := omega) only [w32_0, w64_0, wbi0, wbi1, yc_eq0, yc_lt0, yc_gt0, Classical.not_not, w32_id, w64_id]; done), ?_⟩
    refine ⟨by first | omega | (simp (disch := omega) only [w32_0, w64_0, wbi0, wbi1, yc_eq0, yc_lt0, yc_gt0, Classical.not_not, w32_id, w64_id]; omega) | (simp (disch := omega) only [w32_0, w64_0, wbi0, wbi1, yc_eq0, yc_lt0, yc_gt0, Classical.not_not, w32_id, w64_id]; done), ?_⟩
    refine ⟨⟨rfl, rfl, rfl, rfl, rfl, rfl, ?_⟩, by omega⟩
    refine ⟨by omega, by omega, ?_⟩
    subst hA
    simp (disch := omega) only [w32_id]
    rw [setR_lt (by omega)]
    exact setR_push (by omega) (fun _ _ _ => rfl) rfl
set_option maxRecDepth 20000 in
theorem qvX8_halve_10_64 (sfrom : Int) (to : Int) (n : Int) (z : Int) (F0 : FF) (A0 : AA) (K : KK) (h : ((0 ≤ n ∧ n ≤ 3) ∧ (z = 0 ∨ z = 1) ∧ 0 ≤ sfrom ∧ sfrom + 4 ≤ to ∧ to + 4 ≤ 12192) ∧ (K (some none) F0 (setR A0 10 to (n + 1) (hv (fun i => A0 10 (sfrom + i)) n z)))) (s : Int) (A : AA) (hi : 1 ≤ s ∧ s ≤ n + 1 ∧ A = setR A0 10 to (n + 1) (hP (fun i => A0 10 (sfrom + i)) n z (Int.toNat (s - 1)))) : am_stp qxX8_halve (am_run qxX8_halve qnX8_halve_10 (fun pc ls st F A u => qiX8_halve_10 sfrom to n z F0 A0 pc ls st F A u ∧ quX8_halve_10 pc ls st F A < quX8_halve_10 64 [some (vR 10), some (vI sfrom), some (vI to), some (vI n), some (vI z), some (vI s), none] [] F0 A) K 26) K 64 [some (vR 10), some (vI sfrom), some (vI to), some (vI n), some (vI z), some (vI s), none] [] F0 A 0 := by
  obtain ⟨hp, h⟩ := h
  obtain ⟨⟨p1, p2⟩, p3, p4, p5, p6⟩ := hp
  obtain ⟨h1, h2, hA⟩ := hi
  show (w32 n < w32 s → ((10 = 10 ∧ sfrom = sfrom ∧ to = to ∧ n = n ∧ z = z ∧ F0 = F0 ∧ (0 ≤ 0 ∧ 0 ≤ n + 1 ∧ A = setR A0 10 to (n + 1) (fun i => if i < 0 then hv (fun i => A0 10 (sfrom + i)) n z i else hP (fun i => A0 10 (sfrom + i)) n z (Int.toNat n) i))) ∧ (Int.toNat (100 - 0)) < (Int.toNat (300 - 20 * s)))) ∧ (¬ w32 n < w32 s → ((w32 z = w32 0 → ((10 = 10 ∧ sfrom = sfrom ∧ to = to ∧ n = n ∧ z = z ∧ F0 = F0 ∧ (1 ≤ s ∧ s ≤ n ∧ z = 0 ∧ s - 1 ≤ n ∧ n ≤ n ∧ A = setR A0 10 to (n + 1) (fun i => if n < i then hS (fun i => A0 10 (sfrom + i)) (Int.toNat s) i else hS (fun i => A0 10 (sfrom + i)) (Int.toNat (s - 1)) i))) ∧ (Int.toNat (290 - 20 * s + n)) < (Int.toNat (300 - 20 * s)))) ∧ (¬ w32 z = w32 0 → ((10 = 10 ∧ sfrom = sfrom ∧ to = to ∧ n = n ∧ z = z ∧ F0 = F0 ∧ (1 ≤ s ∧ s ≤ n ∧ z = 1 ∧ 0 ≤ 0 ∧ 0 ≤ n - s + 1 ∧ A = setR A0 10 to (n + 1) (fun i => if i < 0 then hR (fun i => A0 10 (sfrom + i)) n (Int.toNat s) i else hR (fun i => A0 10 (sfrom + i)) n (Int.toNat (s - 1)) i))) ∧ (Int.toNat (299 - 20 * s - 0)) < (Int.toNat (300 - 20 * s))))))
  refine ⟨fun c1 => ?_, fun c1 => ?_⟩
  · skip
    (try simp (disch := omega) only [w32_id] at c1)
    refine ⟨⟨rfl, rfl, rfl, rfl, rfl, rfl, ?_⟩, by omega⟩
    have e : s = n + 1 := by omega
    subst e
    refine ⟨by omega, by omega, ?_⟩
    rw [hA]
    refine setR_c (fun i i0 i1 => ?_)
    rw [if_neg (by omega), show n + 1 - 1 = n by omega]
  · skip
    (try simp (disch := omega) only [w32_id] at c1)
    refine ⟨fun c2 => ?_, fun c2 => ?_⟩
    · skip
      (try simp (disch := omega) only [w32_id] at c2)
      refine ⟨⟨rfl, rfl, rfl, rfl, rfl, rfl, ?_⟩, by omega⟩
      refine ⟨h1, by omega, by omega, by omega, by omega, ?_⟩
      rw [hA]
      refine setR_c (fun i i0 i1 => ?_)
      unfold hP
      rw [if_pos (by omega), if_neg (by omega)]
    · skip
      (try simp (disch := omega) only [w32_id] at c2)
      refine ⟨⟨rfl, rfl, rfl, rfl, rfl, rfl, ?_⟩, by omega⟩
      refine ⟨h1, by omega, by omega, by omega, by omega, ?_⟩
      rw [hA]
      refine setR_c (fun i i0 i1 => ?_)
      unfold hP
      rw [if_neg (by omega), if_neg (by omega)]
set_option maxRecDepth 20000 in
theorem qvX8_halve_10_78 (sfrom : Int) (to : Int) (n : Int) (z : Int) (F0 : FF) (A0 : AA) (K : KK) (h : ((0 ≤ n ∧ n ≤ 3) ∧ (z = 0 ∨ z = 1) ∧ 0 ≤ sfrom ∧ sfrom + 4 ≤ to ∧ to + 4 ≤ 12192) ∧ (K (some none) F0 (setR A0 10 to (n + 1) (hv (fun i => A0 10 (sfrom + i)) n z)))) (s : Int) (k : Int) (A : AA) (hi : 1 ≤ s ∧ s ≤ n ∧ z = 1 ∧ 0 ≤ k ∧ k ≤ n - s + 1 ∧ A = setR A0 10 to (n + 1) (fun i => if i < k then hR (fun i => A0 10 (sfrom + i)) n (Int.toNat s) i else hR (fun i => A0 10 (sfrom + i)) n (Int.toNat (s - 1)) i)) : am_stp qxX8_halve (am_run qxX8_halve qnX8_halve_10 (fun pc ls st F A u => qiX8_halve_10 sfrom to n z F0 A0 pc ls st F A u ∧ quX8_halve_10 pc ls st F A < quX8_halve_10 78 [some (vR 10), some (vI sfrom), some (vI to), some (vI n), some (vI z), some (vI s), some (vI k)] [] F0 A) K 26) K 78 [some (vR 10), some (vI sfrom), some (vI to), some (vI n), some (vI z), some (vI s), some (vI k)] [] F0 A 0 := by
  obtain ⟨hp, h⟩ := h
  obtain ⟨⟨p1, p2⟩, p3, p4, p5, p6⟩ := hp
  obtain ⟨h1, h2, h3, h4, h5, hA⟩ := hi
  show (w32 (n - s) < w32 k → ((10 = 10 ∧ sfrom = sfrom ∧ to = to ∧ n = n ∧ z = z ∧ F0 = F0 ∧ (1 ≤ (s + 1) ∧ (s + 1) ≤ n + 1 ∧ A = setR A0 10 to (n + 1) (hP (fun i => A0 10 (sfrom + i)) n z (Int.toNat ((s + 1) - 1))))) ∧ (Int.toNat (300 - 20 * (s + 1))) < (Int.toNat (299 - 20 * s - k)))) ∧ (¬ w32 (n - s) < w32 k → ((0 ≤ w32 (to + k) ∧ w32 (to + k) < 12192) ∧ ((0 ≤ w32 ((to + k) + 1) ∧ w32 ((to + k) + 1) < 12192) ∧ ((0 ≤ w32 (to + k) ∧ w32 (to + k) < 12192) ∧ ((10 = 10 ∧ sfrom = sfrom ∧ to = to ∧ n = n ∧ z = z ∧ F0 = F0 ∧ (1 ≤ s ∧ s ≤ n ∧ z = 1 ∧ 0 ≤ (k + 1) ∧ (k + 1) ≤ n - s + 1 ∧ (upA A 10 (w32 (to + k)) ((A 10 (w32 (to + k))) + (A 10 (w32 ((to + k) + 1))))) = setR A0 10 to (n + 1) (fun i => if i < (k + 1) then hR (fun i => A0 10 (sfrom + i)) n (Int.toNat s) i else hR (fun i => A0 10 (sfrom + i)) n (Int.toNat (s - 1)) i))) ∧ (Int.toNat (299 - 20 * s - (k + 1))) < (Int.toNat (299 - 20 * s - k)))))))
  refine ⟨fun c1 => ?_, fun c1 => ?_⟩
  · skip
    (try simp (disch := omega) only [w32_id] at c1)
    refine ⟨⟨rfl, rfl, rfl, rfl, rfl, rfl, ?_⟩, by omega⟩
    refine ⟨by omega, by omega, ?_⟩
    subst hA
    refine setR_c (fun i i0 i1 => ?_)
    unfold hP
    rw [if_neg (show ¬ z = 0 by omega), show s + 1 - 1 = s by omega]
    by_cases h7 : i < k
    · rw [if_pos h7]
    · rw [if_neg h7, hR_stay h1 (by omega)]
  · skip
    (try simp (disch := omega) only [w32_id] at c1)
    refine ⟨by first | omega | (simp (disch := omega) only [w32_0, w64_0, wbi0, wbi1, yc_eq0, yc_lt0, yc_gt0, Classical.not_not, w32_id, w64_id]; omega) | (simp (disch := omega) only [w32_0, w64_0, wbi0, wbi1, yc_eq0, yc_lt0, yc_gt0, Classical.not_not, w32_id, w64_id]; done), ?_⟩
    refine ⟨by first | omega | (simp (disch := omega) only [w32_0, w64_0, wbi0, wbi1, yc_eq0, yc_lt0, yc_gt0, Classical.not_not, w32_id, w64_id]; omega) | (simp (disch := omega) only [w32_0, w64_0, wbi0, wbi1, yc_eq0, yc_lt0, yc_gt0, Classical.not_not, w32_id, w64_id]; done), ?_⟩
    refine ⟨by first | omega | (simp (disch := omega) only [w32_0, w64_0, wbi0, wbi1, yc_eq0, yc_lt0, yc_gt0, Classical.not_not, w32_id, w64_id]; omega) | (simp (disch := omega) only [w32_0, w64_0, wbi0, wbi1, yc_eq0, yc_lt0, yc_gt0, Classical.not_not, w32_id, w64_id]; done), ?_⟩
    refine ⟨⟨rfl, rfl, rfl, rfl, rfl, rfl, ?_⟩, by omega⟩
    refine ⟨h1, h2, h3, by omega, by omega, ?_⟩
    subst hA
    simp (disch := omega) only [w32_id]
    rw [setR_at (by omega) (by omega), show to + k + 1 = to + (k + 1) by omega, setR_at (by omega) (by omega)]
    refine setR_put (by omega) (by omega) (fun i i0 i1 => ?_)
    by_cases hk : i = k
    · subst hk
      rw [if_pos (by omega), if_pos rfl, hR_step h1 (by omega), if_neg (by omega), if_neg (by omega)]
    · rw [if_neg hk]
      by_cases h7 : i < k
      · rw [if_pos (by omega), if_pos h7]
      · rw [if_neg (by omega), if_neg h7]
set_option maxRecDepth 20000 in
theorem qvX8_halve_10_116 (sfrom : Int) (to : Int) (n : Int) (z : Int) (F0 : FF) (A0 : AA) (K : KK) (h : ((0 ≤ n ∧ n ≤ 3) ∧ (z = 0 ∨ z = 1) ∧ 0 ≤ sfrom ∧ sfrom + 4 ≤ to ∧ to + 4 ≤ 12192) ∧ (K (some none) F0 (setR A0 10 to (n + 1) (hv (fun i => A0 10 (sfrom + i)) n z)))) (s : Int) (k : Int) (A : AA) (hi : 1 ≤ s ∧ s ≤ n ∧ z = 0 ∧ s - 1 ≤ k ∧ k ≤ n ∧ A = setR A0 10 to (n + 1) (fun i => if k < i then hS (fun i => A0 10 (sfrom + i)) (Int.toNat s) i else hS (fun i => A0 10 (sfrom + i)) (Int.toNat (s - 1)) i)) : am_stp qxX8_halve (am_run qxX8_halve qnX8_halve_10 (fun pc ls st F A u => qiX8_halve_10 sfrom to n z F0 A0 pc ls st F A u ∧ quX8_halve_10 pc ls st F A < quX8_halve_10 116 [some (vR 10), some (vI sfrom), some (vI to), some (vI n), some (vI z), some (vI s), some (vI k)] [] F0 A) K 26) K 116 [some (vR 10), some (vI sfrom), some (vI to), some (vI n), some (vI z), some (vI s), some (vI k)] [] F0 A 0 := by
  obtain ⟨hp, h⟩ := h
  obtain ⟨⟨p1, p2⟩, p3, p4, p5, p6⟩ := hp
  obtain ⟨h1, h2, h3, h4, h5, hA⟩ := hi
  show (w32 k < w32 s → ((10 = 10 ∧ sfrom = sfrom ∧ to = to ∧ n = n ∧ z = z ∧ F0 = F0 ∧ (1 ≤ (s + 1) ∧ (s + 1) ≤ n + 1 ∧ A = setR A0 10 to (n + 1) (hP (fun i => A0 10 (sfrom + i)) n z (Int.toNat ((s + 1) - 1))))) ∧ (Int.toNat (300 - 20 * (s + 1))) < (Int.toNat (290 - 20 * s + k)))) ∧ (¬ w32 k < w32 s → ((0 ≤ w32 (to + k) ∧ w32 (to + k) < 12192) ∧ ((0 ≤ w32 ((to + k) - 1) ∧ w32 ((to + k) - 1) < 12192) ∧ ((0 ≤ w32 (to + k) ∧ w32 (to + k) < 12192) ∧ ((10 = 10 ∧ sfrom = sfrom ∧ to = to ∧ n = n ∧ z = z ∧ F0 = F0 ∧ (1 ≤ s ∧ s ≤ n ∧ z = 0 ∧ s - 1 ≤ (k + (-1)) ∧ (k + (-1)) ≤ n ∧ (upA A 10 (w32 (to + k)) ((A 10 (w32 (to + k))) + (A 10 (w32 ((to + k) - 1))))) = setR A0 10 to (n + 1) (fun i => if (k + (-1)) < i then hS (fun i => A0 10 (sfrom + i)) (Int.toNat s) i else hS (fun i => A0 10 (sfrom + i)) (Int.toNat (s - 1)) i))) ∧ (Int.toNat (290 - 20 * s + (k + (-1)))) < (Int.toNat (290 - 20 * s + k)))))))
  refine ⟨fun c1 => ?_, fun c1 => ?_⟩
  · skip
    (try simp (disch := omega) only [w32_id] at c1)
    refine ⟨⟨rfl, rfl, rfl, rfl, rfl, rfl, ?_⟩, by omega⟩
    refine ⟨by omega, by omega, ?_⟩
    subst hA
    refine setR_c (fun i i0 i1 => ?_)
    unfold hP
    rw [if_pos (show z = 0 by omega), show s + 1 - 1 = s by omega]
    by_cases h7 : k < i
    · rw [if_pos h7]
    · rw [if_neg h7, hS_stay h1 (by omega)]
  · skip
    (try simp (disch := omega) only [w32_id] at c1)
    refine ⟨by first | omega | (simp (disch := omega) only [w32_0, w64_0, wbi0, wbi1, yc_eq0, yc_lt0, yc_gt0, Classical.not_not, w32_id, w64_id]; omega) | (simp (disch := omega) only [w32_0, w64_0, wbi0, wbi1, yc_eq0, yc_lt0, yc_gt0, Classical.not_not, w32_id, w64_id]; done), ?_⟩
    refine ⟨by first | omega | (simp (disch := omega) only [w32_0, w64_0, wbi0, wbi1, yc_eq0, yc_lt0, yc_gt0, Classical.not_not, w32_id, w64_id]; omega) | (simp (disch := omega) only [w32_0, w64_0, wbi0, wbi1, yc_eq0, yc_lt0, yc_gt0, Classical.not_not, w32_id, w64_id]; done), ?_⟩
    refine ⟨by first | omega | (simp (disch := omega) only [w32_0, w64_0, wbi0, wbi1, yc_eq0, yc_lt0, yc_gt0, Classical.not_not, w32_id, w64_id]; omega) | (simp (disch := omega) only [w32_0, w64_0, wbi0, wbi1, yc_eq0, yc_lt0, yc_gt0, Classical.not_not, w32_id, w64_id]; done), ?_⟩
    refine ⟨⟨rfl, rfl, rfl, rfl, rfl, rfl, ?_⟩, by omega⟩
    refine ⟨h1, h2, h3, by omega, by omega, ?_⟩
    subst hA
    simp (disch := omega) only [w32_id]
    rw [setR_at (by omega) (by omega), show to + k - 1 = to + (k - 1) by omega, setR_at (by omega) (by omega)]
    refine setR_put (by omega) (by omega) (fun i i0 i1 => ?_)
    by_cases hk : i = k
    · subst hk
      rw [if_pos (by omega), if_pos rfl, hS_step h1 (by omega), if_neg (by omega), if_neg (by omega)]
    · rw [if_neg hk]
      by_cases h7 : k < i
      · rw [if_pos (by omega), if_pos h7]
      · rw [if_neg (by omega), if_neg h7]
set_option maxRecDepth 20000 in
theorem qvX8_halve_10_155 (sfrom : Int) (to : Int) (n : Int) (z : Int) (F0 : FF) (A0 : AA) (K : KK) (h : ((0 ≤ n ∧ n ≤ 3) ∧ (z = 0 ∨ z = 1) ∧ 0 ≤ sfrom ∧ sfrom + 4 ≤ to ∧ to + 4 ≤ 12192) ∧ (K (some none) F0 (setR A0 10 to (n + 1) (hv (fun i => A0 10 (sfrom + i)) n z)))) (k : Int) (A : AA) (hi : 0 ≤ k ∧ k ≤ n + 1 ∧ A = setR A0 10 to (n + 1) (fun i => if i < k then hv (fun i => A0 10 (sfrom + i)) n z i else hP (fun i => A0 10 (sfrom + i)) n z (Int.toNat n) i)) : am_stp qxX8_halve (am_run qxX8_halve qnX8_halve_10 (fun pc ls st F A u => qiX8_halve_10 sfrom to n z F0 A0 pc ls st F A u ∧ quX8_halve_10 pc ls st F A < quX8_halve_10 155 [some (vR 10), some (vI sfrom), some (vI to), some (vI n), some (vI z), some (vI k), none] [] F0 A) K 26) K 155 [some (vR 10), some (vI sfrom), some (vI to), some (vI n), some (vI z), some (vI k), none] [] F0 A 0 := by
  obtain ⟨hp, h⟩ := h
  obtain ⟨⟨p1, p2⟩, p3, p4, p5, p6⟩ := hp
  obtain ⟨h1, h2, hA⟩ := hi
  show (w32 n < w32 k → (K (some none) F0 A)) ∧ (¬ w32 n < w32 k → ((0 ≤ w32 (to + k) ∧ w32 (to + k) < 12192) ∧ ((w32 z = w32 0 → ((0 ≤ w32 (to + k) ∧ w32 (to + k) < 12192) ∧ ((10 = 10 ∧ sfrom = sfrom ∧ to = to ∧ n = n ∧ z = z ∧ F0 = F0 ∧ (0 ≤ (k + 1) ∧ (k + 1) ≤ n + 1 ∧ (upA A 10 (w32 (to + k)) ((A 10 (w32 (to + k))) * (y_shl 1 (n - k)))) = setR A0 10 to (n + 1) (fun i => if i < (k + 1) then hv (fun i => A0 10 (sfrom + i)) n z i else hP (fun i => A0 10 (sfrom + i)) n z (Int.toNat n) i))) ∧ (Int.toNat (100 - (k + 1))) < (Int.toNat (100 - k))))) ∧ (¬ w32 z = w32 0 → ((0 ≤ w32 (to + k) ∧ w32 (to + k) < 12192) ∧ ((10 = 10 ∧ sfrom = sfrom ∧ to = to ∧ n = n ∧ z = z ∧ F0 = F0 ∧ (0 ≤ (k + 1) ∧ (k + 1) ≤ n + 1 ∧ (upA A 10 (w32 (to + k)) ((A 10 (w32 (to + k))) * (y_shl 1 k))) = setR A0 10 to (n + 1) (fun i => if i < (k + 1) then hv (fun i => A0 10 (sfrom + i)) n z i else hP (fun i => A0 10 (sfrom + i)) n z (Int.toNat n) i))) ∧ (Int.toNat (100 - (k + 1))) < (Int.toNat (100 - k))))))))
  refine ⟨fun c1 => ?_, fun c1 => ?_⟩
  · skip
    (try simp (disch := omega) only [w32_id] at c1)
    subst hA
    exact A_eq h (setR_c (fun i i0 i1 => (if_pos (by omega)).symm))
  · skip
    (try simp (disch := omega) only [w32_id] at c1)
    refine ⟨by first | omega | (simp (disch := omega) only [w32_0, w64_0, wbi0, wbi1, yc_eq0, yc_lt0, yc_gt0, Classical.not_not, w32_id, w64_id]; omega) | (simp (disch := omega) only [w32_0, w64_0, wbi0, wbi1, yc_eq0, yc_lt0, yc_gt0, Classical.not_not, w32_id, w64_id]; done), ?_⟩
    refine ⟨fun c2 => ?_, fun c2 => ?_⟩
    · skip
      (try simp (disch := omega) only [w32_id] at c2)
      refine ⟨by first | omega | (simp (disch := omega) only [w32_0, w64_0, wbi0, wbi1, yc_eq0, yc_lt0, yc_gt0, Classical.not_not, w32_id, w64_id]; omega) | (simp (disch := omega) only [w32_0, w64_0, wbi0, wbi1, yc_eq0, yc_lt0, yc_gt0, Classical.not_not, w32_id, w64_id]; done), ?_⟩
      refine ⟨⟨rfl, rfl, rfl, rfl, rfl, rfl, ?_⟩, by omega⟩
      refine ⟨by omega, by omega, ?_⟩
      subst hA
      simp (disch := omega) only [w32_id]
      rw [setR_at (by omega) (by omega), y_shl1 (by omega) (by omega), if_neg (show ¬ k < k by omega)]
      refine setR_put (by omega) (by omega) (fun i i0 i1 => ?_)
      by_cases hk : i = k
      · subst hk
        rw [if_pos (by omega), if_pos rfl]
        unfold hv hP
        first | (rw [if_pos (show z = 0 by omega), if_pos (show z = 0 by omega)]; done) | (rw [if_neg (show ¬ z = 0 by omega), if_neg (show ¬ z = 0 by omega)]; done)
      · rw [if_neg hk]
        by_cases h7 : i < k
        · rw [if_pos (by omega), if_pos h7]
        · rw [if_neg (by omega), if_neg h7]
    · skip
      (try simp (disch := omega) only [w32_id] at c2)
      refine ⟨by first | omega | (simp (disch := omega) only [w32_0, w64_0, wbi0, wbi1, yc_eq0, yc_lt0, yc_gt0, Classical.not_not, w32_id, w64_id]; omega) | (simp (disch := omega) only [w32_0, w64_0, wbi0, wbi1, yc_eq0, yc_lt0, yc_gt0, Classical.not_not, w32_id, w64_id]; done), ?_⟩
      refine ⟨⟨rfl, rfl, rfl, rfl, rfl, rfl, ?_⟩, by omega⟩
      refine ⟨by omega, by omega, ?_⟩
      subst hA
      simp (disch := omega) only [w32_id]
      rw [setR_at (by omega) (by omega), y_shl1 (by omega) (by omega), if_neg (show ¬ k < k by omega)]
      refine setR_put (by omega) (by omega) (fun i i0 i1 => ?_)
      by_cases hk : i = k
      · subst hk
        rw [if_pos (by omega), if_pos rfl]
        unfold hv hP
        first | (rw [if_pos (show z = 0 by omega), if_pos (show z = 0 by omega)]; done) | (rw [if_neg (show ¬ z = 0 by omega), if_neg (show ¬ z = 0 by omega)]; done)
      · rw [if_neg hk]
        by_cases h7 : i < k
        · rw [if_pos (by omega), if_pos h7]
        · rw [if_neg (by omega), if_neg h7]
set_option maxRecDepth 20000 in
theorem qvX8_halve_10 (sfrom : Int) (to : Int) (n : Int) (z : Int) (F0 : FF) (A0 : AA) (K : KK) (h : ((0 ≤ n ∧ n ≤ 3) ∧ (z = 0 ∨ z = 1) ∧ 0 ≤ sfrom ∧ sfrom + 4 ≤ to ∧ to + 4 ≤ 12192) ∧ (K (some none) F0 (setR A0 10 to (n + 1) (hv (fun i => A0 10 (sfrom + i)) n z)))) : am_body qxX8_halve qnX8_halve_10 26 (qiX8_halve_10 sfrom to n z F0 A0) quX8_halve_10 [vR 10, vI sfrom, vI to, vI n, vI z] 7 F0 A0 K := by
  refine ⟨qvX8_halve_10_0 sfrom to n z F0 A0 K h, fun pc ls st F A u hI => ?_⟩
  unfold qiX8_halve_10 at hI
  replace hI := am_cond2 hI
  rcases hI with ⟨hb, hI⟩ | hI
  · have hb := am_bq hb
    subst hb
    split at hI
    · rename_i s0 s1 s2 s3 s4 k
      obtain ⟨e0, e1, e2, e3, e4, e5, hI⟩ := hI
      subst e0
      subst e1
      subst e2
      subst e3
      subst e4
      subst e5
      exact qvX8_halve_10_37 _ _ _ _ _ _ K h _ _ hI
    · exact hI.elim
  replace hI := am_cond2 hI
  rcases hI with ⟨hb, hI⟩ | hI
  · have hb := am_bq hb
    subst hb
    split at hI
    · rename_i s0 s1 s2 s3 s4 s
      obtain ⟨e0, e1, e2, e3, e4, e5, hI⟩ := hI
      subst e0
      subst e1
      subst e2
      subst e3
      subst e4
      subst e5
      exact qvX8_halve_10_64 _ _ _ _ _ _ K h _ _ hI
    · exact hI.elim
  replace hI := am_cond2 hI
  rcases hI with ⟨hb, hI⟩ | hI
  · have hb := am_bq hb
    subst hb
    split at hI
    · rename_i s0 s1 s2 s3 s4 s k
      obtain ⟨e0, e1, e2, e3, e4, e5, hI⟩ := hI
      subst e0
      subst e1
      subst e2
      subst e3
      subst e4
      subst e5
      exact qvX8_halve_10_78 _ _ _ _ _ _ K h _ _ _ hI
    · exact hI.elim
  replace hI := am_cond2 hI
  rcases hI with ⟨hb, hI⟩ | hI
  · have hb := am_bq hb
    subst hb
    split at hI
    · rename_i s0 s1 s2 s3 s4 s k
      obtain ⟨e0, e1, e2, e3, e4, e5, hI⟩ := hI
      subst e0
      subst e1
      subst e2
      subst e3
      subst e4
      subst e5
      exact qvX8_halve_10_116 _ _ _ _ _ _ K h _ _ _ hI
    · exact hI.elim
  replace hI := am_cond2 hI
  rcases hI with ⟨hb, hI⟩ | hI
  · have hb := am_bq hb
    subst hb
    split at hI
    · rename_i s0 s1 s2 s3 s4 k
      obtain ⟨e0, e1, e2, e3, e4, e5, hI⟩ := hI
      subst e0
      subst e1
      subst e2
      subst e3
      subst e4
      subst e5
      exact qvX8_halve_10_155 _ _ _ _ _ _ K h _ _ hI
    · exact hI.elim
  exact hI.elim
def qnX8_halve_15 : CUT := fun pc => cond (Nat.beq pc 37) (some [true, true, true, true, true, true, false]) (cond (Nat.beq pc 64) (some [true, true, true, true, true, true, false]) (cond (Nat.beq pc 78) (some [true, true, true, true, true, true, true]) (cond (Nat.beq pc 116) (some [true, true, true, true, true, true, true]) (cond (Nat.beq pc 155) (some [true, true, true, true, true, true, false]) (none)))))
def qiX8_halve_15 (sfrom : Int) (to : Int) (n : Int) (z : Int) (F0 : FF) (A0 : AA) : REC := fun pc ls st F A u => cond (Nat.beq pc 37) (match ls, st, u with
    | [some (.inr (.inr s0)), some (.inl s1), some (.inl s2), some (.inl s3), some (.inl s4), some (.inl k), none], [], 0 => s0 = 15 ∧ s1 = sfrom ∧ s2 = to ∧ s3 = n ∧ s4 = z ∧ F = F0 ∧ (0 ≤ k ∧ k ≤ n + 1 ∧ A = setR A0 15 to (k) ((fun i => A0 15 (sfrom + i))))
    | _, _, _ => False) (cond (Nat.beq pc 64) (match ls, st, u with
    | [some (.inr (.inr s0)), some (.inl s1), some (.inl s2), some (.inl s3), some (.inl s4), some (.inl s), none], [], 0 => s0 = 15 ∧ s1 = sfrom ∧ s2 = to ∧ s3 = n ∧ s4 = z ∧ F = F0 ∧ (1 ≤ s ∧ s ≤ n + 1 ∧ A = setR A0 15 to (n + 1) (hP (fun i => A0 15 (sfrom + i)) n z (Int.toNat (s - 1))))
    | _, _, _ => False) (cond (Nat.beq pc 78) (match ls, st, u with
    | [some (.inr (.inr s0)), some (.inl s1), some (.inl s2), some (.inl s3), some (.inl s4), some (.inl s), some (.inl k)], [], 0 => s0 = 15 ∧ s1 = sfrom ∧ s2 = to ∧ s3 = n ∧ s4 = z ∧ F = F0 ∧ (1 ≤ s ∧ s ≤ n ∧ z = 1 ∧ 0 ≤ k ∧ k ≤ n - s + 1 ∧ A = setR A0 15 to (n + 1) (fun i => if i < k then hR (fun i => A0 15 (sfrom + i)) n (Int.toNat s) i else hR (fun i => A0 15 (sfrom + i)) n (Int.toNat (s - 1)) i))
    | _, _, _ => False) (cond (Nat.beq pc 116) (match ls, st, u with
    | [some (.inr (.inr s0)), some (.inl s1), some (.inl s2), some (.inl s3), some (.inl s4), some (.inl s), some (.inl k)], [], 0 => s0 = 15 ∧ s1 = sfrom ∧ s2 = to ∧ s3 = n ∧ s4 = z ∧ F = F0 ∧ (1 ≤ s ∧ s ≤ n ∧ z = 0 ∧ s - 1 ≤ k ∧ k ≤ n ∧ A = setR A0 15 to (n + 1) (fun i => if k < i then hS (fun i => A0 15 (sfrom + i)) (Int.toNat s) i else hS (fun i => A0 15 (sfrom + i)) (Int.toNat (s - 1)) i))
    | _, _, _ => False) (cond (Nat.beq pc 155) (match ls, st, u with
    | [some (.inr (.inr s0)), some (.inl s1), some (.inl s2), some (.inl s3), some (.inl s4), some (.inl k), none], [], 0 => s0 = 15 ∧ s1 = sfrom ∧ s2 = to ∧ s3 = n ∧ s4 = z ∧ F = F0 ∧ (0 ≤ k ∧ k ≤ n + 1 ∧ A = setR A0 15 to (n + 1) (fun i => if i < k then hv (fun i => A0 15 (sfrom + i)) n z i else hP (fun i => A0 15 (sfrom + i)) n z (Int.toNat n) i))
    | _, _, _ => False) (False)))))
def quX8_halve_15 : Nat → LVs → List AV → FF → AA → Nat := fun pc ls _ F A => cond (Nat.beq pc 37) (match ls with
    | [some (.inr (.inr s0)), some (.inl s1), some (.inl s2), some (.inl s3), some (.inl s4), some (.inl k), none] => Int.toNat (400 - k)
    | _ => 0) (cond (Nat.beq pc 64) (match ls with
    | [some (.inr (.inr s0)), some (.inl s1), some (.inl s2), some (.inl s3), some (.inl s4), some (.inl s), none] => Int.toNat (300 - 20 * s)
    | _ => 0) (cond (Nat.beq pc 78) (match ls with
    | [some (.inr (.inr s0)), some (.inl s1), some (.inl s2), some (.inl s3), some (.inl s4), some (.inl s), some (.inl k)] => Int.toNat (299 - 20 * s - k)
    | _ => 0) (cond (Nat.beq pc 116) (match ls with
    | [some (.inr (.inr s0)), some (.inl s1), some (.inl s2), some (.inl s3), some (.inl s4), some (.inl s), some (.inl k)] => Int.toNat (290 - 20 * s + k)
    | _ => 0) (cond (Nat.beq pc 155) (match ls with
    | [some (.inr (.inr s0)), some (.inl s1), some (.inl s2), some (.inl s3), some (.inl s4), some (.inl k), none] => Int.toNat (100 - k)
    | _ => 0) (0)))))
set_option maxRecDepth 20000 in
theorem qvX8_halve_15_0 (sfrom : Int) (to : Int) (n : Int) (z : Int) (F0 : FF) (A0 : AA) (K : KK) (h : ((0 ≤ n ∧ n ≤ 3) ∧ (z = 0 ∨ z = 1) ∧ 0 ≤ sfrom ∧ sfrom + 4 ≤ to ∧ to + 4 ≤ 52) ∧ (K (some none) F0 (setR A0 15 to (n + 1) (hv (fun i => A0 15 (sfrom + i)) n z)))) : am_stp qxX8_halve (am_run qxX8_halve qnX8_halve_15 (qiX8_halve_15 sfrom to n z F0 A0) K 26) K 0 (am_ent [vR 15, vI sfrom, vI to, vI n, vI z] 7) [] F0 A0 0 := by
  show am_stp qxX8_halve (am_run qxX8_halve qnX8_halve_15 (qiX8_halve_15 sfrom to n z F0 A0) K 26) K 0 [some (vR 15), some (vI sfrom), some (vI to), some (vI n), some (vI z), none, none] [] F0 A0 0
  obtain ⟨hp, h⟩ := h
  obtain ⟨⟨p1, p2⟩, p3, p4, p5, p6⟩ := hp
  show (w32 n < w32 0 → (K (some none) F0 A0)) ∧ (¬ w32 n < w32 0 → ((w32 n < w32 4 → ((w32 sfrom < w32 0 → (K (some none) F0 A0)) ∧ (¬ w32 sfrom < w32 0 → ((w32 48 < w32 sfrom → (K (some none) F0 A0)) ∧ (¬ w32 48 < w32 sfrom → ((w32 to < w32 0 → (K (some none) F0 A0)) ∧ (¬ w32 to < w32 0 → ((w32 48 < w32 to → (K (some none) F0 A0)) ∧ (¬ w32 48 < w32 to → (15 = 15 ∧ sfrom = sfrom ∧ to = to ∧ n = n ∧ z = z ∧ F0 = F0 ∧ (0 ≤ 0 ∧ 0 ≤ n + 1 ∧ A0 = setR A0 15 to (0) ((fun i => A0 15 (sfrom + i)))))))))))))) ∧ (¬ w32 n < w32 4 → (K (some none) F0 A0))))
  refine ⟨fun c1 => ?_, fun c1 => ?_⟩
  · skip
    (try simp (disch := omega) only [w32_id] at c1)
    exact absurd h (by omega)
  · skip
    (try simp (disch := omega) only [w32_id] at c1)
    refine ⟨fun c2 => ?_, fun c2 => ?_⟩
    · skip
      (try simp (disch := omega) only [w32_id] at c2)
      refine ⟨fun c3 => ?_, fun c3 => ?_⟩
      · skip
        (try simp (disch := omega) only [w32_id] at c3)
        exact absurd h (by omega)
      · skip
        (try simp (disch := omega) only [w32_id] at c3)
        refine ⟨fun c4 => ?_, fun c4 => ?_⟩
        · skip
          (try simp (disch := omega) only [w32_id] at c4)
          exact absurd h (by omega)
        · skip
          (try simp (disch := omega) only [w32_id] at c4)
          refine ⟨fun c5 => ?_, fun c5 => ?_⟩
          · skip
            (try simp (disch := omega) only [w32_id] at c5)
            exact absurd h (by omega)
          · skip
            (try simp (disch := omega) only [w32_id] at c5)
            refine ⟨fun c6 => ?_, fun c6 => ?_⟩
            · skip
              (try simp (disch := omega) only [w32_id] at c6)
              exact absurd h (by omega)
            · skip
              (try simp (disch := omega) only [w32_id] at c6)
              refine ⟨rfl, rfl, rfl, rfl, rfl, rfl, ?_⟩
              refine ⟨by omega, by omega, setR_0.symm⟩
    · skip
      (try simp (disch := omega) only [w32_id] at c2)
      exact absurd h (by omega)
set_option maxRecDepth 20000 in
theorem qvX8_halve_15_37 (sfrom : Int) (to : Int) (n : Int) (z : Int) (F0 : FF) (A0 : AA) (K : KK) (h : ((0 ≤ n ∧ n ≤ 3) ∧ (z = 0 ∨ z = 1) ∧ 0 ≤ sfrom ∧ sfrom + 4 ≤ to ∧ to + 4 ≤ 52) ∧ (K (some none) F0 (setR A0 15 to (n + 1) (hv (fun i => A0 15 (sfrom + i)) n z)))) (k : Int) (A : AA) (hi : 0 ≤ k ∧ k ≤ n + 1 ∧ A = setR A0 15 to (k) ((fun i => A0 15 (sfrom + i)))) : am_stp qxX8_halve (am_run qxX8_halve qnX8_halve_15 (fun pc ls st F A u => qiX8_halve_15 sfrom to n z F0 A0 pc ls st F A u ∧ quX8_halve_15 pc ls st F A < quX8_halve_15 37 [some (vR 15), some (vI sfrom), some (vI to), some (vI n), some (vI z), some (vI k), none] [] F0 A) K 26) K 37 [some (vR 15), some (vI sfrom), some (vI to), some (vI n), some (vI z), some (vI k), none] [] F0 A 0 := by
  obtain ⟨hp, h⟩ := h
  obtain ⟨⟨p1, p2⟩, p3, p4, p5, p6⟩ := hp
  obtain ⟨h1, h2, hA⟩ := hi
  show (w32 n < w32 k → ((15 = 15 ∧ sfrom = sfrom ∧ to = to ∧ n = n ∧ z = z ∧ F0 = F0 ∧ (1 ≤ 1 ∧ 1 ≤ n + 1 ∧ A = setR A0 15 to (n + 1) (hP (fun i => A0 15 (sfrom + i)) n z (Int.toNat (1 - 1))))) ∧ (Int.toNat (300 - 20 * 1)) < (Int.toNat (400 - k)))) ∧ (¬ w32 n < w32 k → ((0 ≤ w32 (sfrom + k) ∧ w32 (sfrom + k) < 52) ∧ ((0 ≤ w32 (to + k) ∧ w32 (to + k) < 52) ∧ ((15 = 15 ∧ sfrom = sfrom ∧ to = to ∧ n = n ∧ z = z ∧ F0 = F0 ∧ (0 ≤ (k + 1) ∧ (k + 1) ≤ n + 1 ∧ (upA A 15 (w32 (to + k)) (A 15 (w32 (sfrom + k)))) = setR A0 15 to ((k + 1)) ((fun i => A0 15 (sfrom + i))))) ∧ (Int.toNat (400 - (k + 1))) < (Int.toNat (400 - k))))))
  refine ⟨fun c1 => ?_, fun c1 => ?_⟩
  · skip
    (try simp (disch := omega) only [w32_id] at c1)
    refine ⟨⟨rfl, rfl, rfl, rfl, rfl, rfl, ?_⟩, by omega⟩
    have e : k = n + 1 := by omega
    subst e
    refine ⟨by omega, by omega, ?_⟩
    rw [hA]
    unfold hP
    split <;> rfl
  · skip
    (try simp (disch := omega) only [w32_id] at c1)
    refine ⟨by first | omega | (simp (disch := omega) only [w32_0, w64_0, wbi0, wbi1, yc_eq0, yc_lt0, yc_gt0, Classical.not_not, w32_id, w64_id]; omega) | (simp (disch := omega) only [w32_0, w64_0, wbi0, wbi1, yc_eq0, yc_lt0, yc_gt0, Classical.not_not, w32_id, w64_id]; done), ?_⟩
    refine ⟨by first | omega | (simp (disch := omega) only [w32_0, w64_0, wbi0, wbi1, yc_eq0, yc_lt0, yc_gt0, Classical.not_not, w32_id, w64_id]; omega) | (simp (disch := omega) only [w32_0, w64_0, wbi0, wbi1, yc_eq0, yc_lt0, yc_gt0, Classical.not_not, w32_id, w64_id]; done), ?_⟩
    refine ⟨⟨rfl, rfl, rfl, rfl, rfl, rfl, ?_⟩, by omega⟩
    refine ⟨by omega, by omega, ?_⟩
    subst hA
    simp (disch := omega) only [w32_id]
    rw [setR_lt (by omega)]
    exact setR_push (by omega) (fun _ _ _ => rfl) rfl
set_option maxRecDepth 20000 in
theorem qvX8_halve_15_64 (sfrom : Int) (to : Int) (n : Int) (z : Int) (F0 : FF) (A0 : AA) (K : KK) (h : ((0 ≤ n ∧ n ≤ 3) ∧ (z = 0 ∨ z = 1) ∧ 0 ≤ sfrom ∧ sfrom + 4 ≤ to ∧ to + 4 ≤ 52) ∧ (K (some none) F0 (setR A0 15 to (n + 1) (hv (fun i => A0 15 (sfrom + i)) n z)))) (s : Int) (A : AA) (hi : 1 ≤ s ∧ s ≤ n + 1 ∧ A = setR A0 15 to (n + 1) (hP (fun i => A0 15 (sfrom + i)) n z (Int.toNat (s - 1)))) : am_stp qxX8_halve (am_run qxX8_halve qnX8_halve_15 (fun pc ls st F A u => qiX8_halve_15 sfrom to n z F0 A0 pc ls st F A u ∧ quX8_halve_15 pc ls st F A < quX8_halve_15 64 [some (vR 15), some (vI sfrom), some (vI to), some (vI n), some (vI z), some (vI s), none] [] F0 A) K 26) K 64 [some (vR 15), some (vI sfrom), some (vI to), some (vI n), some (vI z), some (vI s), none] [] F0 A 0 := by
  obtain ⟨hp, h⟩ := h
  obtain ⟨⟨p1, p2⟩, p3, p4, p5, p6⟩ := hp
  obtain ⟨h1, h2, hA⟩ := hi
  show (w32 n < w32 s → ((15 = 15 ∧ sfrom = sfrom ∧ to = to ∧ n = n ∧ z = z ∧ F0 = F0 ∧ (0 ≤ 0 ∧ 0 ≤ n + 1 ∧ A = setR A0 15 to (n + 1) (fun i => if i < 0 then hv (fun i => A0 15 (sfrom + i)) n z i else hP (fun i => A0 15 (sfrom + i)) n z (Int.toNat n) i))) ∧ (Int.toNat (100 - 0)) < (Int.toNat (300 - 20 * s)))) ∧ (¬ w32 n < w32 s → ((w32 z = w32 0 → ((15 = 15 ∧ sfrom = sfrom ∧ to = to ∧ n = n ∧ z = z ∧ F0 = F0 ∧ (1 ≤ s ∧ s ≤ n ∧ z = 0 ∧ s - 1 ≤ n ∧ n ≤ n ∧ A = setR A0 15 to (n + 1) (fun i => if n < i then hS (fun i => A0 15 (sfrom + i)) (Int.toNat s) i else hS (fun i => A0 15 (sfrom + i)) (Int.toNat (s - 1)) i))) ∧ (Int.toNat (290 - 20 * s + n)) < (Int.toNat (300 - 20 * s)))) ∧ (¬ w32 z = w32 0 → ((15 = 15 ∧ sfrom = sfrom ∧ to = to ∧ n = n ∧ z = z ∧ F0 = F0 ∧ (1 ≤ s ∧ s ≤ n ∧ z = 1 ∧ 0 ≤ 0 ∧ 0 ≤ n - s + 1 ∧ A = setR A0 15 to (n + 1) (fun i => if i < 0 then hR (fun i => A0 15 (sfrom + i)) n (Int.toNat s) i else hR (fun i => A0 15 (sfrom + i)) n (Int.toNat (s - 1)) i))) ∧ (Int.toNat (299 - 20 * s - 0)) < (Int.toNat (300 - 20 * s))))))
  refine ⟨fun c1 => ?_, fun c1 => ?_⟩
  · skip
    (try simp (disch := omega) only [w32_id] at c1)
    refine ⟨⟨rfl, rfl, rfl, rfl, rfl, rfl, ?_⟩, by omega⟩
    have e : s = n + 1 := by omega
    subst e
    refine ⟨by omega, by omega, ?_⟩
    rw [hA]
    refine setR_c (fun i i0 i1 => ?_)
    rw [if_neg (by omega), show n + 1 - 1 = n by omega]
  · skip
    (try simp (disch := omega) only [w32_id] at c1)
    refine ⟨fun c2 => ?_, fun c2 => ?_⟩
    · skip
      (try simp (disch := omega) only [w32_id] at c2)
      refine ⟨⟨rfl, rfl, rfl, rfl, rfl, rfl, ?_⟩, by omega⟩
      refine ⟨h1, by omega, by omega, by omega, by omega, ?_⟩
      rw [hA]
      refine setR_c (fun i i0 i1 => ?_)
      unfold hP
      rw [if_pos (by omega), if_neg (by omega)]
    · skip
      (try simp (disch := omega) only [w32_id] at c2)
      refine ⟨⟨rfl, rfl, rfl, rfl, rfl, rfl, ?_⟩, by omega⟩
      refine ⟨h1, by omega, by omega, by omega, by omega, ?_⟩
      rw [hA]
      refine setR_c (fun i i0 i1 => ?_)
      unfold hP
      rw [if_neg (by omega), if_neg (by omega)]
set_option maxRecDepth 20000 in
theorem qvX8_halve_15_78 (sfrom : Int) (to : Int) (n : Int) (z : Int) (F0 : FF) (A0 : AA) (K : KK) (h : ((0 ≤ n ∧ n ≤ 3) ∧ (z = 0 ∨ z = 1) ∧ 0 ≤ sfrom ∧ sfrom + 4 ≤ to ∧ to + 4 ≤ 52) ∧ (K (some none) F0 (setR A0 15 to (n + 1) (hv (fun i => A0 15 (sfrom + i)) n z)))) (s : Int) (k : Int) (A : AA) (hi : 1 ≤ s ∧ s ≤ n ∧ z = 1 ∧ 0 ≤ k ∧ k ≤ n - s + 1 ∧ A = setR A0 15 to (n + 1) (fun i => if i < k then hR (fun i => A0 15 (sfrom + i)) n (Int.toNat s) i else hR (fun i => A0 15 (sfrom + i)) n (Int.toNat (s - 1)) i)) : am_stp qxX8_halve (am_run qxX8_halve qnX8_halve_15 (fun pc ls st F A u => qiX8_halve_15 sfrom to n z F0 A0 pc ls st F A u ∧ quX8_halve_15 pc ls st F A < quX8_halve_15 78 [some (vR 15), some (vI sfrom), some (vI to), some (vI n), some (vI z), some (vI s), some (vI k)] [] F0 A) K 26) K 78 [some (vR 15), some (vI sfrom), some (vI to), some (vI n), some (vI z), some (vI s), some (vI k)] [] F0 A 0 := by
  obtain ⟨hp, h⟩ := h
  obtain ⟨⟨p1, p2⟩, p3, p4, p5, p6⟩ := hp
  obtain ⟨h1, h2, h3, h4, h5, hA⟩ := hi
  show (w32 (n - s) < w32 k → ((15 = 15 ∧ sfrom = sfrom ∧ to = to ∧ n = n ∧ z = z ∧ F0 = F0 ∧ (1 ≤ (s + 1) ∧ (s + 1) ≤ n + 1 ∧ A = setR A0 15 to (n + 1) (hP (fun i => A0 15 (sfrom + i)) n z (Int.toNat ((s + 1) - 1))))) ∧ (Int.toNat (300 - 20 * (s + 1))) < (Int.toNat (299 - 20 * s - k)))) ∧ (¬ w32 (n - s) < w32 k → ((0 ≤ w32 (to + k) ∧ w32 (to + k) < 52) ∧ ((0 ≤ w32 ((to + k) + 1) ∧ w32 ((to + k) + 1) < 52) ∧ ((0 ≤ w32 (to + k) ∧ w32 (to + k) < 52) ∧ ((15 = 15 ∧ sfrom = sfrom ∧ to = to ∧ n = n ∧ z = z ∧ F0 = F0 ∧ (1 ≤ s ∧ s ≤ n ∧ z = 1 ∧ 0 ≤ (k + 1) ∧ (k + 1) ≤ n - s + 1 ∧ (upA A 15 (w32 (to + k)) ((A 15 (w32 (to + k))) + (A 15 (w32 ((to + k) + 1))))) = setR A0 15 to (n + 1) (fun i => if i < (k + 1) then hR (fun i => A0 15 (sfrom + i)) n (Int.toNat s) i else hR (fun i => A0 15 (sfrom + i)) n (Int.toNat (s - 1)) i))) ∧ (Int.toNat (299 - 20 * s - (k + 1))) < (Int.toNat (299 - 20 * s - k)))))))
  refine ⟨fun c1 => ?_, fun c1 => ?_⟩
  · skip
    (try simp (disch := omega) only [w32_id] at c1)
    refine ⟨⟨rfl, rfl, rfl, rfl, rfl, rfl, ?_⟩, by omega⟩
    refine ⟨by omega, by omega, ?_⟩
    subst hA
    refine setR_c (fun i i0 i1 => ?_)
    unfold hP
    rw [if_neg (show ¬ z = 0 by omega), show s + 1 - 1 = s by omega]
    by_cases h7 : i < k
    · rw [if_pos h7]
    · rw [if_neg h7, hR_stay h1 (by omega)]
  · skip
    (try simp (disch := omega) only [w32_id] at c1)
    refine ⟨by first | omega | (simp (disch := omega) only [w32_0, w64_0, wbi0, wbi1, yc_eq0, yc_lt0, yc_gt0, Classical.not_not, w32_id, w64_id]; omega) | (simp (disch := omega) only [w32_0, w64_0, wbi0, wbi1, yc_eq0, yc_lt0, yc_gt0, Classical.not_not, w32_id, w64_id]; done), ?_⟩
    refine ⟨by first | omega | (simp (disch := omega) only [w32_0, w64_0, wbi0, wbi1, yc_eq0, yc_lt0, yc_gt0, Classical.not_not, w32_id, w64_id]; omega) | (simp (disch := omega) only [w32_0, w64_0, wbi0, wbi1, yc_eq0, yc_lt0, yc_gt0, Classical.not_not, w32_id, w64_id]; done), ?_⟩
    refine ⟨by first | omega | (simp (disch := omega) only [w32_0, w64_0, wbi0, wbi1, yc_eq0, yc_lt0, yc_gt0, Classical.not_not, w32_id, w64_id]; omega) | (simp (disch := omega) only [w32_0, w64_0, wbi0, wbi1, yc_eq0, yc_lt0, yc_gt0, Classical.not_not, w32_id, w64_id]; done), ?_⟩
    refine ⟨⟨rfl, rfl, rfl, rfl, rfl, rfl, ?_⟩, by omega⟩
    refine ⟨h1, h2, h3, by omega, by omega, ?_⟩
    subst hA
    simp (disch := omega) only [w32_id]
    rw [setR_at (by omega) (by omega), show to + k + 1 = to + (k + 1) by omega, setR_at (by omega) (by omega)]
    refine setR_put (by omega) (by omega) (fun i i0 i1 => ?_)
    by_cases hk : i = k
    · subst hk
      rw [if_pos (by omega), if_pos rfl, hR_step h1 (by omega), if_neg (by omega), if_neg (by omega)]
    · rw [if_neg hk]
      by_cases h7 : i < k
      · rw [if_pos (by omega), if_pos h7]
      · rw [if_neg (by omega), if_neg h7]
set_option maxRecDepth 20000 in
theorem qvX8_halve_15_116 (sfrom : Int) (to : Int) (n : Int) (z : Int) (F0 : FF) (A0 : AA) (K : KK) (h : ((0 ≤ n ∧ n ≤ 3) ∧ (z = 0 ∨ z = 1) ∧ 0 ≤ sfrom ∧ sfrom + 4 ≤ to ∧ to + 4 ≤ 52) ∧ (K (some none) F0 (setR A0 15 to (n + 1) (hv (fun i => A0 15 (sfrom + i)) n z)))) (s : Int) (k : Int) (A : AA) (hi : 1 ≤ s ∧ s ≤ n ∧ z = 0 ∧ s - 1 ≤ k ∧ k ≤ n ∧ A = setR A0 15 to (n + 1) (fun i => if k < i then hS (fun i => A0 15 (sfrom + i)) (Int.toNat s) i else hS (fun i => A0 15 (sfrom + i)) (Int.toNat (s - 1)) i)) : am_stp qxX8_halve (am_run qxX8_halve qnX8_halve_15 (fun pc ls st F A u => qiX8_halve_15 sfrom to n z F0 A0 pc ls st F A u ∧ quX8_halve_15 pc ls st F A < quX8_halve_15 116 [some (vR 15), some (vI sfrom), some (vI to), some (vI n), some (vI z), some (vI s), some (vI k)] [] F0 A) K 26) K 116 [some (vR 15), some (vI sfrom), some (vI to), some (vI n), some (vI z), some (vI s), some (vI k)] [] F0 A 0 := by
  obtain ⟨hp, h⟩ := h
  obtain ⟨⟨p1, p2⟩, p3, p4, p5, p6⟩ := hp
  obtain ⟨h1, h2, h3, h4, h5, hA⟩ := hi
  show (w32 k < w32 s → ((15 = 15 ∧ sfrom = sfrom ∧ to = to ∧ n = n ∧ z = z ∧ F0 = F0 ∧ (1 ≤ (s + 1) ∧ (s + 1) ≤ n + 1 ∧ A = setR A0 15 to (n + 1) (hP (fun i => A0 15 (sfrom + i)) n z (Int.toNat ((s + 1) - 1))))) ∧ (Int.toNat (300 - 20 * (s + 1))) < (Int.toNat (290 - 20 * s + k)))) ∧ (¬ w32 k < w32 s → ((0 ≤ w32 (to + k) ∧ w32 (to + k) < 52) ∧ ((0 ≤ w32 ((to + k) - 1) ∧ w32 ((to + k) - 1) < 52) ∧ ((0 ≤ w32 (to + k) ∧ w32 (to + k) < 52) ∧ ((15 = 15 ∧ sfrom = sfrom ∧ to = to ∧ n = n ∧ z = z ∧ F0 = F0 ∧ (1 ≤ s ∧ s ≤ n ∧ z = 0 ∧ s - 1 ≤ (k + (-1)) ∧ (k + (-1)) ≤ n ∧ (upA A 15 (w32 (to + k)) ((A 15 (w32 (to + k))) + (A 15 (w32 ((to + k) - 1))))) = setR A0 15 to (n + 1) (fun i => if (k + (-1)) < i then hS (fun i => A0 15 (sfrom + i)) (Int.toNat s) i else hS (fun i => A0 15 (sfrom + i)) (Int.toNat (s - 1)) i))) ∧ (Int.toNat (290 - 20 * s + (k + (-1)))) < (Int.toNat (290 - 20 * s + k)))))))
  refine ⟨fun c1 => ?_, fun c1 => ?_⟩
  · skip
    (try simp (disch := omega) only [w32_id] at c1)
    refine ⟨⟨rfl, rfl, rfl, rfl, rfl, rfl, ?_⟩, by omega⟩
    refine ⟨by omega, by omega, ?_⟩
    subst hA
    refine setR_c (fun i i0 i1 => ?_)
    unfold hP
    rw [if_pos (show z = 0 by omega), show s + 1 - 1 = s by omega]
    by_cases h7 : k < i
    · rw [if_pos h7]
    · rw [if_neg h7, hS_stay h1 (by omega)]
  · skip
    (try simp (disch := omega) only [w32_id] at c1)
    refine ⟨by first | omega | (simp (disch := omega) only [w32_0, w64_0, wbi0, wbi1, yc_eq0, yc_lt0, yc_gt0, Classical.not_not, w32_id, w64_id]; omega) | (simp (disch := omega) only [w32_0, w64_0, wbi0, wbi1, yc_eq0, yc_lt0, yc_gt0, Classical.not_not, w32_id, w64_id]; done), ?_⟩
    refine ⟨by first | omega | (simp (disch := omega) only [w32_0, w64_0, wbi0, wbi1, yc_eq0, yc_lt0, yc_gt0, Classical.not_not, w32_id, w64_id]; omega) | (simp (disch := omega) only [w32_0, w64_0, wbi0, wbi1, yc_eq0, yc_lt0, yc_gt0, Classical.not_not, w32_id, w64_id]; done), ?_⟩
    refine ⟨by first | omega | (simp (disch := omega) only [w32_0, w64_0, wbi0, wbi1, yc_eq0, yc_lt0, yc_gt0, Classical.not_not, w32_id, w64_id]; omega) | (simp (disch := omega) only [w32_0, w64_0, wbi0, wbi1, yc_eq0, yc_lt0, yc_gt0, Classical.not_not, w32_id, w64_id]; done), ?_⟩
    refine ⟨⟨rfl, rfl, rfl, rfl, rfl, rfl, ?_⟩, by omega⟩
    refine ⟨h1, h2, h3, by omega, by omega, ?_⟩
    subst hA
    simp (disch := omega) only [w32_id]
    rw [setR_at (by omega) (by omega), show to + k - 1 = to + (k - 1) by omega, setR_at (by omega) (by omega)]
    refine setR_put (by omega) (by omega) (fun i i0 i1 => ?_)
    by_cases hk : i = k
    · subst hk
      rw [if_pos (by omega), if_pos rfl, hS_step h1 (by omega), if_neg (by omega), if_neg (by omega)]
    · rw [if_neg hk]
      by_cases h7 : k < i
      · rw [if_pos (by omega), if_pos h7]
      · rw [if_neg (by omega), if_neg h7]
set_option maxRecDepth 20000 in
theorem qvX8_halve_15_155 (sfrom : Int) (to : Int) (n : Int) (z : Int) (F0 : FF) (A0 : AA) (K : KK) (h : ((0 ≤ n ∧ n ≤ 3) ∧ (z = 0 ∨ z = 1) ∧ 0 ≤ sfrom ∧ sfrom + 4 ≤ to ∧ to + 4 ≤ 52) ∧ (K (some none) F0 (setR A0 15 to (n + 1) (hv (fun i => A0 15 (sfrom + i)) n z)))) (k : Int) (A : AA) (hi : 0 ≤ k ∧ k ≤ n + 1 ∧ A = setR A0 15 to (n + 1) (fun i => if i < k then hv (fun i => A0 15 (sfrom + i)) n z i else hP (fun i => A0 15 (sfrom + i)) n z (Int.toNat n) i)) : am_stp qxX8_halve (am_run qxX8_halve qnX8_halve_15 (fun pc ls st F A u => qiX8_halve_15 sfrom to n z F0 A0 pc ls st F A u ∧ quX8_halve_15 pc ls st F A < quX8_halve_15 155 [some (vR 15), some (vI sfrom), some (vI to), some (vI n), some (vI z), some (vI k), none] [] F0 A) K 26) K 155 [some (vR 15), some (vI sfrom), some (vI to), some (vI n), some (vI z), some (vI k), none] [] F0 A 0 := by
  obtain ⟨hp, h⟩ := h
  obtain ⟨⟨p1, p2⟩, p3, p4, p5, p6⟩ := hp
  obtain ⟨h1, h2, hA⟩ := hi
  show (w32 n < w32 k → (K (some none) F0 A)) ∧ (¬ w32 n < w32 k → ((0 ≤ w32 (to + k) ∧ w32 (to + k) < 52) ∧ ((w32 z = w32 0 → ((0 ≤ w32 (to + k) ∧ w32 (to + k) < 52) ∧ ((15 = 15 ∧ sfrom = sfrom ∧ to = to ∧ n = n ∧ z = z ∧ F0 = F0 ∧ (0 ≤ (k + 1) ∧ (k + 1) ≤ n + 1 ∧ (upA A 15 (w32 (to + k)) ((A 15 (w32 (to + k))) * (y_shl 1 (n - k)))) = setR A0 15 to (n + 1) (fun i => if i < (k + 1) then hv (fun i => A0 15 (sfrom + i)) n z i else hP (fun i => A0 15 (sfrom + i)) n z (Int.toNat n) i))) ∧ (Int.toNat (100 - (k + 1))) < (Int.toNat (100 - k))))) ∧ (¬ w32 z = w32 0 → ((0 ≤ w32 (to + k) ∧ w32 (to + k) < 52) ∧ ((15 = 15 ∧ sfrom = sfrom ∧ to = to ∧ n = n ∧ z = z ∧ F0 = F0 ∧ (0 ≤ (k + 1) ∧ (k + 1) ≤ n + 1 ∧ (upA A 15 (w32 (to + k)) ((A 15 (w32 (to + k))) * (y_shl 1 k))) = setR A0 15 to (n + 1) (fun i => if i < (k + 1) then hv (fun i => A0 15 (sfrom + i)) n z i else hP (fun i => A0 15 (sfrom + i)) n z (Int.toNat n) i))) ∧ (Int.toNat (100 - (k + 1))) < (Int.toNat (100 - k))))))))
  refine ⟨fun c1 => ?_, fun c1 => ?_⟩
  · skip
    (try simp (disch := omega) only [w32_id] at c1)
    subst hA
    exact A_eq h (setR_c (fun i i0 i1 => (if_pos (by omega)).symm))
  · skip
    (try simp (disch := omega) only [w32_id] at c1)
    refine ⟨by first | omega | (simp (disch := omega) only [w32_0, w64_0, wbi0, wbi1, yc_eq0, yc_lt0, yc_gt0, Classical.not_not, w32_id, w64_id]; omega) | (simp (disch := omega) only [w32_0, w64_0, wbi0, wbi1, yc_eq0, yc_lt0, yc_gt0, Classical.not_not, w32_id, w64_id]; done), ?_⟩
    refine ⟨fun c2 => ?_, fun c2 => ?_⟩
    · skip
      (try simp (disch := omega) only [w32_id] at c2)
      refine ⟨by first | omega | (simp (disch := omega) only [w32_0, w64_0, wbi0, wbi1, yc_eq0, yc_lt0, yc_gt0, Classical.not_not, w32_id, w64_id]; omega) | (simp (disch := omega) only [w32_0, w64_0, wbi0, wbi1, yc_eq0, yc_lt0, yc_gt0, Classical.not_not, w32_id, w64_id]; done), ?_⟩
      refine ⟨⟨rfl, rfl, rfl, rfl, rfl, rfl, ?_⟩, by omega⟩
      refine ⟨by omega, by omega, ?_⟩
      subst hA
      simp (disch := omega) only [w32_id]
      rw [setR_at (by omega) (by omega), y_shl1 (by omega) (by omega), if_neg (show ¬ k < k by omega)]
      refine setR_put (by omega) (by omega) (fun i i0 i1 => ?_)
      by_cases hk : i = k
      · subst hk
        rw [if_pos (by omega), if_pos rfl]
        unfold hv hP
        first | (rw [if_pos (show z = 0 by omega), if_pos (show z = 0 by omega)]; done) | (rw [if_neg (show ¬ z = 0 by omega), if_neg (show ¬ z = 0 by omega)]; done)
      · rw [if_neg hk]
        by_cases h7 : i < k
        · rw [if_pos (by omega), if_pos h7]
        · rw [if_neg (by omega), if_neg h7]
    · skip
      (try simp (disch := omega) only [w32_id] at c2)
      refine ⟨by first | omega | (simp (disch := omega) only [w32_0, w64_0, wbi0, wbi1, yc_eq0, yc_lt0, yc_gt0, Classical.not_not, w32_id, w64_id]; omega) | (simp (disch := omega) only [w32_0, w64_0, wbi0, wbi1, yc_eq0, yc_lt0, yc_gt0, Classical.not_not, w32_id, w64_id]; done), ?_⟩
      refine ⟨⟨rfl, rfl, rfl, rfl, rfl, rfl, ?_⟩, by omega⟩
      refine ⟨by omega, by omega, ?_⟩
      subst hA
      simp (disch := omega) only [w32_id]
      rw [setR_at (by omega) (by omega), y_shl1 (by omega) (by omega), if_neg (show ¬ k < k by omega)]
      refine setR_put (by omega) (by omega) (fun i i0 i1 => ?_)
      by_cases hk : i = k
      · subst hk
        rw [if_pos (by omega), if_pos rfl]
        unfold hv hP
        first | (rw [if_pos (show z = 0 by omega), if_pos (show z = 0 by omega)]; done) | (rw [if_neg (show ¬ z = 0 by omega), if_neg (show ¬ z = 0 by omega)]; done)
      · rw [if_neg hk]
        by_cases h7 : i < k
        · rw [if_pos (by omega), if_pos h7]
        · rw [if_neg (by omega), if_neg h7]
set_option maxRecDepth 20000 in
theorem qvX8_halve_15 (sfrom : Int) (to : Int) (n : Int) (z : Int) (F0 : FF) (A0 : AA) (K : KK) (h : ((0 ≤ n ∧ n ≤ 3) ∧ (z = 0 ∨ z = 1) ∧ 0 ≤ sfrom ∧ sfrom + 4 ≤ to ∧ to + 4 ≤ 52) ∧ (K (some none) F0 (setR A0 15 to (n + 1) (hv (fun i => A0 15 (sfrom + i)) n z)))) : am_body qxX8_halve qnX8_halve_15 26 (qiX8_halve_15 sfrom to n z F0 A0) quX8_halve_15 [vR 15, vI sfrom, vI to, vI n, vI z] 7 F0 A0 K := by
  refine ⟨qvX8_halve_15_0 sfrom to n z F0 A0 K h, fun pc ls st F A u hI => ?_⟩
  unfold qiX8_halve_15 at hI
  replace hI := am_cond2 hI
  rcases hI with ⟨hb, hI⟩ | hI
  · have hb := am_bq hb
    subst hb
    split at hI
    · rename_i s0 s1 s2 s3 s4 k
      obtain ⟨e0, e1, e2, e3, e4, e5, hI⟩ := hI
      subst e0
      subst e1
      subst e2
      subst e3
      subst e4
      subst e5
      exact qvX8_halve_15_37 _ _ _ _ _ _ K h _ _ hI
    · exact hI.elim
  replace hI := am_cond2 hI
  rcases hI with ⟨hb, hI⟩ | hI
  · have hb := am_bq hb
    subst hb
    split at hI
    · rename_i s0 s1 s2 s3 s4 s
      obtain ⟨e0, e1, e2, e3, e4, e5, hI⟩ := hI
      subst e0
      subst e1
      subst e2
      subst e3
      subst e4
      subst e5
      exact qvX8_halve_15_64 _ _ _ _ _ _ K h _ _ hI
    · exact hI.elim
  replace hI := am_cond2 hI
  rcases hI with ⟨hb, hI⟩ | hI
  · have hb := am_bq hb
    subst hb
    split at hI
    · rename_i s0 s1 s2 s3 s4 s k
      obtain ⟨e0, e1, e2, e3, e4, e5, hI⟩ := hI
      subst e0
      subst e1
      subst e2
      subst e3
      subst e4
      subst e5
      exact qvX8_halve_15_78 _ _ _ _ _ _ K h _ _ _ hI
    · exact hI.elim
  replace hI := am_cond2 hI
  rcases hI with ⟨hb, hI⟩ | hI
  · have hb := am_bq hb
    subst hb
    split at hI
    · rename_i s0 s1 s2 s3 s4 s k
      obtain ⟨e0, e1, e2, e3, e4, e5, hI⟩ := hI
      subst e0
      subst e1
      subst e2
      subst e3
      subst e4
      subst e5
      exact qvX8_halve_15_116 _ _ _ _ _ _ K h _ _ _ hI
    · exact hI.elim
  replace hI := am_cond2 hI
  rcases hI with ⟨hb, hI⟩ | hI
  · have hb := am_bq hb
    subst hb
    split at hI
    · rename_i s0 s1 s2 s3 s4 k
      obtain ⟨e0, e1, e2, e3, e4, e5, hI⟩ := hI
      subst e0
      subst e1
      subst e2
      subst e3
      subst e4
      subst e5
      exact qvX8_halve_15_155 _ _ _ _ _ _ K h _ _ hI
    · exact hI.elim
  exact hI.elim
theorem qtX8_halve (l : Launch) : am_CT l layX qeX8_halve := am_met0 rfl (by decide +kernel) rfl rfl rfl rfl rfl (fun _ => rfl) rfl (qzX8_halve l) (fun k e1 h => (qyX8_halve l k e1 h).2) (fun as F A K h => by
  replace h : qsX8_halve as F A K := h
  unfold qsX8_halve at h
  split at h
  · rename_i r sfrom to n z
    refine ⟨by first | exact Nat.le_of_ble_eq_true rfl | simp [am_fl, am_cat], ?_⟩
    replace h := am_cond2 h
    rcases h with ⟨hb, h⟩ | h
    · skip
      have hb0 := hb
      have hb0 := am_bq hb0
      subst hb0
      exact am_way_body (qvX8_halve_10 sfrom to n z F A K h)
    replace h := am_cond2 h
    rcases h with ⟨hb, h⟩ | h
    · skip
      have hb0 := hb
      have hb0 := am_bq hb0
      subst hb0
      exact am_way_body (qvX8_halve_15 sfrom to n z F A K h)
    exact h.elim
  · exact h.elim)
