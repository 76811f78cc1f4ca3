def qkL_refined : Nat → Option CI := fun pc => cond (Nat.ble 23 pc) none (cond (Nat.ble 12 pc) (cond (Nat.ble 19 pc) (cond (Nat.ble 21 pc) (cond (Nat.beq pc 21) (some (.iconst 0, 22, [])) (cond (Nat.beq pc 22) (some (.ireturn, 23, [])) (none))) (cond (Nat.beq pc 19) (some (.iconst 1, 20, [])) (cond (Nat.beq pc 20) (some (.ireturn, 21, [])) (none)))) (cond (Nat.ble 14 pc) (cond (Nat.beq pc 14) (some (.goto 7, 17, [21])) (cond (Nat.beq pc 17) (some (.astore 6, 19, [])) (none))) (cond (Nat.beq pc 12) (some (.i2l, 13, [])) (cond (Nat.beq pc 13) (some (.lastore, 14, [])) (none))))) (cond (Nat.ble 5 pc) (cond (Nat.ble 7 pc) (cond (Nat.beq pc 7) (some (.iload 4, 9, [])) (cond (Nat.beq pc 9) (some (.invokevirtual 76, 12, [])) (none))) (cond (Nat.beq pc 5) (some (.iload_n 2, 6, [])) (cond (Nat.beq pc 6) (some (.iload_n 3, 7, [])) (none)))) (cond (Nat.ble 3 pc) (cond (Nat.beq pc 3) (some (.aload_n 0, 4, [])) (cond (Nat.beq pc 4) (some (.iload_n 1, 5, [])) (none))) (cond (Nat.beq pc 0) (some (.aload 5, 2, [])) (cond (Nat.beq pc 2) (some (.iconst 0, 3, [])) (none))))))
theorem qkL_refined_ok : ∀ pc i nx ts, qkL_refined pc = some (i, nx, ts) → am_cok cL_refined pc (i, nx, ts) = true := fun pc i nx ts h => am_tok_ok (n := 23) (by decide +kernel) (fun pc h => by show cond (Nat.ble 23 pc) _ _ = _; rw [Nat.ble_eq_true_of_le h]; rfl) h
def qaL_refined : Nat → Option CE := fun k => cond (Nat.beq k 76) (some qeX8_refined) (none)
theorem qyL_refined (l : Launch) (hst : l.stackTraces = false) : ∀ k e1, qaL_refined k = some e1 → am_cal l layL RL 22 k e1 ∧ True := q_cons ⟨am_calV (ci := 8) (am_CT_mono layX_L (qtX8_refined l hst)) qbX8_refined (by decide) rfl (am_tb_at 1122 (by decide +kernel) rfl), trivial⟩ (q_nil)
def qxL_refined : CX := (qkL_refined, layL, qfL, qaL_refined, qcL, qlL, qmL, (some .int), false, (some 19), 2, none, fun _ => none)
theorem qzL_refined (l : Launch) (hst : l.stackTraces = false) : am_sta l qxL_refined RL 22 cL_refined := ⟨qkL_refined_ok, layL_ok, qfL_ok, qcL_ok, qlL_ok, am_mthP qmL_ok (by decide), fun k e1 h => (qyL_refined l hst k e1 h).1⟩
def qsL_refined : SP := fun as F A K => match as with
  | [.inr (.inr x), .inl c, .inl l, .inl r, .inl d, .inr (.inr o)] => cond (Nat.beq x 0 && Nat.beq o 43) ((fgOK (A 2) ∧ (-2147483648 ≤ c ∧ c < 2147483648) ∧ (-2147483648 ≤ l ∧ l < 2147483648) ∧ (-2147483648 ≤ r ∧ r < 2147483648) ∧ (-2147483648 ≤ d ∧ d < 2147483648) ∧ rtB (A 2)) ∧ (((0 ≤ c ∧ c < A 2 0) ∧ 0 ≤ l ∧ l < A 2 1 → (∀ (G_1 : FF) (B_1 : AA), (qrP F G_1 A B_1) → (K (some (some (vI 0))) G_1 (upA B_1 43 (w32 0) (w32 (if (0 ≤ r ∧ r < ((rtsX (A 2) c l).length : Int)) ∧ ¬ (rtN (rtsX (A 2) c l) r).1 = 2 then (if 0 ≤ d ∧ d ≤ 12 then refP (A 2) c l (rtN (rtsX (A 2) c l) r) d else -2) else -1)))))) ∧ (¬ ((0 ≤ c ∧ c < A 2 0) ∧ 0 ≤ l ∧ l < A 2 1) → (K (some (some (vI 1))) F A)))) (False)
  | _ => False
def qeL_refined : CE := (yL_refined, cL_refined, 7, (some .int), 6, none, 2, [(0, 14, 17, 13)], 2, 22, qsL_refined)
theorem qbL_refined : am_mb qeL_refined := ⟨am_tb_at 1121 (by decide +kernel) rfl, am_tb_at 113 (by decide +kernel) rfl, ⟨by decide, by decide, by decide +kernel⟩, by decide, am_tb_at 1120 (by decide +kernel) rfl⟩
set_option maxRecDepth 20000 in
theorem qvL_refined_0_43 (c : Int) (l : Int) (r : Int) (d : Int) (F : FF) (A : AA) (K : KK) (h : (fgOK (A 2) ∧ (-2147483648 ≤ c ∧ c < 2147483648) ∧ (-2147483648 ≤ l ∧ l < 2147483648) ∧ (-2147483648 ≤ r ∧ r < 2147483648) ∧ (-2147483648 ≤ d ∧ d < 2147483648) ∧ rtB (A 2)) ∧ (((0 ≤ c ∧ c < A 2 0) ∧ 0 ≤ l ∧ l < A 2 1 → (∀ (G_1 : FF) (B_1 : AA), (qrP F G_1 A B_1) → (K (some (some (vI 0))) G_1 (upA B_1 43 (w32 0) (w32 (if (0 ≤ r ∧ r < ((rtsX (A 2) c l).length : Int)) ∧ ¬ (rtN (rtsX (A 2) c l) r).1 = 2 then (if 0 ≤ d ∧ d ≤ 12 then refP (A 2) c l (rtN (rtsX (A 2) c l) r) d else -2) else -1)))))) ∧ (¬ ((0 ≤ c ∧ c < A 2 0) ∧ 0 ≤ l ∧ l < A 2 1) → (K (some (some (vI 1))) F A)))) : am_line qxL_refined 14 [vR 0, vI c, vI l, vI r, vI d, vR 43] 7 F A K := by
  show am_stp qxL_refined (am_run qxL_refined (fun _ => none) (fun _ _ _ _ _ _ => False) K 14) K 0 [some (vR 0), some (vI c), some (vI l), some (vI r), some (vI d), some (vR 43), none] [] F A 0
  obtain ⟨hp, h⟩ := h
  show (fgOK (A 2) ∧ (-2147483648 ≤ c ∧ c < 2147483648) ∧ (-2147483648 ≤ l ∧ l < 2147483648) ∧ (-2147483648 ≤ r ∧ r < 2147483648) ∧ (-2147483648 ≤ d ∧ d < 2147483648) ∧ rtB (A 2)) ∧ (((0 ≤ c ∧ c < A 2 0) ∧ 0 ≤ l ∧ l < A 2 1 → (∀ (G_1 : FF) (B_1 : AA), (qrP F G_1 A B_1) → ((0 ≤ w32 0 ∧ w32 0 < 1) ∧ (K (some (some (vI 0))) G_1 (upA B_1 43 (w32 0) (w32 (if (0 ≤ r ∧ r < ((rtsX (A 2) c l).length : Int)) ∧ ¬ (rtN (rtsX (A 2) c l) r).1 = 2 then (if 0 ≤ d ∧ d ≤ 12 then refP (A 2) c l (rtN (rtsX (A 2) c l) r) d else -2) else -1))))))) ∧ (¬ ((0 ≤ c ∧ c < A 2 0) ∧ 0 ≤ l ∧ l < A 2 1) → (K (some (some (vI 1))) F A)))
  refine ⟨by exact hp, ?_⟩
  refine ⟨fun c1 => ?_, fun c1 => ?_⟩
  · skip
    skip
    intro G_1 B_1 g1
    refine ⟨by exact ⟨by decide, by decide⟩, ?_⟩
    first | exact h.1 c1 | exact h.2 c1 | exact h.1 c1 _ _ g1 | exact h.1 c1 _ g1 | exact h.1 c1 _ _ _ _ g1
  · skip
    skip
    first | exact h.1 c1 | exact h.2 c1 | exact h.1 c1 _ _ g1 | exact h.1 c1 _ g1 | exact h.1 c1 _ _ _ _ g1
theorem qtL_refined (l : Launch) (hst : l.stackTraces = false) : am_CT l layL qeL_refined := am_met2 (hp := 17) (hn := 19) (i := 6) (en := 14) rfl (by decide +kernel) rfl rfl rfl rfl rfl rfl (Or.inl ⟨by decide +kernel, rfl⟩) (by decide) (dc_cov (n := 23) (by decide +kernel) (by decide +kernel)) (fun _ => rfl) rfl (qzL_refined l hst) (fun as F A K h => by
  replace h : qsL_refined as F A K := h
  unfold qsL_refined at h
  split at h
  · rename_i x c l r d o
    refine ⟨by first | exact Nat.le_of_ble_eq_true rfl | simp [am_fl, am_cat], ?_⟩
    replace h := am_cond2 h
    rcases h with ⟨hb, h⟩ | h
    · simp only [Bool.and_eq_true] at hb
      obtain ⟨hb0, hb1⟩ := hb
      have hb0 := am_bq hb0
      subst hb0
      have hb1 := am_bq hb1
      subst hb1
      exact am_way_line (qvL_refined_0_43 c l r d F A K h)
    exact h.elim
  · exact h.elim)
def qkL_cellControl : Nat → Option CI := fun pc => cond (Nat.ble 24 pc) none (cond (Nat.ble 11 pc) (cond (Nat.ble 20 pc) (cond (Nat.ble 22 pc) (cond (Nat.beq pc 22) (some (.iconst 0, 23, [])) (cond (Nat.beq pc 23) (some (.ireturn, 24, [])) (none))) (cond (Nat.beq pc 20) (some (.iconst 1, 21, [])) (cond (Nat.beq pc 21) (some (.ireturn, 22, [])) (none)))) (cond (Nat.ble 15 pc) (cond (Nat.beq pc 15) (some (.goto 7, 18, [22])) (cond (Nat.beq pc 18) (some (.astore 7, 20, [])) (none))) (cond (Nat.beq pc 11) (some (.invokevirtual 23, 14, [])) (cond (Nat.beq pc 14) (some (.lastore, 15, [])) (none))))) (cond (Nat.ble 5 pc) (cond (Nat.ble 7 pc) (cond (Nat.beq pc 7) (some (.iload 4, 9, [])) (cond (Nat.beq pc 9) (some (.iload 5, 11, [])) (none))) (cond (Nat.beq pc 5) (some (.iload_n 2, 6, [])) (cond (Nat.beq pc 6) (some (.iload_n 3, 7, [])) (none)))) (cond (Nat.ble 3 pc) (cond (Nat.beq pc 3) (some (.aload_n 0, 4, [])) (cond (Nat.beq pc 4) (some (.iload_n 1, 5, [])) (none))) (cond (Nat.beq pc 0) (some (.aload 6, 2, [])) (cond (Nat.beq pc 2) (some (.iconst 0, 3, [])) (none))))))
theorem qkL_cellControl_ok : ∀ pc i nx ts, qkL_cellControl pc = some (i, nx, ts) → am_cok cL_cellControl pc (i, nx, ts) = true := fun pc i nx ts h => am_tok_ok (n := 24) (by decide +kernel) (fun pc h => by show cond (Nat.ble 24 pc) _ _ = _; rw [Nat.ble_eq_true_of_le h]; rfl) h
def qaL_cellControl : Nat → Option CE := fun k => cond (Nat.beq k 23) (some qeX8_cellControl) (none)
theorem qyL_cellControl (l : Launch) (hst : l.stackTraces = false) : ∀ k e1, qaL_cellControl k = some e1 → am_cal l layL RL 11 k e1 ∧ True := q_cons ⟨am_calV (ci := 8) (am_CT_mono layX_L (qtX8_cellControl l hst)) qbX8_cellControl (by decide) rfl (am_tb_at 933 (by decide +kernel) rfl), trivial⟩ (q_nil)
def qxL_cellControl : CX := (qkL_cellControl, layL, qfL, qaL_cellControl, qcL, qlL, qmL, (some .int), false, (some 20), 1, none, fun _ => none)
theorem qzL_cellControl (l : Launch) (hst : l.stackTraces = false) : am_sta l qxL_cellControl RL 11 cL_cellControl := ⟨qkL_cellControl_ok, layL_ok, qfL_ok, qcL_ok, qlL_ok, am_mthP qmL_ok (by decide), fun k e1 h => (qyL_cellControl l hst k e1 h).1⟩
def qsL_cellControl : SP := fun as F A K => match as with
  | [.inr (.inr x), .inl c, .inl d, .inl q, .inl k, .inl w, .inr (.inr o)] => cond (Nat.beq x 0 && Nat.beq o 43) ((fgOK (A 2) ∧ (-2147483648 ≤ c ∧ c < 2147483648) ∧ (-2147483648 ≤ d ∧ d < 2147483648) ∧ (-2147483648 ≤ q ∧ q < 2147483648) ∧ (-2147483648 ≤ k ∧ k < 2147483648) ∧ (-2147483648 ≤ w ∧ w < 2147483648) ∧ caAll A) ∧ ((0 ≤ c ∧ c < A 2 0 → (∀ (G_1 : FF) (B_1 : AA), (qrP F G_1 A B_1) → (K (some (some (vI 0))) G_1 (upA B_1 43 (w32 0) (if (0 ≤ d ∧ d ≤ 6 ∧ 0 ≤ q ∧ q < p2 d) ∧ (0 ≤ k ∧ k < A 2 (18 + c)) ∧ 0 ≤ w ∧ w ≤ 2 then ceX (A 2) c d.toNat q w k else -1))))) ∧ (¬ (0 ≤ c ∧ c < A 2 0) → (K (some (some (vI 1))) F A)))) (False)
  | _ => False
def qeL_cellControl : CE := (yL_cellControl, cL_cellControl, 8, (some .int), 7, none, 2, [(0, 15, 18, 13)], 1, 11, qsL_cellControl)
theorem qbL_cellControl : am_mb qeL_cellControl := ⟨am_tb_at 932 (by decide +kernel) rfl, am_tb_at 113 (by decide +kernel) rfl, ⟨by decide, by decide, by decide +kernel⟩, by decide, am_tb_at 931 (by decide +kernel) rfl⟩
set_option maxRecDepth 20000 in
theorem qvL_cellControl_0_43 (c : Int) (d : Int) (q : Int) (k : Int) (w : Int) (F : FF) (A : AA) (K : KK) (h : (fgOK (A 2) ∧ (-2147483648 ≤ c ∧ c < 2147483648) ∧ (-2147483648 ≤ d ∧ d < 2147483648) ∧ (-2147483648 ≤ q ∧ q < 2147483648) ∧ (-2147483648 ≤ k ∧ k < 2147483648) ∧ (-2147483648 ≤ w ∧ w < 2147483648) ∧ caAll A) ∧ ((0 ≤ c ∧ c < A 2 0 → (∀ (G_1 : FF) (B_1 : AA), (qrP F G_1 A B_1) → (K (some (some (vI 0))) G_1 (upA B_1 43 (w32 0) (if (0 ≤ d ∧ d ≤ 6 ∧ 0 ≤ q ∧ q < p2 d) ∧ (0 ≤ k ∧ k < A 2 (18 + c)) ∧ 0 ≤ w ∧ w ≤ 2 then ceX (A 2) c d.toNat q w k else -1))))) ∧ (¬ (0 ≤ c ∧ c < A 2 0) → (K (some (some (vI 1))) F A)))) : am_line qxL_cellControl 14 [vR 0, vI c, vI d, vI q, vI k, vI w, vR 43] 8 F A K := by
  show am_stp qxL_cellControl (am_run qxL_cellControl (fun _ => none) (fun _ _ _ _ _ _ => False) K 14) K 0 [some (vR 0), some (vI c), some (vI d), some (vI q), some (vI k), some (vI w), some (vR 43), none] [] F A 0
  obtain ⟨hp, h⟩ := h
  show (fgOK (A 2) ∧ (-2147483648 ≤ c ∧ c < 2147483648) ∧ (-2147483648 ≤ d ∧ d < 2147483648) ∧ (-2147483648 ≤ q ∧ q < 2147483648) ∧ (-2147483648 ≤ k ∧ k < 2147483648) ∧ (-2147483648 ≤ w ∧ w < 2147483648) ∧ caAll A) ∧ ((0 ≤ c ∧ c < A 2 0 → (∀ (G_1 : FF) (B_1 : AA), (qrP F G_1 A B_1) → ((0 ≤ w32 0 ∧ w32 0 < 1) ∧ (K (some (some (vI 0))) G_1 (upA B_1 43 (w32 0) (if (0 ≤ d ∧ d ≤ 6 ∧ 0 ≤ q ∧ q < p2 d) ∧ (0 ≤ k ∧ k < A 2 (18 + c)) ∧ 0 ≤ w ∧ w ≤ 2 then ceX (A 2) c d.toNat q w k else -1)))))) ∧ (¬ (0 ≤ c ∧ c < A 2 0) → (K (some (some (vI 1))) F A)))
  refine ⟨by exact hp, ?_⟩
  refine ⟨fun c1 => ?_, fun c1 => ?_⟩
  · skip
    skip
    intro G_1 B_1 g1
    refine ⟨by exact ⟨by decide, by decide⟩, ?_⟩
    first | exact h.1 c1 | exact h.2 c1 | exact h.1 c1 _ _ g1 | exact h.1 c1 _ g1 | exact h.1 c1 _ _ _ _ g1
  · skip
    skip
    first | exact h.1 c1 | exact h.2 c1 | exact h.1 c1 _ _ g1 | exact h.1 c1 _ g1 | exact h.1 c1 _ _ _ _ g1
theorem qtL_cellControl (l : Launch) (hst : l.stackTraces = false) : am_CT l layL qeL_cellControl := am_met2 (hp := 18) (hn := 20) (i := 7) (en := 15) rfl (by decide +kernel) rfl rfl rfl rfl rfl rfl (Or.inl ⟨by decide +kernel, rfl⟩) (by decide) (dc_cov (n := 24) (by decide +kernel) (by decide +kernel)) (fun _ => rfl) rfl (qzL_cellControl l hst) (fun as F A K h => by
  replace h : qsL_cellControl as F A K := h
  unfold qsL_cellControl at h
  split at h
  · rename_i x c d q k w o
    refine ⟨by first | exact Nat.le_of_ble_eq_true rfl | simp [am_fl, am_cat], ?_⟩
    replace h := am_cond2 h
    rcases h with ⟨hb, h⟩ | h
    · simp only [Bool.and_eq_true] at hb
      obtain ⟨hb0, hb1⟩ := hb
      have hb0 := am_bq hb0
      subst hb0
      have hb1 := am_bq hb1
      subst hb1
      exact am_way_line (qvL_cellControl_0_43 c d q k w F A K h)
    exact h.elim
  · exact h.elim)
def qkL_placeNumerator : Nat → Option CI := fun pc => cond (Nat.ble 22 pc) none (cond (Nat.ble 9 pc) (cond (Nat.ble 18 pc) (cond (Nat.ble 20 pc) (cond (Nat.beq pc 20) (some (.iconst 0, 21, [])) (cond (Nat.beq pc 21) (some (.ireturn, 22, [])) (none))) (cond (Nat.beq pc 18) (some (.iconst 1, 19, [])) (cond (Nat.beq pc 19) (some (.ireturn, 20, [])) (none)))) (cond (Nat.ble 13 pc) (cond (Nat.beq pc 13) (some (.goto 7, 16, [20])) (cond (Nat.beq pc 16) (some (.astore 6, 18, [])) (none))) (cond (Nat.beq pc 9) (some (.invokevirtual 27, 12, [])) (cond (Nat.beq pc 12) (some (.lastore, 13, [])) (none))))) (cond (Nat.ble 4 pc) (cond (Nat.ble 6 pc) (cond (Nat.beq pc 6) (some (.iload_n 3, 7, [])) (cond (Nat.beq pc 7) (some (.iload 4, 9, [])) (none))) (cond (Nat.beq pc 4) (some (.iload_n 1, 5, [])) (cond (Nat.beq pc 5) (some (.iload_n 2, 6, [])) (none)))) (cond (Nat.beq pc 0) (some (.aload 5, 2, [])) (cond (Nat.beq pc 2) (some (.iconst 0, 3, [])) (cond (Nat.beq pc 3) (some (.aload_n 0, 4, [])) (none))))))
theorem qkL_placeNumerator_ok : ∀ pc i nx ts, qkL_placeNumerator pc = some (i, nx, ts) → am_cok cL_placeNumerator pc (i, nx, ts) = true := fun pc i nx ts h => am_tok_ok (n := 22) (by decide +kernel) (fun pc h => by show cond (Nat.ble 22 pc) _ _ = _; rw [Nat.ble_eq_true_of_le h]; rfl) h
def qaL_placeNumerator : Nat → Option CE := fun k => cond (Nat.beq k 27) (some qeX8_placeNumerator) (none)
theorem qyL_placeNumerator (l : Launch) (hst : l.stackTraces = false) : ∀ k e1, qaL_placeNumerator k = some e1 → am_cal l layL RL 11 k e1 ∧ True := q_cons ⟨am_calV (ci := 8) (am_CT_mono layX_L (qtX8_placeNumerator l hst)) qbX8_placeNumerator (by decide) rfl (am_tb_at 946 (by decide +kernel) rfl), trivial⟩ (q_nil)
def qxL_placeNumerator : CX := (qkL_placeNumerator, layL, qfL, qaL_placeNumerator, qcL, qlL, qmL, (some .int), false, (some 18), 1, none, fun _ => none)
theorem qzL_placeNumerator (l : Launch) (hst : l.stackTraces = false) : am_sta l qxL_placeNumerator RL 11 cL_placeNumerator := ⟨qkL_placeNumerator_ok, layL_ok, qfL_ok, qcL_ok, qlL_ok, am_mthP qmL_ok (by decide), fun k e1 h => (qyL_placeNumerator l hst k e1 h).1⟩
def qsL_placeNumerator : SP := fun as F A K => match as with
  | [.inr (.inr x), .inl c, .inl d, .inl q, .inl a, .inr (.inr o)] => cond (Nat.beq x 0 && Nat.beq o 43) ((fgOK (A 2) ∧ (-2147483648 ≤ c ∧ c < 2147483648) ∧ (-2147483648 ≤ d ∧ d < 2147483648) ∧ (-2147483648 ≤ q ∧ q < 2147483648) ∧ (-2147483648 ≤ a ∧ a < 2147483648) ∧ caAll A) ∧ ((0 ≤ c ∧ c < A 2 0 → (∀ (G_1 : FF) (B_1 : AA), (qrP F G_1 A B_1) → (K (some (some (vI 0))) G_1 (upA B_1 43 (w32 0) (if 0 ≤ d ∧ d ≤ 6 ∧ 0 ≤ q ∧ q ≤ p2 d then plF (A 2) c d q (if a = 0 then 0 else 1) 0 else -1))))) ∧ (¬ (0 ≤ c ∧ c < A 2 0) → (K (some (some (vI 1))) F A)))) (False)
  | _ => False
def qeL_placeNumerator : CE := (yL_placeNumerator, cL_placeNumerator, 7, (some .int), 6, none, 2, [(0, 13, 16, 13)], 1, 11, qsL_placeNumerator)
theorem qbL_placeNumerator : am_mb qeL_placeNumerator := ⟨am_tb_at 945 (by decide +kernel) rfl, am_tb_at 113 (by decide +kernel) rfl, ⟨by decide, by decide, by decide +kernel⟩, by decide, am_tb_at 944 (by decide +kernel) rfl⟩
set_option maxRecDepth 20000 in
theorem qvL_placeNumerator_0_43 (c : Int) (d : Int) (q : Int) (a : Int) (F : FF) (A : AA) (K : KK) (h : (fgOK (A 2) ∧ (-2147483648 ≤ c ∧ c < 2147483648) ∧ (-2147483648 ≤ d ∧ d < 2147483648) ∧ (-2147483648 ≤ q ∧ q < 2147483648) ∧ (-2147483648 ≤ a ∧ a < 2147483648) ∧ caAll A) ∧ ((0 ≤ c ∧ c < A 2 0 → (∀ (G_1 : FF) (B_1 : AA), (qrP F G_1 A B_1) → (K (some (some (vI 0))) G_1 (upA B_1 43 (w32 0) (if 0 ≤ d ∧ d ≤ 6 ∧ 0 ≤ q ∧ q ≤ p2 d then plF (A 2) c d q (if a = 0 then 0 else 1) 0 else -1))))) ∧ (¬ (0 ≤ c ∧ c < A 2 0) → (K (some (some (vI 1))) F A)))) : am_line qxL_placeNumerator 13 [vR 0, vI c, vI d, vI q, vI a, vR 43] 7 F A K := by
  show am_stp qxL_placeNumerator (am_run qxL_placeNumerator (fun _ => none) (fun _ _ _ _ _ _ => False) K 13) K 0 [some (vR 0), some (vI c), some (vI d), some (vI q), some (vI a), some (vR 43), none] [] F A 0
  obtain ⟨hp, h⟩ := h
  show (fgOK (A 2) ∧ (-2147483648 ≤ c ∧ c < 2147483648) ∧ (-2147483648 ≤ d ∧ d < 2147483648) ∧ (-2147483648 ≤ q ∧ q < 2147483648) ∧ (-2147483648 ≤ a ∧ a < 2147483648) ∧ caAll A) ∧ ((0 ≤ c ∧ c < A 2 0 → (∀ (G_1 : FF) (B_1 : AA), (qrP F G_1 A B_1) → ((0 ≤ w32 0 ∧ w32 0 < 1) ∧ (K (some (some (vI 0))) G_1 (upA B_1 43 (w32 0) (if 0 ≤ d ∧ d ≤ 6 ∧ 0 ≤ q ∧ q ≤ p2 d then plF (A 2) c d q (if a = 0 then 0 else 1) 0 else -1)))))) ∧ (¬ (0 ≤ c ∧ c < A 2 0) → (K (some (some (vI 1))) F A)))
  refine ⟨by exact hp, ?_⟩
  refine ⟨fun c1 => ?_, fun c1 => ?_⟩
  · skip
    skip
    intro G_1 B_1 g1
    refine ⟨by exact ⟨by decide, by decide⟩, ?_⟩
    first | exact h.1 c1 | exact h.2 c1 | exact h.1 c1 _ _ g1 | exact h.1 c1 _ g1 | exact h.1 c1 _ _ _ _ g1
  · skip
    skip
    first | exact h.1 c1 | exact h.2 c1 | exact h.1 c1 _ _ g1 | exact h.1 c1 _ g1 | exact h.1 c1 _ _ _ _ g1
theorem qtL_placeNumerator (l : Launch) (hst : l.stackTraces = false) : am_CT l layL qeL_placeNumerator := am_met2 (hp := 16) (hn := 18) (i := 6) (en := 13) rfl (by decide +kernel) rfl rfl rfl rfl rfl rfl (Or.inl ⟨by decide +kernel, rfl⟩) (by decide) (dc_cov (n := 22) (by decide +kernel) (by decide +kernel)) (fun _ => rfl) rfl (qzL_placeNumerator l hst) (fun as F A K h => by
  replace h : qsL_placeNumerator as F A K := h
  unfold qsL_placeNumerator at h
  split at h
  · rename_i x c d q a o
    refine ⟨by first | exact Nat.le_of_ble_eq_true rfl | simp [am_fl, am_cat], ?_⟩
    replace h := am_cond2 h
    rcases h with ⟨hb, h⟩ | h
    · simp only [Bool.and_eq_true] at hb
      obtain ⟨hb0, hb1⟩ := hb
      have hb0 := am_bq hb0
      subst hb0
      have hb1 := am_bq hb1
      subst hb1
      exact am_way_line (qvL_placeNumerator_0_43 c d q a F A K h)
    exact h.elim
  · exact h.elim)
def qkL_placeDenominator : Nat → Option CI := fun pc => cond (Nat.ble 22 pc) none (cond (Nat.ble 9 pc) (cond (Nat.ble 18 pc) (cond (Nat.ble 20 pc) (cond (Nat.beq pc 20) (some (.iconst 0, 21, [])) (cond (Nat.beq pc 21) (some (.ireturn, 22, [])) (none))) (cond (Nat.beq pc 18) (some (.iconst 1, 19, [])) (cond (Nat.beq pc 19) (some (.ireturn, 20, [])) (none)))) (cond (Nat.ble 13 pc) (cond (Nat.beq pc 13) (some (.goto 7, 16, [20])) (cond (Nat.beq pc 16) (some (.astore 6, 18, [])) (none))) (cond (Nat.beq pc 9) (some (.invokevirtual 31, 12, [])) (cond (Nat.beq pc 12) (some (.lastore, 13, [])) (none))))) (cond (Nat.ble 4 pc) (cond (Nat.ble 6 pc) (cond (Nat.beq pc 6) (some (.iload_n 3, 7, [])) (cond (Nat.beq pc 7) (some (.iload 4, 9, [])) (none))) (cond (Nat.beq pc 4) (some (.iload_n 1, 5, [])) (cond (Nat.beq pc 5) (some (.iload_n 2, 6, [])) (none)))) (cond (Nat.beq pc 0) (some (.aload 5, 2, [])) (cond (Nat.beq pc 2) (some (.iconst 0, 3, [])) (cond (Nat.beq pc 3) (some (.aload_n 0, 4, [])) (none))))))
theorem qkL_placeDenominator_ok : ∀ pc i nx ts, qkL_placeDenominator pc = some (i, nx, ts) → am_cok cL_placeDenominator pc (i, nx, ts) = true := fun pc i nx ts h => am_tok_ok (n := 22) (by decide +kernel) (fun pc h => by show cond (Nat.ble 22 pc) _ _ = _; rw [Nat.ble_eq_true_of_le h]; rfl) h
def qaL_placeDenominator : Nat → Option CE := fun k => cond (Nat.beq k 31) (some qeX8_placeDenominator) (none)
theorem qyL_placeDenominator (l : Launch) (hst : l.stackTraces = false) : ∀ k e1, qaL_placeDenominator k = some e1 → am_cal l layL RL 11 k e1 ∧ True := q_cons ⟨am_calV (ci := 8) (am_CT_mono layX_L (qtX8_placeDenominator l hst)) qbX8_placeDenominator (by decide) rfl (am_tb_at 960 (by decide +kernel) rfl), trivial⟩ (q_nil)
def qxL_placeDenominator : CX := (qkL_placeDenominator, layL, qfL, qaL_placeDenominator, qcL, qlL, qmL, (some .int), false, (some 18), 1, none, fun _ => none)
theorem qzL_placeDenominator (l : Launch) (hst : l.stackTraces = false) : am_sta l qxL_placeDenominator RL 11 cL_placeDenominator := ⟨qkL_placeDenominator_ok, layL_ok, qfL_ok, qcL_ok, qlL_ok, am_mthP qmL_ok (by decide), fun k e1 h => (qyL_placeDenominator l hst k e1 h).1⟩
def qsL_placeDenominator : SP := fun as F A K => match as with
  | [.inr (.inr x), .inl c, .inl d, .inl q, .inl a, .inr (.inr o)] => cond (Nat.beq x 0 && Nat.beq o 43) ((fgOK (A 2) ∧ (-2147483648 ≤ c ∧ c < 2147483648) ∧ (-2147483648 ≤ d ∧ d < 2147483648) ∧ (-2147483648 ≤ q ∧ q < 2147483648) ∧ (-2147483648 ≤ a ∧ a < 2147483648) ∧ caAll A) ∧ ((0 ≤ c ∧ c < A 2 0 → (∀ (G_1 : FF) (B_1 : AA), (qrP F G_1 A B_1) → (K (some (some (vI 0))) G_1 (upA B_1 43 (w32 0) (if 0 ≤ d ∧ d ≤ 6 ∧ 0 ≤ q ∧ q ≤ p2 d then plF (A 2) c d q (if a = 0 then 0 else 1) 1 else -1))))) ∧ (¬ (0 ≤ c ∧ c < A 2 0) → (K (some (some (vI 1))) F A)))) (False)
  | _ => False
def qeL_placeDenominator : CE := (yL_placeDenominator, cL_placeDenominator, 7, (some .int), 6, none, 2, [(0, 13, 16, 13)], 1, 11, qsL_placeDenominator)
theorem qbL_placeDenominator : am_mb qeL_placeDenominator := ⟨am_tb_at 959 (by decide +kernel) rfl, am_tb_at 113 (by decide +kernel) rfl, ⟨by decide, by decide, by decide +kernel⟩, by decide, am_tb_at 958 (by decide +kernel) rfl⟩
set_option maxRecDepth 20000 in
theorem qvL_placeDenominator_0_43 (c : Int) (d : Int) (q : Int) (a : Int) (F : FF) (A : AA) (K : KK) (h : (fgOK (A 2) ∧ (-2147483648 ≤ c ∧ c < 2147483648) ∧ (-2147483648 ≤ d ∧ d < 2147483648) ∧ (-2147483648 ≤ q ∧ q < 2147483648) ∧ (-2147483648 ≤ a ∧ a < 2147483648) ∧ caAll A) ∧ ((0 ≤ c ∧ c < A 2 0 → (∀ (G_1 : FF) (B_1 : AA), (qrP F G_1 A B_1) → (K (some (some (vI 0))) G_1 (upA B_1 43 (w32 0) (if 0 ≤ d ∧ d ≤ 6 ∧ 0 ≤ q ∧ q ≤ p2 d then plF (A 2) c d q (if a = 0 then 0 else 1) 1 else -1))))) ∧ (¬ (0 ≤ c ∧ c < A 2 0) → (K (some (some (vI 1))) F A)))) : am_line qxL_placeDenominator 13 [vR 0, vI c, vI d, vI q, vI a, vR 43] 7 F A K := by
  show am_stp qxL_placeDenominator (am_run qxL_placeDenominator (fun _ => none) (fun _ _ _ _ _ _ => False) K 13) K 0 [some (vR 0), some (vI c), some (vI d), some (vI q), some (vI a), some (vR 43), none] [] F A 0
  obtain ⟨hp, h⟩ := h
  show (fgOK (A 2) ∧ (-2147483648 ≤ c ∧ c < 2147483648) ∧ (-2147483648 ≤ d ∧ d < 2147483648) ∧ (-2147483648 ≤ q ∧ q < 2147483648) ∧ (-2147483648 ≤ a ∧ a < 2147483648) ∧ caAll A) ∧ ((0 ≤ c ∧ c < A 2 0 → (∀ (G_1 : FF) (B_1 : AA), (qrP F G_1 A B_1) → ((0 ≤ w32 0 ∧ w32 0 < 1) ∧ (K (some (some (vI 0))) G_1 (upA B_1 43 (w32 0) (if 0 ≤ d ∧ d ≤ 6 ∧ 0 ≤ q ∧ q ≤ p2 d then plF (A 2) c d q (if a = 0 then 0 else 1) 1 else -1)))))) ∧ (¬ (0 ≤ c ∧ c < A 2 0) → (K (some (some (vI 1))) F A)))
  refine ⟨by exact hp, ?_⟩
  refine ⟨fun c1 => ?_, fun c1 => ?_⟩
  · skip
    skip
    intro G_1 B_1 g1
    refine ⟨by exact ⟨by decide, by decide⟩, ?_⟩
    first | exact h.1 c1 | exact h.2 c1 | exact h.1 c1 _ _ g1 | exact h.1 c1 _ g1 | exact h.1 c1 _ _ _ _ g1
  · skip
    skip
    first | exact h.1 c1 | exact h.2 c1 | exact h.1 c1 _ _ g1 | exact h.1 c1 _ g1 | exact h.1 c1 _ _ _ _ g1
theorem qtL_placeDenominator (l : Launch) (hst : l.stackTraces = false) : am_CT l layL qeL_placeDenominator := am_met2 (hp := 16) (hn := 18) (i := 6) (en := 13) rfl (by decide +kernel) rfl rfl rfl rfl rfl rfl (Or.inl ⟨by decide +kernel, rfl⟩) (by decide) (dc_cov (n := 22) (by decide +kernel) (by decide +kernel)) (fun _ => rfl) rfl (qzL_placeDenominator l hst) (fun as F A K h => by
  replace h : qsL_placeDenominator as F A K := h
  unfold qsL_placeDenominator at h
  split at h
  · rename_i x c d q a o
    refine ⟨by first | exact Nat.le_of_ble_eq_true rfl | simp [am_fl, am_cat], ?_⟩
    replace h := am_cond2 h
    rcases h with ⟨hb, h⟩ | h
    · simp only [Bool.and_eq_true] at hb
      obtain ⟨hb0, hb1⟩ := hb
      have hb0 := am_bq hb0
      subst hb0
      have hb1 := am_bq hb1
      subst hb1
      exact am_way_line (qvL_placeDenominator_0_43 c d q a F A K h)
    exact h.elim
  · exact h.elim)
def qkL_boxSide : Nat → Option CI := fun pc => cond (Nat.ble 23 pc) none (cond (Nat.ble 12 pc) (cond (Nat.ble 19 pc) (cond (Nat.ble 21 pc) (cond (Nat.beq pc 21) (some (.iconst 0, 22, [])) (cond (Nat.beq pc 22) (some (.ireturn, 23, [])) (none))) (cond (Nat.beq pc 19) (some (.iconst 1, 20, [])) (cond (Nat.beq pc 20) (some (.ireturn, 21, [])) (none)))) (cond (Nat.ble 14 pc) (cond (Nat.beq pc 14) (some (.goto 7, 17, [21])) (cond (Nat.beq pc 17) (some (.astore 6, 19, [])) (none))) (cond (Nat.beq pc 12) (some (.i2l, 13, [])) (cond (Nat.beq pc 13) (some (.lastore, 14, [])) (none))))) (cond (Nat.ble 5 pc) (cond (Nat.ble 7 pc) (cond (Nat.beq pc 7) (some (.iload 4, 9, [])) (cond (Nat.beq pc 9) (some (.invokevirtual 34, 12, [])) (none))) (cond (Nat.beq pc 5) (some (.iload_n 2, 6, [])) (cond (Nat.beq pc 6) (some (.iload_n 3, 7, [])) (none)))) (cond (Nat.ble 3 pc) (cond (Nat.beq pc 3) (some (.aload_n 0, 4, [])) (cond (Nat.beq pc 4) (some (.iload_n 1, 5, [])) (none))) (cond (Nat.beq pc 0) (some (.aload 5, 2, [])) (cond (Nat.beq pc 2) (some (.iconst 0, 3, [])) (none))))))
theorem qkL_boxSide_ok : ∀ pc i nx ts, qkL_boxSide pc = some (i, nx, ts) → am_cok cL_boxSide pc (i, nx, ts) = true := fun pc i nx ts h => am_tok_ok (n := 23) (by decide +kernel) (fun pc h => by show cond (Nat.ble 23 pc) _ _ = _; rw [Nat.ble_eq_true_of_le h]; rfl) h
def qaL_boxSide : Nat → Option CE := fun k => cond (Nat.beq k 34) (some qeX8_boxSide) (none)
theorem qyL_boxSide (l : Launch) (hst : l.stackTraces = false) : ∀ k e1, qaL_boxSide k = some e1 → am_cal l layL RL 11 k e1 ∧ True := q_cons ⟨am_calV (ci := 8) (am_CT_mono layX_L (qtX8_boxSide l hst)) qbX8_boxSide (by decide) rfl (am_tb_at 967 (by decide +kernel) rfl), trivial⟩ (q_nil)
def qxL_boxSide : CX := (qkL_boxSide, layL, qfL, qaL_boxSide, qcL, qlL, qmL, (some .int), false, (some 19), 1, none, fun _ => none)
theorem qzL_boxSide (l : Launch) (hst : l.stackTraces = false) : am_sta l qxL_boxSide RL 11 cL_boxSide := ⟨qkL_boxSide_ok, layL_ok, qfL_ok, qcL_ok, qlL_ok, am_mthP qmL_ok (by decide), fun k e1 h => (qyL_boxSide l hst k e1 h).1⟩
def qsL_boxSide : SP := fun as F A K => match as with
  | [.inr (.inr x), .inl c, .inl d, .inl q, .inl s, .inr (.inr o)] => cond (Nat.beq x 0 && Nat.beq o 43) ((fgOK (A 2) ∧ (-2147483648 ≤ c ∧ c < 2147483648) ∧ (-2147483648 ≤ d ∧ d < 2147483648) ∧ (-2147483648 ≤ q ∧ q < 2147483648) ∧ (-2147483648 ≤ s ∧ s < 2147483648) ∧ caAll A) ∧ ((0 ≤ c ∧ c < A 2 0 → (∀ (G_1 : FF) (B_1 : AA), (qrP F G_1 A B_1) → (K (some (some (vI 0))) G_1 (upA B_1 43 (w32 0) (w32 (if (0 ≤ d ∧ d ≤ 6 ∧ 0 ≤ q ∧ q < p2 d) ∧ 0 ≤ s ∧ s ≤ 3 then bxF (A 2) c d q s else -1)))))) ∧ (¬ (0 ≤ c ∧ c < A 2 0) → (K (some (some (vI 1))) F A)))) (False)
  | _ => False
def qeL_boxSide : CE := (yL_boxSide, cL_boxSide, 7, (some .int), 6, none, 2, [(0, 14, 17, 13)], 1, 11, qsL_boxSide)
theorem qbL_boxSide : am_mb qeL_boxSide := ⟨am_tb_at 966 (by decide +kernel) rfl, am_tb_at 113 (by decide +kernel) rfl, ⟨by decide, by decide, by decide +kernel⟩, by decide, am_tb_at 965 (by decide +kernel) rfl⟩
set_option maxRecDepth 20000 in
theorem qvL_boxSide_0_43 (c : Int) (d : Int) (q : Int) (s : Int) (F : FF) (A : AA) (K : KK) (h : (fgOK (A 2) ∧ (-2147483648 ≤ c ∧ c < 2147483648) ∧ (-2147483648 ≤ d ∧ d < 2147483648) ∧ (-2147483648 ≤ q ∧ q < 2147483648) ∧ (-2147483648 ≤ s ∧ s < 2147483648) ∧ caAll A) ∧ ((0 ≤ c ∧ c < A 2 0 → (∀ (G_1 : FF) (B_1 : AA), (qrP F G_1 A B_1) → (K (some (some (vI 0))) G_1 (upA B_1 43 (w32 0) (w32 (if (0 ≤ d ∧ d ≤ 6 ∧ 0 ≤ q ∧ q < p2 d) ∧ 0 ≤ s ∧ s ≤ 3 then bxF (A 2) c d q s else -1)))))) ∧ (¬ (0 ≤ c ∧ c < A 2 0) → (K (some (some (vI 1))) F A)))) : am_line qxL_boxSide 14 [vR 0, vI c, vI d, vI q, vI s, vR 43] 7 F A K := by
  show am_stp qxL_boxSide (am_run qxL_boxSide (fun _ => none) (fun _ _ _ _ _ _ => False) K 14) K 0 [some (vR 0), some (vI c), some (vI d), some (vI q), some (vI s), some (vR 43), none] [] F A 0
  obtain ⟨hp, h⟩ := h
  show (fgOK (A 2) ∧ (-2147483648 ≤ c ∧ c < 2147483648) ∧ (-2147483648 ≤ d ∧ d < 2147483648) ∧ (-2147483648 ≤ q ∧ q < 2147483648) ∧ (-2147483648 ≤ s ∧ s < 2147483648) ∧ caAll A) ∧ ((0 ≤ c ∧ c < A 2 0 → (∀ (G_1 : FF) (B_1 : AA), (qrP F G_1 A B_1) → ((0 ≤ w32 0 ∧ w32 0 < 1) ∧ (K (some (some (vI 0))) G_1 (upA B_1 43 (w32 0) (w32 (if (0 ≤ d ∧ d ≤ 6 ∧ 0 ≤ q ∧ q < p2 d) ∧ 0 ≤ s ∧ s ≤ 3 then bxF (A 2) c d q s else -1))))))) ∧ (¬ (0 ≤ c ∧ c < A 2 0) → (K (some (some (vI 1))) F A)))
  refine ⟨by exact hp, ?_⟩
  refine ⟨fun c1 => ?_, fun c1 => ?_⟩
  · skip
    skip
    intro G_1 B_1 g1
    refine ⟨by exact ⟨by decide, by decide⟩, ?_⟩
    first | exact h.1 c1 | exact h.2 c1 | exact h.1 c1 _ _ g1 | exact h.1 c1 _ g1 | exact h.1 c1 _ _ _ _ g1
  · skip
    skip
    first | exact h.1 c1 | exact h.2 c1 | exact h.1 c1 _ _ g1 | exact h.1 c1 _ g1 | exact h.1 c1 _ _ _ _ g1
theorem qtL_boxSide (l : Launch) (hst : l.stackTraces = false) : am_CT l layL qeL_boxSide := am_met2 (hp := 17) (hn := 19) (i := 6) (en := 14) rfl (by decide +kernel) rfl rfl rfl rfl rfl rfl (Or.inl ⟨by decide +kernel, rfl⟩) (by decide) (dc_cov (n := 23) (by decide +kernel) (by decide +kernel)) (fun _ => rfl) rfl (qzL_boxSide l hst) (fun as F A K h => by
  replace h : qsL_boxSide as F A K := h
  unfold qsL_boxSide at h
  split at h
  · rename_i x c d q s o
    refine ⟨by first | exact Nat.le_of_ble_eq_true rfl | simp [am_fl, am_cat], ?_⟩
    replace h := am_cond2 h
    rcases h with ⟨hb, h⟩ | h
    · simp only [Bool.and_eq_true] at hb
      obtain ⟨hb0, hb1⟩ := hb
      have hb0 := am_bq hb0
      subst hb0
      have hb1 := am_bq hb1
      subst hb1
      exact am_way_line (qvL_boxSide_0_43 c d q s F A K h)
    exact h.elim
  · exact h.elim)
def qkL_sameness : Nat → Option CI := fun pc => cond (Nat.ble 19 pc) none (cond (Nat.ble 9 pc) (cond (Nat.ble 15 pc) (cond (Nat.ble 17 pc) (cond (Nat.beq pc 17) (some (.iconst 0, 18, [])) (cond (Nat.beq pc 18) (some (.ireturn, 19, [])) (none))) (cond (Nat.beq pc 15) (some (.iconst 1, 16, [])) (cond (Nat.beq pc 16) (some (.ireturn, 17, [])) (none)))) (cond (Nat.beq pc 9) (some (.lastore, 10, [])) (cond (Nat.beq pc 10) (some (.goto 7, 13, [17])) (cond (Nat.beq pc 13) (some (.astore 4, 15, [])) (none))))) (cond (Nat.ble 3 pc) (cond (Nat.ble 5 pc) (cond (Nat.beq pc 5) (some (.invokevirtual 115, 8, [])) (cond (Nat.beq pc 8) (some (.i2l, 9, [])) (none))) (cond (Nat.beq pc 3) (some (.iload_n 1, 4, [])) (cond (Nat.beq pc 4) (some (.iload_n 2, 5, [])) (none)))) (cond (Nat.beq pc 0) (some (.aload_n 3, 1, [])) (cond (Nat.beq pc 1) (some (.iconst 0, 2, [])) (cond (Nat.beq pc 2) (some (.aload_n 0, 3, [])) (none))))))
theorem qkL_sameness_ok : ∀ pc i nx ts, qkL_sameness pc = some (i, nx, ts) → am_cok cL_sameness pc (i, nx, ts) = true := fun pc i nx ts h => am_tok_ok (n := 19) (by decide +kernel) (fun pc h => by show cond (Nat.ble 19 pc) _ _ = _; rw [Nat.ble_eq_true_of_le h]; rfl) h
def qaL_sameness : Nat → Option CE := fun k => cond (Nat.beq k 115) (some qeX8_sameness) (none)
theorem qyL_sameness (l : Launch) (hst : l.stackTraces = false) : ∀ k e1, qaL_sameness k = some e1 → am_cal l layL RL 12 k e1 ∧ True := q_cons ⟨am_calV (ci := 8) (am_CT_mono layX_L (qtX8_sameness l hst)) qbX8_sameness (by decide) rfl (am_tb_at 1335 (by decide +kernel) rfl), trivial⟩ (q_nil)
def qxL_sameness : CX := (qkL_sameness, layL, qfL, qaL_sameness, qcL, qlL, qmL, (some .int), false, (some 15), 2, none, fun _ => none)
theorem qzL_sameness (l : Launch) (hst : l.stackTraces = false) : am_sta l qxL_sameness RL 12 cL_sameness := ⟨qkL_sameness_ok, layL_ok, qfL_ok, qcL_ok, qlL_ok, am_mthP qmL_ok (by decide), fun k e1 h => (qyL_sameness l hst k e1 h).1⟩
def qsL_sameness : SP := fun as F A K => match as with
  | [.inr (.inr x), .inl c, .inl e, .inr (.inr o)] => cond (Nat.beq x 0 && Nat.beq o 43) ((fgOK (A 2) ∧ (-2147483648 ≤ c ∧ c < 2147483648) ∧ (-2147483648 ≤ e ∧ e < 2147483648)) ∧ (((0 ≤ c ∧ c < A 2 0) ∧ 0 ≤ e ∧ e < A 2 0 → (K (some (some (vI 0))) F (upA A 43 (w32 0) (w32 (if A 2 (18 + c) = A 2 (18 + e) then (if bc (alP (A 2) c e 0) = 1 then 1 else if bc (alP (A 2) c e 1) = 1 then 2 else 0) else 0))))) ∧ (¬ ((0 ≤ c ∧ c < A 2 0) ∧ 0 ≤ e ∧ e < A 2 0) → (K (some (some (vI 1))) F A)))) (False)
  | _ => False
def qeL_sameness : CE := (yL_sameness, cL_sameness, 5, (some .int), 4, none, 2, [(0, 10, 13, 13)], 2, 12, qsL_sameness)
theorem qbL_sameness : am_mb qeL_sameness := ⟨am_tb_at 1334 (by decide +kernel) rfl, am_tb_at 113 (by decide +kernel) rfl, ⟨by decide, by decide, by decide +kernel⟩, by decide, am_tb_at 1333 (by decide +kernel) rfl⟩
set_option maxRecDepth 20000 in
theorem qvL_sameness_0_43 (c : Int) (e : Int) (F : FF) (A : AA) (K : KK) (h : (fgOK (A 2) ∧ (-2147483648 ≤ c ∧ c < 2147483648) ∧ (-2147483648 ≤ e ∧ e < 2147483648)) ∧ (((0 ≤ c ∧ c < A 2 0) ∧ 0 ≤ e ∧ e < A 2 0 → (K (some (some (vI 0))) F (upA A 43 (w32 0) (w32 (if A 2 (18 + c) = A 2 (18 + e) then (if bc (alP (A 2) c e 0) = 1 then 1 else if bc (alP (A 2) c e 1) = 1 then 2 else 0) else 0))))) ∧ (¬ ((0 ≤ c ∧ c < A 2 0) ∧ 0 ≤ e ∧ e < A 2 0) → (K (some (some (vI 1))) F A)))) : am_line qxL_sameness 12 [vR 0, vI c, vI e, vR 43] 5 F A K := by
  show am_stp qxL_sameness (am_run qxL_sameness (fun _ => none) (fun _ _ _ _ _ _ => False) K 12) K 0 [some (vR 0), some (vI c), some (vI e), some (vR 43), none] [] F A 0
  obtain ⟨hp, h⟩ := h
  show (fgOK (A 2) ∧ (-2147483648 ≤ c ∧ c < 2147483648) ∧ (-2147483648 ≤ e ∧ e < 2147483648)) ∧ (((0 ≤ c ∧ c < A 2 0) ∧ 0 ≤ e ∧ e < A 2 0 → ((0 ≤ w32 0 ∧ w32 0 < 1) ∧ (K (some (some (vI 0))) F (upA A 43 (w32 0) (w32 (if A 2 (18 + c) = A 2 (18 + e) then (if bc (alP (A 2) c e 0) = 1 then 1 else if bc (alP (A 2) c e 1) = 1 then 2 else 0) else 0)))))) ∧ (¬ ((0 ≤ c ∧ c < A 2 0) ∧ 0 ≤ e ∧ e < A 2 0) → (K (some (some (vI 1))) F A)))
  refine ⟨by exact hp, ?_⟩
  refine ⟨fun c1 => ?_, fun c1 => ?_⟩
  · skip
    skip
    refine ⟨by exact ⟨by decide, by decide⟩, ?_⟩
    first | exact h.1 c1 | exact h.2 c1 | exact h.1 c1 _ _ g1 | exact h.1 c1 _ g1 | exact h.1 c1 _ _ _ _ g1
  · skip
    skip
    first | exact h.1 c1 | exact h.2 c1 | exact h.1 c1 _ _ g1 | exact h.1 c1 _ g1 | exact h.1 c1 _ _ _ _ g1
theorem qtL_sameness (l : Launch) (hst : l.stackTraces = false) : am_CT l layL qeL_sameness := am_met2 (hp := 13) (hn := 15) (i := 4) (en := 10) rfl (by decide +kernel) rfl rfl rfl rfl rfl rfl (Or.inl ⟨by decide +kernel, rfl⟩) (by decide) (dc_cov (n := 19) (by decide +kernel) (by decide +kernel)) (fun _ => rfl) rfl (qzL_sameness l hst) (fun as F A K h => by
  replace h : qsL_sameness as F A K := h
  unfold qsL_sameness at h
  split at h
  · rename_i x c e o
    refine ⟨by first | exact Nat.le_of_ble_eq_true rfl | simp [am_fl, am_cat], ?_⟩
    replace h := am_cond2 h
    rcases h with ⟨hb, h⟩ | h
    · simp only [Bool.and_eq_true] at hb
      obtain ⟨hb0, hb1⟩ := hb
      have hb0 := am_bq hb0
      subst hb0
      have hb1 := am_bq hb1
      subst hb1
      exact am_way_line (qvL_sameness_0_43 c e F A K h)
    exact h.elim
  · exact h.elim)
def qkL_sharedEnds : Nat → Option CI := fun pc => cond (Nat.ble 19 pc) none (cond (Nat.ble 9 pc) (cond (Nat.ble 15 pc) (cond (Nat.ble 17 pc) (cond (Nat.beq pc 17) (some (.iconst 0, 18, [])) (cond (Nat.beq pc 18) (some (.ireturn, 19, [])) (none))) (cond (Nat.beq pc 15) (some (.iconst 1, 16, [])) (cond (Nat.beq pc 16) (some (.ireturn, 17, [])) (none)))) (cond (Nat.beq pc 9) (some (.lastore, 10, [])) (cond (Nat.beq pc 10) (some (.goto 7, 13, [17])) (cond (Nat.beq pc 13) (some (.astore 4, 15, [])) (none))))) (cond (Nat.ble 3 pc) (cond (Nat.ble 5 pc) (cond (Nat.beq pc 5) (some (.invokevirtual 118, 8, [])) (cond (Nat.beq pc 8) (some (.i2l, 9, [])) (none))) (cond (Nat.beq pc 3) (some (.iload_n 1, 4, [])) (cond (Nat.beq pc 4) (some (.iload_n 2, 5, [])) (none)))) (cond (Nat.beq pc 0) (some (.aload_n 3, 1, [])) (cond (Nat.beq pc 1) (some (.iconst 0, 2, [])) (cond (Nat.beq pc 2) (some (.aload_n 0, 3, [])) (none))))))
theorem qkL_sharedEnds_ok : ∀ pc i nx ts, qkL_sharedEnds pc = some (i, nx, ts) → am_cok cL_sharedEnds pc (i, nx, ts) = true := fun pc i nx ts h => am_tok_ok (n := 19) (by decide +kernel) (fun pc h => by show cond (Nat.ble 19 pc) _ _ = _; rw [Nat.ble_eq_true_of_le h]; rfl) h
def qaL_sharedEnds : Nat → Option CE := fun k => cond (Nat.beq k 118) (some qeX8_sharedEnds) (none)
theorem qyL_sharedEnds (l : Launch) (hst : l.stackTraces = false) : ∀ k e1, qaL_sharedEnds k = some e1 → am_cal l layL RL 12 k e1 ∧ True := q_cons ⟨am_calV (ci := 8) (am_CT_mono layX_L (qtX8_sharedEnds l hst)) qbX8_sharedEnds (by decide) rfl (am_tb_at 1350 (by decide +kernel) rfl), trivial⟩ (q_nil)
def qxL_sharedEnds : CX := (qkL_sharedEnds, layL, qfL, qaL_sharedEnds, qcL, qlL, qmL, (some .int), false, (some 15), 2, none, fun _ => none)
theorem qzL_sharedEnds (l : Launch) (hst : l.stackTraces = false) : am_sta l qxL_sharedEnds RL 12 cL_sharedEnds := ⟨qkL_sharedEnds_ok, layL_ok, qfL_ok, qcL_ok, qlL_ok, am_mthP qmL_ok (by decide), fun k e1 h => (qyL_sharedEnds l hst k e1 h).1⟩
def qsL_sharedEnds : SP := fun as F A K => match as with
  | [.inr (.inr x), .inl c, .inl e, .inr (.inr o)] => cond (Nat.beq x 0 && Nat.beq o 43) ((fgOK (A 2) ∧ (-2147483648 ≤ c ∧ c < 2147483648) ∧ (-2147483648 ≤ e ∧ e < 2147483648)) ∧ (((0 ≤ c ∧ c < A 2 0) ∧ 0 ≤ e ∧ e < A 2 0 → (K (some (some (vI 0))) F (upA A 43 (w32 0) (w32 (bi (w32 (pxF (A 2) c 0 0) = w32 (pxF (A 2) e 0 0) ∧ w32 (pxF (A 2) c 0 1) = w32 (pxF (A 2) e 0 1)) + 2 * bi (w32 (pxF (A 2) c 0 0) = w32 (pxF (A 2) e (A 2 (18 + e) - 1) 0) ∧ w32 (pxF (A 2) c 0 1) = w32 (pxF (A 2) e (A 2 (18 + e) - 1) 1)) + 4 * bi (w32 (pxF (A 2) c (A 2 (18 + c) - 1) 0) = w32 (pxF (A 2) e 0 0) ∧ w32 (pxF (A 2) c (A 2 (18 + c) - 1) 1) = w32 (pxF (A 2) e 0 1)) + 8 * bi (w32 (pxF (A 2) c (A 2 (18 + c) - 1) 0) = w32 (pxF (A 2) e (A 2 (18 + e) - 1) 0) ∧ w32 (pxF (A 2) c (A 2 (18 + c) - 1) 1) = w32 (pxF (A 2) e (A 2 (18 + e) - 1) 1))))))) ∧ (¬ ((0 ≤ c ∧ c < A 2 0) ∧ 0 ≤ e ∧ e < A 2 0) → (K (some (some (vI 1))) F A)))) (False)
  | _ => False
def qeL_sharedEnds : CE := (yL_sharedEnds, cL_sharedEnds, 5, (some .int), 4, none, 2, [(0, 10, 13, 13)], 2, 12, qsL_sharedEnds)
theorem qbL_sharedEnds : am_mb qeL_sharedEnds := ⟨am_tb_at 1349 (by decide +kernel) rfl, am_tb_at 113 (by decide +kernel) rfl, ⟨by decide, by decide, by decide +kernel⟩, by decide, am_tb_at 1348 (by decide +kernel) rfl⟩
set_option maxRecDepth 20000 in
theorem qvL_sharedEnds_0_43 (c : Int) (e : Int) (F : FF) (A : AA) (K : KK) (h : (fgOK (A 2) ∧ (-2147483648 ≤ c ∧ c < 2147483648) ∧ (-2147483648 ≤ e ∧ e < 2147483648)) ∧ (((0 ≤ c ∧ c < A 2 0) ∧ 0 ≤ e ∧ e < A 2 0 → (K (some (some (vI 0))) F (upA A 43 (w32 0) (w32 (bi (w32 (pxF (A 2) c 0 0) = w32 (pxF (A 2) e 0 0) ∧ w32 (pxF (A 2) c 0 1) = w32 (pxF (A 2) e 0 1)) + 2 * bi (w32 (pxF (A 2) c 0 0) = w32 (pxF (A 2) e (A 2 (18 + e) - 1) 0) ∧ w32 (pxF (A 2) c 0 1) = w32 (pxF (A 2) e (A 2 (18 + e) - 1) 1)) + 4 * bi (w32 (pxF (A 2) c (A 2 (18 + c) - 1) 0) = w32 (pxF (A 2) e 0 0) ∧ w32 (pxF (A 2) c (A 2 (18 + c) - 1) 1) = w32 (pxF (A 2) e 0 1)) + 8 * bi (w32 (pxF (A 2) c (A 2 (18 + c) - 1) 0) = w32 (pxF (A 2) e (A 2 (18 + e) - 1) 0) ∧ w32 (pxF (A 2) c (A 2 (18 + c) - 1) 1) = w32 (pxF (A 2) e (A 2 (18 + e) - 1) 1))))))) ∧ (¬ ((0 ≤ c ∧ c < A 2 0) ∧ 0 ≤ e ∧ e < A 2 0) → (K (some (some (vI 1))) F A)))) : am_line qxL_sharedEnds 12 [vR 0, vI c, vI e, vR 43] 5 F A K := by
  show am_stp qxL_sharedEnds (am_run qxL_sharedEnds (fun _ => none) (fun _ _ _ _ _ _ => False) K 12) K 0 [some (vR 0), some (vI c), some (vI e), some (vR 43), none] [] F A 0
  obtain ⟨hp, h⟩ := h
  show (fgOK (A 2) ∧ (-2147483648 ≤ c ∧ c < 2147483648) ∧ (-2147483648 ≤ e ∧ e < 2147483648)) ∧ (((0 ≤ c ∧ c < A 2 0) ∧ 0 ≤ e ∧ e < A 2 0 → ((0 ≤ w32 0 ∧ w32 0 < 1) ∧ (K (some (some (vI 0))) F (upA A 43 (w32 0) (w32 (bi (w32 (pxF (A 2) c 0 0) = w32 (pxF (A 2) e 0 0) ∧ w32 (pxF (A 2) c 0 1) = w32 (pxF (A 2) e 0 1)) + 2 * bi (w32 (pxF (A 2) c 0 0) = w32 (pxF (A 2) e (A 2 (18 + e) - 1) 0) ∧ w32 (pxF (A 2) c 0 1) = w32 (pxF (A 2) e (A 2 (18 + e) - 1) 1)) + 4 * bi (w32 (pxF (A 2) c (A 2 (18 + c) - 1) 0) = w32 (pxF (A 2) e 0 0) ∧ w32 (pxF (A 2) c (A 2 (18 + c) - 1) 1) = w32 (pxF (A 2) e 0 1)) + 8 * bi (w32 (pxF (A 2) c (A 2 (18 + c) - 1) 0) = w32 (pxF (A 2) e (A 2 (18 + e) - 1) 0) ∧ w32 (pxF (A 2) c (A 2 (18 + c) - 1) 1) = w32 (pxF (A 2) e (A 2 (18 + e) - 1) 1)))))))) ∧ (¬ ((0 ≤ c ∧ c < A 2 0) ∧ 0 ≤ e ∧ e < A 2 0) → (K (some (some (vI 1))) F A)))
  refine ⟨by exact hp, ?_⟩
  refine ⟨fun c1 => ?_, fun c1 => ?_⟩
  · skip
    skip
    refine ⟨by exact ⟨by decide, by decide⟩, ?_⟩
    first | exact h.1 c1 | exact h.2 c1 | exact h.1 c1 _ _ g1 | exact h.1 c1 _ g1 | exact h.1 c1 _ _ _ _ g1
  · skip
    skip
    first | exact h.1 c1 | exact h.2 c1 | exact h.1 c1 _ _ g1 | exact h.1 c1 _ g1 | exact h.1 c1 _ _ _ _ g1
theorem qtL_sharedEnds (l : Launch) (hst : l.stackTraces = false) : am_CT l layL qeL_sharedEnds := am_met2 (hp := 13) (hn := 15) (i := 4) (en := 10) rfl (by decide +kernel) rfl rfl rfl rfl rfl rfl (Or.inl ⟨by decide +kernel, rfl⟩) (by decide) (dc_cov (n := 19) (by decide +kernel) (by decide +kernel)) (fun _ => rfl) rfl (qzL_sharedEnds l hst) (fun as F A K h => by
  replace h : qsL_sharedEnds as F A K := h
  unfold qsL_sharedEnds at h
  split at h
  · rename_i x c e o
    refine ⟨by first | exact Nat.le_of_ble_eq_true rfl | simp [am_fl, am_cat], ?_⟩
    replace h := am_cond2 h
    rcases h with ⟨hb, h⟩ | h
    · simp only [Bool.and_eq_true] at hb
      obtain ⟨hb0, hb1⟩ := hb
      have hb0 := am_bq hb0
      subst hb0
      have hb1 := am_bq hb1
      subst hb1
      exact am_way_line (qvL_sharedEnds_0_43 c e F A K h)
    exact h.elim
  · exact h.elim)
def qkL_curvesNear : Nat → Option CI := fun pc => cond (Nat.ble 17 pc) none (cond (Nat.ble 8 pc) (cond (Nat.ble 13 pc) (cond (Nat.ble 15 pc) (cond (Nat.beq pc 15) (some (.iconst 0, 16, [])) (cond (Nat.beq pc 16) (some (.ireturn, 17, [])) (none))) (cond (Nat.beq pc 13) (some (.iconst 1, 14, [])) (cond (Nat.beq pc 14) (some (.ireturn, 15, [])) (none)))) (cond (Nat.beq pc 8) (some (.lastore, 9, [])) (cond (Nat.beq pc 9) (some (.goto 6, 12, [15])) (cond (Nat.beq pc 12) (some (.astore_n 3, 13, [])) (none))))) (cond (Nat.ble 3 pc) (cond (Nat.beq pc 3) (some (.iload_n 1, 4, [])) (cond (Nat.beq pc 4) (some (.invokevirtual 121, 7, [])) (cond (Nat.beq pc 7) (some (.i2l, 8, [])) (none)))) (cond (Nat.beq pc 0) (some (.aload_n 2, 1, [])) (cond (Nat.beq pc 1) (some (.iconst 0, 2, [])) (cond (Nat.beq pc 2) (some (.aload_n 0, 3, [])) (none))))))
theorem qkL_curvesNear_ok : ∀ pc i nx ts, qkL_curvesNear pc = some (i, nx, ts) → am_cok cL_curvesNear pc (i, nx, ts) = true := fun pc i nx ts h => am_tok_ok (n := 17) (by decide +kernel) (fun pc h => by show cond (Nat.ble 17 pc) _ _ = _; rw [Nat.ble_eq_true_of_le h]; rfl) h
def qaL_curvesNear : Nat → Option CE := fun k => cond (Nat.beq k 121) (some qeX8_curvesNear) (none)
theorem qyL_curvesNear (l : Launch) (hst : l.stackTraces = false) : ∀ k e1, qaL_curvesNear k = some e1 → am_cal l layL RL 18 k e1 ∧ True := q_cons ⟨am_calV (ci := 8) (am_CT_mono layX_L (qtX8_curvesNear l hst)) qbX8_curvesNear (by decide) rfl (am_tb_at 1357 (by decide +kernel) rfl), trivial⟩ (q_nil)
def qxL_curvesNear : CX := (qkL_curvesNear, layL, qfL, qaL_curvesNear, qcL, qlL, qmL, (some .int), false, (some 13), 1, none, fun _ => none)
theorem qzL_curvesNear (l : Launch) (hst : l.stackTraces = false) : am_sta l qxL_curvesNear RL 18 cL_curvesNear := ⟨qkL_curvesNear_ok, layL_ok, qfL_ok, qcL_ok, qlL_ok, am_mthP qmL_ok (by decide), fun k e1 h => (qyL_curvesNear l hst k e1 h).1⟩
def qsL_curvesNear : SP := fun as F A K => match as with
  | [.inr (.inr x), .inl c, .inr (.inr o)] => cond (Nat.beq x 0 && Nat.beq o 43) ((fgOK (A 2) ∧ (-2147483648 ≤ c ∧ c < 2147483648) ∧ caAll A) ∧ ((0 ≤ c ∧ c < A 2 0 → (∀ (G_1 : FF) (B_1 : AA), (qrP F G_1 A B_1) → (K (some (some (vI 0))) G_1 (upA B_1 43 (w32 0) (w32 (nrF (A 2) c (Int.toNat (A 2 0)))))))) ∧ (¬ (0 ≤ c ∧ c < A 2 0) → (K (some (some (vI 1))) F A)))) (False)
  | _ => False
def qeL_curvesNear : CE := (yL_curvesNear, cL_curvesNear, 4, (some .int), 3, none, 2, [(0, 9, 12, 13)], 1, 18, qsL_curvesNear)
theorem qbL_curvesNear : am_mb qeL_curvesNear := ⟨am_tb_at 1356 (by decide +kernel) rfl, am_tb_at 113 (by decide +kernel) rfl, ⟨by decide, by decide, by decide +kernel⟩, by decide, am_tb_at 1355 (by decide +kernel) rfl⟩
set_option maxRecDepth 20000 in
theorem qvL_curvesNear_0_43 (c : Int) (F : FF) (A : AA) (K : KK) (h : (fgOK (A 2) ∧ (-2147483648 ≤ c ∧ c < 2147483648) ∧ caAll A) ∧ ((0 ≤ c ∧ c < A 2 0 → (∀ (G_1 : FF) (B_1 : AA), (qrP F G_1 A B_1) → (K (some (some (vI 0))) G_1 (upA B_1 43 (w32 0) (w32 (nrF (A 2) c (Int.toNat (A 2 0)))))))) ∧ (¬ (0 ≤ c ∧ c < A 2 0) → (K (some (some (vI 1))) F A)))) : am_line qxL_curvesNear 11 [vR 0, vI c, vR 43] 4 F A K := by
  show am_stp qxL_curvesNear (am_run qxL_curvesNear (fun _ => none) (fun _ _ _ _ _ _ => False) K 11) K 0 [some (vR 0), some (vI c), some (vR 43), none] [] F A 0
  obtain ⟨hp, h⟩ := h
  show (fgOK (A 2) ∧ (-2147483648 ≤ c ∧ c < 2147483648) ∧ caAll A) ∧ ((0 ≤ c ∧ c < A 2 0 → (∀ (G_1 : FF) (B_1 : AA), (qrP F G_1 A B_1) → ((0 ≤ w32 0 ∧ w32 0 < 1) ∧ (K (some (some (vI 0))) G_1 (upA B_1 43 (w32 0) (w32 (nrF (A 2) c (Int.toNat (A 2 0))))))))) ∧ (¬ (0 ≤ c ∧ c < A 2 0) → (K (some (some (vI 1))) F A)))
  refine ⟨by exact hp, ?_⟩
  refine ⟨fun c1 => ?_, fun c1 => ?_⟩
  · skip
    skip
    intro G_1 B_1 g1
    refine ⟨by exact ⟨by decide, by decide⟩, ?_⟩
    first | exact h.1 c1 | exact h.2 c1 | exact h.1 c1 _ _ g1 | exact h.1 c1 _ g1 | exact h.1 c1 _ _ _ _ g1
  · skip
    skip
    first | exact h.1 c1 | exact h.2 c1 | exact h.1 c1 _ _ g1 | exact h.1 c1 _ g1 | exact h.1 c1 _ _ _ _ g1
theorem qtL_curvesNear (l : Launch) (hst : l.stackTraces = false) : am_CT l layL qeL_curvesNear := am_met2 (hp := 12) (hn := 13) (i := 3) (en := 9) rfl (by decide +kernel) rfl rfl rfl rfl rfl rfl (Or.inr ⟨3, rfl, by decide +kernel, rfl⟩) (by decide) (dc_cov (n := 17) (by decide +kernel) (by decide +kernel)) (fun _ => rfl) rfl (qzL_curvesNear l hst) (fun as F A K h => by
  replace h : qsL_curvesNear as F A K := h
  unfold qsL_curvesNear at h
  split at h
  · rename_i x c o
    refine ⟨by first | exact Nat.le_of_ble_eq_true rfl | simp [am_fl, am_cat], ?_⟩
    replace h := am_cond2 h
    rcases h with ⟨hb, h⟩ | h
    · simp only [Bool.and_eq_true] at hb
      obtain ⟨hb0, hb1⟩ := hb
      have hb0 := am_bq hb0
      subst hb0
      have hb1 := am_bq hb1
      subst hb1
      exact am_way_line (qvL_curvesNear_0_43 c F A K h)
    exact h.elim
  · exact h.elim)
def qkL_isStraight : Nat → Option CI := fun pc => cond (Nat.ble 24 pc) none (cond (Nat.ble 14 pc) (cond (Nat.ble 20 pc) (cond (Nat.ble 22 pc) (cond (Nat.beq pc 22) (some (.iconst 0, 23, [])) (cond (Nat.beq pc 23) (some (.ireturn, 24, [])) (none))) (cond (Nat.beq pc 20) (some (.iconst 1, 21, [])) (cond (Nat.beq pc 21) (some (.ireturn, 22, [])) (none)))) (cond (Nat.ble 16 pc) (cond (Nat.beq pc 16) (some (.goto 6, 19, [22])) (cond (Nat.beq pc 19) (some (.astore_n 3, 20, [])) (none))) (cond (Nat.beq pc 14) (some (.lconst 0, 15, [])) (cond (Nat.beq pc 15) (some (.lastore, 16, [])) (none))))) (cond (Nat.ble 4 pc) (cond (Nat.ble 10 pc) (cond (Nat.beq pc 10) (some (.lconst 1, 11, [])) (cond (Nat.beq pc 11) (some (.goto 4, 14, [15])) (none))) (cond (Nat.beq pc 4) (some (.invokevirtual 38, 7, [])) (cond (Nat.beq pc 7) (some (.ifCond .eq 7, 10, [14])) (none)))) (cond (Nat.ble 2 pc) (cond (Nat.beq pc 2) (some (.aload_n 0, 3, [])) (cond (Nat.beq pc 3) (some (.iload_n 1, 4, [])) (none))) (cond (Nat.beq pc 0) (some (.aload_n 2, 1, [])) (cond (Nat.beq pc 1) (some (.iconst 0, 2, [])) (none))))))
theorem qkL_isStraight_ok : ∀ pc i nx ts, qkL_isStraight pc = some (i, nx, ts) → am_cok cL_isStraight pc (i, nx, ts) = true := fun pc i nx ts h => am_tok_ok (n := 24) (by decide +kernel) (fun pc h => by show cond (Nat.ble 24 pc) _ _ = _; rw [Nat.ble_eq_true_of_le h]; rfl) h
def qaL_isStraight : Nat → Option CE := fun k => cond (Nat.beq k 38) (some qeX8_isStraight) (none)
theorem qyL_isStraight (l : Launch) (hst : l.stackTraces = false) : ∀ k e1, qaL_isStraight k = some e1 → am_cal l layL RL 11 k e1 ∧ True := q_cons ⟨am_calV (ci := 8) (am_CT_mono layX_L (qtX8_isStraight l hst)) qbX8_isStraight (by decide) rfl (am_tb_at 976 (by decide +kernel) rfl), trivial⟩ (q_nil)
def qxL_isStraight : CX := (qkL_isStraight, layL, qfL, qaL_isStraight, qcL, qlL, qmL, (some .int), false, (some 20), 1, none, fun _ => none)
theorem qzL_isStraight (l : Launch) (hst : l.stackTraces = false) : am_sta l qxL_isStraight RL 11 cL_isStraight := ⟨qkL_isStraight_ok, layL_ok, qfL_ok, qcL_ok, qlL_ok, am_mthP qmL_ok (by decide), fun k e1 h => (qyL_isStraight l hst k e1 h).1⟩
def qsL_isStraight : SP := fun as F A K => match as with
  | [.inr (.inr x), .inl c, .inr (.inr o)] => cond (Nat.beq x 0 && Nat.beq o 43) ((fgOK (A 2) ∧ (-2147483648 ≤ c ∧ c < 2147483648)) ∧ ((0 ≤ c ∧ c < A 2 0 → (K (some (some (vI 0))) F (upA A 43 (w32 0) (w32 (bc (stP (A 2) c (A 2 (18 + c)))))))) ∧ (¬ (0 ≤ c ∧ c < A 2 0) → (K (some (some (vI 1))) F A)))) (False)
  | _ => False
def qeL_isStraight : CE := (yL_isStraight, cL_isStraight, 4, (some .int), 3, none, 2, [(0, 16, 19, 13)], 1, 11, qsL_isStraight)
theorem qbL_isStraight : am_mb qeL_isStraight := ⟨am_tb_at 975 (by decide +kernel) rfl, am_tb_at 113 (by decide +kernel) rfl, ⟨by decide, by decide, by decide +kernel⟩, by decide, am_tb_at 974 (by decide +kernel) rfl⟩
set_option maxRecDepth 20000 in
theorem qvL_isStraight_0_43 (c : Int) (F : FF) (A : AA) (K : KK) (h : (fgOK (A 2) ∧ (-2147483648 ≤ c ∧ c < 2147483648)) ∧ ((0 ≤ c ∧ c < A 2 0 → (K (some (some (vI 0))) F (upA A 43 (w32 0) (w32 (bc (stP (A 2) c (A 2 (18 + c)))))))) ∧ (¬ (0 ≤ c ∧ c < A 2 0) → (K (some (some (vI 1))) F A)))) : am_line qxL_isStraight 13 [vR 0, vI c, vR 43] 4 F A K := by
  show am_stp qxL_isStraight (am_run qxL_isStraight (fun _ => none) (fun _ _ _ _ _ _ => False) K 13) K 0 [some (vR 0), some (vI c), some (vR 43), none] [] F A 0
  obtain ⟨hp, h⟩ := h
  show (fgOK (A 2) ∧ (-2147483648 ≤ c ∧ c < 2147483648)) ∧ ((0 ≤ c ∧ c < A 2 0 → ((w32 (bc (stP (A 2) c (A 2 (18 + c)))) = w32 0 → ((0 ≤ w32 0 ∧ w32 0 < 1) ∧ (K (some (some (vI 0))) F (upA A 43 (w32 0) 0)))) ∧ (¬ w32 (bc (stP (A 2) c (A 2 (18 + c)))) = w32 0 → ((0 ≤ w32 0 ∧ w32 0 < 1) ∧ (K (some (some (vI 0))) F (upA A 43 (w32 0) 1)))))) ∧ (¬ (0 ≤ c ∧ c < A 2 0) → (K (some (some (vI 1))) F A)))
  refine ⟨by exact hp, ?_⟩
  refine ⟨fun c1 => ?_, fun c1 => ?_⟩
  · skip
    skip
    refine ⟨fun c2 => ?_, fun c2 => ?_⟩
    · skip
      skip
      refine ⟨by exact ⟨by decide, by decide⟩, ?_⟩
      first | exact h.2 c1 | (have e := wbc0.mp c2; have hh := h.1 c1; rw [bc_f e] at hh; exact hh) | (have e := Classical.not_not.mp (fun z => c2 (wbc0.mpr z)); have hh := h.1 c1; rw [bc_t e] at hh; exact hh)
    · skip
      skip
      refine ⟨by exact ⟨by decide, by decide⟩, ?_⟩
      first | exact h.2 c1 | (have e := wbc0.mp c2; have hh := h.1 c1; rw [bc_f e] at hh; exact hh) | (have e := Classical.not_not.mp (fun z => c2 (wbc0.mpr z)); have hh := h.1 c1; rw [bc_t e] at hh; exact hh)
  · skip
    skip
    first | exact h.2 c1 | (have e := wbc0.mp c2; have hh := h.1 c1; rw [bc_f e] at hh; exact hh) | (have e := Classical.not_not.mp (fun z => c2 (wbc0.mpr z)); have hh := h.1 c1; rw [bc_t e] at hh; exact hh)
theorem qtL_isStraight (l : Launch) (hst : l.stackTraces = false) : am_CT l layL qeL_isStraight := am_met2 (hp := 19) (hn := 20) (i := 3) (en := 16) rfl (by decide +kernel) rfl rfl rfl rfl rfl rfl (Or.inr ⟨3, rfl, by decide +kernel, rfl⟩) (by decide) (dc_cov (n := 24) (by decide +kernel) (by decide +kernel)) (fun _ => rfl) rfl (qzL_isStraight l hst) (fun as F A K h => by
  replace h : qsL_isStraight as F A K := h
  unfold qsL_isStraight at h
  split at h
  · rename_i x c o
    refine ⟨by first | exact Nat.le_of_ble_eq_true rfl | simp [am_fl, am_cat], ?_⟩
    replace h := am_cond2 h
    rcases h with ⟨hb, h⟩ | h
    · simp only [Bool.and_eq_true] at hb
      obtain ⟨hb0, hb1⟩ := hb
      have hb0 := am_bq hb0
      subst hb0
      have hb1 := am_bq hb1
      subst hb1
      exact am_way_line (qvL_isStraight_0_43 c F A K h)
    exact h.elim
  · exact h.elim)
