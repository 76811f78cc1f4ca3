def qkX8_meetingCount : Nat → Option CI := fun pc => cond (Nat.ble 20 pc) none (cond (Nat.ble 8 pc) (cond (Nat.ble 13 pc) (cond (Nat.beq pc 13) (some (.getfield 50, 16, [])) (cond (Nat.beq pc 16) (some (.invokevirtual 280, 19, [])) (cond (Nat.beq pc 19) (some (.ireturn, 20, [])) (none)))) (cond (Nat.beq pc 8) (some (.iload_n 2, 9, [])) (cond (Nat.beq pc 9) (some (.invokevirtual 273, 12, [])) (cond (Nat.beq pc 12) (some (.aload_n 0, 13, [])) (none))))) (cond (Nat.ble 3 pc) (cond (Nat.beq pc 3) (some (.invokevirtual 263, 6, [])) (cond (Nat.beq pc 6) (some (.aload_n 0, 7, [])) (cond (Nat.beq pc 7) (some (.iload_n 1, 8, [])) (none)))) (cond (Nat.beq pc 0) (some (.aload_n 0, 1, [])) (cond (Nat.beq pc 1) (some (.iload_n 1, 2, [])) (cond (Nat.beq pc 2) (some (.iload_n 2, 3, [])) (none))))))
theorem qkX8_meetingCount_ok : ∀ pc i nx ts, qkX8_meetingCount pc = some (i, nx, ts) → am_cok cX8_meetingCount pc (i, nx, ts) = true := fun pc i nx ts h => am_tok_ok (n := 20) (by decide +kernel) (fun pc h => by show cond (Nat.ble 20 pc) _ _ = _; rw [Nat.ble_eq_true_of_le h]; rfl) h
def qaX8_meetingCount : Nat → Option CE := fun k => cond (Nat.beq k 263) (some qeX8_requireCurves) (cond (Nat.beq k 273) (some qeX8_markPairs) (cond (Nat.beq k 280) (some qeX6_group) (none)))
theorem qyX8_meetingCount (l : Launch) (hst : l.stackTraces = false) : ∀ k e1, qaX8_meetingCount k = some e1 → am_cal l layX RX8 17 k e1 ∧ True := q_cons ⟨am_calV (ci := 8) (qtX8_requireCurves l hst) qbX8_requireCurves (by decide) rfl (am_tb_at 1222 (by decide +kernel) rfl), trivial⟩ (q_cons ⟨am_calV (ci := 8) (qtX8_markPairs l) qbX8_markPairs (by decide) rfl (am_tb_at 1250 (by decide +kernel) rfl), trivial⟩ (q_cons ⟨am_calV (ci := 6) (qtX6_group l) qbX6_group (by decide) rfl (am_tb_at 1296 (by decide +kernel) rfl), trivial⟩ (q_nil)))
def qxX8_meetingCount : CX := (qkX8_meetingCount, layX, qfX8, qaX8_meetingCount, qcX8, qlX8, qmX8, (some .int), true, none, 2, none, fun _ => none)
theorem qzX8_meetingCount (l : Launch) (hst : l.stackTraces = false) : am_sta l qxX8_meetingCount RX8 17 cX8_meetingCount := ⟨qkX8_meetingCount_ok, layX_ok, qfX8_ok, qcX8_ok, qlX8_ok, am_mthP qmX8_ok (by decide), fun k e1 h => (qyX8_meetingCount l hst k e1 h).1⟩
def qsX8_meetingCount : SP := fun as F A K => match as with
  | [.inr (.inr o), .inl c, .inl e] => cond (Nat.beq o 0) ((fgOK (A 2) ∧ (-2147483648 ≤ c ∧ c < 2147483648) ∧ (-2147483648 ≤ e ∧ e < 2147483648) ∧ caAll A ∧ (∀ jj, -2 ≤ A 20 jj ∧ A 20 jj < 5000)) ∧ (((0 ≤ c ∧ c < A 2 0) ∧ 0 ≤ e ∧ e < A 2 0 → (∀ (H_1 : FF) (C_1 : AA) (G_1 : FF) (B_1 : AA), (gqP F G_1 H_1 A B_1 C_1 c e) → (K (some (some (vI (gqN H_1 C_1 (A 2 3))))) G_1 B_1))) ∧ (¬ ((0 ≤ c ∧ c < A 2 0) ∧ 0 ≤ e ∧ e < A 2 0) → (K none F A)))) (False)
  | _ => False
def qeX8_meetingCount : CE := (yX8_meetingCount, cX8_meetingCount, 3, (some .int), 2, some 8, 1, [], 2, 17, qsX8_meetingCount)
theorem qbX8_meetingCount : am_mb qeX8_meetingCount := ⟨am_tb_at 1295 (by decide +kernel) rfl, am_tb_at 114 (by decide +kernel) rfl, ⟨by decide, by decide, by decide +kernel⟩, by decide, by decide, am_tb_at 1293 (by decide +kernel) rfl, am_tb_at 1294 (by decide +kernel) rfl, _, _, rfl⟩
set_option maxRecDepth 20000 in
theorem qvX8_meetingCount_0 (c : Int) (e : Int) (F : FF) (A : AA) (K : KK) (h : (fgOK (A 2) ∧ (-2147483648 ≤ c ∧ c < 2147483648) ∧ (-2147483648 ≤ e ∧ e < 2147483648) ∧ caAll A ∧ (∀ jj, -2 ≤ A 20 jj ∧ A 20 jj < 5000)) ∧ (((0 ≤ c ∧ c < A 2 0) ∧ 0 ≤ e ∧ e < A 2 0 → (∀ (H_1 : FF) (C_1 : AA) (G_1 : FF) (B_1 : AA), (gqP F G_1 H_1 A B_1 C_1 c e) → (K (some (some (vI (gqN H_1 C_1 (A 2 3))))) G_1 B_1))) ∧ (¬ ((0 ≤ c ∧ c < A 2 0) ∧ 0 ≤ e ∧ e < A 2 0) → (K none F A)))) : am_line qxX8_meetingCount 13 [vR 0, vI c, vI e] 3 F A K := by
  show am_stp qxX8_meetingCount (am_run qxX8_meetingCount (fun _ => none) (fun _ _ _ _ _ _ => False) K 13) K 0 [some (vR 0), some (vI c), some (vI e)] [] F A 0
  obtain ⟨hp, h⟩ := h
  have p1 := hp.1
  have q1 := p1.1.1
  have q2 := p1.1.2
  have q5 := p1.2.1.2
  show ((0 ≤ A 2 0 ∧ A 2 0 ≤ 8) ∧ (0 ≤ A 2 1 ∧ A 2 1 ≤ 6) ∧ (-2147483648 ≤ c ∧ c < 2147483648) ∧ (-2147483648 ≤ e ∧ e < 2147483648)) ∧ (((0 ≤ c ∧ c < A 2 0) ∧ 0 ≤ e ∧ e < A 2 0 → ((fgOK (A 2) ∧ (0 ≤ c ∧ c < A 2 0) ∧ (0 ≤ e ∧ e < A 2 0) ∧ caAll A) ∧ (∀ (G_1 : FF) (B_1 : AA), (mkP F G_1 A B_1 c e (A 2 3)) → (((0 ≤ (G_1 19 3) ∧ (G_1 19 3) ≤ 6) ∧ (G_1 19 4) = p2 ((G_1 19 3)) ∧ (∀ j, -2 ≤ B_1 20 j ∧ B_1 20 j < 5000)) ∧ (∀ (G_2 : FF) (B_2 : AA), (gsP G_2 B_2 (grpF ((G_1 19 4)) (B_1 20, B_1 21, (G_1 19 2)) (Int.toNat ((G_1 19 4) * (G_1 19 4)))).1 ∧ gsF G_1 G_2 B_1 B_2 ∧ (∀ j, -2 ≤ B_2 20 j ∧ B_2 20 j < 5000)) → (K (some (some (vI ((grpF ((G_1 19 4)) (B_1 20, B_1 21, (G_1 19 2)) (Int.toNat ((G_1 19 4) * (G_1 19 4)))).2)))) G_2 B_2)))))) ∧ (¬ ((0 ≤ c ∧ c < A 2 0) ∧ 0 ≤ e ∧ e < A 2 0) → (K none F A)))
  refine ⟨by exact ⟨p1.1.1, p1.1.2, hp.2.1, hp.2.2.1⟩, ?_⟩
  refine ⟨fun c1 => ?_, fun c1 => ?_⟩
  · skip
    (try simp (disch := omega) only [w32_0, wbi0, Classical.not_not, w32_id] at c1)
    refine ⟨by exact ⟨p1, c1.1, c1.2, hp.2.2.2.1⟩, ?_⟩
    intro G_1 B_1 g1
    refine ⟨by (have w := g1.2.2.2.2 hp.2.2.2.2; rw [g1.2.1.2, g1.2.1.1]; exact ⟨⟨by omega, q5.2⟩, rfl, w⟩), ?_⟩
    intro G_2 B_2 g2
    rw [g1.2.1.2] at g2
    have gq := (⟨qrP_gs g1.1 g2.2.1 g2.2.2, g1, g2.1.1⟩ : gqP F _ _ A _ _ c e)
    exact K_eq (h.1 c1 _ _ _ _ gq) (by rw [g1.2.1.2]; rfl)
  · skip
    (try simp (disch := omega) only [w32_0, wbi0, Classical.not_not, w32_id] at c1)
    exact h.2 c1
theorem qtX8_meetingCount (l : Launch) (hst : l.stackTraces = false) : am_CT l layX qeX8_meetingCount := am_met1 hst rfl (by decide +kernel) rfl rfl rfl rfl rfl (fun _ _ h => by cases h) rfl (qzX8_meetingCount l hst) (fun as F A K h => by
  replace h : qsX8_meetingCount as F A K := h
  unfold qsX8_meetingCount at h
  split at h
  · rename_i o c e
    refine ⟨by first | exact Nat.le_of_ble_eq_true rfl | simp [am_fl, am_cat], ?_⟩
    replace h := am_cond2 h
    rcases h with ⟨hb, h⟩ | h
    · skip
      have hb0 := hb
      have hb0 := am_bq hb0
      subst hb0
      exact am_way_line (qvX8_meetingCount_0 c e F A K h)
    exact h.elim
  · exact h.elim)
def qkX8_meetingOf : Nat → Option CI := fun pc => cond (Nat.ble 31 pc) none (cond (Nat.ble 13 pc) (cond (Nat.ble 21 pc) (cond (Nat.ble 25 pc) (cond (Nat.beq pc 25) (some (.iload 4, 27, [])) (cond (Nat.beq pc 27) (some (.invokevirtual 283, 30, [])) (cond (Nat.beq pc 30) (some (.ireturn, 31, [])) (none)))) (cond (Nat.beq pc 21) (some (.getfield 50, 24, [])) (cond (Nat.beq pc 24) (some (.iload_n 3, 25, [])) (none)))) (cond (Nat.ble 19 pc) (cond (Nat.beq pc 19) (some (.pop, 20, [])) (cond (Nat.beq pc 20) (some (.aload_n 0, 21, [])) (none))) (cond (Nat.beq pc 13) (some (.getfield 50, 16, [])) (cond (Nat.beq pc 16) (some (.invokevirtual 280, 19, [])) (none))))) (cond (Nat.ble 6 pc) (cond (Nat.ble 8 pc) (cond (Nat.beq pc 8) (some (.iload_n 2, 9, [])) (cond (Nat.beq pc 9) (some (.invokevirtual 273, 12, [])) (cond (Nat.beq pc 12) (some (.aload_n 0, 13, [])) (none)))) (cond (Nat.beq pc 6) (some (.aload_n 0, 7, [])) (cond (Nat.beq pc 7) (some (.iload_n 1, 8, [])) (none)))) (cond (Nat.ble 2 pc) (cond (Nat.beq pc 2) (some (.iload_n 2, 3, [])) (cond (Nat.beq pc 3) (some (.invokevirtual 263, 6, [])) (none))) (cond (Nat.beq pc 0) (some (.aload_n 0, 1, [])) (cond (Nat.beq pc 1) (some (.iload_n 1, 2, [])) (none))))))
theorem qkX8_meetingOf_ok : ∀ pc i nx ts, qkX8_meetingOf pc = some (i, nx, ts) → am_cok cX8_meetingOf pc (i, nx, ts) = true := fun pc i nx ts h => am_tok_ok (n := 31) (by decide +kernel) (fun pc h => by show cond (Nat.ble 31 pc) _ _ = _; rw [Nat.ble_eq_true_of_le h]; rfl) h
def qaX8_meetingOf : Nat → Option CE := fun k => cond (Nat.beq k 263) (some qeX8_requireCurves) (cond (Nat.beq k 273) (some qeX8_markPairs) (cond (Nat.beq k 280) (some qeX6_group) (cond (Nat.beq k 283) (some qeX6_meetingAt) (none))))
theorem qyX8_meetingOf (l : Launch) (hst : l.stackTraces = false) : ∀ k e1, qaX8_meetingOf k = some e1 → am_cal l layX RX8 17 k e1 ∧ True := q_cons ⟨am_calV (ci := 8) (qtX8_requireCurves l hst) qbX8_requireCurves (by decide) rfl (am_tb_at 1222 (by decide +kernel) rfl), trivial⟩ (q_cons ⟨am_calV (ci := 8) (qtX8_markPairs l) qbX8_markPairs (by decide) rfl (am_tb_at 1250 (by decide +kernel) rfl), trivial⟩ (q_cons ⟨am_calV (ci := 6) (qtX6_group l) qbX6_group (by decide) rfl (am_tb_at 1296 (by decide +kernel) rfl), trivial⟩ (q_cons ⟨am_calV (ci := 6) (qtX6_meetingAt l) qbX6_meetingAt (by decide) rfl (am_tb_at 1315 (by decide +kernel) rfl), trivial⟩ (q_nil))))
def qxX8_meetingOf : CX := (qkX8_meetingOf, layX, qfX8, qaX8_meetingOf, qcX8, qlX8, qmX8, (some .int), true, none, 2, none, fun _ => none)
theorem qzX8_meetingOf (l : Launch) (hst : l.stackTraces = false) : am_sta l qxX8_meetingOf RX8 17 cX8_meetingOf := ⟨qkX8_meetingOf_ok, layX_ok, qfX8_ok, qcX8_ok, qlX8_ok, am_mthP qmX8_ok (by decide), fun k e1 h => (qyX8_meetingOf l hst k e1 h).1⟩
def qsX8_meetingOf : SP := fun as F A K => match as with
  | [.inr (.inr o), .inl c, .inl e, .inl q, .inl r] => cond (Nat.beq o 0) ((fgOK (A 2) ∧ (-2147483648 ≤ c ∧ c < 2147483648) ∧ (-2147483648 ≤ e ∧ e < 2147483648) ∧ (-2147483648 ≤ q ∧ q < 2147483648) ∧ (-2147483648 ≤ r ∧ r < 2147483648) ∧ caAll A ∧ (∀ jj, -2 ≤ A 20 jj ∧ A 20 jj < 5000)) ∧ (((0 ≤ c ∧ c < A 2 0) ∧ 0 ≤ e ∧ e < A 2 0 → (∀ (H_1 : FF) (C_1 : AA) (G_1 : FF) (B_1 : AA), (gqP F G_1 H_1 A B_1 C_1 c e) → (K (some (some (vI (mtA (B_1 20) (p2 (A 2 3)) q r)))) G_1 B_1))) ∧ (¬ ((0 ≤ c ∧ c < A 2 0) ∧ 0 ≤ e ∧ e < A 2 0) → (K none F A)))) (False)
  | _ => False
def qeX8_meetingOf : CE := (yX8_meetingOf, cX8_meetingOf, 5, (some .int), 4, some 8, 1, [], 2, 17, qsX8_meetingOf)
theorem qbX8_meetingOf : am_mb qeX8_meetingOf := ⟨am_tb_at 1314 (by decide +kernel) rfl, am_tb_at 114 (by decide +kernel) rfl, ⟨by decide, by decide, by decide +kernel⟩, by decide, by decide, am_tb_at 1312 (by decide +kernel) rfl, am_tb_at 1313 (by decide +kernel) rfl, _, _, rfl⟩
set_option maxRecDepth 20000 in
theorem qvX8_meetingOf_0 (c : Int) (e : Int) (q : Int) (r : Int) (F : FF) (A : AA) (K : KK) (h : (fgOK (A 2) ∧ (-2147483648 ≤ c ∧ c < 2147483648) ∧ (-2147483648 ≤ e ∧ e < 2147483648) ∧ (-2147483648 ≤ q ∧ q < 2147483648) ∧ (-2147483648 ≤ r ∧ r < 2147483648) ∧ caAll A ∧ (∀ jj, -2 ≤ A 20 jj ∧ A 20 jj < 5000)) ∧ (((0 ≤ c ∧ c < A 2 0) ∧ 0 ≤ e ∧ e < A 2 0 → (∀ (H_1 : FF) (C_1 : AA) (G_1 : FF) (B_1 : AA), (gqP F G_1 H_1 A B_1 C_1 c e) → (K (some (some (vI (mtA (B_1 20) (p2 (A 2 3)) q r)))) G_1 B_1))) ∧ (¬ ((0 ≤ c ∧ c < A 2 0) ∧ 0 ≤ e ∧ e < A 2 0) → (K none F A)))) : am_line qxX8_meetingOf 19 [vR 0, vI c, vI e, vI q, vI r] 5 F A K := by
  show am_stp qxX8_meetingOf (am_run qxX8_meetingOf (fun _ => none) (fun _ _ _ _ _ _ => False) K 19) K 0 [some (vR 0), some (vI c), some (vI e), some (vI q), some (vI r)] [] F A 0
  obtain ⟨hp, h⟩ := h
  have p1 := hp.1
  have q1 := p1.1.1
  have q2 := p1.1.2
  have q5 := p1.2.1.2
  show ((0 ≤ A 2 0 ∧ A 2 0 ≤ 8) ∧ (0 ≤ A 2 1 ∧ A 2 1 ≤ 6) ∧ (-2147483648 ≤ c ∧ c < 2147483648) ∧ (-2147483648 ≤ e ∧ e < 2147483648)) ∧ (((0 ≤ c ∧ c < A 2 0) ∧ 0 ≤ e ∧ e < A 2 0 → ((fgOK (A 2) ∧ (0 ≤ c ∧ c < A 2 0) ∧ (0 ≤ e ∧ e < A 2 0) ∧ caAll A) ∧ (∀ (G_1 : FF) (B_1 : AA), (mkP F G_1 A B_1 c e (A 2 3)) → (((0 ≤ (G_1 19 3) ∧ (G_1 19 3) ≤ 6) ∧ (G_1 19 4) = p2 ((G_1 19 3)) ∧ (∀ j, -2 ≤ B_1 20 j ∧ B_1 20 j < 5000)) ∧ (∀ (G_2 : FF) (B_2 : AA), (gsP G_2 B_2 (grpF ((G_1 19 4)) (B_1 20, B_1 21, (G_1 19 2)) (Int.toNat ((G_1 19 4) * (G_1 19 4)))).1 ∧ gsF G_1 G_2 B_1 B_2 ∧ (∀ j, -2 ≤ B_2 20 j ∧ B_2 20 j < 5000)) → (((1 ≤ (G_2 19 4) ∧ (G_2 19 4) ≤ 64) ∧ (∀ j, -2 ≤ B_2 20 j ∧ B_2 20 j < 5000) ∧ (-2147483648 ≤ q ∧ q < 2147483648) ∧ -2147483648 ≤ r ∧ r < 2147483648) ∧ (K (some (some (vI (mtA (B_2 20) ((G_2 19 4)) q r)))) G_2 B_2))))))) ∧ (¬ ((0 ≤ c ∧ c < A 2 0) ∧ 0 ≤ e ∧ e < A 2 0) → (K none F A)))
  refine ⟨by exact ⟨p1.1.1, p1.1.2, hp.2.1, hp.2.2.1⟩, ?_⟩
  refine ⟨fun c1 => ?_, fun c1 => ?_⟩
  · skip
    (try simp (disch := omega) only [w32_0, wbi0, Classical.not_not, w32_id] at c1)
    refine ⟨by exact ⟨p1, c1.1, c1.2, hp.2.2.2.2.2.1⟩, ?_⟩
    intro G_1 B_1 g1
    refine ⟨by (have w := g1.2.2.2.2 hp.2.2.2.2.2.2; rw [g1.2.1.2, g1.2.1.1]; exact ⟨⟨by omega, q5.2⟩, rfl, w⟩), ?_⟩
    intro G_2 B_2 g2
    refine ⟨by (have P6 : 1 ≤ p2 (A 2 3) ∧ p2 (A 2 3) ≤ 64 := ⟨p2_pos, by have := p2_le q5.2; rwa [p2_6] at this⟩; have g4 := (g2.2.1.2 19 4 (Or.inr (by decide))).trans g1.2.1.2; rw [g4]; exact ⟨P6, g2.2.2, hp.2.2.2.1, hp.2.2.2.2.1⟩), ?_⟩
    have g4 := (g2.2.1.2 19 4 (Or.inr (by decide))).trans g1.2.1.2
    rw [g1.2.1.2] at g2
    have gq := (⟨qrP_gs g1.1 g2.2.1 g2.2.2, g1, g2.1.1⟩ : gqP F _ _ A _ _ c e)
    exact K_eq (h.1 c1 _ _ _ _ gq) (by rw [g4])
  · skip
    (try simp (disch := omega) only [w32_0, wbi0, Classical.not_not, w32_id] at c1)
    exact h.2 c1
theorem qtX8_meetingOf (l : Launch) (hst : l.stackTraces = false) : am_CT l layX qeX8_meetingOf := am_met1 hst rfl (by decide +kernel) rfl rfl rfl rfl rfl (fun _ _ h => by cases h) rfl (qzX8_meetingOf l hst) (fun as F A K h => by
  replace h : qsX8_meetingOf as F A K := h
  unfold qsX8_meetingOf at h
  split at h
  · rename_i o c e q r
    refine ⟨by first | exact Nat.le_of_ble_eq_true rfl | simp [am_fl, am_cat], ?_⟩
    replace h := am_cond2 h
    rcases h with ⟨hb, h⟩ | h
    · skip
      have hb0 := hb
      have hb0 := am_bq hb0
      subst hb0
      exact am_way_line (qvX8_meetingOf_0 c e q r F A K h)
    exact h.elim
  · exact h.elim)
