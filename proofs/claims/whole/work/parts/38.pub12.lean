def qkX8_pairCount : Nat → Option CI := fun pc => cond (Nat.ble 20 pc) none (cond (Nat.ble 8 pc) (cond (Nat.ble 13 pc) (cond (Nat.beq pc 13) (some (.getfield 50, 16, [])) (cond (Nat.beq pc 16) (some (.invokevirtual 276, 19, [])) (cond (Nat.beq pc 19) (some (.ireturn, 20, [])) (none)))) (cond (Nat.beq pc 8) (some (.iload_n 2, 9, [])) (cond (Nat.beq pc 9) (some (.invokevirtual 273, 12, [])) (cond (Nat.beq pc 12) (some (.aload_n 0, 13, [])) (none))))) (cond (Nat.ble 3 pc) (cond (Nat.beq pc 3) (some (.invokevirtual 263, 6, [])) (cond (Nat.beq pc 6) (some (.aload_n 0, 7, [])) (cond (Nat.beq pc 7) (some (.iload_n 1, 8, [])) (none)))) (cond (Nat.beq pc 0) (some (.aload_n 0, 1, [])) (cond (Nat.beq pc 1) (some (.iload_n 1, 2, [])) (cond (Nat.beq pc 2) (some (.iload_n 2, 3, [])) (none))))))
theorem qkX8_pairCount_ok : ∀ pc i nx ts, qkX8_pairCount pc = some (i, nx, ts) → am_cok cX8_pairCount pc (i, nx, ts) = true := fun pc i nx ts h => am_tok_ok (n := 20) (by decide +kernel) (fun pc h => by show cond (Nat.ble 20 pc) _ _ = _; rw [Nat.ble_eq_true_of_le h]; rfl) h
def qaX8_pairCount : Nat → Option CE := fun k => cond (Nat.beq k 263) (some qeX8_requireCurves) (cond (Nat.beq k 273) (some qeX8_markPairs) (cond (Nat.beq k 276) (some qeX6_size) (none)))
theorem qyX8_pairCount (l : Launch) (hst : l.stackTraces = false) : ∀ k e1, qaX8_pairCount k = some e1 → am_cal l layX RX8 17 k e1 ∧ True := q_cons ⟨am_calV (ci := 8) (qtX8_requireCurves l hst) qbX8_requireCurves (by decide) rfl (am_tb_at 1222 (by decide +kernel) rfl), trivial⟩ (q_cons ⟨am_calV (ci := 8) (qtX8_markPairs l) qbX8_markPairs (by decide) rfl (am_tb_at 1250 (by decide +kernel) rfl), trivial⟩ (q_cons ⟨am_calV (ci := 6) (qtX6_size l) qbX6_size (by decide) rfl (am_tb_at 1270 (by decide +kernel) rfl), trivial⟩ (q_nil)))
def qxX8_pairCount : CX := (qkX8_pairCount, layX, qfX8, qaX8_pairCount, qcX8, qlX8, qmX8, (some .int), true, none, 2, none, fun _ => none)
theorem qzX8_pairCount (l : Launch) (hst : l.stackTraces = false) : am_sta l qxX8_pairCount RX8 17 cX8_pairCount := ⟨qkX8_pairCount_ok, layX_ok, qfX8_ok, qcX8_ok, qlX8_ok, am_mthP qmX8_ok (by decide), fun k e1 h => (qyX8_pairCount l hst k e1 h).1⟩
def qsX8_pairCount : SP := fun as F A K => match as with
  | [.inr (.inr o), .inl c, .inl e] => cond (Nat.beq o 0) ((fgOK (A 2) ∧ (-2147483648 ≤ c ∧ c < 2147483648) ∧ (-2147483648 ≤ e ∧ e < 2147483648) ∧ caAll A ∧ (∀ jj, -2 ≤ A 20 jj ∧ A 20 jj < 5000)) ∧ (((0 ≤ c ∧ c < A 2 0) ∧ 0 ≤ e ∧ e < A 2 0 → (∀ (G_1 : FF) (B_1 : AA), (mkP F G_1 A B_1 c e (A 2 3)) → (K (some (some (vI (cntP (B_1 20) (Int.toNat (p2 (A 2 3) * p2 (A 2 3))))))) G_1 B_1))) ∧ (¬ ((0 ≤ c ∧ c < A 2 0) ∧ 0 ≤ e ∧ e < A 2 0) → (K none F A)))) (False)
  | _ => False
def qeX8_pairCount : CE := (yX8_pairCount, cX8_pairCount, 3, (some .int), 2, some 8, 1, [], 2, 17, qsX8_pairCount)
theorem qbX8_pairCount : am_mb qeX8_pairCount := ⟨am_tb_at 1249 (by decide +kernel) rfl, am_tb_at 114 (by decide +kernel) rfl, ⟨by decide, by decide, by decide +kernel⟩, by decide, by decide, am_tb_at 1247 (by decide +kernel) rfl, am_tb_at 1248 (by decide +kernel) rfl, _, _, rfl⟩
set_option maxRecDepth 20000 in
theorem qvX8_pairCount_0 (c : Int) (e : Int) (F : FF) (A : AA) (K : KK) (h : (fgOK (A 2) ∧ (-2147483648 ≤ c ∧ c < 2147483648) ∧ (-2147483648 ≤ e ∧ e < 2147483648) ∧ caAll A ∧ (∀ jj, -2 ≤ A 20 jj ∧ A 20 jj < 5000)) ∧ (((0 ≤ c ∧ c < A 2 0) ∧ 0 ≤ e ∧ e < A 2 0 → (∀ (G_1 : FF) (B_1 : AA), (mkP F G_1 A B_1 c e (A 2 3)) → (K (some (some (vI (cntP (B_1 20) (Int.toNat (p2 (A 2 3) * p2 (A 2 3))))))) G_1 B_1))) ∧ (¬ ((0 ≤ c ∧ c < A 2 0) ∧ 0 ≤ e ∧ e < A 2 0) → (K none F A)))) : am_line qxX8_pairCount 13 [vR 0, vI c, vI e] 3 F A K := by
  show am_stp qxX8_pairCount (am_run qxX8_pairCount (fun _ => none) (fun _ _ _ _ _ _ => False) K 13) K 0 [some (vR 0), some (vI c), some (vI e)] [] F A 0
  obtain ⟨hp, h⟩ := h
  have p1 := hp.1
  have q1 := p1.1.1
  have q2 := p1.1.2
  have q5 := p1.2.1.2
  show ((0 ≤ A 2 0 ∧ A 2 0 ≤ 8) ∧ (0 ≤ A 2 1 ∧ A 2 1 ≤ 6) ∧ (-2147483648 ≤ c ∧ c < 2147483648) ∧ (-2147483648 ≤ e ∧ e < 2147483648)) ∧ (((0 ≤ c ∧ c < A 2 0) ∧ 0 ≤ e ∧ e < A 2 0 → ((fgOK (A 2) ∧ (0 ≤ c ∧ c < A 2 0) ∧ (0 ≤ e ∧ e < A 2 0) ∧ caAll A) ∧ (∀ (G_1 : FF) (B_1 : AA), (mkP F G_1 A B_1 c e (A 2 3)) → ((1 ≤ (G_1 19 4) ∧ (G_1 19 4) ≤ 64 ∧ (∀ i, 0 ≤ i → i < (G_1 19 4) * (G_1 19 4) → -2 ≤ B_1 20 i ∧ B_1 20 i < 5000)) ∧ (K (some (some (vI (cntP (B_1 20) (Int.toNat ((G_1 19 4) * (G_1 19 4))))))) G_1 B_1))))) ∧ (¬ ((0 ≤ c ∧ c < A 2 0) ∧ 0 ≤ e ∧ e < A 2 0) → (K none F A)))
  refine ⟨by exact ⟨p1.1.1, p1.1.2, hp.2.1, hp.2.2.1⟩, ?_⟩
  refine ⟨fun c1 => ?_, fun c1 => ?_⟩
  · skip
    (try simp (disch := omega) only [w32_0, wbi0, Classical.not_not, w32_id] at c1)
    refine ⟨by exact ⟨p1, c1.1, c1.2, hp.2.2.2.1⟩, ?_⟩
    intro G_1 B_1 g1
    refine ⟨by (have P6 : 1 ≤ p2 (A 2 3) ∧ p2 (A 2 3) ≤ 64 := ⟨p2_pos, by have := p2_le q5.2; rwa [p2_6] at this⟩; have w := g1.2.2.2.2 hp.2.2.2.2; rw [g1.2.1.2]; exact ⟨P6.1, P6.2, fun i _ _ => w i⟩), ?_⟩
    exact K_eq (h.1 c1 _ _ g1) (by rw [g1.2.1.2])
  · skip
    (try simp (disch := omega) only [w32_0, wbi0, Classical.not_not, w32_id] at c1)
    exact h.2 c1
theorem qtX8_pairCount (l : Launch) (hst : l.stackTraces = false) : am_CT l layX qeX8_pairCount := am_met1 hst rfl (by decide +kernel) rfl rfl rfl rfl rfl (fun _ _ h => by cases h) rfl (qzX8_pairCount l hst) (fun as F A K h => by
  replace h : qsX8_pairCount as F A K := h
  unfold qsX8_pairCount at h
  split at h
  · rename_i o c e
    refine ⟨by first | exact Nat.le_of_ble_eq_true rfl | simp [am_fl, am_cat], ?_⟩
    replace h := am_cond2 h
    rcases h with ⟨hb, h⟩ | h
    · skip
      have hb0 := hb
      have hb0 := am_bq hb0
      subst hb0
      exact am_way_line (qvX8_pairCount_0 c e F A K h)
    exact h.elim
  · exact h.elim)
def qkX8_pair : Nat → Option CI := fun pc => cond (Nat.ble 21 pc) none (cond (Nat.ble 8 pc) (cond (Nat.ble 13 pc) (cond (Nat.ble 17 pc) (cond (Nat.beq pc 17) (some (.invokevirtual 277, 20, [])) (cond (Nat.beq pc 20) (some (.ireturn, 21, [])) (none))) (cond (Nat.beq pc 13) (some (.getfield 50, 16, [])) (cond (Nat.beq pc 16) (some (.iload_n 3, 17, [])) (none)))) (cond (Nat.beq pc 8) (some (.iload_n 2, 9, [])) (cond (Nat.beq pc 9) (some (.invokevirtual 273, 12, [])) (cond (Nat.beq pc 12) (some (.aload_n 0, 13, [])) (none))))) (cond (Nat.ble 3 pc) (cond (Nat.beq pc 3) (some (.invokevirtual 263, 6, [])) (cond (Nat.beq pc 6) (some (.aload_n 0, 7, [])) (cond (Nat.beq pc 7) (some (.iload_n 1, 8, [])) (none)))) (cond (Nat.beq pc 0) (some (.aload_n 0, 1, [])) (cond (Nat.beq pc 1) (some (.iload_n 1, 2, [])) (cond (Nat.beq pc 2) (some (.iload_n 2, 3, [])) (none))))))
theorem qkX8_pair_ok : ∀ pc i nx ts, qkX8_pair pc = some (i, nx, ts) → am_cok cX8_pair pc (i, nx, ts) = true := fun pc i nx ts h => am_tok_ok (n := 21) (by decide +kernel) (fun pc h => by show cond (Nat.ble 21 pc) _ _ = _; rw [Nat.ble_eq_true_of_le h]; rfl) h
def qaX8_pair : Nat → Option CE := fun k => cond (Nat.beq k 263) (some qeX8_requireCurves) (cond (Nat.beq k 273) (some qeX8_markPairs) (cond (Nat.beq k 277) (some qeX6_pairAt) (none)))
theorem qyX8_pair (l : Launch) (hst : l.stackTraces = false) : ∀ k e1, qaX8_pair k = some e1 → am_cal l layX RX8 17 k e1 ∧ True := q_cons ⟨am_calV (ci := 8) (qtX8_requireCurves l hst) qbX8_requireCurves (by decide) rfl (am_tb_at 1222 (by decide +kernel) rfl), trivial⟩ (q_cons ⟨am_calV (ci := 8) (qtX8_markPairs l) qbX8_markPairs (by decide) rfl (am_tb_at 1250 (by decide +kernel) rfl), trivial⟩ (q_cons ⟨am_calV (ci := 6) (qtX6_pairAt l) qbX6_pairAt (by decide) rfl (am_tb_at 1285 (by decide +kernel) rfl), trivial⟩ (q_nil)))
def qxX8_pair : CX := (qkX8_pair, layX, qfX8, qaX8_pair, qcX8, qlX8, qmX8, (some .int), true, none, 2, none, fun _ => none)
theorem qzX8_pair (l : Launch) (hst : l.stackTraces = false) : am_sta l qxX8_pair RX8 17 cX8_pair := ⟨qkX8_pair_ok, layX_ok, qfX8_ok, qcX8_ok, qlX8_ok, am_mthP qmX8_ok (by decide), fun k e1 h => (qyX8_pair l hst k e1 h).1⟩
def qsX8_pair : SP := fun as F A K => match as with
  | [.inr (.inr o), .inl c, .inl e, .inl k] => cond (Nat.beq o 0) ((fgOK (A 2) ∧ (-2147483648 ≤ c ∧ c < 2147483648) ∧ (-2147483648 ≤ e ∧ e < 2147483648) ∧ (-2147483648 ≤ k ∧ k < 2147483648) ∧ caAll A ∧ (∀ jj, -2 ≤ A 20 jj ∧ A 20 jj < 5000)) ∧ (((0 ≤ c ∧ c < A 2 0) ∧ 0 ≤ e ∧ e < A 2 0 → (∀ (G_1 : FF) (B_1 : AA), (mkP F G_1 A B_1 c e (A 2 3)) → (K (some (some (vI (pkR (B_1 20) (p2 (A 2 3)) k)))) G_1 B_1))) ∧ (¬ ((0 ≤ c ∧ c < A 2 0) ∧ 0 ≤ e ∧ e < A 2 0) → (K none F A)))) (False)
  | _ => False
def qeX8_pair : CE := (yX8_pair, cX8_pair, 4, (some .int), 3, some 8, 1, [], 2, 17, qsX8_pair)
theorem qbX8_pair : am_mb qeX8_pair := ⟨am_tb_at 1284 (by decide +kernel) rfl, am_tb_at 114 (by decide +kernel) rfl, ⟨by decide, by decide, by decide +kernel⟩, by decide, by decide, am_tb_at 1282 (by decide +kernel) rfl, am_tb_at 1283 (by decide +kernel) rfl, _, _, rfl⟩
set_option maxRecDepth 20000 in
theorem qvX8_pair_0 (c : Int) (e : Int) (k : Int) (F : FF) (A : AA) (K : KK) (h : (fgOK (A 2) ∧ (-2147483648 ≤ c ∧ c < 2147483648) ∧ (-2147483648 ≤ e ∧ e < 2147483648) ∧ (-2147483648 ≤ k ∧ k < 2147483648) ∧ caAll A ∧ (∀ jj, -2 ≤ A 20 jj ∧ A 20 jj < 5000)) ∧ (((0 ≤ c ∧ c < A 2 0) ∧ 0 ≤ e ∧ e < A 2 0 → (∀ (G_1 : FF) (B_1 : AA), (mkP F G_1 A B_1 c e (A 2 3)) → (K (some (some (vI (pkR (B_1 20) (p2 (A 2 3)) k)))) G_1 B_1))) ∧ (¬ ((0 ≤ c ∧ c < A 2 0) ∧ 0 ≤ e ∧ e < A 2 0) → (K none F A)))) : am_line qxX8_pair 14 [vR 0, vI c, vI e, vI k] 4 F A K := by
  show am_stp qxX8_pair (am_run qxX8_pair (fun _ => none) (fun _ _ _ _ _ _ => False) K 14) K 0 [some (vR 0), some (vI c), some (vI e), some (vI k)] [] F A 0
  obtain ⟨hp, h⟩ := h
  have p1 := hp.1
  have q1 := p1.1.1
  have q2 := p1.1.2
  have q5 := p1.2.1.2
  show ((0 ≤ A 2 0 ∧ A 2 0 ≤ 8) ∧ (0 ≤ A 2 1 ∧ A 2 1 ≤ 6) ∧ (-2147483648 ≤ c ∧ c < 2147483648) ∧ (-2147483648 ≤ e ∧ e < 2147483648)) ∧ (((0 ≤ c ∧ c < A 2 0) ∧ 0 ≤ e ∧ e < A 2 0 → ((fgOK (A 2) ∧ (0 ≤ c ∧ c < A 2 0) ∧ (0 ≤ e ∧ e < A 2 0) ∧ caAll A) ∧ (∀ (G_1 : FF) (B_1 : AA), (mkP F G_1 A B_1 c e (A 2 3)) → (((0 ≤ (G_1 19 3) ∧ (G_1 19 3) ≤ 6) ∧ (G_1 19 4) = p2 ((G_1 19 3)) ∧ (∀ i, 0 ≤ i → i < (G_1 19 4) * (G_1 19 4) → -2 ≤ B_1 20 i ∧ B_1 20 i < 5000) ∧ -2147483648 ≤ k ∧ k < 2147483648) ∧ (K (some (some (vI (pkR (B_1 20) ((G_1 19 4)) k)))) G_1 B_1))))) ∧ (¬ ((0 ≤ c ∧ c < A 2 0) ∧ 0 ≤ e ∧ e < A 2 0) → (K none F A)))
  refine ⟨by exact ⟨p1.1.1, p1.1.2, hp.2.1, hp.2.2.1⟩, ?_⟩
  refine ⟨fun c1 => ?_, fun c1 => ?_⟩
  · skip
    (try simp (disch := omega) only [w32_0, wbi0, Classical.not_not, w32_id] at c1)
    refine ⟨by exact ⟨p1, c1.1, c1.2, hp.2.2.2.2.1⟩, ?_⟩
    intro G_1 B_1 g1
    refine ⟨by (have w := g1.2.2.2.2 hp.2.2.2.2.2; rw [g1.2.1.2, g1.2.1.1]; exact ⟨⟨by omega, q5.2⟩, rfl, fun i _ _ => w i, hp.2.2.2.1⟩), ?_⟩
    exact K_eq (h.1 c1 _ _ g1) (by rw [g1.2.1.2])
  · skip
    (try simp (disch := omega) only [w32_0, wbi0, Classical.not_not, w32_id] at c1)
    exact h.2 c1
theorem qtX8_pair (l : Launch) (hst : l.stackTraces = false) : am_CT l layX qeX8_pair := am_met1 hst rfl (by decide +kernel) rfl rfl rfl rfl rfl (fun _ _ h => by cases h) rfl (qzX8_pair l hst) (fun as F A K h => by
  replace h : qsX8_pair as F A K := h
  unfold qsX8_pair at h
  split at h
  · rename_i o c e k
    refine ⟨by first | exact Nat.le_of_ble_eq_true rfl | simp [am_fl, am_cat], ?_⟩
    replace h := am_cond2 h
    rcases h with ⟨hb, h⟩ | h
    · skip
      have hb0 := hb
      have hb0 := am_bq hb0
      subst hb0
      exact am_way_line (qvX8_pair_0 c e k F A K h)
    exact h.elim
  · exact h.elim)
