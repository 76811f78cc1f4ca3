def qkX8_markPairs : Nat → Option CI := fun pc => cond (Nat.ble 50 pc) none (cond (Nat.ble 26 pc) (cond (Nat.ble 39 pc) (cond (Nat.ble 44 pc) (cond (Nat.ble 46 pc) (cond (Nat.beq pc 46) (some (.invokevirtual 289, 49, [])) (cond (Nat.beq pc 49) (some (.return_, 50, [])) (none))) (cond (Nat.beq pc 44) (some (.iload_n 2, 45, [])) (cond (Nat.beq pc 45) (some (.iload_n 3, 46, [])) (none)))) (cond (Nat.beq pc 39) (some (.aload_n 0, 40, [])) (cond (Nat.beq pc 40) (some (.getfield 36, 43, [])) (cond (Nat.beq pc 43) (some (.iload_n 1, 44, [])) (none))))) (cond (Nat.ble 31 pc) (cond (Nat.ble 35 pc) (cond (Nat.beq pc 35) (some (.aload_n 0, 36, [])) (cond (Nat.beq pc 36) (some (.getfield 50, 39, [])) (none))) (cond (Nat.beq pc 31) (some (.iload_n 3, 32, [])) (cond (Nat.beq pc 32) (some (.invokevirtual 153, 35, [])) (none)))) (cond (Nat.beq pc 26) (some (.aload_n 0, 27, [])) (cond (Nat.beq pc 27) (some (.getfield 10, 30, [])) (cond (Nat.beq pc 30) (some (.iload_n 2, 31, [])) (none)))))) (cond (Nat.ble 13 pc) (cond (Nat.ble 18 pc) (cond (Nat.ble 22 pc) (cond (Nat.beq pc 22) (some (.aload_n 0, 23, [])) (cond (Nat.beq pc 23) (some (.getfield 36, 26, [])) (none))) (cond (Nat.beq pc 18) (some (.iload_n 3, 19, [])) (cond (Nat.beq pc 19) (some (.invokevirtual 153, 22, [])) (none)))) (cond (Nat.beq pc 13) (some (.aload_n 0, 14, [])) (cond (Nat.beq pc 14) (some (.getfield 10, 17, [])) (cond (Nat.beq pc 17) (some (.iload_n 1, 18, [])) (none))))) (cond (Nat.ble 5 pc) (cond (Nat.ble 9 pc) (cond (Nat.beq pc 9) (some (.aload_n 0, 10, [])) (cond (Nat.beq pc 10) (some (.getfield 36, 13, [])) (none))) (cond (Nat.beq pc 5) (some (.invokevirtual 120, 8, [])) (cond (Nat.beq pc 8) (some (.istore_n 3, 9, [])) (none)))) (cond (Nat.beq pc 0) (some (.aload_n 0, 1, [])) (cond (Nat.beq pc 1) (some (.getfield 10, 4, [])) (cond (Nat.beq pc 4) (some (.iconst 1, 5, [])) (none)))))))
theorem qkX8_markPairs_ok : ∀ pc i nx ts, qkX8_markPairs pc = some (i, nx, ts) → am_cok cX8_markPairs pc (i, nx, ts) = true := fun pc i nx ts h => am_tok_ok (n := 50) (by decide +kernel) (fun pc h => by show cond (Nat.ble 50 pc) _ _ = _; rw [Nat.ble_eq_true_of_le h]; rfl) h
def qaX8_markPairs : Nat → Option CE := fun k => cond (Nat.beq k 120) (some qeX2_setting) (cond (Nat.beq k 153) (some qeX1_grow) (cond (Nat.beq k 289) (some qeX6_mark) (none)))
theorem qyX8_markPairs (l : Launch) : ∀ k e1, qaX8_markPairs k = some e1 → am_cal l layX RX8 16 k e1 ∧ ceT e1 = 0 := q_cons ⟨am_calV (ci := 2) (qtX2_setting l) qbX2_setting (by decide) rfl (am_tb_at 565 (by decide +kernel) rfl), rfl⟩ (q_cons ⟨am_calV (ci := 1) (qtX1_grow l) qbX1_grow (by decide) rfl (am_tb_at 663 (by decide +kernel) rfl), rfl⟩ (q_cons ⟨am_calV (ci := 6) (qtX6_mark l) qbX6_mark (by decide) rfl (am_tb_at 1254 (by decide +kernel) rfl), rfl⟩ (q_nil)))
def qxX8_markPairs : CX := (qkX8_markPairs, layX, qfX8, qaX8_markPairs, qcX8, qlX8, qmX8, none, false, none, 0, none, fun _ => none)
theorem qzX8_markPairs (l : Launch) : am_sta l qxX8_markPairs RX8 16 cX8_markPairs := ⟨qkX8_markPairs_ok, layX_ok, qfX8_ok, qcX8_ok, qlX8_ok, am_mthP qmX8_ok (by decide), fun k e1 h => (qyX8_markPairs l k e1 h).1⟩
def qsX8_markPairs : SP := fun as F A K => match as with
  | [.inr (.inr o), .inl c, .inl e] => cond (Nat.beq o 0) ((fgOK (A 2) ∧ (0 ≤ c ∧ c < A 2 0) ∧ (0 ≤ e ∧ e < A 2 0) ∧ caAll A) ∧ (∀ (G_1 : FF) (B_1 : AA), (mkP F G_1 A B_1 c e (A 2 3)) → (K (some none) G_1 B_1))) (False)
  | _ => False
def qeX8_markPairs : CE := (yX8_markPairs, cX8_markPairs, 4, none, 2, some 8, 0, [], 0, 16, qsX8_markPairs)
theorem qbX8_markPairs : am_mb qeX8_markPairs := ⟨am_tb_at 1253 (by decide +kernel) rfl, am_tb_at 114 (by decide +kernel) rfl, ⟨by decide, by decide, by decide +kernel⟩, by decide, by decide, am_tb_at 1252 (by decide +kernel) rfl, am_tb_at 40 (by decide +kernel) rfl, _, _, rfl⟩
set_option maxRecDepth 20000 in
theorem qvX8_markPairs_0 (c : Int) (e : Int) (F : FF) (A : AA) (K : KK) (h : (fgOK (A 2) ∧ (0 ≤ c ∧ c < A 2 0) ∧ (0 ≤ e ∧ e < A 2 0) ∧ caAll A) ∧ (∀ (G_1 : FF) (B_1 : AA), (mkP F G_1 A B_1 c e (A 2 3)) → (K (some none) G_1 B_1))) : am_line qxX8_markPairs 29 [vR 0, vI c, vI e] 4 F A K := by
  show am_stp qxX8_markPairs (am_run qxX8_markPairs (fun _ => none) (fun _ _ _ _ _ _ => False) K 29) K 0 [some (vR 0), some (vI c), some (vI e), none] [] F A 0
  obtain ⟨hp, h⟩ := h
  have q1 := hp.1.1.1
  have q2 := hp.1.2.1
  have q3 := (hp.1.2.2.1 c hp.2.1.1 hp.2.1.2).1
  have q4 := (hp.1.2.2.1 e hp.2.2.1.1 hp.2.2.1.2).1
  have ca := hp.2.2.2 c hp.2.1.1 (by omega)
  have cb := hp.2.2.2 e hp.2.2.1.1 (by omega)
  have ft : fat (A 2) (2 + 1) = A 2 3 := by first | (simp (disch := omega) only [fat_in]; done) | (simp (disch := omega) only [fat_in]; rfl)
  show (0 ≤ c ∧ c < 8 ∧ 2 ≤ A 2 (18 + c) ∧ A 2 (18 + c) ≤ 4 ∧ 0 ≤ (fat (A 2) (2 + 1)) ∧ (fat (A 2) (2 + 1)) ≤ 6 ∧ caOK A c) ∧ (∀ (B_1 : AA), (grQ A B_1 c (fat (A 2) (2 + 1))) → ((0 ≤ e ∧ e < 8 ∧ 2 ≤ B_1 2 (18 + e) ∧ B_1 2 (18 + e) ≤ 4 ∧ 0 ≤ (fat (A 2) (2 + 1)) ∧ (fat (A 2) (2 + 1)) ≤ 6 ∧ caOK B_1 e) ∧ (∀ (B_2 : AA), (grQ B_1 B_2 e (fat (A 2) (2 + 1))) → (((0 ≤ (fat (A 2) (2 + 1)) ∧ (fat (A 2) (2 + 1)) ≤ 6) ∧ (0 ≤ c ∧ c < 8) ∧ (0 ≤ e ∧ e < 8) ∧ exR B_2 c (fat (A 2) (2 + 1)) ∧ exR B_2 e (fat (A 2) (2 + 1))) ∧ (∀ (G_3 : FF) (B_3 : AA), (G_3 = upF (upF (upF (upF F 19 3 (fat (A 2) (2 + 1))) 19 4 (p2 (fat (A 2) (2 + 1)))) 19 5 c) 19 6 e ∧ mk2 (fillA B_2 20 4096 (-2)) B_3 (p2 (fat (A 2) (2 + 1))) (prF (mtX B_2 c e) (fat (A 2) (2 + 1)) 7 0 0 0)) → (K (some none) G_3 B_3))))))
  refine ⟨by exact ⟨by omega, by omega, by omega, by omega, by rw [ft]; omega, by rw [ft]; omega, ca⟩, ?_⟩
  intro B_1 g1
  refine ⟨by first | omega | (rw [grQ_f g1]; exact ⟨by omega, by omega, by omega, by omega, by rw [ft]; omega, by rw [ft]; omega, caAll_gr g1 hp.2.2.2 e hp.2.2.1.1 (by omega)⟩) | (rw [ft] at g1 g2 ⊢; exact ⟨by omega, by omega, by omega, exR_ca (caAll_gr g2 (caAll_gr g1 hp.2.2.2) c hp.2.1.1 (by omega)) (grQ_2 g1 g2).1 (by rw [grQ_f g2, grQ_f g1]; omega), exR_ca (caAll_gr g2 (caAll_gr g1 hp.2.2.2) e hp.2.2.1.1 (by omega)) (grQ_2 g1 g2).2 (by rw [grQ_f g2, grQ_f g1]; omega)⟩), ?_⟩
  intro B_2 g2
  refine ⟨by first | omega | (rw [grQ_f g1]; exact ⟨by omega, by omega, by omega, by omega, by rw [ft]; omega, by rw [ft]; omega, caAll_gr g1 hp.2.2.2 e hp.2.2.1.1 (by omega)⟩) | (rw [ft] at g1 g2 ⊢; exact ⟨by omega, by omega, by omega, exR_ca (caAll_gr g2 (caAll_gr g1 hp.2.2.2) c hp.2.1.1 (by omega)) (grQ_2 g1 g2).1 (by rw [grQ_f g2, grQ_f g1]; omega), exR_ca (caAll_gr g2 (caAll_gr g1 hp.2.2.2) e hp.2.2.1.1 (by omega)) (grQ_2 g1 g2).2 (by rw [grQ_f g2, grQ_f g1]; omega)⟩), ?_⟩
  intro G_3 B_3 g3
  rw [ft] at g1 g2 g3
  exact h _ _ (mkP_of g1 g2 (by omega) (by omega) g3.1 g3.2)
theorem qtX8_markPairs (l : Launch) : am_CT l layX qeX8_markPairs := am_met0 rfl (by decide +kernel) rfl rfl rfl rfl rfl (fun _ => rfl) rfl (qzX8_markPairs l) (fun k e1 h => (qyX8_markPairs l k e1 h).2) (fun as F A K h => by
  replace h : qsX8_markPairs as F A K := h
  unfold qsX8_markPairs at h
  split at h
  · rename_i o c e
    refine ⟨by first | exact Nat.le_of_ble_eq_true rfl | simp [am_fl, am_cat], ?_⟩
    replace h := am_cond2 h
    rcases h with ⟨hb, h⟩ | h
    · skip
      have hb0 := hb
      have hb0 := am_bq hb0
      subst hb0
      exact am_way_line (qvX8_markPairs_0 c e F A K h)
    exact h.elim
  · exact h.elim)
