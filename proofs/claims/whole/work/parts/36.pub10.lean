def qkX8_prepareClipping : Nat → Option CI := fun pc => cond (Nat.ble 36 pc) none (cond (Nat.ble 18 pc) (cond (Nat.ble 29 pc) (cond (Nat.ble 31 pc) (cond (Nat.beq pc 31) (some (.invokevirtual 153, 34, [])) (cond (Nat.beq pc 34) (some (.iload_n 3, 35, [])) (cond (Nat.beq pc 35) (some (.ireturn, 36, [])) (none)))) (cond (Nat.beq pc 29) (some (.iload_n 1, 30, [])) (cond (Nat.beq pc 30) (some (.iload_n 3, 31, [])) (none)))) (cond (Nat.ble 22 pc) (cond (Nat.beq pc 22) (some (.getfield 36, 25, [])) (cond (Nat.beq pc 25) (some (.aload_n 0, 26, [])) (cond (Nat.beq pc 26) (some (.getfield 10, 29, [])) (none)))) (cond (Nat.beq pc 18) (some (.invokevirtual 254, 21, [])) (cond (Nat.beq pc 21) (some (.aload_n 0, 22, [])) (none))))) (cond (Nat.ble 9 pc) (cond (Nat.ble 13 pc) (cond (Nat.beq pc 13) (some (.aload_n 0, 14, [])) (cond (Nat.beq pc 14) (some (.getfield 10, 17, [])) (cond (Nat.beq pc 17) (some (.iload_n 2, 18, [])) (none)))) (cond (Nat.beq pc 9) (some (.aload_n 0, 10, [])) (cond (Nat.beq pc 10) (some (.getfield 64, 13, [])) (none)))) (cond (Nat.ble 4 pc) (cond (Nat.beq pc 4) (some (.iconst 1, 5, [])) (cond (Nat.beq pc 5) (some (.invokevirtual 120, 8, [])) (cond (Nat.beq pc 8) (some (.istore_n 3, 9, [])) (none)))) (cond (Nat.beq pc 0) (some (.aload_n 0, 1, [])) (cond (Nat.beq pc 1) (some (.getfield 10, 4, [])) (none))))))
theorem qkX8_prepareClipping_ok : ∀ pc i nx ts, qkX8_prepareClipping pc = some (i, nx, ts) → am_cok cX8_prepareClipping pc (i, nx, ts) = true := fun pc i nx ts h => am_tok_ok (n := 36) (by decide +kernel) (fun pc h => by show cond (Nat.ble 36 pc) _ _ = _; rw [Nat.ble_eq_true_of_le h]; rfl) h
def qaX8_prepareClipping : Nat → Option CE := fun k => cond (Nat.beq k 120) (some qeX2_setting) (cond (Nat.beq k 254) (some qeX0_span) (cond (Nat.beq k 153) (some qeX1_grow) (none)))
theorem qyX8_prepareClipping (l : Launch) : ∀ k e1, qaX8_prepareClipping k = some e1 → am_cal l layX RX8 9 k e1 ∧ ceT e1 = 0 := q_cons ⟨am_calV (ci := 2) (qtX2_setting l) qbX2_setting (by decide) rfl (am_tb_at 565 (by decide +kernel) rfl), rfl⟩ (q_cons ⟨am_calV (ci := 0) (qtX0_span l) qbX0_span (by decide) rfl (am_tb_at 1188 (by decide +kernel) rfl), rfl⟩ (q_cons ⟨am_calV (ci := 1) (qtX1_grow l) qbX1_grow (by decide) rfl (am_tb_at 663 (by decide +kernel) rfl), rfl⟩ (q_nil)))
def qxX8_prepareClipping : CX := (qkX8_prepareClipping, layX, qfX8, qaX8_prepareClipping, qcX8, qlX8, qmX8, (some .int), false, none, 0, none, fun _ => none)
theorem qzX8_prepareClipping (l : Launch) : am_sta l qxX8_prepareClipping RX8 9 cX8_prepareClipping := ⟨qkX8_prepareClipping_ok, layX_ok, qfX8_ok, qcX8_ok, qlX8_ok, am_mthP qmX8_ok (by decide), fun k e1 h => (qyX8_prepareClipping l k e1 h).1⟩
def qsX8_prepareClipping : SP := fun as F A K => match as with
  | [.inr (.inr o), .inl c, .inl e] => cond (Nat.beq o 0) ((fgOK (A 2) ∧ (0 ≤ c ∧ c < A 2 0) ∧ (0 ≤ e ∧ e < A 2 0) ∧ caAll A) ∧ (∀ (G_1 : FF) (B_1 : AA), ((∀ a b, a ≠ 24 → G_1 a b = F a b) ∧ bnP G_1 (A 2) e ∧ grQ A B_1 c (A 2 3)) → (K (some (some (vI (A 2 3)))) G_1 B_1))) (False)
  | _ => False
def qeX8_prepareClipping : CE := (yX8_prepareClipping, cX8_prepareClipping, 4, (some .int), 2, some 8, 0, [], 0, 9, qsX8_prepareClipping)
theorem qbX8_prepareClipping : am_mb qeX8_prepareClipping := ⟨am_tb_at 1229 (by decide +kernel) rfl, am_tb_at 114 (by decide +kernel) rfl, ⟨by decide, by decide, by decide +kernel⟩, by decide, by decide, am_tb_at 1228 (by decide +kernel) rfl, am_tb_at 39 (by decide +kernel) rfl, _, _, rfl⟩
set_option maxRecDepth 20000 in
theorem qvX8_prepareClipping_0 (c : Int) (e : Int) (F : FF) (A : AA) (K : KK) (h : (fgOK (A 2) ∧ (0 ≤ c ∧ c < A 2 0) ∧ (0 ≤ e ∧ e < A 2 0) ∧ caAll A) ∧ (∀ (G_1 : FF) (B_1 : AA), ((∀ a b, a ≠ 24 → G_1 a b = F a b) ∧ bnP G_1 (A 2) e ∧ grQ A B_1 c (A 2 3)) → (K (some (some (vI (A 2 3)))) G_1 B_1))) : am_line qxX8_prepareClipping 21 [vR 0, vI c, vI e] 4 F A K := by
  show am_stp qxX8_prepareClipping (am_run qxX8_prepareClipping (fun _ => none) (fun _ _ _ _ _ _ => False) K 21) K 0 [some (vR 0), some (vI c), some (vI e), none] [] F A 0
  obtain ⟨hp, h⟩ := h
  have q1 := hp.1.1.1
  have q2 := hp.1.2.1
  have q3 := (hp.1.2.2.1 c hp.2.1.1 hp.2.1.2).1
  have q4 := (hp.1.2.2.1 e hp.2.2.1.1 hp.2.2.1.2).1
  have ca := hp.2.2.2 c hp.2.1.1 (by omega)
  have cb := hp.2.2.2 e hp.2.2.1.1 (by omega)
  have ft : fat (A 2) (2 + 1) = A 2 3 := by first | (simp (disch := omega) only [fat_in]; done) | (simp (disch := omega) only [fat_in]; rfl)
  show (0 ≤ e ∧ e < 8 ∧ 2 ≤ A 2 (18 + e) ∧ A 2 (18 + e) ≤ 4) ∧ (∀ (G_1 : FF), ((∀ a b, a ≠ 24 → G_1 a b = F a b) ∧ bnP G_1 (A 2) e) → ((0 ≤ c ∧ c < 8 ∧ 2 ≤ A 2 (18 + c) ∧ A 2 (18 + c) ≤ 4 ∧ 0 ≤ (fat (A 2) (2 + 1)) ∧ (fat (A 2) (2 + 1)) ≤ 6 ∧ caOK A c) ∧ (∀ (B_2 : AA), (grQ A B_2 c (fat (A 2) (2 + 1))) → (K (some (some (vI (fat (A 2) (2 + 1))))) G_1 B_2))))
  refine ⟨by first | omega | (try rw [ft]; exact ⟨by omega, by omega, by omega, by omega, by omega, by omega, ca⟩), ?_⟩
  intro G_1 g1
  refine ⟨by first | omega | (try rw [ft]; exact ⟨by omega, by omega, by omega, by omega, by omega, by omega, ca⟩), ?_⟩
  intro B_2 g2
  try rw [ft] at g2
  exact K_eq (h _ _ ⟨g1.1, g1.2, g2⟩) (by first | rfl | exact ft)
theorem qtX8_prepareClipping (l : Launch) : am_CT l layX qeX8_prepareClipping := am_met0 rfl (by decide +kernel) rfl rfl rfl rfl rfl (fun _ => rfl) rfl (qzX8_prepareClipping l) (fun k e1 h => (qyX8_prepareClipping l k e1 h).2) (fun as F A K h => by
  replace h : qsX8_prepareClipping as F A K := h
  unfold qsX8_prepareClipping at h
  split at h
  · rename_i o c e
    refine ⟨by first | exact Nat.le_of_ble_eq_true rfl | simp [am_fl, am_cat], ?_⟩
    replace h := am_cond2 h
    rcases h with ⟨hb, h⟩ | h
    · skip
      have hb0 := hb
      have hb0 := am_bq hb0
      subst hb0
      exact am_way_line (qvX8_prepareClipping_0 c e F A K h)
    exact h.elim
  · exact h.elim)
