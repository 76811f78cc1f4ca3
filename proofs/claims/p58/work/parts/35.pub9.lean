def qkX8_signChanges : Nat → Option CI := fun pc => cond (Nat.ble 43 pc) none (cond (Nat.ble 20 pc) (cond (Nat.ble 32 pc) (cond (Nat.ble 37 pc) (cond (Nat.beq pc 37) (some (.iload 4, 39, [])) (cond (Nat.beq pc 39) (some (.invokevirtual 202, 42, [])) (cond (Nat.beq pc 42) (some (.ireturn, 43, [])) (none)))) (cond (Nat.beq pc 32) (some (.aload_n 0, 33, [])) (cond (Nat.beq pc 33) (some (.getfield 43, 36, [])) (cond (Nat.beq pc 36) (some (.iload_n 3, 37, [])) (none))))) (cond (Nat.ble 27 pc) (cond (Nat.beq pc 27) (some (.iload_n 1, 28, [])) (cond (Nat.beq pc 28) (some (.iload_n 2, 29, [])) (cond (Nat.beq pc 29) (some (.invokevirtual 199, 32, [])) (none)))) (cond (Nat.beq pc 20) (some (.getfield 43, 23, [])) (cond (Nat.beq pc 23) (some (.aload_n 0, 24, [])) (cond (Nat.beq pc 24) (some (.getfield 10, 27, [])) (none)))))) (cond (Nat.ble 9 pc) (cond (Nat.ble 17 pc) (cond (Nat.beq pc 17) (some (.iconst (-1), 18, [])) (cond (Nat.beq pc 18) (some (.ireturn, 19, [])) (cond (Nat.beq pc 19) (some (.aload_n 0, 20, [])) (none)))) (cond (Nat.beq pc 9) (some (.bipush 12, 11, [])) (cond (Nat.beq pc 11) (some (.invokestatic 148, 14, [])) (cond (Nat.beq pc 14) (some (.ifCond .ne 5, 17, [19])) (none))))) (cond (Nat.ble 3 pc) (cond (Nat.beq pc 3) (some (.invokevirtual 191, 6, [])) (cond (Nat.beq pc 6) (some (.iload_n 3, 7, [])) (cond (Nat.beq pc 7) (some (.iload 4, 9, [])) (none)))) (cond (Nat.beq pc 0) (some (.aload_n 0, 1, [])) (cond (Nat.beq pc 1) (some (.iload_n 1, 2, [])) (cond (Nat.beq pc 2) (some (.iload_n 2, 3, [])) (none)))))))
theorem qkX8_signChanges_ok : ∀ pc i nx ts, qkX8_signChanges pc = some (i, nx, ts) → am_cok cX8_signChanges pc (i, nx, ts) = true := fun pc i nx ts h => am_tok_ok (n := 43) (by decide +kernel) (fun pc h => by show cond (Nat.ble 43 pc) _ _ = _; rw [Nat.ble_eq_true_of_le h]; rfl) h
def qaX8_signChanges : Nat → Option CE := fun k => cond (Nat.beq k 191) (some qeX8_requireCurveAndLine) (cond (Nat.beq k 148) (some qeX8_isCell) (cond (Nat.beq k 199) (some qeX5_begin) (cond (Nat.beq k 202) (some qeX5_changesOfCell) (none))))
theorem qyX8_signChanges (l : Launch) (hst : l.stackTraces = false) : ∀ k e1, qaX8_signChanges k = some e1 → am_cal l layX RX8 11 k e1 ∧ True := q_cons ⟨am_calV (ci := 8) (qtX8_requireCurveAndLine l hst) qbX8_requireCurveAndLine (by decide) rfl (am_tb_at 1099 (by decide +kernel) rfl), trivial⟩ (q_cons ⟨am_calS (qtX8_isCell l) qbX8_isCell (by decide) rfl (by decide) (am_tb_at 992 (by decide +kernel) rfl), trivial⟩ (q_cons ⟨am_calV (ci := 5) (qtX5_begin l) qbX5_begin (by decide) rfl (am_tb_at 942 (by decide +kernel) rfl), trivial⟩ (q_cons ⟨am_calV (ci := 5) (qtX5_changesOfCell l) qbX5_changesOfCell (by decide) rfl (am_tb_at 1226 (by decide +kernel) rfl), trivial⟩ (q_nil))))
def qxX8_signChanges : CX := (qkX8_signChanges, layX, qfX8, qaX8_signChanges, qcX8, qlX8, qmX8, (some .int), true, none, 2, none, fun _ => none)
theorem qzX8_signChanges (l : Launch) (hst : l.stackTraces = false) : am_sta l qxX8_signChanges RX8 11 cX8_signChanges := ⟨qkX8_signChanges_ok, layX_ok, qfX8_ok, qcX8_ok, qlX8_ok, am_mthP qmX8_ok (by decide), fun k e1 h => (qyX8_signChanges l hst k e1 h).1⟩
def qsX8_signChanges : SP := fun as F A K => match as with
  | [.inr (.inr o), .inl c, .inl l, .inl d, .inl q] => cond (Nat.beq o 0) ((fgOK (A 2) ∧ (-2147483648 ≤ c ∧ c < 2147483648) ∧ (-2147483648 ≤ l ∧ l < 2147483648) ∧ (-2147483648 ≤ d ∧ d < 2147483648) ∧ (-2147483648 ≤ q ∧ q < 2147483648)) ∧ (((0 ≤ c ∧ c < A 2 0) ∧ 0 ≤ l ∧ l < A 2 1 → (∀ (G_1 : FF) (B_1 : AA), (qrP F G_1 A B_1) → (K (some (some (vI (if 0 ≤ d ∧ d ≤ 12 ∧ 0 ≤ q ∧ q < p2 d then chg (cellF (cfL (A 2) c l) (A 2 (18 + c) - 1) (Int.toNat d) q) (Int.toNat (A 2 (18 + c))) else -1)))) G_1 B_1))) ∧ (¬ ((0 ≤ c ∧ c < A 2 0) ∧ 0 ≤ l ∧ l < A 2 1) → (K none F A)))) (False)
  | _ => False
def qeX8_signChanges : CE := (yX8_signChanges, cX8_signChanges, 5, (some .int), 4, some 8, 1, none, 2, 11, qsX8_signChanges)
theorem qbX8_signChanges : am_mb qeX8_signChanges := ⟨am_tb_at 1225 (by decide +kernel) rfl, am_tb_at 35 (by decide +kernel) rfl, ⟨by decide, by decide, by decide +kernel⟩, by decide, am_tb_at 1223 (by decide +kernel) rfl, am_tb_at 1224 (by decide +kernel) rfl, _, _, rfl⟩
set_option maxRecDepth 20000 in
theorem qvX8_signChanges_0 (c : Int) (l : Int) (d : Int) (q : Int) (F : FF) (A : AA) (K : KK) (h : (fgOK (A 2) ∧ (-2147483648 ≤ c ∧ c < 2147483648) ∧ (-2147483648 ≤ l ∧ l < 2147483648) ∧ (-2147483648 ≤ d ∧ d < 2147483648) ∧ (-2147483648 ≤ q ∧ q < 2147483648)) ∧ (((0 ≤ c ∧ c < A 2 0) ∧ 0 ≤ l ∧ l < A 2 1 → (∀ (G_1 : FF) (B_1 : AA), (qrP F G_1 A B_1) → (K (some (some (vI (if 0 ≤ d ∧ d ≤ 12 ∧ 0 ≤ q ∧ q < p2 d then chg (cellF (cfL (A 2) c l) (A 2 (18 + c) - 1) (Int.toNat d) q) (Int.toNat (A 2 (18 + c))) else -1)))) G_1 B_1))) ∧ (¬ ((0 ≤ c ∧ c < A 2 0) ∧ 0 ≤ l ∧ l < A 2 1) → (K none F A)))) : am_line qxX8_signChanges 23 [vR 0, vI c, vI l, vI d, vI q] 5 F A K := by
  show am_stp qxX8_signChanges (am_run qxX8_signChanges (fun _ => none) (fun _ _ _ _ _ _ => False) K 23) K 0 [some (vR 0), some (vI c), some (vI l), some (vI d), some (vI q)] [] F A 0
  obtain ⟨hp, h⟩ := h
  have p1 := hp.1
  have p2' := hp.2
  have q1 := p1.1.1
  have q2 := p1.1.2
  show ((0 ≤ A 2 0 ∧ A 2 0 ≤ 8) ∧ (0 ≤ A 2 1 ∧ A 2 1 ≤ 6) ∧ (-2147483648 ≤ c ∧ c < 2147483648) ∧ (-2147483648 ≤ l ∧ l < 2147483648)) ∧ (((0 ≤ c ∧ c < A 2 0) ∧ 0 ≤ l ∧ l < A 2 1 → ((0 ≤ 12 ∧ 12 ≤ 12) ∧ ((w32 (bi (0 ≤ w32 d ∧ w32 d ≤ 12 ∧ 0 ≤ w32 q ∧ w32 q < p2 (w32 d))) = w32 0 → (K (some (some (vI (-1)))) F A)) ∧ (¬ (w32 (bi (0 ≤ w32 d ∧ w32 d ≤ 12 ∧ 0 ≤ w32 q ∧ w32 q < p2 (w32 d))) = w32 0) → ((0 ≤ c ∧ c < 8 ∧ 0 ≤ l ∧ l < 6 ∧ 1 ≤ A 2 (18 + c) ∧ A 2 (18 + c) ≤ 4) ∧ (((0 ≤ (A 2 (18 + c) - 1) ∧ (A 2 (18 + c) - 1) ≤ 3) ∧ 0 ≤ d ∧ d ≤ 12 ∧ 0 ≤ q ∧ q < 2147483648) ∧ (∀ (B_1 : AA), (gtP (setR A 15 0 (A 2 (18 + c)) (fun jj => cfX (A 2) c l jj)) B_1 ((A 2 (18 + c) - 1)) d q) → (K (some (some (vI (chg (cellF ((setR A 15 0 (A 2 (18 + c)) (fun jj => cfX (A 2) c l jj)) 15) ((A 2 (18 + c) - 1)) (Int.toNat d) q) (Int.toNat ((A 2 (18 + c) - 1) + 1)))))) (upF F 14 4 (A 2 (18 + c) - 1)) B_1)))))))) ∧ (¬ ((0 ≤ c ∧ c < A 2 0) ∧ 0 ≤ l ∧ l < A 2 1) → (K none F A)))
  refine ⟨by exact ⟨p1.1.1, p1.1.2, hp.2.1, hp.2.2.1⟩, ?_⟩
  refine ⟨fun c1 => ?_, fun c1 => ?_⟩
  · skip
    (try simp (disch := omega) only [w32_0, wbi0, Classical.not_not, w32_id] at c1)
    refine ⟨by (have q3 := (p1.2.2.1 c c1.1.1 c1.1.2).1; first | omega | (have q4 := p2_12' (k := d) (by omega); omega)), ?_⟩
    refine ⟨fun c2 => ?_, fun c2 => ?_⟩
    · skip
      (try simp (disch := omega) only [w32_0, wbi0, Classical.not_not, w32_id] at c2)
      exact K_eq (h.1 c1 _ _ qrP_id) (if_neg c2)
    · skip
      (try simp (disch := omega) only [w32_0, wbi0, Classical.not_not, w32_id] at c2)
      refine ⟨by (have q3 := (p1.2.2.1 c c1.1.1 c1.1.2).1; first | omega | (have q4 := p2_12' (k := d) (by omega); omega)), ?_⟩
      refine ⟨by (have q3 := (p1.2.2.1 c c1.1.1 c1.1.2).1; first | omega | (have q4 := p2_12' (k := d) (by omega); omega)), ?_⟩
      intro B_1 g1
      have q3 := (p1.2.2.1 c c1.1.1 c1.1.2).1
      have s0 : ∀ k, 0 ≤ k → k < A 2 (18 + c) → setR A 15 0 (A 2 (18 + c)) (fun jj => cfX (A 2) c l jj) 15 k = cfX (A 2) c l k := fun k k0 k1 => by rw [setR_in k0 (by omega), Int.sub_zero]
      have qb : qrP F (upF F 14 4 (A 2 (18 + c) - 1)) A (setR A 15 0 (A 2 (18 + c)) (fun jj => cfX (A 2) c l jj)) := qrP_of (fun a b hab => upF_o (by omega)) (fun b i hb => setR_o (by omega))
      refine K_eq (h.1 c1 _ _ (qrP_trans qb (qrP_of (fun _ _ _ => rfl) (fun b i hb => g1.1 b i (Or.inl (by omega)))))) ?_
      rw [if_pos c2, show A 2 (18 + c) - 1 + 1 = A 2 (18 + c) by omega]
      exact chg_c (fun k k0 k1 => cellF_c (fun i i0 i1 => (s0 i i0 (by omega)).symm) _ _ _ k0 (by omega))
  · skip
    (try simp (disch := omega) only [w32_0, wbi0, Classical.not_not, w32_id] at c1)
    exact h.2 c1
theorem qtX8_signChanges (l : Launch) (hst : l.stackTraces = false) : am_CT l layX qeX8_signChanges := am_met1 hst rfl (by decide +kernel) rfl rfl rfl rfl rfl (fun _ _ h => by cases h) rfl (qzX8_signChanges l hst) (fun as F A K h => by
  replace h : qsX8_signChanges as F A K := h
  unfold qsX8_signChanges at h
  split at h
  · rename_i o c l d q
    refine ⟨by first | exact Nat.le_of_ble_eq_true rfl | simp [am_fl, am_cat], ?_⟩
    replace h := am_cond2 h
    rcases h with ⟨hb, h⟩ | h
    · skip
      have hb0 := hb
      have hb0 := am_bq hb0
      subst hb0
      exact am_way_line (qvX8_signChanges_0 c l d q F A K h)
    exact h.elim
  · exact h.elim)
