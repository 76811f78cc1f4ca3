def qkL_degree : Nat → Option CI := fun pc => cond (Nat.ble 17 pc) none (cond (Nat.ble 8 pc) (cond (Nat.ble 13 pc) (cond (Nat.ble 15 pc) (cond (Nat.beq pc 15) (some (.iconst 0, 16, [])) (cond (Nat.beq pc 16) (some (.ireturn, 17, [])) (none))) (cond (Nat.beq pc 13) (some (.iconst 1, 14, [])) (cond (Nat.beq pc 14) (some (.ireturn, 15, [])) (none)))) (cond (Nat.beq pc 8) (some (.lastore, 9, [])) (cond (Nat.beq pc 9) (some (.goto 6, 12, [15])) (cond (Nat.beq pc 12) (some (.astore_n 3, 13, [])) (none))))) (cond (Nat.ble 3 pc) (cond (Nat.beq pc 3) (some (.iload_n 1, 4, [])) (cond (Nat.beq pc 4) (some (.invokevirtual 7, 7, [])) (cond (Nat.beq pc 7) (some (.i2l, 8, [])) (none)))) (cond (Nat.beq pc 0) (some (.aload_n 2, 1, [])) (cond (Nat.beq pc 1) (some (.iconst 0, 2, [])) (cond (Nat.beq pc 2) (some (.aload_n 0, 3, [])) (none))))))
theorem qkL_degree_ok : ∀ pc i nx ts, qkL_degree pc = some (i, nx, ts) → am_cok cL_degree pc (i, nx, ts) = true := fun pc i nx ts h => am_tok_ok (n := 17) (by decide +kernel) (fun pc h => by show cond (Nat.ble 17 pc) _ _ = _; rw [Nat.ble_eq_true_of_le h]; rfl) h
def qaL_degree : Nat → Option CE := fun k => cond (Nat.beq k 7) (some qeX8_degree) (none)
theorem qyL_degree (l : Launch) (hst : l.stackTraces = false) : ∀ k e1, qaL_degree k = some e1 → am_cal l layL RL 11 k e1 ∧ True := q_cons ⟨am_calV (ci := 8) (am_CT_mono layX_L (qtX8_degree l hst)) qbX8_degree (by decide) rfl (am_tb_at 837 (by decide +kernel) rfl), trivial⟩ (q_nil)
def qxL_degree : CX := (qkL_degree, layL, qfL, qaL_degree, qcL, qlL, qmL, (some .int), false, (some 13), 1, none, fun _ => none)
theorem qzL_degree (l : Launch) (hst : l.stackTraces = false) : am_sta l qxL_degree RL 11 cL_degree := ⟨qkL_degree_ok, layL_ok, qfL_ok, qcL_ok, qlL_ok, am_mthP qmL_ok (by decide), fun k e1 h => (qyL_degree l hst k e1 h).1⟩
def qsL_degree : SP := fun as F A K => match as with
  | [.inr (.inr x), .inl c, .inr (.inr o)] => cond (Nat.beq x 0 && Nat.beq o 43) (((0 ≤ A 2 0 ∧ A 2 0 ≤ 8) ∧ (0 ≤ A 2 1 ∧ A 2 1 ≤ 6) ∧ (-2147483648 ≤ c ∧ c < 2147483648)) ∧ ((0 ≤ c ∧ c < A 2 0 → (K (some (some (vI 0))) F (upA A 43 (w32 0) (w32 (A 2 (18 + c) - 1))))) ∧ (¬ (0 ≤ c ∧ c < A 2 0) → (K (some (some (vI 1))) F A)))) (False)
  | _ => False
def qeL_degree : CE := (yL_degree, cL_degree, 4, (some .int), 3, none, 2, [(0, 9, 12, 13)], 1, 11, qsL_degree)
theorem qbL_degree : am_mb qeL_degree := ⟨am_tb_at 835 (by decide +kernel) rfl, am_tb_at 113 (by decide +kernel) rfl, ⟨by decide, by decide, by decide +kernel⟩, by decide, am_tb_at 834 (by decide +kernel) rfl⟩
set_option maxRecDepth 20000 in
theorem qvL_degree_0_43 (c : Int) (F : FF) (A : AA) (K : KK) (h : ((0 ≤ A 2 0 ∧ A 2 0 ≤ 8) ∧ (0 ≤ A 2 1 ∧ A 2 1 ≤ 6) ∧ (-2147483648 ≤ c ∧ c < 2147483648)) ∧ ((0 ≤ c ∧ c < A 2 0 → (K (some (some (vI 0))) F (upA A 43 (w32 0) (w32 (A 2 (18 + c) - 1))))) ∧ (¬ (0 ≤ c ∧ c < A 2 0) → (K (some (some (vI 1))) F A)))) : am_line qxL_degree 11 [vR 0, vI c, vR 43] 4 F A K := by
  show am_stp qxL_degree (am_run qxL_degree (fun _ => none) (fun _ _ _ _ _ _ => False) K 11) K 0 [some (vR 0), some (vI c), some (vR 43), none] [] F A 0
  obtain ⟨hp, h⟩ := h
  show ((0 ≤ A 2 0 ∧ A 2 0 ≤ 8) ∧ (0 ≤ A 2 1 ∧ A 2 1 ≤ 6) ∧ (-2147483648 ≤ c ∧ c < 2147483648)) ∧ ((0 ≤ c ∧ c < A 2 0 → ((0 ≤ w32 0 ∧ w32 0 < 1) ∧ (K (some (some (vI 0))) F (upA A 43 (w32 0) (w32 (A 2 (18 + c) - 1)))))) ∧ (¬ (0 ≤ c ∧ c < A 2 0) → (K (some (some (vI 1))) F A)))
  refine ⟨by exact hp, ?_⟩
  refine ⟨fun c1 => ?_, fun c1 => ?_⟩
  · skip
    skip
    refine ⟨by exact ⟨by decide, by decide⟩, ?_⟩
    exact h.1 c1
  · skip
    skip
    exact h.2 c1
theorem qtL_degree (l : Launch) (hst : l.stackTraces = false) : am_CT l layL qeL_degree := am_met2 (hp := 12) (hn := 13) (i := 3) (en := 9) rfl (by decide +kernel) rfl rfl rfl rfl rfl rfl (Or.inr ⟨3, rfl, by decide +kernel, rfl⟩) (by decide) (dc_cov (n := 17) (by decide +kernel) (by decide +kernel)) (fun _ => rfl) rfl (qzL_degree l hst) (fun as F A K h => by
  replace h : qsL_degree as F A K := h
  unfold qsL_degree at h
  split at h
  · rename_i x c o
    refine ⟨by first | exact Nat.le_of_ble_eq_true rfl | simp [am_fl, am_cat], ?_⟩
    replace h := am_cond2 h
    rcases h with ⟨hb, h⟩ | h
    · simp only [Bool.and_eq_true] at hb
      obtain ⟨hb0, hb1⟩ := hb
      have hb0 := am_bq hb0
      subst hb0
      have hb1 := am_bq hb1
      subst hb1
      exact am_way_line (qvL_degree_0_43 c F A K h)
    exact h.elim
  · exact h.elim)
