def qkX9_failsIf : Nat → Option CI := fun pc => cond (Nat.ble 26 pc) none (cond (Nat.ble 13 pc) (cond (Nat.ble 18 pc) (cond (Nat.ble 22 pc) (cond (Nat.beq pc 22) (some (.putfield 235, 25, [])) (cond (Nat.beq pc 25) (some (.return_, 26, [])) (none))) (cond (Nat.beq pc 18) (some (.aload_n 0, 19, [])) (cond (Nat.beq pc 19) (some (.getfield 201, 22, [])) (none)))) (cond (Nat.beq pc 13) (some (.iload_n 2, 14, [])) (cond (Nat.beq pc 14) (some (.putfield 232, 17, [])) (cond (Nat.beq pc 17) (some (.aload_n 0, 18, [])) (none))))) (cond (Nat.ble 7 pc) (cond (Nat.ble 11 pc) (cond (Nat.beq pc 11) (some (.return_, 12, [])) (cond (Nat.beq pc 12) (some (.aload_n 0, 13, [])) (none))) (cond (Nat.beq pc 7) (some (.iload_n 1, 8, [])) (cond (Nat.beq pc 8) (some (.ifCond .ne 4, 11, [12])) (none)))) (cond (Nat.beq pc 0) (some (.aload_n 0, 1, [])) (cond (Nat.beq pc 1) (some (.getfield 232, 4, [])) (cond (Nat.beq pc 4) (some (.ifCond .ne 7, 7, [11])) (none))))))
theorem qkX9_failsIf_ok : ∀ pc i nx ts, qkX9_failsIf pc = some (i, nx, ts) → am_cok cX9_failsIf pc (i, nx, ts) = true := fun pc i nx ts h => am_tok_ok (n := 26) (by decide +kernel) (fun pc h => by show cond (Nat.ble 26 pc) _ _ = _; rw [Nat.ble_eq_true_of_le h]; rfl) h
def qaX9_failsIf : Nat → Option CE := fun k => none
theorem qyX9_failsIf (l : Launch) : ∀ k e1, qaX9_failsIf k = some e1 → am_cal l layM RX9 3 k e1 ∧ ceT e1 = 0 := q_nil
def qxX9_failsIf : CX := (qkX9_failsIf, layM, qfX9, qaX9_failsIf, qcX9, qlX9, qmX9, none, false, none, 0, none, fun _ => none)
theorem qzX9_failsIf (l : Launch) : am_sta l qxX9_failsIf RX9 3 cX9_failsIf := ⟨qkX9_failsIf_ok, layM_ok, qfX9_ok, qcX9_ok, qlX9_ok, am_mthP qmX9_ok (by decide), fun k e1 h => (qyX9_failsIf l k e1 h).1⟩
def qsX9_failsIf : SP := fun as F A K => match as with
  | [.inr (.inr o), .inl z, .inl v] => cond (Nat.beq o 25) (((z = 0 ∨ z = 1) ∧ (-2147483648 ≤ (F 25 26) ∧ (F 25 26) < 2147483648)) ∧ (K (some none) (fiF F z v) A)) (False)
  | _ => False
def qeX9_failsIf : CE := (yX9_failsIf, cX9_failsIf, 3, none, 2, some 9, 0, [], 0, 3, qsX9_failsIf)
theorem qbX9_failsIf : am_mb qeX9_failsIf := ⟨am_tb_at 1575 (by decide +kernel) rfl, am_tb_at 124 (by decide +kernel) rfl, ⟨by decide, by decide, by decide +kernel⟩, by decide, by decide, am_tb_at 1574 (by decide +kernel) rfl, am_tb_at 54 (by decide +kernel) rfl, _, _, rfl⟩
set_option maxRecDepth 20000 in
theorem qvX9_failsIf_25 (z : Int) (v : Int) (F : FF) (A : AA) (K : KK) (h : ((z = 0 ∨ z = 1) ∧ (-2147483648 ≤ (F 25 26) ∧ (F 25 26) < 2147483648)) ∧ (K (some none) (fiF F z v) A)) : am_line qxX9_failsIf 14 [vR 25, vI z, vI v] 3 F A K := by
  show am_stp qxX9_failsIf (am_run qxX9_failsIf (fun _ => none) (fun _ _ _ _ _ _ => False) K 14) K 0 [some (vR 25), some (vI z), some (vI v)] [] F A 0
  obtain ⟨hp, h⟩ := h
  show (w32 (F 25 26) = w32 0 → ((w32 z = w32 0 → (K (some none) F A)) ∧ (¬ w32 z = w32 0 → (K (some none) (upF (upF F 25 26 v) 25 27 (F 25 22)) A)))) ∧ (¬ w32 (F 25 26) = w32 0 → (K (some none) F A))
  refine ⟨fun c1 => ?_, fun c1 => ?_⟩
  · skip
    (try simp (disch := omega) only [w32_0, w32_id] at c1)
    refine ⟨fun c2 => ?_, fun c2 => ?_⟩
    · skip
      (try simp (disch := omega) only [w32_0, w32_id] at c2)
      first
      | (rw [fiF_f (by omega)] at h; exact h)
      | (rw [fiF_t (by omega)] at h; exact h)
    · skip
      (try simp (disch := omega) only [w32_0, w32_id] at c2)
      first
      | (rw [fiF_f (by omega)] at h; exact h)
      | (rw [fiF_t (by omega)] at h; exact h)
  · skip
    (try simp (disch := omega) only [w32_0, w32_id] at c1)
    first
    | (rw [fiF_f (by omega)] at h; exact h)
    | (rw [fiF_t (by omega)] at h; exact h)
theorem qtX9_failsIf (l : Launch) : am_CT l layM qeX9_failsIf := am_met0 rfl (by decide +kernel) rfl rfl rfl rfl rfl (fun _ => rfl) rfl (qzX9_failsIf l) (fun k e1 h => (qyX9_failsIf l k e1 h).2) (fun as F A K h => by
  replace h : qsX9_failsIf as F A K := h
  unfold qsX9_failsIf at h
  split at h
  · rename_i o z v
    refine ⟨by first | exact Nat.le_of_ble_eq_true rfl | simp [am_fl, am_cat], ?_⟩
    replace h := am_cond2 h
    rcases h with ⟨hb, h⟩ | h
    · skip
      have hb0 := hb
      have hb0 := am_bq hb0
      subst hb0
      exact am_way_line (qvX9_failsIf_25 z v F A K h)
    exact h.elim
  · exact h.elim)
