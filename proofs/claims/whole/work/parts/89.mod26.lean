def qkX9_here : Nat → Option CI := fun pc => cond (Nat.ble 25 pc) none (cond (Nat.ble 12 pc) (cond (Nat.ble 19 pc) (cond (Nat.ble 23 pc) (cond (Nat.beq pc 23) (some (.iconst (-1), 24, [])) (cond (Nat.beq pc 24) (some (.ireturn, 25, [])) (none))) (cond (Nat.beq pc 19) (some (.iaload, 20, [])) (cond (Nat.beq pc 20) (some (.goto 4, 23, [24])) (none)))) (cond (Nat.beq pc 12) (some (.getfield 7, 15, [])) (cond (Nat.beq pc 15) (some (.aload_n 0, 16, [])) (cond (Nat.beq pc 16) (some (.getfield 192, 19, [])) (none))))) (cond (Nat.ble 5 pc) (cond (Nat.beq pc 5) (some (.getfield 195, 8, [])) (cond (Nat.beq pc 8) (some (.if_icmp .ge 15, 11, [23])) (cond (Nat.beq pc 11) (some (.aload_n 0, 12, [])) (none)))) (cond (Nat.beq pc 0) (some (.aload_n 0, 1, [])) (cond (Nat.beq pc 1) (some (.getfield 192, 4, [])) (cond (Nat.beq pc 4) (some (.aload_n 0, 5, [])) (none))))))
theorem qkX9_here_ok : ∀ pc i nx ts, qkX9_here pc = some (i, nx, ts) → am_cok cX9_here pc (i, nx, ts) = true := fun pc i nx ts h => am_tok_ok (n := 25) (by decide +kernel) (fun pc h => by show cond (Nat.ble 25 pc) _ _ = _; rw [Nat.ble_eq_true_of_le h]; rfl) h
def qaX9_here : Nat → Option CE := fun k => none
theorem qyX9_here (l : Launch) : ∀ k e1, qaX9_here k = some e1 → am_cal l layM RX9 3 k e1 ∧ ceT e1 = 0 := q_nil
def qxX9_here : CX := (qkX9_here, layM, qfX9, qaX9_here, qcX9, qlX9, qmX9, (some .int), false, none, 0, none, fun _ => none)
theorem qzX9_here (l : Launch) : am_sta l qxX9_here RX9 3 cX9_here := ⟨qkX9_here_ok, layM_ok, qfX9_ok, qcX9_ok, qlX9_ok, am_mthP qmX9_ok (by decide), fun k e1 h => (qyX9_here l k e1 h).1⟩
def qsX9_here : SP := fun as F A K => match as with
  | [.inr (.inr o)] => cond (Nat.beq o 25) (((0 ≤ (F 25 21) ∧ (F 25 21) ≤ 800) ∧ (0 ≤ (F 25 20) ∧ (F 25 20) ≤ 800)) ∧ (K (some (some (vI (if (F 25 21) < (F 25 20) then A 26 ((F 25 21)) else -1)))) F A)) (False)
  | _ => False
def qeX9_here : CE := (yX9_here, cX9_here, 1, (some .int), 0, some 9, 0, [], 0, 3, qsX9_here)
theorem qbX9_here : am_mb qeX9_here := ⟨am_tb_at 1503 (by decide +kernel) rfl, am_tb_at 124 (by decide +kernel) rfl, ⟨by decide, by decide, by decide +kernel⟩, by decide, by decide, am_tb_at 1502 (by decide +kernel) rfl, am_tb_at 50 (by decide +kernel) rfl, _, _, rfl⟩
set_option maxRecDepth 20000 in
theorem qvX9_here_25  (F : FF) (A : AA) (K : KK) (h : ((0 ≤ (F 25 21) ∧ (F 25 21) ≤ 800) ∧ (0 ≤ (F 25 20) ∧ (F 25 20) ≤ 800)) ∧ (K (some (some (vI (if (F 25 21) < (F 25 20) then A 26 ((F 25 21)) else -1)))) F A)) : am_line qxX9_here 13 [vR 25] 1 F A K := by
  show am_stp qxX9_here (am_run qxX9_here (fun _ => none) (fun _ _ _ _ _ _ => False) K 13) K 0 [some (vR 25)] [] F A 0
  obtain ⟨hp, h⟩ := h
  show (w32 (F 25 21) < w32 (F 25 20) → ((0 ≤ w32 (F 25 21) ∧ w32 (F 25 21) < 800) ∧ (K (some (some (vI (A 26 (w32 (F 25 21)))))) F A))) ∧ (¬ w32 (F 25 21) < w32 (F 25 20) → (K (some (some (vI (-1)))) F A))
  refine ⟨fun c1 => ?_, fun c1 => ?_⟩
  · skip
    (try simp (disch := omega) only [w32_id] at c1)
    refine ⟨by first | omega | (rw [w32_id (by omega) (by omega)]; omega), ?_⟩
    first
    | (rw [if_pos c1] at h; simp (disch := omega) only [w32_id]; exact h)
    | (rw [if_neg c1] at h; exact h)
  · skip
    (try simp (disch := omega) only [w32_id] at c1)
    first
    | (rw [if_pos c1] at h; simp (disch := omega) only [w32_id]; exact h)
    | (rw [if_neg c1] at h; exact h)
theorem qtX9_here (l : Launch) : am_CT l layM qeX9_here := am_met0 rfl (by decide +kernel) rfl rfl rfl rfl rfl (fun _ => rfl) rfl (qzX9_here l) (fun k e1 h => (qyX9_here l k e1 h).2) (fun as F A K h => by
  replace h : qsX9_here as F A K := h
  unfold qsX9_here at h
  split at h
  · rename_i o
    refine ⟨by first | exact Nat.le_of_ble_eq_true rfl | simp [am_fl, am_cat], ?_⟩
    replace h := am_cond2 h
    rcases h with ⟨hb, h⟩ | h
    · skip
      have hb0 := hb
      have hb0 := am_bq hb0
      subst hb0
      exact am_way_line (qvX9_here_25  F A K h)
    exact h.elim
  · exact h.elim)
