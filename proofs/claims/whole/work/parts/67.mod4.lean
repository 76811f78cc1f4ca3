def qkJ13_signum_95d88 : Nat → Option CI := fun pc => cond (Nat.ble 12 pc) none (cond (Nat.ble 6 pc) (cond (Nat.ble 9 pc) (cond (Nat.beq pc 9) (some (.lor, 10, [])) (cond (Nat.beq pc 10) (some (.l2i, 11, [])) (cond (Nat.beq pc 11) (some (.ireturn, 12, [])) (none)))) (cond (Nat.beq pc 6) (some (.bipush 63, 8, [])) (cond (Nat.beq pc 8) (some (.lushr, 9, [])) (none)))) (cond (Nat.ble 3 pc) (cond (Nat.beq pc 3) (some (.lshr, 4, [])) (cond (Nat.beq pc 4) (some (.lload_n 0, 5, [])) (cond (Nat.beq pc 5) (some (.lneg, 6, [])) (none)))) (cond (Nat.beq pc 0) (some (.lload_n 0, 1, [])) (cond (Nat.beq pc 1) (some (.bipush 63, 3, [])) (none)))))
theorem qkJ13_signum_95d88_ok : ∀ pc i nx ts, qkJ13_signum_95d88 pc = some (i, nx, ts) → am_cok cJ13_signum_95d88 pc (i, nx, ts) = true := fun pc i nx ts h => am_tok_ok (n := 12) (by decide +kernel) (fun pc h => by show cond (Nat.ble 12 pc) _ _ = _; rw [Nat.ble_eq_true_of_le h]; rfl) h
def qaJ13_signum_95d88 : Nat → Option CE := fun k => none
theorem qyJ13_signum_95d88 (l : Launch) : ∀ k e1, qaJ13_signum_95d88 k = some e1 → am_cal l layX RJ13 3 k e1 ∧ ceT e1 = 0 := q_nil
def qxJ13_signum_95d88 : CX := (qkJ13_signum_95d88, layX, qfJ13, qaJ13_signum_95d88, qcJ13, qlJ13, qmJ13, (some .int), false, none, 0, none, fun _ => none)
theorem qzJ13_signum_95d88 (l : Launch) : am_sta l qxJ13_signum_95d88 RJ13 3 cJ13_signum_95d88 := ⟨qkJ13_signum_95d88_ok, layX_ok, qfJ13_ok, qcJ13_ok, qlJ13_ok, am_mthP qmJ13_ok (by decide), fun k e1 h => (qyJ13_signum_95d88 l k e1 h).1⟩
def qsJ13_signum_95d88 : SP := fun as F A K => match as with
  | [.inr (.inl v)] => K (some (some (vI (sg (w64 v))))) F A
  | _ => False
def qeJ13_signum_95d88 : CE := (yJ13_signum_95d88, cJ13_signum_95d88, 2, (some .int), 1, none, 0, [], 0, 3, qsJ13_signum_95d88)
theorem qbJ13_signum_95d88 : am_mb qeJ13_signum_95d88 := ⟨am_tb_at 1797 (by decide +kernel) rfl, am_tb_at 135 (by decide +kernel) rfl, ⟨by decide, by decide, by decide +kernel⟩, by decide, am_tb_at 1796 (by decide +kernel) rfl⟩
set_option maxRecDepth 20000 in
theorem qvJ13_signum_95d88 (v : Int) (F : FF) (A : AA) (K : KK) (h : K (some (some (vI (sg (w64 v))))) F A) : am_line qxJ13_signum_95d88 11 [vL v] 2 F A K := by
  show am_stp qxJ13_signum_95d88 (am_run qxJ13_signum_95d88 (fun _ => none) (fun _ _ _ _ _ _ => False) K 11) K 0 [some (vL v), none] [] F A 0
  show K (some (some (vI (y_or (y_shr v 63) (y_ushr (-v) 63))))) F A
  rw [y_sig]; exact h
theorem qtJ13_signum_95d88 (l : Launch) : am_CT l layX qeJ13_signum_95d88 := am_met0 rfl (by decide +kernel) rfl rfl rfl rfl rfl (fun _ => rfl) rfl (qzJ13_signum_95d88 l) (fun k e1 h => (qyJ13_signum_95d88 l k e1 h).2) (fun as F A K h => by
  replace h : qsJ13_signum_95d88 as F A K := h
  unfold qsJ13_signum_95d88 at h
  split at h
  · rename_i v
    refine ⟨by first | exact Nat.le_of_ble_eq_true rfl | simp [am_fl, am_cat], ?_⟩
    exact am_way_line (qvJ13_signum_95d88 v F A K h)
  · exact h.elim)
def qkJ6_signum_0f7a4 : Nat → Option CI := fun pc => cond (Nat.ble 11 pc) none (cond (Nat.ble 5 pc) (cond (Nat.ble 8 pc) (cond (Nat.beq pc 8) (some (.iushr, 9, [])) (cond (Nat.beq pc 9) (some (.ior, 10, [])) (cond (Nat.beq pc 10) (some (.ireturn, 11, [])) (none)))) (cond (Nat.beq pc 5) (some (.ineg, 6, [])) (cond (Nat.beq pc 6) (some (.bipush 31, 8, [])) (none)))) (cond (Nat.ble 3 pc) (cond (Nat.beq pc 3) (some (.ishr, 4, [])) (cond (Nat.beq pc 4) (some (.iload_n 0, 5, [])) (none))) (cond (Nat.beq pc 0) (some (.iload_n 0, 1, [])) (cond (Nat.beq pc 1) (some (.bipush 31, 3, [])) (none)))))
theorem qkJ6_signum_0f7a4_ok : ∀ pc i nx ts, qkJ6_signum_0f7a4 pc = some (i, nx, ts) → am_cok cJ6_signum_0f7a4 pc (i, nx, ts) = true := fun pc i nx ts h => am_tok_ok (n := 11) (by decide +kernel) (fun pc h => by show cond (Nat.ble 11 pc) _ _ = _; rw [Nat.ble_eq_true_of_le h]; rfl) h
def qaJ6_signum_0f7a4 : Nat → Option CE := fun k => none
theorem qyJ6_signum_0f7a4 (l : Launch) : ∀ k e1, qaJ6_signum_0f7a4 k = some e1 → am_cal l layX RJ6 3 k e1 ∧ ceT e1 = 0 := q_nil
def qxJ6_signum_0f7a4 : CX := (qkJ6_signum_0f7a4, layX, qfJ6, qaJ6_signum_0f7a4, qcJ6, qlJ6, qmJ6, (some .int), false, none, 0, none, fun _ => none)
theorem qzJ6_signum_0f7a4 (l : Launch) : am_sta l qxJ6_signum_0f7a4 RJ6 3 cJ6_signum_0f7a4 := ⟨qkJ6_signum_0f7a4_ok, layX_ok, qfJ6_ok, qcJ6_ok, qlJ6_ok, am_mthP qmJ6_ok (by decide), fun k e1 h => (qyJ6_signum_0f7a4 l k e1 h).1⟩
def qsJ6_signum_0f7a4 : SP := fun as F A K => match as with
  | [.inl v] => K (some (some (vI (sg (w32 v))))) F A
  | _ => False
def qeJ6_signum_0f7a4 : CE := (yJ6_signum_0f7a4, cJ6_signum_0f7a4, 1, (some .int), 1, none, 0, [], 0, 3, qsJ6_signum_0f7a4)
theorem qbJ6_signum_0f7a4 : am_mb qeJ6_signum_0f7a4 := ⟨am_tb_at 1812 (by decide +kernel) rfl, am_tb_at 136 (by decide +kernel) rfl, ⟨by decide, by decide, by decide +kernel⟩, by decide, am_tb_at 1811 (by decide +kernel) rfl⟩
set_option maxRecDepth 20000 in
theorem qvJ6_signum_0f7a4 (v : Int) (F : FF) (A : AA) (K : KK) (h : K (some (some (vI (sg (w32 v))))) F A) : am_line qxJ6_signum_0f7a4 10 [vI v] 1 F A K := by
  show am_stp qxJ6_signum_0f7a4 (am_run qxJ6_signum_0f7a4 (fun _ => none) (fun _ _ _ _ _ _ => False) K 10) K 0 [some (vI v)] [] F A 0
  show K (some (some (vI (x_or (x_shr v 31) (x_ushr (-v) 31))))) F A
  rw [x_sig]; exact h
theorem qtJ6_signum_0f7a4 (l : Launch) : am_CT l layX qeJ6_signum_0f7a4 := am_met0 rfl (by decide +kernel) rfl rfl rfl rfl rfl (fun _ => rfl) rfl (qzJ6_signum_0f7a4 l) (fun k e1 h => (qyJ6_signum_0f7a4 l k e1 h).2) (fun as F A K h => by
  replace h : qsJ6_signum_0f7a4 as F A K := h
  unfold qsJ6_signum_0f7a4 at h
  split at h
  · rename_i v
    refine ⟨by first | exact Nat.le_of_ble_eq_true rfl | simp [am_fl, am_cat], ?_⟩
    exact am_way_line (qvJ6_signum_0f7a4 v F A K h)
  · exact h.elim)
def qkX9_changes : Nat → Option CI := fun pc => cond (Nat.ble 60 pc) none (cond (Nat.ble 28 pc) (cond (Nat.ble 42 pc) (cond (Nat.ble 51 pc) (cond (Nat.ble 55 pc) (cond (Nat.beq pc 55) (some (.goto (-48), 58, [7])) (cond (Nat.beq pc 58) (some (.iload_n 2, 59, [])) (cond (Nat.beq pc 59) (some (.ireturn, 60, [])) (none)))) (cond (Nat.beq pc 51) (some (.istore_n 3, 52, [])) (cond (Nat.beq pc 52) (some (.iinc 4 1, 55, [])) (none)))) (cond (Nat.ble 46 pc) (cond (Nat.beq pc 46) (some (.goto 5, 49, [51])) (cond (Nat.beq pc 49) (some (.iload 5, 51, [])) (none))) (cond (Nat.beq pc 42) (some (.ifCond .ne 7, 45, [49])) (cond (Nat.beq pc 45) (some (.iload_n 3, 46, [])) (none))))) (cond (Nat.ble 34 pc) (cond (Nat.ble 38 pc) (cond (Nat.beq pc 38) (some (.iadd, 39, [])) (cond (Nat.beq pc 39) (some (.istore_n 2, 40, [])) (cond (Nat.beq pc 40) (some (.iload 5, 42, [])) (none)))) (cond (Nat.beq pc 34) (some (.goto 4, 37, [38])) (cond (Nat.beq pc 37) (some (.iconst 0, 38, [])) (none)))) (cond (Nat.ble 30 pc) (cond (Nat.beq pc 30) (some (.ifCond .ge 7, 33, [37])) (cond (Nat.beq pc 33) (some (.iconst 1, 34, [])) (none))) (cond (Nat.beq pc 28) (some (.iload_n 3, 29, [])) (cond (Nat.beq pc 29) (some (.imul, 30, [])) (none)))))) (cond (Nat.ble 10 pc) (cond (Nat.ble 19 pc) (cond (Nat.ble 23 pc) (cond (Nat.beq pc 23) (some (.istore 5, 25, [])) (cond (Nat.beq pc 25) (some (.iload_n 2, 26, [])) (cond (Nat.beq pc 26) (some (.iload 5, 28, [])) (none)))) (cond (Nat.beq pc 19) (some (.laload, 20, [])) (cond (Nat.beq pc 20) (some (.invokestatic 98, 23, [])) (none)))) (cond (Nat.ble 14 pc) (cond (Nat.beq pc 14) (some (.getfield 35, 17, [])) (cond (Nat.beq pc 17) (some (.iload 4, 19, [])) (none))) (cond (Nat.beq pc 10) (some (.if_icmp .gt 48, 13, [58])) (cond (Nat.beq pc 13) (some (.aload_n 0, 14, [])) (none))))) (cond (Nat.ble 4 pc) (cond (Nat.ble 7 pc) (cond (Nat.beq pc 7) (some (.iload 4, 9, [])) (cond (Nat.beq pc 9) (some (.iload_n 1, 10, [])) (none))) (cond (Nat.beq pc 4) (some (.iconst 0, 5, [])) (cond (Nat.beq pc 5) (some (.istore 4, 7, [])) (none)))) (cond (Nat.ble 2 pc) (cond (Nat.beq pc 2) (some (.iconst 0, 3, [])) (cond (Nat.beq pc 3) (some (.istore_n 3, 4, [])) (none))) (cond (Nat.beq pc 0) (some (.iconst 0, 1, [])) (cond (Nat.beq pc 1) (some (.istore_n 2, 2, [])) (none)))))))
theorem qkX9_changes_ok : ∀ pc i nx ts, qkX9_changes pc = some (i, nx, ts) → am_cok cX9_changes pc (i, nx, ts) = true := fun pc i nx ts h => am_tok_ok (n := 60) (by decide +kernel) (fun pc h => by show cond (Nat.ble 60 pc) _ _ = _; rw [Nat.ble_eq_true_of_le h]; rfl) h
def qaX9_changes : Nat → Option CE := fun k => cond (Nat.beq k 98) (some qeJ13_signum_95d88) (none)
theorem qyX9_changes (l : Launch) : ∀ k e1, qaX9_changes k = some e1 → am_cal l layM RX9 4 k e1 ∧ ceT e1 = 0 := q_cons ⟨am_calS (am_CT_mono layX_M (qtJ13_signum_95d88 l)) qbJ13_signum_95d88 (by decide) rfl (by decide) (am_tb_at 1795 (by decide +kernel) rfl), rfl⟩ (q_nil)
def qxX9_changes : CX := (qkX9_changes, layM, qfX9, qaX9_changes, qcX9, qlX9, qmX9, (some .int), false, none, 0, none, fun _ => none)
theorem qzX9_changes (l : Launch) : am_sta l qxX9_changes RX9 4 cX9_changes := ⟨qkX9_changes_ok, layM_ok, qfX9_ok, qcX9_ok, qlX9_ok, am_mthP qmX9_ok (by decide), fun k e1 h => (qyX9_changes l k e1 h).1⟩
def qsX9_changes : SP := fun as F A K => match as with
  | [.inr (.inr o), .inl n] => cond (Nat.beq o 25) ((0 ≤ n ∧ n ≤ 3) ∧ (K (some (some (vI (chg (A 34) (Int.toNat (n + 1)))))) F A)) (False)
  | _ => False
def qeX9_changes : CE := (yX9_changes, cX9_changes, 6, (some .int), 1, some 9, 0, [], 0, 4, qsX9_changes)
theorem qbX9_changes : am_mb qeX9_changes := ⟨am_tb_at 1794 (by decide +kernel) rfl, am_tb_at 124 (by decide +kernel) rfl, ⟨by decide, by decide, by decide +kernel⟩, by decide, by decide, am_tb_at 1793 (by decide +kernel) rfl, am_tb_at 86 (by decide +kernel) rfl, _, _, rfl⟩
def qnX9_changes_25 : CUT := fun pc => cond (Nat.beq pc 7) (some [true, true, true, true, true, false]) (none)
def qiX9_changes_25 (n : Int) (F0 : FF) (A0 : AA) : REC := fun pc ls st F A u => cond (Nat.beq pc 7) (match ls, st, u with
    | [some (.inr (.inr s0)), some (.inl s1), some (.inl m), some (.inl l), some (.inl k), none], [], 0 => s0 = 25 ∧ s1 = n ∧ F = F0 ∧ A = A0 ∧ ((0 ≤ k ∧ k ≤ n + 1) ∧ m = (chgF (A0 34) (Int.toNat k)).1 ∧ l = (chgF (A0 34) (Int.toNat k)).2)
    | _, _, _ => False) (False)
def quX9_changes_25 : Nat → LVs → List AV → FF → AA → Nat := fun pc ls _ F A => cond (Nat.beq pc 7) (match ls with
    | [some (.inr (.inr s0)), some (.inl s1), some (.inl m), some (.inl l), some (.inl k), none] => Int.toNat (20 - k)
    | _ => 0) (0)
set_option maxRecDepth 20000 in
theorem qvX9_changes_25_0 (n : Int) (F0 : FF) (A0 : AA) (K : KK) (h : (0 ≤ n ∧ n ≤ 3) ∧ (K (some (some (vI (chg (A0 34) (Int.toNat (n + 1)))))) F0 A0)) : am_stp qxX9_changes (am_run qxX9_changes qnX9_changes_25 (qiX9_changes_25 n F0 A0) K 28) K 0 (am_ent [vR 25, vI n] 6) [] F0 A0 0 := by
  show am_stp qxX9_changes (am_run qxX9_changes qnX9_changes_25 (qiX9_changes_25 n F0 A0) K 28) K 0 [some (vR 25), some (vI n), none, none, none, none] [] F0 A0 0
  obtain ⟨hp, h⟩ := h
  show 25 = 25 ∧ n = n ∧ F0 = F0 ∧ A0 = A0 ∧ ((0 ≤ 0 ∧ 0 ≤ n + 1) ∧ 0 = (chgF (A0 34) (Int.toNat 0)).1 ∧ 0 = (chgF (A0 34) (Int.toNat 0)).2)
  refine ⟨rfl, rfl, rfl, rfl, ?_⟩
  exact ⟨by omega, rfl, rfl⟩
set_option maxRecDepth 20000 in
theorem qvX9_changes_25_7 (n : Int) (F0 : FF) (A0 : AA) (K : KK) (h : (0 ≤ n ∧ n ≤ 3) ∧ (K (some (some (vI (chg (A0 34) (Int.toNat (n + 1)))))) F0 A0)) (m : Int) (l : Int) (k : Int) (hi : (0 ≤ k ∧ k ≤ n + 1) ∧ m = (chgF (A0 34) (Int.toNat k)).1 ∧ l = (chgF (A0 34) (Int.toNat k)).2) : am_stp qxX9_changes (am_run qxX9_changes qnX9_changes_25 (fun pc ls st F9 A9 u => qiX9_changes_25 n F0 A0 pc ls st F9 A9 u ∧ quX9_changes_25 pc ls st F9 A9 < quX9_changes_25 7 [some (vR 25), some (vI n), some (vI m), some (vI l), some (vI k), none] [] F0 A0) K 28) K 7 [some (vR 25), some (vI n), some (vI m), some (vI l), some (vI k), none] [] F0 A0 0 := by
  obtain ⟨hp, h⟩ := h
  obtain ⟨h1, h2, h3⟩ := hi
  have h4 := chgF_b (A0 34) (Int.toNat k)
  rw [← h2, ← h3] at h4
  have h5 := chgF_s (g := A0 34) (m := k) (by omega)
  rw [← h2, ← h3] at h5
  have hsg : sg (w64 (A0 34 k)) = -1 ∨ sg (w64 (A0 34 k)) = 0 ∨ sg (w64 (A0 34 k)) = 1 := by rcases sg_cases (w64 (A0 34 k)) with z | z | z <;> omega
  generalize hS : sg (w64 (A0 34 k)) = S at hsg h5
  have hl : l = -1 ∨ l = 0 ∨ l = 1 := by omega
  have cs := chg_st hsg hl
  have cr := chg_rng hsg hl
  show (w32 n < w32 k → (K (some (some (vI m))) F0 A0)) ∧ (¬ w32 n < w32 k → ((0 ≤ w32 k ∧ w32 k < 4) ∧ ((w32 ((sg (w64 (A0 34 (w32 k)))) * l) < w32 0 → ((w32 (sg (w64 (A0 34 (w32 k)))) = w32 0 → ((25 = 25 ∧ n = n ∧ F0 = F0 ∧ A0 = A0 ∧ ((0 ≤ (k + 1) ∧ (k + 1) ≤ n + 1) ∧ (m + 1) = (chgF (A0 34) (Int.toNat (k + 1))).1 ∧ l = (chgF (A0 34) (Int.toNat (k + 1))).2)) ∧ (Int.toNat (20 - (k + 1))) < (Int.toNat (20 - k)))) ∧ (¬ w32 (sg (w64 (A0 34 (w32 k)))) = w32 0 → ((25 = 25 ∧ n = n ∧ F0 = F0 ∧ A0 = A0 ∧ ((0 ≤ (k + 1) ∧ (k + 1) ≤ n + 1) ∧ (m + 1) = (chgF (A0 34) (Int.toNat (k + 1))).1 ∧ (sg (w64 (A0 34 (w32 k)))) = (chgF (A0 34) (Int.toNat (k + 1))).2)) ∧ (Int.toNat (20 - (k + 1))) < (Int.toNat (20 - k)))))) ∧ (¬ w32 ((sg (w64 (A0 34 (w32 k)))) * l) < w32 0 → ((w32 (sg (w64 (A0 34 (w32 k)))) = w32 0 → ((25 = 25 ∧ n = n ∧ F0 = F0 ∧ A0 = A0 ∧ ((0 ≤ (k + 1) ∧ (k + 1) ≤ n + 1) ∧ (m + 0) = (chgF (A0 34) (Int.toNat (k + 1))).1 ∧ l = (chgF (A0 34) (Int.toNat (k + 1))).2)) ∧ (Int.toNat (20 - (k + 1))) < (Int.toNat (20 - k)))) ∧ (¬ w32 (sg (w64 (A0 34 (w32 k)))) = w32 0 → ((25 = 25 ∧ n = n ∧ F0 = F0 ∧ A0 = A0 ∧ ((0 ≤ (k + 1) ∧ (k + 1) ≤ n + 1) ∧ (m + 0) = (chgF (A0 34) (Int.toNat (k + 1))).1 ∧ (sg (w64 (A0 34 (w32 k)))) = (chgF (A0 34) (Int.toNat (k + 1))).2)) ∧ (Int.toNat (20 - (k + 1))) < (Int.toNat (20 - k)))))))))
  refine ⟨fun c1 => ?_, fun c1 => ?_⟩
  · skip
    (try rw [w32_id (x := k) (by omega) (by omega)] at c1); (try rw [hS] at c1); (try simp (disch := omega) only [w32_0, w32_id] at c1)
    refine K_eq h ?_
    rw [h2, show k = n + 1 by omega]; rfl
  · skip
    (try rw [w32_id (x := k) (by omega) (by omega)] at c1); (try rw [hS] at c1); (try simp (disch := omega) only [w32_0, w32_id] at c1)
    rw [w32_id (x := k) (by omega) (by omega), hS]
    refine ⟨by first | omega | (rw [w32_id (by omega) (by omega)]; omega), ?_⟩
    refine ⟨fun c2 => ?_, fun c2 => ?_⟩
    · skip
      (try rw [w32_id (x := k) (by omega) (by omega)] at c2); (try rw [hS] at c2); (try simp (disch := omega) only [w32_0, w32_id] at c2)
      refine ⟨fun c3 => ?_, fun c3 => ?_⟩
      · skip
        (try rw [w32_id (x := k) (by omega) (by omega)] at c3); (try rw [hS] at c3); (try simp (disch := omega) only [w32_0, w32_id] at c3)
        refine ⟨⟨rfl, rfl, rfl, rfl, ?_⟩, by omega⟩
        refine ⟨by omega, ?_, ?_⟩
        · rw [h5]
          by_cases e0 : S = 0
          · rw [if_pos e0] <;> omega
          · rw [if_neg e0]
            by_cases e1 : S = -l
            · dsimp only; rw [if_pos e1] <;> omega
            · dsimp only; rw [if_neg e1] <;> omega
        · rw [h5]
          by_cases e0 : S = 0
          · rw [if_pos e0] <;> first | rfl | omega
          · rw [if_neg e0] <;> first | rfl | omega
      · skip
        (try rw [w32_id (x := k) (by omega) (by omega)] at c3); (try rw [hS] at c3); (try simp (disch := omega) only [w32_0, w32_id] at c3)
        refine ⟨⟨rfl, rfl, rfl, rfl, ?_⟩, by omega⟩
        refine ⟨by omega, ?_, ?_⟩
        · rw [h5]
          by_cases e0 : S = 0
          · rw [if_pos e0] <;> omega
          · rw [if_neg e0]
            by_cases e1 : S = -l
            · dsimp only; rw [if_pos e1] <;> omega
            · dsimp only; rw [if_neg e1] <;> omega
        · rw [h5]
          by_cases e0 : S = 0
          · rw [if_pos e0] <;> first | rfl | omega
          · rw [if_neg e0] <;> first | rfl | omega
    · skip
      (try rw [w32_id (x := k) (by omega) (by omega)] at c2); (try rw [hS] at c2); (try simp (disch := omega) only [w32_0, w32_id] at c2)
      refine ⟨fun c3 => ?_, fun c3 => ?_⟩
      · skip
        (try rw [w32_id (x := k) (by omega) (by omega)] at c3); (try rw [hS] at c3); (try simp (disch := omega) only [w32_0, w32_id] at c3)
        refine ⟨⟨rfl, rfl, rfl, rfl, ?_⟩, by omega⟩
        refine ⟨by omega, ?_, ?_⟩
        · rw [h5]
          by_cases e0 : S = 0
          · rw [if_pos e0] <;> omega
          · rw [if_neg e0]
            by_cases e1 : S = -l
            · dsimp only; rw [if_pos e1] <;> omega
            · dsimp only; rw [if_neg e1] <;> omega
        · rw [h5]
          by_cases e0 : S = 0
          · rw [if_pos e0] <;> first | rfl | omega
          · rw [if_neg e0] <;> first | rfl | omega
      · skip
        (try rw [w32_id (x := k) (by omega) (by omega)] at c3); (try rw [hS] at c3); (try simp (disch := omega) only [w32_0, w32_id] at c3)
        refine ⟨⟨rfl, rfl, rfl, rfl, ?_⟩, by omega⟩
        refine ⟨by omega, ?_, ?_⟩
        · rw [h5]
          by_cases e0 : S = 0
          · rw [if_pos e0] <;> omega
          · rw [if_neg e0]
            by_cases e1 : S = -l
            · dsimp only; rw [if_pos e1] <;> omega
            · dsimp only; rw [if_neg e1] <;> omega
        · rw [h5]
          by_cases e0 : S = 0
          · rw [if_pos e0] <;> first | rfl | omega
          · rw [if_neg e0] <;> first | rfl | omega
set_option maxRecDepth 20000 in
theorem qvX9_changes_25 (n : Int) (F0 : FF) (A0 : AA) (K : KK) (h : (0 ≤ n ∧ n ≤ 3) ∧ (K (some (some (vI (chg (A0 34) (Int.toNat (n + 1)))))) F0 A0)) : am_body qxX9_changes qnX9_changes_25 28 (qiX9_changes_25 n F0 A0) quX9_changes_25 [vR 25, vI n] 6 F0 A0 K := by
  refine ⟨qvX9_changes_25_0 n F0 A0 K h, fun pc ls st F A u hI => ?_⟩
  unfold qiX9_changes_25 at hI
  replace hI := am_cond2 hI
  rcases hI with ⟨hb, hI⟩ | hI
  · have hb := am_bq hb
    subst hb
    split at hI
    · rename_i s0 s1 m l k
      obtain ⟨e0, e1, e2, e3, hI⟩ := hI
      subst e0
      subst e1
      subst e2
      subst e3
      exact qvX9_changes_25_7 _ _ _ K h _ _ _ hI
    · exact hI.elim
  exact hI.elim
theorem qtX9_changes (l : Launch) : am_CT l layM qeX9_changes := am_met0 rfl (by decide +kernel) rfl rfl rfl rfl rfl (fun _ => rfl) rfl (qzX9_changes l) (fun k e1 h => (qyX9_changes l k e1 h).2) (fun as F A K h => by
  replace h : qsX9_changes as F A K := h
  unfold qsX9_changes at h
  split at h
  · rename_i o n
    refine ⟨by first | exact Nat.le_of_ble_eq_true rfl | simp [am_fl, am_cat], ?_⟩
    replace h := am_cond2 h
    rcases h with ⟨hb, h⟩ | h
    · skip
      have hb0 := hb
      have hb0 := am_bq hb0
      subst hb0
      exact am_way_body (qvX9_changes_25 n F A K h)
    exact h.elim
  · exact h.elim)
def qkX9_isOnLine : Nat → Option CI := fun pc => cond (Nat.ble 31 pc) none (cond (Nat.ble 13 pc) (cond (Nat.ble 22 pc) (cond (Nat.ble 26 pc) (cond (Nat.beq pc 26) (some (.goto (-24), 29, [2])) (cond (Nat.beq pc 29) (some (.iconst 1, 30, [])) (cond (Nat.beq pc 30) (some (.ireturn, 31, [])) (none)))) (cond (Nat.beq pc 22) (some (.ireturn, 23, [])) (cond (Nat.beq pc 23) (some (.iinc 3 1, 26, [])) (none)))) (cond (Nat.ble 15 pc) (cond (Nat.beq pc 15) (some (.invokevirtual 95, 18, [])) (cond (Nat.beq pc 18) (some (.ifCond .eq 5, 21, [23])) (cond (Nat.beq pc 21) (some (.iconst 0, 22, [])) (none)))) (cond (Nat.beq pc 13) (some (.iload_n 2, 14, [])) (cond (Nat.beq pc 14) (some (.iload_n 3, 15, [])) (none))))) (cond (Nat.ble 4 pc) (cond (Nat.ble 8 pc) (cond (Nat.beq pc 8) (some (.if_icmp .ge 21, 11, [29])) (cond (Nat.beq pc 11) (some (.aload_n 0, 12, [])) (cond (Nat.beq pc 12) (some (.iload_n 1, 13, [])) (none)))) (cond (Nat.beq pc 4) (some (.iload_n 1, 5, [])) (cond (Nat.beq pc 5) (some (.invokevirtual 76, 8, [])) (none)))) (cond (Nat.ble 2 pc) (cond (Nat.beq pc 2) (some (.iload_n 3, 3, [])) (cond (Nat.beq pc 3) (some (.aload_n 0, 4, [])) (none))) (cond (Nat.beq pc 0) (some (.iconst 0, 1, [])) (cond (Nat.beq pc 1) (some (.istore_n 3, 2, [])) (none))))))
theorem qkX9_isOnLine_ok : ∀ pc i nx ts, qkX9_isOnLine pc = some (i, nx, ts) → am_cok cX9_isOnLine pc (i, nx, ts) = true := fun pc i nx ts h => am_tok_ok (n := 31) (by decide +kernel) (fun pc h => by show cond (Nat.ble 31 pc) _ _ = _; rw [Nat.ble_eq_true_of_le h]; rfl) h
def qaX9_isOnLine : Nat → Option CE := fun k => cond (Nat.beq k 76) (some qeX9_points) (cond (Nat.beq k 95) (some qeX9_coefficient0) (none))
theorem qyX9_isOnLine (l : Launch) : ∀ k e1, qaX9_isOnLine k = some e1 → am_cal l layM RX9 5 k e1 ∧ ceT e1 = 0 := q_cons ⟨am_calV (ci := 9) (qtX9_points l) qbX9_points (by decide) rfl (am_tb_at 1663 (by decide +kernel) rfl), rfl⟩ (q_cons ⟨am_calV (ci := 9) (qtX9_coefficient0 l) qbX9_coefficient0 (by decide) rfl (am_tb_at 1778 (by decide +kernel) rfl), rfl⟩ (q_nil))
def qxX9_isOnLine : CX := (qkX9_isOnLine, layM, qfX9, qaX9_isOnLine, qcX9, qlX9, qmX9, (some .boolean), false, none, 0, none, fun _ => none)
theorem qzX9_isOnLine (l : Launch) : am_sta l qxX9_isOnLine RX9 5 cX9_isOnLine := ⟨qkX9_isOnLine_ok, layM_ok, qfX9_ok, qcX9_ok, qlX9_ok, am_mthP qmX9_ok (by decide), fun k e1 h => (qyX9_isOnLine l k e1 h).1⟩
def qsX9_isOnLine : SP := fun as F A K => match as with
  | [.inr (.inr o), .inl c, .inl l] => cond (Nat.beq o 25) ((fgOK (mF A) ∧ (0 ≤ c ∧ c < mF A 0) ∧ (0 ≤ l ∧ l < mF A 1)) ∧ (K (some (some (vI (bi (azP (cfL (mF A) c l) (Int.toNat (mF A (18 + c)))))))) F A)) (False)
  | _ => False
def qeX9_isOnLine : CE := (yX9_isOnLine, cX9_isOnLine, 4, (some .boolean), 2, some 9, 0, [], 0, 5, qsX9_isOnLine)
theorem qbX9_isOnLine : am_mb qeX9_isOnLine := ⟨am_tb_at 1805 (by decide +kernel) rfl, am_tb_at 124 (by decide +kernel) rfl, ⟨by decide, by decide, by decide +kernel⟩, by decide, by decide, am_tb_at 1804 (by decide +kernel) rfl, am_tb_at 87 (by decide +kernel) rfl, _, _, rfl⟩
def qnX9_isOnLine_25 : CUT := fun pc => cond (Nat.beq pc 2) (some [true, true, true, true]) (none)
def qiX9_isOnLine_25 (c : Int) (l : Int) (F0 : FF) (A0 : AA) : REC := fun pc ls st F A u => cond (Nat.beq pc 2) (match ls, st, u with
    | [some (.inr (.inr s0)), some (.inl s1), some (.inl s2), some (.inl k)], [], 0 => s0 = 25 ∧ s1 = c ∧ s2 = l ∧ F = F0 ∧ A = A0 ∧ ((0 ≤ k ∧ k ≤ mF A0 (18 + c)) ∧ ∀ jj : Nat, (jj : Int) < k → w64 (cfL (mF A0) c l jj) = 0)
    | _, _, _ => False) (False)
def quX9_isOnLine_25 : Nat → LVs → List AV → FF → AA → Nat := fun pc ls _ F A => cond (Nat.beq pc 2) (match ls with
    | [some (.inr (.inr s0)), some (.inl s1), some (.inl s2), some (.inl k)] => Int.toNat (20 - k)
    | _ => 0) (0)
set_option maxRecDepth 20000 in
theorem qvX9_isOnLine_25_0 (c : Int) (l : Int) (F0 : FF) (A0 : AA) (K : KK) (h : (fgOK (mF A0) ∧ (0 ≤ c ∧ c < mF A0 0) ∧ (0 ≤ l ∧ l < mF A0 1)) ∧ (K (some (some (vI (bi (azP (cfL (mF A0) c l) (Int.toNat (mF A0 (18 + c)))))))) F0 A0)) : am_stp qxX9_isOnLine (am_run qxX9_isOnLine qnX9_isOnLine_25 (qiX9_isOnLine_25 c l F0 A0) K 16) K 0 (am_ent [vR 25, vI c, vI l] 4) [] F0 A0 0 := by
  show am_stp qxX9_isOnLine (am_run qxX9_isOnLine qnX9_isOnLine_25 (qiX9_isOnLine_25 c l F0 A0) K 16) K 0 [some (vR 25), some (vI c), some (vI l), none] [] F0 A0 0
  obtain ⟨hp, h⟩ := h
  obtain ⟨p1, p2', p3⟩ := hp
  have q1 := p1.1.1
  have q2 := p1.1.2
  have q3 := (p1.2.2.1 c p2'.1 p2'.2).1
  show 25 = 25 ∧ c = c ∧ l = l ∧ F0 = F0 ∧ A0 = A0 ∧ ((0 ≤ 0 ∧ 0 ≤ mF A0 (18 + c)) ∧ ∀ jj : Nat, (jj : Int) < 0 → w64 (cfL (mF A0) c l jj) = 0)
  refine ⟨rfl, rfl, rfl, rfl, rfl, ?_⟩
  exact ⟨by omega, fun j hj => by omega⟩
set_option maxRecDepth 20000 in
theorem qvX9_isOnLine_25_2 (c : Int) (l : Int) (F0 : FF) (A0 : AA) (K : KK) (h : (fgOK (mF A0) ∧ (0 ≤ c ∧ c < mF A0 0) ∧ (0 ≤ l ∧ l < mF A0 1)) ∧ (K (some (some (vI (bi (azP (cfL (mF A0) c l) (Int.toNat (mF A0 (18 + c)))))))) F0 A0)) (k : Int) (hi : (0 ≤ k ∧ k ≤ mF A0 (18 + c)) ∧ ∀ jj : Nat, (jj : Int) < k → w64 (cfL (mF A0) c l jj) = 0) : am_stp qxX9_isOnLine (am_run qxX9_isOnLine qnX9_isOnLine_25 (fun pc ls st F9 A9 u => qiX9_isOnLine_25 c l F0 A0 pc ls st F9 A9 u ∧ quX9_isOnLine_25 pc ls st F9 A9 < quX9_isOnLine_25 2 [some (vR 25), some (vI c), some (vI l), some (vI k)] [] F0 A0) K 16) K 2 [some (vR 25), some (vI c), some (vI l), some (vI k)] [] F0 A0 0 := by
  obtain ⟨hp, h⟩ := h
  obtain ⟨p1, p2', p3⟩ := hp
  have q1 := p1.1.1
  have q2 := p1.1.2
  have q3 := (p1.2.2.1 c p2'.1 p2'.2).1
  obtain ⟨h1, h2⟩ := hi
  show (0 ≤ c ∧ c < 8) ∧ ((w32 k < w32 (mF A0 (18 + c)) → (((0 ≤ c ∧ c < 8) ∧ (0 ≤ l ∧ l < 6) ∧ 0 ≤ k ∧ k < 4) ∧ ((w32 (cfR (mF A0) c l k) = w32 0 → ((25 = 25 ∧ c = c ∧ l = l ∧ F0 = F0 ∧ A0 = A0 ∧ ((0 ≤ (k + 1) ∧ (k + 1) ≤ mF A0 (18 + c)) ∧ ∀ jj : Nat, (jj : Int) < (k + 1) → w64 (cfL (mF A0) c l jj) = 0)) ∧ (Int.toNat (20 - (k + 1))) < (Int.toNat (20 - k)))) ∧ (¬ w32 (cfR (mF A0) c l k) = w32 0 → ((0 = 0 ∨ 0 = 1) ∧ (K (some (some (vI 0))) F0 A0)))))) ∧ (¬ w32 k < w32 (mF A0 (18 + c)) → ((1 = 0 ∨ 1 = 1) ∧ (K (some (some (vI 1))) F0 A0))))
  refine ⟨by first | exact Or.inl rfl | exact Or.inr rfl | omega | exact ⟨by omega, by omega, by omega⟩, ?_⟩
  refine ⟨fun c1 => ?_, fun c1 => ?_⟩
  · skip
    (try rw [w32_id (x := k) (by omega) (by omega), w32_id (x := mF A0 (18 + c)) (by omega) (by omega)] at c1); (try simp only [w32_0] at c1)
    refine ⟨by first | exact Or.inl rfl | exact Or.inr rfl | omega | exact ⟨by omega, by omega, by omega⟩, ?_⟩
    refine ⟨fun c2 => ?_, fun c2 => ?_⟩
    · skip
      (try rw [w32_id (x := k) (by omega) (by omega), w32_id (x := mF A0 (18 + c)) (by omega) (by omega)] at c2); (try simp only [w32_0] at c2)
      refine ⟨⟨rfl, rfl, rfl, rfl, rfl, ?_⟩, by omega⟩
      refine ⟨by omega, fun j hj => ?_⟩
      by_cases e : (j : Int) = k
      · rw [e]; unfold cfL cfX; rw [w64_w32]; exact c2
      · exact h2 j (by omega)
    · skip
      (try rw [w32_id (x := k) (by omega) (by omega), w32_id (x := mF A0 (18 + c)) (by omega) (by omega)] at c2); (try simp only [w32_0] at c2)
      refine ⟨by first | exact Or.inl rfl | exact Or.inr rfl | omega | exact ⟨by omega, by omega, by omega⟩, ?_⟩
      refine K_eq h (bi_f (fun q => c2 ?_))
      have z := q k.toNat (by omega)
      rw [show ((k.toNat : Nat) : Int) = k by omega] at z
      unfold cfL cfX at z
      rw [w64_w32] at z
      exact z
  · skip
    (try rw [w32_id (x := k) (by omega) (by omega), w32_id (x := mF A0 (18 + c)) (by omega) (by omega)] at c1); (try simp only [w32_0] at c1)
    refine ⟨by first | exact Or.inl rfl | exact Or.inr rfl | omega | exact ⟨by omega, by omega, by omega⟩, ?_⟩
    exact K_eq h (bi_t (fun j hj => h2 j (by omega)))
set_option maxRecDepth 20000 in
theorem qvX9_isOnLine_25 (c : Int) (l : Int) (F0 : FF) (A0 : AA) (K : KK) (h : (fgOK (mF A0) ∧ (0 ≤ c ∧ c < mF A0 0) ∧ (0 ≤ l ∧ l < mF A0 1)) ∧ (K (some (some (vI (bi (azP (cfL (mF A0) c l) (Int.toNat (mF A0 (18 + c)))))))) F0 A0)) : am_body qxX9_isOnLine qnX9_isOnLine_25 16 (qiX9_isOnLine_25 c l F0 A0) quX9_isOnLine_25 [vR 25, vI c, vI l] 4 F0 A0 K := by
  refine ⟨qvX9_isOnLine_25_0 c l F0 A0 K h, fun pc ls st F A u hI => ?_⟩
  unfold qiX9_isOnLine_25 at hI
  replace hI := am_cond2 hI
  rcases hI with ⟨hb, hI⟩ | hI
  · have hb := am_bq hb
    subst hb
    split at hI
    · rename_i s0 s1 s2 k
      obtain ⟨e0, e1, e2, e3, e4, hI⟩ := hI
      subst e0
      subst e1
      subst e2
      subst e3
      subst e4
      exact qvX9_isOnLine_25_2 _ _ _ _ K h _ hI
    · exact hI.elim
  exact hI.elim
theorem qtX9_isOnLine (l : Launch) : am_CT l layM qeX9_isOnLine := am_met0 rfl (by decide +kernel) rfl rfl rfl rfl rfl (fun _ => rfl) rfl (qzX9_isOnLine l) (fun k e1 h => (qyX9_isOnLine l k e1 h).2) (fun as F A K h => by
  replace h : qsX9_isOnLine as F A K := h
  unfold qsX9_isOnLine at h
  split at h
  · rename_i o c l
    refine ⟨by first | exact Nat.le_of_ble_eq_true rfl | simp [am_fl, am_cat], ?_⟩
    replace h := am_cond2 h
    rcases h with ⟨hb, h⟩ | h
    · skip
      have hb0 := hb
      have hb0 := am_bq hb0
      subst hb0
      exact am_way_body (qvX9_isOnLine_25 c l F A K h)
    exact h.elim
  · exact h.elim)
def qkX9_notes : Nat → Option CI := fun pc => cond (Nat.ble 41 pc) none (cond (Nat.ble 20 pc) (cond (Nat.ble 30 pc) (cond (Nat.ble 35 pc) (cond (Nat.ble 37 pc) (cond (Nat.beq pc 37) (some (.putfield 104, 40, [])) (cond (Nat.beq pc 40) (some (.return_, 41, [])) (none))) (cond (Nat.beq pc 35) (some (.iconst 1, 36, [])) (cond (Nat.beq pc 36) (some (.iadd, 37, [])) (none)))) (cond (Nat.beq pc 30) (some (.aload_n 0, 31, [])) (cond (Nat.beq pc 31) (some (.dup, 32, [])) (cond (Nat.beq pc 32) (some (.getfield 104, 35, [])) (none))))) (cond (Nat.ble 25 pc) (cond (Nat.beq pc 25) (some (.getfield 104, 28, [])) (cond (Nat.beq pc 28) (some (.iload_n 3, 29, [])) (cond (Nat.beq pc 29) (some (.iastore, 30, [])) (none)))) (cond (Nat.beq pc 20) (some (.aload_n 0, 21, [])) (cond (Nat.beq pc 21) (some (.getfield 44, 24, [])) (cond (Nat.beq pc 24) (some (.aload_n 0, 25, [])) (none)))))) (cond (Nat.ble 10 pc) (cond (Nat.ble 15 pc) (cond (Nat.beq pc 15) (some (.getfield 104, 18, [])) (cond (Nat.beq pc 18) (some (.iload_n 2, 19, [])) (cond (Nat.beq pc 19) (some (.iastore, 20, [])) (none)))) (cond (Nat.beq pc 10) (some (.aload_n 0, 11, [])) (cond (Nat.beq pc 11) (some (.getfield 41, 14, [])) (cond (Nat.beq pc 14) (some (.aload_n 0, 15, [])) (none))))) (cond (Nat.ble 5 pc) (cond (Nat.beq pc 5) (some (.getfield 104, 8, [])) (cond (Nat.beq pc 8) (some (.iload_n 1, 9, [])) (cond (Nat.beq pc 9) (some (.iastore, 10, [])) (none)))) (cond (Nat.beq pc 0) (some (.aload_n 0, 1, [])) (cond (Nat.beq pc 1) (some (.getfield 38, 4, [])) (cond (Nat.beq pc 4) (some (.aload_n 0, 5, [])) (none)))))))
theorem qkX9_notes_ok : ∀ pc i nx ts, qkX9_notes pc = some (i, nx, ts) → am_cok cX9_notes pc (i, nx, ts) = true := fun pc i nx ts h => am_tok_ok (n := 41) (by decide +kernel) (fun pc h => by show cond (Nat.ble 41 pc) _ _ = _; rw [Nat.ble_eq_true_of_le h]; rfl) h
def qaX9_notes : Nat → Option CE := fun k => none
theorem qyX9_notes (l : Launch) : ∀ k e1, qaX9_notes k = some e1 → am_cal l layM RX9 3 k e1 ∧ ceT e1 = 0 := q_nil
def qxX9_notes : CX := (qkX9_notes, layM, qfX9, qaX9_notes, qcX9, qlX9, qmX9, none, false, none, 0, none, fun _ => none)
theorem qzX9_notes (l : Launch) : am_sta l qxX9_notes RX9 3 cX9_notes := ⟨qkX9_notes_ok, layM_ok, qfX9_ok, qcX9_ok, qlX9_ok, am_mthP qmX9_ok (by decide), fun k e1 h => (qyX9_notes l k e1 h).1⟩
def qsX9_notes : SP := fun as F A K => match as with
  | [.inr (.inr o), .inl k, .inl d, .inl q] => cond (Nat.beq o 25) ((0 ≤ (F 25 12) ∧ (F 25 12) < 40) ∧ (K (some none) (upF F 25 12 ((F 25 12) + 1)) (upA (upA (upA A 35 ((F 25 12)) k) 36 ((F 25 12)) d) 37 ((F 25 12)) q))) (False)
  | _ => False
def qeX9_notes : CE := (yX9_notes, cX9_notes, 4, none, 3, some 9, 0, [], 0, 3, qsX9_notes)
theorem qbX9_notes : am_mb qeX9_notes := ⟨am_tb_at 1824 (by decide +kernel) rfl, am_tb_at 124 (by decide +kernel) rfl, ⟨by decide, by decide, by decide +kernel⟩, by decide, by decide, am_tb_at 1823 (by decide +kernel) rfl, am_tb_at 89 (by decide +kernel) rfl, _, _, rfl⟩
set_option maxRecDepth 20000 in
theorem qvX9_notes_25 (k : Int) (d : Int) (q : Int) (F : FF) (A : AA) (K : KK) (h : (0 ≤ (F 25 12) ∧ (F 25 12) < 40) ∧ (K (some none) (upF F 25 12 ((F 25 12) + 1)) (upA (upA (upA A 35 ((F 25 12)) k) 36 ((F 25 12)) d) 37 ((F 25 12)) q))) : am_line qxX9_notes 26 [vR 25, vI k, vI d, vI q] 4 F A K := by
  show am_stp qxX9_notes (am_run qxX9_notes (fun _ => none) (fun _ _ _ _ _ _ => False) K 26) K 0 [some (vR 25), some (vI k), some (vI d), some (vI q)] [] F A 0
  obtain ⟨hp, h⟩ := h
  show (0 ≤ w32 (F 25 12) ∧ w32 (F 25 12) < 40) ∧ ((0 ≤ w32 (F 25 12) ∧ w32 (F 25 12) < 40) ∧ ((0 ≤ w32 (F 25 12) ∧ w32 (F 25 12) < 40) ∧ (K (some none) (upF F 25 12 ((F 25 12) + 1)) (upA (upA (upA A 35 (w32 (F 25 12)) k) 36 (w32 (F 25 12)) d) 37 (w32 (F 25 12)) q))))
  refine ⟨by (rw [w32_id (by omega) (by omega)]; omega), ?_⟩
  refine ⟨by (rw [w32_id (by omega) (by omega)]; omega), ?_⟩
  refine ⟨by (rw [w32_id (by omega) (by omega)]; omega), ?_⟩
  simp (disch := omega) only [w32_id]
  exact h
theorem qtX9_notes (l : Launch) : am_CT l layM qeX9_notes := am_met0 rfl (by decide +kernel) rfl rfl rfl rfl rfl (fun _ => rfl) rfl (qzX9_notes l) (fun k e1 h => (qyX9_notes l k e1 h).2) (fun as F A K h => by
  replace h : qsX9_notes as F A K := h
  unfold qsX9_notes at h
  split at h
  · rename_i o k d q
    refine ⟨by first | exact Nat.le_of_ble_eq_true rfl | simp [am_fl, am_cat], ?_⟩
    replace h := am_cond2 h
    rcases h with ⟨hb, h⟩ | h
    · skip
      have hb0 := hb
      have hb0 := am_bq hb0
      subst hb0
      exact am_way_line (qvX9_notes_25 k d q F A K h)
    exact h.elim
  · exact h.elim)
