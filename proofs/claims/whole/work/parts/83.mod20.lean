def qkX9_laysEnd : Nat → Option CI := fun pc => cond (Nat.ble 47 pc) none (cond (Nat.ble 22 pc) (cond (Nat.ble 34 pc) (cond (Nat.ble 39 pc) (cond (Nat.ble 45 pc) (cond (Nat.beq pc 45) (some (.iconst 0, 46, [])) (cond (Nat.beq pc 46) (some (.ireturn, 47, [])) (none))) (cond (Nat.beq pc 39) (some (.invokevirtual 80, 42, [])) (cond (Nat.beq pc 42) (some (.goto 4, 45, [46])) (none)))) (cond (Nat.beq pc 34) (some (.ifCond .eq 11, 37, [45])) (cond (Nat.beq pc 37) (some (.aload_n 0, 38, [])) (cond (Nat.beq pc 38) (some (.iload_n 1, 39, [])) (none))))) (cond (Nat.ble 25 pc) (cond (Nat.ble 29 pc) (cond (Nat.beq pc 29) (some (.invokevirtual 163, 32, [])) (cond (Nat.beq pc 32) (some (.iload 4, 34, [])) (none))) (cond (Nat.beq pc 25) (some (.goto 4, 28, [29])) (cond (Nat.beq pc 28) (some (.iload_n 3, 29, [])) (none)))) (cond (Nat.beq pc 22) (some (.iload_n 3, 23, [])) (cond (Nat.beq pc 23) (some (.iconst 1, 24, [])) (cond (Nat.beq pc 24) (some (.isub, 25, [])) (none)))))) (cond (Nat.ble 11 pc) (cond (Nat.ble 15 pc) (cond (Nat.ble 17 pc) (cond (Nat.beq pc 17) (some (.iload 4, 19, [])) (cond (Nat.beq pc 19) (some (.ifCond .eq 9, 22, [28])) (none))) (cond (Nat.beq pc 15) (some (.iload_n 1, 16, [])) (cond (Nat.beq pc 16) (some (.iload_n 2, 17, [])) (none)))) (cond (Nat.beq pc 11) (some (.iconst 0, 12, [])) (cond (Nat.beq pc 12) (some (.istore 4, 14, [])) (cond (Nat.beq pc 14) (some (.aload_n 0, 15, [])) (none))))) (cond (Nat.ble 3 pc) (cond (Nat.ble 7 pc) (cond (Nat.beq pc 7) (some (.iconst 1, 8, [])) (cond (Nat.beq pc 8) (some (.goto 4, 11, [12])) (none))) (cond (Nat.beq pc 3) (some (.ishl, 4, [])) (cond (Nat.beq pc 4) (some (.if_icmp .ne 7, 7, [11])) (none)))) (cond (Nat.beq pc 0) (some (.iload_n 3, 1, [])) (cond (Nat.beq pc 1) (some (.iconst 1, 2, [])) (cond (Nat.beq pc 2) (some (.iload_n 2, 3, [])) (none)))))))
theorem qkX9_laysEnd_ok : ∀ pc i nx ts, qkX9_laysEnd pc = some (i, nx, ts) → am_cok cX9_laysEnd pc (i, nx, ts) = true := fun pc i nx ts h => am_tok_ok (n := 47) (by decide +kernel) (fun pc h => by show cond (Nat.ble 47 pc) _ _ = _; rw [Nat.ble_eq_true_of_le h]; rfl) h
def qaX9_laysEnd : Nat → Option CE := fun k => cond (Nat.beq k 163) (some qeX9_laysCell) (cond (Nat.beq k 80) (some qeX9_order) (none))
theorem qyX9_laysEnd (l : Launch) : ∀ k e1, qaX9_laysEnd k = some e1 → am_cal l layM RX9 6 k e1 ∧ ceT e1 = 0 := q_cons ⟨am_calV (ci := 9) (qtX9_laysCell l) qbX9_laysCell (by decide) rfl (am_tb_at 1699 (by decide +kernel) rfl), rfl⟩ (q_cons ⟨am_calV (ci := 9) (qtX9_order l) qbX9_order (by decide) rfl (am_tb_at 1659 (by decide +kernel) rfl), rfl⟩ (q_nil))
def qxX9_laysEnd : CX := (qkX9_laysEnd, layM, qfX9, qaX9_laysEnd, qcX9, qlX9, qmX9, (some .int), false, none, 0, none, fun _ => none)
theorem qzX9_laysEnd (l : Launch) : am_sta l qxX9_laysEnd RX9 6 cX9_laysEnd := ⟨qkX9_laysEnd_ok, layM_ok, qfX9_ok, qcX9_ok, qlX9_ok, am_mthP qmX9_ok (by decide), fun k e1 h => (qyX9_laysEnd l k e1 h).1⟩
def qsX9_laysEnd : SP := fun as F A K => match as with
  | [.inr (.inr o), .inl c, .inl d, .inl q] => cond (Nat.beq o 25) ((fgOK (mF A) ∧ (0 ≤ c ∧ c < mF A 0) ∧ (0 ≤ d ∧ d ≤ 6) ∧ 0 ≤ q ∧ q ≤ p2 d) ∧ (∀ (B_1 : AA), ((∀ b i, b ≠ 32 ∧ b ≠ 33 → B_1 b i = A b i) ∧ ∀ w k, 0 ≤ w → w ≤ 2 → 0 ≤ k → k < mF A (18 + c) → B_1 33 (4 * w + k) = ceX (mF A) c (Int.toNat d) (if q = p2 d then q - 1 else q) w k) → (K (some (some (vI (if q = p2 d then mF A (18 + c) - 1 else 0)))) F B_1))) (False)
  | _ => False
def qeX9_laysEnd : CE := (yX9_laysEnd, cX9_laysEnd, 5, (some .int), 3, some 9, 0, [], 0, 6, qsX9_laysEnd)
theorem qbX9_laysEnd : am_mb qeX9_laysEnd := ⟨am_tb_at 1718 (by decide +kernel) rfl, am_tb_at 124 (by decide +kernel) rfl, ⟨by decide, by decide, by decide +kernel⟩, by decide, by decide, am_tb_at 1717 (by decide +kernel) rfl, am_tb_at 76 (by decide +kernel) rfl, _, _, rfl⟩
set_option maxRecDepth 20000 in
theorem qvX9_laysEnd_25 (c : Int) (d : Int) (q : Int) (F : FF) (A : AA) (K : KK) (h : (fgOK (mF A) ∧ (0 ≤ c ∧ c < mF A 0) ∧ (0 ≤ d ∧ d ≤ 6) ∧ 0 ≤ q ∧ q ≤ p2 d) ∧ (∀ (B_1 : AA), ((∀ b i, b ≠ 32 ∧ b ≠ 33 → B_1 b i = A b i) ∧ ∀ w k, 0 ≤ w → w ≤ 2 → 0 ≤ k → k < mF A (18 + c) → B_1 33 (4 * w + k) = ceX (mF A) c (Int.toNat d) (if q = p2 d then q - 1 else q) w k) → (K (some (some (vI (if q = p2 d then mF A (18 + c) - 1 else 0)))) F B_1))) : am_line qxX9_laysEnd 26 [vR 25, vI c, vI d, vI q] 5 F A K := by
  show am_stp qxX9_laysEnd (am_run qxX9_laysEnd (fun _ => none) (fun _ _ _ _ _ _ => False) K 26) K 0 [some (vR 25), some (vI c), some (vI d), some (vI q), none] [] F A 0
  obtain ⟨hp, h⟩ := h
  obtain ⟨p1, p2', p3, p4, p5⟩ := hp
  have q1 := p1.1.1
  have q3 := (p1.2.2.1 c p2'.1 p2'.2).1
  have esh : x_shl 1 d = p2 d := x_shl1 (by omega) (by omega)
  have P := @p2_pos d
  have PP := p2_le (j := d) (k := 6) (by omega)
  rw [p2_6] at PP

  show (w32 q = w32 (x_shl 1 d) → ((w32 1 = w32 0 → _) ∧ (¬ w32 1 = w32 0 → ((fgOK (mF A) ∧ (0 ≤ c ∧ c < mF A 0) ∧ (0 ≤ d ∧ d ≤ 6) ∧ 0 ≤ (q - 1) ∧ (q - 1) < p2 d) ∧ (∀ (B_1 : AA), ((∀ b i, b ≠ 32 ∧ b ≠ 33 → B_1 b i = A b i) ∧ ∀ w k, 0 ≤ w → w ≤ 2 → 0 ≤ k → k < mF A (18 + c) → B_1 33 (4 * w + k) = ceX (mF A) c (Int.toNat d) (q - 1) w k) → ((w32 1 = w32 0 → _) ∧ (¬ w32 1 = w32 0 → ((0 ≤ c ∧ c < 8) ∧ (K (some (some (vI (mF B_1 (18 + c) - 1)))) F B_1))))))))) ∧ (¬ w32 q = w32 (x_shl 1 d) → ((w32 0 = w32 0 → ((fgOK (mF A) ∧ (0 ≤ c ∧ c < mF A 0) ∧ (0 ≤ d ∧ d ≤ 6) ∧ 0 ≤ q ∧ q < p2 d) ∧ (∀ (B_1 : AA), ((∀ b i, b ≠ 32 ∧ b ≠ 33 → B_1 b i = A b i) ∧ ∀ w k, 0 ≤ w → w ≤ 2 → 0 ≤ k → k < mF A (18 + c) → B_1 33 (4 * w + k) = ceX (mF A) c (Int.toNat d) q w k) → ((w32 0 = w32 0 → (K (some (some (vI 0))) F B_1)) ∧ (¬ w32 0 = w32 0 → _))))) ∧ (¬ w32 0 = w32 0 → _)))
  refine ⟨fun c1 => ?_, fun c1 => ?_⟩
  · skip
    (try rw [esh] at c1); (try simp (disch := omega) only [w32_id] at c1)
    refine ⟨fun q => absurd q (by decide), fun _ => ?_⟩
    refine ⟨by first | omega | exact ⟨p1, p2', p3, by omega, by omega⟩, ?_⟩
    intro B_1 g1
    refine ⟨fun q => absurd q (by decide), fun _ => ?_⟩
    refine ⟨by first | omega | exact ⟨p1, p2', p3, by omega, by omega⟩, ?_⟩
    have eF : mF B_1 = mF A := mF_c (funext fun i => g1.1 2 i (by decide)) (funext fun i => g1.1 27 i (by decide)) (funext fun i => g1.1 29 i (by decide))
    first
    | (simp only [if_pos c1] at h; refine K_eq (h _ g1) ?_; rw [eF]; done)
    | (simp only [if_neg c1] at h; exact h _ g1)
  · skip
    (try rw [esh] at c1); (try simp (disch := omega) only [w32_id] at c1)
    refine ⟨fun _ => ?_, fun q => absurd (by decide) q⟩
    refine ⟨by first | omega | exact ⟨p1, p2', p3, by omega, by omega⟩, ?_⟩
    intro B_1 g1
    refine ⟨fun _ => ?_, fun q => absurd (by decide) q⟩
    have eF : mF B_1 = mF A := mF_c (funext fun i => g1.1 2 i (by decide)) (funext fun i => g1.1 27 i (by decide)) (funext fun i => g1.1 29 i (by decide))
    first
    | (simp only [if_pos c1] at h; refine K_eq (h _ g1) ?_; rw [eF]; done)
    | (simp only [if_neg c1] at h; exact h _ g1)
theorem qtX9_laysEnd (l : Launch) : am_CT l layM qeX9_laysEnd := am_met0 rfl (by decide +kernel) rfl rfl rfl rfl rfl (fun _ => rfl) rfl (qzX9_laysEnd l) (fun k e1 h => (qyX9_laysEnd l k e1 h).2) (fun as F A K h => by
  replace h : qsX9_laysEnd as F A K := h
  unfold qsX9_laysEnd at h
  split at h
  · rename_i o c d q
    refine ⟨by first | exact Nat.le_of_ble_eq_true rfl | simp [am_fl, am_cat], ?_⟩
    replace h := am_cond2 h
    rcases h with ⟨hb, h⟩ | h
    · skip
      have hb0 := hb
      have hb0 := am_bq hb0
      subst hb0
      exact am_way_line (qvX9_laysEnd_25 c d q F A K h)
    exact h.elim
  · exact h.elim)
def qkX9_placePart : Nat → Option CI := fun pc => cond (Nat.ble 101 pc) none (cond (Nat.ble 48 pc) (cond (Nat.ble 74 pc) (cond (Nat.ble 87 pc) (cond (Nat.ble 94 pc) (cond (Nat.ble 99 pc) (cond (Nat.beq pc 99) (some (.ldiv, 100, [])) (cond (Nat.beq pc 100) (some (.lreturn, 101, [])) (none))) (cond (Nat.beq pc 94) (some (.lload 9, 96, [])) (cond (Nat.beq pc 96) (some (.invokestatic 148, 99, [])) (none)))) (cond (Nat.beq pc 87) (some (.goto 5, 90, [92])) (cond (Nat.beq pc 90) (some (.lload 9, 92, [])) (cond (Nat.beq pc 92) (some (.lload 7, 94, [])) (none))))) (cond (Nat.ble 78 pc) (cond (Nat.ble 82 pc) (cond (Nat.beq pc 82) (some (.ifCond .eq 8, 85, [90])) (cond (Nat.beq pc 85) (some (.lload 7, 87, [])) (none))) (cond (Nat.beq pc 78) (some (.lstore 9, 80, [])) (cond (Nat.beq pc 80) (some (.iload 5, 82, [])) (none)))) (cond (Nat.beq pc 74) (some (.iload 6, 76, [])) (cond (Nat.beq pc 76) (some (.iadd, 77, [])) (cond (Nat.beq pc 77) (some (.laload, 78, [])) (none)))))) (cond (Nat.ble 62 pc) (cond (Nat.ble 66 pc) (cond (Nat.ble 69 pc) (cond (Nat.beq pc 69) (some (.getfield 32, 72, [])) (cond (Nat.beq pc 72) (some (.bipush 8, 74, [])) (none))) (cond (Nat.beq pc 66) (some (.lstore 7, 68, [])) (cond (Nat.beq pc 68) (some (.aload_n 0, 69, [])) (none)))) (cond (Nat.beq pc 62) (some (.iload 6, 64, [])) (cond (Nat.beq pc 64) (some (.iadd, 65, [])) (cond (Nat.beq pc 65) (some (.laload, 66, [])) (none))))) (cond (Nat.ble 54 pc) (cond (Nat.ble 58 pc) (cond (Nat.beq pc 58) (some (.goto 4, 61, [62])) (cond (Nat.beq pc 61) (some (.iconst 4, 62, [])) (none))) (cond (Nat.beq pc 54) (some (.ifCond .ne 7, 57, [61])) (cond (Nat.beq pc 57) (some (.iconst 0, 58, [])) (none)))) (cond (Nat.beq pc 48) (some (.aload_n 0, 49, [])) (cond (Nat.beq pc 49) (some (.getfield 32, 52, [])) (cond (Nat.beq pc 52) (some (.iload 4, 54, [])) (none))))))) (cond (Nat.ble 25 pc) (cond (Nat.ble 38 pc) (cond (Nat.ble 41 pc) (cond (Nat.ble 43 pc) (cond (Nat.beq pc 43) (some (.invokevirtual 317, 46, [])) (cond (Nat.beq pc 46) (some (.istore 6, 48, [])) (none))) (cond (Nat.beq pc 41) (some (.iload_n 2, 42, [])) (cond (Nat.beq pc 42) (some (.iload_n 3, 43, [])) (none)))) (cond (Nat.beq pc 38) (some (.lreturn, 39, [])) (cond (Nat.beq pc 39) (some (.aload_n 0, 40, [])) (cond (Nat.beq pc 40) (some (.iload_n 1, 41, [])) (none))))) (cond (Nat.ble 30 pc) (cond (Nat.ble 32 pc) (cond (Nat.beq pc 32) (some (.if_icmp .le 7, 35, [39])) (cond (Nat.beq pc 35) (some (.ldc2_w 315, 38, [])) (none))) (cond (Nat.beq pc 30) (some (.iload_n 2, 31, [])) (cond (Nat.beq pc 31) (some (.ishl, 32, [])) (none)))) (cond (Nat.beq pc 25) (some (.ifCond .lt 10, 28, [35])) (cond (Nat.beq pc 28) (some (.iload_n 3, 29, [])) (cond (Nat.beq pc 29) (some (.iconst 1, 30, [])) (none)))))) (cond (Nat.ble 13 pc) (cond (Nat.ble 18 pc) (cond (Nat.ble 21 pc) (cond (Nat.beq pc 21) (some (.if_icmp .gt 14, 24, [35])) (cond (Nat.beq pc 24) (some (.iload_n 3, 25, [])) (none))) (cond (Nat.beq pc 18) (some (.iload_n 2, 19, [])) (cond (Nat.beq pc 19) (some (.bipush 6, 21, [])) (none)))) (cond (Nat.beq pc 13) (some (.lreturn, 14, [])) (cond (Nat.beq pc 14) (some (.iload_n 2, 15, [])) (cond (Nat.beq pc 15) (some (.ifCond .lt 20, 18, [35])) (none))))) (cond (Nat.ble 3 pc) (cond (Nat.ble 9 pc) (cond (Nat.beq pc 9) (some (.ifCond .ne 5, 12, [14])) (cond (Nat.beq pc 12) (some (.lconst 0, 13, [])) (none))) (cond (Nat.beq pc 3) (some (.invokevirtual 298, 6, [])) (cond (Nat.beq pc 6) (some (.invokevirtual 301, 9, [])) (none)))) (cond (Nat.beq pc 0) (some (.aload_n 0, 1, [])) (cond (Nat.beq pc 1) (some (.aload_n 0, 2, [])) (cond (Nat.beq pc 2) (some (.iload_n 1, 3, [])) (none))))))))
theorem qkX9_placePart_ok : ∀ pc i nx ts, qkX9_placePart pc = some (i, nx, ts) → am_cok cX9_placePart pc (i, nx, ts) = true := fun pc i nx ts h => am_tok_ok (n := 101) (by decide +kernel) (fun pc h => by show cond (Nat.ble 101 pc) _ _ = _; rw [Nat.ble_eq_true_of_le h]; rfl) h
def qaX9_placePart : Nat → Option CE := fun k => cond (Nat.beq k 298) (some qeX9_isCurve) (cond (Nat.beq k 301) (some qeX9_checks) (cond (Nat.beq k 317) (some qeX9_laysEnd) (cond (Nat.beq k 148) (some qeX9_divisor) (none))))
theorem qyX9_placePart (l : Launch) : ∀ k e1, qaX9_placePart k = some e1 → am_cal l layM RX9 7 k e1 ∧ ceT e1 = 0 := q_cons ⟨am_calV (ci := 9) (qtX9_isCurve l) qbX9_isCurve (by decide) rfl (am_tb_at 1651 (by decide +kernel) rfl), rfl⟩ (q_cons ⟨am_calV (ci := 9) (qtX9_checks l) qbX9_checks (by decide) rfl (am_tb_at 1655 (by decide +kernel) rfl), rfl⟩ (q_cons ⟨am_calV (ci := 9) (qtX9_laysEnd l) qbX9_laysEnd (by decide) rfl (am_tb_at 1715 (by decide +kernel) rfl), rfl⟩ (q_cons ⟨am_calS (qtX9_divisor l) qbX9_divisor (by decide) rfl (by decide) (am_tb_at 1719 (by decide +kernel) rfl), rfl⟩ (q_nil))))
def qxX9_placePart : CX := (qkX9_placePart, layM, qfX9, qaX9_placePart, qcX9, qlX9, qmX9, (some .long), false, none, 0, none, fun _ => none)
theorem qzX9_placePart (l : Launch) : am_sta l qxX9_placePart RX9 7 cX9_placePart := ⟨qkX9_placePart_ok, layM_ok, qfX9_ok, qcX9_ok, qlX9_ok, am_mthP qmX9_ok (by decide), fun k e1 h => (qyX9_placePart l k e1 h).1⟩
def qsX9_placePart : SP := fun as F A K => match as with
  | [.inr (.inr o), .inl c, .inl d, .inl q, .inl a, .inl z] => cond (Nat.beq o 25) ((fgOK (mF A) ∧ (-2147483648 ≤ c ∧ c < 2147483648) ∧ (-2147483648 ≤ d ∧ d < 2147483648) ∧ (-2147483648 ≤ q ∧ q < 2147483648) ∧ (-2147483648 ≤ a ∧ a < 2147483648) ∧ (z = 0 ∨ z = 1)) ∧ (∀ (G_1 : FF) (B_1 : AA), (qdP F G_1 A B_1 ∧ G_1 25 0 = (if 0 ≤ c ∧ c < mF A 0 then 0 else 1)) → (K (some (some (vL (if 0 ≤ c ∧ c < mF A 0 then (if 0 ≤ d ∧ d ≤ 6 ∧ 0 ≤ q ∧ q ≤ p2 d then plF (mF A) c d q (if a = 0 then 0 else 1) (1 - z) else -1) else 0)))) G_1 B_1))) (False)
  | _ => False
def qeX9_placePart : CE := (yX9_placePart, cX9_placePart, 11, (some .long), 5, some 9, 0, [], 0, 7, qsX9_placePart)
theorem qbX9_placePart : am_mb qeX9_placePart := ⟨am_tb_at 1714 (by decide +kernel) rfl, am_tb_at 124 (by decide +kernel) rfl, ⟨by decide, by decide, by decide +kernel⟩, by decide, by decide, am_tb_at 1713 (by decide +kernel) rfl, am_tb_at 75 (by decide +kernel) rfl, _, _, rfl⟩
set_option maxRecDepth 20000 in
theorem qvX9_placePart_25 (c : Int) (d : Int) (q : Int) (a : Int) (z : Int) (F : FF) (A : AA) (K : KK) (h : (fgOK (mF A) ∧ (-2147483648 ≤ c ∧ c < 2147483648) ∧ (-2147483648 ≤ d ∧ d < 2147483648) ∧ (-2147483648 ≤ q ∧ q < 2147483648) ∧ (-2147483648 ≤ a ∧ a < 2147483648) ∧ (z = 0 ∨ z = 1)) ∧ (∀ (G_1 : FF) (B_1 : AA), (qdP F G_1 A B_1 ∧ G_1 25 0 = (if 0 ≤ c ∧ c < mF A 0 then 0 else 1)) → (K (some (some (vL (if 0 ≤ c ∧ c < mF A 0 then (if 0 ≤ d ∧ d ≤ 6 ∧ 0 ≤ q ∧ q ≤ p2 d then plF (mF A) c d q (if a = 0 then 0 else 1) (1 - z) else -1) else 0)))) G_1 B_1))) : am_line qxX9_placePart 51 [vR 25, vI c, vI d, vI q, vI a, vI z] 11 F A K := by
  show am_stp qxX9_placePart (am_run qxX9_placePart (fun _ => none) (fun _ _ _ _ _ _ => False) K 51) K 0 [some (vR 25), some (vI c), some (vI d), some (vI q), some (vI a), some (vI z), none, none, none, none, none] [] F A 0
  obtain ⟨hp, h⟩ := h
  have p1 := hp.1
  have q1 := p1.1.1
  have q2 := p1.1.2
  have q4 := p1.2.1

  show ((0 ≤ mF A 0 ∧ mF A 0 ≤ 8) ∧ (0 ≤ mF A 1 ∧ mF A 1 ≤ 6) ∧ (-2147483648 ≤ c ∧ c < 2147483648)) ∧ (((bi (0 ≤ c ∧ c < mF A 0)) = 0 ∨ (bi (0 ≤ c ∧ c < mF A 0)) = 1) ∧ ((w32 (bi (0 ≤ c ∧ c < mF A 0)) = w32 0 → (K (some (some (vL 0))) (upF F 25 0 (1 - (bi (0 ≤ c ∧ c < mF A 0)))) A)) ∧ (¬ (w32 (bi (0 ≤ c ∧ c < mF A 0)) = w32 0) → ((w32 d < w32 0 → (K (some (some (vL (-1)))) (upF F 25 0 (1 - (bi (0 ≤ c ∧ c < mF A 0)))) A)) ∧ (¬ w32 d < w32 0 → ((w32 6 < w32 d → (K (some (some (vL (-1)))) (upF F 25 0 (1 - (bi (0 ≤ c ∧ c < mF A 0)))) A)) ∧ (¬ w32 6 < w32 d → ((w32 q < w32 0 → (K (some (some (vL (-1)))) (upF F 25 0 (1 - (bi (0 ≤ c ∧ c < mF A 0)))) A)) ∧ (¬ w32 q < w32 0 → ((w32 (x_shl 1 d) < w32 q → (K (some (some (vL (-1)))) (upF F 25 0 (1 - (bi (0 ≤ c ∧ c < mF A 0)))) A)) ∧ (¬ w32 (x_shl 1 d) < w32 q → ((fgOK (mF A) ∧ (0 ≤ c ∧ c < mF A 0) ∧ (0 ≤ d ∧ d ≤ 6) ∧ 0 ≤ q ∧ q ≤ p2 d) ∧ (∀ (B_1 : AA), ((∀ b i, b ≠ 32 ∧ b ≠ 33 → B_1 b i = A b i) ∧ ∀ w k, 0 ≤ w → w ≤ 2 → 0 ≤ k → k < mF A (18 + c) → B_1 33 (4 * w + k) = ceX (mF A) c (Int.toNat d) (if q = p2 d then q - 1 else q) w k) → ((w32 a = w32 0 → ((0 ≤ w32 (0 + (if q = p2 d then mF A (18 + c) - 1 else 0)) ∧ w32 (0 + (if q = p2 d then mF A (18 + c) - 1 else 0)) < 12) ∧ ((0 ≤ w32 (8 + (if q = p2 d then mF A (18 + c) - 1 else 0)) ∧ w32 (8 + (if q = p2 d then mF A (18 + c) - 1 else 0)) < 12) ∧ ((w32 z = w32 0 → (((-4611686018427387904 < (B_1 33 (w32 (0 + (if q = p2 d then mF A (18 + c) - 1 else 0)))) ∧ (B_1 33 (w32 (0 + (if q = p2 d then mF A (18 + c) - 1 else 0)))) < 4611686018427387904) ∧ (-4611686018427387904 < (B_1 33 (w32 (8 + (if q = p2 d then mF A (18 + c) - 1 else 0)))) ∧ (B_1 33 (w32 (8 + (if q = p2 d then mF A (18 + c) - 1 else 0)))) < 4611686018427387904)) ∧ ((w64 (Int.gcd (B_1 33 (w32 (0 + (if q = p2 d then mF A (18 + c) - 1 else 0)))) (B_1 33 (w32 (8 + (if q = p2 d then mF A (18 + c) - 1 else 0)))) : Int) ≠ 0) ∧ (K (some (some (vL (y_div (B_1 33 (w32 (8 + (if q = p2 d then mF A (18 + c) - 1 else 0)))) (Int.gcd (B_1 33 (w32 (0 + (if q = p2 d then mF A (18 + c) - 1 else 0)))) (B_1 33 (w32 (8 + (if q = p2 d then mF A (18 + c) - 1 else 0)))) : Int))))) (upF F 25 0 (1 - (bi (0 ≤ c ∧ c < mF A 0)))) B_1)))) ∧ (¬ w32 z = w32 0 → (((-4611686018427387904 < (B_1 33 (w32 (0 + (if q = p2 d then mF A (18 + c) - 1 else 0)))) ∧ (B_1 33 (w32 (0 + (if q = p2 d then mF A (18 + c) - 1 else 0)))) < 4611686018427387904) ∧ (-4611686018427387904 < (B_1 33 (w32 (8 + (if q = p2 d then mF A (18 + c) - 1 else 0)))) ∧ (B_1 33 (w32 (8 + (if q = p2 d then mF A (18 + c) - 1 else 0)))) < 4611686018427387904)) ∧ ((w64 (Int.gcd (B_1 33 (w32 (0 + (if q = p2 d then mF A (18 + c) - 1 else 0)))) (B_1 33 (w32 (8 + (if q = p2 d then mF A (18 + c) - 1 else 0)))) : Int) ≠ 0) ∧ (K (some (some (vL (y_div (B_1 33 (w32 (0 + (if q = p2 d then mF A (18 + c) - 1 else 0)))) (Int.gcd (B_1 33 (w32 (0 + (if q = p2 d then mF A (18 + c) - 1 else 0)))) (B_1 33 (w32 (8 + (if q = p2 d then mF A (18 + c) - 1 else 0)))) : Int))))) (upF F 25 0 (1 - (bi (0 ≤ c ∧ c < mF A 0)))) B_1)))))))) ∧ (¬ w32 a = w32 0 → ((0 ≤ w32 (4 + (if q = p2 d then mF A (18 + c) - 1 else 0)) ∧ w32 (4 + (if q = p2 d then mF A (18 + c) - 1 else 0)) < 12) ∧ ((0 ≤ w32 (8 + (if q = p2 d then mF A (18 + c) - 1 else 0)) ∧ w32 (8 + (if q = p2 d then mF A (18 + c) - 1 else 0)) < 12) ∧ ((w32 z = w32 0 → (((-4611686018427387904 < (B_1 33 (w32 (4 + (if q = p2 d then mF A (18 + c) - 1 else 0)))) ∧ (B_1 33 (w32 (4 + (if q = p2 d then mF A (18 + c) - 1 else 0)))) < 4611686018427387904) ∧ (-4611686018427387904 < (B_1 33 (w32 (8 + (if q = p2 d then mF A (18 + c) - 1 else 0)))) ∧ (B_1 33 (w32 (8 + (if q = p2 d then mF A (18 + c) - 1 else 0)))) < 4611686018427387904)) ∧ ((w64 (Int.gcd (B_1 33 (w32 (4 + (if q = p2 d then mF A (18 + c) - 1 else 0)))) (B_1 33 (w32 (8 + (if q = p2 d then mF A (18 + c) - 1 else 0)))) : Int) ≠ 0) ∧ (K (some (some (vL (y_div (B_1 33 (w32 (8 + (if q = p2 d then mF A (18 + c) - 1 else 0)))) (Int.gcd (B_1 33 (w32 (4 + (if q = p2 d then mF A (18 + c) - 1 else 0)))) (B_1 33 (w32 (8 + (if q = p2 d then mF A (18 + c) - 1 else 0)))) : Int))))) (upF F 25 0 (1 - (bi (0 ≤ c ∧ c < mF A 0)))) B_1)))) ∧ (¬ w32 z = w32 0 → (((-4611686018427387904 < (B_1 33 (w32 (4 + (if q = p2 d then mF A (18 + c) - 1 else 0)))) ∧ (B_1 33 (w32 (4 + (if q = p2 d then mF A (18 + c) - 1 else 0)))) < 4611686018427387904) ∧ (-4611686018427387904 < (B_1 33 (w32 (8 + (if q = p2 d then mF A (18 + c) - 1 else 0)))) ∧ (B_1 33 (w32 (8 + (if q = p2 d then mF A (18 + c) - 1 else 0)))) < 4611686018427387904)) ∧ ((w64 (Int.gcd (B_1 33 (w32 (4 + (if q = p2 d then mF A (18 + c) - 1 else 0)))) (B_1 33 (w32 (8 + (if q = p2 d then mF A (18 + c) - 1 else 0)))) : Int) ≠ 0) ∧ (K (some (some (vL (y_div (B_1 33 (w32 (4 + (if q = p2 d then mF A (18 + c) - 1 else 0)))) (Int.gcd (B_1 33 (w32 (4 + (if q = p2 d then mF A (18 + c) - 1 else 0)))) (B_1 33 (w32 (8 + (if q = p2 d then mF A (18 + c) - 1 else 0)))) : Int))))) (upF F 25 0 (1 - (bi (0 ≤ c ∧ c < mF A 0)))) B_1))))))))))))))))))))))
  refine ⟨by omega, ?_⟩
  refine ⟨by first | exact bi_01 | omega | exact ⟨p1, c1, by omega, by omega, by omega, by omega⟩ | exact ⟨p1, c1, ⟨by omega, by omega⟩, by omega, by omega⟩ | (rw [w32_id (by omega) (by omega)]; omega) | (rw [w64_id (by omega) (by omega)]; omega) | (simp (disch := omega) only [w32_id, Int.zero_add, x0, x1, x2]; omega) | (simp (disch := omega) only [w32_id, Int.zero_add, x0, x1, x2]; rw [w64_id (by omega) (by omega)]; omega), ?_⟩
  refine ⟨fun c1 => ?_, fun c1 => ?_⟩
  · skip
    (try simp only [w32_0, wbi0, Classical.not_not] at c1); (try simp (disch := omega) only [w32_id] at c1); (try (rw [x_shl1 (by omega) (by omega)] at c1)); (try (have PP := p2_12' (k := d) (by omega); have P0 := @p2_pos d; simp (disch := omega) only [w32_id] at c1))
    first
    | exact L_eq (h _ _ ⟨qdP_F (by decide), by rw [upF_s, bi_f c1, if_neg c1]; rfl⟩) (if_neg c1)
    | (refine L_eq (h _ _ ⟨qdP_F (by decide), by rw [upF_s, bi_t c1, if_pos c1]; rfl⟩) ?_; rw [if_pos c1, if_neg (by omega)]; done)
    | (refine L_eq (h _ _ ⟨qdP_trans (qdP_F (by decide)) (qdP_A (fun b i hb => g1.1 b i (by omega))), by rw [upF_s, bi_t c1, if_pos c1]; rfl⟩) ?_
       simp (disch := omega) only [w32_id, Int.zero_add, x0, x1, x2]
       rw [if_pos c1, if_pos (by omega), y_div_eq (by omega) (by omega) (by omega) (by omega), pl]
       first
       | (rw [if_pos (show 1 - z = 0 by omega), if_pos (show a = 0 by omega), hX]; done)
       | (rw [if_pos (show 1 - z = 0 by omega), if_neg (show ¬ a = 0 by omega), hY]; done)
       | (rw [if_neg (show ¬ 1 - z = 0 by omega), if_pos (show a = 0 by omega), hX]; done)
       | (rw [if_neg (show ¬ 1 - z = 0 by omega), if_neg (show ¬ a = 0 by omega), hY]; done))
  · skip
    (try simp only [w32_0, wbi0, Classical.not_not] at c1); (try simp (disch := omega) only [w32_id] at c1); (try (rw [x_shl1 (by omega) (by omega)] at c1)); (try (have PP := p2_12' (k := d) (by omega); have P0 := @p2_pos d; simp (disch := omega) only [w32_id] at c1))
    refine ⟨fun c2 => ?_, fun c2 => ?_⟩
    · skip
      (try simp only [w32_0, wbi0, Classical.not_not] at c2); (try simp (disch := omega) only [w32_id] at c2); (try (rw [x_shl1 (by omega) (by omega)] at c2)); (try (have PP := p2_12' (k := d) (by omega); have P0 := @p2_pos d; simp (disch := omega) only [w32_id] at c2))
      first
      | exact L_eq (h _ _ ⟨qdP_F (by decide), by rw [upF_s, bi_f c1, if_neg c1]; rfl⟩) (if_neg c1)
      | (refine L_eq (h _ _ ⟨qdP_F (by decide), by rw [upF_s, bi_t c1, if_pos c1]; rfl⟩) ?_; rw [if_pos c1, if_neg (by omega)]; done)
      | (refine L_eq (h _ _ ⟨qdP_trans (qdP_F (by decide)) (qdP_A (fun b i hb => g1.1 b i (by omega))), by rw [upF_s, bi_t c1, if_pos c1]; rfl⟩) ?_
         simp (disch := omega) only [w32_id, Int.zero_add, x0, x1, x2]
         rw [if_pos c1, if_pos (by omega), y_div_eq (by omega) (by omega) (by omega) (by omega), pl]
         first
         | (rw [if_pos (show 1 - z = 0 by omega), if_pos (show a = 0 by omega), hX]; done)
         | (rw [if_pos (show 1 - z = 0 by omega), if_neg (show ¬ a = 0 by omega), hY]; done)
         | (rw [if_neg (show ¬ 1 - z = 0 by omega), if_pos (show a = 0 by omega), hX]; done)
         | (rw [if_neg (show ¬ 1 - z = 0 by omega), if_neg (show ¬ a = 0 by omega), hY]; done))
    · skip
      (try simp only [w32_0, wbi0, Classical.not_not] at c2); (try simp (disch := omega) only [w32_id] at c2); (try (rw [x_shl1 (by omega) (by omega)] at c2)); (try (have PP := p2_12' (k := d) (by omega); have P0 := @p2_pos d; simp (disch := omega) only [w32_id] at c2))
      refine ⟨fun c3 => ?_, fun c3 => ?_⟩
      · skip
        (try simp only [w32_0, wbi0, Classical.not_not] at c3); (try simp (disch := omega) only [w32_id] at c3); (try (rw [x_shl1 (by omega) (by omega)] at c3)); (try (have PP := p2_12' (k := d) (by omega); have P0 := @p2_pos d; simp (disch := omega) only [w32_id] at c3))
        first
        | exact L_eq (h _ _ ⟨qdP_F (by decide), by rw [upF_s, bi_f c1, if_neg c1]; rfl⟩) (if_neg c1)
        | (refine L_eq (h _ _ ⟨qdP_F (by decide), by rw [upF_s, bi_t c1, if_pos c1]; rfl⟩) ?_; rw [if_pos c1, if_neg (by omega)]; done)
        | (refine L_eq (h _ _ ⟨qdP_trans (qdP_F (by decide)) (qdP_A (fun b i hb => g1.1 b i (by omega))), by rw [upF_s, bi_t c1, if_pos c1]; rfl⟩) ?_
           simp (disch := omega) only [w32_id, Int.zero_add, x0, x1, x2]
           rw [if_pos c1, if_pos (by omega), y_div_eq (by omega) (by omega) (by omega) (by omega), pl]
           first
           | (rw [if_pos (show 1 - z = 0 by omega), if_pos (show a = 0 by omega), hX]; done)
           | (rw [if_pos (show 1 - z = 0 by omega), if_neg (show ¬ a = 0 by omega), hY]; done)
           | (rw [if_neg (show ¬ 1 - z = 0 by omega), if_pos (show a = 0 by omega), hX]; done)
           | (rw [if_neg (show ¬ 1 - z = 0 by omega), if_neg (show ¬ a = 0 by omega), hY]; done))
      · skip
        (try simp only [w32_0, wbi0, Classical.not_not] at c3); (try simp (disch := omega) only [w32_id] at c3); (try (rw [x_shl1 (by omega) (by omega)] at c3)); (try (have PP := p2_12' (k := d) (by omega); have P0 := @p2_pos d; simp (disch := omega) only [w32_id] at c3))
        refine ⟨fun c4 => ?_, fun c4 => ?_⟩
        · skip
          (try simp only [w32_0, wbi0, Classical.not_not] at c4); (try simp (disch := omega) only [w32_id] at c4); (try (rw [x_shl1 (by omega) (by omega)] at c4)); (try (have PP := p2_12' (k := d) (by omega); have P0 := @p2_pos d; simp (disch := omega) only [w32_id] at c4))
          first
          | exact L_eq (h _ _ ⟨qdP_F (by decide), by rw [upF_s, bi_f c1, if_neg c1]; rfl⟩) (if_neg c1)
          | (refine L_eq (h _ _ ⟨qdP_F (by decide), by rw [upF_s, bi_t c1, if_pos c1]; rfl⟩) ?_; rw [if_pos c1, if_neg (by omega)]; done)
          | (refine L_eq (h _ _ ⟨qdP_trans (qdP_F (by decide)) (qdP_A (fun b i hb => g1.1 b i (by omega))), by rw [upF_s, bi_t c1, if_pos c1]; rfl⟩) ?_
             simp (disch := omega) only [w32_id, Int.zero_add, x0, x1, x2]
             rw [if_pos c1, if_pos (by omega), y_div_eq (by omega) (by omega) (by omega) (by omega), pl]
             first
             | (rw [if_pos (show 1 - z = 0 by omega), if_pos (show a = 0 by omega), hX]; done)
             | (rw [if_pos (show 1 - z = 0 by omega), if_neg (show ¬ a = 0 by omega), hY]; done)
             | (rw [if_neg (show ¬ 1 - z = 0 by omega), if_pos (show a = 0 by omega), hX]; done)
             | (rw [if_neg (show ¬ 1 - z = 0 by omega), if_neg (show ¬ a = 0 by omega), hY]; done))
        · skip
          (try simp only [w32_0, wbi0, Classical.not_not] at c4); (try simp (disch := omega) only [w32_id] at c4); (try (rw [x_shl1 (by omega) (by omega)] at c4)); (try (have PP := p2_12' (k := d) (by omega); have P0 := @p2_pos d; simp (disch := omega) only [w32_id] at c4))
          refine ⟨fun c5 => ?_, fun c5 => ?_⟩
          · skip
            (try simp only [w32_0, wbi0, Classical.not_not] at c5); (try simp (disch := omega) only [w32_id] at c5); (try (rw [x_shl1 (by omega) (by omega)] at c5)); (try (have PP := p2_12' (k := d) (by omega); have P0 := @p2_pos d; simp (disch := omega) only [w32_id] at c5))
            first
            | exact L_eq (h _ _ ⟨qdP_F (by decide), by rw [upF_s, bi_f c1, if_neg c1]; rfl⟩) (if_neg c1)
            | (refine L_eq (h _ _ ⟨qdP_F (by decide), by rw [upF_s, bi_t c1, if_pos c1]; rfl⟩) ?_; rw [if_pos c1, if_neg (by omega)]; done)
            | (refine L_eq (h _ _ ⟨qdP_trans (qdP_F (by decide)) (qdP_A (fun b i hb => g1.1 b i (by omega))), by rw [upF_s, bi_t c1, if_pos c1]; rfl⟩) ?_
               simp (disch := omega) only [w32_id, Int.zero_add, x0, x1, x2]
               rw [if_pos c1, if_pos (by omega), y_div_eq (by omega) (by omega) (by omega) (by omega), pl]
               first
               | (rw [if_pos (show 1 - z = 0 by omega), if_pos (show a = 0 by omega), hX]; done)
               | (rw [if_pos (show 1 - z = 0 by omega), if_neg (show ¬ a = 0 by omega), hY]; done)
               | (rw [if_neg (show ¬ 1 - z = 0 by omega), if_pos (show a = 0 by omega), hX]; done)
               | (rw [if_neg (show ¬ 1 - z = 0 by omega), if_neg (show ¬ a = 0 by omega), hY]; done))
          · skip
            (try simp only [w32_0, wbi0, Classical.not_not] at c5); (try simp (disch := omega) only [w32_id] at c5); (try (rw [x_shl1 (by omega) (by omega)] at c5)); (try (have PP := p2_12' (k := d) (by omega); have P0 := @p2_pos d; simp (disch := omega) only [w32_id] at c5))
            refine ⟨by first | exact bi_01 | omega | exact ⟨p1, c1, by omega, by omega, by omega, by omega⟩ | exact ⟨p1, c1, ⟨by omega, by omega⟩, by omega, by omega⟩ | (rw [w32_id (by omega) (by omega)]; omega) | (rw [w64_id (by omega) (by omega)]; omega) | (simp (disch := omega) only [w32_id, Int.zero_add, x0, x1, x2]; omega) | (simp (disch := omega) only [w32_id, Int.zero_add, x0, x1, x2]; rw [w64_id (by omega) (by omega)]; omega), ?_⟩
            intro B_1 g1
            have q3 := (p1.2.2.1 c c1.1 c1.2).1
            have P := @p2_pos d
            have kb : 0 ≤ (if q = p2 d then mF A (18 + c) - 1 else 0) ∧ (if q = p2 d then mF A (18 + c) - 1 else 0) < mF A (18 + c) := by split <;> omega
            have x0 := g1.2 0 _ (by decide) (by decide) kb.1 kb.2
            have x1 := g1.2 1 _ (by decide) (by decide) kb.1 kb.2
            have x2 := g1.2 2 _ (by decide) (by decide) kb.1 kb.2
            have b0 := ceX_b p1 (q := (if q = p2 d then q - 1 else q)) (d := d.toNat) (by omega) c1.1 c1.2 kb.1 kb.2 (show (0 : Int) ≤ 0 by decide) (by decide)
            have b1 := ceX_b p1 (q := (if q = p2 d then q - 1 else q)) (d := d.toNat) (by omega) c1.1 c1.2 kb.1 kb.2 (show (0 : Int) ≤ 1 by decide) (by decide)
            have b2 := (ceX_b p1 (q := (if q = p2 d then q - 1 else q)) (d := d.toNat) (by omega) c1.1 c1.2 kb.1 kb.2 (show (0 : Int) ≤ 2 by decide) (by decide)).2.2 rfl
            rw [show (4 : Int) * 0 = 0 by decide, Int.zero_add] at x0
            rw [show (4 : Int) * 1 = 4 by decide] at x1
            rw [show (4 : Int) * 2 = 8 by decide] at x2
            have pl := fun (w z : Int) => plF_e (f := mF A) (c := c) (d := d) (q := q) (w := w) (z := z)
            generalize hK : (if q = p2 d then mF A (18 + c) - 1 else 0) = K9 at x0 x1 x2 b0 b1 b2 pl kb ⊢
            generalize hQ : (if q = p2 d then q - 1 else q) = Q9 at x0 x1 x2 b0 b1 b2 pl kb ⊢
            generalize hX : ceX (mF A) c d.toNat Q9 0 K9 = X at x0 x1 x2 b0 b1 b2 pl kb ⊢
            generalize hY : ceX (mF A) c d.toNat Q9 1 K9 = Y at x0 x1 x2 b0 b1 b2 pl kb ⊢
            generalize hW : ceX (mF A) c d.toNat Q9 2 K9 = W at x0 x1 x2 b0 b1 b2 pl kb ⊢
            have hg0 := gcd_b (X := X) (show 0 < W by omega)
            have hg1 := gcd_b (X := Y) (show 0 < W by omega)
            refine ⟨fun c6 => ?_, fun c6 => ?_⟩
            · skip
              (try simp only [w32_0, wbi0, Classical.not_not] at c6); (try simp (disch := omega) only [w32_id] at c6); (try (rw [x_shl1 (by omega) (by omega)] at c6)); (try (have PP := p2_12' (k := d) (by omega); have P0 := @p2_pos d; simp (disch := omega) only [w32_id] at c6))
              refine ⟨by first | exact bi_01 | omega | exact ⟨p1, c1, by omega, by omega, by omega, by omega⟩ | exact ⟨p1, c1, ⟨by omega, by omega⟩, by omega, by omega⟩ | (rw [w32_id (by omega) (by omega)]; omega) | (rw [w64_id (by omega) (by omega)]; omega) | (simp (disch := omega) only [w32_id, Int.zero_add, x0, x1, x2]; omega) | (simp (disch := omega) only [w32_id, Int.zero_add, x0, x1, x2]; rw [w64_id (by omega) (by omega)]; omega), ?_⟩
              refine ⟨by first | exact bi_01 | omega | exact ⟨p1, c1, by omega, by omega, by omega, by omega⟩ | exact ⟨p1, c1, ⟨by omega, by omega⟩, by omega, by omega⟩ | (rw [w32_id (by omega) (by omega)]; omega) | (rw [w64_id (by omega) (by omega)]; omega) | (simp (disch := omega) only [w32_id, Int.zero_add, x0, x1, x2]; omega) | (simp (disch := omega) only [w32_id, Int.zero_add, x0, x1, x2]; rw [w64_id (by omega) (by omega)]; omega), ?_⟩
              refine ⟨fun c7 => ?_, fun c7 => ?_⟩
              · skip
                (try simp only [w32_0, wbi0, Classical.not_not] at c7); (try simp (disch := omega) only [w32_id] at c7); (try (rw [x_shl1 (by omega) (by omega)] at c7)); (try (have PP := p2_12' (k := d) (by omega); have P0 := @p2_pos d; simp (disch := omega) only [w32_id] at c7))
                refine ⟨by first | exact bi_01 | omega | exact ⟨p1, c1, by omega, by omega, by omega, by omega⟩ | exact ⟨p1, c1, ⟨by omega, by omega⟩, by omega, by omega⟩ | (rw [w32_id (by omega) (by omega)]; omega) | (rw [w64_id (by omega) (by omega)]; omega) | (simp (disch := omega) only [w32_id, Int.zero_add, x0, x1, x2]; omega) | (simp (disch := omega) only [w32_id, Int.zero_add, x0, x1, x2]; rw [w64_id (by omega) (by omega)]; omega), ?_⟩
                refine ⟨by first | exact bi_01 | omega | exact ⟨p1, c1, by omega, by omega, by omega, by omega⟩ | exact ⟨p1, c1, ⟨by omega, by omega⟩, by omega, by omega⟩ | (rw [w32_id (by omega) (by omega)]; omega) | (rw [w64_id (by omega) (by omega)]; omega) | (simp (disch := omega) only [w32_id, Int.zero_add, x0, x1, x2]; omega) | (simp (disch := omega) only [w32_id, Int.zero_add, x0, x1, x2]; rw [w64_id (by omega) (by omega)]; omega), ?_⟩
                first
                | exact L_eq (h _ _ ⟨qdP_F (by decide), by rw [upF_s, bi_f c1, if_neg c1]; rfl⟩) (if_neg c1)
                | (refine L_eq (h _ _ ⟨qdP_F (by decide), by rw [upF_s, bi_t c1, if_pos c1]; rfl⟩) ?_; rw [if_pos c1, if_neg (by omega)]; done)
                | (refine L_eq (h _ _ ⟨qdP_trans (qdP_F (by decide)) (qdP_A (fun b i hb => g1.1 b i (by omega))), by rw [upF_s, bi_t c1, if_pos c1]; rfl⟩) ?_
                   simp (disch := omega) only [w32_id, Int.zero_add, x0, x1, x2]
                   rw [if_pos c1, if_pos (by omega), y_div_eq (by omega) (by omega) (by omega) (by omega), pl]
                   first
                   | (rw [if_pos (show 1 - z = 0 by omega), if_pos (show a = 0 by omega), hX]; done)
                   | (rw [if_pos (show 1 - z = 0 by omega), if_neg (show ¬ a = 0 by omega), hY]; done)
                   | (rw [if_neg (show ¬ 1 - z = 0 by omega), if_pos (show a = 0 by omega), hX]; done)
                   | (rw [if_neg (show ¬ 1 - z = 0 by omega), if_neg (show ¬ a = 0 by omega), hY]; done))
              · skip
                (try simp only [w32_0, wbi0, Classical.not_not] at c7); (try simp (disch := omega) only [w32_id] at c7); (try (rw [x_shl1 (by omega) (by omega)] at c7)); (try (have PP := p2_12' (k := d) (by omega); have P0 := @p2_pos d; simp (disch := omega) only [w32_id] at c7))
                refine ⟨by first | exact bi_01 | omega | exact ⟨p1, c1, by omega, by omega, by omega, by omega⟩ | exact ⟨p1, c1, ⟨by omega, by omega⟩, by omega, by omega⟩ | (rw [w32_id (by omega) (by omega)]; omega) | (rw [w64_id (by omega) (by omega)]; omega) | (simp (disch := omega) only [w32_id, Int.zero_add, x0, x1, x2]; omega) | (simp (disch := omega) only [w32_id, Int.zero_add, x0, x1, x2]; rw [w64_id (by omega) (by omega)]; omega), ?_⟩
                refine ⟨by first | exact bi_01 | omega | exact ⟨p1, c1, by omega, by omega, by omega, by omega⟩ | exact ⟨p1, c1, ⟨by omega, by omega⟩, by omega, by omega⟩ | (rw [w32_id (by omega) (by omega)]; omega) | (rw [w64_id (by omega) (by omega)]; omega) | (simp (disch := omega) only [w32_id, Int.zero_add, x0, x1, x2]; omega) | (simp (disch := omega) only [w32_id, Int.zero_add, x0, x1, x2]; rw [w64_id (by omega) (by omega)]; omega), ?_⟩
                first
                | exact L_eq (h _ _ ⟨qdP_F (by decide), by rw [upF_s, bi_f c1, if_neg c1]; rfl⟩) (if_neg c1)
                | (refine L_eq (h _ _ ⟨qdP_F (by decide), by rw [upF_s, bi_t c1, if_pos c1]; rfl⟩) ?_; rw [if_pos c1, if_neg (by omega)]; done)
                | (refine L_eq (h _ _ ⟨qdP_trans (qdP_F (by decide)) (qdP_A (fun b i hb => g1.1 b i (by omega))), by rw [upF_s, bi_t c1, if_pos c1]; rfl⟩) ?_
                   simp (disch := omega) only [w32_id, Int.zero_add, x0, x1, x2]
                   rw [if_pos c1, if_pos (by omega), y_div_eq (by omega) (by omega) (by omega) (by omega), pl]
                   first
                   | (rw [if_pos (show 1 - z = 0 by omega), if_pos (show a = 0 by omega), hX]; done)
                   | (rw [if_pos (show 1 - z = 0 by omega), if_neg (show ¬ a = 0 by omega), hY]; done)
                   | (rw [if_neg (show ¬ 1 - z = 0 by omega), if_pos (show a = 0 by omega), hX]; done)
                   | (rw [if_neg (show ¬ 1 - z = 0 by omega), if_neg (show ¬ a = 0 by omega), hY]; done))
            · skip
              (try simp only [w32_0, wbi0, Classical.not_not] at c6); (try simp (disch := omega) only [w32_id] at c6); (try (rw [x_shl1 (by omega) (by omega)] at c6)); (try (have PP := p2_12' (k := d) (by omega); have P0 := @p2_pos d; simp (disch := omega) only [w32_id] at c6))
              refine ⟨by first | exact bi_01 | omega | exact ⟨p1, c1, by omega, by omega, by omega, by omega⟩ | exact ⟨p1, c1, ⟨by omega, by omega⟩, by omega, by omega⟩ | (rw [w32_id (by omega) (by omega)]; omega) | (rw [w64_id (by omega) (by omega)]; omega) | (simp (disch := omega) only [w32_id, Int.zero_add, x0, x1, x2]; omega) | (simp (disch := omega) only [w32_id, Int.zero_add, x0, x1, x2]; rw [w64_id (by omega) (by omega)]; omega), ?_⟩
              refine ⟨by first | exact bi_01 | omega | exact ⟨p1, c1, by omega, by omega, by omega, by omega⟩ | exact ⟨p1, c1, ⟨by omega, by omega⟩, by omega, by omega⟩ | (rw [w32_id (by omega) (by omega)]; omega) | (rw [w64_id (by omega) (by omega)]; omega) | (simp (disch := omega) only [w32_id, Int.zero_add, x0, x1, x2]; omega) | (simp (disch := omega) only [w32_id, Int.zero_add, x0, x1, x2]; rw [w64_id (by omega) (by omega)]; omega), ?_⟩
              refine ⟨fun c7 => ?_, fun c7 => ?_⟩
              · skip
                (try simp only [w32_0, wbi0, Classical.not_not] at c7); (try simp (disch := omega) only [w32_id] at c7); (try (rw [x_shl1 (by omega) (by omega)] at c7)); (try (have PP := p2_12' (k := d) (by omega); have P0 := @p2_pos d; simp (disch := omega) only [w32_id] at c7))
                refine ⟨by first | exact bi_01 | omega | exact ⟨p1, c1, by omega, by omega, by omega, by omega⟩ | exact ⟨p1, c1, ⟨by omega, by omega⟩, by omega, by omega⟩ | (rw [w32_id (by omega) (by omega)]; omega) | (rw [w64_id (by omega) (by omega)]; omega) | (simp (disch := omega) only [w32_id, Int.zero_add, x0, x1, x2]; omega) | (simp (disch := omega) only [w32_id, Int.zero_add, x0, x1, x2]; rw [w64_id (by omega) (by omega)]; omega), ?_⟩
                refine ⟨by first | exact bi_01 | omega | exact ⟨p1, c1, by omega, by omega, by omega, by omega⟩ | exact ⟨p1, c1, ⟨by omega, by omega⟩, by omega, by omega⟩ | (rw [w32_id (by omega) (by omega)]; omega) | (rw [w64_id (by omega) (by omega)]; omega) | (simp (disch := omega) only [w32_id, Int.zero_add, x0, x1, x2]; omega) | (simp (disch := omega) only [w32_id, Int.zero_add, x0, x1, x2]; rw [w64_id (by omega) (by omega)]; omega), ?_⟩
                first
                | exact L_eq (h _ _ ⟨qdP_F (by decide), by rw [upF_s, bi_f c1, if_neg c1]; rfl⟩) (if_neg c1)
                | (refine L_eq (h _ _ ⟨qdP_F (by decide), by rw [upF_s, bi_t c1, if_pos c1]; rfl⟩) ?_; rw [if_pos c1, if_neg (by omega)]; done)
                | (refine L_eq (h _ _ ⟨qdP_trans (qdP_F (by decide)) (qdP_A (fun b i hb => g1.1 b i (by omega))), by rw [upF_s, bi_t c1, if_pos c1]; rfl⟩) ?_
                   simp (disch := omega) only [w32_id, Int.zero_add, x0, x1, x2]
                   rw [if_pos c1, if_pos (by omega), y_div_eq (by omega) (by omega) (by omega) (by omega), pl]
                   first
                   | (rw [if_pos (show 1 - z = 0 by omega), if_pos (show a = 0 by omega), hX]; done)
                   | (rw [if_pos (show 1 - z = 0 by omega), if_neg (show ¬ a = 0 by omega), hY]; done)
                   | (rw [if_neg (show ¬ 1 - z = 0 by omega), if_pos (show a = 0 by omega), hX]; done)
                   | (rw [if_neg (show ¬ 1 - z = 0 by omega), if_neg (show ¬ a = 0 by omega), hY]; done))
              · skip
                (try simp only [w32_0, wbi0, Classical.not_not] at c7); (try simp (disch := omega) only [w32_id] at c7); (try (rw [x_shl1 (by omega) (by omega)] at c7)); (try (have PP := p2_12' (k := d) (by omega); have P0 := @p2_pos d; simp (disch := omega) only [w32_id] at c7))
                refine ⟨by first | exact bi_01 | omega | exact ⟨p1, c1, by omega, by omega, by omega, by omega⟩ | exact ⟨p1, c1, ⟨by omega, by omega⟩, by omega, by omega⟩ | (rw [w32_id (by omega) (by omega)]; omega) | (rw [w64_id (by omega) (by omega)]; omega) | (simp (disch := omega) only [w32_id, Int.zero_add, x0, x1, x2]; omega) | (simp (disch := omega) only [w32_id, Int.zero_add, x0, x1, x2]; rw [w64_id (by omega) (by omega)]; omega), ?_⟩
                refine ⟨by first | exact bi_01 | omega | exact ⟨p1, c1, by omega, by omega, by omega, by omega⟩ | exact ⟨p1, c1, ⟨by omega, by omega⟩, by omega, by omega⟩ | (rw [w32_id (by omega) (by omega)]; omega) | (rw [w64_id (by omega) (by omega)]; omega) | (simp (disch := omega) only [w32_id, Int.zero_add, x0, x1, x2]; omega) | (simp (disch := omega) only [w32_id, Int.zero_add, x0, x1, x2]; rw [w64_id (by omega) (by omega)]; omega), ?_⟩
                first
                | exact L_eq (h _ _ ⟨qdP_F (by decide), by rw [upF_s, bi_f c1, if_neg c1]; rfl⟩) (if_neg c1)
                | (refine L_eq (h _ _ ⟨qdP_F (by decide), by rw [upF_s, bi_t c1, if_pos c1]; rfl⟩) ?_; rw [if_pos c1, if_neg (by omega)]; done)
                | (refine L_eq (h _ _ ⟨qdP_trans (qdP_F (by decide)) (qdP_A (fun b i hb => g1.1 b i (by omega))), by rw [upF_s, bi_t c1, if_pos c1]; rfl⟩) ?_
                   simp (disch := omega) only [w32_id, Int.zero_add, x0, x1, x2]
                   rw [if_pos c1, if_pos (by omega), y_div_eq (by omega) (by omega) (by omega) (by omega), pl]
                   first
                   | (rw [if_pos (show 1 - z = 0 by omega), if_pos (show a = 0 by omega), hX]; done)
                   | (rw [if_pos (show 1 - z = 0 by omega), if_neg (show ¬ a = 0 by omega), hY]; done)
                   | (rw [if_neg (show ¬ 1 - z = 0 by omega), if_pos (show a = 0 by omega), hX]; done)
                   | (rw [if_neg (show ¬ 1 - z = 0 by omega), if_neg (show ¬ a = 0 by omega), hY]; done))
theorem qtX9_placePart (l : Launch) : am_CT l layM qeX9_placePart := am_met0 rfl (by decide +kernel) rfl rfl rfl rfl rfl (fun _ => rfl) rfl (qzX9_placePart l) (fun k e1 h => (qyX9_placePart l k e1 h).2) (fun as F A K h => by
  replace h : qsX9_placePart as F A K := h
  unfold qsX9_placePart at h
  split at h
  · rename_i o c d q a z
    refine ⟨by first | exact Nat.le_of_ble_eq_true rfl | simp [am_fl, am_cat], ?_⟩
    replace h := am_cond2 h
    rcases h with ⟨hb, h⟩ | h
    · skip
      have hb0 := hb
      have hb0 := am_bq hb0
      subst hb0
      exact am_way_line (qvX9_placePart_25 c d q a z F A K h)
    exact h.elim
  · exact h.elim)
def qkX9_placeNumerator : Nat → Option CI := fun pc => cond (Nat.ble 11 pc) none (cond (Nat.ble 4 pc) (cond (Nat.ble 7 pc) (cond (Nat.beq pc 7) (some (.invokevirtual 320, 10, [])) (cond (Nat.beq pc 10) (some (.lreturn, 11, [])) (none))) (cond (Nat.beq pc 4) (some (.iload 4, 6, [])) (cond (Nat.beq pc 6) (some (.iconst 1, 7, [])) (none)))) (cond (Nat.ble 2 pc) (cond (Nat.beq pc 2) (some (.iload_n 2, 3, [])) (cond (Nat.beq pc 3) (some (.iload_n 3, 4, [])) (none))) (cond (Nat.beq pc 0) (some (.aload_n 0, 1, [])) (cond (Nat.beq pc 1) (some (.iload_n 1, 2, [])) (none)))))
theorem qkX9_placeNumerator_ok : ∀ pc i nx ts, qkX9_placeNumerator pc = some (i, nx, ts) → am_cok cX9_placeNumerator pc (i, nx, ts) = true := fun pc i nx ts h => am_tok_ok (n := 11) (by decide +kernel) (fun pc h => by show cond (Nat.ble 11 pc) _ _ = _; rw [Nat.ble_eq_true_of_le h]; rfl) h
def qaX9_placeNumerator : Nat → Option CE := fun k => cond (Nat.beq k 320) (some qeX9_placePart) (none)
theorem qyX9_placeNumerator (l : Launch) : ∀ k e1, qaX9_placeNumerator k = some e1 → am_cal l layM RX9 8 k e1 ∧ ceT e1 = 0 := q_cons ⟨am_calV (ci := 9) (qtX9_placePart l) qbX9_placePart (by decide) rfl (am_tb_at 1711 (by decide +kernel) rfl), rfl⟩ (q_nil)
def qxX9_placeNumerator : CX := (qkX9_placeNumerator, layM, qfX9, qaX9_placeNumerator, qcX9, qlX9, qmX9, (some .long), false, none, 0, none, fun _ => none)
theorem qzX9_placeNumerator (l : Launch) : am_sta l qxX9_placeNumerator RX9 8 cX9_placeNumerator := ⟨qkX9_placeNumerator_ok, layM_ok, qfX9_ok, qcX9_ok, qlX9_ok, am_mthP qmX9_ok (by decide), fun k e1 h => (qyX9_placeNumerator l k e1 h).1⟩
def qsX9_placeNumerator : SP := fun as F A K => match as with
  | [.inr (.inr o), .inl c, .inl d, .inl q, .inl a] => cond (Nat.beq o 25) ((fgOK (mF A) ∧ (-2147483648 ≤ c ∧ c < 2147483648) ∧ (-2147483648 ≤ d ∧ d < 2147483648) ∧ (-2147483648 ≤ q ∧ q < 2147483648) ∧ (-2147483648 ≤ a ∧ a < 2147483648)) ∧ (∀ (G_1 : FF) (B_1 : AA), (qdP F G_1 A B_1 ∧ G_1 25 0 = (if 0 ≤ c ∧ c < mF A 0 then 0 else 1)) → (K (some (some (vL (if 0 ≤ c ∧ c < mF A 0 then (if 0 ≤ d ∧ d ≤ 6 ∧ 0 ≤ q ∧ q ≤ p2 d then plF (mF A) c d q (if a = 0 then 0 else 1) 0 else -1) else 0)))) G_1 B_1))) (False)
  | _ => False
def qeX9_placeNumerator : CE := (yX9_placeNumerator, cX9_placeNumerator, 5, (some .long), 4, some 9, 0, [], 0, 8, qsX9_placeNumerator)
theorem qbX9_placeNumerator : am_mb qeX9_placeNumerator := ⟨am_tb_at 1710 (by decide +kernel) rfl, am_tb_at 124 (by decide +kernel) rfl, ⟨by decide, by decide, by decide +kernel⟩, by decide, by decide, am_tb_at 1708 (by decide +kernel) rfl, am_tb_at 1709 (by decide +kernel) rfl, _, _, rfl⟩
set_option maxRecDepth 20000 in
theorem qvX9_placeNumerator_25 (c : Int) (d : Int) (q : Int) (a : Int) (F : FF) (A : AA) (K : KK) (h : (fgOK (mF A) ∧ (-2147483648 ≤ c ∧ c < 2147483648) ∧ (-2147483648 ≤ d ∧ d < 2147483648) ∧ (-2147483648 ≤ q ∧ q < 2147483648) ∧ (-2147483648 ≤ a ∧ a < 2147483648)) ∧ (∀ (G_1 : FF) (B_1 : AA), (qdP F G_1 A B_1 ∧ G_1 25 0 = (if 0 ≤ c ∧ c < mF A 0 then 0 else 1)) → (K (some (some (vL (if 0 ≤ c ∧ c < mF A 0 then (if 0 ≤ d ∧ d ≤ 6 ∧ 0 ≤ q ∧ q ≤ p2 d then plF (mF A) c d q (if a = 0 then 0 else 1) 0 else -1) else 0)))) G_1 B_1))) : am_line qxX9_placeNumerator 9 [vR 25, vI c, vI d, vI q, vI a] 5 F A K := by
  show am_stp qxX9_placeNumerator (am_run qxX9_placeNumerator (fun _ => none) (fun _ _ _ _ _ _ => False) K 9) K 0 [some (vR 25), some (vI c), some (vI d), some (vI q), some (vI a)] [] F A 0
  obtain ⟨hp, h⟩ := h
  have p1 := hp.1
  have q1 := p1.1.1
  have q2 := p1.1.2
  have q4 := p1.2.1

  show (fgOK (mF A) ∧ (-2147483648 ≤ c ∧ c < 2147483648) ∧ (-2147483648 ≤ d ∧ d < 2147483648) ∧ (-2147483648 ≤ q ∧ q < 2147483648) ∧ (-2147483648 ≤ a ∧ a < 2147483648) ∧ (1 = 0 ∨ 1 = 1)) ∧ (∀ (G_1 : FF) (B_1 : AA), (qdP F G_1 A B_1 ∧ G_1 25 0 = (if 0 ≤ c ∧ c < mF A 0 then 0 else 1)) → (K (some (some (vL (if 0 ≤ c ∧ c < mF A 0 then (if 0 ≤ d ∧ d ≤ 6 ∧ 0 ≤ q ∧ q ≤ p2 d then plF (mF A) c d q (if a = 0 then 0 else 1) (1 - 1) else -1) else 0)))) G_1 B_1))
  refine ⟨by first | exact ⟨hp.1, hp.2.1, hp.2.2.1, hp.2.2.2.1, hp.2.2.2.2, Or.inl rfl⟩ | exact ⟨hp.1, hp.2.1, hp.2.2.1, hp.2.2.2.1, hp.2.2.2.2, Or.inr rfl⟩, ?_⟩
  intro G_1 B_1 g1
  exact h _ _ g1
theorem qtX9_placeNumerator (l : Launch) : am_CT l layM qeX9_placeNumerator := am_met0 rfl (by decide +kernel) rfl rfl rfl rfl rfl (fun _ => rfl) rfl (qzX9_placeNumerator l) (fun k e1 h => (qyX9_placeNumerator l k e1 h).2) (fun as F A K h => by
  replace h : qsX9_placeNumerator as F A K := h
  unfold qsX9_placeNumerator at h
  split at h
  · rename_i o c d q a
    refine ⟨by first | exact Nat.le_of_ble_eq_true rfl | simp [am_fl, am_cat], ?_⟩
    replace h := am_cond2 h
    rcases h with ⟨hb, h⟩ | h
    · skip
      have hb0 := hb
      have hb0 := am_bq hb0
      subst hb0
      exact am_way_line (qvX9_placeNumerator_25 c d q a F A K h)
    exact h.elim
  · exact h.elim)
def qkX9_placeDenominator : Nat → Option CI := fun pc => cond (Nat.ble 11 pc) none (cond (Nat.ble 4 pc) (cond (Nat.ble 7 pc) (cond (Nat.beq pc 7) (some (.invokevirtual 320, 10, [])) (cond (Nat.beq pc 10) (some (.lreturn, 11, [])) (none))) (cond (Nat.beq pc 4) (some (.iload 4, 6, [])) (cond (Nat.beq pc 6) (some (.iconst 0, 7, [])) (none)))) (cond (Nat.ble 2 pc) (cond (Nat.beq pc 2) (some (.iload_n 2, 3, [])) (cond (Nat.beq pc 3) (some (.iload_n 3, 4, [])) (none))) (cond (Nat.beq pc 0) (some (.aload_n 0, 1, [])) (cond (Nat.beq pc 1) (some (.iload_n 1, 2, [])) (none)))))
theorem qkX9_placeDenominator_ok : ∀ pc i nx ts, qkX9_placeDenominator pc = some (i, nx, ts) → am_cok cX9_placeDenominator pc (i, nx, ts) = true := fun pc i nx ts h => am_tok_ok (n := 11) (by decide +kernel) (fun pc h => by show cond (Nat.ble 11 pc) _ _ = _; rw [Nat.ble_eq_true_of_le h]; rfl) h
def qaX9_placeDenominator : Nat → Option CE := fun k => cond (Nat.beq k 320) (some qeX9_placePart) (none)
theorem qyX9_placeDenominator (l : Launch) : ∀ k e1, qaX9_placeDenominator k = some e1 → am_cal l layM RX9 8 k e1 ∧ ceT e1 = 0 := q_cons ⟨am_calV (ci := 9) (qtX9_placePart l) qbX9_placePart (by decide) rfl (am_tb_at 1711 (by decide +kernel) rfl), rfl⟩ (q_nil)
def qxX9_placeDenominator : CX := (qkX9_placeDenominator, layM, qfX9, qaX9_placeDenominator, qcX9, qlX9, qmX9, (some .long), false, none, 0, none, fun _ => none)
theorem qzX9_placeDenominator (l : Launch) : am_sta l qxX9_placeDenominator RX9 8 cX9_placeDenominator := ⟨qkX9_placeDenominator_ok, layM_ok, qfX9_ok, qcX9_ok, qlX9_ok, am_mthP qmX9_ok (by decide), fun k e1 h => (qyX9_placeDenominator l k e1 h).1⟩
def qsX9_placeDenominator : SP := fun as F A K => match as with
  | [.inr (.inr o), .inl c, .inl d, .inl q, .inl a] => cond (Nat.beq o 25) ((fgOK (mF A) ∧ (-2147483648 ≤ c ∧ c < 2147483648) ∧ (-2147483648 ≤ d ∧ d < 2147483648) ∧ (-2147483648 ≤ q ∧ q < 2147483648) ∧ (-2147483648 ≤ a ∧ a < 2147483648)) ∧ (∀ (G_1 : FF) (B_1 : AA), (qdP F G_1 A B_1 ∧ G_1 25 0 = (if 0 ≤ c ∧ c < mF A 0 then 0 else 1)) → (K (some (some (vL (if 0 ≤ c ∧ c < mF A 0 then (if 0 ≤ d ∧ d ≤ 6 ∧ 0 ≤ q ∧ q ≤ p2 d then plF (mF A) c d q (if a = 0 then 0 else 1) 1 else -1) else 0)))) G_1 B_1))) (False)
  | _ => False
def qeX9_placeDenominator : CE := (yX9_placeDenominator, cX9_placeDenominator, 5, (some .long), 4, some 9, 0, [], 0, 8, qsX9_placeDenominator)
theorem qbX9_placeDenominator : am_mb qeX9_placeDenominator := ⟨am_tb_at 1725 (by decide +kernel) rfl, am_tb_at 124 (by decide +kernel) rfl, ⟨by decide, by decide, by decide +kernel⟩, by decide, by decide, am_tb_at 1723 (by decide +kernel) rfl, am_tb_at 1724 (by decide +kernel) rfl, _, _, rfl⟩
set_option maxRecDepth 20000 in
theorem qvX9_placeDenominator_25 (c : Int) (d : Int) (q : Int) (a : Int) (F : FF) (A : AA) (K : KK) (h : (fgOK (mF A) ∧ (-2147483648 ≤ c ∧ c < 2147483648) ∧ (-2147483648 ≤ d ∧ d < 2147483648) ∧ (-2147483648 ≤ q ∧ q < 2147483648) ∧ (-2147483648 ≤ a ∧ a < 2147483648)) ∧ (∀ (G_1 : FF) (B_1 : AA), (qdP F G_1 A B_1 ∧ G_1 25 0 = (if 0 ≤ c ∧ c < mF A 0 then 0 else 1)) → (K (some (some (vL (if 0 ≤ c ∧ c < mF A 0 then (if 0 ≤ d ∧ d ≤ 6 ∧ 0 ≤ q ∧ q ≤ p2 d then plF (mF A) c d q (if a = 0 then 0 else 1) 1 else -1) else 0)))) G_1 B_1))) : am_line qxX9_placeDenominator 9 [vR 25, vI c, vI d, vI q, vI a] 5 F A K := by
  show am_stp qxX9_placeDenominator (am_run qxX9_placeDenominator (fun _ => none) (fun _ _ _ _ _ _ => False) K 9) K 0 [some (vR 25), some (vI c), some (vI d), some (vI q), some (vI a)] [] F A 0
  obtain ⟨hp, h⟩ := h
  have p1 := hp.1
  have q1 := p1.1.1
  have q2 := p1.1.2
  have q4 := p1.2.1

  show (fgOK (mF A) ∧ (-2147483648 ≤ c ∧ c < 2147483648) ∧ (-2147483648 ≤ d ∧ d < 2147483648) ∧ (-2147483648 ≤ q ∧ q < 2147483648) ∧ (-2147483648 ≤ a ∧ a < 2147483648) ∧ (0 = 0 ∨ 0 = 1)) ∧ (∀ (G_1 : FF) (B_1 : AA), (qdP F G_1 A B_1 ∧ G_1 25 0 = (if 0 ≤ c ∧ c < mF A 0 then 0 else 1)) → (K (some (some (vL (if 0 ≤ c ∧ c < mF A 0 then (if 0 ≤ d ∧ d ≤ 6 ∧ 0 ≤ q ∧ q ≤ p2 d then plF (mF A) c d q (if a = 0 then 0 else 1) (1 - 0) else -1) else 0)))) G_1 B_1))
  refine ⟨by first | exact ⟨hp.1, hp.2.1, hp.2.2.1, hp.2.2.2.1, hp.2.2.2.2, Or.inl rfl⟩ | exact ⟨hp.1, hp.2.1, hp.2.2.1, hp.2.2.2.1, hp.2.2.2.2, Or.inr rfl⟩, ?_⟩
  intro G_1 B_1 g1
  exact h _ _ g1
theorem qtX9_placeDenominator (l : Launch) : am_CT l layM qeX9_placeDenominator := am_met0 rfl (by decide +kernel) rfl rfl rfl rfl rfl (fun _ => rfl) rfl (qzX9_placeDenominator l) (fun k e1 h => (qyX9_placeDenominator l k e1 h).2) (fun as F A K h => by
  replace h : qsX9_placeDenominator as F A K := h
  unfold qsX9_placeDenominator at h
  split at h
  · rename_i o c d q a
    refine ⟨by first | exact Nat.le_of_ble_eq_true rfl | simp [am_fl, am_cat], ?_⟩
    replace h := am_cond2 h
    rcases h with ⟨hb, h⟩ | h
    · skip
      have hb0 := hb
      have hb0 := am_bq hb0
      subst hb0
      exact am_way_line (qvX9_placeDenominator_25 c d q a F A K h)
    exact h.elim
  · exact h.elim)
