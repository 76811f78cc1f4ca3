def qkX9_laysBoxes : Nat → Option CI := fun pc => cond (Nat.ble 60 pc) none (cond (Nat.ble 25 pc) (cond (Nat.ble 39 pc) (cond (Nat.ble 47 pc) (cond (Nat.ble 53 pc) (cond (Nat.beq pc 53) (some (.iinc 3 1, 56, [])) (cond (Nat.beq pc 56) (some (.goto (-54), 59, [2])) (cond (Nat.beq pc 59) (some (.return_, 60, [])) (none)))) (cond (Nat.beq pc 47) (some (.iinc 4 1, 50, [])) (cond (Nat.beq pc 50) (some (.goto (-36), 53, [14])) (none)))) (cond (Nat.ble 41 pc) (cond (Nat.beq pc 41) (some (.invokevirtual 80, 44, [])) (cond (Nat.beq pc 44) (some (.invokevirtual 169, 47, [])) (none))) (cond (Nat.beq pc 39) (some (.aload_n 0, 40, [])) (cond (Nat.beq pc 40) (some (.iload_n 1, 41, [])) (none))))) (cond (Nat.ble 32 pc) (cond (Nat.ble 35 pc) (cond (Nat.beq pc 35) (some (.invokestatic 166, 38, [])) (cond (Nat.beq pc 38) (some (.iadd, 39, [])) (none))) (cond (Nat.beq pc 32) (some (.iload_n 3, 33, [])) (cond (Nat.beq pc 33) (some (.iload 4, 35, [])) (none)))) (cond (Nat.ble 30 pc) (cond (Nat.beq pc 30) (some (.aload_n 0, 31, [])) (cond (Nat.beq pc 31) (some (.iload_n 2, 32, [])) (none))) (cond (Nat.beq pc 25) (some (.iload 4, 27, [])) (cond (Nat.beq pc 27) (some (.invokevirtual 163, 30, [])) (none)))))) (cond (Nat.ble 12 pc) (cond (Nat.ble 18 pc) (cond (Nat.ble 22 pc) (cond (Nat.beq pc 22) (some (.aload_n 0, 23, [])) (cond (Nat.beq pc 23) (some (.iload_n 1, 24, [])) (cond (Nat.beq pc 24) (some (.iload_n 3, 25, [])) (none)))) (cond (Nat.beq pc 18) (some (.ishl, 19, [])) (cond (Nat.beq pc 19) (some (.if_icmp .ge 34, 22, [53])) (none)))) (cond (Nat.ble 16 pc) (cond (Nat.beq pc 16) (some (.iconst 1, 17, [])) (cond (Nat.beq pc 17) (some (.iload_n 3, 18, [])) (none))) (cond (Nat.beq pc 12) (some (.istore 4, 14, [])) (cond (Nat.beq pc 14) (some (.iload 4, 16, [])) (none))))) (cond (Nat.ble 4 pc) (cond (Nat.ble 8 pc) (cond (Nat.beq pc 8) (some (.if_icmp .gt 51, 11, [59])) (cond (Nat.beq pc 11) (some (.iconst 0, 12, [])) (none))) (cond (Nat.beq pc 4) (some (.iconst 1, 5, [])) (cond (Nat.beq pc 5) (some (.invokevirtual 114, 8, [])) (none)))) (cond (Nat.ble 2 pc) (cond (Nat.beq pc 2) (some (.iload_n 3, 3, [])) (cond (Nat.beq pc 3) (some (.aload_n 0, 4, [])) (none))) (cond (Nat.beq pc 0) (some (.iconst 0, 1, [])) (cond (Nat.beq pc 1) (some (.istore_n 3, 2, [])) (none)))))))
theorem qkX9_laysBoxes_ok : ∀ pc i nx ts, qkX9_laysBoxes pc = some (i, nx, ts) → am_cok cX9_laysBoxes pc (i, nx, ts) = true := fun pc i nx ts h => am_tok_ok (n := 60) (by decide +kernel) (fun pc h => by show cond (Nat.ble 60 pc) _ _ = _; rw [Nat.ble_eq_true_of_le h]; rfl) h
def qaX9_laysBoxes : Nat → Option CE := fun k => cond (Nat.beq k 114) (some qeX9_set) (cond (Nat.beq k 163) (some qeX9_laysCell) (cond (Nat.beq k 166) (some qeX9_boxAt) (cond (Nat.beq k 80) (some qeX9_order) (cond (Nat.beq k 169) (some qeX9_laysBox) (none)))))
theorem qyX9_laysBoxes (l : Launch) : ∀ k e1, qaX9_laysBoxes k = some e1 → am_cal l layM RX9 6 k e1 ∧ ceT e1 = 0 := q_cons ⟨am_calV (ci := 9) (qtX9_set l) qbX9_set (by decide) rfl (am_tb_at 1643 (by decide +kernel) rfl), rfl⟩ (q_cons ⟨am_calV (ci := 9) (qtX9_laysCell l) qbX9_laysCell (by decide) rfl (am_tb_at 1699 (by decide +kernel) rfl), rfl⟩ (q_cons ⟨am_calS (qtX9_boxAt l) qbX9_boxAt (by decide) rfl (by decide) (am_tb_at 1957 (by decide +kernel) rfl), rfl⟩ (q_cons ⟨am_calV (ci := 9) (qtX9_order l) qbX9_order (by decide) rfl (am_tb_at 1659 (by decide +kernel) rfl), rfl⟩ (q_cons ⟨am_calV (ci := 9) (qtX9_laysBox l) qbX9_laysBox (by decide) rfl (am_tb_at 1730 (by decide +kernel) rfl), rfl⟩ (q_nil)))))
def qxX9_laysBoxes : CX := (qkX9_laysBoxes, layM, qfX9, qaX9_laysBoxes, qcX9, qlX9, qmX9, none, false, none, 0, none, fun _ => none)
theorem qzX9_laysBoxes (l : Launch) : am_sta l qxX9_laysBoxes RX9 6 cX9_laysBoxes := ⟨qkX9_laysBoxes_ok, layM_ok, qfX9_ok, qcX9_ok, qlX9_ok, am_mthP qmX9_ok (by decide), fun k e1 h => (qyX9_laysBoxes l k e1 h).1⟩
def qsX9_laysBoxes : SP := fun as F A K => match as with
  | [.inr (.inr o), .inl c, .inl p] => cond (Nat.beq o 25) ((fgOK (mF A) ∧ (0 ≤ c ∧ c < mF A 0) ∧ (p = 0 ∨ p = 1016)) ∧ (∀ (B_1 : AA), ((∀ bb ii, bb ≠ 32 ∧ bb ≠ 33 ∧ (bb ≠ 38 ∨ ii < p ∨ p + 1016 ≤ ii) → B_1 bb ii = A bb ii) ∧ ∀ dd qq, 0 ≤ dd → dd ≤ mF A 3 → 0 ≤ qq → qq < p2 dd → bxC (mF A) c dd qq (B_1 38) (p + 8 * (p2 dd - 1 + qq))) → (K (some none) F B_1))) (False)
  | _ => False
def qeX9_laysBoxes : CE := (yX9_laysBoxes, cX9_laysBoxes, 5, none, 2, some 9, 0, [], 0, 6, qsX9_laysBoxes)
theorem qbX9_laysBoxes : am_mb qeX9_laysBoxes := ⟨am_tb_at 1956 (by decide +kernel) rfl, am_tb_at 124 (by decide +kernel) rfl, ⟨by decide, by decide, by decide +kernel⟩, by decide, by decide, am_tb_at 1955 (by decide +kernel) rfl, am_tb_at 104 (by decide +kernel) rfl, _, _, rfl⟩
def qnX9_laysBoxes_25 : CUT := fun pc => cond (Nat.beq pc 2) (some [true, true, true, true, false]) (cond (Nat.beq pc 14) (some [true, true, true, true, true]) (none))
def qiX9_laysBoxes_25 (c : Int) (p : Int) (F0 : FF) (A0 : AA) : REC := fun pc ls st F A u => cond (Nat.beq pc 2) (match ls, st, u with
    | [some (.inr (.inr s0)), some (.inl s1), some (.inl s2), some (.inl e), none], [], 0 => s0 = 25 ∧ s1 = c ∧ s2 = p ∧ F = F0 ∧ ((0 ≤ e ∧ e ≤ mF A0 3 + 1) ∧ (∀ bb ii, bb ≠ 32 ∧ bb ≠ 33 ∧ (bb ≠ 38 ∨ ii < p ∨ p + 1016 ≤ ii) → A bb ii = A0 bb ii) ∧ ∀ dd qq, 0 ≤ dd → dd < e → 0 ≤ qq → qq < p2 dd → bxC (mF A0) c dd qq (A 38) (p + 8 * (p2 dd - 1 + qq)))
    | _, _, _ => False) (cond (Nat.beq pc 14) (match ls, st, u with
    | [some (.inr (.inr s0)), some (.inl s1), some (.inl s2), some (.inl e), some (.inl q)], [], 0 => s0 = 25 ∧ s1 = c ∧ s2 = p ∧ F = F0 ∧ ((0 ≤ e ∧ e ≤ mF A0 3) ∧ (0 ≤ q ∧ q ≤ p2 e) ∧ (∀ bb ii, bb ≠ 32 ∧ bb ≠ 33 ∧ (bb ≠ 38 ∨ ii < p ∨ p + 1016 ≤ ii) → A bb ii = A0 bb ii) ∧ (∀ dd qq, 0 ≤ dd → dd < e → 0 ≤ qq → qq < p2 dd → bxC (mF A0) c dd qq (A 38) (p + 8 * (p2 dd - 1 + qq))) ∧ ∀ qq, 0 ≤ qq → qq < q → bxC (mF A0) c e qq (A 38) (p + 8 * (p2 e - 1 + qq)))
    | _, _, _ => False) (False))
def quX9_laysBoxes_25 : Nat → LVs → List AV → FF → AA → Nat := fun pc ls _ F A => cond (Nat.beq pc 2) (match ls with
    | [some (.inr (.inr s0)), some (.inl s1), some (.inl s2), some (.inl e), none] => Int.toNat (20 - e) * 1000 + 500
    | _ => 0) (cond (Nat.beq pc 14) (match ls with
    | [some (.inr (.inr s0)), some (.inl s1), some (.inl s2), some (.inl e), some (.inl q)] => Int.toNat (20 - e) * 1000 + Int.toNat (400 - q)
    | _ => 0) (0))
set_option maxRecDepth 20000 in
theorem qvX9_laysBoxes_25_0 (c : Int) (p : Int) (F0 : FF) (A0 : AA) (K : KK) (h : (fgOK (mF A0) ∧ (0 ≤ c ∧ c < mF A0 0) ∧ (p = 0 ∨ p = 1016)) ∧ (∀ (B_1 : AA), ((∀ bb ii, bb ≠ 32 ∧ bb ≠ 33 ∧ (bb ≠ 38 ∨ ii < p ∨ p + 1016 ≤ ii) → B_1 bb ii = A0 bb ii) ∧ ∀ dd qq, 0 ≤ dd → dd ≤ mF A0 3 → 0 ≤ qq → qq < p2 dd → bxC (mF A0) c dd qq (B_1 38) (p + 8 * (p2 dd - 1 + qq))) → (K (some none) F0 B_1))) : am_stp qxX9_laysBoxes (am_run qxX9_laysBoxes qnX9_laysBoxes_25 (qiX9_laysBoxes_25 c p F0 A0) K 25) K 0 (am_ent [vR 25, vI c, vI p] 5) [] F0 A0 0 := by
  show am_stp qxX9_laysBoxes (am_run qxX9_laysBoxes qnX9_laysBoxes_25 (qiX9_laysBoxes_25 c p F0 A0) K 25) K 0 [some (vR 25), some (vI c), some (vI p), none, none] [] F0 A0 0
  obtain ⟨hp, h⟩ := h
  obtain ⟨p1, p2', p3⟩ := hp
  have q1 := p1.1.1
  have q3 := (p1.2.2.1 c p2'.1 p2'.2).1
  have q4 := p1.2.1.2
  show 25 = 25 ∧ c = c ∧ p = p ∧ F0 = F0 ∧ ((0 ≤ 0 ∧ 0 ≤ mF A0 3 + 1) ∧ (∀ bb ii, bb ≠ 32 ∧ bb ≠ 33 ∧ (bb ≠ 38 ∨ ii < p ∨ p + 1016 ≤ ii) → A0 bb ii = A0 bb ii) ∧ ∀ dd qq, 0 ≤ dd → dd < 0 → 0 ≤ qq → qq < p2 dd → bxC (mF A0) c dd qq (A0 38) (p + 8 * (p2 dd - 1 + qq)))
  refine ⟨rfl, rfl, rfl, rfl, ?_⟩
  exact ⟨by omega, fun _ _ _ => rfl, fun dd qq d0 d1 q0 q1 => by omega⟩
set_option maxRecDepth 20000 in
theorem qvX9_laysBoxes_25_2 (c : Int) (p : Int) (F0 : FF) (A0 : AA) (K : KK) (h : (fgOK (mF A0) ∧ (0 ≤ c ∧ c < mF A0 0) ∧ (p = 0 ∨ p = 1016)) ∧ (∀ (B_1 : AA), ((∀ bb ii, bb ≠ 32 ∧ bb ≠ 33 ∧ (bb ≠ 38 ∨ ii < p ∨ p + 1016 ≤ ii) → B_1 bb ii = A0 bb ii) ∧ ∀ dd qq, 0 ≤ dd → dd ≤ mF A0 3 → 0 ≤ qq → qq < p2 dd → bxC (mF A0) c dd qq (B_1 38) (p + 8 * (p2 dd - 1 + qq))) → (K (some none) F0 B_1))) (e : Int) (A : AA) (hi : (0 ≤ e ∧ e ≤ mF A0 3 + 1) ∧ (∀ bb ii, bb ≠ 32 ∧ bb ≠ 33 ∧ (bb ≠ 38 ∨ ii < p ∨ p + 1016 ≤ ii) → A bb ii = A0 bb ii) ∧ ∀ dd qq, 0 ≤ dd → dd < e → 0 ≤ qq → qq < p2 dd → bxC (mF A0) c dd qq (A 38) (p + 8 * (p2 dd - 1 + qq))) : am_stp qxX9_laysBoxes (am_run qxX9_laysBoxes qnX9_laysBoxes_25 (fun pc ls st F9 A9 u => qiX9_laysBoxes_25 c p F0 A0 pc ls st F9 A9 u ∧ quX9_laysBoxes_25 pc ls st F9 A9 < quX9_laysBoxes_25 2 [some (vR 25), some (vI c), some (vI p), some (vI e), none] [] F0 A) K 25) K 2 [some (vR 25), some (vI c), some (vI p), some (vI e), none] [] F0 A 0 := by
  obtain ⟨hp, h⟩ := h
  obtain ⟨p1, p2', p3⟩ := hp
  have q1 := p1.1.1
  have q3 := (p1.2.2.1 c p2'.1 p2'.2).1
  have q4 := p1.2.1.2
  obtain ⟨h1, hA, hD⟩ := hi
  have eF : mF A = mF A0 := mF_c (funext fun i => hA 2 i (by omega)) (funext fun i => hA 27 i (by omega)) (funext fun i => hA 29 i (by omega))
  show (0 ≤ 1 ∧ 1 ≤ 1) ∧ ((w32 (mF A (2 + 1)) < w32 e → (K (some none) F0 A)) ∧ (¬ w32 (mF A (2 + 1)) < w32 e → ((25 = 25 ∧ c = c ∧ p = p ∧ F0 = F0 ∧ ((0 ≤ e ∧ e ≤ mF A0 3) ∧ (0 ≤ 0 ∧ 0 ≤ p2 e) ∧ (∀ bb ii, bb ≠ 32 ∧ bb ≠ 33 ∧ (bb ≠ 38 ∨ ii < p ∨ p + 1016 ≤ ii) → A bb ii = A0 bb ii) ∧ (∀ dd qq, 0 ≤ dd → dd < e → 0 ≤ qq → qq < p2 dd → bxC (mF A0) c dd qq (A 38) (p + 8 * (p2 dd - 1 + qq))) ∧ ∀ qq, 0 ≤ qq → qq < 0 → bxC (mF A0) c e qq (A 38) (p + 8 * (p2 e - 1 + qq)))) ∧ (Int.toNat (20 - e) * 1000 + Int.toNat (400 - 0)) < (Int.toNat (20 - e) * 1000 + 500))))
  refine ⟨by first | decide | omega, ?_⟩
  refine ⟨fun c1 => ?_, fun c1 => ?_⟩
  · skip
    (try rw [eF] at c1); (try simp only [Int.reduceAdd] at c1); (try simp (disch := omega) only [w32_id] at c1)
    exact h _ ⟨hA, fun dd qq d0 d1 q0 q1 => hD dd qq d0 (by omega) q0 q1⟩
  · skip
    (try rw [eF] at c1); (try simp only [Int.reduceAdd] at c1); (try simp (disch := omega) only [w32_id] at c1)
    refine ⟨⟨rfl, rfl, rfl, rfl, ?_⟩, by omega⟩
    have P := @p2_pos e
    exact ⟨by omega, by omega, hA, hD, fun qq q0 q1 => by omega⟩
set_option maxRecDepth 20000 in
theorem qvX9_laysBoxes_25_14 (c : Int) (p : Int) (F0 : FF) (A0 : AA) (K : KK) (h : (fgOK (mF A0) ∧ (0 ≤ c ∧ c < mF A0 0) ∧ (p = 0 ∨ p = 1016)) ∧ (∀ (B_1 : AA), ((∀ bb ii, bb ≠ 32 ∧ bb ≠ 33 ∧ (bb ≠ 38 ∨ ii < p ∨ p + 1016 ≤ ii) → B_1 bb ii = A0 bb ii) ∧ ∀ dd qq, 0 ≤ dd → dd ≤ mF A0 3 → 0 ≤ qq → qq < p2 dd → bxC (mF A0) c dd qq (B_1 38) (p + 8 * (p2 dd - 1 + qq))) → (K (some none) F0 B_1))) (e : Int) (q : Int) (A : AA) (hi : (0 ≤ e ∧ e ≤ mF A0 3) ∧ (0 ≤ q ∧ q ≤ p2 e) ∧ (∀ bb ii, bb ≠ 32 ∧ bb ≠ 33 ∧ (bb ≠ 38 ∨ ii < p ∨ p + 1016 ≤ ii) → A bb ii = A0 bb ii) ∧ (∀ dd qq, 0 ≤ dd → dd < e → 0 ≤ qq → qq < p2 dd → bxC (mF A0) c dd qq (A 38) (p + 8 * (p2 dd - 1 + qq))) ∧ ∀ qq, 0 ≤ qq → qq < q → bxC (mF A0) c e qq (A 38) (p + 8 * (p2 e - 1 + qq))) : am_stp qxX9_laysBoxes (am_run qxX9_laysBoxes qnX9_laysBoxes_25 (fun pc ls st F9 A9 u => qiX9_laysBoxes_25 c p F0 A0 pc ls st F9 A9 u ∧ quX9_laysBoxes_25 pc ls st F9 A9 < quX9_laysBoxes_25 14 [some (vR 25), some (vI c), some (vI p), some (vI e), some (vI q)] [] F0 A) K 25) K 14 [some (vR 25), some (vI c), some (vI p), some (vI e), some (vI q)] [] F0 A 0 := by
  obtain ⟨hp, h⟩ := h
  obtain ⟨p1, p2', p3⟩ := hp
  have q1 := p1.1.1
  have q3 := (p1.2.2.1 c p2'.1 p2'.2).1
  have q4 := p1.2.1.2
  obtain ⟨h1, h2, hA, hD, hN⟩ := hi
  have eF : mF A = mF A0 := mF_c (funext fun i => hA 2 i (by omega)) (funext fun i => hA 27 i (by omega)) (funext fun i => hA 29 i (by omega))
  have P := @p2_pos e
  have PP := p2_le (j := e) (k := 6) (by omega)
  rw [p2_6] at PP
  have esh : x_shl 1 e = p2 e := x_shl1 (by omega) (by omega)
  show (w32 q < w32 (x_shl 1 e) → ((fgOK (mF A) ∧ (0 ≤ c ∧ c < mF A 0) ∧ (0 ≤ e ∧ e ≤ 6) ∧ 0 ≤ q ∧ q < p2 e) ∧ (∀ (B_1 : AA), ((∀ b i, b ≠ 32 ∧ b ≠ 33 → B_1 b i = A b i) ∧ ∀ w k, 0 ≤ w → w ≤ 2 → 0 ≤ k → k < mF A (18 + c) → B_1 33 (4 * w + k) = ceX (mF A) c (Int.toNat e) q w k) → (((0 ≤ e ∧ e ≤ 6) ∧ 0 ≤ q ∧ q < p2 e) ∧ ((0 ≤ c ∧ c < 8) ∧ (((0 ≤ (p + (8 * (p2 e - 1 + q))) ∧ (p + (8 * (p2 e - 1 + q))) ≤ 2024) ∧ (1 ≤ (mF B_1 (18 + c) - 1) ∧ (mF B_1 (18 + c) - 1) ≤ 3) ∧ clO (B_1 33) (mF B_1 (18 + c) - 1)) ∧ (∀ (B_2 : AA), ((∀ bb ii, bb ≠ 38 ∨ ii < (p + (8 * (p2 e - 1 + q))) ∨ (p + (8 * (p2 e - 1 + q))) + 8 ≤ ii → B_2 bb ii = B_1 bb ii) ∧ ∀ ss, 0 ≤ ss → ss < 4 → lbP (B_1 33) (mF B_1 (18 + c) - 1) (B_2 38) (p + (8 * (p2 e - 1 + q))) ss) → ((25 = 25 ∧ c = c ∧ p = p ∧ F0 = F0 ∧ ((0 ≤ e ∧ e ≤ mF A0 3) ∧ (0 ≤ (q + 1) ∧ (q + 1) ≤ p2 e) ∧ (∀ bb ii, bb ≠ 32 ∧ bb ≠ 33 ∧ (bb ≠ 38 ∨ ii < p ∨ p + 1016 ≤ ii) → B_2 bb ii = A0 bb ii) ∧ (∀ dd qq, 0 ≤ dd → dd < e → 0 ≤ qq → qq < p2 dd → bxC (mF A0) c dd qq (B_2 38) (p + 8 * (p2 dd - 1 + qq))) ∧ ∀ qq, 0 ≤ qq → qq < (q + 1) → bxC (mF A0) c e qq (B_2 38) (p + 8 * (p2 e - 1 + qq)))) ∧ (Int.toNat (20 - e) * 1000 + Int.toNat (400 - (q + 1))) < (Int.toNat (20 - e) * 1000 + Int.toNat (400 - q)))))))))) ∧ (¬ w32 q < w32 (x_shl 1 e) → ((25 = 25 ∧ c = c ∧ p = p ∧ F0 = F0 ∧ ((0 ≤ (e + 1) ∧ (e + 1) ≤ mF A0 3 + 1) ∧ (∀ bb ii, bb ≠ 32 ∧ bb ≠ 33 ∧ (bb ≠ 38 ∨ ii < p ∨ p + 1016 ≤ ii) → A bb ii = A0 bb ii) ∧ ∀ dd qq, 0 ≤ dd → dd < (e + 1) → 0 ≤ qq → qq < p2 dd → bxC (mF A0) c dd qq (A 38) (p + 8 * (p2 dd - 1 + qq)))) ∧ (Int.toNat (20 - (e + 1)) * 1000 + 500) < (Int.toNat (20 - e) * 1000 + Int.toNat (400 - q))))
  refine ⟨fun c1 => ?_, fun c1 => ?_⟩
  · skip
    (try rw [eF] at c1); (try simp only [Int.reduceAdd] at c1); (try rw [esh] at c1); (try simp (disch := omega) only [w32_id] at c1)
    refine ⟨by first | omega | (rw [eF]; exact ⟨p1, p2', ⟨by omega, by omega⟩, by omega, by omega⟩) | exact ⟨⟨by omega, by omega⟩, by omega, by omega⟩ | (have nb := node_b h1.1 (by omega) h2.1 (show q < p2 e by omega); have e1 : mF B_1 = mF A0 := (mF_c (funext fun i => g1.1 2 i (by decide)) (funext fun i => g1.1 27 i (by decide)) (funext fun i => g1.1 29 i (by decide))).trans eF; rw [eF] at g1; rw [e1]; exact ⟨by omega, by omega, ce_clO p1 (q := q) (d := e.toNat) (by omega) p2'.1 p2'.2 g1.2⟩), ?_⟩
    intro B_1 g1
    refine ⟨by first | omega | (rw [eF]; exact ⟨p1, p2', ⟨by omega, by omega⟩, by omega, by omega⟩) | exact ⟨⟨by omega, by omega⟩, by omega, by omega⟩ | (have nb := node_b h1.1 (by omega) h2.1 (show q < p2 e by omega); have e1 : mF B_1 = mF A0 := (mF_c (funext fun i => g1.1 2 i (by decide)) (funext fun i => g1.1 27 i (by decide)) (funext fun i => g1.1 29 i (by decide))).trans eF; rw [eF] at g1; rw [e1]; exact ⟨by omega, by omega, ce_clO p1 (q := q) (d := e.toNat) (by omega) p2'.1 p2'.2 g1.2⟩), ?_⟩
    refine ⟨by first | omega | (rw [eF]; exact ⟨p1, p2', ⟨by omega, by omega⟩, by omega, by omega⟩) | exact ⟨⟨by omega, by omega⟩, by omega, by omega⟩ | (have nb := node_b h1.1 (by omega) h2.1 (show q < p2 e by omega); have e1 : mF B_1 = mF A0 := (mF_c (funext fun i => g1.1 2 i (by decide)) (funext fun i => g1.1 27 i (by decide)) (funext fun i => g1.1 29 i (by decide))).trans eF; rw [eF] at g1; rw [e1]; exact ⟨by omega, by omega, ce_clO p1 (q := q) (d := e.toNat) (by omega) p2'.1 p2'.2 g1.2⟩), ?_⟩
    refine ⟨by first | omega | (rw [eF]; exact ⟨p1, p2', ⟨by omega, by omega⟩, by omega, by omega⟩) | exact ⟨⟨by omega, by omega⟩, by omega, by omega⟩ | (have nb := node_b h1.1 (by omega) h2.1 (show q < p2 e by omega); have e1 : mF B_1 = mF A0 := (mF_c (funext fun i => g1.1 2 i (by decide)) (funext fun i => g1.1 27 i (by decide)) (funext fun i => g1.1 29 i (by decide))).trans eF; rw [eF] at g1; rw [e1]; exact ⟨by omega, by omega, ce_clO p1 (q := q) (d := e.toNat) (by omega) p2'.1 p2'.2 g1.2⟩), ?_⟩
    intro B_2 g2
    refine ⟨⟨rfl, rfl, rfl, rfl, ?_⟩, by omega⟩
    have nb := node_b h1.1 (by omega) h2.1 (show q < p2 e by omega)
    have e1 : mF B_1 = mF A0 := (mF_c (funext fun i => g1.1 2 i (by decide)) (funext fun i => g1.1 27 i (by decide)) (funext fun i => g1.1 29 i (by decide))).trans eF
    rw [e1] at g2
    rw [eF] at g1
    refine ⟨h1, by omega, fun bb ii hb => (g2.1 bb ii (by omega)).trans ((g1.1 bb ii (by omega)).trans (hA bb ii hb)), fun dd qq d0 d1 q0 q1 => ?_, fun qq q0 q1 => ?_⟩
    · have nl := node_lt (r := q) q1 d0 d1 h2.1
      exact bxC_c (fun i i0 i1 => (g2.1 38 i (by omega)).trans (g1.1 38 i (by decide))) (hD dd qq d0 d1 q0 q1)
    · by_cases z : qq = q
      · subst z; exact lb_bx q3.1 g1.2 g2.2
      · exact bxC_c (fun i i0 i1 => (g2.1 38 i (by omega)).trans (g1.1 38 i (by decide))) (hN qq q0 (by omega))
  · skip
    (try rw [eF] at c1); (try simp only [Int.reduceAdd] at c1); (try rw [esh] at c1); (try simp (disch := omega) only [w32_id] at c1)
    refine ⟨⟨rfl, rfl, rfl, rfl, ?_⟩, by omega⟩
    have eq : q = p2 e := by omega
    subst eq
    refine ⟨by omega, hA, fun dd qq d0 d1 q0 q1 => ?_⟩
    by_cases z : dd = e
    · subst z; exact hN qq q0 q1
    · exact hD dd qq d0 (by omega) q0 q1
set_option maxRecDepth 20000 in
theorem qvX9_laysBoxes_25 (c : Int) (p : Int) (F0 : FF) (A0 : AA) (K : KK) (h : (fgOK (mF A0) ∧ (0 ≤ c ∧ c < mF A0 0) ∧ (p = 0 ∨ p = 1016)) ∧ (∀ (B_1 : AA), ((∀ bb ii, bb ≠ 32 ∧ bb ≠ 33 ∧ (bb ≠ 38 ∨ ii < p ∨ p + 1016 ≤ ii) → B_1 bb ii = A0 bb ii) ∧ ∀ dd qq, 0 ≤ dd → dd ≤ mF A0 3 → 0 ≤ qq → qq < p2 dd → bxC (mF A0) c dd qq (B_1 38) (p + 8 * (p2 dd - 1 + qq))) → (K (some none) F0 B_1))) : am_body qxX9_laysBoxes qnX9_laysBoxes_25 25 (qiX9_laysBoxes_25 c p F0 A0) quX9_laysBoxes_25 [vR 25, vI c, vI p] 5 F0 A0 K := by
  refine ⟨qvX9_laysBoxes_25_0 c p F0 A0 K h, fun pc ls st F A u hI => ?_⟩
  unfold qiX9_laysBoxes_25 at hI
  replace hI := am_cond2 hI
  rcases hI with ⟨hb, hI⟩ | hI
  · have hb := am_bq hb
    subst hb
    split at hI
    · rename_i s0 s1 s2 e
      obtain ⟨e0, e1, e2, e3, hI⟩ := hI
      subst e0
      subst e1
      subst e2
      subst e3
      exact qvX9_laysBoxes_25_2 _ _ _ _ K h _ _ hI
    · exact hI.elim
  replace hI := am_cond2 hI
  rcases hI with ⟨hb, hI⟩ | hI
  · have hb := am_bq hb
    subst hb
    split at hI
    · rename_i s0 s1 s2 e q
      obtain ⟨e0, e1, e2, e3, hI⟩ := hI
      subst e0
      subst e1
      subst e2
      subst e3
      exact qvX9_laysBoxes_25_14 _ _ _ _ K h _ _ _ hI
    · exact hI.elim
  exact hI.elim
theorem qtX9_laysBoxes (l : Launch) : am_CT l layM qeX9_laysBoxes := am_met0 rfl (by decide +kernel) rfl rfl rfl rfl rfl (fun _ => rfl) rfl (qzX9_laysBoxes l) (fun k e1 h => (qyX9_laysBoxes l k e1 h).2) (fun as F A K h => by
  replace h : qsX9_laysBoxes as F A K := h
  unfold qsX9_laysBoxes at h
  split at h
  · rename_i o c p
    refine ⟨by first | exact Nat.le_of_ble_eq_true rfl | simp [am_fl, am_cat], ?_⟩
    replace h := am_cond2 h
    rcases h with ⟨hb, h⟩ | h
    · skip
      have hb0 := hb
      have hb0 := am_bq hb0
      subst hb0
      exact am_way_body (qvX9_laysBoxes_25 c p F A K h)
    exact h.elim
  · exact h.elim)
