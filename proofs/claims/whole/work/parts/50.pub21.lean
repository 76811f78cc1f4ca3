def qkX8_isStraight : Nat → Option CI := fun pc => cond (Nat.ble 82 pc) none (cond (Nat.ble 35 pc) (cond (Nat.ble 54 pc) (cond (Nat.ble 68 pc) (cond (Nat.ble 77 pc) (cond (Nat.beq pc 77) (some (.goto (-61), 80, [16])) (cond (Nat.beq pc 80) (some (.iconst 1, 81, [])) (cond (Nat.beq pc 81) (some (.ireturn, 82, [])) (none)))) (cond (Nat.beq pc 68) (some (.iinc 4 1, 71, [])) (cond (Nat.beq pc 71) (some (.goto (-45), 74, [26])) (cond (Nat.beq pc 74) (some (.iinc 3 1, 77, [])) (none))))) (cond (Nat.ble 61 pc) (cond (Nat.beq pc 61) (some (.ireturn, 62, [])) (cond (Nat.beq pc 62) (some (.iinc 5 1, 65, [])) (cond (Nat.beq pc 65) (some (.goto (-27), 68, [38])) (none)))) (cond (Nat.beq pc 54) (some (.invokevirtual 179, 57, [])) (cond (Nat.beq pc 57) (some (.ifCond .eq 5, 60, [62])) (cond (Nat.beq pc 60) (some (.iconst 0, 61, [])) (none)))))) (cond (Nat.ble 44 pc) (cond (Nat.ble 49 pc) (cond (Nat.beq pc 49) (some (.iload_n 3, 50, [])) (cond (Nat.beq pc 50) (some (.iload 4, 52, [])) (cond (Nat.beq pc 52) (some (.iload 5, 54, [])) (none)))) (cond (Nat.beq pc 44) (some (.aload_n 0, 45, [])) (cond (Nat.beq pc 45) (some (.getfield 10, 48, [])) (cond (Nat.beq pc 48) (some (.iload_n 1, 49, [])) (none))))) (cond (Nat.ble 38 pc) (cond (Nat.beq pc 38) (some (.iload 5, 40, [])) (cond (Nat.beq pc 40) (some (.iload_n 2, 41, [])) (cond (Nat.beq pc 41) (some (.if_icmp .ge 27, 44, [68])) (none)))) (cond (Nat.beq pc 35) (some (.iadd, 36, [])) (cond (Nat.beq pc 36) (some (.istore 5, 38, [])) (none)))))) (cond (Nat.ble 17 pc) (cond (Nat.ble 24 pc) (cond (Nat.ble 29 pc) (cond (Nat.beq pc 29) (some (.if_icmp .ge 45, 32, [74])) (cond (Nat.beq pc 32) (some (.iload 4, 34, [])) (cond (Nat.beq pc 34) (some (.iconst 1, 35, [])) (none)))) (cond (Nat.beq pc 24) (some (.istore 4, 26, [])) (cond (Nat.beq pc 26) (some (.iload 4, 28, [])) (cond (Nat.beq pc 28) (some (.iload_n 2, 29, [])) (none))))) (cond (Nat.ble 21 pc) (cond (Nat.beq pc 21) (some (.iload_n 3, 22, [])) (cond (Nat.beq pc 22) (some (.iconst 1, 23, [])) (cond (Nat.beq pc 23) (some (.iadd, 24, [])) (none)))) (cond (Nat.beq pc 17) (some (.iload_n 2, 18, [])) (cond (Nat.beq pc 18) (some (.if_icmp .ge 62, 21, [80])) (none))))) (cond (Nat.ble 9 pc) (cond (Nat.ble 14 pc) (cond (Nat.beq pc 14) (some (.iconst 0, 15, [])) (cond (Nat.beq pc 15) (some (.istore_n 3, 16, [])) (cond (Nat.beq pc 16) (some (.iload_n 3, 17, [])) (none)))) (cond (Nat.beq pc 9) (some (.iload_n 1, 10, [])) (cond (Nat.beq pc 10) (some (.invokevirtual 177, 13, [])) (cond (Nat.beq pc 13) (some (.istore_n 2, 14, [])) (none))))) (cond (Nat.ble 2 pc) (cond (Nat.beq pc 2) (some (.invokevirtual 123, 5, [])) (cond (Nat.beq pc 5) (some (.aload_n 0, 6, [])) (cond (Nat.beq pc 6) (some (.getfield 10, 9, [])) (none)))) (cond (Nat.beq pc 0) (some (.aload_n 0, 1, [])) (cond (Nat.beq pc 1) (some (.iload_n 1, 2, [])) (none)))))))
theorem qkX8_isStraight_ok : ∀ pc i nx ts, qkX8_isStraight pc = some (i, nx, ts) → am_cok cX8_isStraight pc (i, nx, ts) = true := fun pc i nx ts h => am_tok_ok (n := 82) (by decide +kernel) (fun pc h => by show cond (Nat.ble 82 pc) _ _ = _; rw [Nat.ble_eq_true_of_le h]; rfl) h
def qaX8_isStraight : Nat → Option CE := fun k => cond (Nat.beq k 123) (some qeX8_requireCurve) (cond (Nat.beq k 177) (some qeX2_size) (cond (Nat.beq k 179) (some qeX2_turn) (none)))
theorem qyX8_isStraight (l : Launch) (hst : l.stackTraces = false) : ∀ k e1, qaX8_isStraight k = some e1 → am_cal l layX RX8 10 k e1 ∧ True := q_cons ⟨am_calV (ci := 8) (qtX8_requireCurve l hst) qbX8_requireCurve (by decide) rfl (am_tb_at 841 (by decide +kernel) rfl), trivial⟩ (q_cons ⟨am_calV (ci := 2) (qtX2_size l) qbX2_size (by decide) rfl (am_tb_at 777 (by decide +kernel) rfl), trivial⟩ (q_cons ⟨am_calV (ci := 2) (qtX2_turn l) qbX2_turn (by decide) rfl (am_tb_at 980 (by decide +kernel) rfl), trivial⟩ (q_nil)))
def qxX8_isStraight : CX := (qkX8_isStraight, layX, qfX8, qaX8_isStraight, qcX8, qlX8, qmX8, (some .boolean), true, none, 1, none, fun _ => none)
theorem qzX8_isStraight (l : Launch) (hst : l.stackTraces = false) : am_sta l qxX8_isStraight RX8 10 cX8_isStraight := ⟨qkX8_isStraight_ok, layX_ok, qfX8_ok, qcX8_ok, qlX8_ok, am_mthP qmX8_ok (by decide), fun k e1 h => (qyX8_isStraight l hst k e1 h).1⟩
def qsX8_isStraight : SP := fun as F A K => match as with
  | [.inr (.inr o), .inl c] => cond (Nat.beq o 0) ((fgOK (A 2) ∧ (-2147483648 ≤ c ∧ c < 2147483648)) ∧ ((0 ≤ c ∧ c < A 2 0 → (K (some (some (vI (bc (stP (A 2) c (A 2 (18 + c))))))) F A)) ∧ (¬ (0 ≤ c ∧ c < A 2 0) → (K none F A)))) (False)
  | _ => False
def qeX8_isStraight : CE := (yX8_isStraight, cX8_isStraight, 6, (some .boolean), 1, some 8, 1, [], 1, 10, qsX8_isStraight)
theorem qbX8_isStraight : am_mb qeX8_isStraight := ⟨am_tb_at 979 (by decide +kernel) rfl, am_tb_at 114 (by decide +kernel) rfl, ⟨by decide, by decide, by decide +kernel⟩, by decide, by decide, am_tb_at 977 (by decide +kernel) rfl, am_tb_at 978 (by decide +kernel) rfl, _, _, rfl⟩
def qnX8_isStraight_0 : CUT := fun pc => cond (Nat.beq pc 16) (some [true, true, true, true, false, false]) (cond (Nat.beq pc 26) (some [true, true, true, true, true, false]) (cond (Nat.beq pc 38) (some [true, true, true, true, true, true]) (none)))
def qiX8_isStraight_0 (c : Int) (F0 : FF) (A0 : AA) : REC := fun pc ls st F A u => cond (Nat.beq pc 16) (match ls, st, u with
    | [some (.inr (.inr s0)), some (.inl s1), some (.inl n), some (.inl a), none, none], [], 1 => s0 = 0 ∧ s1 = c ∧ F = F0 ∧ A = A0 ∧ ((0 ≤ c ∧ c < A0 2 0 ∧ n = A0 2 (18 + c) ∧ (2 ≤ n ∧ n ≤ 4)) ∧ (0 ≤ a ∧ a ≤ n) ∧ (∀ aa bb kk, 0 ≤ aa → aa < a → aa < bb → bb < kk → kk < n → w32 (tnF (A0 2) c aa bb kk) = 0))
    | _, _, _ => False) (cond (Nat.beq pc 26) (match ls, st, u with
    | [some (.inr (.inr s0)), some (.inl s1), some (.inl n), some (.inl a), some (.inl b), none], [], 1 => s0 = 0 ∧ s1 = c ∧ F = F0 ∧ A = A0 ∧ ((0 ≤ c ∧ c < A0 2 0 ∧ n = A0 2 (18 + c) ∧ (2 ≤ n ∧ n ≤ 4)) ∧ (0 ≤ a ∧ a < n ∧ a < b ∧ b ≤ n) ∧ (∀ aa bb kk, 0 ≤ aa → aa < a → aa < bb → bb < kk → kk < n → w32 (tnF (A0 2) c aa bb kk) = 0) ∧ (∀ bb kk, a < bb → bb < b → bb < kk → kk < n → w32 (tnF (A0 2) c a bb kk) = 0))
    | _, _, _ => False) (cond (Nat.beq pc 38) (match ls, st, u with
    | [some (.inr (.inr s0)), some (.inl s1), some (.inl n), some (.inl a), some (.inl b), some (.inl k)], [], 1 => s0 = 0 ∧ s1 = c ∧ F = F0 ∧ A = A0 ∧ ((0 ≤ c ∧ c < A0 2 0 ∧ n = A0 2 (18 + c) ∧ (2 ≤ n ∧ n ≤ 4)) ∧ (0 ≤ a ∧ a < b ∧ b < n ∧ b < k ∧ k ≤ n) ∧ (∀ aa bb kk, 0 ≤ aa → aa < a → aa < bb → bb < kk → kk < n → w32 (tnF (A0 2) c aa bb kk) = 0) ∧ (∀ bb kk, a < bb → bb < b → bb < kk → kk < n → w32 (tnF (A0 2) c a bb kk) = 0) ∧ (∀ kk, b < kk → kk < k → w32 (tnF (A0 2) c a b kk) = 0))
    | _, _, _ => False) (False)))
def quX8_isStraight_0 : Nat → LVs → List AV → FF → AA → Nat := fun pc ls _ F A => cond (Nat.beq pc 16) (match ls with
    | [some (.inr (.inr s0)), some (.inl s1), some (.inl n), some (.inl a), none, none] => Int.toNat (500 - 50 * a)
    | _ => 0) (cond (Nat.beq pc 26) (match ls with
    | [some (.inr (.inr s0)), some (.inl s1), some (.inl n), some (.inl a), some (.inl b), none] => Int.toNat (499 - 50 * a - 7 * b)
    | _ => 0) (cond (Nat.beq pc 38) (match ls with
    | [some (.inr (.inr s0)), some (.inl s1), some (.inl n), some (.inl a), some (.inl b), some (.inl k)] => Int.toNat (498 - 50 * a - 7 * b - k)
    | _ => 0) (0)))
set_option maxRecDepth 20000 in
theorem qvX8_isStraight_0_0 (c : Int) (F0 : FF) (A0 : AA) (K : KK) (h : (fgOK (A0 2) ∧ (-2147483648 ≤ c ∧ c < 2147483648)) ∧ ((0 ≤ c ∧ c < A0 2 0 → (K (some (some (vI (bc (stP (A0 2) c (A0 2 (18 + c))))))) F0 A0)) ∧ (¬ (0 ≤ c ∧ c < A0 2 0) → (K none F0 A0)))) : am_stp qxX8_isStraight (am_run qxX8_isStraight qnX8_isStraight_0 (qiX8_isStraight_0 c F0 A0) K 16) K 0 (am_ent [vR 0, vI c] 6) [] F0 A0 0 := by
  show am_stp qxX8_isStraight (am_run qxX8_isStraight qnX8_isStraight_0 (qiX8_isStraight_0 c F0 A0) K 16) K 0 [some (vR 0), some (vI c), none, none, none, none] [] F0 A0 0
  obtain ⟨hp, h⟩ := h
  have p1 := hp.1
  have p2' := hp.2
  have q1 := p1.1.1
  have q2 := p1.1.2
  show ((0 ≤ A0 2 0 ∧ A0 2 0 ≤ 8) ∧ (0 ≤ A0 2 1 ∧ A0 2 1 ≤ 6) ∧ (-2147483648 ≤ c ∧ c < 2147483648)) ∧ ((0 ≤ c ∧ c < A0 2 0 → (0 = 0 ∧ c = c ∧ F0 = F0 ∧ A0 = A0 ∧ ((0 ≤ c ∧ c < A0 2 0 ∧ (fat (A0 2) (18 + c)) = A0 2 (18 + c) ∧ (2 ≤ (fat (A0 2) (18 + c)) ∧ (fat (A0 2) (18 + c)) ≤ 4)) ∧ (0 ≤ 0 ∧ 0 ≤ (fat (A0 2) (18 + c))) ∧ (∀ aa bb kk, 0 ≤ aa → aa < 0 → aa < bb → bb < kk → kk < (fat (A0 2) (18 + c)) → w32 (tnF (A0 2) c aa bb kk) = 0)))) ∧ (¬ (0 ≤ c ∧ c < A0 2 0) → (K none F0 A0)))
  refine ⟨by exact ⟨p1.1.1, p1.1.2, hp.2⟩, ?_⟩
  refine ⟨fun c1 => ?_, fun c1 => ?_⟩
  · skip
    skip
    refine ⟨rfl, rfl, rfl, rfl, ?_⟩
    have q3 := (p1.2.2.1 c c1.1 c1.2).1
    simp (disch := omega) only [fat_in]
    exact ⟨⟨c1.1, c1.2, by trivial, q3⟩, by omega, fun aa bb kk a0 a1 => by omega⟩
  · skip
    skip
    exact h.2 c1
set_option maxRecDepth 20000 in
theorem qvX8_isStraight_0_16 (c : Int) (F0 : FF) (A0 : AA) (K : KK) (h : (fgOK (A0 2) ∧ (-2147483648 ≤ c ∧ c < 2147483648)) ∧ ((0 ≤ c ∧ c < A0 2 0 → (K (some (some (vI (bc (stP (A0 2) c (A0 2 (18 + c))))))) F0 A0)) ∧ (¬ (0 ≤ c ∧ c < A0 2 0) → (K none F0 A0)))) (n : Int) (a : Int) (hi : (0 ≤ c ∧ c < A0 2 0 ∧ n = A0 2 (18 + c) ∧ (2 ≤ n ∧ n ≤ 4)) ∧ (0 ≤ a ∧ a ≤ n) ∧ (∀ aa bb kk, 0 ≤ aa → aa < a → aa < bb → bb < kk → kk < n → w32 (tnF (A0 2) c aa bb kk) = 0)) : am_stp qxX8_isStraight (am_run qxX8_isStraight qnX8_isStraight_0 (fun pc ls st F A u => qiX8_isStraight_0 c F0 A0 pc ls st F A u ∧ quX8_isStraight_0 pc ls st F A < quX8_isStraight_0 16 [some (vR 0), some (vI c), some (vI n), some (vI a), none, none] [] F0 A0) K 16) K 16 [some (vR 0), some (vI c), some (vI n), some (vI a), none, none] [] F0 A0 1 := by
  obtain ⟨hp, h⟩ := h
  have p1 := hp.1
  have p2' := hp.2
  have q1 := p1.1.1
  have q2 := p1.1.2
  obtain ⟨h1, h2, h3⟩ := hi
  show (w32 a < w32 n → ((0 = 0 ∧ c = c ∧ F0 = F0 ∧ A0 = A0 ∧ ((0 ≤ c ∧ c < A0 2 0 ∧ n = A0 2 (18 + c) ∧ (2 ≤ n ∧ n ≤ 4)) ∧ (0 ≤ a ∧ a < n ∧ a < (a + 1) ∧ (a + 1) ≤ n) ∧ (∀ aa bb kk, 0 ≤ aa → aa < a → aa < bb → bb < kk → kk < n → w32 (tnF (A0 2) c aa bb kk) = 0) ∧ (∀ bb kk, a < bb → bb < (a + 1) → bb < kk → kk < n → w32 (tnF (A0 2) c a bb kk) = 0))) ∧ (Int.toNat (499 - 50 * a - 7 * (a + 1))) < (Int.toNat (500 - 50 * a)))) ∧ (¬ w32 a < w32 n → ((1 = 0 ∨ 1 = 1) ∧ (K (some (some (vI 1))) F0 A0)))
  refine ⟨fun c1 => ?_, fun c1 => ?_⟩
  · skip
    (try simp (disch := omega) only [fat_in, w32_0, w32_id] at c1)
    refine ⟨⟨rfl, rfl, rfl, rfl, ?_⟩, by omega⟩
    exact ⟨h1, by omega, h3, fun bb kk a0 a1 => by omega⟩
  · skip
    (try simp (disch := omega) only [fat_in, w32_0, w32_id] at c1)
    refine ⟨by exact Or.inr rfl, ?_⟩
    exact K_eq (h.1 ⟨h1.1, h1.2.1⟩) (bc_t (fun aa bb kk a0 a1 a2 a3 => h3 aa bb kk a0 (by omega) a1 a2 (by omega)))
set_option maxRecDepth 20000 in
theorem qvX8_isStraight_0_26 (c : Int) (F0 : FF) (A0 : AA) (K : KK) (h : (fgOK (A0 2) ∧ (-2147483648 ≤ c ∧ c < 2147483648)) ∧ ((0 ≤ c ∧ c < A0 2 0 → (K (some (some (vI (bc (stP (A0 2) c (A0 2 (18 + c))))))) F0 A0)) ∧ (¬ (0 ≤ c ∧ c < A0 2 0) → (K none F0 A0)))) (n : Int) (a : Int) (b : Int) (hi : (0 ≤ c ∧ c < A0 2 0 ∧ n = A0 2 (18 + c) ∧ (2 ≤ n ∧ n ≤ 4)) ∧ (0 ≤ a ∧ a < n ∧ a < b ∧ b ≤ n) ∧ (∀ aa bb kk, 0 ≤ aa → aa < a → aa < bb → bb < kk → kk < n → w32 (tnF (A0 2) c aa bb kk) = 0) ∧ (∀ bb kk, a < bb → bb < b → bb < kk → kk < n → w32 (tnF (A0 2) c a bb kk) = 0)) : am_stp qxX8_isStraight (am_run qxX8_isStraight qnX8_isStraight_0 (fun pc ls st F A u => qiX8_isStraight_0 c F0 A0 pc ls st F A u ∧ quX8_isStraight_0 pc ls st F A < quX8_isStraight_0 26 [some (vR 0), some (vI c), some (vI n), some (vI a), some (vI b), none] [] F0 A0) K 16) K 26 [some (vR 0), some (vI c), some (vI n), some (vI a), some (vI b), none] [] F0 A0 1 := by
  obtain ⟨hp, h⟩ := h
  have p1 := hp.1
  have p2' := hp.2
  have q1 := p1.1.1
  have q2 := p1.1.2
  obtain ⟨h1, h2, h3, h4⟩ := hi
  show (w32 b < w32 n → ((0 = 0 ∧ c = c ∧ F0 = F0 ∧ A0 = A0 ∧ ((0 ≤ c ∧ c < A0 2 0 ∧ n = A0 2 (18 + c) ∧ (2 ≤ n ∧ n ≤ 4)) ∧ (0 ≤ a ∧ a < b ∧ b < n ∧ b < (b + 1) ∧ (b + 1) ≤ n) ∧ (∀ aa bb kk, 0 ≤ aa → aa < a → aa < bb → bb < kk → kk < n → w32 (tnF (A0 2) c aa bb kk) = 0) ∧ (∀ bb kk, a < bb → bb < b → bb < kk → kk < n → w32 (tnF (A0 2) c a bb kk) = 0) ∧ (∀ kk, b < kk → kk < (b + 1) → w32 (tnF (A0 2) c a b kk) = 0))) ∧ (Int.toNat (498 - 50 * a - 7 * b - (b + 1))) < (Int.toNat (499 - 50 * a - 7 * b)))) ∧ (¬ w32 b < w32 n → ((0 = 0 ∧ c = c ∧ F0 = F0 ∧ A0 = A0 ∧ ((0 ≤ c ∧ c < A0 2 0 ∧ n = A0 2 (18 + c) ∧ (2 ≤ n ∧ n ≤ 4)) ∧ (0 ≤ (a + 1) ∧ (a + 1) ≤ n) ∧ (∀ aa bb kk, 0 ≤ aa → aa < (a + 1) → aa < bb → bb < kk → kk < n → w32 (tnF (A0 2) c aa bb kk) = 0))) ∧ (Int.toNat (500 - 50 * (a + 1))) < (Int.toNat (499 - 50 * a - 7 * b))))
  refine ⟨fun c1 => ?_, fun c1 => ?_⟩
  · skip
    (try simp (disch := omega) only [fat_in, w32_0, w32_id] at c1)
    refine ⟨⟨rfl, rfl, rfl, rfl, ?_⟩, by omega⟩
    exact ⟨h1, by omega, h3, h4, fun kk a0 a1 => by omega⟩
  · skip
    (try simp (disch := omega) only [fat_in, w32_0, w32_id] at c1)
    refine ⟨⟨rfl, rfl, rfl, rfl, ?_⟩, by omega⟩
    refine ⟨h1, by omega, fun aa bb kk a0 a1 a2 a3 a4 => ?_⟩
    by_cases e : aa = a
    · rw [e]; exact h4 bb kk (by omega) (by omega) a3 a4
    · exact h3 aa bb kk a0 (by omega) a2 a3 a4
set_option maxRecDepth 20000 in
theorem qvX8_isStraight_0_38 (c : Int) (F0 : FF) (A0 : AA) (K : KK) (h : (fgOK (A0 2) ∧ (-2147483648 ≤ c ∧ c < 2147483648)) ∧ ((0 ≤ c ∧ c < A0 2 0 → (K (some (some (vI (bc (stP (A0 2) c (A0 2 (18 + c))))))) F0 A0)) ∧ (¬ (0 ≤ c ∧ c < A0 2 0) → (K none F0 A0)))) (n : Int) (a : Int) (b : Int) (k : Int) (hi : (0 ≤ c ∧ c < A0 2 0 ∧ n = A0 2 (18 + c) ∧ (2 ≤ n ∧ n ≤ 4)) ∧ (0 ≤ a ∧ a < b ∧ b < n ∧ b < k ∧ k ≤ n) ∧ (∀ aa bb kk, 0 ≤ aa → aa < a → aa < bb → bb < kk → kk < n → w32 (tnF (A0 2) c aa bb kk) = 0) ∧ (∀ bb kk, a < bb → bb < b → bb < kk → kk < n → w32 (tnF (A0 2) c a bb kk) = 0) ∧ (∀ kk, b < kk → kk < k → w32 (tnF (A0 2) c a b kk) = 0)) : am_stp qxX8_isStraight (am_run qxX8_isStraight qnX8_isStraight_0 (fun pc ls st F A u => qiX8_isStraight_0 c F0 A0 pc ls st F A u ∧ quX8_isStraight_0 pc ls st F A < quX8_isStraight_0 38 [some (vR 0), some (vI c), some (vI n), some (vI a), some (vI b), some (vI k)] [] F0 A0) K 16) K 38 [some (vR 0), some (vI c), some (vI n), some (vI a), some (vI b), some (vI k)] [] F0 A0 1 := by
  obtain ⟨hp, h⟩ := h
  have p1 := hp.1
  have p2' := hp.2
  have q1 := p1.1.1
  have q2 := p1.1.2
  obtain ⟨h1, h2, h3, h4, h5⟩ := hi
  show (w32 k < w32 n → ((w32 (((fat (A0 2) (26 + (c * 4 + b) * 3 + 0)) - (fat (A0 2) (26 + (c * 4 + a) * 3 + 0))) * ((fat (A0 2) (26 + (c * 4 + k) * 3 + 1)) - (fat (A0 2) (26 + (c * 4 + a) * 3 + 1))) - ((fat (A0 2) (26 + (c * 4 + b) * 3 + 1)) - (fat (A0 2) (26 + (c * 4 + a) * 3 + 1))) * ((fat (A0 2) (26 + (c * 4 + k) * 3 + 0)) - (fat (A0 2) (26 + (c * 4 + a) * 3 + 0)))) = w32 0 → ((0 = 0 ∧ c = c ∧ F0 = F0 ∧ A0 = A0 ∧ ((0 ≤ c ∧ c < A0 2 0 ∧ n = A0 2 (18 + c) ∧ (2 ≤ n ∧ n ≤ 4)) ∧ (0 ≤ a ∧ a < b ∧ b < n ∧ b < (k + 1) ∧ (k + 1) ≤ n) ∧ (∀ aa bb kk, 0 ≤ aa → aa < a → aa < bb → bb < kk → kk < n → w32 (tnF (A0 2) c aa bb kk) = 0) ∧ (∀ bb kk, a < bb → bb < b → bb < kk → kk < n → w32 (tnF (A0 2) c a bb kk) = 0) ∧ (∀ kk, b < kk → kk < (k + 1) → w32 (tnF (A0 2) c a b kk) = 0))) ∧ (Int.toNat (498 - 50 * a - 7 * b - (k + 1))) < (Int.toNat (498 - 50 * a - 7 * b - k)))) ∧ (¬ w32 (((fat (A0 2) (26 + (c * 4 + b) * 3 + 0)) - (fat (A0 2) (26 + (c * 4 + a) * 3 + 0))) * ((fat (A0 2) (26 + (c * 4 + k) * 3 + 1)) - (fat (A0 2) (26 + (c * 4 + a) * 3 + 1))) - ((fat (A0 2) (26 + (c * 4 + b) * 3 + 1)) - (fat (A0 2) (26 + (c * 4 + a) * 3 + 1))) * ((fat (A0 2) (26 + (c * 4 + k) * 3 + 0)) - (fat (A0 2) (26 + (c * 4 + a) * 3 + 0)))) = w32 0 → ((0 = 0 ∨ 0 = 1) ∧ (K (some (some (vI 0))) F0 A0))))) ∧ (¬ w32 k < w32 n → ((0 = 0 ∧ c = c ∧ F0 = F0 ∧ A0 = A0 ∧ ((0 ≤ c ∧ c < A0 2 0 ∧ n = A0 2 (18 + c) ∧ (2 ≤ n ∧ n ≤ 4)) ∧ (0 ≤ a ∧ a < n ∧ a < (b + 1) ∧ (b + 1) ≤ n) ∧ (∀ aa bb kk, 0 ≤ aa → aa < a → aa < bb → bb < kk → kk < n → w32 (tnF (A0 2) c aa bb kk) = 0) ∧ (∀ bb kk, a < bb → bb < (b + 1) → bb < kk → kk < n → w32 (tnF (A0 2) c a bb kk) = 0))) ∧ (Int.toNat (499 - 50 * a - 7 * (b + 1))) < (Int.toNat (498 - 50 * a - 7 * b - k))))
  refine ⟨fun c1 => ?_, fun c1 => ?_⟩
  · skip
    (try simp (disch := omega) only [fat_in, w32_0, w32_id] at c1)
    refine ⟨fun c2 => ?_, fun c2 => ?_⟩
    · skip
      (try simp (disch := omega) only [fat_in, w32_0, w32_id] at c2)
      refine ⟨⟨rfl, rfl, rfl, rfl, ?_⟩, by omega⟩
      refine ⟨h1, by omega, h3, h4, fun kk a0 a1 => ?_⟩
      by_cases e : kk = k
      · rw [e]; exact c2
      · exact h5 kk a0 (by omega)
    · skip
      (try simp (disch := omega) only [fat_in, w32_0, w32_id] at c2)
      refine ⟨by exact Or.inl rfl, ?_⟩
      exact K_eq (h.1 ⟨h1.1, h1.2.1⟩) (bc_f (fun z => c2 (z a b k (by omega) (by omega) (by omega) (by omega))))
  · skip
    (try simp (disch := omega) only [fat_in, w32_0, w32_id] at c1)
    refine ⟨⟨rfl, rfl, rfl, rfl, ?_⟩, by omega⟩
    refine ⟨h1, by omega, h3, fun bb kk a0 a1 a2 a3 => ?_⟩
    by_cases e : bb = b
    · rw [e]; exact h5 kk (by omega) (by omega)
    · exact h4 bb kk a0 (by omega) a2 a3
set_option maxRecDepth 20000 in
theorem qvX8_isStraight_0 (c : Int) (F0 : FF) (A0 : AA) (K : KK) (h : (fgOK (A0 2) ∧ (-2147483648 ≤ c ∧ c < 2147483648)) ∧ ((0 ≤ c ∧ c < A0 2 0 → (K (some (some (vI (bc (stP (A0 2) c (A0 2 (18 + c))))))) F0 A0)) ∧ (¬ (0 ≤ c ∧ c < A0 2 0) → (K none F0 A0)))) : am_body qxX8_isStraight qnX8_isStraight_0 16 (qiX8_isStraight_0 c F0 A0) quX8_isStraight_0 [vR 0, vI c] 6 F0 A0 K := by
  refine ⟨qvX8_isStraight_0_0 c F0 A0 K h, fun pc ls st F A u hI => ?_⟩
  unfold qiX8_isStraight_0 at hI
  replace hI := am_cond2 hI
  rcases hI with ⟨hb, hI⟩ | hI
  · have hb := am_bq hb
    subst hb
    split at hI
    · rename_i s0 s1 n a
      obtain ⟨e0, e1, e2, e3, hI⟩ := hI
      subst e0
      subst e1
      subst e2
      subst e3
      exact qvX8_isStraight_0_16 _ _ _ K h _ _ hI
    · exact hI.elim
  replace hI := am_cond2 hI
  rcases hI with ⟨hb, hI⟩ | hI
  · have hb := am_bq hb
    subst hb
    split at hI
    · rename_i s0 s1 n a b
      obtain ⟨e0, e1, e2, e3, hI⟩ := hI
      subst e0
      subst e1
      subst e2
      subst e3
      exact qvX8_isStraight_0_26 _ _ _ K h _ _ _ hI
    · exact hI.elim
  replace hI := am_cond2 hI
  rcases hI with ⟨hb, hI⟩ | hI
  · have hb := am_bq hb
    subst hb
    split at hI
    · rename_i s0 s1 n a b k
      obtain ⟨e0, e1, e2, e3, hI⟩ := hI
      subst e0
      subst e1
      subst e2
      subst e3
      exact qvX8_isStraight_0_38 _ _ _ K h _ _ _ _ hI
    · exact hI.elim
  exact hI.elim
theorem qtX8_isStraight (l : Launch) (hst : l.stackTraces = false) : am_CT l layX qeX8_isStraight := am_met1 hst rfl (by decide +kernel) rfl rfl rfl rfl rfl (fun _ _ h => by cases h) rfl (qzX8_isStraight l hst) (fun as F A K h => by
  replace h : qsX8_isStraight as F A K := h
  unfold qsX8_isStraight at h
  split at h
  · rename_i o c
    refine ⟨by first | exact Nat.le_of_ble_eq_true rfl | simp [am_fl, am_cat], ?_⟩
    replace h := am_cond2 h
    rcases h with ⟨hb, h⟩ | h
    · skip
      have hb0 := hb
      have hb0 := am_bq hb0
      subst hb0
      exact am_way_body (qvX8_isStraight_0 c F A K h)
    exact h.elim
  · exact h.elim)
def qkX8_isAlike : Nat → Option CI := fun pc => cond (Nat.ble 125 pc) none (cond (Nat.ble 65 pc) (cond (Nat.ble 95 pc) (cond (Nat.ble 109 pc) (cond (Nat.ble 116 pc) (cond (Nat.ble 120 pc) (cond (Nat.beq pc 120) (some (.goto (-74), 123, [46])) (cond (Nat.beq pc 123) (some (.iconst 1, 124, [])) (cond (Nat.beq pc 124) (some (.ireturn, 125, [])) (none)))) (cond (Nat.beq pc 116) (some (.ireturn, 117, [])) (cond (Nat.beq pc 117) (some (.iinc 7 1, 120, [])) (none)))) (cond (Nat.ble 112 pc) (cond (Nat.beq pc 112) (some (.if_icmp .eq 5, 115, [117])) (cond (Nat.beq pc 115) (some (.iconst 0, 116, [])) (none))) (cond (Nat.beq pc 109) (some (.iload 5, 111, [])) (cond (Nat.beq pc 111) (some (.imul, 112, [])) (none))))) (cond (Nat.ble 102 pc) (cond (Nat.ble 105 pc) (cond (Nat.beq pc 105) (some (.iconst 2, 106, [])) (cond (Nat.beq pc 106) (some (.invokevirtual 137, 109, [])) (none))) (cond (Nat.beq pc 102) (some (.iload_n 2, 103, [])) (cond (Nat.beq pc 103) (some (.iload 8, 105, [])) (none)))) (cond (Nat.ble 98 pc) (cond (Nat.beq pc 98) (some (.aload_n 0, 99, [])) (cond (Nat.beq pc 99) (some (.getfield 10, 102, [])) (none))) (cond (Nat.beq pc 95) (some (.iload 6, 97, [])) (cond (Nat.beq pc 97) (some (.imul, 98, [])) (none)))))) (cond (Nat.ble 79 pc) (cond (Nat.ble 85 pc) (cond (Nat.ble 89 pc) (cond (Nat.beq pc 89) (some (.iload 7, 91, [])) (cond (Nat.beq pc 91) (some (.iconst 2, 92, [])) (cond (Nat.beq pc 92) (some (.invokevirtual 137, 95, [])) (none)))) (cond (Nat.beq pc 85) (some (.getfield 10, 88, [])) (cond (Nat.beq pc 88) (some (.iload_n 1, 89, [])) (none)))) (cond (Nat.ble 83 pc) (cond (Nat.beq pc 83) (some (.ireturn, 84, [])) (cond (Nat.beq pc 84) (some (.aload_n 0, 85, [])) (none))) (cond (Nat.beq pc 79) (some (.ifCond .ne 5, 82, [84])) (cond (Nat.beq pc 82) (some (.iconst 0, 83, [])) (none))))) (cond (Nat.ble 71 pc) (cond (Nat.ble 74 pc) (cond (Nat.beq pc 74) (some (.iload 8, 76, [])) (cond (Nat.beq pc 76) (some (.invokevirtual 309, 79, [])) (none))) (cond (Nat.beq pc 71) (some (.iload 7, 73, [])) (cond (Nat.beq pc 73) (some (.iload_n 2, 74, [])) (none)))) (cond (Nat.ble 69 pc) (cond (Nat.beq pc 69) (some (.aload_n 0, 70, [])) (cond (Nat.beq pc 70) (some (.iload_n 1, 71, [])) (none))) (cond (Nat.beq pc 65) (some (.iload 7, 67, [])) (cond (Nat.beq pc 67) (some (.istore 8, 69, [])) (none))))))) (cond (Nat.ble 31 pc) (cond (Nat.ble 46 pc) (cond (Nat.ble 54 pc) (cond (Nat.ble 59 pc) (cond (Nat.beq pc 59) (some (.iload 7, 61, [])) (cond (Nat.beq pc 61) (some (.isub, 62, [])) (cond (Nat.beq pc 62) (some (.goto 5, 65, [67])) (none)))) (cond (Nat.beq pc 54) (some (.ifCond .eq 11, 57, [65])) (cond (Nat.beq pc 57) (some (.iload 4, 59, [])) (none)))) (cond (Nat.ble 50 pc) (cond (Nat.beq pc 50) (some (.if_icmp .gt 73, 53, [123])) (cond (Nat.beq pc 53) (some (.iload_n 3, 54, [])) (none))) (cond (Nat.beq pc 46) (some (.iload 7, 48, [])) (cond (Nat.beq pc 48) (some (.iload 4, 50, [])) (none))))) (cond (Nat.ble 38 pc) (cond (Nat.ble 43 pc) (cond (Nat.beq pc 43) (some (.iconst 0, 44, [])) (cond (Nat.beq pc 44) (some (.istore 7, 46, [])) (none))) (cond (Nat.beq pc 38) (some (.invokevirtual 137, 41, [])) (cond (Nat.beq pc 41) (some (.istore 6, 43, [])) (none)))) (cond (Nat.ble 36 pc) (cond (Nat.beq pc 36) (some (.iconst 0, 37, [])) (cond (Nat.beq pc 37) (some (.iconst 2, 38, [])) (none))) (cond (Nat.beq pc 31) (some (.iload 4, 33, [])) (cond (Nat.beq pc 33) (some (.goto 4, 36, [37])) (none)))))) (cond (Nat.ble 15 pc) (cond (Nat.ble 22 pc) (cond (Nat.ble 26 pc) (cond (Nat.beq pc 26) (some (.iload_n 2, 27, [])) (cond (Nat.beq pc 27) (some (.iload_n 3, 28, [])) (cond (Nat.beq pc 28) (some (.ifCond .eq 8, 31, [36])) (none)))) (cond (Nat.beq pc 22) (some (.aload_n 0, 23, [])) (cond (Nat.beq pc 23) (some (.getfield 10, 26, [])) (none)))) (cond (Nat.ble 17 pc) (cond (Nat.beq pc 17) (some (.invokevirtual 137, 20, [])) (cond (Nat.beq pc 20) (some (.istore 5, 22, [])) (none))) (cond (Nat.beq pc 15) (some (.iconst 0, 16, [])) (cond (Nat.beq pc 16) (some (.iconst 2, 17, [])) (none))))) (cond (Nat.ble 8 pc) (cond (Nat.ble 11 pc) (cond (Nat.beq pc 11) (some (.getfield 10, 14, [])) (cond (Nat.beq pc 14) (some (.iload_n 1, 15, [])) (none))) (cond (Nat.beq pc 8) (some (.istore 4, 10, [])) (cond (Nat.beq pc 10) (some (.aload_n 0, 11, [])) (none)))) (cond (Nat.ble 4 pc) (cond (Nat.beq pc 4) (some (.iload_n 1, 5, [])) (cond (Nat.beq pc 5) (some (.invokevirtual 126, 8, [])) (none))) (cond (Nat.beq pc 0) (some (.aload_n 0, 1, [])) (cond (Nat.beq pc 1) (some (.getfield 10, 4, [])) (none))))))))
theorem qkX8_isAlike_ok : ∀ pc i nx ts, qkX8_isAlike pc = some (i, nx, ts) → am_cok cX8_isAlike pc (i, nx, ts) = true := fun pc i nx ts h => am_tok_ok (n := 125) (by decide +kernel) (fun pc h => by show cond (Nat.ble 125 pc) _ _ = _; rw [Nat.ble_eq_true_of_le h]; rfl) h
def qaX8_isAlike : Nat → Option CE := fun k => cond (Nat.beq k 126) (some qeX2_top) (cond (Nat.beq k 137) (some qeX2_point) (cond (Nat.beq k 309) (some qeX8_isSamePlace) (none)))
theorem qyX8_isAlike (l : Launch) : ∀ k e1, qaX8_isAlike k = some e1 → am_cal l layX RX8 6 k e1 ∧ ceT e1 = 0 := q_cons ⟨am_calV (ci := 2) (qtX2_top l) qbX2_top (by decide) rfl (am_tb_at 784 (by decide +kernel) rfl), rfl⟩ (q_cons ⟨am_calV (ci := 2) (qtX2_point l) qbX2_point (by decide) rfl (am_tb_at 751 (by decide +kernel) rfl), rfl⟩ (q_cons ⟨am_calV (ci := 8) (qtX8_isSamePlace l) qbX8_isSamePlace (by decide) rfl (am_tb_at 1343 (by decide +kernel) rfl), rfl⟩ (q_nil)))
def qxX8_isAlike : CX := (qkX8_isAlike, layX, qfX8, qaX8_isAlike, qcX8, qlX8, qmX8, (some .boolean), false, none, 0, none, fun _ => none)
theorem qzX8_isAlike (l : Launch) : am_sta l qxX8_isAlike RX8 6 cX8_isAlike := ⟨qkX8_isAlike_ok, layX_ok, qfX8_ok, qcX8_ok, qlX8_ok, am_mthP qmX8_ok (by decide), fun k e1 h => (qyX8_isAlike l k e1 h).1⟩
def qsX8_isAlike : SP := fun as F A K => match as with
  | [.inr (.inr o), .inl c, .inl e, .inl z] => cond (Nat.beq o 0) ((fgOK (A 2) ∧ (0 ≤ c ∧ c < A 2 0) ∧ (0 ≤ e ∧ e < A 2 0) ∧ A 2 (18 + c) = A 2 (18 + e) ∧ (z = 0 ∨ z = 1)) ∧ (K (some (some (vI (bc (alP (A 2) c e z))))) F A)) (False)
  | _ => False
def qeX8_isAlike : CE := (yX8_isAlike, cX8_isAlike, 9, (some .boolean), 3, some 8, 0, [], 0, 6, qsX8_isAlike)
theorem qbX8_isAlike : am_mb qeX8_isAlike := ⟨am_tb_at 1342 (by decide +kernel) rfl, am_tb_at 114 (by decide +kernel) rfl, ⟨by decide, by decide, by decide +kernel⟩, by decide, by decide, am_tb_at 1341 (by decide +kernel) rfl, am_tb_at 46 (by decide +kernel) rfl, _, _, rfl⟩
def qnX8_isAlike_0 : CUT := fun pc => cond (Nat.beq pc 46) (some [true, true, true, true, true, true, true, true, false]) (none)
def qiX8_isAlike_0 (c : Int) (e : Int) (z : Int) (F0 : FF) (A0 : AA) : REC := fun pc ls st F A u => cond (Nat.beq pc 46) (match ls, st, u with
    | [some (.inr (.inr s0)), some (.inl s1), some (.inl s2), some (.inl s3), some (.inl t), some (.inl v), some (.inl w), some (.inl k), none], [], 0 => s0 = 0 ∧ s1 = c ∧ s2 = e ∧ s3 = z ∧ F = F0 ∧ A = A0 ∧ (t = A0 2 (18 + c) - 1 ∧ v = pxF (A0 2) c 0 2 ∧ w = pxF (A0 2) e (if z = 0 then 0 else A0 2 (18 + c) - 1) 2 ∧ (0 ≤ k ∧ k ≤ A0 2 (18 + c)) ∧ ∀ kk, 0 ≤ kk → kk < k → alQ (A0 2) c e z kk)
    | _, _, _ => False) (False)
def quX8_isAlike_0 : Nat → LVs → List AV → FF → AA → Nat := fun pc ls _ F A => cond (Nat.beq pc 46) (match ls with
    | [some (.inr (.inr s0)), some (.inl s1), some (.inl s2), some (.inl s3), some (.inl t), some (.inl v), some (.inl w), some (.inl k), none] => Int.toNat (9 - k)
    | _ => 0) (0)
set_option maxRecDepth 20000 in
theorem qvX8_isAlike_0_0 (c : Int) (e : Int) (z : Int) (F0 : FF) (A0 : AA) (K : KK) (h : (fgOK (A0 2) ∧ (0 ≤ c ∧ c < A0 2 0) ∧ (0 ≤ e ∧ e < A0 2 0) ∧ A0 2 (18 + c) = A0 2 (18 + e) ∧ (z = 0 ∨ z = 1)) ∧ (K (some (some (vI (bc (alP (A0 2) c e z))))) F0 A0)) : am_stp qxX8_isAlike (am_run qxX8_isAlike qnX8_isAlike_0 (qiX8_isAlike_0 c e z F0 A0) K 39) K 0 (am_ent [vR 0, vI c, vI e, vI z] 9) [] F0 A0 0 := by
  show am_stp qxX8_isAlike (am_run qxX8_isAlike qnX8_isAlike_0 (qiX8_isAlike_0 c e z F0 A0) K 39) K 0 [some (vR 0), some (vI c), some (vI e), some (vI z), none, none, none, none, none] [] F0 A0 0
  obtain ⟨hp, h⟩ := h
  obtain ⟨p1, p2', p3, p4, p5⟩ := hp
  have q1 := p1.1.1
  have q3 := (p1.2.2.1 c p2'.1 p2'.2).1
  show (w32 z = w32 0 → (0 = 0 ∧ c = c ∧ e = e ∧ z = z ∧ F0 = F0 ∧ A0 = A0 ∧ ((fat (A0 2) (18 + c) - 1) = A0 2 (18 + c) - 1 ∧ (fat (A0 2) (26 + (c * 4 + 0) * 3 + 2)) = pxF (A0 2) c 0 2 ∧ (fat (A0 2) (26 + (e * 4 + 0) * 3 + 2)) = pxF (A0 2) e (if z = 0 then 0 else A0 2 (18 + c) - 1) 2 ∧ (0 ≤ 0 ∧ 0 ≤ A0 2 (18 + c)) ∧ ∀ kk, 0 ≤ kk → kk < 0 → alQ (A0 2) c e z kk))) ∧ (¬ w32 z = w32 0 → (0 = 0 ∧ c = c ∧ e = e ∧ z = z ∧ F0 = F0 ∧ A0 = A0 ∧ ((fat (A0 2) (18 + c) - 1) = A0 2 (18 + c) - 1 ∧ (fat (A0 2) (26 + (c * 4 + 0) * 3 + 2)) = pxF (A0 2) c 0 2 ∧ (fat (A0 2) (26 + (e * 4 + (fat (A0 2) (18 + c) - 1)) * 3 + 2)) = pxF (A0 2) e (if z = 0 then 0 else A0 2 (18 + c) - 1) 2 ∧ (0 ≤ 0 ∧ 0 ≤ A0 2 (18 + c)) ∧ ∀ kk, 0 ≤ kk → kk < 0 → alQ (A0 2) c e z kk)))
  refine ⟨fun c1 => ?_, fun c1 => ?_⟩
  · skip
    (try simp (disch := omega) only [fat_in, w32_0, wbi0, Classical.not_not, w32_id] at c1)
    refine ⟨rfl, rfl, rfl, rfl, rfl, rfl, ?_⟩
    simp (disch := omega) only [fat_in]
    refine ⟨trivial, rfl, ?_, by omega, fun kk a0 a1 => by omega⟩
    first | (rw [if_pos (by omega)]; rfl) | (rw [if_neg (by omega)]; rfl)
  · skip
    (try simp (disch := omega) only [fat_in, w32_0, wbi0, Classical.not_not, w32_id] at c1)
    refine ⟨rfl, rfl, rfl, rfl, rfl, rfl, ?_⟩
    simp (disch := omega) only [fat_in]
    refine ⟨trivial, rfl, ?_, by omega, fun kk a0 a1 => by omega⟩
    first | (rw [if_pos (by omega)]; rfl) | (rw [if_neg (by omega)]; rfl)
set_option maxRecDepth 20000 in
theorem qvX8_isAlike_0_46 (c : Int) (e : Int) (z : Int) (F0 : FF) (A0 : AA) (K : KK) (h : (fgOK (A0 2) ∧ (0 ≤ c ∧ c < A0 2 0) ∧ (0 ≤ e ∧ e < A0 2 0) ∧ A0 2 (18 + c) = A0 2 (18 + e) ∧ (z = 0 ∨ z = 1)) ∧ (K (some (some (vI (bc (alP (A0 2) c e z))))) F0 A0)) (t : Int) (v : Int) (w : Int) (k : Int) (hi : t = A0 2 (18 + c) - 1 ∧ v = pxF (A0 2) c 0 2 ∧ w = pxF (A0 2) e (if z = 0 then 0 else A0 2 (18 + c) - 1) 2 ∧ (0 ≤ k ∧ k ≤ A0 2 (18 + c)) ∧ ∀ kk, 0 ≤ kk → kk < k → alQ (A0 2) c e z kk) : am_stp qxX8_isAlike (am_run qxX8_isAlike qnX8_isAlike_0 (fun pc ls st F A u => qiX8_isAlike_0 c e z F0 A0 pc ls st F A u ∧ quX8_isAlike_0 pc ls st F A < quX8_isAlike_0 46 [some (vR 0), some (vI c), some (vI e), some (vI z), some (vI t), some (vI v), some (vI w), some (vI k), none] [] F0 A0) K 39) K 46 [some (vR 0), some (vI c), some (vI e), some (vI z), some (vI t), some (vI v), some (vI w), some (vI k), none] [] F0 A0 0 := by
  obtain ⟨hp, h⟩ := h
  obtain ⟨p1, p2', p3, p4, p5⟩ := hp
  have q1 := p1.1.1
  have q3 := (p1.2.2.1 c p2'.1 p2'.2).1
  obtain ⟨h1, h2, h4, h5, h6⟩ := hi
  show (w32 t < w32 k → ((1 = 0 ∨ 1 = 1) ∧ (K (some (some (vI 1))) F0 A0))) ∧ (¬ w32 t < w32 k → ((w32 z = w32 0 → (((0 ≤ c ∧ c < 8 ∧ 0 ≤ k ∧ k < 4) ∧ (0 ≤ e ∧ e < 8 ∧ 0 ≤ k ∧ k < 4)) ∧ ((w32 (bi (w32 (pxF (A0 2) c k 0) = w32 (pxF (A0 2) e k 0) ∧ w32 (pxF (A0 2) c k 1) = w32 (pxF (A0 2) e k 1))) = w32 0 → ((0 = 0 ∨ 0 = 1) ∧ (K (some (some (vI 0))) F0 A0))) ∧ (¬ (w32 (bi (w32 (pxF (A0 2) c k 0) = w32 (pxF (A0 2) e k 0) ∧ w32 (pxF (A0 2) c k 1) = w32 (pxF (A0 2) e k 1))) = w32 0) → ((w32 ((fat (A0 2) (26 + (c * 4 + k) * 3 + 2)) * w) = w32 ((fat (A0 2) (26 + (e * 4 + k) * 3 + 2)) * v) → ((0 = 0 ∧ c = c ∧ e = e ∧ z = z ∧ F0 = F0 ∧ A0 = A0 ∧ (t = A0 2 (18 + c) - 1 ∧ v = pxF (A0 2) c 0 2 ∧ w = pxF (A0 2) e (if z = 0 then 0 else A0 2 (18 + c) - 1) 2 ∧ (0 ≤ (k + 1) ∧ (k + 1) ≤ A0 2 (18 + c)) ∧ ∀ kk, 0 ≤ kk → kk < (k + 1) → alQ (A0 2) c e z kk)) ∧ (Int.toNat (9 - (k + 1))) < (Int.toNat (9 - k)))) ∧ (¬ w32 ((fat (A0 2) (26 + (c * 4 + k) * 3 + 2)) * w) = w32 ((fat (A0 2) (26 + (e * 4 + k) * 3 + 2)) * v) → ((0 = 0 ∨ 0 = 1) ∧ (K (some (some (vI 0))) F0 A0)))))))) ∧ (¬ w32 z = w32 0 → (((0 ≤ c ∧ c < 8 ∧ 0 ≤ k ∧ k < 4) ∧ (0 ≤ e ∧ e < 8 ∧ 0 ≤ (t - k) ∧ (t - k) < 4)) ∧ ((w32 (bi (w32 (pxF (A0 2) c k 0) = w32 (pxF (A0 2) e (t - k) 0) ∧ w32 (pxF (A0 2) c k 1) = w32 (pxF (A0 2) e (t - k) 1))) = w32 0 → ((0 = 0 ∨ 0 = 1) ∧ (K (some (some (vI 0))) F0 A0))) ∧ (¬ (w32 (bi (w32 (pxF (A0 2) c k 0) = w32 (pxF (A0 2) e (t - k) 0) ∧ w32 (pxF (A0 2) c k 1) = w32 (pxF (A0 2) e (t - k) 1))) = w32 0) → ((w32 ((fat (A0 2) (26 + (c * 4 + k) * 3 + 2)) * w) = w32 ((fat (A0 2) (26 + (e * 4 + (t - k)) * 3 + 2)) * v) → ((0 = 0 ∧ c = c ∧ e = e ∧ z = z ∧ F0 = F0 ∧ A0 = A0 ∧ (t = A0 2 (18 + c) - 1 ∧ v = pxF (A0 2) c 0 2 ∧ w = pxF (A0 2) e (if z = 0 then 0 else A0 2 (18 + c) - 1) 2 ∧ (0 ≤ (k + 1) ∧ (k + 1) ≤ A0 2 (18 + c)) ∧ ∀ kk, 0 ≤ kk → kk < (k + 1) → alQ (A0 2) c e z kk)) ∧ (Int.toNat (9 - (k + 1))) < (Int.toNat (9 - k)))) ∧ (¬ w32 ((fat (A0 2) (26 + (c * 4 + k) * 3 + 2)) * w) = w32 ((fat (A0 2) (26 + (e * 4 + (t - k)) * 3 + 2)) * v) → ((0 = 0 ∨ 0 = 1) ∧ (K (some (some (vI 0))) F0 A0))))))))))
  refine ⟨fun c1 => ?_, fun c1 => ?_⟩
  · skip
    (try simp (disch := omega) only [fat_in, w32_0, wbi0, Classical.not_not, w32_id] at c1)
    refine ⟨by first | exact Or.inl rfl | exact Or.inr rfl | (exact ⟨by omega, by omega⟩) | (exact ⟨by omega, by omega, by omega, by omega⟩) | omega, ?_⟩
    first
    | exact K_eq h (bc_t (fun kk a0 a1 => h6 kk a0 (by omega)))
    | (refine K_eq h (bc_f (fun y => ?_))
       have y1 := y k (by omega) (by omega)
       unfold alQ at y1
       first
       | (simp only [if_pos (show z = 0 by omega)] at y1; exact c3 y1.1)
       | (simp only [if_neg (show ¬ z = 0 by omega), ← h1] at y1; exact c3 y1.1)
       | (simp only [if_pos (show z = 0 by omega)] at y1 h4; rw [h4, h2] at c4; exact c4 y1.2)
       | (simp only [if_neg (show ¬ z = 0 by omega), ← h1] at y1 h4; rw [h4, h2] at c4; exact c4 y1.2))
  · skip
    (try simp (disch := omega) only [fat_in, w32_0, wbi0, Classical.not_not, w32_id] at c1)
    refine ⟨fun c2 => ?_, fun c2 => ?_⟩
    · skip
      (try simp (disch := omega) only [fat_in, w32_0, wbi0, Classical.not_not, w32_id] at c2)
      refine ⟨by first | exact Or.inl rfl | exact Or.inr rfl | (exact ⟨by omega, by omega⟩) | (exact ⟨by omega, by omega, by omega, by omega⟩) | omega, ?_⟩
      refine ⟨fun c3 => ?_, fun c3 => ?_⟩
      · skip
        (try simp (disch := omega) only [fat_in, w32_0, wbi0, Classical.not_not, w32_id] at c3)
        refine ⟨by first | exact Or.inl rfl | exact Or.inr rfl | (exact ⟨by omega, by omega⟩) | (exact ⟨by omega, by omega, by omega, by omega⟩) | omega, ?_⟩
        first
        | exact K_eq h (bc_t (fun kk a0 a1 => h6 kk a0 (by omega)))
        | (refine K_eq h (bc_f (fun y => ?_))
           have y1 := y k (by omega) (by omega)
           unfold alQ at y1
           first
           | (simp only [if_pos (show z = 0 by omega)] at y1; exact c3 y1.1)
           | (simp only [if_neg (show ¬ z = 0 by omega), ← h1] at y1; exact c3 y1.1)
           | (simp only [if_pos (show z = 0 by omega)] at y1 h4; rw [h4, h2] at c4; exact c4 y1.2)
           | (simp only [if_neg (show ¬ z = 0 by omega), ← h1] at y1 h4; rw [h4, h2] at c4; exact c4 y1.2))
      · skip
        (try simp (disch := omega) only [fat_in, w32_0, wbi0, Classical.not_not, w32_id] at c3)
        refine ⟨fun c4 => ?_, fun c4 => ?_⟩
        · skip
          (try simp (disch := omega) only [fat_in, w32_0, wbi0, Classical.not_not, w32_id] at c4)
          refine ⟨⟨rfl, rfl, rfl, rfl, rfl, rfl, ?_⟩, by omega⟩
          refine ⟨h1, h2, h4, by omega, fun kk a0 a1 => ?_⟩
          by_cases ek : kk = k
          · subst ek
            unfold alQ
            first
            | (simp only [if_pos (show z = 0 by omega)] at h4 ⊢; rw [h4, h2] at c4; exact ⟨c3, c4⟩)
            | (simp only [if_neg (show ¬ z = 0 by omega), ← h1] at h4 ⊢; rw [h4, h2] at c4; exact ⟨c3, c4⟩)
          · exact h6 kk a0 (by omega)
        · skip
          (try simp (disch := omega) only [fat_in, w32_0, wbi0, Classical.not_not, w32_id] at c4)
          refine ⟨by first | exact Or.inl rfl | exact Or.inr rfl | (exact ⟨by omega, by omega⟩) | (exact ⟨by omega, by omega, by omega, by omega⟩) | omega, ?_⟩
          first
          | exact K_eq h (bc_t (fun kk a0 a1 => h6 kk a0 (by omega)))
          | (refine K_eq h (bc_f (fun y => ?_))
             have y1 := y k (by omega) (by omega)
             unfold alQ at y1
             first
             | (simp only [if_pos (show z = 0 by omega)] at y1; exact c3 y1.1)
             | (simp only [if_neg (show ¬ z = 0 by omega), ← h1] at y1; exact c3 y1.1)
             | (simp only [if_pos (show z = 0 by omega)] at y1 h4; rw [h4, h2] at c4; exact c4 y1.2)
             | (simp only [if_neg (show ¬ z = 0 by omega), ← h1] at y1 h4; rw [h4, h2] at c4; exact c4 y1.2))
    · skip
      (try simp (disch := omega) only [fat_in, w32_0, wbi0, Classical.not_not, w32_id] at c2)
      refine ⟨by first | exact Or.inl rfl | exact Or.inr rfl | (exact ⟨by omega, by omega⟩) | (exact ⟨by omega, by omega, by omega, by omega⟩) | omega, ?_⟩
      refine ⟨fun c3 => ?_, fun c3 => ?_⟩
      · skip
        (try simp (disch := omega) only [fat_in, w32_0, wbi0, Classical.not_not, w32_id] at c3)
        refine ⟨by first | exact Or.inl rfl | exact Or.inr rfl | (exact ⟨by omega, by omega⟩) | (exact ⟨by omega, by omega, by omega, by omega⟩) | omega, ?_⟩
        first
        | exact K_eq h (bc_t (fun kk a0 a1 => h6 kk a0 (by omega)))
        | (refine K_eq h (bc_f (fun y => ?_))
           have y1 := y k (by omega) (by omega)
           unfold alQ at y1
           first
           | (simp only [if_pos (show z = 0 by omega)] at y1; exact c3 y1.1)
           | (simp only [if_neg (show ¬ z = 0 by omega), ← h1] at y1; exact c3 y1.1)
           | (simp only [if_pos (show z = 0 by omega)] at y1 h4; rw [h4, h2] at c4; exact c4 y1.2)
           | (simp only [if_neg (show ¬ z = 0 by omega), ← h1] at y1 h4; rw [h4, h2] at c4; exact c4 y1.2))
      · skip
        (try simp (disch := omega) only [fat_in, w32_0, wbi0, Classical.not_not, w32_id] at c3)
        refine ⟨fun c4 => ?_, fun c4 => ?_⟩
        · skip
          (try simp (disch := omega) only [fat_in, w32_0, wbi0, Classical.not_not, w32_id] at c4)
          refine ⟨⟨rfl, rfl, rfl, rfl, rfl, rfl, ?_⟩, by omega⟩
          refine ⟨h1, h2, h4, by omega, fun kk a0 a1 => ?_⟩
          by_cases ek : kk = k
          · subst ek
            unfold alQ
            first
            | (simp only [if_pos (show z = 0 by omega)] at h4 ⊢; rw [h4, h2] at c4; exact ⟨c3, c4⟩)
            | (simp only [if_neg (show ¬ z = 0 by omega), ← h1] at h4 ⊢; rw [h4, h2] at c4; exact ⟨c3, c4⟩)
          · exact h6 kk a0 (by omega)
        · skip
          (try simp (disch := omega) only [fat_in, w32_0, wbi0, Classical.not_not, w32_id] at c4)
          refine ⟨by first | exact Or.inl rfl | exact Or.inr rfl | (exact ⟨by omega, by omega⟩) | (exact ⟨by omega, by omega, by omega, by omega⟩) | omega, ?_⟩
          first
          | exact K_eq h (bc_t (fun kk a0 a1 => h6 kk a0 (by omega)))
          | (refine K_eq h (bc_f (fun y => ?_))
             have y1 := y k (by omega) (by omega)
             unfold alQ at y1
             first
             | (simp only [if_pos (show z = 0 by omega)] at y1; exact c3 y1.1)
             | (simp only [if_neg (show ¬ z = 0 by omega), ← h1] at y1; exact c3 y1.1)
             | (simp only [if_pos (show z = 0 by omega)] at y1 h4; rw [h4, h2] at c4; exact c4 y1.2)
             | (simp only [if_neg (show ¬ z = 0 by omega), ← h1] at y1 h4; rw [h4, h2] at c4; exact c4 y1.2))
set_option maxRecDepth 20000 in
theorem qvX8_isAlike_0 (c : Int) (e : Int) (z : Int) (F0 : FF) (A0 : AA) (K : KK) (h : (fgOK (A0 2) ∧ (0 ≤ c ∧ c < A0 2 0) ∧ (0 ≤ e ∧ e < A0 2 0) ∧ A0 2 (18 + c) = A0 2 (18 + e) ∧ (z = 0 ∨ z = 1)) ∧ (K (some (some (vI (bc (alP (A0 2) c e z))))) F0 A0)) : am_body qxX8_isAlike qnX8_isAlike_0 39 (qiX8_isAlike_0 c e z F0 A0) quX8_isAlike_0 [vR 0, vI c, vI e, vI z] 9 F0 A0 K := by
  refine ⟨qvX8_isAlike_0_0 c e z F0 A0 K h, fun pc ls st F A u hI => ?_⟩
  unfold qiX8_isAlike_0 at hI
  replace hI := am_cond2 hI
  rcases hI with ⟨hb, hI⟩ | hI
  · have hb := am_bq hb
    subst hb
    split at hI
    · rename_i s0 s1 s2 s3 t v w k
      obtain ⟨e0, e1, e2, e3, e4, e5, hI⟩ := hI
      subst e0
      subst e1
      subst e2
      subst e3
      subst e4
      subst e5
      exact qvX8_isAlike_0_46 _ _ _ _ _ K h _ _ _ _ hI
    · exact hI.elim
  exact hI.elim
theorem qtX8_isAlike (l : Launch) : am_CT l layX qeX8_isAlike := am_met0 rfl (by decide +kernel) rfl rfl rfl rfl rfl (fun _ => rfl) rfl (qzX8_isAlike l) (fun k e1 h => (qyX8_isAlike l k e1 h).2) (fun as F A K h => by
  replace h : qsX8_isAlike as F A K := h
  unfold qsX8_isAlike at h
  split at h
  · rename_i o c e z
    refine ⟨by first | exact Nat.le_of_ble_eq_true rfl | simp [am_fl, am_cat], ?_⟩
    replace h := am_cond2 h
    rcases h with ⟨hb, h⟩ | h
    · skip
      have hb0 := hb
      have hb0 := am_bq hb0
      subst hb0
      exact am_way_body (qvX8_isAlike_0 c e z F A K h)
    exact h.elim
  · exact h.elim)
