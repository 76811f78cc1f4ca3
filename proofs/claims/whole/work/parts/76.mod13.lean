def qkX9_areAlike : Nat → Option CI := fun pc => cond (Nat.ble 142 pc) none (cond (Nat.ble 72 pc) (cond (Nat.ble 108 pc) (cond (Nat.ble 123 pc) (cond (Nat.ble 132 pc) (cond (Nat.ble 137 pc) (cond (Nat.beq pc 137) (some (.goto (-112), 140, [25])) (cond (Nat.beq pc 140) (some (.iconst 1, 141, [])) (cond (Nat.beq pc 141) (some (.ireturn, 142, [])) (none)))) (cond (Nat.beq pc 132) (some (.iconst 0, 133, [])) (cond (Nat.beq pc 133) (some (.ireturn, 134, [])) (cond (Nat.beq pc 134) (some (.iinc 5 1, 137, [])) (none))))) (cond (Nat.ble 125 pc) (cond (Nat.beq pc 125) (some (.invokevirtual 83, 128, [])) (cond (Nat.beq pc 128) (some (.imul, 129, [])) (cond (Nat.beq pc 129) (some (.if_icmp .eq 5, 132, [134])) (none)))) (cond (Nat.beq pc 123) (some (.iconst 0, 124, [])) (cond (Nat.beq pc 124) (some (.iconst 2, 125, [])) (none))))) (cond (Nat.ble 115 pc) (cond (Nat.ble 118 pc) (cond (Nat.beq pc 118) (some (.invokevirtual 83, 121, [])) (cond (Nat.beq pc 121) (some (.aload_n 0, 122, [])) (cond (Nat.beq pc 122) (some (.iload_n 1, 123, [])) (none)))) (cond (Nat.beq pc 115) (some (.iload 6, 117, [])) (cond (Nat.beq pc 117) (some (.iconst 2, 118, [])) (none)))) (cond (Nat.ble 112 pc) (cond (Nat.beq pc 112) (some (.imul, 113, [])) (cond (Nat.beq pc 113) (some (.aload_n 0, 114, [])) (cond (Nat.beq pc 114) (some (.iload_n 2, 115, [])) (none)))) (cond (Nat.beq pc 108) (some (.iconst 2, 109, [])) (cond (Nat.beq pc 109) (some (.invokevirtual 83, 112, [])) (none)))))) (cond (Nat.ble 89 pc) (cond (Nat.ble 97 pc) (cond (Nat.ble 102 pc) (cond (Nat.beq pc 102) (some (.iload 4, 104, [])) (cond (Nat.beq pc 104) (some (.goto 4, 107, [108])) (cond (Nat.beq pc 107) (some (.iconst 0, 108, [])) (none)))) (cond (Nat.beq pc 97) (some (.iload_n 2, 98, [])) (cond (Nat.beq pc 98) (some (.iload_n 3, 99, [])) (cond (Nat.beq pc 99) (some (.ifCond .eq 8, 102, [107])) (none))))) (cond (Nat.ble 92 pc) (cond (Nat.beq pc 92) (some (.iconst 2, 93, [])) (cond (Nat.beq pc 93) (some (.invokevirtual 83, 96, [])) (cond (Nat.beq pc 96) (some (.aload_n 0, 97, [])) (none)))) (cond (Nat.beq pc 89) (some (.iload_n 1, 90, [])) (cond (Nat.beq pc 90) (some (.iload 5, 92, [])) (none))))) (cond (Nat.ble 80 pc) (cond (Nat.ble 86 pc) (cond (Nat.beq pc 86) (some (.iconst 0, 87, [])) (cond (Nat.beq pc 87) (some (.ireturn, 88, [])) (cond (Nat.beq pc 88) (some (.aload_n 0, 89, [])) (none)))) (cond (Nat.beq pc 80) (some (.invokevirtual 83, 83, [])) (cond (Nat.beq pc 83) (some (.if_icmp .eq 5, 86, [88])) (none)))) (cond (Nat.ble 76 pc) (cond (Nat.beq pc 76) (some (.iload_n 2, 77, [])) (cond (Nat.beq pc 77) (some (.iload 6, 79, [])) (cond (Nat.beq pc 79) (some (.iconst 1, 80, [])) (none)))) (cond (Nat.beq pc 72) (some (.invokevirtual 83, 75, [])) (cond (Nat.beq pc 75) (some (.aload_n 0, 76, [])) (none))))))) (cond (Nat.ble 36 pc) (cond (Nat.ble 53 pc) (cond (Nat.ble 61 pc) (cond (Nat.ble 68 pc) (cond (Nat.beq pc 68) (some (.iload_n 1, 69, [])) (cond (Nat.beq pc 69) (some (.iload 5, 71, [])) (cond (Nat.beq pc 71) (some (.iconst 1, 72, [])) (none)))) (cond (Nat.beq pc 61) (some (.invokevirtual 83, 64, [])) (cond (Nat.beq pc 64) (some (.if_icmp .ne 22, 67, [86])) (cond (Nat.beq pc 67) (some (.aload_n 0, 68, [])) (none))))) (cond (Nat.ble 57 pc) (cond (Nat.beq pc 57) (some (.iload_n 2, 58, [])) (cond (Nat.beq pc 58) (some (.iload 6, 60, [])) (cond (Nat.beq pc 60) (some (.iconst 0, 61, [])) (none)))) (cond (Nat.beq pc 53) (some (.invokevirtual 83, 56, [])) (cond (Nat.beq pc 56) (some (.aload_n 0, 57, [])) (none))))) (cond (Nat.ble 46 pc) (cond (Nat.ble 49 pc) (cond (Nat.beq pc 49) (some (.iload_n 1, 50, [])) (cond (Nat.beq pc 50) (some (.iload 5, 52, [])) (cond (Nat.beq pc 52) (some (.iconst 0, 53, [])) (none)))) (cond (Nat.beq pc 46) (some (.istore 6, 48, [])) (cond (Nat.beq pc 48) (some (.aload_n 0, 49, [])) (none)))) (cond (Nat.ble 40 pc) (cond (Nat.beq pc 40) (some (.isub, 41, [])) (cond (Nat.beq pc 41) (some (.goto 5, 44, [46])) (cond (Nat.beq pc 44) (some (.iload 5, 46, [])) (none)))) (cond (Nat.beq pc 36) (some (.iload 4, 38, [])) (cond (Nat.beq pc 38) (some (.iload 5, 40, [])) (none)))))) (cond (Nat.ble 16 pc) (cond (Nat.ble 25 pc) (cond (Nat.ble 29 pc) (cond (Nat.beq pc 29) (some (.if_icmp .gt 111, 32, [140])) (cond (Nat.beq pc 32) (some (.iload_n 3, 33, [])) (cond (Nat.beq pc 33) (some (.ifCond .eq 11, 36, [44])) (none)))) (cond (Nat.beq pc 25) (some (.iload 5, 27, [])) (cond (Nat.beq pc 27) (some (.iload 4, 29, [])) (none)))) (cond (Nat.ble 20 pc) (cond (Nat.beq pc 20) (some (.istore 4, 22, [])) (cond (Nat.beq pc 22) (some (.iconst 0, 23, [])) (cond (Nat.beq pc 23) (some (.istore 5, 25, [])) (none)))) (cond (Nat.beq pc 16) (some (.iload_n 1, 17, [])) (cond (Nat.beq pc 17) (some (.invokevirtual 80, 20, [])) (none))))) (cond (Nat.ble 7 pc) (cond (Nat.ble 13 pc) (cond (Nat.beq pc 13) (some (.iconst 0, 14, [])) (cond (Nat.beq pc 14) (some (.ireturn, 15, [])) (cond (Nat.beq pc 15) (some (.aload_n 0, 16, [])) (none)))) (cond (Nat.beq pc 7) (some (.invokevirtual 76, 10, [])) (cond (Nat.beq pc 10) (some (.if_icmp .eq 5, 13, [15])) (none)))) (cond (Nat.ble 2 pc) (cond (Nat.beq pc 2) (some (.invokevirtual 76, 5, [])) (cond (Nat.beq pc 5) (some (.aload_n 0, 6, [])) (cond (Nat.beq pc 6) (some (.iload_n 2, 7, [])) (none)))) (cond (Nat.beq pc 0) (some (.aload_n 0, 1, [])) (cond (Nat.beq pc 1) (some (.iload_n 1, 2, [])) (none))))))))
theorem qkX9_areAlike_ok : ∀ pc i nx ts, qkX9_areAlike pc = some (i, nx, ts) → am_cok cX9_areAlike pc (i, nx, ts) = true := fun pc i nx ts h => am_tok_ok (n := 142) (by decide +kernel) (fun pc h => by show cond (Nat.ble 142 pc) _ _ = _; rw [Nat.ble_eq_true_of_le h]; rfl) h
def qaX9_areAlike : Nat → Option CE := fun k => cond (Nat.beq k 76) (some qeX9_points) (cond (Nat.beq k 80) (some qeX9_order) (cond (Nat.beq k 83) (some qeX9_point) (none)))
theorem qyX9_areAlike (l : Launch) : ∀ k e1, qaX9_areAlike k = some e1 → am_cal l layM RX9 5 k e1 ∧ ceT e1 = 0 := q_cons ⟨am_calV (ci := 9) (qtX9_points l) qbX9_points (by decide) rfl (am_tb_at 1663 (by decide +kernel) rfl), rfl⟩ (q_cons ⟨am_calV (ci := 9) (qtX9_order l) qbX9_order (by decide) rfl (am_tb_at 1659 (by decide +kernel) rfl), rfl⟩ (q_cons ⟨am_calV (ci := 9) (qtX9_point l) qbX9_point (by decide) rfl (am_tb_at 1675 (by decide +kernel) rfl), rfl⟩ (q_nil)))
def qxX9_areAlike : CX := (qkX9_areAlike, layM, qfX9, qaX9_areAlike, qcX9, qlX9, qmX9, (some .boolean), false, none, 0, none, fun _ => none)
theorem qzX9_areAlike (l : Launch) : am_sta l qxX9_areAlike RX9 5 cX9_areAlike := ⟨qkX9_areAlike_ok, layM_ok, qfX9_ok, qcX9_ok, qlX9_ok, am_mthP qmX9_ok (by decide), fun k e1 h => (qyX9_areAlike l k e1 h).1⟩
def qsX9_areAlike : SP := fun as F A K => match as with
  | [.inr (.inr o), .inl c, .inl e, .inl z] => cond (Nat.beq o 25) ((fgOK (mF A) ∧ (0 ≤ c ∧ c < mF A 0) ∧ (0 ≤ e ∧ e < mF A 0) ∧ (z = 0 ∨ z = 1)) ∧ (K (some (some (vI (aaF (mF A) c e z)))) F A)) (False)
  | _ => False
def qeX9_areAlike : CE := (yX9_areAlike, cX9_areAlike, 7, (some .boolean), 3, some 9, 0, [], 0, 5, qsX9_areAlike)
theorem qbX9_areAlike : am_mb qeX9_areAlike := ⟨am_tb_at 1999 (by decide +kernel) rfl, am_tb_at 124 (by decide +kernel) rfl, ⟨by decide, by decide, by decide +kernel⟩, by decide, by decide, am_tb_at 1998 (by decide +kernel) rfl, am_tb_at 109 (by decide +kernel) rfl, _, _, rfl⟩
def qnX9_areAlike_25 : CUT := fun pc => cond (Nat.beq pc 25) (some [true, true, true, true, true, true, false]) (none)
def qiX9_areAlike_25 (c : Int) (e : Int) (z : Int) (F0 : FF) (A0 : AA) : REC := fun pc ls st F A u => cond (Nat.beq pc 25) (match ls, st, u with
    | [some (.inr (.inr s0)), some (.inl s1), some (.inl s2), some (.inl s3), some (.inl n), some (.inl k), none], [], 0 => s0 = 25 ∧ s1 = c ∧ s2 = e ∧ s3 = z ∧ F = F0 ∧ A = A0 ∧ (n = mF A0 (18 + c) - 1 ∧ mF A0 (18 + c) = mF A0 (18 + e) ∧ (0 ≤ k ∧ k ≤ mF A0 (18 + c)) ∧ ∀ kk, 0 ≤ kk → kk < k → alQ (mF A0) c e z kk)
    | _, _, _ => False) (False)
def quX9_areAlike_25 : Nat → LVs → List AV → FF → AA → Nat := fun pc ls _ F A => cond (Nat.beq pc 25) (match ls with
    | [some (.inr (.inr s0)), some (.inl s1), some (.inl s2), some (.inl s3), some (.inl n), some (.inl k), none] => Int.toNat (9 - k)
    | _ => 0) (0)
set_option maxRecDepth 20000 in
theorem qvX9_areAlike_25_0 (c : Int) (e : Int) (z : Int) (F0 : FF) (A0 : AA) (K : KK) (h : (fgOK (mF A0) ∧ (0 ≤ c ∧ c < mF A0 0) ∧ (0 ≤ e ∧ e < mF A0 0) ∧ (z = 0 ∨ z = 1)) ∧ (K (some (some (vI (aaF (mF A0) c e z)))) F0 A0)) : am_stp qxX9_areAlike (am_run qxX9_areAlike qnX9_areAlike_25 (qiX9_areAlike_25 c e z F0 A0) K 63) K 0 (am_ent [vR 25, vI c, vI e, vI z] 7) [] F0 A0 0 := by
  show am_stp qxX9_areAlike (am_run qxX9_areAlike qnX9_areAlike_25 (qiX9_areAlike_25 c e z F0 A0) K 63) K 0 [some (vR 25), some (vI c), some (vI e), some (vI z), none, none, none] [] F0 A0 0
  obtain ⟨hp, h⟩ := h
  obtain ⟨p1, p2', p3, p5⟩ := hp
  have q1 := p1.1.1
  have q3 := (p1.2.2.1 c p2'.1 p2'.2).1
  have q4 := (p1.2.2.1 e p3.1 p3.2).1
  show (0 ≤ c ∧ c < 8) ∧ ((0 ≤ e ∧ e < 8) ∧ ((w32 (mF A0 (18 + c)) = w32 (mF A0 (18 + e)) → ((0 ≤ c ∧ c < 8) ∧ (25 = 25 ∧ c = c ∧ e = e ∧ z = z ∧ F0 = F0 ∧ A0 = A0 ∧ ((mF A0 (18 + c) - 1) = mF A0 (18 + c) - 1 ∧ mF A0 (18 + c) = mF A0 (18 + e) ∧ (0 ≤ 0 ∧ 0 ≤ mF A0 (18 + c)) ∧ ∀ kk, 0 ≤ kk → kk < 0 → alQ (mF A0) c e z kk)))) ∧ (¬ w32 (mF A0 (18 + c)) = w32 (mF A0 (18 + e)) → ((0 = 0 ∨ 0 = 1) ∧ (K (some (some (vI 0))) F0 A0)))))
  refine ⟨by first | decide | exact Or.inl rfl | exact Or.inr rfl | omega | exact ⟨by omega, by omega, by omega⟩, ?_⟩
  refine ⟨by first | decide | exact Or.inl rfl | exact Or.inr rfl | omega | exact ⟨by omega, by omega, by omega⟩, ?_⟩
  refine ⟨fun c1 => ?_, fun c1 => ?_⟩
  · skip
    (try simp (disch := omega) only [fat_in, w32_0, wbi0, Classical.not_not, w32_id] at c1)
    refine ⟨by first | decide | exact Or.inl rfl | exact Or.inr rfl | omega | exact ⟨by omega, by omega, by omega⟩, ?_⟩
    refine ⟨rfl, rfl, rfl, rfl, rfl, rfl, ?_⟩
    exact ⟨rfl, c1, by omega, fun kk a0 a1 => by omega⟩
  · skip
    (try simp (disch := omega) only [fat_in, w32_0, wbi0, Classical.not_not, w32_id] at c1)
    refine ⟨by first | decide | exact Or.inl rfl | exact Or.inr rfl | omega | exact ⟨by omega, by omega, by omega⟩, ?_⟩
    exact K_eq h (if_neg c1)
set_option maxRecDepth 20000 in
theorem qvX9_areAlike_25_25 (c : Int) (e : Int) (z : Int) (F0 : FF) (A0 : AA) (K : KK) (h : (fgOK (mF A0) ∧ (0 ≤ c ∧ c < mF A0 0) ∧ (0 ≤ e ∧ e < mF A0 0) ∧ (z = 0 ∨ z = 1)) ∧ (K (some (some (vI (aaF (mF A0) c e z)))) F0 A0)) (n : Int) (k : Int) (hi : n = mF A0 (18 + c) - 1 ∧ mF A0 (18 + c) = mF A0 (18 + e) ∧ (0 ≤ k ∧ k ≤ mF A0 (18 + c)) ∧ ∀ kk, 0 ≤ kk → kk < k → alQ (mF A0) c e z kk) : am_stp qxX9_areAlike (am_run qxX9_areAlike qnX9_areAlike_25 (fun pc ls st F9 A9 u => qiX9_areAlike_25 c e z F0 A0 pc ls st F9 A9 u ∧ quX9_areAlike_25 pc ls st F9 A9 < quX9_areAlike_25 25 [some (vR 25), some (vI c), some (vI e), some (vI z), some (vI n), some (vI k), none] [] F0 A0) K 63) K 25 [some (vR 25), some (vI c), some (vI e), some (vI z), some (vI n), some (vI k), none] [] F0 A0 0 := by
  obtain ⟨hp, h⟩ := h
  obtain ⟨p1, p2', p3, p5⟩ := hp
  have q1 := p1.1.1
  have q3 := (p1.2.2.1 c p2'.1 p2'.2).1
  have q4 := (p1.2.2.1 e p3.1 p3.2).1
  obtain ⟨h1, h2, h3, h4⟩ := hi
  show (w32 n < w32 k → ((1 = 0 ∨ 1 = 1) ∧ (K (some (some (vI 1))) F0 A0))) ∧ (¬ w32 n < w32 k → ((w32 z = w32 0 → (((0 ≤ c ∧ c < 8) ∧ (0 ≤ k ∧ k < 4) ∧ 0 ≤ 0 ∧ 0 ≤ 2) ∧ (((0 ≤ e ∧ e < 8) ∧ (0 ≤ k ∧ k < 4) ∧ 0 ≤ 0 ∧ 0 ≤ 2) ∧ ((w32 (pxF (mF A0) c k 0) = w32 (pxF (mF A0) e k 0) → (((0 ≤ c ∧ c < 8) ∧ (0 ≤ k ∧ k < 4) ∧ 0 ≤ 1 ∧ 1 ≤ 2) ∧ (((0 ≤ e ∧ e < 8) ∧ (0 ≤ k ∧ k < 4) ∧ 0 ≤ 1 ∧ 1 ≤ 2) ∧ ((w32 (pxF (mF A0) c k 1) = w32 (pxF (mF A0) e k 1) → (((0 ≤ c ∧ c < 8) ∧ (0 ≤ k ∧ k < 4) ∧ 0 ≤ 2 ∧ 2 ≤ 2) ∧ ((w32 z = w32 0 → (((0 ≤ e ∧ e < 8) ∧ (0 ≤ 0 ∧ 0 < 4) ∧ 0 ≤ 2 ∧ 2 ≤ 2) ∧ (((0 ≤ e ∧ e < 8) ∧ (0 ≤ k ∧ k < 4) ∧ 0 ≤ 2 ∧ 2 ≤ 2) ∧ (((0 ≤ c ∧ c < 8) ∧ (0 ≤ 0 ∧ 0 < 4) ∧ 0 ≤ 2 ∧ 2 ≤ 2) ∧ ((w32 ((pxF (mF A0) c k 2) * (pxF (mF A0) e 0 2)) = w32 ((pxF (mF A0) e k 2) * (pxF (mF A0) c 0 2)) → ((25 = 25 ∧ c = c ∧ e = e ∧ z = z ∧ F0 = F0 ∧ A0 = A0 ∧ (n = mF A0 (18 + c) - 1 ∧ mF A0 (18 + c) = mF A0 (18 + e) ∧ (0 ≤ (k + 1) ∧ (k + 1) ≤ mF A0 (18 + c)) ∧ ∀ kk, 0 ≤ kk → kk < (k + 1) → alQ (mF A0) c e z kk)) ∧ (Int.toNat (9 - (k + 1))) < (Int.toNat (9 - k)))) ∧ (¬ w32 ((pxF (mF A0) c k 2) * (pxF (mF A0) e 0 2)) = w32 ((pxF (mF A0) e k 2) * (pxF (mF A0) c 0 2)) → ((0 = 0 ∨ 0 = 1) ∧ (K (some (some (vI 0))) F0 A0)))))))) ∧ (¬ w32 z = w32 0 → (((0 ≤ e ∧ e < 8) ∧ (0 ≤ n ∧ n < 4) ∧ 0 ≤ 2 ∧ 2 ≤ 2) ∧ (((0 ≤ e ∧ e < 8) ∧ (0 ≤ k ∧ k < 4) ∧ 0 ≤ 2 ∧ 2 ≤ 2) ∧ (((0 ≤ c ∧ c < 8) ∧ (0 ≤ 0 ∧ 0 < 4) ∧ 0 ≤ 2 ∧ 2 ≤ 2) ∧ ((w32 ((pxF (mF A0) c k 2) * (pxF (mF A0) e n 2)) = w32 ((pxF (mF A0) e k 2) * (pxF (mF A0) c 0 2)) → ((25 = 25 ∧ c = c ∧ e = e ∧ z = z ∧ F0 = F0 ∧ A0 = A0 ∧ (n = mF A0 (18 + c) - 1 ∧ mF A0 (18 + c) = mF A0 (18 + e) ∧ (0 ≤ (k + 1) ∧ (k + 1) ≤ mF A0 (18 + c)) ∧ ∀ kk, 0 ≤ kk → kk < (k + 1) → alQ (mF A0) c e z kk)) ∧ (Int.toNat (9 - (k + 1))) < (Int.toNat (9 - k)))) ∧ (¬ w32 ((pxF (mF A0) c k 2) * (pxF (mF A0) e n 2)) = w32 ((pxF (mF A0) e k 2) * (pxF (mF A0) c 0 2)) → ((0 = 0 ∨ 0 = 1) ∧ (K (some (some (vI 0))) F0 A0))))))))))) ∧ (¬ w32 (pxF (mF A0) c k 1) = w32 (pxF (mF A0) e k 1) → ((0 = 0 ∨ 0 = 1) ∧ (K (some (some (vI 0))) F0 A0))))))) ∧ (¬ w32 (pxF (mF A0) c k 0) = w32 (pxF (mF A0) e k 0) → ((0 = 0 ∨ 0 = 1) ∧ (K (some (some (vI 0))) F0 A0))))))) ∧ (¬ w32 z = w32 0 → (((0 ≤ c ∧ c < 8) ∧ (0 ≤ k ∧ k < 4) ∧ 0 ≤ 0 ∧ 0 ≤ 2) ∧ (((0 ≤ e ∧ e < 8) ∧ (0 ≤ (n - k) ∧ (n - k) < 4) ∧ 0 ≤ 0 ∧ 0 ≤ 2) ∧ ((w32 (pxF (mF A0) c k 0) = w32 (pxF (mF A0) e (n - k) 0) → (((0 ≤ c ∧ c < 8) ∧ (0 ≤ k ∧ k < 4) ∧ 0 ≤ 1 ∧ 1 ≤ 2) ∧ (((0 ≤ e ∧ e < 8) ∧ (0 ≤ (n - k) ∧ (n - k) < 4) ∧ 0 ≤ 1 ∧ 1 ≤ 2) ∧ ((w32 (pxF (mF A0) c k 1) = w32 (pxF (mF A0) e (n - k) 1) → (((0 ≤ c ∧ c < 8) ∧ (0 ≤ k ∧ k < 4) ∧ 0 ≤ 2 ∧ 2 ≤ 2) ∧ ((w32 z = w32 0 → (((0 ≤ e ∧ e < 8) ∧ (0 ≤ 0 ∧ 0 < 4) ∧ 0 ≤ 2 ∧ 2 ≤ 2) ∧ (((0 ≤ e ∧ e < 8) ∧ (0 ≤ (n - k) ∧ (n - k) < 4) ∧ 0 ≤ 2 ∧ 2 ≤ 2) ∧ (((0 ≤ c ∧ c < 8) ∧ (0 ≤ 0 ∧ 0 < 4) ∧ 0 ≤ 2 ∧ 2 ≤ 2) ∧ ((w32 ((pxF (mF A0) c k 2) * (pxF (mF A0) e 0 2)) = w32 ((pxF (mF A0) e (n - k) 2) * (pxF (mF A0) c 0 2)) → ((25 = 25 ∧ c = c ∧ e = e ∧ z = z ∧ F0 = F0 ∧ A0 = A0 ∧ (n = mF A0 (18 + c) - 1 ∧ mF A0 (18 + c) = mF A0 (18 + e) ∧ (0 ≤ (k + 1) ∧ (k + 1) ≤ mF A0 (18 + c)) ∧ ∀ kk, 0 ≤ kk → kk < (k + 1) → alQ (mF A0) c e z kk)) ∧ (Int.toNat (9 - (k + 1))) < (Int.toNat (9 - k)))) ∧ (¬ w32 ((pxF (mF A0) c k 2) * (pxF (mF A0) e 0 2)) = w32 ((pxF (mF A0) e (n - k) 2) * (pxF (mF A0) c 0 2)) → ((0 = 0 ∨ 0 = 1) ∧ (K (some (some (vI 0))) F0 A0)))))))) ∧ (¬ w32 z = w32 0 → (((0 ≤ e ∧ e < 8) ∧ (0 ≤ n ∧ n < 4) ∧ 0 ≤ 2 ∧ 2 ≤ 2) ∧ (((0 ≤ e ∧ e < 8) ∧ (0 ≤ (n - k) ∧ (n - k) < 4) ∧ 0 ≤ 2 ∧ 2 ≤ 2) ∧ (((0 ≤ c ∧ c < 8) ∧ (0 ≤ 0 ∧ 0 < 4) ∧ 0 ≤ 2 ∧ 2 ≤ 2) ∧ ((w32 ((pxF (mF A0) c k 2) * (pxF (mF A0) e n 2)) = w32 ((pxF (mF A0) e (n - k) 2) * (pxF (mF A0) c 0 2)) → ((25 = 25 ∧ c = c ∧ e = e ∧ z = z ∧ F0 = F0 ∧ A0 = A0 ∧ (n = mF A0 (18 + c) - 1 ∧ mF A0 (18 + c) = mF A0 (18 + e) ∧ (0 ≤ (k + 1) ∧ (k + 1) ≤ mF A0 (18 + c)) ∧ ∀ kk, 0 ≤ kk → kk < (k + 1) → alQ (mF A0) c e z kk)) ∧ (Int.toNat (9 - (k + 1))) < (Int.toNat (9 - k)))) ∧ (¬ w32 ((pxF (mF A0) c k 2) * (pxF (mF A0) e n 2)) = w32 ((pxF (mF A0) e (n - k) 2) * (pxF (mF A0) c 0 2)) → ((0 = 0 ∨ 0 = 1) ∧ (K (some (some (vI 0))) F0 A0))))))))))) ∧ (¬ w32 (pxF (mF A0) c k 1) = w32 (pxF (mF A0) e (n - k) 1) → ((0 = 0 ∨ 0 = 1) ∧ (K (some (some (vI 0))) F0 A0))))))) ∧ (¬ w32 (pxF (mF A0) c k 0) = w32 (pxF (mF A0) e (n - k) 0) → ((0 = 0 ∨ 0 = 1) ∧ (K (some (some (vI 0))) F0 A0)))))))))
  refine ⟨fun c1 => ?_, fun c1 => ?_⟩
  · skip
    (try simp (disch := omega) only [fat_in, w32_0, wbi0, Classical.not_not, w32_id] at c1)
    refine ⟨by first | decide | exact Or.inl rfl | exact Or.inr rfl | omega | exact ⟨by omega, by omega, by omega⟩, ?_⟩
    exact K_eq h ((if_pos h2).trans (bc_t (fun kk a0 a1 => h4 kk a0 (by omega))))
  · skip
    (try simp (disch := omega) only [fat_in, w32_0, wbi0, Classical.not_not, w32_id] at c1)
    refine ⟨fun c2 => ?_, fun c2 => ?_⟩
    · skip
      (try simp (disch := omega) only [fat_in, w32_0, wbi0, Classical.not_not, w32_id] at c2)
      refine ⟨by first | decide | exact Or.inl rfl | exact Or.inr rfl | omega | exact ⟨by omega, by omega, by omega⟩, ?_⟩
      refine ⟨by first | decide | exact Or.inl rfl | exact Or.inr rfl | omega | exact ⟨by omega, by omega, by omega⟩, ?_⟩
      refine ⟨fun c3 => ?_, fun c3 => ?_⟩
      · skip
        (try simp (disch := omega) only [fat_in, w32_0, wbi0, Classical.not_not, w32_id] at c3)
        refine ⟨by first | decide | exact Or.inl rfl | exact Or.inr rfl | omega | exact ⟨by omega, by omega, by omega⟩, ?_⟩
        refine ⟨by first | decide | exact Or.inl rfl | exact Or.inr rfl | omega | exact ⟨by omega, by omega, by omega⟩, ?_⟩
        refine ⟨fun c4 => ?_, fun c4 => ?_⟩
        · skip
          (try simp (disch := omega) only [fat_in, w32_0, wbi0, Classical.not_not, w32_id] at c4)
          refine ⟨by first | decide | exact Or.inl rfl | exact Or.inr rfl | omega | exact ⟨by omega, by omega, by omega⟩, ?_⟩
          refine ⟨fun c5 => ?_, fun c5 => ?_⟩
          · skip
            (try simp (disch := omega) only [fat_in, w32_0, wbi0, Classical.not_not, w32_id] at c5)
            refine ⟨by first | decide | exact Or.inl rfl | exact Or.inr rfl | omega | exact ⟨by omega, by omega, by omega⟩, ?_⟩
            refine ⟨by first | decide | exact Or.inl rfl | exact Or.inr rfl | omega | exact ⟨by omega, by omega, by omega⟩, ?_⟩
            refine ⟨by first | decide | exact Or.inl rfl | exact Or.inr rfl | omega | exact ⟨by omega, by omega, by omega⟩, ?_⟩
            refine ⟨fun c6 => ?_, fun c6 => ?_⟩
            · skip
              (try simp (disch := omega) only [fat_in, w32_0, wbi0, Classical.not_not, w32_id] at c6)
              refine ⟨⟨rfl, rfl, rfl, rfl, rfl, rfl, ?_⟩, by omega⟩
              first
              | (exfalso; omega)
              | (refine ⟨h1, h2, by omega, fun kk a0 a1 => ?_⟩
                 by_cases ek : kk = k
                 · subst ek
                   unfold alQ
                   first
                   | (simp only [if_pos (show z = 0 by omega)]; exact ⟨⟨c3, c4⟩, c6⟩)
                   | (simp only [if_neg (show ¬ z = 0 by omega), ← h1]; exact ⟨⟨c3, c4⟩, c6⟩)
                 · exact h4 kk a0 (by omega))
            · skip
              (try simp (disch := omega) only [fat_in, w32_0, wbi0, Classical.not_not, w32_id] at c6)
              refine ⟨by first | decide | exact Or.inl rfl | exact Or.inr rfl | omega | exact ⟨by omega, by omega, by omega⟩, ?_⟩
              first
              | (exfalso; omega)
              | (refine K_eq h ((if_pos h2).trans (bc_f (fun y => ?_)))
                 have y1 := y k (by omega) (by omega)
                 unfold alQ at y1
                 first
                 | (simp only [if_pos (show z = 0 by omega)] at y1; first | exact c3 y1.1.1 | exact c4 y1.1.2 | exact c6 y1.2)
                 | (simp only [if_neg (show ¬ z = 0 by omega), ← h1] at y1; first | exact c3 y1.1.1 | exact c4 y1.1.2 | exact c6 y1.2))
          · skip
            (try simp (disch := omega) only [fat_in, w32_0, wbi0, Classical.not_not, w32_id] at c5)
            refine ⟨by first | decide | exact Or.inl rfl | exact Or.inr rfl | omega | exact ⟨by omega, by omega, by omega⟩, ?_⟩
            refine ⟨by first | decide | exact Or.inl rfl | exact Or.inr rfl | omega | exact ⟨by omega, by omega, by omega⟩, ?_⟩
            refine ⟨by first | decide | exact Or.inl rfl | exact Or.inr rfl | omega | exact ⟨by omega, by omega, by omega⟩, ?_⟩
            refine ⟨fun c6 => ?_, fun c6 => ?_⟩
            · skip
              (try simp (disch := omega) only [fat_in, w32_0, wbi0, Classical.not_not, w32_id] at c6)
              refine ⟨⟨rfl, rfl, rfl, rfl, rfl, rfl, ?_⟩, by omega⟩
              first
              | (exfalso; omega)
              | (refine ⟨h1, h2, by omega, fun kk a0 a1 => ?_⟩
                 by_cases ek : kk = k
                 · subst ek
                   unfold alQ
                   first
                   | (simp only [if_pos (show z = 0 by omega)]; exact ⟨⟨c3, c4⟩, c6⟩)
                   | (simp only [if_neg (show ¬ z = 0 by omega), ← h1]; exact ⟨⟨c3, c4⟩, c6⟩)
                 · exact h4 kk a0 (by omega))
            · skip
              (try simp (disch := omega) only [fat_in, w32_0, wbi0, Classical.not_not, w32_id] at c6)
              refine ⟨by first | decide | exact Or.inl rfl | exact Or.inr rfl | omega | exact ⟨by omega, by omega, by omega⟩, ?_⟩
              first
              | (exfalso; omega)
              | (refine K_eq h ((if_pos h2).trans (bc_f (fun y => ?_)))
                 have y1 := y k (by omega) (by omega)
                 unfold alQ at y1
                 first
                 | (simp only [if_pos (show z = 0 by omega)] at y1; first | exact c3 y1.1.1 | exact c4 y1.1.2 | exact c6 y1.2)
                 | (simp only [if_neg (show ¬ z = 0 by omega), ← h1] at y1; first | exact c3 y1.1.1 | exact c4 y1.1.2 | exact c6 y1.2))
        · skip
          (try simp (disch := omega) only [fat_in, w32_0, wbi0, Classical.not_not, w32_id] at c4)
          refine ⟨by first | decide | exact Or.inl rfl | exact Or.inr rfl | omega | exact ⟨by omega, by omega, by omega⟩, ?_⟩
          first
          | (exfalso; omega)
          | (refine K_eq h ((if_pos h2).trans (bc_f (fun y => ?_)))
             have y1 := y k (by omega) (by omega)
             unfold alQ at y1
             first
             | (simp only [if_pos (show z = 0 by omega)] at y1; first | exact c3 y1.1.1 | exact c4 y1.1.2 | exact c6 y1.2)
             | (simp only [if_neg (show ¬ z = 0 by omega), ← h1] at y1; first | exact c3 y1.1.1 | exact c4 y1.1.2 | exact c6 y1.2))
      · skip
        (try simp (disch := omega) only [fat_in, w32_0, wbi0, Classical.not_not, w32_id] at c3)
        refine ⟨by first | decide | exact Or.inl rfl | exact Or.inr rfl | omega | exact ⟨by omega, by omega, by omega⟩, ?_⟩
        first
        | (exfalso; omega)
        | (refine K_eq h ((if_pos h2).trans (bc_f (fun y => ?_)))
           have y1 := y k (by omega) (by omega)
           unfold alQ at y1
           first
           | (simp only [if_pos (show z = 0 by omega)] at y1; first | exact c3 y1.1.1 | exact c4 y1.1.2 | exact c6 y1.2)
           | (simp only [if_neg (show ¬ z = 0 by omega), ← h1] at y1; first | exact c3 y1.1.1 | exact c4 y1.1.2 | exact c6 y1.2))
    · skip
      (try simp (disch := omega) only [fat_in, w32_0, wbi0, Classical.not_not, w32_id] at c2)
      refine ⟨by first | decide | exact Or.inl rfl | exact Or.inr rfl | omega | exact ⟨by omega, by omega, by omega⟩, ?_⟩
      refine ⟨by first | decide | exact Or.inl rfl | exact Or.inr rfl | omega | exact ⟨by omega, by omega, by omega⟩, ?_⟩
      refine ⟨fun c3 => ?_, fun c3 => ?_⟩
      · skip
        (try simp (disch := omega) only [fat_in, w32_0, wbi0, Classical.not_not, w32_id] at c3)
        refine ⟨by first | decide | exact Or.inl rfl | exact Or.inr rfl | omega | exact ⟨by omega, by omega, by omega⟩, ?_⟩
        refine ⟨by first | decide | exact Or.inl rfl | exact Or.inr rfl | omega | exact ⟨by omega, by omega, by omega⟩, ?_⟩
        refine ⟨fun c4 => ?_, fun c4 => ?_⟩
        · skip
          (try simp (disch := omega) only [fat_in, w32_0, wbi0, Classical.not_not, w32_id] at c4)
          refine ⟨by first | decide | exact Or.inl rfl | exact Or.inr rfl | omega | exact ⟨by omega, by omega, by omega⟩, ?_⟩
          refine ⟨fun c5 => ?_, fun c5 => ?_⟩
          · skip
            (try simp (disch := omega) only [fat_in, w32_0, wbi0, Classical.not_not, w32_id] at c5)
            refine ⟨by first | decide | exact Or.inl rfl | exact Or.inr rfl | omega | exact ⟨by omega, by omega, by omega⟩, ?_⟩
            refine ⟨by first | decide | exact Or.inl rfl | exact Or.inr rfl | omega | exact ⟨by omega, by omega, by omega⟩, ?_⟩
            refine ⟨by first | decide | exact Or.inl rfl | exact Or.inr rfl | omega | exact ⟨by omega, by omega, by omega⟩, ?_⟩
            refine ⟨fun c6 => ?_, fun c6 => ?_⟩
            · skip
              (try simp (disch := omega) only [fat_in, w32_0, wbi0, Classical.not_not, w32_id] at c6)
              refine ⟨⟨rfl, rfl, rfl, rfl, rfl, rfl, ?_⟩, by omega⟩
              first
              | (exfalso; omega)
              | (refine ⟨h1, h2, by omega, fun kk a0 a1 => ?_⟩
                 by_cases ek : kk = k
                 · subst ek
                   unfold alQ
                   first
                   | (simp only [if_pos (show z = 0 by omega)]; exact ⟨⟨c3, c4⟩, c6⟩)
                   | (simp only [if_neg (show ¬ z = 0 by omega), ← h1]; exact ⟨⟨c3, c4⟩, c6⟩)
                 · exact h4 kk a0 (by omega))
            · skip
              (try simp (disch := omega) only [fat_in, w32_0, wbi0, Classical.not_not, w32_id] at c6)
              refine ⟨by first | decide | exact Or.inl rfl | exact Or.inr rfl | omega | exact ⟨by omega, by omega, by omega⟩, ?_⟩
              first
              | (exfalso; omega)
              | (refine K_eq h ((if_pos h2).trans (bc_f (fun y => ?_)))
                 have y1 := y k (by omega) (by omega)
                 unfold alQ at y1
                 first
                 | (simp only [if_pos (show z = 0 by omega)] at y1; first | exact c3 y1.1.1 | exact c4 y1.1.2 | exact c6 y1.2)
                 | (simp only [if_neg (show ¬ z = 0 by omega), ← h1] at y1; first | exact c3 y1.1.1 | exact c4 y1.1.2 | exact c6 y1.2))
          · skip
            (try simp (disch := omega) only [fat_in, w32_0, wbi0, Classical.not_not, w32_id] at c5)
            refine ⟨by first | decide | exact Or.inl rfl | exact Or.inr rfl | omega | exact ⟨by omega, by omega, by omega⟩, ?_⟩
            refine ⟨by first | decide | exact Or.inl rfl | exact Or.inr rfl | omega | exact ⟨by omega, by omega, by omega⟩, ?_⟩
            refine ⟨by first | decide | exact Or.inl rfl | exact Or.inr rfl | omega | exact ⟨by omega, by omega, by omega⟩, ?_⟩
            refine ⟨fun c6 => ?_, fun c6 => ?_⟩
            · skip
              (try simp (disch := omega) only [fat_in, w32_0, wbi0, Classical.not_not, w32_id] at c6)
              refine ⟨⟨rfl, rfl, rfl, rfl, rfl, rfl, ?_⟩, by omega⟩
              first
              | (exfalso; omega)
              | (refine ⟨h1, h2, by omega, fun kk a0 a1 => ?_⟩
                 by_cases ek : kk = k
                 · subst ek
                   unfold alQ
                   first
                   | (simp only [if_pos (show z = 0 by omega)]; exact ⟨⟨c3, c4⟩, c6⟩)
                   | (simp only [if_neg (show ¬ z = 0 by omega), ← h1]; exact ⟨⟨c3, c4⟩, c6⟩)
                 · exact h4 kk a0 (by omega))
            · skip
              (try simp (disch := omega) only [fat_in, w32_0, wbi0, Classical.not_not, w32_id] at c6)
              refine ⟨by first | decide | exact Or.inl rfl | exact Or.inr rfl | omega | exact ⟨by omega, by omega, by omega⟩, ?_⟩
              first
              | (exfalso; omega)
              | (refine K_eq h ((if_pos h2).trans (bc_f (fun y => ?_)))
                 have y1 := y k (by omega) (by omega)
                 unfold alQ at y1
                 first
                 | (simp only [if_pos (show z = 0 by omega)] at y1; first | exact c3 y1.1.1 | exact c4 y1.1.2 | exact c6 y1.2)
                 | (simp only [if_neg (show ¬ z = 0 by omega), ← h1] at y1; first | exact c3 y1.1.1 | exact c4 y1.1.2 | exact c6 y1.2))
        · skip
          (try simp (disch := omega) only [fat_in, w32_0, wbi0, Classical.not_not, w32_id] at c4)
          refine ⟨by first | decide | exact Or.inl rfl | exact Or.inr rfl | omega | exact ⟨by omega, by omega, by omega⟩, ?_⟩
          first
          | (exfalso; omega)
          | (refine K_eq h ((if_pos h2).trans (bc_f (fun y => ?_)))
             have y1 := y k (by omega) (by omega)
             unfold alQ at y1
             first
             | (simp only [if_pos (show z = 0 by omega)] at y1; first | exact c3 y1.1.1 | exact c4 y1.1.2 | exact c6 y1.2)
             | (simp only [if_neg (show ¬ z = 0 by omega), ← h1] at y1; first | exact c3 y1.1.1 | exact c4 y1.1.2 | exact c6 y1.2))
      · skip
        (try simp (disch := omega) only [fat_in, w32_0, wbi0, Classical.not_not, w32_id] at c3)
        refine ⟨by first | decide | exact Or.inl rfl | exact Or.inr rfl | omega | exact ⟨by omega, by omega, by omega⟩, ?_⟩
        first
        | (exfalso; omega)
        | (refine K_eq h ((if_pos h2).trans (bc_f (fun y => ?_)))
           have y1 := y k (by omega) (by omega)
           unfold alQ at y1
           first
           | (simp only [if_pos (show z = 0 by omega)] at y1; first | exact c3 y1.1.1 | exact c4 y1.1.2 | exact c6 y1.2)
           | (simp only [if_neg (show ¬ z = 0 by omega), ← h1] at y1; first | exact c3 y1.1.1 | exact c4 y1.1.2 | exact c6 y1.2))
set_option maxRecDepth 20000 in
theorem qvX9_areAlike_25 (c : Int) (e : Int) (z : Int) (F0 : FF) (A0 : AA) (K : KK) (h : (fgOK (mF A0) ∧ (0 ≤ c ∧ c < mF A0 0) ∧ (0 ≤ e ∧ e < mF A0 0) ∧ (z = 0 ∨ z = 1)) ∧ (K (some (some (vI (aaF (mF A0) c e z)))) F0 A0)) : am_body qxX9_areAlike qnX9_areAlike_25 63 (qiX9_areAlike_25 c e z F0 A0) quX9_areAlike_25 [vR 25, vI c, vI e, vI z] 7 F0 A0 K := by
  refine ⟨qvX9_areAlike_25_0 c e z F0 A0 K h, fun pc ls st F A u hI => ?_⟩
  unfold qiX9_areAlike_25 at hI
  replace hI := am_cond2 hI
  rcases hI with ⟨hb, hI⟩ | hI
  · have hb := am_bq hb
    subst hb
    split at hI
    · rename_i s0 s1 s2 s3 n k
      obtain ⟨e0, e1, e2, e3, e4, e5, hI⟩ := hI
      subst e0
      subst e1
      subst e2
      subst e3
      subst e4
      subst e5
      exact qvX9_areAlike_25_25 _ _ _ _ _ K h _ _ hI
    · exact hI.elim
  exact hI.elim
theorem qtX9_areAlike (l : Launch) : am_CT l layM qeX9_areAlike := am_met0 rfl (by decide +kernel) rfl rfl rfl rfl rfl (fun _ => rfl) rfl (qzX9_areAlike l) (fun k e1 h => (qyX9_areAlike l k e1 h).2) (fun as F A K h => by
  replace h : qsX9_areAlike as F A K := h
  unfold qsX9_areAlike at h
  split at h
  · rename_i o c e z
    refine ⟨by first | exact Nat.le_of_ble_eq_true rfl | simp [am_fl, am_cat], ?_⟩
    replace h := am_cond2 h
    rcases h with ⟨hb, h⟩ | h
    · skip
      have hb0 := hb
      have hb0 := am_bq hb0
      subst hb0
      exact am_way_body (qvX9_areAlike_25 c e z F A K h)
    exact h.elim
  · exact h.elim)
def qkX9_sameness : Nat → Option CI := fun pc => cond (Nat.ble 41 pc) none (cond (Nat.ble 18 pc) (cond (Nat.ble 28 pc) (cond (Nat.ble 35 pc) (cond (Nat.ble 39 pc) (cond (Nat.beq pc 39) (some (.iconst 0, 40, [])) (cond (Nat.beq pc 40) (some (.ireturn, 41, [])) (none))) (cond (Nat.beq pc 35) (some (.iconst 2, 36, [])) (cond (Nat.beq pc 36) (some (.goto 4, 39, [40])) (none)))) (cond (Nat.beq pc 28) (some (.iconst 1, 29, [])) (cond (Nat.beq pc 29) (some (.invokevirtual 394, 32, [])) (cond (Nat.beq pc 32) (some (.ifCond .eq 7, 35, [39])) (none))))) (cond (Nat.ble 25 pc) (cond (Nat.beq pc 25) (some (.aload_n 0, 26, [])) (cond (Nat.beq pc 26) (some (.iload_n 1, 27, [])) (cond (Nat.beq pc 27) (some (.iload_n 2, 28, [])) (none)))) (cond (Nat.beq pc 18) (some (.ifCond .eq 7, 21, [25])) (cond (Nat.beq pc 21) (some (.iconst 1, 22, [])) (cond (Nat.beq pc 22) (some (.goto 18, 25, [40])) (none)))))) (cond (Nat.ble 10 pc) (cond (Nat.ble 13 pc) (cond (Nat.beq pc 13) (some (.iload_n 2, 14, [])) (cond (Nat.beq pc 14) (some (.iconst 0, 15, [])) (cond (Nat.beq pc 15) (some (.invokevirtual 394, 18, [])) (none)))) (cond (Nat.beq pc 10) (some (.ireturn, 11, [])) (cond (Nat.beq pc 11) (some (.aload_n 0, 12, [])) (cond (Nat.beq pc 12) (some (.iload_n 1, 13, [])) (none))))) (cond (Nat.ble 3 pc) (cond (Nat.beq pc 3) (some (.invokevirtual 385, 6, [])) (cond (Nat.beq pc 6) (some (.ifCond .ne 5, 9, [11])) (cond (Nat.beq pc 9) (some (.iconst 0, 10, [])) (none)))) (cond (Nat.beq pc 0) (some (.aload_n 0, 1, [])) (cond (Nat.beq pc 1) (some (.iload_n 1, 2, [])) (cond (Nat.beq pc 2) (some (.iload_n 2, 3, [])) (none)))))))
theorem qkX9_sameness_ok : ∀ pc i nx ts, qkX9_sameness pc = some (i, nx, ts) → am_cok cX9_sameness pc (i, nx, ts) = true := fun pc i nx ts h => am_tok_ok (n := 41) (by decide +kernel) (fun pc h => by show cond (Nat.ble 41 pc) _ _ = _; rw [Nat.ble_eq_true_of_le h]; rfl) h
def qaX9_sameness : Nat → Option CE := fun k => cond (Nat.beq k 385) (some qeX9_areTwo) (cond (Nat.beq k 394) (some qeX9_areAlike) (none))
theorem qyX9_sameness (l : Launch) : ∀ k e1, qaX9_sameness k = some e1 → am_cal l layM RX9 6 k e1 ∧ ceT e1 = 0 := q_cons ⟨am_calV (ci := 9) (qtX9_areTwo l) qbX9_areTwo (by decide) rfl (am_tb_at 1929 (by decide +kernel) rfl), rfl⟩ (q_cons ⟨am_calV (ci := 9) (qtX9_areAlike l) qbX9_areAlike (by decide) rfl (am_tb_at 1996 (by decide +kernel) rfl), rfl⟩ (q_nil))
def qxX9_sameness : CX := (qkX9_sameness, layM, qfX9, qaX9_sameness, qcX9, qlX9, qmX9, (some .int), false, none, 0, none, fun _ => none)
theorem qzX9_sameness (l : Launch) : am_sta l qxX9_sameness RX9 6 cX9_sameness := ⟨qkX9_sameness_ok, layM_ok, qfX9_ok, qcX9_ok, qlX9_ok, am_mthP qmX9_ok (by decide), fun k e1 h => (qyX9_sameness l k e1 h).1⟩
def qsX9_sameness : SP := fun as F A K => match as with
  | [.inr (.inr o), .inl c, .inl e] => cond (Nat.beq o 25) ((fgOK (mF A) ∧ (-2147483648 ≤ c ∧ c < 2147483648) ∧ (-2147483648 ≤ e ∧ e < 2147483648)) ∧ (∀ (G_1 : FF) (B_1 : AA), (qdP F G_1 A B_1 ∧ G_1 25 0 = (if (0 ≤ c ∧ c < mF A 0) ∧ 0 ≤ e ∧ e < mF A 0 then 0 else 1)) → (K (some (some (vI (if (0 ≤ c ∧ c < mF A 0) ∧ 0 ≤ e ∧ e < mF A 0 then (if aaF (mF A) c e 0 = 1 then 1 else if aaF (mF A) c e 1 = 1 then 2 else 0) else 0)))) G_1 B_1))) (False)
  | _ => False
def qeX9_sameness : CE := (yX9_sameness, cX9_sameness, 3, (some .int), 2, some 9, 0, [], 0, 6, qsX9_sameness)
theorem qbX9_sameness : am_mb qeX9_sameness := ⟨am_tb_at 1995 (by decide +kernel) rfl, am_tb_at 124 (by decide +kernel) rfl, ⟨by decide, by decide, by decide +kernel⟩, by decide, by decide, am_tb_at 1993 (by decide +kernel) rfl, am_tb_at 1994 (by decide +kernel) rfl, _, _, rfl⟩
set_option maxRecDepth 20000 in
theorem qvX9_sameness_25 (c : Int) (e : Int) (F : FF) (A : AA) (K : KK) (h : (fgOK (mF A) ∧ (-2147483648 ≤ c ∧ c < 2147483648) ∧ (-2147483648 ≤ e ∧ e < 2147483648)) ∧ (∀ (G_1 : FF) (B_1 : AA), (qdP F G_1 A B_1 ∧ G_1 25 0 = (if (0 ≤ c ∧ c < mF A 0) ∧ 0 ≤ e ∧ e < mF A 0 then 0 else 1)) → (K (some (some (vI (if (0 ≤ c ∧ c < mF A 0) ∧ 0 ≤ e ∧ e < mF A 0 then (if aaF (mF A) c e 0 = 1 then 1 else if aaF (mF A) c e 1 = 1 then 2 else 0) else 0)))) G_1 B_1))) : am_line qxX9_sameness 21 [vR 25, vI c, vI e] 3 F A K := by
  show am_stp qxX9_sameness (am_run qxX9_sameness (fun _ => none) (fun _ _ _ _ _ _ => False) K 21) K 0 [some (vR 25), some (vI c), some (vI e)] [] F A 0
  obtain ⟨hp, h⟩ := h
  have p1 := hp.1
  have q1 := p1.1.1
  have q2 := p1.1.2
  have q4 := p1.2.1

  show (fgOK (mF A) ∧ (-2147483648 ≤ c ∧ c < 2147483648) ∧ (-2147483648 ≤ e ∧ e < 2147483648)) ∧ ((w32 (bi ((0 ≤ c ∧ c < mF A 0) ∧ 0 ≤ e ∧ e < mF A 0)) = w32 0 → (K (some (some (vI 0))) (upF F 25 0 (1 - bi ((0 ≤ c ∧ c < mF A 0) ∧ 0 ≤ e ∧ e < mF A 0))) A)) ∧ (¬ (w32 (bi ((0 ≤ c ∧ c < mF A 0) ∧ 0 ≤ e ∧ e < mF A 0)) = w32 0) → ((fgOK (mF A) ∧ (0 ≤ c ∧ c < mF A 0) ∧ (0 ≤ e ∧ e < mF A 0) ∧ (0 = 0 ∨ 0 = 1)) ∧ ((w32 (aaF (mF A) c e 0) = w32 0 → ((fgOK (mF A) ∧ (0 ≤ c ∧ c < mF A 0) ∧ (0 ≤ e ∧ e < mF A 0) ∧ (1 = 0 ∨ 1 = 1)) ∧ ((w32 (aaF (mF A) c e 1) = w32 0 → (K (some (some (vI 0))) (upF F 25 0 (1 - bi ((0 ≤ c ∧ c < mF A 0) ∧ 0 ≤ e ∧ e < mF A 0))) A)) ∧ (¬ w32 (aaF (mF A) c e 1) = w32 0 → (K (some (some (vI 2))) (upF F 25 0 (1 - bi ((0 ≤ c ∧ c < mF A 0) ∧ 0 ≤ e ∧ e < mF A 0))) A))))) ∧ (¬ w32 (aaF (mF A) c e 0) = w32 0 → (K (some (some (vI 1))) (upF F 25 0 (1 - bi ((0 ≤ c ∧ c < mF A 0) ∧ 0 ≤ e ∧ e < mF A 0))) A))))))
  refine ⟨by exact ⟨p1, by omega, by omega⟩, ?_⟩
  refine ⟨fun c1 => ?_, fun c1 => ?_⟩
  · skip
    (try simp only [w32_0, wbi0, waa, Classical.not_not] at c1)
    exact K_eq (h _ _ ⟨qdP_F (by decide), by rw [upF_s, bi_f c1, if_neg c1]; rfl⟩) (if_neg c1)
  · skip
    (try simp only [w32_0, wbi0, waa, Classical.not_not] at c1)
    refine ⟨by first | exact bi_01 | exact aaF_01 | exact ⟨p1, c1.1, c1.2, Or.inl rfl⟩ | exact ⟨p1, c1.1, c1.2, Or.inr rfl⟩, ?_⟩
    refine ⟨fun c2 => ?_, fun c2 => ?_⟩
    · skip
      (try simp only [w32_0, wbi0, waa, Classical.not_not] at c2)
      refine ⟨by first | exact bi_01 | exact aaF_01 | exact ⟨p1, c1.1, c1.2, Or.inl rfl⟩ | exact ⟨p1, c1.1, c1.2, Or.inr rfl⟩, ?_⟩
      refine ⟨fun c3 => ?_, fun c3 => ?_⟩
      · skip
        (try simp only [w32_0, wbi0, waa, Classical.not_not] at c3)
        exact K_eq (h _ _ ⟨qdP_F (by decide), by rw [upF_s, bi_t c1, if_pos c1]; rfl⟩) (by rw [if_pos c1, if_neg c2, if_neg c3])
      · skip
        (try simp only [w32_0, wbi0, waa, Classical.not_not] at c3)
        exact K_eq (h _ _ ⟨qdP_F (by decide), by rw [upF_s, bi_t c1, if_pos c1]; rfl⟩) (by rw [if_pos c1, if_neg c2, if_pos c3])
    · skip
      (try simp only [w32_0, wbi0, waa, Classical.not_not] at c2)
      exact K_eq (h _ _ ⟨qdP_F (by decide), by rw [upF_s, bi_t c1, if_pos c1]; rfl⟩) (by rw [if_pos c1, if_pos c2])
theorem qtX9_sameness (l : Launch) : am_CT l layM qeX9_sameness := am_met0 rfl (by decide +kernel) rfl rfl rfl rfl rfl (fun _ => rfl) rfl (qzX9_sameness l) (fun k e1 h => (qyX9_sameness l k e1 h).2) (fun as F A K h => by
  replace h : qsX9_sameness as F A K := h
  unfold qsX9_sameness at h
  split at h
  · rename_i o c e
    refine ⟨by first | exact Nat.le_of_ble_eq_true rfl | simp [am_fl, am_cat], ?_⟩
    replace h := am_cond2 h
    rcases h with ⟨hb, h⟩ | h
    · skip
      have hb0 := hb
      have hb0 := am_bq hb0
      subst hb0
      exact am_way_line (qvX9_sameness_25 c e F A K h)
    exact h.elim
  · exact h.elim)
def qkX9_isShared : Nat → Option CI := fun pc => cond (Nat.ble 42 pc) none (cond (Nat.ble 20 pc) (cond (Nat.ble 29 pc) (cond (Nat.ble 36 pc) (cond (Nat.ble 40 pc) (cond (Nat.beq pc 40) (some (.iconst 0, 41, [])) (cond (Nat.beq pc 41) (some (.ireturn, 42, [])) (none))) (cond (Nat.beq pc 36) (some (.iconst 1, 37, [])) (cond (Nat.beq pc 37) (some (.goto 4, 40, [41])) (none)))) (cond (Nat.beq pc 29) (some (.iconst 1, 30, [])) (cond (Nat.beq pc 30) (some (.invokevirtual 83, 33, [])) (cond (Nat.beq pc 33) (some (.if_icmp .ne 7, 36, [40])) (none))))) (cond (Nat.ble 25 pc) (cond (Nat.beq pc 25) (some (.aload_n 0, 26, [])) (cond (Nat.beq pc 26) (some (.iload_n 3, 27, [])) (cond (Nat.beq pc 27) (some (.iload 4, 29, [])) (none)))) (cond (Nat.beq pc 20) (some (.iload_n 2, 21, [])) (cond (Nat.beq pc 21) (some (.iconst 1, 22, [])) (cond (Nat.beq pc 22) (some (.invokevirtual 83, 25, [])) (none)))))) (cond (Nat.ble 8 pc) (cond (Nat.ble 12 pc) (cond (Nat.ble 18 pc) (cond (Nat.beq pc 18) (some (.aload_n 0, 19, [])) (cond (Nat.beq pc 19) (some (.iload_n 1, 20, [])) (none))) (cond (Nat.beq pc 12) (some (.invokevirtual 83, 15, [])) (cond (Nat.beq pc 15) (some (.if_icmp .ne 25, 18, [40])) (none)))) (cond (Nat.beq pc 8) (some (.iload_n 3, 9, [])) (cond (Nat.beq pc 9) (some (.iload 4, 11, [])) (cond (Nat.beq pc 11) (some (.iconst 0, 12, [])) (none))))) (cond (Nat.ble 3 pc) (cond (Nat.beq pc 3) (some (.iconst 0, 4, [])) (cond (Nat.beq pc 4) (some (.invokevirtual 83, 7, [])) (cond (Nat.beq pc 7) (some (.aload_n 0, 8, [])) (none)))) (cond (Nat.beq pc 0) (some (.aload_n 0, 1, [])) (cond (Nat.beq pc 1) (some (.iload_n 1, 2, [])) (cond (Nat.beq pc 2) (some (.iload_n 2, 3, [])) (none)))))))
theorem qkX9_isShared_ok : ∀ pc i nx ts, qkX9_isShared pc = some (i, nx, ts) → am_cok cX9_isShared pc (i, nx, ts) = true := fun pc i nx ts h => am_tok_ok (n := 42) (by decide +kernel) (fun pc h => by show cond (Nat.ble 42 pc) _ _ = _; rw [Nat.ble_eq_true_of_le h]; rfl) h
def qaX9_isShared : Nat → Option CE := fun k => cond (Nat.beq k 83) (some qeX9_point) (none)
theorem qyX9_isShared (l : Launch) : ∀ k e1, qaX9_isShared k = some e1 → am_cal l layM RX9 4 k e1 ∧ ceT e1 = 0 := q_cons ⟨am_calV (ci := 9) (qtX9_point l) qbX9_point (by decide) rfl (am_tb_at 1675 (by decide +kernel) rfl), rfl⟩ (q_nil)
def qxX9_isShared : CX := (qkX9_isShared, layM, qfX9, qaX9_isShared, qcX9, qlX9, qmX9, (some .boolean), false, none, 0, none, fun _ => none)
theorem qzX9_isShared (l : Launch) : am_sta l qxX9_isShared RX9 4 cX9_isShared := ⟨qkX9_isShared_ok, layM_ok, qfX9_ok, qcX9_ok, qlX9_ok, am_mthP qmX9_ok (by decide), fun k e1 h => (qyX9_isShared l k e1 h).1⟩
def qsX9_isShared : SP := fun as F A K => match as with
  | [.inr (.inr o), .inl c, .inl k, .inl e, .inl i] => cond (Nat.beq o 25) (((0 ≤ c ∧ c < 8) ∧ (0 ≤ e ∧ e < 8) ∧ (0 ≤ k ∧ k < 4) ∧ (0 ≤ i ∧ i < 4)) ∧ (K (some (some (vI (bi (w32 (pxF (mF A) c k 0) = w32 (pxF (mF A) e i 0) ∧ w32 (pxF (mF A) c k 1) = w32 (pxF (mF A) e i 1)))))) F A)) (False)
  | _ => False
def qeX9_isShared : CE := (yX9_isShared, cX9_isShared, 5, (some .boolean), 4, some 9, 0, [], 0, 4, qsX9_isShared)
theorem qbX9_isShared : am_mb qeX9_isShared := ⟨am_tb_at 2007 (by decide +kernel) rfl, am_tb_at 124 (by decide +kernel) rfl, ⟨by decide, by decide, by decide +kernel⟩, by decide, by decide, am_tb_at 2006 (by decide +kernel) rfl, am_tb_at 110 (by decide +kernel) rfl, _, _, rfl⟩
set_option maxRecDepth 20000 in
theorem qvX9_isShared_25 (c : Int) (k : Int) (e : Int) (i : Int) (F : FF) (A : AA) (K : KK) (h : ((0 ≤ c ∧ c < 8) ∧ (0 ≤ e ∧ e < 8) ∧ (0 ≤ k ∧ k < 4) ∧ (0 ≤ i ∧ i < 4)) ∧ (K (some (some (vI (bi (w32 (pxF (mF A) c k 0) = w32 (pxF (mF A) e i 0) ∧ w32 (pxF (mF A) c k 1) = w32 (pxF (mF A) e i 1)))))) F A)) : am_line qxX9_isShared 26 [vR 25, vI c, vI k, vI e, vI i] 5 F A K := by
  show am_stp qxX9_isShared (am_run qxX9_isShared (fun _ => none) (fun _ _ _ _ _ _ => False) K 26) K 0 [some (vR 25), some (vI c), some (vI k), some (vI e), some (vI i)] [] F A 0
  obtain ⟨hp, h⟩ := h
  show ((0 ≤ c ∧ c < 8) ∧ (0 ≤ k ∧ k < 4) ∧ 0 ≤ 0 ∧ 0 ≤ 2) ∧ (((0 ≤ e ∧ e < 8) ∧ (0 ≤ i ∧ i < 4) ∧ 0 ≤ 0 ∧ 0 ≤ 2) ∧ ((w32 (pxF (mF A) c k 0) = w32 (pxF (mF A) e i 0) → (((0 ≤ c ∧ c < 8) ∧ (0 ≤ k ∧ k < 4) ∧ 0 ≤ 1 ∧ 1 ≤ 2) ∧ (((0 ≤ e ∧ e < 8) ∧ (0 ≤ i ∧ i < 4) ∧ 0 ≤ 1 ∧ 1 ≤ 2) ∧ ((w32 (pxF (mF A) c k 1) = w32 (pxF (mF A) e i 1) → ((1 = 0 ∨ 1 = 1) ∧ (K (some (some (vI 1))) F A))) ∧ (¬ w32 (pxF (mF A) c k 1) = w32 (pxF (mF A) e i 1) → ((0 = 0 ∨ 0 = 1) ∧ (K (some (some (vI 0))) F A))))))) ∧ (¬ w32 (pxF (mF A) c k 0) = w32 (pxF (mF A) e i 0) → ((0 = 0 ∨ 0 = 1) ∧ (K (some (some (vI 0))) F A)))))
  refine ⟨by first | exact Or.inl rfl | exact Or.inr rfl | exact ⟨by omega, by omega, by omega⟩ | omega, ?_⟩
  refine ⟨by first | exact Or.inl rfl | exact Or.inr rfl | exact ⟨by omega, by omega, by omega⟩ | omega, ?_⟩
  refine ⟨fun c1 => ?_, fun c1 => ?_⟩
  · skip
    (try simp (disch := omega) only [fat_in, w32_0, wbi0, Classical.not_not, w32_id] at c1)
    refine ⟨by first | exact Or.inl rfl | exact Or.inr rfl | exact ⟨by omega, by omega, by omega⟩ | omega, ?_⟩
    refine ⟨by first | exact Or.inl rfl | exact Or.inr rfl | exact ⟨by omega, by omega, by omega⟩ | omega, ?_⟩
    refine ⟨fun c2 => ?_, fun c2 => ?_⟩
    · skip
      (try simp (disch := omega) only [fat_in, w32_0, wbi0, Classical.not_not, w32_id] at c2)
      refine ⟨by first | exact Or.inl rfl | exact Or.inr rfl | exact ⟨by omega, by omega, by omega⟩ | omega, ?_⟩
      first | exact K_eq h (bi_t ⟨c1, c2⟩) | exact K_eq h (bi_f (fun z => c1 z.1)) | exact K_eq h (bi_f (fun z => c2 z.2))
    · skip
      (try simp (disch := omega) only [fat_in, w32_0, wbi0, Classical.not_not, w32_id] at c2)
      refine ⟨by first | exact Or.inl rfl | exact Or.inr rfl | exact ⟨by omega, by omega, by omega⟩ | omega, ?_⟩
      first | exact K_eq h (bi_t ⟨c1, c2⟩) | exact K_eq h (bi_f (fun z => c1 z.1)) | exact K_eq h (bi_f (fun z => c2 z.2))
  · skip
    (try simp (disch := omega) only [fat_in, w32_0, wbi0, Classical.not_not, w32_id] at c1)
    refine ⟨by first | exact Or.inl rfl | exact Or.inr rfl | exact ⟨by omega, by omega, by omega⟩ | omega, ?_⟩
    first | exact K_eq h (bi_t ⟨c1, c2⟩) | exact K_eq h (bi_f (fun z => c1 z.1)) | exact K_eq h (bi_f (fun z => c2 z.2))
theorem qtX9_isShared (l : Launch) : am_CT l layM qeX9_isShared := am_met0 rfl (by decide +kernel) rfl rfl rfl rfl rfl (fun _ => rfl) rfl (qzX9_isShared l) (fun k e1 h => (qyX9_isShared l k e1 h).2) (fun as F A K h => by
  replace h : qsX9_isShared as F A K := h
  unfold qsX9_isShared at h
  split at h
  · rename_i o c k e i
    refine ⟨by first | exact Nat.le_of_ble_eq_true rfl | simp [am_fl, am_cat], ?_⟩
    replace h := am_cond2 h
    rcases h with ⟨hb, h⟩ | h
    · skip
      have hb0 := hb
      have hb0 := am_bq hb0
      subst hb0
      exact am_way_line (qvX9_isShared_25 c k e i F A K h)
    exact h.elim
  · exact h.elim)
def qkX9_sharedEnds : Nat → Option CI := fun pc => cond (Nat.ble 99 pc) none (cond (Nat.ble 46 pc) (cond (Nat.ble 73 pc) (cond (Nat.ble 83 pc) (cond (Nat.ble 93 pc) (cond (Nat.ble 97 pc) (cond (Nat.beq pc 97) (some (.iadd, 98, [])) (cond (Nat.beq pc 98) (some (.ireturn, 99, [])) (none))) (cond (Nat.beq pc 93) (some (.goto 4, 96, [97])) (cond (Nat.beq pc 96) (some (.iconst 0, 97, [])) (none)))) (cond (Nat.ble 88 pc) (cond (Nat.beq pc 88) (some (.ifCond .eq 8, 91, [96])) (cond (Nat.beq pc 91) (some (.bipush 8, 93, [])) (none))) (cond (Nat.beq pc 83) (some (.iload 4, 85, [])) (cond (Nat.beq pc 85) (some (.invokevirtual 398, 88, [])) (none))))) (cond (Nat.ble 79 pc) (cond (Nat.ble 81 pc) (cond (Nat.beq pc 81) (some (.iload_n 3, 82, [])) (cond (Nat.beq pc 82) (some (.iload_n 2, 83, [])) (none))) (cond (Nat.beq pc 79) (some (.aload_n 0, 80, [])) (cond (Nat.beq pc 80) (some (.iload_n 1, 81, [])) (none)))) (cond (Nat.ble 77 pc) (cond (Nat.beq pc 77) (some (.iconst 0, 78, [])) (cond (Nat.beq pc 78) (some (.iadd, 79, [])) (none))) (cond (Nat.beq pc 73) (some (.iconst 4, 74, [])) (cond (Nat.beq pc 74) (some (.goto 4, 77, [78])) (none)))))) (cond (Nat.ble 60 pc) (cond (Nat.ble 65 pc) (cond (Nat.ble 67 pc) (cond (Nat.beq pc 67) (some (.invokevirtual 398, 70, [])) (cond (Nat.beq pc 70) (some (.ifCond .eq 7, 73, [77])) (none))) (cond (Nat.beq pc 65) (some (.iload_n 2, 66, [])) (cond (Nat.beq pc 66) (some (.iconst 0, 67, [])) (none)))) (cond (Nat.ble 63 pc) (cond (Nat.beq pc 63) (some (.iload_n 1, 64, [])) (cond (Nat.beq pc 64) (some (.iload_n 3, 65, [])) (none))) (cond (Nat.beq pc 60) (some (.iload 5, 62, [])) (cond (Nat.beq pc 62) (some (.aload_n 0, 63, [])) (none))))) (cond (Nat.ble 53 pc) (cond (Nat.ble 57 pc) (cond (Nat.beq pc 57) (some (.iadd, 58, [])) (cond (Nat.beq pc 58) (some (.istore 5, 60, [])) (none))) (cond (Nat.beq pc 53) (some (.goto 4, 56, [57])) (cond (Nat.beq pc 56) (some (.iconst 0, 57, [])) (none)))) (cond (Nat.beq pc 46) (some (.invokevirtual 398, 49, [])) (cond (Nat.beq pc 49) (some (.ifCond .eq 7, 52, [56])) (cond (Nat.beq pc 52) (some (.iconst 2, 53, [])) (none))))))) (cond (Nat.ble 24 pc) (cond (Nat.ble 35 pc) (cond (Nat.ble 41 pc) (cond (Nat.ble 43 pc) (cond (Nat.beq pc 43) (some (.iload_n 2, 44, [])) (cond (Nat.beq pc 44) (some (.iload 4, 46, [])) (none))) (cond (Nat.beq pc 41) (some (.iload_n 1, 42, [])) (cond (Nat.beq pc 42) (some (.iconst 0, 43, [])) (none)))) (cond (Nat.ble 39 pc) (cond (Nat.beq pc 39) (some (.iconst 0, 40, [])) (cond (Nat.beq pc 40) (some (.aload_n 0, 41, [])) (none))) (cond (Nat.beq pc 35) (some (.iconst 1, 36, [])) (cond (Nat.beq pc 36) (some (.goto 4, 39, [40])) (none))))) (cond (Nat.ble 27 pc) (cond (Nat.ble 29 pc) (cond (Nat.beq pc 29) (some (.invokevirtual 398, 32, [])) (cond (Nat.beq pc 32) (some (.ifCond .eq 7, 35, [39])) (none))) (cond (Nat.beq pc 27) (some (.iload_n 2, 28, [])) (cond (Nat.beq pc 28) (some (.iconst 0, 29, [])) (none)))) (cond (Nat.beq pc 24) (some (.aload_n 0, 25, [])) (cond (Nat.beq pc 25) (some (.iload_n 1, 26, [])) (cond (Nat.beq pc 26) (some (.iconst 0, 27, [])) (none)))))) (cond (Nat.ble 11 pc) (cond (Nat.ble 17 pc) (cond (Nat.ble 19 pc) (cond (Nat.beq pc 19) (some (.invokevirtual 80, 22, [])) (cond (Nat.beq pc 22) (some (.istore 4, 24, [])) (none))) (cond (Nat.beq pc 17) (some (.aload_n 0, 18, [])) (cond (Nat.beq pc 18) (some (.iload_n 2, 19, [])) (none)))) (cond (Nat.ble 13 pc) (cond (Nat.beq pc 13) (some (.invokevirtual 80, 16, [])) (cond (Nat.beq pc 16) (some (.istore_n 3, 17, [])) (none))) (cond (Nat.beq pc 11) (some (.aload_n 0, 12, [])) (cond (Nat.beq pc 12) (some (.iload_n 1, 13, [])) (none))))) (cond (Nat.ble 3 pc) (cond (Nat.ble 9 pc) (cond (Nat.beq pc 9) (some (.iconst 0, 10, [])) (cond (Nat.beq pc 10) (some (.ireturn, 11, [])) (none))) (cond (Nat.beq pc 3) (some (.invokevirtual 385, 6, [])) (cond (Nat.beq pc 6) (some (.ifCond .ne 5, 9, [11])) (none)))) (cond (Nat.beq pc 0) (some (.aload_n 0, 1, [])) (cond (Nat.beq pc 1) (some (.iload_n 1, 2, [])) (cond (Nat.beq pc 2) (some (.iload_n 2, 3, [])) (none))))))))
theorem qkX9_sharedEnds_ok : ∀ pc i nx ts, qkX9_sharedEnds pc = some (i, nx, ts) → am_cok cX9_sharedEnds pc (i, nx, ts) = true := fun pc i nx ts h => am_tok_ok (n := 99) (by decide +kernel) (fun pc h => by show cond (Nat.ble 99 pc) _ _ = _; rw [Nat.ble_eq_true_of_le h]; rfl) h
def qaX9_sharedEnds : Nat → Option CE := fun k => cond (Nat.beq k 385) (some qeX9_areTwo) (cond (Nat.beq k 80) (some qeX9_order) (cond (Nat.beq k 398) (some qeX9_isShared) (none)))
theorem qyX9_sharedEnds (l : Launch) : ∀ k e1, qaX9_sharedEnds k = some e1 → am_cal l layM RX9 5 k e1 ∧ ceT e1 = 0 := q_cons ⟨am_calV (ci := 9) (qtX9_areTwo l) qbX9_areTwo (by decide) rfl (am_tb_at 1929 (by decide +kernel) rfl), rfl⟩ (q_cons ⟨am_calV (ci := 9) (qtX9_order l) qbX9_order (by decide) rfl (am_tb_at 1659 (by decide +kernel) rfl), rfl⟩ (q_cons ⟨am_calV (ci := 9) (qtX9_isShared l) qbX9_isShared (by decide) rfl (am_tb_at 2004 (by decide +kernel) rfl), rfl⟩ (q_nil)))
def qxX9_sharedEnds : CX := (qkX9_sharedEnds, layM, qfX9, qaX9_sharedEnds, qcX9, qlX9, qmX9, (some .int), false, none, 0, none, fun _ => none)
theorem qzX9_sharedEnds (l : Launch) : am_sta l qxX9_sharedEnds RX9 5 cX9_sharedEnds := ⟨qkX9_sharedEnds_ok, layM_ok, qfX9_ok, qcX9_ok, qlX9_ok, am_mthP qmX9_ok (by decide), fun k e1 h => (qyX9_sharedEnds l k e1 h).1⟩
def qsX9_sharedEnds : SP := fun as F A K => match as with
  | [.inr (.inr o), .inl c, .inl e] => cond (Nat.beq o 25) ((fgOK (mF A) ∧ (-2147483648 ≤ c ∧ c < 2147483648) ∧ (-2147483648 ≤ e ∧ e < 2147483648)) ∧ (∀ (G_1 : FF) (B_1 : AA), (qdP F G_1 A B_1 ∧ G_1 25 0 = (if (0 ≤ c ∧ c < mF A 0) ∧ 0 ≤ e ∧ e < mF A 0 then 0 else 1)) → (K (some (some (vI (if (0 ≤ c ∧ c < mF A 0) ∧ 0 ≤ e ∧ e < mF A 0 then bi (w32 (pxF (mF A) c 0 0) = w32 (pxF (mF A) e 0 0) ∧ w32 (pxF (mF A) c 0 1) = w32 (pxF (mF A) e 0 1)) + 2 * bi (w32 (pxF (mF A) c 0 0) = w32 (pxF (mF A) e (mF A (18 + e) - 1) 0) ∧ w32 (pxF (mF A) c 0 1) = w32 (pxF (mF A) e (mF A (18 + e) - 1) 1)) + 4 * bi (w32 (pxF (mF A) c (mF A (18 + c) - 1) 0) = w32 (pxF (mF A) e 0 0) ∧ w32 (pxF (mF A) c (mF A (18 + c) - 1) 1) = w32 (pxF (mF A) e 0 1)) + 8 * bi (w32 (pxF (mF A) c (mF A (18 + c) - 1) 0) = w32 (pxF (mF A) e (mF A (18 + e) - 1) 0) ∧ w32 (pxF (mF A) c (mF A (18 + c) - 1) 1) = w32 (pxF (mF A) e (mF A (18 + e) - 1) 1)) else 0)))) G_1 B_1))) (False)
  | _ => False
def qeX9_sharedEnds : CE := (yX9_sharedEnds, cX9_sharedEnds, 6, (some .int), 2, some 9, 0, [], 0, 5, qsX9_sharedEnds)
theorem qbX9_sharedEnds : am_mb qeX9_sharedEnds := ⟨am_tb_at 2003 (by decide +kernel) rfl, am_tb_at 124 (by decide +kernel) rfl, ⟨by decide, by decide, by decide +kernel⟩, by decide, by decide, am_tb_at 2001 (by decide +kernel) rfl, am_tb_at 2002 (by decide +kernel) rfl, _, _, rfl⟩
set_option maxRecDepth 20000 in
theorem qvX9_sharedEnds_25 (c : Int) (e : Int) (F : FF) (A : AA) (K : KK) (h : (fgOK (mF A) ∧ (-2147483648 ≤ c ∧ c < 2147483648) ∧ (-2147483648 ≤ e ∧ e < 2147483648)) ∧ (∀ (G_1 : FF) (B_1 : AA), (qdP F G_1 A B_1 ∧ G_1 25 0 = (if (0 ≤ c ∧ c < mF A 0) ∧ 0 ≤ e ∧ e < mF A 0 then 0 else 1)) → (K (some (some (vI (if (0 ≤ c ∧ c < mF A 0) ∧ 0 ≤ e ∧ e < mF A 0 then bi (w32 (pxF (mF A) c 0 0) = w32 (pxF (mF A) e 0 0) ∧ w32 (pxF (mF A) c 0 1) = w32 (pxF (mF A) e 0 1)) + 2 * bi (w32 (pxF (mF A) c 0 0) = w32 (pxF (mF A) e (mF A (18 + e) - 1) 0) ∧ w32 (pxF (mF A) c 0 1) = w32 (pxF (mF A) e (mF A (18 + e) - 1) 1)) + 4 * bi (w32 (pxF (mF A) c (mF A (18 + c) - 1) 0) = w32 (pxF (mF A) e 0 0) ∧ w32 (pxF (mF A) c (mF A (18 + c) - 1) 1) = w32 (pxF (mF A) e 0 1)) + 8 * bi (w32 (pxF (mF A) c (mF A (18 + c) - 1) 0) = w32 (pxF (mF A) e (mF A (18 + e) - 1) 0) ∧ w32 (pxF (mF A) c (mF A (18 + c) - 1) 1) = w32 (pxF (mF A) e (mF A (18 + e) - 1) 1)) else 0)))) G_1 B_1))) : am_line qxX9_sharedEnds 56 [vR 25, vI c, vI e] 6 F A K := by
  show am_stp qxX9_sharedEnds (am_run qxX9_sharedEnds (fun _ => none) (fun _ _ _ _ _ _ => False) K 56) K 0 [some (vR 25), some (vI c), some (vI e), none, none, none] [] F A 0
  obtain ⟨hp, h⟩ := h
  have p1 := hp.1
  have q1 := p1.1.1
  have q2 := p1.1.2
  have q4 := p1.2.1

  show (fgOK (mF A) ∧ (-2147483648 ≤ c ∧ c < 2147483648) ∧ (-2147483648 ≤ e ∧ e < 2147483648)) ∧ ((w32 (bi ((0 ≤ c ∧ c < mF A 0) ∧ 0 ≤ e ∧ e < mF A 0)) = w32 0 → (K (some (some (vI 0))) (upF F 25 0 (1 - bi ((0 ≤ c ∧ c < mF A 0) ∧ 0 ≤ e ∧ e < mF A 0))) A)) ∧ (¬ (w32 (bi ((0 ≤ c ∧ c < mF A 0) ∧ 0 ≤ e ∧ e < mF A 0)) = w32 0) → ((0 ≤ c ∧ c < 8) ∧ ((0 ≤ e ∧ e < 8) ∧ (((0 ≤ c ∧ c < 8) ∧ (0 ≤ e ∧ e < 8) ∧ (0 ≤ 0 ∧ 0 < 4) ∧ (0 ≤ 0 ∧ 0 < 4)) ∧ ((w32 (bi (w32 (pxF (mF A) c 0 0) = w32 (pxF (mF A) e 0 0) ∧ w32 (pxF (mF A) c 0 1) = w32 (pxF (mF A) e 0 1))) = w32 0 → (((0 ≤ c ∧ c < 8) ∧ (0 ≤ e ∧ e < 8) ∧ (0 ≤ 0 ∧ 0 < 4) ∧ (0 ≤ (mF A (18 + e) - 1) ∧ (mF A (18 + e) - 1) < 4)) ∧ ((w32 (bi (w32 (pxF (mF A) c 0 0) = w32 (pxF (mF A) e (mF A (18 + e) - 1) 0) ∧ w32 (pxF (mF A) c 0 1) = w32 (pxF (mF A) e (mF A (18 + e) - 1) 1))) = w32 0 → (((0 ≤ c ∧ c < 8) ∧ (0 ≤ e ∧ e < 8) ∧ (0 ≤ (mF A (18 + c) - 1) ∧ (mF A (18 + c) - 1) < 4) ∧ (0 ≤ 0 ∧ 0 < 4)) ∧ ((w32 (bi (w32 (pxF (mF A) c (mF A (18 + c) - 1) 0) = w32 (pxF (mF A) e 0 0) ∧ w32 (pxF (mF A) c (mF A (18 + c) - 1) 1) = w32 (pxF (mF A) e 0 1))) = w32 0 → (((0 ≤ c ∧ c < 8) ∧ (0 ≤ e ∧ e < 8) ∧ (0 ≤ (mF A (18 + c) - 1) ∧ (mF A (18 + c) - 1) < 4) ∧ (0 ≤ (mF A (18 + e) - 1) ∧ (mF A (18 + e) - 1) < 4)) ∧ ((w32 (bi (w32 (pxF (mF A) c (mF A (18 + c) - 1) 0) = w32 (pxF (mF A) e (mF A (18 + e) - 1) 0) ∧ w32 (pxF (mF A) c (mF A (18 + c) - 1) 1) = w32 (pxF (mF A) e (mF A (18 + e) - 1) 1))) = w32 0 → (K (some (some (vI 0))) (upF F 25 0 (1 - bi ((0 ≤ c ∧ c < mF A 0) ∧ 0 ≤ e ∧ e < mF A 0))) A)) ∧ (¬ (w32 (bi (w32 (pxF (mF A) c (mF A (18 + c) - 1) 0) = w32 (pxF (mF A) e (mF A (18 + e) - 1) 0) ∧ w32 (pxF (mF A) c (mF A (18 + c) - 1) 1) = w32 (pxF (mF A) e (mF A (18 + e) - 1) 1))) = w32 0) → (K (some (some (vI 8))) (upF F 25 0 (1 - bi ((0 ≤ c ∧ c < mF A 0) ∧ 0 ≤ e ∧ e < mF A 0))) A))))) ∧ (¬ (w32 (bi (w32 (pxF (mF A) c (mF A (18 + c) - 1) 0) = w32 (pxF (mF A) e 0 0) ∧ w32 (pxF (mF A) c (mF A (18 + c) - 1) 1) = w32 (pxF (mF A) e 0 1))) = w32 0) → (((0 ≤ c ∧ c < 8) ∧ (0 ≤ e ∧ e < 8) ∧ (0 ≤ (mF A (18 + c) - 1) ∧ (mF A (18 + c) - 1) < 4) ∧ (0 ≤ (mF A (18 + e) - 1) ∧ (mF A (18 + e) - 1) < 4)) ∧ ((w32 (bi (w32 (pxF (mF A) c (mF A (18 + c) - 1) 0) = w32 (pxF (mF A) e (mF A (18 + e) - 1) 0) ∧ w32 (pxF (mF A) c (mF A (18 + c) - 1) 1) = w32 (pxF (mF A) e (mF A (18 + e) - 1) 1))) = w32 0 → (K (some (some (vI 4))) (upF F 25 0 (1 - bi ((0 ≤ c ∧ c < mF A 0) ∧ 0 ≤ e ∧ e < mF A 0))) A)) ∧ (¬ (w32 (bi (w32 (pxF (mF A) c (mF A (18 + c) - 1) 0) = w32 (pxF (mF A) e (mF A (18 + e) - 1) 0) ∧ w32 (pxF (mF A) c (mF A (18 + c) - 1) 1) = w32 (pxF (mF A) e (mF A (18 + e) - 1) 1))) = w32 0) → (K (some (some (vI 12))) (upF F 25 0 (1 - bi ((0 ≤ c ∧ c < mF A 0) ∧ 0 ≤ e ∧ e < mF A 0))) A)))))))) ∧ (¬ (w32 (bi (w32 (pxF (mF A) c 0 0) = w32 (pxF (mF A) e (mF A (18 + e) - 1) 0) ∧ w32 (pxF (mF A) c 0 1) = w32 (pxF (mF A) e (mF A (18 + e) - 1) 1))) = w32 0) → (((0 ≤ c ∧ c < 8) ∧ (0 ≤ e ∧ e < 8) ∧ (0 ≤ (mF A (18 + c) - 1) ∧ (mF A (18 + c) - 1) < 4) ∧ (0 ≤ 0 ∧ 0 < 4)) ∧ ((w32 (bi (w32 (pxF (mF A) c (mF A (18 + c) - 1) 0) = w32 (pxF (mF A) e 0 0) ∧ w32 (pxF (mF A) c (mF A (18 + c) - 1) 1) = w32 (pxF (mF A) e 0 1))) = w32 0 → (((0 ≤ c ∧ c < 8) ∧ (0 ≤ e ∧ e < 8) ∧ (0 ≤ (mF A (18 + c) - 1) ∧ (mF A (18 + c) - 1) < 4) ∧ (0 ≤ (mF A (18 + e) - 1) ∧ (mF A (18 + e) - 1) < 4)) ∧ ((w32 (bi (w32 (pxF (mF A) c (mF A (18 + c) - 1) 0) = w32 (pxF (mF A) e (mF A (18 + e) - 1) 0) ∧ w32 (pxF (mF A) c (mF A (18 + c) - 1) 1) = w32 (pxF (mF A) e (mF A (18 + e) - 1) 1))) = w32 0 → (K (some (some (vI 2))) (upF F 25 0 (1 - bi ((0 ≤ c ∧ c < mF A 0) ∧ 0 ≤ e ∧ e < mF A 0))) A)) ∧ (¬ (w32 (bi (w32 (pxF (mF A) c (mF A (18 + c) - 1) 0) = w32 (pxF (mF A) e (mF A (18 + e) - 1) 0) ∧ w32 (pxF (mF A) c (mF A (18 + c) - 1) 1) = w32 (pxF (mF A) e (mF A (18 + e) - 1) 1))) = w32 0) → (K (some (some (vI 10))) (upF F 25 0 (1 - bi ((0 ≤ c ∧ c < mF A 0) ∧ 0 ≤ e ∧ e < mF A 0))) A))))) ∧ (¬ (w32 (bi (w32 (pxF (mF A) c (mF A (18 + c) - 1) 0) = w32 (pxF (mF A) e 0 0) ∧ w32 (pxF (mF A) c (mF A (18 + c) - 1) 1) = w32 (pxF (mF A) e 0 1))) = w32 0) → (((0 ≤ c ∧ c < 8) ∧ (0 ≤ e ∧ e < 8) ∧ (0 ≤ (mF A (18 + c) - 1) ∧ (mF A (18 + c) - 1) < 4) ∧ (0 ≤ (mF A (18 + e) - 1) ∧ (mF A (18 + e) - 1) < 4)) ∧ ((w32 (bi (w32 (pxF (mF A) c (mF A (18 + c) - 1) 0) = w32 (pxF (mF A) e (mF A (18 + e) - 1) 0) ∧ w32 (pxF (mF A) c (mF A (18 + c) - 1) 1) = w32 (pxF (mF A) e (mF A (18 + e) - 1) 1))) = w32 0 → (K (some (some (vI 6))) (upF F 25 0 (1 - bi ((0 ≤ c ∧ c < mF A 0) ∧ 0 ≤ e ∧ e < mF A 0))) A)) ∧ (¬ (w32 (bi (w32 (pxF (mF A) c (mF A (18 + c) - 1) 0) = w32 (pxF (mF A) e (mF A (18 + e) - 1) 0) ∧ w32 (pxF (mF A) c (mF A (18 + c) - 1) 1) = w32 (pxF (mF A) e (mF A (18 + e) - 1) 1))) = w32 0) → (K (some (some (vI 14))) (upF F 25 0 (1 - bi ((0 ≤ c ∧ c < mF A 0) ∧ 0 ≤ e ∧ e < mF A 0))) A))))))))))) ∧ (¬ (w32 (bi (w32 (pxF (mF A) c 0 0) = w32 (pxF (mF A) e 0 0) ∧ w32 (pxF (mF A) c 0 1) = w32 (pxF (mF A) e 0 1))) = w32 0) → (((0 ≤ c ∧ c < 8) ∧ (0 ≤ e ∧ e < 8) ∧ (0 ≤ 0 ∧ 0 < 4) ∧ (0 ≤ (mF A (18 + e) - 1) ∧ (mF A (18 + e) - 1) < 4)) ∧ ((w32 (bi (w32 (pxF (mF A) c 0 0) = w32 (pxF (mF A) e (mF A (18 + e) - 1) 0) ∧ w32 (pxF (mF A) c 0 1) = w32 (pxF (mF A) e (mF A (18 + e) - 1) 1))) = w32 0 → (((0 ≤ c ∧ c < 8) ∧ (0 ≤ e ∧ e < 8) ∧ (0 ≤ (mF A (18 + c) - 1) ∧ (mF A (18 + c) - 1) < 4) ∧ (0 ≤ 0 ∧ 0 < 4)) ∧ ((w32 (bi (w32 (pxF (mF A) c (mF A (18 + c) - 1) 0) = w32 (pxF (mF A) e 0 0) ∧ w32 (pxF (mF A) c (mF A (18 + c) - 1) 1) = w32 (pxF (mF A) e 0 1))) = w32 0 → (((0 ≤ c ∧ c < 8) ∧ (0 ≤ e ∧ e < 8) ∧ (0 ≤ (mF A (18 + c) - 1) ∧ (mF A (18 + c) - 1) < 4) ∧ (0 ≤ (mF A (18 + e) - 1) ∧ (mF A (18 + e) - 1) < 4)) ∧ ((w32 (bi (w32 (pxF (mF A) c (mF A (18 + c) - 1) 0) = w32 (pxF (mF A) e (mF A (18 + e) - 1) 0) ∧ w32 (pxF (mF A) c (mF A (18 + c) - 1) 1) = w32 (pxF (mF A) e (mF A (18 + e) - 1) 1))) = w32 0 → (K (some (some (vI 1))) (upF F 25 0 (1 - bi ((0 ≤ c ∧ c < mF A 0) ∧ 0 ≤ e ∧ e < mF A 0))) A)) ∧ (¬ (w32 (bi (w32 (pxF (mF A) c (mF A (18 + c) - 1) 0) = w32 (pxF (mF A) e (mF A (18 + e) - 1) 0) ∧ w32 (pxF (mF A) c (mF A (18 + c) - 1) 1) = w32 (pxF (mF A) e (mF A (18 + e) - 1) 1))) = w32 0) → (K (some (some (vI 9))) (upF F 25 0 (1 - bi ((0 ≤ c ∧ c < mF A 0) ∧ 0 ≤ e ∧ e < mF A 0))) A))))) ∧ (¬ (w32 (bi (w32 (pxF (mF A) c (mF A (18 + c) - 1) 0) = w32 (pxF (mF A) e 0 0) ∧ w32 (pxF (mF A) c (mF A (18 + c) - 1) 1) = w32 (pxF (mF A) e 0 1))) = w32 0) → (((0 ≤ c ∧ c < 8) ∧ (0 ≤ e ∧ e < 8) ∧ (0 ≤ (mF A (18 + c) - 1) ∧ (mF A (18 + c) - 1) < 4) ∧ (0 ≤ (mF A (18 + e) - 1) ∧ (mF A (18 + e) - 1) < 4)) ∧ ((w32 (bi (w32 (pxF (mF A) c (mF A (18 + c) - 1) 0) = w32 (pxF (mF A) e (mF A (18 + e) - 1) 0) ∧ w32 (pxF (mF A) c (mF A (18 + c) - 1) 1) = w32 (pxF (mF A) e (mF A (18 + e) - 1) 1))) = w32 0 → (K (some (some (vI 5))) (upF F 25 0 (1 - bi ((0 ≤ c ∧ c < mF A 0) ∧ 0 ≤ e ∧ e < mF A 0))) A)) ∧ (¬ (w32 (bi (w32 (pxF (mF A) c (mF A (18 + c) - 1) 0) = w32 (pxF (mF A) e (mF A (18 + e) - 1) 0) ∧ w32 (pxF (mF A) c (mF A (18 + c) - 1) 1) = w32 (pxF (mF A) e (mF A (18 + e) - 1) 1))) = w32 0) → (K (some (some (vI 13))) (upF F 25 0 (1 - bi ((0 ≤ c ∧ c < mF A 0) ∧ 0 ≤ e ∧ e < mF A 0))) A)))))))) ∧ (¬ (w32 (bi (w32 (pxF (mF A) c 0 0) = w32 (pxF (mF A) e (mF A (18 + e) - 1) 0) ∧ w32 (pxF (mF A) c 0 1) = w32 (pxF (mF A) e (mF A (18 + e) - 1) 1))) = w32 0) → (((0 ≤ c ∧ c < 8) ∧ (0 ≤ e ∧ e < 8) ∧ (0 ≤ (mF A (18 + c) - 1) ∧ (mF A (18 + c) - 1) < 4) ∧ (0 ≤ 0 ∧ 0 < 4)) ∧ ((w32 (bi (w32 (pxF (mF A) c (mF A (18 + c) - 1) 0) = w32 (pxF (mF A) e 0 0) ∧ w32 (pxF (mF A) c (mF A (18 + c) - 1) 1) = w32 (pxF (mF A) e 0 1))) = w32 0 → (((0 ≤ c ∧ c < 8) ∧ (0 ≤ e ∧ e < 8) ∧ (0 ≤ (mF A (18 + c) - 1) ∧ (mF A (18 + c) - 1) < 4) ∧ (0 ≤ (mF A (18 + e) - 1) ∧ (mF A (18 + e) - 1) < 4)) ∧ ((w32 (bi (w32 (pxF (mF A) c (mF A (18 + c) - 1) 0) = w32 (pxF (mF A) e (mF A (18 + e) - 1) 0) ∧ w32 (pxF (mF A) c (mF A (18 + c) - 1) 1) = w32 (pxF (mF A) e (mF A (18 + e) - 1) 1))) = w32 0 → (K (some (some (vI 3))) (upF F 25 0 (1 - bi ((0 ≤ c ∧ c < mF A 0) ∧ 0 ≤ e ∧ e < mF A 0))) A)) ∧ (¬ (w32 (bi (w32 (pxF (mF A) c (mF A (18 + c) - 1) 0) = w32 (pxF (mF A) e (mF A (18 + e) - 1) 0) ∧ w32 (pxF (mF A) c (mF A (18 + c) - 1) 1) = w32 (pxF (mF A) e (mF A (18 + e) - 1) 1))) = w32 0) → (K (some (some (vI 11))) (upF F 25 0 (1 - bi ((0 ≤ c ∧ c < mF A 0) ∧ 0 ≤ e ∧ e < mF A 0))) A))))) ∧ (¬ (w32 (bi (w32 (pxF (mF A) c (mF A (18 + c) - 1) 0) = w32 (pxF (mF A) e 0 0) ∧ w32 (pxF (mF A) c (mF A (18 + c) - 1) 1) = w32 (pxF (mF A) e 0 1))) = w32 0) → (((0 ≤ c ∧ c < 8) ∧ (0 ≤ e ∧ e < 8) ∧ (0 ≤ (mF A (18 + c) - 1) ∧ (mF A (18 + c) - 1) < 4) ∧ (0 ≤ (mF A (18 + e) - 1) ∧ (mF A (18 + e) - 1) < 4)) ∧ ((w32 (bi (w32 (pxF (mF A) c (mF A (18 + c) - 1) 0) = w32 (pxF (mF A) e (mF A (18 + e) - 1) 0) ∧ w32 (pxF (mF A) c (mF A (18 + c) - 1) 1) = w32 (pxF (mF A) e (mF A (18 + e) - 1) 1))) = w32 0 → (K (some (some (vI 7))) (upF F 25 0 (1 - bi ((0 ≤ c ∧ c < mF A 0) ∧ 0 ≤ e ∧ e < mF A 0))) A)) ∧ (¬ (w32 (bi (w32 (pxF (mF A) c (mF A (18 + c) - 1) 0) = w32 (pxF (mF A) e (mF A (18 + e) - 1) 0) ∧ w32 (pxF (mF A) c (mF A (18 + c) - 1) 1) = w32 (pxF (mF A) e (mF A (18 + e) - 1) 1))) = w32 0) → (K (some (some (vI 15))) (upF F 25 0 (1 - bi ((0 ≤ c ∧ c < mF A 0) ∧ 0 ≤ e ∧ e < mF A 0))) A)))))))))))))))))
  refine ⟨by exact ⟨p1, by omega, by omega⟩, ?_⟩
  refine ⟨fun c1 => ?_, fun c1 => ?_⟩
  · skip
    (try (have q3 := (p1.2.2.1 c c1.1.1 c1.1.2).1)); (try (have q4 := (p1.2.2.1 e c1.2.1 c1.2.2).1)); (try simp only [w32_0, wbi0, Classical.not_not] at c1)
    first
    | exact K_eq (h _ _ ⟨qdP_F (by decide), by rw [upF_s, bi_f c1, if_neg c1]; rfl⟩) (if_neg c1)
    | exact K_eq (h _ _ ⟨qdP_F (by decide), by rw [upF_s, bi_t c1, if_pos c1]; rfl⟩) (by rw [if_pos c1, bi_t c2, bi_t c3, bi_t c4, bi_t c5]; rfl)
    | exact K_eq (h _ _ ⟨qdP_F (by decide), by rw [upF_s, bi_t c1, if_pos c1]; rfl⟩) (by rw [if_pos c1, bi_t c2, bi_t c3, bi_t c4, bi_f c5]; rfl)
    | exact K_eq (h _ _ ⟨qdP_F (by decide), by rw [upF_s, bi_t c1, if_pos c1]; rfl⟩) (by rw [if_pos c1, bi_t c2, bi_t c3, bi_f c4, bi_t c5]; rfl)
    | exact K_eq (h _ _ ⟨qdP_F (by decide), by rw [upF_s, bi_t c1, if_pos c1]; rfl⟩) (by rw [if_pos c1, bi_t c2, bi_t c3, bi_f c4, bi_f c5]; rfl)
    | exact K_eq (h _ _ ⟨qdP_F (by decide), by rw [upF_s, bi_t c1, if_pos c1]; rfl⟩) (by rw [if_pos c1, bi_t c2, bi_f c3, bi_t c4, bi_t c5]; rfl)
    | exact K_eq (h _ _ ⟨qdP_F (by decide), by rw [upF_s, bi_t c1, if_pos c1]; rfl⟩) (by rw [if_pos c1, bi_t c2, bi_f c3, bi_t c4, bi_f c5]; rfl)
    | exact K_eq (h _ _ ⟨qdP_F (by decide), by rw [upF_s, bi_t c1, if_pos c1]; rfl⟩) (by rw [if_pos c1, bi_t c2, bi_f c3, bi_f c4, bi_t c5]; rfl)
    | exact K_eq (h _ _ ⟨qdP_F (by decide), by rw [upF_s, bi_t c1, if_pos c1]; rfl⟩) (by rw [if_pos c1, bi_t c2, bi_f c3, bi_f c4, bi_f c5]; rfl)
    | exact K_eq (h _ _ ⟨qdP_F (by decide), by rw [upF_s, bi_t c1, if_pos c1]; rfl⟩) (by rw [if_pos c1, bi_f c2, bi_t c3, bi_t c4, bi_t c5]; rfl)
    | exact K_eq (h _ _ ⟨qdP_F (by decide), by rw [upF_s, bi_t c1, if_pos c1]; rfl⟩) (by rw [if_pos c1, bi_f c2, bi_t c3, bi_t c4, bi_f c5]; rfl)
    | exact K_eq (h _ _ ⟨qdP_F (by decide), by rw [upF_s, bi_t c1, if_pos c1]; rfl⟩) (by rw [if_pos c1, bi_f c2, bi_t c3, bi_f c4, bi_t c5]; rfl)
    | exact K_eq (h _ _ ⟨qdP_F (by decide), by rw [upF_s, bi_t c1, if_pos c1]; rfl⟩) (by rw [if_pos c1, bi_f c2, bi_t c3, bi_f c4, bi_f c5]; rfl)
    | exact K_eq (h _ _ ⟨qdP_F (by decide), by rw [upF_s, bi_t c1, if_pos c1]; rfl⟩) (by rw [if_pos c1, bi_f c2, bi_f c3, bi_t c4, bi_t c5]; rfl)
    | exact K_eq (h _ _ ⟨qdP_F (by decide), by rw [upF_s, bi_t c1, if_pos c1]; rfl⟩) (by rw [if_pos c1, bi_f c2, bi_f c3, bi_t c4, bi_f c5]; rfl)
    | exact K_eq (h _ _ ⟨qdP_F (by decide), by rw [upF_s, bi_t c1, if_pos c1]; rfl⟩) (by rw [if_pos c1, bi_f c2, bi_f c3, bi_f c4, bi_t c5]; rfl)
    | exact K_eq (h _ _ ⟨qdP_F (by decide), by rw [upF_s, bi_t c1, if_pos c1]; rfl⟩) (by rw [if_pos c1, bi_f c2, bi_f c3, bi_f c4, bi_f c5]; rfl)
  · skip
    (try (have q3 := (p1.2.2.1 c c1.1.1 c1.1.2).1)); (try (have q4 := (p1.2.2.1 e c1.2.1 c1.2.2).1)); (try simp only [w32_0, wbi0, Classical.not_not] at c1)
    refine ⟨by (have q3 := (p1.2.2.1 c c1.1.1 c1.1.2).1; have q4 := (p1.2.2.1 e c1.2.1 c1.2.2).1; first | exact ⟨by omega, by omega, by omega, by omega⟩ | omega), ?_⟩
    refine ⟨by (have q3 := (p1.2.2.1 c c1.1.1 c1.1.2).1; have q4 := (p1.2.2.1 e c1.2.1 c1.2.2).1; first | exact ⟨by omega, by omega, by omega, by omega⟩ | omega), ?_⟩
    refine ⟨by (have q3 := (p1.2.2.1 c c1.1.1 c1.1.2).1; have q4 := (p1.2.2.1 e c1.2.1 c1.2.2).1; first | exact ⟨by omega, by omega, by omega, by omega⟩ | omega), ?_⟩
    refine ⟨fun c2 => ?_, fun c2 => ?_⟩
    · skip
      (try (have q3 := (p1.2.2.1 c c1.1.1 c1.1.2).1)); (try (have q4 := (p1.2.2.1 e c1.2.1 c1.2.2).1)); (try simp only [w32_0, wbi0, Classical.not_not] at c2)
      refine ⟨by (have q3 := (p1.2.2.1 c c1.1.1 c1.1.2).1; have q4 := (p1.2.2.1 e c1.2.1 c1.2.2).1; first | exact ⟨by omega, by omega, by omega, by omega⟩ | omega), ?_⟩
      refine ⟨fun c3 => ?_, fun c3 => ?_⟩
      · skip
        (try (have q3 := (p1.2.2.1 c c1.1.1 c1.1.2).1)); (try (have q4 := (p1.2.2.1 e c1.2.1 c1.2.2).1)); (try simp only [w32_0, wbi0, Classical.not_not] at c3)
        refine ⟨by (have q3 := (p1.2.2.1 c c1.1.1 c1.1.2).1; have q4 := (p1.2.2.1 e c1.2.1 c1.2.2).1; first | exact ⟨by omega, by omega, by omega, by omega⟩ | omega), ?_⟩
        refine ⟨fun c4 => ?_, fun c4 => ?_⟩
        · skip
          (try (have q3 := (p1.2.2.1 c c1.1.1 c1.1.2).1)); (try (have q4 := (p1.2.2.1 e c1.2.1 c1.2.2).1)); (try simp only [w32_0, wbi0, Classical.not_not] at c4)
          refine ⟨by (have q3 := (p1.2.2.1 c c1.1.1 c1.1.2).1; have q4 := (p1.2.2.1 e c1.2.1 c1.2.2).1; first | exact ⟨by omega, by omega, by omega, by omega⟩ | omega), ?_⟩
          refine ⟨fun c5 => ?_, fun c5 => ?_⟩
          · skip
            (try (have q3 := (p1.2.2.1 c c1.1.1 c1.1.2).1)); (try (have q4 := (p1.2.2.1 e c1.2.1 c1.2.2).1)); (try simp only [w32_0, wbi0, Classical.not_not] at c5)
            first
            | exact K_eq (h _ _ ⟨qdP_F (by decide), by rw [upF_s, bi_f c1, if_neg c1]; rfl⟩) (if_neg c1)
            | exact K_eq (h _ _ ⟨qdP_F (by decide), by rw [upF_s, bi_t c1, if_pos c1]; rfl⟩) (by rw [if_pos c1, bi_t c2, bi_t c3, bi_t c4, bi_t c5]; rfl)
            | exact K_eq (h _ _ ⟨qdP_F (by decide), by rw [upF_s, bi_t c1, if_pos c1]; rfl⟩) (by rw [if_pos c1, bi_t c2, bi_t c3, bi_t c4, bi_f c5]; rfl)
            | exact K_eq (h _ _ ⟨qdP_F (by decide), by rw [upF_s, bi_t c1, if_pos c1]; rfl⟩) (by rw [if_pos c1, bi_t c2, bi_t c3, bi_f c4, bi_t c5]; rfl)
            | exact K_eq (h _ _ ⟨qdP_F (by decide), by rw [upF_s, bi_t c1, if_pos c1]; rfl⟩) (by rw [if_pos c1, bi_t c2, bi_t c3, bi_f c4, bi_f c5]; rfl)
            | exact K_eq (h _ _ ⟨qdP_F (by decide), by rw [upF_s, bi_t c1, if_pos c1]; rfl⟩) (by rw [if_pos c1, bi_t c2, bi_f c3, bi_t c4, bi_t c5]; rfl)
            | exact K_eq (h _ _ ⟨qdP_F (by decide), by rw [upF_s, bi_t c1, if_pos c1]; rfl⟩) (by rw [if_pos c1, bi_t c2, bi_f c3, bi_t c4, bi_f c5]; rfl)
            | exact K_eq (h _ _ ⟨qdP_F (by decide), by rw [upF_s, bi_t c1, if_pos c1]; rfl⟩) (by rw [if_pos c1, bi_t c2, bi_f c3, bi_f c4, bi_t c5]; rfl)
            | exact K_eq (h _ _ ⟨qdP_F (by decide), by rw [upF_s, bi_t c1, if_pos c1]; rfl⟩) (by rw [if_pos c1, bi_t c2, bi_f c3, bi_f c4, bi_f c5]; rfl)
            | exact K_eq (h _ _ ⟨qdP_F (by decide), by rw [upF_s, bi_t c1, if_pos c1]; rfl⟩) (by rw [if_pos c1, bi_f c2, bi_t c3, bi_t c4, bi_t c5]; rfl)
            | exact K_eq (h _ _ ⟨qdP_F (by decide), by rw [upF_s, bi_t c1, if_pos c1]; rfl⟩) (by rw [if_pos c1, bi_f c2, bi_t c3, bi_t c4, bi_f c5]; rfl)
            | exact K_eq (h _ _ ⟨qdP_F (by decide), by rw [upF_s, bi_t c1, if_pos c1]; rfl⟩) (by rw [if_pos c1, bi_f c2, bi_t c3, bi_f c4, bi_t c5]; rfl)
            | exact K_eq (h _ _ ⟨qdP_F (by decide), by rw [upF_s, bi_t c1, if_pos c1]; rfl⟩) (by rw [if_pos c1, bi_f c2, bi_t c3, bi_f c4, bi_f c5]; rfl)
            | exact K_eq (h _ _ ⟨qdP_F (by decide), by rw [upF_s, bi_t c1, if_pos c1]; rfl⟩) (by rw [if_pos c1, bi_f c2, bi_f c3, bi_t c4, bi_t c5]; rfl)
            | exact K_eq (h _ _ ⟨qdP_F (by decide), by rw [upF_s, bi_t c1, if_pos c1]; rfl⟩) (by rw [if_pos c1, bi_f c2, bi_f c3, bi_t c4, bi_f c5]; rfl)
            | exact K_eq (h _ _ ⟨qdP_F (by decide), by rw [upF_s, bi_t c1, if_pos c1]; rfl⟩) (by rw [if_pos c1, bi_f c2, bi_f c3, bi_f c4, bi_t c5]; rfl)
            | exact K_eq (h _ _ ⟨qdP_F (by decide), by rw [upF_s, bi_t c1, if_pos c1]; rfl⟩) (by rw [if_pos c1, bi_f c2, bi_f c3, bi_f c4, bi_f c5]; rfl)
          · skip
            (try (have q3 := (p1.2.2.1 c c1.1.1 c1.1.2).1)); (try (have q4 := (p1.2.2.1 e c1.2.1 c1.2.2).1)); (try simp only [w32_0, wbi0, Classical.not_not] at c5)
            first
            | exact K_eq (h _ _ ⟨qdP_F (by decide), by rw [upF_s, bi_f c1, if_neg c1]; rfl⟩) (if_neg c1)
            | exact K_eq (h _ _ ⟨qdP_F (by decide), by rw [upF_s, bi_t c1, if_pos c1]; rfl⟩) (by rw [if_pos c1, bi_t c2, bi_t c3, bi_t c4, bi_t c5]; rfl)
            | exact K_eq (h _ _ ⟨qdP_F (by decide), by rw [upF_s, bi_t c1, if_pos c1]; rfl⟩) (by rw [if_pos c1, bi_t c2, bi_t c3, bi_t c4, bi_f c5]; rfl)
            | exact K_eq (h _ _ ⟨qdP_F (by decide), by rw [upF_s, bi_t c1, if_pos c1]; rfl⟩) (by rw [if_pos c1, bi_t c2, bi_t c3, bi_f c4, bi_t c5]; rfl)
            | exact K_eq (h _ _ ⟨qdP_F (by decide), by rw [upF_s, bi_t c1, if_pos c1]; rfl⟩) (by rw [if_pos c1, bi_t c2, bi_t c3, bi_f c4, bi_f c5]; rfl)
            | exact K_eq (h _ _ ⟨qdP_F (by decide), by rw [upF_s, bi_t c1, if_pos c1]; rfl⟩) (by rw [if_pos c1, bi_t c2, bi_f c3, bi_t c4, bi_t c5]; rfl)
            | exact K_eq (h _ _ ⟨qdP_F (by decide), by rw [upF_s, bi_t c1, if_pos c1]; rfl⟩) (by rw [if_pos c1, bi_t c2, bi_f c3, bi_t c4, bi_f c5]; rfl)
            | exact K_eq (h _ _ ⟨qdP_F (by decide), by rw [upF_s, bi_t c1, if_pos c1]; rfl⟩) (by rw [if_pos c1, bi_t c2, bi_f c3, bi_f c4, bi_t c5]; rfl)
            | exact K_eq (h _ _ ⟨qdP_F (by decide), by rw [upF_s, bi_t c1, if_pos c1]; rfl⟩) (by rw [if_pos c1, bi_t c2, bi_f c3, bi_f c4, bi_f c5]; rfl)
            | exact K_eq (h _ _ ⟨qdP_F (by decide), by rw [upF_s, bi_t c1, if_pos c1]; rfl⟩) (by rw [if_pos c1, bi_f c2, bi_t c3, bi_t c4, bi_t c5]; rfl)
            | exact K_eq (h _ _ ⟨qdP_F (by decide), by rw [upF_s, bi_t c1, if_pos c1]; rfl⟩) (by rw [if_pos c1, bi_f c2, bi_t c3, bi_t c4, bi_f c5]; rfl)
            | exact K_eq (h _ _ ⟨qdP_F (by decide), by rw [upF_s, bi_t c1, if_pos c1]; rfl⟩) (by rw [if_pos c1, bi_f c2, bi_t c3, bi_f c4, bi_t c5]; rfl)
            | exact K_eq (h _ _ ⟨qdP_F (by decide), by rw [upF_s, bi_t c1, if_pos c1]; rfl⟩) (by rw [if_pos c1, bi_f c2, bi_t c3, bi_f c4, bi_f c5]; rfl)
            | exact K_eq (h _ _ ⟨qdP_F (by decide), by rw [upF_s, bi_t c1, if_pos c1]; rfl⟩) (by rw [if_pos c1, bi_f c2, bi_f c3, bi_t c4, bi_t c5]; rfl)
            | exact K_eq (h _ _ ⟨qdP_F (by decide), by rw [upF_s, bi_t c1, if_pos c1]; rfl⟩) (by rw [if_pos c1, bi_f c2, bi_f c3, bi_t c4, bi_f c5]; rfl)
            | exact K_eq (h _ _ ⟨qdP_F (by decide), by rw [upF_s, bi_t c1, if_pos c1]; rfl⟩) (by rw [if_pos c1, bi_f c2, bi_f c3, bi_f c4, bi_t c5]; rfl)
            | exact K_eq (h _ _ ⟨qdP_F (by decide), by rw [upF_s, bi_t c1, if_pos c1]; rfl⟩) (by rw [if_pos c1, bi_f c2, bi_f c3, bi_f c4, bi_f c5]; rfl)
        · skip
          (try (have q3 := (p1.2.2.1 c c1.1.1 c1.1.2).1)); (try (have q4 := (p1.2.2.1 e c1.2.1 c1.2.2).1)); (try simp only [w32_0, wbi0, Classical.not_not] at c4)
          refine ⟨by (have q3 := (p1.2.2.1 c c1.1.1 c1.1.2).1; have q4 := (p1.2.2.1 e c1.2.1 c1.2.2).1; first | exact ⟨by omega, by omega, by omega, by omega⟩ | omega), ?_⟩
          refine ⟨fun c5 => ?_, fun c5 => ?_⟩
          · skip
            (try (have q3 := (p1.2.2.1 c c1.1.1 c1.1.2).1)); (try (have q4 := (p1.2.2.1 e c1.2.1 c1.2.2).1)); (try simp only [w32_0, wbi0, Classical.not_not] at c5)
            first
            | exact K_eq (h _ _ ⟨qdP_F (by decide), by rw [upF_s, bi_f c1, if_neg c1]; rfl⟩) (if_neg c1)
            | exact K_eq (h _ _ ⟨qdP_F (by decide), by rw [upF_s, bi_t c1, if_pos c1]; rfl⟩) (by rw [if_pos c1, bi_t c2, bi_t c3, bi_t c4, bi_t c5]; rfl)
            | exact K_eq (h _ _ ⟨qdP_F (by decide), by rw [upF_s, bi_t c1, if_pos c1]; rfl⟩) (by rw [if_pos c1, bi_t c2, bi_t c3, bi_t c4, bi_f c5]; rfl)
            | exact K_eq (h _ _ ⟨qdP_F (by decide), by rw [upF_s, bi_t c1, if_pos c1]; rfl⟩) (by rw [if_pos c1, bi_t c2, bi_t c3, bi_f c4, bi_t c5]; rfl)
            | exact K_eq (h _ _ ⟨qdP_F (by decide), by rw [upF_s, bi_t c1, if_pos c1]; rfl⟩) (by rw [if_pos c1, bi_t c2, bi_t c3, bi_f c4, bi_f c5]; rfl)
            | exact K_eq (h _ _ ⟨qdP_F (by decide), by rw [upF_s, bi_t c1, if_pos c1]; rfl⟩) (by rw [if_pos c1, bi_t c2, bi_f c3, bi_t c4, bi_t c5]; rfl)
            | exact K_eq (h _ _ ⟨qdP_F (by decide), by rw [upF_s, bi_t c1, if_pos c1]; rfl⟩) (by rw [if_pos c1, bi_t c2, bi_f c3, bi_t c4, bi_f c5]; rfl)
            | exact K_eq (h _ _ ⟨qdP_F (by decide), by rw [upF_s, bi_t c1, if_pos c1]; rfl⟩) (by rw [if_pos c1, bi_t c2, bi_f c3, bi_f c4, bi_t c5]; rfl)
            | exact K_eq (h _ _ ⟨qdP_F (by decide), by rw [upF_s, bi_t c1, if_pos c1]; rfl⟩) (by rw [if_pos c1, bi_t c2, bi_f c3, bi_f c4, bi_f c5]; rfl)
            | exact K_eq (h _ _ ⟨qdP_F (by decide), by rw [upF_s, bi_t c1, if_pos c1]; rfl⟩) (by rw [if_pos c1, bi_f c2, bi_t c3, bi_t c4, bi_t c5]; rfl)
            | exact K_eq (h _ _ ⟨qdP_F (by decide), by rw [upF_s, bi_t c1, if_pos c1]; rfl⟩) (by rw [if_pos c1, bi_f c2, bi_t c3, bi_t c4, bi_f c5]; rfl)
            | exact K_eq (h _ _ ⟨qdP_F (by decide), by rw [upF_s, bi_t c1, if_pos c1]; rfl⟩) (by rw [if_pos c1, bi_f c2, bi_t c3, bi_f c4, bi_t c5]; rfl)
            | exact K_eq (h _ _ ⟨qdP_F (by decide), by rw [upF_s, bi_t c1, if_pos c1]; rfl⟩) (by rw [if_pos c1, bi_f c2, bi_t c3, bi_f c4, bi_f c5]; rfl)
            | exact K_eq (h _ _ ⟨qdP_F (by decide), by rw [upF_s, bi_t c1, if_pos c1]; rfl⟩) (by rw [if_pos c1, bi_f c2, bi_f c3, bi_t c4, bi_t c5]; rfl)
            | exact K_eq (h _ _ ⟨qdP_F (by decide), by rw [upF_s, bi_t c1, if_pos c1]; rfl⟩) (by rw [if_pos c1, bi_f c2, bi_f c3, bi_t c4, bi_f c5]; rfl)
            | exact K_eq (h _ _ ⟨qdP_F (by decide), by rw [upF_s, bi_t c1, if_pos c1]; rfl⟩) (by rw [if_pos c1, bi_f c2, bi_f c3, bi_f c4, bi_t c5]; rfl)
            | exact K_eq (h _ _ ⟨qdP_F (by decide), by rw [upF_s, bi_t c1, if_pos c1]; rfl⟩) (by rw [if_pos c1, bi_f c2, bi_f c3, bi_f c4, bi_f c5]; rfl)
          · skip
            (try (have q3 := (p1.2.2.1 c c1.1.1 c1.1.2).1)); (try (have q4 := (p1.2.2.1 e c1.2.1 c1.2.2).1)); (try simp only [w32_0, wbi0, Classical.not_not] at c5)
            first
            | exact K_eq (h _ _ ⟨qdP_F (by decide), by rw [upF_s, bi_f c1, if_neg c1]; rfl⟩) (if_neg c1)
            | exact K_eq (h _ _ ⟨qdP_F (by decide), by rw [upF_s, bi_t c1, if_pos c1]; rfl⟩) (by rw [if_pos c1, bi_t c2, bi_t c3, bi_t c4, bi_t c5]; rfl)
            | exact K_eq (h _ _ ⟨qdP_F (by decide), by rw [upF_s, bi_t c1, if_pos c1]; rfl⟩) (by rw [if_pos c1, bi_t c2, bi_t c3, bi_t c4, bi_f c5]; rfl)
            | exact K_eq (h _ _ ⟨qdP_F (by decide), by rw [upF_s, bi_t c1, if_pos c1]; rfl⟩) (by rw [if_pos c1, bi_t c2, bi_t c3, bi_f c4, bi_t c5]; rfl)
            | exact K_eq (h _ _ ⟨qdP_F (by decide), by rw [upF_s, bi_t c1, if_pos c1]; rfl⟩) (by rw [if_pos c1, bi_t c2, bi_t c3, bi_f c4, bi_f c5]; rfl)
            | exact K_eq (h _ _ ⟨qdP_F (by decide), by rw [upF_s, bi_t c1, if_pos c1]; rfl⟩) (by rw [if_pos c1, bi_t c2, bi_f c3, bi_t c4, bi_t c5]; rfl)
            | exact K_eq (h _ _ ⟨qdP_F (by decide), by rw [upF_s, bi_t c1, if_pos c1]; rfl⟩) (by rw [if_pos c1, bi_t c2, bi_f c3, bi_t c4, bi_f c5]; rfl)
            | exact K_eq (h _ _ ⟨qdP_F (by decide), by rw [upF_s, bi_t c1, if_pos c1]; rfl⟩) (by rw [if_pos c1, bi_t c2, bi_f c3, bi_f c4, bi_t c5]; rfl)
            | exact K_eq (h _ _ ⟨qdP_F (by decide), by rw [upF_s, bi_t c1, if_pos c1]; rfl⟩) (by rw [if_pos c1, bi_t c2, bi_f c3, bi_f c4, bi_f c5]; rfl)
            | exact K_eq (h _ _ ⟨qdP_F (by decide), by rw [upF_s, bi_t c1, if_pos c1]; rfl⟩) (by rw [if_pos c1, bi_f c2, bi_t c3, bi_t c4, bi_t c5]; rfl)
            | exact K_eq (h _ _ ⟨qdP_F (by decide), by rw [upF_s, bi_t c1, if_pos c1]; rfl⟩) (by rw [if_pos c1, bi_f c2, bi_t c3, bi_t c4, bi_f c5]; rfl)
            | exact K_eq (h _ _ ⟨qdP_F (by decide), by rw [upF_s, bi_t c1, if_pos c1]; rfl⟩) (by rw [if_pos c1, bi_f c2, bi_t c3, bi_f c4, bi_t c5]; rfl)
            | exact K_eq (h _ _ ⟨qdP_F (by decide), by rw [upF_s, bi_t c1, if_pos c1]; rfl⟩) (by rw [if_pos c1, bi_f c2, bi_t c3, bi_f c4, bi_f c5]; rfl)
            | exact K_eq (h _ _ ⟨qdP_F (by decide), by rw [upF_s, bi_t c1, if_pos c1]; rfl⟩) (by rw [if_pos c1, bi_f c2, bi_f c3, bi_t c4, bi_t c5]; rfl)
            | exact K_eq (h _ _ ⟨qdP_F (by decide), by rw [upF_s, bi_t c1, if_pos c1]; rfl⟩) (by rw [if_pos c1, bi_f c2, bi_f c3, bi_t c4, bi_f c5]; rfl)
            | exact K_eq (h _ _ ⟨qdP_F (by decide), by rw [upF_s, bi_t c1, if_pos c1]; rfl⟩) (by rw [if_pos c1, bi_f c2, bi_f c3, bi_f c4, bi_t c5]; rfl)
            | exact K_eq (h _ _ ⟨qdP_F (by decide), by rw [upF_s, bi_t c1, if_pos c1]; rfl⟩) (by rw [if_pos c1, bi_f c2, bi_f c3, bi_f c4, bi_f c5]; rfl)
      · skip
        (try (have q3 := (p1.2.2.1 c c1.1.1 c1.1.2).1)); (try (have q4 := (p1.2.2.1 e c1.2.1 c1.2.2).1)); (try simp only [w32_0, wbi0, Classical.not_not] at c3)
        refine ⟨by (have q3 := (p1.2.2.1 c c1.1.1 c1.1.2).1; have q4 := (p1.2.2.1 e c1.2.1 c1.2.2).1; first | exact ⟨by omega, by omega, by omega, by omega⟩ | omega), ?_⟩
        refine ⟨fun c4 => ?_, fun c4 => ?_⟩
        · skip
          (try (have q3 := (p1.2.2.1 c c1.1.1 c1.1.2).1)); (try (have q4 := (p1.2.2.1 e c1.2.1 c1.2.2).1)); (try simp only [w32_0, wbi0, Classical.not_not] at c4)
          refine ⟨by (have q3 := (p1.2.2.1 c c1.1.1 c1.1.2).1; have q4 := (p1.2.2.1 e c1.2.1 c1.2.2).1; first | exact ⟨by omega, by omega, by omega, by omega⟩ | omega), ?_⟩
          refine ⟨fun c5 => ?_, fun c5 => ?_⟩
          · skip
            (try (have q3 := (p1.2.2.1 c c1.1.1 c1.1.2).1)); (try (have q4 := (p1.2.2.1 e c1.2.1 c1.2.2).1)); (try simp only [w32_0, wbi0, Classical.not_not] at c5)
            first
            | exact K_eq (h _ _ ⟨qdP_F (by decide), by rw [upF_s, bi_f c1, if_neg c1]; rfl⟩) (if_neg c1)
            | exact K_eq (h _ _ ⟨qdP_F (by decide), by rw [upF_s, bi_t c1, if_pos c1]; rfl⟩) (by rw [if_pos c1, bi_t c2, bi_t c3, bi_t c4, bi_t c5]; rfl)
            | exact K_eq (h _ _ ⟨qdP_F (by decide), by rw [upF_s, bi_t c1, if_pos c1]; rfl⟩) (by rw [if_pos c1, bi_t c2, bi_t c3, bi_t c4, bi_f c5]; rfl)
            | exact K_eq (h _ _ ⟨qdP_F (by decide), by rw [upF_s, bi_t c1, if_pos c1]; rfl⟩) (by rw [if_pos c1, bi_t c2, bi_t c3, bi_f c4, bi_t c5]; rfl)
            | exact K_eq (h _ _ ⟨qdP_F (by decide), by rw [upF_s, bi_t c1, if_pos c1]; rfl⟩) (by rw [if_pos c1, bi_t c2, bi_t c3, bi_f c4, bi_f c5]; rfl)
            | exact K_eq (h _ _ ⟨qdP_F (by decide), by rw [upF_s, bi_t c1, if_pos c1]; rfl⟩) (by rw [if_pos c1, bi_t c2, bi_f c3, bi_t c4, bi_t c5]; rfl)
            | exact K_eq (h _ _ ⟨qdP_F (by decide), by rw [upF_s, bi_t c1, if_pos c1]; rfl⟩) (by rw [if_pos c1, bi_t c2, bi_f c3, bi_t c4, bi_f c5]; rfl)
            | exact K_eq (h _ _ ⟨qdP_F (by decide), by rw [upF_s, bi_t c1, if_pos c1]; rfl⟩) (by rw [if_pos c1, bi_t c2, bi_f c3, bi_f c4, bi_t c5]; rfl)
            | exact K_eq (h _ _ ⟨qdP_F (by decide), by rw [upF_s, bi_t c1, if_pos c1]; rfl⟩) (by rw [if_pos c1, bi_t c2, bi_f c3, bi_f c4, bi_f c5]; rfl)
            | exact K_eq (h _ _ ⟨qdP_F (by decide), by rw [upF_s, bi_t c1, if_pos c1]; rfl⟩) (by rw [if_pos c1, bi_f c2, bi_t c3, bi_t c4, bi_t c5]; rfl)
            | exact K_eq (h _ _ ⟨qdP_F (by decide), by rw [upF_s, bi_t c1, if_pos c1]; rfl⟩) (by rw [if_pos c1, bi_f c2, bi_t c3, bi_t c4, bi_f c5]; rfl)
            | exact K_eq (h _ _ ⟨qdP_F (by decide), by rw [upF_s, bi_t c1, if_pos c1]; rfl⟩) (by rw [if_pos c1, bi_f c2, bi_t c3, bi_f c4, bi_t c5]; rfl)
            | exact K_eq (h _ _ ⟨qdP_F (by decide), by rw [upF_s, bi_t c1, if_pos c1]; rfl⟩) (by rw [if_pos c1, bi_f c2, bi_t c3, bi_f c4, bi_f c5]; rfl)
            | exact K_eq (h _ _ ⟨qdP_F (by decide), by rw [upF_s, bi_t c1, if_pos c1]; rfl⟩) (by rw [if_pos c1, bi_f c2, bi_f c3, bi_t c4, bi_t c5]; rfl)
            | exact K_eq (h _ _ ⟨qdP_F (by decide), by rw [upF_s, bi_t c1, if_pos c1]; rfl⟩) (by rw [if_pos c1, bi_f c2, bi_f c3, bi_t c4, bi_f c5]; rfl)
            | exact K_eq (h _ _ ⟨qdP_F (by decide), by rw [upF_s, bi_t c1, if_pos c1]; rfl⟩) (by rw [if_pos c1, bi_f c2, bi_f c3, bi_f c4, bi_t c5]; rfl)
            | exact K_eq (h _ _ ⟨qdP_F (by decide), by rw [upF_s, bi_t c1, if_pos c1]; rfl⟩) (by rw [if_pos c1, bi_f c2, bi_f c3, bi_f c4, bi_f c5]; rfl)
          · skip
            (try (have q3 := (p1.2.2.1 c c1.1.1 c1.1.2).1)); (try (have q4 := (p1.2.2.1 e c1.2.1 c1.2.2).1)); (try simp only [w32_0, wbi0, Classical.not_not] at c5)
            first
            | exact K_eq (h _ _ ⟨qdP_F (by decide), by rw [upF_s, bi_f c1, if_neg c1]; rfl⟩) (if_neg c1)
            | exact K_eq (h _ _ ⟨qdP_F (by decide), by rw [upF_s, bi_t c1, if_pos c1]; rfl⟩) (by rw [if_pos c1, bi_t c2, bi_t c3, bi_t c4, bi_t c5]; rfl)
            | exact K_eq (h _ _ ⟨qdP_F (by decide), by rw [upF_s, bi_t c1, if_pos c1]; rfl⟩) (by rw [if_pos c1, bi_t c2, bi_t c3, bi_t c4, bi_f c5]; rfl)
            | exact K_eq (h _ _ ⟨qdP_F (by decide), by rw [upF_s, bi_t c1, if_pos c1]; rfl⟩) (by rw [if_pos c1, bi_t c2, bi_t c3, bi_f c4, bi_t c5]; rfl)
            | exact K_eq (h _ _ ⟨qdP_F (by decide), by rw [upF_s, bi_t c1, if_pos c1]; rfl⟩) (by rw [if_pos c1, bi_t c2, bi_t c3, bi_f c4, bi_f c5]; rfl)
            | exact K_eq (h _ _ ⟨qdP_F (by decide), by rw [upF_s, bi_t c1, if_pos c1]; rfl⟩) (by rw [if_pos c1, bi_t c2, bi_f c3, bi_t c4, bi_t c5]; rfl)
            | exact K_eq (h _ _ ⟨qdP_F (by decide), by rw [upF_s, bi_t c1, if_pos c1]; rfl⟩) (by rw [if_pos c1, bi_t c2, bi_f c3, bi_t c4, bi_f c5]; rfl)
            | exact K_eq (h _ _ ⟨qdP_F (by decide), by rw [upF_s, bi_t c1, if_pos c1]; rfl⟩) (by rw [if_pos c1, bi_t c2, bi_f c3, bi_f c4, bi_t c5]; rfl)
            | exact K_eq (h _ _ ⟨qdP_F (by decide), by rw [upF_s, bi_t c1, if_pos c1]; rfl⟩) (by rw [if_pos c1, bi_t c2, bi_f c3, bi_f c4, bi_f c5]; rfl)
            | exact K_eq (h _ _ ⟨qdP_F (by decide), by rw [upF_s, bi_t c1, if_pos c1]; rfl⟩) (by rw [if_pos c1, bi_f c2, bi_t c3, bi_t c4, bi_t c5]; rfl)
            | exact K_eq (h _ _ ⟨qdP_F (by decide), by rw [upF_s, bi_t c1, if_pos c1]; rfl⟩) (by rw [if_pos c1, bi_f c2, bi_t c3, bi_t c4, bi_f c5]; rfl)
            | exact K_eq (h _ _ ⟨qdP_F (by decide), by rw [upF_s, bi_t c1, if_pos c1]; rfl⟩) (by rw [if_pos c1, bi_f c2, bi_t c3, bi_f c4, bi_t c5]; rfl)
            | exact K_eq (h _ _ ⟨qdP_F (by decide), by rw [upF_s, bi_t c1, if_pos c1]; rfl⟩) (by rw [if_pos c1, bi_f c2, bi_t c3, bi_f c4, bi_f c5]; rfl)
            | exact K_eq (h _ _ ⟨qdP_F (by decide), by rw [upF_s, bi_t c1, if_pos c1]; rfl⟩) (by rw [if_pos c1, bi_f c2, bi_f c3, bi_t c4, bi_t c5]; rfl)
            | exact K_eq (h _ _ ⟨qdP_F (by decide), by rw [upF_s, bi_t c1, if_pos c1]; rfl⟩) (by rw [if_pos c1, bi_f c2, bi_f c3, bi_t c4, bi_f c5]; rfl)
            | exact K_eq (h _ _ ⟨qdP_F (by decide), by rw [upF_s, bi_t c1, if_pos c1]; rfl⟩) (by rw [if_pos c1, bi_f c2, bi_f c3, bi_f c4, bi_t c5]; rfl)
            | exact K_eq (h _ _ ⟨qdP_F (by decide), by rw [upF_s, bi_t c1, if_pos c1]; rfl⟩) (by rw [if_pos c1, bi_f c2, bi_f c3, bi_f c4, bi_f c5]; rfl)
        · skip
          (try (have q3 := (p1.2.2.1 c c1.1.1 c1.1.2).1)); (try (have q4 := (p1.2.2.1 e c1.2.1 c1.2.2).1)); (try simp only [w32_0, wbi0, Classical.not_not] at c4)
          refine ⟨by (have q3 := (p1.2.2.1 c c1.1.1 c1.1.2).1; have q4 := (p1.2.2.1 e c1.2.1 c1.2.2).1; first | exact ⟨by omega, by omega, by omega, by omega⟩ | omega), ?_⟩
          refine ⟨fun c5 => ?_, fun c5 => ?_⟩
          · skip
            (try (have q3 := (p1.2.2.1 c c1.1.1 c1.1.2).1)); (try (have q4 := (p1.2.2.1 e c1.2.1 c1.2.2).1)); (try simp only [w32_0, wbi0, Classical.not_not] at c5)
            first
            | exact K_eq (h _ _ ⟨qdP_F (by decide), by rw [upF_s, bi_f c1, if_neg c1]; rfl⟩) (if_neg c1)
            | exact K_eq (h _ _ ⟨qdP_F (by decide), by rw [upF_s, bi_t c1, if_pos c1]; rfl⟩) (by rw [if_pos c1, bi_t c2, bi_t c3, bi_t c4, bi_t c5]; rfl)
            | exact K_eq (h _ _ ⟨qdP_F (by decide), by rw [upF_s, bi_t c1, if_pos c1]; rfl⟩) (by rw [if_pos c1, bi_t c2, bi_t c3, bi_t c4, bi_f c5]; rfl)
            | exact K_eq (h _ _ ⟨qdP_F (by decide), by rw [upF_s, bi_t c1, if_pos c1]; rfl⟩) (by rw [if_pos c1, bi_t c2, bi_t c3, bi_f c4, bi_t c5]; rfl)
            | exact K_eq (h _ _ ⟨qdP_F (by decide), by rw [upF_s, bi_t c1, if_pos c1]; rfl⟩) (by rw [if_pos c1, bi_t c2, bi_t c3, bi_f c4, bi_f c5]; rfl)
            | exact K_eq (h _ _ ⟨qdP_F (by decide), by rw [upF_s, bi_t c1, if_pos c1]; rfl⟩) (by rw [if_pos c1, bi_t c2, bi_f c3, bi_t c4, bi_t c5]; rfl)
            | exact K_eq (h _ _ ⟨qdP_F (by decide), by rw [upF_s, bi_t c1, if_pos c1]; rfl⟩) (by rw [if_pos c1, bi_t c2, bi_f c3, bi_t c4, bi_f c5]; rfl)
            | exact K_eq (h _ _ ⟨qdP_F (by decide), by rw [upF_s, bi_t c1, if_pos c1]; rfl⟩) (by rw [if_pos c1, bi_t c2, bi_f c3, bi_f c4, bi_t c5]; rfl)
            | exact K_eq (h _ _ ⟨qdP_F (by decide), by rw [upF_s, bi_t c1, if_pos c1]; rfl⟩) (by rw [if_pos c1, bi_t c2, bi_f c3, bi_f c4, bi_f c5]; rfl)
            | exact K_eq (h _ _ ⟨qdP_F (by decide), by rw [upF_s, bi_t c1, if_pos c1]; rfl⟩) (by rw [if_pos c1, bi_f c2, bi_t c3, bi_t c4, bi_t c5]; rfl)
            | exact K_eq (h _ _ ⟨qdP_F (by decide), by rw [upF_s, bi_t c1, if_pos c1]; rfl⟩) (by rw [if_pos c1, bi_f c2, bi_t c3, bi_t c4, bi_f c5]; rfl)
            | exact K_eq (h _ _ ⟨qdP_F (by decide), by rw [upF_s, bi_t c1, if_pos c1]; rfl⟩) (by rw [if_pos c1, bi_f c2, bi_t c3, bi_f c4, bi_t c5]; rfl)
            | exact K_eq (h _ _ ⟨qdP_F (by decide), by rw [upF_s, bi_t c1, if_pos c1]; rfl⟩) (by rw [if_pos c1, bi_f c2, bi_t c3, bi_f c4, bi_f c5]; rfl)
            | exact K_eq (h _ _ ⟨qdP_F (by decide), by rw [upF_s, bi_t c1, if_pos c1]; rfl⟩) (by rw [if_pos c1, bi_f c2, bi_f c3, bi_t c4, bi_t c5]; rfl)
            | exact K_eq (h _ _ ⟨qdP_F (by decide), by rw [upF_s, bi_t c1, if_pos c1]; rfl⟩) (by rw [if_pos c1, bi_f c2, bi_f c3, bi_t c4, bi_f c5]; rfl)
            | exact K_eq (h _ _ ⟨qdP_F (by decide), by rw [upF_s, bi_t c1, if_pos c1]; rfl⟩) (by rw [if_pos c1, bi_f c2, bi_f c3, bi_f c4, bi_t c5]; rfl)
            | exact K_eq (h _ _ ⟨qdP_F (by decide), by rw [upF_s, bi_t c1, if_pos c1]; rfl⟩) (by rw [if_pos c1, bi_f c2, bi_f c3, bi_f c4, bi_f c5]; rfl)
          · skip
            (try (have q3 := (p1.2.2.1 c c1.1.1 c1.1.2).1)); (try (have q4 := (p1.2.2.1 e c1.2.1 c1.2.2).1)); (try simp only [w32_0, wbi0, Classical.not_not] at c5)
            first
            | exact K_eq (h _ _ ⟨qdP_F (by decide), by rw [upF_s, bi_f c1, if_neg c1]; rfl⟩) (if_neg c1)
            | exact K_eq (h _ _ ⟨qdP_F (by decide), by rw [upF_s, bi_t c1, if_pos c1]; rfl⟩) (by rw [if_pos c1, bi_t c2, bi_t c3, bi_t c4, bi_t c5]; rfl)
            | exact K_eq (h _ _ ⟨qdP_F (by decide), by rw [upF_s, bi_t c1, if_pos c1]; rfl⟩) (by rw [if_pos c1, bi_t c2, bi_t c3, bi_t c4, bi_f c5]; rfl)
            | exact K_eq (h _ _ ⟨qdP_F (by decide), by rw [upF_s, bi_t c1, if_pos c1]; rfl⟩) (by rw [if_pos c1, bi_t c2, bi_t c3, bi_f c4, bi_t c5]; rfl)
            | exact K_eq (h _ _ ⟨qdP_F (by decide), by rw [upF_s, bi_t c1, if_pos c1]; rfl⟩) (by rw [if_pos c1, bi_t c2, bi_t c3, bi_f c4, bi_f c5]; rfl)
            | exact K_eq (h _ _ ⟨qdP_F (by decide), by rw [upF_s, bi_t c1, if_pos c1]; rfl⟩) (by rw [if_pos c1, bi_t c2, bi_f c3, bi_t c4, bi_t c5]; rfl)
            | exact K_eq (h _ _ ⟨qdP_F (by decide), by rw [upF_s, bi_t c1, if_pos c1]; rfl⟩) (by rw [if_pos c1, bi_t c2, bi_f c3, bi_t c4, bi_f c5]; rfl)
            | exact K_eq (h _ _ ⟨qdP_F (by decide), by rw [upF_s, bi_t c1, if_pos c1]; rfl⟩) (by rw [if_pos c1, bi_t c2, bi_f c3, bi_f c4, bi_t c5]; rfl)
            | exact K_eq (h _ _ ⟨qdP_F (by decide), by rw [upF_s, bi_t c1, if_pos c1]; rfl⟩) (by rw [if_pos c1, bi_t c2, bi_f c3, bi_f c4, bi_f c5]; rfl)
            | exact K_eq (h _ _ ⟨qdP_F (by decide), by rw [upF_s, bi_t c1, if_pos c1]; rfl⟩) (by rw [if_pos c1, bi_f c2, bi_t c3, bi_t c4, bi_t c5]; rfl)
            | exact K_eq (h _ _ ⟨qdP_F (by decide), by rw [upF_s, bi_t c1, if_pos c1]; rfl⟩) (by rw [if_pos c1, bi_f c2, bi_t c3, bi_t c4, bi_f c5]; rfl)
            | exact K_eq (h _ _ ⟨qdP_F (by decide), by rw [upF_s, bi_t c1, if_pos c1]; rfl⟩) (by rw [if_pos c1, bi_f c2, bi_t c3, bi_f c4, bi_t c5]; rfl)
            | exact K_eq (h _ _ ⟨qdP_F (by decide), by rw [upF_s, bi_t c1, if_pos c1]; rfl⟩) (by rw [if_pos c1, bi_f c2, bi_t c3, bi_f c4, bi_f c5]; rfl)
            | exact K_eq (h _ _ ⟨qdP_F (by decide), by rw [upF_s, bi_t c1, if_pos c1]; rfl⟩) (by rw [if_pos c1, bi_f c2, bi_f c3, bi_t c4, bi_t c5]; rfl)
            | exact K_eq (h _ _ ⟨qdP_F (by decide), by rw [upF_s, bi_t c1, if_pos c1]; rfl⟩) (by rw [if_pos c1, bi_f c2, bi_f c3, bi_t c4, bi_f c5]; rfl)
            | exact K_eq (h _ _ ⟨qdP_F (by decide), by rw [upF_s, bi_t c1, if_pos c1]; rfl⟩) (by rw [if_pos c1, bi_f c2, bi_f c3, bi_f c4, bi_t c5]; rfl)
            | exact K_eq (h _ _ ⟨qdP_F (by decide), by rw [upF_s, bi_t c1, if_pos c1]; rfl⟩) (by rw [if_pos c1, bi_f c2, bi_f c3, bi_f c4, bi_f c5]; rfl)
    · skip
      (try (have q3 := (p1.2.2.1 c c1.1.1 c1.1.2).1)); (try (have q4 := (p1.2.2.1 e c1.2.1 c1.2.2).1)); (try simp only [w32_0, wbi0, Classical.not_not] at c2)
      refine ⟨by (have q3 := (p1.2.2.1 c c1.1.1 c1.1.2).1; have q4 := (p1.2.2.1 e c1.2.1 c1.2.2).1; first | exact ⟨by omega, by omega, by omega, by omega⟩ | omega), ?_⟩
      refine ⟨fun c3 => ?_, fun c3 => ?_⟩
      · skip
        (try (have q3 := (p1.2.2.1 c c1.1.1 c1.1.2).1)); (try (have q4 := (p1.2.2.1 e c1.2.1 c1.2.2).1)); (try simp only [w32_0, wbi0, Classical.not_not] at c3)
        refine ⟨by (have q3 := (p1.2.2.1 c c1.1.1 c1.1.2).1; have q4 := (p1.2.2.1 e c1.2.1 c1.2.2).1; first | exact ⟨by omega, by omega, by omega, by omega⟩ | omega), ?_⟩
        refine ⟨fun c4 => ?_, fun c4 => ?_⟩
        · skip
          (try (have q3 := (p1.2.2.1 c c1.1.1 c1.1.2).1)); (try (have q4 := (p1.2.2.1 e c1.2.1 c1.2.2).1)); (try simp only [w32_0, wbi0, Classical.not_not] at c4)
          refine ⟨by (have q3 := (p1.2.2.1 c c1.1.1 c1.1.2).1; have q4 := (p1.2.2.1 e c1.2.1 c1.2.2).1; first | exact ⟨by omega, by omega, by omega, by omega⟩ | omega), ?_⟩
          refine ⟨fun c5 => ?_, fun c5 => ?_⟩
          · skip
            (try (have q3 := (p1.2.2.1 c c1.1.1 c1.1.2).1)); (try (have q4 := (p1.2.2.1 e c1.2.1 c1.2.2).1)); (try simp only [w32_0, wbi0, Classical.not_not] at c5)
            first
            | exact K_eq (h _ _ ⟨qdP_F (by decide), by rw [upF_s, bi_f c1, if_neg c1]; rfl⟩) (if_neg c1)
            | exact K_eq (h _ _ ⟨qdP_F (by decide), by rw [upF_s, bi_t c1, if_pos c1]; rfl⟩) (by rw [if_pos c1, bi_t c2, bi_t c3, bi_t c4, bi_t c5]; rfl)
            | exact K_eq (h _ _ ⟨qdP_F (by decide), by rw [upF_s, bi_t c1, if_pos c1]; rfl⟩) (by rw [if_pos c1, bi_t c2, bi_t c3, bi_t c4, bi_f c5]; rfl)
            | exact K_eq (h _ _ ⟨qdP_F (by decide), by rw [upF_s, bi_t c1, if_pos c1]; rfl⟩) (by rw [if_pos c1, bi_t c2, bi_t c3, bi_f c4, bi_t c5]; rfl)
            | exact K_eq (h _ _ ⟨qdP_F (by decide), by rw [upF_s, bi_t c1, if_pos c1]; rfl⟩) (by rw [if_pos c1, bi_t c2, bi_t c3, bi_f c4, bi_f c5]; rfl)
            | exact K_eq (h _ _ ⟨qdP_F (by decide), by rw [upF_s, bi_t c1, if_pos c1]; rfl⟩) (by rw [if_pos c1, bi_t c2, bi_f c3, bi_t c4, bi_t c5]; rfl)
            | exact K_eq (h _ _ ⟨qdP_F (by decide), by rw [upF_s, bi_t c1, if_pos c1]; rfl⟩) (by rw [if_pos c1, bi_t c2, bi_f c3, bi_t c4, bi_f c5]; rfl)
            | exact K_eq (h _ _ ⟨qdP_F (by decide), by rw [upF_s, bi_t c1, if_pos c1]; rfl⟩) (by rw [if_pos c1, bi_t c2, bi_f c3, bi_f c4, bi_t c5]; rfl)
            | exact K_eq (h _ _ ⟨qdP_F (by decide), by rw [upF_s, bi_t c1, if_pos c1]; rfl⟩) (by rw [if_pos c1, bi_t c2, bi_f c3, bi_f c4, bi_f c5]; rfl)
            | exact K_eq (h _ _ ⟨qdP_F (by decide), by rw [upF_s, bi_t c1, if_pos c1]; rfl⟩) (by rw [if_pos c1, bi_f c2, bi_t c3, bi_t c4, bi_t c5]; rfl)
            | exact K_eq (h _ _ ⟨qdP_F (by decide), by rw [upF_s, bi_t c1, if_pos c1]; rfl⟩) (by rw [if_pos c1, bi_f c2, bi_t c3, bi_t c4, bi_f c5]; rfl)
            | exact K_eq (h _ _ ⟨qdP_F (by decide), by rw [upF_s, bi_t c1, if_pos c1]; rfl⟩) (by rw [if_pos c1, bi_f c2, bi_t c3, bi_f c4, bi_t c5]; rfl)
            | exact K_eq (h _ _ ⟨qdP_F (by decide), by rw [upF_s, bi_t c1, if_pos c1]; rfl⟩) (by rw [if_pos c1, bi_f c2, bi_t c3, bi_f c4, bi_f c5]; rfl)
            | exact K_eq (h _ _ ⟨qdP_F (by decide), by rw [upF_s, bi_t c1, if_pos c1]; rfl⟩) (by rw [if_pos c1, bi_f c2, bi_f c3, bi_t c4, bi_t c5]; rfl)
            | exact K_eq (h _ _ ⟨qdP_F (by decide), by rw [upF_s, bi_t c1, if_pos c1]; rfl⟩) (by rw [if_pos c1, bi_f c2, bi_f c3, bi_t c4, bi_f c5]; rfl)
            | exact K_eq (h _ _ ⟨qdP_F (by decide), by rw [upF_s, bi_t c1, if_pos c1]; rfl⟩) (by rw [if_pos c1, bi_f c2, bi_f c3, bi_f c4, bi_t c5]; rfl)
            | exact K_eq (h _ _ ⟨qdP_F (by decide), by rw [upF_s, bi_t c1, if_pos c1]; rfl⟩) (by rw [if_pos c1, bi_f c2, bi_f c3, bi_f c4, bi_f c5]; rfl)
          · skip
            (try (have q3 := (p1.2.2.1 c c1.1.1 c1.1.2).1)); (try (have q4 := (p1.2.2.1 e c1.2.1 c1.2.2).1)); (try simp only [w32_0, wbi0, Classical.not_not] at c5)
            first
            | exact K_eq (h _ _ ⟨qdP_F (by decide), by rw [upF_s, bi_f c1, if_neg c1]; rfl⟩) (if_neg c1)
            | exact K_eq (h _ _ ⟨qdP_F (by decide), by rw [upF_s, bi_t c1, if_pos c1]; rfl⟩) (by rw [if_pos c1, bi_t c2, bi_t c3, bi_t c4, bi_t c5]; rfl)
            | exact K_eq (h _ _ ⟨qdP_F (by decide), by rw [upF_s, bi_t c1, if_pos c1]; rfl⟩) (by rw [if_pos c1, bi_t c2, bi_t c3, bi_t c4, bi_f c5]; rfl)
            | exact K_eq (h _ _ ⟨qdP_F (by decide), by rw [upF_s, bi_t c1, if_pos c1]; rfl⟩) (by rw [if_pos c1, bi_t c2, bi_t c3, bi_f c4, bi_t c5]; rfl)
            | exact K_eq (h _ _ ⟨qdP_F (by decide), by rw [upF_s, bi_t c1, if_pos c1]; rfl⟩) (by rw [if_pos c1, bi_t c2, bi_t c3, bi_f c4, bi_f c5]; rfl)
            | exact K_eq (h _ _ ⟨qdP_F (by decide), by rw [upF_s, bi_t c1, if_pos c1]; rfl⟩) (by rw [if_pos c1, bi_t c2, bi_f c3, bi_t c4, bi_t c5]; rfl)
            | exact K_eq (h _ _ ⟨qdP_F (by decide), by rw [upF_s, bi_t c1, if_pos c1]; rfl⟩) (by rw [if_pos c1, bi_t c2, bi_f c3, bi_t c4, bi_f c5]; rfl)
            | exact K_eq (h _ _ ⟨qdP_F (by decide), by rw [upF_s, bi_t c1, if_pos c1]; rfl⟩) (by rw [if_pos c1, bi_t c2, bi_f c3, bi_f c4, bi_t c5]; rfl)
            | exact K_eq (h _ _ ⟨qdP_F (by decide), by rw [upF_s, bi_t c1, if_pos c1]; rfl⟩) (by rw [if_pos c1, bi_t c2, bi_f c3, bi_f c4, bi_f c5]; rfl)
            | exact K_eq (h _ _ ⟨qdP_F (by decide), by rw [upF_s, bi_t c1, if_pos c1]; rfl⟩) (by rw [if_pos c1, bi_f c2, bi_t c3, bi_t c4, bi_t c5]; rfl)
            | exact K_eq (h _ _ ⟨qdP_F (by decide), by rw [upF_s, bi_t c1, if_pos c1]; rfl⟩) (by rw [if_pos c1, bi_f c2, bi_t c3, bi_t c4, bi_f c5]; rfl)
            | exact K_eq (h _ _ ⟨qdP_F (by decide), by rw [upF_s, bi_t c1, if_pos c1]; rfl⟩) (by rw [if_pos c1, bi_f c2, bi_t c3, bi_f c4, bi_t c5]; rfl)
            | exact K_eq (h _ _ ⟨qdP_F (by decide), by rw [upF_s, bi_t c1, if_pos c1]; rfl⟩) (by rw [if_pos c1, bi_f c2, bi_t c3, bi_f c4, bi_f c5]; rfl)
            | exact K_eq (h _ _ ⟨qdP_F (by decide), by rw [upF_s, bi_t c1, if_pos c1]; rfl⟩) (by rw [if_pos c1, bi_f c2, bi_f c3, bi_t c4, bi_t c5]; rfl)
            | exact K_eq (h _ _ ⟨qdP_F (by decide), by rw [upF_s, bi_t c1, if_pos c1]; rfl⟩) (by rw [if_pos c1, bi_f c2, bi_f c3, bi_t c4, bi_f c5]; rfl)
            | exact K_eq (h _ _ ⟨qdP_F (by decide), by rw [upF_s, bi_t c1, if_pos c1]; rfl⟩) (by rw [if_pos c1, bi_f c2, bi_f c3, bi_f c4, bi_t c5]; rfl)
            | exact K_eq (h _ _ ⟨qdP_F (by decide), by rw [upF_s, bi_t c1, if_pos c1]; rfl⟩) (by rw [if_pos c1, bi_f c2, bi_f c3, bi_f c4, bi_f c5]; rfl)
        · skip
          (try (have q3 := (p1.2.2.1 c c1.1.1 c1.1.2).1)); (try (have q4 := (p1.2.2.1 e c1.2.1 c1.2.2).1)); (try simp only [w32_0, wbi0, Classical.not_not] at c4)
          refine ⟨by (have q3 := (p1.2.2.1 c c1.1.1 c1.1.2).1; have q4 := (p1.2.2.1 e c1.2.1 c1.2.2).1; first | exact ⟨by omega, by omega, by omega, by omega⟩ | omega), ?_⟩
          refine ⟨fun c5 => ?_, fun c5 => ?_⟩
          · skip
            (try (have q3 := (p1.2.2.1 c c1.1.1 c1.1.2).1)); (try (have q4 := (p1.2.2.1 e c1.2.1 c1.2.2).1)); (try simp only [w32_0, wbi0, Classical.not_not] at c5)
            first
            | exact K_eq (h _ _ ⟨qdP_F (by decide), by rw [upF_s, bi_f c1, if_neg c1]; rfl⟩) (if_neg c1)
            | exact K_eq (h _ _ ⟨qdP_F (by decide), by rw [upF_s, bi_t c1, if_pos c1]; rfl⟩) (by rw [if_pos c1, bi_t c2, bi_t c3, bi_t c4, bi_t c5]; rfl)
            | exact K_eq (h _ _ ⟨qdP_F (by decide), by rw [upF_s, bi_t c1, if_pos c1]; rfl⟩) (by rw [if_pos c1, bi_t c2, bi_t c3, bi_t c4, bi_f c5]; rfl)
            | exact K_eq (h _ _ ⟨qdP_F (by decide), by rw [upF_s, bi_t c1, if_pos c1]; rfl⟩) (by rw [if_pos c1, bi_t c2, bi_t c3, bi_f c4, bi_t c5]; rfl)
            | exact K_eq (h _ _ ⟨qdP_F (by decide), by rw [upF_s, bi_t c1, if_pos c1]; rfl⟩) (by rw [if_pos c1, bi_t c2, bi_t c3, bi_f c4, bi_f c5]; rfl)
            | exact K_eq (h _ _ ⟨qdP_F (by decide), by rw [upF_s, bi_t c1, if_pos c1]; rfl⟩) (by rw [if_pos c1, bi_t c2, bi_f c3, bi_t c4, bi_t c5]; rfl)
            | exact K_eq (h _ _ ⟨qdP_F (by decide), by rw [upF_s, bi_t c1, if_pos c1]; rfl⟩) (by rw [if_pos c1, bi_t c2, bi_f c3, bi_t c4, bi_f c5]; rfl)
            | exact K_eq (h _ _ ⟨qdP_F (by decide), by rw [upF_s, bi_t c1, if_pos c1]; rfl⟩) (by rw [if_pos c1, bi_t c2, bi_f c3, bi_f c4, bi_t c5]; rfl)
            | exact K_eq (h _ _ ⟨qdP_F (by decide), by rw [upF_s, bi_t c1, if_pos c1]; rfl⟩) (by rw [if_pos c1, bi_t c2, bi_f c3, bi_f c4, bi_f c5]; rfl)
            | exact K_eq (h _ _ ⟨qdP_F (by decide), by rw [upF_s, bi_t c1, if_pos c1]; rfl⟩) (by rw [if_pos c1, bi_f c2, bi_t c3, bi_t c4, bi_t c5]; rfl)
            | exact K_eq (h _ _ ⟨qdP_F (by decide), by rw [upF_s, bi_t c1, if_pos c1]; rfl⟩) (by rw [if_pos c1, bi_f c2, bi_t c3, bi_t c4, bi_f c5]; rfl)
            | exact K_eq (h _ _ ⟨qdP_F (by decide), by rw [upF_s, bi_t c1, if_pos c1]; rfl⟩) (by rw [if_pos c1, bi_f c2, bi_t c3, bi_f c4, bi_t c5]; rfl)
            | exact K_eq (h _ _ ⟨qdP_F (by decide), by rw [upF_s, bi_t c1, if_pos c1]; rfl⟩) (by rw [if_pos c1, bi_f c2, bi_t c3, bi_f c4, bi_f c5]; rfl)
            | exact K_eq (h _ _ ⟨qdP_F (by decide), by rw [upF_s, bi_t c1, if_pos c1]; rfl⟩) (by rw [if_pos c1, bi_f c2, bi_f c3, bi_t c4, bi_t c5]; rfl)
            | exact K_eq (h _ _ ⟨qdP_F (by decide), by rw [upF_s, bi_t c1, if_pos c1]; rfl⟩) (by rw [if_pos c1, bi_f c2, bi_f c3, bi_t c4, bi_f c5]; rfl)
            | exact K_eq (h _ _ ⟨qdP_F (by decide), by rw [upF_s, bi_t c1, if_pos c1]; rfl⟩) (by rw [if_pos c1, bi_f c2, bi_f c3, bi_f c4, bi_t c5]; rfl)
            | exact K_eq (h _ _ ⟨qdP_F (by decide), by rw [upF_s, bi_t c1, if_pos c1]; rfl⟩) (by rw [if_pos c1, bi_f c2, bi_f c3, bi_f c4, bi_f c5]; rfl)
          · skip
            (try (have q3 := (p1.2.2.1 c c1.1.1 c1.1.2).1)); (try (have q4 := (p1.2.2.1 e c1.2.1 c1.2.2).1)); (try simp only [w32_0, wbi0, Classical.not_not] at c5)
            first
            | exact K_eq (h _ _ ⟨qdP_F (by decide), by rw [upF_s, bi_f c1, if_neg c1]; rfl⟩) (if_neg c1)
            | exact K_eq (h _ _ ⟨qdP_F (by decide), by rw [upF_s, bi_t c1, if_pos c1]; rfl⟩) (by rw [if_pos c1, bi_t c2, bi_t c3, bi_t c4, bi_t c5]; rfl)
            | exact K_eq (h _ _ ⟨qdP_F (by decide), by rw [upF_s, bi_t c1, if_pos c1]; rfl⟩) (by rw [if_pos c1, bi_t c2, bi_t c3, bi_t c4, bi_f c5]; rfl)
            | exact K_eq (h _ _ ⟨qdP_F (by decide), by rw [upF_s, bi_t c1, if_pos c1]; rfl⟩) (by rw [if_pos c1, bi_t c2, bi_t c3, bi_f c4, bi_t c5]; rfl)
            | exact K_eq (h _ _ ⟨qdP_F (by decide), by rw [upF_s, bi_t c1, if_pos c1]; rfl⟩) (by rw [if_pos c1, bi_t c2, bi_t c3, bi_f c4, bi_f c5]; rfl)
            | exact K_eq (h _ _ ⟨qdP_F (by decide), by rw [upF_s, bi_t c1, if_pos c1]; rfl⟩) (by rw [if_pos c1, bi_t c2, bi_f c3, bi_t c4, bi_t c5]; rfl)
            | exact K_eq (h _ _ ⟨qdP_F (by decide), by rw [upF_s, bi_t c1, if_pos c1]; rfl⟩) (by rw [if_pos c1, bi_t c2, bi_f c3, bi_t c4, bi_f c5]; rfl)
            | exact K_eq (h _ _ ⟨qdP_F (by decide), by rw [upF_s, bi_t c1, if_pos c1]; rfl⟩) (by rw [if_pos c1, bi_t c2, bi_f c3, bi_f c4, bi_t c5]; rfl)
            | exact K_eq (h _ _ ⟨qdP_F (by decide), by rw [upF_s, bi_t c1, if_pos c1]; rfl⟩) (by rw [if_pos c1, bi_t c2, bi_f c3, bi_f c4, bi_f c5]; rfl)
            | exact K_eq (h _ _ ⟨qdP_F (by decide), by rw [upF_s, bi_t c1, if_pos c1]; rfl⟩) (by rw [if_pos c1, bi_f c2, bi_t c3, bi_t c4, bi_t c5]; rfl)
            | exact K_eq (h _ _ ⟨qdP_F (by decide), by rw [upF_s, bi_t c1, if_pos c1]; rfl⟩) (by rw [if_pos c1, bi_f c2, bi_t c3, bi_t c4, bi_f c5]; rfl)
            | exact K_eq (h _ _ ⟨qdP_F (by decide), by rw [upF_s, bi_t c1, if_pos c1]; rfl⟩) (by rw [if_pos c1, bi_f c2, bi_t c3, bi_f c4, bi_t c5]; rfl)
            | exact K_eq (h _ _ ⟨qdP_F (by decide), by rw [upF_s, bi_t c1, if_pos c1]; rfl⟩) (by rw [if_pos c1, bi_f c2, bi_t c3, bi_f c4, bi_f c5]; rfl)
            | exact K_eq (h _ _ ⟨qdP_F (by decide), by rw [upF_s, bi_t c1, if_pos c1]; rfl⟩) (by rw [if_pos c1, bi_f c2, bi_f c3, bi_t c4, bi_t c5]; rfl)
            | exact K_eq (h _ _ ⟨qdP_F (by decide), by rw [upF_s, bi_t c1, if_pos c1]; rfl⟩) (by rw [if_pos c1, bi_f c2, bi_f c3, bi_t c4, bi_f c5]; rfl)
            | exact K_eq (h _ _ ⟨qdP_F (by decide), by rw [upF_s, bi_t c1, if_pos c1]; rfl⟩) (by rw [if_pos c1, bi_f c2, bi_f c3, bi_f c4, bi_t c5]; rfl)
            | exact K_eq (h _ _ ⟨qdP_F (by decide), by rw [upF_s, bi_t c1, if_pos c1]; rfl⟩) (by rw [if_pos c1, bi_f c2, bi_f c3, bi_f c4, bi_f c5]; rfl)
      · skip
        (try (have q3 := (p1.2.2.1 c c1.1.1 c1.1.2).1)); (try (have q4 := (p1.2.2.1 e c1.2.1 c1.2.2).1)); (try simp only [w32_0, wbi0, Classical.not_not] at c3)
        refine ⟨by (have q3 := (p1.2.2.1 c c1.1.1 c1.1.2).1; have q4 := (p1.2.2.1 e c1.2.1 c1.2.2).1; first | exact ⟨by omega, by omega, by omega, by omega⟩ | omega), ?_⟩
        refine ⟨fun c4 => ?_, fun c4 => ?_⟩
        · skip
          (try (have q3 := (p1.2.2.1 c c1.1.1 c1.1.2).1)); (try (have q4 := (p1.2.2.1 e c1.2.1 c1.2.2).1)); (try simp only [w32_0, wbi0, Classical.not_not] at c4)
          refine ⟨by (have q3 := (p1.2.2.1 c c1.1.1 c1.1.2).1; have q4 := (p1.2.2.1 e c1.2.1 c1.2.2).1; first | exact ⟨by omega, by omega, by omega, by omega⟩ | omega), ?_⟩
          refine ⟨fun c5 => ?_, fun c5 => ?_⟩
          · skip
            (try (have q3 := (p1.2.2.1 c c1.1.1 c1.1.2).1)); (try (have q4 := (p1.2.2.1 e c1.2.1 c1.2.2).1)); (try simp only [w32_0, wbi0, Classical.not_not] at c5)
            first
            | exact K_eq (h _ _ ⟨qdP_F (by decide), by rw [upF_s, bi_f c1, if_neg c1]; rfl⟩) (if_neg c1)
            | exact K_eq (h _ _ ⟨qdP_F (by decide), by rw [upF_s, bi_t c1, if_pos c1]; rfl⟩) (by rw [if_pos c1, bi_t c2, bi_t c3, bi_t c4, bi_t c5]; rfl)
            | exact K_eq (h _ _ ⟨qdP_F (by decide), by rw [upF_s, bi_t c1, if_pos c1]; rfl⟩) (by rw [if_pos c1, bi_t c2, bi_t c3, bi_t c4, bi_f c5]; rfl)
            | exact K_eq (h _ _ ⟨qdP_F (by decide), by rw [upF_s, bi_t c1, if_pos c1]; rfl⟩) (by rw [if_pos c1, bi_t c2, bi_t c3, bi_f c4, bi_t c5]; rfl)
            | exact K_eq (h _ _ ⟨qdP_F (by decide), by rw [upF_s, bi_t c1, if_pos c1]; rfl⟩) (by rw [if_pos c1, bi_t c2, bi_t c3, bi_f c4, bi_f c5]; rfl)
            | exact K_eq (h _ _ ⟨qdP_F (by decide), by rw [upF_s, bi_t c1, if_pos c1]; rfl⟩) (by rw [if_pos c1, bi_t c2, bi_f c3, bi_t c4, bi_t c5]; rfl)
            | exact K_eq (h _ _ ⟨qdP_F (by decide), by rw [upF_s, bi_t c1, if_pos c1]; rfl⟩) (by rw [if_pos c1, bi_t c2, bi_f c3, bi_t c4, bi_f c5]; rfl)
            | exact K_eq (h _ _ ⟨qdP_F (by decide), by rw [upF_s, bi_t c1, if_pos c1]; rfl⟩) (by rw [if_pos c1, bi_t c2, bi_f c3, bi_f c4, bi_t c5]; rfl)
            | exact K_eq (h _ _ ⟨qdP_F (by decide), by rw [upF_s, bi_t c1, if_pos c1]; rfl⟩) (by rw [if_pos c1, bi_t c2, bi_f c3, bi_f c4, bi_f c5]; rfl)
            | exact K_eq (h _ _ ⟨qdP_F (by decide), by rw [upF_s, bi_t c1, if_pos c1]; rfl⟩) (by rw [if_pos c1, bi_f c2, bi_t c3, bi_t c4, bi_t c5]; rfl)
            | exact K_eq (h _ _ ⟨qdP_F (by decide), by rw [upF_s, bi_t c1, if_pos c1]; rfl⟩) (by rw [if_pos c1, bi_f c2, bi_t c3, bi_t c4, bi_f c5]; rfl)
            | exact K_eq (h _ _ ⟨qdP_F (by decide), by rw [upF_s, bi_t c1, if_pos c1]; rfl⟩) (by rw [if_pos c1, bi_f c2, bi_t c3, bi_f c4, bi_t c5]; rfl)
            | exact K_eq (h _ _ ⟨qdP_F (by decide), by rw [upF_s, bi_t c1, if_pos c1]; rfl⟩) (by rw [if_pos c1, bi_f c2, bi_t c3, bi_f c4, bi_f c5]; rfl)
            | exact K_eq (h _ _ ⟨qdP_F (by decide), by rw [upF_s, bi_t c1, if_pos c1]; rfl⟩) (by rw [if_pos c1, bi_f c2, bi_f c3, bi_t c4, bi_t c5]; rfl)
            | exact K_eq (h _ _ ⟨qdP_F (by decide), by rw [upF_s, bi_t c1, if_pos c1]; rfl⟩) (by rw [if_pos c1, bi_f c2, bi_f c3, bi_t c4, bi_f c5]; rfl)
            | exact K_eq (h _ _ ⟨qdP_F (by decide), by rw [upF_s, bi_t c1, if_pos c1]; rfl⟩) (by rw [if_pos c1, bi_f c2, bi_f c3, bi_f c4, bi_t c5]; rfl)
            | exact K_eq (h _ _ ⟨qdP_F (by decide), by rw [upF_s, bi_t c1, if_pos c1]; rfl⟩) (by rw [if_pos c1, bi_f c2, bi_f c3, bi_f c4, bi_f c5]; rfl)
          · skip
            (try (have q3 := (p1.2.2.1 c c1.1.1 c1.1.2).1)); (try (have q4 := (p1.2.2.1 e c1.2.1 c1.2.2).1)); (try simp only [w32_0, wbi0, Classical.not_not] at c5)
            first
            | exact K_eq (h _ _ ⟨qdP_F (by decide), by rw [upF_s, bi_f c1, if_neg c1]; rfl⟩) (if_neg c1)
            | exact K_eq (h _ _ ⟨qdP_F (by decide), by rw [upF_s, bi_t c1, if_pos c1]; rfl⟩) (by rw [if_pos c1, bi_t c2, bi_t c3, bi_t c4, bi_t c5]; rfl)
            | exact K_eq (h _ _ ⟨qdP_F (by decide), by rw [upF_s, bi_t c1, if_pos c1]; rfl⟩) (by rw [if_pos c1, bi_t c2, bi_t c3, bi_t c4, bi_f c5]; rfl)
            | exact K_eq (h _ _ ⟨qdP_F (by decide), by rw [upF_s, bi_t c1, if_pos c1]; rfl⟩) (by rw [if_pos c1, bi_t c2, bi_t c3, bi_f c4, bi_t c5]; rfl)
            | exact K_eq (h _ _ ⟨qdP_F (by decide), by rw [upF_s, bi_t c1, if_pos c1]; rfl⟩) (by rw [if_pos c1, bi_t c2, bi_t c3, bi_f c4, bi_f c5]; rfl)
            | exact K_eq (h _ _ ⟨qdP_F (by decide), by rw [upF_s, bi_t c1, if_pos c1]; rfl⟩) (by rw [if_pos c1, bi_t c2, bi_f c3, bi_t c4, bi_t c5]; rfl)
            | exact K_eq (h _ _ ⟨qdP_F (by decide), by rw [upF_s, bi_t c1, if_pos c1]; rfl⟩) (by rw [if_pos c1, bi_t c2, bi_f c3, bi_t c4, bi_f c5]; rfl)
            | exact K_eq (h _ _ ⟨qdP_F (by decide), by rw [upF_s, bi_t c1, if_pos c1]; rfl⟩) (by rw [if_pos c1, bi_t c2, bi_f c3, bi_f c4, bi_t c5]; rfl)
            | exact K_eq (h _ _ ⟨qdP_F (by decide), by rw [upF_s, bi_t c1, if_pos c1]; rfl⟩) (by rw [if_pos c1, bi_t c2, bi_f c3, bi_f c4, bi_f c5]; rfl)
            | exact K_eq (h _ _ ⟨qdP_F (by decide), by rw [upF_s, bi_t c1, if_pos c1]; rfl⟩) (by rw [if_pos c1, bi_f c2, bi_t c3, bi_t c4, bi_t c5]; rfl)
            | exact K_eq (h _ _ ⟨qdP_F (by decide), by rw [upF_s, bi_t c1, if_pos c1]; rfl⟩) (by rw [if_pos c1, bi_f c2, bi_t c3, bi_t c4, bi_f c5]; rfl)
            | exact K_eq (h _ _ ⟨qdP_F (by decide), by rw [upF_s, bi_t c1, if_pos c1]; rfl⟩) (by rw [if_pos c1, bi_f c2, bi_t c3, bi_f c4, bi_t c5]; rfl)
            | exact K_eq (h _ _ ⟨qdP_F (by decide), by rw [upF_s, bi_t c1, if_pos c1]; rfl⟩) (by rw [if_pos c1, bi_f c2, bi_t c3, bi_f c4, bi_f c5]; rfl)
            | exact K_eq (h _ _ ⟨qdP_F (by decide), by rw [upF_s, bi_t c1, if_pos c1]; rfl⟩) (by rw [if_pos c1, bi_f c2, bi_f c3, bi_t c4, bi_t c5]; rfl)
            | exact K_eq (h _ _ ⟨qdP_F (by decide), by rw [upF_s, bi_t c1, if_pos c1]; rfl⟩) (by rw [if_pos c1, bi_f c2, bi_f c3, bi_t c4, bi_f c5]; rfl)
            | exact K_eq (h _ _ ⟨qdP_F (by decide), by rw [upF_s, bi_t c1, if_pos c1]; rfl⟩) (by rw [if_pos c1, bi_f c2, bi_f c3, bi_f c4, bi_t c5]; rfl)
            | exact K_eq (h _ _ ⟨qdP_F (by decide), by rw [upF_s, bi_t c1, if_pos c1]; rfl⟩) (by rw [if_pos c1, bi_f c2, bi_f c3, bi_f c4, bi_f c5]; rfl)
        · skip
          (try (have q3 := (p1.2.2.1 c c1.1.1 c1.1.2).1)); (try (have q4 := (p1.2.2.1 e c1.2.1 c1.2.2).1)); (try simp only [w32_0, wbi0, Classical.not_not] at c4)
          refine ⟨by (have q3 := (p1.2.2.1 c c1.1.1 c1.1.2).1; have q4 := (p1.2.2.1 e c1.2.1 c1.2.2).1; first | exact ⟨by omega, by omega, by omega, by omega⟩ | omega), ?_⟩
          refine ⟨fun c5 => ?_, fun c5 => ?_⟩
          · skip
            (try (have q3 := (p1.2.2.1 c c1.1.1 c1.1.2).1)); (try (have q4 := (p1.2.2.1 e c1.2.1 c1.2.2).1)); (try simp only [w32_0, wbi0, Classical.not_not] at c5)
            first
            | exact K_eq (h _ _ ⟨qdP_F (by decide), by rw [upF_s, bi_f c1, if_neg c1]; rfl⟩) (if_neg c1)
            | exact K_eq (h _ _ ⟨qdP_F (by decide), by rw [upF_s, bi_t c1, if_pos c1]; rfl⟩) (by rw [if_pos c1, bi_t c2, bi_t c3, bi_t c4, bi_t c5]; rfl)
            | exact K_eq (h _ _ ⟨qdP_F (by decide), by rw [upF_s, bi_t c1, if_pos c1]; rfl⟩) (by rw [if_pos c1, bi_t c2, bi_t c3, bi_t c4, bi_f c5]; rfl)
            | exact K_eq (h _ _ ⟨qdP_F (by decide), by rw [upF_s, bi_t c1, if_pos c1]; rfl⟩) (by rw [if_pos c1, bi_t c2, bi_t c3, bi_f c4, bi_t c5]; rfl)
            | exact K_eq (h _ _ ⟨qdP_F (by decide), by rw [upF_s, bi_t c1, if_pos c1]; rfl⟩) (by rw [if_pos c1, bi_t c2, bi_t c3, bi_f c4, bi_f c5]; rfl)
            | exact K_eq (h _ _ ⟨qdP_F (by decide), by rw [upF_s, bi_t c1, if_pos c1]; rfl⟩) (by rw [if_pos c1, bi_t c2, bi_f c3, bi_t c4, bi_t c5]; rfl)
            | exact K_eq (h _ _ ⟨qdP_F (by decide), by rw [upF_s, bi_t c1, if_pos c1]; rfl⟩) (by rw [if_pos c1, bi_t c2, bi_f c3, bi_t c4, bi_f c5]; rfl)
            | exact K_eq (h _ _ ⟨qdP_F (by decide), by rw [upF_s, bi_t c1, if_pos c1]; rfl⟩) (by rw [if_pos c1, bi_t c2, bi_f c3, bi_f c4, bi_t c5]; rfl)
            | exact K_eq (h _ _ ⟨qdP_F (by decide), by rw [upF_s, bi_t c1, if_pos c1]; rfl⟩) (by rw [if_pos c1, bi_t c2, bi_f c3, bi_f c4, bi_f c5]; rfl)
            | exact K_eq (h _ _ ⟨qdP_F (by decide), by rw [upF_s, bi_t c1, if_pos c1]; rfl⟩) (by rw [if_pos c1, bi_f c2, bi_t c3, bi_t c4, bi_t c5]; rfl)
            | exact K_eq (h _ _ ⟨qdP_F (by decide), by rw [upF_s, bi_t c1, if_pos c1]; rfl⟩) (by rw [if_pos c1, bi_f c2, bi_t c3, bi_t c4, bi_f c5]; rfl)
            | exact K_eq (h _ _ ⟨qdP_F (by decide), by rw [upF_s, bi_t c1, if_pos c1]; rfl⟩) (by rw [if_pos c1, bi_f c2, bi_t c3, bi_f c4, bi_t c5]; rfl)
            | exact K_eq (h _ _ ⟨qdP_F (by decide), by rw [upF_s, bi_t c1, if_pos c1]; rfl⟩) (by rw [if_pos c1, bi_f c2, bi_t c3, bi_f c4, bi_f c5]; rfl)
            | exact K_eq (h _ _ ⟨qdP_F (by decide), by rw [upF_s, bi_t c1, if_pos c1]; rfl⟩) (by rw [if_pos c1, bi_f c2, bi_f c3, bi_t c4, bi_t c5]; rfl)
            | exact K_eq (h _ _ ⟨qdP_F (by decide), by rw [upF_s, bi_t c1, if_pos c1]; rfl⟩) (by rw [if_pos c1, bi_f c2, bi_f c3, bi_t c4, bi_f c5]; rfl)
            | exact K_eq (h _ _ ⟨qdP_F (by decide), by rw [upF_s, bi_t c1, if_pos c1]; rfl⟩) (by rw [if_pos c1, bi_f c2, bi_f c3, bi_f c4, bi_t c5]; rfl)
            | exact K_eq (h _ _ ⟨qdP_F (by decide), by rw [upF_s, bi_t c1, if_pos c1]; rfl⟩) (by rw [if_pos c1, bi_f c2, bi_f c3, bi_f c4, bi_f c5]; rfl)
          · skip
            (try (have q3 := (p1.2.2.1 c c1.1.1 c1.1.2).1)); (try (have q4 := (p1.2.2.1 e c1.2.1 c1.2.2).1)); (try simp only [w32_0, wbi0, Classical.not_not] at c5)
            first
            | exact K_eq (h _ _ ⟨qdP_F (by decide), by rw [upF_s, bi_f c1, if_neg c1]; rfl⟩) (if_neg c1)
            | exact K_eq (h _ _ ⟨qdP_F (by decide), by rw [upF_s, bi_t c1, if_pos c1]; rfl⟩) (by rw [if_pos c1, bi_t c2, bi_t c3, bi_t c4, bi_t c5]; rfl)
            | exact K_eq (h _ _ ⟨qdP_F (by decide), by rw [upF_s, bi_t c1, if_pos c1]; rfl⟩) (by rw [if_pos c1, bi_t c2, bi_t c3, bi_t c4, bi_f c5]; rfl)
            | exact K_eq (h _ _ ⟨qdP_F (by decide), by rw [upF_s, bi_t c1, if_pos c1]; rfl⟩) (by rw [if_pos c1, bi_t c2, bi_t c3, bi_f c4, bi_t c5]; rfl)
            | exact K_eq (h _ _ ⟨qdP_F (by decide), by rw [upF_s, bi_t c1, if_pos c1]; rfl⟩) (by rw [if_pos c1, bi_t c2, bi_t c3, bi_f c4, bi_f c5]; rfl)
            | exact K_eq (h _ _ ⟨qdP_F (by decide), by rw [upF_s, bi_t c1, if_pos c1]; rfl⟩) (by rw [if_pos c1, bi_t c2, bi_f c3, bi_t c4, bi_t c5]; rfl)
            | exact K_eq (h _ _ ⟨qdP_F (by decide), by rw [upF_s, bi_t c1, if_pos c1]; rfl⟩) (by rw [if_pos c1, bi_t c2, bi_f c3, bi_t c4, bi_f c5]; rfl)
            | exact K_eq (h _ _ ⟨qdP_F (by decide), by rw [upF_s, bi_t c1, if_pos c1]; rfl⟩) (by rw [if_pos c1, bi_t c2, bi_f c3, bi_f c4, bi_t c5]; rfl)
            | exact K_eq (h _ _ ⟨qdP_F (by decide), by rw [upF_s, bi_t c1, if_pos c1]; rfl⟩) (by rw [if_pos c1, bi_t c2, bi_f c3, bi_f c4, bi_f c5]; rfl)
            | exact K_eq (h _ _ ⟨qdP_F (by decide), by rw [upF_s, bi_t c1, if_pos c1]; rfl⟩) (by rw [if_pos c1, bi_f c2, bi_t c3, bi_t c4, bi_t c5]; rfl)
            | exact K_eq (h _ _ ⟨qdP_F (by decide), by rw [upF_s, bi_t c1, if_pos c1]; rfl⟩) (by rw [if_pos c1, bi_f c2, bi_t c3, bi_t c4, bi_f c5]; rfl)
            | exact K_eq (h _ _ ⟨qdP_F (by decide), by rw [upF_s, bi_t c1, if_pos c1]; rfl⟩) (by rw [if_pos c1, bi_f c2, bi_t c3, bi_f c4, bi_t c5]; rfl)
            | exact K_eq (h _ _ ⟨qdP_F (by decide), by rw [upF_s, bi_t c1, if_pos c1]; rfl⟩) (by rw [if_pos c1, bi_f c2, bi_t c3, bi_f c4, bi_f c5]; rfl)
            | exact K_eq (h _ _ ⟨qdP_F (by decide), by rw [upF_s, bi_t c1, if_pos c1]; rfl⟩) (by rw [if_pos c1, bi_f c2, bi_f c3, bi_t c4, bi_t c5]; rfl)
            | exact K_eq (h _ _ ⟨qdP_F (by decide), by rw [upF_s, bi_t c1, if_pos c1]; rfl⟩) (by rw [if_pos c1, bi_f c2, bi_f c3, bi_t c4, bi_f c5]; rfl)
            | exact K_eq (h _ _ ⟨qdP_F (by decide), by rw [upF_s, bi_t c1, if_pos c1]; rfl⟩) (by rw [if_pos c1, bi_f c2, bi_f c3, bi_f c4, bi_t c5]; rfl)
            | exact K_eq (h _ _ ⟨qdP_F (by decide), by rw [upF_s, bi_t c1, if_pos c1]; rfl⟩) (by rw [if_pos c1, bi_f c2, bi_f c3, bi_f c4, bi_f c5]; rfl)
theorem qtX9_sharedEnds (l : Launch) : am_CT l layM qeX9_sharedEnds := am_met0 rfl (by decide +kernel) rfl rfl rfl rfl rfl (fun _ => rfl) rfl (qzX9_sharedEnds l) (fun k e1 h => (qyX9_sharedEnds l k e1 h).2) (fun as F A K h => by
  replace h : qsX9_sharedEnds as F A K := h
  unfold qsX9_sharedEnds at h
  split at h
  · rename_i o c e
    refine ⟨by first | exact Nat.le_of_ble_eq_true rfl | simp [am_fl, am_cat], ?_⟩
    replace h := am_cond2 h
    rcases h with ⟨hb, h⟩ | h
    · skip
      have hb0 := hb
      have hb0 := am_bq hb0
      subst hb0
      exact am_way_line (qvX9_sharedEnds_25 c e F A K h)
    exact h.elim
  · exact h.elim)
