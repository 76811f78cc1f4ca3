def qkX8_insertPoint : Nat → Option CI := fun pc => cond (Nat.ble 140 pc) none (cond (Nat.ble 69 pc) (cond (Nat.ble 106 pc) (cond (Nat.ble 123 pc) (cond (Nat.ble 131 pc) (cond (Nat.ble 135 pc) (cond (Nat.beq pc 135) (some (.iload_n 1, 136, [])) (cond (Nat.beq pc 136) (some (.invokevirtual 126, 139, [])) (cond (Nat.beq pc 139) (some (.ireturn, 140, [])) (none)))) (cond (Nat.beq pc 131) (some (.aload_n 0, 132, [])) (cond (Nat.beq pc 132) (some (.getfield 10, 135, [])) (none)))) (cond (Nat.ble 126 pc) (cond (Nat.beq pc 126) (some (.iconst 1, 127, [])) (cond (Nat.beq pc 127) (some (.iadd, 128, [])) (cond (Nat.beq pc 128) (some (.invokevirtual 327, 131, [])) (none)))) (cond (Nat.beq pc 123) (some (.iload_n 1, 124, [])) (cond (Nat.beq pc 124) (some (.iload 6, 126, [])) (none))))) (cond (Nat.ble 112 pc) (cond (Nat.ble 116 pc) (cond (Nat.beq pc 116) (some (.invokevirtual 316, 119, [])) (cond (Nat.beq pc 119) (some (.aload_n 0, 120, [])) (cond (Nat.beq pc 120) (some (.getfield 10, 123, [])) (none)))) (cond (Nat.beq pc 112) (some (.iload 4, 114, [])) (cond (Nat.beq pc 114) (some (.iload 5, 116, [])) (none)))) (cond (Nat.ble 110 pc) (cond (Nat.beq pc 110) (some (.iload_n 2, 111, [])) (cond (Nat.beq pc 111) (some (.iload_n 3, 112, [])) (none))) (cond (Nat.beq pc 106) (some (.getfield 10, 109, [])) (cond (Nat.beq pc 109) (some (.iload_n 1, 110, [])) (none)))))) (cond (Nat.ble 89 pc) (cond (Nat.ble 94 pc) (cond (Nat.ble 99 pc) (cond (Nat.beq pc 99) (some (.iinc 7 (-1), 102, [])) (cond (Nat.beq pc 102) (some (.goto (-23), 105, [79])) (cond (Nat.beq pc 105) (some (.aload_n 0, 106, [])) (none)))) (cond (Nat.beq pc 94) (some (.iload 7, 96, [])) (cond (Nat.beq pc 96) (some (.invokevirtual 323, 99, [])) (none)))) (cond (Nat.ble 92 pc) (cond (Nat.beq pc 92) (some (.iconst 1, 93, [])) (cond (Nat.beq pc 93) (some (.isub, 94, [])) (none))) (cond (Nat.beq pc 89) (some (.iload_n 1, 90, [])) (cond (Nat.beq pc 90) (some (.iload 7, 92, [])) (none))))) (cond (Nat.ble 79 pc) (cond (Nat.ble 82 pc) (cond (Nat.beq pc 82) (some (.if_icmp .le 23, 85, [105])) (cond (Nat.beq pc 85) (some (.aload_n 0, 86, [])) (cond (Nat.beq pc 86) (some (.getfield 10, 89, [])) (none)))) (cond (Nat.beq pc 79) (some (.iload 7, 81, [])) (cond (Nat.beq pc 81) (some (.iload_n 2, 82, [])) (none)))) (cond (Nat.ble 75 pc) (cond (Nat.beq pc 75) (some (.iload 6, 77, [])) (cond (Nat.beq pc 77) (some (.istore 7, 79, [])) (none))) (cond (Nat.beq pc 69) (some (.getfield 10, 72, [])) (cond (Nat.beq pc 72) (some (.invokevirtual 313, 75, [])) (none))))))) (cond (Nat.ble 34 pc) (cond (Nat.ble 54 pc) (cond (Nat.ble 61 pc) (cond (Nat.ble 64 pc) (cond (Nat.beq pc 64) (some (.aload_n 0, 65, [])) (cond (Nat.beq pc 65) (some (.getfield 22, 68, [])) (cond (Nat.beq pc 68) (some (.aload_n 0, 69, [])) (none)))) (cond (Nat.beq pc 61) (some (.bipush (-3), 63, [])) (cond (Nat.beq pc 63) (some (.ireturn, 64, [])) (none)))) (cond (Nat.ble 57 pc) (cond (Nat.beq pc 57) (some (.iconst 4, 58, [])) (cond (Nat.beq pc 58) (some (.if_icmp .lt 6, 61, [64])) (none))) (cond (Nat.beq pc 54) (some (.ireturn, 55, [])) (cond (Nat.beq pc 55) (some (.iload 6, 57, [])) (none))))) (cond (Nat.ble 44 pc) (cond (Nat.ble 46 pc) (cond (Nat.beq pc 46) (some (.invokestatic 133, 49, [])) (cond (Nat.beq pc 49) (some (.ifCond .ne 6, 52, [55])) (cond (Nat.beq pc 52) (some (.bipush (-2), 54, [])) (none)))) (cond (Nat.beq pc 44) (some (.iconst 1, 45, [])) (cond (Nat.beq pc 45) (some (.iconst 3, 46, [])) (none)))) (cond (Nat.ble 39 pc) (cond (Nat.beq pc 39) (some (.ifCond .eq 13, 42, [52])) (cond (Nat.beq pc 42) (some (.iload 5, 44, [])) (none))) (cond (Nat.beq pc 34) (some (.iload 4, 36, [])) (cond (Nat.beq pc 36) (some (.invokestatic 244, 39, [])) (none)))))) (cond (Nat.ble 17 pc) (cond (Nat.ble 24 pc) (cond (Nat.ble 27 pc) (cond (Nat.beq pc 27) (some (.invokestatic 133, 30, [])) (cond (Nat.beq pc 30) (some (.ifCond .eq 22, 33, [52])) (cond (Nat.beq pc 33) (some (.iload_n 3, 34, [])) (none)))) (cond (Nat.beq pc 24) (some (.iconst 0, 25, [])) (cond (Nat.beq pc 25) (some (.iload 6, 27, [])) (none)))) (cond (Nat.ble 21 pc) (cond (Nat.beq pc 21) (some (.istore 6, 23, [])) (cond (Nat.beq pc 23) (some (.iload_n 2, 24, [])) (none))) (cond (Nat.beq pc 17) (some (.iload_n 1, 18, [])) (cond (Nat.beq pc 18) (some (.invokevirtual 177, 21, [])) (none))))) (cond (Nat.ble 8 pc) (cond (Nat.ble 12 pc) (cond (Nat.beq pc 12) (some (.ireturn, 13, [])) (cond (Nat.beq pc 13) (some (.aload_n 0, 14, [])) (cond (Nat.beq pc 14) (some (.getfield 10, 17, [])) (none)))) (cond (Nat.beq pc 8) (some (.ifCond .ne 5, 11, [13])) (cond (Nat.beq pc 11) (some (.iconst (-1), 12, [])) (none)))) (cond (Nat.ble 4 pc) (cond (Nat.beq pc 4) (some (.iload_n 1, 5, [])) (cond (Nat.beq pc 5) (some (.invokevirtual 320, 8, [])) (none))) (cond (Nat.beq pc 0) (some (.aload_n 0, 1, [])) (cond (Nat.beq pc 1) (some (.getfield 10, 4, [])) (none))))))))
theorem qkX8_insertPoint_ok : ∀ pc i nx ts, qkX8_insertPoint pc = some (i, nx, ts) → am_cok cX8_insertPoint pc (i, nx, ts) = true := fun pc i nx ts h => am_tok_ok (n := 140) (by decide +kernel) (fun pc h => by show cond (Nat.ble 140 pc) _ _ = _; rw [Nat.ble_eq_true_of_le h]; rfl) h
def qaX8_insertPoint : Nat → Option CE := fun k => cond (Nat.beq k 320) (some qeX2_hasCurve) (cond (Nat.beq k 177) (some qeX2_size) (cond (Nat.beq k 133) (some qeX8_isWithin) (cond (Nat.beq k 244) (some qeX8_isPlace) (cond (Nat.beq k 313) (some qeX3_keep) (cond (Nat.beq k 323) (some qeX2_copyPoint) (cond (Nat.beq k 316) (some qeX2_putPoint) (cond (Nat.beq k 327) (some qeX2_putSize) (cond (Nat.beq k 126) (some qeX2_top) (none)))))))))
theorem qyX8_insertPoint (l : Launch) : ∀ k e1, qaX8_insertPoint k = some e1 → am_cal l layX RX8 7 k e1 ∧ ceT e1 = 0 := q_cons ⟨am_calV (ci := 2) (qtX2_hasCurve l) qbX2_hasCurve (by decide) rfl (am_tb_at 781 (by decide +kernel) rfl), rfl⟩ (q_cons ⟨am_calV (ci := 2) (qtX2_size l) qbX2_size (by decide) rfl (am_tb_at 904 (by decide +kernel) rfl), rfl⟩ (q_cons ⟨am_calS (qtX8_isWithin l) qbX8_isWithin (by decide) rfl (by decide) (am_tb_at 875 (by decide +kernel) rfl), rfl⟩ (q_cons ⟨am_calS (qtX8_isPlace l) qbX8_isPlace (by decide) rfl (by decide) (am_tb_at 872 (by decide +kernel) rfl), rfl⟩ (q_cons ⟨am_calV (ci := 3) (qtX3_keep l) qbX3_keep (by decide) rfl (am_tb_at 880 (by decide +kernel) rfl), rfl⟩ (q_cons ⟨am_calV (ci := 2) (qtX2_copyPoint l) qbX2_copyPoint (by decide) rfl (am_tb_at 905 (by decide +kernel) rfl), rfl⟩ (q_cons ⟨am_calV (ci := 2) (qtX2_putPoint l) qbX2_putPoint (by decide) rfl (am_tb_at 891 (by decide +kernel) rfl), rfl⟩ (q_cons ⟨am_calV (ci := 2) (qtX2_putSize l) qbX2_putSize (by decide) rfl (am_tb_at 911 (by decide +kernel) rfl), rfl⟩ (q_cons ⟨am_calV (ci := 2) (qtX2_top l) qbX2_top (by decide) rfl (am_tb_at 850 (by decide +kernel) rfl), rfl⟩ (q_nil)))))))))
def qxX8_insertPoint : CX := (qkX8_insertPoint, layX, qfX8, qaX8_insertPoint, qcX8, qlX8, qmX8, (some .int), false, none, 0, none, fun _ => none)
theorem qzX8_insertPoint (l : Launch) : am_sta l qxX8_insertPoint RX8 7 cX8_insertPoint := ⟨qkX8_insertPoint_ok, layX_ok, qfX8_ok, qcX8_ok, qlX8_ok, am_mthP qmX8_ok (by decide), fun k e1 h => (qyX8_insertPoint l k e1 h).1⟩
def qsX8_insertPoint : SP := fun as F A K => match as with
  | [.inr (.inr o), .inl c, .inl k, .inl x, .inl y, .inl w] => cond (Nat.beq o 0) ((fgOK (A 2) ∧ hsOK F ∧ (-2147483648 ≤ c ∧ c < 2147483648) ∧ (-2147483648 ≤ k ∧ k < 2147483648) ∧ (-2147483648 ≤ x ∧ x < 2147483648) ∧ (-2147483648 ≤ y ∧ y < 2147483648) ∧ (-2147483648 ≤ w ∧ w < 2147483648)) ∧ (∀ (G_1 : FF) (B_1 : AA), (chQ ((0 ≤ c ∧ c < A 2 0) ∧ ((0 ≤ k ∧ k ≤ A 2 (18 + c)) ∧ (0 ≤ x ∧ x ≤ 20 ∧ 0 ≤ y ∧ y ≤ 20) ∧ (1 ≤ w ∧ w ≤ 3)) ∧ ¬ A 2 (18 + c) = 4) F G_1 A B_1 (insR (A 2) c k x y w)) → (K (some (some (vI (if (0 ≤ c ∧ c < A 2 0) then (if (0 ≤ k ∧ k ≤ A 2 (18 + c)) ∧ (0 ≤ x ∧ x ≤ 20 ∧ 0 ≤ y ∧ y ≤ 20) ∧ (1 ≤ w ∧ w ≤ 3) then (if A 2 (18 + c) = 4 then -3 else A 2 (18 + c)) else -2) else -1)))) G_1 B_1))) (False)
  | _ => False
def qeX8_insertPoint : CE := (yX8_insertPoint, cX8_insertPoint, 8, (some .int), 5, some 8, 0, none, 0, 7, qsX8_insertPoint)
theorem qbX8_insertPoint : am_mb qeX8_insertPoint := ⟨am_tb_at 903 (by decide +kernel) rfl, am_tb_at 35 (by decide +kernel) rfl, ⟨by decide, by decide, by decide +kernel⟩, by decide, am_tb_at 901 (by decide +kernel) rfl, am_tb_at 902 (by decide +kernel) rfl, _, _, rfl⟩
def qnX8_insertPoint_0 : CUT := fun pc => cond (Nat.beq pc 79) (some [true, true, true, true, true, true, true, true]) (none)
def qiX8_insertPoint_0 (c : Int) (k : Int) (x : Int) (y : Int) (w : Int) (F0 : FF) (A0 : AA) : REC := fun pc ls st F A u => cond (Nat.beq pc 79) (match ls, st, u with
    | [some (.inr (.inr s0)), some (.inl s1), some (.inl s2), some (.inl s3), some (.inl s4), some (.inl s5), some (.inl n), some (.inl t)], [], 0 => s0 = 0 ∧ s1 = c ∧ s2 = k ∧ s3 = x ∧ s4 = y ∧ s5 = w ∧ ((0 ≤ c ∧ c < A0 2 0) ∧ (n = A0 2 (18 + c) ∧ n < 4) ∧ (0 ≤ k ∧ k ≤ t ∧ t ≤ n) ∧ (0 ≤ x ∧ x ≤ 20 ∧ 0 ≤ y ∧ y ≤ 20) ∧ (1 ≤ w ∧ w ≤ 3) ∧ F = kF F0 ∧ (∀ b i, b ≠ 2 → A b i = kA F0 A0 b i) ∧ ∀ i, 0 ≤ i → i < 140 → A 2 i = upR (A0 2) c t n i)
    | _, _, _ => False) (False)
def quX8_insertPoint_0 : Nat → LVs → List AV → FF → AA → Nat := fun pc ls _ F A => cond (Nat.beq pc 79) (match ls with
    | [some (.inr (.inr s0)), some (.inl s1), some (.inl s2), some (.inl s3), some (.inl s4), some (.inl s5), some (.inl n), some (.inl t)] => Int.toNat (9 + t)
    | _ => 0) (0)
set_option maxRecDepth 20000 in
theorem qvX8_insertPoint_0_0 (c : Int) (k : Int) (x : Int) (y : Int) (w : Int) (F0 : FF) (A0 : AA) (K : KK) (h : (fgOK (A0 2) ∧ hsOK F0 ∧ (-2147483648 ≤ c ∧ c < 2147483648) ∧ (-2147483648 ≤ k ∧ k < 2147483648) ∧ (-2147483648 ≤ x ∧ x < 2147483648) ∧ (-2147483648 ≤ y ∧ y < 2147483648) ∧ (-2147483648 ≤ w ∧ w < 2147483648)) ∧ (∀ (G_1 : FF) (B_1 : AA), (chQ ((0 ≤ c ∧ c < A0 2 0) ∧ ((0 ≤ k ∧ k ≤ A0 2 (18 + c)) ∧ (0 ≤ x ∧ x ≤ 20 ∧ 0 ≤ y ∧ y ≤ 20) ∧ (1 ≤ w ∧ w ≤ 3)) ∧ ¬ A0 2 (18 + c) = 4) F0 G_1 A0 B_1 (insR (A0 2) c k x y w)) → (K (some (some (vI (if (0 ≤ c ∧ c < A0 2 0) then (if (0 ≤ k ∧ k ≤ A0 2 (18 + c)) ∧ (0 ≤ x ∧ x ≤ 20 ∧ 0 ≤ y ∧ y ≤ 20) ∧ (1 ≤ w ∧ w ≤ 3) then (if A0 2 (18 + c) = 4 then -3 else A0 2 (18 + c)) else -2) else -1)))) G_1 B_1))) : am_stp qxX8_insertPoint (am_run qxX8_insertPoint qnX8_insertPoint_0 (qiX8_insertPoint_0 c k x y w F0 A0) K 37) K 0 (am_ent [vR 0, vI c, vI k, vI x, vI y, vI w] 8) [] F0 A0 0 := by
  show am_stp qxX8_insertPoint (am_run qxX8_insertPoint qnX8_insertPoint_0 (qiX8_insertPoint_0 c k x y w F0 A0) K 37) K 0 [some (vR 0), some (vI c), some (vI k), some (vI x), some (vI y), some (vI w), none, none] [] F0 A0 0
  obtain ⟨hp, h⟩ := h
  have p1 := hp.1
  have ph := hp.2.1
  have q1 := p1.1.1
  have q2 := p1.1.2
  obtain ⟨ph1, ph2⟩ := ph
  have hcv : (0 ≤ w32 c ∧ w32 c < w32 (fat (A0 2) 0)) ↔ (0 ≤ c ∧ c < A0 2 0) := by rw [w32_id (x := c) (by omega) (by omega), fat_in (by omega) (by omega), w32_id (x := A0 2 0) (by omega) (by omega)]
  show (w32 (bi (0 ≤ w32 c ∧ w32 c < w32 (fat (A0 2) 0))) = w32 0 → (K (some (some (vI (-1)))) F0 A0)) ∧ (¬ (w32 (bi (0 ≤ w32 c ∧ w32 c < w32 (fat (A0 2) 0))) = w32 0) → ((w32 (bi (w32 0 ≤ w32 k ∧ w32 k ≤ w32 (fat (A0 2) (18 + c)))) = w32 0 → (K (some (some (vI (-2)))) F0 A0)) ∧ (¬ (w32 (bi (w32 0 ≤ w32 k ∧ w32 k ≤ w32 (fat (A0 2) (18 + c)))) = w32 0) → ((w32 (bi (0 ≤ w32 x ∧ w32 x ≤ 20 ∧ 0 ≤ w32 y ∧ w32 y ≤ 20)) = w32 0 → (K (some (some (vI (-2)))) F0 A0)) ∧ (¬ (w32 (bi (0 ≤ w32 x ∧ w32 x ≤ 20 ∧ 0 ≤ w32 y ∧ w32 y ≤ 20)) = w32 0) → ((w32 (bi (w32 1 ≤ w32 w ∧ w32 w ≤ w32 3)) = w32 0 → (K (some (some (vI (-2)))) F0 A0)) ∧ (¬ (w32 (bi (w32 1 ≤ w32 w ∧ w32 w ≤ w32 3)) = w32 0) → ((w32 (fat (A0 2) (18 + c)) < w32 4 → ((0 ≤ (F0 5 1) ∧ (F0 5 1) ≤ 9 ∧ 0 ≤ (F0 5 2) ∧ (F0 5 2) ≤ 10) ∧ (∀ (G_1 : FF), (G_1 = upF (upF F0 5 1 (if (F0 5 2) = 10 then ((F0 5 1) + 1) % 10 else (F0 5 1))) 5 2 (if (F0 5 2) = 10 then 10 else (F0 5 2) + 1)) → (0 = 0 ∧ c = c ∧ k = k ∧ x = x ∧ y = y ∧ w = w ∧ ((0 ≤ c ∧ c < A0 2 0) ∧ ((fat (A0 2) (18 + c)) = A0 2 (18 + c) ∧ (fat (A0 2) (18 + c)) < 4) ∧ (0 ≤ k ∧ k ≤ (fat (A0 2) (18 + c)) ∧ (fat (A0 2) (18 + c)) ≤ (fat (A0 2) (18 + c))) ∧ (0 ≤ x ∧ x ≤ 20 ∧ 0 ≤ y ∧ y ≤ 20) ∧ (1 ≤ w ∧ w ≤ 3) ∧ G_1 = kF F0 ∧ (∀ b i, b ≠ 2 → (setR A0 6 ((if (F0 5 2) = 10 then ((F0 5 1) + 1) % 10 + 9 else (F0 5 1) + (F0 5 2)) % 10 * 140) 140 (A0 2)) b i = kA F0 A0 b i) ∧ ∀ i, 0 ≤ i → i < 140 → (setR A0 6 ((if (F0 5 2) = 10 then ((F0 5 1) + 1) % 10 + 9 else (F0 5 1) + (F0 5 2)) % 10 * 140) 140 (A0 2)) 2 i = upR (A0 2) c (fat (A0 2) (18 + c)) (fat (A0 2) (18 + c)) i))))) ∧ (¬ w32 (fat (A0 2) (18 + c)) < w32 4 → (K (some (some (vI (-3)))) F0 A0))))))))))
  refine ⟨fun c1 => ?_, fun c1 => ?_⟩
  · skip
    (try simp only [w32_0, wbi0, Classical.not_not] at c1); (try rw [hcv] at c1); (try rw [hpt] at c1); (try (have q3 := (p1.2.2.1 c (by omega) (by omega)).1; simp (disch := omega) only [fat_in, w32_id] at c1)); (try simp (disch := omega) only [w32_0, wbi0, Classical.not_not, w32_id] at c1)
    first
    | exact K_eq (h _ _ ⟨fun z => absurd z (by omega), fun _ => ⟨rfl, rfl⟩⟩) (if_neg (by omega))
    | exact K_eq (h _ _ ⟨fun z => absurd z (by omega), fun _ => ⟨rfl, rfl⟩⟩) (by rw [if_pos (by omega), if_neg (by omega)])
    | (have q3 := (p1.2.2.1 c (by omega) (by omega)).1; exact K_eq (h _ _ ⟨fun z => absurd z (by omega), fun _ => ⟨rfl, rfl⟩⟩) (by rw [if_pos (by omega), if_pos (by omega), if_pos (by omega)]))
  · skip
    (try simp only [w32_0, wbi0, Classical.not_not] at c1); (try rw [hcv] at c1); (try rw [hpt] at c1); (try (have q3 := (p1.2.2.1 c (by omega) (by omega)).1; simp (disch := omega) only [fat_in, w32_id] at c1)); (try simp (disch := omega) only [w32_0, wbi0, Classical.not_not, w32_id] at c1)
    refine ⟨fun c2 => ?_, fun c2 => ?_⟩
    · skip
      (try simp only [w32_0, wbi0, Classical.not_not] at c2); (try rw [hcv] at c2); (try rw [hpt] at c2); (try (have q3 := (p1.2.2.1 c (by omega) (by omega)).1; simp (disch := omega) only [fat_in, w32_id] at c2)); (try simp (disch := omega) only [w32_0, wbi0, Classical.not_not, w32_id] at c2)
      first
      | exact K_eq (h _ _ ⟨fun z => absurd z (by omega), fun _ => ⟨rfl, rfl⟩⟩) (if_neg (by omega))
      | exact K_eq (h _ _ ⟨fun z => absurd z (by omega), fun _ => ⟨rfl, rfl⟩⟩) (by rw [if_pos (by omega), if_neg (by omega)])
      | (have q3 := (p1.2.2.1 c (by omega) (by omega)).1; exact K_eq (h _ _ ⟨fun z => absurd z (by omega), fun _ => ⟨rfl, rfl⟩⟩) (by rw [if_pos (by omega), if_pos (by omega), if_pos (by omega)]))
    · skip
      (try simp only [w32_0, wbi0, Classical.not_not] at c2); (try rw [hcv] at c2); (try rw [hpt] at c2); (try (have q3 := (p1.2.2.1 c (by omega) (by omega)).1; simp (disch := omega) only [fat_in, w32_id] at c2)); (try simp (disch := omega) only [w32_0, wbi0, Classical.not_not, w32_id] at c2)
      refine ⟨fun c3 => ?_, fun c3 => ?_⟩
      · skip
        (try simp only [w32_0, wbi0, Classical.not_not] at c3); (try rw [hcv] at c3); (try rw [hpt] at c3); (try (have q3 := (p1.2.2.1 c (by omega) (by omega)).1; simp (disch := omega) only [fat_in, w32_id] at c3)); (try simp (disch := omega) only [w32_0, wbi0, Classical.not_not, w32_id] at c3)
        first
        | exact K_eq (h _ _ ⟨fun z => absurd z (by omega), fun _ => ⟨rfl, rfl⟩⟩) (if_neg (by omega))
        | exact K_eq (h _ _ ⟨fun z => absurd z (by omega), fun _ => ⟨rfl, rfl⟩⟩) (by rw [if_pos (by omega), if_neg (by omega)])
        | (have q3 := (p1.2.2.1 c (by omega) (by omega)).1; exact K_eq (h _ _ ⟨fun z => absurd z (by omega), fun _ => ⟨rfl, rfl⟩⟩) (by rw [if_pos (by omega), if_pos (by omega), if_pos (by omega)]))
      · skip
        (try simp only [w32_0, wbi0, Classical.not_not] at c3); (try rw [hcv] at c3); (try rw [hpt] at c3); (try (have q3 := (p1.2.2.1 c (by omega) (by omega)).1; simp (disch := omega) only [fat_in, w32_id] at c3)); (try simp (disch := omega) only [w32_0, wbi0, Classical.not_not, w32_id] at c3)
        refine ⟨fun c4 => ?_, fun c4 => ?_⟩
        · skip
          (try simp only [w32_0, wbi0, Classical.not_not] at c4); (try rw [hcv] at c4); (try rw [hpt] at c4); (try (have q3 := (p1.2.2.1 c (by omega) (by omega)).1; simp (disch := omega) only [fat_in, w32_id] at c4)); (try simp (disch := omega) only [w32_0, wbi0, Classical.not_not, w32_id] at c4)
          first
          | exact K_eq (h _ _ ⟨fun z => absurd z (by omega), fun _ => ⟨rfl, rfl⟩⟩) (if_neg (by omega))
          | exact K_eq (h _ _ ⟨fun z => absurd z (by omega), fun _ => ⟨rfl, rfl⟩⟩) (by rw [if_pos (by omega), if_neg (by omega)])
          | (have q3 := (p1.2.2.1 c (by omega) (by omega)).1; exact K_eq (h _ _ ⟨fun z => absurd z (by omega), fun _ => ⟨rfl, rfl⟩⟩) (by rw [if_pos (by omega), if_pos (by omega), if_pos (by omega)]))
        · skip
          (try simp only [w32_0, wbi0, Classical.not_not] at c4); (try rw [hcv] at c4); (try rw [hpt] at c4); (try (have q3 := (p1.2.2.1 c (by omega) (by omega)).1; simp (disch := omega) only [fat_in, w32_id] at c4)); (try simp (disch := omega) only [w32_0, wbi0, Classical.not_not, w32_id] at c4)
          refine ⟨fun c5 => ?_, fun c5 => ?_⟩
          · skip
            (try simp only [w32_0, wbi0, Classical.not_not] at c5); (try rw [hcv] at c5); (try rw [hpt] at c5); (try (have q3 := (p1.2.2.1 c (by omega) (by omega)).1; simp (disch := omega) only [fat_in, w32_id] at c5)); (try simp (disch := omega) only [w32_0, wbi0, Classical.not_not, w32_id] at c5)
            refine ⟨by first | exact ⟨ph1.1, ph1.2, ph2.1, ph2.2⟩ | omega, ?_⟩
            intro G_1 g1
            have gk : G_1 = kF F0 := g1
            have ek : setR A0 6 ((if F0 5 2 = 10 then (F0 5 1 + 1) % 10 + 9 else F0 5 1 + F0 5 2) % 10 * 140) 140 (A0 2) = kA F0 A0 := rfl
            rw [ek]
            have q3 := (p1.2.2.1 c (by omega) (by omega)).1
            refine ⟨rfl, rfl, rfl, rfl, rfl, rfl, ?_⟩
            have q3 := (p1.2.2.1 c (by omega) (by omega)).1
            simp (disch := omega) only [fat_in]
            refine ⟨⟨by omega, by omega⟩, ⟨by trivial, by omega⟩, by omega, by omega, by omega, gk, fun b i hb => by trivial, fun i i0 i1 => ?_⟩
            rw [kA_2, upR_out (by omega)]
          · skip
            (try simp only [w32_0, wbi0, Classical.not_not] at c5); (try rw [hcv] at c5); (try rw [hpt] at c5); (try (have q3 := (p1.2.2.1 c (by omega) (by omega)).1; simp (disch := omega) only [fat_in, w32_id] at c5)); (try simp (disch := omega) only [w32_0, wbi0, Classical.not_not, w32_id] at c5)
            first
            | exact K_eq (h _ _ ⟨fun z => absurd z (by omega), fun _ => ⟨rfl, rfl⟩⟩) (if_neg (by omega))
            | exact K_eq (h _ _ ⟨fun z => absurd z (by omega), fun _ => ⟨rfl, rfl⟩⟩) (by rw [if_pos (by omega), if_neg (by omega)])
            | (have q3 := (p1.2.2.1 c (by omega) (by omega)).1; exact K_eq (h _ _ ⟨fun z => absurd z (by omega), fun _ => ⟨rfl, rfl⟩⟩) (by rw [if_pos (by omega), if_pos (by omega), if_pos (by omega)]))
set_option maxRecDepth 20000 in
theorem qvX8_insertPoint_0_79 (c : Int) (k : Int) (x : Int) (y : Int) (w : Int) (F0 : FF) (A0 : AA) (K : KK) (h : (fgOK (A0 2) ∧ hsOK F0 ∧ (-2147483648 ≤ c ∧ c < 2147483648) ∧ (-2147483648 ≤ k ∧ k < 2147483648) ∧ (-2147483648 ≤ x ∧ x < 2147483648) ∧ (-2147483648 ≤ y ∧ y < 2147483648) ∧ (-2147483648 ≤ w ∧ w < 2147483648)) ∧ (∀ (G_1 : FF) (B_1 : AA), (chQ ((0 ≤ c ∧ c < A0 2 0) ∧ ((0 ≤ k ∧ k ≤ A0 2 (18 + c)) ∧ (0 ≤ x ∧ x ≤ 20 ∧ 0 ≤ y ∧ y ≤ 20) ∧ (1 ≤ w ∧ w ≤ 3)) ∧ ¬ A0 2 (18 + c) = 4) F0 G_1 A0 B_1 (insR (A0 2) c k x y w)) → (K (some (some (vI (if (0 ≤ c ∧ c < A0 2 0) then (if (0 ≤ k ∧ k ≤ A0 2 (18 + c)) ∧ (0 ≤ x ∧ x ≤ 20 ∧ 0 ≤ y ∧ y ≤ 20) ∧ (1 ≤ w ∧ w ≤ 3) then (if A0 2 (18 + c) = 4 then -3 else A0 2 (18 + c)) else -2) else -1)))) G_1 B_1))) (n : Int) (t : Int) (F : FF) (A : AA) (hi : (0 ≤ c ∧ c < A0 2 0) ∧ (n = A0 2 (18 + c) ∧ n < 4) ∧ (0 ≤ k ∧ k ≤ t ∧ t ≤ n) ∧ (0 ≤ x ∧ x ≤ 20 ∧ 0 ≤ y ∧ y ≤ 20) ∧ (1 ≤ w ∧ w ≤ 3) ∧ F = kF F0 ∧ (∀ b i, b ≠ 2 → A b i = kA F0 A0 b i) ∧ ∀ i, 0 ≤ i → i < 140 → A 2 i = upR (A0 2) c t n i) : am_stp qxX8_insertPoint (am_run qxX8_insertPoint qnX8_insertPoint_0 (fun pc ls st F A u => qiX8_insertPoint_0 c k x y w F0 A0 pc ls st F A u ∧ quX8_insertPoint_0 pc ls st F A < quX8_insertPoint_0 79 [some (vR 0), some (vI c), some (vI k), some (vI x), some (vI y), some (vI w), some (vI n), some (vI t)] [] F A) K 37) K 79 [some (vR 0), some (vI c), some (vI k), some (vI x), some (vI y), some (vI w), some (vI n), some (vI t)] [] F A 0 := by
  obtain ⟨hp, h⟩ := h
  have p1 := hp.1
  have ph := hp.2.1
  have q1 := p1.1.1
  have q2 := p1.1.2
  obtain ⟨ph1, ph2⟩ := ph
  have hcv : (0 ≤ w32 c ∧ w32 c < w32 (fat (A0 2) 0)) ↔ (0 ≤ c ∧ c < A0 2 0) := by rw [w32_id (x := c) (by omega) (by omega), fat_in (by omega) (by omega), w32_id (x := A0 2 0) (by omega) (by omega)]
  obtain ⟨h1, h2, h3, h4, h5, hF, hA, hR⟩ := hi
  have q3 := (p1.2.2.1 c h1.1 h1.2).1
  have e18 : A 2 (18 + c) = A0 2 (18 + c) := by rw [hR _ (by omega) (by omega)]; exact upR_out (by omega)
  show (w32 k < w32 t → ((0 = 0 ∧ c = c ∧ k = k ∧ x = x ∧ y = y ∧ w = w ∧ ((0 ≤ c ∧ c < A0 2 0) ∧ (n = A0 2 (18 + c) ∧ n < 4) ∧ (0 ≤ k ∧ k ≤ (t + (-1)) ∧ (t + (-1)) ≤ n) ∧ (0 ≤ x ∧ x ≤ 20 ∧ 0 ≤ y ∧ y ≤ 20) ∧ (1 ≤ w ∧ w ≤ 3) ∧ F = kF F0 ∧ (∀ b i, b ≠ 2 → (putP A 2 c t (fat (A 2) (26 + (c * 4 + (t - 1)) * 3 + 0)) (fat (A 2) (26 + (c * 4 + (t - 1)) * 3 + 1)) (fat (A 2) (26 + (c * 4 + (t - 1)) * 3 + 2))) b i = kA F0 A0 b i) ∧ ∀ i, 0 ≤ i → i < 140 → (putP A 2 c t (fat (A 2) (26 + (c * 4 + (t - 1)) * 3 + 0)) (fat (A 2) (26 + (c * 4 + (t - 1)) * 3 + 1)) (fat (A 2) (26 + (c * 4 + (t - 1)) * 3 + 2))) 2 i = upR (A0 2) c (t + (-1)) n i)) ∧ (Int.toNat (9 + (t + (-1)))) < (Int.toNat (9 + t)))) ∧ (¬ w32 k < w32 t → (K (some (some (vI (fat ((fput (putP A 2 c k x y w) 2 (18 + c) (n + 1)) 2) (18 + c) - 1)))) F (fput (putP A 2 c k x y w) 2 (18 + c) (n + 1))))
  refine ⟨fun c1 => ?_, fun c1 => ?_⟩
  · skip
    (try simp (disch := omega) only [w32_0, w32_id] at c1)
    refine ⟨⟨rfl, rfl, rfl, rfl, rfl, rfl, ?_⟩, by omega⟩
    refine ⟨h1, h2, by omega, h4, h5, hF, fun b i hb => by rw [putP_r hb]; exact hA b i hb, ?_⟩
    rw [putP_2' (by omega) (by omega) (by omega) (by omega), fat_in (by omega) (by omega), fat_in (by omega) (by omega), fat_in (by omega) (by omega)]
    first | exact upR_s (by omega) (by omega) (by omega) (by omega) (by omega) hR | (rw [show t + -1 = t - 1 by omega]; exact upR_s (by omega) (by omega) (by omega) (by omega) (by omega) hR)
  · skip
    (try simp (disch := omega) only [w32_0, w32_id] at c1)
    have et : t = k := by omega
    subst et
    refine K_eq (h _ _ ⟨fun _ => ⟨hF, fun b i hb => by rw [fput_r hb, putP_r hb]; exact hA b i hb, fun i i0 i1 => ?_⟩, fun z => absurd ⟨h1, ⟨⟨h3.1, by omega⟩, h4, h5⟩, by omega⟩ z⟩) ?_
    · rw [fput_2 (by omega) (by omega), putP_2' (by omega) (by omega) (by omega) (by omega)]
      exact insR_e (by omega) (by omega) h3.1 h3.2.2 h2.2 h2.1 hR i i0 i1
    · rw [if_pos h1, if_pos ⟨⟨h3.1, by omega⟩, h4, h5⟩, if_neg (by omega), fat_in (by omega) (by omega), fput_2 (by omega) (by omega), if_pos rfl]; omega
set_option maxRecDepth 20000 in
theorem qvX8_insertPoint_0 (c : Int) (k : Int) (x : Int) (y : Int) (w : Int) (F0 : FF) (A0 : AA) (K : KK) (h : (fgOK (A0 2) ∧ hsOK F0 ∧ (-2147483648 ≤ c ∧ c < 2147483648) ∧ (-2147483648 ≤ k ∧ k < 2147483648) ∧ (-2147483648 ≤ x ∧ x < 2147483648) ∧ (-2147483648 ≤ y ∧ y < 2147483648) ∧ (-2147483648 ≤ w ∧ w < 2147483648)) ∧ (∀ (G_1 : FF) (B_1 : AA), (chQ ((0 ≤ c ∧ c < A0 2 0) ∧ ((0 ≤ k ∧ k ≤ A0 2 (18 + c)) ∧ (0 ≤ x ∧ x ≤ 20 ∧ 0 ≤ y ∧ y ≤ 20) ∧ (1 ≤ w ∧ w ≤ 3)) ∧ ¬ A0 2 (18 + c) = 4) F0 G_1 A0 B_1 (insR (A0 2) c k x y w)) → (K (some (some (vI (if (0 ≤ c ∧ c < A0 2 0) then (if (0 ≤ k ∧ k ≤ A0 2 (18 + c)) ∧ (0 ≤ x ∧ x ≤ 20 ∧ 0 ≤ y ∧ y ≤ 20) ∧ (1 ≤ w ∧ w ≤ 3) then (if A0 2 (18 + c) = 4 then -3 else A0 2 (18 + c)) else -2) else -1)))) G_1 B_1))) : am_body qxX8_insertPoint qnX8_insertPoint_0 37 (qiX8_insertPoint_0 c k x y w F0 A0) quX8_insertPoint_0 [vR 0, vI c, vI k, vI x, vI y, vI w] 8 F0 A0 K := by
  refine ⟨qvX8_insertPoint_0_0 c k x y w F0 A0 K h, fun pc ls st F A u hI => ?_⟩
  unfold qiX8_insertPoint_0 at hI
  replace hI := am_cond2 hI
  rcases hI with ⟨hb, hI⟩ | hI
  · have hb := am_bq hb
    subst hb
    split at hI
    · rename_i s0 s1 s2 s3 s4 s5 n t
      obtain ⟨e0, e1, e2, e3, e4, e5, hI⟩ := hI
      subst e0
      subst e1
      subst e2
      subst e3
      subst e4
      subst e5
      exact qvX8_insertPoint_0_79 _ _ _ _ _ _ _ K h _ _ _ _ hI
    · exact hI.elim
  exact hI.elim
theorem qtX8_insertPoint (l : Launch) : am_CT l layX qeX8_insertPoint := am_met0 rfl (by decide +kernel) rfl rfl rfl rfl rfl (fun _ => rfl) rfl (qzX8_insertPoint l) (fun k e1 h => (qyX8_insertPoint l k e1 h).2) (fun as F A K h => by
  replace h : qsX8_insertPoint as F A K := h
  unfold qsX8_insertPoint at h
  split at h
  · rename_i o c k x y w
    refine ⟨by first | exact Nat.le_of_ble_eq_true rfl | simp [am_fl, am_cat], ?_⟩
    replace h := am_cond2 h
    rcases h with ⟨hb, h⟩ | h
    · skip
      have hb0 := hb
      have hb0 := am_bq hb0
      subst hb0
      exact am_way_body (qvX8_insertPoint_0 c k x y w F A K h)
    exact h.elim
  · exact h.elim)
def qkX8_dropPoint : Nat → Option CI := fun pc => cond (Nat.ble 93 pc) none (cond (Nat.ble 47 pc) (cond (Nat.ble 70 pc) (cond (Nat.ble 80 pc) (cond (Nat.ble 85 pc) (cond (Nat.ble 89 pc) (cond (Nat.beq pc 89) (some (.invokevirtual 126, 92, [])) (cond (Nat.beq pc 92) (some (.ireturn, 93, [])) (none))) (cond (Nat.beq pc 85) (some (.getfield 10, 88, [])) (cond (Nat.beq pc 88) (some (.iload_n 1, 89, [])) (none)))) (cond (Nat.beq pc 80) (some (.isub, 81, [])) (cond (Nat.beq pc 81) (some (.invokevirtual 327, 84, [])) (cond (Nat.beq pc 84) (some (.aload_n 0, 85, [])) (none))))) (cond (Nat.ble 77 pc) (cond (Nat.beq pc 77) (some (.iload_n 1, 78, [])) (cond (Nat.beq pc 78) (some (.iload_n 3, 79, [])) (cond (Nat.beq pc 79) (some (.iconst 1, 80, [])) (none)))) (cond (Nat.beq pc 70) (some (.goto (-25), 73, [45])) (cond (Nat.beq pc 73) (some (.aload_n 0, 74, [])) (cond (Nat.beq pc 74) (some (.getfield 10, 77, [])) (none)))))) (cond (Nat.ble 57 pc) (cond (Nat.ble 61 pc) (cond (Nat.ble 64 pc) (cond (Nat.beq pc 64) (some (.invokevirtual 323, 67, [])) (cond (Nat.beq pc 67) (some (.iinc 4 1, 70, [])) (none))) (cond (Nat.beq pc 61) (some (.iadd, 62, [])) (cond (Nat.beq pc 62) (some (.iload 4, 64, [])) (none)))) (cond (Nat.beq pc 57) (some (.iload_n 1, 58, [])) (cond (Nat.beq pc 58) (some (.iload 4, 60, [])) (cond (Nat.beq pc 60) (some (.iconst 1, 61, [])) (none))))) (cond (Nat.ble 50 pc) (cond (Nat.beq pc 50) (some (.if_icmp .ge 23, 53, [73])) (cond (Nat.beq pc 53) (some (.aload_n 0, 54, [])) (cond (Nat.beq pc 54) (some (.getfield 10, 57, [])) (none)))) (cond (Nat.beq pc 47) (some (.iload_n 3, 48, [])) (cond (Nat.beq pc 48) (some (.iconst 1, 49, [])) (cond (Nat.beq pc 49) (some (.isub, 50, [])) (none))))))) (cond (Nat.ble 23 pc) (cond (Nat.ble 32 pc) (cond (Nat.ble 39 pc) (cond (Nat.ble 43 pc) (cond (Nat.beq pc 43) (some (.istore 4, 45, [])) (cond (Nat.beq pc 45) (some (.iload 4, 47, [])) (none))) (cond (Nat.beq pc 39) (some (.invokevirtual 313, 42, [])) (cond (Nat.beq pc 42) (some (.iload_n 2, 43, [])) (none)))) (cond (Nat.beq pc 32) (some (.getfield 22, 35, [])) (cond (Nat.beq pc 35) (some (.aload_n 0, 36, [])) (cond (Nat.beq pc 36) (some (.getfield 10, 39, [])) (none))))) (cond (Nat.ble 28 pc) (cond (Nat.beq pc 28) (some (.bipush (-3), 30, [])) (cond (Nat.beq pc 30) (some (.ireturn, 31, [])) (cond (Nat.beq pc 31) (some (.aload_n 0, 32, [])) (none)))) (cond (Nat.beq pc 23) (some (.iload_n 3, 24, [])) (cond (Nat.beq pc 24) (some (.iconst 2, 25, [])) (cond (Nat.beq pc 25) (some (.if_icmp .gt 6, 28, [31])) (none)))))) (cond (Nat.ble 12 pc) (cond (Nat.ble 15 pc) (cond (Nat.ble 19 pc) (cond (Nat.beq pc 19) (some (.invokevirtual 177, 22, [])) (cond (Nat.beq pc 22) (some (.istore_n 3, 23, [])) (none))) (cond (Nat.beq pc 15) (some (.getfield 10, 18, [])) (cond (Nat.beq pc 18) (some (.iload_n 1, 19, [])) (none)))) (cond (Nat.beq pc 12) (some (.iconst (-1), 13, [])) (cond (Nat.beq pc 13) (some (.ireturn, 14, [])) (cond (Nat.beq pc 14) (some (.aload_n 0, 15, [])) (none))))) (cond (Nat.ble 5 pc) (cond (Nat.beq pc 5) (some (.iload_n 2, 6, [])) (cond (Nat.beq pc 6) (some (.invokevirtual 129, 9, [])) (cond (Nat.beq pc 9) (some (.ifCond .ne 5, 12, [14])) (none)))) (cond (Nat.beq pc 0) (some (.aload_n 0, 1, [])) (cond (Nat.beq pc 1) (some (.getfield 10, 4, [])) (cond (Nat.beq pc 4) (some (.iload_n 1, 5, [])) (none))))))))
theorem qkX8_dropPoint_ok : ∀ pc i nx ts, qkX8_dropPoint pc = some (i, nx, ts) → am_cok cX8_dropPoint pc (i, nx, ts) = true := fun pc i nx ts h => am_tok_ok (n := 93) (by decide +kernel) (fun pc h => by show cond (Nat.ble 93 pc) _ _ = _; rw [Nat.ble_eq_true_of_le h]; rfl) h
def qaX8_dropPoint : Nat → Option CE := fun k => cond (Nat.beq k 129) (some qeX2_hasPoint) (cond (Nat.beq k 177) (some qeX2_size) (cond (Nat.beq k 313) (some qeX3_keep) (cond (Nat.beq k 323) (some qeX2_copyPoint) (cond (Nat.beq k 327) (some qeX2_putSize) (cond (Nat.beq k 126) (some qeX2_top) (none))))))
theorem qyX8_dropPoint (l : Launch) : ∀ k e1, qaX8_dropPoint k = some e1 → am_cal l layX RX8 7 k e1 ∧ ceT e1 = 0 := q_cons ⟨am_calV (ci := 2) (qtX2_hasPoint l) qbX2_hasPoint (by decide) rfl (am_tb_at 867 (by decide +kernel) rfl), rfl⟩ (q_cons ⟨am_calV (ci := 2) (qtX2_size l) qbX2_size (by decide) rfl (am_tb_at 904 (by decide +kernel) rfl), rfl⟩ (q_cons ⟨am_calV (ci := 3) (qtX3_keep l) qbX3_keep (by decide) rfl (am_tb_at 880 (by decide +kernel) rfl), rfl⟩ (q_cons ⟨am_calV (ci := 2) (qtX2_copyPoint l) qbX2_copyPoint (by decide) rfl (am_tb_at 905 (by decide +kernel) rfl), rfl⟩ (q_cons ⟨am_calV (ci := 2) (qtX2_putSize l) qbX2_putSize (by decide) rfl (am_tb_at 911 (by decide +kernel) rfl), rfl⟩ (q_cons ⟨am_calV (ci := 2) (qtX2_top l) qbX2_top (by decide) rfl (am_tb_at 850 (by decide +kernel) rfl), rfl⟩ (q_nil))))))
def qxX8_dropPoint : CX := (qkX8_dropPoint, layX, qfX8, qaX8_dropPoint, qcX8, qlX8, qmX8, (some .int), false, none, 0, none, fun _ => none)
theorem qzX8_dropPoint (l : Launch) : am_sta l qxX8_dropPoint RX8 7 cX8_dropPoint := ⟨qkX8_dropPoint_ok, layX_ok, qfX8_ok, qcX8_ok, qlX8_ok, am_mthP qmX8_ok (by decide), fun k e1 h => (qyX8_dropPoint l k e1 h).1⟩
def qsX8_dropPoint : SP := fun as F A K => match as with
  | [.inr (.inr o), .inl c, .inl k] => cond (Nat.beq o 0) ((fgOK (A 2) ∧ hsOK F ∧ (-2147483648 ≤ c ∧ c < 2147483648) ∧ (-2147483648 ≤ k ∧ k < 2147483648)) ∧ (∀ (G_1 : FF) (B_1 : AA), (chQ ((0 ≤ c ∧ c < A 2 0 ∧ 0 ≤ k ∧ k < A 2 (18 + c)) ∧ ¬ A 2 (18 + c) = 2) F G_1 A B_1 (drpR (A 2) c k)) → (K (some (some (vI (if (0 ≤ c ∧ c < A 2 0 ∧ 0 ≤ k ∧ k < A 2 (18 + c)) then (if A 2 (18 + c) = 2 then -3 else A 2 (18 + c) - 2) else -1)))) G_1 B_1))) (False)
  | _ => False
def qeX8_dropPoint : CE := (yX8_dropPoint, cX8_dropPoint, 5, (some .int), 2, some 8, 0, none, 0, 7, qsX8_dropPoint)
theorem qbX8_dropPoint : am_mb qeX8_dropPoint := ⟨am_tb_at 915 (by decide +kernel) rfl, am_tb_at 35 (by decide +kernel) rfl, ⟨by decide, by decide, by decide +kernel⟩, by decide, am_tb_at 913 (by decide +kernel) rfl, am_tb_at 914 (by decide +kernel) rfl, _, _, rfl⟩
def qnX8_dropPoint_0 : CUT := fun pc => cond (Nat.beq pc 45) (some [true, true, true, true, true]) (none)
def qiX8_dropPoint_0 (c : Int) (k : Int) (F0 : FF) (A0 : AA) : REC := fun pc ls st F A u => cond (Nat.beq pc 45) (match ls, st, u with
    | [some (.inr (.inr s0)), some (.inl s1), some (.inl s2), some (.inl n), some (.inl t)], [], 0 => s0 = 0 ∧ s1 = c ∧ s2 = k ∧ ((0 ≤ c ∧ c < A0 2 0) ∧ (n = A0 2 (18 + c) ∧ 2 < n ∧ n ≤ 4) ∧ (0 ≤ k ∧ k ≤ t ∧ t < n) ∧ F = kF F0 ∧ (∀ b i, b ≠ 2 → A b i = kA F0 A0 b i) ∧ ∀ i, 0 ≤ i → i < 140 → A 2 i = dnR (A0 2) c k t i)
    | _, _, _ => False) (False)
def quX8_dropPoint_0 : Nat → LVs → List AV → FF → AA → Nat := fun pc ls _ F A => cond (Nat.beq pc 45) (match ls with
    | [some (.inr (.inr s0)), some (.inl s1), some (.inl s2), some (.inl n), some (.inl t)] => Int.toNat (9 - t)
    | _ => 0) (0)
set_option maxRecDepth 20000 in
theorem qvX8_dropPoint_0_0 (c : Int) (k : Int) (F0 : FF) (A0 : AA) (K : KK) (h : (fgOK (A0 2) ∧ hsOK F0 ∧ (-2147483648 ≤ c ∧ c < 2147483648) ∧ (-2147483648 ≤ k ∧ k < 2147483648)) ∧ (∀ (G_1 : FF) (B_1 : AA), (chQ ((0 ≤ c ∧ c < A0 2 0 ∧ 0 ≤ k ∧ k < A0 2 (18 + c)) ∧ ¬ A0 2 (18 + c) = 2) F0 G_1 A0 B_1 (drpR (A0 2) c k)) → (K (some (some (vI (if (0 ≤ c ∧ c < A0 2 0 ∧ 0 ≤ k ∧ k < A0 2 (18 + c)) then (if A0 2 (18 + c) = 2 then -3 else A0 2 (18 + c) - 2) else -1)))) G_1 B_1))) : am_stp qxX8_dropPoint (am_run qxX8_dropPoint qnX8_dropPoint_0 (qiX8_dropPoint_0 c k F0 A0) K 24) K 0 (am_ent [vR 0, vI c, vI k] 5) [] F0 A0 0 := by
  show am_stp qxX8_dropPoint (am_run qxX8_dropPoint qnX8_dropPoint_0 (qiX8_dropPoint_0 c k F0 A0) K 24) K 0 [some (vR 0), some (vI c), some (vI k), none, none] [] F0 A0 0
  obtain ⟨hp, h⟩ := h
  have p1 := hp.1
  have ph := hp.2.1
  have q1 := p1.1.1
  have q2 := p1.1.2
  obtain ⟨ph1, ph2⟩ := ph
  have hpt := pt_iff p1 (c := c) (k := k) hp.2.2.1 hp.2.2.2
  show (w32 (bi (0 ≤ w32 c ∧ w32 c < w32 (fat (A0 2) 0) ∧ 0 ≤ w32 k ∧ w32 k < w32 (fat (A0 2) (18 + c)))) = w32 0 → (K (some (some (vI (-1)))) F0 A0)) ∧ (¬ (w32 (bi (0 ≤ w32 c ∧ w32 c < w32 (fat (A0 2) 0) ∧ 0 ≤ w32 k ∧ w32 k < w32 (fat (A0 2) (18 + c)))) = w32 0) → ((w32 2 < w32 (fat (A0 2) (18 + c)) → ((0 ≤ (F0 5 1) ∧ (F0 5 1) ≤ 9 ∧ 0 ≤ (F0 5 2) ∧ (F0 5 2) ≤ 10) ∧ (∀ (G_1 : FF), (G_1 = upF (upF F0 5 1 (if (F0 5 2) = 10 then ((F0 5 1) + 1) % 10 else (F0 5 1))) 5 2 (if (F0 5 2) = 10 then 10 else (F0 5 2) + 1)) → (0 = 0 ∧ c = c ∧ k = k ∧ ((0 ≤ c ∧ c < A0 2 0) ∧ ((fat (A0 2) (18 + c)) = A0 2 (18 + c) ∧ 2 < (fat (A0 2) (18 + c)) ∧ (fat (A0 2) (18 + c)) ≤ 4) ∧ (0 ≤ k ∧ k ≤ k ∧ k < (fat (A0 2) (18 + c))) ∧ G_1 = kF F0 ∧ (∀ b i, b ≠ 2 → (setR A0 6 ((if (F0 5 2) = 10 then ((F0 5 1) + 1) % 10 + 9 else (F0 5 1) + (F0 5 2)) % 10 * 140) 140 (A0 2)) b i = kA F0 A0 b i) ∧ ∀ i, 0 ≤ i → i < 140 → (setR A0 6 ((if (F0 5 2) = 10 then ((F0 5 1) + 1) % 10 + 9 else (F0 5 1) + (F0 5 2)) % 10 * 140) 140 (A0 2)) 2 i = dnR (A0 2) c k k i))))) ∧ (¬ w32 2 < w32 (fat (A0 2) (18 + c)) → (K (some (some (vI (-3)))) F0 A0))))
  refine ⟨fun c1 => ?_, fun c1 => ?_⟩
  · skip
    (try simp only [w32_0, wbi0, Classical.not_not] at c1); (try rw [hcv] at c1); (try rw [hpt] at c1); (try (have q3 := (p1.2.2.1 c (by omega) (by omega)).1; simp (disch := omega) only [fat_in, w32_id] at c1)); (try simp (disch := omega) only [w32_0, wbi0, Classical.not_not, w32_id] at c1)
    first
    | exact K_eq (h _ _ ⟨fun z => absurd z (by omega), fun _ => ⟨rfl, rfl⟩⟩) (if_neg (by omega))
    | (have q3 := (p1.2.2.1 c (by omega) (by omega)).1; exact K_eq (h _ _ ⟨fun z => absurd z (by omega), fun _ => ⟨rfl, rfl⟩⟩) (by rw [if_pos (by omega), if_pos (by omega)]))
  · skip
    (try simp only [w32_0, wbi0, Classical.not_not] at c1); (try rw [hcv] at c1); (try rw [hpt] at c1); (try (have q3 := (p1.2.2.1 c (by omega) (by omega)).1; simp (disch := omega) only [fat_in, w32_id] at c1)); (try simp (disch := omega) only [w32_0, wbi0, Classical.not_not, w32_id] at c1)
    refine ⟨fun c2 => ?_, fun c2 => ?_⟩
    · skip
      (try simp only [w32_0, wbi0, Classical.not_not] at c2); (try rw [hcv] at c2); (try rw [hpt] at c2); (try (have q3 := (p1.2.2.1 c (by omega) (by omega)).1; simp (disch := omega) only [fat_in, w32_id] at c2)); (try simp (disch := omega) only [w32_0, wbi0, Classical.not_not, w32_id] at c2)
      refine ⟨by first | exact ⟨ph1.1, ph1.2, ph2.1, ph2.2⟩ | omega, ?_⟩
      intro G_1 g1
      have gk : G_1 = kF F0 := g1
      have ek : setR A0 6 ((if F0 5 2 = 10 then (F0 5 1 + 1) % 10 + 9 else F0 5 1 + F0 5 2) % 10 * 140) 140 (A0 2) = kA F0 A0 := rfl
      rw [ek]
      have q3 := (p1.2.2.1 c (by omega) (by omega)).1
      refine ⟨rfl, rfl, rfl, ?_⟩
      have q3 := (p1.2.2.1 c (by omega) (by omega)).1
      simp (disch := omega) only [fat_in]
      refine ⟨⟨by omega, by omega⟩, ⟨by trivial, by omega⟩, by omega, gk, fun b i hb => by trivial, fun i i0 i1 => ?_⟩
      rw [kA_2, dnR_out (by omega)]
    · skip
      (try simp only [w32_0, wbi0, Classical.not_not] at c2); (try rw [hcv] at c2); (try rw [hpt] at c2); (try (have q3 := (p1.2.2.1 c (by omega) (by omega)).1; simp (disch := omega) only [fat_in, w32_id] at c2)); (try simp (disch := omega) only [w32_0, wbi0, Classical.not_not, w32_id] at c2)
      first
      | exact K_eq (h _ _ ⟨fun z => absurd z (by omega), fun _ => ⟨rfl, rfl⟩⟩) (if_neg (by omega))
      | (have q3 := (p1.2.2.1 c (by omega) (by omega)).1; exact K_eq (h _ _ ⟨fun z => absurd z (by omega), fun _ => ⟨rfl, rfl⟩⟩) (by rw [if_pos (by omega), if_pos (by omega)]))
set_option maxRecDepth 20000 in
theorem qvX8_dropPoint_0_45 (c : Int) (k : Int) (F0 : FF) (A0 : AA) (K : KK) (h : (fgOK (A0 2) ∧ hsOK F0 ∧ (-2147483648 ≤ c ∧ c < 2147483648) ∧ (-2147483648 ≤ k ∧ k < 2147483648)) ∧ (∀ (G_1 : FF) (B_1 : AA), (chQ ((0 ≤ c ∧ c < A0 2 0 ∧ 0 ≤ k ∧ k < A0 2 (18 + c)) ∧ ¬ A0 2 (18 + c) = 2) F0 G_1 A0 B_1 (drpR (A0 2) c k)) → (K (some (some (vI (if (0 ≤ c ∧ c < A0 2 0 ∧ 0 ≤ k ∧ k < A0 2 (18 + c)) then (if A0 2 (18 + c) = 2 then -3 else A0 2 (18 + c) - 2) else -1)))) G_1 B_1))) (n : Int) (t : Int) (F : FF) (A : AA) (hi : (0 ≤ c ∧ c < A0 2 0) ∧ (n = A0 2 (18 + c) ∧ 2 < n ∧ n ≤ 4) ∧ (0 ≤ k ∧ k ≤ t ∧ t < n) ∧ F = kF F0 ∧ (∀ b i, b ≠ 2 → A b i = kA F0 A0 b i) ∧ ∀ i, 0 ≤ i → i < 140 → A 2 i = dnR (A0 2) c k t i) : am_stp qxX8_dropPoint (am_run qxX8_dropPoint qnX8_dropPoint_0 (fun pc ls st F A u => qiX8_dropPoint_0 c k F0 A0 pc ls st F A u ∧ quX8_dropPoint_0 pc ls st F A < quX8_dropPoint_0 45 [some (vR 0), some (vI c), some (vI k), some (vI n), some (vI t)] [] F A) K 24) K 45 [some (vR 0), some (vI c), some (vI k), some (vI n), some (vI t)] [] F A 0 := by
  obtain ⟨hp, h⟩ := h
  have p1 := hp.1
  have ph := hp.2.1
  have q1 := p1.1.1
  have q2 := p1.1.2
  obtain ⟨ph1, ph2⟩ := ph
  have hpt := pt_iff p1 (c := c) (k := k) hp.2.2.1 hp.2.2.2
  obtain ⟨h1, h2, h3, hF, hA, hR⟩ := hi
  have q3 := (p1.2.2.1 c h1.1 h1.2).1
  have e18 : A 2 (18 + c) = A0 2 (18 + c) := by rw [hR _ (by omega) (by omega)]; exact dnR_out (by omega)
  show (w32 t < w32 (n - 1) → ((0 = 0 ∧ c = c ∧ k = k ∧ ((0 ≤ c ∧ c < A0 2 0) ∧ (n = A0 2 (18 + c) ∧ 2 < n ∧ n ≤ 4) ∧ (0 ≤ k ∧ k ≤ (t + 1) ∧ (t + 1) < n) ∧ F = kF F0 ∧ (∀ b i, b ≠ 2 → (putP A 2 c t (fat (A 2) (26 + (c * 4 + (t + 1)) * 3 + 0)) (fat (A 2) (26 + (c * 4 + (t + 1)) * 3 + 1)) (fat (A 2) (26 + (c * 4 + (t + 1)) * 3 + 2))) b i = kA F0 A0 b i) ∧ ∀ i, 0 ≤ i → i < 140 → (putP A 2 c t (fat (A 2) (26 + (c * 4 + (t + 1)) * 3 + 0)) (fat (A 2) (26 + (c * 4 + (t + 1)) * 3 + 1)) (fat (A 2) (26 + (c * 4 + (t + 1)) * 3 + 2))) 2 i = dnR (A0 2) c k (t + 1) i)) ∧ (Int.toNat (9 - (t + 1))) < (Int.toNat (9 - t)))) ∧ (¬ w32 t < w32 (n - 1) → (K (some (some (vI (fat ((fput A 2 (18 + c) (n - 1)) 2) (18 + c) - 1)))) F (fput A 2 (18 + c) (n - 1))))
  refine ⟨fun c1 => ?_, fun c1 => ?_⟩
  · skip
    (try simp (disch := omega) only [w32_0, w32_id] at c1)
    refine ⟨⟨rfl, rfl, rfl, ?_⟩, by omega⟩
    refine ⟨h1, h2, by omega, hF, fun b i hb => by rw [putP_r hb]; exact hA b i hb, ?_⟩
    rw [putP_2' (by omega) (by omega) (by omega) (by omega), fat_in (by omega) (by omega), fat_in (by omega) (by omega), fat_in (by omega) (by omega)]
    exact dnR_s (by omega) (by omega) (by omega) (by omega) (by omega) hR
  · skip
    (try simp (disch := omega) only [w32_0, w32_id] at c1)
    have et : t = n - 1 := by omega
    subst et
    refine K_eq (h _ _ ⟨fun _ => ⟨hF, fun b i hb => by rw [fput_r hb]; exact hA b i hb, fun i i0 i1 => ?_⟩, fun z => absurd ⟨⟨h1.1, h1.2, h3.1, by omega⟩, by omega⟩ z⟩) ?_
    · rw [fput_2 (by omega) (by omega)]
      exact drpR_e h2.1 hR i i0 i1
    · rw [if_pos ⟨h1.1, h1.2, h3.1, by omega⟩, if_neg (by omega), fat_in (by omega) (by omega), fput_2 (by omega) (by omega), if_pos rfl]; omega
set_option maxRecDepth 20000 in
theorem qvX8_dropPoint_0 (c : Int) (k : Int) (F0 : FF) (A0 : AA) (K : KK) (h : (fgOK (A0 2) ∧ hsOK F0 ∧ (-2147483648 ≤ c ∧ c < 2147483648) ∧ (-2147483648 ≤ k ∧ k < 2147483648)) ∧ (∀ (G_1 : FF) (B_1 : AA), (chQ ((0 ≤ c ∧ c < A0 2 0 ∧ 0 ≤ k ∧ k < A0 2 (18 + c)) ∧ ¬ A0 2 (18 + c) = 2) F0 G_1 A0 B_1 (drpR (A0 2) c k)) → (K (some (some (vI (if (0 ≤ c ∧ c < A0 2 0 ∧ 0 ≤ k ∧ k < A0 2 (18 + c)) then (if A0 2 (18 + c) = 2 then -3 else A0 2 (18 + c) - 2) else -1)))) G_1 B_1))) : am_body qxX8_dropPoint qnX8_dropPoint_0 24 (qiX8_dropPoint_0 c k F0 A0) quX8_dropPoint_0 [vR 0, vI c, vI k] 5 F0 A0 K := by
  refine ⟨qvX8_dropPoint_0_0 c k F0 A0 K h, fun pc ls st F A u hI => ?_⟩
  unfold qiX8_dropPoint_0 at hI
  replace hI := am_cond2 hI
  rcases hI with ⟨hb, hI⟩ | hI
  · have hb := am_bq hb
    subst hb
    split at hI
    · rename_i s0 s1 s2 n t
      obtain ⟨e0, e1, e2, hI⟩ := hI
      subst e0
      subst e1
      subst e2
      exact qvX8_dropPoint_0_45 _ _ _ _ K h _ _ _ _ hI
    · exact hI.elim
  exact hI.elim
theorem qtX8_dropPoint (l : Launch) : am_CT l layX qeX8_dropPoint := am_met0 rfl (by decide +kernel) rfl rfl rfl rfl rfl (fun _ => rfl) rfl (qzX8_dropPoint l) (fun k e1 h => (qyX8_dropPoint l k e1 h).2) (fun as F A K h => by
  replace h : qsX8_dropPoint as F A K := h
  unfold qsX8_dropPoint at h
  split at h
  · rename_i o c k
    refine ⟨by first | exact Nat.le_of_ble_eq_true rfl | simp [am_fl, am_cat], ?_⟩
    replace h := am_cond2 h
    rcases h with ⟨hb, h⟩ | h
    · skip
      have hb0 := hb
      have hb0 := am_bq hb0
      subst hb0
      exact am_way_body (qvX8_dropPoint_0 c k F A K h)
    exact h.elim
  · exact h.elim)
def qkX8_reverse : Nat → Option CI := fun pc => cond (Nat.ble 62 pc) none (cond (Nat.ble 34 pc) (cond (Nat.ble 47 pc) (cond (Nat.ble 51 pc) (cond (Nat.ble 57 pc) (cond (Nat.beq pc 57) (some (.goto (-22), 60, [35])) (cond (Nat.beq pc 60) (some (.iload_n 2, 61, [])) (cond (Nat.beq pc 61) (some (.ireturn, 62, [])) (none)))) (cond (Nat.beq pc 51) (some (.invokevirtual 330, 54, [])) (cond (Nat.beq pc 54) (some (.iinc 3 1, 57, [])) (none)))) (cond (Nat.ble 49 pc) (cond (Nat.beq pc 49) (some (.iload_n 3, 50, [])) (cond (Nat.beq pc 50) (some (.isub, 51, [])) (none))) (cond (Nat.beq pc 47) (some (.iload_n 3, 48, [])) (cond (Nat.beq pc 48) (some (.iload_n 2, 49, [])) (none))))) (cond (Nat.ble 38 pc) (cond (Nat.ble 42 pc) (cond (Nat.beq pc 42) (some (.aload_n 0, 43, [])) (cond (Nat.beq pc 43) (some (.getfield 10, 46, [])) (cond (Nat.beq pc 46) (some (.iload_n 1, 47, [])) (none)))) (cond (Nat.beq pc 38) (some (.isub, 39, [])) (cond (Nat.beq pc 39) (some (.if_icmp .ge 21, 42, [60])) (none)))) (cond (Nat.ble 36 pc) (cond (Nat.beq pc 36) (some (.iload_n 2, 37, [])) (cond (Nat.beq pc 37) (some (.iload_n 3, 38, [])) (none))) (cond (Nat.beq pc 34) (some (.istore_n 3, 35, [])) (cond (Nat.beq pc 35) (some (.iload_n 3, 36, [])) (none)))))) (cond (Nat.ble 17 pc) (cond (Nat.ble 25 pc) (cond (Nat.ble 29 pc) (cond (Nat.beq pc 29) (some (.invokevirtual 126, 32, [])) (cond (Nat.beq pc 32) (some (.istore_n 2, 33, [])) (cond (Nat.beq pc 33) (some (.iconst 0, 34, [])) (none)))) (cond (Nat.beq pc 25) (some (.getfield 10, 28, [])) (cond (Nat.beq pc 28) (some (.iload_n 1, 29, [])) (none)))) (cond (Nat.ble 21 pc) (cond (Nat.beq pc 21) (some (.invokevirtual 313, 24, [])) (cond (Nat.beq pc 24) (some (.aload_n 0, 25, [])) (none))) (cond (Nat.beq pc 17) (some (.aload_n 0, 18, [])) (cond (Nat.beq pc 18) (some (.getfield 10, 21, [])) (none))))) (cond (Nat.ble 8 pc) (cond (Nat.ble 12 pc) (cond (Nat.beq pc 12) (some (.ireturn, 13, [])) (cond (Nat.beq pc 13) (some (.aload_n 0, 14, [])) (cond (Nat.beq pc 14) (some (.getfield 22, 17, [])) (none)))) (cond (Nat.beq pc 8) (some (.ifCond .ne 5, 11, [13])) (cond (Nat.beq pc 11) (some (.iconst (-1), 12, [])) (none)))) (cond (Nat.ble 4 pc) (cond (Nat.beq pc 4) (some (.iload_n 1, 5, [])) (cond (Nat.beq pc 5) (some (.invokevirtual 320, 8, [])) (none))) (cond (Nat.beq pc 0) (some (.aload_n 0, 1, [])) (cond (Nat.beq pc 1) (some (.getfield 10, 4, [])) (none)))))))
theorem qkX8_reverse_ok : ∀ pc i nx ts, qkX8_reverse pc = some (i, nx, ts) → am_cok cX8_reverse pc (i, nx, ts) = true := fun pc i nx ts h => am_tok_ok (n := 62) (by decide +kernel) (fun pc h => by show cond (Nat.ble 62 pc) _ _ = _; rw [Nat.ble_eq_true_of_le h]; rfl) h
def qaX8_reverse : Nat → Option CE := fun k => cond (Nat.beq k 320) (some qeX2_hasCurve) (cond (Nat.beq k 313) (some qeX3_keep) (cond (Nat.beq k 126) (some qeX2_top) (cond (Nat.beq k 330) (some qeX2_swapPoints) (none))))
theorem qyX8_reverse (l : Launch) : ∀ k e1, qaX8_reverse k = some e1 → am_cal l layX RX8 8 k e1 ∧ ceT e1 = 0 := q_cons ⟨am_calV (ci := 2) (qtX2_hasCurve l) qbX2_hasCurve (by decide) rfl (am_tb_at 781 (by decide +kernel) rfl), rfl⟩ (q_cons ⟨am_calV (ci := 3) (qtX3_keep l) qbX3_keep (by decide) rfl (am_tb_at 880 (by decide +kernel) rfl), rfl⟩ (q_cons ⟨am_calV (ci := 2) (qtX2_top l) qbX2_top (by decide) rfl (am_tb_at 850 (by decide +kernel) rfl), rfl⟩ (q_cons ⟨am_calV (ci := 2) (qtX2_swapPoints l) qbX2_swapPoints (by decide) rfl (am_tb_at 920 (by decide +kernel) rfl), rfl⟩ (q_nil))))
def qxX8_reverse : CX := (qkX8_reverse, layX, qfX8, qaX8_reverse, qcX8, qlX8, qmX8, (some .int), false, none, 0, none, fun _ => none)
theorem qzX8_reverse (l : Launch) : am_sta l qxX8_reverse RX8 8 cX8_reverse := ⟨qkX8_reverse_ok, layX_ok, qfX8_ok, qcX8_ok, qlX8_ok, am_mthP qmX8_ok (by decide), fun k e1 h => (qyX8_reverse l k e1 h).1⟩
def qsX8_reverse : SP := fun as F A K => match as with
  | [.inr (.inr o), .inl c] => cond (Nat.beq o 0) ((fgOK (A 2) ∧ hsOK F ∧ (-2147483648 ≤ c ∧ c < 2147483648)) ∧ (∀ (G_1 : FF) (B_1 : AA), (chQ ((0 ≤ c ∧ c < A 2 0)) F G_1 A B_1 (revR (A 2) c)) → (K (some (some (vI (if (0 ≤ c ∧ c < A 2 0) then A 2 (18 + c) - 1 else -1)))) G_1 B_1))) (False)
  | _ => False
def qeX8_reverse : CE := (yX8_reverse, cX8_reverse, 4, (some .int), 1, some 8, 0, none, 0, 8, qsX8_reverse)
theorem qbX8_reverse : am_mb qeX8_reverse := ⟨am_tb_at 919 (by decide +kernel) rfl, am_tb_at 35 (by decide +kernel) rfl, ⟨by decide, by decide, by decide +kernel⟩, by decide, am_tb_at 917 (by decide +kernel) rfl, am_tb_at 918 (by decide +kernel) rfl, _, _, rfl⟩
def qnX8_reverse_0 : CUT := fun pc => cond (Nat.beq pc 35) (some [true, true, true, true]) (none)
def qiX8_reverse_0 (c : Int) (F0 : FF) (A0 : AA) : REC := fun pc ls st F A u => cond (Nat.beq pc 35) (match ls, st, u with
    | [some (.inr (.inr s0)), some (.inl s1), some (.inl n), some (.inl t)], [], 0 => s0 = 0 ∧ s1 = c ∧ ((0 ≤ c ∧ c < A0 2 0) ∧ (n = A0 2 (18 + c) - 1) ∧ (0 ≤ t ∧ t ≤ n - t + 1) ∧ F = kF F0 ∧ (∀ b i, b ≠ 2 → A b i = kA F0 A0 b i) ∧ ∀ i, 0 ≤ i → i < 140 → A 2 i = swR (A0 2) c t n i)
    | _, _, _ => False) (False)
def quX8_reverse_0 : Nat → LVs → List AV → FF → AA → Nat := fun pc ls _ F A => cond (Nat.beq pc 35) (match ls with
    | [some (.inr (.inr s0)), some (.inl s1), some (.inl n), some (.inl t)] => Int.toNat (9 - t)
    | _ => 0) (0)
set_option maxRecDepth 20000 in
theorem qvX8_reverse_0_0 (c : Int) (F0 : FF) (A0 : AA) (K : KK) (h : (fgOK (A0 2) ∧ hsOK F0 ∧ (-2147483648 ≤ c ∧ c < 2147483648)) ∧ (∀ (G_1 : FF) (B_1 : AA), (chQ ((0 ≤ c ∧ c < A0 2 0)) F0 G_1 A0 B_1 (revR (A0 2) c)) → (K (some (some (vI (if (0 ≤ c ∧ c < A0 2 0) then A0 2 (18 + c) - 1 else -1)))) G_1 B_1))) : am_stp qxX8_reverse (am_run qxX8_reverse qnX8_reverse_0 (qiX8_reverse_0 c F0 A0) K 20) K 0 (am_ent [vR 0, vI c] 4) [] F0 A0 0 := by
  show am_stp qxX8_reverse (am_run qxX8_reverse qnX8_reverse_0 (qiX8_reverse_0 c F0 A0) K 20) K 0 [some (vR 0), some (vI c), none, none] [] F0 A0 0
  obtain ⟨hp, h⟩ := h
  have p1 := hp.1
  have ph := hp.2.1
  have q1 := p1.1.1
  have q2 := p1.1.2
  obtain ⟨ph1, ph2⟩ := ph
  have hcv : (0 ≤ w32 c ∧ w32 c < w32 (fat (A0 2) 0)) ↔ (0 ≤ c ∧ c < A0 2 0) := by rw [w32_id (x := c) (by omega) (by omega), fat_in (by omega) (by omega), w32_id (x := A0 2 0) (by omega) (by omega)]
  show (w32 (bi (0 ≤ w32 c ∧ w32 c < w32 (fat (A0 2) 0))) = w32 0 → (K (some (some (vI (-1)))) F0 A0)) ∧ (¬ (w32 (bi (0 ≤ w32 c ∧ w32 c < w32 (fat (A0 2) 0))) = w32 0) → ((0 ≤ (F0 5 1) ∧ (F0 5 1) ≤ 9 ∧ 0 ≤ (F0 5 2) ∧ (F0 5 2) ≤ 10) ∧ (∀ (G_1 : FF), (G_1 = upF (upF F0 5 1 (if (F0 5 2) = 10 then ((F0 5 1) + 1) % 10 else (F0 5 1))) 5 2 (if (F0 5 2) = 10 then 10 else (F0 5 2) + 1)) → (0 = 0 ∧ c = c ∧ ((0 ≤ c ∧ c < A0 2 0) ∧ ((fat ((setR A0 6 ((if (F0 5 2) = 10 then ((F0 5 1) + 1) % 10 + 9 else (F0 5 1) + (F0 5 2)) % 10 * 140) 140 (A0 2)) 2) (18 + c) - 1) = A0 2 (18 + c) - 1) ∧ (0 ≤ 0 ∧ 0 ≤ (fat ((setR A0 6 ((if (F0 5 2) = 10 then ((F0 5 1) + 1) % 10 + 9 else (F0 5 1) + (F0 5 2)) % 10 * 140) 140 (A0 2)) 2) (18 + c) - 1) - 0 + 1) ∧ G_1 = kF F0 ∧ (∀ b i, b ≠ 2 → (setR A0 6 ((if (F0 5 2) = 10 then ((F0 5 1) + 1) % 10 + 9 else (F0 5 1) + (F0 5 2)) % 10 * 140) 140 (A0 2)) b i = kA F0 A0 b i) ∧ ∀ i, 0 ≤ i → i < 140 → (setR A0 6 ((if (F0 5 2) = 10 then ((F0 5 1) + 1) % 10 + 9 else (F0 5 1) + (F0 5 2)) % 10 * 140) 140 (A0 2)) 2 i = swR (A0 2) c 0 (fat ((setR A0 6 ((if (F0 5 2) = 10 then ((F0 5 1) + 1) % 10 + 9 else (F0 5 1) + (F0 5 2)) % 10 * 140) 140 (A0 2)) 2) (18 + c) - 1) i)))))
  refine ⟨fun c1 => ?_, fun c1 => ?_⟩
  · skip
    (try simp only [w32_0, wbi0, Classical.not_not] at c1); (try rw [hcv] at c1); (try rw [hpt] at c1); (try (have q3 := (p1.2.2.1 c (by omega) (by omega)).1; simp (disch := omega) only [fat_in, w32_id] at c1)); (try simp (disch := omega) only [w32_0, wbi0, Classical.not_not, w32_id] at c1)
    exact K_eq (h _ _ ⟨fun z => absurd z (by omega), fun _ => ⟨rfl, rfl⟩⟩) (if_neg (by omega))
  · skip
    (try simp only [w32_0, wbi0, Classical.not_not] at c1); (try rw [hcv] at c1); (try rw [hpt] at c1); (try (have q3 := (p1.2.2.1 c (by omega) (by omega)).1; simp (disch := omega) only [fat_in, w32_id] at c1)); (try simp (disch := omega) only [w32_0, wbi0, Classical.not_not, w32_id] at c1)
    refine ⟨by first | exact ⟨ph1.1, ph1.2, ph2.1, ph2.2⟩ | omega, ?_⟩
    intro G_1 g1
    have gk : G_1 = kF F0 := g1
    have ek : setR A0 6 ((if F0 5 2 = 10 then (F0 5 1 + 1) % 10 + 9 else F0 5 1 + F0 5 2) % 10 * 140) 140 (A0 2) = kA F0 A0 := rfl
    rw [ek]
    have q3 := (p1.2.2.1 c (by omega) (by omega)).1
    refine ⟨rfl, rfl, ?_⟩
    have q3 := (p1.2.2.1 c (by omega) (by omega)).1
    rw [kA_2]
    simp (disch := omega) only [fat_in]
    refine ⟨⟨by omega, by omega⟩, by trivial, by omega, gk, fun b i hb => by trivial, fun i i0 i1 => ?_⟩
    rw [swR_out (by omega)]
set_option maxRecDepth 20000 in
theorem qvX8_reverse_0_35 (c : Int) (F0 : FF) (A0 : AA) (K : KK) (h : (fgOK (A0 2) ∧ hsOK F0 ∧ (-2147483648 ≤ c ∧ c < 2147483648)) ∧ (∀ (G_1 : FF) (B_1 : AA), (chQ ((0 ≤ c ∧ c < A0 2 0)) F0 G_1 A0 B_1 (revR (A0 2) c)) → (K (some (some (vI (if (0 ≤ c ∧ c < A0 2 0) then A0 2 (18 + c) - 1 else -1)))) G_1 B_1))) (n : Int) (t : Int) (F : FF) (A : AA) (hi : (0 ≤ c ∧ c < A0 2 0) ∧ (n = A0 2 (18 + c) - 1) ∧ (0 ≤ t ∧ t ≤ n - t + 1) ∧ F = kF F0 ∧ (∀ b i, b ≠ 2 → A b i = kA F0 A0 b i) ∧ ∀ i, 0 ≤ i → i < 140 → A 2 i = swR (A0 2) c t n i) : am_stp qxX8_reverse (am_run qxX8_reverse qnX8_reverse_0 (fun pc ls st F A u => qiX8_reverse_0 c F0 A0 pc ls st F A u ∧ quX8_reverse_0 pc ls st F A < quX8_reverse_0 35 [some (vR 0), some (vI c), some (vI n), some (vI t)] [] F A) K 20) K 35 [some (vR 0), some (vI c), some (vI n), some (vI t)] [] F A 0 := by
  obtain ⟨hp, h⟩ := h
  have p1 := hp.1
  have ph := hp.2.1
  have q1 := p1.1.1
  have q2 := p1.1.2
  obtain ⟨ph1, ph2⟩ := ph
  have hcv : (0 ≤ w32 c ∧ w32 c < w32 (fat (A0 2) 0)) ↔ (0 ≤ c ∧ c < A0 2 0) := by rw [w32_id (x := c) (by omega) (by omega), fat_in (by omega) (by omega), w32_id (x := A0 2 0) (by omega) (by omega)]
  obtain ⟨h1, h2, h3, hF, hA, hR⟩ := hi
  have q3 := (p1.2.2.1 c h1.1 h1.2).1
  show (w32 t < w32 (n - t) → ((0 = 0 ∧ c = c ∧ ((0 ≤ c ∧ c < A0 2 0) ∧ (n = A0 2 (18 + c) - 1) ∧ (0 ≤ (t + 1) ∧ (t + 1) ≤ n - (t + 1) + 1) ∧ F = kF F0 ∧ (∀ b i, b ≠ 2 → (swP A 2 c t (n - t)) b i = kA F0 A0 b i) ∧ ∀ i, 0 ≤ i → i < 140 → (swP A 2 c t (n - t)) 2 i = swR (A0 2) c (t + 1) n i)) ∧ (Int.toNat (9 - (t + 1))) < (Int.toNat (9 - t)))) ∧ (¬ w32 t < w32 (n - t) → (K (some (some (vI n))) F A))
  refine ⟨fun c1 => ?_, fun c1 => ?_⟩
  · skip
    (try simp (disch := omega) only [w32_0, w32_id] at c1)
    refine ⟨⟨rfl, rfl, ?_⟩, by omega⟩
    refine ⟨h1, h2, by omega, hF, fun b i hb => by rw [swP_r hb]; exact hA b i hb, ?_⟩
    rw [swP_2 (by omega) (by omega) (by omega) (by omega) (by omega) (by omega)]
    exact swR_s (by omega) (by omega) (by omega) (by omega) (by omega) hR
  · skip
    (try simp (disch := omega) only [w32_0, w32_id] at c1)
    refine K_eq (h _ _ ⟨fun _ => ⟨hF, hA, revR_e h1.1 h3.1 c1 h2 hR⟩, fun z => absurd h1 z⟩) ?_
    rw [if_pos h1]; exact h2.symm
set_option maxRecDepth 20000 in
theorem qvX8_reverse_0 (c : Int) (F0 : FF) (A0 : AA) (K : KK) (h : (fgOK (A0 2) ∧ hsOK F0 ∧ (-2147483648 ≤ c ∧ c < 2147483648)) ∧ (∀ (G_1 : FF) (B_1 : AA), (chQ ((0 ≤ c ∧ c < A0 2 0)) F0 G_1 A0 B_1 (revR (A0 2) c)) → (K (some (some (vI (if (0 ≤ c ∧ c < A0 2 0) then A0 2 (18 + c) - 1 else -1)))) G_1 B_1))) : am_body qxX8_reverse qnX8_reverse_0 20 (qiX8_reverse_0 c F0 A0) quX8_reverse_0 [vR 0, vI c] 4 F0 A0 K := by
  refine ⟨qvX8_reverse_0_0 c F0 A0 K h, fun pc ls st F A u hI => ?_⟩
  unfold qiX8_reverse_0 at hI
  replace hI := am_cond2 hI
  rcases hI with ⟨hb, hI⟩ | hI
  · have hb := am_bq hb
    subst hb
    split at hI
    · rename_i s0 s1 n t
      obtain ⟨e0, e1, hI⟩ := hI
      subst e0
      subst e1
      exact qvX8_reverse_0_35 _ _ _ K h _ _ _ _ hI
    · exact hI.elim
  exact hI.elim
theorem qtX8_reverse (l : Launch) : am_CT l layX qeX8_reverse := am_met0 rfl (by decide +kernel) rfl rfl rfl rfl rfl (fun _ => rfl) rfl (qzX8_reverse l) (fun k e1 h => (qyX8_reverse l k e1 h).2) (fun as F A K h => by
  replace h : qsX8_reverse as F A K := h
  unfold qsX8_reverse at h
  split at h
  · rename_i o c
    refine ⟨by first | exact Nat.le_of_ble_eq_true rfl | simp [am_fl, am_cat], ?_⟩
    replace h := am_cond2 h
    rcases h with ⟨hb, h⟩ | h
    · skip
      have hb0 := hb
      have hb0 := am_bq hb0
      subst hb0
      exact am_way_body (qvX8_reverse_0 c F A K h)
    exact h.elim
  · exact h.elim)
