def qkX8_setLine : Nat → Option CI := fun pc => cond (Nat.ble 108 pc) none (cond (Nat.ble 52 pc) (cond (Nat.ble 76 pc) (cond (Nat.ble 90 pc) (cond (Nat.ble 99 pc) (cond (Nat.ble 105 pc) (cond (Nat.beq pc 105) (some (.iload 5, 107, [])) (cond (Nat.beq pc 107) (some (.ireturn, 108, [])) (none))) (cond (Nat.beq pc 99) (some (.iinc 6 1, 102, [])) (cond (Nat.beq pc 102) (some (.goto (-28), 105, [74])) (none)))) (cond (Nat.beq pc 90) (some (.invokevirtual 205, 93, [])) (cond (Nat.beq pc 93) (some (.ifCond .eq 6, 96, [99])) (cond (Nat.beq pc 96) (some (.iinc 5 1, 99, [])) (none))))) (cond (Nat.ble 83 pc) (cond (Nat.ble 87 pc) (cond (Nat.beq pc 87) (some (.iload 6, 89, [])) (cond (Nat.beq pc 89) (some (.iload_n 1, 90, [])) (none))) (cond (Nat.beq pc 83) (some (.if_icmp .ge 22, 86, [105])) (cond (Nat.beq pc 86) (some (.aload_n 0, 87, [])) (none)))) (cond (Nat.beq pc 76) (some (.aload_n 0, 77, [])) (cond (Nat.beq pc 77) (some (.getfield 10, 80, [])) (cond (Nat.beq pc 80) (some (.invokevirtual 100, 83, [])) (none)))))) (cond (Nat.ble 63 pc) (cond (Nat.ble 69 pc) (cond (Nat.ble 72 pc) (cond (Nat.beq pc 72) (some (.istore 6, 74, [])) (cond (Nat.beq pc 74) (some (.iload 6, 76, [])) (none))) (cond (Nat.beq pc 69) (some (.istore 5, 71, [])) (cond (Nat.beq pc 71) (some (.iconst 0, 72, [])) (none)))) (cond (Nat.beq pc 63) (some (.iload 4, 65, [])) (cond (Nat.beq pc 65) (some (.invokevirtual 339, 68, [])) (cond (Nat.beq pc 68) (some (.iconst 0, 69, [])) (none))))) (cond (Nat.ble 57 pc) (cond (Nat.ble 61 pc) (cond (Nat.beq pc 61) (some (.iload_n 1, 62, [])) (cond (Nat.beq pc 62) (some (.iconst 2, 63, [])) (none))) (cond (Nat.beq pc 57) (some (.aload_n 0, 58, [])) (cond (Nat.beq pc 58) (some (.getfield 10, 61, [])) (none)))) (cond (Nat.beq pc 52) (some (.iconst 1, 53, [])) (cond (Nat.beq pc 53) (some (.iload_n 3, 54, [])) (cond (Nat.beq pc 54) (some (.invokevirtual 339, 57, [])) (none))))))) (cond (Nat.ble 26 pc) (cond (Nat.ble 41 pc) (cond (Nat.ble 44 pc) (cond (Nat.ble 48 pc) (cond (Nat.beq pc 48) (some (.getfield 10, 51, [])) (cond (Nat.beq pc 51) (some (.iload_n 1, 52, [])) (none))) (cond (Nat.beq pc 44) (some (.invokevirtual 339, 47, [])) (cond (Nat.beq pc 47) (some (.aload_n 0, 48, [])) (none)))) (cond (Nat.beq pc 41) (some (.iload_n 1, 42, [])) (cond (Nat.beq pc 42) (some (.iconst 0, 43, [])) (cond (Nat.beq pc 43) (some (.iload_n 2, 44, [])) (none))))) (cond (Nat.ble 31 pc) (cond (Nat.ble 37 pc) (cond (Nat.beq pc 37) (some (.aload_n 0, 38, [])) (cond (Nat.beq pc 38) (some (.getfield 10, 41, [])) (none))) (cond (Nat.beq pc 31) (some (.getfield 10, 34, [])) (cond (Nat.beq pc 34) (some (.invokevirtual 313, 37, [])) (none)))) (cond (Nat.beq pc 26) (some (.aload_n 0, 27, [])) (cond (Nat.beq pc 27) (some (.getfield 22, 30, [])) (cond (Nat.beq pc 30) (some (.aload_n 0, 31, [])) (none)))))) (cond (Nat.ble 13 pc) (cond (Nat.ble 17 pc) (cond (Nat.ble 23 pc) (cond (Nat.beq pc 23) (some (.bipush (-2), 25, [])) (cond (Nat.beq pc 25) (some (.ireturn, 26, [])) (none))) (cond (Nat.beq pc 17) (some (.invokestatic 336, 20, [])) (cond (Nat.beq pc 20) (some (.ifCond .ne 6, 23, [26])) (none)))) (cond (Nat.beq pc 13) (some (.iload_n 2, 14, [])) (cond (Nat.beq pc 14) (some (.iload_n 3, 15, [])) (cond (Nat.beq pc 15) (some (.iload 4, 17, [])) (none))))) (cond (Nat.ble 5 pc) (cond (Nat.ble 11 pc) (cond (Nat.beq pc 11) (some (.iconst (-1), 12, [])) (cond (Nat.beq pc 12) (some (.ireturn, 13, [])) (none))) (cond (Nat.beq pc 5) (some (.invokevirtual 333, 8, [])) (cond (Nat.beq pc 8) (some (.ifCond .ne 5, 11, [13])) (none)))) (cond (Nat.beq pc 0) (some (.aload_n 0, 1, [])) (cond (Nat.beq pc 1) (some (.getfield 10, 4, [])) (cond (Nat.beq pc 4) (some (.iload_n 1, 5, [])) (none))))))))
theorem qkX8_setLine_ok : ∀ pc i nx ts, qkX8_setLine pc = some (i, nx, ts) → am_cok cX8_setLine pc (i, nx, ts) = true := fun pc i nx ts h => am_tok_ok (n := 108) (by decide +kernel) (fun pc h => by show cond (Nat.ble 108 pc) _ _ = _; rw [Nat.ble_eq_true_of_le h]; rfl) h
def qaX8_setLine : Nat → Option CE := fun k => cond (Nat.beq k 333) (some qeX2_hasLine) (cond (Nat.beq k 336) (some qeX8_isLine) (cond (Nat.beq k 313) (some qeX3_keep) (cond (Nat.beq k 339) (some qeX2_putLineValue) (cond (Nat.beq k 100) (some qeX2_curves) (cond (Nat.beq k 205) (some qeX8_liesOn) (none))))))
theorem qyX8_setLine (l : Launch) : ∀ k e1, qaX8_setLine k = some e1 → am_cal l layX RX8 9 k e1 ∧ ceT e1 = 0 := q_cons ⟨am_calV (ci := 2) (qtX2_hasLine l) qbX2_hasLine (by decide) rfl (am_tb_at 802 (by decide +kernel) rfl), rfl⟩ (q_cons ⟨am_calS (qtX8_isLine l) qbX8_isLine (by decide) rfl (by decide) (am_tb_at 806 (by decide +kernel) rfl), rfl⟩ (q_cons ⟨am_calV (ci := 3) (qtX3_keep l) qbX3_keep (by decide) rfl (am_tb_at 752 (by decide +kernel) rfl), rfl⟩ (q_cons ⟨am_calV (ci := 2) (qtX2_putLineValue l) qbX2_putLineValue (by decide) rfl (am_tb_at 809 (by decide +kernel) rfl), rfl⟩ (q_cons ⟨am_calV (ci := 2) (qtX2_curves l) qbX2_curves (by decide) rfl (am_tb_at 534 (by decide +kernel) rfl), rfl⟩ (q_cons ⟨am_calV (ci := 8) (qtX8_liesOn l) qbX8_liesOn (by decide) rfl (am_tb_at 810 (by decide +kernel) rfl), rfl⟩ (q_nil))))))
def qxX8_setLine : CX := (qkX8_setLine, layX, qfX8, qaX8_setLine, qcX8, qlX8, qmX8, (some .int), false, none, 0, none, fun _ => none)
theorem qzX8_setLine (l : Launch) : am_sta l qxX8_setLine RX8 9 cX8_setLine := ⟨qkX8_setLine_ok, layX_ok, qfX8_ok, qcX8_ok, qlX8_ok, am_mthP qmX8_ok (by decide), fun k e1 h => (qyX8_setLine l k e1 h).1⟩
def qsX8_setLine : SP := fun as F A K => match as with
  | [.inr (.inr o), .inl l, .inl a, .inl b, .inl c] => cond (Nat.beq o 0) ((fgOK (A 2) ∧ hsOK F ∧ (-2147483648 ≤ l ∧ l < 2147483648) ∧ (-2147483648 ≤ a ∧ a < 2147483648) ∧ (-2147483648 ≤ b ∧ b < 2147483648) ∧ (-2147483648 ≤ c ∧ c < 2147483648)) ∧ (∀ (G_1 : FF) (B_1 : AA), (((0 ≤ l ∧ l < A 2 1) ∧ ((-5 ≤ a ∧ a ≤ 5) ∧ (-5 ≤ b ∧ b ≤ 5) ∧ (-200 ≤ c ∧ c ≤ 200) ∧ ¬ (a = 0 ∧ b = 0)) → chR F G_1 A B_1 (lnR (A 2) l a b c)) ∧ (¬ ((0 ≤ l ∧ l < A 2 1) ∧ ((-5 ≤ a ∧ a ≤ 5) ∧ (-5 ≤ b ∧ b ≤ 5) ∧ (-200 ≤ c ∧ c ≤ 200) ∧ ¬ (a = 0 ∧ b = 0))) → ch0 F G_1 A B_1)) → (K (some (some (vI (if (0 ≤ l ∧ l < A 2 1) then (if (-5 ≤ a ∧ a ≤ 5) ∧ (-5 ≤ b ∧ b ≤ 5) ∧ (-200 ≤ c ∧ c ≤ 200) ∧ ¬ (a = 0 ∧ b = 0) then onF (lnR (A 2) l a b c) l (Int.toNat (A 2 0)) else -2) else -1)))) G_1 B_1))) (False)
  | _ => False
def qeX8_setLine : CE := (yX8_setLine, cX8_setLine, 7, (some .int), 4, some 8, 0, [], 0, 9, qsX8_setLine)
theorem qbX8_setLine : am_mb qeX8_setLine := ⟨am_tb_at 801 (by decide +kernel) rfl, am_tb_at 114 (by decide +kernel) rfl, ⟨by decide, by decide, by decide +kernel⟩, by decide, by decide, am_tb_at 799 (by decide +kernel) rfl, am_tb_at 800 (by decide +kernel) rfl, _, _, rfl⟩
def qnX8_setLine_0 : CUT := fun pc => cond (Nat.beq pc 74) (some [true, true, true, true, true, true, true]) (none)
def qiX8_setLine_0 (l : Int) (a : Int) (b : Int) (c : Int) (F0 : FF) (A0 : AA) : REC := fun pc ls st F A u => cond (Nat.beq pc 74) (match ls, st, u with
    | [some (.inr (.inr s0)), some (.inl s1), some (.inl s2), some (.inl s3), some (.inl s4), some (.inl n), some (.inl k)], [], 0 => s0 = 0 ∧ s1 = l ∧ s2 = a ∧ s3 = b ∧ s4 = c ∧ ((0 ≤ l ∧ l < A0 2 1) ∧ ((-5 ≤ a ∧ a ≤ 5) ∧ (-5 ≤ b ∧ b ≤ 5) ∧ (-200 ≤ c ∧ c ≤ 200) ∧ ¬ (a = 0 ∧ b = 0)) ∧ (0 ≤ k ∧ k ≤ A0 2 0) ∧ qrP (kF F0) F (fput (fput (fput (kA F0 A0) 2 (122 + l * 3 + 0) a) 2 (122 + l * 3 + 1) b) 2 (122 + l * 3 + 2) c) A ∧ n = onF (lnR (A0 2) l a b c) l (Int.toNat k))
    | _, _, _ => False) (False)
def quX8_setLine_0 : Nat → LVs → List AV → FF → AA → Nat := fun pc ls _ F A => cond (Nat.beq pc 74) (match ls with
    | [some (.inr (.inr s0)), some (.inl s1), some (.inl s2), some (.inl s3), some (.inl s4), some (.inl n), some (.inl k)] => Int.toNat (20 - k)
    | _ => 0) (0)
set_option maxRecDepth 20000 in
theorem qvX8_setLine_0_0 (l : Int) (a : Int) (b : Int) (c : Int) (F0 : FF) (A0 : AA) (K : KK) (h : (fgOK (A0 2) ∧ hsOK F0 ∧ (-2147483648 ≤ l ∧ l < 2147483648) ∧ (-2147483648 ≤ a ∧ a < 2147483648) ∧ (-2147483648 ≤ b ∧ b < 2147483648) ∧ (-2147483648 ≤ c ∧ c < 2147483648)) ∧ (∀ (G_1 : FF) (B_1 : AA), (((0 ≤ l ∧ l < A0 2 1) ∧ ((-5 ≤ a ∧ a ≤ 5) ∧ (-5 ≤ b ∧ b ≤ 5) ∧ (-200 ≤ c ∧ c ≤ 200) ∧ ¬ (a = 0 ∧ b = 0)) → chR F0 G_1 A0 B_1 (lnR (A0 2) l a b c)) ∧ (¬ ((0 ≤ l ∧ l < A0 2 1) ∧ ((-5 ≤ a ∧ a ≤ 5) ∧ (-5 ≤ b ∧ b ≤ 5) ∧ (-200 ≤ c ∧ c ≤ 200) ∧ ¬ (a = 0 ∧ b = 0))) → ch0 F0 G_1 A0 B_1)) → (K (some (some (vI (if (0 ≤ l ∧ l < A0 2 1) then (if (-5 ≤ a ∧ a ≤ 5) ∧ (-5 ≤ b ∧ b ≤ 5) ∧ (-200 ≤ c ∧ c ≤ 200) ∧ ¬ (a = 0 ∧ b = 0) then onF (lnR (A0 2) l a b c) l (Int.toNat (A0 2 0)) else -2) else -1)))) G_1 B_1))) : am_stp qxX8_setLine (am_run qxX8_setLine qnX8_setLine_0 (qiX8_setLine_0 l a b c F0 A0) K 40) K 0 (am_ent [vR 0, vI l, vI a, vI b, vI c] 7) [] F0 A0 0 := by
  show am_stp qxX8_setLine (am_run qxX8_setLine qnX8_setLine_0 (qiX8_setLine_0 l a b c F0 A0) K 40) K 0 [some (vR 0), some (vI l), some (vI a), some (vI b), some (vI c), none, none] [] F0 A0 0
  obtain ⟨hp, h⟩ := h
  have p1 := hp.1
  have ph := hp.2.1
  have q1 := p1.1.1
  have q2 := p1.1.2
  obtain ⟨ph1, ph2⟩ := ph
  have hcv : (0 ≤ w32 l ∧ w32 l < w32 (fat (A0 2) 1)) ↔ (0 ≤ l ∧ l < A0 2 1) := by rw [w32_id (x := l) (by omega) (by omega), fat_in (by omega) (by omega), w32_id (x := A0 2 1) (by omega) (by omega)]
  show (w32 (bi (0 ≤ w32 l ∧ w32 l < w32 (fat (A0 2) 1))) = w32 0 → (K (some (some (vI (-1)))) F0 A0)) ∧ (¬ (w32 (bi (0 ≤ w32 l ∧ w32 l < w32 (fat (A0 2) 1))) = w32 0) → ((w32 (bi (-5 ≤ w32 a ∧ w32 a ≤ 5 ∧ -5 ≤ w32 b ∧ w32 b ≤ 5 ∧ -200 ≤ w32 c ∧ w32 c ≤ 200 ∧ (w32 a ≠ 0 ∨ w32 b ≠ 0))) = w32 0 → (K (some (some (vI (-2)))) F0 A0)) ∧ (¬ (w32 (bi (-5 ≤ w32 a ∧ w32 a ≤ 5 ∧ -5 ≤ w32 b ∧ w32 b ≤ 5 ∧ -200 ≤ w32 c ∧ w32 c ≤ 200 ∧ (w32 a ≠ 0 ∨ w32 b ≠ 0))) = w32 0) → ((0 ≤ (F0 5 1) ∧ (F0 5 1) ≤ 9 ∧ 0 ≤ (F0 5 2) ∧ (F0 5 2) ≤ 10) ∧ (∀ (G_1 : FF), (G_1 = upF (upF F0 5 1 (if (F0 5 2) = 10 then ((F0 5 1) + 1) % 10 else (F0 5 1))) 5 2 (if (F0 5 2) = 10 then 10 else (F0 5 2) + 1)) → (0 = 0 ∧ l = l ∧ a = a ∧ b = b ∧ c = c ∧ ((0 ≤ l ∧ l < A0 2 1) ∧ ((-5 ≤ a ∧ a ≤ 5) ∧ (-5 ≤ b ∧ b ≤ 5) ∧ (-200 ≤ c ∧ c ≤ 200) ∧ ¬ (a = 0 ∧ b = 0)) ∧ (0 ≤ 0 ∧ 0 ≤ A0 2 0) ∧ qrP (kF F0) G_1 (fput (fput (fput (kA F0 A0) 2 (122 + l * 3 + 0) a) 2 (122 + l * 3 + 1) b) 2 (122 + l * 3 + 2) c) (fput (fput (fput (setR A0 6 ((if (F0 5 2) = 10 then ((F0 5 1) + 1) % 10 + 9 else (F0 5 1) + (F0 5 2)) % 10 * 140) 140 (A0 2)) 2 (122 + l * 3 + 0) a) 2 (122 + l * 3 + 1) b) 2 (122 + l * 3 + 2) c) ∧ 0 = onF (lnR (A0 2) l a b c) l (Int.toNat 0))))))))
  refine ⟨fun c1 => ?_, fun c1 => ?_⟩
  · skip
    (try simp only [w32_0, wbi0, Classical.not_not] at c1); (try rw [hcv] at c1); (try simp (disch := omega) only [w32_0, wbi0, Classical.not_not, w32_id] at c1)
    first
    | exact K_eq (h _ _ ⟨fun z => absurd z (by omega), fun _ => ⟨rfl, rfl⟩⟩) (if_neg (by omega))
    | (exact K_eq (h _ _ ⟨fun z => absurd z (by omega), fun _ => ⟨rfl, rfl⟩⟩) (by rw [if_pos (by omega), if_neg (by omega)]))
  · skip
    (try simp only [w32_0, wbi0, Classical.not_not] at c1); (try rw [hcv] at c1); (try simp (disch := omega) only [w32_0, wbi0, Classical.not_not, w32_id] at c1)
    refine ⟨fun c2 => ?_, fun c2 => ?_⟩
    · skip
      (try simp only [w32_0, wbi0, Classical.not_not] at c2); (try rw [hcv] at c2); (try simp (disch := omega) only [w32_0, wbi0, Classical.not_not, w32_id] at c2)
      first
      | exact K_eq (h _ _ ⟨fun z => absurd z (by omega), fun _ => ⟨rfl, rfl⟩⟩) (if_neg (by omega))
      | (exact K_eq (h _ _ ⟨fun z => absurd z (by omega), fun _ => ⟨rfl, rfl⟩⟩) (by rw [if_pos (by omega), if_neg (by omega)]))
    · skip
      (try simp only [w32_0, wbi0, Classical.not_not] at c2); (try rw [hcv] at c2); (try simp (disch := omega) only [w32_0, wbi0, Classical.not_not, w32_id] at c2)
      refine ⟨by first | exact ⟨ph1.1, ph1.2, ph2.1, ph2.2⟩ | omega, ?_⟩
      intro G_1 g1
      have gk : G_1 = kF F0 := g1
      have ek : setR A0 6 ((if F0 5 2 = 10 then (F0 5 1 + 1) % 10 + 9 else F0 5 1 + F0 5 2) % 10 * 140) 140 (A0 2) = kA F0 A0 := rfl
      rw [ek]
      refine ⟨rfl, rfl, rfl, rfl, rfl, ?_⟩
      exact ⟨by omega, by omega, by omega, by rw [gk]; exact qrP_id, rfl⟩
set_option maxRecDepth 20000 in
theorem qvX8_setLine_0_74 (l : Int) (a : Int) (b : Int) (c : Int) (F0 : FF) (A0 : AA) (K : KK) (h : (fgOK (A0 2) ∧ hsOK F0 ∧ (-2147483648 ≤ l ∧ l < 2147483648) ∧ (-2147483648 ≤ a ∧ a < 2147483648) ∧ (-2147483648 ≤ b ∧ b < 2147483648) ∧ (-2147483648 ≤ c ∧ c < 2147483648)) ∧ (∀ (G_1 : FF) (B_1 : AA), (((0 ≤ l ∧ l < A0 2 1) ∧ ((-5 ≤ a ∧ a ≤ 5) ∧ (-5 ≤ b ∧ b ≤ 5) ∧ (-200 ≤ c ∧ c ≤ 200) ∧ ¬ (a = 0 ∧ b = 0)) → chR F0 G_1 A0 B_1 (lnR (A0 2) l a b c)) ∧ (¬ ((0 ≤ l ∧ l < A0 2 1) ∧ ((-5 ≤ a ∧ a ≤ 5) ∧ (-5 ≤ b ∧ b ≤ 5) ∧ (-200 ≤ c ∧ c ≤ 200) ∧ ¬ (a = 0 ∧ b = 0))) → ch0 F0 G_1 A0 B_1)) → (K (some (some (vI (if (0 ≤ l ∧ l < A0 2 1) then (if (-5 ≤ a ∧ a ≤ 5) ∧ (-5 ≤ b ∧ b ≤ 5) ∧ (-200 ≤ c ∧ c ≤ 200) ∧ ¬ (a = 0 ∧ b = 0) then onF (lnR (A0 2) l a b c) l (Int.toNat (A0 2 0)) else -2) else -1)))) G_1 B_1))) (n : Int) (k : Int) (F : FF) (A : AA) (hi : (0 ≤ l ∧ l < A0 2 1) ∧ ((-5 ≤ a ∧ a ≤ 5) ∧ (-5 ≤ b ∧ b ≤ 5) ∧ (-200 ≤ c ∧ c ≤ 200) ∧ ¬ (a = 0 ∧ b = 0)) ∧ (0 ≤ k ∧ k ≤ A0 2 0) ∧ qrP (kF F0) F (fput (fput (fput (kA F0 A0) 2 (122 + l * 3 + 0) a) 2 (122 + l * 3 + 1) b) 2 (122 + l * 3 + 2) c) A ∧ n = onF (lnR (A0 2) l a b c) l (Int.toNat k)) : am_stp qxX8_setLine (am_run qxX8_setLine qnX8_setLine_0 (fun pc ls st F A u => qiX8_setLine_0 l a b c F0 A0 pc ls st F A u ∧ quX8_setLine_0 pc ls st F A < quX8_setLine_0 74 [some (vR 0), some (vI l), some (vI a), some (vI b), some (vI c), some (vI n), some (vI k)] [] F A) K 40) K 74 [some (vR 0), some (vI l), some (vI a), some (vI b), some (vI c), some (vI n), some (vI k)] [] F A 0 := by
  obtain ⟨hp, h⟩ := h
  have p1 := hp.1
  have ph := hp.2.1
  have q1 := p1.1.1
  have q2 := p1.1.2
  obtain ⟨ph1, ph2⟩ := ph
  have hcv : (0 ≤ w32 l ∧ w32 l < w32 (fat (A0 2) 1)) ↔ (0 ≤ l ∧ l < A0 2 1) := by rw [w32_id (x := l) (by omega) (by omega), fat_in (by omega) (by omega), w32_id (x := A0 2 1) (by omega) (by omega)]
  obtain ⟨h1, h2, h3, hQ, h4⟩ := hi
  have e2 : A 2 = (lnR (A0 2) l a b c) := by
    have z : A 2 = (fput (fput (fput (kA F0 A0) 2 (122 + l * 3 + 0) a) 2 (122 + l * 3 + 1) b) 2 (122 + l * 3 + 2) c) 2 := funext fun i => hQ.2.1 2 i (by omega)
    rw [z, lnR_2 (by omega) (by omega), kA_2]
  have hfg := lnR_fg p1 h1.1 h1.2 h2.1 h2.2.1 h2.2.2.1
  have l0 : (lnR (A0 2) l a b c) 0 = A0 2 0 := by unfold lnR; rw [if_neg (by omega), if_neg (by omega), if_neg (by omega)]
  have l1 : (lnR (A0 2) l a b c) 1 = A0 2 1 := by unfold lnR; rw [if_neg (by omega), if_neg (by omega), if_neg (by omega)]
  have nb := onF_b (lnR (A0 2) l a b c) l (Int.toNat k)
  show (w32 k < w32 (fat (A 2) 0) → ((fgOK (A 2) ∧ (0 ≤ k ∧ k < A 2 0) ∧ (0 ≤ l ∧ l < A 2 1)) ∧ (∀ (G_1 : FF) (B_1 : AA), (qrP F G_1 A B_1) → ((w32 (bi (azP (cfL (A 2) k l) (Int.toNat (A 2 (18 + k))))) = w32 0 → ((0 = 0 ∧ l = l ∧ a = a ∧ b = b ∧ c = c ∧ ((0 ≤ l ∧ l < A0 2 1) ∧ ((-5 ≤ a ∧ a ≤ 5) ∧ (-5 ≤ b ∧ b ≤ 5) ∧ (-200 ≤ c ∧ c ≤ 200) ∧ ¬ (a = 0 ∧ b = 0)) ∧ (0 ≤ (k + 1) ∧ (k + 1) ≤ A0 2 0) ∧ qrP (kF F0) G_1 (fput (fput (fput (kA F0 A0) 2 (122 + l * 3 + 0) a) 2 (122 + l * 3 + 1) b) 2 (122 + l * 3 + 2) c) B_1 ∧ n = onF (lnR (A0 2) l a b c) l (Int.toNat (k + 1)))) ∧ (Int.toNat (20 - (k + 1))) < (Int.toNat (20 - k)))) ∧ (¬ w32 (bi (azP (cfL (A 2) k l) (Int.toNat (A 2 (18 + k))))) = w32 0 → ((0 = 0 ∧ l = l ∧ a = a ∧ b = b ∧ c = c ∧ ((0 ≤ l ∧ l < A0 2 1) ∧ ((-5 ≤ a ∧ a ≤ 5) ∧ (-5 ≤ b ∧ b ≤ 5) ∧ (-200 ≤ c ∧ c ≤ 200) ∧ ¬ (a = 0 ∧ b = 0)) ∧ (0 ≤ (k + 1) ∧ (k + 1) ≤ A0 2 0) ∧ qrP (kF F0) G_1 (fput (fput (fput (kA F0 A0) 2 (122 + l * 3 + 0) a) 2 (122 + l * 3 + 1) b) 2 (122 + l * 3 + 2) c) B_1 ∧ (n + 1) = onF (lnR (A0 2) l a b c) l (Int.toNat (k + 1)))) ∧ (Int.toNat (20 - (k + 1))) < (Int.toNat (20 - k)))))))) ∧ (¬ w32 k < w32 (fat (A 2) 0) → (K (some (some (vI n))) F A))
  refine ⟨fun c1 => ?_, fun c1 => ?_⟩
  · skip
    (try rw [e2] at c1); (try simp (disch := omega) only [fat_in, w32_0, wbi0, Classical.not_not, w32_id] at c1); (try (rw [l0] at c1; simp (disch := omega) only [w32_id] at c1))
    refine ⟨by (rw [e2]; exact ⟨hfg, by rw [l0]; omega, by rw [l1]; exact h1⟩), ?_⟩
    intro G_1 B_1 g1
    rw [e2]
    refine ⟨fun c2 => ?_, fun c2 => ?_⟩
    · skip
      (try rw [e2] at c2); (try simp (disch := omega) only [fat_in, w32_0, wbi0, Classical.not_not, w32_id] at c2); (try (rw [l0] at c2; simp (disch := omega) only [w32_id] at c2))
      refine ⟨⟨rfl, rfl, rfl, rfl, rfl, ?_⟩, by omega⟩
      refine ⟨h1, h2, by omega, qrP_trans hQ g1, ?_⟩
      rw [h4]; unfold onF; rw [sumI_s h3.1, bi_f c2, Int.add_zero]
    · skip
      (try rw [e2] at c2); (try simp (disch := omega) only [fat_in, w32_0, wbi0, Classical.not_not, w32_id] at c2); (try (rw [l0] at c2; simp (disch := omega) only [w32_id] at c2))
      refine ⟨⟨rfl, rfl, rfl, rfl, rfl, ?_⟩, by omega⟩
      refine ⟨h1, h2, by omega, qrP_trans hQ g1, ?_⟩
      rw [h4]; unfold onF; rw [sumI_s h3.1, bi_t c2]
  · skip
    (try rw [e2] at c1); (try simp (disch := omega) only [fat_in, w32_0, wbi0, Classical.not_not, w32_id] at c1); (try (rw [l0] at c1; simp (disch := omega) only [w32_id] at c1))
    refine K_eq (h _ _ ⟨fun _ => ⟨hQ.1, fun b i hb => ?_, fun i i0 i1 => by rw [e2], fun z => hQ.2.2.1 (caAll_fp (caAll_fp (caAll_fp (caAll_k z)))), fun z => hQ.2.2.2 (r20_c (fput_r (by decide)) (r20_c (fput_r (by decide)) (r20_c (fput_r (by decide)) (r20_c (setR_r (by decide)) z))))⟩, fun z => absurd ⟨h1, h2⟩ z⟩) ?_
    · rw [hQ.2.1 b i hb.2, fput_r hb.1, fput_r hb.1, fput_r hb.1]
    · rw [if_pos h1, if_pos h2, h4, show k = A0 2 0 by omega]
set_option maxRecDepth 20000 in
theorem qvX8_setLine_0 (l : Int) (a : Int) (b : Int) (c : Int) (F0 : FF) (A0 : AA) (K : KK) (h : (fgOK (A0 2) ∧ hsOK F0 ∧ (-2147483648 ≤ l ∧ l < 2147483648) ∧ (-2147483648 ≤ a ∧ a < 2147483648) ∧ (-2147483648 ≤ b ∧ b < 2147483648) ∧ (-2147483648 ≤ c ∧ c < 2147483648)) ∧ (∀ (G_1 : FF) (B_1 : AA), (((0 ≤ l ∧ l < A0 2 1) ∧ ((-5 ≤ a ∧ a ≤ 5) ∧ (-5 ≤ b ∧ b ≤ 5) ∧ (-200 ≤ c ∧ c ≤ 200) ∧ ¬ (a = 0 ∧ b = 0)) → chR F0 G_1 A0 B_1 (lnR (A0 2) l a b c)) ∧ (¬ ((0 ≤ l ∧ l < A0 2 1) ∧ ((-5 ≤ a ∧ a ≤ 5) ∧ (-5 ≤ b ∧ b ≤ 5) ∧ (-200 ≤ c ∧ c ≤ 200) ∧ ¬ (a = 0 ∧ b = 0))) → ch0 F0 G_1 A0 B_1)) → (K (some (some (vI (if (0 ≤ l ∧ l < A0 2 1) then (if (-5 ≤ a ∧ a ≤ 5) ∧ (-5 ≤ b ∧ b ≤ 5) ∧ (-200 ≤ c ∧ c ≤ 200) ∧ ¬ (a = 0 ∧ b = 0) then onF (lnR (A0 2) l a b c) l (Int.toNat (A0 2 0)) else -2) else -1)))) G_1 B_1))) : am_body qxX8_setLine qnX8_setLine_0 40 (qiX8_setLine_0 l a b c F0 A0) quX8_setLine_0 [vR 0, vI l, vI a, vI b, vI c] 7 F0 A0 K := by
  refine ⟨qvX8_setLine_0_0 l a b c F0 A0 K h, fun pc ls st F A u hI => ?_⟩
  unfold qiX8_setLine_0 at hI
  replace hI := am_cond2 hI
  rcases hI with ⟨hb, hI⟩ | hI
  · have hb := am_bq hb
    subst hb
    split at hI
    · rename_i s0 s1 s2 s3 s4 n k
      obtain ⟨e0, e1, e2, e3, e4, hI⟩ := hI
      subst e0
      subst e1
      subst e2
      subst e3
      subst e4
      exact qvX8_setLine_0_74 _ _ _ _ _ _ K h _ _ _ _ hI
    · exact hI.elim
  exact hI.elim
theorem qtX8_setLine (l : Launch) : am_CT l layX qeX8_setLine := am_met0 rfl (by decide +kernel) rfl rfl rfl rfl rfl (fun _ => rfl) rfl (qzX8_setLine l) (fun k e1 h => (qyX8_setLine l k e1 h).2) (fun as F A K h => by
  replace h : qsX8_setLine as F A K := h
  unfold qsX8_setLine at h
  split at h
  · rename_i o l a b c
    refine ⟨by first | exact Nat.le_of_ble_eq_true rfl | simp [am_fl, am_cat], ?_⟩
    replace h := am_cond2 h
    rcases h with ⟨hb, h⟩ | h
    · skip
      have hb0 := hb
      have hb0 := am_bq hb0
      subst hb0
      exact am_way_body (qvX8_setLine_0 l a b c F A K h)
    exact h.elim
  · exact h.elim)
def qkX8_rootsIfMoved : Nat → Option CI := fun pc => cond (Nat.ble 113 pc) none (cond (Nat.ble 54 pc) (cond (Nat.ble 80 pc) (cond (Nat.ble 95 pc) (cond (Nat.ble 105 pc) (cond (Nat.ble 109 pc) (cond (Nat.beq pc 109) (some (.invokevirtual 219, 112, [])) (cond (Nat.beq pc 112) (some (.ireturn, 113, [])) (none))) (cond (Nat.beq pc 105) (some (.aload_n 0, 106, [])) (cond (Nat.beq pc 106) (some (.getfield 43, 109, [])) (none)))) (cond (Nat.ble 101 pc) (cond (Nat.beq pc 101) (some (.iconst (-1), 102, [])) (cond (Nat.beq pc 102) (some (.goto 10, 105, [112])) (none))) (cond (Nat.beq pc 95) (some (.invokevirtual 208, 98, [])) (cond (Nat.beq pc 98) (some (.ifCond .eq 7, 101, [105])) (none))))) (cond (Nat.ble 85 pc) (cond (Nat.ble 91 pc) (cond (Nat.beq pc 91) (some (.aload_n 0, 92, [])) (cond (Nat.beq pc 92) (some (.getfield 43, 95, [])) (none))) (cond (Nat.beq pc 85) (some (.invokevirtual 120, 88, [])) (cond (Nat.beq pc 88) (some (.invokevirtual 220, 91, [])) (none)))) (cond (Nat.beq pc 80) (some (.aload_n 0, 81, [])) (cond (Nat.beq pc 81) (some (.getfield 10, 84, [])) (cond (Nat.beq pc 84) (some (.iconst 0, 85, [])) (none)))))) (cond (Nat.ble 66 pc) (cond (Nat.ble 72 pc) (cond (Nat.ble 76 pc) (cond (Nat.beq pc 76) (some (.aload_n 0, 77, [])) (cond (Nat.beq pc 77) (some (.getfield 43, 80, [])) (none))) (cond (Nat.beq pc 72) (some (.i2l, 73, [])) (cond (Nat.beq pc 73) (some (.invokevirtual 250, 76, [])) (none)))) (cond (Nat.beq pc 66) (some (.iload 5, 68, [])) (cond (Nat.beq pc 68) (some (.invokevirtual 247, 71, [])) (cond (Nat.beq pc 71) (some (.imul, 72, [])) (none))))) (cond (Nat.ble 59 pc) (cond (Nat.ble 63 pc) (cond (Nat.beq pc 63) (some (.iload_n 2, 64, [])) (cond (Nat.beq pc 64) (some (.iload 4, 66, [])) (none))) (cond (Nat.beq pc 59) (some (.aload_n 0, 60, [])) (cond (Nat.beq pc 60) (some (.getfield 10, 63, [])) (none)))) (cond (Nat.beq pc 54) (some (.iload_n 3, 55, [])) (cond (Nat.beq pc 55) (some (.iconst 2, 56, [])) (cond (Nat.beq pc 56) (some (.invokevirtual 137, 59, [])) (none))))))) (cond (Nat.ble 28 pc) (cond (Nat.ble 40 pc) (cond (Nat.ble 48 pc) (cond (Nat.ble 50 pc) (cond (Nat.beq pc 50) (some (.getfield 10, 53, [])) (cond (Nat.beq pc 53) (some (.iload_n 1, 54, [])) (none))) (cond (Nat.beq pc 48) (some (.iload_n 3, 49, [])) (cond (Nat.beq pc 49) (some (.aload_n 0, 50, [])) (none)))) (cond (Nat.ble 44 pc) (cond (Nat.beq pc 44) (some (.aload_n 0, 45, [])) (cond (Nat.beq pc 45) (some (.getfield 43, 48, [])) (none))) (cond (Nat.beq pc 40) (some (.iload_n 2, 41, [])) (cond (Nat.beq pc 41) (some (.invokevirtual 199, 44, [])) (none))))) (cond (Nat.ble 32 pc) (cond (Nat.ble 36 pc) (cond (Nat.beq pc 36) (some (.getfield 10, 39, [])) (cond (Nat.beq pc 39) (some (.iload_n 1, 40, [])) (none))) (cond (Nat.beq pc 32) (some (.getfield 43, 35, [])) (cond (Nat.beq pc 35) (some (.aload_n 0, 36, [])) (none)))) (cond (Nat.beq pc 28) (some (.bipush (-2), 30, [])) (cond (Nat.beq pc 30) (some (.ireturn, 31, [])) (cond (Nat.beq pc 31) (some (.aload_n 0, 32, [])) (none)))))) (cond (Nat.ble 11 pc) (cond (Nat.ble 18 pc) (cond (Nat.ble 22 pc) (cond (Nat.beq pc 22) (some (.invokestatic 244, 25, [])) (cond (Nat.beq pc 25) (some (.ifCond .ne 6, 28, [31])) (none))) (cond (Nat.beq pc 18) (some (.iload 4, 20, [])) (cond (Nat.beq pc 20) (some (.iload 5, 22, [])) (none)))) (cond (Nat.beq pc 11) (some (.iload_n 3, 12, [])) (cond (Nat.beq pc 12) (some (.invokevirtual 129, 15, [])) (cond (Nat.beq pc 15) (some (.ifCond .eq 13, 18, [28])) (none))))) (cond (Nat.ble 3 pc) (cond (Nat.ble 7 pc) (cond (Nat.beq pc 7) (some (.getfield 10, 10, [])) (cond (Nat.beq pc 10) (some (.iload_n 1, 11, [])) (none))) (cond (Nat.beq pc 3) (some (.invokevirtual 191, 6, [])) (cond (Nat.beq pc 6) (some (.aload_n 0, 7, [])) (none)))) (cond (Nat.beq pc 0) (some (.aload_n 0, 1, [])) (cond (Nat.beq pc 1) (some (.iload_n 1, 2, [])) (cond (Nat.beq pc 2) (some (.iload_n 2, 3, [])) (none))))))))
theorem qkX8_rootsIfMoved_ok : ∀ pc i nx ts, qkX8_rootsIfMoved pc = some (i, nx, ts) → am_cok cX8_rootsIfMoved pc (i, nx, ts) = true := fun pc i nx ts h => am_tok_ok (n := 113) (by decide +kernel) (fun pc h => by show cond (Nat.ble 113 pc) _ _ = _; rw [Nat.ble_eq_true_of_le h]; rfl) h
def qaX8_rootsIfMoved : Nat → Option CE := fun k => cond (Nat.beq k 191) (some qeX8_requireCurveAndLine) (cond (Nat.beq k 129) (some qeX2_hasPoint) (cond (Nat.beq k 244) (some qeX8_isPlace) (cond (Nat.beq k 199) (some qeX5_begin) (cond (Nat.beq k 137) (some qeX2_point) (cond (Nat.beq k 247) (some qeX2_lineAt) (cond (Nat.beq k 250) (some qeX5_replace) (cond (Nat.beq k 120) (some qeX2_setting) (cond (Nat.beq k 220) (some qeX5_findAll) (cond (Nat.beq k 208) (some qeX5_isAllZero) (cond (Nat.beq k 219) (some qeX5_size) (none)))))))))))
theorem qyX8_rootsIfMoved (l : Launch) (hst : l.stackTraces = false) : ∀ k e1, qaX8_rootsIfMoved k = some e1 → am_cal l layX RX8 20 k e1 ∧ True := q_cons ⟨am_calV (ci := 8) (qtX8_requireCurveAndLine l hst) qbX8_requireCurveAndLine (by decide) rfl (am_tb_at 1035 (by decide +kernel) rfl), trivial⟩ (q_cons ⟨am_calV (ci := 2) (qtX2_hasPoint l) qbX2_hasPoint (by decide) rfl (am_tb_at 739 (by decide +kernel) rfl), trivial⟩ (q_cons ⟨am_calS (qtX8_isPlace l) qbX8_isPlace (by decide) rfl (by decide) (am_tb_at 747 (by decide +kernel) rfl), trivial⟩ (q_cons ⟨am_calV (ci := 5) (qtX5_begin l) qbX5_begin (by decide) rfl (am_tb_at 581 (by decide +kernel) rfl), trivial⟩ (q_cons ⟨am_calV (ci := 2) (qtX2_point l) qbX2_point (by decide) rfl (am_tb_at 751 (by decide +kernel) rfl), trivial⟩ (q_cons ⟨am_calV (ci := 2) (qtX2_lineAt l) qbX2_lineAt (by decide) rfl (am_tb_at 1368 (by decide +kernel) rfl), trivial⟩ (q_cons ⟨am_calV (ci := 5) (qtX5_replace l) qbX5_replace (by decide) rfl (am_tb_at 1369 (by decide +kernel) rfl), trivial⟩ (q_cons ⟨am_calV (ci := 2) (qtX2_setting l) qbX2_setting (by decide) rfl (am_tb_at 565 (by decide +kernel) rfl), trivial⟩ (q_cons ⟨am_calV (ci := 5) (qtX5_findAll l) qbX5_findAll (by decide) rfl (am_tb_at 610 (by decide +kernel) rfl), trivial⟩ (q_cons ⟨am_calV (ci := 5) (qtX5_isAllZero l) qbX5_isAllZero (by decide) rfl (am_tb_at 814 (by decide +kernel) rfl), trivial⟩ (q_cons ⟨am_calV (ci := 5) (qtX5_size l) qbX5_size (by decide) rfl (am_tb_at 1078 (by decide +kernel) rfl), trivial⟩ (q_nil)))))))))))
def qxX8_rootsIfMoved : CX := (qkX8_rootsIfMoved, layX, qfX8, qaX8_rootsIfMoved, qcX8, qlX8, qmX8, (some .int), true, none, 2, none, fun _ => none)
theorem qzX8_rootsIfMoved (l : Launch) (hst : l.stackTraces = false) : am_sta l qxX8_rootsIfMoved RX8 20 cX8_rootsIfMoved := ⟨qkX8_rootsIfMoved_ok, layX_ok, qfX8_ok, qcX8_ok, qlX8_ok, am_mthP qmX8_ok (by decide), fun k e1 h => (qyX8_rootsIfMoved l hst k e1 h).1⟩
def qsX8_rootsIfMoved : SP := fun as F A K => match as with
  | [.inr (.inr o), .inl c, .inl l, .inl k, .inl x, .inl y] => cond (Nat.beq o 0) ((fgOK (A 2) ∧ (-2147483648 ≤ c ∧ c < 2147483648) ∧ (-2147483648 ≤ l ∧ l < 2147483648) ∧ (-2147483648 ≤ k ∧ k < 2147483648) ∧ (-2147483648 ≤ x ∧ x < 2147483648) ∧ (-2147483648 ≤ y ∧ y < 2147483648) ∧ RTB) ∧ (((0 ≤ c ∧ c < A 2 0) ∧ 0 ≤ l ∧ l < A 2 1 → (∀ (G_1 : FF) (B_1 : AA), (qrP F G_1 A B_1) → (K (some (some (vI (if (0 ≤ k ∧ k < A 2 (18 + c)) ∧ (0 ≤ x ∧ x ≤ 20 ∧ 0 ≤ y ∧ y ≤ 20) then (if azP (cfL (movR (A 2) c k x y) c l) (Int.toNat (A 2 (18 + c))) then -1 else ((rtsX (movR (A 2) c k x y) c l).length : Int)) else -2)))) G_1 B_1))) ∧ (¬ ((0 ≤ c ∧ c < A 2 0) ∧ 0 ≤ l ∧ l < A 2 1) → (K none F A)))) (False)
  | _ => False
def qeX8_rootsIfMoved : CE := (yX8_rootsIfMoved, cX8_rootsIfMoved, 6, (some .int), 5, some 8, 1, [], 2, 20, qsX8_rootsIfMoved)
theorem qbX8_rootsIfMoved : am_mb qeX8_rootsIfMoved := ⟨am_tb_at 1367 (by decide +kernel) rfl, am_tb_at 114 (by decide +kernel) rfl, ⟨by decide, by decide, by decide +kernel⟩, by decide, by decide, am_tb_at 1365 (by decide +kernel) rfl, am_tb_at 1366 (by decide +kernel) rfl, _, _, rfl⟩
set_option maxRecDepth 20000 in
theorem qvX8_rootsIfMoved_0 (c : Int) (l : Int) (k : Int) (x : Int) (y : Int) (F : FF) (A : AA) (K : KK) (h : (fgOK (A 2) ∧ (-2147483648 ≤ c ∧ c < 2147483648) ∧ (-2147483648 ≤ l ∧ l < 2147483648) ∧ (-2147483648 ≤ k ∧ k < 2147483648) ∧ (-2147483648 ≤ x ∧ x < 2147483648) ∧ (-2147483648 ≤ y ∧ y < 2147483648) ∧ RTB) ∧ (((0 ≤ c ∧ c < A 2 0) ∧ 0 ≤ l ∧ l < A 2 1 → (∀ (G_1 : FF) (B_1 : AA), (qrP F G_1 A B_1) → (K (some (some (vI (if (0 ≤ k ∧ k < A 2 (18 + c)) ∧ (0 ≤ x ∧ x ≤ 20 ∧ 0 ≤ y ∧ y ≤ 20) then (if azP (cfL (movR (A 2) c k x y) c l) (Int.toNat (A 2 (18 + c))) then -1 else ((rtsX (movR (A 2) c k x y) c l).length : Int)) else -2)))) G_1 B_1))) ∧ (¬ ((0 ≤ c ∧ c < A 2 0) ∧ 0 ≤ l ∧ l < A 2 1) → (K none F A)))) : am_line qxX8_rootsIfMoved 55 [vR 0, vI c, vI l, vI k, vI x, vI y] 6 F A K := by
  show am_stp qxX8_rootsIfMoved (am_run qxX8_rootsIfMoved (fun _ => none) (fun _ _ _ _ _ _ => False) K 55) K 0 [some (vR 0), some (vI c), some (vI l), some (vI k), some (vI x), some (vI y)] [] F A 0
  obtain ⟨hp, h⟩ := h
  have p1 := hp.1
  have p2' := hp.2
  have q1 := p1.1.1
  have q2 := p1.1.2
  have hpt := pt_iff p1 (c := c) (k := k) hp.2.1 hp.2.2.2.1
  show ((0 ≤ A 2 0 ∧ A 2 0 ≤ 8) ∧ (0 ≤ A 2 1 ∧ A 2 1 ≤ 6) ∧ (-2147483648 ≤ c ∧ c < 2147483648) ∧ (-2147483648 ≤ l ∧ l < 2147483648)) ∧ (((0 ≤ c ∧ c < A 2 0) ∧ 0 ≤ l ∧ l < A 2 1 → ((w32 (bi (0 ≤ w32 c ∧ w32 c < w32 (fat (A 2) 0) ∧ 0 ≤ w32 k ∧ w32 k < w32 (fat (A 2) (18 + c)))) = w32 0 → (K (some (some (vI (-2)))) F A)) ∧ (¬ (w32 (bi (0 ≤ w32 c ∧ w32 c < w32 (fat (A 2) 0) ∧ 0 ≤ w32 k ∧ w32 k < w32 (fat (A 2) (18 + c)))) = w32 0) → ((w32 (bi (0 ≤ w32 x ∧ w32 x ≤ 20 ∧ 0 ≤ w32 y ∧ w32 y ≤ 20)) = w32 0 → (K (some (some (vI (-2)))) F A)) ∧ (¬ (w32 (bi (0 ≤ w32 x ∧ w32 x ≤ 20 ∧ 0 ≤ w32 y ∧ w32 y ≤ 20)) = w32 0) → ((0 ≤ c ∧ c < 8 ∧ 0 ≤ l ∧ l < 6 ∧ 1 ≤ A 2 (18 + c) ∧ A 2 (18 + c) ≤ 4) ∧ ((0 ≤ k ∧ k < 4) ∧ (((0 ≤ (A 2 (18 + c) - 1) ∧ (A 2 (18 + c) - 1) ≤ 3) ∧ (1 ≤ (fat ((upA (setR A 15 0 (A 2 (18 + c)) (fun jj => cfX (A 2) c l jj)) 15 k (w32 ((fat ((setR A 15 0 (A 2 (18 + c)) (fun jj => cfX (A 2) c l jj)) 2) (26 + (c * 4 + k) * 3 + 2)) * (fat ((setR A 15 0 (A 2 (18 + c)) (fun jj => cfX (A 2) c l jj)) 2) (122 + l * 3 + 0) * x + fat ((setR A 15 0 (A 2 (18 + c)) (fun jj => cfX (A 2) c l jj)) 2) (122 + l * 3 + 1) * y + fat ((setR A 15 0 (A 2 (18 + c)) (fun jj => cfX (A 2) c l jj)) 2) (122 + l * 3 + 2))))) 2) (2 + 0)) ∧ (fat ((upA (setR A 15 0 (A 2 (18 + c)) (fun jj => cfX (A 2) c l jj)) 15 k (w32 ((fat ((setR A 15 0 (A 2 (18 + c)) (fun jj => cfX (A 2) c l jj)) 2) (26 + (c * 4 + k) * 3 + 2)) * (fat ((setR A 15 0 (A 2 (18 + c)) (fun jj => cfX (A 2) c l jj)) 2) (122 + l * 3 + 0) * x + fat ((setR A 15 0 (A 2 (18 + c)) (fun jj => cfX (A 2) c l jj)) 2) (122 + l * 3 + 1) * y + fat ((setR A 15 0 (A 2 (18 + c)) (fun jj => cfX (A 2) c l jj)) 2) (122 + l * 3 + 2))))) 2) (2 + 0)) ≤ 12) ∧ ((rootsL ((upA (setR A 15 0 (A 2 (18 + c)) (fun jj => cfX (A 2) c l jj)) 15 k (w32 ((fat ((setR A 15 0 (A 2 (18 + c)) (fun jj => cfX (A 2) c l jj)) 2) (26 + (c * 4 + k) * 3 + 2)) * (fat ((setR A 15 0 (A 2 (18 + c)) (fun jj => cfX (A 2) c l jj)) 2) (122 + l * 3 + 0) * x + fat ((setR A 15 0 (A 2 (18 + c)) (fun jj => cfX (A 2) c l jj)) 2) (122 + l * 3 + 1) * y + fat ((setR A 15 0 (A 2 (18 + c)) (fun jj => cfX (A 2) c l jj)) 2) (122 + l * 3 + 2))))) 15) ((A 2 (18 + c) - 1)) (fat ((upA (setR A 15 0 (A 2 (18 + c)) (fun jj => cfX (A 2) c l jj)) 15 k (w32 ((fat ((setR A 15 0 (A 2 (18 + c)) (fun jj => cfX (A 2) c l jj)) 2) (26 + (c * 4 + k) * 3 + 2)) * (fat ((setR A 15 0 (A 2 (18 + c)) (fun jj => cfX (A 2) c l jj)) 2) (122 + l * 3 + 0) * x + fat ((setR A 15 0 (A 2 (18 + c)) (fun jj => cfX (A 2) c l jj)) 2) (122 + l * 3 + 1) * y + fat ((setR A 15 0 (A 2 (18 + c)) (fun jj => cfX (A 2) c l jj)) 2) (122 + l * 3 + 2))))) 2) (2 + 0))).length : Int) ≤ 8) ∧ (∀ (B_1 : AA) (G_1 : FF) (L_1 : List RT), (L_1 = rootsL ((upA (setR A 15 0 (A 2 (18 + c)) (fun jj => cfX (A 2) c l jj)) 15 k (w32 ((fat ((setR A 15 0 (A 2 (18 + c)) (fun jj => cfX (A 2) c l jj)) 2) (26 + (c * 4 + k) * 3 + 2)) * (fat ((setR A 15 0 (A 2 (18 + c)) (fun jj => cfX (A 2) c l jj)) 2) (122 + l * 3 + 0) * x + fat ((setR A 15 0 (A 2 (18 + c)) (fun jj => cfX (A 2) c l jj)) 2) (122 + l * 3 + 1) * y + fat ((setR A 15 0 (A 2 (18 + c)) (fun jj => cfX (A 2) c l jj)) 2) (122 + l * 3 + 2))))) 15) ((A 2 (18 + c) - 1)) (fat ((upA (setR A 15 0 (A 2 (18 + c)) (fun jj => cfX (A 2) c l jj)) 15 k (w32 ((fat ((setR A 15 0 (A 2 (18 + c)) (fun jj => cfX (A 2) c l jj)) 2) (26 + (c * 4 + k) * 3 + 2)) * (fat ((setR A 15 0 (A 2 (18 + c)) (fun jj => cfX (A 2) c l jj)) 2) (122 + l * 3 + 0) * x + fat ((setR A 15 0 (A 2 (18 + c)) (fun jj => cfX (A 2) c l jj)) 2) (122 + l * 3 + 1) * y + fat ((setR A 15 0 (A 2 (18 + c)) (fun jj => cfX (A 2) c l jj)) 2) (122 + l * 3 + 2))))) 2) (2 + 0)) ∧ srP (upA (setR A 15 0 (A 2 (18 + c)) (fun jj => cfX (A 2) c l jj)) 15 k (w32 ((fat ((setR A 15 0 (A 2 (18 + c)) (fun jj => cfX (A 2) c l jj)) 2) (26 + (c * 4 + k) * 3 + 2)) * (fat ((setR A 15 0 (A 2 (18 + c)) (fun jj => cfX (A 2) c l jj)) 2) (122 + l * 3 + 0) * x + fat ((setR A 15 0 (A 2 (18 + c)) (fun jj => cfX (A 2) c l jj)) 2) (122 + l * 3 + 1) * y + fat ((setR A 15 0 (A 2 (18 + c)) (fun jj => cfX (A 2) c l jj)) 2) (122 + l * 3 + 2))))) B_1 0 0 L_1 ∧ G_1 = upF (upF F 14 4 (A 2 (18 + c) - 1)) 14 5 (L_1.length : Int)) → ((0 ≤ (G_1 14 4) ∧ (G_1 14 4) ≤ 3) ∧ ((w32 (bi (azP (B_1 15) (Int.toNat ((G_1 14 4) + 1)))) = w32 0 → (K (some (some (vI (G_1 14 5)))) G_1 B_1)) ∧ (¬ w32 (bi (azP (B_1 15) (Int.toNat ((G_1 14 4) + 1)))) = w32 0 → (K (some (some (vI (-1)))) G_1 B_1))))))))))))) ∧ (¬ ((0 ≤ c ∧ c < A 2 0) ∧ 0 ≤ l ∧ l < A 2 1) → (K none F A)))
  refine ⟨by exact ⟨p1.1.1, p1.1.2, hp.2.1, hp.2.2.1⟩, ?_⟩
  refine ⟨fun c1 => ?_, fun c1 => ?_⟩
  · skip
    (try simp only [w32_0, wbi0, Classical.not_not] at c1); (try rw [hpt] at c1); (try simp (disch := omega) only [w32_0, wbi0, Classical.not_not, w32_id] at c1)
    refine ⟨fun c2 => ?_, fun c2 => ?_⟩
    · skip
      (try simp only [w32_0, wbi0, Classical.not_not] at c2); (try rw [hpt] at c2); (try simp (disch := omega) only [w32_0, wbi0, Classical.not_not, w32_id] at c2)
      first
      | exact K_eq (h.1 c1 _ _ qrP_id) (if_neg (by omega))
      | (refine K_eq (h.1 c1 _ _ qG) ?_; rw [if_pos (by omega), if_neg (fun z => c4 (az.mpr z)), g5, gL]; done)
      | (refine K_eq (h.1 c1 _ _ qG) ?_; rw [if_pos (by omega), if_pos (az.mp c4)]; done)
    · skip
      (try simp only [w32_0, wbi0, Classical.not_not] at c2); (try rw [hpt] at c2); (try simp (disch := omega) only [w32_0, wbi0, Classical.not_not, w32_id] at c2)
      refine ⟨fun c3 => ?_, fun c3 => ?_⟩
      · skip
        (try simp only [w32_0, wbi0, Classical.not_not] at c3); (try rw [hpt] at c3); (try simp (disch := omega) only [w32_0, wbi0, Classical.not_not, w32_id] at c3)
        first
        | exact K_eq (h.1 c1 _ _ qrP_id) (if_neg (by omega))
        | (refine K_eq (h.1 c1 _ _ qG) ?_; rw [if_pos (by omega), if_neg (fun z => c4 (az.mpr z)), g5, gL]; done)
        | (refine K_eq (h.1 c1 _ _ qG) ?_; rw [if_pos (by omega), if_pos (az.mp c4)]; done)
      · skip
        (try simp only [w32_0, wbi0, Classical.not_not] at c3); (try rw [hpt] at c3); (try simp (disch := omega) only [w32_0, wbi0, Classical.not_not, w32_id] at c3)
        have q3 := (p1.2.2.1 c c1.1.1 c1.1.2).1
        have e2 : setR A 15 0 (A 2 (18 + c)) (fun jj => cfX (A 2) c l jj) 2 = A 2 := setR_r (by decide)
        rw [upA_r (show (2 : Nat) ≠ 15 by decide), e2, fat_in (i := 26 + (c * 4 + k) * 3 + 2) (by omega) (by omega), fat_in (i := 122 + l * 3 + 0) (by omega) (by omega), fat_in (i := 122 + l * 3 + 1) (by omega) (by omega), fat_in (i := 122 + l * 3 + 2) (by omega) (by omega), fat_in (i := 2 + 0) (by omega) (by omega), show (2 : Int) + 0 = 2 by omega]
        generalize hE : upA (setR A 15 0 (A 2 (18 + c)) (fun jj => cfX (A 2) c l jj)) 15 k (w32 (A 2 (26 + (c * 4 + k) * 3 + 2) * (A 2 (122 + l * 3 + 0) * x + A 2 (122 + l * 3 + 1) * y + A 2 (122 + l * 3 + 2)))) = E
        have sE : ∀ j, 0 ≤ j → j < A 2 (18 + c) → E 15 j = cfX (movR (A 2) c k x y) c l j := fun j j0 j1 => by
          rw [movR_cf (by omega) (by omega) (by omega) (by omega) (by omega) j j0 (by omega), ← hE]
          by_cases e : j = k
          · rw [e, upA_s, if_pos rfl]
          · rw [upA_o e, if_neg e, setR_in j0 (by omega), Int.sub_zero]
        have m18 : movR (A 2) c k x y (18 + c) = A 2 (18 + c) := by unfold movR; rw [if_neg (by omega), if_neg (by omega)]
        have m2 : movR (A 2) c k x y 2 = A 2 2 := by unfold movR; rw [if_neg (by omega), if_neg (by omega)]
        have eR : rootsL (E 15) (A 2 (18 + c) - 1) (A 2 2) = rtsX (movR (A 2) c k x y) c l := by
          unfold rtsX; rw [m18, m2]
          exact rootsL_c (by omega) (fun j j0 j1 => sE j j0 (by omega))
        rw [eR]
        have hb := hp.2.2.2.2.2.2 (movR (A 2) c k x y) (movR_fg p1 (by omega) (by omega) (by omega) (by omega) (by omega) (by omega)) c l (by omega) (by unfold movR; rw [if_neg (by omega), if_neg (by omega)]; omega) (by omega) (by unfold movR; rw [if_neg (by omega), if_neg (by omega)]; omega)
        have qE : qrP F (upF F 14 4 (A 2 (18 + c) - 1)) A E := qrP_of (fun a b hab => upF_o (by omega)) (fun b i hb => by rw [← hE, upA_k (by omega), setR_o (by omega)])
        have lim := p1.2.1.1
        refine ⟨by first | omega | exact ⟨by omega, by omega, hb⟩ | exact ⟨⟨by omega, by omega⟩, ⟨by omega, by omega⟩, hb⟩, ?_⟩
        refine ⟨by first | omega | exact ⟨by omega, by omega, hb⟩ | exact ⟨⟨by omega, by omega⟩, ⟨by omega, by omega⟩, hb⟩, ?_⟩
        refine ⟨by first | omega | exact ⟨by omega, by omega, hb⟩ | exact ⟨⟨by omega, by omega⟩, ⟨by omega, by omega⟩, hb⟩, ?_⟩
        intro B_1 G_1 L_1 g1
        obtain ⟨gL, gP, gG⟩ := g1
        have g4 : G_1 14 4 = A 2 (18 + c) - 1 := by rw [gG, upF_o (by decide), upF_s]
        have g5 : G_1 14 5 = (L_1.length : Int) := by rw [gG, upF_s]
        have qG : qrP F G_1 A B_1 := qrP_trans qE (qrP_of (fun a b hab => by rw [gG, upF_o (by omega)]) (fun b i hb => gP.1 b i (by omega)))
        have az : azP (B_1 15) (Int.toNat (G_1 14 4 + 1)) ↔ azP (cfL (movR (A 2) c k x y) c l) (Int.toNat (A 2 (18 + c))) := by
          rw [g4, show A 2 (18 + c) - 1 + 1 = A 2 (18 + c) by omega]
          exact azP_c (fun j hj => (gP.1 15 j (Or.inr (Or.inl ⟨rfl, by omega⟩))).trans (sE j (by omega) (by omega)))
        refine ⟨by first | omega | exact ⟨by omega, by omega, hb⟩ | exact ⟨⟨by omega, by omega⟩, ⟨by omega, by omega⟩, hb⟩, ?_⟩
        refine ⟨fun c4 => ?_, fun c4 => ?_⟩
        · skip
          (try simp only [w32_0, wbi0, Classical.not_not] at c4); (try rw [hpt] at c4); (try simp (disch := omega) only [w32_0, wbi0, Classical.not_not, w32_id] at c4)
          first
          | exact K_eq (h.1 c1 _ _ qrP_id) (if_neg (by omega))
          | (refine K_eq (h.1 c1 _ _ qG) ?_; rw [if_pos (by omega), if_neg (fun z => c4 (az.mpr z)), g5, gL]; done)
          | (refine K_eq (h.1 c1 _ _ qG) ?_; rw [if_pos (by omega), if_pos (az.mp c4)]; done)
        · skip
          (try simp only [w32_0, wbi0, Classical.not_not] at c4); (try rw [hpt] at c4); (try simp (disch := omega) only [w32_0, wbi0, Classical.not_not, w32_id] at c4)
          first
          | exact K_eq (h.1 c1 _ _ qrP_id) (if_neg (by omega))
          | (refine K_eq (h.1 c1 _ _ qG) ?_; rw [if_pos (by omega), if_neg (fun z => c4 (az.mpr z)), g5, gL]; done)
          | (refine K_eq (h.1 c1 _ _ qG) ?_; rw [if_pos (by omega), if_pos (az.mp c4)]; done)
  · skip
    (try simp only [w32_0, wbi0, Classical.not_not] at c1); (try rw [hpt] at c1); (try simp (disch := omega) only [w32_0, wbi0, Classical.not_not, w32_id] at c1)
    exact h.2 c1
theorem qtX8_rootsIfMoved (l : Launch) (hst : l.stackTraces = false) : am_CT l layX qeX8_rootsIfMoved := am_met1 hst rfl (by decide +kernel) rfl rfl rfl rfl rfl (fun _ _ h => by cases h) rfl (qzX8_rootsIfMoved l hst) (fun as F A K h => by
  replace h : qsX8_rootsIfMoved as F A K := h
  unfold qsX8_rootsIfMoved at h
  split at h
  · rename_i o c l k x y
    refine ⟨by first | exact Nat.le_of_ble_eq_true rfl | simp [am_fl, am_cat], ?_⟩
    replace h := am_cond2 h
    rcases h with ⟨hb, h⟩ | h
    · skip
      have hb0 := hb
      have hb0 := am_bq hb0
      subst hb0
      exact am_way_line (qvX8_rootsIfMoved_0 c l k x y F A K h)
    exact h.elim
  · exact h.elim)
def qkX7_filled : Nat → Option CI := fun pc => cond (Nat.ble 5 pc) none (cond (Nat.beq pc 0) (some (.aload_n 0, 1, [])) (cond (Nat.beq pc 1) (some (.getfield 15, 4, [])) (cond (Nat.beq pc 4) (some (.ireturn, 5, [])) (none))))
theorem qkX7_filled_ok : ∀ pc i nx ts, qkX7_filled pc = some (i, nx, ts) → am_cok cX7_filled pc (i, nx, ts) = true := fun pc i nx ts h => am_tok_ok (n := 5) (by decide +kernel) (fun pc h => by show cond (Nat.ble 5 pc) _ _ = _; rw [Nat.ble_eq_true_of_le h]; rfl) h
def qaX7_filled : Nat → Option CE := fun k => none
theorem qyX7_filled (l : Launch) : ∀ k e1, qaX7_filled k = some e1 → am_cal l layX RX7 3 k e1 ∧ ceT e1 = 0 := q_nil
def qxX7_filled : CX := (qkX7_filled, layX, qfX7, qaX7_filled, qcX7, qlX7, qmX7, (some .int), false, none, 0, none, fun _ => none)
theorem qzX7_filled (l : Launch) : am_sta l qxX7_filled RX7 3 cX7_filled := ⟨qkX7_filled_ok, layX_ok, qfX7_ok, qcX7_ok, qlX7_ok, am_mthP qmX7_ok (by decide), fun k e1 h => (qyX7_filled l k e1 h).1⟩
def qsX7_filled : SP := fun as F A K => match as with
  | [.inr (.inr o)] => cond (Nat.beq o 7) (K (some (some (vI (F 7 1)))) F A) (False)
  | _ => False
def qeX7_filled : CE := (yX7_filled, cX7_filled, 1, (some .int), 0, some 7, 0, [], 0, 3, qsX7_filled)
theorem qbX7_filled : am_mb qeX7_filled := ⟨am_tb_at 364 (by decide +kernel) rfl, am_tb_at 117 (by decide +kernel) rfl, ⟨by decide, by decide, by decide +kernel⟩, by decide, by decide, am_tb_at 362 (by decide +kernel) rfl, am_tb_at 363 (by decide +kernel) rfl, _, _, rfl⟩
set_option maxRecDepth 20000 in
theorem qvX7_filled_7  (F : FF) (A : AA) (K : KK) (h : K (some (some (vI (F 7 1)))) F A) : am_line qxX7_filled 4 [vR 7] 1 F A K := by
  show am_stp qxX7_filled (am_run qxX7_filled (fun _ => none) (fun _ _ _ _ _ _ => False) K 4) K 0 [some (vR 7)] [] F A 0
  show K (some (some (vI (F 7 1)))) F A
  first | exact h | exact K_eq h (by first | omega | (simp (disch := omega) only [w32_0, w64_0, wbi0, wbi1, yc_eq0, yc_lt0, yc_gt0, Classical.not_not, w32_id, w64_id]; omega) | (simp (disch := omega) only [w32_0, w64_0, wbi0, wbi1, yc_eq0, yc_lt0, yc_gt0, Classical.not_not, w32_id, w64_id]; done))
theorem qtX7_filled (l : Launch) : am_CT l layX qeX7_filled := am_met0 rfl (by decide +kernel) rfl rfl rfl rfl rfl (fun _ => rfl) rfl (qzX7_filled l) (fun k e1 h => (qyX7_filled l k e1 h).2) (fun as F A K h => by
  replace h : qsX7_filled as F A K := h
  unfold qsX7_filled at h
  split at h
  · rename_i o
    refine ⟨by first | exact Nat.le_of_ble_eq_true rfl | simp [am_fl, am_cat], ?_⟩
    replace h := am_cond2 h
    rcases h with ⟨hb, h⟩ | h
    · skip
      have hb0 := hb
      have hb0 := am_bq hb0
      subst hb0
      exact am_way_line (qvX7_filled_7  F A K h)
    exact h.elim
  · exact h.elim)
def qkX7_empty : Nat → Option CI := fun pc => cond (Nat.ble 6 pc) none (cond (Nat.ble 2 pc) (cond (Nat.beq pc 2) (some (.putfield 15, 5, [])) (cond (Nat.beq pc 5) (some (.return_, 6, [])) (none))) (cond (Nat.beq pc 0) (some (.aload_n 0, 1, [])) (cond (Nat.beq pc 1) (some (.iconst 0, 2, [])) (none))))
theorem qkX7_empty_ok : ∀ pc i nx ts, qkX7_empty pc = some (i, nx, ts) → am_cok cX7_empty pc (i, nx, ts) = true := fun pc i nx ts h => am_tok_ok (n := 6) (by decide +kernel) (fun pc h => by show cond (Nat.ble 6 pc) _ _ = _; rw [Nat.ble_eq_true_of_le h]; rfl) h
def qaX7_empty : Nat → Option CE := fun k => none
theorem qyX7_empty (l : Launch) : ∀ k e1, qaX7_empty k = some e1 → am_cal l layX RX7 3 k e1 ∧ ceT e1 = 0 := q_nil
def qxX7_empty : CX := (qkX7_empty, layX, qfX7, qaX7_empty, qcX7, qlX7, qmX7, none, false, none, 0, none, fun _ => none)
theorem qzX7_empty (l : Launch) : am_sta l qxX7_empty RX7 3 cX7_empty := ⟨qkX7_empty_ok, layX_ok, qfX7_ok, qcX7_ok, qlX7_ok, am_mthP qmX7_ok (by decide), fun k e1 h => (qyX7_empty l k e1 h).1⟩
def qsX7_empty : SP := fun as F A K => match as with
  | [.inr (.inr o)] => cond (Nat.beq o 7) (K (some none) (upF F 7 1 0) A) (False)
  | _ => False
def qeX7_empty : CE := (yX7_empty, cX7_empty, 1, none, 0, some 7, 0, [], 0, 3, qsX7_empty)
theorem qbX7_empty : am_mb qeX7_empty := ⟨am_tb_at 510 (by decide +kernel) rfl, am_tb_at 117 (by decide +kernel) rfl, ⟨by decide, by decide, by decide +kernel⟩, by decide, by decide, am_tb_at 508 (by decide +kernel) rfl, am_tb_at 509 (by decide +kernel) rfl, _, _, rfl⟩
set_option maxRecDepth 20000 in
theorem qvX7_empty_7  (F : FF) (A : AA) (K : KK) (h : K (some none) (upF F 7 1 0) A) : am_line qxX7_empty 5 [vR 7] 1 F A K := by
  show am_stp qxX7_empty (am_run qxX7_empty (fun _ => none) (fun _ _ _ _ _ _ => False) K 5) K 0 [some (vR 7)] [] F A 0
  show K (some none) (upF F 7 1 0) A
  first | exact h | exact K_eq h (by first | omega | (simp (disch := omega) only [w32_0, w64_0, wbi0, wbi1, yc_eq0, yc_lt0, yc_gt0, Classical.not_not, w32_id, w64_id]; omega) | (simp (disch := omega) only [w32_0, w64_0, wbi0, wbi1, yc_eq0, yc_lt0, yc_gt0, Classical.not_not, w32_id, w64_id]; done))
theorem qtX7_empty (l : Launch) : am_CT l layX qeX7_empty := am_met0 rfl (by decide +kernel) rfl rfl rfl rfl rfl (fun _ => rfl) rfl (qzX7_empty l) (fun k e1 h => (qyX7_empty l k e1 h).2) (fun as F A K h => by
  replace h : qsX7_empty as F A K := h
  unfold qsX7_empty at h
  split at h
  · rename_i o
    refine ⟨by first | exact Nat.le_of_ble_eq_true rfl | simp [am_fl, am_cat], ?_⟩
    replace h := am_cond2 h
    rcases h with ⟨hb, h⟩ | h
    · skip
      have hb0 := hb
      have hb0 := am_bq hb0
      subst hb0
      exact am_way_line (qvX7_empty_7  F A K h)
    exact h.elim
  · exact h.elim)
def qkX7_place : Nat → Option CI := fun pc => cond (Nat.ble 5 pc) none (cond (Nat.beq pc 0) (some (.aload_n 0, 1, [])) (cond (Nat.beq pc 1) (some (.getfield 19, 4, [])) (cond (Nat.beq pc 4) (some (.ireturn, 5, [])) (none))))
theorem qkX7_place_ok : ∀ pc i nx ts, qkX7_place pc = some (i, nx, ts) → am_cok cX7_place pc (i, nx, ts) = true := fun pc i nx ts h => am_tok_ok (n := 5) (by decide +kernel) (fun pc h => by show cond (Nat.ble 5 pc) _ _ = _; rw [Nat.ble_eq_true_of_le h]; rfl) h
def qaX7_place : Nat → Option CE := fun k => none
theorem qyX7_place (l : Launch) : ∀ k e1, qaX7_place k = some e1 → am_cal l layX RX7 3 k e1 ∧ ceT e1 = 0 := q_nil
def qxX7_place : CX := (qkX7_place, layX, qfX7, qaX7_place, qcX7, qlX7, qmX7, (some .int), false, none, 0, none, fun _ => none)
theorem qzX7_place (l : Launch) : am_sta l qxX7_place RX7 3 cX7_place := ⟨qkX7_place_ok, layX_ok, qfX7_ok, qcX7_ok, qlX7_ok, am_mthP qmX7_ok (by decide), fun k e1 h => (qyX7_place l k e1 h).1⟩
def qsX7_place : SP := fun as F A K => match as with
  | [.inr (.inr o)] => cond (Nat.beq o 7) (K (some (some (vI (F 7 3)))) F A) (False)
  | _ => False
def qeX7_place : CE := (yX7_place, cX7_place, 1, (some .int), 0, some 7, 0, [], 0, 3, qsX7_place)
theorem qbX7_place : am_mb qeX7_place := ⟨am_tb_at 514 (by decide +kernel) rfl, am_tb_at 117 (by decide +kernel) rfl, ⟨by decide, by decide, by decide +kernel⟩, by decide, by decide, am_tb_at 512 (by decide +kernel) rfl, am_tb_at 513 (by decide +kernel) rfl, _, _, rfl⟩
set_option maxRecDepth 20000 in
theorem qvX7_place_7  (F : FF) (A : AA) (K : KK) (h : K (some (some (vI (F 7 3)))) F A) : am_line qxX7_place 4 [vR 7] 1 F A K := by
  show am_stp qxX7_place (am_run qxX7_place (fun _ => none) (fun _ _ _ _ _ _ => False) K 4) K 0 [some (vR 7)] [] F A 0
  show K (some (some (vI (F 7 3)))) F A
  first | exact h | exact K_eq h (by first | omega | (simp (disch := omega) only [w32_0, w64_0, wbi0, wbi1, yc_eq0, yc_lt0, yc_gt0, Classical.not_not, w32_id, w64_id]; omega) | (simp (disch := omega) only [w32_0, w64_0, wbi0, wbi1, yc_eq0, yc_lt0, yc_gt0, Classical.not_not, w32_id, w64_id]; done))
theorem qtX7_place (l : Launch) : am_CT l layX qeX7_place := am_met0 rfl (by decide +kernel) rfl rfl rfl rfl rfl (fun _ => rfl) rfl (qzX7_place l) (fun k e1 h => (qyX7_place l k e1 h).2) (fun as F A K h => by
  replace h : qsX7_place as F A K := h
  unfold qsX7_place at h
  split at h
  · rename_i o
    refine ⟨by first | exact Nat.le_of_ble_eq_true rfl | simp [am_fl, am_cat], ?_⟩
    replace h := am_cond2 h
    rcases h with ⟨hb, h⟩ | h
    · skip
      have hb0 := hb
      have hb0 := am_bq hb0
      subst hb0
      exact am_way_line (qvX7_place_7  F A K h)
    exact h.elim
  · exact h.elim)
