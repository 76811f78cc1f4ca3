def qkX8_setLine : Nat → Option CI := fun pc => cond (Nat.ble 108 pc) none (cond (Nat.ble 52 pc) (cond (Nat.ble 76 pc) (cond (Nat.ble 90 pc) (cond (Nat.ble 99 pc) (cond (Nat.ble 105 pc) (cond (Nat.beq pc 105) (some (.iload 5, 107, [])) (cond (Nat.beq pc 107) (some (.ireturn, 108, [])) (none))) (cond (Nat.beq pc 99) (some (.iinc 6 1, 102, [])) (cond (Nat.beq pc 102) (some (.goto (-28), 105, [74])) (none)))) (cond (Nat.beq pc 90) (some (.invokevirtual 205, 93, [])) (cond (Nat.beq pc 93) (some (.ifCond .eq 6, 96, [99])) (cond (Nat.beq pc 96) (some (.iinc 5 1, 99, [])) (none))))) (cond (Nat.ble 83 pc) (cond (Nat.ble 87 pc) (cond (Nat.beq pc 87) (some (.iload 6, 89, [])) (cond (Nat.beq pc 89) (some (.iload_n 1, 90, [])) (none))) (cond (Nat.beq pc 83) (some (.if_icmp .ge 22, 86, [105])) (cond (Nat.beq pc 86) (some (.aload_n 0, 87, [])) (none)))) (cond (Nat.beq pc 76) (some (.aload_n 0, 77, [])) (cond (Nat.beq pc 77) (some (.getfield 10, 80, [])) (cond (Nat.beq pc 80) (some (.invokevirtual 100, 83, [])) (none)))))) (cond (Nat.ble 63 pc) (cond (Nat.ble 69 pc) (cond (Nat.ble 72 pc) (cond (Nat.beq pc 72) (some (.istore 6, 74, [])) (cond (Nat.beq pc 74) (some (.iload 6, 76, [])) (none))) (cond (Nat.beq pc 69) (some (.istore 5, 71, [])) (cond (Nat.beq pc 71) (some (.iconst 0, 72, [])) (none)))) (cond (Nat.beq pc 63) (some (.iload 4, 65, [])) (cond (Nat.beq pc 65) (some (.invokevirtual 339, 68, [])) (cond (Nat.beq pc 68) (some (.iconst 0, 69, [])) (none))))) (cond (Nat.ble 57 pc) (cond (Nat.ble 61 pc) (cond (Nat.beq pc 61) (some (.iload_n 1, 62, [])) (cond (Nat.beq pc 62) (some (.iconst 2, 63, [])) (none))) (cond (Nat.beq pc 57) (some (.aload_n 0, 58, [])) (cond (Nat.beq pc 58) (some (.getfield 10, 61, [])) (none)))) (cond (Nat.beq pc 52) (some (.iconst 1, 53, [])) (cond (Nat.beq pc 53) (some (.iload_n 3, 54, [])) (cond (Nat.beq pc 54) (some (.invokevirtual 339, 57, [])) (none))))))) (cond (Nat.ble 26 pc) (cond (Nat.ble 41 pc) (cond (Nat.ble 44 pc) (cond (Nat.ble 48 pc) (cond (Nat.beq pc 48) (some (.getfield 10, 51, [])) (cond (Nat.beq pc 51) (some (.iload_n 1, 52, [])) (none))) (cond (Nat.beq pc 44) (some (.invokevirtual 339, 47, [])) (cond (Nat.beq pc 47) (some (.aload_n 0, 48, [])) (none)))) (cond (Nat.beq pc 41) (some (.iload_n 1, 42, [])) (cond (Nat.beq pc 42) (some (.iconst 0, 43, [])) (cond (Nat.beq pc 43) (some (.iload_n 2, 44, [])) (none))))) (cond (Nat.ble 31 pc) (cond (Nat.ble 37 pc) (cond (Nat.beq pc 37) (some (.aload_n 0, 38, [])) (cond (Nat.beq pc 38) (some (.getfield 10, 41, [])) (none))) (cond (Nat.beq pc 31) (some (.getfield 10, 34, [])) (cond (Nat.beq pc 34) (some (.invokevirtual 313, 37, [])) (none)))) (cond (Nat.beq pc 26) (some (.aload_n 0, 27, [])) (cond (Nat.beq pc 27) (some (.getfield 22, 30, [])) (cond (Nat.beq pc 30) (some (.aload_n 0, 31, [])) (none)))))) (cond (Nat.ble 13 pc) (cond (Nat.ble 17 pc) (cond (Nat.ble 23 pc) (cond (Nat.beq pc 23) (some (.bipush (-2), 25, [])) (cond (Nat.beq pc 25) (some (.ireturn, 26, [])) (none))) (cond (Nat.beq pc 17) (some (.invokestatic 336, 20, [])) (cond (Nat.beq pc 20) (some (.ifCond .ne 6, 23, [26])) (none)))) (cond (Nat.beq pc 13) (some (.iload_n 2, 14, [])) (cond (Nat.beq pc 14) (some (.iload_n 3, 15, [])) (cond (Nat.beq pc 15) (some (.iload 4, 17, [])) (none))))) (cond (Nat.ble 5 pc) (cond (Nat.ble 11 pc) (cond (Nat.beq pc 11) (some (.iconst (-1), 12, [])) (cond (Nat.beq pc 12) (some (.ireturn, 13, [])) (none))) (cond (Nat.beq pc 5) (some (.invokevirtual 333, 8, [])) (cond (Nat.beq pc 8) (some (.ifCond .ne 5, 11, [13])) (none)))) (cond (Nat.beq pc 0) (some (.aload_n 0, 1, [])) (cond (Nat.beq pc 1) (some (.getfield 10, 4, [])) (cond (Nat.beq pc 4) (some (.iload_n 1, 5, [])) (none))))))))
theorem qkX8_setLine_ok : ∀ pc i nx ts, qkX8_setLine pc = some (i, nx, ts) → am_cok cX8_setLine pc (i, nx, ts) = true := fun pc i nx ts h => am_tok_ok (n := 108) (by decide +kernel) (fun pc h => by show cond (Nat.ble 108 pc) _ _ = _; rw [Nat.ble_eq_true_of_le h]; rfl) h
def qaX8_setLine : Nat → Option CE := fun k => cond (Nat.beq k 333) (some qeX2_hasLine) (cond (Nat.beq k 336) (some qeX8_isLine) (cond (Nat.beq k 313) (some qeX3_keep) (cond (Nat.beq k 339) (some qeX2_putLineValue) (cond (Nat.beq k 100) (some qeX2_curves) (cond (Nat.beq k 205) (some qeX8_liesOn) (none))))))
theorem qyX8_setLine (l : Launch) : ∀ k e1, qaX8_setLine k = some e1 → am_cal l layX RX8 9 k e1 ∧ ceT e1 = 0 := q_cons ⟨am_calV (ci := 2) (qtX2_hasLine l) qbX2_hasLine (by decide) rfl (am_tb_at 930 (by decide +kernel) rfl), rfl⟩ (q_cons ⟨am_calS (qtX8_isLine l) qbX8_isLine (by decide) rfl (by decide) (am_tb_at 934 (by decide +kernel) rfl), rfl⟩ (q_cons ⟨am_calV (ci := 3) (qtX3_keep l) qbX3_keep (by decide) rfl (am_tb_at 880 (by decide +kernel) rfl), rfl⟩ (q_cons ⟨am_calV (ci := 2) (qtX2_putLineValue l) qbX2_putLineValue (by decide) rfl (am_tb_at 937 (by decide +kernel) rfl), rfl⟩ (q_cons ⟨am_calV (ci := 2) (qtX2_curves l) qbX2_curves (by decide) rfl (am_tb_at 772 (by decide +kernel) rfl), rfl⟩ (q_cons ⟨am_calV (ci := 8) (qtX8_liesOn l) qbX8_liesOn (by decide) rfl (am_tb_at 938 (by decide +kernel) rfl), rfl⟩ (q_nil))))))
def qxX8_setLine : CX := (qkX8_setLine, layX, qfX8, qaX8_setLine, qcX8, qlX8, qmX8, (some .int), false, none, 0, none, fun _ => none)
theorem qzX8_setLine (l : Launch) : am_sta l qxX8_setLine RX8 9 cX8_setLine := ⟨qkX8_setLine_ok, layX_ok, qfX8_ok, qcX8_ok, qlX8_ok, am_mthP qmX8_ok (by decide), fun k e1 h => (qyX8_setLine l k e1 h).1⟩
def qsX8_setLine : SP := fun as F A K => match as with
  | [.inr (.inr o), .inl l, .inl a, .inl b, .inl c] => cond (Nat.beq o 0) ((fgOK (A 2) ∧ hsOK F ∧ (-2147483648 ≤ l ∧ l < 2147483648) ∧ (-2147483648 ≤ a ∧ a < 2147483648) ∧ (-2147483648 ≤ b ∧ b < 2147483648) ∧ (-2147483648 ≤ c ∧ c < 2147483648)) ∧ (∀ (G_1 : FF) (B_1 : AA), (((0 ≤ l ∧ l < A 2 1) ∧ ((-5 ≤ a ∧ a ≤ 5) ∧ (-5 ≤ b ∧ b ≤ 5) ∧ (-200 ≤ c ∧ c ≤ 200) ∧ ¬ (a = 0 ∧ b = 0)) → chR F G_1 A B_1 (lnR (A 2) l a b c)) ∧ (¬ ((0 ≤ l ∧ l < A 2 1) ∧ ((-5 ≤ a ∧ a ≤ 5) ∧ (-5 ≤ b ∧ b ≤ 5) ∧ (-200 ≤ c ∧ c ≤ 200) ∧ ¬ (a = 0 ∧ b = 0))) → ch0 F G_1 A B_1)) → (K (some (some (vI (if (0 ≤ l ∧ l < A 2 1) then (if (-5 ≤ a ∧ a ≤ 5) ∧ (-5 ≤ b ∧ b ≤ 5) ∧ (-200 ≤ c ∧ c ≤ 200) ∧ ¬ (a = 0 ∧ b = 0) then onF (lnR (A 2) l a b c) l (Int.toNat (A 2 0)) else -2) else -1)))) G_1 B_1))) (False)
  | _ => False
def qeX8_setLine : CE := (yX8_setLine, cX8_setLine, 7, (some .int), 4, some 8, 0, none, 0, 9, qsX8_setLine)
theorem qbX8_setLine : am_mb qeX8_setLine := ⟨am_tb_at 929 (by decide +kernel) rfl, am_tb_at 35 (by decide +kernel) rfl, ⟨by decide, by decide, by decide +kernel⟩, by decide, am_tb_at 927 (by decide +kernel) rfl, am_tb_at 928 (by decide +kernel) rfl, _, _, rfl⟩
def qnX8_setLine_0 : CUT := fun pc => cond (Nat.beq pc 74) (some [true, true, true, true, true, true, true]) (none)
def qiX8_setLine_0 (l : Int) (a : Int) (b : Int) (c : Int) (F0 : FF) (A0 : AA) : REC := fun pc ls st F A u => cond (Nat.beq pc 74) (match ls, st, u with
    | [some (.inr (.inr s0)), some (.inl s1), some (.inl s2), some (.inl s3), some (.inl s4), some (.inl n), some (.inl k)], [], 0 => s0 = 0 ∧ s1 = l ∧ s2 = a ∧ s3 = b ∧ s4 = c ∧ ((0 ≤ l ∧ l < A0 2 1) ∧ ((-5 ≤ a ∧ a ≤ 5) ∧ (-5 ≤ b ∧ b ≤ 5) ∧ (-200 ≤ c ∧ c ≤ 200) ∧ ¬ (a = 0 ∧ b = 0)) ∧ (0 ≤ k ∧ k ≤ A0 2 0) ∧ qrP (kF F0) F (fput (fput (fput (kA F0 A0) 2 (122 + l * 3 + 0) a) 2 (122 + l * 3 + 1) b) 2 (122 + l * 3 + 2) c) A ∧ n = onF (lnR (A0 2) l a b c) l (Int.toNat k))
    | _, _, _ => False) (False)
def quX8_setLine_0 : Nat → LVs → List AV → FF → AA → Nat := fun pc ls _ F A => cond (Nat.beq pc 74) (match ls with
    | [some (.inr (.inr s0)), some (.inl s1), some (.inl s2), some (.inl s3), some (.inl s4), some (.inl n), some (.inl k)] => Int.toNat (20 - k)
    | _ => 0) (0)
set_option maxRecDepth 20000 in
theorem qvX8_setLine_0_0 (l : Int) (a : Int) (b : Int) (c : Int) (F0 : FF) (A0 : AA) (K : KK) (h : (fgOK (A0 2) ∧ hsOK F0 ∧ (-2147483648 ≤ l ∧ l < 2147483648) ∧ (-2147483648 ≤ a ∧ a < 2147483648) ∧ (-2147483648 ≤ b ∧ b < 2147483648) ∧ (-2147483648 ≤ c ∧ c < 2147483648)) ∧ (∀ (G_1 : FF) (B_1 : AA), (((0 ≤ l ∧ l < A0 2 1) ∧ ((-5 ≤ a ∧ a ≤ 5) ∧ (-5 ≤ b ∧ b ≤ 5) ∧ (-200 ≤ c ∧ c ≤ 200) ∧ ¬ (a = 0 ∧ b = 0)) → chR F0 G_1 A0 B_1 (lnR (A0 2) l a b c)) ∧ (¬ ((0 ≤ l ∧ l < A0 2 1) ∧ ((-5 ≤ a ∧ a ≤ 5) ∧ (-5 ≤ b ∧ b ≤ 5) ∧ (-200 ≤ c ∧ c ≤ 200) ∧ ¬ (a = 0 ∧ b = 0))) → ch0 F0 G_1 A0 B_1)) → (K (some (some (vI (if (0 ≤ l ∧ l < A0 2 1) then (if (-5 ≤ a ∧ a ≤ 5) ∧ (-5 ≤ b ∧ b ≤ 5) ∧ (-200 ≤ c ∧ c ≤ 200) ∧ ¬ (a = 0 ∧ b = 0) then onF (lnR (A0 2) l a b c) l (Int.toNat (A0 2 0)) else -2) else -1)))) G_1 B_1))) : am_stp qxX8_setLine (am_run qxX8_setLine qnX8_setLine_0 (qiX8_setLine_0 l a b c F0 A0) K 40) K 0 (am_ent [vR 0, vI l, vI a, vI b, vI c] 7) [] F0 A0 0 := by
  show am_stp qxX8_setLine (am_run qxX8_setLine qnX8_setLine_0 (qiX8_setLine_0 l a b c F0 A0) K 40) K 0 [some (vR 0), some (vI l), some (vI a), some (vI b), some (vI c), none, none] [] F0 A0 0
  obtain ⟨hp, h⟩ := h
  have p1 := hp.1
  have ph := hp.2.1
  have q1 := p1.1.1
  have q2 := p1.1.2
  obtain ⟨ph1, ph2⟩ := ph
  have hcv : (0 ≤ w32 l ∧ w32 l < w32 (fat (A0 2) 1)) ↔ (0 ≤ l ∧ l < A0 2 1) := by rw [w32_id (x := l) (by omega) (by omega), fat_in (by omega) (by omega), w32_id (x := A0 2 1) (by omega) (by omega)]
  show (w32 (bi (0 ≤ w32 l ∧ w32 l < w32 (fat (A0 2) 1))) = w32 0 → (K (some (some (vI (-1)))) F0 A0)) ∧ (¬ (w32 (bi (0 ≤ w32 l ∧ w32 l < w32 (fat (A0 2) 1))) = w32 0) → ((w32 (bi (-5 ≤ w32 a ∧ w32 a ≤ 5 ∧ -5 ≤ w32 b ∧ w32 b ≤ 5 ∧ -200 ≤ w32 c ∧ w32 c ≤ 200 ∧ (w32 a ≠ 0 ∨ w32 b ≠ 0))) = w32 0 → (K (some (some (vI (-2)))) F0 A0)) ∧ (¬ (w32 (bi (-5 ≤ w32 a ∧ w32 a ≤ 5 ∧ -5 ≤ w32 b ∧ w32 b ≤ 5 ∧ -200 ≤ w32 c ∧ w32 c ≤ 200 ∧ (w32 a ≠ 0 ∨ w32 b ≠ 0))) = w32 0) → ((0 ≤ (F0 5 1) ∧ (F0 5 1) ≤ 9 ∧ 0 ≤ (F0 5 2) ∧ (F0 5 2) ≤ 10) ∧ (∀ (G_1 : FF), (G_1 = upF (upF F0 5 1 (if (F0 5 2) = 10 then ((F0 5 1) + 1) % 10 else (F0 5 1))) 5 2 (if (F0 5 2) = 10 then 10 else (F0 5 2) + 1)) → (0 = 0 ∧ l = l ∧ a = a ∧ b = b ∧ c = c ∧ ((0 ≤ l ∧ l < A0 2 1) ∧ ((-5 ≤ a ∧ a ≤ 5) ∧ (-5 ≤ b ∧ b ≤ 5) ∧ (-200 ≤ c ∧ c ≤ 200) ∧ ¬ (a = 0 ∧ b = 0)) ∧ (0 ≤ 0 ∧ 0 ≤ A0 2 0) ∧ qrP (kF F0) G_1 (fput (fput (fput (kA F0 A0) 2 (122 + l * 3 + 0) a) 2 (122 + l * 3 + 1) b) 2 (122 + l * 3 + 2) c) (fput (fput (fput (setR A0 6 ((if (F0 5 2) = 10 then ((F0 5 1) + 1) % 10 + 9 else (F0 5 1) + (F0 5 2)) % 10 * 140) 140 (A0 2)) 2 (122 + l * 3 + 0) a) 2 (122 + l * 3 + 1) b) 2 (122 + l * 3 + 2) c) ∧ 0 = onF (lnR (A0 2) l a b c) l (Int.toNat 0))))))))
  refine ⟨fun c1 => ?_, fun c1 => ?_⟩
  · skip
    (try simp only [w32_0, wbi0, Classical.not_not] at c1); (try rw [hcv] at c1); (try simp (disch := omega) only [w32_0, wbi0, Classical.not_not, w32_id] at c1)
    first
    | exact K_eq (h _ _ ⟨fun z => absurd z (by omega), fun _ => ⟨rfl, rfl⟩⟩) (if_neg (by omega))
    | (exact K_eq (h _ _ ⟨fun z => absurd z (by omega), fun _ => ⟨rfl, rfl⟩⟩) (by rw [if_pos (by omega), if_neg (by omega)]))
  · skip
    (try simp only [w32_0, wbi0, Classical.not_not] at c1); (try rw [hcv] at c1); (try simp (disch := omega) only [w32_0, wbi0, Classical.not_not, w32_id] at c1)
    refine ⟨fun c2 => ?_, fun c2 => ?_⟩
    · skip
      (try simp only [w32_0, wbi0, Classical.not_not] at c2); (try rw [hcv] at c2); (try simp (disch := omega) only [w32_0, wbi0, Classical.not_not, w32_id] at c2)
      first
      | exact K_eq (h _ _ ⟨fun z => absurd z (by omega), fun _ => ⟨rfl, rfl⟩⟩) (if_neg (by omega))
      | (exact K_eq (h _ _ ⟨fun z => absurd z (by omega), fun _ => ⟨rfl, rfl⟩⟩) (by rw [if_pos (by omega), if_neg (by omega)]))
    · skip
      (try simp only [w32_0, wbi0, Classical.not_not] at c2); (try rw [hcv] at c2); (try simp (disch := omega) only [w32_0, wbi0, Classical.not_not, w32_id] at c2)
      refine ⟨by first | exact ⟨ph1.1, ph1.2, ph2.1, ph2.2⟩ | omega, ?_⟩
      intro G_1 g1
      have gk : G_1 = kF F0 := g1
      have ek : setR A0 6 ((if F0 5 2 = 10 then (F0 5 1 + 1) % 10 + 9 else F0 5 1 + F0 5 2) % 10 * 140) 140 (A0 2) = kA F0 A0 := rfl
      rw [ek]
      refine ⟨rfl, rfl, rfl, rfl, rfl, ?_⟩
      exact ⟨by omega, by omega, by omega, by rw [gk]; exact qrP_id, rfl⟩
set_option maxRecDepth 20000 in
theorem qvX8_setLine_0_74 (l : Int) (a : Int) (b : Int) (c : Int) (F0 : FF) (A0 : AA) (K : KK) (h : (fgOK (A0 2) ∧ hsOK F0 ∧ (-2147483648 ≤ l ∧ l < 2147483648) ∧ (-2147483648 ≤ a ∧ a < 2147483648) ∧ (-2147483648 ≤ b ∧ b < 2147483648) ∧ (-2147483648 ≤ c ∧ c < 2147483648)) ∧ (∀ (G_1 : FF) (B_1 : AA), (((0 ≤ l ∧ l < A0 2 1) ∧ ((-5 ≤ a ∧ a ≤ 5) ∧ (-5 ≤ b ∧ b ≤ 5) ∧ (-200 ≤ c ∧ c ≤ 200) ∧ ¬ (a = 0 ∧ b = 0)) → chR F0 G_1 A0 B_1 (lnR (A0 2) l a b c)) ∧ (¬ ((0 ≤ l ∧ l < A0 2 1) ∧ ((-5 ≤ a ∧ a ≤ 5) ∧ (-5 ≤ b ∧ b ≤ 5) ∧ (-200 ≤ c ∧ c ≤ 200) ∧ ¬ (a = 0 ∧ b = 0))) → ch0 F0 G_1 A0 B_1)) → (K (some (some (vI (if (0 ≤ l ∧ l < A0 2 1) then (if (-5 ≤ a ∧ a ≤ 5) ∧ (-5 ≤ b ∧ b ≤ 5) ∧ (-200 ≤ c ∧ c ≤ 200) ∧ ¬ (a = 0 ∧ b = 0) then onF (lnR (A0 2) l a b c) l (Int.toNat (A0 2 0)) else -2) else -1)))) G_1 B_1))) (n : Int) (k : Int) (F : FF) (A : AA) (hi : (0 ≤ l ∧ l < A0 2 1) ∧ ((-5 ≤ a ∧ a ≤ 5) ∧ (-5 ≤ b ∧ b ≤ 5) ∧ (-200 ≤ c ∧ c ≤ 200) ∧ ¬ (a = 0 ∧ b = 0)) ∧ (0 ≤ k ∧ k ≤ A0 2 0) ∧ qrP (kF F0) F (fput (fput (fput (kA F0 A0) 2 (122 + l * 3 + 0) a) 2 (122 + l * 3 + 1) b) 2 (122 + l * 3 + 2) c) A ∧ n = onF (lnR (A0 2) l a b c) l (Int.toNat k)) : am_stp qxX8_setLine (am_run qxX8_setLine qnX8_setLine_0 (fun pc ls st F A u => qiX8_setLine_0 l a b c F0 A0 pc ls st F A u ∧ quX8_setLine_0 pc ls st F A < quX8_setLine_0 74 [some (vR 0), some (vI l), some (vI a), some (vI b), some (vI c), some (vI n), some (vI k)] [] F A) K 40) K 74 [some (vR 0), some (vI l), some (vI a), some (vI b), some (vI c), some (vI n), some (vI k)] [] F A 0 := by
  obtain ⟨hp, h⟩ := h
  have p1 := hp.1
  have ph := hp.2.1
  have q1 := p1.1.1
  have q2 := p1.1.2
  obtain ⟨ph1, ph2⟩ := ph
  have hcv : (0 ≤ w32 l ∧ w32 l < w32 (fat (A0 2) 1)) ↔ (0 ≤ l ∧ l < A0 2 1) := by rw [w32_id (x := l) (by omega) (by omega), fat_in (by omega) (by omega), w32_id (x := A0 2 1) (by omega) (by omega)]
  obtain ⟨h1, h2, h3, hQ, h4⟩ := hi
  have e2 : A 2 = (lnR (A0 2) l a b c) := by
    have z : A 2 = (fput (fput (fput (kA F0 A0) 2 (122 + l * 3 + 0) a) 2 (122 + l * 3 + 1) b) 2 (122 + l * 3 + 2) c) 2 := funext fun i => hQ.2.1 2 i (by omega)
    rw [z, lnR_2 (by omega) (by omega), kA_2]
  have hfg := lnR_fg p1 h1.1 h1.2 h2.1 h2.2.1 h2.2.2.1
  have l0 : (lnR (A0 2) l a b c) 0 = A0 2 0 := by unfold lnR; rw [if_neg (by omega), if_neg (by omega), if_neg (by omega)]
  have l1 : (lnR (A0 2) l a b c) 1 = A0 2 1 := by unfold lnR; rw [if_neg (by omega), if_neg (by omega), if_neg (by omega)]
  have nb := onF_b (lnR (A0 2) l a b c) l (Int.toNat k)
  show (w32 k < w32 (fat (A 2) 0) → ((fgOK (A 2) ∧ (0 ≤ k ∧ k < A 2 0) ∧ (0 ≤ l ∧ l < A 2 1)) ∧ (∀ (G_1 : FF) (B_1 : AA), (qrP F G_1 A B_1) → ((w32 (bi (azP (cfL (A 2) k l) (Int.toNat (A 2 (18 + k))))) = w32 0 → ((0 = 0 ∧ l = l ∧ a = a ∧ b = b ∧ c = c ∧ ((0 ≤ l ∧ l < A0 2 1) ∧ ((-5 ≤ a ∧ a ≤ 5) ∧ (-5 ≤ b ∧ b ≤ 5) ∧ (-200 ≤ c ∧ c ≤ 200) ∧ ¬ (a = 0 ∧ b = 0)) ∧ (0 ≤ (k + 1) ∧ (k + 1) ≤ A0 2 0) ∧ qrP (kF F0) G_1 (fput (fput (fput (kA F0 A0) 2 (122 + l * 3 + 0) a) 2 (122 + l * 3 + 1) b) 2 (122 + l * 3 + 2) c) B_1 ∧ n = onF (lnR (A0 2) l a b c) l (Int.toNat (k + 1)))) ∧ (Int.toNat (20 - (k + 1))) < (Int.toNat (20 - k)))) ∧ (¬ w32 (bi (azP (cfL (A 2) k l) (Int.toNat (A 2 (18 + k))))) = w32 0 → ((0 = 0 ∧ l = l ∧ a = a ∧ b = b ∧ c = c ∧ ((0 ≤ l ∧ l < A0 2 1) ∧ ((-5 ≤ a ∧ a ≤ 5) ∧ (-5 ≤ b ∧ b ≤ 5) ∧ (-200 ≤ c ∧ c ≤ 200) ∧ ¬ (a = 0 ∧ b = 0)) ∧ (0 ≤ (k + 1) ∧ (k + 1) ≤ A0 2 0) ∧ qrP (kF F0) G_1 (fput (fput (fput (kA F0 A0) 2 (122 + l * 3 + 0) a) 2 (122 + l * 3 + 1) b) 2 (122 + l * 3 + 2) c) B_1 ∧ (n + 1) = onF (lnR (A0 2) l a b c) l (Int.toNat (k + 1)))) ∧ (Int.toNat (20 - (k + 1))) < (Int.toNat (20 - k)))))))) ∧ (¬ w32 k < w32 (fat (A 2) 0) → (K (some (some (vI n))) F A))
  refine ⟨fun c1 => ?_, fun c1 => ?_⟩
  · skip
    (try rw [e2] at c1); (try simp (disch := omega) only [fat_in, w32_0, wbi0, Classical.not_not, w32_id] at c1); (try (rw [l0] at c1; simp (disch := omega) only [w32_id] at c1))
    refine ⟨by (rw [e2]; exact ⟨hfg, by rw [l0]; omega, by rw [l1]; exact h1⟩), ?_⟩
    intro G_1 B_1 g1
    rw [e2]
    refine ⟨fun c2 => ?_, fun c2 => ?_⟩
    · skip
      (try rw [e2] at c2); (try simp (disch := omega) only [fat_in, w32_0, wbi0, Classical.not_not, w32_id] at c2); (try (rw [l0] at c2; simp (disch := omega) only [w32_id] at c2))
      refine ⟨⟨rfl, rfl, rfl, rfl, rfl, ?_⟩, by omega⟩
      refine ⟨h1, h2, by omega, qrP_trans hQ g1, ?_⟩
      rw [h4]; unfold onF; rw [sumI_s h3.1, bi_f c2, Int.add_zero]
    · skip
      (try rw [e2] at c2); (try simp (disch := omega) only [fat_in, w32_0, wbi0, Classical.not_not, w32_id] at c2); (try (rw [l0] at c2; simp (disch := omega) only [w32_id] at c2))
      refine ⟨⟨rfl, rfl, rfl, rfl, rfl, ?_⟩, by omega⟩
      refine ⟨h1, h2, by omega, qrP_trans hQ g1, ?_⟩
      rw [h4]; unfold onF; rw [sumI_s h3.1, bi_t c2]
  · skip
    (try rw [e2] at c1); (try simp (disch := omega) only [fat_in, w32_0, wbi0, Classical.not_not, w32_id] at c1); (try (rw [l0] at c1; simp (disch := omega) only [w32_id] at c1))
    refine K_eq (h _ _ ⟨fun _ => ⟨hQ.1, fun b i hb => ?_, fun i i0 i1 => by rw [e2], fun z => hQ.2.2.1 (caAll_fp (caAll_fp (caAll_fp (caAll_k z)))), fun z => hQ.2.2.2 (r20_c (fput_r (by decide)) (r20_c (fput_r (by decide)) (r20_c (fput_r (by decide)) (r20_c (setR_r (by decide)) z))))⟩, fun z => absurd ⟨h1, h2⟩ z⟩) ?_
    · rw [hQ.2.1 b i hb.2, fput_r hb.1, fput_r hb.1, fput_r hb.1]
    · rw [if_pos h1, if_pos h2, h4, show k = A0 2 0 by omega]
set_option maxRecDepth 20000 in
theorem qvX8_setLine_0 (l : Int) (a : Int) (b : Int) (c : Int) (F0 : FF) (A0 : AA) (K : KK) (h : (fgOK (A0 2) ∧ hsOK F0 ∧ (-2147483648 ≤ l ∧ l < 2147483648) ∧ (-2147483648 ≤ a ∧ a < 2147483648) ∧ (-2147483648 ≤ b ∧ b < 2147483648) ∧ (-2147483648 ≤ c ∧ c < 2147483648)) ∧ (∀ (G_1 : FF) (B_1 : AA), (((0 ≤ l ∧ l < A0 2 1) ∧ ((-5 ≤ a ∧ a ≤ 5) ∧ (-5 ≤ b ∧ b ≤ 5) ∧ (-200 ≤ c ∧ c ≤ 200) ∧ ¬ (a = 0 ∧ b = 0)) → chR F0 G_1 A0 B_1 (lnR (A0 2) l a b c)) ∧ (¬ ((0 ≤ l ∧ l < A0 2 1) ∧ ((-5 ≤ a ∧ a ≤ 5) ∧ (-5 ≤ b ∧ b ≤ 5) ∧ (-200 ≤ c ∧ c ≤ 200) ∧ ¬ (a = 0 ∧ b = 0))) → ch0 F0 G_1 A0 B_1)) → (K (some (some (vI (if (0 ≤ l ∧ l < A0 2 1) then (if (-5 ≤ a ∧ a ≤ 5) ∧ (-5 ≤ b ∧ b ≤ 5) ∧ (-200 ≤ c ∧ c ≤ 200) ∧ ¬ (a = 0 ∧ b = 0) then onF (lnR (A0 2) l a b c) l (Int.toNat (A0 2 0)) else -2) else -1)))) G_1 B_1))) : am_body qxX8_setLine qnX8_setLine_0 40 (qiX8_setLine_0 l a b c F0 A0) quX8_setLine_0 [vR 0, vI l, vI a, vI b, vI c] 7 F0 A0 K := by
  refine ⟨qvX8_setLine_0_0 l a b c F0 A0 K h, fun pc ls st F A u hI => ?_⟩
  unfold qiX8_setLine_0 at hI
  replace hI := am_cond2 hI
  rcases hI with ⟨hb, hI⟩ | hI
  · have hb := am_bq hb
    subst hb
    split at hI
    · rename_i s0 s1 s2 s3 s4 n k
      obtain ⟨e0, e1, e2, e3, e4, hI⟩ := hI
      subst e0
      subst e1
      subst e2
      subst e3
      subst e4
      exact qvX8_setLine_0_74 _ _ _ _ _ _ K h _ _ _ _ hI
    · exact hI.elim
  exact hI.elim
theorem qtX8_setLine (l : Launch) : am_CT l layX qeX8_setLine := am_met0 rfl (by decide +kernel) rfl rfl rfl rfl rfl (fun _ => rfl) rfl (qzX8_setLine l) (fun k e1 h => (qyX8_setLine l k e1 h).2) (fun as F A K h => by
  replace h : qsX8_setLine as F A K := h
  unfold qsX8_setLine at h
  split at h
  · rename_i o l a b c
    refine ⟨by first | exact Nat.le_of_ble_eq_true rfl | simp [am_fl, am_cat], ?_⟩
    replace h := am_cond2 h
    rcases h with ⟨hb, h⟩ | h
    · skip
      have hb0 := hb
      have hb0 := am_bq hb0
      subst hb0
      exact am_way_body (qvX8_setLine_0 l a b c F A K h)
    exact h.elim
  · exact h.elim)
def qkX7_filled : Nat → Option CI := fun pc => cond (Nat.ble 5 pc) none (cond (Nat.beq pc 0) (some (.aload_n 0, 1, [])) (cond (Nat.beq pc 1) (some (.getfield 15, 4, [])) (cond (Nat.beq pc 4) (some (.ireturn, 5, [])) (none))))
theorem qkX7_filled_ok : ∀ pc i nx ts, qkX7_filled pc = some (i, nx, ts) → am_cok cX7_filled pc (i, nx, ts) = true := fun pc i nx ts h => am_tok_ok (n := 5) (by decide +kernel) (fun pc h => by show cond (Nat.ble 5 pc) _ _ = _; rw [Nat.ble_eq_true_of_le h]; rfl) h
def qaX7_filled : Nat → Option CE := fun k => none
theorem qyX7_filled (l : Launch) : ∀ k e1, qaX7_filled k = some e1 → am_cal l layX RX7 3 k e1 ∧ ceT e1 = 0 := q_nil
def qxX7_filled : CX := (qkX7_filled, layX, qfX7, qaX7_filled, qcX7, qlX7, qmX7, (some .int), false, none, 0, none, fun _ => none)
theorem qzX7_filled (l : Launch) : am_sta l qxX7_filled RX7 3 cX7_filled := ⟨qkX7_filled_ok, layX_ok, qfX7_ok, qcX7_ok, qlX7_ok, am_mthP qmX7_ok (by decide), fun k e1 h => (qyX7_filled l k e1 h).1⟩
def qsX7_filled : SP := fun as F A K => match as with
  | [.inr (.inr o)] => cond (Nat.beq o 7) (K (some (some (vI (F 7 1)))) F A) (False)
  | _ => False
def qeX7_filled : CE := (yX7_filled, cX7_filled, 1, (some .int), 0, some 7, 0, none, 0, 3, qsX7_filled)
theorem qbX7_filled : am_mb qeX7_filled := ⟨am_tb_at 602 (by decide +kernel) rfl, am_tb_at 38 (by decide +kernel) rfl, ⟨by decide, by decide, by decide +kernel⟩, by decide, am_tb_at 600 (by decide +kernel) rfl, am_tb_at 601 (by decide +kernel) rfl, _, _, rfl⟩
set_option maxRecDepth 20000 in
theorem qvX7_filled_7  (F : FF) (A : AA) (K : KK) (h : K (some (some (vI (F 7 1)))) F A) : am_line qxX7_filled 4 [vR 7] 1 F A K := by
  show am_stp qxX7_filled (am_run qxX7_filled (fun _ => none) (fun _ _ _ _ _ _ => False) K 4) K 0 [some (vR 7)] [] F A 0
  show K (some (some (vI (F 7 1)))) F A
  first | exact h | exact K_eq h (by first | omega | (simp (disch := omega) only [w32_0, w64_0, wbi0, wbi1, yc_eq0, yc_lt0, yc_gt0, Classical.not_not, w32_id, w64_id]; omega) | (simp (disch := omega) only [w32_0, w64_0, wbi0, wbi1, yc_eq0, yc_lt0, yc_gt0, Classical.not_not, w32_id, w64_id]; done))
theorem qtX7_filled (l : Launch) : am_CT l layX qeX7_filled := am_met0 rfl (by decide +kernel) rfl rfl rfl rfl rfl (fun _ => rfl) rfl (qzX7_filled l) (fun k e1 h => (qyX7_filled l k e1 h).2) (fun as F A K h => by
  replace h : qsX7_filled as F A K := h
  unfold qsX7_filled at h
  split at h
  · rename_i o
    refine ⟨by first | exact Nat.le_of_ble_eq_true rfl | simp [am_fl, am_cat], ?_⟩
    replace h := am_cond2 h
    rcases h with ⟨hb, h⟩ | h
    · skip
      have hb0 := hb
      have hb0 := am_bq hb0
      subst hb0
      exact am_way_line (qvX7_filled_7  F A K h)
    exact h.elim
  · exact h.elim)
def qkX7_empty : Nat → Option CI := fun pc => cond (Nat.ble 6 pc) none (cond (Nat.ble 2 pc) (cond (Nat.beq pc 2) (some (.putfield 15, 5, [])) (cond (Nat.beq pc 5) (some (.return_, 6, [])) (none))) (cond (Nat.beq pc 0) (some (.aload_n 0, 1, [])) (cond (Nat.beq pc 1) (some (.iconst 0, 2, [])) (none))))
theorem qkX7_empty_ok : ∀ pc i nx ts, qkX7_empty pc = some (i, nx, ts) → am_cok cX7_empty pc (i, nx, ts) = true := fun pc i nx ts h => am_tok_ok (n := 6) (by decide +kernel) (fun pc h => by show cond (Nat.ble 6 pc) _ _ = _; rw [Nat.ble_eq_true_of_le h]; rfl) h
def qaX7_empty : Nat → Option CE := fun k => none
theorem qyX7_empty (l : Launch) : ∀ k e1, qaX7_empty k = some e1 → am_cal l layX RX7 3 k e1 ∧ ceT e1 = 0 := q_nil
def qxX7_empty : CX := (qkX7_empty, layX, qfX7, qaX7_empty, qcX7, qlX7, qmX7, none, false, none, 0, none, fun _ => none)
theorem qzX7_empty (l : Launch) : am_sta l qxX7_empty RX7 3 cX7_empty := ⟨qkX7_empty_ok, layX_ok, qfX7_ok, qcX7_ok, qlX7_ok, am_mthP qmX7_ok (by decide), fun k e1 h => (qyX7_empty l k e1 h).1⟩
def qsX7_empty : SP := fun as F A K => match as with
  | [.inr (.inr o)] => cond (Nat.beq o 7) (K (some none) (upF F 7 1 0) A) (False)
  | _ => False
def qeX7_empty : CE := (yX7_empty, cX7_empty, 1, none, 0, some 7, 0, none, 0, 3, qsX7_empty)
theorem qbX7_empty : am_mb qeX7_empty := ⟨am_tb_at 748 (by decide +kernel) rfl, am_tb_at 38 (by decide +kernel) rfl, ⟨by decide, by decide, by decide +kernel⟩, by decide, am_tb_at 746 (by decide +kernel) rfl, am_tb_at 747 (by decide +kernel) rfl, _, _, rfl⟩
set_option maxRecDepth 20000 in
theorem qvX7_empty_7  (F : FF) (A : AA) (K : KK) (h : K (some none) (upF F 7 1 0) A) : am_line qxX7_empty 5 [vR 7] 1 F A K := by
  show am_stp qxX7_empty (am_run qxX7_empty (fun _ => none) (fun _ _ _ _ _ _ => False) K 5) K 0 [some (vR 7)] [] F A 0
  show K (some none) (upF F 7 1 0) A
  first | exact h | exact K_eq h (by first | omega | (simp (disch := omega) only [w32_0, w64_0, wbi0, wbi1, yc_eq0, yc_lt0, yc_gt0, Classical.not_not, w32_id, w64_id]; omega) | (simp (disch := omega) only [w32_0, w64_0, wbi0, wbi1, yc_eq0, yc_lt0, yc_gt0, Classical.not_not, w32_id, w64_id]; done))
theorem qtX7_empty (l : Launch) : am_CT l layX qeX7_empty := am_met0 rfl (by decide +kernel) rfl rfl rfl rfl rfl (fun _ => rfl) rfl (qzX7_empty l) (fun k e1 h => (qyX7_empty l k e1 h).2) (fun as F A K h => by
  replace h : qsX7_empty as F A K := h
  unfold qsX7_empty at h
  split at h
  · rename_i o
    refine ⟨by first | exact Nat.le_of_ble_eq_true rfl | simp [am_fl, am_cat], ?_⟩
    replace h := am_cond2 h
    rcases h with ⟨hb, h⟩ | h
    · skip
      have hb0 := hb
      have hb0 := am_bq hb0
      subst hb0
      exact am_way_line (qvX7_empty_7  F A K h)
    exact h.elim
  · exact h.elim)
def qkX7_place : Nat → Option CI := fun pc => cond (Nat.ble 5 pc) none (cond (Nat.beq pc 0) (some (.aload_n 0, 1, [])) (cond (Nat.beq pc 1) (some (.getfield 19, 4, [])) (cond (Nat.beq pc 4) (some (.ireturn, 5, [])) (none))))
theorem qkX7_place_ok : ∀ pc i nx ts, qkX7_place pc = some (i, nx, ts) → am_cok cX7_place pc (i, nx, ts) = true := fun pc i nx ts h => am_tok_ok (n := 5) (by decide +kernel) (fun pc h => by show cond (Nat.ble 5 pc) _ _ = _; rw [Nat.ble_eq_true_of_le h]; rfl) h
def qaX7_place : Nat → Option CE := fun k => none
theorem qyX7_place (l : Launch) : ∀ k e1, qaX7_place k = some e1 → am_cal l layX RX7 3 k e1 ∧ ceT e1 = 0 := q_nil
def qxX7_place : CX := (qkX7_place, layX, qfX7, qaX7_place, qcX7, qlX7, qmX7, (some .int), false, none, 0, none, fun _ => none)
theorem qzX7_place (l : Launch) : am_sta l qxX7_place RX7 3 cX7_place := ⟨qkX7_place_ok, layX_ok, qfX7_ok, qcX7_ok, qlX7_ok, am_mthP qmX7_ok (by decide), fun k e1 h => (qyX7_place l k e1 h).1⟩
def qsX7_place : SP := fun as F A K => match as with
  | [.inr (.inr o)] => cond (Nat.beq o 7) (K (some (some (vI (F 7 3)))) F A) (False)
  | _ => False
def qeX7_place : CE := (yX7_place, cX7_place, 1, (some .int), 0, some 7, 0, none, 0, 3, qsX7_place)
theorem qbX7_place : am_mb qeX7_place := ⟨am_tb_at 752 (by decide +kernel) rfl, am_tb_at 38 (by decide +kernel) rfl, ⟨by decide, by decide, by decide +kernel⟩, by decide, am_tb_at 750 (by decide +kernel) rfl, am_tb_at 751 (by decide +kernel) rfl, _, _, rfl⟩
set_option maxRecDepth 20000 in
theorem qvX7_place_7  (F : FF) (A : AA) (K : KK) (h : K (some (some (vI (F 7 3)))) F A) : am_line qxX7_place 4 [vR 7] 1 F A K := by
  show am_stp qxX7_place (am_run qxX7_place (fun _ => none) (fun _ _ _ _ _ _ => False) K 4) K 0 [some (vR 7)] [] F A 0
  show K (some (some (vI (F 7 3)))) F A
  first | exact h | exact K_eq h (by first | omega | (simp (disch := omega) only [w32_0, w64_0, wbi0, wbi1, yc_eq0, yc_lt0, yc_gt0, Classical.not_not, w32_id, w64_id]; omega) | (simp (disch := omega) only [w32_0, w64_0, wbi0, wbi1, yc_eq0, yc_lt0, yc_gt0, Classical.not_not, w32_id, w64_id]; done))
theorem qtX7_place (l : Launch) : am_CT l layX qeX7_place := am_met0 rfl (by decide +kernel) rfl rfl rfl rfl rfl (fun _ => rfl) rfl (qzX7_place l) (fun k e1 h => (qyX7_place l k e1 h).2) (fun as F A K h => by
  replace h : qsX7_place as F A K := h
  unfold qsX7_place at h
  split at h
  · rename_i o
    refine ⟨by first | exact Nat.le_of_ble_eq_true rfl | simp [am_fl, am_cat], ?_⟩
    replace h := am_cond2 h
    rcases h with ⟨hb, h⟩ | h
    · skip
      have hb0 := hb
      have hb0 := am_bq hb0
      subst hb0
      exact am_way_line (qvX7_place_7  F A K h)
    exact h.elim
  · exact h.elim)
