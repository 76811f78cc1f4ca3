def qkX9_divisor : Nat → Option CI := fun pc => cond (Nat.ble 56 pc) none (cond (Nat.ble 25 pc) (cond (Nat.ble 39 pc) (cond (Nat.ble 46 pc) (cond (Nat.ble 50 pc) (cond (Nat.beq pc 50) (some (.goto (-22), 53, [28])) (cond (Nat.beq pc 53) (some (.lload 4, 55, [])) (cond (Nat.beq pc 55) (some (.lreturn, 56, [])) (none)))) (cond (Nat.beq pc 46) (some (.lload 8, 48, [])) (cond (Nat.beq pc 48) (some (.lstore 6, 50, [])) (none)))) (cond (Nat.ble 42 pc) (cond (Nat.beq pc 42) (some (.lload 6, 44, [])) (cond (Nat.beq pc 44) (some (.lstore 4, 46, [])) (none))) (cond (Nat.beq pc 39) (some (.lrem, 40, [])) (cond (Nat.beq pc 40) (some (.lstore 8, 42, [])) (none))))) (cond (Nat.ble 31 pc) (cond (Nat.ble 35 pc) (cond (Nat.beq pc 35) (some (.lload 4, 37, [])) (cond (Nat.beq pc 37) (some (.lload 6, 39, [])) (none))) (cond (Nat.beq pc 31) (some (.lcmp, 32, [])) (cond (Nat.beq pc 32) (some (.ifCond .eq 21, 35, [53])) (none)))) (cond (Nat.ble 28 pc) (cond (Nat.beq pc 28) (some (.lload 6, 30, [])) (cond (Nat.beq pc 30) (some (.lconst 0, 31, [])) (none))) (cond (Nat.beq pc 25) (some (.lload_n 2, 26, [])) (cond (Nat.beq pc 26) (some (.lstore 6, 28, [])) (none)))))) (cond (Nat.ble 12 pc) (cond (Nat.ble 17 pc) (cond (Nat.ble 21 pc) (cond (Nat.beq pc 21) (some (.lneg, 22, [])) (cond (Nat.beq pc 22) (some (.goto 4, 25, [26])) (none))) (cond (Nat.beq pc 17) (some (.ifCond .ge 8, 20, [25])) (cond (Nat.beq pc 20) (some (.lload_n 2, 21, [])) (none)))) (cond (Nat.ble 15 pc) (cond (Nat.beq pc 15) (some (.lconst 0, 16, [])) (cond (Nat.beq pc 16) (some (.lcmp, 17, [])) (none))) (cond (Nat.beq pc 12) (some (.lstore 4, 14, [])) (cond (Nat.beq pc 14) (some (.lload_n 2, 15, [])) (none))))) (cond (Nat.ble 6 pc) (cond (Nat.ble 8 pc) (cond (Nat.beq pc 8) (some (.goto 4, 11, [12])) (cond (Nat.beq pc 11) (some (.lload_n 0, 12, [])) (none))) (cond (Nat.beq pc 6) (some (.lload_n 0, 7, [])) (cond (Nat.beq pc 7) (some (.lneg, 8, [])) (none)))) (cond (Nat.ble 2 pc) (cond (Nat.beq pc 2) (some (.lcmp, 3, [])) (cond (Nat.beq pc 3) (some (.ifCond .ge 8, 6, [11])) (none))) (cond (Nat.beq pc 0) (some (.lload_n 0, 1, [])) (cond (Nat.beq pc 1) (some (.lconst 0, 2, [])) (none)))))))
theorem qkX9_divisor_ok : ∀ pc i nx ts, qkX9_divisor pc = some (i, nx, ts) → am_cok cX9_divisor pc (i, nx, ts) = true := fun pc i nx ts h => am_tok_ok (n := 56) (by decide +kernel) (fun pc h => by show cond (Nat.ble 56 pc) _ _ = _; rw [Nat.ble_eq_true_of_le h]; rfl) h
def qaX9_divisor : Nat → Option CE := fun k => none
theorem qyX9_divisor (l : Launch) : ∀ k e1, qaX9_divisor k = some e1 → am_cal l layM RX9 3 k e1 ∧ ceT e1 = 0 := q_nil
def qxX9_divisor : CX := (qkX9_divisor, layM, qfX9, qaX9_divisor, qcX9, qlX9, qmX9, (some .long), false, none, 0, none, fun _ => none)
theorem qzX9_divisor (l : Launch) : am_sta l qxX9_divisor RX9 3 cX9_divisor := ⟨qkX9_divisor_ok, layM_ok, qfX9_ok, qcX9_ok, qlX9_ok, am_mthP qmX9_ok (by decide), fun k e1 h => (qyX9_divisor l k e1 h).1⟩
def qsX9_divisor : SP := fun as F A K => match as with
  | [.inr (.inl x), .inr (.inl y)] => ((-4611686018427387904 < x ∧ x < 4611686018427387904) ∧ (-4611686018427387904 < y ∧ y < 4611686018427387904)) ∧ (K (some (some (vL (Int.gcd x y : Int)))) F A)
  | _ => False
def qeX9_divisor : CE := (yX9_divisor, cX9_divisor, 10, (some .long), 2, none, 0, [], 0, 3, qsX9_divisor)
theorem qbX9_divisor : am_mb qeX9_divisor := ⟨am_tb_at 1721 (by decide +kernel) rfl, am_tb_at 124 (by decide +kernel) rfl, ⟨by decide, by decide, by decide +kernel⟩, by decide, am_tb_at 1720 (by decide +kernel) rfl⟩
def qnX9_divisor : CUT := fun pc => cond (Nat.beq pc 28) (some [true, false, true, false, true, false, true, false, false, false]) (none)
def qiX9_divisor (x : Int) (y : Int) (F0 : FF) (A0 : AA) : REC := fun pc ls st F A u => cond (Nat.beq pc 28) (match ls, st, u with
    | [some (.inr (.inl s0)), none, some (.inr (.inl s2)), none, some (.inr (.inl a)), none, some (.inr (.inl b)), none, none, none], [], 0 => s0 = x ∧ s2 = y ∧ F = F0 ∧ A = A0 ∧ ((0 ≤ a ∧ a < 4611686018427387904) ∧ (0 ≤ b ∧ b < 4611686018427387904) ∧ Int.gcd a b = Int.gcd x y)
    | _, _, _ => False) (False)
def quX9_divisor : Nat → LVs → List AV → FF → AA → Nat := fun pc ls _ F A => cond (Nat.beq pc 28) (match ls with
    | [some (.inr (.inl s0)), none, some (.inr (.inl s2)), none, some (.inr (.inl a)), none, some (.inr (.inl b)), none, none, none] => Int.toNat b
    | _ => 0) (0)
set_option maxRecDepth 20000 in
theorem qvX9_divisor_0 (x : Int) (y : Int) (F0 : FF) (A0 : AA) (K : KK) (h : ((-4611686018427387904 < x ∧ x < 4611686018427387904) ∧ (-4611686018427387904 < y ∧ y < 4611686018427387904)) ∧ (K (some (some (vL (Int.gcd x y : Int)))) F0 A0)) : am_stp qxX9_divisor (am_run qxX9_divisor qnX9_divisor (qiX9_divisor x y F0 A0) K 19) K 0 (am_ent [vL x, vL y] 10) [] F0 A0 0 := by
  show am_stp qxX9_divisor (am_run qxX9_divisor qnX9_divisor (qiX9_divisor x y F0 A0) K 19) K 0 [some (vL x), none, some (vL y), none, none, none, none, none, none, none] [] F0 A0 0
  obtain ⟨hp, h⟩ := h
  show (w32 (y_cmp x 0) < w32 0 → ((w32 (y_cmp y 0) < w32 0 → (x = x ∧ y = y ∧ F0 = F0 ∧ A0 = A0 ∧ ((0 ≤ (-x) ∧ (-x) < 4611686018427387904) ∧ (0 ≤ (-y) ∧ (-y) < 4611686018427387904) ∧ Int.gcd (-x) (-y) = Int.gcd x y))) ∧ (¬ w32 (y_cmp y 0) < w32 0 → (x = x ∧ y = y ∧ F0 = F0 ∧ A0 = A0 ∧ ((0 ≤ (-x) ∧ (-x) < 4611686018427387904) ∧ (0 ≤ y ∧ y < 4611686018427387904) ∧ Int.gcd (-x) y = Int.gcd x y))))) ∧ (¬ w32 (y_cmp x 0) < w32 0 → ((w32 (y_cmp y 0) < w32 0 → (x = x ∧ y = y ∧ F0 = F0 ∧ A0 = A0 ∧ ((0 ≤ x ∧ x < 4611686018427387904) ∧ (0 ≤ (-y) ∧ (-y) < 4611686018427387904) ∧ Int.gcd x (-y) = Int.gcd x y))) ∧ (¬ w32 (y_cmp y 0) < w32 0 → (x = x ∧ y = y ∧ F0 = F0 ∧ A0 = A0 ∧ ((0 ≤ x ∧ x < 4611686018427387904) ∧ (0 ≤ y ∧ y < 4611686018427387904) ∧ Int.gcd x y = Int.gcd x y)))))
  refine ⟨fun c1 => ?_, fun c1 => ?_⟩
  · skip
    (try simp (disch := omega) only [w32_0, w64_0, w32_id, yc_eq0, yc_gt0, yc_lt0, w64_id] at c1)
    refine ⟨fun c2 => ?_, fun c2 => ?_⟩
    · skip
      (try simp (disch := omega) only [w32_0, w64_0, w32_id, yc_eq0, yc_gt0, yc_lt0, w64_id] at c2)
      refine ⟨rfl, rfl, rfl, rfl, ?_⟩
      exact ⟨by omega, by omega, by simp only [Int.neg_gcd, Int.gcd_neg]⟩
    · skip
      (try simp (disch := omega) only [w32_0, w64_0, w32_id, yc_eq0, yc_gt0, yc_lt0, w64_id] at c2)
      refine ⟨rfl, rfl, rfl, rfl, ?_⟩
      exact ⟨by omega, by omega, by simp only [Int.neg_gcd, Int.gcd_neg]⟩
  · skip
    (try simp (disch := omega) only [w32_0, w64_0, w32_id, yc_eq0, yc_gt0, yc_lt0, w64_id] at c1)
    refine ⟨fun c2 => ?_, fun c2 => ?_⟩
    · skip
      (try simp (disch := omega) only [w32_0, w64_0, w32_id, yc_eq0, yc_gt0, yc_lt0, w64_id] at c2)
      refine ⟨rfl, rfl, rfl, rfl, ?_⟩
      exact ⟨by omega, by omega, by simp only [Int.neg_gcd, Int.gcd_neg]⟩
    · skip
      (try simp (disch := omega) only [w32_0, w64_0, w32_id, yc_eq0, yc_gt0, yc_lt0, w64_id] at c2)
      refine ⟨rfl, rfl, rfl, rfl, ?_⟩
      exact ⟨by omega, by omega, by simp only [Int.neg_gcd, Int.gcd_neg]⟩
set_option maxRecDepth 20000 in
theorem qvX9_divisor_28 (x : Int) (y : Int) (F0 : FF) (A0 : AA) (K : KK) (h : ((-4611686018427387904 < x ∧ x < 4611686018427387904) ∧ (-4611686018427387904 < y ∧ y < 4611686018427387904)) ∧ (K (some (some (vL (Int.gcd x y : Int)))) F0 A0)) (a : Int) (b : Int) (hi : (0 ≤ a ∧ a < 4611686018427387904) ∧ (0 ≤ b ∧ b < 4611686018427387904) ∧ Int.gcd a b = Int.gcd x y) : am_stp qxX9_divisor (am_run qxX9_divisor qnX9_divisor (fun pc ls st F9 A9 u => qiX9_divisor x y F0 A0 pc ls st F9 A9 u ∧ quX9_divisor pc ls st F9 A9 < quX9_divisor 28 [some (vL x), none, some (vL y), none, some (vL a), none, some (vL b), none, none, none] [] F0 A0) K 19) K 28 [some (vL x), none, some (vL y), none, some (vL a), none, some (vL b), none, none, none] [] F0 A0 0 := by
  obtain ⟨hp, h⟩ := h
  obtain ⟨h1, h2, h3⟩ := hi
  show (w32 (y_cmp b 0) = w32 0 → (K (some (some (vL a))) F0 A0)) ∧ (¬ w32 (y_cmp b 0) = w32 0 → ((w64 b ≠ 0) ∧ ((x = x ∧ y = y ∧ F0 = F0 ∧ A0 = A0 ∧ ((0 ≤ b ∧ b < 4611686018427387904) ∧ (0 ≤ (y_rem a b) ∧ (y_rem a b) < 4611686018427387904) ∧ Int.gcd b (y_rem a b) = Int.gcd x y)) ∧ (Int.toNat (y_rem a b)) < (Int.toNat b))))
  refine ⟨fun c1 => ?_, fun c1 => ?_⟩
  · skip
    (try simp (disch := omega) only [w32_0, w64_0, w32_id, yc_eq0, yc_gt0, yc_lt0, w64_id] at c1)
    refine L_eq h ?_
    rw [← h3, show b = 0 by omega, Int.gcd_zero_right]; omega
  · skip
    (try simp (disch := omega) only [w32_0, w64_0, w32_id, yc_eq0, yc_gt0, yc_lt0, w64_id] at c1)
    refine ⟨by (rw [w64_id (by omega) (by omega)]; omega), ?_⟩
    refine ⟨⟨rfl, rfl, rfl, rfl, ?_⟩, by (rw [y_rem_eq (by omega) (by omega) (by omega) (by omega)]; have r0 := Int.emod_nonneg a (b := b) (by omega); have r1 := Int.emod_lt_of_pos a (b := b) (by omega); omega)⟩
    rw [y_rem_eq (by omega) (by omega) (by omega) (by omega)]
    have r0 := Int.emod_nonneg a (b := b) (by omega)
    have r1 := Int.emod_lt_of_pos a (b := b) (by omega)
    refine ⟨h2, by omega, ?_⟩
    rw [← h3, Int.gcd_comm a b, Int.emod_def]
    exact Int.gcd_sub_mul_left_right b a (a / b)
set_option maxRecDepth 20000 in
theorem qvX9_divisor (x : Int) (y : Int) (F0 : FF) (A0 : AA) (K : KK) (h : ((-4611686018427387904 < x ∧ x < 4611686018427387904) ∧ (-4611686018427387904 < y ∧ y < 4611686018427387904)) ∧ (K (some (some (vL (Int.gcd x y : Int)))) F0 A0)) : am_body qxX9_divisor qnX9_divisor 19 (qiX9_divisor x y F0 A0) quX9_divisor [vL x, vL y] 10 F0 A0 K := by
  refine ⟨qvX9_divisor_0 x y F0 A0 K h, fun pc ls st F A u hI => ?_⟩
  unfold qiX9_divisor at hI
  replace hI := am_cond2 hI
  rcases hI with ⟨hb, hI⟩ | hI
  · have hb := am_bq hb
    subst hb
    split at hI
    · rename_i s0 s2 a b
      obtain ⟨e0, e1, e2, e3, hI⟩ := hI
      subst e0
      subst e1
      subst e2
      subst e3
      exact qvX9_divisor_28 _ _ _ _ K h _ _ hI
    · exact hI.elim
  exact hI.elim
theorem qtX9_divisor (l : Launch) : am_CT l layM qeX9_divisor := am_met0 rfl (by decide +kernel) rfl rfl rfl rfl rfl (fun _ => rfl) rfl (qzX9_divisor l) (fun k e1 h => (qyX9_divisor l k e1 h).2) (fun as F A K h => by
  replace h : qsX9_divisor as F A K := h
  unfold qsX9_divisor at h
  split at h
  · rename_i x y
    refine ⟨by first | exact Nat.le_of_ble_eq_true rfl | simp [am_fl, am_cat], ?_⟩
    exact am_way_body (qvX9_divisor x y F A K h)
  · exact h.elim)
def qkX9_halves : Nat → Option CI := fun pc => cond (Nat.ble 128 pc) none (cond (Nat.ble 63 pc) (cond (Nat.ble 92 pc) (cond (Nat.ble 110 pc) (cond (Nat.ble 115 pc) (cond (Nat.ble 121 pc) (cond (Nat.beq pc 121) (some (.iinc 5 1, 124, [])) (cond (Nat.beq pc 124) (some (.goto (-93), 127, [31])) (cond (Nat.beq pc 127) (some (.return_, 128, [])) (none)))) (cond (Nat.beq pc 115) (some (.iinc 6 1, 118, [])) (cond (Nat.beq pc 118) (some (.goto (-31), 121, [87])) (none)))) (cond (Nat.ble 112 pc) (cond (Nat.beq pc 112) (some (.laload, 113, [])) (cond (Nat.beq pc 113) (some (.ladd, 114, [])) (cond (Nat.beq pc 114) (some (.lastore, 115, [])) (none)))) (cond (Nat.beq pc 110) (some (.iconst 1, 111, [])) (cond (Nat.beq pc 111) (some (.iadd, 112, [])) (none))))) (cond (Nat.ble 102 pc) (cond (Nat.ble 104 pc) (cond (Nat.beq pc 104) (some (.aload_n 0, 105, [])) (cond (Nat.beq pc 105) (some (.getfield 28, 108, [])) (cond (Nat.beq pc 108) (some (.iload 6, 110, [])) (none)))) (cond (Nat.beq pc 102) (some (.dup2, 103, [])) (cond (Nat.beq pc 103) (some (.laload, 104, [])) (none)))) (cond (Nat.ble 96 pc) (cond (Nat.beq pc 96) (some (.aload_n 0, 97, [])) (cond (Nat.beq pc 97) (some (.getfield 28, 100, [])) (cond (Nat.beq pc 100) (some (.iload 6, 102, [])) (none)))) (cond (Nat.beq pc 92) (some (.isub, 93, [])) (cond (Nat.beq pc 93) (some (.if_icmp .ge 28, 96, [121])) (none)))))) (cond (Nat.ble 78 pc) (cond (Nat.ble 84 pc) (cond (Nat.ble 87 pc) (cond (Nat.beq pc 87) (some (.iload 6, 89, [])) (cond (Nat.beq pc 89) (some (.iload_n 3, 90, [])) (cond (Nat.beq pc 90) (some (.iload 5, 92, [])) (none)))) (cond (Nat.beq pc 84) (some (.iconst 0, 85, [])) (cond (Nat.beq pc 85) (some (.istore 6, 87, [])) (none)))) (cond (Nat.ble 81 pc) (cond (Nat.beq pc 81) (some (.isub, 82, [])) (cond (Nat.beq pc 82) (some (.lshl, 83, [])) (cond (Nat.beq pc 83) (some (.lastore, 84, [])) (none)))) (cond (Nat.beq pc 78) (some (.iload_n 3, 79, [])) (cond (Nat.beq pc 79) (some (.iload 5, 81, [])) (none))))) (cond (Nat.ble 71 pc) (cond (Nat.ble 73 pc) (cond (Nat.beq pc 73) (some (.getfield 28, 76, [])) (cond (Nat.beq pc 76) (some (.iconst 0, 77, [])) (cond (Nat.beq pc 77) (some (.laload, 78, [])) (none)))) (cond (Nat.beq pc 71) (some (.iadd, 72, [])) (cond (Nat.beq pc 72) (some (.aload_n 0, 73, [])) (none)))) (cond (Nat.ble 67 pc) (cond (Nat.beq pc 67) (some (.aload_n 1, 68, [])) (cond (Nat.beq pc 68) (some (.iload_n 2, 69, [])) (cond (Nat.beq pc 69) (some (.iload 5, 71, [])) (none)))) (cond (Nat.beq pc 63) (some (.lastore, 64, [])) (cond (Nat.beq pc 64) (some (.goto 20, 67, [84])) (none))))))) (cond (Nat.ble 33 pc) (cond (Nat.ble 49 pc) (cond (Nat.ble 57 pc) (cond (Nat.ble 59 pc) (cond (Nat.beq pc 59) (some (.iload 5, 61, [])) (cond (Nat.beq pc 61) (some (.isub, 62, [])) (cond (Nat.beq pc 62) (some (.lshl, 63, [])) (none)))) (cond (Nat.beq pc 57) (some (.laload, 58, [])) (cond (Nat.beq pc 58) (some (.iload_n 3, 59, [])) (none)))) (cond (Nat.ble 53 pc) (cond (Nat.beq pc 53) (some (.iload_n 3, 54, [])) (cond (Nat.beq pc 54) (some (.iload 5, 56, [])) (cond (Nat.beq pc 56) (some (.isub, 57, [])) (none)))) (cond (Nat.beq pc 49) (some (.aload_n 0, 50, [])) (cond (Nat.beq pc 50) (some (.getfield 28, 53, [])) (none))))) (cond (Nat.ble 43 pc) (cond (Nat.ble 45 pc) (cond (Nat.beq pc 45) (some (.iadd, 46, [])) (cond (Nat.beq pc 46) (some (.iload 5, 48, [])) (cond (Nat.beq pc 48) (some (.isub, 49, [])) (none)))) (cond (Nat.beq pc 43) (some (.iload_n 2, 44, [])) (cond (Nat.beq pc 44) (some (.iload_n 3, 45, [])) (none)))) (cond (Nat.ble 37 pc) (cond (Nat.beq pc 37) (some (.iload 4, 39, [])) (cond (Nat.beq pc 39) (some (.ifCond .eq 28, 42, [67])) (cond (Nat.beq pc 42) (some (.aload_n 1, 43, [])) (none)))) (cond (Nat.beq pc 33) (some (.iload_n 3, 34, [])) (cond (Nat.beq pc 34) (some (.if_icmp .gt 93, 37, [127])) (none)))))) (cond (Nat.ble 16 pc) (cond (Nat.ble 22 pc) (cond (Nat.ble 28 pc) (cond (Nat.beq pc 28) (some (.iconst 0, 29, [])) (cond (Nat.beq pc 29) (some (.istore 5, 31, [])) (cond (Nat.beq pc 31) (some (.iload 5, 33, [])) (none)))) (cond (Nat.beq pc 22) (some (.iinc 5 1, 25, [])) (cond (Nat.beq pc 25) (some (.goto (-22), 28, [3])) (none)))) (cond (Nat.ble 19 pc) (cond (Nat.beq pc 19) (some (.iadd, 20, [])) (cond (Nat.beq pc 20) (some (.laload, 21, [])) (cond (Nat.beq pc 21) (some (.lastore, 22, [])) (none)))) (cond (Nat.beq pc 16) (some (.iload_n 2, 17, [])) (cond (Nat.beq pc 17) (some (.iload 5, 19, [])) (none))))) (cond (Nat.ble 6 pc) (cond (Nat.ble 10 pc) (cond (Nat.beq pc 10) (some (.getfield 28, 13, [])) (cond (Nat.beq pc 13) (some (.iload 5, 15, [])) (cond (Nat.beq pc 15) (some (.aload_n 1, 16, [])) (none)))) (cond (Nat.beq pc 6) (some (.if_icmp .gt 22, 9, [28])) (cond (Nat.beq pc 9) (some (.aload_n 0, 10, [])) (none)))) (cond (Nat.ble 3 pc) (cond (Nat.beq pc 3) (some (.iload 5, 5, [])) (cond (Nat.beq pc 5) (some (.iload_n 3, 6, [])) (none))) (cond (Nat.beq pc 0) (some (.iconst 0, 1, [])) (cond (Nat.beq pc 1) (some (.istore 5, 3, [])) (none))))))))
theorem qkX9_halves_ok : ∀ pc i nx ts, qkX9_halves pc = some (i, nx, ts) → am_cok cX9_halves pc (i, nx, ts) = true := fun pc i nx ts h => am_tok_ok (n := 128) (by decide +kernel) (fun pc h => by show cond (Nat.ble 128 pc) _ _ = _; rw [Nat.ble_eq_true_of_le h]; rfl) h
def qaX9_halves : Nat → Option CE := fun k => none
theorem qyX9_halves (l : Launch) : ∀ k e1, qaX9_halves k = some e1 → am_cal l layM RX9 3 k e1 ∧ ceT e1 = 0 := q_nil
def qxX9_halves : CX := (qkX9_halves, layM, qfX9, qaX9_halves, qcX9, qlX9, qmX9, none, false, none, 0, none, fun _ => none)
theorem qzX9_halves (l : Launch) : am_sta l qxX9_halves RX9 3 cX9_halves := ⟨qkX9_halves_ok, layM_ok, qfX9_ok, qcX9_ok, qlX9_ok, am_mthP qmX9_ok (by decide), fun k e1 h => (qyX9_halves l k e1 h).1⟩
def qsX9_halves : SP := fun as F A K => match as with
  | [.inr (.inr o), .inr (.inr r), .inl p, .inl n, .inl z] => cond (Nat.beq o 25 && Nat.beq r 33) ((((0 ≤ n ∧ n ≤ 3) ∧ (z = 0 ∨ z = 1)) ∧ (0 ≤ p ∧ p + 4 ≤ 12) ∧ ∀ i, 0 ≤ i → i ≤ n → -1125899906842624 ≤ A 33 (p + i) ∧ A 33 (p + i) ≤ 1125899906842624) ∧ (∀ (B_1 : AA), ((∀ b i, b ≠ 32 ∧ (b ≠ 33 ∨ i < p ∨ p + n < i) → B_1 b i = A b i) ∧ ∀ k, 0 ≤ k → k ≤ n → B_1 33 (p + k) = hv (fun xx => A 33 (p + xx)) n z k) → (K (some none) F B_1))) (cond (Nat.beq o 25 && Nat.beq r 34) ((((0 ≤ n ∧ n ≤ 3) ∧ (z = 0 ∨ z = 1)) ∧ (0 ≤ p ∧ p + 4 ≤ 4) ∧ ∀ i, 0 ≤ i → i ≤ n → -1125899906842624 ≤ A 34 (p + i) ∧ A 34 (p + i) ≤ 1125899906842624) ∧ (∀ (B_1 : AA), ((∀ b i, b ≠ 32 ∧ (b ≠ 34 ∨ i < p ∨ p + n < i) → B_1 b i = A b i) ∧ ∀ k, 0 ≤ k → k ≤ n → B_1 34 (p + k) = hv (fun xx => A 34 (p + xx)) n z k) → (K (some none) F B_1))) (False))
  | _ => False
def qeX9_halves : CE := (yX9_halves, cX9_halves, 7, none, 4, some 9, 0, [], 0, 3, qsX9_halves)
theorem qbX9_halves : am_mb qeX9_halves := ⟨am_tb_at 1706 (by decide +kernel) rfl, am_tb_at 124 (by decide +kernel) rfl, ⟨by decide, by decide, by decide +kernel⟩, by decide, by decide, am_tb_at 1705 (by decide +kernel) rfl, am_tb_at 74 (by decide +kernel) rfl, _, _, rfl⟩
def qnX9_halves_25_33 : CUT := fun pc => cond (Nat.beq pc 3) (some [true, true, true, true, true, true, false]) (cond (Nat.beq pc 31) (some [true, true, true, true, true, true, false]) (cond (Nat.beq pc 87) (some [true, true, true, true, true, true, true]) (none)))
def qiX9_halves_25_33 (p : Int) (n : Int) (z : Int) (F0 : FF) (A0 : AA) : REC := fun pc ls st F A u => cond (Nat.beq pc 3) (match ls, st, u with
    | [some (.inr (.inr s0)), some (.inr (.inr s1)), some (.inl s2), some (.inl s3), some (.inl s4), some (.inl k), none], [], 0 => s0 = 25 ∧ s1 = 33 ∧ s2 = p ∧ s3 = n ∧ s4 = z ∧ F = F0 ∧ ((0 ≤ k ∧ k ≤ n + 1) ∧ (∀ bb ii, bb ≠ 32 → A bb ii = A0 bb ii) ∧ ∀ ii, 0 ≤ ii → ii < k → A 32 ii = A0 33 (p + ii))
    | _, _, _ => False) (cond (Nat.beq pc 31) (match ls, st, u with
    | [some (.inr (.inr s0)), some (.inr (.inr s1)), some (.inl s2), some (.inl s3), some (.inl s4), some (.inl k), none], [], 0 => s0 = 25 ∧ s1 = 33 ∧ s2 = p ∧ s3 = n ∧ s4 = z ∧ F = F0 ∧ ((0 ≤ k ∧ k ≤ n + 1) ∧ (∀ bb ii, bb ≠ 32 ∧ (bb ≠ 33 ∨ ii < p ∨ p + n < ii) → A bb ii = A0 bb ii) ∧ (∀ ii, 0 ≤ ii → ii ≤ n - k → A 32 ii = dF (fun xx => A0 33 (p + xx)) (Int.toNat k) ii) ∧ (z = 0 → ∀ jj, 0 ≤ jj → jj < k → A 33 (p + jj) = hv (fun xx => A0 33 (p + xx)) n 0 jj) ∧ (z = 1 → ∀ jj, n - k < jj → jj ≤ n → A 33 (p + jj) = hv (fun xx => A0 33 (p + xx)) n 1 jj))
    | _, _, _ => False) (cond (Nat.beq pc 87) (match ls, st, u with
    | [some (.inr (.inr s0)), some (.inr (.inr s1)), some (.inl s2), some (.inl s3), some (.inl s4), some (.inl k), some (.inl i)], [], 0 => s0 = 25 ∧ s1 = 33 ∧ s2 = p ∧ s3 = n ∧ s4 = z ∧ F = F0 ∧ ((0 ≤ k ∧ k ≤ n) ∧ (0 ≤ i ∧ i ≤ n - k) ∧ (∀ bb ii, bb ≠ 32 ∧ (bb ≠ 33 ∨ ii < p ∨ p + n < ii) → A bb ii = A0 bb ii) ∧ (∀ jj, 0 ≤ jj → jj < i → A 32 jj = dF (fun xx => A0 33 (p + xx)) (Int.toNat (k + 1)) jj) ∧ (∀ jj, i ≤ jj → jj ≤ n - k → A 32 jj = dF (fun xx => A0 33 (p + xx)) (Int.toNat k) jj) ∧ (z = 0 → ∀ jj, 0 ≤ jj → jj < k + 1 → A 33 (p + jj) = hv (fun xx => A0 33 (p + xx)) n 0 jj) ∧ (z = 1 → ∀ jj, n - (k + 1) < jj → jj ≤ n → A 33 (p + jj) = hv (fun xx => A0 33 (p + xx)) n 1 jj))
    | _, _, _ => False) (False)))
def quX9_halves_25_33 : Nat → LVs → List AV → FF → AA → Nat := fun pc ls _ F A => cond (Nat.beq pc 3) (match ls with
    | [some (.inr (.inr s0)), some (.inr (.inr s1)), some (.inl s2), some (.inl s3), some (.inl s4), some (.inl k), none] => Int.toNat (900 - k)
    | _ => 0) (cond (Nat.beq pc 31) (match ls with
    | [some (.inr (.inr s0)), some (.inr (.inr s1)), some (.inl s2), some (.inl s3), some (.inl s4), some (.inl k), none] => Int.toNat (800 - 20 * k)
    | _ => 0) (cond (Nat.beq pc 87) (match ls with
    | [some (.inr (.inr s0)), some (.inr (.inr s1)), some (.inl s2), some (.inl s3), some (.inl s4), some (.inl k), some (.inl i)] => Int.toNat (799 - 20 * k - i)
    | _ => 0) (0)))
set_option maxRecDepth 20000 in
theorem qvX9_halves_25_33_0 (p : Int) (n : Int) (z : Int) (F0 : FF) (A0 : AA) (K : KK) (h : (((0 ≤ n ∧ n ≤ 3) ∧ (z = 0 ∨ z = 1)) ∧ (0 ≤ p ∧ p + 4 ≤ 12) ∧ ∀ i, 0 ≤ i → i ≤ n → -1125899906842624 ≤ A0 33 (p + i) ∧ A0 33 (p + i) ≤ 1125899906842624) ∧ (∀ (B_1 : AA), ((∀ b i, b ≠ 32 ∧ (b ≠ 33 ∨ i < p ∨ p + n < i) → B_1 b i = A0 b i) ∧ ∀ k, 0 ≤ k → k ≤ n → B_1 33 (p + k) = hv (fun xx => A0 33 (p + xx)) n z k) → (K (some none) F0 B_1))) : am_stp qxX9_halves (am_run qxX9_halves qnX9_halves_25_33 (qiX9_halves_25_33 p n z F0 A0) K 28) K 0 (am_ent [vR 25, vR 33, vI p, vI n, vI z] 7) [] F0 A0 0 := by
  show am_stp qxX9_halves (am_run qxX9_halves qnX9_halves_25_33 (qiX9_halves_25_33 p n z F0 A0) K 28) K 0 [some (vR 25), some (vR 33), some (vI p), some (vI n), some (vI z), none, none] [] F0 A0 0
  obtain ⟨hp, h⟩ := h
  obtain ⟨⟨p1, p2'⟩, p3, p4⟩ := hp
  show 25 = 25 ∧ 33 = 33 ∧ p = p ∧ n = n ∧ z = z ∧ F0 = F0 ∧ ((0 ≤ 0 ∧ 0 ≤ n + 1) ∧ (∀ bb ii, bb ≠ 32 → A0 bb ii = A0 bb ii) ∧ ∀ ii, 0 ≤ ii → ii < 0 → A0 32 ii = A0 33 (p + ii))
  refine ⟨rfl, rfl, rfl, rfl, rfl, rfl, ?_⟩
  exact ⟨by omega, fun _ _ _ => rfl, fun i i0 i1 => by omega⟩
set_option maxRecDepth 20000 in
theorem qvX9_halves_25_33_3 (p : Int) (n : Int) (z : Int) (F0 : FF) (A0 : AA) (K : KK) (h : (((0 ≤ n ∧ n ≤ 3) ∧ (z = 0 ∨ z = 1)) ∧ (0 ≤ p ∧ p + 4 ≤ 12) ∧ ∀ i, 0 ≤ i → i ≤ n → -1125899906842624 ≤ A0 33 (p + i) ∧ A0 33 (p + i) ≤ 1125899906842624) ∧ (∀ (B_1 : AA), ((∀ b i, b ≠ 32 ∧ (b ≠ 33 ∨ i < p ∨ p + n < i) → B_1 b i = A0 b i) ∧ ∀ k, 0 ≤ k → k ≤ n → B_1 33 (p + k) = hv (fun xx => A0 33 (p + xx)) n z k) → (K (some none) F0 B_1))) (k : Int) (A : AA) (hi : (0 ≤ k ∧ k ≤ n + 1) ∧ (∀ bb ii, bb ≠ 32 → A bb ii = A0 bb ii) ∧ ∀ ii, 0 ≤ ii → ii < k → A 32 ii = A0 33 (p + ii)) : am_stp qxX9_halves (am_run qxX9_halves qnX9_halves_25_33 (fun pc ls st F9 A9 u => qiX9_halves_25_33 p n z F0 A0 pc ls st F9 A9 u ∧ quX9_halves_25_33 pc ls st F9 A9 < quX9_halves_25_33 3 [some (vR 25), some (vR 33), some (vI p), some (vI n), some (vI z), some (vI k), none] [] F0 A) K 28) K 3 [some (vR 25), some (vR 33), some (vI p), some (vI n), some (vI z), some (vI k), none] [] F0 A 0 := by
  obtain ⟨hp, h⟩ := h
  obtain ⟨⟨p1, p2'⟩, p3, p4⟩ := hp
  obtain ⟨h1, h2, h3⟩ := hi
  show (w32 n < w32 k → ((25 = 25 ∧ 33 = 33 ∧ p = p ∧ n = n ∧ z = z ∧ F0 = F0 ∧ ((0 ≤ 0 ∧ 0 ≤ n + 1) ∧ (∀ bb ii, bb ≠ 32 ∧ (bb ≠ 33 ∨ ii < p ∨ p + n < ii) → A bb ii = A0 bb ii) ∧ (∀ ii, 0 ≤ ii → ii ≤ n - 0 → A 32 ii = dF (fun xx => A0 33 (p + xx)) (Int.toNat 0) ii) ∧ (z = 0 → ∀ jj, 0 ≤ jj → jj < 0 → A 33 (p + jj) = hv (fun xx => A0 33 (p + xx)) n 0 jj) ∧ (z = 1 → ∀ jj, n - 0 < jj → jj ≤ n → A 33 (p + jj) = hv (fun xx => A0 33 (p + xx)) n 1 jj))) ∧ (Int.toNat (800 - 20 * 0)) < (Int.toNat (900 - k)))) ∧ (¬ w32 n < w32 k → ((0 ≤ w32 (p + k) ∧ w32 (p + k) < 12) ∧ ((0 ≤ w32 k ∧ w32 k < 4) ∧ ((25 = 25 ∧ 33 = 33 ∧ p = p ∧ n = n ∧ z = z ∧ F0 = F0 ∧ ((0 ≤ (k + 1) ∧ (k + 1) ≤ n + 1) ∧ (∀ bb ii, bb ≠ 32 → (upA A 32 (w32 k) (A 33 (w32 (p + k)))) bb ii = A0 bb ii) ∧ ∀ ii, 0 ≤ ii → ii < (k + 1) → (upA A 32 (w32 k) (A 33 (w32 (p + k)))) 32 ii = A0 33 (p + ii))) ∧ (Int.toNat (900 - (k + 1))) < (Int.toNat (900 - k))))))
  refine ⟨fun c1 => ?_, fun c1 => ?_⟩
  · skip
    (try simp (disch := omega) only [fat_in, w32_0, wbi0, Classical.not_not, w32_id] at c1)
    refine ⟨⟨rfl, rfl, rfl, rfl, rfl, rfl, ?_⟩, by omega⟩
    exact ⟨by omega, fun b i hb => h2 b i hb.1, fun i i0 i1 => h3 i i0 (by omega), fun _ j j0 j1 => by omega, fun _ j j0 j1 => by omega⟩
  · skip
    (try simp (disch := omega) only [fat_in, w32_0, wbi0, Classical.not_not, w32_id] at c1)
    refine ⟨by (first | omega | (rw [w32_id (by omega) (by omega)]; omega)), ?_⟩
    refine ⟨by (first | omega | (rw [w32_id (by omega) (by omega)]; omega)), ?_⟩
    refine ⟨⟨rfl, rfl, rfl, rfl, rfl, rfl, ?_⟩, by omega⟩
    simp (disch := omega) only [w32_id]
    refine ⟨by omega, fun b i hb => by rw [upA_k hb]; exact h2 b i hb, fun i i0 i1 => ?_⟩
    by_cases e : i = k
    · rw [e, upA_s, h2 33 _ (by decide)]
    · rw [upA_o e]; exact h3 i i0 (by omega)
set_option maxRecDepth 20000 in
theorem qvX9_halves_25_33_31 (p : Int) (n : Int) (z : Int) (F0 : FF) (A0 : AA) (K : KK) (h : (((0 ≤ n ∧ n ≤ 3) ∧ (z = 0 ∨ z = 1)) ∧ (0 ≤ p ∧ p + 4 ≤ 12) ∧ ∀ i, 0 ≤ i → i ≤ n → -1125899906842624 ≤ A0 33 (p + i) ∧ A0 33 (p + i) ≤ 1125899906842624) ∧ (∀ (B_1 : AA), ((∀ b i, b ≠ 32 ∧ (b ≠ 33 ∨ i < p ∨ p + n < i) → B_1 b i = A0 b i) ∧ ∀ k, 0 ≤ k → k ≤ n → B_1 33 (p + k) = hv (fun xx => A0 33 (p + xx)) n z k) → (K (some none) F0 B_1))) (k : Int) (A : AA) (hi : (0 ≤ k ∧ k ≤ n + 1) ∧ (∀ bb ii, bb ≠ 32 ∧ (bb ≠ 33 ∨ ii < p ∨ p + n < ii) → A bb ii = A0 bb ii) ∧ (∀ ii, 0 ≤ ii → ii ≤ n - k → A 32 ii = dF (fun xx => A0 33 (p + xx)) (Int.toNat k) ii) ∧ (z = 0 → ∀ jj, 0 ≤ jj → jj < k → A 33 (p + jj) = hv (fun xx => A0 33 (p + xx)) n 0 jj) ∧ (z = 1 → ∀ jj, n - k < jj → jj ≤ n → A 33 (p + jj) = hv (fun xx => A0 33 (p + xx)) n 1 jj)) : am_stp qxX9_halves (am_run qxX9_halves qnX9_halves_25_33 (fun pc ls st F9 A9 u => qiX9_halves_25_33 p n z F0 A0 pc ls st F9 A9 u ∧ quX9_halves_25_33 pc ls st F9 A9 < quX9_halves_25_33 31 [some (vR 25), some (vR 33), some (vI p), some (vI n), some (vI z), some (vI k), none] [] F0 A) K 28) K 31 [some (vR 25), some (vR 33), some (vI p), some (vI n), some (vI z), some (vI k), none] [] F0 A 0 := by
  obtain ⟨hp, h⟩ := h
  obtain ⟨⟨p1, p2'⟩, p3, p4⟩ := hp
  obtain ⟨h1, hF, hW, hD0, hD1⟩ := hi
  have eb := fun (i : Int) (i0 : 0 ≤ i) (i1 : i + k ≤ n) => dF_b3 (x := (fun xx => A0 33 (p + xx))) (n := n) (k := k) (i := i) p4 h1.1 (by omega) i0 i1
  show (w32 n < w32 k → (K (some none) F0 A)) ∧ (¬ w32 n < w32 k → ((w32 z = w32 0 → ((0 ≤ w32 0 ∧ w32 0 < 4) ∧ ((0 ≤ w32 (p + k) ∧ w32 (p + k) < 12) ∧ ((25 = 25 ∧ 33 = 33 ∧ p = p ∧ n = n ∧ z = z ∧ F0 = F0 ∧ ((0 ≤ k ∧ k ≤ n) ∧ (0 ≤ 0 ∧ 0 ≤ n - k) ∧ (∀ bb ii, bb ≠ 32 ∧ (bb ≠ 33 ∨ ii < p ∨ p + n < ii) → (upA A 33 (w32 (p + k)) (y_shl (A 32 (w32 0)) (n - k))) bb ii = A0 bb ii) ∧ (∀ jj, 0 ≤ jj → jj < 0 → (upA A 33 (w32 (p + k)) (y_shl (A 32 (w32 0)) (n - k))) 32 jj = dF (fun xx => A0 33 (p + xx)) (Int.toNat (k + 1)) jj) ∧ (∀ jj, 0 ≤ jj → jj ≤ n - k → (upA A 33 (w32 (p + k)) (y_shl (A 32 (w32 0)) (n - k))) 32 jj = dF (fun xx => A0 33 (p + xx)) (Int.toNat k) jj) ∧ (z = 0 → ∀ jj, 0 ≤ jj → jj < k + 1 → (upA A 33 (w32 (p + k)) (y_shl (A 32 (w32 0)) (n - k))) 33 (p + jj) = hv (fun xx => A0 33 (p + xx)) n 0 jj) ∧ (z = 1 → ∀ jj, n - (k + 1) < jj → jj ≤ n → (upA A 33 (w32 (p + k)) (y_shl (A 32 (w32 0)) (n - k))) 33 (p + jj) = hv (fun xx => A0 33 (p + xx)) n 1 jj))) ∧ (Int.toNat (799 - 20 * k - 0)) < (Int.toNat (800 - 20 * k)))))) ∧ (¬ w32 z = w32 0 → ((0 ≤ w32 (n - k) ∧ w32 (n - k) < 4) ∧ ((0 ≤ w32 ((p + n) - k) ∧ w32 ((p + n) - k) < 12) ∧ ((25 = 25 ∧ 33 = 33 ∧ p = p ∧ n = n ∧ z = z ∧ F0 = F0 ∧ ((0 ≤ k ∧ k ≤ n) ∧ (0 ≤ 0 ∧ 0 ≤ n - k) ∧ (∀ bb ii, bb ≠ 32 ∧ (bb ≠ 33 ∨ ii < p ∨ p + n < ii) → (upA A 33 (w32 ((p + n) - k)) (y_shl (A 32 (w32 (n - k))) (n - k))) bb ii = A0 bb ii) ∧ (∀ jj, 0 ≤ jj → jj < 0 → (upA A 33 (w32 ((p + n) - k)) (y_shl (A 32 (w32 (n - k))) (n - k))) 32 jj = dF (fun xx => A0 33 (p + xx)) (Int.toNat (k + 1)) jj) ∧ (∀ jj, 0 ≤ jj → jj ≤ n - k → (upA A 33 (w32 ((p + n) - k)) (y_shl (A 32 (w32 (n - k))) (n - k))) 32 jj = dF (fun xx => A0 33 (p + xx)) (Int.toNat k) jj) ∧ (z = 0 → ∀ jj, 0 ≤ jj → jj < k + 1 → (upA A 33 (w32 ((p + n) - k)) (y_shl (A 32 (w32 (n - k))) (n - k))) 33 (p + jj) = hv (fun xx => A0 33 (p + xx)) n 0 jj) ∧ (z = 1 → ∀ jj, n - (k + 1) < jj → jj ≤ n → (upA A 33 (w32 ((p + n) - k)) (y_shl (A 32 (w32 (n - k))) (n - k))) 33 (p + jj) = hv (fun xx => A0 33 (p + xx)) n 1 jj))) ∧ (Int.toNat (799 - 20 * k - 0)) < (Int.toNat (800 - 20 * k))))))))
  refine ⟨fun c1 => ?_, fun c1 => ?_⟩
  · skip
    (try simp (disch := omega) only [fat_in, w32_0, wbi0, Classical.not_not, w32_id] at c1)
    refine h _ ⟨hF, fun j j0 j1 => ?_⟩
    rcases p2' with rfl | rfl
    · exact hD0 rfl j j0 (by omega)
    · exact hD1 rfl j (by omega) j1
  · skip
    (try simp (disch := omega) only [fat_in, w32_0, wbi0, Classical.not_not, w32_id] at c1)
    refine ⟨fun c2 => ?_, fun c2 => ?_⟩
    · skip
      (try simp (disch := omega) only [fat_in, w32_0, wbi0, Classical.not_not, w32_id] at c2)
      refine ⟨by (first | omega | (rw [w32_id (by omega) (by omega)]; omega) | (simp (disch := omega) only [w32_id]; omega)), ?_⟩
      refine ⟨by (first | omega | (rw [w32_id (by omega) (by omega)]; omega) | (simp (disch := omega) only [w32_id]; omega)), ?_⟩
      refine ⟨⟨rfl, rfl, rfl, rfl, rfl, rfl, ?_⟩, by omega⟩
      have z0 : z = 0 := by omega
      subst z0
      have w0 := hW 0 (by omega) (by omega)
      simp (disch := omega) only [w32_id]
      refine ⟨⟨h1.1, by omega⟩, by omega, fun b i hb => by rw [upA, if_neg (by omega)]; exact hF b i hb, fun j j0 j1 => by omega, fun j j0 j1 => by rw [upA_k (by decide)]; exact hW j (by omega) j1, fun _ j j0 j1 => ?_, fun hz => by omega⟩
      by_cases e : j = k
      · rw [e, upA_s, w0, y_shl_eq (by omega) (by omega) (by have := eb 0 (by omega) (by omega); omega) (by have := eb 0 (by omega) (by omega); omega), hv_0 h1.1 (by omega)]
      · rw [upA_o (by omega)]; exact hD0 rfl j j0 (by omega)
    · skip
      (try simp (disch := omega) only [fat_in, w32_0, wbi0, Classical.not_not, w32_id] at c2)
      refine ⟨by (first | omega | (rw [w32_id (by omega) (by omega)]; omega) | (simp (disch := omega) only [w32_id]; omega)), ?_⟩
      refine ⟨by (first | omega | (rw [w32_id (by omega) (by omega)]; omega) | (simp (disch := omega) only [w32_id]; omega)), ?_⟩
      refine ⟨⟨rfl, rfl, rfl, rfl, rfl, rfl, ?_⟩, by omega⟩
      have z1 : z = 1 := by omega
      subst z1
      have w0 := hW (n - k) (by omega) (by omega)
      simp (disch := omega) only [w32_id]
      refine ⟨⟨h1.1, by omega⟩, by omega, fun b i hb => by rw [upA, if_neg (by omega)]; exact hF b i hb, fun j j0 j1 => by omega, fun j j0 j1 => by rw [upA_k (by decide)]; exact hW j (by omega) j1, fun hz => by omega, fun _ j j0 j1 => ?_⟩
      by_cases e : j = n - k
      · rw [e, show p + n - k = p + (n - k) by omega, upA_s, w0, y_shl_eq (by omega) (by omega) (by have := eb (n - k) (by omega) (by omega); omega) (by have := eb (n - k) (by omega) (by omega); omega), hv_1 (by omega) (by omega), show n - (n - k) = k by omega]
      · rw [upA_o (by omega)]; exact hD1 rfl j (by omega) j1
set_option maxRecDepth 20000 in
theorem qvX9_halves_25_33_87 (p : Int) (n : Int) (z : Int) (F0 : FF) (A0 : AA) (K : KK) (h : (((0 ≤ n ∧ n ≤ 3) ∧ (z = 0 ∨ z = 1)) ∧ (0 ≤ p ∧ p + 4 ≤ 12) ∧ ∀ i, 0 ≤ i → i ≤ n → -1125899906842624 ≤ A0 33 (p + i) ∧ A0 33 (p + i) ≤ 1125899906842624) ∧ (∀ (B_1 : AA), ((∀ b i, b ≠ 32 ∧ (b ≠ 33 ∨ i < p ∨ p + n < i) → B_1 b i = A0 b i) ∧ ∀ k, 0 ≤ k → k ≤ n → B_1 33 (p + k) = hv (fun xx => A0 33 (p + xx)) n z k) → (K (some none) F0 B_1))) (k : Int) (i : Int) (A : AA) (hi : (0 ≤ k ∧ k ≤ n) ∧ (0 ≤ i ∧ i ≤ n - k) ∧ (∀ bb ii, bb ≠ 32 ∧ (bb ≠ 33 ∨ ii < p ∨ p + n < ii) → A bb ii = A0 bb ii) ∧ (∀ jj, 0 ≤ jj → jj < i → A 32 jj = dF (fun xx => A0 33 (p + xx)) (Int.toNat (k + 1)) jj) ∧ (∀ jj, i ≤ jj → jj ≤ n - k → A 32 jj = dF (fun xx => A0 33 (p + xx)) (Int.toNat k) jj) ∧ (z = 0 → ∀ jj, 0 ≤ jj → jj < k + 1 → A 33 (p + jj) = hv (fun xx => A0 33 (p + xx)) n 0 jj) ∧ (z = 1 → ∀ jj, n - (k + 1) < jj → jj ≤ n → A 33 (p + jj) = hv (fun xx => A0 33 (p + xx)) n 1 jj)) : am_stp qxX9_halves (am_run qxX9_halves qnX9_halves_25_33 (fun pc ls st F9 A9 u => qiX9_halves_25_33 p n z F0 A0 pc ls st F9 A9 u ∧ quX9_halves_25_33 pc ls st F9 A9 < quX9_halves_25_33 87 [some (vR 25), some (vR 33), some (vI p), some (vI n), some (vI z), some (vI k), some (vI i)] [] F0 A) K 28) K 87 [some (vR 25), some (vR 33), some (vI p), some (vI n), some (vI z), some (vI k), some (vI i)] [] F0 A 0 := by
  obtain ⟨hp, h⟩ := h
  obtain ⟨⟨p1, p2'⟩, p3, p4⟩ := hp
  obtain ⟨h1, h2, hF, hW, hX, hD0, hD1⟩ := hi
  show (w32 i < w32 (n - k) → ((0 ≤ w32 i ∧ w32 i < 4) ∧ ((0 ≤ w32 (i + 1) ∧ w32 (i + 1) < 4) ∧ ((0 ≤ w32 i ∧ w32 i < 4) ∧ ((25 = 25 ∧ 33 = 33 ∧ p = p ∧ n = n ∧ z = z ∧ F0 = F0 ∧ ((0 ≤ k ∧ k ≤ n) ∧ (0 ≤ (i + 1) ∧ (i + 1) ≤ n - k) ∧ (∀ bb ii, bb ≠ 32 ∧ (bb ≠ 33 ∨ ii < p ∨ p + n < ii) → (upA A 32 (w32 i) ((A 32 (w32 i)) + (A 32 (w32 (i + 1))))) bb ii = A0 bb ii) ∧ (∀ jj, 0 ≤ jj → jj < (i + 1) → (upA A 32 (w32 i) ((A 32 (w32 i)) + (A 32 (w32 (i + 1))))) 32 jj = dF (fun xx => A0 33 (p + xx)) (Int.toNat (k + 1)) jj) ∧ (∀ jj, (i + 1) ≤ jj → jj ≤ n - k → (upA A 32 (w32 i) ((A 32 (w32 i)) + (A 32 (w32 (i + 1))))) 32 jj = dF (fun xx => A0 33 (p + xx)) (Int.toNat k) jj) ∧ (z = 0 → ∀ jj, 0 ≤ jj → jj < k + 1 → (upA A 32 (w32 i) ((A 32 (w32 i)) + (A 32 (w32 (i + 1))))) 33 (p + jj) = hv (fun xx => A0 33 (p + xx)) n 0 jj) ∧ (z = 1 → ∀ jj, n - (k + 1) < jj → jj ≤ n → (upA A 32 (w32 i) ((A 32 (w32 i)) + (A 32 (w32 (i + 1))))) 33 (p + jj) = hv (fun xx => A0 33 (p + xx)) n 1 jj))) ∧ (Int.toNat (799 - 20 * k - (i + 1))) < (Int.toNat (799 - 20 * k - i))))))) ∧ (¬ w32 i < w32 (n - k) → ((25 = 25 ∧ 33 = 33 ∧ p = p ∧ n = n ∧ z = z ∧ F0 = F0 ∧ ((0 ≤ (k + 1) ∧ (k + 1) ≤ n + 1) ∧ (∀ bb ii, bb ≠ 32 ∧ (bb ≠ 33 ∨ ii < p ∨ p + n < ii) → A bb ii = A0 bb ii) ∧ (∀ ii, 0 ≤ ii → ii ≤ n - (k + 1) → A 32 ii = dF (fun xx => A0 33 (p + xx)) (Int.toNat (k + 1)) ii) ∧ (z = 0 → ∀ jj, 0 ≤ jj → jj < (k + 1) → A 33 (p + jj) = hv (fun xx => A0 33 (p + xx)) n 0 jj) ∧ (z = 1 → ∀ jj, n - (k + 1) < jj → jj ≤ n → A 33 (p + jj) = hv (fun xx => A0 33 (p + xx)) n 1 jj))) ∧ (Int.toNat (800 - 20 * (k + 1))) < (Int.toNat (799 - 20 * k - i))))
  refine ⟨fun c1 => ?_, fun c1 => ?_⟩
  · skip
    (try simp (disch := omega) only [fat_in, w32_0, wbi0, Classical.not_not, w32_id] at c1)
    refine ⟨by (first | omega | (rw [w32_id (by omega) (by omega)]; omega)), ?_⟩
    refine ⟨by (first | omega | (rw [w32_id (by omega) (by omega)]; omega)), ?_⟩
    refine ⟨by (first | omega | (rw [w32_id (by omega) (by omega)]; omega)), ?_⟩
    refine ⟨⟨rfl, rfl, rfl, rfl, rfl, rfl, ?_⟩, by omega⟩
    have e1 := hX i (by omega) (by omega)
    have e2 := hX (i + 1) (by omega) (by omega)
    simp (disch := omega) only [w32_id]
    refine ⟨h1, by omega, fun b j hb => by rw [upA_k hb.1]; exact hF b j hb, fun j j0 j1 => ?_, fun j j0 j1 => by rw [upA_o (by omega)]; exact hX j (by omega) j1, fun hz j j0 j1 => by rw [upA_k (by decide)]; exact hD0 hz j j0 j1, fun hz j j0 j1 => by rw [upA_k (by decide)]; exact hD1 hz j j0 j1⟩
    by_cases e : j = i
    · rw [e, upA_s, e1, e2, dF_s h1.1]
    · rw [upA_o e]; exact hW j j0 (by omega)
  · skip
    (try simp (disch := omega) only [fat_in, w32_0, wbi0, Classical.not_not, w32_id] at c1)
    refine ⟨⟨rfl, rfl, rfl, rfl, rfl, rfl, ?_⟩, by omega⟩
    exact ⟨by omega, hF, fun j j0 j1 => hW j j0 (by omega), hD0, hD1⟩
set_option maxRecDepth 20000 in
theorem qvX9_halves_25_33 (p : Int) (n : Int) (z : Int) (F0 : FF) (A0 : AA) (K : KK) (h : (((0 ≤ n ∧ n ≤ 3) ∧ (z = 0 ∨ z = 1)) ∧ (0 ≤ p ∧ p + 4 ≤ 12) ∧ ∀ i, 0 ≤ i → i ≤ n → -1125899906842624 ≤ A0 33 (p + i) ∧ A0 33 (p + i) ≤ 1125899906842624) ∧ (∀ (B_1 : AA), ((∀ b i, b ≠ 32 ∧ (b ≠ 33 ∨ i < p ∨ p + n < i) → B_1 b i = A0 b i) ∧ ∀ k, 0 ≤ k → k ≤ n → B_1 33 (p + k) = hv (fun xx => A0 33 (p + xx)) n z k) → (K (some none) F0 B_1))) : am_body qxX9_halves qnX9_halves_25_33 28 (qiX9_halves_25_33 p n z F0 A0) quX9_halves_25_33 [vR 25, vR 33, vI p, vI n, vI z] 7 F0 A0 K := by
  refine ⟨qvX9_halves_25_33_0 p n z F0 A0 K h, fun pc ls st F A u hI => ?_⟩
  unfold qiX9_halves_25_33 at hI
  replace hI := am_cond2 hI
  rcases hI with ⟨hb, hI⟩ | hI
  · have hb := am_bq hb
    subst hb
    split at hI
    · rename_i s0 s1 s2 s3 s4 k
      obtain ⟨e0, e1, e2, e3, e4, e5, hI⟩ := hI
      subst e0
      subst e1
      subst e2
      subst e3
      subst e4
      subst e5
      exact qvX9_halves_25_33_3 _ _ _ _ _ K h _ _ hI
    · exact hI.elim
  replace hI := am_cond2 hI
  rcases hI with ⟨hb, hI⟩ | hI
  · have hb := am_bq hb
    subst hb
    split at hI
    · rename_i s0 s1 s2 s3 s4 k
      obtain ⟨e0, e1, e2, e3, e4, e5, hI⟩ := hI
      subst e0
      subst e1
      subst e2
      subst e3
      subst e4
      subst e5
      exact qvX9_halves_25_33_31 _ _ _ _ _ K h _ _ hI
    · exact hI.elim
  replace hI := am_cond2 hI
  rcases hI with ⟨hb, hI⟩ | hI
  · have hb := am_bq hb
    subst hb
    split at hI
    · rename_i s0 s1 s2 s3 s4 k i
      obtain ⟨e0, e1, e2, e3, e4, e5, hI⟩ := hI
      subst e0
      subst e1
      subst e2
      subst e3
      subst e4
      subst e5
      exact qvX9_halves_25_33_87 _ _ _ _ _ K h _ _ _ hI
    · exact hI.elim
  exact hI.elim
def qnX9_halves_25_34 : CUT := fun pc => cond (Nat.beq pc 3) (some [true, true, true, true, true, true, false]) (cond (Nat.beq pc 31) (some [true, true, true, true, true, true, false]) (cond (Nat.beq pc 87) (some [true, true, true, true, true, true, true]) (none)))
def qiX9_halves_25_34 (p : Int) (n : Int) (z : Int) (F0 : FF) (A0 : AA) : REC := fun pc ls st F A u => cond (Nat.beq pc 3) (match ls, st, u with
    | [some (.inr (.inr s0)), some (.inr (.inr s1)), some (.inl s2), some (.inl s3), some (.inl s4), some (.inl k), none], [], 0 => s0 = 25 ∧ s1 = 34 ∧ s2 = p ∧ s3 = n ∧ s4 = z ∧ F = F0 ∧ ((0 ≤ k ∧ k ≤ n + 1) ∧ (∀ bb ii, bb ≠ 32 → A bb ii = A0 bb ii) ∧ ∀ ii, 0 ≤ ii → ii < k → A 32 ii = A0 34 (p + ii))
    | _, _, _ => False) (cond (Nat.beq pc 31) (match ls, st, u with
    | [some (.inr (.inr s0)), some (.inr (.inr s1)), some (.inl s2), some (.inl s3), some (.inl s4), some (.inl k), none], [], 0 => s0 = 25 ∧ s1 = 34 ∧ s2 = p ∧ s3 = n ∧ s4 = z ∧ F = F0 ∧ ((0 ≤ k ∧ k ≤ n + 1) ∧ (∀ bb ii, bb ≠ 32 ∧ (bb ≠ 34 ∨ ii < p ∨ p + n < ii) → A bb ii = A0 bb ii) ∧ (∀ ii, 0 ≤ ii → ii ≤ n - k → A 32 ii = dF (fun xx => A0 34 (p + xx)) (Int.toNat k) ii) ∧ (z = 0 → ∀ jj, 0 ≤ jj → jj < k → A 34 (p + jj) = hv (fun xx => A0 34 (p + xx)) n 0 jj) ∧ (z = 1 → ∀ jj, n - k < jj → jj ≤ n → A 34 (p + jj) = hv (fun xx => A0 34 (p + xx)) n 1 jj))
    | _, _, _ => False) (cond (Nat.beq pc 87) (match ls, st, u with
    | [some (.inr (.inr s0)), some (.inr (.inr s1)), some (.inl s2), some (.inl s3), some (.inl s4), some (.inl k), some (.inl i)], [], 0 => s0 = 25 ∧ s1 = 34 ∧ s2 = p ∧ s3 = n ∧ s4 = z ∧ F = F0 ∧ ((0 ≤ k ∧ k ≤ n) ∧ (0 ≤ i ∧ i ≤ n - k) ∧ (∀ bb ii, bb ≠ 32 ∧ (bb ≠ 34 ∨ ii < p ∨ p + n < ii) → A bb ii = A0 bb ii) ∧ (∀ jj, 0 ≤ jj → jj < i → A 32 jj = dF (fun xx => A0 34 (p + xx)) (Int.toNat (k + 1)) jj) ∧ (∀ jj, i ≤ jj → jj ≤ n - k → A 32 jj = dF (fun xx => A0 34 (p + xx)) (Int.toNat k) jj) ∧ (z = 0 → ∀ jj, 0 ≤ jj → jj < k + 1 → A 34 (p + jj) = hv (fun xx => A0 34 (p + xx)) n 0 jj) ∧ (z = 1 → ∀ jj, n - (k + 1) < jj → jj ≤ n → A 34 (p + jj) = hv (fun xx => A0 34 (p + xx)) n 1 jj))
    | _, _, _ => False) (False)))
def quX9_halves_25_34 : Nat → LVs → List AV → FF → AA → Nat := fun pc ls _ F A => cond (Nat.beq pc 3) (match ls with
    | [some (.inr (.inr s0)), some (.inr (.inr s1)), some (.inl s2), some (.inl s3), some (.inl s4), some (.inl k), none] => Int.toNat (900 - k)
    | _ => 0) (cond (Nat.beq pc 31) (match ls with
    | [some (.inr (.inr s0)), some (.inr (.inr s1)), some (.inl s2), some (.inl s3), some (.inl s4), some (.inl k), none] => Int.toNat (800 - 20 * k)
    | _ => 0) (cond (Nat.beq pc 87) (match ls with
    | [some (.inr (.inr s0)), some (.inr (.inr s1)), some (.inl s2), some (.inl s3), some (.inl s4), some (.inl k), some (.inl i)] => Int.toNat (799 - 20 * k - i)
    | _ => 0) (0)))
set_option maxRecDepth 20000 in
theorem qvX9_halves_25_34_0 (p : Int) (n : Int) (z : Int) (F0 : FF) (A0 : AA) (K : KK) (h : (((0 ≤ n ∧ n ≤ 3) ∧ (z = 0 ∨ z = 1)) ∧ (0 ≤ p ∧ p + 4 ≤ 4) ∧ ∀ i, 0 ≤ i → i ≤ n → -1125899906842624 ≤ A0 34 (p + i) ∧ A0 34 (p + i) ≤ 1125899906842624) ∧ (∀ (B_1 : AA), ((∀ b i, b ≠ 32 ∧ (b ≠ 34 ∨ i < p ∨ p + n < i) → B_1 b i = A0 b i) ∧ ∀ k, 0 ≤ k → k ≤ n → B_1 34 (p + k) = hv (fun xx => A0 34 (p + xx)) n z k) → (K (some none) F0 B_1))) : am_stp qxX9_halves (am_run qxX9_halves qnX9_halves_25_34 (qiX9_halves_25_34 p n z F0 A0) K 28) K 0 (am_ent [vR 25, vR 34, vI p, vI n, vI z] 7) [] F0 A0 0 := by
  show am_stp qxX9_halves (am_run qxX9_halves qnX9_halves_25_34 (qiX9_halves_25_34 p n z F0 A0) K 28) K 0 [some (vR 25), some (vR 34), some (vI p), some (vI n), some (vI z), none, none] [] F0 A0 0
  obtain ⟨hp, h⟩ := h
  obtain ⟨⟨p1, p2'⟩, p3, p4⟩ := hp
  show 25 = 25 ∧ 34 = 34 ∧ p = p ∧ n = n ∧ z = z ∧ F0 = F0 ∧ ((0 ≤ 0 ∧ 0 ≤ n + 1) ∧ (∀ bb ii, bb ≠ 32 → A0 bb ii = A0 bb ii) ∧ ∀ ii, 0 ≤ ii → ii < 0 → A0 32 ii = A0 34 (p + ii))
  refine ⟨rfl, rfl, rfl, rfl, rfl, rfl, ?_⟩
  exact ⟨by omega, fun _ _ _ => rfl, fun i i0 i1 => by omega⟩
set_option maxRecDepth 20000 in
theorem qvX9_halves_25_34_3 (p : Int) (n : Int) (z : Int) (F0 : FF) (A0 : AA) (K : KK) (h : (((0 ≤ n ∧ n ≤ 3) ∧ (z = 0 ∨ z = 1)) ∧ (0 ≤ p ∧ p + 4 ≤ 4) ∧ ∀ i, 0 ≤ i → i ≤ n → -1125899906842624 ≤ A0 34 (p + i) ∧ A0 34 (p + i) ≤ 1125899906842624) ∧ (∀ (B_1 : AA), ((∀ b i, b ≠ 32 ∧ (b ≠ 34 ∨ i < p ∨ p + n < i) → B_1 b i = A0 b i) ∧ ∀ k, 0 ≤ k → k ≤ n → B_1 34 (p + k) = hv (fun xx => A0 34 (p + xx)) n z k) → (K (some none) F0 B_1))) (k : Int) (A : AA) (hi : (0 ≤ k ∧ k ≤ n + 1) ∧ (∀ bb ii, bb ≠ 32 → A bb ii = A0 bb ii) ∧ ∀ ii, 0 ≤ ii → ii < k → A 32 ii = A0 34 (p + ii)) : am_stp qxX9_halves (am_run qxX9_halves qnX9_halves_25_34 (fun pc ls st F9 A9 u => qiX9_halves_25_34 p n z F0 A0 pc ls st F9 A9 u ∧ quX9_halves_25_34 pc ls st F9 A9 < quX9_halves_25_34 3 [some (vR 25), some (vR 34), some (vI p), some (vI n), some (vI z), some (vI k), none] [] F0 A) K 28) K 3 [some (vR 25), some (vR 34), some (vI p), some (vI n), some (vI z), some (vI k), none] [] F0 A 0 := by
  obtain ⟨hp, h⟩ := h
  obtain ⟨⟨p1, p2'⟩, p3, p4⟩ := hp
  obtain ⟨h1, h2, h3⟩ := hi
  show (w32 n < w32 k → ((25 = 25 ∧ 34 = 34 ∧ p = p ∧ n = n ∧ z = z ∧ F0 = F0 ∧ ((0 ≤ 0 ∧ 0 ≤ n + 1) ∧ (∀ bb ii, bb ≠ 32 ∧ (bb ≠ 34 ∨ ii < p ∨ p + n < ii) → A bb ii = A0 bb ii) ∧ (∀ ii, 0 ≤ ii → ii ≤ n - 0 → A 32 ii = dF (fun xx => A0 34 (p + xx)) (Int.toNat 0) ii) ∧ (z = 0 → ∀ jj, 0 ≤ jj → jj < 0 → A 34 (p + jj) = hv (fun xx => A0 34 (p + xx)) n 0 jj) ∧ (z = 1 → ∀ jj, n - 0 < jj → jj ≤ n → A 34 (p + jj) = hv (fun xx => A0 34 (p + xx)) n 1 jj))) ∧ (Int.toNat (800 - 20 * 0)) < (Int.toNat (900 - k)))) ∧ (¬ w32 n < w32 k → ((0 ≤ w32 (p + k) ∧ w32 (p + k) < 4) ∧ ((0 ≤ w32 k ∧ w32 k < 4) ∧ ((25 = 25 ∧ 34 = 34 ∧ p = p ∧ n = n ∧ z = z ∧ F0 = F0 ∧ ((0 ≤ (k + 1) ∧ (k + 1) ≤ n + 1) ∧ (∀ bb ii, bb ≠ 32 → (upA A 32 (w32 k) (A 34 (w32 (p + k)))) bb ii = A0 bb ii) ∧ ∀ ii, 0 ≤ ii → ii < (k + 1) → (upA A 32 (w32 k) (A 34 (w32 (p + k)))) 32 ii = A0 34 (p + ii))) ∧ (Int.toNat (900 - (k + 1))) < (Int.toNat (900 - k))))))
  refine ⟨fun c1 => ?_, fun c1 => ?_⟩
  · skip
    (try simp (disch := omega) only [fat_in, w32_0, wbi0, Classical.not_not, w32_id] at c1)
    refine ⟨⟨rfl, rfl, rfl, rfl, rfl, rfl, ?_⟩, by omega⟩
    exact ⟨by omega, fun b i hb => h2 b i hb.1, fun i i0 i1 => h3 i i0 (by omega), fun _ j j0 j1 => by omega, fun _ j j0 j1 => by omega⟩
  · skip
    (try simp (disch := omega) only [fat_in, w32_0, wbi0, Classical.not_not, w32_id] at c1)
    refine ⟨by (first | omega | (rw [w32_id (by omega) (by omega)]; omega)), ?_⟩
    refine ⟨by (first | omega | (rw [w32_id (by omega) (by omega)]; omega)), ?_⟩
    refine ⟨⟨rfl, rfl, rfl, rfl, rfl, rfl, ?_⟩, by omega⟩
    simp (disch := omega) only [w32_id]
    refine ⟨by omega, fun b i hb => by rw [upA_k hb]; exact h2 b i hb, fun i i0 i1 => ?_⟩
    by_cases e : i = k
    · rw [e, upA_s, h2 34 _ (by decide)]
    · rw [upA_o e]; exact h3 i i0 (by omega)
set_option maxRecDepth 20000 in
theorem qvX9_halves_25_34_31 (p : Int) (n : Int) (z : Int) (F0 : FF) (A0 : AA) (K : KK) (h : (((0 ≤ n ∧ n ≤ 3) ∧ (z = 0 ∨ z = 1)) ∧ (0 ≤ p ∧ p + 4 ≤ 4) ∧ ∀ i, 0 ≤ i → i ≤ n → -1125899906842624 ≤ A0 34 (p + i) ∧ A0 34 (p + i) ≤ 1125899906842624) ∧ (∀ (B_1 : AA), ((∀ b i, b ≠ 32 ∧ (b ≠ 34 ∨ i < p ∨ p + n < i) → B_1 b i = A0 b i) ∧ ∀ k, 0 ≤ k → k ≤ n → B_1 34 (p + k) = hv (fun xx => A0 34 (p + xx)) n z k) → (K (some none) F0 B_1))) (k : Int) (A : AA) (hi : (0 ≤ k ∧ k ≤ n + 1) ∧ (∀ bb ii, bb ≠ 32 ∧ (bb ≠ 34 ∨ ii < p ∨ p + n < ii) → A bb ii = A0 bb ii) ∧ (∀ ii, 0 ≤ ii → ii ≤ n - k → A 32 ii = dF (fun xx => A0 34 (p + xx)) (Int.toNat k) ii) ∧ (z = 0 → ∀ jj, 0 ≤ jj → jj < k → A 34 (p + jj) = hv (fun xx => A0 34 (p + xx)) n 0 jj) ∧ (z = 1 → ∀ jj, n - k < jj → jj ≤ n → A 34 (p + jj) = hv (fun xx => A0 34 (p + xx)) n 1 jj)) : am_stp qxX9_halves (am_run qxX9_halves qnX9_halves_25_34 (fun pc ls st F9 A9 u => qiX9_halves_25_34 p n z F0 A0 pc ls st F9 A9 u ∧ quX9_halves_25_34 pc ls st F9 A9 < quX9_halves_25_34 31 [some (vR 25), some (vR 34), some (vI p), some (vI n), some (vI z), some (vI k), none] [] F0 A) K 28) K 31 [some (vR 25), some (vR 34), some (vI p), some (vI n), some (vI z), some (vI k), none] [] F0 A 0 := by
  obtain ⟨hp, h⟩ := h
  obtain ⟨⟨p1, p2'⟩, p3, p4⟩ := hp
  obtain ⟨h1, hF, hW, hD0, hD1⟩ := hi
  have eb := fun (i : Int) (i0 : 0 ≤ i) (i1 : i + k ≤ n) => dF_b3 (x := (fun xx => A0 34 (p + xx))) (n := n) (k := k) (i := i) p4 h1.1 (by omega) i0 i1
  show (w32 n < w32 k → (K (some none) F0 A)) ∧ (¬ w32 n < w32 k → ((w32 z = w32 0 → ((0 ≤ w32 0 ∧ w32 0 < 4) ∧ ((0 ≤ w32 (p + k) ∧ w32 (p + k) < 4) ∧ ((25 = 25 ∧ 34 = 34 ∧ p = p ∧ n = n ∧ z = z ∧ F0 = F0 ∧ ((0 ≤ k ∧ k ≤ n) ∧ (0 ≤ 0 ∧ 0 ≤ n - k) ∧ (∀ bb ii, bb ≠ 32 ∧ (bb ≠ 34 ∨ ii < p ∨ p + n < ii) → (upA A 34 (w32 (p + k)) (y_shl (A 32 (w32 0)) (n - k))) bb ii = A0 bb ii) ∧ (∀ jj, 0 ≤ jj → jj < 0 → (upA A 34 (w32 (p + k)) (y_shl (A 32 (w32 0)) (n - k))) 32 jj = dF (fun xx => A0 34 (p + xx)) (Int.toNat (k + 1)) jj) ∧ (∀ jj, 0 ≤ jj → jj ≤ n - k → (upA A 34 (w32 (p + k)) (y_shl (A 32 (w32 0)) (n - k))) 32 jj = dF (fun xx => A0 34 (p + xx)) (Int.toNat k) jj) ∧ (z = 0 → ∀ jj, 0 ≤ jj → jj < k + 1 → (upA A 34 (w32 (p + k)) (y_shl (A 32 (w32 0)) (n - k))) 34 (p + jj) = hv (fun xx => A0 34 (p + xx)) n 0 jj) ∧ (z = 1 → ∀ jj, n - (k + 1) < jj → jj ≤ n → (upA A 34 (w32 (p + k)) (y_shl (A 32 (w32 0)) (n - k))) 34 (p + jj) = hv (fun xx => A0 34 (p + xx)) n 1 jj))) ∧ (Int.toNat (799 - 20 * k - 0)) < (Int.toNat (800 - 20 * k)))))) ∧ (¬ w32 z = w32 0 → ((0 ≤ w32 (n - k) ∧ w32 (n - k) < 4) ∧ ((0 ≤ w32 ((p + n) - k) ∧ w32 ((p + n) - k) < 4) ∧ ((25 = 25 ∧ 34 = 34 ∧ p = p ∧ n = n ∧ z = z ∧ F0 = F0 ∧ ((0 ≤ k ∧ k ≤ n) ∧ (0 ≤ 0 ∧ 0 ≤ n - k) ∧ (∀ bb ii, bb ≠ 32 ∧ (bb ≠ 34 ∨ ii < p ∨ p + n < ii) → (upA A 34 (w32 ((p + n) - k)) (y_shl (A 32 (w32 (n - k))) (n - k))) bb ii = A0 bb ii) ∧ (∀ jj, 0 ≤ jj → jj < 0 → (upA A 34 (w32 ((p + n) - k)) (y_shl (A 32 (w32 (n - k))) (n - k))) 32 jj = dF (fun xx => A0 34 (p + xx)) (Int.toNat (k + 1)) jj) ∧ (∀ jj, 0 ≤ jj → jj ≤ n - k → (upA A 34 (w32 ((p + n) - k)) (y_shl (A 32 (w32 (n - k))) (n - k))) 32 jj = dF (fun xx => A0 34 (p + xx)) (Int.toNat k) jj) ∧ (z = 0 → ∀ jj, 0 ≤ jj → jj < k + 1 → (upA A 34 (w32 ((p + n) - k)) (y_shl (A 32 (w32 (n - k))) (n - k))) 34 (p + jj) = hv (fun xx => A0 34 (p + xx)) n 0 jj) ∧ (z = 1 → ∀ jj, n - (k + 1) < jj → jj ≤ n → (upA A 34 (w32 ((p + n) - k)) (y_shl (A 32 (w32 (n - k))) (n - k))) 34 (p + jj) = hv (fun xx => A0 34 (p + xx)) n 1 jj))) ∧ (Int.toNat (799 - 20 * k - 0)) < (Int.toNat (800 - 20 * k))))))))
  refine ⟨fun c1 => ?_, fun c1 => ?_⟩
  · skip
    (try simp (disch := omega) only [fat_in, w32_0, wbi0, Classical.not_not, w32_id] at c1)
    refine h _ ⟨hF, fun j j0 j1 => ?_⟩
    rcases p2' with rfl | rfl
    · exact hD0 rfl j j0 (by omega)
    · exact hD1 rfl j (by omega) j1
  · skip
    (try simp (disch := omega) only [fat_in, w32_0, wbi0, Classical.not_not, w32_id] at c1)
    refine ⟨fun c2 => ?_, fun c2 => ?_⟩
    · skip
      (try simp (disch := omega) only [fat_in, w32_0, wbi0, Classical.not_not, w32_id] at c2)
      refine ⟨by (first | omega | (rw [w32_id (by omega) (by omega)]; omega) | (simp (disch := omega) only [w32_id]; omega)), ?_⟩
      refine ⟨by (first | omega | (rw [w32_id (by omega) (by omega)]; omega) | (simp (disch := omega) only [w32_id]; omega)), ?_⟩
      refine ⟨⟨rfl, rfl, rfl, rfl, rfl, rfl, ?_⟩, by omega⟩
      have z0 : z = 0 := by omega
      subst z0
      have w0 := hW 0 (by omega) (by omega)
      simp (disch := omega) only [w32_id]
      refine ⟨⟨h1.1, by omega⟩, by omega, fun b i hb => by rw [upA, if_neg (by omega)]; exact hF b i hb, fun j j0 j1 => by omega, fun j j0 j1 => by rw [upA_k (by decide)]; exact hW j (by omega) j1, fun _ j j0 j1 => ?_, fun hz => by omega⟩
      by_cases e : j = k
      · rw [e, upA_s, w0, y_shl_eq (by omega) (by omega) (by have := eb 0 (by omega) (by omega); omega) (by have := eb 0 (by omega) (by omega); omega), hv_0 h1.1 (by omega)]
      · rw [upA_o (by omega)]; exact hD0 rfl j j0 (by omega)
    · skip
      (try simp (disch := omega) only [fat_in, w32_0, wbi0, Classical.not_not, w32_id] at c2)
      refine ⟨by (first | omega | (rw [w32_id (by omega) (by omega)]; omega) | (simp (disch := omega) only [w32_id]; omega)), ?_⟩
      refine ⟨by (first | omega | (rw [w32_id (by omega) (by omega)]; omega) | (simp (disch := omega) only [w32_id]; omega)), ?_⟩
      refine ⟨⟨rfl, rfl, rfl, rfl, rfl, rfl, ?_⟩, by omega⟩
      have z1 : z = 1 := by omega
      subst z1
      have w0 := hW (n - k) (by omega) (by omega)
      simp (disch := omega) only [w32_id]
      refine ⟨⟨h1.1, by omega⟩, by omega, fun b i hb => by rw [upA, if_neg (by omega)]; exact hF b i hb, fun j j0 j1 => by omega, fun j j0 j1 => by rw [upA_k (by decide)]; exact hW j (by omega) j1, fun hz => by omega, fun _ j j0 j1 => ?_⟩
      by_cases e : j = n - k
      · rw [e, show p + n - k = p + (n - k) by omega, upA_s, w0, y_shl_eq (by omega) (by omega) (by have := eb (n - k) (by omega) (by omega); omega) (by have := eb (n - k) (by omega) (by omega); omega), hv_1 (by omega) (by omega), show n - (n - k) = k by omega]
      · rw [upA_o (by omega)]; exact hD1 rfl j (by omega) j1
set_option maxRecDepth 20000 in
theorem qvX9_halves_25_34_87 (p : Int) (n : Int) (z : Int) (F0 : FF) (A0 : AA) (K : KK) (h : (((0 ≤ n ∧ n ≤ 3) ∧ (z = 0 ∨ z = 1)) ∧ (0 ≤ p ∧ p + 4 ≤ 4) ∧ ∀ i, 0 ≤ i → i ≤ n → -1125899906842624 ≤ A0 34 (p + i) ∧ A0 34 (p + i) ≤ 1125899906842624) ∧ (∀ (B_1 : AA), ((∀ b i, b ≠ 32 ∧ (b ≠ 34 ∨ i < p ∨ p + n < i) → B_1 b i = A0 b i) ∧ ∀ k, 0 ≤ k → k ≤ n → B_1 34 (p + k) = hv (fun xx => A0 34 (p + xx)) n z k) → (K (some none) F0 B_1))) (k : Int) (i : Int) (A : AA) (hi : (0 ≤ k ∧ k ≤ n) ∧ (0 ≤ i ∧ i ≤ n - k) ∧ (∀ bb ii, bb ≠ 32 ∧ (bb ≠ 34 ∨ ii < p ∨ p + n < ii) → A bb ii = A0 bb ii) ∧ (∀ jj, 0 ≤ jj → jj < i → A 32 jj = dF (fun xx => A0 34 (p + xx)) (Int.toNat (k + 1)) jj) ∧ (∀ jj, i ≤ jj → jj ≤ n - k → A 32 jj = dF (fun xx => A0 34 (p + xx)) (Int.toNat k) jj) ∧ (z = 0 → ∀ jj, 0 ≤ jj → jj < k + 1 → A 34 (p + jj) = hv (fun xx => A0 34 (p + xx)) n 0 jj) ∧ (z = 1 → ∀ jj, n - (k + 1) < jj → jj ≤ n → A 34 (p + jj) = hv (fun xx => A0 34 (p + xx)) n 1 jj)) : am_stp qxX9_halves (am_run qxX9_halves qnX9_halves_25_34 (fun pc ls st F9 A9 u => qiX9_halves_25_34 p n z F0 A0 pc ls st F9 A9 u ∧ quX9_halves_25_34 pc ls st F9 A9 < quX9_halves_25_34 87 [some (vR 25), some (vR 34), some (vI p), some (vI n), some (vI z), some (vI k), some (vI i)] [] F0 A) K 28) K 87 [some (vR 25), some (vR 34), some (vI p), some (vI n), some (vI z), some (vI k), some (vI i)] [] F0 A 0 := by
  obtain ⟨hp, h⟩ := h
  obtain ⟨⟨p1, p2'⟩, p3, p4⟩ := hp
  obtain ⟨h1, h2, hF, hW, hX, hD0, hD1⟩ := hi
  show (w32 i < w32 (n - k) → ((0 ≤ w32 i ∧ w32 i < 4) ∧ ((0 ≤ w32 (i + 1) ∧ w32 (i + 1) < 4) ∧ ((0 ≤ w32 i ∧ w32 i < 4) ∧ ((25 = 25 ∧ 34 = 34 ∧ p = p ∧ n = n ∧ z = z ∧ F0 = F0 ∧ ((0 ≤ k ∧ k ≤ n) ∧ (0 ≤ (i + 1) ∧ (i + 1) ≤ n - k) ∧ (∀ bb ii, bb ≠ 32 ∧ (bb ≠ 34 ∨ ii < p ∨ p + n < ii) → (upA A 32 (w32 i) ((A 32 (w32 i)) + (A 32 (w32 (i + 1))))) bb ii = A0 bb ii) ∧ (∀ jj, 0 ≤ jj → jj < (i + 1) → (upA A 32 (w32 i) ((A 32 (w32 i)) + (A 32 (w32 (i + 1))))) 32 jj = dF (fun xx => A0 34 (p + xx)) (Int.toNat (k + 1)) jj) ∧ (∀ jj, (i + 1) ≤ jj → jj ≤ n - k → (upA A 32 (w32 i) ((A 32 (w32 i)) + (A 32 (w32 (i + 1))))) 32 jj = dF (fun xx => A0 34 (p + xx)) (Int.toNat k) jj) ∧ (z = 0 → ∀ jj, 0 ≤ jj → jj < k + 1 → (upA A 32 (w32 i) ((A 32 (w32 i)) + (A 32 (w32 (i + 1))))) 34 (p + jj) = hv (fun xx => A0 34 (p + xx)) n 0 jj) ∧ (z = 1 → ∀ jj, n - (k + 1) < jj → jj ≤ n → (upA A 32 (w32 i) ((A 32 (w32 i)) + (A 32 (w32 (i + 1))))) 34 (p + jj) = hv (fun xx => A0 34 (p + xx)) n 1 jj))) ∧ (Int.toNat (799 - 20 * k - (i + 1))) < (Int.toNat (799 - 20 * k - i))))))) ∧ (¬ w32 i < w32 (n - k) → ((25 = 25 ∧ 34 = 34 ∧ p = p ∧ n = n ∧ z = z ∧ F0 = F0 ∧ ((0 ≤ (k + 1) ∧ (k + 1) ≤ n + 1) ∧ (∀ bb ii, bb ≠ 32 ∧ (bb ≠ 34 ∨ ii < p ∨ p + n < ii) → A bb ii = A0 bb ii) ∧ (∀ ii, 0 ≤ ii → ii ≤ n - (k + 1) → A 32 ii = dF (fun xx => A0 34 (p + xx)) (Int.toNat (k + 1)) ii) ∧ (z = 0 → ∀ jj, 0 ≤ jj → jj < (k + 1) → A 34 (p + jj) = hv (fun xx => A0 34 (p + xx)) n 0 jj) ∧ (z = 1 → ∀ jj, n - (k + 1) < jj → jj ≤ n → A 34 (p + jj) = hv (fun xx => A0 34 (p + xx)) n 1 jj))) ∧ (Int.toNat (800 - 20 * (k + 1))) < (Int.toNat (799 - 20 * k - i))))
  refine ⟨fun c1 => ?_, fun c1 => ?_⟩
  · skip
    (try simp (disch := omega) only [fat_in, w32_0, wbi0, Classical.not_not, w32_id] at c1)
    refine ⟨by (first | omega | (rw [w32_id (by omega) (by omega)]; omega)), ?_⟩
    refine ⟨by (first | omega | (rw [w32_id (by omega) (by omega)]; omega)), ?_⟩
    refine ⟨by (first | omega | (rw [w32_id (by omega) (by omega)]; omega)), ?_⟩
    refine ⟨⟨rfl, rfl, rfl, rfl, rfl, rfl, ?_⟩, by omega⟩
    have e1 := hX i (by omega) (by omega)
    have e2 := hX (i + 1) (by omega) (by omega)
    simp (disch := omega) only [w32_id]
    refine ⟨h1, by omega, fun b j hb => by rw [upA_k hb.1]; exact hF b j hb, fun j j0 j1 => ?_, fun j j0 j1 => by rw [upA_o (by omega)]; exact hX j (by omega) j1, fun hz j j0 j1 => by rw [upA_k (by decide)]; exact hD0 hz j j0 j1, fun hz j j0 j1 => by rw [upA_k (by decide)]; exact hD1 hz j j0 j1⟩
    by_cases e : j = i
    · rw [e, upA_s, e1, e2, dF_s h1.1]
    · rw [upA_o e]; exact hW j j0 (by omega)
  · skip
    (try simp (disch := omega) only [fat_in, w32_0, wbi0, Classical.not_not, w32_id] at c1)
    refine ⟨⟨rfl, rfl, rfl, rfl, rfl, rfl, ?_⟩, by omega⟩
    exact ⟨by omega, hF, fun j j0 j1 => hW j j0 (by omega), hD0, hD1⟩
set_option maxRecDepth 20000 in
theorem qvX9_halves_25_34 (p : Int) (n : Int) (z : Int) (F0 : FF) (A0 : AA) (K : KK) (h : (((0 ≤ n ∧ n ≤ 3) ∧ (z = 0 ∨ z = 1)) ∧ (0 ≤ p ∧ p + 4 ≤ 4) ∧ ∀ i, 0 ≤ i → i ≤ n → -1125899906842624 ≤ A0 34 (p + i) ∧ A0 34 (p + i) ≤ 1125899906842624) ∧ (∀ (B_1 : AA), ((∀ b i, b ≠ 32 ∧ (b ≠ 34 ∨ i < p ∨ p + n < i) → B_1 b i = A0 b i) ∧ ∀ k, 0 ≤ k → k ≤ n → B_1 34 (p + k) = hv (fun xx => A0 34 (p + xx)) n z k) → (K (some none) F0 B_1))) : am_body qxX9_halves qnX9_halves_25_34 28 (qiX9_halves_25_34 p n z F0 A0) quX9_halves_25_34 [vR 25, vR 34, vI p, vI n, vI z] 7 F0 A0 K := by
  refine ⟨qvX9_halves_25_34_0 p n z F0 A0 K h, fun pc ls st F A u hI => ?_⟩
  unfold qiX9_halves_25_34 at hI
  replace hI := am_cond2 hI
  rcases hI with ⟨hb, hI⟩ | hI
  · have hb := am_bq hb
    subst hb
    split at hI
    · rename_i s0 s1 s2 s3 s4 k
      obtain ⟨e0, e1, e2, e3, e4, e5, hI⟩ := hI
      subst e0
      subst e1
      subst e2
      subst e3
      subst e4
      subst e5
      exact qvX9_halves_25_34_3 _ _ _ _ _ K h _ _ hI
    · exact hI.elim
  replace hI := am_cond2 hI
  rcases hI with ⟨hb, hI⟩ | hI
  · have hb := am_bq hb
    subst hb
    split at hI
    · rename_i s0 s1 s2 s3 s4 k
      obtain ⟨e0, e1, e2, e3, e4, e5, hI⟩ := hI
      subst e0
      subst e1
      subst e2
      subst e3
      subst e4
      subst e5
      exact qvX9_halves_25_34_31 _ _ _ _ _ K h _ _ hI
    · exact hI.elim
  replace hI := am_cond2 hI
  rcases hI with ⟨hb, hI⟩ | hI
  · have hb := am_bq hb
    subst hb
    split at hI
    · rename_i s0 s1 s2 s3 s4 k i
      obtain ⟨e0, e1, e2, e3, e4, e5, hI⟩ := hI
      subst e0
      subst e1
      subst e2
      subst e3
      subst e4
      subst e5
      exact qvX9_halves_25_34_87 _ _ _ _ _ K h _ _ _ hI
    · exact hI.elim
  exact hI.elim
theorem qtX9_halves (l : Launch) : am_CT l layM qeX9_halves := am_met0 rfl (by decide +kernel) rfl rfl rfl rfl rfl (fun _ => rfl) rfl (qzX9_halves l) (fun k e1 h => (qyX9_halves l k e1 h).2) (fun as F A K h => by
  replace h : qsX9_halves as F A K := h
  unfold qsX9_halves at h
  split at h
  · rename_i o r p n z
    refine ⟨by first | exact Nat.le_of_ble_eq_true rfl | simp [am_fl, am_cat], ?_⟩
    replace h := am_cond2 h
    rcases h with ⟨hb, h⟩ | h
    · simp only [Bool.and_eq_true] at hb
      obtain ⟨hb0, hb1⟩ := hb
      have hb0 := am_bq hb0
      subst hb0
      have hb1 := am_bq hb1
      subst hb1
      exact am_way_body (qvX9_halves_25_33 p n z F A K h)
    replace h := am_cond2 h
    rcases h with ⟨hb, h⟩ | h
    · simp only [Bool.and_eq_true] at hb
      obtain ⟨hb0, hb1⟩ := hb
      have hb0 := am_bq hb0
      subst hb0
      have hb1 := am_bq hb1
      subst hb1
      exact am_way_body (qvX9_halves_25_34 p n z F A K h)
    exact h.elim
  · exact h.elim)
