def qkX8_commonDivisor : Nat → Option CI := fun pc => cond (Nat.ble 48 pc) none (cond (Nat.ble 21 pc) (cond (Nat.ble 33 pc) (cond (Nat.ble 39 pc) (cond (Nat.ble 45 pc) (cond (Nat.beq pc 45) (some (.lload 4, 47, [])) (cond (Nat.beq pc 47) (some (.lreturn, 48, [])) (none))) (cond (Nat.beq pc 39) (some (.iinc 8 1, 42, [])) (cond (Nat.beq pc 42) (some (.goto (-33), 45, [9])) (none)))) (cond (Nat.beq pc 33) (some (.lstore 4, 35, [])) (cond (Nat.beq pc 35) (some (.lload 9, 37, [])) (cond (Nat.beq pc 37) (some (.lstore 6, 39, [])) (none))))) (cond (Nat.ble 28 pc) (cond (Nat.beq pc 28) (some (.lrem, 29, [])) (cond (Nat.beq pc 29) (some (.lstore 9, 31, [])) (cond (Nat.beq pc 31) (some (.lload 6, 33, [])) (none)))) (cond (Nat.beq pc 21) (some (.ifCond .eq 24, 24, [45])) (cond (Nat.beq pc 24) (some (.lload 4, 26, [])) (cond (Nat.beq pc 26) (some (.lload 6, 28, [])) (none)))))) (cond (Nat.ble 9 pc) (cond (Nat.ble 17 pc) (cond (Nat.beq pc 17) (some (.lload 6, 19, [])) (cond (Nat.beq pc 19) (some (.lconst 0, 20, [])) (cond (Nat.beq pc 20) (some (.lcmp, 21, [])) (none)))) (cond (Nat.beq pc 9) (some (.iload 8, 11, [])) (cond (Nat.beq pc 11) (some (.sipush 200, 14, [])) (cond (Nat.beq pc 14) (some (.if_icmp .ge 31, 17, [45])) (none))))) (cond (Nat.ble 4 pc) (cond (Nat.beq pc 4) (some (.lstore 6, 6, [])) (cond (Nat.beq pc 6) (some (.iconst 0, 7, [])) (cond (Nat.beq pc 7) (some (.istore 8, 9, [])) (none)))) (cond (Nat.beq pc 0) (some (.lload_n 0, 1, [])) (cond (Nat.beq pc 1) (some (.lstore 4, 3, [])) (cond (Nat.beq pc 3) (some (.lload_n 2, 4, [])) (none)))))))
theorem qkX8_commonDivisor_ok : ∀ pc i nx ts, qkX8_commonDivisor pc = some (i, nx, ts) → am_cok cX8_commonDivisor pc (i, nx, ts) = true := fun pc i nx ts h => am_tok_ok (n := 48) (by decide +kernel) (fun pc h => by show cond (Nat.ble 48 pc) _ _ = _; rw [Nat.ble_eq_true_of_le h]; rfl) h
def qaX8_commonDivisor : Nat → Option CE := fun k => none
theorem qyX8_commonDivisor (l : Launch) : ∀ k e1, qaX8_commonDivisor k = some e1 → am_cal l layX RX8 3 k e1 ∧ ceT e1 = 0 := q_nil
def qxX8_commonDivisor : CX := (qkX8_commonDivisor, layX, qfX8, qaX8_commonDivisor, qcX8, qlX8, qmX8, (some .long), false, none, 0, none, fun _ => none)
theorem qzX8_commonDivisor (l : Launch) : am_sta l qxX8_commonDivisor RX8 3 cX8_commonDivisor := ⟨qkX8_commonDivisor_ok, layX_ok, qfX8_ok, qcX8_ok, qlX8_ok, am_mthP qmX8_ok (by decide), fun k e1 h => (qyX8_commonDivisor l k e1 h).1⟩
def qsX8_commonDivisor : SP := fun as F A K => match as with
  | [.inr (.inl x), .inr (.inl y)] => ((0 ≤ x ∧ x < 2147483648) ∧ 0 ≤ y ∧ y < 2147483648) ∧ (K (some (some (vL (Int.gcd x y : Int)))) F A)
  | _ => False
def qeX8_commonDivisor : CE := (yX8_commonDivisor, cX8_commonDivisor, 11, (some .long), 2, none, 0, none, 0, 3, qsX8_commonDivisor)
theorem qbX8_commonDivisor : am_mb qeX8_commonDivisor := ⟨am_tb_at 1064 (by decide +kernel) rfl, am_tb_at 35 (by decide +kernel) rfl, ⟨by decide, by decide, by decide +kernel⟩, by decide, am_tb_at 1063 (by decide +kernel) rfl⟩
def qnX8_commonDivisor : CUT := fun pc => cond (Nat.beq pc 9) (some [true, false, true, false, true, false, true, false, true, false, false]) (none)
def qiX8_commonDivisor (x : Int) (y : Int) (F0 : FF) (A0 : AA) : REC := fun pc ls st F A u => cond (Nat.beq pc 9) (match ls, st, u with
    | [some (.inr (.inl s0)), none, some (.inr (.inl s2)), none, some (.inr (.inl a)), none, some (.inr (.inl b)), none, some (.inl s), none, none], [], 0 => s0 = x ∧ s2 = y ∧ F = F0 ∧ A = A0 ∧ (gcI x y a b s)
    | _, _, _ => False) (False)
def quX8_commonDivisor : Nat → LVs → List AV → FF → AA → Nat := fun pc ls _ F A => cond (Nat.beq pc 9) (match ls with
    | [some (.inr (.inl s0)), none, some (.inr (.inl s2)), none, some (.inr (.inl a)), none, some (.inr (.inl b)), none, some (.inl s), none, none] => Int.toNat (300 - s)
    | _ => 0) (0)
set_option maxRecDepth 20000 in
theorem qvX8_commonDivisor_0 (x : Int) (y : Int) (F0 : FF) (A0 : AA) (K : KK) (h : ((0 ≤ x ∧ x < 2147483648) ∧ 0 ≤ y ∧ y < 2147483648) ∧ (K (some (some (vL (Int.gcd x y : Int)))) F0 A0)) : am_stp qxX8_commonDivisor (am_run qxX8_commonDivisor qnX8_commonDivisor (qiX8_commonDivisor x y F0 A0) K 20) K 0 (am_ent [vL x, vL y] 11) [] F0 A0 0 := by
  show am_stp qxX8_commonDivisor (am_run qxX8_commonDivisor qnX8_commonDivisor (qiX8_commonDivisor x y F0 A0) K 20) K 0 [some (vL x), none, some (vL y), none, none, none, none, none, none, none, none] [] F0 A0 0
  obtain ⟨hp, h⟩ := h
  show x = x ∧ y = y ∧ F0 = F0 ∧ A0 = A0 ∧ (gcI x y x y 0)
  refine ⟨rfl, rfl, rfl, rfl, ?_⟩
  exact gcI_0
set_option maxRecDepth 20000 in
theorem qvX8_commonDivisor_9 (x : Int) (y : Int) (F0 : FF) (A0 : AA) (K : KK) (h : ((0 ≤ x ∧ x < 2147483648) ∧ 0 ≤ y ∧ y < 2147483648) ∧ (K (some (some (vL (Int.gcd x y : Int)))) F0 A0)) (a : Int) (b : Int) (s : Int) (hi : gcI x y a b s) : am_stp qxX8_commonDivisor (am_run qxX8_commonDivisor qnX8_commonDivisor (fun pc ls st F A u => qiX8_commonDivisor x y F0 A0 pc ls st F A u ∧ quX8_commonDivisor pc ls st F A < quX8_commonDivisor 9 [some (vL x), none, some (vL y), none, some (vL a), none, some (vL b), none, some (vI s), none, none] [] F0 A0) K 20) K 9 [some (vL x), none, some (vL y), none, some (vL a), none, some (vL b), none, some (vI s), none, none] [] F0 A0 0 := by
  obtain ⟨hp, h⟩ := h
  have hb := gcI_b hp.1 hp.2 hi
  have hs := hi.2.1
  show (w32 s < w32 200 → ((w32 (y_cmp b 0) = w32 0 → (K (some (some (vL a))) F0 A0)) ∧ (¬ w32 (y_cmp b 0) = w32 0 → ((w64 b ≠ 0) ∧ ((x = x ∧ y = y ∧ F0 = F0 ∧ A0 = A0 ∧ (gcI x y b (y_rem a b) (s + 1))) ∧ (Int.toNat (300 - (s + 1))) < (Int.toNat (300 - s))))))) ∧ (¬ w32 s < w32 200 → (K (some (some (vL a))) F0 A0))
  refine ⟨fun c1 => ?_, fun c1 => ?_⟩
  · skip
    (try simp (disch := omega) only [w32_0, w64_0, w32_id, yc_eq0, yc_gt0, yc_lt0, w64_id] at c1)
    refine ⟨fun c2 => ?_, fun c2 => ?_⟩
    · skip
      (try simp (disch := omega) only [w32_0, w64_0, w32_id, yc_eq0, yc_gt0, yc_lt0, w64_id] at c2)
      exact L_eq h (gcI_end hi hp.1.1 hp.2.1 (by omega)).symm
    · skip
      (try simp (disch := omega) only [w32_0, w64_0, w32_id, yc_eq0, yc_gt0, yc_lt0, w64_id] at c2)
      refine ⟨by (rw [w64_id (by omega) (by omega)]; omega), ?_⟩
      refine ⟨⟨rfl, rfl, rfl, rfl, ?_⟩, by omega⟩
      rw [y_rem_eq (by omega) (by omega) (by omega) (by omega)]
      exact gcI_s hp.1 hp.2 hi (by omega) (by omega)
  · skip
    (try simp (disch := omega) only [w32_0, w64_0, w32_id, yc_eq0, yc_gt0, yc_lt0, w64_id] at c1)
    exact L_eq h (gcI_end hi hp.1.1 hp.2.1 (by omega)).symm
set_option maxRecDepth 20000 in
theorem qvX8_commonDivisor (x : Int) (y : Int) (F0 : FF) (A0 : AA) (K : KK) (h : ((0 ≤ x ∧ x < 2147483648) ∧ 0 ≤ y ∧ y < 2147483648) ∧ (K (some (some (vL (Int.gcd x y : Int)))) F0 A0)) : am_body qxX8_commonDivisor qnX8_commonDivisor 20 (qiX8_commonDivisor x y F0 A0) quX8_commonDivisor [vL x, vL y] 11 F0 A0 K := by
  refine ⟨qvX8_commonDivisor_0 x y F0 A0 K h, fun pc ls st F A u hI => ?_⟩
  unfold qiX8_commonDivisor at hI
  replace hI := am_cond2 hI
  rcases hI with ⟨hb, hI⟩ | hI
  · have hb := am_bq hb
    subst hb
    split at hI
    · rename_i s0 s2 a b s
      obtain ⟨e0, e1, e2, e3, hI⟩ := hI
      subst e0
      subst e1
      subst e2
      subst e3
      exact qvX8_commonDivisor_9 _ _ _ _ K h _ _ _ hI
    · exact hI.elim
  exact hI.elim
theorem qtX8_commonDivisor (l : Launch) : am_CT l layX qeX8_commonDivisor := am_met0 rfl (by decide +kernel) rfl rfl rfl rfl rfl (fun _ => rfl) rfl (qzX8_commonDivisor l) (fun k e1 h => (qyX8_commonDivisor l k e1 h).2) (fun as F A K h => by
  replace h : qsX8_commonDivisor as F A K := h
  unfold qsX8_commonDivisor at h
  split at h
  · rename_i x y
    refine ⟨by first | exact Nat.le_of_ble_eq_true rfl | simp [am_fl, am_cat], ?_⟩
    exact am_way_body (qvX8_commonDivisor x y F A K h)
  · exact h.elim)
def qkX8_cellControl : Nat → Option CI := fun pc => cond (Nat.ble 73 pc) none (cond (Nat.ble 38 pc) (cond (Nat.ble 55 pc) (cond (Nat.ble 62 pc) (cond (Nat.ble 67 pc) (cond (Nat.beq pc 67) (some (.iload 4, 69, [])) (cond (Nat.beq pc 69) (some (.invokevirtual 160, 72, [])) (cond (Nat.beq pc 72) (some (.lreturn, 73, [])) (none)))) (cond (Nat.beq pc 62) (some (.invokestatic 157, 65, [])) (cond (Nat.beq pc 65) (some (.iload 5, 67, [])) (none)))) (cond (Nat.ble 59 pc) (cond (Nat.beq pc 59) (some (.iload_n 1, 60, [])) (cond (Nat.beq pc 60) (some (.iload_n 2, 61, [])) (cond (Nat.beq pc 61) (some (.iload_n 3, 62, [])) (none)))) (cond (Nat.beq pc 55) (some (.aload_n 0, 56, [])) (cond (Nat.beq pc 56) (some (.getfield 36, 59, [])) (none))))) (cond (Nat.ble 46 pc) (cond (Nat.ble 50 pc) (cond (Nat.beq pc 50) (some (.iload_n 1, 51, [])) (cond (Nat.beq pc 51) (some (.iload_n 2, 52, [])) (cond (Nat.beq pc 52) (some (.invokevirtual 153, 55, [])) (none)))) (cond (Nat.beq pc 46) (some (.aload_n 0, 47, [])) (cond (Nat.beq pc 47) (some (.getfield 10, 50, [])) (none)))) (cond (Nat.ble 42 pc) (cond (Nat.beq pc 42) (some (.aload_n 0, 43, [])) (cond (Nat.beq pc 43) (some (.getfield 36, 46, [])) (none))) (cond (Nat.beq pc 38) (some (.ldc2_w 151, 41, [])) (cond (Nat.beq pc 41) (some (.lreturn, 42, [])) (none)))))) (cond (Nat.ble 16 pc) (cond (Nat.ble 28 pc) (cond (Nat.ble 31 pc) (cond (Nat.beq pc 31) (some (.iconst 2, 32, [])) (cond (Nat.beq pc 32) (some (.invokestatic 133, 35, [])) (cond (Nat.beq pc 35) (some (.ifCond .ne 7, 38, [42])) (none)))) (cond (Nat.beq pc 28) (some (.iload 5, 30, [])) (cond (Nat.beq pc 30) (some (.iconst 0, 31, [])) (none)))) (cond (Nat.ble 20 pc) (cond (Nat.beq pc 20) (some (.iload 4, 22, [])) (cond (Nat.beq pc 22) (some (.invokevirtual 129, 25, [])) (cond (Nat.beq pc 25) (some (.ifCond .eq 13, 28, [38])) (none)))) (cond (Nat.beq pc 16) (some (.getfield 10, 19, [])) (cond (Nat.beq pc 19) (some (.iload_n 1, 20, [])) (none))))) (cond (Nat.ble 6 pc) (cond (Nat.ble 9 pc) (cond (Nat.beq pc 9) (some (.invokestatic 148, 12, [])) (cond (Nat.beq pc 12) (some (.ifCond .eq 26, 15, [38])) (cond (Nat.beq pc 15) (some (.aload_n 0, 16, [])) (none)))) (cond (Nat.beq pc 6) (some (.iload_n 3, 7, [])) (cond (Nat.beq pc 7) (some (.bipush 6, 9, [])) (none)))) (cond (Nat.ble 2 pc) (cond (Nat.beq pc 2) (some (.invokevirtual 123, 5, [])) (cond (Nat.beq pc 5) (some (.iload_n 2, 6, [])) (none))) (cond (Nat.beq pc 0) (some (.aload_n 0, 1, [])) (cond (Nat.beq pc 1) (some (.iload_n 1, 2, [])) (none)))))))
theorem qkX8_cellControl_ok : ∀ pc i nx ts, qkX8_cellControl pc = some (i, nx, ts) → am_cok cX8_cellControl pc (i, nx, ts) = true := fun pc i nx ts h => am_tok_ok (n := 73) (by decide +kernel) (fun pc h => by show cond (Nat.ble 73 pc) _ _ = _; rw [Nat.ble_eq_true_of_le h]; rfl) h
def qaX8_cellControl : Nat → Option CE := fun k => cond (Nat.beq k 123) (some qeX8_requireCurve) (cond (Nat.beq k 148) (some qeX8_isCell) (cond (Nat.beq k 129) (some qeX2_hasPoint) (cond (Nat.beq k 133) (some qeX8_isWithin) (cond (Nat.beq k 153) (some qeX1_grow) (cond (Nat.beq k 157) (some qeX8_nodeOf) (cond (Nat.beq k 160) (some qeX1_number) (none)))))))
theorem qyX8_cellControl (l : Launch) (hst : l.stackTraces = false) : ∀ k e1, qaX8_cellControl k = some e1 → am_cal l layX RX8 10 k e1 ∧ True := q_cons ⟨am_calV (ci := 8) (qtX8_requireCurve l hst) qbX8_requireCurve (by decide) rfl (am_tb_at 777 (by decide +kernel) rfl), trivial⟩ (q_cons ⟨am_calS (qtX8_isCell l) qbX8_isCell (by decide) rfl (by decide) (am_tb_at 992 (by decide +kernel) rfl), trivial⟩ (q_cons ⟨am_calV (ci := 2) (qtX2_hasPoint l) qbX2_hasPoint (by decide) rfl (am_tb_at 867 (by decide +kernel) rfl), trivial⟩ (q_cons ⟨am_calS (qtX8_isWithin l) qbX8_isWithin (by decide) rfl (by decide) (am_tb_at 875 (by decide +kernel) rfl), trivial⟩ (q_cons ⟨am_calV (ci := 1) (qtX1_grow l) qbX1_grow (by decide) rfl (am_tb_at 996 (by decide +kernel) rfl), trivial⟩ (q_cons ⟨am_calS (qtX8_nodeOf l) qbX8_nodeOf (by decide) rfl (by decide) (am_tb_at 1043 (by decide +kernel) rfl), trivial⟩ (q_cons ⟨am_calV (ci := 1) (qtX1_number l) qbX1_number (by decide) rfl (am_tb_at 1044 (by decide +kernel) rfl), trivial⟩ (q_nil)))))))
def qxX8_cellControl : CX := (qkX8_cellControl, layX, qfX8, qaX8_cellControl, qcX8, qlX8, qmX8, (some .long), true, none, 1, none, fun _ => none)
theorem qzX8_cellControl (l : Launch) (hst : l.stackTraces = false) : am_sta l qxX8_cellControl RX8 10 cX8_cellControl := ⟨qkX8_cellControl_ok, layX_ok, qfX8_ok, qcX8_ok, qlX8_ok, am_mthP qmX8_ok (by decide), fun k e1 h => (qyX8_cellControl l hst k e1 h).1⟩
def qsX8_cellControl : SP := fun as F A K => match as with
  | [.inr (.inr o), .inl c, .inl d, .inl q, .inl k, .inl w] => cond (Nat.beq o 0) ((fgOK (A 2) ∧ (-2147483648 ≤ c ∧ c < 2147483648) ∧ (-2147483648 ≤ d ∧ d < 2147483648) ∧ (-2147483648 ≤ q ∧ q < 2147483648) ∧ (-2147483648 ≤ k ∧ k < 2147483648) ∧ (-2147483648 ≤ w ∧ w < 2147483648) ∧ caAll A) ∧ ((0 ≤ c ∧ c < A 2 0 → (∀ (G_1 : FF) (B_1 : AA), (qrP F G_1 A B_1) → (K (some (some (vL (if (0 ≤ d ∧ d ≤ 6 ∧ 0 ≤ q ∧ q < p2 d) ∧ (0 ≤ k ∧ k < A 2 (18 + c)) ∧ 0 ≤ w ∧ w ≤ 2 then ceX (A 2) c d.toNat q w k else -1)))) G_1 B_1))) ∧ (¬ (0 ≤ c ∧ c < A 2 0) → (K none F A)))) (False)
  | _ => False
def qeX8_cellControl : CE := (yX8_cellControl, cX8_cellControl, 6, (some .long), 5, some 8, 1, none, 1, 10, qsX8_cellControl)
theorem qbX8_cellControl : am_mb qeX8_cellControl := ⟨am_tb_at 991 (by decide +kernel) rfl, am_tb_at 35 (by decide +kernel) rfl, ⟨by decide, by decide, by decide +kernel⟩, by decide, am_tb_at 989 (by decide +kernel) rfl, am_tb_at 990 (by decide +kernel) rfl, _, _, rfl⟩
set_option maxRecDepth 20000 in
theorem qvX8_cellControl_0 (c : Int) (d : Int) (q : Int) (k : Int) (w : Int) (F : FF) (A : AA) (K : KK) (h : (fgOK (A 2) ∧ (-2147483648 ≤ c ∧ c < 2147483648) ∧ (-2147483648 ≤ d ∧ d < 2147483648) ∧ (-2147483648 ≤ q ∧ q < 2147483648) ∧ (-2147483648 ≤ k ∧ k < 2147483648) ∧ (-2147483648 ≤ w ∧ w < 2147483648) ∧ caAll A) ∧ ((0 ≤ c ∧ c < A 2 0 → (∀ (G_1 : FF) (B_1 : AA), (qrP F G_1 A B_1) → (K (some (some (vL (if (0 ≤ d ∧ d ≤ 6 ∧ 0 ≤ q ∧ q < p2 d) ∧ (0 ≤ k ∧ k < A 2 (18 + c)) ∧ 0 ≤ w ∧ w ≤ 2 then ceX (A 2) c d.toNat q w k else -1)))) G_1 B_1))) ∧ (¬ (0 ≤ c ∧ c < A 2 0) → (K none F A)))) : am_line qxX8_cellControl 37 [vR 0, vI c, vI d, vI q, vI k, vI w] 6 F A K := by
  show am_stp qxX8_cellControl (am_run qxX8_cellControl (fun _ => none) (fun _ _ _ _ _ _ => False) K 37) K 0 [some (vR 0), some (vI c), some (vI d), some (vI q), some (vI k), some (vI w)] [] F A 0
  obtain ⟨hp, h⟩ := h
  have p1 := hp.1
  have p2' := hp.2
  have q1 := p1.1.1
  have q2 := p1.1.2
  show ((0 ≤ A 2 0 ∧ A 2 0 ≤ 8) ∧ (0 ≤ A 2 1 ∧ A 2 1 ≤ 6) ∧ (-2147483648 ≤ c ∧ c < 2147483648)) ∧ ((0 ≤ c ∧ c < A 2 0 → ((0 ≤ 6 ∧ 6 ≤ 12) ∧ ((w32 (bi (0 ≤ w32 d ∧ w32 d ≤ 6 ∧ 0 ≤ w32 q ∧ w32 q < p2 (w32 d))) = w32 0 → (K (some (some (vL (-1)))) F A)) ∧ (¬ (w32 (bi (0 ≤ w32 d ∧ w32 d ≤ 6 ∧ 0 ≤ w32 q ∧ w32 q < p2 (w32 d))) = w32 0) → ((w32 (bi (0 ≤ w32 c ∧ w32 c < w32 (fat (A 2) 0) ∧ 0 ≤ w32 k ∧ w32 k < w32 (fat (A 2) (18 + c)))) = w32 0 → (K (some (some (vL (-1)))) F A)) ∧ (¬ (w32 (bi (0 ≤ w32 c ∧ w32 c < w32 (fat (A 2) 0) ∧ 0 ≤ w32 k ∧ w32 k < w32 (fat (A 2) (18 + c)))) = w32 0) → ((w32 (bi (w32 0 ≤ w32 w ∧ w32 w ≤ w32 2)) = w32 0 → (K (some (some (vL (-1)))) F A)) ∧ (¬ (w32 (bi (w32 0 ≤ w32 w ∧ w32 w ≤ w32 2)) = w32 0) → ((0 ≤ c ∧ c < 8 ∧ 2 ≤ A 2 (18 + c) ∧ A 2 (18 + c) ≤ 4 ∧ 0 ≤ d ∧ d ≤ 6 ∧ caOK A c) ∧ (∀ (B_1 : AA), (grQ A B_1 c d) → ((0 ≤ c ∧ c < 8 ∧ 0 ≤ (x_shl 1 d - 1 + q) ∧ (x_shl 1 d - 1 + q) < 127 ∧ 0 ≤ w ∧ w ≤ 2 ∧ 0 ≤ k ∧ k < 4) ∧ (K (some (some (vL (B_1 10 (((c * 127 + (x_shl 1 d - 1 + q)) * 3 + w) * 4 + k))))) F B_1)))))))))))) ∧ (¬ (0 ≤ c ∧ c < A 2 0) → (K none F A)))
  refine ⟨by exact ⟨p1.1.1, p1.1.2, hp.2.1⟩, ?_⟩
  refine ⟨fun c1 => ?_, fun c1 => ?_⟩
  · skip
    (try simp (disch := omega) only [w32_0, wbi0, Classical.not_not, w32_id] at c1); (try (have q3 := (p1.2.2.1 c c1.1 c1.2).1; simp (disch := omega) only [fat_in, w32_id] at c1))
    refine ⟨by (have q3 := (p1.2.2.1 c c1.1 c1.2).1; first | omega | (have n9 := ndr (d := d) (q := q) (by omega) (by omega) (by omega); simp (disch := omega) only [x_shl1, fat_in]; omega) | (simp (disch := omega) only [fat_in]; exact ⟨by omega, by omega, by omega, by omega, by omega, by omega, hp.2.2.2.2.2.2 c c1.1 (by omega)⟩) | exact ⟨by omega, by omega, by omega, by omega, by omega, by omega, hp.2.2.2.2.2.2 c c1.1 (by omega)⟩), ?_⟩
    refine ⟨fun c2 => ?_, fun c2 => ?_⟩
    · skip
      (try simp (disch := omega) only [w32_0, wbi0, Classical.not_not, w32_id] at c2); (try (have q3 := (p1.2.2.1 c c1.1 c1.2).1; simp (disch := omega) only [fat_in, w32_id] at c2))
      have q3 := (p1.2.2.1 c c1.1 c1.2).1
      first
      | exact L_eq (h.1 c1 _ _ qrP_id) (if_neg (by omega))
      | (have hB := grQ_f g1
         refine L_eq (h.1 c1 _ _ (qrP_gr (F := F) (G := F) (fun _ _ _ => rfl) g1)) ?_
         rw [if_pos (by omega), x_shl1 (by omega) (by omega), nd_cell' g1.2.1 g1.2.2.1 (by rw [hB]; omega) (by omega) (by omega) (by omega) (by omega) (by omega) (by omega) (by omega) (by rw [hB]; omega), hB])
    · skip
      (try simp (disch := omega) only [w32_0, wbi0, Classical.not_not, w32_id] at c2); (try (have q3 := (p1.2.2.1 c c1.1 c1.2).1; simp (disch := omega) only [fat_in, w32_id] at c2))
      refine ⟨fun c3 => ?_, fun c3 => ?_⟩
      · skip
        (try simp (disch := omega) only [w32_0, wbi0, Classical.not_not, w32_id] at c3); (try (have q3 := (p1.2.2.1 c c1.1 c1.2).1; simp (disch := omega) only [fat_in, w32_id] at c3))
        have q3 := (p1.2.2.1 c c1.1 c1.2).1
        first
        | exact L_eq (h.1 c1 _ _ qrP_id) (if_neg (by omega))
        | (have hB := grQ_f g1
           refine L_eq (h.1 c1 _ _ (qrP_gr (F := F) (G := F) (fun _ _ _ => rfl) g1)) ?_
           rw [if_pos (by omega), x_shl1 (by omega) (by omega), nd_cell' g1.2.1 g1.2.2.1 (by rw [hB]; omega) (by omega) (by omega) (by omega) (by omega) (by omega) (by omega) (by omega) (by rw [hB]; omega), hB])
      · skip
        (try simp (disch := omega) only [w32_0, wbi0, Classical.not_not, w32_id] at c3); (try (have q3 := (p1.2.2.1 c c1.1 c1.2).1; simp (disch := omega) only [fat_in, w32_id] at c3))
        refine ⟨fun c4 => ?_, fun c4 => ?_⟩
        · skip
          (try simp (disch := omega) only [w32_0, wbi0, Classical.not_not, w32_id] at c4); (try (have q3 := (p1.2.2.1 c c1.1 c1.2).1; simp (disch := omega) only [fat_in, w32_id] at c4))
          have q3 := (p1.2.2.1 c c1.1 c1.2).1
          first
          | exact L_eq (h.1 c1 _ _ qrP_id) (if_neg (by omega))
          | (have hB := grQ_f g1
             refine L_eq (h.1 c1 _ _ (qrP_gr (F := F) (G := F) (fun _ _ _ => rfl) g1)) ?_
             rw [if_pos (by omega), x_shl1 (by omega) (by omega), nd_cell' g1.2.1 g1.2.2.1 (by rw [hB]; omega) (by omega) (by omega) (by omega) (by omega) (by omega) (by omega) (by omega) (by rw [hB]; omega), hB])
        · skip
          (try simp (disch := omega) only [w32_0, wbi0, Classical.not_not, w32_id] at c4); (try (have q3 := (p1.2.2.1 c c1.1 c1.2).1; simp (disch := omega) only [fat_in, w32_id] at c4))
          refine ⟨by (have q3 := (p1.2.2.1 c c1.1 c1.2).1; first | omega | (have n9 := ndr (d := d) (q := q) (by omega) (by omega) (by omega); simp (disch := omega) only [x_shl1, fat_in]; omega) | (simp (disch := omega) only [fat_in]; exact ⟨by omega, by omega, by omega, by omega, by omega, by omega, hp.2.2.2.2.2.2 c c1.1 (by omega)⟩) | exact ⟨by omega, by omega, by omega, by omega, by omega, by omega, hp.2.2.2.2.2.2 c c1.1 (by omega)⟩), ?_⟩
          intro B_1 g1
          refine ⟨by (have q3 := (p1.2.2.1 c c1.1 c1.2).1; first | omega | (have n9 := ndr (d := d) (q := q) (by omega) (by omega) (by omega); simp (disch := omega) only [x_shl1, fat_in]; omega) | (simp (disch := omega) only [fat_in]; exact ⟨by omega, by omega, by omega, by omega, by omega, by omega, hp.2.2.2.2.2.2 c c1.1 (by omega)⟩) | exact ⟨by omega, by omega, by omega, by omega, by omega, by omega, hp.2.2.2.2.2.2 c c1.1 (by omega)⟩), ?_⟩
          have q3 := (p1.2.2.1 c c1.1 c1.2).1
          first
          | exact L_eq (h.1 c1 _ _ qrP_id) (if_neg (by omega))
          | (have hB := grQ_f g1
             refine L_eq (h.1 c1 _ _ (qrP_gr (F := F) (G := F) (fun _ _ _ => rfl) g1)) ?_
             rw [if_pos (by omega), x_shl1 (by omega) (by omega), nd_cell' g1.2.1 g1.2.2.1 (by rw [hB]; omega) (by omega) (by omega) (by omega) (by omega) (by omega) (by omega) (by omega) (by rw [hB]; omega), hB])
  · skip
    (try simp (disch := omega) only [w32_0, wbi0, Classical.not_not, w32_id] at c1); (try (have q3 := (p1.2.2.1 c c1.1 c1.2).1; simp (disch := omega) only [fat_in, w32_id] at c1))
    exact h.2 c1
theorem qtX8_cellControl (l : Launch) (hst : l.stackTraces = false) : am_CT l layX qeX8_cellControl := am_met1 hst rfl (by decide +kernel) rfl rfl rfl rfl rfl (fun _ _ h => by cases h) rfl (qzX8_cellControl l hst) (fun as F A K h => by
  replace h : qsX8_cellControl as F A K := h
  unfold qsX8_cellControl at h
  split at h
  · rename_i o c d q k w
    refine ⟨by first | exact Nat.le_of_ble_eq_true rfl | simp [am_fl, am_cat], ?_⟩
    replace h := am_cond2 h
    rcases h with ⟨hb, h⟩ | h
    · skip
      have hb0 := hb
      have hb0 := am_bq hb0
      subst hb0
      exact am_way_line (qvX8_cellControl_0 c d q k w F A K h)
    exact h.elim
  · exact h.elim)
