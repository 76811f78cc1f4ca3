def qkX7_append : Nat → Option CI := fun pc => cond (Nat.ble 56 pc) none (cond (Nat.ble 30 pc) (cond (Nat.ble 40 pc) (cond (Nat.ble 46 pc) (cond (Nat.ble 52 pc) (cond (Nat.beq pc 52) (some (.goto (-49), 55, [3])) (cond (Nat.beq pc 55) (some (.return_, 56, [])) (none))) (cond (Nat.beq pc 46) (some (.putfield 15, 49, [])) (cond (Nat.beq pc 49) (some (.iinc 2 (-8), 52, [])) (none)))) (cond (Nat.ble 44 pc) (cond (Nat.beq pc 44) (some (.iconst 1, 45, [])) (cond (Nat.beq pc 45) (some (.iadd, 46, [])) (none))) (cond (Nat.beq pc 40) (some (.dup, 41, [])) (cond (Nat.beq pc 41) (some (.getfield 15, 44, [])) (none))))) (cond (Nat.ble 36 pc) (cond (Nat.ble 38 pc) (cond (Nat.beq pc 38) (some (.bastore, 39, [])) (cond (Nat.beq pc 39) (some (.aload_n 0, 40, [])) (none))) (cond (Nat.beq pc 36) (some (.ishr, 37, [])) (cond (Nat.beq pc 37) (some (.i2b, 38, [])) (none)))) (cond (Nat.ble 34 pc) (cond (Nat.beq pc 34) (some (.iload_n 1, 35, [])) (cond (Nat.beq pc 35) (some (.iload_n 2, 36, [])) (none))) (cond (Nat.beq pc 30) (some (.aload_n 0, 31, [])) (cond (Nat.beq pc 31) (some (.getfield 15, 34, [])) (none)))))) (cond (Nat.ble 14 pc) (cond (Nat.ble 22 pc) (cond (Nat.ble 26 pc) (cond (Nat.beq pc 26) (some (.aload_n 0, 27, [])) (cond (Nat.beq pc 27) (some (.getfield 9, 30, [])) (none))) (cond (Nat.beq pc 22) (some (.arraylength, 23, [])) (cond (Nat.beq pc 23) (some (.if_icmp .ge 26, 26, [49])) (none)))) (cond (Nat.ble 18 pc) (cond (Nat.beq pc 18) (some (.aload_n 0, 19, [])) (cond (Nat.beq pc 19) (some (.getfield 9, 22, [])) (none))) (cond (Nat.beq pc 14) (some (.aload_n 0, 15, [])) (cond (Nat.beq pc 15) (some (.getfield 15, 18, [])) (none))))) (cond (Nat.ble 4 pc) (cond (Nat.ble 8 pc) (cond (Nat.beq pc 8) (some (.getfield 15, 11, [])) (cond (Nat.beq pc 11) (some (.ifCond .lt 38, 14, [49])) (none))) (cond (Nat.beq pc 4) (some (.ifCond .lt 51, 7, [55])) (cond (Nat.beq pc 7) (some (.aload_n 0, 8, [])) (none)))) (cond (Nat.beq pc 0) (some (.bipush 24, 2, [])) (cond (Nat.beq pc 2) (some (.istore_n 2, 3, [])) (cond (Nat.beq pc 3) (some (.iload_n 2, 4, [])) (none)))))))
theorem qkX7_append_ok : ∀ pc i nx ts, qkX7_append pc = some (i, nx, ts) → am_cok cX7_append pc (i, nx, ts) = true := fun pc i nx ts h => am_tok_ok (n := 56) (by decide +kernel) (fun pc h => by show cond (Nat.ble 56 pc) _ _ = _; rw [Nat.ble_eq_true_of_le h]; rfl) h
def qaX7_append : Nat → Option CE := fun k => none
theorem qyX7_append (l : Launch) : ∀ k e1, qaX7_append k = some e1 → am_cal l layX RX7 3 k e1 ∧ ceT e1 = 0 := q_nil
def qxX7_append : CX := (qkX7_append, layX, qfX7, qaX7_append, qcX7, qlX7, qmX7, none, false, none, 0, none, fun _ => none)
theorem qzX7_append (l : Launch) : am_sta l qxX7_append RX7 3 cX7_append := ⟨qkX7_append_ok, layX_ok, qfX7_ok, qcX7_ok, qlX7_ok, am_mthP qmX7_ok (by decide), fun k e1 h => (qyX7_append l k e1 h).1⟩
def qsX7_append : SP := fun as F A K => match as with
  | [.inr (.inr o), .inl w] => cond (Nat.beq o 7) ((0 ≤ (F 7 1) ∧ (F 7 1) ≤ 796) ∧ (K (some none) (upF F 7 1 ((F 7 1) + 4)) (setR A 8 ((F 7 1)) 4 (fun kk => byF w kk)))) (False)
  | _ => False
def qeX7_append : CE := (yX7_append, cX7_append, 3, none, 1, some 7, 0, none, 0, 3, qsX7_append)
theorem qbX7_append : am_mb qeX7_append := ⟨am_tb_at 606 (by decide +kernel) rfl, am_tb_at 38 (by decide +kernel) rfl, ⟨by decide, by decide, by decide +kernel⟩, by decide, am_tb_at 604 (by decide +kernel) rfl, am_tb_at 605 (by decide +kernel) rfl, _, _, rfl⟩
def qnX7_append_7 : CUT := fun pc => cond (Nat.beq pc 3) (some [true, true, true]) (none)
def qiX7_append_7 (w : Int) (F0 : FF) (A0 : AA) : REC := fun pc ls st F A u => cond (Nat.beq pc 3) (match ls, st, u with
    | [some (.inr (.inr s0)), some (.inl s1), some (.inl s)], [], 0 => s0 = 7 ∧ s1 = w ∧ (∃ k, (0 ≤ k ∧ k ≤ 4) ∧ s = 24 - 8 * k ∧ F = upF F0 7 1 (F0 7 1 + k) ∧ A = setR A0 8 (F0 7 1) k (fun kk => byF w kk))
    | _, _, _ => False) (False)
def quX7_append_7 : Nat → LVs → List AV → FF → AA → Nat := fun pc ls _ F A => cond (Nat.beq pc 3) (match ls with
    | [some (.inr (.inr s0)), some (.inl s1), some (.inl s)] => Int.toNat (s + 8)
    | _ => 0) (0)
set_option maxRecDepth 20000 in
theorem qvX7_append_7_0 (w : Int) (F0 : FF) (A0 : AA) (K : KK) (h : (0 ≤ (F0 7 1) ∧ (F0 7 1) ≤ 796) ∧ (K (some none) (upF F0 7 1 ((F0 7 1) + 4)) (setR A0 8 ((F0 7 1)) 4 (fun kk => byF w kk)))) : am_stp qxX7_append (am_run qxX7_append qnX7_append_7 (qiX7_append_7 w F0 A0) K 31) K 0 (am_ent [vR 7, vI w] 3) [] F0 A0 0 := by
  show am_stp qxX7_append (am_run qxX7_append qnX7_append_7 (qiX7_append_7 w F0 A0) K 31) K 0 [some (vR 7), some (vI w), none] [] F0 A0 0
  obtain ⟨hp, h⟩ := h
  show 7 = 7 ∧ w = w ∧ (∃ k, (0 ≤ k ∧ k ≤ 4) ∧ 24 = 24 - 8 * k ∧ F0 = upF F0 7 1 (F0 7 1 + k) ∧ A0 = setR A0 8 (F0 7 1) k (fun kk => byF w kk))
  refine ⟨rfl, rfl, ?_⟩
  exact ⟨0, by omega, by omega, (upF_id (by omega)).symm, setR_0.symm⟩
set_option maxRecDepth 20000 in
theorem qvX7_append_7_3 (w : Int) (F0 : FF) (A0 : AA) (K : KK) (h : (0 ≤ (F0 7 1) ∧ (F0 7 1) ≤ 796) ∧ (K (some none) (upF F0 7 1 ((F0 7 1) + 4)) (setR A0 8 ((F0 7 1)) 4 (fun kk => byF w kk)))) (s : Int) (F : FF) (A : AA) (hi : ∃ k, (0 ≤ k ∧ k ≤ 4) ∧ s = 24 - 8 * k ∧ F = upF F0 7 1 (F0 7 1 + k) ∧ A = setR A0 8 (F0 7 1) k (fun kk => byF w kk)) : am_stp qxX7_append (am_run qxX7_append qnX7_append_7 (fun pc ls st F A u => qiX7_append_7 w F0 A0 pc ls st F A u ∧ quX7_append_7 pc ls st F A < quX7_append_7 3 [some (vR 7), some (vI w), some (vI s)] [] F A) K 31) K 3 [some (vR 7), some (vI w), some (vI s)] [] F A 0 := by
  obtain ⟨hp, h⟩ := h
  obtain ⟨k, h1, h2, h3, h4⟩ := hi
  have f1 : F 7 1 = F0 7 1 + k := by rw [h3, upF_s]
  show (w32 s < w32 0 → (K (some none) F A)) ∧ (¬ w32 s < w32 0 → ((w32 (F 7 1) < w32 0 → ((7 = 7 ∧ w = w ∧ (∃ k, (0 ≤ k ∧ k ≤ 4) ∧ (s + (-8)) = 24 - 8 * k ∧ F = upF F0 7 1 (F0 7 1 + k) ∧ A = setR A0 8 (F0 7 1) k (fun kk => byF w kk))) ∧ (Int.toNat ((s + (-8)) + 8)) < (Int.toNat (s + 8)))) ∧ (¬ w32 (F 7 1) < w32 0 → ((w32 (F 7 1) < w32 800 → ((0 ≤ w32 (F 7 1) ∧ w32 (F 7 1) < 800) ∧ ((7 = 7 ∧ w = w ∧ (∃ k, (0 ≤ k ∧ k ≤ 4) ∧ (s + (-8)) = 24 - 8 * k ∧ (upF F 7 1 ((F 7 1) + 1)) = upF F0 7 1 (F0 7 1 + k) ∧ (upA A 8 (w32 (F 7 1)) (x_bb (x_i2b (x_shr w s)))) = setR A0 8 (F0 7 1) k (fun kk => byF w kk))) ∧ (Int.toNat ((s + (-8)) + 8)) < (Int.toNat (s + 8))))) ∧ (¬ w32 (F 7 1) < w32 800 → ((7 = 7 ∧ w = w ∧ (∃ k, (0 ≤ k ∧ k ≤ 4) ∧ (s + (-8)) = 24 - 8 * k ∧ F = upF F0 7 1 (F0 7 1 + k) ∧ A = setR A0 8 (F0 7 1) k (fun kk => byF w kk))) ∧ (Int.toNat ((s + (-8)) + 8)) < (Int.toNat (s + 8))))))))
  refine ⟨fun c1 => ?_, fun c1 => ?_⟩
  · skip
    (try rw [f1] at c1); (try simp (disch := omega) only [w32_0, w32_id] at c1)
    have ek : k = 4 := by omega
    rw [h3, h4, ek]; exact h
  · skip
    (try rw [f1] at c1); (try simp (disch := omega) only [w32_0, w32_id] at c1)
    refine ⟨fun c2 => ?_, fun c2 => ?_⟩
    · skip
      (try rw [f1] at c2); (try simp (disch := omega) only [w32_0, w32_id] at c2)
      refine ⟨⟨rfl, rfl, ?_⟩, by omega⟩
      exfalso; omega
    · skip
      (try rw [f1] at c2); (try simp (disch := omega) only [w32_0, w32_id] at c2)
      refine ⟨fun c3 => ?_, fun c3 => ?_⟩
      · skip
        (try rw [f1] at c3); (try simp (disch := omega) only [w32_0, w32_id] at c3)
        refine ⟨by first | omega | (simp (disch := omega) only [w32_0, w64_0, wbi0, wbi1, yc_eq0, yc_lt0, yc_gt0, Classical.not_not, w32_id, w64_id]; omega) | (simp (disch := omega) only [w32_0, w64_0, wbi0, wbi1, yc_eq0, yc_lt0, yc_gt0, Classical.not_not, w32_id, w64_id]; done), ?_⟩
        refine ⟨⟨rfl, rfl, ?_⟩, by omega⟩
        refine ⟨k + 1, by omega, by omega, ?_, ?_⟩
        · rw [f1, h3, upF_2]; congr 1; omega
        · rw [f1, h4, h2, x_bb_by (by omega) (by omega), w32_id (by omega) (by omega)]
          exact setR_push (by omega) (fun _ _ _ => rfl) rfl
      · skip
        (try rw [f1] at c3); (try simp (disch := omega) only [w32_0, w32_id] at c3)
        refine ⟨⟨rfl, rfl, ?_⟩, by omega⟩
        exfalso; omega
set_option maxRecDepth 20000 in
theorem qvX7_append_7 (w : Int) (F0 : FF) (A0 : AA) (K : KK) (h : (0 ≤ (F0 7 1) ∧ (F0 7 1) ≤ 796) ∧ (K (some none) (upF F0 7 1 ((F0 7 1) + 4)) (setR A0 8 ((F0 7 1)) 4 (fun kk => byF w kk)))) : am_body qxX7_append qnX7_append_7 31 (qiX7_append_7 w F0 A0) quX7_append_7 [vR 7, vI w] 3 F0 A0 K := by
  refine ⟨qvX7_append_7_0 w F0 A0 K h, fun pc ls st F A u hI => ?_⟩
  unfold qiX7_append_7 at hI
  replace hI := am_cond2 hI
  rcases hI with ⟨hb, hI⟩ | hI
  · have hb := am_bq hb
    subst hb
    split at hI
    · rename_i s0 s1 s
      obtain ⟨e0, e1, hI⟩ := hI
      subst e0
      subst e1
      exact qvX7_append_7_3 _ _ _ K h _ _ _ hI
    · exact hI.elim
  exact hI.elim
theorem qtX7_append (l : Launch) : am_CT l layX qeX7_append := am_met0 rfl (by decide +kernel) rfl rfl rfl rfl rfl (fun _ => rfl) rfl (qzX7_append l) (fun k e1 h => (qyX7_append l k e1 h).2) (fun as F A K h => by
  replace h : qsX7_append as F A K := h
  unfold qsX7_append at h
  split at h
  · rename_i o w
    refine ⟨by first | exact Nat.le_of_ble_eq_true rfl | simp [am_fl, am_cat], ?_⟩
    replace h := am_cond2 h
    rcases h with ⟨hb, h⟩ | h
    · skip
      have hb0 := hb
      have hb0 := am_bq hb0
      subst hb0
      exact am_way_body (qvX7_append_7 w F A K h)
    exact h.elim
  · exact h.elim)
def qkX8_feed : Nat → Option CI := fun pc => cond (Nat.ble 66 pc) none (cond (Nat.ble 32 pc) (cond (Nat.ble 49 pc) (cond (Nat.ble 58 pc) (cond (Nat.ble 62 pc) (cond (Nat.beq pc 62) (some (.invokevirtual 75, 65, [])) (cond (Nat.beq pc 65) (some (.ireturn, 66, [])) (none))) (cond (Nat.beq pc 58) (some (.aload_n 0, 59, [])) (cond (Nat.beq pc 59) (some (.getfield 29, 62, [])) (none)))) (cond (Nat.ble 53 pc) (cond (Nat.beq pc 53) (some (.iload 5, 55, [])) (cond (Nat.beq pc 55) (some (.invokevirtual 79, 58, [])) (none))) (cond (Nat.beq pc 49) (some (.aload_n 0, 50, [])) (cond (Nat.beq pc 50) (some (.getfield 29, 53, [])) (none))))) (cond (Nat.ble 40 pc) (cond (Nat.ble 44 pc) (cond (Nat.beq pc 44) (some (.iload 4, 46, [])) (cond (Nat.beq pc 46) (some (.invokevirtual 79, 49, [])) (none))) (cond (Nat.beq pc 40) (some (.aload_n 0, 41, [])) (cond (Nat.beq pc 41) (some (.getfield 29, 44, [])) (none)))) (cond (Nat.ble 36 pc) (cond (Nat.beq pc 36) (some (.iload_n 3, 37, [])) (cond (Nat.beq pc 37) (some (.invokevirtual 79, 40, [])) (none))) (cond (Nat.beq pc 32) (some (.aload_n 0, 33, [])) (cond (Nat.beq pc 33) (some (.getfield 29, 36, [])) (none)))))) (cond (Nat.ble 16 pc) (cond (Nat.ble 24 pc) (cond (Nat.ble 28 pc) (cond (Nat.beq pc 28) (some (.iload_n 2, 29, [])) (cond (Nat.beq pc 29) (some (.invokevirtual 79, 32, [])) (none))) (cond (Nat.beq pc 24) (some (.aload_n 0, 25, [])) (cond (Nat.beq pc 25) (some (.getfield 29, 28, [])) (none)))) (cond (Nat.ble 20 pc) (cond (Nat.beq pc 20) (some (.iload_n 1, 21, [])) (cond (Nat.beq pc 21) (some (.invokevirtual 79, 24, [])) (none))) (cond (Nat.beq pc 16) (some (.aload_n 0, 17, [])) (cond (Nat.beq pc 17) (some (.getfield 29, 20, [])) (none))))) (cond (Nat.ble 7 pc) (cond (Nat.ble 13 pc) (cond (Nat.beq pc 13) (some (.bipush (-3), 15, [])) (cond (Nat.beq pc 15) (some (.ireturn, 16, [])) (none))) (cond (Nat.beq pc 7) (some (.sipush 780, 10, [])) (cond (Nat.beq pc 10) (some (.if_icmp .le 6, 13, [16])) (none)))) (cond (Nat.beq pc 0) (some (.aload_n 0, 1, [])) (cond (Nat.beq pc 1) (some (.getfield 29, 4, [])) (cond (Nat.beq pc 4) (some (.invokevirtual 75, 7, [])) (none)))))))
theorem qkX8_feed_ok : ∀ pc i nx ts, qkX8_feed pc = some (i, nx, ts) → am_cok cX8_feed pc (i, nx, ts) = true := fun pc i nx ts h => am_tok_ok (n := 66) (by decide +kernel) (fun pc h => by show cond (Nat.ble 66 pc) _ _ = _; rw [Nat.ble_eq_true_of_le h]; rfl) h
def qaX8_feed : Nat → Option CE := fun k => cond (Nat.beq k 75) (some qeX7_filled) (cond (Nat.beq k 79) (some qeX7_append) (none))
theorem qyX8_feed (l : Launch) : ∀ k e1, qaX8_feed k = some e1 → am_cal l layX RX8 4 k e1 ∧ ceT e1 = 0 := q_cons ⟨am_calV (ci := 7) (qtX7_filled l) qbX7_filled (by decide) rfl (am_tb_at 599 (by decide +kernel) rfl), rfl⟩ (q_cons ⟨am_calV (ci := 7) (qtX7_append l) qbX7_append (by decide) rfl (am_tb_at 603 (by decide +kernel) rfl), rfl⟩ (q_nil))
def qxX8_feed : CX := (qkX8_feed, layX, qfX8, qaX8_feed, qcX8, qlX8, qmX8, (some .int), false, none, 0, none, fun _ => none)
theorem qzX8_feed (l : Launch) : am_sta l qxX8_feed RX8 4 cX8_feed := ⟨qkX8_feed_ok, layX_ok, qfX8_ok, qcX8_ok, qlX8_ok, am_mthP qmX8_ok (by decide), fun k e1 h => (qyX8_feed l k e1 h).1⟩
def qsX8_feed : SP := fun as F A K => match as with
  | [.inr (.inr o), .inl a, .inl b, .inl c, .inl d, .inl e] => cond (Nat.beq o 0) ((0 ≤ (F 7 1) ∧ (F 7 1) ≤ 800) ∧ (∀ (G_1 : FF) (B_1 : AA), (((F 7 1) ≤ 780 → G_1 = upF F 7 1 ((F 7 1) + 20) ∧ B_1 = setR A 8 ((F 7 1)) 20 (fdF a b c d e)) ∧ (¬ (F 7 1) ≤ 780 → ch0 F G_1 A B_1)) → (K (some (some (vI (if (F 7 1) ≤ 780 then (F 7 1) + 20 else -3)))) G_1 B_1))) (False)
  | _ => False
def qeX8_feed : CE := (yX8_feed, cX8_feed, 6, (some .int), 5, some 8, 0, none, 0, 4, qsX8_feed)
theorem qbX8_feed : am_mb qeX8_feed := ⟨am_tb_at 598 (by decide +kernel) rfl, am_tb_at 35 (by decide +kernel) rfl, ⟨by decide, by decide, by decide +kernel⟩, by decide, am_tb_at 596 (by decide +kernel) rfl, am_tb_at 597 (by decide +kernel) rfl, _, _, rfl⟩
set_option maxRecDepth 20000 in
theorem qvX8_feed_0 (a : Int) (b : Int) (c : Int) (d : Int) (e : Int) (F : FF) (A : AA) (K : KK) (h : (0 ≤ (F 7 1) ∧ (F 7 1) ≤ 800) ∧ (∀ (G_1 : FF) (B_1 : AA), (((F 7 1) ≤ 780 → G_1 = upF F 7 1 ((F 7 1) + 20) ∧ B_1 = setR A 8 ((F 7 1)) 20 (fdF a b c d e)) ∧ (¬ (F 7 1) ≤ 780 → ch0 F G_1 A B_1)) → (K (some (some (vI (if (F 7 1) ≤ 780 then (F 7 1) + 20 else -3)))) G_1 B_1))) : am_line qxX8_feed 30 [vR 0, vI a, vI b, vI c, vI d, vI e] 6 F A K := by
  show am_stp qxX8_feed (am_run qxX8_feed (fun _ => none) (fun _ _ _ _ _ _ => False) K 30) K 0 [some (vR 0), some (vI a), some (vI b), some (vI c), some (vI d), some (vI e)] [] F A 0
  obtain ⟨hp, h⟩ := h
  show (w32 780 < w32 (F 7 1) → (K (some (some (vI (-3)))) F A)) ∧ (¬ w32 780 < w32 (F 7 1) → ((0 ≤ (F 7 1) ∧ (F 7 1) ≤ 796) ∧ ((0 ≤ ((F 7 1) + 4) ∧ ((F 7 1) + 4) ≤ 796) ∧ ((0 ≤ (((F 7 1) + 4) + 4) ∧ (((F 7 1) + 4) + 4) ≤ 796) ∧ ((0 ≤ ((((F 7 1) + 4) + 4) + 4) ∧ ((((F 7 1) + 4) + 4) + 4) ≤ 796) ∧ ((0 ≤ (((((F 7 1) + 4) + 4) + 4) + 4) ∧ (((((F 7 1) + 4) + 4) + 4) + 4) ≤ 796) ∧ (K (some (some (vI ((((((F 7 1) + 4) + 4) + 4) + 4) + 4)))) (upF (upF (upF (upF (upF F 7 1 ((F 7 1) + 4)) 7 1 (((F 7 1) + 4) + 4)) 7 1 ((((F 7 1) + 4) + 4) + 4)) 7 1 (((((F 7 1) + 4) + 4) + 4) + 4)) 7 1 ((((((F 7 1) + 4) + 4) + 4) + 4) + 4)) (setR (setR (setR (setR (setR A 8 ((F 7 1)) 4 (fun kk => byF a kk)) 8 (((F 7 1) + 4)) 4 (fun kk => byF b kk)) 8 ((((F 7 1) + 4) + 4)) 4 (fun kk => byF c kk)) 8 (((((F 7 1) + 4) + 4) + 4)) 4 (fun kk => byF d kk)) 8 ((((((F 7 1) + 4) + 4) + 4) + 4)) 4 (fun kk => byF e kk)))))))))
  refine ⟨fun c1 => ?_, fun c1 => ?_⟩
  · skip
    (try simp (disch := omega) only [w32_0, w32_id] at c1)
    exact K_eq (h _ _ ⟨fun z => absurd z (by omega), fun _ => ⟨rfl, rfl⟩⟩) (if_neg (by omega))
  · skip
    (try simp (disch := omega) only [w32_0, w32_id] at c1)
    refine ⟨by first | omega | (simp only [upF_s, upF_2]; omega), ?_⟩
    refine ⟨by first | omega | (simp only [upF_s, upF_2]; omega), ?_⟩
    refine ⟨by first | omega | (simp only [upF_s, upF_2]; omega), ?_⟩
    refine ⟨by first | omega | (simp only [upF_s, upF_2]; omega), ?_⟩
    refine ⟨by first | omega | (simp only [upF_s, upF_2]; omega), ?_⟩
    refine K_eq (h _ _ ⟨fun _ => ⟨?_, ?_⟩, fun z => absurd (show F 7 1 ≤ 780 by omega) z⟩) ?_
    · try simp only [upF_s, upF_2]
      congr 1; omega
    · try simp only [upF_s, upF_2]
      rw [setR_app (by omega) (by omega), setR_app (by omega) (by omega), setR_app (by omega) (by omega), setR_app (by omega) (by omega)]
      refine setR_c (fun i i0 i1 => ?_)
      unfold fdF
      by_cases h4 : i < 4
      · rw [if_pos h4, if_pos h4]; congr 1; omega
      · by_cases h8 : i < 8
        · rw [if_neg h4, if_pos (by omega), if_neg h4, if_pos h8]; congr 1; omega
        · by_cases h12 : i < 12
          · rw [if_neg h4, if_neg (by omega), if_pos (by omega), if_neg h4, if_neg h8, if_pos h12]; congr 1; omega
          · by_cases h16 : i < 16
            · rw [if_neg h4, if_neg (by omega), if_neg (by omega), if_pos (by omega), if_neg h4, if_neg h8, if_neg h12, if_pos h16]; congr 1; omega
            · rw [if_neg h4, if_neg (by omega), if_neg (by omega), if_neg (by omega), if_neg h4, if_neg h8, if_neg h12, if_neg h16]; congr 1; omega
    · rw [if_pos (by omega)]; try simp only [upF_s, upF_2]
      omega
theorem qtX8_feed (l : Launch) : am_CT l layX qeX8_feed := am_met0 rfl (by decide +kernel) rfl rfl rfl rfl rfl (fun _ => rfl) rfl (qzX8_feed l) (fun k e1 h => (qyX8_feed l k e1 h).2) (fun as F A K h => by
  replace h : qsX8_feed as F A K := h
  unfold qsX8_feed at h
  split at h
  · rename_i o a b c d e
    refine ⟨by first | exact Nat.le_of_ble_eq_true rfl | simp [am_fl, am_cat], ?_⟩
    replace h := am_cond2 h
    rcases h with ⟨hb, h⟩ | h
    · skip
      have hb0 := hb
      have hb0 := am_bq hb0
      subst hb0
      exact am_way_line (qvX8_feed_0 a b c d e F A K h)
    exact h.elim
  · exact h.elim)
