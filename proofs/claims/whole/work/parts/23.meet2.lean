def qkX6_group : Nat → Option CI := fun pc => cond (Nat.ble 43 pc) none (cond (Nat.ble 18 pc) (cond (Nat.ble 28 pc) (cond (Nat.ble 35 pc) (cond (Nat.ble 41 pc) (cond (Nat.beq pc 41) (some (.iload_n 1, 42, [])) (cond (Nat.beq pc 42) (some (.ireturn, 43, [])) (none))) (cond (Nat.beq pc 35) (some (.iinc 2 1, 38, [])) (cond (Nat.beq pc 38) (some (.goto (-34), 41, [4])) (none)))) (cond (Nat.beq pc 28) (some (.iload_n 1, 29, [])) (cond (Nat.beq pc 29) (some (.invokevirtual 74, 32, [])) (cond (Nat.beq pc 32) (some (.iinc 1 1, 35, [])) (none))))) (cond (Nat.ble 23 pc) (cond (Nat.beq pc 23) (some (.if_icmp .ne 12, 26, [35])) (cond (Nat.beq pc 26) (some (.aload_n 0, 27, [])) (cond (Nat.beq pc 27) (some (.iload_n 2, 28, [])) (none)))) (cond (Nat.beq pc 18) (some (.iload_n 2, 19, [])) (cond (Nat.beq pc 19) (some (.invokevirtual 70, 22, [])) (cond (Nat.beq pc 22) (some (.iconst (-1), 23, [])) (none)))))) (cond (Nat.ble 6 pc) (cond (Nat.ble 13 pc) (cond (Nat.beq pc 13) (some (.imul, 14, [])) (cond (Nat.beq pc 14) (some (.if_icmp .ge 27, 17, [41])) (cond (Nat.beq pc 17) (some (.aload_n 0, 18, [])) (none)))) (cond (Nat.beq pc 6) (some (.getfield 26, 9, [])) (cond (Nat.beq pc 9) (some (.aload_n 0, 10, [])) (cond (Nat.beq pc 10) (some (.getfield 26, 13, [])) (none))))) (cond (Nat.ble 3 pc) (cond (Nat.beq pc 3) (some (.istore_n 2, 4, [])) (cond (Nat.beq pc 4) (some (.iload_n 2, 5, [])) (cond (Nat.beq pc 5) (some (.aload_n 0, 6, [])) (none)))) (cond (Nat.beq pc 0) (some (.iconst 0, 1, [])) (cond (Nat.beq pc 1) (some (.istore_n 1, 2, [])) (cond (Nat.beq pc 2) (some (.iconst 0, 3, [])) (none)))))))
theorem qkX6_group_ok : ∀ pc i nx ts, qkX6_group pc = some (i, nx, ts) → am_cok cX6_group pc (i, nx, ts) = true := fun pc i nx ts h => am_tok_ok (n := 43) (by decide +kernel) (fun pc h => by show cond (Nat.ble 43 pc) _ _ = _; rw [Nat.ble_eq_true_of_le h]; rfl) h
def qaX6_group : Nat → Option CE := fun k => cond (Nat.beq k 70) (some qeX6_at) (cond (Nat.beq k 74) (some qeX6_spread) (none))
theorem qyX6_group (l : Launch) : ∀ k e1, qaX6_group k = some e1 → am_cal l layX RX6 6 k e1 ∧ ceT e1 = 0 := q_cons ⟨am_calV (ci := 6) (qtX6_at l) qbX6_at (by decide) rfl (am_tb_at 1274 (by decide +kernel) rfl), rfl⟩ (q_cons ⟨am_calV (ci := 6) (qtX6_spread l) qbX6_spread (by decide) rfl (am_tb_at 1300 (by decide +kernel) rfl), rfl⟩ (q_nil))
def qxX6_group : CX := (qkX6_group, layX, qfX6, qaX6_group, qcX6, qlX6, qmX6, (some .int), false, none, 0, none, fun _ => none)
theorem qzX6_group (l : Launch) : am_sta l qxX6_group RX6 6 cX6_group := ⟨qkX6_group_ok, layX_ok, qfX6_ok, qcX6_ok, qlX6_ok, am_mthP qmX6_ok (by decide), fun k e1 h => (qyX6_group l k e1 h).1⟩
def qsX6_group : SP := fun as F A K => match as with
  | [.inr (.inr o)] => cond (Nat.beq o 19) (((0 ≤ (F 19 3) ∧ (F 19 3) ≤ 6) ∧ (F 19 4) = p2 ((F 19 3)) ∧ (∀ j, -2 ≤ A 20 j ∧ A 20 j < 5000)) ∧ (∀ (G_1 : FF) (B_1 : AA), (gsP G_1 B_1 (grpF ((F 19 4)) (A 20, A 21, (F 19 2)) (Int.toNat ((F 19 4) * (F 19 4)))).1 ∧ gsF F G_1 A B_1 ∧ (∀ j, -2 ≤ B_1 20 j ∧ B_1 20 j < 5000)) → (K (some (some (vI ((grpF ((F 19 4)) (A 20, A 21, (F 19 2)) (Int.toNat ((F 19 4) * (F 19 4)))).2)))) G_1 B_1))) (False)
  | _ => False
def qeX6_group : CE := (yX6_group, cX6_group, 3, (some .int), 0, some 6, 0, [], 0, 6, qsX6_group)
theorem qbX6_group : am_mb qeX6_group := ⟨am_tb_at 1299 (by decide +kernel) rfl, am_tb_at 120 (by decide +kernel) rfl, ⟨by decide, by decide, by decide +kernel⟩, by decide, by decide, am_tb_at 1297 (by decide +kernel) rfl, am_tb_at 1298 (by decide +kernel) rfl, _, _, rfl⟩
def qnX6_group_19 : CUT := fun pc => cond (Nat.beq pc 4) (some [true, true, true]) (none)
def qiX6_group_19  (F0 : FF) (A0 : AA) : REC := fun pc ls st F A u => cond (Nat.beq pc 4) (match ls, st, u with
    | [some (.inr (.inr s0)), some (.inl n), some (.inl i)], [], 0 => s0 = 19 ∧ (0 ≤ i ∧ i ≤ F0 19 4 * F0 19 4 ∧ (0 ≤ n ∧ n ≤ i) ∧ gsF F0 F A0 A ∧ (∀ j, -2 ≤ A 20 j ∧ A 20 j < 5000) ∧ gsP F A (grpF (F0 19 4) (A0 20, A0 21, F0 19 2) (Int.toNat i)).1 ∧ n = (grpF (F0 19 4) (A0 20, A0 21, F0 19 2) (Int.toNat i)).2)
    | _, _, _ => False) (False)
def quX6_group_19 : Nat → LVs → List AV → FF → AA → Nat := fun pc ls _ F A => cond (Nat.beq pc 4) (match ls with
    | [some (.inr (.inr s0)), some (.inl n), some (.inl i)] => Int.toNat (5000 - i)
    | _ => 0) (0)
set_option maxRecDepth 20000 in
theorem qvX6_group_19_0  (F0 : FF) (A0 : AA) (K : KK) (h : ((0 ≤ (F0 19 3) ∧ (F0 19 3) ≤ 6) ∧ (F0 19 4) = p2 ((F0 19 3)) ∧ (∀ j, -2 ≤ A0 20 j ∧ A0 20 j < 5000)) ∧ (∀ (G_1 : FF) (B_1 : AA), (gsP G_1 B_1 (grpF ((F0 19 4)) (A0 20, A0 21, (F0 19 2)) (Int.toNat ((F0 19 4) * (F0 19 4)))).1 ∧ gsF F0 G_1 A0 B_1 ∧ (∀ j, -2 ≤ B_1 20 j ∧ B_1 20 j < 5000)) → (K (some (some (vI ((grpF ((F0 19 4)) (A0 20, A0 21, (F0 19 2)) (Int.toNat ((F0 19 4) * (F0 19 4)))).2)))) G_1 B_1))) : am_stp qxX6_group (am_run qxX6_group qnX6_group_19 (qiX6_group_19  F0 A0) K 22) K 0 (am_ent [vR 19] 3) [] F0 A0 0 := by
  show am_stp qxX6_group (am_run qxX6_group qnX6_group_19 (qiX6_group_19  F0 A0) K 22) K 0 [some (vR 19), none, none] [] F0 A0 0
  obtain ⟨hp, h⟩ := h
  obtain ⟨p1, p2', p3⟩ := hp
  have hS : 1 ≤ F0 19 4 ∧ F0 19 4 ≤ 64 := by rw [p2']; exact ⟨p2_pos, p2_le p1.2⟩
  have hSS := sq64 (S := F0 19 4) (by omega) (by omega)
  have hS0 : 0 ≤ F0 19 4 * F0 19 4 := Int.mul_nonneg (by omega) (by omega)
  show 19 = 19 ∧ (0 ≤ 0 ∧ 0 ≤ F0 19 4 * F0 19 4 ∧ (0 ≤ 0 ∧ 0 ≤ 0) ∧ gsF F0 F0 A0 A0 ∧ (∀ j, -2 ≤ A0 20 j ∧ A0 20 j < 5000) ∧ gsP F0 A0 (grpF (F0 19 4) (A0 20, A0 21, F0 19 2) (Int.toNat 0)).1 ∧ 0 = (grpF (F0 19 4) (A0 20, A0 21, F0 19 2) (Int.toNat 0)).2)
  refine ⟨rfl, ?_⟩
  exact ⟨by omega, by omega, by omega, gsF_id, p3, ⟨rfl, rfl, rfl⟩, rfl⟩
set_option maxRecDepth 20000 in
theorem qvX6_group_19_4  (F0 : FF) (A0 : AA) (K : KK) (h : ((0 ≤ (F0 19 3) ∧ (F0 19 3) ≤ 6) ∧ (F0 19 4) = p2 ((F0 19 3)) ∧ (∀ j, -2 ≤ A0 20 j ∧ A0 20 j < 5000)) ∧ (∀ (G_1 : FF) (B_1 : AA), (gsP G_1 B_1 (grpF ((F0 19 4)) (A0 20, A0 21, (F0 19 2)) (Int.toNat ((F0 19 4) * (F0 19 4)))).1 ∧ gsF F0 G_1 A0 B_1 ∧ (∀ j, -2 ≤ B_1 20 j ∧ B_1 20 j < 5000)) → (K (some (some (vI ((grpF ((F0 19 4)) (A0 20, A0 21, (F0 19 2)) (Int.toNat ((F0 19 4) * (F0 19 4)))).2)))) G_1 B_1))) (n : Int) (i : Int) (F : FF) (A : AA) (hi : 0 ≤ i ∧ i ≤ F0 19 4 * F0 19 4 ∧ (0 ≤ n ∧ n ≤ i) ∧ gsF F0 F A0 A ∧ (∀ j, -2 ≤ A 20 j ∧ A 20 j < 5000) ∧ gsP F A (grpF (F0 19 4) (A0 20, A0 21, F0 19 2) (Int.toNat i)).1 ∧ n = (grpF (F0 19 4) (A0 20, A0 21, F0 19 2) (Int.toNat i)).2) : am_stp qxX6_group (am_run qxX6_group qnX6_group_19 (fun pc ls st F A u => qiX6_group_19  F0 A0 pc ls st F A u ∧ quX6_group_19 pc ls st F A < quX6_group_19 4 [some (vR 19), some (vI n), some (vI i)] [] F A) K 22) K 4 [some (vR 19), some (vI n), some (vI i)] [] F A 0 := by
  obtain ⟨hp, h⟩ := h
  obtain ⟨h1, h2, h3, hG, hM, hP, hN⟩ := hi
  obtain ⟨p1, p2', p3⟩ := hp
  have hS : 1 ≤ F0 19 4 ∧ F0 19 4 ≤ 64 := by rw [p2']; exact ⟨p2_pos, p2_le p1.2⟩
  have hSS := sq64 (S := F0 19 4) (by omega) (by omega)
  have hS0 : 0 ≤ F0 19 4 * F0 19 4 := Int.mul_nonneg (by omega) (by omega)
  have f3 : F 19 3 = F0 19 3 := hG.2 19 3 (Or.inr (by decide))
  have f4 : F 19 4 = F0 19 4 := hG.2 19 4 (Or.inr (by decide))
  have h6 := grpF_s (S := F0 19 4) (s := (A0 20, A0 21, F0 19 2)) h1
  rw [← hN, ← hP.1, ← hP.2.1] at h6
  have q1 := hM i
  show (w32 i < w32 ((F 19 4) * (F 19 4)) → ((w32 (if 0 ≤ w32 i ∧ w32 i < 4096 then A 20 (w32 i) else -2) = w32 (-1) → (((0 ≤ (F 19 3) ∧ (F 19 3) ≤ 6) ∧ (F 19 4) = p2 ((F 19 3)) ∧ (∀ j, -2 ≤ A 20 j ∧ A 20 j < 5000) ∧ (0 ≤ i ∧ i < (F 19 4) * (F 19 4)) ∧ 0 ≤ n ∧ n < 5000) ∧ (∀ (G_1 : FF) (B_1 : AA), (gsP G_1 B_1 (sprF ((F 19 4)) n 4097 (joinF (A 20, A 21, 0) i n) 0) ∧ gsF F G_1 A B_1) → ((19 = 19 ∧ (0 ≤ (i + 1) ∧ (i + 1) ≤ F0 19 4 * F0 19 4 ∧ (0 ≤ (n + 1) ∧ (n + 1) ≤ (i + 1)) ∧ gsF F0 G_1 A0 B_1 ∧ (∀ j, -2 ≤ B_1 20 j ∧ B_1 20 j < 5000) ∧ gsP G_1 B_1 (grpF (F0 19 4) (A0 20, A0 21, F0 19 2) (Int.toNat (i + 1))).1 ∧ (n + 1) = (grpF (F0 19 4) (A0 20, A0 21, F0 19 2) (Int.toNat (i + 1))).2)) ∧ (Int.toNat (5000 - (i + 1))) < (Int.toNat (5000 - i)))))) ∧ (¬ w32 (if 0 ≤ w32 i ∧ w32 i < 4096 then A 20 (w32 i) else -2) = w32 (-1) → ((19 = 19 ∧ (0 ≤ (i + 1) ∧ (i + 1) ≤ F0 19 4 * F0 19 4 ∧ (0 ≤ n ∧ n ≤ (i + 1)) ∧ gsF F0 F A0 A ∧ (∀ j, -2 ≤ A 20 j ∧ A 20 j < 5000) ∧ gsP F A (grpF (F0 19 4) (A0 20, A0 21, F0 19 2) (Int.toNat (i + 1))).1 ∧ n = (grpF (F0 19 4) (A0 20, A0 21, F0 19 2) (Int.toNat (i + 1))).2)) ∧ (Int.toNat (5000 - (i + 1))) < (Int.toNat (5000 - i)))))) ∧ (¬ w32 i < w32 ((F 19 4) * (F 19 4)) → (K (some (some (vI n))) F A))
  refine ⟨fun c1 => ?_, fun c1 => ?_⟩
  · skip
    (try rw [f4] at c1); (try simp (disch := omega) only [w32_id] at c1); (try (rw [if_pos ⟨h1, by omega⟩] at c1; try simp (disch := omega) only [w32_id] at c1))
    refine ⟨fun c2 => ?_, fun c2 => ?_⟩
    · skip
      (try rw [f4] at c2); (try simp (disch := omega) only [w32_id] at c2); (try (rw [if_pos ⟨h1, by omega⟩] at c2; try simp (disch := omega) only [w32_id] at c2))
      refine ⟨by (rw [f3, f4]; exact ⟨p1, p2', hM, by omega, by omega, by omega⟩), ?_⟩
      intro G_1 B_1 g1
      refine ⟨⟨rfl, ?_⟩, by omega⟩
      rw [if_pos c2] at h6
      rw [f4] at g1
      have kk : okS (F0 19 4) (joinF (A 20, A 21, 0) i n) := joinF_ok ⟨hM, fun j j0 j1 => by dsimp only at j1; omega, by dsimp only; omega, by dsimp only; omega⟩ (Or.inr (by omega)) (by omega) (by omega)
      have k2 := sprF_ok (S := F0 19 4) (v := n) (by omega) (by omega) 4097 _ 0 kk
      refine ⟨by omega, by omega, by omega, gsF_trans hG g1.2, ?_, by rw [h6]; exact g1.1, by rw [h6]⟩
      rw [g1.1.1]
      exact k2.1
    · skip
      (try rw [f4] at c2); (try simp (disch := omega) only [w32_id] at c2); (try (rw [if_pos ⟨h1, by omega⟩] at c2; try simp (disch := omega) only [w32_id] at c2))
      refine ⟨⟨rfl, ?_⟩, by omega⟩
      rw [if_neg c2] at h6
      exact ⟨by omega, by omega, by omega, hG, hM, by rw [h6]; exact hP, by rw [h6]; exact hN⟩
  · skip
    (try rw [f4] at c1); (try simp (disch := omega) only [w32_id] at c1); (try (rw [if_pos ⟨h1, by omega⟩] at c1; try simp (disch := omega) only [w32_id] at c1))
    rw [show F0 19 4 * F0 19 4 = i by omega] at h
    refine K_eq (h _ _ ⟨hP, hG, hM⟩) hN.symm
set_option maxRecDepth 20000 in
theorem qvX6_group_19  (F0 : FF) (A0 : AA) (K : KK) (h : ((0 ≤ (F0 19 3) ∧ (F0 19 3) ≤ 6) ∧ (F0 19 4) = p2 ((F0 19 3)) ∧ (∀ j, -2 ≤ A0 20 j ∧ A0 20 j < 5000)) ∧ (∀ (G_1 : FF) (B_1 : AA), (gsP G_1 B_1 (grpF ((F0 19 4)) (A0 20, A0 21, (F0 19 2)) (Int.toNat ((F0 19 4) * (F0 19 4)))).1 ∧ gsF F0 G_1 A0 B_1 ∧ (∀ j, -2 ≤ B_1 20 j ∧ B_1 20 j < 5000)) → (K (some (some (vI ((grpF ((F0 19 4)) (A0 20, A0 21, (F0 19 2)) (Int.toNat ((F0 19 4) * (F0 19 4)))).2)))) G_1 B_1))) : am_body qxX6_group qnX6_group_19 22 (qiX6_group_19  F0 A0) quX6_group_19 [vR 19] 3 F0 A0 K := by
  refine ⟨qvX6_group_19_0  F0 A0 K h, fun pc ls st F A u hI => ?_⟩
  unfold qiX6_group_19 at hI
  replace hI := am_cond2 hI
  rcases hI with ⟨hb, hI⟩ | hI
  · have hb := am_bq hb
    subst hb
    split at hI
    · rename_i s0 n i
      obtain ⟨e0, hI⟩ := hI
      subst e0
      exact qvX6_group_19_4  _ _ K h _ _ _ _ hI
    · exact hI.elim
  exact hI.elim
theorem qtX6_group (l : Launch) : am_CT l layX qeX6_group := am_met0 rfl (by decide +kernel) rfl rfl rfl rfl rfl (fun _ => rfl) rfl (qzX6_group l) (fun k e1 h => (qyX6_group l k e1 h).2) (fun as F A K h => by
  replace h : qsX6_group as F A K := h
  unfold qsX6_group at h
  split at h
  · rename_i o
    refine ⟨by first | exact Nat.le_of_ble_eq_true rfl | simp [am_fl, am_cat], ?_⟩
    replace h := am_cond2 h
    rcases h with ⟨hb, h⟩ | h
    · skip
      have hb0 := hb
      have hb0 := am_bq hb0
      subst hb0
      exact am_way_body (qvX6_group_19  F A K h)
    exact h.elim
  · exact h.elim)
def qkX6_meetingAt : Nat → Option CI := fun pc => cond (Nat.ble 21 pc) none (cond (Nat.ble 10 pc) (cond (Nat.ble 15 pc) (cond (Nat.ble 19 pc) (cond (Nat.beq pc 19) (some (.iconst (-1), 20, [])) (cond (Nat.beq pc 20) (some (.ireturn, 21, [])) (none))) (cond (Nat.beq pc 15) (some (.iload_n 3, 16, [])) (cond (Nat.beq pc 16) (some (.goto 4, 19, [20])) (none)))) (cond (Nat.beq pc 10) (some (.istore_n 3, 11, [])) (cond (Nat.beq pc 11) (some (.iload_n 3, 12, [])) (cond (Nat.beq pc 12) (some (.ifCond .lt 7, 15, [19])) (none))))) (cond (Nat.ble 3 pc) (cond (Nat.beq pc 3) (some (.iload_n 2, 4, [])) (cond (Nat.beq pc 4) (some (.invokevirtual 59, 7, [])) (cond (Nat.beq pc 7) (some (.invokevirtual 70, 10, [])) (none)))) (cond (Nat.beq pc 0) (some (.aload_n 0, 1, [])) (cond (Nat.beq pc 1) (some (.aload_n 0, 2, [])) (cond (Nat.beq pc 2) (some (.iload_n 1, 3, [])) (none))))))
theorem qkX6_meetingAt_ok : ∀ pc i nx ts, qkX6_meetingAt pc = some (i, nx, ts) → am_cok cX6_meetingAt pc (i, nx, ts) = true := fun pc i nx ts h => am_tok_ok (n := 21) (by decide +kernel) (fun pc h => by show cond (Nat.ble 21 pc) _ _ = _; rw [Nat.ble_eq_true_of_le h]; rfl) h
def qaX6_meetingAt : Nat → Option CE := fun k => cond (Nat.beq k 59) (some qeX6_indexOf) (cond (Nat.beq k 70) (some qeX6_at) (none))
theorem qyX6_meetingAt (l : Launch) : ∀ k e1, qaX6_meetingAt k = some e1 → am_cal l layX RX6 4 k e1 ∧ ceT e1 = 0 := q_cons ⟨am_calV (ci := 6) (qtX6_indexOf l) qbX6_indexOf (by decide) rfl (am_tb_at 1262 (by decide +kernel) rfl), rfl⟩ (q_cons ⟨am_calV (ci := 6) (qtX6_at l) qbX6_at (by decide) rfl (am_tb_at 1274 (by decide +kernel) rfl), rfl⟩ (q_nil))
def qxX6_meetingAt : CX := (qkX6_meetingAt, layX, qfX6, qaX6_meetingAt, qcX6, qlX6, qmX6, (some .int), false, none, 0, none, fun _ => none)
theorem qzX6_meetingAt (l : Launch) : am_sta l qxX6_meetingAt RX6 4 cX6_meetingAt := ⟨qkX6_meetingAt_ok, layX_ok, qfX6_ok, qcX6_ok, qlX6_ok, am_mthP qmX6_ok (by decide), fun k e1 h => (qyX6_meetingAt l k e1 h).1⟩
def qsX6_meetingAt : SP := fun as F A K => match as with
  | [.inr (.inr o), .inl q, .inl r] => cond (Nat.beq o 19) (((1 ≤ (F 19 4) ∧ (F 19 4) ≤ 64) ∧ (∀ j, -2 ≤ A 20 j ∧ A 20 j < 5000) ∧ (-2147483648 ≤ q ∧ q < 2147483648) ∧ -2147483648 ≤ r ∧ r < 2147483648) ∧ (K (some (some (vI (mtA (A 20) ((F 19 4)) q r)))) F A)) (False)
  | _ => False
def qeX6_meetingAt : CE := (yX6_meetingAt, cX6_meetingAt, 4, (some .int), 2, some 6, 0, [], 0, 4, qsX6_meetingAt)
theorem qbX6_meetingAt : am_mb qeX6_meetingAt := ⟨am_tb_at 1318 (by decide +kernel) rfl, am_tb_at 120 (by decide +kernel) rfl, ⟨by decide, by decide, by decide +kernel⟩, by decide, by decide, am_tb_at 1316 (by decide +kernel) rfl, am_tb_at 1317 (by decide +kernel) rfl, _, _, rfl⟩
set_option maxRecDepth 20000 in
theorem qvX6_meetingAt_19 (q : Int) (r : Int) (F : FF) (A : AA) (K : KK) (h : ((1 ≤ (F 19 4) ∧ (F 19 4) ≤ 64) ∧ (∀ j, -2 ≤ A 20 j ∧ A 20 j < 5000) ∧ (-2147483648 ≤ q ∧ q < 2147483648) ∧ -2147483648 ≤ r ∧ r < 2147483648) ∧ (K (some (some (vI (mtA (A 20) ((F 19 4)) q r)))) F A)) : am_line qxX6_meetingAt 13 [vR 19, vI q, vI r] 4 F A K := by
  show am_stp qxX6_meetingAt (am_run qxX6_meetingAt (fun _ => none) (fun _ _ _ _ _ _ => False) K 13) K 0 [some (vR 19), some (vI q), some (vI r), none] [] F A 0
  obtain ⟨hp, h⟩ := h
  obtain ⟨p1, p2', p3, p4⟩ := hp
  have q1 := p2' (q * F 19 4 + r)
  have e : (if 0 ≤ w32 (if 0 ≤ q ∧ q < F 19 4 ∧ 0 ≤ r ∧ r < F 19 4 then q * F 19 4 + r else -1) ∧ w32 (if 0 ≤ q ∧ q < F 19 4 ∧ 0 ≤ r ∧ r < F 19 4 then q * F 19 4 + r else -1) < 4096 then A 20 (w32 (if 0 ≤ q ∧ q < F 19 4 ∧ 0 ≤ r ∧ r < F 19 4 then q * F 19 4 + r else -1)) else -2) = if 0 ≤ q ∧ q < F 19 4 ∧ 0 ≤ r ∧ r < F 19 4 then A 20 (q * F 19 4 + r) else -2 := by
    by_cases hc : 0 ≤ q ∧ q < F 19 4 ∧ 0 ≤ r ∧ r < F 19 4
    · have hb := ix_b hc.1 hc.2.1 hc.2.2.1 hc.2.2.2
      have hs := sq64 (S := F 19 4) (by omega) p1.2
      rw [if_pos hc, if_pos hc, w32_id (by omega) (by omega), if_pos ⟨hb.1, by omega⟩]
    · rw [if_neg hc, if_neg hc, w32_id (by omega) (by omega), if_neg (by omega)]
  show ((1 ≤ (F 19 4) ∧ (F 19 4) ≤ 64) ∧ (-2147483648 ≤ q ∧ q < 2147483648) ∧ -2147483648 ≤ r ∧ r < 2147483648) ∧ ((w32 (if 0 ≤ w32 (if 0 ≤ q ∧ q < (F 19 4) ∧ 0 ≤ r ∧ r < (F 19 4) then q * (F 19 4) + r else -1) ∧ w32 (if 0 ≤ q ∧ q < (F 19 4) ∧ 0 ≤ r ∧ r < (F 19 4) then q * (F 19 4) + r else -1) < 4096 then A 20 (w32 (if 0 ≤ q ∧ q < (F 19 4) ∧ 0 ≤ r ∧ r < (F 19 4) then q * (F 19 4) + r else -1)) else -2) < w32 0 → (K (some (some (vI (-1)))) F A)) ∧ (¬ w32 (if 0 ≤ w32 (if 0 ≤ q ∧ q < (F 19 4) ∧ 0 ≤ r ∧ r < (F 19 4) then q * (F 19 4) + r else -1) ∧ w32 (if 0 ≤ q ∧ q < (F 19 4) ∧ 0 ≤ r ∧ r < (F 19 4) then q * (F 19 4) + r else -1) < 4096 then A 20 (w32 (if 0 ≤ q ∧ q < (F 19 4) ∧ 0 ≤ r ∧ r < (F 19 4) then q * (F 19 4) + r else -1)) else -2) < w32 0 → (K (some (some (vI (if 0 ≤ w32 (if 0 ≤ q ∧ q < (F 19 4) ∧ 0 ≤ r ∧ r < (F 19 4) then q * (F 19 4) + r else -1) ∧ w32 (if 0 ≤ q ∧ q < (F 19 4) ∧ 0 ≤ r ∧ r < (F 19 4) then q * (F 19 4) + r else -1) < 4096 then A 20 (w32 (if 0 ≤ q ∧ q < (F 19 4) ∧ 0 ≤ r ∧ r < (F 19 4) then q * (F 19 4) + r else -1)) else -2)))) F A)))
  refine ⟨by first | omega | (simp (disch := omega) only [w32_0, w64_0, wbi0, wbi1, yc_eq0, yc_lt0, yc_gt0, Classical.not_not, w32_id, w64_id]; omega) | (simp (disch := omega) only [w32_0, w64_0, wbi0, wbi1, yc_eq0, yc_lt0, yc_gt0, Classical.not_not, w32_id, w64_id]; done), ?_⟩
  refine ⟨fun c1 => ?_, fun c1 => ?_⟩
  · skip
    (rw [e] at c1)
    refine K_eq h ?_
    try rw [e]
    unfold mtA
    by_cases hc : 0 ≤ q ∧ q < F 19 4 ∧ 0 ≤ r ∧ r < F 19 4
    · rw [if_pos hc] at c1
      simp (disch := omega) only [w32_id] at c1
      first | (rw [if_neg (by omega)]; done) | rw [if_pos ⟨hc, by omega⟩, if_pos hc]
    · rw [if_neg hc, w32_id (by omega) (by omega), w32_0] at c1
      first | (exfalso; omega) | (rw [if_neg (fun z => hc z.1)]; done)
  · skip
    (rw [e] at c1)
    refine K_eq h ?_
    try rw [e]
    unfold mtA
    by_cases hc : 0 ≤ q ∧ q < F 19 4 ∧ 0 ≤ r ∧ r < F 19 4
    · rw [if_pos hc] at c1
      simp (disch := omega) only [w32_id] at c1
      first | (rw [if_neg (by omega)]; done) | rw [if_pos ⟨hc, by omega⟩, if_pos hc]
    · rw [if_neg hc, w32_id (by omega) (by omega), w32_0] at c1
      first | (exfalso; omega) | (rw [if_neg (fun z => hc z.1)]; done)
theorem qtX6_meetingAt (l : Launch) : am_CT l layX qeX6_meetingAt := am_met0 rfl (by decide +kernel) rfl rfl rfl rfl rfl (fun _ => rfl) rfl (qzX6_meetingAt l) (fun k e1 h => (qyX6_meetingAt l k e1 h).2) (fun as F A K h => by
  replace h : qsX6_meetingAt as F A K := h
  unfold qsX6_meetingAt at h
  split at h
  · rename_i o q r
    refine ⟨by first | exact Nat.le_of_ble_eq_true rfl | simp [am_fl, am_cat], ?_⟩
    replace h := am_cond2 h
    rcases h with ⟨hb, h⟩ | h
    · skip
      have hb0 := hb
      have hb0 := am_bq hb0
      subst hb0
      exact am_way_line (qvX6_meetingAt_19 q r F A K h)
    exact h.elim
  · exact h.elim)
def qkX6_meetingValue : Nat → Option CI := fun pc => cond (Nat.ble 108 pc) none (cond (Nat.ble 53 pc) (cond (Nat.ble 81 pc) (cond (Nat.ble 95 pc) (cond (Nat.ble 101 pc) (cond (Nat.ble 105 pc) (cond (Nat.beq pc 105) (some (.iload 4, 107, [])) (cond (Nat.beq pc 107) (some (.ireturn, 108, [])) (none))) (cond (Nat.beq pc 101) (some (.iload_n 3, 102, [])) (cond (Nat.beq pc 102) (some (.goto 5, 105, [107])) (none)))) (cond (Nat.ble 97 pc) (cond (Nat.beq pc 97) (some (.irem, 98, [])) (cond (Nat.beq pc 98) (some (.ifCond .ne 7, 101, [105])) (none))) (cond (Nat.beq pc 95) (some (.iload_n 2, 96, [])) (cond (Nat.beq pc 96) (some (.iconst 2, 97, [])) (none))))) (cond (Nat.ble 88 pc) (cond (Nat.ble 92 pc) (cond (Nat.beq pc 92) (some (.iload 5, 94, [])) (cond (Nat.beq pc 94) (some (.ireturn, 95, [])) (none))) (cond (Nat.beq pc 88) (some (.iconst 4, 89, [])) (cond (Nat.beq pc 89) (some (.if_icmp .ne 6, 92, [95])) (none)))) (cond (Nat.beq pc 81) (some (.iinc 6 1, 84, [])) (cond (Nat.beq pc 84) (some (.goto (-72), 87, [12])) (cond (Nat.beq pc 87) (some (.iload_n 2, 88, [])) (none)))))) (cond (Nat.ble 63 pc) (cond (Nat.ble 71 pc) (cond (Nat.ble 76 pc) (cond (Nat.beq pc 76) (some (.istore 4, 78, [])) (cond (Nat.beq pc 78) (some (.iinc 5 1, 81, [])) (none))) (cond (Nat.beq pc 71) (some (.iload 7, 73, [])) (cond (Nat.beq pc 73) (some (.invokestatic 88, 76, [])) (none)))) (cond (Nat.ble 68 pc) (cond (Nat.beq pc 68) (some (.istore_n 3, 69, [])) (cond (Nat.beq pc 69) (some (.iload 4, 71, [])) (none))) (cond (Nat.beq pc 63) (some (.iload 7, 65, [])) (cond (Nat.beq pc 65) (some (.invokestatic 83, 68, [])) (none))))) (cond (Nat.ble 58 pc) (cond (Nat.ble 60 pc) (cond (Nat.beq pc 60) (some (.istore 7, 62, [])) (cond (Nat.beq pc 62) (some (.iload_n 3, 63, [])) (none))) (cond (Nat.beq pc 58) (some (.isub, 59, [])) (cond (Nat.beq pc 59) (some (.iand, 60, [])) (none)))) (cond (Nat.beq pc 53) (some (.aload_n 0, 54, [])) (cond (Nat.beq pc 54) (some (.getfield 26, 57, [])) (cond (Nat.beq pc 57) (some (.iconst 1, 58, [])) (none))))))) (cond (Nat.ble 23 pc) (cond (Nat.ble 37 pc) (cond (Nat.ble 44 pc) (cond (Nat.ble 48 pc) (cond (Nat.beq pc 48) (some (.goto 12, 51, [60])) (cond (Nat.beq pc 51) (some (.iload 6, 53, [])) (none))) (cond (Nat.beq pc 44) (some (.getfield 22, 47, [])) (cond (Nat.beq pc 47) (some (.ishr, 48, [])) (none)))) (cond (Nat.ble 41 pc) (cond (Nat.beq pc 41) (some (.iload 6, 43, [])) (cond (Nat.beq pc 43) (some (.aload_n 0, 44, [])) (none))) (cond (Nat.beq pc 37) (some (.iconst 2, 38, [])) (cond (Nat.beq pc 38) (some (.if_icmp .ge 13, 41, [51])) (none))))) (cond (Nat.ble 29 pc) (cond (Nat.ble 33 pc) (cond (Nat.beq pc 33) (some (.if_icmp .ne 48, 36, [81])) (cond (Nat.beq pc 36) (some (.iload_n 2, 37, [])) (none))) (cond (Nat.beq pc 29) (some (.invokevirtual 70, 32, [])) (cond (Nat.beq pc 32) (some (.iload_n 1, 33, [])) (none)))) (cond (Nat.beq pc 23) (some (.if_icmp .ge 64, 26, [87])) (cond (Nat.beq pc 26) (some (.aload_n 0, 27, [])) (cond (Nat.beq pc 27) (some (.iload 6, 29, [])) (none)))))) (cond (Nat.ble 10 pc) (cond (Nat.ble 15 pc) (cond (Nat.ble 19 pc) (cond (Nat.beq pc 19) (some (.getfield 26, 22, [])) (cond (Nat.beq pc 22) (some (.imul, 23, [])) (none))) (cond (Nat.beq pc 15) (some (.getfield 26, 18, [])) (cond (Nat.beq pc 18) (some (.aload_n 0, 19, [])) (none)))) (cond (Nat.beq pc 10) (some (.istore 6, 12, [])) (cond (Nat.beq pc 12) (some (.iload 6, 14, [])) (cond (Nat.beq pc 14) (some (.aload_n 0, 15, [])) (none))))) (cond (Nat.ble 4 pc) (cond (Nat.ble 7 pc) (cond (Nat.beq pc 7) (some (.istore 5, 9, [])) (cond (Nat.beq pc 9) (some (.iconst 0, 10, [])) (none))) (cond (Nat.beq pc 4) (some (.istore 4, 6, [])) (cond (Nat.beq pc 6) (some (.iconst 0, 7, [])) (none)))) (cond (Nat.beq pc 0) (some (.bipush 64, 2, [])) (cond (Nat.beq pc 2) (some (.istore_n 3, 3, [])) (cond (Nat.beq pc 3) (some (.iconst (-1), 4, [])) (none))))))))
theorem qkX6_meetingValue_ok : ∀ pc i nx ts, qkX6_meetingValue pc = some (i, nx, ts) → am_cok cX6_meetingValue pc (i, nx, ts) = true := fun pc i nx ts h => am_tok_ok (n := 108) (by decide +kernel) (fun pc h => by show cond (Nat.ble 108 pc) _ _ = _; rw [Nat.ble_eq_true_of_le h]; rfl) h
def qaX6_meetingValue : Nat → Option CE := fun k => cond (Nat.beq k 70) (some qeX6_at) (none)
theorem qyX6_meetingValue (l : Launch) : ∀ k e1, qaX6_meetingValue k = some e1 → am_cal l layX RX6 4 k e1 ∧ ceT e1 = 0 := q_cons ⟨am_calV (ci := 6) (qtX6_at l) qbX6_at (by decide) rfl (am_tb_at 1274 (by decide +kernel) rfl), rfl⟩ (q_nil)
def qxX6_meetingValue : CX := (qkX6_meetingValue, layX, qfX6, qaX6_meetingValue, qcX6, qlX6, qmX6, (some .int), false, none, 0, none, fun _ => none)
theorem qzX6_meetingValue (l : Launch) : am_sta l qxX6_meetingValue RX6 4 cX6_meetingValue := ⟨qkX6_meetingValue_ok, layX_ok, qfX6_ok, qcX6_ok, qlX6_ok, am_mthP qmX6_ok (by decide), fun k e1 h => (qyX6_meetingValue l k e1 h).1⟩
def qsX6_meetingValue : SP := fun as F A K => match as with
  | [.inr (.inr o), .inl m, .inl w] => cond (Nat.beq o 19) (((0 ≤ (F 19 3) ∧ (F 19 3) ≤ 6) ∧ (F 19 4) = p2 ((F 19 3)) ∧ (∀ j, -2 ≤ A 20 j ∧ A 20 j < 5000) ∧ (0 ≤ m ∧ m < 5000) ∧ 0 ≤ w ∧ w ≤ 4) ∧ (K (some (some (vI (mvR (A 20) m ((F 19 4)) w)))) F A)) (False)
  | _ => False
def qeX6_meetingValue : CE := (yX6_meetingValue, cX6_meetingValue, 8, (some .int), 2, some 6, 0, [], 0, 4, qsX6_meetingValue)
theorem qbX6_meetingValue : am_mb qeX6_meetingValue := ⟨am_tb_at 1329 (by decide +kernel) rfl, am_tb_at 120 (by decide +kernel) rfl, ⟨by decide, by decide, by decide +kernel⟩, by decide, by decide, am_tb_at 1327 (by decide +kernel) rfl, am_tb_at 1328 (by decide +kernel) rfl, _, _, rfl⟩
def qnX6_meetingValue_19 : CUT := fun pc => cond (Nat.beq pc 12) (some [true, true, true, true, true, true, true, false]) (none)
def qiX6_meetingValue_19 (m : Int) (w : Int) (F0 : FF) (A0 : AA) : REC := fun pc ls st F A u => cond (Nat.beq pc 12) (match ls, st, u with
    | [some (.inr (.inr s0)), some (.inl s1), some (.inl s2), some (.inl a), some (.inl b), some (.inl n), some (.inl i), none], [], 0 => s0 = 19 ∧ s1 = m ∧ s2 = w ∧ F = F0 ∧ A = A0 ∧ (0 ≤ i ∧ i ≤ F0 19 4 * F0 19 4 ∧ a = mvL (A0 20) m (F0 19 4) w 64 (Int.toNat i) ∧ b = mvG (A0 20) m (F0 19 4) w (-1) (Int.toNat i) ∧ n = cntK (A0 20) m (Int.toNat i))
    | _, _, _ => False) (False)
def quX6_meetingValue_19 : Nat → LVs → List AV → FF → AA → Nat := fun pc ls _ F A => cond (Nat.beq pc 12) (match ls with
    | [some (.inr (.inr s0)), some (.inl s1), some (.inl s2), some (.inl a), some (.inl b), some (.inl n), some (.inl i), none] => Int.toNat (5000 - i)
    | _ => 0) (0)
set_option maxRecDepth 20000 in
theorem qvX6_meetingValue_19_0 (m : Int) (w : Int) (F0 : FF) (A0 : AA) (K : KK) (h : ((0 ≤ (F0 19 3) ∧ (F0 19 3) ≤ 6) ∧ (F0 19 4) = p2 ((F0 19 3)) ∧ (∀ j, -2 ≤ A0 20 j ∧ A0 20 j < 5000) ∧ (0 ≤ m ∧ m < 5000) ∧ 0 ≤ w ∧ w ≤ 4) ∧ (K (some (some (vI (mvR (A0 20) m ((F0 19 4)) w)))) F0 A0)) : am_stp qxX6_meetingValue (am_run qxX6_meetingValue qnX6_meetingValue_19 (qiX6_meetingValue_19 m w F0 A0) K 36) K 0 (am_ent [vR 19, vI m, vI w] 8) [] F0 A0 0 := by
  show am_stp qxX6_meetingValue (am_run qxX6_meetingValue qnX6_meetingValue_19 (qiX6_meetingValue_19 m w F0 A0) K 36) K 0 [some (vR 19), some (vI m), some (vI w), none, none, none, none, none] [] F0 A0 0
  obtain ⟨hp, h⟩ := h
  obtain ⟨p1, p2', p3, p4, p5⟩ := hp
  have hS : 1 ≤ F0 19 4 ∧ F0 19 4 ≤ 64 := by rw [p2']; exact ⟨p2_pos, p2_le p1.2⟩
  have hSS := sq64 (S := F0 19 4) (by omega) (by omega)
  have hS0 : 0 ≤ F0 19 4 * F0 19 4 := Int.mul_nonneg (by omega) (by omega)
  show 19 = 19 ∧ m = m ∧ w = w ∧ F0 = F0 ∧ A0 = A0 ∧ (0 ≤ 0 ∧ 0 ≤ F0 19 4 * F0 19 4 ∧ 64 = mvL (A0 20) m (F0 19 4) w 64 (Int.toNat 0) ∧ (-1) = mvG (A0 20) m (F0 19 4) w (-1) (Int.toNat 0) ∧ 0 = cntK (A0 20) m (Int.toNat 0))
  refine ⟨rfl, rfl, rfl, rfl, rfl, ?_⟩
  exact ⟨by omega, by omega, rfl, rfl, rfl⟩
set_option maxRecDepth 20000 in
theorem qvX6_meetingValue_19_12 (m : Int) (w : Int) (F0 : FF) (A0 : AA) (K : KK) (h : ((0 ≤ (F0 19 3) ∧ (F0 19 3) ≤ 6) ∧ (F0 19 4) = p2 ((F0 19 3)) ∧ (∀ j, -2 ≤ A0 20 j ∧ A0 20 j < 5000) ∧ (0 ≤ m ∧ m < 5000) ∧ 0 ≤ w ∧ w ≤ 4) ∧ (K (some (some (vI (mvR (A0 20) m ((F0 19 4)) w)))) F0 A0)) (a : Int) (b : Int) (n : Int) (i : Int) (hi : 0 ≤ i ∧ i ≤ F0 19 4 * F0 19 4 ∧ a = mvL (A0 20) m (F0 19 4) w 64 (Int.toNat i) ∧ b = mvG (A0 20) m (F0 19 4) w (-1) (Int.toNat i) ∧ n = cntK (A0 20) m (Int.toNat i)) : am_stp qxX6_meetingValue (am_run qxX6_meetingValue qnX6_meetingValue_19 (fun pc ls st F A u => qiX6_meetingValue_19 m w F0 A0 pc ls st F A u ∧ quX6_meetingValue_19 pc ls st F A < quX6_meetingValue_19 12 [some (vR 19), some (vI m), some (vI w), some (vI a), some (vI b), some (vI n), some (vI i), none] [] F0 A0) K 36) K 12 [some (vR 19), some (vI m), some (vI w), some (vI a), some (vI b), some (vI n), some (vI i), none] [] F0 A0 0 := by
  obtain ⟨hp, h⟩ := h
  obtain ⟨h1, h2, h3, h4, h5⟩ := hi
  obtain ⟨p1, p2', p3, p4, p5⟩ := hp
  have hS : 1 ≤ F0 19 4 ∧ F0 19 4 ≤ 64 := by rw [p2']; exact ⟨p2_pos, p2_le p1.2⟩
  have hSS := sq64 (S := F0 19 4) (by omega) (by omega)
  have hS0 : 0 ≤ F0 19 4 * F0 19 4 := Int.mul_nonneg (by omega) (by omega)
  have h6 := cntK_s (g := A0 20) (k := m) h1
  have h7 := mvL_s (g := A0 20) (m := m) (S := F0 19 4) (w := w) (z := 64) h1
  have h8 := mvG_s (g := A0 20) (m := m) (S := F0 19 4) (w := w) (z := -1) h1
  have q1 := p3 i
  show (w32 i < w32 ((F0 19 4) * (F0 19 4)) → ((w32 (if 0 ≤ w32 i ∧ w32 i < 4096 then A0 20 (w32 i) else -2) = w32 m → ((w32 w < w32 2 → ((19 = 19 ∧ m = m ∧ w = w ∧ F0 = F0 ∧ A0 = A0 ∧ (0 ≤ (i + 1) ∧ (i + 1) ≤ F0 19 4 * F0 19 4 ∧ (x_min a (x_shr i (F0 19 3))) = mvL (A0 20) m (F0 19 4) w 64 (Int.toNat (i + 1)) ∧ (x_max b (x_shr i (F0 19 3))) = mvG (A0 20) m (F0 19 4) w (-1) (Int.toNat (i + 1)) ∧ (n + 1) = cntK (A0 20) m (Int.toNat (i + 1)))) ∧ (Int.toNat (5000 - (i + 1))) < (Int.toNat (5000 - i)))) ∧ (¬ w32 w < w32 2 → ((19 = 19 ∧ m = m ∧ w = w ∧ F0 = F0 ∧ A0 = A0 ∧ (0 ≤ (i + 1) ∧ (i + 1) ≤ F0 19 4 * F0 19 4 ∧ (x_min a (x_and i ((F0 19 4) - 1))) = mvL (A0 20) m (F0 19 4) w 64 (Int.toNat (i + 1)) ∧ (x_max b (x_and i ((F0 19 4) - 1))) = mvG (A0 20) m (F0 19 4) w (-1) (Int.toNat (i + 1)) ∧ (n + 1) = cntK (A0 20) m (Int.toNat (i + 1)))) ∧ (Int.toNat (5000 - (i + 1))) < (Int.toNat (5000 - i)))))) ∧ (¬ w32 (if 0 ≤ w32 i ∧ w32 i < 4096 then A0 20 (w32 i) else -2) = w32 m → ((19 = 19 ∧ m = m ∧ w = w ∧ F0 = F0 ∧ A0 = A0 ∧ (0 ≤ (i + 1) ∧ (i + 1) ≤ F0 19 4 * F0 19 4 ∧ a = mvL (A0 20) m (F0 19 4) w 64 (Int.toNat (i + 1)) ∧ b = mvG (A0 20) m (F0 19 4) w (-1) (Int.toNat (i + 1)) ∧ n = cntK (A0 20) m (Int.toNat (i + 1)))) ∧ (Int.toNat (5000 - (i + 1))) < (Int.toNat (5000 - i)))))) ∧ (¬ w32 i < w32 ((F0 19 4) * (F0 19 4)) → ((w32 w = w32 4 → (K (some (some (vI n))) F0 A0)) ∧ (¬ w32 w = w32 4 → ((w32 2 ≠ 0) ∧ ((w32 (x_rem w 2) = w32 0 → (K (some (some (vI a))) F0 A0)) ∧ (¬ w32 (x_rem w 2) = w32 0 → (K (some (some (vI b))) F0 A0)))))))
  refine ⟨fun c1 => ?_, fun c1 => ?_⟩
  · skip
    (try simp (disch := omega) only [w32_id, x_rem_eq, w32_0] at c1); (try (rw [if_pos ⟨h1, by omega⟩] at c1; try simp (disch := omega) only [w32_id] at c1))
    refine ⟨fun c2 => ?_, fun c2 => ?_⟩
    · skip
      (try simp (disch := omega) only [w32_id, x_rem_eq, w32_0] at c2); (try (rw [if_pos ⟨h1, by omega⟩] at c2; try simp (disch := omega) only [w32_id] at c2))
      refine ⟨fun c3 => ?_, fun c3 => ?_⟩
      · skip
        (try simp (disch := omega) only [w32_id, x_rem_eq, w32_0] at c3); (try (rw [if_pos ⟨h1, by omega⟩] at c3; try simp (disch := omega) only [w32_id] at c3))
        refine ⟨⟨rfl, rfl, rfl, rfl, rfl, ?_⟩, by omega⟩
        rw [if_pos c2] at h6 h7 h8
        have ec : mvC (F0 19 4) w i = i / F0 19 4 := by unfold mvC; rw [if_pos c3]
        rw [ec] at h7 h8
        rw [x_shrp (by omega) (by omega) (by omega) (by omega), ← p2']
        rw [← h3] at h7
        rw [← h4] at h8
        exact ⟨by omega, by omega, h7.symm, h8.symm, by omega⟩
      · skip
        (try simp (disch := omega) only [w32_id, x_rem_eq, w32_0] at c3); (try (rw [if_pos ⟨h1, by omega⟩] at c3; try simp (disch := omega) only [w32_id] at c3))
        refine ⟨⟨rfl, rfl, rfl, rfl, rfl, ?_⟩, by omega⟩
        rw [if_pos c2] at h6 h7 h8
        have ec : mvC (F0 19 4) w i = i % F0 19 4 := by unfold mvC; rw [if_neg c3]
        rw [ec] at h7 h8
        rw [p2', x_and_p2 p1.1 p1.2, ← p2']
        rw [← h3] at h7
        rw [← h4] at h8
        exact ⟨by omega, by omega, h7.symm, h8.symm, by omega⟩
    · skip
      (try simp (disch := omega) only [w32_id, x_rem_eq, w32_0] at c2); (try (rw [if_pos ⟨h1, by omega⟩] at c2; try simp (disch := omega) only [w32_id] at c2))
      refine ⟨⟨rfl, rfl, rfl, rfl, rfl, ?_⟩, by omega⟩
      rw [if_neg c2] at h6 h7 h8
      exact ⟨by omega, by omega, by rw [h7]; exact h3, by rw [h8]; exact h4, by omega⟩
  · skip
    (try simp (disch := omega) only [w32_id, x_rem_eq, w32_0] at c1); (try (rw [if_pos ⟨h1, by omega⟩] at c1; try simp (disch := omega) only [w32_id] at c1))
    refine ⟨fun c2 => ?_, fun c2 => ?_⟩
    · skip
      (try simp (disch := omega) only [w32_id, x_rem_eq, w32_0] at c2); (try (rw [if_pos ⟨h1, by omega⟩] at c2; try simp (disch := omega) only [w32_id] at c2))
      refine K_eq h ?_
      unfold mvR
      rw [show F0 19 4 * F0 19 4 = i by omega]
      first | (rw [if_pos (by omega)]; exact h5.symm) | (rw [if_neg (by omega), if_pos (by omega)]; exact h3.symm) | (rw [if_neg (by omega), if_neg (by omega)]; exact h4.symm)
    · skip
      (try simp (disch := omega) only [w32_id, x_rem_eq, w32_0] at c2); (try (rw [if_pos ⟨h1, by omega⟩] at c2; try simp (disch := omega) only [w32_id] at c2))
      refine ⟨by first | omega | (simp (disch := omega) only [w32_id]; omega), ?_⟩
      refine ⟨fun c3 => ?_, fun c3 => ?_⟩
      · skip
        (try simp (disch := omega) only [w32_id, x_rem_eq, w32_0] at c3); (try (rw [if_pos ⟨h1, by omega⟩] at c3; try simp (disch := omega) only [w32_id] at c3))
        refine K_eq h ?_
        unfold mvR
        rw [show F0 19 4 * F0 19 4 = i by omega]
        first | (rw [if_pos (by omega)]; exact h5.symm) | (rw [if_neg (by omega), if_pos (by omega)]; exact h3.symm) | (rw [if_neg (by omega), if_neg (by omega)]; exact h4.symm)
      · skip
        (try simp (disch := omega) only [w32_id, x_rem_eq, w32_0] at c3); (try (rw [if_pos ⟨h1, by omega⟩] at c3; try simp (disch := omega) only [w32_id] at c3))
        refine K_eq h ?_
        unfold mvR
        rw [show F0 19 4 * F0 19 4 = i by omega]
        first | (rw [if_pos (by omega)]; exact h5.symm) | (rw [if_neg (by omega), if_pos (by omega)]; exact h3.symm) | (rw [if_neg (by omega), if_neg (by omega)]; exact h4.symm)
set_option maxRecDepth 20000 in
theorem qvX6_meetingValue_19 (m : Int) (w : Int) (F0 : FF) (A0 : AA) (K : KK) (h : ((0 ≤ (F0 19 3) ∧ (F0 19 3) ≤ 6) ∧ (F0 19 4) = p2 ((F0 19 3)) ∧ (∀ j, -2 ≤ A0 20 j ∧ A0 20 j < 5000) ∧ (0 ≤ m ∧ m < 5000) ∧ 0 ≤ w ∧ w ≤ 4) ∧ (K (some (some (vI (mvR (A0 20) m ((F0 19 4)) w)))) F0 A0)) : am_body qxX6_meetingValue qnX6_meetingValue_19 36 (qiX6_meetingValue_19 m w F0 A0) quX6_meetingValue_19 [vR 19, vI m, vI w] 8 F0 A0 K := by
  refine ⟨qvX6_meetingValue_19_0 m w F0 A0 K h, fun pc ls st F A u hI => ?_⟩
  unfold qiX6_meetingValue_19 at hI
  replace hI := am_cond2 hI
  rcases hI with ⟨hb, hI⟩ | hI
  · have hb := am_bq hb
    subst hb
    split at hI
    · rename_i s0 s1 s2 a b n i
      obtain ⟨e0, e1, e2, e3, e4, hI⟩ := hI
      subst e0
      subst e1
      subst e2
      subst e3
      subst e4
      exact qvX6_meetingValue_19_12 _ _ _ _ K h _ _ _ _ hI
    · exact hI.elim
  exact hI.elim
theorem qtX6_meetingValue (l : Launch) : am_CT l layX qeX6_meetingValue := am_met0 rfl (by decide +kernel) rfl rfl rfl rfl rfl (fun _ => rfl) rfl (qzX6_meetingValue l) (fun k e1 h => (qyX6_meetingValue l k e1 h).2) (fun as F A K h => by
  replace h : qsX6_meetingValue as F A K := h
  unfold qsX6_meetingValue at h
  split at h
  · rename_i o m w
    refine ⟨by first | exact Nat.le_of_ble_eq_true rfl | simp [am_fl, am_cat], ?_⟩
    replace h := am_cond2 h
    rcases h with ⟨hb, h⟩ | h
    · skip
      have hb0 := hb
      have hb0 := am_bq hb0
      subst hb0
      exact am_way_body (qvX6_meetingValue_19 m w F A K h)
    exact h.elim
  · exact h.elim)
