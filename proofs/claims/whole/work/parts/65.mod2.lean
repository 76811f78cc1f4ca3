def qkX9_found : Nat → Option CI := fun pc => cond (Nat.ble 33 pc) none (cond (Nat.ble 16 pc) (cond (Nat.ble 24 pc) (cond (Nat.ble 28 pc) (cond (Nat.beq pc 28) (some (.goto (-25), 31, [3])) (cond (Nat.beq pc 31) (some (.iconst (-1), 32, [])) (cond (Nat.beq pc 32) (some (.ireturn, 33, [])) (none)))) (cond (Nat.beq pc 24) (some (.ireturn, 25, [])) (cond (Nat.beq pc 25) (some (.iinc 4 1, 28, [])) (none)))) (cond (Nat.ble 18 pc) (cond (Nat.beq pc 18) (some (.iload_n 3, 19, [])) (cond (Nat.beq pc 19) (some (.if_icmp .ne 6, 22, [25])) (cond (Nat.beq pc 22) (some (.iload 4, 24, [])) (none)))) (cond (Nat.beq pc 16) (some (.iadd, 17, [])) (cond (Nat.beq pc 17) (some (.iaload, 18, [])) (none))))) (cond (Nat.ble 6 pc) (cond (Nat.ble 10 pc) (cond (Nat.beq pc 10) (some (.getfield 13, 13, [])) (cond (Nat.beq pc 13) (some (.iload_n 1, 14, [])) (cond (Nat.beq pc 14) (some (.iload 4, 16, [])) (none)))) (cond (Nat.beq pc 6) (some (.if_icmp .ge 25, 9, [31])) (cond (Nat.beq pc 9) (some (.aload_n 0, 10, [])) (none)))) (cond (Nat.ble 3 pc) (cond (Nat.beq pc 3) (some (.iload 4, 5, [])) (cond (Nat.beq pc 5) (some (.iload_n 2, 6, [])) (none))) (cond (Nat.beq pc 0) (some (.iconst 0, 1, [])) (cond (Nat.beq pc 1) (some (.istore 4, 3, [])) (none))))))
theorem qkX9_found_ok : ∀ pc i nx ts, qkX9_found pc = some (i, nx, ts) → am_cok cX9_found pc (i, nx, ts) = true := fun pc i nx ts h => am_tok_ok (n := 33) (by decide +kernel) (fun pc h => by show cond (Nat.ble 33 pc) _ _ = _; rw [Nat.ble_eq_true_of_le h]; rfl) h
def qaX9_found : Nat → Option CE := fun k => none
theorem qyX9_found (l : Launch) : ∀ k e1, qaX9_found k = some e1 → am_cal l layM RX9 3 k e1 ∧ ceT e1 = 0 := q_nil
def qxX9_found : CX := (qkX9_found, layM, qfX9, qaX9_found, qcX9, qlX9, qmX9, (some .int), false, none, 0, none, fun _ => none)
theorem qzX9_found (l : Launch) : am_sta l qxX9_found RX9 3 cX9_found := ⟨qkX9_found_ok, layM_ok, qfX9_ok, qcX9_ok, qlX9_ok, am_mthP qmX9_ok (by decide), fun k e1 h => (qyX9_found l k e1 h).1⟩
def qsX9_found : SP := fun as F A K => match as with
  | [.inr (.inr o), .inl s, .inl m, .inl v] => cond (Nat.beq o 25) (((0 ≤ s ∧ s ≤ 8) ∧ (0 ≤ m ∧ m ≤ 8)) ∧ (K (some (some (vI (firstk (fun jj => decide (w32 (A 27 (s + jj)) = w32 v)) (Int.toNat m))))) F A)) (False)
  | _ => False
def qeX9_found : CE := (yX9_found, cX9_found, 5, (some .int), 3, some 9, 0, [], 0, 3, qsX9_found)
theorem qbX9_found : am_mb qeX9_found := ⟨am_tb_at 1587 (by decide +kernel) rfl, am_tb_at 124 (by decide +kernel) rfl, ⟨by decide, by decide, by decide +kernel⟩, by decide, by decide, am_tb_at 1586 (by decide +kernel) rfl, am_tb_at 57 (by decide +kernel) rfl, _, _, rfl⟩
def qnX9_found_25 : CUT := fun pc => cond (Nat.beq pc 3) (some [true, true, true, true, true]) (none)
def qiX9_found_25 (s : Int) (m : Int) (v : Int) (F0 : FF) (A0 : AA) : REC := fun pc ls st F A u => cond (Nat.beq pc 3) (match ls, st, u with
    | [some (.inr (.inr s0)), some (.inl s1), some (.inl s2), some (.inl s3), some (.inl k)], [], 0 => s0 = 25 ∧ s1 = s ∧ s2 = m ∧ s3 = v ∧ F = F0 ∧ A = A0 ∧ ((0 ≤ k ∧ k ≤ m) ∧ ∀ j : Nat, (j : Int) < k → ¬ w32 (A0 27 (s + j)) = w32 v)
    | _, _, _ => False) (False)
def quX9_found_25 : Nat → LVs → List AV → FF → AA → Nat := fun pc ls _ F A => cond (Nat.beq pc 3) (match ls with
    | [some (.inr (.inr s0)), some (.inl s1), some (.inl s2), some (.inl s3), some (.inl k)] => Int.toNat (s2 - k)
    | _ => 0) (0)
set_option maxRecDepth 20000 in
theorem qvX9_found_25_0 (s : Int) (m : Int) (v : Int) (F0 : FF) (A0 : AA) (K : KK) (h : ((0 ≤ s ∧ s ≤ 8) ∧ (0 ≤ m ∧ m ≤ 8)) ∧ (K (some (some (vI (firstk (fun jj => decide (w32 (A0 27 (s + jj)) = w32 v)) (Int.toNat m))))) F0 A0)) : am_stp qxX9_found (am_run qxX9_found qnX9_found_25 (qiX9_found_25 s m v F0 A0) K 16) K 0 (am_ent [vR 25, vI s, vI m, vI v] 5) [] F0 A0 0 := by
  show am_stp qxX9_found (am_run qxX9_found qnX9_found_25 (qiX9_found_25 s m v F0 A0) K 16) K 0 [some (vR 25), some (vI s), some (vI m), some (vI v), none] [] F0 A0 0
  obtain ⟨hp, h⟩ := h
  show 25 = 25 ∧ s = s ∧ m = m ∧ v = v ∧ F0 = F0 ∧ A0 = A0 ∧ ((0 ≤ 0 ∧ 0 ≤ m) ∧ ∀ j : Nat, (j : Int) < 0 → ¬ w32 (A0 27 (s + j)) = w32 v)
  refine ⟨rfl, rfl, rfl, rfl, rfl, rfl, ?_⟩
  exact ⟨by omega, fun j hj => by omega⟩
set_option maxRecDepth 20000 in
theorem qvX9_found_25_3 (s : Int) (m : Int) (v : Int) (F0 : FF) (A0 : AA) (K : KK) (h : ((0 ≤ s ∧ s ≤ 8) ∧ (0 ≤ m ∧ m ≤ 8)) ∧ (K (some (some (vI (firstk (fun jj => decide (w32 (A0 27 (s + jj)) = w32 v)) (Int.toNat m))))) F0 A0)) (k : Int) (hi : (0 ≤ k ∧ k ≤ m) ∧ ∀ j : Nat, (j : Int) < k → ¬ w32 (A0 27 (s + j)) = w32 v) : am_stp qxX9_found (am_run qxX9_found qnX9_found_25 (fun pc ls st F9 A9 u => qiX9_found_25 s m v F0 A0 pc ls st F9 A9 u ∧ quX9_found_25 pc ls st F9 A9 < quX9_found_25 3 [some (vR 25), some (vI s), some (vI m), some (vI v), some (vI k)] [] F0 A0) K 16) K 3 [some (vR 25), some (vI s), some (vI m), some (vI v), some (vI k)] [] F0 A0 0 := by
  obtain ⟨hp, h⟩ := h
  obtain ⟨p1, p2'⟩ := hp
  obtain ⟨h1, h3⟩ := hi
  have ek : ((k.toNat : Nat) : Int) = k := by omega
  show (w32 k < w32 m → ((0 ≤ w32 (s + k) ∧ w32 (s + k) < 16) ∧ ((w32 (A0 27 (w32 (s + k))) = w32 v → (K (some (some (vI k))) F0 A0)) ∧ (¬ w32 (A0 27 (w32 (s + k))) = w32 v → ((25 = 25 ∧ s = s ∧ m = m ∧ v = v ∧ F0 = F0 ∧ A0 = A0 ∧ ((0 ≤ (k + 1) ∧ (k + 1) ≤ m) ∧ ∀ j : Nat, (j : Int) < (k + 1) → ¬ w32 (A0 27 (s + j)) = w32 v)) ∧ (Int.toNat (m - (k + 1))) < (Int.toNat (m - k))))))) ∧ (¬ w32 k < w32 m → (K (some (some (vI (-1)))) F0 A0))
  refine ⟨fun c1 => ?_, fun c1 => ?_⟩
  · skip
    (try (rw [w32_id (x := s + k) (by omega) (by omega)] at c1)); (try rw [w32_id (x := k) (by omega) (by omega), w32_id (x := m) (by omega) (by omega)] at c1)
    refine ⟨by (rw [w32_id (by omega) (by omega)]; omega), ?_⟩
    refine ⟨fun c2 => ?_, fun c2 => ?_⟩
    · skip
      (try (rw [w32_id (x := s + k) (by omega) (by omega)] at c2)); (try rw [w32_id (x := k) (by omega) (by omega), w32_id (x := m) (by omega) (by omega)] at c2)
      refine K_eq h ?_
      rw [firstk_some (k := k.toNat) (by omega) (by rw [ek]; exact decide_eq_true c2) (fun j hj => decide_eq_false (h3 j (by omega)))]
      exact ek
    · skip
      (try (rw [w32_id (x := s + k) (by omega) (by omega)] at c2)); (try rw [w32_id (x := k) (by omega) (by omega), w32_id (x := m) (by omega) (by omega)] at c2)
      refine ⟨⟨rfl, rfl, rfl, rfl, rfl, rfl, ?_⟩, by omega⟩
      refine ⟨by omega, fun j hj => ?_⟩
      by_cases hjk : (j : Int) = k
      · rw [hjk]; exact c2
      · exact h3 j (by omega)
  · skip
    (try (rw [w32_id (x := s + k) (by omega) (by omega)] at c1)); (try rw [w32_id (x := k) (by omega) (by omega), w32_id (x := m) (by omega) (by omega)] at c1)
    exact K_eq h (firstk_none (fun j hj => decide_eq_false (h3 j (by omega))))
set_option maxRecDepth 20000 in
theorem qvX9_found_25 (s : Int) (m : Int) (v : Int) (F0 : FF) (A0 : AA) (K : KK) (h : ((0 ≤ s ∧ s ≤ 8) ∧ (0 ≤ m ∧ m ≤ 8)) ∧ (K (some (some (vI (firstk (fun jj => decide (w32 (A0 27 (s + jj)) = w32 v)) (Int.toNat m))))) F0 A0)) : am_body qxX9_found qnX9_found_25 16 (qiX9_found_25 s m v F0 A0) quX9_found_25 [vR 25, vI s, vI m, vI v] 5 F0 A0 K := by
  refine ⟨qvX9_found_25_0 s m v F0 A0 K h, fun pc ls st F A u hI => ?_⟩
  unfold qiX9_found_25 at hI
  replace hI := am_cond2 hI
  rcases hI with ⟨hb, hI⟩ | hI
  · have hb := am_bq hb
    subst hb
    split at hI
    · rename_i s0 s1 s2 s3 k
      obtain ⟨e0, e1, e2, e3, e4, e5, hI⟩ := hI
      subst e0
      subst e1
      subst e2
      subst e3
      subst e4
      subst e5
      exact qvX9_found_25_3 _ _ _ _ _ K h _ hI
    · exact hI.elim
  exact hI.elim
theorem qtX9_found (l : Launch) : am_CT l layM qeX9_found := am_met0 rfl (by decide +kernel) rfl rfl rfl rfl rfl (fun _ => rfl) rfl (qzX9_found l) (fun k e1 h => (qyX9_found l k e1 h).2) (fun as F A K h => by
  replace h : qsX9_found as F A K := h
  unfold qsX9_found at h
  split at h
  · rename_i o s m v
    refine ⟨by first | exact Nat.le_of_ble_eq_true rfl | simp [am_fl, am_cat], ?_⟩
    replace h := am_cond2 h
    rcases h with ⟨hb, h⟩ | h
    · skip
      have hb0 := hb
      have hb0 := am_bq hb0
      subst hb0
      exact am_way_body (qvX9_found_25 s m v F A K h)
    exact h.elim
  · exact h.elim)
def qkX9_degree : Nat → Option CI := fun pc => cond (Nat.ble 22 pc) none (cond (Nat.ble 12 pc) (cond (Nat.ble 17 pc) (cond (Nat.beq pc 17) (some (.goto 4, 20, [21])) (cond (Nat.beq pc 20) (some (.iconst 0, 21, [])) (cond (Nat.beq pc 21) (some (.ireturn, 22, [])) (none)))) (cond (Nat.beq pc 12) (some (.aload_n 0, 13, [])) (cond (Nat.beq pc 13) (some (.iload_n 1, 14, [])) (cond (Nat.beq pc 14) (some (.invokevirtual 80, 17, [])) (none))))) (cond (Nat.ble 3 pc) (cond (Nat.beq pc 3) (some (.invokevirtual 298, 6, [])) (cond (Nat.beq pc 6) (some (.invokevirtual 301, 9, [])) (cond (Nat.beq pc 9) (some (.ifCond .eq 11, 12, [20])) (none)))) (cond (Nat.beq pc 0) (some (.aload_n 0, 1, [])) (cond (Nat.beq pc 1) (some (.aload_n 0, 2, [])) (cond (Nat.beq pc 2) (some (.iload_n 1, 3, [])) (none))))))
theorem qkX9_degree_ok : ∀ pc i nx ts, qkX9_degree pc = some (i, nx, ts) → am_cok cX9_degree pc (i, nx, ts) = true := fun pc i nx ts h => am_tok_ok (n := 22) (by decide +kernel) (fun pc h => by show cond (Nat.ble 22 pc) _ _ = _; rw [Nat.ble_eq_true_of_le h]; rfl) h
def qaX9_degree : Nat → Option CE := fun k => cond (Nat.beq k 298) (some qeX9_isCurve) (cond (Nat.beq k 301) (some qeX9_checks) (cond (Nat.beq k 80) (some qeX9_order) (none)))
theorem qyX9_degree (l : Launch) : ∀ k e1, qaX9_degree k = some e1 → am_cal l layM RX9 5 k e1 ∧ ceT e1 = 0 := q_cons ⟨am_calV (ci := 9) (qtX9_isCurve l) qbX9_isCurve (by decide) rfl (am_tb_at 1651 (by decide +kernel) rfl), rfl⟩ (q_cons ⟨am_calV (ci := 9) (qtX9_checks l) qbX9_checks (by decide) rfl (am_tb_at 1655 (by decide +kernel) rfl), rfl⟩ (q_cons ⟨am_calV (ci := 9) (qtX9_order l) qbX9_order (by decide) rfl (am_tb_at 1659 (by decide +kernel) rfl), rfl⟩ (q_nil)))
def qxX9_degree : CX := (qkX9_degree, layM, qfX9, qaX9_degree, qcX9, qlX9, qmX9, (some .int), false, none, 0, none, fun _ => none)
theorem qzX9_degree (l : Launch) : am_sta l qxX9_degree RX9 5 cX9_degree := ⟨qkX9_degree_ok, layM_ok, qfX9_ok, qcX9_ok, qlX9_ok, am_mthP qmX9_ok (by decide), fun k e1 h => (qyX9_degree l k e1 h).1⟩
def qsX9_degree : SP := fun as F A K => match as with
  | [.inr (.inr o), .inl c] => cond (Nat.beq o 25) ((fgOK (mF A) ∧ (-2147483648 ≤ c ∧ c < 2147483648)) ∧ (∀ (G_1 : FF) (B_1 : AA), (qdP F G_1 A B_1 ∧ G_1 25 0 = (if 0 ≤ c ∧ c < mF A 0 then 0 else 1)) → (K (some (some (vI (if 0 ≤ c ∧ c < mF A 0 then mF A (18 + c) - 1 else 0)))) G_1 B_1))) (False)
  | _ => False
def qeX9_degree : CE := (yX9_degree, cX9_degree, 2, (some .int), 1, some 9, 0, [], 0, 5, qsX9_degree)
theorem qbX9_degree : am_mb qeX9_degree := ⟨am_tb_at 1650 (by decide +kernel) rfl, am_tb_at 124 (by decide +kernel) rfl, ⟨by decide, by decide, by decide +kernel⟩, by decide, by decide, am_tb_at 1648 (by decide +kernel) rfl, am_tb_at 1649 (by decide +kernel) rfl, _, _, rfl⟩
set_option maxRecDepth 20000 in
theorem qvX9_degree_25 (c : Int) (F : FF) (A : AA) (K : KK) (h : (fgOK (mF A) ∧ (-2147483648 ≤ c ∧ c < 2147483648)) ∧ (∀ (G_1 : FF) (B_1 : AA), (qdP F G_1 A B_1 ∧ G_1 25 0 = (if 0 ≤ c ∧ c < mF A 0 then 0 else 1)) → (K (some (some (vI (if 0 ≤ c ∧ c < mF A 0 then mF A (18 + c) - 1 else 0)))) G_1 B_1))) : am_line qxX9_degree 12 [vR 25, vI c] 2 F A K := by
  show am_stp qxX9_degree (am_run qxX9_degree (fun _ => none) (fun _ _ _ _ _ _ => False) K 12) K 0 [some (vR 25), some (vI c)] [] F A 0
  obtain ⟨hp, h⟩ := h
  have p1 := hp.1
  have q1 := p1.1.1
  have q2 := p1.1.2
  have q4 := p1.2.1

  show ((0 ≤ mF A 0 ∧ mF A 0 ≤ 8) ∧ (0 ≤ mF A 1 ∧ mF A 1 ≤ 6) ∧ (-2147483648 ≤ c ∧ c < 2147483648)) ∧ (((bi (0 ≤ c ∧ c < mF A 0)) = 0 ∨ (bi (0 ≤ c ∧ c < mF A 0)) = 1) ∧ ((w32 (bi (0 ≤ c ∧ c < mF A 0)) = w32 0 → (K (some (some (vI 0))) (upF F 25 0 (1 - (bi (0 ≤ c ∧ c < mF A 0)))) A)) ∧ (¬ (w32 (bi (0 ≤ c ∧ c < mF A 0)) = w32 0) → ((0 ≤ c ∧ c < 8) ∧ (K (some (some (vI (mF A (18 + c) - 1)))) (upF F 25 0 (1 - (bi (0 ≤ c ∧ c < mF A 0)))) A)))))
  refine ⟨by first | exact bi_01 | omega | exact ⟨by omega, by omega⟩ | exact ⟨by omega, by omega, by omega⟩, ?_⟩
  refine ⟨by first | exact bi_01 | omega | exact ⟨by omega, by omega⟩ | exact ⟨by omega, by omega, by omega⟩, ?_⟩
  refine ⟨fun c1 => ?_, fun c1 => ?_⟩
  · skip
    (try simp (disch := omega) only [fat_in, w32_0, wbi0, Classical.not_not, w32_id] at c1)
    first
    | exact K_eq (h _ _ ⟨qdP_F (by decide), by rw [upF_s, bi_f c1, if_neg c1]; rfl⟩) (if_neg c1)
    | exact K_eq (h _ _ ⟨qdP_F (by decide), by rw [upF_s, bi_t c1, if_pos c1]; rfl⟩) (by rw [if_pos c1])
  · skip
    (try simp (disch := omega) only [fat_in, w32_0, wbi0, Classical.not_not, w32_id] at c1)
    refine ⟨by first | exact bi_01 | omega | exact ⟨by omega, by omega⟩ | exact ⟨by omega, by omega, by omega⟩, ?_⟩
    first
    | exact K_eq (h _ _ ⟨qdP_F (by decide), by rw [upF_s, bi_f c1, if_neg c1]; rfl⟩) (if_neg c1)
    | exact K_eq (h _ _ ⟨qdP_F (by decide), by rw [upF_s, bi_t c1, if_pos c1]; rfl⟩) (by rw [if_pos c1])
theorem qtX9_degree (l : Launch) : am_CT l layM qeX9_degree := am_met0 rfl (by decide +kernel) rfl rfl rfl rfl rfl (fun _ => rfl) rfl (qzX9_degree l) (fun k e1 h => (qyX9_degree l k e1 h).2) (fun as F A K h => by
  replace h : qsX9_degree as F A K := h
  unfold qsX9_degree at h
  split at h
  · rename_i o c
    refine ⟨by first | exact Nat.le_of_ble_eq_true rfl | simp [am_fl, am_cat], ?_⟩
    replace h := am_cond2 h
    rcases h with ⟨hb, h⟩ | h
    · skip
      have hb0 := hb
      have hb0 := am_bq hb0
      subst hb0
      exact am_way_line (qvX9_degree_25 c F A K h)
    exact h.elim
  · exact h.elim)
def qkX9_control : Nat → Option CI := fun pc => cond (Nat.ble 47 pc) none (cond (Nat.ble 24 pc) (cond (Nat.ble 36 pc) (cond (Nat.ble 41 pc) (cond (Nat.ble 43 pc) (cond (Nat.beq pc 43) (some (.invokevirtual 83, 46, [])) (cond (Nat.beq pc 46) (some (.ireturn, 47, [])) (none))) (cond (Nat.beq pc 41) (some (.iload_n 2, 42, [])) (cond (Nat.beq pc 42) (some (.iload_n 3, 43, [])) (none)))) (cond (Nat.beq pc 36) (some (.goto 10, 39, [46])) (cond (Nat.beq pc 39) (some (.aload_n 0, 40, [])) (cond (Nat.beq pc 40) (some (.iload_n 1, 41, [])) (none))))) (cond (Nat.ble 29 pc) (cond (Nat.ble 31 pc) (cond (Nat.beq pc 31) (some (.if_icmp .le 8, 34, [39])) (cond (Nat.beq pc 34) (some (.bipush (-2), 36, [])) (none))) (cond (Nat.beq pc 29) (some (.iload_n 3, 30, [])) (cond (Nat.beq pc 30) (some (.iconst 2, 31, [])) (none)))) (cond (Nat.beq pc 24) (some (.ireturn, 25, [])) (cond (Nat.beq pc 25) (some (.iload_n 3, 26, [])) (cond (Nat.beq pc 26) (some (.ifCond .lt 8, 29, [34])) (none)))))) (cond (Nat.ble 13 pc) (cond (Nat.ble 16 pc) (cond (Nat.ble 20 pc) (cond (Nat.beq pc 20) (some (.ifCond .ne 5, 23, [25])) (cond (Nat.beq pc 23) (some (.iconst (-1), 24, [])) (none))) (cond (Nat.beq pc 16) (some (.iload_n 2, 17, [])) (cond (Nat.beq pc 17) (some (.invokevirtual 305, 20, [])) (none)))) (cond (Nat.beq pc 13) (some (.ireturn, 14, [])) (cond (Nat.beq pc 14) (some (.aload_n 0, 15, [])) (cond (Nat.beq pc 15) (some (.iload_n 1, 16, [])) (none))))) (cond (Nat.ble 3 pc) (cond (Nat.ble 9 pc) (cond (Nat.beq pc 9) (some (.ifCond .ne 5, 12, [14])) (cond (Nat.beq pc 12) (some (.iconst 0, 13, [])) (none))) (cond (Nat.beq pc 3) (some (.invokevirtual 298, 6, [])) (cond (Nat.beq pc 6) (some (.invokevirtual 301, 9, [])) (none)))) (cond (Nat.beq pc 0) (some (.aload_n 0, 1, [])) (cond (Nat.beq pc 1) (some (.aload_n 0, 2, [])) (cond (Nat.beq pc 2) (some (.iload_n 1, 3, [])) (none)))))))
theorem qkX9_control_ok : ∀ pc i nx ts, qkX9_control pc = some (i, nx, ts) → am_cok cX9_control pc (i, nx, ts) = true := fun pc i nx ts h => am_tok_ok (n := 47) (by decide +kernel) (fun pc h => by show cond (Nat.ble 47 pc) _ _ = _; rw [Nat.ble_eq_true_of_le h]; rfl) h
def qaX9_control : Nat → Option CE := fun k => cond (Nat.beq k 298) (some qeX9_isCurve) (cond (Nat.beq k 301) (some qeX9_checks) (cond (Nat.beq k 305) (some qeX9_isPoint) (cond (Nat.beq k 83) (some qeX9_point) (none))))
theorem qyX9_control (l : Launch) : ∀ k e1, qaX9_control k = some e1 → am_cal l layM RX9 5 k e1 ∧ ceT e1 = 0 := q_cons ⟨am_calV (ci := 9) (qtX9_isCurve l) qbX9_isCurve (by decide) rfl (am_tb_at 1651 (by decide +kernel) rfl), rfl⟩ (q_cons ⟨am_calV (ci := 9) (qtX9_checks l) qbX9_checks (by decide) rfl (am_tb_at 1655 (by decide +kernel) rfl), rfl⟩ (q_cons ⟨am_calV (ci := 9) (qtX9_isPoint l) qbX9_isPoint (by decide) rfl (am_tb_at 1671 (by decide +kernel) rfl), rfl⟩ (q_cons ⟨am_calV (ci := 9) (qtX9_point l) qbX9_point (by decide) rfl (am_tb_at 1675 (by decide +kernel) rfl), rfl⟩ (q_nil))))
def qxX9_control : CX := (qkX9_control, layM, qfX9, qaX9_control, qcX9, qlX9, qmX9, (some .int), false, none, 0, none, fun _ => none)
theorem qzX9_control (l : Launch) : am_sta l qxX9_control RX9 5 cX9_control := ⟨qkX9_control_ok, layM_ok, qfX9_ok, qcX9_ok, qlX9_ok, am_mthP qmX9_ok (by decide), fun k e1 h => (qyX9_control l k e1 h).1⟩
def qsX9_control : SP := fun as F A K => match as with
  | [.inr (.inr o), .inl c, .inl k, .inl w] => cond (Nat.beq o 25) ((fgOK (mF A) ∧ (-2147483648 ≤ c ∧ c < 2147483648) ∧ (-2147483648 ≤ k ∧ k < 2147483648) ∧ (-2147483648 ≤ w ∧ w < 2147483648)) ∧ (∀ (G_1 : FF) (B_1 : AA), (qdP F G_1 A B_1 ∧ G_1 25 0 = (if 0 ≤ c ∧ c < mF A 0 then 0 else 1)) → (K (some (some (vI (if 0 ≤ c ∧ c < mF A 0 then (if 0 ≤ k ∧ k < mF A (18 + c) then (if 0 ≤ w ∧ w ≤ 2 then mF A (26 + (c * 4 + k) * 3 + w) else -2) else -1) else 0)))) G_1 B_1))) (False)
  | _ => False
def qeX9_control : CE := (yX9_control, cX9_control, 4, (some .int), 3, some 9, 0, [], 0, 5, qsX9_control)
theorem qbX9_control : am_mb qeX9_control := ⟨am_tb_at 1670 (by decide +kernel) rfl, am_tb_at 124 (by decide +kernel) rfl, ⟨by decide, by decide, by decide +kernel⟩, by decide, by decide, am_tb_at 1668 (by decide +kernel) rfl, am_tb_at 1669 (by decide +kernel) rfl, _, _, rfl⟩
set_option maxRecDepth 20000 in
theorem qvX9_control_25 (c : Int) (k : Int) (w : Int) (F : FF) (A : AA) (K : KK) (h : (fgOK (mF A) ∧ (-2147483648 ≤ c ∧ c < 2147483648) ∧ (-2147483648 ≤ k ∧ k < 2147483648) ∧ (-2147483648 ≤ w ∧ w < 2147483648)) ∧ (∀ (G_1 : FF) (B_1 : AA), (qdP F G_1 A B_1 ∧ G_1 25 0 = (if 0 ≤ c ∧ c < mF A 0 then 0 else 1)) → (K (some (some (vI (if 0 ≤ c ∧ c < mF A 0 then (if 0 ≤ k ∧ k < mF A (18 + c) then (if 0 ≤ w ∧ w ≤ 2 then mF A (26 + (c * 4 + k) * 3 + w) else -2) else -1) else 0)))) G_1 B_1))) : am_line qxX9_control 23 [vR 25, vI c, vI k, vI w] 4 F A K := by
  show am_stp qxX9_control (am_run qxX9_control (fun _ => none) (fun _ _ _ _ _ _ => False) K 23) K 0 [some (vR 25), some (vI c), some (vI k), some (vI w)] [] F A 0
  obtain ⟨hp, h⟩ := h
  have p1 := hp.1
  have q1 := p1.1.1
  have q2 := p1.1.2
  have q4 := p1.2.1

  show ((0 ≤ mF A 0 ∧ mF A 0 ≤ 8) ∧ (0 ≤ mF A 1 ∧ mF A 1 ≤ 6) ∧ (-2147483648 ≤ c ∧ c < 2147483648)) ∧ (((bi (0 ≤ c ∧ c < mF A 0)) = 0 ∨ (bi (0 ≤ c ∧ c < mF A 0)) = 1) ∧ ((w32 (bi (0 ≤ c ∧ c < mF A 0)) = w32 0 → (K (some (some (vI 0))) (upF F 25 0 (1 - (bi (0 ≤ c ∧ c < mF A 0)))) A)) ∧ (¬ (w32 (bi (0 ≤ c ∧ c < mF A 0)) = w32 0) → (((0 ≤ c ∧ c < 8) ∧ (2 ≤ mF A (18 + c) ∧ mF A (18 + c) ≤ 4) ∧ (-2147483648 ≤ k ∧ k < 2147483648)) ∧ ((w32 (bi (0 ≤ k ∧ k < mF A (18 + c))) = w32 0 → (K (some (some (vI (-1)))) (upF F 25 0 (1 - (bi (0 ≤ c ∧ c < mF A 0)))) A)) ∧ (¬ (w32 (bi (0 ≤ k ∧ k < mF A (18 + c))) = w32 0) → ((w32 w < w32 0 → (K (some (some (vI (-2)))) (upF F 25 0 (1 - (bi (0 ≤ c ∧ c < mF A 0)))) A)) ∧ (¬ w32 w < w32 0 → ((w32 2 < w32 w → (K (some (some (vI (-2)))) (upF F 25 0 (1 - (bi (0 ≤ c ∧ c < mF A 0)))) A)) ∧ (¬ w32 2 < w32 w → (((0 ≤ c ∧ c < 8) ∧ (0 ≤ k ∧ k < 4) ∧ 0 ≤ w ∧ w ≤ 2) ∧ (K (some (some (vI (pxF (mF A) c k w)))) (upF F 25 0 (1 - (bi (0 ≤ c ∧ c < mF A 0)))) A))))))))))))
  refine ⟨by omega, ?_⟩
  refine ⟨by exact bi_01, ?_⟩
  refine ⟨fun c1 => ?_, fun c1 => ?_⟩
  · skip
    (try (have q3 := (p1.2.2.1 c c1.1 c1.2).1)); (try simp (disch := omega) only [fat_in, w32_0, wbi0, Classical.not_not, w32_id] at c1)
    first
    | exact K_eq (h _ _ ⟨qdP_F (by decide), by rw [upF_s, bi_f c1, if_neg c1]; rfl⟩) (if_neg c1)
    | exact K_eq (h _ _ ⟨qdP_F (by decide), by rw [upF_s, bi_t c1, if_pos c1]; rfl⟩) (by rw [if_pos c1, if_neg (by omega)])
    | exact K_eq (h _ _ ⟨qdP_F (by decide), by rw [upF_s, bi_t c1, if_pos c1]; rfl⟩) (by rw [if_pos c1, if_pos (by omega), if_neg (by omega)])
    | exact K_eq (h _ _ ⟨qdP_F (by decide), by rw [upF_s, bi_t c1, if_pos c1]; rfl⟩) (by rw [if_pos c1, if_pos (by omega), if_pos (by omega)]; rfl)
  · skip
    (try (have q3 := (p1.2.2.1 c c1.1 c1.2).1)); (try simp (disch := omega) only [fat_in, w32_0, wbi0, Classical.not_not, w32_id] at c1)
    refine ⟨by (have q3 := (p1.2.2.1 c c1.1 c1.2).1; first | exact bi_01 | omega | exact ⟨by omega, by omega, by omega⟩), ?_⟩
    refine ⟨fun c2 => ?_, fun c2 => ?_⟩
    · skip
      (try (have q3 := (p1.2.2.1 c c1.1 c1.2).1)); (try simp (disch := omega) only [fat_in, w32_0, wbi0, Classical.not_not, w32_id] at c2)
      first
      | exact K_eq (h _ _ ⟨qdP_F (by decide), by rw [upF_s, bi_f c1, if_neg c1]; rfl⟩) (if_neg c1)
      | exact K_eq (h _ _ ⟨qdP_F (by decide), by rw [upF_s, bi_t c1, if_pos c1]; rfl⟩) (by rw [if_pos c1, if_neg (by omega)])
      | exact K_eq (h _ _ ⟨qdP_F (by decide), by rw [upF_s, bi_t c1, if_pos c1]; rfl⟩) (by rw [if_pos c1, if_pos (by omega), if_neg (by omega)])
      | exact K_eq (h _ _ ⟨qdP_F (by decide), by rw [upF_s, bi_t c1, if_pos c1]; rfl⟩) (by rw [if_pos c1, if_pos (by omega), if_pos (by omega)]; rfl)
    · skip
      (try (have q3 := (p1.2.2.1 c c1.1 c1.2).1)); (try simp (disch := omega) only [fat_in, w32_0, wbi0, Classical.not_not, w32_id] at c2)
      refine ⟨fun c3 => ?_, fun c3 => ?_⟩
      · skip
        (try (have q3 := (p1.2.2.1 c c1.1 c1.2).1)); (try simp (disch := omega) only [fat_in, w32_0, wbi0, Classical.not_not, w32_id] at c3)
        first
        | exact K_eq (h _ _ ⟨qdP_F (by decide), by rw [upF_s, bi_f c1, if_neg c1]; rfl⟩) (if_neg c1)
        | exact K_eq (h _ _ ⟨qdP_F (by decide), by rw [upF_s, bi_t c1, if_pos c1]; rfl⟩) (by rw [if_pos c1, if_neg (by omega)])
        | exact K_eq (h _ _ ⟨qdP_F (by decide), by rw [upF_s, bi_t c1, if_pos c1]; rfl⟩) (by rw [if_pos c1, if_pos (by omega), if_neg (by omega)])
        | exact K_eq (h _ _ ⟨qdP_F (by decide), by rw [upF_s, bi_t c1, if_pos c1]; rfl⟩) (by rw [if_pos c1, if_pos (by omega), if_pos (by omega)]; rfl)
      · skip
        (try (have q3 := (p1.2.2.1 c c1.1 c1.2).1)); (try simp (disch := omega) only [fat_in, w32_0, wbi0, Classical.not_not, w32_id] at c3)
        refine ⟨fun c4 => ?_, fun c4 => ?_⟩
        · skip
          (try (have q3 := (p1.2.2.1 c c1.1 c1.2).1)); (try simp (disch := omega) only [fat_in, w32_0, wbi0, Classical.not_not, w32_id] at c4)
          first
          | exact K_eq (h _ _ ⟨qdP_F (by decide), by rw [upF_s, bi_f c1, if_neg c1]; rfl⟩) (if_neg c1)
          | exact K_eq (h _ _ ⟨qdP_F (by decide), by rw [upF_s, bi_t c1, if_pos c1]; rfl⟩) (by rw [if_pos c1, if_neg (by omega)])
          | exact K_eq (h _ _ ⟨qdP_F (by decide), by rw [upF_s, bi_t c1, if_pos c1]; rfl⟩) (by rw [if_pos c1, if_pos (by omega), if_neg (by omega)])
          | exact K_eq (h _ _ ⟨qdP_F (by decide), by rw [upF_s, bi_t c1, if_pos c1]; rfl⟩) (by rw [if_pos c1, if_pos (by omega), if_pos (by omega)]; rfl)
        · skip
          (try (have q3 := (p1.2.2.1 c c1.1 c1.2).1)); (try simp (disch := omega) only [fat_in, w32_0, wbi0, Classical.not_not, w32_id] at c4)
          refine ⟨by (have q3 := (p1.2.2.1 c c1.1 c1.2).1; first | exact bi_01 | omega | exact ⟨by omega, by omega, by omega⟩), ?_⟩
          first
          | exact K_eq (h _ _ ⟨qdP_F (by decide), by rw [upF_s, bi_f c1, if_neg c1]; rfl⟩) (if_neg c1)
          | exact K_eq (h _ _ ⟨qdP_F (by decide), by rw [upF_s, bi_t c1, if_pos c1]; rfl⟩) (by rw [if_pos c1, if_neg (by omega)])
          | exact K_eq (h _ _ ⟨qdP_F (by decide), by rw [upF_s, bi_t c1, if_pos c1]; rfl⟩) (by rw [if_pos c1, if_pos (by omega), if_neg (by omega)])
          | exact K_eq (h _ _ ⟨qdP_F (by decide), by rw [upF_s, bi_t c1, if_pos c1]; rfl⟩) (by rw [if_pos c1, if_pos (by omega), if_pos (by omega)]; rfl)
theorem qtX9_control (l : Launch) : am_CT l layM qeX9_control := am_met0 rfl (by decide +kernel) rfl rfl rfl rfl rfl (fun _ => rfl) rfl (qzX9_control l) (fun k e1 h => (qyX9_control l k e1 h).2) (fun as F A K h => by
  replace h : qsX9_control as F A K := h
  unfold qsX9_control at h
  split at h
  · rename_i o c k w
    refine ⟨by first | exact Nat.le_of_ble_eq_true rfl | simp [am_fl, am_cat], ?_⟩
    replace h := am_cond2 h
    rcases h with ⟨hb, h⟩ | h
    · skip
      have hb0 := hb
      have hb0 := am_bq hb0
      subst hb0
      exact am_way_line (qvX9_control_25 c k w F A K h)
    exact h.elim
  · exact h.elim)
def qkX9_lineNumber : Nat → Option CI := fun pc => cond (Nat.ble 36 pc) none (cond (Nat.ble 18 pc) (cond (Nat.ble 29 pc) (cond (Nat.ble 31 pc) (cond (Nat.beq pc 31) (some (.iload_n 2, 32, [])) (cond (Nat.beq pc 32) (some (.invokevirtual 91, 35, [])) (cond (Nat.beq pc 35) (some (.ireturn, 36, [])) (none)))) (cond (Nat.beq pc 29) (some (.aload_n 0, 30, [])) (cond (Nat.beq pc 30) (some (.iload_n 1, 31, [])) (none)))) (cond (Nat.ble 20 pc) (cond (Nat.beq pc 20) (some (.if_icmp .le 9, 23, [29])) (cond (Nat.beq pc 23) (some (.sipush 1000, 26, [])) (cond (Nat.beq pc 26) (some (.goto 9, 29, [35])) (none)))) (cond (Nat.beq pc 18) (some (.iload_n 2, 19, [])) (cond (Nat.beq pc 19) (some (.iconst 2, 20, [])) (none))))) (cond (Nat.ble 9 pc) (cond (Nat.ble 13 pc) (cond (Nat.beq pc 13) (some (.ireturn, 14, [])) (cond (Nat.beq pc 14) (some (.iload_n 2, 15, [])) (cond (Nat.beq pc 15) (some (.ifCond .lt 8, 18, [23])) (none)))) (cond (Nat.beq pc 9) (some (.ifCond .ne 5, 12, [14])) (cond (Nat.beq pc 12) (some (.iconst 0, 13, [])) (none)))) (cond (Nat.ble 2 pc) (cond (Nat.beq pc 2) (some (.iload_n 1, 3, [])) (cond (Nat.beq pc 3) (some (.invokevirtual 308, 6, [])) (cond (Nat.beq pc 6) (some (.invokevirtual 301, 9, [])) (none)))) (cond (Nat.beq pc 0) (some (.aload_n 0, 1, [])) (cond (Nat.beq pc 1) (some (.aload_n 0, 2, [])) (none))))))
theorem qkX9_lineNumber_ok : ∀ pc i nx ts, qkX9_lineNumber pc = some (i, nx, ts) → am_cok cX9_lineNumber pc (i, nx, ts) = true := fun pc i nx ts h => am_tok_ok (n := 36) (by decide +kernel) (fun pc h => by show cond (Nat.ble 36 pc) _ _ = _; rw [Nat.ble_eq_true_of_le h]; rfl) h
def qaX9_lineNumber : Nat → Option CE := fun k => cond (Nat.beq k 308) (some qeX9_isLine) (cond (Nat.beq k 301) (some qeX9_checks) (cond (Nat.beq k 91) (some qeX9_lineOf) (none)))
theorem qyX9_lineNumber (l : Launch) : ∀ k e1, qaX9_lineNumber k = some e1 → am_cal l layM RX9 4 k e1 ∧ ceT e1 = 0 := q_cons ⟨am_calV (ci := 9) (qtX9_isLine l) qbX9_isLine (by decide) rfl (am_tb_at 1683 (by decide +kernel) rfl), rfl⟩ (q_cons ⟨am_calV (ci := 9) (qtX9_checks l) qbX9_checks (by decide) rfl (am_tb_at 1655 (by decide +kernel) rfl), rfl⟩ (q_cons ⟨am_calV (ci := 9) (qtX9_lineOf l) qbX9_lineOf (by decide) rfl (am_tb_at 1687 (by decide +kernel) rfl), rfl⟩ (q_nil)))
def qxX9_lineNumber : CX := (qkX9_lineNumber, layM, qfX9, qaX9_lineNumber, qcX9, qlX9, qmX9, (some .int), false, none, 0, none, fun _ => none)
theorem qzX9_lineNumber (l : Launch) : am_sta l qxX9_lineNumber RX9 4 cX9_lineNumber := ⟨qkX9_lineNumber_ok, layM_ok, qfX9_ok, qcX9_ok, qlX9_ok, am_mthP qmX9_ok (by decide), fun k e1 h => (qyX9_lineNumber l k e1 h).1⟩
def qsX9_lineNumber : SP := fun as F A K => match as with
  | [.inr (.inr o), .inl l, .inl w] => cond (Nat.beq o 25) ((fgOK (mF A) ∧ (-2147483648 ≤ l ∧ l < 2147483648) ∧ (-2147483648 ≤ w ∧ w < 2147483648)) ∧ (∀ (G_1 : FF) (B_1 : AA), (qdP F G_1 A B_1 ∧ G_1 25 0 = (if 0 ≤ l ∧ l < mF A 1 then 0 else 1)) → (K (some (some (vI (if 0 ≤ l ∧ l < mF A 1 then (if 0 ≤ w ∧ w ≤ 2 then mF A (122 + l * 3 + w) else 1000) else 0)))) G_1 B_1))) (False)
  | _ => False
def qeX9_lineNumber : CE := (yX9_lineNumber, cX9_lineNumber, 3, (some .int), 2, some 9, 0, [], 0, 4, qsX9_lineNumber)
theorem qbX9_lineNumber : am_mb qeX9_lineNumber := ⟨am_tb_at 1682 (by decide +kernel) rfl, am_tb_at 124 (by decide +kernel) rfl, ⟨by decide, by decide, by decide +kernel⟩, by decide, by decide, am_tb_at 1680 (by decide +kernel) rfl, am_tb_at 1681 (by decide +kernel) rfl, _, _, rfl⟩
set_option maxRecDepth 20000 in
theorem qvX9_lineNumber_25 (l : Int) (w : Int) (F : FF) (A : AA) (K : KK) (h : (fgOK (mF A) ∧ (-2147483648 ≤ l ∧ l < 2147483648) ∧ (-2147483648 ≤ w ∧ w < 2147483648)) ∧ (∀ (G_1 : FF) (B_1 : AA), (qdP F G_1 A B_1 ∧ G_1 25 0 = (if 0 ≤ l ∧ l < mF A 1 then 0 else 1)) → (K (some (some (vI (if 0 ≤ l ∧ l < mF A 1 then (if 0 ≤ w ∧ w ≤ 2 then mF A (122 + l * 3 + w) else 1000) else 0)))) G_1 B_1))) : am_line qxX9_lineNumber 17 [vR 25, vI l, vI w] 3 F A K := by
  show am_stp qxX9_lineNumber (am_run qxX9_lineNumber (fun _ => none) (fun _ _ _ _ _ _ => False) K 17) K 0 [some (vR 25), some (vI l), some (vI w)] [] F A 0
  obtain ⟨hp, h⟩ := h
  have p1 := hp.1
  have q1 := p1.1.1
  have q2 := p1.1.2
  have q4 := p1.2.1

  show ((0 ≤ mF A 0 ∧ mF A 0 ≤ 8) ∧ (0 ≤ mF A 1 ∧ mF A 1 ≤ 6) ∧ (-2147483648 ≤ l ∧ l < 2147483648)) ∧ (((bi (0 ≤ l ∧ l < mF A 1)) = 0 ∨ (bi (0 ≤ l ∧ l < mF A 1)) = 1) ∧ ((w32 (bi (0 ≤ l ∧ l < mF A 1)) = w32 0 → (K (some (some (vI 0))) (upF F 25 0 (1 - (bi (0 ≤ l ∧ l < mF A 1)))) A)) ∧ (¬ (w32 (bi (0 ≤ l ∧ l < mF A 1)) = w32 0) → ((w32 w < w32 0 → (K (some (some (vI 1000))) (upF F 25 0 (1 - (bi (0 ≤ l ∧ l < mF A 1)))) A)) ∧ (¬ w32 w < w32 0 → ((w32 2 < w32 w → (K (some (some (vI 1000))) (upF F 25 0 (1 - (bi (0 ≤ l ∧ l < mF A 1)))) A)) ∧ (¬ w32 2 < w32 w → (((0 ≤ l ∧ l < 6) ∧ 0 ≤ w ∧ w ≤ 2) ∧ (K (some (some (vI (mF A (122 + l * 3 + w))))) (upF F 25 0 (1 - (bi (0 ≤ l ∧ l < mF A 1)))) A)))))))))
  refine ⟨by first | exact bi_01 | omega | exact ⟨by omega, by omega⟩ | exact ⟨by omega, by omega, by omega⟩, ?_⟩
  refine ⟨by first | exact bi_01 | omega | exact ⟨by omega, by omega⟩ | exact ⟨by omega, by omega, by omega⟩, ?_⟩
  refine ⟨fun c1 => ?_, fun c1 => ?_⟩
  · skip
    (try simp (disch := omega) only [fat_in, w32_0, wbi0, Classical.not_not, w32_id] at c1)
    first
    | exact K_eq (h _ _ ⟨qdP_F (by decide), by rw [upF_s, bi_f c1, if_neg c1]; rfl⟩) (if_neg c1)
    | exact K_eq (h _ _ ⟨qdP_F (by decide), by rw [upF_s, bi_t c1, if_pos c1]; rfl⟩) (by rw [if_pos c1, if_neg (by omega)])
    | exact K_eq (h _ _ ⟨qdP_F (by decide), by rw [upF_s, bi_t c1, if_pos c1]; rfl⟩) (by rw [if_pos c1, if_pos (by omega)])
  · skip
    (try simp (disch := omega) only [fat_in, w32_0, wbi0, Classical.not_not, w32_id] at c1)
    refine ⟨fun c2 => ?_, fun c2 => ?_⟩
    · skip
      (try simp (disch := omega) only [fat_in, w32_0, wbi0, Classical.not_not, w32_id] at c2)
      first
      | exact K_eq (h _ _ ⟨qdP_F (by decide), by rw [upF_s, bi_f c1, if_neg c1]; rfl⟩) (if_neg c1)
      | exact K_eq (h _ _ ⟨qdP_F (by decide), by rw [upF_s, bi_t c1, if_pos c1]; rfl⟩) (by rw [if_pos c1, if_neg (by omega)])
      | exact K_eq (h _ _ ⟨qdP_F (by decide), by rw [upF_s, bi_t c1, if_pos c1]; rfl⟩) (by rw [if_pos c1, if_pos (by omega)])
    · skip
      (try simp (disch := omega) only [fat_in, w32_0, wbi0, Classical.not_not, w32_id] at c2)
      refine ⟨fun c3 => ?_, fun c3 => ?_⟩
      · skip
        (try simp (disch := omega) only [fat_in, w32_0, wbi0, Classical.not_not, w32_id] at c3)
        first
        | exact K_eq (h _ _ ⟨qdP_F (by decide), by rw [upF_s, bi_f c1, if_neg c1]; rfl⟩) (if_neg c1)
        | exact K_eq (h _ _ ⟨qdP_F (by decide), by rw [upF_s, bi_t c1, if_pos c1]; rfl⟩) (by rw [if_pos c1, if_neg (by omega)])
        | exact K_eq (h _ _ ⟨qdP_F (by decide), by rw [upF_s, bi_t c1, if_pos c1]; rfl⟩) (by rw [if_pos c1, if_pos (by omega)])
      · skip
        (try simp (disch := omega) only [fat_in, w32_0, wbi0, Classical.not_not, w32_id] at c3)
        refine ⟨by first | exact bi_01 | omega | exact ⟨by omega, by omega⟩ | exact ⟨by omega, by omega, by omega⟩, ?_⟩
        first
        | exact K_eq (h _ _ ⟨qdP_F (by decide), by rw [upF_s, bi_f c1, if_neg c1]; rfl⟩) (if_neg c1)
        | exact K_eq (h _ _ ⟨qdP_F (by decide), by rw [upF_s, bi_t c1, if_pos c1]; rfl⟩) (by rw [if_pos c1, if_neg (by omega)])
        | exact K_eq (h _ _ ⟨qdP_F (by decide), by rw [upF_s, bi_t c1, if_pos c1]; rfl⟩) (by rw [if_pos c1, if_pos (by omega)])
theorem qtX9_lineNumber (l : Launch) : am_CT l layM qeX9_lineNumber := am_met0 rfl (by decide +kernel) rfl rfl rfl rfl rfl (fun _ => rfl) rfl (qzX9_lineNumber l) (fun k e1 h => (qyX9_lineNumber l k e1 h).2) (fun as F A K h => by
  replace h : qsX9_lineNumber as F A K := h
  unfold qsX9_lineNumber at h
  split at h
  · rename_i o l w
    refine ⟨by first | exact Nat.le_of_ble_eq_true rfl | simp [am_fl, am_cat], ?_⟩
    replace h := am_cond2 h
    rcases h with ⟨hb, h⟩ | h
    · skip
      have hb0 := hb
      have hb0 := am_bq hb0
      subst hb0
      exact am_way_line (qvX9_lineNumber_25 l w F A K h)
    exact h.elim
  · exact h.elim)
def qkX9_errorPosition : Nat → Option CI := fun pc => cond (Nat.ble 10 pc) none (cond (Nat.ble 5 pc) (cond (Nat.beq pc 5) (some (.aload_n 0, 6, [])) (cond (Nat.beq pc 6) (some (.getfield 60, 9, [])) (cond (Nat.beq pc 9) (some (.ireturn, 10, [])) (none)))) (cond (Nat.beq pc 0) (some (.aload_n 0, 1, [])) (cond (Nat.beq pc 1) (some (.iconst 0, 2, [])) (cond (Nat.beq pc 2) (some (.putfield 70, 5, [])) (none)))))
theorem qkX9_errorPosition_ok : ∀ pc i nx ts, qkX9_errorPosition pc = some (i, nx, ts) → am_cok cX9_errorPosition pc (i, nx, ts) = true := fun pc i nx ts h => am_tok_ok (n := 10) (by decide +kernel) (fun pc h => by show cond (Nat.ble 10 pc) _ _ = _; rw [Nat.ble_eq_true_of_le h]; rfl) h
def qaX9_errorPosition : Nat → Option CE := fun k => none
theorem qyX9_errorPosition (l : Launch) : ∀ k e1, qaX9_errorPosition k = some e1 → am_cal l layM RX9 3 k e1 ∧ ceT e1 = 0 := q_nil
def qxX9_errorPosition : CX := (qkX9_errorPosition, layM, qfX9, qaX9_errorPosition, qcX9, qlX9, qmX9, (some .int), false, none, 0, none, fun _ => none)
theorem qzX9_errorPosition (l : Launch) : am_sta l qxX9_errorPosition RX9 3 cX9_errorPosition := ⟨qkX9_errorPosition_ok, layM_ok, qfX9_ok, qcX9_ok, qlX9_ok, am_mthP qmX9_ok (by decide), fun k e1 h => (qyX9_errorPosition l k e1 h).1⟩
def qsX9_errorPosition : SP := fun as F A K => match as with
  | [.inr (.inr o)] => cond (Nat.beq o 25) ((fgOK (mF A)) ∧ (∀ (G_1 : FF) (B_1 : AA), (qdP F G_1 A B_1 ∧ G_1 25 0 = 0) → (K (some (some (vI (F 25 28)))) G_1 B_1))) (False)
  | _ => False
def qeX9_errorPosition : CE := (yX9_errorPosition, cX9_errorPosition, 1, (some .int), 0, some 9, 0, [], 0, 3, qsX9_errorPosition)
theorem qbX9_errorPosition : am_mb qeX9_errorPosition := ⟨am_tb_at 1618 (by decide +kernel) rfl, am_tb_at 124 (by decide +kernel) rfl, ⟨by decide, by decide, by decide +kernel⟩, by decide, by decide, am_tb_at 1616 (by decide +kernel) rfl, am_tb_at 1617 (by decide +kernel) rfl, _, _, rfl⟩
set_option maxRecDepth 20000 in
theorem qvX9_errorPosition_25  (F : FF) (A : AA) (K : KK) (h : (fgOK (mF A)) ∧ (∀ (G_1 : FF) (B_1 : AA), (qdP F G_1 A B_1 ∧ G_1 25 0 = 0) → (K (some (some (vI (F 25 28)))) G_1 B_1))) : am_line qxX9_errorPosition 7 [vR 25] 1 F A K := by
  show am_stp qxX9_errorPosition (am_run qxX9_errorPosition (fun _ => none) (fun _ _ _ _ _ _ => False) K 7) K 0 [some (vR 25)] [] F A 0
  obtain ⟨hp, h⟩ := h
  show K (some (some (vI (F 25 28)))) (upF F 25 0 0) A
  exact h _ _ ⟨qdP_F (by decide), upF_s⟩
theorem qtX9_errorPosition (l : Launch) : am_CT l layM qeX9_errorPosition := am_met0 rfl (by decide +kernel) rfl rfl rfl rfl rfl (fun _ => rfl) rfl (qzX9_errorPosition l) (fun k e1 h => (qyX9_errorPosition l k e1 h).2) (fun as F A K h => by
  replace h : qsX9_errorPosition as F A K := h
  unfold qsX9_errorPosition at h
  split at h
  · rename_i o
    refine ⟨by first | exact Nat.le_of_ble_eq_true rfl | simp [am_fl, am_cat], ?_⟩
    replace h := am_cond2 h
    rcases h with ⟨hb, h⟩ | h
    · skip
      have hb0 := hb
      have hb0 := am_bq hb0
      subst hb0
      exact am_way_line (qvX9_errorPosition_25  F A K h)
    exact h.elim
  · exact h.elim)
def qkX9_undoCount : Nat → Option CI := fun pc => cond (Nat.ble 10 pc) none (cond (Nat.ble 5 pc) (cond (Nat.beq pc 5) (some (.aload_n 0, 6, [])) (cond (Nat.beq pc 6) (some (.getfield 295, 9, [])) (cond (Nat.beq pc 9) (some (.ireturn, 10, [])) (none)))) (cond (Nat.beq pc 0) (some (.aload_n 0, 1, [])) (cond (Nat.beq pc 1) (some (.iconst 0, 2, [])) (cond (Nat.beq pc 2) (some (.putfield 70, 5, [])) (none)))))
theorem qkX9_undoCount_ok : ∀ pc i nx ts, qkX9_undoCount pc = some (i, nx, ts) → am_cok cX9_undoCount pc (i, nx, ts) = true := fun pc i nx ts h => am_tok_ok (n := 10) (by decide +kernel) (fun pc h => by show cond (Nat.ble 10 pc) _ _ = _; rw [Nat.ble_eq_true_of_le h]; rfl) h
def qaX9_undoCount : Nat → Option CE := fun k => none
theorem qyX9_undoCount (l : Launch) : ∀ k e1, qaX9_undoCount k = some e1 → am_cal l layM RX9 3 k e1 ∧ ceT e1 = 0 := q_nil
def qxX9_undoCount : CX := (qkX9_undoCount, layM, qfX9, qaX9_undoCount, qcX9, qlX9, qmX9, (some .int), false, none, 0, none, fun _ => none)
theorem qzX9_undoCount (l : Launch) : am_sta l qxX9_undoCount RX9 3 cX9_undoCount := ⟨qkX9_undoCount_ok, layM_ok, qfX9_ok, qcX9_ok, qlX9_ok, am_mthP qmX9_ok (by decide), fun k e1 h => (qyX9_undoCount l k e1 h).1⟩
def qsX9_undoCount : SP := fun as F A K => match as with
  | [.inr (.inr o)] => cond (Nat.beq o 25) ((fgOK (mF A)) ∧ (∀ (G_1 : FF) (B_1 : AA), (qdP F G_1 A B_1 ∧ G_1 25 0 = 0) → (K (some (some (vI (F 25 8)))) G_1 B_1))) (False)
  | _ => False
def qeX9_undoCount : CE := (yX9_undoCount, cX9_undoCount, 1, (some .int), 0, some 9, 0, [], 0, 3, qsX9_undoCount)
theorem qbX9_undoCount : am_mb qeX9_undoCount := ⟨am_tb_at 1630 (by decide +kernel) rfl, am_tb_at 124 (by decide +kernel) rfl, ⟨by decide, by decide, by decide +kernel⟩, by decide, by decide, am_tb_at 1628 (by decide +kernel) rfl, am_tb_at 1629 (by decide +kernel) rfl, _, _, rfl⟩
set_option maxRecDepth 20000 in
theorem qvX9_undoCount_25  (F : FF) (A : AA) (K : KK) (h : (fgOK (mF A)) ∧ (∀ (G_1 : FF) (B_1 : AA), (qdP F G_1 A B_1 ∧ G_1 25 0 = 0) → (K (some (some (vI (F 25 8)))) G_1 B_1))) : am_line qxX9_undoCount 7 [vR 25] 1 F A K := by
  show am_stp qxX9_undoCount (am_run qxX9_undoCount (fun _ => none) (fun _ _ _ _ _ _ => False) K 7) K 0 [some (vR 25)] [] F A 0
  obtain ⟨hp, h⟩ := h
  show K (some (some (vI (F 25 8)))) (upF F 25 0 0) A
  exact h _ _ ⟨qdP_F (by decide), upF_s⟩
theorem qtX9_undoCount (l : Launch) : am_CT l layM qeX9_undoCount := am_met0 rfl (by decide +kernel) rfl rfl rfl rfl rfl (fun _ => rfl) rfl (qzX9_undoCount l) (fun k e1 h => (qyX9_undoCount l k e1 h).2) (fun as F A K h => by
  replace h : qsX9_undoCount as F A K := h
  unfold qsX9_undoCount at h
  split at h
  · rename_i o
    refine ⟨by first | exact Nat.le_of_ble_eq_true rfl | simp [am_fl, am_cat], ?_⟩
    replace h := am_cond2 h
    rcases h with ⟨hb, h⟩ | h
    · skip
      have hb0 := hb
      have hb0 := am_bq hb0
      subst hb0
      exact am_way_line (qvX9_undoCount_25  F A K h)
    exact h.elim
  · exact h.elim)
def qkX9_curveCount : Nat → Option CI := fun pc => cond (Nat.ble 13 pc) none (cond (Nat.ble 6 pc) (cond (Nat.ble 11 pc) (cond (Nat.beq pc 11) (some (.iaload, 12, [])) (cond (Nat.beq pc 12) (some (.ireturn, 13, [])) (none))) (cond (Nat.beq pc 6) (some (.getfield 13, 9, [])) (cond (Nat.beq pc 9) (some (.bipush 14, 11, [])) (none)))) (cond (Nat.ble 2 pc) (cond (Nat.beq pc 2) (some (.putfield 70, 5, [])) (cond (Nat.beq pc 5) (some (.aload_n 0, 6, [])) (none))) (cond (Nat.beq pc 0) (some (.aload_n 0, 1, [])) (cond (Nat.beq pc 1) (some (.iconst 0, 2, [])) (none)))))
theorem qkX9_curveCount_ok : ∀ pc i nx ts, qkX9_curveCount pc = some (i, nx, ts) → am_cok cX9_curveCount pc (i, nx, ts) = true := fun pc i nx ts h => am_tok_ok (n := 13) (by decide +kernel) (fun pc h => by show cond (Nat.ble 13 pc) _ _ = _; rw [Nat.ble_eq_true_of_le h]; rfl) h
def qaX9_curveCount : Nat → Option CE := fun k => none
theorem qyX9_curveCount (l : Launch) : ∀ k e1, qaX9_curveCount k = some e1 → am_cal l layM RX9 3 k e1 ∧ ceT e1 = 0 := q_nil
def qxX9_curveCount : CX := (qkX9_curveCount, layM, qfX9, qaX9_curveCount, qcX9, qlX9, qmX9, (some .int), false, none, 0, none, fun _ => none)
theorem qzX9_curveCount (l : Launch) : am_sta l qxX9_curveCount RX9 3 cX9_curveCount := ⟨qkX9_curveCount_ok, layM_ok, qfX9_ok, qcX9_ok, qlX9_ok, am_mthP qmX9_ok (by decide), fun k e1 h => (qyX9_curveCount l k e1 h).1⟩
def qsX9_curveCount : SP := fun as F A K => match as with
  | [.inr (.inr o)] => cond (Nat.beq o 25) ((fgOK (mF A)) ∧ (∀ (G_1 : FF) (B_1 : AA), (qdP F G_1 A B_1 ∧ G_1 25 0 = 0) → (K (some (some (vI (mF A 0)))) G_1 B_1))) (False)
  | _ => False
def qeX9_curveCount : CE := (yX9_curveCount, cX9_curveCount, 1, (some .int), 0, some 9, 0, [], 0, 3, qsX9_curveCount)
theorem qbX9_curveCount : am_mb qeX9_curveCount := ⟨am_tb_at 1622 (by decide +kernel) rfl, am_tb_at 124 (by decide +kernel) rfl, ⟨by decide, by decide, by decide +kernel⟩, by decide, by decide, am_tb_at 1620 (by decide +kernel) rfl, am_tb_at 1621 (by decide +kernel) rfl, _, _, rfl⟩
set_option maxRecDepth 20000 in
theorem qvX9_curveCount_25  (F : FF) (A : AA) (K : KK) (h : (fgOK (mF A)) ∧ (∀ (G_1 : FF) (B_1 : AA), (qdP F G_1 A B_1 ∧ G_1 25 0 = 0) → (K (some (some (vI (mF A 0)))) G_1 B_1))) : am_line qxX9_curveCount 9 [vR 25] 1 F A K := by
  show am_stp qxX9_curveCount (am_run qxX9_curveCount (fun _ => none) (fun _ _ _ _ _ _ => False) K 9) K 0 [some (vR 25)] [] F A 0
  obtain ⟨hp, h⟩ := h
  show (0 ≤ w32 14 ∧ w32 14 < 16) ∧ (K (some (some (vI (A 27 (w32 14))))) (upF F 25 0 0) A)
  refine ⟨by first | decide | omega, ?_⟩
  exact h _ _ ⟨qdP_F (by decide), upF_s⟩
theorem qtX9_curveCount (l : Launch) : am_CT l layM qeX9_curveCount := am_met0 rfl (by decide +kernel) rfl rfl rfl rfl rfl (fun _ => rfl) rfl (qzX9_curveCount l) (fun k e1 h => (qyX9_curveCount l k e1 h).2) (fun as F A K h => by
  replace h : qsX9_curveCount as F A K := h
  unfold qsX9_curveCount at h
  split at h
  · rename_i o
    refine ⟨by first | exact Nat.le_of_ble_eq_true rfl | simp [am_fl, am_cat], ?_⟩
    replace h := am_cond2 h
    rcases h with ⟨hb, h⟩ | h
    · skip
      have hb0 := hb
      have hb0 := am_bq hb0
      subst hb0
      exact am_way_line (qvX9_curveCount_25  F A K h)
    exact h.elim
  · exact h.elim)
def qkX9_lineCount : Nat → Option CI := fun pc => cond (Nat.ble 13 pc) none (cond (Nat.ble 6 pc) (cond (Nat.ble 11 pc) (cond (Nat.beq pc 11) (some (.iaload, 12, [])) (cond (Nat.beq pc 12) (some (.ireturn, 13, [])) (none))) (cond (Nat.beq pc 6) (some (.getfield 13, 9, [])) (cond (Nat.beq pc 9) (some (.bipush 15, 11, [])) (none)))) (cond (Nat.ble 2 pc) (cond (Nat.beq pc 2) (some (.putfield 70, 5, [])) (cond (Nat.beq pc 5) (some (.aload_n 0, 6, [])) (none))) (cond (Nat.beq pc 0) (some (.aload_n 0, 1, [])) (cond (Nat.beq pc 1) (some (.iconst 0, 2, [])) (none)))))
theorem qkX9_lineCount_ok : ∀ pc i nx ts, qkX9_lineCount pc = some (i, nx, ts) → am_cok cX9_lineCount pc (i, nx, ts) = true := fun pc i nx ts h => am_tok_ok (n := 13) (by decide +kernel) (fun pc h => by show cond (Nat.ble 13 pc) _ _ = _; rw [Nat.ble_eq_true_of_le h]; rfl) h
def qaX9_lineCount : Nat → Option CE := fun k => none
theorem qyX9_lineCount (l : Launch) : ∀ k e1, qaX9_lineCount k = some e1 → am_cal l layM RX9 3 k e1 ∧ ceT e1 = 0 := q_nil
def qxX9_lineCount : CX := (qkX9_lineCount, layM, qfX9, qaX9_lineCount, qcX9, qlX9, qmX9, (some .int), false, none, 0, none, fun _ => none)
theorem qzX9_lineCount (l : Launch) : am_sta l qxX9_lineCount RX9 3 cX9_lineCount := ⟨qkX9_lineCount_ok, layM_ok, qfX9_ok, qcX9_ok, qlX9_ok, am_mthP qmX9_ok (by decide), fun k e1 h => (qyX9_lineCount l k e1 h).1⟩
def qsX9_lineCount : SP := fun as F A K => match as with
  | [.inr (.inr o)] => cond (Nat.beq o 25) ((fgOK (mF A)) ∧ (∀ (G_1 : FF) (B_1 : AA), (qdP F G_1 A B_1 ∧ G_1 25 0 = 0) → (K (some (some (vI (mF A 1)))) G_1 B_1))) (False)
  | _ => False
def qeX9_lineCount : CE := (yX9_lineCount, cX9_lineCount, 1, (some .int), 0, some 9, 0, [], 0, 3, qsX9_lineCount)
theorem qbX9_lineCount : am_mb qeX9_lineCount := ⟨am_tb_at 1626 (by decide +kernel) rfl, am_tb_at 124 (by decide +kernel) rfl, ⟨by decide, by decide, by decide +kernel⟩, by decide, by decide, am_tb_at 1624 (by decide +kernel) rfl, am_tb_at 1625 (by decide +kernel) rfl, _, _, rfl⟩
set_option maxRecDepth 20000 in
theorem qvX9_lineCount_25  (F : FF) (A : AA) (K : KK) (h : (fgOK (mF A)) ∧ (∀ (G_1 : FF) (B_1 : AA), (qdP F G_1 A B_1 ∧ G_1 25 0 = 0) → (K (some (some (vI (mF A 1)))) G_1 B_1))) : am_line qxX9_lineCount 9 [vR 25] 1 F A K := by
  show am_stp qxX9_lineCount (am_run qxX9_lineCount (fun _ => none) (fun _ _ _ _ _ _ => False) K 9) K 0 [some (vR 25)] [] F A 0
  obtain ⟨hp, h⟩ := h
  show (0 ≤ w32 15 ∧ w32 15 < 16) ∧ (K (some (some (vI (A 27 (w32 15))))) (upF F 25 0 0) A)
  refine ⟨by first | decide | omega, ?_⟩
  exact h _ _ ⟨qdP_F (by decide), upF_s⟩
theorem qtX9_lineCount (l : Launch) : am_CT l layM qeX9_lineCount := am_met0 rfl (by decide +kernel) rfl rfl rfl rfl rfl (fun _ => rfl) rfl (qzX9_lineCount l) (fun k e1 h => (qyX9_lineCount l k e1 h).2) (fun as F A K h => by
  replace h : qsX9_lineCount as F A K := h
  unfold qsX9_lineCount at h
  split at h
  · rename_i o
    refine ⟨by first | exact Nat.le_of_ble_eq_true rfl | simp [am_fl, am_cat], ?_⟩
    replace h := am_cond2 h
    rcases h with ⟨hb, h⟩ | h
    · skip
      have hb0 := hb
      have hb0 := am_bq hb0
      subst hb0
      exact am_way_line (qvX9_lineCount_25  F A K h)
    exact h.elim
  · exact h.elim)
def qkX9_curveNamed : Nat → Option CI := fun pc => cond (Nat.ble 19 pc) none (cond (Nat.ble 8 pc) (cond (Nat.ble 14 pc) (cond (Nat.beq pc 14) (some (.iload_n 1, 15, [])) (cond (Nat.beq pc 15) (some (.invokevirtual 254, 18, [])) (cond (Nat.beq pc 18) (some (.ireturn, 19, [])) (none)))) (cond (Nat.beq pc 8) (some (.getfield 13, 11, [])) (cond (Nat.beq pc 11) (some (.bipush 14, 13, [])) (cond (Nat.beq pc 13) (some (.iaload, 14, [])) (none))))) (cond (Nat.ble 5 pc) (cond (Nat.beq pc 5) (some (.aload_n 0, 6, [])) (cond (Nat.beq pc 6) (some (.iconst 0, 7, [])) (cond (Nat.beq pc 7) (some (.aload_n 0, 8, [])) (none)))) (cond (Nat.beq pc 0) (some (.aload_n 0, 1, [])) (cond (Nat.beq pc 1) (some (.iconst 0, 2, [])) (cond (Nat.beq pc 2) (some (.putfield 70, 5, [])) (none))))))
theorem qkX9_curveNamed_ok : ∀ pc i nx ts, qkX9_curveNamed pc = some (i, nx, ts) → am_cok cX9_curveNamed pc (i, nx, ts) = true := fun pc i nx ts h => am_tok_ok (n := 19) (by decide +kernel) (fun pc h => by show cond (Nat.ble 19 pc) _ _ = _; rw [Nat.ble_eq_true_of_le h]; rfl) h
def qaX9_curveNamed : Nat → Option CE := fun k => cond (Nat.beq k 254) (some qeX9_found) (none)
theorem qyX9_curveNamed (l : Launch) : ∀ k e1, qaX9_curveNamed k = some e1 → am_cal l layM RX9 4 k e1 ∧ ceT e1 = 0 := q_cons ⟨am_calV (ci := 9) (qtX9_found l) qbX9_found (by decide) rfl (am_tb_at 1584 (by decide +kernel) rfl), rfl⟩ (q_nil)
def qxX9_curveNamed : CX := (qkX9_curveNamed, layM, qfX9, qaX9_curveNamed, qcX9, qlX9, qmX9, (some .int), false, none, 0, none, fun _ => none)
theorem qzX9_curveNamed (l : Launch) : am_sta l qxX9_curveNamed RX9 4 cX9_curveNamed := ⟨qkX9_curveNamed_ok, layM_ok, qfX9_ok, qcX9_ok, qlX9_ok, am_mthP qmX9_ok (by decide), fun k e1 h => (qyX9_curveNamed l k e1 h).1⟩
def qsX9_curveNamed : SP := fun as F A K => match as with
  | [.inr (.inr o), .inl v] => cond (Nat.beq o 25) ((fgOK (mF A)) ∧ (∀ (G_1 : FF) (B_1 : AA), (qdP F G_1 A B_1 ∧ G_1 25 0 = 0) → (K (some (some (vI (firstk (fun jj => decide (w32 (fat (mF A) (4 + jj)) = w32 v)) (Int.toNat (mF A 0)))))) G_1 B_1))) (False)
  | _ => False
def qeX9_curveNamed : CE := (yX9_curveNamed, cX9_curveNamed, 2, (some .int), 1, some 9, 0, [], 0, 4, qsX9_curveNamed)
theorem qbX9_curveNamed : am_mb qeX9_curveNamed := ⟨am_tb_at 1634 (by decide +kernel) rfl, am_tb_at 124 (by decide +kernel) rfl, ⟨by decide, by decide, by decide +kernel⟩, by decide, by decide, am_tb_at 1632 (by decide +kernel) rfl, am_tb_at 1633 (by decide +kernel) rfl, _, _, rfl⟩
set_option maxRecDepth 20000 in
theorem qvX9_curveNamed_25 (v : Int) (F : FF) (A : AA) (K : KK) (h : (fgOK (mF A)) ∧ (∀ (G_1 : FF) (B_1 : AA), (qdP F G_1 A B_1 ∧ G_1 25 0 = 0) → (K (some (some (vI (firstk (fun jj => decide (w32 (fat (mF A) (4 + jj)) = w32 v)) (Int.toNat (mF A 0)))))) G_1 B_1))) : am_line qxX9_curveNamed 13 [vR 25, vI v] 2 F A K := by
  show am_stp qxX9_curveNamed (am_run qxX9_curveNamed (fun _ => none) (fun _ _ _ _ _ _ => False) K 13) K 0 [some (vR 25), some (vI v)] [] F A 0
  obtain ⟨hp, h⟩ := h
  have q1 := hp.1.1
  have q2 := hp.1.2
  have m0 : A 27 (w32 14) = mF A 0 := rfl
  show (0 ≤ w32 14 ∧ w32 14 < 16) ∧ (((0 ≤ 0 ∧ 0 ≤ 8) ∧ (0 ≤ (A 27 (w32 14)) ∧ (A 27 (w32 14)) ≤ 8)) ∧ (K (some (some (vI (firstk (fun jj => decide (w32 (A 27 (0 + jj)) = w32 v)) (Int.toNat (A 27 (w32 14))))))) (upF F 25 0 0) A))
  refine ⟨by first | decide | (rw [m0]; omega), ?_⟩
  refine ⟨by first | decide | (rw [m0]; omega), ?_⟩
  exact K_eq (h _ _ ⟨qdP_F (by decide), upF_s⟩) (fnd_C q1.2 q1.1).symm
theorem qtX9_curveNamed (l : Launch) : am_CT l layM qeX9_curveNamed := am_met0 rfl (by decide +kernel) rfl rfl rfl rfl rfl (fun _ => rfl) rfl (qzX9_curveNamed l) (fun k e1 h => (qyX9_curveNamed l k e1 h).2) (fun as F A K h => by
  replace h : qsX9_curveNamed as F A K := h
  unfold qsX9_curveNamed at h
  split at h
  · rename_i o v
    refine ⟨by first | exact Nat.le_of_ble_eq_true rfl | simp [am_fl, am_cat], ?_⟩
    replace h := am_cond2 h
    rcases h with ⟨hb, h⟩ | h
    · skip
      have hb0 := hb
      have hb0 := am_bq hb0
      subst hb0
      exact am_way_line (qvX9_curveNamed_25 v F A K h)
    exact h.elim
  · exact h.elim)
def qkX9_lineNamed : Nat → Option CI := fun pc => cond (Nat.ble 20 pc) none (cond (Nat.ble 9 pc) (cond (Nat.ble 15 pc) (cond (Nat.beq pc 15) (some (.iload_n 1, 16, [])) (cond (Nat.beq pc 16) (some (.invokevirtual 254, 19, [])) (cond (Nat.beq pc 19) (some (.ireturn, 20, [])) (none)))) (cond (Nat.beq pc 9) (some (.getfield 13, 12, [])) (cond (Nat.beq pc 12) (some (.bipush 15, 14, [])) (cond (Nat.beq pc 14) (some (.iaload, 15, [])) (none))))) (cond (Nat.ble 5 pc) (cond (Nat.beq pc 5) (some (.aload_n 0, 6, [])) (cond (Nat.beq pc 6) (some (.bipush 8, 8, [])) (cond (Nat.beq pc 8) (some (.aload_n 0, 9, [])) (none)))) (cond (Nat.beq pc 0) (some (.aload_n 0, 1, [])) (cond (Nat.beq pc 1) (some (.iconst 0, 2, [])) (cond (Nat.beq pc 2) (some (.putfield 70, 5, [])) (none))))))
theorem qkX9_lineNamed_ok : ∀ pc i nx ts, qkX9_lineNamed pc = some (i, nx, ts) → am_cok cX9_lineNamed pc (i, nx, ts) = true := fun pc i nx ts h => am_tok_ok (n := 20) (by decide +kernel) (fun pc h => by show cond (Nat.ble 20 pc) _ _ = _; rw [Nat.ble_eq_true_of_le h]; rfl) h
def qaX9_lineNamed : Nat → Option CE := fun k => cond (Nat.beq k 254) (some qeX9_found) (none)
theorem qyX9_lineNamed (l : Launch) : ∀ k e1, qaX9_lineNamed k = some e1 → am_cal l layM RX9 4 k e1 ∧ ceT e1 = 0 := q_cons ⟨am_calV (ci := 9) (qtX9_found l) qbX9_found (by decide) rfl (am_tb_at 1584 (by decide +kernel) rfl), rfl⟩ (q_nil)
def qxX9_lineNamed : CX := (qkX9_lineNamed, layM, qfX9, qaX9_lineNamed, qcX9, qlX9, qmX9, (some .int), false, none, 0, none, fun _ => none)
theorem qzX9_lineNamed (l : Launch) : am_sta l qxX9_lineNamed RX9 4 cX9_lineNamed := ⟨qkX9_lineNamed_ok, layM_ok, qfX9_ok, qcX9_ok, qlX9_ok, am_mthP qmX9_ok (by decide), fun k e1 h => (qyX9_lineNamed l k e1 h).1⟩
def qsX9_lineNamed : SP := fun as F A K => match as with
  | [.inr (.inr o), .inl v] => cond (Nat.beq o 25) ((fgOK (mF A)) ∧ (∀ (G_1 : FF) (B_1 : AA), (qdP F G_1 A B_1 ∧ G_1 25 0 = 0) → (K (some (some (vI (firstk (fun jj => decide (w32 (fat (mF A) (12 + jj)) = w32 v)) (Int.toNat (mF A 1)))))) G_1 B_1))) (False)
  | _ => False
def qeX9_lineNamed : CE := (yX9_lineNamed, cX9_lineNamed, 2, (some .int), 1, some 9, 0, [], 0, 4, qsX9_lineNamed)
theorem qbX9_lineNamed : am_mb qeX9_lineNamed := ⟨am_tb_at 1638 (by decide +kernel) rfl, am_tb_at 124 (by decide +kernel) rfl, ⟨by decide, by decide, by decide +kernel⟩, by decide, by decide, am_tb_at 1636 (by decide +kernel) rfl, am_tb_at 1637 (by decide +kernel) rfl, _, _, rfl⟩
set_option maxRecDepth 20000 in
theorem qvX9_lineNamed_25 (v : Int) (F : FF) (A : AA) (K : KK) (h : (fgOK (mF A)) ∧ (∀ (G_1 : FF) (B_1 : AA), (qdP F G_1 A B_1 ∧ G_1 25 0 = 0) → (K (some (some (vI (firstk (fun jj => decide (w32 (fat (mF A) (12 + jj)) = w32 v)) (Int.toNat (mF A 1)))))) G_1 B_1))) : am_line qxX9_lineNamed 13 [vR 25, vI v] 2 F A K := by
  show am_stp qxX9_lineNamed (am_run qxX9_lineNamed (fun _ => none) (fun _ _ _ _ _ _ => False) K 13) K 0 [some (vR 25), some (vI v)] [] F A 0
  obtain ⟨hp, h⟩ := h
  have q1 := hp.1.1
  have q2 := hp.1.2
  have m0 : A 27 (w32 15) = mF A 1 := rfl
  show (0 ≤ w32 15 ∧ w32 15 < 16) ∧ (((0 ≤ 8 ∧ 8 ≤ 8) ∧ (0 ≤ (A 27 (w32 15)) ∧ (A 27 (w32 15)) ≤ 8)) ∧ (K (some (some (vI (firstk (fun jj => decide (w32 (A 27 (8 + jj)) = w32 v)) (Int.toNat (A 27 (w32 15))))))) (upF F 25 0 0) A))
  refine ⟨by first | decide | (rw [m0]; omega), ?_⟩
  refine ⟨by first | decide | (rw [m0]; omega), ?_⟩
  exact K_eq (h _ _ ⟨qdP_F (by decide), upF_s⟩) (fnd_L q2.2 q2.1).symm
theorem qtX9_lineNamed (l : Launch) : am_CT l layM qeX9_lineNamed := am_met0 rfl (by decide +kernel) rfl rfl rfl rfl rfl (fun _ => rfl) rfl (qzX9_lineNamed l) (fun k e1 h => (qyX9_lineNamed l k e1 h).2) (fun as F A K h => by
  replace h : qsX9_lineNamed as F A K := h
  unfold qsX9_lineNamed at h
  split at h
  · rename_i o v
    refine ⟨by first | exact Nat.le_of_ble_eq_true rfl | simp [am_fl, am_cat], ?_⟩
    replace h := am_cond2 h
    rcases h with ⟨hb, h⟩ | h
    · skip
      have hb0 := hb
      have hb0 := am_bq hb0
      subst hb0
      exact am_way_line (qvX9_lineNamed_25 v F A K h)
    exact h.elim
  · exact h.elim)
def qkX9_getSetting : Nat → Option CI := fun pc => cond (Nat.ble 25 pc) none (cond (Nat.ble 11 pc) (cond (Nat.ble 16 pc) (cond (Nat.ble 22 pc) (cond (Nat.beq pc 22) (some (.bipush (-2), 24, [])) (cond (Nat.beq pc 24) (some (.ireturn, 25, [])) (none))) (cond (Nat.beq pc 16) (some (.invokevirtual 114, 19, [])) (cond (Nat.beq pc 19) (some (.goto 5, 22, [24])) (none)))) (cond (Nat.beq pc 11) (some (.if_icmp .ne 11, 14, [22])) (cond (Nat.beq pc 14) (some (.aload_n 0, 15, [])) (cond (Nat.beq pc 15) (some (.iload_n 1, 16, [])) (none))))) (cond (Nat.ble 5 pc) (cond (Nat.ble 9 pc) (cond (Nat.beq pc 9) (some (.iload_n 1, 10, [])) (cond (Nat.beq pc 10) (some (.iconst 1, 11, [])) (none))) (cond (Nat.beq pc 5) (some (.iload_n 1, 6, [])) (cond (Nat.beq pc 6) (some (.ifCond .eq 8, 9, [14])) (none)))) (cond (Nat.beq pc 0) (some (.aload_n 0, 1, [])) (cond (Nat.beq pc 1) (some (.iconst 0, 2, [])) (cond (Nat.beq pc 2) (some (.putfield 70, 5, [])) (none))))))
theorem qkX9_getSetting_ok : ∀ pc i nx ts, qkX9_getSetting pc = some (i, nx, ts) → am_cok cX9_getSetting pc (i, nx, ts) = true := fun pc i nx ts h => am_tok_ok (n := 25) (by decide +kernel) (fun pc h => by show cond (Nat.ble 25 pc) _ _ = _; rw [Nat.ble_eq_true_of_le h]; rfl) h
def qaX9_getSetting : Nat → Option CE := fun k => cond (Nat.beq k 114) (some qeX9_set) (none)
theorem qyX9_getSetting (l : Launch) : ∀ k e1, qaX9_getSetting k = some e1 → am_cal l layM RX9 4 k e1 ∧ ceT e1 = 0 := q_cons ⟨am_calV (ci := 9) (qtX9_set l) qbX9_set (by decide) rfl (am_tb_at 1643 (by decide +kernel) rfl), rfl⟩ (q_nil)
def qxX9_getSetting : CX := (qkX9_getSetting, layM, qfX9, qaX9_getSetting, qcX9, qlX9, qmX9, (some .int), false, none, 0, none, fun _ => none)
theorem qzX9_getSetting (l : Launch) : am_sta l qxX9_getSetting RX9 4 cX9_getSetting := ⟨qkX9_getSetting_ok, layM_ok, qfX9_ok, qcX9_ok, qlX9_ok, am_mthP qmX9_ok (by decide), fun k e1 h => (qyX9_getSetting l k e1 h).1⟩
def qsX9_getSetting : SP := fun as F A K => match as with
  | [.inr (.inr o), .inl s] => cond (Nat.beq o 25) ((fgOK (mF A) ∧ (-2147483648 ≤ s ∧ s < 2147483648)) ∧ (∀ (G_1 : FF) (B_1 : AA), (qdP F G_1 A B_1 ∧ G_1 25 0 = 0) → (K (some (some (vI (if s = 0 ∨ s = 1 then mF A (2 + s) else -2)))) G_1 B_1))) (False)
  | _ => False
def qeX9_getSetting : CE := (yX9_getSetting, cX9_getSetting, 2, (some .int), 1, some 9, 0, [], 0, 4, qsX9_getSetting)
theorem qbX9_getSetting : am_mb qeX9_getSetting := ⟨am_tb_at 1642 (by decide +kernel) rfl, am_tb_at 124 (by decide +kernel) rfl, ⟨by decide, by decide, by decide +kernel⟩, by decide, by decide, am_tb_at 1640 (by decide +kernel) rfl, am_tb_at 1641 (by decide +kernel) rfl, _, _, rfl⟩
set_option maxRecDepth 20000 in
theorem qvX9_getSetting_25 (s : Int) (F : FF) (A : AA) (K : KK) (h : (fgOK (mF A) ∧ (-2147483648 ≤ s ∧ s < 2147483648)) ∧ (∀ (G_1 : FF) (B_1 : AA), (qdP F G_1 A B_1 ∧ G_1 25 0 = 0) → (K (some (some (vI (if s = 0 ∨ s = 1 then mF A (2 + s) else -2)))) G_1 B_1))) : am_line qxX9_getSetting 14 [vR 25, vI s] 2 F A K := by
  show am_stp qxX9_getSetting (am_run qxX9_getSetting (fun _ => none) (fun _ _ _ _ _ _ => False) K 14) K 0 [some (vR 25), some (vI s)] [] F A 0
  obtain ⟨hp, h⟩ := h
  show (w32 s = w32 0 → ((0 ≤ s ∧ s ≤ 1) ∧ (K (some (some (vI (mF A (2 + s))))) (upF F 25 0 0) A))) ∧ (¬ w32 s = w32 0 → ((w32 s = w32 1 → ((0 ≤ s ∧ s ≤ 1) ∧ (K (some (some (vI (mF A (2 + s))))) (upF F 25 0 0) A))) ∧ (¬ w32 s = w32 1 → (K (some (some (vI (-2)))) (upF F 25 0 0) A))))
  refine ⟨fun c1 => ?_, fun c1 => ?_⟩
  · skip
    (try simp (disch := omega) only [fat_in, w32_0, wbi0, Classical.not_not, w32_id] at c1)
    refine ⟨by first | decide | omega, ?_⟩
    first
    | exact K_eq (h _ _ ⟨qdP_F (by decide), upF_s⟩) (if_pos (by omega))
    | exact K_eq (h _ _ ⟨qdP_F (by decide), upF_s⟩) (if_neg (by omega))
  · skip
    (try simp (disch := omega) only [fat_in, w32_0, wbi0, Classical.not_not, w32_id] at c1)
    refine ⟨fun c2 => ?_, fun c2 => ?_⟩
    · skip
      (try simp (disch := omega) only [fat_in, w32_0, wbi0, Classical.not_not, w32_id] at c2)
      refine ⟨by first | decide | omega, ?_⟩
      first
      | exact K_eq (h _ _ ⟨qdP_F (by decide), upF_s⟩) (if_pos (by omega))
      | exact K_eq (h _ _ ⟨qdP_F (by decide), upF_s⟩) (if_neg (by omega))
    · skip
      (try simp (disch := omega) only [fat_in, w32_0, wbi0, Classical.not_not, w32_id] at c2)
      first
      | exact K_eq (h _ _ ⟨qdP_F (by decide), upF_s⟩) (if_pos (by omega))
      | exact K_eq (h _ _ ⟨qdP_F (by decide), upF_s⟩) (if_neg (by omega))
theorem qtX9_getSetting (l : Launch) : am_CT l layM qeX9_getSetting := am_met0 rfl (by decide +kernel) rfl rfl rfl rfl rfl (fun _ => rfl) rfl (qzX9_getSetting l) (fun k e1 h => (qyX9_getSetting l k e1 h).2) (fun as F A K h => by
  replace h : qsX9_getSetting as F A K := h
  unfold qsX9_getSetting at h
  split at h
  · rename_i o s
    refine ⟨by first | exact Nat.le_of_ble_eq_true rfl | simp [am_fl, am_cat], ?_⟩
    replace h := am_cond2 h
    rcases h with ⟨hb, h⟩ | h
    · skip
      have hb0 := hb
      have hb0 := am_bq hb0
      subst hb0
      exact am_way_line (qvX9_getSetting_25 s F A K h)
    exact h.elim
  · exact h.elim)
