def qkX6_pairAt : Nat → Option CI := fun pc => cond (Nat.ble 62 pc) none (cond (Nat.ble 32 pc) (cond (Nat.ble 46 pc) (cond (Nat.ble 51 pc) (cond (Nat.ble 57 pc) (cond (Nat.beq pc 57) (some (.goto (-53), 60, [4])) (cond (Nat.beq pc 60) (some (.iconst (-1), 61, [])) (cond (Nat.beq pc 61) (some (.ireturn, 62, [])) (none)))) (cond (Nat.beq pc 51) (some (.iinc 2 1, 54, [])) (cond (Nat.beq pc 54) (some (.iinc 3 1, 57, [])) (none)))) (cond (Nat.ble 48 pc) (cond (Nat.beq pc 48) (some (.iand, 49, [])) (cond (Nat.beq pc 49) (some (.iadd, 50, [])) (cond (Nat.beq pc 50) (some (.ireturn, 51, [])) (none)))) (cond (Nat.beq pc 46) (some (.iconst 1, 47, [])) (cond (Nat.beq pc 47) (some (.isub, 48, [])) (none))))) (cond (Nat.ble 39 pc) (cond (Nat.ble 41 pc) (cond (Nat.beq pc 41) (some (.iload_n 3, 42, [])) (cond (Nat.beq pc 42) (some (.aload_n 0, 43, [])) (cond (Nat.beq pc 43) (some (.getfield 26, 46, [])) (none)))) (cond (Nat.beq pc 39) (some (.ishr, 40, [])) (cond (Nat.beq pc 40) (some (.imul, 41, [])) (none)))) (cond (Nat.ble 35 pc) (cond (Nat.beq pc 35) (some (.aload_n 0, 36, [])) (cond (Nat.beq pc 36) (some (.getfield 22, 39, [])) (none))) (cond (Nat.beq pc 32) (some (.bipush 100, 34, [])) (cond (Nat.beq pc 34) (some (.iload_n 3, 35, [])) (none)))))) (cond (Nat.ble 13 pc) (cond (Nat.ble 22 pc) (cond (Nat.ble 27 pc) (cond (Nat.beq pc 27) (some (.iload_n 2, 28, [])) (cond (Nat.beq pc 28) (some (.iload_n 1, 29, [])) (cond (Nat.beq pc 29) (some (.if_icmp .ne 22, 32, [51])) (none)))) (cond (Nat.beq pc 22) (some (.bipush (-2), 24, [])) (cond (Nat.beq pc 24) (some (.if_icmp .eq 30, 27, [54])) (none)))) (cond (Nat.ble 17 pc) (cond (Nat.beq pc 17) (some (.aload_n 0, 18, [])) (cond (Nat.beq pc 18) (some (.iload_n 3, 19, [])) (cond (Nat.beq pc 19) (some (.invokevirtual 70, 22, [])) (none)))) (cond (Nat.beq pc 13) (some (.imul, 14, [])) (cond (Nat.beq pc 14) (some (.if_icmp .ge 46, 17, [60])) (none))))) (cond (Nat.ble 4 pc) (cond (Nat.ble 6 pc) (cond (Nat.beq pc 6) (some (.getfield 26, 9, [])) (cond (Nat.beq pc 9) (some (.aload_n 0, 10, [])) (cond (Nat.beq pc 10) (some (.getfield 26, 13, [])) (none)))) (cond (Nat.beq pc 4) (some (.iload_n 3, 5, [])) (cond (Nat.beq pc 5) (some (.aload_n 0, 6, [])) (none)))) (cond (Nat.ble 2 pc) (cond (Nat.beq pc 2) (some (.iconst 0, 3, [])) (cond (Nat.beq pc 3) (some (.istore_n 3, 4, [])) (none))) (cond (Nat.beq pc 0) (some (.iconst 0, 1, [])) (cond (Nat.beq pc 1) (some (.istore_n 2, 2, [])) (none)))))))
theorem qkX6_pairAt_ok : ∀ pc i nx ts, qkX6_pairAt pc = some (i, nx, ts) → am_cok cX6_pairAt pc (i, nx, ts) = true := fun pc i nx ts h => am_tok_ok (n := 62) (by decide +kernel) (fun pc h => by show cond (Nat.ble 62 pc) _ _ = _; rw [Nat.ble_eq_true_of_le h]; rfl) h
def qaX6_pairAt : Nat → Option CE := fun k => cond (Nat.beq k 70) (some qeX6_at) (none)
theorem qyX6_pairAt (l : Launch) : ∀ k e1, qaX6_pairAt k = some e1 → am_cal l layX RX6 4 k e1 ∧ ceT e1 = 0 := q_cons ⟨am_calV (ci := 6) (qtX6_at l) qbX6_at (by decide) rfl (am_tb_at 1274 (by decide +kernel) rfl), rfl⟩ (q_nil)
def qxX6_pairAt : CX := (qkX6_pairAt, layX, qfX6, qaX6_pairAt, qcX6, qlX6, qmX6, (some .int), false, none, 0, none, fun _ => none)
theorem qzX6_pairAt (l : Launch) : am_sta l qxX6_pairAt RX6 4 cX6_pairAt := ⟨qkX6_pairAt_ok, layX_ok, qfX6_ok, qcX6_ok, qlX6_ok, am_mthP qmX6_ok (by decide), fun k e1 h => (qyX6_pairAt l k e1 h).1⟩
def qsX6_pairAt : SP := fun as F A K => match as with
  | [.inr (.inr o), .inl k] => cond (Nat.beq o 19) (((0 ≤ (F 19 3) ∧ (F 19 3) ≤ 6) ∧ (F 19 4) = p2 ((F 19 3)) ∧ (∀ i, 0 ≤ i → i < (F 19 4) * (F 19 4) → -2 ≤ A 20 i ∧ A 20 i < 5000) ∧ -2147483648 ≤ k ∧ k < 2147483648) ∧ (K (some (some (vI (pkR (A 20) ((F 19 4)) k)))) F A)) (False)
  | _ => False
def qeX6_pairAt : CE := (yX6_pairAt, cX6_pairAt, 4, (some .int), 1, some 6, 0, [], 0, 4, qsX6_pairAt)
theorem qbX6_pairAt : am_mb qeX6_pairAt := ⟨am_tb_at 1288 (by decide +kernel) rfl, am_tb_at 120 (by decide +kernel) rfl, ⟨by decide, by decide, by decide +kernel⟩, by decide, by decide, am_tb_at 1286 (by decide +kernel) rfl, am_tb_at 1287 (by decide +kernel) rfl, _, _, rfl⟩
def qnX6_pairAt_19 : CUT := fun pc => cond (Nat.beq pc 4) (some [true, true, true, true]) (none)
def qiX6_pairAt_19 (k : Int) (F0 : FF) (A0 : AA) : REC := fun pc ls st F A u => cond (Nat.beq pc 4) (match ls, st, u with
    | [some (.inr (.inr s0)), some (.inl s1), some (.inl n), some (.inl i)], [], 0 => s0 = 19 ∧ s1 = k ∧ F = F0 ∧ A = A0 ∧ (0 ≤ i ∧ i ≤ F0 19 4 * F0 19 4 ∧ n = cntP (A0 20) (Int.toNat i) ∧ pkF (A0 20) k (Int.toNat i) = -1)
    | _, _, _ => False) (False)
def quX6_pairAt_19 : Nat → LVs → List AV → FF → AA → Nat := fun pc ls _ F A => cond (Nat.beq pc 4) (match ls with
    | [some (.inr (.inr s0)), some (.inl s1), some (.inl n), some (.inl i)] => Int.toNat (5000 - i)
    | _ => 0) (0)
set_option maxRecDepth 20000 in
theorem qvX6_pairAt_19_0 (k : Int) (F0 : FF) (A0 : AA) (K : KK) (h : ((0 ≤ (F0 19 3) ∧ (F0 19 3) ≤ 6) ∧ (F0 19 4) = p2 ((F0 19 3)) ∧ (∀ i, 0 ≤ i → i < (F0 19 4) * (F0 19 4) → -2 ≤ A0 20 i ∧ A0 20 i < 5000) ∧ -2147483648 ≤ k ∧ k < 2147483648) ∧ (K (some (some (vI (pkR (A0 20) ((F0 19 4)) k)))) F0 A0)) : am_stp qxX6_pairAt (am_run qxX6_pairAt qnX6_pairAt_19 (qiX6_pairAt_19 k F0 A0) K 31) K 0 (am_ent [vR 19, vI k] 4) [] F0 A0 0 := by
  show am_stp qxX6_pairAt (am_run qxX6_pairAt qnX6_pairAt_19 (qiX6_pairAt_19 k F0 A0) K 31) K 0 [some (vR 19), some (vI k), none, none] [] F0 A0 0
  obtain ⟨hp, h⟩ := h
  obtain ⟨p1, p2', p3, p4⟩ := hp
  have hS : 1 ≤ F0 19 4 ∧ F0 19 4 ≤ 64 := by rw [p2']; exact ⟨p2_pos, p2_le p1.2⟩
  have hSS := sq64 (S := F0 19 4) (by omega) (by omega)
  have hS0 : 0 ≤ F0 19 4 * F0 19 4 := Int.mul_nonneg (by omega) (by omega)
  show 19 = 19 ∧ k = k ∧ F0 = F0 ∧ A0 = A0 ∧ (0 ≤ 0 ∧ 0 ≤ F0 19 4 * F0 19 4 ∧ 0 = cntP (A0 20) (Int.toNat 0) ∧ pkF (A0 20) k (Int.toNat 0) = -1)
  refine ⟨rfl, rfl, rfl, rfl, ?_⟩
  exact ⟨by omega, by omega, rfl, rfl⟩
set_option maxRecDepth 20000 in
theorem qvX6_pairAt_19_4 (k : Int) (F0 : FF) (A0 : AA) (K : KK) (h : ((0 ≤ (F0 19 3) ∧ (F0 19 3) ≤ 6) ∧ (F0 19 4) = p2 ((F0 19 3)) ∧ (∀ i, 0 ≤ i → i < (F0 19 4) * (F0 19 4) → -2 ≤ A0 20 i ∧ A0 20 i < 5000) ∧ -2147483648 ≤ k ∧ k < 2147483648) ∧ (K (some (some (vI (pkR (A0 20) ((F0 19 4)) k)))) F0 A0)) (n : Int) (i : Int) (hi : 0 ≤ i ∧ i ≤ F0 19 4 * F0 19 4 ∧ n = cntP (A0 20) (Int.toNat i) ∧ pkF (A0 20) k (Int.toNat i) = -1) : am_stp qxX6_pairAt (am_run qxX6_pairAt qnX6_pairAt_19 (fun pc ls st F A u => qiX6_pairAt_19 k F0 A0 pc ls st F A u ∧ quX6_pairAt_19 pc ls st F A < quX6_pairAt_19 4 [some (vR 19), some (vI k), some (vI n), some (vI i)] [] F0 A0) K 31) K 4 [some (vR 19), some (vI k), some (vI n), some (vI i)] [] F0 A0 0 := by
  obtain ⟨hp, h⟩ := h
  obtain ⟨p1, p2', p3, p4⟩ := hp
  have hS : 1 ≤ F0 19 4 ∧ F0 19 4 ≤ 64 := by rw [p2']; exact ⟨p2_pos, p2_le p1.2⟩
  have hSS := sq64 (S := F0 19 4) (by omega) (by omega)
  have hS0 : 0 ≤ F0 19 4 * F0 19 4 := Int.mul_nonneg (by omega) (by omega)
  obtain ⟨h1, h2, h3, h4⟩ := hi
  have h6 := cntP_s (g := A0 20) h1
  have h8 := pkF_s (g := A0 20) (k := k) h1
  have h9 := cntP_b (A0 20) (Int.toNat i)
  rw [if_pos h4] at h8
  show (w32 i < w32 ((F0 19 4) * (F0 19 4)) → ((w32 (if 0 ≤ w32 i ∧ w32 i < 4096 then A0 20 (w32 i) else -2) = w32 (-2) → ((19 = 19 ∧ k = k ∧ F0 = F0 ∧ A0 = A0 ∧ (0 ≤ (i + 1) ∧ (i + 1) ≤ F0 19 4 * F0 19 4 ∧ n = cntP (A0 20) (Int.toNat (i + 1)) ∧ pkF (A0 20) k (Int.toNat (i + 1)) = -1)) ∧ (Int.toNat (5000 - (i + 1))) < (Int.toNat (5000 - i)))) ∧ (¬ w32 (if 0 ≤ w32 i ∧ w32 i < 4096 then A0 20 (w32 i) else -2) = w32 (-2) → ((w32 n = w32 k → (K (some (some (vI ((100 * (x_shr i (F0 19 3))) + (x_and i ((F0 19 4) - 1)))))) F0 A0)) ∧ (¬ w32 n = w32 k → ((19 = 19 ∧ k = k ∧ F0 = F0 ∧ A0 = A0 ∧ (0 ≤ (i + 1) ∧ (i + 1) ≤ F0 19 4 * F0 19 4 ∧ (n + 1) = cntP (A0 20) (Int.toNat (i + 1)) ∧ pkF (A0 20) k (Int.toNat (i + 1)) = -1)) ∧ (Int.toNat (5000 - (i + 1))) < (Int.toNat (5000 - i)))))))) ∧ (¬ w32 i < w32 ((F0 19 4) * (F0 19 4)) → (K (some (some (vI (-1)))) F0 A0))
  refine ⟨fun c1 => ?_, fun c1 => ?_⟩
  · skip
    (try simp (disch := omega) only [w32_id] at c1); (try (have h7 := p3 i h1 (by omega); rw [if_pos ⟨h1, by omega⟩] at c1; simp (disch := omega) only [w32_id] at c1))
    refine ⟨fun c2 => ?_, fun c2 => ?_⟩
    · skip
      (try simp (disch := omega) only [w32_id] at c2); (try (have h7 := p3 i h1 (by omega); rw [if_pos ⟨h1, by omega⟩] at c2; simp (disch := omega) only [w32_id] at c2))
      refine ⟨⟨rfl, rfl, rfl, rfl, ?_⟩, by omega⟩
      rw [if_pos c2] at h6 h8
      exact ⟨by omega, by omega, by omega, h8⟩
    · skip
      (try simp (disch := omega) only [w32_id] at c2); (try (have h7 := p3 i h1 (by omega); rw [if_pos ⟨h1, by omega⟩] at c2; simp (disch := omega) only [w32_id] at c2))
      refine ⟨fun c3 => ?_, fun c3 => ?_⟩
      · skip
        (try simp (disch := omega) only [w32_id] at c3); (try (have h7 := p3 i h1 (by omega); rw [if_pos ⟨h1, by omega⟩] at c3; simp (disch := omega) only [w32_id] at c3))
        rw [if_neg c2, if_pos (by omega)] at h8
        have h10 := pkF_mono (g := A0 20) (k := k) (m := Int.toNat (i + 1)) (by rw [h8]; omega) (Int.toNat (F0 19 4 * F0 19 4 - (i + 1)))
        rw [h8, show Int.toNat (i + 1) + Int.toNat (F0 19 4 * F0 19 4 - (i + 1)) = Int.toNat (F0 19 4 * F0 19 4) by omega] at h10
        refine K_eq h ?_
        unfold pkR
        rw [h10, if_neg (by omega), x_shrp (by omega) (by omega) (by omega) (by omega), p2', x_and_p2 p1.1 p1.2]
      · skip
        (try simp (disch := omega) only [w32_id] at c3); (try (have h7 := p3 i h1 (by omega); rw [if_pos ⟨h1, by omega⟩] at c3; simp (disch := omega) only [w32_id] at c3))
        refine ⟨⟨rfl, rfl, rfl, rfl, ?_⟩, by omega⟩
        rw [if_neg c2] at h6 h8
        rw [if_neg (by omega)] at h8
        exact ⟨by omega, by omega, by omega, h8⟩
  · skip
    (try simp (disch := omega) only [w32_id] at c1); (try (have h7 := p3 i h1 (by omega); rw [if_pos ⟨h1, by omega⟩] at c1; simp (disch := omega) only [w32_id] at c1))
    refine K_eq h ?_
    unfold pkR
    rw [show F0 19 4 * F0 19 4 = i by omega, if_pos h4]
set_option maxRecDepth 20000 in
theorem qvX6_pairAt_19 (k : Int) (F0 : FF) (A0 : AA) (K : KK) (h : ((0 ≤ (F0 19 3) ∧ (F0 19 3) ≤ 6) ∧ (F0 19 4) = p2 ((F0 19 3)) ∧ (∀ i, 0 ≤ i → i < (F0 19 4) * (F0 19 4) → -2 ≤ A0 20 i ∧ A0 20 i < 5000) ∧ -2147483648 ≤ k ∧ k < 2147483648) ∧ (K (some (some (vI (pkR (A0 20) ((F0 19 4)) k)))) F0 A0)) : am_body qxX6_pairAt qnX6_pairAt_19 31 (qiX6_pairAt_19 k F0 A0) quX6_pairAt_19 [vR 19, vI k] 4 F0 A0 K := by
  refine ⟨qvX6_pairAt_19_0 k F0 A0 K h, fun pc ls st F A u hI => ?_⟩
  unfold qiX6_pairAt_19 at hI
  replace hI := am_cond2 hI
  rcases hI with ⟨hb, hI⟩ | hI
  · have hb := am_bq hb
    subst hb
    split at hI
    · rename_i s0 s1 n i
      obtain ⟨e0, e1, e2, e3, hI⟩ := hI
      subst e0
      subst e1
      subst e2
      subst e3
      exact qvX6_pairAt_19_4 _ _ _ K h _ _ hI
    · exact hI.elim
  exact hI.elim
theorem qtX6_pairAt (l : Launch) : am_CT l layX qeX6_pairAt := am_met0 rfl (by decide +kernel) rfl rfl rfl rfl rfl (fun _ => rfl) rfl (qzX6_pairAt l) (fun k e1 h => (qyX6_pairAt l k e1 h).2) (fun as F A K h => by
  replace h : qsX6_pairAt as F A K := h
  unfold qsX6_pairAt at h
  split at h
  · rename_i o k
    refine ⟨by first | exact Nat.le_of_ble_eq_true rfl | simp [am_fl, am_cat], ?_⟩
    replace h := am_cond2 h
    rcases h with ⟨hb, h⟩ | h
    · skip
      have hb0 := hb
      have hb0 := am_bq hb0
      subst hb0
      exact am_way_body (qvX6_pairAt_19 k F A K h)
    exact h.elim
  · exact h.elim)
def qkX6_join : Nat → Option CI := fun pc => cond (Nat.ble 55 pc) none (cond (Nat.ble 29 pc) (cond (Nat.ble 43 pc) (cond (Nat.ble 49 pc) (cond (Nat.ble 51 pc) (cond (Nat.beq pc 51) (some (.putfield 77, 54, [])) (cond (Nat.beq pc 54) (some (.return_, 55, [])) (none))) (cond (Nat.beq pc 49) (some (.iconst 1, 50, [])) (cond (Nat.beq pc 50) (some (.iadd, 51, [])) (none)))) (cond (Nat.ble 45 pc) (cond (Nat.beq pc 45) (some (.dup, 46, [])) (cond (Nat.beq pc 46) (some (.getfield 77, 49, [])) (none))) (cond (Nat.beq pc 43) (some (.iastore, 44, [])) (cond (Nat.beq pc 44) (some (.aload_n 0, 45, [])) (none))))) (cond (Nat.ble 35 pc) (cond (Nat.ble 39 pc) (cond (Nat.beq pc 39) (some (.getfield 77, 42, [])) (cond (Nat.beq pc 42) (some (.iload_n 1, 43, [])) (none))) (cond (Nat.beq pc 35) (some (.getfield 15, 38, [])) (cond (Nat.beq pc 38) (some (.aload_n 0, 39, [])) (none)))) (cond (Nat.ble 31 pc) (cond (Nat.beq pc 31) (some (.invokevirtual 62, 34, [])) (cond (Nat.beq pc 34) (some (.aload_n 0, 35, [])) (none))) (cond (Nat.beq pc 29) (some (.iload_n 1, 30, [])) (cond (Nat.beq pc 30) (some (.iload_n 2, 31, [])) (none)))))) (cond (Nat.ble 13 pc) (cond (Nat.ble 21 pc) (cond (Nat.ble 25 pc) (cond (Nat.beq pc 25) (some (.if_icmp .ge 29, 28, [54])) (cond (Nat.beq pc 28) (some (.aload_n 0, 29, [])) (none))) (cond (Nat.beq pc 21) (some (.getfield 15, 24, [])) (cond (Nat.beq pc 24) (some (.arraylength, 25, [])) (none)))) (cond (Nat.ble 17 pc) (cond (Nat.beq pc 17) (some (.getfield 77, 20, [])) (cond (Nat.beq pc 20) (some (.aload_n 0, 21, [])) (none))) (cond (Nat.beq pc 13) (some (.ifCond .lt 41, 16, [54])) (cond (Nat.beq pc 16) (some (.aload_n 0, 17, [])) (none))))) (cond (Nat.ble 5 pc) (cond (Nat.ble 9 pc) (cond (Nat.beq pc 9) (some (.aload_n 0, 10, [])) (cond (Nat.beq pc 10) (some (.getfield 77, 13, [])) (none))) (cond (Nat.beq pc 5) (some (.iconst (-1), 6, [])) (cond (Nat.beq pc 6) (some (.if_icmp .ne 48, 9, [54])) (none)))) (cond (Nat.beq pc 0) (some (.aload_n 0, 1, [])) (cond (Nat.beq pc 1) (some (.iload_n 1, 2, [])) (cond (Nat.beq pc 2) (some (.invokevirtual 70, 5, [])) (none)))))))
theorem qkX6_join_ok : ∀ pc i nx ts, qkX6_join pc = some (i, nx, ts) → am_cok cX6_join pc (i, nx, ts) = true := fun pc i nx ts h => am_tok_ok (n := 55) (by decide +kernel) (fun pc h => by show cond (Nat.ble 55 pc) _ _ = _; rw [Nat.ble_eq_true_of_le h]; rfl) h
def qaX6_join : Nat → Option CE := fun k => cond (Nat.beq k 70) (some qeX6_at) (cond (Nat.beq k 62) (some qeX6_put) (none))
theorem qyX6_join (l : Launch) : ∀ k e1, qaX6_join k = some e1 → am_cal l layX RX6 4 k e1 ∧ ceT e1 = 0 := q_cons ⟨am_calV (ci := 6) (qtX6_at l) qbX6_at (by decide) rfl (am_tb_at 1274 (by decide +kernel) rfl), rfl⟩ (q_cons ⟨am_calV (ci := 6) (qtX6_put l) qbX6_put (by decide) rfl (am_tb_at 1266 (by decide +kernel) rfl), rfl⟩ (q_nil))
def qxX6_join : CX := (qkX6_join, layX, qfX6, qaX6_join, qcX6, qlX6, qmX6, none, false, none, 0, none, fun _ => none)
theorem qzX6_join (l : Launch) : am_sta l qxX6_join RX6 4 cX6_join := ⟨qkX6_join_ok, layX_ok, qfX6_ok, qcX6_ok, qlX6_ok, am_mthP qmX6_ok (by decide), fun k e1 h => (qyX6_join l k e1 h).1⟩
def qsX6_join : SP := fun as F A K => match as with
  | [.inr (.inr o), .inl i, .inl v] => cond (Nat.beq o 19) (((-1 ≤ i ∧ i < 4096) ∧ (∀ j, -2 ≤ A 20 j ∧ A 20 j < 5000) ∧ 0 ≤ (F 19 2) ∧ (F 19 2) ≤ 4096) ∧ (∀ (G_1 : FF) (B_1 : AA), (gsP G_1 B_1 (joinF (A 20, A 21, (F 19 2)) i v) ∧ gsF F G_1 A B_1) → (K (some none) G_1 B_1))) (False)
  | _ => False
def qeX6_join : CE := (yX6_join, cX6_join, 3, none, 2, some 6, 0, [], 0, 4, qsX6_join)
theorem qbX6_join : am_mb qeX6_join := ⟨am_tb_at 1307 (by decide +kernel) rfl, am_tb_at 120 (by decide +kernel) rfl, ⟨by decide, by decide, by decide +kernel⟩, by decide, by decide, am_tb_at 1306 (by decide +kernel) rfl, am_tb_at 45 (by decide +kernel) rfl, _, _, rfl⟩
set_option maxRecDepth 20000 in
theorem qvX6_join_19 (i : Int) (v : Int) (F : FF) (A : AA) (K : KK) (h : ((-1 ≤ i ∧ i < 4096) ∧ (∀ j, -2 ≤ A 20 j ∧ A 20 j < 5000) ∧ 0 ≤ (F 19 2) ∧ (F 19 2) ≤ 4096) ∧ (∀ (G_1 : FF) (B_1 : AA), (gsP G_1 B_1 (joinF (A 20, A 21, (F 19 2)) i v) ∧ gsF F G_1 A B_1) → (K (some none) G_1 B_1))) : am_line qxX6_join 32 [vR 19, vI i, vI v] 3 F A K := by
  show am_stp qxX6_join (am_run qxX6_join (fun _ => none) (fun _ _ _ _ _ _ => False) K 32) K 0 [some (vR 19), some (vI i), some (vI v)] [] F A 0
  obtain ⟨hp, h⟩ := h
  have q1 := hp.2.1 i
  have q2 : w32 (if 0 ≤ i ∧ i < 4096 then A 20 i else -2) = -1 ↔ 0 ≤ i ∧ A 20 i = -1 := by
    by_cases hh : 0 ≤ i ∧ i < 4096
    · rw [if_pos hh, w32_id (by omega) (by omega)]; omega
    · rw [if_neg hh, w32_id (by omega) (by omega)]; omega
  show (w32 (if 0 ≤ w32 i ∧ w32 i < 4096 then A 20 (w32 i) else -2) = w32 (-1) → ((w32 (F 19 2) < w32 0 → (K (some none) F A)) ∧ (¬ w32 (F 19 2) < w32 0 → ((w32 (F 19 2) < w32 4096 → ((0 ≤ i ∧ i < 4096) ∧ ((0 ≤ w32 (F 19 2) ∧ w32 (F 19 2) < 4096) ∧ (K (some none) (upF F 19 2 ((F 19 2) + 1)) (upA (upA A 20 i v) 21 (w32 (F 19 2)) i))))) ∧ (¬ w32 (F 19 2) < w32 4096 → (K (some none) F A)))))) ∧ (¬ w32 (if 0 ≤ w32 i ∧ w32 i < 4096 then A 20 (w32 i) else -2) = w32 (-1) → (K (some none) F A))
  refine ⟨fun c1 => ?_, fun c1 => ?_⟩
  · skip
    (try simp (disch := omega) only [w32_id] at c1); (try simp only [q2] at c1)
    refine ⟨fun c2 => ?_, fun c2 => ?_⟩
    · skip
      (try simp (disch := omega) only [w32_id] at c2); (try simp only [q2] at c2)
      exfalso; omega
    · skip
      (try simp (disch := omega) only [w32_id] at c2); (try simp only [q2] at c2)
      refine ⟨fun c3 => ?_, fun c3 => ?_⟩
      · skip
        (try simp (disch := omega) only [w32_id] at c3); (try simp only [q2] at c3)
        refine ⟨by first | omega | (simp (disch := omega) only [w32_id]; omega), ?_⟩
        refine ⟨by first | omega | (simp (disch := omega) only [w32_id]; omega), ?_⟩
        simp (disch := omega) only [w32_id]
        refine h _ _ ⟨?_, fun b j hb => ?_, fun a b hab => upF_o hab⟩
        · unfold joinF
          rw [if_pos (by dsimp only; omega)]
          refine ⟨?_, ?_, upF_s⟩
          · rw [upA_r (by decide), upA_up1]
          · rw [upA_up1, upA_r (by decide)]
        · rw [upA_k hb.2, upA_k hb.1]
      · skip
        (try simp (disch := omega) only [w32_id] at c3); (try simp only [q2] at c3)
        refine h _ _ ⟨?_, gsF_id⟩
        unfold joinF
        rw [if_neg (by dsimp only; omega)]
        exact ⟨rfl, rfl, rfl⟩
  · skip
    (try simp (disch := omega) only [w32_id] at c1); (try simp only [q2] at c1)
    refine h _ _ ⟨?_, gsF_id⟩
    unfold joinF
    rw [if_neg (by dsimp only; omega)]
    exact ⟨rfl, rfl, rfl⟩
theorem qtX6_join (l : Launch) : am_CT l layX qeX6_join := am_met0 rfl (by decide +kernel) rfl rfl rfl rfl rfl (fun _ => rfl) rfl (qzX6_join l) (fun k e1 h => (qyX6_join l k e1 h).2) (fun as F A K h => by
  replace h : qsX6_join as F A K := h
  unfold qsX6_join at h
  split at h
  · rename_i o i v
    refine ⟨by first | exact Nat.le_of_ble_eq_true rfl | simp [am_fl, am_cat], ?_⟩
    replace h := am_cond2 h
    rcases h with ⟨hb, h⟩ | h
    · skip
      have hb0 := hb
      have hb0 := am_bq hb0
      subst hb0
      exact am_way_line (qvX6_join_19 i v F A K h)
    exact h.elim
  · exact h.elim)
def qkX6_spread : Nat → Option CI := fun pc => cond (Nat.ble 120 pc) none (cond (Nat.ble 55 pc) (cond (Nat.ble 83 pc) (cond (Nat.ble 97 pc) (cond (Nat.ble 107 pc) (cond (Nat.ble 113 pc) (cond (Nat.beq pc 113) (some (.iinc 3 1, 116, [])) (cond (Nat.beq pc 116) (some (.goto (-103), 119, [13])) (cond (Nat.beq pc 119) (some (.return_, 120, [])) (none)))) (cond (Nat.beq pc 107) (some (.iinc 6 1, 110, [])) (cond (Nat.beq pc 110) (some (.goto (-46), 113, [64])) (none)))) (cond (Nat.ble 101 pc) (cond (Nat.beq pc 101) (some (.iinc 7 1, 104, [])) (cond (Nat.beq pc 104) (some (.goto (-25), 107, [79])) (none))) (cond (Nat.beq pc 97) (some (.iload_n 2, 98, [])) (cond (Nat.beq pc 98) (some (.invokevirtual 80, 101, [])) (none))))) (cond (Nat.ble 89 pc) (cond (Nat.ble 92 pc) (cond (Nat.beq pc 92) (some (.iload 7, 94, [])) (cond (Nat.beq pc 94) (some (.invokevirtual 59, 97, [])) (none))) (cond (Nat.beq pc 89) (some (.aload_n 0, 90, [])) (cond (Nat.beq pc 90) (some (.iload 6, 92, [])) (none)))) (cond (Nat.ble 85 pc) (cond (Nat.beq pc 85) (some (.if_icmp .gt 22, 88, [107])) (cond (Nat.beq pc 88) (some (.aload_n 0, 89, [])) (none))) (cond (Nat.beq pc 83) (some (.iconst 1, 84, [])) (cond (Nat.beq pc 84) (some (.iadd, 85, [])) (none)))))) (cond (Nat.ble 68 pc) (cond (Nat.ble 75 pc) (cond (Nat.ble 77 pc) (cond (Nat.beq pc 77) (some (.istore 7, 79, [])) (cond (Nat.beq pc 79) (some (.iload 7, 81, [])) (cond (Nat.beq pc 81) (some (.iload 5, 83, [])) (none)))) (cond (Nat.beq pc 75) (some (.iconst 1, 76, [])) (cond (Nat.beq pc 76) (some (.isub, 77, [])) (none)))) (cond (Nat.ble 70 pc) (cond (Nat.beq pc 70) (some (.if_icmp .gt 43, 73, [113])) (cond (Nat.beq pc 73) (some (.iload 5, 75, [])) (none))) (cond (Nat.beq pc 68) (some (.iconst 1, 69, [])) (cond (Nat.beq pc 69) (some (.iadd, 70, [])) (none))))) (cond (Nat.ble 61 pc) (cond (Nat.ble 64 pc) (cond (Nat.beq pc 64) (some (.iload 6, 66, [])) (cond (Nat.beq pc 66) (some (.iload 4, 68, [])) (none))) (cond (Nat.beq pc 61) (some (.isub, 62, [])) (cond (Nat.beq pc 62) (some (.istore 6, 64, [])) (none)))) (cond (Nat.ble 58 pc) (cond (Nat.beq pc 58) (some (.iload 4, 60, [])) (cond (Nat.beq pc 60) (some (.iconst 1, 61, [])) (none))) (cond (Nat.beq pc 55) (some (.iand, 56, [])) (cond (Nat.beq pc 56) (some (.istore 5, 58, [])) (none))))))) (cond (Nat.ble 27 pc) (cond (Nat.ble 41 pc) (cond (Nat.ble 48 pc) (cond (Nat.ble 50 pc) (cond (Nat.beq pc 50) (some (.getfield 26, 53, [])) (cond (Nat.beq pc 53) (some (.iconst 1, 54, [])) (cond (Nat.beq pc 54) (some (.isub, 55, [])) (none)))) (cond (Nat.beq pc 48) (some (.iaload, 49, [])) (cond (Nat.beq pc 49) (some (.aload_n 0, 50, [])) (none)))) (cond (Nat.ble 44 pc) (cond (Nat.beq pc 44) (some (.getfield 15, 47, [])) (cond (Nat.beq pc 47) (some (.iload_n 3, 48, [])) (none))) (cond (Nat.beq pc 41) (some (.istore 4, 43, [])) (cond (Nat.beq pc 43) (some (.aload_n 0, 44, [])) (none))))) (cond (Nat.ble 35 pc) (cond (Nat.ble 37 pc) (cond (Nat.beq pc 37) (some (.getfield 22, 40, [])) (cond (Nat.beq pc 40) (some (.ishr, 41, [])) (none))) (cond (Nat.beq pc 35) (some (.iaload, 36, [])) (cond (Nat.beq pc 36) (some (.aload_n 0, 37, [])) (none)))) (cond (Nat.ble 31 pc) (cond (Nat.beq pc 31) (some (.getfield 15, 34, [])) (cond (Nat.beq pc 34) (some (.iload_n 3, 35, [])) (none))) (cond (Nat.beq pc 27) (some (.if_icmp .ge 92, 30, [119])) (cond (Nat.beq pc 30) (some (.aload_n 0, 31, [])) (none)))))) (cond (Nat.ble 12 pc) (cond (Nat.ble 18 pc) (cond (Nat.ble 22 pc) (cond (Nat.beq pc 22) (some (.aload_n 0, 23, [])) (cond (Nat.beq pc 23) (some (.getfield 15, 26, [])) (cond (Nat.beq pc 26) (some (.arraylength, 27, [])) (none)))) (cond (Nat.beq pc 18) (some (.if_icmp .ge 101, 21, [119])) (cond (Nat.beq pc 21) (some (.iload_n 3, 22, [])) (none)))) (cond (Nat.ble 14 pc) (cond (Nat.beq pc 14) (some (.aload_n 0, 15, [])) (cond (Nat.beq pc 15) (some (.getfield 77, 18, [])) (none))) (cond (Nat.beq pc 12) (some (.istore_n 3, 13, [])) (cond (Nat.beq pc 13) (some (.iload_n 3, 14, [])) (none))))) (cond (Nat.ble 6 pc) (cond (Nat.ble 8 pc) (cond (Nat.beq pc 8) (some (.invokevirtual 80, 11, [])) (cond (Nat.beq pc 11) (some (.iconst 0, 12, [])) (none))) (cond (Nat.beq pc 6) (some (.iload_n 1, 7, [])) (cond (Nat.beq pc 7) (some (.iload_n 2, 8, [])) (none)))) (cond (Nat.ble 2 pc) (cond (Nat.beq pc 2) (some (.putfield 77, 5, [])) (cond (Nat.beq pc 5) (some (.aload_n 0, 6, [])) (none))) (cond (Nat.beq pc 0) (some (.aload_n 0, 1, [])) (cond (Nat.beq pc 1) (some (.iconst 0, 2, [])) (none))))))))
theorem qkX6_spread_ok : ∀ pc i nx ts, qkX6_spread pc = some (i, nx, ts) → am_cok cX6_spread pc (i, nx, ts) = true := fun pc i nx ts h => am_tok_ok (n := 120) (by decide +kernel) (fun pc h => by show cond (Nat.ble 120 pc) _ _ = _; rw [Nat.ble_eq_true_of_le h]; rfl) h
def qaX6_spread : Nat → Option CE := fun k => cond (Nat.beq k 80) (some qeX6_join) (cond (Nat.beq k 59) (some qeX6_indexOf) (none))
theorem qyX6_spread (l : Launch) : ∀ k e1, qaX6_spread k = some e1 → am_cal l layX RX6 5 k e1 ∧ ceT e1 = 0 := q_cons ⟨am_calV (ci := 6) (qtX6_join l) qbX6_join (by decide) rfl (am_tb_at 1304 (by decide +kernel) rfl), rfl⟩ (q_cons ⟨am_calV (ci := 6) (qtX6_indexOf l) qbX6_indexOf (by decide) rfl (am_tb_at 1262 (by decide +kernel) rfl), rfl⟩ (q_nil))
def qxX6_spread : CX := (qkX6_spread, layX, qfX6, qaX6_spread, qcX6, qlX6, qmX6, none, false, none, 0, none, fun _ => none)
theorem qzX6_spread (l : Launch) : am_sta l qxX6_spread RX6 5 cX6_spread := ⟨qkX6_spread_ok, layX_ok, qfX6_ok, qcX6_ok, qlX6_ok, am_mthP qmX6_ok (by decide), fun k e1 h => (qyX6_spread l k e1 h).1⟩
def qsX6_spread : SP := fun as F A K => match as with
  | [.inr (.inr o), .inl x, .inl v] => cond (Nat.beq o 19) (((0 ≤ (F 19 3) ∧ (F 19 3) ≤ 6) ∧ (F 19 4) = p2 ((F 19 3)) ∧ (∀ j, -2 ≤ A 20 j ∧ A 20 j < 5000) ∧ (0 ≤ x ∧ x < (F 19 4) * (F 19 4)) ∧ 0 ≤ v ∧ v < 5000) ∧ (∀ (G_1 : FF) (B_1 : AA), (gsP G_1 B_1 (sprF ((F 19 4)) v 4097 (joinF (A 20, A 21, 0) x v) 0) ∧ gsF F G_1 A B_1) → (K (some none) G_1 B_1))) (False)
  | _ => False
def qeX6_spread : CE := (yX6_spread, cX6_spread, 8, none, 2, some 6, 0, [], 0, 5, qsX6_spread)
theorem qbX6_spread : am_mb qeX6_spread := ⟨am_tb_at 1303 (by decide +kernel) rfl, am_tb_at 120 (by decide +kernel) rfl, ⟨by decide, by decide, by decide +kernel⟩, by decide, by decide, am_tb_at 1302 (by decide +kernel) rfl, am_tb_at 44 (by decide +kernel) rfl, _, _, rfl⟩
def qnX6_spread_19 : CUT := fun pc => cond (Nat.beq pc 13) (some [true, true, true, true, false, false, false, false]) (cond (Nat.beq pc 64) (some [true, true, true, true, true, true, true, false]) (cond (Nat.beq pc 79) (some [true, true, true, true, true, true, true, true]) (none)))
def qiX6_spread_19 (x : Int) (v : Int) (F0 : FF) (A0 : AA) : REC := fun pc ls st F A u => cond (Nat.beq pc 13) (match ls, st, u with
    | [some (.inr (.inr s0)), some (.inl s1), some (.inl s2), some (.inl hd), none, none, none, none], [], 0 => s0 = 19 ∧ s1 = x ∧ s2 = v ∧ (0 ≤ hd ∧ hd ≤ 4096 ∧ gsF F0 F A0 A ∧ okS (F0 19 4) (A 20, A 21, F 19 2) ∧ sprF (F0 19 4) v (Int.toNat (4097 - hd)) (A 20, A 21, F 19 2) hd = (sprF (F0 19 4) v 4097 (joinF (A0 20, A0 21, 0) x v) 0))
    | _, _, _ => False) (cond (Nat.beq pc 64) (match ls, st, u with
    | [some (.inr (.inr s0)), some (.inl s1), some (.inl s2), some (.inl hd), some (.inl q), some (.inl p), some (.inl r), none], [], 0 => s0 = 19 ∧ s1 = x ∧ s2 = v ∧ ((0 ≤ hd ∧ hd < 4096) ∧ (0 ≤ q ∧ q < 64 ∧ 0 ≤ p ∧ p < 64) ∧ (q - 1 ≤ r ∧ r ≤ q + 2) ∧ gsF F0 F A0 A ∧ ∃ sz : BS, okS (F0 19 4) sz ∧ (A 20, A 21, F 19 2) = rowsF (F0 19 4) v sz q p (Int.toNat (r - (q - 1))) ∧ sprF (F0 19 4) v (Int.toNat (4096 - hd)) (rowsF (F0 19 4) v sz q p 3) (hd + 1) = (sprF (F0 19 4) v 4097 (joinF (A0 20, A0 21, 0) x v) 0))
    | _, _, _ => False) (cond (Nat.beq pc 79) (match ls, st, u with
    | [some (.inr (.inr s0)), some (.inl s1), some (.inl s2), some (.inl hd), some (.inl q), some (.inl p), some (.inl r), some (.inl cl)], [], 0 => s0 = 19 ∧ s1 = x ∧ s2 = v ∧ ((0 ≤ hd ∧ hd < 4096) ∧ (0 ≤ q ∧ q < 64 ∧ 0 ≤ p ∧ p < 64) ∧ (q - 1 ≤ r ∧ r ≤ q + 1) ∧ (p - 1 ≤ cl ∧ cl ≤ p + 2) ∧ gsF F0 F A0 A ∧ ∃ sz : BS, okS (F0 19 4) sz ∧ (A 20, A 21, F 19 2) = colsF (F0 19 4) v (rowsF (F0 19 4) v sz q p (Int.toNat (r - (q - 1)))) r p (Int.toNat (cl - (p - 1))) ∧ sprF (F0 19 4) v (Int.toNat (4096 - hd)) (rowsF (F0 19 4) v sz q p 3) (hd + 1) = (sprF (F0 19 4) v 4097 (joinF (A0 20, A0 21, 0) x v) 0))
    | _, _, _ => False) (False)))
def quX6_spread_19 : Nat → LVs → List AV → FF → AA → Nat := fun pc ls _ F A => cond (Nat.beq pc 13) (match ls with
    | [some (.inr (.inr s0)), some (.inl s1), some (.inl s2), some (.inl hd), none, none, none, none] => Int.toNat (100 * (4097 - hd))
    | _ => 0) (cond (Nat.beq pc 64) (match ls with
    | [some (.inr (.inr s0)), some (.inl s1), some (.inl s2), some (.inl hd), some (.inl q), some (.inl p), some (.inl r), none] => Int.toNat (100 * (4097 - hd) - 1 - 10 * (r - (q - 1)))
    | _ => 0) (cond (Nat.beq pc 79) (match ls with
    | [some (.inr (.inr s0)), some (.inl s1), some (.inl s2), some (.inl hd), some (.inl q), some (.inl p), some (.inl r), some (.inl cl)] => Int.toNat (100 * (4097 - hd) - 2 - 10 * (r - (q - 1)) - (cl - (p - 1)))
    | _ => 0) (0)))
set_option maxRecDepth 20000 in
theorem qvX6_spread_19_0 (x : Int) (v : Int) (F0 : FF) (A0 : AA) (K : KK) (h : ((0 ≤ (F0 19 3) ∧ (F0 19 3) ≤ 6) ∧ (F0 19 4) = p2 ((F0 19 3)) ∧ (∀ j, -2 ≤ A0 20 j ∧ A0 20 j < 5000) ∧ (0 ≤ x ∧ x < (F0 19 4) * (F0 19 4)) ∧ 0 ≤ v ∧ v < 5000) ∧ (∀ (G_1 : FF) (B_1 : AA), (gsP G_1 B_1 (sprF ((F0 19 4)) v 4097 (joinF (A0 20, A0 21, 0) x v) 0) ∧ gsF F0 G_1 A0 B_1) → (K (some none) G_1 B_1))) : am_stp qxX6_spread (am_run qxX6_spread qnX6_spread_19 (qiX6_spread_19 x v F0 A0) K 34) K 0 (am_ent [vR 19, vI x, vI v] 8) [] F0 A0 0 := by
  show am_stp qxX6_spread (am_run qxX6_spread qnX6_spread_19 (qiX6_spread_19 x v F0 A0) K 34) K 0 [some (vR 19), some (vI x), some (vI v), none, none, none, none, none] [] F0 A0 0
  obtain ⟨hp, h⟩ := h
  obtain ⟨p1, p2', p3, p4, p5⟩ := hp
  have hS : 1 ≤ F0 19 4 ∧ F0 19 4 ≤ 64 := by rw [p2']; exact ⟨p2_pos, p2_le p1.2⟩
  have hSS := sq64 (S := F0 19 4) (by omega) (by omega)
  have hS0 : 0 ≤ F0 19 4 * F0 19 4 := Int.mul_nonneg (by omega) (by omega)
  show ((-1 ≤ x ∧ x < 4096) ∧ (∀ j, -2 ≤ A0 20 j ∧ A0 20 j < 5000) ∧ 0 ≤ 0 ∧ 0 ≤ 4096) ∧ (∀ (G_1 : FF) (B_1 : AA), (gsP G_1 B_1 (joinF (A0 20, A0 21, 0) x v) ∧ gsF (upF F0 19 2 0) G_1 A0 B_1) → (19 = 19 ∧ x = x ∧ v = v ∧ (0 ≤ 0 ∧ 0 ≤ 4096 ∧ gsF F0 G_1 A0 B_1 ∧ okS (F0 19 4) (B_1 20, B_1 21, G_1 19 2) ∧ sprF (F0 19 4) v (Int.toNat (4097 - 0)) (B_1 20, B_1 21, G_1 19 2) 0 = (sprF (F0 19 4) v 4097 (joinF (A0 20, A0 21, 0) x v) 0))))
  refine ⟨by (exact ⟨by omega, p3, by omega, by omega⟩), ?_⟩
  intro G_1 B_1 g1
  refine ⟨rfl, rfl, rfl, ?_⟩
  have e := gsP_eq g1.1
  refine ⟨by omega, by omega, ⟨g1.2.1, fun a b hab => by rw [g1.2.2 a b hab, upF_o hab]⟩, ?_, by rw [e]; rfl⟩
  rw [e]
  exact joinF_ok ⟨p3, fun j j0 j1 => by dsimp only at j1; omega, by dsimp only; omega, by dsimp only; omega⟩ (Or.inr p4) (by omega) (by omega)
set_option maxRecDepth 20000 in
theorem qvX6_spread_19_13 (x : Int) (v : Int) (F0 : FF) (A0 : AA) (K : KK) (h : ((0 ≤ (F0 19 3) ∧ (F0 19 3) ≤ 6) ∧ (F0 19 4) = p2 ((F0 19 3)) ∧ (∀ j, -2 ≤ A0 20 j ∧ A0 20 j < 5000) ∧ (0 ≤ x ∧ x < (F0 19 4) * (F0 19 4)) ∧ 0 ≤ v ∧ v < 5000) ∧ (∀ (G_1 : FF) (B_1 : AA), (gsP G_1 B_1 (sprF ((F0 19 4)) v 4097 (joinF (A0 20, A0 21, 0) x v) 0) ∧ gsF F0 G_1 A0 B_1) → (K (some none) G_1 B_1))) (hd : Int) (F : FF) (A : AA) (hi : 0 ≤ hd ∧ hd ≤ 4096 ∧ gsF F0 F A0 A ∧ okS (F0 19 4) (A 20, A 21, F 19 2) ∧ sprF (F0 19 4) v (Int.toNat (4097 - hd)) (A 20, A 21, F 19 2) hd = (sprF (F0 19 4) v 4097 (joinF (A0 20, A0 21, 0) x v) 0)) : am_stp qxX6_spread (am_run qxX6_spread qnX6_spread_19 (fun pc ls st F A u => qiX6_spread_19 x v F0 A0 pc ls st F A u ∧ quX6_spread_19 pc ls st F A < quX6_spread_19 13 [some (vR 19), some (vI x), some (vI v), some (vI hd), none, none, none, none] [] F A) K 34) K 13 [some (vR 19), some (vI x), some (vI v), some (vI hd), none, none, none, none] [] F A 0 := by
  obtain ⟨hp, h⟩ := h
  obtain ⟨h1, h2, hG, hK, hE⟩ := hi
  obtain ⟨p1, p2', p3, p4, p5⟩ := hp
  have hS : 1 ≤ F0 19 4 ∧ F0 19 4 ≤ 64 := by rw [p2']; exact ⟨p2_pos, p2_le p1.2⟩
  have hSS := sq64 (S := F0 19 4) (by omega) (by omega)
  have hS0 : 0 ≤ F0 19 4 * F0 19 4 := Int.mul_nonneg (by omega) (by omega)
  have f3 : F 19 3 = F0 19 3 := hG.2 19 3 (Or.inr (by decide))
  have f4 : F 19 4 = F0 19 4 := hG.2 19 4 (Or.inr (by decide))
  have k1 := hK.2.2.1
  have k2 := hK.2.2.2
  dsimp only at k1 k2
  show (w32 hd < w32 (F 19 2) → ((w32 hd < w32 4096 → ((0 ≤ w32 hd ∧ w32 hd < 4096) ∧ ((0 ≤ w32 hd ∧ w32 hd < 4096) ∧ ((19 = 19 ∧ x = x ∧ v = v ∧ ((0 ≤ hd ∧ hd < 4096) ∧ (0 ≤ (x_shr (A 21 (w32 hd)) (F 19 3)) ∧ (x_shr (A 21 (w32 hd)) (F 19 3)) < 64 ∧ 0 ≤ (x_and (A 21 (w32 hd)) ((F 19 4) - 1)) ∧ (x_and (A 21 (w32 hd)) ((F 19 4) - 1)) < 64) ∧ ((x_shr (A 21 (w32 hd)) (F 19 3)) - 1 ≤ ((x_shr (A 21 (w32 hd)) (F 19 3)) - 1) ∧ ((x_shr (A 21 (w32 hd)) (F 19 3)) - 1) ≤ (x_shr (A 21 (w32 hd)) (F 19 3)) + 2) ∧ gsF F0 F A0 A ∧ ∃ sz : BS, okS (F0 19 4) sz ∧ (A 20, A 21, F 19 2) = rowsF (F0 19 4) v sz (x_shr (A 21 (w32 hd)) (F 19 3)) (x_and (A 21 (w32 hd)) ((F 19 4) - 1)) (Int.toNat (((x_shr (A 21 (w32 hd)) (F 19 3)) - 1) - ((x_shr (A 21 (w32 hd)) (F 19 3)) - 1))) ∧ sprF (F0 19 4) v (Int.toNat (4096 - hd)) (rowsF (F0 19 4) v sz (x_shr (A 21 (w32 hd)) (F 19 3)) (x_and (A 21 (w32 hd)) ((F 19 4) - 1)) 3) (hd + 1) = (sprF (F0 19 4) v 4097 (joinF (A0 20, A0 21, 0) x v) 0))) ∧ (Int.toNat (100 * (4097 - hd) - 1 - 10 * (((x_shr (A 21 (w32 hd)) (F 19 3)) - 1) - ((x_shr (A 21 (w32 hd)) (F 19 3)) - 1)))) < (Int.toNat (100 * (4097 - hd))))))) ∧ (¬ w32 hd < w32 4096 → (K (some none) F A)))) ∧ (¬ w32 hd < w32 (F 19 2) → (K (some none) F A))
  refine ⟨fun c1 => ?_, fun c1 => ?_⟩
  · skip
    (try simp (disch := omega) only [w32_id] at c1)
    refine ⟨fun c2 => ?_, fun c2 => ?_⟩
    · skip
      (try simp (disch := omega) only [w32_id] at c2)
      refine ⟨by first | omega | (simp (disch := omega) only [w32_id]; omega), ?_⟩
      refine ⟨by first | omega | (simp (disch := omega) only [w32_id]; omega), ?_⟩
      refine ⟨⟨rfl, rfl, rfl, ?_⟩, by omega⟩
      have k3 := hK.2.1 hd h1 (by dsimp only; omega)
      dsimp only at k3
      simp (disch := omega) only [w32_id]
      rw [x_shrp (by omega) (by omega) (by omega) (by omega), f4, f3, p2', x_and_p2 p1.1 p1.2, ← p2']
      have k4 : 0 ≤ A 21 hd / F0 19 4 := Int.ediv_nonneg k3.1 (by omega)
      have k5 : A 21 hd / F0 19 4 < F0 19 4 := Int.ediv_lt_of_lt_mul (by omega) k3.2
      have k6 := Int.emod_nonneg (A 21 hd) (b := F0 19 4) (by omega)
      have k7 := Int.emod_lt_of_pos (A 21 hd) (b := F0 19 4) (by omega)
      refine ⟨by omega, by omega, by omega, hG, _, hK, ?_, ?_⟩
      · rw [show Int.toNat (A 21 hd / F0 19 4 - 1 - (A 21 hd / F0 19 4 - 1)) = 0 by omega]; rfl
      · rw [← hE, sprF_s h1 h2, if_pos (by dsimp only; omega)]
    · skip
      (try simp (disch := omega) only [w32_id] at c2)
      refine h _ _ ⟨gsP_of ?_, hG⟩
      rw [← hE, sprF_s h1 h2, if_neg (by dsimp only; omega)]
  · skip
    (try simp (disch := omega) only [w32_id] at c1)
    refine h _ _ ⟨gsP_of ?_, hG⟩
    rw [← hE, sprF_s h1 h2, if_neg (by dsimp only; omega)]
set_option maxRecDepth 20000 in
theorem qvX6_spread_19_64 (x : Int) (v : Int) (F0 : FF) (A0 : AA) (K : KK) (h : ((0 ≤ (F0 19 3) ∧ (F0 19 3) ≤ 6) ∧ (F0 19 4) = p2 ((F0 19 3)) ∧ (∀ j, -2 ≤ A0 20 j ∧ A0 20 j < 5000) ∧ (0 ≤ x ∧ x < (F0 19 4) * (F0 19 4)) ∧ 0 ≤ v ∧ v < 5000) ∧ (∀ (G_1 : FF) (B_1 : AA), (gsP G_1 B_1 (sprF ((F0 19 4)) v 4097 (joinF (A0 20, A0 21, 0) x v) 0) ∧ gsF F0 G_1 A0 B_1) → (K (some none) G_1 B_1))) (hd : Int) (q : Int) (p : Int) (r : Int) (F : FF) (A : AA) (hi : (0 ≤ hd ∧ hd < 4096) ∧ (0 ≤ q ∧ q < 64 ∧ 0 ≤ p ∧ p < 64) ∧ (q - 1 ≤ r ∧ r ≤ q + 2) ∧ gsF F0 F A0 A ∧ ∃ sz : BS, okS (F0 19 4) sz ∧ (A 20, A 21, F 19 2) = rowsF (F0 19 4) v sz q p (Int.toNat (r - (q - 1))) ∧ sprF (F0 19 4) v (Int.toNat (4096 - hd)) (rowsF (F0 19 4) v sz q p 3) (hd + 1) = (sprF (F0 19 4) v 4097 (joinF (A0 20, A0 21, 0) x v) 0)) : am_stp qxX6_spread (am_run qxX6_spread qnX6_spread_19 (fun pc ls st F A u => qiX6_spread_19 x v F0 A0 pc ls st F A u ∧ quX6_spread_19 pc ls st F A < quX6_spread_19 64 [some (vR 19), some (vI x), some (vI v), some (vI hd), some (vI q), some (vI p), some (vI r), none] [] F A) K 34) K 64 [some (vR 19), some (vI x), some (vI v), some (vI hd), some (vI q), some (vI p), some (vI r), none] [] F A 0 := by
  obtain ⟨hp, h⟩ := h
  obtain ⟨h1, h2, h3, hG, sz, hK, hE, hR⟩ := hi
  obtain ⟨p1, p2', p3, p4, p5⟩ := hp
  have hS : 1 ≤ F0 19 4 ∧ F0 19 4 ≤ 64 := by rw [p2']; exact ⟨p2_pos, p2_le p1.2⟩
  have hSS := sq64 (S := F0 19 4) (by omega) (by omega)
  have hS0 : 0 ≤ F0 19 4 * F0 19 4 := Int.mul_nonneg (by omega) (by omega)
  have f3 : F 19 3 = F0 19 3 := hG.2 19 3 (Or.inr (by decide))
  have f4 : F 19 4 = F0 19 4 := hG.2 19 4 (Or.inr (by decide))
  show (w32 (q + 1) < w32 r → ((19 = 19 ∧ x = x ∧ v = v ∧ (0 ≤ (hd + 1) ∧ (hd + 1) ≤ 4096 ∧ gsF F0 F A0 A ∧ okS (F0 19 4) (A 20, A 21, F 19 2) ∧ sprF (F0 19 4) v (Int.toNat (4097 - (hd + 1))) (A 20, A 21, F 19 2) (hd + 1) = (sprF (F0 19 4) v 4097 (joinF (A0 20, A0 21, 0) x v) 0))) ∧ (Int.toNat (100 * (4097 - (hd + 1)))) < (Int.toNat (100 * (4097 - hd) - 1 - 10 * (r - (q - 1)))))) ∧ (¬ w32 (q + 1) < w32 r → ((19 = 19 ∧ x = x ∧ v = v ∧ ((0 ≤ hd ∧ hd < 4096) ∧ (0 ≤ q ∧ q < 64 ∧ 0 ≤ p ∧ p < 64) ∧ (q - 1 ≤ r ∧ r ≤ q + 1) ∧ (p - 1 ≤ (p - 1) ∧ (p - 1) ≤ p + 2) ∧ gsF F0 F A0 A ∧ ∃ sz : BS, okS (F0 19 4) sz ∧ (A 20, A 21, F 19 2) = colsF (F0 19 4) v (rowsF (F0 19 4) v sz q p (Int.toNat (r - (q - 1)))) r p (Int.toNat ((p - 1) - (p - 1))) ∧ sprF (F0 19 4) v (Int.toNat (4096 - hd)) (rowsF (F0 19 4) v sz q p 3) (hd + 1) = (sprF (F0 19 4) v 4097 (joinF (A0 20, A0 21, 0) x v) 0))) ∧ (Int.toNat (100 * (4097 - hd) - 2 - 10 * (r - (q - 1)) - ((p - 1) - (p - 1)))) < (Int.toNat (100 * (4097 - hd) - 1 - 10 * (r - (q - 1))))))
  refine ⟨fun c1 => ?_, fun c1 => ?_⟩
  · skip
    (try simp (disch := omega) only [w32_id] at c1)
    refine ⟨⟨rfl, rfl, rfl, ?_⟩, by omega⟩
    rw [show Int.toNat (r - (q - 1)) = 3 by omega] at hE
    refine ⟨by omega, by omega, hG, ?_, ?_⟩
    · rw [hE]; exact rowsF_ok hK (by omega) (by omega) 3
    · rw [hE, ← hR, show (4097 - (hd + 1)) = 4096 - hd by omega]
  · skip
    (try simp (disch := omega) only [w32_id] at c1)
    refine ⟨⟨rfl, rfl, rfl, ?_⟩, by omega⟩
    refine ⟨h1, h2, by omega, by omega, hG, sz, hK, ?_, hR⟩
    rw [hE, show Int.toNat (p - 1 - (p - 1)) = 0 by omega]; rfl
set_option maxRecDepth 20000 in
theorem qvX6_spread_19_79 (x : Int) (v : Int) (F0 : FF) (A0 : AA) (K : KK) (h : ((0 ≤ (F0 19 3) ∧ (F0 19 3) ≤ 6) ∧ (F0 19 4) = p2 ((F0 19 3)) ∧ (∀ j, -2 ≤ A0 20 j ∧ A0 20 j < 5000) ∧ (0 ≤ x ∧ x < (F0 19 4) * (F0 19 4)) ∧ 0 ≤ v ∧ v < 5000) ∧ (∀ (G_1 : FF) (B_1 : AA), (gsP G_1 B_1 (sprF ((F0 19 4)) v 4097 (joinF (A0 20, A0 21, 0) x v) 0) ∧ gsF F0 G_1 A0 B_1) → (K (some none) G_1 B_1))) (hd : Int) (q : Int) (p : Int) (r : Int) (cl : Int) (F : FF) (A : AA) (hi : (0 ≤ hd ∧ hd < 4096) ∧ (0 ≤ q ∧ q < 64 ∧ 0 ≤ p ∧ p < 64) ∧ (q - 1 ≤ r ∧ r ≤ q + 1) ∧ (p - 1 ≤ cl ∧ cl ≤ p + 2) ∧ gsF F0 F A0 A ∧ ∃ sz : BS, okS (F0 19 4) sz ∧ (A 20, A 21, F 19 2) = colsF (F0 19 4) v (rowsF (F0 19 4) v sz q p (Int.toNat (r - (q - 1)))) r p (Int.toNat (cl - (p - 1))) ∧ sprF (F0 19 4) v (Int.toNat (4096 - hd)) (rowsF (F0 19 4) v sz q p 3) (hd + 1) = (sprF (F0 19 4) v 4097 (joinF (A0 20, A0 21, 0) x v) 0)) : am_stp qxX6_spread (am_run qxX6_spread qnX6_spread_19 (fun pc ls st F A u => qiX6_spread_19 x v F0 A0 pc ls st F A u ∧ quX6_spread_19 pc ls st F A < quX6_spread_19 79 [some (vR 19), some (vI x), some (vI v), some (vI hd), some (vI q), some (vI p), some (vI r), some (vI cl)] [] F A) K 34) K 79 [some (vR 19), some (vI x), some (vI v), some (vI hd), some (vI q), some (vI p), some (vI r), some (vI cl)] [] F A 0 := by
  obtain ⟨hp, h⟩ := h
  obtain ⟨h1, h2, h3, h4, hG, sz, hK, hE, hR⟩ := hi
  obtain ⟨p1, p2', p3, p4, p5⟩ := hp
  have hS : 1 ≤ F0 19 4 ∧ F0 19 4 ≤ 64 := by rw [p2']; exact ⟨p2_pos, p2_le p1.2⟩
  have hSS := sq64 (S := F0 19 4) (by omega) (by omega)
  have hS0 : 0 ≤ F0 19 4 * F0 19 4 := Int.mul_nonneg (by omega) (by omega)
  have f3 : F 19 3 = F0 19 3 := hG.2 19 3 (Or.inr (by decide))
  have f4 : F 19 4 = F0 19 4 := hG.2 19 4 (Or.inr (by decide))
  have kc := colsF_ok (S := F0 19 4) (r := r) (o := p) (rowsF_ok (q := q) (o := p) hK p5.1 p5.2 (Int.toNat (r - (q - 1)))) p5.1 p5.2 (Int.toNat (cl - (p - 1)))
  rw [← hE] at kc
  have k1 := kc.2.2.1
  have k2 := kc.2.2.2
  dsimp only at k1 k2
  have ki : (if 0 ≤ r ∧ r < F0 19 4 ∧ 0 ≤ cl ∧ cl < F0 19 4 then r * F0 19 4 + cl else -1) = ixF (F0 19 4) r cl := rfl
  have kj := @ixF_r (F0 19 4) r cl
  show (w32 (p + 1) < w32 cl → ((19 = 19 ∧ x = x ∧ v = v ∧ ((0 ≤ hd ∧ hd < 4096) ∧ (0 ≤ q ∧ q < 64 ∧ 0 ≤ p ∧ p < 64) ∧ (q - 1 ≤ (r + 1) ∧ (r + 1) ≤ q + 2) ∧ gsF F0 F A0 A ∧ ∃ sz : BS, okS (F0 19 4) sz ∧ (A 20, A 21, F 19 2) = rowsF (F0 19 4) v sz q p (Int.toNat ((r + 1) - (q - 1))) ∧ sprF (F0 19 4) v (Int.toNat (4096 - hd)) (rowsF (F0 19 4) v sz q p 3) (hd + 1) = (sprF (F0 19 4) v 4097 (joinF (A0 20, A0 21, 0) x v) 0))) ∧ (Int.toNat (100 * (4097 - hd) - 1 - 10 * ((r + 1) - (q - 1)))) < (Int.toNat (100 * (4097 - hd) - 2 - 10 * (r - (q - 1)) - (cl - (p - 1)))))) ∧ (¬ w32 (p + 1) < w32 cl → (((1 ≤ (F 19 4) ∧ (F 19 4) ≤ 64) ∧ (-2147483648 ≤ r ∧ r < 2147483648) ∧ -2147483648 ≤ cl ∧ cl < 2147483648) ∧ (((-1 ≤ (if 0 ≤ r ∧ r < (F 19 4) ∧ 0 ≤ cl ∧ cl < (F 19 4) then r * (F 19 4) + cl else -1) ∧ (if 0 ≤ r ∧ r < (F 19 4) ∧ 0 ≤ cl ∧ cl < (F 19 4) then r * (F 19 4) + cl else -1) < 4096) ∧ (∀ j, -2 ≤ A 20 j ∧ A 20 j < 5000) ∧ 0 ≤ (F 19 2) ∧ (F 19 2) ≤ 4096) ∧ (∀ (G_1 : FF) (B_1 : AA), (gsP G_1 B_1 (joinF (A 20, A 21, (F 19 2)) (if 0 ≤ r ∧ r < (F 19 4) ∧ 0 ≤ cl ∧ cl < (F 19 4) then r * (F 19 4) + cl else -1) v) ∧ gsF F G_1 A B_1) → ((19 = 19 ∧ x = x ∧ v = v ∧ ((0 ≤ hd ∧ hd < 4096) ∧ (0 ≤ q ∧ q < 64 ∧ 0 ≤ p ∧ p < 64) ∧ (q - 1 ≤ r ∧ r ≤ q + 1) ∧ (p - 1 ≤ (cl + 1) ∧ (cl + 1) ≤ p + 2) ∧ gsF F0 G_1 A0 B_1 ∧ ∃ sz : BS, okS (F0 19 4) sz ∧ (B_1 20, B_1 21, G_1 19 2) = colsF (F0 19 4) v (rowsF (F0 19 4) v sz q p (Int.toNat (r - (q - 1)))) r p (Int.toNat ((cl + 1) - (p - 1))) ∧ sprF (F0 19 4) v (Int.toNat (4096 - hd)) (rowsF (F0 19 4) v sz q p 3) (hd + 1) = (sprF (F0 19 4) v 4097 (joinF (A0 20, A0 21, 0) x v) 0))) ∧ (Int.toNat (100 * (4097 - hd) - 2 - 10 * (r - (q - 1)) - ((cl + 1) - (p - 1)))) < (Int.toNat (100 * (4097 - hd) - 2 - 10 * (r - (q - 1)) - (cl - (p - 1)))))))))
  refine ⟨fun c1 => ?_, fun c1 => ?_⟩
  · skip
    (try simp (disch := omega) only [w32_id] at c1)
    refine ⟨⟨rfl, rfl, rfl, ?_⟩, by omega⟩
    refine ⟨h1, h2, by omega, hG, sz, hK, ?_, hR⟩
    rw [hE, show Int.toNat (cl - (p - 1)) = 3 by omega, show r + 1 - (q - 1) = r - (q - 1) + 1 by omega, rowsF_s (by omega), show q - 1 + (r - (q - 1)) = r by omega]
  · skip
    (try simp (disch := omega) only [w32_id] at c1)
    refine ⟨by (rw [f4]; omega), ?_⟩
    refine ⟨by (rw [f4, ki]; exact ⟨by omega, kc.1, k1, k2⟩), ?_⟩
    intro G_1 B_1 g1
    refine ⟨⟨rfl, rfl, rfl, ?_⟩, by omega⟩
    rw [f4, ki] at g1
    have e := gsP_eq g1.1
    refine ⟨h1, h2, h3, by omega, gsF_trans hG g1.2, sz, hK, ?_, hR⟩
    rw [e, hE, show cl + 1 - (p - 1) = cl - (p - 1) + 1 by omega, colsF_s (by omega), show p - 1 + (cl - (p - 1)) = cl by omega]
set_option maxRecDepth 20000 in
theorem qvX6_spread_19 (x : Int) (v : Int) (F0 : FF) (A0 : AA) (K : KK) (h : ((0 ≤ (F0 19 3) ∧ (F0 19 3) ≤ 6) ∧ (F0 19 4) = p2 ((F0 19 3)) ∧ (∀ j, -2 ≤ A0 20 j ∧ A0 20 j < 5000) ∧ (0 ≤ x ∧ x < (F0 19 4) * (F0 19 4)) ∧ 0 ≤ v ∧ v < 5000) ∧ (∀ (G_1 : FF) (B_1 : AA), (gsP G_1 B_1 (sprF ((F0 19 4)) v 4097 (joinF (A0 20, A0 21, 0) x v) 0) ∧ gsF F0 G_1 A0 B_1) → (K (some none) G_1 B_1))) : am_body qxX6_spread qnX6_spread_19 34 (qiX6_spread_19 x v F0 A0) quX6_spread_19 [vR 19, vI x, vI v] 8 F0 A0 K := by
  refine ⟨qvX6_spread_19_0 x v F0 A0 K h, fun pc ls st F A u hI => ?_⟩
  unfold qiX6_spread_19 at hI
  replace hI := am_cond2 hI
  rcases hI with ⟨hb, hI⟩ | hI
  · have hb := am_bq hb
    subst hb
    split at hI
    · rename_i s0 s1 s2 hd
      obtain ⟨e0, e1, e2, hI⟩ := hI
      subst e0
      subst e1
      subst e2
      exact qvX6_spread_19_13 _ _ _ _ K h _ _ _ hI
    · exact hI.elim
  replace hI := am_cond2 hI
  rcases hI with ⟨hb, hI⟩ | hI
  · have hb := am_bq hb
    subst hb
    split at hI
    · rename_i s0 s1 s2 hd q p r
      obtain ⟨e0, e1, e2, hI⟩ := hI
      subst e0
      subst e1
      subst e2
      exact qvX6_spread_19_64 _ _ _ _ K h _ _ _ _ _ _ hI
    · exact hI.elim
  replace hI := am_cond2 hI
  rcases hI with ⟨hb, hI⟩ | hI
  · have hb := am_bq hb
    subst hb
    split at hI
    · rename_i s0 s1 s2 hd q p r cl
      obtain ⟨e0, e1, e2, hI⟩ := hI
      subst e0
      subst e1
      subst e2
      exact qvX6_spread_19_79 _ _ _ _ K h _ _ _ _ _ _ _ hI
    · exact hI.elim
  exact hI.elim
theorem qtX6_spread (l : Launch) : am_CT l layX qeX6_spread := am_met0 rfl (by decide +kernel) rfl rfl rfl rfl rfl (fun _ => rfl) rfl (qzX6_spread l) (fun k e1 h => (qyX6_spread l k e1 h).2) (fun as F A K h => by
  replace h : qsX6_spread as F A K := h
  unfold qsX6_spread at h
  split at h
  · rename_i o x v
    refine ⟨by first | exact Nat.le_of_ble_eq_true rfl | simp [am_fl, am_cat], ?_⟩
    replace h := am_cond2 h
    rcases h with ⟨hb, h⟩ | h
    · skip
      have hb0 := hb
      have hb0 := am_bq hb0
      subst hb0
      exact am_way_body (qvX6_spread_19 x v F A K h)
    exact h.elim
  · exact h.elim)
