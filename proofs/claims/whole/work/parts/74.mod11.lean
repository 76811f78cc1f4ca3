def qkX9_linesMet : Nat → Option CI := fun pc => cond (Nat.ble 56 pc) none (cond (Nat.ble 26 pc) (cond (Nat.ble 41 pc) (cond (Nat.ble 47 pc) (cond (Nat.ble 51 pc) (cond (Nat.beq pc 51) (some (.goto (-33), 54, [18])) (cond (Nat.beq pc 54) (some (.iload_n 2, 55, [])) (cond (Nat.beq pc 55) (some (.ireturn, 56, [])) (none)))) (cond (Nat.beq pc 47) (some (.istore_n 2, 48, [])) (cond (Nat.beq pc 48) (some (.iinc 3 1, 51, [])) (none)))) (cond (Nat.ble 45 pc) (cond (Nat.beq pc 45) (some (.iconst 0, 46, [])) (cond (Nat.beq pc 46) (some (.ior, 47, [])) (none))) (cond (Nat.beq pc 41) (some (.ishl, 42, [])) (cond (Nat.beq pc 42) (some (.goto 4, 45, [46])) (none))))) (cond (Nat.ble 32 pc) (cond (Nat.ble 36 pc) (cond (Nat.beq pc 36) (some (.ifCond .le 9, 39, [45])) (cond (Nat.beq pc 39) (some (.iconst 1, 40, [])) (cond (Nat.beq pc 40) (some (.iload_n 3, 41, [])) (none)))) (cond (Nat.beq pc 32) (some (.iload_n 3, 33, [])) (cond (Nat.beq pc 33) (some (.invokevirtual 363, 36, [])) (none)))) (cond (Nat.ble 30 pc) (cond (Nat.beq pc 30) (some (.aload_n 0, 31, [])) (cond (Nat.beq pc 31) (some (.iload_n 1, 32, [])) (none))) (cond (Nat.beq pc 26) (some (.if_icmp .ge 28, 29, [54])) (cond (Nat.beq pc 29) (some (.iload_n 2, 30, [])) (none)))))) (cond (Nat.ble 14 pc) (cond (Nat.ble 18 pc) (cond (Nat.ble 20 pc) (cond (Nat.beq pc 20) (some (.getfield 13, 23, [])) (cond (Nat.beq pc 23) (some (.bipush 15, 25, [])) (cond (Nat.beq pc 25) (some (.iaload, 26, [])) (none)))) (cond (Nat.beq pc 18) (some (.iload_n 3, 19, [])) (cond (Nat.beq pc 19) (some (.aload_n 0, 20, [])) (none)))) (cond (Nat.ble 16 pc) (cond (Nat.beq pc 16) (some (.iconst 0, 17, [])) (cond (Nat.beq pc 17) (some (.istore_n 3, 18, [])) (none))) (cond (Nat.beq pc 14) (some (.iconst 0, 15, [])) (cond (Nat.beq pc 15) (some (.istore_n 2, 16, [])) (none))))) (cond (Nat.ble 6 pc) (cond (Nat.ble 12 pc) (cond (Nat.beq pc 12) (some (.iconst 0, 13, [])) (cond (Nat.beq pc 13) (some (.ireturn, 14, [])) (none))) (cond (Nat.beq pc 6) (some (.invokevirtual 301, 9, [])) (cond (Nat.beq pc 9) (some (.ifCond .ne 5, 12, [14])) (none)))) (cond (Nat.ble 2 pc) (cond (Nat.beq pc 2) (some (.iload_n 1, 3, [])) (cond (Nat.beq pc 3) (some (.invokevirtual 298, 6, [])) (none))) (cond (Nat.beq pc 0) (some (.aload_n 0, 1, [])) (cond (Nat.beq pc 1) (some (.aload_n 0, 2, [])) (none)))))))
theorem qkX9_linesMet_ok : ∀ pc i nx ts, qkX9_linesMet pc = some (i, nx, ts) → am_cok cX9_linesMet pc (i, nx, ts) = true := fun pc i nx ts h => am_tok_ok (n := 56) (by decide +kernel) (fun pc h => by show cond (Nat.ble 56 pc) _ _ = _; rw [Nat.ble_eq_true_of_le h]; rfl) h
def qaX9_linesMet : Nat → Option CE := fun k => cond (Nat.beq k 298) (some qeX9_isCurve) (cond (Nat.beq k 301) (some qeX9_checks) (cond (Nat.beq k 363) (some qeX9_sure) (none)))
theorem qyX9_linesMet (l : Launch) : ∀ k e1, qaX9_linesMet k = some e1 → am_cal l layM RX9 22 k e1 ∧ ceT e1 = 0 := q_cons ⟨am_calV (ci := 9) (qtX9_isCurve l) qbX9_isCurve (by decide) rfl (am_tb_at 1651 (by decide +kernel) rfl), rfl⟩ (q_cons ⟨am_calV (ci := 9) (qtX9_checks l) qbX9_checks (by decide) rfl (am_tb_at 1655 (by decide +kernel) rfl), rfl⟩ (q_cons ⟨am_calV (ci := 9) (qtX9_sure l) qbX9_sure (by decide) rfl (am_tb_at 1887 (by decide +kernel) rfl), rfl⟩ (q_nil)))
def qxX9_linesMet : CX := (qkX9_linesMet, layM, qfX9, qaX9_linesMet, qcX9, qlX9, qmX9, (some .int), false, none, 0, none, fun _ => none)
theorem qzX9_linesMet (l : Launch) : am_sta l qxX9_linesMet RX9 22 cX9_linesMet := ⟨qkX9_linesMet_ok, layM_ok, qfX9_ok, qcX9_ok, qlX9_ok, am_mthP qmX9_ok (by decide), fun k e1 h => (qyX9_linesMet l k e1 h).1⟩
def qsX9_linesMet : SP := fun as F A K => match as with
  | [.inr (.inr o), .inl c] => cond (Nat.beq o 25) ((fgOK (mF A) ∧ (-2147483648 ≤ c ∧ c < 2147483648) ∧ RTB) ∧ (∀ (G_1 : FF) (B_1 : AA), (qdP F G_1 A B_1 ∧ G_1 25 0 = (if 0 ≤ c ∧ c < mF A 0 then 0 else 1)) → (K (some (some (vI (if 0 ≤ c ∧ c < mF A 0 then bitP (fun ii => 0 < sureF (mF A) c ii) (Int.toNat (mF A 1)) else 0)))) G_1 B_1))) (False)
  | _ => False
def qeX9_linesMet : CE := (yX9_linesMet, cX9_linesMet, 4, (some .int), 1, some 9, 0, [], 0, 22, qsX9_linesMet)
theorem qbX9_linesMet : am_mb qeX9_linesMet := ⟨am_tb_at 1886 (by decide +kernel) rfl, am_tb_at 124 (by decide +kernel) rfl, ⟨by decide, by decide, by decide +kernel⟩, by decide, by decide, am_tb_at 1884 (by decide +kernel) rfl, am_tb_at 1885 (by decide +kernel) rfl, _, _, rfl⟩
def qnX9_linesMet_25 : CUT := fun pc => cond (Nat.beq pc 18) (some [true, true, true, true]) (none)
def qiX9_linesMet_25 (c : Int) (F0 : FF) (A0 : AA) : REC := fun pc ls st F A u => cond (Nat.beq pc 18) (match ls, st, u with
    | [some (.inr (.inr s0)), some (.inl s1), some (.inl s), some (.inl k)], [], 0 => s0 = 25 ∧ s1 = c ∧ ((0 ≤ c ∧ c < mF A0 0) ∧ (0 ≤ k ∧ k ≤ mF A0 1) ∧ (qdP F0 F A0 A ∧ F 25 0 = 0) ∧ s = bitP (fun ii => 0 < sureF (mF A0) c ii) (Int.toNat k))
    | _, _, _ => False) (False)
def quX9_linesMet_25 : Nat → LVs → List AV → FF → AA → Nat := fun pc ls _ F A => cond (Nat.beq pc 18) (match ls with
    | [some (.inr (.inr s0)), some (.inl s1), some (.inl s), some (.inl k)] => Int.toNat (20 - k)
    | _ => 0) (0)
set_option maxRecDepth 20000 in
theorem qvX9_linesMet_25_0 (c : Int) (F0 : FF) (A0 : AA) (K : KK) (h : (fgOK (mF A0) ∧ (-2147483648 ≤ c ∧ c < 2147483648) ∧ RTB) ∧ (∀ (G_1 : FF) (B_1 : AA), (qdP F0 G_1 A0 B_1 ∧ G_1 25 0 = (if 0 ≤ c ∧ c < mF A0 0 then 0 else 1)) → (K (some (some (vI (if 0 ≤ c ∧ c < mF A0 0 then bitP (fun ii => 0 < sureF (mF A0) c ii) (Int.toNat (mF A0 1)) else 0)))) G_1 B_1))) : am_stp qxX9_linesMet (am_run qxX9_linesMet qnX9_linesMet_25 (qiX9_linesMet_25 c F0 A0) K 23) K 0 (am_ent [vR 25, vI c] 4) [] F0 A0 0 := by
  show am_stp qxX9_linesMet (am_run qxX9_linesMet qnX9_linesMet_25 (qiX9_linesMet_25 c F0 A0) K 23) K 0 [some (vR 25), some (vI c), none, none] [] F0 A0 0
  obtain ⟨hp, h⟩ := h
  have p1 := hp.1
  have q1 := p1.1.1
  have q2 := p1.1.2
  have rb := hp.2.2
  have m0 : A0 27 14 = mF A0 0 := rfl
  have m1 : A0 27 15 = mF A0 1 := rfl
  show ((0 ≤ mF A0 0 ∧ mF A0 0 ≤ 8) ∧ (0 ≤ mF A0 1 ∧ mF A0 1 ≤ 6) ∧ (-2147483648 ≤ c ∧ c < 2147483648)) ∧ (((bi (0 ≤ c ∧ c < mF A0 0)) = 0 ∨ (bi (0 ≤ c ∧ c < mF A0 0)) = 1) ∧ ((w32 (bi (0 ≤ c ∧ c < mF A0 0)) = w32 0 → (K (some (some (vI 0))) (upF F0 25 0 (1 - (bi (0 ≤ c ∧ c < mF A0 0)))) A0)) ∧ (¬ (w32 (bi (0 ≤ c ∧ c < mF A0 0)) = w32 0) → (25 = 25 ∧ c = c ∧ ((0 ≤ c ∧ c < mF A0 0) ∧ (0 ≤ 0 ∧ 0 ≤ mF A0 1) ∧ (qdP F0 (upF F0 25 0 (1 - (bi (0 ≤ c ∧ c < mF A0 0)))) A0 A0 ∧ (upF F0 25 0 (1 - (bi (0 ≤ c ∧ c < mF A0 0)))) 25 0 = 0) ∧ 0 = bitP (fun ii => 0 < sureF (mF A0) c ii) (Int.toNat 0))))))
  refine ⟨by first | exact bi_01 | omega, ?_⟩
  refine ⟨by first | exact bi_01 | omega, ?_⟩
  refine ⟨fun c1 => ?_, fun c1 => ?_⟩
  · skip
    (try (rw [m0] at c1)); (try (rw [m1] at c1)); (try simp (disch := omega) only [fat_in, w32_0, wbi0, Classical.not_not, w32_id] at c1)
    exact K_eq (h _ _ ⟨qdP_F (by decide), by rw [upF_s, bi_f c1, if_neg c1]; rfl⟩) (if_neg c1)
  · skip
    (try (rw [m0] at c1)); (try (rw [m1] at c1)); (try simp (disch := omega) only [fat_in, w32_0, wbi0, Classical.not_not, w32_id] at c1)
    refine ⟨rfl, rfl, ?_⟩
    exact ⟨c1, by omega, ⟨qdP_F (by decide), by rw [upF_s, bi_t c1]; rfl⟩, rfl⟩
set_option maxRecDepth 20000 in
theorem qvX9_linesMet_25_18 (c : Int) (F0 : FF) (A0 : AA) (K : KK) (h : (fgOK (mF A0) ∧ (-2147483648 ≤ c ∧ c < 2147483648) ∧ RTB) ∧ (∀ (G_1 : FF) (B_1 : AA), (qdP F0 G_1 A0 B_1 ∧ G_1 25 0 = (if 0 ≤ c ∧ c < mF A0 0 then 0 else 1)) → (K (some (some (vI (if 0 ≤ c ∧ c < mF A0 0 then bitP (fun ii => 0 < sureF (mF A0) c ii) (Int.toNat (mF A0 1)) else 0)))) G_1 B_1))) (s : Int) (k : Int) (F : FF) (A : AA) (hi : (0 ≤ c ∧ c < mF A0 0) ∧ (0 ≤ k ∧ k ≤ mF A0 1) ∧ (qdP F0 F A0 A ∧ F 25 0 = 0) ∧ s = bitP (fun ii => 0 < sureF (mF A0) c ii) (Int.toNat k)) : am_stp qxX9_linesMet (am_run qxX9_linesMet qnX9_linesMet_25 (fun pc ls st F9 A9 u => qiX9_linesMet_25 c F0 A0 pc ls st F9 A9 u ∧ quX9_linesMet_25 pc ls st F9 A9 < quX9_linesMet_25 18 [some (vR 25), some (vI c), some (vI s), some (vI k)] [] F A) K 23) K 18 [some (vR 25), some (vI c), some (vI s), some (vI k)] [] F A 0 := by
  obtain ⟨hp, h⟩ := h
  have p1 := hp.1
  have q1 := p1.1.1
  have q2 := p1.1.2
  have rb := hp.2.2
  have m0 : A0 27 14 = mF A0 0 := rfl
  have m1 : A0 27 15 = mF A0 1 := rfl
  obtain ⟨h1, h2, ⟨hQ, hT⟩, h4⟩ := hi
  have eF := qdP_f hQ
  have n0 : A 27 14 = mF A0 0 := by rw [← eF]; rfl
  have n1 : A 27 15 = mF A0 1 := by rw [← eF]; rfl
  show (0 ≤ w32 15 ∧ w32 15 < 16) ∧ ((w32 k < w32 (A 27 (w32 15)) → ((fgOK (mF A) ∧ (0 ≤ c ∧ c < mF A 0) ∧ (0 ≤ k ∧ k < mF A 1) ∧ ((rtsX (mF A) c k).length : Int) ≤ 8) ∧ (∀ (G_1 : FF) (B_1 : AA), (qdP F G_1 A B_1 ∧ G_1 25 0 = (F 25 0)) → ((w32 0 < w32 (sureF (mF A) c k) → ((25 = 25 ∧ c = c ∧ ((0 ≤ c ∧ c < mF A0 0) ∧ (0 ≤ (k + 1) ∧ (k + 1) ≤ mF A0 1) ∧ (qdP F0 G_1 A0 B_1 ∧ G_1 25 0 = 0) ∧ (x_or s (x_shl 1 k)) = bitP (fun ii => 0 < sureF (mF A0) c ii) (Int.toNat (k + 1)))) ∧ (Int.toNat (20 - (k + 1))) < (Int.toNat (20 - k)))) ∧ (¬ w32 0 < w32 (sureF (mF A) c k) → ((25 = 25 ∧ c = c ∧ ((0 ≤ c ∧ c < mF A0 0) ∧ (0 ≤ (k + 1) ∧ (k + 1) ≤ mF A0 1) ∧ (qdP F0 G_1 A0 B_1 ∧ G_1 25 0 = 0) ∧ (x_or s 0) = bitP (fun ii => 0 < sureF (mF A0) c ii) (Int.toNat (k + 1)))) ∧ (Int.toNat (20 - (k + 1))) < (Int.toNat (20 - k)))))))) ∧ (¬ w32 k < w32 (A 27 (w32 15)) → (K (some (some (vI s))) F A)))
  refine ⟨by first | decide | exact Or.inl rfl | omega | (rw [eF]; exact ⟨p1, by omega, by omega, rb (mF A0) p1 c k (by omega) (by omega) (by omega) (by omega)⟩), ?_⟩
  refine ⟨fun c1 => ?_, fun c1 => ?_⟩
  · skip
    (try rw [n0] at c1); (try rw [n1] at c1); (try rw [eF] at c1); (try simp (disch := omega) only [fat_in, w32_0, w32_id] at c1); (try (have q5 := sureF_b (rb (mF A0) p1 c k (by omega) (by omega) (by omega) (by omega)); change _ < w32 (sureF (mF A0) c k) at c1; rw [w32_id (by omega) (by omega)] at c1)); (try (have q5 := sureF_b (rb (mF A0) p1 c k (by omega) (by omega) (by omega) (by omega)); change ¬ (_ < w32 (sureF (mF A0) c k)) at c1; rw [w32_id (by omega) (by omega)] at c1))
    refine ⟨by first | decide | exact Or.inl rfl | omega | (rw [eF]; exact ⟨p1, by omega, by omega, rb (mF A0) p1 c k (by omega) (by omega) (by omega) (by omega)⟩), ?_⟩
    intro G_1 B_1 g1
    refine ⟨fun c2 => ?_, fun c2 => ?_⟩
    · skip
      (try rw [n0] at c2); (try rw [n1] at c2); (try rw [eF] at c2); (try simp (disch := omega) only [fat_in, w32_0, w32_id] at c2); (try (have q5 := sureF_b (rb (mF A0) p1 c k (by omega) (by omega) (by omega) (by omega)); change _ < w32 (sureF (mF A0) c k) at c2; rw [w32_id (by omega) (by omega)] at c2)); (try (have q5 := sureF_b (rb (mF A0) p1 c k (by omega) (by omega) (by omega) (by omega)); change ¬ (_ < w32 (sureF (mF A0) c k)) at c2; rw [w32_id (by omega) (by omega)] at c2))
      refine ⟨⟨rfl, rfl, ?_⟩, by omega⟩
      refine ⟨h1, by omega, ⟨qdP_trans hQ g1.1, g1.2.trans hT⟩, ?_⟩
      rw [bitP_t (p := (fun ii => 0 < sureF (mF A0) c ii)) h2.1 c2, h4]
    · skip
      (try rw [n0] at c2); (try rw [n1] at c2); (try rw [eF] at c2); (try simp (disch := omega) only [fat_in, w32_0, w32_id] at c2); (try (have q5 := sureF_b (rb (mF A0) p1 c k (by omega) (by omega) (by omega) (by omega)); change _ < w32 (sureF (mF A0) c k) at c2; rw [w32_id (by omega) (by omega)] at c2)); (try (have q5 := sureF_b (rb (mF A0) p1 c k (by omega) (by omega) (by omega) (by omega)); change ¬ (_ < w32 (sureF (mF A0) c k)) at c2; rw [w32_id (by omega) (by omega)] at c2))
      refine ⟨⟨rfl, rfl, ?_⟩, by omega⟩
      refine ⟨h1, by omega, ⟨qdP_trans hQ g1.1, g1.2.trans hT⟩, ?_⟩
      rw [bitP_f (p := (fun ii => 0 < sureF (mF A0) c ii)) h2.1 c2, h4, bitP_0]
  · skip
    (try rw [n0] at c1); (try rw [n1] at c1); (try rw [eF] at c1); (try simp (disch := omega) only [fat_in, w32_0, w32_id] at c1); (try (have q5 := sureF_b (rb (mF A0) p1 c k (by omega) (by omega) (by omega) (by omega)); change _ < w32 (sureF (mF A0) c k) at c1; rw [w32_id (by omega) (by omega)] at c1)); (try (have q5 := sureF_b (rb (mF A0) p1 c k (by omega) (by omega) (by omega) (by omega)); change ¬ (_ < w32 (sureF (mF A0) c k)) at c1; rw [w32_id (by omega) (by omega)] at c1))
    exact K_eq (h _ _ ⟨hQ, by rw [hT, if_pos h1]⟩) (by rw [if_pos h1, h4, show k = mF A0 1 by omega])
set_option maxRecDepth 20000 in
theorem qvX9_linesMet_25 (c : Int) (F0 : FF) (A0 : AA) (K : KK) (h : (fgOK (mF A0) ∧ (-2147483648 ≤ c ∧ c < 2147483648) ∧ RTB) ∧ (∀ (G_1 : FF) (B_1 : AA), (qdP F0 G_1 A0 B_1 ∧ G_1 25 0 = (if 0 ≤ c ∧ c < mF A0 0 then 0 else 1)) → (K (some (some (vI (if 0 ≤ c ∧ c < mF A0 0 then bitP (fun ii => 0 < sureF (mF A0) c ii) (Int.toNat (mF A0 1)) else 0)))) G_1 B_1))) : am_body qxX9_linesMet qnX9_linesMet_25 23 (qiX9_linesMet_25 c F0 A0) quX9_linesMet_25 [vR 25, vI c] 4 F0 A0 K := by
  refine ⟨qvX9_linesMet_25_0 c F0 A0 K h, fun pc ls st F A u hI => ?_⟩
  unfold qiX9_linesMet_25 at hI
  replace hI := am_cond2 hI
  rcases hI with ⟨hb, hI⟩ | hI
  · have hb := am_bq hb
    subst hb
    split at hI
    · rename_i s0 s1 s k
      obtain ⟨e0, e1, hI⟩ := hI
      subst e0
      subst e1
      exact qvX9_linesMet_25_18 _ _ _ K h _ _ _ _ hI
    · exact hI.elim
  exact hI.elim
theorem qtX9_linesMet (l : Launch) : am_CT l layM qeX9_linesMet := am_met0 rfl (by decide +kernel) rfl rfl rfl rfl rfl (fun _ => rfl) rfl (qzX9_linesMet l) (fun k e1 h => (qyX9_linesMet l k e1 h).2) (fun as F A K h => by
  replace h : qsX9_linesMet as F A K := h
  unfold qsX9_linesMet at h
  split at h
  · rename_i o c
    refine ⟨by first | exact Nat.le_of_ble_eq_true rfl | simp [am_fl, am_cat], ?_⟩
    replace h := am_cond2 h
    rcases h with ⟨hb, h⟩ | h
    · skip
      have hb0 := hb
      have hb0 := am_bq hb0
      subst hb0
      exact am_way_body (qvX9_linesMet_25 c F A K h)
    exact h.elim
  · exact h.elim)
def qkX9_curvesMet : Nat → Option CI := fun pc => cond (Nat.ble 56 pc) none (cond (Nat.ble 26 pc) (cond (Nat.ble 41 pc) (cond (Nat.ble 47 pc) (cond (Nat.ble 51 pc) (cond (Nat.beq pc 51) (some (.goto (-33), 54, [18])) (cond (Nat.beq pc 54) (some (.iload_n 2, 55, [])) (cond (Nat.beq pc 55) (some (.ireturn, 56, [])) (none)))) (cond (Nat.beq pc 47) (some (.istore_n 2, 48, [])) (cond (Nat.beq pc 48) (some (.iinc 3 1, 51, [])) (none)))) (cond (Nat.ble 45 pc) (cond (Nat.beq pc 45) (some (.iconst 0, 46, [])) (cond (Nat.beq pc 46) (some (.ior, 47, [])) (none))) (cond (Nat.beq pc 41) (some (.ishl, 42, [])) (cond (Nat.beq pc 42) (some (.goto 4, 45, [46])) (none))))) (cond (Nat.ble 32 pc) (cond (Nat.ble 36 pc) (cond (Nat.beq pc 36) (some (.ifCond .le 9, 39, [45])) (cond (Nat.beq pc 39) (some (.iconst 1, 40, [])) (cond (Nat.beq pc 40) (some (.iload_n 3, 41, [])) (none)))) (cond (Nat.beq pc 32) (some (.iload_n 1, 33, [])) (cond (Nat.beq pc 33) (some (.invokevirtual 363, 36, [])) (none)))) (cond (Nat.ble 30 pc) (cond (Nat.beq pc 30) (some (.aload_n 0, 31, [])) (cond (Nat.beq pc 31) (some (.iload_n 3, 32, [])) (none))) (cond (Nat.beq pc 26) (some (.if_icmp .ge 28, 29, [54])) (cond (Nat.beq pc 29) (some (.iload_n 2, 30, [])) (none)))))) (cond (Nat.ble 14 pc) (cond (Nat.ble 18 pc) (cond (Nat.ble 20 pc) (cond (Nat.beq pc 20) (some (.getfield 13, 23, [])) (cond (Nat.beq pc 23) (some (.bipush 14, 25, [])) (cond (Nat.beq pc 25) (some (.iaload, 26, [])) (none)))) (cond (Nat.beq pc 18) (some (.iload_n 3, 19, [])) (cond (Nat.beq pc 19) (some (.aload_n 0, 20, [])) (none)))) (cond (Nat.ble 16 pc) (cond (Nat.beq pc 16) (some (.iconst 0, 17, [])) (cond (Nat.beq pc 17) (some (.istore_n 3, 18, [])) (none))) (cond (Nat.beq pc 14) (some (.iconst 0, 15, [])) (cond (Nat.beq pc 15) (some (.istore_n 2, 16, [])) (none))))) (cond (Nat.ble 6 pc) (cond (Nat.ble 12 pc) (cond (Nat.beq pc 12) (some (.iconst 0, 13, [])) (cond (Nat.beq pc 13) (some (.ireturn, 14, [])) (none))) (cond (Nat.beq pc 6) (some (.invokevirtual 301, 9, [])) (cond (Nat.beq pc 9) (some (.ifCond .ne 5, 12, [14])) (none)))) (cond (Nat.ble 2 pc) (cond (Nat.beq pc 2) (some (.iload_n 1, 3, [])) (cond (Nat.beq pc 3) (some (.invokevirtual 308, 6, [])) (none))) (cond (Nat.beq pc 0) (some (.aload_n 0, 1, [])) (cond (Nat.beq pc 1) (some (.aload_n 0, 2, [])) (none)))))))
theorem qkX9_curvesMet_ok : ∀ pc i nx ts, qkX9_curvesMet pc = some (i, nx, ts) → am_cok cX9_curvesMet pc (i, nx, ts) = true := fun pc i nx ts h => am_tok_ok (n := 56) (by decide +kernel) (fun pc h => by show cond (Nat.ble 56 pc) _ _ = _; rw [Nat.ble_eq_true_of_le h]; rfl) h
def qaX9_curvesMet : Nat → Option CE := fun k => cond (Nat.beq k 308) (some qeX9_isLine) (cond (Nat.beq k 301) (some qeX9_checks) (cond (Nat.beq k 363) (some qeX9_sure) (none)))
theorem qyX9_curvesMet (l : Launch) : ∀ k e1, qaX9_curvesMet k = some e1 → am_cal l layM RX9 22 k e1 ∧ ceT e1 = 0 := q_cons ⟨am_calV (ci := 9) (qtX9_isLine l) qbX9_isLine (by decide) rfl (am_tb_at 1683 (by decide +kernel) rfl), rfl⟩ (q_cons ⟨am_calV (ci := 9) (qtX9_checks l) qbX9_checks (by decide) rfl (am_tb_at 1655 (by decide +kernel) rfl), rfl⟩ (q_cons ⟨am_calV (ci := 9) (qtX9_sure l) qbX9_sure (by decide) rfl (am_tb_at 1887 (by decide +kernel) rfl), rfl⟩ (q_nil)))
def qxX9_curvesMet : CX := (qkX9_curvesMet, layM, qfX9, qaX9_curvesMet, qcX9, qlX9, qmX9, (some .int), false, none, 0, none, fun _ => none)
theorem qzX9_curvesMet (l : Launch) : am_sta l qxX9_curvesMet RX9 22 cX9_curvesMet := ⟨qkX9_curvesMet_ok, layM_ok, qfX9_ok, qcX9_ok, qlX9_ok, am_mthP qmX9_ok (by decide), fun k e1 h => (qyX9_curvesMet l k e1 h).1⟩
def qsX9_curvesMet : SP := fun as F A K => match as with
  | [.inr (.inr o), .inl l] => cond (Nat.beq o 25) ((fgOK (mF A) ∧ (-2147483648 ≤ l ∧ l < 2147483648) ∧ RTB) ∧ (∀ (G_1 : FF) (B_1 : AA), (qdP F G_1 A B_1 ∧ G_1 25 0 = (if 0 ≤ l ∧ l < mF A 1 then 0 else 1)) → (K (some (some (vI (if 0 ≤ l ∧ l < mF A 1 then bitP (fun ii => 0 < sureF (mF A) ii l) (Int.toNat (mF A 0)) else 0)))) G_1 B_1))) (False)
  | _ => False
def qeX9_curvesMet : CE := (yX9_curvesMet, cX9_curvesMet, 4, (some .int), 1, some 9, 0, [], 0, 22, qsX9_curvesMet)
theorem qbX9_curvesMet : am_mb qeX9_curvesMet := ⟨am_tb_at 1894 (by decide +kernel) rfl, am_tb_at 124 (by decide +kernel) rfl, ⟨by decide, by decide, by decide +kernel⟩, by decide, by decide, am_tb_at 1892 (by decide +kernel) rfl, am_tb_at 1893 (by decide +kernel) rfl, _, _, rfl⟩
def qnX9_curvesMet_25 : CUT := fun pc => cond (Nat.beq pc 18) (some [true, true, true, true]) (none)
def qiX9_curvesMet_25 (l : Int) (F0 : FF) (A0 : AA) : REC := fun pc ls st F A u => cond (Nat.beq pc 18) (match ls, st, u with
    | [some (.inr (.inr s0)), some (.inl s1), some (.inl s), some (.inl k)], [], 0 => s0 = 25 ∧ s1 = l ∧ ((0 ≤ l ∧ l < mF A0 1) ∧ (0 ≤ k ∧ k ≤ mF A0 0) ∧ (qdP F0 F A0 A ∧ F 25 0 = 0) ∧ s = bitP (fun ii => 0 < sureF (mF A0) ii l) (Int.toNat k))
    | _, _, _ => False) (False)
def quX9_curvesMet_25 : Nat → LVs → List AV → FF → AA → Nat := fun pc ls _ F A => cond (Nat.beq pc 18) (match ls with
    | [some (.inr (.inr s0)), some (.inl s1), some (.inl s), some (.inl k)] => Int.toNat (20 - k)
    | _ => 0) (0)
set_option maxRecDepth 20000 in
theorem qvX9_curvesMet_25_0 (l : Int) (F0 : FF) (A0 : AA) (K : KK) (h : (fgOK (mF A0) ∧ (-2147483648 ≤ l ∧ l < 2147483648) ∧ RTB) ∧ (∀ (G_1 : FF) (B_1 : AA), (qdP F0 G_1 A0 B_1 ∧ G_1 25 0 = (if 0 ≤ l ∧ l < mF A0 1 then 0 else 1)) → (K (some (some (vI (if 0 ≤ l ∧ l < mF A0 1 then bitP (fun ii => 0 < sureF (mF A0) ii l) (Int.toNat (mF A0 0)) else 0)))) G_1 B_1))) : am_stp qxX9_curvesMet (am_run qxX9_curvesMet qnX9_curvesMet_25 (qiX9_curvesMet_25 l F0 A0) K 23) K 0 (am_ent [vR 25, vI l] 4) [] F0 A0 0 := by
  show am_stp qxX9_curvesMet (am_run qxX9_curvesMet qnX9_curvesMet_25 (qiX9_curvesMet_25 l F0 A0) K 23) K 0 [some (vR 25), some (vI l), none, none] [] F0 A0 0
  obtain ⟨hp, h⟩ := h
  have p1 := hp.1
  have q1 := p1.1.1
  have q2 := p1.1.2
  have rb := hp.2.2
  have m0 : A0 27 14 = mF A0 0 := rfl
  have m1 : A0 27 15 = mF A0 1 := rfl
  show ((0 ≤ mF A0 0 ∧ mF A0 0 ≤ 8) ∧ (0 ≤ mF A0 1 ∧ mF A0 1 ≤ 6) ∧ (-2147483648 ≤ l ∧ l < 2147483648)) ∧ (((bi (0 ≤ l ∧ l < mF A0 1)) = 0 ∨ (bi (0 ≤ l ∧ l < mF A0 1)) = 1) ∧ ((w32 (bi (0 ≤ l ∧ l < mF A0 1)) = w32 0 → (K (some (some (vI 0))) (upF F0 25 0 (1 - (bi (0 ≤ l ∧ l < mF A0 1)))) A0)) ∧ (¬ (w32 (bi (0 ≤ l ∧ l < mF A0 1)) = w32 0) → (25 = 25 ∧ l = l ∧ ((0 ≤ l ∧ l < mF A0 1) ∧ (0 ≤ 0 ∧ 0 ≤ mF A0 0) ∧ (qdP F0 (upF F0 25 0 (1 - (bi (0 ≤ l ∧ l < mF A0 1)))) A0 A0 ∧ (upF F0 25 0 (1 - (bi (0 ≤ l ∧ l < mF A0 1)))) 25 0 = 0) ∧ 0 = bitP (fun ii => 0 < sureF (mF A0) ii l) (Int.toNat 0))))))
  refine ⟨by first | exact bi_01 | omega, ?_⟩
  refine ⟨by first | exact bi_01 | omega, ?_⟩
  refine ⟨fun c1 => ?_, fun c1 => ?_⟩
  · skip
    (try (rw [m0] at c1)); (try (rw [m1] at c1)); (try simp (disch := omega) only [fat_in, w32_0, wbi0, Classical.not_not, w32_id] at c1)
    exact K_eq (h _ _ ⟨qdP_F (by decide), by rw [upF_s, bi_f c1, if_neg c1]; rfl⟩) (if_neg c1)
  · skip
    (try (rw [m0] at c1)); (try (rw [m1] at c1)); (try simp (disch := omega) only [fat_in, w32_0, wbi0, Classical.not_not, w32_id] at c1)
    refine ⟨rfl, rfl, ?_⟩
    exact ⟨c1, by omega, ⟨qdP_F (by decide), by rw [upF_s, bi_t c1]; rfl⟩, rfl⟩
set_option maxRecDepth 20000 in
theorem qvX9_curvesMet_25_18 (l : Int) (F0 : FF) (A0 : AA) (K : KK) (h : (fgOK (mF A0) ∧ (-2147483648 ≤ l ∧ l < 2147483648) ∧ RTB) ∧ (∀ (G_1 : FF) (B_1 : AA), (qdP F0 G_1 A0 B_1 ∧ G_1 25 0 = (if 0 ≤ l ∧ l < mF A0 1 then 0 else 1)) → (K (some (some (vI (if 0 ≤ l ∧ l < mF A0 1 then bitP (fun ii => 0 < sureF (mF A0) ii l) (Int.toNat (mF A0 0)) else 0)))) G_1 B_1))) (s : Int) (k : Int) (F : FF) (A : AA) (hi : (0 ≤ l ∧ l < mF A0 1) ∧ (0 ≤ k ∧ k ≤ mF A0 0) ∧ (qdP F0 F A0 A ∧ F 25 0 = 0) ∧ s = bitP (fun ii => 0 < sureF (mF A0) ii l) (Int.toNat k)) : am_stp qxX9_curvesMet (am_run qxX9_curvesMet qnX9_curvesMet_25 (fun pc ls st F9 A9 u => qiX9_curvesMet_25 l F0 A0 pc ls st F9 A9 u ∧ quX9_curvesMet_25 pc ls st F9 A9 < quX9_curvesMet_25 18 [some (vR 25), some (vI l), some (vI s), some (vI k)] [] F A) K 23) K 18 [some (vR 25), some (vI l), some (vI s), some (vI k)] [] F A 0 := by
  obtain ⟨hp, h⟩ := h
  have p1 := hp.1
  have q1 := p1.1.1
  have q2 := p1.1.2
  have rb := hp.2.2
  have m0 : A0 27 14 = mF A0 0 := rfl
  have m1 : A0 27 15 = mF A0 1 := rfl
  obtain ⟨h1, h2, ⟨hQ, hT⟩, h4⟩ := hi
  have eF := qdP_f hQ
  have n0 : A 27 14 = mF A0 0 := by rw [← eF]; rfl
  have n1 : A 27 15 = mF A0 1 := by rw [← eF]; rfl
  show (0 ≤ w32 14 ∧ w32 14 < 16) ∧ ((w32 k < w32 (A 27 (w32 14)) → ((fgOK (mF A) ∧ (0 ≤ k ∧ k < mF A 0) ∧ (0 ≤ l ∧ l < mF A 1) ∧ ((rtsX (mF A) k l).length : Int) ≤ 8) ∧ (∀ (G_1 : FF) (B_1 : AA), (qdP F G_1 A B_1 ∧ G_1 25 0 = (F 25 0)) → ((w32 0 < w32 (sureF (mF A) k l) → ((25 = 25 ∧ l = l ∧ ((0 ≤ l ∧ l < mF A0 1) ∧ (0 ≤ (k + 1) ∧ (k + 1) ≤ mF A0 0) ∧ (qdP F0 G_1 A0 B_1 ∧ G_1 25 0 = 0) ∧ (x_or s (x_shl 1 k)) = bitP (fun ii => 0 < sureF (mF A0) ii l) (Int.toNat (k + 1)))) ∧ (Int.toNat (20 - (k + 1))) < (Int.toNat (20 - k)))) ∧ (¬ w32 0 < w32 (sureF (mF A) k l) → ((25 = 25 ∧ l = l ∧ ((0 ≤ l ∧ l < mF A0 1) ∧ (0 ≤ (k + 1) ∧ (k + 1) ≤ mF A0 0) ∧ (qdP F0 G_1 A0 B_1 ∧ G_1 25 0 = 0) ∧ (x_or s 0) = bitP (fun ii => 0 < sureF (mF A0) ii l) (Int.toNat (k + 1)))) ∧ (Int.toNat (20 - (k + 1))) < (Int.toNat (20 - k)))))))) ∧ (¬ w32 k < w32 (A 27 (w32 14)) → (K (some (some (vI s))) F A)))
  refine ⟨by first | decide | exact Or.inl rfl | omega | (rw [eF]; exact ⟨p1, by omega, by omega, rb (mF A0) p1 k l (by omega) (by omega) (by omega) (by omega)⟩), ?_⟩
  refine ⟨fun c1 => ?_, fun c1 => ?_⟩
  · skip
    (try rw [n0] at c1); (try rw [n1] at c1); (try rw [eF] at c1); (try simp (disch := omega) only [fat_in, w32_0, w32_id] at c1); (try (have q5 := sureF_b (rb (mF A0) p1 k l (by omega) (by omega) (by omega) (by omega)); change _ < w32 (sureF (mF A0) k l) at c1; rw [w32_id (by omega) (by omega)] at c1)); (try (have q5 := sureF_b (rb (mF A0) p1 k l (by omega) (by omega) (by omega) (by omega)); change ¬ (_ < w32 (sureF (mF A0) k l)) at c1; rw [w32_id (by omega) (by omega)] at c1))
    refine ⟨by first | decide | exact Or.inl rfl | omega | (rw [eF]; exact ⟨p1, by omega, by omega, rb (mF A0) p1 k l (by omega) (by omega) (by omega) (by omega)⟩), ?_⟩
    intro G_1 B_1 g1
    refine ⟨fun c2 => ?_, fun c2 => ?_⟩
    · skip
      (try rw [n0] at c2); (try rw [n1] at c2); (try rw [eF] at c2); (try simp (disch := omega) only [fat_in, w32_0, w32_id] at c2); (try (have q5 := sureF_b (rb (mF A0) p1 k l (by omega) (by omega) (by omega) (by omega)); change _ < w32 (sureF (mF A0) k l) at c2; rw [w32_id (by omega) (by omega)] at c2)); (try (have q5 := sureF_b (rb (mF A0) p1 k l (by omega) (by omega) (by omega) (by omega)); change ¬ (_ < w32 (sureF (mF A0) k l)) at c2; rw [w32_id (by omega) (by omega)] at c2))
      refine ⟨⟨rfl, rfl, ?_⟩, by omega⟩
      refine ⟨h1, by omega, ⟨qdP_trans hQ g1.1, g1.2.trans hT⟩, ?_⟩
      rw [bitP_t (p := (fun ii => 0 < sureF (mF A0) ii l)) h2.1 c2, h4]
    · skip
      (try rw [n0] at c2); (try rw [n1] at c2); (try rw [eF] at c2); (try simp (disch := omega) only [fat_in, w32_0, w32_id] at c2); (try (have q5 := sureF_b (rb (mF A0) p1 k l (by omega) (by omega) (by omega) (by omega)); change _ < w32 (sureF (mF A0) k l) at c2; rw [w32_id (by omega) (by omega)] at c2)); (try (have q5 := sureF_b (rb (mF A0) p1 k l (by omega) (by omega) (by omega) (by omega)); change ¬ (_ < w32 (sureF (mF A0) k l)) at c2; rw [w32_id (by omega) (by omega)] at c2))
      refine ⟨⟨rfl, rfl, ?_⟩, by omega⟩
      refine ⟨h1, by omega, ⟨qdP_trans hQ g1.1, g1.2.trans hT⟩, ?_⟩
      rw [bitP_f (p := (fun ii => 0 < sureF (mF A0) ii l)) h2.1 c2, h4, bitP_0]
  · skip
    (try rw [n0] at c1); (try rw [n1] at c1); (try rw [eF] at c1); (try simp (disch := omega) only [fat_in, w32_0, w32_id] at c1); (try (have q5 := sureF_b (rb (mF A0) p1 k l (by omega) (by omega) (by omega) (by omega)); change _ < w32 (sureF (mF A0) k l) at c1; rw [w32_id (by omega) (by omega)] at c1)); (try (have q5 := sureF_b (rb (mF A0) p1 k l (by omega) (by omega) (by omega) (by omega)); change ¬ (_ < w32 (sureF (mF A0) k l)) at c1; rw [w32_id (by omega) (by omega)] at c1))
    exact K_eq (h _ _ ⟨hQ, by rw [hT, if_pos h1]⟩) (by rw [if_pos h1, h4, show k = mF A0 0 by omega])
set_option maxRecDepth 20000 in
theorem qvX9_curvesMet_25 (l : Int) (F0 : FF) (A0 : AA) (K : KK) (h : (fgOK (mF A0) ∧ (-2147483648 ≤ l ∧ l < 2147483648) ∧ RTB) ∧ (∀ (G_1 : FF) (B_1 : AA), (qdP F0 G_1 A0 B_1 ∧ G_1 25 0 = (if 0 ≤ l ∧ l < mF A0 1 then 0 else 1)) → (K (some (some (vI (if 0 ≤ l ∧ l < mF A0 1 then bitP (fun ii => 0 < sureF (mF A0) ii l) (Int.toNat (mF A0 0)) else 0)))) G_1 B_1))) : am_body qxX9_curvesMet qnX9_curvesMet_25 23 (qiX9_curvesMet_25 l F0 A0) quX9_curvesMet_25 [vR 25, vI l] 4 F0 A0 K := by
  refine ⟨qvX9_curvesMet_25_0 l F0 A0 K h, fun pc ls st F A u hI => ?_⟩
  unfold qiX9_curvesMet_25 at hI
  replace hI := am_cond2 hI
  rcases hI with ⟨hb, hI⟩ | hI
  · have hb := am_bq hb
    subst hb
    split at hI
    · rename_i s0 s1 s k
      obtain ⟨e0, e1, hI⟩ := hI
      subst e0
      subst e1
      exact qvX9_curvesMet_25_18 _ _ _ K h _ _ _ _ hI
    · exact hI.elim
  exact hI.elim
theorem qtX9_curvesMet (l : Launch) : am_CT l layM qeX9_curvesMet := am_met0 rfl (by decide +kernel) rfl rfl rfl rfl rfl (fun _ => rfl) rfl (qzX9_curvesMet l) (fun k e1 h => (qyX9_curvesMet l k e1 h).2) (fun as F A K h => by
  replace h : qsX9_curvesMet as F A K := h
  unfold qsX9_curvesMet at h
  split at h
  · rename_i o l
    refine ⟨by first | exact Nat.le_of_ble_eq_true rfl | simp [am_fl, am_cat], ?_⟩
    replace h := am_cond2 h
    rcases h with ⟨hb, h⟩ | h
    · skip
      have hb0 := hb
      have hb0 := am_bq hb0
      subst hb0
      exact am_way_body (qvX9_curvesMet_25 l F A K h)
    exact h.elim
  · exact h.elim)
