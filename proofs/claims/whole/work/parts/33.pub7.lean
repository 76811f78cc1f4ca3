def qkX8_linesMet : Nat → Option CI := fun pc => cond (Nat.ble 43 pc) none (cond (Nat.ble 21 pc) (cond (Nat.ble 32 pc) (cond (Nat.ble 35 pc) (cond (Nat.ble 41 pc) (cond (Nat.beq pc 41) (some (.iload_n 2, 42, [])) (cond (Nat.beq pc 42) (some (.ireturn, 43, [])) (none))) (cond (Nat.beq pc 35) (some (.iinc 3 1, 38, [])) (cond (Nat.beq pc 38) (some (.goto (-29), 41, [9])) (none)))) (cond (Nat.beq pc 32) (some (.ishl, 33, [])) (cond (Nat.beq pc 33) (some (.ior, 34, [])) (cond (Nat.beq pc 34) (some (.istore_n 2, 35, [])) (none))))) (cond (Nat.ble 26 pc) (cond (Nat.ble 30 pc) (cond (Nat.beq pc 30) (some (.iconst 1, 31, [])) (cond (Nat.beq pc 31) (some (.iload_n 3, 32, [])) (none))) (cond (Nat.beq pc 26) (some (.ifCond .le 9, 29, [35])) (cond (Nat.beq pc 29) (some (.iload_n 2, 30, [])) (none)))) (cond (Nat.beq pc 21) (some (.iload_n 1, 22, [])) (cond (Nat.beq pc 22) (some (.iload_n 3, 23, [])) (cond (Nat.beq pc 23) (some (.invokevirtual 241, 26, [])) (none)))))) (cond (Nat.ble 8 pc) (cond (Nat.ble 11 pc) (cond (Nat.ble 17 pc) (cond (Nat.beq pc 17) (some (.if_icmp .ge 24, 20, [41])) (cond (Nat.beq pc 20) (some (.aload_n 0, 21, [])) (none))) (cond (Nat.beq pc 11) (some (.getfield 10, 14, [])) (cond (Nat.beq pc 14) (some (.invokevirtual 103, 17, [])) (none)))) (cond (Nat.beq pc 8) (some (.istore_n 3, 9, [])) (cond (Nat.beq pc 9) (some (.iload_n 3, 10, [])) (cond (Nat.beq pc 10) (some (.aload_n 0, 11, [])) (none))))) (cond (Nat.ble 5 pc) (cond (Nat.beq pc 5) (some (.iconst 0, 6, [])) (cond (Nat.beq pc 6) (some (.istore_n 2, 7, [])) (cond (Nat.beq pc 7) (some (.iconst 0, 8, [])) (none)))) (cond (Nat.beq pc 0) (some (.aload_n 0, 1, [])) (cond (Nat.beq pc 1) (some (.iload_n 1, 2, [])) (cond (Nat.beq pc 2) (some (.invokevirtual 123, 5, [])) (none)))))))
theorem qkX8_linesMet_ok : ∀ pc i nx ts, qkX8_linesMet pc = some (i, nx, ts) → am_cok cX8_linesMet pc (i, nx, ts) = true := fun pc i nx ts h => am_tok_ok (n := 43) (by decide +kernel) (fun pc h => by show cond (Nat.ble 43 pc) _ _ = _; rw [Nat.ble_eq_true_of_le h]; rfl) h
def qaX8_linesMet : Nat → Option CE := fun k => cond (Nat.beq k 123) (some qeX8_requireCurve) (cond (Nat.beq k 103) (some qeX2_lines) (cond (Nat.beq k 241) (some qeX8_sureRoots) (none)))
theorem qyX8_linesMet (l : Launch) (hst : l.stackTraces = false) : ∀ k e1, qaX8_linesMet k = some e1 → am_cal l layX RX8 22 k e1 ∧ True := q_cons ⟨am_calV (ci := 8) (qtX8_requireCurve l hst) qbX8_requireCurve (by decide) rfl (am_tb_at 841 (by decide +kernel) rfl), trivial⟩ (q_cons ⟨am_calV (ci := 2) (qtX2_lines l) qbX2_lines (by decide) rfl (am_tb_at 539 (by decide +kernel) rfl), trivial⟩ (q_cons ⟨am_calV (ci := 8) (qtX8_sureRoots l) qbX8_sureRoots (by decide) rfl (am_tb_at 573 (by decide +kernel) rfl), trivial⟩ (q_nil)))
def qxX8_linesMet : CX := (qkX8_linesMet, layX, qfX8, qaX8_linesMet, qcX8, qlX8, qmX8, (some .int), true, none, 1, none, fun _ => none)
theorem qzX8_linesMet (l : Launch) (hst : l.stackTraces = false) : am_sta l qxX8_linesMet RX8 22 cX8_linesMet := ⟨qkX8_linesMet_ok, layX_ok, qfX8_ok, qcX8_ok, qlX8_ok, am_mthP qmX8_ok (by decide), fun k e1 h => (qyX8_linesMet l hst k e1 h).1⟩
def qsX8_linesMet : SP := fun as F A K => match as with
  | [.inr (.inr o), .inl c] => cond (Nat.beq o 0) ((fgOK (A 2) ∧ (-2147483648 ≤ c ∧ c < 2147483648) ∧ rtB (A 2)) ∧ ((0 ≤ c ∧ c < A 2 0 → (∀ (G_1 : FF) (B_1 : AA), (qrP F G_1 A B_1) → (K (some (some (vI (bitP (fun ii => 0 < sureF (A 2) c ii) (Int.toNat (A 2 1)))))) G_1 B_1))) ∧ (¬ (0 ≤ c ∧ c < A 2 0) → (K none F A)))) (False)
  | _ => False
def qeX8_linesMet : CE := (yX8_linesMet, cX8_linesMet, 4, (some .int), 1, some 8, 1, [], 1, 22, qsX8_linesMet)
theorem qbX8_linesMet : am_mb qeX8_linesMet := ⟨am_tb_at 1173 (by decide +kernel) rfl, am_tb_at 114 (by decide +kernel) rfl, ⟨by decide, by decide, by decide +kernel⟩, by decide, by decide, am_tb_at 1171 (by decide +kernel) rfl, am_tb_at 1172 (by decide +kernel) rfl, _, _, rfl⟩
def qnX8_linesMet_0 : CUT := fun pc => cond (Nat.beq pc 9) (some [true, true, true, true]) (none)
def qiX8_linesMet_0 (c : Int) (F0 : FF) (A0 : AA) : REC := fun pc ls st F A u => cond (Nat.beq pc 9) (match ls, st, u with
    | [some (.inr (.inr s0)), some (.inl s1), some (.inl s), some (.inl k)], [], 1 => s0 = 0 ∧ s1 = c ∧ ((0 ≤ c ∧ c < A0 2 0) ∧ (0 ≤ k ∧ k ≤ A0 2 1) ∧ qrP F0 F A0 A ∧ s = bitP (fun ii => 0 < sureF (A0 2) c ii) (Int.toNat k))
    | _, _, _ => False) (False)
def quX8_linesMet_0 : Nat → LVs → List AV → FF → AA → Nat := fun pc ls _ F A => cond (Nat.beq pc 9) (match ls with
    | [some (.inr (.inr s0)), some (.inl s1), some (.inl s), some (.inl k)] => Int.toNat (20 - k)
    | _ => 0) (0)
set_option maxRecDepth 20000 in
theorem qvX8_linesMet_0_0 (c : Int) (F0 : FF) (A0 : AA) (K : KK) (h : (fgOK (A0 2) ∧ (-2147483648 ≤ c ∧ c < 2147483648) ∧ rtB (A0 2)) ∧ ((0 ≤ c ∧ c < A0 2 0 → (∀ (G_1 : FF) (B_1 : AA), (qrP F0 G_1 A0 B_1) → (K (some (some (vI (bitP (fun ii => 0 < sureF (A0 2) c ii) (Int.toNat (A0 2 1)))))) G_1 B_1))) ∧ (¬ (0 ≤ c ∧ c < A0 2 0) → (K none F0 A0)))) : am_stp qxX8_linesMet (am_run qxX8_linesMet qnX8_linesMet_0 (qiX8_linesMet_0 c F0 A0) K 21) K 0 (am_ent [vR 0, vI c] 4) [] F0 A0 0 := by
  show am_stp qxX8_linesMet (am_run qxX8_linesMet qnX8_linesMet_0 (qiX8_linesMet_0 c F0 A0) K 21) K 0 [some (vR 0), some (vI c), none, none] [] F0 A0 0
  obtain ⟨hp, h⟩ := h
  have p1 := hp.1
  have q1 := p1.1.1
  have q2 := p1.1.2
  have rb := hp.2.2
  show ((0 ≤ A0 2 0 ∧ A0 2 0 ≤ 8) ∧ (0 ≤ A0 2 1 ∧ A0 2 1 ≤ 6) ∧ (-2147483648 ≤ c ∧ c < 2147483648)) ∧ ((0 ≤ c ∧ c < A0 2 0 → (0 = 0 ∧ c = c ∧ ((0 ≤ c ∧ c < A0 2 0) ∧ (0 ≤ 0 ∧ 0 ≤ A0 2 1) ∧ qrP F0 F0 A0 A0 ∧ 0 = bitP (fun ii => 0 < sureF (A0 2) c ii) (Int.toNat 0)))) ∧ (¬ (0 ≤ c ∧ c < A0 2 0) → (K none F0 A0)))
  refine ⟨by exact ⟨p1.1.1, p1.1.2, hp.2.1⟩, ?_⟩
  refine ⟨fun c1 => ?_, fun c1 => ?_⟩
  · skip
    skip
    refine ⟨rfl, rfl, ?_⟩
    exact ⟨c1, by omega, qrP_id, rfl⟩
  · skip
    skip
    exact h.2 c1
set_option maxRecDepth 20000 in
theorem qvX8_linesMet_0_9 (c : Int) (F0 : FF) (A0 : AA) (K : KK) (h : (fgOK (A0 2) ∧ (-2147483648 ≤ c ∧ c < 2147483648) ∧ rtB (A0 2)) ∧ ((0 ≤ c ∧ c < A0 2 0 → (∀ (G_1 : FF) (B_1 : AA), (qrP F0 G_1 A0 B_1) → (K (some (some (vI (bitP (fun ii => 0 < sureF (A0 2) c ii) (Int.toNat (A0 2 1)))))) G_1 B_1))) ∧ (¬ (0 ≤ c ∧ c < A0 2 0) → (K none F0 A0)))) (s : Int) (k : Int) (F : FF) (A : AA) (hi : (0 ≤ c ∧ c < A0 2 0) ∧ (0 ≤ k ∧ k ≤ A0 2 1) ∧ qrP F0 F A0 A ∧ s = bitP (fun ii => 0 < sureF (A0 2) c ii) (Int.toNat k)) : am_stp qxX8_linesMet (am_run qxX8_linesMet qnX8_linesMet_0 (fun pc ls st F A u => qiX8_linesMet_0 c F0 A0 pc ls st F A u ∧ quX8_linesMet_0 pc ls st F A < quX8_linesMet_0 9 [some (vR 0), some (vI c), some (vI s), some (vI k)] [] F A) K 21) K 9 [some (vR 0), some (vI c), some (vI s), some (vI k)] [] F A 1 := by
  obtain ⟨hp, h⟩ := h
  have p1 := hp.1
  have q1 := p1.1.1
  have q2 := p1.1.2
  have rb := hp.2.2
  obtain ⟨h1, h2, hQ, h4⟩ := hi
  have e2 : A 2 = A0 2 := funext fun i => hQ.2.1 2 i (by omega)
  show (w32 k < w32 (fat (A 2) 1) → ((fgOK (A 2) ∧ (0 ≤ c ∧ c < A 2 0) ∧ (0 ≤ k ∧ k < A 2 1) ∧ ((rtsX (A 2) c k).length : Int) ≤ 8) ∧ (∀ (G_1 : FF) (B_1 : AA), (qrP F G_1 A B_1) → ((w32 0 < w32 (cntK (ktF (rtsX (A 2) c k)) 0 (rtsX (A 2) c k).length + cntK (ktF (rtsX (A 2) c k)) 1 (rtsX (A 2) c k).length) → ((0 = 0 ∧ c = c ∧ ((0 ≤ c ∧ c < A0 2 0) ∧ (0 ≤ (k + 1) ∧ (k + 1) ≤ A0 2 1) ∧ qrP F0 G_1 A0 B_1 ∧ (x_or s (x_shl 1 k)) = bitP (fun ii => 0 < sureF (A0 2) c ii) (Int.toNat (k + 1)))) ∧ (Int.toNat (20 - (k + 1))) < (Int.toNat (20 - k)))) ∧ (¬ w32 0 < w32 (cntK (ktF (rtsX (A 2) c k)) 0 (rtsX (A 2) c k).length + cntK (ktF (rtsX (A 2) c k)) 1 (rtsX (A 2) c k).length) → ((0 = 0 ∧ c = c ∧ ((0 ≤ c ∧ c < A0 2 0) ∧ (0 ≤ (k + 1) ∧ (k + 1) ≤ A0 2 1) ∧ qrP F0 G_1 A0 B_1 ∧ s = bitP (fun ii => 0 < sureF (A0 2) c ii) (Int.toNat (k + 1)))) ∧ (Int.toNat (20 - (k + 1))) < (Int.toNat (20 - k)))))))) ∧ (¬ w32 k < w32 (fat (A 2) 1) → (K (some (some (vI s))) F A))
  refine ⟨fun c1 => ?_, fun c1 => ?_⟩
  · skip
    (try rw [e2] at c1); (try simp (disch := omega) only [fat_in, w32_0, w32_id] at c1); (try (have q5 := sureF_b (rb c k (by omega) (by omega) (by omega) (by omega)); change _ < w32 (sureF (A0 2) c k) at c1; rw [w32_id (by omega) (by omega)] at c1)); (try (have q5 := sureF_b (rb c k (by omega) (by omega) (by omega) (by omega)); change ¬ (_ < w32 (sureF (A0 2) c k)) at c1; rw [w32_id (by omega) (by omega)] at c1))
    refine ⟨by (rw [e2]; exact ⟨p1, by omega, by omega, rb c k (by omega) (by omega) (by omega) (by omega)⟩), ?_⟩
    intro G_1 B_1 g1
    refine ⟨fun c2 => ?_, fun c2 => ?_⟩
    · skip
      (try rw [e2] at c2); (try simp (disch := omega) only [fat_in, w32_0, w32_id] at c2); (try (have q5 := sureF_b (rb c k (by omega) (by omega) (by omega) (by omega)); change _ < w32 (sureF (A0 2) c k) at c2; rw [w32_id (by omega) (by omega)] at c2)); (try (have q5 := sureF_b (rb c k (by omega) (by omega) (by omega) (by omega)); change ¬ (_ < w32 (sureF (A0 2) c k)) at c2; rw [w32_id (by omega) (by omega)] at c2))
      refine ⟨⟨rfl, rfl, ?_⟩, by omega⟩
      refine ⟨h1, by omega, qrP_trans hQ g1, ?_⟩
      rw [bitP_t (p := (fun ii => 0 < sureF (A0 2) c ii)) h2.1 c2, h4]
    · skip
      (try rw [e2] at c2); (try simp (disch := omega) only [fat_in, w32_0, w32_id] at c2); (try (have q5 := sureF_b (rb c k (by omega) (by omega) (by omega) (by omega)); change _ < w32 (sureF (A0 2) c k) at c2; rw [w32_id (by omega) (by omega)] at c2)); (try (have q5 := sureF_b (rb c k (by omega) (by omega) (by omega) (by omega)); change ¬ (_ < w32 (sureF (A0 2) c k)) at c2; rw [w32_id (by omega) (by omega)] at c2))
      refine ⟨⟨rfl, rfl, ?_⟩, by omega⟩
      refine ⟨h1, by omega, qrP_trans hQ g1, ?_⟩
      rw [bitP_f (p := (fun ii => 0 < sureF (A0 2) c ii)) h2.1 c2, h4]
  · skip
    (try rw [e2] at c1); (try simp (disch := omega) only [fat_in, w32_0, w32_id] at c1); (try (have q5 := sureF_b (rb c k (by omega) (by omega) (by omega) (by omega)); change _ < w32 (sureF (A0 2) c k) at c1; rw [w32_id (by omega) (by omega)] at c1)); (try (have q5 := sureF_b (rb c k (by omega) (by omega) (by omega) (by omega)); change ¬ (_ < w32 (sureF (A0 2) c k)) at c1; rw [w32_id (by omega) (by omega)] at c1))
    exact K_eq (h.1 h1 _ _ hQ) (by rw [h4, show k = A0 2 1 by omega])
set_option maxRecDepth 20000 in
theorem qvX8_linesMet_0 (c : Int) (F0 : FF) (A0 : AA) (K : KK) (h : (fgOK (A0 2) ∧ (-2147483648 ≤ c ∧ c < 2147483648) ∧ rtB (A0 2)) ∧ ((0 ≤ c ∧ c < A0 2 0 → (∀ (G_1 : FF) (B_1 : AA), (qrP F0 G_1 A0 B_1) → (K (some (some (vI (bitP (fun ii => 0 < sureF (A0 2) c ii) (Int.toNat (A0 2 1)))))) G_1 B_1))) ∧ (¬ (0 ≤ c ∧ c < A0 2 0) → (K none F0 A0)))) : am_body qxX8_linesMet qnX8_linesMet_0 21 (qiX8_linesMet_0 c F0 A0) quX8_linesMet_0 [vR 0, vI c] 4 F0 A0 K := by
  refine ⟨qvX8_linesMet_0_0 c F0 A0 K h, fun pc ls st F A u hI => ?_⟩
  unfold qiX8_linesMet_0 at hI
  replace hI := am_cond2 hI
  rcases hI with ⟨hb, hI⟩ | hI
  · have hb := am_bq hb
    subst hb
    split at hI
    · rename_i s0 s1 s k
      obtain ⟨e0, e1, hI⟩ := hI
      subst e0
      subst e1
      exact qvX8_linesMet_0_9 _ _ _ K h _ _ _ _ hI
    · exact hI.elim
  exact hI.elim
theorem qtX8_linesMet (l : Launch) (hst : l.stackTraces = false) : am_CT l layX qeX8_linesMet := am_met1 hst rfl (by decide +kernel) rfl rfl rfl rfl rfl (fun _ _ h => by cases h) rfl (qzX8_linesMet l hst) (fun as F A K h => by
  replace h : qsX8_linesMet as F A K := h
  unfold qsX8_linesMet at h
  split at h
  · rename_i o c
    refine ⟨by first | exact Nat.le_of_ble_eq_true rfl | simp [am_fl, am_cat], ?_⟩
    replace h := am_cond2 h
    rcases h with ⟨hb, h⟩ | h
    · skip
      have hb0 := hb
      have hb0 := am_bq hb0
      subst hb0
      exact am_way_body (qvX8_linesMet_0 c F A K h)
    exact h.elim
  · exact h.elim)
def qkX8_curvesMet : Nat → Option CI := fun pc => cond (Nat.ble 43 pc) none (cond (Nat.ble 21 pc) (cond (Nat.ble 32 pc) (cond (Nat.ble 35 pc) (cond (Nat.ble 41 pc) (cond (Nat.beq pc 41) (some (.iload_n 2, 42, [])) (cond (Nat.beq pc 42) (some (.ireturn, 43, [])) (none))) (cond (Nat.beq pc 35) (some (.iinc 3 1, 38, [])) (cond (Nat.beq pc 38) (some (.goto (-29), 41, [9])) (none)))) (cond (Nat.beq pc 32) (some (.ishl, 33, [])) (cond (Nat.beq pc 33) (some (.ior, 34, [])) (cond (Nat.beq pc 34) (some (.istore_n 2, 35, [])) (none))))) (cond (Nat.ble 26 pc) (cond (Nat.ble 30 pc) (cond (Nat.beq pc 30) (some (.iconst 1, 31, [])) (cond (Nat.beq pc 31) (some (.iload_n 3, 32, [])) (none))) (cond (Nat.beq pc 26) (some (.ifCond .le 9, 29, [35])) (cond (Nat.beq pc 29) (some (.iload_n 2, 30, [])) (none)))) (cond (Nat.beq pc 21) (some (.iload_n 3, 22, [])) (cond (Nat.beq pc 22) (some (.iload_n 1, 23, [])) (cond (Nat.beq pc 23) (some (.invokevirtual 241, 26, [])) (none)))))) (cond (Nat.ble 8 pc) (cond (Nat.ble 11 pc) (cond (Nat.ble 17 pc) (cond (Nat.beq pc 17) (some (.if_icmp .ge 24, 20, [41])) (cond (Nat.beq pc 20) (some (.aload_n 0, 21, [])) (none))) (cond (Nat.beq pc 11) (some (.getfield 10, 14, [])) (cond (Nat.beq pc 14) (some (.invokevirtual 100, 17, [])) (none)))) (cond (Nat.beq pc 8) (some (.istore_n 3, 9, [])) (cond (Nat.beq pc 9) (some (.iload_n 3, 10, [])) (cond (Nat.beq pc 10) (some (.aload_n 0, 11, [])) (none))))) (cond (Nat.ble 5 pc) (cond (Nat.beq pc 5) (some (.iconst 0, 6, [])) (cond (Nat.beq pc 6) (some (.istore_n 2, 7, [])) (cond (Nat.beq pc 7) (some (.iconst 0, 8, [])) (none)))) (cond (Nat.beq pc 0) (some (.aload_n 0, 1, [])) (cond (Nat.beq pc 1) (some (.iload_n 1, 2, [])) (cond (Nat.beq pc 2) (some (.invokevirtual 141, 5, [])) (none)))))))
theorem qkX8_curvesMet_ok : ∀ pc i nx ts, qkX8_curvesMet pc = some (i, nx, ts) → am_cok cX8_curvesMet pc (i, nx, ts) = true := fun pc i nx ts h => am_tok_ok (n := 43) (by decide +kernel) (fun pc h => by show cond (Nat.ble 43 pc) _ _ = _; rw [Nat.ble_eq_true_of_le h]; rfl) h
def qaX8_curvesMet : Nat → Option CE := fun k => cond (Nat.beq k 141) (some qeX8_requireLine) (cond (Nat.beq k 100) (some qeX2_curves) (cond (Nat.beq k 241) (some qeX8_sureRoots) (none)))
theorem qyX8_curvesMet (l : Launch) (hst : l.stackTraces = false) : ∀ k e1, qaX8_curvesMet k = some e1 → am_cal l layX RX8 22 k e1 ∧ True := q_cons ⟨am_calV (ci := 8) (qtX8_requireLine l hst) qbX8_requireLine (by decide) rfl (am_tb_at 924 (by decide +kernel) rfl), trivial⟩ (q_cons ⟨am_calV (ci := 2) (qtX2_curves l) qbX2_curves (by decide) rfl (am_tb_at 534 (by decide +kernel) rfl), trivial⟩ (q_cons ⟨am_calV (ci := 8) (qtX8_sureRoots l) qbX8_sureRoots (by decide) rfl (am_tb_at 573 (by decide +kernel) rfl), trivial⟩ (q_nil)))
def qxX8_curvesMet : CX := (qkX8_curvesMet, layX, qfX8, qaX8_curvesMet, qcX8, qlX8, qmX8, (some .int), true, none, 1, none, fun _ => none)
theorem qzX8_curvesMet (l : Launch) (hst : l.stackTraces = false) : am_sta l qxX8_curvesMet RX8 22 cX8_curvesMet := ⟨qkX8_curvesMet_ok, layX_ok, qfX8_ok, qcX8_ok, qlX8_ok, am_mthP qmX8_ok (by decide), fun k e1 h => (qyX8_curvesMet l hst k e1 h).1⟩
def qsX8_curvesMet : SP := fun as F A K => match as with
  | [.inr (.inr o), .inl l] => cond (Nat.beq o 0) ((fgOK (A 2) ∧ (-2147483648 ≤ l ∧ l < 2147483648) ∧ rtB (A 2)) ∧ ((0 ≤ l ∧ l < A 2 1 → (∀ (G_1 : FF) (B_1 : AA), (qrP F G_1 A B_1) → (K (some (some (vI (bitP (fun ii => 0 < sureF (A 2) ii l) (Int.toNat (A 2 0)))))) G_1 B_1))) ∧ (¬ (0 ≤ l ∧ l < A 2 1) → (K none F A)))) (False)
  | _ => False
def qeX8_curvesMet : CE := (yX8_curvesMet, cX8_curvesMet, 4, (some .int), 1, some 8, 1, [], 1, 22, qsX8_curvesMet)
theorem qbX8_curvesMet : am_mb qeX8_curvesMet := ⟨am_tb_at 1180 (by decide +kernel) rfl, am_tb_at 114 (by decide +kernel) rfl, ⟨by decide, by decide, by decide +kernel⟩, by decide, by decide, am_tb_at 1178 (by decide +kernel) rfl, am_tb_at 1179 (by decide +kernel) rfl, _, _, rfl⟩
def qnX8_curvesMet_0 : CUT := fun pc => cond (Nat.beq pc 9) (some [true, true, true, true]) (none)
def qiX8_curvesMet_0 (l : Int) (F0 : FF) (A0 : AA) : REC := fun pc ls st F A u => cond (Nat.beq pc 9) (match ls, st, u with
    | [some (.inr (.inr s0)), some (.inl s1), some (.inl s), some (.inl k)], [], 1 => s0 = 0 ∧ s1 = l ∧ ((0 ≤ l ∧ l < A0 2 1) ∧ (0 ≤ k ∧ k ≤ A0 2 0) ∧ qrP F0 F A0 A ∧ s = bitP (fun ii => 0 < sureF (A0 2) ii l) (Int.toNat k))
    | _, _, _ => False) (False)
def quX8_curvesMet_0 : Nat → LVs → List AV → FF → AA → Nat := fun pc ls _ F A => cond (Nat.beq pc 9) (match ls with
    | [some (.inr (.inr s0)), some (.inl s1), some (.inl s), some (.inl k)] => Int.toNat (20 - k)
    | _ => 0) (0)
set_option maxRecDepth 20000 in
theorem qvX8_curvesMet_0_0 (l : Int) (F0 : FF) (A0 : AA) (K : KK) (h : (fgOK (A0 2) ∧ (-2147483648 ≤ l ∧ l < 2147483648) ∧ rtB (A0 2)) ∧ ((0 ≤ l ∧ l < A0 2 1 → (∀ (G_1 : FF) (B_1 : AA), (qrP F0 G_1 A0 B_1) → (K (some (some (vI (bitP (fun ii => 0 < sureF (A0 2) ii l) (Int.toNat (A0 2 0)))))) G_1 B_1))) ∧ (¬ (0 ≤ l ∧ l < A0 2 1) → (K none F0 A0)))) : am_stp qxX8_curvesMet (am_run qxX8_curvesMet qnX8_curvesMet_0 (qiX8_curvesMet_0 l F0 A0) K 21) K 0 (am_ent [vR 0, vI l] 4) [] F0 A0 0 := by
  show am_stp qxX8_curvesMet (am_run qxX8_curvesMet qnX8_curvesMet_0 (qiX8_curvesMet_0 l F0 A0) K 21) K 0 [some (vR 0), some (vI l), none, none] [] F0 A0 0
  obtain ⟨hp, h⟩ := h
  have p1 := hp.1
  have q1 := p1.1.1
  have q2 := p1.1.2
  have rb := hp.2.2
  show ((0 ≤ A0 2 0 ∧ A0 2 0 ≤ 8) ∧ (0 ≤ A0 2 1 ∧ A0 2 1 ≤ 6) ∧ (-2147483648 ≤ l ∧ l < 2147483648)) ∧ ((0 ≤ l ∧ l < A0 2 1 → (0 = 0 ∧ l = l ∧ ((0 ≤ l ∧ l < A0 2 1) ∧ (0 ≤ 0 ∧ 0 ≤ A0 2 0) ∧ qrP F0 F0 A0 A0 ∧ 0 = bitP (fun ii => 0 < sureF (A0 2) ii l) (Int.toNat 0)))) ∧ (¬ (0 ≤ l ∧ l < A0 2 1) → (K none F0 A0)))
  refine ⟨by exact ⟨p1.1.1, p1.1.2, hp.2.1⟩, ?_⟩
  refine ⟨fun c1 => ?_, fun c1 => ?_⟩
  · skip
    skip
    refine ⟨rfl, rfl, ?_⟩
    exact ⟨c1, by omega, qrP_id, rfl⟩
  · skip
    skip
    exact h.2 c1
set_option maxRecDepth 20000 in
theorem qvX8_curvesMet_0_9 (l : Int) (F0 : FF) (A0 : AA) (K : KK) (h : (fgOK (A0 2) ∧ (-2147483648 ≤ l ∧ l < 2147483648) ∧ rtB (A0 2)) ∧ ((0 ≤ l ∧ l < A0 2 1 → (∀ (G_1 : FF) (B_1 : AA), (qrP F0 G_1 A0 B_1) → (K (some (some (vI (bitP (fun ii => 0 < sureF (A0 2) ii l) (Int.toNat (A0 2 0)))))) G_1 B_1))) ∧ (¬ (0 ≤ l ∧ l < A0 2 1) → (K none F0 A0)))) (s : Int) (k : Int) (F : FF) (A : AA) (hi : (0 ≤ l ∧ l < A0 2 1) ∧ (0 ≤ k ∧ k ≤ A0 2 0) ∧ qrP F0 F A0 A ∧ s = bitP (fun ii => 0 < sureF (A0 2) ii l) (Int.toNat k)) : am_stp qxX8_curvesMet (am_run qxX8_curvesMet qnX8_curvesMet_0 (fun pc ls st F A u => qiX8_curvesMet_0 l F0 A0 pc ls st F A u ∧ quX8_curvesMet_0 pc ls st F A < quX8_curvesMet_0 9 [some (vR 0), some (vI l), some (vI s), some (vI k)] [] F A) K 21) K 9 [some (vR 0), some (vI l), some (vI s), some (vI k)] [] F A 1 := by
  obtain ⟨hp, h⟩ := h
  have p1 := hp.1
  have q1 := p1.1.1
  have q2 := p1.1.2
  have rb := hp.2.2
  obtain ⟨h1, h2, hQ, h4⟩ := hi
  have e2 : A 2 = A0 2 := funext fun i => hQ.2.1 2 i (by omega)
  show (w32 k < w32 (fat (A 2) 0) → ((fgOK (A 2) ∧ (0 ≤ k ∧ k < A 2 0) ∧ (0 ≤ l ∧ l < A 2 1) ∧ ((rtsX (A 2) k l).length : Int) ≤ 8) ∧ (∀ (G_1 : FF) (B_1 : AA), (qrP F G_1 A B_1) → ((w32 0 < w32 (cntK (ktF (rtsX (A 2) k l)) 0 (rtsX (A 2) k l).length + cntK (ktF (rtsX (A 2) k l)) 1 (rtsX (A 2) k l).length) → ((0 = 0 ∧ l = l ∧ ((0 ≤ l ∧ l < A0 2 1) ∧ (0 ≤ (k + 1) ∧ (k + 1) ≤ A0 2 0) ∧ qrP F0 G_1 A0 B_1 ∧ (x_or s (x_shl 1 k)) = bitP (fun ii => 0 < sureF (A0 2) ii l) (Int.toNat (k + 1)))) ∧ (Int.toNat (20 - (k + 1))) < (Int.toNat (20 - k)))) ∧ (¬ w32 0 < w32 (cntK (ktF (rtsX (A 2) k l)) 0 (rtsX (A 2) k l).length + cntK (ktF (rtsX (A 2) k l)) 1 (rtsX (A 2) k l).length) → ((0 = 0 ∧ l = l ∧ ((0 ≤ l ∧ l < A0 2 1) ∧ (0 ≤ (k + 1) ∧ (k + 1) ≤ A0 2 0) ∧ qrP F0 G_1 A0 B_1 ∧ s = bitP (fun ii => 0 < sureF (A0 2) ii l) (Int.toNat (k + 1)))) ∧ (Int.toNat (20 - (k + 1))) < (Int.toNat (20 - k)))))))) ∧ (¬ w32 k < w32 (fat (A 2) 0) → (K (some (some (vI s))) F A))
  refine ⟨fun c1 => ?_, fun c1 => ?_⟩
  · skip
    (try rw [e2] at c1); (try simp (disch := omega) only [fat_in, w32_0, w32_id] at c1); (try (have q5 := sureF_b (rb k l (by omega) (by omega) (by omega) (by omega)); change _ < w32 (sureF (A0 2) k l) at c1; rw [w32_id (by omega) (by omega)] at c1)); (try (have q5 := sureF_b (rb k l (by omega) (by omega) (by omega) (by omega)); change ¬ (_ < w32 (sureF (A0 2) k l)) at c1; rw [w32_id (by omega) (by omega)] at c1))
    refine ⟨by (rw [e2]; exact ⟨p1, by omega, by omega, rb k l (by omega) (by omega) (by omega) (by omega)⟩), ?_⟩
    intro G_1 B_1 g1
    refine ⟨fun c2 => ?_, fun c2 => ?_⟩
    · skip
      (try rw [e2] at c2); (try simp (disch := omega) only [fat_in, w32_0, w32_id] at c2); (try (have q5 := sureF_b (rb k l (by omega) (by omega) (by omega) (by omega)); change _ < w32 (sureF (A0 2) k l) at c2; rw [w32_id (by omega) (by omega)] at c2)); (try (have q5 := sureF_b (rb k l (by omega) (by omega) (by omega) (by omega)); change ¬ (_ < w32 (sureF (A0 2) k l)) at c2; rw [w32_id (by omega) (by omega)] at c2))
      refine ⟨⟨rfl, rfl, ?_⟩, by omega⟩
      refine ⟨h1, by omega, qrP_trans hQ g1, ?_⟩
      rw [bitP_t (p := (fun ii => 0 < sureF (A0 2) ii l)) h2.1 c2, h4]
    · skip
      (try rw [e2] at c2); (try simp (disch := omega) only [fat_in, w32_0, w32_id] at c2); (try (have q5 := sureF_b (rb k l (by omega) (by omega) (by omega) (by omega)); change _ < w32 (sureF (A0 2) k l) at c2; rw [w32_id (by omega) (by omega)] at c2)); (try (have q5 := sureF_b (rb k l (by omega) (by omega) (by omega) (by omega)); change ¬ (_ < w32 (sureF (A0 2) k l)) at c2; rw [w32_id (by omega) (by omega)] at c2))
      refine ⟨⟨rfl, rfl, ?_⟩, by omega⟩
      refine ⟨h1, by omega, qrP_trans hQ g1, ?_⟩
      rw [bitP_f (p := (fun ii => 0 < sureF (A0 2) ii l)) h2.1 c2, h4]
  · skip
    (try rw [e2] at c1); (try simp (disch := omega) only [fat_in, w32_0, w32_id] at c1); (try (have q5 := sureF_b (rb k l (by omega) (by omega) (by omega) (by omega)); change _ < w32 (sureF (A0 2) k l) at c1; rw [w32_id (by omega) (by omega)] at c1)); (try (have q5 := sureF_b (rb k l (by omega) (by omega) (by omega) (by omega)); change ¬ (_ < w32 (sureF (A0 2) k l)) at c1; rw [w32_id (by omega) (by omega)] at c1))
    exact K_eq (h.1 h1 _ _ hQ) (by rw [h4, show k = A0 2 0 by omega])
set_option maxRecDepth 20000 in
theorem qvX8_curvesMet_0 (l : Int) (F0 : FF) (A0 : AA) (K : KK) (h : (fgOK (A0 2) ∧ (-2147483648 ≤ l ∧ l < 2147483648) ∧ rtB (A0 2)) ∧ ((0 ≤ l ∧ l < A0 2 1 → (∀ (G_1 : FF) (B_1 : AA), (qrP F0 G_1 A0 B_1) → (K (some (some (vI (bitP (fun ii => 0 < sureF (A0 2) ii l) (Int.toNat (A0 2 0)))))) G_1 B_1))) ∧ (¬ (0 ≤ l ∧ l < A0 2 1) → (K none F0 A0)))) : am_body qxX8_curvesMet qnX8_curvesMet_0 21 (qiX8_curvesMet_0 l F0 A0) quX8_curvesMet_0 [vR 0, vI l] 4 F0 A0 K := by
  refine ⟨qvX8_curvesMet_0_0 l F0 A0 K h, fun pc ls st F A u hI => ?_⟩
  unfold qiX8_curvesMet_0 at hI
  replace hI := am_cond2 hI
  rcases hI with ⟨hb, hI⟩ | hI
  · have hb := am_bq hb
    subst hb
    split at hI
    · rename_i s0 s1 s k
      obtain ⟨e0, e1, hI⟩ := hI
      subst e0
      subst e1
      exact qvX8_curvesMet_0_9 _ _ _ K h _ _ _ _ hI
    · exact hI.elim
  exact hI.elim
theorem qtX8_curvesMet (l : Launch) (hst : l.stackTraces = false) : am_CT l layX qeX8_curvesMet := am_met1 hst rfl (by decide +kernel) rfl rfl rfl rfl rfl (fun _ _ h => by cases h) rfl (qzX8_curvesMet l hst) (fun as F A K h => by
  replace h : qsX8_curvesMet as F A K := h
  unfold qsX8_curvesMet at h
  split at h
  · rename_i o l
    refine ⟨by first | exact Nat.le_of_ble_eq_true rfl | simp [am_fl, am_cat], ?_⟩
    replace h := am_cond2 h
    rcases h with ⟨hb, h⟩ | h
    · skip
      have hb0 := hb
      have hb0 := am_bq hb0
      subst hb0
      exact am_way_body (qvX8_curvesMet_0 l F A K h)
    exact h.elim
  · exact h.elim)
