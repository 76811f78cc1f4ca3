def qkX1_grow : Nat → Option CI := fun pc => cond (Nat.ble 101 pc) none (cond (Nat.ble 49 pc) (cond (Nat.ble 74 pc) (cond (Nat.ble 88 pc) (cond (Nat.ble 93 pc) (cond (Nat.ble 97 pc) (cond (Nat.beq pc 97) (some (.goto (-33), 100, [64])) (cond (Nat.beq pc 100) (some (.return_, 101, [])) (none))) (cond (Nat.beq pc 93) (some (.iastore, 94, [])) (cond (Nat.beq pc 94) (some (.iinc 4 1, 97, [])) (none)))) (cond (Nat.ble 91 pc) (cond (Nat.beq pc 91) (some (.iconst 1, 92, [])) (cond (Nat.beq pc 92) (some (.iadd, 93, [])) (none))) (cond (Nat.beq pc 88) (some (.iload_n 2, 89, [])) (cond (Nat.beq pc 89) (some (.iload 4, 91, [])) (none))))) (cond (Nat.ble 79 pc) (cond (Nat.ble 84 pc) (cond (Nat.beq pc 84) (some (.aload_n 0, 85, [])) (cond (Nat.beq pc 85) (some (.getfield 22, 88, [])) (none))) (cond (Nat.beq pc 79) (some (.iload 4, 81, [])) (cond (Nat.beq pc 81) (some (.invokevirtual 43, 84, [])) (none)))) (cond (Nat.beq pc 74) (some (.if_icmp .ge 26, 77, [100])) (cond (Nat.beq pc 77) (some (.aload_n 0, 78, [])) (cond (Nat.beq pc 78) (some (.iload_n 2, 79, [])) (none)))))) (cond (Nat.ble 60 pc) (cond (Nat.ble 66 pc) (cond (Nat.ble 70 pc) (cond (Nat.beq pc 70) (some (.iload 4, 72, [])) (cond (Nat.beq pc 72) (some (.bipush 6, 74, [])) (none))) (cond (Nat.beq pc 66) (some (.iload_n 3, 67, [])) (cond (Nat.beq pc 67) (some (.if_icmp .ge 33, 70, [100])) (none)))) (cond (Nat.ble 62 pc) (cond (Nat.beq pc 62) (some (.istore 4, 64, [])) (cond (Nat.beq pc 64) (some (.iload 4, 66, [])) (none))) (cond (Nat.beq pc 60) (some (.iload_n 2, 61, [])) (cond (Nat.beq pc 61) (some (.iaload, 62, [])) (none))))) (cond (Nat.ble 52 pc) (cond (Nat.ble 56 pc) (cond (Nat.beq pc 56) (some (.aload_n 0, 57, [])) (cond (Nat.beq pc 57) (some (.getfield 22, 60, [])) (none))) (cond (Nat.beq pc 52) (some (.iload_n 2, 53, [])) (cond (Nat.beq pc 53) (some (.invokevirtual 39, 56, [])) (none)))) (cond (Nat.beq pc 49) (some (.iastore, 50, [])) (cond (Nat.beq pc 50) (some (.aload_n 0, 51, [])) (cond (Nat.beq pc 51) (some (.aload_n 1, 52, [])) (none))))))) (cond (Nat.ble 24 pc) (cond (Nat.ble 37 pc) (cond (Nat.ble 43 pc) (cond (Nat.ble 47 pc) (cond (Nat.beq pc 47) (some (.iload_n 2, 48, [])) (cond (Nat.beq pc 48) (some (.iconst 0, 49, [])) (none))) (cond (Nat.beq pc 43) (some (.aload_n 0, 44, [])) (cond (Nat.beq pc 44) (some (.getfield 22, 47, [])) (none)))) (cond (Nat.ble 39 pc) (cond (Nat.beq pc 39) (some (.invokevirtual 33, 42, [])) (cond (Nat.beq pc 42) (some (.iastore, 43, [])) (none))) (cond (Nat.beq pc 37) (some (.aload_n 1, 38, [])) (cond (Nat.beq pc 38) (some (.iload_n 2, 39, [])) (none))))) (cond (Nat.ble 29 pc) (cond (Nat.ble 33 pc) (cond (Nat.beq pc 33) (some (.getfield 19, 36, [])) (cond (Nat.beq pc 36) (some (.iload_n 2, 37, [])) (none))) (cond (Nat.beq pc 29) (some (.ifCond .ne 27, 32, [56])) (cond (Nat.beq pc 32) (some (.aload_n 0, 33, [])) (none)))) (cond (Nat.beq pc 24) (some (.aload_n 1, 25, [])) (cond (Nat.beq pc 25) (some (.iload_n 2, 26, [])) (cond (Nat.beq pc 26) (some (.invokevirtual 29, 29, [])) (none)))))) (cond (Nat.ble 13 pc) (cond (Nat.ble 18 pc) (cond (Nat.ble 22 pc) (cond (Nat.beq pc 22) (some (.return_, 23, [])) (cond (Nat.beq pc 23) (some (.aload_n 0, 24, [])) (none))) (cond (Nat.beq pc 18) (some (.arraylength, 19, [])) (cond (Nat.beq pc 19) (some (.if_icmp .lt 4, 22, [23])) (none)))) (cond (Nat.beq pc 13) (some (.iload_n 2, 14, [])) (cond (Nat.beq pc 14) (some (.aload_n 0, 15, [])) (cond (Nat.beq pc 15) (some (.getfield 22, 18, [])) (none))))) (cond (Nat.ble 5 pc) (cond (Nat.ble 9 pc) (cond (Nat.beq pc 9) (some (.arraylength, 10, [])) (cond (Nat.beq pc 10) (some (.if_icmp .ge 12, 13, [22])) (none))) (cond (Nat.beq pc 5) (some (.aload_n 0, 6, [])) (cond (Nat.beq pc 6) (some (.getfield 19, 9, [])) (none)))) (cond (Nat.beq pc 0) (some (.iload_n 2, 1, [])) (cond (Nat.beq pc 1) (some (.ifCond .lt 21, 4, [22])) (cond (Nat.beq pc 4) (some (.iload_n 2, 5, [])) (none))))))))
theorem qkX1_grow_ok : ∀ pc i nx ts, qkX1_grow pc = some (i, nx, ts) → am_cok cX1_grow pc (i, nx, ts) = true := fun pc i nx ts h => am_tok_ok (n := 101) (by decide +kernel) (fun pc h => by show cond (Nat.ble 101 pc) _ _ = _; rw [Nat.ble_eq_true_of_le h]; rfl) h
def qaX1_grow : Nat → Option CE := fun k => cond (Nat.beq k 29) (some qeX1_isPlanted) (cond (Nat.beq k 33) (some qeX2_top) (cond (Nat.beq k 39) (some qeX1_plant) (cond (Nat.beq k 43) (some qeX1_growLevel) (none))))
theorem qyX1_grow (l : Launch) : ∀ k e1, qaX1_grow k = some e1 → am_cal l layX RX1 8 k e1 ∧ ceT e1 = 0 := q_cons ⟨am_calV (ci := 1) (qtX1_isPlanted l) qbX1_isPlanted (by decide) rfl (am_tb_at 1000 (by decide +kernel) rfl), rfl⟩ (q_cons ⟨am_calV (ci := 2) (qtX2_top l) qbX2_top (by decide) rfl (am_tb_at 1008 (by decide +kernel) rfl), rfl⟩ (q_cons ⟨am_calV (ci := 1) (qtX1_plant l) qbX1_plant (by decide) rfl (am_tb_at 1021 (by decide +kernel) rfl), rfl⟩ (q_cons ⟨am_calV (ci := 1) (qtX1_growLevel l) qbX1_growLevel (by decide) rfl (am_tb_at 1033 (by decide +kernel) rfl), rfl⟩ (q_nil))))
def qxX1_grow : CX := (qkX1_grow, layX, qfX1, qaX1_grow, qcX1, qlX1, qmX1, none, false, none, 0, none, fun _ => none)
theorem qzX1_grow (l : Launch) : am_sta l qxX1_grow RX1 8 cX1_grow := ⟨qkX1_grow_ok, layX_ok, qfX1_ok, qcX1_ok, qlX1_ok, am_mthP qmX1_ok (by decide), fun k e1 h => (qyX1_grow l k e1 h).1⟩
def qsX1_grow : SP := fun as F A K => match as with
  | [.inr (.inr o), .inr (.inr g), .inl c, .inl d] => cond (Nat.beq o 9 && Nat.beq g 1) ((0 ≤ c ∧ c < 8 ∧ 2 ≤ A 2 (18 + c) ∧ A 2 (18 + c) ≤ 4 ∧ 0 ≤ d ∧ d ≤ 6 ∧ caOK A c) ∧ (∀ (B_1 : AA), (grQ A B_1 c d) → (K (some none) F B_1))) (False)
  | _ => False
def qeX1_grow : CE := (yX1_grow, cX1_grow, 5, none, 3, some 1, 0, none, 0, 8, qsX1_grow)
theorem qbX1_grow : am_mb qeX1_grow := ⟨am_tb_at 999 (by decide +kernel) rfl, am_tb_at 39 (by decide +kernel) rfl, ⟨by decide, by decide, by decide +kernel⟩, by decide, am_tb_at 997 (by decide +kernel) rfl, am_tb_at 998 (by decide +kernel) rfl, _, _, rfl⟩
def qnX1_grow_9_1 : CUT := fun pc => cond (Nat.beq pc 64) (some [true, true, true, true, true]) (none)
def qiX1_grow_9_1 (c : Int) (d : Int) (F0 : FF) (A0 : AA) : REC := fun pc ls st F A u => cond (Nat.beq pc 64) (match ls, st, u with
    | [some (.inr (.inr s0)), some (.inr (.inr s1)), some (.inl s2), some (.inl s3), some (.inl lv)], [], 0 => s0 = 9 ∧ s1 = 1 ∧ s2 = c ∧ s3 = d ∧ F = F0 ∧ (grF A0 A c ∧ caOK A c ∧ pltE A c lv ∧ A 13 c = lv ∧ (pltP A0 c → A0 13 c ≤ lv))
    | _, _, _ => False) (False)
def quX1_grow_9_1 : Nat → LVs → List AV → FF → AA → Nat := fun pc ls _ F A => cond (Nat.beq pc 64) (match ls with
    | [some (.inr (.inr s0)), some (.inr (.inr s1)), some (.inl s2), some (.inl s3), some (.inl lv)] => Int.toNat (20 - lv)
    | _ => 0) (0)
set_option maxRecDepth 20000 in
theorem qvX1_grow_9_1_0 (c : Int) (d : Int) (F0 : FF) (A0 : AA) (K : KK) (h : (0 ≤ c ∧ c < 8 ∧ 2 ≤ A0 2 (18 + c) ∧ A0 2 (18 + c) ≤ 4 ∧ 0 ≤ d ∧ d ≤ 6 ∧ caOK A0 c) ∧ (∀ (B_1 : AA), (grQ A0 B_1 c d) → (K (some none) F0 B_1))) : am_stp qxX1_grow (am_run qxX1_grow qnX1_grow_9_1 (qiX1_grow_9_1 c d F0 A0) K 41) K 0 (am_ent [vR 9, vR 1, vI c, vI d] 5) [] F0 A0 0 := by
  show am_stp qxX1_grow (am_run qxX1_grow qnX1_grow_9_1 (qiX1_grow_9_1 c d F0 A0) K 41) K 0 [some (vR 9), some (vR 1), some (vI c), some (vI d), none] [] F0 A0 0
  obtain ⟨hp, h⟩ := h
  obtain ⟨p1, p2', p3, p4, p5, p6, p7⟩ := hp
  have q1 := p7.1
  have q2 := p7.2.1
  show (w32 c < w32 0 → (K (some none) F0 A0)) ∧ (¬ w32 c < w32 0 → ((w32 c < w32 8 → ((w32 c < w32 8 → ((0 ≤ c ∧ c < 8 ∧ 1 ≤ A0 2 (18 + c) ∧ A0 2 (18 + c) ≤ 4 ∧ 0 ≤ A0 12 c ∧ A0 12 c ≤ 3) ∧ ((w32 (bc (pltP A0 c)) = w32 0 → ((0 ≤ w32 c ∧ w32 c < 8) ∧ ((0 ≤ w32 c ∧ w32 c < 8) ∧ ((0 ≤ c ∧ c < 8 ∧ 1 ≤ (upA (upA A0 12 (w32 c) (fat (A0 2) (18 + c) - 1)) 13 (w32 c) 0) 2 (18 + c) ∧ (upA (upA A0 12 (w32 c) (fat (A0 2) (18 + c) - 1)) 13 (w32 c) 0) 2 (18 + c) ≤ 4 ∧ (upA (upA A0 12 (w32 c) (fat (A0 2) (18 + c) - 1)) 13 (w32 c) 0) 12 c = (upA (upA A0 12 (w32 c) (fat (A0 2) (18 + c) - 1)) 13 (w32 c) 0) 2 (18 + c) - 1) ∧ (∀ (B_1 : AA), (plQ (upA (upA A0 12 (w32 c) (fat (A0 2) (18 + c) - 1)) 13 (w32 c) 0) B_1 c) → ((0 ≤ w32 c ∧ w32 c < 8) ∧ (9 = 9 ∧ 1 = 1 ∧ c = c ∧ d = d ∧ F0 = F0 ∧ (grF A0 B_1 c ∧ caOK B_1 c ∧ pltE B_1 c (B_1 13 (w32 c)) ∧ B_1 13 c = (B_1 13 (w32 c)) ∧ (pltP A0 c → A0 13 c ≤ (B_1 13 (w32 c))))))))))) ∧ (¬ w32 (bc (pltP A0 c)) = w32 0 → ((0 ≤ w32 c ∧ w32 c < 8) ∧ (9 = 9 ∧ 1 = 1 ∧ c = c ∧ d = d ∧ F0 = F0 ∧ (grF A0 A0 c ∧ caOK A0 c ∧ pltE A0 c (A0 13 (w32 c)) ∧ A0 13 c = (A0 13 (w32 c)) ∧ (pltP A0 c → A0 13 c ≤ (A0 13 (w32 c)))))))))) ∧ (¬ w32 c < w32 8 → (K (some none) F0 A0)))) ∧ (¬ w32 c < w32 8 → (K (some none) F0 A0))))
  refine ⟨fun c1 => ?_, fun c1 => ?_⟩
  · skip
    (try simp (disch := omega) only [w32_0, w32_id] at c1); (try simp only [wbc0, Classical.not_not] at c1)
    exfalso; omega
  · skip
    (try simp (disch := omega) only [w32_0, w32_id] at c1); (try simp only [wbc0, Classical.not_not] at c1)
    refine ⟨fun c2 => ?_, fun c2 => ?_⟩
    · skip
      (try simp (disch := omega) only [w32_0, w32_id] at c2); (try simp only [wbc0, Classical.not_not] at c2)
      refine ⟨fun c3 => ?_, fun c3 => ?_⟩
      · skip
        (try simp (disch := omega) only [w32_0, w32_id] at c3); (try simp only [wbc0, Classical.not_not] at c3)
        refine ⟨by first | omega | (simp (disch := omega) only [w32_id]; omega), ?_⟩
        refine ⟨fun c4 => ?_, fun c4 => ?_⟩
        · skip
          (try simp (disch := omega) only [w32_0, w32_id] at c4); (try simp only [wbc0, Classical.not_not] at c4)
          refine ⟨by first | omega | (simp (disch := omega) only [w32_id]; omega), ?_⟩
          refine ⟨by first | omega | (simp (disch := omega) only [w32_id]; omega), ?_⟩
          refine ⟨by (simp (disch := omega) only [fat_in, w32_id]; rw [upA_k (show (2 : Nat) ≠ 13 by decide), upA_k (show (2 : Nat) ≠ 12 by decide), upA_k (show (12 : Nat) ≠ 13 by decide), upA_s]; omega), ?_⟩
          intro B_1 g1
          refine ⟨by first | omega | (simp (disch := omega) only [w32_id]; omega), ?_⟩
          refine ⟨rfl, rfl, rfl, rfl, rfl, ?_⟩
          simp (disch := omega) only [fat_in, w32_id] at g1 ⊢
          obtain ⟨k1, k2, k3, k4⟩ := plant_ok p3 p4 g1
          rw [k4]
          exact ⟨k3, k1, k2, trivial, fun z => by first | exact absurd z c4 | exact absurd z c3⟩
        · skip
          (try simp (disch := omega) only [w32_0, w32_id] at c4); (try simp only [wbc0, Classical.not_not] at c4)
          refine ⟨by first | omega | (simp (disch := omega) only [w32_id]; omega), ?_⟩
          refine ⟨rfl, rfl, rfl, rfl, rfl, ?_⟩
          simp (disch := omega) only [w32_id]
          exact ⟨fun _ _ _ => rfl, p7, plt_E p7 (by first | exact c4 | exact c3) p3, trivial, fun _ => Int.le_refl _⟩
      · skip
        (try simp (disch := omega) only [w32_0, w32_id] at c3); (try simp only [wbc0, Classical.not_not] at c3)
        exfalso; omega
    · skip
      (try simp (disch := omega) only [w32_0, w32_id] at c2); (try simp only [wbc0, Classical.not_not] at c2)
      exfalso; omega
set_option maxRecDepth 20000 in
theorem qvX1_grow_9_1_64 (c : Int) (d : Int) (F0 : FF) (A0 : AA) (K : KK) (h : (0 ≤ c ∧ c < 8 ∧ 2 ≤ A0 2 (18 + c) ∧ A0 2 (18 + c) ≤ 4 ∧ 0 ≤ d ∧ d ≤ 6 ∧ caOK A0 c) ∧ (∀ (B_1 : AA), (grQ A0 B_1 c d) → (K (some none) F0 B_1))) (lv : Int) (A : AA) (hi : grF A0 A c ∧ caOK A c ∧ pltE A c lv ∧ A 13 c = lv ∧ (pltP A0 c → A0 13 c ≤ lv)) : am_stp qxX1_grow (am_run qxX1_grow qnX1_grow_9_1 (fun pc ls st F A u => qiX1_grow_9_1 c d F0 A0 pc ls st F A u ∧ quX1_grow_9_1 pc ls st F A < quX1_grow_9_1 64 [some (vR 9), some (vR 1), some (vI c), some (vI d), some (vI lv)] [] F0 A) K 41) K 64 [some (vR 9), some (vR 1), some (vI c), some (vI d), some (vI lv)] [] F0 A 0 := by
  obtain ⟨hp, h⟩ := h
  obtain ⟨p1, p2', p3, p4, p5, p6, p7⟩ := hp
  have q1 := p7.1
  have q2 := p7.2.1
  obtain ⟨h1, h2, h3, h4, h5⟩ := hi
  have r1 := h2.1
  have r2 := h2.2.1
  have e2 : A 2 = A0 2 := funext fun i => h1 2 i (Or.inl (by decide))
  show (w32 lv < w32 d → ((w32 lv < w32 6 → ((0 ≤ c ∧ c < 8 ∧ 0 ≤ lv ∧ lv ≤ 5 ∧ 0 ≤ A 12 c ∧ A 12 c ≤ 3) ∧ (∀ (B_1 : AA), (frG A B_1 c (p2 lv) ∧ ∀ nd, 2 * p2 lv - 1 ≤ nd → nd < 4 * p2 lv - 1 → ndOK B_1 c nd) → ((0 ≤ w32 c ∧ w32 c < 8) ∧ ((9 = 9 ∧ 1 = 1 ∧ c = c ∧ d = d ∧ F0 = F0 ∧ (grF A0 (upA B_1 13 (w32 c) (lv + 1)) c ∧ caOK (upA B_1 13 (w32 c) (lv + 1)) c ∧ pltE (upA B_1 13 (w32 c) (lv + 1)) c (lv + 1) ∧ (upA B_1 13 (w32 c) (lv + 1)) 13 c = (lv + 1) ∧ (pltP A0 c → A0 13 c ≤ (lv + 1)))) ∧ (Int.toNat (20 - (lv + 1))) < (Int.toNat (20 - lv))))))) ∧ (¬ w32 lv < w32 6 → (K (some none) F0 A)))) ∧ (¬ w32 lv < w32 d → (K (some none) F0 A))
  refine ⟨fun c1 => ?_, fun c1 => ?_⟩
  · skip
    (try simp (disch := omega) only [w32_0, w32_id] at c1)
    refine ⟨fun c2 => ?_, fun c2 => ?_⟩
    · skip
      (try simp (disch := omega) only [w32_0, w32_id] at c2)
      refine ⟨by first | omega | (simp (disch := omega) only [w32_id]; omega), ?_⟩
      intro B_1 g1
      refine ⟨by first | omega | (simp (disch := omega) only [w32_id]; omega), ?_⟩
      refine ⟨⟨rfl, rfl, rfl, rfl, rfl, ?_⟩, by omega⟩
      simp (disch := omega) only [w32_id]
      obtain ⟨k1, k2, k3⟩ := grow_step p1 h2 h3 h4 (by omega) (by omega) (by rw [e2]; exact p3) g1.1 g1.2
      exact ⟨grF_trans h1 k3, k1, k2, by rw [upA_s], fun z => by have := h5 z; omega⟩
    · skip
      (try simp (disch := omega) only [w32_0, w32_id] at c2)
      exfalso; omega
  · skip
    (try simp (disch := omega) only [w32_0, w32_id] at c1)
    exact h _ ⟨h1, h2, ⟨h3.1, h3.2.1, by omega⟩, fun z => by rw [h4]; exact h5 z⟩
set_option maxRecDepth 20000 in
theorem qvX1_grow_9_1 (c : Int) (d : Int) (F0 : FF) (A0 : AA) (K : KK) (h : (0 ≤ c ∧ c < 8 ∧ 2 ≤ A0 2 (18 + c) ∧ A0 2 (18 + c) ≤ 4 ∧ 0 ≤ d ∧ d ≤ 6 ∧ caOK A0 c) ∧ (∀ (B_1 : AA), (grQ A0 B_1 c d) → (K (some none) F0 B_1))) : am_body qxX1_grow qnX1_grow_9_1 41 (qiX1_grow_9_1 c d F0 A0) quX1_grow_9_1 [vR 9, vR 1, vI c, vI d] 5 F0 A0 K := by
  refine ⟨qvX1_grow_9_1_0 c d F0 A0 K h, fun pc ls st F A u hI => ?_⟩
  unfold qiX1_grow_9_1 at hI
  replace hI := am_cond2 hI
  rcases hI with ⟨hb, hI⟩ | hI
  · have hb := am_bq hb
    subst hb
    split at hI
    · rename_i s0 s1 s2 s3 lv
      obtain ⟨e0, e1, e2, e3, e4, hI⟩ := hI
      subst e0
      subst e1
      subst e2
      subst e3
      subst e4
      exact qvX1_grow_9_1_64 _ _ _ _ K h _ _ hI
    · exact hI.elim
  exact hI.elim
theorem qtX1_grow (l : Launch) : am_CT l layX qeX1_grow := am_met0 rfl (by decide +kernel) rfl rfl rfl rfl rfl (fun _ => rfl) rfl (qzX1_grow l) (fun k e1 h => (qyX1_grow l k e1 h).2) (fun as F A K h => by
  replace h : qsX1_grow as F A K := h
  unfold qsX1_grow at h
  split at h
  · rename_i o g c d
    refine ⟨by first | exact Nat.le_of_ble_eq_true rfl | simp [am_fl, am_cat], ?_⟩
    replace h := am_cond2 h
    rcases h with ⟨hb, h⟩ | h
    · simp only [Bool.and_eq_true] at hb
      obtain ⟨hb0, hb1⟩ := hb
      have hb0 := am_bq hb0
      subst hb0
      have hb1 := am_bq hb1
      subst hb1
      exact am_way_body (qvX1_grow_9_1 c d F A K h)
    exact h.elim
  · exact h.elim)