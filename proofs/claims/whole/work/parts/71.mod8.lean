def qkX9_laysRoots : Nat → Option CI := fun pc => cond (Nat.ble 64 pc) none (cond (Nat.ble 33 pc) (cond (Nat.ble 45 pc) (cond (Nat.ble 56 pc) (cond (Nat.ble 59 pc) (cond (Nat.beq pc 59) (some (.invokevirtual 117, 62, [])) (cond (Nat.beq pc 62) (some (.iconst 1, 63, [])) (cond (Nat.beq pc 63) (some (.ireturn, 64, [])) (none)))) (cond (Nat.beq pc 56) (some (.iconst 0, 57, [])) (cond (Nat.beq pc 57) (some (.iconst 0, 58, [])) (cond (Nat.beq pc 58) (some (.iconst 1, 59, [])) (none))))) (cond (Nat.ble 49 pc) (cond (Nat.beq pc 49) (some (.invokevirtual 95, 52, [])) (cond (Nat.beq pc 52) (some (.ifCond .ne 10, 55, [62])) (cond (Nat.beq pc 55) (some (.aload_n 0, 56, [])) (none)))) (cond (Nat.beq pc 45) (some (.iload_n 1, 46, [])) (cond (Nat.beq pc 46) (some (.invokevirtual 80, 49, [])) (none))))) (cond (Nat.ble 38 pc) (cond (Nat.ble 42 pc) (cond (Nat.beq pc 42) (some (.iload_n 1, 43, [])) (cond (Nat.beq pc 43) (some (.iload_n 2, 44, [])) (cond (Nat.beq pc 44) (some (.aload_n 0, 45, [])) (none)))) (cond (Nat.beq pc 38) (some (.invokevirtual 121, 41, [])) (cond (Nat.beq pc 41) (some (.aload_n 0, 42, [])) (none)))) (cond (Nat.ble 35 pc) (cond (Nat.beq pc 35) (some (.iload_n 2, 36, [])) (cond (Nat.beq pc 36) (some (.iconst 0, 37, [])) (cond (Nat.beq pc 37) (some (.iconst 0, 38, [])) (none)))) (cond (Nat.beq pc 33) (some (.aload_n 0, 34, [])) (cond (Nat.beq pc 34) (some (.iload_n 1, 35, [])) (none)))))) (cond (Nat.ble 16 pc) (cond (Nat.ble 23 pc) (cond (Nat.ble 28 pc) (cond (Nat.beq pc 28) (some (.iconst 0, 29, [])) (cond (Nat.beq pc 29) (some (.iconst 0, 30, [])) (cond (Nat.beq pc 30) (some (.invokevirtual 117, 33, [])) (none)))) (cond (Nat.beq pc 23) (some (.ifCond .ne 10, 26, [33])) (cond (Nat.beq pc 26) (some (.aload_n 0, 27, [])) (cond (Nat.beq pc 27) (some (.iconst 0, 28, [])) (none))))) (cond (Nat.ble 18 pc) (cond (Nat.beq pc 18) (some (.iload_n 2, 19, [])) (cond (Nat.beq pc 19) (some (.iconst 0, 20, [])) (cond (Nat.beq pc 20) (some (.invokevirtual 95, 23, [])) (none)))) (cond (Nat.beq pc 16) (some (.aload_n 0, 17, [])) (cond (Nat.beq pc 17) (some (.iload_n 1, 18, [])) (none))))) (cond (Nat.ble 7 pc) (cond (Nat.ble 11 pc) (cond (Nat.beq pc 11) (some (.ifCond .eq 5, 14, [16])) (cond (Nat.beq pc 14) (some (.iconst 0, 15, [])) (cond (Nat.beq pc 15) (some (.ireturn, 16, [])) (none)))) (cond (Nat.beq pc 7) (some (.iload_n 2, 8, [])) (cond (Nat.beq pc 8) (some (.invokevirtual 124, 11, [])) (none)))) (cond (Nat.ble 2 pc) (cond (Nat.beq pc 2) (some (.putfield 104, 5, [])) (cond (Nat.beq pc 5) (some (.aload_n 0, 6, [])) (cond (Nat.beq pc 6) (some (.iload_n 1, 7, [])) (none)))) (cond (Nat.beq pc 0) (some (.aload_n 0, 1, [])) (cond (Nat.beq pc 1) (some (.iconst 0, 2, [])) (none)))))))
theorem qkX9_laysRoots_ok : ∀ pc i nx ts, qkX9_laysRoots pc = some (i, nx, ts) → am_cok cX9_laysRoots pc (i, nx, ts) = true := fun pc i nx ts h => am_tok_ok (n := 64) (by decide +kernel) (fun pc h => by show cond (Nat.ble 64 pc) _ _ = _; rw [Nat.ble_eq_true_of_le h]; rfl) h
def qaX9_laysRoots : Nat → Option CE := fun k => cond (Nat.beq k 124) (some qeX9_isOnLine) (cond (Nat.beq k 95) (some qeX9_coefficient0) (cond (Nat.beq k 117) (some qeX9_notes) (cond (Nat.beq k 121) (some qeX9_searches) (cond (Nat.beq k 80) (some qeX9_order) (none)))))
theorem qyX9_laysRoots (l : Launch) : ∀ k e1, qaX9_laysRoots k = some e1 → am_cal l layM RX9 20 k e1 ∧ ceT e1 = 0 := q_cons ⟨am_calV (ci := 9) (qtX9_isOnLine l) qbX9_isOnLine (by decide) rfl (am_tb_at 1802 (by decide +kernel) rfl), rfl⟩ (q_cons ⟨am_calV (ci := 9) (qtX9_coefficient0 l) qbX9_coefficient0 (by decide) rfl (am_tb_at 1778 (by decide +kernel) rfl), rfl⟩ (q_cons ⟨am_calV (ci := 9) (qtX9_notes l) qbX9_notes (by decide) rfl (am_tb_at 1821 (by decide +kernel) rfl), rfl⟩ (q_cons ⟨am_calV (ci := 9) (qtX9_searches l) qbX9_searches (by decide) rfl (am_tb_at 1825 (by decide +kernel) rfl), rfl⟩ (q_cons ⟨am_calV (ci := 9) (qtX9_order l) qbX9_order (by decide) rfl (am_tb_at 1659 (by decide +kernel) rfl), rfl⟩ (q_nil)))))
def qxX9_laysRoots : CX := (qkX9_laysRoots, layM, qfX9, qaX9_laysRoots, qcX9, qlX9, qmX9, (some .boolean), false, none, 0, none, fun _ => none)
theorem qzX9_laysRoots (l : Launch) : am_sta l qxX9_laysRoots RX9 20 cX9_laysRoots := ⟨qkX9_laysRoots_ok, layM_ok, qfX9_ok, qcX9_ok, qlX9_ok, am_mthP qmX9_ok (by decide), fun k e1 h => (qyX9_laysRoots l k e1 h).1⟩
def qsX9_laysRoots : SP := fun as F A K => match as with
  | [.inr (.inr o), .inl c, .inl l] => cond (Nat.beq o 25) ((fgOK (mF A) ∧ (0 ≤ c ∧ c < mF A 0) ∧ (0 ≤ l ∧ l < mF A 1) ∧ ((rtsX (mF A) c l).length : Int) ≤ 8) ∧ (∀ (G_1 : FF) (B_1 : AA), (roP F G_1 A B_1 c l) → (K (some (some (vI (bi (¬ azP (cfL (mF A) c l) (Int.toNat (mF A (18 + c)))))))) G_1 B_1))) (False)
  | _ => False
def qeX9_laysRoots : CE := (yX9_laysRoots, cX9_laysRoots, 3, (some .boolean), 2, some 9, 0, [], 0, 20, qsX9_laysRoots)
theorem qbX9_laysRoots : am_mb qeX9_laysRoots := ⟨am_tb_at 1820 (by decide +kernel) rfl, am_tb_at 124 (by decide +kernel) rfl, ⟨by decide, by decide, by decide +kernel⟩, by decide, by decide, am_tb_at 1819 (by decide +kernel) rfl, am_tb_at 88 (by decide +kernel) rfl, _, _, rfl⟩
set_option maxRecDepth 20000 in
theorem qvX9_laysRoots_25 (c : Int) (l : Int) (F : FF) (A : AA) (K : KK) (h : (fgOK (mF A) ∧ (0 ≤ c ∧ c < mF A 0) ∧ (0 ≤ l ∧ l < mF A 1) ∧ ((rtsX (mF A) c l).length : Int) ≤ 8) ∧ (∀ (G_1 : FF) (B_1 : AA), (roP F G_1 A B_1 c l) → (K (some (some (vI (bi (¬ azP (cfL (mF A) c l) (Int.toNat (mF A (18 + c)))))))) G_1 B_1))) : am_line qxX9_laysRoots 41 [vR 25, vI c, vI l] 3 F A K := by
  show am_stp qxX9_laysRoots (am_run qxX9_laysRoots (fun _ => none) (fun _ _ _ _ _ _ => False) K 41) K 0 [some (vR 25), some (vI c), some (vI l)] [] F A 0
  obtain ⟨hp, h⟩ := h
  obtain ⟨p1, p2', p3, p4⟩ := hp
  have q1 := p1.1.1
  have q2 := p1.1.2
  have q3 := (p1.2.2.1 c p2'.1 p2'.2).1
  have q4 := p1.2.1.1
  have rs := smL_rt (f := mF A) (c := c) (l := l)
  rw [show mF A (18 + c) - 1 + 1 = mF A (18 + c) by omega] at rs
  show (fgOK (mF A) ∧ (0 ≤ c ∧ c < mF A 0) ∧ (0 ≤ l ∧ l < mF A 1)) ∧ ((w32 (bi (azP (cfL (mF A) c l) (Int.toNat (mF A (18 + c))))) = w32 0 → (((0 ≤ c ∧ c < 8) ∧ (0 ≤ l ∧ l < 6) ∧ 0 ≤ 0 ∧ 0 < 4) ∧ ((w32 (cfR (mF A) c l 0) = w32 0 → ((0 ≤ 0 ∧ 0 < 40) ∧ ((fgOK (mF (upA (upA (upA A 35 (0) 0) 36 (0) 0) 37 (0) 0)) ∧ (0 ≤ c ∧ c < mF (upA (upA (upA A 35 (0) 0) 36 (0) 0) 37 (0) 0) 0) ∧ (0 ≤ l ∧ l < mF (upA (upA (upA A 35 (0) 0) 36 (0) 0) 37 (0) 0) 1) ∧ (0 ≤ 0 ∧ 0 ≤ mF (upA (upA (upA A 35 (0) 0) 36 (0) 0) 37 (0) 0) 2 ∧ 0 + ((13 : Nat) : Int) = 13) ∧ (0 ≤ 0 ∧ 0 < p2 0) ∧ 0 ≤ ((upF (upF F 25 12 0) 25 12 (0 + 1)) 25 12) ∧ ((upF (upF F 25 12 0) 25 12 (0 + 1)) 25 12) + ((smL (mF (upA (upA (upA A 35 (0) 0) 36 (0) 0) 37 (0) 0)) c l 13 0 0).length : Int) ≤ 40) ∧ (∀ (B_1 : AA) (G_1 : FF) (L_1 : List RT), (L_1 = smL (mF (upA (upA (upA A 35 (0) 0) 36 (0) 0) 37 (0) 0)) c l 13 0 0 ∧ snP (upA (upA (upA A 35 (0) 0) 36 (0) 0) 37 (0) 0) B_1 (((upF (upF F 25 12 0) 25 12 (0 + 1)) 25 12)) L_1 ∧ G_1 = upF (upF (upF F 25 12 0) 25 12 (0 + 1)) 25 12 (((upF (upF F 25 12 0) 25 12 (0 + 1)) 25 12) + (L_1.length : Int))) → ((0 ≤ c ∧ c < 8) ∧ (((0 ≤ c ∧ c < 8) ∧ (0 ≤ l ∧ l < 6) ∧ 0 ≤ (mF B_1 (18 + c) - 1) ∧ (mF B_1 (18 + c) - 1) < 4) ∧ ((w32 (cfR (mF B_1) c l (mF B_1 (18 + c) - 1)) = w32 0 → ((0 ≤ (G_1 25 12) ∧ (G_1 25 12) < 40) ∧ ((1 = 0 ∨ 1 = 1) ∧ (K (some (some (vI 1))) (upF G_1 25 12 ((G_1 25 12) + 1)) (upA (upA (upA B_1 35 ((G_1 25 12)) 0) 36 ((G_1 25 12)) 0) 37 ((G_1 25 12)) 1))))) ∧ (¬ w32 (cfR (mF B_1) c l (mF B_1 (18 + c) - 1)) = w32 0 → ((1 = 0 ∨ 1 = 1) ∧ (K (some (some (vI 1))) G_1 B_1)))))))))) ∧ (¬ w32 (cfR (mF A) c l 0) = w32 0 → ((fgOK (mF A) ∧ (0 ≤ c ∧ c < mF A 0) ∧ (0 ≤ l ∧ l < mF A 1) ∧ (0 ≤ 0 ∧ 0 ≤ mF A 2 ∧ 0 + ((13 : Nat) : Int) = 13) ∧ (0 ≤ 0 ∧ 0 < p2 0) ∧ 0 ≤ 0 ∧ 0 + ((smL (mF A) c l 13 0 0).length : Int) ≤ 40) ∧ (∀ (B_1 : AA) (G_1 : FF) (L_1 : List RT), (L_1 = smL (mF A) c l 13 0 0 ∧ snP A B_1 (0) L_1 ∧ G_1 = upF (upF F 25 12 0) 25 12 (0 + (L_1.length : Int))) → ((0 ≤ c ∧ c < 8) ∧ (((0 ≤ c ∧ c < 8) ∧ (0 ≤ l ∧ l < 6) ∧ 0 ≤ (mF B_1 (18 + c) - 1) ∧ (mF B_1 (18 + c) - 1) < 4) ∧ ((w32 (cfR (mF B_1) c l (mF B_1 (18 + c) - 1)) = w32 0 → ((0 ≤ (G_1 25 12) ∧ (G_1 25 12) < 40) ∧ ((1 = 0 ∨ 1 = 1) ∧ (K (some (some (vI 1))) (upF G_1 25 12 ((G_1 25 12) + 1)) (upA (upA (upA B_1 35 ((G_1 25 12)) 0) 36 ((G_1 25 12)) 0) 37 ((G_1 25 12)) 1))))) ∧ (¬ w32 (cfR (mF B_1) c l (mF B_1 (18 + c) - 1)) = w32 0 → ((1 = 0 ∨ 1 = 1) ∧ (K (some (some (vI 1))) G_1 B_1)))))))))))) ∧ (¬ w32 (bi (azP (cfL (mF A) c l) (Int.toNat (mF A (18 + c))))) = w32 0 → ((0 = 0 ∨ 0 = 1) ∧ (K (some (some (vI 0))) (upF F 25 12 0) A))))
  refine ⟨by exact ⟨p1, p2', p3⟩, ?_⟩
  refine ⟨fun c1 => ?_, fun c1 => ?_⟩
  · skip
    (try simp only [w32_0, wbi0, Classical.not_not] at c1)
    have rs := rs c1
    rw [rs] at p4
    simp only [List.length_append, Int.natCast_add] at p4
    refine ⟨by first | exact Or.inl rfl | exact Or.inr rfl | omega, ?_⟩
    refine ⟨fun c2 => ?_, fun c2 => ?_⟩
    · skip
      (try simp only [w32_0, wbi0, Classical.not_not] at c2)
      try rw [if_pos (cf_0.mpr c2)] at rs p4
      try simp only [List.length_cons, List.length_nil] at p4
      refine ⟨by first | exact Or.inl rfl | exact Or.inr rfl | omega, ?_⟩
      refine ⟨by (rw [mF_up (by decide), mF_up (by decide), mF_up (by decide), upF_s]; exact ⟨p1, p2', p3, ⟨by omega, by omega, by decide⟩, ⟨by omega, by decide⟩, by omega, by omega⟩), ?_⟩
      intro B_1 G_1 L_1 g1
      obtain ⟨gL, gP, gG⟩ := g1
      try rw [mF_up (by decide), mF_up (by decide), mF_up (by decide)] at gL
      try rw [mF_up (by decide), mF_up (by decide), mF_up (by decide)]
      rw [← gL] at rs p4
      have e2 := snP_f gP
      try rw [mF_up (by decide), mF_up (by decide), mF_up (by decide)] at e2
      rw [e2]
      try rw [upF_s] at gG gP
      have f5 := congrFun (congrFun gG 25) 12
      rw [upF_s] at f5
      refine ⟨by first | exact Or.inl rfl | exact Or.inr rfl | omega, ?_⟩
      refine ⟨by first | exact Or.inl rfl | exact Or.inr rfl | omega, ?_⟩
      refine ⟨fun c3 => ?_, fun c3 => ?_⟩
      · skip
        (try simp only [w32_0, wbi0, Classical.not_not] at c3)
        try rw [if_pos (cf_0.mpr c3)] at rs p4
        try simp only [List.length_cons, List.length_nil] at p4
        refine ⟨by (rw [f5]; omega), ?_⟩
        refine ⟨by first | exact Or.inl rfl | exact Or.inr rfl | omega, ?_⟩
        have t9 := snP_trans (snP_add (A := A) (r := 0) (k := 0) (d := 0) (q := 0)) (snP_trans gP (snP_add (A := B_1) (r := G_1 25 12) (k := 0) (d := 0) (q := 1)) f5) (by simp)
        refine K_eq (h _ _ ⟨by rw [rs]; simpa using t9, fun a b hab => by rw [upF_o (by omega), gG]; simp only [upF_2]; exact upF_o (by omega), by rw [upF_s, f5, rs]; simp only [List.length_append, List.length_cons, List.length_nil, List.append_nil, List.nil_append]; omega⟩) (bi_t c1)
      · skip
        (try simp only [w32_0, wbi0, Classical.not_not] at c3)
        try rw [if_neg (fun z => c3 (cf_0.mp z))] at rs p4
        try simp only [List.length_nil] at p4
        refine ⟨by first | exact Or.inl rfl | exact Or.inr rfl | omega, ?_⟩
        have t9 := snP_trans (snP_add (A := A) (r := 0) (k := 0) (d := 0) (q := 0)) (gP) (by simp)
        refine K_eq (h _ _ ⟨by rw [rs]; simpa using t9, fun a b hab => by rw [gG]; simp only [upF_2]; exact upF_o (by omega), by rw [f5, rs]; simp only [List.length_append, List.length_cons, List.length_nil, List.append_nil, List.nil_append]; omega⟩) (bi_t c1)
    · skip
      (try simp only [w32_0, wbi0, Classical.not_not] at c2)
      try rw [if_neg (fun z => c2 (cf_0.mp z))] at rs p4
      try simp only [List.length_nil] at p4
      refine ⟨by exact ⟨p1, p2', p3, ⟨by omega, by omega, by decide⟩, ⟨by omega, by decide⟩, by omega, by omega⟩, ?_⟩
      intro B_1 G_1 L_1 g1
      obtain ⟨gL, gP, gG⟩ := g1
      try rw [mF_up (by decide), mF_up (by decide), mF_up (by decide)] at gL
      try rw [mF_up (by decide), mF_up (by decide), mF_up (by decide)]
      rw [← gL] at rs p4
      have e2 := snP_f gP
      try rw [mF_up (by decide), mF_up (by decide), mF_up (by decide)] at e2
      rw [e2]
      try rw [upF_s] at gG gP
      have f5 := congrFun (congrFun gG 25) 12
      rw [upF_s] at f5
      refine ⟨by first | exact Or.inl rfl | exact Or.inr rfl | omega, ?_⟩
      refine ⟨by first | exact Or.inl rfl | exact Or.inr rfl | omega, ?_⟩
      refine ⟨fun c3 => ?_, fun c3 => ?_⟩
      · skip
        (try simp only [w32_0, wbi0, Classical.not_not] at c3)
        try rw [if_pos (cf_0.mpr c3)] at rs p4
        try simp only [List.length_cons, List.length_nil] at p4
        refine ⟨by (rw [f5]; omega), ?_⟩
        refine ⟨by first | exact Or.inl rfl | exact Or.inr rfl | omega, ?_⟩
        have t9 := snP_trans gP (snP_add (A := B_1) (r := G_1 25 12) (k := 0) (d := 0) (q := 1)) f5
        refine K_eq (h _ _ ⟨by rw [rs]; simpa using t9, fun a b hab => by rw [upF_o (by omega), gG]; simp only [upF_2]; exact upF_o (by omega), by rw [upF_s, f5, rs]; simp only [List.length_append, List.length_cons, List.length_nil, List.append_nil, List.nil_append]; omega⟩) (bi_t c1)
      · skip
        (try simp only [w32_0, wbi0, Classical.not_not] at c3)
        try rw [if_neg (fun z => c3 (cf_0.mp z))] at rs p4
        try simp only [List.length_nil] at p4
        refine ⟨by first | exact Or.inl rfl | exact Or.inr rfl | omega, ?_⟩
        have t9 := gP
        refine K_eq (h _ _ ⟨by rw [rs]; simpa using t9, fun a b hab => by rw [gG]; simp only [upF_2]; exact upF_o (by omega), by rw [f5, rs]; simp only [List.length_append, List.length_cons, List.length_nil, List.append_nil, List.nil_append]; omega⟩) (bi_t c1)
  · skip
    (try simp only [w32_0, wbi0, Classical.not_not] at c1)
    refine ⟨by first | exact Or.inl rfl | exact Or.inr rfl | omega, ?_⟩
    have ro := rts_on q3.1 c1
    exact K_eq (h _ _ ⟨by rw [ro]; exact snP_id, fun a b hab => upF_o hab, by rw [upF_s, ro]; rfl⟩) (bi_f (fun z => z c1))
theorem qtX9_laysRoots (l : Launch) : am_CT l layM qeX9_laysRoots := am_met0 rfl (by decide +kernel) rfl rfl rfl rfl rfl (fun _ => rfl) rfl (qzX9_laysRoots l) (fun k e1 h => (qyX9_laysRoots l k e1 h).2) (fun as F A K h => by
  replace h : qsX9_laysRoots as F A K := h
  unfold qsX9_laysRoots at h
  split at h
  · rename_i o c l
    refine ⟨by first | exact Nat.le_of_ble_eq_true rfl | simp [am_fl, am_cat], ?_⟩
    replace h := am_cond2 h
    rcases h with ⟨hb, h⟩ | h
    · skip
      have hb0 := hb
      have hb0 := am_bq hb0
      subst hb0
      exact am_way_line (qvX9_laysRoots_25 c l F A K h)
    exact h.elim
  · exact h.elim)
def qkX9_rootsOfKind : Nat → Option CI := fun pc => cond (Nat.ble 38 pc) none (cond (Nat.ble 18 pc) (cond (Nat.ble 28 pc) (cond (Nat.ble 33 pc) (cond (Nat.beq pc 33) (some (.goto (-29), 36, [4])) (cond (Nat.beq pc 36) (some (.iload_n 2, 37, [])) (cond (Nat.beq pc 37) (some (.ireturn, 38, [])) (none)))) (cond (Nat.beq pc 28) (some (.iadd, 29, [])) (cond (Nat.beq pc 29) (some (.istore_n 2, 30, [])) (cond (Nat.beq pc 30) (some (.iinc 3 1, 33, [])) (none))))) (cond (Nat.ble 23 pc) (cond (Nat.beq pc 23) (some (.iconst 1, 24, [])) (cond (Nat.beq pc 24) (some (.goto 4, 27, [28])) (cond (Nat.beq pc 27) (some (.iconst 0, 28, [])) (none)))) (cond (Nat.beq pc 18) (some (.iaload, 19, [])) (cond (Nat.beq pc 19) (some (.iload_n 1, 20, [])) (cond (Nat.beq pc 20) (some (.if_icmp .ne 7, 23, [27])) (none)))))) (cond (Nat.ble 6 pc) (cond (Nat.ble 13 pc) (cond (Nat.beq pc 13) (some (.aload_n 0, 14, [])) (cond (Nat.beq pc 14) (some (.getfield 38, 17, [])) (cond (Nat.beq pc 17) (some (.iload_n 3, 18, [])) (none)))) (cond (Nat.beq pc 6) (some (.getfield 104, 9, [])) (cond (Nat.beq pc 9) (some (.if_icmp .ge 27, 12, [36])) (cond (Nat.beq pc 12) (some (.iload_n 2, 13, [])) (none))))) (cond (Nat.ble 3 pc) (cond (Nat.beq pc 3) (some (.istore_n 3, 4, [])) (cond (Nat.beq pc 4) (some (.iload_n 3, 5, [])) (cond (Nat.beq pc 5) (some (.aload_n 0, 6, [])) (none)))) (cond (Nat.beq pc 0) (some (.iconst 0, 1, [])) (cond (Nat.beq pc 1) (some (.istore_n 2, 2, [])) (cond (Nat.beq pc 2) (some (.iconst 0, 3, [])) (none)))))))
theorem qkX9_rootsOfKind_ok : ∀ pc i nx ts, qkX9_rootsOfKind pc = some (i, nx, ts) → am_cok cX9_rootsOfKind pc (i, nx, ts) = true := fun pc i nx ts h => am_tok_ok (n := 38) (by decide +kernel) (fun pc h => by show cond (Nat.ble 38 pc) _ _ = _; rw [Nat.ble_eq_true_of_le h]; rfl) h
def qaX9_rootsOfKind : Nat → Option CE := fun k => none
theorem qyX9_rootsOfKind (l : Launch) : ∀ k e1, qaX9_rootsOfKind k = some e1 → am_cal l layM RX9 3 k e1 ∧ ceT e1 = 0 := q_nil
def qxX9_rootsOfKind : CX := (qkX9_rootsOfKind, layM, qfX9, qaX9_rootsOfKind, qcX9, qlX9, qmX9, (some .int), false, none, 0, none, fun _ => none)
theorem qzX9_rootsOfKind (l : Launch) : am_sta l qxX9_rootsOfKind RX9 3 cX9_rootsOfKind := ⟨qkX9_rootsOfKind_ok, layM_ok, qfX9_ok, qcX9_ok, qlX9_ok, am_mthP qmX9_ok (by decide), fun k e1 h => (qyX9_rootsOfKind l k e1 h).1⟩
def qsX9_rootsOfKind : SP := fun as F A K => match as with
  | [.inr (.inr o), .inl k] => cond (Nat.beq o 25) (((0 ≤ (F 25 12) ∧ (F 25 12) ≤ 40) ∧ (-2147483648 ≤ k ∧ k < 2147483648) ∧ ∀ i, 0 ≤ i → i < (F 25 12) → -1 ≤ A 35 i ∧ A 35 i ≤ 3) ∧ (K (some (some (vI (cntK (A 35) k (Int.toNat ((F 25 12))))))) F A)) (False)
  | _ => False
def qeX9_rootsOfKind : CE := (yX9_rootsOfKind, cX9_rootsOfKind, 4, (some .int), 1, some 9, 0, [], 0, 3, qsX9_rootsOfKind)
theorem qbX9_rootsOfKind : am_mb qeX9_rootsOfKind := ⟨am_tb_at 1836 (by decide +kernel) rfl, am_tb_at 124 (by decide +kernel) rfl, ⟨by decide, by decide, by decide +kernel⟩, by decide, by decide, am_tb_at 1835 (by decide +kernel) rfl, am_tb_at 91 (by decide +kernel) rfl, _, _, rfl⟩
def qnX9_rootsOfKind_25 : CUT := fun pc => cond (Nat.beq pc 4) (some [true, true, true, true]) (none)
def qiX9_rootsOfKind_25 (k : Int) (F0 : FF) (A0 : AA) : REC := fun pc ls st F A u => cond (Nat.beq pc 4) (match ls, st, u with
    | [some (.inr (.inr s0)), some (.inl s1), some (.inl n), some (.inl i)], [], 0 => s0 = 25 ∧ s1 = k ∧ F = F0 ∧ A = A0 ∧ ((0 ≤ i ∧ i ≤ F0 25 12) ∧ n = cntK (A0 35) k (Int.toNat i))
    | _, _, _ => False) (False)
def quX9_rootsOfKind_25 : Nat → LVs → List AV → FF → AA → Nat := fun pc ls _ F A => cond (Nat.beq pc 4) (match ls with
    | [some (.inr (.inr s0)), some (.inl s1), some (.inl n), some (.inl i)] => Int.toNat (100 - i)
    | _ => 0) (0)
set_option maxRecDepth 20000 in
theorem qvX9_rootsOfKind_25_0 (k : Int) (F0 : FF) (A0 : AA) (K : KK) (h : ((0 ≤ (F0 25 12) ∧ (F0 25 12) ≤ 40) ∧ (-2147483648 ≤ k ∧ k < 2147483648) ∧ ∀ i, 0 ≤ i → i < (F0 25 12) → -1 ≤ A0 35 i ∧ A0 35 i ≤ 3) ∧ (K (some (some (vI (cntK (A0 35) k (Int.toNat ((F0 25 12))))))) F0 A0)) : am_stp qxX9_rootsOfKind (am_run qxX9_rootsOfKind qnX9_rootsOfKind_25 (qiX9_rootsOfKind_25 k F0 A0) K 20) K 0 (am_ent [vR 25, vI k] 4) [] F0 A0 0 := by
  show am_stp qxX9_rootsOfKind (am_run qxX9_rootsOfKind qnX9_rootsOfKind_25 (qiX9_rootsOfKind_25 k F0 A0) K 20) K 0 [some (vR 25), some (vI k), none, none] [] F0 A0 0
  obtain ⟨hp, h⟩ := h
  obtain ⟨p1, p2', p3⟩ := hp
  show 25 = 25 ∧ k = k ∧ F0 = F0 ∧ A0 = A0 ∧ ((0 ≤ 0 ∧ 0 ≤ F0 25 12) ∧ 0 = cntK (A0 35) k (Int.toNat 0))
  refine ⟨rfl, rfl, rfl, rfl, ?_⟩
  exact ⟨by omega, rfl⟩
set_option maxRecDepth 20000 in
theorem qvX9_rootsOfKind_25_4 (k : Int) (F0 : FF) (A0 : AA) (K : KK) (h : ((0 ≤ (F0 25 12) ∧ (F0 25 12) ≤ 40) ∧ (-2147483648 ≤ k ∧ k < 2147483648) ∧ ∀ i, 0 ≤ i → i < (F0 25 12) → -1 ≤ A0 35 i ∧ A0 35 i ≤ 3) ∧ (K (some (some (vI (cntK (A0 35) k (Int.toNat ((F0 25 12))))))) F0 A0)) (n : Int) (i : Int) (hi : (0 ≤ i ∧ i ≤ F0 25 12) ∧ n = cntK (A0 35) k (Int.toNat i)) : am_stp qxX9_rootsOfKind (am_run qxX9_rootsOfKind qnX9_rootsOfKind_25 (fun pc ls st F9 A9 u => qiX9_rootsOfKind_25 k F0 A0 pc ls st F9 A9 u ∧ quX9_rootsOfKind_25 pc ls st F9 A9 < quX9_rootsOfKind_25 4 [some (vR 25), some (vI k), some (vI n), some (vI i)] [] F0 A0) K 20) K 4 [some (vR 25), some (vI k), some (vI n), some (vI i)] [] F0 A0 0 := by
  obtain ⟨hp, h⟩ := h
  obtain ⟨p1, p2', p3⟩ := hp
  obtain ⟨h1, h2⟩ := hi
  have cb := cntK_b (A0 35) k (Int.toNat i)
  have cs := cntK_s (g := A0 35) (k := k) h1.1
  show (w32 i < w32 (F0 25 12) → ((0 ≤ w32 i ∧ w32 i < 40) ∧ ((w32 (A0 35 (w32 i)) = w32 k → ((25 = 25 ∧ k = k ∧ F0 = F0 ∧ A0 = A0 ∧ ((0 ≤ (i + 1) ∧ (i + 1) ≤ F0 25 12) ∧ (n + 1) = cntK (A0 35) k (Int.toNat (i + 1)))) ∧ (Int.toNat (100 - (i + 1))) < (Int.toNat (100 - i)))) ∧ (¬ w32 (A0 35 (w32 i)) = w32 k → ((25 = 25 ∧ k = k ∧ F0 = F0 ∧ A0 = A0 ∧ ((0 ≤ (i + 1) ∧ (i + 1) ≤ F0 25 12) ∧ (n + 0) = cntK (A0 35) k (Int.toNat (i + 1)))) ∧ (Int.toNat (100 - (i + 1))) < (Int.toNat (100 - i))))))) ∧ (¬ w32 i < w32 (F0 25 12) → (K (some (some (vI n))) F0 A0))
  refine ⟨fun c1 => ?_, fun c1 => ?_⟩
  · skip
    (try (rw [w32_id (x := i) (by omega) (by omega)] at c1)); (try simp (disch := omega) only [fat_in, w32_0, wbi0, Classical.not_not, w32_id] at c1)
    have kb := p3 i h1.1 (by omega)
    rw [w32_id (x := i) (by omega) (by omega)]
    refine ⟨by omega, ?_⟩
    refine ⟨fun c2 => ?_, fun c2 => ?_⟩
    · skip
      (try (rw [w32_id (x := i) (by omega) (by omega)] at c2)); (try simp (disch := omega) only [fat_in, w32_0, wbi0, Classical.not_not, w32_id] at c2)
      refine ⟨⟨rfl, rfl, rfl, rfl, ?_⟩, by omega⟩
      rw [if_pos c2] at cs
      exact ⟨by omega, by omega⟩
    · skip
      (try (rw [w32_id (x := i) (by omega) (by omega)] at c2)); (try simp (disch := omega) only [fat_in, w32_0, wbi0, Classical.not_not, w32_id] at c2)
      refine ⟨⟨rfl, rfl, rfl, rfl, ?_⟩, by omega⟩
      rw [if_neg c2] at cs
      exact ⟨by omega, by omega⟩
  · skip
    (try (rw [w32_id (x := i) (by omega) (by omega)] at c1)); (try simp (disch := omega) only [fat_in, w32_0, wbi0, Classical.not_not, w32_id] at c1)
    refine K_eq h ?_
    rw [h2, show i = F0 25 12 by omega]
set_option maxRecDepth 20000 in
theorem qvX9_rootsOfKind_25 (k : Int) (F0 : FF) (A0 : AA) (K : KK) (h : ((0 ≤ (F0 25 12) ∧ (F0 25 12) ≤ 40) ∧ (-2147483648 ≤ k ∧ k < 2147483648) ∧ ∀ i, 0 ≤ i → i < (F0 25 12) → -1 ≤ A0 35 i ∧ A0 35 i ≤ 3) ∧ (K (some (some (vI (cntK (A0 35) k (Int.toNat ((F0 25 12))))))) F0 A0)) : am_body qxX9_rootsOfKind qnX9_rootsOfKind_25 20 (qiX9_rootsOfKind_25 k F0 A0) quX9_rootsOfKind_25 [vR 25, vI k] 4 F0 A0 K := by
  refine ⟨qvX9_rootsOfKind_25_0 k F0 A0 K h, fun pc ls st F A u hI => ?_⟩
  unfold qiX9_rootsOfKind_25 at hI
  replace hI := am_cond2 hI
  rcases hI with ⟨hb, hI⟩ | hI
  · have hb := am_bq hb
    subst hb
    split at hI
    · rename_i s0 s1 n i
      obtain ⟨e0, e1, e2, e3, hI⟩ := hI
      subst e0
      subst e1
      subst e2
      subst e3
      exact qvX9_rootsOfKind_25_4 _ _ _ K h _ _ hI
    · exact hI.elim
  exact hI.elim
theorem qtX9_rootsOfKind (l : Launch) : am_CT l layM qeX9_rootsOfKind := am_met0 rfl (by decide +kernel) rfl rfl rfl rfl rfl (fun _ => rfl) rfl (qzX9_rootsOfKind l) (fun k e1 h => (qyX9_rootsOfKind l k e1 h).2) (fun as F A K h => by
  replace h : qsX9_rootsOfKind as F A K := h
  unfold qsX9_rootsOfKind at h
  split at h
  · rename_i o k
    refine ⟨by first | exact Nat.le_of_ble_eq_true rfl | simp [am_fl, am_cat], ?_⟩
    replace h := am_cond2 h
    rcases h with ⟨hb, h⟩ | h
    · skip
      have hb0 := hb
      have hb0 := am_bq hb0
      subst hb0
      exact am_way_body (qvX9_rootsOfKind_25 k F A K h)
    exact h.elim
  · exact h.elim)
def qkX9_sure : Nat → Option CI := fun pc => cond (Nat.ble 25 pc) none (cond (Nat.ble 11 pc) (cond (Nat.ble 19 pc) (cond (Nat.ble 23 pc) (cond (Nat.beq pc 23) (some (.iconst 0, 24, [])) (cond (Nat.beq pc 24) (some (.ireturn, 25, [])) (none))) (cond (Nat.beq pc 19) (some (.iadd, 20, [])) (cond (Nat.beq pc 20) (some (.goto 4, 23, [24])) (none)))) (cond (Nat.ble 15 pc) (cond (Nat.beq pc 15) (some (.iconst 1, 16, [])) (cond (Nat.beq pc 16) (some (.invokevirtual 131, 19, [])) (none))) (cond (Nat.beq pc 11) (some (.invokevirtual 131, 14, [])) (cond (Nat.beq pc 14) (some (.aload_n 0, 15, [])) (none))))) (cond (Nat.ble 3 pc) (cond (Nat.ble 9 pc) (cond (Nat.beq pc 9) (some (.aload_n 0, 10, [])) (cond (Nat.beq pc 10) (some (.iconst 0, 11, [])) (none))) (cond (Nat.beq pc 3) (some (.invokevirtual 128, 6, [])) (cond (Nat.beq pc 6) (some (.ifCond .eq 17, 9, [23])) (none)))) (cond (Nat.beq pc 0) (some (.aload_n 0, 1, [])) (cond (Nat.beq pc 1) (some (.iload_n 1, 2, [])) (cond (Nat.beq pc 2) (some (.iload_n 2, 3, [])) (none))))))
theorem qkX9_sure_ok : ∀ pc i nx ts, qkX9_sure pc = some (i, nx, ts) → am_cok cX9_sure pc (i, nx, ts) = true := fun pc i nx ts h => am_tok_ok (n := 25) (by decide +kernel) (fun pc h => by show cond (Nat.ble 25 pc) _ _ = _; rw [Nat.ble_eq_true_of_le h]; rfl) h
def qaX9_sure : Nat → Option CE := fun k => cond (Nat.beq k 128) (some qeX9_laysRoots) (cond (Nat.beq k 131) (some qeX9_rootsOfKind) (none))
theorem qyX9_sure (l : Launch) : ∀ k e1, qaX9_sure k = some e1 → am_cal l layM RX9 21 k e1 ∧ ceT e1 = 0 := q_cons ⟨am_calV (ci := 9) (qtX9_laysRoots l) qbX9_laysRoots (by decide) rfl (am_tb_at 1817 (by decide +kernel) rfl), rfl⟩ (q_cons ⟨am_calV (ci := 9) (qtX9_rootsOfKind l) qbX9_rootsOfKind (by decide) rfl (am_tb_at 1833 (by decide +kernel) rfl), rfl⟩ (q_nil))
def qxX9_sure : CX := (qkX9_sure, layM, qfX9, qaX9_sure, qcX9, qlX9, qmX9, (some .int), false, none, 0, none, fun _ => none)
theorem qzX9_sure (l : Launch) : am_sta l qxX9_sure RX9 21 cX9_sure := ⟨qkX9_sure_ok, layM_ok, qfX9_ok, qcX9_ok, qlX9_ok, am_mthP qmX9_ok (by decide), fun k e1 h => (qyX9_sure l k e1 h).1⟩
def qsX9_sure : SP := fun as F A K => match as with
  | [.inr (.inr o), .inl c, .inl l] => cond (Nat.beq o 25) ((fgOK (mF A) ∧ (0 ≤ c ∧ c < mF A 0) ∧ (0 ≤ l ∧ l < mF A 1) ∧ ((rtsX (mF A) c l).length : Int) ≤ 8) ∧ (∀ (G_1 : FF) (B_1 : AA), (qdP F G_1 A B_1 ∧ G_1 25 0 = (F 25 0)) → (K (some (some (vI (sureF (mF A) c l)))) G_1 B_1))) (False)
  | _ => False
def qeX9_sure : CE := (yX9_sure, cX9_sure, 3, (some .int), 2, some 9, 0, [], 0, 21, qsX9_sure)
theorem qbX9_sure : am_mb qeX9_sure := ⟨am_tb_at 1890 (by decide +kernel) rfl, am_tb_at 124 (by decide +kernel) rfl, ⟨by decide, by decide, by decide +kernel⟩, by decide, by decide, am_tb_at 1889 (by decide +kernel) rfl, am_tb_at 95 (by decide +kernel) rfl, _, _, rfl⟩
set_option maxRecDepth 20000 in
theorem qvX9_sure_25 (c : Int) (l : Int) (F : FF) (A : AA) (K : KK) (h : (fgOK (mF A) ∧ (0 ≤ c ∧ c < mF A 0) ∧ (0 ≤ l ∧ l < mF A 1) ∧ ((rtsX (mF A) c l).length : Int) ≤ 8) ∧ (∀ (G_1 : FF) (B_1 : AA), (qdP F G_1 A B_1 ∧ G_1 25 0 = (F 25 0)) → (K (some (some (vI (sureF (mF A) c l)))) G_1 B_1))) : am_line qxX9_sure 15 [vR 25, vI c, vI l] 3 F A K := by
  show am_stp qxX9_sure (am_run qxX9_sure (fun _ => none) (fun _ _ _ _ _ _ => False) K 15) K 0 [some (vR 25), some (vI c), some (vI l)] [] F A 0
  obtain ⟨hp, h⟩ := h
  obtain ⟨p1, p2', p3, p4⟩ := hp
  have q1 := p1.1.1
  have q2 := p1.1.2
  have q3 := (p1.2.2.1 c p2'.1 p2'.2).1
  have q4 := p1.2.1.1
  have rs := smL_rt (f := mF A) (c := c) (l := l)
  rw [show mF A (18 + c) - 1 + 1 = mF A (18 + c) by omega] at rs
  show (fgOK (mF A) ∧ (0 ≤ c ∧ c < mF A 0) ∧ (0 ≤ l ∧ l < mF A 1) ∧ ((rtsX (mF A) c l).length : Int) ≤ 8) ∧ (∀ (G_1 : FF) (B_1 : AA), (roP F G_1 A B_1 c l) → ((w32 (bi (¬ azP (cfL (mF A) c l) (Int.toNat (mF A (18 + c))))) = w32 0 → (K (some (some (vI 0))) G_1 B_1)) ∧ (¬ w32 (bi (¬ azP (cfL (mF A) c l) (Int.toNat (mF A (18 + c))))) = w32 0 → (((0 ≤ (G_1 25 12) ∧ (G_1 25 12) ≤ 40) ∧ (-2147483648 ≤ 0 ∧ 0 < 2147483648) ∧ ∀ i, 0 ≤ i → i < (G_1 25 12) → -1 ≤ B_1 35 i ∧ B_1 35 i ≤ 3) ∧ (((0 ≤ (G_1 25 12) ∧ (G_1 25 12) ≤ 40) ∧ (-2147483648 ≤ 1 ∧ 1 < 2147483648) ∧ ∀ i, 0 ≤ i → i < (G_1 25 12) → -1 ≤ B_1 35 i ∧ B_1 35 i ≤ 3) ∧ (K (some (some (vI ((cntK (B_1 35) 0 (Int.toNat ((G_1 25 12)))) + (cntK (B_1 35) 1 (Int.toNat ((G_1 25 12)))))))) G_1 B_1))))))
  refine ⟨by exact ⟨p1, p2', p3, p4⟩, ?_⟩
  intro G_1 B_1 g1
  refine ⟨fun c1 => ?_, fun c1 => ?_⟩
  · skip
    (try simp only [w32_0, wbi0, Classical.not_not] at c1)
    exact K_eq (h _ _ ⟨roP_q g1, g1.2.1 25 0 (by decide)⟩) (sure_on q3.1 c1)
  · skip
    (try simp only [w32_0, wbi0, Classical.not_not] at c1)
    refine ⟨by (have z := roP_k g1; rw [g1.2.2] at *; exact ⟨by omega, by omega, z⟩), ?_⟩
    refine ⟨by (have z := roP_k g1; rw [g1.2.2] at *; exact ⟨by omega, by omega, z⟩), ?_⟩
    refine K_eq (h _ _ ⟨roP_q g1, g1.2.1 25 0 (by decide)⟩) ?_
    rw [roP_cnt g1, roP_cnt g1]; rfl
theorem qtX9_sure (l : Launch) : am_CT l layM qeX9_sure := am_met0 rfl (by decide +kernel) rfl rfl rfl rfl rfl (fun _ => rfl) rfl (qzX9_sure l) (fun k e1 h => (qyX9_sure l k e1 h).2) (fun as F A K h => by
  replace h : qsX9_sure as F A K := h
  unfold qsX9_sure at h
  split at h
  · rename_i o c l
    refine ⟨by first | exact Nat.le_of_ble_eq_true rfl | simp [am_fl, am_cat], ?_⟩
    replace h := am_cond2 h
    rcases h with ⟨hb, h⟩ | h
    · skip
      have hb0 := hb
      have hb0 := am_bq hb0
      subst hb0
      exact am_way_line (qvX9_sure_25 c l F A K h)
    exact h.elim
  · exact h.elim)
