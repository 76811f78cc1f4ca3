def qkX9_isRoot : Nat → Option CI := fun pc => cond (Nat.ble 27 pc) none (cond (Nat.ble 13 pc) (cond (Nat.ble 21 pc) (cond (Nat.ble 25 pc) (cond (Nat.beq pc 25) (some (.iconst 0, 26, [])) (cond (Nat.beq pc 26) (some (.ireturn, 27, [])) (none))) (cond (Nat.beq pc 21) (some (.iconst 1, 22, [])) (cond (Nat.beq pc 22) (some (.goto 4, 25, [26])) (none)))) (cond (Nat.ble 15 pc) (cond (Nat.beq pc 15) (some (.getfield 104, 18, [])) (cond (Nat.beq pc 18) (some (.if_icmp .ge 7, 21, [25])) (none))) (cond (Nat.beq pc 13) (some (.iload_n 3, 14, [])) (cond (Nat.beq pc 14) (some (.aload_n 0, 15, [])) (none))))) (cond (Nat.ble 3 pc) (cond (Nat.ble 9 pc) (cond (Nat.beq pc 9) (some (.iload_n 3, 10, [])) (cond (Nat.beq pc 10) (some (.ifCond .lt 15, 13, [25])) (none))) (cond (Nat.beq pc 3) (some (.invokevirtual 128, 6, [])) (cond (Nat.beq pc 6) (some (.ifCond .eq 19, 9, [25])) (none)))) (cond (Nat.beq pc 0) (some (.aload_n 0, 1, [])) (cond (Nat.beq pc 1) (some (.iload_n 1, 2, [])) (cond (Nat.beq pc 2) (some (.iload_n 2, 3, [])) (none))))))
theorem qkX9_isRoot_ok : ∀ pc i nx ts, qkX9_isRoot pc = some (i, nx, ts) → am_cok cX9_isRoot pc (i, nx, ts) = true := fun pc i nx ts h => am_tok_ok (n := 27) (by decide +kernel) (fun pc h => by show cond (Nat.ble 27 pc) _ _ = _; rw [Nat.ble_eq_true_of_le h]; rfl) h
def qaX9_isRoot : Nat → Option CE := fun k => cond (Nat.beq k 128) (some qeX9_laysRoots) (none)
theorem qyX9_isRoot (l : Launch) : ∀ k e1, qaX9_isRoot k = some e1 → am_cal l layM RX9 21 k e1 ∧ ceT e1 = 0 := q_cons ⟨am_calV (ci := 9) (qtX9_laysRoots l) qbX9_laysRoots (by decide) rfl (am_tb_at 1817 (by decide +kernel) rfl), rfl⟩ (q_nil)
def qxX9_isRoot : CX := (qkX9_isRoot, layM, qfX9, qaX9_isRoot, qcX9, qlX9, qmX9, (some .boolean), false, none, 0, none, fun _ => none)
theorem qzX9_isRoot (l : Launch) : am_sta l qxX9_isRoot RX9 21 cX9_isRoot := ⟨qkX9_isRoot_ok, layM_ok, qfX9_ok, qcX9_ok, qlX9_ok, am_mthP qmX9_ok (by decide), fun k e1 h => (qyX9_isRoot l k e1 h).1⟩
def qsX9_isRoot : SP := fun as F A K => match as with
  | [.inr (.inr o), .inl c, .inl l, .inl r] => cond (Nat.beq o 25) ((fgOK (mF A) ∧ (0 ≤ c ∧ c < mF A 0) ∧ (0 ≤ l ∧ l < mF A 1) ∧ ((rtsX (mF A) c l).length : Int) ≤ 8 ∧ (-2147483648 ≤ r ∧ r < 2147483648)) ∧ (∀ (G_1 : FF) (B_1 : AA), (roP F G_1 A B_1 c l) → (K (some (some (vI (bi (0 ≤ r ∧ r < ((rtsX (mF A) c l).length : Int)))))) G_1 B_1))) (False)
  | _ => False
def qeX9_isRoot : CE := (yX9_isRoot, cX9_isRoot, 4, (some .boolean), 3, some 9, 0, [], 0, 21, qsX9_isRoot)
theorem qbX9_isRoot : am_mb qeX9_isRoot := ⟨am_tb_at 1844 (by decide +kernel) rfl, am_tb_at 124 (by decide +kernel) rfl, ⟨by decide, by decide, by decide +kernel⟩, by decide, by decide, am_tb_at 1843 (by decide +kernel) rfl, am_tb_at 92 (by decide +kernel) rfl, _, _, rfl⟩
set_option maxRecDepth 20000 in
theorem qvX9_isRoot_25 (c : Int) (l : Int) (r : Int) (F : FF) (A : AA) (K : KK) (h : (fgOK (mF A) ∧ (0 ≤ c ∧ c < mF A 0) ∧ (0 ≤ l ∧ l < mF A 1) ∧ ((rtsX (mF A) c l).length : Int) ≤ 8 ∧ (-2147483648 ≤ r ∧ r < 2147483648)) ∧ (∀ (G_1 : FF) (B_1 : AA), (roP F G_1 A B_1 c l) → (K (some (some (vI (bi (0 ≤ r ∧ r < ((rtsX (mF A) c l).length : Int)))))) G_1 B_1))) : am_line qxX9_isRoot 15 [vR 25, vI c, vI l, vI r] 4 F A K := by
  show am_stp qxX9_isRoot (am_run qxX9_isRoot (fun _ => none) (fun _ _ _ _ _ _ => False) K 15) K 0 [some (vR 25), some (vI c), some (vI l), some (vI r)] [] F A 0
  obtain ⟨hp, h⟩ := h
  obtain ⟨p1, p2', p3, p4, p5⟩ := hp
  have q1 := p1.1.1
  have q2 := p1.1.2
  have q3 := (p1.2.2.1 c p2'.1 p2'.2).1
  have q4 := p1.2.1.1
  show (fgOK (mF A) ∧ (0 ≤ c ∧ c < mF A 0) ∧ (0 ≤ l ∧ l < mF A 1) ∧ ((rtsX (mF A) c l).length : Int) ≤ 8) ∧ (∀ (G_1 : FF) (B_1 : AA), (roP F G_1 A B_1 c l) → ((w32 (bi (¬ azP (cfL (mF A) c l) (Int.toNat (mF A (18 + c))))) = w32 0 → ((0 = 0 ∨ 0 = 1) ∧ (K (some (some (vI 0))) G_1 B_1))) ∧ (¬ w32 (bi (¬ azP (cfL (mF A) c l) (Int.toNat (mF A (18 + c))))) = w32 0 → ((w32 r < w32 0 → ((0 = 0 ∨ 0 = 1) ∧ (K (some (some (vI 0))) G_1 B_1))) ∧ (¬ w32 r < w32 0 → ((w32 r < w32 (G_1 25 12) → ((1 = 0 ∨ 1 = 1) ∧ (K (some (some (vI 1))) G_1 B_1))) ∧ (¬ w32 r < w32 (G_1 25 12) → ((0 = 0 ∨ 0 = 1) ∧ (K (some (some (vI 0))) G_1 B_1)))))))))
  refine ⟨by exact ⟨p1, p2', p3, p4⟩, ?_⟩
  intro G_1 B_1 g1
  refine ⟨fun c1 => ?_, fun c1 => ?_⟩
  · skip
    (try rw [g1.2.2] at c1); (try simp (disch := omega) only [w32_0, wbi0, Classical.not_not, w32_id] at c1)
    refine ⟨by first | exact Or.inl rfl | exact Or.inr rfl, ?_⟩
    first
    | (have ro := rts_on q3.1 c1
       refine K_eq (h _ _ g1) (bi_f (fun z => ?_))
       rw [ro] at z
       simp only [List.length_nil] at z
       omega)
    | exact K_eq (h _ _ g1) (bi_t (by omega))
    | exact K_eq (h _ _ g1) (bi_f (by omega))
  · skip
    (try rw [g1.2.2] at c1); (try simp (disch := omega) only [w32_0, wbi0, Classical.not_not, w32_id] at c1)
    refine ⟨fun c2 => ?_, fun c2 => ?_⟩
    · skip
      (try rw [g1.2.2] at c2); (try simp (disch := omega) only [w32_0, wbi0, Classical.not_not, w32_id] at c2)
      refine ⟨by first | exact Or.inl rfl | exact Or.inr rfl, ?_⟩
      first
      | (have ro := rts_on q3.1 c1
         refine K_eq (h _ _ g1) (bi_f (fun z => ?_))
         rw [ro] at z
         simp only [List.length_nil] at z
         omega)
      | exact K_eq (h _ _ g1) (bi_t (by omega))
      | exact K_eq (h _ _ g1) (bi_f (by omega))
    · skip
      (try rw [g1.2.2] at c2); (try simp (disch := omega) only [w32_0, wbi0, Classical.not_not, w32_id] at c2)
      refine ⟨fun c3 => ?_, fun c3 => ?_⟩
      · skip
        (try rw [g1.2.2] at c3); (try simp (disch := omega) only [w32_0, wbi0, Classical.not_not, w32_id] at c3)
        refine ⟨by first | exact Or.inl rfl | exact Or.inr rfl, ?_⟩
        first
        | (have ro := rts_on q3.1 c1
           refine K_eq (h _ _ g1) (bi_f (fun z => ?_))
           rw [ro] at z
           simp only [List.length_nil] at z
           omega)
        | exact K_eq (h _ _ g1) (bi_t (by omega))
        | exact K_eq (h _ _ g1) (bi_f (by omega))
      · skip
        (try rw [g1.2.2] at c3); (try simp (disch := omega) only [w32_0, wbi0, Classical.not_not, w32_id] at c3)
        refine ⟨by first | exact Or.inl rfl | exact Or.inr rfl, ?_⟩
        first
        | (have ro := rts_on q3.1 c1
           refine K_eq (h _ _ g1) (bi_f (fun z => ?_))
           rw [ro] at z
           simp only [List.length_nil] at z
           omega)
        | exact K_eq (h _ _ g1) (bi_t (by omega))
        | exact K_eq (h _ _ g1) (bi_f (by omega))
theorem qtX9_isRoot (l : Launch) : am_CT l layM qeX9_isRoot := am_met0 rfl (by decide +kernel) rfl rfl rfl rfl rfl (fun _ => rfl) rfl (qzX9_isRoot l) (fun k e1 h => (qyX9_isRoot l k e1 h).2) (fun as F A K h => by
  replace h : qsX9_isRoot as F A K := h
  unfold qsX9_isRoot at h
  split at h
  · rename_i o c l r
    refine ⟨by first | exact Nat.le_of_ble_eq_true rfl | simp [am_fl, am_cat], ?_⟩
    replace h := am_cond2 h
    rcases h with ⟨hb, h⟩ | h
    · skip
      have hb0 := hb
      have hb0 := am_bq hb0
      subst hb0
      exact am_way_line (qvX9_isRoot_25 c l r F A K h)
    exact h.elim
  · exact h.elim)
def qkX9_rootKind : Nat → Option CI := fun pc => cond (Nat.ble 32 pc) none (cond (Nat.ble 14 pc) (cond (Nat.ble 25 pc) (cond (Nat.ble 27 pc) (cond (Nat.beq pc 27) (some (.goto 4, 30, [31])) (cond (Nat.beq pc 30) (some (.iconst (-1), 31, [])) (cond (Nat.beq pc 31) (some (.ireturn, 32, [])) (none)))) (cond (Nat.beq pc 25) (some (.iload_n 3, 26, [])) (cond (Nat.beq pc 26) (some (.iaload, 27, [])) (none)))) (cond (Nat.ble 18 pc) (cond (Nat.beq pc 18) (some (.ifCond .eq 12, 21, [30])) (cond (Nat.beq pc 21) (some (.aload_n 0, 22, [])) (cond (Nat.beq pc 22) (some (.getfield 38, 25, [])) (none)))) (cond (Nat.beq pc 14) (some (.iload_n 3, 15, [])) (cond (Nat.beq pc 15) (some (.invokevirtual 354, 18, [])) (none))))) (cond (Nat.ble 9 pc) (cond (Nat.ble 11 pc) (cond (Nat.beq pc 11) (some (.aload_n 0, 12, [])) (cond (Nat.beq pc 12) (some (.iload_n 1, 13, [])) (cond (Nat.beq pc 13) (some (.iload_n 2, 14, [])) (none)))) (cond (Nat.beq pc 9) (some (.iconst 0, 10, [])) (cond (Nat.beq pc 10) (some (.ireturn, 11, [])) (none)))) (cond (Nat.ble 2 pc) (cond (Nat.beq pc 2) (some (.iload_n 2, 3, [])) (cond (Nat.beq pc 3) (some (.invokevirtual 346, 6, [])) (cond (Nat.beq pc 6) (some (.ifCond .ne 5, 9, [11])) (none)))) (cond (Nat.beq pc 0) (some (.aload_n 0, 1, [])) (cond (Nat.beq pc 1) (some (.iload_n 1, 2, [])) (none))))))
theorem qkX9_rootKind_ok : ∀ pc i nx ts, qkX9_rootKind pc = some (i, nx, ts) → am_cok cX9_rootKind pc (i, nx, ts) = true := fun pc i nx ts h => am_tok_ok (n := 32) (by decide +kernel) (fun pc h => by show cond (Nat.ble 32 pc) _ _ = _; rw [Nat.ble_eq_true_of_le h]; rfl) h
def qaX9_rootKind : Nat → Option CE := fun k => cond (Nat.beq k 346) (some qeX9_areThere) (cond (Nat.beq k 354) (some qeX9_isRoot) (none))
theorem qyX9_rootKind (l : Launch) : ∀ k e1, qaX9_rootKind k = some e1 → am_cal l layM RX9 22 k e1 ∧ ceT e1 = 0 := q_cons ⟨am_calV (ci := 9) (qtX9_areThere l) qbX9_areThere (by decide) rfl (am_tb_at 1774 (by decide +kernel) rfl), rfl⟩ (q_cons ⟨am_calV (ci := 9) (qtX9_isRoot l) qbX9_isRoot (by decide) rfl (am_tb_at 1841 (by decide +kernel) rfl), rfl⟩ (q_nil))
def qxX9_rootKind : CX := (qkX9_rootKind, layM, qfX9, qaX9_rootKind, qcX9, qlX9, qmX9, (some .int), false, none, 0, none, fun _ => none)
theorem qzX9_rootKind (l : Launch) : am_sta l qxX9_rootKind RX9 22 cX9_rootKind := ⟨qkX9_rootKind_ok, layM_ok, qfX9_ok, qcX9_ok, qlX9_ok, am_mthP qmX9_ok (by decide), fun k e1 h => (qyX9_rootKind l k e1 h).1⟩
def qsX9_rootKind : SP := fun as F A K => match as with
  | [.inr (.inr o), .inl c, .inl l, .inl r] => cond (Nat.beq o 25) ((fgOK (mF A) ∧ (-2147483648 ≤ c ∧ c < 2147483648) ∧ (-2147483648 ≤ l ∧ l < 2147483648) ∧ (-2147483648 ≤ r ∧ r < 2147483648) ∧ RTB) ∧ (∀ (G_1 : FF) (B_1 : AA), (qdP F G_1 A B_1 ∧ G_1 25 0 = (if (0 ≤ c ∧ c < mF A 0) ∧ 0 ≤ l ∧ l < mF A 1 then 0 else 1)) → (K (some (some (vI (if (0 ≤ c ∧ c < mF A 0) ∧ 0 ≤ l ∧ l < mF A 1 then (if 0 ≤ r ∧ r < ((rtsX (mF A) c l).length : Int) then ((rtsX (mF A) c l).getD (Int.toNat r) (0, 0, 0)).1 else -1) else 0)))) G_1 B_1))) (False)
  | _ => False
def qeX9_rootKind : CE := (yX9_rootKind, cX9_rootKind, 4, (some .int), 3, some 9, 0, [], 0, 22, qsX9_rootKind)
theorem qbX9_rootKind : am_mb qeX9_rootKind := ⟨am_tb_at 1840 (by decide +kernel) rfl, am_tb_at 124 (by decide +kernel) rfl, ⟨by decide, by decide, by decide +kernel⟩, by decide, by decide, am_tb_at 1838 (by decide +kernel) rfl, am_tb_at 1839 (by decide +kernel) rfl, _, _, rfl⟩
set_option maxRecDepth 20000 in
theorem qvX9_rootKind_25 (c : Int) (l : Int) (r : Int) (F : FF) (A : AA) (K : KK) (h : (fgOK (mF A) ∧ (-2147483648 ≤ c ∧ c < 2147483648) ∧ (-2147483648 ≤ l ∧ l < 2147483648) ∧ (-2147483648 ≤ r ∧ r < 2147483648) ∧ RTB) ∧ (∀ (G_1 : FF) (B_1 : AA), (qdP F G_1 A B_1 ∧ G_1 25 0 = (if (0 ≤ c ∧ c < mF A 0) ∧ 0 ≤ l ∧ l < mF A 1 then 0 else 1)) → (K (some (some (vI (if (0 ≤ c ∧ c < mF A 0) ∧ 0 ≤ l ∧ l < mF A 1 then (if 0 ≤ r ∧ r < ((rtsX (mF A) c l).length : Int) then ((rtsX (mF A) c l).getD (Int.toNat r) (0, 0, 0)).1 else -1) else 0)))) G_1 B_1))) : am_line qxX9_rootKind 18 [vR 25, vI c, vI l, vI r] 4 F A K := by
  show am_stp qxX9_rootKind (am_run qxX9_rootKind (fun _ => none) (fun _ _ _ _ _ _ => False) K 18) K 0 [some (vR 25), some (vI c), some (vI l), some (vI r)] [] F A 0
  obtain ⟨hp, h⟩ := h
  have p1 := hp.1
  have q1 := p1.1.1
  have q2 := p1.1.2
  have q4 := p1.2.1
  have rb := hp.2.2.2.2

  show (fgOK (mF A) ∧ (-2147483648 ≤ c ∧ c < 2147483648) ∧ (-2147483648 ≤ l ∧ l < 2147483648)) ∧ ((w32 (bi ((0 ≤ c ∧ c < mF A 0) ∧ 0 ≤ l ∧ l < mF A 1)) = w32 0 → (K (some (some (vI 0))) (upF F 25 0 (1 - bi ((0 ≤ c ∧ c < mF A 0) ∧ 0 ≤ l ∧ l < mF A 1))) A)) ∧ (¬ (w32 (bi ((0 ≤ c ∧ c < mF A 0) ∧ 0 ≤ l ∧ l < mF A 1)) = w32 0) → ((fgOK (mF A) ∧ (0 ≤ c ∧ c < mF A 0) ∧ (0 ≤ l ∧ l < mF A 1) ∧ ((rtsX (mF A) c l).length : Int) ≤ 8 ∧ (-2147483648 ≤ r ∧ r < 2147483648)) ∧ (∀ (G_1 : FF) (B_1 : AA), (roP (upF F 25 0 (1 - bi ((0 ≤ c ∧ c < mF A 0) ∧ 0 ≤ l ∧ l < mF A 1))) G_1 A B_1 c l) → ((w32 (bi (0 ≤ r ∧ r < ((rtsX (mF A) c l).length : Int))) = w32 0 → (K (some (some (vI (-1)))) G_1 B_1)) ∧ (¬ (w32 (bi (0 ≤ r ∧ r < ((rtsX (mF A) c l).length : Int))) = w32 0) → ((0 ≤ w32 r ∧ w32 r < 40) ∧ (K (some (some (vI (B_1 35 (w32 r))))) G_1 B_1))))))))
  refine ⟨by exact ⟨p1, by omega, by omega⟩, ?_⟩
  refine ⟨fun c1 => ?_, fun c1 => ?_⟩
  · skip
    (try (have q3 := (p1.2.2.1 c c1.1.1 c1.1.2).1)); (try simp only [w32_0, wbi0, Classical.not_not] at c1); (try simp (disch := omega) only [fat_in, w32_0, wbi0, Classical.not_not, w32_id] at c1)
    first
    | exact K_eq (h _ _ ⟨qdP_F (by decide), by rw [upF_s, bi_f c1, if_neg c1]; rfl⟩) (if_neg c1)
    | exact K_eq (h _ _ ⟨qdP_trans (qdP_F (by decide)) (roP_q g1), by rw [g1.2.1 25 0 (by decide), upF_s, bi_t c1, if_pos c1]; rfl⟩) (by rw [if_pos c1, if_neg c2])
    | (have rq := rb (mF A) p1 c l c1.1.1 c1.1.2 c1.2.1 c1.2.2; refine K_eq (h _ _ ⟨qdP_trans (qdP_F (by decide)) (roP_q g1), by rw [g1.2.1 25 0 (by decide), upF_s, bi_t c1, if_pos c1]; rfl⟩) ?_; rw [if_pos c1, if_pos c2, w32_id (by omega) (by omega)]; exact (rts_get g1.1.2 c2.1 c2.2).1.symm)
  · skip
    (try (have q3 := (p1.2.2.1 c c1.1.1 c1.1.2).1)); (try simp only [w32_0, wbi0, Classical.not_not] at c1); (try simp (disch := omega) only [fat_in, w32_0, wbi0, Classical.not_not, w32_id] at c1)
    refine ⟨by exact ⟨p1, c1.1, c1.2, rb (mF A) p1 c l c1.1.1 c1.1.2 c1.2.1 c1.2.2, by omega⟩, ?_⟩
    intro G_1 B_1 g1
    refine ⟨fun c2 => ?_, fun c2 => ?_⟩
    · skip
      (try (have q3 := (p1.2.2.1 c c1.1.1 c1.1.2).1)); (try simp only [w32_0, wbi0, Classical.not_not] at c2); (try simp (disch := omega) only [fat_in, w32_0, wbi0, Classical.not_not, w32_id] at c2)
      first
      | exact K_eq (h _ _ ⟨qdP_F (by decide), by rw [upF_s, bi_f c1, if_neg c1]; rfl⟩) (if_neg c1)
      | exact K_eq (h _ _ ⟨qdP_trans (qdP_F (by decide)) (roP_q g1), by rw [g1.2.1 25 0 (by decide), upF_s, bi_t c1, if_pos c1]; rfl⟩) (by rw [if_pos c1, if_neg c2])
      | (have rq := rb (mF A) p1 c l c1.1.1 c1.1.2 c1.2.1 c1.2.2; refine K_eq (h _ _ ⟨qdP_trans (qdP_F (by decide)) (roP_q g1), by rw [g1.2.1 25 0 (by decide), upF_s, bi_t c1, if_pos c1]; rfl⟩) ?_; rw [if_pos c1, if_pos c2, w32_id (by omega) (by omega)]; exact (rts_get g1.1.2 c2.1 c2.2).1.symm)
    · skip
      (try (have q3 := (p1.2.2.1 c c1.1.1 c1.1.2).1)); (try simp only [w32_0, wbi0, Classical.not_not] at c2); (try simp (disch := omega) only [fat_in, w32_0, wbi0, Classical.not_not, w32_id] at c2)
      refine ⟨by (have rq := rb (mF A) p1 c l c1.1.1 c1.1.2 c1.2.1 c1.2.2; rw [w32_id (by omega) (by omega)]; omega), ?_⟩
      first
      | exact K_eq (h _ _ ⟨qdP_F (by decide), by rw [upF_s, bi_f c1, if_neg c1]; rfl⟩) (if_neg c1)
      | exact K_eq (h _ _ ⟨qdP_trans (qdP_F (by decide)) (roP_q g1), by rw [g1.2.1 25 0 (by decide), upF_s, bi_t c1, if_pos c1]; rfl⟩) (by rw [if_pos c1, if_neg c2])
      | (have rq := rb (mF A) p1 c l c1.1.1 c1.1.2 c1.2.1 c1.2.2; refine K_eq (h _ _ ⟨qdP_trans (qdP_F (by decide)) (roP_q g1), by rw [g1.2.1 25 0 (by decide), upF_s, bi_t c1, if_pos c1]; rfl⟩) ?_; rw [if_pos c1, if_pos c2, w32_id (by omega) (by omega)]; exact (rts_get g1.1.2 c2.1 c2.2).1.symm)
theorem qtX9_rootKind (l : Launch) : am_CT l layM qeX9_rootKind := am_met0 rfl (by decide +kernel) rfl rfl rfl rfl rfl (fun _ => rfl) rfl (qzX9_rootKind l) (fun k e1 h => (qyX9_rootKind l k e1 h).2) (fun as F A K h => by
  replace h : qsX9_rootKind as F A K := h
  unfold qsX9_rootKind at h
  split at h
  · rename_i o c l r
    refine ⟨by first | exact Nat.le_of_ble_eq_true rfl | simp [am_fl, am_cat], ?_⟩
    replace h := am_cond2 h
    rcases h with ⟨hb, h⟩ | h
    · skip
      have hb0 := hb
      have hb0 := am_bq hb0
      subst hb0
      exact am_way_line (qvX9_rootKind_25 c l r F A K h)
    exact h.elim
  · exact h.elim)
def qkX9_rootDepth : Nat → Option CI := fun pc => cond (Nat.ble 32 pc) none (cond (Nat.ble 14 pc) (cond (Nat.ble 25 pc) (cond (Nat.ble 27 pc) (cond (Nat.beq pc 27) (some (.goto 4, 30, [31])) (cond (Nat.beq pc 30) (some (.iconst (-1), 31, [])) (cond (Nat.beq pc 31) (some (.ireturn, 32, [])) (none)))) (cond (Nat.beq pc 25) (some (.iload_n 3, 26, [])) (cond (Nat.beq pc 26) (some (.iaload, 27, [])) (none)))) (cond (Nat.ble 18 pc) (cond (Nat.beq pc 18) (some (.ifCond .eq 12, 21, [30])) (cond (Nat.beq pc 21) (some (.aload_n 0, 22, [])) (cond (Nat.beq pc 22) (some (.getfield 41, 25, [])) (none)))) (cond (Nat.beq pc 14) (some (.iload_n 3, 15, [])) (cond (Nat.beq pc 15) (some (.invokevirtual 354, 18, [])) (none))))) (cond (Nat.ble 9 pc) (cond (Nat.ble 11 pc) (cond (Nat.beq pc 11) (some (.aload_n 0, 12, [])) (cond (Nat.beq pc 12) (some (.iload_n 1, 13, [])) (cond (Nat.beq pc 13) (some (.iload_n 2, 14, [])) (none)))) (cond (Nat.beq pc 9) (some (.iconst 0, 10, [])) (cond (Nat.beq pc 10) (some (.ireturn, 11, [])) (none)))) (cond (Nat.ble 2 pc) (cond (Nat.beq pc 2) (some (.iload_n 2, 3, [])) (cond (Nat.beq pc 3) (some (.invokevirtual 346, 6, [])) (cond (Nat.beq pc 6) (some (.ifCond .ne 5, 9, [11])) (none)))) (cond (Nat.beq pc 0) (some (.aload_n 0, 1, [])) (cond (Nat.beq pc 1) (some (.iload_n 1, 2, [])) (none))))))
theorem qkX9_rootDepth_ok : ∀ pc i nx ts, qkX9_rootDepth pc = some (i, nx, ts) → am_cok cX9_rootDepth pc (i, nx, ts) = true := fun pc i nx ts h => am_tok_ok (n := 32) (by decide +kernel) (fun pc h => by show cond (Nat.ble 32 pc) _ _ = _; rw [Nat.ble_eq_true_of_le h]; rfl) h
def qaX9_rootDepth : Nat → Option CE := fun k => cond (Nat.beq k 346) (some qeX9_areThere) (cond (Nat.beq k 354) (some qeX9_isRoot) (none))
theorem qyX9_rootDepth (l : Launch) : ∀ k e1, qaX9_rootDepth k = some e1 → am_cal l layM RX9 22 k e1 ∧ ceT e1 = 0 := q_cons ⟨am_calV (ci := 9) (qtX9_areThere l) qbX9_areThere (by decide) rfl (am_tb_at 1774 (by decide +kernel) rfl), rfl⟩ (q_cons ⟨am_calV (ci := 9) (qtX9_isRoot l) qbX9_isRoot (by decide) rfl (am_tb_at 1841 (by decide +kernel) rfl), rfl⟩ (q_nil))
def qxX9_rootDepth : CX := (qkX9_rootDepth, layM, qfX9, qaX9_rootDepth, qcX9, qlX9, qmX9, (some .int), false, none, 0, none, fun _ => none)
theorem qzX9_rootDepth (l : Launch) : am_sta l qxX9_rootDepth RX9 22 cX9_rootDepth := ⟨qkX9_rootDepth_ok, layM_ok, qfX9_ok, qcX9_ok, qlX9_ok, am_mthP qmX9_ok (by decide), fun k e1 h => (qyX9_rootDepth l k e1 h).1⟩
def qsX9_rootDepth : SP := fun as F A K => match as with
  | [.inr (.inr o), .inl c, .inl l, .inl r] => cond (Nat.beq o 25) ((fgOK (mF A) ∧ (-2147483648 ≤ c ∧ c < 2147483648) ∧ (-2147483648 ≤ l ∧ l < 2147483648) ∧ (-2147483648 ≤ r ∧ r < 2147483648) ∧ RTB) ∧ (∀ (G_1 : FF) (B_1 : AA), (qdP F G_1 A B_1 ∧ G_1 25 0 = (if (0 ≤ c ∧ c < mF A 0) ∧ 0 ≤ l ∧ l < mF A 1 then 0 else 1)) → (K (some (some (vI (if (0 ≤ c ∧ c < mF A 0) ∧ 0 ≤ l ∧ l < mF A 1 then (if 0 ≤ r ∧ r < ((rtsX (mF A) c l).length : Int) then ((rtsX (mF A) c l).getD (Int.toNat r) (0, 0, 0)).2.1 else -1) else 0)))) G_1 B_1))) (False)
  | _ => False
def qeX9_rootDepth : CE := (yX9_rootDepth, cX9_rootDepth, 4, (some .int), 3, some 9, 0, [], 0, 22, qsX9_rootDepth)
theorem qbX9_rootDepth : am_mb qeX9_rootDepth := ⟨am_tb_at 1848 (by decide +kernel) rfl, am_tb_at 124 (by decide +kernel) rfl, ⟨by decide, by decide, by decide +kernel⟩, by decide, by decide, am_tb_at 1846 (by decide +kernel) rfl, am_tb_at 1847 (by decide +kernel) rfl, _, _, rfl⟩
set_option maxRecDepth 20000 in
theorem qvX9_rootDepth_25 (c : Int) (l : Int) (r : Int) (F : FF) (A : AA) (K : KK) (h : (fgOK (mF A) ∧ (-2147483648 ≤ c ∧ c < 2147483648) ∧ (-2147483648 ≤ l ∧ l < 2147483648) ∧ (-2147483648 ≤ r ∧ r < 2147483648) ∧ RTB) ∧ (∀ (G_1 : FF) (B_1 : AA), (qdP F G_1 A B_1 ∧ G_1 25 0 = (if (0 ≤ c ∧ c < mF A 0) ∧ 0 ≤ l ∧ l < mF A 1 then 0 else 1)) → (K (some (some (vI (if (0 ≤ c ∧ c < mF A 0) ∧ 0 ≤ l ∧ l < mF A 1 then (if 0 ≤ r ∧ r < ((rtsX (mF A) c l).length : Int) then ((rtsX (mF A) c l).getD (Int.toNat r) (0, 0, 0)).2.1 else -1) else 0)))) G_1 B_1))) : am_line qxX9_rootDepth 18 [vR 25, vI c, vI l, vI r] 4 F A K := by
  show am_stp qxX9_rootDepth (am_run qxX9_rootDepth (fun _ => none) (fun _ _ _ _ _ _ => False) K 18) K 0 [some (vR 25), some (vI c), some (vI l), some (vI r)] [] F A 0
  obtain ⟨hp, h⟩ := h
  have p1 := hp.1
  have q1 := p1.1.1
  have q2 := p1.1.2
  have q4 := p1.2.1
  have rb := hp.2.2.2.2

  show (fgOK (mF A) ∧ (-2147483648 ≤ c ∧ c < 2147483648) ∧ (-2147483648 ≤ l ∧ l < 2147483648)) ∧ ((w32 (bi ((0 ≤ c ∧ c < mF A 0) ∧ 0 ≤ l ∧ l < mF A 1)) = w32 0 → (K (some (some (vI 0))) (upF F 25 0 (1 - bi ((0 ≤ c ∧ c < mF A 0) ∧ 0 ≤ l ∧ l < mF A 1))) A)) ∧ (¬ (w32 (bi ((0 ≤ c ∧ c < mF A 0) ∧ 0 ≤ l ∧ l < mF A 1)) = w32 0) → ((fgOK (mF A) ∧ (0 ≤ c ∧ c < mF A 0) ∧ (0 ≤ l ∧ l < mF A 1) ∧ ((rtsX (mF A) c l).length : Int) ≤ 8 ∧ (-2147483648 ≤ r ∧ r < 2147483648)) ∧ (∀ (G_1 : FF) (B_1 : AA), (roP (upF F 25 0 (1 - bi ((0 ≤ c ∧ c < mF A 0) ∧ 0 ≤ l ∧ l < mF A 1))) G_1 A B_1 c l) → ((w32 (bi (0 ≤ r ∧ r < ((rtsX (mF A) c l).length : Int))) = w32 0 → (K (some (some (vI (-1)))) G_1 B_1)) ∧ (¬ (w32 (bi (0 ≤ r ∧ r < ((rtsX (mF A) c l).length : Int))) = w32 0) → ((0 ≤ w32 r ∧ w32 r < 40) ∧ (K (some (some (vI (B_1 36 (w32 r))))) G_1 B_1))))))))
  refine ⟨by exact ⟨p1, by omega, by omega⟩, ?_⟩
  refine ⟨fun c1 => ?_, fun c1 => ?_⟩
  · skip
    (try (have q3 := (p1.2.2.1 c c1.1.1 c1.1.2).1)); (try simp only [w32_0, wbi0, Classical.not_not] at c1); (try simp (disch := omega) only [fat_in, w32_0, wbi0, Classical.not_not, w32_id] at c1)
    first
    | exact K_eq (h _ _ ⟨qdP_F (by decide), by rw [upF_s, bi_f c1, if_neg c1]; rfl⟩) (if_neg c1)
    | exact K_eq (h _ _ ⟨qdP_trans (qdP_F (by decide)) (roP_q g1), by rw [g1.2.1 25 0 (by decide), upF_s, bi_t c1, if_pos c1]; rfl⟩) (by rw [if_pos c1, if_neg c2])
    | (have rq := rb (mF A) p1 c l c1.1.1 c1.1.2 c1.2.1 c1.2.2; refine K_eq (h _ _ ⟨qdP_trans (qdP_F (by decide)) (roP_q g1), by rw [g1.2.1 25 0 (by decide), upF_s, bi_t c1, if_pos c1]; rfl⟩) ?_; rw [if_pos c1, if_pos c2, w32_id (by omega) (by omega)]; exact (rts_get g1.1.2 c2.1 c2.2).2.1.symm)
  · skip
    (try (have q3 := (p1.2.2.1 c c1.1.1 c1.1.2).1)); (try simp only [w32_0, wbi0, Classical.not_not] at c1); (try simp (disch := omega) only [fat_in, w32_0, wbi0, Classical.not_not, w32_id] at c1)
    refine ⟨by exact ⟨p1, c1.1, c1.2, rb (mF A) p1 c l c1.1.1 c1.1.2 c1.2.1 c1.2.2, by omega⟩, ?_⟩
    intro G_1 B_1 g1
    refine ⟨fun c2 => ?_, fun c2 => ?_⟩
    · skip
      (try (have q3 := (p1.2.2.1 c c1.1.1 c1.1.2).1)); (try simp only [w32_0, wbi0, Classical.not_not] at c2); (try simp (disch := omega) only [fat_in, w32_0, wbi0, Classical.not_not, w32_id] at c2)
      first
      | exact K_eq (h _ _ ⟨qdP_F (by decide), by rw [upF_s, bi_f c1, if_neg c1]; rfl⟩) (if_neg c1)
      | exact K_eq (h _ _ ⟨qdP_trans (qdP_F (by decide)) (roP_q g1), by rw [g1.2.1 25 0 (by decide), upF_s, bi_t c1, if_pos c1]; rfl⟩) (by rw [if_pos c1, if_neg c2])
      | (have rq := rb (mF A) p1 c l c1.1.1 c1.1.2 c1.2.1 c1.2.2; refine K_eq (h _ _ ⟨qdP_trans (qdP_F (by decide)) (roP_q g1), by rw [g1.2.1 25 0 (by decide), upF_s, bi_t c1, if_pos c1]; rfl⟩) ?_; rw [if_pos c1, if_pos c2, w32_id (by omega) (by omega)]; exact (rts_get g1.1.2 c2.1 c2.2).2.1.symm)
    · skip
      (try (have q3 := (p1.2.2.1 c c1.1.1 c1.1.2).1)); (try simp only [w32_0, wbi0, Classical.not_not] at c2); (try simp (disch := omega) only [fat_in, w32_0, wbi0, Classical.not_not, w32_id] at c2)
      refine ⟨by (have rq := rb (mF A) p1 c l c1.1.1 c1.1.2 c1.2.1 c1.2.2; rw [w32_id (by omega) (by omega)]; omega), ?_⟩
      first
      | exact K_eq (h _ _ ⟨qdP_F (by decide), by rw [upF_s, bi_f c1, if_neg c1]; rfl⟩) (if_neg c1)
      | exact K_eq (h _ _ ⟨qdP_trans (qdP_F (by decide)) (roP_q g1), by rw [g1.2.1 25 0 (by decide), upF_s, bi_t c1, if_pos c1]; rfl⟩) (by rw [if_pos c1, if_neg c2])
      | (have rq := rb (mF A) p1 c l c1.1.1 c1.1.2 c1.2.1 c1.2.2; refine K_eq (h _ _ ⟨qdP_trans (qdP_F (by decide)) (roP_q g1), by rw [g1.2.1 25 0 (by decide), upF_s, bi_t c1, if_pos c1]; rfl⟩) ?_; rw [if_pos c1, if_pos c2, w32_id (by omega) (by omega)]; exact (rts_get g1.1.2 c2.1 c2.2).2.1.symm)
theorem qtX9_rootDepth (l : Launch) : am_CT l layM qeX9_rootDepth := am_met0 rfl (by decide +kernel) rfl rfl rfl rfl rfl (fun _ => rfl) rfl (qzX9_rootDepth l) (fun k e1 h => (qyX9_rootDepth l k e1 h).2) (fun as F A K h => by
  replace h : qsX9_rootDepth as F A K := h
  unfold qsX9_rootDepth at h
  split at h
  · rename_i o c l r
    refine ⟨by first | exact Nat.le_of_ble_eq_true rfl | simp [am_fl, am_cat], ?_⟩
    replace h := am_cond2 h
    rcases h with ⟨hb, h⟩ | h
    · skip
      have hb0 := hb
      have hb0 := am_bq hb0
      subst hb0
      exact am_way_line (qvX9_rootDepth_25 c l r F A K h)
    exact h.elim
  · exact h.elim)
def qkX9_rootCell : Nat → Option CI := fun pc => cond (Nat.ble 32 pc) none (cond (Nat.ble 14 pc) (cond (Nat.ble 25 pc) (cond (Nat.ble 27 pc) (cond (Nat.beq pc 27) (some (.goto 4, 30, [31])) (cond (Nat.beq pc 30) (some (.iconst (-1), 31, [])) (cond (Nat.beq pc 31) (some (.ireturn, 32, [])) (none)))) (cond (Nat.beq pc 25) (some (.iload_n 3, 26, [])) (cond (Nat.beq pc 26) (some (.iaload, 27, [])) (none)))) (cond (Nat.ble 18 pc) (cond (Nat.beq pc 18) (some (.ifCond .eq 12, 21, [30])) (cond (Nat.beq pc 21) (some (.aload_n 0, 22, [])) (cond (Nat.beq pc 22) (some (.getfield 44, 25, [])) (none)))) (cond (Nat.beq pc 14) (some (.iload_n 3, 15, [])) (cond (Nat.beq pc 15) (some (.invokevirtual 354, 18, [])) (none))))) (cond (Nat.ble 9 pc) (cond (Nat.ble 11 pc) (cond (Nat.beq pc 11) (some (.aload_n 0, 12, [])) (cond (Nat.beq pc 12) (some (.iload_n 1, 13, [])) (cond (Nat.beq pc 13) (some (.iload_n 2, 14, [])) (none)))) (cond (Nat.beq pc 9) (some (.iconst 0, 10, [])) (cond (Nat.beq pc 10) (some (.ireturn, 11, [])) (none)))) (cond (Nat.ble 2 pc) (cond (Nat.beq pc 2) (some (.iload_n 2, 3, [])) (cond (Nat.beq pc 3) (some (.invokevirtual 346, 6, [])) (cond (Nat.beq pc 6) (some (.ifCond .ne 5, 9, [11])) (none)))) (cond (Nat.beq pc 0) (some (.aload_n 0, 1, [])) (cond (Nat.beq pc 1) (some (.iload_n 1, 2, [])) (none))))))
theorem qkX9_rootCell_ok : ∀ pc i nx ts, qkX9_rootCell pc = some (i, nx, ts) → am_cok cX9_rootCell pc (i, nx, ts) = true := fun pc i nx ts h => am_tok_ok (n := 32) (by decide +kernel) (fun pc h => by show cond (Nat.ble 32 pc) _ _ = _; rw [Nat.ble_eq_true_of_le h]; rfl) h
def qaX9_rootCell : Nat → Option CE := fun k => cond (Nat.beq k 346) (some qeX9_areThere) (cond (Nat.beq k 354) (some qeX9_isRoot) (none))
theorem qyX9_rootCell (l : Launch) : ∀ k e1, qaX9_rootCell k = some e1 → am_cal l layM RX9 22 k e1 ∧ ceT e1 = 0 := q_cons ⟨am_calV (ci := 9) (qtX9_areThere l) qbX9_areThere (by decide) rfl (am_tb_at 1774 (by decide +kernel) rfl), rfl⟩ (q_cons ⟨am_calV (ci := 9) (qtX9_isRoot l) qbX9_isRoot (by decide) rfl (am_tb_at 1841 (by decide +kernel) rfl), rfl⟩ (q_nil))
def qxX9_rootCell : CX := (qkX9_rootCell, layM, qfX9, qaX9_rootCell, qcX9, qlX9, qmX9, (some .int), false, none, 0, none, fun _ => none)
theorem qzX9_rootCell (l : Launch) : am_sta l qxX9_rootCell RX9 22 cX9_rootCell := ⟨qkX9_rootCell_ok, layM_ok, qfX9_ok, qcX9_ok, qlX9_ok, am_mthP qmX9_ok (by decide), fun k e1 h => (qyX9_rootCell l k e1 h).1⟩
def qsX9_rootCell : SP := fun as F A K => match as with
  | [.inr (.inr o), .inl c, .inl l, .inl r] => cond (Nat.beq o 25) ((fgOK (mF A) ∧ (-2147483648 ≤ c ∧ c < 2147483648) ∧ (-2147483648 ≤ l ∧ l < 2147483648) ∧ (-2147483648 ≤ r ∧ r < 2147483648) ∧ RTB) ∧ (∀ (G_1 : FF) (B_1 : AA), (qdP F G_1 A B_1 ∧ G_1 25 0 = (if (0 ≤ c ∧ c < mF A 0) ∧ 0 ≤ l ∧ l < mF A 1 then 0 else 1)) → (K (some (some (vI (if (0 ≤ c ∧ c < mF A 0) ∧ 0 ≤ l ∧ l < mF A 1 then (if 0 ≤ r ∧ r < ((rtsX (mF A) c l).length : Int) then ((rtsX (mF A) c l).getD (Int.toNat r) (0, 0, 0)).2.2 else -1) else 0)))) G_1 B_1))) (False)
  | _ => False
def qeX9_rootCell : CE := (yX9_rootCell, cX9_rootCell, 4, (some .int), 3, some 9, 0, [], 0, 22, qsX9_rootCell)
theorem qbX9_rootCell : am_mb qeX9_rootCell := ⟨am_tb_at 1852 (by decide +kernel) rfl, am_tb_at 124 (by decide +kernel) rfl, ⟨by decide, by decide, by decide +kernel⟩, by decide, by decide, am_tb_at 1850 (by decide +kernel) rfl, am_tb_at 1851 (by decide +kernel) rfl, _, _, rfl⟩
set_option maxRecDepth 20000 in
theorem qvX9_rootCell_25 (c : Int) (l : Int) (r : Int) (F : FF) (A : AA) (K : KK) (h : (fgOK (mF A) ∧ (-2147483648 ≤ c ∧ c < 2147483648) ∧ (-2147483648 ≤ l ∧ l < 2147483648) ∧ (-2147483648 ≤ r ∧ r < 2147483648) ∧ RTB) ∧ (∀ (G_1 : FF) (B_1 : AA), (qdP F G_1 A B_1 ∧ G_1 25 0 = (if (0 ≤ c ∧ c < mF A 0) ∧ 0 ≤ l ∧ l < mF A 1 then 0 else 1)) → (K (some (some (vI (if (0 ≤ c ∧ c < mF A 0) ∧ 0 ≤ l ∧ l < mF A 1 then (if 0 ≤ r ∧ r < ((rtsX (mF A) c l).length : Int) then ((rtsX (mF A) c l).getD (Int.toNat r) (0, 0, 0)).2.2 else -1) else 0)))) G_1 B_1))) : am_line qxX9_rootCell 18 [vR 25, vI c, vI l, vI r] 4 F A K := by
  show am_stp qxX9_rootCell (am_run qxX9_rootCell (fun _ => none) (fun _ _ _ _ _ _ => False) K 18) K 0 [some (vR 25), some (vI c), some (vI l), some (vI r)] [] F A 0
  obtain ⟨hp, h⟩ := h
  have p1 := hp.1
  have q1 := p1.1.1
  have q2 := p1.1.2
  have q4 := p1.2.1
  have rb := hp.2.2.2.2

  show (fgOK (mF A) ∧ (-2147483648 ≤ c ∧ c < 2147483648) ∧ (-2147483648 ≤ l ∧ l < 2147483648)) ∧ ((w32 (bi ((0 ≤ c ∧ c < mF A 0) ∧ 0 ≤ l ∧ l < mF A 1)) = w32 0 → (K (some (some (vI 0))) (upF F 25 0 (1 - bi ((0 ≤ c ∧ c < mF A 0) ∧ 0 ≤ l ∧ l < mF A 1))) A)) ∧ (¬ (w32 (bi ((0 ≤ c ∧ c < mF A 0) ∧ 0 ≤ l ∧ l < mF A 1)) = w32 0) → ((fgOK (mF A) ∧ (0 ≤ c ∧ c < mF A 0) ∧ (0 ≤ l ∧ l < mF A 1) ∧ ((rtsX (mF A) c l).length : Int) ≤ 8 ∧ (-2147483648 ≤ r ∧ r < 2147483648)) ∧ (∀ (G_1 : FF) (B_1 : AA), (roP (upF F 25 0 (1 - bi ((0 ≤ c ∧ c < mF A 0) ∧ 0 ≤ l ∧ l < mF A 1))) G_1 A B_1 c l) → ((w32 (bi (0 ≤ r ∧ r < ((rtsX (mF A) c l).length : Int))) = w32 0 → (K (some (some (vI (-1)))) G_1 B_1)) ∧ (¬ (w32 (bi (0 ≤ r ∧ r < ((rtsX (mF A) c l).length : Int))) = w32 0) → ((0 ≤ w32 r ∧ w32 r < 40) ∧ (K (some (some (vI (B_1 37 (w32 r))))) G_1 B_1))))))))
  refine ⟨by exact ⟨p1, by omega, by omega⟩, ?_⟩
  refine ⟨fun c1 => ?_, fun c1 => ?_⟩
  · skip
    (try (have q3 := (p1.2.2.1 c c1.1.1 c1.1.2).1)); (try simp only [w32_0, wbi0, Classical.not_not] at c1); (try simp (disch := omega) only [fat_in, w32_0, wbi0, Classical.not_not, w32_id] at c1)
    first
    | exact K_eq (h _ _ ⟨qdP_F (by decide), by rw [upF_s, bi_f c1, if_neg c1]; rfl⟩) (if_neg c1)
    | exact K_eq (h _ _ ⟨qdP_trans (qdP_F (by decide)) (roP_q g1), by rw [g1.2.1 25 0 (by decide), upF_s, bi_t c1, if_pos c1]; rfl⟩) (by rw [if_pos c1, if_neg c2])
    | (have rq := rb (mF A) p1 c l c1.1.1 c1.1.2 c1.2.1 c1.2.2; refine K_eq (h _ _ ⟨qdP_trans (qdP_F (by decide)) (roP_q g1), by rw [g1.2.1 25 0 (by decide), upF_s, bi_t c1, if_pos c1]; rfl⟩) ?_; rw [if_pos c1, if_pos c2, w32_id (by omega) (by omega)]; exact (rts_get g1.1.2 c2.1 c2.2).2.2.symm)
  · skip
    (try (have q3 := (p1.2.2.1 c c1.1.1 c1.1.2).1)); (try simp only [w32_0, wbi0, Classical.not_not] at c1); (try simp (disch := omega) only [fat_in, w32_0, wbi0, Classical.not_not, w32_id] at c1)
    refine ⟨by exact ⟨p1, c1.1, c1.2, rb (mF A) p1 c l c1.1.1 c1.1.2 c1.2.1 c1.2.2, by omega⟩, ?_⟩
    intro G_1 B_1 g1
    refine ⟨fun c2 => ?_, fun c2 => ?_⟩
    · skip
      (try (have q3 := (p1.2.2.1 c c1.1.1 c1.1.2).1)); (try simp only [w32_0, wbi0, Classical.not_not] at c2); (try simp (disch := omega) only [fat_in, w32_0, wbi0, Classical.not_not, w32_id] at c2)
      first
      | exact K_eq (h _ _ ⟨qdP_F (by decide), by rw [upF_s, bi_f c1, if_neg c1]; rfl⟩) (if_neg c1)
      | exact K_eq (h _ _ ⟨qdP_trans (qdP_F (by decide)) (roP_q g1), by rw [g1.2.1 25 0 (by decide), upF_s, bi_t c1, if_pos c1]; rfl⟩) (by rw [if_pos c1, if_neg c2])
      | (have rq := rb (mF A) p1 c l c1.1.1 c1.1.2 c1.2.1 c1.2.2; refine K_eq (h _ _ ⟨qdP_trans (qdP_F (by decide)) (roP_q g1), by rw [g1.2.1 25 0 (by decide), upF_s, bi_t c1, if_pos c1]; rfl⟩) ?_; rw [if_pos c1, if_pos c2, w32_id (by omega) (by omega)]; exact (rts_get g1.1.2 c2.1 c2.2).2.2.symm)
    · skip
      (try (have q3 := (p1.2.2.1 c c1.1.1 c1.1.2).1)); (try simp only [w32_0, wbi0, Classical.not_not] at c2); (try simp (disch := omega) only [fat_in, w32_0, wbi0, Classical.not_not, w32_id] at c2)
      refine ⟨by (have rq := rb (mF A) p1 c l c1.1.1 c1.1.2 c1.2.1 c1.2.2; rw [w32_id (by omega) (by omega)]; omega), ?_⟩
      first
      | exact K_eq (h _ _ ⟨qdP_F (by decide), by rw [upF_s, bi_f c1, if_neg c1]; rfl⟩) (if_neg c1)
      | exact K_eq (h _ _ ⟨qdP_trans (qdP_F (by decide)) (roP_q g1), by rw [g1.2.1 25 0 (by decide), upF_s, bi_t c1, if_pos c1]; rfl⟩) (by rw [if_pos c1, if_neg c2])
      | (have rq := rb (mF A) p1 c l c1.1.1 c1.1.2 c1.2.1 c1.2.2; refine K_eq (h _ _ ⟨qdP_trans (qdP_F (by decide)) (roP_q g1), by rw [g1.2.1 25 0 (by decide), upF_s, bi_t c1, if_pos c1]; rfl⟩) ?_; rw [if_pos c1, if_pos c2, w32_id (by omega) (by omega)]; exact (rts_get g1.1.2 c2.1 c2.2).2.2.symm)
theorem qtX9_rootCell (l : Launch) : am_CT l layM qeX9_rootCell := am_met0 rfl (by decide +kernel) rfl rfl rfl rfl rfl (fun _ => rfl) rfl (qzX9_rootCell l) (fun k e1 h => (qyX9_rootCell l k e1 h).2) (fun as F A K h => by
  replace h : qsX9_rootCell as F A K := h
  unfold qsX9_rootCell at h
  split at h
  · rename_i o c l r
    refine ⟨by first | exact Nat.le_of_ble_eq_true rfl | simp [am_fl, am_cat], ?_⟩
    replace h := am_cond2 h
    rcases h with ⟨hb, h⟩ | h
    · skip
      have hb0 := hb
      have hb0 := am_bq hb0
      subst hb0
      exact am_way_line (qvX9_rootCell_25 c l r F A K h)
    exact h.elim
  · exact h.elim)
def qkX9_refine : Nat → Option CI := fun pc => cond (Nat.ble 157 pc) none (cond (Nat.ble 78 pc) (cond (Nat.ble 118 pc) (cond (Nat.ble 137 pc) (cond (Nat.ble 148 pc) (cond (Nat.ble 151 pc) (cond (Nat.beq pc 151) (some (.goto (-101), 154, [50])) (cond (Nat.beq pc 154) (some (.iload 6, 156, [])) (cond (Nat.beq pc 156) (some (.ireturn, 157, [])) (none)))) (cond (Nat.beq pc 148) (some (.isub, 149, [])) (cond (Nat.beq pc 149) (some (.ishl, 150, [])) (cond (Nat.beq pc 150) (some (.ireturn, 151, [])) (none))))) (cond (Nat.ble 142 pc) (cond (Nat.beq pc 142) (some (.iload 6, 144, [])) (cond (Nat.beq pc 144) (some (.iload 4, 146, [])) (cond (Nat.beq pc 146) (some (.iload 5, 148, [])) (none)))) (cond (Nat.beq pc 137) (some (.lconst 0, 138, [])) (cond (Nat.beq pc 138) (some (.lcmp, 139, [])) (cond (Nat.beq pc 139) (some (.ifCond .ne 12, 142, [151])) (none)))))) (cond (Nat.ble 126 pc) (cond (Nat.ble 132 pc) (cond (Nat.beq pc 132) (some (.getfield 35, 135, [])) (cond (Nat.beq pc 135) (some (.iconst 0, 136, [])) (cond (Nat.beq pc 136) (some (.laload, 137, [])) (none)))) (cond (Nat.beq pc 126) (some (.iload 7, 128, [])) (cond (Nat.beq pc 128) (some (.ifCond .ne 23, 131, [151])) (cond (Nat.beq pc 131) (some (.aload_n 0, 132, [])) (none))))) (cond (Nat.ble 122 pc) (cond (Nat.beq pc 122) (some (.iconst 1, 123, [])) (cond (Nat.beq pc 123) (some (.iadd, 124, [])) (cond (Nat.beq pc 124) (some (.istore 6, 126, [])) (none)))) (cond (Nat.beq pc 118) (some (.iconst 2, 119, [])) (cond (Nat.beq pc 119) (some (.iload 6, 121, [])) (cond (Nat.beq pc 121) (some (.imul, 122, [])) (none))))))) (cond (Nat.ble 97 pc) (cond (Nat.ble 106 pc) (cond (Nat.ble 112 pc) (cond (Nat.beq pc 112) (some (.iload 6, 114, [])) (cond (Nat.beq pc 114) (some (.imul, 115, [])) (cond (Nat.beq pc 115) (some (.goto 9, 118, [124])) (none)))) (cond (Nat.beq pc 106) (some (.iload 7, 108, [])) (cond (Nat.beq pc 108) (some (.ifCond .eq 10, 111, [118])) (cond (Nat.beq pc 111) (some (.iconst 2, 112, [])) (none))))) (cond (Nat.ble 101 pc) (cond (Nat.beq pc 101) (some (.iconst 1, 102, [])) (cond (Nat.beq pc 102) (some (.iadd, 103, [])) (cond (Nat.beq pc 103) (some (.invokevirtual 107, 106, [])) (none)))) (cond (Nat.beq pc 97) (some (.iconst 2, 98, [])) (cond (Nat.beq pc 98) (some (.iload 6, 100, [])) (cond (Nat.beq pc 100) (some (.imul, 101, [])) (none)))))) (cond (Nat.ble 89 pc) (cond (Nat.ble 93 pc) (cond (Nat.beq pc 93) (some (.iload_n 1, 94, [])) (cond (Nat.beq pc 94) (some (.iload_n 2, 95, [])) (cond (Nat.beq pc 95) (some (.iload 5, 97, [])) (none)))) (cond (Nat.beq pc 89) (some (.iconst 0, 90, [])) (cond (Nat.beq pc 90) (some (.istore 7, 92, [])) (cond (Nat.beq pc 92) (some (.aload_n 0, 93, [])) (none))))) (cond (Nat.ble 82 pc) (cond (Nat.beq pc 82) (some (.if_icmp .ne 7, 85, [89])) (cond (Nat.beq pc 85) (some (.iconst 1, 86, [])) (cond (Nat.beq pc 86) (some (.goto 4, 89, [90])) (none)))) (cond (Nat.beq pc 78) (some (.invokevirtual 111, 81, [])) (cond (Nat.beq pc 81) (some (.iconst 1, 82, [])) (none))))))) (cond (Nat.ble 38 pc) (cond (Nat.ble 60 pc) (cond (Nat.ble 68 pc) (cond (Nat.ble 73 pc) (cond (Nat.beq pc 73) (some (.aload_n 0, 74, [])) (cond (Nat.beq pc 74) (some (.iload_n 1, 75, [])) (cond (Nat.beq pc 75) (some (.invokevirtual 80, 78, [])) (none)))) (cond (Nat.beq pc 68) (some (.imul, 69, [])) (cond (Nat.beq pc 69) (some (.invokevirtual 107, 72, [])) (cond (Nat.beq pc 72) (some (.aload_n 0, 73, [])) (none))))) (cond (Nat.ble 63 pc) (cond (Nat.beq pc 63) (some (.iload 5, 65, [])) (cond (Nat.beq pc 65) (some (.iconst 2, 66, [])) (cond (Nat.beq pc 66) (some (.iload 6, 68, [])) (none)))) (cond (Nat.beq pc 60) (some (.aload_n 0, 61, [])) (cond (Nat.beq pc 61) (some (.iload_n 1, 62, [])) (cond (Nat.beq pc 62) (some (.iload_n 2, 63, [])) (none)))))) (cond (Nat.ble 48 pc) (cond (Nat.ble 52 pc) (cond (Nat.beq pc 52) (some (.iload 4, 54, [])) (cond (Nat.beq pc 54) (some (.if_icmp .ge 100, 57, [154])) (cond (Nat.beq pc 57) (some (.iinc 5 1, 60, [])) (none)))) (cond (Nat.beq pc 48) (some (.ishl, 49, [])) (cond (Nat.beq pc 49) (some (.ireturn, 50, [])) (cond (Nat.beq pc 50) (some (.iload 5, 52, [])) (none))))) (cond (Nat.ble 43 pc) (cond (Nat.beq pc 43) (some (.iload 4, 45, [])) (cond (Nat.beq pc 45) (some (.iload 5, 47, [])) (cond (Nat.beq pc 47) (some (.isub, 48, [])) (none)))) (cond (Nat.beq pc 38) (some (.ifCond .ne 12, 41, [50])) (cond (Nat.beq pc 41) (some (.iload 6, 43, [])) (none)))))) (cond (Nat.ble 18 pc) (cond (Nat.ble 30 pc) (cond (Nat.ble 33 pc) (cond (Nat.beq pc 33) (some (.getfield 38, 36, [])) (cond (Nat.beq pc 36) (some (.iload_n 3, 37, [])) (cond (Nat.beq pc 37) (some (.iaload, 38, [])) (none)))) (cond (Nat.beq pc 30) (some (.ishr, 31, [])) (cond (Nat.beq pc 31) (some (.ireturn, 32, [])) (cond (Nat.beq pc 32) (some (.aload_n 0, 33, [])) (none))))) (cond (Nat.ble 25 pc) (cond (Nat.beq pc 25) (some (.iload 5, 27, [])) (cond (Nat.beq pc 27) (some (.iload 4, 29, [])) (cond (Nat.beq pc 29) (some (.isub, 30, [])) (none)))) (cond (Nat.beq pc 18) (some (.iload 5, 20, [])) (cond (Nat.beq pc 20) (some (.if_icmp .gt 12, 23, [32])) (cond (Nat.beq pc 23) (some (.iload 6, 25, [])) (none)))))) (cond (Nat.ble 8 pc) (cond (Nat.ble 13 pc) (cond (Nat.beq pc 13) (some (.iaload, 14, [])) (cond (Nat.beq pc 14) (some (.istore 6, 16, [])) (cond (Nat.beq pc 16) (some (.iload 4, 18, [])) (none)))) (cond (Nat.beq pc 8) (some (.aload_n 0, 9, [])) (cond (Nat.beq pc 9) (some (.getfield 44, 12, [])) (cond (Nat.beq pc 12) (some (.iload_n 3, 13, [])) (none))))) (cond (Nat.ble 4 pc) (cond (Nat.beq pc 4) (some (.iload_n 3, 5, [])) (cond (Nat.beq pc 5) (some (.iaload, 6, [])) (cond (Nat.beq pc 6) (some (.istore 5, 8, [])) (none)))) (cond (Nat.beq pc 0) (some (.aload_n 0, 1, [])) (cond (Nat.beq pc 1) (some (.getfield 41, 4, [])) (none))))))))
theorem qkX9_refine_ok : ∀ pc i nx ts, qkX9_refine pc = some (i, nx, ts) → am_cok cX9_refine pc (i, nx, ts) = true := fun pc i nx ts h => am_tok_ok (n := 157) (by decide +kernel) (fun pc h => by show cond (Nat.ble 157 pc) _ _ = _; rw [Nat.ble_eq_true_of_le h]; rfl) h
def qaX9_refine : Nat → Option CE := fun k => cond (Nat.beq k 107) (some qeX9_laysCoefficients) (cond (Nat.beq k 80) (some qeX9_order) (cond (Nat.beq k 111) (some qeX9_changes) (none)))
theorem qyX9_refine (l : Launch) : ∀ k e1, qaX9_refine k = some e1 → am_cal l layM RX9 6 k e1 ∧ ceT e1 = 0 := q_cons ⟨am_calV (ci := 9) (qtX9_laysCoefficients l) qbX9_laysCoefficients (by decide) rfl (am_tb_at 1787 (by decide +kernel) rfl), rfl⟩ (q_cons ⟨am_calV (ci := 9) (qtX9_order l) qbX9_order (by decide) rfl (am_tb_at 1659 (by decide +kernel) rfl), rfl⟩ (q_cons ⟨am_calV (ci := 9) (qtX9_changes l) qbX9_changes (by decide) rfl (am_tb_at 1791 (by decide +kernel) rfl), rfl⟩ (q_nil)))
def qxX9_refine : CX := (qkX9_refine, layM, qfX9, qaX9_refine, qcX9, qlX9, qmX9, (some .int), false, none, 0, none, fun _ => none)
theorem qzX9_refine (l : Launch) : am_sta l qxX9_refine RX9 6 cX9_refine := ⟨qkX9_refine_ok, layM_ok, qfX9_ok, qcX9_ok, qlX9_ok, am_mthP qmX9_ok (by decide), fun k e1 h => (qyX9_refine l k e1 h).1⟩
def qsX9_refine : SP := fun as F A K => match as with
  | [.inr (.inr o), .inl c, .inl l, .inl r, .inl d] => cond (Nat.beq o 25) ((fgOK (mF A) ∧ (0 ≤ c ∧ c < mF A 0) ∧ (0 ≤ l ∧ l < mF A 1) ∧ ((0 ≤ r ∧ r < 40) ∧ (0 ≤ A 36 r ∧ A 36 r ≤ 12) ∧ (0 ≤ A 37 r ∧ A 37 r ≤ p2 (A 36 r)) ∧ (0 ≤ A 35 r ∧ A 35 r ≤ 2) ∧ (A 35 r = 1 → A 37 r < p2 (A 36 r)) ∧ ¬ A 35 r = 2) ∧ 0 ≤ d ∧ d ≤ 12) ∧ (∀ (B_1 : AA), (∀ b i, b ≠ 32 ∧ b ≠ 34 → B_1 b i = A b i) → (K (some (some (vI (rfP (mF A) c l (A 35 r, A 36 r, A 37 r) d)))) F B_1))) (False)
  | _ => False
def qeX9_refine : CE := (yX9_refine, cX9_refine, 8, (some .int), 4, some 9, 0, [], 0, 6, qsX9_refine)
theorem qbX9_refine : am_mb qeX9_refine := ⟨am_tb_at 1860 (by decide +kernel) rfl, am_tb_at 124 (by decide +kernel) rfl, ⟨by decide, by decide, by decide +kernel⟩, by decide, by decide, am_tb_at 1859 (by decide +kernel) rfl, am_tb_at 93 (by decide +kernel) rfl, _, _, rfl⟩
def qnX9_refine_25 : CUT := fun pc => cond (Nat.beq pc 50) (some [true, true, true, true, true, true, true, false]) (none)
def qiX9_refine_25 (c : Int) (l : Int) (r : Int) (d : Int) (F0 : FF) (A0 : AA) : REC := fun pc ls st F A u => cond (Nat.beq pc 50) (match ls, st, u with
    | [some (.inr (.inr s0)), some (.inl s1), some (.inl s2), some (.inl s3), some (.inl s4), some (.inl e), some (.inl q), none], [], 0 => s0 = 25 ∧ s1 = c ∧ s2 = l ∧ s3 = r ∧ s4 = d ∧ F = F0 ∧ ((0 ≤ e ∧ A0 36 r ≤ e ∧ e ≤ d) ∧ (0 ≤ q ∧ q < p2 e) ∧ A0 35 r = 1 ∧ A0 36 r < d ∧ (∀ bb ii, bb ≠ 32 ∧ bb ≠ 34 → A bb ii = A0 bb ii) ∧ rfM (mF A0 (18 + c) - 1) (Int.toNat (d - e)) (ccX (mF A0) c l (Int.toNat e) q) q = rfP (mF A0) c l (A0 35 r, A0 36 r, A0 37 r) d)
    | _, _, _ => False) (False)
def quX9_refine_25 : Nat → LVs → List AV → FF → AA → Nat := fun pc ls _ F A => cond (Nat.beq pc 50) (match ls with
    | [some (.inr (.inr s0)), some (.inl s1), some (.inl s2), some (.inl s3), some (.inl s4), some (.inl e), some (.inl q), none] => Int.toNat (20 - e)
    | _ => 0) (0)
set_option maxRecDepth 20000 in
theorem qvX9_refine_25_0 (c : Int) (l : Int) (r : Int) (d : Int) (F0 : FF) (A0 : AA) (K : KK) (h : (fgOK (mF A0) ∧ (0 ≤ c ∧ c < mF A0 0) ∧ (0 ≤ l ∧ l < mF A0 1) ∧ ((0 ≤ r ∧ r < 40) ∧ (0 ≤ A0 36 r ∧ A0 36 r ≤ 12) ∧ (0 ≤ A0 37 r ∧ A0 37 r ≤ p2 (A0 36 r)) ∧ (0 ≤ A0 35 r ∧ A0 35 r ≤ 2) ∧ (A0 35 r = 1 → A0 37 r < p2 (A0 36 r)) ∧ ¬ A0 35 r = 2) ∧ 0 ≤ d ∧ d ≤ 12) ∧ (∀ (B_1 : AA), (∀ b i, b ≠ 32 ∧ b ≠ 34 → B_1 b i = A0 b i) → (K (some (some (vI (rfP (mF A0) c l (A0 35 r, A0 36 r, A0 37 r) d)))) F0 B_1))) : am_stp qxX9_refine (am_run qxX9_refine qnX9_refine_25 (qiX9_refine_25 c l r d F0 A0) K 56) K 0 (am_ent [vR 25, vI c, vI l, vI r, vI d] 8) [] F0 A0 0 := by
  show am_stp qxX9_refine (am_run qxX9_refine qnX9_refine_25 (qiX9_refine_25 c l r d F0 A0) K 56) K 0 [some (vR 25), some (vI c), some (vI l), some (vI r), some (vI d), none, none, none] [] F0 A0 0
  obtain ⟨hp, h⟩ := h
  obtain ⟨p1, p2', p3, ⟨r0, r1, r2, r3, r4, r5⟩, d0, d1⟩ := hp
  have q1 := p1.1.1
  have q2 := p1.1.2
  have q3 := (p1.2.2.1 c p2'.1 p2'.2).1
  have pr := p2_12' r1.2
  show (0 ≤ w32 r ∧ w32 r < 40) ∧ ((0 ≤ w32 r ∧ w32 r < 40) ∧ ((w32 (A0 36 (w32 r)) < w32 d → ((0 ≤ w32 r ∧ w32 r < 40) ∧ ((w32 (A0 35 (w32 r)) = w32 0 → (K (some (some (vI (x_shl (A0 37 (w32 r)) (d - (A0 36 (w32 r))))))) F0 A0)) ∧ (¬ w32 (A0 35 (w32 r)) = w32 0 → (25 = 25 ∧ c = c ∧ l = l ∧ r = r ∧ d = d ∧ F0 = F0 ∧ ((0 ≤ (A0 36 (w32 r)) ∧ A0 36 r ≤ (A0 36 (w32 r)) ∧ (A0 36 (w32 r)) ≤ d) ∧ (0 ≤ (A0 37 (w32 r)) ∧ (A0 37 (w32 r)) < p2 (A0 36 (w32 r))) ∧ A0 35 r = 1 ∧ A0 36 r < d ∧ (∀ bb ii, bb ≠ 32 ∧ bb ≠ 34 → A0 bb ii = A0 bb ii) ∧ rfM (mF A0 (18 + c) - 1) (Int.toNat (d - (A0 36 (w32 r)))) (ccX (mF A0) c l (Int.toNat (A0 36 (w32 r))) (A0 37 (w32 r))) (A0 37 (w32 r)) = rfP (mF A0) c l (A0 35 r, A0 36 r, A0 37 r) d)))))) ∧ (¬ w32 (A0 36 (w32 r)) < w32 d → (K (some (some (vI (x_shr (A0 37 (w32 r)) ((A0 36 (w32 r)) - d))))) F0 A0))))
  refine ⟨by (rw [w32_id (by omega) (by omega)]; omega), ?_⟩
  refine ⟨by (rw [w32_id (by omega) (by omega)]; omega), ?_⟩
  refine ⟨fun c1 => ?_, fun c1 => ?_⟩
  · skip
    (try (rw [w32_id (x := r) (by omega) (by omega)] at c1)); (try simp (disch := omega) only [fat_in, w32_0, wbi0, Classical.not_not, w32_id] at c1)
    refine ⟨by (rw [w32_id (by omega) (by omega)]; omega), ?_⟩
    refine ⟨fun c2 => ?_, fun c2 => ?_⟩
    · skip
      (try (rw [w32_id (x := r) (by omega) (by omega)] at c2)); (try simp (disch := omega) only [fat_in, w32_0, wbi0, Classical.not_not, w32_id] at c2)
      rw [w32_id (x := r) (by omega) (by omega)]
      first
      | (refine K_eq (h _ (fun _ _ _ => rfl)) ?_
         unfold rfP
         dsimp only
         rw [if_pos (show d ≤ A0 36 r by omega)]
         exact (x_shrp (by omega) (by omega) (by omega) (by omega)).symm)
      | (refine K_eq (h _ (fun _ _ _ => rfl)) ?_
         unfold rfP
         dsimp only
         rw [if_neg (show ¬ d ≤ A0 36 r by omega), if_pos (show A0 35 r = 0 by omega)]
         have h1 : A0 37 r * p2 (d - A0 36 r) ≤ p2 (A0 36 r) * p2 (d - A0 36 r) := Int.mul_le_mul_of_nonneg_right r2.2 (Int.le_of_lt p2_pos)
         rw [← p2_add (by omega) (by omega), show A0 36 r + (d - A0 36 r) = d by omega] at h1
         have h2 := p2_12' d1
         exact (x_shlp (by omega) (by omega) (by omega) (by omega)).symm)
    · skip
      (try (rw [w32_id (x := r) (by omega) (by omega)] at c2)); (try simp (disch := omega) only [fat_in, w32_0, wbi0, Classical.not_not, w32_id] at c2)
      refine ⟨rfl, rfl, rfl, rfl, rfl, rfl, ?_⟩
      rw [w32_id (x := r) (by omega) (by omega)]
      refine ⟨by omega, ⟨r2.1, r4 (by omega)⟩, by omega, by omega, fun _ _ _ => rfl, ?_⟩
      unfold rfP
      dsimp only
      rw [if_neg (by omega), if_neg (by omega)]
  · skip
    (try (rw [w32_id (x := r) (by omega) (by omega)] at c1)); (try simp (disch := omega) only [fat_in, w32_0, wbi0, Classical.not_not, w32_id] at c1)
    rw [w32_id (x := r) (by omega) (by omega)]
    first
    | (refine K_eq (h _ (fun _ _ _ => rfl)) ?_
       unfold rfP
       dsimp only
       rw [if_pos (show d ≤ A0 36 r by omega)]
       exact (x_shrp (by omega) (by omega) (by omega) (by omega)).symm)
    | (refine K_eq (h _ (fun _ _ _ => rfl)) ?_
       unfold rfP
       dsimp only
       rw [if_neg (show ¬ d ≤ A0 36 r by omega), if_pos (show A0 35 r = 0 by omega)]
       have h1 : A0 37 r * p2 (d - A0 36 r) ≤ p2 (A0 36 r) * p2 (d - A0 36 r) := Int.mul_le_mul_of_nonneg_right r2.2 (Int.le_of_lt p2_pos)
       rw [← p2_add (by omega) (by omega), show A0 36 r + (d - A0 36 r) = d by omega] at h1
       have h2 := p2_12' d1
       exact (x_shlp (by omega) (by omega) (by omega) (by omega)).symm)
set_option maxRecDepth 20000 in
theorem qvX9_refine_25_50 (c : Int) (l : Int) (r : Int) (d : Int) (F0 : FF) (A0 : AA) (K : KK) (h : (fgOK (mF A0) ∧ (0 ≤ c ∧ c < mF A0 0) ∧ (0 ≤ l ∧ l < mF A0 1) ∧ ((0 ≤ r ∧ r < 40) ∧ (0 ≤ A0 36 r ∧ A0 36 r ≤ 12) ∧ (0 ≤ A0 37 r ∧ A0 37 r ≤ p2 (A0 36 r)) ∧ (0 ≤ A0 35 r ∧ A0 35 r ≤ 2) ∧ (A0 35 r = 1 → A0 37 r < p2 (A0 36 r)) ∧ ¬ A0 35 r = 2) ∧ 0 ≤ d ∧ d ≤ 12) ∧ (∀ (B_1 : AA), (∀ b i, b ≠ 32 ∧ b ≠ 34 → B_1 b i = A0 b i) → (K (some (some (vI (rfP (mF A0) c l (A0 35 r, A0 36 r, A0 37 r) d)))) F0 B_1))) (e : Int) (q : Int) (A : AA) (hi : (0 ≤ e ∧ A0 36 r ≤ e ∧ e ≤ d) ∧ (0 ≤ q ∧ q < p2 e) ∧ A0 35 r = 1 ∧ A0 36 r < d ∧ (∀ bb ii, bb ≠ 32 ∧ bb ≠ 34 → A bb ii = A0 bb ii) ∧ rfM (mF A0 (18 + c) - 1) (Int.toNat (d - e)) (ccX (mF A0) c l (Int.toNat e) q) q = rfP (mF A0) c l (A0 35 r, A0 36 r, A0 37 r) d) : am_stp qxX9_refine (am_run qxX9_refine qnX9_refine_25 (fun pc ls st F9 A9 u => qiX9_refine_25 c l r d F0 A0 pc ls st F9 A9 u ∧ quX9_refine_25 pc ls st F9 A9 < quX9_refine_25 50 [some (vR 25), some (vI c), some (vI l), some (vI r), some (vI d), some (vI e), some (vI q), none] [] F0 A) K 56) K 50 [some (vR 25), some (vI c), some (vI l), some (vI r), some (vI d), some (vI e), some (vI q), none] [] F0 A 0 := by
  obtain ⟨hp, h⟩ := h
  obtain ⟨p1, p2', p3, ⟨r0, r1, r2, r3, r4, r5⟩, d0, d1⟩ := hp
  have q1 := p1.1.1
  have q2 := p1.1.2
  have q3 := (p1.2.2.1 c p2'.1 p2'.2).1
  have pr := p2_12' r1.2
  obtain ⟨h1, h2, h3, h4, hF, hR⟩ := hi
  have eF := lay_f hF
  have ps := p2_s h1.1
  have pe := p2_12' (show e ≤ 12 by omega)
  show (w32 e < w32 d → ((fgOK (mF A) ∧ (0 ≤ c ∧ c < mF A 0) ∧ (0 ≤ l ∧ l < mF A 1) ∧ (0 ≤ (e + 1) ∧ (e + 1) ≤ 12) ∧ 0 ≤ (2 * q) ∧ (2 * q) < p2 (e + 1)) ∧ (∀ (B_1 : AA), ((∀ b i, b ≠ 32 ∧ b ≠ 34 → B_1 b i = A b i) ∧ ∀ k, 0 ≤ k → k < mF A (18 + c) → B_1 34 k = ccX (mF A) c l (Int.toNat (e + 1)) (2 * q) k) → ((0 ≤ c ∧ c < 8) ∧ ((0 ≤ (mF B_1 (18 + c) - 1) ∧ (mF B_1 (18 + c) - 1) ≤ 3) ∧ ((w32 (chg (B_1 34) (Int.toNat ((mF B_1 (18 + c) - 1) + 1))) = w32 1 → ((fgOK (mF B_1) ∧ (0 ≤ c ∧ c < mF B_1 0) ∧ (0 ≤ l ∧ l < mF B_1 1) ∧ (0 ≤ (e + 1) ∧ (e + 1) ≤ 12) ∧ 0 ≤ ((2 * q) + 1) ∧ ((2 * q) + 1) < p2 (e + 1)) ∧ (∀ (B_2 : AA), ((∀ b i, b ≠ 32 ∧ b ≠ 34 → B_2 b i = B_1 b i) ∧ ∀ k, 0 ≤ k → k < mF B_1 (18 + c) → B_2 34 k = ccX (mF B_1) c l (Int.toNat (e + 1)) ((2 * q) + 1) k) → ((w32 1 = w32 0 → _) ∧ (¬ w32 1 = w32 0 → ((w32 1 = w32 0 → _) ∧ (¬ w32 1 = w32 0 → ((25 = 25 ∧ c = c ∧ l = l ∧ r = r ∧ d = d ∧ F0 = F0 ∧ ((0 ≤ (e + 1) ∧ A0 36 r ≤ (e + 1) ∧ (e + 1) ≤ d) ∧ (0 ≤ (2 * q) ∧ (2 * q) < p2 (e + 1)) ∧ A0 35 r = 1 ∧ A0 36 r < d ∧ (∀ bb ii, bb ≠ 32 ∧ bb ≠ 34 → B_2 bb ii = A0 bb ii) ∧ rfM (mF A0 (18 + c) - 1) (Int.toNat (d - (e + 1))) (ccX (mF A0) c l (Int.toNat (e + 1)) (2 * q)) (2 * q) = rfP (mF A0) c l (A0 35 r, A0 36 r, A0 37 r) d)) ∧ (Int.toNat (20 - (e + 1))) < (Int.toNat (20 - e)))))))))) ∧ (¬ w32 (chg (B_1 34) (Int.toNat ((mF B_1 (18 + c) - 1) + 1))) = w32 1 → ((fgOK (mF B_1) ∧ (0 ≤ c ∧ c < mF B_1 0) ∧ (0 ≤ l ∧ l < mF B_1 1) ∧ (0 ≤ (e + 1) ∧ (e + 1) ≤ 12) ∧ 0 ≤ ((2 * q) + 1) ∧ ((2 * q) + 1) < p2 (e + 1)) ∧ (∀ (B_2 : AA), ((∀ b i, b ≠ 32 ∧ b ≠ 34 → B_2 b i = B_1 b i) ∧ ∀ k, 0 ≤ k → k < mF B_1 (18 + c) → B_2 34 k = ccX (mF B_1) c l (Int.toNat (e + 1)) ((2 * q) + 1) k) → ((w32 0 = w32 0 → ((w32 0 = w32 0 → ((0 ≤ w32 0 ∧ w32 0 < 4) ∧ ((w32 (y_cmp (B_2 34 (w32 0)) 0) = w32 0 → (K (some (some (vI (x_shl ((2 * q) + 1) (d - (e + 1)))))) F0 B_2)) ∧ (¬ w32 (y_cmp (B_2 34 (w32 0)) 0) = w32 0 → ((25 = 25 ∧ c = c ∧ l = l ∧ r = r ∧ d = d ∧ F0 = F0 ∧ ((0 ≤ (e + 1) ∧ A0 36 r ≤ (e + 1) ∧ (e + 1) ≤ d) ∧ (0 ≤ ((2 * q) + 1) ∧ ((2 * q) + 1) < p2 (e + 1)) ∧ A0 35 r = 1 ∧ A0 36 r < d ∧ (∀ bb ii, bb ≠ 32 ∧ bb ≠ 34 → B_2 bb ii = A0 bb ii) ∧ rfM (mF A0 (18 + c) - 1) (Int.toNat (d - (e + 1))) (ccX (mF A0) c l (Int.toNat (e + 1)) ((2 * q) + 1)) ((2 * q) + 1) = rfP (mF A0) c l (A0 35 r, A0 36 r, A0 37 r) d)) ∧ (Int.toNat (20 - (e + 1))) < (Int.toNat (20 - e))))))) ∧ (¬ w32 0 = w32 0 → _))) ∧ (¬ w32 0 = w32 0 → _))))))))))) ∧ (¬ w32 e < w32 d → (K (some (some (vI q))) F0 A))
  refine ⟨fun c1 => ?_, fun c1 => ?_⟩
  · skip
    (try rw [eF] at c1); (try simp (disch := omega) only [w32_0, w64_0, yc_eq0, wbi0, Classical.not_not] at c1); (try simp (disch := omega) only [fat_in, w32_0, wbi0, Classical.not_not, w32_id] at c1)
    refine ⟨by ((try rw [eF]); (try rw [e1]); first | omega | (exact ⟨p1, p2', p3, by omega, by omega, by omega⟩) | (rw [w32_0]; omega)), ?_⟩
    intro B_1 g1
    obtain ⟨gF, gC⟩ := g1
    have e1 := (lay_f gF).trans eF
    rw [eF] at gC
    have pe1 := p2_12' (show e + 1 ≤ 12 by omega)
    have rs := rfM_s (n := mF A0 (18 + c) - 1) (d := d) (e := e) (q := q) (g := ccX (mF A0) c l (Int.toNat e) q) (by omega)
    rw [← cc0 h1.1, ← cc1 h1.1] at rs
    have hc : chg (B_1 34) (Int.toNat (mF A0 (18 + c) - 1 + 1)) = chg (ccX (mF A0) c l (Int.toNat (e + 1)) (2 * q)) (Int.toNat (mF A0 (18 + c) - 1 + 1)) := chg_c (fun k k0 k1 => gC k k0 (by omega))
    have cb := chg_b (ccX (mF A0) c l (Int.toNat (e + 1)) (2 * q)) (Int.toNat (mF A0 (18 + c) - 1 + 1))
    rw [e1, hc]
    refine ⟨by ((try rw [eF]); (try rw [e1]); first | omega | (exact ⟨p1, p2', p3, by omega, by omega, by omega⟩) | (rw [w32_0]; omega)), ?_⟩
    refine ⟨by ((try rw [eF]); (try rw [e1]); first | omega | (exact ⟨p1, p2', p3, by omega, by omega, by omega⟩) | (rw [w32_0]; omega)), ?_⟩
    refine ⟨fun c2 => ?_, fun c2 => ?_⟩
    · skip
      (try rw [eF] at c2); (try simp (disch := omega) only [w32_0, w64_0, yc_eq0, wbi0, Classical.not_not] at c2); (try simp (disch := omega) only [fat_in, w32_0, wbi0, Classical.not_not, w32_id] at c2)
      refine ⟨by ((try rw [eF]); (try rw [e1]); first | omega | (exact ⟨p1, p2', p3, by omega, by omega, by omega⟩) | (rw [w32_0]; omega)), ?_⟩
      intro B_2 g2
      obtain ⟨kF, kC⟩ := g2
      try rw [e1] at kC
      have c0 := kC 0 (by omega) (by omega)
      have hF2 : ∀ bb ii, bb ≠ 32 ∧ bb ≠ 34 → B_2 bb ii = A0 bb ii := fun b i hb => (kF b i hb).trans ((gF b i hb).trans (hF b i hb))
      try rw [w32_0, c0]
      refine ⟨fun q => absurd q (by decide), fun _ => ?_⟩
      refine ⟨fun q => absurd q (by decide), fun _ => ?_⟩
      refine ⟨⟨rfl, rfl, rfl, rfl, rfl, rfl, ?_⟩, by omega⟩
      refine ⟨by omega, by omega, h3, h4, hF2, ?_⟩
      rw [← hR, rs]
      first
      | (rw [if_pos (by assumption)]; done)
      | (rw [if_neg (by assumption), if_neg (by assumption)]; done)
    · skip
      (try rw [eF] at c2); (try simp (disch := omega) only [w32_0, w64_0, yc_eq0, wbi0, Classical.not_not] at c2); (try simp (disch := omega) only [fat_in, w32_0, wbi0, Classical.not_not, w32_id] at c2)
      refine ⟨by ((try rw [eF]); (try rw [e1]); first | omega | (exact ⟨p1, p2', p3, by omega, by omega, by omega⟩) | (rw [w32_0]; omega)), ?_⟩
      intro B_2 g2
      obtain ⟨kF, kC⟩ := g2
      try rw [e1] at kC
      have c0 := kC 0 (by omega) (by omega)
      have hF2 : ∀ bb ii, bb ≠ 32 ∧ bb ≠ 34 → B_2 bb ii = A0 bb ii := fun b i hb => (kF b i hb).trans ((gF b i hb).trans (hF b i hb))
      try rw [w32_0, c0]
      refine ⟨fun _ => ?_, fun q => absurd (by decide) q⟩
      refine ⟨fun _ => ?_, fun q => absurd (by decide) q⟩
      refine ⟨by ((try rw [eF]); (try rw [e1]); first | omega | (exact ⟨p1, p2', p3, by omega, by omega, by omega⟩) | (rw [w32_0]; omega)), ?_⟩
      refine ⟨fun c3 => ?_, fun c3 => ?_⟩
      · skip
        (try rw [eF] at c3); (try simp (disch := omega) only [w32_0, w64_0, yc_eq0, wbi0, Classical.not_not] at c3); (try simp (disch := omega) only [fat_in, w32_0, wbi0, Classical.not_not, w32_id] at c3)
        first
        | (have ee : e = d := by omega
           subst ee
           rw [show Int.toNat (e - e) = 0 by omega] at hR
           exact K_eq (h _ hF) hR.symm)
        | (refine K_eq (h _ hF2) ?_
           rw [← hR, rs, if_neg (by assumption), if_pos (by assumption)]
           have h9 : (2 * q + 1) * p2 (d - (e + 1)) ≤ p2 (e + 1) * p2 (d - (e + 1)) := Int.mul_le_mul_of_nonneg_right (by omega) (Int.le_of_lt p2_pos)
           rw [← p2_add (by omega) (by omega), show e + 1 + (d - (e + 1)) = d by omega] at h9
           have h8 := p2_12' d1
           exact (x_shlp (by omega) (by omega) (by omega) (by omega)).symm)
      · skip
        (try rw [eF] at c3); (try simp (disch := omega) only [w32_0, w64_0, yc_eq0, wbi0, Classical.not_not] at c3); (try simp (disch := omega) only [fat_in, w32_0, wbi0, Classical.not_not, w32_id] at c3)
        refine ⟨⟨rfl, rfl, rfl, rfl, rfl, rfl, ?_⟩, by omega⟩
        refine ⟨by omega, by omega, h3, h4, hF2, ?_⟩
        rw [← hR, rs]
        first
        | (rw [if_pos (by assumption)]; done)
        | (rw [if_neg (by assumption), if_neg (by assumption)]; done)
  · skip
    (try rw [eF] at c1); (try simp (disch := omega) only [w32_0, w64_0, yc_eq0, wbi0, Classical.not_not] at c1); (try simp (disch := omega) only [fat_in, w32_0, wbi0, Classical.not_not, w32_id] at c1)
    first
    | (have ee : e = d := by omega
       subst ee
       rw [show Int.toNat (e - e) = 0 by omega] at hR
       exact K_eq (h _ hF) hR.symm)
    | (refine K_eq (h _ hF2) ?_
       rw [← hR, rs, if_neg (by assumption), if_pos (by assumption)]
       have h9 : (2 * q + 1) * p2 (d - (e + 1)) ≤ p2 (e + 1) * p2 (d - (e + 1)) := Int.mul_le_mul_of_nonneg_right (by omega) (Int.le_of_lt p2_pos)
       rw [← p2_add (by omega) (by omega), show e + 1 + (d - (e + 1)) = d by omega] at h9
       have h8 := p2_12' d1
       exact (x_shlp (by omega) (by omega) (by omega) (by omega)).symm)
set_option maxRecDepth 20000 in
theorem qvX9_refine_25 (c : Int) (l : Int) (r : Int) (d : Int) (F0 : FF) (A0 : AA) (K : KK) (h : (fgOK (mF A0) ∧ (0 ≤ c ∧ c < mF A0 0) ∧ (0 ≤ l ∧ l < mF A0 1) ∧ ((0 ≤ r ∧ r < 40) ∧ (0 ≤ A0 36 r ∧ A0 36 r ≤ 12) ∧ (0 ≤ A0 37 r ∧ A0 37 r ≤ p2 (A0 36 r)) ∧ (0 ≤ A0 35 r ∧ A0 35 r ≤ 2) ∧ (A0 35 r = 1 → A0 37 r < p2 (A0 36 r)) ∧ ¬ A0 35 r = 2) ∧ 0 ≤ d ∧ d ≤ 12) ∧ (∀ (B_1 : AA), (∀ b i, b ≠ 32 ∧ b ≠ 34 → B_1 b i = A0 b i) → (K (some (some (vI (rfP (mF A0) c l (A0 35 r, A0 36 r, A0 37 r) d)))) F0 B_1))) : am_body qxX9_refine qnX9_refine_25 56 (qiX9_refine_25 c l r d F0 A0) quX9_refine_25 [vR 25, vI c, vI l, vI r, vI d] 8 F0 A0 K := by
  refine ⟨qvX9_refine_25_0 c l r d F0 A0 K h, fun pc ls st F A u hI => ?_⟩
  unfold qiX9_refine_25 at hI
  replace hI := am_cond2 hI
  rcases hI with ⟨hb, hI⟩ | hI
  · have hb := am_bq hb
    subst hb
    split at hI
    · rename_i s0 s1 s2 s3 s4 e q
      obtain ⟨e0, e1, e2, e3, e4, e5, hI⟩ := hI
      subst e0
      subst e1
      subst e2
      subst e3
      subst e4
      subst e5
      exact qvX9_refine_25_50 _ _ _ _ _ _ K h _ _ _ hI
    · exact hI.elim
  exact hI.elim
theorem qtX9_refine (l : Launch) : am_CT l layM qeX9_refine := am_met0 rfl (by decide +kernel) rfl rfl rfl rfl rfl (fun _ => rfl) rfl (qzX9_refine l) (fun k e1 h => (qyX9_refine l k e1 h).2) (fun as F A K h => by
  replace h : qsX9_refine as F A K := h
  unfold qsX9_refine at h
  split at h
  · rename_i o c l r d
    refine ⟨by first | exact Nat.le_of_ble_eq_true rfl | simp [am_fl, am_cat], ?_⟩
    replace h := am_cond2 h
    rcases h with ⟨hb, h⟩ | h
    · skip
      have hb0 := hb
      have hb0 := am_bq hb0
      subst hb0
      exact am_way_body (qvX9_refine_25 c l r d F A K h)
    exact h.elim
  · exact h.elim)
def qkX9_refined : Nat → Option CI := fun pc => cond (Nat.ble 60 pc) none (cond (Nat.ble 27 pc) (cond (Nat.ble 45 pc) (cond (Nat.ble 52 pc) (cond (Nat.ble 54 pc) (cond (Nat.beq pc 54) (some (.iload 4, 56, [])) (cond (Nat.beq pc 56) (some (.invokevirtual 357, 59, [])) (cond (Nat.beq pc 59) (some (.ireturn, 60, [])) (none)))) (cond (Nat.beq pc 52) (some (.iload_n 2, 53, [])) (cond (Nat.beq pc 53) (some (.iload_n 3, 54, [])) (none)))) (cond (Nat.ble 50 pc) (cond (Nat.beq pc 50) (some (.aload_n 0, 51, [])) (cond (Nat.beq pc 51) (some (.iload_n 1, 52, [])) (none))) (cond (Nat.beq pc 45) (some (.bipush (-2), 47, [])) (cond (Nat.beq pc 47) (some (.goto 12, 50, [59])) (none))))) (cond (Nat.ble 33 pc) (cond (Nat.ble 38 pc) (cond (Nat.beq pc 38) (some (.iload 4, 40, [])) (cond (Nat.beq pc 40) (some (.bipush 12, 42, [])) (cond (Nat.beq pc 42) (some (.if_icmp .le 8, 45, [50])) (none)))) (cond (Nat.beq pc 33) (some (.iload 4, 35, [])) (cond (Nat.beq pc 35) (some (.ifCond .lt 10, 38, [45])) (none)))) (cond (Nat.ble 31 pc) (cond (Nat.beq pc 31) (some (.iconst (-1), 32, [])) (cond (Nat.beq pc 32) (some (.ireturn, 33, [])) (none))) (cond (Nat.beq pc 27) (some (.iconst 2, 28, [])) (cond (Nat.beq pc 28) (some (.if_icmp .ne 5, 31, [33])) (none)))))) (cond (Nat.ble 12 pc) (cond (Nat.ble 18 pc) (cond (Nat.ble 22 pc) (cond (Nat.beq pc 22) (some (.getfield 38, 25, [])) (cond (Nat.beq pc 25) (some (.iload_n 3, 26, [])) (cond (Nat.beq pc 26) (some (.iaload, 27, [])) (none)))) (cond (Nat.beq pc 18) (some (.ifCond .eq 13, 21, [31])) (cond (Nat.beq pc 21) (some (.aload_n 0, 22, [])) (none)))) (cond (Nat.ble 14 pc) (cond (Nat.beq pc 14) (some (.iload_n 3, 15, [])) (cond (Nat.beq pc 15) (some (.invokevirtual 354, 18, [])) (none))) (cond (Nat.beq pc 12) (some (.iload_n 1, 13, [])) (cond (Nat.beq pc 13) (some (.iload_n 2, 14, [])) (none))))) (cond (Nat.ble 6 pc) (cond (Nat.ble 10 pc) (cond (Nat.beq pc 10) (some (.ireturn, 11, [])) (cond (Nat.beq pc 11) (some (.aload_n 0, 12, [])) (none))) (cond (Nat.beq pc 6) (some (.ifCond .ne 5, 9, [11])) (cond (Nat.beq pc 9) (some (.iconst 0, 10, [])) (none)))) (cond (Nat.ble 2 pc) (cond (Nat.beq pc 2) (some (.iload_n 2, 3, [])) (cond (Nat.beq pc 3) (some (.invokevirtual 346, 6, [])) (none))) (cond (Nat.beq pc 0) (some (.aload_n 0, 1, [])) (cond (Nat.beq pc 1) (some (.iload_n 1, 2, [])) (none)))))))
theorem qkX9_refined_ok : ∀ pc i nx ts, qkX9_refined pc = some (i, nx, ts) → am_cok cX9_refined pc (i, nx, ts) = true := fun pc i nx ts h => am_tok_ok (n := 60) (by decide +kernel) (fun pc h => by show cond (Nat.ble 60 pc) _ _ = _; rw [Nat.ble_eq_true_of_le h]; rfl) h
def qaX9_refined : Nat → Option CE := fun k => cond (Nat.beq k 346) (some qeX9_areThere) (cond (Nat.beq k 354) (some qeX9_isRoot) (cond (Nat.beq k 357) (some qeX9_refine) (none)))
theorem qyX9_refined (l : Launch) : ∀ k e1, qaX9_refined k = some e1 → am_cal l layM RX9 22 k e1 ∧ ceT e1 = 0 := q_cons ⟨am_calV (ci := 9) (qtX9_areThere l) qbX9_areThere (by decide) rfl (am_tb_at 1774 (by decide +kernel) rfl), rfl⟩ (q_cons ⟨am_calV (ci := 9) (qtX9_isRoot l) qbX9_isRoot (by decide) rfl (am_tb_at 1841 (by decide +kernel) rfl), rfl⟩ (q_cons ⟨am_calV (ci := 9) (qtX9_refine l) qbX9_refine (by decide) rfl (am_tb_at 1857 (by decide +kernel) rfl), rfl⟩ (q_nil)))
def qxX9_refined : CX := (qkX9_refined, layM, qfX9, qaX9_refined, qcX9, qlX9, qmX9, (some .int), false, none, 0, none, fun _ => none)
theorem qzX9_refined (l : Launch) : am_sta l qxX9_refined RX9 22 cX9_refined := ⟨qkX9_refined_ok, layM_ok, qfX9_ok, qcX9_ok, qlX9_ok, am_mthP qmX9_ok (by decide), fun k e1 h => (qyX9_refined l k e1 h).1⟩
def qsX9_refined : SP := fun as F A K => match as with
  | [.inr (.inr o), .inl c, .inl l, .inl r, .inl d] => cond (Nat.beq o 25) ((fgOK (mF A) ∧ (-2147483648 ≤ c ∧ c < 2147483648) ∧ (-2147483648 ≤ l ∧ l < 2147483648) ∧ (-2147483648 ≤ r ∧ r < 2147483648) ∧ (-2147483648 ≤ d ∧ d < 2147483648) ∧ RTB) ∧ (∀ (G_1 : FF) (B_1 : AA), (qdP F G_1 A B_1 ∧ G_1 25 0 = (if (0 ≤ c ∧ c < mF A 0) ∧ 0 ≤ l ∧ l < mF A 1 then 0 else 1)) → (K (some (some (vI (if (0 ≤ c ∧ c < mF A 0) ∧ 0 ≤ l ∧ l < mF A 1 then (if (0 ≤ r ∧ r < ((rtsX (mF A) c l).length : Int)) ∧ ¬ (rtN (rtsX (mF A) c l) r).1 = 2 then (if 0 ≤ d ∧ d ≤ 12 then rfP (mF A) c l (rtN (rtsX (mF A) c l) r) d else -2) else -1) else 0)))) G_1 B_1))) (False)
  | _ => False
def qeX9_refined : CE := (yX9_refined, cX9_refined, 5, (some .int), 4, some 9, 0, [], 0, 22, qsX9_refined)
theorem qbX9_refined : am_mb qeX9_refined := ⟨am_tb_at 1856 (by decide +kernel) rfl, am_tb_at 124 (by decide +kernel) rfl, ⟨by decide, by decide, by decide +kernel⟩, by decide, by decide, am_tb_at 1854 (by decide +kernel) rfl, am_tb_at 1855 (by decide +kernel) rfl, _, _, rfl⟩
set_option maxRecDepth 20000 in
theorem qvX9_refined_25 (c : Int) (l : Int) (r : Int) (d : Int) (F : FF) (A : AA) (K : KK) (h : (fgOK (mF A) ∧ (-2147483648 ≤ c ∧ c < 2147483648) ∧ (-2147483648 ≤ l ∧ l < 2147483648) ∧ (-2147483648 ≤ r ∧ r < 2147483648) ∧ (-2147483648 ≤ d ∧ d < 2147483648) ∧ RTB) ∧ (∀ (G_1 : FF) (B_1 : AA), (qdP F G_1 A B_1 ∧ G_1 25 0 = (if (0 ≤ c ∧ c < mF A 0) ∧ 0 ≤ l ∧ l < mF A 1 then 0 else 1)) → (K (some (some (vI (if (0 ≤ c ∧ c < mF A 0) ∧ 0 ≤ l ∧ l < mF A 1 then (if (0 ≤ r ∧ r < ((rtsX (mF A) c l).length : Int)) ∧ ¬ (rtN (rtsX (mF A) c l) r).1 = 2 then (if 0 ≤ d ∧ d ≤ 12 then rfP (mF A) c l (rtN (rtsX (mF A) c l) r) d else -2) else -1) else 0)))) G_1 B_1))) : am_line qxX9_refined 30 [vR 25, vI c, vI l, vI r, vI d] 5 F A K := by
  show am_stp qxX9_refined (am_run qxX9_refined (fun _ => none) (fun _ _ _ _ _ _ => False) K 30) K 0 [some (vR 25), some (vI c), some (vI l), some (vI r), some (vI d)] [] F A 0
  obtain ⟨hp, h⟩ := h
  have p1 := hp.1
  have q1 := p1.1.1
  have q2 := p1.1.2
  have q4 := p1.2.1
  have rb := hp.2.2.2.2.2

  show (fgOK (mF A) ∧ (-2147483648 ≤ c ∧ c < 2147483648) ∧ (-2147483648 ≤ l ∧ l < 2147483648)) ∧ ((w32 (bi ((0 ≤ c ∧ c < mF A 0) ∧ 0 ≤ l ∧ l < mF A 1)) = w32 0 → (K (some (some (vI 0))) (upF F 25 0 (1 - bi ((0 ≤ c ∧ c < mF A 0) ∧ 0 ≤ l ∧ l < mF A 1))) A)) ∧ (¬ (w32 (bi ((0 ≤ c ∧ c < mF A 0) ∧ 0 ≤ l ∧ l < mF A 1)) = w32 0) → ((fgOK (mF A) ∧ (0 ≤ c ∧ c < mF A 0) ∧ (0 ≤ l ∧ l < mF A 1) ∧ ((rtsX (mF A) c l).length : Int) ≤ 8 ∧ (-2147483648 ≤ r ∧ r < 2147483648)) ∧ (∀ (G_1 : FF) (B_1 : AA), (roP (upF F 25 0 (1 - bi ((0 ≤ c ∧ c < mF A 0) ∧ 0 ≤ l ∧ l < mF A 1))) G_1 A B_1 c l) → ((w32 (bi (0 ≤ r ∧ r < ((rtsX (mF A) c l).length : Int))) = w32 0 → (K (some (some (vI (-1)))) G_1 B_1)) ∧ (¬ (w32 (bi (0 ≤ r ∧ r < ((rtsX (mF A) c l).length : Int))) = w32 0) → ((0 ≤ w32 r ∧ w32 r < 40) ∧ ((w32 (B_1 35 (w32 r)) = w32 2 → (K (some (some (vI (-1)))) G_1 B_1)) ∧ (¬ w32 (B_1 35 (w32 r)) = w32 2 → ((w32 d < w32 0 → (K (some (some (vI (-2)))) G_1 B_1)) ∧ (¬ w32 d < w32 0 → ((w32 12 < w32 d → (K (some (some (vI (-2)))) G_1 B_1)) ∧ (¬ w32 12 < w32 d → ((fgOK (mF B_1) ∧ (0 ≤ c ∧ c < mF B_1 0) ∧ (0 ≤ l ∧ l < mF B_1 1) ∧ ((0 ≤ r ∧ r < 40) ∧ (0 ≤ B_1 36 r ∧ B_1 36 r ≤ 12) ∧ (0 ≤ B_1 37 r ∧ B_1 37 r ≤ p2 (B_1 36 r)) ∧ (0 ≤ B_1 35 r ∧ B_1 35 r ≤ 2) ∧ (B_1 35 r = 1 → B_1 37 r < p2 (B_1 36 r)) ∧ ¬ B_1 35 r = 2) ∧ 0 ≤ d ∧ d ≤ 12) ∧ (∀ (B_2 : AA), (∀ b i, b ≠ 32 ∧ b ≠ 34 → B_2 b i = B_1 b i) → (K (some (some (vI (rfP (mF B_1) c l (B_1 35 r, B_1 36 r, B_1 37 r) d)))) G_1 B_2))))))))))))))))
  refine ⟨by exact ⟨p1, by omega, by omega⟩, ?_⟩
  refine ⟨fun c1 => ?_, fun c1 => ?_⟩
  · skip
    (try (have q3 := (p1.2.2.1 c c1.1.1 c1.1.2).1)); (try simp only [w32_0, wbi0, Classical.not_not] at c1); (try (rw [w32_id (x := r) (by omega) (by omega), (rts_get g1.1.2 c2.1 c2.2).1] at c1)); (try (have rk := (rtN_b (f := mF A) (c := c) (l := l) (r := r) (by omega) c2.1 c2.2).1; change w32 (rtN (rtsX (mF A) c l) r).1 = w32 2 at c1; rw [w32_id (x := (rtN (rtsX (mF A) c l) r).1) (by omega) (by omega)] at c1)); (try (have rk := (rtN_b (f := mF A) (c := c) (l := l) (r := r) (by omega) c2.1 c2.2).1; change ¬ w32 (rtN (rtsX (mF A) c l) r).1 = w32 2 at c1; rw [w32_id (x := (rtN (rtsX (mF A) c l) r).1) (by omega) (by omega)] at c1)); (try simp (disch := omega) only [fat_in, w32_0, wbi0, Classical.not_not, w32_id] at c1)
    first
    | exact K_eq (h _ _ ⟨qdP_F (by decide), by rw [upF_s, bi_f c1, if_neg c1]; rfl⟩) (if_neg c1)
    | (refine K_eq (h _ _ ⟨qdP_trans (qdP_F (by decide)) (roP_q g1), by rw [g1.2.1 25 0 (by decide), upF_s, bi_t c1, if_pos c1]; rfl⟩) ?_; rw [if_pos c1, if_neg (fun z => c2 z.1)]; done)
    | (refine K_eq (h _ _ ⟨qdP_trans (qdP_F (by decide)) (roP_q g1), by rw [g1.2.1 25 0 (by decide), upF_s, bi_t c1, if_pos c1]; rfl⟩) ?_; rw [if_pos c1, if_neg (fun z => absurd c3 z.2)]; done)
    | (refine K_eq (h _ _ ⟨qdP_trans (qdP_F (by decide)) (roP_q g1), by rw [g1.2.1 25 0 (by decide), upF_s, bi_t c1, if_pos c1]; rfl⟩) ?_; have hd : ¬ (0 ≤ d ∧ d ≤ 12) := (by omega); rw [if_pos c1, if_pos ⟨c2, c3⟩, if_neg hd]; done)
    | (refine K_eq (h _ _ ⟨qdP_trans (qdP_trans (qdP_F (by decide)) (roP_q g1)) (qdP_A (fun b i hb => g2 b i (by omega))), by rw [g1.2.1 25 0 (by decide), upF_s, bi_t c1, if_pos c1]; rfl⟩) ?_
       have rg := rts_get g1.1.2 c2.1 c2.2
       rw [if_pos c1, if_pos ⟨c2, c3⟩, if_pos (by omega), roP_f g1, rg.1, rg.2.1, rg.2.2]
       rfl)
  · skip
    (try (have q3 := (p1.2.2.1 c c1.1.1 c1.1.2).1)); (try simp only [w32_0, wbi0, Classical.not_not] at c1); (try (rw [w32_id (x := r) (by omega) (by omega), (rts_get g1.1.2 c2.1 c2.2).1] at c1)); (try (have rk := (rtN_b (f := mF A) (c := c) (l := l) (r := r) (by omega) c2.1 c2.2).1; change w32 (rtN (rtsX (mF A) c l) r).1 = w32 2 at c1; rw [w32_id (x := (rtN (rtsX (mF A) c l) r).1) (by omega) (by omega)] at c1)); (try (have rk := (rtN_b (f := mF A) (c := c) (l := l) (r := r) (by omega) c2.1 c2.2).1; change ¬ w32 (rtN (rtsX (mF A) c l) r).1 = w32 2 at c1; rw [w32_id (x := (rtN (rtsX (mF A) c l) r).1) (by omega) (by omega)] at c1)); (try simp (disch := omega) only [fat_in, w32_0, wbi0, Classical.not_not, w32_id] at c1)
    refine ⟨by exact ⟨p1, c1.1, c1.2, rb (mF A) p1 c l c1.1.1 c1.1.2 c1.2.1 c1.2.2, by omega⟩, ?_⟩
    intro G_1 B_1 g1
    refine ⟨fun c2 => ?_, fun c2 => ?_⟩
    · skip
      (try (have q3 := (p1.2.2.1 c c1.1.1 c1.1.2).1)); (try simp only [w32_0, wbi0, Classical.not_not] at c2); (try (rw [w32_id (x := r) (by omega) (by omega), (rts_get g1.1.2 c2.1 c2.2).1] at c2)); (try (have rk := (rtN_b (f := mF A) (c := c) (l := l) (r := r) (by omega) c2.1 c2.2).1; change w32 (rtN (rtsX (mF A) c l) r).1 = w32 2 at c2; rw [w32_id (x := (rtN (rtsX (mF A) c l) r).1) (by omega) (by omega)] at c2)); (try (have rk := (rtN_b (f := mF A) (c := c) (l := l) (r := r) (by omega) c2.1 c2.2).1; change ¬ w32 (rtN (rtsX (mF A) c l) r).1 = w32 2 at c2; rw [w32_id (x := (rtN (rtsX (mF A) c l) r).1) (by omega) (by omega)] at c2)); (try simp (disch := omega) only [fat_in, w32_0, wbi0, Classical.not_not, w32_id] at c2)
      first
      | exact K_eq (h _ _ ⟨qdP_F (by decide), by rw [upF_s, bi_f c1, if_neg c1]; rfl⟩) (if_neg c1)
      | (refine K_eq (h _ _ ⟨qdP_trans (qdP_F (by decide)) (roP_q g1), by rw [g1.2.1 25 0 (by decide), upF_s, bi_t c1, if_pos c1]; rfl⟩) ?_; rw [if_pos c1, if_neg (fun z => c2 z.1)]; done)
      | (refine K_eq (h _ _ ⟨qdP_trans (qdP_F (by decide)) (roP_q g1), by rw [g1.2.1 25 0 (by decide), upF_s, bi_t c1, if_pos c1]; rfl⟩) ?_; rw [if_pos c1, if_neg (fun z => absurd c3 z.2)]; done)
      | (refine K_eq (h _ _ ⟨qdP_trans (qdP_F (by decide)) (roP_q g1), by rw [g1.2.1 25 0 (by decide), upF_s, bi_t c1, if_pos c1]; rfl⟩) ?_; have hd : ¬ (0 ≤ d ∧ d ≤ 12) := (by omega); rw [if_pos c1, if_pos ⟨c2, c3⟩, if_neg hd]; done)
      | (refine K_eq (h _ _ ⟨qdP_trans (qdP_trans (qdP_F (by decide)) (roP_q g1)) (qdP_A (fun b i hb => g2 b i (by omega))), by rw [g1.2.1 25 0 (by decide), upF_s, bi_t c1, if_pos c1]; rfl⟩) ?_
         have rg := rts_get g1.1.2 c2.1 c2.2
         rw [if_pos c1, if_pos ⟨c2, c3⟩, if_pos (by omega), roP_f g1, rg.1, rg.2.1, rg.2.2]
         rfl)
    · skip
      (try (have q3 := (p1.2.2.1 c c1.1.1 c1.1.2).1)); (try simp only [w32_0, wbi0, Classical.not_not] at c2); (try (rw [w32_id (x := r) (by omega) (by omega), (rts_get g1.1.2 c2.1 c2.2).1] at c2)); (try (have rk := (rtN_b (f := mF A) (c := c) (l := l) (r := r) (by omega) c2.1 c2.2).1; change w32 (rtN (rtsX (mF A) c l) r).1 = w32 2 at c2; rw [w32_id (x := (rtN (rtsX (mF A) c l) r).1) (by omega) (by omega)] at c2)); (try (have rk := (rtN_b (f := mF A) (c := c) (l := l) (r := r) (by omega) c2.1 c2.2).1; change ¬ w32 (rtN (rtsX (mF A) c l) r).1 = w32 2 at c2; rw [w32_id (x := (rtN (rtsX (mF A) c l) r).1) (by omega) (by omega)] at c2)); (try simp (disch := omega) only [fat_in, w32_0, wbi0, Classical.not_not, w32_id] at c2)
      refine ⟨by (have rq := rb (mF A) p1 c l c1.1.1 c1.1.2 c1.2.1 c1.2.2; rw [w32_id (by omega) (by omega)]; omega), ?_⟩
      refine ⟨fun c3 => ?_, fun c3 => ?_⟩
      · skip
        (try (have q3 := (p1.2.2.1 c c1.1.1 c1.1.2).1)); (try simp only [w32_0, wbi0, Classical.not_not] at c3); (try (rw [w32_id (x := r) (by omega) (by omega), (rts_get g1.1.2 c2.1 c2.2).1] at c3)); (try (have rk := (rtN_b (f := mF A) (c := c) (l := l) (r := r) (by omega) c2.1 c2.2).1; change w32 (rtN (rtsX (mF A) c l) r).1 = w32 2 at c3; rw [w32_id (x := (rtN (rtsX (mF A) c l) r).1) (by omega) (by omega)] at c3)); (try (have rk := (rtN_b (f := mF A) (c := c) (l := l) (r := r) (by omega) c2.1 c2.2).1; change ¬ w32 (rtN (rtsX (mF A) c l) r).1 = w32 2 at c3; rw [w32_id (x := (rtN (rtsX (mF A) c l) r).1) (by omega) (by omega)] at c3)); (try simp (disch := omega) only [fat_in, w32_0, wbi0, Classical.not_not, w32_id] at c3)
        first
        | exact K_eq (h _ _ ⟨qdP_F (by decide), by rw [upF_s, bi_f c1, if_neg c1]; rfl⟩) (if_neg c1)
        | (refine K_eq (h _ _ ⟨qdP_trans (qdP_F (by decide)) (roP_q g1), by rw [g1.2.1 25 0 (by decide), upF_s, bi_t c1, if_pos c1]; rfl⟩) ?_; rw [if_pos c1, if_neg (fun z => c2 z.1)]; done)
        | (refine K_eq (h _ _ ⟨qdP_trans (qdP_F (by decide)) (roP_q g1), by rw [g1.2.1 25 0 (by decide), upF_s, bi_t c1, if_pos c1]; rfl⟩) ?_; rw [if_pos c1, if_neg (fun z => absurd c3 z.2)]; done)
        | (refine K_eq (h _ _ ⟨qdP_trans (qdP_F (by decide)) (roP_q g1), by rw [g1.2.1 25 0 (by decide), upF_s, bi_t c1, if_pos c1]; rfl⟩) ?_; have hd : ¬ (0 ≤ d ∧ d ≤ 12) := (by omega); rw [if_pos c1, if_pos ⟨c2, c3⟩, if_neg hd]; done)
        | (refine K_eq (h _ _ ⟨qdP_trans (qdP_trans (qdP_F (by decide)) (roP_q g1)) (qdP_A (fun b i hb => g2 b i (by omega))), by rw [g1.2.1 25 0 (by decide), upF_s, bi_t c1, if_pos c1]; rfl⟩) ?_
           have rg := rts_get g1.1.2 c2.1 c2.2
           rw [if_pos c1, if_pos ⟨c2, c3⟩, if_pos (by omega), roP_f g1, rg.1, rg.2.1, rg.2.2]
           rfl)
      · skip
        (try (have q3 := (p1.2.2.1 c c1.1.1 c1.1.2).1)); (try simp only [w32_0, wbi0, Classical.not_not] at c3); (try (rw [w32_id (x := r) (by omega) (by omega), (rts_get g1.1.2 c2.1 c2.2).1] at c3)); (try (have rk := (rtN_b (f := mF A) (c := c) (l := l) (r := r) (by omega) c2.1 c2.2).1; change w32 (rtN (rtsX (mF A) c l) r).1 = w32 2 at c3; rw [w32_id (x := (rtN (rtsX (mF A) c l) r).1) (by omega) (by omega)] at c3)); (try (have rk := (rtN_b (f := mF A) (c := c) (l := l) (r := r) (by omega) c2.1 c2.2).1; change ¬ w32 (rtN (rtsX (mF A) c l) r).1 = w32 2 at c3; rw [w32_id (x := (rtN (rtsX (mF A) c l) r).1) (by omega) (by omega)] at c3)); (try simp (disch := omega) only [fat_in, w32_0, wbi0, Classical.not_not, w32_id] at c3)
        refine ⟨fun c4 => ?_, fun c4 => ?_⟩
        · skip
          (try (have q3 := (p1.2.2.1 c c1.1.1 c1.1.2).1)); (try simp only [w32_0, wbi0, Classical.not_not] at c4); (try (rw [w32_id (x := r) (by omega) (by omega), (rts_get g1.1.2 c2.1 c2.2).1] at c4)); (try (have rk := (rtN_b (f := mF A) (c := c) (l := l) (r := r) (by omega) c2.1 c2.2).1; change w32 (rtN (rtsX (mF A) c l) r).1 = w32 2 at c4; rw [w32_id (x := (rtN (rtsX (mF A) c l) r).1) (by omega) (by omega)] at c4)); (try (have rk := (rtN_b (f := mF A) (c := c) (l := l) (r := r) (by omega) c2.1 c2.2).1; change ¬ w32 (rtN (rtsX (mF A) c l) r).1 = w32 2 at c4; rw [w32_id (x := (rtN (rtsX (mF A) c l) r).1) (by omega) (by omega)] at c4)); (try simp (disch := omega) only [fat_in, w32_0, wbi0, Classical.not_not, w32_id] at c4)
          first
          | exact K_eq (h _ _ ⟨qdP_F (by decide), by rw [upF_s, bi_f c1, if_neg c1]; rfl⟩) (if_neg c1)
          | (refine K_eq (h _ _ ⟨qdP_trans (qdP_F (by decide)) (roP_q g1), by rw [g1.2.1 25 0 (by decide), upF_s, bi_t c1, if_pos c1]; rfl⟩) ?_; rw [if_pos c1, if_neg (fun z => c2 z.1)]; done)
          | (refine K_eq (h _ _ ⟨qdP_trans (qdP_F (by decide)) (roP_q g1), by rw [g1.2.1 25 0 (by decide), upF_s, bi_t c1, if_pos c1]; rfl⟩) ?_; rw [if_pos c1, if_neg (fun z => absurd c3 z.2)]; done)
          | (refine K_eq (h _ _ ⟨qdP_trans (qdP_F (by decide)) (roP_q g1), by rw [g1.2.1 25 0 (by decide), upF_s, bi_t c1, if_pos c1]; rfl⟩) ?_; have hd : ¬ (0 ≤ d ∧ d ≤ 12) := (by omega); rw [if_pos c1, if_pos ⟨c2, c3⟩, if_neg hd]; done)
          | (refine K_eq (h _ _ ⟨qdP_trans (qdP_trans (qdP_F (by decide)) (roP_q g1)) (qdP_A (fun b i hb => g2 b i (by omega))), by rw [g1.2.1 25 0 (by decide), upF_s, bi_t c1, if_pos c1]; rfl⟩) ?_
             have rg := rts_get g1.1.2 c2.1 c2.2
             rw [if_pos c1, if_pos ⟨c2, c3⟩, if_pos (by omega), roP_f g1, rg.1, rg.2.1, rg.2.2]
             rfl)
        · skip
          (try (have q3 := (p1.2.2.1 c c1.1.1 c1.1.2).1)); (try simp only [w32_0, wbi0, Classical.not_not] at c4); (try (rw [w32_id (x := r) (by omega) (by omega), (rts_get g1.1.2 c2.1 c2.2).1] at c4)); (try (have rk := (rtN_b (f := mF A) (c := c) (l := l) (r := r) (by omega) c2.1 c2.2).1; change w32 (rtN (rtsX (mF A) c l) r).1 = w32 2 at c4; rw [w32_id (x := (rtN (rtsX (mF A) c l) r).1) (by omega) (by omega)] at c4)); (try (have rk := (rtN_b (f := mF A) (c := c) (l := l) (r := r) (by omega) c2.1 c2.2).1; change ¬ w32 (rtN (rtsX (mF A) c l) r).1 = w32 2 at c4; rw [w32_id (x := (rtN (rtsX (mF A) c l) r).1) (by omega) (by omega)] at c4)); (try simp (disch := omega) only [fat_in, w32_0, wbi0, Classical.not_not, w32_id] at c4)
          refine ⟨fun c5 => ?_, fun c5 => ?_⟩
          · skip
            (try (have q3 := (p1.2.2.1 c c1.1.1 c1.1.2).1)); (try simp only [w32_0, wbi0, Classical.not_not] at c5); (try (rw [w32_id (x := r) (by omega) (by omega), (rts_get g1.1.2 c2.1 c2.2).1] at c5)); (try (have rk := (rtN_b (f := mF A) (c := c) (l := l) (r := r) (by omega) c2.1 c2.2).1; change w32 (rtN (rtsX (mF A) c l) r).1 = w32 2 at c5; rw [w32_id (x := (rtN (rtsX (mF A) c l) r).1) (by omega) (by omega)] at c5)); (try (have rk := (rtN_b (f := mF A) (c := c) (l := l) (r := r) (by omega) c2.1 c2.2).1; change ¬ w32 (rtN (rtsX (mF A) c l) r).1 = w32 2 at c5; rw [w32_id (x := (rtN (rtsX (mF A) c l) r).1) (by omega) (by omega)] at c5)); (try simp (disch := omega) only [fat_in, w32_0, wbi0, Classical.not_not, w32_id] at c5)
            first
            | exact K_eq (h _ _ ⟨qdP_F (by decide), by rw [upF_s, bi_f c1, if_neg c1]; rfl⟩) (if_neg c1)
            | (refine K_eq (h _ _ ⟨qdP_trans (qdP_F (by decide)) (roP_q g1), by rw [g1.2.1 25 0 (by decide), upF_s, bi_t c1, if_pos c1]; rfl⟩) ?_; rw [if_pos c1, if_neg (fun z => c2 z.1)]; done)
            | (refine K_eq (h _ _ ⟨qdP_trans (qdP_F (by decide)) (roP_q g1), by rw [g1.2.1 25 0 (by decide), upF_s, bi_t c1, if_pos c1]; rfl⟩) ?_; rw [if_pos c1, if_neg (fun z => absurd c3 z.2)]; done)
            | (refine K_eq (h _ _ ⟨qdP_trans (qdP_F (by decide)) (roP_q g1), by rw [g1.2.1 25 0 (by decide), upF_s, bi_t c1, if_pos c1]; rfl⟩) ?_; have hd : ¬ (0 ≤ d ∧ d ≤ 12) := (by omega); rw [if_pos c1, if_pos ⟨c2, c3⟩, if_neg hd]; done)
            | (refine K_eq (h _ _ ⟨qdP_trans (qdP_trans (qdP_F (by decide)) (roP_q g1)) (qdP_A (fun b i hb => g2 b i (by omega))), by rw [g1.2.1 25 0 (by decide), upF_s, bi_t c1, if_pos c1]; rfl⟩) ?_
               have rg := rts_get g1.1.2 c2.1 c2.2
               rw [if_pos c1, if_pos ⟨c2, c3⟩, if_pos (by omega), roP_f g1, rg.1, rg.2.1, rg.2.2]
               rfl)
          · skip
            (try (have q3 := (p1.2.2.1 c c1.1.1 c1.1.2).1)); (try simp only [w32_0, wbi0, Classical.not_not] at c5); (try (rw [w32_id (x := r) (by omega) (by omega), (rts_get g1.1.2 c2.1 c2.2).1] at c5)); (try (have rk := (rtN_b (f := mF A) (c := c) (l := l) (r := r) (by omega) c2.1 c2.2).1; change w32 (rtN (rtsX (mF A) c l) r).1 = w32 2 at c5; rw [w32_id (x := (rtN (rtsX (mF A) c l) r).1) (by omega) (by omega)] at c5)); (try (have rk := (rtN_b (f := mF A) (c := c) (l := l) (r := r) (by omega) c2.1 c2.2).1; change ¬ w32 (rtN (rtsX (mF A) c l) r).1 = w32 2 at c5; rw [w32_id (x := (rtN (rtsX (mF A) c l) r).1) (by omega) (by omega)] at c5)); (try simp (disch := omega) only [fat_in, w32_0, wbi0, Classical.not_not, w32_id] at c5)
            refine ⟨by (have rg := rts_get g1.1.2 c2.1 c2.2; have rbn := rtN_b (f := mF A) (c := c) (l := l) (r := r) (by omega) c2.1 c2.2; have ri := rtsX_i (f := mF A) (c := c) (l := l) (r := r) (by omega) c2.1 c2.2; have rq := rb (mF A) p1 c l c1.1.1 c1.1.2 c1.2.1 c1.2.2; rw [roP_f g1]; unfold rtN at rbn ri c3; rw [rg.1, rg.2.1, rg.2.2]; have q5 := p1.2.1.1; exact ⟨p1, c1.1, c1.2, ⟨⟨by omega, by omega⟩, ⟨by omega, by omega⟩, ⟨by omega, by omega⟩, ⟨by omega, by omega⟩, ri, c3⟩, by omega, by omega⟩), ?_⟩
            intro B_2 g2
            first
            | exact K_eq (h _ _ ⟨qdP_F (by decide), by rw [upF_s, bi_f c1, if_neg c1]; rfl⟩) (if_neg c1)
            | (refine K_eq (h _ _ ⟨qdP_trans (qdP_F (by decide)) (roP_q g1), by rw [g1.2.1 25 0 (by decide), upF_s, bi_t c1, if_pos c1]; rfl⟩) ?_; rw [if_pos c1, if_neg (fun z => c2 z.1)]; done)
            | (refine K_eq (h _ _ ⟨qdP_trans (qdP_F (by decide)) (roP_q g1), by rw [g1.2.1 25 0 (by decide), upF_s, bi_t c1, if_pos c1]; rfl⟩) ?_; rw [if_pos c1, if_neg (fun z => absurd c3 z.2)]; done)
            | (refine K_eq (h _ _ ⟨qdP_trans (qdP_F (by decide)) (roP_q g1), by rw [g1.2.1 25 0 (by decide), upF_s, bi_t c1, if_pos c1]; rfl⟩) ?_; have hd : ¬ (0 ≤ d ∧ d ≤ 12) := (by omega); rw [if_pos c1, if_pos ⟨c2, c3⟩, if_neg hd]; done)
            | (refine K_eq (h _ _ ⟨qdP_trans (qdP_trans (qdP_F (by decide)) (roP_q g1)) (qdP_A (fun b i hb => g2 b i (by omega))), by rw [g1.2.1 25 0 (by decide), upF_s, bi_t c1, if_pos c1]; rfl⟩) ?_
               have rg := rts_get g1.1.2 c2.1 c2.2
               rw [if_pos c1, if_pos ⟨c2, c3⟩, if_pos (by omega), roP_f g1, rg.1, rg.2.1, rg.2.2]
               rfl)
theorem qtX9_refined (l : Launch) : am_CT l layM qeX9_refined := am_met0 rfl (by decide +kernel) rfl rfl rfl rfl rfl (fun _ => rfl) rfl (qzX9_refined l) (fun k e1 h => (qyX9_refined l k e1 h).2) (fun as F A K h => by
  replace h : qsX9_refined as F A K := h
  unfold qsX9_refined at h
  split at h
  · rename_i o c l r d
    refine ⟨by first | exact Nat.le_of_ble_eq_true rfl | simp [am_fl, am_cat], ?_⟩
    replace h := am_cond2 h
    rcases h with ⟨hb, h⟩ | h
    · skip
      have hb0 := hb
      have hb0 := am_bq hb0
      subst hb0
      exact am_way_line (qvX9_refined_25 c l r d F A K h)
    exact h.elim
  · exact h.elim)
