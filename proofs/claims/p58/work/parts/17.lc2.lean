def qkX5_findAll : Nat → Option CI := fun pc => cond (Nat.ble 60 pc) none (cond (Nat.ble 31 pc) (cond (Nat.ble 44 pc) (cond (Nat.ble 53 pc) (cond (Nat.ble 55 pc) (cond (Nat.beq pc 55) (some (.iconst 1, 56, [])) (cond (Nat.beq pc 56) (some (.invokevirtual 73, 59, [])) (cond (Nat.beq pc 59) (some (.return_, 60, [])) (none)))) (cond (Nat.beq pc 53) (some (.iconst 0, 54, [])) (cond (Nat.beq pc 54) (some (.iconst 0, 55, [])) (none)))) (cond (Nat.ble 48 pc) (cond (Nat.beq pc 48) (some (.lcmp, 49, [])) (cond (Nat.beq pc 49) (some (.ifCond .ne 10, 52, [59])) (cond (Nat.beq pc 52) (some (.aload_n 0, 53, [])) (none)))) (cond (Nat.beq pc 44) (some (.invokevirtual 43, 47, [])) (cond (Nat.beq pc 47) (some (.lconst 0, 48, [])) (none))))) (cond (Nat.ble 35 pc) (cond (Nat.ble 39 pc) (cond (Nat.beq pc 39) (some (.iconst 0, 40, [])) (cond (Nat.beq pc 40) (some (.aload_n 0, 41, [])) (cond (Nat.beq pc 41) (some (.getfield 31, 44, [])) (none)))) (cond (Nat.beq pc 35) (some (.invokestatic 77, 38, [])) (cond (Nat.beq pc 38) (some (.aload_n 0, 39, [])) (none)))) (cond (Nat.ble 33 pc) (cond (Nat.beq pc 33) (some (.iconst 0, 34, [])) (cond (Nat.beq pc 34) (some (.iload_n 1, 35, [])) (none))) (cond (Nat.beq pc 31) (some (.aload_n 0, 32, [])) (cond (Nat.beq pc 32) (some (.iconst 0, 33, [])) (none)))))) (cond (Nat.ble 15 pc) (cond (Nat.ble 24 pc) (cond (Nat.ble 26 pc) (cond (Nat.beq pc 26) (some (.iconst 0, 27, [])) (cond (Nat.beq pc 27) (some (.iconst 0, 28, [])) (cond (Nat.beq pc 28) (some (.invokevirtual 73, 31, [])) (none)))) (cond (Nat.beq pc 24) (some (.aload_n 0, 25, [])) (cond (Nat.beq pc 25) (some (.iconst 0, 26, [])) (none)))) (cond (Nat.ble 19 pc) (cond (Nat.beq pc 19) (some (.lconst 0, 20, [])) (cond (Nat.beq pc 20) (some (.lcmp, 21, [])) (cond (Nat.beq pc 21) (some (.ifCond .ne 10, 24, [31])) (none)))) (cond (Nat.beq pc 15) (some (.iconst 0, 16, [])) (cond (Nat.beq pc 16) (some (.invokevirtual 43, 19, [])) (none))))) (cond (Nat.ble 6 pc) (cond (Nat.ble 12 pc) (cond (Nat.beq pc 12) (some (.return_, 13, [])) (cond (Nat.beq pc 13) (some (.aload_n 0, 14, [])) (cond (Nat.beq pc 14) (some (.iconst 0, 15, [])) (none)))) (cond (Nat.beq pc 6) (some (.invokevirtual 69, 9, [])) (cond (Nat.beq pc 9) (some (.ifCond .eq 4, 12, [13])) (none)))) (cond (Nat.ble 2 pc) (cond (Nat.beq pc 2) (some (.putfield 66, 5, [])) (cond (Nat.beq pc 5) (some (.aload_n 0, 6, [])) (none))) (cond (Nat.beq pc 0) (some (.aload_n 0, 1, [])) (cond (Nat.beq pc 1) (some (.iconst 0, 2, [])) (none)))))))
theorem qkX5_findAll_ok : ∀ pc i nx ts, qkX5_findAll pc = some (i, nx, ts) → am_cok cX5_findAll pc (i, nx, ts) = true := fun pc i nx ts h => am_tok_ok (n := 60) (by decide +kernel) (fun pc h => by show cond (Nat.ble 60 pc) _ _ = _; rw [Nat.ble_eq_true_of_le h]; rfl) h
def qaX5_findAll : Nat → Option CE := fun k => cond (Nat.beq k 69) (some qeX5_isAllZero) (cond (Nat.beq k 43) (some qeX5_number) (cond (Nat.beq k 73) (some qeX5_add) (cond (Nat.beq k 77) (some qeX5_search) (none))))
theorem qyX5_findAll (l : Launch) : ∀ k e1, qaX5_findAll k = some e1 → am_cal l layX RX5 19 k e1 ∧ ceT e1 = 0 := q_cons ⟨am_calV (ci := 5) (qtX5_isAllZero l) qbX5_isAllZero (by decide) rfl (am_tb_at 1131 (by decide +kernel) rfl), rfl⟩ (q_cons ⟨am_calV (ci := 5) (qtX5_number l) qbX5_number (by decide) rfl (am_tb_at 964 (by decide +kernel) rfl), rfl⟩ (q_cons ⟨am_calV (ci := 5) (qtX5_add l) qbX5_add (by decide) rfl (am_tb_at 1132 (by decide +kernel) rfl), rfl⟩ (q_cons ⟨am_calS (qtX5_search l) qbX5_search (by decide) rfl (by decide) (am_tb_at 1136 (by decide +kernel) rfl), rfl⟩ (q_nil))))
def qxX5_findAll : CX := (qkX5_findAll, layX, qfX5, qaX5_findAll, qcX5, qlX5, qmX5, none, false, none, 0, none, fun _ => none)
theorem qzX5_findAll (l : Launch) : am_sta l qxX5_findAll RX5 19 cX5_findAll := ⟨qkX5_findAll_ok, layX_ok, qfX5_ok, qcX5_ok, qlX5_ok, am_mthP qmX5_ok (by decide), fun k e1 h => (qyX5_findAll l k e1 h).1⟩
def qsX5_findAll : SP := fun as F A K => match as with
  | [.inr (.inr o), .inl lim] => cond (Nat.beq o 14) (((0 ≤ (F 14 4) ∧ (F 14 4) ≤ 3) ∧ (1 ≤ lim ∧ lim ≤ 12) ∧ ((rootsL (A 15) ((F 14 4)) lim).length : Int) ≤ 8) ∧ (∀ (B_1 : AA) (G_1 : FF) (L_1 : List RT), (L_1 = rootsL (A 15) ((F 14 4)) lim ∧ srP A B_1 0 0 L_1 ∧ G_1 = upF F 14 5 (L_1.length : Int)) → (K (some none) G_1 B_1))) (False)
  | _ => False
def qeX5_findAll : CE := (yX5_findAll, cX5_findAll, 2, none, 1, some 5, 0, none, 0, 19, qsX5_findAll)
theorem qbX5_findAll : am_mb qeX5_findAll := ⟨am_tb_at 1130 (by decide +kernel) rfl, am_tb_at 40 (by decide +kernel) rfl, ⟨by decide, by decide, by decide +kernel⟩, by decide, am_tb_at 1128 (by decide +kernel) rfl, am_tb_at 1129 (by decide +kernel) rfl, _, _, rfl⟩
set_option maxRecDepth 20000 in
theorem qvX5_findAll_14 (lim : Int) (F : FF) (A : AA) (K : KK) (h : ((0 ≤ (F 14 4) ∧ (F 14 4) ≤ 3) ∧ (1 ≤ lim ∧ lim ≤ 12) ∧ ((rootsL (A 15) ((F 14 4)) lim).length : Int) ≤ 8) ∧ (∀ (B_1 : AA) (G_1 : FF) (L_1 : List RT), (L_1 = rootsL (A 15) ((F 14 4)) lim ∧ srP A B_1 0 0 L_1 ∧ G_1 = upF F 14 5 (L_1.length : Int)) → (K (some none) G_1 B_1))) : am_line qxX5_findAll 38 [vR 14, vI lim] 2 F A K := by
  show am_stp qxX5_findAll (am_run qxX5_findAll (fun _ => none) (fun _ _ _ _ _ _ => False) K 38) K 0 [some (vR 14), some (vI lim)] [] F A 0
  obtain ⟨hp, h⟩ := h
  obtain ⟨p1, p2, p3⟩ := hp
  have rt0 : A 15 (0 * 4 + 0) = A 15 0 := rfl

  show (0 ≤ ((upF F 14 5 0) 14 4) ∧ ((upF F 14 5 0) 14 4) ≤ 3) ∧ ((w32 (bi (azP (A 15) (Int.toNat (((upF F 14 5 0) 14 4) + 1)))) = w32 0 → ((0 ≤ 0 ∧ 0 ≤ 12 ∧ 0 ≤ 0 ∧ 0 < 4) ∧ ((w32 (y_cmp (A 15 (0 * 4 + 0)) 0) = w32 0 → ((0 ≤ 0 ∧ 0 < 8) ∧ (((0 ≤ ((upF (upF (upF (upF F 14 5 0) 14 5 (0 + 1)) 14 5 0) 14 5 (0 + 1)) 14 4) ∧ ((upF (upF (upF (upF F 14 5 0) 14 5 (0 + 1)) 14 5 0) 14 5 (0 + 1)) 14 4) ≤ 3) ∧ 0 ≤ 0 ∧ 0 + ((13 : Nat) : Int) = 13 ∧ (1 ≤ lim ∧ lim ≤ 12) ∧ 0 ≤ 12 ∧ 0 ≤ ((upF (upF (upF (upF F 14 5 0) 14 5 (0 + 1)) 14 5 0) 14 5 (0 + 1)) 14 5) ∧ ((upF (upF (upF (upF F 14 5 0) 14 5 (0 + 1)) 14 5 0) 14 5 (0 + 1)) 14 5) + ((srch (((upF (upF (upF (upF F 14 5 0) 14 5 (0 + 1)) 14 5 0) 14 5 (0 + 1)) 14 4)) lim 13 (fun i => (upA (upA (upA A 16 (0) 0) 17 (0) 0) 18 (0) 0) 15 (0 * 4 + i)) 0 0).length : Int) ≤ 8) ∧ (∀ (B_1 : AA) (G_1 : FF) (L_1 : List RT), (L_1 = srch (((upF (upF (upF (upF F 14 5 0) 14 5 (0 + 1)) 14 5 0) 14 5 (0 + 1)) 14 4)) lim 13 (fun i => (upA (upA (upA A 16 (0) 0) 17 (0) 0) 18 (0) 0) 15 (0 * 4 + i)) 0 0 ∧ srP (upA (upA (upA A 16 (0) 0) 17 (0) 0) 18 (0) 0) B_1 (((upF (upF (upF (upF F 14 5 0) 14 5 (0 + 1)) 14 5 0) 14 5 (0 + 1)) 14 5)) 0 L_1 ∧ G_1 = upF (upF (upF F 14 5 0) 14 5 (0 + 1)) 14 5 (((upF (upF (upF (upF F 14 5 0) 14 5 (0 + 1)) 14 5 0) 14 5 (0 + 1)) 14 5) + (L_1.length : Int))) → ((0 ≤ 0 ∧ 0 ≤ 12 ∧ 0 ≤ (G_1 14 4) ∧ (G_1 14 4) < 4) ∧ ((w32 (y_cmp (B_1 15 (0 * 4 + (G_1 14 4))) 0) = w32 0 → ((0 ≤ (G_1 14 5) ∧ (G_1 14 5) < 8) ∧ (K (some none) (upF G_1 14 5 ((G_1 14 5) + 1)) (upA (upA (upA B_1 16 ((G_1 14 5)) 0) 17 ((G_1 14 5)) 0) 18 ((G_1 14 5)) 1)))) ∧ (¬ w32 (y_cmp (B_1 15 (0 * 4 + (G_1 14 4))) 0) = w32 0 → (K (some none) G_1 B_1)))))))) ∧ (¬ w32 (y_cmp (A 15 (0 * 4 + 0)) 0) = w32 0 → (((0 ≤ ((upF F 14 5 0) 14 4) ∧ ((upF F 14 5 0) 14 4) ≤ 3) ∧ 0 ≤ 0 ∧ 0 + ((13 : Nat) : Int) = 13 ∧ (1 ≤ lim ∧ lim ≤ 12) ∧ 0 ≤ 12 ∧ 0 ≤ 0 ∧ 0 + ((srch (((upF F 14 5 0) 14 4)) lim 13 (fun i => A 15 (0 * 4 + i)) 0 0).length : Int) ≤ 8) ∧ (∀ (B_1 : AA) (G_1 : FF) (L_1 : List RT), (L_1 = srch (((upF F 14 5 0) 14 4)) lim 13 (fun i => A 15 (0 * 4 + i)) 0 0 ∧ srP A B_1 (0) 0 L_1 ∧ G_1 = upF (upF F 14 5 0) 14 5 (0 + (L_1.length : Int))) → ((0 ≤ 0 ∧ 0 ≤ 12 ∧ 0 ≤ (G_1 14 4) ∧ (G_1 14 4) < 4) ∧ ((w32 (y_cmp (B_1 15 (0 * 4 + (G_1 14 4))) 0) = w32 0 → ((0 ≤ (G_1 14 5) ∧ (G_1 14 5) < 8) ∧ (K (some none) (upF G_1 14 5 ((G_1 14 5) + 1)) (upA (upA (upA B_1 16 ((G_1 14 5)) 0) 17 ((G_1 14 5)) 0) 18 ((G_1 14 5)) 1)))) ∧ (¬ w32 (y_cmp (B_1 15 (0 * 4 + (G_1 14 4))) 0) = w32 0 → (K (some none) G_1 B_1)))))))))) ∧ (¬ w32 (bi (azP (A 15) (Int.toNat (((upF F 14 5 0) 14 4) + 1)))) = w32 0 → (K (some none) (upF F 14 5 0) A)))
  refine ⟨by (simp only [upF_s, upF_o (show (14 : Nat) ≠ 14 ∨ (4 : Nat) ≠ 5 by decide)]; omega), ?_⟩
  refine ⟨fun c1 => ?_, fun c1 => ?_⟩
  · skip
    (try simp only [upF_s, upF_o (show (14 : Nat) ≠ 14 ∨ (4 : Nat) ≠ 5 by decide)] at c1); (try simp (disch := omega) only [w32_0, w64_0, yc_eq0, wbi0, wbi1, Classical.not_not, Int.zero_mul, Int.zero_add] at c1); (try rw [rt0] at c1); (try rw [rn0] at c1)
    refine ⟨by omega, ?_⟩
    refine ⟨fun c2 => ?_, fun c2 => ?_⟩
    · skip
      (try simp only [upF_s, upF_o (show (14 : Nat) ≠ 14 ∨ (4 : Nat) ≠ 5 by decide)] at c2); (try simp (disch := omega) only [w32_0, w64_0, yc_eq0, wbi0, wbi1, Classical.not_not, Int.zero_mul, Int.zero_add] at c2); (try rw [rt0] at c2); (try rw [rn0] at c2)
      refine ⟨by omega, ?_⟩
      refine ⟨by (simp only [upF_s, upF_o (show (14 : Nat) ≠ 14 ∨ (4 : Nat) ≠ 5 by decide)]; refine ⟨by omega, by omega, by omega, by omega, by omega, by omega, ?_⟩; rw [srch_c (y := A 15) (by omega) 13 _ _ (fun i i0 i1 => by rw [Int.zero_mul, Int.zero_add, upA_k (by decide), upA_k (by decide), upA_k (by decide)])]; unfold rootsL at p3; rw [if_neg c1, if_pos c2] at p3; simp only [List.length_append, List.length_cons, List.length_nil] at p3; omega), ?_⟩
      intro B_1 G_1 L_1 g1
      obtain ⟨gL, gP, gG⟩ := g1
      simp only [upF_s, upF_o (show (14 : Nat) ≠ 14 ∨ (4 : Nat) ≠ 5 by decide)] at gL gP gG
      have f4 : G_1 14 4 = F 14 4 := by rw [gG]; simp only [upF_s, upF_o (show (14 : Nat) ≠ 14 ∨ (4 : Nat) ≠ 5 by decide)]
      have rn0 : B_1 15 (G_1 14 4) = A 15 (F 14 4) := by
        rw [f4, gP.1 15 _ (Or.inr (Or.inl ⟨rfl, by omega⟩))]
        try rw [upA_k (by decide), upA_k (by decide), upA_k (by decide)]
      have eL : L_1 = srch (F 14 4) lim 13 (A 15) 0 0 := by
        rw [gL]
        refine srch_c (by omega) 13 _ _ (fun i i0 i1 => ?_)
        rw [Int.zero_mul, Int.zero_add]
        try rw [upA_k (by decide), upA_k (by decide), upA_k (by decide)]
      have f5 := congrFun (congrFun gG 14) 5
      simp only [upF_s, upF_o (show (14 : Nat) ≠ 14 ∨ (4 : Nat) ≠ 5 by decide)] at f5
      unfold rootsL at p3 h
      rw [if_neg c1, ← eL] at p3 h
      refine ⟨by (rw [f4]; omega), ?_⟩
      refine ⟨fun c3 => ?_, fun c3 => ?_⟩
      · skip
        (try simp only [upF_s, upF_o (show (14 : Nat) ≠ 14 ∨ (4 : Nat) ≠ 5 by decide)] at c3); (try simp (disch := omega) only [w32_0, w64_0, yc_eq0, wbi0, wbi1, Classical.not_not, Int.zero_mul, Int.zero_add] at c3); (try rw [rt0] at c3); (try rw [rn0] at c3)
        refine ⟨by (rw [if_pos c2, if_pos c3] at p3; simp only [List.length_append, List.length_cons, List.length_nil] at p3; first | omega | (rw [f5]; omega)), ?_⟩
        rw [if_pos c2, if_pos c3] at h
        refine h _ _ _ ⟨rfl, ?_, ?_⟩
        · have t1 := ()
          have t2 := srP_trans gP (srP_add (A := B_1) (r := G_1 14 5) (k := 0) (d' := 0) (q := 1)) (by rw [f5])
          exact srP_trans (srP_add (A := A) (r := 0) (d := 0) (k := 0) (d' := 0) (q := 0)) t2 (by simp)
        · rw [gG]
          simp only [upF_2, upF_s, upF_o (show (14 : Nat) ≠ 14 ∨ (4 : Nat) ≠ 5 by decide), List.length_append, List.length_cons, List.length_nil, List.nil_append, List.append_nil]
          congr 1 <;> omega
      · skip
        (try simp only [upF_s, upF_o (show (14 : Nat) ≠ 14 ∨ (4 : Nat) ≠ 5 by decide)] at c3); (try simp (disch := omega) only [w32_0, w64_0, yc_eq0, wbi0, wbi1, Classical.not_not, Int.zero_mul, Int.zero_add] at c3); (try rw [rt0] at c3); (try rw [rn0] at c3)
        rw [if_pos c2, if_neg c3] at h
        refine h _ _ _ ⟨rfl, ?_, ?_⟩
        · have t1 := ()
          rw [List.append_nil]
          exact srP_trans (srP_add (A := A) (r := 0) (d := 0) (k := 0) (d' := 0) (q := 0)) gP (by simp)
        · rw [gG]
          simp only [upF_2, upF_s, upF_o (show (14 : Nat) ≠ 14 ∨ (4 : Nat) ≠ 5 by decide), List.length_append, List.length_cons, List.length_nil, List.nil_append, List.append_nil]
          congr 1 <;> omega
    · skip
      (try simp only [upF_s, upF_o (show (14 : Nat) ≠ 14 ∨ (4 : Nat) ≠ 5 by decide)] at c2); (try simp (disch := omega) only [w32_0, w64_0, yc_eq0, wbi0, wbi1, Classical.not_not, Int.zero_mul, Int.zero_add] at c2); (try rw [rt0] at c2); (try rw [rn0] at c2)
      refine ⟨by (simp only [upF_s, upF_o (show (14 : Nat) ≠ 14 ∨ (4 : Nat) ≠ 5 by decide)]; refine ⟨by omega, by omega, by omega, by omega, by omega, by omega, ?_⟩; rw [srch_c (y := A 15) (by omega) 13 _ _ (fun i i0 i1 => by rw [Int.zero_mul, Int.zero_add])]; unfold rootsL at p3; rw [if_neg c1, if_neg c2] at p3; simp only [List.length_append, List.length_nil] at p3; omega), ?_⟩
      intro B_1 G_1 L_1 g1
      obtain ⟨gL, gP, gG⟩ := g1
      simp only [upF_s, upF_o (show (14 : Nat) ≠ 14 ∨ (4 : Nat) ≠ 5 by decide)] at gL gP gG
      have f4 : G_1 14 4 = F 14 4 := by rw [gG]; simp only [upF_s, upF_o (show (14 : Nat) ≠ 14 ∨ (4 : Nat) ≠ 5 by decide)]
      have rn0 : B_1 15 (G_1 14 4) = A 15 (F 14 4) := by
        rw [f4, gP.1 15 _ (Or.inr (Or.inl ⟨rfl, by omega⟩))]
        try rw [upA_k (by decide), upA_k (by decide), upA_k (by decide)]
      have eL : L_1 = srch (F 14 4) lim 13 (A 15) 0 0 := by
        rw [gL]
        refine srch_c (by omega) 13 _ _ (fun i i0 i1 => ?_)
        rw [Int.zero_mul, Int.zero_add]
        try rw [upA_k (by decide), upA_k (by decide), upA_k (by decide)]
      have f5 := congrFun (congrFun gG 14) 5
      simp only [upF_s, upF_o (show (14 : Nat) ≠ 14 ∨ (4 : Nat) ≠ 5 by decide)] at f5
      unfold rootsL at p3 h
      rw [if_neg c1, ← eL] at p3 h
      refine ⟨by (rw [f4]; omega), ?_⟩
      refine ⟨fun c3 => ?_, fun c3 => ?_⟩
      · skip
        (try simp only [upF_s, upF_o (show (14 : Nat) ≠ 14 ∨ (4 : Nat) ≠ 5 by decide)] at c3); (try simp (disch := omega) only [w32_0, w64_0, yc_eq0, wbi0, wbi1, Classical.not_not, Int.zero_mul, Int.zero_add] at c3); (try rw [rt0] at c3); (try rw [rn0] at c3)
        refine ⟨by (rw [if_neg c2, if_pos c3] at p3; simp only [List.length_append, List.length_cons, List.length_nil] at p3; first | omega | (rw [f5]; omega)), ?_⟩
        rw [if_neg c2, if_pos c3] at h
        refine h _ _ _ ⟨rfl, ?_, ?_⟩
        · have t1 := gP
          show srP _ _ _ _ (L_1 ++ [(0, 0, 1)])
          exact srP_trans gP (srP_add (A := B_1) (r := G_1 14 5) (k := 0) (d' := 0) (q := 1)) (by rw [f5])
        · rw [gG]
          simp only [upF_2, upF_s, upF_o (show (14 : Nat) ≠ 14 ∨ (4 : Nat) ≠ 5 by decide), List.length_append, List.length_cons, List.length_nil, List.nil_append, List.append_nil]
          congr 1 <;> omega
      · skip
        (try simp only [upF_s, upF_o (show (14 : Nat) ≠ 14 ∨ (4 : Nat) ≠ 5 by decide)] at c3); (try simp (disch := omega) only [w32_0, w64_0, yc_eq0, wbi0, wbi1, Classical.not_not, Int.zero_mul, Int.zero_add] at c3); (try rw [rt0] at c3); (try rw [rn0] at c3)
        rw [if_neg c2, if_neg c3] at h
        refine h _ _ _ ⟨rfl, ?_, ?_⟩
        · have t1 := gP
          rw [List.append_nil]
          exact t1
        · rw [gG]
          simp only [upF_2, upF_s, upF_o (show (14 : Nat) ≠ 14 ∨ (4 : Nat) ≠ 5 by decide), List.length_append, List.length_cons, List.length_nil, List.nil_append, List.append_nil]
          congr 1 <;> omega
  · skip
    (try simp only [upF_s, upF_o (show (14 : Nat) ≠ 14 ∨ (4 : Nat) ≠ 5 by decide)] at c1); (try simp (disch := omega) only [w32_0, w64_0, yc_eq0, wbi0, wbi1, Classical.not_not, Int.zero_mul, Int.zero_add] at c1); (try rw [rt0] at c1); (try rw [rn0] at c1)
    unfold rootsL at h
    rw [if_pos c1] at h
    exact h _ _ _ ⟨rfl, srP_id, rfl⟩
theorem qtX5_findAll (l : Launch) : am_CT l layX qeX5_findAll := am_met0 rfl (by decide +kernel) rfl rfl rfl rfl rfl (fun _ => rfl) rfl (qzX5_findAll l) (fun k e1 h => (qyX5_findAll l k e1 h).2) (fun as F A K h => by
  replace h : qsX5_findAll as F A K := h
  unfold qsX5_findAll at h
  split at h
  · rename_i o lim
    refine ⟨by first | exact Nat.le_of_ble_eq_true rfl | simp [am_fl, am_cat], ?_⟩
    replace h := am_cond2 h
    rcases h with ⟨hb, h⟩ | h
    · skip
      have hb0 := hb
      have hb0 := am_bq hb0
      subst hb0
      exact am_way_line (qvX5_findAll_14 lim F A K h)
    exact h.elim
  · exact h.elim)
def qkX5_begin : Nat → Option CI := fun pc => cond (Nat.ble 43 pc) none (cond (Nat.ble 21 pc) (cond (Nat.ble 29 pc) (cond (Nat.ble 36 pc) (cond (Nat.beq pc 36) (some (.iinc 4 1, 39, [])) (cond (Nat.beq pc 39) (some (.goto (-27), 42, [12])) (cond (Nat.beq pc 42) (some (.return_, 43, [])) (none)))) (cond (Nat.beq pc 29) (some (.invokevirtual 35, 32, [])) (cond (Nat.beq pc 32) (some (.i2l, 33, [])) (cond (Nat.beq pc 33) (some (.invokevirtual 39, 36, [])) (none))))) (cond (Nat.ble 25 pc) (cond (Nat.beq pc 25) (some (.iload_n 2, 26, [])) (cond (Nat.beq pc 26) (some (.iload_n 3, 27, [])) (cond (Nat.beq pc 27) (some (.iload 4, 29, [])) (none)))) (cond (Nat.beq pc 21) (some (.aload_n 0, 22, [])) (cond (Nat.beq pc 22) (some (.iload 4, 24, [])) (cond (Nat.beq pc 24) (some (.aload_n 1, 25, [])) (none)))))) (cond (Nat.ble 9 pc) (cond (Nat.ble 14 pc) (cond (Nat.beq pc 14) (some (.aload_n 0, 15, [])) (cond (Nat.beq pc 15) (some (.getfield 31, 18, [])) (cond (Nat.beq pc 18) (some (.if_icmp .gt 24, 21, [42])) (none)))) (cond (Nat.beq pc 9) (some (.iconst 0, 10, [])) (cond (Nat.beq pc 10) (some (.istore 4, 12, [])) (cond (Nat.beq pc 12) (some (.iload 4, 14, [])) (none))))) (cond (Nat.ble 2 pc) (cond (Nat.beq pc 2) (some (.iload_n 2, 3, [])) (cond (Nat.beq pc 3) (some (.invokevirtual 25, 6, [])) (cond (Nat.beq pc 6) (some (.putfield 31, 9, [])) (none)))) (cond (Nat.beq pc 0) (some (.aload_n 0, 1, [])) (cond (Nat.beq pc 1) (some (.aload_n 1, 2, [])) (none))))))
theorem qkX5_begin_ok : ∀ pc i nx ts, qkX5_begin pc = some (i, nx, ts) → am_cok cX5_begin pc (i, nx, ts) = true := fun pc i nx ts h => am_tok_ok (n := 43) (by decide +kernel) (fun pc h => by show cond (Nat.ble 43 pc) _ _ = _; rw [Nat.ble_eq_true_of_le h]; rfl) h
def qaX5_begin : Nat → Option CE := fun k => cond (Nat.beq k 25) (some qeX2_top) (cond (Nat.beq k 35) (some qeX2_cutNumber) (cond (Nat.beq k 39) (some qeX5_replace) (none)))
theorem qyX5_begin (l : Launch) : ∀ k e1, qaX5_begin k = some e1 → am_cal l layX RX5 7 k e1 ∧ ceT e1 = 0 := q_cons ⟨am_calV (ci := 2) (qtX2_top l) qbX2_top (by decide) rfl (am_tb_at 946 (by decide +kernel) rfl), rfl⟩ (q_cons ⟨am_calV (ci := 2) (qtX2_cutNumber l) qbX2_cutNumber (by decide) rfl (am_tb_at 947 (by decide +kernel) rfl), rfl⟩ (q_cons ⟨am_calV (ci := 5) (qtX5_replace l) qbX5_replace (by decide) rfl (am_tb_at 956 (by decide +kernel) rfl), rfl⟩ (q_nil)))
def qxX5_begin : CX := (qkX5_begin, layX, qfX5, qaX5_begin, qcX5, qlX5, qmX5, none, false, none, 0, none, fun _ => none)
theorem qzX5_begin (l : Launch) : am_sta l qxX5_begin RX5 7 cX5_begin := ⟨qkX5_begin_ok, layX_ok, qfX5_ok, qcX5_ok, qlX5_ok, am_mthP qmX5_ok (by decide), fun k e1 h => (qyX5_begin l k e1 h).1⟩
def qsX5_begin : SP := fun as F A K => match as with
  | [.inr (.inr o), .inr (.inr g), .inl c, .inl l] => cond (Nat.beq o 14 && Nat.beq g 1) ((0 ≤ c ∧ c < 8 ∧ 0 ≤ l ∧ l < 6 ∧ 1 ≤ A 2 (18 + c) ∧ A 2 (18 + c) ≤ 4) ∧ (K (some none) (upF F 14 4 (A 2 (18 + c) - 1)) (setR A 15 0 (A 2 (18 + c)) (fun jj => cfX (A 2) c l jj)))) (False)
  | _ => False
def qeX5_begin : CE := (yX5_begin, cX5_begin, 5, none, 3, some 5, 0, none, 0, 7, qsX5_begin)
theorem qbX5_begin : am_mb qeX5_begin := ⟨am_tb_at 945 (by decide +kernel) rfl, am_tb_at 40 (by decide +kernel) rfl, ⟨by decide, by decide, by decide +kernel⟩, by decide, am_tb_at 943 (by decide +kernel) rfl, am_tb_at 944 (by decide +kernel) rfl, _, _, rfl⟩
def qnX5_begin_14_1 : CUT := fun pc => cond (Nat.beq pc 12) (some [true, true, true, true, true]) (none)
def qiX5_begin_14_1 (c : Int) (l : Int) (F0 : FF) (A0 : AA) : REC := fun pc ls st F A u => cond (Nat.beq pc 12) (match ls, st, u with
    | [some (.inr (.inr s0)), some (.inr (.inr s1)), some (.inl s2), some (.inl s3), some (.inl k)], [], 0 => s0 = 14 ∧ s1 = 1 ∧ s2 = c ∧ s3 = l ∧ (0 ≤ k ∧ k ≤ A0 2 (18 + c) ∧ F = upF F0 14 4 (A0 2 (18 + c) - 1) ∧ A = setR A0 15 0 k (fun jj => cfX (A0 2) c l jj))
    | _, _, _ => False) (False)
def quX5_begin_14_1 : Nat → LVs → List AV → FF → AA → Nat := fun pc ls _ F A => cond (Nat.beq pc 12) (match ls with
    | [some (.inr (.inr s0)), some (.inr (.inr s1)), some (.inl s2), some (.inl s3), some (.inl k)] => Int.toNat (10 - k)
    | _ => 0) (0)
set_option maxRecDepth 20000 in
theorem qvX5_begin_14_1_0 (c : Int) (l : Int) (F0 : FF) (A0 : AA) (K : KK) (h : (0 ≤ c ∧ c < 8 ∧ 0 ≤ l ∧ l < 6 ∧ 1 ≤ A0 2 (18 + c) ∧ A0 2 (18 + c) ≤ 4) ∧ (K (some none) (upF F0 14 4 (A0 2 (18 + c) - 1)) (setR A0 15 0 (A0 2 (18 + c)) (fun jj => cfX (A0 2) c l jj)))) : am_stp qxX5_begin (am_run qxX5_begin qnX5_begin_14_1 (qiX5_begin_14_1 c l F0 A0) K 18) K 0 (am_ent [vR 14, vR 1, vI c, vI l] 5) [] F0 A0 0 := by
  show am_stp qxX5_begin (am_run qxX5_begin qnX5_begin_14_1 (qiX5_begin_14_1 c l F0 A0) K 18) K 0 [some (vR 14), some (vR 1), some (vI c), some (vI l), none] [] F0 A0 0
  obtain ⟨hp, h⟩ := h
  show 14 = 14 ∧ 1 = 1 ∧ c = c ∧ l = l ∧ (0 ≤ 0 ∧ 0 ≤ A0 2 (18 + c) ∧ (upF F0 14 4 (fat (A0 2) (18 + c) - 1)) = upF F0 14 4 (A0 2 (18 + c) - 1) ∧ A0 = setR A0 15 0 0 (fun jj => cfX (A0 2) c l jj))
  refine ⟨rfl, rfl, rfl, rfl, ?_⟩
  refine ⟨by omega, by omega, by rw [fat_in (by omega) (by omega)], setR_0.symm⟩
set_option maxRecDepth 20000 in
theorem qvX5_begin_14_1_12 (c : Int) (l : Int) (F0 : FF) (A0 : AA) (K : KK) (h : (0 ≤ c ∧ c < 8 ∧ 0 ≤ l ∧ l < 6 ∧ 1 ≤ A0 2 (18 + c) ∧ A0 2 (18 + c) ≤ 4) ∧ (K (some none) (upF F0 14 4 (A0 2 (18 + c) - 1)) (setR A0 15 0 (A0 2 (18 + c)) (fun jj => cfX (A0 2) c l jj)))) (k : Int) (F : FF) (A : AA) (hi : 0 ≤ k ∧ k ≤ A0 2 (18 + c) ∧ F = upF F0 14 4 (A0 2 (18 + c) - 1) ∧ A = setR A0 15 0 k (fun jj => cfX (A0 2) c l jj)) : am_stp qxX5_begin (am_run qxX5_begin qnX5_begin_14_1 (fun pc ls st F A u => qiX5_begin_14_1 c l F0 A0 pc ls st F A u ∧ quX5_begin_14_1 pc ls st F A < quX5_begin_14_1 12 [some (vR 14), some (vR 1), some (vI c), some (vI l), some (vI k)] [] F A) K 18) K 12 [some (vR 14), some (vR 1), some (vI c), some (vI l), some (vI k)] [] F A 0 := by
  obtain ⟨hp, h⟩ := h
  obtain ⟨h1, h2, h3, h4⟩ := hi
  have f4 : F 14 4 = A0 2 (18 + c) - 1 := by rw [h3]; exact upF_s
  have e2 : A 2 = A0 2 := by rw [h4]; exact setR_r (by decide)
  show (w32 (F 14 4) < w32 k → (K (some none) F A)) ∧ (¬ w32 (F 14 4) < w32 k → ((0 ≤ k ∧ k < 4) ∧ ((14 = 14 ∧ 1 = 1 ∧ c = c ∧ l = l ∧ (0 ≤ (k + 1) ∧ (k + 1) ≤ A0 2 (18 + c) ∧ F = upF F0 14 4 (A0 2 (18 + c) - 1) ∧ (upA A 15 k (w32 ((fat (A 2) (26 + (c * 4 + k) * 3 + 2)) * (fat (A 2) (122 + l * 3 + 0) * (fat (A 2) (26 + (c * 4 + k) * 3 + 0)) + fat (A 2) (122 + l * 3 + 1) * (fat (A 2) (26 + (c * 4 + k) * 3 + 1)) + fat (A 2) (122 + l * 3 + 2))))) = setR A0 15 0 (k + 1) (fun jj => cfX (A0 2) c l jj))) ∧ (Int.toNat (10 - (k + 1))) < (Int.toNat (10 - k)))))
  refine ⟨fun c1 => ?_, fun c1 => ?_⟩
  · skip
    (try rw [f4] at c1); (try simp (disch := omega) only [w32_0, w32_id] at c1)
    rw [h3, h4, show k = A0 2 (18 + c) by omega]; exact h
  · skip
    (try rw [f4] at c1); (try simp (disch := omega) only [w32_0, w32_id] at c1)
    refine ⟨by first | omega | (simp (disch := omega) only [w32_0, w64_0, wbi0, wbi1, yc_eq0, yc_lt0, yc_gt0, Classical.not_not, w32_id, w64_id]; omega) | (simp (disch := omega) only [w32_0, w64_0, wbi0, wbi1, yc_eq0, yc_lt0, yc_gt0, Classical.not_not, w32_id, w64_id]; done), ?_⟩
    refine ⟨⟨rfl, rfl, rfl, rfl, ?_⟩, by omega⟩
    refine ⟨by omega, by omega, h3, ?_⟩
    rw [e2]
    simp (disch := omega) only [fat_in]
    rw [h4]
    have := setR_push (A := A0) (a := 15) (s := 0) (n := k) (g := fun k => cfX (A0 2) c l k) (g' := fun k => cfX (A0 2) c l k) h1 (fun _ _ _ => rfl) rfl
    rw [Int.zero_add] at this
    exact this
set_option maxRecDepth 20000 in
theorem qvX5_begin_14_1 (c : Int) (l : Int) (F0 : FF) (A0 : AA) (K : KK) (h : (0 ≤ c ∧ c < 8 ∧ 0 ≤ l ∧ l < 6 ∧ 1 ≤ A0 2 (18 + c) ∧ A0 2 (18 + c) ≤ 4) ∧ (K (some none) (upF F0 14 4 (A0 2 (18 + c) - 1)) (setR A0 15 0 (A0 2 (18 + c)) (fun jj => cfX (A0 2) c l jj)))) : am_body qxX5_begin qnX5_begin_14_1 18 (qiX5_begin_14_1 c l F0 A0) quX5_begin_14_1 [vR 14, vR 1, vI c, vI l] 5 F0 A0 K := by
  refine ⟨qvX5_begin_14_1_0 c l F0 A0 K h, fun pc ls st F A u hI => ?_⟩
  unfold qiX5_begin_14_1 at hI
  replace hI := am_cond2 hI
  rcases hI with ⟨hb, hI⟩ | hI
  · have hb := am_bq hb
    subst hb
    split at hI
    · rename_i s0 s1 s2 s3 k
      obtain ⟨e0, e1, e2, e3, hI⟩ := hI
      subst e0
      subst e1
      subst e2
      subst e3
      exact qvX5_begin_14_1_12 _ _ _ _ K h _ _ _ hI
    · exact hI.elim
  exact hI.elim
theorem qtX5_begin (l : Launch) : am_CT l layX qeX5_begin := am_met0 rfl (by decide +kernel) rfl rfl rfl rfl rfl (fun _ => rfl) rfl (qzX5_begin l) (fun k e1 h => (qyX5_begin l k e1 h).2) (fun as F A K h => by
  replace h : qsX5_begin as F A K := h
  unfold qsX5_begin at h
  split at h
  · rename_i o g c l
    refine ⟨by first | exact Nat.le_of_ble_eq_true rfl | simp [am_fl, am_cat], ?_⟩
    replace h := am_cond2 h
    rcases h with ⟨hb, h⟩ | h
    · simp only [Bool.and_eq_true] at hb
      obtain ⟨hb0, hb1⟩ := hb
      have hb0 := am_bq hb0
      subst hb0
      have hb1 := am_bq hb1
      subst hb1
      exact am_way_body (qvX5_begin_14_1 c l F A K h)
    exact h.elim
  · exact h.elim)
def qkX5_power : Nat → Option CI := fun pc => cond (Nat.ble 139 pc) none (cond (Nat.ble 80 pc) (cond (Nat.ble 109 pc) (cond (Nat.ble 125 pc) (cond (Nat.ble 132 pc) (cond (Nat.ble 134 pc) (cond (Nat.beq pc 134) (some (.invokevirtual 43, 137, [])) (cond (Nat.beq pc 137) (some (.lsub, 138, [])) (cond (Nat.beq pc 138) (some (.lreturn, 139, [])) (none)))) (cond (Nat.beq pc 132) (some (.iconst 0, 133, [])) (cond (Nat.beq pc 133) (some (.iconst 0, 134, [])) (none)))) (cond (Nat.ble 129 pc) (cond (Nat.beq pc 129) (some (.lmul, 130, [])) (cond (Nat.beq pc 130) (some (.ladd, 131, [])) (cond (Nat.beq pc 131) (some (.aload_n 0, 132, [])) (none)))) (cond (Nat.beq pc 125) (some (.iconst 1, 126, [])) (cond (Nat.beq pc 126) (some (.invokevirtual 43, 129, [])) (none))))) (cond (Nat.ble 118 pc) (cond (Nat.ble 120 pc) (cond (Nat.beq pc 120) (some (.ldc2_w 115, 123, [])) (cond (Nat.beq pc 123) (some (.aload_n 0, 124, [])) (cond (Nat.beq pc 124) (some (.iconst 0, 125, [])) (none)))) (cond (Nat.beq pc 118) (some (.lmul, 119, [])) (cond (Nat.beq pc 119) (some (.lsub, 120, [])) (none)))) (cond (Nat.ble 113 pc) (cond (Nat.beq pc 113) (some (.iconst 0, 114, [])) (cond (Nat.beq pc 114) (some (.iconst 2, 115, [])) (cond (Nat.beq pc 115) (some (.invokevirtual 43, 118, [])) (none)))) (cond (Nat.beq pc 109) (some (.ldc2_w 115, 112, [])) (cond (Nat.beq pc 112) (some (.aload_n 0, 113, [])) (none)))))) (cond (Nat.ble 95 pc) (cond (Nat.ble 102 pc) (cond (Nat.ble 104 pc) (cond (Nat.beq pc 104) (some (.iconst 0, 105, [])) (cond (Nat.beq pc 105) (some (.iconst 3, 106, [])) (cond (Nat.beq pc 106) (some (.invokevirtual 43, 109, [])) (none)))) (cond (Nat.beq pc 102) (some (.lreturn, 103, [])) (cond (Nat.beq pc 103) (some (.aload_n 0, 104, [])) (none)))) (cond (Nat.ble 97 pc) (cond (Nat.beq pc 97) (some (.invokevirtual 43, 100, [])) (cond (Nat.beq pc 100) (some (.ladd, 101, [])) (cond (Nat.beq pc 101) (some (.lmul, 102, [])) (none)))) (cond (Nat.beq pc 95) (some (.iconst 0, 96, [])) (cond (Nat.beq pc 96) (some (.iconst 0, 97, [])) (none))))) (cond (Nat.ble 88 pc) (cond (Nat.ble 92 pc) (cond (Nat.beq pc 92) (some (.lmul, 93, [])) (cond (Nat.beq pc 93) (some (.lsub, 94, [])) (cond (Nat.beq pc 94) (some (.aload_n 0, 95, [])) (none)))) (cond (Nat.beq pc 88) (some (.iconst 1, 89, [])) (cond (Nat.beq pc 89) (some (.invokevirtual 43, 92, [])) (none)))) (cond (Nat.ble 86 pc) (cond (Nat.beq pc 86) (some (.aload_n 0, 87, [])) (cond (Nat.beq pc 87) (some (.iconst 0, 88, [])) (none))) (cond (Nat.beq pc 80) (some (.invokevirtual 43, 83, [])) (cond (Nat.beq pc 83) (some (.ldc2_w 113, 86, [])) (none))))))) (cond (Nat.ble 51 pc) (cond (Nat.ble 64 pc) (cond (Nat.ble 75 pc) (cond (Nat.ble 77 pc) (cond (Nat.beq pc 77) (some (.aload_n 0, 78, [])) (cond (Nat.beq pc 78) (some (.iconst 0, 79, [])) (cond (Nat.beq pc 79) (some (.iconst 2, 80, [])) (none)))) (cond (Nat.beq pc 75) (some (.iconst 1, 76, [])) (cond (Nat.beq pc 76) (some (.i2l, 77, [])) (none)))) (cond (Nat.ble 68 pc) (cond (Nat.beq pc 68) (some (.if_icmp .ne 7, 71, [75])) (cond (Nat.beq pc 71) (some (.iconst 3, 72, [])) (cond (Nat.beq pc 72) (some (.goto 4, 75, [76])) (none)))) (cond (Nat.beq pc 64) (some (.getfield 31, 67, [])) (cond (Nat.beq pc 67) (some (.iconst 3, 68, [])) (none))))) (cond (Nat.ble 57 pc) (cond (Nat.ble 61 pc) (cond (Nat.beq pc 61) (some (.lmul, 62, [])) (cond (Nat.beq pc 62) (some (.lreturn, 63, [])) (cond (Nat.beq pc 63) (some (.aload_n 0, 64, [])) (none)))) (cond (Nat.beq pc 57) (some (.invokevirtual 43, 60, [])) (cond (Nat.beq pc 60) (some (.lsub, 61, [])) (none)))) (cond (Nat.ble 55 pc) (cond (Nat.beq pc 55) (some (.iconst 0, 56, [])) (cond (Nat.beq pc 56) (some (.iconst 0, 57, [])) (none))) (cond (Nat.beq pc 51) (some (.invokevirtual 43, 54, [])) (cond (Nat.beq pc 54) (some (.aload_n 0, 55, [])) (none)))))) (cond (Nat.ble 37 pc) (cond (Nat.ble 44 pc) (cond (Nat.ble 48 pc) (cond (Nat.beq pc 48) (some (.aload_n 0, 49, [])) (cond (Nat.beq pc 49) (some (.iconst 0, 50, [])) (cond (Nat.beq pc 50) (some (.iconst 1, 51, [])) (none)))) (cond (Nat.beq pc 44) (some (.getfield 31, 47, [])) (cond (Nat.beq pc 47) (some (.i2l, 48, [])) (none)))) (cond (Nat.ble 39 pc) (cond (Nat.beq pc 39) (some (.invokevirtual 43, 42, [])) (cond (Nat.beq pc 42) (some (.lreturn, 43, [])) (cond (Nat.beq pc 43) (some (.aload_n 0, 44, [])) (none)))) (cond (Nat.beq pc 37) (some (.iconst 0, 38, [])) (cond (Nat.beq pc 38) (some (.iconst 0, 39, [])) (none))))) (cond (Nat.ble 8 pc) (cond (Nat.ble 10 pc) (cond (Nat.beq pc 10) (some (.iload_n 1, 11, [])) (cond (Nat.beq pc 11) (some (.tableswitch 92 0 2 #[25, 32, 52], 36, [103, 36, 43, 63])) (cond (Nat.beq pc 36) (some (.aload_n 0, 37, [])) (none)))) (cond (Nat.beq pc 8) (some (.lconst 0, 9, [])) (cond (Nat.beq pc 9) (some (.lreturn, 10, [])) (none)))) (cond (Nat.ble 2 pc) (cond (Nat.beq pc 2) (some (.getfield 31, 5, [])) (cond (Nat.beq pc 5) (some (.if_icmp .le 5, 8, [10])) (none))) (cond (Nat.beq pc 0) (some (.iload_n 1, 1, [])) (cond (Nat.beq pc 1) (some (.aload_n 0, 2, [])) (none))))))))
theorem qkX5_power_ok : ∀ pc i nx ts, qkX5_power pc = some (i, nx, ts) → am_cok cX5_power pc (i, nx, ts) = true := fun pc i nx ts h => am_tok_ok (n := 139) (by decide +kernel) (fun pc h => by show cond (Nat.ble 139 pc) _ _ = _; rw [Nat.ble_eq_true_of_le h]; rfl) h
def qaX5_power : Nat → Option CE := fun k => cond (Nat.beq k 43) (some qeX5_number) (none)
theorem qyX5_power (l : Launch) : ∀ k e1, qaX5_power k = some e1 → am_cal l layX RX5 4 k e1 ∧ ceT e1 = 0 := q_cons ⟨am_calV (ci := 5) (qtX5_number l) qbX5_number (by decide) rfl (am_tb_at 964 (by decide +kernel) rfl), rfl⟩ (q_nil)
def qxX5_power : CX := (qkX5_power, layX, qfX5, qaX5_power, qcX5, qlX5, qmX5, (some .long), false, none, 0, none, fun _ => none)
theorem qzX5_power (l : Launch) : am_sta l qxX5_power RX5 4 cX5_power := ⟨qkX5_power_ok, layX_ok, qfX5_ok, qcX5_ok, qlX5_ok, am_mthP qmX5_ok (by decide), fun k e1 h => (qyX5_power l k e1 h).1⟩
def qsX5_power : SP := fun as F A K => match as with
  | [.inr (.inr o), .inl k] => cond (Nat.beq o 14) (((1 ≤ (F 14 4) ∧ (F 14 4) ≤ 3) ∧ 0 ≤ k ∧ k ≤ 3) ∧ (K (some (some (vL (powL (A 15) ((F 14 4)) k)))) F A)) (False)
  | _ => False
def qeX5_power : CE := (yX5_power, cX5_power, 2, (some .long), 1, some 5, 0, none, 0, 4, qsX5_power)
theorem qbX5_power : am_mb qeX5_power := ⟨am_tb_at 1185 (by decide +kernel) rfl, am_tb_at 40 (by decide +kernel) rfl, ⟨by decide, by decide, by decide +kernel⟩, by decide, am_tb_at 1184 (by decide +kernel) rfl, am_tb_at 32 (by decide +kernel) rfl, _, _, rfl⟩
set_option maxRecDepth 20000 in
theorem qvX5_power_14 (k : Int) (F : FF) (A : AA) (K : KK) (h : ((1 ≤ (F 14 4) ∧ (F 14 4) ≤ 3) ∧ 0 ≤ k ∧ k ≤ 3) ∧ (K (some (some (vL (powL (A 15) ((F 14 4)) k)))) F A)) : am_line qxX5_power 32 [vR 14, vI k] 2 F A K := by
  show am_stp qxX5_power (am_run qxX5_power (fun _ => none) (fun _ _ _ _ _ _ => False) K 32) K 0 [some (vR 14), some (vI k)] [] F A 0
  obtain ⟨hp, h⟩ := h
  show (w32 (F 14 4) < w32 k → (K (some (some (vL 0))) F A)) ∧ (¬ w32 (F 14 4) < w32 k → (((w32 k = 0 → ((0 ≤ 0 ∧ 0 ≤ 12 ∧ 0 ≤ 0 ∧ 0 < 4) ∧ (K (some (some (vL (A 15 (0 * 4 + 0))))) F A))) ∧ (w32 k = 0 + 1 → ((0 ≤ 0 ∧ 0 ≤ 12 ∧ 0 ≤ 1 ∧ 1 < 4) ∧ ((0 ≤ 0 ∧ 0 ≤ 12 ∧ 0 ≤ 0 ∧ 0 < 4) ∧ (K (some (some (vL ((w32 (F 14 4)) * ((A 15 (0 * 4 + 1)) - (A 15 (0 * 4 + 0))))))) F A)))) ∧ (w32 k = 0 + 1 + 1 → ((w32 (F 14 4) = w32 3 → ((0 ≤ 0 ∧ 0 ≤ 12 ∧ 0 ≤ 2 ∧ 2 < 4) ∧ ((0 ≤ 0 ∧ 0 ≤ 12 ∧ 0 ≤ 1 ∧ 1 < 4) ∧ ((0 ≤ 0 ∧ 0 ≤ 12 ∧ 0 ≤ 0 ∧ 0 < 4) ∧ (K (some (some (vL ((w32 3) * (((A 15 (0 * 4 + 2)) - (2 * (A 15 (0 * 4 + 1)))) + (A 15 (0 * 4 + 0))))))) F A))))) ∧ (¬ w32 (F 14 4) = w32 3 → ((0 ≤ 0 ∧ 0 ≤ 12 ∧ 0 ≤ 2 ∧ 2 < 4) ∧ ((0 ≤ 0 ∧ 0 ≤ 12 ∧ 0 ≤ 1 ∧ 1 < 4) ∧ ((0 ≤ 0 ∧ 0 ≤ 12 ∧ 0 ≤ 0 ∧ 0 < 4) ∧ (K (some (some (vL ((w32 1) * (((A 15 (0 * 4 + 2)) - (2 * (A 15 (0 * 4 + 1)))) + (A 15 (0 * 4 + 0))))))) F A))))))) ∧ True) ∧ (w32 k < 0 ∨ 2 < w32 k → ((0 ≤ 0 ∧ 0 ≤ 12 ∧ 0 ≤ 3 ∧ 3 < 4) ∧ ((0 ≤ 0 ∧ 0 ≤ 12 ∧ 0 ≤ 2 ∧ 2 < 4) ∧ ((0 ≤ 0 ∧ 0 ≤ 12 ∧ 0 ≤ 1 ∧ 1 < 4) ∧ ((0 ≤ 0 ∧ 0 ≤ 12 ∧ 0 ≤ 0 ∧ 0 < 4) ∧ (K (some (some (vL ((((A 15 (0 * 4 + 3)) - (3 * (A 15 (0 * 4 + 2)))) + (3 * (A 15 (0 * 4 + 1)))) - (A 15 (0 * 4 + 0)))))) F A))))))))
  refine ⟨fun c1 => ?_, fun c1 => ?_⟩
  · skip
    try simp (disch := omega) only [w32_0, w32_id] at c1
    refine L_eq h ?_
    unfold powL
    try simp (disch := omega) only [w32_id]
    first | (rw [if_pos (by omega)] <;> rfl) | (rw [if_neg (by omega), if_pos (by omega)] <;> rfl) | (rw [if_neg (by omega), if_neg (by omega), if_pos (by omega)] <;> rfl) | (rw [if_neg (by omega), if_neg (by omega), if_neg (by omega), if_pos (by omega), if_pos (by omega)] <;> rfl) | (rw [if_neg (by omega), if_neg (by omega), if_neg (by omega), if_pos (by omega), if_neg (by omega)] <;> rfl) | (rw [if_neg (by omega), if_neg (by omega), if_neg (by omega), if_neg (by omega)] <;> rfl)
  · skip
    try simp (disch := omega) only [w32_0, w32_id] at c1
    refine ⟨⟨fun c2 => ?_, fun c2 => ?_, fun c2 => ?_, trivial⟩, fun c2 => ?_⟩
    · skip
      try simp (disch := omega) only [w32_0, w32_id] at c2
      refine ⟨by first | omega | (simp (disch := omega) only [w32_0, w64_0, wbi0, wbi1, yc_eq0, yc_lt0, yc_gt0, Classical.not_not, w32_id, w64_id]; omega) | (simp (disch := omega) only [w32_0, w64_0, wbi0, wbi1, yc_eq0, yc_lt0, yc_gt0, Classical.not_not, w32_id, w64_id]; done), ?_⟩
      refine L_eq h ?_
      unfold powL
      try simp (disch := omega) only [w32_id]
      first | (rw [if_pos (by omega)] <;> rfl) | (rw [if_neg (by omega), if_pos (by omega)] <;> rfl) | (rw [if_neg (by omega), if_neg (by omega), if_pos (by omega)] <;> rfl) | (rw [if_neg (by omega), if_neg (by omega), if_neg (by omega), if_pos (by omega), if_pos (by omega)] <;> rfl) | (rw [if_neg (by omega), if_neg (by omega), if_neg (by omega), if_pos (by omega), if_neg (by omega)] <;> rfl) | (rw [if_neg (by omega), if_neg (by omega), if_neg (by omega), if_neg (by omega)] <;> rfl)
    · skip
      try simp (disch := omega) only [w32_0, w32_id] at c2
      refine ⟨by first | omega | (simp (disch := omega) only [w32_0, w64_0, wbi0, wbi1, yc_eq0, yc_lt0, yc_gt0, Classical.not_not, w32_id, w64_id]; omega) | (simp (disch := omega) only [w32_0, w64_0, wbi0, wbi1, yc_eq0, yc_lt0, yc_gt0, Classical.not_not, w32_id, w64_id]; done), ?_⟩
      refine ⟨by first | omega | (simp (disch := omega) only [w32_0, w64_0, wbi0, wbi1, yc_eq0, yc_lt0, yc_gt0, Classical.not_not, w32_id, w64_id]; omega) | (simp (disch := omega) only [w32_0, w64_0, wbi0, wbi1, yc_eq0, yc_lt0, yc_gt0, Classical.not_not, w32_id, w64_id]; done), ?_⟩
      refine L_eq h ?_
      unfold powL
      try simp (disch := omega) only [w32_id]
      first | (rw [if_pos (by omega)] <;> rfl) | (rw [if_neg (by omega), if_pos (by omega)] <;> rfl) | (rw [if_neg (by omega), if_neg (by omega), if_pos (by omega)] <;> rfl) | (rw [if_neg (by omega), if_neg (by omega), if_neg (by omega), if_pos (by omega), if_pos (by omega)] <;> rfl) | (rw [if_neg (by omega), if_neg (by omega), if_neg (by omega), if_pos (by omega), if_neg (by omega)] <;> rfl) | (rw [if_neg (by omega), if_neg (by omega), if_neg (by omega), if_neg (by omega)] <;> rfl)
    · skip
      try simp (disch := omega) only [w32_0, w32_id] at c2
      refine ⟨fun c3 => ?_, fun c3 => ?_⟩
      · skip
        try simp (disch := omega) only [w32_0, w32_id] at c3
        refine ⟨by first | omega | (simp (disch := omega) only [w32_0, w64_0, wbi0, wbi1, yc_eq0, yc_lt0, yc_gt0, Classical.not_not, w32_id, w64_id]; omega) | (simp (disch := omega) only [w32_0, w64_0, wbi0, wbi1, yc_eq0, yc_lt0, yc_gt0, Classical.not_not, w32_id, w64_id]; done), ?_⟩
        refine ⟨by first | omega | (simp (disch := omega) only [w32_0, w64_0, wbi0, wbi1, yc_eq0, yc_lt0, yc_gt0, Classical.not_not, w32_id, w64_id]; omega) | (simp (disch := omega) only [w32_0, w64_0, wbi0, wbi1, yc_eq0, yc_lt0, yc_gt0, Classical.not_not, w32_id, w64_id]; done), ?_⟩
        refine ⟨by first | omega | (simp (disch := omega) only [w32_0, w64_0, wbi0, wbi1, yc_eq0, yc_lt0, yc_gt0, Classical.not_not, w32_id, w64_id]; omega) | (simp (disch := omega) only [w32_0, w64_0, wbi0, wbi1, yc_eq0, yc_lt0, yc_gt0, Classical.not_not, w32_id, w64_id]; done), ?_⟩
        refine L_eq h ?_
        unfold powL
        try simp (disch := omega) only [w32_id]
        first | (rw [if_pos (by omega)] <;> rfl) | (rw [if_neg (by omega), if_pos (by omega)] <;> rfl) | (rw [if_neg (by omega), if_neg (by omega), if_pos (by omega)] <;> rfl) | (rw [if_neg (by omega), if_neg (by omega), if_neg (by omega), if_pos (by omega), if_pos (by omega)] <;> rfl) | (rw [if_neg (by omega), if_neg (by omega), if_neg (by omega), if_pos (by omega), if_neg (by omega)] <;> rfl) | (rw [if_neg (by omega), if_neg (by omega), if_neg (by omega), if_neg (by omega)] <;> rfl)
      · skip
        try simp (disch := omega) only [w32_0, w32_id] at c3
        refine ⟨by first | omega | (simp (disch := omega) only [w32_0, w64_0, wbi0, wbi1, yc_eq0, yc_lt0, yc_gt0, Classical.not_not, w32_id, w64_id]; omega) | (simp (disch := omega) only [w32_0, w64_0, wbi0, wbi1, yc_eq0, yc_lt0, yc_gt0, Classical.not_not, w32_id, w64_id]; done), ?_⟩
        refine ⟨by first | omega | (simp (disch := omega) only [w32_0, w64_0, wbi0, wbi1, yc_eq0, yc_lt0, yc_gt0, Classical.not_not, w32_id, w64_id]; omega) | (simp (disch := omega) only [w32_0, w64_0, wbi0, wbi1, yc_eq0, yc_lt0, yc_gt0, Classical.not_not, w32_id, w64_id]; done), ?_⟩
        refine ⟨by first | omega | (simp (disch := omega) only [w32_0, w64_0, wbi0, wbi1, yc_eq0, yc_lt0, yc_gt0, Classical.not_not, w32_id, w64_id]; omega) | (simp (disch := omega) only [w32_0, w64_0, wbi0, wbi1, yc_eq0, yc_lt0, yc_gt0, Classical.not_not, w32_id, w64_id]; done), ?_⟩
        refine L_eq h ?_
        unfold powL
        try simp (disch := omega) only [w32_id]
        first | (rw [if_pos (by omega)] <;> rfl) | (rw [if_neg (by omega), if_pos (by omega)] <;> rfl) | (rw [if_neg (by omega), if_neg (by omega), if_pos (by omega)] <;> rfl) | (rw [if_neg (by omega), if_neg (by omega), if_neg (by omega), if_pos (by omega), if_pos (by omega)] <;> rfl) | (rw [if_neg (by omega), if_neg (by omega), if_neg (by omega), if_pos (by omega), if_neg (by omega)] <;> rfl) | (rw [if_neg (by omega), if_neg (by omega), if_neg (by omega), if_neg (by omega)] <;> rfl)
    · skip
      try simp (disch := omega) only [w32_0, w32_id] at c2
      refine ⟨by first | omega | (simp (disch := omega) only [w32_0, w64_0, wbi0, wbi1, yc_eq0, yc_lt0, yc_gt0, Classical.not_not, w32_id, w64_id]; omega) | (simp (disch := omega) only [w32_0, w64_0, wbi0, wbi1, yc_eq0, yc_lt0, yc_gt0, Classical.not_not, w32_id, w64_id]; done), ?_⟩
      refine ⟨by first | omega | (simp (disch := omega) only [w32_0, w64_0, wbi0, wbi1, yc_eq0, yc_lt0, yc_gt0, Classical.not_not, w32_id, w64_id]; omega) | (simp (disch := omega) only [w32_0, w64_0, wbi0, wbi1, yc_eq0, yc_lt0, yc_gt0, Classical.not_not, w32_id, w64_id]; done), ?_⟩
      refine ⟨by first | omega | (simp (disch := omega) only [w32_0, w64_0, wbi0, wbi1, yc_eq0, yc_lt0, yc_gt0, Classical.not_not, w32_id, w64_id]; omega) | (simp (disch := omega) only [w32_0, w64_0, wbi0, wbi1, yc_eq0, yc_lt0, yc_gt0, Classical.not_not, w32_id, w64_id]; done), ?_⟩
      refine ⟨by first | omega | (simp (disch := omega) only [w32_0, w64_0, wbi0, wbi1, yc_eq0, yc_lt0, yc_gt0, Classical.not_not, w32_id, w64_id]; omega) | (simp (disch := omega) only [w32_0, w64_0, wbi0, wbi1, yc_eq0, yc_lt0, yc_gt0, Classical.not_not, w32_id, w64_id]; done), ?_⟩
      refine L_eq h ?_
      unfold powL
      try simp (disch := omega) only [w32_id]
      first | (rw [if_pos (by omega)] <;> rfl) | (rw [if_neg (by omega), if_pos (by omega)] <;> rfl) | (rw [if_neg (by omega), if_neg (by omega), if_pos (by omega)] <;> rfl) | (rw [if_neg (by omega), if_neg (by omega), if_neg (by omega), if_pos (by omega), if_pos (by omega)] <;> rfl) | (rw [if_neg (by omega), if_neg (by omega), if_neg (by omega), if_pos (by omega), if_neg (by omega)] <;> rfl) | (rw [if_neg (by omega), if_neg (by omega), if_neg (by omega), if_neg (by omega)] <;> rfl)
theorem qtX5_power (l : Launch) : am_CT l layX qeX5_power := am_met0 rfl (by decide +kernel) rfl rfl rfl rfl rfl (fun _ => rfl) rfl (qzX5_power l) (fun k e1 h => (qyX5_power l k e1 h).2) (fun as F A K h => by
  replace h : qsX5_power as F A K := h
  unfold qsX5_power at h
  split at h
  · rename_i o k
    refine ⟨by first | exact Nat.le_of_ble_eq_true rfl | simp [am_fl, am_cat], ?_⟩
    replace h := am_cond2 h
    rcases h with ⟨hb, h⟩ | h
    · skip
      have hb0 := hb
      have hb0 := am_bq hb0
      subst hb0
      exact am_way_line (qvX5_power_14 k F A K h)
    exact h.elim
  · exact h.elim)
def qkX5_isFraction : Nat → Option CI := fun pc => cond (Nat.ble 44 pc) none (cond (Nat.ble 22 pc) (cond (Nat.ble 33 pc) (cond (Nat.ble 38 pc) (cond (Nat.ble 42 pc) (cond (Nat.beq pc 42) (some (.iconst 0, 43, [])) (cond (Nat.beq pc 43) (some (.ireturn, 44, [])) (none))) (cond (Nat.beq pc 38) (some (.iconst 1, 39, [])) (cond (Nat.beq pc 39) (some (.goto 4, 42, [43])) (none)))) (cond (Nat.beq pc 33) (some (.lload_n 2, 34, [])) (cond (Nat.beq pc 34) (some (.lcmp, 35, [])) (cond (Nat.beq pc 35) (some (.ifCond .lt 7, 38, [42])) (none))))) (cond (Nat.ble 27 pc) (cond (Nat.ble 29 pc) (cond (Nat.beq pc 29) (some (.ifCond .gt 13, 32, [42])) (cond (Nat.beq pc 32) (some (.lload_n 0, 33, [])) (none))) (cond (Nat.beq pc 27) (some (.lconst 0, 28, [])) (cond (Nat.beq pc 28) (some (.lcmp, 29, [])) (none)))) (cond (Nat.beq pc 22) (some (.iconst 0, 23, [])) (cond (Nat.beq pc 23) (some (.goto 20, 26, [43])) (cond (Nat.beq pc 26) (some (.lload_n 0, 27, [])) (none)))))) (cond (Nat.ble 9 pc) (cond (Nat.ble 14 pc) (cond (Nat.ble 18 pc) (cond (Nat.beq pc 18) (some (.iconst 1, 19, [])) (cond (Nat.beq pc 19) (some (.goto 24, 22, [43])) (none))) (cond (Nat.beq pc 14) (some (.lcmp, 15, [])) (cond (Nat.beq pc 15) (some (.ifCond .gt 7, 18, [22])) (none)))) (cond (Nat.beq pc 9) (some (.ifCond .lt 13, 12, [22])) (cond (Nat.beq pc 12) (some (.lload_n 0, 13, [])) (cond (Nat.beq pc 13) (some (.lload_n 2, 14, [])) (none))))) (cond (Nat.ble 3 pc) (cond (Nat.ble 7 pc) (cond (Nat.beq pc 7) (some (.lconst 0, 8, [])) (cond (Nat.beq pc 8) (some (.lcmp, 9, [])) (none))) (cond (Nat.beq pc 3) (some (.ifCond .le 23, 6, [26])) (cond (Nat.beq pc 6) (some (.lload_n 0, 7, [])) (none)))) (cond (Nat.beq pc 0) (some (.lload_n 2, 1, [])) (cond (Nat.beq pc 1) (some (.lconst 0, 2, [])) (cond (Nat.beq pc 2) (some (.lcmp, 3, [])) (none)))))))
theorem qkX5_isFraction_ok : ∀ pc i nx ts, qkX5_isFraction pc = some (i, nx, ts) → am_cok cX5_isFraction pc (i, nx, ts) = true := fun pc i nx ts h => am_tok_ok (n := 44) (by decide +kernel) (fun pc h => by show cond (Nat.ble 44 pc) _ _ = _; rw [Nat.ble_eq_true_of_le h]; rfl) h
def qaX5_isFraction : Nat → Option CE := fun k => none
theorem qyX5_isFraction (l : Launch) : ∀ k e1, qaX5_isFraction k = some e1 → am_cal l layX RX5 3 k e1 ∧ ceT e1 = 0 := q_nil
def qxX5_isFraction : CX := (qkX5_isFraction, layX, qfX5, qaX5_isFraction, qcX5, qlX5, qmX5, (some .boolean), false, none, 0, none, fun _ => none)
theorem qzX5_isFraction (l : Launch) : am_sta l qxX5_isFraction RX5 3 cX5_isFraction := ⟨qkX5_isFraction_ok, layX_ok, qfX5_ok, qcX5_ok, qlX5_ok, am_mthP qmX5_ok (by decide), fun k e1 h => (qyX5_isFraction l k e1 h).1⟩
def qsX5_isFraction : SP := fun as F A K => match as with
  | [.inr (.inl a), .inr (.inl b)] => K (some (some (vI (bi (isFr (w64 a) (w64 b)))))) F A
  | _ => False
def qeX5_isFraction : CE := (yX5_isFraction, cX5_isFraction, 4, (some .boolean), 2, none, 0, none, 0, 3, qsX5_isFraction)
theorem qbX5_isFraction : am_mb qeX5_isFraction := ⟨am_tb_at 1196 (by decide +kernel) rfl, am_tb_at 40 (by decide +kernel) rfl, ⟨by decide, by decide, by decide +kernel⟩, by decide, am_tb_at 1195 (by decide +kernel) rfl⟩
set_option maxRecDepth 20000 in
theorem qvX5_isFraction (a : Int) (b : Int) (F : FF) (A : AA) (K : KK) (h : K (some (some (vI (bi (isFr (w64 a) (w64 b)))))) F A) : am_line qxX5_isFraction 16 [vL a, vL b] 4 F A K := by
  show am_stp qxX5_isFraction (am_run qxX5_isFraction (fun _ => none) (fun _ _ _ _ _ _ => False) K 16) K 0 [some (vL a), none, some (vL b), none] [] F A 0
  show (w32 0 < w32 (y_cmp b 0) → ((w32 (y_cmp a 0) < w32 0 → ((0 = 0 ∨ 0 = 1) ∧ (K (some (some (vI 0))) F A))) ∧ (¬ w32 (y_cmp a 0) < w32 0 → ((w32 0 < w32 (y_cmp a b) → ((0 = 0 ∨ 0 = 1) ∧ (K (some (some (vI 0))) F A))) ∧ (¬ w32 0 < w32 (y_cmp a b) → ((1 = 0 ∨ 1 = 1) ∧ (K (some (some (vI 1))) F A))))))) ∧ (¬ w32 0 < w32 (y_cmp b 0) → ((w32 0 < w32 (y_cmp a 0) → ((0 = 0 ∨ 0 = 1) ∧ (K (some (some (vI 0))) F A))) ∧ (¬ w32 0 < w32 (y_cmp a 0) → ((w32 (y_cmp a b) < w32 0 → ((0 = 0 ∨ 0 = 1) ∧ (K (some (some (vI 0))) F A))) ∧ (¬ w32 (y_cmp a b) < w32 0 → ((1 = 0 ∨ 1 = 1) ∧ (K (some (some (vI 1))) F A)))))))
  refine ⟨fun c1 => ?_, fun c1 => ?_⟩
  · skip
    (try simp (disch := omega) only [w64_0, w32_0, yc_eq0, yc_lt0, yc_gt0] at c1)
    refine ⟨fun c2 => ?_, fun c2 => ?_⟩
    · skip
      (try simp (disch := omega) only [w64_0, w32_0, yc_eq0, yc_lt0, yc_gt0] at c2)
      refine ⟨by first | exact Or.inl rfl | exact Or.inr rfl, ?_⟩
      first | exact K_eq h (bi_t (by unfold isFr; split <;> omega)) | exact K_eq h (bi_f (by unfold isFr; split <;> omega))
    · skip
      (try simp (disch := omega) only [w64_0, w32_0, yc_eq0, yc_lt0, yc_gt0] at c2)
      refine ⟨fun c3 => ?_, fun c3 => ?_⟩
      · skip
        (try simp (disch := omega) only [w64_0, w32_0, yc_eq0, yc_lt0, yc_gt0] at c3)
        refine ⟨by first | exact Or.inl rfl | exact Or.inr rfl, ?_⟩
        first | exact K_eq h (bi_t (by unfold isFr; split <;> omega)) | exact K_eq h (bi_f (by unfold isFr; split <;> omega))
      · skip
        (try simp (disch := omega) only [w64_0, w32_0, yc_eq0, yc_lt0, yc_gt0] at c3)
        refine ⟨by first | exact Or.inl rfl | exact Or.inr rfl, ?_⟩
        first | exact K_eq h (bi_t (by unfold isFr; split <;> omega)) | exact K_eq h (bi_f (by unfold isFr; split <;> omega))
  · skip
    (try simp (disch := omega) only [w64_0, w32_0, yc_eq0, yc_lt0, yc_gt0] at c1)
    refine ⟨fun c2 => ?_, fun c2 => ?_⟩
    · skip
      (try simp (disch := omega) only [w64_0, w32_0, yc_eq0, yc_lt0, yc_gt0] at c2)
      refine ⟨by first | exact Or.inl rfl | exact Or.inr rfl, ?_⟩
      first | exact K_eq h (bi_t (by unfold isFr; split <;> omega)) | exact K_eq h (bi_f (by unfold isFr; split <;> omega))
    · skip
      (try simp (disch := omega) only [w64_0, w32_0, yc_eq0, yc_lt0, yc_gt0] at c2)
      refine ⟨fun c3 => ?_, fun c3 => ?_⟩
      · skip
        (try simp (disch := omega) only [w64_0, w32_0, yc_eq0, yc_lt0, yc_gt0] at c3)
        refine ⟨by first | exact Or.inl rfl | exact Or.inr rfl, ?_⟩
        first | exact K_eq h (bi_t (by unfold isFr; split <;> omega)) | exact K_eq h (bi_f (by unfold isFr; split <;> omega))
      · skip
        (try simp (disch := omega) only [w64_0, w32_0, yc_eq0, yc_lt0, yc_gt0] at c3)
        refine ⟨by first | exact Or.inl rfl | exact Or.inr rfl, ?_⟩
        first | exact K_eq h (bi_t (by unfold isFr; split <;> omega)) | exact K_eq h (bi_f (by unfold isFr; split <;> omega))
theorem qtX5_isFraction (l : Launch) : am_CT l layX qeX5_isFraction := am_met0 rfl (by decide +kernel) rfl rfl rfl rfl rfl (fun _ => rfl) rfl (qzX5_isFraction l) (fun k e1 h => (qyX5_isFraction l k e1 h).2) (fun as F A K h => by
  replace h : qsX5_isFraction as F A K := h
  unfold qsX5_isFraction at h
  split at h
  · rename_i a b
    refine ⟨by first | exact Nat.le_of_ble_eq_true rfl | simp [am_fl, am_cat], ?_⟩
    exact am_way_line (qvX5_isFraction a b F A K h)
  · exact h.elim)
def qkX5_isQuadraticDouble : Nat → Option CI := fun pc => cond (Nat.ble 40 pc) none (cond (Nat.ble 17 pc) (cond (Nat.ble 27 pc) (cond (Nat.ble 34 pc) (cond (Nat.ble 38 pc) (cond (Nat.beq pc 38) (some (.iconst 0, 39, [])) (cond (Nat.beq pc 39) (some (.ireturn, 40, [])) (none))) (cond (Nat.beq pc 34) (some (.iconst 1, 35, [])) (cond (Nat.beq pc 35) (some (.goto 4, 38, [39])) (none)))) (cond (Nat.beq pc 27) (some (.lmul, 28, [])) (cond (Nat.beq pc 28) (some (.invokestatic 119, 31, [])) (cond (Nat.beq pc 31) (some (.ifCond .eq 7, 34, [38])) (none))))) (cond (Nat.ble 22 pc) (cond (Nat.beq pc 22) (some (.lneg, 23, [])) (cond (Nat.beq pc 23) (some (.ldc2_w 113, 26, [])) (cond (Nat.beq pc 26) (some (.lload_n 0, 27, [])) (none)))) (cond (Nat.beq pc 17) (some (.lcmp, 18, [])) (cond (Nat.beq pc 18) (some (.ifCond .ne 20, 21, [38])) (cond (Nat.beq pc 21) (some (.lload_n 2, 22, [])) (none)))))) (cond (Nat.ble 8 pc) (cond (Nat.ble 13 pc) (cond (Nat.beq pc 13) (some (.lmul, 14, [])) (cond (Nat.beq pc 14) (some (.lload 4, 16, [])) (cond (Nat.beq pc 16) (some (.lmul, 17, [])) (none)))) (cond (Nat.beq pc 8) (some (.lmul, 9, [])) (cond (Nat.beq pc 9) (some (.ldc2_w 117, 12, [])) (cond (Nat.beq pc 12) (some (.lload_n 0, 13, [])) (none))))) (cond (Nat.ble 3 pc) (cond (Nat.beq pc 3) (some (.ifCond .eq 35, 6, [38])) (cond (Nat.beq pc 6) (some (.lload_n 2, 7, [])) (cond (Nat.beq pc 7) (some (.lload_n 2, 8, [])) (none)))) (cond (Nat.beq pc 0) (some (.lload_n 0, 1, [])) (cond (Nat.beq pc 1) (some (.lconst 0, 2, [])) (cond (Nat.beq pc 2) (some (.lcmp, 3, [])) (none)))))))
theorem qkX5_isQuadraticDouble_ok : ∀ pc i nx ts, qkX5_isQuadraticDouble pc = some (i, nx, ts) → am_cok cX5_isQuadraticDouble pc (i, nx, ts) = true := fun pc i nx ts h => am_tok_ok (n := 40) (by decide +kernel) (fun pc h => by show cond (Nat.ble 40 pc) _ _ = _; rw [Nat.ble_eq_true_of_le h]; rfl) h
def qaX5_isQuadraticDouble : Nat → Option CE := fun k => cond (Nat.beq k 119) (some qeX5_isFraction) (none)
theorem qyX5_isQuadraticDouble (l : Launch) : ∀ k e1, qaX5_isQuadraticDouble k = some e1 → am_cal l layX RX5 4 k e1 ∧ ceT e1 = 0 := q_cons ⟨am_calS (qtX5_isFraction l) qbX5_isFraction (by decide) rfl (by decide) (am_tb_at 1194 (by decide +kernel) rfl), rfl⟩ (q_nil)
def qxX5_isQuadraticDouble : CX := (qkX5_isQuadraticDouble, layX, qfX5, qaX5_isQuadraticDouble, qcX5, qlX5, qmX5, (some .boolean), false, none, 0, none, fun _ => none)
theorem qzX5_isQuadraticDouble (l : Launch) : am_sta l qxX5_isQuadraticDouble RX5 4 cX5_isQuadraticDouble := ⟨qkX5_isQuadraticDouble_ok, layX_ok, qfX5_ok, qcX5_ok, qlX5_ok, am_mthP qmX5_ok (by decide), fun k e1 h => (qyX5_isQuadraticDouble l k e1 h).1⟩
def qsX5_isQuadraticDouble : SP := fun as F A K => match as with
  | [.inr (.inl a), .inr (.inl b), .inr (.inl c)] => K (some (some (vI (bi (w64 a ≠ 0 ∧ w64 (b * b) = w64 (4 * a * c) ∧ isFr (w64 (-b)) (w64 (2 * a))))))) F A
  | _ => False
def qeX5_isQuadraticDouble : CE := (yX5_isQuadraticDouble, cX5_isQuadraticDouble, 6, (some .boolean), 3, none, 0, none, 0, 4, qsX5_isQuadraticDouble)
theorem qbX5_isQuadraticDouble : am_mb qeX5_isQuadraticDouble := ⟨am_tb_at 1200 (by decide +kernel) rfl, am_tb_at 40 (by decide +kernel) rfl, ⟨by decide, by decide, by decide +kernel⟩, by decide, am_tb_at 1199 (by decide +kernel) rfl⟩
set_option maxRecDepth 20000 in
theorem qvX5_isQuadraticDouble (a : Int) (b : Int) (c : Int) (F : FF) (A : AA) (K : KK) (h : K (some (some (vI (bi (w64 a ≠ 0 ∧ w64 (b * b) = w64 (4 * a * c) ∧ isFr (w64 (-b)) (w64 (2 * a))))))) F A) : am_line qxX5_isQuadraticDouble 25 [vL a, vL b, vL c] 6 F A K := by
  show am_stp qxX5_isQuadraticDouble (am_run qxX5_isQuadraticDouble (fun _ => none) (fun _ _ _ _ _ _ => False) K 25) K 0 [some (vL a), none, some (vL b), none, some (vL c), none] [] F A 0
  show (w32 (y_cmp a 0) = w32 0 → ((0 = 0 ∨ 0 = 1) ∧ (K (some (some (vI 0))) F A))) ∧ (¬ w32 (y_cmp a 0) = w32 0 → ((w32 (y_cmp (b * b) ((4 * a) * c)) = w32 0 → ((w32 (bi (isFr (w64 (-b)) (w64 (2 * a)))) = w32 0 → ((0 = 0 ∨ 0 = 1) ∧ (K (some (some (vI 0))) F A))) ∧ (¬ w32 (bi (isFr (w64 (-b)) (w64 (2 * a)))) = w32 0 → ((1 = 0 ∨ 1 = 1) ∧ (K (some (some (vI 1))) F A))))) ∧ (¬ w32 (y_cmp (b * b) ((4 * a) * c)) = w32 0 → ((0 = 0 ∨ 0 = 1) ∧ (K (some (some (vI 0))) F A)))))
  refine ⟨fun c1 => ?_, fun c1 => ?_⟩
  · skip
    (try simp (disch := omega) only [w64_0, w32_0, wbi0, yc_eq0, yc_lt0, yc_gt0, Classical.not_not] at c1)
    refine ⟨by first | exact Or.inl rfl | exact Or.inr rfl | exact bi_01, ?_⟩
    first | exact h | exact K_eq h (bi_t (by simp_all)) | exact K_eq h (bi_f (by simp_all))
  · skip
    (try simp (disch := omega) only [w64_0, w32_0, wbi0, yc_eq0, yc_lt0, yc_gt0, Classical.not_not] at c1)
    refine ⟨fun c2 => ?_, fun c2 => ?_⟩
    · skip
      (try simp (disch := omega) only [w64_0, w32_0, wbi0, yc_eq0, yc_lt0, yc_gt0, Classical.not_not] at c2)
      refine ⟨fun c3 => ?_, fun c3 => ?_⟩
      · skip
        (try simp (disch := omega) only [w64_0, w32_0, wbi0, yc_eq0, yc_lt0, yc_gt0, Classical.not_not] at c3)
        refine ⟨by first | exact Or.inl rfl | exact Or.inr rfl | exact bi_01, ?_⟩
        first | exact h | exact K_eq h (bi_t (by simp_all)) | exact K_eq h (bi_f (by simp_all))
      · skip
        (try simp (disch := omega) only [w64_0, w32_0, wbi0, yc_eq0, yc_lt0, yc_gt0, Classical.not_not] at c3)
        refine ⟨by first | exact Or.inl rfl | exact Or.inr rfl | exact bi_01, ?_⟩
        first | exact h | exact K_eq h (bi_t (by simp_all)) | exact K_eq h (bi_f (by simp_all))
    · skip
      (try simp (disch := omega) only [w64_0, w32_0, wbi0, yc_eq0, yc_lt0, yc_gt0, Classical.not_not] at c2)
      refine ⟨by first | exact Or.inl rfl | exact Or.inr rfl | exact bi_01, ?_⟩
      first | exact h | exact K_eq h (bi_t (by simp_all)) | exact K_eq h (bi_f (by simp_all))
theorem qtX5_isQuadraticDouble (l : Launch) : am_CT l layX qeX5_isQuadraticDouble := am_met0 rfl (by decide +kernel) rfl rfl rfl rfl rfl (fun _ => rfl) rfl (qzX5_isQuadraticDouble l) (fun k e1 h => (qyX5_isQuadraticDouble l k e1 h).2) (fun as F A K h => by
  replace h : qsX5_isQuadraticDouble as F A K := h
  unfold qsX5_isQuadraticDouble at h
  split at h
  · rename_i a b c
    refine ⟨by first | exact Nat.le_of_ble_eq_true rfl | simp [am_fl, am_cat], ?_⟩
    exact am_way_line (qvX5_isQuadraticDouble a b c F A K h)
  · exact h.elim)
def qkX5_isCubicDouble : Nat → Option CI := fun pc => cond (Nat.ble 133 pc) none (cond (Nat.ble 61 pc) (cond (Nat.ble 93 pc) (cond (Nat.ble 114 pc) (cond (Nat.ble 122 pc) (cond (Nat.ble 128 pc) (cond (Nat.beq pc 128) (some (.lmul, 129, [])) (cond (Nat.beq pc 129) (some (.invokestatic 119, 132, [])) (cond (Nat.beq pc 132) (some (.ireturn, 133, [])) (none)))) (cond (Nat.beq pc 122) (some (.lsub, 123, [])) (cond (Nat.beq pc 123) (some (.ldc2_w 113, 126, [])) (cond (Nat.beq pc 126) (some (.lload 10, 128, [])) (none))))) (cond (Nat.ble 118 pc) (cond (Nat.beq pc 118) (some (.lload_n 2, 119, [])) (cond (Nat.beq pc 119) (some (.lload 4, 121, [])) (cond (Nat.beq pc 121) (some (.lmul, 122, [])) (none)))) (cond (Nat.beq pc 114) (some (.lmul, 115, [])) (cond (Nat.beq pc 115) (some (.lload 6, 117, [])) (cond (Nat.beq pc 117) (some (.lmul, 118, [])) (none)))))) (cond (Nat.ble 102 pc) (cond (Nat.ble 107 pc) (cond (Nat.beq pc 107) (some (.goto 25, 110, [132])) (cond (Nat.beq pc 110) (some (.ldc2_w 127, 113, [])) (cond (Nat.beq pc 113) (some (.lload_n 0, 114, [])) (none)))) (cond (Nat.beq pc 102) (some (.lload_n 0, 103, [])) (cond (Nat.beq pc 103) (some (.lmul, 104, [])) (cond (Nat.beq pc 104) (some (.invokestatic 119, 107, [])) (none))))) (cond (Nat.ble 97 pc) (cond (Nat.beq pc 97) (some (.lload_n 2, 98, [])) (cond (Nat.beq pc 98) (some (.lneg, 99, [])) (cond (Nat.beq pc 99) (some (.ldc2_w 115, 102, [])) (none)))) (cond (Nat.beq pc 93) (some (.lcmp, 94, [])) (cond (Nat.beq pc 94) (some (.ifCond .ne 16, 97, [110])) (none)))))) (cond (Nat.ble 77 pc) (cond (Nat.ble 84 pc) (cond (Nat.ble 88 pc) (cond (Nat.beq pc 88) (some (.lstore 10, 90, [])) (cond (Nat.beq pc 90) (some (.lload 10, 92, [])) (cond (Nat.beq pc 92) (some (.lconst 0, 93, [])) (none)))) (cond (Nat.beq pc 84) (some (.lload 4, 86, [])) (cond (Nat.beq pc 86) (some (.lmul, 87, [])) (cond (Nat.beq pc 87) (some (.lsub, 88, [])) (none))))) (cond (Nat.ble 79 pc) (cond (Nat.beq pc 79) (some (.ldc2_w 115, 82, [])) (cond (Nat.beq pc 82) (some (.lload_n 0, 83, [])) (cond (Nat.beq pc 83) (some (.lmul, 84, [])) (none)))) (cond (Nat.beq pc 77) (some (.lload_n 2, 78, [])) (cond (Nat.beq pc 78) (some (.lmul, 79, [])) (none))))) (cond (Nat.ble 69 pc) (cond (Nat.ble 74 pc) (cond (Nat.beq pc 74) (some (.iconst 0, 75, [])) (cond (Nat.beq pc 75) (some (.ireturn, 76, [])) (cond (Nat.beq pc 76) (some (.lload_n 2, 77, [])) (none)))) (cond (Nat.beq pc 69) (some (.lconst 0, 70, [])) (cond (Nat.beq pc 70) (some (.lcmp, 71, [])) (cond (Nat.beq pc 71) (some (.ifCond .eq 5, 74, [76])) (none))))) (cond (Nat.ble 64 pc) (cond (Nat.beq pc 64) (some (.lsub, 65, [])) (cond (Nat.beq pc 65) (some (.lstore 8, 67, [])) (cond (Nat.beq pc 67) (some (.lload 8, 69, [])) (none)))) (cond (Nat.beq pc 61) (some (.lload 6, 63, [])) (cond (Nat.beq pc 63) (some (.lmul, 64, [])) (none))))))) (cond (Nat.ble 29 pc) (cond (Nat.ble 46 pc) (cond (Nat.ble 54 pc) (cond (Nat.ble 57 pc) (cond (Nat.beq pc 57) (some (.lmul, 58, [])) (cond (Nat.beq pc 58) (some (.lload 6, 60, [])) (cond (Nat.beq pc 60) (some (.lmul, 61, [])) (none)))) (cond (Nat.beq pc 54) (some (.lload_n 0, 55, [])) (cond (Nat.beq pc 55) (some (.lmul, 56, [])) (cond (Nat.beq pc 56) (some (.lload_n 0, 57, [])) (none))))) (cond (Nat.ble 49 pc) (cond (Nat.beq pc 49) (some (.lmul, 50, [])) (cond (Nat.beq pc 50) (some (.lsub, 51, [])) (cond (Nat.beq pc 51) (some (.ldc2_w 125, 54, [])) (none)))) (cond (Nat.beq pc 46) (some (.lmul, 47, [])) (cond (Nat.beq pc 47) (some (.lload 4, 49, [])) (none))))) (cond (Nat.ble 36 pc) (cond (Nat.ble 41 pc) (cond (Nat.beq pc 41) (some (.lload 4, 43, [])) (cond (Nat.beq pc 43) (some (.lmul, 44, [])) (cond (Nat.beq pc 44) (some (.lload 4, 46, [])) (none)))) (cond (Nat.beq pc 36) (some (.ldc2_w 117, 39, [])) (cond (Nat.beq pc 39) (some (.lload_n 0, 40, [])) (cond (Nat.beq pc 40) (some (.lmul, 41, [])) (none))))) (cond (Nat.ble 32 pc) (cond (Nat.beq pc 32) (some (.lload 4, 34, [])) (cond (Nat.beq pc 34) (some (.lmul, 35, [])) (cond (Nat.beq pc 35) (some (.ladd, 36, [])) (none)))) (cond (Nat.beq pc 29) (some (.lload 4, 31, [])) (cond (Nat.beq pc 31) (some (.lmul, 32, [])) (none)))))) (cond (Nat.ble 17 pc) (cond (Nat.ble 22 pc) (cond (Nat.ble 26 pc) (cond (Nat.beq pc 26) (some (.lload_n 2, 27, [])) (cond (Nat.beq pc 27) (some (.lload_n 2, 28, [])) (cond (Nat.beq pc 28) (some (.lmul, 29, [])) (none)))) (cond (Nat.beq pc 22) (some (.lload 6, 24, [])) (cond (Nat.beq pc 24) (some (.lmul, 25, [])) (cond (Nat.beq pc 25) (some (.lsub, 26, [])) (none))))) (cond (Nat.ble 19 pc) (cond (Nat.beq pc 19) (some (.lmul, 20, [])) (cond (Nat.beq pc 20) (some (.lload_n 2, 21, [])) (cond (Nat.beq pc 21) (some (.lmul, 22, [])) (none)))) (cond (Nat.beq pc 17) (some (.lmul, 18, [])) (cond (Nat.beq pc 18) (some (.lload_n 2, 19, [])) (none))))) (cond (Nat.ble 7 pc) (cond (Nat.ble 12 pc) (cond (Nat.beq pc 12) (some (.lmul, 13, [])) (cond (Nat.beq pc 13) (some (.ldc2_w 117, 16, [])) (cond (Nat.beq pc 16) (some (.lload_n 2, 17, [])) (none)))) (cond (Nat.beq pc 7) (some (.lload 4, 9, [])) (cond (Nat.beq pc 9) (some (.lmul, 10, [])) (cond (Nat.beq pc 10) (some (.lload 6, 12, [])) (none))))) (cond (Nat.ble 4 pc) (cond (Nat.beq pc 4) (some (.lmul, 5, [])) (cond (Nat.beq pc 5) (some (.lload_n 2, 6, [])) (cond (Nat.beq pc 6) (some (.lmul, 7, [])) (none)))) (cond (Nat.beq pc 0) (some (.ldc2_w 123, 3, [])) (cond (Nat.beq pc 3) (some (.lload_n 0, 4, [])) (none))))))))
theorem qkX5_isCubicDouble_ok : ∀ pc i nx ts, qkX5_isCubicDouble pc = some (i, nx, ts) → am_cok cX5_isCubicDouble pc (i, nx, ts) = true := fun pc i nx ts h => am_tok_ok (n := 133) (by decide +kernel) (fun pc h => by show cond (Nat.ble 133 pc) _ _ = _; rw [Nat.ble_eq_true_of_le h]; rfl) h
def qaX5_isCubicDouble : Nat → Option CE := fun k => cond (Nat.beq k 119) (some qeX5_isFraction) (none)
theorem qyX5_isCubicDouble (l : Launch) : ∀ k e1, qaX5_isCubicDouble k = some e1 → am_cal l layX RX5 4 k e1 ∧ ceT e1 = 0 := q_cons ⟨am_calS (qtX5_isFraction l) qbX5_isFraction (by decide) rfl (by decide) (am_tb_at 1194 (by decide +kernel) rfl), rfl⟩ (q_nil)
def qxX5_isCubicDouble : CX := (qkX5_isCubicDouble, layX, qfX5, qaX5_isCubicDouble, qcX5, qlX5, qmX5, (some .boolean), false, none, 0, none, fun _ => none)
theorem qzX5_isCubicDouble (l : Launch) : am_sta l qxX5_isCubicDouble RX5 4 cX5_isCubicDouble := ⟨qkX5_isCubicDouble_ok, layX_ok, qfX5_ok, qcX5_ok, qlX5_ok, am_mthP qmX5_ok (by decide), fun k e1 h => (qyX5_isCubicDouble l k e1 h).1⟩
def qsX5_isCubicDouble : SP := fun as F A K => match as with
  | [.inr (.inl a), .inr (.inl b), .inr (.inl c), .inr (.inl d)] => K (some (some (vI (bi (cubP a b c d))))) F A
  | _ => False
def qeX5_isCubicDouble : CE := (yX5_isCubicDouble, cX5_isCubicDouble, 12, (some .boolean), 4, none, 0, none, 0, 4, qsX5_isCubicDouble)
theorem qbX5_isCubicDouble : am_mb qeX5_isCubicDouble := ⟨am_tb_at 1190 (by decide +kernel) rfl, am_tb_at 40 (by decide +kernel) rfl, ⟨by decide, by decide, by decide +kernel⟩, by decide, am_tb_at 1189 (by decide +kernel) rfl⟩
set_option maxRecDepth 20000 in
theorem qvX5_isCubicDouble (a : Int) (b : Int) (c : Int) (d : Int) (F : FF) (A : AA) (K : KK) (h : K (some (some (vI (bi (cubP a b c d))))) F A) : am_line qxX5_isCubicDouble 81 [vL a, vL b, vL c, vL d] 12 F A K := by
  show am_stp qxX5_isCubicDouble (am_run qxX5_isCubicDouble (fun _ => none) (fun _ _ _ _ _ _ => False) K 81) K 0 [some (vL a), none, some (vL b), none, some (vL c), none, some (vL d), none, none, none, none, none] [] F A 0
  show (w32 (y_cmp ((((((((18 * a) * b) * c) * d) - ((((4 * b) * b) * b) * d)) + (((b * b) * c) * c)) - ((((4 * a) * c) * c) * c)) - ((((27 * a) * a) * d) * d)) 0) = w32 0 → ((w32 (y_cmp ((b * b) - ((3 * a) * c)) 0) = w32 0 → (((bi (isFr (w64 (-b)) (w64 (3 * a)))) = 0 ∨ (bi (isFr (w64 (-b)) (w64 (3 * a)))) = 1) ∧ (K (some (some (vI (bi (isFr (w64 (-b)) (w64 (3 * a))))))) F A))) ∧ (¬ w32 (y_cmp ((b * b) - ((3 * a) * c)) 0) = w32 0 → (((bi (isFr (w64 (((9 * a) * d) - (b * c))) (w64 (2 * ((b * b) - ((3 * a) * c)))))) = 0 ∨ (bi (isFr (w64 (((9 * a) * d) - (b * c))) (w64 (2 * ((b * b) - ((3 * a) * c)))))) = 1) ∧ (K (some (some (vI (bi (isFr (w64 (((9 * a) * d) - (b * c))) (w64 (2 * ((b * b) - ((3 * a) * c))))))))) F A))))) ∧ (¬ w32 (y_cmp ((((((((18 * a) * b) * c) * d) - ((((4 * b) * b) * b) * d)) + (((b * b) * c) * c)) - ((((4 * a) * c) * c) * c)) - ((((27 * a) * a) * d) * d)) 0) = w32 0 → ((0 = 0 ∨ 0 = 1) ∧ (K (some (some (vI 0))) F A)))
  refine ⟨fun c1 => ?_, fun c1 => ?_⟩
  · skip
    (try simp (disch := omega) only [w64_0, w32_0, yc_eq0, yc_lt0, yc_gt0, Classical.not_not] at c1)
    refine ⟨fun c2 => ?_, fun c2 => ?_⟩
    · skip
      (try simp (disch := omega) only [w64_0, w32_0, yc_eq0, yc_lt0, yc_gt0, Classical.not_not] at c2)
      refine ⟨by first | exact Or.inl rfl | exact Or.inr rfl | exact bi_01, ?_⟩
      refine K_eq h (bi_c ?_)
      unfold cubP
      rw [if_pos c2]
      exact ⟨fun z => z.2, fun z => ⟨c1, z⟩⟩
    · skip
      (try simp (disch := omega) only [w64_0, w32_0, yc_eq0, yc_lt0, yc_gt0, Classical.not_not] at c2)
      refine ⟨by first | exact Or.inl rfl | exact Or.inr rfl | exact bi_01, ?_⟩
      refine K_eq h (bi_c ?_)
      unfold cubP
      rw [if_neg c2]
      exact ⟨fun z => z.2, fun z => ⟨c1, z⟩⟩
  · skip
    (try simp (disch := omega) only [w64_0, w32_0, yc_eq0, yc_lt0, yc_gt0, Classical.not_not] at c1)
    refine ⟨by first | exact Or.inl rfl | exact Or.inr rfl | exact bi_01, ?_⟩
    refine K_eq h (bi_f ?_)
    exact fun q => c1 q.1
theorem qtX5_isCubicDouble (l : Launch) : am_CT l layX qeX5_isCubicDouble := am_met0 rfl (by decide +kernel) rfl rfl rfl rfl rfl (fun _ => rfl) rfl (qzX5_isCubicDouble l) (fun k e1 h => (qyX5_isCubicDouble l k e1 h).2) (fun as F A K h => by
  replace h : qsX5_isCubicDouble as F A K := h
  unfold qsX5_isCubicDouble at h
  split at h
  · rename_i a b c d
    refine ⟨by first | exact Nat.le_of_ble_eq_true rfl | simp [am_fl, am_cat], ?_⟩
    exact am_way_line (qvX5_isCubicDouble a b c d F A K h)
  · exact h.elim)
def qkX5_hasDoubleRoot : Nat → Option CI := fun pc => cond (Nat.ble 52 pc) none (cond (Nat.ble 22 pc) (cond (Nat.ble 37 pc) (cond (Nat.ble 44 pc) (cond (Nat.ble 48 pc) (cond (Nat.beq pc 48) (some (.invokestatic 109, 51, [])) (cond (Nat.beq pc 51) (some (.ireturn, 52, [])) (none))) (cond (Nat.beq pc 44) (some (.iconst 0, 45, [])) (cond (Nat.beq pc 45) (some (.invokevirtual 101, 48, [])) (none)))) (cond (Nat.ble 41 pc) (cond (Nat.beq pc 41) (some (.lload 5, 43, [])) (cond (Nat.beq pc 43) (some (.aload_n 0, 44, [])) (none))) (cond (Nat.beq pc 37) (some (.goto 14, 40, [51])) (cond (Nat.beq pc 40) (some (.lload_n 3, 41, [])) (none))))) (cond (Nat.ble 29 pc) (cond (Nat.ble 31 pc) (cond (Nat.beq pc 31) (some (.invokevirtual 101, 34, [])) (cond (Nat.beq pc 34) (some (.invokestatic 105, 37, [])) (none))) (cond (Nat.beq pc 29) (some (.aload_n 0, 30, [])) (cond (Nat.beq pc 30) (some (.iconst 0, 31, [])) (none)))) (cond (Nat.ble 26 pc) (cond (Nat.beq pc 26) (some (.lload_n 3, 27, [])) (cond (Nat.beq pc 27) (some (.lload 5, 29, [])) (none))) (cond (Nat.beq pc 22) (some (.ifCond .eq 18, 25, [40])) (cond (Nat.beq pc 25) (some (.lload_n 1, 26, [])) (none)))))) (cond (Nat.ble 11 pc) (cond (Nat.ble 17 pc) (cond (Nat.ble 20 pc) (cond (Nat.beq pc 20) (some (.lconst 0, 21, [])) (cond (Nat.beq pc 21) (some (.lcmp, 22, [])) (none))) (cond (Nat.beq pc 17) (some (.lstore 5, 19, [])) (cond (Nat.beq pc 19) (some (.lload_n 1, 20, [])) (none)))) (cond (Nat.ble 13 pc) (cond (Nat.beq pc 13) (some (.iconst 1, 14, [])) (cond (Nat.beq pc 14) (some (.invokevirtual 101, 17, [])) (none))) (cond (Nat.beq pc 11) (some (.lstore_n 3, 12, [])) (cond (Nat.beq pc 12) (some (.aload_n 0, 13, [])) (none))))) (cond (Nat.ble 5 pc) (cond (Nat.ble 7 pc) (cond (Nat.beq pc 7) (some (.iconst 2, 8, [])) (cond (Nat.beq pc 8) (some (.invokevirtual 101, 11, [])) (none))) (cond (Nat.beq pc 5) (some (.lstore_n 1, 6, [])) (cond (Nat.beq pc 6) (some (.aload_n 0, 7, [])) (none)))) (cond (Nat.beq pc 0) (some (.aload_n 0, 1, [])) (cond (Nat.beq pc 1) (some (.iconst 3, 2, [])) (cond (Nat.beq pc 2) (some (.invokevirtual 101, 5, [])) (none)))))))
theorem qkX5_hasDoubleRoot_ok : ∀ pc i nx ts, qkX5_hasDoubleRoot pc = some (i, nx, ts) → am_cok cX5_hasDoubleRoot pc (i, nx, ts) = true := fun pc i nx ts h => am_tok_ok (n := 52) (by decide +kernel) (fun pc h => by show cond (Nat.ble 52 pc) _ _ = _; rw [Nat.ble_eq_true_of_le h]; rfl) h
def qaX5_hasDoubleRoot : Nat → Option CE := fun k => cond (Nat.beq k 101) (some qeX5_power) (cond (Nat.beq k 105) (some qeX5_isCubicDouble) (cond (Nat.beq k 109) (some qeX5_isQuadraticDouble) (none)))
theorem qyX5_hasDoubleRoot (l : Launch) : ∀ k e1, qaX5_hasDoubleRoot k = some e1 → am_cal l layX RX5 5 k e1 ∧ ceT e1 = 0 := q_cons ⟨am_calV (ci := 5) (qtX5_power l) qbX5_power (by decide) rfl (am_tb_at 1182 (by decide +kernel) rfl), rfl⟩ (q_cons ⟨am_calS (qtX5_isCubicDouble l) qbX5_isCubicDouble (by decide) rfl (by decide) (am_tb_at 1188 (by decide +kernel) rfl), rfl⟩ (q_cons ⟨am_calS (qtX5_isQuadraticDouble l) qbX5_isQuadraticDouble (by decide) rfl (by decide) (am_tb_at 1198 (by decide +kernel) rfl), rfl⟩ (q_nil)))
def qxX5_hasDoubleRoot : CX := (qkX5_hasDoubleRoot, layX, qfX5, qaX5_hasDoubleRoot, qcX5, qlX5, qmX5, (some .boolean), false, none, 0, none, fun _ => none)
theorem qzX5_hasDoubleRoot (l : Launch) : am_sta l qxX5_hasDoubleRoot RX5 5 cX5_hasDoubleRoot := ⟨qkX5_hasDoubleRoot_ok, layX_ok, qfX5_ok, qcX5_ok, qlX5_ok, am_mthP qmX5_ok (by decide), fun k e1 h => (qyX5_hasDoubleRoot l k e1 h).1⟩
def qsX5_hasDoubleRoot : SP := fun as F A K => match as with
  | [.inr (.inr o)] => cond (Nat.beq o 14) ((1 ≤ (F 14 4) ∧ (F 14 4) ≤ 3) ∧ (K (some (some (vI (bi (dblP (A 15) ((F 14 4))))))) F A)) (False)
  | _ => False
def qeX5_hasDoubleRoot : CE := (yX5_hasDoubleRoot, cX5_hasDoubleRoot, 7, (some .boolean), 0, some 5, 0, none, 0, 5, qsX5_hasDoubleRoot)
theorem qbX5_hasDoubleRoot : am_mb qeX5_hasDoubleRoot := ⟨am_tb_at 1181 (by decide +kernel) rfl, am_tb_at 40 (by decide +kernel) rfl, ⟨by decide, by decide, by decide +kernel⟩, by decide, am_tb_at 1179 (by decide +kernel) rfl, am_tb_at 1180 (by decide +kernel) rfl, _, _, rfl⟩
set_option maxRecDepth 20000 in
theorem qvX5_hasDoubleRoot_14  (F : FF) (A : AA) (K : KK) (h : (1 ≤ (F 14 4) ∧ (F 14 4) ≤ 3) ∧ (K (some (some (vI (bi (dblP (A 15) ((F 14 4))))))) F A)) : am_line qxX5_hasDoubleRoot 26 [vR 14] 7 F A K := by
  show am_stp qxX5_hasDoubleRoot (am_run qxX5_hasDoubleRoot (fun _ => none) (fun _ _ _ _ _ _ => False) K 26) K 0 [some (vR 14), none, none, none, none, none, none] [] F A 0
  obtain ⟨hp, h⟩ := h
  show ((1 ≤ (F 14 4) ∧ (F 14 4) ≤ 3) ∧ 0 ≤ 3 ∧ 3 ≤ 3) ∧ (((1 ≤ (F 14 4) ∧ (F 14 4) ≤ 3) ∧ 0 ≤ 2 ∧ 2 ≤ 3) ∧ (((1 ≤ (F 14 4) ∧ (F 14 4) ≤ 3) ∧ 0 ≤ 1 ∧ 1 ≤ 3) ∧ ((w32 (y_cmp (powL (A 15) ((F 14 4)) 3) 0) = w32 0 → (((1 ≤ (F 14 4) ∧ (F 14 4) ≤ 3) ∧ 0 ≤ 0 ∧ 0 ≤ 3) ∧ (((bi (w64 (powL (A 15) ((F 14 4)) 2) ≠ 0 ∧ w64 ((powL (A 15) ((F 14 4)) 1) * (powL (A 15) ((F 14 4)) 1)) = w64 (4 * (powL (A 15) ((F 14 4)) 2) * (powL (A 15) ((F 14 4)) 0)) ∧ isFr (w64 (-(powL (A 15) ((F 14 4)) 1))) (w64 (2 * (powL (A 15) ((F 14 4)) 2))))) = 0 ∨ (bi (w64 (powL (A 15) ((F 14 4)) 2) ≠ 0 ∧ w64 ((powL (A 15) ((F 14 4)) 1) * (powL (A 15) ((F 14 4)) 1)) = w64 (4 * (powL (A 15) ((F 14 4)) 2) * (powL (A 15) ((F 14 4)) 0)) ∧ isFr (w64 (-(powL (A 15) ((F 14 4)) 1))) (w64 (2 * (powL (A 15) ((F 14 4)) 2))))) = 1) ∧ (K (some (some (vI (bi (w64 (powL (A 15) ((F 14 4)) 2) ≠ 0 ∧ w64 ((powL (A 15) ((F 14 4)) 1) * (powL (A 15) ((F 14 4)) 1)) = w64 (4 * (powL (A 15) ((F 14 4)) 2) * (powL (A 15) ((F 14 4)) 0)) ∧ isFr (w64 (-(powL (A 15) ((F 14 4)) 1))) (w64 (2 * (powL (A 15) ((F 14 4)) 2)))))))) F A)))) ∧ (¬ w32 (y_cmp (powL (A 15) ((F 14 4)) 3) 0) = w32 0 → (((1 ≤ (F 14 4) ∧ (F 14 4) ≤ 3) ∧ 0 ≤ 0 ∧ 0 ≤ 3) ∧ (((bi (cubP (powL (A 15) ((F 14 4)) 3) (powL (A 15) ((F 14 4)) 2) (powL (A 15) ((F 14 4)) 1) (powL (A 15) ((F 14 4)) 0))) = 0 ∨ (bi (cubP (powL (A 15) ((F 14 4)) 3) (powL (A 15) ((F 14 4)) 2) (powL (A 15) ((F 14 4)) 1) (powL (A 15) ((F 14 4)) 0))) = 1) ∧ (K (some (some (vI (bi (cubP (powL (A 15) ((F 14 4)) 3) (powL (A 15) ((F 14 4)) 2) (powL (A 15) ((F 14 4)) 1) (powL (A 15) ((F 14 4)) 0)))))) F A)))))))
  refine ⟨by first | exact bi_01 | omega, ?_⟩
  refine ⟨by first | exact bi_01 | omega, ?_⟩
  refine ⟨by first | exact bi_01 | omega, ?_⟩
  refine ⟨fun c1 => ?_, fun c1 => ?_⟩
  · skip
    (try simp (disch := omega) only [w64_0, w32_0, yc_eq0, yc_lt0, yc_gt0, Classical.not_not] at c1)
    refine ⟨by first | exact bi_01 | omega, ?_⟩
    refine ⟨by first | exact bi_01 | omega, ?_⟩
    refine K_eq h (bi_c ?_)
    unfold dblP
    rw [if_neg (fun z : ¬ _ => z c1)]
  · skip
    (try simp (disch := omega) only [w64_0, w32_0, yc_eq0, yc_lt0, yc_gt0, Classical.not_not] at c1)
    refine ⟨by first | exact bi_01 | omega, ?_⟩
    refine ⟨by first | exact bi_01 | omega, ?_⟩
    refine K_eq h (bi_c ?_)
    unfold dblP
    rw [if_pos c1]
theorem qtX5_hasDoubleRoot (l : Launch) : am_CT l layX qeX5_hasDoubleRoot := am_met0 rfl (by decide +kernel) rfl rfl rfl rfl rfl (fun _ => rfl) rfl (qzX5_hasDoubleRoot l) (fun k e1 h => (qyX5_hasDoubleRoot l k e1 h).2) (fun as F A K h => by
  replace h : qsX5_hasDoubleRoot as F A K := h
  unfold qsX5_hasDoubleRoot at h
  split at h
  · rename_i o
    refine ⟨by first | exact Nat.le_of_ble_eq_true rfl | simp [am_fl, am_cat], ?_⟩
    replace h := am_cond2 h
    rcases h with ⟨hb, h⟩ | h
    · skip
      have hb0 := hb
      have hb0 := am_bq hb0
      subst hb0
      exact am_way_line (qvX5_hasDoubleRoot_14  F A K h)
    exact h.elim
  · exact h.elim)