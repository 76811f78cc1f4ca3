def qkX8_refined : Nat → Option CI := fun pc => cond (Nat.ble 63 pc) none (cond (Nat.ble 30 pc) (cond (Nat.ble 44 pc) (cond (Nat.ble 52 pc) (cond (Nat.ble 57 pc) (cond (Nat.beq pc 57) (some (.goto 5, 60, [62])) (cond (Nat.beq pc 60) (some (.bipush (-2), 62, [])) (cond (Nat.beq pc 62) (some (.ireturn, 63, [])) (none)))) (cond (Nat.beq pc 52) (some (.iload 4, 54, [])) (cond (Nat.beq pc 54) (some (.invokevirtual 235, 57, [])) (none)))) (cond (Nat.ble 48 pc) (cond (Nat.beq pc 48) (some (.getfield 43, 51, [])) (cond (Nat.beq pc 51) (some (.iload_n 3, 52, [])) (none))) (cond (Nat.beq pc 44) (some (.ifCond .eq 16, 47, [60])) (cond (Nat.beq pc 47) (some (.aload_n 0, 48, [])) (none))))) (cond (Nat.ble 36 pc) (cond (Nat.ble 39 pc) (cond (Nat.beq pc 39) (some (.bipush 12, 41, [])) (cond (Nat.beq pc 41) (some (.invokestatic 133, 44, [])) (none))) (cond (Nat.beq pc 36) (some (.iload 4, 38, [])) (cond (Nat.beq pc 38) (some (.iconst 0, 39, [])) (none)))) (cond (Nat.ble 34 pc) (cond (Nat.beq pc 34) (some (.iconst (-1), 35, [])) (cond (Nat.beq pc 35) (some (.ireturn, 36, [])) (none))) (cond (Nat.beq pc 30) (some (.iconst 2, 31, [])) (cond (Nat.beq pc 31) (some (.if_icmp .ne 5, 34, [36])) (none)))))) (cond (Nat.ble 12 pc) (cond (Nat.ble 20 pc) (cond (Nat.ble 24 pc) (cond (Nat.beq pc 24) (some (.iconst (-1), 25, [])) (cond (Nat.beq pc 25) (some (.if_icmp .eq 9, 28, [34])) (cond (Nat.beq pc 28) (some (.iload 5, 30, [])) (none)))) (cond (Nat.beq pc 20) (some (.istore 5, 22, [])) (cond (Nat.beq pc 22) (some (.iload 5, 24, [])) (none)))) (cond (Nat.ble 16 pc) (cond (Nat.beq pc 16) (some (.iload_n 3, 17, [])) (cond (Nat.beq pc 17) (some (.invokevirtual 226, 20, [])) (none))) (cond (Nat.beq pc 12) (some (.aload_n 0, 13, [])) (cond (Nat.beq pc 13) (some (.getfield 43, 16, [])) (none))))) (cond (Nat.ble 6 pc) (cond (Nat.ble 8 pc) (cond (Nat.beq pc 8) (some (.iload_n 2, 9, [])) (cond (Nat.beq pc 9) (some (.invokevirtual 216, 12, [])) (none))) (cond (Nat.beq pc 6) (some (.aload_n 0, 7, [])) (cond (Nat.beq pc 7) (some (.iload_n 1, 8, [])) (none)))) (cond (Nat.ble 2 pc) (cond (Nat.beq pc 2) (some (.iload_n 2, 3, [])) (cond (Nat.beq pc 3) (some (.invokevirtual 191, 6, [])) (none))) (cond (Nat.beq pc 0) (some (.aload_n 0, 1, [])) (cond (Nat.beq pc 1) (some (.iload_n 1, 2, [])) (none)))))))
theorem qkX8_refined_ok : ∀ pc i nx ts, qkX8_refined pc = some (i, nx, ts) → am_cok cX8_refined pc (i, nx, ts) = true := fun pc i nx ts h => am_tok_ok (n := 63) (by decide +kernel) (fun pc h => by show cond (Nat.ble 63 pc) _ _ = _; rw [Nat.ble_eq_true_of_le h]; rfl) h
def qaX8_refined : Nat → Option CE := fun k => cond (Nat.beq k 191) (some qeX8_requireCurveAndLine) (cond (Nat.beq k 216) (some qeX8_findRoots) (cond (Nat.beq k 226) (some qeX5_kindOf) (cond (Nat.beq k 133) (some qeX8_isWithin) (cond (Nat.beq k 235) (some qeX5_cellAtDepth) (none)))))
theorem qyX8_refined (l : Launch) (hst : l.stackTraces = false) : ∀ k e1, qaX8_refined k = some e1 → am_cal l layX RX8 21 k e1 ∧ True := q_cons ⟨am_calV (ci := 8) (qtX8_requireCurveAndLine l hst) qbX8_requireCurveAndLine (by decide) rfl (am_tb_at 1035 (by decide +kernel) rfl), trivial⟩ (q_cons ⟨am_calV (ci := 8) (qtX8_findRoots l) qbX8_findRoots (by decide) rfl (am_tb_at 577 (by decide +kernel) rfl), trivial⟩ (q_cons ⟨am_calV (ci := 5) (qtX5_kindOf l) qbX5_kindOf (by decide) rfl (am_tb_at 1096 (by decide +kernel) rfl), trivial⟩ (q_cons ⟨am_calS (qtX8_isWithin l) qbX8_isWithin (by decide) rfl (by decide) (am_tb_at 750 (by decide +kernel) rfl), trivial⟩ (q_cons ⟨am_calV (ci := 5) (qtX5_cellAtDepth l) qbX5_cellAtDepth (by decide) rfl (am_tb_at 1126 (by decide +kernel) rfl), trivial⟩ (q_nil)))))
def qxX8_refined : CX := (qkX8_refined, layX, qfX8, qaX8_refined, qcX8, qlX8, qmX8, (some .int), true, none, 2, none, fun _ => none)
theorem qzX8_refined (l : Launch) (hst : l.stackTraces = false) : am_sta l qxX8_refined RX8 21 cX8_refined := ⟨qkX8_refined_ok, layX_ok, qfX8_ok, qcX8_ok, qlX8_ok, am_mthP qmX8_ok (by decide), fun k e1 h => (qyX8_refined l hst k e1 h).1⟩
def qsX8_refined : SP := fun as F A K => match as with
  | [.inr (.inr o), .inl c, .inl l, .inl r, .inl d] => cond (Nat.beq o 0) ((fgOK (A 2) ∧ (-2147483648 ≤ c ∧ c < 2147483648) ∧ (-2147483648 ≤ l ∧ l < 2147483648) ∧ (-2147483648 ≤ r ∧ r < 2147483648) ∧ (-2147483648 ≤ d ∧ d < 2147483648) ∧ rtB (A 2)) ∧ (((0 ≤ c ∧ c < A 2 0) ∧ 0 ≤ l ∧ l < A 2 1 → (∀ (G_1 : FF) (B_1 : AA), (qrP F G_1 A B_1) → (K (some (some (vI (if (0 ≤ r ∧ r < ((rtsX (A 2) c l).length : Int)) ∧ ¬ (rtN (rtsX (A 2) c l) r).1 = 2 then (if 0 ≤ d ∧ d ≤ 12 then refP (A 2) c l (rtN (rtsX (A 2) c l) r) d else -2) else -1)))) G_1 B_1))) ∧ (¬ ((0 ≤ c ∧ c < A 2 0) ∧ 0 ≤ l ∧ l < A 2 1) → (K none F A)))) (False)
  | _ => False
def qeX8_refined : CE := (yX8_refined, cX8_refined, 6, (some .int), 4, some 8, 1, [], 2, 21, qsX8_refined)
theorem qbX8_refined : am_mb qeX8_refined := ⟨am_tb_at 1125 (by decide +kernel) rfl, am_tb_at 114 (by decide +kernel) rfl, ⟨by decide, by decide, by decide +kernel⟩, by decide, by decide, am_tb_at 1123 (by decide +kernel) rfl, am_tb_at 1124 (by decide +kernel) rfl, _, _, rfl⟩
set_option maxRecDepth 20000 in
theorem qvX8_refined_0 (c : Int) (l : Int) (r : Int) (d : Int) (F : FF) (A : AA) (K : KK) (h : (fgOK (A 2) ∧ (-2147483648 ≤ c ∧ c < 2147483648) ∧ (-2147483648 ≤ l ∧ l < 2147483648) ∧ (-2147483648 ≤ r ∧ r < 2147483648) ∧ (-2147483648 ≤ d ∧ d < 2147483648) ∧ rtB (A 2)) ∧ (((0 ≤ c ∧ c < A 2 0) ∧ 0 ≤ l ∧ l < A 2 1 → (∀ (G_1 : FF) (B_1 : AA), (qrP F G_1 A B_1) → (K (some (some (vI (if (0 ≤ r ∧ r < ((rtsX (A 2) c l).length : Int)) ∧ ¬ (rtN (rtsX (A 2) c l) r).1 = 2 then (if 0 ≤ d ∧ d ≤ 12 then refP (A 2) c l (rtN (rtsX (A 2) c l) r) d else -2) else -1)))) G_1 B_1))) ∧ (¬ ((0 ≤ c ∧ c < A 2 0) ∧ 0 ≤ l ∧ l < A 2 1) → (K none F A)))) : am_line qxX8_refined 32 [vR 0, vI c, vI l, vI r, vI d] 6 F A K := by
  show am_stp qxX8_refined (am_run qxX8_refined (fun _ => none) (fun _ _ _ _ _ _ => False) K 32) K 0 [some (vR 0), some (vI c), some (vI l), some (vI r), some (vI d), none] [] F A 0
  obtain ⟨hp, h⟩ := h
  have p1 := hp.1
  have p2' := hp.2
  have q1 := p1.1.1
  have q2 := p1.1.2
  show ((0 ≤ A 2 0 ∧ A 2 0 ≤ 8) ∧ (0 ≤ A 2 1 ∧ A 2 1 ≤ 6) ∧ (-2147483648 ≤ c ∧ c < 2147483648) ∧ (-2147483648 ≤ l ∧ l < 2147483648)) ∧ (((0 ≤ c ∧ c < A 2 0) ∧ 0 ≤ l ∧ l < A 2 1 → ((fgOK (A 2) ∧ (0 ≤ c ∧ c < A 2 0) ∧ (0 ≤ l ∧ l < A 2 1) ∧ ((rtsX (A 2) c l).length : Int) ≤ 8) ∧ (∀ (G_1 : FF) (B_1 : AA), (qrP F G_1 A B_1 ∧ rcP G_1 B_1 (A 2) c l (rtsX (A 2) c l)) → ((0 ≤ (G_1 14 5) ∧ (G_1 14 5) ≤ 8) ∧ ((w32 (if 0 ≤ w32 r ∧ w32 r < (G_1 14 5) then B_1 16 (w32 r) else -1) = w32 (-1) → (K (some (some (vI (-1)))) G_1 B_1)) ∧ (¬ (w32 (if 0 ≤ w32 r ∧ w32 r < (G_1 14 5) then B_1 16 (w32 r) else -1) = w32 (-1)) → ((w32 (if 0 ≤ w32 r ∧ w32 r < (G_1 14 5) then B_1 16 (w32 r) else -1) = w32 2 → (K (some (some (vI (-1)))) G_1 B_1)) ∧ (¬ (w32 (if 0 ≤ w32 r ∧ w32 r < (G_1 14 5) then B_1 16 (w32 r) else -1) = w32 2) → ((w32 (bi (w32 0 ≤ w32 d ∧ w32 d ≤ w32 12)) = w32 0 → (K (some (some (vI (-2)))) G_1 B_1)) ∧ (¬ (w32 (bi (w32 0 ≤ w32 d ∧ w32 d ≤ w32 12)) = w32 0) → (((0 ≤ (G_1 14 4) ∧ (G_1 14 4) ≤ 3) ∧ (0 ≤ (G_1 14 5) ∧ (G_1 14 5) ≤ 8) ∧ (0 ≤ r ∧ r < (G_1 14 5)) ∧ (0 ≤ B_1 17 r ∧ B_1 17 r ≤ 12) ∧ (0 ≤ B_1 18 r ∧ B_1 18 r ≤ p2 (B_1 17 r)) ∧ (0 ≤ B_1 16 r ∧ B_1 16 r ≤ 2) ∧ 0 ≤ d ∧ d ≤ 12) ∧ (∀ (B_2 : AA), (∀ b i, b ≠ 15 ∨ i < 4 → B_2 b i = B_1 b i) → (K (some (some (vI (if d ≤ B_1 17 r then B_1 18 r / p2 (B_1 17 r - d) else if B_1 16 r = 0 then B_1 18 r * p2 (d - B_1 17 r) else fol ((G_1 14 4)) (Int.toNat (d - B_1 17 r)) (cellF (B_1 15) ((G_1 14 4)) (Int.toNat (B_1 17 r)) (B_1 18 r)) (B_1 18 r))))) G_1 B_2))))))))))))) ∧ (¬ ((0 ≤ c ∧ c < A 2 0) ∧ 0 ≤ l ∧ l < A 2 1) → (K none F A)))
  refine ⟨by exact ⟨p1.1.1, p1.1.2, hp.2.1, hp.2.2.1⟩, ?_⟩
  refine ⟨fun c1 => ?_, fun c1 => ?_⟩
  · skip
    (try simp (disch := omega) only [w32_0, wbi0, Classical.not_not, w32_id] at c1)
    refine ⟨by exact ⟨p1, c1.1, c1.2, hp.2.2.2.2.2 c l c1.1.1 c1.1.2 c1.2.1 c1.2.2⟩, ?_⟩
    intro G_1 B_1 g1
    have q4 := p1.2.1.1
    have q3 := (p1.2.2.1 c c1.1.1 c1.1.2).1
    have q5 := hp.2.2.2.2.2 c l c1.1.1 c1.1.2 c1.2.1 c1.2.2
    have gl := g1.2.2.1
    have gr := fun r0 r1 => rts_get (k := r) g1.2.2.2.1 r0 r1
    have rb := fun r0 r1 => rtN_b (f := A 2) (c := c) (l := l) (r := r) (by omega) r0 r1
    have kE : (if 0 ≤ w32 r ∧ w32 r < G_1 14 5 then B_1 16 (w32 r) else -1) = (if 0 ≤ r ∧ r < ((rtsX (A 2) c l).length : Int) then (rtN (rtsX (A 2) c l) r).1 else -1) := by
      rw [gl, w32_id (x := r) (by omega) (by omega)]
      split
      · rename_i hk; exact (gr hk.1 hk.2).1
      · rfl
    rw [kE]
    generalize hkd : (if 0 ≤ r ∧ r < ((rtsX (A 2) c l).length : Int) then (rtN (rtsX (A 2) c l) r).1 else -1) = kd
    have hk1 : -1 ≤ kd ∧ kd ≤ 2 ∧ (kd = -1 ↔ ¬ (0 ≤ r ∧ r < ((rtsX (A 2) c l).length : Int))) ∧ (¬ kd = -1 → kd = (rtN (rtsX (A 2) c l) r).1) := by
      rw [← hkd]
      split
      · rename_i hk; have := (rb hk.1 hk.2).1; omega
      · omega
    refine ⟨by first | (rw [g1.2.2.1]; omega) | (have hk := Classical.not_not.mp (fun z => (show ¬ kd = -1 by omega) (hk1.2.2.1.mpr z)); have rbb := rb hk.1 hk.2; obtain ⟨r1, r2, r3⟩ := gr hk.1 hk.2; rw [g1.2.1, gl, r1, r2, r3]; unfold rtN at rbb; exact ⟨by omega, by omega, by omega, by omega, by omega, by omega, by omega, by omega⟩), ?_⟩
    refine ⟨fun c2 => ?_, fun c2 => ?_⟩
    · skip
      (try simp (disch := omega) only [w32_0, wbi0, Classical.not_not, w32_id] at c2)
      first
      | exact K_eq (h.1 c1 _ _ g1.1) (if_neg (by omega))
      | (refine K_eq (h.1 c1 _ _ g1.1) ?_; rw [if_pos (by omega), if_neg (by omega)]; done)
      | (have hk := Classical.not_not.mp (fun z => (show ¬ kd = -1 by omega) (hk1.2.2.1.mpr z))
         obtain ⟨r1, r2, r3⟩ := gr hk.1 hk.2
         have rbb := rb hk.1 hk.2
         refine K_eq (h.1 c1 _ _ (qrP_trans g1.1 (qrP_of (fun _ _ _ => rfl) (fun b i hb => g2 b i (Or.inl (by omega)))))) ?_
         rw [if_pos (by omega), if_pos (by omega), g1.2.1, r1, r2, r3]
         unfold refP rtN cfL
         rw [fol_c (by omega) _ _ (fun i i0 i1 => cellF_c (fun j j0 j1 => (g1.2.2.2.2 j j0 (by omega)).symm) _ _ _ i0 i1)])
    · skip
      (try simp (disch := omega) only [w32_0, wbi0, Classical.not_not, w32_id] at c2)
      refine ⟨fun c3 => ?_, fun c3 => ?_⟩
      · skip
        (try simp (disch := omega) only [w32_0, wbi0, Classical.not_not, w32_id] at c3)
        first
        | exact K_eq (h.1 c1 _ _ g1.1) (if_neg (by omega))
        | (refine K_eq (h.1 c1 _ _ g1.1) ?_; rw [if_pos (by omega), if_neg (by omega)]; done)
        | (have hk := Classical.not_not.mp (fun z => (show ¬ kd = -1 by omega) (hk1.2.2.1.mpr z))
           obtain ⟨r1, r2, r3⟩ := gr hk.1 hk.2
           have rbb := rb hk.1 hk.2
           refine K_eq (h.1 c1 _ _ (qrP_trans g1.1 (qrP_of (fun _ _ _ => rfl) (fun b i hb => g2 b i (Or.inl (by omega)))))) ?_
           rw [if_pos (by omega), if_pos (by omega), g1.2.1, r1, r2, r3]
           unfold refP rtN cfL
           rw [fol_c (by omega) _ _ (fun i i0 i1 => cellF_c (fun j j0 j1 => (g1.2.2.2.2 j j0 (by omega)).symm) _ _ _ i0 i1)])
      · skip
        (try simp (disch := omega) only [w32_0, wbi0, Classical.not_not, w32_id] at c3)
        refine ⟨fun c4 => ?_, fun c4 => ?_⟩
        · skip
          (try simp (disch := omega) only [w32_0, wbi0, Classical.not_not, w32_id] at c4)
          first
          | exact K_eq (h.1 c1 _ _ g1.1) (if_neg (by omega))
          | (refine K_eq (h.1 c1 _ _ g1.1) ?_; rw [if_pos (by omega), if_neg (by omega)]; done)
          | (have hk := Classical.not_not.mp (fun z => (show ¬ kd = -1 by omega) (hk1.2.2.1.mpr z))
             obtain ⟨r1, r2, r3⟩ := gr hk.1 hk.2
             have rbb := rb hk.1 hk.2
             refine K_eq (h.1 c1 _ _ (qrP_trans g1.1 (qrP_of (fun _ _ _ => rfl) (fun b i hb => g2 b i (Or.inl (by omega)))))) ?_
             rw [if_pos (by omega), if_pos (by omega), g1.2.1, r1, r2, r3]
             unfold refP rtN cfL
             rw [fol_c (by omega) _ _ (fun i i0 i1 => cellF_c (fun j j0 j1 => (g1.2.2.2.2 j j0 (by omega)).symm) _ _ _ i0 i1)])
        · skip
          (try simp (disch := omega) only [w32_0, wbi0, Classical.not_not, w32_id] at c4)
          refine ⟨by first | (rw [g1.2.2.1]; omega) | (have hk := Classical.not_not.mp (fun z => (show ¬ kd = -1 by omega) (hk1.2.2.1.mpr z)); have rbb := rb hk.1 hk.2; obtain ⟨r1, r2, r3⟩ := gr hk.1 hk.2; rw [g1.2.1, gl, r1, r2, r3]; unfold rtN at rbb; exact ⟨by omega, by omega, by omega, by omega, by omega, by omega, by omega, by omega⟩), ?_⟩
          intro B_2 g2
          first
          | exact K_eq (h.1 c1 _ _ g1.1) (if_neg (by omega))
          | (refine K_eq (h.1 c1 _ _ g1.1) ?_; rw [if_pos (by omega), if_neg (by omega)]; done)
          | (have hk := Classical.not_not.mp (fun z => (show ¬ kd = -1 by omega) (hk1.2.2.1.mpr z))
             obtain ⟨r1, r2, r3⟩ := gr hk.1 hk.2
             have rbb := rb hk.1 hk.2
             refine K_eq (h.1 c1 _ _ (qrP_trans g1.1 (qrP_of (fun _ _ _ => rfl) (fun b i hb => g2 b i (Or.inl (by omega)))))) ?_
             rw [if_pos (by omega), if_pos (by omega), g1.2.1, r1, r2, r3]
             unfold refP rtN cfL
             rw [fol_c (by omega) _ _ (fun i i0 i1 => cellF_c (fun j j0 j1 => (g1.2.2.2.2 j j0 (by omega)).symm) _ _ _ i0 i1)])
  · skip
    (try simp (disch := omega) only [w32_0, wbi0, Classical.not_not, w32_id] at c1)
    exact h.2 c1
theorem qtX8_refined (l : Launch) (hst : l.stackTraces = false) : am_CT l layX qeX8_refined := am_met1 hst rfl (by decide +kernel) rfl rfl rfl rfl rfl (fun _ _ h => by cases h) rfl (qzX8_refined l hst) (fun as F A K h => by
  replace h : qsX8_refined as F A K := h
  unfold qsX8_refined at h
  split at h
  · rename_i o c l r d
    refine ⟨by first | exact Nat.le_of_ble_eq_true rfl | simp [am_fl, am_cat], ?_⟩
    replace h := am_cond2 h
    rcases h with ⟨hb, h⟩ | h
    · skip
      have hb0 := hb
      have hb0 := am_bq hb0
      subst hb0
      exact am_way_line (qvX8_refined_0 c l r d F A K h)
    exact h.elim
  · exact h.elim)
