def qkX8_lastLeft : Nat → Option CI := fun pc => cond (Nat.ble 57 pc) none (cond (Nat.ble 22 pc) (cond (Nat.ble 37 pc) (cond (Nat.ble 48 pc) (cond (Nat.ble 52 pc) (cond (Nat.beq pc 52) (some (.goto (-32), 55, [20])) (cond (Nat.beq pc 55) (some (.iconst (-1), 56, [])) (cond (Nat.beq pc 56) (some (.ireturn, 57, [])) (none)))) (cond (Nat.beq pc 48) (some (.ireturn, 49, [])) (cond (Nat.beq pc 49) (some (.iinc 4 (-1), 52, [])) (none)))) (cond (Nat.ble 43 pc) (cond (Nat.beq pc 43) (some (.ifCond .ne 6, 46, [49])) (cond (Nat.beq pc 46) (some (.iload 4, 48, [])) (none))) (cond (Nat.beq pc 37) (some (.invokestatic 157, 40, [])) (cond (Nat.beq pc 40) (some (.invokevirtual 269, 43, [])) (none))))) (cond (Nat.ble 30 pc) (cond (Nat.ble 34 pc) (cond (Nat.beq pc 34) (some (.iload_n 3, 35, [])) (cond (Nat.beq pc 35) (some (.iload 4, 37, [])) (none))) (cond (Nat.beq pc 30) (some (.getfield 36, 33, [])) (cond (Nat.beq pc 33) (some (.iload_n 1, 34, [])) (none)))) (cond (Nat.ble 26 pc) (cond (Nat.beq pc 26) (some (.getfield 64, 29, [])) (cond (Nat.beq pc 29) (some (.aload_n 0, 30, [])) (none))) (cond (Nat.beq pc 22) (some (.ifCond .lt 33, 25, [55])) (cond (Nat.beq pc 25) (some (.aload_n 0, 26, [])) (none)))))) (cond (Nat.ble 12 pc) (cond (Nat.ble 16 pc) (cond (Nat.ble 18 pc) (cond (Nat.beq pc 18) (some (.istore 4, 20, [])) (cond (Nat.beq pc 20) (some (.iload 4, 22, [])) (none))) (cond (Nat.beq pc 16) (some (.iconst 1, 17, [])) (cond (Nat.beq pc 17) (some (.isub, 18, [])) (none)))) (cond (Nat.ble 14 pc) (cond (Nat.beq pc 14) (some (.iload_n 3, 15, [])) (cond (Nat.beq pc 15) (some (.ishl, 16, [])) (none))) (cond (Nat.beq pc 12) (some (.istore_n 3, 13, [])) (cond (Nat.beq pc 13) (some (.iconst 1, 14, [])) (none))))) (cond (Nat.ble 6 pc) (cond (Nat.ble 8 pc) (cond (Nat.beq pc 8) (some (.iload_n 2, 9, [])) (cond (Nat.beq pc 9) (some (.invokevirtual 266, 12, [])) (none))) (cond (Nat.beq pc 6) (some (.aload_n 0, 7, [])) (cond (Nat.beq pc 7) (some (.iload_n 1, 8, [])) (none)))) (cond (Nat.ble 2 pc) (cond (Nat.beq pc 2) (some (.iload_n 2, 3, [])) (cond (Nat.beq pc 3) (some (.invokevirtual 263, 6, [])) (none))) (cond (Nat.beq pc 0) (some (.aload_n 0, 1, [])) (cond (Nat.beq pc 1) (some (.iload_n 1, 2, [])) (none)))))))
theorem qkX8_lastLeft_ok : ∀ pc i nx ts, qkX8_lastLeft pc = some (i, nx, ts) → am_cok cX8_lastLeft pc (i, nx, ts) = true := fun pc i nx ts h => am_tok_ok (n := 57) (by decide +kernel) (fun pc h => by show cond (Nat.ble 57 pc) _ _ = _; rw [Nat.ble_eq_true_of_le h]; rfl) h
def qaX8_lastLeft : Nat → Option CE := fun k => cond (Nat.beq k 263) (some qeX8_requireCurves) (cond (Nat.beq k 266) (some qeX8_prepareClipping) (cond (Nat.beq k 157) (some qeX8_nodeOf) (cond (Nat.beq k 269) (some qeX0_clips) (none))))
theorem qyX8_lastLeft (l : Launch) (hst : l.stackTraces = false) : ∀ k e1, qaX8_lastLeft k = some e1 → am_cal l layX RX8 11 k e1 ∧ True := q_cons ⟨am_calV (ci := 8) (qtX8_requireCurves l hst) qbX8_requireCurves (by decide) rfl (am_tb_at 1222 (by decide +kernel) rfl), trivial⟩ (q_cons ⟨am_calV (ci := 8) (qtX8_prepareClipping l) qbX8_prepareClipping (by decide) rfl (am_tb_at 1226 (by decide +kernel) rfl), trivial⟩ (q_cons ⟨am_calS (qtX8_nodeOf l) qbX8_nodeOf (by decide) rfl (by decide) (am_tb_at 941 (by decide +kernel) rfl), trivial⟩ (q_cons ⟨am_calV (ci := 0) (qtX0_clips l) qbX0_clips (by decide) rfl (am_tb_at 1230 (by decide +kernel) rfl), trivial⟩ (q_nil))))
def qxX8_lastLeft : CX := (qkX8_lastLeft, layX, qfX8, qaX8_lastLeft, qcX8, qlX8, qmX8, (some .int), true, none, 2, none, fun _ => none)
theorem qzX8_lastLeft (l : Launch) (hst : l.stackTraces = false) : am_sta l qxX8_lastLeft RX8 11 cX8_lastLeft := ⟨qkX8_lastLeft_ok, layX_ok, qfX8_ok, qcX8_ok, qlX8_ok, am_mthP qmX8_ok (by decide), fun k e1 h => (qyX8_lastLeft l hst k e1 h).1⟩
def qsX8_lastLeft : SP := fun as F A K => match as with
  | [.inr (.inr o), .inl c, .inl e] => cond (Nat.beq o 0) ((fgOK (A 2) ∧ (-2147483648 ≤ c ∧ c < 2147483648) ∧ (-2147483648 ≤ e ∧ e < 2147483648) ∧ caAll A) ∧ (((0 ≤ c ∧ c < A 2 0) ∧ 0 ≤ e ∧ e < A 2 0 → (∀ (G_1 : FF) (B_1 : AA), (qrP F G_1 A B_1 ∧ bnP G_1 (A 2) e ∧ grQ A B_1 c (A 2 3)) → (K (some (some (vI (lasI (fun jj => ¬ clP G_1 B_1 c (p2 (A 2 3) - 1 + jj) (B_1 12 c)) (Int.toNat (p2 (A 2 3))))))) G_1 B_1))) ∧ (¬ ((0 ≤ c ∧ c < A 2 0) ∧ 0 ≤ e ∧ e < A 2 0) → (K none F A)))) (False)
  | _ => False
def qeX8_lastLeft : CE := (yX8_lastLeft, cX8_lastLeft, 5, (some .int), 2, some 8, 1, [], 2, 11, qsX8_lastLeft)
theorem qbX8_lastLeft : am_mb qeX8_lastLeft := ⟨am_tb_at 1242 (by decide +kernel) rfl, am_tb_at 114 (by decide +kernel) rfl, ⟨by decide, by decide, by decide +kernel⟩, by decide, by decide, am_tb_at 1240 (by decide +kernel) rfl, am_tb_at 1241 (by decide +kernel) rfl, _, _, rfl⟩
def qnX8_lastLeft_0 : CUT := fun pc => cond (Nat.beq pc 20) (some [true, true, true, true, true]) (none)
def qiX8_lastLeft_0 (c : Int) (e : Int) (F0 : FF) (A0 : AA) : REC := fun pc ls st F A u => cond (Nat.beq pc 20) (match ls, st, u with
    | [some (.inr (.inr s0)), some (.inl s1), some (.inl s2), some (.inl w), some (.inl k)], [], 2 => s0 = 0 ∧ s1 = c ∧ s2 = e ∧ (((0 ≤ c ∧ c < A0 2 0) ∧ 0 ≤ e ∧ e < A0 2 0) ∧ w = A0 2 3 ∧ (-1 ≤ k ∧ k < p2 w) ∧ ((∀ a b, a ≠ 24 → F a b = F0 a b) ∧ bnP F (A0 2) e ∧ grQ A0 A c w) ∧ lasI (fun jj => ¬ clP F A c (p2 w - 1 + jj) (A 12 c)) (Int.toNat (k + 1)) = lasI (fun jj => ¬ clP F A c (p2 w - 1 + jj) (A 12 c)) (Int.toNat (p2 w)))
    | _, _, _ => False) (False)
def quX8_lastLeft_0 : Nat → LVs → List AV → FF → AA → Nat := fun pc ls _ F A => cond (Nat.beq pc 20) (match ls with
    | [some (.inr (.inr s0)), some (.inl s1), some (.inl s2), some (.inl w), some (.inl k)] => Int.toNat (k + 1)
    | _ => 0) (0)
set_option maxRecDepth 20000 in
theorem qvX8_lastLeft_0_0 (c : Int) (e : Int) (F0 : FF) (A0 : AA) (K : KK) (h : (fgOK (A0 2) ∧ (-2147483648 ≤ c ∧ c < 2147483648) ∧ (-2147483648 ≤ e ∧ e < 2147483648) ∧ caAll A0) ∧ (((0 ≤ c ∧ c < A0 2 0) ∧ 0 ≤ e ∧ e < A0 2 0 → (∀ (G_1 : FF) (B_1 : AA), (qrP F0 G_1 A0 B_1 ∧ bnP G_1 (A0 2) e ∧ grQ A0 B_1 c (A0 2 3)) → (K (some (some (vI (lasI (fun jj => ¬ clP G_1 B_1 c (p2 (A0 2 3) - 1 + jj) (B_1 12 c)) (Int.toNat (p2 (A0 2 3))))))) G_1 B_1))) ∧ (¬ ((0 ≤ c ∧ c < A0 2 0) ∧ 0 ≤ e ∧ e < A0 2 0) → (K none F0 A0)))) : am_stp qxX8_lastLeft (am_run qxX8_lastLeft qnX8_lastLeft_0 (qiX8_lastLeft_0 c e F0 A0) K 18) K 0 (am_ent [vR 0, vI c, vI e] 5) [] F0 A0 0 := by
  show am_stp qxX8_lastLeft (am_run qxX8_lastLeft qnX8_lastLeft_0 (qiX8_lastLeft_0 c e F0 A0) K 18) K 0 [some (vR 0), some (vI c), some (vI e), none, none] [] F0 A0 0
  obtain ⟨hp, h⟩ := h
  have p1 := hp.1
  have q1 := p1.1.1
  have q2 := p1.1.2
  have q5 := p1.2.1.2
  show ((0 ≤ A0 2 0 ∧ A0 2 0 ≤ 8) ∧ (0 ≤ A0 2 1 ∧ A0 2 1 ≤ 6) ∧ (-2147483648 ≤ c ∧ c < 2147483648) ∧ (-2147483648 ≤ e ∧ e < 2147483648)) ∧ (((0 ≤ c ∧ c < A0 2 0) ∧ 0 ≤ e ∧ e < A0 2 0 → ((fgOK (A0 2) ∧ (0 ≤ c ∧ c < A0 2 0) ∧ (0 ≤ e ∧ e < A0 2 0) ∧ caAll A0) ∧ (∀ (G_1 : FF) (B_1 : AA), ((∀ a b, a ≠ 24 → G_1 a b = F0 a b) ∧ bnP G_1 (A0 2) e ∧ grQ A0 B_1 c (A0 2 3)) → (0 = 0 ∧ c = c ∧ e = e ∧ (((0 ≤ c ∧ c < A0 2 0) ∧ 0 ≤ e ∧ e < A0 2 0) ∧ (A0 2 3) = A0 2 3 ∧ (-1 ≤ ((x_shl 1 (A0 2 3)) - 1) ∧ ((x_shl 1 (A0 2 3)) - 1) < p2 (A0 2 3)) ∧ ((∀ a b, a ≠ 24 → G_1 a b = F0 a b) ∧ bnP G_1 (A0 2) e ∧ grQ A0 B_1 c (A0 2 3)) ∧ lasI (fun jj => ¬ clP G_1 B_1 c (p2 (A0 2 3) - 1 + jj) (B_1 12 c)) (Int.toNat (((x_shl 1 (A0 2 3)) - 1) + 1)) = lasI (fun jj => ¬ clP G_1 B_1 c (p2 (A0 2 3) - 1 + jj) (B_1 12 c)) (Int.toNat (p2 (A0 2 3)))))))) ∧ (¬ ((0 ≤ c ∧ c < A0 2 0) ∧ 0 ≤ e ∧ e < A0 2 0) → (K none F0 A0)))
  refine ⟨by exact ⟨p1.1.1, p1.1.2, hp.2.1, hp.2.2.1⟩, ?_⟩
  refine ⟨fun c1 => ?_, fun c1 => ?_⟩
  · skip
    skip
    refine ⟨by exact ⟨p1, c1.1, c1.2, hp.2.2.2⟩, ?_⟩
    intro G_1 B_1 g1
    refine ⟨rfl, rfl, rfl, ?_⟩
    have P7 : 1 ≤ p2 (A0 2 3) := p2_pos
    rw [x_shl1 (by omega) (by omega)]
    exact ⟨c1, rfl, ⟨by omega, by omega⟩, g1, by rw [Int.sub_add_cancel]⟩
  · skip
    skip
    exact h.2 c1
set_option maxRecDepth 20000 in
theorem qvX8_lastLeft_0_20 (c : Int) (e : Int) (F0 : FF) (A0 : AA) (K : KK) (h : (fgOK (A0 2) ∧ (-2147483648 ≤ c ∧ c < 2147483648) ∧ (-2147483648 ≤ e ∧ e < 2147483648) ∧ caAll A0) ∧ (((0 ≤ c ∧ c < A0 2 0) ∧ 0 ≤ e ∧ e < A0 2 0 → (∀ (G_1 : FF) (B_1 : AA), (qrP F0 G_1 A0 B_1 ∧ bnP G_1 (A0 2) e ∧ grQ A0 B_1 c (A0 2 3)) → (K (some (some (vI (lasI (fun jj => ¬ clP G_1 B_1 c (p2 (A0 2 3) - 1 + jj) (B_1 12 c)) (Int.toNat (p2 (A0 2 3))))))) G_1 B_1))) ∧ (¬ ((0 ≤ c ∧ c < A0 2 0) ∧ 0 ≤ e ∧ e < A0 2 0) → (K none F0 A0)))) (w : Int) (k : Int) (F : FF) (A : AA) (hi : ((0 ≤ c ∧ c < A0 2 0) ∧ 0 ≤ e ∧ e < A0 2 0) ∧ w = A0 2 3 ∧ (-1 ≤ k ∧ k < p2 w) ∧ ((∀ a b, a ≠ 24 → F a b = F0 a b) ∧ bnP F (A0 2) e ∧ grQ A0 A c w) ∧ lasI (fun jj => ¬ clP F A c (p2 w - 1 + jj) (A 12 c)) (Int.toNat (k + 1)) = lasI (fun jj => ¬ clP F A c (p2 w - 1 + jj) (A 12 c)) (Int.toNat (p2 w))) : am_stp qxX8_lastLeft (am_run qxX8_lastLeft qnX8_lastLeft_0 (fun pc ls st F A u => qiX8_lastLeft_0 c e F0 A0 pc ls st F A u ∧ quX8_lastLeft_0 pc ls st F A < quX8_lastLeft_0 20 [some (vR 0), some (vI c), some (vI e), some (vI w), some (vI k)] [] F A) K 18) K 20 [some (vR 0), some (vI c), some (vI e), some (vI w), some (vI k)] [] F A 2 := by
  obtain ⟨hp, h⟩ := h
  have p1 := hp.1
  have q1 := p1.1.1
  have q2 := p1.1.2
  have q5 := p1.2.1.2
  obtain ⟨h1, hw, h2, hQ, h4⟩ := hi
  have P6 : 1 ≤ p2 w ∧ p2 w ≤ 64 := ⟨p2_pos, by have := p2_le (show w ≤ 6 by omega); rwa [p2_6] at this⟩
  have ca := hQ.2.2.2.1.1
  have q6 : qrP F0 F A0 A := qrP_gr hQ.1 hQ.2.2
  show (w32 k < w32 0 → (K (some (some (vI (-1)))) F A)) ∧ (¬ w32 k < w32 0 → ((0 ≤ c ∧ c < 8 ∧ 0 ≤ (x_shl 1 w - 1 + k) ∧ (x_shl 1 w - 1 + k) < 127 ∧ 0 ≤ A 12 c ∧ A 12 c ≤ 3) ∧ ((w32 (bc (clP F A c (x_shl 1 w - 1 + k) (A 12 c))) = w32 0 → (K (some (some (vI k))) F A)) ∧ (¬ w32 (bc (clP F A c (x_shl 1 w - 1 + k) (A 12 c))) = w32 0 → ((0 = 0 ∧ c = c ∧ e = e ∧ (((0 ≤ c ∧ c < A0 2 0) ∧ 0 ≤ e ∧ e < A0 2 0) ∧ w = A0 2 3 ∧ (-1 ≤ (k + (-1)) ∧ (k + (-1)) < p2 w) ∧ ((∀ a b, a ≠ 24 → F a b = F0 a b) ∧ bnP F (A0 2) e ∧ grQ A0 A c w) ∧ lasI (fun jj => ¬ clP F A c (p2 w - 1 + jj) (A 12 c)) (Int.toNat ((k + (-1)) + 1)) = lasI (fun jj => ¬ clP F A c (p2 w - 1 + jj) (A 12 c)) (Int.toNat (p2 w)))) ∧ (Int.toNat ((k + (-1)) + 1)) < (Int.toNat (k + 1)))))))
  refine ⟨fun c1 => ?_, fun c1 => ?_⟩
  · skip
    (try simp (disch := omega) only [x_shl1, w32_0, wbc0, Classical.not_not, w32_id] at c1)
    refine K_eq (h.1 h1 _ _ ⟨q6, hQ.2.1, hw ▸ hQ.2.2⟩) ?_
    rw [← hw, ← h4]
    first | exact lasI_0 (by omega) | exact lasI_t (by omega) c2
  · skip
    (try simp (disch := omega) only [x_shl1, w32_0, wbc0, Classical.not_not, w32_id] at c1)
    refine ⟨by (first | omega | (simp (disch := omega) only [x_shl1]; omega) | (simp (disch := omega) only [x_shl1]; exact ⟨by omega, by omega, by omega, by omega, by omega, by omega⟩)), ?_⟩
    refine ⟨fun c2 => ?_, fun c2 => ?_⟩
    · skip
      (try simp (disch := omega) only [x_shl1, w32_0, wbc0, Classical.not_not, w32_id] at c2)
      refine K_eq (h.1 h1 _ _ ⟨q6, hQ.2.1, hw ▸ hQ.2.2⟩) ?_
      rw [← hw, ← h4]
      first | exact lasI_0 (by omega) | exact lasI_t (by omega) c2
    · skip
      (try simp (disch := omega) only [x_shl1, w32_0, wbc0, Classical.not_not, w32_id] at c2)
      refine ⟨⟨rfl, rfl, rfl, ?_⟩, by omega⟩
      refine ⟨h1, hw, by omega, hQ, ?_⟩
      rw [← h4]; first | exact (lasI_f (by omega) (fun z => z c2)).symm | (refine Eq.trans ?_ (lasI_f (by omega) (fun z => z c2)).symm; rw [show k - 1 + 1 = k by omega]) | (refine Eq.trans ?_ (lasI_f (by omega) (fun z => z c2)).symm; rw [show k + -1 + 1 = k by omega])
set_option maxRecDepth 20000 in
theorem qvX8_lastLeft_0 (c : Int) (e : Int) (F0 : FF) (A0 : AA) (K : KK) (h : (fgOK (A0 2) ∧ (-2147483648 ≤ c ∧ c < 2147483648) ∧ (-2147483648 ≤ e ∧ e < 2147483648) ∧ caAll A0) ∧ (((0 ≤ c ∧ c < A0 2 0) ∧ 0 ≤ e ∧ e < A0 2 0 → (∀ (G_1 : FF) (B_1 : AA), (qrP F0 G_1 A0 B_1 ∧ bnP G_1 (A0 2) e ∧ grQ A0 B_1 c (A0 2 3)) → (K (some (some (vI (lasI (fun jj => ¬ clP G_1 B_1 c (p2 (A0 2 3) - 1 + jj) (B_1 12 c)) (Int.toNat (p2 (A0 2 3))))))) G_1 B_1))) ∧ (¬ ((0 ≤ c ∧ c < A0 2 0) ∧ 0 ≤ e ∧ e < A0 2 0) → (K none F0 A0)))) : am_body qxX8_lastLeft qnX8_lastLeft_0 18 (qiX8_lastLeft_0 c e F0 A0) quX8_lastLeft_0 [vR 0, vI c, vI e] 5 F0 A0 K := by
  refine ⟨qvX8_lastLeft_0_0 c e F0 A0 K h, fun pc ls st F A u hI => ?_⟩
  unfold qiX8_lastLeft_0 at hI
  replace hI := am_cond2 hI
  rcases hI with ⟨hb, hI⟩ | hI
  · have hb := am_bq hb
    subst hb
    split at hI
    · rename_i s0 s1 s2 w k
      obtain ⟨e0, e1, e2, hI⟩ := hI
      subst e0
      subst e1
      subst e2
      exact qvX8_lastLeft_0_20 _ _ _ _ K h _ _ _ _ hI
    · exact hI.elim
  exact hI.elim
theorem qtX8_lastLeft (l : Launch) (hst : l.stackTraces = false) : am_CT l layX qeX8_lastLeft := am_met1 hst rfl (by decide +kernel) rfl rfl rfl rfl rfl (fun _ _ h => by cases h) rfl (qzX8_lastLeft l hst) (fun as F A K h => by
  replace h : qsX8_lastLeft as F A K := h
  unfold qsX8_lastLeft at h
  split at h
  · rename_i o c e
    refine ⟨by first | exact Nat.le_of_ble_eq_true rfl | simp [am_fl, am_cat], ?_⟩
    replace h := am_cond2 h
    rcases h with ⟨hb, h⟩ | h
    · skip
      have hb0 := hb
      have hb0 := am_bq hb0
      subst hb0
      exact am_way_body (qvX8_lastLeft_0 c e F A K h)
    exact h.elim
  · exact h.elim)
