def qkX7_read : Nat → Option CI := fun pc => cond (Nat.ble 66 pc) none (cond (Nat.ble 32 pc) (cond (Nat.ble 47 pc) (cond (Nat.ble 56 pc) (cond (Nat.ble 60 pc) (cond (Nat.beq pc 60) (some (.goto (-35), 63, [25])) (cond (Nat.beq pc 63) (some (.bipush (-11), 65, [])) (cond (Nat.beq pc 65) (some (.ireturn, 66, [])) (none)))) (cond (Nat.beq pc 56) (some (.ireturn, 57, [])) (cond (Nat.beq pc 57) (some (.iinc 3 1, 60, [])) (none)))) (cond (Nat.ble 51 pc) (cond (Nat.beq pc 51) (some (.ifCond .eq 6, 54, [57])) (cond (Nat.beq pc 54) (some (.iload 4, 56, [])) (none))) (cond (Nat.beq pc 47) (some (.istore 4, 49, [])) (cond (Nat.beq pc 49) (some (.iload 4, 51, [])) (none))))) (cond (Nat.ble 40 pc) (cond (Nat.ble 42 pc) (cond (Nat.beq pc 42) (some (.aload_n 0, 43, [])) (cond (Nat.beq pc 43) (some (.aload_n 2, 44, [])) (cond (Nat.beq pc 44) (some (.invokevirtual 42, 47, [])) (none)))) (cond (Nat.beq pc 40) (some (.iload_n 3, 41, [])) (cond (Nat.beq pc 41) (some (.ireturn, 42, [])) (none)))) (cond (Nat.ble 36 pc) (cond (Nat.beq pc 36) (some (.iconst 5, 37, [])) (cond (Nat.beq pc 37) (some (.if_icmp .ne 5, 40, [42])) (none))) (cond (Nat.beq pc 32) (some (.aload_n 0, 33, [])) (cond (Nat.beq pc 33) (some (.getfield 39, 36, [])) (none)))))) (cond (Nat.ble 15 pc) (cond (Nat.ble 23 pc) (cond (Nat.ble 25 pc) (cond (Nat.beq pc 25) (some (.iload_n 3, 26, [])) (cond (Nat.beq pc 26) (some (.sipush 800, 29, [])) (cond (Nat.beq pc 29) (some (.if_icmp .gt 34, 32, [63])) (none)))) (cond (Nat.beq pc 23) (some (.iconst 0, 24, [])) (cond (Nat.beq pc 24) (some (.istore_n 3, 25, [])) (none)))) (cond (Nat.ble 19 pc) (cond (Nat.beq pc 19) (some (.aload_n 0, 20, [])) (cond (Nat.beq pc 20) (some (.invokevirtual 36, 23, [])) (none))) (cond (Nat.beq pc 15) (some (.aload_n 2, 16, [])) (cond (Nat.beq pc 16) (some (.invokevirtual 31, 19, [])) (none))))) (cond (Nat.ble 6 pc) (cond (Nat.ble 10 pc) (cond (Nat.beq pc 10) (some (.aload_n 0, 11, [])) (cond (Nat.beq pc 11) (some (.iconst 0, 12, [])) (cond (Nat.beq pc 12) (some (.putfield 28, 15, [])) (none)))) (cond (Nat.beq pc 6) (some (.iconst 0, 7, [])) (cond (Nat.beq pc 7) (some (.putfield 25, 10, [])) (none)))) (cond (Nat.ble 2 pc) (cond (Nat.beq pc 2) (some (.putfield 22, 5, [])) (cond (Nat.beq pc 5) (some (.aload_n 0, 6, [])) (none))) (cond (Nat.beq pc 0) (some (.aload_n 0, 1, [])) (cond (Nat.beq pc 1) (some (.iload_n 1, 2, [])) (none)))))))
theorem qkX7_read_ok : ∀ pc i nx ts, qkX7_read pc = some (i, nx, ts) → am_cok cX7_read pc (i, nx, ts) = true := fun pc i nx ts h => am_tok_ok (n := 66) (by decide +kernel) (fun pc h => by show cond (Nat.ble 66 pc) _ _ = _; rw [Nat.ble_eq_true_of_le h]; rfl) h
def qaX7_read : Nat → Option CE := fun k => cond (Nat.beq k 31) (some qeX2_makeEmpty) (cond (Nat.beq k 36) (some qeX7_advance) (cond (Nat.beq k 42) (some qeX7_readStatement) (none)))
theorem qyX7_read (l : Launch) : ∀ k e1, qaX7_read k = some e1 → am_cal l layX RX7 9 k e1 ∧ ceT e1 = 0 := q_cons ⟨am_calV (ci := 2) (qtX2_makeEmpty l) qbX2_makeEmpty (by decide) rfl (am_tb_at 615 (by decide +kernel) rfl), rfl⟩ (q_cons ⟨am_calV (ci := 7) (qtX7_advance l) qbX7_advance (by decide) rfl (am_tb_at 616 (by decide +kernel) rfl), rfl⟩ (q_cons ⟨am_calV (ci := 7) (qtX7_readStatement l) qbX7_readStatement (by decide) rfl (am_tb_at 642 (by decide +kernel) rfl), rfl⟩ (q_nil)))
def qxX7_read : CX := (qkX7_read, layX, qfX7, qaX7_read, qcX7, qlX7, qmX7, (some .int), false, none, 0, none, fun _ => none)
theorem qzX7_read (l : Launch) : am_sta l qxX7_read RX7 9 cX7_read := ⟨qkX7_read_ok, layX_ok, qfX7_ok, qcX7_ok, qlX7_ok, am_mthP qmX7_ok (by decide), fun k e1 h => (qyX7_read l k e1 h).1⟩
def qsX7_read : SP := fun as F A K => match as with
  | [.inr (.inr o), .inl x, .inr (.inr p)] => cond (Nat.beq o 7 && Nat.beq p 3) (((0 ≤ x ∧ x ≤ 800) ∧ -2147483648 ≤ (F 7 6) ∧ (F 7 6) < 2147483648) ∧ (K (some (some (vI ((rdA (A 8) x 801 0 (adF (A 8) x 0 ((F 7 6))) (emR (A 4)) 0).1)))) (upF (tkS (upF F 7 2 x) (rdA (A 8) x 801 0 (adF (A 8) x 0 ((F 7 6))) (emR (A 4)) 0).2.1) 7 7 (rdA (A 8) x 801 0 (adF (A 8) x 0 ((F 7 6))) (emR (A 4)) 0).2.2.2) (r4 A (rdA (A 8) x 801 0 (adF (A 8) x 0 ((F 7 6))) (emR (A 4)) 0).2.2.1))) (False)
  | _ => False
def qeX7_read : CE := (yX7_read, cX7_read, 5, (some .int), 2, some 7, 0, none, 0, 9, qsX7_read)
theorem qbX7_read : am_mb qeX7_read := ⟨am_tb_at 614 (by decide +kernel) rfl, am_tb_at 38 (by decide +kernel) rfl, ⟨by decide, by decide, by decide +kernel⟩, by decide, am_tb_at 612 (by decide +kernel) rfl, am_tb_at 613 (by decide +kernel) rfl, _, _, rfl⟩
def qnX7_read_7_3 : CUT := fun pc => cond (Nat.beq pc 25) (some [true, true, true, true, false]) (none)
def qiX7_read_7_3 (x : Int) (F0 : FF) (A0 : AA) : REC := fun pc ls st F A u => cond (Nat.beq pc 25) (match ls, st, u with
    | [some (.inr (.inr s0)), some (.inl s1), some (.inr (.inr s2)), some (.inl s), none], [], 0 => s0 = 7 ∧ s1 = x ∧ s2 = 3 ∧ (∃ (tt : TK) (ff : Int → Int) (gg : Int), F = upF (tkS (upF F0 7 2 x) tt) 7 7 gg ∧ A = r4 A0 ff ∧ (0 ≤ s ∧ s ≤ 801) ∧ tkOK x tt ∧ ctOK ff ∧ (0 ≤ gg ∧ gg ≤ 3) ∧ (rdA (A0 8) x 801 0 (adF (A0 8) x 0 (F0 7 6)) (emR (A0 4)) 0) = rdA (A0 8) x (Int.toNat (801 - s)) s tt ff gg)
    | _, _, _ => False) (False)
def quX7_read_7_3 : Nat → LVs → List AV → FF → AA → Nat := fun pc ls _ F A => cond (Nat.beq pc 25) (match ls with
    | [some (.inr (.inr s0)), some (.inl s1), some (.inr (.inr s2)), some (.inl s), none] => Int.toNat (900 - s)
    | _ => 0) (0)
set_option maxRecDepth 20000 in
theorem qvX7_read_7_3_0 (x : Int) (F0 : FF) (A0 : AA) (K : KK) (h : ((0 ≤ x ∧ x ≤ 800) ∧ -2147483648 ≤ (F0 7 6) ∧ (F0 7 6) < 2147483648) ∧ (K (some (some (vI ((rdA (A0 8) x 801 0 (adF (A0 8) x 0 ((F0 7 6))) (emR (A0 4)) 0).1)))) (upF (tkS (upF F0 7 2 x) (rdA (A0 8) x 801 0 (adF (A0 8) x 0 ((F0 7 6))) (emR (A0 4)) 0).2.1) 7 7 (rdA (A0 8) x 801 0 (adF (A0 8) x 0 ((F0 7 6))) (emR (A0 4)) 0).2.2.2) (r4 A0 (rdA (A0 8) x 801 0 (adF (A0 8) x 0 ((F0 7 6))) (emR (A0 4)) 0).2.2.1))) : am_stp qxX7_read (am_run qxX7_read qnX7_read_7_3 (qiX7_read_7_3 x F0 A0) K 18) K 0 (am_ent [vR 7, vI x, vR 3] 5) [] F0 A0 0 := by
  show am_stp qxX7_read (am_run qxX7_read qnX7_read_7_3 (qiX7_read_7_3 x F0 A0) K 18) K 0 [some (vR 7), some (vI x), some (vR 3), none, none] [] F0 A0 0
  obtain ⟨hp, h⟩ := h
  obtain ⟨pn, pv⟩ := hp
  show ((0 ≤ x ∧ x ≤ 800) ∧ 0 ≤ 0 ∧ 0 ≤ x) ∧ (7 = 7 ∧ x = x ∧ 3 = 3 ∧ (∃ (tt : TK) (ff : Int → Int) (gg : Int), (tkS (upF (upF (upF F0 7 2 x) 7 4 0) 7 7 0) (nxT ((fput (fput (fillA A0 4 140 0) 4 2 10) 4 3 4) 8) (x) (tkF (upF (upF (upF F0 7 2 x) 7 4 0) 7 7 0)))) = upF (tkS (upF F0 7 2 x) tt) 7 7 gg ∧ (fput (fput (fillA A0 4 140 0) 4 2 10) 4 3 4) = r4 A0 ff ∧ (0 ≤ 0 ∧ 0 ≤ 801) ∧ tkOK x tt ∧ ctOK ff ∧ (0 ≤ gg ∧ gg ≤ 3) ∧ (rdA (A0 8) x 801 0 (adF (A0 8) x 0 (F0 7 6)) (emR (A0 4)) 0) = rdA (A0 8) x (Int.toNat (801 - 0)) 0 tt ff gg))
  refine ⟨by omega, ?_⟩
  refine ⟨rfl, rfl, rfl, ?_⟩
  refine ⟨(adF (A0 8) x 0 (F0 7 6)), emR (A0 4), 0, ?_, em_r4, by omega, adF_ok (by omega) (by omega) pv, em_ct, by omega, rfl⟩
  rw [em_8, tkS_up, tkS_u4]
  rfl
set_option maxRecDepth 20000 in
theorem qvX7_read_7_3_25 (x : Int) (F0 : FF) (A0 : AA) (K : KK) (h : ((0 ≤ x ∧ x ≤ 800) ∧ -2147483648 ≤ (F0 7 6) ∧ (F0 7 6) < 2147483648) ∧ (K (some (some (vI ((rdA (A0 8) x 801 0 (adF (A0 8) x 0 ((F0 7 6))) (emR (A0 4)) 0).1)))) (upF (tkS (upF F0 7 2 x) (rdA (A0 8) x 801 0 (adF (A0 8) x 0 ((F0 7 6))) (emR (A0 4)) 0).2.1) 7 7 (rdA (A0 8) x 801 0 (adF (A0 8) x 0 ((F0 7 6))) (emR (A0 4)) 0).2.2.2) (r4 A0 (rdA (A0 8) x 801 0 (adF (A0 8) x 0 ((F0 7 6))) (emR (A0 4)) 0).2.2.1))) (s : Int) (F : FF) (A : AA) (hi : ∃ (tt : TK) (ff : Int → Int) (gg : Int), F = upF (tkS (upF F0 7 2 x) tt) 7 7 gg ∧ A = r4 A0 ff ∧ (0 ≤ s ∧ s ≤ 801) ∧ tkOK x tt ∧ ctOK ff ∧ (0 ≤ gg ∧ gg ≤ 3) ∧ (rdA (A0 8) x 801 0 (adF (A0 8) x 0 (F0 7 6)) (emR (A0 4)) 0) = rdA (A0 8) x (Int.toNat (801 - s)) s tt ff gg) : am_stp qxX7_read (am_run qxX7_read qnX7_read_7_3 (fun pc ls st F9 A9 u => qiX7_read_7_3 x F0 A0 pc ls st F9 A9 u ∧ quX7_read_7_3 pc ls st F9 A9 < quX7_read_7_3 25 [some (vR 7), some (vI x), some (vR 3), some (vI s), none] [] F A) K 18) K 25 [some (vR 7), some (vI x), some (vR 3), some (vI s), none] [] F A 0 := by
  obtain ⟨hp, h⟩ := h
  obtain ⟨pn, pv⟩ := hp
  obtain ⟨t, f, g, rfl, rfl, h2, kt, kc, kg, hR⟩ := hi
  have b0 := kt.2.1
  have v0 := kt.2.2.1
  have z0 := kt.1
  have et := @rdT_e (A0 8) x g t f
  have ot := rdT_ok (T := A0 8) kt kc kg
  show (w32 800 < w32 s → (K (some (some (vI (-11)))) (upF (tkS (upF F0 7 2 x) t) 7 7 g) (r4 A0 f))) ∧ (¬ w32 800 < w32 s → ((w32 t.2.2.1 = w32 5 → (K (some (some (vI s))) (upF (tkS (upF F0 7 2 x) t) 7 7 g) (r4 A0 f))) ∧ (¬ w32 t.2.2.1 = w32 5 → ((((0 ≤ x ∧ x ≤ 800) ∧ tkOK (x) (t)) ∧ ctOK (f) ∧ 0 ≤ g ∧ g ≤ 3) ∧ ((w32 ((rdT ((A0 8)) (x) (t) (f) (g)).1) = w32 0 → ((7 = 7 ∧ x = x ∧ 3 = 3 ∧ (∃ (tt : TK) (ff : Int → Int) (gg : Int), (upF (tkS (upF (tkS (upF F0 7 2 x) t) 7 7 g) ((rdT ((A0 8)) (x) (t) (f) (g)).2.1)) 7 7 ((rdT ((A0 8)) (x) (t) (f) (g)).2.2.2)) = upF (tkS (upF F0 7 2 x) tt) 7 7 gg ∧ (r4 (r4 A0 f) ((rdT ((A0 8)) (x) (t) (f) (g)).2.2.1)) = r4 A0 ff ∧ (0 ≤ (s + 1) ∧ (s + 1) ≤ 801) ∧ tkOK x tt ∧ ctOK ff ∧ (0 ≤ gg ∧ gg ≤ 3) ∧ (rdA (A0 8) x 801 0 (adF (A0 8) x 0 (F0 7 6)) (emR (A0 4)) 0) = rdA (A0 8) x (Int.toNat (801 - (s + 1))) (s + 1) tt ff gg)) ∧ (Int.toNat (900 - (s + 1))) < (Int.toNat (900 - s)))) ∧ (¬ w32 ((rdT ((A0 8)) (x) (t) (f) (g)).1) = w32 0 → (K (some (some (vI ((rdT ((A0 8)) (x) (t) (f) (g)).1)))) (upF (tkS (upF (tkS (upF F0 7 2 x) t) 7 7 g) ((rdT ((A0 8)) (x) (t) (f) (g)).2.1)) 7 7 ((rdT ((A0 8)) (x) (t) (f) (g)).2.2.2)) (r4 (r4 A0 f) ((rdT ((A0 8)) (x) (t) (f) (g)).2.2.1)))))))))
  refine ⟨fun c1 => ?_, fun c1 => ?_⟩
  · skip
    (try simp (disch := omega) only [fat_in, w32_0, wbi0, Classical.not_not, w32_id] at c1)
    first
    | (exfalso; omega)
    | (rw [hR, rdA_0 (by omega)] at h; exact h)
    | (have ls := rdA_s (T := A0 8) (n := x) (s := s) (t := t) (f := f) (g := g) (by omega)
       rw [if_pos (by omega)] at ls
       rw [hR, ls] at h
       exact h)
    | (have ls := rdA_s (T := A0 8) (n := x) (s := s) (t := t) (f := f) (g := g) (by omega)
       rw [if_neg (by omega), if_neg (by omega)] at ls
       rw [hR, ls] at h
       exact FA_eq h rfl (by simp only [tkS_up, tkS_S, upF_2]; done) (by first | rfl | exact r4_r4.symm))
  · skip
    (try simp (disch := omega) only [fat_in, w32_0, wbi0, Classical.not_not, w32_id] at c1)
    refine ⟨fun c2 => ?_, fun c2 => ?_⟩
    · skip
      (try simp (disch := omega) only [fat_in, w32_0, wbi0, Classical.not_not, w32_id] at c2)
      first
      | (exfalso; omega)
      | (rw [hR, rdA_0 (by omega)] at h; exact h)
      | (have ls := rdA_s (T := A0 8) (n := x) (s := s) (t := t) (f := f) (g := g) (by omega)
         rw [if_pos (by omega)] at ls
         rw [hR, ls] at h
         exact h)
      | (have ls := rdA_s (T := A0 8) (n := x) (s := s) (t := t) (f := f) (g := g) (by omega)
         rw [if_neg (by omega), if_neg (by omega)] at ls
         rw [hR, ls] at h
         exact FA_eq h rfl (by simp only [tkS_up, tkS_S, upF_2]; done) (by first | rfl | exact r4_r4.symm))
    · skip
      (try simp (disch := omega) only [fat_in, w32_0, wbi0, Classical.not_not, w32_id] at c2)
      refine ⟨by first | omega | exact ⟨⟨⟨by omega, by omega⟩, kt⟩, kc, kg⟩, ?_⟩
      refine ⟨fun c3 => ?_, fun c3 => ?_⟩
      · skip
        (try simp (disch := omega) only [fat_in, w32_0, wbi0, Classical.not_not, w32_id] at c3)
        refine ⟨⟨rfl, rfl, rfl, ?_⟩, by omega⟩
        first
        | (exfalso; omega)
        | (have ls := rdA_s (T := A0 8) (n := x) (s := s) (t := t) (f := f) (g := g) (by omega)
           rw [if_neg (by omega), if_pos (by omega)] at ls
           refine ⟨_, _, _, ?_, ?_, by omega, ot.1, ot.2.1, ot.2.2, by rw [hR, ls]⟩
           · simp only [tkS_up, tkS_S, upF_2]; done
           · exact r4_r4)
      · skip
        (try simp (disch := omega) only [fat_in, w32_0, wbi0, Classical.not_not, w32_id] at c3)
        first
        | (exfalso; omega)
        | (rw [hR, rdA_0 (by omega)] at h; exact h)
        | (have ls := rdA_s (T := A0 8) (n := x) (s := s) (t := t) (f := f) (g := g) (by omega)
           rw [if_pos (by omega)] at ls
           rw [hR, ls] at h
           exact h)
        | (have ls := rdA_s (T := A0 8) (n := x) (s := s) (t := t) (f := f) (g := g) (by omega)
           rw [if_neg (by omega), if_neg (by omega)] at ls
           rw [hR, ls] at h
           exact FA_eq h rfl (by simp only [tkS_up, tkS_S, upF_2]; done) (by first | rfl | exact r4_r4.symm))
set_option maxRecDepth 20000 in
theorem qvX7_read_7_3 (x : Int) (F0 : FF) (A0 : AA) (K : KK) (h : ((0 ≤ x ∧ x ≤ 800) ∧ -2147483648 ≤ (F0 7 6) ∧ (F0 7 6) < 2147483648) ∧ (K (some (some (vI ((rdA (A0 8) x 801 0 (adF (A0 8) x 0 ((F0 7 6))) (emR (A0 4)) 0).1)))) (upF (tkS (upF F0 7 2 x) (rdA (A0 8) x 801 0 (adF (A0 8) x 0 ((F0 7 6))) (emR (A0 4)) 0).2.1) 7 7 (rdA (A0 8) x 801 0 (adF (A0 8) x 0 ((F0 7 6))) (emR (A0 4)) 0).2.2.2) (r4 A0 (rdA (A0 8) x 801 0 (adF (A0 8) x 0 ((F0 7 6))) (emR (A0 4)) 0).2.2.1))) : am_body qxX7_read qnX7_read_7_3 18 (qiX7_read_7_3 x F0 A0) quX7_read_7_3 [vR 7, vI x, vR 3] 5 F0 A0 K := by
  refine ⟨qvX7_read_7_3_0 x F0 A0 K h, fun pc ls st F A u hI => ?_⟩
  unfold qiX7_read_7_3 at hI
  replace hI := am_cond2 hI
  rcases hI with ⟨hb, hI⟩ | hI
  · have hb := am_bq hb
    subst hb
    split at hI
    · rename_i s0 s1 s2 s
      obtain ⟨e0, e1, e2, hI⟩ := hI
      subst e0
      subst e1
      subst e2
      exact qvX7_read_7_3_25 _ _ _ K h _ _ _ hI
    · exact hI.elim
  exact hI.elim
theorem qtX7_read (l : Launch) : am_CT l layX qeX7_read := am_met0 rfl (by decide +kernel) rfl rfl rfl rfl rfl (fun _ => rfl) rfl (qzX7_read l) (fun k e1 h => (qyX7_read l k e1 h).2) (fun as F A K h => by
  replace h : qsX7_read as F A K := h
  unfold qsX7_read at h
  split at h
  · rename_i o x p
    refine ⟨by first | exact Nat.le_of_ble_eq_true rfl | simp [am_fl, am_cat], ?_⟩
    replace h := am_cond2 h
    rcases h with ⟨hb, h⟩ | h
    · simp only [Bool.and_eq_true] at hb
      obtain ⟨hb0, hb1⟩ := hb
      have hb0 := am_bq hb0
      subst hb0
      have hb1 := am_bq hb1
      subst hb1
      exact am_way_body (qvX7_read_7_3 x F A K h)
    exact h.elim
  · exact h.elim)
def qkX8_load : Nat → Option CI := fun pc => cond (Nat.ble 80 pc) none (cond (Nat.ble 39 pc) (cond (Nat.ble 57 pc) (cond (Nat.ble 68 pc) (cond (Nat.ble 75 pc) (cond (Nat.beq pc 75) (some (.invokevirtual 97, 78, [])) (cond (Nat.beq pc 78) (some (.iload_n 2, 79, [])) (cond (Nat.beq pc 79) (some (.ireturn, 80, [])) (none)))) (cond (Nat.beq pc 68) (some (.invokevirtual 93, 71, [])) (cond (Nat.beq pc 71) (some (.aload_n 0, 72, [])) (cond (Nat.beq pc 72) (some (.getfield 22, 75, [])) (none))))) (cond (Nat.ble 61 pc) (cond (Nat.beq pc 61) (some (.getfield 10, 64, [])) (cond (Nat.beq pc 64) (some (.aload_n 0, 65, [])) (cond (Nat.beq pc 65) (some (.getfield 16, 68, [])) (none)))) (cond (Nat.beq pc 57) (some (.putfield 68, 60, [])) (cond (Nat.beq pc 60) (some (.aload_n 0, 61, [])) (none))))) (cond (Nat.ble 50 pc) (cond (Nat.ble 54 pc) (cond (Nat.beq pc 54) (some (.ireturn, 55, [])) (cond (Nat.beq pc 55) (some (.aload_n 0, 56, [])) (cond (Nat.beq pc 56) (some (.iconst (-1), 57, [])) (none)))) (cond (Nat.beq pc 50) (some (.putfield 68, 53, [])) (cond (Nat.beq pc 53) (some (.iload_n 2, 54, [])) (none)))) (cond (Nat.ble 43 pc) (cond (Nat.beq pc 43) (some (.aload_n 0, 44, [])) (cond (Nat.beq pc 44) (some (.getfield 29, 47, [])) (cond (Nat.beq pc 47) (some (.invokevirtual 90, 50, [])) (none)))) (cond (Nat.beq pc 39) (some (.ifCond .ge 16, 42, [55])) (cond (Nat.beq pc 42) (some (.aload_n 0, 43, [])) (none)))))) (cond (Nat.ble 19 pc) (cond (Nat.ble 30 pc) (cond (Nat.ble 32 pc) (cond (Nat.beq pc 32) (some (.getfield 29, 35, [])) (cond (Nat.beq pc 35) (some (.invokevirtual 87, 38, [])) (cond (Nat.beq pc 38) (some (.iload_n 2, 39, [])) (none)))) (cond (Nat.beq pc 30) (some (.istore_n 2, 31, [])) (cond (Nat.beq pc 31) (some (.aload_n 0, 32, [])) (none)))) (cond (Nat.ble 23 pc) (cond (Nat.beq pc 23) (some (.aload_n 0, 24, [])) (cond (Nat.beq pc 24) (some (.getfield 16, 27, [])) (cond (Nat.beq pc 27) (some (.invokevirtual 83, 30, [])) (none)))) (cond (Nat.beq pc 19) (some (.getfield 29, 22, [])) (cond (Nat.beq pc 22) (some (.iload_n 1, 23, [])) (none))))) (cond (Nat.ble 9 pc) (cond (Nat.ble 15 pc) (cond (Nat.beq pc 15) (some (.bipush (-2), 17, [])) (cond (Nat.beq pc 17) (some (.ireturn, 18, [])) (cond (Nat.beq pc 18) (some (.aload_n 0, 19, [])) (none)))) (cond (Nat.beq pc 9) (some (.invokevirtual 75, 12, [])) (cond (Nat.beq pc 12) (some (.if_icmp .le 6, 15, [18])) (none)))) (cond (Nat.ble 4 pc) (cond (Nat.beq pc 4) (some (.iload_n 1, 5, [])) (cond (Nat.beq pc 5) (some (.aload_n 0, 6, [])) (cond (Nat.beq pc 6) (some (.getfield 29, 9, [])) (none)))) (cond (Nat.beq pc 0) (some (.iload_n 1, 1, [])) (cond (Nat.beq pc 1) (some (.ifCond .lt 14, 4, [15])) (none)))))))
theorem qkX8_load_ok : ∀ pc i nx ts, qkX8_load pc = some (i, nx, ts) → am_cok cX8_load pc (i, nx, ts) = true := fun pc i nx ts h => am_tok_ok (n := 80) (by decide +kernel) (fun pc h => by show cond (Nat.ble 80 pc) _ _ = _; rw [Nat.ble_eq_true_of_le h]; rfl) h
def qaX8_load : Nat → Option CE := fun k => cond (Nat.beq k 75) (some qeX7_filled) (cond (Nat.beq k 83) (some qeX7_read) (cond (Nat.beq k 87) (some qeX7_empty) (cond (Nat.beq k 90) (some qeX7_place) (cond (Nat.beq k 93) (some qeX2_copyFrom) (cond (Nat.beq k 97) (some qeX3_forget) (none))))))
theorem qyX8_load (l : Launch) : ∀ k e1, qaX8_load k = some e1 → am_cal l layX RX8 10 k e1 ∧ ceT e1 = 0 := q_cons ⟨am_calV (ci := 7) (qtX7_filled l) qbX7_filled (by decide) rfl (am_tb_at 599 (by decide +kernel) rfl), rfl⟩ (q_cons ⟨am_calV (ci := 7) (qtX7_read l) qbX7_read (by decide) rfl (am_tb_at 611 (by decide +kernel) rfl), rfl⟩ (q_cons ⟨am_calV (ci := 7) (qtX7_empty l) qbX7_empty (by decide) rfl (am_tb_at 745 (by decide +kernel) rfl), rfl⟩ (q_cons ⟨am_calV (ci := 7) (qtX7_place l) qbX7_place (by decide) rfl (am_tb_at 749 (by decide +kernel) rfl), rfl⟩ (q_cons ⟨am_calV (ci := 2) (qtX2_copyFrom l) qbX2_copyFrom (by decide) rfl (am_tb_at 753 (by decide +kernel) rfl), rfl⟩ (q_cons ⟨am_calV (ci := 3) (qtX3_forget l) qbX3_forget (by decide) rfl (am_tb_at 758 (by decide +kernel) rfl), rfl⟩ (q_nil))))))
def qxX8_load : CX := (qkX8_load, layX, qfX8, qaX8_load, qcX8, qlX8, qmX8, (some .int), false, none, 0, none, fun _ => none)
theorem qzX8_load (l : Launch) : am_sta l qxX8_load RX8 10 cX8_load := ⟨qkX8_load_ok, layX_ok, qfX8_ok, qcX8_ok, qlX8_ok, am_mthP qmX8_ok (by decide), fun k e1 h => (qyX8_load l k e1 h).1⟩
def qsX8_load : SP := fun as F A K => match as with
  | [.inr (.inr o), .inl n] => cond (Nat.beq o 0) (((0 ≤ (F 7 1) ∧ (F 7 1) ≤ 800) ∧ (-2147483648 ≤ (F 7 6) ∧ (F 7 6) < 2147483648) ∧ (-2147483648 ≤ n ∧ n < 2147483648)) ∧ (∀ (G_1 : FF) (B_1 : AA), (((0 ≤ n ∧ n ≤ (F 7 1)) → ldQ F G_1 A B_1 n) ∧ (¬ (0 ≤ n ∧ n ≤ (F 7 1)) → ch0 F G_1 A B_1)) → (K (some (some (vI (if (0 ≤ n ∧ n ≤ (F 7 1)) then (ldR A F n).1 else -2)))) G_1 B_1))) (False)
  | _ => False
def qeX8_load : CE := (yX8_load, cX8_load, 3, (some .int), 1, some 8, 0, none, 0, 10, qsX8_load)
theorem qbX8_load : am_mb qeX8_load := ⟨am_tb_at 610 (by decide +kernel) rfl, am_tb_at 35 (by decide +kernel) rfl, ⟨by decide, by decide, by decide +kernel⟩, by decide, am_tb_at 608 (by decide +kernel) rfl, am_tb_at 609 (by decide +kernel) rfl, _, _, rfl⟩
set_option maxRecDepth 20000 in
theorem qvX8_load_0 (n : Int) (F : FF) (A : AA) (K : KK) (h : ((0 ≤ (F 7 1) ∧ (F 7 1) ≤ 800) ∧ (-2147483648 ≤ (F 7 6) ∧ (F 7 6) < 2147483648) ∧ (-2147483648 ≤ n ∧ n < 2147483648)) ∧ (∀ (G_1 : FF) (B_1 : AA), (((0 ≤ n ∧ n ≤ (F 7 1)) → ldQ F G_1 A B_1 n) ∧ (¬ (0 ≤ n ∧ n ≤ (F 7 1)) → ch0 F G_1 A B_1)) → (K (some (some (vI (if (0 ≤ n ∧ n ≤ (F 7 1)) then (ldR A F n).1 else -2)))) G_1 B_1))) : am_line qxX8_load 33 [vR 0, vI n] 3 F A K := by
  show am_stp qxX8_load (am_run qxX8_load (fun _ => none) (fun _ _ _ _ _ _ => False) K 33) K 0 [some (vR 0), some (vI n), none] [] F A 0
  obtain ⟨hp, h⟩ := h
  have le := @ldR_e A F n
  have er : rdA (A 8) n 801 0 (adF (A 8) n 0 (F 7 6)) (emR (A 4)) 0 = ldR A F n := rfl
  show (w32 n < w32 0 → (K (some (some (vI (-2)))) F A)) ∧ (¬ w32 n < w32 0 → ((w32 (F 7 1) < w32 n → (K (some (some (vI (-2)))) F A)) ∧ (¬ w32 (F 7 1) < w32 n → (((0 ≤ n ∧ n ≤ 800) ∧ -2147483648 ≤ (F 7 6) ∧ (F 7 6) < 2147483648) ∧ ((w32 ((rdA (A 8) n 801 0 (adF (A 8) n 0 ((F 7 6))) (emR (A 4)) 0).1) < w32 0 → (K (some (some (vI ((rdA (A 8) n 801 0 (adF (A 8) n 0 ((F 7 6))) (emR (A 4)) 0).1)))) (upF (upF (upF (tkS (upF F 7 2 n) (rdA (A 8) n 801 0 (adF (A 8) n 0 ((F 7 6))) (emR (A 4)) 0).2.1) 7 7 (rdA (A 8) n 801 0 (adF (A 8) n 0 ((F 7 6))) (emR (A 4)) 0).2.2.2) 7 1 0) 0 9 ((upF (tkS (upF F 7 2 n) (rdA (A 8) n 801 0 (adF (A 8) n 0 ((F 7 6))) (emR (A 4)) 0).2.1) 7 7 (rdA (A 8) n 801 0 (adF (A 8) n 0 ((F 7 6))) (emR (A 4)) 0).2.2.2) 7 3)) (r4 A (rdA (A 8) n 801 0 (adF (A 8) n 0 ((F 7 6))) (emR (A 4)) 0).2.2.1))) ∧ (¬ w32 ((rdA (A 8) n 801 0 (adF (A 8) n 0 ((F 7 6))) (emR (A 4)) 0).1) < w32 0 → (K (some (some (vI ((rdA (A 8) n 801 0 (adF (A 8) n 0 ((F 7 6))) (emR (A 4)) 0).1)))) (upF (upF (upF (upF (tkS (upF F 7 2 n) (rdA (A 8) n 801 0 (adF (A 8) n 0 ((F 7 6))) (emR (A 4)) 0).2.1) 7 7 (rdA (A 8) n 801 0 (adF (A 8) n 0 ((F 7 6))) (emR (A 4)) 0).2.2.2) 7 1 0) 0 9 (-1)) 5 2 0) (cpA (r4 A (rdA (A 8) n 801 0 (adF (A 8) n 0 ((F 7 6))) (emR (A 4)) 0).2.2.1) 4 (w32 0) 0 (w32 0) (w32 140) 2))))))))
  refine ⟨fun c1 => ?_, fun c1 => ?_⟩
  · skip
    (try simp (disch := omega) only [fat_in, w32_0, wbi0, Classical.not_not, w32_id] at c1)
    exact K_eq (h _ _ ⟨fun z => absurd z (by omega), fun _ => ⟨rfl, rfl⟩⟩) (if_neg (by omega))
  · skip
    (try simp (disch := omega) only [fat_in, w32_0, wbi0, Classical.not_not, w32_id] at c1)
    refine ⟨fun c2 => ?_, fun c2 => ?_⟩
    · skip
      (try simp (disch := omega) only [fat_in, w32_0, wbi0, Classical.not_not, w32_id] at c2)
      exact K_eq (h _ _ ⟨fun z => absurd z (by omega), fun _ => ⟨rfl, rfl⟩⟩) (if_neg (by omega))
    · skip
      (try simp (disch := omega) only [fat_in, w32_0, wbi0, Classical.not_not, w32_id] at c2)
      rw [er]
      have lo := ldR_ok (A := A) (F := F) (n := n) (by omega) hp.2.1
      have lv := lo.1.2.2.2.2.2
      refine ⟨by first | omega | exact ⟨by omega, by omega, by omega⟩ | decide, ?_⟩
      refine ⟨fun c3 => ?_, fun c3 => ?_⟩
      · skip
        (try simp (disch := omega) only [fat_in, w32_0, wbi0, Classical.not_not, w32_id] at c3)
        refine K_eq (h _ _ ⟨fun _ => ⟨fun a b hab => by rw [upF_o (by omega), upF_o (by omega), upF_o (by omega), tkS_o (by omega), upF_o (by omega)], by rw [upF_o (by decide), upF_s], ?_, fun z => ?_, fun z => ?_⟩, fun z => absurd (by omega) z⟩) (if_pos (by omega))
        · rw [upF_o (by decide), upF_o (by decide), upF_o (by decide)]; exact lv
        · refine ⟨by rw [upF_s, upF_o (by decide)]; rfl, by rw [upF_o (by decide), upF_o (by decide), upF_o (by decide), tkS_o (by decide), upF_o (by decide)], fun b i hb => by rw [r4_o hb]⟩
        · exact absurd (by omega) z
      · skip
        (try simp (disch := omega) only [fat_in, w32_0, wbi0, Classical.not_not, w32_id] at c3)
        refine K_eq (h _ _ ⟨fun _ => ⟨fun a b hab => by rw [upF_o (by omega), upF_o (by omega), upF_o (by omega), upF_o (by omega), tkS_o (by omega), upF_o (by omega)], by rw [upF_o (by decide), upF_o (by decide), upF_s], ?_, fun z => ?_, fun z => ?_⟩, fun z => absurd (by omega) z⟩) (if_pos (by omega))
        · rw [upF_o (by decide), upF_o (by decide), upF_o (by decide), upF_o (by decide)]; exact lv
        · exact absurd z (by omega)
        · rw [w32_0, show w32 140 = 140 from rfl, cpA_set]
          refine ⟨by rw [upF_o (by decide), upF_s], by rw [upF_s], fun b i hb => by rw [setR_o hb.2, r4_o hb.1], fun i i0 i1 => ?_⟩
          rw [setR_in i0 (by omega), r4_4, show (0 : Int) + (i - 0) = i by omega]
theorem qtX8_load (l : Launch) : am_CT l layX qeX8_load := am_met0 rfl (by decide +kernel) rfl rfl rfl rfl rfl (fun _ => rfl) rfl (qzX8_load l) (fun k e1 h => (qyX8_load l k e1 h).2) (fun as F A K h => by
  replace h : qsX8_load as F A K := h
  unfold qsX8_load at h
  split at h
  · rename_i o n
    refine ⟨by first | exact Nat.le_of_ble_eq_true rfl | simp [am_fl, am_cat], ?_⟩
    replace h := am_cond2 h
    rcases h with ⟨hb, h⟩ | h
    · skip
      have hb0 := hb
      have hb0 := am_bq hb0
      subst hb0
      exact am_way_line (qvX8_load_0 n F A K h)
    exact h.elim
  · exact h.elim)
