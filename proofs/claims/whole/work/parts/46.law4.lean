def qkL_isOn : Nat → Option CI := fun pc => cond (Nat.ble 26 pc) none (cond (Nat.ble 12 pc) (cond (Nat.ble 20 pc) (cond (Nat.ble 23 pc) (cond (Nat.beq pc 23) (some (.ireturn, 24, [])) (cond (Nat.beq pc 24) (some (.iconst 0, 25, [])) (cond (Nat.beq pc 25) (some (.ireturn, 26, [])) (none)))) (cond (Nat.beq pc 20) (some (.astore 4, 22, [])) (cond (Nat.beq pc 22) (some (.iconst 1, 23, [])) (none)))) (cond (Nat.ble 16 pc) (cond (Nat.beq pc 16) (some (.lastore, 17, [])) (cond (Nat.beq pc 17) (some (.goto 7, 20, [24])) (none))) (cond (Nat.beq pc 12) (some (.goto 4, 15, [16])) (cond (Nat.beq pc 15) (some (.lconst 0, 16, [])) (none))))) (cond (Nat.ble 4 pc) (cond (Nat.ble 8 pc) (cond (Nat.beq pc 8) (some (.ifCond .eq 7, 11, [15])) (cond (Nat.beq pc 11) (some (.lconst 1, 12, [])) (none))) (cond (Nat.beq pc 4) (some (.iload_n 2, 5, [])) (cond (Nat.beq pc 5) (some (.invokevirtual 54, 8, [])) (none)))) (cond (Nat.ble 2 pc) (cond (Nat.beq pc 2) (some (.aload_n 0, 3, [])) (cond (Nat.beq pc 3) (some (.iload_n 1, 4, [])) (none))) (cond (Nat.beq pc 0) (some (.aload_n 3, 1, [])) (cond (Nat.beq pc 1) (some (.iconst 0, 2, [])) (none))))))
theorem qkL_isOn_ok : ∀ pc i nx ts, qkL_isOn pc = some (i, nx, ts) → am_cok cL_isOn pc (i, nx, ts) = true := fun pc i nx ts h => am_tok_ok (n := 26) (by decide +kernel) (fun pc h => by show cond (Nat.ble 26 pc) _ _ = _; rw [Nat.ble_eq_true_of_le h]; rfl) h
def qaL_isOn : Nat → Option CE := fun k => cond (Nat.beq k 54) (some qeX8_isOn) (none)
theorem qyL_isOn (l : Launch) (hst : l.stackTraces = false) : ∀ k e1, qaL_isOn k = some e1 → am_cal l layL RL 12 k e1 ∧ True := q_cons ⟨am_calV (ci := 8) (am_CT_mono layX_L (qtX8_isOn l hst)) qbX8_isOn (by decide) rfl (am_tb_at 1059 (by decide +kernel) rfl), trivial⟩ (q_nil)
def qxL_isOn : CX := (qkL_isOn, layL, qfL, qaL_isOn, qcL, qlL, qmL, (some .int), false, (some 22), 2, none, fun _ => none)
theorem qzL_isOn (l : Launch) (hst : l.stackTraces = false) : am_sta l qxL_isOn RL 12 cL_isOn := ⟨qkL_isOn_ok, layL_ok, qfL_ok, qcL_ok, qlL_ok, am_mthP qmL_ok (by decide), fun k e1 h => (qyL_isOn l hst k e1 h).1⟩
def qsL_isOn : SP := fun as F A K => match as with
  | [.inr (.inr x), .inl c, .inl l, .inr (.inr o)] => cond (Nat.beq x 0 && Nat.beq o 43) ((fgOK (A 2) ∧ (-2147483648 ≤ c ∧ c < 2147483648) ∧ (-2147483648 ≤ l ∧ l < 2147483648)) ∧ (((0 ≤ c ∧ c < A 2 0) ∧ 0 ≤ l ∧ l < A 2 1 → (∀ (G_1 : FF) (B_1 : AA), (qrP F G_1 A B_1) → (K (some (some (vI 0))) G_1 (upA B_1 43 (w32 0) (w32 (bi (azP (cfL (A 2) c l) (Int.toNat (A 2 (18 + c)))))))))) ∧ (¬ ((0 ≤ c ∧ c < A 2 0) ∧ 0 ≤ l ∧ l < A 2 1) → (K (some (some (vI 1))) F A)))) (False)
  | _ => False
def qeL_isOn : CE := (yL_isOn, cL_isOn, 5, (some .int), 4, none, 2, [(0, 17, 20, 13)], 2, 12, qsL_isOn)
theorem qbL_isOn : am_mb qeL_isOn := ⟨am_tb_at 1058 (by decide +kernel) rfl, am_tb_at 113 (by decide +kernel) rfl, ⟨by decide, by decide, by decide +kernel⟩, by decide, am_tb_at 1057 (by decide +kernel) rfl⟩
set_option maxRecDepth 20000 in
theorem qvL_isOn_0_43 (c : Int) (l : Int) (F : FF) (A : AA) (K : KK) (h : (fgOK (A 2) ∧ (-2147483648 ≤ c ∧ c < 2147483648) ∧ (-2147483648 ≤ l ∧ l < 2147483648)) ∧ (((0 ≤ c ∧ c < A 2 0) ∧ 0 ≤ l ∧ l < A 2 1 → (∀ (G_1 : FF) (B_1 : AA), (qrP F G_1 A B_1) → (K (some (some (vI 0))) G_1 (upA B_1 43 (w32 0) (w32 (bi (azP (cfL (A 2) c l) (Int.toNat (A 2 (18 + c)))))))))) ∧ (¬ ((0 ≤ c ∧ c < A 2 0) ∧ 0 ≤ l ∧ l < A 2 1) → (K (some (some (vI 1))) F A)))) : am_line qxL_isOn 14 [vR 0, vI c, vI l, vR 43] 5 F A K := by
  show am_stp qxL_isOn (am_run qxL_isOn (fun _ => none) (fun _ _ _ _ _ _ => False) K 14) K 0 [some (vR 0), some (vI c), some (vI l), some (vR 43), none] [] F A 0
  obtain ⟨hp, h⟩ := h
  show (fgOK (A 2) ∧ (-2147483648 ≤ c ∧ c < 2147483648) ∧ (-2147483648 ≤ l ∧ l < 2147483648)) ∧ (((0 ≤ c ∧ c < A 2 0) ∧ 0 ≤ l ∧ l < A 2 1 → (∀ (G_1 : FF) (B_1 : AA), (qrP F G_1 A B_1) → ((w32 (bi (azP (cfL (A 2) c l) (Int.toNat (A 2 (18 + c))))) = w32 0 → ((0 ≤ w32 0 ∧ w32 0 < 1) ∧ (K (some (some (vI 0))) G_1 (upA B_1 43 (w32 0) 0)))) ∧ (¬ w32 (bi (azP (cfL (A 2) c l) (Int.toNat (A 2 (18 + c))))) = w32 0 → ((0 ≤ w32 0 ∧ w32 0 < 1) ∧ (K (some (some (vI 0))) G_1 (upA B_1 43 (w32 0) 1))))))) ∧ (¬ ((0 ≤ c ∧ c < A 2 0) ∧ 0 ≤ l ∧ l < A 2 1) → (K (some (some (vI 1))) F A)))
  refine ⟨by exact hp, ?_⟩
  refine ⟨fun c1 => ?_, fun c1 => ?_⟩
  · skip
    skip
    intro G_1 B_1 g1
    refine ⟨fun c2 => ?_, fun c2 => ?_⟩
    · skip
      skip
      refine ⟨by exact ⟨by decide, by decide⟩, ?_⟩
      first | exact h.2 c1 | (have e := wbi0.mp c2; have hh := h.1 c1 _ _ g1; rw [bi_f e] at hh; exact hh) | (have e := Classical.not_not.mp (fun z => c2 (wbi0.mpr z)); have hh := h.1 c1 _ _ g1; rw [bi_t e] at hh; exact hh)
    · skip
      skip
      refine ⟨by exact ⟨by decide, by decide⟩, ?_⟩
      first | exact h.2 c1 | (have e := wbi0.mp c2; have hh := h.1 c1 _ _ g1; rw [bi_f e] at hh; exact hh) | (have e := Classical.not_not.mp (fun z => c2 (wbi0.mpr z)); have hh := h.1 c1 _ _ g1; rw [bi_t e] at hh; exact hh)
  · skip
    skip
    first | exact h.2 c1 | (have e := wbi0.mp c2; have hh := h.1 c1 _ _ g1; rw [bi_f e] at hh; exact hh) | (have e := Classical.not_not.mp (fun z => c2 (wbi0.mpr z)); have hh := h.1 c1 _ _ g1; rw [bi_t e] at hh; exact hh)
theorem qtL_isOn (l : Launch) (hst : l.stackTraces = false) : am_CT l layL qeL_isOn := am_met2 (hp := 20) (hn := 22) (i := 4) (en := 17) rfl (by decide +kernel) rfl rfl rfl rfl rfl rfl (Or.inl ⟨by decide +kernel, rfl⟩) (by decide) (dc_cov (n := 26) (by decide +kernel) (by decide +kernel)) (fun _ => rfl) rfl (qzL_isOn l hst) (fun as F A K h => by
  replace h : qsL_isOn as F A K := h
  unfold qsL_isOn at h
  split at h
  · rename_i x c l o
    refine ⟨by first | exact Nat.le_of_ble_eq_true rfl | simp [am_fl, am_cat], ?_⟩
    replace h := am_cond2 h
    rcases h with ⟨hb, h⟩ | h
    · simp only [Bool.and_eq_true] at hb
      obtain ⟨hb0, hb1⟩ := hb
      have hb0 := am_bq hb0
      subst hb0
      have hb1 := am_bq hb1
      subst hb1
      exact am_way_line (qvL_isOn_0_43 c l F A K h)
    exact h.elim
  · exact h.elim)
def qkL_isTangent : Nat → Option CI := fun pc => cond (Nat.ble 26 pc) none (cond (Nat.ble 12 pc) (cond (Nat.ble 20 pc) (cond (Nat.ble 23 pc) (cond (Nat.beq pc 23) (some (.ireturn, 24, [])) (cond (Nat.beq pc 24) (some (.iconst 0, 25, [])) (cond (Nat.beq pc 25) (some (.ireturn, 26, [])) (none)))) (cond (Nat.beq pc 20) (some (.astore 4, 22, [])) (cond (Nat.beq pc 22) (some (.iconst 1, 23, [])) (none)))) (cond (Nat.ble 16 pc) (cond (Nat.beq pc 16) (some (.lastore, 17, [])) (cond (Nat.beq pc 17) (some (.goto 7, 20, [24])) (none))) (cond (Nat.beq pc 12) (some (.goto 4, 15, [16])) (cond (Nat.beq pc 15) (some (.lconst 0, 16, [])) (none))))) (cond (Nat.ble 4 pc) (cond (Nat.ble 8 pc) (cond (Nat.beq pc 8) (some (.ifCond .eq 7, 11, [15])) (cond (Nat.beq pc 11) (some (.lconst 1, 12, [])) (none))) (cond (Nat.beq pc 4) (some (.iload_n 2, 5, [])) (cond (Nat.beq pc 5) (some (.invokevirtual 79, 8, [])) (none)))) (cond (Nat.ble 2 pc) (cond (Nat.beq pc 2) (some (.aload_n 0, 3, [])) (cond (Nat.beq pc 3) (some (.iload_n 1, 4, [])) (none))) (cond (Nat.beq pc 0) (some (.aload_n 3, 1, [])) (cond (Nat.beq pc 1) (some (.iconst 0, 2, [])) (none))))))
theorem qkL_isTangent_ok : ∀ pc i nx ts, qkL_isTangent pc = some (i, nx, ts) → am_cok cL_isTangent pc (i, nx, ts) = true := fun pc i nx ts h => am_tok_ok (n := 26) (by decide +kernel) (fun pc h => by show cond (Nat.ble 26 pc) _ _ = _; rw [Nat.ble_eq_true_of_le h]; rfl) h
def qaL_isTangent : Nat → Option CE := fun k => cond (Nat.beq k 79) (some qeX8_isTangent) (none)
theorem qyL_isTangent (l : Launch) (hst : l.stackTraces = false) : ∀ k e1, qaL_isTangent k = some e1 → am_cal l layL RL 12 k e1 ∧ True := q_cons ⟨am_calV (ci := 8) (am_CT_mono layX_L (qtX8_isTangent l hst)) qbX8_isTangent (by decide) rfl (am_tb_at 1140 (by decide +kernel) rfl), trivial⟩ (q_nil)
def qxL_isTangent : CX := (qkL_isTangent, layL, qfL, qaL_isTangent, qcL, qlL, qmL, (some .int), false, (some 22), 2, none, fun _ => none)
theorem qzL_isTangent (l : Launch) (hst : l.stackTraces = false) : am_sta l qxL_isTangent RL 12 cL_isTangent := ⟨qkL_isTangent_ok, layL_ok, qfL_ok, qcL_ok, qlL_ok, am_mthP qmL_ok (by decide), fun k e1 h => (qyL_isTangent l hst k e1 h).1⟩
def qsL_isTangent : SP := fun as F A K => match as with
  | [.inr (.inr x), .inl c, .inl l, .inr (.inr o)] => cond (Nat.beq x 0 && Nat.beq o 43) ((fgOK (A 2) ∧ (-2147483648 ≤ c ∧ c < 2147483648) ∧ (-2147483648 ≤ l ∧ l < 2147483648)) ∧ (((0 ≤ c ∧ c < A 2 0) ∧ 0 ≤ l ∧ l < A 2 1 → (∀ (G_1 : FF) (B_1 : AA), (qrP F G_1 A B_1) → (K (some (some (vI 0))) G_1 (upA B_1 43 (w32 0) (w32 (bi (dblP (cfL (A 2) c l) (A 2 (18 + c) - 1)))))))) ∧ (¬ ((0 ≤ c ∧ c < A 2 0) ∧ 0 ≤ l ∧ l < A 2 1) → (K (some (some (vI 1))) F A)))) (False)
  | _ => False
def qeL_isTangent : CE := (yL_isTangent, cL_isTangent, 5, (some .int), 4, none, 2, [(0, 17, 20, 13)], 2, 12, qsL_isTangent)
theorem qbL_isTangent : am_mb qeL_isTangent := ⟨am_tb_at 1139 (by decide +kernel) rfl, am_tb_at 113 (by decide +kernel) rfl, ⟨by decide, by decide, by decide +kernel⟩, by decide, am_tb_at 1138 (by decide +kernel) rfl⟩
set_option maxRecDepth 20000 in
theorem qvL_isTangent_0_43 (c : Int) (l : Int) (F : FF) (A : AA) (K : KK) (h : (fgOK (A 2) ∧ (-2147483648 ≤ c ∧ c < 2147483648) ∧ (-2147483648 ≤ l ∧ l < 2147483648)) ∧ (((0 ≤ c ∧ c < A 2 0) ∧ 0 ≤ l ∧ l < A 2 1 → (∀ (G_1 : FF) (B_1 : AA), (qrP F G_1 A B_1) → (K (some (some (vI 0))) G_1 (upA B_1 43 (w32 0) (w32 (bi (dblP (cfL (A 2) c l) (A 2 (18 + c) - 1)))))))) ∧ (¬ ((0 ≤ c ∧ c < A 2 0) ∧ 0 ≤ l ∧ l < A 2 1) → (K (some (some (vI 1))) F A)))) : am_line qxL_isTangent 14 [vR 0, vI c, vI l, vR 43] 5 F A K := by
  show am_stp qxL_isTangent (am_run qxL_isTangent (fun _ => none) (fun _ _ _ _ _ _ => False) K 14) K 0 [some (vR 0), some (vI c), some (vI l), some (vR 43), none] [] F A 0
  obtain ⟨hp, h⟩ := h
  show (fgOK (A 2) ∧ (-2147483648 ≤ c ∧ c < 2147483648) ∧ (-2147483648 ≤ l ∧ l < 2147483648)) ∧ (((0 ≤ c ∧ c < A 2 0) ∧ 0 ≤ l ∧ l < A 2 1 → (∀ (G_1 : FF) (B_1 : AA), (qrP F G_1 A B_1) → ((w32 (bi (dblP (cfL (A 2) c l) (A 2 (18 + c) - 1))) = w32 0 → ((0 ≤ w32 0 ∧ w32 0 < 1) ∧ (K (some (some (vI 0))) G_1 (upA B_1 43 (w32 0) 0)))) ∧ (¬ w32 (bi (dblP (cfL (A 2) c l) (A 2 (18 + c) - 1))) = w32 0 → ((0 ≤ w32 0 ∧ w32 0 < 1) ∧ (K (some (some (vI 0))) G_1 (upA B_1 43 (w32 0) 1))))))) ∧ (¬ ((0 ≤ c ∧ c < A 2 0) ∧ 0 ≤ l ∧ l < A 2 1) → (K (some (some (vI 1))) F A)))
  refine ⟨by exact hp, ?_⟩
  refine ⟨fun c1 => ?_, fun c1 => ?_⟩
  · skip
    skip
    intro G_1 B_1 g1
    refine ⟨fun c2 => ?_, fun c2 => ?_⟩
    · skip
      skip
      refine ⟨by exact ⟨by decide, by decide⟩, ?_⟩
      first | exact h.2 c1 | (have e := wbi0.mp c2; have hh := h.1 c1 _ _ g1; rw [bi_f e] at hh; exact hh) | (have e := Classical.not_not.mp (fun z => c2 (wbi0.mpr z)); have hh := h.1 c1 _ _ g1; rw [bi_t e] at hh; exact hh)
    · skip
      skip
      refine ⟨by exact ⟨by decide, by decide⟩, ?_⟩
      first | exact h.2 c1 | (have e := wbi0.mp c2; have hh := h.1 c1 _ _ g1; rw [bi_f e] at hh; exact hh) | (have e := Classical.not_not.mp (fun z => c2 (wbi0.mpr z)); have hh := h.1 c1 _ _ g1; rw [bi_t e] at hh; exact hh)
  · skip
    skip
    first | exact h.2 c1 | (have e := wbi0.mp c2; have hh := h.1 c1 _ _ g1; rw [bi_f e] at hh; exact hh) | (have e := Classical.not_not.mp (fun z => c2 (wbi0.mpr z)); have hh := h.1 c1 _ _ g1; rw [bi_t e] at hh; exact hh)
theorem qtL_isTangent (l : Launch) (hst : l.stackTraces = false) : am_CT l layL qeL_isTangent := am_met2 (hp := 20) (hn := 22) (i := 4) (en := 17) rfl (by decide +kernel) rfl rfl rfl rfl rfl rfl (Or.inl ⟨by decide +kernel, rfl⟩) (by decide) (dc_cov (n := 26) (by decide +kernel) (by decide +kernel)) (fun _ => rfl) rfl (qzL_isTangent l hst) (fun as F A K h => by
  replace h : qsL_isTangent as F A K := h
  unfold qsL_isTangent at h
  split at h
  · rename_i x c l o
    refine ⟨by first | exact Nat.le_of_ble_eq_true rfl | simp [am_fl, am_cat], ?_⟩
    replace h := am_cond2 h
    rcases h with ⟨hb, h⟩ | h
    · simp only [Bool.and_eq_true] at hb
      obtain ⟨hb0, hb1⟩ := hb
      have hb0 := am_bq hb0
      subst hb0
      have hb1 := am_bq hb1
      subst hb1
      exact am_way_line (qvL_isTangent_0_43 c l F A K h)
    exact h.elim
  · exact h.elim)
