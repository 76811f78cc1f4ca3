def qkL_hullSize : Nat → Option CI := fun pc => cond (Nat.ble 17 pc) none (cond (Nat.ble 8 pc) (cond (Nat.ble 13 pc) (cond (Nat.ble 15 pc) (cond (Nat.beq pc 15) (some (.iconst 0, 16, [])) (cond (Nat.beq pc 16) (some (.ireturn, 17, [])) (none))) (cond (Nat.beq pc 13) (some (.iconst 1, 14, [])) (cond (Nat.beq pc 14) (some (.ireturn, 15, [])) (none)))) (cond (Nat.beq pc 8) (some (.lastore, 9, [])) (cond (Nat.beq pc 9) (some (.goto 6, 12, [15])) (cond (Nat.beq pc 12) (some (.astore_n 3, 13, [])) (none))))) (cond (Nat.ble 3 pc) (cond (Nat.beq pc 3) (some (.iload_n 1, 4, [])) (cond (Nat.beq pc 4) (some (.invokevirtual 42, 7, [])) (cond (Nat.beq pc 7) (some (.i2l, 8, [])) (none)))) (cond (Nat.beq pc 0) (some (.aload_n 2, 1, [])) (cond (Nat.beq pc 1) (some (.iconst 0, 2, [])) (cond (Nat.beq pc 2) (some (.aload_n 0, 3, [])) (none))))))
theorem qkL_hullSize_ok : ∀ pc i nx ts, qkL_hullSize pc = some (i, nx, ts) → am_cok cL_hullSize pc (i, nx, ts) = true := fun pc i nx ts h => am_tok_ok (n := 17) (by decide +kernel) (fun pc h => by show cond (Nat.ble 17 pc) _ _ = _; rw [Nat.ble_eq_true_of_le h]; rfl) h
def qaL_hullSize : Nat → Option CE := fun k => cond (Nat.beq k 42) (some qeX8_hullSize) (none)
theorem qyL_hullSize (l : Launch) (hst : l.stackTraces = false) : ∀ k e1, qaL_hullSize k = some e1 → am_cal l layL RL 11 k e1 ∧ True := q_cons ⟨am_calV (ci := 8) (am_CT_mono layX_L (qtX8_hullSize l hst)) qbX8_hullSize (by decide) rfl (am_tb_at 987 (by decide +kernel) rfl), trivial⟩ (q_nil)
def qxL_hullSize : CX := (qkL_hullSize, layL, qfL, qaL_hullSize, qcL, qlL, qmL, (some .int), false, (some 13), 1, none, fun _ => none)
theorem qzL_hullSize (l : Launch) (hst : l.stackTraces = false) : am_sta l qxL_hullSize RL 11 cL_hullSize := ⟨qkL_hullSize_ok, layL_ok, qfL_ok, qcL_ok, qlL_ok, am_mthP qmL_ok (by decide), fun k e1 h => (qyL_hullSize l hst k e1 h).1⟩
def qsL_hullSize : SP := fun as F A K => match as with
  | [.inr (.inr x), .inl c, .inr (.inr o)] => cond (Nat.beq x 0 && Nat.beq o 43) ((fgOK (A 2) ∧ (-2147483648 ≤ c ∧ c < 2147483648)) ∧ ((0 ≤ c ∧ c < A 2 0 → (∀ (G_1 : FF) (B_1 : AA), (qrP F G_1 A B_1) → (K (some (some (vI 0))) G_1 (upA B_1 43 (w32 0) (w32 ((huL (A 2) c).length : Int)))))) ∧ (¬ (0 ≤ c ∧ c < A 2 0) → (K (some (some (vI 1))) F A)))) (False)
  | _ => False
def qeL_hullSize : CE := (yL_hullSize, cL_hullSize, 4, (some .int), 3, none, 2, [(0, 9, 12, 13)], 1, 11, qsL_hullSize)
theorem qbL_hullSize : am_mb qeL_hullSize := ⟨am_tb_at 986 (by decide +kernel) rfl, am_tb_at 113 (by decide +kernel) rfl, ⟨by decide, by decide, by decide +kernel⟩, by decide, am_tb_at 985 (by decide +kernel) rfl⟩
set_option maxRecDepth 20000 in
theorem qvL_hullSize_0_43 (c : Int) (F : FF) (A : AA) (K : KK) (h : (fgOK (A 2) ∧ (-2147483648 ≤ c ∧ c < 2147483648)) ∧ ((0 ≤ c ∧ c < A 2 0 → (∀ (G_1 : FF) (B_1 : AA), (qrP F G_1 A B_1) → (K (some (some (vI 0))) G_1 (upA B_1 43 (w32 0) (w32 ((huL (A 2) c).length : Int)))))) ∧ (¬ (0 ≤ c ∧ c < A 2 0) → (K (some (some (vI 1))) F A)))) : am_line qxL_hullSize 11 [vR 0, vI c, vR 43] 4 F A K := by
  show am_stp qxL_hullSize (am_run qxL_hullSize (fun _ => none) (fun _ _ _ _ _ _ => False) K 11) K 0 [some (vR 0), some (vI c), some (vR 43), none] [] F A 0
  obtain ⟨hp, h⟩ := h
  show (fgOK (A 2) ∧ (-2147483648 ≤ c ∧ c < 2147483648)) ∧ ((0 ≤ c ∧ c < A 2 0 → (∀ (G_1 : FF) (B_1 : AA), (qrP F G_1 A B_1) → ((0 ≤ w32 0 ∧ w32 0 < 1) ∧ (K (some (some (vI 0))) G_1 (upA B_1 43 (w32 0) (w32 ((huL (A 2) c).length : Int))))))) ∧ (¬ (0 ≤ c ∧ c < A 2 0) → (K (some (some (vI 1))) F A)))
  refine ⟨by exact hp, ?_⟩
  refine ⟨fun c1 => ?_, fun c1 => ?_⟩
  · skip
    skip
    intro G_1 B_1 g1
    refine ⟨by exact ⟨by decide, by decide⟩, ?_⟩
    first | exact h.1 c1 | exact h.2 c1 | exact h.1 c1 _ _ g1 | exact h.1 c1 _ g1 | exact h.1 c1 _ _ _ _ g1
  · skip
    skip
    first | exact h.1 c1 | exact h.2 c1 | exact h.1 c1 _ _ g1 | exact h.1 c1 _ g1 | exact h.1 c1 _ _ _ _ g1
theorem qtL_hullSize (l : Launch) (hst : l.stackTraces = false) : am_CT l layL qeL_hullSize := am_met2 (hp := 12) (hn := 13) (i := 3) (en := 9) rfl (by decide +kernel) rfl rfl rfl rfl rfl rfl (Or.inr ⟨3, rfl, by decide +kernel, rfl⟩) (by decide) (dc_cov (n := 17) (by decide +kernel) (by decide +kernel)) (fun _ => rfl) rfl (qzL_hullSize l hst) (fun as F A K h => by
  replace h : qsL_hullSize as F A K := h
  unfold qsL_hullSize at h
  split at h
  · rename_i x c o
    refine ⟨by first | exact Nat.le_of_ble_eq_true rfl | simp [am_fl, am_cat], ?_⟩
    replace h := am_cond2 h
    rcases h with ⟨hb, h⟩ | h
    · simp only [Bool.and_eq_true] at hb
      obtain ⟨hb0, hb1⟩ := hb
      have hb0 := am_bq hb0
      subst hb0
      have hb1 := am_bq hb1
      subst hb1
      exact am_way_line (qvL_hullSize_0_43 c F A K h)
    exact h.elim
  · exact h.elim)
def qkL_hullCorner : Nat → Option CI := fun pc => cond (Nat.ble 19 pc) none (cond (Nat.ble 9 pc) (cond (Nat.ble 15 pc) (cond (Nat.ble 17 pc) (cond (Nat.beq pc 17) (some (.iconst 0, 18, [])) (cond (Nat.beq pc 18) (some (.ireturn, 19, [])) (none))) (cond (Nat.beq pc 15) (some (.iconst 1, 16, [])) (cond (Nat.beq pc 16) (some (.ireturn, 17, [])) (none)))) (cond (Nat.beq pc 9) (some (.lastore, 10, [])) (cond (Nat.beq pc 10) (some (.goto 7, 13, [17])) (cond (Nat.beq pc 13) (some (.astore 4, 15, [])) (none))))) (cond (Nat.ble 3 pc) (cond (Nat.ble 5 pc) (cond (Nat.beq pc 5) (some (.invokevirtual 45, 8, [])) (cond (Nat.beq pc 8) (some (.i2l, 9, [])) (none))) (cond (Nat.beq pc 3) (some (.iload_n 1, 4, [])) (cond (Nat.beq pc 4) (some (.iload_n 2, 5, [])) (none)))) (cond (Nat.beq pc 0) (some (.aload_n 3, 1, [])) (cond (Nat.beq pc 1) (some (.iconst 0, 2, [])) (cond (Nat.beq pc 2) (some (.aload_n 0, 3, [])) (none))))))
theorem qkL_hullCorner_ok : ∀ pc i nx ts, qkL_hullCorner pc = some (i, nx, ts) → am_cok cL_hullCorner pc (i, nx, ts) = true := fun pc i nx ts h => am_tok_ok (n := 19) (by decide +kernel) (fun pc h => by show cond (Nat.ble 19 pc) _ _ = _; rw [Nat.ble_eq_true_of_le h]; rfl) h
def qaL_hullCorner : Nat → Option CE := fun k => cond (Nat.beq k 45) (some qeX8_hullCorner) (none)
theorem qyL_hullCorner (l : Launch) (hst : l.stackTraces = false) : ∀ k e1, qaL_hullCorner k = some e1 → am_cal l layL RL 11 k e1 ∧ True := q_cons ⟨am_calV (ci := 8) (am_CT_mono layX_L (qtX8_hullCorner l hst)) qbX8_hullCorner (by decide) rfl (am_tb_at 1020 (by decide +kernel) rfl), trivial⟩ (q_nil)
def qxL_hullCorner : CX := (qkL_hullCorner, layL, qfL, qaL_hullCorner, qcL, qlL, qmL, (some .int), false, (some 15), 1, none, fun _ => none)
theorem qzL_hullCorner (l : Launch) (hst : l.stackTraces = false) : am_sta l qxL_hullCorner RL 11 cL_hullCorner := ⟨qkL_hullCorner_ok, layL_ok, qfL_ok, qcL_ok, qlL_ok, am_mthP qmL_ok (by decide), fun k e1 h => (qyL_hullCorner l hst k e1 h).1⟩
def qsL_hullCorner : SP := fun as F A K => match as with
  | [.inr (.inr x), .inl c, .inl k, .inr (.inr o)] => cond (Nat.beq x 0 && Nat.beq o 43) ((fgOK (A 2) ∧ (-2147483648 ≤ c ∧ c < 2147483648) ∧ (-2147483648 ≤ k ∧ k < 2147483648)) ∧ ((0 ≤ c ∧ c < A 2 0 → (∀ (G_1 : FF) (B_1 : AA), (qrP F G_1 A B_1) → (K (some (some (vI 0))) G_1 (upA B_1 43 (w32 0) (w32 (if 0 ≤ k ∧ k < ((huL (A 2) c).length : Int) then (huL (A 2) c).getD (Int.toNat k) 0 else -1)))))) ∧ (¬ (0 ≤ c ∧ c < A 2 0) → (K (some (some (vI 1))) F A)))) (False)
  | _ => False
def qeL_hullCorner : CE := (yL_hullCorner, cL_hullCorner, 5, (some .int), 4, none, 2, [(0, 10, 13, 13)], 1, 11, qsL_hullCorner)
theorem qbL_hullCorner : am_mb qeL_hullCorner := ⟨am_tb_at 1019 (by decide +kernel) rfl, am_tb_at 113 (by decide +kernel) rfl, ⟨by decide, by decide, by decide +kernel⟩, by decide, am_tb_at 1018 (by decide +kernel) rfl⟩
set_option maxRecDepth 20000 in
theorem qvL_hullCorner_0_43 (c : Int) (k : Int) (F : FF) (A : AA) (K : KK) (h : (fgOK (A 2) ∧ (-2147483648 ≤ c ∧ c < 2147483648) ∧ (-2147483648 ≤ k ∧ k < 2147483648)) ∧ ((0 ≤ c ∧ c < A 2 0 → (∀ (G_1 : FF) (B_1 : AA), (qrP F G_1 A B_1) → (K (some (some (vI 0))) G_1 (upA B_1 43 (w32 0) (w32 (if 0 ≤ k ∧ k < ((huL (A 2) c).length : Int) then (huL (A 2) c).getD (Int.toNat k) 0 else -1)))))) ∧ (¬ (0 ≤ c ∧ c < A 2 0) → (K (some (some (vI 1))) F A)))) : am_line qxL_hullCorner 12 [vR 0, vI c, vI k, vR 43] 5 F A K := by
  show am_stp qxL_hullCorner (am_run qxL_hullCorner (fun _ => none) (fun _ _ _ _ _ _ => False) K 12) K 0 [some (vR 0), some (vI c), some (vI k), some (vR 43), none] [] F A 0
  obtain ⟨hp, h⟩ := h
  show (fgOK (A 2) ∧ (-2147483648 ≤ c ∧ c < 2147483648) ∧ (-2147483648 ≤ k ∧ k < 2147483648)) ∧ ((0 ≤ c ∧ c < A 2 0 → (∀ (G_1 : FF) (B_1 : AA), (qrP F G_1 A B_1) → ((0 ≤ w32 0 ∧ w32 0 < 1) ∧ (K (some (some (vI 0))) G_1 (upA B_1 43 (w32 0) (w32 (if 0 ≤ k ∧ k < ((huL (A 2) c).length : Int) then (huL (A 2) c).getD (Int.toNat k) 0 else -1))))))) ∧ (¬ (0 ≤ c ∧ c < A 2 0) → (K (some (some (vI 1))) F A)))
  refine ⟨by exact hp, ?_⟩
  refine ⟨fun c1 => ?_, fun c1 => ?_⟩
  · skip
    skip
    intro G_1 B_1 g1
    refine ⟨by exact ⟨by decide, by decide⟩, ?_⟩
    first | exact h.1 c1 | exact h.2 c1 | exact h.1 c1 _ _ g1 | exact h.1 c1 _ g1 | exact h.1 c1 _ _ _ _ g1
  · skip
    skip
    first | exact h.1 c1 | exact h.2 c1 | exact h.1 c1 _ _ g1 | exact h.1 c1 _ g1 | exact h.1 c1 _ _ _ _ g1
theorem qtL_hullCorner (l : Launch) (hst : l.stackTraces = false) : am_CT l layL qeL_hullCorner := am_met2 (hp := 13) (hn := 15) (i := 4) (en := 10) rfl (by decide +kernel) rfl rfl rfl rfl rfl rfl (Or.inl ⟨by decide +kernel, rfl⟩) (by decide) (dc_cov (n := 19) (by decide +kernel) (by decide +kernel)) (fun _ => rfl) rfl (qzL_hullCorner l hst) (fun as F A K h => by
  replace h : qsL_hullCorner as F A K := h
  unfold qsL_hullCorner at h
  split at h
  · rename_i x c k o
    refine ⟨by first | exact Nat.le_of_ble_eq_true rfl | simp [am_fl, am_cat], ?_⟩
    replace h := am_cond2 h
    rcases h with ⟨hb, h⟩ | h
    · simp only [Bool.and_eq_true] at hb
      obtain ⟨hb0, hb1⟩ := hb
      have hb0 := am_bq hb0
      subst hb0
      have hb1 := am_bq hb1
      subst hb1
      exact am_way_line (qvL_hullCorner_0_43 c k F A K h)
    exact h.elim
  · exact h.elim)
def qkL_signChanges : Nat → Option CI := fun pc => cond (Nat.ble 23 pc) none (cond (Nat.ble 12 pc) (cond (Nat.ble 19 pc) (cond (Nat.ble 21 pc) (cond (Nat.beq pc 21) (some (.iconst 0, 22, [])) (cond (Nat.beq pc 22) (some (.ireturn, 23, [])) (none))) (cond (Nat.beq pc 19) (some (.iconst 1, 20, [])) (cond (Nat.beq pc 20) (some (.ireturn, 21, [])) (none)))) (cond (Nat.ble 14 pc) (cond (Nat.beq pc 14) (some (.goto 7, 17, [21])) (cond (Nat.beq pc 17) (some (.astore 6, 19, [])) (none))) (cond (Nat.beq pc 12) (some (.i2l, 13, [])) (cond (Nat.beq pc 13) (some (.lastore, 14, [])) (none))))) (cond (Nat.ble 5 pc) (cond (Nat.ble 7 pc) (cond (Nat.beq pc 7) (some (.iload 4, 9, [])) (cond (Nat.beq pc 9) (some (.invokevirtual 51, 12, [])) (none))) (cond (Nat.beq pc 5) (some (.iload_n 2, 6, [])) (cond (Nat.beq pc 6) (some (.iload_n 3, 7, [])) (none)))) (cond (Nat.ble 3 pc) (cond (Nat.beq pc 3) (some (.aload_n 0, 4, [])) (cond (Nat.beq pc 4) (some (.iload_n 1, 5, [])) (none))) (cond (Nat.beq pc 0) (some (.aload 5, 2, [])) (cond (Nat.beq pc 2) (some (.iconst 0, 3, [])) (none))))))
theorem qkL_signChanges_ok : ∀ pc i nx ts, qkL_signChanges pc = some (i, nx, ts) → am_cok cL_signChanges pc (i, nx, ts) = true := fun pc i nx ts h => am_tok_ok (n := 23) (by decide +kernel) (fun pc h => by show cond (Nat.ble 23 pc) _ _ = _; rw [Nat.ble_eq_true_of_le h]; rfl) h
def qaL_signChanges : Nat → Option CE := fun k => cond (Nat.beq k 51) (some qeX8_signChanges) (none)
theorem qyL_signChanges (l : Launch) (hst : l.stackTraces = false) : ∀ k e1, qaL_signChanges k = some e1 → am_cal l layL RL 12 k e1 ∧ True := q_cons ⟨am_calV (ci := 8) (am_CT_mono layX_L (qtX8_signChanges l hst)) qbX8_signChanges (by decide) rfl (am_tb_at 1044 (by decide +kernel) rfl), trivial⟩ (q_nil)
def qxL_signChanges : CX := (qkL_signChanges, layL, qfL, qaL_signChanges, qcL, qlL, qmL, (some .int), false, (some 19), 2, none, fun _ => none)
theorem qzL_signChanges (l : Launch) (hst : l.stackTraces = false) : am_sta l qxL_signChanges RL 12 cL_signChanges := ⟨qkL_signChanges_ok, layL_ok, qfL_ok, qcL_ok, qlL_ok, am_mthP qmL_ok (by decide), fun k e1 h => (qyL_signChanges l hst k e1 h).1⟩
def qsL_signChanges : SP := fun as F A K => match as with
  | [.inr (.inr x), .inl c, .inl l, .inl d, .inl q, .inr (.inr o)] => cond (Nat.beq x 0 && Nat.beq o 43) ((fgOK (A 2) ∧ (-2147483648 ≤ c ∧ c < 2147483648) ∧ (-2147483648 ≤ l ∧ l < 2147483648) ∧ (-2147483648 ≤ d ∧ d < 2147483648) ∧ (-2147483648 ≤ q ∧ q < 2147483648)) ∧ (((0 ≤ c ∧ c < A 2 0) ∧ 0 ≤ l ∧ l < A 2 1 → (∀ (G_1 : FF) (B_1 : AA), (qrP F G_1 A B_1) → (K (some (some (vI 0))) G_1 (upA B_1 43 (w32 0) (w32 (if 0 ≤ d ∧ d ≤ 12 ∧ 0 ≤ q ∧ q < p2 d then chg (cellF (cfL (A 2) c l) (A 2 (18 + c) - 1) (Int.toNat d) q) (Int.toNat (A 2 (18 + c))) else -1)))))) ∧ (¬ ((0 ≤ c ∧ c < A 2 0) ∧ 0 ≤ l ∧ l < A 2 1) → (K (some (some (vI 1))) F A)))) (False)
  | _ => False
def qeL_signChanges : CE := (yL_signChanges, cL_signChanges, 7, (some .int), 6, none, 2, [(0, 14, 17, 13)], 2, 12, qsL_signChanges)
theorem qbL_signChanges : am_mb qeL_signChanges := ⟨am_tb_at 1043 (by decide +kernel) rfl, am_tb_at 113 (by decide +kernel) rfl, ⟨by decide, by decide, by decide +kernel⟩, by decide, am_tb_at 1042 (by decide +kernel) rfl⟩
set_option maxRecDepth 20000 in
theorem qvL_signChanges_0_43 (c : Int) (l : Int) (d : Int) (q : Int) (F : FF) (A : AA) (K : KK) (h : (fgOK (A 2) ∧ (-2147483648 ≤ c ∧ c < 2147483648) ∧ (-2147483648 ≤ l ∧ l < 2147483648) ∧ (-2147483648 ≤ d ∧ d < 2147483648) ∧ (-2147483648 ≤ q ∧ q < 2147483648)) ∧ (((0 ≤ c ∧ c < A 2 0) ∧ 0 ≤ l ∧ l < A 2 1 → (∀ (G_1 : FF) (B_1 : AA), (qrP F G_1 A B_1) → (K (some (some (vI 0))) G_1 (upA B_1 43 (w32 0) (w32 (if 0 ≤ d ∧ d ≤ 12 ∧ 0 ≤ q ∧ q < p2 d then chg (cellF (cfL (A 2) c l) (A 2 (18 + c) - 1) (Int.toNat d) q) (Int.toNat (A 2 (18 + c))) else -1)))))) ∧ (¬ ((0 ≤ c ∧ c < A 2 0) ∧ 0 ≤ l ∧ l < A 2 1) → (K (some (some (vI 1))) F A)))) : am_line qxL_signChanges 14 [vR 0, vI c, vI l, vI d, vI q, vR 43] 7 F A K := by
  show am_stp qxL_signChanges (am_run qxL_signChanges (fun _ => none) (fun _ _ _ _ _ _ => False) K 14) K 0 [some (vR 0), some (vI c), some (vI l), some (vI d), some (vI q), some (vR 43), none] [] F A 0
  obtain ⟨hp, h⟩ := h
  show (fgOK (A 2) ∧ (-2147483648 ≤ c ∧ c < 2147483648) ∧ (-2147483648 ≤ l ∧ l < 2147483648) ∧ (-2147483648 ≤ d ∧ d < 2147483648) ∧ (-2147483648 ≤ q ∧ q < 2147483648)) ∧ (((0 ≤ c ∧ c < A 2 0) ∧ 0 ≤ l ∧ l < A 2 1 → (∀ (G_1 : FF) (B_1 : AA), (qrP F G_1 A B_1) → ((0 ≤ w32 0 ∧ w32 0 < 1) ∧ (K (some (some (vI 0))) G_1 (upA B_1 43 (w32 0) (w32 (if 0 ≤ d ∧ d ≤ 12 ∧ 0 ≤ q ∧ q < p2 d then chg (cellF (cfL (A 2) c l) (A 2 (18 + c) - 1) (Int.toNat d) q) (Int.toNat (A 2 (18 + c))) else -1))))))) ∧ (¬ ((0 ≤ c ∧ c < A 2 0) ∧ 0 ≤ l ∧ l < A 2 1) → (K (some (some (vI 1))) F A)))
  refine ⟨by exact hp, ?_⟩
  refine ⟨fun c1 => ?_, fun c1 => ?_⟩
  · skip
    skip
    intro G_1 B_1 g1
    refine ⟨by exact ⟨by decide, by decide⟩, ?_⟩
    first | exact h.1 c1 | exact h.2 c1 | exact h.1 c1 _ _ g1 | exact h.1 c1 _ g1 | exact h.1 c1 _ _ _ _ g1
  · skip
    skip
    first | exact h.1 c1 | exact h.2 c1 | exact h.1 c1 _ _ g1 | exact h.1 c1 _ g1 | exact h.1 c1 _ _ _ _ g1
theorem qtL_signChanges (l : Launch) (hst : l.stackTraces = false) : am_CT l layL qeL_signChanges := am_met2 (hp := 17) (hn := 19) (i := 6) (en := 14) rfl (by decide +kernel) rfl rfl rfl rfl rfl rfl (Or.inl ⟨by decide +kernel, rfl⟩) (by decide) (dc_cov (n := 23) (by decide +kernel) (by decide +kernel)) (fun _ => rfl) rfl (qzL_signChanges l hst) (fun as F A K h => by
  replace h : qsL_signChanges as F A K := h
  unfold qsL_signChanges at h
  split at h
  · rename_i x c l d q o
    refine ⟨by first | exact Nat.le_of_ble_eq_true rfl | simp [am_fl, am_cat], ?_⟩
    replace h := am_cond2 h
    rcases h with ⟨hb, h⟩ | h
    · simp only [Bool.and_eq_true] at hb
      obtain ⟨hb0, hb1⟩ := hb
      have hb0 := am_bq hb0
      subst hb0
      have hb1 := am_bq hb1
      subst hb1
      exact am_way_line (qvL_signChanges_0_43 c l d q F A K h)
    exact h.elim
  · exact h.elim)
def qkL_sideOf : Nat → Option CI := fun pc => cond (Nat.ble 21 pc) none (cond (Nat.ble 10 pc) (cond (Nat.ble 17 pc) (cond (Nat.ble 19 pc) (cond (Nat.beq pc 19) (some (.iconst 0, 20, [])) (cond (Nat.beq pc 20) (some (.ireturn, 21, [])) (none))) (cond (Nat.beq pc 17) (some (.iconst 1, 18, [])) (cond (Nat.beq pc 18) (some (.ireturn, 19, [])) (none)))) (cond (Nat.ble 12 pc) (cond (Nat.beq pc 12) (some (.goto 7, 15, [19])) (cond (Nat.beq pc 15) (some (.astore 5, 17, [])) (none))) (cond (Nat.beq pc 10) (some (.i2l, 11, [])) (cond (Nat.beq pc 11) (some (.lastore, 12, [])) (none))))) (cond (Nat.ble 4 pc) (cond (Nat.ble 6 pc) (cond (Nat.beq pc 6) (some (.iload_n 3, 7, [])) (cond (Nat.beq pc 7) (some (.invokevirtual 58, 10, [])) (none))) (cond (Nat.beq pc 4) (some (.iload_n 1, 5, [])) (cond (Nat.beq pc 5) (some (.iload_n 2, 6, [])) (none)))) (cond (Nat.beq pc 0) (some (.aload 4, 2, [])) (cond (Nat.beq pc 2) (some (.iconst 0, 3, [])) (cond (Nat.beq pc 3) (some (.aload_n 0, 4, [])) (none))))))
theorem qkL_sideOf_ok : ∀ pc i nx ts, qkL_sideOf pc = some (i, nx, ts) → am_cok cL_sideOf pc (i, nx, ts) = true := fun pc i nx ts h => am_tok_ok (n := 21) (by decide +kernel) (fun pc h => by show cond (Nat.ble 21 pc) _ _ = _; rw [Nat.ble_eq_true_of_le h]; rfl) h
def qaL_sideOf : Nat → Option CE := fun k => cond (Nat.beq k 58) (some qeX8_sideOf) (none)
theorem qyL_sideOf (l : Launch) (hst : l.stackTraces = false) : ∀ k e1, qaL_sideOf k = some e1 → am_cal l layL RL 12 k e1 ∧ True := q_cons ⟨am_calV (ci := 8) (am_CT_mono layX_L (qtX8_sideOf l hst)) qbX8_sideOf (by decide) rfl (am_tb_at 1066 (by decide +kernel) rfl), trivial⟩ (q_nil)
def qxL_sideOf : CX := (qkL_sideOf, layL, qfL, qaL_sideOf, qcL, qlL, qmL, (some .int), false, (some 17), 2, none, fun _ => none)
theorem qzL_sideOf (l : Launch) (hst : l.stackTraces = false) : am_sta l qxL_sideOf RL 12 cL_sideOf := ⟨qkL_sideOf_ok, layL_ok, qfL_ok, qcL_ok, qlL_ok, am_mthP qmL_ok (by decide), fun k e1 h => (qyL_sideOf l hst k e1 h).1⟩
def qsL_sideOf : SP := fun as F A K => match as with
  | [.inr (.inr x), .inl c, .inl l, .inl e, .inr (.inr o)] => cond (Nat.beq x 0 && Nat.beq o 43) ((fgOK (A 2) ∧ (-2147483648 ≤ c ∧ c < 2147483648) ∧ (-2147483648 ≤ l ∧ l < 2147483648) ∧ (-2147483648 ≤ e ∧ e < 2147483648)) ∧ (((0 ≤ c ∧ c < A 2 0) ∧ 0 ≤ l ∧ l < A 2 1 → (K (some (some (vI 0))) F (upA A 43 (w32 0) (w32 (sg (w64 (w32 (cfR (A 2) c l (if e = 0 then 0 else A 2 (18 + c) - 1))))))))) ∧ (¬ ((0 ≤ c ∧ c < A 2 0) ∧ 0 ≤ l ∧ l < A 2 1) → (K (some (some (vI 1))) F A)))) (False)
  | _ => False
def qeL_sideOf : CE := (yL_sideOf, cL_sideOf, 6, (some .int), 5, none, 2, [(0, 12, 15, 13)], 2, 12, qsL_sideOf)
theorem qbL_sideOf : am_mb qeL_sideOf := ⟨am_tb_at 1065 (by decide +kernel) rfl, am_tb_at 113 (by decide +kernel) rfl, ⟨by decide, by decide, by decide +kernel⟩, by decide, am_tb_at 1064 (by decide +kernel) rfl⟩
set_option maxRecDepth 20000 in
theorem qvL_sideOf_0_43 (c : Int) (l : Int) (e : Int) (F : FF) (A : AA) (K : KK) (h : (fgOK (A 2) ∧ (-2147483648 ≤ c ∧ c < 2147483648) ∧ (-2147483648 ≤ l ∧ l < 2147483648) ∧ (-2147483648 ≤ e ∧ e < 2147483648)) ∧ (((0 ≤ c ∧ c < A 2 0) ∧ 0 ≤ l ∧ l < A 2 1 → (K (some (some (vI 0))) F (upA A 43 (w32 0) (w32 (sg (w64 (w32 (cfR (A 2) c l (if e = 0 then 0 else A 2 (18 + c) - 1))))))))) ∧ (¬ ((0 ≤ c ∧ c < A 2 0) ∧ 0 ≤ l ∧ l < A 2 1) → (K (some (some (vI 1))) F A)))) : am_line qxL_sideOf 13 [vR 0, vI c, vI l, vI e, vR 43] 6 F A K := by
  show am_stp qxL_sideOf (am_run qxL_sideOf (fun _ => none) (fun _ _ _ _ _ _ => False) K 13) K 0 [some (vR 0), some (vI c), some (vI l), some (vI e), some (vR 43), none] [] F A 0
  obtain ⟨hp, h⟩ := h
  show (fgOK (A 2) ∧ (-2147483648 ≤ c ∧ c < 2147483648) ∧ (-2147483648 ≤ l ∧ l < 2147483648) ∧ (-2147483648 ≤ e ∧ e < 2147483648)) ∧ (((0 ≤ c ∧ c < A 2 0) ∧ 0 ≤ l ∧ l < A 2 1 → ((0 ≤ w32 0 ∧ w32 0 < 1) ∧ (K (some (some (vI 0))) F (upA A 43 (w32 0) (w32 (sg (w64 (w32 (cfR (A 2) c l (if e = 0 then 0 else A 2 (18 + c) - 1)))))))))) ∧ (¬ ((0 ≤ c ∧ c < A 2 0) ∧ 0 ≤ l ∧ l < A 2 1) → (K (some (some (vI 1))) F A)))
  refine ⟨by exact hp, ?_⟩
  refine ⟨fun c1 => ?_, fun c1 => ?_⟩
  · skip
    skip
    refine ⟨by exact ⟨by decide, by decide⟩, ?_⟩
    first | exact h.1 c1 | exact h.2 c1 | exact h.1 c1 _ _ g1 | exact h.1 c1 _ g1 | exact h.1 c1 _ _ _ _ g1
  · skip
    skip
    first | exact h.1 c1 | exact h.2 c1 | exact h.1 c1 _ _ g1 | exact h.1 c1 _ g1 | exact h.1 c1 _ _ _ _ g1
theorem qtL_sideOf (l : Launch) (hst : l.stackTraces = false) : am_CT l layL qeL_sideOf := am_met2 (hp := 15) (hn := 17) (i := 5) (en := 12) rfl (by decide +kernel) rfl rfl rfl rfl rfl rfl (Or.inl ⟨by decide +kernel, rfl⟩) (by decide) (dc_cov (n := 21) (by decide +kernel) (by decide +kernel)) (fun _ => rfl) rfl (qzL_sideOf l hst) (fun as F A K h => by
  replace h : qsL_sideOf as F A K := h
  unfold qsL_sideOf at h
  split at h
  · rename_i x c l e o
    refine ⟨by first | exact Nat.le_of_ble_eq_true rfl | simp [am_fl, am_cat], ?_⟩
    replace h := am_cond2 h
    rcases h with ⟨hb, h⟩ | h
    · simp only [Bool.and_eq_true] at hb
      obtain ⟨hb0, hb1⟩ := hb
      have hb0 := am_bq hb0
      subst hb0
      have hb1 := am_bq hb1
      subst hb1
      exact am_way_line (qvL_sideOf_0_43 c l e F A K h)
    exact h.elim
  · exact h.elim)
def qkL_rootCount : Nat → Option CI := fun pc => cond (Nat.ble 19 pc) none (cond (Nat.ble 9 pc) (cond (Nat.ble 15 pc) (cond (Nat.ble 17 pc) (cond (Nat.beq pc 17) (some (.iconst 0, 18, [])) (cond (Nat.beq pc 18) (some (.ireturn, 19, [])) (none))) (cond (Nat.beq pc 15) (some (.iconst 1, 16, [])) (cond (Nat.beq pc 16) (some (.ireturn, 17, [])) (none)))) (cond (Nat.beq pc 9) (some (.lastore, 10, [])) (cond (Nat.beq pc 10) (some (.goto 7, 13, [17])) (cond (Nat.beq pc 13) (some (.astore 4, 15, [])) (none))))) (cond (Nat.ble 3 pc) (cond (Nat.ble 5 pc) (cond (Nat.beq pc 5) (some (.invokevirtual 61, 8, [])) (cond (Nat.beq pc 8) (some (.i2l, 9, [])) (none))) (cond (Nat.beq pc 3) (some (.iload_n 1, 4, [])) (cond (Nat.beq pc 4) (some (.iload_n 2, 5, [])) (none)))) (cond (Nat.beq pc 0) (some (.aload_n 3, 1, [])) (cond (Nat.beq pc 1) (some (.iconst 0, 2, [])) (cond (Nat.beq pc 2) (some (.aload_n 0, 3, [])) (none))))))
theorem qkL_rootCount_ok : ∀ pc i nx ts, qkL_rootCount pc = some (i, nx, ts) → am_cok cL_rootCount pc (i, nx, ts) = true := fun pc i nx ts h => am_tok_ok (n := 19) (by decide +kernel) (fun pc h => by show cond (Nat.ble 19 pc) _ _ = _; rw [Nat.ble_eq_true_of_le h]; rfl) h
def qaL_rootCount : Nat → Option CE := fun k => cond (Nat.beq k 61) (some qeX8_rootCount) (none)
theorem qyL_rootCount (l : Launch) (hst : l.stackTraces = false) : ∀ k e1, qaL_rootCount k = some e1 → am_cal l layL RL 22 k e1 ∧ True := q_cons ⟨am_calV (ci := 8) (am_CT_mono layX_L (qtX8_rootCount l hst)) qbX8_rootCount (by decide) rfl (am_tb_at 1074 (by decide +kernel) rfl), trivial⟩ (q_nil)
def qxL_rootCount : CX := (qkL_rootCount, layL, qfL, qaL_rootCount, qcL, qlL, qmL, (some .int), false, (some 15), 2, none, fun _ => none)
theorem qzL_rootCount (l : Launch) (hst : l.stackTraces = false) : am_sta l qxL_rootCount RL 22 cL_rootCount := ⟨qkL_rootCount_ok, layL_ok, qfL_ok, qcL_ok, qlL_ok, am_mthP qmL_ok (by decide), fun k e1 h => (qyL_rootCount l hst k e1 h).1⟩
def qsL_rootCount : SP := fun as F A K => match as with
  | [.inr (.inr x), .inl c, .inl l, .inr (.inr o)] => cond (Nat.beq x 0 && Nat.beq o 43) ((fgOK (A 2) ∧ (-2147483648 ≤ c ∧ c < 2147483648) ∧ (-2147483648 ≤ l ∧ l < 2147483648) ∧ rtB (A 2)) ∧ (((0 ≤ c ∧ c < A 2 0) ∧ 0 ≤ l ∧ l < A 2 1 → (∀ (G_1 : FF) (B_1 : AA), (qrP F G_1 A B_1) → (K (some (some (vI 0))) G_1 (upA B_1 43 (w32 0) (w32 (if azP (cfL (A 2) c l) (Int.toNat (A 2 (18 + c))) then -1 else ((rtsX (A 2) c l).length : Int))))))) ∧ (¬ ((0 ≤ c ∧ c < A 2 0) ∧ 0 ≤ l ∧ l < A 2 1) → (K (some (some (vI 1))) F A)))) (False)
  | _ => False
def qeL_rootCount : CE := (yL_rootCount, cL_rootCount, 5, (some .int), 4, none, 2, [(0, 10, 13, 13)], 2, 22, qsL_rootCount)
theorem qbL_rootCount : am_mb qeL_rootCount := ⟨am_tb_at 1073 (by decide +kernel) rfl, am_tb_at 113 (by decide +kernel) rfl, ⟨by decide, by decide, by decide +kernel⟩, by decide, am_tb_at 1072 (by decide +kernel) rfl⟩
set_option maxRecDepth 20000 in
theorem qvL_rootCount_0_43 (c : Int) (l : Int) (F : FF) (A : AA) (K : KK) (h : (fgOK (A 2) ∧ (-2147483648 ≤ c ∧ c < 2147483648) ∧ (-2147483648 ≤ l ∧ l < 2147483648) ∧ rtB (A 2)) ∧ (((0 ≤ c ∧ c < A 2 0) ∧ 0 ≤ l ∧ l < A 2 1 → (∀ (G_1 : FF) (B_1 : AA), (qrP F G_1 A B_1) → (K (some (some (vI 0))) G_1 (upA B_1 43 (w32 0) (w32 (if azP (cfL (A 2) c l) (Int.toNat (A 2 (18 + c))) then -1 else ((rtsX (A 2) c l).length : Int))))))) ∧ (¬ ((0 ≤ c ∧ c < A 2 0) ∧ 0 ≤ l ∧ l < A 2 1) → (K (some (some (vI 1))) F A)))) : am_line qxL_rootCount 12 [vR 0, vI c, vI l, vR 43] 5 F A K := by
  show am_stp qxL_rootCount (am_run qxL_rootCount (fun _ => none) (fun _ _ _ _ _ _ => False) K 12) K 0 [some (vR 0), some (vI c), some (vI l), some (vR 43), none] [] F A 0
  obtain ⟨hp, h⟩ := h
  show (fgOK (A 2) ∧ (-2147483648 ≤ c ∧ c < 2147483648) ∧ (-2147483648 ≤ l ∧ l < 2147483648) ∧ rtB (A 2)) ∧ (((0 ≤ c ∧ c < A 2 0) ∧ 0 ≤ l ∧ l < A 2 1 → (∀ (G_1 : FF) (B_1 : AA), (qrP F G_1 A B_1) → ((0 ≤ w32 0 ∧ w32 0 < 1) ∧ (K (some (some (vI 0))) G_1 (upA B_1 43 (w32 0) (w32 (if azP (cfL (A 2) c l) (Int.toNat (A 2 (18 + c))) then -1 else ((rtsX (A 2) c l).length : Int)))))))) ∧ (¬ ((0 ≤ c ∧ c < A 2 0) ∧ 0 ≤ l ∧ l < A 2 1) → (K (some (some (vI 1))) F A)))
  refine ⟨by exact hp, ?_⟩
  refine ⟨fun c1 => ?_, fun c1 => ?_⟩
  · skip
    skip
    intro G_1 B_1 g1
    refine ⟨by exact ⟨by decide, by decide⟩, ?_⟩
    first | exact h.1 c1 | exact h.2 c1 | exact h.1 c1 _ _ g1 | exact h.1 c1 _ g1 | exact h.1 c1 _ _ _ _ g1
  · skip
    skip
    first | exact h.1 c1 | exact h.2 c1 | exact h.1 c1 _ _ g1 | exact h.1 c1 _ g1 | exact h.1 c1 _ _ _ _ g1
theorem qtL_rootCount (l : Launch) (hst : l.stackTraces = false) : am_CT l layL qeL_rootCount := am_met2 (hp := 13) (hn := 15) (i := 4) (en := 10) rfl (by decide +kernel) rfl rfl rfl rfl rfl rfl (Or.inl ⟨by decide +kernel, rfl⟩) (by decide) (dc_cov (n := 19) (by decide +kernel) (by decide +kernel)) (fun _ => rfl) rfl (qzL_rootCount l hst) (fun as F A K h => by
  replace h : qsL_rootCount as F A K := h
  unfold qsL_rootCount at h
  split at h
  · rename_i x c l o
    refine ⟨by first | exact Nat.le_of_ble_eq_true rfl | simp [am_fl, am_cat], ?_⟩
    replace h := am_cond2 h
    rcases h with ⟨hb, h⟩ | h
    · simp only [Bool.and_eq_true] at hb
      obtain ⟨hb0, hb1⟩ := hb
      have hb0 := am_bq hb0
      subst hb0
      have hb1 := am_bq hb1
      subst hb1
      exact am_way_line (qvL_rootCount_0_43 c l F A K h)
    exact h.elim
  · exact h.elim)
def qkL_rootsOf : Nat → Option CI := fun pc => cond (Nat.ble 21 pc) none (cond (Nat.ble 10 pc) (cond (Nat.ble 17 pc) (cond (Nat.ble 19 pc) (cond (Nat.beq pc 19) (some (.iconst 0, 20, [])) (cond (Nat.beq pc 20) (some (.ireturn, 21, [])) (none))) (cond (Nat.beq pc 17) (some (.iconst 1, 18, [])) (cond (Nat.beq pc 18) (some (.ireturn, 19, [])) (none)))) (cond (Nat.ble 12 pc) (cond (Nat.beq pc 12) (some (.goto 7, 15, [19])) (cond (Nat.beq pc 15) (some (.astore 5, 17, [])) (none))) (cond (Nat.beq pc 10) (some (.i2l, 11, [])) (cond (Nat.beq pc 11) (some (.lastore, 12, [])) (none))))) (cond (Nat.ble 4 pc) (cond (Nat.ble 6 pc) (cond (Nat.beq pc 6) (some (.iload_n 3, 7, [])) (cond (Nat.beq pc 7) (some (.invokevirtual 64, 10, [])) (none))) (cond (Nat.beq pc 4) (some (.iload_n 1, 5, [])) (cond (Nat.beq pc 5) (some (.iload_n 2, 6, [])) (none)))) (cond (Nat.beq pc 0) (some (.aload 4, 2, [])) (cond (Nat.beq pc 2) (some (.iconst 0, 3, [])) (cond (Nat.beq pc 3) (some (.aload_n 0, 4, [])) (none))))))
theorem qkL_rootsOf_ok : ∀ pc i nx ts, qkL_rootsOf pc = some (i, nx, ts) → am_cok cL_rootsOf pc (i, nx, ts) = true := fun pc i nx ts h => am_tok_ok (n := 21) (by decide +kernel) (fun pc h => by show cond (Nat.ble 21 pc) _ _ = _; rw [Nat.ble_eq_true_of_le h]; rfl) h
def qaL_rootsOf : Nat → Option CE := fun k => cond (Nat.beq k 64) (some qeX8_rootsOf) (none)
theorem qyL_rootsOf (l : Launch) (hst : l.stackTraces = false) : ∀ k e1, qaL_rootsOf k = some e1 → am_cal l layL RL 22 k e1 ∧ True := q_cons ⟨am_calV (ci := 8) (am_CT_mono layX_L (qtX8_rootsOf l hst)) qbX8_rootsOf (by decide) rfl (am_tb_at 1085 (by decide +kernel) rfl), trivial⟩ (q_nil)
def qxL_rootsOf : CX := (qkL_rootsOf, layL, qfL, qaL_rootsOf, qcL, qlL, qmL, (some .int), false, (some 17), 2, none, fun _ => none)
theorem qzL_rootsOf (l : Launch) (hst : l.stackTraces = false) : am_sta l qxL_rootsOf RL 22 cL_rootsOf := ⟨qkL_rootsOf_ok, layL_ok, qfL_ok, qcL_ok, qlL_ok, am_mthP qmL_ok (by decide), fun k e1 h => (qyL_rootsOf l hst k e1 h).1⟩
def qsL_rootsOf : SP := fun as F A K => match as with
  | [.inr (.inr x), .inl c, .inl l, .inl k, .inr (.inr o)] => cond (Nat.beq x 0 && Nat.beq o 43) ((fgOK (A 2) ∧ (-2147483648 ≤ c ∧ c < 2147483648) ∧ (-2147483648 ≤ l ∧ l < 2147483648) ∧ (-2147483648 ≤ k ∧ k < 2147483648) ∧ rtB (A 2)) ∧ (((0 ≤ c ∧ c < A 2 0) ∧ 0 ≤ l ∧ l < A 2 1 → (∀ (G_1 : FF) (B_1 : AA), (qrP F G_1 A B_1) → (K (some (some (vI 0))) G_1 (upA B_1 43 (w32 0) (w32 (if 0 ≤ k ∧ k ≤ 2 then (if azP (cfL (A 2) c l) (Int.toNat (A 2 (18 + c))) then -1 else cntK (ktF (rtsX (A 2) c l)) k (rtsX (A 2) c l).length) else -2)))))) ∧ (¬ ((0 ≤ c ∧ c < A 2 0) ∧ 0 ≤ l ∧ l < A 2 1) → (K (some (some (vI 1))) F A)))) (False)
  | _ => False
def qeL_rootsOf : CE := (yL_rootsOf, cL_rootsOf, 6, (some .int), 5, none, 2, [(0, 12, 15, 13)], 2, 22, qsL_rootsOf)
theorem qbL_rootsOf : am_mb qeL_rootsOf := ⟨am_tb_at 1084 (by decide +kernel) rfl, am_tb_at 113 (by decide +kernel) rfl, ⟨by decide, by decide, by decide +kernel⟩, by decide, am_tb_at 1083 (by decide +kernel) rfl⟩
set_option maxRecDepth 20000 in
theorem qvL_rootsOf_0_43 (c : Int) (l : Int) (k : Int) (F : FF) (A : AA) (K : KK) (h : (fgOK (A 2) ∧ (-2147483648 ≤ c ∧ c < 2147483648) ∧ (-2147483648 ≤ l ∧ l < 2147483648) ∧ (-2147483648 ≤ k ∧ k < 2147483648) ∧ rtB (A 2)) ∧ (((0 ≤ c ∧ c < A 2 0) ∧ 0 ≤ l ∧ l < A 2 1 → (∀ (G_1 : FF) (B_1 : AA), (qrP F G_1 A B_1) → (K (some (some (vI 0))) G_1 (upA B_1 43 (w32 0) (w32 (if 0 ≤ k ∧ k ≤ 2 then (if azP (cfL (A 2) c l) (Int.toNat (A 2 (18 + c))) then -1 else cntK (ktF (rtsX (A 2) c l)) k (rtsX (A 2) c l).length) else -2)))))) ∧ (¬ ((0 ≤ c ∧ c < A 2 0) ∧ 0 ≤ l ∧ l < A 2 1) → (K (some (some (vI 1))) F A)))) : am_line qxL_rootsOf 13 [vR 0, vI c, vI l, vI k, vR 43] 6 F A K := by
  show am_stp qxL_rootsOf (am_run qxL_rootsOf (fun _ => none) (fun _ _ _ _ _ _ => False) K 13) K 0 [some (vR 0), some (vI c), some (vI l), some (vI k), some (vR 43), none] [] F A 0
  obtain ⟨hp, h⟩ := h
  show (fgOK (A 2) ∧ (-2147483648 ≤ c ∧ c < 2147483648) ∧ (-2147483648 ≤ l ∧ l < 2147483648) ∧ (-2147483648 ≤ k ∧ k < 2147483648) ∧ rtB (A 2)) ∧ (((0 ≤ c ∧ c < A 2 0) ∧ 0 ≤ l ∧ l < A 2 1 → (∀ (G_1 : FF) (B_1 : AA), (qrP F G_1 A B_1) → ((0 ≤ w32 0 ∧ w32 0 < 1) ∧ (K (some (some (vI 0))) G_1 (upA B_1 43 (w32 0) (w32 (if 0 ≤ k ∧ k ≤ 2 then (if azP (cfL (A 2) c l) (Int.toNat (A 2 (18 + c))) then -1 else cntK (ktF (rtsX (A 2) c l)) k (rtsX (A 2) c l).length) else -2))))))) ∧ (¬ ((0 ≤ c ∧ c < A 2 0) ∧ 0 ≤ l ∧ l < A 2 1) → (K (some (some (vI 1))) F A)))
  refine ⟨by exact hp, ?_⟩
  refine ⟨fun c1 => ?_, fun c1 => ?_⟩
  · skip
    skip
    intro G_1 B_1 g1
    refine ⟨by exact ⟨by decide, by decide⟩, ?_⟩
    first | exact h.1 c1 | exact h.2 c1 | exact h.1 c1 _ _ g1 | exact h.1 c1 _ g1 | exact h.1 c1 _ _ _ _ g1
  · skip
    skip
    first | exact h.1 c1 | exact h.2 c1 | exact h.1 c1 _ _ g1 | exact h.1 c1 _ g1 | exact h.1 c1 _ _ _ _ g1
theorem qtL_rootsOf (l : Launch) (hst : l.stackTraces = false) : am_CT l layL qeL_rootsOf := am_met2 (hp := 15) (hn := 17) (i := 5) (en := 12) rfl (by decide +kernel) rfl rfl rfl rfl rfl rfl (Or.inl ⟨by decide +kernel, rfl⟩) (by decide) (dc_cov (n := 21) (by decide +kernel) (by decide +kernel)) (fun _ => rfl) rfl (qzL_rootsOf l hst) (fun as F A K h => by
  replace h : qsL_rootsOf as F A K := h
  unfold qsL_rootsOf at h
  split at h
  · rename_i x c l k o
    refine ⟨by first | exact Nat.le_of_ble_eq_true rfl | simp [am_fl, am_cat], ?_⟩
    replace h := am_cond2 h
    rcases h with ⟨hb, h⟩ | h
    · simp only [Bool.and_eq_true] at hb
      obtain ⟨hb0, hb1⟩ := hb
      have hb0 := am_bq hb0
      subst hb0
      have hb1 := am_bq hb1
      subst hb1
      exact am_way_line (qvL_rootsOf_0_43 c l k F A K h)
    exact h.elim
  · exact h.elim)
def qkL_rootKind : Nat → Option CI := fun pc => cond (Nat.ble 21 pc) none (cond (Nat.ble 10 pc) (cond (Nat.ble 17 pc) (cond (Nat.ble 19 pc) (cond (Nat.beq pc 19) (some (.iconst 0, 20, [])) (cond (Nat.beq pc 20) (some (.ireturn, 21, [])) (none))) (cond (Nat.beq pc 17) (some (.iconst 1, 18, [])) (cond (Nat.beq pc 18) (some (.ireturn, 19, [])) (none)))) (cond (Nat.ble 12 pc) (cond (Nat.beq pc 12) (some (.goto 7, 15, [19])) (cond (Nat.beq pc 15) (some (.astore 5, 17, [])) (none))) (cond (Nat.beq pc 10) (some (.i2l, 11, [])) (cond (Nat.beq pc 11) (some (.lastore, 12, [])) (none))))) (cond (Nat.ble 4 pc) (cond (Nat.ble 6 pc) (cond (Nat.beq pc 6) (some (.iload_n 3, 7, [])) (cond (Nat.beq pc 7) (some (.invokevirtual 67, 10, [])) (none))) (cond (Nat.beq pc 4) (some (.iload_n 1, 5, [])) (cond (Nat.beq pc 5) (some (.iload_n 2, 6, [])) (none)))) (cond (Nat.beq pc 0) (some (.aload 4, 2, [])) (cond (Nat.beq pc 2) (some (.iconst 0, 3, [])) (cond (Nat.beq pc 3) (some (.aload_n 0, 4, [])) (none))))))
theorem qkL_rootKind_ok : ∀ pc i nx ts, qkL_rootKind pc = some (i, nx, ts) → am_cok cL_rootKind pc (i, nx, ts) = true := fun pc i nx ts h => am_tok_ok (n := 21) (by decide +kernel) (fun pc h => by show cond (Nat.ble 21 pc) _ _ = _; rw [Nat.ble_eq_true_of_le h]; rfl) h
def qaL_rootKind : Nat → Option CE := fun k => cond (Nat.beq k 67) (some qeX8_rootKind) (none)
theorem qyL_rootKind (l : Launch) (hst : l.stackTraces = false) : ∀ k e1, qaL_rootKind k = some e1 → am_cal l layL RL 22 k e1 ∧ True := q_cons ⟨am_calV (ci := 8) (am_CT_mono layX_L (qtX8_rootKind l hst)) qbX8_rootKind (by decide) rfl (am_tb_at 1092 (by decide +kernel) rfl), trivial⟩ (q_nil)
def qxL_rootKind : CX := (qkL_rootKind, layL, qfL, qaL_rootKind, qcL, qlL, qmL, (some .int), false, (some 17), 2, none, fun _ => none)
theorem qzL_rootKind (l : Launch) (hst : l.stackTraces = false) : am_sta l qxL_rootKind RL 22 cL_rootKind := ⟨qkL_rootKind_ok, layL_ok, qfL_ok, qcL_ok, qlL_ok, am_mthP qmL_ok (by decide), fun k e1 h => (qyL_rootKind l hst k e1 h).1⟩
def qsL_rootKind : SP := fun as F A K => match as with
  | [.inr (.inr x), .inl c, .inl l, .inl r, .inr (.inr o)] => cond (Nat.beq x 0 && Nat.beq o 43) ((fgOK (A 2) ∧ (-2147483648 ≤ c ∧ c < 2147483648) ∧ (-2147483648 ≤ l ∧ l < 2147483648) ∧ (-2147483648 ≤ r ∧ r < 2147483648) ∧ rtB (A 2)) ∧ (((0 ≤ c ∧ c < A 2 0) ∧ 0 ≤ l ∧ l < A 2 1 → (∀ (G_1 : FF) (B_1 : AA), (qrP F G_1 A B_1) → (K (some (some (vI 0))) G_1 (upA B_1 43 (w32 0) (w32 (if 0 ≤ r ∧ r < ((rtsX (A 2) c l).length : Int) then ((rtsX (A 2) c l).getD (Int.toNat r) (0, 0, 0)).1 else -1)))))) ∧ (¬ ((0 ≤ c ∧ c < A 2 0) ∧ 0 ≤ l ∧ l < A 2 1) → (K (some (some (vI 1))) F A)))) (False)
  | _ => False
def qeL_rootKind : CE := (yL_rootKind, cL_rootKind, 6, (some .int), 5, none, 2, [(0, 12, 15, 13)], 2, 22, qsL_rootKind)
theorem qbL_rootKind : am_mb qeL_rootKind := ⟨am_tb_at 1091 (by decide +kernel) rfl, am_tb_at 113 (by decide +kernel) rfl, ⟨by decide, by decide, by decide +kernel⟩, by decide, am_tb_at 1090 (by decide +kernel) rfl⟩
set_option maxRecDepth 20000 in
theorem qvL_rootKind_0_43 (c : Int) (l : Int) (r : Int) (F : FF) (A : AA) (K : KK) (h : (fgOK (A 2) ∧ (-2147483648 ≤ c ∧ c < 2147483648) ∧ (-2147483648 ≤ l ∧ l < 2147483648) ∧ (-2147483648 ≤ r ∧ r < 2147483648) ∧ rtB (A 2)) ∧ (((0 ≤ c ∧ c < A 2 0) ∧ 0 ≤ l ∧ l < A 2 1 → (∀ (G_1 : FF) (B_1 : AA), (qrP F G_1 A B_1) → (K (some (some (vI 0))) G_1 (upA B_1 43 (w32 0) (w32 (if 0 ≤ r ∧ r < ((rtsX (A 2) c l).length : Int) then ((rtsX (A 2) c l).getD (Int.toNat r) (0, 0, 0)).1 else -1)))))) ∧ (¬ ((0 ≤ c ∧ c < A 2 0) ∧ 0 ≤ l ∧ l < A 2 1) → (K (some (some (vI 1))) F A)))) : am_line qxL_rootKind 13 [vR 0, vI c, vI l, vI r, vR 43] 6 F A K := by
  show am_stp qxL_rootKind (am_run qxL_rootKind (fun _ => none) (fun _ _ _ _ _ _ => False) K 13) K 0 [some (vR 0), some (vI c), some (vI l), some (vI r), some (vR 43), none] [] F A 0
  obtain ⟨hp, h⟩ := h
  show (fgOK (A 2) ∧ (-2147483648 ≤ c ∧ c < 2147483648) ∧ (-2147483648 ≤ l ∧ l < 2147483648) ∧ (-2147483648 ≤ r ∧ r < 2147483648) ∧ rtB (A 2)) ∧ (((0 ≤ c ∧ c < A 2 0) ∧ 0 ≤ l ∧ l < A 2 1 → (∀ (G_1 : FF) (B_1 : AA), (qrP F G_1 A B_1) → ((0 ≤ w32 0 ∧ w32 0 < 1) ∧ (K (some (some (vI 0))) G_1 (upA B_1 43 (w32 0) (w32 (if 0 ≤ r ∧ r < ((rtsX (A 2) c l).length : Int) then ((rtsX (A 2) c l).getD (Int.toNat r) (0, 0, 0)).1 else -1))))))) ∧ (¬ ((0 ≤ c ∧ c < A 2 0) ∧ 0 ≤ l ∧ l < A 2 1) → (K (some (some (vI 1))) F A)))
  refine ⟨by exact hp, ?_⟩
  refine ⟨fun c1 => ?_, fun c1 => ?_⟩
  · skip
    skip
    intro G_1 B_1 g1
    refine ⟨by exact ⟨by decide, by decide⟩, ?_⟩
    first | exact h.1 c1 | exact h.2 c1 | exact h.1 c1 _ _ g1 | exact h.1 c1 _ g1 | exact h.1 c1 _ _ _ _ g1
  · skip
    skip
    first | exact h.1 c1 | exact h.2 c1 | exact h.1 c1 _ _ g1 | exact h.1 c1 _ g1 | exact h.1 c1 _ _ _ _ g1
theorem qtL_rootKind (l : Launch) (hst : l.stackTraces = false) : am_CT l layL qeL_rootKind := am_met2 (hp := 15) (hn := 17) (i := 5) (en := 12) rfl (by decide +kernel) rfl rfl rfl rfl rfl rfl (Or.inl ⟨by decide +kernel, rfl⟩) (by decide) (dc_cov (n := 21) (by decide +kernel) (by decide +kernel)) (fun _ => rfl) rfl (qzL_rootKind l hst) (fun as F A K h => by
  replace h : qsL_rootKind as F A K := h
  unfold qsL_rootKind at h
  split at h
  · rename_i x c l r o
    refine ⟨by first | exact Nat.le_of_ble_eq_true rfl | simp [am_fl, am_cat], ?_⟩
    replace h := am_cond2 h
    rcases h with ⟨hb, h⟩ | h
    · simp only [Bool.and_eq_true] at hb
      obtain ⟨hb0, hb1⟩ := hb
      have hb0 := am_bq hb0
      subst hb0
      have hb1 := am_bq hb1
      subst hb1
      exact am_way_line (qvL_rootKind_0_43 c l r F A K h)
    exact h.elim
  · exact h.elim)
def qkL_rootDepth : Nat → Option CI := fun pc => cond (Nat.ble 21 pc) none (cond (Nat.ble 10 pc) (cond (Nat.ble 17 pc) (cond (Nat.ble 19 pc) (cond (Nat.beq pc 19) (some (.iconst 0, 20, [])) (cond (Nat.beq pc 20) (some (.ireturn, 21, [])) (none))) (cond (Nat.beq pc 17) (some (.iconst 1, 18, [])) (cond (Nat.beq pc 18) (some (.ireturn, 19, [])) (none)))) (cond (Nat.ble 12 pc) (cond (Nat.beq pc 12) (some (.goto 7, 15, [19])) (cond (Nat.beq pc 15) (some (.astore 5, 17, [])) (none))) (cond (Nat.beq pc 10) (some (.i2l, 11, [])) (cond (Nat.beq pc 11) (some (.lastore, 12, [])) (none))))) (cond (Nat.ble 4 pc) (cond (Nat.ble 6 pc) (cond (Nat.beq pc 6) (some (.iload_n 3, 7, [])) (cond (Nat.beq pc 7) (some (.invokevirtual 70, 10, [])) (none))) (cond (Nat.beq pc 4) (some (.iload_n 1, 5, [])) (cond (Nat.beq pc 5) (some (.iload_n 2, 6, [])) (none)))) (cond (Nat.beq pc 0) (some (.aload 4, 2, [])) (cond (Nat.beq pc 2) (some (.iconst 0, 3, [])) (cond (Nat.beq pc 3) (some (.aload_n 0, 4, [])) (none))))))
theorem qkL_rootDepth_ok : ∀ pc i nx ts, qkL_rootDepth pc = some (i, nx, ts) → am_cok cL_rootDepth pc (i, nx, ts) = true := fun pc i nx ts h => am_tok_ok (n := 21) (by decide +kernel) (fun pc h => by show cond (Nat.ble 21 pc) _ _ = _; rw [Nat.ble_eq_true_of_le h]; rfl) h
def qaL_rootDepth : Nat → Option CE := fun k => cond (Nat.beq k 70) (some qeX8_rootDepth) (none)
theorem qyL_rootDepth (l : Launch) (hst : l.stackTraces = false) : ∀ k e1, qaL_rootDepth k = some e1 → am_cal l layL RL 22 k e1 ∧ True := q_cons ⟨am_calV (ci := 8) (am_CT_mono layX_L (qtX8_rootDepth l hst)) qbX8_rootDepth (by decide) rfl (am_tb_at 1100 (by decide +kernel) rfl), trivial⟩ (q_nil)
def qxL_rootDepth : CX := (qkL_rootDepth, layL, qfL, qaL_rootDepth, qcL, qlL, qmL, (some .int), false, (some 17), 2, none, fun _ => none)
theorem qzL_rootDepth (l : Launch) (hst : l.stackTraces = false) : am_sta l qxL_rootDepth RL 22 cL_rootDepth := ⟨qkL_rootDepth_ok, layL_ok, qfL_ok, qcL_ok, qlL_ok, am_mthP qmL_ok (by decide), fun k e1 h => (qyL_rootDepth l hst k e1 h).1⟩
def qsL_rootDepth : SP := fun as F A K => match as with
  | [.inr (.inr x), .inl c, .inl l, .inl r, .inr (.inr o)] => cond (Nat.beq x 0 && Nat.beq o 43) ((fgOK (A 2) ∧ (-2147483648 ≤ c ∧ c < 2147483648) ∧ (-2147483648 ≤ l ∧ l < 2147483648) ∧ (-2147483648 ≤ r ∧ r < 2147483648) ∧ rtB (A 2)) ∧ (((0 ≤ c ∧ c < A 2 0) ∧ 0 ≤ l ∧ l < A 2 1 → (∀ (G_1 : FF) (B_1 : AA), (qrP F G_1 A B_1) → (K (some (some (vI 0))) G_1 (upA B_1 43 (w32 0) (w32 (if 0 ≤ r ∧ r < ((rtsX (A 2) c l).length : Int) then ((rtsX (A 2) c l).getD (Int.toNat r) (0, 0, 0)).2.1 else -1)))))) ∧ (¬ ((0 ≤ c ∧ c < A 2 0) ∧ 0 ≤ l ∧ l < A 2 1) → (K (some (some (vI 1))) F A)))) (False)
  | _ => False
def qeL_rootDepth : CE := (yL_rootDepth, cL_rootDepth, 6, (some .int), 5, none, 2, [(0, 12, 15, 13)], 2, 22, qsL_rootDepth)
theorem qbL_rootDepth : am_mb qeL_rootDepth := ⟨am_tb_at 1099 (by decide +kernel) rfl, am_tb_at 113 (by decide +kernel) rfl, ⟨by decide, by decide, by decide +kernel⟩, by decide, am_tb_at 1098 (by decide +kernel) rfl⟩
set_option maxRecDepth 20000 in
theorem qvL_rootDepth_0_43 (c : Int) (l : Int) (r : Int) (F : FF) (A : AA) (K : KK) (h : (fgOK (A 2) ∧ (-2147483648 ≤ c ∧ c < 2147483648) ∧ (-2147483648 ≤ l ∧ l < 2147483648) ∧ (-2147483648 ≤ r ∧ r < 2147483648) ∧ rtB (A 2)) ∧ (((0 ≤ c ∧ c < A 2 0) ∧ 0 ≤ l ∧ l < A 2 1 → (∀ (G_1 : FF) (B_1 : AA), (qrP F G_1 A B_1) → (K (some (some (vI 0))) G_1 (upA B_1 43 (w32 0) (w32 (if 0 ≤ r ∧ r < ((rtsX (A 2) c l).length : Int) then ((rtsX (A 2) c l).getD (Int.toNat r) (0, 0, 0)).2.1 else -1)))))) ∧ (¬ ((0 ≤ c ∧ c < A 2 0) ∧ 0 ≤ l ∧ l < A 2 1) → (K (some (some (vI 1))) F A)))) : am_line qxL_rootDepth 13 [vR 0, vI c, vI l, vI r, vR 43] 6 F A K := by
  show am_stp qxL_rootDepth (am_run qxL_rootDepth (fun _ => none) (fun _ _ _ _ _ _ => False) K 13) K 0 [some (vR 0), some (vI c), some (vI l), some (vI r), some (vR 43), none] [] F A 0
  obtain ⟨hp, h⟩ := h
  show (fgOK (A 2) ∧ (-2147483648 ≤ c ∧ c < 2147483648) ∧ (-2147483648 ≤ l ∧ l < 2147483648) ∧ (-2147483648 ≤ r ∧ r < 2147483648) ∧ rtB (A 2)) ∧ (((0 ≤ c ∧ c < A 2 0) ∧ 0 ≤ l ∧ l < A 2 1 → (∀ (G_1 : FF) (B_1 : AA), (qrP F G_1 A B_1) → ((0 ≤ w32 0 ∧ w32 0 < 1) ∧ (K (some (some (vI 0))) G_1 (upA B_1 43 (w32 0) (w32 (if 0 ≤ r ∧ r < ((rtsX (A 2) c l).length : Int) then ((rtsX (A 2) c l).getD (Int.toNat r) (0, 0, 0)).2.1 else -1))))))) ∧ (¬ ((0 ≤ c ∧ c < A 2 0) ∧ 0 ≤ l ∧ l < A 2 1) → (K (some (some (vI 1))) F A)))
  refine ⟨by exact hp, ?_⟩
  refine ⟨fun c1 => ?_, fun c1 => ?_⟩
  · skip
    skip
    intro G_1 B_1 g1
    refine ⟨by exact ⟨by decide, by decide⟩, ?_⟩
    first | exact h.1 c1 | exact h.2 c1 | exact h.1 c1 _ _ g1 | exact h.1 c1 _ g1 | exact h.1 c1 _ _ _ _ g1
  · skip
    skip
    first | exact h.1 c1 | exact h.2 c1 | exact h.1 c1 _ _ g1 | exact h.1 c1 _ g1 | exact h.1 c1 _ _ _ _ g1
theorem qtL_rootDepth (l : Launch) (hst : l.stackTraces = false) : am_CT l layL qeL_rootDepth := am_met2 (hp := 15) (hn := 17) (i := 5) (en := 12) rfl (by decide +kernel) rfl rfl rfl rfl rfl rfl (Or.inl ⟨by decide +kernel, rfl⟩) (by decide) (dc_cov (n := 21) (by decide +kernel) (by decide +kernel)) (fun _ => rfl) rfl (qzL_rootDepth l hst) (fun as F A K h => by
  replace h : qsL_rootDepth as F A K := h
  unfold qsL_rootDepth at h
  split at h
  · rename_i x c l r o
    refine ⟨by first | exact Nat.le_of_ble_eq_true rfl | simp [am_fl, am_cat], ?_⟩
    replace h := am_cond2 h
    rcases h with ⟨hb, h⟩ | h
    · simp only [Bool.and_eq_true] at hb
      obtain ⟨hb0, hb1⟩ := hb
      have hb0 := am_bq hb0
      subst hb0
      have hb1 := am_bq hb1
      subst hb1
      exact am_way_line (qvL_rootDepth_0_43 c l r F A K h)
    exact h.elim
  · exact h.elim)
def qkL_rootCell : Nat → Option CI := fun pc => cond (Nat.ble 21 pc) none (cond (Nat.ble 10 pc) (cond (Nat.ble 17 pc) (cond (Nat.ble 19 pc) (cond (Nat.beq pc 19) (some (.iconst 0, 20, [])) (cond (Nat.beq pc 20) (some (.ireturn, 21, [])) (none))) (cond (Nat.beq pc 17) (some (.iconst 1, 18, [])) (cond (Nat.beq pc 18) (some (.ireturn, 19, [])) (none)))) (cond (Nat.ble 12 pc) (cond (Nat.beq pc 12) (some (.goto 7, 15, [19])) (cond (Nat.beq pc 15) (some (.astore 5, 17, [])) (none))) (cond (Nat.beq pc 10) (some (.i2l, 11, [])) (cond (Nat.beq pc 11) (some (.lastore, 12, [])) (none))))) (cond (Nat.ble 4 pc) (cond (Nat.ble 6 pc) (cond (Nat.beq pc 6) (some (.iload_n 3, 7, [])) (cond (Nat.beq pc 7) (some (.invokevirtual 73, 10, [])) (none))) (cond (Nat.beq pc 4) (some (.iload_n 1, 5, [])) (cond (Nat.beq pc 5) (some (.iload_n 2, 6, [])) (none)))) (cond (Nat.beq pc 0) (some (.aload 4, 2, [])) (cond (Nat.beq pc 2) (some (.iconst 0, 3, [])) (cond (Nat.beq pc 3) (some (.aload_n 0, 4, [])) (none))))))
theorem qkL_rootCell_ok : ∀ pc i nx ts, qkL_rootCell pc = some (i, nx, ts) → am_cok cL_rootCell pc (i, nx, ts) = true := fun pc i nx ts h => am_tok_ok (n := 21) (by decide +kernel) (fun pc h => by show cond (Nat.ble 21 pc) _ _ = _; rw [Nat.ble_eq_true_of_le h]; rfl) h
def qaL_rootCell : Nat → Option CE := fun k => cond (Nat.beq k 73) (some qeX8_rootCell) (none)
theorem qyL_rootCell (l : Launch) (hst : l.stackTraces = false) : ∀ k e1, qaL_rootCell k = some e1 → am_cal l layL RL 22 k e1 ∧ True := q_cons ⟨am_calV (ci := 8) (am_CT_mono layX_L (qtX8_rootCell l hst)) qbX8_rootCell (by decide) rfl (am_tb_at 1111 (by decide +kernel) rfl), trivial⟩ (q_nil)
def qxL_rootCell : CX := (qkL_rootCell, layL, qfL, qaL_rootCell, qcL, qlL, qmL, (some .int), false, (some 17), 2, none, fun _ => none)
theorem qzL_rootCell (l : Launch) (hst : l.stackTraces = false) : am_sta l qxL_rootCell RL 22 cL_rootCell := ⟨qkL_rootCell_ok, layL_ok, qfL_ok, qcL_ok, qlL_ok, am_mthP qmL_ok (by decide), fun k e1 h => (qyL_rootCell l hst k e1 h).1⟩
def qsL_rootCell : SP := fun as F A K => match as with
  | [.inr (.inr x), .inl c, .inl l, .inl r, .inr (.inr o)] => cond (Nat.beq x 0 && Nat.beq o 43) ((fgOK (A 2) ∧ (-2147483648 ≤ c ∧ c < 2147483648) ∧ (-2147483648 ≤ l ∧ l < 2147483648) ∧ (-2147483648 ≤ r ∧ r < 2147483648) ∧ rtB (A 2)) ∧ (((0 ≤ c ∧ c < A 2 0) ∧ 0 ≤ l ∧ l < A 2 1 → (∀ (G_1 : FF) (B_1 : AA), (qrP F G_1 A B_1) → (K (some (some (vI 0))) G_1 (upA B_1 43 (w32 0) (w32 (if 0 ≤ r ∧ r < ((rtsX (A 2) c l).length : Int) then ((rtsX (A 2) c l).getD (Int.toNat r) (0, 0, 0)).2.2 else -1)))))) ∧ (¬ ((0 ≤ c ∧ c < A 2 0) ∧ 0 ≤ l ∧ l < A 2 1) → (K (some (some (vI 1))) F A)))) (False)
  | _ => False
def qeL_rootCell : CE := (yL_rootCell, cL_rootCell, 6, (some .int), 5, none, 2, [(0, 12, 15, 13)], 2, 22, qsL_rootCell)
theorem qbL_rootCell : am_mb qeL_rootCell := ⟨am_tb_at 1110 (by decide +kernel) rfl, am_tb_at 113 (by decide +kernel) rfl, ⟨by decide, by decide, by decide +kernel⟩, by decide, am_tb_at 1109 (by decide +kernel) rfl⟩
set_option maxRecDepth 20000 in
theorem qvL_rootCell_0_43 (c : Int) (l : Int) (r : Int) (F : FF) (A : AA) (K : KK) (h : (fgOK (A 2) ∧ (-2147483648 ≤ c ∧ c < 2147483648) ∧ (-2147483648 ≤ l ∧ l < 2147483648) ∧ (-2147483648 ≤ r ∧ r < 2147483648) ∧ rtB (A 2)) ∧ (((0 ≤ c ∧ c < A 2 0) ∧ 0 ≤ l ∧ l < A 2 1 → (∀ (G_1 : FF) (B_1 : AA), (qrP F G_1 A B_1) → (K (some (some (vI 0))) G_1 (upA B_1 43 (w32 0) (w32 (if 0 ≤ r ∧ r < ((rtsX (A 2) c l).length : Int) then ((rtsX (A 2) c l).getD (Int.toNat r) (0, 0, 0)).2.2 else -1)))))) ∧ (¬ ((0 ≤ c ∧ c < A 2 0) ∧ 0 ≤ l ∧ l < A 2 1) → (K (some (some (vI 1))) F A)))) : am_line qxL_rootCell 13 [vR 0, vI c, vI l, vI r, vR 43] 6 F A K := by
  show am_stp qxL_rootCell (am_run qxL_rootCell (fun _ => none) (fun _ _ _ _ _ _ => False) K 13) K 0 [some (vR 0), some (vI c), some (vI l), some (vI r), some (vR 43), none] [] F A 0
  obtain ⟨hp, h⟩ := h
  show (fgOK (A 2) ∧ (-2147483648 ≤ c ∧ c < 2147483648) ∧ (-2147483648 ≤ l ∧ l < 2147483648) ∧ (-2147483648 ≤ r ∧ r < 2147483648) ∧ rtB (A 2)) ∧ (((0 ≤ c ∧ c < A 2 0) ∧ 0 ≤ l ∧ l < A 2 1 → (∀ (G_1 : FF) (B_1 : AA), (qrP F G_1 A B_1) → ((0 ≤ w32 0 ∧ w32 0 < 1) ∧ (K (some (some (vI 0))) G_1 (upA B_1 43 (w32 0) (w32 (if 0 ≤ r ∧ r < ((rtsX (A 2) c l).length : Int) then ((rtsX (A 2) c l).getD (Int.toNat r) (0, 0, 0)).2.2 else -1))))))) ∧ (¬ ((0 ≤ c ∧ c < A 2 0) ∧ 0 ≤ l ∧ l < A 2 1) → (K (some (some (vI 1))) F A)))
  refine ⟨by exact hp, ?_⟩
  refine ⟨fun c1 => ?_, fun c1 => ?_⟩
  · skip
    skip
    intro G_1 B_1 g1
    refine ⟨by exact ⟨by decide, by decide⟩, ?_⟩
    first | exact h.1 c1 | exact h.2 c1 | exact h.1 c1 _ _ g1 | exact h.1 c1 _ g1 | exact h.1 c1 _ _ _ _ g1
  · skip
    skip
    first | exact h.1 c1 | exact h.2 c1 | exact h.1 c1 _ _ g1 | exact h.1 c1 _ g1 | exact h.1 c1 _ _ _ _ g1
theorem qtL_rootCell (l : Launch) (hst : l.stackTraces = false) : am_CT l layL qeL_rootCell := am_met2 (hp := 15) (hn := 17) (i := 5) (en := 12) rfl (by decide +kernel) rfl rfl rfl rfl rfl rfl (Or.inl ⟨by decide +kernel, rfl⟩) (by decide) (dc_cov (n := 21) (by decide +kernel) (by decide +kernel)) (fun _ => rfl) rfl (qzL_rootCell l hst) (fun as F A K h => by
  replace h : qsL_rootCell as F A K := h
  unfold qsL_rootCell at h
  split at h
  · rename_i x c l r o
    refine ⟨by first | exact Nat.le_of_ble_eq_true rfl | simp [am_fl, am_cat], ?_⟩
    replace h := am_cond2 h
    rcases h with ⟨hb, h⟩ | h
    · simp only [Bool.and_eq_true] at hb
      obtain ⟨hb0, hb1⟩ := hb
      have hb0 := am_bq hb0
      subst hb0
      have hb1 := am_bq hb1
      subst hb1
      exact am_way_line (qvL_rootCell_0_43 c l r F A K h)
    exact h.elim
  · exact h.elim)
def qkL_linesMet : Nat → Option CI := fun pc => cond (Nat.ble 17 pc) none (cond (Nat.ble 8 pc) (cond (Nat.ble 13 pc) (cond (Nat.ble 15 pc) (cond (Nat.beq pc 15) (some (.iconst 0, 16, [])) (cond (Nat.beq pc 16) (some (.ireturn, 17, [])) (none))) (cond (Nat.beq pc 13) (some (.iconst 1, 14, [])) (cond (Nat.beq pc 14) (some (.ireturn, 15, [])) (none)))) (cond (Nat.beq pc 8) (some (.lastore, 9, [])) (cond (Nat.beq pc 9) (some (.goto 6, 12, [15])) (cond (Nat.beq pc 12) (some (.astore_n 3, 13, [])) (none))))) (cond (Nat.ble 3 pc) (cond (Nat.beq pc 3) (some (.iload_n 1, 4, [])) (cond (Nat.beq pc 4) (some (.invokevirtual 82, 7, [])) (cond (Nat.beq pc 7) (some (.i2l, 8, [])) (none)))) (cond (Nat.beq pc 0) (some (.aload_n 2, 1, [])) (cond (Nat.beq pc 1) (some (.iconst 0, 2, [])) (cond (Nat.beq pc 2) (some (.aload_n 0, 3, [])) (none))))))
theorem qkL_linesMet_ok : ∀ pc i nx ts, qkL_linesMet pc = some (i, nx, ts) → am_cok cL_linesMet pc (i, nx, ts) = true := fun pc i nx ts h => am_tok_ok (n := 17) (by decide +kernel) (fun pc h => by show cond (Nat.ble 17 pc) _ _ = _; rw [Nat.ble_eq_true_of_le h]; rfl) h
def qaL_linesMet : Nat → Option CE := fun k => cond (Nat.beq k 82) (some qeX8_linesMet) (none)
theorem qyL_linesMet (l : Launch) (hst : l.stackTraces = false) : ∀ k e1, qaL_linesMet k = some e1 → am_cal l layL RL 23 k e1 ∧ True := q_cons ⟨am_calV (ci := 8) (am_CT_mono layX_L (qtX8_linesMet l hst)) qbX8_linesMet (by decide) rfl (am_tb_at 1170 (by decide +kernel) rfl), trivial⟩ (q_nil)
def qxL_linesMet : CX := (qkL_linesMet, layL, qfL, qaL_linesMet, qcL, qlL, qmL, (some .int), false, (some 13), 1, none, fun _ => none)
theorem qzL_linesMet (l : Launch) (hst : l.stackTraces = false) : am_sta l qxL_linesMet RL 23 cL_linesMet := ⟨qkL_linesMet_ok, layL_ok, qfL_ok, qcL_ok, qlL_ok, am_mthP qmL_ok (by decide), fun k e1 h => (qyL_linesMet l hst k e1 h).1⟩
def qsL_linesMet : SP := fun as F A K => match as with
  | [.inr (.inr x), .inl c, .inr (.inr o)] => cond (Nat.beq x 0 && Nat.beq o 43) ((fgOK (A 2) ∧ (-2147483648 ≤ c ∧ c < 2147483648) ∧ rtB (A 2)) ∧ ((0 ≤ c ∧ c < A 2 0 → (∀ (G_1 : FF) (B_1 : AA), (qrP F G_1 A B_1) → (K (some (some (vI 0))) G_1 (upA B_1 43 (w32 0) (w32 (bitP (fun ii => 0 < sureF (A 2) c ii) (Int.toNat (A 2 1)))))))) ∧ (¬ (0 ≤ c ∧ c < A 2 0) → (K (some (some (vI 1))) F A)))) (False)
  | _ => False
def qeL_linesMet : CE := (yL_linesMet, cL_linesMet, 4, (some .int), 3, none, 2, [(0, 9, 12, 13)], 1, 23, qsL_linesMet)
theorem qbL_linesMet : am_mb qeL_linesMet := ⟨am_tb_at 1169 (by decide +kernel) rfl, am_tb_at 113 (by decide +kernel) rfl, ⟨by decide, by decide, by decide +kernel⟩, by decide, am_tb_at 1168 (by decide +kernel) rfl⟩
set_option maxRecDepth 20000 in
theorem qvL_linesMet_0_43 (c : Int) (F : FF) (A : AA) (K : KK) (h : (fgOK (A 2) ∧ (-2147483648 ≤ c ∧ c < 2147483648) ∧ rtB (A 2)) ∧ ((0 ≤ c ∧ c < A 2 0 → (∀ (G_1 : FF) (B_1 : AA), (qrP F G_1 A B_1) → (K (some (some (vI 0))) G_1 (upA B_1 43 (w32 0) (w32 (bitP (fun ii => 0 < sureF (A 2) c ii) (Int.toNat (A 2 1)))))))) ∧ (¬ (0 ≤ c ∧ c < A 2 0) → (K (some (some (vI 1))) F A)))) : am_line qxL_linesMet 11 [vR 0, vI c, vR 43] 4 F A K := by
  show am_stp qxL_linesMet (am_run qxL_linesMet (fun _ => none) (fun _ _ _ _ _ _ => False) K 11) K 0 [some (vR 0), some (vI c), some (vR 43), none] [] F A 0
  obtain ⟨hp, h⟩ := h
  show (fgOK (A 2) ∧ (-2147483648 ≤ c ∧ c < 2147483648) ∧ rtB (A 2)) ∧ ((0 ≤ c ∧ c < A 2 0 → (∀ (G_1 : FF) (B_1 : AA), (qrP F G_1 A B_1) → ((0 ≤ w32 0 ∧ w32 0 < 1) ∧ (K (some (some (vI 0))) G_1 (upA B_1 43 (w32 0) (w32 (bitP (fun ii => 0 < sureF (A 2) c ii) (Int.toNat (A 2 1))))))))) ∧ (¬ (0 ≤ c ∧ c < A 2 0) → (K (some (some (vI 1))) F A)))
  refine ⟨by exact hp, ?_⟩
  refine ⟨fun c1 => ?_, fun c1 => ?_⟩
  · skip
    skip
    intro G_1 B_1 g1
    refine ⟨by exact ⟨by decide, by decide⟩, ?_⟩
    first | exact h.1 c1 | exact h.2 c1 | exact h.1 c1 _ _ g1 | exact h.1 c1 _ g1 | exact h.1 c1 _ _ _ _ g1
  · skip
    skip
    first | exact h.1 c1 | exact h.2 c1 | exact h.1 c1 _ _ g1 | exact h.1 c1 _ g1 | exact h.1 c1 _ _ _ _ g1
theorem qtL_linesMet (l : Launch) (hst : l.stackTraces = false) : am_CT l layL qeL_linesMet := am_met2 (hp := 12) (hn := 13) (i := 3) (en := 9) rfl (by decide +kernel) rfl rfl rfl rfl rfl rfl (Or.inr ⟨3, rfl, by decide +kernel, rfl⟩) (by decide) (dc_cov (n := 17) (by decide +kernel) (by decide +kernel)) (fun _ => rfl) rfl (qzL_linesMet l hst) (fun as F A K h => by
  replace h : qsL_linesMet as F A K := h
  unfold qsL_linesMet at h
  split at h
  · rename_i x c o
    refine ⟨by first | exact Nat.le_of_ble_eq_true rfl | simp [am_fl, am_cat], ?_⟩
    replace h := am_cond2 h
    rcases h with ⟨hb, h⟩ | h
    · simp only [Bool.and_eq_true] at hb
      obtain ⟨hb0, hb1⟩ := hb
      have hb0 := am_bq hb0
      subst hb0
      have hb1 := am_bq hb1
      subst hb1
      exact am_way_line (qvL_linesMet_0_43 c F A K h)
    exact h.elim
  · exact h.elim)
def qkL_curvesMet : Nat → Option CI := fun pc => cond (Nat.ble 17 pc) none (cond (Nat.ble 8 pc) (cond (Nat.ble 13 pc) (cond (Nat.ble 15 pc) (cond (Nat.beq pc 15) (some (.iconst 0, 16, [])) (cond (Nat.beq pc 16) (some (.ireturn, 17, [])) (none))) (cond (Nat.beq pc 13) (some (.iconst 1, 14, [])) (cond (Nat.beq pc 14) (some (.ireturn, 15, [])) (none)))) (cond (Nat.beq pc 8) (some (.lastore, 9, [])) (cond (Nat.beq pc 9) (some (.goto 6, 12, [15])) (cond (Nat.beq pc 12) (some (.astore_n 3, 13, [])) (none))))) (cond (Nat.ble 3 pc) (cond (Nat.beq pc 3) (some (.iload_n 1, 4, [])) (cond (Nat.beq pc 4) (some (.invokevirtual 85, 7, [])) (cond (Nat.beq pc 7) (some (.i2l, 8, [])) (none)))) (cond (Nat.beq pc 0) (some (.aload_n 2, 1, [])) (cond (Nat.beq pc 1) (some (.iconst 0, 2, [])) (cond (Nat.beq pc 2) (some (.aload_n 0, 3, [])) (none))))))
theorem qkL_curvesMet_ok : ∀ pc i nx ts, qkL_curvesMet pc = some (i, nx, ts) → am_cok cL_curvesMet pc (i, nx, ts) = true := fun pc i nx ts h => am_tok_ok (n := 17) (by decide +kernel) (fun pc h => by show cond (Nat.ble 17 pc) _ _ = _; rw [Nat.ble_eq_true_of_le h]; rfl) h
def qaL_curvesMet : Nat → Option CE := fun k => cond (Nat.beq k 85) (some qeX8_curvesMet) (none)
theorem qyL_curvesMet (l : Launch) (hst : l.stackTraces = false) : ∀ k e1, qaL_curvesMet k = some e1 → am_cal l layL RL 23 k e1 ∧ True := q_cons ⟨am_calV (ci := 8) (am_CT_mono layX_L (qtX8_curvesMet l hst)) qbX8_curvesMet (by decide) rfl (am_tb_at 1177 (by decide +kernel) rfl), trivial⟩ (q_nil)
def qxL_curvesMet : CX := (qkL_curvesMet, layL, qfL, qaL_curvesMet, qcL, qlL, qmL, (some .int), false, (some 13), 1, none, fun _ => none)
theorem qzL_curvesMet (l : Launch) (hst : l.stackTraces = false) : am_sta l qxL_curvesMet RL 23 cL_curvesMet := ⟨qkL_curvesMet_ok, layL_ok, qfL_ok, qcL_ok, qlL_ok, am_mthP qmL_ok (by decide), fun k e1 h => (qyL_curvesMet l hst k e1 h).1⟩
def qsL_curvesMet : SP := fun as F A K => match as with
  | [.inr (.inr x), .inl l, .inr (.inr o)] => cond (Nat.beq x 0 && Nat.beq o 43) ((fgOK (A 2) ∧ (-2147483648 ≤ l ∧ l < 2147483648) ∧ rtB (A 2)) ∧ ((0 ≤ l ∧ l < A 2 1 → (∀ (G_1 : FF) (B_1 : AA), (qrP F G_1 A B_1) → (K (some (some (vI 0))) G_1 (upA B_1 43 (w32 0) (w32 (bitP (fun ii => 0 < sureF (A 2) ii l) (Int.toNat (A 2 0)))))))) ∧ (¬ (0 ≤ l ∧ l < A 2 1) → (K (some (some (vI 1))) F A)))) (False)
  | _ => False
def qeL_curvesMet : CE := (yL_curvesMet, cL_curvesMet, 4, (some .int), 3, none, 2, [(0, 9, 12, 13)], 1, 23, qsL_curvesMet)
theorem qbL_curvesMet : am_mb qeL_curvesMet := ⟨am_tb_at 1176 (by decide +kernel) rfl, am_tb_at 113 (by decide +kernel) rfl, ⟨by decide, by decide, by decide +kernel⟩, by decide, am_tb_at 1175 (by decide +kernel) rfl⟩
set_option maxRecDepth 20000 in
theorem qvL_curvesMet_0_43 (l : Int) (F : FF) (A : AA) (K : KK) (h : (fgOK (A 2) ∧ (-2147483648 ≤ l ∧ l < 2147483648) ∧ rtB (A 2)) ∧ ((0 ≤ l ∧ l < A 2 1 → (∀ (G_1 : FF) (B_1 : AA), (qrP F G_1 A B_1) → (K (some (some (vI 0))) G_1 (upA B_1 43 (w32 0) (w32 (bitP (fun ii => 0 < sureF (A 2) ii l) (Int.toNat (A 2 0)))))))) ∧ (¬ (0 ≤ l ∧ l < A 2 1) → (K (some (some (vI 1))) F A)))) : am_line qxL_curvesMet 11 [vR 0, vI l, vR 43] 4 F A K := by
  show am_stp qxL_curvesMet (am_run qxL_curvesMet (fun _ => none) (fun _ _ _ _ _ _ => False) K 11) K 0 [some (vR 0), some (vI l), some (vR 43), none] [] F A 0
  obtain ⟨hp, h⟩ := h
  show (fgOK (A 2) ∧ (-2147483648 ≤ l ∧ l < 2147483648) ∧ rtB (A 2)) ∧ ((0 ≤ l ∧ l < A 2 1 → (∀ (G_1 : FF) (B_1 : AA), (qrP F G_1 A B_1) → ((0 ≤ w32 0 ∧ w32 0 < 1) ∧ (K (some (some (vI 0))) G_1 (upA B_1 43 (w32 0) (w32 (bitP (fun ii => 0 < sureF (A 2) ii l) (Int.toNat (A 2 0))))))))) ∧ (¬ (0 ≤ l ∧ l < A 2 1) → (K (some (some (vI 1))) F A)))
  refine ⟨by exact hp, ?_⟩
  refine ⟨fun c1 => ?_, fun c1 => ?_⟩
  · skip
    skip
    intro G_1 B_1 g1
    refine ⟨by exact ⟨by decide, by decide⟩, ?_⟩
    first | exact h.1 c1 | exact h.2 c1 | exact h.1 c1 _ _ g1 | exact h.1 c1 _ g1 | exact h.1 c1 _ _ _ _ g1
  · skip
    skip
    first | exact h.1 c1 | exact h.2 c1 | exact h.1 c1 _ _ g1 | exact h.1 c1 _ g1 | exact h.1 c1 _ _ _ _ g1
theorem qtL_curvesMet (l : Launch) (hst : l.stackTraces = false) : am_CT l layL qeL_curvesMet := am_met2 (hp := 12) (hn := 13) (i := 3) (en := 9) rfl (by decide +kernel) rfl rfl rfl rfl rfl rfl (Or.inr ⟨3, rfl, by decide +kernel, rfl⟩) (by decide) (dc_cov (n := 17) (by decide +kernel) (by decide +kernel)) (fun _ => rfl) rfl (qzL_curvesMet l hst) (fun as F A K h => by
  replace h : qsL_curvesMet as F A K := h
  unfold qsL_curvesMet at h
  split at h
  · rename_i x l o
    refine ⟨by first | exact Nat.le_of_ble_eq_true rfl | simp [am_fl, am_cat], ?_⟩
    replace h := am_cond2 h
    rcases h with ⟨hb, h⟩ | h
    · simp only [Bool.and_eq_true] at hb
      obtain ⟨hb0, hb1⟩ := hb
      have hb0 := am_bq hb0
      subst hb0
      have hb1 := am_bq hb1
      subst hb1
      exact am_way_line (qvL_curvesMet_0_43 l F A K h)
    exact h.elim
  · exact h.elim)
def qkL_bandLow : Nat → Option CI := fun pc => cond (Nat.ble 17 pc) none (cond (Nat.ble 8 pc) (cond (Nat.ble 13 pc) (cond (Nat.ble 15 pc) (cond (Nat.beq pc 15) (some (.iconst 0, 16, [])) (cond (Nat.beq pc 16) (some (.ireturn, 17, [])) (none))) (cond (Nat.beq pc 13) (some (.iconst 1, 14, [])) (cond (Nat.beq pc 14) (some (.ireturn, 15, [])) (none)))) (cond (Nat.beq pc 8) (some (.lastore, 9, [])) (cond (Nat.beq pc 9) (some (.goto 6, 12, [15])) (cond (Nat.beq pc 12) (some (.astore_n 3, 13, [])) (none))))) (cond (Nat.ble 3 pc) (cond (Nat.beq pc 3) (some (.iload_n 1, 4, [])) (cond (Nat.beq pc 4) (some (.invokevirtual 88, 7, [])) (cond (Nat.beq pc 7) (some (.i2l, 8, [])) (none)))) (cond (Nat.beq pc 0) (some (.aload_n 2, 1, [])) (cond (Nat.beq pc 1) (some (.iconst 0, 2, [])) (cond (Nat.beq pc 2) (some (.aload_n 0, 3, [])) (none))))))
theorem qkL_bandLow_ok : ∀ pc i nx ts, qkL_bandLow pc = some (i, nx, ts) → am_cok cL_bandLow pc (i, nx, ts) = true := fun pc i nx ts h => am_tok_ok (n := 17) (by decide +kernel) (fun pc h => by show cond (Nat.ble 17 pc) _ _ = _; rw [Nat.ble_eq_true_of_le h]; rfl) h
def qaL_bandLow : Nat → Option CE := fun k => cond (Nat.beq k 88) (some qeX8_bandLow) (none)
theorem qyL_bandLow (l : Launch) (hst : l.stackTraces = false) : ∀ k e1, qaL_bandLow k = some e1 → am_cal l layL RL 11 k e1 ∧ True := q_cons ⟨am_calV (ci := 8) (am_CT_mono layX_L (qtX8_bandLow l hst)) qbX8_bandLow (by decide) rfl (am_tb_at 1184 (by decide +kernel) rfl), trivial⟩ (q_nil)
def qxL_bandLow : CX := (qkL_bandLow, layL, qfL, qaL_bandLow, qcL, qlL, qmL, (some .int), false, (some 13), 1, none, fun _ => none)
theorem qzL_bandLow (l : Launch) (hst : l.stackTraces = false) : am_sta l qxL_bandLow RL 11 cL_bandLow := ⟨qkL_bandLow_ok, layL_ok, qfL_ok, qcL_ok, qlL_ok, am_mthP qmL_ok (by decide), fun k e1 h => (qyL_bandLow l hst k e1 h).1⟩
def qsL_bandLow : SP := fun as F A K => match as with
  | [.inr (.inr x), .inl c, .inr (.inr o)] => cond (Nat.beq x 0 && Nat.beq o 43) ((fgOK (A 2) ∧ (-2147483648 ≤ c ∧ c < 2147483648)) ∧ ((0 ≤ c ∧ c < A 2 0 → (∀ (G_1 : FF), (qrP F G_1 A A) → (K (some (some (vI 0))) G_1 (upA A 43 (w32 0) (w32 (bLow (A 2) c (Int.toNat (A 2 (18 + c) - 1)))))))) ∧ (¬ (0 ≤ c ∧ c < A 2 0) → (K (some (some (vI 1))) F A)))) (False)
  | _ => False
def qeL_bandLow : CE := (yL_bandLow, cL_bandLow, 4, (some .int), 3, none, 2, [(0, 9, 12, 13)], 1, 11, qsL_bandLow)
theorem qbL_bandLow : am_mb qeL_bandLow := ⟨am_tb_at 1183 (by decide +kernel) rfl, am_tb_at 113 (by decide +kernel) rfl, ⟨by decide, by decide, by decide +kernel⟩, by decide, am_tb_at 1182 (by decide +kernel) rfl⟩
set_option maxRecDepth 20000 in
theorem qvL_bandLow_0_43 (c : Int) (F : FF) (A : AA) (K : KK) (h : (fgOK (A 2) ∧ (-2147483648 ≤ c ∧ c < 2147483648)) ∧ ((0 ≤ c ∧ c < A 2 0 → (∀ (G_1 : FF), (qrP F G_1 A A) → (K (some (some (vI 0))) G_1 (upA A 43 (w32 0) (w32 (bLow (A 2) c (Int.toNat (A 2 (18 + c) - 1)))))))) ∧ (¬ (0 ≤ c ∧ c < A 2 0) → (K (some (some (vI 1))) F A)))) : am_line qxL_bandLow 11 [vR 0, vI c, vR 43] 4 F A K := by
  show am_stp qxL_bandLow (am_run qxL_bandLow (fun _ => none) (fun _ _ _ _ _ _ => False) K 11) K 0 [some (vR 0), some (vI c), some (vR 43), none] [] F A 0
  obtain ⟨hp, h⟩ := h
  show (fgOK (A 2) ∧ (-2147483648 ≤ c ∧ c < 2147483648)) ∧ ((0 ≤ c ∧ c < A 2 0 → (∀ (G_1 : FF), (qrP F G_1 A A) → ((0 ≤ w32 0 ∧ w32 0 < 1) ∧ (K (some (some (vI 0))) G_1 (upA A 43 (w32 0) (w32 (bLow (A 2) c (Int.toNat (A 2 (18 + c) - 1))))))))) ∧ (¬ (0 ≤ c ∧ c < A 2 0) → (K (some (some (vI 1))) F A)))
  refine ⟨by exact hp, ?_⟩
  refine ⟨fun c1 => ?_, fun c1 => ?_⟩
  · skip
    skip
    intro G_1 g1
    refine ⟨by exact ⟨by decide, by decide⟩, ?_⟩
    first | exact h.1 c1 | exact h.2 c1 | exact h.1 c1 _ _ g1 | exact h.1 c1 _ g1 | exact h.1 c1 _ _ _ _ g1
  · skip
    skip
    first | exact h.1 c1 | exact h.2 c1 | exact h.1 c1 _ _ g1 | exact h.1 c1 _ g1 | exact h.1 c1 _ _ _ _ g1
theorem qtL_bandLow (l : Launch) (hst : l.stackTraces = false) : am_CT l layL qeL_bandLow := am_met2 (hp := 12) (hn := 13) (i := 3) (en := 9) rfl (by decide +kernel) rfl rfl rfl rfl rfl rfl (Or.inr ⟨3, rfl, by decide +kernel, rfl⟩) (by decide) (dc_cov (n := 17) (by decide +kernel) (by decide +kernel)) (fun _ => rfl) rfl (qzL_bandLow l hst) (fun as F A K h => by
  replace h : qsL_bandLow as F A K := h
  unfold qsL_bandLow at h
  split at h
  · rename_i x c o
    refine ⟨by first | exact Nat.le_of_ble_eq_true rfl | simp [am_fl, am_cat], ?_⟩
    replace h := am_cond2 h
    rcases h with ⟨hb, h⟩ | h
    · simp only [Bool.and_eq_true] at hb
      obtain ⟨hb0, hb1⟩ := hb
      have hb0 := am_bq hb0
      subst hb0
      have hb1 := am_bq hb1
      subst hb1
      exact am_way_line (qvL_bandLow_0_43 c F A K h)
    exact h.elim
  · exact h.elim)
def qkL_bandHigh : Nat → Option CI := fun pc => cond (Nat.ble 17 pc) none (cond (Nat.ble 8 pc) (cond (Nat.ble 13 pc) (cond (Nat.ble 15 pc) (cond (Nat.beq pc 15) (some (.iconst 0, 16, [])) (cond (Nat.beq pc 16) (some (.ireturn, 17, [])) (none))) (cond (Nat.beq pc 13) (some (.iconst 1, 14, [])) (cond (Nat.beq pc 14) (some (.ireturn, 15, [])) (none)))) (cond (Nat.beq pc 8) (some (.lastore, 9, [])) (cond (Nat.beq pc 9) (some (.goto 6, 12, [15])) (cond (Nat.beq pc 12) (some (.astore_n 3, 13, [])) (none))))) (cond (Nat.ble 3 pc) (cond (Nat.beq pc 3) (some (.iload_n 1, 4, [])) (cond (Nat.beq pc 4) (some (.invokevirtual 91, 7, [])) (cond (Nat.beq pc 7) (some (.i2l, 8, [])) (none)))) (cond (Nat.beq pc 0) (some (.aload_n 2, 1, [])) (cond (Nat.beq pc 1) (some (.iconst 0, 2, [])) (cond (Nat.beq pc 2) (some (.aload_n 0, 3, [])) (none))))))
theorem qkL_bandHigh_ok : ∀ pc i nx ts, qkL_bandHigh pc = some (i, nx, ts) → am_cok cL_bandHigh pc (i, nx, ts) = true := fun pc i nx ts h => am_tok_ok (n := 17) (by decide +kernel) (fun pc h => by show cond (Nat.ble 17 pc) _ _ = _; rw [Nat.ble_eq_true_of_le h]; rfl) h
def qaL_bandHigh : Nat → Option CE := fun k => cond (Nat.beq k 91) (some qeX8_bandHigh) (none)
theorem qyL_bandHigh (l : Launch) (hst : l.stackTraces = false) : ∀ k e1, qaL_bandHigh k = some e1 → am_cal l layL RL 11 k e1 ∧ True := q_cons ⟨am_calV (ci := 8) (am_CT_mono layX_L (qtX8_bandHigh l hst)) qbX8_bandHigh (by decide) rfl (am_tb_at 1207 (by decide +kernel) rfl), trivial⟩ (q_nil)
def qxL_bandHigh : CX := (qkL_bandHigh, layL, qfL, qaL_bandHigh, qcL, qlL, qmL, (some .int), false, (some 13), 1, none, fun _ => none)
theorem qzL_bandHigh (l : Launch) (hst : l.stackTraces = false) : am_sta l qxL_bandHigh RL 11 cL_bandHigh := ⟨qkL_bandHigh_ok, layL_ok, qfL_ok, qcL_ok, qlL_ok, am_mthP qmL_ok (by decide), fun k e1 h => (qyL_bandHigh l hst k e1 h).1⟩
def qsL_bandHigh : SP := fun as F A K => match as with
  | [.inr (.inr x), .inl c, .inr (.inr o)] => cond (Nat.beq x 0 && Nat.beq o 43) ((fgOK (A 2) ∧ (-2147483648 ≤ c ∧ c < 2147483648)) ∧ ((0 ≤ c ∧ c < A 2 0 → (∀ (G_1 : FF), (qrP F G_1 A A) → (K (some (some (vI 0))) G_1 (upA A 43 (w32 0) (w32 (bHigh (A 2) c (Int.toNat (A 2 (18 + c) - 1)))))))) ∧ (¬ (0 ≤ c ∧ c < A 2 0) → (K (some (some (vI 1))) F A)))) (False)
  | _ => False
def qeL_bandHigh : CE := (yL_bandHigh, cL_bandHigh, 4, (some .int), 3, none, 2, [(0, 9, 12, 13)], 1, 11, qsL_bandHigh)
theorem qbL_bandHigh : am_mb qeL_bandHigh := ⟨am_tb_at 1206 (by decide +kernel) rfl, am_tb_at 113 (by decide +kernel) rfl, ⟨by decide, by decide, by decide +kernel⟩, by decide, am_tb_at 1205 (by decide +kernel) rfl⟩
set_option maxRecDepth 20000 in
theorem qvL_bandHigh_0_43 (c : Int) (F : FF) (A : AA) (K : KK) (h : (fgOK (A 2) ∧ (-2147483648 ≤ c ∧ c < 2147483648)) ∧ ((0 ≤ c ∧ c < A 2 0 → (∀ (G_1 : FF), (qrP F G_1 A A) → (K (some (some (vI 0))) G_1 (upA A 43 (w32 0) (w32 (bHigh (A 2) c (Int.toNat (A 2 (18 + c) - 1)))))))) ∧ (¬ (0 ≤ c ∧ c < A 2 0) → (K (some (some (vI 1))) F A)))) : am_line qxL_bandHigh 11 [vR 0, vI c, vR 43] 4 F A K := by
  show am_stp qxL_bandHigh (am_run qxL_bandHigh (fun _ => none) (fun _ _ _ _ _ _ => False) K 11) K 0 [some (vR 0), some (vI c), some (vR 43), none] [] F A 0
  obtain ⟨hp, h⟩ := h
  show (fgOK (A 2) ∧ (-2147483648 ≤ c ∧ c < 2147483648)) ∧ ((0 ≤ c ∧ c < A 2 0 → (∀ (G_1 : FF), (qrP F G_1 A A) → ((0 ≤ w32 0 ∧ w32 0 < 1) ∧ (K (some (some (vI 0))) G_1 (upA A 43 (w32 0) (w32 (bHigh (A 2) c (Int.toNat (A 2 (18 + c) - 1))))))))) ∧ (¬ (0 ≤ c ∧ c < A 2 0) → (K (some (some (vI 1))) F A)))
  refine ⟨by exact hp, ?_⟩
  refine ⟨fun c1 => ?_, fun c1 => ?_⟩
  · skip
    skip
    intro G_1 g1
    refine ⟨by exact ⟨by decide, by decide⟩, ?_⟩
    first | exact h.1 c1 | exact h.2 c1 | exact h.1 c1 _ _ g1 | exact h.1 c1 _ g1 | exact h.1 c1 _ _ _ _ g1
  · skip
    skip
    first | exact h.1 c1 | exact h.2 c1 | exact h.1 c1 _ _ g1 | exact h.1 c1 _ g1 | exact h.1 c1 _ _ _ _ g1
theorem qtL_bandHigh (l : Launch) (hst : l.stackTraces = false) : am_CT l layL qeL_bandHigh := am_met2 (hp := 12) (hn := 13) (i := 3) (en := 9) rfl (by decide +kernel) rfl rfl rfl rfl rfl rfl (Or.inr ⟨3, rfl, by decide +kernel, rfl⟩) (by decide) (dc_cov (n := 17) (by decide +kernel) (by decide +kernel)) (fun _ => rfl) rfl (qzL_bandHigh l hst) (fun as F A K h => by
  replace h : qsL_bandHigh as F A K := h
  unfold qsL_bandHigh at h
  split at h
  · rename_i x c o
    refine ⟨by first | exact Nat.le_of_ble_eq_true rfl | simp [am_fl, am_cat], ?_⟩
    replace h := am_cond2 h
    rcases h with ⟨hb, h⟩ | h
    · simp only [Bool.and_eq_true] at hb
      obtain ⟨hb0, hb1⟩ := hb
      have hb0 := am_bq hb0
      subst hb0
      have hb1 := am_bq hb1
      subst hb1
      exact am_way_line (qvL_bandHigh_0_43 c F A K h)
    exact h.elim
  · exact h.elim)
def qkL_firstLeft : Nat → Option CI := fun pc => cond (Nat.ble 19 pc) none (cond (Nat.ble 9 pc) (cond (Nat.ble 15 pc) (cond (Nat.ble 17 pc) (cond (Nat.beq pc 17) (some (.iconst 0, 18, [])) (cond (Nat.beq pc 18) (some (.ireturn, 19, [])) (none))) (cond (Nat.beq pc 15) (some (.iconst 1, 16, [])) (cond (Nat.beq pc 16) (some (.ireturn, 17, [])) (none)))) (cond (Nat.beq pc 9) (some (.lastore, 10, [])) (cond (Nat.beq pc 10) (some (.goto 7, 13, [17])) (cond (Nat.beq pc 13) (some (.astore 4, 15, [])) (none))))) (cond (Nat.ble 3 pc) (cond (Nat.ble 5 pc) (cond (Nat.beq pc 5) (some (.invokevirtual 94, 8, [])) (cond (Nat.beq pc 8) (some (.i2l, 9, [])) (none))) (cond (Nat.beq pc 3) (some (.iload_n 1, 4, [])) (cond (Nat.beq pc 4) (some (.iload_n 2, 5, [])) (none)))) (cond (Nat.beq pc 0) (some (.aload_n 3, 1, [])) (cond (Nat.beq pc 1) (some (.iconst 0, 2, [])) (cond (Nat.beq pc 2) (some (.aload_n 0, 3, [])) (none))))))
theorem qkL_firstLeft_ok : ∀ pc i nx ts, qkL_firstLeft pc = some (i, nx, ts) → am_cok cL_firstLeft pc (i, nx, ts) = true := fun pc i nx ts h => am_tok_ok (n := 19) (by decide +kernel) (fun pc h => by show cond (Nat.ble 19 pc) _ _ = _; rw [Nat.ble_eq_true_of_le h]; rfl) h
def qaL_firstLeft : Nat → Option CE := fun k => cond (Nat.beq k 94) (some qeX8_firstLeft) (none)
theorem qyL_firstLeft (l : Launch) (hst : l.stackTraces = false) : ∀ k e1, qaL_firstLeft k = some e1 → am_cal l layL RL 12 k e1 ∧ True := q_cons ⟨am_calV (ci := 8) (am_CT_mono layX_L (qtX8_firstLeft l hst)) qbX8_firstLeft (by decide) rfl (am_tb_at 1218 (by decide +kernel) rfl), trivial⟩ (q_nil)
def qxL_firstLeft : CX := (qkL_firstLeft, layL, qfL, qaL_firstLeft, qcL, qlL, qmL, (some .int), false, (some 15), 2, none, fun _ => none)
theorem qzL_firstLeft (l : Launch) (hst : l.stackTraces = false) : am_sta l qxL_firstLeft RL 12 cL_firstLeft := ⟨qkL_firstLeft_ok, layL_ok, qfL_ok, qcL_ok, qlL_ok, am_mthP qmL_ok (by decide), fun k e1 h => (qyL_firstLeft l hst k e1 h).1⟩
def qsL_firstLeft : SP := fun as F A K => match as with
  | [.inr (.inr x), .inl c, .inl e, .inr (.inr o)] => cond (Nat.beq x 0 && Nat.beq o 43) ((fgOK (A 2) ∧ (-2147483648 ≤ c ∧ c < 2147483648) ∧ (-2147483648 ≤ e ∧ e < 2147483648) ∧ caAll A) ∧ (((0 ≤ c ∧ c < A 2 0) ∧ 0 ≤ e ∧ e < A 2 0 → (∀ (G_1 : FF) (B_1 : AA), (qrP F G_1 A B_1 ∧ bnP G_1 (A 2) e ∧ grQ A B_1 c (A 2 3)) → (K (some (some (vI 0))) G_1 (upA B_1 43 (w32 0) (w32 (firI (fun jj => ¬ clP G_1 B_1 c (p2 (A 2 3) - 1 + jj) (B_1 12 c)) (Int.toNat (p2 (A 2 3))) 0)))))) ∧ (¬ ((0 ≤ c ∧ c < A 2 0) ∧ 0 ≤ e ∧ e < A 2 0) → (K (some (some (vI 1))) F A)))) (False)
  | _ => False
def qeL_firstLeft : CE := (yL_firstLeft, cL_firstLeft, 5, (some .int), 4, none, 2, [(0, 10, 13, 13)], 2, 12, qsL_firstLeft)
theorem qbL_firstLeft : am_mb qeL_firstLeft := ⟨am_tb_at 1217 (by decide +kernel) rfl, am_tb_at 113 (by decide +kernel) rfl, ⟨by decide, by decide, by decide +kernel⟩, by decide, am_tb_at 1216 (by decide +kernel) rfl⟩
set_option maxRecDepth 20000 in
theorem qvL_firstLeft_0_43 (c : Int) (e : Int) (F : FF) (A : AA) (K : KK) (h : (fgOK (A 2) ∧ (-2147483648 ≤ c ∧ c < 2147483648) ∧ (-2147483648 ≤ e ∧ e < 2147483648) ∧ caAll A) ∧ (((0 ≤ c ∧ c < A 2 0) ∧ 0 ≤ e ∧ e < A 2 0 → (∀ (G_1 : FF) (B_1 : AA), (qrP F G_1 A B_1 ∧ bnP G_1 (A 2) e ∧ grQ A B_1 c (A 2 3)) → (K (some (some (vI 0))) G_1 (upA B_1 43 (w32 0) (w32 (firI (fun jj => ¬ clP G_1 B_1 c (p2 (A 2 3) - 1 + jj) (B_1 12 c)) (Int.toNat (p2 (A 2 3))) 0)))))) ∧ (¬ ((0 ≤ c ∧ c < A 2 0) ∧ 0 ≤ e ∧ e < A 2 0) → (K (some (some (vI 1))) F A)))) : am_line qxL_firstLeft 12 [vR 0, vI c, vI e, vR 43] 5 F A K := by
  show am_stp qxL_firstLeft (am_run qxL_firstLeft (fun _ => none) (fun _ _ _ _ _ _ => False) K 12) K 0 [some (vR 0), some (vI c), some (vI e), some (vR 43), none] [] F A 0
  obtain ⟨hp, h⟩ := h
  show (fgOK (A 2) ∧ (-2147483648 ≤ c ∧ c < 2147483648) ∧ (-2147483648 ≤ e ∧ e < 2147483648) ∧ caAll A) ∧ (((0 ≤ c ∧ c < A 2 0) ∧ 0 ≤ e ∧ e < A 2 0 → (∀ (G_1 : FF) (B_1 : AA), (qrP F G_1 A B_1 ∧ bnP G_1 (A 2) e ∧ grQ A B_1 c (A 2 3)) → ((0 ≤ w32 0 ∧ w32 0 < 1) ∧ (K (some (some (vI 0))) G_1 (upA B_1 43 (w32 0) (w32 (firI (fun jj => ¬ clP G_1 B_1 c (p2 (A 2 3) - 1 + jj) (B_1 12 c)) (Int.toNat (p2 (A 2 3))) 0))))))) ∧ (¬ ((0 ≤ c ∧ c < A 2 0) ∧ 0 ≤ e ∧ e < A 2 0) → (K (some (some (vI 1))) F A)))
  refine ⟨by exact hp, ?_⟩
  refine ⟨fun c1 => ?_, fun c1 => ?_⟩
  · skip
    skip
    intro G_1 B_1 g1
    refine ⟨by exact ⟨by decide, by decide⟩, ?_⟩
    first | exact h.1 c1 | exact h.2 c1 | exact h.1 c1 _ _ g1 | exact h.1 c1 _ g1 | exact h.1 c1 _ _ _ _ g1
  · skip
    skip
    first | exact h.1 c1 | exact h.2 c1 | exact h.1 c1 _ _ g1 | exact h.1 c1 _ g1 | exact h.1 c1 _ _ _ _ g1
theorem qtL_firstLeft (l : Launch) (hst : l.stackTraces = false) : am_CT l layL qeL_firstLeft := am_met2 (hp := 13) (hn := 15) (i := 4) (en := 10) rfl (by decide +kernel) rfl rfl rfl rfl rfl rfl (Or.inl ⟨by decide +kernel, rfl⟩) (by decide) (dc_cov (n := 19) (by decide +kernel) (by decide +kernel)) (fun _ => rfl) rfl (qzL_firstLeft l hst) (fun as F A K h => by
  replace h : qsL_firstLeft as F A K := h
  unfold qsL_firstLeft at h
  split at h
  · rename_i x c e o
    refine ⟨by first | exact Nat.le_of_ble_eq_true rfl | simp [am_fl, am_cat], ?_⟩
    replace h := am_cond2 h
    rcases h with ⟨hb, h⟩ | h
    · simp only [Bool.and_eq_true] at hb
      obtain ⟨hb0, hb1⟩ := hb
      have hb0 := am_bq hb0
      subst hb0
      have hb1 := am_bq hb1
      subst hb1
      exact am_way_line (qvL_firstLeft_0_43 c e F A K h)
    exact h.elim
  · exact h.elim)
def qkL_lastLeft : Nat → Option CI := fun pc => cond (Nat.ble 19 pc) none (cond (Nat.ble 9 pc) (cond (Nat.ble 15 pc) (cond (Nat.ble 17 pc) (cond (Nat.beq pc 17) (some (.iconst 0, 18, [])) (cond (Nat.beq pc 18) (some (.ireturn, 19, [])) (none))) (cond (Nat.beq pc 15) (some (.iconst 1, 16, [])) (cond (Nat.beq pc 16) (some (.ireturn, 17, [])) (none)))) (cond (Nat.beq pc 9) (some (.lastore, 10, [])) (cond (Nat.beq pc 10) (some (.goto 7, 13, [17])) (cond (Nat.beq pc 13) (some (.astore 4, 15, [])) (none))))) (cond (Nat.ble 3 pc) (cond (Nat.ble 5 pc) (cond (Nat.beq pc 5) (some (.invokevirtual 97, 8, [])) (cond (Nat.beq pc 8) (some (.i2l, 9, [])) (none))) (cond (Nat.beq pc 3) (some (.iload_n 1, 4, [])) (cond (Nat.beq pc 4) (some (.iload_n 2, 5, [])) (none)))) (cond (Nat.beq pc 0) (some (.aload_n 3, 1, [])) (cond (Nat.beq pc 1) (some (.iconst 0, 2, [])) (cond (Nat.beq pc 2) (some (.aload_n 0, 3, [])) (none))))))
theorem qkL_lastLeft_ok : ∀ pc i nx ts, qkL_lastLeft pc = some (i, nx, ts) → am_cok cL_lastLeft pc (i, nx, ts) = true := fun pc i nx ts h => am_tok_ok (n := 19) (by decide +kernel) (fun pc h => by show cond (Nat.ble 19 pc) _ _ = _; rw [Nat.ble_eq_true_of_le h]; rfl) h
def qaL_lastLeft : Nat → Option CE := fun k => cond (Nat.beq k 97) (some qeX8_lastLeft) (none)
theorem qyL_lastLeft (l : Launch) (hst : l.stackTraces = false) : ∀ k e1, qaL_lastLeft k = some e1 → am_cal l layL RL 12 k e1 ∧ True := q_cons ⟨am_calV (ci := 8) (am_CT_mono layX_L (qtX8_lastLeft l hst)) qbX8_lastLeft (by decide) rfl (am_tb_at 1239 (by decide +kernel) rfl), trivial⟩ (q_nil)
def qxL_lastLeft : CX := (qkL_lastLeft, layL, qfL, qaL_lastLeft, qcL, qlL, qmL, (some .int), false, (some 15), 2, none, fun _ => none)
theorem qzL_lastLeft (l : Launch) (hst : l.stackTraces = false) : am_sta l qxL_lastLeft RL 12 cL_lastLeft := ⟨qkL_lastLeft_ok, layL_ok, qfL_ok, qcL_ok, qlL_ok, am_mthP qmL_ok (by decide), fun k e1 h => (qyL_lastLeft l hst k e1 h).1⟩
def qsL_lastLeft : SP := fun as F A K => match as with
  | [.inr (.inr x), .inl c, .inl e, .inr (.inr o)] => cond (Nat.beq x 0 && Nat.beq o 43) ((fgOK (A 2) ∧ (-2147483648 ≤ c ∧ c < 2147483648) ∧ (-2147483648 ≤ e ∧ e < 2147483648) ∧ caAll A) ∧ (((0 ≤ c ∧ c < A 2 0) ∧ 0 ≤ e ∧ e < A 2 0 → (∀ (G_1 : FF) (B_1 : AA), (qrP F G_1 A B_1 ∧ bnP G_1 (A 2) e ∧ grQ A B_1 c (A 2 3)) → (K (some (some (vI 0))) G_1 (upA B_1 43 (w32 0) (w32 (lasI (fun jj => ¬ clP G_1 B_1 c (p2 (A 2 3) - 1 + jj) (B_1 12 c)) (Int.toNat (p2 (A 2 3))))))))) ∧ (¬ ((0 ≤ c ∧ c < A 2 0) ∧ 0 ≤ e ∧ e < A 2 0) → (K (some (some (vI 1))) F A)))) (False)
  | _ => False
def qeL_lastLeft : CE := (yL_lastLeft, cL_lastLeft, 5, (some .int), 4, none, 2, [(0, 10, 13, 13)], 2, 12, qsL_lastLeft)
theorem qbL_lastLeft : am_mb qeL_lastLeft := ⟨am_tb_at 1238 (by decide +kernel) rfl, am_tb_at 113 (by decide +kernel) rfl, ⟨by decide, by decide, by decide +kernel⟩, by decide, am_tb_at 1237 (by decide +kernel) rfl⟩
set_option maxRecDepth 20000 in
theorem qvL_lastLeft_0_43 (c : Int) (e : Int) (F : FF) (A : AA) (K : KK) (h : (fgOK (A 2) ∧ (-2147483648 ≤ c ∧ c < 2147483648) ∧ (-2147483648 ≤ e ∧ e < 2147483648) ∧ caAll A) ∧ (((0 ≤ c ∧ c < A 2 0) ∧ 0 ≤ e ∧ e < A 2 0 → (∀ (G_1 : FF) (B_1 : AA), (qrP F G_1 A B_1 ∧ bnP G_1 (A 2) e ∧ grQ A B_1 c (A 2 3)) → (K (some (some (vI 0))) G_1 (upA B_1 43 (w32 0) (w32 (lasI (fun jj => ¬ clP G_1 B_1 c (p2 (A 2 3) - 1 + jj) (B_1 12 c)) (Int.toNat (p2 (A 2 3))))))))) ∧ (¬ ((0 ≤ c ∧ c < A 2 0) ∧ 0 ≤ e ∧ e < A 2 0) → (K (some (some (vI 1))) F A)))) : am_line qxL_lastLeft 12 [vR 0, vI c, vI e, vR 43] 5 F A K := by
  show am_stp qxL_lastLeft (am_run qxL_lastLeft (fun _ => none) (fun _ _ _ _ _ _ => False) K 12) K 0 [some (vR 0), some (vI c), some (vI e), some (vR 43), none] [] F A 0
  obtain ⟨hp, h⟩ := h
  show (fgOK (A 2) ∧ (-2147483648 ≤ c ∧ c < 2147483648) ∧ (-2147483648 ≤ e ∧ e < 2147483648) ∧ caAll A) ∧ (((0 ≤ c ∧ c < A 2 0) ∧ 0 ≤ e ∧ e < A 2 0 → (∀ (G_1 : FF) (B_1 : AA), (qrP F G_1 A B_1 ∧ bnP G_1 (A 2) e ∧ grQ A B_1 c (A 2 3)) → ((0 ≤ w32 0 ∧ w32 0 < 1) ∧ (K (some (some (vI 0))) G_1 (upA B_1 43 (w32 0) (w32 (lasI (fun jj => ¬ clP G_1 B_1 c (p2 (A 2 3) - 1 + jj) (B_1 12 c)) (Int.toNat (p2 (A 2 3)))))))))) ∧ (¬ ((0 ≤ c ∧ c < A 2 0) ∧ 0 ≤ e ∧ e < A 2 0) → (K (some (some (vI 1))) F A)))
  refine ⟨by exact hp, ?_⟩
  refine ⟨fun c1 => ?_, fun c1 => ?_⟩
  · skip
    skip
    intro G_1 B_1 g1
    refine ⟨by exact ⟨by decide, by decide⟩, ?_⟩
    first | exact h.1 c1 | exact h.2 c1 | exact h.1 c1 _ _ g1 | exact h.1 c1 _ g1 | exact h.1 c1 _ _ _ _ g1
  · skip
    skip
    first | exact h.1 c1 | exact h.2 c1 | exact h.1 c1 _ _ g1 | exact h.1 c1 _ g1 | exact h.1 c1 _ _ _ _ g1
theorem qtL_lastLeft (l : Launch) (hst : l.stackTraces = false) : am_CT l layL qeL_lastLeft := am_met2 (hp := 13) (hn := 15) (i := 4) (en := 10) rfl (by decide +kernel) rfl rfl rfl rfl rfl rfl (Or.inl ⟨by decide +kernel, rfl⟩) (by decide) (dc_cov (n := 19) (by decide +kernel) (by decide +kernel)) (fun _ => rfl) rfl (qzL_lastLeft l hst) (fun as F A K h => by
  replace h : qsL_lastLeft as F A K := h
  unfold qsL_lastLeft at h
  split at h
  · rename_i x c e o
    refine ⟨by first | exact Nat.le_of_ble_eq_true rfl | simp [am_fl, am_cat], ?_⟩
    replace h := am_cond2 h
    rcases h with ⟨hb, h⟩ | h
    · simp only [Bool.and_eq_true] at hb
      obtain ⟨hb0, hb1⟩ := hb
      have hb0 := am_bq hb0
      subst hb0
      have hb1 := am_bq hb1
      subst hb1
      exact am_way_line (qvL_lastLeft_0_43 c e F A K h)
    exact h.elim
  · exact h.elim)
def qkL_pairCount : Nat → Option CI := fun pc => cond (Nat.ble 19 pc) none (cond (Nat.ble 9 pc) (cond (Nat.ble 15 pc) (cond (Nat.ble 17 pc) (cond (Nat.beq pc 17) (some (.iconst 0, 18, [])) (cond (Nat.beq pc 18) (some (.ireturn, 19, [])) (none))) (cond (Nat.beq pc 15) (some (.iconst 1, 16, [])) (cond (Nat.beq pc 16) (some (.ireturn, 17, [])) (none)))) (cond (Nat.beq pc 9) (some (.lastore, 10, [])) (cond (Nat.beq pc 10) (some (.goto 7, 13, [17])) (cond (Nat.beq pc 13) (some (.astore 4, 15, [])) (none))))) (cond (Nat.ble 3 pc) (cond (Nat.ble 5 pc) (cond (Nat.beq pc 5) (some (.invokevirtual 100, 8, [])) (cond (Nat.beq pc 8) (some (.i2l, 9, [])) (none))) (cond (Nat.beq pc 3) (some (.iload_n 1, 4, [])) (cond (Nat.beq pc 4) (some (.iload_n 2, 5, [])) (none)))) (cond (Nat.beq pc 0) (some (.aload_n 3, 1, [])) (cond (Nat.beq pc 1) (some (.iconst 0, 2, [])) (cond (Nat.beq pc 2) (some (.aload_n 0, 3, [])) (none))))))
theorem qkL_pairCount_ok : ∀ pc i nx ts, qkL_pairCount pc = some (i, nx, ts) → am_cok cL_pairCount pc (i, nx, ts) = true := fun pc i nx ts h => am_tok_ok (n := 19) (by decide +kernel) (fun pc h => by show cond (Nat.ble 19 pc) _ _ = _; rw [Nat.ble_eq_true_of_le h]; rfl) h
def qaL_pairCount : Nat → Option CE := fun k => cond (Nat.beq k 100) (some qeX8_pairCount) (none)
theorem qyL_pairCount (l : Launch) (hst : l.stackTraces = false) : ∀ k e1, qaL_pairCount k = some e1 → am_cal l layL RL 18 k e1 ∧ True := q_cons ⟨am_calV (ci := 8) (am_CT_mono layX_L (qtX8_pairCount l hst)) qbX8_pairCount (by decide) rfl (am_tb_at 1246 (by decide +kernel) rfl), trivial⟩ (q_nil)
def qxL_pairCount : CX := (qkL_pairCount, layL, qfL, qaL_pairCount, qcL, qlL, qmL, (some .int), false, (some 15), 2, none, fun _ => none)
theorem qzL_pairCount (l : Launch) (hst : l.stackTraces = false) : am_sta l qxL_pairCount RL 18 cL_pairCount := ⟨qkL_pairCount_ok, layL_ok, qfL_ok, qcL_ok, qlL_ok, am_mthP qmL_ok (by decide), fun k e1 h => (qyL_pairCount l hst k e1 h).1⟩
def qsL_pairCount : SP := fun as F A K => match as with
  | [.inr (.inr x), .inl c, .inl e, .inr (.inr o)] => cond (Nat.beq x 0 && Nat.beq o 43) ((fgOK (A 2) ∧ (-2147483648 ≤ c ∧ c < 2147483648) ∧ (-2147483648 ≤ e ∧ e < 2147483648) ∧ caAll A ∧ (∀ jj, -2 ≤ A 20 jj ∧ A 20 jj < 5000)) ∧ (((0 ≤ c ∧ c < A 2 0) ∧ 0 ≤ e ∧ e < A 2 0 → (∀ (G_1 : FF) (B_1 : AA), (mkP F G_1 A B_1 c e (A 2 3)) → (K (some (some (vI 0))) G_1 (upA B_1 43 (w32 0) (w32 (cntP (B_1 20) (Int.toNat (p2 (A 2 3) * p2 (A 2 3))))))))) ∧ (¬ ((0 ≤ c ∧ c < A 2 0) ∧ 0 ≤ e ∧ e < A 2 0) → (K (some (some (vI 1))) F A)))) (False)
  | _ => False
def qeL_pairCount : CE := (yL_pairCount, cL_pairCount, 5, (some .int), 4, none, 2, [(0, 10, 13, 13)], 2, 18, qsL_pairCount)
theorem qbL_pairCount : am_mb qeL_pairCount := ⟨am_tb_at 1245 (by decide +kernel) rfl, am_tb_at 113 (by decide +kernel) rfl, ⟨by decide, by decide, by decide +kernel⟩, by decide, am_tb_at 1244 (by decide +kernel) rfl⟩
set_option maxRecDepth 20000 in
theorem qvL_pairCount_0_43 (c : Int) (e : Int) (F : FF) (A : AA) (K : KK) (h : (fgOK (A 2) ∧ (-2147483648 ≤ c ∧ c < 2147483648) ∧ (-2147483648 ≤ e ∧ e < 2147483648) ∧ caAll A ∧ (∀ jj, -2 ≤ A 20 jj ∧ A 20 jj < 5000)) ∧ (((0 ≤ c ∧ c < A 2 0) ∧ 0 ≤ e ∧ e < A 2 0 → (∀ (G_1 : FF) (B_1 : AA), (mkP F G_1 A B_1 c e (A 2 3)) → (K (some (some (vI 0))) G_1 (upA B_1 43 (w32 0) (w32 (cntP (B_1 20) (Int.toNat (p2 (A 2 3) * p2 (A 2 3))))))))) ∧ (¬ ((0 ≤ c ∧ c < A 2 0) ∧ 0 ≤ e ∧ e < A 2 0) → (K (some (some (vI 1))) F A)))) : am_line qxL_pairCount 12 [vR 0, vI c, vI e, vR 43] 5 F A K := by
  show am_stp qxL_pairCount (am_run qxL_pairCount (fun _ => none) (fun _ _ _ _ _ _ => False) K 12) K 0 [some (vR 0), some (vI c), some (vI e), some (vR 43), none] [] F A 0
  obtain ⟨hp, h⟩ := h
  show (fgOK (A 2) ∧ (-2147483648 ≤ c ∧ c < 2147483648) ∧ (-2147483648 ≤ e ∧ e < 2147483648) ∧ caAll A ∧ (∀ jj, -2 ≤ A 20 jj ∧ A 20 jj < 5000)) ∧ (((0 ≤ c ∧ c < A 2 0) ∧ 0 ≤ e ∧ e < A 2 0 → (∀ (G_1 : FF) (B_1 : AA), (mkP F G_1 A B_1 c e (A 2 3)) → ((0 ≤ w32 0 ∧ w32 0 < 1) ∧ (K (some (some (vI 0))) G_1 (upA B_1 43 (w32 0) (w32 (cntP (B_1 20) (Int.toNat (p2 (A 2 3) * p2 (A 2 3)))))))))) ∧ (¬ ((0 ≤ c ∧ c < A 2 0) ∧ 0 ≤ e ∧ e < A 2 0) → (K (some (some (vI 1))) F A)))
  refine ⟨by exact hp, ?_⟩
  refine ⟨fun c1 => ?_, fun c1 => ?_⟩
  · skip
    skip
    intro G_1 B_1 g1
    refine ⟨by exact ⟨by decide, by decide⟩, ?_⟩
    first | exact h.1 c1 | exact h.2 c1 | exact h.1 c1 _ _ g1 | exact h.1 c1 _ g1 | exact h.1 c1 _ _ _ _ g1
  · skip
    skip
    first | exact h.1 c1 | exact h.2 c1 | exact h.1 c1 _ _ g1 | exact h.1 c1 _ g1 | exact h.1 c1 _ _ _ _ g1
theorem qtL_pairCount (l : Launch) (hst : l.stackTraces = false) : am_CT l layL qeL_pairCount := am_met2 (hp := 13) (hn := 15) (i := 4) (en := 10) rfl (by decide +kernel) rfl rfl rfl rfl rfl rfl (Or.inl ⟨by decide +kernel, rfl⟩) (by decide) (dc_cov (n := 19) (by decide +kernel) (by decide +kernel)) (fun _ => rfl) rfl (qzL_pairCount l hst) (fun as F A K h => by
  replace h : qsL_pairCount as F A K := h
  unfold qsL_pairCount at h
  split at h
  · rename_i x c e o
    refine ⟨by first | exact Nat.le_of_ble_eq_true rfl | simp [am_fl, am_cat], ?_⟩
    replace h := am_cond2 h
    rcases h with ⟨hb, h⟩ | h
    · simp only [Bool.and_eq_true] at hb
      obtain ⟨hb0, hb1⟩ := hb
      have hb0 := am_bq hb0
      subst hb0
      have hb1 := am_bq hb1
      subst hb1
      exact am_way_line (qvL_pairCount_0_43 c e F A K h)
    exact h.elim
  · exact h.elim)
def qkL_pair : Nat → Option CI := fun pc => cond (Nat.ble 21 pc) none (cond (Nat.ble 10 pc) (cond (Nat.ble 17 pc) (cond (Nat.ble 19 pc) (cond (Nat.beq pc 19) (some (.iconst 0, 20, [])) (cond (Nat.beq pc 20) (some (.ireturn, 21, [])) (none))) (cond (Nat.beq pc 17) (some (.iconst 1, 18, [])) (cond (Nat.beq pc 18) (some (.ireturn, 19, [])) (none)))) (cond (Nat.ble 12 pc) (cond (Nat.beq pc 12) (some (.goto 7, 15, [19])) (cond (Nat.beq pc 15) (some (.astore 5, 17, [])) (none))) (cond (Nat.beq pc 10) (some (.i2l, 11, [])) (cond (Nat.beq pc 11) (some (.lastore, 12, [])) (none))))) (cond (Nat.ble 4 pc) (cond (Nat.ble 6 pc) (cond (Nat.beq pc 6) (some (.iload_n 3, 7, [])) (cond (Nat.beq pc 7) (some (.invokevirtual 103, 10, [])) (none))) (cond (Nat.beq pc 4) (some (.iload_n 1, 5, [])) (cond (Nat.beq pc 5) (some (.iload_n 2, 6, [])) (none)))) (cond (Nat.beq pc 0) (some (.aload 4, 2, [])) (cond (Nat.beq pc 2) (some (.iconst 0, 3, [])) (cond (Nat.beq pc 3) (some (.aload_n 0, 4, [])) (none))))))
theorem qkL_pair_ok : ∀ pc i nx ts, qkL_pair pc = some (i, nx, ts) → am_cok cL_pair pc (i, nx, ts) = true := fun pc i nx ts h => am_tok_ok (n := 21) (by decide +kernel) (fun pc h => by show cond (Nat.ble 21 pc) _ _ = _; rw [Nat.ble_eq_true_of_le h]; rfl) h
def qaL_pair : Nat → Option CE := fun k => cond (Nat.beq k 103) (some qeX8_pair) (none)
theorem qyL_pair (l : Launch) (hst : l.stackTraces = false) : ∀ k e1, qaL_pair k = some e1 → am_cal l layL RL 18 k e1 ∧ True := q_cons ⟨am_calV (ci := 8) (am_CT_mono layX_L (qtX8_pair l hst)) qbX8_pair (by decide) rfl (am_tb_at 1281 (by decide +kernel) rfl), trivial⟩ (q_nil)
def qxL_pair : CX := (qkL_pair, layL, qfL, qaL_pair, qcL, qlL, qmL, (some .int), false, (some 17), 2, none, fun _ => none)
theorem qzL_pair (l : Launch) (hst : l.stackTraces = false) : am_sta l qxL_pair RL 18 cL_pair := ⟨qkL_pair_ok, layL_ok, qfL_ok, qcL_ok, qlL_ok, am_mthP qmL_ok (by decide), fun k e1 h => (qyL_pair l hst k e1 h).1⟩
def qsL_pair : SP := fun as F A K => match as with
  | [.inr (.inr x), .inl c, .inl e, .inl k, .inr (.inr o)] => cond (Nat.beq x 0 && Nat.beq o 43) ((fgOK (A 2) ∧ (-2147483648 ≤ c ∧ c < 2147483648) ∧ (-2147483648 ≤ e ∧ e < 2147483648) ∧ (-2147483648 ≤ k ∧ k < 2147483648) ∧ caAll A ∧ (∀ jj, -2 ≤ A 20 jj ∧ A 20 jj < 5000)) ∧ (((0 ≤ c ∧ c < A 2 0) ∧ 0 ≤ e ∧ e < A 2 0 → (∀ (G_1 : FF) (B_1 : AA), (mkP F G_1 A B_1 c e (A 2 3)) → (K (some (some (vI 0))) G_1 (upA B_1 43 (w32 0) (w32 (pkR (B_1 20) (p2 (A 2 3)) k)))))) ∧ (¬ ((0 ≤ c ∧ c < A 2 0) ∧ 0 ≤ e ∧ e < A 2 0) → (K (some (some (vI 1))) F A)))) (False)
  | _ => False
def qeL_pair : CE := (yL_pair, cL_pair, 6, (some .int), 5, none, 2, [(0, 12, 15, 13)], 2, 18, qsL_pair)
theorem qbL_pair : am_mb qeL_pair := ⟨am_tb_at 1280 (by decide +kernel) rfl, am_tb_at 113 (by decide +kernel) rfl, ⟨by decide, by decide, by decide +kernel⟩, by decide, am_tb_at 1279 (by decide +kernel) rfl⟩
set_option maxRecDepth 20000 in
theorem qvL_pair_0_43 (c : Int) (e : Int) (k : Int) (F : FF) (A : AA) (K : KK) (h : (fgOK (A 2) ∧ (-2147483648 ≤ c ∧ c < 2147483648) ∧ (-2147483648 ≤ e ∧ e < 2147483648) ∧ (-2147483648 ≤ k ∧ k < 2147483648) ∧ caAll A ∧ (∀ jj, -2 ≤ A 20 jj ∧ A 20 jj < 5000)) ∧ (((0 ≤ c ∧ c < A 2 0) ∧ 0 ≤ e ∧ e < A 2 0 → (∀ (G_1 : FF) (B_1 : AA), (mkP F G_1 A B_1 c e (A 2 3)) → (K (some (some (vI 0))) G_1 (upA B_1 43 (w32 0) (w32 (pkR (B_1 20) (p2 (A 2 3)) k)))))) ∧ (¬ ((0 ≤ c ∧ c < A 2 0) ∧ 0 ≤ e ∧ e < A 2 0) → (K (some (some (vI 1))) F A)))) : am_line qxL_pair 13 [vR 0, vI c, vI e, vI k, vR 43] 6 F A K := by
  show am_stp qxL_pair (am_run qxL_pair (fun _ => none) (fun _ _ _ _ _ _ => False) K 13) K 0 [some (vR 0), some (vI c), some (vI e), some (vI k), some (vR 43), none] [] F A 0
  obtain ⟨hp, h⟩ := h
  show (fgOK (A 2) ∧ (-2147483648 ≤ c ∧ c < 2147483648) ∧ (-2147483648 ≤ e ∧ e < 2147483648) ∧ (-2147483648 ≤ k ∧ k < 2147483648) ∧ caAll A ∧ (∀ jj, -2 ≤ A 20 jj ∧ A 20 jj < 5000)) ∧ (((0 ≤ c ∧ c < A 2 0) ∧ 0 ≤ e ∧ e < A 2 0 → (∀ (G_1 : FF) (B_1 : AA), (mkP F G_1 A B_1 c e (A 2 3)) → ((0 ≤ w32 0 ∧ w32 0 < 1) ∧ (K (some (some (vI 0))) G_1 (upA B_1 43 (w32 0) (w32 (pkR (B_1 20) (p2 (A 2 3)) k))))))) ∧ (¬ ((0 ≤ c ∧ c < A 2 0) ∧ 0 ≤ e ∧ e < A 2 0) → (K (some (some (vI 1))) F A)))
  refine ⟨by exact hp, ?_⟩
  refine ⟨fun c1 => ?_, fun c1 => ?_⟩
  · skip
    skip
    intro G_1 B_1 g1
    refine ⟨by exact ⟨by decide, by decide⟩, ?_⟩
    first | exact h.1 c1 | exact h.2 c1 | exact h.1 c1 _ _ g1 | exact h.1 c1 _ g1 | exact h.1 c1 _ _ _ _ g1
  · skip
    skip
    first | exact h.1 c1 | exact h.2 c1 | exact h.1 c1 _ _ g1 | exact h.1 c1 _ g1 | exact h.1 c1 _ _ _ _ g1
theorem qtL_pair (l : Launch) (hst : l.stackTraces = false) : am_CT l layL qeL_pair := am_met2 (hp := 15) (hn := 17) (i := 5) (en := 12) rfl (by decide +kernel) rfl rfl rfl rfl rfl rfl (Or.inl ⟨by decide +kernel, rfl⟩) (by decide) (dc_cov (n := 21) (by decide +kernel) (by decide +kernel)) (fun _ => rfl) rfl (qzL_pair l hst) (fun as F A K h => by
  replace h : qsL_pair as F A K := h
  unfold qsL_pair at h
  split at h
  · rename_i x c e k o
    refine ⟨by first | exact Nat.le_of_ble_eq_true rfl | simp [am_fl, am_cat], ?_⟩
    replace h := am_cond2 h
    rcases h with ⟨hb, h⟩ | h
    · simp only [Bool.and_eq_true] at hb
      obtain ⟨hb0, hb1⟩ := hb
      have hb0 := am_bq hb0
      subst hb0
      have hb1 := am_bq hb1
      subst hb1
      exact am_way_line (qvL_pair_0_43 c e k F A K h)
    exact h.elim
  · exact h.elim)
def qkL_meetingCount : Nat → Option CI := fun pc => cond (Nat.ble 19 pc) none (cond (Nat.ble 9 pc) (cond (Nat.ble 15 pc) (cond (Nat.ble 17 pc) (cond (Nat.beq pc 17) (some (.iconst 0, 18, [])) (cond (Nat.beq pc 18) (some (.ireturn, 19, [])) (none))) (cond (Nat.beq pc 15) (some (.iconst 1, 16, [])) (cond (Nat.beq pc 16) (some (.ireturn, 17, [])) (none)))) (cond (Nat.beq pc 9) (some (.lastore, 10, [])) (cond (Nat.beq pc 10) (some (.goto 7, 13, [17])) (cond (Nat.beq pc 13) (some (.astore 4, 15, [])) (none))))) (cond (Nat.ble 3 pc) (cond (Nat.ble 5 pc) (cond (Nat.beq pc 5) (some (.invokevirtual 106, 8, [])) (cond (Nat.beq pc 8) (some (.i2l, 9, [])) (none))) (cond (Nat.beq pc 3) (some (.iload_n 1, 4, [])) (cond (Nat.beq pc 4) (some (.iload_n 2, 5, [])) (none)))) (cond (Nat.beq pc 0) (some (.aload_n 3, 1, [])) (cond (Nat.beq pc 1) (some (.iconst 0, 2, [])) (cond (Nat.beq pc 2) (some (.aload_n 0, 3, [])) (none))))))
theorem qkL_meetingCount_ok : ∀ pc i nx ts, qkL_meetingCount pc = some (i, nx, ts) → am_cok cL_meetingCount pc (i, nx, ts) = true := fun pc i nx ts h => am_tok_ok (n := 19) (by decide +kernel) (fun pc h => by show cond (Nat.ble 19 pc) _ _ = _; rw [Nat.ble_eq_true_of_le h]; rfl) h
def qaL_meetingCount : Nat → Option CE := fun k => cond (Nat.beq k 106) (some qeX8_meetingCount) (none)
theorem qyL_meetingCount (l : Launch) (hst : l.stackTraces = false) : ∀ k e1, qaL_meetingCount k = some e1 → am_cal l layL RL 18 k e1 ∧ True := q_cons ⟨am_calV (ci := 8) (am_CT_mono layX_L (qtX8_meetingCount l hst)) qbX8_meetingCount (by decide) rfl (am_tb_at 1292 (by decide +kernel) rfl), trivial⟩ (q_nil)
def qxL_meetingCount : CX := (qkL_meetingCount, layL, qfL, qaL_meetingCount, qcL, qlL, qmL, (some .int), false, (some 15), 2, none, fun _ => none)
theorem qzL_meetingCount (l : Launch) (hst : l.stackTraces = false) : am_sta l qxL_meetingCount RL 18 cL_meetingCount := ⟨qkL_meetingCount_ok, layL_ok, qfL_ok, qcL_ok, qlL_ok, am_mthP qmL_ok (by decide), fun k e1 h => (qyL_meetingCount l hst k e1 h).1⟩
def qsL_meetingCount : SP := fun as F A K => match as with
  | [.inr (.inr x), .inl c, .inl e, .inr (.inr o)] => cond (Nat.beq x 0 && Nat.beq o 43) ((fgOK (A 2) ∧ (-2147483648 ≤ c ∧ c < 2147483648) ∧ (-2147483648 ≤ e ∧ e < 2147483648) ∧ caAll A ∧ (∀ jj, -2 ≤ A 20 jj ∧ A 20 jj < 5000)) ∧ (((0 ≤ c ∧ c < A 2 0) ∧ 0 ≤ e ∧ e < A 2 0 → (∀ (H_1 : FF) (C_1 : AA) (G_1 : FF) (B_1 : AA), (gqP F G_1 H_1 A B_1 C_1 c e) → (K (some (some (vI 0))) G_1 (upA B_1 43 (w32 0) (w32 (gqN H_1 C_1 (A 2 3))))))) ∧ (¬ ((0 ≤ c ∧ c < A 2 0) ∧ 0 ≤ e ∧ e < A 2 0) → (K (some (some (vI 1))) F A)))) (False)
  | _ => False
def qeL_meetingCount : CE := (yL_meetingCount, cL_meetingCount, 5, (some .int), 4, none, 2, [(0, 10, 13, 13)], 2, 18, qsL_meetingCount)
theorem qbL_meetingCount : am_mb qeL_meetingCount := ⟨am_tb_at 1291 (by decide +kernel) rfl, am_tb_at 113 (by decide +kernel) rfl, ⟨by decide, by decide, by decide +kernel⟩, by decide, am_tb_at 1290 (by decide +kernel) rfl⟩
set_option maxRecDepth 20000 in
theorem qvL_meetingCount_0_43 (c : Int) (e : Int) (F : FF) (A : AA) (K : KK) (h : (fgOK (A 2) ∧ (-2147483648 ≤ c ∧ c < 2147483648) ∧ (-2147483648 ≤ e ∧ e < 2147483648) ∧ caAll A ∧ (∀ jj, -2 ≤ A 20 jj ∧ A 20 jj < 5000)) ∧ (((0 ≤ c ∧ c < A 2 0) ∧ 0 ≤ e ∧ e < A 2 0 → (∀ (H_1 : FF) (C_1 : AA) (G_1 : FF) (B_1 : AA), (gqP F G_1 H_1 A B_1 C_1 c e) → (K (some (some (vI 0))) G_1 (upA B_1 43 (w32 0) (w32 (gqN H_1 C_1 (A 2 3))))))) ∧ (¬ ((0 ≤ c ∧ c < A 2 0) ∧ 0 ≤ e ∧ e < A 2 0) → (K (some (some (vI 1))) F A)))) : am_line qxL_meetingCount 12 [vR 0, vI c, vI e, vR 43] 5 F A K := by
  show am_stp qxL_meetingCount (am_run qxL_meetingCount (fun _ => none) (fun _ _ _ _ _ _ => False) K 12) K 0 [some (vR 0), some (vI c), some (vI e), some (vR 43), none] [] F A 0
  obtain ⟨hp, h⟩ := h
  show (fgOK (A 2) ∧ (-2147483648 ≤ c ∧ c < 2147483648) ∧ (-2147483648 ≤ e ∧ e < 2147483648) ∧ caAll A ∧ (∀ jj, -2 ≤ A 20 jj ∧ A 20 jj < 5000)) ∧ (((0 ≤ c ∧ c < A 2 0) ∧ 0 ≤ e ∧ e < A 2 0 → (∀ (H_1 : FF) (C_1 : AA) (G_1 : FF) (B_1 : AA), (gqP F G_1 H_1 A B_1 C_1 c e) → ((0 ≤ w32 0 ∧ w32 0 < 1) ∧ (K (some (some (vI 0))) G_1 (upA B_1 43 (w32 0) (w32 (gqN H_1 C_1 (A 2 3)))))))) ∧ (¬ ((0 ≤ c ∧ c < A 2 0) ∧ 0 ≤ e ∧ e < A 2 0) → (K (some (some (vI 1))) F A)))
  refine ⟨by exact hp, ?_⟩
  refine ⟨fun c1 => ?_, fun c1 => ?_⟩
  · skip
    skip
    intro H_1 C_1 G_1 B_1 g1
    refine ⟨by exact ⟨by decide, by decide⟩, ?_⟩
    first | exact h.1 c1 | exact h.2 c1 | exact h.1 c1 _ _ g1 | exact h.1 c1 _ g1 | exact h.1 c1 _ _ _ _ g1
  · skip
    skip
    first | exact h.1 c1 | exact h.2 c1 | exact h.1 c1 _ _ g1 | exact h.1 c1 _ g1 | exact h.1 c1 _ _ _ _ g1
theorem qtL_meetingCount (l : Launch) (hst : l.stackTraces = false) : am_CT l layL qeL_meetingCount := am_met2 (hp := 13) (hn := 15) (i := 4) (en := 10) rfl (by decide +kernel) rfl rfl rfl rfl rfl rfl (Or.inl ⟨by decide +kernel, rfl⟩) (by decide) (dc_cov (n := 19) (by decide +kernel) (by decide +kernel)) (fun _ => rfl) rfl (qzL_meetingCount l hst) (fun as F A K h => by
  replace h : qsL_meetingCount as F A K := h
  unfold qsL_meetingCount at h
  split at h
  · rename_i x c e o
    refine ⟨by first | exact Nat.le_of_ble_eq_true rfl | simp [am_fl, am_cat], ?_⟩
    replace h := am_cond2 h
    rcases h with ⟨hb, h⟩ | h
    · simp only [Bool.and_eq_true] at hb
      obtain ⟨hb0, hb1⟩ := hb
      have hb0 := am_bq hb0
      subst hb0
      have hb1 := am_bq hb1
      subst hb1
      exact am_way_line (qvL_meetingCount_0_43 c e F A K h)
    exact h.elim
  · exact h.elim)
def qkL_meetingOf : Nat → Option CI := fun pc => cond (Nat.ble 23 pc) none (cond (Nat.ble 12 pc) (cond (Nat.ble 19 pc) (cond (Nat.ble 21 pc) (cond (Nat.beq pc 21) (some (.iconst 0, 22, [])) (cond (Nat.beq pc 22) (some (.ireturn, 23, [])) (none))) (cond (Nat.beq pc 19) (some (.iconst 1, 20, [])) (cond (Nat.beq pc 20) (some (.ireturn, 21, [])) (none)))) (cond (Nat.ble 14 pc) (cond (Nat.beq pc 14) (some (.goto 7, 17, [21])) (cond (Nat.beq pc 17) (some (.astore 6, 19, [])) (none))) (cond (Nat.beq pc 12) (some (.i2l, 13, [])) (cond (Nat.beq pc 13) (some (.lastore, 14, [])) (none))))) (cond (Nat.ble 5 pc) (cond (Nat.ble 7 pc) (cond (Nat.beq pc 7) (some (.iload 4, 9, [])) (cond (Nat.beq pc 9) (some (.invokevirtual 109, 12, [])) (none))) (cond (Nat.beq pc 5) (some (.iload_n 2, 6, [])) (cond (Nat.beq pc 6) (some (.iload_n 3, 7, [])) (none)))) (cond (Nat.ble 3 pc) (cond (Nat.beq pc 3) (some (.aload_n 0, 4, [])) (cond (Nat.beq pc 4) (some (.iload_n 1, 5, [])) (none))) (cond (Nat.beq pc 0) (some (.aload 5, 2, [])) (cond (Nat.beq pc 2) (some (.iconst 0, 3, [])) (none))))))
theorem qkL_meetingOf_ok : ∀ pc i nx ts, qkL_meetingOf pc = some (i, nx, ts) → am_cok cL_meetingOf pc (i, nx, ts) = true := fun pc i nx ts h => am_tok_ok (n := 23) (by decide +kernel) (fun pc h => by show cond (Nat.ble 23 pc) _ _ = _; rw [Nat.ble_eq_true_of_le h]; rfl) h
def qaL_meetingOf : Nat → Option CE := fun k => cond (Nat.beq k 109) (some qeX8_meetingOf) (none)
theorem qyL_meetingOf (l : Launch) (hst : l.stackTraces = false) : ∀ k e1, qaL_meetingOf k = some e1 → am_cal l layL RL 18 k e1 ∧ True := q_cons ⟨am_calV (ci := 8) (am_CT_mono layX_L (qtX8_meetingOf l hst)) qbX8_meetingOf (by decide) rfl (am_tb_at 1311 (by decide +kernel) rfl), trivial⟩ (q_nil)
def qxL_meetingOf : CX := (qkL_meetingOf, layL, qfL, qaL_meetingOf, qcL, qlL, qmL, (some .int), false, (some 19), 2, none, fun _ => none)
theorem qzL_meetingOf (l : Launch) (hst : l.stackTraces = false) : am_sta l qxL_meetingOf RL 18 cL_meetingOf := ⟨qkL_meetingOf_ok, layL_ok, qfL_ok, qcL_ok, qlL_ok, am_mthP qmL_ok (by decide), fun k e1 h => (qyL_meetingOf l hst k e1 h).1⟩
def qsL_meetingOf : SP := fun as F A K => match as with
  | [.inr (.inr x), .inl c, .inl e, .inl q, .inl r, .inr (.inr o)] => cond (Nat.beq x 0 && Nat.beq o 43) ((fgOK (A 2) ∧ (-2147483648 ≤ c ∧ c < 2147483648) ∧ (-2147483648 ≤ e ∧ e < 2147483648) ∧ (-2147483648 ≤ q ∧ q < 2147483648) ∧ (-2147483648 ≤ r ∧ r < 2147483648) ∧ caAll A ∧ (∀ jj, -2 ≤ A 20 jj ∧ A 20 jj < 5000)) ∧ (((0 ≤ c ∧ c < A 2 0) ∧ 0 ≤ e ∧ e < A 2 0 → (∀ (H_1 : FF) (C_1 : AA) (G_1 : FF) (B_1 : AA), (gqP F G_1 H_1 A B_1 C_1 c e) → (K (some (some (vI 0))) G_1 (upA B_1 43 (w32 0) (w32 (mtA (B_1 20) (p2 (A 2 3)) q r)))))) ∧ (¬ ((0 ≤ c ∧ c < A 2 0) ∧ 0 ≤ e ∧ e < A 2 0) → (K (some (some (vI 1))) F A)))) (False)
  | _ => False
def qeL_meetingOf : CE := (yL_meetingOf, cL_meetingOf, 7, (some .int), 6, none, 2, [(0, 14, 17, 13)], 2, 18, qsL_meetingOf)
theorem qbL_meetingOf : am_mb qeL_meetingOf := ⟨am_tb_at 1310 (by decide +kernel) rfl, am_tb_at 113 (by decide +kernel) rfl, ⟨by decide, by decide, by decide +kernel⟩, by decide, am_tb_at 1309 (by decide +kernel) rfl⟩
set_option maxRecDepth 20000 in
theorem qvL_meetingOf_0_43 (c : Int) (e : Int) (q : Int) (r : Int) (F : FF) (A : AA) (K : KK) (h : (fgOK (A 2) ∧ (-2147483648 ≤ c ∧ c < 2147483648) ∧ (-2147483648 ≤ e ∧ e < 2147483648) ∧ (-2147483648 ≤ q ∧ q < 2147483648) ∧ (-2147483648 ≤ r ∧ r < 2147483648) ∧ caAll A ∧ (∀ jj, -2 ≤ A 20 jj ∧ A 20 jj < 5000)) ∧ (((0 ≤ c ∧ c < A 2 0) ∧ 0 ≤ e ∧ e < A 2 0 → (∀ (H_1 : FF) (C_1 : AA) (G_1 : FF) (B_1 : AA), (gqP F G_1 H_1 A B_1 C_1 c e) → (K (some (some (vI 0))) G_1 (upA B_1 43 (w32 0) (w32 (mtA (B_1 20) (p2 (A 2 3)) q r)))))) ∧ (¬ ((0 ≤ c ∧ c < A 2 0) ∧ 0 ≤ e ∧ e < A 2 0) → (K (some (some (vI 1))) F A)))) : am_line qxL_meetingOf 14 [vR 0, vI c, vI e, vI q, vI r, vR 43] 7 F A K := by
  show am_stp qxL_meetingOf (am_run qxL_meetingOf (fun _ => none) (fun _ _ _ _ _ _ => False) K 14) K 0 [some (vR 0), some (vI c), some (vI e), some (vI q), some (vI r), some (vR 43), none] [] F A 0
  obtain ⟨hp, h⟩ := h
  show (fgOK (A 2) ∧ (-2147483648 ≤ c ∧ c < 2147483648) ∧ (-2147483648 ≤ e ∧ e < 2147483648) ∧ (-2147483648 ≤ q ∧ q < 2147483648) ∧ (-2147483648 ≤ r ∧ r < 2147483648) ∧ caAll A ∧ (∀ jj, -2 ≤ A 20 jj ∧ A 20 jj < 5000)) ∧ (((0 ≤ c ∧ c < A 2 0) ∧ 0 ≤ e ∧ e < A 2 0 → (∀ (H_1 : FF) (C_1 : AA) (G_1 : FF) (B_1 : AA), (gqP F G_1 H_1 A B_1 C_1 c e) → ((0 ≤ w32 0 ∧ w32 0 < 1) ∧ (K (some (some (vI 0))) G_1 (upA B_1 43 (w32 0) (w32 (mtA (B_1 20) (p2 (A 2 3)) q r))))))) ∧ (¬ ((0 ≤ c ∧ c < A 2 0) ∧ 0 ≤ e ∧ e < A 2 0) → (K (some (some (vI 1))) F A)))
  refine ⟨by exact hp, ?_⟩
  refine ⟨fun c1 => ?_, fun c1 => ?_⟩
  · skip
    skip
    intro H_1 C_1 G_1 B_1 g1
    refine ⟨by exact ⟨by decide, by decide⟩, ?_⟩
    first | exact h.1 c1 | exact h.2 c1 | exact h.1 c1 _ _ g1 | exact h.1 c1 _ g1 | exact h.1 c1 _ _ _ _ g1
  · skip
    skip
    first | exact h.1 c1 | exact h.2 c1 | exact h.1 c1 _ _ g1 | exact h.1 c1 _ g1 | exact h.1 c1 _ _ _ _ g1
theorem qtL_meetingOf (l : Launch) (hst : l.stackTraces = false) : am_CT l layL qeL_meetingOf := am_met2 (hp := 17) (hn := 19) (i := 6) (en := 14) rfl (by decide +kernel) rfl rfl rfl rfl rfl rfl (Or.inl ⟨by decide +kernel, rfl⟩) (by decide) (dc_cov (n := 23) (by decide +kernel) (by decide +kernel)) (fun _ => rfl) rfl (qzL_meetingOf l hst) (fun as F A K h => by
  replace h : qsL_meetingOf as F A K := h
  unfold qsL_meetingOf at h
  split at h
  · rename_i x c e q r o
    refine ⟨by first | exact Nat.le_of_ble_eq_true rfl | simp [am_fl, am_cat], ?_⟩
    replace h := am_cond2 h
    rcases h with ⟨hb, h⟩ | h
    · simp only [Bool.and_eq_true] at hb
      obtain ⟨hb0, hb1⟩ := hb
      have hb0 := am_bq hb0
      subst hb0
      have hb1 := am_bq hb1
      subst hb1
      exact am_way_line (qvL_meetingOf_0_43 c e q r F A K h)
    exact h.elim
  · exact h.elim)
def qkL_meetingNumber : Nat → Option CI := fun pc => cond (Nat.ble 23 pc) none (cond (Nat.ble 12 pc) (cond (Nat.ble 19 pc) (cond (Nat.ble 21 pc) (cond (Nat.beq pc 21) (some (.iconst 0, 22, [])) (cond (Nat.beq pc 22) (some (.ireturn, 23, [])) (none))) (cond (Nat.beq pc 19) (some (.iconst 1, 20, [])) (cond (Nat.beq pc 20) (some (.ireturn, 21, [])) (none)))) (cond (Nat.ble 14 pc) (cond (Nat.beq pc 14) (some (.goto 7, 17, [21])) (cond (Nat.beq pc 17) (some (.astore 6, 19, [])) (none))) (cond (Nat.beq pc 12) (some (.i2l, 13, [])) (cond (Nat.beq pc 13) (some (.lastore, 14, [])) (none))))) (cond (Nat.ble 5 pc) (cond (Nat.ble 7 pc) (cond (Nat.beq pc 7) (some (.iload 4, 9, [])) (cond (Nat.beq pc 9) (some (.invokevirtual 112, 12, [])) (none))) (cond (Nat.beq pc 5) (some (.iload_n 2, 6, [])) (cond (Nat.beq pc 6) (some (.iload_n 3, 7, [])) (none)))) (cond (Nat.ble 3 pc) (cond (Nat.beq pc 3) (some (.aload_n 0, 4, [])) (cond (Nat.beq pc 4) (some (.iload_n 1, 5, [])) (none))) (cond (Nat.beq pc 0) (some (.aload 5, 2, [])) (cond (Nat.beq pc 2) (some (.iconst 0, 3, [])) (none))))))
theorem qkL_meetingNumber_ok : ∀ pc i nx ts, qkL_meetingNumber pc = some (i, nx, ts) → am_cok cL_meetingNumber pc (i, nx, ts) = true := fun pc i nx ts h => am_tok_ok (n := 23) (by decide +kernel) (fun pc h => by show cond (Nat.ble 23 pc) _ _ = _; rw [Nat.ble_eq_true_of_le h]; rfl) h
def qaL_meetingNumber : Nat → Option CE := fun k => cond (Nat.beq k 112) (some qeX8_meetingNumber) (none)
theorem qyL_meetingNumber (l : Launch) (hst : l.stackTraces = false) : ∀ k e1, qaL_meetingNumber k = some e1 → am_cal l layL RL 18 k e1 ∧ True := q_cons ⟨am_calV (ci := 8) (am_CT_mono layX_L (qtX8_meetingNumber l hst)) qbX8_meetingNumber (by decide) rfl (am_tb_at 1322 (by decide +kernel) rfl), trivial⟩ (q_nil)
def qxL_meetingNumber : CX := (qkL_meetingNumber, layL, qfL, qaL_meetingNumber, qcL, qlL, qmL, (some .int), false, (some 19), 2, none, fun _ => none)
theorem qzL_meetingNumber (l : Launch) (hst : l.stackTraces = false) : am_sta l qxL_meetingNumber RL 18 cL_meetingNumber := ⟨qkL_meetingNumber_ok, layL_ok, qfL_ok, qcL_ok, qlL_ok, am_mthP qmL_ok (by decide), fun k e1 h => (qyL_meetingNumber l hst k e1 h).1⟩
def qsL_meetingNumber : SP := fun as F A K => match as with
  | [.inr (.inr x), .inl c, .inl e, .inl m, .inl w, .inr (.inr o)] => cond (Nat.beq x 0 && Nat.beq o 43) ((fgOK (A 2) ∧ (-2147483648 ≤ c ∧ c < 2147483648) ∧ (-2147483648 ≤ e ∧ e < 2147483648) ∧ (-2147483648 ≤ m ∧ m < 2147483648) ∧ (-2147483648 ≤ w ∧ w < 2147483648) ∧ caAll A ∧ (∀ jj, -2 ≤ A 20 jj ∧ A 20 jj < 5000)) ∧ (((0 ≤ c ∧ c < A 2 0) ∧ 0 ≤ e ∧ e < A 2 0 → (∀ (H_1 : FF) (C_1 : AA) (G_1 : FF) (B_1 : AA), (gqP F G_1 H_1 A B_1 C_1 c e) → (K (some (some (vI 0))) G_1 (upA B_1 43 (w32 0) (w32 (if 0 ≤ m ∧ m < gqN H_1 C_1 (A 2 3) then (if 0 ≤ w ∧ w ≤ 4 then mvR (B_1 20) m (p2 (A 2 3)) w else -2) else -1)))))) ∧ (¬ ((0 ≤ c ∧ c < A 2 0) ∧ 0 ≤ e ∧ e < A 2 0) → (K (some (some (vI 1))) F A)))) (False)
  | _ => False
def qeL_meetingNumber : CE := (yL_meetingNumber, cL_meetingNumber, 7, (some .int), 6, none, 2, [(0, 14, 17, 13)], 2, 18, qsL_meetingNumber)
theorem qbL_meetingNumber : am_mb qeL_meetingNumber := ⟨am_tb_at 1321 (by decide +kernel) rfl, am_tb_at 113 (by decide +kernel) rfl, ⟨by decide, by decide, by decide +kernel⟩, by decide, am_tb_at 1320 (by decide +kernel) rfl⟩
set_option maxRecDepth 20000 in
theorem qvL_meetingNumber_0_43 (c : Int) (e : Int) (m : Int) (w : Int) (F : FF) (A : AA) (K : KK) (h : (fgOK (A 2) ∧ (-2147483648 ≤ c ∧ c < 2147483648) ∧ (-2147483648 ≤ e ∧ e < 2147483648) ∧ (-2147483648 ≤ m ∧ m < 2147483648) ∧ (-2147483648 ≤ w ∧ w < 2147483648) ∧ caAll A ∧ (∀ jj, -2 ≤ A 20 jj ∧ A 20 jj < 5000)) ∧ (((0 ≤ c ∧ c < A 2 0) ∧ 0 ≤ e ∧ e < A 2 0 → (∀ (H_1 : FF) (C_1 : AA) (G_1 : FF) (B_1 : AA), (gqP F G_1 H_1 A B_1 C_1 c e) → (K (some (some (vI 0))) G_1 (upA B_1 43 (w32 0) (w32 (if 0 ≤ m ∧ m < gqN H_1 C_1 (A 2 3) then (if 0 ≤ w ∧ w ≤ 4 then mvR (B_1 20) m (p2 (A 2 3)) w else -2) else -1)))))) ∧ (¬ ((0 ≤ c ∧ c < A 2 0) ∧ 0 ≤ e ∧ e < A 2 0) → (K (some (some (vI 1))) F A)))) : am_line qxL_meetingNumber 14 [vR 0, vI c, vI e, vI m, vI w, vR 43] 7 F A K := by
  show am_stp qxL_meetingNumber (am_run qxL_meetingNumber (fun _ => none) (fun _ _ _ _ _ _ => False) K 14) K 0 [some (vR 0), some (vI c), some (vI e), some (vI m), some (vI w), some (vR 43), none] [] F A 0
  obtain ⟨hp, h⟩ := h
  show (fgOK (A 2) ∧ (-2147483648 ≤ c ∧ c < 2147483648) ∧ (-2147483648 ≤ e ∧ e < 2147483648) ∧ (-2147483648 ≤ m ∧ m < 2147483648) ∧ (-2147483648 ≤ w ∧ w < 2147483648) ∧ caAll A ∧ (∀ jj, -2 ≤ A 20 jj ∧ A 20 jj < 5000)) ∧ (((0 ≤ c ∧ c < A 2 0) ∧ 0 ≤ e ∧ e < A 2 0 → (∀ (H_1 : FF) (C_1 : AA) (G_1 : FF) (B_1 : AA), (gqP F G_1 H_1 A B_1 C_1 c e) → ((0 ≤ w32 0 ∧ w32 0 < 1) ∧ (K (some (some (vI 0))) G_1 (upA B_1 43 (w32 0) (w32 (if 0 ≤ m ∧ m < gqN H_1 C_1 (A 2 3) then (if 0 ≤ w ∧ w ≤ 4 then mvR (B_1 20) m (p2 (A 2 3)) w else -2) else -1))))))) ∧ (¬ ((0 ≤ c ∧ c < A 2 0) ∧ 0 ≤ e ∧ e < A 2 0) → (K (some (some (vI 1))) F A)))
  refine ⟨by exact hp, ?_⟩
  refine ⟨fun c1 => ?_, fun c1 => ?_⟩
  · skip
    skip
    intro H_1 C_1 G_1 B_1 g1
    refine ⟨by exact ⟨by decide, by decide⟩, ?_⟩
    first | exact h.1 c1 | exact h.2 c1 | exact h.1 c1 _ _ g1 | exact h.1 c1 _ g1 | exact h.1 c1 _ _ _ _ g1
  · skip
    skip
    first | exact h.1 c1 | exact h.2 c1 | exact h.1 c1 _ _ g1 | exact h.1 c1 _ g1 | exact h.1 c1 _ _ _ _ g1
theorem qtL_meetingNumber (l : Launch) (hst : l.stackTraces = false) : am_CT l layL qeL_meetingNumber := am_met2 (hp := 17) (hn := 19) (i := 6) (en := 14) rfl (by decide +kernel) rfl rfl rfl rfl rfl rfl (Or.inl ⟨by decide +kernel, rfl⟩) (by decide) (dc_cov (n := 23) (by decide +kernel) (by decide +kernel)) (fun _ => rfl) rfl (qzL_meetingNumber l hst) (fun as F A K h => by
  replace h : qsL_meetingNumber as F A K := h
  unfold qsL_meetingNumber at h
  split at h
  · rename_i x c e m w o
    refine ⟨by first | exact Nat.le_of_ble_eq_true rfl | simp [am_fl, am_cat], ?_⟩
    replace h := am_cond2 h
    rcases h with ⟨hb, h⟩ | h
    · simp only [Bool.and_eq_true] at hb
      obtain ⟨hb0, hb1⟩ := hb
      have hb0 := am_bq hb0
      subst hb0
      have hb1 := am_bq hb1
      subst hb1
      exact am_way_line (qvL_meetingNumber_0_43 c e m w F A K h)
    exact h.elim
  · exact h.elim)
