def qkX9_areThere : Nat → Option CI := fun pc => cond (Nat.ble 26 pc) none (cond (Nat.ble 11 pc) (cond (Nat.ble 18 pc) (cond (Nat.ble 22 pc) (cond (Nat.beq pc 22) (some (.invokevirtual 301, 25, [])) (cond (Nat.beq pc 25) (some (.ireturn, 26, [])) (none))) (cond (Nat.beq pc 18) (some (.goto 4, 21, [22])) (cond (Nat.beq pc 21) (some (.iconst 0, 22, [])) (none)))) (cond (Nat.beq pc 11) (some (.invokevirtual 308, 14, [])) (cond (Nat.beq pc 14) (some (.ifCond .eq 7, 17, [21])) (cond (Nat.beq pc 17) (some (.iconst 1, 18, [])) (none))))) (cond (Nat.ble 3 pc) (cond (Nat.ble 9 pc) (cond (Nat.beq pc 9) (some (.aload_n 0, 10, [])) (cond (Nat.beq pc 10) (some (.iload_n 2, 11, [])) (none))) (cond (Nat.beq pc 3) (some (.invokevirtual 298, 6, [])) (cond (Nat.beq pc 6) (some (.ifCond .eq 15, 9, [21])) (none)))) (cond (Nat.beq pc 0) (some (.aload_n 0, 1, [])) (cond (Nat.beq pc 1) (some (.aload_n 0, 2, [])) (cond (Nat.beq pc 2) (some (.iload_n 1, 3, [])) (none))))))
theorem qkX9_areThere_ok : ∀ pc i nx ts, qkX9_areThere pc = some (i, nx, ts) → am_cok cX9_areThere pc (i, nx, ts) = true := fun pc i nx ts h => am_tok_ok (n := 26) (by decide +kernel) (fun pc h => by show cond (Nat.ble 26 pc) _ _ = _; rw [Nat.ble_eq_true_of_le h]; rfl) h
def qaX9_areThere : Nat → Option CE := fun k => cond (Nat.beq k 298) (some qeX9_isCurve) (cond (Nat.beq k 308) (some qeX9_isLine) (cond (Nat.beq k 301) (some qeX9_checks) (none)))
theorem qyX9_areThere (l : Launch) : ∀ k e1, qaX9_areThere k = some e1 → am_cal l layM RX9 4 k e1 ∧ ceT e1 = 0 := q_cons ⟨am_calV (ci := 9) (qtX9_isCurve l) qbX9_isCurve (by decide) rfl (am_tb_at 1651 (by decide +kernel) rfl), rfl⟩ (q_cons ⟨am_calV (ci := 9) (qtX9_isLine l) qbX9_isLine (by decide) rfl (am_tb_at 1683 (by decide +kernel) rfl), rfl⟩ (q_cons ⟨am_calV (ci := 9) (qtX9_checks l) qbX9_checks (by decide) rfl (am_tb_at 1655 (by decide +kernel) rfl), rfl⟩ (q_nil)))
def qxX9_areThere : CX := (qkX9_areThere, layM, qfX9, qaX9_areThere, qcX9, qlX9, qmX9, (some .boolean), false, none, 0, none, fun _ => none)
theorem qzX9_areThere (l : Launch) : am_sta l qxX9_areThere RX9 4 cX9_areThere := ⟨qkX9_areThere_ok, layM_ok, qfX9_ok, qcX9_ok, qlX9_ok, am_mthP qmX9_ok (by decide), fun k e1 h => (qyX9_areThere l k e1 h).1⟩
def qsX9_areThere : SP := fun as F A K => match as with
  | [.inr (.inr o), .inl c, .inl l] => cond (Nat.beq o 25) ((fgOK (mF A) ∧ (-2147483648 ≤ c ∧ c < 2147483648) ∧ (-2147483648 ≤ l ∧ l < 2147483648)) ∧ (K (some (some (vI (bi ((0 ≤ c ∧ c < mF A 0) ∧ 0 ≤ l ∧ l < mF A 1))))) (upF F 25 0 (1 - bi ((0 ≤ c ∧ c < mF A 0) ∧ 0 ≤ l ∧ l < mF A 1))) A)) (False)
  | _ => False
def qeX9_areThere : CE := (yX9_areThere, cX9_areThere, 3, (some .boolean), 2, some 9, 0, [], 0, 4, qsX9_areThere)
theorem qbX9_areThere : am_mb qeX9_areThere := ⟨am_tb_at 1777 (by decide +kernel) rfl, am_tb_at 124 (by decide +kernel) rfl, ⟨by decide, by decide, by decide +kernel⟩, by decide, by decide, am_tb_at 1776 (by decide +kernel) rfl, am_tb_at 83 (by decide +kernel) rfl, _, _, rfl⟩
set_option maxRecDepth 20000 in
theorem qvX9_areThere_25 (c : Int) (l : Int) (F : FF) (A : AA) (K : KK) (h : (fgOK (mF A) ∧ (-2147483648 ≤ c ∧ c < 2147483648) ∧ (-2147483648 ≤ l ∧ l < 2147483648)) ∧ (K (some (some (vI (bi ((0 ≤ c ∧ c < mF A 0) ∧ 0 ≤ l ∧ l < mF A 1))))) (upF F 25 0 (1 - bi ((0 ≤ c ∧ c < mF A 0) ∧ 0 ≤ l ∧ l < mF A 1))) A)) : am_line qxX9_areThere 14 [vR 25, vI c, vI l] 3 F A K := by
  show am_stp qxX9_areThere (am_run qxX9_areThere (fun _ => none) (fun _ _ _ _ _ _ => False) K 14) K 0 [some (vR 25), some (vI c), some (vI l)] [] F A 0
  obtain ⟨hp, h⟩ := h
  have p1 := hp.1
  have q1 := p1.1.1
  have q2 := p1.1.2
  have q4 := p1.2.1

  show ((0 ≤ mF A 0 ∧ mF A 0 ≤ 8) ∧ (0 ≤ mF A 1 ∧ mF A 1 ≤ 6) ∧ (-2147483648 ≤ c ∧ c < 2147483648)) ∧ ((w32 (bi (0 ≤ c ∧ c < mF A 0)) = w32 0 → ((0 = 0 ∨ 0 = 1) ∧ ((0 = 0 ∨ 0 = 1) ∧ (K (some (some (vI 0))) (upF F 25 0 (1 - 0)) A)))) ∧ (¬ (w32 (bi (0 ≤ c ∧ c < mF A 0)) = w32 0) → (((0 ≤ mF A 0 ∧ mF A 0 ≤ 8) ∧ (0 ≤ mF A 1 ∧ mF A 1 ≤ 6) ∧ (-2147483648 ≤ l ∧ l < 2147483648)) ∧ ((w32 (bi (0 ≤ l ∧ l < mF A 1)) = w32 0 → ((0 = 0 ∨ 0 = 1) ∧ ((0 = 0 ∨ 0 = 1) ∧ (K (some (some (vI 0))) (upF F 25 0 (1 - 0)) A)))) ∧ (¬ (w32 (bi (0 ≤ l ∧ l < mF A 1)) = w32 0) → ((1 = 0 ∨ 1 = 1) ∧ ((1 = 0 ∨ 1 = 1) ∧ (K (some (some (vI 1))) (upF F 25 0 (1 - 1)) A))))))))
  refine ⟨by first | exact Or.inl rfl | exact Or.inr rfl | exact bi_01 | omega, ?_⟩
  refine ⟨fun c1 => ?_, fun c1 => ?_⟩
  · skip
    (try simp only [w32_0, wbi0, Classical.not_not] at c1)
    refine ⟨by first | exact Or.inl rfl | exact Or.inr rfl | exact bi_01 | omega, ?_⟩
    refine ⟨by first | exact Or.inl rfl | exact Or.inr rfl | exact bi_01 | omega, ?_⟩
    first
    | (rw [bi_t (show (0 ≤ c ∧ c < mF A 0) ∧ 0 ≤ l ∧ l < mF A 1 from ⟨c1, c2⟩)] at h; exact h)
    | (rw [bi_f (show ¬ ((0 ≤ c ∧ c < mF A 0) ∧ 0 ≤ l ∧ l < mF A 1) from fun z => c1 z.1)] at h; exact h)
    | (rw [bi_f (show ¬ ((0 ≤ c ∧ c < mF A 0) ∧ 0 ≤ l ∧ l < mF A 1) from fun z => c2 z.2)] at h; exact h)
  · skip
    (try simp only [w32_0, wbi0, Classical.not_not] at c1)
    refine ⟨by first | exact Or.inl rfl | exact Or.inr rfl | exact bi_01 | omega, ?_⟩
    refine ⟨fun c2 => ?_, fun c2 => ?_⟩
    · skip
      (try simp only [w32_0, wbi0, Classical.not_not] at c2)
      refine ⟨by first | exact Or.inl rfl | exact Or.inr rfl | exact bi_01 | omega, ?_⟩
      refine ⟨by first | exact Or.inl rfl | exact Or.inr rfl | exact bi_01 | omega, ?_⟩
      first
      | (rw [bi_t (show (0 ≤ c ∧ c < mF A 0) ∧ 0 ≤ l ∧ l < mF A 1 from ⟨c1, c2⟩)] at h; exact h)
      | (rw [bi_f (show ¬ ((0 ≤ c ∧ c < mF A 0) ∧ 0 ≤ l ∧ l < mF A 1) from fun z => c1 z.1)] at h; exact h)
      | (rw [bi_f (show ¬ ((0 ≤ c ∧ c < mF A 0) ∧ 0 ≤ l ∧ l < mF A 1) from fun z => c2 z.2)] at h; exact h)
    · skip
      (try simp only [w32_0, wbi0, Classical.not_not] at c2)
      refine ⟨by first | exact Or.inl rfl | exact Or.inr rfl | exact bi_01 | omega, ?_⟩
      refine ⟨by first | exact Or.inl rfl | exact Or.inr rfl | exact bi_01 | omega, ?_⟩
      first
      | (rw [bi_t (show (0 ≤ c ∧ c < mF A 0) ∧ 0 ≤ l ∧ l < mF A 1 from ⟨c1, c2⟩)] at h; exact h)
      | (rw [bi_f (show ¬ ((0 ≤ c ∧ c < mF A 0) ∧ 0 ≤ l ∧ l < mF A 1) from fun z => c1 z.1)] at h; exact h)
      | (rw [bi_f (show ¬ ((0 ≤ c ∧ c < mF A 0) ∧ 0 ≤ l ∧ l < mF A 1) from fun z => c2 z.2)] at h; exact h)
theorem qtX9_areThere (l : Launch) : am_CT l layM qeX9_areThere := am_met0 rfl (by decide +kernel) rfl rfl rfl rfl rfl (fun _ => rfl) rfl (qzX9_areThere l) (fun k e1 h => (qyX9_areThere l k e1 h).2) (fun as F A K h => by
  replace h : qsX9_areThere as F A K := h
  unfold qsX9_areThere at h
  split at h
  · rename_i o c l
    refine ⟨by first | exact Nat.le_of_ble_eq_true rfl | simp [am_fl, am_cat], ?_⟩
    replace h := am_cond2 h
    rcases h with ⟨hb, h⟩ | h
    · skip
      have hb0 := hb
      have hb0 := am_bq hb0
      subst hb0
      exact am_way_line (qvX9_areThere_25 c l F A K h)
    exact h.elim
  · exact h.elim)
def qkX9_areTwo : Nat → Option CI := fun pc => cond (Nat.ble 26 pc) none (cond (Nat.ble 11 pc) (cond (Nat.ble 18 pc) (cond (Nat.ble 22 pc) (cond (Nat.beq pc 22) (some (.invokevirtual 301, 25, [])) (cond (Nat.beq pc 25) (some (.ireturn, 26, [])) (none))) (cond (Nat.beq pc 18) (some (.goto 4, 21, [22])) (cond (Nat.beq pc 21) (some (.iconst 0, 22, [])) (none)))) (cond (Nat.beq pc 11) (some (.invokevirtual 298, 14, [])) (cond (Nat.beq pc 14) (some (.ifCond .eq 7, 17, [21])) (cond (Nat.beq pc 17) (some (.iconst 1, 18, [])) (none))))) (cond (Nat.ble 3 pc) (cond (Nat.ble 9 pc) (cond (Nat.beq pc 9) (some (.aload_n 0, 10, [])) (cond (Nat.beq pc 10) (some (.iload_n 2, 11, [])) (none))) (cond (Nat.beq pc 3) (some (.invokevirtual 298, 6, [])) (cond (Nat.beq pc 6) (some (.ifCond .eq 15, 9, [21])) (none)))) (cond (Nat.beq pc 0) (some (.aload_n 0, 1, [])) (cond (Nat.beq pc 1) (some (.aload_n 0, 2, [])) (cond (Nat.beq pc 2) (some (.iload_n 1, 3, [])) (none))))))
theorem qkX9_areTwo_ok : ∀ pc i nx ts, qkX9_areTwo pc = some (i, nx, ts) → am_cok cX9_areTwo pc (i, nx, ts) = true := fun pc i nx ts h => am_tok_ok (n := 26) (by decide +kernel) (fun pc h => by show cond (Nat.ble 26 pc) _ _ = _; rw [Nat.ble_eq_true_of_le h]; rfl) h
def qaX9_areTwo : Nat → Option CE := fun k => cond (Nat.beq k 298) (some qeX9_isCurve) (cond (Nat.beq k 301) (some qeX9_checks) (none))
theorem qyX9_areTwo (l : Launch) : ∀ k e1, qaX9_areTwo k = some e1 → am_cal l layM RX9 4 k e1 ∧ ceT e1 = 0 := q_cons ⟨am_calV (ci := 9) (qtX9_isCurve l) qbX9_isCurve (by decide) rfl (am_tb_at 1651 (by decide +kernel) rfl), rfl⟩ (q_cons ⟨am_calV (ci := 9) (qtX9_checks l) qbX9_checks (by decide) rfl (am_tb_at 1655 (by decide +kernel) rfl), rfl⟩ (q_nil))
def qxX9_areTwo : CX := (qkX9_areTwo, layM, qfX9, qaX9_areTwo, qcX9, qlX9, qmX9, (some .boolean), false, none, 0, none, fun _ => none)
theorem qzX9_areTwo (l : Launch) : am_sta l qxX9_areTwo RX9 4 cX9_areTwo := ⟨qkX9_areTwo_ok, layM_ok, qfX9_ok, qcX9_ok, qlX9_ok, am_mthP qmX9_ok (by decide), fun k e1 h => (qyX9_areTwo l k e1 h).1⟩
def qsX9_areTwo : SP := fun as F A K => match as with
  | [.inr (.inr o), .inl c, .inl e] => cond (Nat.beq o 25) ((fgOK (mF A) ∧ (-2147483648 ≤ c ∧ c < 2147483648) ∧ (-2147483648 ≤ e ∧ e < 2147483648)) ∧ (K (some (some (vI (bi ((0 ≤ c ∧ c < mF A 0) ∧ 0 ≤ e ∧ e < mF A 0))))) (upF F 25 0 (1 - bi ((0 ≤ c ∧ c < mF A 0) ∧ 0 ≤ e ∧ e < mF A 0))) A)) (False)
  | _ => False
def qeX9_areTwo : CE := (yX9_areTwo, cX9_areTwo, 3, (some .boolean), 2, some 9, 0, [], 0, 4, qsX9_areTwo)
theorem qbX9_areTwo : am_mb qeX9_areTwo := ⟨am_tb_at 1932 (by decide +kernel) rfl, am_tb_at 124 (by decide +kernel) rfl, ⟨by decide, by decide, by decide +kernel⟩, by decide, by decide, am_tb_at 1931 (by decide +kernel) rfl, am_tb_at 100 (by decide +kernel) rfl, _, _, rfl⟩
set_option maxRecDepth 20000 in
theorem qvX9_areTwo_25 (c : Int) (e : Int) (F : FF) (A : AA) (K : KK) (h : (fgOK (mF A) ∧ (-2147483648 ≤ c ∧ c < 2147483648) ∧ (-2147483648 ≤ e ∧ e < 2147483648)) ∧ (K (some (some (vI (bi ((0 ≤ c ∧ c < mF A 0) ∧ 0 ≤ e ∧ e < mF A 0))))) (upF F 25 0 (1 - bi ((0 ≤ c ∧ c < mF A 0) ∧ 0 ≤ e ∧ e < mF A 0))) A)) : am_line qxX9_areTwo 14 [vR 25, vI c, vI e] 3 F A K := by
  show am_stp qxX9_areTwo (am_run qxX9_areTwo (fun _ => none) (fun _ _ _ _ _ _ => False) K 14) K 0 [some (vR 25), some (vI c), some (vI e)] [] F A 0
  obtain ⟨hp, h⟩ := h
  have p1 := hp.1
  have q1 := p1.1.1
  have q2 := p1.1.2
  have q4 := p1.2.1

  show ((0 ≤ mF A 0 ∧ mF A 0 ≤ 8) ∧ (0 ≤ mF A 1 ∧ mF A 1 ≤ 6) ∧ (-2147483648 ≤ c ∧ c < 2147483648)) ∧ ((w32 (bi (0 ≤ c ∧ c < mF A 0)) = w32 0 → ((0 = 0 ∨ 0 = 1) ∧ ((0 = 0 ∨ 0 = 1) ∧ (K (some (some (vI 0))) (upF F 25 0 (1 - 0)) A)))) ∧ (¬ (w32 (bi (0 ≤ c ∧ c < mF A 0)) = w32 0) → (((0 ≤ mF A 0 ∧ mF A 0 ≤ 8) ∧ (0 ≤ mF A 1 ∧ mF A 1 ≤ 6) ∧ (-2147483648 ≤ e ∧ e < 2147483648)) ∧ ((w32 (bi (0 ≤ e ∧ e < mF A 0)) = w32 0 → ((0 = 0 ∨ 0 = 1) ∧ ((0 = 0 ∨ 0 = 1) ∧ (K (some (some (vI 0))) (upF F 25 0 (1 - 0)) A)))) ∧ (¬ (w32 (bi (0 ≤ e ∧ e < mF A 0)) = w32 0) → ((1 = 0 ∨ 1 = 1) ∧ ((1 = 0 ∨ 1 = 1) ∧ (K (some (some (vI 1))) (upF F 25 0 (1 - 1)) A))))))))
  refine ⟨by first | exact Or.inl rfl | exact Or.inr rfl | exact bi_01 | omega, ?_⟩
  refine ⟨fun c1 => ?_, fun c1 => ?_⟩
  · skip
    (try simp only [w32_0, wbi0, Classical.not_not] at c1)
    refine ⟨by first | exact Or.inl rfl | exact Or.inr rfl | exact bi_01 | omega, ?_⟩
    refine ⟨by first | exact Or.inl rfl | exact Or.inr rfl | exact bi_01 | omega, ?_⟩
    first
    | (rw [bi_t (show (0 ≤ c ∧ c < mF A 0) ∧ 0 ≤ e ∧ e < mF A 0 from ⟨c1, c2⟩)] at h; exact h)
    | (rw [bi_f (show ¬ ((0 ≤ c ∧ c < mF A 0) ∧ 0 ≤ e ∧ e < mF A 0) from fun z => c1 z.1)] at h; exact h)
    | (rw [bi_f (show ¬ ((0 ≤ c ∧ c < mF A 0) ∧ 0 ≤ e ∧ e < mF A 0) from fun z => c2 z.2)] at h; exact h)
  · skip
    (try simp only [w32_0, wbi0, Classical.not_not] at c1)
    refine ⟨by first | exact Or.inl rfl | exact Or.inr rfl | exact bi_01 | omega, ?_⟩
    refine ⟨fun c2 => ?_, fun c2 => ?_⟩
    · skip
      (try simp only [w32_0, wbi0, Classical.not_not] at c2)
      refine ⟨by first | exact Or.inl rfl | exact Or.inr rfl | exact bi_01 | omega, ?_⟩
      refine ⟨by first | exact Or.inl rfl | exact Or.inr rfl | exact bi_01 | omega, ?_⟩
      first
      | (rw [bi_t (show (0 ≤ c ∧ c < mF A 0) ∧ 0 ≤ e ∧ e < mF A 0 from ⟨c1, c2⟩)] at h; exact h)
      | (rw [bi_f (show ¬ ((0 ≤ c ∧ c < mF A 0) ∧ 0 ≤ e ∧ e < mF A 0) from fun z => c1 z.1)] at h; exact h)
      | (rw [bi_f (show ¬ ((0 ≤ c ∧ c < mF A 0) ∧ 0 ≤ e ∧ e < mF A 0) from fun z => c2 z.2)] at h; exact h)
    · skip
      (try simp only [w32_0, wbi0, Classical.not_not] at c2)
      refine ⟨by first | exact Or.inl rfl | exact Or.inr rfl | exact bi_01 | omega, ?_⟩
      refine ⟨by first | exact Or.inl rfl | exact Or.inr rfl | exact bi_01 | omega, ?_⟩
      first
      | (rw [bi_t (show (0 ≤ c ∧ c < mF A 0) ∧ 0 ≤ e ∧ e < mF A 0 from ⟨c1, c2⟩)] at h; exact h)
      | (rw [bi_f (show ¬ ((0 ≤ c ∧ c < mF A 0) ∧ 0 ≤ e ∧ e < mF A 0) from fun z => c1 z.1)] at h; exact h)
      | (rw [bi_f (show ¬ ((0 ≤ c ∧ c < mF A 0) ∧ 0 ≤ e ∧ e < mF A 0) from fun z => c2 z.2)] at h; exact h)
theorem qtX9_areTwo (l : Launch) : am_CT l layM qeX9_areTwo := am_met0 rfl (by decide +kernel) rfl rfl rfl rfl rfl (fun _ => rfl) rfl (qzX9_areTwo l) (fun k e1 h => (qyX9_areTwo l k e1 h).2) (fun as F A K h => by
  replace h : qsX9_areTwo as F A K := h
  unfold qsX9_areTwo at h
  split at h
  · rename_i o c e
    refine ⟨by first | exact Nat.le_of_ble_eq_true rfl | simp [am_fl, am_cat], ?_⟩
    replace h := am_cond2 h
    rcases h with ⟨hb, h⟩ | h
    · skip
      have hb0 := hb
      have hb0 := am_bq hb0
      subst hb0
      exact am_way_line (qvX9_areTwo_25 c e F A K h)
    exact h.elim
  · exact h.elim)
def qkX9_coefficient : Nat → Option CI := fun pc => cond (Nat.ble 34 pc) none (cond (Nat.ble 14 pc) (cond (Nat.ble 23 pc) (cond (Nat.ble 27 pc) (cond (Nat.beq pc 27) (some (.goto 6, 30, [33])) (cond (Nat.beq pc 30) (some (.ldc_w 349, 33, [])) (cond (Nat.beq pc 33) (some (.ireturn, 34, [])) (none)))) (cond (Nat.beq pc 23) (some (.iload_n 3, 24, [])) (cond (Nat.beq pc 24) (some (.invokevirtual 95, 27, [])) (none)))) (cond (Nat.ble 20 pc) (cond (Nat.beq pc 20) (some (.aload_n 0, 21, [])) (cond (Nat.beq pc 21) (some (.iload_n 1, 22, [])) (cond (Nat.beq pc 22) (some (.iload_n 2, 23, [])) (none)))) (cond (Nat.beq pc 14) (some (.invokevirtual 305, 17, [])) (cond (Nat.beq pc 17) (some (.ifCond .eq 13, 20, [30])) (none))))) (cond (Nat.ble 9 pc) (cond (Nat.ble 11 pc) (cond (Nat.beq pc 11) (some (.aload_n 0, 12, [])) (cond (Nat.beq pc 12) (some (.iload_n 1, 13, [])) (cond (Nat.beq pc 13) (some (.iload_n 3, 14, [])) (none)))) (cond (Nat.beq pc 9) (some (.iconst 0, 10, [])) (cond (Nat.beq pc 10) (some (.ireturn, 11, [])) (none)))) (cond (Nat.ble 2 pc) (cond (Nat.beq pc 2) (some (.iload_n 2, 3, [])) (cond (Nat.beq pc 3) (some (.invokevirtual 346, 6, [])) (cond (Nat.beq pc 6) (some (.ifCond .ne 5, 9, [11])) (none)))) (cond (Nat.beq pc 0) (some (.aload_n 0, 1, [])) (cond (Nat.beq pc 1) (some (.iload_n 1, 2, [])) (none))))))
theorem qkX9_coefficient_ok : ∀ pc i nx ts, qkX9_coefficient pc = some (i, nx, ts) → am_cok cX9_coefficient pc (i, nx, ts) = true := fun pc i nx ts h => am_tok_ok (n := 34) (by decide +kernel) (fun pc h => by show cond (Nat.ble 34 pc) _ _ = _; rw [Nat.ble_eq_true_of_le h]; rfl) h
def qaX9_coefficient : Nat → Option CE := fun k => cond (Nat.beq k 346) (some qeX9_areThere) (cond (Nat.beq k 305) (some qeX9_isPoint) (cond (Nat.beq k 95) (some qeX9_coefficient0) (none)))
theorem qyX9_coefficient (l : Launch) : ∀ k e1, qaX9_coefficient k = some e1 → am_cal l layM RX9 5 k e1 ∧ ceT e1 = 0 := q_cons ⟨am_calV (ci := 9) (qtX9_areThere l) qbX9_areThere (by decide) rfl (am_tb_at 1774 (by decide +kernel) rfl), rfl⟩ (q_cons ⟨am_calV (ci := 9) (qtX9_isPoint l) qbX9_isPoint (by decide) rfl (am_tb_at 1671 (by decide +kernel) rfl), rfl⟩ (q_cons ⟨am_calV (ci := 9) (qtX9_coefficient0 l) qbX9_coefficient0 (by decide) rfl (am_tb_at 1778 (by decide +kernel) rfl), rfl⟩ (q_nil)))
def qxX9_coefficient : CX := (qkX9_coefficient, layM, qfX9, qaX9_coefficient, qcX9, qlX9, qmX9, (some .int), false, none, 0, none, fun _ => none)
theorem qzX9_coefficient (l : Launch) : am_sta l qxX9_coefficient RX9 5 cX9_coefficient := ⟨qkX9_coefficient_ok, layM_ok, qfX9_ok, qcX9_ok, qlX9_ok, am_mthP qmX9_ok (by decide), fun k e1 h => (qyX9_coefficient l k e1 h).1⟩
def qsX9_coefficient : SP := fun as F A K => match as with
  | [.inr (.inr o), .inl c, .inl l, .inl k] => cond (Nat.beq o 25) ((fgOK (mF A) ∧ (-2147483648 ≤ c ∧ c < 2147483648) ∧ (-2147483648 ≤ l ∧ l < 2147483648) ∧ (-2147483648 ≤ k ∧ k < 2147483648)) ∧ (∀ (G_1 : FF) (B_1 : AA), (qdP F G_1 A B_1 ∧ G_1 25 0 = (if (0 ≤ c ∧ c < mF A 0) ∧ 0 ≤ l ∧ l < mF A 1 then 0 else 1)) → (K (some (some (vI (if (0 ≤ c ∧ c < mF A 0) ∧ 0 ≤ l ∧ l < mF A 1 then (if 0 ≤ k ∧ k < mF A (18 + c) then cfR (mF A) c l k else -100000) else 0)))) G_1 B_1))) (False)
  | _ => False
def qeX9_coefficient : CE := (yX9_coefficient, cX9_coefficient, 4, (some .int), 3, some 9, 0, [], 0, 5, qsX9_coefficient)
theorem qbX9_coefficient : am_mb qeX9_coefficient := ⟨am_tb_at 1773 (by decide +kernel) rfl, am_tb_at 124 (by decide +kernel) rfl, ⟨by decide, by decide, by decide +kernel⟩, by decide, by decide, am_tb_at 1771 (by decide +kernel) rfl, am_tb_at 1772 (by decide +kernel) rfl, _, _, rfl⟩
set_option maxRecDepth 20000 in
theorem qvX9_coefficient_25 (c : Int) (l : Int) (k : Int) (F : FF) (A : AA) (K : KK) (h : (fgOK (mF A) ∧ (-2147483648 ≤ c ∧ c < 2147483648) ∧ (-2147483648 ≤ l ∧ l < 2147483648) ∧ (-2147483648 ≤ k ∧ k < 2147483648)) ∧ (∀ (G_1 : FF) (B_1 : AA), (qdP F G_1 A B_1 ∧ G_1 25 0 = (if (0 ≤ c ∧ c < mF A 0) ∧ 0 ≤ l ∧ l < mF A 1 then 0 else 1)) → (K (some (some (vI (if (0 ≤ c ∧ c < mF A 0) ∧ 0 ≤ l ∧ l < mF A 1 then (if 0 ≤ k ∧ k < mF A (18 + c) then cfR (mF A) c l k else -100000) else 0)))) G_1 B_1))) : am_line qxX9_coefficient 18 [vR 25, vI c, vI l, vI k] 4 F A K := by
  show am_stp qxX9_coefficient (am_run qxX9_coefficient (fun _ => none) (fun _ _ _ _ _ _ => False) K 18) K 0 [some (vR 25), some (vI c), some (vI l), some (vI k)] [] F A 0
  obtain ⟨hp, h⟩ := h
  have p1 := hp.1
  have q1 := p1.1.1
  have q2 := p1.1.2
  have q4 := p1.2.1

  show (fgOK (mF A) ∧ (-2147483648 ≤ c ∧ c < 2147483648) ∧ (-2147483648 ≤ l ∧ l < 2147483648)) ∧ ((w32 (bi ((0 ≤ c ∧ c < mF A 0) ∧ 0 ≤ l ∧ l < mF A 1)) = w32 0 → (K (some (some (vI 0))) (upF F 25 0 (1 - bi ((0 ≤ c ∧ c < mF A 0) ∧ 0 ≤ l ∧ l < mF A 1))) A)) ∧ (¬ (w32 (bi ((0 ≤ c ∧ c < mF A 0) ∧ 0 ≤ l ∧ l < mF A 1)) = w32 0) → (((0 ≤ c ∧ c < 8) ∧ (2 ≤ mF A (18 + c) ∧ mF A (18 + c) ≤ 4) ∧ (-2147483648 ≤ k ∧ k < 2147483648)) ∧ ((w32 (bi (0 ≤ k ∧ k < mF A (18 + c))) = w32 0 → (K (some (some (vI (-100000)))) (upF F 25 0 (1 - bi ((0 ≤ c ∧ c < mF A 0) ∧ 0 ≤ l ∧ l < mF A 1))) A)) ∧ (¬ (w32 (bi (0 ≤ k ∧ k < mF A (18 + c))) = w32 0) → (((0 ≤ c ∧ c < 8) ∧ (0 ≤ l ∧ l < 6) ∧ 0 ≤ k ∧ k < 4) ∧ (K (some (some (vI (cfR (mF A) c l k)))) (upF F 25 0 (1 - bi ((0 ≤ c ∧ c < mF A 0) ∧ 0 ≤ l ∧ l < mF A 1))) A)))))))
  refine ⟨by exact ⟨p1, by omega, by omega⟩, ?_⟩
  refine ⟨fun c1 => ?_, fun c1 => ?_⟩
  · skip
    (try (have q3 := (p1.2.2.1 c c1.1.1 c1.1.2).1)); (try simp only [w32_0, wbi0, Classical.not_not] at c1); (try simp (disch := omega) only [fat_in, w32_0, wbi0, Classical.not_not, w32_id] at c1)
    first
    | exact K_eq (h _ _ ⟨qdP_F (by decide), by rw [upF_s, bi_f c1, if_neg c1]; rfl⟩) (if_neg c1)
    | exact K_eq (h _ _ ⟨qdP_F (by decide), by rw [upF_s, bi_t c1, if_pos c1]; rfl⟩) (by rw [if_pos c1, if_pos (by omega)])
    | exact K_eq (h _ _ ⟨qdP_F (by decide), by rw [upF_s, bi_t c1, if_pos c1]; rfl⟩) (by rw [if_pos c1, if_neg (by omega)])
  · skip
    (try (have q3 := (p1.2.2.1 c c1.1.1 c1.1.2).1)); (try simp only [w32_0, wbi0, Classical.not_not] at c1); (try simp (disch := omega) only [fat_in, w32_0, wbi0, Classical.not_not, w32_id] at c1)
    refine ⟨by (have q3 := (p1.2.2.1 c c1.1.1 c1.1.2).1; first | exact bi_01 | omega | exact ⟨by omega, by omega, by omega⟩ | exact ⟨by omega, by omega⟩ | exact ⟨p1, c1⟩ | exact ⟨p1, c1.1, c1.2⟩), ?_⟩
    refine ⟨fun c2 => ?_, fun c2 => ?_⟩
    · skip
      (try (have q3 := (p1.2.2.1 c c1.1.1 c1.1.2).1)); (try simp only [w32_0, wbi0, Classical.not_not] at c2); (try simp (disch := omega) only [fat_in, w32_0, wbi0, Classical.not_not, w32_id] at c2)
      first
      | exact K_eq (h _ _ ⟨qdP_F (by decide), by rw [upF_s, bi_f c1, if_neg c1]; rfl⟩) (if_neg c1)
      | exact K_eq (h _ _ ⟨qdP_F (by decide), by rw [upF_s, bi_t c1, if_pos c1]; rfl⟩) (by rw [if_pos c1, if_pos (by omega)])
      | exact K_eq (h _ _ ⟨qdP_F (by decide), by rw [upF_s, bi_t c1, if_pos c1]; rfl⟩) (by rw [if_pos c1, if_neg (by omega)])
    · skip
      (try (have q3 := (p1.2.2.1 c c1.1.1 c1.1.2).1)); (try simp only [w32_0, wbi0, Classical.not_not] at c2); (try simp (disch := omega) only [fat_in, w32_0, wbi0, Classical.not_not, w32_id] at c2)
      refine ⟨by (have q3 := (p1.2.2.1 c c1.1.1 c1.1.2).1; first | exact bi_01 | omega | exact ⟨by omega, by omega, by omega⟩ | exact ⟨by omega, by omega⟩ | exact ⟨p1, c1⟩ | exact ⟨p1, c1.1, c1.2⟩), ?_⟩
      first
      | exact K_eq (h _ _ ⟨qdP_F (by decide), by rw [upF_s, bi_f c1, if_neg c1]; rfl⟩) (if_neg c1)
      | exact K_eq (h _ _ ⟨qdP_F (by decide), by rw [upF_s, bi_t c1, if_pos c1]; rfl⟩) (by rw [if_pos c1, if_pos (by omega)])
      | exact K_eq (h _ _ ⟨qdP_F (by decide), by rw [upF_s, bi_t c1, if_pos c1]; rfl⟩) (by rw [if_pos c1, if_neg (by omega)])
theorem qtX9_coefficient (l : Launch) : am_CT l layM qeX9_coefficient := am_met0 rfl (by decide +kernel) rfl rfl rfl rfl rfl (fun _ => rfl) rfl (qzX9_coefficient l) (fun k e1 h => (qyX9_coefficient l k e1 h).2) (fun as F A K h => by
  replace h : qsX9_coefficient as F A K := h
  unfold qsX9_coefficient at h
  split at h
  · rename_i o c l k
    refine ⟨by first | exact Nat.le_of_ble_eq_true rfl | simp [am_fl, am_cat], ?_⟩
    replace h := am_cond2 h
    rcases h with ⟨hb, h⟩ | h
    · skip
      have hb0 := hb
      have hb0 := am_bq hb0
      subst hb0
      exact am_way_line (qvX9_coefficient_25 c l k F A K h)
    exact h.elim
  · exact h.elim)
def qkX9_isOn : Nat → Option CI := fun pc => cond (Nat.ble 24 pc) none (cond (Nat.ble 11 pc) (cond (Nat.ble 18 pc) (cond (Nat.ble 22 pc) (cond (Nat.beq pc 22) (some (.iconst 0, 23, [])) (cond (Nat.beq pc 23) (some (.ireturn, 24, [])) (none))) (cond (Nat.beq pc 18) (some (.iconst 1, 19, [])) (cond (Nat.beq pc 19) (some (.goto 4, 22, [23])) (none)))) (cond (Nat.beq pc 11) (some (.iload_n 2, 12, [])) (cond (Nat.beq pc 12) (some (.invokevirtual 124, 15, [])) (cond (Nat.beq pc 15) (some (.ifCond .eq 7, 18, [22])) (none))))) (cond (Nat.ble 3 pc) (cond (Nat.ble 9 pc) (cond (Nat.beq pc 9) (some (.aload_n 0, 10, [])) (cond (Nat.beq pc 10) (some (.iload_n 1, 11, [])) (none))) (cond (Nat.beq pc 3) (some (.invokevirtual 346, 6, [])) (cond (Nat.beq pc 6) (some (.ifCond .eq 16, 9, [22])) (none)))) (cond (Nat.beq pc 0) (some (.aload_n 0, 1, [])) (cond (Nat.beq pc 1) (some (.iload_n 1, 2, [])) (cond (Nat.beq pc 2) (some (.iload_n 2, 3, [])) (none))))))
theorem qkX9_isOn_ok : ∀ pc i nx ts, qkX9_isOn pc = some (i, nx, ts) → am_cok cX9_isOn pc (i, nx, ts) = true := fun pc i nx ts h => am_tok_ok (n := 24) (by decide +kernel) (fun pc h => by show cond (Nat.ble 24 pc) _ _ = _; rw [Nat.ble_eq_true_of_le h]; rfl) h
def qaX9_isOn : Nat → Option CE := fun k => cond (Nat.beq k 346) (some qeX9_areThere) (cond (Nat.beq k 124) (some qeX9_isOnLine) (none))
theorem qyX9_isOn (l : Launch) : ∀ k e1, qaX9_isOn k = some e1 → am_cal l layM RX9 6 k e1 ∧ ceT e1 = 0 := q_cons ⟨am_calV (ci := 9) (qtX9_areThere l) qbX9_areThere (by decide) rfl (am_tb_at 1774 (by decide +kernel) rfl), rfl⟩ (q_cons ⟨am_calV (ci := 9) (qtX9_isOnLine l) qbX9_isOnLine (by decide) rfl (am_tb_at 1802 (by decide +kernel) rfl), rfl⟩ (q_nil))
def qxX9_isOn : CX := (qkX9_isOn, layM, qfX9, qaX9_isOn, qcX9, qlX9, qmX9, (some .boolean), false, none, 0, none, fun _ => none)
theorem qzX9_isOn (l : Launch) : am_sta l qxX9_isOn RX9 6 cX9_isOn := ⟨qkX9_isOn_ok, layM_ok, qfX9_ok, qcX9_ok, qlX9_ok, am_mthP qmX9_ok (by decide), fun k e1 h => (qyX9_isOn l k e1 h).1⟩
def qsX9_isOn : SP := fun as F A K => match as with
  | [.inr (.inr o), .inl c, .inl l] => cond (Nat.beq o 25) ((fgOK (mF A) ∧ (-2147483648 ≤ c ∧ c < 2147483648) ∧ (-2147483648 ≤ l ∧ l < 2147483648)) ∧ (∀ (G_1 : FF) (B_1 : AA), (qdP F G_1 A B_1 ∧ G_1 25 0 = (if (0 ≤ c ∧ c < mF A 0) ∧ 0 ≤ l ∧ l < mF A 1 then 0 else 1)) → (K (some (some (vI (if (0 ≤ c ∧ c < mF A 0) ∧ 0 ≤ l ∧ l < mF A 1 then bi (azP (cfL (mF A) c l) (Int.toNat (mF A (18 + c)))) else 0)))) G_1 B_1))) (False)
  | _ => False
def qeX9_isOn : CE := (yX9_isOn, cX9_isOn, 3, (some .boolean), 2, some 9, 0, [], 0, 6, qsX9_isOn)
theorem qbX9_isOn : am_mb qeX9_isOn := ⟨am_tb_at 1801 (by decide +kernel) rfl, am_tb_at 124 (by decide +kernel) rfl, ⟨by decide, by decide, by decide +kernel⟩, by decide, by decide, am_tb_at 1799 (by decide +kernel) rfl, am_tb_at 1800 (by decide +kernel) rfl, _, _, rfl⟩
set_option maxRecDepth 20000 in
theorem qvX9_isOn_25 (c : Int) (l : Int) (F : FF) (A : AA) (K : KK) (h : (fgOK (mF A) ∧ (-2147483648 ≤ c ∧ c < 2147483648) ∧ (-2147483648 ≤ l ∧ l < 2147483648)) ∧ (∀ (G_1 : FF) (B_1 : AA), (qdP F G_1 A B_1 ∧ G_1 25 0 = (if (0 ≤ c ∧ c < mF A 0) ∧ 0 ≤ l ∧ l < mF A 1 then 0 else 1)) → (K (some (some (vI (if (0 ≤ c ∧ c < mF A 0) ∧ 0 ≤ l ∧ l < mF A 1 then bi (azP (cfL (mF A) c l) (Int.toNat (mF A (18 + c)))) else 0)))) G_1 B_1))) : am_line qxX9_isOn 14 [vR 25, vI c, vI l] 3 F A K := by
  show am_stp qxX9_isOn (am_run qxX9_isOn (fun _ => none) (fun _ _ _ _ _ _ => False) K 14) K 0 [some (vR 25), some (vI c), some (vI l)] [] F A 0
  obtain ⟨hp, h⟩ := h
  have p1 := hp.1
  have q1 := p1.1.1
  have q2 := p1.1.2
  have q4 := p1.2.1

  show (fgOK (mF A) ∧ (-2147483648 ≤ c ∧ c < 2147483648) ∧ (-2147483648 ≤ l ∧ l < 2147483648)) ∧ ((w32 (bi ((0 ≤ c ∧ c < mF A 0) ∧ 0 ≤ l ∧ l < mF A 1)) = w32 0 → ((0 = 0 ∨ 0 = 1) ∧ (K (some (some (vI 0))) (upF F 25 0 (1 - bi ((0 ≤ c ∧ c < mF A 0) ∧ 0 ≤ l ∧ l < mF A 1))) A))) ∧ (¬ (w32 (bi ((0 ≤ c ∧ c < mF A 0) ∧ 0 ≤ l ∧ l < mF A 1)) = w32 0) → ((fgOK (mF A) ∧ (0 ≤ c ∧ c < mF A 0) ∧ (0 ≤ l ∧ l < mF A 1)) ∧ ((w32 (bi (azP (cfL (mF A) c l) (Int.toNat (mF A (18 + c))))) = w32 0 → ((0 = 0 ∨ 0 = 1) ∧ (K (some (some (vI 0))) (upF F 25 0 (1 - bi ((0 ≤ c ∧ c < mF A 0) ∧ 0 ≤ l ∧ l < mF A 1))) A))) ∧ (¬ w32 (bi (azP (cfL (mF A) c l) (Int.toNat (mF A (18 + c))))) = w32 0 → ((1 = 0 ∨ 1 = 1) ∧ (K (some (some (vI 1))) (upF F 25 0 (1 - bi ((0 ≤ c ∧ c < mF A 0) ∧ 0 ≤ l ∧ l < mF A 1))) A)))))))
  refine ⟨by exact ⟨p1, by omega, by omega⟩, ?_⟩
  refine ⟨fun c1 => ?_, fun c1 => ?_⟩
  · skip
    (try (have q3 := (p1.2.2.1 c c1.1.1 c1.1.2).1)); (try simp only [w32_0, wbi0, Classical.not_not] at c1); (try simp (disch := omega) only [fat_in, w32_0, wbi0, Classical.not_not, w32_id] at c1)
    refine ⟨by first | exact bi_01 | exact Or.inl rfl | exact Or.inr rfl | exact ⟨p1, c1⟩, ?_⟩
    first
    | exact K_eq (h _ _ ⟨qdP_F (by decide), by rw [upF_s, bi_f c1, if_neg c1]; rfl⟩) (if_neg c1)
    | exact K_eq (h _ _ ⟨qdP_F (by decide), by rw [upF_s, bi_t c1, if_pos c1]; rfl⟩) (by rw [if_pos c1, bi_t c2])
    | exact K_eq (h _ _ ⟨qdP_F (by decide), by rw [upF_s, bi_t c1, if_pos c1]; rfl⟩) (by rw [if_pos c1, bi_f c2])
  · skip
    (try (have q3 := (p1.2.2.1 c c1.1.1 c1.1.2).1)); (try simp only [w32_0, wbi0, Classical.not_not] at c1); (try simp (disch := omega) only [fat_in, w32_0, wbi0, Classical.not_not, w32_id] at c1)
    refine ⟨by first | exact bi_01 | exact Or.inl rfl | exact Or.inr rfl | exact ⟨p1, c1⟩, ?_⟩
    refine ⟨fun c2 => ?_, fun c2 => ?_⟩
    · skip
      (try (have q3 := (p1.2.2.1 c c1.1.1 c1.1.2).1)); (try simp only [w32_0, wbi0, Classical.not_not] at c2); (try simp (disch := omega) only [fat_in, w32_0, wbi0, Classical.not_not, w32_id] at c2)
      refine ⟨by first | exact bi_01 | exact Or.inl rfl | exact Or.inr rfl | exact ⟨p1, c1⟩, ?_⟩
      first
      | exact K_eq (h _ _ ⟨qdP_F (by decide), by rw [upF_s, bi_f c1, if_neg c1]; rfl⟩) (if_neg c1)
      | exact K_eq (h _ _ ⟨qdP_F (by decide), by rw [upF_s, bi_t c1, if_pos c1]; rfl⟩) (by rw [if_pos c1, bi_t c2])
      | exact K_eq (h _ _ ⟨qdP_F (by decide), by rw [upF_s, bi_t c1, if_pos c1]; rfl⟩) (by rw [if_pos c1, bi_f c2])
    · skip
      (try (have q3 := (p1.2.2.1 c c1.1.1 c1.1.2).1)); (try simp only [w32_0, wbi0, Classical.not_not] at c2); (try simp (disch := omega) only [fat_in, w32_0, wbi0, Classical.not_not, w32_id] at c2)
      refine ⟨by first | exact bi_01 | exact Or.inl rfl | exact Or.inr rfl | exact ⟨p1, c1⟩, ?_⟩
      first
      | exact K_eq (h _ _ ⟨qdP_F (by decide), by rw [upF_s, bi_f c1, if_neg c1]; rfl⟩) (if_neg c1)
      | exact K_eq (h _ _ ⟨qdP_F (by decide), by rw [upF_s, bi_t c1, if_pos c1]; rfl⟩) (by rw [if_pos c1, bi_t c2])
      | exact K_eq (h _ _ ⟨qdP_F (by decide), by rw [upF_s, bi_t c1, if_pos c1]; rfl⟩) (by rw [if_pos c1, bi_f c2])
theorem qtX9_isOn (l : Launch) : am_CT l layM qeX9_isOn := am_met0 rfl (by decide +kernel) rfl rfl rfl rfl rfl (fun _ => rfl) rfl (qzX9_isOn l) (fun k e1 h => (qyX9_isOn l k e1 h).2) (fun as F A K h => by
  replace h : qsX9_isOn as F A K := h
  unfold qsX9_isOn at h
  split at h
  · rename_i o c l
    refine ⟨by first | exact Nat.le_of_ble_eq_true rfl | simp [am_fl, am_cat], ?_⟩
    replace h := am_cond2 h
    rcases h with ⟨hb, h⟩ | h
    · skip
      have hb0 := hb
      have hb0 := am_bq hb0
      subst hb0
      exact am_way_line (qvX9_isOn_25 c l F A K h)
    exact h.elim
  · exact h.elim)
def qkX9_sideOf : Nat → Option CI := fun pc => cond (Nat.ble 34 pc) none (cond (Nat.ble 14 pc) (cond (Nat.ble 23 pc) (cond (Nat.ble 27 pc) (cond (Nat.beq pc 27) (some (.invokevirtual 95, 30, [])) (cond (Nat.beq pc 30) (some (.invokestatic 350, 33, [])) (cond (Nat.beq pc 33) (some (.ireturn, 34, [])) (none)))) (cond (Nat.beq pc 23) (some (.iload_n 1, 24, [])) (cond (Nat.beq pc 24) (some (.invokevirtual 80, 27, [])) (none)))) (cond (Nat.ble 18 pc) (cond (Nat.beq pc 18) (some (.iconst 0, 19, [])) (cond (Nat.beq pc 19) (some (.goto 8, 22, [27])) (cond (Nat.beq pc 22) (some (.aload_n 0, 23, [])) (none)))) (cond (Nat.beq pc 14) (some (.iload_n 3, 15, [])) (cond (Nat.beq pc 15) (some (.ifCond .ne 7, 18, [22])) (none))))) (cond (Nat.ble 9 pc) (cond (Nat.ble 11 pc) (cond (Nat.beq pc 11) (some (.aload_n 0, 12, [])) (cond (Nat.beq pc 12) (some (.iload_n 1, 13, [])) (cond (Nat.beq pc 13) (some (.iload_n 2, 14, [])) (none)))) (cond (Nat.beq pc 9) (some (.iconst 0, 10, [])) (cond (Nat.beq pc 10) (some (.ireturn, 11, [])) (none)))) (cond (Nat.ble 2 pc) (cond (Nat.beq pc 2) (some (.iload_n 2, 3, [])) (cond (Nat.beq pc 3) (some (.invokevirtual 346, 6, [])) (cond (Nat.beq pc 6) (some (.ifCond .ne 5, 9, [11])) (none)))) (cond (Nat.beq pc 0) (some (.aload_n 0, 1, [])) (cond (Nat.beq pc 1) (some (.iload_n 1, 2, [])) (none))))))
theorem qkX9_sideOf_ok : ∀ pc i nx ts, qkX9_sideOf pc = some (i, nx, ts) → am_cok cX9_sideOf pc (i, nx, ts) = true := fun pc i nx ts h => am_tok_ok (n := 34) (by decide +kernel) (fun pc h => by show cond (Nat.ble 34 pc) _ _ = _; rw [Nat.ble_eq_true_of_le h]; rfl) h
def qaX9_sideOf : Nat → Option CE := fun k => cond (Nat.beq k 346) (some qeX9_areThere) (cond (Nat.beq k 80) (some qeX9_order) (cond (Nat.beq k 95) (some qeX9_coefficient0) (cond (Nat.beq k 350) (some qeJ6_signum_0f7a4) (none))))
theorem qyX9_sideOf (l : Launch) : ∀ k e1, qaX9_sideOf k = some e1 → am_cal l layM RX9 5 k e1 ∧ ceT e1 = 0 := q_cons ⟨am_calV (ci := 9) (qtX9_areThere l) qbX9_areThere (by decide) rfl (am_tb_at 1774 (by decide +kernel) rfl), rfl⟩ (q_cons ⟨am_calV (ci := 9) (qtX9_order l) qbX9_order (by decide) rfl (am_tb_at 1659 (by decide +kernel) rfl), rfl⟩ (q_cons ⟨am_calV (ci := 9) (qtX9_coefficient0 l) qbX9_coefficient0 (by decide) rfl (am_tb_at 1778 (by decide +kernel) rfl), rfl⟩ (q_cons ⟨am_calS (am_CT_mono layX_M (qtJ6_signum_0f7a4 l)) qbJ6_signum_0f7a4 (by decide) rfl (by decide) (am_tb_at 1810 (by decide +kernel) rfl), rfl⟩ (q_nil))))
def qxX9_sideOf : CX := (qkX9_sideOf, layM, qfX9, qaX9_sideOf, qcX9, qlX9, qmX9, (some .int), false, none, 0, none, fun _ => none)
theorem qzX9_sideOf (l : Launch) : am_sta l qxX9_sideOf RX9 5 cX9_sideOf := ⟨qkX9_sideOf_ok, layM_ok, qfX9_ok, qcX9_ok, qlX9_ok, am_mthP qmX9_ok (by decide), fun k e1 h => (qyX9_sideOf l k e1 h).1⟩
def qsX9_sideOf : SP := fun as F A K => match as with
  | [.inr (.inr o), .inl c, .inl l, .inl e] => cond (Nat.beq o 25) ((fgOK (mF A) ∧ (-2147483648 ≤ c ∧ c < 2147483648) ∧ (-2147483648 ≤ l ∧ l < 2147483648) ∧ (-2147483648 ≤ e ∧ e < 2147483648)) ∧ (∀ (G_1 : FF) (B_1 : AA), (qdP F G_1 A B_1 ∧ G_1 25 0 = (if (0 ≤ c ∧ c < mF A 0) ∧ 0 ≤ l ∧ l < mF A 1 then 0 else 1)) → (K (some (some (vI (if (0 ≤ c ∧ c < mF A 0) ∧ 0 ≤ l ∧ l < mF A 1 then sg (w64 (w32 (cfR (mF A) c l (if e = 0 then 0 else mF A (18 + c) - 1)))) else 0)))) G_1 B_1))) (False)
  | _ => False
def qeX9_sideOf : CE := (yX9_sideOf, cX9_sideOf, 4, (some .int), 3, some 9, 0, [], 0, 5, qsX9_sideOf)
theorem qbX9_sideOf : am_mb qeX9_sideOf := ⟨am_tb_at 1809 (by decide +kernel) rfl, am_tb_at 124 (by decide +kernel) rfl, ⟨by decide, by decide, by decide +kernel⟩, by decide, by decide, am_tb_at 1807 (by decide +kernel) rfl, am_tb_at 1808 (by decide +kernel) rfl, _, _, rfl⟩
set_option maxRecDepth 20000 in
theorem qvX9_sideOf_25 (c : Int) (l : Int) (e : Int) (F : FF) (A : AA) (K : KK) (h : (fgOK (mF A) ∧ (-2147483648 ≤ c ∧ c < 2147483648) ∧ (-2147483648 ≤ l ∧ l < 2147483648) ∧ (-2147483648 ≤ e ∧ e < 2147483648)) ∧ (∀ (G_1 : FF) (B_1 : AA), (qdP F G_1 A B_1 ∧ G_1 25 0 = (if (0 ≤ c ∧ c < mF A 0) ∧ 0 ≤ l ∧ l < mF A 1 then 0 else 1)) → (K (some (some (vI (if (0 ≤ c ∧ c < mF A 0) ∧ 0 ≤ l ∧ l < mF A 1 then sg (w64 (w32 (cfR (mF A) c l (if e = 0 then 0 else mF A (18 + c) - 1)))) else 0)))) G_1 B_1))) : am_line qxX9_sideOf 17 [vR 25, vI c, vI l, vI e] 4 F A K := by
  show am_stp qxX9_sideOf (am_run qxX9_sideOf (fun _ => none) (fun _ _ _ _ _ _ => False) K 17) K 0 [some (vR 25), some (vI c), some (vI l), some (vI e)] [] F A 0
  obtain ⟨hp, h⟩ := h
  have p1 := hp.1
  have q1 := p1.1.1
  have q2 := p1.1.2
  have q4 := p1.2.1

  show (fgOK (mF A) ∧ (-2147483648 ≤ c ∧ c < 2147483648) ∧ (-2147483648 ≤ l ∧ l < 2147483648)) ∧ ((w32 (bi ((0 ≤ c ∧ c < mF A 0) ∧ 0 ≤ l ∧ l < mF A 1)) = w32 0 → (K (some (some (vI 0))) (upF F 25 0 (1 - bi ((0 ≤ c ∧ c < mF A 0) ∧ 0 ≤ l ∧ l < mF A 1))) A)) ∧ (¬ (w32 (bi ((0 ≤ c ∧ c < mF A 0) ∧ 0 ≤ l ∧ l < mF A 1)) = w32 0) → ((w32 e = w32 0 → (((0 ≤ c ∧ c < 8) ∧ (0 ≤ l ∧ l < 6) ∧ 0 ≤ 0 ∧ 0 < 4) ∧ (K (some (some (vI (sg (w32 (cfR (mF A) c l 0)))))) (upF F 25 0 (1 - bi ((0 ≤ c ∧ c < mF A 0) ∧ 0 ≤ l ∧ l < mF A 1))) A))) ∧ (¬ w32 e = w32 0 → ((0 ≤ c ∧ c < 8) ∧ (((0 ≤ c ∧ c < 8) ∧ (0 ≤ l ∧ l < 6) ∧ 0 ≤ (mF A (18 + c) - 1) ∧ (mF A (18 + c) - 1) < 4) ∧ (K (some (some (vI (sg (w32 (cfR (mF A) c l (mF A (18 + c) - 1))))))) (upF F 25 0 (1 - bi ((0 ≤ c ∧ c < mF A 0) ∧ 0 ≤ l ∧ l < mF A 1))) A)))))))
  refine ⟨by exact ⟨p1, by omega, by omega⟩, ?_⟩
  refine ⟨fun c1 => ?_, fun c1 => ?_⟩
  · skip
    (try (have q3 := (p1.2.2.1 c c1.1.1 c1.1.2).1)); (try simp only [w32_0, wbi0, Classical.not_not] at c1); (try simp (disch := omega) only [fat_in, w32_0, wbi0, Classical.not_not, w32_id] at c1)
    first
    | exact K_eq (h _ _ ⟨qdP_F (by decide), by rw [upF_s, bi_f c1, if_neg c1]; rfl⟩) (if_neg c1)
    | exact K_eq (h _ _ ⟨qdP_F (by decide), by rw [upF_s, bi_t c1, if_pos c1]; rfl⟩) (by rw [if_pos c1, if_pos (show e = 0 by omega), w64_w32])
    | exact K_eq (h _ _ ⟨qdP_F (by decide), by rw [upF_s, bi_t c1, if_pos c1]; rfl⟩) (by rw [if_pos c1, if_neg (show ¬ e = 0 by omega), w64_w32])
  · skip
    (try (have q3 := (p1.2.2.1 c c1.1.1 c1.1.2).1)); (try simp only [w32_0, wbi0, Classical.not_not] at c1); (try simp (disch := omega) only [fat_in, w32_0, wbi0, Classical.not_not, w32_id] at c1)
    refine ⟨fun c2 => ?_, fun c2 => ?_⟩
    · skip
      (try (have q3 := (p1.2.2.1 c c1.1.1 c1.1.2).1)); (try simp only [w32_0, wbi0, Classical.not_not] at c2); (try simp (disch := omega) only [fat_in, w32_0, wbi0, Classical.not_not, w32_id] at c2)
      refine ⟨by (have q3 := (p1.2.2.1 c c1.1.1 c1.1.2).1; first | exact bi_01 | omega | exact ⟨by omega, by omega, by omega⟩ | exact ⟨by omega, by omega⟩ | exact ⟨p1, c1⟩ | exact ⟨p1, c1.1, c1.2⟩), ?_⟩
      first
      | exact K_eq (h _ _ ⟨qdP_F (by decide), by rw [upF_s, bi_f c1, if_neg c1]; rfl⟩) (if_neg c1)
      | exact K_eq (h _ _ ⟨qdP_F (by decide), by rw [upF_s, bi_t c1, if_pos c1]; rfl⟩) (by rw [if_pos c1, if_pos (show e = 0 by omega), w64_w32])
      | exact K_eq (h _ _ ⟨qdP_F (by decide), by rw [upF_s, bi_t c1, if_pos c1]; rfl⟩) (by rw [if_pos c1, if_neg (show ¬ e = 0 by omega), w64_w32])
    · skip
      (try (have q3 := (p1.2.2.1 c c1.1.1 c1.1.2).1)); (try simp only [w32_0, wbi0, Classical.not_not] at c2); (try simp (disch := omega) only [fat_in, w32_0, wbi0, Classical.not_not, w32_id] at c2)
      refine ⟨by (have q3 := (p1.2.2.1 c c1.1.1 c1.1.2).1; first | exact bi_01 | omega | exact ⟨by omega, by omega, by omega⟩ | exact ⟨by omega, by omega⟩ | exact ⟨p1, c1⟩ | exact ⟨p1, c1.1, c1.2⟩), ?_⟩
      refine ⟨by (have q3 := (p1.2.2.1 c c1.1.1 c1.1.2).1; first | exact bi_01 | omega | exact ⟨by omega, by omega, by omega⟩ | exact ⟨by omega, by omega⟩ | exact ⟨p1, c1⟩ | exact ⟨p1, c1.1, c1.2⟩), ?_⟩
      first
      | exact K_eq (h _ _ ⟨qdP_F (by decide), by rw [upF_s, bi_f c1, if_neg c1]; rfl⟩) (if_neg c1)
      | exact K_eq (h _ _ ⟨qdP_F (by decide), by rw [upF_s, bi_t c1, if_pos c1]; rfl⟩) (by rw [if_pos c1, if_pos (show e = 0 by omega), w64_w32])
      | exact K_eq (h _ _ ⟨qdP_F (by decide), by rw [upF_s, bi_t c1, if_pos c1]; rfl⟩) (by rw [if_pos c1, if_neg (show ¬ e = 0 by omega), w64_w32])
theorem qtX9_sideOf (l : Launch) : am_CT l layM qeX9_sideOf := am_met0 rfl (by decide +kernel) rfl rfl rfl rfl rfl (fun _ => rfl) rfl (qzX9_sideOf l) (fun k e1 h => (qyX9_sideOf l k e1 h).2) (fun as F A K h => by
  replace h : qsX9_sideOf as F A K := h
  unfold qsX9_sideOf at h
  split at h
  · rename_i o c l e
    refine ⟨by first | exact Nat.le_of_ble_eq_true rfl | simp [am_fl, am_cat], ?_⟩
    replace h := am_cond2 h
    rcases h with ⟨hb, h⟩ | h
    · skip
      have hb0 := hb
      have hb0 := am_bq hb0
      subst hb0
      exact am_way_line (qvX9_sideOf_25 c l e F A K h)
    exact h.elim
  · exact h.elim)
def qkX9_signChanges : Nat → Option CI := fun pc => cond (Nat.ble 43 pc) none (cond (Nat.ble 23 pc) (cond (Nat.ble 30 pc) (cond (Nat.ble 35 pc) (cond (Nat.ble 39 pc) (cond (Nat.beq pc 39) (some (.invokevirtual 111, 42, [])) (cond (Nat.beq pc 42) (some (.ireturn, 43, [])) (none))) (cond (Nat.beq pc 35) (some (.iload_n 1, 36, [])) (cond (Nat.beq pc 36) (some (.invokevirtual 80, 39, [])) (none)))) (cond (Nat.beq pc 30) (some (.invokevirtual 107, 33, [])) (cond (Nat.beq pc 33) (some (.aload_n 0, 34, [])) (cond (Nat.beq pc 34) (some (.aload_n 0, 35, [])) (none))))) (cond (Nat.ble 26 pc) (cond (Nat.beq pc 26) (some (.iload_n 2, 27, [])) (cond (Nat.beq pc 27) (some (.iload_n 3, 28, [])) (cond (Nat.beq pc 28) (some (.iload 4, 30, [])) (none)))) (cond (Nat.beq pc 23) (some (.ireturn, 24, [])) (cond (Nat.beq pc 24) (some (.aload_n 0, 25, [])) (cond (Nat.beq pc 25) (some (.iload_n 1, 26, [])) (none)))))) (cond (Nat.ble 10 pc) (cond (Nat.ble 14 pc) (cond (Nat.ble 19 pc) (cond (Nat.beq pc 19) (some (.ifCond .ne 5, 22, [24])) (cond (Nat.beq pc 22) (some (.iconst (-1), 23, [])) (none))) (cond (Nat.beq pc 14) (some (.iload 4, 16, [])) (cond (Nat.beq pc 16) (some (.invokestatic 311, 19, [])) (none)))) (cond (Nat.beq pc 10) (some (.ireturn, 11, [])) (cond (Nat.beq pc 11) (some (.iload_n 3, 12, [])) (cond (Nat.beq pc 12) (some (.bipush 12, 14, [])) (none))))) (cond (Nat.ble 3 pc) (cond (Nat.beq pc 3) (some (.invokevirtual 346, 6, [])) (cond (Nat.beq pc 6) (some (.ifCond .ne 5, 9, [11])) (cond (Nat.beq pc 9) (some (.iconst 0, 10, [])) (none)))) (cond (Nat.beq pc 0) (some (.aload_n 0, 1, [])) (cond (Nat.beq pc 1) (some (.iload_n 1, 2, [])) (cond (Nat.beq pc 2) (some (.iload_n 2, 3, [])) (none)))))))
theorem qkX9_signChanges_ok : ∀ pc i nx ts, qkX9_signChanges pc = some (i, nx, ts) → am_cok cX9_signChanges pc (i, nx, ts) = true := fun pc i nx ts h => am_tok_ok (n := 43) (by decide +kernel) (fun pc h => by show cond (Nat.ble 43 pc) _ _ = _; rw [Nat.ble_eq_true_of_le h]; rfl) h
def qaX9_signChanges : Nat → Option CE := fun k => cond (Nat.beq k 346) (some qeX9_areThere) (cond (Nat.beq k 311) (some qeX9_isCell) (cond (Nat.beq k 107) (some qeX9_laysCoefficients) (cond (Nat.beq k 80) (some qeX9_order) (cond (Nat.beq k 111) (some qeX9_changes) (none)))))
theorem qyX9_signChanges (l : Launch) : ∀ k e1, qaX9_signChanges k = some e1 → am_cal l layM RX9 6 k e1 ∧ ceT e1 = 0 := q_cons ⟨am_calV (ci := 9) (qtX9_areThere l) qbX9_areThere (by decide) rfl (am_tb_at 1774 (by decide +kernel) rfl), rfl⟩ (q_cons ⟨am_calS (qtX9_isCell l) qbX9_isCell (by decide) rfl (by decide) (am_tb_at 1695 (by decide +kernel) rfl), rfl⟩ (q_cons ⟨am_calV (ci := 9) (qtX9_laysCoefficients l) qbX9_laysCoefficients (by decide) rfl (am_tb_at 1787 (by decide +kernel) rfl), rfl⟩ (q_cons ⟨am_calV (ci := 9) (qtX9_order l) qbX9_order (by decide) rfl (am_tb_at 1659 (by decide +kernel) rfl), rfl⟩ (q_cons ⟨am_calV (ci := 9) (qtX9_changes l) qbX9_changes (by decide) rfl (am_tb_at 1791 (by decide +kernel) rfl), rfl⟩ (q_nil)))))
def qxX9_signChanges : CX := (qkX9_signChanges, layM, qfX9, qaX9_signChanges, qcX9, qlX9, qmX9, (some .int), false, none, 0, none, fun _ => none)
theorem qzX9_signChanges (l : Launch) : am_sta l qxX9_signChanges RX9 6 cX9_signChanges := ⟨qkX9_signChanges_ok, layM_ok, qfX9_ok, qcX9_ok, qlX9_ok, am_mthP qmX9_ok (by decide), fun k e1 h => (qyX9_signChanges l k e1 h).1⟩
def qsX9_signChanges : SP := fun as F A K => match as with
  | [.inr (.inr o), .inl c, .inl l, .inl d, .inl q] => cond (Nat.beq o 25) ((fgOK (mF A) ∧ (-2147483648 ≤ c ∧ c < 2147483648) ∧ (-2147483648 ≤ l ∧ l < 2147483648) ∧ (-2147483648 ≤ d ∧ d < 2147483648) ∧ (-2147483648 ≤ q ∧ q < 2147483648)) ∧ (∀ (G_1 : FF) (B_1 : AA), (qdP F G_1 A B_1 ∧ G_1 25 0 = (if (0 ≤ c ∧ c < mF A 0) ∧ 0 ≤ l ∧ l < mF A 1 then 0 else 1)) → (K (some (some (vI (if (0 ≤ c ∧ c < mF A 0) ∧ 0 ≤ l ∧ l < mF A 1 then (if 0 ≤ d ∧ d ≤ 12 ∧ 0 ≤ q ∧ q < p2 d then chg (cellF (cfL (mF A) c l) (mF A (18 + c) - 1) (Int.toNat d) q) (Int.toNat (mF A (18 + c))) else -1) else 0)))) G_1 B_1))) (False)
  | _ => False
def qeX9_signChanges : CE := (yX9_signChanges, cX9_signChanges, 5, (some .int), 4, some 9, 0, [], 0, 6, qsX9_signChanges)
theorem qbX9_signChanges : am_mb qeX9_signChanges := ⟨am_tb_at 1786 (by decide +kernel) rfl, am_tb_at 124 (by decide +kernel) rfl, ⟨by decide, by decide, by decide +kernel⟩, by decide, by decide, am_tb_at 1784 (by decide +kernel) rfl, am_tb_at 1785 (by decide +kernel) rfl, _, _, rfl⟩
set_option maxRecDepth 20000 in
theorem qvX9_signChanges_25 (c : Int) (l : Int) (d : Int) (q : Int) (F : FF) (A : AA) (K : KK) (h : (fgOK (mF A) ∧ (-2147483648 ≤ c ∧ c < 2147483648) ∧ (-2147483648 ≤ l ∧ l < 2147483648) ∧ (-2147483648 ≤ d ∧ d < 2147483648) ∧ (-2147483648 ≤ q ∧ q < 2147483648)) ∧ (∀ (G_1 : FF) (B_1 : AA), (qdP F G_1 A B_1 ∧ G_1 25 0 = (if (0 ≤ c ∧ c < mF A 0) ∧ 0 ≤ l ∧ l < mF A 1 then 0 else 1)) → (K (some (some (vI (if (0 ≤ c ∧ c < mF A 0) ∧ 0 ≤ l ∧ l < mF A 1 then (if 0 ≤ d ∧ d ≤ 12 ∧ 0 ≤ q ∧ q < p2 d then chg (cellF (cfL (mF A) c l) (mF A (18 + c) - 1) (Int.toNat d) q) (Int.toNat (mF A (18 + c))) else -1) else 0)))) G_1 B_1))) : am_line qxX9_signChanges 23 [vR 25, vI c, vI l, vI d, vI q] 5 F A K := by
  show am_stp qxX9_signChanges (am_run qxX9_signChanges (fun _ => none) (fun _ _ _ _ _ _ => False) K 23) K 0 [some (vR 25), some (vI c), some (vI l), some (vI d), some (vI q)] [] F A 0
  obtain ⟨hp, h⟩ := h
  have p1 := hp.1
  have q1 := p1.1.1
  have q2 := p1.1.2
  have q4 := p1.2.1

  show (fgOK (mF A) ∧ (-2147483648 ≤ c ∧ c < 2147483648) ∧ (-2147483648 ≤ l ∧ l < 2147483648)) ∧ ((w32 (bi ((0 ≤ c ∧ c < mF A 0) ∧ 0 ≤ l ∧ l < mF A 1)) = w32 0 → (K (some (some (vI 0))) (upF F 25 0 (1 - bi ((0 ≤ c ∧ c < mF A 0) ∧ 0 ≤ l ∧ l < mF A 1))) A)) ∧ (¬ (w32 (bi ((0 ≤ c ∧ c < mF A 0) ∧ 0 ≤ l ∧ l < mF A 1)) = w32 0) → (((0 ≤ 12 ∧ 12 ≤ 12) ∧ (-2147483648 ≤ d ∧ d < 2147483648) ∧ (-2147483648 ≤ q ∧ q < 2147483648)) ∧ ((w32 (bi (0 ≤ d ∧ d ≤ 12 ∧ 0 ≤ q ∧ q < p2 d)) = w32 0 → (K (some (some (vI (-1)))) (upF F 25 0 (1 - bi ((0 ≤ c ∧ c < mF A 0) ∧ 0 ≤ l ∧ l < mF A 1))) A)) ∧ (¬ (w32 (bi (0 ≤ d ∧ d ≤ 12 ∧ 0 ≤ q ∧ q < p2 d)) = w32 0) → ((fgOK (mF A) ∧ (0 ≤ c ∧ c < mF A 0) ∧ (0 ≤ l ∧ l < mF A 1) ∧ (0 ≤ d ∧ d ≤ 12) ∧ 0 ≤ q ∧ q < p2 d) ∧ (∀ (B_1 : AA), ((∀ b i, b ≠ 32 ∧ b ≠ 34 → B_1 b i = A b i) ∧ ∀ k, 0 ≤ k → k < mF A (18 + c) → B_1 34 k = ccX (mF A) c l (Int.toNat d) q k) → ((0 ≤ c ∧ c < 8) ∧ ((0 ≤ (mF B_1 (18 + c) - 1) ∧ (mF B_1 (18 + c) - 1) ≤ 3) ∧ (K (some (some (vI (chg (B_1 34) (Int.toNat ((mF B_1 (18 + c) - 1) + 1)))))) (upF F 25 0 (1 - bi ((0 ≤ c ∧ c < mF A 0) ∧ 0 ≤ l ∧ l < mF A 1))) B_1))))))))))
  refine ⟨by exact ⟨p1, by omega, by omega⟩, ?_⟩
  refine ⟨fun c1 => ?_, fun c1 => ?_⟩
  · skip
    (try (have q3 := (p1.2.2.1 c c1.1.1 c1.1.2).1)); (try simp only [w32_0, wbi0, Classical.not_not] at c1); (try simp (disch := omega) only [fat_in, w32_0, wbi0, Classical.not_not, w32_id] at c1)
    first
    | exact K_eq (h _ _ ⟨qdP_F (by decide), by rw [upF_s, bi_f c1, if_neg c1]; rfl⟩) (if_neg c1)
    | exact K_eq (h _ _ ⟨qdP_F (by decide), by rw [upF_s, bi_t c1, if_pos c1]; rfl⟩) (by rw [if_pos c1, if_neg (by omega)])
    | (refine K_eq (h _ _ ⟨qdP_trans (qdP_F (by decide)) (qdP_A (fun b i hb => gF b i (by omega))), by rw [upF_s, bi_t c1, if_pos c1]; rfl⟩) ?_; rw [if_pos c1, if_pos (by omega)]; rfl)
  · skip
    (try (have q3 := (p1.2.2.1 c c1.1.1 c1.1.2).1)); (try simp only [w32_0, wbi0, Classical.not_not] at c1); (try simp (disch := omega) only [fat_in, w32_0, wbi0, Classical.not_not, w32_id] at c1)
    refine ⟨by first | omega | exact ⟨by omega, by omega, by omega⟩ | (exact ⟨p1, c1.1, c1.2, by omega, by omega, by omega⟩) | (have q3 := (p1.2.2.1 c c1.1.1 c1.1.2).1; omega), ?_⟩
    refine ⟨fun c2 => ?_, fun c2 => ?_⟩
    · skip
      (try (have q3 := (p1.2.2.1 c c1.1.1 c1.1.2).1)); (try simp only [w32_0, wbi0, Classical.not_not] at c2); (try simp (disch := omega) only [fat_in, w32_0, wbi0, Classical.not_not, w32_id] at c2)
      first
      | exact K_eq (h _ _ ⟨qdP_F (by decide), by rw [upF_s, bi_f c1, if_neg c1]; rfl⟩) (if_neg c1)
      | exact K_eq (h _ _ ⟨qdP_F (by decide), by rw [upF_s, bi_t c1, if_pos c1]; rfl⟩) (by rw [if_pos c1, if_neg (by omega)])
      | (refine K_eq (h _ _ ⟨qdP_trans (qdP_F (by decide)) (qdP_A (fun b i hb => gF b i (by omega))), by rw [upF_s, bi_t c1, if_pos c1]; rfl⟩) ?_; rw [if_pos c1, if_pos (by omega)]; rfl)
    · skip
      (try (have q3 := (p1.2.2.1 c c1.1.1 c1.1.2).1)); (try simp only [w32_0, wbi0, Classical.not_not] at c2); (try simp (disch := omega) only [fat_in, w32_0, wbi0, Classical.not_not, w32_id] at c2)
      refine ⟨by first | omega | exact ⟨by omega, by omega, by omega⟩ | (exact ⟨p1, c1.1, c1.2, by omega, by omega, by omega⟩) | (have q3 := (p1.2.2.1 c c1.1.1 c1.1.2).1; omega), ?_⟩
      intro B_1 g1
      obtain ⟨gF, gC⟩ := g1
      have e1 := lay_f gF
      rw [e1]
      have q3 := (p1.2.2.1 c c1.1.1 c1.1.2).1
      have hc : chg (B_1 34) (Int.toNat (mF A (18 + c) - 1 + 1)) = chg (ccX (mF A) c l (Int.toNat d) q) (Int.toNat (mF A (18 + c))) := by
        rw [show mF A (18 + c) - 1 + 1 = mF A (18 + c) by omega]
        exact chg_c (fun k k0 k1 => gC k k0 (by omega))
      rw [hc]
      refine ⟨by first | omega | exact ⟨by omega, by omega, by omega⟩ | (exact ⟨p1, c1.1, c1.2, by omega, by omega, by omega⟩) | (have q3 := (p1.2.2.1 c c1.1.1 c1.1.2).1; omega), ?_⟩
      refine ⟨by first | omega | exact ⟨by omega, by omega, by omega⟩ | (exact ⟨p1, c1.1, c1.2, by omega, by omega, by omega⟩) | (have q3 := (p1.2.2.1 c c1.1.1 c1.1.2).1; omega), ?_⟩
      first
      | exact K_eq (h _ _ ⟨qdP_F (by decide), by rw [upF_s, bi_f c1, if_neg c1]; rfl⟩) (if_neg c1)
      | exact K_eq (h _ _ ⟨qdP_F (by decide), by rw [upF_s, bi_t c1, if_pos c1]; rfl⟩) (by rw [if_pos c1, if_neg (by omega)])
      | (refine K_eq (h _ _ ⟨qdP_trans (qdP_F (by decide)) (qdP_A (fun b i hb => gF b i (by omega))), by rw [upF_s, bi_t c1, if_pos c1]; rfl⟩) ?_; rw [if_pos c1, if_pos (by omega)]; rfl)
theorem qtX9_signChanges (l : Launch) : am_CT l layM qeX9_signChanges := am_met0 rfl (by decide +kernel) rfl rfl rfl rfl rfl (fun _ => rfl) rfl (qzX9_signChanges l) (fun k e1 h => (qyX9_signChanges l k e1 h).2) (fun as F A K h => by
  replace h : qsX9_signChanges as F A K := h
  unfold qsX9_signChanges at h
  split at h
  · rename_i o c l d q
    refine ⟨by first | exact Nat.le_of_ble_eq_true rfl | simp [am_fl, am_cat], ?_⟩
    replace h := am_cond2 h
    rcases h with ⟨hb, h⟩ | h
    · skip
      have hb0 := hb
      have hb0 := am_bq hb0
      subst hb0
      exact am_way_line (qvX9_signChanges_25 c l d q F A K h)
    exact h.elim
  · exact h.elim)
def qkX9_rootCount : Nat → Option CI := fun pc => cond (Nat.ble 29 pc) none (cond (Nat.ble 12 pc) (cond (Nat.ble 20 pc) (cond (Nat.ble 24 pc) (cond (Nat.beq pc 24) (some (.goto 4, 27, [28])) (cond (Nat.beq pc 27) (some (.iconst (-1), 28, [])) (cond (Nat.beq pc 28) (some (.ireturn, 29, [])) (none)))) (cond (Nat.beq pc 20) (some (.aload_n 0, 21, [])) (cond (Nat.beq pc 21) (some (.getfield 104, 24, [])) (none)))) (cond (Nat.ble 14 pc) (cond (Nat.beq pc 14) (some (.invokevirtual 128, 17, [])) (cond (Nat.beq pc 17) (some (.ifCond .eq 10, 20, [27])) (none))) (cond (Nat.beq pc 12) (some (.iload_n 1, 13, [])) (cond (Nat.beq pc 13) (some (.iload_n 2, 14, [])) (none))))) (cond (Nat.ble 6 pc) (cond (Nat.ble 10 pc) (cond (Nat.beq pc 10) (some (.ireturn, 11, [])) (cond (Nat.beq pc 11) (some (.aload_n 0, 12, [])) (none))) (cond (Nat.beq pc 6) (some (.ifCond .ne 5, 9, [11])) (cond (Nat.beq pc 9) (some (.iconst 0, 10, [])) (none)))) (cond (Nat.ble 2 pc) (cond (Nat.beq pc 2) (some (.iload_n 2, 3, [])) (cond (Nat.beq pc 3) (some (.invokevirtual 346, 6, [])) (none))) (cond (Nat.beq pc 0) (some (.aload_n 0, 1, [])) (cond (Nat.beq pc 1) (some (.iload_n 1, 2, [])) (none))))))
theorem qkX9_rootCount_ok : ∀ pc i nx ts, qkX9_rootCount pc = some (i, nx, ts) → am_cok cX9_rootCount pc (i, nx, ts) = true := fun pc i nx ts h => am_tok_ok (n := 29) (by decide +kernel) (fun pc h => by show cond (Nat.ble 29 pc) _ _ = _; rw [Nat.ble_eq_true_of_le h]; rfl) h
def qaX9_rootCount : Nat → Option CE := fun k => cond (Nat.beq k 346) (some qeX9_areThere) (cond (Nat.beq k 128) (some qeX9_laysRoots) (none))
theorem qyX9_rootCount (l : Launch) : ∀ k e1, qaX9_rootCount k = some e1 → am_cal l layM RX9 21 k e1 ∧ ceT e1 = 0 := q_cons ⟨am_calV (ci := 9) (qtX9_areThere l) qbX9_areThere (by decide) rfl (am_tb_at 1774 (by decide +kernel) rfl), rfl⟩ (q_cons ⟨am_calV (ci := 9) (qtX9_laysRoots l) qbX9_laysRoots (by decide) rfl (am_tb_at 1817 (by decide +kernel) rfl), rfl⟩ (q_nil))
def qxX9_rootCount : CX := (qkX9_rootCount, layM, qfX9, qaX9_rootCount, qcX9, qlX9, qmX9, (some .int), false, none, 0, none, fun _ => none)
theorem qzX9_rootCount (l : Launch) : am_sta l qxX9_rootCount RX9 21 cX9_rootCount := ⟨qkX9_rootCount_ok, layM_ok, qfX9_ok, qcX9_ok, qlX9_ok, am_mthP qmX9_ok (by decide), fun k e1 h => (qyX9_rootCount l k e1 h).1⟩
def qsX9_rootCount : SP := fun as F A K => match as with
  | [.inr (.inr o), .inl c, .inl l] => cond (Nat.beq o 25) ((fgOK (mF A) ∧ (-2147483648 ≤ c ∧ c < 2147483648) ∧ (-2147483648 ≤ l ∧ l < 2147483648) ∧ RTB) ∧ (∀ (G_1 : FF) (B_1 : AA), (qdP F G_1 A B_1 ∧ G_1 25 0 = (if (0 ≤ c ∧ c < mF A 0) ∧ 0 ≤ l ∧ l < mF A 1 then 0 else 1)) → (K (some (some (vI (if (0 ≤ c ∧ c < mF A 0) ∧ 0 ≤ l ∧ l < mF A 1 then (if azP (cfL (mF A) c l) (Int.toNat (mF A (18 + c))) then -1 else ((rtsX (mF A) c l).length : Int)) else 0)))) G_1 B_1))) (False)
  | _ => False
def qeX9_rootCount : CE := (yX9_rootCount, cX9_rootCount, 3, (some .int), 2, some 9, 0, [], 0, 21, qsX9_rootCount)
theorem qbX9_rootCount : am_mb qeX9_rootCount := ⟨am_tb_at 1816 (by decide +kernel) rfl, am_tb_at 124 (by decide +kernel) rfl, ⟨by decide, by decide, by decide +kernel⟩, by decide, by decide, am_tb_at 1814 (by decide +kernel) rfl, am_tb_at 1815 (by decide +kernel) rfl, _, _, rfl⟩
set_option maxRecDepth 20000 in
theorem qvX9_rootCount_25 (c : Int) (l : Int) (F : FF) (A : AA) (K : KK) (h : (fgOK (mF A) ∧ (-2147483648 ≤ c ∧ c < 2147483648) ∧ (-2147483648 ≤ l ∧ l < 2147483648) ∧ RTB) ∧ (∀ (G_1 : FF) (B_1 : AA), (qdP F G_1 A B_1 ∧ G_1 25 0 = (if (0 ≤ c ∧ c < mF A 0) ∧ 0 ≤ l ∧ l < mF A 1 then 0 else 1)) → (K (some (some (vI (if (0 ≤ c ∧ c < mF A 0) ∧ 0 ≤ l ∧ l < mF A 1 then (if azP (cfL (mF A) c l) (Int.toNat (mF A (18 + c))) then -1 else ((rtsX (mF A) c l).length : Int)) else 0)))) G_1 B_1))) : am_line qxX9_rootCount 15 [vR 25, vI c, vI l] 3 F A K := by
  show am_stp qxX9_rootCount (am_run qxX9_rootCount (fun _ => none) (fun _ _ _ _ _ _ => False) K 15) K 0 [some (vR 25), some (vI c), some (vI l)] [] F A 0
  obtain ⟨hp, h⟩ := h
  have p1 := hp.1
  have q1 := p1.1.1
  have q2 := p1.1.2
  have q4 := p1.2.1
  have rb := hp.2.2.2

  show (fgOK (mF A) ∧ (-2147483648 ≤ c ∧ c < 2147483648) ∧ (-2147483648 ≤ l ∧ l < 2147483648)) ∧ ((w32 (bi ((0 ≤ c ∧ c < mF A 0) ∧ 0 ≤ l ∧ l < mF A 1)) = w32 0 → (K (some (some (vI 0))) (upF F 25 0 (1 - bi ((0 ≤ c ∧ c < mF A 0) ∧ 0 ≤ l ∧ l < mF A 1))) A)) ∧ (¬ (w32 (bi ((0 ≤ c ∧ c < mF A 0) ∧ 0 ≤ l ∧ l < mF A 1)) = w32 0) → ((fgOK (mF A) ∧ (0 ≤ c ∧ c < mF A 0) ∧ (0 ≤ l ∧ l < mF A 1) ∧ ((rtsX (mF A) c l).length : Int) ≤ 8) ∧ (∀ (G_1 : FF) (B_1 : AA), (roP (upF F 25 0 (1 - bi ((0 ≤ c ∧ c < mF A 0) ∧ 0 ≤ l ∧ l < mF A 1))) G_1 A B_1 c l) → ((w32 (bi (¬ azP (cfL (mF A) c l) (Int.toNat (mF A (18 + c))))) = w32 0 → (K (some (some (vI (-1)))) G_1 B_1)) ∧ (¬ w32 (bi (¬ azP (cfL (mF A) c l) (Int.toNat (mF A (18 + c))))) = w32 0 → (K (some (some (vI (G_1 25 12)))) G_1 B_1)))))))
  refine ⟨by exact ⟨p1, by omega, by omega⟩, ?_⟩
  refine ⟨fun c1 => ?_, fun c1 => ?_⟩
  · skip
    (try (have q3 := (p1.2.2.1 c c1.1.1 c1.1.2).1)); (try simp only [w32_0, wbi0, Classical.not_not] at c1); (try simp (disch := omega) only [fat_in, w32_0, wbi0, Classical.not_not, w32_id] at c1)
    first
    | exact K_eq (h _ _ ⟨qdP_F (by decide), by rw [upF_s, bi_f c1, if_neg c1]; rfl⟩) (if_neg c1)
    | exact K_eq (h _ _ ⟨qdP_trans (qdP_F (by decide)) (roP_q g1), by rw [g1.2.1 25 0 (by decide), upF_s, bi_t c1, if_pos c1]; rfl⟩) (by rw [if_pos c1, if_pos c2])
    | exact K_eq (h _ _ ⟨qdP_trans (qdP_F (by decide)) (roP_q g1), by rw [g1.2.1 25 0 (by decide), upF_s, bi_t c1, if_pos c1]; rfl⟩) (by rw [if_pos c1, if_neg c2, g1.2.2])
  · skip
    (try (have q3 := (p1.2.2.1 c c1.1.1 c1.1.2).1)); (try simp only [w32_0, wbi0, Classical.not_not] at c1); (try simp (disch := omega) only [fat_in, w32_0, wbi0, Classical.not_not, w32_id] at c1)
    refine ⟨by exact ⟨p1, c1.1, c1.2, rb (mF A) p1 c l c1.1.1 c1.1.2 c1.2.1 c1.2.2⟩, ?_⟩
    intro G_1 B_1 g1
    refine ⟨fun c2 => ?_, fun c2 => ?_⟩
    · skip
      (try (have q3 := (p1.2.2.1 c c1.1.1 c1.1.2).1)); (try simp only [w32_0, wbi0, Classical.not_not] at c2); (try simp (disch := omega) only [fat_in, w32_0, wbi0, Classical.not_not, w32_id] at c2)
      first
      | exact K_eq (h _ _ ⟨qdP_F (by decide), by rw [upF_s, bi_f c1, if_neg c1]; rfl⟩) (if_neg c1)
      | exact K_eq (h _ _ ⟨qdP_trans (qdP_F (by decide)) (roP_q g1), by rw [g1.2.1 25 0 (by decide), upF_s, bi_t c1, if_pos c1]; rfl⟩) (by rw [if_pos c1, if_pos c2])
      | exact K_eq (h _ _ ⟨qdP_trans (qdP_F (by decide)) (roP_q g1), by rw [g1.2.1 25 0 (by decide), upF_s, bi_t c1, if_pos c1]; rfl⟩) (by rw [if_pos c1, if_neg c2, g1.2.2])
    · skip
      (try (have q3 := (p1.2.2.1 c c1.1.1 c1.1.2).1)); (try simp only [w32_0, wbi0, Classical.not_not] at c2); (try simp (disch := omega) only [fat_in, w32_0, wbi0, Classical.not_not, w32_id] at c2)
      first
      | exact K_eq (h _ _ ⟨qdP_F (by decide), by rw [upF_s, bi_f c1, if_neg c1]; rfl⟩) (if_neg c1)
      | exact K_eq (h _ _ ⟨qdP_trans (qdP_F (by decide)) (roP_q g1), by rw [g1.2.1 25 0 (by decide), upF_s, bi_t c1, if_pos c1]; rfl⟩) (by rw [if_pos c1, if_pos c2])
      | exact K_eq (h _ _ ⟨qdP_trans (qdP_F (by decide)) (roP_q g1), by rw [g1.2.1 25 0 (by decide), upF_s, bi_t c1, if_pos c1]; rfl⟩) (by rw [if_pos c1, if_neg c2, g1.2.2])
theorem qtX9_rootCount (l : Launch) : am_CT l layM qeX9_rootCount := am_met0 rfl (by decide +kernel) rfl rfl rfl rfl rfl (fun _ => rfl) rfl (qzX9_rootCount l) (fun k e1 h => (qyX9_rootCount l k e1 h).2) (fun as F A K h => by
  replace h : qsX9_rootCount as F A K := h
  unfold qsX9_rootCount at h
  split at h
  · rename_i o c l
    refine ⟨by first | exact Nat.le_of_ble_eq_true rfl | simp [am_fl, am_cat], ?_⟩
    replace h := am_cond2 h
    rcases h with ⟨hb, h⟩ | h
    · skip
      have hb0 := hb
      have hb0 := am_bq hb0
      subst hb0
      exact am_way_line (qvX9_rootCount_25 c l F A K h)
    exact h.elim
  · exact h.elim)
def qkX9_rootsOf : Nat → Option CI := fun pc => cond (Nat.ble 42 pc) none (cond (Nat.ble 20 pc) (cond (Nat.ble 29 pc) (cond (Nat.ble 34 pc) (cond (Nat.ble 40 pc) (cond (Nat.beq pc 40) (some (.iconst (-1), 41, [])) (cond (Nat.beq pc 41) (some (.ireturn, 42, [])) (none))) (cond (Nat.beq pc 34) (some (.invokevirtual 131, 37, [])) (cond (Nat.beq pc 37) (some (.goto 4, 40, [41])) (none)))) (cond (Nat.beq pc 29) (some (.ifCond .eq 11, 32, [40])) (cond (Nat.beq pc 32) (some (.aload_n 0, 33, [])) (cond (Nat.beq pc 33) (some (.iload_n 3, 34, [])) (none))))) (cond (Nat.ble 24 pc) (cond (Nat.beq pc 24) (some (.iload_n 1, 25, [])) (cond (Nat.beq pc 25) (some (.iload_n 2, 26, [])) (cond (Nat.beq pc 26) (some (.invokevirtual 128, 29, [])) (none)))) (cond (Nat.beq pc 20) (some (.bipush (-2), 22, [])) (cond (Nat.beq pc 22) (some (.ireturn, 23, [])) (cond (Nat.beq pc 23) (some (.aload_n 0, 24, [])) (none)))))) (cond (Nat.ble 10 pc) (cond (Nat.ble 15 pc) (cond (Nat.beq pc 15) (some (.iload_n 3, 16, [])) (cond (Nat.beq pc 16) (some (.iconst 2, 17, [])) (cond (Nat.beq pc 17) (some (.if_icmp .le 6, 20, [23])) (none)))) (cond (Nat.beq pc 10) (some (.ireturn, 11, [])) (cond (Nat.beq pc 11) (some (.iload_n 3, 12, [])) (cond (Nat.beq pc 12) (some (.ifCond .lt 8, 15, [20])) (none))))) (cond (Nat.ble 3 pc) (cond (Nat.beq pc 3) (some (.invokevirtual 346, 6, [])) (cond (Nat.beq pc 6) (some (.ifCond .ne 5, 9, [11])) (cond (Nat.beq pc 9) (some (.iconst 0, 10, [])) (none)))) (cond (Nat.beq pc 0) (some (.aload_n 0, 1, [])) (cond (Nat.beq pc 1) (some (.iload_n 1, 2, [])) (cond (Nat.beq pc 2) (some (.iload_n 2, 3, [])) (none)))))))
theorem qkX9_rootsOf_ok : ∀ pc i nx ts, qkX9_rootsOf pc = some (i, nx, ts) → am_cok cX9_rootsOf pc (i, nx, ts) = true := fun pc i nx ts h => am_tok_ok (n := 42) (by decide +kernel) (fun pc h => by show cond (Nat.ble 42 pc) _ _ = _; rw [Nat.ble_eq_true_of_le h]; rfl) h
def qaX9_rootsOf : Nat → Option CE := fun k => cond (Nat.beq k 346) (some qeX9_areThere) (cond (Nat.beq k 128) (some qeX9_laysRoots) (cond (Nat.beq k 131) (some qeX9_rootsOfKind) (none)))
theorem qyX9_rootsOf (l : Launch) : ∀ k e1, qaX9_rootsOf k = some e1 → am_cal l layM RX9 21 k e1 ∧ ceT e1 = 0 := q_cons ⟨am_calV (ci := 9) (qtX9_areThere l) qbX9_areThere (by decide) rfl (am_tb_at 1774 (by decide +kernel) rfl), rfl⟩ (q_cons ⟨am_calV (ci := 9) (qtX9_laysRoots l) qbX9_laysRoots (by decide) rfl (am_tb_at 1817 (by decide +kernel) rfl), rfl⟩ (q_cons ⟨am_calV (ci := 9) (qtX9_rootsOfKind l) qbX9_rootsOfKind (by decide) rfl (am_tb_at 1833 (by decide +kernel) rfl), rfl⟩ (q_nil)))
def qxX9_rootsOf : CX := (qkX9_rootsOf, layM, qfX9, qaX9_rootsOf, qcX9, qlX9, qmX9, (some .int), false, none, 0, none, fun _ => none)
theorem qzX9_rootsOf (l : Launch) : am_sta l qxX9_rootsOf RX9 21 cX9_rootsOf := ⟨qkX9_rootsOf_ok, layM_ok, qfX9_ok, qcX9_ok, qlX9_ok, am_mthP qmX9_ok (by decide), fun k e1 h => (qyX9_rootsOf l k e1 h).1⟩
def qsX9_rootsOf : SP := fun as F A K => match as with
  | [.inr (.inr o), .inl c, .inl l, .inl k] => cond (Nat.beq o 25) ((fgOK (mF A) ∧ (-2147483648 ≤ c ∧ c < 2147483648) ∧ (-2147483648 ≤ l ∧ l < 2147483648) ∧ (-2147483648 ≤ k ∧ k < 2147483648) ∧ RTB) ∧ (∀ (G_1 : FF) (B_1 : AA), (qdP F G_1 A B_1 ∧ G_1 25 0 = (if (0 ≤ c ∧ c < mF A 0) ∧ 0 ≤ l ∧ l < mF A 1 then 0 else 1)) → (K (some (some (vI (if (0 ≤ c ∧ c < mF A 0) ∧ 0 ≤ l ∧ l < mF A 1 then (if 0 ≤ k ∧ k ≤ 2 then (if azP (cfL (mF A) c l) (Int.toNat (mF A (18 + c))) then -1 else cntK (ktF (rtsX (mF A) c l)) k (rtsX (mF A) c l).length) else -2) else 0)))) G_1 B_1))) (False)
  | _ => False
def qeX9_rootsOf : CE := (yX9_rootsOf, cX9_rootsOf, 4, (some .int), 3, some 9, 0, [], 0, 21, qsX9_rootsOf)
theorem qbX9_rootsOf : am_mb qeX9_rootsOf := ⟨am_tb_at 1832 (by decide +kernel) rfl, am_tb_at 124 (by decide +kernel) rfl, ⟨by decide, by decide, by decide +kernel⟩, by decide, by decide, am_tb_at 1830 (by decide +kernel) rfl, am_tb_at 1831 (by decide +kernel) rfl, _, _, rfl⟩
set_option maxRecDepth 20000 in
theorem qvX9_rootsOf_25 (c : Int) (l : Int) (k : Int) (F : FF) (A : AA) (K : KK) (h : (fgOK (mF A) ∧ (-2147483648 ≤ c ∧ c < 2147483648) ∧ (-2147483648 ≤ l ∧ l < 2147483648) ∧ (-2147483648 ≤ k ∧ k < 2147483648) ∧ RTB) ∧ (∀ (G_1 : FF) (B_1 : AA), (qdP F G_1 A B_1 ∧ G_1 25 0 = (if (0 ≤ c ∧ c < mF A 0) ∧ 0 ≤ l ∧ l < mF A 1 then 0 else 1)) → (K (some (some (vI (if (0 ≤ c ∧ c < mF A 0) ∧ 0 ≤ l ∧ l < mF A 1 then (if 0 ≤ k ∧ k ≤ 2 then (if azP (cfL (mF A) c l) (Int.toNat (mF A (18 + c))) then -1 else cntK (ktF (rtsX (mF A) c l)) k (rtsX (mF A) c l).length) else -2) else 0)))) G_1 B_1))) : am_line qxX9_rootsOf 21 [vR 25, vI c, vI l, vI k] 4 F A K := by
  show am_stp qxX9_rootsOf (am_run qxX9_rootsOf (fun _ => none) (fun _ _ _ _ _ _ => False) K 21) K 0 [some (vR 25), some (vI c), some (vI l), some (vI k)] [] F A 0
  obtain ⟨hp, h⟩ := h
  have p1 := hp.1
  have q1 := p1.1.1
  have q2 := p1.1.2
  have q4 := p1.2.1
  have rb := hp.2.2.2.2

  show (fgOK (mF A) ∧ (-2147483648 ≤ c ∧ c < 2147483648) ∧ (-2147483648 ≤ l ∧ l < 2147483648)) ∧ ((w32 (bi ((0 ≤ c ∧ c < mF A 0) ∧ 0 ≤ l ∧ l < mF A 1)) = w32 0 → (K (some (some (vI 0))) (upF F 25 0 (1 - bi ((0 ≤ c ∧ c < mF A 0) ∧ 0 ≤ l ∧ l < mF A 1))) A)) ∧ (¬ (w32 (bi ((0 ≤ c ∧ c < mF A 0) ∧ 0 ≤ l ∧ l < mF A 1)) = w32 0) → ((w32 k < w32 0 → (K (some (some (vI (-2)))) (upF F 25 0 (1 - bi ((0 ≤ c ∧ c < mF A 0) ∧ 0 ≤ l ∧ l < mF A 1))) A)) ∧ (¬ w32 k < w32 0 → ((w32 2 < w32 k → (K (some (some (vI (-2)))) (upF F 25 0 (1 - bi ((0 ≤ c ∧ c < mF A 0) ∧ 0 ≤ l ∧ l < mF A 1))) A)) ∧ (¬ w32 2 < w32 k → ((fgOK (mF A) ∧ (0 ≤ c ∧ c < mF A 0) ∧ (0 ≤ l ∧ l < mF A 1) ∧ ((rtsX (mF A) c l).length : Int) ≤ 8) ∧ (∀ (G_1 : FF) (B_1 : AA), (roP (upF F 25 0 (1 - bi ((0 ≤ c ∧ c < mF A 0) ∧ 0 ≤ l ∧ l < mF A 1))) G_1 A B_1 c l) → ((w32 (bi (¬ azP (cfL (mF A) c l) (Int.toNat (mF A (18 + c))))) = w32 0 → (K (some (some (vI (-1)))) G_1 B_1)) ∧ (¬ w32 (bi (¬ azP (cfL (mF A) c l) (Int.toNat (mF A (18 + c))))) = w32 0 → (((0 ≤ (G_1 25 12) ∧ (G_1 25 12) ≤ 40) ∧ (-2147483648 ≤ k ∧ k < 2147483648) ∧ ∀ i, 0 ≤ i → i < (G_1 25 12) → -1 ≤ B_1 35 i ∧ B_1 35 i ≤ 3) ∧ (K (some (some (vI (cntK (B_1 35) k (Int.toNat ((G_1 25 12))))))) G_1 B_1))))))))))))
  refine ⟨by exact ⟨p1, by omega, by omega⟩, ?_⟩
  refine ⟨fun c1 => ?_, fun c1 => ?_⟩
  · skip
    (try (have q3 := (p1.2.2.1 c c1.1.1 c1.1.2).1)); (try simp only [w32_0, wbi0, Classical.not_not] at c1); (try simp (disch := omega) only [fat_in, w32_0, wbi0, Classical.not_not, w32_id] at c1)
    first
    | exact K_eq (h _ _ ⟨qdP_F (by decide), by rw [upF_s, bi_f c1, if_neg c1]; rfl⟩) (if_neg c1)
    | exact K_eq (h _ _ ⟨qdP_F (by decide), by rw [upF_s, bi_t c1, if_pos c1]; rfl⟩) (by rw [if_pos c1, if_neg (by omega)])
    | exact K_eq (h _ _ ⟨qdP_trans (qdP_F (by decide)) (roP_q g1), by rw [g1.2.1 25 0 (by decide), upF_s, bi_t c1, if_pos c1]; rfl⟩) (by rw [if_pos c1, if_pos (by omega), if_pos c4])
    | exact K_eq (h _ _ ⟨qdP_trans (qdP_F (by decide)) (roP_q g1), by rw [g1.2.1 25 0 (by decide), upF_s, bi_t c1, if_pos c1]; rfl⟩) (by rw [if_pos c1, if_pos (by omega), if_neg c4, roP_cnt g1])
  · skip
    (try (have q3 := (p1.2.2.1 c c1.1.1 c1.1.2).1)); (try simp only [w32_0, wbi0, Classical.not_not] at c1); (try simp (disch := omega) only [fat_in, w32_0, wbi0, Classical.not_not, w32_id] at c1)
    refine ⟨fun c2 => ?_, fun c2 => ?_⟩
    · skip
      (try (have q3 := (p1.2.2.1 c c1.1.1 c1.1.2).1)); (try simp only [w32_0, wbi0, Classical.not_not] at c2); (try simp (disch := omega) only [fat_in, w32_0, wbi0, Classical.not_not, w32_id] at c2)
      first
      | exact K_eq (h _ _ ⟨qdP_F (by decide), by rw [upF_s, bi_f c1, if_neg c1]; rfl⟩) (if_neg c1)
      | exact K_eq (h _ _ ⟨qdP_F (by decide), by rw [upF_s, bi_t c1, if_pos c1]; rfl⟩) (by rw [if_pos c1, if_neg (by omega)])
      | exact K_eq (h _ _ ⟨qdP_trans (qdP_F (by decide)) (roP_q g1), by rw [g1.2.1 25 0 (by decide), upF_s, bi_t c1, if_pos c1]; rfl⟩) (by rw [if_pos c1, if_pos (by omega), if_pos c4])
      | exact K_eq (h _ _ ⟨qdP_trans (qdP_F (by decide)) (roP_q g1), by rw [g1.2.1 25 0 (by decide), upF_s, bi_t c1, if_pos c1]; rfl⟩) (by rw [if_pos c1, if_pos (by omega), if_neg c4, roP_cnt g1])
    · skip
      (try (have q3 := (p1.2.2.1 c c1.1.1 c1.1.2).1)); (try simp only [w32_0, wbi0, Classical.not_not] at c2); (try simp (disch := omega) only [fat_in, w32_0, wbi0, Classical.not_not, w32_id] at c2)
      refine ⟨fun c3 => ?_, fun c3 => ?_⟩
      · skip
        (try (have q3 := (p1.2.2.1 c c1.1.1 c1.1.2).1)); (try simp only [w32_0, wbi0, Classical.not_not] at c3); (try simp (disch := omega) only [fat_in, w32_0, wbi0, Classical.not_not, w32_id] at c3)
        first
        | exact K_eq (h _ _ ⟨qdP_F (by decide), by rw [upF_s, bi_f c1, if_neg c1]; rfl⟩) (if_neg c1)
        | exact K_eq (h _ _ ⟨qdP_F (by decide), by rw [upF_s, bi_t c1, if_pos c1]; rfl⟩) (by rw [if_pos c1, if_neg (by omega)])
        | exact K_eq (h _ _ ⟨qdP_trans (qdP_F (by decide)) (roP_q g1), by rw [g1.2.1 25 0 (by decide), upF_s, bi_t c1, if_pos c1]; rfl⟩) (by rw [if_pos c1, if_pos (by omega), if_pos c4])
        | exact K_eq (h _ _ ⟨qdP_trans (qdP_F (by decide)) (roP_q g1), by rw [g1.2.1 25 0 (by decide), upF_s, bi_t c1, if_pos c1]; rfl⟩) (by rw [if_pos c1, if_pos (by omega), if_neg c4, roP_cnt g1])
      · skip
        (try (have q3 := (p1.2.2.1 c c1.1.1 c1.1.2).1)); (try simp only [w32_0, wbi0, Classical.not_not] at c3); (try simp (disch := omega) only [fat_in, w32_0, wbi0, Classical.not_not, w32_id] at c3)
        refine ⟨by exact ⟨p1, c1.1, c1.2, rb (mF A) p1 c l c1.1.1 c1.1.2 c1.2.1 c1.2.2⟩, ?_⟩
        intro G_1 B_1 g1
        refine ⟨fun c4 => ?_, fun c4 => ?_⟩
        · skip
          (try (have q3 := (p1.2.2.1 c c1.1.1 c1.1.2).1)); (try simp only [w32_0, wbi0, Classical.not_not] at c4); (try simp (disch := omega) only [fat_in, w32_0, wbi0, Classical.not_not, w32_id] at c4)
          first
          | exact K_eq (h _ _ ⟨qdP_F (by decide), by rw [upF_s, bi_f c1, if_neg c1]; rfl⟩) (if_neg c1)
          | exact K_eq (h _ _ ⟨qdP_F (by decide), by rw [upF_s, bi_t c1, if_pos c1]; rfl⟩) (by rw [if_pos c1, if_neg (by omega)])
          | exact K_eq (h _ _ ⟨qdP_trans (qdP_F (by decide)) (roP_q g1), by rw [g1.2.1 25 0 (by decide), upF_s, bi_t c1, if_pos c1]; rfl⟩) (by rw [if_pos c1, if_pos (by omega), if_pos c4])
          | exact K_eq (h _ _ ⟨qdP_trans (qdP_F (by decide)) (roP_q g1), by rw [g1.2.1 25 0 (by decide), upF_s, bi_t c1, if_pos c1]; rfl⟩) (by rw [if_pos c1, if_pos (by omega), if_neg c4, roP_cnt g1])
        · skip
          (try (have q3 := (p1.2.2.1 c c1.1.1 c1.1.2).1)); (try simp only [w32_0, wbi0, Classical.not_not] at c4); (try simp (disch := omega) only [fat_in, w32_0, wbi0, Classical.not_not, w32_id] at c4)
          refine ⟨by (have z := roP_k g1; have rq := rb (mF A) p1 c l c1.1.1 c1.1.2 c1.2.1 c1.2.2; rw [g1.2.2] at *; exact ⟨by omega, by omega, z⟩), ?_⟩
          first
          | exact K_eq (h _ _ ⟨qdP_F (by decide), by rw [upF_s, bi_f c1, if_neg c1]; rfl⟩) (if_neg c1)
          | exact K_eq (h _ _ ⟨qdP_F (by decide), by rw [upF_s, bi_t c1, if_pos c1]; rfl⟩) (by rw [if_pos c1, if_neg (by omega)])
          | exact K_eq (h _ _ ⟨qdP_trans (qdP_F (by decide)) (roP_q g1), by rw [g1.2.1 25 0 (by decide), upF_s, bi_t c1, if_pos c1]; rfl⟩) (by rw [if_pos c1, if_pos (by omega), if_pos c4])
          | exact K_eq (h _ _ ⟨qdP_trans (qdP_F (by decide)) (roP_q g1), by rw [g1.2.1 25 0 (by decide), upF_s, bi_t c1, if_pos c1]; rfl⟩) (by rw [if_pos c1, if_pos (by omega), if_neg c4, roP_cnt g1])
theorem qtX9_rootsOf (l : Launch) : am_CT l layM qeX9_rootsOf := am_met0 rfl (by decide +kernel) rfl rfl rfl rfl rfl (fun _ => rfl) rfl (qzX9_rootsOf l) (fun k e1 h => (qyX9_rootsOf l k e1 h).2) (fun as F A K h => by
  replace h : qsX9_rootsOf as F A K := h
  unfold qsX9_rootsOf at h
  split at h
  · rename_i o c l k
    refine ⟨by first | exact Nat.le_of_ble_eq_true rfl | simp [am_fl, am_cat], ?_⟩
    replace h := am_cond2 h
    rcases h with ⟨hb, h⟩ | h
    · skip
      have hb0 := hb
      have hb0 := am_bq hb0
      subst hb0
      exact am_way_line (qvX9_rootsOf_25 c l k F A K h)
    exact h.elim
  · exact h.elim)
