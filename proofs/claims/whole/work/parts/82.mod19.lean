def qkX9_turn : Nat → Option CI := fun pc => cond (Nat.ble 82 pc) none (cond (Nat.ble 39 pc) (cond (Nat.ble 61 pc) (cond (Nat.ble 72 pc) (cond (Nat.ble 77 pc) (cond (Nat.ble 80 pc) (cond (Nat.beq pc 80) (some (.isub, 81, [])) (cond (Nat.beq pc 81) (some (.ireturn, 82, [])) (none))) (cond (Nat.beq pc 77) (some (.iload 7, 79, [])) (cond (Nat.beq pc 79) (some (.imul, 80, [])) (none)))) (cond (Nat.beq pc 72) (some (.iload 8, 74, [])) (cond (Nat.beq pc 74) (some (.imul, 75, [])) (cond (Nat.beq pc 75) (some (.iload 6, 77, [])) (none))))) (cond (Nat.ble 64 pc) (cond (Nat.ble 68 pc) (cond (Nat.beq pc 68) (some (.istore 8, 70, [])) (cond (Nat.beq pc 70) (some (.iload 5, 72, [])) (none))) (cond (Nat.beq pc 64) (some (.invokevirtual 83, 67, [])) (cond (Nat.beq pc 67) (some (.isub, 68, [])) (none)))) (cond (Nat.beq pc 61) (some (.iload_n 1, 62, [])) (cond (Nat.beq pc 62) (some (.iload_n 2, 63, [])) (cond (Nat.beq pc 63) (some (.iconst 1, 64, [])) (none)))))) (cond (Nat.ble 50 pc) (cond (Nat.ble 54 pc) (cond (Nat.ble 57 pc) (cond (Nat.beq pc 57) (some (.invokevirtual 83, 60, [])) (cond (Nat.beq pc 60) (some (.aload_n 0, 61, [])) (none))) (cond (Nat.beq pc 54) (some (.iload 4, 56, [])) (cond (Nat.beq pc 56) (some (.iconst 1, 57, [])) (none)))) (cond (Nat.beq pc 50) (some (.istore 7, 52, [])) (cond (Nat.beq pc 52) (some (.aload_n 0, 53, [])) (cond (Nat.beq pc 53) (some (.iload_n 1, 54, [])) (none))))) (cond (Nat.ble 44 pc) (cond (Nat.ble 46 pc) (cond (Nat.beq pc 46) (some (.invokevirtual 83, 49, [])) (cond (Nat.beq pc 49) (some (.isub, 50, [])) (none))) (cond (Nat.beq pc 44) (some (.iload_n 2, 45, [])) (cond (Nat.beq pc 45) (some (.iconst 0, 46, [])) (none)))) (cond (Nat.beq pc 39) (some (.invokevirtual 83, 42, [])) (cond (Nat.beq pc 42) (some (.aload_n 0, 43, [])) (cond (Nat.beq pc 43) (some (.iload_n 1, 44, [])) (none))))))) (cond (Nat.ble 19 pc) (cond (Nat.ble 28 pc) (cond (Nat.ble 34 pc) (cond (Nat.ble 36 pc) (cond (Nat.beq pc 36) (some (.iload 4, 38, [])) (cond (Nat.beq pc 38) (some (.iconst 0, 39, [])) (none))) (cond (Nat.beq pc 34) (some (.aload_n 0, 35, [])) (cond (Nat.beq pc 35) (some (.iload_n 1, 36, [])) (none)))) (cond (Nat.beq pc 28) (some (.invokevirtual 83, 31, [])) (cond (Nat.beq pc 31) (some (.isub, 32, [])) (cond (Nat.beq pc 32) (some (.istore 6, 34, [])) (none))))) (cond (Nat.ble 24 pc) (cond (Nat.ble 26 pc) (cond (Nat.beq pc 26) (some (.iload_n 2, 27, [])) (cond (Nat.beq pc 27) (some (.iconst 1, 28, [])) (none))) (cond (Nat.beq pc 24) (some (.aload_n 0, 25, [])) (cond (Nat.beq pc 25) (some (.iload_n 1, 26, [])) (none)))) (cond (Nat.beq pc 19) (some (.iload_n 3, 20, [])) (cond (Nat.beq pc 20) (some (.iconst 1, 21, [])) (cond (Nat.beq pc 21) (some (.invokevirtual 83, 24, [])) (none)))))) (cond (Nat.ble 9 pc) (cond (Nat.ble 14 pc) (cond (Nat.ble 17 pc) (cond (Nat.beq pc 17) (some (.aload_n 0, 18, [])) (cond (Nat.beq pc 18) (some (.iload_n 1, 19, [])) (none))) (cond (Nat.beq pc 14) (some (.isub, 15, [])) (cond (Nat.beq pc 15) (some (.istore 5, 17, [])) (none)))) (cond (Nat.beq pc 9) (some (.iload_n 2, 10, [])) (cond (Nat.beq pc 10) (some (.iconst 0, 11, [])) (cond (Nat.beq pc 11) (some (.invokevirtual 83, 14, [])) (none))))) (cond (Nat.ble 3 pc) (cond (Nat.ble 7 pc) (cond (Nat.beq pc 7) (some (.aload_n 0, 8, [])) (cond (Nat.beq pc 8) (some (.iload_n 1, 9, [])) (none))) (cond (Nat.beq pc 3) (some (.iconst 0, 4, [])) (cond (Nat.beq pc 4) (some (.invokevirtual 83, 7, [])) (none)))) (cond (Nat.beq pc 0) (some (.aload_n 0, 1, [])) (cond (Nat.beq pc 1) (some (.iload_n 1, 2, [])) (cond (Nat.beq pc 2) (some (.iload_n 3, 3, [])) (none))))))))
theorem qkX9_turn_ok : ∀ pc i nx ts, qkX9_turn pc = some (i, nx, ts) → am_cok cX9_turn pc (i, nx, ts) = true := fun pc i nx ts h => am_tok_ok (n := 82) (by decide +kernel) (fun pc h => by show cond (Nat.ble 82 pc) _ _ = _; rw [Nat.ble_eq_true_of_le h]; rfl) h
def qaX9_turn : Nat → Option CE := fun k => cond (Nat.beq k 83) (some qeX9_point) (none)
theorem qyX9_turn (l : Launch) : ∀ k e1, qaX9_turn k = some e1 → am_cal l layM RX9 4 k e1 ∧ ceT e1 = 0 := q_cons ⟨am_calV (ci := 9) (qtX9_point l) qbX9_point (by decide) rfl (am_tb_at 1675 (by decide +kernel) rfl), rfl⟩ (q_nil)
def qxX9_turn : CX := (qkX9_turn, layM, qfX9, qaX9_turn, qcX9, qlX9, qmX9, (some .int), false, none, 0, none, fun _ => none)
theorem qzX9_turn (l : Launch) : am_sta l qxX9_turn RX9 4 cX9_turn := ⟨qkX9_turn_ok, layM_ok, qfX9_ok, qcX9_ok, qlX9_ok, am_mthP qmX9_ok (by decide), fun k e1 h => (qyX9_turn l k e1 h).1⟩
def qsX9_turn : SP := fun as F A K => match as with
  | [.inr (.inr o), .inl c, .inl a, .inl b, .inl k] => cond (Nat.beq o 25) (((0 ≤ c ∧ c < 8) ∧ (0 ≤ a ∧ a < 4) ∧ (0 ≤ b ∧ b < 4) ∧ (0 ≤ k ∧ k < 4)) ∧ (K (some (some (vI (tnF (mF A) c a b k)))) F A)) (False)
  | _ => False
def qeX9_turn : CE := (yX9_turn, cX9_turn, 9, (some .int), 4, some 9, 0, [], 0, 4, qsX9_turn)
theorem qbX9_turn : am_mb qeX9_turn := ⟨am_tb_at 1757 (by decide +kernel) rfl, am_tb_at 124 (by decide +kernel) rfl, ⟨by decide, by decide, by decide +kernel⟩, by decide, by decide, am_tb_at 1756 (by decide +kernel) rfl, am_tb_at 81 (by decide +kernel) rfl, _, _, rfl⟩
set_option maxRecDepth 20000 in
theorem qvX9_turn_25 (c : Int) (a : Int) (b : Int) (k : Int) (F : FF) (A : AA) (K : KK) (h : ((0 ≤ c ∧ c < 8) ∧ (0 ≤ a ∧ a < 4) ∧ (0 ≤ b ∧ b < 4) ∧ (0 ≤ k ∧ k < 4)) ∧ (K (some (some (vI (tnF (mF A) c a b k)))) F A)) : am_line qxX9_turn 57 [vR 25, vI c, vI a, vI b, vI k] 9 F A K := by
  show am_stp qxX9_turn (am_run qxX9_turn (fun _ => none) (fun _ _ _ _ _ _ => False) K 57) K 0 [some (vR 25), some (vI c), some (vI a), some (vI b), some (vI k), none, none, none, none] [] F A 0
  obtain ⟨hp, h⟩ := h
  show ((0 ≤ c ∧ c < 8) ∧ (0 ≤ b ∧ b < 4) ∧ 0 ≤ 0 ∧ 0 ≤ 2) ∧ (((0 ≤ c ∧ c < 8) ∧ (0 ≤ a ∧ a < 4) ∧ 0 ≤ 0 ∧ 0 ≤ 2) ∧ (((0 ≤ c ∧ c < 8) ∧ (0 ≤ b ∧ b < 4) ∧ 0 ≤ 1 ∧ 1 ≤ 2) ∧ (((0 ≤ c ∧ c < 8) ∧ (0 ≤ a ∧ a < 4) ∧ 0 ≤ 1 ∧ 1 ≤ 2) ∧ (((0 ≤ c ∧ c < 8) ∧ (0 ≤ k ∧ k < 4) ∧ 0 ≤ 0 ∧ 0 ≤ 2) ∧ (((0 ≤ c ∧ c < 8) ∧ (0 ≤ a ∧ a < 4) ∧ 0 ≤ 0 ∧ 0 ≤ 2) ∧ (((0 ≤ c ∧ c < 8) ∧ (0 ≤ k ∧ k < 4) ∧ 0 ≤ 1 ∧ 1 ≤ 2) ∧ (((0 ≤ c ∧ c < 8) ∧ (0 ≤ a ∧ a < 4) ∧ 0 ≤ 1 ∧ 1 ≤ 2) ∧ (K (some (some (vI ((((pxF (mF A) c b 0) - (pxF (mF A) c a 0)) * ((pxF (mF A) c k 1) - (pxF (mF A) c a 1))) - (((pxF (mF A) c b 1) - (pxF (mF A) c a 1)) * ((pxF (mF A) c k 0) - (pxF (mF A) c a 0))))))) F A))))))))
  refine ⟨by first | exact Or.inl rfl | exact Or.inr rfl | omega | exact ⟨by omega, by omega, by omega⟩, ?_⟩
  refine ⟨by first | exact Or.inl rfl | exact Or.inr rfl | omega | exact ⟨by omega, by omega, by omega⟩, ?_⟩
  refine ⟨by first | exact Or.inl rfl | exact Or.inr rfl | omega | exact ⟨by omega, by omega, by omega⟩, ?_⟩
  refine ⟨by first | exact Or.inl rfl | exact Or.inr rfl | omega | exact ⟨by omega, by omega, by omega⟩, ?_⟩
  refine ⟨by first | exact Or.inl rfl | exact Or.inr rfl | omega | exact ⟨by omega, by omega, by omega⟩, ?_⟩
  refine ⟨by first | exact Or.inl rfl | exact Or.inr rfl | omega | exact ⟨by omega, by omega, by omega⟩, ?_⟩
  refine ⟨by first | exact Or.inl rfl | exact Or.inr rfl | omega | exact ⟨by omega, by omega, by omega⟩, ?_⟩
  refine ⟨by first | exact Or.inl rfl | exact Or.inr rfl | omega | exact ⟨by omega, by omega, by omega⟩, ?_⟩
  exact h
theorem qtX9_turn (l : Launch) : am_CT l layM qeX9_turn := am_met0 rfl (by decide +kernel) rfl rfl rfl rfl rfl (fun _ => rfl) rfl (qzX9_turn l) (fun k e1 h => (qyX9_turn l k e1 h).2) (fun as F A K h => by
  replace h : qsX9_turn as F A K := h
  unfold qsX9_turn at h
  split at h
  · rename_i o c a b k
    refine ⟨by first | exact Nat.le_of_ble_eq_true rfl | simp [am_fl, am_cat], ?_⟩
    replace h := am_cond2 h
    rcases h with ⟨hb, h⟩ | h
    · skip
      have hb0 := hb
      have hb0 := am_bq hb0
      subst hb0
      exact am_way_line (qvX9_turn_25 c a b k F A K h)
    exact h.elim
  · exact h.elim)
def qkX9_far : Nat → Option CI := fun pc => cond (Nat.ble 46 pc) none (cond (Nat.ble 21 pc) (cond (Nat.ble 34 pc) (cond (Nat.ble 41 pc) (cond (Nat.ble 44 pc) (cond (Nat.beq pc 44) (some (.iadd, 45, [])) (cond (Nat.beq pc 45) (some (.ireturn, 46, [])) (none))) (cond (Nat.beq pc 41) (some (.iload 5, 43, [])) (cond (Nat.beq pc 43) (some (.imul, 44, [])) (none)))) (cond (Nat.ble 38 pc) (cond (Nat.beq pc 38) (some (.imul, 39, [])) (cond (Nat.beq pc 39) (some (.iload 5, 41, [])) (none))) (cond (Nat.beq pc 34) (some (.iload 4, 36, [])) (cond (Nat.beq pc 36) (some (.iload 4, 38, [])) (none))))) (cond (Nat.ble 27 pc) (cond (Nat.ble 31 pc) (cond (Nat.beq pc 31) (some (.isub, 32, [])) (cond (Nat.beq pc 32) (some (.istore 5, 34, [])) (none))) (cond (Nat.beq pc 27) (some (.iconst 1, 28, [])) (cond (Nat.beq pc 28) (some (.invokevirtual 83, 31, [])) (none)))) (cond (Nat.ble 25 pc) (cond (Nat.beq pc 25) (some (.iload_n 1, 26, [])) (cond (Nat.beq pc 26) (some (.iload_n 2, 27, [])) (none))) (cond (Nat.beq pc 21) (some (.invokevirtual 83, 24, [])) (cond (Nat.beq pc 24) (some (.aload_n 0, 25, [])) (none)))))) (cond (Nat.ble 10 pc) (cond (Nat.ble 17 pc) (cond (Nat.ble 19 pc) (cond (Nat.beq pc 19) (some (.iload_n 3, 20, [])) (cond (Nat.beq pc 20) (some (.iconst 1, 21, [])) (none))) (cond (Nat.beq pc 17) (some (.aload_n 0, 18, [])) (cond (Nat.beq pc 18) (some (.iload_n 1, 19, [])) (none)))) (cond (Nat.ble 14 pc) (cond (Nat.beq pc 14) (some (.isub, 15, [])) (cond (Nat.beq pc 15) (some (.istore 4, 17, [])) (none))) (cond (Nat.beq pc 10) (some (.iconst 0, 11, [])) (cond (Nat.beq pc 11) (some (.invokevirtual 83, 14, [])) (none))))) (cond (Nat.ble 4 pc) (cond (Nat.ble 8 pc) (cond (Nat.beq pc 8) (some (.iload_n 1, 9, [])) (cond (Nat.beq pc 9) (some (.iload_n 2, 10, [])) (none))) (cond (Nat.beq pc 4) (some (.invokevirtual 83, 7, [])) (cond (Nat.beq pc 7) (some (.aload_n 0, 8, [])) (none)))) (cond (Nat.ble 2 pc) (cond (Nat.beq pc 2) (some (.iload_n 3, 3, [])) (cond (Nat.beq pc 3) (some (.iconst 0, 4, [])) (none))) (cond (Nat.beq pc 0) (some (.aload_n 0, 1, [])) (cond (Nat.beq pc 1) (some (.iload_n 1, 2, [])) (none)))))))
theorem qkX9_far_ok : ∀ pc i nx ts, qkX9_far pc = some (i, nx, ts) → am_cok cX9_far pc (i, nx, ts) = true := fun pc i nx ts h => am_tok_ok (n := 46) (by decide +kernel) (fun pc h => by show cond (Nat.ble 46 pc) _ _ = _; rw [Nat.ble_eq_true_of_le h]; rfl) h
def qaX9_far : Nat → Option CE := fun k => cond (Nat.beq k 83) (some qeX9_point) (none)
theorem qyX9_far (l : Launch) : ∀ k e1, qaX9_far k = some e1 → am_cal l layM RX9 4 k e1 ∧ ceT e1 = 0 := q_cons ⟨am_calV (ci := 9) (qtX9_point l) qbX9_point (by decide) rfl (am_tb_at 1675 (by decide +kernel) rfl), rfl⟩ (q_nil)
def qxX9_far : CX := (qkX9_far, layM, qfX9, qaX9_far, qcX9, qlX9, qmX9, (some .int), false, none, 0, none, fun _ => none)
theorem qzX9_far (l : Launch) : am_sta l qxX9_far RX9 4 cX9_far := ⟨qkX9_far_ok, layM_ok, qfX9_ok, qcX9_ok, qlX9_ok, am_mthP qmX9_ok (by decide), fun k e1 h => (qyX9_far l k e1 h).1⟩
def qsX9_far : SP := fun as F A K => match as with
  | [.inr (.inr o), .inl c, .inl a, .inl b] => cond (Nat.beq o 25) (((0 ≤ c ∧ c < 8) ∧ (0 ≤ a ∧ a < 4) ∧ (0 ≤ b ∧ b < 4)) ∧ (K (some (some (vI (faF (mF A) c a b)))) F A)) (False)
  | _ => False
def qeX9_far : CE := (yX9_far, cX9_far, 6, (some .int), 3, some 9, 0, [], 0, 4, qsX9_far)
theorem qbX9_far : am_mb qeX9_far := ⟨am_tb_at 1761 (by decide +kernel) rfl, am_tb_at 124 (by decide +kernel) rfl, ⟨by decide, by decide, by decide +kernel⟩, by decide, by decide, am_tb_at 1760 (by decide +kernel) rfl, am_tb_at 82 (by decide +kernel) rfl, _, _, rfl⟩
set_option maxRecDepth 20000 in
theorem qvX9_far_25 (c : Int) (a : Int) (b : Int) (F : FF) (A : AA) (K : KK) (h : ((0 ≤ c ∧ c < 8) ∧ (0 ≤ a ∧ a < 4) ∧ (0 ≤ b ∧ b < 4)) ∧ (K (some (some (vI (faF (mF A) c a b)))) F A)) : am_line qxX9_far 33 [vR 25, vI c, vI a, vI b] 6 F A K := by
  show am_stp qxX9_far (am_run qxX9_far (fun _ => none) (fun _ _ _ _ _ _ => False) K 33) K 0 [some (vR 25), some (vI c), some (vI a), some (vI b), none, none] [] F A 0
  obtain ⟨hp, h⟩ := h
  show ((0 ≤ c ∧ c < 8) ∧ (0 ≤ b ∧ b < 4) ∧ 0 ≤ 0 ∧ 0 ≤ 2) ∧ (((0 ≤ c ∧ c < 8) ∧ (0 ≤ a ∧ a < 4) ∧ 0 ≤ 0 ∧ 0 ≤ 2) ∧ (((0 ≤ c ∧ c < 8) ∧ (0 ≤ b ∧ b < 4) ∧ 0 ≤ 1 ∧ 1 ≤ 2) ∧ (((0 ≤ c ∧ c < 8) ∧ (0 ≤ a ∧ a < 4) ∧ 0 ≤ 1 ∧ 1 ≤ 2) ∧ (K (some (some (vI ((((pxF (mF A) c b 0) - (pxF (mF A) c a 0)) * ((pxF (mF A) c b 0) - (pxF (mF A) c a 0))) + (((pxF (mF A) c b 1) - (pxF (mF A) c a 1)) * ((pxF (mF A) c b 1) - (pxF (mF A) c a 1))))))) F A))))
  refine ⟨by first | exact Or.inl rfl | exact Or.inr rfl | omega | exact ⟨by omega, by omega, by omega⟩, ?_⟩
  refine ⟨by first | exact Or.inl rfl | exact Or.inr rfl | omega | exact ⟨by omega, by omega, by omega⟩, ?_⟩
  refine ⟨by first | exact Or.inl rfl | exact Or.inr rfl | omega | exact ⟨by omega, by omega, by omega⟩, ?_⟩
  refine ⟨by first | exact Or.inl rfl | exact Or.inr rfl | omega | exact ⟨by omega, by omega, by omega⟩, ?_⟩
  exact h
theorem qtX9_far (l : Launch) : am_CT l layM qeX9_far := am_met0 rfl (by decide +kernel) rfl rfl rfl rfl rfl (fun _ => rfl) rfl (qzX9_far l) (fun k e1 h => (qyX9_far l k e1 h).2) (fun as F A K h => by
  replace h : qsX9_far as F A K := h
  unfold qsX9_far at h
  split at h
  · rename_i o c a b
    refine ⟨by first | exact Nat.le_of_ble_eq_true rfl | simp [am_fl, am_cat], ?_⟩
    replace h := am_cond2 h
    rcases h with ⟨hb, h⟩ | h
    · skip
      have hb0 := hb
      have hb0 := am_bq hb0
      subst hb0
      exact am_way_line (qvX9_far_25 c a b F A K h)
    exact h.elim
  · exact h.elim)
def qkX9_isSame : Nat → Option CI := fun pc => cond (Nat.ble 40 pc) none (cond (Nat.ble 19 pc) (cond (Nat.ble 27 pc) (cond (Nat.ble 34 pc) (cond (Nat.ble 38 pc) (cond (Nat.beq pc 38) (some (.iconst 0, 39, [])) (cond (Nat.beq pc 39) (some (.ireturn, 40, [])) (none))) (cond (Nat.beq pc 34) (some (.iconst 1, 35, [])) (cond (Nat.beq pc 35) (some (.goto 4, 38, [39])) (none)))) (cond (Nat.beq pc 27) (some (.iconst 1, 28, [])) (cond (Nat.beq pc 28) (some (.invokevirtual 83, 31, [])) (cond (Nat.beq pc 31) (some (.if_icmp .ne 7, 34, [38])) (none))))) (cond (Nat.ble 24 pc) (cond (Nat.beq pc 24) (some (.aload_n 0, 25, [])) (cond (Nat.beq pc 25) (some (.iload_n 1, 26, [])) (cond (Nat.beq pc 26) (some (.iload_n 3, 27, [])) (none)))) (cond (Nat.beq pc 19) (some (.iload_n 2, 20, [])) (cond (Nat.beq pc 20) (some (.iconst 1, 21, [])) (cond (Nat.beq pc 21) (some (.invokevirtual 83, 24, [])) (none)))))) (cond (Nat.ble 8 pc) (cond (Nat.ble 11 pc) (cond (Nat.ble 17 pc) (cond (Nat.beq pc 17) (some (.aload_n 0, 18, [])) (cond (Nat.beq pc 18) (some (.iload_n 1, 19, [])) (none))) (cond (Nat.beq pc 11) (some (.invokevirtual 83, 14, [])) (cond (Nat.beq pc 14) (some (.if_icmp .ne 24, 17, [38])) (none)))) (cond (Nat.beq pc 8) (some (.iload_n 1, 9, [])) (cond (Nat.beq pc 9) (some (.iload_n 3, 10, [])) (cond (Nat.beq pc 10) (some (.iconst 0, 11, [])) (none))))) (cond (Nat.ble 3 pc) (cond (Nat.beq pc 3) (some (.iconst 0, 4, [])) (cond (Nat.beq pc 4) (some (.invokevirtual 83, 7, [])) (cond (Nat.beq pc 7) (some (.aload_n 0, 8, [])) (none)))) (cond (Nat.beq pc 0) (some (.aload_n 0, 1, [])) (cond (Nat.beq pc 1) (some (.iload_n 1, 2, [])) (cond (Nat.beq pc 2) (some (.iload_n 2, 3, [])) (none)))))))
theorem qkX9_isSame_ok : ∀ pc i nx ts, qkX9_isSame pc = some (i, nx, ts) → am_cok cX9_isSame pc (i, nx, ts) = true := fun pc i nx ts h => am_tok_ok (n := 40) (by decide +kernel) (fun pc h => by show cond (Nat.ble 40 pc) _ _ = _; rw [Nat.ble_eq_true_of_le h]; rfl) h
def qaX9_isSame : Nat → Option CE := fun k => cond (Nat.beq k 83) (some qeX9_point) (none)
theorem qyX9_isSame (l : Launch) : ∀ k e1, qaX9_isSame k = some e1 → am_cal l layM RX9 4 k e1 ∧ ceT e1 = 0 := q_cons ⟨am_calV (ci := 9) (qtX9_point l) qbX9_point (by decide) rfl (am_tb_at 1675 (by decide +kernel) rfl), rfl⟩ (q_nil)
def qxX9_isSame : CX := (qkX9_isSame, layM, qfX9, qaX9_isSame, qcX9, qlX9, qmX9, (some .boolean), false, none, 0, none, fun _ => none)
theorem qzX9_isSame (l : Launch) : am_sta l qxX9_isSame RX9 4 cX9_isSame := ⟨qkX9_isSame_ok, layM_ok, qfX9_ok, qcX9_ok, qlX9_ok, am_mthP qmX9_ok (by decide), fun k e1 h => (qyX9_isSame l k e1 h).1⟩
def qsX9_isSame : SP := fun as F A K => match as with
  | [.inr (.inr o), .inl c, .inl k, .inl i] => cond (Nat.beq o 25) (((0 ≤ c ∧ c < 8) ∧ (0 ≤ k ∧ k < 4) ∧ (0 ≤ i ∧ i < 4)) ∧ (K (some (some (vI (bi (w32 (pxF (mF A) c k 0) = w32 (pxF (mF A) c i 0) ∧ w32 (pxF (mF A) c k 1) = w32 (pxF (mF A) c i 1)))))) F A)) (False)
  | _ => False
def qeX9_isSame : CE := (yX9_isSame, cX9_isSame, 4, (some .boolean), 3, some 9, 0, [], 0, 4, qsX9_isSame)
theorem qbX9_isSame : am_mb qeX9_isSame := ⟨am_tb_at 1753 (by decide +kernel) rfl, am_tb_at 124 (by decide +kernel) rfl, ⟨by decide, by decide, by decide +kernel⟩, by decide, by decide, am_tb_at 1752 (by decide +kernel) rfl, am_tb_at 80 (by decide +kernel) rfl, _, _, rfl⟩
set_option maxRecDepth 20000 in
theorem qvX9_isSame_25 (c : Int) (k : Int) (i : Int) (F : FF) (A : AA) (K : KK) (h : ((0 ≤ c ∧ c < 8) ∧ (0 ≤ k ∧ k < 4) ∧ (0 ≤ i ∧ i < 4)) ∧ (K (some (some (vI (bi (w32 (pxF (mF A) c k 0) = w32 (pxF (mF A) c i 0) ∧ w32 (pxF (mF A) c k 1) = w32 (pxF (mF A) c i 1)))))) F A)) : am_line qxX9_isSame 26 [vR 25, vI c, vI k, vI i] 4 F A K := by
  show am_stp qxX9_isSame (am_run qxX9_isSame (fun _ => none) (fun _ _ _ _ _ _ => False) K 26) K 0 [some (vR 25), some (vI c), some (vI k), some (vI i)] [] F A 0
  obtain ⟨hp, h⟩ := h
  show ((0 ≤ c ∧ c < 8) ∧ (0 ≤ k ∧ k < 4) ∧ 0 ≤ 0 ∧ 0 ≤ 2) ∧ (((0 ≤ c ∧ c < 8) ∧ (0 ≤ i ∧ i < 4) ∧ 0 ≤ 0 ∧ 0 ≤ 2) ∧ ((w32 (pxF (mF A) c k 0) = w32 (pxF (mF A) c i 0) → (((0 ≤ c ∧ c < 8) ∧ (0 ≤ k ∧ k < 4) ∧ 0 ≤ 1 ∧ 1 ≤ 2) ∧ (((0 ≤ c ∧ c < 8) ∧ (0 ≤ i ∧ i < 4) ∧ 0 ≤ 1 ∧ 1 ≤ 2) ∧ ((w32 (pxF (mF A) c k 1) = w32 (pxF (mF A) c i 1) → ((1 = 0 ∨ 1 = 1) ∧ (K (some (some (vI 1))) F A))) ∧ (¬ w32 (pxF (mF A) c k 1) = w32 (pxF (mF A) c i 1) → ((0 = 0 ∨ 0 = 1) ∧ (K (some (some (vI 0))) F A))))))) ∧ (¬ w32 (pxF (mF A) c k 0) = w32 (pxF (mF A) c i 0) → ((0 = 0 ∨ 0 = 1) ∧ (K (some (some (vI 0))) F A)))))
  refine ⟨by first | exact Or.inl rfl | exact Or.inr rfl | omega | exact ⟨by omega, by omega, by omega⟩, ?_⟩
  refine ⟨by first | exact Or.inl rfl | exact Or.inr rfl | omega | exact ⟨by omega, by omega, by omega⟩, ?_⟩
  refine ⟨fun c1 => ?_, fun c1 => ?_⟩
  · skip
    (try simp (disch := omega) only [fat_in, w32_0, wbi0, Classical.not_not, w32_id] at c1)
    refine ⟨by first | exact Or.inl rfl | exact Or.inr rfl | omega | exact ⟨by omega, by omega, by omega⟩, ?_⟩
    refine ⟨by first | exact Or.inl rfl | exact Or.inr rfl | omega | exact ⟨by omega, by omega, by omega⟩, ?_⟩
    refine ⟨fun c2 => ?_, fun c2 => ?_⟩
    · skip
      (try simp (disch := omega) only [fat_in, w32_0, wbi0, Classical.not_not, w32_id] at c2)
      refine ⟨by first | exact Or.inl rfl | exact Or.inr rfl | omega | exact ⟨by omega, by omega, by omega⟩, ?_⟩
      first | exact K_eq h (bi_t ⟨c1, c2⟩) | exact K_eq h (bi_f (fun z => c1 z.1)) | exact K_eq h (bi_f (fun z => c2 z.2))
    · skip
      (try simp (disch := omega) only [fat_in, w32_0, wbi0, Classical.not_not, w32_id] at c2)
      refine ⟨by first | exact Or.inl rfl | exact Or.inr rfl | omega | exact ⟨by omega, by omega, by omega⟩, ?_⟩
      first | exact K_eq h (bi_t ⟨c1, c2⟩) | exact K_eq h (bi_f (fun z => c1 z.1)) | exact K_eq h (bi_f (fun z => c2 z.2))
  · skip
    (try simp (disch := omega) only [fat_in, w32_0, wbi0, Classical.not_not, w32_id] at c1)
    refine ⟨by first | exact Or.inl rfl | exact Or.inr rfl | omega | exact ⟨by omega, by omega, by omega⟩, ?_⟩
    first | exact K_eq h (bi_t ⟨c1, c2⟩) | exact K_eq h (bi_f (fun z => c1 z.1)) | exact K_eq h (bi_f (fun z => c2 z.2))
theorem qtX9_isSame (l : Launch) : am_CT l layM qeX9_isSame := am_met0 rfl (by decide +kernel) rfl rfl rfl rfl rfl (fun _ => rfl) rfl (qzX9_isSame l) (fun k e1 h => (qyX9_isSame l k e1 h).2) (fun as F A K h => by
  replace h : qsX9_isSame as F A K := h
  unfold qsX9_isSame at h
  split at h
  · rename_i o c k i
    refine ⟨by first | exact Nat.le_of_ble_eq_true rfl | simp [am_fl, am_cat], ?_⟩
    replace h := am_cond2 h
    rcases h with ⟨hb, h⟩ | h
    · skip
      have hb0 := hb
      have hb0 := am_bq hb0
      subst hb0
      exact am_way_line (qvX9_isSame_25 c k i F A K h)
    exact h.elim
  · exact h.elim)
def qkX9_nextCorner : Nat → Option CI := fun pc => cond (Nat.ble 88 pc) none (cond (Nat.ble 41 pc) (cond (Nat.ble 64 pc) (cond (Nat.ble 74 pc) (cond (Nat.ble 80 pc) (cond (Nat.ble 86 pc) (cond (Nat.beq pc 86) (some (.iload_n 3, 87, [])) (cond (Nat.beq pc 87) (some (.ireturn, 88, [])) (none))) (cond (Nat.beq pc 80) (some (.iinc 4 1, 83, [])) (cond (Nat.beq pc 83) (some (.goto (-78), 86, [5])) (none)))) (cond (Nat.beq pc 74) (some (.if_icmp .le 6, 77, [80])) (cond (Nat.beq pc 77) (some (.iload 4, 79, [])) (cond (Nat.beq pc 79) (some (.istore_n 3, 80, [])) (none))))) (cond (Nat.ble 69 pc) (cond (Nat.beq pc 69) (some (.iload_n 2, 70, [])) (cond (Nat.beq pc 70) (some (.iload_n 3, 71, [])) (cond (Nat.beq pc 71) (some (.invokevirtual 339, 74, [])) (none)))) (cond (Nat.beq pc 64) (some (.invokevirtual 339, 67, [])) (cond (Nat.beq pc 67) (some (.aload_n 0, 68, [])) (cond (Nat.beq pc 68) (some (.iload_n 1, 69, [])) (none)))))) (cond (Nat.ble 54 pc) (cond (Nat.ble 60 pc) (cond (Nat.beq pc 60) (some (.iload_n 1, 61, [])) (cond (Nat.beq pc 61) (some (.iload_n 2, 62, [])) (cond (Nat.beq pc 62) (some (.iload 4, 64, [])) (none)))) (cond (Nat.beq pc 54) (some (.iload 5, 56, [])) (cond (Nat.beq pc 56) (some (.ifCond .ne 24, 59, [80])) (cond (Nat.beq pc 59) (some (.aload_n 0, 60, [])) (none))))) (cond (Nat.ble 47 pc) (cond (Nat.beq pc 47) (some (.istore 5, 49, [])) (cond (Nat.beq pc 49) (some (.iload 5, 51, [])) (cond (Nat.beq pc 51) (some (.ifCond .lt 26, 54, [77])) (none)))) (cond (Nat.beq pc 41) (some (.iload_n 3, 42, [])) (cond (Nat.beq pc 42) (some (.iload 4, 44, [])) (cond (Nat.beq pc 44) (some (.invokevirtual 335, 47, [])) (none))))))) (cond (Nat.ble 19 pc) (cond (Nat.ble 31 pc) (cond (Nat.ble 38 pc) (cond (Nat.beq pc 38) (some (.aload_n 0, 39, [])) (cond (Nat.beq pc 39) (some (.iload_n 1, 40, [])) (cond (Nat.beq pc 40) (some (.iload_n 2, 41, [])) (none)))) (cond (Nat.beq pc 31) (some (.if_icmp .ne 7, 34, [38])) (cond (Nat.beq pc 34) (some (.iconst (-1), 35, [])) (cond (Nat.beq pc 35) (some (.goto 12, 38, [47])) (none))))) (cond (Nat.ble 26 pc) (cond (Nat.beq pc 26) (some (.goto 54, 29, [80])) (cond (Nat.beq pc 29) (some (.iload_n 3, 30, [])) (cond (Nat.beq pc 30) (some (.iconst (-1), 31, [])) (none)))) (cond (Nat.beq pc 19) (some (.iload_n 2, 20, [])) (cond (Nat.beq pc 20) (some (.invokevirtual 332, 23, [])) (cond (Nat.beq pc 23) (some (.ifCond .eq 6, 26, [29])) (none)))))) (cond (Nat.ble 8 pc) (cond (Nat.ble 15 pc) (cond (Nat.beq pc 15) (some (.aload_n 0, 16, [])) (cond (Nat.beq pc 16) (some (.iload_n 1, 17, [])) (cond (Nat.beq pc 17) (some (.iload 4, 19, [])) (none)))) (cond (Nat.beq pc 8) (some (.iload_n 1, 9, [])) (cond (Nat.beq pc 9) (some (.invokevirtual 76, 12, [])) (cond (Nat.beq pc 12) (some (.if_icmp .ge 74, 15, [86])) (none))))) (cond (Nat.ble 3 pc) (cond (Nat.beq pc 3) (some (.istore 4, 5, [])) (cond (Nat.beq pc 5) (some (.iload 4, 7, [])) (cond (Nat.beq pc 7) (some (.aload_n 0, 8, [])) (none)))) (cond (Nat.beq pc 0) (some (.iconst (-1), 1, [])) (cond (Nat.beq pc 1) (some (.istore_n 3, 2, [])) (cond (Nat.beq pc 2) (some (.iconst 0, 3, [])) (none))))))))
theorem qkX9_nextCorner_ok : ∀ pc i nx ts, qkX9_nextCorner pc = some (i, nx, ts) → am_cok cX9_nextCorner pc (i, nx, ts) = true := fun pc i nx ts h => am_tok_ok (n := 88) (by decide +kernel) (fun pc h => by show cond (Nat.ble 88 pc) _ _ = _; rw [Nat.ble_eq_true_of_le h]; rfl) h
def qaX9_nextCorner : Nat → Option CE := fun k => cond (Nat.beq k 76) (some qeX9_points) (cond (Nat.beq k 332) (some qeX9_isSame) (cond (Nat.beq k 335) (some qeX9_turn) (cond (Nat.beq k 339) (some qeX9_far) (none))))
theorem qyX9_nextCorner (l : Launch) : ∀ k e1, qaX9_nextCorner k = some e1 → am_cal l layM RX9 5 k e1 ∧ ceT e1 = 0 := q_cons ⟨am_calV (ci := 9) (qtX9_points l) qbX9_points (by decide) rfl (am_tb_at 1663 (by decide +kernel) rfl), rfl⟩ (q_cons ⟨am_calV (ci := 9) (qtX9_isSame l) qbX9_isSame (by decide) rfl (am_tb_at 1750 (by decide +kernel) rfl), rfl⟩ (q_cons ⟨am_calV (ci := 9) (qtX9_turn l) qbX9_turn (by decide) rfl (am_tb_at 1754 (by decide +kernel) rfl), rfl⟩ (q_cons ⟨am_calV (ci := 9) (qtX9_far l) qbX9_far (by decide) rfl (am_tb_at 1758 (by decide +kernel) rfl), rfl⟩ (q_nil))))
def qxX9_nextCorner : CX := (qkX9_nextCorner, layM, qfX9, qaX9_nextCorner, qcX9, qlX9, qmX9, (some .int), false, none, 0, none, fun _ => none)
theorem qzX9_nextCorner (l : Launch) : am_sta l qxX9_nextCorner RX9 5 cX9_nextCorner := ⟨qkX9_nextCorner_ok, layM_ok, qfX9_ok, qcX9_ok, qlX9_ok, am_mthP qmX9_ok (by decide), fun k e1 h => (qyX9_nextCorner l k e1 h).1⟩
def qsX9_nextCorner : SP := fun as F A K => match as with
  | [.inr (.inr o), .inl c, .inl a] => cond (Nat.beq o 25) ((fgOK (mF A) ∧ (0 ≤ c ∧ c < mF A 0) ∧ 0 ≤ a ∧ a < mF A (18 + c)) ∧ (K (some (some (vI (caF (mF A) c a (Int.toNat (mF A (18 + c))))))) F A)) (False)
  | _ => False
def qeX9_nextCorner : CE := (yX9_nextCorner, cX9_nextCorner, 6, (some .int), 2, some 9, 0, [], 0, 5, qsX9_nextCorner)
theorem qbX9_nextCorner : am_mb qeX9_nextCorner := ⟨am_tb_at 1749 (by decide +kernel) rfl, am_tb_at 124 (by decide +kernel) rfl, ⟨by decide, by decide, by decide +kernel⟩, by decide, by decide, am_tb_at 1748 (by decide +kernel) rfl, am_tb_at 79 (by decide +kernel) rfl, _, _, rfl⟩
def qnX9_nextCorner_25 : CUT := fun pc => cond (Nat.beq pc 5) (some [true, true, true, true, true, false]) (none)
def qiX9_nextCorner_25 (c : Int) (a : Int) (F0 : FF) (A0 : AA) : REC := fun pc ls st F A u => cond (Nat.beq pc 5) (match ls, st, u with
    | [some (.inr (.inr s0)), some (.inl s1), some (.inl s2), some (.inl b), some (.inl k), none], [], 0 => s0 = 25 ∧ s1 = c ∧ s2 = a ∧ F = F0 ∧ A = A0 ∧ ((0 ≤ k ∧ k ≤ mF A0 (18 + c)) ∧ b = caF (mF A0) c a (Int.toNat k))
    | _, _, _ => False) (False)
def quX9_nextCorner_25 : Nat → LVs → List AV → FF → AA → Nat := fun pc ls _ F A => cond (Nat.beq pc 5) (match ls with
    | [some (.inr (.inr s0)), some (.inl s1), some (.inl s2), some (.inl b), some (.inl k), none] => Int.toNat (9 - k)
    | _ => 0) (0)
set_option maxRecDepth 20000 in
theorem qvX9_nextCorner_25_0 (c : Int) (a : Int) (F0 : FF) (A0 : AA) (K : KK) (h : (fgOK (mF A0) ∧ (0 ≤ c ∧ c < mF A0 0) ∧ 0 ≤ a ∧ a < mF A0 (18 + c)) ∧ (K (some (some (vI (caF (mF A0) c a (Int.toNat (mF A0 (18 + c))))))) F0 A0)) : am_stp qxX9_nextCorner (am_run qxX9_nextCorner qnX9_nextCorner_25 (qiX9_nextCorner_25 c a F0 A0) K 43) K 0 (am_ent [vR 25, vI c, vI a] 6) [] F0 A0 0 := by
  show am_stp qxX9_nextCorner (am_run qxX9_nextCorner qnX9_nextCorner_25 (qiX9_nextCorner_25 c a F0 A0) K 43) K 0 [some (vR 25), some (vI c), some (vI a), none, none, none] [] F0 A0 0
  obtain ⟨hp, h⟩ := h
  obtain ⟨p1, p2', p3⟩ := hp
  have q1 := p1.1.1
  have q3 := (p1.2.2.1 c p2'.1 p2'.2).1
  show 25 = 25 ∧ c = c ∧ a = a ∧ F0 = F0 ∧ A0 = A0 ∧ ((0 ≤ 0 ∧ 0 ≤ mF A0 (18 + c)) ∧ (-1) = caF (mF A0) c a (Int.toNat 0))
  refine ⟨rfl, rfl, rfl, rfl, rfl, ?_⟩
  exact ⟨by omega, rfl⟩
set_option maxRecDepth 20000 in
theorem qvX9_nextCorner_25_5 (c : Int) (a : Int) (F0 : FF) (A0 : AA) (K : KK) (h : (fgOK (mF A0) ∧ (0 ≤ c ∧ c < mF A0 0) ∧ 0 ≤ a ∧ a < mF A0 (18 + c)) ∧ (K (some (some (vI (caF (mF A0) c a (Int.toNat (mF A0 (18 + c))))))) F0 A0)) (b : Int) (k : Int) (hi : (0 ≤ k ∧ k ≤ mF A0 (18 + c)) ∧ b = caF (mF A0) c a (Int.toNat k)) : am_stp qxX9_nextCorner (am_run qxX9_nextCorner qnX9_nextCorner_25 (fun pc ls st F9 A9 u => qiX9_nextCorner_25 c a F0 A0 pc ls st F9 A9 u ∧ quX9_nextCorner_25 pc ls st F9 A9 < quX9_nextCorner_25 5 [some (vR 25), some (vI c), some (vI a), some (vI b), some (vI k), none] [] F0 A0) K 43) K 5 [some (vR 25), some (vI c), some (vI a), some (vI b), some (vI k), none] [] F0 A0 0 := by
  obtain ⟨hp, h⟩ := h
  obtain ⟨p1, p2', p3⟩ := hp
  have q1 := p1.1.1
  have q3 := (p1.2.2.1 c p2'.1 p2'.2).1
  have pb : ∀ j w, 0 ≤ j → j < mF A0 (18 + c) → 0 ≤ w → w ≤ 1 → 0 ≤ pxF (mF A0) c j w ∧ pxF (mF A0) c j w ≤ 20 := fun j w j0 j1 w0 w1 => by
    obtain ⟨x1, x2, _⟩ := (p1.2.2.1 c p2'.1 p2'.2).2 j j0 j1
    rcases (show w = 0 ∨ w = 1 by omega) with rfl | rfl <;> assumption
  obtain ⟨h1, h2⟩ := hi
  have cb := caF_b (mF A0) c a (Int.toNat k)
  rw [← h2] at cb
  show (0 ≤ c ∧ c < 8) ∧ ((w32 k < w32 (mF A0 (18 + c)) → (((0 ≤ c ∧ c < 8) ∧ (0 ≤ k ∧ k < 4) ∧ (0 ≤ a ∧ a < 4)) ∧ ((w32 (bi (w32 (pxF (mF A0) c k 0) = w32 (pxF (mF A0) c a 0) ∧ w32 (pxF (mF A0) c k 1) = w32 (pxF (mF A0) c a 1))) = w32 0 → ((w32 b = w32 (-1) → ((w32 (-1) < w32 0 → ((25 = 25 ∧ c = c ∧ a = a ∧ F0 = F0 ∧ A0 = A0 ∧ ((0 ≤ (k + 1) ∧ (k + 1) ≤ mF A0 (18 + c)) ∧ k = caF (mF A0) c a (Int.toNat (k + 1)))) ∧ (Int.toNat (9 - (k + 1))) < (Int.toNat (9 - k)))) ∧ (¬ w32 (-1) < w32 0 → _))) ∧ (¬ w32 b = w32 (-1) → (((0 ≤ c ∧ c < 8) ∧ (0 ≤ a ∧ a < 4) ∧ (0 ≤ b ∧ b < 4) ∧ (0 ≤ k ∧ k < 4)) ∧ ((w32 (tnF (mF A0) c a b k) < w32 0 → ((25 = 25 ∧ c = c ∧ a = a ∧ F0 = F0 ∧ A0 = A0 ∧ ((0 ≤ (k + 1) ∧ (k + 1) ≤ mF A0 (18 + c)) ∧ k = caF (mF A0) c a (Int.toNat (k + 1)))) ∧ (Int.toNat (9 - (k + 1))) < (Int.toNat (9 - k)))) ∧ (¬ w32 (tnF (mF A0) c a b k) < w32 0 → ((w32 (tnF (mF A0) c a b k) = w32 0 → (((0 ≤ c ∧ c < 8) ∧ (0 ≤ a ∧ a < 4) ∧ (0 ≤ k ∧ k < 4)) ∧ (((0 ≤ c ∧ c < 8) ∧ (0 ≤ a ∧ a < 4) ∧ (0 ≤ b ∧ b < 4)) ∧ ((w32 (faF (mF A0) c a b) < w32 (faF (mF A0) c a k) → ((25 = 25 ∧ c = c ∧ a = a ∧ F0 = F0 ∧ A0 = A0 ∧ ((0 ≤ (k + 1) ∧ (k + 1) ≤ mF A0 (18 + c)) ∧ k = caF (mF A0) c a (Int.toNat (k + 1)))) ∧ (Int.toNat (9 - (k + 1))) < (Int.toNat (9 - k)))) ∧ (¬ w32 (faF (mF A0) c a b) < w32 (faF (mF A0) c a k) → ((25 = 25 ∧ c = c ∧ a = a ∧ F0 = F0 ∧ A0 = A0 ∧ ((0 ≤ (k + 1) ∧ (k + 1) ≤ mF A0 (18 + c)) ∧ b = caF (mF A0) c a (Int.toNat (k + 1)))) ∧ (Int.toNat (9 - (k + 1))) < (Int.toNat (9 - k)))))))) ∧ (¬ w32 (tnF (mF A0) c a b k) = w32 0 → ((25 = 25 ∧ c = c ∧ a = a ∧ F0 = F0 ∧ A0 = A0 ∧ ((0 ≤ (k + 1) ∧ (k + 1) ≤ mF A0 (18 + c)) ∧ b = caF (mF A0) c a (Int.toNat (k + 1)))) ∧ (Int.toNat (9 - (k + 1))) < (Int.toNat (9 - k))))))))))) ∧ (¬ (w32 (bi (w32 (pxF (mF A0) c k 0) = w32 (pxF (mF A0) c a 0) ∧ w32 (pxF (mF A0) c k 1) = w32 (pxF (mF A0) c a 1))) = w32 0) → ((25 = 25 ∧ c = c ∧ a = a ∧ F0 = F0 ∧ A0 = A0 ∧ ((0 ≤ (k + 1) ∧ (k + 1) ≤ mF A0 (18 + c)) ∧ b = caF (mF A0) c a (Int.toNat (k + 1)))) ∧ (Int.toNat (9 - (k + 1))) < (Int.toNat (9 - k))))))) ∧ (¬ w32 k < w32 (mF A0 (18 + c)) → (K (some (some (vI b))) F0 A0)))
  refine ⟨by first | exact Or.inl rfl | exact Or.inr rfl | omega | exact ⟨by omega, by omega, by omega⟩, ?_⟩
  refine ⟨fun c1 => ?_, fun c1 => ?_⟩
  · skip
    (try simp only [w32_0, wbi0, Classical.not_not] at c1); (try simp (disch := omega) only [w32_id] at c1); (try simp only [w32_0] at c1)
    refine ⟨by first | exact Or.inl rfl | exact Or.inr rfl | omega | exact ⟨by omega, by omega, by omega⟩, ?_⟩
    refine ⟨fun c2 => ?_, fun c2 => ?_⟩
    · skip
      (try simp only [w32_0, wbi0, Classical.not_not] at c2); (try simp (disch := omega) only [w32_id] at c2); (try simp only [w32_0] at c2)
      refine ⟨fun c3 => ?_, fun c3 => ?_⟩
      · skip
        (try simp only [w32_0, wbi0, Classical.not_not] at c3); (try simp (disch := omega) only [w32_id] at c3); (try simp only [w32_0] at c3)
        refine ⟨fun _ => ?_, fun q => absurd (by decide) q⟩
        refine ⟨⟨rfl, rfl, rfl, rfl, rfl, ?_⟩, by omega⟩
        have ds := ds_iff (f := mF A0) (c := c) (a := a) (k := k) (fun w w0 w1 => pb a w p3.1 p3.2 w0 w1) (fun w w0 w1 => pb k w h1.1 (by omega) w0 w1)
        refine ⟨by omega, ?_⟩
        rw [caF_s h1.1, ← h2]
        by_cases eb : b = -1
        · split <;> omega
        · have fi := far_iff (f := mF A0) (c := c) (a := a) (b := b) (k := k) (fun w w0 w1 => pb a w p3.1 p3.2 w0 w1) (fun w w0 w1 => pb b w (by omega) (by omega) w0 w1) (fun w w0 w1 => pb k w h1.1 (by omega) w0 w1)
          by_cases et : w32 (tnF (mF A0) c a b k) = 0
          · have fi2 := fi et
            split <;> omega
          · split <;> omega
      · skip
        (try simp only [w32_0, wbi0, Classical.not_not] at c3); (try simp (disch := omega) only [w32_id] at c3); (try simp only [w32_0] at c3)
        refine ⟨by first | exact Or.inl rfl | exact Or.inr rfl | omega | exact ⟨by omega, by omega, by omega⟩, ?_⟩
        refine ⟨fun c4 => ?_, fun c4 => ?_⟩
        · skip
          (try simp only [w32_0, wbi0, Classical.not_not] at c4); (try simp (disch := omega) only [w32_id] at c4); (try simp only [w32_0] at c4)
          refine ⟨⟨rfl, rfl, rfl, rfl, rfl, ?_⟩, by omega⟩
          have ds := ds_iff (f := mF A0) (c := c) (a := a) (k := k) (fun w w0 w1 => pb a w p3.1 p3.2 w0 w1) (fun w w0 w1 => pb k w h1.1 (by omega) w0 w1)
          refine ⟨by omega, ?_⟩
          rw [caF_s h1.1, ← h2]
          by_cases eb : b = -1
          · split <;> omega
          · have fi := far_iff (f := mF A0) (c := c) (a := a) (b := b) (k := k) (fun w w0 w1 => pb a w p3.1 p3.2 w0 w1) (fun w w0 w1 => pb b w (by omega) (by omega) w0 w1) (fun w w0 w1 => pb k w h1.1 (by omega) w0 w1)
            by_cases et : w32 (tnF (mF A0) c a b k) = 0
            · have fi2 := fi et
              split <;> omega
            · split <;> omega
        · skip
          (try simp only [w32_0, wbi0, Classical.not_not] at c4); (try simp (disch := omega) only [w32_id] at c4); (try simp only [w32_0] at c4)
          refine ⟨fun c5 => ?_, fun c5 => ?_⟩
          · skip
            (try simp only [w32_0, wbi0, Classical.not_not] at c5); (try simp (disch := omega) only [w32_id] at c5); (try simp only [w32_0] at c5)
            refine ⟨by first | exact Or.inl rfl | exact Or.inr rfl | omega | exact ⟨by omega, by omega, by omega⟩, ?_⟩
            refine ⟨by first | exact Or.inl rfl | exact Or.inr rfl | omega | exact ⟨by omega, by omega, by omega⟩, ?_⟩
            refine ⟨fun c6 => ?_, fun c6 => ?_⟩
            · skip
              (try simp only [w32_0, wbi0, Classical.not_not] at c6); (try simp (disch := omega) only [w32_id] at c6); (try simp only [w32_0] at c6)
              refine ⟨⟨rfl, rfl, rfl, rfl, rfl, ?_⟩, by omega⟩
              have ds := ds_iff (f := mF A0) (c := c) (a := a) (k := k) (fun w w0 w1 => pb a w p3.1 p3.2 w0 w1) (fun w w0 w1 => pb k w h1.1 (by omega) w0 w1)
              refine ⟨by omega, ?_⟩
              rw [caF_s h1.1, ← h2]
              by_cases eb : b = -1
              · split <;> omega
              · have fi := far_iff (f := mF A0) (c := c) (a := a) (b := b) (k := k) (fun w w0 w1 => pb a w p3.1 p3.2 w0 w1) (fun w w0 w1 => pb b w (by omega) (by omega) w0 w1) (fun w w0 w1 => pb k w h1.1 (by omega) w0 w1)
                by_cases et : w32 (tnF (mF A0) c a b k) = 0
                · have fi2 := fi et
                  split <;> omega
                · split <;> omega
            · skip
              (try simp only [w32_0, wbi0, Classical.not_not] at c6); (try simp (disch := omega) only [w32_id] at c6); (try simp only [w32_0] at c6)
              refine ⟨⟨rfl, rfl, rfl, rfl, rfl, ?_⟩, by omega⟩
              have ds := ds_iff (f := mF A0) (c := c) (a := a) (k := k) (fun w w0 w1 => pb a w p3.1 p3.2 w0 w1) (fun w w0 w1 => pb k w h1.1 (by omega) w0 w1)
              refine ⟨by omega, ?_⟩
              rw [caF_s h1.1, ← h2]
              by_cases eb : b = -1
              · split <;> omega
              · have fi := far_iff (f := mF A0) (c := c) (a := a) (b := b) (k := k) (fun w w0 w1 => pb a w p3.1 p3.2 w0 w1) (fun w w0 w1 => pb b w (by omega) (by omega) w0 w1) (fun w w0 w1 => pb k w h1.1 (by omega) w0 w1)
                by_cases et : w32 (tnF (mF A0) c a b k) = 0
                · have fi2 := fi et
                  split <;> omega
                · split <;> omega
          · skip
            (try simp only [w32_0, wbi0, Classical.not_not] at c5); (try simp (disch := omega) only [w32_id] at c5); (try simp only [w32_0] at c5)
            refine ⟨⟨rfl, rfl, rfl, rfl, rfl, ?_⟩, by omega⟩
            have ds := ds_iff (f := mF A0) (c := c) (a := a) (k := k) (fun w w0 w1 => pb a w p3.1 p3.2 w0 w1) (fun w w0 w1 => pb k w h1.1 (by omega) w0 w1)
            refine ⟨by omega, ?_⟩
            rw [caF_s h1.1, ← h2]
            by_cases eb : b = -1
            · split <;> omega
            · have fi := far_iff (f := mF A0) (c := c) (a := a) (b := b) (k := k) (fun w w0 w1 => pb a w p3.1 p3.2 w0 w1) (fun w w0 w1 => pb b w (by omega) (by omega) w0 w1) (fun w w0 w1 => pb k w h1.1 (by omega) w0 w1)
              by_cases et : w32 (tnF (mF A0) c a b k) = 0
              · have fi2 := fi et
                split <;> omega
              · split <;> omega
    · skip
      (try simp only [w32_0, wbi0, Classical.not_not] at c2); (try simp (disch := omega) only [w32_id] at c2); (try simp only [w32_0] at c2)
      refine ⟨⟨rfl, rfl, rfl, rfl, rfl, ?_⟩, by omega⟩
      have ds := ds_iff (f := mF A0) (c := c) (a := a) (k := k) (fun w w0 w1 => pb a w p3.1 p3.2 w0 w1) (fun w w0 w1 => pb k w h1.1 (by omega) w0 w1)
      refine ⟨by omega, ?_⟩
      rw [caF_s h1.1, ← h2]
      by_cases eb : b = -1
      · split <;> omega
      · have fi := far_iff (f := mF A0) (c := c) (a := a) (b := b) (k := k) (fun w w0 w1 => pb a w p3.1 p3.2 w0 w1) (fun w w0 w1 => pb b w (by omega) (by omega) w0 w1) (fun w w0 w1 => pb k w h1.1 (by omega) w0 w1)
        by_cases et : w32 (tnF (mF A0) c a b k) = 0
        · have fi2 := fi et
          split <;> omega
        · split <;> omega
  · skip
    (try simp only [w32_0, wbi0, Classical.not_not] at c1); (try simp (disch := omega) only [w32_id] at c1); (try simp only [w32_0] at c1)
    exact K_eq h (by rw [h2, show k = mF A0 (18 + c) by omega])
set_option maxRecDepth 20000 in
theorem qvX9_nextCorner_25 (c : Int) (a : Int) (F0 : FF) (A0 : AA) (K : KK) (h : (fgOK (mF A0) ∧ (0 ≤ c ∧ c < mF A0 0) ∧ 0 ≤ a ∧ a < mF A0 (18 + c)) ∧ (K (some (some (vI (caF (mF A0) c a (Int.toNat (mF A0 (18 + c))))))) F0 A0)) : am_body qxX9_nextCorner qnX9_nextCorner_25 43 (qiX9_nextCorner_25 c a F0 A0) quX9_nextCorner_25 [vR 25, vI c, vI a] 6 F0 A0 K := by
  refine ⟨qvX9_nextCorner_25_0 c a F0 A0 K h, fun pc ls st F A u hI => ?_⟩
  unfold qiX9_nextCorner_25 at hI
  replace hI := am_cond2 hI
  rcases hI with ⟨hb, hI⟩ | hI
  · have hb := am_bq hb
    subst hb
    split at hI
    · rename_i s0 s1 s2 b k
      obtain ⟨e0, e1, e2, e3, e4, hI⟩ := hI
      subst e0
      subst e1
      subst e2
      subst e3
      subst e4
      exact qvX9_nextCorner_25_5 _ _ _ _ K h _ _ hI
    · exact hI.elim
  exact hI.elim
theorem qtX9_nextCorner (l : Launch) : am_CT l layM qeX9_nextCorner := am_met0 rfl (by decide +kernel) rfl rfl rfl rfl rfl (fun _ => rfl) rfl (qzX9_nextCorner l) (fun k e1 h => (qyX9_nextCorner l k e1 h).2) (fun as F A K h => by
  replace h : qsX9_nextCorner as F A K := h
  unfold qsX9_nextCorner at h
  split at h
  · rename_i o c a
    refine ⟨by first | exact Nat.le_of_ble_eq_true rfl | simp [am_fl, am_cat], ?_⟩
    replace h := am_cond2 h
    rcases h with ⟨hb, h⟩ | h
    · skip
      have hb0 := hb
      have hb0 := am_bq hb0
      subst hb0
      exact am_way_body (qvX9_nextCorner_25 c a F A K h)
    exact h.elim
  · exact h.elim)
