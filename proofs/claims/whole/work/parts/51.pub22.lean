def qkX8_sameness : Nat → Option CI := fun pc => cond (Nat.ble 55 pc) none (cond (Nat.ble 28 pc) (cond (Nat.ble 40 pc) (cond (Nat.ble 46 pc) (cond (Nat.ble 50 pc) (cond (Nat.beq pc 50) (some (.goto 4, 53, [54])) (cond (Nat.beq pc 53) (some (.iconst 0, 54, [])) (cond (Nat.beq pc 54) (some (.ireturn, 55, [])) (none)))) (cond (Nat.beq pc 46) (some (.ifCond .eq 7, 49, [53])) (cond (Nat.beq pc 49) (some (.iconst 2, 50, [])) (none)))) (cond (Nat.ble 42 pc) (cond (Nat.beq pc 42) (some (.iconst 1, 43, [])) (cond (Nat.beq pc 43) (some (.invokevirtual 305, 46, [])) (none))) (cond (Nat.beq pc 40) (some (.iload_n 1, 41, [])) (cond (Nat.beq pc 41) (some (.iload_n 2, 42, [])) (none))))) (cond (Nat.ble 34 pc) (cond (Nat.ble 38 pc) (cond (Nat.beq pc 38) (some (.ireturn, 39, [])) (cond (Nat.beq pc 39) (some (.aload_n 0, 40, [])) (none))) (cond (Nat.beq pc 34) (some (.ifCond .eq 5, 37, [39])) (cond (Nat.beq pc 37) (some (.iconst 1, 38, [])) (none)))) (cond (Nat.ble 30 pc) (cond (Nat.beq pc 30) (some (.iconst 0, 31, [])) (cond (Nat.beq pc 31) (some (.invokevirtual 305, 34, [])) (none))) (cond (Nat.beq pc 28) (some (.iload_n 1, 29, [])) (cond (Nat.beq pc 29) (some (.iload_n 2, 30, [])) (none)))))) (cond (Nat.ble 14 pc) (cond (Nat.ble 22 pc) (cond (Nat.ble 26 pc) (cond (Nat.beq pc 26) (some (.ireturn, 27, [])) (cond (Nat.beq pc 27) (some (.aload_n 0, 28, [])) (none))) (cond (Nat.beq pc 22) (some (.if_icmp .eq 5, 25, [27])) (cond (Nat.beq pc 25) (some (.iconst 0, 26, [])) (none)))) (cond (Nat.ble 18 pc) (cond (Nat.beq pc 18) (some (.iload_n 2, 19, [])) (cond (Nat.beq pc 19) (some (.invokevirtual 177, 22, [])) (none))) (cond (Nat.beq pc 14) (some (.aload_n 0, 15, [])) (cond (Nat.beq pc 15) (some (.getfield 10, 18, [])) (none))))) (cond (Nat.ble 6 pc) (cond (Nat.ble 10 pc) (cond (Nat.beq pc 10) (some (.iload_n 1, 11, [])) (cond (Nat.beq pc 11) (some (.invokevirtual 177, 14, [])) (none))) (cond (Nat.beq pc 6) (some (.aload_n 0, 7, [])) (cond (Nat.beq pc 7) (some (.getfield 10, 10, [])) (none)))) (cond (Nat.ble 2 pc) (cond (Nat.beq pc 2) (some (.iload_n 2, 3, [])) (cond (Nat.beq pc 3) (some (.invokevirtual 263, 6, [])) (none))) (cond (Nat.beq pc 0) (some (.aload_n 0, 1, [])) (cond (Nat.beq pc 1) (some (.iload_n 1, 2, [])) (none)))))))
theorem qkX8_sameness_ok : ∀ pc i nx ts, qkX8_sameness pc = some (i, nx, ts) → am_cok cX8_sameness pc (i, nx, ts) = true := fun pc i nx ts h => am_tok_ok (n := 55) (by decide +kernel) (fun pc h => by show cond (Nat.ble 55 pc) _ _ = _; rw [Nat.ble_eq_true_of_le h]; rfl) h
def qaX8_sameness : Nat → Option CE := fun k => cond (Nat.beq k 263) (some qeX8_requireCurves) (cond (Nat.beq k 177) (some qeX2_size) (cond (Nat.beq k 305) (some qeX8_isAlike) (none)))
theorem qyX8_sameness (l : Launch) (hst : l.stackTraces = false) : ∀ k e1, qaX8_sameness k = some e1 → am_cal l layX RX8 11 k e1 ∧ True := q_cons ⟨am_calV (ci := 8) (qtX8_requireCurves l hst) qbX8_requireCurves (by decide) rfl (am_tb_at 1222 (by decide +kernel) rfl), trivial⟩ (q_cons ⟨am_calV (ci := 2) (qtX2_size l) qbX2_size (by decide) rfl (am_tb_at 777 (by decide +kernel) rfl), trivial⟩ (q_cons ⟨am_calV (ci := 8) (qtX8_isAlike l) qbX8_isAlike (by decide) rfl (am_tb_at 1339 (by decide +kernel) rfl), trivial⟩ (q_nil)))
def qxX8_sameness : CX := (qkX8_sameness, layX, qfX8, qaX8_sameness, qcX8, qlX8, qmX8, (some .int), true, none, 2, none, fun _ => none)
theorem qzX8_sameness (l : Launch) (hst : l.stackTraces = false) : am_sta l qxX8_sameness RX8 11 cX8_sameness := ⟨qkX8_sameness_ok, layX_ok, qfX8_ok, qcX8_ok, qlX8_ok, am_mthP qmX8_ok (by decide), fun k e1 h => (qyX8_sameness l hst k e1 h).1⟩
def qsX8_sameness : SP := fun as F A K => match as with
  | [.inr (.inr o), .inl c, .inl e] => cond (Nat.beq o 0) ((fgOK (A 2) ∧ (-2147483648 ≤ c ∧ c < 2147483648) ∧ (-2147483648 ≤ e ∧ e < 2147483648)) ∧ (((0 ≤ c ∧ c < A 2 0) ∧ 0 ≤ e ∧ e < A 2 0 → (K (some (some (vI (if A 2 (18 + c) = A 2 (18 + e) then (if bc (alP (A 2) c e 0) = 1 then 1 else if bc (alP (A 2) c e 1) = 1 then 2 else 0) else 0)))) F A)) ∧ (¬ ((0 ≤ c ∧ c < A 2 0) ∧ 0 ≤ e ∧ e < A 2 0) → (K none F A)))) (False)
  | _ => False
def qeX8_sameness : CE := (yX8_sameness, cX8_sameness, 3, (some .int), 2, some 8, 1, [], 2, 11, qsX8_sameness)
theorem qbX8_sameness : am_mb qeX8_sameness := ⟨am_tb_at 1338 (by decide +kernel) rfl, am_tb_at 114 (by decide +kernel) rfl, ⟨by decide, by decide, by decide +kernel⟩, by decide, by decide, am_tb_at 1336 (by decide +kernel) rfl, am_tb_at 1337 (by decide +kernel) rfl, _, _, rfl⟩
set_option maxRecDepth 20000 in
theorem qvX8_sameness_0 (c : Int) (e : Int) (F : FF) (A : AA) (K : KK) (h : (fgOK (A 2) ∧ (-2147483648 ≤ c ∧ c < 2147483648) ∧ (-2147483648 ≤ e ∧ e < 2147483648)) ∧ (((0 ≤ c ∧ c < A 2 0) ∧ 0 ≤ e ∧ e < A 2 0 → (K (some (some (vI (if A 2 (18 + c) = A 2 (18 + e) then (if bc (alP (A 2) c e 0) = 1 then 1 else if bc (alP (A 2) c e 1) = 1 then 2 else 0) else 0)))) F A)) ∧ (¬ ((0 ≤ c ∧ c < A 2 0) ∧ 0 ≤ e ∧ e < A 2 0) → (K none F A)))) : am_line qxX8_sameness 29 [vR 0, vI c, vI e] 3 F A K := by
  show am_stp qxX8_sameness (am_run qxX8_sameness (fun _ => none) (fun _ _ _ _ _ _ => False) K 29) K 0 [some (vR 0), some (vI c), some (vI e)] [] F A 0
  obtain ⟨hp, h⟩ := h
  have p1 := hp.1
  have p2' := hp.2
  have q1 := p1.1.1
  have q2 := p1.1.2
  show ((0 ≤ A 2 0 ∧ A 2 0 ≤ 8) ∧ (0 ≤ A 2 1 ∧ A 2 1 ≤ 6) ∧ (-2147483648 ≤ c ∧ c < 2147483648) ∧ (-2147483648 ≤ e ∧ e < 2147483648)) ∧ (((0 ≤ c ∧ c < A 2 0) ∧ 0 ≤ e ∧ e < A 2 0 → ((w32 (fat (A 2) (18 + c)) = w32 (fat (A 2) (18 + e)) → ((fgOK (A 2) ∧ (0 ≤ c ∧ c < A 2 0) ∧ (0 ≤ e ∧ e < A 2 0) ∧ A 2 (18 + c) = A 2 (18 + e) ∧ (0 = 0 ∨ 0 = 1)) ∧ ((w32 (bc (alP (A 2) c e 0)) = w32 0 → ((fgOK (A 2) ∧ (0 ≤ c ∧ c < A 2 0) ∧ (0 ≤ e ∧ e < A 2 0) ∧ A 2 (18 + c) = A 2 (18 + e) ∧ (1 = 0 ∨ 1 = 1)) ∧ ((w32 (bc (alP (A 2) c e 1)) = w32 0 → (K (some (some (vI 0))) F A)) ∧ (¬ w32 (bc (alP (A 2) c e 1)) = w32 0 → (K (some (some (vI 2))) F A))))) ∧ (¬ w32 (bc (alP (A 2) c e 0)) = w32 0 → (K (some (some (vI 1))) F A))))) ∧ (¬ w32 (fat (A 2) (18 + c)) = w32 (fat (A 2) (18 + e)) → (K (some (some (vI 0))) F A)))) ∧ (¬ ((0 ≤ c ∧ c < A 2 0) ∧ 0 ≤ e ∧ e < A 2 0) → (K none F A)))
  refine ⟨by exact ⟨p1.1.1, p1.1.2, hp.2.1, hp.2.2⟩, ?_⟩
  refine ⟨fun c1 => ?_, fun c1 => ?_⟩
  · skip
    (try (have q3 := (p1.2.2.1 c c1.1.1 c1.1.2).1)); (try (have q4 := (p1.2.2.1 e c1.2.1 c1.2.2).1)); (try simp (disch := omega) only [fat_in, w32_0, w32_id] at c1); (try simp only [w32_0, wbc0, Classical.not_not] at c1)
    refine ⟨fun c2 => ?_, fun c2 => ?_⟩
    · skip
      (try (have q3 := (p1.2.2.1 c c1.1.1 c1.1.2).1)); (try (have q4 := (p1.2.2.1 e c1.2.1 c1.2.2).1)); (try simp (disch := omega) only [fat_in, w32_0, w32_id] at c2); (try simp only [w32_0, wbc0, Classical.not_not] at c2)
      refine ⟨by first | exact ⟨p1, c1.1, c1.2, c2, Or.inl rfl⟩ | exact ⟨p1, c1.1, c1.2, c2, Or.inr rfl⟩, ?_⟩
      refine ⟨fun c3 => ?_, fun c3 => ?_⟩
      · skip
        (try (have q3 := (p1.2.2.1 c c1.1.1 c1.1.2).1)); (try (have q4 := (p1.2.2.1 e c1.2.1 c1.2.2).1)); (try simp (disch := omega) only [fat_in, w32_0, w32_id] at c3); (try simp only [w32_0, wbc0, Classical.not_not] at c3)
        refine ⟨by first | exact ⟨p1, c1.1, c1.2, c2, Or.inl rfl⟩ | exact ⟨p1, c1.1, c1.2, c2, Or.inr rfl⟩, ?_⟩
        refine ⟨fun c4 => ?_, fun c4 => ?_⟩
        · skip
          (try (have q3 := (p1.2.2.1 c c1.1.1 c1.1.2).1)); (try (have q4 := (p1.2.2.1 e c1.2.1 c1.2.2).1)); (try simp (disch := omega) only [fat_in, w32_0, w32_id] at c4); (try simp only [w32_0, wbc0, Classical.not_not] at c4)
          first
          | exact K_eq (h.1 c1) (if_neg c2)
          | exact K_eq (h.1 c1) (by rw [if_pos c2, bc_t c3]; rfl)
          | exact K_eq (h.1 c1) (by rw [if_pos c2, bc_f c3, bc_t c4]; rfl)
          | exact K_eq (h.1 c1) (by rw [if_pos c2, bc_f c3, bc_f c4]; rfl)
        · skip
          (try (have q3 := (p1.2.2.1 c c1.1.1 c1.1.2).1)); (try (have q4 := (p1.2.2.1 e c1.2.1 c1.2.2).1)); (try simp (disch := omega) only [fat_in, w32_0, w32_id] at c4); (try simp only [w32_0, wbc0, Classical.not_not] at c4)
          first
          | exact K_eq (h.1 c1) (if_neg c2)
          | exact K_eq (h.1 c1) (by rw [if_pos c2, bc_t c3]; rfl)
          | exact K_eq (h.1 c1) (by rw [if_pos c2, bc_f c3, bc_t c4]; rfl)
          | exact K_eq (h.1 c1) (by rw [if_pos c2, bc_f c3, bc_f c4]; rfl)
      · skip
        (try (have q3 := (p1.2.2.1 c c1.1.1 c1.1.2).1)); (try (have q4 := (p1.2.2.1 e c1.2.1 c1.2.2).1)); (try simp (disch := omega) only [fat_in, w32_0, w32_id] at c3); (try simp only [w32_0, wbc0, Classical.not_not] at c3)
        first
        | exact K_eq (h.1 c1) (if_neg c2)
        | exact K_eq (h.1 c1) (by rw [if_pos c2, bc_t c3]; rfl)
        | exact K_eq (h.1 c1) (by rw [if_pos c2, bc_f c3, bc_t c4]; rfl)
        | exact K_eq (h.1 c1) (by rw [if_pos c2, bc_f c3, bc_f c4]; rfl)
    · skip
      (try (have q3 := (p1.2.2.1 c c1.1.1 c1.1.2).1)); (try (have q4 := (p1.2.2.1 e c1.2.1 c1.2.2).1)); (try simp (disch := omega) only [fat_in, w32_0, w32_id] at c2); (try simp only [w32_0, wbc0, Classical.not_not] at c2)
      first
      | exact K_eq (h.1 c1) (if_neg c2)
      | exact K_eq (h.1 c1) (by rw [if_pos c2, bc_t c3]; rfl)
      | exact K_eq (h.1 c1) (by rw [if_pos c2, bc_f c3, bc_t c4]; rfl)
      | exact K_eq (h.1 c1) (by rw [if_pos c2, bc_f c3, bc_f c4]; rfl)
  · skip
    (try (have q3 := (p1.2.2.1 c c1.1.1 c1.1.2).1)); (try (have q4 := (p1.2.2.1 e c1.2.1 c1.2.2).1)); (try simp (disch := omega) only [fat_in, w32_0, w32_id] at c1); (try simp only [w32_0, wbc0, Classical.not_not] at c1)
    exact h.2 c1
theorem qtX8_sameness (l : Launch) (hst : l.stackTraces = false) : am_CT l layX qeX8_sameness := am_met1 hst rfl (by decide +kernel) rfl rfl rfl rfl rfl (fun _ _ h => by cases h) rfl (qzX8_sameness l hst) (fun as F A K h => by
  replace h : qsX8_sameness as F A K := h
  unfold qsX8_sameness at h
  split at h
  · rename_i o c e
    refine ⟨by first | exact Nat.le_of_ble_eq_true rfl | simp [am_fl, am_cat], ?_⟩
    replace h := am_cond2 h
    rcases h with ⟨hb, h⟩ | h
    · skip
      have hb0 := hb
      have hb0 := am_bq hb0
      subst hb0
      exact am_way_line (qvX8_sameness_0 c e F A K h)
    exact h.elim
  · exact h.elim)
def qkX8_sharedEnds : Nat → Option CI := fun pc => cond (Nat.ble 96 pc) none (cond (Nat.ble 47 pc) (cond (Nat.ble 71 pc) (cond (Nat.ble 80 pc) (cond (Nat.ble 90 pc) (cond (Nat.ble 94 pc) (cond (Nat.beq pc 94) (some (.iadd, 95, [])) (cond (Nat.beq pc 95) (some (.ireturn, 96, [])) (none))) (cond (Nat.beq pc 90) (some (.goto 4, 93, [94])) (cond (Nat.beq pc 93) (some (.iconst 0, 94, [])) (none)))) (cond (Nat.ble 85 pc) (cond (Nat.beq pc 85) (some (.ifCond .eq 8, 88, [93])) (cond (Nat.beq pc 88) (some (.bipush 8, 90, [])) (none))) (cond (Nat.beq pc 80) (some (.iload 4, 82, [])) (cond (Nat.beq pc 82) (some (.invokevirtual 309, 85, [])) (none))))) (cond (Nat.ble 76 pc) (cond (Nat.ble 78 pc) (cond (Nat.beq pc 78) (some (.iload_n 3, 79, [])) (cond (Nat.beq pc 79) (some (.iload_n 2, 80, [])) (none))) (cond (Nat.beq pc 76) (some (.aload_n 0, 77, [])) (cond (Nat.beq pc 77) (some (.iload_n 1, 78, [])) (none)))) (cond (Nat.beq pc 71) (some (.goto 4, 74, [75])) (cond (Nat.beq pc 74) (some (.iconst 0, 75, [])) (cond (Nat.beq pc 75) (some (.iadd, 76, [])) (none)))))) (cond (Nat.ble 60 pc) (cond (Nat.ble 63 pc) (cond (Nat.ble 67 pc) (cond (Nat.beq pc 67) (some (.ifCond .eq 7, 70, [74])) (cond (Nat.beq pc 70) (some (.iconst 4, 71, [])) (none))) (cond (Nat.beq pc 63) (some (.iconst 0, 64, [])) (cond (Nat.beq pc 64) (some (.invokevirtual 309, 67, [])) (none)))) (cond (Nat.beq pc 60) (some (.iload_n 1, 61, [])) (cond (Nat.beq pc 61) (some (.iload_n 3, 62, [])) (cond (Nat.beq pc 62) (some (.iload_n 2, 63, [])) (none))))) (cond (Nat.ble 54 pc) (cond (Nat.ble 58 pc) (cond (Nat.beq pc 58) (some (.iadd, 59, [])) (cond (Nat.beq pc 59) (some (.aload_n 0, 60, [])) (none))) (cond (Nat.beq pc 54) (some (.goto 4, 57, [58])) (cond (Nat.beq pc 57) (some (.iconst 0, 58, [])) (none)))) (cond (Nat.beq pc 47) (some (.invokevirtual 309, 50, [])) (cond (Nat.beq pc 50) (some (.ifCond .eq 7, 53, [57])) (cond (Nat.beq pc 53) (some (.iconst 2, 54, [])) (none))))))) (cond (Nat.ble 25 pc) (cond (Nat.ble 36 pc) (cond (Nat.ble 42 pc) (cond (Nat.ble 44 pc) (cond (Nat.beq pc 44) (some (.iload_n 2, 45, [])) (cond (Nat.beq pc 45) (some (.iload 4, 47, [])) (none))) (cond (Nat.beq pc 42) (some (.iload_n 1, 43, [])) (cond (Nat.beq pc 43) (some (.iconst 0, 44, [])) (none)))) (cond (Nat.ble 40 pc) (cond (Nat.beq pc 40) (some (.iconst 0, 41, [])) (cond (Nat.beq pc 41) (some (.aload_n 0, 42, [])) (none))) (cond (Nat.beq pc 36) (some (.iconst 1, 37, [])) (cond (Nat.beq pc 37) (some (.goto 4, 40, [41])) (none))))) (cond (Nat.ble 28 pc) (cond (Nat.ble 30 pc) (cond (Nat.beq pc 30) (some (.invokevirtual 309, 33, [])) (cond (Nat.beq pc 33) (some (.ifCond .eq 7, 36, [40])) (none))) (cond (Nat.beq pc 28) (some (.iload_n 2, 29, [])) (cond (Nat.beq pc 29) (some (.iconst 0, 30, [])) (none)))) (cond (Nat.beq pc 25) (some (.aload_n 0, 26, [])) (cond (Nat.beq pc 26) (some (.iload_n 1, 27, [])) (cond (Nat.beq pc 27) (some (.iconst 0, 28, [])) (none)))))) (cond (Nat.ble 11 pc) (cond (Nat.ble 16 pc) (cond (Nat.ble 20 pc) (cond (Nat.beq pc 20) (some (.invokevirtual 126, 23, [])) (cond (Nat.beq pc 23) (some (.istore 4, 25, [])) (none))) (cond (Nat.beq pc 16) (some (.getfield 10, 19, [])) (cond (Nat.beq pc 19) (some (.iload_n 2, 20, [])) (none)))) (cond (Nat.beq pc 11) (some (.invokevirtual 126, 14, [])) (cond (Nat.beq pc 14) (some (.istore_n 3, 15, [])) (cond (Nat.beq pc 15) (some (.aload_n 0, 16, [])) (none))))) (cond (Nat.ble 3 pc) (cond (Nat.ble 7 pc) (cond (Nat.beq pc 7) (some (.getfield 10, 10, [])) (cond (Nat.beq pc 10) (some (.iload_n 1, 11, [])) (none))) (cond (Nat.beq pc 3) (some (.invokevirtual 263, 6, [])) (cond (Nat.beq pc 6) (some (.aload_n 0, 7, [])) (none)))) (cond (Nat.beq pc 0) (some (.aload_n 0, 1, [])) (cond (Nat.beq pc 1) (some (.iload_n 1, 2, [])) (cond (Nat.beq pc 2) (some (.iload_n 2, 3, [])) (none))))))))
theorem qkX8_sharedEnds_ok : ∀ pc i nx ts, qkX8_sharedEnds pc = some (i, nx, ts) → am_cok cX8_sharedEnds pc (i, nx, ts) = true := fun pc i nx ts h => am_tok_ok (n := 96) (by decide +kernel) (fun pc h => by show cond (Nat.ble 96 pc) _ _ = _; rw [Nat.ble_eq_true_of_le h]; rfl) h
def qaX8_sharedEnds : Nat → Option CE := fun k => cond (Nat.beq k 263) (some qeX8_requireCurves) (cond (Nat.beq k 126) (some qeX2_top) (cond (Nat.beq k 309) (some qeX8_isSamePlace) (none)))
theorem qyX8_sharedEnds (l : Launch) (hst : l.stackTraces = false) : ∀ k e1, qaX8_sharedEnds k = some e1 → am_cal l layX RX8 11 k e1 ∧ True := q_cons ⟨am_calV (ci := 8) (qtX8_requireCurves l hst) qbX8_requireCurves (by decide) rfl (am_tb_at 1222 (by decide +kernel) rfl), trivial⟩ (q_cons ⟨am_calV (ci := 2) (qtX2_top l) qbX2_top (by decide) rfl (am_tb_at 784 (by decide +kernel) rfl), trivial⟩ (q_cons ⟨am_calV (ci := 8) (qtX8_isSamePlace l) qbX8_isSamePlace (by decide) rfl (am_tb_at 1343 (by decide +kernel) rfl), trivial⟩ (q_nil)))
def qxX8_sharedEnds : CX := (qkX8_sharedEnds, layX, qfX8, qaX8_sharedEnds, qcX8, qlX8, qmX8, (some .int), true, none, 2, none, fun _ => none)
theorem qzX8_sharedEnds (l : Launch) (hst : l.stackTraces = false) : am_sta l qxX8_sharedEnds RX8 11 cX8_sharedEnds := ⟨qkX8_sharedEnds_ok, layX_ok, qfX8_ok, qcX8_ok, qlX8_ok, am_mthP qmX8_ok (by decide), fun k e1 h => (qyX8_sharedEnds l hst k e1 h).1⟩
def qsX8_sharedEnds : SP := fun as F A K => match as with
  | [.inr (.inr o), .inl c, .inl e] => cond (Nat.beq o 0) ((fgOK (A 2) ∧ (-2147483648 ≤ c ∧ c < 2147483648) ∧ (-2147483648 ≤ e ∧ e < 2147483648)) ∧ (((0 ≤ c ∧ c < A 2 0) ∧ 0 ≤ e ∧ e < A 2 0 → (K (some (some (vI (bi (w32 (pxF (A 2) c 0 0) = w32 (pxF (A 2) e 0 0) ∧ w32 (pxF (A 2) c 0 1) = w32 (pxF (A 2) e 0 1)) + 2 * bi (w32 (pxF (A 2) c 0 0) = w32 (pxF (A 2) e (A 2 (18 + e) - 1) 0) ∧ w32 (pxF (A 2) c 0 1) = w32 (pxF (A 2) e (A 2 (18 + e) - 1) 1)) + 4 * bi (w32 (pxF (A 2) c (A 2 (18 + c) - 1) 0) = w32 (pxF (A 2) e 0 0) ∧ w32 (pxF (A 2) c (A 2 (18 + c) - 1) 1) = w32 (pxF (A 2) e 0 1)) + 8 * bi (w32 (pxF (A 2) c (A 2 (18 + c) - 1) 0) = w32 (pxF (A 2) e (A 2 (18 + e) - 1) 0) ∧ w32 (pxF (A 2) c (A 2 (18 + c) - 1) 1) = w32 (pxF (A 2) e (A 2 (18 + e) - 1) 1)))))) F A)) ∧ (¬ ((0 ≤ c ∧ c < A 2 0) ∧ 0 ≤ e ∧ e < A 2 0) → (K none F A)))) (False)
  | _ => False
def qeX8_sharedEnds : CE := (yX8_sharedEnds, cX8_sharedEnds, 5, (some .int), 2, some 8, 1, [], 2, 11, qsX8_sharedEnds)
theorem qbX8_sharedEnds : am_mb qeX8_sharedEnds := ⟨am_tb_at 1353 (by decide +kernel) rfl, am_tb_at 114 (by decide +kernel) rfl, ⟨by decide, by decide, by decide +kernel⟩, by decide, by decide, am_tb_at 1351 (by decide +kernel) rfl, am_tb_at 1352 (by decide +kernel) rfl, _, _, rfl⟩
set_option maxRecDepth 20000 in
theorem qvX8_sharedEnds_0 (c : Int) (e : Int) (F : FF) (A : AA) (K : KK) (h : (fgOK (A 2) ∧ (-2147483648 ≤ c ∧ c < 2147483648) ∧ (-2147483648 ≤ e ∧ e < 2147483648)) ∧ (((0 ≤ c ∧ c < A 2 0) ∧ 0 ≤ e ∧ e < A 2 0 → (K (some (some (vI (bi (w32 (pxF (A 2) c 0 0) = w32 (pxF (A 2) e 0 0) ∧ w32 (pxF (A 2) c 0 1) = w32 (pxF (A 2) e 0 1)) + 2 * bi (w32 (pxF (A 2) c 0 0) = w32 (pxF (A 2) e (A 2 (18 + e) - 1) 0) ∧ w32 (pxF (A 2) c 0 1) = w32 (pxF (A 2) e (A 2 (18 + e) - 1) 1)) + 4 * bi (w32 (pxF (A 2) c (A 2 (18 + c) - 1) 0) = w32 (pxF (A 2) e 0 0) ∧ w32 (pxF (A 2) c (A 2 (18 + c) - 1) 1) = w32 (pxF (A 2) e 0 1)) + 8 * bi (w32 (pxF (A 2) c (A 2 (18 + c) - 1) 0) = w32 (pxF (A 2) e (A 2 (18 + e) - 1) 0) ∧ w32 (pxF (A 2) c (A 2 (18 + c) - 1) 1) = w32 (pxF (A 2) e (A 2 (18 + e) - 1) 1)))))) F A)) ∧ (¬ ((0 ≤ c ∧ c < A 2 0) ∧ 0 ≤ e ∧ e < A 2 0) → (K none F A)))) : am_line qxX8_sharedEnds 55 [vR 0, vI c, vI e] 5 F A K := by
  show am_stp qxX8_sharedEnds (am_run qxX8_sharedEnds (fun _ => none) (fun _ _ _ _ _ _ => False) K 55) K 0 [some (vR 0), some (vI c), some (vI e), none, none] [] F A 0
  obtain ⟨hp, h⟩ := h
  have p1 := hp.1
  have p2' := hp.2
  have q1 := p1.1.1
  have q2 := p1.1.2
  show ((0 ≤ A 2 0 ∧ A 2 0 ≤ 8) ∧ (0 ≤ A 2 1 ∧ A 2 1 ≤ 6) ∧ (-2147483648 ≤ c ∧ c < 2147483648) ∧ (-2147483648 ≤ e ∧ e < 2147483648)) ∧ (((0 ≤ c ∧ c < A 2 0) ∧ 0 ≤ e ∧ e < A 2 0 → (((0 ≤ c ∧ c < 8 ∧ 0 ≤ 0 ∧ 0 < 4) ∧ (0 ≤ e ∧ e < 8 ∧ 0 ≤ 0 ∧ 0 < 4)) ∧ ((w32 (bi (w32 (pxF (A 2) c 0 0) = w32 (pxF (A 2) e 0 0) ∧ w32 (pxF (A 2) c 0 1) = w32 (pxF (A 2) e 0 1))) = w32 0 → (((0 ≤ c ∧ c < 8 ∧ 0 ≤ 0 ∧ 0 < 4) ∧ (0 ≤ e ∧ e < 8 ∧ 0 ≤ (fat (A 2) (18 + e) - 1) ∧ (fat (A 2) (18 + e) - 1) < 4)) ∧ ((w32 (bi (w32 (pxF (A 2) c 0 0) = w32 (pxF (A 2) e (fat (A 2) (18 + e) - 1) 0) ∧ w32 (pxF (A 2) c 0 1) = w32 (pxF (A 2) e (fat (A 2) (18 + e) - 1) 1))) = w32 0 → (((0 ≤ c ∧ c < 8 ∧ 0 ≤ (fat (A 2) (18 + c) - 1) ∧ (fat (A 2) (18 + c) - 1) < 4) ∧ (0 ≤ e ∧ e < 8 ∧ 0 ≤ 0 ∧ 0 < 4)) ∧ ((w32 (bi (w32 (pxF (A 2) c (fat (A 2) (18 + c) - 1) 0) = w32 (pxF (A 2) e 0 0) ∧ w32 (pxF (A 2) c (fat (A 2) (18 + c) - 1) 1) = w32 (pxF (A 2) e 0 1))) = w32 0 → (((0 ≤ c ∧ c < 8 ∧ 0 ≤ (fat (A 2) (18 + c) - 1) ∧ (fat (A 2) (18 + c) - 1) < 4) ∧ (0 ≤ e ∧ e < 8 ∧ 0 ≤ (fat (A 2) (18 + e) - 1) ∧ (fat (A 2) (18 + e) - 1) < 4)) ∧ ((w32 (bi (w32 (pxF (A 2) c (fat (A 2) (18 + c) - 1) 0) = w32 (pxF (A 2) e (fat (A 2) (18 + e) - 1) 0) ∧ w32 (pxF (A 2) c (fat (A 2) (18 + c) - 1) 1) = w32 (pxF (A 2) e (fat (A 2) (18 + e) - 1) 1))) = w32 0 → (K (some (some (vI 0))) F A)) ∧ (¬ (w32 (bi (w32 (pxF (A 2) c (fat (A 2) (18 + c) - 1) 0) = w32 (pxF (A 2) e (fat (A 2) (18 + e) - 1) 0) ∧ w32 (pxF (A 2) c (fat (A 2) (18 + c) - 1) 1) = w32 (pxF (A 2) e (fat (A 2) (18 + e) - 1) 1))) = w32 0) → (K (some (some (vI 8))) F A))))) ∧ (¬ (w32 (bi (w32 (pxF (A 2) c (fat (A 2) (18 + c) - 1) 0) = w32 (pxF (A 2) e 0 0) ∧ w32 (pxF (A 2) c (fat (A 2) (18 + c) - 1) 1) = w32 (pxF (A 2) e 0 1))) = w32 0) → (((0 ≤ c ∧ c < 8 ∧ 0 ≤ (fat (A 2) (18 + c) - 1) ∧ (fat (A 2) (18 + c) - 1) < 4) ∧ (0 ≤ e ∧ e < 8 ∧ 0 ≤ (fat (A 2) (18 + e) - 1) ∧ (fat (A 2) (18 + e) - 1) < 4)) ∧ ((w32 (bi (w32 (pxF (A 2) c (fat (A 2) (18 + c) - 1) 0) = w32 (pxF (A 2) e (fat (A 2) (18 + e) - 1) 0) ∧ w32 (pxF (A 2) c (fat (A 2) (18 + c) - 1) 1) = w32 (pxF (A 2) e (fat (A 2) (18 + e) - 1) 1))) = w32 0 → (K (some (some (vI 4))) F A)) ∧ (¬ (w32 (bi (w32 (pxF (A 2) c (fat (A 2) (18 + c) - 1) 0) = w32 (pxF (A 2) e (fat (A 2) (18 + e) - 1) 0) ∧ w32 (pxF (A 2) c (fat (A 2) (18 + c) - 1) 1) = w32 (pxF (A 2) e (fat (A 2) (18 + e) - 1) 1))) = w32 0) → (K (some (some (vI 12))) F A)))))))) ∧ (¬ (w32 (bi (w32 (pxF (A 2) c 0 0) = w32 (pxF (A 2) e (fat (A 2) (18 + e) - 1) 0) ∧ w32 (pxF (A 2) c 0 1) = w32 (pxF (A 2) e (fat (A 2) (18 + e) - 1) 1))) = w32 0) → (((0 ≤ c ∧ c < 8 ∧ 0 ≤ (fat (A 2) (18 + c) - 1) ∧ (fat (A 2) (18 + c) - 1) < 4) ∧ (0 ≤ e ∧ e < 8 ∧ 0 ≤ 0 ∧ 0 < 4)) ∧ ((w32 (bi (w32 (pxF (A 2) c (fat (A 2) (18 + c) - 1) 0) = w32 (pxF (A 2) e 0 0) ∧ w32 (pxF (A 2) c (fat (A 2) (18 + c) - 1) 1) = w32 (pxF (A 2) e 0 1))) = w32 0 → (((0 ≤ c ∧ c < 8 ∧ 0 ≤ (fat (A 2) (18 + c) - 1) ∧ (fat (A 2) (18 + c) - 1) < 4) ∧ (0 ≤ e ∧ e < 8 ∧ 0 ≤ (fat (A 2) (18 + e) - 1) ∧ (fat (A 2) (18 + e) - 1) < 4)) ∧ ((w32 (bi (w32 (pxF (A 2) c (fat (A 2) (18 + c) - 1) 0) = w32 (pxF (A 2) e (fat (A 2) (18 + e) - 1) 0) ∧ w32 (pxF (A 2) c (fat (A 2) (18 + c) - 1) 1) = w32 (pxF (A 2) e (fat (A 2) (18 + e) - 1) 1))) = w32 0 → (K (some (some (vI 2))) F A)) ∧ (¬ (w32 (bi (w32 (pxF (A 2) c (fat (A 2) (18 + c) - 1) 0) = w32 (pxF (A 2) e (fat (A 2) (18 + e) - 1) 0) ∧ w32 (pxF (A 2) c (fat (A 2) (18 + c) - 1) 1) = w32 (pxF (A 2) e (fat (A 2) (18 + e) - 1) 1))) = w32 0) → (K (some (some (vI 10))) F A))))) ∧ (¬ (w32 (bi (w32 (pxF (A 2) c (fat (A 2) (18 + c) - 1) 0) = w32 (pxF (A 2) e 0 0) ∧ w32 (pxF (A 2) c (fat (A 2) (18 + c) - 1) 1) = w32 (pxF (A 2) e 0 1))) = w32 0) → (((0 ≤ c ∧ c < 8 ∧ 0 ≤ (fat (A 2) (18 + c) - 1) ∧ (fat (A 2) (18 + c) - 1) < 4) ∧ (0 ≤ e ∧ e < 8 ∧ 0 ≤ (fat (A 2) (18 + e) - 1) ∧ (fat (A 2) (18 + e) - 1) < 4)) ∧ ((w32 (bi (w32 (pxF (A 2) c (fat (A 2) (18 + c) - 1) 0) = w32 (pxF (A 2) e (fat (A 2) (18 + e) - 1) 0) ∧ w32 (pxF (A 2) c (fat (A 2) (18 + c) - 1) 1) = w32 (pxF (A 2) e (fat (A 2) (18 + e) - 1) 1))) = w32 0 → (K (some (some (vI 6))) F A)) ∧ (¬ (w32 (bi (w32 (pxF (A 2) c (fat (A 2) (18 + c) - 1) 0) = w32 (pxF (A 2) e (fat (A 2) (18 + e) - 1) 0) ∧ w32 (pxF (A 2) c (fat (A 2) (18 + c) - 1) 1) = w32 (pxF (A 2) e (fat (A 2) (18 + e) - 1) 1))) = w32 0) → (K (some (some (vI 14))) F A))))))))))) ∧ (¬ (w32 (bi (w32 (pxF (A 2) c 0 0) = w32 (pxF (A 2) e 0 0) ∧ w32 (pxF (A 2) c 0 1) = w32 (pxF (A 2) e 0 1))) = w32 0) → (((0 ≤ c ∧ c < 8 ∧ 0 ≤ 0 ∧ 0 < 4) ∧ (0 ≤ e ∧ e < 8 ∧ 0 ≤ (fat (A 2) (18 + e) - 1) ∧ (fat (A 2) (18 + e) - 1) < 4)) ∧ ((w32 (bi (w32 (pxF (A 2) c 0 0) = w32 (pxF (A 2) e (fat (A 2) (18 + e) - 1) 0) ∧ w32 (pxF (A 2) c 0 1) = w32 (pxF (A 2) e (fat (A 2) (18 + e) - 1) 1))) = w32 0 → (((0 ≤ c ∧ c < 8 ∧ 0 ≤ (fat (A 2) (18 + c) - 1) ∧ (fat (A 2) (18 + c) - 1) < 4) ∧ (0 ≤ e ∧ e < 8 ∧ 0 ≤ 0 ∧ 0 < 4)) ∧ ((w32 (bi (w32 (pxF (A 2) c (fat (A 2) (18 + c) - 1) 0) = w32 (pxF (A 2) e 0 0) ∧ w32 (pxF (A 2) c (fat (A 2) (18 + c) - 1) 1) = w32 (pxF (A 2) e 0 1))) = w32 0 → (((0 ≤ c ∧ c < 8 ∧ 0 ≤ (fat (A 2) (18 + c) - 1) ∧ (fat (A 2) (18 + c) - 1) < 4) ∧ (0 ≤ e ∧ e < 8 ∧ 0 ≤ (fat (A 2) (18 + e) - 1) ∧ (fat (A 2) (18 + e) - 1) < 4)) ∧ ((w32 (bi (w32 (pxF (A 2) c (fat (A 2) (18 + c) - 1) 0) = w32 (pxF (A 2) e (fat (A 2) (18 + e) - 1) 0) ∧ w32 (pxF (A 2) c (fat (A 2) (18 + c) - 1) 1) = w32 (pxF (A 2) e (fat (A 2) (18 + e) - 1) 1))) = w32 0 → (K (some (some (vI 1))) F A)) ∧ (¬ (w32 (bi (w32 (pxF (A 2) c (fat (A 2) (18 + c) - 1) 0) = w32 (pxF (A 2) e (fat (A 2) (18 + e) - 1) 0) ∧ w32 (pxF (A 2) c (fat (A 2) (18 + c) - 1) 1) = w32 (pxF (A 2) e (fat (A 2) (18 + e) - 1) 1))) = w32 0) → (K (some (some (vI 9))) F A))))) ∧ (¬ (w32 (bi (w32 (pxF (A 2) c (fat (A 2) (18 + c) - 1) 0) = w32 (pxF (A 2) e 0 0) ∧ w32 (pxF (A 2) c (fat (A 2) (18 + c) - 1) 1) = w32 (pxF (A 2) e 0 1))) = w32 0) → (((0 ≤ c ∧ c < 8 ∧ 0 ≤ (fat (A 2) (18 + c) - 1) ∧ (fat (A 2) (18 + c) - 1) < 4) ∧ (0 ≤ e ∧ e < 8 ∧ 0 ≤ (fat (A 2) (18 + e) - 1) ∧ (fat (A 2) (18 + e) - 1) < 4)) ∧ ((w32 (bi (w32 (pxF (A 2) c (fat (A 2) (18 + c) - 1) 0) = w32 (pxF (A 2) e (fat (A 2) (18 + e) - 1) 0) ∧ w32 (pxF (A 2) c (fat (A 2) (18 + c) - 1) 1) = w32 (pxF (A 2) e (fat (A 2) (18 + e) - 1) 1))) = w32 0 → (K (some (some (vI 5))) F A)) ∧ (¬ (w32 (bi (w32 (pxF (A 2) c (fat (A 2) (18 + c) - 1) 0) = w32 (pxF (A 2) e (fat (A 2) (18 + e) - 1) 0) ∧ w32 (pxF (A 2) c (fat (A 2) (18 + c) - 1) 1) = w32 (pxF (A 2) e (fat (A 2) (18 + e) - 1) 1))) = w32 0) → (K (some (some (vI 13))) F A)))))))) ∧ (¬ (w32 (bi (w32 (pxF (A 2) c 0 0) = w32 (pxF (A 2) e (fat (A 2) (18 + e) - 1) 0) ∧ w32 (pxF (A 2) c 0 1) = w32 (pxF (A 2) e (fat (A 2) (18 + e) - 1) 1))) = w32 0) → (((0 ≤ c ∧ c < 8 ∧ 0 ≤ (fat (A 2) (18 + c) - 1) ∧ (fat (A 2) (18 + c) - 1) < 4) ∧ (0 ≤ e ∧ e < 8 ∧ 0 ≤ 0 ∧ 0 < 4)) ∧ ((w32 (bi (w32 (pxF (A 2) c (fat (A 2) (18 + c) - 1) 0) = w32 (pxF (A 2) e 0 0) ∧ w32 (pxF (A 2) c (fat (A 2) (18 + c) - 1) 1) = w32 (pxF (A 2) e 0 1))) = w32 0 → (((0 ≤ c ∧ c < 8 ∧ 0 ≤ (fat (A 2) (18 + c) - 1) ∧ (fat (A 2) (18 + c) - 1) < 4) ∧ (0 ≤ e ∧ e < 8 ∧ 0 ≤ (fat (A 2) (18 + e) - 1) ∧ (fat (A 2) (18 + e) - 1) < 4)) ∧ ((w32 (bi (w32 (pxF (A 2) c (fat (A 2) (18 + c) - 1) 0) = w32 (pxF (A 2) e (fat (A 2) (18 + e) - 1) 0) ∧ w32 (pxF (A 2) c (fat (A 2) (18 + c) - 1) 1) = w32 (pxF (A 2) e (fat (A 2) (18 + e) - 1) 1))) = w32 0 → (K (some (some (vI 3))) F A)) ∧ (¬ (w32 (bi (w32 (pxF (A 2) c (fat (A 2) (18 + c) - 1) 0) = w32 (pxF (A 2) e (fat (A 2) (18 + e) - 1) 0) ∧ w32 (pxF (A 2) c (fat (A 2) (18 + c) - 1) 1) = w32 (pxF (A 2) e (fat (A 2) (18 + e) - 1) 1))) = w32 0) → (K (some (some (vI 11))) F A))))) ∧ (¬ (w32 (bi (w32 (pxF (A 2) c (fat (A 2) (18 + c) - 1) 0) = w32 (pxF (A 2) e 0 0) ∧ w32 (pxF (A 2) c (fat (A 2) (18 + c) - 1) 1) = w32 (pxF (A 2) e 0 1))) = w32 0) → (((0 ≤ c ∧ c < 8 ∧ 0 ≤ (fat (A 2) (18 + c) - 1) ∧ (fat (A 2) (18 + c) - 1) < 4) ∧ (0 ≤ e ∧ e < 8 ∧ 0 ≤ (fat (A 2) (18 + e) - 1) ∧ (fat (A 2) (18 + e) - 1) < 4)) ∧ ((w32 (bi (w32 (pxF (A 2) c (fat (A 2) (18 + c) - 1) 0) = w32 (pxF (A 2) e (fat (A 2) (18 + e) - 1) 0) ∧ w32 (pxF (A 2) c (fat (A 2) (18 + c) - 1) 1) = w32 (pxF (A 2) e (fat (A 2) (18 + e) - 1) 1))) = w32 0 → (K (some (some (vI 7))) F A)) ∧ (¬ (w32 (bi (w32 (pxF (A 2) c (fat (A 2) (18 + c) - 1) 0) = w32 (pxF (A 2) e (fat (A 2) (18 + e) - 1) 0) ∧ w32 (pxF (A 2) c (fat (A 2) (18 + c) - 1) 1) = w32 (pxF (A 2) e (fat (A 2) (18 + e) - 1) 1))) = w32 0) → (K (some (some (vI 15))) F A)))))))))))))) ∧ (¬ ((0 ≤ c ∧ c < A 2 0) ∧ 0 ≤ e ∧ e < A 2 0) → (K none F A)))
  refine ⟨by exact ⟨p1.1.1, p1.1.2, hp.2.1, hp.2.2⟩, ?_⟩
  refine ⟨fun c1 => ?_, fun c1 => ?_⟩
  · skip
    (try (have q3 := (p1.2.2.1 c c1.1.1 c1.1.2).1)); (try (have q4 := (p1.2.2.1 e c1.2.1 c1.2.2).1)); (try simp (disch := omega) only [fat_in, w32_0, wbi0, Classical.not_not, w32_id] at c1)
    refine ⟨by (have q3 := (p1.2.2.1 c c1.1.1 c1.1.2).1; have q4 := (p1.2.2.1 e c1.2.1 c1.2.2).1; (try simp (disch := omega) only [fat_in]); exact ⟨⟨by omega, by omega, by omega, by omega⟩, by omega, by omega, by omega, by omega⟩), ?_⟩
    refine ⟨fun c2 => ?_, fun c2 => ?_⟩
    · skip
      (try (have q3 := (p1.2.2.1 c c1.1.1 c1.1.2).1)); (try (have q4 := (p1.2.2.1 e c1.2.1 c1.2.2).1)); (try simp (disch := omega) only [fat_in, w32_0, wbi0, Classical.not_not, w32_id] at c2)
      refine ⟨by (have q3 := (p1.2.2.1 c c1.1.1 c1.1.2).1; have q4 := (p1.2.2.1 e c1.2.1 c1.2.2).1; (try simp (disch := omega) only [fat_in]); exact ⟨⟨by omega, by omega, by omega, by omega⟩, by omega, by omega, by omega, by omega⟩), ?_⟩
      refine ⟨fun c3 => ?_, fun c3 => ?_⟩
      · skip
        (try (have q3 := (p1.2.2.1 c c1.1.1 c1.1.2).1)); (try (have q4 := (p1.2.2.1 e c1.2.1 c1.2.2).1)); (try simp (disch := omega) only [fat_in, w32_0, wbi0, Classical.not_not, w32_id] at c3)
        refine ⟨by (have q3 := (p1.2.2.1 c c1.1.1 c1.1.2).1; have q4 := (p1.2.2.1 e c1.2.1 c1.2.2).1; (try simp (disch := omega) only [fat_in]); exact ⟨⟨by omega, by omega, by omega, by omega⟩, by omega, by omega, by omega, by omega⟩), ?_⟩
        refine ⟨fun c4 => ?_, fun c4 => ?_⟩
        · skip
          (try (have q3 := (p1.2.2.1 c c1.1.1 c1.1.2).1)); (try (have q4 := (p1.2.2.1 e c1.2.1 c1.2.2).1)); (try simp (disch := omega) only [fat_in, w32_0, wbi0, Classical.not_not, w32_id] at c4)
          refine ⟨by (have q3 := (p1.2.2.1 c c1.1.1 c1.1.2).1; have q4 := (p1.2.2.1 e c1.2.1 c1.2.2).1; (try simp (disch := omega) only [fat_in]); exact ⟨⟨by omega, by omega, by omega, by omega⟩, by omega, by omega, by omega, by omega⟩), ?_⟩
          refine ⟨fun c5 => ?_, fun c5 => ?_⟩
          · skip
            (try (have q3 := (p1.2.2.1 c c1.1.1 c1.1.2).1)); (try (have q4 := (p1.2.2.1 e c1.2.1 c1.2.2).1)); (try simp (disch := omega) only [fat_in, w32_0, wbi0, Classical.not_not, w32_id] at c5)
            first
            | exact K_eq (h.1 c1) (by rw [bi_t c2, bi_t c3, bi_t c4, bi_t c5]; rfl)
            | exact K_eq (h.1 c1) (by rw [bi_t c2, bi_t c3, bi_t c4, bi_f c5]; rfl)
            | exact K_eq (h.1 c1) (by rw [bi_t c2, bi_t c3, bi_f c4, bi_t c5]; rfl)
            | exact K_eq (h.1 c1) (by rw [bi_t c2, bi_t c3, bi_f c4, bi_f c5]; rfl)
            | exact K_eq (h.1 c1) (by rw [bi_t c2, bi_f c3, bi_t c4, bi_t c5]; rfl)
            | exact K_eq (h.1 c1) (by rw [bi_t c2, bi_f c3, bi_t c4, bi_f c5]; rfl)
            | exact K_eq (h.1 c1) (by rw [bi_t c2, bi_f c3, bi_f c4, bi_t c5]; rfl)
            | exact K_eq (h.1 c1) (by rw [bi_t c2, bi_f c3, bi_f c4, bi_f c5]; rfl)
            | exact K_eq (h.1 c1) (by rw [bi_f c2, bi_t c3, bi_t c4, bi_t c5]; rfl)
            | exact K_eq (h.1 c1) (by rw [bi_f c2, bi_t c3, bi_t c4, bi_f c5]; rfl)
            | exact K_eq (h.1 c1) (by rw [bi_f c2, bi_t c3, bi_f c4, bi_t c5]; rfl)
            | exact K_eq (h.1 c1) (by rw [bi_f c2, bi_t c3, bi_f c4, bi_f c5]; rfl)
            | exact K_eq (h.1 c1) (by rw [bi_f c2, bi_f c3, bi_t c4, bi_t c5]; rfl)
            | exact K_eq (h.1 c1) (by rw [bi_f c2, bi_f c3, bi_t c4, bi_f c5]; rfl)
            | exact K_eq (h.1 c1) (by rw [bi_f c2, bi_f c3, bi_f c4, bi_t c5]; rfl)
            | exact K_eq (h.1 c1) (by rw [bi_f c2, bi_f c3, bi_f c4, bi_f c5]; rfl)
          · skip
            (try (have q3 := (p1.2.2.1 c c1.1.1 c1.1.2).1)); (try (have q4 := (p1.2.2.1 e c1.2.1 c1.2.2).1)); (try simp (disch := omega) only [fat_in, w32_0, wbi0, Classical.not_not, w32_id] at c5)
            first
            | exact K_eq (h.1 c1) (by rw [bi_t c2, bi_t c3, bi_t c4, bi_t c5]; rfl)
            | exact K_eq (h.1 c1) (by rw [bi_t c2, bi_t c3, bi_t c4, bi_f c5]; rfl)
            | exact K_eq (h.1 c1) (by rw [bi_t c2, bi_t c3, bi_f c4, bi_t c5]; rfl)
            | exact K_eq (h.1 c1) (by rw [bi_t c2, bi_t c3, bi_f c4, bi_f c5]; rfl)
            | exact K_eq (h.1 c1) (by rw [bi_t c2, bi_f c3, bi_t c4, bi_t c5]; rfl)
            | exact K_eq (h.1 c1) (by rw [bi_t c2, bi_f c3, bi_t c4, bi_f c5]; rfl)
            | exact K_eq (h.1 c1) (by rw [bi_t c2, bi_f c3, bi_f c4, bi_t c5]; rfl)
            | exact K_eq (h.1 c1) (by rw [bi_t c2, bi_f c3, bi_f c4, bi_f c5]; rfl)
            | exact K_eq (h.1 c1) (by rw [bi_f c2, bi_t c3, bi_t c4, bi_t c5]; rfl)
            | exact K_eq (h.1 c1) (by rw [bi_f c2, bi_t c3, bi_t c4, bi_f c5]; rfl)
            | exact K_eq (h.1 c1) (by rw [bi_f c2, bi_t c3, bi_f c4, bi_t c5]; rfl)
            | exact K_eq (h.1 c1) (by rw [bi_f c2, bi_t c3, bi_f c4, bi_f c5]; rfl)
            | exact K_eq (h.1 c1) (by rw [bi_f c2, bi_f c3, bi_t c4, bi_t c5]; rfl)
            | exact K_eq (h.1 c1) (by rw [bi_f c2, bi_f c3, bi_t c4, bi_f c5]; rfl)
            | exact K_eq (h.1 c1) (by rw [bi_f c2, bi_f c3, bi_f c4, bi_t c5]; rfl)
            | exact K_eq (h.1 c1) (by rw [bi_f c2, bi_f c3, bi_f c4, bi_f c5]; rfl)
        · skip
          (try (have q3 := (p1.2.2.1 c c1.1.1 c1.1.2).1)); (try (have q4 := (p1.2.2.1 e c1.2.1 c1.2.2).1)); (try simp (disch := omega) only [fat_in, w32_0, wbi0, Classical.not_not, w32_id] at c4)
          refine ⟨by (have q3 := (p1.2.2.1 c c1.1.1 c1.1.2).1; have q4 := (p1.2.2.1 e c1.2.1 c1.2.2).1; (try simp (disch := omega) only [fat_in]); exact ⟨⟨by omega, by omega, by omega, by omega⟩, by omega, by omega, by omega, by omega⟩), ?_⟩
          refine ⟨fun c5 => ?_, fun c5 => ?_⟩
          · skip
            (try (have q3 := (p1.2.2.1 c c1.1.1 c1.1.2).1)); (try (have q4 := (p1.2.2.1 e c1.2.1 c1.2.2).1)); (try simp (disch := omega) only [fat_in, w32_0, wbi0, Classical.not_not, w32_id] at c5)
            first
            | exact K_eq (h.1 c1) (by rw [bi_t c2, bi_t c3, bi_t c4, bi_t c5]; rfl)
            | exact K_eq (h.1 c1) (by rw [bi_t c2, bi_t c3, bi_t c4, bi_f c5]; rfl)
            | exact K_eq (h.1 c1) (by rw [bi_t c2, bi_t c3, bi_f c4, bi_t c5]; rfl)
            | exact K_eq (h.1 c1) (by rw [bi_t c2, bi_t c3, bi_f c4, bi_f c5]; rfl)
            | exact K_eq (h.1 c1) (by rw [bi_t c2, bi_f c3, bi_t c4, bi_t c5]; rfl)
            | exact K_eq (h.1 c1) (by rw [bi_t c2, bi_f c3, bi_t c4, bi_f c5]; rfl)
            | exact K_eq (h.1 c1) (by rw [bi_t c2, bi_f c3, bi_f c4, bi_t c5]; rfl)
            | exact K_eq (h.1 c1) (by rw [bi_t c2, bi_f c3, bi_f c4, bi_f c5]; rfl)
            | exact K_eq (h.1 c1) (by rw [bi_f c2, bi_t c3, bi_t c4, bi_t c5]; rfl)
            | exact K_eq (h.1 c1) (by rw [bi_f c2, bi_t c3, bi_t c4, bi_f c5]; rfl)
            | exact K_eq (h.1 c1) (by rw [bi_f c2, bi_t c3, bi_f c4, bi_t c5]; rfl)
            | exact K_eq (h.1 c1) (by rw [bi_f c2, bi_t c3, bi_f c4, bi_f c5]; rfl)
            | exact K_eq (h.1 c1) (by rw [bi_f c2, bi_f c3, bi_t c4, bi_t c5]; rfl)
            | exact K_eq (h.1 c1) (by rw [bi_f c2, bi_f c3, bi_t c4, bi_f c5]; rfl)
            | exact K_eq (h.1 c1) (by rw [bi_f c2, bi_f c3, bi_f c4, bi_t c5]; rfl)
            | exact K_eq (h.1 c1) (by rw [bi_f c2, bi_f c3, bi_f c4, bi_f c5]; rfl)
          · skip
            (try (have q3 := (p1.2.2.1 c c1.1.1 c1.1.2).1)); (try (have q4 := (p1.2.2.1 e c1.2.1 c1.2.2).1)); (try simp (disch := omega) only [fat_in, w32_0, wbi0, Classical.not_not, w32_id] at c5)
            first
            | exact K_eq (h.1 c1) (by rw [bi_t c2, bi_t c3, bi_t c4, bi_t c5]; rfl)
            | exact K_eq (h.1 c1) (by rw [bi_t c2, bi_t c3, bi_t c4, bi_f c5]; rfl)
            | exact K_eq (h.1 c1) (by rw [bi_t c2, bi_t c3, bi_f c4, bi_t c5]; rfl)
            | exact K_eq (h.1 c1) (by rw [bi_t c2, bi_t c3, bi_f c4, bi_f c5]; rfl)
            | exact K_eq (h.1 c1) (by rw [bi_t c2, bi_f c3, bi_t c4, bi_t c5]; rfl)
            | exact K_eq (h.1 c1) (by rw [bi_t c2, bi_f c3, bi_t c4, bi_f c5]; rfl)
            | exact K_eq (h.1 c1) (by rw [bi_t c2, bi_f c3, bi_f c4, bi_t c5]; rfl)
            | exact K_eq (h.1 c1) (by rw [bi_t c2, bi_f c3, bi_f c4, bi_f c5]; rfl)
            | exact K_eq (h.1 c1) (by rw [bi_f c2, bi_t c3, bi_t c4, bi_t c5]; rfl)
            | exact K_eq (h.1 c1) (by rw [bi_f c2, bi_t c3, bi_t c4, bi_f c5]; rfl)
            | exact K_eq (h.1 c1) (by rw [bi_f c2, bi_t c3, bi_f c4, bi_t c5]; rfl)
            | exact K_eq (h.1 c1) (by rw [bi_f c2, bi_t c3, bi_f c4, bi_f c5]; rfl)
            | exact K_eq (h.1 c1) (by rw [bi_f c2, bi_f c3, bi_t c4, bi_t c5]; rfl)
            | exact K_eq (h.1 c1) (by rw [bi_f c2, bi_f c3, bi_t c4, bi_f c5]; rfl)
            | exact K_eq (h.1 c1) (by rw [bi_f c2, bi_f c3, bi_f c4, bi_t c5]; rfl)
            | exact K_eq (h.1 c1) (by rw [bi_f c2, bi_f c3, bi_f c4, bi_f c5]; rfl)
      · skip
        (try (have q3 := (p1.2.2.1 c c1.1.1 c1.1.2).1)); (try (have q4 := (p1.2.2.1 e c1.2.1 c1.2.2).1)); (try simp (disch := omega) only [fat_in, w32_0, wbi0, Classical.not_not, w32_id] at c3)
        refine ⟨by (have q3 := (p1.2.2.1 c c1.1.1 c1.1.2).1; have q4 := (p1.2.2.1 e c1.2.1 c1.2.2).1; (try simp (disch := omega) only [fat_in]); exact ⟨⟨by omega, by omega, by omega, by omega⟩, by omega, by omega, by omega, by omega⟩), ?_⟩
        refine ⟨fun c4 => ?_, fun c4 => ?_⟩
        · skip
          (try (have q3 := (p1.2.2.1 c c1.1.1 c1.1.2).1)); (try (have q4 := (p1.2.2.1 e c1.2.1 c1.2.2).1)); (try simp (disch := omega) only [fat_in, w32_0, wbi0, Classical.not_not, w32_id] at c4)
          refine ⟨by (have q3 := (p1.2.2.1 c c1.1.1 c1.1.2).1; have q4 := (p1.2.2.1 e c1.2.1 c1.2.2).1; (try simp (disch := omega) only [fat_in]); exact ⟨⟨by omega, by omega, by omega, by omega⟩, by omega, by omega, by omega, by omega⟩), ?_⟩
          refine ⟨fun c5 => ?_, fun c5 => ?_⟩
          · skip
            (try (have q3 := (p1.2.2.1 c c1.1.1 c1.1.2).1)); (try (have q4 := (p1.2.2.1 e c1.2.1 c1.2.2).1)); (try simp (disch := omega) only [fat_in, w32_0, wbi0, Classical.not_not, w32_id] at c5)
            first
            | exact K_eq (h.1 c1) (by rw [bi_t c2, bi_t c3, bi_t c4, bi_t c5]; rfl)
            | exact K_eq (h.1 c1) (by rw [bi_t c2, bi_t c3, bi_t c4, bi_f c5]; rfl)
            | exact K_eq (h.1 c1) (by rw [bi_t c2, bi_t c3, bi_f c4, bi_t c5]; rfl)
            | exact K_eq (h.1 c1) (by rw [bi_t c2, bi_t c3, bi_f c4, bi_f c5]; rfl)
            | exact K_eq (h.1 c1) (by rw [bi_t c2, bi_f c3, bi_t c4, bi_t c5]; rfl)
            | exact K_eq (h.1 c1) (by rw [bi_t c2, bi_f c3, bi_t c4, bi_f c5]; rfl)
            | exact K_eq (h.1 c1) (by rw [bi_t c2, bi_f c3, bi_f c4, bi_t c5]; rfl)
            | exact K_eq (h.1 c1) (by rw [bi_t c2, bi_f c3, bi_f c4, bi_f c5]; rfl)
            | exact K_eq (h.1 c1) (by rw [bi_f c2, bi_t c3, bi_t c4, bi_t c5]; rfl)
            | exact K_eq (h.1 c1) (by rw [bi_f c2, bi_t c3, bi_t c4, bi_f c5]; rfl)
            | exact K_eq (h.1 c1) (by rw [bi_f c2, bi_t c3, bi_f c4, bi_t c5]; rfl)
            | exact K_eq (h.1 c1) (by rw [bi_f c2, bi_t c3, bi_f c4, bi_f c5]; rfl)
            | exact K_eq (h.1 c1) (by rw [bi_f c2, bi_f c3, bi_t c4, bi_t c5]; rfl)
            | exact K_eq (h.1 c1) (by rw [bi_f c2, bi_f c3, bi_t c4, bi_f c5]; rfl)
            | exact K_eq (h.1 c1) (by rw [bi_f c2, bi_f c3, bi_f c4, bi_t c5]; rfl)
            | exact K_eq (h.1 c1) (by rw [bi_f c2, bi_f c3, bi_f c4, bi_f c5]; rfl)
          · skip
            (try (have q3 := (p1.2.2.1 c c1.1.1 c1.1.2).1)); (try (have q4 := (p1.2.2.1 e c1.2.1 c1.2.2).1)); (try simp (disch := omega) only [fat_in, w32_0, wbi0, Classical.not_not, w32_id] at c5)
            first
            | exact K_eq (h.1 c1) (by rw [bi_t c2, bi_t c3, bi_t c4, bi_t c5]; rfl)
            | exact K_eq (h.1 c1) (by rw [bi_t c2, bi_t c3, bi_t c4, bi_f c5]; rfl)
            | exact K_eq (h.1 c1) (by rw [bi_t c2, bi_t c3, bi_f c4, bi_t c5]; rfl)
            | exact K_eq (h.1 c1) (by rw [bi_t c2, bi_t c3, bi_f c4, bi_f c5]; rfl)
            | exact K_eq (h.1 c1) (by rw [bi_t c2, bi_f c3, bi_t c4, bi_t c5]; rfl)
            | exact K_eq (h.1 c1) (by rw [bi_t c2, bi_f c3, bi_t c4, bi_f c5]; rfl)
            | exact K_eq (h.1 c1) (by rw [bi_t c2, bi_f c3, bi_f c4, bi_t c5]; rfl)
            | exact K_eq (h.1 c1) (by rw [bi_t c2, bi_f c3, bi_f c4, bi_f c5]; rfl)
            | exact K_eq (h.1 c1) (by rw [bi_f c2, bi_t c3, bi_t c4, bi_t c5]; rfl)
            | exact K_eq (h.1 c1) (by rw [bi_f c2, bi_t c3, bi_t c4, bi_f c5]; rfl)
            | exact K_eq (h.1 c1) (by rw [bi_f c2, bi_t c3, bi_f c4, bi_t c5]; rfl)
            | exact K_eq (h.1 c1) (by rw [bi_f c2, bi_t c3, bi_f c4, bi_f c5]; rfl)
            | exact K_eq (h.1 c1) (by rw [bi_f c2, bi_f c3, bi_t c4, bi_t c5]; rfl)
            | exact K_eq (h.1 c1) (by rw [bi_f c2, bi_f c3, bi_t c4, bi_f c5]; rfl)
            | exact K_eq (h.1 c1) (by rw [bi_f c2, bi_f c3, bi_f c4, bi_t c5]; rfl)
            | exact K_eq (h.1 c1) (by rw [bi_f c2, bi_f c3, bi_f c4, bi_f c5]; rfl)
        · skip
          (try (have q3 := (p1.2.2.1 c c1.1.1 c1.1.2).1)); (try (have q4 := (p1.2.2.1 e c1.2.1 c1.2.2).1)); (try simp (disch := omega) only [fat_in, w32_0, wbi0, Classical.not_not, w32_id] at c4)
          refine ⟨by (have q3 := (p1.2.2.1 c c1.1.1 c1.1.2).1; have q4 := (p1.2.2.1 e c1.2.1 c1.2.2).1; (try simp (disch := omega) only [fat_in]); exact ⟨⟨by omega, by omega, by omega, by omega⟩, by omega, by omega, by omega, by omega⟩), ?_⟩
          refine ⟨fun c5 => ?_, fun c5 => ?_⟩
          · skip
            (try (have q3 := (p1.2.2.1 c c1.1.1 c1.1.2).1)); (try (have q4 := (p1.2.2.1 e c1.2.1 c1.2.2).1)); (try simp (disch := omega) only [fat_in, w32_0, wbi0, Classical.not_not, w32_id] at c5)
            first
            | exact K_eq (h.1 c1) (by rw [bi_t c2, bi_t c3, bi_t c4, bi_t c5]; rfl)
            | exact K_eq (h.1 c1) (by rw [bi_t c2, bi_t c3, bi_t c4, bi_f c5]; rfl)
            | exact K_eq (h.1 c1) (by rw [bi_t c2, bi_t c3, bi_f c4, bi_t c5]; rfl)
            | exact K_eq (h.1 c1) (by rw [bi_t c2, bi_t c3, bi_f c4, bi_f c5]; rfl)
            | exact K_eq (h.1 c1) (by rw [bi_t c2, bi_f c3, bi_t c4, bi_t c5]; rfl)
            | exact K_eq (h.1 c1) (by rw [bi_t c2, bi_f c3, bi_t c4, bi_f c5]; rfl)
            | exact K_eq (h.1 c1) (by rw [bi_t c2, bi_f c3, bi_f c4, bi_t c5]; rfl)
            | exact K_eq (h.1 c1) (by rw [bi_t c2, bi_f c3, bi_f c4, bi_f c5]; rfl)
            | exact K_eq (h.1 c1) (by rw [bi_f c2, bi_t c3, bi_t c4, bi_t c5]; rfl)
            | exact K_eq (h.1 c1) (by rw [bi_f c2, bi_t c3, bi_t c4, bi_f c5]; rfl)
            | exact K_eq (h.1 c1) (by rw [bi_f c2, bi_t c3, bi_f c4, bi_t c5]; rfl)
            | exact K_eq (h.1 c1) (by rw [bi_f c2, bi_t c3, bi_f c4, bi_f c5]; rfl)
            | exact K_eq (h.1 c1) (by rw [bi_f c2, bi_f c3, bi_t c4, bi_t c5]; rfl)
            | exact K_eq (h.1 c1) (by rw [bi_f c2, bi_f c3, bi_t c4, bi_f c5]; rfl)
            | exact K_eq (h.1 c1) (by rw [bi_f c2, bi_f c3, bi_f c4, bi_t c5]; rfl)
            | exact K_eq (h.1 c1) (by rw [bi_f c2, bi_f c3, bi_f c4, bi_f c5]; rfl)
          · skip
            (try (have q3 := (p1.2.2.1 c c1.1.1 c1.1.2).1)); (try (have q4 := (p1.2.2.1 e c1.2.1 c1.2.2).1)); (try simp (disch := omega) only [fat_in, w32_0, wbi0, Classical.not_not, w32_id] at c5)
            first
            | exact K_eq (h.1 c1) (by rw [bi_t c2, bi_t c3, bi_t c4, bi_t c5]; rfl)
            | exact K_eq (h.1 c1) (by rw [bi_t c2, bi_t c3, bi_t c4, bi_f c5]; rfl)
            | exact K_eq (h.1 c1) (by rw [bi_t c2, bi_t c3, bi_f c4, bi_t c5]; rfl)
            | exact K_eq (h.1 c1) (by rw [bi_t c2, bi_t c3, bi_f c4, bi_f c5]; rfl)
            | exact K_eq (h.1 c1) (by rw [bi_t c2, bi_f c3, bi_t c4, bi_t c5]; rfl)
            | exact K_eq (h.1 c1) (by rw [bi_t c2, bi_f c3, bi_t c4, bi_f c5]; rfl)
            | exact K_eq (h.1 c1) (by rw [bi_t c2, bi_f c3, bi_f c4, bi_t c5]; rfl)
            | exact K_eq (h.1 c1) (by rw [bi_t c2, bi_f c3, bi_f c4, bi_f c5]; rfl)
            | exact K_eq (h.1 c1) (by rw [bi_f c2, bi_t c3, bi_t c4, bi_t c5]; rfl)
            | exact K_eq (h.1 c1) (by rw [bi_f c2, bi_t c3, bi_t c4, bi_f c5]; rfl)
            | exact K_eq (h.1 c1) (by rw [bi_f c2, bi_t c3, bi_f c4, bi_t c5]; rfl)
            | exact K_eq (h.1 c1) (by rw [bi_f c2, bi_t c3, bi_f c4, bi_f c5]; rfl)
            | exact K_eq (h.1 c1) (by rw [bi_f c2, bi_f c3, bi_t c4, bi_t c5]; rfl)
            | exact K_eq (h.1 c1) (by rw [bi_f c2, bi_f c3, bi_t c4, bi_f c5]; rfl)
            | exact K_eq (h.1 c1) (by rw [bi_f c2, bi_f c3, bi_f c4, bi_t c5]; rfl)
            | exact K_eq (h.1 c1) (by rw [bi_f c2, bi_f c3, bi_f c4, bi_f c5]; rfl)
    · skip
      (try (have q3 := (p1.2.2.1 c c1.1.1 c1.1.2).1)); (try (have q4 := (p1.2.2.1 e c1.2.1 c1.2.2).1)); (try simp (disch := omega) only [fat_in, w32_0, wbi0, Classical.not_not, w32_id] at c2)
      refine ⟨by (have q3 := (p1.2.2.1 c c1.1.1 c1.1.2).1; have q4 := (p1.2.2.1 e c1.2.1 c1.2.2).1; (try simp (disch := omega) only [fat_in]); exact ⟨⟨by omega, by omega, by omega, by omega⟩, by omega, by omega, by omega, by omega⟩), ?_⟩
      refine ⟨fun c3 => ?_, fun c3 => ?_⟩
      · skip
        (try (have q3 := (p1.2.2.1 c c1.1.1 c1.1.2).1)); (try (have q4 := (p1.2.2.1 e c1.2.1 c1.2.2).1)); (try simp (disch := omega) only [fat_in, w32_0, wbi0, Classical.not_not, w32_id] at c3)
        refine ⟨by (have q3 := (p1.2.2.1 c c1.1.1 c1.1.2).1; have q4 := (p1.2.2.1 e c1.2.1 c1.2.2).1; (try simp (disch := omega) only [fat_in]); exact ⟨⟨by omega, by omega, by omega, by omega⟩, by omega, by omega, by omega, by omega⟩), ?_⟩
        refine ⟨fun c4 => ?_, fun c4 => ?_⟩
        · skip
          (try (have q3 := (p1.2.2.1 c c1.1.1 c1.1.2).1)); (try (have q4 := (p1.2.2.1 e c1.2.1 c1.2.2).1)); (try simp (disch := omega) only [fat_in, w32_0, wbi0, Classical.not_not, w32_id] at c4)
          refine ⟨by (have q3 := (p1.2.2.1 c c1.1.1 c1.1.2).1; have q4 := (p1.2.2.1 e c1.2.1 c1.2.2).1; (try simp (disch := omega) only [fat_in]); exact ⟨⟨by omega, by omega, by omega, by omega⟩, by omega, by omega, by omega, by omega⟩), ?_⟩
          refine ⟨fun c5 => ?_, fun c5 => ?_⟩
          · skip
            (try (have q3 := (p1.2.2.1 c c1.1.1 c1.1.2).1)); (try (have q4 := (p1.2.2.1 e c1.2.1 c1.2.2).1)); (try simp (disch := omega) only [fat_in, w32_0, wbi0, Classical.not_not, w32_id] at c5)
            first
            | exact K_eq (h.1 c1) (by rw [bi_t c2, bi_t c3, bi_t c4, bi_t c5]; rfl)
            | exact K_eq (h.1 c1) (by rw [bi_t c2, bi_t c3, bi_t c4, bi_f c5]; rfl)
            | exact K_eq (h.1 c1) (by rw [bi_t c2, bi_t c3, bi_f c4, bi_t c5]; rfl)
            | exact K_eq (h.1 c1) (by rw [bi_t c2, bi_t c3, bi_f c4, bi_f c5]; rfl)
            | exact K_eq (h.1 c1) (by rw [bi_t c2, bi_f c3, bi_t c4, bi_t c5]; rfl)
            | exact K_eq (h.1 c1) (by rw [bi_t c2, bi_f c3, bi_t c4, bi_f c5]; rfl)
            | exact K_eq (h.1 c1) (by rw [bi_t c2, bi_f c3, bi_f c4, bi_t c5]; rfl)
            | exact K_eq (h.1 c1) (by rw [bi_t c2, bi_f c3, bi_f c4, bi_f c5]; rfl)
            | exact K_eq (h.1 c1) (by rw [bi_f c2, bi_t c3, bi_t c4, bi_t c5]; rfl)
            | exact K_eq (h.1 c1) (by rw [bi_f c2, bi_t c3, bi_t c4, bi_f c5]; rfl)
            | exact K_eq (h.1 c1) (by rw [bi_f c2, bi_t c3, bi_f c4, bi_t c5]; rfl)
            | exact K_eq (h.1 c1) (by rw [bi_f c2, bi_t c3, bi_f c4, bi_f c5]; rfl)
            | exact K_eq (h.1 c1) (by rw [bi_f c2, bi_f c3, bi_t c4, bi_t c5]; rfl)
            | exact K_eq (h.1 c1) (by rw [bi_f c2, bi_f c3, bi_t c4, bi_f c5]; rfl)
            | exact K_eq (h.1 c1) (by rw [bi_f c2, bi_f c3, bi_f c4, bi_t c5]; rfl)
            | exact K_eq (h.1 c1) (by rw [bi_f c2, bi_f c3, bi_f c4, bi_f c5]; rfl)
          · skip
            (try (have q3 := (p1.2.2.1 c c1.1.1 c1.1.2).1)); (try (have q4 := (p1.2.2.1 e c1.2.1 c1.2.2).1)); (try simp (disch := omega) only [fat_in, w32_0, wbi0, Classical.not_not, w32_id] at c5)
            first
            | exact K_eq (h.1 c1) (by rw [bi_t c2, bi_t c3, bi_t c4, bi_t c5]; rfl)
            | exact K_eq (h.1 c1) (by rw [bi_t c2, bi_t c3, bi_t c4, bi_f c5]; rfl)
            | exact K_eq (h.1 c1) (by rw [bi_t c2, bi_t c3, bi_f c4, bi_t c5]; rfl)
            | exact K_eq (h.1 c1) (by rw [bi_t c2, bi_t c3, bi_f c4, bi_f c5]; rfl)
            | exact K_eq (h.1 c1) (by rw [bi_t c2, bi_f c3, bi_t c4, bi_t c5]; rfl)
            | exact K_eq (h.1 c1) (by rw [bi_t c2, bi_f c3, bi_t c4, bi_f c5]; rfl)
            | exact K_eq (h.1 c1) (by rw [bi_t c2, bi_f c3, bi_f c4, bi_t c5]; rfl)
            | exact K_eq (h.1 c1) (by rw [bi_t c2, bi_f c3, bi_f c4, bi_f c5]; rfl)
            | exact K_eq (h.1 c1) (by rw [bi_f c2, bi_t c3, bi_t c4, bi_t c5]; rfl)
            | exact K_eq (h.1 c1) (by rw [bi_f c2, bi_t c3, bi_t c4, bi_f c5]; rfl)
            | exact K_eq (h.1 c1) (by rw [bi_f c2, bi_t c3, bi_f c4, bi_t c5]; rfl)
            | exact K_eq (h.1 c1) (by rw [bi_f c2, bi_t c3, bi_f c4, bi_f c5]; rfl)
            | exact K_eq (h.1 c1) (by rw [bi_f c2, bi_f c3, bi_t c4, bi_t c5]; rfl)
            | exact K_eq (h.1 c1) (by rw [bi_f c2, bi_f c3, bi_t c4, bi_f c5]; rfl)
            | exact K_eq (h.1 c1) (by rw [bi_f c2, bi_f c3, bi_f c4, bi_t c5]; rfl)
            | exact K_eq (h.1 c1) (by rw [bi_f c2, bi_f c3, bi_f c4, bi_f c5]; rfl)
        · skip
          (try (have q3 := (p1.2.2.1 c c1.1.1 c1.1.2).1)); (try (have q4 := (p1.2.2.1 e c1.2.1 c1.2.2).1)); (try simp (disch := omega) only [fat_in, w32_0, wbi0, Classical.not_not, w32_id] at c4)
          refine ⟨by (have q3 := (p1.2.2.1 c c1.1.1 c1.1.2).1; have q4 := (p1.2.2.1 e c1.2.1 c1.2.2).1; (try simp (disch := omega) only [fat_in]); exact ⟨⟨by omega, by omega, by omega, by omega⟩, by omega, by omega, by omega, by omega⟩), ?_⟩
          refine ⟨fun c5 => ?_, fun c5 => ?_⟩
          · skip
            (try (have q3 := (p1.2.2.1 c c1.1.1 c1.1.2).1)); (try (have q4 := (p1.2.2.1 e c1.2.1 c1.2.2).1)); (try simp (disch := omega) only [fat_in, w32_0, wbi0, Classical.not_not, w32_id] at c5)
            first
            | exact K_eq (h.1 c1) (by rw [bi_t c2, bi_t c3, bi_t c4, bi_t c5]; rfl)
            | exact K_eq (h.1 c1) (by rw [bi_t c2, bi_t c3, bi_t c4, bi_f c5]; rfl)
            | exact K_eq (h.1 c1) (by rw [bi_t c2, bi_t c3, bi_f c4, bi_t c5]; rfl)
            | exact K_eq (h.1 c1) (by rw [bi_t c2, bi_t c3, bi_f c4, bi_f c5]; rfl)
            | exact K_eq (h.1 c1) (by rw [bi_t c2, bi_f c3, bi_t c4, bi_t c5]; rfl)
            | exact K_eq (h.1 c1) (by rw [bi_t c2, bi_f c3, bi_t c4, bi_f c5]; rfl)
            | exact K_eq (h.1 c1) (by rw [bi_t c2, bi_f c3, bi_f c4, bi_t c5]; rfl)
            | exact K_eq (h.1 c1) (by rw [bi_t c2, bi_f c3, bi_f c4, bi_f c5]; rfl)
            | exact K_eq (h.1 c1) (by rw [bi_f c2, bi_t c3, bi_t c4, bi_t c5]; rfl)
            | exact K_eq (h.1 c1) (by rw [bi_f c2, bi_t c3, bi_t c4, bi_f c5]; rfl)
            | exact K_eq (h.1 c1) (by rw [bi_f c2, bi_t c3, bi_f c4, bi_t c5]; rfl)
            | exact K_eq (h.1 c1) (by rw [bi_f c2, bi_t c3, bi_f c4, bi_f c5]; rfl)
            | exact K_eq (h.1 c1) (by rw [bi_f c2, bi_f c3, bi_t c4, bi_t c5]; rfl)
            | exact K_eq (h.1 c1) (by rw [bi_f c2, bi_f c3, bi_t c4, bi_f c5]; rfl)
            | exact K_eq (h.1 c1) (by rw [bi_f c2, bi_f c3, bi_f c4, bi_t c5]; rfl)
            | exact K_eq (h.1 c1) (by rw [bi_f c2, bi_f c3, bi_f c4, bi_f c5]; rfl)
          · skip
            (try (have q3 := (p1.2.2.1 c c1.1.1 c1.1.2).1)); (try (have q4 := (p1.2.2.1 e c1.2.1 c1.2.2).1)); (try simp (disch := omega) only [fat_in, w32_0, wbi0, Classical.not_not, w32_id] at c5)
            first
            | exact K_eq (h.1 c1) (by rw [bi_t c2, bi_t c3, bi_t c4, bi_t c5]; rfl)
            | exact K_eq (h.1 c1) (by rw [bi_t c2, bi_t c3, bi_t c4, bi_f c5]; rfl)
            | exact K_eq (h.1 c1) (by rw [bi_t c2, bi_t c3, bi_f c4, bi_t c5]; rfl)
            | exact K_eq (h.1 c1) (by rw [bi_t c2, bi_t c3, bi_f c4, bi_f c5]; rfl)
            | exact K_eq (h.1 c1) (by rw [bi_t c2, bi_f c3, bi_t c4, bi_t c5]; rfl)
            | exact K_eq (h.1 c1) (by rw [bi_t c2, bi_f c3, bi_t c4, bi_f c5]; rfl)
            | exact K_eq (h.1 c1) (by rw [bi_t c2, bi_f c3, bi_f c4, bi_t c5]; rfl)
            | exact K_eq (h.1 c1) (by rw [bi_t c2, bi_f c3, bi_f c4, bi_f c5]; rfl)
            | exact K_eq (h.1 c1) (by rw [bi_f c2, bi_t c3, bi_t c4, bi_t c5]; rfl)
            | exact K_eq (h.1 c1) (by rw [bi_f c2, bi_t c3, bi_t c4, bi_f c5]; rfl)
            | exact K_eq (h.1 c1) (by rw [bi_f c2, bi_t c3, bi_f c4, bi_t c5]; rfl)
            | exact K_eq (h.1 c1) (by rw [bi_f c2, bi_t c3, bi_f c4, bi_f c5]; rfl)
            | exact K_eq (h.1 c1) (by rw [bi_f c2, bi_f c3, bi_t c4, bi_t c5]; rfl)
            | exact K_eq (h.1 c1) (by rw [bi_f c2, bi_f c3, bi_t c4, bi_f c5]; rfl)
            | exact K_eq (h.1 c1) (by rw [bi_f c2, bi_f c3, bi_f c4, bi_t c5]; rfl)
            | exact K_eq (h.1 c1) (by rw [bi_f c2, bi_f c3, bi_f c4, bi_f c5]; rfl)
      · skip
        (try (have q3 := (p1.2.2.1 c c1.1.1 c1.1.2).1)); (try (have q4 := (p1.2.2.1 e c1.2.1 c1.2.2).1)); (try simp (disch := omega) only [fat_in, w32_0, wbi0, Classical.not_not, w32_id] at c3)
        refine ⟨by (have q3 := (p1.2.2.1 c c1.1.1 c1.1.2).1; have q4 := (p1.2.2.1 e c1.2.1 c1.2.2).1; (try simp (disch := omega) only [fat_in]); exact ⟨⟨by omega, by omega, by omega, by omega⟩, by omega, by omega, by omega, by omega⟩), ?_⟩
        refine ⟨fun c4 => ?_, fun c4 => ?_⟩
        · skip
          (try (have q3 := (p1.2.2.1 c c1.1.1 c1.1.2).1)); (try (have q4 := (p1.2.2.1 e c1.2.1 c1.2.2).1)); (try simp (disch := omega) only [fat_in, w32_0, wbi0, Classical.not_not, w32_id] at c4)
          refine ⟨by (have q3 := (p1.2.2.1 c c1.1.1 c1.1.2).1; have q4 := (p1.2.2.1 e c1.2.1 c1.2.2).1; (try simp (disch := omega) only [fat_in]); exact ⟨⟨by omega, by omega, by omega, by omega⟩, by omega, by omega, by omega, by omega⟩), ?_⟩
          refine ⟨fun c5 => ?_, fun c5 => ?_⟩
          · skip
            (try (have q3 := (p1.2.2.1 c c1.1.1 c1.1.2).1)); (try (have q4 := (p1.2.2.1 e c1.2.1 c1.2.2).1)); (try simp (disch := omega) only [fat_in, w32_0, wbi0, Classical.not_not, w32_id] at c5)
            first
            | exact K_eq (h.1 c1) (by rw [bi_t c2, bi_t c3, bi_t c4, bi_t c5]; rfl)
            | exact K_eq (h.1 c1) (by rw [bi_t c2, bi_t c3, bi_t c4, bi_f c5]; rfl)
            | exact K_eq (h.1 c1) (by rw [bi_t c2, bi_t c3, bi_f c4, bi_t c5]; rfl)
            | exact K_eq (h.1 c1) (by rw [bi_t c2, bi_t c3, bi_f c4, bi_f c5]; rfl)
            | exact K_eq (h.1 c1) (by rw [bi_t c2, bi_f c3, bi_t c4, bi_t c5]; rfl)
            | exact K_eq (h.1 c1) (by rw [bi_t c2, bi_f c3, bi_t c4, bi_f c5]; rfl)
            | exact K_eq (h.1 c1) (by rw [bi_t c2, bi_f c3, bi_f c4, bi_t c5]; rfl)
            | exact K_eq (h.1 c1) (by rw [bi_t c2, bi_f c3, bi_f c4, bi_f c5]; rfl)
            | exact K_eq (h.1 c1) (by rw [bi_f c2, bi_t c3, bi_t c4, bi_t c5]; rfl)
            | exact K_eq (h.1 c1) (by rw [bi_f c2, bi_t c3, bi_t c4, bi_f c5]; rfl)
            | exact K_eq (h.1 c1) (by rw [bi_f c2, bi_t c3, bi_f c4, bi_t c5]; rfl)
            | exact K_eq (h.1 c1) (by rw [bi_f c2, bi_t c3, bi_f c4, bi_f c5]; rfl)
            | exact K_eq (h.1 c1) (by rw [bi_f c2, bi_f c3, bi_t c4, bi_t c5]; rfl)
            | exact K_eq (h.1 c1) (by rw [bi_f c2, bi_f c3, bi_t c4, bi_f c5]; rfl)
            | exact K_eq (h.1 c1) (by rw [bi_f c2, bi_f c3, bi_f c4, bi_t c5]; rfl)
            | exact K_eq (h.1 c1) (by rw [bi_f c2, bi_f c3, bi_f c4, bi_f c5]; rfl)
          · skip
            (try (have q3 := (p1.2.2.1 c c1.1.1 c1.1.2).1)); (try (have q4 := (p1.2.2.1 e c1.2.1 c1.2.2).1)); (try simp (disch := omega) only [fat_in, w32_0, wbi0, Classical.not_not, w32_id] at c5)
            first
            | exact K_eq (h.1 c1) (by rw [bi_t c2, bi_t c3, bi_t c4, bi_t c5]; rfl)
            | exact K_eq (h.1 c1) (by rw [bi_t c2, bi_t c3, bi_t c4, bi_f c5]; rfl)
            | exact K_eq (h.1 c1) (by rw [bi_t c2, bi_t c3, bi_f c4, bi_t c5]; rfl)
            | exact K_eq (h.1 c1) (by rw [bi_t c2, bi_t c3, bi_f c4, bi_f c5]; rfl)
            | exact K_eq (h.1 c1) (by rw [bi_t c2, bi_f c3, bi_t c4, bi_t c5]; rfl)
            | exact K_eq (h.1 c1) (by rw [bi_t c2, bi_f c3, bi_t c4, bi_f c5]; rfl)
            | exact K_eq (h.1 c1) (by rw [bi_t c2, bi_f c3, bi_f c4, bi_t c5]; rfl)
            | exact K_eq (h.1 c1) (by rw [bi_t c2, bi_f c3, bi_f c4, bi_f c5]; rfl)
            | exact K_eq (h.1 c1) (by rw [bi_f c2, bi_t c3, bi_t c4, bi_t c5]; rfl)
            | exact K_eq (h.1 c1) (by rw [bi_f c2, bi_t c3, bi_t c4, bi_f c5]; rfl)
            | exact K_eq (h.1 c1) (by rw [bi_f c2, bi_t c3, bi_f c4, bi_t c5]; rfl)
            | exact K_eq (h.1 c1) (by rw [bi_f c2, bi_t c3, bi_f c4, bi_f c5]; rfl)
            | exact K_eq (h.1 c1) (by rw [bi_f c2, bi_f c3, bi_t c4, bi_t c5]; rfl)
            | exact K_eq (h.1 c1) (by rw [bi_f c2, bi_f c3, bi_t c4, bi_f c5]; rfl)
            | exact K_eq (h.1 c1) (by rw [bi_f c2, bi_f c3, bi_f c4, bi_t c5]; rfl)
            | exact K_eq (h.1 c1) (by rw [bi_f c2, bi_f c3, bi_f c4, bi_f c5]; rfl)
        · skip
          (try (have q3 := (p1.2.2.1 c c1.1.1 c1.1.2).1)); (try (have q4 := (p1.2.2.1 e c1.2.1 c1.2.2).1)); (try simp (disch := omega) only [fat_in, w32_0, wbi0, Classical.not_not, w32_id] at c4)
          refine ⟨by (have q3 := (p1.2.2.1 c c1.1.1 c1.1.2).1; have q4 := (p1.2.2.1 e c1.2.1 c1.2.2).1; (try simp (disch := omega) only [fat_in]); exact ⟨⟨by omega, by omega, by omega, by omega⟩, by omega, by omega, by omega, by omega⟩), ?_⟩
          refine ⟨fun c5 => ?_, fun c5 => ?_⟩
          · skip
            (try (have q3 := (p1.2.2.1 c c1.1.1 c1.1.2).1)); (try (have q4 := (p1.2.2.1 e c1.2.1 c1.2.2).1)); (try simp (disch := omega) only [fat_in, w32_0, wbi0, Classical.not_not, w32_id] at c5)
            first
            | exact K_eq (h.1 c1) (by rw [bi_t c2, bi_t c3, bi_t c4, bi_t c5]; rfl)
            | exact K_eq (h.1 c1) (by rw [bi_t c2, bi_t c3, bi_t c4, bi_f c5]; rfl)
            | exact K_eq (h.1 c1) (by rw [bi_t c2, bi_t c3, bi_f c4, bi_t c5]; rfl)
            | exact K_eq (h.1 c1) (by rw [bi_t c2, bi_t c3, bi_f c4, bi_f c5]; rfl)
            | exact K_eq (h.1 c1) (by rw [bi_t c2, bi_f c3, bi_t c4, bi_t c5]; rfl)
            | exact K_eq (h.1 c1) (by rw [bi_t c2, bi_f c3, bi_t c4, bi_f c5]; rfl)
            | exact K_eq (h.1 c1) (by rw [bi_t c2, bi_f c3, bi_f c4, bi_t c5]; rfl)
            | exact K_eq (h.1 c1) (by rw [bi_t c2, bi_f c3, bi_f c4, bi_f c5]; rfl)
            | exact K_eq (h.1 c1) (by rw [bi_f c2, bi_t c3, bi_t c4, bi_t c5]; rfl)
            | exact K_eq (h.1 c1) (by rw [bi_f c2, bi_t c3, bi_t c4, bi_f c5]; rfl)
            | exact K_eq (h.1 c1) (by rw [bi_f c2, bi_t c3, bi_f c4, bi_t c5]; rfl)
            | exact K_eq (h.1 c1) (by rw [bi_f c2, bi_t c3, bi_f c4, bi_f c5]; rfl)
            | exact K_eq (h.1 c1) (by rw [bi_f c2, bi_f c3, bi_t c4, bi_t c5]; rfl)
            | exact K_eq (h.1 c1) (by rw [bi_f c2, bi_f c3, bi_t c4, bi_f c5]; rfl)
            | exact K_eq (h.1 c1) (by rw [bi_f c2, bi_f c3, bi_f c4, bi_t c5]; rfl)
            | exact K_eq (h.1 c1) (by rw [bi_f c2, bi_f c3, bi_f c4, bi_f c5]; rfl)
          · skip
            (try (have q3 := (p1.2.2.1 c c1.1.1 c1.1.2).1)); (try (have q4 := (p1.2.2.1 e c1.2.1 c1.2.2).1)); (try simp (disch := omega) only [fat_in, w32_0, wbi0, Classical.not_not, w32_id] at c5)
            first
            | exact K_eq (h.1 c1) (by rw [bi_t c2, bi_t c3, bi_t c4, bi_t c5]; rfl)
            | exact K_eq (h.1 c1) (by rw [bi_t c2, bi_t c3, bi_t c4, bi_f c5]; rfl)
            | exact K_eq (h.1 c1) (by rw [bi_t c2, bi_t c3, bi_f c4, bi_t c5]; rfl)
            | exact K_eq (h.1 c1) (by rw [bi_t c2, bi_t c3, bi_f c4, bi_f c5]; rfl)
            | exact K_eq (h.1 c1) (by rw [bi_t c2, bi_f c3, bi_t c4, bi_t c5]; rfl)
            | exact K_eq (h.1 c1) (by rw [bi_t c2, bi_f c3, bi_t c4, bi_f c5]; rfl)
            | exact K_eq (h.1 c1) (by rw [bi_t c2, bi_f c3, bi_f c4, bi_t c5]; rfl)
            | exact K_eq (h.1 c1) (by rw [bi_t c2, bi_f c3, bi_f c4, bi_f c5]; rfl)
            | exact K_eq (h.1 c1) (by rw [bi_f c2, bi_t c3, bi_t c4, bi_t c5]; rfl)
            | exact K_eq (h.1 c1) (by rw [bi_f c2, bi_t c3, bi_t c4, bi_f c5]; rfl)
            | exact K_eq (h.1 c1) (by rw [bi_f c2, bi_t c3, bi_f c4, bi_t c5]; rfl)
            | exact K_eq (h.1 c1) (by rw [bi_f c2, bi_t c3, bi_f c4, bi_f c5]; rfl)
            | exact K_eq (h.1 c1) (by rw [bi_f c2, bi_f c3, bi_t c4, bi_t c5]; rfl)
            | exact K_eq (h.1 c1) (by rw [bi_f c2, bi_f c3, bi_t c4, bi_f c5]; rfl)
            | exact K_eq (h.1 c1) (by rw [bi_f c2, bi_f c3, bi_f c4, bi_t c5]; rfl)
            | exact K_eq (h.1 c1) (by rw [bi_f c2, bi_f c3, bi_f c4, bi_f c5]; rfl)
  · skip
    (try (have q3 := (p1.2.2.1 c c1.1.1 c1.1.2).1)); (try (have q4 := (p1.2.2.1 e c1.2.1 c1.2.2).1)); (try simp (disch := omega) only [fat_in, w32_0, wbi0, Classical.not_not, w32_id] at c1)
    exact h.2 c1
theorem qtX8_sharedEnds (l : Launch) (hst : l.stackTraces = false) : am_CT l layX qeX8_sharedEnds := am_met1 hst rfl (by decide +kernel) rfl rfl rfl rfl rfl (fun _ _ h => by cases h) rfl (qzX8_sharedEnds l hst) (fun as F A K h => by
  replace h : qsX8_sharedEnds as F A K := h
  unfold qsX8_sharedEnds at h
  split at h
  · rename_i o c e
    refine ⟨by first | exact Nat.le_of_ble_eq_true rfl | simp [am_fl, am_cat], ?_⟩
    replace h := am_cond2 h
    rcases h with ⟨hb, h⟩ | h
    · skip
      have hb0 := hb
      have hb0 := am_bq hb0
      subst hb0
      exact am_way_line (qvX8_sharedEnds_0 c e F A K h)
    exact h.elim
  · exact h.elim)
def qkX8_nearSet : Nat → Option CI := fun pc => cond (Nat.ble 92 pc) none (cond (Nat.ble 46 pc) (cond (Nat.ble 70 pc) (cond (Nat.ble 81 pc) (cond (Nat.ble 84 pc) (cond (Nat.ble 90 pc) (cond (Nat.beq pc 90) (some (.iload_n 3, 91, [])) (cond (Nat.beq pc 91) (some (.ireturn, 92, [])) (none))) (cond (Nat.beq pc 84) (some (.iinc 4 1, 87, [])) (cond (Nat.beq pc 87) (some (.goto (-60), 90, [27])) (none)))) (cond (Nat.beq pc 81) (some (.ishl, 82, [])) (cond (Nat.beq pc 82) (some (.ior, 83, [])) (cond (Nat.beq pc 83) (some (.istore_n 3, 84, [])) (none))))) (cond (Nat.ble 77 pc) (cond (Nat.beq pc 77) (some (.iload_n 3, 78, [])) (cond (Nat.beq pc 78) (some (.iconst 1, 79, [])) (cond (Nat.beq pc 79) (some (.iload 4, 81, [])) (none)))) (cond (Nat.beq pc 70) (some (.iload_n 2, 71, [])) (cond (Nat.beq pc 71) (some (.invokevirtual 296, 74, [])) (cond (Nat.beq pc 74) (some (.ifCond .eq 10, 77, [84])) (none)))))) (cond (Nat.ble 59 pc) (cond (Nat.ble 64 pc) (cond (Nat.beq pc 64) (some (.getfield 36, 67, [])) (cond (Nat.beq pc 67) (some (.iload_n 1, 68, [])) (cond (Nat.beq pc 68) (some (.iload 4, 70, [])) (none)))) (cond (Nat.beq pc 59) (some (.aload_n 0, 60, [])) (cond (Nat.beq pc 60) (some (.getfield 50, 63, [])) (cond (Nat.beq pc 63) (some (.aload_n 0, 64, [])) (none))))) (cond (Nat.ble 53 pc) (cond (Nat.beq pc 53) (some (.iload 4, 55, [])) (cond (Nat.beq pc 55) (some (.iload_n 2, 56, [])) (cond (Nat.beq pc 56) (some (.invokevirtual 153, 59, [])) (none)))) (cond (Nat.beq pc 46) (some (.getfield 36, 49, [])) (cond (Nat.beq pc 49) (some (.aload_n 0, 50, [])) (cond (Nat.beq pc 50) (some (.getfield 10, 53, [])) (none))))))) (cond (Nat.ble 20 pc) (cond (Nat.ble 30 pc) (cond (Nat.ble 39 pc) (cond (Nat.ble 42 pc) (cond (Nat.beq pc 42) (some (.if_icmp .eq 42, 45, [84])) (cond (Nat.beq pc 45) (some (.aload_n 0, 46, [])) (none))) (cond (Nat.beq pc 39) (some (.iload 4, 41, [])) (cond (Nat.beq pc 41) (some (.iload_n 1, 42, [])) (none)))) (cond (Nat.beq pc 30) (some (.getfield 10, 33, [])) (cond (Nat.beq pc 33) (some (.invokevirtual 100, 36, [])) (cond (Nat.beq pc 36) (some (.if_icmp .ge 54, 39, [90])) (none))))) (cond (Nat.ble 25 pc) (cond (Nat.beq pc 25) (some (.istore 4, 27, [])) (cond (Nat.beq pc 27) (some (.iload 4, 29, [])) (cond (Nat.beq pc 29) (some (.aload_n 0, 30, [])) (none)))) (cond (Nat.beq pc 20) (some (.iload_n 2, 21, [])) (cond (Nat.beq pc 21) (some (.invokevirtual 153, 24, [])) (cond (Nat.beq pc 24) (some (.iconst 0, 25, [])) (none)))))) (cond (Nat.ble 10 pc) (cond (Nat.ble 15 pc) (cond (Nat.beq pc 15) (some (.aload_n 0, 16, [])) (cond (Nat.beq pc 16) (some (.getfield 10, 19, [])) (cond (Nat.beq pc 19) (some (.iload_n 1, 20, [])) (none)))) (cond (Nat.beq pc 10) (some (.istore_n 3, 11, [])) (cond (Nat.beq pc 11) (some (.aload_n 0, 12, [])) (cond (Nat.beq pc 12) (some (.getfield 36, 15, [])) (none))))) (cond (Nat.ble 5 pc) (cond (Nat.beq pc 5) (some (.invokevirtual 120, 8, [])) (cond (Nat.beq pc 8) (some (.istore_n 2, 9, [])) (cond (Nat.beq pc 9) (some (.iconst 0, 10, [])) (none)))) (cond (Nat.beq pc 0) (some (.aload_n 0, 1, [])) (cond (Nat.beq pc 1) (some (.getfield 10, 4, [])) (cond (Nat.beq pc 4) (some (.iconst 1, 5, [])) (none))))))))
theorem qkX8_nearSet_ok : ∀ pc i nx ts, qkX8_nearSet pc = some (i, nx, ts) → am_cok cX8_nearSet pc (i, nx, ts) = true := fun pc i nx ts h => am_tok_ok (n := 92) (by decide +kernel) (fun pc h => by show cond (Nat.ble 92 pc) _ _ = _; rw [Nat.ble_eq_true_of_le h]; rfl) h
def qaX8_nearSet : Nat → Option CE := fun k => cond (Nat.beq k 120) (some qeX2_setting) (cond (Nat.beq k 153) (some qeX1_grow) (cond (Nat.beq k 100) (some qeX2_curves) (cond (Nat.beq k 296) (some qeX6_hasAny) (none))))
theorem qyX8_nearSet (l : Launch) : ∀ k e1, qaX8_nearSet k = some e1 → am_cal l layX RX8 16 k e1 ∧ ceT e1 = 0 := q_cons ⟨am_calV (ci := 2) (qtX2_setting l) qbX2_setting (by decide) rfl (am_tb_at 565 (by decide +kernel) rfl), rfl⟩ (q_cons ⟨am_calV (ci := 1) (qtX1_grow l) qbX1_grow (by decide) rfl (am_tb_at 663 (by decide +kernel) rfl), rfl⟩ (q_cons ⟨am_calV (ci := 2) (qtX2_curves l) qbX2_curves (by decide) rfl (am_tb_at 534 (by decide +kernel) rfl), rfl⟩ (q_cons ⟨am_calV (ci := 6) (qtX6_hasAny l) qbX6_hasAny (by decide) rfl (am_tb_at 708 (by decide +kernel) rfl), rfl⟩ (q_nil))))
def qxX8_nearSet : CX := (qkX8_nearSet, layX, qfX8, qaX8_nearSet, qcX8, qlX8, qmX8, (some .int), false, none, 0, none, fun _ => none)
theorem qzX8_nearSet (l : Launch) : am_sta l qxX8_nearSet RX8 16 cX8_nearSet := ⟨qkX8_nearSet_ok, layX_ok, qfX8_ok, qcX8_ok, qlX8_ok, am_mthP qmX8_ok (by decide), fun k e1 h => (qyX8_nearSet l k e1 h).1⟩
def qsX8_nearSet : SP := fun as F A K => match as with
  | [.inr (.inr o), .inl c] => cond (Nat.beq o 0) ((fgOK (A 2) ∧ (0 ≤ c ∧ c < A 2 0) ∧ caAll A) ∧ (∀ (G_1 : FF) (B_1 : AA), (qrP F G_1 A B_1) → (K (some (some (vI (nrF (A 2) c (Int.toNat (A 2 0)))))) G_1 B_1))) (False)
  | _ => False
def qeX8_nearSet : CE := (yX8_nearSet, cX8_nearSet, 5, (some .int), 1, some 8, 0, [], 0, 16, qsX8_nearSet)
theorem qbX8_nearSet : am_mb qeX8_nearSet := ⟨am_tb_at 662 (by decide +kernel) rfl, am_tb_at 114 (by decide +kernel) rfl, ⟨by decide, by decide, by decide +kernel⟩, by decide, by decide, am_tb_at 661 (by decide +kernel) rfl, am_tb_at 22 (by decide +kernel) rfl, _, _, rfl⟩
def qnX8_nearSet_0 : CUT := fun pc => cond (Nat.beq pc 27) (some [true, true, true, true, true]) (none)
def qiX8_nearSet_0 (c : Int) (F0 : FF) (A0 : AA) : REC := fun pc ls st F A u => cond (Nat.beq pc 27) (match ls, st, u with
    | [some (.inr (.inr s0)), some (.inl s1), some (.inl d), some (.inl s), some (.inl k)], [], 0 => s0 = 0 ∧ s1 = c ∧ (d = A0 2 3 ∧ (0 ≤ k ∧ k ≤ A0 2 0) ∧ qrP F0 F A0 A ∧ caAll A ∧ pltE A c d ∧ s = bitP (fun oo => ¬ oo = c ∧ ∃ ii jj, prX (A0 2) c oo (A0 2 3) ii jj) (Int.toNat k))
    | _, _, _ => False) (False)
def quX8_nearSet_0 : Nat → LVs → List AV → FF → AA → Nat := fun pc ls _ F A => cond (Nat.beq pc 27) (match ls with
    | [some (.inr (.inr s0)), some (.inl s1), some (.inl d), some (.inl s), some (.inl k)] => Int.toNat (20 - k)
    | _ => 0) (0)
set_option maxRecDepth 20000 in
theorem qvX8_nearSet_0_0 (c : Int) (F0 : FF) (A0 : AA) (K : KK) (h : (fgOK (A0 2) ∧ (0 ≤ c ∧ c < A0 2 0) ∧ caAll A0) ∧ (∀ (G_1 : FF) (B_1 : AA), (qrP F0 G_1 A0 B_1) → (K (some (some (vI (nrF (A0 2) c (Int.toNat (A0 2 0)))))) G_1 B_1))) : am_stp qxX8_nearSet (am_run qxX8_nearSet qnX8_nearSet_0 (qiX8_nearSet_0 c F0 A0) K 35) K 0 (am_ent [vR 0, vI c] 5) [] F0 A0 0 := by
  show am_stp qxX8_nearSet (am_run qxX8_nearSet qnX8_nearSet_0 (qiX8_nearSet_0 c F0 A0) K 35) K 0 [some (vR 0), some (vI c), none, none, none] [] F0 A0 0
  obtain ⟨hp, h⟩ := h
  obtain ⟨p1, p2', p3⟩ := hp
  have q1 := p1.1.1
  have q2 := p1.2.1
  have q3 := (p1.2.2.1 c p2'.1 p2'.2).1
  have ft0 : fat (A0 2) (2 + 1) = A0 2 3 := by first | (simp (disch := omega) only [fat_in]; done) | (simp (disch := omega) only [fat_in]; rfl)
  show (0 ≤ c ∧ c < 8 ∧ 2 ≤ A0 2 (18 + c) ∧ A0 2 (18 + c) ≤ 4 ∧ 0 ≤ (fat (A0 2) (2 + 1)) ∧ (fat (A0 2) (2 + 1)) ≤ 6 ∧ caOK A0 c) ∧ (∀ (B_1 : AA), (grQ A0 B_1 c (fat (A0 2) (2 + 1))) → (0 = 0 ∧ c = c ∧ ((fat (A0 2) (2 + 1)) = A0 2 3 ∧ (0 ≤ 0 ∧ 0 ≤ A0 2 0) ∧ qrP F0 F0 A0 B_1 ∧ caAll B_1 ∧ pltE B_1 c (fat (A0 2) (2 + 1)) ∧ 0 = bitP (fun oo => ¬ oo = c ∧ ∃ ii jj, prX (A0 2) c oo (A0 2 3) ii jj) (Int.toNat 0))))
  refine ⟨by (rw [ft0]; exact ⟨by omega, by omega, by omega, by omega, by omega, by omega, p3 c p2'.1 (by omega)⟩), ?_⟩
  intro B_1 g1
  refine ⟨rfl, rfl, ?_⟩
  rw [ft0] at g1 ⊢
  exact ⟨rfl, by omega, qrP_gr (fun _ _ _ => rfl) g1, caAll_gr g1 p3, g1.2.2.1, rfl⟩
set_option maxRecDepth 20000 in
theorem qvX8_nearSet_0_27 (c : Int) (F0 : FF) (A0 : AA) (K : KK) (h : (fgOK (A0 2) ∧ (0 ≤ c ∧ c < A0 2 0) ∧ caAll A0) ∧ (∀ (G_1 : FF) (B_1 : AA), (qrP F0 G_1 A0 B_1) → (K (some (some (vI (nrF (A0 2) c (Int.toNat (A0 2 0)))))) G_1 B_1))) (d : Int) (s : Int) (k : Int) (F : FF) (A : AA) (hi : d = A0 2 3 ∧ (0 ≤ k ∧ k ≤ A0 2 0) ∧ qrP F0 F A0 A ∧ caAll A ∧ pltE A c d ∧ s = bitP (fun oo => ¬ oo = c ∧ ∃ ii jj, prX (A0 2) c oo (A0 2 3) ii jj) (Int.toNat k)) : am_stp qxX8_nearSet (am_run qxX8_nearSet qnX8_nearSet_0 (fun pc ls st F A u => qiX8_nearSet_0 c F0 A0 pc ls st F A u ∧ quX8_nearSet_0 pc ls st F A < quX8_nearSet_0 27 [some (vR 0), some (vI c), some (vI d), some (vI s), some (vI k)] [] F A) K 35) K 27 [some (vR 0), some (vI c), some (vI d), some (vI s), some (vI k)] [] F A 0 := by
  obtain ⟨hp, h⟩ := h
  obtain ⟨p1, p2', p3⟩ := hp
  have q1 := p1.1.1
  have q2 := p1.2.1
  have q3 := (p1.2.2.1 c p2'.1 p2'.2).1
  have ft0 : fat (A0 2) (2 + 1) = A0 2 3 := by first | (simp (disch := omega) only [fat_in]; done) | (simp (disch := omega) only [fat_in]; rfl)
  obtain ⟨h1, h2, hQ, hC, hE, h4⟩ := hi
  have e2 : A 2 = A0 2 := funext fun i => hQ.2.1 2 i (by omega)
  have q4 := fun (o0 : 0 ≤ k) (o1 : k < A0 2 0) => (p1.2.2.1 k o0 o1).1
  show (w32 k < w32 (fat (A 2) 0) → ((w32 k = w32 c → ((0 = 0 ∧ c = c ∧ (d = A0 2 3 ∧ (0 ≤ (k + 1) ∧ (k + 1) ≤ A0 2 0) ∧ qrP F0 F A0 A ∧ caAll A ∧ pltE A c d ∧ s = bitP (fun oo => ¬ oo = c ∧ ∃ ii jj, prX (A0 2) c oo (A0 2 3) ii jj) (Int.toNat (k + 1)))) ∧ (Int.toNat (20 - (k + 1))) < (Int.toNat (20 - k)))) ∧ (¬ w32 k = w32 c → ((0 ≤ k ∧ k < 8 ∧ 2 ≤ A 2 (18 + k) ∧ A 2 (18 + k) ≤ 4 ∧ 0 ≤ d ∧ d ≤ 6 ∧ caOK A k) ∧ (∀ (B_1 : AA), (grQ A B_1 k d) → (((0 ≤ d ∧ d ≤ 6) ∧ (0 ≤ c ∧ c < 8) ∧ (0 ≤ k ∧ k < 8) ∧ exR B_1 c d ∧ exR B_1 k d) ∧ ((w32 (bc (∃ ii jj, prF (mtX B_1 c k) d 7 0 0 0 ii jj)) = w32 0 → ((0 = 0 ∧ c = c ∧ (d = A0 2 3 ∧ (0 ≤ (k + 1) ∧ (k + 1) ≤ A0 2 0) ∧ qrP F0 (upF (upF (upF (upF F 19 3 d) 19 4 (p2 d)) 19 5 c) 19 6 k) A0 B_1 ∧ caAll B_1 ∧ pltE B_1 c d ∧ s = bitP (fun oo => ¬ oo = c ∧ ∃ ii jj, prX (A0 2) c oo (A0 2 3) ii jj) (Int.toNat (k + 1)))) ∧ (Int.toNat (20 - (k + 1))) < (Int.toNat (20 - k)))) ∧ (¬ w32 (bc (∃ ii jj, prF (mtX B_1 c k) d 7 0 0 0 ii jj)) = w32 0 → ((0 = 0 ∧ c = c ∧ (d = A0 2 3 ∧ (0 ≤ (k + 1) ∧ (k + 1) ≤ A0 2 0) ∧ qrP F0 (upF (upF (upF (upF F 19 3 d) 19 4 (p2 d)) 19 5 c) 19 6 k) A0 B_1 ∧ caAll B_1 ∧ pltE B_1 c d ∧ (x_or s (x_shl 1 k)) = bitP (fun oo => ¬ oo = c ∧ ∃ ii jj, prX (A0 2) c oo (A0 2 3) ii jj) (Int.toNat (k + 1)))) ∧ (Int.toNat (20 - (k + 1))) < (Int.toNat (20 - k))))))))))) ∧ (¬ w32 k < w32 (fat (A 2) 0) → (K (some (some (vI s))) F A))
  refine ⟨fun c1 => ?_, fun c1 => ?_⟩
  · skip
    (try rw [e2] at c1); (try simp (disch := omega) only [fat_in, w32_0, wbc0, Classical.not_not, w32_id] at c1)
    refine ⟨fun c2 => ?_, fun c2 => ?_⟩
    · skip
      (try rw [e2] at c2); (try simp (disch := omega) only [fat_in, w32_0, wbc0, Classical.not_not, w32_id] at c2)
      refine ⟨⟨rfl, rfl, ?_⟩, by omega⟩
      refine ⟨h1, by omega, hQ, hC, hE, ?_⟩
      rw [bitP_f (p := (fun oo => ¬ oo = c ∧ ∃ ii jj, prX (A0 2) c oo (A0 2 3) ii jj)) h2.1 (fun z => z.1 (by omega)), h4]
    · skip
      (try rw [e2] at c2); (try simp (disch := omega) only [fat_in, w32_0, wbc0, Classical.not_not, w32_id] at c2)
      refine ⟨by (have q4 := q4 (by omega) (by omega); rw [e2]; exact ⟨by omega, by omega, by omega, by omega, by omega, by omega, hC k h2.1 (by omega)⟩), ?_⟩
      intro B_1 g1
      have q4 := q4 (by omega) (by omega)
      have b2 := grQ_f g1
      have hC1 := caAll_gr g1 hC
      have hE1 := pltE_o g1 (fun z => by omega) (hC c p2'.1 (by omega)).1.2 hE
      have b2 := b2.trans e2
      have hx : ∀ i j, prF (mtX B_1 c k) d 7 0 0 0 i j ↔ prX (A0 2) c k (A0 2 3) i j := fun i j => by
        have z := prX_mt (i := i) (j := j) (hC1 c p2'.1 (by omega)) hE1 (by rw [b2]; omega) (hC1 k h2.1 (by omega)) g1.2.2.1 (by rw [b2]; omega) (show 0 ≤ d by omega)
        rw [b2] at z
        rw [z, h1]
      have ex : bc (∃ ii jj, prF (mtX B_1 c k) d 7 0 0 0 ii jj) = bc (∃ ii jj, prX (A0 2) c k (A0 2 3) ii jj) := bc_c (by simp only [hx])
      rw [ex]
      refine ⟨by exact ⟨by omega, by omega, by omega, exR_ca (hC1 c p2'.1 (by omega)) hE1 (by rw [b2]; omega), exR_ca (hC1 k h2.1 (by omega)) g1.2.2.1 (by rw [b2]; omega)⟩, ?_⟩
      refine ⟨fun c3 => ?_, fun c3 => ?_⟩
      · skip
        (try rw [e2] at c3); (try simp (disch := omega) only [fat_in, w32_0, wbc0, Classical.not_not, w32_id] at c3)
        refine ⟨⟨rfl, rfl, ?_⟩, by omega⟩
        have qN : qrP F (upF (upF (upF (upF F 19 3 d) 19 4 (p2 d)) 19 5 c) 19 6 k) A B_1 := ⟨fun a b h => by rw [upF_o (by omega), upF_o (by omega), upF_o (by omega), upF_o (by omega)], fun b i hb => g1.1 b i (Or.inl (by omega)), caAll_gr g1, r20_c (funext fun i => g1.1 20 i (Or.inl (by omega)))⟩
        refine ⟨h1, by omega, qrP_trans hQ qN, hC1, hE1, ?_⟩
        rw [bitP_f (p := (fun oo => ¬ oo = c ∧ ∃ ii jj, prX (A0 2) c oo (A0 2 3) ii jj)) h2.1 (fun z => c3 z.2), h4]
      · skip
        (try rw [e2] at c3); (try simp (disch := omega) only [fat_in, w32_0, wbc0, Classical.not_not, w32_id] at c3)
        refine ⟨⟨rfl, rfl, ?_⟩, by omega⟩
        have qN : qrP F (upF (upF (upF (upF F 19 3 d) 19 4 (p2 d)) 19 5 c) 19 6 k) A B_1 := ⟨fun a b h => by rw [upF_o (by omega), upF_o (by omega), upF_o (by omega), upF_o (by omega)], fun b i hb => g1.1 b i (Or.inl (by omega)), caAll_gr g1, r20_c (funext fun i => g1.1 20 i (Or.inl (by omega)))⟩
        refine ⟨h1, by omega, qrP_trans hQ qN, hC1, hE1, ?_⟩
        rw [bitP_t (p := (fun oo => ¬ oo = c ∧ ∃ ii jj, prX (A0 2) c oo (A0 2 3) ii jj)) h2.1 ⟨by omega, c3⟩, h4]
  · skip
    (try rw [e2] at c1); (try simp (disch := omega) only [fat_in, w32_0, wbc0, Classical.not_not, w32_id] at c1)
    exact K_eq (h _ _ hQ) (by rw [h4]; unfold nrF; rw [show k = A0 2 0 by omega])
set_option maxRecDepth 20000 in
theorem qvX8_nearSet_0 (c : Int) (F0 : FF) (A0 : AA) (K : KK) (h : (fgOK (A0 2) ∧ (0 ≤ c ∧ c < A0 2 0) ∧ caAll A0) ∧ (∀ (G_1 : FF) (B_1 : AA), (qrP F0 G_1 A0 B_1) → (K (some (some (vI (nrF (A0 2) c (Int.toNat (A0 2 0)))))) G_1 B_1))) : am_body qxX8_nearSet qnX8_nearSet_0 35 (qiX8_nearSet_0 c F0 A0) quX8_nearSet_0 [vR 0, vI c] 5 F0 A0 K := by
  refine ⟨qvX8_nearSet_0_0 c F0 A0 K h, fun pc ls st F A u hI => ?_⟩
  unfold qiX8_nearSet_0 at hI
  replace hI := am_cond2 hI
  rcases hI with ⟨hb, hI⟩ | hI
  · have hb := am_bq hb
    subst hb
    split at hI
    · rename_i s0 s1 d s k
      obtain ⟨e0, e1, hI⟩ := hI
      subst e0
      subst e1
      exact qvX8_nearSet_0_27 _ _ _ K h _ _ _ _ _ hI
    · exact hI.elim
  exact hI.elim
theorem qtX8_nearSet (l : Launch) : am_CT l layX qeX8_nearSet := am_met0 rfl (by decide +kernel) rfl rfl rfl rfl rfl (fun _ => rfl) rfl (qzX8_nearSet l) (fun k e1 h => (qyX8_nearSet l k e1 h).2) (fun as F A K h => by
  replace h : qsX8_nearSet as F A K := h
  unfold qsX8_nearSet at h
  split at h
  · rename_i o c
    refine ⟨by first | exact Nat.le_of_ble_eq_true rfl | simp [am_fl, am_cat], ?_⟩
    replace h := am_cond2 h
    rcases h with ⟨hb, h⟩ | h
    · skip
      have hb0 := hb
      have hb0 := am_bq hb0
      subst hb0
      exact am_way_body (qvX8_nearSet_0 c F A K h)
    exact h.elim
  · exact h.elim)
def qkX8_curvesNear : Nat → Option CI := fun pc => cond (Nat.ble 11 pc) none (cond (Nat.ble 5 pc) (cond (Nat.ble 7 pc) (cond (Nat.beq pc 7) (some (.invokevirtual 293, 10, [])) (cond (Nat.beq pc 10) (some (.ireturn, 11, [])) (none))) (cond (Nat.beq pc 5) (some (.aload_n 0, 6, [])) (cond (Nat.beq pc 6) (some (.iload_n 1, 7, [])) (none)))) (cond (Nat.beq pc 0) (some (.aload_n 0, 1, [])) (cond (Nat.beq pc 1) (some (.iload_n 1, 2, [])) (cond (Nat.beq pc 2) (some (.invokevirtual 123, 5, [])) (none)))))
theorem qkX8_curvesNear_ok : ∀ pc i nx ts, qkX8_curvesNear pc = some (i, nx, ts) → am_cok cX8_curvesNear pc (i, nx, ts) = true := fun pc i nx ts h => am_tok_ok (n := 11) (by decide +kernel) (fun pc h => by show cond (Nat.ble 11 pc) _ _ = _; rw [Nat.ble_eq_true_of_le h]; rfl) h
def qaX8_curvesNear : Nat → Option CE := fun k => cond (Nat.beq k 123) (some qeX8_requireCurve) (cond (Nat.beq k 293) (some qeX8_nearSet) (none))
theorem qyX8_curvesNear (l : Launch) (hst : l.stackTraces = false) : ∀ k e1, qaX8_curvesNear k = some e1 → am_cal l layX RX8 17 k e1 ∧ True := q_cons ⟨am_calV (ci := 8) (qtX8_requireCurve l hst) qbX8_requireCurve (by decide) rfl (am_tb_at 841 (by decide +kernel) rfl), trivial⟩ (q_cons ⟨am_calV (ci := 8) (qtX8_nearSet l) qbX8_nearSet (by decide) rfl (am_tb_at 659 (by decide +kernel) rfl), trivial⟩ (q_nil))
def qxX8_curvesNear : CX := (qkX8_curvesNear, layX, qfX8, qaX8_curvesNear, qcX8, qlX8, qmX8, (some .int), true, none, 1, none, fun _ => none)
theorem qzX8_curvesNear (l : Launch) (hst : l.stackTraces = false) : am_sta l qxX8_curvesNear RX8 17 cX8_curvesNear := ⟨qkX8_curvesNear_ok, layX_ok, qfX8_ok, qcX8_ok, qlX8_ok, am_mthP qmX8_ok (by decide), fun k e1 h => (qyX8_curvesNear l hst k e1 h).1⟩
def qsX8_curvesNear : SP := fun as F A K => match as with
  | [.inr (.inr o), .inl c] => cond (Nat.beq o 0) ((fgOK (A 2) ∧ (-2147483648 ≤ c ∧ c < 2147483648) ∧ caAll A) ∧ ((0 ≤ c ∧ c < A 2 0 → (∀ (G_1 : FF) (B_1 : AA), (qrP F G_1 A B_1) → (K (some (some (vI (nrF (A 2) c (Int.toNat (A 2 0)))))) G_1 B_1))) ∧ (¬ (0 ≤ c ∧ c < A 2 0) → (K none F A)))) (False)
  | _ => False
def qeX8_curvesNear : CE := (yX8_curvesNear, cX8_curvesNear, 2, (some .int), 1, some 8, 1, [], 1, 17, qsX8_curvesNear)
theorem qbX8_curvesNear : am_mb qeX8_curvesNear := ⟨am_tb_at 1360 (by decide +kernel) rfl, am_tb_at 114 (by decide +kernel) rfl, ⟨by decide, by decide, by decide +kernel⟩, by decide, by decide, am_tb_at 1358 (by decide +kernel) rfl, am_tb_at 1359 (by decide +kernel) rfl, _, _, rfl⟩
set_option maxRecDepth 20000 in
theorem qvX8_curvesNear_0 (c : Int) (F : FF) (A : AA) (K : KK) (h : (fgOK (A 2) ∧ (-2147483648 ≤ c ∧ c < 2147483648) ∧ caAll A) ∧ ((0 ≤ c ∧ c < A 2 0 → (∀ (G_1 : FF) (B_1 : AA), (qrP F G_1 A B_1) → (K (some (some (vI (nrF (A 2) c (Int.toNat (A 2 0)))))) G_1 B_1))) ∧ (¬ (0 ≤ c ∧ c < A 2 0) → (K none F A)))) : am_line qxX8_curvesNear 8 [vR 0, vI c] 2 F A K := by
  show am_stp qxX8_curvesNear (am_run qxX8_curvesNear (fun _ => none) (fun _ _ _ _ _ _ => False) K 8) K 0 [some (vR 0), some (vI c)] [] F A 0
  obtain ⟨hp, h⟩ := h
  have p1 := hp.1
  have p2' := hp.2
  have q1 := p1.1.1
  have q2 := p1.1.2
  show ((0 ≤ A 2 0 ∧ A 2 0 ≤ 8) ∧ (0 ≤ A 2 1 ∧ A 2 1 ≤ 6) ∧ (-2147483648 ≤ c ∧ c < 2147483648)) ∧ ((0 ≤ c ∧ c < A 2 0 → ((fgOK (A 2) ∧ (0 ≤ c ∧ c < A 2 0) ∧ caAll A) ∧ (∀ (G_1 : FF) (B_1 : AA), (qrP F G_1 A B_1) → (K (some (some (vI (nrF (A 2) c (Int.toNat (A 2 0)))))) G_1 B_1)))) ∧ (¬ (0 ≤ c ∧ c < A 2 0) → (K none F A)))
  refine ⟨by exact ⟨p1.1.1, p1.1.2, hp.2.1⟩, ?_⟩
  refine ⟨fun c1 => ?_, fun c1 => ?_⟩
  · skip
    skip
    refine ⟨by exact ⟨p1, c1, hp.2.2⟩, ?_⟩
    intro G_1 B_1 g1
    exact h.1 c1 _ _ g1
  · skip
    skip
    exact h.2 c1
theorem qtX8_curvesNear (l : Launch) (hst : l.stackTraces = false) : am_CT l layX qeX8_curvesNear := am_met1 hst rfl (by decide +kernel) rfl rfl rfl rfl rfl (fun _ _ h => by cases h) rfl (qzX8_curvesNear l hst) (fun as F A K h => by
  replace h : qsX8_curvesNear as F A K := h
  unfold qsX8_curvesNear at h
  split at h
  · rename_i o c
    refine ⟨by first | exact Nat.le_of_ble_eq_true rfl | simp [am_fl, am_cat], ?_⟩
    replace h := am_cond2 h
    rcases h with ⟨hb, h⟩ | h
    · skip
      have hb0 := hb
      have hb0 := am_bq hb0
      subst hb0
      exact am_way_line (qvX8_curvesNear_0 c F A K h)
    exact h.elim
  · exact h.elim)
def qkJ6_bitCount_0f7a4 : Nat → Option CI := fun pc => cond (Nat.ble 53 pc) none (cond (Nat.ble 27 pc) (cond (Nat.ble 40 pc) (cond (Nat.ble 46 pc) (cond (Nat.ble 49 pc) (cond (Nat.beq pc 49) (some (.bipush 63, 51, [])) (cond (Nat.beq pc 51) (some (.iand, 52, [])) (cond (Nat.beq pc 52) (some (.ireturn, 53, [])) (none)))) (cond (Nat.beq pc 46) (some (.iadd, 47, [])) (cond (Nat.beq pc 47) (some (.istore_n 0, 48, [])) (cond (Nat.beq pc 48) (some (.iload_n 0, 49, [])) (none))))) (cond (Nat.ble 42 pc) (cond (Nat.beq pc 42) (some (.iload_n 0, 43, [])) (cond (Nat.beq pc 43) (some (.bipush 16, 45, [])) (cond (Nat.beq pc 45) (some (.iushr, 46, [])) (none)))) (cond (Nat.beq pc 40) (some (.istore_n 0, 41, [])) (cond (Nat.beq pc 41) (some (.iload_n 0, 42, [])) (none))))) (cond (Nat.ble 34 pc) (cond (Nat.ble 36 pc) (cond (Nat.beq pc 36) (some (.bipush 8, 38, [])) (cond (Nat.beq pc 38) (some (.iushr, 39, [])) (cond (Nat.beq pc 39) (some (.iadd, 40, [])) (none)))) (cond (Nat.beq pc 34) (some (.iload_n 0, 35, [])) (cond (Nat.beq pc 35) (some (.iload_n 0, 36, [])) (none)))) (cond (Nat.ble 29 pc) (cond (Nat.beq pc 29) (some (.ldc_w 267, 32, [])) (cond (Nat.beq pc 32) (some (.iand, 33, [])) (cond (Nat.beq pc 33) (some (.istore_n 0, 34, [])) (none)))) (cond (Nat.beq pc 27) (some (.iushr, 28, [])) (cond (Nat.beq pc 28) (some (.iadd, 29, [])) (none)))))) (cond (Nat.ble 14 pc) (cond (Nat.ble 21 pc) (cond (Nat.ble 24 pc) (cond (Nat.beq pc 24) (some (.iload_n 0, 25, [])) (cond (Nat.beq pc 25) (some (.iload_n 0, 26, [])) (cond (Nat.beq pc 26) (some (.iconst 4, 27, [])) (none)))) (cond (Nat.beq pc 21) (some (.iand, 22, [])) (cond (Nat.beq pc 22) (some (.iadd, 23, [])) (cond (Nat.beq pc 23) (some (.istore_n 0, 24, [])) (none))))) (cond (Nat.ble 16 pc) (cond (Nat.beq pc 16) (some (.iconst 2, 17, [])) (cond (Nat.beq pc 17) (some (.iushr, 18, [])) (cond (Nat.beq pc 18) (some (.ldc_w 266, 21, [])) (none)))) (cond (Nat.beq pc 14) (some (.iand, 15, [])) (cond (Nat.beq pc 15) (some (.iload_n 0, 16, [])) (none))))) (cond (Nat.ble 7 pc) (cond (Nat.ble 9 pc) (cond (Nat.beq pc 9) (some (.istore_n 0, 10, [])) (cond (Nat.beq pc 10) (some (.iload_n 0, 11, [])) (cond (Nat.beq pc 11) (some (.ldc_w 266, 14, [])) (none)))) (cond (Nat.beq pc 7) (some (.iand, 8, [])) (cond (Nat.beq pc 8) (some (.isub, 9, [])) (none)))) (cond (Nat.ble 2 pc) (cond (Nat.beq pc 2) (some (.iconst 1, 3, [])) (cond (Nat.beq pc 3) (some (.iushr, 4, [])) (cond (Nat.beq pc 4) (some (.ldc_w 265, 7, [])) (none)))) (cond (Nat.beq pc 0) (some (.iload_n 0, 1, [])) (cond (Nat.beq pc 1) (some (.iload_n 0, 2, [])) (none)))))))
theorem qkJ6_bitCount_0f7a4_ok : ∀ pc i nx ts, qkJ6_bitCount_0f7a4 pc = some (i, nx, ts) → am_cok cJ6_bitCount_0f7a4 pc (i, nx, ts) = true := fun pc i nx ts h => am_tok_ok (n := 53) (by decide +kernel) (fun pc h => by show cond (Nat.ble 53 pc) _ _ = _; rw [Nat.ble_eq_true_of_le h]; rfl) h
def qaJ6_bitCount_0f7a4 : Nat → Option CE := fun k => none
theorem qyJ6_bitCount_0f7a4 (l : Launch) : ∀ k e1, qaJ6_bitCount_0f7a4 k = some e1 → am_cal l layX RJ6 3 k e1 ∧ ceT e1 = 0 := q_nil
def qxJ6_bitCount_0f7a4 : CX := (qkJ6_bitCount_0f7a4, layX, qfJ6, qaJ6_bitCount_0f7a4, qcJ6, qlJ6, qmJ6, (some .int), false, none, 0, none, fun _ => none)
theorem qzJ6_bitCount_0f7a4 (l : Launch) : am_sta l qxJ6_bitCount_0f7a4 RJ6 3 cJ6_bitCount_0f7a4 := ⟨qkJ6_bitCount_0f7a4_ok, layX_ok, qfJ6_ok, qcJ6_ok, qlJ6_ok, am_mthP qmJ6_ok (by decide), fun k e1 h => (qyJ6_bitCount_0f7a4 l k e1 h).1⟩
def qsJ6_bitCount_0f7a4 : SP := fun as F A K => match as with
  | [.inl v] => (0 ≤ v ∧ v ≤ 255) ∧ (K (some (some (vI (bitN v)))) F A)
  | _ => False
def qeJ6_bitCount_0f7a4 : CE := (yJ6_bitCount_0f7a4, cJ6_bitCount_0f7a4, 1, (some .int), 1, none, 0, [], 0, 3, qsJ6_bitCount_0f7a4)
theorem qbJ6_bitCount_0f7a4 : am_mb qeJ6_bitCount_0f7a4 := ⟨am_tb_at 731 (by decide +kernel) rfl, am_tb_at 136 (by decide +kernel) rfl, ⟨by decide, by decide, by decide +kernel⟩, by decide, am_tb_at 730 (by decide +kernel) rfl⟩
set_option maxRecDepth 20000 in
theorem qvJ6_bitCount_0f7a4 (v : Int) (F : FF) (A : AA) (K : KK) (h : (0 ≤ v ∧ v ≤ 255) ∧ (K (some (some (vI (bitN v)))) F A)) : am_line qxJ6_bitCount_0f7a4 43 [vI v] 1 F A K := by
  show am_stp qxJ6_bitCount_0f7a4 (am_run qxJ6_bitCount_0f7a4 (fun _ => none) (fun _ _ _ _ _ _ => False) K 43) K 0 [some (vI v)] [] F A 0
  obtain ⟨hp, h⟩ := h
  show K (some (some (vI (x_and (((x_and (((x_and (v - (x_and (x_ushr v 1) 1431655765)) 858993459) + (x_and (x_ushr (v - (x_and (x_ushr v 1) 1431655765)) 2) 858993459)) + (x_ushr ((x_and (v - (x_and (x_ushr v 1) 1431655765)) 858993459) + (x_and (x_ushr (v - (x_and (x_ushr v 1) 1431655765)) 2) 858993459)) 4)) 252645135) + (x_ushr (x_and (((x_and (v - (x_and (x_ushr v 1) 1431655765)) 858993459) + (x_and (x_ushr (v - (x_and (x_ushr v 1) 1431655765)) 2) 858993459)) + (x_ushr ((x_and (v - (x_and (x_ushr v 1) 1431655765)) 858993459) + (x_and (x_ushr (v - (x_and (x_ushr v 1) 1431655765)) 2) 858993459)) 4)) 252645135) 8)) + (x_ushr ((x_and (((x_and (v - (x_and (x_ushr v 1) 1431655765)) 858993459) + (x_and (x_ushr (v - (x_and (x_ushr v 1) 1431655765)) 2) 858993459)) + (x_ushr ((x_and (v - (x_and (x_ushr v 1) 1431655765)) 858993459) + (x_and (x_ushr (v - (x_and (x_ushr v 1) 1431655765)) 2) 858993459)) 4)) 252645135) + (x_ushr (x_and (((x_and (v - (x_and (x_ushr v 1) 1431655765)) 858993459) + (x_and (x_ushr (v - (x_and (x_ushr v 1) 1431655765)) 2) 858993459)) + (x_ushr ((x_and (v - (x_and (x_ushr v 1) 1431655765)) 858993459) + (x_and (x_ushr (v - (x_and (x_ushr v 1) 1431655765)) 2) 858993459)) 4)) 252645135) 8)) 16)) 63)))) F A
  exact K_eq h (bitN_eq hp.1 hp.2)
theorem qtJ6_bitCount_0f7a4 (l : Launch) : am_CT l layX qeJ6_bitCount_0f7a4 := am_met0 rfl (by decide +kernel) rfl rfl rfl rfl rfl (fun _ => rfl) rfl (qzJ6_bitCount_0f7a4 l) (fun k e1 h => (qyJ6_bitCount_0f7a4 l k e1 h).2) (fun as F A K h => by
  replace h : qsJ6_bitCount_0f7a4 as F A K := h
  unfold qsJ6_bitCount_0f7a4 at h
  split at h
  · rename_i v
    refine ⟨by first | exact Nat.le_of_ble_eq_true rfl | simp [am_fl, am_cat], ?_⟩
    exact am_way_line (qvJ6_bitCount_0f7a4 v F A K h)
  · exact h.elim)
def qkX8_busiestCurve : Nat → Option CI := fun pc => cond (Nat.ble 46 pc) none (cond (Nat.ble 19 pc) (cond (Nat.ble 35 pc) (cond (Nat.ble 38 pc) (cond (Nat.ble 44 pc) (cond (Nat.beq pc 44) (some (.iload_n 1, 45, [])) (cond (Nat.beq pc 45) (some (.ireturn, 46, [])) (none))) (cond (Nat.beq pc 38) (some (.iinc 3 1, 41, [])) (cond (Nat.beq pc 41) (some (.goto (-35), 44, [6])) (none)))) (cond (Nat.beq pc 35) (some (.istore_n 2, 36, [])) (cond (Nat.beq pc 36) (some (.iload_n 3, 37, [])) (cond (Nat.beq pc 37) (some (.istore_n 1, 38, [])) (none))))) (cond (Nat.ble 27 pc) (cond (Nat.ble 30 pc) (cond (Nat.beq pc 30) (some (.if_icmp .le 8, 33, [38])) (cond (Nat.beq pc 33) (some (.iload 4, 35, [])) (none))) (cond (Nat.beq pc 27) (some (.iload 4, 29, [])) (cond (Nat.beq pc 29) (some (.iload_n 2, 30, [])) (none)))) (cond (Nat.beq pc 19) (some (.invokevirtual 293, 22, [])) (cond (Nat.beq pc 22) (some (.invokestatic 300, 25, [])) (cond (Nat.beq pc 25) (some (.istore 4, 27, [])) (none)))))) (cond (Nat.ble 6 pc) (cond (Nat.ble 11 pc) (cond (Nat.ble 17 pc) (cond (Nat.beq pc 17) (some (.aload_n 0, 18, [])) (cond (Nat.beq pc 18) (some (.iload_n 3, 19, [])) (none))) (cond (Nat.beq pc 11) (some (.invokevirtual 100, 14, [])) (cond (Nat.beq pc 14) (some (.if_icmp .ge 30, 17, [44])) (none)))) (cond (Nat.beq pc 6) (some (.iload_n 3, 7, [])) (cond (Nat.beq pc 7) (some (.aload_n 0, 8, [])) (cond (Nat.beq pc 8) (some (.getfield 10, 11, [])) (none))))) (cond (Nat.ble 3 pc) (cond (Nat.beq pc 3) (some (.istore_n 2, 4, [])) (cond (Nat.beq pc 4) (some (.iconst 0, 5, [])) (cond (Nat.beq pc 5) (some (.istore_n 3, 6, [])) (none)))) (cond (Nat.beq pc 0) (some (.iconst (-1), 1, [])) (cond (Nat.beq pc 1) (some (.istore_n 1, 2, [])) (cond (Nat.beq pc 2) (some (.iconst (-1), 3, [])) (none)))))))
theorem qkX8_busiestCurve_ok : ∀ pc i nx ts, qkX8_busiestCurve pc = some (i, nx, ts) → am_cok cX8_busiestCurve pc (i, nx, ts) = true := fun pc i nx ts h => am_tok_ok (n := 46) (by decide +kernel) (fun pc h => by show cond (Nat.ble 46 pc) _ _ = _; rw [Nat.ble_eq_true_of_le h]; rfl) h
def qaX8_busiestCurve : Nat → Option CE := fun k => cond (Nat.beq k 100) (some qeX2_curves) (cond (Nat.beq k 293) (some qeX8_nearSet) (cond (Nat.beq k 300) (some qeJ6_bitCount_0f7a4) (none)))
theorem qyX8_busiestCurve (l : Launch) : ∀ k e1, qaX8_busiestCurve k = some e1 → am_cal l layX RX8 17 k e1 ∧ ceT e1 = 0 := q_cons ⟨am_calV (ci := 2) (qtX2_curves l) qbX2_curves (by decide) rfl (am_tb_at 534 (by decide +kernel) rfl), rfl⟩ (q_cons ⟨am_calV (ci := 8) (qtX8_nearSet l) qbX8_nearSet (by decide) rfl (am_tb_at 659 (by decide +kernel) rfl), rfl⟩ (q_cons ⟨am_calS (qtJ6_bitCount_0f7a4 l) qbJ6_bitCount_0f7a4 (by decide) rfl (by decide) (am_tb_at 729 (by decide +kernel) rfl), rfl⟩ (q_nil)))
def qxX8_busiestCurve : CX := (qkX8_busiestCurve, layX, qfX8, qaX8_busiestCurve, qcX8, qlX8, qmX8, (some .int), false, none, 0, none, fun _ => none)
theorem qzX8_busiestCurve (l : Launch) : am_sta l qxX8_busiestCurve RX8 17 cX8_busiestCurve := ⟨qkX8_busiestCurve_ok, layX_ok, qfX8_ok, qcX8_ok, qlX8_ok, am_mthP qmX8_ok (by decide), fun k e1 h => (qyX8_busiestCurve l k e1 h).1⟩
def qsX8_busiestCurve : SP := fun as F A K => match as with
  | [.inr (.inr o)] => cond (Nat.beq o 0) ((fgOK (A 2) ∧ caAll A) ∧ (∀ (G_1 : FF) (B_1 : AA), (qrP F G_1 A B_1) → (K (some (some (vI ((bestI (fun kk => bitN (nrF (A 2) kk (Int.toNat (A 2 0)))) (Int.toNat (A 2 0))).1)))) G_1 B_1))) (False)
  | _ => False
def qeX8_busiestCurve : CE := (yX8_busiestCurve, cX8_busiestCurve, 5, (some .int), 0, some 8, 0, [], 0, 17, qsX8_busiestCurve)
theorem qbX8_busiestCurve : am_mb qeX8_busiestCurve := ⟨am_tb_at 658 (by decide +kernel) rfl, am_tb_at 114 (by decide +kernel) rfl, ⟨by decide, by decide, by decide +kernel⟩, by decide, by decide, am_tb_at 656 (by decide +kernel) rfl, am_tb_at 657 (by decide +kernel) rfl, _, _, rfl⟩
def qnX8_busiestCurve_0 : CUT := fun pc => cond (Nat.beq pc 6) (some [true, true, true, true, false]) (none)
def qiX8_busiestCurve_0  (F0 : FF) (A0 : AA) : REC := fun pc ls st F A u => cond (Nat.beq pc 6) (match ls, st, u with
    | [some (.inr (.inr s0)), some (.inl w), some (.inl v), some (.inl k), none], [], 0 => s0 = 0 ∧ ((0 ≤ k ∧ k ≤ A0 2 0) ∧ (-1 ≤ v ∧ v ≤ 32) ∧ qrP F0 F A0 A ∧ (w, v) = bestI (fun kk => bitN (nrF (A0 2) kk (Int.toNat (A0 2 0)))) (Int.toNat k))
    | _, _, _ => False) (False)
def quX8_busiestCurve_0 : Nat → LVs → List AV → FF → AA → Nat := fun pc ls _ F A => cond (Nat.beq pc 6) (match ls with
    | [some (.inr (.inr s0)), some (.inl w), some (.inl v), some (.inl k), none] => Int.toNat (20 - k)
    | _ => 0) (0)
set_option maxRecDepth 20000 in
theorem qvX8_busiestCurve_0_0  (F0 : FF) (A0 : AA) (K : KK) (h : (fgOK (A0 2) ∧ caAll A0) ∧ (∀ (G_1 : FF) (B_1 : AA), (qrP F0 G_1 A0 B_1) → (K (some (some (vI ((bestI (fun kk => bitN (nrF (A0 2) kk (Int.toNat (A0 2 0)))) (Int.toNat (A0 2 0))).1)))) G_1 B_1))) : am_stp qxX8_busiestCurve (am_run qxX8_busiestCurve qnX8_busiestCurve_0 (qiX8_busiestCurve_0  F0 A0) K 22) K 0 (am_ent [vR 0] 5) [] F0 A0 0 := by
  show am_stp qxX8_busiestCurve (am_run qxX8_busiestCurve qnX8_busiestCurve_0 (qiX8_busiestCurve_0  F0 A0) K 22) K 0 [some (vR 0), none, none, none, none] [] F0 A0 0
  obtain ⟨hp, h⟩ := h
  have p1 := hp.1
  have q1 := p1.1.1
  have ca := hp.2
  show 0 = 0 ∧ ((0 ≤ 0 ∧ 0 ≤ A0 2 0) ∧ (-1 ≤ (-1) ∧ (-1) ≤ 32) ∧ qrP F0 F0 A0 A0 ∧ ((-1), (-1)) = bestI (fun kk => bitN (nrF (A0 2) kk (Int.toNat (A0 2 0)))) (Int.toNat 0))
  refine ⟨rfl, ?_⟩
  exact ⟨⟨by omega, by omega⟩, by omega, qrP_id, rfl⟩
set_option maxRecDepth 20000 in
theorem qvX8_busiestCurve_0_6  (F0 : FF) (A0 : AA) (K : KK) (h : (fgOK (A0 2) ∧ caAll A0) ∧ (∀ (G_1 : FF) (B_1 : AA), (qrP F0 G_1 A0 B_1) → (K (some (some (vI ((bestI (fun kk => bitN (nrF (A0 2) kk (Int.toNat (A0 2 0)))) (Int.toNat (A0 2 0))).1)))) G_1 B_1))) (w : Int) (v : Int) (k : Int) (F : FF) (A : AA) (hi : (0 ≤ k ∧ k ≤ A0 2 0) ∧ (-1 ≤ v ∧ v ≤ 32) ∧ qrP F0 F A0 A ∧ (w, v) = bestI (fun kk => bitN (nrF (A0 2) kk (Int.toNat (A0 2 0)))) (Int.toNat k)) : am_stp qxX8_busiestCurve (am_run qxX8_busiestCurve qnX8_busiestCurve_0 (fun pc ls st F A u => qiX8_busiestCurve_0  F0 A0 pc ls st F A u ∧ quX8_busiestCurve_0 pc ls st F A < quX8_busiestCurve_0 6 [some (vR 0), some (vI w), some (vI v), some (vI k), none] [] F A) K 22) K 6 [some (vR 0), some (vI w), some (vI v), some (vI k), none] [] F A 0 := by
  obtain ⟨hp, h⟩ := h
  have p1 := hp.1
  have q1 := p1.1.1
  have ca := hp.2
  obtain ⟨h1, h2, hQ, h4⟩ := hi
  have e2 : A 2 = A0 2 := funext fun i => hQ.2.1 2 i (by omega)
  show (w32 k < w32 (fat (A 2) 0) → ((fgOK (A 2) ∧ (0 ≤ k ∧ k < A 2 0) ∧ caAll A) ∧ (∀ (G_1 : FF) (B_1 : AA), (qrP F G_1 A B_1) → ((0 ≤ (nrF (A 2) k (Int.toNat (A 2 0))) ∧ (nrF (A 2) k (Int.toNat (A 2 0))) ≤ 255) ∧ ((w32 v < w32 (bitN (nrF (A 2) k (Int.toNat (A 2 0)))) → ((0 = 0 ∧ ((0 ≤ (k + 1) ∧ (k + 1) ≤ A0 2 0) ∧ (-1 ≤ (bitN (nrF (A 2) k (Int.toNat (A 2 0)))) ∧ (bitN (nrF (A 2) k (Int.toNat (A 2 0)))) ≤ 32) ∧ qrP F0 G_1 A0 B_1 ∧ (k, (bitN (nrF (A 2) k (Int.toNat (A 2 0))))) = bestI (fun kk => bitN (nrF (A0 2) kk (Int.toNat (A0 2 0)))) (Int.toNat (k + 1)))) ∧ (Int.toNat (20 - (k + 1))) < (Int.toNat (20 - k)))) ∧ (¬ w32 v < w32 (bitN (nrF (A 2) k (Int.toNat (A 2 0)))) → ((0 = 0 ∧ ((0 ≤ (k + 1) ∧ (k + 1) ≤ A0 2 0) ∧ (-1 ≤ v ∧ v ≤ 32) ∧ qrP F0 G_1 A0 B_1 ∧ (w, v) = bestI (fun kk => bitN (nrF (A0 2) kk (Int.toNat (A0 2 0)))) (Int.toNat (k + 1)))) ∧ (Int.toNat (20 - (k + 1))) < (Int.toNat (20 - k))))))))) ∧ (¬ w32 k < w32 (fat (A 2) 0) → (K (some (some (vI w))) F A))
  refine ⟨fun c1 => ?_, fun c1 => ?_⟩
  · skip
    (try rw [e2] at c1); (try simp (disch := omega) only [fat_in, w32_0, w32_id] at c1); (try (have b9 := bitN_b (nrF (A0 2) k (Int.toNat (A0 2 0))); rw [w32_id (by omega) (by omega)] at c1))
    refine ⟨by (rw [e2]; exact ⟨p1, ⟨h1.1, by omega⟩, hQ.2.2.1 ca⟩), ?_⟩
    intro G_1 B_1 g1
    rw [e2]
    have n9 := bitP_b (fun o => ¬ o = k ∧ ∃ ii jj, prX (A0 2) k o (A0 2 3) ii jj) (Int.toNat (A0 2 0)) (by omega)
    have n9 : 0 ≤ nrF (A0 2) k (Int.toNat (A0 2 0)) ∧ nrF (A0 2) k (Int.toNat (A0 2 0)) ≤ 255 := n9
    refine ⟨by exact n9, ?_⟩
    refine ⟨fun c2 => ?_, fun c2 => ?_⟩
    · skip
      (try rw [e2] at c2); (try simp (disch := omega) only [fat_in, w32_0, w32_id] at c2); (try (have b9 := bitN_b (nrF (A0 2) k (Int.toNat (A0 2 0))); rw [w32_id (by omega) (by omega)] at c2))
      refine ⟨⟨rfl, ?_⟩, by omega⟩
      have b9 := bitN_b (nrF (A0 2) k (Int.toNat (A0 2 0)))
      exact ⟨by omega, by omega, qrP_trans hQ g1, bestI_t h1.1 h4 c2⟩
    · skip
      (try rw [e2] at c2); (try simp (disch := omega) only [fat_in, w32_0, w32_id] at c2); (try (have b9 := bitN_b (nrF (A0 2) k (Int.toNat (A0 2 0))); rw [w32_id (by omega) (by omega)] at c2))
      refine ⟨⟨rfl, ?_⟩, by omega⟩
      exact ⟨by omega, h2, qrP_trans hQ g1, bestI_f h1.1 h4 c2⟩
  · skip
    (try rw [e2] at c1); (try simp (disch := omega) only [fat_in, w32_0, w32_id] at c1); (try (have b9 := bitN_b (nrF (A0 2) k (Int.toNat (A0 2 0))); rw [w32_id (by omega) (by omega)] at c1))
    exact K_eq (h _ _ hQ) (by rw [show k = A0 2 0 by omega] at h4; rw [← h4])
set_option maxRecDepth 20000 in
theorem qvX8_busiestCurve_0  (F0 : FF) (A0 : AA) (K : KK) (h : (fgOK (A0 2) ∧ caAll A0) ∧ (∀ (G_1 : FF) (B_1 : AA), (qrP F0 G_1 A0 B_1) → (K (some (some (vI ((bestI (fun kk => bitN (nrF (A0 2) kk (Int.toNat (A0 2 0)))) (Int.toNat (A0 2 0))).1)))) G_1 B_1))) : am_body qxX8_busiestCurve qnX8_busiestCurve_0 22 (qiX8_busiestCurve_0  F0 A0) quX8_busiestCurve_0 [vR 0] 5 F0 A0 K := by
  refine ⟨qvX8_busiestCurve_0_0  F0 A0 K h, fun pc ls st F A u hI => ?_⟩
  unfold qiX8_busiestCurve_0 at hI
  replace hI := am_cond2 hI
  rcases hI with ⟨hb, hI⟩ | hI
  · have hb := am_bq hb
    subst hb
    split at hI
    · rename_i s0 w v k
      obtain ⟨e0, hI⟩ := hI
      subst e0
      exact qvX8_busiestCurve_0_6  _ _ K h _ _ _ _ _ hI
    · exact hI.elim
  exact hI.elim
theorem qtX8_busiestCurve (l : Launch) : am_CT l layX qeX8_busiestCurve := am_met0 rfl (by decide +kernel) rfl rfl rfl rfl rfl (fun _ => rfl) rfl (qzX8_busiestCurve l) (fun k e1 h => (qyX8_busiestCurve l k e1 h).2) (fun as F A K h => by
  replace h : qsX8_busiestCurve as F A K := h
  unfold qsX8_busiestCurve at h
  split at h
  · rename_i o
    refine ⟨by first | exact Nat.le_of_ble_eq_true rfl | simp [am_fl, am_cat], ?_⟩
    replace h := am_cond2 h
    rcases h with ⟨hb, h⟩ | h
    · skip
      have hb0 := hb
      have hb0 := am_bq hb0
      subst hb0
      exact am_way_body (qvX8_busiestCurve_0  F A K h)
    exact h.elim
  · exact h.elim)
