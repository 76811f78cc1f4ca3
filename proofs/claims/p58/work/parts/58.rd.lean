def qkX7_isWord : Nat → Option CI := fun pc => cond (Nat.ble 21 pc) none (cond (Nat.ble 11 pc) (cond (Nat.ble 16 pc) (cond (Nat.beq pc 16) (some (.goto 4, 19, [20])) (cond (Nat.beq pc 19) (some (.iconst 0, 20, [])) (cond (Nat.beq pc 20) (some (.ireturn, 21, [])) (none)))) (cond (Nat.beq pc 11) (some (.iload_n 1, 12, [])) (cond (Nat.beq pc 12) (some (.if_icmp .ne 7, 15, [19])) (cond (Nat.beq pc 15) (some (.iconst 1, 16, [])) (none))))) (cond (Nat.ble 4 pc) (cond (Nat.beq pc 4) (some (.ifCond .ne 15, 7, [19])) (cond (Nat.beq pc 7) (some (.aload_n 0, 8, [])) (cond (Nat.beq pc 8) (some (.getfield 69, 11, [])) (none)))) (cond (Nat.beq pc 0) (some (.aload_n 0, 1, [])) (cond (Nat.beq pc 1) (some (.getfield 39, 4, [])) (none)))))
theorem qkX7_isWord_ok : ∀ pc i nx ts, qkX7_isWord pc = some (i, nx, ts) → am_cok cX7_isWord pc (i, nx, ts) = true := fun pc i nx ts h => am_tok_ok (n := 21) (by decide +kernel) (fun pc h => by show cond (Nat.ble 21 pc) _ _ = _; rw [Nat.ble_eq_true_of_le h]; rfl) h
def qaX7_isWord : Nat → Option CE := fun k => none
theorem qyX7_isWord (l : Launch) : ∀ k e1, qaX7_isWord k = some e1 → am_cal l layX RX7 3 k e1 ∧ ceT e1 = 0 := q_nil
def qxX7_isWord : CX := (qkX7_isWord, layX, qfX7, qaX7_isWord, qcX7, qlX7, qmX7, (some .boolean), false, none, 0, none, fun _ => none)
theorem qzX7_isWord (l : Launch) : am_sta l qxX7_isWord RX7 3 cX7_isWord := ⟨qkX7_isWord_ok, layX_ok, qfX7_ok, qcX7_ok, qlX7_ok, am_mthP qmX7_ok (by decide), fun k e1 h => (qyX7_isWord l k e1 h).1⟩
def qsX7_isWord : SP := fun as F A K => match as with
  | [.inr (.inr o), .inl v] => cond (Nat.beq o 7) (((-2147483648 ≤ v ∧ v < 2147483648) ∧ (-2147483648 ≤ (F 7 6) ∧ (F 7 6) < 2147483648) ∧ (-2147483648 ≤ (F 7 5) ∧ (F 7 5) < 2147483648)) ∧ (K (some (some (vI (bi (iwP (tkF F) v))))) F A)) (False)
  | _ => False
def qeX7_isWord : CE := (yX7_isWord, cX7_isWord, 2, (some .boolean), 1, some 7, 0, none, 0, 3, qsX7_isWord)
theorem qbX7_isWord : am_mb qeX7_isWord := ⟨am_tb_at 650 (by decide +kernel) rfl, am_tb_at 38 (by decide +kernel) rfl, ⟨by decide, by decide, by decide +kernel⟩, by decide, am_tb_at 649 (by decide +kernel) rfl, am_tb_at 6 (by decide +kernel) rfl, _, _, rfl⟩
set_option maxRecDepth 20000 in
theorem qvX7_isWord_7 (v : Int) (F : FF) (A : AA) (K : KK) (h : ((-2147483648 ≤ v ∧ v < 2147483648) ∧ (-2147483648 ≤ (F 7 6) ∧ (F 7 6) < 2147483648) ∧ (-2147483648 ≤ (F 7 5) ∧ (F 7 5) < 2147483648)) ∧ (K (some (some (vI (bi (iwP (tkF F) v))))) F A)) : am_line qxX7_isWord 11 [vR 7, vI v] 2 F A K := by
  show am_stp qxX7_isWord (am_run qxX7_isWord (fun _ => none) (fun _ _ _ _ _ _ => False) K 11) K 0 [some (vR 7), some (vI v)] [] F A 0
  obtain ⟨hp, h⟩ := h
  show (w32 (F 7 5) = w32 0 → ((w32 (F 7 6) = w32 v → ((1 = 0 ∨ 1 = 1) ∧ (K (some (some (vI 1))) F A))) ∧ (¬ w32 (F 7 6) = w32 v → ((0 = 0 ∨ 0 = 1) ∧ (K (some (some (vI 0))) F A))))) ∧ (¬ w32 (F 7 5) = w32 0 → ((0 = 0 ∨ 0 = 1) ∧ (K (some (some (vI 0))) F A)))
  refine ⟨fun c1 => ?_, fun c1 => ?_⟩
  · skip
    (try simp (disch := omega) only [w32_0, wbi0, Classical.not_not, w32_id] at c1)
    refine ⟨fun c2 => ?_, fun c2 => ?_⟩
    · skip
      (try simp (disch := omega) only [w32_0, wbi0, Classical.not_not, w32_id] at c2)
      refine ⟨by first | exact Or.inl rfl | exact Or.inr rfl, ?_⟩
      first | exact K_eq h (bi_t ⟨by show F 7 5 = 0; omega, by show F 7 6 = v; omega⟩) | exact K_eq h (bi_f (fun z => by have z1 : F 7 5 = 0 := z.1; have z2 : F 7 6 = v := z.2; omega))
    · skip
      (try simp (disch := omega) only [w32_0, wbi0, Classical.not_not, w32_id] at c2)
      refine ⟨by first | exact Or.inl rfl | exact Or.inr rfl, ?_⟩
      first | exact K_eq h (bi_t ⟨by show F 7 5 = 0; omega, by show F 7 6 = v; omega⟩) | exact K_eq h (bi_f (fun z => by have z1 : F 7 5 = 0 := z.1; have z2 : F 7 6 = v := z.2; omega))
  · skip
    (try simp (disch := omega) only [w32_0, wbi0, Classical.not_not, w32_id] at c1)
    refine ⟨by first | exact Or.inl rfl | exact Or.inr rfl, ?_⟩
    first | exact K_eq h (bi_t ⟨by show F 7 5 = 0; omega, by show F 7 6 = v; omega⟩) | exact K_eq h (bi_f (fun z => by have z1 : F 7 5 = 0 := z.1; have z2 : F 7 6 = v := z.2; omega))
theorem qtX7_isWord (l : Launch) : am_CT l layX qeX7_isWord := am_met0 rfl (by decide +kernel) rfl rfl rfl rfl rfl (fun _ => rfl) rfl (qzX7_isWord l) (fun k e1 h => (qyX7_isWord l k e1 h).2) (fun as F A K h => by
  replace h : qsX7_isWord as F A K := h
  unfold qsX7_isWord at h
  split at h
  · rename_i o v
    refine ⟨by first | exact Nat.le_of_ble_eq_true rfl | simp [am_fl, am_cat], ?_⟩
    replace h := am_cond2 h
    rcases h with ⟨hb, h⟩ | h
    · skip
      have hb0 := hb
      have hb0 := am_bq hb0
      subst hb0
      exact am_way_line (qvX7_isWord_7 v F A K h)
    exact h.elim
  · exact h.elim)
def qkX7_isReserved : Nat → Option CI := fun pc => cond (Nat.ble 36 pc) none (cond (Nat.ble 18 pc) (cond (Nat.ble 27 pc) (cond (Nat.ble 31 pc) (cond (Nat.beq pc 31) (some (.goto 4, 34, [35])) (cond (Nat.beq pc 34) (some (.iconst 0, 35, [])) (cond (Nat.beq pc 35) (some (.ireturn, 36, [])) (none)))) (cond (Nat.beq pc 27) (some (.if_icmp .ne 7, 30, [34])) (cond (Nat.beq pc 30) (some (.iconst 1, 31, [])) (none)))) (cond (Nat.ble 21 pc) (cond (Nat.beq pc 21) (some (.if_icmp .eq 9, 24, [30])) (cond (Nat.beq pc 24) (some (.iload_n 0, 25, [])) (cond (Nat.beq pc 25) (some (.ldc 105, 27, [])) (none)))) (cond (Nat.beq pc 18) (some (.iload_n 0, 19, [])) (cond (Nat.beq pc 19) (some (.ldc 104, 21, [])) (none))))) (cond (Nat.ble 7 pc) (cond (Nat.ble 12 pc) (cond (Nat.beq pc 12) (some (.iload_n 0, 13, [])) (cond (Nat.beq pc 13) (some (.ldc 58, 15, [])) (cond (Nat.beq pc 15) (some (.if_icmp .eq 15, 18, [30])) (none)))) (cond (Nat.beq pc 7) (some (.ldc 54, 9, [])) (cond (Nat.beq pc 9) (some (.if_icmp .eq 21, 12, [30])) (none)))) (cond (Nat.ble 3 pc) (cond (Nat.beq pc 3) (some (.if_icmp .eq 27, 6, [30])) (cond (Nat.beq pc 6) (some (.iload_n 0, 7, [])) (none))) (cond (Nat.beq pc 0) (some (.iload_n 0, 1, [])) (cond (Nat.beq pc 1) (some (.ldc 46, 3, [])) (none))))))
theorem qkX7_isReserved_ok : ∀ pc i nx ts, qkX7_isReserved pc = some (i, nx, ts) → am_cok cX7_isReserved pc (i, nx, ts) = true := fun pc i nx ts h => am_tok_ok (n := 36) (by decide +kernel) (fun pc h => by show cond (Nat.ble 36 pc) _ _ = _; rw [Nat.ble_eq_true_of_le h]; rfl) h
def qaX7_isReserved : Nat → Option CE := fun k => none
theorem qyX7_isReserved (l : Launch) : ∀ k e1, qaX7_isReserved k = some e1 → am_cal l layX RX7 3 k e1 ∧ ceT e1 = 0 := q_nil
def qxX7_isReserved : CX := (qkX7_isReserved, layX, qfX7, qaX7_isReserved, qcX7, qlX7, qmX7, (some .boolean), false, none, 0, none, fun _ => none)
theorem qzX7_isReserved (l : Launch) : am_sta l qxX7_isReserved RX7 3 cX7_isReserved := ⟨qkX7_isReserved_ok, layX_ok, qfX7_ok, qcX7_ok, qlX7_ok, am_mthP qmX7_ok (by decide), fun k e1 h => (qyX7_isReserved l k e1 h).1⟩
def qsX7_isReserved : SP := fun as F A K => match as with
  | [.inl v] => ((-2147483648 ≤ v ∧ v < 2147483648)) ∧ (K (some (some (vI (bi (rvP v))))) F A)
  | _ => False
def qeX7_isReserved : CE := (yX7_isReserved, cX7_isReserved, 1, (some .boolean), 1, none, 0, none, 0, 3, qsX7_isReserved)
theorem qbX7_isReserved : am_mb qeX7_isReserved := ⟨am_tb_at 669 (by decide +kernel) rfl, am_tb_at 38 (by decide +kernel) rfl, ⟨by decide, by decide, by decide +kernel⟩, by decide, am_tb_at 668 (by decide +kernel) rfl⟩
set_option maxRecDepth 20000 in
theorem qvX7_isReserved (v : Int) (F : FF) (A : AA) (K : KK) (h : ((-2147483648 ≤ v ∧ v < 2147483648)) ∧ (K (some (some (vI (bi (rvP v))))) F A)) : am_line qxX7_isReserved 19 [vI v] 1 F A K := by
  show am_stp qxX7_isReserved (am_run qxX7_isReserved (fun _ => none) (fun _ _ _ _ _ _ => False) K 19) K 0 [some (vI v)] [] F A 0
  obtain ⟨hp, h⟩ := h
  show (w32 v = w32 123295904 → ((1 = 0 ∨ 1 = 1) ∧ (K (some (some (vI 1))) F A))) ∧ (¬ w32 v = w32 123295904 → ((w32 v = w32 412554240 → ((1 = 0 ∨ 1 = 1) ∧ (K (some (some (vI 1))) F A))) ∧ (¬ w32 v = w32 412554240 → ((w32 v = w32 643432448 → ((1 = 0 ∨ 1 = 1) ∧ (K (some (some (vI 1))) F A))) ∧ (¬ w32 v = w32 643432448 → ((w32 v = w32 412526208 → ((1 = 0 ∨ 1 = 1) ∧ (K (some (some (vI 1))) F A))) ∧ (¬ w32 v = w32 412526208 → ((w32 v = w32 140005632 → ((1 = 0 ∨ 1 = 1) ∧ (K (some (some (vI 1))) F A))) ∧ (¬ w32 v = w32 140005632 → ((0 = 0 ∨ 0 = 1) ∧ (K (some (some (vI 0))) F A)))))))))))
  refine ⟨fun c1 => ?_, fun c1 => ?_⟩
  · skip
    (try simp (disch := omega) only [w32_0, wbi0, Classical.not_not, w32_id] at c1)
    refine ⟨by first | exact Or.inl rfl | exact Or.inr rfl, ?_⟩
    first | exact K_eq h (bi_t (by unfold rvP; omega)) | exact K_eq h (bi_f (by unfold rvP; omega))
  · skip
    (try simp (disch := omega) only [w32_0, wbi0, Classical.not_not, w32_id] at c1)
    refine ⟨fun c2 => ?_, fun c2 => ?_⟩
    · skip
      (try simp (disch := omega) only [w32_0, wbi0, Classical.not_not, w32_id] at c2)
      refine ⟨by first | exact Or.inl rfl | exact Or.inr rfl, ?_⟩
      first | exact K_eq h (bi_t (by unfold rvP; omega)) | exact K_eq h (bi_f (by unfold rvP; omega))
    · skip
      (try simp (disch := omega) only [w32_0, wbi0, Classical.not_not, w32_id] at c2)
      refine ⟨fun c3 => ?_, fun c3 => ?_⟩
      · skip
        (try simp (disch := omega) only [w32_0, wbi0, Classical.not_not, w32_id] at c3)
        refine ⟨by first | exact Or.inl rfl | exact Or.inr rfl, ?_⟩
        first | exact K_eq h (bi_t (by unfold rvP; omega)) | exact K_eq h (bi_f (by unfold rvP; omega))
      · skip
        (try simp (disch := omega) only [w32_0, wbi0, Classical.not_not, w32_id] at c3)
        refine ⟨fun c4 => ?_, fun c4 => ?_⟩
        · skip
          (try simp (disch := omega) only [w32_0, wbi0, Classical.not_not, w32_id] at c4)
          refine ⟨by first | exact Or.inl rfl | exact Or.inr rfl, ?_⟩
          first | exact K_eq h (bi_t (by unfold rvP; omega)) | exact K_eq h (bi_f (by unfold rvP; omega))
        · skip
          (try simp (disch := omega) only [w32_0, wbi0, Classical.not_not, w32_id] at c4)
          refine ⟨fun c5 => ?_, fun c5 => ?_⟩
          · skip
            (try simp (disch := omega) only [w32_0, wbi0, Classical.not_not, w32_id] at c5)
            refine ⟨by first | exact Or.inl rfl | exact Or.inr rfl, ?_⟩
            first | exact K_eq h (bi_t (by unfold rvP; omega)) | exact K_eq h (bi_f (by unfold rvP; omega))
          · skip
            (try simp (disch := omega) only [w32_0, wbi0, Classical.not_not, w32_id] at c5)
            refine ⟨by first | exact Or.inl rfl | exact Or.inr rfl, ?_⟩
            first | exact K_eq h (bi_t (by unfold rvP; omega)) | exact K_eq h (bi_f (by unfold rvP; omega))
theorem qtX7_isReserved (l : Launch) : am_CT l layX qeX7_isReserved := am_met0 rfl (by decide +kernel) rfl rfl rfl rfl rfl (fun _ => rfl) rfl (qzX7_isReserved l) (fun k e1 h => (qyX7_isReserved l k e1 h).2) (fun as F A K h => by
  replace h : qsX7_isReserved as F A K := h
  unfold qsX7_isReserved at h
  split at h
  · rename_i v
    refine ⟨by first | exact Nat.le_of_ble_eq_true rfl | simp [am_fl, am_cat], ?_⟩
    exact am_way_line (qvX7_isReserved v F A K h)
  · exact h.elim)
def qkX7_checkInteger : Nat → Option CI := fun pc => cond (Nat.ble 30 pc) none (cond (Nat.ble 15 pc) (cond (Nat.ble 23 pc) (cond (Nat.ble 27 pc) (cond (Nat.beq pc 27) (some (.bipush (-12), 29, [])) (cond (Nat.beq pc 29) (some (.ireturn, 30, [])) (none))) (cond (Nat.beq pc 23) (some (.iconst 0, 24, [])) (cond (Nat.beq pc 24) (some (.goto 5, 27, [29])) (none)))) (cond (Nat.ble 17 pc) (cond (Nat.beq pc 17) (some (.invokestatic 121, 20, [])) (cond (Nat.beq pc 20) (some (.ifCond .eq 7, 23, [27])) (none))) (cond (Nat.beq pc 15) (some (.iload_n 1, 16, [])) (cond (Nat.beq pc 16) (some (.iload_n 2, 17, [])) (none))))) (cond (Nat.ble 8 pc) (cond (Nat.ble 11 pc) (cond (Nat.beq pc 11) (some (.aload_n 0, 12, [])) (cond (Nat.beq pc 12) (some (.getfield 69, 15, [])) (none))) (cond (Nat.beq pc 8) (some (.bipush (-11), 10, [])) (cond (Nat.beq pc 10) (some (.ireturn, 11, [])) (none)))) (cond (Nat.ble 4 pc) (cond (Nat.beq pc 4) (some (.iconst 1, 5, [])) (cond (Nat.beq pc 5) (some (.if_icmp .eq 6, 8, [11])) (none))) (cond (Nat.beq pc 0) (some (.aload_n 0, 1, [])) (cond (Nat.beq pc 1) (some (.getfield 39, 4, [])) (none))))))
theorem qkX7_checkInteger_ok : ∀ pc i nx ts, qkX7_checkInteger pc = some (i, nx, ts) → am_cok cX7_checkInteger pc (i, nx, ts) = true := fun pc i nx ts h => am_tok_ok (n := 30) (by decide +kernel) (fun pc h => by show cond (Nat.ble 30 pc) _ _ = _; rw [Nat.ble_eq_true_of_le h]; rfl) h
def qaX7_checkInteger : Nat → Option CE := fun k => cond (Nat.beq k 121) (some qeX8_isWithin) (none)
theorem qyX7_checkInteger (l : Launch) : ∀ k e1, qaX7_checkInteger k = some e1 → am_cal l layX RX7 4 k e1 ∧ ceT e1 = 0 := q_cons ⟨am_calN (host := "CurveMeetings") (qtX8_isWithin l) qbX8_isWithin (by decide) rfl rfl (am_tb_at 703 (by decide +kernel) rfl), rfl⟩ (q_nil)
def qxX7_checkInteger : CX := (qkX7_checkInteger, layX, qfX7, qaX7_checkInteger, qcX7, qlX7, qmX7, (some .int), false, none, 0, none, fun _ => none)
theorem qzX7_checkInteger (l : Launch) : am_sta l qxX7_checkInteger RX7 4 cX7_checkInteger := ⟨qkX7_checkInteger_ok, layX_ok, qfX7_ok, qcX7_ok, qlX7_ok, am_mthP qmX7_ok (by decide), fun k e1 h => (qyX7_checkInteger l k e1 h).1⟩
def qsX7_checkInteger : SP := fun as F A K => match as with
  | [.inr (.inr o), .inl a, .inl b] => cond (Nat.beq o 7) (((-2147483648 ≤ a ∧ a < 2147483648) ∧ (-2147483648 ≤ b ∧ b < 2147483648) ∧ (-2147483648 ≤ (F 7 6) ∧ (F 7 6) < 2147483648) ∧ (-2147483648 ≤ (F 7 5) ∧ (F 7 5) < 2147483648)) ∧ (K (some (some (vI (inE a b (tkF F))))) F A)) (False)
  | _ => False
def qeX7_checkInteger : CE := (yX7_checkInteger, cX7_checkInteger, 3, (some .int), 2, some 7, 0, none, 0, 4, qsX7_checkInteger)
theorem qbX7_checkInteger : am_mb qeX7_checkInteger := ⟨am_tb_at 702 (by decide +kernel) rfl, am_tb_at 38 (by decide +kernel) rfl, ⟨by decide, by decide, by decide +kernel⟩, by decide, am_tb_at 701 (by decide +kernel) rfl, am_tb_at 12 (by decide +kernel) rfl, _, _, rfl⟩
set_option maxRecDepth 20000 in
theorem qvX7_checkInteger_7 (a : Int) (b : Int) (F : FF) (A : AA) (K : KK) (h : ((-2147483648 ≤ a ∧ a < 2147483648) ∧ (-2147483648 ≤ b ∧ b < 2147483648) ∧ (-2147483648 ≤ (F 7 6) ∧ (F 7 6) < 2147483648) ∧ (-2147483648 ≤ (F 7 5) ∧ (F 7 5) < 2147483648)) ∧ (K (some (some (vI (inE a b (tkF F))))) F A)) : am_line qxX7_checkInteger 14 [vR 7, vI a, vI b] 3 F A K := by
  show am_stp qxX7_checkInteger (am_run qxX7_checkInteger (fun _ => none) (fun _ _ _ _ _ _ => False) K 14) K 0 [some (vR 7), some (vI a), some (vI b)] [] F A 0
  obtain ⟨hp, h⟩ := h
  show (w32 (F 7 5) = w32 1 → ((w32 (bi (w32 a ≤ w32 (F 7 6) ∧ w32 (F 7 6) ≤ w32 b)) = w32 0 → (K (some (some (vI (-12)))) F A)) ∧ (¬ (w32 (bi (w32 a ≤ w32 (F 7 6) ∧ w32 (F 7 6) ≤ w32 b)) = w32 0) → (K (some (some (vI 0))) F A)))) ∧ (¬ w32 (F 7 5) = w32 1 → (K (some (some (vI (-11)))) F A))
  refine ⟨fun c1 => ?_, fun c1 => ?_⟩
  · skip
    (try simp (disch := omega) only [w32_0, wbi0, Classical.not_not, w32_id] at c1)
    refine ⟨fun c2 => ?_, fun c2 => ?_⟩
    · skip
      (try simp (disch := omega) only [w32_0, wbi0, Classical.not_not, w32_id] at c2)
      refine K_eq h ?_
      unfold inE tkF
      dsimp only
      first | (rw [if_neg (by omega)]; done) | (rw [if_pos (by omega), if_pos (by omega)]; done) | (rw [if_pos (by omega), if_neg (by omega)]; done)
    · skip
      (try simp (disch := omega) only [w32_0, wbi0, Classical.not_not, w32_id] at c2)
      refine K_eq h ?_
      unfold inE tkF
      dsimp only
      first | (rw [if_neg (by omega)]; done) | (rw [if_pos (by omega), if_pos (by omega)]; done) | (rw [if_pos (by omega), if_neg (by omega)]; done)
  · skip
    (try simp (disch := omega) only [w32_0, wbi0, Classical.not_not, w32_id] at c1)
    refine K_eq h ?_
    unfold inE tkF
    dsimp only
    first | (rw [if_neg (by omega)]; done) | (rw [if_pos (by omega), if_pos (by omega)]; done) | (rw [if_pos (by omega), if_neg (by omega)]; done)
theorem qtX7_checkInteger (l : Launch) : am_CT l layX qeX7_checkInteger := am_met0 rfl (by decide +kernel) rfl rfl rfl rfl rfl (fun _ => rfl) rfl (qzX7_checkInteger l) (fun k e1 h => (qyX7_checkInteger l k e1 h).2) (fun as F A K h => by
  replace h : qsX7_checkInteger as F A K := h
  unfold qsX7_checkInteger at h
  split at h
  · rename_i o a b
    refine ⟨by first | exact Nat.le_of_ble_eq_true rfl | simp [am_fl, am_cat], ?_⟩
    replace h := am_cond2 h
    rcases h with ⟨hb, h⟩ | h
    · skip
      have hb0 := hb
      have hb0 := am_bq hb0
      subst hb0
      exact am_way_line (qvX7_checkInteger_7 a b F A K h)
    exact h.elim
  · exact h.elim)
def qkX7_checkPointNumber : Nat → Option CI := fun pc => cond (Nat.ble 38 pc) none (cond (Nat.ble 18 pc) (cond (Nat.ble 27 pc) (cond (Nat.ble 33 pc) (cond (Nat.beq pc 33) (some (.goto 4, 36, [37])) (cond (Nat.beq pc 36) (some (.iload_n 3, 37, [])) (cond (Nat.beq pc 37) (some (.ireturn, 38, [])) (none)))) (cond (Nat.beq pc 27) (some (.iconst 4, 28, [])) (cond (Nat.beq pc 28) (some (.if_icmp .lt 8, 31, [36])) (cond (Nat.beq pc 31) (some (.bipush (-14), 33, [])) (none))))) (cond (Nat.ble 22 pc) (cond (Nat.beq pc 22) (some (.iload_n 3, 23, [])) (cond (Nat.beq pc 23) (some (.ifCond .ne 13, 26, [36])) (cond (Nat.beq pc 26) (some (.iload_n 1, 27, [])) (none)))) (cond (Nat.beq pc 18) (some (.invokevirtual 88, 21, [])) (cond (Nat.beq pc 21) (some (.istore_n 3, 22, [])) (none))))) (cond (Nat.ble 7 pc) (cond (Nat.ble 14 pc) (cond (Nat.beq pc 14) (some (.aload_n 0, 15, [])) (cond (Nat.beq pc 15) (some (.iconst 0, 16, [])) (cond (Nat.beq pc 16) (some (.bipush 20, 18, [])) (none)))) (cond (Nat.beq pc 7) (some (.iconst 3, 8, [])) (cond (Nat.beq pc 8) (some (.invokevirtual 88, 11, [])) (cond (Nat.beq pc 11) (some (.goto 10, 14, [21])) (none))))) (cond (Nat.ble 2 pc) (cond (Nat.beq pc 2) (some (.if_icmp .ne 12, 5, [14])) (cond (Nat.beq pc 5) (some (.aload_n 0, 6, [])) (cond (Nat.beq pc 6) (some (.iconst 1, 7, [])) (none)))) (cond (Nat.beq pc 0) (some (.iload_n 2, 1, [])) (cond (Nat.beq pc 1) (some (.iconst 2, 2, [])) (none))))))
theorem qkX7_checkPointNumber_ok : ∀ pc i nx ts, qkX7_checkPointNumber pc = some (i, nx, ts) → am_cok cX7_checkPointNumber pc (i, nx, ts) = true := fun pc i nx ts h => am_tok_ok (n := 38) (by decide +kernel) (fun pc h => by show cond (Nat.ble 38 pc) _ _ = _; rw [Nat.ble_eq_true_of_le h]; rfl) h
def qaX7_checkPointNumber : Nat → Option CE := fun k => cond (Nat.beq k 88) (some qeX7_checkInteger) (none)
theorem qyX7_checkPointNumber (l : Launch) : ∀ k e1, qaX7_checkPointNumber k = some e1 → am_cal l layX RX7 5 k e1 ∧ ceT e1 = 0 := q_cons ⟨am_calV (ci := 7) (qtX7_checkInteger l) qbX7_checkInteger (by decide) rfl (am_tb_at 699 (by decide +kernel) rfl), rfl⟩ (q_nil)
def qxX7_checkPointNumber : CX := (qkX7_checkPointNumber, layX, qfX7, qaX7_checkPointNumber, qcX7, qlX7, qmX7, (some .int), false, none, 0, none, fun _ => none)
theorem qzX7_checkPointNumber (l : Launch) : am_sta l qxX7_checkPointNumber RX7 5 cX7_checkPointNumber := ⟨qkX7_checkPointNumber_ok, layX_ok, qfX7_ok, qcX7_ok, qlX7_ok, am_mthP qmX7_ok (by decide), fun k e1 h => (qyX7_checkPointNumber l k e1 h).1⟩
def qsX7_checkPointNumber : SP := fun as F A K => match as with
  | [.inr (.inr o), .inl k, .inl w] => cond (Nat.beq o 7) (((0 ≤ k ∧ k ≤ 4) ∧ (0 ≤ w ∧ w ≤ 2) ∧ (-2147483648 ≤ (F 7 6) ∧ (F 7 6) < 2147483648) ∧ (-2147483648 ≤ (F 7 5) ∧ (F 7 5) < 2147483648)) ∧ (K (some (some (vI (ptE k w (tkF F))))) F A)) (False)
  | _ => False
def qeX7_checkPointNumber : CE := (yX7_checkPointNumber, cX7_checkPointNumber, 4, (some .int), 2, some 7, 0, none, 0, 5, qsX7_checkPointNumber)
theorem qbX7_checkPointNumber : am_mb qeX7_checkPointNumber := ⟨am_tb_at 698 (by decide +kernel) rfl, am_tb_at 38 (by decide +kernel) rfl, ⟨by decide, by decide, by decide +kernel⟩, by decide, am_tb_at 697 (by decide +kernel) rfl, am_tb_at 11 (by decide +kernel) rfl, _, _, rfl⟩
set_option maxRecDepth 20000 in
theorem qvX7_checkPointNumber_7 (k : Int) (w : Int) (F : FF) (A : AA) (K : KK) (h : ((0 ≤ k ∧ k ≤ 4) ∧ (0 ≤ w ∧ w ≤ 2) ∧ (-2147483648 ≤ (F 7 6) ∧ (F 7 6) < 2147483648) ∧ (-2147483648 ≤ (F 7 5) ∧ (F 7 5) < 2147483648)) ∧ (K (some (some (vI (ptE k w (tkF F))))) F A)) : am_line qxX7_checkPointNumber 18 [vR 7, vI k, vI w] 4 F A K := by
  show am_stp qxX7_checkPointNumber (am_run qxX7_checkPointNumber (fun _ => none) (fun _ _ _ _ _ _ => False) K 18) K 0 [some (vR 7), some (vI k), some (vI w), none] [] F A 0
  obtain ⟨hp, h⟩ := h
  show (w32 w = w32 2 → (((-2147483648 ≤ 1 ∧ 1 < 2147483648) ∧ (-2147483648 ≤ 3 ∧ 3 < 2147483648) ∧ (-2147483648 ≤ (F 7 6) ∧ (F 7 6) < 2147483648) ∧ (-2147483648 ≤ (F 7 5) ∧ (F 7 5) < 2147483648)) ∧ ((w32 (inE 1 3 (tkF F)) = w32 0 → ((w32 k < w32 4 → (K (some (some (vI (inE 1 3 (tkF F))))) F A)) ∧ (¬ w32 k < w32 4 → (K (some (some (vI (-14)))) F A)))) ∧ (¬ w32 (inE 1 3 (tkF F)) = w32 0 → (K (some (some (vI (inE 1 3 (tkF F))))) F A))))) ∧ (¬ w32 w = w32 2 → (((-2147483648 ≤ 0 ∧ 0 < 2147483648) ∧ (-2147483648 ≤ 20 ∧ 20 < 2147483648) ∧ (-2147483648 ≤ (F 7 6) ∧ (F 7 6) < 2147483648) ∧ (-2147483648 ≤ (F 7 5) ∧ (F 7 5) < 2147483648)) ∧ ((w32 (inE 0 20 (tkF F)) = w32 0 → ((w32 k < w32 4 → (K (some (some (vI (inE 0 20 (tkF F))))) F A)) ∧ (¬ w32 k < w32 4 → (K (some (some (vI (-14)))) F A)))) ∧ (¬ w32 (inE 0 20 (tkF F)) = w32 0 → (K (some (some (vI (inE 0 20 (tkF F))))) F A)))))
  refine ⟨fun c1 => ?_, fun c1 => ?_⟩
  · skip
    (try (have b1 := inE_b 1 3 (tkF F))); (try (have b2 := inE_b 0 20 (tkF F))); (try simp (disch := omega) only [w32_0, wbi0, Classical.not_not, w32_id] at c1)
    refine ⟨by exact ⟨by omega, by omega, hp.2.2.1, hp.2.2.2⟩, ?_⟩
    refine ⟨fun c2 => ?_, fun c2 => ?_⟩
    · skip
      (try (have b1 := inE_b 1 3 (tkF F))); (try (have b2 := inE_b 0 20 (tkF F))); (try simp (disch := omega) only [w32_0, wbi0, Classical.not_not, w32_id] at c2)
      refine ⟨fun c3 => ?_, fun c3 => ?_⟩
      · skip
        (try (have b1 := inE_b 1 3 (tkF F))); (try (have b2 := inE_b 0 20 (tkF F))); (try simp (disch := omega) only [w32_0, wbi0, Classical.not_not, w32_id] at c3)
        refine K_eq h ?_
        unfold ptE
        first
        | (simp only [if_pos (show w = 2 by omega)]; first | (rw [if_pos (by omega)]; done) | (rw [if_neg (by omega)]; done))
        | (simp only [if_neg (show ¬ w = 2 by omega)]; first | (rw [if_pos (by omega)]; done) | (rw [if_neg (by omega)]; done))
      · skip
        (try (have b1 := inE_b 1 3 (tkF F))); (try (have b2 := inE_b 0 20 (tkF F))); (try simp (disch := omega) only [w32_0, wbi0, Classical.not_not, w32_id] at c3)
        refine K_eq h ?_
        unfold ptE
        first
        | (simp only [if_pos (show w = 2 by omega)]; first | (rw [if_pos (by omega)]; done) | (rw [if_neg (by omega)]; done))
        | (simp only [if_neg (show ¬ w = 2 by omega)]; first | (rw [if_pos (by omega)]; done) | (rw [if_neg (by omega)]; done))
    · skip
      (try (have b1 := inE_b 1 3 (tkF F))); (try (have b2 := inE_b 0 20 (tkF F))); (try simp (disch := omega) only [w32_0, wbi0, Classical.not_not, w32_id] at c2)
      refine K_eq h ?_
      unfold ptE
      first
      | (simp only [if_pos (show w = 2 by omega)]; first | (rw [if_pos (by omega)]; done) | (rw [if_neg (by omega)]; done))
      | (simp only [if_neg (show ¬ w = 2 by omega)]; first | (rw [if_pos (by omega)]; done) | (rw [if_neg (by omega)]; done))
  · skip
    (try (have b1 := inE_b 1 3 (tkF F))); (try (have b2 := inE_b 0 20 (tkF F))); (try simp (disch := omega) only [w32_0, wbi0, Classical.not_not, w32_id] at c1)
    refine ⟨by exact ⟨by omega, by omega, hp.2.2.1, hp.2.2.2⟩, ?_⟩
    refine ⟨fun c2 => ?_, fun c2 => ?_⟩
    · skip
      (try (have b1 := inE_b 1 3 (tkF F))); (try (have b2 := inE_b 0 20 (tkF F))); (try simp (disch := omega) only [w32_0, wbi0, Classical.not_not, w32_id] at c2)
      refine ⟨fun c3 => ?_, fun c3 => ?_⟩
      · skip
        (try (have b1 := inE_b 1 3 (tkF F))); (try (have b2 := inE_b 0 20 (tkF F))); (try simp (disch := omega) only [w32_0, wbi0, Classical.not_not, w32_id] at c3)
        refine K_eq h ?_
        unfold ptE
        first
        | (simp only [if_pos (show w = 2 by omega)]; first | (rw [if_pos (by omega)]; done) | (rw [if_neg (by omega)]; done))
        | (simp only [if_neg (show ¬ w = 2 by omega)]; first | (rw [if_pos (by omega)]; done) | (rw [if_neg (by omega)]; done))
      · skip
        (try (have b1 := inE_b 1 3 (tkF F))); (try (have b2 := inE_b 0 20 (tkF F))); (try simp (disch := omega) only [w32_0, wbi0, Classical.not_not, w32_id] at c3)
        refine K_eq h ?_
        unfold ptE
        first
        | (simp only [if_pos (show w = 2 by omega)]; first | (rw [if_pos (by omega)]; done) | (rw [if_neg (by omega)]; done))
        | (simp only [if_neg (show ¬ w = 2 by omega)]; first | (rw [if_pos (by omega)]; done) | (rw [if_neg (by omega)]; done))
    · skip
      (try (have b1 := inE_b 1 3 (tkF F))); (try (have b2 := inE_b 0 20 (tkF F))); (try simp (disch := omega) only [w32_0, wbi0, Classical.not_not, w32_id] at c2)
      refine K_eq h ?_
      unfold ptE
      first
      | (simp only [if_pos (show w = 2 by omega)]; first | (rw [if_pos (by omega)]; done) | (rw [if_neg (by omega)]; done))
      | (simp only [if_neg (show ¬ w = 2 by omega)]; first | (rw [if_pos (by omega)]; done) | (rw [if_neg (by omega)]; done))
theorem qtX7_checkPointNumber (l : Launch) : am_CT l layX qeX7_checkPointNumber := am_met0 rfl (by decide +kernel) rfl rfl rfl rfl rfl (fun _ => rfl) rfl (qzX7_checkPointNumber l) (fun k e1 h => (qyX7_checkPointNumber l k e1 h).2) (fun as F A K h => by
  replace h : qsX7_checkPointNumber as F A K := h
  unfold qsX7_checkPointNumber at h
  split at h
  · rename_i o k w
    refine ⟨by first | exact Nat.le_of_ble_eq_true rfl | simp [am_fl, am_cat], ?_⟩
    replace h := am_cond2 h
    rcases h with ⟨hb, h⟩ | h
    · skip
      have hb0 := hb
      have hb0 := am_bq hb0
      subst hb0
      exact am_way_line (qvX7_checkPointNumber_7 k w F A K h)
    exact h.elim
  · exact h.elim)
def qkX7_checkName : Nat → Option CI := fun pc => cond (Nat.ble 68 pc) none (cond (Nat.ble 36 pc) (cond (Nat.ble 52 pc) (cond (Nat.ble 58 pc) (cond (Nat.ble 63 pc) (cond (Nat.beq pc 63) (some (.goto 4, 66, [67])) (cond (Nat.beq pc 66) (some (.iconst 0, 67, [])) (cond (Nat.beq pc 67) (some (.ireturn, 68, [])) (none)))) (cond (Nat.beq pc 58) (some (.ifCond .eq 8, 61, [66])) (cond (Nat.beq pc 61) (some (.bipush (-13), 63, [])) (none)))) (cond (Nat.ble 56 pc) (cond (Nat.beq pc 56) (some (.istore_n 2, 57, [])) (cond (Nat.beq pc 57) (some (.iload_n 2, 58, [])) (none))) (cond (Nat.beq pc 52) (some (.goto 4, 55, [56])) (cond (Nat.beq pc 55) (some (.iconst 0, 56, [])) (none))))) (cond (Nat.ble 44 pc) (cond (Nat.ble 48 pc) (cond (Nat.beq pc 48) (some (.if_icmp .eq 7, 51, [55])) (cond (Nat.beq pc 51) (some (.iconst 1, 52, [])) (none))) (cond (Nat.beq pc 44) (some (.invokevirtual 118, 47, [])) (cond (Nat.beq pc 47) (some (.iconst (-1), 48, [])) (none)))) (cond (Nat.ble 40 pc) (cond (Nat.beq pc 40) (some (.aload_n 0, 41, [])) (cond (Nat.beq pc 41) (some (.getfield 69, 44, [])) (none))) (cond (Nat.beq pc 36) (some (.if_icmp .ne 15, 39, [51])) (cond (Nat.beq pc 39) (some (.aload_n 1, 40, [])) (none)))))) (cond (Nat.ble 18 pc) (cond (Nat.ble 27 pc) (cond (Nat.ble 29 pc) (cond (Nat.beq pc 29) (some (.getfield 69, 32, [])) (cond (Nat.beq pc 32) (some (.invokevirtual 115, 35, [])) (cond (Nat.beq pc 35) (some (.iconst (-1), 36, [])) (none)))) (cond (Nat.beq pc 27) (some (.aload_n 1, 28, [])) (cond (Nat.beq pc 28) (some (.aload_n 0, 29, [])) (none)))) (cond (Nat.ble 24 pc) (cond (Nat.beq pc 24) (some (.bipush (-11), 26, [])) (cond (Nat.beq pc 26) (some (.ireturn, 27, [])) (none))) (cond (Nat.beq pc 18) (some (.invokestatic 112, 21, [])) (cond (Nat.beq pc 21) (some (.ifCond .eq 6, 24, [27])) (none))))) (cond (Nat.ble 8 pc) (cond (Nat.ble 14 pc) (cond (Nat.beq pc 14) (some (.aload_n 0, 15, [])) (cond (Nat.beq pc 15) (some (.getfield 69, 18, [])) (none))) (cond (Nat.beq pc 8) (some (.getfield 69, 11, [])) (cond (Nat.beq pc 11) (some (.ifCond .eq 13, 14, [24])) (none)))) (cond (Nat.ble 4 pc) (cond (Nat.beq pc 4) (some (.ifCond .ne 20, 7, [24])) (cond (Nat.beq pc 7) (some (.aload_n 0, 8, [])) (none))) (cond (Nat.beq pc 0) (some (.aload_n 0, 1, [])) (cond (Nat.beq pc 1) (some (.getfield 39, 4, [])) (none)))))))
theorem qkX7_checkName_ok : ∀ pc i nx ts, qkX7_checkName pc = some (i, nx, ts) → am_cok cX7_checkName pc (i, nx, ts) = true := fun pc i nx ts h => am_tok_ok (n := 68) (by decide +kernel) (fun pc h => by show cond (Nat.ble 68 pc) _ _ = _; rw [Nat.ble_eq_true_of_le h]; rfl) h
def qaX7_checkName : Nat → Option CE := fun k => cond (Nat.beq k 112) (some qeX7_isReserved) (cond (Nat.beq k 115) (some qeX2_findCurve) (cond (Nat.beq k 118) (some qeX2_findLine) (none)))
theorem qyX7_checkName (l : Launch) : ∀ k e1, qaX7_checkName k = some e1 → am_cal l layX RX7 6 k e1 ∧ ceT e1 = 0 := q_cons ⟨am_calS (qtX7_isReserved l) qbX7_isReserved (by decide) rfl (by decide) (am_tb_at 667 (by decide +kernel) rfl), rfl⟩ (q_cons ⟨am_calV (ci := 2) (qtX2_findCurve l) qbX2_findCurve (by decide) rfl (am_tb_at 674 (by decide +kernel) rfl), rfl⟩ (q_cons ⟨am_calV (ci := 2) (qtX2_findLine l) qbX2_findLine (by decide) rfl (am_tb_at 683 (by decide +kernel) rfl), rfl⟩ (q_nil)))
def qxX7_checkName : CX := (qkX7_checkName, layX, qfX7, qaX7_checkName, qcX7, qlX7, qmX7, (some .int), false, none, 0, none, fun _ => none)
theorem qzX7_checkName (l : Launch) : am_sta l qxX7_checkName RX7 6 cX7_checkName := ⟨qkX7_checkName_ok, layX_ok, qfX7_ok, qcX7_ok, qlX7_ok, am_mthP qmX7_ok (by decide), fun k e1 h => (qyX7_checkName l k e1 h).1⟩
def qsX7_checkName : SP := fun as F A K => match as with
  | [.inr (.inr o), .inr (.inr p)] => cond (Nat.beq o 7 && Nat.beq p 3) ((ctOK (A 4) ∧ (-2147483648 ≤ (F 7 6) ∧ (F 7 6) < 2147483648) ∧ (-2147483648 ≤ (F 7 5) ∧ (F 7 5) < 2147483648)) ∧ (K (some (some (vI (nmE (A 4) (tkF F))))) F A)) (False)
  | _ => False
def qeX7_checkName : CE := (yX7_checkName, cX7_checkName, 3, (some .int), 1, some 7, 0, none, 0, 6, qsX7_checkName)
theorem qbX7_checkName : am_mb qeX7_checkName := ⟨am_tb_at 666 (by decide +kernel) rfl, am_tb_at 38 (by decide +kernel) rfl, ⟨by decide, by decide, by decide +kernel⟩, by decide, am_tb_at 665 (by decide +kernel) rfl, am_tb_at 9 (by decide +kernel) rfl, _, _, rfl⟩
set_option maxRecDepth 20000 in
theorem qvX7_checkName_7_3  (F : FF) (A : AA) (K : KK) (h : (ctOK (A 4) ∧ (-2147483648 ≤ (F 7 6) ∧ (F 7 6) < 2147483648) ∧ (-2147483648 ≤ (F 7 5) ∧ (F 7 5) < 2147483648)) ∧ (K (some (some (vI (nmE (A 4) (tkF F))))) F A)) : am_line qxX7_checkName 31 [vR 7, vR 3] 3 F A K := by
  show am_stp qxX7_checkName (am_run qxX7_checkName (fun _ => none) (fun _ _ _ _ _ _ => False) K 31) K 0 [some (vR 7), some (vR 3), none] [] F A 0
  obtain ⟨hp, h⟩ := h
  obtain ⟨p1, p2', p3⟩ := hp
  have q1 := p1.1
  have q2 := p1.2
  have fc : fat (A 4) 0 = A 4 0 := fat_in (by omega) (by omega)
  have fl : fat (A 4) 1 = A 4 1 := fat_in (by omega) (by omega)
  have gb1 := firstk_b (fun jj => decide (w32 (fat (A 4) (4 + jj)) = w32 (F 7 6))) (Int.toNat (A 4 0))
  have gb2 := firstk_b (fun jj => decide (w32 (fat (A 4) (12 + jj)) = w32 (F 7 6))) (Int.toNat (A 4 1))
  have g1 : firstk (fun jj => decide (w32 (fat (A 4) (4 + jj)) = w32 (F 7 6))) (Int.toNat (A 4 0)) = fnC (A 4) (F 7 6) := rfl
  have g2 : firstk (fun jj => decide (w32 (fat (A 4) (12 + jj)) = w32 (F 7 6))) (Int.toNat (A 4 1)) = fnL (A 4) (F 7 6) := rfl
  rw [g1] at gb1
  rw [g2] at gb2
  show (w32 (F 7 5) = w32 0 → ((w32 (F 7 6) = w32 0 → (K (some (some (vI (-11)))) F A)) ∧ (¬ w32 (F 7 6) = w32 0 → (((-2147483648 ≤ (F 7 6) ∧ (F 7 6) < 2147483648)) ∧ ((w32 (bi (rvP (F 7 6))) = w32 0 → ((0 ≤ fat (A 4) 0 ∧ fat (A 4) 0 ≤ 1000) ∧ ((w32 (firstk (fun k => decide (w32 (fat (A 4) (4 + k)) = w32 (F 7 6))) (fat (A 4) 0).toNat) = w32 (-1) → ((0 ≤ fat (A 4) 1 ∧ fat (A 4) 1 ≤ 1000) ∧ ((w32 (firstk (fun k => decide (w32 (fat (A 4) (12 + k)) = w32 (F 7 6))) (fat (A 4) 1).toNat) = w32 (-1) → ((w32 0 = w32 0 → (K (some (some (vI 0))) F A)) ∧ (¬ w32 0 = w32 0 → _))) ∧ (¬ w32 (firstk (fun k => decide (w32 (fat (A 4) (12 + k)) = w32 (F 7 6))) (fat (A 4) 1).toNat) = w32 (-1) → ((w32 1 = w32 0 → _) ∧ (¬ w32 1 = w32 0 → (K (some (some (vI (-13)))) F A))))))) ∧ (¬ w32 (firstk (fun k => decide (w32 (fat (A 4) (4 + k)) = w32 (F 7 6))) (fat (A 4) 0).toNat) = w32 (-1) → ((w32 1 = w32 0 → _) ∧ (¬ w32 1 = w32 0 → (K (some (some (vI (-13)))) F A))))))) ∧ (¬ w32 (bi (rvP (F 7 6))) = w32 0 → (K (some (some (vI (-11)))) F A))))))) ∧ (¬ w32 (F 7 5) = w32 0 → (K (some (some (vI (-11)))) F A))
  refine ⟨fun c1 => ?_, fun c1 => ?_⟩
  · skip
    (try simp only [fc, fl] at c1); (try simp only [g1, g2] at c1); (try simp (disch := omega) only [w32_0, wbi0, Classical.not_not, w32_id] at c1)
    refine ⟨fun c2 => ?_, fun c2 => ?_⟩
    · skip
      (try simp only [fc, fl] at c2); (try simp only [g1, g2] at c2); (try simp (disch := omega) only [w32_0, wbi0, Classical.not_not, w32_id] at c2)
      refine K_eq h ?_
      unfold nmE tkF
      dsimp only
      first
      | (rw [if_pos (by omega)]; done)
      | (rw [if_pos (Or.inr (Or.inr (by assumption)))]; done)
      | (rw [if_neg (fun z => by rcases z with z | z | z <;> first | omega | (unfold rvP at *; omega)), if_pos (by omega)]; done)
      | (rw [if_neg (fun z => by rcases z with z | z | z <;> first | omega | (unfold rvP at *; omega)), if_neg (by omega)]; done)
    · skip
      (try simp only [fc, fl] at c2); (try simp only [g1, g2] at c2); (try simp (disch := omega) only [w32_0, wbi0, Classical.not_not, w32_id] at c2)
      refine ⟨by first | exact p2' | (rw [fc]; omega) | (rw [fl]; omega), ?_⟩
      refine ⟨fun c3 => ?_, fun c3 => ?_⟩
      · skip
        (try simp only [fc, fl] at c3); (try simp only [g1, g2] at c3); (try simp (disch := omega) only [w32_0, wbi0, Classical.not_not, w32_id] at c3)
        refine ⟨by first | exact p2' | (rw [fc]; omega) | (rw [fl]; omega), ?_⟩
        refine ⟨fun c4 => ?_, fun c4 => ?_⟩
        · skip
          (try simp only [fc, fl] at c4); (try simp only [g1, g2] at c4); (try simp (disch := omega) only [w32_0, wbi0, Classical.not_not, w32_id] at c4)
          refine ⟨by first | exact p2' | (rw [fc]; omega) | (rw [fl]; omega), ?_⟩
          refine ⟨fun c5 => ?_, fun c5 => ?_⟩
          · skip
            (try simp only [fc, fl] at c5); (try simp only [g1, g2] at c5); (try simp (disch := omega) only [w32_0, wbi0, Classical.not_not, w32_id] at c5)
            refine ⟨fun _ => ?_, fun q => absurd (by decide) q⟩
            refine K_eq h ?_
            unfold nmE tkF
            dsimp only
            first
            | (rw [if_pos (by omega)]; done)
            | (rw [if_pos (Or.inr (Or.inr (by assumption)))]; done)
            | (rw [if_neg (fun z => by rcases z with z | z | z <;> first | omega | (unfold rvP at *; omega)), if_pos (by omega)]; done)
            | (rw [if_neg (fun z => by rcases z with z | z | z <;> first | omega | (unfold rvP at *; omega)), if_neg (by omega)]; done)
          · skip
            (try simp only [fc, fl] at c5); (try simp only [g1, g2] at c5); (try simp (disch := omega) only [w32_0, wbi0, Classical.not_not, w32_id] at c5)
            refine ⟨fun q => absurd q (by decide), fun _ => ?_⟩
            refine K_eq h ?_
            unfold nmE tkF
            dsimp only
            first
            | (rw [if_pos (by omega)]; done)
            | (rw [if_pos (Or.inr (Or.inr (by assumption)))]; done)
            | (rw [if_neg (fun z => by rcases z with z | z | z <;> first | omega | (unfold rvP at *; omega)), if_pos (by omega)]; done)
            | (rw [if_neg (fun z => by rcases z with z | z | z <;> first | omega | (unfold rvP at *; omega)), if_neg (by omega)]; done)
        · skip
          (try simp only [fc, fl] at c4); (try simp only [g1, g2] at c4); (try simp (disch := omega) only [w32_0, wbi0, Classical.not_not, w32_id] at c4)
          refine ⟨fun q => absurd q (by decide), fun _ => ?_⟩
          refine K_eq h ?_
          unfold nmE tkF
          dsimp only
          first
          | (rw [if_pos (by omega)]; done)
          | (rw [if_pos (Or.inr (Or.inr (by assumption)))]; done)
          | (rw [if_neg (fun z => by rcases z with z | z | z <;> first | omega | (unfold rvP at *; omega)), if_pos (by omega)]; done)
          | (rw [if_neg (fun z => by rcases z with z | z | z <;> first | omega | (unfold rvP at *; omega)), if_neg (by omega)]; done)
      · skip
        (try simp only [fc, fl] at c3); (try simp only [g1, g2] at c3); (try simp (disch := omega) only [w32_0, wbi0, Classical.not_not, w32_id] at c3)
        refine K_eq h ?_
        unfold nmE tkF
        dsimp only
        first
        | (rw [if_pos (by omega)]; done)
        | (rw [if_pos (Or.inr (Or.inr (by assumption)))]; done)
        | (rw [if_neg (fun z => by rcases z with z | z | z <;> first | omega | (unfold rvP at *; omega)), if_pos (by omega)]; done)
        | (rw [if_neg (fun z => by rcases z with z | z | z <;> first | omega | (unfold rvP at *; omega)), if_neg (by omega)]; done)
  · skip
    (try simp only [fc, fl] at c1); (try simp only [g1, g2] at c1); (try simp (disch := omega) only [w32_0, wbi0, Classical.not_not, w32_id] at c1)
    refine K_eq h ?_
    unfold nmE tkF
    dsimp only
    first
    | (rw [if_pos (by omega)]; done)
    | (rw [if_pos (Or.inr (Or.inr (by assumption)))]; done)
    | (rw [if_neg (fun z => by rcases z with z | z | z <;> first | omega | (unfold rvP at *; omega)), if_pos (by omega)]; done)
    | (rw [if_neg (fun z => by rcases z with z | z | z <;> first | omega | (unfold rvP at *; omega)), if_neg (by omega)]; done)
theorem qtX7_checkName (l : Launch) : am_CT l layX qeX7_checkName := am_met0 rfl (by decide +kernel) rfl rfl rfl rfl rfl (fun _ => rfl) rfl (qzX7_checkName l) (fun k e1 h => (qyX7_checkName l k e1 h).2) (fun as F A K h => by
  replace h : qsX7_checkName as F A K := h
  unfold qsX7_checkName at h
  split at h
  · rename_i o p
    refine ⟨by first | exact Nat.le_of_ble_eq_true rfl | simp [am_fl, am_cat], ?_⟩
    replace h := am_cond2 h
    rcases h with ⟨hb, h⟩ | h
    · simp only [Bool.and_eq_true] at hb
      obtain ⟨hb0, hb1⟩ := hb
      have hb0 := am_bq hb0
      subst hb0
      have hb1 := am_bq hb1
      subst hb1
      exact am_way_line (qvX7_checkName_7_3  F A K h)
    exact h.elim
  · exact h.elim)
