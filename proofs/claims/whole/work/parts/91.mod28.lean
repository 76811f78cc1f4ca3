def qkX9_marksR : Nat → Option CI := fun pc => cond (Nat.ble 85 pc) none (cond (Nat.ble 45 pc) (cond (Nat.ble 64 pc) (cond (Nat.ble 72 pc) (cond (Nat.ble 75 pc) (cond (Nat.ble 81 pc) (cond (Nat.beq pc 81) (some (.goto (-32), 84, [49])) (cond (Nat.beq pc 84) (some (.return_, 85, [])) (none))) (cond (Nat.beq pc 75) (some (.invokevirtual 180, 78, [])) (cond (Nat.beq pc 78) (some (.iinc 4 1, 81, [])) (none)))) (cond (Nat.beq pc 72) (some (.iconst 2, 73, [])) (cond (Nat.beq pc 73) (some (.irem, 74, [])) (cond (Nat.beq pc 74) (some (.iadd, 75, [])) (none))))) (cond (Nat.ble 67 pc) (cond (Nat.ble 69 pc) (cond (Nat.beq pc 69) (some (.imul, 70, [])) (cond (Nat.beq pc 70) (some (.iload 4, 72, [])) (none))) (cond (Nat.beq pc 67) (some (.iconst 2, 68, [])) (cond (Nat.beq pc 68) (some (.iload_n 3, 69, [])) (none)))) (cond (Nat.beq pc 64) (some (.iconst 2, 65, [])) (cond (Nat.beq pc 65) (some (.idiv, 66, [])) (cond (Nat.beq pc 66) (some (.iadd, 67, [])) (none)))))) (cond (Nat.ble 56 pc) (cond (Nat.ble 59 pc) (cond (Nat.ble 61 pc) (cond (Nat.beq pc 61) (some (.imul, 62, [])) (cond (Nat.beq pc 62) (some (.iload 4, 64, [])) (none))) (cond (Nat.beq pc 59) (some (.iconst 2, 60, [])) (cond (Nat.beq pc 60) (some (.iload_n 2, 61, [])) (none)))) (cond (Nat.beq pc 56) (some (.iload_n 1, 57, [])) (cond (Nat.beq pc 57) (some (.iconst 1, 58, [])) (cond (Nat.beq pc 58) (some (.iadd, 59, [])) (none))))) (cond (Nat.ble 49 pc) (cond (Nat.ble 52 pc) (cond (Nat.beq pc 52) (some (.if_icmp .ge 32, 55, [84])) (cond (Nat.beq pc 55) (some (.aload_n 0, 56, [])) (none))) (cond (Nat.beq pc 49) (some (.iload 4, 51, [])) (cond (Nat.beq pc 51) (some (.iconst 4, 52, [])) (none)))) (cond (Nat.beq pc 45) (some (.return_, 46, [])) (cond (Nat.beq pc 46) (some (.iconst 0, 47, [])) (cond (Nat.beq pc 47) (some (.istore 4, 49, [])) (none))))))) (cond (Nat.ble 23 pc) (cond (Nat.ble 36 pc) (cond (Nat.ble 41 pc) (cond (Nat.ble 43 pc) (cond (Nat.beq pc 43) (some (.iconst 1, 44, [])) (cond (Nat.beq pc 44) (some (.bastore, 45, [])) (none))) (cond (Nat.beq pc 41) (some (.iload_n 3, 42, [])) (cond (Nat.beq pc 42) (some (.iadd, 43, [])) (none)))) (cond (Nat.beq pc 36) (some (.invokevirtual 176, 39, [])) (cond (Nat.beq pc 39) (some (.iload_n 2, 40, [])) (cond (Nat.beq pc 40) (some (.imul, 41, [])) (none))))) (cond (Nat.ble 28 pc) (cond (Nat.ble 32 pc) (cond (Nat.beq pc 32) (some (.getfield 50, 35, [])) (cond (Nat.beq pc 35) (some (.aload_n 0, 36, [])) (none))) (cond (Nat.beq pc 28) (some (.if_icmp .ne 18, 31, [46])) (cond (Nat.beq pc 31) (some (.aload_n 0, 32, [])) (none)))) (cond (Nat.beq pc 23) (some (.aload_n 0, 24, [])) (cond (Nat.beq pc 24) (some (.iconst 1, 25, [])) (cond (Nat.beq pc 25) (some (.invokevirtual 114, 28, [])) (none)))))) (cond (Nat.ble 10 pc) (cond (Nat.ble 15 pc) (cond (Nat.ble 21 pc) (cond (Nat.beq pc 21) (some (.return_, 22, [])) (cond (Nat.beq pc 22) (some (.iload_n 1, 23, [])) (none))) (cond (Nat.beq pc 15) (some (.invokevirtual 173, 18, [])) (cond (Nat.beq pc 18) (some (.ifCond .ne 4, 21, [22])) (none)))) (cond (Nat.beq pc 10) (some (.iload_n 3, 11, [])) (cond (Nat.beq pc 11) (some (.invokestatic 166, 14, [])) (cond (Nat.beq pc 14) (some (.iadd, 15, [])) (none))))) (cond (Nat.ble 3 pc) (cond (Nat.beq pc 3) (some (.invokestatic 166, 6, [])) (cond (Nat.beq pc 6) (some (.sipush 1016, 9, [])) (cond (Nat.beq pc 9) (some (.iload_n 1, 10, [])) (none)))) (cond (Nat.beq pc 0) (some (.aload_n 0, 1, [])) (cond (Nat.beq pc 1) (some (.iload_n 1, 2, [])) (cond (Nat.beq pc 2) (some (.iload_n 2, 3, [])) (none))))))))
theorem qkX9_marksR_ok : ∀ pc i nx ts, qkX9_marksR pc = some (i, nx, ts) → am_cok cX9_marks pc (i, nx, ts) = true := fun pc i nx ts h => am_tok_ok (n := 85) (by decide +kernel) (fun pc h => by show cond (Nat.ble 85 pc) _ _ = _; rw [Nat.ble_eq_true_of_le h]; rfl) h
def qsX9_marksR (f : Nat) : SP := fun as F A K => match as with
  | [.inr (.inr o), .inl l, .inl q, .inl r] => cond (Nat.beq o 25) (((1 ≤ mF A 3 ∧ mF A 3 ≤ 6) ∧ bxA (A 38) (mF A 3) ∧ (0 ≤ l ∧ l ≤ mF A 3 ∧ l + ((f : Nat) : Int) = 7) ∧ (0 ≤ q ∧ q < p2 l) ∧ 0 ≤ r ∧ r < p2 l) ∧ (∀ (B_1 : AA), (mk3 A B_1 (p2 (mF A 3)) (prF (mbG (A 38)) (mF A 3) f l q r)) → (K (some none) F B_1))) (False)
  | _ => False
def qeX9_marksR (f : Nat) : CE := (yX9_marks, cX9_marks, 5, none, 3, some 9, 0, [], 0, 5 + f, qsX9_marksR f)
theorem qbX9_marksR_0 : am_mb (yX9_marks, cX9_marks, 5, none, 3, some 9, 0, [], 0, 0, fun _ _ _ _ => True) := ⟨am_tb_at 1963 (by decide +kernel) rfl, am_tb_at 124 (by decide +kernel) rfl, ⟨by decide, by decide, by decide +kernel⟩, Nat.le_of_ble_eq_true rfl, (Nat.le_of_ble_eq_true rfl), am_tb_at 1962 (by decide +kernel) rfl, am_tb_at 105 (by decide +kernel) rfl, _, _, rfl⟩
theorem qbX9_marksR (f : Nat) : am_mb (qeX9_marksR f) := qbX9_marksR_0
def qaX9_marksR (f : Nat) : Nat → Option CE := fun k => cond (Nat.beq k 180) (some (qeX9_marksR f)) (cond (Nat.beq k 166) (some qeX9_boxAt) (cond (Nat.beq k 173) (some qeX9_meet) (cond (Nat.beq k 114) (some qeX9_set) (cond (Nat.beq k 176) (some qeX9_across) (none)))))
theorem qyX9_marksR (l : Launch) (f : Nat) (hf : am_CT l layM (qeX9_marksR f)) : ∀ k e1, qaX9_marksR f k = some e1 → am_cal l layM RX9 (5 + (f + 1)) k e1 ∧ ceT e1 = 0 := q_cons ⟨am_calV (ci := 9) hf (qbX9_marksR f) (show 5 + f + 1 ≤ 5 + (f + 1) by omega) rfl (show Cond.methodLink RX9 180 yX9_marks ∈ am_tb from am_tb_at 1960 (by decide +kernel) rfl), rfl⟩ (q_cons ⟨am_calS (qtX9_boxAt l) qbX9_boxAt (show 3 + 1 ≤ 5 + (f + 1) by omega) rfl (Or.inl rfl) (show Cond.methodLink RX9 166 yX9_boxAt ∈ am_tb from am_tb_at 1957 (by decide +kernel) rfl), rfl⟩ (q_cons ⟨am_calV (ci := 9) (qtX9_meet l) qbX9_meet (show 4 + 1 ≤ 5 + (f + 1) by omega) rfl (show Cond.methodLink RX9 173 yX9_meet ∈ am_tb from am_tb_at 1964 (by decide +kernel) rfl), rfl⟩ (q_cons ⟨am_calV (ci := 9) (qtX9_set l) qbX9_set (show 3 + 1 ≤ 5 + (f + 1) by omega) rfl (show Cond.methodLink RX9 114 yX9_set ∈ am_tb from am_tb_at 1643 (by decide +kernel) rfl), rfl⟩ (q_cons ⟨am_calV (ci := 9) (qtX9_across l) qbX9_across (show 4 + 1 ≤ 5 + (f + 1) by omega) rfl (show Cond.methodLink RX9 176 yX9_across ∈ am_tb from am_tb_at 1933 (by decide +kernel) rfl), rfl⟩ (q_nil)))))
def qxX9_marksR (f : Nat) : CX := (qkX9_marksR, layM, qfX9, qaX9_marksR f, qcX9, qlX9, qmX9, none, false, none, 0, none, fun _ => none)
theorem qzX9_marksR (l : Launch) (f : Nat) (hf : am_CT l layM (qeX9_marksR f)) : am_sta l (qxX9_marksR f) RX9 (5 + (f + 1)) cX9_marks := ⟨qkX9_marksR_ok, layM_ok, qfX9_ok, qcX9_ok, qlX9_ok, am_mthP qmX9_ok (by omega), fun k e1 h => (qyX9_marksR l f hf k e1 h).1⟩
set_option maxRecDepth 20000 in
theorem qvX9_marksR_25 (f : Nat) (l : Int) (q : Int) (r : Int) (F : FF) (A : AA) (K : KK) (h : ((1 ≤ mF A 3 ∧ mF A 3 ≤ 6) ∧ bxA (A 38) (mF A 3) ∧ (0 ≤ l ∧ l ≤ mF A 3 ∧ l + (((f + 1) : Nat) : Int) = 7) ∧ (0 ≤ q ∧ q < p2 l) ∧ 0 ≤ r ∧ r < p2 l) ∧ (∀ (B_1 : AA), (mk3 A B_1 (p2 (mF A 3)) (prF (mbG (A 38)) (mF A 3) (f + 1) l q r)) → (K (some none) F B_1))) : am_line (qxX9_marksR f) 119 [vR 25, vI l, vI q, vI r] 5 F A K := by
  show am_stp (qxX9_marksR f) (am_run (qxX9_marksR f) (fun _ => none) (fun _ _ _ _ _ _ => False) K 119) K 0 [some (vR 25), some (vI l), some (vI q), some (vI r), none] [] F A 0
  obtain ⟨hp, h⟩ := h
  obtain ⟨p1, p2', q1, q2, q3⟩ := hp
  have hP : 1 ≤ p2 l ∧ p2 l ≤ p2 (mF A 3) := ⟨p2_pos, p2_le q1.2.1⟩
  have sb := sq_b p1.1 p1.2
  have hs : p2 (l + 1) = 2 * p2 l := p2_s q1.1
  have m3 : mF A (2 + 1) = mF A 3 := rfl
  have el : x_shl 1 (mF A (2 + 1)) = p2 (mF A 3) := by rw [m3]; exact x_shl1 (by omega) (by omega)
  have hb := ix_b (S := p2 (mF A 3)) q2.1 (by omega) q3.1 (by omega)
  show ((0 ≤ l ∧ l ≤ 6) ∧ 0 ≤ q ∧ q < p2 l) ∧ (((0 ≤ l ∧ l ≤ 6) ∧ 0 ≤ r ∧ r < p2 l) ∧ (((0 ≤ (8 * (p2 l - 1 + q)) ∧ (8 * (p2 l - 1 + q)) ≤ 2024) ∧ (0 ≤ (1016 + (8 * (p2 l - 1 + r))) ∧ (1016 + (8 * (p2 l - 1 + r))) ≤ 2024) ∧ bxO (A 38) (8 * (p2 l - 1 + q)) ∧ bxO (A 38) (1016 + (8 * (p2 l - 1 + r)))) ∧ ((w32 (bi (meB (A 38) (8 * (p2 l - 1 + q)) (1016 + (8 * (p2 l - 1 + r))))) = w32 0 → (K (some none) F A)) ∧ (¬ w32 (bi (meB (A 38) (8 * (p2 l - 1 + q)) (1016 + (8 * (p2 l - 1 + r))))) = w32 0 → ((0 ≤ 1 ∧ 1 ≤ 1) ∧ ((w32 l = w32 (mF A (2 + 1)) → ((True) ∧ ((0 ≤ w32 (((x_shl 1 (mF A (2 + 1))) * q) + r) ∧ w32 (((x_shl 1 (mF A (2 + 1))) * q) + r) < 4096) ∧ (K (some none) F (upA A 39 (w32 (((x_shl 1 (mF A (2 + 1))) * q) + r)) (x_zb 1)))))) ∧ (¬ w32 l = w32 (mF A (2 + 1)) → ((w32 0 < w32 4 → ((w32 2 ≠ 0) ∧ ((w32 2 ≠ 0) ∧ (((1 ≤ mF A 3 ∧ mF A 3 ≤ 6) ∧ bxA (A 38) (mF A 3) ∧ (0 ≤ (l + 1) ∧ (l + 1) ≤ mF A 3 ∧ (l + 1) + ((f : Nat) : Int) = 7) ∧ (0 ≤ ((2 * q) + (x_div 0 2)) ∧ ((2 * q) + (x_div 0 2)) < p2 (l + 1)) ∧ 0 ≤ ((2 * r) + (x_rem 0 2)) ∧ ((2 * r) + (x_rem 0 2)) < p2 (l + 1)) ∧ (∀ (B_1 : AA), (mk3 A B_1 (p2 (mF A 3)) (prF (mbG (A 38)) (mF A 3) f (l + 1) ((2 * q) + (x_div 0 2)) ((2 * r) + (x_rem 0 2)))) → ((w32 1 < w32 4 → ((w32 2 ≠ 0) ∧ ((w32 2 ≠ 0) ∧ (((1 ≤ mF B_1 3 ∧ mF B_1 3 ≤ 6) ∧ bxA (B_1 38) (mF B_1 3) ∧ (0 ≤ (l + 1) ∧ (l + 1) ≤ mF B_1 3 ∧ (l + 1) + ((f : Nat) : Int) = 7) ∧ (0 ≤ ((2 * q) + (x_div 1 2)) ∧ ((2 * q) + (x_div 1 2)) < p2 (l + 1)) ∧ 0 ≤ ((2 * r) + (x_rem 1 2)) ∧ ((2 * r) + (x_rem 1 2)) < p2 (l + 1)) ∧ (∀ (B_2 : AA), (mk3 B_1 B_2 (p2 (mF B_1 3)) (prF (mbG (B_1 38)) (mF B_1 3) f (l + 1) ((2 * q) + (x_div 1 2)) ((2 * r) + (x_rem 1 2)))) → ((w32 2 < w32 4 → ((w32 2 ≠ 0) ∧ ((w32 2 ≠ 0) ∧ (((1 ≤ mF B_2 3 ∧ mF B_2 3 ≤ 6) ∧ bxA (B_2 38) (mF B_2 3) ∧ (0 ≤ (l + 1) ∧ (l + 1) ≤ mF B_2 3 ∧ (l + 1) + ((f : Nat) : Int) = 7) ∧ (0 ≤ ((2 * q) + (x_div 2 2)) ∧ ((2 * q) + (x_div 2 2)) < p2 (l + 1)) ∧ 0 ≤ ((2 * r) + (x_rem 2 2)) ∧ ((2 * r) + (x_rem 2 2)) < p2 (l + 1)) ∧ (∀ (B_3 : AA), (mk3 B_2 B_3 (p2 (mF B_2 3)) (prF (mbG (B_2 38)) (mF B_2 3) f (l + 1) ((2 * q) + (x_div 2 2)) ((2 * r) + (x_rem 2 2)))) → ((w32 3 < w32 4 → ((w32 2 ≠ 0) ∧ ((w32 2 ≠ 0) ∧ (((1 ≤ mF B_3 3 ∧ mF B_3 3 ≤ 6) ∧ bxA (B_3 38) (mF B_3 3) ∧ (0 ≤ (l + 1) ∧ (l + 1) ≤ mF B_3 3 ∧ (l + 1) + ((f : Nat) : Int) = 7) ∧ (0 ≤ ((2 * q) + (x_div 3 2)) ∧ ((2 * q) + (x_div 3 2)) < p2 (l + 1)) ∧ 0 ≤ ((2 * r) + (x_rem 3 2)) ∧ ((2 * r) + (x_rem 3 2)) < p2 (l + 1)) ∧ (∀ (B_4 : AA), (mk3 B_3 B_4 (p2 (mF B_3 3)) (prF (mbG (B_3 38)) (mF B_3 3) f (l + 1) ((2 * q) + (x_div 3 2)) ((2 * r) + (x_rem 3 2)))) → ((w32 4 < w32 4 → _) ∧ (¬ w32 4 < w32 4 → (K (some none) F B_4)))))))) ∧ (¬ w32 3 < w32 4 → _))))))) ∧ (¬ w32 2 < w32 4 → _))))))) ∧ (¬ w32 1 < w32 4 → _))))))) ∧ (¬ w32 0 < w32 4 → _)))))))))
  refine ⟨by first | trivial | decide | omega | exact ⟨⟨by omega, by omega⟩, by omega, by omega⟩ | exact ⟨⟨by omega, by omega⟩, ⟨by omega, by omega⟩, (p2' l q (by omega) (by omega) (by omega) (by omega)).1, (p2' l r (by omega) (by omega) (by omega) (by omega)).2⟩ | exact ⟨p1, p2', ⟨by omega, by omega, by omega⟩, ⟨by omega, by omega⟩, by omega, by omega⟩ | (rw [v1.2, v1.1]; exact ⟨p1, p2', ⟨by omega, by omega, by omega⟩, ⟨by omega, by omega⟩, by omega, by omega⟩) | (rw [v2.2, v2.1]; exact ⟨p1, p2', ⟨by omega, by omega, by omega⟩, ⟨by omega, by omega⟩, by omega, by omega⟩) | (rw [v3.2, v3.1]; exact ⟨p1, p2', ⟨by omega, by omega, by omega⟩, ⟨by omega, by omega⟩, by omega, by omega⟩), ?_⟩
  refine ⟨by first | trivial | decide | omega | exact ⟨⟨by omega, by omega⟩, by omega, by omega⟩ | exact ⟨⟨by omega, by omega⟩, ⟨by omega, by omega⟩, (p2' l q (by omega) (by omega) (by omega) (by omega)).1, (p2' l r (by omega) (by omega) (by omega) (by omega)).2⟩ | exact ⟨p1, p2', ⟨by omega, by omega, by omega⟩, ⟨by omega, by omega⟩, by omega, by omega⟩ | (rw [v1.2, v1.1]; exact ⟨p1, p2', ⟨by omega, by omega, by omega⟩, ⟨by omega, by omega⟩, by omega, by omega⟩) | (rw [v2.2, v2.1]; exact ⟨p1, p2', ⟨by omega, by omega, by omega⟩, ⟨by omega, by omega⟩, by omega, by omega⟩) | (rw [v3.2, v3.1]; exact ⟨p1, p2', ⟨by omega, by omega, by omega⟩, ⟨by omega, by omega⟩, by omega, by omega⟩), ?_⟩
  refine ⟨by first | trivial | decide | omega | exact ⟨⟨by omega, by omega⟩, by omega, by omega⟩ | exact ⟨⟨by omega, by omega⟩, ⟨by omega, by omega⟩, (p2' l q (by omega) (by omega) (by omega) (by omega)).1, (p2' l r (by omega) (by omega) (by omega) (by omega)).2⟩ | exact ⟨p1, p2', ⟨by omega, by omega, by omega⟩, ⟨by omega, by omega⟩, by omega, by omega⟩ | (rw [v1.2, v1.1]; exact ⟨p1, p2', ⟨by omega, by omega, by omega⟩, ⟨by omega, by omega⟩, by omega, by omega⟩) | (rw [v2.2, v2.1]; exact ⟨p1, p2', ⟨by omega, by omega, by omega⟩, ⟨by omega, by omega⟩, by omega, by omega⟩) | (rw [v3.2, v3.1]; exact ⟨p1, p2', ⟨by omega, by omega, by omega⟩, ⟨by omega, by omega⟩, by omega, by omega⟩), ?_⟩
  refine ⟨fun c1 => ?_, fun c1 => ?_⟩
  · skip
    (try simp only [w32_0, wbi0, Classical.not_not] at c1); (try rw [m3] at c1); (try simp (disch := omega) only [w32_id] at c1)
    exact h _ (mk3_id (prF_no (M := mbG (A 38)) c1))
  · skip
    (try simp only [w32_0, wbi0, Classical.not_not] at c1); (try rw [m3] at c1); (try simp (disch := omega) only [w32_id] at c1)
    refine ⟨by first | trivial | decide | omega | exact ⟨⟨by omega, by omega⟩, by omega, by omega⟩ | exact ⟨⟨by omega, by omega⟩, ⟨by omega, by omega⟩, (p2' l q (by omega) (by omega) (by omega) (by omega)).1, (p2' l r (by omega) (by omega) (by omega) (by omega)).2⟩ | exact ⟨p1, p2', ⟨by omega, by omega, by omega⟩, ⟨by omega, by omega⟩, by omega, by omega⟩ | (rw [v1.2, v1.1]; exact ⟨p1, p2', ⟨by omega, by omega, by omega⟩, ⟨by omega, by omega⟩, by omega, by omega⟩) | (rw [v2.2, v2.1]; exact ⟨p1, p2', ⟨by omega, by omega, by omega⟩, ⟨by omega, by omega⟩, by omega, by omega⟩) | (rw [v3.2, v3.1]; exact ⟨p1, p2', ⟨by omega, by omega, by omega⟩, ⟨by omega, by omega⟩, by omega, by omega⟩), ?_⟩
    refine ⟨fun c2 => ?_, fun c2 => ?_⟩
    · skip
      (try simp only [w32_0, wbi0, Classical.not_not] at c2); (try rw [m3] at c2); (try simp (disch := omega) only [w32_id] at c2)
      rw [el, Int.mul_comm (p2 (mF A 3)) q, w32_id (x := q * p2 (mF A 3) + r) (by omega) (by omega), xzb1]
      refine ⟨by first | trivial | decide | omega | exact ⟨⟨by omega, by omega⟩, by omega, by omega⟩ | exact ⟨⟨by omega, by omega⟩, ⟨by omega, by omega⟩, (p2' l q (by omega) (by omega) (by omega) (by omega)).1, (p2' l r (by omega) (by omega) (by omega) (by omega)).2⟩ | exact ⟨p1, p2', ⟨by omega, by omega, by omega⟩, ⟨by omega, by omega⟩, by omega, by omega⟩ | (rw [v1.2, v1.1]; exact ⟨p1, p2', ⟨by omega, by omega, by omega⟩, ⟨by omega, by omega⟩, by omega, by omega⟩) | (rw [v2.2, v2.1]; exact ⟨p1, p2', ⟨by omega, by omega, by omega⟩, ⟨by omega, by omega⟩, by omega, by omega⟩) | (rw [v3.2, v3.1]; exact ⟨p1, p2', ⟨by omega, by omega, by omega⟩, ⟨by omega, by omega⟩, by omega, by omega⟩), ?_⟩
      refine ⟨by first | trivial | decide | omega | exact ⟨⟨by omega, by omega⟩, by omega, by omega⟩ | exact ⟨⟨by omega, by omega⟩, ⟨by omega, by omega⟩, (p2' l q (by omega) (by omega) (by omega) (by omega)).1, (p2' l r (by omega) (by omega) (by omega) (by omega)).2⟩ | exact ⟨p1, p2', ⟨by omega, by omega, by omega⟩, ⟨by omega, by omega⟩, by omega, by omega⟩ | (rw [v1.2, v1.1]; exact ⟨p1, p2', ⟨by omega, by omega, by omega⟩, ⟨by omega, by omega⟩, by omega, by omega⟩) | (rw [v2.2, v2.1]; exact ⟨p1, p2', ⟨by omega, by omega, by omega⟩, ⟨by omega, by omega⟩, by omega, by omega⟩) | (rw [v3.2, v3.1]; exact ⟨p1, p2', ⟨by omega, by omega, by omega⟩, ⟨by omega, by omega⟩, by omega, by omega⟩), ?_⟩
      exact h _ (mk3_put q2.1 (by omega) q3.1 (by omega) (prF_leaf (M := mbG (A 38)) c1 (by omega)))
    · skip
      (try simp only [w32_0, wbi0, Classical.not_not] at c2); (try rw [m3] at c2); (try simp (disch := omega) only [w32_id] at c2)
      simp only [xd02, xd12, xd22, xd32, xm02, xm12, xm22, xm32, Int.add_zero]
      refine ⟨fun _ => ?_, fun q => absurd (by decide) q⟩
      refine ⟨by first | trivial | decide | omega | exact ⟨⟨by omega, by omega⟩, by omega, by omega⟩ | exact ⟨⟨by omega, by omega⟩, ⟨by omega, by omega⟩, (p2' l q (by omega) (by omega) (by omega) (by omega)).1, (p2' l r (by omega) (by omega) (by omega) (by omega)).2⟩ | exact ⟨p1, p2', ⟨by omega, by omega, by omega⟩, ⟨by omega, by omega⟩, by omega, by omega⟩ | (rw [v1.2, v1.1]; exact ⟨p1, p2', ⟨by omega, by omega, by omega⟩, ⟨by omega, by omega⟩, by omega, by omega⟩) | (rw [v2.2, v2.1]; exact ⟨p1, p2', ⟨by omega, by omega, by omega⟩, ⟨by omega, by omega⟩, by omega, by omega⟩) | (rw [v3.2, v3.1]; exact ⟨p1, p2', ⟨by omega, by omega, by omega⟩, ⟨by omega, by omega⟩, by omega, by omega⟩), ?_⟩
      refine ⟨by first | trivial | decide | omega | exact ⟨⟨by omega, by omega⟩, by omega, by omega⟩ | exact ⟨⟨by omega, by omega⟩, ⟨by omega, by omega⟩, (p2' l q (by omega) (by omega) (by omega) (by omega)).1, (p2' l r (by omega) (by omega) (by omega) (by omega)).2⟩ | exact ⟨p1, p2', ⟨by omega, by omega, by omega⟩, ⟨by omega, by omega⟩, by omega, by omega⟩ | (rw [v1.2, v1.1]; exact ⟨p1, p2', ⟨by omega, by omega, by omega⟩, ⟨by omega, by omega⟩, by omega, by omega⟩) | (rw [v2.2, v2.1]; exact ⟨p1, p2', ⟨by omega, by omega, by omega⟩, ⟨by omega, by omega⟩, by omega, by omega⟩) | (rw [v3.2, v3.1]; exact ⟨p1, p2', ⟨by omega, by omega, by omega⟩, ⟨by omega, by omega⟩, by omega, by omega⟩), ?_⟩
      refine ⟨by first | trivial | decide | omega | exact ⟨⟨by omega, by omega⟩, by omega, by omega⟩ | exact ⟨⟨by omega, by omega⟩, ⟨by omega, by omega⟩, (p2' l q (by omega) (by omega) (by omega) (by omega)).1, (p2' l r (by omega) (by omega) (by omega) (by omega)).2⟩ | exact ⟨p1, p2', ⟨by omega, by omega, by omega⟩, ⟨by omega, by omega⟩, by omega, by omega⟩ | (rw [v1.2, v1.1]; exact ⟨p1, p2', ⟨by omega, by omega, by omega⟩, ⟨by omega, by omega⟩, by omega, by omega⟩) | (rw [v2.2, v2.1]; exact ⟨p1, p2', ⟨by omega, by omega, by omega⟩, ⟨by omega, by omega⟩, by omega, by omega⟩) | (rw [v3.2, v3.1]; exact ⟨p1, p2', ⟨by omega, by omega, by omega⟩, ⟨by omega, by omega⟩, by omega, by omega⟩), ?_⟩
      intro B_1 g1
      have v1 := mk3_r g1
      refine ⟨fun _ => ?_, fun q => absurd (by decide) q⟩
      refine ⟨by first | trivial | decide | omega | exact ⟨⟨by omega, by omega⟩, by omega, by omega⟩ | exact ⟨⟨by omega, by omega⟩, ⟨by omega, by omega⟩, (p2' l q (by omega) (by omega) (by omega) (by omega)).1, (p2' l r (by omega) (by omega) (by omega) (by omega)).2⟩ | exact ⟨p1, p2', ⟨by omega, by omega, by omega⟩, ⟨by omega, by omega⟩, by omega, by omega⟩ | (rw [v1.2, v1.1]; exact ⟨p1, p2', ⟨by omega, by omega, by omega⟩, ⟨by omega, by omega⟩, by omega, by omega⟩) | (rw [v2.2, v2.1]; exact ⟨p1, p2', ⟨by omega, by omega, by omega⟩, ⟨by omega, by omega⟩, by omega, by omega⟩) | (rw [v3.2, v3.1]; exact ⟨p1, p2', ⟨by omega, by omega, by omega⟩, ⟨by omega, by omega⟩, by omega, by omega⟩), ?_⟩
      refine ⟨by first | trivial | decide | omega | exact ⟨⟨by omega, by omega⟩, by omega, by omega⟩ | exact ⟨⟨by omega, by omega⟩, ⟨by omega, by omega⟩, (p2' l q (by omega) (by omega) (by omega) (by omega)).1, (p2' l r (by omega) (by omega) (by omega) (by omega)).2⟩ | exact ⟨p1, p2', ⟨by omega, by omega, by omega⟩, ⟨by omega, by omega⟩, by omega, by omega⟩ | (rw [v1.2, v1.1]; exact ⟨p1, p2', ⟨by omega, by omega, by omega⟩, ⟨by omega, by omega⟩, by omega, by omega⟩) | (rw [v2.2, v2.1]; exact ⟨p1, p2', ⟨by omega, by omega, by omega⟩, ⟨by omega, by omega⟩, by omega, by omega⟩) | (rw [v3.2, v3.1]; exact ⟨p1, p2', ⟨by omega, by omega, by omega⟩, ⟨by omega, by omega⟩, by omega, by omega⟩), ?_⟩
      refine ⟨by first | trivial | decide | omega | exact ⟨⟨by omega, by omega⟩, by omega, by omega⟩ | exact ⟨⟨by omega, by omega⟩, ⟨by omega, by omega⟩, (p2' l q (by omega) (by omega) (by omega) (by omega)).1, (p2' l r (by omega) (by omega) (by omega) (by omega)).2⟩ | exact ⟨p1, p2', ⟨by omega, by omega, by omega⟩, ⟨by omega, by omega⟩, by omega, by omega⟩ | (rw [v1.2, v1.1]; exact ⟨p1, p2', ⟨by omega, by omega, by omega⟩, ⟨by omega, by omega⟩, by omega, by omega⟩) | (rw [v2.2, v2.1]; exact ⟨p1, p2', ⟨by omega, by omega, by omega⟩, ⟨by omega, by omega⟩, by omega, by omega⟩) | (rw [v3.2, v3.1]; exact ⟨p1, p2', ⟨by omega, by omega, by omega⟩, ⟨by omega, by omega⟩, by omega, by omega⟩), ?_⟩
      intro B_2 g2
      rw [v1.1, v1.2] at g2
      have w2 := mk3_r g2
      have v2 := And.intro (w2.1.trans v1.1) (w2.2.trans v1.2)
      refine ⟨fun _ => ?_, fun q => absurd (by decide) q⟩
      refine ⟨by first | trivial | decide | omega | exact ⟨⟨by omega, by omega⟩, by omega, by omega⟩ | exact ⟨⟨by omega, by omega⟩, ⟨by omega, by omega⟩, (p2' l q (by omega) (by omega) (by omega) (by omega)).1, (p2' l r (by omega) (by omega) (by omega) (by omega)).2⟩ | exact ⟨p1, p2', ⟨by omega, by omega, by omega⟩, ⟨by omega, by omega⟩, by omega, by omega⟩ | (rw [v1.2, v1.1]; exact ⟨p1, p2', ⟨by omega, by omega, by omega⟩, ⟨by omega, by omega⟩, by omega, by omega⟩) | (rw [v2.2, v2.1]; exact ⟨p1, p2', ⟨by omega, by omega, by omega⟩, ⟨by omega, by omega⟩, by omega, by omega⟩) | (rw [v3.2, v3.1]; exact ⟨p1, p2', ⟨by omega, by omega, by omega⟩, ⟨by omega, by omega⟩, by omega, by omega⟩), ?_⟩
      refine ⟨by first | trivial | decide | omega | exact ⟨⟨by omega, by omega⟩, by omega, by omega⟩ | exact ⟨⟨by omega, by omega⟩, ⟨by omega, by omega⟩, (p2' l q (by omega) (by omega) (by omega) (by omega)).1, (p2' l r (by omega) (by omega) (by omega) (by omega)).2⟩ | exact ⟨p1, p2', ⟨by omega, by omega, by omega⟩, ⟨by omega, by omega⟩, by omega, by omega⟩ | (rw [v1.2, v1.1]; exact ⟨p1, p2', ⟨by omega, by omega, by omega⟩, ⟨by omega, by omega⟩, by omega, by omega⟩) | (rw [v2.2, v2.1]; exact ⟨p1, p2', ⟨by omega, by omega, by omega⟩, ⟨by omega, by omega⟩, by omega, by omega⟩) | (rw [v3.2, v3.1]; exact ⟨p1, p2', ⟨by omega, by omega, by omega⟩, ⟨by omega, by omega⟩, by omega, by omega⟩), ?_⟩
      refine ⟨by first | trivial | decide | omega | exact ⟨⟨by omega, by omega⟩, by omega, by omega⟩ | exact ⟨⟨by omega, by omega⟩, ⟨by omega, by omega⟩, (p2' l q (by omega) (by omega) (by omega) (by omega)).1, (p2' l r (by omega) (by omega) (by omega) (by omega)).2⟩ | exact ⟨p1, p2', ⟨by omega, by omega, by omega⟩, ⟨by omega, by omega⟩, by omega, by omega⟩ | (rw [v1.2, v1.1]; exact ⟨p1, p2', ⟨by omega, by omega, by omega⟩, ⟨by omega, by omega⟩, by omega, by omega⟩) | (rw [v2.2, v2.1]; exact ⟨p1, p2', ⟨by omega, by omega, by omega⟩, ⟨by omega, by omega⟩, by omega, by omega⟩) | (rw [v3.2, v3.1]; exact ⟨p1, p2', ⟨by omega, by omega, by omega⟩, ⟨by omega, by omega⟩, by omega, by omega⟩), ?_⟩
      intro B_3 g3
      rw [v2.1, v2.2] at g3
      have w3 := mk3_r g3
      have v3 := And.intro (w3.1.trans v2.1) (w3.2.trans v2.2)
      refine ⟨fun _ => ?_, fun q => absurd (by decide) q⟩
      refine ⟨by first | trivial | decide | omega | exact ⟨⟨by omega, by omega⟩, by omega, by omega⟩ | exact ⟨⟨by omega, by omega⟩, ⟨by omega, by omega⟩, (p2' l q (by omega) (by omega) (by omega) (by omega)).1, (p2' l r (by omega) (by omega) (by omega) (by omega)).2⟩ | exact ⟨p1, p2', ⟨by omega, by omega, by omega⟩, ⟨by omega, by omega⟩, by omega, by omega⟩ | (rw [v1.2, v1.1]; exact ⟨p1, p2', ⟨by omega, by omega, by omega⟩, ⟨by omega, by omega⟩, by omega, by omega⟩) | (rw [v2.2, v2.1]; exact ⟨p1, p2', ⟨by omega, by omega, by omega⟩, ⟨by omega, by omega⟩, by omega, by omega⟩) | (rw [v3.2, v3.1]; exact ⟨p1, p2', ⟨by omega, by omega, by omega⟩, ⟨by omega, by omega⟩, by omega, by omega⟩), ?_⟩
      refine ⟨by first | trivial | decide | omega | exact ⟨⟨by omega, by omega⟩, by omega, by omega⟩ | exact ⟨⟨by omega, by omega⟩, ⟨by omega, by omega⟩, (p2' l q (by omega) (by omega) (by omega) (by omega)).1, (p2' l r (by omega) (by omega) (by omega) (by omega)).2⟩ | exact ⟨p1, p2', ⟨by omega, by omega, by omega⟩, ⟨by omega, by omega⟩, by omega, by omega⟩ | (rw [v1.2, v1.1]; exact ⟨p1, p2', ⟨by omega, by omega, by omega⟩, ⟨by omega, by omega⟩, by omega, by omega⟩) | (rw [v2.2, v2.1]; exact ⟨p1, p2', ⟨by omega, by omega, by omega⟩, ⟨by omega, by omega⟩, by omega, by omega⟩) | (rw [v3.2, v3.1]; exact ⟨p1, p2', ⟨by omega, by omega, by omega⟩, ⟨by omega, by omega⟩, by omega, by omega⟩), ?_⟩
      refine ⟨by first | trivial | decide | omega | exact ⟨⟨by omega, by omega⟩, by omega, by omega⟩ | exact ⟨⟨by omega, by omega⟩, ⟨by omega, by omega⟩, (p2' l q (by omega) (by omega) (by omega) (by omega)).1, (p2' l r (by omega) (by omega) (by omega) (by omega)).2⟩ | exact ⟨p1, p2', ⟨by omega, by omega, by omega⟩, ⟨by omega, by omega⟩, by omega, by omega⟩ | (rw [v1.2, v1.1]; exact ⟨p1, p2', ⟨by omega, by omega, by omega⟩, ⟨by omega, by omega⟩, by omega, by omega⟩) | (rw [v2.2, v2.1]; exact ⟨p1, p2', ⟨by omega, by omega, by omega⟩, ⟨by omega, by omega⟩, by omega, by omega⟩) | (rw [v3.2, v3.1]; exact ⟨p1, p2', ⟨by omega, by omega, by omega⟩, ⟨by omega, by omega⟩, by omega, by omega⟩), ?_⟩
      intro B_4 g4
      rw [v3.1, v3.2] at g4
      refine ⟨fun q => absurd q (by decide), fun _ => ?_⟩
      exact h _ (mk3_c (mk3_trans g1 (mk3_trans g2 (mk3_trans g3 g4))) (fun i j => (prF_kids (M := mbG (A 38)) c1 (by omega) i j).symm))
theorem qtX9_marksR (l : Launch) : ∀ f : Nat, am_CT l layM (qeX9_marksR f)
  | 0 => by
    intro layW hpre D al kC as F A K sz h
    exfalso
    replace h : qsX9_marksR 0 as F A K := h
    unfold qsX9_marksR at h
    split at h
    · rename_i o l q r
      replace h := am_cond2 h
      rcases h with ⟨hb, h⟩ | h
      · omega
      exact h
    · exact h
  | f + 1 => am_met0 (x := qxX9_marksR f) rfl (show plainName yX9_marks.cls = true by decide +kernel) rfl rfl rfl rfl rfl (fun _ => rfl) rfl (qzX9_marksR l f (qtX9_marksR l f)) (fun k e1 h => (qyX9_marksR l f (qtX9_marksR l f) k e1 h).2) (fun as F A K h => by
    replace h : qsX9_marksR (f + 1) as F A K := h
    unfold qsX9_marksR at h
    split at h
    · rename_i o l q r
      refine ⟨by first | exact Nat.le_of_ble_eq_true rfl | simp [am_fl, am_cat], ?_⟩
      replace h := am_cond2 h
      rcases h with ⟨hb, h⟩ | h
      · skip
        have hb0 := hb
        have hb0 := am_bq hb0
        subst hb0
        exact am_way_line (qvX9_marksR_25 f l q r F A K h)
      exact h.elim
    · exact h.elim)
def qeX9_marks : CE := qeX9_marksR 7
theorem qbX9_marks : am_mb qeX9_marks := qbX9_marksR 7
theorem qtX9_marks (l : Launch) : am_CT l layM qeX9_marks := qtX9_marksR l 7
def qkX9_laysPairs : Nat → Option CI := fun pc => cond (Nat.ble 95 pc) none (cond (Nat.ble 47 pc) (cond (Nat.ble 68 pc) (cond (Nat.ble 82 pc) (cond (Nat.ble 86 pc) (cond (Nat.ble 92 pc) (cond (Nat.beq pc 92) (some (.iload 4, 94, [])) (cond (Nat.beq pc 94) (some (.ireturn, 95, [])) (none))) (cond (Nat.beq pc 86) (some (.iinc 5 1, 89, [])) (cond (Nat.beq pc 89) (some (.goto (-29), 92, [60])) (none)))) (cond (Nat.beq pc 82) (some (.iconst 0, 83, [])) (cond (Nat.beq pc 83) (some (.iadd, 84, [])) (cond (Nat.beq pc 84) (some (.istore 4, 86, [])) (none))))) (cond (Nat.ble 74 pc) (cond (Nat.ble 78 pc) (cond (Nat.beq pc 78) (some (.iconst 1, 79, [])) (cond (Nat.beq pc 79) (some (.goto 4, 82, [83])) (none))) (cond (Nat.beq pc 74) (some (.baload, 75, [])) (cond (Nat.beq pc 75) (some (.ifCond .eq 7, 78, [82])) (none)))) (cond (Nat.beq pc 68) (some (.aload_n 0, 69, [])) (cond (Nat.beq pc 69) (some (.getfield 50, 72, [])) (cond (Nat.beq pc 72) (some (.iload 5, 74, [])) (none)))))) (cond (Nat.ble 55 pc) (cond (Nat.ble 60 pc) (cond (Nat.ble 63 pc) (cond (Nat.beq pc 63) (some (.if_icmp .ge 29, 66, [92])) (cond (Nat.beq pc 66) (some (.iload 4, 68, [])) (none))) (cond (Nat.beq pc 60) (some (.iload 5, 62, [])) (cond (Nat.beq pc 62) (some (.iload_n 3, 63, [])) (none)))) (cond (Nat.beq pc 55) (some (.istore 4, 57, [])) (cond (Nat.beq pc 57) (some (.iconst 0, 58, [])) (cond (Nat.beq pc 58) (some (.istore 5, 60, [])) (none))))) (cond (Nat.ble 50 pc) (cond (Nat.beq pc 50) (some (.iconst 0, 51, [])) (cond (Nat.beq pc 51) (some (.invokevirtual 180, 54, [])) (cond (Nat.beq pc 54) (some (.iconst 0, 55, [])) (none)))) (cond (Nat.beq pc 47) (some (.aload_n 0, 48, [])) (cond (Nat.beq pc 48) (some (.iconst 0, 49, [])) (cond (Nat.beq pc 49) (some (.iconst 0, 50, [])) (none))))))) (cond (Nat.ble 23 pc) (cond (Nat.ble 33 pc) (cond (Nat.ble 39 pc) (cond (Nat.ble 41 pc) (cond (Nat.beq pc 41) (some (.iinc 4 1, 44, [])) (cond (Nat.beq pc 44) (some (.goto (-17), 47, [27])) (none))) (cond (Nat.beq pc 39) (some (.iconst 0, 40, [])) (cond (Nat.beq pc 40) (some (.bastore, 41, [])) (none)))) (cond (Nat.beq pc 33) (some (.aload_n 0, 34, [])) (cond (Nat.beq pc 34) (some (.getfield 50, 37, [])) (cond (Nat.beq pc 37) (some (.iload 4, 39, [])) (none))))) (cond (Nat.ble 27 pc) (cond (Nat.beq pc 27) (some (.iload 4, 29, [])) (cond (Nat.beq pc 29) (some (.iload_n 3, 30, [])) (cond (Nat.beq pc 30) (some (.if_icmp .ge 17, 33, [47])) (none)))) (cond (Nat.beq pc 23) (some (.istore_n 3, 24, [])) (cond (Nat.beq pc 24) (some (.iconst 0, 25, [])) (cond (Nat.beq pc 25) (some (.istore 4, 27, [])) (none)))))) (cond (Nat.ble 8 pc) (cond (Nat.ble 15 pc) (cond (Nat.ble 19 pc) (cond (Nat.beq pc 19) (some (.invokevirtual 176, 22, [])) (cond (Nat.beq pc 22) (some (.imul, 23, [])) (none))) (cond (Nat.beq pc 15) (some (.invokevirtual 176, 18, [])) (cond (Nat.beq pc 18) (some (.aload_n 0, 19, [])) (none)))) (cond (Nat.beq pc 8) (some (.sipush 1016, 11, [])) (cond (Nat.beq pc 11) (some (.invokevirtual 183, 14, [])) (cond (Nat.beq pc 14) (some (.aload_n 0, 15, [])) (none))))) (cond (Nat.ble 3 pc) (cond (Nat.beq pc 3) (some (.invokevirtual 183, 6, [])) (cond (Nat.beq pc 6) (some (.aload_n 0, 7, [])) (cond (Nat.beq pc 7) (some (.iload_n 2, 8, [])) (none)))) (cond (Nat.beq pc 0) (some (.aload_n 0, 1, [])) (cond (Nat.beq pc 1) (some (.iload_n 1, 2, [])) (cond (Nat.beq pc 2) (some (.iconst 0, 3, [])) (none))))))))
theorem qkX9_laysPairs_ok : ∀ pc i nx ts, qkX9_laysPairs pc = some (i, nx, ts) → am_cok cX9_laysPairs pc (i, nx, ts) = true := fun pc i nx ts h => am_tok_ok (n := 95) (by decide +kernel) (fun pc h => by show cond (Nat.ble 95 pc) _ _ = _; rw [Nat.ble_eq_true_of_le h]; rfl) h
def qaX9_laysPairs : Nat → Option CE := fun k => cond (Nat.beq k 183) (some qeX9_laysBoxes) (cond (Nat.beq k 176) (some qeX9_across) (cond (Nat.beq k 180) (some qeX9_marks) (none)))
theorem qyX9_laysPairs (l : Launch) : ∀ k e1, qaX9_laysPairs k = some e1 → am_cal l layM RX9 13 k e1 ∧ ceT e1 = 0 := q_cons ⟨am_calV (ci := 9) (qtX9_laysBoxes l) qbX9_laysBoxes (by decide) rfl (am_tb_at 1953 (by decide +kernel) rfl), rfl⟩ (q_cons ⟨am_calV (ci := 9) (qtX9_across l) qbX9_across (by decide) rfl (am_tb_at 1933 (by decide +kernel) rfl), rfl⟩ (q_cons ⟨am_calV (ci := 9) (qtX9_marks l) qbX9_marks (by decide) rfl (am_tb_at 1960 (by decide +kernel) rfl), rfl⟩ (q_nil)))
def qxX9_laysPairs : CX := (qkX9_laysPairs, layM, qfX9, qaX9_laysPairs, qcX9, qlX9, qmX9, (some .int), false, none, 0, none, fun _ => none)
theorem qzX9_laysPairs (l : Launch) : am_sta l qxX9_laysPairs RX9 13 cX9_laysPairs := ⟨qkX9_laysPairs_ok, layM_ok, qfX9_ok, qcX9_ok, qlX9_ok, am_mthP qmX9_ok (by decide), fun k e1 h => (qyX9_laysPairs l k e1 h).1⟩
def qsX9_laysPairs : SP := fun as F A K => match as with
  | [.inr (.inr o), .inl c, .inl e] => cond (Nat.beq o 25) ((fgOK (mF A) ∧ (0 ≤ c ∧ c < mF A 0) ∧ (0 ≤ e ∧ e < mF A 0)) ∧ (∀ (B_1 : AA), (pqP A B_1 c e) → (K (some (some (vI (cntQ (prK (mF A) c e) (Int.toNat (p2 (mF A 3) * p2 (mF A 3))))))) F B_1))) (False)
  | _ => False
def qeX9_laysPairs : CE := (yX9_laysPairs, cX9_laysPairs, 6, (some .int), 2, some 9, 0, [], 0, 13, qsX9_laysPairs)
theorem qbX9_laysPairs : am_mb qeX9_laysPairs := ⟨am_tb_at 1952 (by decide +kernel) rfl, am_tb_at 124 (by decide +kernel) rfl, ⟨by decide, by decide, by decide +kernel⟩, by decide, by decide, am_tb_at 1951 (by decide +kernel) rfl, am_tb_at 103 (by decide +kernel) rfl, _, _, rfl⟩
def qnX9_laysPairs_25 : CUT := fun pc => cond (Nat.beq pc 27) (some [true, true, true, true, true, false]) (cond (Nat.beq pc 60) (some [true, true, true, true, true, true]) (none))
def qiX9_laysPairs_25 (c : Int) (e : Int) (F0 : FF) (A0 : AA) : REC := fun pc ls st F A u => cond (Nat.beq pc 27) (match ls, st, u with
    | [some (.inr (.inr s0)), some (.inl s1), some (.inl s2), some (.inl a), some (.inl k), none], [], 0 => s0 = 25 ∧ s1 = c ∧ s2 = e ∧ F = F0 ∧ (a = p2 (mF A0 3) * p2 (mF A0 3) ∧ (0 ≤ k ∧ k ≤ a) ∧ (∀ bb ii, bb ≠ 32 ∧ bb ≠ 33 ∧ bb ≠ 38 ∧ bb ≠ 39 → A bb ii = A0 bb ii) ∧ bx2 (mF A0) c e (mF A0 3) (A 38) ∧ ∀ jj, 0 ≤ jj → jj < k → A 39 jj = 0)
    | _, _, _ => False) (cond (Nat.beq pc 60) (match ls, st, u with
    | [some (.inr (.inr s0)), some (.inl s1), some (.inl s2), some (.inl a), some (.inl n), some (.inl k)], [], 0 => s0 = 25 ∧ s1 = c ∧ s2 = e ∧ F = F0 ∧ (a = p2 (mF A0 3) * p2 (mF A0 3) ∧ (0 ≤ k ∧ k ≤ a) ∧ (∀ bb ii, bb ≠ 32 ∧ bb ≠ 33 ∧ bb ≠ 38 ∧ bb ≠ 39 → A bb ii = A0 bb ii) ∧ pkH (mF A0) c e (A 39) ∧ n = cntQ (prK (mF A0) c e) (Int.toNat k))
    | _, _, _ => False) (False))
def quX9_laysPairs_25 : Nat → LVs → List AV → FF → AA → Nat := fun pc ls _ F A => cond (Nat.beq pc 27) (match ls with
    | [some (.inr (.inr s0)), some (.inl s1), some (.inl s2), some (.inl a), some (.inl k), none] => Int.toNat (20000 - k)
    | _ => 0) (cond (Nat.beq pc 60) (match ls with
    | [some (.inr (.inr s0)), some (.inl s1), some (.inl s2), some (.inl a), some (.inl n), some (.inl k)] => Int.toNat (5000 - k)
    | _ => 0) (0))
set_option maxRecDepth 20000 in
theorem qvX9_laysPairs_25_0 (c : Int) (e : Int) (F0 : FF) (A0 : AA) (K : KK) (h : (fgOK (mF A0) ∧ (0 ≤ c ∧ c < mF A0 0) ∧ (0 ≤ e ∧ e < mF A0 0)) ∧ (∀ (B_1 : AA), (pqP A0 B_1 c e) → (K (some (some (vI (cntQ (prK (mF A0) c e) (Int.toNat (p2 (mF A0 3) * p2 (mF A0 3))))))) F0 B_1))) : am_stp qxX9_laysPairs (am_run qxX9_laysPairs qnX9_laysPairs_25 (qiX9_laysPairs_25 c e F0 A0) K 19) K 0 (am_ent [vR 25, vI c, vI e] 6) [] F0 A0 0 := by
  show am_stp qxX9_laysPairs (am_run qxX9_laysPairs qnX9_laysPairs_25 (qiX9_laysPairs_25 c e F0 A0) K 19) K 0 [some (vR 25), some (vI c), some (vI e), none, none, none] [] F0 A0 0
  obtain ⟨hp, h⟩ := h
  obtain ⟨p1, p2', p3⟩ := hp
  have q4 := p1.2.1.2
  have sb := sq_b q4.1 q4.2
  show (fgOK (mF A0) ∧ (0 ≤ c ∧ c < mF A0 0) ∧ (0 = 0 ∨ 0 = 1016)) ∧ (∀ (B_1 : AA), ((∀ bb ii, bb ≠ 32 ∧ bb ≠ 33 ∧ (bb ≠ 38 ∨ ii < 0 ∨ 0 + 1016 ≤ ii) → B_1 bb ii = A0 bb ii) ∧ ∀ dd qq, 0 ≤ dd → dd ≤ mF A0 3 → 0 ≤ qq → qq < p2 dd → bxC (mF A0) c dd qq (B_1 38) (0 + 8 * (p2 dd - 1 + qq))) → ((fgOK (mF B_1) ∧ (0 ≤ e ∧ e < mF B_1 0) ∧ (1016 = 0 ∨ 1016 = 1016)) ∧ (∀ (B_2 : AA), ((∀ bb ii, bb ≠ 32 ∧ bb ≠ 33 ∧ (bb ≠ 38 ∨ ii < 1016 ∨ 1016 + 1016 ≤ ii) → B_2 bb ii = B_1 bb ii) ∧ ∀ dd qq, 0 ≤ dd → dd ≤ mF B_1 3 → 0 ≤ qq → qq < p2 dd → bxC (mF B_1) e dd qq (B_2 38) (1016 + 8 * (p2 dd - 1 + qq))) → ((True) ∧ ((True) ∧ (25 = 25 ∧ c = c ∧ e = e ∧ F0 = F0 ∧ (((x_shl 1 (mF B_2 (2 + 1))) * (x_shl 1 (mF B_2 (2 + 1)))) = p2 (mF A0 3) * p2 (mF A0 3) ∧ (0 ≤ 0 ∧ 0 ≤ ((x_shl 1 (mF B_2 (2 + 1))) * (x_shl 1 (mF B_2 (2 + 1))))) ∧ (∀ bb ii, bb ≠ 32 ∧ bb ≠ 33 ∧ bb ≠ 38 ∧ bb ≠ 39 → B_2 bb ii = A0 bb ii) ∧ bx2 (mF A0) c e (mF A0 3) (B_2 38) ∧ ∀ jj, 0 ≤ jj → jj < 0 → B_2 39 jj = 0)))))))
  refine ⟨by first | trivial | exact ⟨p1, p2', Or.inl rfl⟩ | (rw [ef1]; exact ⟨p1, p3, Or.inr rfl⟩), ?_⟩
  intro B_1 g1
  have ef1 : mF B_1 = mF A0 := mF_c (funext fun i => g1.1 2 i (by omega)) (funext fun i => g1.1 27 i (by omega)) (funext fun i => g1.1 29 i (by omega))
  refine ⟨by first | trivial | exact ⟨p1, p2', Or.inl rfl⟩ | (rw [ef1]; exact ⟨p1, p3, Or.inr rfl⟩), ?_⟩
  intro B_2 g2
  rw [ef1] at g2
  have ef2 : mF B_2 = mF A0 := (mF_c (funext fun i => g2.1 2 i (by omega)) (funext fun i => g2.1 27 i (by omega)) (funext fun i => g2.1 29 i (by omega))).trans ef1
  refine ⟨by first | trivial | exact ⟨p1, p2', Or.inl rfl⟩ | (rw [ef1]; exact ⟨p1, p3, Or.inr rfl⟩), ?_⟩
  refine ⟨by first | trivial | exact ⟨p1, p2', Or.inl rfl⟩ | (rw [ef1]; exact ⟨p1, p3, Or.inr rfl⟩), ?_⟩
  refine ⟨rfl, rfl, rfl, rfl, ?_⟩
  have el : x_shl 1 (mF B_2 (2 + 1)) = p2 (mF A0 3) := by rw [ef2]; exact x_shl1 (by show 0 ≤ mF A0 3; omega) (by show mF A0 3 ≤ 12; omega)
  refine ⟨by rw [el], by rw [el]; omega, fun b i hb => (g2.1 b i (by omega)).trans (g1.1 b i (by omega)), bx2_of q4.2 g1.2 g2.2 (fun i hi => g2.1 38 i (by omega)), fun j j0 j1 => by omega⟩
set_option maxRecDepth 20000 in
theorem qvX9_laysPairs_25_27 (c : Int) (e : Int) (F0 : FF) (A0 : AA) (K : KK) (h : (fgOK (mF A0) ∧ (0 ≤ c ∧ c < mF A0 0) ∧ (0 ≤ e ∧ e < mF A0 0)) ∧ (∀ (B_1 : AA), (pqP A0 B_1 c e) → (K (some (some (vI (cntQ (prK (mF A0) c e) (Int.toNat (p2 (mF A0 3) * p2 (mF A0 3))))))) F0 B_1))) (a : Int) (k : Int) (A : AA) (hi : a = p2 (mF A0 3) * p2 (mF A0 3) ∧ (0 ≤ k ∧ k ≤ a) ∧ (∀ bb ii, bb ≠ 32 ∧ bb ≠ 33 ∧ bb ≠ 38 ∧ bb ≠ 39 → A bb ii = A0 bb ii) ∧ bx2 (mF A0) c e (mF A0 3) (A 38) ∧ ∀ jj, 0 ≤ jj → jj < k → A 39 jj = 0) : am_stp qxX9_laysPairs (am_run qxX9_laysPairs qnX9_laysPairs_25 (fun pc ls st F9 A9 u => qiX9_laysPairs_25 c e F0 A0 pc ls st F9 A9 u ∧ quX9_laysPairs_25 pc ls st F9 A9 < quX9_laysPairs_25 27 [some (vR 25), some (vI c), some (vI e), some (vI a), some (vI k), none] [] F0 A) K 19) K 27 [some (vR 25), some (vI c), some (vI e), some (vI a), some (vI k), none] [] F0 A 0 := by
  obtain ⟨hp, h⟩ := h
  obtain ⟨p1, p2', p3⟩ := hp
  have q4 := p1.2.1.2
  have sb := sq_b q4.1 q4.2
  obtain ⟨h1, h2, hF, hX, hZ⟩ := hi
  have eF := fr_f hF
  show (w32 k < w32 a → ((0 ≤ w32 k ∧ w32 k < 4096) ∧ ((25 = 25 ∧ c = c ∧ e = e ∧ F0 = F0 ∧ (a = p2 (mF A0 3) * p2 (mF A0 3) ∧ (0 ≤ (k + 1) ∧ (k + 1) ≤ a) ∧ (∀ bb ii, bb ≠ 32 ∧ bb ≠ 33 ∧ bb ≠ 38 ∧ bb ≠ 39 → (upA A 39 (w32 k) (x_zb 0)) bb ii = A0 bb ii) ∧ bx2 (mF A0) c e (mF A0 3) ((upA A 39 (w32 k) (x_zb 0)) 38) ∧ ∀ jj, 0 ≤ jj → jj < (k + 1) → (upA A 39 (w32 k) (x_zb 0)) 39 jj = 0)) ∧ (Int.toNat (20000 - (k + 1))) < (Int.toNat (20000 - k))))) ∧ (¬ w32 k < w32 a → (((1 ≤ mF A 3 ∧ mF A 3 ≤ 6) ∧ bxA (A 38) (mF A 3) ∧ (0 ≤ 0 ∧ 0 ≤ mF A 3 ∧ 0 + ((7 : Nat) : Int) = 7) ∧ (0 ≤ 0 ∧ 0 < p2 0) ∧ 0 ≤ 0 ∧ 0 < p2 0) ∧ (∀ (B_1 : AA), (mk3 A B_1 (p2 (mF A 3)) (prF (mbG (A 38)) (mF A 3) 7 0 0 0)) → ((25 = 25 ∧ c = c ∧ e = e ∧ F0 = F0 ∧ (a = p2 (mF A0 3) * p2 (mF A0 3) ∧ (0 ≤ 0 ∧ 0 ≤ a) ∧ (∀ bb ii, bb ≠ 32 ∧ bb ≠ 33 ∧ bb ≠ 38 ∧ bb ≠ 39 → B_1 bb ii = A0 bb ii) ∧ pkH (mF A0) c e (B_1 39) ∧ 0 = cntQ (prK (mF A0) c e) (Int.toNat 0))) ∧ (Int.toNat (5000 - 0)) < (Int.toNat (20000 - k))))))
  refine ⟨fun c1 => ?_, fun c1 => ?_⟩
  · skip
    (try simp (disch := omega) only [w32_id] at c1)
    refine ⟨by first | omega | (rw [w32_id (by omega) (by omega)]; omega) | (rw [eF]; exact ⟨q4, bx2_A p1 q4.2 p2'.1 p2'.2 p3.1 p3.2 hX, ⟨by decide, by omega, by decide⟩, ⟨by decide, by rw [p2_0]; decide⟩, by decide, by rw [p2_0]; decide⟩), ?_⟩
    refine ⟨⟨rfl, rfl, rfl, rfl, ?_⟩, by omega⟩
    rw [w32_id (x := k) (by omega) (by omega), xzb0]
    refine ⟨h1, by omega, fun b i hb => by rw [upA_k (by omega)]; exact hF b i hb, by rw [upA_r (by decide)]; exact hX, fun j j0 j1 => ?_⟩
    by_cases z : j = k
    · rw [z, upA_s]
    · rw [upA_o z]; exact hZ j j0 (by omega)
  · skip
    (try simp (disch := omega) only [w32_id] at c1)
    refine ⟨by first | omega | (rw [w32_id (by omega) (by omega)]; omega) | (rw [eF]; exact ⟨q4, bx2_A p1 q4.2 p2'.1 p2'.2 p3.1 p3.2 hX, ⟨by decide, by omega, by decide⟩, ⟨by decide, by rw [p2_0]; decide⟩, by decide, by rw [p2_0]; decide⟩), ?_⟩
    intro B_1 g1
    refine ⟨⟨rfl, rfl, rfl, rfl, ?_⟩, by omega⟩
    rw [eF] at g1
    refine ⟨h1, by omega, fun b i hb => (g1.1 b i (by omega)).trans (hF b i hb), pk_of p1 p2'.1 p2'.2 p3.1 p3.2 hX (fun j j0 j1 => hZ j j0 (by omega)) g1, rfl⟩
set_option maxRecDepth 20000 in
theorem qvX9_laysPairs_25_60 (c : Int) (e : Int) (F0 : FF) (A0 : AA) (K : KK) (h : (fgOK (mF A0) ∧ (0 ≤ c ∧ c < mF A0 0) ∧ (0 ≤ e ∧ e < mF A0 0)) ∧ (∀ (B_1 : AA), (pqP A0 B_1 c e) → (K (some (some (vI (cntQ (prK (mF A0) c e) (Int.toNat (p2 (mF A0 3) * p2 (mF A0 3))))))) F0 B_1))) (a : Int) (n : Int) (k : Int) (A : AA) (hi : a = p2 (mF A0 3) * p2 (mF A0 3) ∧ (0 ≤ k ∧ k ≤ a) ∧ (∀ bb ii, bb ≠ 32 ∧ bb ≠ 33 ∧ bb ≠ 38 ∧ bb ≠ 39 → A bb ii = A0 bb ii) ∧ pkH (mF A0) c e (A 39) ∧ n = cntQ (prK (mF A0) c e) (Int.toNat k)) : am_stp qxX9_laysPairs (am_run qxX9_laysPairs qnX9_laysPairs_25 (fun pc ls st F9 A9 u => qiX9_laysPairs_25 c e F0 A0 pc ls st F9 A9 u ∧ quX9_laysPairs_25 pc ls st F9 A9 < quX9_laysPairs_25 60 [some (vR 25), some (vI c), some (vI e), some (vI a), some (vI n), some (vI k)] [] F0 A) K 19) K 60 [some (vR 25), some (vI c), some (vI e), some (vI a), some (vI n), some (vI k)] [] F0 A 0 := by
  obtain ⟨hp, h⟩ := h
  obtain ⟨p1, p2', p3⟩ := hp
  have q4 := p1.2.1.2
  have sb := sq_b q4.1 q4.2
  obtain ⟨h1, h2, hF, hK, h4⟩ := hi
  have cb := cntQ_b (prK (mF A0) c e) (Int.toNat k)
  show (w32 k < w32 a → ((0 ≤ w32 k ∧ w32 k < 4096) ∧ ((w32 (A 39 (w32 k)) = w32 0 → ((25 = 25 ∧ c = c ∧ e = e ∧ F0 = F0 ∧ (a = p2 (mF A0 3) * p2 (mF A0 3) ∧ (0 ≤ (k + 1) ∧ (k + 1) ≤ a) ∧ (∀ bb ii, bb ≠ 32 ∧ bb ≠ 33 ∧ bb ≠ 38 ∧ bb ≠ 39 → A bb ii = A0 bb ii) ∧ pkH (mF A0) c e (A 39) ∧ (n + 0) = cntQ (prK (mF A0) c e) (Int.toNat (k + 1)))) ∧ (Int.toNat (5000 - (k + 1))) < (Int.toNat (5000 - k)))) ∧ (¬ w32 (A 39 (w32 k)) = w32 0 → ((25 = 25 ∧ c = c ∧ e = e ∧ F0 = F0 ∧ (a = p2 (mF A0 3) * p2 (mF A0 3) ∧ (0 ≤ (k + 1) ∧ (k + 1) ≤ a) ∧ (∀ bb ii, bb ≠ 32 ∧ bb ≠ 33 ∧ bb ≠ 38 ∧ bb ≠ 39 → A bb ii = A0 bb ii) ∧ pkH (mF A0) c e (A 39) ∧ (n + 1) = cntQ (prK (mF A0) c e) (Int.toNat (k + 1)))) ∧ (Int.toNat (5000 - (k + 1))) < (Int.toNat (5000 - k))))))) ∧ (¬ w32 k < w32 a → (K (some (some (vI n))) F0 A))
  refine ⟨fun c1 => ?_, fun c1 => ?_⟩
  · skip
    (try rw [w32_id (x := k) (by omega) (by omega)] at c1); (try rw [w32_0] at c1); (try rw [pk_w hK (by omega) (by omega)] at c1); (try simp only [Classical.not_not] at c1); (try simp (disch := omega) only [w32_id] at c1)
    refine ⟨by first | omega | (rw [w32_id (by omega) (by omega)]; omega), ?_⟩
    refine ⟨fun c2 => ?_, fun c2 => ?_⟩
    · skip
      (try rw [w32_id (x := k) (by omega) (by omega)] at c2); (try rw [w32_0] at c2); (try rw [pk_w hK (by omega) (by omega)] at c2); (try simp only [Classical.not_not] at c2); (try simp (disch := omega) only [w32_id] at c2)
      refine ⟨⟨rfl, rfl, rfl, rfl, ?_⟩, by omega⟩
      refine ⟨h1, by omega, hF, hK, ?_⟩
      rw [cntQ_f h2.1 c2, ← h4]; omega
    · skip
      (try rw [w32_id (x := k) (by omega) (by omega)] at c2); (try rw [w32_0] at c2); (try rw [pk_w hK (by omega) (by omega)] at c2); (try simp only [Classical.not_not] at c2); (try simp (disch := omega) only [w32_id] at c2)
      refine ⟨⟨rfl, rfl, rfl, rfl, ?_⟩, by omega⟩
      refine ⟨h1, by omega, hF, hK, ?_⟩
      rw [cntQ_t h2.1 c2, ← h4]
  · skip
    (try rw [w32_id (x := k) (by omega) (by omega)] at c1); (try rw [w32_0] at c1); (try rw [pk_w hK (by omega) (by omega)] at c1); (try simp only [Classical.not_not] at c1); (try simp (disch := omega) only [w32_id] at c1)
    refine K_eq (h _ ⟨hF, hK⟩) ?_
    rw [h4, show k = p2 (mF A0 3) * p2 (mF A0 3) by omega]
set_option maxRecDepth 20000 in
theorem qvX9_laysPairs_25 (c : Int) (e : Int) (F0 : FF) (A0 : AA) (K : KK) (h : (fgOK (mF A0) ∧ (0 ≤ c ∧ c < mF A0 0) ∧ (0 ≤ e ∧ e < mF A0 0)) ∧ (∀ (B_1 : AA), (pqP A0 B_1 c e) → (K (some (some (vI (cntQ (prK (mF A0) c e) (Int.toNat (p2 (mF A0 3) * p2 (mF A0 3))))))) F0 B_1))) : am_body qxX9_laysPairs qnX9_laysPairs_25 19 (qiX9_laysPairs_25 c e F0 A0) quX9_laysPairs_25 [vR 25, vI c, vI e] 6 F0 A0 K := by
  refine ⟨qvX9_laysPairs_25_0 c e F0 A0 K h, fun pc ls st F A u hI => ?_⟩
  unfold qiX9_laysPairs_25 at hI
  replace hI := am_cond2 hI
  rcases hI with ⟨hb, hI⟩ | hI
  · have hb := am_bq hb
    subst hb
    split at hI
    · rename_i s0 s1 s2 a k
      obtain ⟨e0, e1, e2, e3, hI⟩ := hI
      subst e0
      subst e1
      subst e2
      subst e3
      exact qvX9_laysPairs_25_27 _ _ _ _ K h _ _ _ hI
    · exact hI.elim
  replace hI := am_cond2 hI
  rcases hI with ⟨hb, hI⟩ | hI
  · have hb := am_bq hb
    subst hb
    split at hI
    · rename_i s0 s1 s2 a n k
      obtain ⟨e0, e1, e2, e3, hI⟩ := hI
      subst e0
      subst e1
      subst e2
      subst e3
      exact qvX9_laysPairs_25_60 _ _ _ _ K h _ _ _ _ hI
    · exact hI.elim
  exact hI.elim
theorem qtX9_laysPairs (l : Launch) : am_CT l layM qeX9_laysPairs := am_met0 rfl (by decide +kernel) rfl rfl rfl rfl rfl (fun _ => rfl) rfl (qzX9_laysPairs l) (fun k e1 h => (qyX9_laysPairs l k e1 h).2) (fun as F A K h => by
  replace h : qsX9_laysPairs as F A K := h
  unfold qsX9_laysPairs at h
  split at h
  · rename_i o c e
    refine ⟨by first | exact Nat.le_of_ble_eq_true rfl | simp [am_fl, am_cat], ?_⟩
    replace h := am_cond2 h
    rcases h with ⟨hb, h⟩ | h
    · skip
      have hb0 := hb
      have hb0 := am_bq hb0
      subst hb0
      exact am_way_body (qvX9_laysPairs_25 c e F A K h)
    exact h.elim
  · exact h.elim)
def qkX9_pairCount : Nat → Option CI := fun pc => cond (Nat.ble 20 pc) none (cond (Nat.ble 10 pc) (cond (Nat.ble 15 pc) (cond (Nat.beq pc 15) (some (.goto 4, 18, [19])) (cond (Nat.beq pc 18) (some (.iconst 0, 19, [])) (cond (Nat.beq pc 19) (some (.ireturn, 20, [])) (none)))) (cond (Nat.beq pc 10) (some (.iload_n 1, 11, [])) (cond (Nat.beq pc 11) (some (.iload_n 2, 12, [])) (cond (Nat.beq pc 12) (some (.invokevirtual 186, 15, [])) (none))))) (cond (Nat.ble 3 pc) (cond (Nat.beq pc 3) (some (.invokevirtual 385, 6, [])) (cond (Nat.beq pc 6) (some (.ifCond .eq 12, 9, [18])) (cond (Nat.beq pc 9) (some (.aload_n 0, 10, [])) (none)))) (cond (Nat.beq pc 0) (some (.aload_n 0, 1, [])) (cond (Nat.beq pc 1) (some (.iload_n 1, 2, [])) (cond (Nat.beq pc 2) (some (.iload_n 2, 3, [])) (none))))))
theorem qkX9_pairCount_ok : ∀ pc i nx ts, qkX9_pairCount pc = some (i, nx, ts) → am_cok cX9_pairCount pc (i, nx, ts) = true := fun pc i nx ts h => am_tok_ok (n := 20) (by decide +kernel) (fun pc h => by show cond (Nat.ble 20 pc) _ _ = _; rw [Nat.ble_eq_true_of_le h]; rfl) h
def qaX9_pairCount : Nat → Option CE := fun k => cond (Nat.beq k 385) (some qeX9_areTwo) (cond (Nat.beq k 186) (some qeX9_laysPairs) (none))
theorem qyX9_pairCount (l : Launch) : ∀ k e1, qaX9_pairCount k = some e1 → am_cal l layM RX9 14 k e1 ∧ ceT e1 = 0 := q_cons ⟨am_calV (ci := 9) (qtX9_areTwo l) qbX9_areTwo (by decide) rfl (am_tb_at 1929 (by decide +kernel) rfl), rfl⟩ (q_cons ⟨am_calV (ci := 9) (qtX9_laysPairs l) qbX9_laysPairs (by decide) rfl (am_tb_at 1949 (by decide +kernel) rfl), rfl⟩ (q_nil))
def qxX9_pairCount : CX := (qkX9_pairCount, layM, qfX9, qaX9_pairCount, qcX9, qlX9, qmX9, (some .int), false, none, 0, none, fun _ => none)
theorem qzX9_pairCount (l : Launch) : am_sta l qxX9_pairCount RX9 14 cX9_pairCount := ⟨qkX9_pairCount_ok, layM_ok, qfX9_ok, qcX9_ok, qlX9_ok, am_mthP qmX9_ok (by decide), fun k e1 h => (qyX9_pairCount l k e1 h).1⟩
def qsX9_pairCount : SP := fun as F A K => match as with
  | [.inr (.inr o), .inl c, .inl e] => cond (Nat.beq o 25) ((fgOK (mF A) ∧ (-2147483648 ≤ c ∧ c < 2147483648) ∧ (-2147483648 ≤ e ∧ e < 2147483648)) ∧ (∀ (G_1 : FF) (B_1 : AA), (qdP F G_1 A B_1 ∧ G_1 25 0 = (if (0 ≤ c ∧ c < mF A 0) ∧ 0 ≤ e ∧ e < mF A 0 then 0 else 1)) → (K (some (some (vI (if (0 ≤ c ∧ c < mF A 0) ∧ 0 ≤ e ∧ e < mF A 0 then cntQ (prK (mF A) c e) (Int.toNat (p2 (mF A 3) * p2 (mF A 3))) else 0)))) G_1 B_1))) (False)
  | _ => False
def qeX9_pairCount : CE := (yX9_pairCount, cX9_pairCount, 3, (some .int), 2, some 9, 0, [], 0, 14, qsX9_pairCount)
theorem qbX9_pairCount : am_mb qeX9_pairCount := ⟨am_tb_at 1948 (by decide +kernel) rfl, am_tb_at 124 (by decide +kernel) rfl, ⟨by decide, by decide, by decide +kernel⟩, by decide, by decide, am_tb_at 1946 (by decide +kernel) rfl, am_tb_at 1947 (by decide +kernel) rfl, _, _, rfl⟩
set_option maxRecDepth 20000 in
theorem qvX9_pairCount_25 (c : Int) (e : Int) (F : FF) (A : AA) (K : KK) (h : (fgOK (mF A) ∧ (-2147483648 ≤ c ∧ c < 2147483648) ∧ (-2147483648 ≤ e ∧ e < 2147483648)) ∧ (∀ (G_1 : FF) (B_1 : AA), (qdP F G_1 A B_1 ∧ G_1 25 0 = (if (0 ≤ c ∧ c < mF A 0) ∧ 0 ≤ e ∧ e < mF A 0 then 0 else 1)) → (K (some (some (vI (if (0 ≤ c ∧ c < mF A 0) ∧ 0 ≤ e ∧ e < mF A 0 then cntQ (prK (mF A) c e) (Int.toNat (p2 (mF A 3) * p2 (mF A 3))) else 0)))) G_1 B_1))) : am_line qxX9_pairCount 12 [vR 25, vI c, vI e] 3 F A K := by
  show am_stp qxX9_pairCount (am_run qxX9_pairCount (fun _ => none) (fun _ _ _ _ _ _ => False) K 12) K 0 [some (vR 25), some (vI c), some (vI e)] [] F A 0
  obtain ⟨hp, h⟩ := h
  have p1 := hp.1
  have q1 := p1.1.1
  have q2 := p1.1.2
  have q4 := p1.2.1

  show (fgOK (mF A) ∧ (-2147483648 ≤ c ∧ c < 2147483648) ∧ (-2147483648 ≤ e ∧ e < 2147483648)) ∧ ((w32 (bi ((0 ≤ c ∧ c < mF A 0) ∧ 0 ≤ e ∧ e < mF A 0)) = w32 0 → (K (some (some (vI 0))) (upF F 25 0 (1 - bi ((0 ≤ c ∧ c < mF A 0) ∧ 0 ≤ e ∧ e < mF A 0))) A)) ∧ (¬ (w32 (bi ((0 ≤ c ∧ c < mF A 0) ∧ 0 ≤ e ∧ e < mF A 0)) = w32 0) → ((fgOK (mF A) ∧ (0 ≤ c ∧ c < mF A 0) ∧ (0 ≤ e ∧ e < mF A 0)) ∧ (∀ (B_1 : AA), (pqP A B_1 c e) → (K (some (some (vI (cntQ (prK (mF A) c e) (Int.toNat (p2 (mF A 3) * p2 (mF A 3))))))) (upF F 25 0 (1 - bi ((0 ≤ c ∧ c < mF A 0) ∧ 0 ≤ e ∧ e < mF A 0))) B_1)))))
  refine ⟨by exact ⟨p1, by omega, by omega⟩, ?_⟩
  refine ⟨fun c1 => ?_, fun c1 => ?_⟩
  · skip
    (try (have q3 := (p1.2.2.1 c c1.1.1 c1.1.2).1)); (try simp only [w32_0, wbi0, Classical.not_not] at c1); (try simp (disch := omega) only [fat_in, w32_0, wbi0, Classical.not_not, w32_id] at c1)
    first
    | exact K_eq (h _ _ ⟨qdP_F (by decide), by rw [upF_s, bi_f c1, if_neg c1]; rfl⟩) (if_neg c1)
    | exact K_eq (h _ _ ⟨qdP_trans (qdP_F (by decide)) (qdP_A (fun b i hb => g1.1 b i (by omega))), by rw [upF_s, bi_t c1, if_pos c1]; rfl⟩) (by rw [if_pos c1])
  · skip
    (try (have q3 := (p1.2.2.1 c c1.1.1 c1.1.2).1)); (try simp only [w32_0, wbi0, Classical.not_not] at c1); (try simp (disch := omega) only [fat_in, w32_0, wbi0, Classical.not_not, w32_id] at c1)
    refine ⟨by first | exact ⟨p1, c1.1, c1.2⟩ | exact bi_01 | omega, ?_⟩
    intro B_1 g1
    first
    | exact K_eq (h _ _ ⟨qdP_F (by decide), by rw [upF_s, bi_f c1, if_neg c1]; rfl⟩) (if_neg c1)
    | exact K_eq (h _ _ ⟨qdP_trans (qdP_F (by decide)) (qdP_A (fun b i hb => g1.1 b i (by omega))), by rw [upF_s, bi_t c1, if_pos c1]; rfl⟩) (by rw [if_pos c1])
theorem qtX9_pairCount (l : Launch) : am_CT l layM qeX9_pairCount := am_met0 rfl (by decide +kernel) rfl rfl rfl rfl rfl (fun _ => rfl) rfl (qzX9_pairCount l) (fun k e1 h => (qyX9_pairCount l k e1 h).2) (fun as F A K h => by
  replace h : qsX9_pairCount as F A K := h
  unfold qsX9_pairCount at h
  split at h
  · rename_i o c e
    refine ⟨by first | exact Nat.le_of_ble_eq_true rfl | simp [am_fl, am_cat], ?_⟩
    replace h := am_cond2 h
    rcases h with ⟨hb, h⟩ | h
    · skip
      have hb0 := hb
      have hb0 := am_bq hb0
      subst hb0
      exact am_way_line (qvX9_pairCount_25 c e F A K h)
    exact h.elim
  · exact h.elim)
def qkX9_pair : Nat → Option CI := fun pc => cond (Nat.ble 87 pc) none (cond (Nat.ble 39 pc) (cond (Nat.ble 68 pc) (cond (Nat.ble 78 pc) (cond (Nat.ble 84 pc) (cond (Nat.beq pc 84) (some (.irem, 85, [])) (cond (Nat.beq pc 85) (some (.iadd, 86, [])) (cond (Nat.beq pc 86) (some (.ireturn, 87, [])) (none)))) (cond (Nat.beq pc 78) (some (.iload 5, 80, [])) (cond (Nat.beq pc 80) (some (.aload_n 0, 81, [])) (cond (Nat.beq pc 81) (some (.invokevirtual 176, 84, [])) (none))))) (cond (Nat.ble 73 pc) (cond (Nat.beq pc 73) (some (.invokevirtual 176, 76, [])) (cond (Nat.beq pc 76) (some (.idiv, 77, [])) (cond (Nat.beq pc 77) (some (.imul, 78, [])) (none)))) (cond (Nat.beq pc 68) (some (.bipush 100, 70, [])) (cond (Nat.beq pc 70) (some (.iload 5, 72, [])) (cond (Nat.beq pc 72) (some (.aload_n 0, 73, [])) (none)))))) (cond (Nat.ble 52 pc) (cond (Nat.ble 59 pc) (cond (Nat.beq pc 59) (some (.goto (-13), 62, [46])) (cond (Nat.beq pc 62) (some (.iinc 6 1, 65, [])) (cond (Nat.beq pc 65) (some (.goto (-28), 68, [37])) (none)))) (cond (Nat.beq pc 52) (some (.baload, 53, [])) (cond (Nat.beq pc 53) (some (.ifCond .ne 9, 56, [62])) (cond (Nat.beq pc 56) (some (.iinc 5 1, 59, [])) (none))))) (cond (Nat.ble 46 pc) (cond (Nat.beq pc 46) (some (.aload_n 0, 47, [])) (cond (Nat.beq pc 47) (some (.getfield 50, 50, [])) (cond (Nat.beq pc 50) (some (.iload 5, 52, [])) (none)))) (cond (Nat.beq pc 39) (some (.iload_n 3, 40, [])) (cond (Nat.beq pc 40) (some (.if_icmp .gt 28, 43, [68])) (cond (Nat.beq pc 43) (some (.iinc 5 1, 46, [])) (none))))))) (cond (Nat.ble 19 pc) (cond (Nat.ble 30 pc) (cond (Nat.ble 34 pc) (cond (Nat.beq pc 34) (some (.iconst 0, 35, [])) (cond (Nat.beq pc 35) (some (.istore 6, 37, [])) (cond (Nat.beq pc 37) (some (.iload 6, 39, [])) (none)))) (cond (Nat.beq pc 30) (some (.ireturn, 31, [])) (cond (Nat.beq pc 31) (some (.iconst (-1), 32, [])) (cond (Nat.beq pc 32) (some (.istore 5, 34, [])) (none))))) (cond (Nat.ble 24 pc) (cond (Nat.beq pc 24) (some (.iload 4, 26, [])) (cond (Nat.beq pc 26) (some (.if_icmp .lt 5, 29, [31])) (cond (Nat.beq pc 29) (some (.iconst (-1), 30, [])) (none)))) (cond (Nat.beq pc 19) (some (.iload_n 3, 20, [])) (cond (Nat.beq pc 20) (some (.ifCond .lt 9, 23, [29])) (cond (Nat.beq pc 23) (some (.iload_n 3, 24, [])) (none)))))) (cond (Nat.ble 10 pc) (cond (Nat.ble 13 pc) (cond (Nat.beq pc 13) (some (.iload_n 2, 14, [])) (cond (Nat.beq pc 14) (some (.invokevirtual 186, 17, [])) (cond (Nat.beq pc 17) (some (.istore 4, 19, [])) (none)))) (cond (Nat.beq pc 10) (some (.ireturn, 11, [])) (cond (Nat.beq pc 11) (some (.aload_n 0, 12, [])) (cond (Nat.beq pc 12) (some (.iload_n 1, 13, [])) (none))))) (cond (Nat.ble 3 pc) (cond (Nat.beq pc 3) (some (.invokevirtual 385, 6, [])) (cond (Nat.beq pc 6) (some (.ifCond .ne 5, 9, [11])) (cond (Nat.beq pc 9) (some (.iconst 0, 10, [])) (none)))) (cond (Nat.beq pc 0) (some (.aload_n 0, 1, [])) (cond (Nat.beq pc 1) (some (.iload_n 1, 2, [])) (cond (Nat.beq pc 2) (some (.iload_n 2, 3, [])) (none))))))))
theorem qkX9_pair_ok : ∀ pc i nx ts, qkX9_pair pc = some (i, nx, ts) → am_cok cX9_pair pc (i, nx, ts) = true := fun pc i nx ts h => am_tok_ok (n := 87) (by decide +kernel) (fun pc h => by show cond (Nat.ble 87 pc) _ _ = _; rw [Nat.ble_eq_true_of_le h]; rfl) h
def qaX9_pair : Nat → Option CE := fun k => cond (Nat.beq k 385) (some qeX9_areTwo) (cond (Nat.beq k 186) (some qeX9_laysPairs) (cond (Nat.beq k 176) (some qeX9_across) (none)))
theorem qyX9_pair (l : Launch) : ∀ k e1, qaX9_pair k = some e1 → am_cal l layM RX9 14 k e1 ∧ ceT e1 = 0 := q_cons ⟨am_calV (ci := 9) (qtX9_areTwo l) qbX9_areTwo (by decide) rfl (am_tb_at 1929 (by decide +kernel) rfl), rfl⟩ (q_cons ⟨am_calV (ci := 9) (qtX9_laysPairs l) qbX9_laysPairs (by decide) rfl (am_tb_at 1949 (by decide +kernel) rfl), rfl⟩ (q_cons ⟨am_calV (ci := 9) (qtX9_across l) qbX9_across (by decide) rfl (am_tb_at 1933 (by decide +kernel) rfl), rfl⟩ (q_nil)))
def qxX9_pair : CX := (qkX9_pair, layM, qfX9, qaX9_pair, qcX9, qlX9, qmX9, (some .int), false, none, 0, none, fun _ => none)
theorem qzX9_pair (l : Launch) : am_sta l qxX9_pair RX9 14 cX9_pair := ⟨qkX9_pair_ok, layM_ok, qfX9_ok, qcX9_ok, qlX9_ok, am_mthP qmX9_ok (by decide), fun k e1 h => (qyX9_pair l k e1 h).1⟩
def qsX9_pair : SP := fun as F A K => match as with
  | [.inr (.inr o), .inl c, .inl e, .inl k] => cond (Nat.beq o 25) ((fgOK (mF A) ∧ (-2147483648 ≤ c ∧ c < 2147483648) ∧ (-2147483648 ≤ e ∧ e < 2147483648) ∧ (-2147483648 ≤ k ∧ k < 2147483648)) ∧ (∀ (G_1 : FF) (B_1 : AA), (qdP F G_1 A B_1 ∧ G_1 25 0 = (if (0 ≤ c ∧ c < mF A 0) ∧ 0 ≤ e ∧ e < mF A 0 then 0 else 1)) → (K (some (some (vI (if (0 ≤ c ∧ c < mF A 0) ∧ 0 ≤ e ∧ e < mF A 0 then pkX (mF A) c e k else 0)))) G_1 B_1))) (False)
  | _ => False
def qeX9_pair : CE := (yX9_pair, cX9_pair, 7, (some .int), 3, some 9, 0, [], 0, 14, qsX9_pair)
theorem qbX9_pair : am_mb qeX9_pair := ⟨am_tb_at 1971 (by decide +kernel) rfl, am_tb_at 124 (by decide +kernel) rfl, ⟨by decide, by decide, by decide +kernel⟩, by decide, by decide, am_tb_at 1969 (by decide +kernel) rfl, am_tb_at 1970 (by decide +kernel) rfl, _, _, rfl⟩
def qnX9_pair_25 : CUT := fun pc => cond (Nat.beq pc 37) (some [true, true, true, true, true, true, true]) (cond (Nat.beq pc 46) (some [true, true, true, true, true, true, true]) (none))
def qiX9_pair_25 (c : Int) (e : Int) (k : Int) (F0 : FF) (A0 : AA) : REC := fun pc ls st F A u => cond (Nat.beq pc 37) (match ls, st, u with
    | [some (.inr (.inr s0)), some (.inl s1), some (.inl s2), some (.inl s3), some (.inl a), some (.inl t), some (.inl n)], [], 0 => s0 = 25 ∧ s1 = c ∧ s2 = e ∧ s3 = k ∧ (((0 ≤ c ∧ c < mF A0 0) ∧ 0 ≤ e ∧ e < mF A0 0) ∧ (0 ≤ k ∧ k < a) ∧ a = cntQ (prK (mF A0) c e) (Int.toNat (p2 (mF A0 3) * p2 (mF A0 3))) ∧ ((0 ≤ n ∧ n ≤ k + 1) ∧ (-1 ≤ t ∧ t < p2 (mF A0 3) * p2 (mF A0 3)) ∧ cntQ (prK (mF A0) c e) (Int.toNat (t + 1)) = n ∧ (0 ≤ t → prK (mF A0) c e t)) ∧ (qdP F0 F A0 A ∧ F 25 0 = 0) ∧ pkH (mF A0) c e (A 39))
    | _, _, _ => False) (cond (Nat.beq pc 46) (match ls, st, u with
    | [some (.inr (.inr s0)), some (.inl s1), some (.inl s2), some (.inl s3), some (.inl a), some (.inl t), some (.inl n)], [], 0 => s0 = 25 ∧ s1 = c ∧ s2 = e ∧ s3 = k ∧ (((0 ≤ c ∧ c < mF A0 0) ∧ 0 ≤ e ∧ e < mF A0 0) ∧ (0 ≤ k ∧ k < a) ∧ a = cntQ (prK (mF A0) c e) (Int.toNat (p2 (mF A0 3) * p2 (mF A0 3))) ∧ ((0 ≤ n ∧ n ≤ k) ∧ (0 ≤ t ∧ t < p2 (mF A0 3) * p2 (mF A0 3)) ∧ cntQ (prK (mF A0) c e) (Int.toNat t) = n) ∧ (qdP F0 F A0 A ∧ F 25 0 = 0) ∧ pkH (mF A0) c e (A 39))
    | _, _, _ => False) (False))
def quX9_pair_25 : Nat → LVs → List AV → FF → AA → Nat := fun pc ls _ F A => cond (Nat.beq pc 37) (match ls with
    | [some (.inr (.inr s0)), some (.inl s1), some (.inl s2), some (.inl s3), some (.inl a), some (.inl t), some (.inl n)] => Int.toNat (s3 + 1 - n) * 10000 + 5000
    | _ => 0) (cond (Nat.beq pc 46) (match ls with
    | [some (.inr (.inr s0)), some (.inl s1), some (.inl s2), some (.inl s3), some (.inl a), some (.inl t), some (.inl n)] => Int.toNat (s3 + 1 - n) * 10000 + Int.toNat (4999 - t)
    | _ => 0) (0))
set_option maxRecDepth 20000 in
theorem qvX9_pair_25_0 (c : Int) (e : Int) (k : Int) (F0 : FF) (A0 : AA) (K : KK) (h : (fgOK (mF A0) ∧ (-2147483648 ≤ c ∧ c < 2147483648) ∧ (-2147483648 ≤ e ∧ e < 2147483648) ∧ (-2147483648 ≤ k ∧ k < 2147483648)) ∧ (∀ (G_1 : FF) (B_1 : AA), (qdP F0 G_1 A0 B_1 ∧ G_1 25 0 = (if (0 ≤ c ∧ c < mF A0 0) ∧ 0 ≤ e ∧ e < mF A0 0 then 0 else 1)) → (K (some (some (vI (if (0 ≤ c ∧ c < mF A0 0) ∧ 0 ≤ e ∧ e < mF A0 0 then pkX (mF A0) c e k else 0)))) G_1 B_1))) : am_stp qxX9_pair (am_run qxX9_pair qnX9_pair_25 (qiX9_pair_25 c e k F0 A0) K 22) K 0 (am_ent [vR 25, vI c, vI e, vI k] 7) [] F0 A0 0 := by
  show am_stp qxX9_pair (am_run qxX9_pair qnX9_pair_25 (qiX9_pair_25 c e k F0 A0) K 22) K 0 [some (vR 25), some (vI c), some (vI e), some (vI k), none, none, none] [] F0 A0 0
  obtain ⟨hp, h⟩ := h
  have p1 := hp.1
  have q4 := p1.2.1.2
  have sb := sq_b q4.1 q4.2
  show (fgOK (mF A0) ∧ (-2147483648 ≤ c ∧ c < 2147483648) ∧ (-2147483648 ≤ e ∧ e < 2147483648)) ∧ ((w32 (bi ((0 ≤ c ∧ c < mF A0 0) ∧ 0 ≤ e ∧ e < mF A0 0)) = w32 0 → (K (some (some (vI 0))) (upF F0 25 0 (1 - bi ((0 ≤ c ∧ c < mF A0 0) ∧ 0 ≤ e ∧ e < mF A0 0))) A0)) ∧ (¬ (w32 (bi ((0 ≤ c ∧ c < mF A0 0) ∧ 0 ≤ e ∧ e < mF A0 0)) = w32 0) → ((fgOK (mF A0) ∧ (0 ≤ c ∧ c < mF A0 0) ∧ (0 ≤ e ∧ e < mF A0 0)) ∧ (∀ (B_1 : AA), (pqP A0 B_1 c e) → ((w32 k < w32 0 → (K (some (some (vI (-1)))) (upF F0 25 0 (1 - bi ((0 ≤ c ∧ c < mF A0 0) ∧ 0 ≤ e ∧ e < mF A0 0))) B_1)) ∧ (¬ w32 k < w32 0 → ((w32 k < w32 (cntQ (prK (mF A0) c e) (Int.toNat (p2 (mF A0 3) * p2 (mF A0 3)))) → (25 = 25 ∧ c = c ∧ e = e ∧ k = k ∧ (((0 ≤ c ∧ c < mF A0 0) ∧ 0 ≤ e ∧ e < mF A0 0) ∧ (0 ≤ k ∧ k < (cntQ (prK (mF A0) c e) (Int.toNat (p2 (mF A0 3) * p2 (mF A0 3))))) ∧ (cntQ (prK (mF A0) c e) (Int.toNat (p2 (mF A0 3) * p2 (mF A0 3)))) = cntQ (prK (mF A0) c e) (Int.toNat (p2 (mF A0 3) * p2 (mF A0 3))) ∧ ((0 ≤ 0 ∧ 0 ≤ k + 1) ∧ (-1 ≤ (-1) ∧ (-1) < p2 (mF A0 3) * p2 (mF A0 3)) ∧ cntQ (prK (mF A0) c e) (Int.toNat ((-1) + 1)) = 0 ∧ (0 ≤ (-1) → prK (mF A0) c e (-1))) ∧ (qdP F0 (upF F0 25 0 (1 - bi ((0 ≤ c ∧ c < mF A0 0) ∧ 0 ≤ e ∧ e < mF A0 0))) A0 B_1 ∧ (upF F0 25 0 (1 - bi ((0 ≤ c ∧ c < mF A0 0) ∧ 0 ≤ e ∧ e < mF A0 0))) 25 0 = 0) ∧ pkH (mF A0) c e (B_1 39)))) ∧ (¬ w32 k < w32 (cntQ (prK (mF A0) c e) (Int.toNat (p2 (mF A0 3) * p2 (mF A0 3)))) → (K (some (some (vI (-1)))) (upF F0 25 0 (1 - bi ((0 ≤ c ∧ c < mF A0 0) ∧ 0 ≤ e ∧ e < mF A0 0))) B_1)))))))))
  refine ⟨by first | exact ⟨p1, by omega, by omega⟩ | exact ⟨p1, c1.1, c1.2⟩ | omega, ?_⟩
  refine ⟨fun c1 => ?_, fun c1 => ?_⟩
  · skip
    (try simp only [w32_0, wbi0, Classical.not_not] at c1); (try (have cb := cntQ_b (prK (mF A0) c e) (Int.toNat (p2 (mF A0 3) * p2 (mF A0 3))); simp (disch := omega) only [w32_id] at c1))
    have cb := cntQ_b (prK (mF A0) c e) (Int.toNat (p2 (mF A0 3) * p2 (mF A0 3)))
    first
    | exact K_eq (h _ _ ⟨qdP_F (by decide), by rw [upF_s, bi_f c1, if_neg c1]; rfl⟩) (if_neg c1)
    | (refine K_eq (h _ _ ⟨qdP_trans (qdP_F (by decide)) (qdP_A (fun b i hb => g1.1 b i (by omega))), by rw [upF_s, bi_t c1, if_pos c1]; rfl⟩) ?_; rw [if_pos c1, pkX_no (by omega)]; done)
  · skip
    (try simp only [w32_0, wbi0, Classical.not_not] at c1); (try (have cb := cntQ_b (prK (mF A0) c e) (Int.toNat (p2 (mF A0 3) * p2 (mF A0 3))); simp (disch := omega) only [w32_id] at c1))
    refine ⟨by first | exact ⟨p1, by omega, by omega⟩ | exact ⟨p1, c1.1, c1.2⟩ | omega, ?_⟩
    intro B_1 g1
    refine ⟨fun c2 => ?_, fun c2 => ?_⟩
    · skip
      (try simp only [w32_0, wbi0, Classical.not_not] at c2); (try (have cb := cntQ_b (prK (mF A0) c e) (Int.toNat (p2 (mF A0 3) * p2 (mF A0 3))); simp (disch := omega) only [w32_id] at c2))
      have cb := cntQ_b (prK (mF A0) c e) (Int.toNat (p2 (mF A0 3) * p2 (mF A0 3)))
      first
      | exact K_eq (h _ _ ⟨qdP_F (by decide), by rw [upF_s, bi_f c1, if_neg c1]; rfl⟩) (if_neg c1)
      | (refine K_eq (h _ _ ⟨qdP_trans (qdP_F (by decide)) (qdP_A (fun b i hb => g1.1 b i (by omega))), by rw [upF_s, bi_t c1, if_pos c1]; rfl⟩) ?_; rw [if_pos c1, pkX_no (by omega)]; done)
    · skip
      (try simp only [w32_0, wbi0, Classical.not_not] at c2); (try (have cb := cntQ_b (prK (mF A0) c e) (Int.toNat (p2 (mF A0 3) * p2 (mF A0 3))); simp (disch := omega) only [w32_id] at c2))
      refine ⟨fun c3 => ?_, fun c3 => ?_⟩
      · skip
        (try simp only [w32_0, wbi0, Classical.not_not] at c3); (try (have cb := cntQ_b (prK (mF A0) c e) (Int.toNat (p2 (mF A0 3) * p2 (mF A0 3))); simp (disch := omega) only [w32_id] at c3))
        refine ⟨rfl, rfl, rfl, rfl, ?_⟩
        have cb := cntQ_b (prK (mF A0) c e) (Int.toNat (p2 (mF A0 3) * p2 (mF A0 3)))
        refine ⟨c1, by omega, rfl, ⟨by omega, by omega, rfl, fun z => by omega⟩, ⟨qdP_trans (qdP_F (by decide)) (qdP_A (fun b i hb => g1.1 b i (by omega))), by rw [upF_s, bi_t c1]; rfl⟩, g1.2⟩
      · skip
        (try simp only [w32_0, wbi0, Classical.not_not] at c3); (try (have cb := cntQ_b (prK (mF A0) c e) (Int.toNat (p2 (mF A0 3) * p2 (mF A0 3))); simp (disch := omega) only [w32_id] at c3))
        have cb := cntQ_b (prK (mF A0) c e) (Int.toNat (p2 (mF A0 3) * p2 (mF A0 3)))
        first
        | exact K_eq (h _ _ ⟨qdP_F (by decide), by rw [upF_s, bi_f c1, if_neg c1]; rfl⟩) (if_neg c1)
        | (refine K_eq (h _ _ ⟨qdP_trans (qdP_F (by decide)) (qdP_A (fun b i hb => g1.1 b i (by omega))), by rw [upF_s, bi_t c1, if_pos c1]; rfl⟩) ?_; rw [if_pos c1, pkX_no (by omega)]; done)
set_option maxRecDepth 20000 in
theorem qvX9_pair_25_37 (c : Int) (e : Int) (k : Int) (F0 : FF) (A0 : AA) (K : KK) (h : (fgOK (mF A0) ∧ (-2147483648 ≤ c ∧ c < 2147483648) ∧ (-2147483648 ≤ e ∧ e < 2147483648) ∧ (-2147483648 ≤ k ∧ k < 2147483648)) ∧ (∀ (G_1 : FF) (B_1 : AA), (qdP F0 G_1 A0 B_1 ∧ G_1 25 0 = (if (0 ≤ c ∧ c < mF A0 0) ∧ 0 ≤ e ∧ e < mF A0 0 then 0 else 1)) → (K (some (some (vI (if (0 ≤ c ∧ c < mF A0 0) ∧ 0 ≤ e ∧ e < mF A0 0 then pkX (mF A0) c e k else 0)))) G_1 B_1))) (a : Int) (t : Int) (n : Int) (F : FF) (A : AA) (hi : ((0 ≤ c ∧ c < mF A0 0) ∧ 0 ≤ e ∧ e < mF A0 0) ∧ (0 ≤ k ∧ k < a) ∧ a = cntQ (prK (mF A0) c e) (Int.toNat (p2 (mF A0 3) * p2 (mF A0 3))) ∧ ((0 ≤ n ∧ n ≤ k + 1) ∧ (-1 ≤ t ∧ t < p2 (mF A0 3) * p2 (mF A0 3)) ∧ cntQ (prK (mF A0) c e) (Int.toNat (t + 1)) = n ∧ (0 ≤ t → prK (mF A0) c e t)) ∧ (qdP F0 F A0 A ∧ F 25 0 = 0) ∧ pkH (mF A0) c e (A 39)) : am_stp qxX9_pair (am_run qxX9_pair qnX9_pair_25 (fun pc ls st F9 A9 u => qiX9_pair_25 c e k F0 A0 pc ls st F9 A9 u ∧ quX9_pair_25 pc ls st F9 A9 < quX9_pair_25 37 [some (vR 25), some (vI c), some (vI e), some (vI k), some (vI a), some (vI t), some (vI n)] [] F A) K 22) K 37 [some (vR 25), some (vI c), some (vI e), some (vI k), some (vI a), some (vI t), some (vI n)] [] F A 0 := by
  obtain ⟨hp, h⟩ := h
  have p1 := hp.1
  have q4 := p1.2.1.2
  have sb := sq_b q4.1 q4.2
  obtain ⟨h1, h2, h3, ⟨h4, h5, h6, h7⟩, ⟨hQ, hT⟩, hK⟩ := hi
  have eF := qdP_f hQ
  have el : x_shl 1 (mF A (2 + 1)) = p2 (mF A0 3) := by rw [eF]; exact x_shl1 (by show 0 ≤ mF A0 3; omega) (by show mF A0 3 ≤ 12; omega)
  have cb := cntQ_b (prK (mF A0) c e) (Int.toNat (p2 (mF A0 3) * p2 (mF A0 3)))
  show (w32 k < w32 n → ((True) ∧ ((w32 (x_shl 1 (mF A (2 + 1))) ≠ 0) ∧ ((True) ∧ ((w32 (x_shl 1 (mF A (2 + 1))) ≠ 0) ∧ (K (some (some (vI ((100 * (x_div t (x_shl 1 (mF A (2 + 1))))) + (x_rem t (x_shl 1 (mF A (2 + 1)))))))) F A)))))) ∧ (¬ w32 k < w32 n → ((25 = 25 ∧ c = c ∧ e = e ∧ k = k ∧ (((0 ≤ c ∧ c < mF A0 0) ∧ 0 ≤ e ∧ e < mF A0 0) ∧ (0 ≤ k ∧ k < a) ∧ a = cntQ (prK (mF A0) c e) (Int.toNat (p2 (mF A0 3) * p2 (mF A0 3))) ∧ ((0 ≤ n ∧ n ≤ k) ∧ (0 ≤ (t + 1) ∧ (t + 1) < p2 (mF A0 3) * p2 (mF A0 3)) ∧ cntQ (prK (mF A0) c e) (Int.toNat (t + 1)) = n) ∧ (qdP F0 F A0 A ∧ F 25 0 = 0) ∧ pkH (mF A0) c e (A 39))) ∧ (Int.toNat (k + 1 - n) * 10000 + Int.toNat (4999 - (t + 1))) < (Int.toNat (k + 1 - n) * 10000 + 5000)))
  refine ⟨fun c1 => ?_, fun c1 => ?_⟩
  · skip
    (try simp (disch := omega) only [w32_id] at c1)
    refine ⟨by first | trivial | omega | (rw [el, w32_id (by omega) (by omega)]; omega), ?_⟩
    refine ⟨by first | trivial | omega | (rw [el, w32_id (by omega) (by omega)]; omega), ?_⟩
    refine ⟨by first | trivial | omega | (rw [el, w32_id (by omega) (by omega)]; omega), ?_⟩
    refine ⟨by first | trivial | omega | (rw [el, w32_id (by omega) (by omega)]; omega), ?_⟩
    have en : n = k + 1 := by omega
    have t0 : 0 ≤ t := by
      by_cases z : 0 ≤ t
      · exact z
      · have zt : Int.toNat (t + 1) = 0 := by omega
        rw [zt] at h6
        have h8 : (0 : Int) = n := h6
        omega
    refine K_eq (h _ _ ⟨hQ, by rw [hT, if_pos h1]⟩) ?_
    rw [if_pos h1, el, x_div_eq t0 (by omega) (by omega) (by omega), x_rem_eq t0 (by omega) (by omega) (by omega), pkX_is t0 h5.2 (h7 t0) (by omega)]
  · skip
    (try simp (disch := omega) only [w32_id] at c1)
    refine ⟨⟨rfl, rfl, rfl, rfl, ?_⟩, by omega⟩
    have ht : t + 1 < p2 (mF A0 3) * p2 (mF A0 3) := by
      by_cases z : t + 1 = p2 (mF A0 3) * p2 (mF A0 3)
      · rw [z, ← h3] at h6; omega
      · omega
    exact ⟨h1, h2, h3, ⟨by omega, by omega, h6⟩, ⟨hQ, hT⟩, hK⟩
set_option maxRecDepth 20000 in
theorem qvX9_pair_25_46 (c : Int) (e : Int) (k : Int) (F0 : FF) (A0 : AA) (K : KK) (h : (fgOK (mF A0) ∧ (-2147483648 ≤ c ∧ c < 2147483648) ∧ (-2147483648 ≤ e ∧ e < 2147483648) ∧ (-2147483648 ≤ k ∧ k < 2147483648)) ∧ (∀ (G_1 : FF) (B_1 : AA), (qdP F0 G_1 A0 B_1 ∧ G_1 25 0 = (if (0 ≤ c ∧ c < mF A0 0) ∧ 0 ≤ e ∧ e < mF A0 0 then 0 else 1)) → (K (some (some (vI (if (0 ≤ c ∧ c < mF A0 0) ∧ 0 ≤ e ∧ e < mF A0 0 then pkX (mF A0) c e k else 0)))) G_1 B_1))) (a : Int) (t : Int) (n : Int) (F : FF) (A : AA) (hi : ((0 ≤ c ∧ c < mF A0 0) ∧ 0 ≤ e ∧ e < mF A0 0) ∧ (0 ≤ k ∧ k < a) ∧ a = cntQ (prK (mF A0) c e) (Int.toNat (p2 (mF A0 3) * p2 (mF A0 3))) ∧ ((0 ≤ n ∧ n ≤ k) ∧ (0 ≤ t ∧ t < p2 (mF A0 3) * p2 (mF A0 3)) ∧ cntQ (prK (mF A0) c e) (Int.toNat t) = n) ∧ (qdP F0 F A0 A ∧ F 25 0 = 0) ∧ pkH (mF A0) c e (A 39)) : am_stp qxX9_pair (am_run qxX9_pair qnX9_pair_25 (fun pc ls st F9 A9 u => qiX9_pair_25 c e k F0 A0 pc ls st F9 A9 u ∧ quX9_pair_25 pc ls st F9 A9 < quX9_pair_25 46 [some (vR 25), some (vI c), some (vI e), some (vI k), some (vI a), some (vI t), some (vI n)] [] F A) K 22) K 46 [some (vR 25), some (vI c), some (vI e), some (vI k), some (vI a), some (vI t), some (vI n)] [] F A 0 := by
  obtain ⟨hp, h⟩ := h
  have p1 := hp.1
  have q4 := p1.2.1.2
  have sb := sq_b q4.1 q4.2
  obtain ⟨h1, h2, h3, ⟨h4, h5, h6⟩, ⟨hQ, hT⟩, hK⟩ := hi
  have eF := qdP_f hQ
  have el : x_shl 1 (mF A (2 + 1)) = p2 (mF A0 3) := by rw [eF]; exact x_shl1 (by show 0 ≤ mF A0 3; omega) (by show mF A0 3 ≤ 12; omega)
  have cb := cntQ_b (prK (mF A0) c e) (Int.toNat (p2 (mF A0 3) * p2 (mF A0 3)))
  show (0 ≤ w32 t ∧ w32 t < 4096) ∧ ((w32 (A 39 (w32 t)) = w32 0 → ((25 = 25 ∧ c = c ∧ e = e ∧ k = k ∧ (((0 ≤ c ∧ c < mF A0 0) ∧ 0 ≤ e ∧ e < mF A0 0) ∧ (0 ≤ k ∧ k < a) ∧ a = cntQ (prK (mF A0) c e) (Int.toNat (p2 (mF A0 3) * p2 (mF A0 3))) ∧ ((0 ≤ n ∧ n ≤ k) ∧ (0 ≤ (t + 1) ∧ (t + 1) < p2 (mF A0 3) * p2 (mF A0 3)) ∧ cntQ (prK (mF A0) c e) (Int.toNat (t + 1)) = n) ∧ (qdP F0 F A0 A ∧ F 25 0 = 0) ∧ pkH (mF A0) c e (A 39))) ∧ (Int.toNat (k + 1 - n) * 10000 + Int.toNat (4999 - (t + 1))) < (Int.toNat (k + 1 - n) * 10000 + Int.toNat (4999 - t)))) ∧ (¬ w32 (A 39 (w32 t)) = w32 0 → ((25 = 25 ∧ c = c ∧ e = e ∧ k = k ∧ (((0 ≤ c ∧ c < mF A0 0) ∧ 0 ≤ e ∧ e < mF A0 0) ∧ (0 ≤ k ∧ k < a) ∧ a = cntQ (prK (mF A0) c e) (Int.toNat (p2 (mF A0 3) * p2 (mF A0 3))) ∧ ((0 ≤ (n + 1) ∧ (n + 1) ≤ k + 1) ∧ (-1 ≤ t ∧ t < p2 (mF A0 3) * p2 (mF A0 3)) ∧ cntQ (prK (mF A0) c e) (Int.toNat (t + 1)) = (n + 1) ∧ (0 ≤ t → prK (mF A0) c e t)) ∧ (qdP F0 F A0 A ∧ F 25 0 = 0) ∧ pkH (mF A0) c e (A 39))) ∧ (Int.toNat (k + 1 - (n + 1)) * 10000 + 5000) < (Int.toNat (k + 1 - n) * 10000 + Int.toNat (4999 - t)))))
  refine ⟨by first | omega | (rw [w32_id (by omega) (by omega)]; omega), ?_⟩
  refine ⟨fun c1 => ?_, fun c1 => ?_⟩
  · skip
    (try rw [w32_0] at c1); (try rw [w32_id (x := t) (by omega) (by omega)] at c1); (try rw [pk_w hK (by omega) (by omega)] at c1); (try simp only [Classical.not_not] at c1); (try simp (disch := omega) only [w32_id] at c1)
    refine ⟨⟨rfl, rfl, rfl, rfl, ?_⟩, by omega⟩
    have h8 := (cntQ_f h5.1 c1).trans h6
    have ht : t + 1 < p2 (mF A0 3) * p2 (mF A0 3) := by
      by_cases z : t + 1 = p2 (mF A0 3) * p2 (mF A0 3)
      · rw [z, ← h3] at h8; omega
      · omega
    exact ⟨h1, h2, h3, ⟨h4, by omega, h8⟩, ⟨hQ, hT⟩, hK⟩
  · skip
    (try rw [w32_0] at c1); (try rw [w32_id (x := t) (by omega) (by omega)] at c1); (try rw [pk_w hK (by omega) (by omega)] at c1); (try simp only [Classical.not_not] at c1); (try simp (disch := omega) only [w32_id] at c1)
    refine ⟨⟨rfl, rfl, rfl, rfl, ?_⟩, by omega⟩
    exact ⟨h1, h2, h3, ⟨by omega, by omega, by rw [cntQ_t h5.1 c1, h6], fun _ => c1⟩, ⟨hQ, hT⟩, hK⟩
set_option maxRecDepth 20000 in
theorem qvX9_pair_25 (c : Int) (e : Int) (k : Int) (F0 : FF) (A0 : AA) (K : KK) (h : (fgOK (mF A0) ∧ (-2147483648 ≤ c ∧ c < 2147483648) ∧ (-2147483648 ≤ e ∧ e < 2147483648) ∧ (-2147483648 ≤ k ∧ k < 2147483648)) ∧ (∀ (G_1 : FF) (B_1 : AA), (qdP F0 G_1 A0 B_1 ∧ G_1 25 0 = (if (0 ≤ c ∧ c < mF A0 0) ∧ 0 ≤ e ∧ e < mF A0 0 then 0 else 1)) → (K (some (some (vI (if (0 ≤ c ∧ c < mF A0 0) ∧ 0 ≤ e ∧ e < mF A0 0 then pkX (mF A0) c e k else 0)))) G_1 B_1))) : am_body qxX9_pair qnX9_pair_25 22 (qiX9_pair_25 c e k F0 A0) quX9_pair_25 [vR 25, vI c, vI e, vI k] 7 F0 A0 K := by
  refine ⟨qvX9_pair_25_0 c e k F0 A0 K h, fun pc ls st F A u hI => ?_⟩
  unfold qiX9_pair_25 at hI
  replace hI := am_cond2 hI
  rcases hI with ⟨hb, hI⟩ | hI
  · have hb := am_bq hb
    subst hb
    split at hI
    · rename_i s0 s1 s2 s3 a t n
      obtain ⟨e0, e1, e2, e3, hI⟩ := hI
      subst e0
      subst e1
      subst e2
      subst e3
      exact qvX9_pair_25_37 _ _ _ _ _ K h _ _ _ _ _ hI
    · exact hI.elim
  replace hI := am_cond2 hI
  rcases hI with ⟨hb, hI⟩ | hI
  · have hb := am_bq hb
    subst hb
    split at hI
    · rename_i s0 s1 s2 s3 a t n
      obtain ⟨e0, e1, e2, e3, hI⟩ := hI
      subst e0
      subst e1
      subst e2
      subst e3
      exact qvX9_pair_25_46 _ _ _ _ _ K h _ _ _ _ _ hI
    · exact hI.elim
  exact hI.elim
theorem qtX9_pair (l : Launch) : am_CT l layM qeX9_pair := am_met0 rfl (by decide +kernel) rfl rfl rfl rfl rfl (fun _ => rfl) rfl (qzX9_pair l) (fun k e1 h => (qyX9_pair l k e1 h).2) (fun as F A K h => by
  replace h : qsX9_pair as F A K := h
  unfold qsX9_pair at h
  split at h
  · rename_i o c e k
    refine ⟨by first | exact Nat.le_of_ble_eq_true rfl | simp [am_fl, am_cat], ?_⟩
    replace h := am_cond2 h
    rcases h with ⟨hb, h⟩ | h
    · skip
      have hb0 := hb
      have hb0 := am_bq hb0
      subst hb0
      exact am_way_body (qvX9_pair_25 c e k F A K h)
    exact h.elim
  · exact h.elim)
