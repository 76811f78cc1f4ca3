def qkX9_meet : Nat → Option CI := fun pc => cond (Nat.ble 123 pc) none (cond (Nat.ble 57 pc) (cond (Nat.ble 88 pc) (cond (Nat.ble 104 pc) (cond (Nat.ble 113 pc) (cond (Nat.ble 118 pc) (cond (Nat.beq pc 118) (some (.goto (-116), 121, [2])) (cond (Nat.beq pc 121) (some (.iconst 1, 122, [])) (cond (Nat.beq pc 122) (some (.ireturn, 123, [])) (none)))) (cond (Nat.beq pc 113) (some (.iconst 0, 114, [])) (cond (Nat.beq pc 114) (some (.ireturn, 115, [])) (cond (Nat.beq pc 115) (some (.iinc 3 1, 118, [])) (none))))) (cond (Nat.ble 106 pc) (cond (Nat.beq pc 106) (some (.laload, 107, [])) (cond (Nat.beq pc 107) (some (.invokestatic 160, 110, [])) (cond (Nat.beq pc 110) (some (.ifCond .eq 5, 113, [115])) (none)))) (cond (Nat.beq pc 104) (some (.iconst 1, 105, [])) (cond (Nat.beq pc 105) (some (.iadd, 106, [])) (none))))) (cond (Nat.ble 96 pc) (cond (Nat.ble 100 pc) (cond (Nat.beq pc 100) (some (.iload_n 1, 101, [])) (cond (Nat.beq pc 101) (some (.iload 4, 103, [])) (cond (Nat.beq pc 103) (some (.iadd, 104, [])) (none)))) (cond (Nat.beq pc 96) (some (.aload_n 0, 97, [])) (cond (Nat.beq pc 97) (some (.getfield 47, 100, [])) (none)))) (cond (Nat.ble 92 pc) (cond (Nat.beq pc 92) (some (.iload 4, 94, [])) (cond (Nat.beq pc 94) (some (.iadd, 95, [])) (cond (Nat.beq pc 95) (some (.laload, 96, [])) (none)))) (cond (Nat.beq pc 88) (some (.getfield 47, 91, [])) (cond (Nat.beq pc 91) (some (.iload_n 1, 92, [])) (none)))))) (cond (Nat.ble 74 pc) (cond (Nat.ble 81 pc) (cond (Nat.ble 85 pc) (cond (Nat.beq pc 85) (some (.iadd, 86, [])) (cond (Nat.beq pc 86) (some (.laload, 87, [])) (cond (Nat.beq pc 87) (some (.aload_n 0, 88, [])) (none)))) (cond (Nat.beq pc 81) (some (.iload 5, 83, [])) (cond (Nat.beq pc 83) (some (.iadd, 84, [])) (cond (Nat.beq pc 84) (some (.iconst 1, 85, [])) (none))))) (cond (Nat.ble 76 pc) (cond (Nat.beq pc 76) (some (.aload_n 0, 77, [])) (cond (Nat.beq pc 77) (some (.getfield 47, 80, [])) (cond (Nat.beq pc 80) (some (.iload_n 2, 81, [])) (none)))) (cond (Nat.beq pc 74) (some (.iadd, 75, [])) (cond (Nat.beq pc 75) (some (.laload, 76, [])) (none))))) (cond (Nat.ble 66 pc) (cond (Nat.ble 68 pc) (cond (Nat.beq pc 68) (some (.getfield 47, 71, [])) (cond (Nat.beq pc 71) (some (.iload_n 2, 72, [])) (cond (Nat.beq pc 72) (some (.iload 5, 74, [])) (none)))) (cond (Nat.beq pc 66) (some (.ireturn, 67, [])) (cond (Nat.beq pc 67) (some (.aload_n 0, 68, [])) (none)))) (cond (Nat.ble 59 pc) (cond (Nat.beq pc 59) (some (.invokestatic 160, 62, [])) (cond (Nat.beq pc 62) (some (.ifCond .eq 5, 65, [67])) (cond (Nat.beq pc 65) (some (.iconst 0, 66, [])) (none)))) (cond (Nat.beq pc 57) (some (.iadd, 58, [])) (cond (Nat.beq pc 58) (some (.laload, 59, [])) (none))))))) (cond (Nat.ble 27 pc) (cond (Nat.ble 40 pc) (cond (Nat.ble 48 pc) (cond (Nat.ble 53 pc) (cond (Nat.beq pc 53) (some (.iload 4, 55, [])) (cond (Nat.beq pc 55) (some (.iadd, 56, [])) (cond (Nat.beq pc 56) (some (.iconst 1, 57, [])) (none)))) (cond (Nat.beq pc 48) (some (.aload_n 0, 49, [])) (cond (Nat.beq pc 49) (some (.getfield 47, 52, [])) (cond (Nat.beq pc 52) (some (.iload_n 2, 53, [])) (none))))) (cond (Nat.ble 44 pc) (cond (Nat.beq pc 44) (some (.iload 4, 46, [])) (cond (Nat.beq pc 46) (some (.iadd, 47, [])) (cond (Nat.beq pc 47) (some (.laload, 48, [])) (none)))) (cond (Nat.beq pc 40) (some (.getfield 47, 43, [])) (cond (Nat.beq pc 43) (some (.iload_n 2, 44, [])) (none))))) (cond (Nat.ble 35 pc) (cond (Nat.ble 37 pc) (cond (Nat.beq pc 37) (some (.iadd, 38, [])) (cond (Nat.beq pc 38) (some (.laload, 39, [])) (cond (Nat.beq pc 39) (some (.aload_n 0, 40, [])) (none)))) (cond (Nat.beq pc 35) (some (.iadd, 36, [])) (cond (Nat.beq pc 36) (some (.iconst 1, 37, [])) (none)))) (cond (Nat.ble 29 pc) (cond (Nat.beq pc 29) (some (.getfield 47, 32, [])) (cond (Nat.beq pc 32) (some (.iload_n 1, 33, [])) (cond (Nat.beq pc 33) (some (.iload 5, 35, [])) (none)))) (cond (Nat.beq pc 27) (some (.laload, 28, [])) (cond (Nat.beq pc 28) (some (.aload_n 0, 29, [])) (none)))))) (cond (Nat.ble 13 pc) (cond (Nat.ble 19 pc) (cond (Nat.ble 23 pc) (cond (Nat.beq pc 23) (some (.iload_n 1, 24, [])) (cond (Nat.beq pc 24) (some (.iload 5, 26, [])) (cond (Nat.beq pc 26) (some (.iadd, 27, [])) (none)))) (cond (Nat.beq pc 19) (some (.aload_n 0, 20, [])) (cond (Nat.beq pc 20) (some (.getfield 47, 23, [])) (none)))) (cond (Nat.ble 15 pc) (cond (Nat.beq pc 15) (some (.imul, 16, [])) (cond (Nat.beq pc 16) (some (.iadd, 17, [])) (cond (Nat.beq pc 17) (some (.istore 5, 19, [])) (none)))) (cond (Nat.beq pc 13) (some (.iconst 2, 14, [])) (cond (Nat.beq pc 14) (some (.iload_n 3, 15, [])) (none))))) (cond (Nat.ble 7 pc) (cond (Nat.ble 9 pc) (cond (Nat.beq pc 9) (some (.imul, 10, [])) (cond (Nat.beq pc 10) (some (.istore 4, 12, [])) (cond (Nat.beq pc 12) (some (.iconst 4, 13, [])) (none)))) (cond (Nat.beq pc 7) (some (.iconst 2, 8, [])) (cond (Nat.beq pc 8) (some (.iload_n 3, 9, [])) (none)))) (cond (Nat.ble 2 pc) (cond (Nat.beq pc 2) (some (.iload_n 3, 3, [])) (cond (Nat.beq pc 3) (some (.iconst 2, 4, [])) (cond (Nat.beq pc 4) (some (.if_icmp .ge 117, 7, [121])) (none)))) (cond (Nat.beq pc 0) (some (.iconst 0, 1, [])) (cond (Nat.beq pc 1) (some (.istore_n 3, 2, [])) (none))))))))
theorem qkX9_meet_ok : ∀ pc i nx ts, qkX9_meet pc = some (i, nx, ts) → am_cok cX9_meet pc (i, nx, ts) = true := fun pc i nx ts h => am_tok_ok (n := 123) (by decide +kernel) (fun pc h => by show cond (Nat.ble 123 pc) _ _ = _; rw [Nat.ble_eq_true_of_le h]; rfl) h
def qaX9_meet : Nat → Option CE := fun k => cond (Nat.beq k 160) (some qeX9_isLess) (none)
theorem qyX9_meet (l : Launch) : ∀ k e1, qaX9_meet k = some e1 → am_cal l layM RX9 4 k e1 ∧ ceT e1 = 0 := q_cons ⟨am_calS (qtX9_isLess l) qbX9_isLess (by decide) rfl (by decide) (am_tb_at 1734 (by decide +kernel) rfl), rfl⟩ (q_nil)
def qxX9_meet : CX := (qkX9_meet, layM, qfX9, qaX9_meet, qcX9, qlX9, qmX9, (some .boolean), false, none, 0, none, fun _ => none)
theorem qzX9_meet (l : Launch) : am_sta l qxX9_meet RX9 4 cX9_meet := ⟨qkX9_meet_ok, layM_ok, qfX9_ok, qcX9_ok, qlX9_ok, am_mthP qmX9_ok (by decide), fun k e1 h => (qyX9_meet l k e1 h).1⟩
def qsX9_meet : SP := fun as F A K => match as with
  | [.inr (.inr o), .inl a, .inl b] => cond (Nat.beq o 25) (((0 ≤ a ∧ a ≤ 2024) ∧ (0 ≤ b ∧ b ≤ 2024) ∧ bxO (A 38) a ∧ bxO (A 38) b) ∧ (K (some (some (vI (bi (meB (A 38) a b))))) F A)) (False)
  | _ => False
def qeX9_meet : CE := (yX9_meet, cX9_meet, 6, (some .boolean), 2, some 9, 0, [], 0, 4, qsX9_meet)
theorem qbX9_meet : am_mb qeX9_meet := ⟨am_tb_at 1967 (by decide +kernel) rfl, am_tb_at 124 (by decide +kernel) rfl, ⟨by decide, by decide, by decide +kernel⟩, by decide, by decide, am_tb_at 1966 (by decide +kernel) rfl, am_tb_at 106 (by decide +kernel) rfl, _, _, rfl⟩
set_option maxRecDepth 20000 in
theorem qvX9_meet_25 (a : Int) (b : Int) (F : FF) (A : AA) (K : KK) (h : ((0 ≤ a ∧ a ≤ 2024) ∧ (0 ≤ b ∧ b ≤ 2024) ∧ bxO (A 38) a ∧ bxO (A 38) b) ∧ (K (some (some (vI (bi (meB (A 38) a b))))) F A)) : am_line qxX9_meet 158 [vR 25, vI a, vI b] 6 F A K := by
  show am_stp qxX9_meet (am_run qxX9_meet (fun _ => none) (fun _ _ _ _ _ _ => False) K 158) K 0 [some (vR 25), some (vI a), some (vI b), none, none, none] [] F A 0
  obtain ⟨hp, h⟩ := h
  obtain ⟨p1, p2', za, zb⟩ := hp

  show (w32 0 < w32 2 → ((0 ≤ w32 (a + 4) ∧ w32 (a + 4) < 2032) ∧ ((0 ≤ w32 ((a + 4) + 1) ∧ w32 ((a + 4) + 1) < 2032) ∧ ((0 ≤ w32 (b + 0) ∧ w32 (b + 0) < 2032) ∧ ((0 ≤ w32 ((b + 0) + 1) ∧ w32 ((b + 0) + 1) < 2032) ∧ (((-4611686018427387904 ≤ (A 38 (w32 (a + 4))) * (A 38 (w32 ((b + 0) + 1))) ∧ (A 38 (w32 (a + 4))) * (A 38 (w32 ((b + 0) + 1))) ≤ 4611686018427387904) ∧ (-4611686018427387904 ≤ (A 38 (w32 (b + 0))) * (A 38 (w32 ((a + 4) + 1))) ∧ (A 38 (w32 (b + 0))) * (A 38 (w32 ((a + 4) + 1))) ≤ 4611686018427387904)) ∧ ((w32 (bi ((A 38 (w32 (a + 4))) * (A 38 (w32 ((b + 0) + 1))) < (A 38 (w32 (b + 0))) * (A 38 (w32 ((a + 4) + 1))))) = w32 0 → ((0 ≤ w32 (b + 4) ∧ w32 (b + 4) < 2032) ∧ ((0 ≤ w32 ((b + 4) + 1) ∧ w32 ((b + 4) + 1) < 2032) ∧ ((0 ≤ w32 (a + 0) ∧ w32 (a + 0) < 2032) ∧ ((0 ≤ w32 ((a + 0) + 1) ∧ w32 ((a + 0) + 1) < 2032) ∧ (((-4611686018427387904 ≤ (A 38 (w32 (b + 4))) * (A 38 (w32 ((a + 0) + 1))) ∧ (A 38 (w32 (b + 4))) * (A 38 (w32 ((a + 0) + 1))) ≤ 4611686018427387904) ∧ (-4611686018427387904 ≤ (A 38 (w32 (a + 0))) * (A 38 (w32 ((b + 4) + 1))) ∧ (A 38 (w32 (a + 0))) * (A 38 (w32 ((b + 4) + 1))) ≤ 4611686018427387904)) ∧ ((w32 (bi ((A 38 (w32 (b + 4))) * (A 38 (w32 ((a + 0) + 1))) < (A 38 (w32 (a + 0))) * (A 38 (w32 ((b + 4) + 1))))) = w32 0 → ((w32 1 < w32 2 → ((0 ≤ w32 (a + 6) ∧ w32 (a + 6) < 2032) ∧ ((0 ≤ w32 ((a + 6) + 1) ∧ w32 ((a + 6) + 1) < 2032) ∧ ((0 ≤ w32 (b + 2) ∧ w32 (b + 2) < 2032) ∧ ((0 ≤ w32 ((b + 2) + 1) ∧ w32 ((b + 2) + 1) < 2032) ∧ (((-4611686018427387904 ≤ (A 38 (w32 (a + 6))) * (A 38 (w32 ((b + 2) + 1))) ∧ (A 38 (w32 (a + 6))) * (A 38 (w32 ((b + 2) + 1))) ≤ 4611686018427387904) ∧ (-4611686018427387904 ≤ (A 38 (w32 (b + 2))) * (A 38 (w32 ((a + 6) + 1))) ∧ (A 38 (w32 (b + 2))) * (A 38 (w32 ((a + 6) + 1))) ≤ 4611686018427387904)) ∧ ((w32 (bi ((A 38 (w32 (a + 6))) * (A 38 (w32 ((b + 2) + 1))) < (A 38 (w32 (b + 2))) * (A 38 (w32 ((a + 6) + 1))))) = w32 0 → ((0 ≤ w32 (b + 6) ∧ w32 (b + 6) < 2032) ∧ ((0 ≤ w32 ((b + 6) + 1) ∧ w32 ((b + 6) + 1) < 2032) ∧ ((0 ≤ w32 (a + 2) ∧ w32 (a + 2) < 2032) ∧ ((0 ≤ w32 ((a + 2) + 1) ∧ w32 ((a + 2) + 1) < 2032) ∧ (((-4611686018427387904 ≤ (A 38 (w32 (b + 6))) * (A 38 (w32 ((a + 2) + 1))) ∧ (A 38 (w32 (b + 6))) * (A 38 (w32 ((a + 2) + 1))) ≤ 4611686018427387904) ∧ (-4611686018427387904 ≤ (A 38 (w32 (a + 2))) * (A 38 (w32 ((b + 6) + 1))) ∧ (A 38 (w32 (a + 2))) * (A 38 (w32 ((b + 6) + 1))) ≤ 4611686018427387904)) ∧ ((w32 (bi ((A 38 (w32 (b + 6))) * (A 38 (w32 ((a + 2) + 1))) < (A 38 (w32 (a + 2))) * (A 38 (w32 ((b + 6) + 1))))) = w32 0 → ((w32 2 < w32 2 → _) ∧ (¬ w32 2 < w32 2 → ((1 = 0 ∨ 1 = 1) ∧ (K (some (some (vI 1))) F A))))) ∧ (¬ w32 (bi ((A 38 (w32 (b + 6))) * (A 38 (w32 ((a + 2) + 1))) < (A 38 (w32 (a + 2))) * (A 38 (w32 ((b + 6) + 1))))) = w32 0 → ((0 = 0 ∨ 0 = 1) ∧ (K (some (some (vI 0))) F A)))))))))) ∧ (¬ w32 (bi ((A 38 (w32 (a + 6))) * (A 38 (w32 ((b + 2) + 1))) < (A 38 (w32 (b + 2))) * (A 38 (w32 ((a + 6) + 1))))) = w32 0 → ((0 = 0 ∨ 0 = 1) ∧ (K (some (some (vI 0))) F A)))))))))) ∧ (¬ w32 1 < w32 2 → _))) ∧ (¬ w32 (bi ((A 38 (w32 (b + 4))) * (A 38 (w32 ((a + 0) + 1))) < (A 38 (w32 (a + 0))) * (A 38 (w32 ((b + 4) + 1))))) = w32 0 → ((0 = 0 ∨ 0 = 1) ∧ (K (some (some (vI 0))) F A)))))))))) ∧ (¬ w32 (bi ((A 38 (w32 (a + 4))) * (A 38 (w32 ((b + 0) + 1))) < (A 38 (w32 (b + 0))) * (A 38 (w32 ((a + 4) + 1))))) = w32 0 → ((0 = 0 ∨ 0 = 1) ∧ (K (some (some (vI 0))) F A)))))))))) ∧ (¬ w32 0 < w32 2 → _)
  refine ⟨fun _ => ?_, fun q => absurd (by decide) q⟩
  refine ⟨by first | exact bi_01 | omega | (rw [w32_id (by omega) (by omega)]; omega) | (simp (disch := omega) only [w32_id]; first | exact ⟨pbB (za _ (by omega) (by omega)) (zb _ (by omega) (by omega)), pbB (zb _ (by omega) (by omega)) (za _ (by omega) (by omega))⟩ | exact ⟨pbB (zb _ (by omega) (by omega)) (za _ (by omega) (by omega)), pbB (za _ (by omega) (by omega)) (zb _ (by omega) (by omega))⟩), ?_⟩
  refine ⟨by first | exact bi_01 | omega | (rw [w32_id (by omega) (by omega)]; omega) | (simp (disch := omega) only [w32_id]; first | exact ⟨pbB (za _ (by omega) (by omega)) (zb _ (by omega) (by omega)), pbB (zb _ (by omega) (by omega)) (za _ (by omega) (by omega))⟩ | exact ⟨pbB (zb _ (by omega) (by omega)) (za _ (by omega) (by omega)), pbB (za _ (by omega) (by omega)) (zb _ (by omega) (by omega))⟩), ?_⟩
  refine ⟨by first | exact bi_01 | omega | (rw [w32_id (by omega) (by omega)]; omega) | (simp (disch := omega) only [w32_id]; first | exact ⟨pbB (za _ (by omega) (by omega)) (zb _ (by omega) (by omega)), pbB (zb _ (by omega) (by omega)) (za _ (by omega) (by omega))⟩ | exact ⟨pbB (zb _ (by omega) (by omega)) (za _ (by omega) (by omega)), pbB (za _ (by omega) (by omega)) (zb _ (by omega) (by omega))⟩), ?_⟩
  refine ⟨by first | exact bi_01 | omega | (rw [w32_id (by omega) (by omega)]; omega) | (simp (disch := omega) only [w32_id]; first | exact ⟨pbB (za _ (by omega) (by omega)) (zb _ (by omega) (by omega)), pbB (zb _ (by omega) (by omega)) (za _ (by omega) (by omega))⟩ | exact ⟨pbB (zb _ (by omega) (by omega)) (za _ (by omega) (by omega)), pbB (za _ (by omega) (by omega)) (zb _ (by omega) (by omega))⟩), ?_⟩
  refine ⟨by first | exact bi_01 | omega | (rw [w32_id (by omega) (by omega)]; omega) | (simp (disch := omega) only [w32_id]; first | exact ⟨pbB (za _ (by omega) (by omega)) (zb _ (by omega) (by omega)), pbB (zb _ (by omega) (by omega)) (za _ (by omega) (by omega))⟩ | exact ⟨pbB (zb _ (by omega) (by omega)) (za _ (by omega) (by omega)), pbB (za _ (by omega) (by omega)) (zb _ (by omega) (by omega))⟩), ?_⟩
  refine ⟨fun c1 => ?_, fun c1 => ?_⟩
  · skip
    (try simp only [w32_0, wbi0, Classical.not_not] at c1); (try simp (disch := omega) only [w32_id] at c1); (try simp only [Int.add_assoc, Int.reduceAdd, Int.add_zero, Int.reduceMul] at c1)
    refine ⟨by first | exact bi_01 | omega | (rw [w32_id (by omega) (by omega)]; omega) | (simp (disch := omega) only [w32_id]; first | exact ⟨pbB (za _ (by omega) (by omega)) (zb _ (by omega) (by omega)), pbB (zb _ (by omega) (by omega)) (za _ (by omega) (by omega))⟩ | exact ⟨pbB (zb _ (by omega) (by omega)) (za _ (by omega) (by omega)), pbB (za _ (by omega) (by omega)) (zb _ (by omega) (by omega))⟩), ?_⟩
    refine ⟨by first | exact bi_01 | omega | (rw [w32_id (by omega) (by omega)]; omega) | (simp (disch := omega) only [w32_id]; first | exact ⟨pbB (za _ (by omega) (by omega)) (zb _ (by omega) (by omega)), pbB (zb _ (by omega) (by omega)) (za _ (by omega) (by omega))⟩ | exact ⟨pbB (zb _ (by omega) (by omega)) (za _ (by omega) (by omega)), pbB (za _ (by omega) (by omega)) (zb _ (by omega) (by omega))⟩), ?_⟩
    refine ⟨by first | exact bi_01 | omega | (rw [w32_id (by omega) (by omega)]; omega) | (simp (disch := omega) only [w32_id]; first | exact ⟨pbB (za _ (by omega) (by omega)) (zb _ (by omega) (by omega)), pbB (zb _ (by omega) (by omega)) (za _ (by omega) (by omega))⟩ | exact ⟨pbB (zb _ (by omega) (by omega)) (za _ (by omega) (by omega)), pbB (za _ (by omega) (by omega)) (zb _ (by omega) (by omega))⟩), ?_⟩
    refine ⟨by first | exact bi_01 | omega | (rw [w32_id (by omega) (by omega)]; omega) | (simp (disch := omega) only [w32_id]; first | exact ⟨pbB (za _ (by omega) (by omega)) (zb _ (by omega) (by omega)), pbB (zb _ (by omega) (by omega)) (za _ (by omega) (by omega))⟩ | exact ⟨pbB (zb _ (by omega) (by omega)) (za _ (by omega) (by omega)), pbB (za _ (by omega) (by omega)) (zb _ (by omega) (by omega))⟩), ?_⟩
    refine ⟨by first | exact bi_01 | omega | (rw [w32_id (by omega) (by omega)]; omega) | (simp (disch := omega) only [w32_id]; first | exact ⟨pbB (za _ (by omega) (by omega)) (zb _ (by omega) (by omega)), pbB (zb _ (by omega) (by omega)) (za _ (by omega) (by omega))⟩ | exact ⟨pbB (zb _ (by omega) (by omega)) (za _ (by omega) (by omega)), pbB (za _ (by omega) (by omega)) (zb _ (by omega) (by omega))⟩), ?_⟩
    refine ⟨fun c2 => ?_, fun c2 => ?_⟩
    · skip
      (try simp only [w32_0, wbi0, Classical.not_not] at c2); (try simp (disch := omega) only [w32_id] at c2); (try simp only [Int.add_assoc, Int.reduceAdd, Int.add_zero, Int.reduceMul] at c2)
      refine ⟨fun _ => ?_, fun q => absurd (by decide) q⟩
      refine ⟨by first | exact bi_01 | omega | (rw [w32_id (by omega) (by omega)]; omega) | (simp (disch := omega) only [w32_id]; first | exact ⟨pbB (za _ (by omega) (by omega)) (zb _ (by omega) (by omega)), pbB (zb _ (by omega) (by omega)) (za _ (by omega) (by omega))⟩ | exact ⟨pbB (zb _ (by omega) (by omega)) (za _ (by omega) (by omega)), pbB (za _ (by omega) (by omega)) (zb _ (by omega) (by omega))⟩), ?_⟩
      refine ⟨by first | exact bi_01 | omega | (rw [w32_id (by omega) (by omega)]; omega) | (simp (disch := omega) only [w32_id]; first | exact ⟨pbB (za _ (by omega) (by omega)) (zb _ (by omega) (by omega)), pbB (zb _ (by omega) (by omega)) (za _ (by omega) (by omega))⟩ | exact ⟨pbB (zb _ (by omega) (by omega)) (za _ (by omega) (by omega)), pbB (za _ (by omega) (by omega)) (zb _ (by omega) (by omega))⟩), ?_⟩
      refine ⟨by first | exact bi_01 | omega | (rw [w32_id (by omega) (by omega)]; omega) | (simp (disch := omega) only [w32_id]; first | exact ⟨pbB (za _ (by omega) (by omega)) (zb _ (by omega) (by omega)), pbB (zb _ (by omega) (by omega)) (za _ (by omega) (by omega))⟩ | exact ⟨pbB (zb _ (by omega) (by omega)) (za _ (by omega) (by omega)), pbB (za _ (by omega) (by omega)) (zb _ (by omega) (by omega))⟩), ?_⟩
      refine ⟨by first | exact bi_01 | omega | (rw [w32_id (by omega) (by omega)]; omega) | (simp (disch := omega) only [w32_id]; first | exact ⟨pbB (za _ (by omega) (by omega)) (zb _ (by omega) (by omega)), pbB (zb _ (by omega) (by omega)) (za _ (by omega) (by omega))⟩ | exact ⟨pbB (zb _ (by omega) (by omega)) (za _ (by omega) (by omega)), pbB (za _ (by omega) (by omega)) (zb _ (by omega) (by omega))⟩), ?_⟩
      refine ⟨by first | exact bi_01 | omega | (rw [w32_id (by omega) (by omega)]; omega) | (simp (disch := omega) only [w32_id]; first | exact ⟨pbB (za _ (by omega) (by omega)) (zb _ (by omega) (by omega)), pbB (zb _ (by omega) (by omega)) (za _ (by omega) (by omega))⟩ | exact ⟨pbB (zb _ (by omega) (by omega)) (za _ (by omega) (by omega)), pbB (za _ (by omega) (by omega)) (zb _ (by omega) (by omega))⟩), ?_⟩
      refine ⟨fun c3 => ?_, fun c3 => ?_⟩
      · skip
        (try simp only [w32_0, wbi0, Classical.not_not] at c3); (try simp (disch := omega) only [w32_id] at c3); (try simp only [Int.add_assoc, Int.reduceAdd, Int.add_zero, Int.reduceMul] at c3)
        refine ⟨by first | exact bi_01 | omega | (rw [w32_id (by omega) (by omega)]; omega) | (simp (disch := omega) only [w32_id]; first | exact ⟨pbB (za _ (by omega) (by omega)) (zb _ (by omega) (by omega)), pbB (zb _ (by omega) (by omega)) (za _ (by omega) (by omega))⟩ | exact ⟨pbB (zb _ (by omega) (by omega)) (za _ (by omega) (by omega)), pbB (za _ (by omega) (by omega)) (zb _ (by omega) (by omega))⟩), ?_⟩
        refine ⟨by first | exact bi_01 | omega | (rw [w32_id (by omega) (by omega)]; omega) | (simp (disch := omega) only [w32_id]; first | exact ⟨pbB (za _ (by omega) (by omega)) (zb _ (by omega) (by omega)), pbB (zb _ (by omega) (by omega)) (za _ (by omega) (by omega))⟩ | exact ⟨pbB (zb _ (by omega) (by omega)) (za _ (by omega) (by omega)), pbB (za _ (by omega) (by omega)) (zb _ (by omega) (by omega))⟩), ?_⟩
        refine ⟨by first | exact bi_01 | omega | (rw [w32_id (by omega) (by omega)]; omega) | (simp (disch := omega) only [w32_id]; first | exact ⟨pbB (za _ (by omega) (by omega)) (zb _ (by omega) (by omega)), pbB (zb _ (by omega) (by omega)) (za _ (by omega) (by omega))⟩ | exact ⟨pbB (zb _ (by omega) (by omega)) (za _ (by omega) (by omega)), pbB (za _ (by omega) (by omega)) (zb _ (by omega) (by omega))⟩), ?_⟩
        refine ⟨by first | exact bi_01 | omega | (rw [w32_id (by omega) (by omega)]; omega) | (simp (disch := omega) only [w32_id]; first | exact ⟨pbB (za _ (by omega) (by omega)) (zb _ (by omega) (by omega)), pbB (zb _ (by omega) (by omega)) (za _ (by omega) (by omega))⟩ | exact ⟨pbB (zb _ (by omega) (by omega)) (za _ (by omega) (by omega)), pbB (za _ (by omega) (by omega)) (zb _ (by omega) (by omega))⟩), ?_⟩
        refine ⟨by first | exact bi_01 | omega | (rw [w32_id (by omega) (by omega)]; omega) | (simp (disch := omega) only [w32_id]; first | exact ⟨pbB (za _ (by omega) (by omega)) (zb _ (by omega) (by omega)), pbB (zb _ (by omega) (by omega)) (za _ (by omega) (by omega))⟩ | exact ⟨pbB (zb _ (by omega) (by omega)) (za _ (by omega) (by omega)), pbB (za _ (by omega) (by omega)) (zb _ (by omega) (by omega))⟩), ?_⟩
        refine ⟨fun c4 => ?_, fun c4 => ?_⟩
        · skip
          (try simp only [w32_0, wbi0, Classical.not_not] at c4); (try simp (disch := omega) only [w32_id] at c4); (try simp only [Int.add_assoc, Int.reduceAdd, Int.add_zero, Int.reduceMul] at c4)
          refine ⟨fun q => absurd q (by decide), fun _ => ?_⟩
          refine ⟨by first | exact bi_01 | omega | (rw [w32_id (by omega) (by omega)]; omega) | (simp (disch := omega) only [w32_id]; first | exact ⟨pbB (za _ (by omega) (by omega)) (zb _ (by omega) (by omega)), pbB (zb _ (by omega) (by omega)) (za _ (by omega) (by omega))⟩ | exact ⟨pbB (zb _ (by omega) (by omega)) (za _ (by omega) (by omega)), pbB (za _ (by omega) (by omega)) (zb _ (by omega) (by omega))⟩), ?_⟩
          first
          | exact K_eq h (bi_t ⟨⟨c1, c2⟩, c3, c4⟩)
          | exact K_eq h (bi_f (fun z => z.1.1 c1))
          | exact K_eq h (bi_f (fun z => z.1.2 c2))
          | exact K_eq h (bi_f (fun z => z.2.1 c3))
          | exact K_eq h (bi_f (fun z => z.2.2 c4))
        · skip
          (try simp only [w32_0, wbi0, Classical.not_not] at c4); (try simp (disch := omega) only [w32_id] at c4); (try simp only [Int.add_assoc, Int.reduceAdd, Int.add_zero, Int.reduceMul] at c4)
          refine ⟨by first | exact bi_01 | omega | (rw [w32_id (by omega) (by omega)]; omega) | (simp (disch := omega) only [w32_id]; first | exact ⟨pbB (za _ (by omega) (by omega)) (zb _ (by omega) (by omega)), pbB (zb _ (by omega) (by omega)) (za _ (by omega) (by omega))⟩ | exact ⟨pbB (zb _ (by omega) (by omega)) (za _ (by omega) (by omega)), pbB (za _ (by omega) (by omega)) (zb _ (by omega) (by omega))⟩), ?_⟩
          first
          | exact K_eq h (bi_t ⟨⟨c1, c2⟩, c3, c4⟩)
          | exact K_eq h (bi_f (fun z => z.1.1 c1))
          | exact K_eq h (bi_f (fun z => z.1.2 c2))
          | exact K_eq h (bi_f (fun z => z.2.1 c3))
          | exact K_eq h (bi_f (fun z => z.2.2 c4))
      · skip
        (try simp only [w32_0, wbi0, Classical.not_not] at c3); (try simp (disch := omega) only [w32_id] at c3); (try simp only [Int.add_assoc, Int.reduceAdd, Int.add_zero, Int.reduceMul] at c3)
        refine ⟨by first | exact bi_01 | omega | (rw [w32_id (by omega) (by omega)]; omega) | (simp (disch := omega) only [w32_id]; first | exact ⟨pbB (za _ (by omega) (by omega)) (zb _ (by omega) (by omega)), pbB (zb _ (by omega) (by omega)) (za _ (by omega) (by omega))⟩ | exact ⟨pbB (zb _ (by omega) (by omega)) (za _ (by omega) (by omega)), pbB (za _ (by omega) (by omega)) (zb _ (by omega) (by omega))⟩), ?_⟩
        first
        | exact K_eq h (bi_t ⟨⟨c1, c2⟩, c3, c4⟩)
        | exact K_eq h (bi_f (fun z => z.1.1 c1))
        | exact K_eq h (bi_f (fun z => z.1.2 c2))
        | exact K_eq h (bi_f (fun z => z.2.1 c3))
        | exact K_eq h (bi_f (fun z => z.2.2 c4))
    · skip
      (try simp only [w32_0, wbi0, Classical.not_not] at c2); (try simp (disch := omega) only [w32_id] at c2); (try simp only [Int.add_assoc, Int.reduceAdd, Int.add_zero, Int.reduceMul] at c2)
      refine ⟨by first | exact bi_01 | omega | (rw [w32_id (by omega) (by omega)]; omega) | (simp (disch := omega) only [w32_id]; first | exact ⟨pbB (za _ (by omega) (by omega)) (zb _ (by omega) (by omega)), pbB (zb _ (by omega) (by omega)) (za _ (by omega) (by omega))⟩ | exact ⟨pbB (zb _ (by omega) (by omega)) (za _ (by omega) (by omega)), pbB (za _ (by omega) (by omega)) (zb _ (by omega) (by omega))⟩), ?_⟩
      first
      | exact K_eq h (bi_t ⟨⟨c1, c2⟩, c3, c4⟩)
      | exact K_eq h (bi_f (fun z => z.1.1 c1))
      | exact K_eq h (bi_f (fun z => z.1.2 c2))
      | exact K_eq h (bi_f (fun z => z.2.1 c3))
      | exact K_eq h (bi_f (fun z => z.2.2 c4))
  · skip
    (try simp only [w32_0, wbi0, Classical.not_not] at c1); (try simp (disch := omega) only [w32_id] at c1); (try simp only [Int.add_assoc, Int.reduceAdd, Int.add_zero, Int.reduceMul] at c1)
    refine ⟨by first | exact bi_01 | omega | (rw [w32_id (by omega) (by omega)]; omega) | (simp (disch := omega) only [w32_id]; first | exact ⟨pbB (za _ (by omega) (by omega)) (zb _ (by omega) (by omega)), pbB (zb _ (by omega) (by omega)) (za _ (by omega) (by omega))⟩ | exact ⟨pbB (zb _ (by omega) (by omega)) (za _ (by omega) (by omega)), pbB (za _ (by omega) (by omega)) (zb _ (by omega) (by omega))⟩), ?_⟩
    first
    | exact K_eq h (bi_t ⟨⟨c1, c2⟩, c3, c4⟩)
    | exact K_eq h (bi_f (fun z => z.1.1 c1))
    | exact K_eq h (bi_f (fun z => z.1.2 c2))
    | exact K_eq h (bi_f (fun z => z.2.1 c3))
    | exact K_eq h (bi_f (fun z => z.2.2 c4))
theorem qtX9_meet (l : Launch) : am_CT l layM qeX9_meet := am_met0 rfl (by decide +kernel) rfl rfl rfl rfl rfl (fun _ => rfl) rfl (qzX9_meet l) (fun k e1 h => (qyX9_meet l k e1 h).2) (fun as F A K h => by
  replace h : qsX9_meet as F A K := h
  unfold qsX9_meet at h
  split at h
  · rename_i o a b
    refine ⟨by first | exact Nat.le_of_ble_eq_true rfl | simp [am_fl, am_cat], ?_⟩
    replace h := am_cond2 h
    rcases h with ⟨hb, h⟩ | h
    · skip
      have hb0 := hb
      have hb0 := am_bq hb0
      subst hb0
      exact am_way_line (qvX9_meet_25 a b F A K h)
    exact h.elim
  · exact h.elim)
def qkX9_bits : Nat → Option CI := fun pc => cond (Nat.ble 26 pc) none (cond (Nat.ble 12 pc) (cond (Nat.ble 17 pc) (cond (Nat.ble 21 pc) (cond (Nat.beq pc 21) (some (.goto (-17), 24, [4])) (cond (Nat.beq pc 24) (some (.iload_n 1, 25, [])) (cond (Nat.beq pc 25) (some (.ireturn, 26, [])) (none)))) (cond (Nat.beq pc 17) (some (.istore_n 1, 18, [])) (cond (Nat.beq pc 18) (some (.iinc 2 1, 21, [])) (none)))) (cond (Nat.ble 14 pc) (cond (Nat.beq pc 14) (some (.iconst 1, 15, [])) (cond (Nat.beq pc 15) (some (.iand, 16, [])) (cond (Nat.beq pc 16) (some (.iadd, 17, [])) (none)))) (cond (Nat.beq pc 12) (some (.iload_n 2, 13, [])) (cond (Nat.beq pc 13) (some (.ishr, 14, [])) (none))))) (cond (Nat.ble 4 pc) (cond (Nat.ble 7 pc) (cond (Nat.beq pc 7) (some (.if_icmp .ge 17, 10, [24])) (cond (Nat.beq pc 10) (some (.iload_n 1, 11, [])) (cond (Nat.beq pc 11) (some (.iload_n 0, 12, [])) (none)))) (cond (Nat.beq pc 4) (some (.iload_n 2, 5, [])) (cond (Nat.beq pc 5) (some (.bipush 8, 7, [])) (none)))) (cond (Nat.ble 2 pc) (cond (Nat.beq pc 2) (some (.iconst 0, 3, [])) (cond (Nat.beq pc 3) (some (.istore_n 2, 4, [])) (none))) (cond (Nat.beq pc 0) (some (.iconst 0, 1, [])) (cond (Nat.beq pc 1) (some (.istore_n 1, 2, [])) (none))))))
theorem qkX9_bits_ok : ∀ pc i nx ts, qkX9_bits pc = some (i, nx, ts) → am_cok cX9_bits pc (i, nx, ts) = true := fun pc i nx ts h => am_tok_ok (n := 26) (by decide +kernel) (fun pc h => by show cond (Nat.ble 26 pc) _ _ = _; rw [Nat.ble_eq_true_of_le h]; rfl) h
def qaX9_bits : Nat → Option CE := fun k => none
theorem qyX9_bits (l : Launch) : ∀ k e1, qaX9_bits k = some e1 → am_cal l layM RX9 3 k e1 ∧ ceT e1 = 0 := q_nil
def qxX9_bits : CX := (qkX9_bits, layM, qfX9, qaX9_bits, qcX9, qlX9, qmX9, (some .int), false, none, 0, none, fun _ => none)
theorem qzX9_bits (l : Launch) : am_sta l qxX9_bits RX9 3 cX9_bits := ⟨qkX9_bits_ok, layM_ok, qfX9_ok, qcX9_ok, qlX9_ok, am_mthP qmX9_ok (by decide), fun k e1 h => (qyX9_bits l k e1 h).1⟩
def qsX9_bits : SP := fun as F A K => match as with
  | [.inl v] => ((-2147483648 ≤ v ∧ v < 2147483648)) ∧ (K (some (some (vI (bitM v)))) F A)
  | _ => False
def qeX9_bits : CE := (yX9_bits, cX9_bits, 3, (some .int), 1, none, 0, [], 0, 3, qsX9_bits)
theorem qbX9_bits : am_mb qeX9_bits := ⟨am_tb_at 2022 (by decide +kernel) rfl, am_tb_at 124 (by decide +kernel) rfl, ⟨by decide, by decide, by decide +kernel⟩, by decide, am_tb_at 2021 (by decide +kernel) rfl⟩
def qnX9_bits : CUT := fun pc => cond (Nat.beq pc 4) (some [true, true, true]) (none)
def qiX9_bits (v : Int) (F0 : FF) (A0 : AA) : REC := fun pc ls st F A u => cond (Nat.beq pc 4) (match ls, st, u with
    | [some (.inl s0), some (.inl n), some (.inl k)], [], 0 => s0 = v ∧ F = F0 ∧ A = A0 ∧ ((0 ≤ k ∧ k ≤ 8) ∧ (0 ≤ n ∧ n ≤ k) ∧ n = sumI (fun kk => x_shr v kk % 2) (Int.toNat k))
    | _, _, _ => False) (False)
def quX9_bits : Nat → LVs → List AV → FF → AA → Nat := fun pc ls _ F A => cond (Nat.beq pc 4) (match ls with
    | [some (.inl s0), some (.inl n), some (.inl k)] => Int.toNat (20 - k)
    | _ => 0) (0)
set_option maxRecDepth 20000 in
theorem qvX9_bits_0 (v : Int) (F0 : FF) (A0 : AA) (K : KK) (h : ((-2147483648 ≤ v ∧ v < 2147483648)) ∧ (K (some (some (vI (bitM v)))) F0 A0)) : am_stp qxX9_bits (am_run qxX9_bits qnX9_bits (qiX9_bits v F0 A0) K 16) K 0 (am_ent [vI v] 3) [] F0 A0 0 := by
  show am_stp qxX9_bits (am_run qxX9_bits qnX9_bits (qiX9_bits v F0 A0) K 16) K 0 [some (vI v), none, none] [] F0 A0 0
  obtain ⟨hp, h⟩ := h
  show v = v ∧ F0 = F0 ∧ A0 = A0 ∧ ((0 ≤ 0 ∧ 0 ≤ 8) ∧ (0 ≤ 0 ∧ 0 ≤ 0) ∧ 0 = sumI (fun kk => x_shr v kk % 2) (Int.toNat 0))
  refine ⟨rfl, rfl, rfl, ?_⟩
  exact ⟨by omega, by omega, rfl⟩
set_option maxRecDepth 20000 in
theorem qvX9_bits_4 (v : Int) (F0 : FF) (A0 : AA) (K : KK) (h : ((-2147483648 ≤ v ∧ v < 2147483648)) ∧ (K (some (some (vI (bitM v)))) F0 A0)) (n : Int) (k : Int) (hi : (0 ≤ k ∧ k ≤ 8) ∧ (0 ≤ n ∧ n ≤ k) ∧ n = sumI (fun kk => x_shr v kk % 2) (Int.toNat k)) : am_stp qxX9_bits (am_run qxX9_bits qnX9_bits (fun pc ls st F9 A9 u => qiX9_bits v F0 A0 pc ls st F9 A9 u ∧ quX9_bits pc ls st F9 A9 < quX9_bits 4 [some (vI v), some (vI n), some (vI k)] [] F0 A0) K 16) K 4 [some (vI v), some (vI n), some (vI k)] [] F0 A0 0 := by
  obtain ⟨hp, h⟩ := h
  obtain ⟨h1, h2, h3⟩ := hi
  show (w32 k < w32 8 → ((v = v ∧ F0 = F0 ∧ A0 = A0 ∧ ((0 ≤ (k + 1) ∧ (k + 1) ≤ 8) ∧ (0 ≤ (n + (x_and (x_shr v k) 1)) ∧ (n + (x_and (x_shr v k) 1)) ≤ (k + 1)) ∧ (n + (x_and (x_shr v k) 1)) = sumI (fun kk => x_shr v kk % 2) (Int.toNat (k + 1)))) ∧ (Int.toNat (20 - (k + 1))) < (Int.toNat (20 - k)))) ∧ (¬ w32 k < w32 8 → (K (some (some (vI n))) F0 A0))
  refine ⟨fun c1 => ?_, fun c1 => ?_⟩
  · skip
    (try simp (disch := omega) only [w32_id] at c1)
    refine ⟨⟨rfl, rfl, rfl, ?_⟩, by omega⟩
    have ea := x_and_1 (x_shr v k)
    have hs := sumI_s (g := fun kk => x_shr v kk % 2) h1.1
    rw [ea]
    refine ⟨by omega, by omega, ?_⟩
    rw [hs, ← h3]
  · skip
    (try simp (disch := omega) only [w32_id] at c1)
    exact K_eq h (by rw [h3, show k = 8 by omega]; rfl)
set_option maxRecDepth 20000 in
theorem qvX9_bits (v : Int) (F0 : FF) (A0 : AA) (K : KK) (h : ((-2147483648 ≤ v ∧ v < 2147483648)) ∧ (K (some (some (vI (bitM v)))) F0 A0)) : am_body qxX9_bits qnX9_bits 16 (qiX9_bits v F0 A0) quX9_bits [vI v] 3 F0 A0 K := by
  refine ⟨qvX9_bits_0 v F0 A0 K h, fun pc ls st F A u hI => ?_⟩
  unfold qiX9_bits at hI
  replace hI := am_cond2 hI
  rcases hI with ⟨hb, hI⟩ | hI
  · have hb := am_bq hb
    subst hb
    split at hI
    · rename_i s0 n k
      obtain ⟨e0, e1, e2, hI⟩ := hI
      subst e0
      subst e1
      subst e2
      exact qvX9_bits_4 _ _ _ K h _ _ hI
    · exact hI.elim
  exact hI.elim
theorem qtX9_bits (l : Launch) : am_CT l layM qeX9_bits := am_met0 rfl (by decide +kernel) rfl rfl rfl rfl rfl (fun _ => rfl) rfl (qzX9_bits l) (fun k e1 h => (qyX9_bits l k e1 h).2) (fun as F A K h => by
  replace h : qsX9_bits as F A K := h
  unfold qsX9_bits at h
  split at h
  · rename_i v
    refine ⟨by first | exact Nat.le_of_ble_eq_true rfl | simp [am_fl, am_cat], ?_⟩
    exact am_way_body (qvX9_bits v F A K h)
  · exact h.elim)
