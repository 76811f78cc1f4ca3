def qkX8_meetingNumber : Nat → Option CI := fun pc => cond (Nat.ble 59 pc) none (cond (Nat.ble 28 pc) (cond (Nat.ble 43 pc) (cond (Nat.ble 50 pc) (cond (Nat.ble 56 pc) (cond (Nat.beq pc 56) (some (.bipush (-2), 58, [])) (cond (Nat.beq pc 58) (some (.ireturn, 59, [])) (none))) (cond (Nat.beq pc 50) (some (.invokevirtual 286, 53, [])) (cond (Nat.beq pc 53) (some (.goto 5, 56, [58])) (none)))) (cond (Nat.ble 47 pc) (cond (Nat.beq pc 47) (some (.iload_n 3, 48, [])) (cond (Nat.beq pc 48) (some (.iload 4, 50, [])) (none))) (cond (Nat.beq pc 43) (some (.aload_n 0, 44, [])) (cond (Nat.beq pc 44) (some (.getfield 50, 47, [])) (none))))) (cond (Nat.ble 35 pc) (cond (Nat.ble 37 pc) (cond (Nat.beq pc 37) (some (.invokestatic 133, 40, [])) (cond (Nat.beq pc 40) (some (.ifCond .eq 16, 43, [56])) (none))) (cond (Nat.beq pc 35) (some (.iconst 0, 36, [])) (cond (Nat.beq pc 36) (some (.iconst 4, 37, [])) (none)))) (cond (Nat.ble 32 pc) (cond (Nat.beq pc 32) (some (.ireturn, 33, [])) (cond (Nat.beq pc 33) (some (.iload 4, 35, [])) (none))) (cond (Nat.beq pc 28) (some (.if_icmp .lt 5, 31, [33])) (cond (Nat.beq pc 31) (some (.iconst (-1), 32, [])) (none)))))) (cond (Nat.ble 12 pc) (cond (Nat.ble 21 pc) (cond (Nat.ble 25 pc) (cond (Nat.beq pc 25) (some (.iload_n 3, 26, [])) (cond (Nat.beq pc 26) (some (.iload 5, 28, [])) (none))) (cond (Nat.beq pc 21) (some (.iload_n 3, 22, [])) (cond (Nat.beq pc 22) (some (.ifCond .lt 9, 25, [31])) (none)))) (cond (Nat.ble 16 pc) (cond (Nat.beq pc 16) (some (.invokevirtual 280, 19, [])) (cond (Nat.beq pc 19) (some (.istore 5, 21, [])) (none))) (cond (Nat.beq pc 12) (some (.aload_n 0, 13, [])) (cond (Nat.beq pc 13) (some (.getfield 50, 16, [])) (none))))) (cond (Nat.ble 6 pc) (cond (Nat.ble 8 pc) (cond (Nat.beq pc 8) (some (.iload_n 2, 9, [])) (cond (Nat.beq pc 9) (some (.invokevirtual 273, 12, [])) (none))) (cond (Nat.beq pc 6) (some (.aload_n 0, 7, [])) (cond (Nat.beq pc 7) (some (.iload_n 1, 8, [])) (none)))) (cond (Nat.ble 2 pc) (cond (Nat.beq pc 2) (some (.iload_n 2, 3, [])) (cond (Nat.beq pc 3) (some (.invokevirtual 263, 6, [])) (none))) (cond (Nat.beq pc 0) (some (.aload_n 0, 1, [])) (cond (Nat.beq pc 1) (some (.iload_n 1, 2, [])) (none)))))))
theorem qkX8_meetingNumber_ok : ∀ pc i nx ts, qkX8_meetingNumber pc = some (i, nx, ts) → am_cok cX8_meetingNumber pc (i, nx, ts) = true := fun pc i nx ts h => am_tok_ok (n := 59) (by decide +kernel) (fun pc h => by show cond (Nat.ble 59 pc) _ _ = _; rw [Nat.ble_eq_true_of_le h]; rfl) h
def qaX8_meetingNumber : Nat → Option CE := fun k => cond (Nat.beq k 263) (some qeX8_requireCurves) (cond (Nat.beq k 273) (some qeX8_markPairs) (cond (Nat.beq k 280) (some qeX6_group) (cond (Nat.beq k 133) (some qeX8_isWithin) (cond (Nat.beq k 286) (some qeX6_meetingValue) (none)))))
theorem qyX8_meetingNumber (l : Launch) (hst : l.stackTraces = false) : ∀ k e1, qaX8_meetingNumber k = some e1 → am_cal l layX RX8 17 k e1 ∧ True := q_cons ⟨am_calV (ci := 8) (qtX8_requireCurves l hst) qbX8_requireCurves (by decide) rfl (am_tb_at 1222 (by decide +kernel) rfl), trivial⟩ (q_cons ⟨am_calV (ci := 8) (qtX8_markPairs l) qbX8_markPairs (by decide) rfl (am_tb_at 1250 (by decide +kernel) rfl), trivial⟩ (q_cons ⟨am_calV (ci := 6) (qtX6_group l) qbX6_group (by decide) rfl (am_tb_at 1296 (by decide +kernel) rfl), trivial⟩ (q_cons ⟨am_calS (qtX8_isWithin l) qbX8_isWithin (by decide) rfl (by decide) (am_tb_at 750 (by decide +kernel) rfl), trivial⟩ (q_cons ⟨am_calV (ci := 6) (qtX6_meetingValue l) qbX6_meetingValue (by decide) rfl (am_tb_at 1326 (by decide +kernel) rfl), trivial⟩ (q_nil)))))
def qxX8_meetingNumber : CX := (qkX8_meetingNumber, layX, qfX8, qaX8_meetingNumber, qcX8, qlX8, qmX8, (some .int), true, none, 2, none, fun _ => none)
theorem qzX8_meetingNumber (l : Launch) (hst : l.stackTraces = false) : am_sta l qxX8_meetingNumber RX8 17 cX8_meetingNumber := ⟨qkX8_meetingNumber_ok, layX_ok, qfX8_ok, qcX8_ok, qlX8_ok, am_mthP qmX8_ok (by decide), fun k e1 h => (qyX8_meetingNumber l hst k e1 h).1⟩
def qsX8_meetingNumber : SP := fun as F A K => match as with
  | [.inr (.inr o), .inl c, .inl e, .inl m, .inl w] => cond (Nat.beq o 0) ((fgOK (A 2) ∧ (-2147483648 ≤ c ∧ c < 2147483648) ∧ (-2147483648 ≤ e ∧ e < 2147483648) ∧ (-2147483648 ≤ m ∧ m < 2147483648) ∧ (-2147483648 ≤ w ∧ w < 2147483648) ∧ caAll A ∧ (∀ jj, -2 ≤ A 20 jj ∧ A 20 jj < 5000)) ∧ (((0 ≤ c ∧ c < A 2 0) ∧ 0 ≤ e ∧ e < A 2 0 → (∀ (H_1 : FF) (C_1 : AA) (G_1 : FF) (B_1 : AA), (gqP F G_1 H_1 A B_1 C_1 c e) → (K (some (some (vI (if 0 ≤ m ∧ m < gqN H_1 C_1 (A 2 3) then (if 0 ≤ w ∧ w ≤ 4 then mvR (B_1 20) m (p2 (A 2 3)) w else -2) else -1)))) G_1 B_1))) ∧ (¬ ((0 ≤ c ∧ c < A 2 0) ∧ 0 ≤ e ∧ e < A 2 0) → (K none F A)))) (False)
  | _ => False
def qeX8_meetingNumber : CE := (yX8_meetingNumber, cX8_meetingNumber, 6, (some .int), 4, some 8, 1, [], 2, 17, qsX8_meetingNumber)
theorem qbX8_meetingNumber : am_mb qeX8_meetingNumber := ⟨am_tb_at 1325 (by decide +kernel) rfl, am_tb_at 114 (by decide +kernel) rfl, ⟨by decide, by decide, by decide +kernel⟩, by decide, by decide, am_tb_at 1323 (by decide +kernel) rfl, am_tb_at 1324 (by decide +kernel) rfl, _, _, rfl⟩
set_option maxRecDepth 20000 in
theorem qvX8_meetingNumber_0 (c : Int) (e : Int) (m : Int) (w : Int) (F : FF) (A : AA) (K : KK) (h : (fgOK (A 2) ∧ (-2147483648 ≤ c ∧ c < 2147483648) ∧ (-2147483648 ≤ e ∧ e < 2147483648) ∧ (-2147483648 ≤ m ∧ m < 2147483648) ∧ (-2147483648 ≤ w ∧ w < 2147483648) ∧ caAll A ∧ (∀ jj, -2 ≤ A 20 jj ∧ A 20 jj < 5000)) ∧ (((0 ≤ c ∧ c < A 2 0) ∧ 0 ≤ e ∧ e < A 2 0 → (∀ (H_1 : FF) (C_1 : AA) (G_1 : FF) (B_1 : AA), (gqP F G_1 H_1 A B_1 C_1 c e) → (K (some (some (vI (if 0 ≤ m ∧ m < gqN H_1 C_1 (A 2 3) then (if 0 ≤ w ∧ w ≤ 4 then mvR (B_1 20) m (p2 (A 2 3)) w else -2) else -1)))) G_1 B_1))) ∧ (¬ ((0 ≤ c ∧ c < A 2 0) ∧ 0 ≤ e ∧ e < A 2 0) → (K none F A)))) : am_line qxX8_meetingNumber 30 [vR 0, vI c, vI e, vI m, vI w] 6 F A K := by
  show am_stp qxX8_meetingNumber (am_run qxX8_meetingNumber (fun _ => none) (fun _ _ _ _ _ _ => False) K 30) K 0 [some (vR 0), some (vI c), some (vI e), some (vI m), some (vI w), none] [] F A 0
  obtain ⟨hp, h⟩ := h
  have p1 := hp.1
  have q1 := p1.1.1
  have q2 := p1.1.2
  have q5 := p1.2.1.2
  show ((0 ≤ A 2 0 ∧ A 2 0 ≤ 8) ∧ (0 ≤ A 2 1 ∧ A 2 1 ≤ 6) ∧ (-2147483648 ≤ c ∧ c < 2147483648) ∧ (-2147483648 ≤ e ∧ e < 2147483648)) ∧ (((0 ≤ c ∧ c < A 2 0) ∧ 0 ≤ e ∧ e < A 2 0 → ((fgOK (A 2) ∧ (0 ≤ c ∧ c < A 2 0) ∧ (0 ≤ e ∧ e < A 2 0) ∧ caAll A) ∧ (∀ (G_1 : FF) (B_1 : AA), (mkP F G_1 A B_1 c e (A 2 3)) → (((0 ≤ (G_1 19 3) ∧ (G_1 19 3) ≤ 6) ∧ (G_1 19 4) = p2 ((G_1 19 3)) ∧ (∀ j, -2 ≤ B_1 20 j ∧ B_1 20 j < 5000)) ∧ (∀ (G_2 : FF) (B_2 : AA), (gsP G_2 B_2 (grpF ((G_1 19 4)) (B_1 20, B_1 21, (G_1 19 2)) (Int.toNat ((G_1 19 4) * (G_1 19 4)))).1 ∧ gsF G_1 G_2 B_1 B_2 ∧ (∀ j, -2 ≤ B_2 20 j ∧ B_2 20 j < 5000)) → ((w32 m < w32 0 → (K (some (some (vI (-1)))) G_2 B_2)) ∧ (¬ w32 m < w32 0 → ((w32 m < w32 ((grpF ((G_1 19 4)) (B_1 20, B_1 21, (G_1 19 2)) (Int.toNat ((G_1 19 4) * (G_1 19 4)))).2) → ((w32 (bi (w32 0 ≤ w32 w ∧ w32 w ≤ w32 4)) = w32 0 → (K (some (some (vI (-2)))) G_2 B_2)) ∧ (¬ (w32 (bi (w32 0 ≤ w32 w ∧ w32 w ≤ w32 4)) = w32 0) → (((0 ≤ (G_2 19 3) ∧ (G_2 19 3) ≤ 6) ∧ (G_2 19 4) = p2 ((G_2 19 3)) ∧ (∀ j, -2 ≤ B_2 20 j ∧ B_2 20 j < 5000) ∧ (0 ≤ m ∧ m < 5000) ∧ 0 ≤ w ∧ w ≤ 4) ∧ (K (some (some (vI (mvR (B_2 20) m ((G_2 19 4)) w)))) G_2 B_2))))) ∧ (¬ w32 m < w32 ((grpF ((G_1 19 4)) (B_1 20, B_1 21, (G_1 19 2)) (Int.toNat ((G_1 19 4) * (G_1 19 4)))).2) → (K (some (some (vI (-1)))) G_2 B_2)))))))))) ∧ (¬ ((0 ≤ c ∧ c < A 2 0) ∧ 0 ≤ e ∧ e < A 2 0) → (K none F A)))
  refine ⟨by exact ⟨p1.1.1, p1.1.2, hp.2.1, hp.2.2.1⟩, ?_⟩
  refine ⟨fun c1 => ?_, fun c1 => ?_⟩
  · skip
    (try simp (disch := omega) only [w32_0, wbi0, Classical.not_not, w32_id] at c1); (try (rw [g1.2.1.2] at c1; have q6 := gqN_b (H := G_1) (C := B_1) (D := A 2 3) q5.2; rw [show (grpF (p2 (A 2 3)) (B_1 20, B_1 21, G_1 19 2) (Int.toNat (p2 (A 2 3) * p2 (A 2 3)))).2 = gqN G_1 B_1 (A 2 3) from rfl, w32_id (by omega) (by omega)] at c1))
    refine ⟨by exact ⟨p1, c1.1, c1.2, hp.2.2.2.2.2.1⟩, ?_⟩
    intro G_1 B_1 g1
    refine ⟨by (have w := g1.2.2.2.2 hp.2.2.2.2.2.2; rw [g1.2.1.2, g1.2.1.1]; exact ⟨⟨by omega, q5.2⟩, rfl, w⟩), ?_⟩
    intro G_2 B_2 g2
    refine ⟨fun c2 => ?_, fun c2 => ?_⟩
    · skip
      (try simp (disch := omega) only [w32_0, wbi0, Classical.not_not, w32_id] at c2); (try (rw [g1.2.1.2] at c2; have q6 := gqN_b (H := G_1) (C := B_1) (D := A 2 3) q5.2; rw [show (grpF (p2 (A 2 3)) (B_1 20, B_1 21, G_1 19 2) (Int.toNat (p2 (A 2 3) * p2 (A 2 3)))).2 = gqN G_1 B_1 (A 2 3) from rfl, w32_id (by omega) (by omega)] at c2))
      have g3 := (g2.2.1.2 19 3 (Or.inr (by decide))).trans g1.2.1.1
      have g4 := (g2.2.1.2 19 4 (Or.inr (by decide))).trans g1.2.1.2
      have q6 := gqN_b (H := G_1) (C := B_1) (D := A 2 3) q5.2
      rw [g1.2.1.2] at g2
      have gq := (⟨qrP_gs g1.1 g2.2.1 g2.2.2, g1, g2.1.1⟩ : gqP F _ _ A _ _ c e)
      first | exact K_eq (h.1 c1 _ _ _ _ gq) (if_neg (by omega)) | exact K_eq (h.1 c1 _ _ _ _ gq) (by rw [if_pos (by omega), if_neg (by omega)]) | exact K_eq (h.1 c1 _ _ _ _ gq) (by rw [if_pos (by omega), if_pos (by omega), g4])
    · skip
      (try simp (disch := omega) only [w32_0, wbi0, Classical.not_not, w32_id] at c2); (try (rw [g1.2.1.2] at c2; have q6 := gqN_b (H := G_1) (C := B_1) (D := A 2 3) q5.2; rw [show (grpF (p2 (A 2 3)) (B_1 20, B_1 21, G_1 19 2) (Int.toNat (p2 (A 2 3) * p2 (A 2 3)))).2 = gqN G_1 B_1 (A 2 3) from rfl, w32_id (by omega) (by omega)] at c2))
      refine ⟨fun c3 => ?_, fun c3 => ?_⟩
      · skip
        (try simp (disch := omega) only [w32_0, wbi0, Classical.not_not, w32_id] at c3); (try (rw [g1.2.1.2] at c3; have q6 := gqN_b (H := G_1) (C := B_1) (D := A 2 3) q5.2; rw [show (grpF (p2 (A 2 3)) (B_1 20, B_1 21, G_1 19 2) (Int.toNat (p2 (A 2 3) * p2 (A 2 3)))).2 = gqN G_1 B_1 (A 2 3) from rfl, w32_id (by omega) (by omega)] at c3))
        refine ⟨fun c4 => ?_, fun c4 => ?_⟩
        · skip
          (try simp (disch := omega) only [w32_0, wbi0, Classical.not_not, w32_id] at c4); (try (rw [g1.2.1.2] at c4; have q6 := gqN_b (H := G_1) (C := B_1) (D := A 2 3) q5.2; rw [show (grpF (p2 (A 2 3)) (B_1 20, B_1 21, G_1 19 2) (Int.toNat (p2 (A 2 3) * p2 (A 2 3)))).2 = gqN G_1 B_1 (A 2 3) from rfl, w32_id (by omega) (by omega)] at c4))
          have g3 := (g2.2.1.2 19 3 (Or.inr (by decide))).trans g1.2.1.1
          have g4 := (g2.2.1.2 19 4 (Or.inr (by decide))).trans g1.2.1.2
          have q6 := gqN_b (H := G_1) (C := B_1) (D := A 2 3) q5.2
          rw [g1.2.1.2] at g2
          have gq := (⟨qrP_gs g1.1 g2.2.1 g2.2.2, g1, g2.1.1⟩ : gqP F _ _ A _ _ c e)
          first | exact K_eq (h.1 c1 _ _ _ _ gq) (if_neg (by omega)) | exact K_eq (h.1 c1 _ _ _ _ gq) (by rw [if_pos (by omega), if_neg (by omega)]) | exact K_eq (h.1 c1 _ _ _ _ gq) (by rw [if_pos (by omega), if_pos (by omega), g4])
        · skip
          (try simp (disch := omega) only [w32_0, wbi0, Classical.not_not, w32_id] at c4); (try (rw [g1.2.1.2] at c4; have q6 := gqN_b (H := G_1) (C := B_1) (D := A 2 3) q5.2; rw [show (grpF (p2 (A 2 3)) (B_1 20, B_1 21, G_1 19 2) (Int.toNat (p2 (A 2 3) * p2 (A 2 3)))).2 = gqN G_1 B_1 (A 2 3) from rfl, w32_id (by omega) (by omega)] at c4))
          refine ⟨by first | omega | (have g3 := (g2.2.1.2 19 3 (Or.inr (by decide))).trans g1.2.1.1; have g4 := (g2.2.1.2 19 4 (Or.inr (by decide))).trans g1.2.1.2; have q6 := gqN_b (H := G_1) (C := B_1) (D := A 2 3) q5.2; rw [g3, g4]; exact ⟨⟨by omega, q5.2⟩, rfl, g2.2.2, by omega, by omega⟩), ?_⟩
          have g3 := (g2.2.1.2 19 3 (Or.inr (by decide))).trans g1.2.1.1
          have g4 := (g2.2.1.2 19 4 (Or.inr (by decide))).trans g1.2.1.2
          have q6 := gqN_b (H := G_1) (C := B_1) (D := A 2 3) q5.2
          rw [g1.2.1.2] at g2
          have gq := (⟨qrP_gs g1.1 g2.2.1 g2.2.2, g1, g2.1.1⟩ : gqP F _ _ A _ _ c e)
          first | exact K_eq (h.1 c1 _ _ _ _ gq) (if_neg (by omega)) | exact K_eq (h.1 c1 _ _ _ _ gq) (by rw [if_pos (by omega), if_neg (by omega)]) | exact K_eq (h.1 c1 _ _ _ _ gq) (by rw [if_pos (by omega), if_pos (by omega), g4])
      · skip
        (try simp (disch := omega) only [w32_0, wbi0, Classical.not_not, w32_id] at c3); (try (rw [g1.2.1.2] at c3; have q6 := gqN_b (H := G_1) (C := B_1) (D := A 2 3) q5.2; rw [show (grpF (p2 (A 2 3)) (B_1 20, B_1 21, G_1 19 2) (Int.toNat (p2 (A 2 3) * p2 (A 2 3)))).2 = gqN G_1 B_1 (A 2 3) from rfl, w32_id (by omega) (by omega)] at c3))
        have g3 := (g2.2.1.2 19 3 (Or.inr (by decide))).trans g1.2.1.1
        have g4 := (g2.2.1.2 19 4 (Or.inr (by decide))).trans g1.2.1.2
        have q6 := gqN_b (H := G_1) (C := B_1) (D := A 2 3) q5.2
        rw [g1.2.1.2] at g2
        have gq := (⟨qrP_gs g1.1 g2.2.1 g2.2.2, g1, g2.1.1⟩ : gqP F _ _ A _ _ c e)
        first | exact K_eq (h.1 c1 _ _ _ _ gq) (if_neg (by omega)) | exact K_eq (h.1 c1 _ _ _ _ gq) (by rw [if_pos (by omega), if_neg (by omega)]) | exact K_eq (h.1 c1 _ _ _ _ gq) (by rw [if_pos (by omega), if_pos (by omega), g4])
  · skip
    (try simp (disch := omega) only [w32_0, wbi0, Classical.not_not, w32_id] at c1); (try (rw [g1.2.1.2] at c1; have q6 := gqN_b (H := G_1) (C := B_1) (D := A 2 3) q5.2; rw [show (grpF (p2 (A 2 3)) (B_1 20, B_1 21, G_1 19 2) (Int.toNat (p2 (A 2 3) * p2 (A 2 3)))).2 = gqN G_1 B_1 (A 2 3) from rfl, w32_id (by omega) (by omega)] at c1))
    exact h.2 c1
theorem qtX8_meetingNumber (l : Launch) (hst : l.stackTraces = false) : am_CT l layX qeX8_meetingNumber := am_met1 hst rfl (by decide +kernel) rfl rfl rfl rfl rfl (fun _ _ h => by cases h) rfl (qzX8_meetingNumber l hst) (fun as F A K h => by
  replace h : qsX8_meetingNumber as F A K := h
  unfold qsX8_meetingNumber at h
  split at h
  · rename_i o c e m w
    refine ⟨by first | exact Nat.le_of_ble_eq_true rfl | simp [am_fl, am_cat], ?_⟩
    replace h := am_cond2 h
    rcases h with ⟨hb, h⟩ | h
    · skip
      have hb0 := hb
      have hb0 := am_bq hb0
      subst hb0
      exact am_way_line (qvX8_meetingNumber_0 c e m w F A K h)
    exact h.elim
  · exact h.elim)
