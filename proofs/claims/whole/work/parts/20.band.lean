def qkX0_low : Nat → Option CI := fun pc => cond (Nat.ble 5 pc) none (cond (Nat.beq pc 0) (some (.aload_n 0, 1, [])) (cond (Nat.beq pc 1) (some (.getfield 34, 4, [])) (cond (Nat.beq pc 4) (some (.ireturn, 5, [])) (none))))
theorem qkX0_low_ok : ∀ pc i nx ts, qkX0_low pc = some (i, nx, ts) → am_cok cX0_low pc (i, nx, ts) = true := fun pc i nx ts h => am_tok_ok (n := 5) (by decide +kernel) (fun pc h => by show cond (Nat.ble 5 pc) _ _ = _; rw [Nat.ble_eq_true_of_le h]; rfl) h
def qaX0_low : Nat → Option CE := fun k => none
theorem qyX0_low (l : Launch) : ∀ k e1, qaX0_low k = some e1 → am_cal l layX RX0 3 k e1 ∧ ceT e1 = 0 := q_nil
def qxX0_low : CX := (qkX0_low, layX, qfX0, qaX0_low, qcX0, qlX0, qmX0, (some .int), false, none, 0, none, fun _ => none)
theorem qzX0_low (l : Launch) : am_sta l qxX0_low RX0 3 cX0_low := ⟨qkX0_low_ok, layX_ok, qfX0_ok, qcX0_ok, qlX0_ok, am_mthP qmX0_ok (by decide), fun k e1 h => (qyX0_low l k e1 h).1⟩
def qsX0_low : SP := fun as F A K => match as with
  | [.inr (.inr o)] => cond (Nat.beq o 24) (K (some (some (vI (F 24 4)))) F A) (False)
  | _ => False
def qeX0_low : CE := (yX0_low, cX0_low, 1, (some .int), 0, some 0, 0, [], 0, 3, qsX0_low)
theorem qbX0_low : am_mb qeX0_low := ⟨am_tb_at 1203 (by decide +kernel) rfl, am_tb_at 122 (by decide +kernel) rfl, ⟨by decide, by decide, by decide +kernel⟩, by decide, by decide, am_tb_at 1201 (by decide +kernel) rfl, am_tb_at 1202 (by decide +kernel) rfl, _, _, rfl⟩
set_option maxRecDepth 20000 in
theorem qvX0_low_24  (F : FF) (A : AA) (K : KK) (h : K (some (some (vI (F 24 4)))) F A) : am_line qxX0_low 4 [vR 24] 1 F A K := by
  show am_stp qxX0_low (am_run qxX0_low (fun _ => none) (fun _ _ _ _ _ _ => False) K 4) K 0 [some (vR 24)] [] F A 0
  show K (some (some (vI (F 24 4)))) F A
  first | exact h | exact K_eq h (by first | omega | (simp (disch := omega) only [w32_0, w64_0, wbi0, wbi1, yc_eq0, yc_lt0, yc_gt0, Classical.not_not, w32_id, w64_id]; omega) | (simp (disch := omega) only [w32_0, w64_0, wbi0, wbi1, yc_eq0, yc_lt0, yc_gt0, Classical.not_not, w32_id, w64_id]; done))
theorem qtX0_low (l : Launch) : am_CT l layX qeX0_low := am_met0 rfl (by decide +kernel) rfl rfl rfl rfl rfl (fun _ => rfl) rfl (qzX0_low l) (fun k e1 h => (qyX0_low l k e1 h).2) (fun as F A K h => by
  replace h : qsX0_low as F A K := h
  unfold qsX0_low at h
  split at h
  · rename_i o
    refine ⟨by first | exact Nat.le_of_ble_eq_true rfl | simp [am_fl, am_cat], ?_⟩
    replace h := am_cond2 h
    rcases h with ⟨hb, h⟩ | h
    · skip
      have hb0 := hb
      have hb0 := am_bq hb0
      subst hb0
      exact am_way_line (qvX0_low_24  F A K h)
    exact h.elim
  · exact h.elim)
def qkX0_high : Nat → Option CI := fun pc => cond (Nat.ble 5 pc) none (cond (Nat.beq pc 0) (some (.aload_n 0, 1, [])) (cond (Nat.beq pc 1) (some (.getfield 37, 4, [])) (cond (Nat.beq pc 4) (some (.ireturn, 5, [])) (none))))
theorem qkX0_high_ok : ∀ pc i nx ts, qkX0_high pc = some (i, nx, ts) → am_cok cX0_high pc (i, nx, ts) = true := fun pc i nx ts h => am_tok_ok (n := 5) (by decide +kernel) (fun pc h => by show cond (Nat.ble 5 pc) _ _ = _; rw [Nat.ble_eq_true_of_le h]; rfl) h
def qaX0_high : Nat → Option CE := fun k => none
theorem qyX0_high (l : Launch) : ∀ k e1, qaX0_high k = some e1 → am_cal l layX RX0 3 k e1 ∧ ceT e1 = 0 := q_nil
def qxX0_high : CX := (qkX0_high, layX, qfX0, qaX0_high, qcX0, qlX0, qmX0, (some .int), false, none, 0, none, fun _ => none)
theorem qzX0_high (l : Launch) : am_sta l qxX0_high RX0 3 cX0_high := ⟨qkX0_high_ok, layX_ok, qfX0_ok, qcX0_ok, qlX0_ok, am_mthP qmX0_ok (by decide), fun k e1 h => (qyX0_high l k e1 h).1⟩
def qsX0_high : SP := fun as F A K => match as with
  | [.inr (.inr o)] => cond (Nat.beq o 24) (K (some (some (vI (F 24 5)))) F A) (False)
  | _ => False
def qeX0_high : CE := (yX0_high, cX0_high, 1, (some .int), 0, some 0, 0, [], 0, 3, qsX0_high)
theorem qbX0_high : am_mb qeX0_high := ⟨am_tb_at 1214 (by decide +kernel) rfl, am_tb_at 122 (by decide +kernel) rfl, ⟨by decide, by decide, by decide +kernel⟩, by decide, by decide, am_tb_at 1212 (by decide +kernel) rfl, am_tb_at 1213 (by decide +kernel) rfl, _, _, rfl⟩
set_option maxRecDepth 20000 in
theorem qvX0_high_24  (F : FF) (A : AA) (K : KK) (h : K (some (some (vI (F 24 5)))) F A) : am_line qxX0_high 4 [vR 24] 1 F A K := by
  show am_stp qxX0_high (am_run qxX0_high (fun _ => none) (fun _ _ _ _ _ _ => False) K 4) K 0 [some (vR 24)] [] F A 0
  show K (some (some (vI (F 24 5)))) F A
  first | exact h | exact K_eq h (by first | omega | (simp (disch := omega) only [w32_0, w64_0, wbi0, wbi1, yc_eq0, yc_lt0, yc_gt0, Classical.not_not, w32_id, w64_id]; omega) | (simp (disch := omega) only [w32_0, w64_0, wbi0, wbi1, yc_eq0, yc_lt0, yc_gt0, Classical.not_not, w32_id, w64_id]; done))
theorem qtX0_high (l : Launch) : am_CT l layX qeX0_high := am_met0 rfl (by decide +kernel) rfl rfl rfl rfl rfl (fun _ => rfl) rfl (qzX0_high l) (fun k e1 h => (qyX0_high l k e1 h).2) (fun as F A K h => by
  replace h : qsX0_high as F A K := h
  unfold qsX0_high at h
  split at h
  · rename_i o
    refine ⟨by first | exact Nat.le_of_ble_eq_true rfl | simp [am_fl, am_cat], ?_⟩
    replace h := am_cond2 h
    rcases h with ⟨hb, h⟩ | h
    · skip
      have hb0 := hb
      have hb0 := am_bq hb0
      subst hb0
      exact am_way_line (qvX0_high_24  F A K h)
    exact h.elim
  · exact h.elim)
def qkX0_span : Nat → Option CI := fun pc => cond (Nat.ble 151 pc) none (cond (Nat.ble 70 pc) (cond (Nat.ble 106 pc) (cond (Nat.ble 125 pc) (cond (Nat.ble 136 pc) (cond (Nat.ble 144 pc) (cond (Nat.beq pc 144) (some (.iinc 4 1, 147, [])) (cond (Nat.beq pc 147) (some (.goto (-74), 150, [73])) (cond (Nat.beq pc 150) (some (.return_, 151, [])) (none)))) (cond (Nat.beq pc 136) (some (.iload 5, 138, [])) (cond (Nat.beq pc 138) (some (.invokestatic 46, 141, [])) (cond (Nat.beq pc 141) (some (.putfield 37, 144, [])) (none))))) (cond (Nat.ble 131 pc) (cond (Nat.beq pc 131) (some (.aload_n 0, 132, [])) (cond (Nat.beq pc 132) (some (.aload_n 0, 133, [])) (cond (Nat.beq pc 133) (some (.getfield 37, 136, [])) (none)))) (cond (Nat.beq pc 125) (some (.invokestatic 40, 128, [])) (cond (Nat.beq pc 128) (some (.putfield 34, 131, [])) (none))))) (cond (Nat.ble 115 pc) (cond (Nat.ble 119 pc) (cond (Nat.beq pc 119) (some (.aload_n 0, 120, [])) (cond (Nat.beq pc 120) (some (.getfield 34, 123, [])) (cond (Nat.beq pc 123) (some (.iload 5, 125, [])) (none)))) (cond (Nat.beq pc 115) (some (.isub, 116, [])) (cond (Nat.beq pc 116) (some (.istore 5, 118, [])) (cond (Nat.beq pc 118) (some (.aload_n 0, 119, [])) (none))))) (cond (Nat.ble 110 pc) (cond (Nat.beq pc 110) (some (.getfield 19, 113, [])) (cond (Nat.beq pc 113) (some (.isub, 114, [])) (cond (Nat.beq pc 114) (some (.imul, 115, [])) (none)))) (cond (Nat.beq pc 106) (some (.invokevirtual 15, 109, [])) (cond (Nat.beq pc 109) (some (.aload_n 0, 110, [])) (none)))))) (cond (Nat.ble 88 pc) (cond (Nat.ble 97 pc) (cond (Nat.ble 102 pc) (cond (Nat.beq pc 102) (some (.iload_n 2, 103, [])) (cond (Nat.beq pc 103) (some (.iload 4, 105, [])) (cond (Nat.beq pc 105) (some (.iconst 0, 106, [])) (none)))) (cond (Nat.beq pc 97) (some (.aload_n 0, 98, [])) (cond (Nat.beq pc 98) (some (.getfield 31, 101, [])) (cond (Nat.beq pc 101) (some (.aload_n 1, 102, [])) (none))))) (cond (Nat.ble 92 pc) (cond (Nat.beq pc 92) (some (.getfield 25, 95, [])) (cond (Nat.beq pc 95) (some (.isub, 96, [])) (cond (Nat.beq pc 96) (some (.imul, 97, [])) (none)))) (cond (Nat.beq pc 88) (some (.invokevirtual 15, 91, [])) (cond (Nat.beq pc 91) (some (.aload_n 0, 92, [])) (none))))) (cond (Nat.ble 79 pc) (cond (Nat.ble 84 pc) (cond (Nat.beq pc 84) (some (.iload_n 2, 85, [])) (cond (Nat.beq pc 85) (some (.iload 4, 87, [])) (cond (Nat.beq pc 87) (some (.iconst 1, 88, [])) (none)))) (cond (Nat.beq pc 79) (some (.aload_n 0, 80, [])) (cond (Nat.beq pc 80) (some (.getfield 28, 83, [])) (cond (Nat.beq pc 83) (some (.aload_n 1, 84, [])) (none))))) (cond (Nat.ble 73 pc) (cond (Nat.beq pc 73) (some (.iload 4, 75, [])) (cond (Nat.beq pc 75) (some (.iload_n 3, 76, [])) (cond (Nat.beq pc 76) (some (.if_icmp .gt 74, 79, [150])) (none)))) (cond (Nat.beq pc 70) (some (.iconst 1, 71, [])) (cond (Nat.beq pc 71) (some (.istore 4, 73, [])) (none))))))) (cond (Nat.ble 32 pc) (cond (Nat.ble 49 pc) (cond (Nat.ble 60 pc) (cond (Nat.ble 65 pc) (cond (Nat.beq pc 65) (some (.aload_n 0, 66, [])) (cond (Nat.beq pc 66) (some (.iconst 0, 67, [])) (cond (Nat.beq pc 67) (some (.putfield 37, 70, [])) (none)))) (cond (Nat.beq pc 60) (some (.aload_n 0, 61, [])) (cond (Nat.beq pc 61) (some (.iconst 0, 62, [])) (cond (Nat.beq pc 62) (some (.putfield 34, 65, [])) (none))))) (cond (Nat.ble 53 pc) (cond (Nat.beq pc 53) (some (.getfield 25, 56, [])) (cond (Nat.beq pc 56) (some (.isub, 57, [])) (cond (Nat.beq pc 57) (some (.putfield 31, 60, [])) (none)))) (cond (Nat.beq pc 49) (some (.invokevirtual 15, 52, [])) (cond (Nat.beq pc 52) (some (.aload_n 0, 53, [])) (none))))) (cond (Nat.ble 41 pc) (cond (Nat.ble 46 pc) (cond (Nat.beq pc 46) (some (.iload_n 2, 47, [])) (cond (Nat.beq pc 47) (some (.iload_n 3, 48, [])) (cond (Nat.beq pc 48) (some (.iconst 1, 49, [])) (none)))) (cond (Nat.beq pc 41) (some (.putfield 28, 44, [])) (cond (Nat.beq pc 44) (some (.aload_n 0, 45, [])) (cond (Nat.beq pc 45) (some (.aload_n 1, 46, [])) (none))))) (cond (Nat.ble 36 pc) (cond (Nat.beq pc 36) (some (.aload_n 0, 37, [])) (cond (Nat.beq pc 37) (some (.getfield 19, 40, [])) (cond (Nat.beq pc 40) (some (.isub, 41, [])) (none)))) (cond (Nat.beq pc 32) (some (.iconst 0, 33, [])) (cond (Nat.beq pc 33) (some (.invokevirtual 15, 36, [])) (none)))))) (cond (Nat.ble 17 pc) (cond (Nat.ble 22 pc) (cond (Nat.ble 29 pc) (cond (Nat.beq pc 29) (some (.aload_n 1, 30, [])) (cond (Nat.beq pc 30) (some (.iload_n 2, 31, [])) (cond (Nat.beq pc 31) (some (.iload_n 3, 32, [])) (none)))) (cond (Nat.beq pc 22) (some (.invokevirtual 15, 25, [])) (cond (Nat.beq pc 25) (some (.putfield 25, 28, [])) (cond (Nat.beq pc 28) (some (.aload_n 0, 29, [])) (none))))) (cond (Nat.ble 19 pc) (cond (Nat.beq pc 19) (some (.iload_n 2, 20, [])) (cond (Nat.beq pc 20) (some (.iconst 0, 21, [])) (cond (Nat.beq pc 21) (some (.iconst 1, 22, [])) (none)))) (cond (Nat.beq pc 17) (some (.aload_n 0, 18, [])) (cond (Nat.beq pc 18) (some (.aload_n 1, 19, [])) (none))))) (cond (Nat.ble 7 pc) (cond (Nat.ble 10 pc) (cond (Nat.beq pc 10) (some (.iconst 0, 11, [])) (cond (Nat.beq pc 11) (some (.invokevirtual 15, 14, [])) (cond (Nat.beq pc 14) (some (.putfield 19, 17, [])) (none)))) (cond (Nat.beq pc 7) (some (.aload_n 1, 8, [])) (cond (Nat.beq pc 8) (some (.iload_n 2, 9, [])) (cond (Nat.beq pc 9) (some (.iconst 0, 10, [])) (none))))) (cond (Nat.ble 2 pc) (cond (Nat.beq pc 2) (some (.invokevirtual 9, 5, [])) (cond (Nat.beq pc 5) (some (.istore_n 3, 6, [])) (cond (Nat.beq pc 6) (some (.aload_n 0, 7, [])) (none)))) (cond (Nat.beq pc 0) (some (.aload_n 1, 1, [])) (cond (Nat.beq pc 1) (some (.iload_n 2, 2, [])) (none))))))))
theorem qkX0_span_ok : ∀ pc i nx ts, qkX0_span pc = some (i, nx, ts) → am_cok cX0_span pc (i, nx, ts) = true := fun pc i nx ts h => am_tok_ok (n := 151) (by decide +kernel) (fun pc h => by show cond (Nat.ble 151 pc) _ _ = _; rw [Nat.ble_eq_true_of_le h]; rfl) h
def qaX0_span : Nat → Option CE := fun k => cond (Nat.beq k 9) (some qeX2_top) (cond (Nat.beq k 15) (some qeX2_point) (none))
theorem qyX0_span (l : Launch) : ∀ k e1, qaX0_span k = some e1 → am_cal l layX RX0 6 k e1 ∧ ceT e1 = 0 := q_cons ⟨am_calV (ci := 2) (qtX2_top l) qbX2_top (by decide) rfl (am_tb_at 1192 (by decide +kernel) rfl), rfl⟩ (q_cons ⟨am_calV (ci := 2) (qtX2_point l) qbX2_point (by decide) rfl (am_tb_at 1193 (by decide +kernel) rfl), rfl⟩ (q_nil))
def qxX0_span : CX := (qkX0_span, layX, qfX0, qaX0_span, qcX0, qlX0, qmX0, none, false, none, 0, none, fun _ => none)
theorem qzX0_span (l : Launch) : am_sta l qxX0_span RX0 6 cX0_span := ⟨qkX0_span_ok, layX_ok, qfX0_ok, qcX0_ok, qlX0_ok, am_mthP qmX0_ok (by decide), fun k e1 h => (qyX0_span l k e1 h).1⟩
def qsX0_span : SP := fun as F A K => match as with
  | [.inr (.inr o), .inr (.inr g), .inl c] => cond (Nat.beq o 24 && Nat.beq g 1) ((0 ≤ c ∧ c < 8 ∧ 2 ≤ A 2 (18 + c) ∧ A 2 (18 + c) ≤ 4) ∧ (∀ (G_1 : FF), ((∀ a b, a ≠ 24 → G_1 a b = F a b) ∧ bnP G_1 (A 2) c) → (K (some none) G_1 A))) (False)
  | _ => False
def qeX0_span : CE := (yX0_span, cX0_span, 6, none, 2, some 0, 0, [], 0, 6, qsX0_span)
theorem qbX0_span : am_mb qeX0_span := ⟨am_tb_at 1191 (by decide +kernel) rfl, am_tb_at 122 (by decide +kernel) rfl, ⟨by decide, by decide, by decide +kernel⟩, by decide, by decide, am_tb_at 1189 (by decide +kernel) rfl, am_tb_at 1190 (by decide +kernel) rfl, _, _, rfl⟩
def qnX0_span_24_1 : CUT := fun pc => cond (Nat.beq pc 73) (some [true, true, true, true, true, false]) (none)
def qiX0_span_24_1 (c : Int) (F0 : FF) (A0 : AA) : REC := fun pc ls st F A u => cond (Nat.beq pc 73) (match ls, st, u with
    | [some (.inr (.inr s0)), some (.inr (.inr s1)), some (.inl s2), some (.inl t), some (.inl k), none], [], 0 => s0 = 24 ∧ s1 = 1 ∧ s2 = c ∧ A = A0 ∧ (t = (A0 2 (18 + c) - 1) ∧ 1 ≤ k ∧ k ≤ t + 1 ∧ (∀ a b, a ≠ 24 → F a b = F0 a b) ∧ F 24 0 = A0 2 (26 + (c * 4 + 0) * 3 + 0) ∧ F 24 1 = A0 2 (26 + (c * 4 + 0) * 3 + 1) ∧ F 24 2 = A0 2 (26 + (c * 4 + (A0 2 (18 + c) - 1)) * 3 + 0) - A0 2 (26 + (c * 4 + 0) * 3 + 0) ∧ F 24 3 = A0 2 (26 + (c * 4 + (A0 2 (18 + c) - 1)) * 3 + 1) - A0 2 (26 + (c * 4 + 0) * 3 + 1) ∧ F 24 4 = bLow (A0 2) c (Int.toNat (k - 1)) ∧ F 24 5 = bHigh (A0 2) c (Int.toNat (k - 1)))
    | _, _, _ => False) (False)
def quX0_span_24_1 : Nat → LVs → List AV → FF → AA → Nat := fun pc ls _ F A => cond (Nat.beq pc 73) (match ls with
    | [some (.inr (.inr s0)), some (.inr (.inr s1)), some (.inl s2), some (.inl t), some (.inl k), none] => Int.toNat (9 - k)
    | _ => 0) (0)
set_option maxRecDepth 20000 in
theorem qvX0_span_24_1_0 (c : Int) (F0 : FF) (A0 : AA) (K : KK) (h : (0 ≤ c ∧ c < 8 ∧ 2 ≤ A0 2 (18 + c) ∧ A0 2 (18 + c) ≤ 4) ∧ (∀ (G_1 : FF), ((∀ a b, a ≠ 24 → G_1 a b = F0 a b) ∧ bnP G_1 (A0 2) c) → (K (some none) G_1 A0))) : am_stp qxX0_span (am_run qxX0_span qnX0_span_24_1 (qiX0_span_24_1 c F0 A0) K 49) K 0 (am_ent [vR 24, vR 1, vI c] 6) [] F0 A0 0 := by
  show am_stp qxX0_span (am_run qxX0_span qnX0_span_24_1 (qiX0_span_24_1 c F0 A0) K 49) K 0 [some (vR 24), some (vR 1), some (vI c), none, none, none] [] F0 A0 0
  obtain ⟨hp, h⟩ := h
  show 24 = 24 ∧ 1 = 1 ∧ c = c ∧ A0 = A0 ∧ ((fat (A0 2) (18 + c) - 1) = (A0 2 (18 + c) - 1) ∧ 1 ≤ 1 ∧ 1 ≤ (fat (A0 2) (18 + c) - 1) + 1 ∧ (∀ a b, a ≠ 24 → (upF (upF (upF (upF (upF (upF F0 24 0 (fat (A0 2) (26 + (c * 4 + 0) * 3 + 0))) 24 1 (fat (A0 2) (26 + (c * 4 + 0) * 3 + 1))) 24 2 ((fat (A0 2) (26 + (c * 4 + (fat (A0 2) (18 + c) - 1)) * 3 + 0)) - (fat (A0 2) (26 + (c * 4 + 0) * 3 + 0)))) 24 3 ((fat (A0 2) (26 + (c * 4 + (fat (A0 2) (18 + c) - 1)) * 3 + 1)) - (fat (A0 2) (26 + (c * 4 + 0) * 3 + 1)))) 24 4 0) 24 5 0) a b = F0 a b) ∧ (upF (upF (upF (upF (upF (upF F0 24 0 (fat (A0 2) (26 + (c * 4 + 0) * 3 + 0))) 24 1 (fat (A0 2) (26 + (c * 4 + 0) * 3 + 1))) 24 2 ((fat (A0 2) (26 + (c * 4 + (fat (A0 2) (18 + c) - 1)) * 3 + 0)) - (fat (A0 2) (26 + (c * 4 + 0) * 3 + 0)))) 24 3 ((fat (A0 2) (26 + (c * 4 + (fat (A0 2) (18 + c) - 1)) * 3 + 1)) - (fat (A0 2) (26 + (c * 4 + 0) * 3 + 1)))) 24 4 0) 24 5 0) 24 0 = A0 2 (26 + (c * 4 + 0) * 3 + 0) ∧ (upF (upF (upF (upF (upF (upF F0 24 0 (fat (A0 2) (26 + (c * 4 + 0) * 3 + 0))) 24 1 (fat (A0 2) (26 + (c * 4 + 0) * 3 + 1))) 24 2 ((fat (A0 2) (26 + (c * 4 + (fat (A0 2) (18 + c) - 1)) * 3 + 0)) - (fat (A0 2) (26 + (c * 4 + 0) * 3 + 0)))) 24 3 ((fat (A0 2) (26 + (c * 4 + (fat (A0 2) (18 + c) - 1)) * 3 + 1)) - (fat (A0 2) (26 + (c * 4 + 0) * 3 + 1)))) 24 4 0) 24 5 0) 24 1 = A0 2 (26 + (c * 4 + 0) * 3 + 1) ∧ (upF (upF (upF (upF (upF (upF F0 24 0 (fat (A0 2) (26 + (c * 4 + 0) * 3 + 0))) 24 1 (fat (A0 2) (26 + (c * 4 + 0) * 3 + 1))) 24 2 ((fat (A0 2) (26 + (c * 4 + (fat (A0 2) (18 + c) - 1)) * 3 + 0)) - (fat (A0 2) (26 + (c * 4 + 0) * 3 + 0)))) 24 3 ((fat (A0 2) (26 + (c * 4 + (fat (A0 2) (18 + c) - 1)) * 3 + 1)) - (fat (A0 2) (26 + (c * 4 + 0) * 3 + 1)))) 24 4 0) 24 5 0) 24 2 = A0 2 (26 + (c * 4 + (A0 2 (18 + c) - 1)) * 3 + 0) - A0 2 (26 + (c * 4 + 0) * 3 + 0) ∧ (upF (upF (upF (upF (upF (upF F0 24 0 (fat (A0 2) (26 + (c * 4 + 0) * 3 + 0))) 24 1 (fat (A0 2) (26 + (c * 4 + 0) * 3 + 1))) 24 2 ((fat (A0 2) (26 + (c * 4 + (fat (A0 2) (18 + c) - 1)) * 3 + 0)) - (fat (A0 2) (26 + (c * 4 + 0) * 3 + 0)))) 24 3 ((fat (A0 2) (26 + (c * 4 + (fat (A0 2) (18 + c) - 1)) * 3 + 1)) - (fat (A0 2) (26 + (c * 4 + 0) * 3 + 1)))) 24 4 0) 24 5 0) 24 3 = A0 2 (26 + (c * 4 + (A0 2 (18 + c) - 1)) * 3 + 1) - A0 2 (26 + (c * 4 + 0) * 3 + 1) ∧ (upF (upF (upF (upF (upF (upF F0 24 0 (fat (A0 2) (26 + (c * 4 + 0) * 3 + 0))) 24 1 (fat (A0 2) (26 + (c * 4 + 0) * 3 + 1))) 24 2 ((fat (A0 2) (26 + (c * 4 + (fat (A0 2) (18 + c) - 1)) * 3 + 0)) - (fat (A0 2) (26 + (c * 4 + 0) * 3 + 0)))) 24 3 ((fat (A0 2) (26 + (c * 4 + (fat (A0 2) (18 + c) - 1)) * 3 + 1)) - (fat (A0 2) (26 + (c * 4 + 0) * 3 + 1)))) 24 4 0) 24 5 0) 24 4 = bLow (A0 2) c (Int.toNat (1 - 1)) ∧ (upF (upF (upF (upF (upF (upF F0 24 0 (fat (A0 2) (26 + (c * 4 + 0) * 3 + 0))) 24 1 (fat (A0 2) (26 + (c * 4 + 0) * 3 + 1))) 24 2 ((fat (A0 2) (26 + (c * 4 + (fat (A0 2) (18 + c) - 1)) * 3 + 0)) - (fat (A0 2) (26 + (c * 4 + 0) * 3 + 0)))) 24 3 ((fat (A0 2) (26 + (c * 4 + (fat (A0 2) (18 + c) - 1)) * 3 + 1)) - (fat (A0 2) (26 + (c * 4 + 0) * 3 + 1)))) 24 4 0) 24 5 0) 24 5 = bHigh (A0 2) c (Int.toNat (1 - 1)))
  refine ⟨rfl, rfl, rfl, rfl, ?_⟩
  simp (disch := omega) only [fat_in]
  refine ⟨trivial, by omega, by omega, fun a b hab => ?_, ?_, ?_, ?_, ?_, ?_, ?_⟩
  · rw [upF_o (Or.inl hab), upF_o (Or.inl hab), upF_o (Or.inl hab), upF_o (Or.inl hab), upF_o (Or.inl hab), upF_o (Or.inl hab)]
  all_goals (simp only [upF_s, upF_o (show (24 : Nat) ≠ 24 ∨ (0 : Nat) ≠ 1 by decide), upF_o (show (24 : Nat) ≠ 24 ∨ (0 : Nat) ≠ 2 by decide), upF_o (show (24 : Nat) ≠ 24 ∨ (0 : Nat) ≠ 3 by decide), upF_o (show (24 : Nat) ≠ 24 ∨ (0 : Nat) ≠ 4 by decide), upF_o (show (24 : Nat) ≠ 24 ∨ (0 : Nat) ≠ 5 by decide), upF_o (show (24 : Nat) ≠ 24 ∨ (1 : Nat) ≠ 0 by decide), upF_o (show (24 : Nat) ≠ 24 ∨ (1 : Nat) ≠ 2 by decide), upF_o (show (24 : Nat) ≠ 24 ∨ (1 : Nat) ≠ 3 by decide), upF_o (show (24 : Nat) ≠ 24 ∨ (1 : Nat) ≠ 4 by decide), upF_o (show (24 : Nat) ≠ 24 ∨ (1 : Nat) ≠ 5 by decide), upF_o (show (24 : Nat) ≠ 24 ∨ (2 : Nat) ≠ 0 by decide), upF_o (show (24 : Nat) ≠ 24 ∨ (2 : Nat) ≠ 1 by decide), upF_o (show (24 : Nat) ≠ 24 ∨ (2 : Nat) ≠ 3 by decide), upF_o (show (24 : Nat) ≠ 24 ∨ (2 : Nat) ≠ 4 by decide), upF_o (show (24 : Nat) ≠ 24 ∨ (2 : Nat) ≠ 5 by decide), upF_o (show (24 : Nat) ≠ 24 ∨ (3 : Nat) ≠ 0 by decide), upF_o (show (24 : Nat) ≠ 24 ∨ (3 : Nat) ≠ 1 by decide), upF_o (show (24 : Nat) ≠ 24 ∨ (3 : Nat) ≠ 2 by decide), upF_o (show (24 : Nat) ≠ 24 ∨ (3 : Nat) ≠ 4 by decide), upF_o (show (24 : Nat) ≠ 24 ∨ (3 : Nat) ≠ 5 by decide), upF_o (show (24 : Nat) ≠ 24 ∨ (4 : Nat) ≠ 0 by decide), upF_o (show (24 : Nat) ≠ 24 ∨ (4 : Nat) ≠ 1 by decide), upF_o (show (24 : Nat) ≠ 24 ∨ (4 : Nat) ≠ 2 by decide), upF_o (show (24 : Nat) ≠ 24 ∨ (4 : Nat) ≠ 3 by decide), upF_o (show (24 : Nat) ≠ 24 ∨ (4 : Nat) ≠ 5 by decide), upF_o (show (24 : Nat) ≠ 24 ∨ (5 : Nat) ≠ 0 by decide), upF_o (show (24 : Nat) ≠ 24 ∨ (5 : Nat) ≠ 1 by decide), upF_o (show (24 : Nat) ≠ 24 ∨ (5 : Nat) ≠ 2 by decide), upF_o (show (24 : Nat) ≠ 24 ∨ (5 : Nat) ≠ 3 by decide), upF_o (show (24 : Nat) ≠ 24 ∨ (5 : Nat) ≠ 4 by decide)]; try rfl)
set_option maxRecDepth 20000 in
theorem qvX0_span_24_1_73 (c : Int) (F0 : FF) (A0 : AA) (K : KK) (h : (0 ≤ c ∧ c < 8 ∧ 2 ≤ A0 2 (18 + c) ∧ A0 2 (18 + c) ≤ 4) ∧ (∀ (G_1 : FF), ((∀ a b, a ≠ 24 → G_1 a b = F0 a b) ∧ bnP G_1 (A0 2) c) → (K (some none) G_1 A0))) (t : Int) (k : Int) (F : FF) (hi : t = (A0 2 (18 + c) - 1) ∧ 1 ≤ k ∧ k ≤ t + 1 ∧ (∀ a b, a ≠ 24 → F a b = F0 a b) ∧ F 24 0 = A0 2 (26 + (c * 4 + 0) * 3 + 0) ∧ F 24 1 = A0 2 (26 + (c * 4 + 0) * 3 + 1) ∧ F 24 2 = A0 2 (26 + (c * 4 + (A0 2 (18 + c) - 1)) * 3 + 0) - A0 2 (26 + (c * 4 + 0) * 3 + 0) ∧ F 24 3 = A0 2 (26 + (c * 4 + (A0 2 (18 + c) - 1)) * 3 + 1) - A0 2 (26 + (c * 4 + 0) * 3 + 1) ∧ F 24 4 = bLow (A0 2) c (Int.toNat (k - 1)) ∧ F 24 5 = bHigh (A0 2) c (Int.toNat (k - 1))) : am_stp qxX0_span (am_run qxX0_span qnX0_span_24_1 (fun pc ls st F A u => qiX0_span_24_1 c F0 A0 pc ls st F A u ∧ quX0_span_24_1 pc ls st F A < quX0_span_24_1 73 [some (vR 24), some (vR 1), some (vI c), some (vI t), some (vI k), none] [] F A0) K 49) K 73 [some (vR 24), some (vR 1), some (vI c), some (vI t), some (vI k), none] [] F A0 0 := by
  obtain ⟨hp, h⟩ := h
  obtain ⟨h1, h2, h3, h4, f0, f1, f2, f3, f4, f5⟩ := hi
  show (w32 t < w32 k → (K (some none) F A0)) ∧ (¬ w32 t < w32 k → ((24 = 24 ∧ 1 = 1 ∧ c = c ∧ A0 = A0 ∧ (t = (A0 2 (18 + c) - 1) ∧ 1 ≤ (k + 1) ∧ (k + 1) ≤ t + 1 ∧ (∀ a b, a ≠ 24 → (upF (upF F 24 4 (x_min (F 24 4) (((F 24 2) * ((fat (A0 2) (26 + (c * 4 + k) * 3 + 1)) - (F 24 1))) - ((F 24 3) * ((fat (A0 2) (26 + (c * 4 + k) * 3 + 0)) - (F 24 0)))))) 24 5 (x_max (F 24 5) (((F 24 2) * ((fat (A0 2) (26 + (c * 4 + k) * 3 + 1)) - (F 24 1))) - ((F 24 3) * ((fat (A0 2) (26 + (c * 4 + k) * 3 + 0)) - (F 24 0)))))) a b = F0 a b) ∧ (upF (upF F 24 4 (x_min (F 24 4) (((F 24 2) * ((fat (A0 2) (26 + (c * 4 + k) * 3 + 1)) - (F 24 1))) - ((F 24 3) * ((fat (A0 2) (26 + (c * 4 + k) * 3 + 0)) - (F 24 0)))))) 24 5 (x_max (F 24 5) (((F 24 2) * ((fat (A0 2) (26 + (c * 4 + k) * 3 + 1)) - (F 24 1))) - ((F 24 3) * ((fat (A0 2) (26 + (c * 4 + k) * 3 + 0)) - (F 24 0)))))) 24 0 = A0 2 (26 + (c * 4 + 0) * 3 + 0) ∧ (upF (upF F 24 4 (x_min (F 24 4) (((F 24 2) * ((fat (A0 2) (26 + (c * 4 + k) * 3 + 1)) - (F 24 1))) - ((F 24 3) * ((fat (A0 2) (26 + (c * 4 + k) * 3 + 0)) - (F 24 0)))))) 24 5 (x_max (F 24 5) (((F 24 2) * ((fat (A0 2) (26 + (c * 4 + k) * 3 + 1)) - (F 24 1))) - ((F 24 3) * ((fat (A0 2) (26 + (c * 4 + k) * 3 + 0)) - (F 24 0)))))) 24 1 = A0 2 (26 + (c * 4 + 0) * 3 + 1) ∧ (upF (upF F 24 4 (x_min (F 24 4) (((F 24 2) * ((fat (A0 2) (26 + (c * 4 + k) * 3 + 1)) - (F 24 1))) - ((F 24 3) * ((fat (A0 2) (26 + (c * 4 + k) * 3 + 0)) - (F 24 0)))))) 24 5 (x_max (F 24 5) (((F 24 2) * ((fat (A0 2) (26 + (c * 4 + k) * 3 + 1)) - (F 24 1))) - ((F 24 3) * ((fat (A0 2) (26 + (c * 4 + k) * 3 + 0)) - (F 24 0)))))) 24 2 = A0 2 (26 + (c * 4 + (A0 2 (18 + c) - 1)) * 3 + 0) - A0 2 (26 + (c * 4 + 0) * 3 + 0) ∧ (upF (upF F 24 4 (x_min (F 24 4) (((F 24 2) * ((fat (A0 2) (26 + (c * 4 + k) * 3 + 1)) - (F 24 1))) - ((F 24 3) * ((fat (A0 2) (26 + (c * 4 + k) * 3 + 0)) - (F 24 0)))))) 24 5 (x_max (F 24 5) (((F 24 2) * ((fat (A0 2) (26 + (c * 4 + k) * 3 + 1)) - (F 24 1))) - ((F 24 3) * ((fat (A0 2) (26 + (c * 4 + k) * 3 + 0)) - (F 24 0)))))) 24 3 = A0 2 (26 + (c * 4 + (A0 2 (18 + c) - 1)) * 3 + 1) - A0 2 (26 + (c * 4 + 0) * 3 + 1) ∧ (upF (upF F 24 4 (x_min (F 24 4) (((F 24 2) * ((fat (A0 2) (26 + (c * 4 + k) * 3 + 1)) - (F 24 1))) - ((F 24 3) * ((fat (A0 2) (26 + (c * 4 + k) * 3 + 0)) - (F 24 0)))))) 24 5 (x_max (F 24 5) (((F 24 2) * ((fat (A0 2) (26 + (c * 4 + k) * 3 + 1)) - (F 24 1))) - ((F 24 3) * ((fat (A0 2) (26 + (c * 4 + k) * 3 + 0)) - (F 24 0)))))) 24 4 = bLow (A0 2) c (Int.toNat ((k + 1) - 1)) ∧ (upF (upF F 24 4 (x_min (F 24 4) (((F 24 2) * ((fat (A0 2) (26 + (c * 4 + k) * 3 + 1)) - (F 24 1))) - ((F 24 3) * ((fat (A0 2) (26 + (c * 4 + k) * 3 + 0)) - (F 24 0)))))) 24 5 (x_max (F 24 5) (((F 24 2) * ((fat (A0 2) (26 + (c * 4 + k) * 3 + 1)) - (F 24 1))) - ((F 24 3) * ((fat (A0 2) (26 + (c * 4 + k) * 3 + 0)) - (F 24 0)))))) 24 5 = bHigh (A0 2) c (Int.toNat ((k + 1) - 1)))) ∧ (Int.toNat (9 - (k + 1))) < (Int.toNat (9 - k))))
  refine ⟨fun c1 => ?_, fun c1 => ?_⟩
  · skip
    try simp (disch := omega) only [w32_0, w64_0, wbi0, wbi1, yc_eq0, yc_lt0, yc_gt0, Classical.not_not, w32_id, w64_id] at c1
    refine h _ ⟨h4, f0, f1, f2, f3, ?_, ?_⟩
    · rw [f4, show k - 1 = A0 2 (18 + c) - 1 by omega]
    · rw [f5, show k - 1 = A0 2 (18 + c) - 1 by omega]
  · skip
    try simp (disch := omega) only [w32_0, w64_0, wbi0, wbi1, yc_eq0, yc_lt0, yc_gt0, Classical.not_not, w32_id, w64_id] at c1
    refine ⟨⟨rfl, rfl, rfl, rfl, ?_⟩, by omega⟩
    simp (disch := omega) only [fat_in]
    refine ⟨h1, by omega, by omega, fun a b hab => ?_, ?_, ?_, ?_, ?_, ?_, ?_⟩
    · rw [upF_o (Or.inl hab), upF_o (Or.inl hab)]; exact h4 a b hab
    · rw [upF_o (by decide), upF_o (by decide)]; exact f0
    · rw [upF_o (by decide), upF_o (by decide)]; exact f1
    · rw [upF_o (by decide), upF_o (by decide)]; exact f2
    · rw [upF_o (by decide), upF_o (by decide)]; exact f3
    · rw [upF_o (by decide), upF_s, show k + 1 - 1 = k by omega, bLow_s h2, f4, f0, f1, f2, f3]; rfl
    · rw [upF_s, show k + 1 - 1 = k by omega, bHigh_s h2, f5, f0, f1, f2, f3]; rfl
set_option maxRecDepth 20000 in
theorem qvX0_span_24_1 (c : Int) (F0 : FF) (A0 : AA) (K : KK) (h : (0 ≤ c ∧ c < 8 ∧ 2 ≤ A0 2 (18 + c) ∧ A0 2 (18 + c) ≤ 4) ∧ (∀ (G_1 : FF), ((∀ a b, a ≠ 24 → G_1 a b = F0 a b) ∧ bnP G_1 (A0 2) c) → (K (some none) G_1 A0))) : am_body qxX0_span qnX0_span_24_1 49 (qiX0_span_24_1 c F0 A0) quX0_span_24_1 [vR 24, vR 1, vI c] 6 F0 A0 K := by
  refine ⟨qvX0_span_24_1_0 c F0 A0 K h, fun pc ls st F A u hI => ?_⟩
  unfold qiX0_span_24_1 at hI
  replace hI := am_cond2 hI
  rcases hI with ⟨hb, hI⟩ | hI
  · have hb := am_bq hb
    subst hb
    split at hI
    · rename_i s0 s1 s2 t k
      obtain ⟨e0, e1, e2, e3, hI⟩ := hI
      subst e0
      subst e1
      subst e2
      subst e3
      exact qvX0_span_24_1_73 _ _ _ K h _ _ _ hI
    · exact hI.elim
  exact hI.elim
theorem qtX0_span (l : Launch) : am_CT l layX qeX0_span := am_met0 rfl (by decide +kernel) rfl rfl rfl rfl rfl (fun _ => rfl) rfl (qzX0_span l) (fun k e1 h => (qyX0_span l k e1 h).2) (fun as F A K h => by
  replace h : qsX0_span as F A K := h
  unfold qsX0_span at h
  split at h
  · rename_i o g c
    refine ⟨by first | exact Nat.le_of_ble_eq_true rfl | simp [am_fl, am_cat], ?_⟩
    replace h := am_cond2 h
    rcases h with ⟨hb, h⟩ | h
    · simp only [Bool.and_eq_true] at hb
      obtain ⟨hb0, hb1⟩ := hb
      have hb0 := am_bq hb0
      subst hb0
      have hb1 := am_bq hb1
      subst hb1
      exact am_way_body (qvX0_span_24_1 c F A K h)
    exact h.elim
  · exact h.elim)
def qkX3_size : Nat → Option CI := fun pc => cond (Nat.ble 5 pc) none (cond (Nat.beq pc 0) (some (.aload_n 0, 1, [])) (cond (Nat.beq pc 1) (some (.getfield 17, 4, [])) (cond (Nat.beq pc 4) (some (.ireturn, 5, [])) (none))))
theorem qkX3_size_ok : ∀ pc i nx ts, qkX3_size pc = some (i, nx, ts) → am_cok cX3_size pc (i, nx, ts) = true := fun pc i nx ts h => am_tok_ok (n := 5) (by decide +kernel) (fun pc h => by show cond (Nat.ble 5 pc) _ _ = _; rw [Nat.ble_eq_true_of_le h]; rfl) h
def qaX3_size : Nat → Option CE := fun k => none
theorem qyX3_size (l : Launch) : ∀ k e1, qaX3_size k = some e1 → am_cal l layX RX3 3 k e1 ∧ ceT e1 = 0 := q_nil
def qxX3_size : CX := (qkX3_size, layX, qfX3, qaX3_size, qcX3, qlX3, qmX3, (some .int), false, none, 0, none, fun _ => none)
theorem qzX3_size (l : Launch) : am_sta l qxX3_size RX3 3 cX3_size := ⟨qkX3_size_ok, layX_ok, qfX3_ok, qcX3_ok, qlX3_ok, am_mthP qmX3_ok (by decide), fun k e1 h => (qyX3_size l k e1 h).1⟩
def qsX3_size : SP := fun as F A K => match as with
  | [.inr (.inr o)] => cond (Nat.beq o 5) (K (some (some (vI (F 5 2)))) F A) (False)
  | _ => False
def qeX3_size : CE := (yX3_size, cX3_size, 1, (some .int), 0, some 3, 0, [], 0, 3, qsX3_size)
theorem qbX3_size : am_mb qeX3_size := ⟨am_tb_at 547 (by decide +kernel) rfl, am_tb_at 116 (by decide +kernel) rfl, ⟨by decide, by decide, by decide +kernel⟩, by decide, by decide, am_tb_at 545 (by decide +kernel) rfl, am_tb_at 546 (by decide +kernel) rfl, _, _, rfl⟩
set_option maxRecDepth 20000 in
theorem qvX3_size_5  (F : FF) (A : AA) (K : KK) (h : K (some (some (vI (F 5 2)))) F A) : am_line qxX3_size 4 [vR 5] 1 F A K := by
  show am_stp qxX3_size (am_run qxX3_size (fun _ => none) (fun _ _ _ _ _ _ => False) K 4) K 0 [some (vR 5)] [] F A 0
  show K (some (some (vI (F 5 2)))) F A
  first | exact h | exact K_eq h (by first | omega | (simp (disch := omega) only [w32_0, w64_0, wbi0, wbi1, yc_eq0, yc_lt0, yc_gt0, Classical.not_not, w32_id, w64_id]; omega) | (simp (disch := omega) only [w32_0, w64_0, wbi0, wbi1, yc_eq0, yc_lt0, yc_gt0, Classical.not_not, w32_id, w64_id]; done))
theorem qtX3_size (l : Launch) : am_CT l layX qeX3_size := am_met0 rfl (by decide +kernel) rfl rfl rfl rfl rfl (fun _ => rfl) rfl (qzX3_size l) (fun k e1 h => (qyX3_size l k e1 h).2) (fun as F A K h => by
  replace h : qsX3_size as F A K := h
  unfold qsX3_size at h
  split at h
  · rename_i o
    refine ⟨by first | exact Nat.le_of_ble_eq_true rfl | simp [am_fl, am_cat], ?_⟩
    replace h := am_cond2 h
    rcases h with ⟨hb, h⟩ | h
    · skip
      have hb0 := hb
      have hb0 := am_bq hb0
      subst hb0
      exact am_way_line (qvX3_size_5  F A K h)
    exact h.elim
  · exact h.elim)
def qkX3_forget : Nat → Option CI := fun pc => cond (Nat.ble 6 pc) none (cond (Nat.ble 2 pc) (cond (Nat.beq pc 2) (some (.putfield 17, 5, [])) (cond (Nat.beq pc 5) (some (.return_, 6, [])) (none))) (cond (Nat.beq pc 0) (some (.aload_n 0, 1, [])) (cond (Nat.beq pc 1) (some (.iconst 0, 2, [])) (none))))
theorem qkX3_forget_ok : ∀ pc i nx ts, qkX3_forget pc = some (i, nx, ts) → am_cok cX3_forget pc (i, nx, ts) = true := fun pc i nx ts h => am_tok_ok (n := 6) (by decide +kernel) (fun pc h => by show cond (Nat.ble 6 pc) _ _ = _; rw [Nat.ble_eq_true_of_le h]; rfl) h
def qaX3_forget : Nat → Option CE := fun k => none
theorem qyX3_forget (l : Launch) : ∀ k e1, qaX3_forget k = some e1 → am_cal l layX RX3 3 k e1 ∧ ceT e1 = 0 := q_nil
def qxX3_forget : CX := (qkX3_forget, layX, qfX3, qaX3_forget, qcX3, qlX3, qmX3, none, false, none, 0, none, fun _ => none)
theorem qzX3_forget (l : Launch) : am_sta l qxX3_forget RX3 3 cX3_forget := ⟨qkX3_forget_ok, layX_ok, qfX3_ok, qcX3_ok, qlX3_ok, am_mthP qmX3_ok (by decide), fun k e1 h => (qyX3_forget l k e1 h).1⟩
def qsX3_forget : SP := fun as F A K => match as with
  | [.inr (.inr o)] => cond (Nat.beq o 5) (K (some none) (upF F 5 2 0) A) (False)
  | _ => False
def qeX3_forget : CE := (yX3_forget, cX3_forget, 1, none, 0, some 3, 0, [], 0, 3, qsX3_forget)
theorem qbX3_forget : am_mb qeX3_forget := ⟨am_tb_at 525 (by decide +kernel) rfl, am_tb_at 116 (by decide +kernel) rfl, ⟨by decide, by decide, by decide +kernel⟩, by decide, by decide, am_tb_at 523 (by decide +kernel) rfl, am_tb_at 524 (by decide +kernel) rfl, _, _, rfl⟩
set_option maxRecDepth 20000 in
theorem qvX3_forget_5  (F : FF) (A : AA) (K : KK) (h : K (some none) (upF F 5 2 0) A) : am_line qxX3_forget 5 [vR 5] 1 F A K := by
  show am_stp qxX3_forget (am_run qxX3_forget (fun _ => none) (fun _ _ _ _ _ _ => False) K 5) K 0 [some (vR 5)] [] F A 0
  show K (some none) (upF F 5 2 0) A
  first | exact h | exact K_eq h (by first | omega | (simp (disch := omega) only [w32_0, w64_0, wbi0, wbi1, yc_eq0, yc_lt0, yc_gt0, Classical.not_not, w32_id, w64_id]; omega) | (simp (disch := omega) only [w32_0, w64_0, wbi0, wbi1, yc_eq0, yc_lt0, yc_gt0, Classical.not_not, w32_id, w64_id]; done))
theorem qtX3_forget (l : Launch) : am_CT l layX qeX3_forget := am_met0 rfl (by decide +kernel) rfl rfl rfl rfl rfl (fun _ => rfl) rfl (qzX3_forget l) (fun k e1 h => (qyX3_forget l k e1 h).2) (fun as F A K h => by
  replace h : qsX3_forget as F A K := h
  unfold qsX3_forget at h
  split at h
  · rename_i o
    refine ⟨by first | exact Nat.le_of_ble_eq_true rfl | simp [am_fl, am_cat], ?_⟩
    replace h := am_cond2 h
    rcases h with ⟨hb, h⟩ | h
    · skip
      have hb0 := hb
      have hb0 := am_bq hb0
      subst hb0
      exact am_way_line (qvX3_forget_5  F A K h)
    exact h.elim
  · exact h.elim)
def qkX3_startOf : Nat → Option CI := fun pc => cond (Nat.ble 9 pc) none (cond (Nat.ble 4 pc) (cond (Nat.beq pc 4) (some (.sipush 140, 7, [])) (cond (Nat.beq pc 7) (some (.imul, 8, [])) (cond (Nat.beq pc 8) (some (.ireturn, 9, [])) (none)))) (cond (Nat.beq pc 0) (some (.iload_n 0, 1, [])) (cond (Nat.beq pc 1) (some (.bipush 10, 3, [])) (cond (Nat.beq pc 3) (some (.irem, 4, [])) (none)))))
theorem qkX3_startOf_ok : ∀ pc i nx ts, qkX3_startOf pc = some (i, nx, ts) → am_cok cX3_startOf pc (i, nx, ts) = true := fun pc i nx ts h => am_tok_ok (n := 9) (by decide +kernel) (fun pc h => by show cond (Nat.ble 9 pc) _ _ = _; rw [Nat.ble_eq_true_of_le h]; rfl) h
def qaX3_startOf : Nat → Option CE := fun k => none
theorem qyX3_startOf (l : Launch) : ∀ k e1, qaX3_startOf k = some e1 → am_cal l layX RX3 3 k e1 ∧ ceT e1 = 0 := q_nil
def qxX3_startOf : CX := (qkX3_startOf, layX, qfX3, qaX3_startOf, qcX3, qlX3, qmX3, (some .int), false, none, 0, none, fun _ => none)
theorem qzX3_startOf (l : Launch) : am_sta l qxX3_startOf RX3 3 cX3_startOf := ⟨qkX3_startOf_ok, layX_ok, qfX3_ok, qcX3_ok, qlX3_ok, am_mthP qmX3_ok (by decide), fun k e1 h => (qyX3_startOf l k e1 h).1⟩
def qsX3_startOf : SP := fun as F A K => match as with
  | [.inl s] => (0 ≤ s ∧ s < 1000) ∧ (K (some (some (vI (s % 10 * 140)))) F A)
  | _ => False
def qeX3_startOf : CE := (yX3_startOf, cX3_startOf, 1, (some .int), 1, none, 0, [], 0, 3, qsX3_startOf)
theorem qbX3_startOf : am_mb qeX3_startOf := ⟨am_tb_at 758 (by decide +kernel) rfl, am_tb_at 116 (by decide +kernel) rfl, ⟨by decide, by decide, by decide +kernel⟩, by decide, am_tb_at 757 (by decide +kernel) rfl⟩
set_option maxRecDepth 20000 in
theorem qvX3_startOf (s : Int) (F : FF) (A : AA) (K : KK) (h : (0 ≤ s ∧ s < 1000) ∧ (K (some (some (vI (s % 10 * 140)))) F A)) : am_line qxX3_startOf 7 [vI s] 1 F A K := by
  show am_stp qxX3_startOf (am_run qxX3_startOf (fun _ => none) (fun _ _ _ _ _ _ => False) K 7) K 0 [some (vI s)] [] F A 0
  obtain ⟨hp, h⟩ := h
  show (w32 10 ≠ 0) ∧ (K (some (some (vI ((x_rem s 10) * 140)))) F A)
  refine ⟨by first | omega | (simp (disch := omega) only [w32_0, w64_0, wbi0, wbi1, yc_eq0, yc_lt0, yc_gt0, Classical.not_not, w32_id, w64_id]; omega) | (simp (disch := omega) only [w32_0, w64_0, wbi0, wbi1, yc_eq0, yc_lt0, yc_gt0, Classical.not_not, w32_id, w64_id]; done), ?_⟩
  rw [x_rem_eq (by omega) (by omega) (by omega) (by omega)]; exact h
theorem qtX3_startOf (l : Launch) : am_CT l layX qeX3_startOf := am_met0 rfl (by decide +kernel) rfl rfl rfl rfl rfl (fun _ => rfl) rfl (qzX3_startOf l) (fun k e1 h => (qyX3_startOf l k e1 h).2) (fun as F A K h => by
  replace h : qsX3_startOf as F A K := h
  unfold qsX3_startOf at h
  split at h
  · rename_i s
    refine ⟨by first | exact Nat.le_of_ble_eq_true rfl | simp [am_fl, am_cat], ?_⟩
    exact am_way_line (qvX3_startOf s F A K h)
  · exact h.elim)
def qkX3_keep : Nat → Option CI := fun pc => cond (Nat.ble 63 pc) none (cond (Nat.ble 29 pc) (cond (Nat.ble 46 pc) (cond (Nat.ble 54 pc) (cond (Nat.ble 58 pc) (cond (Nat.beq pc 58) (some (.iadd, 59, [])) (cond (Nat.beq pc 59) (some (.putfield 17, 62, [])) (cond (Nat.beq pc 62) (some (.return_, 63, [])) (none)))) (cond (Nat.beq pc 54) (some (.getfield 17, 57, [])) (cond (Nat.beq pc 57) (some (.iconst 1, 58, [])) (none)))) (cond (Nat.ble 52 pc) (cond (Nat.beq pc 52) (some (.aload_n 0, 53, [])) (cond (Nat.beq pc 53) (some (.dup, 54, [])) (none))) (cond (Nat.beq pc 46) (some (.invokestatic 24, 49, [])) (cond (Nat.beq pc 49) (some (.invokevirtual 28, 52, [])) (none))))) (cond (Nat.ble 37 pc) (cond (Nat.ble 41 pc) (cond (Nat.beq pc 41) (some (.aload_n 0, 42, [])) (cond (Nat.beq pc 42) (some (.getfield 17, 45, [])) (cond (Nat.beq pc 45) (some (.iadd, 46, [])) (none)))) (cond (Nat.beq pc 37) (some (.aload_n 0, 38, [])) (cond (Nat.beq pc 38) (some (.getfield 21, 41, [])) (none)))) (cond (Nat.ble 33 pc) (cond (Nat.beq pc 33) (some (.aload_n 0, 34, [])) (cond (Nat.beq pc 34) (some (.getfield 11, 37, [])) (none))) (cond (Nat.beq pc 29) (some (.putfield 17, 32, [])) (cond (Nat.beq pc 32) (some (.aload_n 1, 33, [])) (none)))))) (cond (Nat.ble 15 pc) (cond (Nat.ble 22 pc) (cond (Nat.ble 24 pc) (cond (Nat.beq pc 24) (some (.getfield 17, 27, [])) (cond (Nat.beq pc 27) (some (.iconst 1, 28, [])) (cond (Nat.beq pc 28) (some (.isub, 29, [])) (none)))) (cond (Nat.beq pc 22) (some (.aload_n 0, 23, [])) (cond (Nat.beq pc 23) (some (.dup, 24, [])) (none)))) (cond (Nat.ble 18 pc) (cond (Nat.beq pc 18) (some (.irem, 19, [])) (cond (Nat.beq pc 19) (some (.putfield 21, 22, [])) (none))) (cond (Nat.beq pc 15) (some (.iadd, 16, [])) (cond (Nat.beq pc 16) (some (.bipush 10, 18, [])) (none))))) (cond (Nat.ble 9 pc) (cond (Nat.ble 11 pc) (cond (Nat.beq pc 11) (some (.getfield 21, 14, [])) (cond (Nat.beq pc 14) (some (.iconst 1, 15, [])) (none))) (cond (Nat.beq pc 9) (some (.aload_n 0, 10, [])) (cond (Nat.beq pc 10) (some (.aload_n 0, 11, [])) (none)))) (cond (Nat.ble 4 pc) (cond (Nat.beq pc 4) (some (.bipush 10, 6, [])) (cond (Nat.beq pc 6) (some (.if_icmp .lt 26, 9, [32])) (none))) (cond (Nat.beq pc 0) (some (.aload_n 0, 1, [])) (cond (Nat.beq pc 1) (some (.getfield 17, 4, [])) (none)))))))
theorem qkX3_keep_ok : ∀ pc i nx ts, qkX3_keep pc = some (i, nx, ts) → am_cok cX3_keep pc (i, nx, ts) = true := fun pc i nx ts h => am_tok_ok (n := 63) (by decide +kernel) (fun pc h => by show cond (Nat.ble 63 pc) _ _ = _; rw [Nat.ble_eq_true_of_le h]; rfl) h
def qaX3_keep : Nat → Option CE := fun k => cond (Nat.beq k 24) (some qeX3_startOf) (cond (Nat.beq k 28) (some qeX2_saveTo) (none))
theorem qyX3_keep (l : Launch) : ∀ k e1, qaX3_keep k = some e1 → am_cal l layX RX3 4 k e1 ∧ ceT e1 = 0 := q_cons ⟨am_calS (qtX3_startOf l) qbX3_startOf (by decide) rfl (by decide) (am_tb_at 756 (by decide +kernel) rfl), rfl⟩ (q_cons ⟨am_calV (ci := 2) (qtX2_saveTo l) qbX2_saveTo (by decide) rfl (am_tb_at 759 (by decide +kernel) rfl), rfl⟩ (q_nil))
def qxX3_keep : CX := (qkX3_keep, layX, qfX3, qaX3_keep, qcX3, qlX3, qmX3, none, false, none, 0, none, fun _ => none)
theorem qzX3_keep (l : Launch) : am_sta l qxX3_keep RX3 4 cX3_keep := ⟨qkX3_keep_ok, layX_ok, qfX3_ok, qcX3_ok, qlX3_ok, am_mthP qmX3_ok (by decide), fun k e1 h => (qyX3_keep l k e1 h).1⟩
def qsX3_keep : SP := fun as F A K => match as with
  | [.inr (.inr o), .inr (.inr g)] => cond (Nat.beq o 5 && Nat.beq g 1) ((0 ≤ (F 5 1) ∧ (F 5 1) ≤ 9 ∧ 0 ≤ (F 5 2) ∧ (F 5 2) ≤ 10) ∧ (∀ (G_1 : FF), (G_1 = upF (upF F 5 1 (if (F 5 2) = 10 then ((F 5 1) + 1) % 10 else (F 5 1))) 5 2 (if (F 5 2) = 10 then 10 else (F 5 2) + 1)) → (K (some none) G_1 (setR A 6 ((if (F 5 2) = 10 then ((F 5 1) + 1) % 10 + 9 else (F 5 1) + (F 5 2)) % 10 * 140) 140 (A 2))))) (False)
  | _ => False
def qeX3_keep : CE := (yX3_keep, cX3_keep, 2, none, 1, some 3, 0, [], 0, 4, qsX3_keep)
theorem qbX3_keep : am_mb qeX3_keep := ⟨am_tb_at 755 (by decide +kernel) rfl, am_tb_at 116 (by decide +kernel) rfl, ⟨by decide, by decide, by decide +kernel⟩, by decide, by decide, am_tb_at 753 (by decide +kernel) rfl, am_tb_at 754 (by decide +kernel) rfl, _, _, rfl⟩
set_option maxRecDepth 20000 in
theorem qvX3_keep_5_1  (F : FF) (A : AA) (K : KK) (h : (0 ≤ (F 5 1) ∧ (F 5 1) ≤ 9 ∧ 0 ≤ (F 5 2) ∧ (F 5 2) ≤ 10) ∧ (∀ (G_1 : FF), (G_1 = upF (upF F 5 1 (if (F 5 2) = 10 then ((F 5 1) + 1) % 10 else (F 5 1))) 5 2 (if (F 5 2) = 10 then 10 else (F 5 2) + 1)) → (K (some none) G_1 (setR A 6 ((if (F 5 2) = 10 then ((F 5 1) + 1) % 10 + 9 else (F 5 1) + (F 5 2)) % 10 * 140) 140 (A 2))))) : am_line qxX3_keep 36 [vR 5, vR 1] 2 F A K := by
  show am_stp qxX3_keep (am_run qxX3_keep (fun _ => none) (fun _ _ _ _ _ _ => False) K 36) K 0 [some (vR 5), some (vR 1)] [] F A 0
  obtain ⟨hp, h⟩ := h
  show (w32 (F 5 2) < w32 10 → ((0 ≤ ((F 5 1) + (F 5 2)) ∧ ((F 5 1) + (F 5 2)) < 1000) ∧ ((0 ≤ w32 (((F 5 1) + (F 5 2)) % 10 * 140) ∧ w32 (((F 5 1) + (F 5 2)) % 10 * 140) ≤ 1260) ∧ (K (some none) (upF F 5 2 ((F 5 2) + 1)) (cpA A 2 (w32 0) 0 (w32 (((F 5 1) + (F 5 2)) % 10 * 140)) (w32 140) 6))))) ∧ (¬ w32 (F 5 2) < w32 10 → ((w32 10 ≠ 0) ∧ ((0 ≤ ((x_rem ((F 5 1) + 1) 10) + ((F 5 2) - 1)) ∧ ((x_rem ((F 5 1) + 1) 10) + ((F 5 2) - 1)) < 1000) ∧ ((0 ≤ w32 (((x_rem ((F 5 1) + 1) 10) + ((F 5 2) - 1)) % 10 * 140) ∧ w32 (((x_rem ((F 5 1) + 1) 10) + ((F 5 2) - 1)) % 10 * 140) ≤ 1260) ∧ (K (some none) (upF (upF (upF F 5 1 (x_rem ((F 5 1) + 1) 10)) 5 2 ((F 5 2) - 1)) 5 2 (((F 5 2) - 1) + 1)) (cpA A 2 (w32 0) 0 (w32 (((x_rem ((F 5 1) + 1) 10) + ((F 5 2) - 1)) % 10 * 140)) (w32 140) 6))))))
  refine ⟨fun c1 => ?_, fun c1 => ?_⟩
  · skip
    try simp (disch := omega) only [w32_0, w64_0, wbi0, wbi1, yc_eq0, yc_lt0, yc_gt0, Classical.not_not, w32_id, w64_id] at c1
    refine ⟨by first | exact Or.inl rfl | exact Or.inr rfl | omega | (simp (disch := omega) only [upF_s, upF_o (show (5 : Nat) ≠ 5 ∨ (1 : Nat) ≠ 2 by decide), upF_o (show (5 : Nat) ≠ 5 ∨ (2 : Nat) ≠ 1 by decide), x_rem_eq, w32_id]; omega), ?_⟩
    refine ⟨by first | exact Or.inl rfl | exact Or.inr rfl | omega | (simp (disch := omega) only [upF_s, upF_o (show (5 : Nat) ≠ 5 ∨ (1 : Nat) ≠ 2 by decide), upF_o (show (5 : Nat) ≠ 5 ∨ (2 : Nat) ≠ 1 by decide), x_rem_eq, w32_id]; omega), ?_⟩
    have h2 := h _ rfl
    simp only [if_neg (show ¬ F 5 2 = 10 by omega)] at h2
    rw [upF_id (show F 5 1 = F 5 1 from rfl)] at h2
    simp (disch := omega) only [w32_0, w32_id]
    rw [cpA_set]
    simp only [Int.zero_add]
    exact h2
  · skip
    try simp (disch := omega) only [w32_0, w64_0, wbi0, wbi1, yc_eq0, yc_lt0, yc_gt0, Classical.not_not, w32_id, w64_id] at c1
    refine ⟨by first | exact Or.inl rfl | exact Or.inr rfl | omega | (simp (disch := omega) only [upF_s, upF_o (show (5 : Nat) ≠ 5 ∨ (1 : Nat) ≠ 2 by decide), upF_o (show (5 : Nat) ≠ 5 ∨ (2 : Nat) ≠ 1 by decide), x_rem_eq, w32_id]; omega), ?_⟩
    refine ⟨by first | exact Or.inl rfl | exact Or.inr rfl | omega | (simp (disch := omega) only [upF_s, upF_o (show (5 : Nat) ≠ 5 ∨ (1 : Nat) ≠ 2 by decide), upF_o (show (5 : Nat) ≠ 5 ∨ (2 : Nat) ≠ 1 by decide), x_rem_eq, w32_id]; omega), ?_⟩
    refine ⟨by first | exact Or.inl rfl | exact Or.inr rfl | omega | (simp (disch := omega) only [upF_s, upF_o (show (5 : Nat) ≠ 5 ∨ (1 : Nat) ≠ 2 by decide), upF_o (show (5 : Nat) ≠ 5 ∨ (2 : Nat) ≠ 1 by decide), x_rem_eq, w32_id]; omega), ?_⟩
    have h2 := h _ rfl
    simp only [if_pos (show F 5 2 = 10 by omega)] at h2
    simp (disch := omega) only [w32_0, x_rem_eq, w32_id]
    rw [cpA_set, upF_2, show F 5 2 - 1 + 1 = 10 by omega, show F 5 2 - 1 = 9 by omega]
    simp only [Int.zero_add]
    exact h2
theorem qtX3_keep (l : Launch) : am_CT l layX qeX3_keep := am_met0 rfl (by decide +kernel) rfl rfl rfl rfl rfl (fun _ => rfl) rfl (qzX3_keep l) (fun k e1 h => (qyX3_keep l k e1 h).2) (fun as F A K h => by
  replace h : qsX3_keep as F A K := h
  unfold qsX3_keep at h
  split at h
  · rename_i o g
    refine ⟨by first | exact Nat.le_of_ble_eq_true rfl | simp [am_fl, am_cat], ?_⟩
    replace h := am_cond2 h
    rcases h with ⟨hb, h⟩ | h
    · simp only [Bool.and_eq_true] at hb
      obtain ⟨hb0, hb1⟩ := hb
      have hb0 := am_bq hb0
      subst hb0
      have hb1 := am_bq hb1
      subst hb1
      exact am_way_line (qvX3_keep_5_1  F A K h)
    exact h.elim
  · exact h.elim)
def qkX3_takeBack : Nat → Option CI := fun pc => cond (Nat.ble 41 pc) none (cond (Nat.ble 19 pc) (cond (Nat.ble 29 pc) (cond (Nat.ble 36 pc) (cond (Nat.beq pc 36) (some (.invokevirtual 32, 39, [])) (cond (Nat.beq pc 39) (some (.iconst 1, 40, [])) (cond (Nat.beq pc 40) (some (.ireturn, 41, [])) (none)))) (cond (Nat.beq pc 29) (some (.getfield 17, 32, [])) (cond (Nat.beq pc 32) (some (.iadd, 33, [])) (cond (Nat.beq pc 33) (some (.invokestatic 24, 36, [])) (none))))) (cond (Nat.ble 24 pc) (cond (Nat.beq pc 24) (some (.aload_n 0, 25, [])) (cond (Nat.beq pc 25) (some (.getfield 21, 28, [])) (cond (Nat.beq pc 28) (some (.aload_n 0, 29, [])) (none)))) (cond (Nat.beq pc 19) (some (.aload_n 1, 20, [])) (cond (Nat.beq pc 20) (some (.aload_n 0, 21, [])) (cond (Nat.beq pc 21) (some (.getfield 11, 24, [])) (none)))))) (cond (Nat.ble 9 pc) (cond (Nat.ble 14 pc) (cond (Nat.beq pc 14) (some (.iconst 1, 15, [])) (cond (Nat.beq pc 15) (some (.isub, 16, [])) (cond (Nat.beq pc 16) (some (.putfield 17, 19, [])) (none)))) (cond (Nat.beq pc 9) (some (.aload_n 0, 10, [])) (cond (Nat.beq pc 10) (some (.dup, 11, [])) (cond (Nat.beq pc 11) (some (.getfield 17, 14, [])) (none))))) (cond (Nat.ble 4 pc) (cond (Nat.beq pc 4) (some (.ifCond .gt 5, 7, [9])) (cond (Nat.beq pc 7) (some (.iconst 0, 8, [])) (cond (Nat.beq pc 8) (some (.ireturn, 9, [])) (none)))) (cond (Nat.beq pc 0) (some (.aload_n 0, 1, [])) (cond (Nat.beq pc 1) (some (.getfield 17, 4, [])) (none))))))
theorem qkX3_takeBack_ok : ∀ pc i nx ts, qkX3_takeBack pc = some (i, nx, ts) → am_cok cX3_takeBack pc (i, nx, ts) = true := fun pc i nx ts h => am_tok_ok (n := 41) (by decide +kernel) (fun pc h => by show cond (Nat.ble 41 pc) _ _ = _; rw [Nat.ble_eq_true_of_le h]; rfl) h
def qaX3_takeBack : Nat → Option CE := fun k => cond (Nat.beq k 24) (some qeX3_startOf) (cond (Nat.beq k 32) (some qeX2_restoreFrom) (none))
theorem qyX3_takeBack (l : Launch) : ∀ k e1, qaX3_takeBack k = some e1 → am_cal l layX RX3 4 k e1 ∧ ceT e1 = 0 := q_cons ⟨am_calS (qtX3_startOf l) qbX3_startOf (by decide) rfl (by decide) (am_tb_at 756 (by decide +kernel) rfl), rfl⟩ (q_cons ⟨am_calV (ci := 2) (qtX2_restoreFrom l) qbX2_restoreFrom (by decide) rfl (am_tb_at 829 (by decide +kernel) rfl), rfl⟩ (q_nil))
def qxX3_takeBack : CX := (qkX3_takeBack, layX, qfX3, qaX3_takeBack, qcX3, qlX3, qmX3, (some .boolean), false, none, 0, none, fun _ => none)
theorem qzX3_takeBack (l : Launch) : am_sta l qxX3_takeBack RX3 4 cX3_takeBack := ⟨qkX3_takeBack_ok, layX_ok, qfX3_ok, qcX3_ok, qlX3_ok, am_mthP qmX3_ok (by decide), fun k e1 h => (qyX3_takeBack l k e1 h).1⟩
def qsX3_takeBack : SP := fun as F A K => match as with
  | [.inr (.inr o), .inr (.inr g)] => cond (Nat.beq o 5 && Nat.beq g 1) ((0 ≤ (F 5 1) ∧ (F 5 1) ≤ 9 ∧ 0 ≤ (F 5 2) ∧ (F 5 2) ≤ 10) ∧ (∀ (G_1 : FF) (B_1 : AA), (((F 5 2) = 0 → G_1 = F ∧ B_1 = A) ∧ (¬ (F 5 2) = 0 → G_1 = upF F 5 2 ((F 5 2) - 1) ∧ B_1 = setR A 2 0 140 (fun jj => A 6 (((F 5 1) + (F 5 2) - 1) % 10 * 140 + jj)))) → (K (some (some (vI (bi (¬ (F 5 2) = 0))))) G_1 B_1))) (False)
  | _ => False
def qeX3_takeBack : CE := (yX3_takeBack, cX3_takeBack, 2, (some .boolean), 1, some 3, 0, [], 0, 4, qsX3_takeBack)
theorem qbX3_takeBack : am_mb qeX3_takeBack := ⟨am_tb_at 828 (by decide +kernel) rfl, am_tb_at 116 (by decide +kernel) rfl, ⟨by decide, by decide, by decide +kernel⟩, by decide, by decide, am_tb_at 826 (by decide +kernel) rfl, am_tb_at 827 (by decide +kernel) rfl, _, _, rfl⟩
set_option maxRecDepth 20000 in
theorem qvX3_takeBack_5_1  (F : FF) (A : AA) (K : KK) (h : (0 ≤ (F 5 1) ∧ (F 5 1) ≤ 9 ∧ 0 ≤ (F 5 2) ∧ (F 5 2) ≤ 10) ∧ (∀ (G_1 : FF) (B_1 : AA), (((F 5 2) = 0 → G_1 = F ∧ B_1 = A) ∧ (¬ (F 5 2) = 0 → G_1 = upF F 5 2 ((F 5 2) - 1) ∧ B_1 = setR A 2 0 140 (fun jj => A 6 (((F 5 1) + (F 5 2) - 1) % 10 * 140 + jj)))) → (K (some (some (vI (bi (¬ (F 5 2) = 0))))) G_1 B_1))) : am_line qxX3_takeBack 22 [vR 5, vR 1] 2 F A K := by
  show am_stp qxX3_takeBack (am_run qxX3_takeBack (fun _ => none) (fun _ _ _ _ _ _ => False) K 22) K 0 [some (vR 5), some (vR 1)] [] F A 0
  obtain ⟨hp, h⟩ := h
  show (w32 0 < w32 (F 5 2) → ((0 ≤ ((F 5 1) + ((F 5 2) - 1)) ∧ ((F 5 1) + ((F 5 2) - 1)) < 1000) ∧ ((0 ≤ w32 (((F 5 1) + ((F 5 2) - 1)) % 10 * 140) ∧ w32 (((F 5 1) + ((F 5 2) - 1)) % 10 * 140) ≤ 1260) ∧ ((1 = 0 ∨ 1 = 1) ∧ (K (some (some (vI 1))) (upF F 5 2 ((F 5 2) - 1)) (cpA A 6 (w32 (((F 5 1) + ((F 5 2) - 1)) % 10 * 140)) 0 (w32 0) (w32 140) 2)))))) ∧ (¬ w32 0 < w32 (F 5 2) → ((0 = 0 ∨ 0 = 1) ∧ (K (some (some (vI 0))) F A)))
  refine ⟨fun c1 => ?_, fun c1 => ?_⟩
  · skip
    try simp (disch := omega) only [w32_0, w64_0, wbi0, wbi1, yc_eq0, yc_lt0, yc_gt0, Classical.not_not, w32_id, w64_id] at c1
    refine ⟨by first | exact Or.inl rfl | exact Or.inr rfl | omega | (simp (disch := omega) only [upF_s, upF_o (show (5 : Nat) ≠ 5 ∨ (1 : Nat) ≠ 2 by decide), upF_o (show (5 : Nat) ≠ 5 ∨ (2 : Nat) ≠ 1 by decide), x_rem_eq, w32_id]; omega), ?_⟩
    refine ⟨by first | exact Or.inl rfl | exact Or.inr rfl | omega | (simp (disch := omega) only [upF_s, upF_o (show (5 : Nat) ≠ 5 ∨ (1 : Nat) ≠ 2 by decide), upF_o (show (5 : Nat) ≠ 5 ∨ (2 : Nat) ≠ 1 by decide), x_rem_eq, w32_id]; omega), ?_⟩
    refine ⟨by first | exact Or.inl rfl | exact Or.inr rfl | omega | (simp (disch := omega) only [upF_s, upF_o (show (5 : Nat) ≠ 5 ∨ (1 : Nat) ≠ 2 by decide), upF_o (show (5 : Nat) ≠ 5 ∨ (2 : Nat) ≠ 1 by decide), x_rem_eq, w32_id]; omega), ?_⟩
    refine K_eq (h _ _ ⟨fun z => absurd z (by omega), fun _ => ⟨rfl, ?_⟩⟩) (bi_t (by omega))
    simp (disch := omega) only [w32_0, w32_id]
    rw [cpA_set, show F 5 1 + (F 5 2 - 1) = F 5 1 + F 5 2 - 1 by omega]
  · skip
    try simp (disch := omega) only [w32_0, w64_0, wbi0, wbi1, yc_eq0, yc_lt0, yc_gt0, Classical.not_not, w32_id, w64_id] at c1
    refine ⟨by first | exact Or.inl rfl | exact Or.inr rfl | omega | (simp (disch := omega) only [upF_s, upF_o (show (5 : Nat) ≠ 5 ∨ (1 : Nat) ≠ 2 by decide), upF_o (show (5 : Nat) ≠ 5 ∨ (2 : Nat) ≠ 1 by decide), x_rem_eq, w32_id]; omega), ?_⟩
    exact K_eq (h _ _ ⟨fun _ => ⟨rfl, rfl⟩, fun z => absurd (show F 5 2 = 0 by omega) z⟩) (bi_f (by omega))
theorem qtX3_takeBack (l : Launch) : am_CT l layX qeX3_takeBack := am_met0 rfl (by decide +kernel) rfl rfl rfl rfl rfl (fun _ => rfl) rfl (qzX3_takeBack l) (fun k e1 h => (qyX3_takeBack l k e1 h).2) (fun as F A K h => by
  replace h : qsX3_takeBack as F A K := h
  unfold qsX3_takeBack at h
  split at h
  · rename_i o g
    refine ⟨by first | exact Nat.le_of_ble_eq_true rfl | simp [am_fl, am_cat], ?_⟩
    replace h := am_cond2 h
    rcases h with ⟨hb, h⟩ | h
    · simp only [Bool.and_eq_true] at hb
      obtain ⟨hb0, hb1⟩ := hb
      have hb0 := am_bq hb0
      subst hb0
      have hb1 := am_bq hb1
      subst hb1
      exact am_way_line (qvX3_takeBack_5_1  F A K h)
    exact h.elim
  · exact h.elim)
def qkX0_clips : Nat → Option CI := fun pc => cond (Nat.ble 155 pc) none (cond (Nat.ble 72 pc) (cond (Nat.ble 109 pc) (cond (Nat.ble 130 pc) (cond (Nat.ble 144 pc) (cond (Nat.ble 150 pc) (cond (Nat.beq pc 150) (some (.goto 4, 153, [154])) (cond (Nat.beq pc 153) (some (.iconst 0, 154, [])) (cond (Nat.beq pc 154) (some (.ireturn, 155, [])) (none)))) (cond (Nat.beq pc 144) (some (.iload 5, 146, [])) (cond (Nat.beq pc 146) (some (.ifCond .eq 7, 149, [153])) (cond (Nat.beq pc 149) (some (.iconst 1, 150, [])) (none))))) (cond (Nat.ble 136 pc) (cond (Nat.beq pc 136) (some (.goto (-127), 139, [9])) (cond (Nat.beq pc 139) (some (.iload 4, 141, [])) (cond (Nat.beq pc 141) (some (.ifCond .ne 8, 144, [149])) (none)))) (cond (Nat.beq pc 130) (some (.iconst 0, 131, [])) (cond (Nat.beq pc 131) (some (.istore 5, 133, [])) (cond (Nat.beq pc 133) (some (.iinc 6 1, 136, [])) (none)))))) (cond (Nat.ble 119 pc) (cond (Nat.ble 123 pc) (cond (Nat.beq pc 123) (some (.ifCond .ge 7, 126, [130])) (cond (Nat.beq pc 126) (some (.iconst 1, 127, [])) (cond (Nat.beq pc 127) (some (.goto 4, 130, [131])) (none)))) (cond (Nat.beq pc 119) (some (.lload 7, 121, [])) (cond (Nat.beq pc 121) (some (.lmul, 122, [])) (cond (Nat.beq pc 122) (some (.lcmp, 123, [])) (none))))) (cond (Nat.ble 114 pc) (cond (Nat.beq pc 114) (some (.aload_n 0, 115, [])) (cond (Nat.beq pc 115) (some (.getfield 34, 118, [])) (cond (Nat.beq pc 118) (some (.i2l, 119, [])) (none)))) (cond (Nat.beq pc 109) (some (.ifCond .eq 21, 112, [130])) (cond (Nat.beq pc 112) (some (.lload 9, 114, [])) (none)))))) (cond (Nat.ble 89 pc) (cond (Nat.ble 97 pc) (cond (Nat.ble 104 pc) (cond (Nat.beq pc 104) (some (.iconst 0, 105, [])) (cond (Nat.beq pc 105) (some (.istore 4, 107, [])) (cond (Nat.beq pc 107) (some (.iload 5, 109, [])) (none)))) (cond (Nat.beq pc 97) (some (.ifCond .le 7, 100, [104])) (cond (Nat.beq pc 100) (some (.iconst 1, 101, [])) (cond (Nat.beq pc 101) (some (.goto 4, 104, [105])) (none))))) (cond (Nat.ble 93 pc) (cond (Nat.beq pc 93) (some (.lload 7, 95, [])) (cond (Nat.beq pc 95) (some (.lmul, 96, [])) (cond (Nat.beq pc 96) (some (.lcmp, 97, [])) (none)))) (cond (Nat.beq pc 89) (some (.getfield 37, 92, [])) (cond (Nat.beq pc 92) (some (.i2l, 93, [])) (none))))) (cond (Nat.ble 78 pc) (cond (Nat.ble 83 pc) (cond (Nat.beq pc 83) (some (.ifCond .eq 21, 86, [104])) (cond (Nat.beq pc 86) (some (.lload 9, 88, [])) (cond (Nat.beq pc 88) (some (.aload_n 0, 89, [])) (none)))) (cond (Nat.beq pc 78) (some (.lsub, 79, [])) (cond (Nat.beq pc 79) (some (.lstore 9, 81, [])) (cond (Nat.beq pc 81) (some (.iload 4, 83, [])) (none))))) (cond (Nat.ble 75 pc) (cond (Nat.beq pc 75) (some (.lmul, 76, [])) (cond (Nat.beq pc 76) (some (.lsub, 77, [])) (cond (Nat.beq pc 77) (some (.lmul, 78, [])) (none)))) (cond (Nat.beq pc 72) (some (.i2l, 73, [])) (cond (Nat.beq pc 73) (some (.lload 7, 75, [])) (none))))))) (cond (Nat.ble 36 pc) (cond (Nat.ble 53 pc) (cond (Nat.ble 61 pc) (cond (Nat.ble 65 pc) (cond (Nat.beq pc 65) (some (.invokevirtual 54, 68, [])) (cond (Nat.beq pc 68) (some (.aload_n 0, 69, [])) (cond (Nat.beq pc 69) (some (.getfield 19, 72, [])) (none)))) (cond (Nat.beq pc 61) (some (.iload_n 3, 62, [])) (cond (Nat.beq pc 62) (some (.iconst 0, 63, [])) (cond (Nat.beq pc 63) (some (.iload 6, 65, [])) (none))))) (cond (Nat.ble 58 pc) (cond (Nat.beq pc 58) (some (.i2l, 59, [])) (cond (Nat.beq pc 59) (some (.aload_n 1, 60, [])) (cond (Nat.beq pc 60) (some (.iload_n 2, 61, [])) (none)))) (cond (Nat.beq pc 53) (some (.lmul, 54, [])) (cond (Nat.beq pc 54) (some (.aload_n 0, 55, [])) (cond (Nat.beq pc 55) (some (.getfield 31, 58, [])) (none)))))) (cond (Nat.ble 44 pc) (cond (Nat.ble 49 pc) (cond (Nat.beq pc 49) (some (.lload 7, 51, [])) (cond (Nat.beq pc 51) (some (.lmul, 52, [])) (cond (Nat.beq pc 52) (some (.lsub, 53, [])) (none)))) (cond (Nat.beq pc 44) (some (.aload_n 0, 45, [])) (cond (Nat.beq pc 45) (some (.getfield 25, 48, [])) (cond (Nat.beq pc 48) (some (.i2l, 49, [])) (none))))) (cond (Nat.ble 38 pc) (cond (Nat.beq pc 38) (some (.iconst 1, 39, [])) (cond (Nat.beq pc 39) (some (.iload 6, 41, [])) (cond (Nat.beq pc 41) (some (.invokevirtual 54, 44, [])) (none)))) (cond (Nat.beq pc 36) (some (.iload_n 2, 37, [])) (cond (Nat.beq pc 37) (some (.iload_n 3, 38, [])) (none)))))) (cond (Nat.ble 19 pc) (cond (Nat.ble 25 pc) (cond (Nat.ble 31 pc) (cond (Nat.beq pc 31) (some (.getfield 28, 34, [])) (cond (Nat.beq pc 34) (some (.i2l, 35, [])) (cond (Nat.beq pc 35) (some (.aload_n 1, 36, [])) (none)))) (cond (Nat.beq pc 25) (some (.invokevirtual 54, 28, [])) (cond (Nat.beq pc 28) (some (.lstore 7, 30, [])) (cond (Nat.beq pc 30) (some (.aload_n 0, 31, [])) (none))))) (cond (Nat.ble 21 pc) (cond (Nat.beq pc 21) (some (.iload_n 3, 22, [])) (cond (Nat.beq pc 22) (some (.iconst 2, 23, [])) (cond (Nat.beq pc 23) (some (.iload 6, 25, [])) (none)))) (cond (Nat.beq pc 19) (some (.aload_n 1, 20, [])) (cond (Nat.beq pc 20) (some (.iload_n 2, 21, [])) (none))))) (cond (Nat.ble 7 pc) (cond (Nat.ble 12 pc) (cond (Nat.beq pc 12) (some (.iload_n 2, 13, [])) (cond (Nat.beq pc 13) (some (.invokevirtual 49, 16, [])) (cond (Nat.beq pc 16) (some (.if_icmp .gt 123, 19, [139])) (none)))) (cond (Nat.beq pc 7) (some (.istore 6, 9, [])) (cond (Nat.beq pc 9) (some (.iload 6, 11, [])) (cond (Nat.beq pc 11) (some (.aload_n 1, 12, [])) (none))))) (cond (Nat.ble 3 pc) (cond (Nat.beq pc 3) (some (.iconst 1, 4, [])) (cond (Nat.beq pc 4) (some (.istore 5, 6, [])) (cond (Nat.beq pc 6) (some (.iconst 0, 7, [])) (none)))) (cond (Nat.beq pc 0) (some (.iconst 1, 1, [])) (cond (Nat.beq pc 1) (some (.istore 4, 3, [])) (none))))))))
theorem qkX0_clips_ok : ∀ pc i nx ts, qkX0_clips pc = some (i, nx, ts) → am_cok cX0_clips pc (i, nx, ts) = true := fun pc i nx ts h => am_tok_ok (n := 155) (by decide +kernel) (fun pc h => by show cond (Nat.ble 155 pc) _ _ = _; rw [Nat.ble_eq_true_of_le h]; rfl) h
def qaX0_clips : Nat → Option CE := fun k => cond (Nat.beq k 49) (some qeX1_degreeOf) (cond (Nat.beq k 54) (some qeX1_number) (none))
theorem qyX0_clips (l : Launch) : ∀ k e1, qaX0_clips k = some e1 → am_cal l layX RX0 5 k e1 ∧ ceT e1 = 0 := q_cons ⟨am_calV (ci := 1) (qtX1_degreeOf l) qbX1_degreeOf (by decide) rfl (am_tb_at 1234 (by decide +kernel) rfl), rfl⟩ (q_cons ⟨am_calV (ci := 1) (qtX1_number l) qbX1_number (by decide) rfl (am_tb_at 1235 (by decide +kernel) rfl), rfl⟩ (q_nil))
def qxX0_clips : CX := (qkX0_clips, layX, qfX0, qaX0_clips, qcX0, qlX0, qmX0, (some .boolean), false, none, 0, none, fun _ => none)
theorem qzX0_clips (l : Launch) : am_sta l qxX0_clips RX0 5 cX0_clips := ⟨qkX0_clips_ok, layX_ok, qfX0_ok, qcX0_ok, qlX0_ok, am_mthP qmX0_ok (by decide), fun k e1 h => (qyX0_clips l k e1 h).1⟩
def qsX0_clips : SP := fun as F A K => match as with
  | [.inr (.inr o), .inr (.inr p), .inl c, .inl nd] => cond (Nat.beq o 24 && Nat.beq p 9) ((0 ≤ c ∧ c < 8 ∧ 0 ≤ nd ∧ nd < 127 ∧ 0 ≤ A 12 c ∧ A 12 c ≤ 3) ∧ (K (some (some (vI (bc (clP F A c nd (A 12 c)))))) F A)) (False)
  | _ => False
def qeX0_clips : CE := (yX0_clips, cX0_clips, 11, (some .boolean), 3, some 0, 0, [], 0, 5, qsX0_clips)
theorem qbX0_clips : am_mb qeX0_clips := ⟨am_tb_at 1233 (by decide +kernel) rfl, am_tb_at 122 (by decide +kernel) rfl, ⟨by decide, by decide, by decide +kernel⟩, by decide, by decide, am_tb_at 1231 (by decide +kernel) rfl, am_tb_at 1232 (by decide +kernel) rfl, _, _, rfl⟩
def qnX0_clips_24_9 : CUT := fun pc => cond (Nat.beq pc 9) (some [true, true, true, true, true, true, true, false, false, false, false]) (none)
def qiX0_clips_24_9 (c : Int) (nd : Int) (F0 : FF) (A0 : AA) : REC := fun pc ls st F A u => cond (Nat.beq pc 9) (match ls, st, u with
    | [some (.inr (.inr s0)), some (.inr (.inr s1)), some (.inl s2), some (.inl s3), some (.inl a), some (.inl b), some (.inl k), none, none, none, none], [], 0 => s0 = 24 ∧ s1 = 9 ∧ s2 = c ∧ s3 = nd ∧ F = F0 ∧ A = A0 ∧ (0 ≤ k ∧ k ≤ A0 12 c + 1 ∧ a = bc (∀ jj, 0 ≤ jj → jj < k → clA F0 A0 c nd jj) ∧ b = bc (∀ jj, 0 ≤ jj → jj < k → clB F0 A0 c nd jj))
    | _, _, _ => False) (False)
def quX0_clips_24_9 : Nat → LVs → List AV → FF → AA → Nat := fun pc ls _ F A => cond (Nat.beq pc 9) (match ls with
    | [some (.inr (.inr s0)), some (.inr (.inr s1)), some (.inl s2), some (.inl s3), some (.inl a), some (.inl b), some (.inl k), none, none, none, none] => Int.toNat (9 - k)
    | _ => 0) (0)
set_option maxRecDepth 20000 in
theorem qvX0_clips_24_9_0 (c : Int) (nd : Int) (F0 : FF) (A0 : AA) (K : KK) (h : (0 ≤ c ∧ c < 8 ∧ 0 ≤ nd ∧ nd < 127 ∧ 0 ≤ A0 12 c ∧ A0 12 c ≤ 3) ∧ (K (some (some (vI (bc (clP F0 A0 c nd (A0 12 c)))))) F0 A0)) : am_stp qxX0_clips (am_run qxX0_clips qnX0_clips_24_9 (qiX0_clips_24_9 c nd F0 A0) K 77) K 0 (am_ent [vR 24, vR 9, vI c, vI nd] 11) [] F0 A0 0 := by
  show am_stp qxX0_clips (am_run qxX0_clips qnX0_clips_24_9 (qiX0_clips_24_9 c nd F0 A0) K 77) K 0 [some (vR 24), some (vR 9), some (vI c), some (vI nd), none, none, none, none, none, none, none] [] F0 A0 0
  obtain ⟨hp, h⟩ := h
  show 24 = 24 ∧ 9 = 9 ∧ c = c ∧ nd = nd ∧ F0 = F0 ∧ A0 = A0 ∧ (0 ≤ 0 ∧ 0 ≤ A0 12 c + 1 ∧ 1 = bc (∀ jj, 0 ≤ jj → jj < 0 → clA F0 A0 c nd jj) ∧ 1 = bc (∀ jj, 0 ≤ jj → jj < 0 → clB F0 A0 c nd jj))
  refine ⟨rfl, rfl, rfl, rfl, rfl, rfl, ?_⟩
  exact ⟨by omega, by omega, (bc_t (fun jj a0 a1 => by omega)).symm, (bc_t (fun jj a0 a1 => by omega)).symm⟩
set_option maxRecDepth 20000 in
theorem qvX0_clips_24_9_9 (c : Int) (nd : Int) (F0 : FF) (A0 : AA) (K : KK) (h : (0 ≤ c ∧ c < 8 ∧ 0 ≤ nd ∧ nd < 127 ∧ 0 ≤ A0 12 c ∧ A0 12 c ≤ 3) ∧ (K (some (some (vI (bc (clP F0 A0 c nd (A0 12 c)))))) F0 A0)) (a : Int) (b : Int) (k : Int) (hi : 0 ≤ k ∧ k ≤ A0 12 c + 1 ∧ a = bc (∀ jj, 0 ≤ jj → jj < k → clA F0 A0 c nd jj) ∧ b = bc (∀ jj, 0 ≤ jj → jj < k → clB F0 A0 c nd jj)) : am_stp qxX0_clips (am_run qxX0_clips qnX0_clips_24_9 (fun pc ls st F A u => qiX0_clips_24_9 c nd F0 A0 pc ls st F A u ∧ quX0_clips_24_9 pc ls st F A < quX0_clips_24_9 9 [some (vR 24), some (vR 9), some (vI c), some (vI nd), some (vI a), some (vI b), some (vI k), none, none, none, none] [] F0 A0) K 77) K 9 [some (vR 24), some (vR 9), some (vI c), some (vI nd), some (vI a), some (vI b), some (vI k), none, none, none, none] [] F0 A0 0 := by
  obtain ⟨hp, h⟩ := h
  obtain ⟨h1, h2, h3, h4⟩ := hi
  show (0 ≤ c ∧ c < 8) ∧ ((w32 (A0 12 c) < w32 k → ((w32 a = w32 0 → ((w32 b = w32 0 → ((0 = 0 ∨ 0 = 1) ∧ (K (some (some (vI 0))) F0 A0))) ∧ (¬ w32 b = w32 0 → ((1 = 0 ∨ 1 = 1) ∧ (K (some (some (vI 1))) F0 A0))))) ∧ (¬ w32 a = w32 0 → ((1 = 0 ∨ 1 = 1) ∧ (K (some (some (vI 1))) F0 A0))))) ∧ (¬ w32 (A0 12 c) < w32 k → ((0 ≤ c ∧ c < 8 ∧ 0 ≤ nd ∧ nd < 127 ∧ 0 ≤ 2 ∧ 2 ≤ 2 ∧ 0 ≤ k ∧ k < 4) ∧ ((0 ≤ c ∧ c < 8 ∧ 0 ≤ nd ∧ nd < 127 ∧ 0 ≤ 1 ∧ 1 ≤ 2 ∧ 0 ≤ k ∧ k < 4) ∧ ((0 ≤ c ∧ c < 8 ∧ 0 ≤ nd ∧ nd < 127 ∧ 0 ≤ 0 ∧ 0 ≤ 2 ∧ 0 ≤ k ∧ k < 4) ∧ ((w32 a = w32 0 → ((w32 b = w32 0 → ((24 = 24 ∧ 9 = 9 ∧ c = c ∧ nd = nd ∧ F0 = F0 ∧ A0 = A0 ∧ (0 ≤ (k + 1) ∧ (k + 1) ≤ A0 12 c + 1 ∧ 0 = bc (∀ jj, 0 ≤ jj → jj < (k + 1) → clA F0 A0 c nd jj) ∧ 0 = bc (∀ jj, 0 ≤ jj → jj < (k + 1) → clB F0 A0 c nd jj))) ∧ (Int.toNat (9 - (k + 1))) < (Int.toNat (9 - k)))) ∧ (¬ w32 b = w32 0 → ((w32 (y_cmp (((w32 (F0 24 2)) * ((A0 10 (((c * 127 + nd) * 3 + 1) * 4 + k)) - ((w32 (F0 24 1)) * (A0 10 (((c * 127 + nd) * 3 + 2) * 4 + k))))) - ((w32 (F0 24 3)) * ((A0 10 (((c * 127 + nd) * 3 + 0) * 4 + k)) - ((w32 (F0 24 0)) * (A0 10 (((c * 127 + nd) * 3 + 2) * 4 + k)))))) ((w32 (F0 24 4)) * (A0 10 (((c * 127 + nd) * 3 + 2) * 4 + k)))) < w32 0 → ((24 = 24 ∧ 9 = 9 ∧ c = c ∧ nd = nd ∧ F0 = F0 ∧ A0 = A0 ∧ (0 ≤ (k + 1) ∧ (k + 1) ≤ A0 12 c + 1 ∧ 0 = bc (∀ jj, 0 ≤ jj → jj < (k + 1) → clA F0 A0 c nd jj) ∧ 1 = bc (∀ jj, 0 ≤ jj → jj < (k + 1) → clB F0 A0 c nd jj))) ∧ (Int.toNat (9 - (k + 1))) < (Int.toNat (9 - k)))) ∧ (¬ w32 (y_cmp (((w32 (F0 24 2)) * ((A0 10 (((c * 127 + nd) * 3 + 1) * 4 + k)) - ((w32 (F0 24 1)) * (A0 10 (((c * 127 + nd) * 3 + 2) * 4 + k))))) - ((w32 (F0 24 3)) * ((A0 10 (((c * 127 + nd) * 3 + 0) * 4 + k)) - ((w32 (F0 24 0)) * (A0 10 (((c * 127 + nd) * 3 + 2) * 4 + k)))))) ((w32 (F0 24 4)) * (A0 10 (((c * 127 + nd) * 3 + 2) * 4 + k)))) < w32 0 → ((24 = 24 ∧ 9 = 9 ∧ c = c ∧ nd = nd ∧ F0 = F0 ∧ A0 = A0 ∧ (0 ≤ (k + 1) ∧ (k + 1) ≤ A0 12 c + 1 ∧ 0 = bc (∀ jj, 0 ≤ jj → jj < (k + 1) → clA F0 A0 c nd jj) ∧ 0 = bc (∀ jj, 0 ≤ jj → jj < (k + 1) → clB F0 A0 c nd jj))) ∧ (Int.toNat (9 - (k + 1))) < (Int.toNat (9 - k)))))))) ∧ (¬ w32 a = w32 0 → ((w32 0 < w32 (y_cmp (((w32 (F0 24 2)) * ((A0 10 (((c * 127 + nd) * 3 + 1) * 4 + k)) - ((w32 (F0 24 1)) * (A0 10 (((c * 127 + nd) * 3 + 2) * 4 + k))))) - ((w32 (F0 24 3)) * ((A0 10 (((c * 127 + nd) * 3 + 0) * 4 + k)) - ((w32 (F0 24 0)) * (A0 10 (((c * 127 + nd) * 3 + 2) * 4 + k)))))) ((w32 (F0 24 5)) * (A0 10 (((c * 127 + nd) * 3 + 2) * 4 + k)))) → ((w32 b = w32 0 → ((24 = 24 ∧ 9 = 9 ∧ c = c ∧ nd = nd ∧ F0 = F0 ∧ A0 = A0 ∧ (0 ≤ (k + 1) ∧ (k + 1) ≤ A0 12 c + 1 ∧ 1 = bc (∀ jj, 0 ≤ jj → jj < (k + 1) → clA F0 A0 c nd jj) ∧ 0 = bc (∀ jj, 0 ≤ jj → jj < (k + 1) → clB F0 A0 c nd jj))) ∧ (Int.toNat (9 - (k + 1))) < (Int.toNat (9 - k)))) ∧ (¬ w32 b = w32 0 → ((w32 (y_cmp (((w32 (F0 24 2)) * ((A0 10 (((c * 127 + nd) * 3 + 1) * 4 + k)) - ((w32 (F0 24 1)) * (A0 10 (((c * 127 + nd) * 3 + 2) * 4 + k))))) - ((w32 (F0 24 3)) * ((A0 10 (((c * 127 + nd) * 3 + 0) * 4 + k)) - ((w32 (F0 24 0)) * (A0 10 (((c * 127 + nd) * 3 + 2) * 4 + k)))))) ((w32 (F0 24 4)) * (A0 10 (((c * 127 + nd) * 3 + 2) * 4 + k)))) < w32 0 → ((24 = 24 ∧ 9 = 9 ∧ c = c ∧ nd = nd ∧ F0 = F0 ∧ A0 = A0 ∧ (0 ≤ (k + 1) ∧ (k + 1) ≤ A0 12 c + 1 ∧ 1 = bc (∀ jj, 0 ≤ jj → jj < (k + 1) → clA F0 A0 c nd jj) ∧ 1 = bc (∀ jj, 0 ≤ jj → jj < (k + 1) → clB F0 A0 c nd jj))) ∧ (Int.toNat (9 - (k + 1))) < (Int.toNat (9 - k)))) ∧ (¬ w32 (y_cmp (((w32 (F0 24 2)) * ((A0 10 (((c * 127 + nd) * 3 + 1) * 4 + k)) - ((w32 (F0 24 1)) * (A0 10 (((c * 127 + nd) * 3 + 2) * 4 + k))))) - ((w32 (F0 24 3)) * ((A0 10 (((c * 127 + nd) * 3 + 0) * 4 + k)) - ((w32 (F0 24 0)) * (A0 10 (((c * 127 + nd) * 3 + 2) * 4 + k)))))) ((w32 (F0 24 4)) * (A0 10 (((c * 127 + nd) * 3 + 2) * 4 + k)))) < w32 0 → ((24 = 24 ∧ 9 = 9 ∧ c = c ∧ nd = nd ∧ F0 = F0 ∧ A0 = A0 ∧ (0 ≤ (k + 1) ∧ (k + 1) ≤ A0 12 c + 1 ∧ 1 = bc (∀ jj, 0 ≤ jj → jj < (k + 1) → clA F0 A0 c nd jj) ∧ 0 = bc (∀ jj, 0 ≤ jj → jj < (k + 1) → clB F0 A0 c nd jj))) ∧ (Int.toNat (9 - (k + 1))) < (Int.toNat (9 - k)))))))) ∧ (¬ w32 0 < w32 (y_cmp (((w32 (F0 24 2)) * ((A0 10 (((c * 127 + nd) * 3 + 1) * 4 + k)) - ((w32 (F0 24 1)) * (A0 10 (((c * 127 + nd) * 3 + 2) * 4 + k))))) - ((w32 (F0 24 3)) * ((A0 10 (((c * 127 + nd) * 3 + 0) * 4 + k)) - ((w32 (F0 24 0)) * (A0 10 (((c * 127 + nd) * 3 + 2) * 4 + k)))))) ((w32 (F0 24 5)) * (A0 10 (((c * 127 + nd) * 3 + 2) * 4 + k)))) → ((w32 b = w32 0 → ((24 = 24 ∧ 9 = 9 ∧ c = c ∧ nd = nd ∧ F0 = F0 ∧ A0 = A0 ∧ (0 ≤ (k + 1) ∧ (k + 1) ≤ A0 12 c + 1 ∧ 0 = bc (∀ jj, 0 ≤ jj → jj < (k + 1) → clA F0 A0 c nd jj) ∧ 0 = bc (∀ jj, 0 ≤ jj → jj < (k + 1) → clB F0 A0 c nd jj))) ∧ (Int.toNat (9 - (k + 1))) < (Int.toNat (9 - k)))) ∧ (¬ w32 b = w32 0 → ((w32 (y_cmp (((w32 (F0 24 2)) * ((A0 10 (((c * 127 + nd) * 3 + 1) * 4 + k)) - ((w32 (F0 24 1)) * (A0 10 (((c * 127 + nd) * 3 + 2) * 4 + k))))) - ((w32 (F0 24 3)) * ((A0 10 (((c * 127 + nd) * 3 + 0) * 4 + k)) - ((w32 (F0 24 0)) * (A0 10 (((c * 127 + nd) * 3 + 2) * 4 + k)))))) ((w32 (F0 24 4)) * (A0 10 (((c * 127 + nd) * 3 + 2) * 4 + k)))) < w32 0 → ((24 = 24 ∧ 9 = 9 ∧ c = c ∧ nd = nd ∧ F0 = F0 ∧ A0 = A0 ∧ (0 ≤ (k + 1) ∧ (k + 1) ≤ A0 12 c + 1 ∧ 0 = bc (∀ jj, 0 ≤ jj → jj < (k + 1) → clA F0 A0 c nd jj) ∧ 1 = bc (∀ jj, 0 ≤ jj → jj < (k + 1) → clB F0 A0 c nd jj))) ∧ (Int.toNat (9 - (k + 1))) < (Int.toNat (9 - k)))) ∧ (¬ w32 (y_cmp (((w32 (F0 24 2)) * ((A0 10 (((c * 127 + nd) * 3 + 1) * 4 + k)) - ((w32 (F0 24 1)) * (A0 10 (((c * 127 + nd) * 3 + 2) * 4 + k))))) - ((w32 (F0 24 3)) * ((A0 10 (((c * 127 + nd) * 3 + 0) * 4 + k)) - ((w32 (F0 24 0)) * (A0 10 (((c * 127 + nd) * 3 + 2) * 4 + k)))))) ((w32 (F0 24 4)) * (A0 10 (((c * 127 + nd) * 3 + 2) * 4 + k)))) < w32 0 → ((24 = 24 ∧ 9 = 9 ∧ c = c ∧ nd = nd ∧ F0 = F0 ∧ A0 = A0 ∧ (0 ≤ (k + 1) ∧ (k + 1) ≤ A0 12 c + 1 ∧ 0 = bc (∀ jj, 0 ≤ jj → jj < (k + 1) → clA F0 A0 c nd jj) ∧ 0 = bc (∀ jj, 0 ≤ jj → jj < (k + 1) → clB F0 A0 c nd jj))) ∧ (Int.toNat (9 - (k + 1))) < (Int.toNat (9 - k))))))))))))))))
  refine ⟨by first | exact Or.inl rfl | exact Or.inr rfl | omega, ?_⟩
  refine ⟨fun c1 => ?_, fun c1 => ?_⟩
  · skip
    (try simp only [h3, h4] at c1); (try simp only [w32_0, wbc0, Classical.not_not] at c1); (try simp (disch := omega) only [yc_gt0, yc_lt0, w32_0, w32_id] at c1); (first | change clA F0 A0 c nd k at c1 | change ¬ clA F0 A0 c nd k at c1 | change clB F0 A0 c nd k at c1 | change ¬ clB F0 A0 c nd k at c1 | skip)
    refine ⟨fun c2 => ?_, fun c2 => ?_⟩
    · skip
      (try simp only [h3, h4] at c2); (try simp only [w32_0, wbc0, Classical.not_not] at c2); (try simp (disch := omega) only [yc_gt0, yc_lt0, w32_0, w32_id] at c2); (first | change clA F0 A0 c nd k at c2 | change ¬ clA F0 A0 c nd k at c2 | change clB F0 A0 c nd k at c2 | change ¬ clB F0 A0 c nd k at c2 | skip)
      refine ⟨fun c3 => ?_, fun c3 => ?_⟩
      · skip
        (try simp only [h3, h4] at c3); (try simp only [w32_0, wbc0, Classical.not_not] at c3); (try simp (disch := omega) only [yc_gt0, yc_lt0, w32_0, w32_id] at c3); (first | change clA F0 A0 c nd k at c3 | change ¬ clA F0 A0 c nd k at c3 | change clB F0 A0 c nd k at c3 | change ¬ clB F0 A0 c nd k at c3 | skip)
        refine ⟨by first | exact Or.inl rfl | exact Or.inr rfl | omega, ?_⟩
        refine K_eq h ?_
        have ek : k = A0 12 c + 1 := by omega
        subst ek
        exact bc_f (fun z => z.elim (fun y => c2 (fun j j0 j1 => y j j0 (by omega))) (fun y => c3 (fun j j0 j1 => y j j0 (by omega))))
      · skip
        (try simp only [h3, h4] at c3); (try simp only [w32_0, wbc0, Classical.not_not] at c3); (try simp (disch := omega) only [yc_gt0, yc_lt0, w32_0, w32_id] at c3); (first | change clA F0 A0 c nd k at c3 | change ¬ clA F0 A0 c nd k at c3 | change clB F0 A0 c nd k at c3 | change ¬ clB F0 A0 c nd k at c3 | skip)
        refine ⟨by first | exact Or.inl rfl | exact Or.inr rfl | omega, ?_⟩
        refine K_eq h ?_
        have ek : k = A0 12 c + 1 := by omega
        subst ek
        exact bc_t (Or.inr (fun j j0 j1 => c3 j j0 (by omega)))
    · skip
      (try simp only [h3, h4] at c2); (try simp only [w32_0, wbc0, Classical.not_not] at c2); (try simp (disch := omega) only [yc_gt0, yc_lt0, w32_0, w32_id] at c2); (first | change clA F0 A0 c nd k at c2 | change ¬ clA F0 A0 c nd k at c2 | change clB F0 A0 c nd k at c2 | change ¬ clB F0 A0 c nd k at c2 | skip)
      refine ⟨by first | exact Or.inl rfl | exact Or.inr rfl | omega, ?_⟩
      refine K_eq h ?_
      have ek : k = A0 12 c + 1 := by omega
      subst ek
      exact bc_t (Or.inl (fun j j0 j1 => c2 j j0 (by omega)))
  · skip
    (try simp only [h3, h4] at c1); (try simp only [w32_0, wbc0, Classical.not_not] at c1); (try simp (disch := omega) only [yc_gt0, yc_lt0, w32_0, w32_id] at c1); (first | change clA F0 A0 c nd k at c1 | change ¬ clA F0 A0 c nd k at c1 | change clB F0 A0 c nd k at c1 | change ¬ clB F0 A0 c nd k at c1 | skip)
    refine ⟨by first | exact Or.inl rfl | exact Or.inr rfl | omega, ?_⟩
    refine ⟨by first | exact Or.inl rfl | exact Or.inr rfl | omega, ?_⟩
    refine ⟨by first | exact Or.inl rfl | exact Or.inr rfl | omega, ?_⟩
    refine ⟨fun c2 => ?_, fun c2 => ?_⟩
    · skip
      (try simp only [h3, h4] at c2); (try simp only [w32_0, wbc0, Classical.not_not] at c2); (try simp (disch := omega) only [yc_gt0, yc_lt0, w32_0, w32_id] at c2); (first | change clA F0 A0 c nd k at c2 | change ¬ clA F0 A0 c nd k at c2 | change clB F0 A0 c nd k at c2 | change ¬ clB F0 A0 c nd k at c2 | skip)
      refine ⟨fun c3 => ?_, fun c3 => ?_⟩
      · skip
        (try simp only [h3, h4] at c3); (try simp only [w32_0, wbc0, Classical.not_not] at c3); (try simp (disch := omega) only [yc_gt0, yc_lt0, w32_0, w32_id] at c3); (first | change clA F0 A0 c nd k at c3 | change ¬ clA F0 A0 c nd k at c3 | change clB F0 A0 c nd k at c3 | change ¬ clB F0 A0 c nd k at c3 | skip)
        refine ⟨⟨rfl, rfl, rfl, rfl, rfl, rfl, ?_⟩, by omega⟩
        refine ⟨by omega, by omega, ?_, ?_⟩
        · first | exact bcs_f1 (P := clA F0 A0 c nd) (by assumption) | exact bcs_f2 (P := clA F0 A0 c nd) h1 (by assumption) | exact bcs_t (P := clA F0 A0 c nd) (by assumption) (by assumption)
        · first | exact bcs_f1 (P := clB F0 A0 c nd) (by assumption) | exact bcs_f2 (P := clB F0 A0 c nd) h1 (by assumption) | exact bcs_t (P := clB F0 A0 c nd) (by assumption) (by assumption)
      · skip
        (try simp only [h3, h4] at c3); (try simp only [w32_0, wbc0, Classical.not_not] at c3); (try simp (disch := omega) only [yc_gt0, yc_lt0, w32_0, w32_id] at c3); (first | change clA F0 A0 c nd k at c3 | change ¬ clA F0 A0 c nd k at c3 | change clB F0 A0 c nd k at c3 | change ¬ clB F0 A0 c nd k at c3 | skip)
        refine ⟨fun c4 => ?_, fun c4 => ?_⟩
        · skip
          (try simp only [h3, h4] at c4); (try simp only [w32_0, wbc0, Classical.not_not] at c4); (try simp (disch := omega) only [yc_gt0, yc_lt0, w32_0, w32_id] at c4); (first | change clA F0 A0 c nd k at c4 | change ¬ clA F0 A0 c nd k at c4 | change clB F0 A0 c nd k at c4 | change ¬ clB F0 A0 c nd k at c4 | skip)
          refine ⟨⟨rfl, rfl, rfl, rfl, rfl, rfl, ?_⟩, by omega⟩
          refine ⟨by omega, by omega, ?_, ?_⟩
          · first | exact bcs_f1 (P := clA F0 A0 c nd) (by assumption) | exact bcs_f2 (P := clA F0 A0 c nd) h1 (by assumption) | exact bcs_t (P := clA F0 A0 c nd) (by assumption) (by assumption)
          · first | exact bcs_f1 (P := clB F0 A0 c nd) (by assumption) | exact bcs_f2 (P := clB F0 A0 c nd) h1 (by assumption) | exact bcs_t (P := clB F0 A0 c nd) (by assumption) (by assumption)
        · skip
          (try simp only [h3, h4] at c4); (try simp only [w32_0, wbc0, Classical.not_not] at c4); (try simp (disch := omega) only [yc_gt0, yc_lt0, w32_0, w32_id] at c4); (first | change clA F0 A0 c nd k at c4 | change ¬ clA F0 A0 c nd k at c4 | change clB F0 A0 c nd k at c4 | change ¬ clB F0 A0 c nd k at c4 | skip)
          refine ⟨⟨rfl, rfl, rfl, rfl, rfl, rfl, ?_⟩, by omega⟩
          refine ⟨by omega, by omega, ?_, ?_⟩
          · first | exact bcs_f1 (P := clA F0 A0 c nd) (by assumption) | exact bcs_f2 (P := clA F0 A0 c nd) h1 (by assumption) | exact bcs_t (P := clA F0 A0 c nd) (by assumption) (by assumption)
          · first | exact bcs_f1 (P := clB F0 A0 c nd) (by assumption) | exact bcs_f2 (P := clB F0 A0 c nd) h1 (by assumption) | exact bcs_t (P := clB F0 A0 c nd) (by assumption) (by assumption)
    · skip
      (try simp only [h3, h4] at c2); (try simp only [w32_0, wbc0, Classical.not_not] at c2); (try simp (disch := omega) only [yc_gt0, yc_lt0, w32_0, w32_id] at c2); (first | change clA F0 A0 c nd k at c2 | change ¬ clA F0 A0 c nd k at c2 | change clB F0 A0 c nd k at c2 | change ¬ clB F0 A0 c nd k at c2 | skip)
      refine ⟨fun c3 => ?_, fun c3 => ?_⟩
      · skip
        (try simp only [h3, h4] at c3); (try simp only [w32_0, wbc0, Classical.not_not] at c3); (try simp (disch := omega) only [yc_gt0, yc_lt0, w32_0, w32_id] at c3); (first | change clA F0 A0 c nd k at c3 | change ¬ clA F0 A0 c nd k at c3 | change clB F0 A0 c nd k at c3 | change ¬ clB F0 A0 c nd k at c3 | skip)
        refine ⟨fun c4 => ?_, fun c4 => ?_⟩
        · skip
          (try simp only [h3, h4] at c4); (try simp only [w32_0, wbc0, Classical.not_not] at c4); (try simp (disch := omega) only [yc_gt0, yc_lt0, w32_0, w32_id] at c4); (first | change clA F0 A0 c nd k at c4 | change ¬ clA F0 A0 c nd k at c4 | change clB F0 A0 c nd k at c4 | change ¬ clB F0 A0 c nd k at c4 | skip)
          refine ⟨⟨rfl, rfl, rfl, rfl, rfl, rfl, ?_⟩, by omega⟩
          refine ⟨by omega, by omega, ?_, ?_⟩
          · first | exact bcs_f1 (P := clA F0 A0 c nd) (by assumption) | exact bcs_f2 (P := clA F0 A0 c nd) h1 (by assumption) | exact bcs_t (P := clA F0 A0 c nd) (by assumption) (by assumption)
          · first | exact bcs_f1 (P := clB F0 A0 c nd) (by assumption) | exact bcs_f2 (P := clB F0 A0 c nd) h1 (by assumption) | exact bcs_t (P := clB F0 A0 c nd) (by assumption) (by assumption)
        · skip
          (try simp only [h3, h4] at c4); (try simp only [w32_0, wbc0, Classical.not_not] at c4); (try simp (disch := omega) only [yc_gt0, yc_lt0, w32_0, w32_id] at c4); (first | change clA F0 A0 c nd k at c4 | change ¬ clA F0 A0 c nd k at c4 | change clB F0 A0 c nd k at c4 | change ¬ clB F0 A0 c nd k at c4 | skip)
          refine ⟨fun c5 => ?_, fun c5 => ?_⟩
          · skip
            (try simp only [h3, h4] at c5); (try simp only [w32_0, wbc0, Classical.not_not] at c5); (try simp (disch := omega) only [yc_gt0, yc_lt0, w32_0, w32_id] at c5); (first | change clA F0 A0 c nd k at c5 | change ¬ clA F0 A0 c nd k at c5 | change clB F0 A0 c nd k at c5 | change ¬ clB F0 A0 c nd k at c5 | skip)
            refine ⟨⟨rfl, rfl, rfl, rfl, rfl, rfl, ?_⟩, by omega⟩
            refine ⟨by omega, by omega, ?_, ?_⟩
            · first | exact bcs_f1 (P := clA F0 A0 c nd) (by assumption) | exact bcs_f2 (P := clA F0 A0 c nd) h1 (by assumption) | exact bcs_t (P := clA F0 A0 c nd) (by assumption) (by assumption)
            · first | exact bcs_f1 (P := clB F0 A0 c nd) (by assumption) | exact bcs_f2 (P := clB F0 A0 c nd) h1 (by assumption) | exact bcs_t (P := clB F0 A0 c nd) (by assumption) (by assumption)
          · skip
            (try simp only [h3, h4] at c5); (try simp only [w32_0, wbc0, Classical.not_not] at c5); (try simp (disch := omega) only [yc_gt0, yc_lt0, w32_0, w32_id] at c5); (first | change clA F0 A0 c nd k at c5 | change ¬ clA F0 A0 c nd k at c5 | change clB F0 A0 c nd k at c5 | change ¬ clB F0 A0 c nd k at c5 | skip)
            refine ⟨⟨rfl, rfl, rfl, rfl, rfl, rfl, ?_⟩, by omega⟩
            refine ⟨by omega, by omega, ?_, ?_⟩
            · first | exact bcs_f1 (P := clA F0 A0 c nd) (by assumption) | exact bcs_f2 (P := clA F0 A0 c nd) h1 (by assumption) | exact bcs_t (P := clA F0 A0 c nd) (by assumption) (by assumption)
            · first | exact bcs_f1 (P := clB F0 A0 c nd) (by assumption) | exact bcs_f2 (P := clB F0 A0 c nd) h1 (by assumption) | exact bcs_t (P := clB F0 A0 c nd) (by assumption) (by assumption)
      · skip
        (try simp only [h3, h4] at c3); (try simp only [w32_0, wbc0, Classical.not_not] at c3); (try simp (disch := omega) only [yc_gt0, yc_lt0, w32_0, w32_id] at c3); (first | change clA F0 A0 c nd k at c3 | change ¬ clA F0 A0 c nd k at c3 | change clB F0 A0 c nd k at c3 | change ¬ clB F0 A0 c nd k at c3 | skip)
        refine ⟨fun c4 => ?_, fun c4 => ?_⟩
        · skip
          (try simp only [h3, h4] at c4); (try simp only [w32_0, wbc0, Classical.not_not] at c4); (try simp (disch := omega) only [yc_gt0, yc_lt0, w32_0, w32_id] at c4); (first | change clA F0 A0 c nd k at c4 | change ¬ clA F0 A0 c nd k at c4 | change clB F0 A0 c nd k at c4 | change ¬ clB F0 A0 c nd k at c4 | skip)
          refine ⟨⟨rfl, rfl, rfl, rfl, rfl, rfl, ?_⟩, by omega⟩
          refine ⟨by omega, by omega, ?_, ?_⟩
          · first | exact bcs_f1 (P := clA F0 A0 c nd) (by assumption) | exact bcs_f2 (P := clA F0 A0 c nd) h1 (by assumption) | exact bcs_t (P := clA F0 A0 c nd) (by assumption) (by assumption)
          · first | exact bcs_f1 (P := clB F0 A0 c nd) (by assumption) | exact bcs_f2 (P := clB F0 A0 c nd) h1 (by assumption) | exact bcs_t (P := clB F0 A0 c nd) (by assumption) (by assumption)
        · skip
          (try simp only [h3, h4] at c4); (try simp only [w32_0, wbc0, Classical.not_not] at c4); (try simp (disch := omega) only [yc_gt0, yc_lt0, w32_0, w32_id] at c4); (first | change clA F0 A0 c nd k at c4 | change ¬ clA F0 A0 c nd k at c4 | change clB F0 A0 c nd k at c4 | change ¬ clB F0 A0 c nd k at c4 | skip)
          refine ⟨fun c5 => ?_, fun c5 => ?_⟩
          · skip
            (try simp only [h3, h4] at c5); (try simp only [w32_0, wbc0, Classical.not_not] at c5); (try simp (disch := omega) only [yc_gt0, yc_lt0, w32_0, w32_id] at c5); (first | change clA F0 A0 c nd k at c5 | change ¬ clA F0 A0 c nd k at c5 | change clB F0 A0 c nd k at c5 | change ¬ clB F0 A0 c nd k at c5 | skip)
            refine ⟨⟨rfl, rfl, rfl, rfl, rfl, rfl, ?_⟩, by omega⟩
            refine ⟨by omega, by omega, ?_, ?_⟩
            · first | exact bcs_f1 (P := clA F0 A0 c nd) (by assumption) | exact bcs_f2 (P := clA F0 A0 c nd) h1 (by assumption) | exact bcs_t (P := clA F0 A0 c nd) (by assumption) (by assumption)
            · first | exact bcs_f1 (P := clB F0 A0 c nd) (by assumption) | exact bcs_f2 (P := clB F0 A0 c nd) h1 (by assumption) | exact bcs_t (P := clB F0 A0 c nd) (by assumption) (by assumption)
          · skip
            (try simp only [h3, h4] at c5); (try simp only [w32_0, wbc0, Classical.not_not] at c5); (try simp (disch := omega) only [yc_gt0, yc_lt0, w32_0, w32_id] at c5); (first | change clA F0 A0 c nd k at c5 | change ¬ clA F0 A0 c nd k at c5 | change clB F0 A0 c nd k at c5 | change ¬ clB F0 A0 c nd k at c5 | skip)
            refine ⟨⟨rfl, rfl, rfl, rfl, rfl, rfl, ?_⟩, by omega⟩
            refine ⟨by omega, by omega, ?_, ?_⟩
            · first | exact bcs_f1 (P := clA F0 A0 c nd) (by assumption) | exact bcs_f2 (P := clA F0 A0 c nd) h1 (by assumption) | exact bcs_t (P := clA F0 A0 c nd) (by assumption) (by assumption)
            · first | exact bcs_f1 (P := clB F0 A0 c nd) (by assumption) | exact bcs_f2 (P := clB F0 A0 c nd) h1 (by assumption) | exact bcs_t (P := clB F0 A0 c nd) (by assumption) (by assumption)
set_option maxRecDepth 20000 in
theorem qvX0_clips_24_9 (c : Int) (nd : Int) (F0 : FF) (A0 : AA) (K : KK) (h : (0 ≤ c ∧ c < 8 ∧ 0 ≤ nd ∧ nd < 127 ∧ 0 ≤ A0 12 c ∧ A0 12 c ≤ 3) ∧ (K (some (some (vI (bc (clP F0 A0 c nd (A0 12 c)))))) F0 A0)) : am_body qxX0_clips qnX0_clips_24_9 77 (qiX0_clips_24_9 c nd F0 A0) quX0_clips_24_9 [vR 24, vR 9, vI c, vI nd] 11 F0 A0 K := by
  refine ⟨qvX0_clips_24_9_0 c nd F0 A0 K h, fun pc ls st F A u hI => ?_⟩
  unfold qiX0_clips_24_9 at hI
  replace hI := am_cond2 hI
  rcases hI with ⟨hb, hI⟩ | hI
  · have hb := am_bq hb
    subst hb
    split at hI
    · rename_i s0 s1 s2 s3 a b k
      obtain ⟨e0, e1, e2, e3, e4, e5, hI⟩ := hI
      subst e0
      subst e1
      subst e2
      subst e3
      subst e4
      subst e5
      exact qvX0_clips_24_9_9 _ _ _ _ K h _ _ _ hI
    · exact hI.elim
  exact hI.elim
theorem qtX0_clips (l : Launch) : am_CT l layX qeX0_clips := am_met0 rfl (by decide +kernel) rfl rfl rfl rfl rfl (fun _ => rfl) rfl (qzX0_clips l) (fun k e1 h => (qyX0_clips l k e1 h).2) (fun as F A K h => by
  replace h : qsX0_clips as F A K := h
  unfold qsX0_clips at h
  split at h
  · rename_i o p c nd
    refine ⟨by first | exact Nat.le_of_ble_eq_true rfl | simp [am_fl, am_cat], ?_⟩
    replace h := am_cond2 h
    rcases h with ⟨hb, h⟩ | h
    · simp only [Bool.and_eq_true] at hb
      obtain ⟨hb0, hb1⟩ := hb
      have hb0 := am_bq hb0
      subst hb0
      have hb1 := am_bq hb1
      subst hb1
      exact am_way_body (qvX0_clips_24_9 c nd F A K h)
    exact h.elim
  · exact h.elim)
