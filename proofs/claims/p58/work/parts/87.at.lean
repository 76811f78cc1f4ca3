/-! worlds with rows more; in, binomial, at -/
def layR1 : List LC := layX ++ [.inr (1, 4)]
theorem layR1_ok : am_lok layR1 = true := by decide +kernel
theorem layX_R1 : layX <+: layR1 := ⟨_, rfl⟩
def layR2 : List LC := layX ++ [.inr (1, 4), .inr (1, 4)]
theorem layR2_ok : am_lok layR2 = true := by decide +kernel
theorem layX_R2 : layX <+: layR2 := ⟨_, rfl⟩
def layR3 : List LC := layX ++ [.inr (1, 4), .inr (1, 4), .inr (1, 4)]
theorem layR3_ok : am_lok layR3 = true := by decide +kernel
theorem layX_R3 : layX <+: layR3 := ⟨_, rfl⟩
def layR4 : List LC := layX ++ [.inr (1, 4), .inr (1, 4), .inr (1, 4), .inr (1, 4)]
theorem layR4_ok : am_lok layR4 = true := by decide +kernel
theorem layX_R4 : layX <+: layR4 := ⟨_, rfl⟩
def layR5 : List LC := layX ++ [.inr (1, 4), .inr (1, 4), .inr (1, 4), .inr (1, 4), .inr (1, 4)]
theorem layR5_ok : am_lok layR5 = true := by decide +kernel
theorem layX_R5 : layX <+: layR5 := ⟨_, rfl⟩
def layR6 : List LC := layX ++ [.inr (1, 4), .inr (1, 4), .inr (1, 4), .inr (1, 4), .inr (1, 4), .inr (1, 4)]
theorem layR6_ok : am_lok layR6 = true := by decide +kernel
theorem layX_R6 : layX <+: layR6 := ⟨_, rfl⟩
def layK2 : List LC := layX ++ [.inr (1, 4), .inr (0, 3)]
theorem layK2_ok : am_lok layK2 = true := by decide +kernel
theorem layX_K2 : layX <+: layK2 := ⟨_, rfl⟩
theorem layR1_K2 : layR1 <+: layK2 := ⟨[.inr (0, 3)], rfl⟩
theorem and31 (x : Int) : 0 ≤ x_and x 2147483647 ∧ x_and x 2147483647 < 2147483648 := by
  unfold x_and
  obtain ⟨h1, h2⟩ := and_nI (Int32.ofInt x)
  rw [show Int32.ofInt 2147483647 = 2147483647 from rfl, h2, nI_toInt h1]
  omega
def biI (n k : Int) : Int := if k = 0 ∨ k = n then 1 else if n = 2 then 2 else 3
/-- a polynomial by its coefficients at i through m, times m to the degree -/
def atI (g : Int → Int) (n i m : Int) : Int :=
  if n = 1 then g 0 * (m - i) + g 1 * i
  else if n = 2 then g 0 * (m - i) * (m - i) + 2 * g 1 * i * (m - i) + g 2 * i * i
  else g 0 * (m - i) * (m - i) * (m - i) + 3 * g 1 * i * (m - i) * (m - i) + 3 * g 2 * i * i * (m - i) + g 3 * i * i * i
def qkL_in : Nat → Option CI := fun pc => cond (Nat.ble 7 pc) none (cond (Nat.ble 4 pc) (cond (Nat.beq pc 4) (some (.iload_n 1, 5, [])) (cond (Nat.beq pc 5) (some (.irem, 6, [])) (cond (Nat.beq pc 6) (some (.ireturn, 7, [])) (none)))) (cond (Nat.beq pc 0) (some (.iload_n 0, 1, [])) (cond (Nat.beq pc 1) (some (.ldc 7, 3, [])) (cond (Nat.beq pc 3) (some (.iand, 4, [])) (none)))))
theorem qkL_in_ok : ∀ pc i nx ts, qkL_in pc = some (i, nx, ts) → am_cok cL_in pc (i, nx, ts) = true := fun pc i nx ts h => am_tok_ok (n := 7) (by decide +kernel) (fun pc h => by show cond (Nat.ble 7 pc) _ _ = _; rw [Nat.ble_eq_true_of_le h]; rfl) h
def qaL_in : Nat → Option CE := fun k => none
theorem qyL_in (l : Launch) : ∀ k e1, qaL_in k = some e1 → am_cal l layX RL 3 k e1 ∧ ceT e1 = 0 := q_nil
def qxL_in : CX := (qkL_in, layX, qfL, qaL_in, qcL, qlL, qmL, (some .int), false, none, 0, none, fun _ => none)
theorem qzL_in (l : Launch) : am_sta l qxL_in RL 3 cL_in := ⟨qkL_in_ok, layX_ok, qfL_ok, qcL_ok, qlL_ok, am_mthP qmL_ok (by decide), fun k e1 h => (qyL_in l k e1 h).1⟩
def qsL_in : SP := fun as F A K => match as with
  | [.inl x, .inl m] => (1 ≤ m ∧ m < 2147483648) ∧ (∀ (r_1 : Int), (0 ≤ r_1 ∧ r_1 < m) → (K (some (some (vI r_1))) F A))
  | _ => False
def qeL_in : CE := (yL_in, cL_in, 2, (some .int), 2, none, 0, none, 0, 3, qsL_in)
theorem qbL_in : am_mb qeL_in := ⟨am_tb_at 66 (by decide +kernel) rfl, am_tb_at 34 (by decide +kernel) rfl, ⟨by decide, by decide, by decide +kernel⟩, by decide, am_tb_at 65 (by decide +kernel) rfl⟩
set_option maxRecDepth 20000 in
theorem qvL_in (x : Int) (m : Int) (F : FF) (A : AA) (K : KK) (h : (1 ≤ m ∧ m < 2147483648) ∧ (∀ (r_1 : Int), (0 ≤ r_1 ∧ r_1 < m) → (K (some (some (vI r_1))) F A))) : am_line qxL_in 7 [vI x, vI m] 2 F A K := by
  show am_stp qxL_in (am_run qxL_in (fun _ => none) (fun _ _ _ _ _ _ => False) K 7) K 0 [some (vI x), some (vI m)] [] F A 0
  obtain ⟨hp, h⟩ := h
  have a1 := and31 x
  have e1 : w32 m = m := w32_id (by omega) (by omega)
  show (w32 m ≠ 0) ∧ (K (some (some (vI (x_rem (x_and x 2147483647) m)))) F A)
  refine ⟨by rw [e1]; omega, ?_⟩
  refine h _ ?_
  rw [x_rem_eq a1.1 a1.2 (by omega) (by omega)]
  exact ⟨Int.emod_nonneg _ (by omega), Int.emod_lt_of_pos _ (by omega)⟩
theorem qtL_in (l : Launch) : am_CT l layX qeL_in := am_met0 rfl (by decide +kernel) rfl rfl rfl rfl rfl (fun _ => rfl) rfl (qzL_in l) (fun k e1 h => (qyL_in l k e1 h).2) (fun as F A K h => by
  replace h : qsL_in as F A K := h
  unfold qsL_in at h
  split at h
  · rename_i x m
    refine ⟨by first | exact Nat.le_of_ble_eq_true rfl | simp [am_fl, am_cat], ?_⟩
    exact am_way_line (qvL_in x m F A K h)
  · exact h.elim)
def qkL_binomial : Nat → Option CI := fun pc => cond (Nat.ble 28 pc) none (cond (Nat.ble 13 pc) (cond (Nat.ble 18 pc) (cond (Nat.ble 24 pc) (cond (Nat.beq pc 24) (some (.ldc2_w 153, 27, [])) (cond (Nat.beq pc 27) (some (.lreturn, 28, [])) (none))) (cond (Nat.beq pc 18) (some (.ldc2_w 151, 21, [])) (cond (Nat.beq pc 21) (some (.goto 6, 24, [27])) (none)))) (cond (Nat.beq pc 13) (some (.iload_n 0, 14, [])) (cond (Nat.beq pc 14) (some (.iconst 2, 15, [])) (cond (Nat.beq pc 15) (some (.if_icmp .ne 9, 18, [24])) (none))))) (cond (Nat.ble 5 pc) (cond (Nat.ble 9 pc) (cond (Nat.beq pc 9) (some (.lconst 1, 10, [])) (cond (Nat.beq pc 10) (some (.goto 17, 13, [27])) (none))) (cond (Nat.beq pc 5) (some (.iload_n 0, 6, [])) (cond (Nat.beq pc 6) (some (.if_icmp .ne 7, 9, [13])) (none)))) (cond (Nat.beq pc 0) (some (.iload_n 1, 1, [])) (cond (Nat.beq pc 1) (some (.ifCond .eq 8, 4, [9])) (cond (Nat.beq pc 4) (some (.iload_n 1, 5, [])) (none))))))
theorem qkL_binomial_ok : ∀ pc i nx ts, qkL_binomial pc = some (i, nx, ts) → am_cok cL_binomial pc (i, nx, ts) = true := fun pc i nx ts h => am_tok_ok (n := 28) (by decide +kernel) (fun pc h => by show cond (Nat.ble 28 pc) _ _ = _; rw [Nat.ble_eq_true_of_le h]; rfl) h
def qaL_binomial : Nat → Option CE := fun k => none
theorem qyL_binomial (l : Launch) : ∀ k e1, qaL_binomial k = some e1 → am_cal l layX RL 3 k e1 ∧ ceT e1 = 0 := q_nil
def qxL_binomial : CX := (qkL_binomial, layX, qfL, qaL_binomial, qcL, qlL, qmL, (some .long), false, none, 0, none, fun _ => none)
theorem qzL_binomial (l : Launch) : am_sta l qxL_binomial RL 3 cL_binomial := ⟨qkL_binomial_ok, layX_ok, qfL_ok, qcL_ok, qlL_ok, am_mthP qmL_ok (by decide), fun k e1 h => (qyL_binomial l k e1 h).1⟩
def qsL_binomial : SP := fun as F A K => match as with
  | [.inl n, .inl k] => (((-2147483648 : Int) ≤ n ∧ (n : Int) < 2147483648) ∧ ((-2147483648 : Int) ≤ k ∧ (k : Int) < 2147483648)) ∧ (K (some (some (vL (biI n k)))) F A)
  | _ => False
def qeL_binomial : CE := (yL_binomial, cL_binomial, 2, (some .long), 2, none, 0, none, 0, 3, qsL_binomial)
theorem qbL_binomial : am_mb qeL_binomial := ⟨am_tb_at 1050 (by decide +kernel) rfl, am_tb_at 34 (by decide +kernel) rfl, ⟨by decide, by decide, by decide +kernel⟩, by decide, am_tb_at 1049 (by decide +kernel) rfl⟩
set_option maxRecDepth 20000 in
theorem qvL_binomial (n : Int) (k : Int) (F : FF) (A : AA) (K : KK) (h : (((-2147483648 : Int) ≤ n ∧ (n : Int) < 2147483648) ∧ ((-2147483648 : Int) ≤ k ∧ (k : Int) < 2147483648)) ∧ (K (some (some (vL (biI n k)))) F A)) : am_line qxL_binomial 12 [vI n, vI k] 2 F A K := by
  show am_stp qxL_binomial (am_run qxL_binomial (fun _ => none) (fun _ _ _ _ _ _ => False) K 12) K 0 [some (vI n), some (vI k)] [] F A 0
  obtain ⟨hp, h⟩ := h
  show (w32 k = w32 0 → (K (some (some (vL 1))) F A)) ∧ (¬ w32 k = w32 0 → ((w32 k = w32 n → (K (some (some (vL 1))) F A)) ∧ (¬ w32 k = w32 n → ((w32 n = w32 2 → (K (some (some (vL 2))) F A)) ∧ (¬ w32 n = w32 2 → (K (some (some (vL 3))) F A))))))
  refine ⟨fun c1 => ?_, fun c1 => ?_⟩
  · skip
    (try simp (disch := omega) only [w32_0, w32_id] at c1)
    refine L_eq h ?_
    unfold biI
    first
    | (rw [if_pos (by omega)]; done)
    | (rw [if_neg (by omega), if_pos (by omega)]; done)
    | (rw [if_neg (by omega), if_neg (by omega)]; done)
  · skip
    (try simp (disch := omega) only [w32_0, w32_id] at c1)
    refine ⟨fun c2 => ?_, fun c2 => ?_⟩
    · skip
      (try simp (disch := omega) only [w32_0, w32_id] at c2)
      refine L_eq h ?_
      unfold biI
      first
      | (rw [if_pos (by omega)]; done)
      | (rw [if_neg (by omega), if_pos (by omega)]; done)
      | (rw [if_neg (by omega), if_neg (by omega)]; done)
    · skip
      (try simp (disch := omega) only [w32_0, w32_id] at c2)
      refine ⟨fun c3 => ?_, fun c3 => ?_⟩
      · skip
        (try simp (disch := omega) only [w32_0, w32_id] at c3)
        refine L_eq h ?_
        unfold biI
        first
        | (rw [if_pos (by omega)]; done)
        | (rw [if_neg (by omega), if_pos (by omega)]; done)
        | (rw [if_neg (by omega), if_neg (by omega)]; done)
      · skip
        (try simp (disch := omega) only [w32_0, w32_id] at c3)
        refine L_eq h ?_
        unfold biI
        first
        | (rw [if_pos (by omega)]; done)
        | (rw [if_neg (by omega), if_pos (by omega)]; done)
        | (rw [if_neg (by omega), if_neg (by omega)]; done)
theorem qtL_binomial (l : Launch) : am_CT l layX qeL_binomial := am_met0 rfl (by decide +kernel) rfl rfl rfl rfl rfl (fun _ => rfl) rfl (qzL_binomial l) (fun k e1 h => (qyL_binomial l k e1 h).2) (fun as F A K h => by
  replace h : qsL_binomial as F A K := h
  unfold qsL_binomial at h
  split at h
  · rename_i n k
    refine ⟨by first | exact Nat.le_of_ble_eq_true rfl | simp [am_fl, am_cat], ?_⟩
    exact am_way_line (qvL_binomial n k F A K h)
  · exact h.elim)
def qkL_atR1 : Nat → Option CI := fun pc => cond (Nat.ble 88 pc) none (cond (Nat.ble 39 pc) (cond (Nat.ble 63 pc) (cond (Nat.ble 76 pc) (cond (Nat.ble 82 pc) (cond (Nat.beq pc 82) (some (.goto (-76), 85, [6])) (cond (Nat.beq pc 85) (some (.lload 6, 87, [])) (cond (Nat.beq pc 87) (some (.lreturn, 88, [])) (none)))) (cond (Nat.beq pc 76) (some (.ladd, 77, [])) (cond (Nat.beq pc 77) (some (.lstore 6, 79, [])) (cond (Nat.beq pc 79) (some (.iinc 8 1, 82, [])) (none))))) (cond (Nat.ble 69 pc) (cond (Nat.beq pc 69) (some (.goto (-18), 72, [51])) (cond (Nat.beq pc 72) (some (.lload 6, 74, [])) (cond (Nat.beq pc 74) (some (.lload 9, 76, [])) (none)))) (cond (Nat.beq pc 63) (some (.lmul, 64, [])) (cond (Nat.beq pc 64) (some (.lstore 9, 66, [])) (cond (Nat.beq pc 66) (some (.iinc 11 1, 69, [])) (none)))))) (cond (Nat.ble 53 pc) (cond (Nat.ble 59 pc) (cond (Nat.beq pc 59) (some (.lload 4, 61, [])) (cond (Nat.beq pc 61) (some (.lload_n 2, 62, [])) (cond (Nat.beq pc 62) (some (.lsub, 63, [])) (none)))) (cond (Nat.beq pc 53) (some (.iload_n 1, 54, [])) (cond (Nat.beq pc 54) (some (.if_icmp .ge 18, 57, [72])) (cond (Nat.beq pc 57) (some (.lload 9, 59, [])) (none))))) (cond (Nat.ble 47 pc) (cond (Nat.beq pc 47) (some (.iload 8, 49, [])) (cond (Nat.beq pc 49) (some (.istore 11, 51, [])) (cond (Nat.beq pc 51) (some (.iload 11, 53, [])) (none)))) (cond (Nat.beq pc 39) (some (.lstore 9, 41, [])) (cond (Nat.beq pc 41) (some (.iinc 11 1, 44, [])) (cond (Nat.beq pc 44) (some (.goto (-16), 47, [28])) (none))))))) (cond (Nat.ble 19 pc) (cond (Nat.ble 28 pc) (cond (Nat.ble 35 pc) (cond (Nat.beq pc 35) (some (.lload 9, 37, [])) (cond (Nat.beq pc 37) (some (.lload_n 2, 38, [])) (cond (Nat.beq pc 38) (some (.lmul, 39, [])) (none)))) (cond (Nat.beq pc 28) (some (.iload 11, 30, [])) (cond (Nat.beq pc 30) (some (.iload 8, 32, [])) (cond (Nat.beq pc 32) (some (.if_icmp .ge 15, 35, [47])) (none))))) (cond (Nat.ble 23 pc) (cond (Nat.beq pc 23) (some (.lstore 9, 25, [])) (cond (Nat.beq pc 25) (some (.iconst 0, 26, [])) (cond (Nat.beq pc 26) (some (.istore 11, 28, [])) (none)))) (cond (Nat.beq pc 19) (some (.iload 8, 21, [])) (cond (Nat.beq pc 21) (some (.laload, 22, [])) (cond (Nat.beq pc 22) (some (.lmul, 23, [])) (none)))))) (cond (Nat.ble 8 pc) (cond (Nat.ble 13 pc) (cond (Nat.beq pc 13) (some (.iload 8, 15, [])) (cond (Nat.beq pc 15) (some (.invokestatic 155, 18, [])) (cond (Nat.beq pc 18) (some (.aload_n 0, 19, [])) (none)))) (cond (Nat.beq pc 8) (some (.iload_n 1, 9, [])) (cond (Nat.beq pc 9) (some (.if_icmp .gt 76, 12, [85])) (cond (Nat.beq pc 12) (some (.iload_n 1, 13, [])) (none))))) (cond (Nat.ble 3 pc) (cond (Nat.beq pc 3) (some (.iconst 0, 4, [])) (cond (Nat.beq pc 4) (some (.istore 8, 6, [])) (cond (Nat.beq pc 6) (some (.iload 8, 8, [])) (none)))) (cond (Nat.beq pc 0) (some (.lconst 0, 1, [])) (cond (Nat.beq pc 1) (some (.lstore 6, 3, [])) (none)))))))
theorem qkL_atR1_ok : ∀ pc i nx ts, qkL_atR1 pc = some (i, nx, ts) → am_cok cL_at pc (i, nx, ts) = true := fun pc i nx ts h => am_tok_ok (n := 88) (by decide +kernel) (fun pc h => by show cond (Nat.ble 88 pc) _ _ = _; rw [Nat.ble_eq_true_of_le h]; rfl) h
def qaL_atR1 : Nat → Option CE := fun k => cond (Nat.beq k 155) (some qeL_binomial) (none)
theorem qyL_atR1 (l : Launch) : ∀ k e1, qaL_atR1 k = some e1 → am_cal l layR1 RL 4 k e1 ∧ ceT e1 = 0 := q_cons ⟨am_calS (am_CT_mono layX_R1 (qtL_binomial l)) qbL_binomial (by decide) rfl (by decide) (am_tb_at 1048 (by decide +kernel) rfl), rfl⟩ (q_nil)
def qxL_atR1 : CX := (qkL_atR1, layR1, qfL, qaL_atR1, qcL, qlL, qmL, (some .long), false, none, 0, none, fun _ => none)
theorem qzL_atR1 (l : Launch) : am_sta l qxL_atR1 RL 4 cL_at := ⟨qkL_atR1_ok, layR1_ok, qfL_ok, qcL_ok, qlL_ok, am_mthP qmL_ok (by decide), fun k e1 h => (qyL_atR1 l k e1 h).1⟩
def qsL_atR1 : SP := fun as F A K => match as with
  | [.inr (.inr o), .inl n, .inr (.inl i), .inr (.inl m)] => cond (Nat.beq o 25) ((1 ≤ n ∧ n ≤ 3) ∧ (K (some (some (vL (atI (A 25) n i m)))) F A)) (False)
  | _ => False
def qeL_atR1 : CE := (yL_at, cL_at, 12, (some .long), 4, none, 0, none, 0, 4, qsL_atR1)
theorem qbL_atR1 : am_mb qeL_atR1 := ⟨am_tb_at 1047 (by decide +kernel) rfl, am_tb_at 34 (by decide +kernel) rfl, ⟨by decide, by decide, by decide +kernel⟩, by decide, am_tb_at 1046 (by decide +kernel) rfl⟩
set_option maxRecDepth 20000 in
theorem qvL_atR1_25_1 (i m : Int) (F : FF) (A : AA) (K : KK) (h : K (some (some (vL (atI (A 25) 1 i m)))) F A) : am_line qxL_atR1 238 [vR 25, vI 1, vL i, vL m] 12 F A K := by
  show am_stp qxL_atR1 (am_run qxL_atR1 (fun _ => none) (fun _ _ _ _ _ _ => False) K 238) K 0 [some (vR 25), some (vI 1), some (vL i), none, some (vL m), none, none, none, none, none, none, none] [] F A 0
  show (w32 1 < w32 0 → _) ∧ (¬ w32 1 < w32 0 → ((((-2147483648 : Int) ≤ 1 ∧ (1 : Int) < 2147483648) ∧ ((-2147483648 : Int) ≤ 0 ∧ (0 : Int) < 2147483648)) ∧ ((0 ≤ w32 0 ∧ w32 0 < 4) ∧ ((w32 0 < w32 0 → _) ∧ (¬ w32 0 < w32 0 → ((w32 0 < w32 1 → ((w32 1 < w32 1 → _) ∧ (¬ w32 1 < w32 1 → ((w32 1 < w32 1 → _) ∧ (¬ w32 1 < w32 1 → ((((-2147483648 : Int) ≤ 1 ∧ (1 : Int) < 2147483648) ∧ ((-2147483648 : Int) ≤ 1 ∧ (1 : Int) < 2147483648)) ∧ ((0 ≤ w32 1 ∧ w32 1 < 4) ∧ ((w32 0 < w32 1 → ((w32 1 < w32 1 → _) ∧ (¬ w32 1 < w32 1 → ((w32 1 < w32 1 → _) ∧ (¬ w32 1 < w32 1 → ((w32 1 < w32 2 → (K (some (some (vL ((0 + (((biI 1 0) * (A 25 (w32 0))) * (m - i))) + (((biI 1 1) * (A 25 (w32 1))) * i))))) F A)) ∧ (¬ w32 1 < w32 2 → _))))))) ∧ (¬ w32 0 < w32 1 → _))))))))) ∧ (¬ w32 0 < w32 1 → _)))))))
  refine ⟨fun q => absurd q (by decide), fun _ => ?_⟩
  refine ⟨by decide, ?_⟩
  refine ⟨by decide, ?_⟩
  refine ⟨fun q => absurd q (by decide), fun _ => ?_⟩
  refine ⟨fun _ => ?_, fun q => absurd (by decide) q⟩
  refine ⟨fun q => absurd q (by decide), fun _ => ?_⟩
  refine ⟨fun q => absurd q (by decide), fun _ => ?_⟩
  refine ⟨by decide, ?_⟩
  refine ⟨by decide, ?_⟩
  refine ⟨fun _ => ?_, fun q => absurd (by decide) q⟩
  refine ⟨fun q => absurd q (by decide), fun _ => ?_⟩
  refine ⟨fun q => absurd q (by decide), fun _ => ?_⟩
  refine ⟨fun _ => ?_, fun q => absurd (by decide) q⟩
  refine L_eq h ?_
  unfold atI
  rw [if_pos rfl]
  simp only [biI]
  (try simp (disch := decide) only [if_pos, if_neg, w32_id, Int.reduceEq, or_true, true_or, if_true, if_false, or_self, Int.reduceLT])
  grind
set_option maxRecDepth 20000 in
theorem qvL_atR1_25_2 (i m : Int) (F : FF) (A : AA) (K : KK) (h : K (some (some (vL (atI (A 25) 2 i m)))) F A) : am_line qxL_atR1 238 [vR 25, vI 2, vL i, vL m] 12 F A K := by
  show am_stp qxL_atR1 (am_run qxL_atR1 (fun _ => none) (fun _ _ _ _ _ _ => False) K 238) K 0 [some (vR 25), some (vI 2), some (vL i), none, some (vL m), none, none, none, none, none, none, none] [] F A 0
  show (w32 2 < w32 0 → _) ∧ (¬ w32 2 < w32 0 → ((((-2147483648 : Int) ≤ 2 ∧ (2 : Int) < 2147483648) ∧ ((-2147483648 : Int) ≤ 0 ∧ (0 : Int) < 2147483648)) ∧ ((0 ≤ w32 0 ∧ w32 0 < 4) ∧ ((w32 0 < w32 0 → _) ∧ (¬ w32 0 < w32 0 → ((w32 0 < w32 2 → ((w32 1 < w32 2 → ((w32 2 < w32 2 → _) ∧ (¬ w32 2 < w32 2 → ((w32 2 < w32 1 → _) ∧ (¬ w32 2 < w32 1 → ((((-2147483648 : Int) ≤ 2 ∧ (2 : Int) < 2147483648) ∧ ((-2147483648 : Int) ≤ 1 ∧ (1 : Int) < 2147483648)) ∧ ((0 ≤ w32 1 ∧ w32 1 < 4) ∧ ((w32 0 < w32 1 → ((w32 1 < w32 1 → _) ∧ (¬ w32 1 < w32 1 → ((w32 1 < w32 2 → ((w32 2 < w32 2 → _) ∧ (¬ w32 2 < w32 2 → ((w32 2 < w32 2 → _) ∧ (¬ w32 2 < w32 2 → ((((-2147483648 : Int) ≤ 2 ∧ (2 : Int) < 2147483648) ∧ ((-2147483648 : Int) ≤ 2 ∧ (2 : Int) < 2147483648)) ∧ ((0 ≤ w32 2 ∧ w32 2 < 4) ∧ ((w32 0 < w32 2 → ((w32 1 < w32 2 → ((w32 2 < w32 2 → _) ∧ (¬ w32 2 < w32 2 → ((w32 2 < w32 2 → _) ∧ (¬ w32 2 < w32 2 → ((w32 2 < w32 3 → (K (some (some (vL (((0 + ((((biI 2 0) * (A 25 (w32 0))) * (m - i)) * (m - i))) + ((((biI 2 1) * (A 25 (w32 1))) * i) * (m - i))) + ((((biI 2 2) * (A 25 (w32 2))) * i) * i))))) F A)) ∧ (¬ w32 2 < w32 3 → _))))))) ∧ (¬ w32 1 < w32 2 → _))) ∧ (¬ w32 0 < w32 2 → _))))))))) ∧ (¬ w32 1 < w32 2 → _))))) ∧ (¬ w32 0 < w32 1 → _))))))))) ∧ (¬ w32 1 < w32 2 → _))) ∧ (¬ w32 0 < w32 2 → _)))))))
  refine ⟨fun q => absurd q (by decide), fun _ => ?_⟩
  refine ⟨by decide, ?_⟩
  refine ⟨by decide, ?_⟩
  refine ⟨fun q => absurd q (by decide), fun _ => ?_⟩
  refine ⟨fun _ => ?_, fun q => absurd (by decide) q⟩
  refine ⟨fun _ => ?_, fun q => absurd (by decide) q⟩
  refine ⟨fun q => absurd q (by decide), fun _ => ?_⟩
  refine ⟨fun q => absurd q (by decide), fun _ => ?_⟩
  refine ⟨by decide, ?_⟩
  refine ⟨by decide, ?_⟩
  refine ⟨fun _ => ?_, fun q => absurd (by decide) q⟩
  refine ⟨fun q => absurd q (by decide), fun _ => ?_⟩
  refine ⟨fun _ => ?_, fun q => absurd (by decide) q⟩
  refine ⟨fun q => absurd q (by decide), fun _ => ?_⟩
  refine ⟨fun q => absurd q (by decide), fun _ => ?_⟩
  refine ⟨by decide, ?_⟩
  refine ⟨by decide, ?_⟩
  refine ⟨fun _ => ?_, fun q => absurd (by decide) q⟩
  refine ⟨fun _ => ?_, fun q => absurd (by decide) q⟩
  refine ⟨fun q => absurd q (by decide), fun _ => ?_⟩
  refine ⟨fun q => absurd q (by decide), fun _ => ?_⟩
  refine ⟨fun _ => ?_, fun q => absurd (by decide) q⟩
  refine L_eq h ?_
  unfold atI
  rw [if_neg (by decide), if_pos rfl]
  simp only [biI]
  (try simp (disch := decide) only [if_pos, if_neg, w32_id, Int.reduceEq, or_true, true_or, if_true, if_false, or_self, Int.reduceLT])
  grind
set_option maxRecDepth 20000 in
theorem qvL_atR1_25_3 (i m : Int) (F : FF) (A : AA) (K : KK) (h : K (some (some (vL (atI (A 25) 3 i m)))) F A) : am_line qxL_atR1 238 [vR 25, vI 3, vL i, vL m] 12 F A K := by
  show am_stp qxL_atR1 (am_run qxL_atR1 (fun _ => none) (fun _ _ _ _ _ _ => False) K 238) K 0 [some (vR 25), some (vI 3), some (vL i), none, some (vL m), none, none, none, none, none, none, none] [] F A 0
  show (w32 3 < w32 0 → _) ∧ (¬ w32 3 < w32 0 → ((((-2147483648 : Int) ≤ 3 ∧ (3 : Int) < 2147483648) ∧ ((-2147483648 : Int) ≤ 0 ∧ (0 : Int) < 2147483648)) ∧ ((0 ≤ w32 0 ∧ w32 0 < 4) ∧ ((w32 0 < w32 0 → _) ∧ (¬ w32 0 < w32 0 → ((w32 0 < w32 3 → ((w32 1 < w32 3 → ((w32 2 < w32 3 → ((w32 3 < w32 3 → _) ∧ (¬ w32 3 < w32 3 → ((w32 3 < w32 1 → _) ∧ (¬ w32 3 < w32 1 → ((((-2147483648 : Int) ≤ 3 ∧ (3 : Int) < 2147483648) ∧ ((-2147483648 : Int) ≤ 1 ∧ (1 : Int) < 2147483648)) ∧ ((0 ≤ w32 1 ∧ w32 1 < 4) ∧ ((w32 0 < w32 1 → ((w32 1 < w32 1 → _) ∧ (¬ w32 1 < w32 1 → ((w32 1 < w32 3 → ((w32 2 < w32 3 → ((w32 3 < w32 3 → _) ∧ (¬ w32 3 < w32 3 → ((w32 3 < w32 2 → _) ∧ (¬ w32 3 < w32 2 → ((((-2147483648 : Int) ≤ 3 ∧ (3 : Int) < 2147483648) ∧ ((-2147483648 : Int) ≤ 2 ∧ (2 : Int) < 2147483648)) ∧ ((0 ≤ w32 2 ∧ w32 2 < 4) ∧ ((w32 0 < w32 2 → ((w32 1 < w32 2 → ((w32 2 < w32 2 → _) ∧ (¬ w32 2 < w32 2 → ((w32 2 < w32 3 → ((w32 3 < w32 3 → _) ∧ (¬ w32 3 < w32 3 → ((w32 3 < w32 3 → _) ∧ (¬ w32 3 < w32 3 → ((((-2147483648 : Int) ≤ 3 ∧ (3 : Int) < 2147483648) ∧ ((-2147483648 : Int) ≤ 3 ∧ (3 : Int) < 2147483648)) ∧ ((0 ≤ w32 3 ∧ w32 3 < 4) ∧ ((w32 0 < w32 3 → ((w32 1 < w32 3 → ((w32 2 < w32 3 → ((w32 3 < w32 3 → _) ∧ (¬ w32 3 < w32 3 → ((w32 3 < w32 3 → _) ∧ (¬ w32 3 < w32 3 → ((w32 3 < w32 4 → (K (some (some (vL ((((0 + (((((biI 3 0) * (A 25 (w32 0))) * (m - i)) * (m - i)) * (m - i))) + (((((biI 3 1) * (A 25 (w32 1))) * i) * (m - i)) * (m - i))) + (((((biI 3 2) * (A 25 (w32 2))) * i) * i) * (m - i))) + (((((biI 3 3) * (A 25 (w32 3))) * i) * i) * i))))) F A)) ∧ (¬ w32 3 < w32 4 → _))))))) ∧ (¬ w32 2 < w32 3 → _))) ∧ (¬ w32 1 < w32 3 → _))) ∧ (¬ w32 0 < w32 3 → _))))))))) ∧ (¬ w32 2 < w32 3 → _))))) ∧ (¬ w32 1 < w32 2 → _))) ∧ (¬ w32 0 < w32 2 → _))))))))) ∧ (¬ w32 2 < w32 3 → _))) ∧ (¬ w32 1 < w32 3 → _))))) ∧ (¬ w32 0 < w32 1 → _))))))))) ∧ (¬ w32 2 < w32 3 → _))) ∧ (¬ w32 1 < w32 3 → _))) ∧ (¬ w32 0 < w32 3 → _)))))))
  refine ⟨fun q => absurd q (by decide), fun _ => ?_⟩
  refine ⟨by decide, ?_⟩
  refine ⟨by decide, ?_⟩
  refine ⟨fun q => absurd q (by decide), fun _ => ?_⟩
  refine ⟨fun _ => ?_, fun q => absurd (by decide) q⟩
  refine ⟨fun _ => ?_, fun q => absurd (by decide) q⟩
  refine ⟨fun _ => ?_, fun q => absurd (by decide) q⟩
  refine ⟨fun q => absurd q (by decide), fun _ => ?_⟩
  refine ⟨fun q => absurd q (by decide), fun _ => ?_⟩
  refine ⟨by decide, ?_⟩
  refine ⟨by decide, ?_⟩
  refine ⟨fun _ => ?_, fun q => absurd (by decide) q⟩
  refine ⟨fun q => absurd q (by decide), fun _ => ?_⟩
  refine ⟨fun _ => ?_, fun q => absurd (by decide) q⟩
  refine ⟨fun _ => ?_, fun q => absurd (by decide) q⟩
  refine ⟨fun q => absurd q (by decide), fun _ => ?_⟩
  refine ⟨fun q => absurd q (by decide), fun _ => ?_⟩
  refine ⟨by decide, ?_⟩
  refine ⟨by decide, ?_⟩
  refine ⟨fun _ => ?_, fun q => absurd (by decide) q⟩
  refine ⟨fun _ => ?_, fun q => absurd (by decide) q⟩
  refine ⟨fun q => absurd q (by decide), fun _ => ?_⟩
  refine ⟨fun _ => ?_, fun q => absurd (by decide) q⟩
  refine ⟨fun q => absurd q (by decide), fun _ => ?_⟩
  refine ⟨fun q => absurd q (by decide), fun _ => ?_⟩
  refine ⟨by decide, ?_⟩
  refine ⟨by decide, ?_⟩
  refine ⟨fun _ => ?_, fun q => absurd (by decide) q⟩
  refine ⟨fun _ => ?_, fun q => absurd (by decide) q⟩
  refine ⟨fun _ => ?_, fun q => absurd (by decide) q⟩
  refine ⟨fun q => absurd q (by decide), fun _ => ?_⟩
  refine ⟨fun q => absurd q (by decide), fun _ => ?_⟩
  refine ⟨fun _ => ?_, fun q => absurd (by decide) q⟩
  refine L_eq h ?_
  unfold atI
  rw [if_neg (by decide), if_neg (by decide)]
  simp only [biI]
  (try simp (disch := decide) only [if_pos, if_neg, w32_id, Int.reduceEq, or_true, true_or, if_true, if_false, or_self, Int.reduceLT])
  grind
theorem qvL_atR1_25 (n i m : Int) (F : FF) (A : AA) (K : KK) (h : (1 ≤ n ∧ n ≤ 3) ∧ (K (some (some (vL (atI (A 25) n i m)))) F A)) : am_line qxL_atR1 238 [vR 25, vI n, vL i, vL m] 12 F A K := by
  obtain ⟨hp, h⟩ := h
  rcases (show n = 1 ∨ n = 2 ∨ n = 3 by omega) with rfl | rfl | rfl
  · exact qvL_atR1_25_1 i m F A K h
  · exact qvL_atR1_25_2 i m F A K h
  · exact qvL_atR1_25_3 i m F A K h
theorem qtL_atR1 (l : Launch) : am_CT l layR1 qeL_atR1 := am_met0 rfl (by decide +kernel) rfl rfl rfl rfl rfl (fun _ => rfl) rfl (qzL_atR1 l) (fun k e1 h => (qyL_atR1 l k e1 h).2) (fun as F A K h => by
  replace h : qsL_atR1 as F A K := h
  unfold qsL_atR1 at h
  split at h
  · rename_i o n i m
    refine ⟨by first | exact Nat.le_of_ble_eq_true rfl | simp [am_fl, am_cat], ?_⟩
    replace h := am_cond2 h
    rcases h with ⟨hb, h⟩ | h
    · skip
      have hb0 := hb
      have hb0 := am_bq hb0
      subst hb0
      exact am_way_line (qvL_atR1_25 n i m F A K h)
    exact h.elim
  · exact h.elim)
def qkL_atR2 : Nat → Option CI := fun pc => cond (Nat.ble 88 pc) none (cond (Nat.ble 39 pc) (cond (Nat.ble 63 pc) (cond (Nat.ble 76 pc) (cond (Nat.ble 82 pc) (cond (Nat.beq pc 82) (some (.goto (-76), 85, [6])) (cond (Nat.beq pc 85) (some (.lload 6, 87, [])) (cond (Nat.beq pc 87) (some (.lreturn, 88, [])) (none)))) (cond (Nat.beq pc 76) (some (.ladd, 77, [])) (cond (Nat.beq pc 77) (some (.lstore 6, 79, [])) (cond (Nat.beq pc 79) (some (.iinc 8 1, 82, [])) (none))))) (cond (Nat.ble 69 pc) (cond (Nat.beq pc 69) (some (.goto (-18), 72, [51])) (cond (Nat.beq pc 72) (some (.lload 6, 74, [])) (cond (Nat.beq pc 74) (some (.lload 9, 76, [])) (none)))) (cond (Nat.beq pc 63) (some (.lmul, 64, [])) (cond (Nat.beq pc 64) (some (.lstore 9, 66, [])) (cond (Nat.beq pc 66) (some (.iinc 11 1, 69, [])) (none)))))) (cond (Nat.ble 53 pc) (cond (Nat.ble 59 pc) (cond (Nat.beq pc 59) (some (.lload 4, 61, [])) (cond (Nat.beq pc 61) (some (.lload_n 2, 62, [])) (cond (Nat.beq pc 62) (some (.lsub, 63, [])) (none)))) (cond (Nat.beq pc 53) (some (.iload_n 1, 54, [])) (cond (Nat.beq pc 54) (some (.if_icmp .ge 18, 57, [72])) (cond (Nat.beq pc 57) (some (.lload 9, 59, [])) (none))))) (cond (Nat.ble 47 pc) (cond (Nat.beq pc 47) (some (.iload 8, 49, [])) (cond (Nat.beq pc 49) (some (.istore 11, 51, [])) (cond (Nat.beq pc 51) (some (.iload 11, 53, [])) (none)))) (cond (Nat.beq pc 39) (some (.lstore 9, 41, [])) (cond (Nat.beq pc 41) (some (.iinc 11 1, 44, [])) (cond (Nat.beq pc 44) (some (.goto (-16), 47, [28])) (none))))))) (cond (Nat.ble 19 pc) (cond (Nat.ble 28 pc) (cond (Nat.ble 35 pc) (cond (Nat.beq pc 35) (some (.lload 9, 37, [])) (cond (Nat.beq pc 37) (some (.lload_n 2, 38, [])) (cond (Nat.beq pc 38) (some (.lmul, 39, [])) (none)))) (cond (Nat.beq pc 28) (some (.iload 11, 30, [])) (cond (Nat.beq pc 30) (some (.iload 8, 32, [])) (cond (Nat.beq pc 32) (some (.if_icmp .ge 15, 35, [47])) (none))))) (cond (Nat.ble 23 pc) (cond (Nat.beq pc 23) (some (.lstore 9, 25, [])) (cond (Nat.beq pc 25) (some (.iconst 0, 26, [])) (cond (Nat.beq pc 26) (some (.istore 11, 28, [])) (none)))) (cond (Nat.beq pc 19) (some (.iload 8, 21, [])) (cond (Nat.beq pc 21) (some (.laload, 22, [])) (cond (Nat.beq pc 22) (some (.lmul, 23, [])) (none)))))) (cond (Nat.ble 8 pc) (cond (Nat.ble 13 pc) (cond (Nat.beq pc 13) (some (.iload 8, 15, [])) (cond (Nat.beq pc 15) (some (.invokestatic 155, 18, [])) (cond (Nat.beq pc 18) (some (.aload_n 0, 19, [])) (none)))) (cond (Nat.beq pc 8) (some (.iload_n 1, 9, [])) (cond (Nat.beq pc 9) (some (.if_icmp .gt 76, 12, [85])) (cond (Nat.beq pc 12) (some (.iload_n 1, 13, [])) (none))))) (cond (Nat.ble 3 pc) (cond (Nat.beq pc 3) (some (.iconst 0, 4, [])) (cond (Nat.beq pc 4) (some (.istore 8, 6, [])) (cond (Nat.beq pc 6) (some (.iload 8, 8, [])) (none)))) (cond (Nat.beq pc 0) (some (.lconst 0, 1, [])) (cond (Nat.beq pc 1) (some (.lstore 6, 3, [])) (none)))))))
theorem qkL_atR2_ok : ∀ pc i nx ts, qkL_atR2 pc = some (i, nx, ts) → am_cok cL_at pc (i, nx, ts) = true := fun pc i nx ts h => am_tok_ok (n := 88) (by decide +kernel) (fun pc h => by show cond (Nat.ble 88 pc) _ _ = _; rw [Nat.ble_eq_true_of_le h]; rfl) h
def qaL_atR2 : Nat → Option CE := fun k => cond (Nat.beq k 155) (some qeL_binomial) (none)
theorem qyL_atR2 (l : Launch) : ∀ k e1, qaL_atR2 k = some e1 → am_cal l layR2 RL 4 k e1 ∧ ceT e1 = 0 := q_cons ⟨am_calS (am_CT_mono layX_R2 (qtL_binomial l)) qbL_binomial (by decide) rfl (by decide) (am_tb_at 1048 (by decide +kernel) rfl), rfl⟩ (q_nil)
def qxL_atR2 : CX := (qkL_atR2, layR2, qfL, qaL_atR2, qcL, qlL, qmL, (some .long), false, none, 0, none, fun _ => none)
theorem qzL_atR2 (l : Launch) : am_sta l qxL_atR2 RL 4 cL_at := ⟨qkL_atR2_ok, layR2_ok, qfL_ok, qcL_ok, qlL_ok, am_mthP qmL_ok (by decide), fun k e1 h => (qyL_atR2 l k e1 h).1⟩
def qsL_atR2 : SP := fun as F A K => match as with
  | [.inr (.inr o), .inl n, .inr (.inl i), .inr (.inl m)] => cond (Nat.beq o 25) ((1 ≤ n ∧ n ≤ 3) ∧ (K (some (some (vL (atI (A 25) n i m)))) F A)) (cond (Nat.beq o 26) ((1 ≤ n ∧ n ≤ 3) ∧ (K (some (some (vL (atI (A 26) n i m)))) F A)) (False))
  | _ => False
def qeL_atR2 : CE := (yL_at, cL_at, 12, (some .long), 4, none, 0, none, 0, 4, qsL_atR2)
theorem qbL_atR2 : am_mb qeL_atR2 := ⟨am_tb_at 1047 (by decide +kernel) rfl, am_tb_at 34 (by decide +kernel) rfl, ⟨by decide, by decide, by decide +kernel⟩, by decide, am_tb_at 1046 (by decide +kernel) rfl⟩
set_option maxRecDepth 20000 in
theorem qvL_atR2_25_1 (i m : Int) (F : FF) (A : AA) (K : KK) (h : K (some (some (vL (atI (A 25) 1 i m)))) F A) : am_line qxL_atR2 238 [vR 25, vI 1, vL i, vL m] 12 F A K := by
  show am_stp qxL_atR2 (am_run qxL_atR2 (fun _ => none) (fun _ _ _ _ _ _ => False) K 238) K 0 [some (vR 25), some (vI 1), some (vL i), none, some (vL m), none, none, none, none, none, none, none] [] F A 0
  show (w32 1 < w32 0 → _) ∧ (¬ w32 1 < w32 0 → ((((-2147483648 : Int) ≤ 1 ∧ (1 : Int) < 2147483648) ∧ ((-2147483648 : Int) ≤ 0 ∧ (0 : Int) < 2147483648)) ∧ ((0 ≤ w32 0 ∧ w32 0 < 4) ∧ ((w32 0 < w32 0 → _) ∧ (¬ w32 0 < w32 0 → ((w32 0 < w32 1 → ((w32 1 < w32 1 → _) ∧ (¬ w32 1 < w32 1 → ((w32 1 < w32 1 → _) ∧ (¬ w32 1 < w32 1 → ((((-2147483648 : Int) ≤ 1 ∧ (1 : Int) < 2147483648) ∧ ((-2147483648 : Int) ≤ 1 ∧ (1 : Int) < 2147483648)) ∧ ((0 ≤ w32 1 ∧ w32 1 < 4) ∧ ((w32 0 < w32 1 → ((w32 1 < w32 1 → _) ∧ (¬ w32 1 < w32 1 → ((w32 1 < w32 1 → _) ∧ (¬ w32 1 < w32 1 → ((w32 1 < w32 2 → (K (some (some (vL ((0 + (((biI 1 0) * (A 25 (w32 0))) * (m - i))) + (((biI 1 1) * (A 25 (w32 1))) * i))))) F A)) ∧ (¬ w32 1 < w32 2 → _))))))) ∧ (¬ w32 0 < w32 1 → _))))))))) ∧ (¬ w32 0 < w32 1 → _)))))))
  refine ⟨fun q => absurd q (by decide), fun _ => ?_⟩
  refine ⟨by decide, ?_⟩
  refine ⟨by decide, ?_⟩
  refine ⟨fun q => absurd q (by decide), fun _ => ?_⟩
  refine ⟨fun _ => ?_, fun q => absurd (by decide) q⟩
  refine ⟨fun q => absurd q (by decide), fun _ => ?_⟩
  refine ⟨fun q => absurd q (by decide), fun _ => ?_⟩
  refine ⟨by decide, ?_⟩
  refine ⟨by decide, ?_⟩
  refine ⟨fun _ => ?_, fun q => absurd (by decide) q⟩
  refine ⟨fun q => absurd q (by decide), fun _ => ?_⟩
  refine ⟨fun q => absurd q (by decide), fun _ => ?_⟩
  refine ⟨fun _ => ?_, fun q => absurd (by decide) q⟩
  refine L_eq h ?_
  unfold atI
  rw [if_pos rfl]
  simp only [biI]
  (try simp (disch := decide) only [if_pos, if_neg, w32_id, Int.reduceEq, or_true, true_or, if_true, if_false, or_self, Int.reduceLT])
  grind
set_option maxRecDepth 20000 in
theorem qvL_atR2_25_2 (i m : Int) (F : FF) (A : AA) (K : KK) (h : K (some (some (vL (atI (A 25) 2 i m)))) F A) : am_line qxL_atR2 238 [vR 25, vI 2, vL i, vL m] 12 F A K := by
  show am_stp qxL_atR2 (am_run qxL_atR2 (fun _ => none) (fun _ _ _ _ _ _ => False) K 238) K 0 [some (vR 25), some (vI 2), some (vL i), none, some (vL m), none, none, none, none, none, none, none] [] F A 0
  show (w32 2 < w32 0 → _) ∧ (¬ w32 2 < w32 0 → ((((-2147483648 : Int) ≤ 2 ∧ (2 : Int) < 2147483648) ∧ ((-2147483648 : Int) ≤ 0 ∧ (0 : Int) < 2147483648)) ∧ ((0 ≤ w32 0 ∧ w32 0 < 4) ∧ ((w32 0 < w32 0 → _) ∧ (¬ w32 0 < w32 0 → ((w32 0 < w32 2 → ((w32 1 < w32 2 → ((w32 2 < w32 2 → _) ∧ (¬ w32 2 < w32 2 → ((w32 2 < w32 1 → _) ∧ (¬ w32 2 < w32 1 → ((((-2147483648 : Int) ≤ 2 ∧ (2 : Int) < 2147483648) ∧ ((-2147483648 : Int) ≤ 1 ∧ (1 : Int) < 2147483648)) ∧ ((0 ≤ w32 1 ∧ w32 1 < 4) ∧ ((w32 0 < w32 1 → ((w32 1 < w32 1 → _) ∧ (¬ w32 1 < w32 1 → ((w32 1 < w32 2 → ((w32 2 < w32 2 → _) ∧ (¬ w32 2 < w32 2 → ((w32 2 < w32 2 → _) ∧ (¬ w32 2 < w32 2 → ((((-2147483648 : Int) ≤ 2 ∧ (2 : Int) < 2147483648) ∧ ((-2147483648 : Int) ≤ 2 ∧ (2 : Int) < 2147483648)) ∧ ((0 ≤ w32 2 ∧ w32 2 < 4) ∧ ((w32 0 < w32 2 → ((w32 1 < w32 2 → ((w32 2 < w32 2 → _) ∧ (¬ w32 2 < w32 2 → ((w32 2 < w32 2 → _) ∧ (¬ w32 2 < w32 2 → ((w32 2 < w32 3 → (K (some (some (vL (((0 + ((((biI 2 0) * (A 25 (w32 0))) * (m - i)) * (m - i))) + ((((biI 2 1) * (A 25 (w32 1))) * i) * (m - i))) + ((((biI 2 2) * (A 25 (w32 2))) * i) * i))))) F A)) ∧ (¬ w32 2 < w32 3 → _))))))) ∧ (¬ w32 1 < w32 2 → _))) ∧ (¬ w32 0 < w32 2 → _))))))))) ∧ (¬ w32 1 < w32 2 → _))))) ∧ (¬ w32 0 < w32 1 → _))))))))) ∧ (¬ w32 1 < w32 2 → _))) ∧ (¬ w32 0 < w32 2 → _)))))))
  refine ⟨fun q => absurd q (by decide), fun _ => ?_⟩
  refine ⟨by decide, ?_⟩
  refine ⟨by decide, ?_⟩
  refine ⟨fun q => absurd q (by decide), fun _ => ?_⟩
  refine ⟨fun _ => ?_, fun q => absurd (by decide) q⟩
  refine ⟨fun _ => ?_, fun q => absurd (by decide) q⟩
  refine ⟨fun q => absurd q (by decide), fun _ => ?_⟩
  refine ⟨fun q => absurd q (by decide), fun _ => ?_⟩
  refine ⟨by decide, ?_⟩
  refine ⟨by decide, ?_⟩
  refine ⟨fun _ => ?_, fun q => absurd (by decide) q⟩
  refine ⟨fun q => absurd q (by decide), fun _ => ?_⟩
  refine ⟨fun _ => ?_, fun q => absurd (by decide) q⟩
  refine ⟨fun q => absurd q (by decide), fun _ => ?_⟩
  refine ⟨fun q => absurd q (by decide), fun _ => ?_⟩
  refine ⟨by decide, ?_⟩
  refine ⟨by decide, ?_⟩
  refine ⟨fun _ => ?_, fun q => absurd (by decide) q⟩
  refine ⟨fun _ => ?_, fun q => absurd (by decide) q⟩
  refine ⟨fun q => absurd q (by decide), fun _ => ?_⟩
  refine ⟨fun q => absurd q (by decide), fun _ => ?_⟩
  refine ⟨fun _ => ?_, fun q => absurd (by decide) q⟩
  refine L_eq h ?_
  unfold atI
  rw [if_neg (by decide), if_pos rfl]
  simp only [biI]
  (try simp (disch := decide) only [if_pos, if_neg, w32_id, Int.reduceEq, or_true, true_or, if_true, if_false, or_self, Int.reduceLT])
  grind
set_option maxRecDepth 20000 in
theorem qvL_atR2_25_3 (i m : Int) (F : FF) (A : AA) (K : KK) (h : K (some (some (vL (atI (A 25) 3 i m)))) F A) : am_line qxL_atR2 238 [vR 25, vI 3, vL i, vL m] 12 F A K := by
  show am_stp qxL_atR2 (am_run qxL_atR2 (fun _ => none) (fun _ _ _ _ _ _ => False) K 238) K 0 [some (vR 25), some (vI 3), some (vL i), none, some (vL m), none, none, none, none, none, none, none] [] F A 0
  show (w32 3 < w32 0 → _) ∧ (¬ w32 3 < w32 0 → ((((-2147483648 : Int) ≤ 3 ∧ (3 : Int) < 2147483648) ∧ ((-2147483648 : Int) ≤ 0 ∧ (0 : Int) < 2147483648)) ∧ ((0 ≤ w32 0 ∧ w32 0 < 4) ∧ ((w32 0 < w32 0 → _) ∧ (¬ w32 0 < w32 0 → ((w32 0 < w32 3 → ((w32 1 < w32 3 → ((w32 2 < w32 3 → ((w32 3 < w32 3 → _) ∧ (¬ w32 3 < w32 3 → ((w32 3 < w32 1 → _) ∧ (¬ w32 3 < w32 1 → ((((-2147483648 : Int) ≤ 3 ∧ (3 : Int) < 2147483648) ∧ ((-2147483648 : Int) ≤ 1 ∧ (1 : Int) < 2147483648)) ∧ ((0 ≤ w32 1 ∧ w32 1 < 4) ∧ ((w32 0 < w32 1 → ((w32 1 < w32 1 → _) ∧ (¬ w32 1 < w32 1 → ((w32 1 < w32 3 → ((w32 2 < w32 3 → ((w32 3 < w32 3 → _) ∧ (¬ w32 3 < w32 3 → ((w32 3 < w32 2 → _) ∧ (¬ w32 3 < w32 2 → ((((-2147483648 : Int) ≤ 3 ∧ (3 : Int) < 2147483648) ∧ ((-2147483648 : Int) ≤ 2 ∧ (2 : Int) < 2147483648)) ∧ ((0 ≤ w32 2 ∧ w32 2 < 4) ∧ ((w32 0 < w32 2 → ((w32 1 < w32 2 → ((w32 2 < w32 2 → _) ∧ (¬ w32 2 < w32 2 → ((w32 2 < w32 3 → ((w32 3 < w32 3 → _) ∧ (¬ w32 3 < w32 3 → ((w32 3 < w32 3 → _) ∧ (¬ w32 3 < w32 3 → ((((-2147483648 : Int) ≤ 3 ∧ (3 : Int) < 2147483648) ∧ ((-2147483648 : Int) ≤ 3 ∧ (3 : Int) < 2147483648)) ∧ ((0 ≤ w32 3 ∧ w32 3 < 4) ∧ ((w32 0 < w32 3 → ((w32 1 < w32 3 → ((w32 2 < w32 3 → ((w32 3 < w32 3 → _) ∧ (¬ w32 3 < w32 3 → ((w32 3 < w32 3 → _) ∧ (¬ w32 3 < w32 3 → ((w32 3 < w32 4 → (K (some (some (vL ((((0 + (((((biI 3 0) * (A 25 (w32 0))) * (m - i)) * (m - i)) * (m - i))) + (((((biI 3 1) * (A 25 (w32 1))) * i) * (m - i)) * (m - i))) + (((((biI 3 2) * (A 25 (w32 2))) * i) * i) * (m - i))) + (((((biI 3 3) * (A 25 (w32 3))) * i) * i) * i))))) F A)) ∧ (¬ w32 3 < w32 4 → _))))))) ∧ (¬ w32 2 < w32 3 → _))) ∧ (¬ w32 1 < w32 3 → _))) ∧ (¬ w32 0 < w32 3 → _))))))))) ∧ (¬ w32 2 < w32 3 → _))))) ∧ (¬ w32 1 < w32 2 → _))) ∧ (¬ w32 0 < w32 2 → _))))))))) ∧ (¬ w32 2 < w32 3 → _))) ∧ (¬ w32 1 < w32 3 → _))))) ∧ (¬ w32 0 < w32 1 → _))))))))) ∧ (¬ w32 2 < w32 3 → _))) ∧ (¬ w32 1 < w32 3 → _))) ∧ (¬ w32 0 < w32 3 → _)))))))
  refine ⟨fun q => absurd q (by decide), fun _ => ?_⟩
  refine ⟨by decide, ?_⟩
  refine ⟨by decide, ?_⟩
  refine ⟨fun q => absurd q (by decide), fun _ => ?_⟩
  refine ⟨fun _ => ?_, fun q => absurd (by decide) q⟩
  refine ⟨fun _ => ?_, fun q => absurd (by decide) q⟩
  refine ⟨fun _ => ?_, fun q => absurd (by decide) q⟩
  refine ⟨fun q => absurd q (by decide), fun _ => ?_⟩
  refine ⟨fun q => absurd q (by decide), fun _ => ?_⟩
  refine ⟨by decide, ?_⟩
  refine ⟨by decide, ?_⟩
  refine ⟨fun _ => ?_, fun q => absurd (by decide) q⟩
  refine ⟨fun q => absurd q (by decide), fun _ => ?_⟩
  refine ⟨fun _ => ?_, fun q => absurd (by decide) q⟩
  refine ⟨fun _ => ?_, fun q => absurd (by decide) q⟩
  refine ⟨fun q => absurd q (by decide), fun _ => ?_⟩
  refine ⟨fun q => absurd q (by decide), fun _ => ?_⟩
  refine ⟨by decide, ?_⟩
  refine ⟨by decide, ?_⟩
  refine ⟨fun _ => ?_, fun q => absurd (by decide) q⟩
  refine ⟨fun _ => ?_, fun q => absurd (by decide) q⟩
  refine ⟨fun q => absurd q (by decide), fun _ => ?_⟩
  refine ⟨fun _ => ?_, fun q => absurd (by decide) q⟩
  refine ⟨fun q => absurd q (by decide), fun _ => ?_⟩
  refine ⟨fun q => absurd q (by decide), fun _ => ?_⟩
  refine ⟨by decide, ?_⟩
  refine ⟨by decide, ?_⟩
  refine ⟨fun _ => ?_, fun q => absurd (by decide) q⟩
  refine ⟨fun _ => ?_, fun q => absurd (by decide) q⟩
  refine ⟨fun _ => ?_, fun q => absurd (by decide) q⟩
  refine ⟨fun q => absurd q (by decide), fun _ => ?_⟩
  refine ⟨fun q => absurd q (by decide), fun _ => ?_⟩
  refine ⟨fun _ => ?_, fun q => absurd (by decide) q⟩
  refine L_eq h ?_
  unfold atI
  rw [if_neg (by decide), if_neg (by decide)]
  simp only [biI]
  (try simp (disch := decide) only [if_pos, if_neg, w32_id, Int.reduceEq, or_true, true_or, if_true, if_false, or_self, Int.reduceLT])
  grind
theorem qvL_atR2_25 (n i m : Int) (F : FF) (A : AA) (K : KK) (h : (1 ≤ n ∧ n ≤ 3) ∧ (K (some (some (vL (atI (A 25) n i m)))) F A)) : am_line qxL_atR2 238 [vR 25, vI n, vL i, vL m] 12 F A K := by
  obtain ⟨hp, h⟩ := h
  rcases (show n = 1 ∨ n = 2 ∨ n = 3 by omega) with rfl | rfl | rfl
  · exact qvL_atR2_25_1 i m F A K h
  · exact qvL_atR2_25_2 i m F A K h
  · exact qvL_atR2_25_3 i m F A K h
set_option maxRecDepth 20000 in
theorem qvL_atR2_26_1 (i m : Int) (F : FF) (A : AA) (K : KK) (h : K (some (some (vL (atI (A 26) 1 i m)))) F A) : am_line qxL_atR2 238 [vR 26, vI 1, vL i, vL m] 12 F A K := by
  show am_stp qxL_atR2 (am_run qxL_atR2 (fun _ => none) (fun _ _ _ _ _ _ => False) K 238) K 0 [some (vR 26), some (vI 1), some (vL i), none, some (vL m), none, none, none, none, none, none, none] [] F A 0
  show (w32 1 < w32 0 → _) ∧ (¬ w32 1 < w32 0 → ((((-2147483648 : Int) ≤ 1 ∧ (1 : Int) < 2147483648) ∧ ((-2147483648 : Int) ≤ 0 ∧ (0 : Int) < 2147483648)) ∧ ((0 ≤ w32 0 ∧ w32 0 < 4) ∧ ((w32 0 < w32 0 → _) ∧ (¬ w32 0 < w32 0 → ((w32 0 < w32 1 → ((w32 1 < w32 1 → _) ∧ (¬ w32 1 < w32 1 → ((w32 1 < w32 1 → _) ∧ (¬ w32 1 < w32 1 → ((((-2147483648 : Int) ≤ 1 ∧ (1 : Int) < 2147483648) ∧ ((-2147483648 : Int) ≤ 1 ∧ (1 : Int) < 2147483648)) ∧ ((0 ≤ w32 1 ∧ w32 1 < 4) ∧ ((w32 0 < w32 1 → ((w32 1 < w32 1 → _) ∧ (¬ w32 1 < w32 1 → ((w32 1 < w32 1 → _) ∧ (¬ w32 1 < w32 1 → ((w32 1 < w32 2 → (K (some (some (vL ((0 + (((biI 1 0) * (A 26 (w32 0))) * (m - i))) + (((biI 1 1) * (A 26 (w32 1))) * i))))) F A)) ∧ (¬ w32 1 < w32 2 → _))))))) ∧ (¬ w32 0 < w32 1 → _))))))))) ∧ (¬ w32 0 < w32 1 → _)))))))
  refine ⟨fun q => absurd q (by decide), fun _ => ?_⟩
  refine ⟨by decide, ?_⟩
  refine ⟨by decide, ?_⟩
  refine ⟨fun q => absurd q (by decide), fun _ => ?_⟩
  refine ⟨fun _ => ?_, fun q => absurd (by decide) q⟩
  refine ⟨fun q => absurd q (by decide), fun _ => ?_⟩
  refine ⟨fun q => absurd q (by decide), fun _ => ?_⟩
  refine ⟨by decide, ?_⟩
  refine ⟨by decide, ?_⟩
  refine ⟨fun _ => ?_, fun q => absurd (by decide) q⟩
  refine ⟨fun q => absurd q (by decide), fun _ => ?_⟩
  refine ⟨fun q => absurd q (by decide), fun _ => ?_⟩
  refine ⟨fun _ => ?_, fun q => absurd (by decide) q⟩
  refine L_eq h ?_
  unfold atI
  rw [if_pos rfl]
  simp only [biI]
  (try simp (disch := decide) only [if_pos, if_neg, w32_id, Int.reduceEq, or_true, true_or, if_true, if_false, or_self, Int.reduceLT])
  grind
set_option maxRecDepth 20000 in
theorem qvL_atR2_26_2 (i m : Int) (F : FF) (A : AA) (K : KK) (h : K (some (some (vL (atI (A 26) 2 i m)))) F A) : am_line qxL_atR2 238 [vR 26, vI 2, vL i, vL m] 12 F A K := by
  show am_stp qxL_atR2 (am_run qxL_atR2 (fun _ => none) (fun _ _ _ _ _ _ => False) K 238) K 0 [some (vR 26), some (vI 2), some (vL i), none, some (vL m), none, none, none, none, none, none, none] [] F A 0
  show (w32 2 < w32 0 → _) ∧ (¬ w32 2 < w32 0 → ((((-2147483648 : Int) ≤ 2 ∧ (2 : Int) < 2147483648) ∧ ((-2147483648 : Int) ≤ 0 ∧ (0 : Int) < 2147483648)) ∧ ((0 ≤ w32 0 ∧ w32 0 < 4) ∧ ((w32 0 < w32 0 → _) ∧ (¬ w32 0 < w32 0 → ((w32 0 < w32 2 → ((w32 1 < w32 2 → ((w32 2 < w32 2 → _) ∧ (¬ w32 2 < w32 2 → ((w32 2 < w32 1 → _) ∧ (¬ w32 2 < w32 1 → ((((-2147483648 : Int) ≤ 2 ∧ (2 : Int) < 2147483648) ∧ ((-2147483648 : Int) ≤ 1 ∧ (1 : Int) < 2147483648)) ∧ ((0 ≤ w32 1 ∧ w32 1 < 4) ∧ ((w32 0 < w32 1 → ((w32 1 < w32 1 → _) ∧ (¬ w32 1 < w32 1 → ((w32 1 < w32 2 → ((w32 2 < w32 2 → _) ∧ (¬ w32 2 < w32 2 → ((w32 2 < w32 2 → _) ∧ (¬ w32 2 < w32 2 → ((((-2147483648 : Int) ≤ 2 ∧ (2 : Int) < 2147483648) ∧ ((-2147483648 : Int) ≤ 2 ∧ (2 : Int) < 2147483648)) ∧ ((0 ≤ w32 2 ∧ w32 2 < 4) ∧ ((w32 0 < w32 2 → ((w32 1 < w32 2 → ((w32 2 < w32 2 → _) ∧ (¬ w32 2 < w32 2 → ((w32 2 < w32 2 → _) ∧ (¬ w32 2 < w32 2 → ((w32 2 < w32 3 → (K (some (some (vL (((0 + ((((biI 2 0) * (A 26 (w32 0))) * (m - i)) * (m - i))) + ((((biI 2 1) * (A 26 (w32 1))) * i) * (m - i))) + ((((biI 2 2) * (A 26 (w32 2))) * i) * i))))) F A)) ∧ (¬ w32 2 < w32 3 → _))))))) ∧ (¬ w32 1 < w32 2 → _))) ∧ (¬ w32 0 < w32 2 → _))))))))) ∧ (¬ w32 1 < w32 2 → _))))) ∧ (¬ w32 0 < w32 1 → _))))))))) ∧ (¬ w32 1 < w32 2 → _))) ∧ (¬ w32 0 < w32 2 → _)))))))
  refine ⟨fun q => absurd q (by decide), fun _ => ?_⟩
  refine ⟨by decide, ?_⟩
  refine ⟨by decide, ?_⟩
  refine ⟨fun q => absurd q (by decide), fun _ => ?_⟩
  refine ⟨fun _ => ?_, fun q => absurd (by decide) q⟩
  refine ⟨fun _ => ?_, fun q => absurd (by decide) q⟩
  refine ⟨fun q => absurd q (by decide), fun _ => ?_⟩
  refine ⟨fun q => absurd q (by decide), fun _ => ?_⟩
  refine ⟨by decide, ?_⟩
  refine ⟨by decide, ?_⟩
  refine ⟨fun _ => ?_, fun q => absurd (by decide) q⟩
  refine ⟨fun q => absurd q (by decide), fun _ => ?_⟩
  refine ⟨fun _ => ?_, fun q => absurd (by decide) q⟩
  refine ⟨fun q => absurd q (by decide), fun _ => ?_⟩
  refine ⟨fun q => absurd q (by decide), fun _ => ?_⟩
  refine ⟨by decide, ?_⟩
  refine ⟨by decide, ?_⟩
  refine ⟨fun _ => ?_, fun q => absurd (by decide) q⟩
  refine ⟨fun _ => ?_, fun q => absurd (by decide) q⟩
  refine ⟨fun q => absurd q (by decide), fun _ => ?_⟩
  refine ⟨fun q => absurd q (by decide), fun _ => ?_⟩
  refine ⟨fun _ => ?_, fun q => absurd (by decide) q⟩
  refine L_eq h ?_
  unfold atI
  rw [if_neg (by decide), if_pos rfl]
  simp only [biI]
  (try simp (disch := decide) only [if_pos, if_neg, w32_id, Int.reduceEq, or_true, true_or, if_true, if_false, or_self, Int.reduceLT])
  grind
set_option maxRecDepth 20000 in
theorem qvL_atR2_26_3 (i m : Int) (F : FF) (A : AA) (K : KK) (h : K (some (some (vL (atI (A 26) 3 i m)))) F A) : am_line qxL_atR2 238 [vR 26, vI 3, vL i, vL m] 12 F A K := by
  show am_stp qxL_atR2 (am_run qxL_atR2 (fun _ => none) (fun _ _ _ _ _ _ => False) K 238) K 0 [some (vR 26), some (vI 3), some (vL i), none, some (vL m), none, none, none, none, none, none, none] [] F A 0
  show (w32 3 < w32 0 → _) ∧ (¬ w32 3 < w32 0 → ((((-2147483648 : Int) ≤ 3 ∧ (3 : Int) < 2147483648) ∧ ((-2147483648 : Int) ≤ 0 ∧ (0 : Int) < 2147483648)) ∧ ((0 ≤ w32 0 ∧ w32 0 < 4) ∧ ((w32 0 < w32 0 → _) ∧ (¬ w32 0 < w32 0 → ((w32 0 < w32 3 → ((w32 1 < w32 3 → ((w32 2 < w32 3 → ((w32 3 < w32 3 → _) ∧ (¬ w32 3 < w32 3 → ((w32 3 < w32 1 → _) ∧ (¬ w32 3 < w32 1 → ((((-2147483648 : Int) ≤ 3 ∧ (3 : Int) < 2147483648) ∧ ((-2147483648 : Int) ≤ 1 ∧ (1 : Int) < 2147483648)) ∧ ((0 ≤ w32 1 ∧ w32 1 < 4) ∧ ((w32 0 < w32 1 → ((w32 1 < w32 1 → _) ∧ (¬ w32 1 < w32 1 → ((w32 1 < w32 3 → ((w32 2 < w32 3 → ((w32 3 < w32 3 → _) ∧ (¬ w32 3 < w32 3 → ((w32 3 < w32 2 → _) ∧ (¬ w32 3 < w32 2 → ((((-2147483648 : Int) ≤ 3 ∧ (3 : Int) < 2147483648) ∧ ((-2147483648 : Int) ≤ 2 ∧ (2 : Int) < 2147483648)) ∧ ((0 ≤ w32 2 ∧ w32 2 < 4) ∧ ((w32 0 < w32 2 → ((w32 1 < w32 2 → ((w32 2 < w32 2 → _) ∧ (¬ w32 2 < w32 2 → ((w32 2 < w32 3 → ((w32 3 < w32 3 → _) ∧ (¬ w32 3 < w32 3 → ((w32 3 < w32 3 → _) ∧ (¬ w32 3 < w32 3 → ((((-2147483648 : Int) ≤ 3 ∧ (3 : Int) < 2147483648) ∧ ((-2147483648 : Int) ≤ 3 ∧ (3 : Int) < 2147483648)) ∧ ((0 ≤ w32 3 ∧ w32 3 < 4) ∧ ((w32 0 < w32 3 → ((w32 1 < w32 3 → ((w32 2 < w32 3 → ((w32 3 < w32 3 → _) ∧ (¬ w32 3 < w32 3 → ((w32 3 < w32 3 → _) ∧ (¬ w32 3 < w32 3 → ((w32 3 < w32 4 → (K (some (some (vL ((((0 + (((((biI 3 0) * (A 26 (w32 0))) * (m - i)) * (m - i)) * (m - i))) + (((((biI 3 1) * (A 26 (w32 1))) * i) * (m - i)) * (m - i))) + (((((biI 3 2) * (A 26 (w32 2))) * i) * i) * (m - i))) + (((((biI 3 3) * (A 26 (w32 3))) * i) * i) * i))))) F A)) ∧ (¬ w32 3 < w32 4 → _))))))) ∧ (¬ w32 2 < w32 3 → _))) ∧ (¬ w32 1 < w32 3 → _))) ∧ (¬ w32 0 < w32 3 → _))))))))) ∧ (¬ w32 2 < w32 3 → _))))) ∧ (¬ w32 1 < w32 2 → _))) ∧ (¬ w32 0 < w32 2 → _))))))))) ∧ (¬ w32 2 < w32 3 → _))) ∧ (¬ w32 1 < w32 3 → _))))) ∧ (¬ w32 0 < w32 1 → _))))))))) ∧ (¬ w32 2 < w32 3 → _))) ∧ (¬ w32 1 < w32 3 → _))) ∧ (¬ w32 0 < w32 3 → _)))))))
  refine ⟨fun q => absurd q (by decide), fun _ => ?_⟩
  refine ⟨by decide, ?_⟩
  refine ⟨by decide, ?_⟩
  refine ⟨fun q => absurd q (by decide), fun _ => ?_⟩
  refine ⟨fun _ => ?_, fun q => absurd (by decide) q⟩
  refine ⟨fun _ => ?_, fun q => absurd (by decide) q⟩
  refine ⟨fun _ => ?_, fun q => absurd (by decide) q⟩
  refine ⟨fun q => absurd q (by decide), fun _ => ?_⟩
  refine ⟨fun q => absurd q (by decide), fun _ => ?_⟩
  refine ⟨by decide, ?_⟩
  refine ⟨by decide, ?_⟩
  refine ⟨fun _ => ?_, fun q => absurd (by decide) q⟩
  refine ⟨fun q => absurd q (by decide), fun _ => ?_⟩
  refine ⟨fun _ => ?_, fun q => absurd (by decide) q⟩
  refine ⟨fun _ => ?_, fun q => absurd (by decide) q⟩
  refine ⟨fun q => absurd q (by decide), fun _ => ?_⟩
  refine ⟨fun q => absurd q (by decide), fun _ => ?_⟩
  refine ⟨by decide, ?_⟩
  refine ⟨by decide, ?_⟩
  refine ⟨fun _ => ?_, fun q => absurd (by decide) q⟩
  refine ⟨fun _ => ?_, fun q => absurd (by decide) q⟩
  refine ⟨fun q => absurd q (by decide), fun _ => ?_⟩
  refine ⟨fun _ => ?_, fun q => absurd (by decide) q⟩
  refine ⟨fun q => absurd q (by decide), fun _ => ?_⟩
  refine ⟨fun q => absurd q (by decide), fun _ => ?_⟩
  refine ⟨by decide, ?_⟩
  refine ⟨by decide, ?_⟩
  refine ⟨fun _ => ?_, fun q => absurd (by decide) q⟩
  refine ⟨fun _ => ?_, fun q => absurd (by decide) q⟩
  refine ⟨fun _ => ?_, fun q => absurd (by decide) q⟩
  refine ⟨fun q => absurd q (by decide), fun _ => ?_⟩
  refine ⟨fun q => absurd q (by decide), fun _ => ?_⟩
  refine ⟨fun _ => ?_, fun q => absurd (by decide) q⟩
  refine L_eq h ?_
  unfold atI
  rw [if_neg (by decide), if_neg (by decide)]
  simp only [biI]
  (try simp (disch := decide) only [if_pos, if_neg, w32_id, Int.reduceEq, or_true, true_or, if_true, if_false, or_self, Int.reduceLT])
  grind
theorem qvL_atR2_26 (n i m : Int) (F : FF) (A : AA) (K : KK) (h : (1 ≤ n ∧ n ≤ 3) ∧ (K (some (some (vL (atI (A 26) n i m)))) F A)) : am_line qxL_atR2 238 [vR 26, vI n, vL i, vL m] 12 F A K := by
  obtain ⟨hp, h⟩ := h
  rcases (show n = 1 ∨ n = 2 ∨ n = 3 by omega) with rfl | rfl | rfl
  · exact qvL_atR2_26_1 i m F A K h
  · exact qvL_atR2_26_2 i m F A K h
  · exact qvL_atR2_26_3 i m F A K h
theorem qtL_atR2 (l : Launch) : am_CT l layR2 qeL_atR2 := am_met0 rfl (by decide +kernel) rfl rfl rfl rfl rfl (fun _ => rfl) rfl (qzL_atR2 l) (fun k e1 h => (qyL_atR2 l k e1 h).2) (fun as F A K h => by
  replace h : qsL_atR2 as F A K := h
  unfold qsL_atR2 at h
  split at h
  · rename_i o n i m
    refine ⟨by first | exact Nat.le_of_ble_eq_true rfl | simp [am_fl, am_cat], ?_⟩
    replace h := am_cond2 h
    rcases h with ⟨hb, h⟩ | h
    · skip
      have hb0 := hb
      have hb0 := am_bq hb0
      subst hb0
      exact am_way_line (qvL_atR2_25 n i m F A K h)
    replace h := am_cond2 h
    rcases h with ⟨hb, h⟩ | h
    · skip
      have hb0 := hb
      have hb0 := am_bq hb0
      subst hb0
      exact am_way_line (qvL_atR2_26 n i m F A K h)
    exact h.elim
  · exact h.elim)
def qkL_atR3 : Nat → Option CI := fun pc => cond (Nat.ble 88 pc) none (cond (Nat.ble 39 pc) (cond (Nat.ble 63 pc) (cond (Nat.ble 76 pc) (cond (Nat.ble 82 pc) (cond (Nat.beq pc 82) (some (.goto (-76), 85, [6])) (cond (Nat.beq pc 85) (some (.lload 6, 87, [])) (cond (Nat.beq pc 87) (some (.lreturn, 88, [])) (none)))) (cond (Nat.beq pc 76) (some (.ladd, 77, [])) (cond (Nat.beq pc 77) (some (.lstore 6, 79, [])) (cond (Nat.beq pc 79) (some (.iinc 8 1, 82, [])) (none))))) (cond (Nat.ble 69 pc) (cond (Nat.beq pc 69) (some (.goto (-18), 72, [51])) (cond (Nat.beq pc 72) (some (.lload 6, 74, [])) (cond (Nat.beq pc 74) (some (.lload 9, 76, [])) (none)))) (cond (Nat.beq pc 63) (some (.lmul, 64, [])) (cond (Nat.beq pc 64) (some (.lstore 9, 66, [])) (cond (Nat.beq pc 66) (some (.iinc 11 1, 69, [])) (none)))))) (cond (Nat.ble 53 pc) (cond (Nat.ble 59 pc) (cond (Nat.beq pc 59) (some (.lload 4, 61, [])) (cond (Nat.beq pc 61) (some (.lload_n 2, 62, [])) (cond (Nat.beq pc 62) (some (.lsub, 63, [])) (none)))) (cond (Nat.beq pc 53) (some (.iload_n 1, 54, [])) (cond (Nat.beq pc 54) (some (.if_icmp .ge 18, 57, [72])) (cond (Nat.beq pc 57) (some (.lload 9, 59, [])) (none))))) (cond (Nat.ble 47 pc) (cond (Nat.beq pc 47) (some (.iload 8, 49, [])) (cond (Nat.beq pc 49) (some (.istore 11, 51, [])) (cond (Nat.beq pc 51) (some (.iload 11, 53, [])) (none)))) (cond (Nat.beq pc 39) (some (.lstore 9, 41, [])) (cond (Nat.beq pc 41) (some (.iinc 11 1, 44, [])) (cond (Nat.beq pc 44) (some (.goto (-16), 47, [28])) (none))))))) (cond (Nat.ble 19 pc) (cond (Nat.ble 28 pc) (cond (Nat.ble 35 pc) (cond (Nat.beq pc 35) (some (.lload 9, 37, [])) (cond (Nat.beq pc 37) (some (.lload_n 2, 38, [])) (cond (Nat.beq pc 38) (some (.lmul, 39, [])) (none)))) (cond (Nat.beq pc 28) (some (.iload 11, 30, [])) (cond (Nat.beq pc 30) (some (.iload 8, 32, [])) (cond (Nat.beq pc 32) (some (.if_icmp .ge 15, 35, [47])) (none))))) (cond (Nat.ble 23 pc) (cond (Nat.beq pc 23) (some (.lstore 9, 25, [])) (cond (Nat.beq pc 25) (some (.iconst 0, 26, [])) (cond (Nat.beq pc 26) (some (.istore 11, 28, [])) (none)))) (cond (Nat.beq pc 19) (some (.iload 8, 21, [])) (cond (Nat.beq pc 21) (some (.laload, 22, [])) (cond (Nat.beq pc 22) (some (.lmul, 23, [])) (none)))))) (cond (Nat.ble 8 pc) (cond (Nat.ble 13 pc) (cond (Nat.beq pc 13) (some (.iload 8, 15, [])) (cond (Nat.beq pc 15) (some (.invokestatic 155, 18, [])) (cond (Nat.beq pc 18) (some (.aload_n 0, 19, [])) (none)))) (cond (Nat.beq pc 8) (some (.iload_n 1, 9, [])) (cond (Nat.beq pc 9) (some (.if_icmp .gt 76, 12, [85])) (cond (Nat.beq pc 12) (some (.iload_n 1, 13, [])) (none))))) (cond (Nat.ble 3 pc) (cond (Nat.beq pc 3) (some (.iconst 0, 4, [])) (cond (Nat.beq pc 4) (some (.istore 8, 6, [])) (cond (Nat.beq pc 6) (some (.iload 8, 8, [])) (none)))) (cond (Nat.beq pc 0) (some (.lconst 0, 1, [])) (cond (Nat.beq pc 1) (some (.lstore 6, 3, [])) (none)))))))
theorem qkL_atR3_ok : ∀ pc i nx ts, qkL_atR3 pc = some (i, nx, ts) → am_cok cL_at pc (i, nx, ts) = true := fun pc i nx ts h => am_tok_ok (n := 88) (by decide +kernel) (fun pc h => by show cond (Nat.ble 88 pc) _ _ = _; rw [Nat.ble_eq_true_of_le h]; rfl) h
def qaL_atR3 : Nat → Option CE := fun k => cond (Nat.beq k 155) (some qeL_binomial) (none)
theorem qyL_atR3 (l : Launch) : ∀ k e1, qaL_atR3 k = some e1 → am_cal l layR3 RL 4 k e1 ∧ ceT e1 = 0 := q_cons ⟨am_calS (am_CT_mono layX_R3 (qtL_binomial l)) qbL_binomial (by decide) rfl (by decide) (am_tb_at 1048 (by decide +kernel) rfl), rfl⟩ (q_nil)
def qxL_atR3 : CX := (qkL_atR3, layR3, qfL, qaL_atR3, qcL, qlL, qmL, (some .long), false, none, 0, none, fun _ => none)
theorem qzL_atR3 (l : Launch) : am_sta l qxL_atR3 RL 4 cL_at := ⟨qkL_atR3_ok, layR3_ok, qfL_ok, qcL_ok, qlL_ok, am_mthP qmL_ok (by decide), fun k e1 h => (qyL_atR3 l k e1 h).1⟩
def qsL_atR3 : SP := fun as F A K => match as with
  | [.inr (.inr o), .inl n, .inr (.inl i), .inr (.inl m)] => cond (Nat.beq o 27) ((1 ≤ n ∧ n ≤ 3) ∧ (K (some (some (vL (atI (A 27) n i m)))) F A)) (False)
  | _ => False
def qeL_atR3 : CE := (yL_at, cL_at, 12, (some .long), 4, none, 0, none, 0, 4, qsL_atR3)
theorem qbL_atR3 : am_mb qeL_atR3 := ⟨am_tb_at 1047 (by decide +kernel) rfl, am_tb_at 34 (by decide +kernel) rfl, ⟨by decide, by decide, by decide +kernel⟩, by decide, am_tb_at 1046 (by decide +kernel) rfl⟩
set_option maxRecDepth 20000 in
theorem qvL_atR3_27_1 (i m : Int) (F : FF) (A : AA) (K : KK) (h : K (some (some (vL (atI (A 27) 1 i m)))) F A) : am_line qxL_atR3 238 [vR 27, vI 1, vL i, vL m] 12 F A K := by
  show am_stp qxL_atR3 (am_run qxL_atR3 (fun _ => none) (fun _ _ _ _ _ _ => False) K 238) K 0 [some (vR 27), some (vI 1), some (vL i), none, some (vL m), none, none, none, none, none, none, none] [] F A 0
  show (w32 1 < w32 0 → _) ∧ (¬ w32 1 < w32 0 → ((((-2147483648 : Int) ≤ 1 ∧ (1 : Int) < 2147483648) ∧ ((-2147483648 : Int) ≤ 0 ∧ (0 : Int) < 2147483648)) ∧ ((0 ≤ w32 0 ∧ w32 0 < 4) ∧ ((w32 0 < w32 0 → _) ∧ (¬ w32 0 < w32 0 → ((w32 0 < w32 1 → ((w32 1 < w32 1 → _) ∧ (¬ w32 1 < w32 1 → ((w32 1 < w32 1 → _) ∧ (¬ w32 1 < w32 1 → ((((-2147483648 : Int) ≤ 1 ∧ (1 : Int) < 2147483648) ∧ ((-2147483648 : Int) ≤ 1 ∧ (1 : Int) < 2147483648)) ∧ ((0 ≤ w32 1 ∧ w32 1 < 4) ∧ ((w32 0 < w32 1 → ((w32 1 < w32 1 → _) ∧ (¬ w32 1 < w32 1 → ((w32 1 < w32 1 → _) ∧ (¬ w32 1 < w32 1 → ((w32 1 < w32 2 → (K (some (some (vL ((0 + (((biI 1 0) * (A 27 (w32 0))) * (m - i))) + (((biI 1 1) * (A 27 (w32 1))) * i))))) F A)) ∧ (¬ w32 1 < w32 2 → _))))))) ∧ (¬ w32 0 < w32 1 → _))))))))) ∧ (¬ w32 0 < w32 1 → _)))))))
  refine ⟨fun q => absurd q (by decide), fun _ => ?_⟩
  refine ⟨by decide, ?_⟩
  refine ⟨by decide, ?_⟩
  refine ⟨fun q => absurd q (by decide), fun _ => ?_⟩
  refine ⟨fun _ => ?_, fun q => absurd (by decide) q⟩
  refine ⟨fun q => absurd q (by decide), fun _ => ?_⟩
  refine ⟨fun q => absurd q (by decide), fun _ => ?_⟩
  refine ⟨by decide, ?_⟩
  refine ⟨by decide, ?_⟩
  refine ⟨fun _ => ?_, fun q => absurd (by decide) q⟩
  refine ⟨fun q => absurd q (by decide), fun _ => ?_⟩
  refine ⟨fun q => absurd q (by decide), fun _ => ?_⟩
  refine ⟨fun _ => ?_, fun q => absurd (by decide) q⟩
  refine L_eq h ?_
  unfold atI
  rw [if_pos rfl]
  simp only [biI]
  (try simp (disch := decide) only [if_pos, if_neg, w32_id, Int.reduceEq, or_true, true_or, if_true, if_false, or_self, Int.reduceLT])
  grind
set_option maxRecDepth 20000 in
theorem qvL_atR3_27_2 (i m : Int) (F : FF) (A : AA) (K : KK) (h : K (some (some (vL (atI (A 27) 2 i m)))) F A) : am_line qxL_atR3 238 [vR 27, vI 2, vL i, vL m] 12 F A K := by
  show am_stp qxL_atR3 (am_run qxL_atR3 (fun _ => none) (fun _ _ _ _ _ _ => False) K 238) K 0 [some (vR 27), some (vI 2), some (vL i), none, some (vL m), none, none, none, none, none, none, none] [] F A 0
  show (w32 2 < w32 0 → _) ∧ (¬ w32 2 < w32 0 → ((((-2147483648 : Int) ≤ 2 ∧ (2 : Int) < 2147483648) ∧ ((-2147483648 : Int) ≤ 0 ∧ (0 : Int) < 2147483648)) ∧ ((0 ≤ w32 0 ∧ w32 0 < 4) ∧ ((w32 0 < w32 0 → _) ∧ (¬ w32 0 < w32 0 → ((w32 0 < w32 2 → ((w32 1 < w32 2 → ((w32 2 < w32 2 → _) ∧ (¬ w32 2 < w32 2 → ((w32 2 < w32 1 → _) ∧ (¬ w32 2 < w32 1 → ((((-2147483648 : Int) ≤ 2 ∧ (2 : Int) < 2147483648) ∧ ((-2147483648 : Int) ≤ 1 ∧ (1 : Int) < 2147483648)) ∧ ((0 ≤ w32 1 ∧ w32 1 < 4) ∧ ((w32 0 < w32 1 → ((w32 1 < w32 1 → _) ∧ (¬ w32 1 < w32 1 → ((w32 1 < w32 2 → ((w32 2 < w32 2 → _) ∧ (¬ w32 2 < w32 2 → ((w32 2 < w32 2 → _) ∧ (¬ w32 2 < w32 2 → ((((-2147483648 : Int) ≤ 2 ∧ (2 : Int) < 2147483648) ∧ ((-2147483648 : Int) ≤ 2 ∧ (2 : Int) < 2147483648)) ∧ ((0 ≤ w32 2 ∧ w32 2 < 4) ∧ ((w32 0 < w32 2 → ((w32 1 < w32 2 → ((w32 2 < w32 2 → _) ∧ (¬ w32 2 < w32 2 → ((w32 2 < w32 2 → _) ∧ (¬ w32 2 < w32 2 → ((w32 2 < w32 3 → (K (some (some (vL (((0 + ((((biI 2 0) * (A 27 (w32 0))) * (m - i)) * (m - i))) + ((((biI 2 1) * (A 27 (w32 1))) * i) * (m - i))) + ((((biI 2 2) * (A 27 (w32 2))) * i) * i))))) F A)) ∧ (¬ w32 2 < w32 3 → _))))))) ∧ (¬ w32 1 < w32 2 → _))) ∧ (¬ w32 0 < w32 2 → _))))))))) ∧ (¬ w32 1 < w32 2 → _))))) ∧ (¬ w32 0 < w32 1 → _))))))))) ∧ (¬ w32 1 < w32 2 → _))) ∧ (¬ w32 0 < w32 2 → _)))))))
  refine ⟨fun q => absurd q (by decide), fun _ => ?_⟩
  refine ⟨by decide, ?_⟩
  refine ⟨by decide, ?_⟩
  refine ⟨fun q => absurd q (by decide), fun _ => ?_⟩
  refine ⟨fun _ => ?_, fun q => absurd (by decide) q⟩
  refine ⟨fun _ => ?_, fun q => absurd (by decide) q⟩
  refine ⟨fun q => absurd q (by decide), fun _ => ?_⟩
  refine ⟨fun q => absurd q (by decide), fun _ => ?_⟩
  refine ⟨by decide, ?_⟩
  refine ⟨by decide, ?_⟩
  refine ⟨fun _ => ?_, fun q => absurd (by decide) q⟩
  refine ⟨fun q => absurd q (by decide), fun _ => ?_⟩
  refine ⟨fun _ => ?_, fun q => absurd (by decide) q⟩
  refine ⟨fun q => absurd q (by decide), fun _ => ?_⟩
  refine ⟨fun q => absurd q (by decide), fun _ => ?_⟩
  refine ⟨by decide, ?_⟩
  refine ⟨by decide, ?_⟩
  refine ⟨fun _ => ?_, fun q => absurd (by decide) q⟩
  refine ⟨fun _ => ?_, fun q => absurd (by decide) q⟩
  refine ⟨fun q => absurd q (by decide), fun _ => ?_⟩
  refine ⟨fun q => absurd q (by decide), fun _ => ?_⟩
  refine ⟨fun _ => ?_, fun q => absurd (by decide) q⟩
  refine L_eq h ?_
  unfold atI
  rw [if_neg (by decide), if_pos rfl]
  simp only [biI]
  (try simp (disch := decide) only [if_pos, if_neg, w32_id, Int.reduceEq, or_true, true_or, if_true, if_false, or_self, Int.reduceLT])
  grind
set_option maxRecDepth 20000 in
theorem qvL_atR3_27_3 (i m : Int) (F : FF) (A : AA) (K : KK) (h : K (some (some (vL (atI (A 27) 3 i m)))) F A) : am_line qxL_atR3 238 [vR 27, vI 3, vL i, vL m] 12 F A K := by
  show am_stp qxL_atR3 (am_run qxL_atR3 (fun _ => none) (fun _ _ _ _ _ _ => False) K 238) K 0 [some (vR 27), some (vI 3), some (vL i), none, some (vL m), none, none, none, none, none, none, none] [] F A 0
  show (w32 3 < w32 0 → _) ∧ (¬ w32 3 < w32 0 → ((((-2147483648 : Int) ≤ 3 ∧ (3 : Int) < 2147483648) ∧ ((-2147483648 : Int) ≤ 0 ∧ (0 : Int) < 2147483648)) ∧ ((0 ≤ w32 0 ∧ w32 0 < 4) ∧ ((w32 0 < w32 0 → _) ∧ (¬ w32 0 < w32 0 → ((w32 0 < w32 3 → ((w32 1 < w32 3 → ((w32 2 < w32 3 → ((w32 3 < w32 3 → _) ∧ (¬ w32 3 < w32 3 → ((w32 3 < w32 1 → _) ∧ (¬ w32 3 < w32 1 → ((((-2147483648 : Int) ≤ 3 ∧ (3 : Int) < 2147483648) ∧ ((-2147483648 : Int) ≤ 1 ∧ (1 : Int) < 2147483648)) ∧ ((0 ≤ w32 1 ∧ w32 1 < 4) ∧ ((w32 0 < w32 1 → ((w32 1 < w32 1 → _) ∧ (¬ w32 1 < w32 1 → ((w32 1 < w32 3 → ((w32 2 < w32 3 → ((w32 3 < w32 3 → _) ∧ (¬ w32 3 < w32 3 → ((w32 3 < w32 2 → _) ∧ (¬ w32 3 < w32 2 → ((((-2147483648 : Int) ≤ 3 ∧ (3 : Int) < 2147483648) ∧ ((-2147483648 : Int) ≤ 2 ∧ (2 : Int) < 2147483648)) ∧ ((0 ≤ w32 2 ∧ w32 2 < 4) ∧ ((w32 0 < w32 2 → ((w32 1 < w32 2 → ((w32 2 < w32 2 → _) ∧ (¬ w32 2 < w32 2 → ((w32 2 < w32 3 → ((w32 3 < w32 3 → _) ∧ (¬ w32 3 < w32 3 → ((w32 3 < w32 3 → _) ∧ (¬ w32 3 < w32 3 → ((((-2147483648 : Int) ≤ 3 ∧ (3 : Int) < 2147483648) ∧ ((-2147483648 : Int) ≤ 3 ∧ (3 : Int) < 2147483648)) ∧ ((0 ≤ w32 3 ∧ w32 3 < 4) ∧ ((w32 0 < w32 3 → ((w32 1 < w32 3 → ((w32 2 < w32 3 → ((w32 3 < w32 3 → _) ∧ (¬ w32 3 < w32 3 → ((w32 3 < w32 3 → _) ∧ (¬ w32 3 < w32 3 → ((w32 3 < w32 4 → (K (some (some (vL ((((0 + (((((biI 3 0) * (A 27 (w32 0))) * (m - i)) * (m - i)) * (m - i))) + (((((biI 3 1) * (A 27 (w32 1))) * i) * (m - i)) * (m - i))) + (((((biI 3 2) * (A 27 (w32 2))) * i) * i) * (m - i))) + (((((biI 3 3) * (A 27 (w32 3))) * i) * i) * i))))) F A)) ∧ (¬ w32 3 < w32 4 → _))))))) ∧ (¬ w32 2 < w32 3 → _))) ∧ (¬ w32 1 < w32 3 → _))) ∧ (¬ w32 0 < w32 3 → _))))))))) ∧ (¬ w32 2 < w32 3 → _))))) ∧ (¬ w32 1 < w32 2 → _))) ∧ (¬ w32 0 < w32 2 → _))))))))) ∧ (¬ w32 2 < w32 3 → _))) ∧ (¬ w32 1 < w32 3 → _))))) ∧ (¬ w32 0 < w32 1 → _))))))))) ∧ (¬ w32 2 < w32 3 → _))) ∧ (¬ w32 1 < w32 3 → _))) ∧ (¬ w32 0 < w32 3 → _)))))))
  refine ⟨fun q => absurd q (by decide), fun _ => ?_⟩
  refine ⟨by decide, ?_⟩
  refine ⟨by decide, ?_⟩
  refine ⟨fun q => absurd q (by decide), fun _ => ?_⟩
  refine ⟨fun _ => ?_, fun q => absurd (by decide) q⟩
  refine ⟨fun _ => ?_, fun q => absurd (by decide) q⟩
  refine ⟨fun _ => ?_, fun q => absurd (by decide) q⟩
  refine ⟨fun q => absurd q (by decide), fun _ => ?_⟩
  refine ⟨fun q => absurd q (by decide), fun _ => ?_⟩
  refine ⟨by decide, ?_⟩
  refine ⟨by decide, ?_⟩
  refine ⟨fun _ => ?_, fun q => absurd (by decide) q⟩
  refine ⟨fun q => absurd q (by decide), fun _ => ?_⟩
  refine ⟨fun _ => ?_, fun q => absurd (by decide) q⟩
  refine ⟨fun _ => ?_, fun q => absurd (by decide) q⟩
  refine ⟨fun q => absurd q (by decide), fun _ => ?_⟩
  refine ⟨fun q => absurd q (by decide), fun _ => ?_⟩
  refine ⟨by decide, ?_⟩
  refine ⟨by decide, ?_⟩
  refine ⟨fun _ => ?_, fun q => absurd (by decide) q⟩
  refine ⟨fun _ => ?_, fun q => absurd (by decide) q⟩
  refine ⟨fun q => absurd q (by decide), fun _ => ?_⟩
  refine ⟨fun _ => ?_, fun q => absurd (by decide) q⟩
  refine ⟨fun q => absurd q (by decide), fun _ => ?_⟩
  refine ⟨fun q => absurd q (by decide), fun _ => ?_⟩
  refine ⟨by decide, ?_⟩
  refine ⟨by decide, ?_⟩
  refine ⟨fun _ => ?_, fun q => absurd (by decide) q⟩
  refine ⟨fun _ => ?_, fun q => absurd (by decide) q⟩
  refine ⟨fun _ => ?_, fun q => absurd (by decide) q⟩
  refine ⟨fun q => absurd q (by decide), fun _ => ?_⟩
  refine ⟨fun q => absurd q (by decide), fun _ => ?_⟩
  refine ⟨fun _ => ?_, fun q => absurd (by decide) q⟩
  refine L_eq h ?_
  unfold atI
  rw [if_neg (by decide), if_neg (by decide)]
  simp only [biI]
  (try simp (disch := decide) only [if_pos, if_neg, w32_id, Int.reduceEq, or_true, true_or, if_true, if_false, or_self, Int.reduceLT])
  grind
theorem qvL_atR3_27 (n i m : Int) (F : FF) (A : AA) (K : KK) (h : (1 ≤ n ∧ n ≤ 3) ∧ (K (some (some (vL (atI (A 27) n i m)))) F A)) : am_line qxL_atR3 238 [vR 27, vI n, vL i, vL m] 12 F A K := by
  obtain ⟨hp, h⟩ := h
  rcases (show n = 1 ∨ n = 2 ∨ n = 3 by omega) with rfl | rfl | rfl
  · exact qvL_atR3_27_1 i m F A K h
  · exact qvL_atR3_27_2 i m F A K h
  · exact qvL_atR3_27_3 i m F A K h
theorem qtL_atR3 (l : Launch) : am_CT l layR3 qeL_atR3 := am_met0 rfl (by decide +kernel) rfl rfl rfl rfl rfl (fun _ => rfl) rfl (qzL_atR3 l) (fun k e1 h => (qyL_atR3 l k e1 h).2) (fun as F A K h => by
  replace h : qsL_atR3 as F A K := h
  unfold qsL_atR3 at h
  split at h
  · rename_i o n i m
    refine ⟨by first | exact Nat.le_of_ble_eq_true rfl | simp [am_fl, am_cat], ?_⟩
    replace h := am_cond2 h
    rcases h with ⟨hb, h⟩ | h
    · skip
      have hb0 := hb
      have hb0 := am_bq hb0
      subst hb0
      exact am_way_line (qvL_atR3_27 n i m F A K h)
    exact h.elim
  · exact h.elim)
def qkL_atR4 : Nat → Option CI := fun pc => cond (Nat.ble 88 pc) none (cond (Nat.ble 39 pc) (cond (Nat.ble 63 pc) (cond (Nat.ble 76 pc) (cond (Nat.ble 82 pc) (cond (Nat.beq pc 82) (some (.goto (-76), 85, [6])) (cond (Nat.beq pc 85) (some (.lload 6, 87, [])) (cond (Nat.beq pc 87) (some (.lreturn, 88, [])) (none)))) (cond (Nat.beq pc 76) (some (.ladd, 77, [])) (cond (Nat.beq pc 77) (some (.lstore 6, 79, [])) (cond (Nat.beq pc 79) (some (.iinc 8 1, 82, [])) (none))))) (cond (Nat.ble 69 pc) (cond (Nat.beq pc 69) (some (.goto (-18), 72, [51])) (cond (Nat.beq pc 72) (some (.lload 6, 74, [])) (cond (Nat.beq pc 74) (some (.lload 9, 76, [])) (none)))) (cond (Nat.beq pc 63) (some (.lmul, 64, [])) (cond (Nat.beq pc 64) (some (.lstore 9, 66, [])) (cond (Nat.beq pc 66) (some (.iinc 11 1, 69, [])) (none)))))) (cond (Nat.ble 53 pc) (cond (Nat.ble 59 pc) (cond (Nat.beq pc 59) (some (.lload 4, 61, [])) (cond (Nat.beq pc 61) (some (.lload_n 2, 62, [])) (cond (Nat.beq pc 62) (some (.lsub, 63, [])) (none)))) (cond (Nat.beq pc 53) (some (.iload_n 1, 54, [])) (cond (Nat.beq pc 54) (some (.if_icmp .ge 18, 57, [72])) (cond (Nat.beq pc 57) (some (.lload 9, 59, [])) (none))))) (cond (Nat.ble 47 pc) (cond (Nat.beq pc 47) (some (.iload 8, 49, [])) (cond (Nat.beq pc 49) (some (.istore 11, 51, [])) (cond (Nat.beq pc 51) (some (.iload 11, 53, [])) (none)))) (cond (Nat.beq pc 39) (some (.lstore 9, 41, [])) (cond (Nat.beq pc 41) (some (.iinc 11 1, 44, [])) (cond (Nat.beq pc 44) (some (.goto (-16), 47, [28])) (none))))))) (cond (Nat.ble 19 pc) (cond (Nat.ble 28 pc) (cond (Nat.ble 35 pc) (cond (Nat.beq pc 35) (some (.lload 9, 37, [])) (cond (Nat.beq pc 37) (some (.lload_n 2, 38, [])) (cond (Nat.beq pc 38) (some (.lmul, 39, [])) (none)))) (cond (Nat.beq pc 28) (some (.iload 11, 30, [])) (cond (Nat.beq pc 30) (some (.iload 8, 32, [])) (cond (Nat.beq pc 32) (some (.if_icmp .ge 15, 35, [47])) (none))))) (cond (Nat.ble 23 pc) (cond (Nat.beq pc 23) (some (.lstore 9, 25, [])) (cond (Nat.beq pc 25) (some (.iconst 0, 26, [])) (cond (Nat.beq pc 26) (some (.istore 11, 28, [])) (none)))) (cond (Nat.beq pc 19) (some (.iload 8, 21, [])) (cond (Nat.beq pc 21) (some (.laload, 22, [])) (cond (Nat.beq pc 22) (some (.lmul, 23, [])) (none)))))) (cond (Nat.ble 8 pc) (cond (Nat.ble 13 pc) (cond (Nat.beq pc 13) (some (.iload 8, 15, [])) (cond (Nat.beq pc 15) (some (.invokestatic 155, 18, [])) (cond (Nat.beq pc 18) (some (.aload_n 0, 19, [])) (none)))) (cond (Nat.beq pc 8) (some (.iload_n 1, 9, [])) (cond (Nat.beq pc 9) (some (.if_icmp .gt 76, 12, [85])) (cond (Nat.beq pc 12) (some (.iload_n 1, 13, [])) (none))))) (cond (Nat.ble 3 pc) (cond (Nat.beq pc 3) (some (.iconst 0, 4, [])) (cond (Nat.beq pc 4) (some (.istore 8, 6, [])) (cond (Nat.beq pc 6) (some (.iload 8, 8, [])) (none)))) (cond (Nat.beq pc 0) (some (.lconst 0, 1, [])) (cond (Nat.beq pc 1) (some (.lstore 6, 3, [])) (none)))))))
theorem qkL_atR4_ok : ∀ pc i nx ts, qkL_atR4 pc = some (i, nx, ts) → am_cok cL_at pc (i, nx, ts) = true := fun pc i nx ts h => am_tok_ok (n := 88) (by decide +kernel) (fun pc h => by show cond (Nat.ble 88 pc) _ _ = _; rw [Nat.ble_eq_true_of_le h]; rfl) h
def qaL_atR4 : Nat → Option CE := fun k => cond (Nat.beq k 155) (some qeL_binomial) (none)
theorem qyL_atR4 (l : Launch) : ∀ k e1, qaL_atR4 k = some e1 → am_cal l layR4 RL 4 k e1 ∧ ceT e1 = 0 := q_cons ⟨am_calS (am_CT_mono layX_R4 (qtL_binomial l)) qbL_binomial (by decide) rfl (by decide) (am_tb_at 1048 (by decide +kernel) rfl), rfl⟩ (q_nil)
def qxL_atR4 : CX := (qkL_atR4, layR4, qfL, qaL_atR4, qcL, qlL, qmL, (some .long), false, none, 0, none, fun _ => none)
theorem qzL_atR4 (l : Launch) : am_sta l qxL_atR4 RL 4 cL_at := ⟨qkL_atR4_ok, layR4_ok, qfL_ok, qcL_ok, qlL_ok, am_mthP qmL_ok (by decide), fun k e1 h => (qyL_atR4 l k e1 h).1⟩
def qsL_atR4 : SP := fun as F A K => match as with
  | [.inr (.inr o), .inl n, .inr (.inl i), .inr (.inl m)] => cond (Nat.beq o 27) ((1 ≤ n ∧ n ≤ 3) ∧ (K (some (some (vL (atI (A 27) n i m)))) F A)) (cond (Nat.beq o 28) ((1 ≤ n ∧ n ≤ 3) ∧ (K (some (some (vL (atI (A 28) n i m)))) F A)) (False))
  | _ => False
def qeL_atR4 : CE := (yL_at, cL_at, 12, (some .long), 4, none, 0, none, 0, 4, qsL_atR4)
theorem qbL_atR4 : am_mb qeL_atR4 := ⟨am_tb_at 1047 (by decide +kernel) rfl, am_tb_at 34 (by decide +kernel) rfl, ⟨by decide, by decide, by decide +kernel⟩, by decide, am_tb_at 1046 (by decide +kernel) rfl⟩
set_option maxRecDepth 20000 in
theorem qvL_atR4_27_1 (i m : Int) (F : FF) (A : AA) (K : KK) (h : K (some (some (vL (atI (A 27) 1 i m)))) F A) : am_line qxL_atR4 238 [vR 27, vI 1, vL i, vL m] 12 F A K := by
  show am_stp qxL_atR4 (am_run qxL_atR4 (fun _ => none) (fun _ _ _ _ _ _ => False) K 238) K 0 [some (vR 27), some (vI 1), some (vL i), none, some (vL m), none, none, none, none, none, none, none] [] F A 0
  show (w32 1 < w32 0 → _) ∧ (¬ w32 1 < w32 0 → ((((-2147483648 : Int) ≤ 1 ∧ (1 : Int) < 2147483648) ∧ ((-2147483648 : Int) ≤ 0 ∧ (0 : Int) < 2147483648)) ∧ ((0 ≤ w32 0 ∧ w32 0 < 4) ∧ ((w32 0 < w32 0 → _) ∧ (¬ w32 0 < w32 0 → ((w32 0 < w32 1 → ((w32 1 < w32 1 → _) ∧ (¬ w32 1 < w32 1 → ((w32 1 < w32 1 → _) ∧ (¬ w32 1 < w32 1 → ((((-2147483648 : Int) ≤ 1 ∧ (1 : Int) < 2147483648) ∧ ((-2147483648 : Int) ≤ 1 ∧ (1 : Int) < 2147483648)) ∧ ((0 ≤ w32 1 ∧ w32 1 < 4) ∧ ((w32 0 < w32 1 → ((w32 1 < w32 1 → _) ∧ (¬ w32 1 < w32 1 → ((w32 1 < w32 1 → _) ∧ (¬ w32 1 < w32 1 → ((w32 1 < w32 2 → (K (some (some (vL ((0 + (((biI 1 0) * (A 27 (w32 0))) * (m - i))) + (((biI 1 1) * (A 27 (w32 1))) * i))))) F A)) ∧ (¬ w32 1 < w32 2 → _))))))) ∧ (¬ w32 0 < w32 1 → _))))))))) ∧ (¬ w32 0 < w32 1 → _)))))))
  refine ⟨fun q => absurd q (by decide), fun _ => ?_⟩
  refine ⟨by decide, ?_⟩
  refine ⟨by decide, ?_⟩
  refine ⟨fun q => absurd q (by decide), fun _ => ?_⟩
  refine ⟨fun _ => ?_, fun q => absurd (by decide) q⟩
  refine ⟨fun q => absurd q (by decide), fun _ => ?_⟩
  refine ⟨fun q => absurd q (by decide), fun _ => ?_⟩
  refine ⟨by decide, ?_⟩
  refine ⟨by decide, ?_⟩
  refine ⟨fun _ => ?_, fun q => absurd (by decide) q⟩
  refine ⟨fun q => absurd q (by decide), fun _ => ?_⟩
  refine ⟨fun q => absurd q (by decide), fun _ => ?_⟩
  refine ⟨fun _ => ?_, fun q => absurd (by decide) q⟩
  refine L_eq h ?_
  unfold atI
  rw [if_pos rfl]
  simp only [biI]
  (try simp (disch := decide) only [if_pos, if_neg, w32_id, Int.reduceEq, or_true, true_or, if_true, if_false, or_self, Int.reduceLT])
  grind
set_option maxRecDepth 20000 in
theorem qvL_atR4_27_2 (i m : Int) (F : FF) (A : AA) (K : KK) (h : K (some (some (vL (atI (A 27) 2 i m)))) F A) : am_line qxL_atR4 238 [vR 27, vI 2, vL i, vL m] 12 F A K := by
  show am_stp qxL_atR4 (am_run qxL_atR4 (fun _ => none) (fun _ _ _ _ _ _ => False) K 238) K 0 [some (vR 27), some (vI 2), some (vL i), none, some (vL m), none, none, none, none, none, none, none] [] F A 0
  show (w32 2 < w32 0 → _) ∧ (¬ w32 2 < w32 0 → ((((-2147483648 : Int) ≤ 2 ∧ (2 : Int) < 2147483648) ∧ ((-2147483648 : Int) ≤ 0 ∧ (0 : Int) < 2147483648)) ∧ ((0 ≤ w32 0 ∧ w32 0 < 4) ∧ ((w32 0 < w32 0 → _) ∧ (¬ w32 0 < w32 0 → ((w32 0 < w32 2 → ((w32 1 < w32 2 → ((w32 2 < w32 2 → _) ∧ (¬ w32 2 < w32 2 → ((w32 2 < w32 1 → _) ∧ (¬ w32 2 < w32 1 → ((((-2147483648 : Int) ≤ 2 ∧ (2 : Int) < 2147483648) ∧ ((-2147483648 : Int) ≤ 1 ∧ (1 : Int) < 2147483648)) ∧ ((0 ≤ w32 1 ∧ w32 1 < 4) ∧ ((w32 0 < w32 1 → ((w32 1 < w32 1 → _) ∧ (¬ w32 1 < w32 1 → ((w32 1 < w32 2 → ((w32 2 < w32 2 → _) ∧ (¬ w32 2 < w32 2 → ((w32 2 < w32 2 → _) ∧ (¬ w32 2 < w32 2 → ((((-2147483648 : Int) ≤ 2 ∧ (2 : Int) < 2147483648) ∧ ((-2147483648 : Int) ≤ 2 ∧ (2 : Int) < 2147483648)) ∧ ((0 ≤ w32 2 ∧ w32 2 < 4) ∧ ((w32 0 < w32 2 → ((w32 1 < w32 2 → ((w32 2 < w32 2 → _) ∧ (¬ w32 2 < w32 2 → ((w32 2 < w32 2 → _) ∧ (¬ w32 2 < w32 2 → ((w32 2 < w32 3 → (K (some (some (vL (((0 + ((((biI 2 0) * (A 27 (w32 0))) * (m - i)) * (m - i))) + ((((biI 2 1) * (A 27 (w32 1))) * i) * (m - i))) + ((((biI 2 2) * (A 27 (w32 2))) * i) * i))))) F A)) ∧ (¬ w32 2 < w32 3 → _))))))) ∧ (¬ w32 1 < w32 2 → _))) ∧ (¬ w32 0 < w32 2 → _))))))))) ∧ (¬ w32 1 < w32 2 → _))))) ∧ (¬ w32 0 < w32 1 → _))))))))) ∧ (¬ w32 1 < w32 2 → _))) ∧ (¬ w32 0 < w32 2 → _)))))))
  refine ⟨fun q => absurd q (by decide), fun _ => ?_⟩
  refine ⟨by decide, ?_⟩
  refine ⟨by decide, ?_⟩
  refine ⟨fun q => absurd q (by decide), fun _ => ?_⟩
  refine ⟨fun _ => ?_, fun q => absurd (by decide) q⟩
  refine ⟨fun _ => ?_, fun q => absurd (by decide) q⟩
  refine ⟨fun q => absurd q (by decide), fun _ => ?_⟩
  refine ⟨fun q => absurd q (by decide), fun _ => ?_⟩
  refine ⟨by decide, ?_⟩
  refine ⟨by decide, ?_⟩
  refine ⟨fun _ => ?_, fun q => absurd (by decide) q⟩
  refine ⟨fun q => absurd q (by decide), fun _ => ?_⟩
  refine ⟨fun _ => ?_, fun q => absurd (by decide) q⟩
  refine ⟨fun q => absurd q (by decide), fun _ => ?_⟩
  refine ⟨fun q => absurd q (by decide), fun _ => ?_⟩
  refine ⟨by decide, ?_⟩
  refine ⟨by decide, ?_⟩
  refine ⟨fun _ => ?_, fun q => absurd (by decide) q⟩
  refine ⟨fun _ => ?_, fun q => absurd (by decide) q⟩
  refine ⟨fun q => absurd q (by decide), fun _ => ?_⟩
  refine ⟨fun q => absurd q (by decide), fun _ => ?_⟩
  refine ⟨fun _ => ?_, fun q => absurd (by decide) q⟩
  refine L_eq h ?_
  unfold atI
  rw [if_neg (by decide), if_pos rfl]
  simp only [biI]
  (try simp (disch := decide) only [if_pos, if_neg, w32_id, Int.reduceEq, or_true, true_or, if_true, if_false, or_self, Int.reduceLT])
  grind
set_option maxRecDepth 20000 in
theorem qvL_atR4_27_3 (i m : Int) (F : FF) (A : AA) (K : KK) (h : K (some (some (vL (atI (A 27) 3 i m)))) F A) : am_line qxL_atR4 238 [vR 27, vI 3, vL i, vL m] 12 F A K := by
  show am_stp qxL_atR4 (am_run qxL_atR4 (fun _ => none) (fun _ _ _ _ _ _ => False) K 238) K 0 [some (vR 27), some (vI 3), some (vL i), none, some (vL m), none, none, none, none, none, none, none] [] F A 0
  show (w32 3 < w32 0 → _) ∧ (¬ w32 3 < w32 0 → ((((-2147483648 : Int) ≤ 3 ∧ (3 : Int) < 2147483648) ∧ ((-2147483648 : Int) ≤ 0 ∧ (0 : Int) < 2147483648)) ∧ ((0 ≤ w32 0 ∧ w32 0 < 4) ∧ ((w32 0 < w32 0 → _) ∧ (¬ w32 0 < w32 0 → ((w32 0 < w32 3 → ((w32 1 < w32 3 → ((w32 2 < w32 3 → ((w32 3 < w32 3 → _) ∧ (¬ w32 3 < w32 3 → ((w32 3 < w32 1 → _) ∧ (¬ w32 3 < w32 1 → ((((-2147483648 : Int) ≤ 3 ∧ (3 : Int) < 2147483648) ∧ ((-2147483648 : Int) ≤ 1 ∧ (1 : Int) < 2147483648)) ∧ ((0 ≤ w32 1 ∧ w32 1 < 4) ∧ ((w32 0 < w32 1 → ((w32 1 < w32 1 → _) ∧ (¬ w32 1 < w32 1 → ((w32 1 < w32 3 → ((w32 2 < w32 3 → ((w32 3 < w32 3 → _) ∧ (¬ w32 3 < w32 3 → ((w32 3 < w32 2 → _) ∧ (¬ w32 3 < w32 2 → ((((-2147483648 : Int) ≤ 3 ∧ (3 : Int) < 2147483648) ∧ ((-2147483648 : Int) ≤ 2 ∧ (2 : Int) < 2147483648)) ∧ ((0 ≤ w32 2 ∧ w32 2 < 4) ∧ ((w32 0 < w32 2 → ((w32 1 < w32 2 → ((w32 2 < w32 2 → _) ∧ (¬ w32 2 < w32 2 → ((w32 2 < w32 3 → ((w32 3 < w32 3 → _) ∧ (¬ w32 3 < w32 3 → ((w32 3 < w32 3 → _) ∧ (¬ w32 3 < w32 3 → ((((-2147483648 : Int) ≤ 3 ∧ (3 : Int) < 2147483648) ∧ ((-2147483648 : Int) ≤ 3 ∧ (3 : Int) < 2147483648)) ∧ ((0 ≤ w32 3 ∧ w32 3 < 4) ∧ ((w32 0 < w32 3 → ((w32 1 < w32 3 → ((w32 2 < w32 3 → ((w32 3 < w32 3 → _) ∧ (¬ w32 3 < w32 3 → ((w32 3 < w32 3 → _) ∧ (¬ w32 3 < w32 3 → ((w32 3 < w32 4 → (K (some (some (vL ((((0 + (((((biI 3 0) * (A 27 (w32 0))) * (m - i)) * (m - i)) * (m - i))) + (((((biI 3 1) * (A 27 (w32 1))) * i) * (m - i)) * (m - i))) + (((((biI 3 2) * (A 27 (w32 2))) * i) * i) * (m - i))) + (((((biI 3 3) * (A 27 (w32 3))) * i) * i) * i))))) F A)) ∧ (¬ w32 3 < w32 4 → _))))))) ∧ (¬ w32 2 < w32 3 → _))) ∧ (¬ w32 1 < w32 3 → _))) ∧ (¬ w32 0 < w32 3 → _))))))))) ∧ (¬ w32 2 < w32 3 → _))))) ∧ (¬ w32 1 < w32 2 → _))) ∧ (¬ w32 0 < w32 2 → _))))))))) ∧ (¬ w32 2 < w32 3 → _))) ∧ (¬ w32 1 < w32 3 → _))))) ∧ (¬ w32 0 < w32 1 → _))))))))) ∧ (¬ w32 2 < w32 3 → _))) ∧ (¬ w32 1 < w32 3 → _))) ∧ (¬ w32 0 < w32 3 → _)))))))
  refine ⟨fun q => absurd q (by decide), fun _ => ?_⟩
  refine ⟨by decide, ?_⟩
  refine ⟨by decide, ?_⟩
  refine ⟨fun q => absurd q (by decide), fun _ => ?_⟩
  refine ⟨fun _ => ?_, fun q => absurd (by decide) q⟩
  refine ⟨fun _ => ?_, fun q => absurd (by decide) q⟩
  refine ⟨fun _ => ?_, fun q => absurd (by decide) q⟩
  refine ⟨fun q => absurd q (by decide), fun _ => ?_⟩
  refine ⟨fun q => absurd q (by decide), fun _ => ?_⟩
  refine ⟨by decide, ?_⟩
  refine ⟨by decide, ?_⟩
  refine ⟨fun _ => ?_, fun q => absurd (by decide) q⟩
  refine ⟨fun q => absurd q (by decide), fun _ => ?_⟩
  refine ⟨fun _ => ?_, fun q => absurd (by decide) q⟩
  refine ⟨fun _ => ?_, fun q => absurd (by decide) q⟩
  refine ⟨fun q => absurd q (by decide), fun _ => ?_⟩
  refine ⟨fun q => absurd q (by decide), fun _ => ?_⟩
  refine ⟨by decide, ?_⟩
  refine ⟨by decide, ?_⟩
  refine ⟨fun _ => ?_, fun q => absurd (by decide) q⟩
  refine ⟨fun _ => ?_, fun q => absurd (by decide) q⟩
  refine ⟨fun q => absurd q (by decide), fun _ => ?_⟩
  refine ⟨fun _ => ?_, fun q => absurd (by decide) q⟩
  refine ⟨fun q => absurd q (by decide), fun _ => ?_⟩
  refine ⟨fun q => absurd q (by decide), fun _ => ?_⟩
  refine ⟨by decide, ?_⟩
  refine ⟨by decide, ?_⟩
  refine ⟨fun _ => ?_, fun q => absurd (by decide) q⟩
  refine ⟨fun _ => ?_, fun q => absurd (by decide) q⟩
  refine ⟨fun _ => ?_, fun q => absurd (by decide) q⟩
  refine ⟨fun q => absurd q (by decide), fun _ => ?_⟩
  refine ⟨fun q => absurd q (by decide), fun _ => ?_⟩
  refine ⟨fun _ => ?_, fun q => absurd (by decide) q⟩
  refine L_eq h ?_
  unfold atI
  rw [if_neg (by decide), if_neg (by decide)]
  simp only [biI]
  (try simp (disch := decide) only [if_pos, if_neg, w32_id, Int.reduceEq, or_true, true_or, if_true, if_false, or_self, Int.reduceLT])
  grind
theorem qvL_atR4_27 (n i m : Int) (F : FF) (A : AA) (K : KK) (h : (1 ≤ n ∧ n ≤ 3) ∧ (K (some (some (vL (atI (A 27) n i m)))) F A)) : am_line qxL_atR4 238 [vR 27, vI n, vL i, vL m] 12 F A K := by
  obtain ⟨hp, h⟩ := h
  rcases (show n = 1 ∨ n = 2 ∨ n = 3 by omega) with rfl | rfl | rfl
  · exact qvL_atR4_27_1 i m F A K h
  · exact qvL_atR4_27_2 i m F A K h
  · exact qvL_atR4_27_3 i m F A K h
set_option maxRecDepth 20000 in
theorem qvL_atR4_28_1 (i m : Int) (F : FF) (A : AA) (K : KK) (h : K (some (some (vL (atI (A 28) 1 i m)))) F A) : am_line qxL_atR4 238 [vR 28, vI 1, vL i, vL m] 12 F A K := by
  show am_stp qxL_atR4 (am_run qxL_atR4 (fun _ => none) (fun _ _ _ _ _ _ => False) K 238) K 0 [some (vR 28), some (vI 1), some (vL i), none, some (vL m), none, none, none, none, none, none, none] [] F A 0
  show (w32 1 < w32 0 → _) ∧ (¬ w32 1 < w32 0 → ((((-2147483648 : Int) ≤ 1 ∧ (1 : Int) < 2147483648) ∧ ((-2147483648 : Int) ≤ 0 ∧ (0 : Int) < 2147483648)) ∧ ((0 ≤ w32 0 ∧ w32 0 < 4) ∧ ((w32 0 < w32 0 → _) ∧ (¬ w32 0 < w32 0 → ((w32 0 < w32 1 → ((w32 1 < w32 1 → _) ∧ (¬ w32 1 < w32 1 → ((w32 1 < w32 1 → _) ∧ (¬ w32 1 < w32 1 → ((((-2147483648 : Int) ≤ 1 ∧ (1 : Int) < 2147483648) ∧ ((-2147483648 : Int) ≤ 1 ∧ (1 : Int) < 2147483648)) ∧ ((0 ≤ w32 1 ∧ w32 1 < 4) ∧ ((w32 0 < w32 1 → ((w32 1 < w32 1 → _) ∧ (¬ w32 1 < w32 1 → ((w32 1 < w32 1 → _) ∧ (¬ w32 1 < w32 1 → ((w32 1 < w32 2 → (K (some (some (vL ((0 + (((biI 1 0) * (A 28 (w32 0))) * (m - i))) + (((biI 1 1) * (A 28 (w32 1))) * i))))) F A)) ∧ (¬ w32 1 < w32 2 → _))))))) ∧ (¬ w32 0 < w32 1 → _))))))))) ∧ (¬ w32 0 < w32 1 → _)))))))
  refine ⟨fun q => absurd q (by decide), fun _ => ?_⟩
  refine ⟨by decide, ?_⟩
  refine ⟨by decide, ?_⟩
  refine ⟨fun q => absurd q (by decide), fun _ => ?_⟩
  refine ⟨fun _ => ?_, fun q => absurd (by decide) q⟩
  refine ⟨fun q => absurd q (by decide), fun _ => ?_⟩
  refine ⟨fun q => absurd q (by decide), fun _ => ?_⟩
  refine ⟨by decide, ?_⟩
  refine ⟨by decide, ?_⟩
  refine ⟨fun _ => ?_, fun q => absurd (by decide) q⟩
  refine ⟨fun q => absurd q (by decide), fun _ => ?_⟩
  refine ⟨fun q => absurd q (by decide), fun _ => ?_⟩
  refine ⟨fun _ => ?_, fun q => absurd (by decide) q⟩
  refine L_eq h ?_
  unfold atI
  rw [if_pos rfl]
  simp only [biI]
  (try simp (disch := decide) only [if_pos, if_neg, w32_id, Int.reduceEq, or_true, true_or, if_true, if_false, or_self, Int.reduceLT])
  grind
set_option maxRecDepth 20000 in
theorem qvL_atR4_28_2 (i m : Int) (F : FF) (A : AA) (K : KK) (h : K (some (some (vL (atI (A 28) 2 i m)))) F A) : am_line qxL_atR4 238 [vR 28, vI 2, vL i, vL m] 12 F A K := by
  show am_stp qxL_atR4 (am_run qxL_atR4 (fun _ => none) (fun _ _ _ _ _ _ => False) K 238) K 0 [some (vR 28), some (vI 2), some (vL i), none, some (vL m), none, none, none, none, none, none, none] [] F A 0
  show (w32 2 < w32 0 → _) ∧ (¬ w32 2 < w32 0 → ((((-2147483648 : Int) ≤ 2 ∧ (2 : Int) < 2147483648) ∧ ((-2147483648 : Int) ≤ 0 ∧ (0 : Int) < 2147483648)) ∧ ((0 ≤ w32 0 ∧ w32 0 < 4) ∧ ((w32 0 < w32 0 → _) ∧ (¬ w32 0 < w32 0 → ((w32 0 < w32 2 → ((w32 1 < w32 2 → ((w32 2 < w32 2 → _) ∧ (¬ w32 2 < w32 2 → ((w32 2 < w32 1 → _) ∧ (¬ w32 2 < w32 1 → ((((-2147483648 : Int) ≤ 2 ∧ (2 : Int) < 2147483648) ∧ ((-2147483648 : Int) ≤ 1 ∧ (1 : Int) < 2147483648)) ∧ ((0 ≤ w32 1 ∧ w32 1 < 4) ∧ ((w32 0 < w32 1 → ((w32 1 < w32 1 → _) ∧ (¬ w32 1 < w32 1 → ((w32 1 < w32 2 → ((w32 2 < w32 2 → _) ∧ (¬ w32 2 < w32 2 → ((w32 2 < w32 2 → _) ∧ (¬ w32 2 < w32 2 → ((((-2147483648 : Int) ≤ 2 ∧ (2 : Int) < 2147483648) ∧ ((-2147483648 : Int) ≤ 2 ∧ (2 : Int) < 2147483648)) ∧ ((0 ≤ w32 2 ∧ w32 2 < 4) ∧ ((w32 0 < w32 2 → ((w32 1 < w32 2 → ((w32 2 < w32 2 → _) ∧ (¬ w32 2 < w32 2 → ((w32 2 < w32 2 → _) ∧ (¬ w32 2 < w32 2 → ((w32 2 < w32 3 → (K (some (some (vL (((0 + ((((biI 2 0) * (A 28 (w32 0))) * (m - i)) * (m - i))) + ((((biI 2 1) * (A 28 (w32 1))) * i) * (m - i))) + ((((biI 2 2) * (A 28 (w32 2))) * i) * i))))) F A)) ∧ (¬ w32 2 < w32 3 → _))))))) ∧ (¬ w32 1 < w32 2 → _))) ∧ (¬ w32 0 < w32 2 → _))))))))) ∧ (¬ w32 1 < w32 2 → _))))) ∧ (¬ w32 0 < w32 1 → _))))))))) ∧ (¬ w32 1 < w32 2 → _))) ∧ (¬ w32 0 < w32 2 → _)))))))
  refine ⟨fun q => absurd q (by decide), fun _ => ?_⟩
  refine ⟨by decide, ?_⟩
  refine ⟨by decide, ?_⟩
  refine ⟨fun q => absurd q (by decide), fun _ => ?_⟩
  refine ⟨fun _ => ?_, fun q => absurd (by decide) q⟩
  refine ⟨fun _ => ?_, fun q => absurd (by decide) q⟩
  refine ⟨fun q => absurd q (by decide), fun _ => ?_⟩
  refine ⟨fun q => absurd q (by decide), fun _ => ?_⟩
  refine ⟨by decide, ?_⟩
  refine ⟨by decide, ?_⟩
  refine ⟨fun _ => ?_, fun q => absurd (by decide) q⟩
  refine ⟨fun q => absurd q (by decide), fun _ => ?_⟩
  refine ⟨fun _ => ?_, fun q => absurd (by decide) q⟩
  refine ⟨fun q => absurd q (by decide), fun _ => ?_⟩
  refine ⟨fun q => absurd q (by decide), fun _ => ?_⟩
  refine ⟨by decide, ?_⟩
  refine ⟨by decide, ?_⟩
  refine ⟨fun _ => ?_, fun q => absurd (by decide) q⟩
  refine ⟨fun _ => ?_, fun q => absurd (by decide) q⟩
  refine ⟨fun q => absurd q (by decide), fun _ => ?_⟩
  refine ⟨fun q => absurd q (by decide), fun _ => ?_⟩
  refine ⟨fun _ => ?_, fun q => absurd (by decide) q⟩
  refine L_eq h ?_
  unfold atI
  rw [if_neg (by decide), if_pos rfl]
  simp only [biI]
  (try simp (disch := decide) only [if_pos, if_neg, w32_id, Int.reduceEq, or_true, true_or, if_true, if_false, or_self, Int.reduceLT])
  grind
set_option maxRecDepth 20000 in
theorem qvL_atR4_28_3 (i m : Int) (F : FF) (A : AA) (K : KK) (h : K (some (some (vL (atI (A 28) 3 i m)))) F A) : am_line qxL_atR4 238 [vR 28, vI 3, vL i, vL m] 12 F A K := by
  show am_stp qxL_atR4 (am_run qxL_atR4 (fun _ => none) (fun _ _ _ _ _ _ => False) K 238) K 0 [some (vR 28), some (vI 3), some (vL i), none, some (vL m), none, none, none, none, none, none, none] [] F A 0
  show (w32 3 < w32 0 → _) ∧ (¬ w32 3 < w32 0 → ((((-2147483648 : Int) ≤ 3 ∧ (3 : Int) < 2147483648) ∧ ((-2147483648 : Int) ≤ 0 ∧ (0 : Int) < 2147483648)) ∧ ((0 ≤ w32 0 ∧ w32 0 < 4) ∧ ((w32 0 < w32 0 → _) ∧ (¬ w32 0 < w32 0 → ((w32 0 < w32 3 → ((w32 1 < w32 3 → ((w32 2 < w32 3 → ((w32 3 < w32 3 → _) ∧ (¬ w32 3 < w32 3 → ((w32 3 < w32 1 → _) ∧ (¬ w32 3 < w32 1 → ((((-2147483648 : Int) ≤ 3 ∧ (3 : Int) < 2147483648) ∧ ((-2147483648 : Int) ≤ 1 ∧ (1 : Int) < 2147483648)) ∧ ((0 ≤ w32 1 ∧ w32 1 < 4) ∧ ((w32 0 < w32 1 → ((w32 1 < w32 1 → _) ∧ (¬ w32 1 < w32 1 → ((w32 1 < w32 3 → ((w32 2 < w32 3 → ((w32 3 < w32 3 → _) ∧ (¬ w32 3 < w32 3 → ((w32 3 < w32 2 → _) ∧ (¬ w32 3 < w32 2 → ((((-2147483648 : Int) ≤ 3 ∧ (3 : Int) < 2147483648) ∧ ((-2147483648 : Int) ≤ 2 ∧ (2 : Int) < 2147483648)) ∧ ((0 ≤ w32 2 ∧ w32 2 < 4) ∧ ((w32 0 < w32 2 → ((w32 1 < w32 2 → ((w32 2 < w32 2 → _) ∧ (¬ w32 2 < w32 2 → ((w32 2 < w32 3 → ((w32 3 < w32 3 → _) ∧ (¬ w32 3 < w32 3 → ((w32 3 < w32 3 → _) ∧ (¬ w32 3 < w32 3 → ((((-2147483648 : Int) ≤ 3 ∧ (3 : Int) < 2147483648) ∧ ((-2147483648 : Int) ≤ 3 ∧ (3 : Int) < 2147483648)) ∧ ((0 ≤ w32 3 ∧ w32 3 < 4) ∧ ((w32 0 < w32 3 → ((w32 1 < w32 3 → ((w32 2 < w32 3 → ((w32 3 < w32 3 → _) ∧ (¬ w32 3 < w32 3 → ((w32 3 < w32 3 → _) ∧ (¬ w32 3 < w32 3 → ((w32 3 < w32 4 → (K (some (some (vL ((((0 + (((((biI 3 0) * (A 28 (w32 0))) * (m - i)) * (m - i)) * (m - i))) + (((((biI 3 1) * (A 28 (w32 1))) * i) * (m - i)) * (m - i))) + (((((biI 3 2) * (A 28 (w32 2))) * i) * i) * (m - i))) + (((((biI 3 3) * (A 28 (w32 3))) * i) * i) * i))))) F A)) ∧ (¬ w32 3 < w32 4 → _))))))) ∧ (¬ w32 2 < w32 3 → _))) ∧ (¬ w32 1 < w32 3 → _))) ∧ (¬ w32 0 < w32 3 → _))))))))) ∧ (¬ w32 2 < w32 3 → _))))) ∧ (¬ w32 1 < w32 2 → _))) ∧ (¬ w32 0 < w32 2 → _))))))))) ∧ (¬ w32 2 < w32 3 → _))) ∧ (¬ w32 1 < w32 3 → _))))) ∧ (¬ w32 0 < w32 1 → _))))))))) ∧ (¬ w32 2 < w32 3 → _))) ∧ (¬ w32 1 < w32 3 → _))) ∧ (¬ w32 0 < w32 3 → _)))))))
  refine ⟨fun q => absurd q (by decide), fun _ => ?_⟩
  refine ⟨by decide, ?_⟩
  refine ⟨by decide, ?_⟩
  refine ⟨fun q => absurd q (by decide), fun _ => ?_⟩
  refine ⟨fun _ => ?_, fun q => absurd (by decide) q⟩
  refine ⟨fun _ => ?_, fun q => absurd (by decide) q⟩
  refine ⟨fun _ => ?_, fun q => absurd (by decide) q⟩
  refine ⟨fun q => absurd q (by decide), fun _ => ?_⟩
  refine ⟨fun q => absurd q (by decide), fun _ => ?_⟩
  refine ⟨by decide, ?_⟩
  refine ⟨by decide, ?_⟩
  refine ⟨fun _ => ?_, fun q => absurd (by decide) q⟩
  refine ⟨fun q => absurd q (by decide), fun _ => ?_⟩
  refine ⟨fun _ => ?_, fun q => absurd (by decide) q⟩
  refine ⟨fun _ => ?_, fun q => absurd (by decide) q⟩
  refine ⟨fun q => absurd q (by decide), fun _ => ?_⟩
  refine ⟨fun q => absurd q (by decide), fun _ => ?_⟩
  refine ⟨by decide, ?_⟩
  refine ⟨by decide, ?_⟩
  refine ⟨fun _ => ?_, fun q => absurd (by decide) q⟩
  refine ⟨fun _ => ?_, fun q => absurd (by decide) q⟩
  refine ⟨fun q => absurd q (by decide), fun _ => ?_⟩
  refine ⟨fun _ => ?_, fun q => absurd (by decide) q⟩
  refine ⟨fun q => absurd q (by decide), fun _ => ?_⟩
  refine ⟨fun q => absurd q (by decide), fun _ => ?_⟩
  refine ⟨by decide, ?_⟩
  refine ⟨by decide, ?_⟩
  refine ⟨fun _ => ?_, fun q => absurd (by decide) q⟩
  refine ⟨fun _ => ?_, fun q => absurd (by decide) q⟩
  refine ⟨fun _ => ?_, fun q => absurd (by decide) q⟩
  refine ⟨fun q => absurd q (by decide), fun _ => ?_⟩
  refine ⟨fun q => absurd q (by decide), fun _ => ?_⟩
  refine ⟨fun _ => ?_, fun q => absurd (by decide) q⟩
  refine L_eq h ?_
  unfold atI
  rw [if_neg (by decide), if_neg (by decide)]
  simp only [biI]
  (try simp (disch := decide) only [if_pos, if_neg, w32_id, Int.reduceEq, or_true, true_or, if_true, if_false, or_self, Int.reduceLT])
  grind
theorem qvL_atR4_28 (n i m : Int) (F : FF) (A : AA) (K : KK) (h : (1 ≤ n ∧ n ≤ 3) ∧ (K (some (some (vL (atI (A 28) n i m)))) F A)) : am_line qxL_atR4 238 [vR 28, vI n, vL i, vL m] 12 F A K := by
  obtain ⟨hp, h⟩ := h
  rcases (show n = 1 ∨ n = 2 ∨ n = 3 by omega) with rfl | rfl | rfl
  · exact qvL_atR4_28_1 i m F A K h
  · exact qvL_atR4_28_2 i m F A K h
  · exact qvL_atR4_28_3 i m F A K h
theorem qtL_atR4 (l : Launch) : am_CT l layR4 qeL_atR4 := am_met0 rfl (by decide +kernel) rfl rfl rfl rfl rfl (fun _ => rfl) rfl (qzL_atR4 l) (fun k e1 h => (qyL_atR4 l k e1 h).2) (fun as F A K h => by
  replace h : qsL_atR4 as F A K := h
  unfold qsL_atR4 at h
  split at h
  · rename_i o n i m
    refine ⟨by first | exact Nat.le_of_ble_eq_true rfl | simp [am_fl, am_cat], ?_⟩
    replace h := am_cond2 h
    rcases h with ⟨hb, h⟩ | h
    · skip
      have hb0 := hb
      have hb0 := am_bq hb0
      subst hb0
      exact am_way_line (qvL_atR4_27 n i m F A K h)
    replace h := am_cond2 h
    rcases h with ⟨hb, h⟩ | h
    · skip
      have hb0 := hb
      have hb0 := am_bq hb0
      subst hb0
      exact am_way_line (qvL_atR4_28 n i m F A K h)
    exact h.elim
  · exact h.elim)
def qkL_atR5 : Nat → Option CI := fun pc => cond (Nat.ble 88 pc) none (cond (Nat.ble 39 pc) (cond (Nat.ble 63 pc) (cond (Nat.ble 76 pc) (cond (Nat.ble 82 pc) (cond (Nat.beq pc 82) (some (.goto (-76), 85, [6])) (cond (Nat.beq pc 85) (some (.lload 6, 87, [])) (cond (Nat.beq pc 87) (some (.lreturn, 88, [])) (none)))) (cond (Nat.beq pc 76) (some (.ladd, 77, [])) (cond (Nat.beq pc 77) (some (.lstore 6, 79, [])) (cond (Nat.beq pc 79) (some (.iinc 8 1, 82, [])) (none))))) (cond (Nat.ble 69 pc) (cond (Nat.beq pc 69) (some (.goto (-18), 72, [51])) (cond (Nat.beq pc 72) (some (.lload 6, 74, [])) (cond (Nat.beq pc 74) (some (.lload 9, 76, [])) (none)))) (cond (Nat.beq pc 63) (some (.lmul, 64, [])) (cond (Nat.beq pc 64) (some (.lstore 9, 66, [])) (cond (Nat.beq pc 66) (some (.iinc 11 1, 69, [])) (none)))))) (cond (Nat.ble 53 pc) (cond (Nat.ble 59 pc) (cond (Nat.beq pc 59) (some (.lload 4, 61, [])) (cond (Nat.beq pc 61) (some (.lload_n 2, 62, [])) (cond (Nat.beq pc 62) (some (.lsub, 63, [])) (none)))) (cond (Nat.beq pc 53) (some (.iload_n 1, 54, [])) (cond (Nat.beq pc 54) (some (.if_icmp .ge 18, 57, [72])) (cond (Nat.beq pc 57) (some (.lload 9, 59, [])) (none))))) (cond (Nat.ble 47 pc) (cond (Nat.beq pc 47) (some (.iload 8, 49, [])) (cond (Nat.beq pc 49) (some (.istore 11, 51, [])) (cond (Nat.beq pc 51) (some (.iload 11, 53, [])) (none)))) (cond (Nat.beq pc 39) (some (.lstore 9, 41, [])) (cond (Nat.beq pc 41) (some (.iinc 11 1, 44, [])) (cond (Nat.beq pc 44) (some (.goto (-16), 47, [28])) (none))))))) (cond (Nat.ble 19 pc) (cond (Nat.ble 28 pc) (cond (Nat.ble 35 pc) (cond (Nat.beq pc 35) (some (.lload 9, 37, [])) (cond (Nat.beq pc 37) (some (.lload_n 2, 38, [])) (cond (Nat.beq pc 38) (some (.lmul, 39, [])) (none)))) (cond (Nat.beq pc 28) (some (.iload 11, 30, [])) (cond (Nat.beq pc 30) (some (.iload 8, 32, [])) (cond (Nat.beq pc 32) (some (.if_icmp .ge 15, 35, [47])) (none))))) (cond (Nat.ble 23 pc) (cond (Nat.beq pc 23) (some (.lstore 9, 25, [])) (cond (Nat.beq pc 25) (some (.iconst 0, 26, [])) (cond (Nat.beq pc 26) (some (.istore 11, 28, [])) (none)))) (cond (Nat.beq pc 19) (some (.iload 8, 21, [])) (cond (Nat.beq pc 21) (some (.laload, 22, [])) (cond (Nat.beq pc 22) (some (.lmul, 23, [])) (none)))))) (cond (Nat.ble 8 pc) (cond (Nat.ble 13 pc) (cond (Nat.beq pc 13) (some (.iload 8, 15, [])) (cond (Nat.beq pc 15) (some (.invokestatic 155, 18, [])) (cond (Nat.beq pc 18) (some (.aload_n 0, 19, [])) (none)))) (cond (Nat.beq pc 8) (some (.iload_n 1, 9, [])) (cond (Nat.beq pc 9) (some (.if_icmp .gt 76, 12, [85])) (cond (Nat.beq pc 12) (some (.iload_n 1, 13, [])) (none))))) (cond (Nat.ble 3 pc) (cond (Nat.beq pc 3) (some (.iconst 0, 4, [])) (cond (Nat.beq pc 4) (some (.istore 8, 6, [])) (cond (Nat.beq pc 6) (some (.iload 8, 8, [])) (none)))) (cond (Nat.beq pc 0) (some (.lconst 0, 1, [])) (cond (Nat.beq pc 1) (some (.lstore 6, 3, [])) (none)))))))
theorem qkL_atR5_ok : ∀ pc i nx ts, qkL_atR5 pc = some (i, nx, ts) → am_cok cL_at pc (i, nx, ts) = true := fun pc i nx ts h => am_tok_ok (n := 88) (by decide +kernel) (fun pc h => by show cond (Nat.ble 88 pc) _ _ = _; rw [Nat.ble_eq_true_of_le h]; rfl) h
def qaL_atR5 : Nat → Option CE := fun k => cond (Nat.beq k 155) (some qeL_binomial) (none)
theorem qyL_atR5 (l : Launch) : ∀ k e1, qaL_atR5 k = some e1 → am_cal l layR5 RL 4 k e1 ∧ ceT e1 = 0 := q_cons ⟨am_calS (am_CT_mono layX_R5 (qtL_binomial l)) qbL_binomial (by decide) rfl (by decide) (am_tb_at 1048 (by decide +kernel) rfl), rfl⟩ (q_nil)
def qxL_atR5 : CX := (qkL_atR5, layR5, qfL, qaL_atR5, qcL, qlL, qmL, (some .long), false, none, 0, none, fun _ => none)
theorem qzL_atR5 (l : Launch) : am_sta l qxL_atR5 RL 4 cL_at := ⟨qkL_atR5_ok, layR5_ok, qfL_ok, qcL_ok, qlL_ok, am_mthP qmL_ok (by decide), fun k e1 h => (qyL_atR5 l k e1 h).1⟩
def qsL_atR5 : SP := fun as F A K => match as with
  | [.inr (.inr o), .inl n, .inr (.inl i), .inr (.inl m)] => cond (Nat.beq o 29) ((1 ≤ n ∧ n ≤ 3) ∧ (K (some (some (vL (atI (A 29) n i m)))) F A)) (False)
  | _ => False
def qeL_atR5 : CE := (yL_at, cL_at, 12, (some .long), 4, none, 0, none, 0, 4, qsL_atR5)
theorem qbL_atR5 : am_mb qeL_atR5 := ⟨am_tb_at 1047 (by decide +kernel) rfl, am_tb_at 34 (by decide +kernel) rfl, ⟨by decide, by decide, by decide +kernel⟩, by decide, am_tb_at 1046 (by decide +kernel) rfl⟩
set_option maxRecDepth 20000 in
theorem qvL_atR5_29_1 (i m : Int) (F : FF) (A : AA) (K : KK) (h : K (some (some (vL (atI (A 29) 1 i m)))) F A) : am_line qxL_atR5 238 [vR 29, vI 1, vL i, vL m] 12 F A K := by
  show am_stp qxL_atR5 (am_run qxL_atR5 (fun _ => none) (fun _ _ _ _ _ _ => False) K 238) K 0 [some (vR 29), some (vI 1), some (vL i), none, some (vL m), none, none, none, none, none, none, none] [] F A 0
  show (w32 1 < w32 0 → _) ∧ (¬ w32 1 < w32 0 → ((((-2147483648 : Int) ≤ 1 ∧ (1 : Int) < 2147483648) ∧ ((-2147483648 : Int) ≤ 0 ∧ (0 : Int) < 2147483648)) ∧ ((0 ≤ w32 0 ∧ w32 0 < 4) ∧ ((w32 0 < w32 0 → _) ∧ (¬ w32 0 < w32 0 → ((w32 0 < w32 1 → ((w32 1 < w32 1 → _) ∧ (¬ w32 1 < w32 1 → ((w32 1 < w32 1 → _) ∧ (¬ w32 1 < w32 1 → ((((-2147483648 : Int) ≤ 1 ∧ (1 : Int) < 2147483648) ∧ ((-2147483648 : Int) ≤ 1 ∧ (1 : Int) < 2147483648)) ∧ ((0 ≤ w32 1 ∧ w32 1 < 4) ∧ ((w32 0 < w32 1 → ((w32 1 < w32 1 → _) ∧ (¬ w32 1 < w32 1 → ((w32 1 < w32 1 → _) ∧ (¬ w32 1 < w32 1 → ((w32 1 < w32 2 → (K (some (some (vL ((0 + (((biI 1 0) * (A 29 (w32 0))) * (m - i))) + (((biI 1 1) * (A 29 (w32 1))) * i))))) F A)) ∧ (¬ w32 1 < w32 2 → _))))))) ∧ (¬ w32 0 < w32 1 → _))))))))) ∧ (¬ w32 0 < w32 1 → _)))))))
  refine ⟨fun q => absurd q (by decide), fun _ => ?_⟩
  refine ⟨by decide, ?_⟩
  refine ⟨by decide, ?_⟩
  refine ⟨fun q => absurd q (by decide), fun _ => ?_⟩
  refine ⟨fun _ => ?_, fun q => absurd (by decide) q⟩
  refine ⟨fun q => absurd q (by decide), fun _ => ?_⟩
  refine ⟨fun q => absurd q (by decide), fun _ => ?_⟩
  refine ⟨by decide, ?_⟩
  refine ⟨by decide, ?_⟩
  refine ⟨fun _ => ?_, fun q => absurd (by decide) q⟩
  refine ⟨fun q => absurd q (by decide), fun _ => ?_⟩
  refine ⟨fun q => absurd q (by decide), fun _ => ?_⟩
  refine ⟨fun _ => ?_, fun q => absurd (by decide) q⟩
  refine L_eq h ?_
  unfold atI
  rw [if_pos rfl]
  simp only [biI]
  (try simp (disch := decide) only [if_pos, if_neg, w32_id, Int.reduceEq, or_true, true_or, if_true, if_false, or_self, Int.reduceLT])
  grind
set_option maxRecDepth 20000 in
theorem qvL_atR5_29_2 (i m : Int) (F : FF) (A : AA) (K : KK) (h : K (some (some (vL (atI (A 29) 2 i m)))) F A) : am_line qxL_atR5 238 [vR 29, vI 2, vL i, vL m] 12 F A K := by
  show am_stp qxL_atR5 (am_run qxL_atR5 (fun _ => none) (fun _ _ _ _ _ _ => False) K 238) K 0 [some (vR 29), some (vI 2), some (vL i), none, some (vL m), none, none, none, none, none, none, none] [] F A 0
  show (w32 2 < w32 0 → _) ∧ (¬ w32 2 < w32 0 → ((((-2147483648 : Int) ≤ 2 ∧ (2 : Int) < 2147483648) ∧ ((-2147483648 : Int) ≤ 0 ∧ (0 : Int) < 2147483648)) ∧ ((0 ≤ w32 0 ∧ w32 0 < 4) ∧ ((w32 0 < w32 0 → _) ∧ (¬ w32 0 < w32 0 → ((w32 0 < w32 2 → ((w32 1 < w32 2 → ((w32 2 < w32 2 → _) ∧ (¬ w32 2 < w32 2 → ((w32 2 < w32 1 → _) ∧ (¬ w32 2 < w32 1 → ((((-2147483648 : Int) ≤ 2 ∧ (2 : Int) < 2147483648) ∧ ((-2147483648 : Int) ≤ 1 ∧ (1 : Int) < 2147483648)) ∧ ((0 ≤ w32 1 ∧ w32 1 < 4) ∧ ((w32 0 < w32 1 → ((w32 1 < w32 1 → _) ∧ (¬ w32 1 < w32 1 → ((w32 1 < w32 2 → ((w32 2 < w32 2 → _) ∧ (¬ w32 2 < w32 2 → ((w32 2 < w32 2 → _) ∧ (¬ w32 2 < w32 2 → ((((-2147483648 : Int) ≤ 2 ∧ (2 : Int) < 2147483648) ∧ ((-2147483648 : Int) ≤ 2 ∧ (2 : Int) < 2147483648)) ∧ ((0 ≤ w32 2 ∧ w32 2 < 4) ∧ ((w32 0 < w32 2 → ((w32 1 < w32 2 → ((w32 2 < w32 2 → _) ∧ (¬ w32 2 < w32 2 → ((w32 2 < w32 2 → _) ∧ (¬ w32 2 < w32 2 → ((w32 2 < w32 3 → (K (some (some (vL (((0 + ((((biI 2 0) * (A 29 (w32 0))) * (m - i)) * (m - i))) + ((((biI 2 1) * (A 29 (w32 1))) * i) * (m - i))) + ((((biI 2 2) * (A 29 (w32 2))) * i) * i))))) F A)) ∧ (¬ w32 2 < w32 3 → _))))))) ∧ (¬ w32 1 < w32 2 → _))) ∧ (¬ w32 0 < w32 2 → _))))))))) ∧ (¬ w32 1 < w32 2 → _))))) ∧ (¬ w32 0 < w32 1 → _))))))))) ∧ (¬ w32 1 < w32 2 → _))) ∧ (¬ w32 0 < w32 2 → _)))))))
  refine ⟨fun q => absurd q (by decide), fun _ => ?_⟩
  refine ⟨by decide, ?_⟩
  refine ⟨by decide, ?_⟩
  refine ⟨fun q => absurd q (by decide), fun _ => ?_⟩
  refine ⟨fun _ => ?_, fun q => absurd (by decide) q⟩
  refine ⟨fun _ => ?_, fun q => absurd (by decide) q⟩
  refine ⟨fun q => absurd q (by decide), fun _ => ?_⟩
  refine ⟨fun q => absurd q (by decide), fun _ => ?_⟩
  refine ⟨by decide, ?_⟩
  refine ⟨by decide, ?_⟩
  refine ⟨fun _ => ?_, fun q => absurd (by decide) q⟩
  refine ⟨fun q => absurd q (by decide), fun _ => ?_⟩
  refine ⟨fun _ => ?_, fun q => absurd (by decide) q⟩
  refine ⟨fun q => absurd q (by decide), fun _ => ?_⟩
  refine ⟨fun q => absurd q (by decide), fun _ => ?_⟩
  refine ⟨by decide, ?_⟩
  refine ⟨by decide, ?_⟩
  refine ⟨fun _ => ?_, fun q => absurd (by decide) q⟩
  refine ⟨fun _ => ?_, fun q => absurd (by decide) q⟩
  refine ⟨fun q => absurd q (by decide), fun _ => ?_⟩
  refine ⟨fun q => absurd q (by decide), fun _ => ?_⟩
  refine ⟨fun _ => ?_, fun q => absurd (by decide) q⟩
  refine L_eq h ?_
  unfold atI
  rw [if_neg (by decide), if_pos rfl]
  simp only [biI]
  (try simp (disch := decide) only [if_pos, if_neg, w32_id, Int.reduceEq, or_true, true_or, if_true, if_false, or_self, Int.reduceLT])
  grind
set_option maxRecDepth 20000 in
theorem qvL_atR5_29_3 (i m : Int) (F : FF) (A : AA) (K : KK) (h : K (some (some (vL (atI (A 29) 3 i m)))) F A) : am_line qxL_atR5 238 [vR 29, vI 3, vL i, vL m] 12 F A K := by
  show am_stp qxL_atR5 (am_run qxL_atR5 (fun _ => none) (fun _ _ _ _ _ _ => False) K 238) K 0 [some (vR 29), some (vI 3), some (vL i), none, some (vL m), none, none, none, none, none, none, none] [] F A 0
  show (w32 3 < w32 0 → _) ∧ (¬ w32 3 < w32 0 → ((((-2147483648 : Int) ≤ 3 ∧ (3 : Int) < 2147483648) ∧ ((-2147483648 : Int) ≤ 0 ∧ (0 : Int) < 2147483648)) ∧ ((0 ≤ w32 0 ∧ w32 0 < 4) ∧ ((w32 0 < w32 0 → _) ∧ (¬ w32 0 < w32 0 → ((w32 0 < w32 3 → ((w32 1 < w32 3 → ((w32 2 < w32 3 → ((w32 3 < w32 3 → _) ∧ (¬ w32 3 < w32 3 → ((w32 3 < w32 1 → _) ∧ (¬ w32 3 < w32 1 → ((((-2147483648 : Int) ≤ 3 ∧ (3 : Int) < 2147483648) ∧ ((-2147483648 : Int) ≤ 1 ∧ (1 : Int) < 2147483648)) ∧ ((0 ≤ w32 1 ∧ w32 1 < 4) ∧ ((w32 0 < w32 1 → ((w32 1 < w32 1 → _) ∧ (¬ w32 1 < w32 1 → ((w32 1 < w32 3 → ((w32 2 < w32 3 → ((w32 3 < w32 3 → _) ∧ (¬ w32 3 < w32 3 → ((w32 3 < w32 2 → _) ∧ (¬ w32 3 < w32 2 → ((((-2147483648 : Int) ≤ 3 ∧ (3 : Int) < 2147483648) ∧ ((-2147483648 : Int) ≤ 2 ∧ (2 : Int) < 2147483648)) ∧ ((0 ≤ w32 2 ∧ w32 2 < 4) ∧ ((w32 0 < w32 2 → ((w32 1 < w32 2 → ((w32 2 < w32 2 → _) ∧ (¬ w32 2 < w32 2 → ((w32 2 < w32 3 → ((w32 3 < w32 3 → _) ∧ (¬ w32 3 < w32 3 → ((w32 3 < w32 3 → _) ∧ (¬ w32 3 < w32 3 → ((((-2147483648 : Int) ≤ 3 ∧ (3 : Int) < 2147483648) ∧ ((-2147483648 : Int) ≤ 3 ∧ (3 : Int) < 2147483648)) ∧ ((0 ≤ w32 3 ∧ w32 3 < 4) ∧ ((w32 0 < w32 3 → ((w32 1 < w32 3 → ((w32 2 < w32 3 → ((w32 3 < w32 3 → _) ∧ (¬ w32 3 < w32 3 → ((w32 3 < w32 3 → _) ∧ (¬ w32 3 < w32 3 → ((w32 3 < w32 4 → (K (some (some (vL ((((0 + (((((biI 3 0) * (A 29 (w32 0))) * (m - i)) * (m - i)) * (m - i))) + (((((biI 3 1) * (A 29 (w32 1))) * i) * (m - i)) * (m - i))) + (((((biI 3 2) * (A 29 (w32 2))) * i) * i) * (m - i))) + (((((biI 3 3) * (A 29 (w32 3))) * i) * i) * i))))) F A)) ∧ (¬ w32 3 < w32 4 → _))))))) ∧ (¬ w32 2 < w32 3 → _))) ∧ (¬ w32 1 < w32 3 → _))) ∧ (¬ w32 0 < w32 3 → _))))))))) ∧ (¬ w32 2 < w32 3 → _))))) ∧ (¬ w32 1 < w32 2 → _))) ∧ (¬ w32 0 < w32 2 → _))))))))) ∧ (¬ w32 2 < w32 3 → _))) ∧ (¬ w32 1 < w32 3 → _))))) ∧ (¬ w32 0 < w32 1 → _))))))))) ∧ (¬ w32 2 < w32 3 → _))) ∧ (¬ w32 1 < w32 3 → _))) ∧ (¬ w32 0 < w32 3 → _)))))))
  refine ⟨fun q => absurd q (by decide), fun _ => ?_⟩
  refine ⟨by decide, ?_⟩
  refine ⟨by decide, ?_⟩
  refine ⟨fun q => absurd q (by decide), fun _ => ?_⟩
  refine ⟨fun _ => ?_, fun q => absurd (by decide) q⟩
  refine ⟨fun _ => ?_, fun q => absurd (by decide) q⟩
  refine ⟨fun _ => ?_, fun q => absurd (by decide) q⟩
  refine ⟨fun q => absurd q (by decide), fun _ => ?_⟩
  refine ⟨fun q => absurd q (by decide), fun _ => ?_⟩
  refine ⟨by decide, ?_⟩
  refine ⟨by decide, ?_⟩
  refine ⟨fun _ => ?_, fun q => absurd (by decide) q⟩
  refine ⟨fun q => absurd q (by decide), fun _ => ?_⟩
  refine ⟨fun _ => ?_, fun q => absurd (by decide) q⟩
  refine ⟨fun _ => ?_, fun q => absurd (by decide) q⟩
  refine ⟨fun q => absurd q (by decide), fun _ => ?_⟩
  refine ⟨fun q => absurd q (by decide), fun _ => ?_⟩
  refine ⟨by decide, ?_⟩
  refine ⟨by decide, ?_⟩
  refine ⟨fun _ => ?_, fun q => absurd (by decide) q⟩
  refine ⟨fun _ => ?_, fun q => absurd (by decide) q⟩
  refine ⟨fun q => absurd q (by decide), fun _ => ?_⟩
  refine ⟨fun _ => ?_, fun q => absurd (by decide) q⟩
  refine ⟨fun q => absurd q (by decide), fun _ => ?_⟩
  refine ⟨fun q => absurd q (by decide), fun _ => ?_⟩
  refine ⟨by decide, ?_⟩
  refine ⟨by decide, ?_⟩
  refine ⟨fun _ => ?_, fun q => absurd (by decide) q⟩
  refine ⟨fun _ => ?_, fun q => absurd (by decide) q⟩
  refine ⟨fun _ => ?_, fun q => absurd (by decide) q⟩
  refine ⟨fun q => absurd q (by decide), fun _ => ?_⟩
  refine ⟨fun q => absurd q (by decide), fun _ => ?_⟩
  refine ⟨fun _ => ?_, fun q => absurd (by decide) q⟩
  refine L_eq h ?_
  unfold atI
  rw [if_neg (by decide), if_neg (by decide)]
  simp only [biI]
  (try simp (disch := decide) only [if_pos, if_neg, w32_id, Int.reduceEq, or_true, true_or, if_true, if_false, or_self, Int.reduceLT])
  grind
theorem qvL_atR5_29 (n i m : Int) (F : FF) (A : AA) (K : KK) (h : (1 ≤ n ∧ n ≤ 3) ∧ (K (some (some (vL (atI (A 29) n i m)))) F A)) : am_line qxL_atR5 238 [vR 29, vI n, vL i, vL m] 12 F A K := by
  obtain ⟨hp, h⟩ := h
  rcases (show n = 1 ∨ n = 2 ∨ n = 3 by omega) with rfl | rfl | rfl
  · exact qvL_atR5_29_1 i m F A K h
  · exact qvL_atR5_29_2 i m F A K h
  · exact qvL_atR5_29_3 i m F A K h
theorem qtL_atR5 (l : Launch) : am_CT l layR5 qeL_atR5 := am_met0 rfl (by decide +kernel) rfl rfl rfl rfl rfl (fun _ => rfl) rfl (qzL_atR5 l) (fun k e1 h => (qyL_atR5 l k e1 h).2) (fun as F A K h => by
  replace h : qsL_atR5 as F A K := h
  unfold qsL_atR5 at h
  split at h
  · rename_i o n i m
    refine ⟨by first | exact Nat.le_of_ble_eq_true rfl | simp [am_fl, am_cat], ?_⟩
    replace h := am_cond2 h
    rcases h with ⟨hb, h⟩ | h
    · skip
      have hb0 := hb
      have hb0 := am_bq hb0
      subst hb0
      exact am_way_line (qvL_atR5_29 n i m F A K h)
    exact h.elim
  · exact h.elim)
def qkL_atR6 : Nat → Option CI := fun pc => cond (Nat.ble 88 pc) none (cond (Nat.ble 39 pc) (cond (Nat.ble 63 pc) (cond (Nat.ble 76 pc) (cond (Nat.ble 82 pc) (cond (Nat.beq pc 82) (some (.goto (-76), 85, [6])) (cond (Nat.beq pc 85) (some (.lload 6, 87, [])) (cond (Nat.beq pc 87) (some (.lreturn, 88, [])) (none)))) (cond (Nat.beq pc 76) (some (.ladd, 77, [])) (cond (Nat.beq pc 77) (some (.lstore 6, 79, [])) (cond (Nat.beq pc 79) (some (.iinc 8 1, 82, [])) (none))))) (cond (Nat.ble 69 pc) (cond (Nat.beq pc 69) (some (.goto (-18), 72, [51])) (cond (Nat.beq pc 72) (some (.lload 6, 74, [])) (cond (Nat.beq pc 74) (some (.lload 9, 76, [])) (none)))) (cond (Nat.beq pc 63) (some (.lmul, 64, [])) (cond (Nat.beq pc 64) (some (.lstore 9, 66, [])) (cond (Nat.beq pc 66) (some (.iinc 11 1, 69, [])) (none)))))) (cond (Nat.ble 53 pc) (cond (Nat.ble 59 pc) (cond (Nat.beq pc 59) (some (.lload 4, 61, [])) (cond (Nat.beq pc 61) (some (.lload_n 2, 62, [])) (cond (Nat.beq pc 62) (some (.lsub, 63, [])) (none)))) (cond (Nat.beq pc 53) (some (.iload_n 1, 54, [])) (cond (Nat.beq pc 54) (some (.if_icmp .ge 18, 57, [72])) (cond (Nat.beq pc 57) (some (.lload 9, 59, [])) (none))))) (cond (Nat.ble 47 pc) (cond (Nat.beq pc 47) (some (.iload 8, 49, [])) (cond (Nat.beq pc 49) (some (.istore 11, 51, [])) (cond (Nat.beq pc 51) (some (.iload 11, 53, [])) (none)))) (cond (Nat.beq pc 39) (some (.lstore 9, 41, [])) (cond (Nat.beq pc 41) (some (.iinc 11 1, 44, [])) (cond (Nat.beq pc 44) (some (.goto (-16), 47, [28])) (none))))))) (cond (Nat.ble 19 pc) (cond (Nat.ble 28 pc) (cond (Nat.ble 35 pc) (cond (Nat.beq pc 35) (some (.lload 9, 37, [])) (cond (Nat.beq pc 37) (some (.lload_n 2, 38, [])) (cond (Nat.beq pc 38) (some (.lmul, 39, [])) (none)))) (cond (Nat.beq pc 28) (some (.iload 11, 30, [])) (cond (Nat.beq pc 30) (some (.iload 8, 32, [])) (cond (Nat.beq pc 32) (some (.if_icmp .ge 15, 35, [47])) (none))))) (cond (Nat.ble 23 pc) (cond (Nat.beq pc 23) (some (.lstore 9, 25, [])) (cond (Nat.beq pc 25) (some (.iconst 0, 26, [])) (cond (Nat.beq pc 26) (some (.istore 11, 28, [])) (none)))) (cond (Nat.beq pc 19) (some (.iload 8, 21, [])) (cond (Nat.beq pc 21) (some (.laload, 22, [])) (cond (Nat.beq pc 22) (some (.lmul, 23, [])) (none)))))) (cond (Nat.ble 8 pc) (cond (Nat.ble 13 pc) (cond (Nat.beq pc 13) (some (.iload 8, 15, [])) (cond (Nat.beq pc 15) (some (.invokestatic 155, 18, [])) (cond (Nat.beq pc 18) (some (.aload_n 0, 19, [])) (none)))) (cond (Nat.beq pc 8) (some (.iload_n 1, 9, [])) (cond (Nat.beq pc 9) (some (.if_icmp .gt 76, 12, [85])) (cond (Nat.beq pc 12) (some (.iload_n 1, 13, [])) (none))))) (cond (Nat.ble 3 pc) (cond (Nat.beq pc 3) (some (.iconst 0, 4, [])) (cond (Nat.beq pc 4) (some (.istore 8, 6, [])) (cond (Nat.beq pc 6) (some (.iload 8, 8, [])) (none)))) (cond (Nat.beq pc 0) (some (.lconst 0, 1, [])) (cond (Nat.beq pc 1) (some (.lstore 6, 3, [])) (none)))))))
theorem qkL_atR6_ok : ∀ pc i nx ts, qkL_atR6 pc = some (i, nx, ts) → am_cok cL_at pc (i, nx, ts) = true := fun pc i nx ts h => am_tok_ok (n := 88) (by decide +kernel) (fun pc h => by show cond (Nat.ble 88 pc) _ _ = _; rw [Nat.ble_eq_true_of_le h]; rfl) h
def qaL_atR6 : Nat → Option CE := fun k => cond (Nat.beq k 155) (some qeL_binomial) (none)
theorem qyL_atR6 (l : Launch) : ∀ k e1, qaL_atR6 k = some e1 → am_cal l layR6 RL 4 k e1 ∧ ceT e1 = 0 := q_cons ⟨am_calS (am_CT_mono layX_R6 (qtL_binomial l)) qbL_binomial (by decide) rfl (by decide) (am_tb_at 1048 (by decide +kernel) rfl), rfl⟩ (q_nil)
def qxL_atR6 : CX := (qkL_atR6, layR6, qfL, qaL_atR6, qcL, qlL, qmL, (some .long), false, none, 0, none, fun _ => none)
theorem qzL_atR6 (l : Launch) : am_sta l qxL_atR6 RL 4 cL_at := ⟨qkL_atR6_ok, layR6_ok, qfL_ok, qcL_ok, qlL_ok, am_mthP qmL_ok (by decide), fun k e1 h => (qyL_atR6 l k e1 h).1⟩
def qsL_atR6 : SP := fun as F A K => match as with
  | [.inr (.inr o), .inl n, .inr (.inl i), .inr (.inl m)] => cond (Nat.beq o 29) ((1 ≤ n ∧ n ≤ 3) ∧ (K (some (some (vL (atI (A 29) n i m)))) F A)) (cond (Nat.beq o 30) ((1 ≤ n ∧ n ≤ 3) ∧ (K (some (some (vL (atI (A 30) n i m)))) F A)) (False))
  | _ => False
def qeL_atR6 : CE := (yL_at, cL_at, 12, (some .long), 4, none, 0, none, 0, 4, qsL_atR6)
theorem qbL_atR6 : am_mb qeL_atR6 := ⟨am_tb_at 1047 (by decide +kernel) rfl, am_tb_at 34 (by decide +kernel) rfl, ⟨by decide, by decide, by decide +kernel⟩, by decide, am_tb_at 1046 (by decide +kernel) rfl⟩
set_option maxRecDepth 20000 in
theorem qvL_atR6_29_1 (i m : Int) (F : FF) (A : AA) (K : KK) (h : K (some (some (vL (atI (A 29) 1 i m)))) F A) : am_line qxL_atR6 238 [vR 29, vI 1, vL i, vL m] 12 F A K := by
  show am_stp qxL_atR6 (am_run qxL_atR6 (fun _ => none) (fun _ _ _ _ _ _ => False) K 238) K 0 [some (vR 29), some (vI 1), some (vL i), none, some (vL m), none, none, none, none, none, none, none] [] F A 0
  show (w32 1 < w32 0 → _) ∧ (¬ w32 1 < w32 0 → ((((-2147483648 : Int) ≤ 1 ∧ (1 : Int) < 2147483648) ∧ ((-2147483648 : Int) ≤ 0 ∧ (0 : Int) < 2147483648)) ∧ ((0 ≤ w32 0 ∧ w32 0 < 4) ∧ ((w32 0 < w32 0 → _) ∧ (¬ w32 0 < w32 0 → ((w32 0 < w32 1 → ((w32 1 < w32 1 → _) ∧ (¬ w32 1 < w32 1 → ((w32 1 < w32 1 → _) ∧ (¬ w32 1 < w32 1 → ((((-2147483648 : Int) ≤ 1 ∧ (1 : Int) < 2147483648) ∧ ((-2147483648 : Int) ≤ 1 ∧ (1 : Int) < 2147483648)) ∧ ((0 ≤ w32 1 ∧ w32 1 < 4) ∧ ((w32 0 < w32 1 → ((w32 1 < w32 1 → _) ∧ (¬ w32 1 < w32 1 → ((w32 1 < w32 1 → _) ∧ (¬ w32 1 < w32 1 → ((w32 1 < w32 2 → (K (some (some (vL ((0 + (((biI 1 0) * (A 29 (w32 0))) * (m - i))) + (((biI 1 1) * (A 29 (w32 1))) * i))))) F A)) ∧ (¬ w32 1 < w32 2 → _))))))) ∧ (¬ w32 0 < w32 1 → _))))))))) ∧ (¬ w32 0 < w32 1 → _)))))))
  refine ⟨fun q => absurd q (by decide), fun _ => ?_⟩
  refine ⟨by decide, ?_⟩
  refine ⟨by decide, ?_⟩
  refine ⟨fun q => absurd q (by decide), fun _ => ?_⟩
  refine ⟨fun _ => ?_, fun q => absurd (by decide) q⟩
  refine ⟨fun q => absurd q (by decide), fun _ => ?_⟩
  refine ⟨fun q => absurd q (by decide), fun _ => ?_⟩
  refine ⟨by decide, ?_⟩
  refine ⟨by decide, ?_⟩
  refine ⟨fun _ => ?_, fun q => absurd (by decide) q⟩
  refine ⟨fun q => absurd q (by decide), fun _ => ?_⟩
  refine ⟨fun q => absurd q (by decide), fun _ => ?_⟩
  refine ⟨fun _ => ?_, fun q => absurd (by decide) q⟩
  refine L_eq h ?_
  unfold atI
  rw [if_pos rfl]
  simp only [biI]
  (try simp (disch := decide) only [if_pos, if_neg, w32_id, Int.reduceEq, or_true, true_or, if_true, if_false, or_self, Int.reduceLT])
  grind
set_option maxRecDepth 20000 in
theorem qvL_atR6_29_2 (i m : Int) (F : FF) (A : AA) (K : KK) (h : K (some (some (vL (atI (A 29) 2 i m)))) F A) : am_line qxL_atR6 238 [vR 29, vI 2, vL i, vL m] 12 F A K := by
  show am_stp qxL_atR6 (am_run qxL_atR6 (fun _ => none) (fun _ _ _ _ _ _ => False) K 238) K 0 [some (vR 29), some (vI 2), some (vL i), none, some (vL m), none, none, none, none, none, none, none] [] F A 0
  show (w32 2 < w32 0 → _) ∧ (¬ w32 2 < w32 0 → ((((-2147483648 : Int) ≤ 2 ∧ (2 : Int) < 2147483648) ∧ ((-2147483648 : Int) ≤ 0 ∧ (0 : Int) < 2147483648)) ∧ ((0 ≤ w32 0 ∧ w32 0 < 4) ∧ ((w32 0 < w32 0 → _) ∧ (¬ w32 0 < w32 0 → ((w32 0 < w32 2 → ((w32 1 < w32 2 → ((w32 2 < w32 2 → _) ∧ (¬ w32 2 < w32 2 → ((w32 2 < w32 1 → _) ∧ (¬ w32 2 < w32 1 → ((((-2147483648 : Int) ≤ 2 ∧ (2 : Int) < 2147483648) ∧ ((-2147483648 : Int) ≤ 1 ∧ (1 : Int) < 2147483648)) ∧ ((0 ≤ w32 1 ∧ w32 1 < 4) ∧ ((w32 0 < w32 1 → ((w32 1 < w32 1 → _) ∧ (¬ w32 1 < w32 1 → ((w32 1 < w32 2 → ((w32 2 < w32 2 → _) ∧ (¬ w32 2 < w32 2 → ((w32 2 < w32 2 → _) ∧ (¬ w32 2 < w32 2 → ((((-2147483648 : Int) ≤ 2 ∧ (2 : Int) < 2147483648) ∧ ((-2147483648 : Int) ≤ 2 ∧ (2 : Int) < 2147483648)) ∧ ((0 ≤ w32 2 ∧ w32 2 < 4) ∧ ((w32 0 < w32 2 → ((w32 1 < w32 2 → ((w32 2 < w32 2 → _) ∧ (¬ w32 2 < w32 2 → ((w32 2 < w32 2 → _) ∧ (¬ w32 2 < w32 2 → ((w32 2 < w32 3 → (K (some (some (vL (((0 + ((((biI 2 0) * (A 29 (w32 0))) * (m - i)) * (m - i))) + ((((biI 2 1) * (A 29 (w32 1))) * i) * (m - i))) + ((((biI 2 2) * (A 29 (w32 2))) * i) * i))))) F A)) ∧ (¬ w32 2 < w32 3 → _))))))) ∧ (¬ w32 1 < w32 2 → _))) ∧ (¬ w32 0 < w32 2 → _))))))))) ∧ (¬ w32 1 < w32 2 → _))))) ∧ (¬ w32 0 < w32 1 → _))))))))) ∧ (¬ w32 1 < w32 2 → _))) ∧ (¬ w32 0 < w32 2 → _)))))))
  refine ⟨fun q => absurd q (by decide), fun _ => ?_⟩
  refine ⟨by decide, ?_⟩
  refine ⟨by decide, ?_⟩
  refine ⟨fun q => absurd q (by decide), fun _ => ?_⟩
  refine ⟨fun _ => ?_, fun q => absurd (by decide) q⟩
  refine ⟨fun _ => ?_, fun q => absurd (by decide) q⟩
  refine ⟨fun q => absurd q (by decide), fun _ => ?_⟩
  refine ⟨fun q => absurd q (by decide), fun _ => ?_⟩
  refine ⟨by decide, ?_⟩
  refine ⟨by decide, ?_⟩
  refine ⟨fun _ => ?_, fun q => absurd (by decide) q⟩
  refine ⟨fun q => absurd q (by decide), fun _ => ?_⟩
  refine ⟨fun _ => ?_, fun q => absurd (by decide) q⟩
  refine ⟨fun q => absurd q (by decide), fun _ => ?_⟩
  refine ⟨fun q => absurd q (by decide), fun _ => ?_⟩
  refine ⟨by decide, ?_⟩
  refine ⟨by decide, ?_⟩
  refine ⟨fun _ => ?_, fun q => absurd (by decide) q⟩
  refine ⟨fun _ => ?_, fun q => absurd (by decide) q⟩
  refine ⟨fun q => absurd q (by decide), fun _ => ?_⟩
  refine ⟨fun q => absurd q (by decide), fun _ => ?_⟩
  refine ⟨fun _ => ?_, fun q => absurd (by decide) q⟩
  refine L_eq h ?_
  unfold atI
  rw [if_neg (by decide), if_pos rfl]
  simp only [biI]
  (try simp (disch := decide) only [if_pos, if_neg, w32_id, Int.reduceEq, or_true, true_or, if_true, if_false, or_self, Int.reduceLT])
  grind
set_option maxRecDepth 20000 in
theorem qvL_atR6_29_3 (i m : Int) (F : FF) (A : AA) (K : KK) (h : K (some (some (vL (atI (A 29) 3 i m)))) F A) : am_line qxL_atR6 238 [vR 29, vI 3, vL i, vL m] 12 F A K := by
  show am_stp qxL_atR6 (am_run qxL_atR6 (fun _ => none) (fun _ _ _ _ _ _ => False) K 238) K 0 [some (vR 29), some (vI 3), some (vL i), none, some (vL m), none, none, none, none, none, none, none] [] F A 0
  show (w32 3 < w32 0 → _) ∧ (¬ w32 3 < w32 0 → ((((-2147483648 : Int) ≤ 3 ∧ (3 : Int) < 2147483648) ∧ ((-2147483648 : Int) ≤ 0 ∧ (0 : Int) < 2147483648)) ∧ ((0 ≤ w32 0 ∧ w32 0 < 4) ∧ ((w32 0 < w32 0 → _) ∧ (¬ w32 0 < w32 0 → ((w32 0 < w32 3 → ((w32 1 < w32 3 → ((w32 2 < w32 3 → ((w32 3 < w32 3 → _) ∧ (¬ w32 3 < w32 3 → ((w32 3 < w32 1 → _) ∧ (¬ w32 3 < w32 1 → ((((-2147483648 : Int) ≤ 3 ∧ (3 : Int) < 2147483648) ∧ ((-2147483648 : Int) ≤ 1 ∧ (1 : Int) < 2147483648)) ∧ ((0 ≤ w32 1 ∧ w32 1 < 4) ∧ ((w32 0 < w32 1 → ((w32 1 < w32 1 → _) ∧ (¬ w32 1 < w32 1 → ((w32 1 < w32 3 → ((w32 2 < w32 3 → ((w32 3 < w32 3 → _) ∧ (¬ w32 3 < w32 3 → ((w32 3 < w32 2 → _) ∧ (¬ w32 3 < w32 2 → ((((-2147483648 : Int) ≤ 3 ∧ (3 : Int) < 2147483648) ∧ ((-2147483648 : Int) ≤ 2 ∧ (2 : Int) < 2147483648)) ∧ ((0 ≤ w32 2 ∧ w32 2 < 4) ∧ ((w32 0 < w32 2 → ((w32 1 < w32 2 → ((w32 2 < w32 2 → _) ∧ (¬ w32 2 < w32 2 → ((w32 2 < w32 3 → ((w32 3 < w32 3 → _) ∧ (¬ w32 3 < w32 3 → ((w32 3 < w32 3 → _) ∧ (¬ w32 3 < w32 3 → ((((-2147483648 : Int) ≤ 3 ∧ (3 : Int) < 2147483648) ∧ ((-2147483648 : Int) ≤ 3 ∧ (3 : Int) < 2147483648)) ∧ ((0 ≤ w32 3 ∧ w32 3 < 4) ∧ ((w32 0 < w32 3 → ((w32 1 < w32 3 → ((w32 2 < w32 3 → ((w32 3 < w32 3 → _) ∧ (¬ w32 3 < w32 3 → ((w32 3 < w32 3 → _) ∧ (¬ w32 3 < w32 3 → ((w32 3 < w32 4 → (K (some (some (vL ((((0 + (((((biI 3 0) * (A 29 (w32 0))) * (m - i)) * (m - i)) * (m - i))) + (((((biI 3 1) * (A 29 (w32 1))) * i) * (m - i)) * (m - i))) + (((((biI 3 2) * (A 29 (w32 2))) * i) * i) * (m - i))) + (((((biI 3 3) * (A 29 (w32 3))) * i) * i) * i))))) F A)) ∧ (¬ w32 3 < w32 4 → _))))))) ∧ (¬ w32 2 < w32 3 → _))) ∧ (¬ w32 1 < w32 3 → _))) ∧ (¬ w32 0 < w32 3 → _))))))))) ∧ (¬ w32 2 < w32 3 → _))))) ∧ (¬ w32 1 < w32 2 → _))) ∧ (¬ w32 0 < w32 2 → _))))))))) ∧ (¬ w32 2 < w32 3 → _))) ∧ (¬ w32 1 < w32 3 → _))))) ∧ (¬ w32 0 < w32 1 → _))))))))) ∧ (¬ w32 2 < w32 3 → _))) ∧ (¬ w32 1 < w32 3 → _))) ∧ (¬ w32 0 < w32 3 → _)))))))
  refine ⟨fun q => absurd q (by decide), fun _ => ?_⟩
  refine ⟨by decide, ?_⟩
  refine ⟨by decide, ?_⟩
  refine ⟨fun q => absurd q (by decide), fun _ => ?_⟩
  refine ⟨fun _ => ?_, fun q => absurd (by decide) q⟩
  refine ⟨fun _ => ?_, fun q => absurd (by decide) q⟩
  refine ⟨fun _ => ?_, fun q => absurd (by decide) q⟩
  refine ⟨fun q => absurd q (by decide), fun _ => ?_⟩
  refine ⟨fun q => absurd q (by decide), fun _ => ?_⟩
  refine ⟨by decide, ?_⟩
  refine ⟨by decide, ?_⟩
  refine ⟨fun _ => ?_, fun q => absurd (by decide) q⟩
  refine ⟨fun q => absurd q (by decide), fun _ => ?_⟩
  refine ⟨fun _ => ?_, fun q => absurd (by decide) q⟩
  refine ⟨fun _ => ?_, fun q => absurd (by decide) q⟩
  refine ⟨fun q => absurd q (by decide), fun _ => ?_⟩
  refine ⟨fun q => absurd q (by decide), fun _ => ?_⟩
  refine ⟨by decide, ?_⟩
  refine ⟨by decide, ?_⟩
  refine ⟨fun _ => ?_, fun q => absurd (by decide) q⟩
  refine ⟨fun _ => ?_, fun q => absurd (by decide) q⟩
  refine ⟨fun q => absurd q (by decide), fun _ => ?_⟩
  refine ⟨fun _ => ?_, fun q => absurd (by decide) q⟩
  refine ⟨fun q => absurd q (by decide), fun _ => ?_⟩
  refine ⟨fun q => absurd q (by decide), fun _ => ?_⟩
  refine ⟨by decide, ?_⟩
  refine ⟨by decide, ?_⟩
  refine ⟨fun _ => ?_, fun q => absurd (by decide) q⟩
  refine ⟨fun _ => ?_, fun q => absurd (by decide) q⟩
  refine ⟨fun _ => ?_, fun q => absurd (by decide) q⟩
  refine ⟨fun q => absurd q (by decide), fun _ => ?_⟩
  refine ⟨fun q => absurd q (by decide), fun _ => ?_⟩
  refine ⟨fun _ => ?_, fun q => absurd (by decide) q⟩
  refine L_eq h ?_
  unfold atI
  rw [if_neg (by decide), if_neg (by decide)]
  simp only [biI]
  (try simp (disch := decide) only [if_pos, if_neg, w32_id, Int.reduceEq, or_true, true_or, if_true, if_false, or_self, Int.reduceLT])
  grind
theorem qvL_atR6_29 (n i m : Int) (F : FF) (A : AA) (K : KK) (h : (1 ≤ n ∧ n ≤ 3) ∧ (K (some (some (vL (atI (A 29) n i m)))) F A)) : am_line qxL_atR6 238 [vR 29, vI n, vL i, vL m] 12 F A K := by
  obtain ⟨hp, h⟩ := h
  rcases (show n = 1 ∨ n = 2 ∨ n = 3 by omega) with rfl | rfl | rfl
  · exact qvL_atR6_29_1 i m F A K h
  · exact qvL_atR6_29_2 i m F A K h
  · exact qvL_atR6_29_3 i m F A K h
set_option maxRecDepth 20000 in
theorem qvL_atR6_30_1 (i m : Int) (F : FF) (A : AA) (K : KK) (h : K (some (some (vL (atI (A 30) 1 i m)))) F A) : am_line qxL_atR6 238 [vR 30, vI 1, vL i, vL m] 12 F A K := by
  show am_stp qxL_atR6 (am_run qxL_atR6 (fun _ => none) (fun _ _ _ _ _ _ => False) K 238) K 0 [some (vR 30), some (vI 1), some (vL i), none, some (vL m), none, none, none, none, none, none, none] [] F A 0
  show (w32 1 < w32 0 → _) ∧ (¬ w32 1 < w32 0 → ((((-2147483648 : Int) ≤ 1 ∧ (1 : Int) < 2147483648) ∧ ((-2147483648 : Int) ≤ 0 ∧ (0 : Int) < 2147483648)) ∧ ((0 ≤ w32 0 ∧ w32 0 < 4) ∧ ((w32 0 < w32 0 → _) ∧ (¬ w32 0 < w32 0 → ((w32 0 < w32 1 → ((w32 1 < w32 1 → _) ∧ (¬ w32 1 < w32 1 → ((w32 1 < w32 1 → _) ∧ (¬ w32 1 < w32 1 → ((((-2147483648 : Int) ≤ 1 ∧ (1 : Int) < 2147483648) ∧ ((-2147483648 : Int) ≤ 1 ∧ (1 : Int) < 2147483648)) ∧ ((0 ≤ w32 1 ∧ w32 1 < 4) ∧ ((w32 0 < w32 1 → ((w32 1 < w32 1 → _) ∧ (¬ w32 1 < w32 1 → ((w32 1 < w32 1 → _) ∧ (¬ w32 1 < w32 1 → ((w32 1 < w32 2 → (K (some (some (vL ((0 + (((biI 1 0) * (A 30 (w32 0))) * (m - i))) + (((biI 1 1) * (A 30 (w32 1))) * i))))) F A)) ∧ (¬ w32 1 < w32 2 → _))))))) ∧ (¬ w32 0 < w32 1 → _))))))))) ∧ (¬ w32 0 < w32 1 → _)))))))
  refine ⟨fun q => absurd q (by decide), fun _ => ?_⟩
  refine ⟨by decide, ?_⟩
  refine ⟨by decide, ?_⟩
  refine ⟨fun q => absurd q (by decide), fun _ => ?_⟩
  refine ⟨fun _ => ?_, fun q => absurd (by decide) q⟩
  refine ⟨fun q => absurd q (by decide), fun _ => ?_⟩
  refine ⟨fun q => absurd q (by decide), fun _ => ?_⟩
  refine ⟨by decide, ?_⟩
  refine ⟨by decide, ?_⟩
  refine ⟨fun _ => ?_, fun q => absurd (by decide) q⟩
  refine ⟨fun q => absurd q (by decide), fun _ => ?_⟩
  refine ⟨fun q => absurd q (by decide), fun _ => ?_⟩
  refine ⟨fun _ => ?_, fun q => absurd (by decide) q⟩
  refine L_eq h ?_
  unfold atI
  rw [if_pos rfl]
  simp only [biI]
  (try simp (disch := decide) only [if_pos, if_neg, w32_id, Int.reduceEq, or_true, true_or, if_true, if_false, or_self, Int.reduceLT])
  grind
set_option maxRecDepth 20000 in
theorem qvL_atR6_30_2 (i m : Int) (F : FF) (A : AA) (K : KK) (h : K (some (some (vL (atI (A 30) 2 i m)))) F A) : am_line qxL_atR6 238 [vR 30, vI 2, vL i, vL m] 12 F A K := by
  show am_stp qxL_atR6 (am_run qxL_atR6 (fun _ => none) (fun _ _ _ _ _ _ => False) K 238) K 0 [some (vR 30), some (vI 2), some (vL i), none, some (vL m), none, none, none, none, none, none, none] [] F A 0
  show (w32 2 < w32 0 → _) ∧ (¬ w32 2 < w32 0 → ((((-2147483648 : Int) ≤ 2 ∧ (2 : Int) < 2147483648) ∧ ((-2147483648 : Int) ≤ 0 ∧ (0 : Int) < 2147483648)) ∧ ((0 ≤ w32 0 ∧ w32 0 < 4) ∧ ((w32 0 < w32 0 → _) ∧ (¬ w32 0 < w32 0 → ((w32 0 < w32 2 → ((w32 1 < w32 2 → ((w32 2 < w32 2 → _) ∧ (¬ w32 2 < w32 2 → ((w32 2 < w32 1 → _) ∧ (¬ w32 2 < w32 1 → ((((-2147483648 : Int) ≤ 2 ∧ (2 : Int) < 2147483648) ∧ ((-2147483648 : Int) ≤ 1 ∧ (1 : Int) < 2147483648)) ∧ ((0 ≤ w32 1 ∧ w32 1 < 4) ∧ ((w32 0 < w32 1 → ((w32 1 < w32 1 → _) ∧ (¬ w32 1 < w32 1 → ((w32 1 < w32 2 → ((w32 2 < w32 2 → _) ∧ (¬ w32 2 < w32 2 → ((w32 2 < w32 2 → _) ∧ (¬ w32 2 < w32 2 → ((((-2147483648 : Int) ≤ 2 ∧ (2 : Int) < 2147483648) ∧ ((-2147483648 : Int) ≤ 2 ∧ (2 : Int) < 2147483648)) ∧ ((0 ≤ w32 2 ∧ w32 2 < 4) ∧ ((w32 0 < w32 2 → ((w32 1 < w32 2 → ((w32 2 < w32 2 → _) ∧ (¬ w32 2 < w32 2 → ((w32 2 < w32 2 → _) ∧ (¬ w32 2 < w32 2 → ((w32 2 < w32 3 → (K (some (some (vL (((0 + ((((biI 2 0) * (A 30 (w32 0))) * (m - i)) * (m - i))) + ((((biI 2 1) * (A 30 (w32 1))) * i) * (m - i))) + ((((biI 2 2) * (A 30 (w32 2))) * i) * i))))) F A)) ∧ (¬ w32 2 < w32 3 → _))))))) ∧ (¬ w32 1 < w32 2 → _))) ∧ (¬ w32 0 < w32 2 → _))))))))) ∧ (¬ w32 1 < w32 2 → _))))) ∧ (¬ w32 0 < w32 1 → _))))))))) ∧ (¬ w32 1 < w32 2 → _))) ∧ (¬ w32 0 < w32 2 → _)))))))
  refine ⟨fun q => absurd q (by decide), fun _ => ?_⟩
  refine ⟨by decide, ?_⟩
  refine ⟨by decide, ?_⟩
  refine ⟨fun q => absurd q (by decide), fun _ => ?_⟩
  refine ⟨fun _ => ?_, fun q => absurd (by decide) q⟩
  refine ⟨fun _ => ?_, fun q => absurd (by decide) q⟩
  refine ⟨fun q => absurd q (by decide), fun _ => ?_⟩
  refine ⟨fun q => absurd q (by decide), fun _ => ?_⟩
  refine ⟨by decide, ?_⟩
  refine ⟨by decide, ?_⟩
  refine ⟨fun _ => ?_, fun q => absurd (by decide) q⟩
  refine ⟨fun q => absurd q (by decide), fun _ => ?_⟩
  refine ⟨fun _ => ?_, fun q => absurd (by decide) q⟩
  refine ⟨fun q => absurd q (by decide), fun _ => ?_⟩
  refine ⟨fun q => absurd q (by decide), fun _ => ?_⟩
  refine ⟨by decide, ?_⟩
  refine ⟨by decide, ?_⟩
  refine ⟨fun _ => ?_, fun q => absurd (by decide) q⟩
  refine ⟨fun _ => ?_, fun q => absurd (by decide) q⟩
  refine ⟨fun q => absurd q (by decide), fun _ => ?_⟩
  refine ⟨fun q => absurd q (by decide), fun _ => ?_⟩
  refine ⟨fun _ => ?_, fun q => absurd (by decide) q⟩
  refine L_eq h ?_
  unfold atI
  rw [if_neg (by decide), if_pos rfl]
  simp only [biI]
  (try simp (disch := decide) only [if_pos, if_neg, w32_id, Int.reduceEq, or_true, true_or, if_true, if_false, or_self, Int.reduceLT])
  grind
set_option maxRecDepth 20000 in
theorem qvL_atR6_30_3 (i m : Int) (F : FF) (A : AA) (K : KK) (h : K (some (some (vL (atI (A 30) 3 i m)))) F A) : am_line qxL_atR6 238 [vR 30, vI 3, vL i, vL m] 12 F A K := by
  show am_stp qxL_atR6 (am_run qxL_atR6 (fun _ => none) (fun _ _ _ _ _ _ => False) K 238) K 0 [some (vR 30), some (vI 3), some (vL i), none, some (vL m), none, none, none, none, none, none, none] [] F A 0
  show (w32 3 < w32 0 → _) ∧ (¬ w32 3 < w32 0 → ((((-2147483648 : Int) ≤ 3 ∧ (3 : Int) < 2147483648) ∧ ((-2147483648 : Int) ≤ 0 ∧ (0 : Int) < 2147483648)) ∧ ((0 ≤ w32 0 ∧ w32 0 < 4) ∧ ((w32 0 < w32 0 → _) ∧ (¬ w32 0 < w32 0 → ((w32 0 < w32 3 → ((w32 1 < w32 3 → ((w32 2 < w32 3 → ((w32 3 < w32 3 → _) ∧ (¬ w32 3 < w32 3 → ((w32 3 < w32 1 → _) ∧ (¬ w32 3 < w32 1 → ((((-2147483648 : Int) ≤ 3 ∧ (3 : Int) < 2147483648) ∧ ((-2147483648 : Int) ≤ 1 ∧ (1 : Int) < 2147483648)) ∧ ((0 ≤ w32 1 ∧ w32 1 < 4) ∧ ((w32 0 < w32 1 → ((w32 1 < w32 1 → _) ∧ (¬ w32 1 < w32 1 → ((w32 1 < w32 3 → ((w32 2 < w32 3 → ((w32 3 < w32 3 → _) ∧ (¬ w32 3 < w32 3 → ((w32 3 < w32 2 → _) ∧ (¬ w32 3 < w32 2 → ((((-2147483648 : Int) ≤ 3 ∧ (3 : Int) < 2147483648) ∧ ((-2147483648 : Int) ≤ 2 ∧ (2 : Int) < 2147483648)) ∧ ((0 ≤ w32 2 ∧ w32 2 < 4) ∧ ((w32 0 < w32 2 → ((w32 1 < w32 2 → ((w32 2 < w32 2 → _) ∧ (¬ w32 2 < w32 2 → ((w32 2 < w32 3 → ((w32 3 < w32 3 → _) ∧ (¬ w32 3 < w32 3 → ((w32 3 < w32 3 → _) ∧ (¬ w32 3 < w32 3 → ((((-2147483648 : Int) ≤ 3 ∧ (3 : Int) < 2147483648) ∧ ((-2147483648 : Int) ≤ 3 ∧ (3 : Int) < 2147483648)) ∧ ((0 ≤ w32 3 ∧ w32 3 < 4) ∧ ((w32 0 < w32 3 → ((w32 1 < w32 3 → ((w32 2 < w32 3 → ((w32 3 < w32 3 → _) ∧ (¬ w32 3 < w32 3 → ((w32 3 < w32 3 → _) ∧ (¬ w32 3 < w32 3 → ((w32 3 < w32 4 → (K (some (some (vL ((((0 + (((((biI 3 0) * (A 30 (w32 0))) * (m - i)) * (m - i)) * (m - i))) + (((((biI 3 1) * (A 30 (w32 1))) * i) * (m - i)) * (m - i))) + (((((biI 3 2) * (A 30 (w32 2))) * i) * i) * (m - i))) + (((((biI 3 3) * (A 30 (w32 3))) * i) * i) * i))))) F A)) ∧ (¬ w32 3 < w32 4 → _))))))) ∧ (¬ w32 2 < w32 3 → _))) ∧ (¬ w32 1 < w32 3 → _))) ∧ (¬ w32 0 < w32 3 → _))))))))) ∧ (¬ w32 2 < w32 3 → _))))) ∧ (¬ w32 1 < w32 2 → _))) ∧ (¬ w32 0 < w32 2 → _))))))))) ∧ (¬ w32 2 < w32 3 → _))) ∧ (¬ w32 1 < w32 3 → _))))) ∧ (¬ w32 0 < w32 1 → _))))))))) ∧ (¬ w32 2 < w32 3 → _))) ∧ (¬ w32 1 < w32 3 → _))) ∧ (¬ w32 0 < w32 3 → _)))))))
  refine ⟨fun q => absurd q (by decide), fun _ => ?_⟩
  refine ⟨by decide, ?_⟩
  refine ⟨by decide, ?_⟩
  refine ⟨fun q => absurd q (by decide), fun _ => ?_⟩
  refine ⟨fun _ => ?_, fun q => absurd (by decide) q⟩
  refine ⟨fun _ => ?_, fun q => absurd (by decide) q⟩
  refine ⟨fun _ => ?_, fun q => absurd (by decide) q⟩
  refine ⟨fun q => absurd q (by decide), fun _ => ?_⟩
  refine ⟨fun q => absurd q (by decide), fun _ => ?_⟩
  refine ⟨by decide, ?_⟩
  refine ⟨by decide, ?_⟩
  refine ⟨fun _ => ?_, fun q => absurd (by decide) q⟩
  refine ⟨fun q => absurd q (by decide), fun _ => ?_⟩
  refine ⟨fun _ => ?_, fun q => absurd (by decide) q⟩
  refine ⟨fun _ => ?_, fun q => absurd (by decide) q⟩
  refine ⟨fun q => absurd q (by decide), fun _ => ?_⟩
  refine ⟨fun q => absurd q (by decide), fun _ => ?_⟩
  refine ⟨by decide, ?_⟩
  refine ⟨by decide, ?_⟩
  refine ⟨fun _ => ?_, fun q => absurd (by decide) q⟩
  refine ⟨fun _ => ?_, fun q => absurd (by decide) q⟩
  refine ⟨fun q => absurd q (by decide), fun _ => ?_⟩
  refine ⟨fun _ => ?_, fun q => absurd (by decide) q⟩
  refine ⟨fun q => absurd q (by decide), fun _ => ?_⟩
  refine ⟨fun q => absurd q (by decide), fun _ => ?_⟩
  refine ⟨by decide, ?_⟩
  refine ⟨by decide, ?_⟩
  refine ⟨fun _ => ?_, fun q => absurd (by decide) q⟩
  refine ⟨fun _ => ?_, fun q => absurd (by decide) q⟩
  refine ⟨fun _ => ?_, fun q => absurd (by decide) q⟩
  refine ⟨fun q => absurd q (by decide), fun _ => ?_⟩
  refine ⟨fun q => absurd q (by decide), fun _ => ?_⟩
  refine ⟨fun _ => ?_, fun q => absurd (by decide) q⟩
  refine L_eq h ?_
  unfold atI
  rw [if_neg (by decide), if_neg (by decide)]
  simp only [biI]
  (try simp (disch := decide) only [if_pos, if_neg, w32_id, Int.reduceEq, or_true, true_or, if_true, if_false, or_self, Int.reduceLT])
  grind
theorem qvL_atR6_30 (n i m : Int) (F : FF) (A : AA) (K : KK) (h : (1 ≤ n ∧ n ≤ 3) ∧ (K (some (some (vL (atI (A 30) n i m)))) F A)) : am_line qxL_atR6 238 [vR 30, vI n, vL i, vL m] 12 F A K := by
  obtain ⟨hp, h⟩ := h
  rcases (show n = 1 ∨ n = 2 ∨ n = 3 by omega) with rfl | rfl | rfl
  · exact qvL_atR6_30_1 i m F A K h
  · exact qvL_atR6_30_2 i m F A K h
  · exact qvL_atR6_30_3 i m F A K h
theorem qtL_atR6 (l : Launch) : am_CT l layR6 qeL_atR6 := am_met0 rfl (by decide +kernel) rfl rfl rfl rfl rfl (fun _ => rfl) rfl (qzL_atR6 l) (fun k e1 h => (qyL_atR6 l k e1 h).2) (fun as F A K h => by
  replace h : qsL_atR6 as F A K := h
  unfold qsL_atR6 at h
  split at h
  · rename_i o n i m
    refine ⟨by first | exact Nat.le_of_ble_eq_true rfl | simp [am_fl, am_cat], ?_⟩
    replace h := am_cond2 h
    rcases h with ⟨hb, h⟩ | h
    · skip
      have hb0 := hb
      have hb0 := am_bq hb0
      subst hb0
      exact am_way_line (qvL_atR6_29 n i m F A K h)
    replace h := am_cond2 h
    rcases h with ⟨hb, h⟩ | h
    · skip
      have hb0 := hb
      have hb0 := am_bq hb0
      subst hb0
      exact am_way_line (qvL_atR6_30 n i m F A K h)
    exact h.elim
  · exact h.elim)
