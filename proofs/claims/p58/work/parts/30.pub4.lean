def qkX8_liesOn : Nat → Option CI := fun pc => cond (Nat.ble 21 pc) none (cond (Nat.ble 9 pc) (cond (Nat.ble 14 pc) (cond (Nat.beq pc 14) (some (.getfield 43, 17, [])) (cond (Nat.beq pc 17) (some (.invokevirtual 208, 20, [])) (cond (Nat.beq pc 20) (some (.ireturn, 21, [])) (none)))) (cond (Nat.beq pc 9) (some (.iload_n 2, 10, [])) (cond (Nat.beq pc 10) (some (.invokevirtual 199, 13, [])) (cond (Nat.beq pc 13) (some (.aload_n 0, 14, [])) (none))))) (cond (Nat.ble 4 pc) (cond (Nat.beq pc 4) (some (.aload_n 0, 5, [])) (cond (Nat.beq pc 5) (some (.getfield 10, 8, [])) (cond (Nat.beq pc 8) (some (.iload_n 1, 9, [])) (none)))) (cond (Nat.beq pc 0) (some (.aload_n 0, 1, [])) (cond (Nat.beq pc 1) (some (.getfield 43, 4, [])) (none)))))
theorem qkX8_liesOn_ok : ∀ pc i nx ts, qkX8_liesOn pc = some (i, nx, ts) → am_cok cX8_liesOn pc (i, nx, ts) = true := fun pc i nx ts h => am_tok_ok (n := 21) (by decide +kernel) (fun pc h => by show cond (Nat.ble 21 pc) _ _ = _; rw [Nat.ble_eq_true_of_le h]; rfl) h
def qaX8_liesOn : Nat → Option CE := fun k => cond (Nat.beq k 199) (some qeX5_begin) (cond (Nat.beq k 208) (some qeX5_isAllZero) (none))
theorem qyX8_liesOn (l : Launch) : ∀ k e1, qaX8_liesOn k = some e1 → am_cal l layX RX8 8 k e1 ∧ ceT e1 = 0 := q_cons ⟨am_calV (ci := 5) (qtX5_begin l) qbX5_begin (by decide) rfl (am_tb_at 942 (by decide +kernel) rfl), rfl⟩ (q_cons ⟨am_calV (ci := 5) (qtX5_isAllZero l) qbX5_isAllZero (by decide) rfl (am_tb_at 960 (by decide +kernel) rfl), rfl⟩ (q_nil))
def qxX8_liesOn : CX := (qkX8_liesOn, layX, qfX8, qaX8_liesOn, qcX8, qlX8, qmX8, (some .boolean), false, none, 0, none, fun _ => none)
theorem qzX8_liesOn (l : Launch) : am_sta l qxX8_liesOn RX8 8 cX8_liesOn := ⟨qkX8_liesOn_ok, layX_ok, qfX8_ok, qcX8_ok, qlX8_ok, am_mthP qmX8_ok (by decide), fun k e1 h => (qyX8_liesOn l k e1 h).1⟩
def qsX8_liesOn : SP := fun as F A K => match as with
  | [.inr (.inr o), .inl c, .inl l] => cond (Nat.beq o 0) ((fgOK (A 2) ∧ (0 ≤ c ∧ c < A 2 0) ∧ (0 ≤ l ∧ l < A 2 1)) ∧ (∀ (G_1 : FF) (B_1 : AA), (qrP F G_1 A B_1) → (K (some (some (vI (bi (azP (cfL (A 2) c l) (Int.toNat (A 2 (18 + c)))))))) G_1 B_1))) (False)
  | _ => False
def qeX8_liesOn : CE := (yX8_liesOn, cX8_liesOn, 3, (some .boolean), 2, some 8, 0, none, 0, 8, qsX8_liesOn)
theorem qbX8_liesOn : am_mb qeX8_liesOn := ⟨am_tb_at 941 (by decide +kernel) rfl, am_tb_at 35 (by decide +kernel) rfl, ⟨by decide, by decide, by decide +kernel⟩, by decide, am_tb_at 940 (by decide +kernel) rfl, am_tb_at 17 (by decide +kernel) rfl, _, _, rfl⟩
set_option maxRecDepth 20000 in
theorem qvX8_liesOn_0 (c : Int) (l : Int) (F : FF) (A : AA) (K : KK) (h : (fgOK (A 2) ∧ (0 ≤ c ∧ c < A 2 0) ∧ (0 ≤ l ∧ l < A 2 1)) ∧ (∀ (G_1 : FF) (B_1 : AA), (qrP F G_1 A B_1) → (K (some (some (vI (bi (azP (cfL (A 2) c l) (Int.toNat (A 2 (18 + c)))))))) G_1 B_1))) : am_line qxX8_liesOn 12 [vR 0, vI c, vI l] 3 F A K := by
  show am_stp qxX8_liesOn (am_run qxX8_liesOn (fun _ => none) (fun _ _ _ _ _ _ => False) K 12) K 0 [some (vR 0), some (vI c), some (vI l)] [] F A 0
  obtain ⟨hp, h⟩ := h
  obtain ⟨p1, p2', p3⟩ := hp
  have q1 := p1.1.1
  have q2 := p1.1.2
  have q3 := (p1.2.2.1 c p2'.1 p2'.2).1
  have q4 := p1.2.1.1
  have s0 : ∀ k, 0 ≤ k → k < A 2 (18 + c) → setR A 15 0 (A 2 (18 + c)) (fun jj => cfX (A 2) c l jj) 15 k = cfX (A 2) c l k := fun k k0 k1 => by rw [setR_in k0 (by omega), Int.sub_zero]
  have s2 : setR A 15 0 (A 2 (18 + c)) (fun jj => cfX (A 2) c l jj) 2 = A 2 := setR_r (by decide)
  have u4 : upF F 14 4 (A 2 (18 + c) - 1) 14 4 = A 2 (18 + c) - 1 := upF_s
  have qb : qrP F (upF F 14 4 (A 2 (18 + c) - 1)) A (setR A 15 0 (A 2 (18 + c)) (fun jj => cfX (A 2) c l jj)) := qrP_of (fun a b hab => upF_o (by omega)) (fun b i hb => setR_o (by omega))
  show (0 ≤ c ∧ c < 8 ∧ 0 ≤ l ∧ l < 6 ∧ 1 ≤ A 2 (18 + c) ∧ A 2 (18 + c) ≤ 4) ∧ ((0 ≤ (A 2 (18 + c) - 1) ∧ (A 2 (18 + c) - 1) ≤ 3) ∧ (((bi (azP ((setR A 15 0 (A 2 (18 + c)) (fun jj => cfX (A 2) c l jj)) 15) (Int.toNat ((A 2 (18 + c) - 1) + 1)))) = 0 ∨ (bi (azP ((setR A 15 0 (A 2 (18 + c)) (fun jj => cfX (A 2) c l jj)) 15) (Int.toNat ((A 2 (18 + c) - 1) + 1)))) = 1) ∧ (K (some (some (vI (bi (azP ((setR A 15 0 (A 2 (18 + c)) (fun jj => cfX (A 2) c l jj)) 15) (Int.toNat ((A 2 (18 + c) - 1) + 1))))))) (upF F 14 4 (A 2 (18 + c) - 1)) (setR A 15 0 (A 2 (18 + c)) (fun jj => cfX (A 2) c l jj)))))
  refine ⟨by first | exact bi_01 | omega | (rw [u4]; omega), ?_⟩
  refine ⟨by first | exact bi_01 | omega | (rw [u4]; omega), ?_⟩
  refine ⟨by first | exact bi_01 | omega | (rw [u4]; omega), ?_⟩
  refine K_eq (h _ _ qb) (bi_c ?_)
  rw [show A 2 (18 + c) - 1 + 1 = A 2 (18 + c) by omega]
  exact azP_c (fun k hk => (s0 k (by omega) (by omega)).symm)
theorem qtX8_liesOn (l : Launch) : am_CT l layX qeX8_liesOn := am_met0 rfl (by decide +kernel) rfl rfl rfl rfl rfl (fun _ => rfl) rfl (qzX8_liesOn l) (fun k e1 h => (qyX8_liesOn l k e1 h).2) (fun as F A K h => by
  replace h : qsX8_liesOn as F A K := h
  unfold qsX8_liesOn at h
  split at h
  · rename_i o c l
    refine ⟨by first | exact Nat.le_of_ble_eq_true rfl | simp [am_fl, am_cat], ?_⟩
    replace h := am_cond2 h
    rcases h with ⟨hb, h⟩ | h
    · skip
      have hb0 := hb
      have hb0 := am_bq hb0
      subst hb0
      exact am_way_line (qvX8_liesOn_0 c l F A K h)
    exact h.elim
  · exact h.elim)
def qkX8_findRoots : Nat → Option CI := fun pc => cond (Nat.ble 29 pc) none (cond (Nat.ble 13 pc) (cond (Nat.ble 21 pc) (cond (Nat.ble 25 pc) (cond (Nat.beq pc 25) (some (.invokevirtual 220, 28, [])) (cond (Nat.beq pc 28) (some (.return_, 29, [])) (none))) (cond (Nat.beq pc 21) (some (.iconst 0, 22, [])) (cond (Nat.beq pc 22) (some (.invokevirtual 120, 25, [])) (none)))) (cond (Nat.ble 17 pc) (cond (Nat.beq pc 17) (some (.aload_n 0, 18, [])) (cond (Nat.beq pc 18) (some (.getfield 10, 21, [])) (none))) (cond (Nat.beq pc 13) (some (.aload_n 0, 14, [])) (cond (Nat.beq pc 14) (some (.getfield 43, 17, [])) (none))))) (cond (Nat.ble 5 pc) (cond (Nat.ble 9 pc) (cond (Nat.beq pc 9) (some (.iload_n 2, 10, [])) (cond (Nat.beq pc 10) (some (.invokevirtual 199, 13, [])) (none))) (cond (Nat.beq pc 5) (some (.getfield 10, 8, [])) (cond (Nat.beq pc 8) (some (.iload_n 1, 9, [])) (none)))) (cond (Nat.beq pc 0) (some (.aload_n 0, 1, [])) (cond (Nat.beq pc 1) (some (.getfield 43, 4, [])) (cond (Nat.beq pc 4) (some (.aload_n 0, 5, [])) (none))))))
theorem qkX8_findRoots_ok : ∀ pc i nx ts, qkX8_findRoots pc = some (i, nx, ts) → am_cok cX8_findRoots pc (i, nx, ts) = true := fun pc i nx ts h => am_tok_ok (n := 29) (by decide +kernel) (fun pc h => by show cond (Nat.ble 29 pc) _ _ = _; rw [Nat.ble_eq_true_of_le h]; rfl) h
def qaX8_findRoots : Nat → Option CE := fun k => cond (Nat.beq k 199) (some qeX5_begin) (cond (Nat.beq k 120) (some qeX2_setting) (cond (Nat.beq k 220) (some qeX5_findAll) (none)))
theorem qyX8_findRoots (l : Launch) : ∀ k e1, qaX8_findRoots k = some e1 → am_cal l layX RX8 20 k e1 ∧ ceT e1 = 0 := q_cons ⟨am_calV (ci := 5) (qtX5_begin l) qbX5_begin (by decide) rfl (am_tb_at 942 (by decide +kernel) rfl), rfl⟩ (q_cons ⟨am_calV (ci := 2) (qtX2_setting l) qbX2_setting (by decide) rfl (am_tb_at 976 (by decide +kernel) rfl), rfl⟩ (q_cons ⟨am_calV (ci := 5) (qtX5_findAll l) qbX5_findAll (by decide) rfl (am_tb_at 1127 (by decide +kernel) rfl), rfl⟩ (q_nil)))
def qxX8_findRoots : CX := (qkX8_findRoots, layX, qfX8, qaX8_findRoots, qcX8, qlX8, qmX8, none, false, none, 0, none, fun _ => none)
theorem qzX8_findRoots (l : Launch) : am_sta l qxX8_findRoots RX8 20 cX8_findRoots := ⟨qkX8_findRoots_ok, layX_ok, qfX8_ok, qcX8_ok, qlX8_ok, am_mthP qmX8_ok (by decide), fun k e1 h => (qyX8_findRoots l k e1 h).1⟩
def qsX8_findRoots : SP := fun as F A K => match as with
  | [.inr (.inr o), .inl c, .inl l] => cond (Nat.beq o 0) ((fgOK (A 2) ∧ (0 ≤ c ∧ c < A 2 0) ∧ (0 ≤ l ∧ l < A 2 1) ∧ ((rtsX (A 2) c l).length : Int) ≤ 8) ∧ (∀ (G_1 : FF) (B_1 : AA), (qrP F G_1 A B_1 ∧ rcP G_1 B_1 (A 2) c l (rtsX (A 2) c l)) → (K (some none) G_1 B_1))) (False)
  | _ => False
def qeX8_findRoots : CE := (yX8_findRoots, cX8_findRoots, 3, none, 2, some 8, 0, none, 0, 20, qsX8_findRoots)
theorem qbX8_findRoots : am_mb qeX8_findRoots := ⟨am_tb_at 1126 (by decide +kernel) rfl, am_tb_at 35 (by decide +kernel) rfl, ⟨by decide, by decide, by decide +kernel⟩, by decide, am_tb_at 1125 (by decide +kernel) rfl, am_tb_at 27 (by decide +kernel) rfl, _, _, rfl⟩
set_option maxRecDepth 20000 in
theorem qvX8_findRoots_0 (c : Int) (l : Int) (F : FF) (A : AA) (K : KK) (h : (fgOK (A 2) ∧ (0 ≤ c ∧ c < A 2 0) ∧ (0 ≤ l ∧ l < A 2 1) ∧ ((rtsX (A 2) c l).length : Int) ≤ 8) ∧ (∀ (G_1 : FF) (B_1 : AA), (qrP F G_1 A B_1 ∧ rcP G_1 B_1 (A 2) c l (rtsX (A 2) c l)) → (K (some none) G_1 B_1))) : am_line qxX8_findRoots 16 [vR 0, vI c, vI l] 3 F A K := by
  show am_stp qxX8_findRoots (am_run qxX8_findRoots (fun _ => none) (fun _ _ _ _ _ _ => False) K 16) K 0 [some (vR 0), some (vI c), some (vI l)] [] F A 0
  obtain ⟨hp, h⟩ := h
  obtain ⟨p1, p2', p3, p4⟩ := hp
  have q1 := p1.1.1
  have q2 := p1.1.2
  have q3 := (p1.2.2.1 c p2'.1 p2'.2).1
  have q4 := p1.2.1.1
  have s0 : ∀ k, 0 ≤ k → k < A 2 (18 + c) → setR A 15 0 (A 2 (18 + c)) (fun jj => cfX (A 2) c l jj) 15 k = cfX (A 2) c l k := fun k k0 k1 => by rw [setR_in k0 (by omega), Int.sub_zero]
  have s2 : setR A 15 0 (A 2 (18 + c)) (fun jj => cfX (A 2) c l jj) 2 = A 2 := setR_r (by decide)
  have u4 : upF F 14 4 (A 2 (18 + c) - 1) 14 4 = A 2 (18 + c) - 1 := upF_s
  have qb : qrP F (upF F 14 4 (A 2 (18 + c) - 1)) A (setR A 15 0 (A 2 (18 + c)) (fun jj => cfX (A 2) c l jj)) := qrP_of (fun a b hab => upF_o (by omega)) (fun b i hb => setR_o (by omega))
  have s3 : rootsL (setR A 15 0 (A 2 (18 + c)) (fun jj => cfX (A 2) c l jj) 15) (A 2 (18 + c) - 1) (A 2 2) = rtsX (A 2) c l := rootsL_c (by omega) (fun k k0 k1 => s0 k k0 (by omega))
  show (0 ≤ c ∧ c < 8 ∧ 0 ≤ l ∧ l < 6 ∧ 1 ≤ A 2 (18 + c) ∧ A 2 (18 + c) ≤ 4) ∧ (((0 ≤ (A 2 (18 + c) - 1) ∧ (A 2 (18 + c) - 1) ≤ 3) ∧ (1 ≤ (fat ((setR A 15 0 (A 2 (18 + c)) (fun jj => cfX (A 2) c l jj)) 2) (2 + 0)) ∧ (fat ((setR A 15 0 (A 2 (18 + c)) (fun jj => cfX (A 2) c l jj)) 2) (2 + 0)) ≤ 12) ∧ ((rootsL ((setR A 15 0 (A 2 (18 + c)) (fun jj => cfX (A 2) c l jj)) 15) ((A 2 (18 + c) - 1)) (fat ((setR A 15 0 (A 2 (18 + c)) (fun jj => cfX (A 2) c l jj)) 2) (2 + 0))).length : Int) ≤ 8) ∧ (∀ (B_1 : AA) (G_1 : FF) (L_1 : List RT), (L_1 = rootsL ((setR A 15 0 (A 2 (18 + c)) (fun jj => cfX (A 2) c l jj)) 15) ((A 2 (18 + c) - 1)) (fat ((setR A 15 0 (A 2 (18 + c)) (fun jj => cfX (A 2) c l jj)) 2) (2 + 0)) ∧ srP (setR A 15 0 (A 2 (18 + c)) (fun jj => cfX (A 2) c l jj)) B_1 0 0 L_1 ∧ G_1 = upF (upF F 14 4 (A 2 (18 + c) - 1)) 14 5 (L_1.length : Int)) → (K (some none) G_1 B_1)))
  refine ⟨by omega, ?_⟩
  refine ⟨by (rw [s2, fat_in (i := 2 + 0) (by omega) (by omega), show (2 : Int) + 0 = 2 by omega]; rw [s3]; omega), ?_⟩
  intro B_1 G_1 L_1 g1
  rw [s2, fat_in (i := 2 + 0) (by omega) (by omega), show (2 : Int) + 0 = 2 by omega] at g1
  rw [s3] at g1
  obtain ⟨e1, e2, e3⟩ := g1
  subst e1
  refine h _ _ ⟨qrP_trans qb (qrP_of (fun a b hab => by rw [e3]; exact upF_o (by omega)) (fun b i hb => e2.1 b i (by omega))), ?_, ?_, e2.2, fun k k0 k1 => ?_⟩
  · rw [e3, upF_o (by decide)]; exact upF_s
  · rw [e3, upF_s]
  · rw [e2.1 15 k (Or.inr (Or.inl ⟨rfl, by omega⟩))]; exact s0 k k0 k1
theorem qtX8_findRoots (l : Launch) : am_CT l layX qeX8_findRoots := am_met0 rfl (by decide +kernel) rfl rfl rfl rfl rfl (fun _ => rfl) rfl (qzX8_findRoots l) (fun k e1 h => (qyX8_findRoots l k e1 h).2) (fun as F A K h => by
  replace h : qsX8_findRoots as F A K := h
  unfold qsX8_findRoots at h
  split at h
  · rename_i o c l
    refine ⟨by first | exact Nat.le_of_ble_eq_true rfl | simp [am_fl, am_cat], ?_⟩
    replace h := am_cond2 h
    rcases h with ⟨hb, h⟩ | h
    · skip
      have hb0 := hb
      have hb0 := am_bq hb0
      subst hb0
      exact am_way_line (qvX8_findRoots_0 c l F A K h)
    exact h.elim
  · exact h.elim)
