def qkX9_laysHull : Nat → Option CI := fun pc => cond (Nat.ble 138 pc) none (cond (Nat.ble 65 pc) (cond (Nat.ble 104 pc) (cond (Nat.ble 121 pc) (cond (Nat.ble 128 pc) (cond (Nat.ble 131 pc) (cond (Nat.beq pc 131) (some (.invokevirtual 332, 134, [])) (cond (Nat.beq pc 134) (some (.ifCond .eq (-39), 137, [95])) (cond (Nat.beq pc 137) (some (.return_, 138, [])) (none)))) (cond (Nat.beq pc 128) (some (.iload_n 1, 129, [])) (cond (Nat.beq pc 129) (some (.iload_n 3, 130, [])) (cond (Nat.beq pc 130) (some (.iload_n 2, 131, [])) (none))))) (cond (Nat.ble 123 pc) (cond (Nat.beq pc 123) (some (.iconst (-1), 124, [])) (cond (Nat.beq pc 124) (some (.if_icmp .eq 13, 127, [137])) (cond (Nat.beq pc 127) (some (.aload_n 0, 128, [])) (none)))) (cond (Nat.beq pc 121) (some (.istore_n 3, 122, [])) (cond (Nat.beq pc 122) (some (.iload_n 3, 123, [])) (none))))) (cond (Nat.ble 111 pc) (cond (Nat.ble 116 pc) (cond (Nat.beq pc 116) (some (.iload_n 1, 117, [])) (cond (Nat.beq pc 117) (some (.iload_n 3, 118, [])) (cond (Nat.beq pc 118) (some (.invokevirtual 329, 121, [])) (none)))) (cond (Nat.beq pc 111) (some (.iadd, 112, [])) (cond (Nat.beq pc 112) (some (.putfield 326, 115, [])) (cond (Nat.beq pc 115) (some (.aload_n 0, 116, [])) (none))))) (cond (Nat.ble 106 pc) (cond (Nat.beq pc 106) (some (.dup, 107, [])) (cond (Nat.beq pc 107) (some (.getfield 326, 110, [])) (cond (Nat.beq pc 110) (some (.iconst 1, 111, [])) (none)))) (cond (Nat.beq pc 104) (some (.iastore, 105, [])) (cond (Nat.beq pc 105) (some (.aload_n 0, 106, [])) (none)))))) (cond (Nat.ble 85 pc) (cond (Nat.ble 94 pc) (cond (Nat.ble 99 pc) (cond (Nat.beq pc 99) (some (.aload_n 0, 100, [])) (cond (Nat.beq pc 100) (some (.getfield 326, 103, [])) (cond (Nat.beq pc 103) (some (.iload_n 3, 104, [])) (none)))) (cond (Nat.beq pc 94) (some (.istore_n 3, 95, [])) (cond (Nat.beq pc 95) (some (.aload_n 0, 96, [])) (cond (Nat.beq pc 96) (some (.getfield 64, 99, [])) (none))))) (cond (Nat.ble 89 pc) (cond (Nat.beq pc 89) (some (.iconst 0, 90, [])) (cond (Nat.beq pc 90) (some (.putfield 326, 93, [])) (cond (Nat.beq pc 93) (some (.iload_n 2, 94, [])) (none)))) (cond (Nat.beq pc 85) (some (.goto (-81), 88, [4])) (cond (Nat.beq pc 88) (some (.aload_n 0, 89, [])) (none))))) (cond (Nat.ble 76 pc) (cond (Nat.ble 80 pc) (cond (Nat.beq pc 80) (some (.iload_n 2, 81, [])) (cond (Nat.beq pc 81) (some (.istore_n 2, 82, [])) (cond (Nat.beq pc 82) (some (.iinc 3 1, 85, [])) (none)))) (cond (Nat.beq pc 76) (some (.iload_n 3, 77, [])) (cond (Nat.beq pc 77) (some (.goto 4, 80, [81])) (none)))) (cond (Nat.ble 69 pc) (cond (Nat.beq pc 69) (some (.istore 4, 71, [])) (cond (Nat.beq pc 71) (some (.iload 4, 73, [])) (cond (Nat.beq pc 73) (some (.ifCond .eq 7, 76, [80])) (none)))) (cond (Nat.beq pc 65) (some (.goto 4, 68, [69])) (cond (Nat.beq pc 68) (some (.iconst 0, 69, [])) (none))))))) (cond (Nat.ble 31 pc) (cond (Nat.ble 48 pc) (cond (Nat.ble 55 pc) (cond (Nat.ble 58 pc) (cond (Nat.beq pc 58) (some (.invokevirtual 83, 61, [])) (cond (Nat.beq pc 61) (some (.if_icmp .ge 7, 64, [68])) (cond (Nat.beq pc 64) (some (.iconst 1, 65, [])) (none)))) (cond (Nat.beq pc 55) (some (.iload_n 1, 56, [])) (cond (Nat.beq pc 56) (some (.iload_n 2, 57, [])) (cond (Nat.beq pc 57) (some (.iconst 1, 58, [])) (none))))) (cond (Nat.ble 50 pc) (cond (Nat.beq pc 50) (some (.iconst 1, 51, [])) (cond (Nat.beq pc 51) (some (.invokevirtual 83, 54, [])) (cond (Nat.beq pc 54) (some (.aload_n 0, 55, [])) (none)))) (cond (Nat.beq pc 48) (some (.iload_n 1, 49, [])) (cond (Nat.beq pc 49) (some (.iload_n 3, 50, [])) (none))))) (cond (Nat.ble 38 pc) (cond (Nat.ble 41 pc) (cond (Nat.beq pc 41) (some (.invokevirtual 83, 44, [])) (cond (Nat.beq pc 44) (some (.if_icmp .ne 24, 47, [68])) (cond (Nat.beq pc 47) (some (.aload_n 0, 48, [])) (none)))) (cond (Nat.beq pc 38) (some (.iload_n 1, 39, [])) (cond (Nat.beq pc 39) (some (.iload_n 2, 40, [])) (cond (Nat.beq pc 40) (some (.iconst 0, 41, [])) (none))))) (cond (Nat.ble 33 pc) (cond (Nat.beq pc 33) (some (.iconst 0, 34, [])) (cond (Nat.beq pc 34) (some (.invokevirtual 83, 37, [])) (cond (Nat.beq pc 37) (some (.aload_n 0, 38, [])) (none)))) (cond (Nat.beq pc 31) (some (.iload_n 1, 32, [])) (cond (Nat.beq pc 32) (some (.iload_n 3, 33, [])) (none)))))) (cond (Nat.ble 14 pc) (cond (Nat.ble 21 pc) (cond (Nat.ble 24 pc) (cond (Nat.beq pc 24) (some (.invokevirtual 83, 27, [])) (cond (Nat.beq pc 27) (some (.if_icmp .lt 37, 30, [64])) (cond (Nat.beq pc 30) (some (.aload_n 0, 31, [])) (none)))) (cond (Nat.beq pc 21) (some (.iload_n 1, 22, [])) (cond (Nat.beq pc 22) (some (.iload_n 2, 23, [])) (cond (Nat.beq pc 23) (some (.iconst 0, 24, [])) (none))))) (cond (Nat.ble 16 pc) (cond (Nat.beq pc 16) (some (.iconst 0, 17, [])) (cond (Nat.beq pc 17) (some (.invokevirtual 83, 20, [])) (cond (Nat.beq pc 20) (some (.aload_n 0, 21, [])) (none)))) (cond (Nat.beq pc 14) (some (.iload_n 1, 15, [])) (cond (Nat.beq pc 15) (some (.iload_n 3, 16, [])) (none))))) (cond (Nat.ble 5 pc) (cond (Nat.ble 7 pc) (cond (Nat.beq pc 7) (some (.invokevirtual 76, 10, [])) (cond (Nat.beq pc 10) (some (.if_icmp .ge 78, 13, [88])) (cond (Nat.beq pc 13) (some (.aload_n 0, 14, [])) (none)))) (cond (Nat.beq pc 5) (some (.aload_n 0, 6, [])) (cond (Nat.beq pc 6) (some (.iload_n 1, 7, [])) (none)))) (cond (Nat.ble 2 pc) (cond (Nat.beq pc 2) (some (.iconst 1, 3, [])) (cond (Nat.beq pc 3) (some (.istore_n 3, 4, [])) (cond (Nat.beq pc 4) (some (.iload_n 3, 5, [])) (none)))) (cond (Nat.beq pc 0) (some (.iconst 0, 1, [])) (cond (Nat.beq pc 1) (some (.istore_n 2, 2, [])) (none))))))))
theorem qkX9_laysHull_ok : ∀ pc i nx ts, qkX9_laysHull pc = some (i, nx, ts) → am_cok cX9_laysHull pc (i, nx, ts) = true := fun pc i nx ts h => am_tok_ok (n := 138) (by decide +kernel) (fun pc h => by show cond (Nat.ble 138 pc) _ _ = _; rw [Nat.ble_eq_true_of_le h]; rfl) h
def qaX9_laysHull : Nat → Option CE := fun k => cond (Nat.beq k 76) (some qeX9_points) (cond (Nat.beq k 83) (some qeX9_point) (cond (Nat.beq k 329) (some qeX9_nextCorner) (cond (Nat.beq k 332) (some qeX9_isSame) (none))))
theorem qyX9_laysHull (l : Launch) : ∀ k e1, qaX9_laysHull k = some e1 → am_cal l layM RX9 6 k e1 ∧ ceT e1 = 0 := q_cons ⟨am_calV (ci := 9) (qtX9_points l) qbX9_points (by decide) rfl (am_tb_at 1663 (by decide +kernel) rfl), rfl⟩ (q_cons ⟨am_calV (ci := 9) (qtX9_point l) qbX9_point (by decide) rfl (am_tb_at 1675 (by decide +kernel) rfl), rfl⟩ (q_cons ⟨am_calV (ci := 9) (qtX9_nextCorner l) qbX9_nextCorner (by decide) rfl (am_tb_at 1746 (by decide +kernel) rfl), rfl⟩ (q_cons ⟨am_calV (ci := 9) (qtX9_isSame l) qbX9_isSame (by decide) rfl (am_tb_at 1750 (by decide +kernel) rfl), rfl⟩ (q_nil))))
def qxX9_laysHull : CX := (qkX9_laysHull, layM, qfX9, qaX9_laysHull, qcX9, qlX9, qmX9, none, false, none, 0, none, fun _ => none)
theorem qzX9_laysHull (l : Launch) : am_sta l qxX9_laysHull RX9 6 cX9_laysHull := ⟨qkX9_laysHull_ok, layM_ok, qfX9_ok, qcX9_ok, qlX9_ok, am_mthP qmX9_ok (by decide), fun k e1 h => (qyX9_laysHull l k e1 h).1⟩
def qsX9_laysHull : SP := fun as F A K => match as with
  | [.inr (.inr o), .inl c] => cond (Nat.beq o 25) ((fgOK (mF A) ∧ (0 ≤ c ∧ c < mF A 0) ∧ HUT) ∧ (∀ (G_1 : FF) (B_1 : AA), ((∀ a b, a ≠ 25 ∨ b ≠ 31 → G_1 a b = F a b) ∧ (∀ b i, b ≠ 42 → B_1 b i = A b i) ∧ G_1 25 31 = ((huL (mF A) c).length : Int) ∧ rowL (B_1 42) 0 (huL (mF A) c)) → (K (some none) G_1 B_1))) (False)
  | _ => False
def qeX9_laysHull : CE := (yX9_laysHull, cX9_laysHull, 5, none, 1, some 9, 0, [], 0, 6, qsX9_laysHull)
theorem qbX9_laysHull : am_mb qeX9_laysHull := ⟨am_tb_at 1745 (by decide +kernel) rfl, am_tb_at 124 (by decide +kernel) rfl, ⟨by decide, by decide, by decide +kernel⟩, by decide, by decide, am_tb_at 1744 (by decide +kernel) rfl, am_tb_at 78 (by decide +kernel) rfl, _, _, rfl⟩
def qnX9_laysHull_25 : CUT := fun pc => cond (Nat.beq pc 4) (some [true, true, true, true, false]) (cond (Nat.beq pc 95) (some [true, true, true, true, false]) (none))
def qiX9_laysHull_25 (c : Int) (F0 : FF) (A0 : AA) : REC := fun pc ls st F A u => cond (Nat.beq pc 4) (match ls, st, u with
    | [some (.inr (.inr s0)), some (.inl s1), some (.inl b), some (.inl k), none], [], 0 => s0 = 25 ∧ s1 = c ∧ F = F0 ∧ A = A0 ∧ ((1 ≤ k ∧ k ≤ mF A0 (18 + c)) ∧ b = lfF (mF A0) c (Int.toNat (k - 1)))
    | _, _, _ => False) (cond (Nat.beq pc 95) (match ls, st, u with
    | [some (.inr (.inr s0)), some (.inl s1), some (.inl x), some (.inl a), none], [], 0 => s0 = 25 ∧ s1 = c ∧ (x = (lmF (mF A0) c) ∧ (0 ≤ a ∧ a < mF A0 (18 + c)) ∧ (0 ≤ F 25 31 ∧ F 25 31 ≤ 4) ∧ (∀ aa bb, aa ≠ 25 ∨ bb ≠ 31 → F aa bb = F0 aa bb) ∧ (∀ bb ii, bb ≠ 42 → A bb ii = A0 bb ii) ∧ endM (mF A0) c x (Int.toNat (4 - F 25 31)) a ∧ ∃ L : List Int, (L.length : Int) = F 25 31 ∧ rowL (A 42) 0 L ∧ (huL (mF A0) c) = L ++ wrM (mF A0) c x (Int.toNat (4 - F 25 31)) a)
    | _, _, _ => False) (False))
def quX9_laysHull_25 : Nat → LVs → List AV → FF → AA → Nat := fun pc ls _ F A => cond (Nat.beq pc 4) (match ls with
    | [some (.inr (.inr s0)), some (.inl s1), some (.inl b), some (.inl k), none] => Int.toNat (100 - k)
    | _ => 0) (cond (Nat.beq pc 95) (match ls with
    | [some (.inr (.inr s0)), some (.inl s1), some (.inl x), some (.inl a), none] => Int.toNat (20 - F 25 31)
    | _ => 0) (0))
set_option maxRecDepth 20000 in
theorem qvX9_laysHull_25_0 (c : Int) (F0 : FF) (A0 : AA) (K : KK) (h : (fgOK (mF A0) ∧ (0 ≤ c ∧ c < mF A0 0) ∧ HUT) ∧ (∀ (G_1 : FF) (B_1 : AA), ((∀ a b, a ≠ 25 ∨ b ≠ 31 → G_1 a b = F0 a b) ∧ (∀ b i, b ≠ 42 → B_1 b i = A0 b i) ∧ G_1 25 31 = ((huL (mF A0) c).length : Int) ∧ rowL (B_1 42) 0 (huL (mF A0) c)) → (K (some none) G_1 B_1))) : am_stp qxX9_laysHull (am_run qxX9_laysHull qnX9_laysHull_25 (qiX9_laysHull_25 c F0 A0) K 51) K 0 (am_ent [vR 25, vI c] 5) [] F0 A0 0 := by
  show am_stp qxX9_laysHull (am_run qxX9_laysHull qnX9_laysHull_25 (qiX9_laysHull_25 c F0 A0) K 51) K 0 [some (vR 25), some (vI c), none, none, none] [] F0 A0 0
  obtain ⟨hp, h⟩ := h
  obtain ⟨p1, p2', p3⟩ := hp
  have q1 := p1.1.1
  have q3 := (p1.2.2.1 c p2'.1 p2'.2).1
  have pb : ∀ j w, 0 ≤ j → j < mF A0 (18 + c) → 0 ≤ w → w ≤ 1 → 0 ≤ pxF (mF A0) c j w ∧ pxF (mF A0) c j w ≤ 20 := fun j w j0 j1 w0 w1 => by
    obtain ⟨x1, x2, _⟩ := (p1.2.2.1 c p2'.1 p2'.2).2 j j0 j1
    rcases (show w = 0 ∨ w = 1 by omega) with rfl | rfl <;> assumption
  show 25 = 25 ∧ c = c ∧ F0 = F0 ∧ A0 = A0 ∧ ((1 ≤ 1 ∧ 1 ≤ mF A0 (18 + c)) ∧ 0 = lfF (mF A0) c (Int.toNat (1 - 1)))
  refine ⟨rfl, rfl, rfl, rfl, ?_⟩
  exact ⟨by omega, rfl⟩
set_option maxRecDepth 20000 in
theorem qvX9_laysHull_25_4 (c : Int) (F0 : FF) (A0 : AA) (K : KK) (h : (fgOK (mF A0) ∧ (0 ≤ c ∧ c < mF A0 0) ∧ HUT) ∧ (∀ (G_1 : FF) (B_1 : AA), ((∀ a b, a ≠ 25 ∨ b ≠ 31 → G_1 a b = F0 a b) ∧ (∀ b i, b ≠ 42 → B_1 b i = A0 b i) ∧ G_1 25 31 = ((huL (mF A0) c).length : Int) ∧ rowL (B_1 42) 0 (huL (mF A0) c)) → (K (some none) G_1 B_1))) (b : Int) (k : Int) (hi : (1 ≤ k ∧ k ≤ mF A0 (18 + c)) ∧ b = lfF (mF A0) c (Int.toNat (k - 1))) : am_stp qxX9_laysHull (am_run qxX9_laysHull qnX9_laysHull_25 (fun pc ls st F9 A9 u => qiX9_laysHull_25 c F0 A0 pc ls st F9 A9 u ∧ quX9_laysHull_25 pc ls st F9 A9 < quX9_laysHull_25 4 [some (vR 25), some (vI c), some (vI b), some (vI k), none] [] F0 A0) K 51) K 4 [some (vR 25), some (vI c), some (vI b), some (vI k), none] [] F0 A0 0 := by
  obtain ⟨hp, h⟩ := h
  obtain ⟨p1, p2', p3⟩ := hp
  have q1 := p1.1.1
  have q3 := (p1.2.2.1 c p2'.1 p2'.2).1
  have pb : ∀ j w, 0 ≤ j → j < mF A0 (18 + c) → 0 ≤ w → w ≤ 1 → 0 ≤ pxF (mF A0) c j w ∧ pxF (mF A0) c j w ≤ 20 := fun j w j0 j1 w0 w1 => by
    obtain ⟨x1, x2, _⟩ := (p1.2.2.1 c p2'.1 p2'.2).2 j j0 j1
    rcases (show w = 0 ∨ w = 1 by omega) with rfl | rfl <;> assumption
  obtain ⟨h1, h2⟩ := hi
  have h5 := lfF_b (mF A0) c (Int.toNat (k - 1))
  have h6 := lfF_s (f := mF A0) (c := c) h1.1
  rw [← h2] at h5 h6
  show (0 ≤ c ∧ c < 8) ∧ ((w32 k < w32 (mF A0 (18 + c)) → (((0 ≤ c ∧ c < 8) ∧ (0 ≤ k ∧ k < 4) ∧ 0 ≤ 0 ∧ 0 ≤ 2) ∧ (((0 ≤ c ∧ c < 8) ∧ (0 ≤ b ∧ b < 4) ∧ 0 ≤ 0 ∧ 0 ≤ 2) ∧ ((w32 (pxF (mF A0) c k 0) < w32 (pxF (mF A0) c b 0) → ((w32 1 = w32 0 → _) ∧ (¬ w32 1 = w32 0 → ((25 = 25 ∧ c = c ∧ F0 = F0 ∧ A0 = A0 ∧ ((1 ≤ (k + 1) ∧ (k + 1) ≤ mF A0 (18 + c)) ∧ k = lfF (mF A0) c (Int.toNat ((k + 1) - 1)))) ∧ (Int.toNat (100 - (k + 1))) < (Int.toNat (100 - k)))))) ∧ (¬ w32 (pxF (mF A0) c k 0) < w32 (pxF (mF A0) c b 0) → (((0 ≤ c ∧ c < 8) ∧ (0 ≤ k ∧ k < 4) ∧ 0 ≤ 0 ∧ 0 ≤ 2) ∧ (((0 ≤ c ∧ c < 8) ∧ (0 ≤ b ∧ b < 4) ∧ 0 ≤ 0 ∧ 0 ≤ 2) ∧ ((w32 (pxF (mF A0) c k 0) = w32 (pxF (mF A0) c b 0) → (((0 ≤ c ∧ c < 8) ∧ (0 ≤ k ∧ k < 4) ∧ 0 ≤ 1 ∧ 1 ≤ 2) ∧ (((0 ≤ c ∧ c < 8) ∧ (0 ≤ b ∧ b < 4) ∧ 0 ≤ 1 ∧ 1 ≤ 2) ∧ ((w32 (pxF (mF A0) c k 1) < w32 (pxF (mF A0) c b 1) → ((w32 1 = w32 0 → _) ∧ (¬ w32 1 = w32 0 → ((25 = 25 ∧ c = c ∧ F0 = F0 ∧ A0 = A0 ∧ ((1 ≤ (k + 1) ∧ (k + 1) ≤ mF A0 (18 + c)) ∧ k = lfF (mF A0) c (Int.toNat ((k + 1) - 1)))) ∧ (Int.toNat (100 - (k + 1))) < (Int.toNat (100 - k)))))) ∧ (¬ w32 (pxF (mF A0) c k 1) < w32 (pxF (mF A0) c b 1) → ((w32 0 = w32 0 → ((25 = 25 ∧ c = c ∧ F0 = F0 ∧ A0 = A0 ∧ ((1 ≤ (k + 1) ∧ (k + 1) ≤ mF A0 (18 + c)) ∧ b = lfF (mF A0) c (Int.toNat ((k + 1) - 1)))) ∧ (Int.toNat (100 - (k + 1))) < (Int.toNat (100 - k)))) ∧ (¬ w32 0 = w32 0 → _))))))) ∧ (¬ w32 (pxF (mF A0) c k 0) = w32 (pxF (mF A0) c b 0) → ((w32 0 = w32 0 → ((25 = 25 ∧ c = c ∧ F0 = F0 ∧ A0 = A0 ∧ ((1 ≤ (k + 1) ∧ (k + 1) ≤ mF A0 (18 + c)) ∧ b = lfF (mF A0) c (Int.toNat ((k + 1) - 1)))) ∧ (Int.toNat (100 - (k + 1))) < (Int.toNat (100 - k)))) ∧ (¬ w32 0 = w32 0 → _))))))))))) ∧ (¬ w32 k < w32 (mF A0 (18 + c)) → ((25 = 25 ∧ c = c ∧ (b = (lmF (mF A0) c) ∧ (0 ≤ b ∧ b < mF A0 (18 + c)) ∧ (0 ≤ (upF F0 25 31 0) 25 31 ∧ (upF F0 25 31 0) 25 31 ≤ 4) ∧ (∀ aa bb, aa ≠ 25 ∨ bb ≠ 31 → (upF F0 25 31 0) aa bb = F0 aa bb) ∧ (∀ bb ii, bb ≠ 42 → A0 bb ii = A0 bb ii) ∧ endM (mF A0) c b (Int.toNat (4 - (upF F0 25 31 0) 25 31)) b ∧ ∃ L : List Int, (L.length : Int) = (upF F0 25 31 0) 25 31 ∧ rowL (A0 42) 0 L ∧ (huL (mF A0) c) = L ++ wrM (mF A0) c b (Int.toNat (4 - (upF F0 25 31 0) 25 31)) b)) ∧ (Int.toNat (20 - (upF F0 25 31 0) 25 31)) < (Int.toNat (100 - k)))))
  refine ⟨by first | omega | exact ⟨by omega, by omega, by omega⟩, ?_⟩
  refine ⟨fun c1 => ?_, fun c1 => ?_⟩
  · skip
    (try simp only [w32_0, wbi0, Classical.not_not] at c1); (try (rw [w32_id (x := k) (by omega) (by omega), w32_id (x := mF A0 (18 + c)) (by omega) (by omega)] at c1)); (try (have b1 := pb k 0 (by omega) (by omega) (by decide) (by decide); have b2 := pb b 0 (by omega) (by omega) (by decide) (by decide); have b3 := pb k 1 (by omega) (by omega) (by decide) (by decide); have b4 := pb b 1 (by omega) (by omega) (by decide) (by decide); simp (disch := omega) only [w32_id] at c1))
    have b1 := pb k 0 (by omega) (by omega) (by decide) (by decide)
    have b2 := pb b 0 (by omega) (by omega) (by decide) (by decide)
    have b3 := pb k 1 (by omega) (by omega) (by decide) (by decide)
    have b4 := pb b 1 (by omega) (by omega) (by decide) (by decide)
    rw [w32_id (x := pxF (mF A0) c k 0 - pxF (mF A0) c b 0) (by omega) (by omega), w32_id (x := pxF (mF A0) c k 1 - pxF (mF A0) c b 1) (by omega) (by omega)] at h6
    refine ⟨by first | omega | exact ⟨by omega, by omega, by omega⟩, ?_⟩
    refine ⟨by first | omega | exact ⟨by omega, by omega, by omega⟩, ?_⟩
    refine ⟨fun c2 => ?_, fun c2 => ?_⟩
    · skip
      (try simp only [w32_0, wbi0, Classical.not_not] at c2); (try (rw [w32_id (x := k) (by omega) (by omega), w32_id (x := mF A0 (18 + c)) (by omega) (by omega)] at c2)); (try (have b1 := pb k 0 (by omega) (by omega) (by decide) (by decide); have b2 := pb b 0 (by omega) (by omega) (by decide) (by decide); have b3 := pb k 1 (by omega) (by omega) (by decide) (by decide); have b4 := pb b 1 (by omega) (by omega) (by decide) (by decide); simp (disch := omega) only [w32_id] at c2))
      refine ⟨fun q => absurd q (by decide), fun _ => ?_⟩
      refine ⟨⟨rfl, rfl, rfl, rfl, ?_⟩, by omega⟩
      refine ⟨by omega, ?_⟩
      rw [show k + 1 - 1 = k by omega, h6]
      first
      | (rw [if_pos (by omega)]; done)
      | (rw [if_neg (by omega)]; done)
    · skip
      (try simp only [w32_0, wbi0, Classical.not_not] at c2); (try (rw [w32_id (x := k) (by omega) (by omega), w32_id (x := mF A0 (18 + c)) (by omega) (by omega)] at c2)); (try (have b1 := pb k 0 (by omega) (by omega) (by decide) (by decide); have b2 := pb b 0 (by omega) (by omega) (by decide) (by decide); have b3 := pb k 1 (by omega) (by omega) (by decide) (by decide); have b4 := pb b 1 (by omega) (by omega) (by decide) (by decide); simp (disch := omega) only [w32_id] at c2))
      refine ⟨by first | omega | exact ⟨by omega, by omega, by omega⟩, ?_⟩
      refine ⟨by first | omega | exact ⟨by omega, by omega, by omega⟩, ?_⟩
      refine ⟨fun c3 => ?_, fun c3 => ?_⟩
      · skip
        (try simp only [w32_0, wbi0, Classical.not_not] at c3); (try (rw [w32_id (x := k) (by omega) (by omega), w32_id (x := mF A0 (18 + c)) (by omega) (by omega)] at c3)); (try (have b1 := pb k 0 (by omega) (by omega) (by decide) (by decide); have b2 := pb b 0 (by omega) (by omega) (by decide) (by decide); have b3 := pb k 1 (by omega) (by omega) (by decide) (by decide); have b4 := pb b 1 (by omega) (by omega) (by decide) (by decide); simp (disch := omega) only [w32_id] at c3))
        refine ⟨by first | omega | exact ⟨by omega, by omega, by omega⟩, ?_⟩
        refine ⟨by first | omega | exact ⟨by omega, by omega, by omega⟩, ?_⟩
        refine ⟨fun c4 => ?_, fun c4 => ?_⟩
        · skip
          (try simp only [w32_0, wbi0, Classical.not_not] at c4); (try (rw [w32_id (x := k) (by omega) (by omega), w32_id (x := mF A0 (18 + c)) (by omega) (by omega)] at c4)); (try (have b1 := pb k 0 (by omega) (by omega) (by decide) (by decide); have b2 := pb b 0 (by omega) (by omega) (by decide) (by decide); have b3 := pb k 1 (by omega) (by omega) (by decide) (by decide); have b4 := pb b 1 (by omega) (by omega) (by decide) (by decide); simp (disch := omega) only [w32_id] at c4))
          refine ⟨fun q => absurd q (by decide), fun _ => ?_⟩
          refine ⟨⟨rfl, rfl, rfl, rfl, ?_⟩, by omega⟩
          refine ⟨by omega, ?_⟩
          rw [show k + 1 - 1 = k by omega, h6]
          first
          | (rw [if_pos (by omega)]; done)
          | (rw [if_neg (by omega)]; done)
        · skip
          (try simp only [w32_0, wbi0, Classical.not_not] at c4); (try (rw [w32_id (x := k) (by omega) (by omega), w32_id (x := mF A0 (18 + c)) (by omega) (by omega)] at c4)); (try (have b1 := pb k 0 (by omega) (by omega) (by decide) (by decide); have b2 := pb b 0 (by omega) (by omega) (by decide) (by decide); have b3 := pb k 1 (by omega) (by omega) (by decide) (by decide); have b4 := pb b 1 (by omega) (by omega) (by decide) (by decide); simp (disch := omega) only [w32_id] at c4))
          refine ⟨fun _ => ?_, fun q => absurd (by decide) q⟩
          refine ⟨⟨rfl, rfl, rfl, rfl, ?_⟩, by omega⟩
          refine ⟨by omega, ?_⟩
          rw [show k + 1 - 1 = k by omega, h6]
          first
          | (rw [if_pos (by omega)]; done)
          | (rw [if_neg (by omega)]; done)
      · skip
        (try simp only [w32_0, wbi0, Classical.not_not] at c3); (try (rw [w32_id (x := k) (by omega) (by omega), w32_id (x := mF A0 (18 + c)) (by omega) (by omega)] at c3)); (try (have b1 := pb k 0 (by omega) (by omega) (by decide) (by decide); have b2 := pb b 0 (by omega) (by omega) (by decide) (by decide); have b3 := pb k 1 (by omega) (by omega) (by decide) (by decide); have b4 := pb b 1 (by omega) (by omega) (by decide) (by decide); simp (disch := omega) only [w32_id] at c3))
        refine ⟨fun _ => ?_, fun q => absurd (by decide) q⟩
        refine ⟨⟨rfl, rfl, rfl, rfl, ?_⟩, by omega⟩
        refine ⟨by omega, ?_⟩
        rw [show k + 1 - 1 = k by omega, h6]
        first
        | (rw [if_pos (by omega)]; done)
        | (rw [if_neg (by omega)]; done)
  · skip
    (try simp only [w32_0, wbi0, Classical.not_not] at c1); (try (rw [w32_id (x := k) (by omega) (by omega), w32_id (x := mF A0 (18 + c)) (by omega) (by omega)] at c1)); (try (have b1 := pb k 0 (by omega) (by omega) (by decide) (by decide); have b2 := pb b 0 (by omega) (by omega) (by decide) (by decide); have b3 := pb k 1 (by omega) (by omega) (by decide) (by decide); have b4 := pb b 1 (by omega) (by omega) (by decide) (by decide); simp (disch := omega) only [w32_id] at c1))
    refine ⟨⟨rfl, rfl, ?_⟩, by (try rw [upF_s]); omega⟩
    have eb : b = lmF (mF A0) c := by rw [h2, show k - 1 = mF A0 (18 + c) - 1 by omega]
    have hh := p3 (mF A0) p1 c p2'.1 p2'.2
    rw [upF_s]
    refine ⟨eb, by omega, by omega, fun aa bb hab => upF_o hab, fun _ _ _ => rfl, by rw [eb]; exact hh.1, [], rfl, trivial, ?_⟩
    rw [eb]
    exact hh.2.symm
set_option maxRecDepth 20000 in
theorem qvX9_laysHull_25_95 (c : Int) (F0 : FF) (A0 : AA) (K : KK) (h : (fgOK (mF A0) ∧ (0 ≤ c ∧ c < mF A0 0) ∧ HUT) ∧ (∀ (G_1 : FF) (B_1 : AA), ((∀ a b, a ≠ 25 ∨ b ≠ 31 → G_1 a b = F0 a b) ∧ (∀ b i, b ≠ 42 → B_1 b i = A0 b i) ∧ G_1 25 31 = ((huL (mF A0) c).length : Int) ∧ rowL (B_1 42) 0 (huL (mF A0) c)) → (K (some none) G_1 B_1))) (x : Int) (a : Int) (F : FF) (A : AA) (hi : x = (lmF (mF A0) c) ∧ (0 ≤ a ∧ a < mF A0 (18 + c)) ∧ (0 ≤ F 25 31 ∧ F 25 31 ≤ 4) ∧ (∀ aa bb, aa ≠ 25 ∨ bb ≠ 31 → F aa bb = F0 aa bb) ∧ (∀ bb ii, bb ≠ 42 → A bb ii = A0 bb ii) ∧ endM (mF A0) c x (Int.toNat (4 - F 25 31)) a ∧ ∃ L : List Int, (L.length : Int) = F 25 31 ∧ rowL (A 42) 0 L ∧ (huL (mF A0) c) = L ++ wrM (mF A0) c x (Int.toNat (4 - F 25 31)) a) : am_stp qxX9_laysHull (am_run qxX9_laysHull qnX9_laysHull_25 (fun pc ls st F9 A9 u => qiX9_laysHull_25 c F0 A0 pc ls st F9 A9 u ∧ quX9_laysHull_25 pc ls st F9 A9 < quX9_laysHull_25 95 [some (vR 25), some (vI c), some (vI x), some (vI a), none] [] F A) K 51) K 95 [some (vR 25), some (vI c), some (vI x), some (vI a), none] [] F A 0 := by
  obtain ⟨hp, h⟩ := h
  obtain ⟨p1, p2', p3⟩ := hp
  have q1 := p1.1.1
  have q3 := (p1.2.2.1 c p2'.1 p2'.2).1
  have pb : ∀ j w, 0 ≤ j → j < mF A0 (18 + c) → 0 ≤ w → w ≤ 1 → 0 ≤ pxF (mF A0) c j w ∧ pxF (mF A0) c j w ≤ 20 := fun j w j0 j1 w0 w1 => by
    obtain ⟨x1, x2, _⟩ := (p1.2.2.1 c p2'.1 p2'.2).2 j j0 j1
    rcases (show w = 0 ∨ w = 1 by omega) with rfl | rfl <;> assumption
  obtain ⟨h1, h2, h3, hF, hA, hE, L, h5, h6, h7⟩ := hi
  have eF : mF A = mF A0 := mF_c (funext fun i => hA 2 i (by decide)) (funext fun i => hA 27 i (by decide)) (funext fun i => hA 29 i (by decide))
  have k4 : F 25 31 < 4 := Classical.byContradiction fun z => endM_4 (by omega) hE
  have hc := caF_b (mF A0) c a (Int.toNat (mF A0 (18 + c)))
  have hl := lfF_b (mF A0) c (Int.toNat (mF A0 (18 + c) - 1))
  have h1' : x = lfF (mF A0) c (Int.toNat (mF A0 (18 + c) - 1)) := h1
  have hr := wrM_s (f := mF A0) (c := c) (x := x) (a := a) (k := F 25 31) k4
  have RL : rowL (upA A 42 (F 25 31) a 42) 0 (L ++ [a]) := (rowL_app L [a] 0).mpr ⟨rowL_c L 0 (fun i i0 i1 => upA_o (by omega)) h6, ⟨by rw [show (0 : Int) + L.length = F 25 31 by omega]; exact upA_s, trivial⟩⟩
  show (0 ≤ w32 (F 25 31) ∧ w32 (F 25 31) < 5) ∧ ((fgOK (mF (upA A 42 (w32 (F 25 31)) a)) ∧ (0 ≤ c ∧ c < mF (upA A 42 (w32 (F 25 31)) a) 0) ∧ 0 ≤ a ∧ a < mF (upA A 42 (w32 (F 25 31)) a) (18 + c)) ∧ ((w32 (caF (mF (upA A 42 (w32 (F 25 31)) a)) c a (Int.toNat (mF (upA A 42 (w32 (F 25 31)) a) (18 + c)))) = w32 (-1) → (K (some none) (upF F 25 31 ((F 25 31) + 1)) (upA A 42 (w32 (F 25 31)) a))) ∧ (¬ w32 (caF (mF (upA A 42 (w32 (F 25 31)) a)) c a (Int.toNat (mF (upA A 42 (w32 (F 25 31)) a) (18 + c)))) = w32 (-1) → (((0 ≤ c ∧ c < 8) ∧ (0 ≤ (caF (mF (upA A 42 (w32 (F 25 31)) a)) c a (Int.toNat (mF (upA A 42 (w32 (F 25 31)) a) (18 + c)))) ∧ (caF (mF (upA A 42 (w32 (F 25 31)) a)) c a (Int.toNat (mF (upA A 42 (w32 (F 25 31)) a) (18 + c)))) < 4) ∧ (0 ≤ x ∧ x < 4)) ∧ ((w32 (bi (w32 (pxF (mF (upA A 42 (w32 (F 25 31)) a)) c (caF (mF (upA A 42 (w32 (F 25 31)) a)) c a (Int.toNat (mF (upA A 42 (w32 (F 25 31)) a) (18 + c)))) 0) = w32 (pxF (mF (upA A 42 (w32 (F 25 31)) a)) c x 0) ∧ w32 (pxF (mF (upA A 42 (w32 (F 25 31)) a)) c (caF (mF (upA A 42 (w32 (F 25 31)) a)) c a (Int.toNat (mF (upA A 42 (w32 (F 25 31)) a) (18 + c)))) 1) = w32 (pxF (mF (upA A 42 (w32 (F 25 31)) a)) c x 1))) = w32 0 → ((25 = 25 ∧ c = c ∧ (x = (lmF (mF A0) c) ∧ (0 ≤ (caF (mF (upA A 42 (w32 (F 25 31)) a)) c a (Int.toNat (mF (upA A 42 (w32 (F 25 31)) a) (18 + c)))) ∧ (caF (mF (upA A 42 (w32 (F 25 31)) a)) c a (Int.toNat (mF (upA A 42 (w32 (F 25 31)) a) (18 + c)))) < mF A0 (18 + c)) ∧ (0 ≤ (upF F 25 31 ((F 25 31) + 1)) 25 31 ∧ (upF F 25 31 ((F 25 31) + 1)) 25 31 ≤ 4) ∧ (∀ aa bb, aa ≠ 25 ∨ bb ≠ 31 → (upF F 25 31 ((F 25 31) + 1)) aa bb = F0 aa bb) ∧ (∀ bb ii, bb ≠ 42 → (upA A 42 (w32 (F 25 31)) a) bb ii = A0 bb ii) ∧ endM (mF A0) c x (Int.toNat (4 - (upF F 25 31 ((F 25 31) + 1)) 25 31)) (caF (mF (upA A 42 (w32 (F 25 31)) a)) c a (Int.toNat (mF (upA A 42 (w32 (F 25 31)) a) (18 + c)))) ∧ ∃ L : List Int, (L.length : Int) = (upF F 25 31 ((F 25 31) + 1)) 25 31 ∧ rowL ((upA A 42 (w32 (F 25 31)) a) 42) 0 L ∧ (huL (mF A0) c) = L ++ wrM (mF A0) c x (Int.toNat (4 - (upF F 25 31 ((F 25 31) + 1)) 25 31)) (caF (mF (upA A 42 (w32 (F 25 31)) a)) c a (Int.toNat (mF (upA A 42 (w32 (F 25 31)) a) (18 + c)))))) ∧ (Int.toNat (20 - (upF F 25 31 ((F 25 31) + 1)) 25 31)) < (Int.toNat (20 - F 25 31)))) ∧ (¬ (w32 (bi (w32 (pxF (mF (upA A 42 (w32 (F 25 31)) a)) c (caF (mF (upA A 42 (w32 (F 25 31)) a)) c a (Int.toNat (mF (upA A 42 (w32 (F 25 31)) a) (18 + c)))) 0) = w32 (pxF (mF (upA A 42 (w32 (F 25 31)) a)) c x 0) ∧ w32 (pxF (mF (upA A 42 (w32 (F 25 31)) a)) c (caF (mF (upA A 42 (w32 (F 25 31)) a)) c a (Int.toNat (mF (upA A 42 (w32 (F 25 31)) a) (18 + c)))) 1) = w32 (pxF (mF (upA A 42 (w32 (F 25 31)) a)) c x 1))) = w32 0) → (K (some none) (upF F 25 31 ((F 25 31) + 1)) (upA A 42 (w32 (F 25 31)) a))))))))
  refine ⟨by first | omega | (rw [w32_id (by omega) (by omega)]; omega) | (rw [mF_up (by decide), eF]; first | exact ⟨p1, p2', h2⟩ | exact ⟨by omega, by omega, by omega⟩), ?_⟩
  refine ⟨by first | omega | (rw [w32_id (by omega) (by omega)]; omega) | (rw [mF_up (by decide), eF]; first | exact ⟨p1, p2', h2⟩ | exact ⟨by omega, by omega, by omega⟩), ?_⟩
  refine ⟨fun c1 => ?_, fun c1 => ?_⟩
  · skip
    (try rw [mF_up (by decide), eF] at c1); (try simp only [w32_0, wbi0, Classical.not_not] at c1); (try rw [w32_id (x := caF (mF A0) c a (Int.toNat (mF A0 (18 + c)))) (by omega) (by omega), w32_id (x := -1) (by decide) (by decide)] at c1)
    rw [w32_id (x := F 25 31) (by omega) (by omega)]
    have e9 : nxF (mF A0) c a = -1 ∨ spF (mF A0) c (nxF (mF A0) c a) x := by first | exact Or.inl c1 | exact Or.inr c2
    rw [if_pos e9] at hr
    refine h _ _ ⟨fun aa bb hab => by rw [upF_o hab]; exact hF aa bb hab, fun bb ii hb => by rw [upA_k hb]; exact hA bb ii hb, ?_, ?_⟩
    · rw [upF_s, h7, hr]; simp only [List.length_append, List.length_cons, List.length_nil]; omega
    · rw [h7, hr]; exact RL
  · skip
    (try rw [mF_up (by decide), eF] at c1); (try simp only [w32_0, wbi0, Classical.not_not] at c1); (try rw [w32_id (x := caF (mF A0) c a (Int.toNat (mF A0 (18 + c)))) (by omega) (by omega), w32_id (x := -1) (by decide) (by decide)] at c1)
    refine ⟨by first | omega | (rw [w32_id (by omega) (by omega)]; omega) | (rw [mF_up (by decide), eF]; first | exact ⟨p1, p2', h2⟩ | exact ⟨by omega, by omega, by omega⟩), ?_⟩
    refine ⟨fun c2 => ?_, fun c2 => ?_⟩
    · skip
      (try rw [mF_up (by decide), eF] at c2); (try simp only [w32_0, wbi0, Classical.not_not] at c2); (try rw [w32_id (x := caF (mF A0) c a (Int.toNat (mF A0 (18 + c)))) (by omega) (by omega), w32_id (x := -1) (by decide) (by decide)] at c2)
      refine ⟨⟨rfl, rfl, ?_⟩, by (try rw [upF_s]); omega⟩
      have e9 : ¬ (nxF (mF A0) c a = -1 ∨ spF (mF A0) c (nxF (mF A0) c a) x) := fun z => z.elim c1 c2
      have hE2 := endM_s k4 hE e9
      rw [if_neg e9] at hr
      rw [w32_id (x := F 25 31) (by omega) (by omega), mF_up (by decide), eF, upF_s]
      refine ⟨h1, by omega, by omega, fun aa bb hab => by rw [upF_o hab]; exact hF aa bb hab, fun bb ii hb => by rw [upA_k hb]; exact hA bb ii hb, hE2, L ++ [a], ?_, RL, ?_⟩
      · simp only [List.length_append, List.length_cons, List.length_nil]; omega
      · rw [h7, hr, List.append_assoc]; rfl
    · skip
      (try rw [mF_up (by decide), eF] at c2); (try simp only [w32_0, wbi0, Classical.not_not] at c2); (try rw [w32_id (x := caF (mF A0) c a (Int.toNat (mF A0 (18 + c)))) (by omega) (by omega), w32_id (x := -1) (by decide) (by decide)] at c2)
      rw [w32_id (x := F 25 31) (by omega) (by omega)]
      have e9 : nxF (mF A0) c a = -1 ∨ spF (mF A0) c (nxF (mF A0) c a) x := by first | exact Or.inl c1 | exact Or.inr c2
      rw [if_pos e9] at hr
      refine h _ _ ⟨fun aa bb hab => by rw [upF_o hab]; exact hF aa bb hab, fun bb ii hb => by rw [upA_k hb]; exact hA bb ii hb, ?_, ?_⟩
      · rw [upF_s, h7, hr]; simp only [List.length_append, List.length_cons, List.length_nil]; omega
      · rw [h7, hr]; exact RL
set_option maxRecDepth 20000 in
theorem qvX9_laysHull_25 (c : Int) (F0 : FF) (A0 : AA) (K : KK) (h : (fgOK (mF A0) ∧ (0 ≤ c ∧ c < mF A0 0) ∧ HUT) ∧ (∀ (G_1 : FF) (B_1 : AA), ((∀ a b, a ≠ 25 ∨ b ≠ 31 → G_1 a b = F0 a b) ∧ (∀ b i, b ≠ 42 → B_1 b i = A0 b i) ∧ G_1 25 31 = ((huL (mF A0) c).length : Int) ∧ rowL (B_1 42) 0 (huL (mF A0) c)) → (K (some none) G_1 B_1))) : am_body qxX9_laysHull qnX9_laysHull_25 51 (qiX9_laysHull_25 c F0 A0) quX9_laysHull_25 [vR 25, vI c] 5 F0 A0 K := by
  refine ⟨qvX9_laysHull_25_0 c F0 A0 K h, fun pc ls st F A u hI => ?_⟩
  unfold qiX9_laysHull_25 at hI
  replace hI := am_cond2 hI
  rcases hI with ⟨hb, hI⟩ | hI
  · have hb := am_bq hb
    subst hb
    split at hI
    · rename_i s0 s1 b k
      obtain ⟨e0, e1, e2, e3, hI⟩ := hI
      subst e0
      subst e1
      subst e2
      subst e3
      exact qvX9_laysHull_25_4 _ _ _ K h _ _ hI
    · exact hI.elim
  replace hI := am_cond2 hI
  rcases hI with ⟨hb, hI⟩ | hI
  · have hb := am_bq hb
    subst hb
    split at hI
    · rename_i s0 s1 x a
      obtain ⟨e0, e1, hI⟩ := hI
      subst e0
      subst e1
      exact qvX9_laysHull_25_95 _ _ _ K h _ _ _ _ hI
    · exact hI.elim
  exact hI.elim
theorem qtX9_laysHull (l : Launch) : am_CT l layM qeX9_laysHull := am_met0 rfl (by decide +kernel) rfl rfl rfl rfl rfl (fun _ => rfl) rfl (qzX9_laysHull l) (fun k e1 h => (qyX9_laysHull l k e1 h).2) (fun as F A K h => by
  replace h : qsX9_laysHull as F A K := h
  unfold qsX9_laysHull at h
  split at h
  · rename_i o c
    refine ⟨by first | exact Nat.le_of_ble_eq_true rfl | simp [am_fl, am_cat], ?_⟩
    replace h := am_cond2 h
    rcases h with ⟨hb, h⟩ | h
    · skip
      have hb0 := hb
      have hb0 := am_bq hb0
      subst hb0
      exact am_way_body (qvX9_laysHull_25 c F A K h)
    exact h.elim
  · exact h.elim)
def qkX9_hullSize : Nat → Option CI := fun pc => cond (Nat.ble 24 pc) none (cond (Nat.ble 13 pc) (cond (Nat.ble 16 pc) (cond (Nat.ble 20 pc) (cond (Nat.beq pc 20) (some (.getfield 326, 23, [])) (cond (Nat.beq pc 23) (some (.ireturn, 24, [])) (none))) (cond (Nat.beq pc 16) (some (.invokevirtual 342, 19, [])) (cond (Nat.beq pc 19) (some (.aload_n 0, 20, [])) (none)))) (cond (Nat.beq pc 13) (some (.ireturn, 14, [])) (cond (Nat.beq pc 14) (some (.aload_n 0, 15, [])) (cond (Nat.beq pc 15) (some (.iload_n 1, 16, [])) (none))))) (cond (Nat.ble 3 pc) (cond (Nat.ble 9 pc) (cond (Nat.beq pc 9) (some (.ifCond .ne 5, 12, [14])) (cond (Nat.beq pc 12) (some (.iconst 0, 13, [])) (none))) (cond (Nat.beq pc 3) (some (.invokevirtual 298, 6, [])) (cond (Nat.beq pc 6) (some (.invokevirtual 301, 9, [])) (none)))) (cond (Nat.beq pc 0) (some (.aload_n 0, 1, [])) (cond (Nat.beq pc 1) (some (.aload_n 0, 2, [])) (cond (Nat.beq pc 2) (some (.iload_n 1, 3, [])) (none))))))
theorem qkX9_hullSize_ok : ∀ pc i nx ts, qkX9_hullSize pc = some (i, nx, ts) → am_cok cX9_hullSize pc (i, nx, ts) = true := fun pc i nx ts h => am_tok_ok (n := 24) (by decide +kernel) (fun pc h => by show cond (Nat.ble 24 pc) _ _ = _; rw [Nat.ble_eq_true_of_le h]; rfl) h
def qaX9_hullSize : Nat → Option CE := fun k => cond (Nat.beq k 298) (some qeX9_isCurve) (cond (Nat.beq k 301) (some qeX9_checks) (cond (Nat.beq k 342) (some qeX9_laysHull) (none)))
theorem qyX9_hullSize (l : Launch) : ∀ k e1, qaX9_hullSize k = some e1 → am_cal l layM RX9 7 k e1 ∧ ceT e1 = 0 := q_cons ⟨am_calV (ci := 9) (qtX9_isCurve l) qbX9_isCurve (by decide) rfl (am_tb_at 1651 (by decide +kernel) rfl), rfl⟩ (q_cons ⟨am_calV (ci := 9) (qtX9_checks l) qbX9_checks (by decide) rfl (am_tb_at 1655 (by decide +kernel) rfl), rfl⟩ (q_cons ⟨am_calV (ci := 9) (qtX9_laysHull l) qbX9_laysHull (by decide) rfl (am_tb_at 1742 (by decide +kernel) rfl), rfl⟩ (q_nil)))
def qxX9_hullSize : CX := (qkX9_hullSize, layM, qfX9, qaX9_hullSize, qcX9, qlX9, qmX9, (some .int), false, none, 0, none, fun _ => none)
theorem qzX9_hullSize (l : Launch) : am_sta l qxX9_hullSize RX9 7 cX9_hullSize := ⟨qkX9_hullSize_ok, layM_ok, qfX9_ok, qcX9_ok, qlX9_ok, am_mthP qmX9_ok (by decide), fun k e1 h => (qyX9_hullSize l k e1 h).1⟩
def qsX9_hullSize : SP := fun as F A K => match as with
  | [.inr (.inr o), .inl c] => cond (Nat.beq o 25) ((fgOK (mF A) ∧ (-2147483648 ≤ c ∧ c < 2147483648) ∧ HUT) ∧ (∀ (G_1 : FF) (B_1 : AA), (qdP F G_1 A B_1 ∧ G_1 25 0 = (if 0 ≤ c ∧ c < mF A 0 then 0 else 1)) → (K (some (some (vI (if 0 ≤ c ∧ c < mF A 0 then ((huL (mF A) c).length : Int) else 0)))) G_1 B_1))) (False)
  | _ => False
def qeX9_hullSize : CE := (yX9_hullSize, cX9_hullSize, 2, (some .int), 1, some 9, 0, [], 0, 7, qsX9_hullSize)
theorem qbX9_hullSize : am_mb qeX9_hullSize := ⟨am_tb_at 1765 (by decide +kernel) rfl, am_tb_at 124 (by decide +kernel) rfl, ⟨by decide, by decide, by decide +kernel⟩, by decide, by decide, am_tb_at 1763 (by decide +kernel) rfl, am_tb_at 1764 (by decide +kernel) rfl, _, _, rfl⟩
set_option maxRecDepth 20000 in
theorem qvX9_hullSize_25 (c : Int) (F : FF) (A : AA) (K : KK) (h : (fgOK (mF A) ∧ (-2147483648 ≤ c ∧ c < 2147483648) ∧ HUT) ∧ (∀ (G_1 : FF) (B_1 : AA), (qdP F G_1 A B_1 ∧ G_1 25 0 = (if 0 ≤ c ∧ c < mF A 0 then 0 else 1)) → (K (some (some (vI (if 0 ≤ c ∧ c < mF A 0 then ((huL (mF A) c).length : Int) else 0)))) G_1 B_1))) : am_line qxX9_hullSize 13 [vR 25, vI c] 2 F A K := by
  show am_stp qxX9_hullSize (am_run qxX9_hullSize (fun _ => none) (fun _ _ _ _ _ _ => False) K 13) K 0 [some (vR 25), some (vI c)] [] F A 0
  obtain ⟨hp, h⟩ := h
  have p1 := hp.1
  have q1 := p1.1.1
  have q2 := p1.1.2
  have q4 := p1.2.1

  show ((0 ≤ mF A 0 ∧ mF A 0 ≤ 8) ∧ (0 ≤ mF A 1 ∧ mF A 1 ≤ 6) ∧ (-2147483648 ≤ c ∧ c < 2147483648)) ∧ (((bi (0 ≤ c ∧ c < mF A 0)) = 0 ∨ (bi (0 ≤ c ∧ c < mF A 0)) = 1) ∧ ((w32 (bi (0 ≤ c ∧ c < mF A 0)) = w32 0 → (K (some (some (vI 0))) (upF F 25 0 (1 - (bi (0 ≤ c ∧ c < mF A 0)))) A)) ∧ (¬ (w32 (bi (0 ≤ c ∧ c < mF A 0)) = w32 0) → ((fgOK (mF A) ∧ (0 ≤ c ∧ c < mF A 0) ∧ HUT) ∧ (∀ (G_1 : FF) (B_1 : AA), ((∀ a b, a ≠ 25 ∨ b ≠ 31 → G_1 a b = (upF F 25 0 (1 - (bi (0 ≤ c ∧ c < mF A 0)))) a b) ∧ (∀ b i, b ≠ 42 → B_1 b i = A b i) ∧ G_1 25 31 = ((huL (mF A) c).length : Int) ∧ rowL (B_1 42) 0 (huL (mF A) c)) → (K (some (some (vI (G_1 25 31)))) G_1 B_1))))))
  refine ⟨by omega, ?_⟩
  refine ⟨by first | exact bi_01 | exact Or.inl rfl | exact Or.inr rfl | omega | exact ⟨p1, c1, hp.2.2⟩, ?_⟩
  refine ⟨fun c1 => ?_, fun c1 => ?_⟩
  · skip
    (try simp (disch := omega) only [fat_in, w32_0, wbi0, Classical.not_not, w32_id] at c1)
    first
    | exact K_eq (h _ _ ⟨qdP_F (by decide), by rw [upF_s, bi_f c1, if_neg c1]; rfl⟩) (if_neg c1)
    | exact K_eq (h _ _ ⟨qdP_trans (qdP_F (by decide)) ⟨fun a b hab => g1.1 a b (by omega), fun b i hb => g1.2.1 b i (by omega)⟩, by rw [g1.1 25 0 (by decide), upF_s, bi_t c1, if_pos c1]; rfl⟩) (by rw [if_pos c1, g1.2.2.1])
  · skip
    (try simp (disch := omega) only [fat_in, w32_0, wbi0, Classical.not_not, w32_id] at c1)
    refine ⟨by first | exact bi_01 | exact Or.inl rfl | exact Or.inr rfl | omega | exact ⟨p1, c1, hp.2.2⟩, ?_⟩
    intro G_1 B_1 g1
    first
    | exact K_eq (h _ _ ⟨qdP_F (by decide), by rw [upF_s, bi_f c1, if_neg c1]; rfl⟩) (if_neg c1)
    | exact K_eq (h _ _ ⟨qdP_trans (qdP_F (by decide)) ⟨fun a b hab => g1.1 a b (by omega), fun b i hb => g1.2.1 b i (by omega)⟩, by rw [g1.1 25 0 (by decide), upF_s, bi_t c1, if_pos c1]; rfl⟩) (by rw [if_pos c1, g1.2.2.1])
theorem qtX9_hullSize (l : Launch) : am_CT l layM qeX9_hullSize := am_met0 rfl (by decide +kernel) rfl rfl rfl rfl rfl (fun _ => rfl) rfl (qzX9_hullSize l) (fun k e1 h => (qyX9_hullSize l k e1 h).2) (fun as F A K h => by
  replace h : qsX9_hullSize as F A K := h
  unfold qsX9_hullSize at h
  split at h
  · rename_i o c
    refine ⟨by first | exact Nat.le_of_ble_eq_true rfl | simp [am_fl, am_cat], ?_⟩
    replace h := am_cond2 h
    rcases h with ⟨hb, h⟩ | h
    · skip
      have hb0 := hb
      have hb0 := am_bq hb0
      subst hb0
      exact am_way_line (qvX9_hullSize_25 c F A K h)
    exact h.elim
  · exact h.elim)
def qkX9_isStraight : Nat → Option CI := fun pc => cond (Nat.ble 33 pc) none (cond (Nat.ble 15 pc) (cond (Nat.ble 24 pc) (cond (Nat.ble 28 pc) (cond (Nat.beq pc 28) (some (.goto 4, 31, [32])) (cond (Nat.beq pc 31) (some (.iconst 0, 32, [])) (cond (Nat.beq pc 32) (some (.ireturn, 33, [])) (none)))) (cond (Nat.beq pc 24) (some (.if_icmp .ge 7, 27, [31])) (cond (Nat.beq pc 27) (some (.iconst 1, 28, [])) (none)))) (cond (Nat.ble 19 pc) (cond (Nat.beq pc 19) (some (.aload_n 0, 20, [])) (cond (Nat.beq pc 20) (some (.getfield 326, 23, [])) (cond (Nat.beq pc 23) (some (.iconst 3, 24, [])) (none)))) (cond (Nat.beq pc 15) (some (.iload_n 1, 16, [])) (cond (Nat.beq pc 16) (some (.invokevirtual 342, 19, [])) (none))))) (cond (Nat.ble 6 pc) (cond (Nat.ble 12 pc) (cond (Nat.beq pc 12) (some (.iconst 0, 13, [])) (cond (Nat.beq pc 13) (some (.ireturn, 14, [])) (cond (Nat.beq pc 14) (some (.aload_n 0, 15, [])) (none)))) (cond (Nat.beq pc 6) (some (.invokevirtual 301, 9, [])) (cond (Nat.beq pc 9) (some (.ifCond .ne 5, 12, [14])) (none)))) (cond (Nat.ble 2 pc) (cond (Nat.beq pc 2) (some (.iload_n 1, 3, [])) (cond (Nat.beq pc 3) (some (.invokevirtual 298, 6, [])) (none))) (cond (Nat.beq pc 0) (some (.aload_n 0, 1, [])) (cond (Nat.beq pc 1) (some (.aload_n 0, 2, [])) (none))))))
theorem qkX9_isStraight_ok : ∀ pc i nx ts, qkX9_isStraight pc = some (i, nx, ts) → am_cok cX9_isStraight pc (i, nx, ts) = true := fun pc i nx ts h => am_tok_ok (n := 33) (by decide +kernel) (fun pc h => by show cond (Nat.ble 33 pc) _ _ = _; rw [Nat.ble_eq_true_of_le h]; rfl) h
def qaX9_isStraight : Nat → Option CE := fun k => cond (Nat.beq k 298) (some qeX9_isCurve) (cond (Nat.beq k 301) (some qeX9_checks) (cond (Nat.beq k 342) (some qeX9_laysHull) (none)))
theorem qyX9_isStraight (l : Launch) : ∀ k e1, qaX9_isStraight k = some e1 → am_cal l layM RX9 7 k e1 ∧ ceT e1 = 0 := q_cons ⟨am_calV (ci := 9) (qtX9_isCurve l) qbX9_isCurve (by decide) rfl (am_tb_at 1651 (by decide +kernel) rfl), rfl⟩ (q_cons ⟨am_calV (ci := 9) (qtX9_checks l) qbX9_checks (by decide) rfl (am_tb_at 1655 (by decide +kernel) rfl), rfl⟩ (q_cons ⟨am_calV (ci := 9) (qtX9_laysHull l) qbX9_laysHull (by decide) rfl (am_tb_at 1742 (by decide +kernel) rfl), rfl⟩ (q_nil)))
def qxX9_isStraight : CX := (qkX9_isStraight, layM, qfX9, qaX9_isStraight, qcX9, qlX9, qmX9, (some .boolean), false, none, 0, none, fun _ => none)
theorem qzX9_isStraight (l : Launch) : am_sta l qxX9_isStraight RX9 7 cX9_isStraight := ⟨qkX9_isStraight_ok, layM_ok, qfX9_ok, qcX9_ok, qlX9_ok, am_mthP qmX9_ok (by decide), fun k e1 h => (qyX9_isStraight l k e1 h).1⟩
def qsX9_isStraight : SP := fun as F A K => match as with
  | [.inr (.inr o), .inl c] => cond (Nat.beq o 25) ((fgOK (mF A) ∧ (-2147483648 ≤ c ∧ c < 2147483648) ∧ HUT) ∧ (∀ (G_1 : FF) (B_1 : AA), (qdP F G_1 A B_1 ∧ G_1 25 0 = (if 0 ≤ c ∧ c < mF A 0 then 0 else 1)) → (K (some (some (vI (if 0 ≤ c ∧ c < mF A 0 then bi (((huL (mF A) c).length : Int) < 3) else 0)))) G_1 B_1))) (False)
  | _ => False
def qeX9_isStraight : CE := (yX9_isStraight, cX9_isStraight, 2, (some .boolean), 1, some 9, 0, [], 0, 7, qsX9_isStraight)
theorem qbX9_isStraight : am_mb qeX9_isStraight := ⟨am_tb_at 1741 (by decide +kernel) rfl, am_tb_at 124 (by decide +kernel) rfl, ⟨by decide, by decide, by decide +kernel⟩, by decide, by decide, am_tb_at 1739 (by decide +kernel) rfl, am_tb_at 1740 (by decide +kernel) rfl, _, _, rfl⟩
set_option maxRecDepth 20000 in
theorem qvX9_isStraight_25 (c : Int) (F : FF) (A : AA) (K : KK) (h : (fgOK (mF A) ∧ (-2147483648 ≤ c ∧ c < 2147483648) ∧ HUT) ∧ (∀ (G_1 : FF) (B_1 : AA), (qdP F G_1 A B_1 ∧ G_1 25 0 = (if 0 ≤ c ∧ c < mF A 0 then 0 else 1)) → (K (some (some (vI (if 0 ≤ c ∧ c < mF A 0 then bi (((huL (mF A) c).length : Int) < 3) else 0)))) G_1 B_1))) : am_line qxX9_isStraight 17 [vR 25, vI c] 2 F A K := by
  show am_stp qxX9_isStraight (am_run qxX9_isStraight (fun _ => none) (fun _ _ _ _ _ _ => False) K 17) K 0 [some (vR 25), some (vI c)] [] F A 0
  obtain ⟨hp, h⟩ := h
  have p1 := hp.1
  have q1 := p1.1.1
  have q2 := p1.1.2
  have q4 := p1.2.1

  show ((0 ≤ mF A 0 ∧ mF A 0 ≤ 8) ∧ (0 ≤ mF A 1 ∧ mF A 1 ≤ 6) ∧ (-2147483648 ≤ c ∧ c < 2147483648)) ∧ (((bi (0 ≤ c ∧ c < mF A 0)) = 0 ∨ (bi (0 ≤ c ∧ c < mF A 0)) = 1) ∧ ((w32 (bi (0 ≤ c ∧ c < mF A 0)) = w32 0 → ((0 = 0 ∨ 0 = 1) ∧ (K (some (some (vI 0))) (upF F 25 0 (1 - (bi (0 ≤ c ∧ c < mF A 0)))) A))) ∧ (¬ (w32 (bi (0 ≤ c ∧ c < mF A 0)) = w32 0) → ((fgOK (mF A) ∧ (0 ≤ c ∧ c < mF A 0) ∧ HUT) ∧ (∀ (G_1 : FF) (B_1 : AA), ((∀ a b, a ≠ 25 ∨ b ≠ 31 → G_1 a b = (upF F 25 0 (1 - (bi (0 ≤ c ∧ c < mF A 0)))) a b) ∧ (∀ b i, b ≠ 42 → B_1 b i = A b i) ∧ G_1 25 31 = ((huL (mF A) c).length : Int) ∧ rowL (B_1 42) 0 (huL (mF A) c)) → ((w32 (G_1 25 31) < w32 3 → ((1 = 0 ∨ 1 = 1) ∧ (K (some (some (vI 1))) G_1 B_1))) ∧ (¬ w32 (G_1 25 31) < w32 3 → ((0 = 0 ∨ 0 = 1) ∧ (K (some (some (vI 0))) G_1 B_1)))))))))
  refine ⟨by omega, ?_⟩
  refine ⟨by first | exact bi_01 | exact Or.inl rfl | exact Or.inr rfl | omega | exact ⟨p1, c1, hp.2.2⟩, ?_⟩
  refine ⟨fun c1 => ?_, fun c1 => ?_⟩
  · skip
    (try simp only [w32_0, wbi0, Classical.not_not] at c1); (try rw [g5] at c1); (try simp (disch := omega) only [w32_id] at c1)
    refine ⟨by first | exact bi_01 | exact Or.inl rfl | exact Or.inr rfl | omega | exact ⟨p1, c1, hp.2.2⟩, ?_⟩
    first
    | exact K_eq (h _ _ ⟨qdP_F (by decide), by rw [upF_s, bi_f c1, if_neg c1]; rfl⟩) (if_neg c1)
    | exact K_eq (h _ _ ⟨qdP_trans (qdP_F (by decide)) ⟨fun a b hab => g1.1 a b (by omega), fun b i hb => g1.2.1 b i (by omega)⟩, by rw [g1.1 25 0 (by decide), upF_s, bi_t c1, if_pos c1]; rfl⟩) (by rw [if_pos c1, bi_t c2])
    | exact K_eq (h _ _ ⟨qdP_trans (qdP_F (by decide)) ⟨fun a b hab => g1.1 a b (by omega), fun b i hb => g1.2.1 b i (by omega)⟩, by rw [g1.1 25 0 (by decide), upF_s, bi_t c1, if_pos c1]; rfl⟩) (by rw [if_pos c1, bi_f c2])
  · skip
    (try simp only [w32_0, wbi0, Classical.not_not] at c1); (try rw [g5] at c1); (try simp (disch := omega) only [w32_id] at c1)
    refine ⟨by first | exact bi_01 | exact Or.inl rfl | exact Or.inr rfl | omega | exact ⟨p1, c1, hp.2.2⟩, ?_⟩
    intro G_1 B_1 g1
    have hl := wrF_len (f := mF A) (c := c) (n := mF A (18 + c)) (x := lfF (mF A) c (Int.toNat (mF A (18 + c) - 1))) 4 (lfF (mF A) c (Int.toNat (mF A (18 + c) - 1)))
    have hl2 : (huL (mF A) c).length ≤ 4 := hl
    have g5 := g1.2.2.1
    refine ⟨fun c2 => ?_, fun c2 => ?_⟩
    · skip
      (try simp only [w32_0, wbi0, Classical.not_not] at c2); (try rw [g5] at c2); (try simp (disch := omega) only [w32_id] at c2)
      refine ⟨by first | exact bi_01 | exact Or.inl rfl | exact Or.inr rfl | omega | exact ⟨p1, c1, hp.2.2⟩, ?_⟩
      first
      | exact K_eq (h _ _ ⟨qdP_F (by decide), by rw [upF_s, bi_f c1, if_neg c1]; rfl⟩) (if_neg c1)
      | exact K_eq (h _ _ ⟨qdP_trans (qdP_F (by decide)) ⟨fun a b hab => g1.1 a b (by omega), fun b i hb => g1.2.1 b i (by omega)⟩, by rw [g1.1 25 0 (by decide), upF_s, bi_t c1, if_pos c1]; rfl⟩) (by rw [if_pos c1, bi_t c2])
      | exact K_eq (h _ _ ⟨qdP_trans (qdP_F (by decide)) ⟨fun a b hab => g1.1 a b (by omega), fun b i hb => g1.2.1 b i (by omega)⟩, by rw [g1.1 25 0 (by decide), upF_s, bi_t c1, if_pos c1]; rfl⟩) (by rw [if_pos c1, bi_f c2])
    · skip
      (try simp only [w32_0, wbi0, Classical.not_not] at c2); (try rw [g5] at c2); (try simp (disch := omega) only [w32_id] at c2)
      refine ⟨by first | exact bi_01 | exact Or.inl rfl | exact Or.inr rfl | omega | exact ⟨p1, c1, hp.2.2⟩, ?_⟩
      first
      | exact K_eq (h _ _ ⟨qdP_F (by decide), by rw [upF_s, bi_f c1, if_neg c1]; rfl⟩) (if_neg c1)
      | exact K_eq (h _ _ ⟨qdP_trans (qdP_F (by decide)) ⟨fun a b hab => g1.1 a b (by omega), fun b i hb => g1.2.1 b i (by omega)⟩, by rw [g1.1 25 0 (by decide), upF_s, bi_t c1, if_pos c1]; rfl⟩) (by rw [if_pos c1, bi_t c2])
      | exact K_eq (h _ _ ⟨qdP_trans (qdP_F (by decide)) ⟨fun a b hab => g1.1 a b (by omega), fun b i hb => g1.2.1 b i (by omega)⟩, by rw [g1.1 25 0 (by decide), upF_s, bi_t c1, if_pos c1]; rfl⟩) (by rw [if_pos c1, bi_f c2])
theorem qtX9_isStraight (l : Launch) : am_CT l layM qeX9_isStraight := am_met0 rfl (by decide +kernel) rfl rfl rfl rfl rfl (fun _ => rfl) rfl (qzX9_isStraight l) (fun k e1 h => (qyX9_isStraight l k e1 h).2) (fun as F A K h => by
  replace h : qsX9_isStraight as F A K := h
  unfold qsX9_isStraight at h
  split at h
  · rename_i o c
    refine ⟨by first | exact Nat.le_of_ble_eq_true rfl | simp [am_fl, am_cat], ?_⟩
    replace h := am_cond2 h
    rcases h with ⟨hb, h⟩ | h
    · skip
      have hb0 := hb
      have hb0 := am_bq hb0
      subst hb0
      exact am_way_line (qvX9_isStraight_25 c F A K h)
    exact h.elim
  · exact h.elim)
def qkX9_hullCorner : Nat → Option CI := fun pc => cond (Nat.ble 42 pc) none (cond (Nat.ble 20 pc) (cond (Nat.ble 32 pc) (cond (Nat.ble 39 pc) (cond (Nat.beq pc 39) (some (.iload_n 2, 40, [])) (cond (Nat.beq pc 40) (some (.iaload, 41, [])) (cond (Nat.beq pc 41) (some (.ireturn, 42, [])) (none)))) (cond (Nat.beq pc 32) (some (.goto 9, 35, [41])) (cond (Nat.beq pc 35) (some (.aload_n 0, 36, [])) (cond (Nat.beq pc 36) (some (.getfield 64, 39, [])) (none))))) (cond (Nat.ble 25 pc) (cond (Nat.beq pc 25) (some (.getfield 326, 28, [])) (cond (Nat.beq pc 28) (some (.if_icmp .lt 7, 31, [35])) (cond (Nat.beq pc 31) (some (.iconst (-1), 32, [])) (none)))) (cond (Nat.beq pc 20) (some (.ifCond .lt 11, 23, [31])) (cond (Nat.beq pc 23) (some (.iload_n 2, 24, [])) (cond (Nat.beq pc 24) (some (.aload_n 0, 25, [])) (none)))))) (cond (Nat.ble 12 pc) (cond (Nat.ble 15 pc) (cond (Nat.beq pc 15) (some (.iload_n 1, 16, [])) (cond (Nat.beq pc 16) (some (.invokevirtual 342, 19, [])) (cond (Nat.beq pc 19) (some (.iload_n 2, 20, [])) (none)))) (cond (Nat.beq pc 12) (some (.iconst 0, 13, [])) (cond (Nat.beq pc 13) (some (.ireturn, 14, [])) (cond (Nat.beq pc 14) (some (.aload_n 0, 15, [])) (none))))) (cond (Nat.ble 3 pc) (cond (Nat.beq pc 3) (some (.invokevirtual 298, 6, [])) (cond (Nat.beq pc 6) (some (.invokevirtual 301, 9, [])) (cond (Nat.beq pc 9) (some (.ifCond .ne 5, 12, [14])) (none)))) (cond (Nat.beq pc 0) (some (.aload_n 0, 1, [])) (cond (Nat.beq pc 1) (some (.aload_n 0, 2, [])) (cond (Nat.beq pc 2) (some (.iload_n 1, 3, [])) (none)))))))
theorem qkX9_hullCorner_ok : ∀ pc i nx ts, qkX9_hullCorner pc = some (i, nx, ts) → am_cok cX9_hullCorner pc (i, nx, ts) = true := fun pc i nx ts h => am_tok_ok (n := 42) (by decide +kernel) (fun pc h => by show cond (Nat.ble 42 pc) _ _ = _; rw [Nat.ble_eq_true_of_le h]; rfl) h
def qaX9_hullCorner : Nat → Option CE := fun k => cond (Nat.beq k 298) (some qeX9_isCurve) (cond (Nat.beq k 301) (some qeX9_checks) (cond (Nat.beq k 342) (some qeX9_laysHull) (none)))
theorem qyX9_hullCorner (l : Launch) : ∀ k e1, qaX9_hullCorner k = some e1 → am_cal l layM RX9 7 k e1 ∧ ceT e1 = 0 := q_cons ⟨am_calV (ci := 9) (qtX9_isCurve l) qbX9_isCurve (by decide) rfl (am_tb_at 1651 (by decide +kernel) rfl), rfl⟩ (q_cons ⟨am_calV (ci := 9) (qtX9_checks l) qbX9_checks (by decide) rfl (am_tb_at 1655 (by decide +kernel) rfl), rfl⟩ (q_cons ⟨am_calV (ci := 9) (qtX9_laysHull l) qbX9_laysHull (by decide) rfl (am_tb_at 1742 (by decide +kernel) rfl), rfl⟩ (q_nil)))
def qxX9_hullCorner : CX := (qkX9_hullCorner, layM, qfX9, qaX9_hullCorner, qcX9, qlX9, qmX9, (some .int), false, none, 0, none, fun _ => none)
theorem qzX9_hullCorner (l : Launch) : am_sta l qxX9_hullCorner RX9 7 cX9_hullCorner := ⟨qkX9_hullCorner_ok, layM_ok, qfX9_ok, qcX9_ok, qlX9_ok, am_mthP qmX9_ok (by decide), fun k e1 h => (qyX9_hullCorner l k e1 h).1⟩
def qsX9_hullCorner : SP := fun as F A K => match as with
  | [.inr (.inr o), .inl c, .inl k] => cond (Nat.beq o 25) ((fgOK (mF A) ∧ (-2147483648 ≤ c ∧ c < 2147483648) ∧ (-2147483648 ≤ k ∧ k < 2147483648) ∧ HUT) ∧ (∀ (G_1 : FF) (B_1 : AA), (qdP F G_1 A B_1 ∧ G_1 25 0 = (if 0 ≤ c ∧ c < mF A 0 then 0 else 1)) → (K (some (some (vI (if 0 ≤ c ∧ c < mF A 0 then (if 0 ≤ k ∧ k < ((huL (mF A) c).length : Int) then (huL (mF A) c).getD (Int.toNat k) 0 else -1) else 0)))) G_1 B_1))) (False)
  | _ => False
def qeX9_hullCorner : CE := (yX9_hullCorner, cX9_hullCorner, 3, (some .int), 2, some 9, 0, [], 0, 7, qsX9_hullCorner)
theorem qbX9_hullCorner : am_mb qeX9_hullCorner := ⟨am_tb_at 1769 (by decide +kernel) rfl, am_tb_at 124 (by decide +kernel) rfl, ⟨by decide, by decide, by decide +kernel⟩, by decide, by decide, am_tb_at 1767 (by decide +kernel) rfl, am_tb_at 1768 (by decide +kernel) rfl, _, _, rfl⟩
set_option maxRecDepth 20000 in
theorem qvX9_hullCorner_25 (c : Int) (k : Int) (F : FF) (A : AA) (K : KK) (h : (fgOK (mF A) ∧ (-2147483648 ≤ c ∧ c < 2147483648) ∧ (-2147483648 ≤ k ∧ k < 2147483648) ∧ HUT) ∧ (∀ (G_1 : FF) (B_1 : AA), (qdP F G_1 A B_1 ∧ G_1 25 0 = (if 0 ≤ c ∧ c < mF A 0 then 0 else 1)) → (K (some (some (vI (if 0 ≤ c ∧ c < mF A 0 then (if 0 ≤ k ∧ k < ((huL (mF A) c).length : Int) then (huL (mF A) c).getD (Int.toNat k) 0 else -1) else 0)))) G_1 B_1))) : am_line qxX9_hullCorner 21 [vR 25, vI c, vI k] 3 F A K := by
  show am_stp qxX9_hullCorner (am_run qxX9_hullCorner (fun _ => none) (fun _ _ _ _ _ _ => False) K 21) K 0 [some (vR 25), some (vI c), some (vI k)] [] F A 0
  obtain ⟨hp, h⟩ := h
  have p1 := hp.1
  have q1 := p1.1.1
  have q2 := p1.1.2
  have q4 := p1.2.1

  show ((0 ≤ mF A 0 ∧ mF A 0 ≤ 8) ∧ (0 ≤ mF A 1 ∧ mF A 1 ≤ 6) ∧ (-2147483648 ≤ c ∧ c < 2147483648)) ∧ (((bi (0 ≤ c ∧ c < mF A 0)) = 0 ∨ (bi (0 ≤ c ∧ c < mF A 0)) = 1) ∧ ((w32 (bi (0 ≤ c ∧ c < mF A 0)) = w32 0 → (K (some (some (vI 0))) (upF F 25 0 (1 - (bi (0 ≤ c ∧ c < mF A 0)))) A)) ∧ (¬ (w32 (bi (0 ≤ c ∧ c < mF A 0)) = w32 0) → ((fgOK (mF A) ∧ (0 ≤ c ∧ c < mF A 0) ∧ HUT) ∧ (∀ (G_1 : FF) (B_1 : AA), ((∀ a b, a ≠ 25 ∨ b ≠ 31 → G_1 a b = (upF F 25 0 (1 - (bi (0 ≤ c ∧ c < mF A 0)))) a b) ∧ (∀ b i, b ≠ 42 → B_1 b i = A b i) ∧ G_1 25 31 = ((huL (mF A) c).length : Int) ∧ rowL (B_1 42) 0 (huL (mF A) c)) → ((w32 k < w32 0 → (K (some (some (vI (-1)))) G_1 B_1)) ∧ (¬ w32 k < w32 0 → ((w32 k < w32 (G_1 25 31) → ((0 ≤ w32 k ∧ w32 k < 5) ∧ (K (some (some (vI (B_1 42 (w32 k))))) G_1 B_1))) ∧ (¬ w32 k < w32 (G_1 25 31) → (K (some (some (vI (-1)))) G_1 B_1))))))))))
  refine ⟨by omega, ?_⟩
  refine ⟨by first | exact bi_01 | omega | exact ⟨p1, c1, hp.2.2.2⟩ | (rw [w32_id (by omega) (by omega)]; omega), ?_⟩
  refine ⟨fun c1 => ?_, fun c1 => ?_⟩
  · skip
    (try simp only [w32_0, wbi0, Classical.not_not] at c1); (try rw [g5] at c1); (try simp (disch := omega) only [w32_id] at c1)
    first
    | exact K_eq (h _ _ ⟨qdP_F (by decide), by rw [upF_s, bi_f c1, if_neg c1]; rfl⟩) (if_neg c1)
    | (refine K_eq (h _ _ ⟨qdP_trans (qdP_F (by decide)) ⟨fun a b hab => g1.1 a b (by omega), fun b i hb => g1.2.1 b i (by omega)⟩, by rw [g1.1 25 0 (by decide), upF_s, bi_t c1, if_pos c1]; rfl⟩) ?_; rw [if_pos c1, if_neg (by omega)]; done)
    | (refine K_eq (h _ _ ⟨qdP_trans (qdP_F (by decide)) ⟨fun a b hab => g1.1 a b (by omega), fun b i hb => g1.2.1 b i (by omega)⟩, by rw [g1.1 25 0 (by decide), upF_s, bi_t c1, if_pos c1]; rfl⟩) ?_; rw [if_pos c1, if_pos (by omega), w32_id (by omega) (by omega)]; exact (rowL_len g1.2.2.2 (by omega) (by omega)).symm)
  · skip
    (try simp only [w32_0, wbi0, Classical.not_not] at c1); (try rw [g5] at c1); (try simp (disch := omega) only [w32_id] at c1)
    refine ⟨by first | exact bi_01 | omega | exact ⟨p1, c1, hp.2.2.2⟩ | (rw [w32_id (by omega) (by omega)]; omega), ?_⟩
    intro G_1 B_1 g1
    have hl := wrF_len (f := mF A) (c := c) (n := mF A (18 + c)) (x := lfF (mF A) c (Int.toNat (mF A (18 + c) - 1))) 4 (lfF (mF A) c (Int.toNat (mF A (18 + c) - 1)))
    have hl2 : (huL (mF A) c).length ≤ 4 := hl
    have g5 := g1.2.2.1
    refine ⟨fun c2 => ?_, fun c2 => ?_⟩
    · skip
      (try simp only [w32_0, wbi0, Classical.not_not] at c2); (try rw [g5] at c2); (try simp (disch := omega) only [w32_id] at c2)
      first
      | exact K_eq (h _ _ ⟨qdP_F (by decide), by rw [upF_s, bi_f c1, if_neg c1]; rfl⟩) (if_neg c1)
      | (refine K_eq (h _ _ ⟨qdP_trans (qdP_F (by decide)) ⟨fun a b hab => g1.1 a b (by omega), fun b i hb => g1.2.1 b i (by omega)⟩, by rw [g1.1 25 0 (by decide), upF_s, bi_t c1, if_pos c1]; rfl⟩) ?_; rw [if_pos c1, if_neg (by omega)]; done)
      | (refine K_eq (h _ _ ⟨qdP_trans (qdP_F (by decide)) ⟨fun a b hab => g1.1 a b (by omega), fun b i hb => g1.2.1 b i (by omega)⟩, by rw [g1.1 25 0 (by decide), upF_s, bi_t c1, if_pos c1]; rfl⟩) ?_; rw [if_pos c1, if_pos (by omega), w32_id (by omega) (by omega)]; exact (rowL_len g1.2.2.2 (by omega) (by omega)).symm)
    · skip
      (try simp only [w32_0, wbi0, Classical.not_not] at c2); (try rw [g5] at c2); (try simp (disch := omega) only [w32_id] at c2)
      refine ⟨fun c3 => ?_, fun c3 => ?_⟩
      · skip
        (try simp only [w32_0, wbi0, Classical.not_not] at c3); (try rw [g5] at c3); (try simp (disch := omega) only [w32_id] at c3)
        refine ⟨by first | exact bi_01 | omega | exact ⟨p1, c1, hp.2.2.2⟩ | (rw [w32_id (by omega) (by omega)]; omega), ?_⟩
        first
        | exact K_eq (h _ _ ⟨qdP_F (by decide), by rw [upF_s, bi_f c1, if_neg c1]; rfl⟩) (if_neg c1)
        | (refine K_eq (h _ _ ⟨qdP_trans (qdP_F (by decide)) ⟨fun a b hab => g1.1 a b (by omega), fun b i hb => g1.2.1 b i (by omega)⟩, by rw [g1.1 25 0 (by decide), upF_s, bi_t c1, if_pos c1]; rfl⟩) ?_; rw [if_pos c1, if_neg (by omega)]; done)
        | (refine K_eq (h _ _ ⟨qdP_trans (qdP_F (by decide)) ⟨fun a b hab => g1.1 a b (by omega), fun b i hb => g1.2.1 b i (by omega)⟩, by rw [g1.1 25 0 (by decide), upF_s, bi_t c1, if_pos c1]; rfl⟩) ?_; rw [if_pos c1, if_pos (by omega), w32_id (by omega) (by omega)]; exact (rowL_len g1.2.2.2 (by omega) (by omega)).symm)
      · skip
        (try simp only [w32_0, wbi0, Classical.not_not] at c3); (try rw [g5] at c3); (try simp (disch := omega) only [w32_id] at c3)
        first
        | exact K_eq (h _ _ ⟨qdP_F (by decide), by rw [upF_s, bi_f c1, if_neg c1]; rfl⟩) (if_neg c1)
        | (refine K_eq (h _ _ ⟨qdP_trans (qdP_F (by decide)) ⟨fun a b hab => g1.1 a b (by omega), fun b i hb => g1.2.1 b i (by omega)⟩, by rw [g1.1 25 0 (by decide), upF_s, bi_t c1, if_pos c1]; rfl⟩) ?_; rw [if_pos c1, if_neg (by omega)]; done)
        | (refine K_eq (h _ _ ⟨qdP_trans (qdP_F (by decide)) ⟨fun a b hab => g1.1 a b (by omega), fun b i hb => g1.2.1 b i (by omega)⟩, by rw [g1.1 25 0 (by decide), upF_s, bi_t c1, if_pos c1]; rfl⟩) ?_; rw [if_pos c1, if_pos (by omega), w32_id (by omega) (by omega)]; exact (rowL_len g1.2.2.2 (by omega) (by omega)).symm)
theorem qtX9_hullCorner (l : Launch) : am_CT l layM qeX9_hullCorner := am_met0 rfl (by decide +kernel) rfl rfl rfl rfl rfl (fun _ => rfl) rfl (qzX9_hullCorner l) (fun k e1 h => (qyX9_hullCorner l k e1 h).2) (fun as F A K h => by
  replace h : qsX9_hullCorner as F A K := h
  unfold qsX9_hullCorner at h
  split at h
  · rename_i o c k
    refine ⟨by first | exact Nat.le_of_ble_eq_true rfl | simp [am_fl, am_cat], ?_⟩
    replace h := am_cond2 h
    rcases h with ⟨hb, h⟩ | h
    · skip
      have hb0 := hb
      have hb0 := am_bq hb0
      subst hb0
      exact am_way_line (qvX9_hullCorner_25 c k F A K h)
    exact h.elim
  · exact h.elim)
