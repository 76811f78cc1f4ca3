def qkX9_gathers : Nat → Option CI := fun pc => cond (Nat.ble 184 pc) none (cond (Nat.ble 84 pc) (cond (Nat.ble 134 pc) (cond (Nat.ble 155 pc) (cond (Nat.ble 167 pc) (cond (Nat.ble 174 pc) (cond (Nat.ble 180 pc) (cond (Nat.beq pc 180) (some (.goto (-155), 183, [25])) (cond (Nat.beq pc 183) (some (.return_, 184, [])) (none))) (cond (Nat.beq pc 174) (some (.goto (-117), 177, [57])) (cond (Nat.beq pc 177) (some (.iinc 5 1, 180, [])) (none)))) (cond (Nat.beq pc 167) (some (.iastore, 168, [])) (cond (Nat.beq pc 168) (some (.iinc 4 1, 171, [])) (cond (Nat.beq pc 171) (some (.iinc 8 1, 174, [])) (none))))) (cond (Nat.ble 161 pc) (cond (Nat.ble 164 pc) (cond (Nat.beq pc 164) (some (.iload 10, 166, [])) (cond (Nat.beq pc 166) (some (.iadd, 167, [])) (none))) (cond (Nat.beq pc 161) (some (.iload 9, 163, [])) (cond (Nat.beq pc 163) (some (.imul, 164, [])) (none)))) (cond (Nat.beq pc 155) (some (.getfield 57, 158, [])) (cond (Nat.beq pc 158) (some (.iload 4, 160, [])) (cond (Nat.beq pc 160) (some (.iload_n 3, 161, [])) (none)))))) (cond (Nat.ble 146 pc) (cond (Nat.ble 151 pc) (cond (Nat.ble 153 pc) (cond (Nat.beq pc 153) (some (.iastore, 154, [])) (cond (Nat.beq pc 154) (some (.aload_n 0, 155, [])) (none))) (cond (Nat.beq pc 151) (some (.iadd, 152, [])) (cond (Nat.beq pc 152) (some (.iload_n 2, 153, [])) (none)))) (cond (Nat.beq pc 146) (some (.iload 9, 148, [])) (cond (Nat.beq pc 148) (some (.imul, 149, [])) (cond (Nat.beq pc 149) (some (.iload 10, 151, [])) (none))))) (cond (Nat.ble 141 pc) (cond (Nat.beq pc 141) (some (.aload_n 0, 142, [])) (cond (Nat.beq pc 142) (some (.getfield 54, 145, [])) (cond (Nat.beq pc 145) (some (.iload_n 3, 146, [])) (none)))) (cond (Nat.beq pc 134) (some (.iaload, 135, [])) (cond (Nat.beq pc 135) (some (.ifCond .eq 6, 138, [141])) (cond (Nat.beq pc 138) (some (.goto 33, 141, [171])) (none))))))) (cond (Nat.ble 112 pc) (cond (Nat.ble 123 pc) (cond (Nat.ble 128 pc) (cond (Nat.ble 131 pc) (cond (Nat.beq pc 131) (some (.iload 10, 133, [])) (cond (Nat.beq pc 133) (some (.iadd, 134, [])) (none))) (cond (Nat.beq pc 128) (some (.iload 9, 130, [])) (cond (Nat.beq pc 130) (some (.imul, 131, [])) (none)))) (cond (Nat.beq pc 123) (some (.aload_n 0, 124, [])) (cond (Nat.beq pc 124) (some (.getfield 54, 127, [])) (cond (Nat.beq pc 127) (some (.iload_n 3, 128, [])) (none))))) (cond (Nat.ble 116 pc) (cond (Nat.ble 119 pc) (cond (Nat.beq pc 119) (some (.baload, 120, [])) (cond (Nat.beq pc 120) (some (.ifCond .eq 51, 123, [171])) (none))) (cond (Nat.beq pc 116) (some (.iload 10, 118, [])) (cond (Nat.beq pc 118) (some (.iadd, 119, [])) (none)))) (cond (Nat.beq pc 112) (some (.iload_n 3, 113, [])) (cond (Nat.beq pc 113) (some (.iload 9, 115, [])) (cond (Nat.beq pc 115) (some (.imul, 116, [])) (none)))))) (cond (Nat.ble 98 pc) (cond (Nat.ble 104 pc) (cond (Nat.ble 108 pc) (cond (Nat.beq pc 108) (some (.aload_n 0, 109, [])) (cond (Nat.beq pc 109) (some (.getfield 50, 112, [])) (none))) (cond (Nat.beq pc 104) (some (.iload_n 3, 105, [])) (cond (Nat.beq pc 105) (some (.if_icmp .ge 66, 108, [171])) (none)))) (cond (Nat.beq pc 98) (some (.iload_n 3, 99, [])) (cond (Nat.beq pc 99) (some (.if_icmp .ge 72, 102, [171])) (cond (Nat.beq pc 102) (some (.iload 10, 104, [])) (none))))) (cond (Nat.ble 91 pc) (cond (Nat.beq pc 91) (some (.iload 10, 93, [])) (cond (Nat.beq pc 93) (some (.ifCond .lt 78, 96, [171])) (cond (Nat.beq pc 96) (some (.iload 9, 98, [])) (none)))) (cond (Nat.beq pc 84) (some (.istore 10, 86, [])) (cond (Nat.beq pc 86) (some (.iload 9, 88, [])) (cond (Nat.beq pc 88) (some (.ifCond .lt 83, 91, [171])) (none)))))))) (cond (Nat.ble 43 pc) (cond (Nat.ble 66 pc) (cond (Nat.ble 75 pc) (cond (Nat.ble 80 pc) (cond (Nat.ble 82 pc) (cond (Nat.beq pc 82) (some (.iconst 1, 83, [])) (cond (Nat.beq pc 83) (some (.isub, 84, [])) (none))) (cond (Nat.beq pc 80) (some (.irem, 81, [])) (cond (Nat.beq pc 81) (some (.iadd, 82, [])) (none)))) (cond (Nat.beq pc 75) (some (.iload 7, 77, [])) (cond (Nat.beq pc 77) (some (.iload 8, 79, [])) (cond (Nat.beq pc 79) (some (.iconst 3, 80, [])) (none))))) (cond (Nat.ble 70 pc) (cond (Nat.ble 72 pc) (cond (Nat.beq pc 72) (some (.isub, 73, [])) (cond (Nat.beq pc 73) (some (.istore 9, 75, [])) (none))) (cond (Nat.beq pc 70) (some (.iadd, 71, [])) (cond (Nat.beq pc 71) (some (.iconst 1, 72, [])) (none)))) (cond (Nat.beq pc 66) (some (.iload 8, 68, [])) (cond (Nat.beq pc 68) (some (.iconst 3, 69, [])) (cond (Nat.beq pc 69) (some (.idiv, 70, [])) (none)))))) (cond (Nat.ble 52 pc) (cond (Nat.ble 57 pc) (cond (Nat.ble 61 pc) (cond (Nat.beq pc 61) (some (.if_icmp .ge 116, 64, [177])) (cond (Nat.beq pc 64) (some (.iload 6, 66, [])) (none))) (cond (Nat.beq pc 57) (some (.iload 8, 59, [])) (cond (Nat.beq pc 59) (some (.bipush 9, 61, [])) (none)))) (cond (Nat.beq pc 52) (some (.istore 7, 54, [])) (cond (Nat.beq pc 54) (some (.iconst 0, 55, [])) (cond (Nat.beq pc 55) (some (.istore 8, 57, [])) (none))))) (cond (Nat.ble 49 pc) (cond (Nat.beq pc 49) (some (.iaload, 50, [])) (cond (Nat.beq pc 50) (some (.iload_n 3, 51, [])) (cond (Nat.beq pc 51) (some (.irem, 52, [])) (none)))) (cond (Nat.beq pc 43) (some (.aload_n 0, 44, [])) (cond (Nat.beq pc 44) (some (.getfield 57, 47, [])) (cond (Nat.beq pc 47) (some (.iload 5, 49, [])) (none))))))) (cond (Nat.ble 19 pc) (cond (Nat.ble 32 pc) (cond (Nat.ble 38 pc) (cond (Nat.ble 40 pc) (cond (Nat.beq pc 40) (some (.idiv, 41, [])) (cond (Nat.beq pc 41) (some (.istore 6, 43, [])) (none))) (cond (Nat.beq pc 38) (some (.iaload, 39, [])) (cond (Nat.beq pc 39) (some (.iload_n 3, 40, [])) (none)))) (cond (Nat.beq pc 32) (some (.aload_n 0, 33, [])) (cond (Nat.beq pc 33) (some (.getfield 57, 36, [])) (cond (Nat.beq pc 36) (some (.iload 5, 38, [])) (none))))) (cond (Nat.ble 23 pc) (cond (Nat.ble 27 pc) (cond (Nat.beq pc 27) (some (.iload 4, 29, [])) (cond (Nat.beq pc 29) (some (.if_icmp .ge 154, 32, [183])) (none))) (cond (Nat.beq pc 23) (some (.istore 5, 25, [])) (cond (Nat.beq pc 25) (some (.iload 5, 27, [])) (none)))) (cond (Nat.beq pc 19) (some (.iconst 1, 20, [])) (cond (Nat.beq pc 20) (some (.istore 4, 22, [])) (cond (Nat.beq pc 22) (some (.iconst 0, 23, [])) (none)))))) (cond (Nat.ble 10 pc) (cond (Nat.ble 13 pc) (cond (Nat.ble 17 pc) (cond (Nat.beq pc 17) (some (.iload_n 1, 18, [])) (cond (Nat.beq pc 18) (some (.iastore, 19, [])) (none))) (cond (Nat.beq pc 13) (some (.getfield 57, 16, [])) (cond (Nat.beq pc 16) (some (.iconst 0, 17, [])) (none)))) (cond (Nat.beq pc 10) (some (.iload_n 2, 11, [])) (cond (Nat.beq pc 11) (some (.iastore, 12, [])) (cond (Nat.beq pc 12) (some (.aload_n 0, 13, [])) (none))))) (cond (Nat.ble 5 pc) (cond (Nat.beq pc 5) (some (.aload_n 0, 6, [])) (cond (Nat.beq pc 6) (some (.getfield 54, 9, [])) (cond (Nat.beq pc 9) (some (.iload_n 1, 10, [])) (none)))) (cond (Nat.beq pc 0) (some (.aload_n 0, 1, [])) (cond (Nat.beq pc 1) (some (.invokevirtual 176, 4, [])) (cond (Nat.beq pc 4) (some (.istore_n 3, 5, [])) (none)))))))))
theorem qkX9_gathers_ok : ∀ pc i nx ts, qkX9_gathers pc = some (i, nx, ts) → am_cok cX9_gathers pc (i, nx, ts) = true := fun pc i nx ts h => am_tok_ok (n := 184) (by decide +kernel) (fun pc h => by show cond (Nat.ble 184 pc) _ _ = _; rw [Nat.ble_eq_true_of_le h]; rfl) h
def qaX9_gathers : Nat → Option CE := fun k => cond (Nat.beq k 176) (some qeX9_across) (none)
theorem qyX9_gathers (l : Launch) : ∀ k e1, qaX9_gathers k = some e1 → am_cal l layM RX9 5 k e1 ∧ ceT e1 = 0 := q_cons ⟨am_calV (ci := 9) (qtX9_across l) qbX9_across (by decide) rfl (am_tb_at 1933 (by decide +kernel) rfl), rfl⟩ (q_nil)
def qxX9_gathers : CX := (qkX9_gathers, layM, qfX9, qaX9_gathers, qcX9, qlX9, qmX9, none, false, none, 0, none, fun _ => none)
theorem qzX9_gathers (l : Launch) : am_sta l qxX9_gathers RX9 5 cX9_gathers := ⟨qkX9_gathers_ok, layM_ok, qfX9_ok, qcX9_ok, qlX9_ok, am_mthP qmX9_ok (by decide), fun k e1 h => (qyX9_gathers l k e1 h).1⟩
def qsX9_gathers : SP := fun as F A K => match as with
  | [.inr (.inr o), .inl p, .inl v] => cond (Nat.beq o 25) (((1 ≤ mF A 3 ∧ mF A 3 ≤ 6) ∧ (0 ≤ p ∧ p < p2 (mF A 3) * p2 (mF A 3)) ∧ (1 ≤ v ∧ v ≤ 4096) ∧ trG A p = -1 ∧ (∀ ii, 0 ≤ ii → ii < p2 (mF A 3) * p2 (mF A 3) → 0 ≤ A 40 ii ∧ A 40 ii ≤ 4096)) ∧ (∀ (B_1 : AA), ((∀ b i, (b ≠ 40 ∧ b ≠ 41) ∨ (b = 40 ∧ w32 (A 39 i) = 0) → B_1 b i = A b i) ∧ (∀ ii, 0 ≤ ii → ii < p2 (mF A 3) * p2 (mF A 3) → 0 ≤ B_1 40 ii ∧ B_1 40 ii ≤ 4096) ∧ trG B_1 = (sprF (p2 (mF A 3)) (v - 1) 4097 (joinF (trG A, A 41, 0) p (v - 1)) 0).1) → (K (some none) F B_1))) (False)
  | _ => False
def qeX9_gathers : CE := (yX9_gathers, cX9_gathers, 11, none, 2, some 9, 0, [], 0, 5, qsX9_gathers)
theorem qbX9_gathers : am_mb qeX9_gathers := ⟨am_tb_at 1983 (by decide +kernel) rfl, am_tb_at 124 (by decide +kernel) rfl, ⟨by decide, by decide, by decide +kernel⟩, by decide, by decide, am_tb_at 1982 (by decide +kernel) rfl, am_tb_at 108 (by decide +kernel) rfl, _, _, rfl⟩
def qnX9_gathers_25 : CUT := fun pc => cond (Nat.beq pc 25) (some [true, true, true, true, true, true, false, false, false, false, false]) (cond (Nat.beq pc 57) (some [true, true, true, true, true, true, true, true, true, false, false]) (none))
def qiX9_gathers_25 (p : Int) (v : Int) (F0 : FF) (A0 : AA) : REC := fun pc ls st F A u => cond (Nat.beq pc 25) (match ls, st, u with
    | [some (.inr (.inr s0)), some (.inl s1), some (.inl s2), some (.inl z), some (.inl t), some (.inl j), none, none, none, none, none], [], 0 => s0 = 25 ∧ s1 = p ∧ s2 = v ∧ F = F0 ∧ (z = p2 (mF A0 3) ∧ (0 ≤ j ∧ j ≤ t ∧ t ≤ 4096) ∧ (∀ bb ii, (bb ≠ 40 ∧ bb ≠ 41) ∨ (bb = 40 ∧ w32 (A0 39 ii) = 0) → A bb ii = A0 bb ii) ∧ (∀ ii, 0 ≤ ii → ii < p2 (mF A0 3) * p2 (mF A0 3) → 0 ≤ A 40 ii ∧ A 40 ii ≤ 4096) ∧ okW (p2 (mF A0 3)) (trG A, A 41, t) ∧ sprF (p2 (mF A0 3)) (v - 1) (Int.toNat (4097 - j)) (trG A, A 41, t) j = sprF (p2 (mF A0 3)) (v - 1) 4097 (joinF (trG A0, A0 41, 0) p (v - 1)) 0)
    | _, _, _ => False) (cond (Nat.beq pc 57) (match ls, st, u with
    | [some (.inr (.inr s0)), some (.inl s1), some (.inl s2), some (.inl z), some (.inl t), some (.inl j), some (.inl q), some (.inl r), some (.inl k), none, none], [], 0 => s0 = 25 ∧ s1 = p ∧ s2 = v ∧ F = F0 ∧ (z = p2 (mF A0 3) ∧ (0 ≤ j ∧ j < 4096) ∧ ((0 ≤ q ∧ q < z) ∧ 0 ≤ r ∧ r < z) ∧ (0 ≤ k ∧ k ≤ 9) ∧ (∀ bb ii, (bb ≠ 40 ∧ bb ≠ 41) ∨ (bb = 40 ∧ w32 (A0 39 ii) = 0) → A bb ii = A0 bb ii) ∧ (∀ ii, 0 ≤ ii → ii < p2 (mF A0 3) * p2 (mF A0 3) → 0 ≤ A 40 ii ∧ A 40 ii ≤ 4096) ∧ okW (p2 (mF A0 3)) (trG A, A 41, t) ∧ ∃ ss : BS, (trG A, A 41, t) = nbF (p2 (mF A0 3)) (v - 1) ss q r (Int.toNat k) ∧ j < ss.2.2 ∧ ss.2.2 ≤ t ∧ sprF (p2 (mF A0 3)) (v - 1) (Int.toNat (4096 - j)) (nbF (p2 (mF A0 3)) (v - 1) ss q r 9) (j + 1) = sprF (p2 (mF A0 3)) (v - 1) 4097 (joinF (trG A0, A0 41, 0) p (v - 1)) 0)
    | _, _, _ => False) (False))
def quX9_gathers_25 : Nat → LVs → List AV → FF → AA → Nat := fun pc ls _ F A => cond (Nat.beq pc 25) (match ls with
    | [some (.inr (.inr s0)), some (.inl s1), some (.inl s2), some (.inl z), some (.inl t), some (.inl j), none, none, none, none, none] => Int.toNat (5000 - j) * 100 + 50
    | _ => 0) (cond (Nat.beq pc 57) (match ls with
    | [some (.inr (.inr s0)), some (.inl s1), some (.inl s2), some (.inl z), some (.inl t), some (.inl j), some (.inl q), some (.inl r), some (.inl k), none, none] => Int.toNat (5000 - j) * 100 + Int.toNat (20 - k)
    | _ => 0) (0))
set_option maxRecDepth 20000 in
theorem qvX9_gathers_25_0 (p : Int) (v : Int) (F0 : FF) (A0 : AA) (K : KK) (h : ((1 ≤ mF A0 3 ∧ mF A0 3 ≤ 6) ∧ (0 ≤ p ∧ p < p2 (mF A0 3) * p2 (mF A0 3)) ∧ (1 ≤ v ∧ v ≤ 4096) ∧ trG A0 p = -1 ∧ (∀ ii, 0 ≤ ii → ii < p2 (mF A0 3) * p2 (mF A0 3) → 0 ≤ A0 40 ii ∧ A0 40 ii ≤ 4096)) ∧ (∀ (B_1 : AA), ((∀ b i, (b ≠ 40 ∧ b ≠ 41) ∨ (b = 40 ∧ w32 (A0 39 i) = 0) → B_1 b i = A0 b i) ∧ (∀ ii, 0 ≤ ii → ii < p2 (mF A0 3) * p2 (mF A0 3) → 0 ≤ B_1 40 ii ∧ B_1 40 ii ≤ 4096) ∧ trG B_1 = (sprF (p2 (mF A0 3)) (v - 1) 4097 (joinF (trG A0, A0 41, 0) p (v - 1)) 0).1) → (K (some none) F0 B_1))) : am_stp qxX9_gathers (am_run qxX9_gathers qnX9_gathers_25 (qiX9_gathers_25 p v F0 A0) K 71) K 0 (am_ent [vR 25, vI p, vI v] 11) [] F0 A0 0 := by
  show am_stp qxX9_gathers (am_run qxX9_gathers qnX9_gathers_25 (qiX9_gathers_25 p v F0 A0) K 71) K 0 [some (vR 25), some (vI p), some (vI v), none, none, none, none, none, none, none, none] [] F0 A0 0
  obtain ⟨hp, h⟩ := h
  obtain ⟨p1, p2', p3, p4, p5⟩ := hp
  have sb := sq_b p1.1 p1.2
  have el : x_shl 1 (mF A0 (2 + 1)) = p2 (mF A0 3) := x_shl1 (by show 0 ≤ mF A0 3; omega) (by show mF A0 3 ≤ 12; omega)
  show (True) ∧ ((0 ≤ w32 p ∧ w32 p < 4096) ∧ ((0 ≤ w32 0 ∧ w32 0 < 4096) ∧ (25 = 25 ∧ p = p ∧ v = v ∧ F0 = F0 ∧ ((x_shl 1 (mF A0 (2 + 1))) = p2 (mF A0 3) ∧ (0 ≤ 0 ∧ 0 ≤ 1 ∧ 1 ≤ 4096) ∧ (∀ bb ii, (bb ≠ 40 ∧ bb ≠ 41) ∨ (bb = 40 ∧ w32 (A0 39 ii) = 0) → (upA (upA A0 40 (w32 p) v) 41 (w32 0) p) bb ii = A0 bb ii) ∧ (∀ ii, 0 ≤ ii → ii < p2 (mF A0 3) * p2 (mF A0 3) → 0 ≤ (upA (upA A0 40 (w32 p) v) 41 (w32 0) p) 40 ii ∧ (upA (upA A0 40 (w32 p) v) 41 (w32 0) p) 40 ii ≤ 4096) ∧ okW (p2 (mF A0 3)) (trG (upA (upA A0 40 (w32 p) v) 41 (w32 0) p), (upA (upA A0 40 (w32 p) v) 41 (w32 0) p) 41, 1) ∧ sprF (p2 (mF A0 3)) (v - 1) (Int.toNat (4097 - 0)) (trG (upA (upA A0 40 (w32 p) v) 41 (w32 0) p), (upA (upA A0 40 (w32 p) v) 41 (w32 0) p) 41, 1) 0 = sprF (p2 (mF A0 3)) (v - 1) 4097 (joinF (trG A0, A0 41, 0) p (v - 1)) 0))))
  refine ⟨by first | trivial | (rw [w32_id (by omega) (by omega)]; omega), ?_⟩
  refine ⟨by first | trivial | (rw [w32_id (by omega) (by omega)]; omega), ?_⟩
  refine ⟨by first | trivial | (rw [w32_id (by omega) (by omega)]; omega), ?_⟩
  refine ⟨rfl, rfl, rfl, rfl, ?_⟩
  obtain ⟨t1, t2⟩ := tr_1 p4
  have e9 : (trG (upA (upA A0 40 (w32 p) v) 41 (w32 0) p), upA (upA A0 40 (w32 p) v) 41 (w32 0) p 41, (1 : Int)) = joinF (trG A0, A0 41, 0) p (v - 1) := by
    rw [joinF_j p2'.1 (by omega) p4 (show (0 : Int) < 4096 by decide), w32_id (x := p) (by omega) (by omega), tr_o (by decide), tr_up t1, upA_up1, upA_r (by decide)]; rfl
  refine ⟨el, by omega, by rw [w32_id (x := p) (by omega) (by omega)]; exact g_fr (fun _ _ _ => rfl) t1, fun i i0 i1 => ?_, ?_, ?_⟩
  · rw [upA_k (by decide), w32_id (x := p) (by omega) (by omega)]
    by_cases e : i = p
    · rw [e, upA_s]; omega
    · rw [upA_o e]; exact p5 i i0 i1
  · rw [e9]
    refine joinF_okW ⟨fun j j0 j1 => ?_, Int.le_refl 0, ?_⟩ (Or.inr p2') (by omega)
    · have j1' : j < 0 := j1
      omega
    · have cb := cntK_b (trG A0) (-1) (Int.toNat (p2 (mF A0 3) * p2 (mF A0 3)))
      show 0 + cntK (trG A0) (-1) (Int.toNat (p2 (mF A0 3) * p2 (mF A0 3))) ≤ _
      omega
  · rw [e9]; rfl
set_option maxRecDepth 20000 in
theorem qvX9_gathers_25_25 (p : Int) (v : Int) (F0 : FF) (A0 : AA) (K : KK) (h : ((1 ≤ mF A0 3 ∧ mF A0 3 ≤ 6) ∧ (0 ≤ p ∧ p < p2 (mF A0 3) * p2 (mF A0 3)) ∧ (1 ≤ v ∧ v ≤ 4096) ∧ trG A0 p = -1 ∧ (∀ ii, 0 ≤ ii → ii < p2 (mF A0 3) * p2 (mF A0 3) → 0 ≤ A0 40 ii ∧ A0 40 ii ≤ 4096)) ∧ (∀ (B_1 : AA), ((∀ b i, (b ≠ 40 ∧ b ≠ 41) ∨ (b = 40 ∧ w32 (A0 39 i) = 0) → B_1 b i = A0 b i) ∧ (∀ ii, 0 ≤ ii → ii < p2 (mF A0 3) * p2 (mF A0 3) → 0 ≤ B_1 40 ii ∧ B_1 40 ii ≤ 4096) ∧ trG B_1 = (sprF (p2 (mF A0 3)) (v - 1) 4097 (joinF (trG A0, A0 41, 0) p (v - 1)) 0).1) → (K (some none) F0 B_1))) (z : Int) (t : Int) (j : Int) (A : AA) (hi : z = p2 (mF A0 3) ∧ (0 ≤ j ∧ j ≤ t ∧ t ≤ 4096) ∧ (∀ bb ii, (bb ≠ 40 ∧ bb ≠ 41) ∨ (bb = 40 ∧ w32 (A0 39 ii) = 0) → A bb ii = A0 bb ii) ∧ (∀ ii, 0 ≤ ii → ii < p2 (mF A0 3) * p2 (mF A0 3) → 0 ≤ A 40 ii ∧ A 40 ii ≤ 4096) ∧ okW (p2 (mF A0 3)) (trG A, A 41, t) ∧ sprF (p2 (mF A0 3)) (v - 1) (Int.toNat (4097 - j)) (trG A, A 41, t) j = sprF (p2 (mF A0 3)) (v - 1) 4097 (joinF (trG A0, A0 41, 0) p (v - 1)) 0) : am_stp qxX9_gathers (am_run qxX9_gathers qnX9_gathers_25 (fun pc ls st F9 A9 u => qiX9_gathers_25 p v F0 A0 pc ls st F9 A9 u ∧ quX9_gathers_25 pc ls st F9 A9 < quX9_gathers_25 25 [some (vR 25), some (vI p), some (vI v), some (vI z), some (vI t), some (vI j), none, none, none, none, none] [] F0 A) K 71) K 25 [some (vR 25), some (vI p), some (vI v), some (vI z), some (vI t), some (vI j), none, none, none, none, none] [] F0 A 0 := by
  obtain ⟨hp, h⟩ := h
  obtain ⟨p1, p2', p3, p4, p5⟩ := hp
  have sb := sq_b p1.1 p1.2
  have el : x_shl 1 (mF A0 (2 + 1)) = p2 (mF A0 3) := x_shl1 (by show 0 ≤ mF A0 3; omega) (by show mF A0 3 ≤ 12; omega)
  obtain ⟨h1, h2, hF, hM, hW, hR⟩ := hi
  show (w32 j < w32 t → ((0 ≤ w32 j ∧ w32 j < 4096) ∧ ((w32 z ≠ 0) ∧ ((0 ≤ w32 j ∧ w32 j < 4096) ∧ ((w32 z ≠ 0) ∧ ((25 = 25 ∧ p = p ∧ v = v ∧ F0 = F0 ∧ (z = p2 (mF A0 3) ∧ (0 ≤ j ∧ j < 4096) ∧ ((0 ≤ (x_div (A 41 (w32 j)) z) ∧ (x_div (A 41 (w32 j)) z) < z) ∧ 0 ≤ (x_rem (A 41 (w32 j)) z) ∧ (x_rem (A 41 (w32 j)) z) < z) ∧ (0 ≤ 0 ∧ 0 ≤ 9) ∧ (∀ bb ii, (bb ≠ 40 ∧ bb ≠ 41) ∨ (bb = 40 ∧ w32 (A0 39 ii) = 0) → A bb ii = A0 bb ii) ∧ (∀ ii, 0 ≤ ii → ii < p2 (mF A0 3) * p2 (mF A0 3) → 0 ≤ A 40 ii ∧ A 40 ii ≤ 4096) ∧ okW (p2 (mF A0 3)) (trG A, A 41, t) ∧ ∃ ss : BS, (trG A, A 41, t) = nbF (p2 (mF A0 3)) (v - 1) ss (x_div (A 41 (w32 j)) z) (x_rem (A 41 (w32 j)) z) (Int.toNat 0) ∧ j < ss.2.2 ∧ ss.2.2 ≤ t ∧ sprF (p2 (mF A0 3)) (v - 1) (Int.toNat (4096 - j)) (nbF (p2 (mF A0 3)) (v - 1) ss (x_div (A 41 (w32 j)) z) (x_rem (A 41 (w32 j)) z) 9) (j + 1) = sprF (p2 (mF A0 3)) (v - 1) 4097 (joinF (trG A0, A0 41, 0) p (v - 1)) 0)) ∧ (Int.toNat (5000 - j) * 100 + Int.toNat (20 - 0)) < (Int.toNat (5000 - j) * 100 + 50))))))) ∧ (¬ w32 j < w32 t → (K (some none) F0 A))
  refine ⟨fun c1 => ?_, fun c1 => ?_⟩
  · skip
    (try simp (disch := omega) only [w32_id] at c1)
    have wj := hW.1 j h2.1 c1
    dsimp only at wj
    rw [w32_id (x := j) (by omega) (by omega)]
    refine ⟨by first | omega | (rw [w32_id (by omega) (by omega)]; omega), ?_⟩
    refine ⟨by first | omega | (rw [w32_id (by omega) (by omega)]; omega), ?_⟩
    refine ⟨by first | omega | (rw [w32_id (by omega) (by omega)]; omega), ?_⟩
    refine ⟨by first | omega | (rw [w32_id (by omega) (by omega)]; omega), ?_⟩
    refine ⟨⟨rfl, rfl, rfl, rfl, ?_⟩, by omega⟩
    rw [x_div_eq wj.1 (by omega) (by omega) (by omega), x_rem_eq wj.1 (by omega) (by omega) (by omega)]
    rw [← h1] at wj
    have sk := sq_k (S := z) (k := A 41 j) (by omega) wj.1 wj.2
    refine ⟨h1, by omega, ⟨sk.1, sk.2.1⟩, ⟨Int.le_refl 0, by decide⟩, hF, hM, hW, (trG A, A 41, t), rfl, c1, Int.le_refl t, ?_⟩
    rw [← hR, sprF_s h2.1 (by omega), if_pos c1, nb_9, h1]
  · skip
    (try simp (disch := omega) only [w32_id] at c1)
    refine h _ ⟨hF, hM, ?_⟩
    rw [← hR, sprF_end c1]
set_option maxRecDepth 20000 in
theorem qvX9_gathers_25_57 (p : Int) (v : Int) (F0 : FF) (A0 : AA) (K : KK) (h : ((1 ≤ mF A0 3 ∧ mF A0 3 ≤ 6) ∧ (0 ≤ p ∧ p < p2 (mF A0 3) * p2 (mF A0 3)) ∧ (1 ≤ v ∧ v ≤ 4096) ∧ trG A0 p = -1 ∧ (∀ ii, 0 ≤ ii → ii < p2 (mF A0 3) * p2 (mF A0 3) → 0 ≤ A0 40 ii ∧ A0 40 ii ≤ 4096)) ∧ (∀ (B_1 : AA), ((∀ b i, (b ≠ 40 ∧ b ≠ 41) ∨ (b = 40 ∧ w32 (A0 39 i) = 0) → B_1 b i = A0 b i) ∧ (∀ ii, 0 ≤ ii → ii < p2 (mF A0 3) * p2 (mF A0 3) → 0 ≤ B_1 40 ii ∧ B_1 40 ii ≤ 4096) ∧ trG B_1 = (sprF (p2 (mF A0 3)) (v - 1) 4097 (joinF (trG A0, A0 41, 0) p (v - 1)) 0).1) → (K (some none) F0 B_1))) (z : Int) (t : Int) (j : Int) (q : Int) (r : Int) (k : Int) (A : AA) (hi : z = p2 (mF A0 3) ∧ (0 ≤ j ∧ j < 4096) ∧ ((0 ≤ q ∧ q < z) ∧ 0 ≤ r ∧ r < z) ∧ (0 ≤ k ∧ k ≤ 9) ∧ (∀ bb ii, (bb ≠ 40 ∧ bb ≠ 41) ∨ (bb = 40 ∧ w32 (A0 39 ii) = 0) → A bb ii = A0 bb ii) ∧ (∀ ii, 0 ≤ ii → ii < p2 (mF A0 3) * p2 (mF A0 3) → 0 ≤ A 40 ii ∧ A 40 ii ≤ 4096) ∧ okW (p2 (mF A0 3)) (trG A, A 41, t) ∧ ∃ ss : BS, (trG A, A 41, t) = nbF (p2 (mF A0 3)) (v - 1) ss q r (Int.toNat k) ∧ j < ss.2.2 ∧ ss.2.2 ≤ t ∧ sprF (p2 (mF A0 3)) (v - 1) (Int.toNat (4096 - j)) (nbF (p2 (mF A0 3)) (v - 1) ss q r 9) (j + 1) = sprF (p2 (mF A0 3)) (v - 1) 4097 (joinF (trG A0, A0 41, 0) p (v - 1)) 0) : am_stp qxX9_gathers (am_run qxX9_gathers qnX9_gathers_25 (fun pc ls st F9 A9 u => qiX9_gathers_25 p v F0 A0 pc ls st F9 A9 u ∧ quX9_gathers_25 pc ls st F9 A9 < quX9_gathers_25 57 [some (vR 25), some (vI p), some (vI v), some (vI z), some (vI t), some (vI j), some (vI q), some (vI r), some (vI k), none, none] [] F0 A) K 71) K 57 [some (vR 25), some (vI p), some (vI v), some (vI z), some (vI t), some (vI j), some (vI q), some (vI r), some (vI k), none, none] [] F0 A 0 := by
  obtain ⟨hp, h⟩ := h
  obtain ⟨p1, p2', p3, p4, p5⟩ := hp
  have sb := sq_b p1.1 p1.2
  have el : x_shl 1 (mF A0 (2 + 1)) = p2 (mF A0 3) := x_shl1 (by show 0 ≤ mF A0 3; omega) (by show mF A0 3 ≤ 12; omega)
  obtain ⟨h1, h2, hq, hk, hF, hM, hW, ss, hst, s1, s2, hR⟩ := hi
  show (w32 k < w32 9 → ((w32 3 ≠ 0) ∧ ((w32 3 ≠ 0) ∧ ((w32 ((q + (x_div k 3)) - 1) < w32 0 → ((25 = 25 ∧ p = p ∧ v = v ∧ F0 = F0 ∧ (z = p2 (mF A0 3) ∧ (0 ≤ j ∧ j < 4096) ∧ ((0 ≤ q ∧ q < z) ∧ 0 ≤ r ∧ r < z) ∧ (0 ≤ (k + 1) ∧ (k + 1) ≤ 9) ∧ (∀ bb ii, (bb ≠ 40 ∧ bb ≠ 41) ∨ (bb = 40 ∧ w32 (A0 39 ii) = 0) → A bb ii = A0 bb ii) ∧ (∀ ii, 0 ≤ ii → ii < p2 (mF A0 3) * p2 (mF A0 3) → 0 ≤ A 40 ii ∧ A 40 ii ≤ 4096) ∧ okW (p2 (mF A0 3)) (trG A, A 41, t) ∧ ∃ ss : BS, (trG A, A 41, t) = nbF (p2 (mF A0 3)) (v - 1) ss q r (Int.toNat (k + 1)) ∧ j < ss.2.2 ∧ ss.2.2 ≤ t ∧ sprF (p2 (mF A0 3)) (v - 1) (Int.toNat (4096 - j)) (nbF (p2 (mF A0 3)) (v - 1) ss q r 9) (j + 1) = sprF (p2 (mF A0 3)) (v - 1) 4097 (joinF (trG A0, A0 41, 0) p (v - 1)) 0)) ∧ (Int.toNat (5000 - j) * 100 + Int.toNat (20 - (k + 1))) < (Int.toNat (5000 - j) * 100 + Int.toNat (20 - k)))) ∧ (¬ w32 ((q + (x_div k 3)) - 1) < w32 0 → ((w32 ((r + (x_rem k 3)) - 1) < w32 0 → ((25 = 25 ∧ p = p ∧ v = v ∧ F0 = F0 ∧ (z = p2 (mF A0 3) ∧ (0 ≤ j ∧ j < 4096) ∧ ((0 ≤ q ∧ q < z) ∧ 0 ≤ r ∧ r < z) ∧ (0 ≤ (k + 1) ∧ (k + 1) ≤ 9) ∧ (∀ bb ii, (bb ≠ 40 ∧ bb ≠ 41) ∨ (bb = 40 ∧ w32 (A0 39 ii) = 0) → A bb ii = A0 bb ii) ∧ (∀ ii, 0 ≤ ii → ii < p2 (mF A0 3) * p2 (mF A0 3) → 0 ≤ A 40 ii ∧ A 40 ii ≤ 4096) ∧ okW (p2 (mF A0 3)) (trG A, A 41, t) ∧ ∃ ss : BS, (trG A, A 41, t) = nbF (p2 (mF A0 3)) (v - 1) ss q r (Int.toNat (k + 1)) ∧ j < ss.2.2 ∧ ss.2.2 ≤ t ∧ sprF (p2 (mF A0 3)) (v - 1) (Int.toNat (4096 - j)) (nbF (p2 (mF A0 3)) (v - 1) ss q r 9) (j + 1) = sprF (p2 (mF A0 3)) (v - 1) 4097 (joinF (trG A0, A0 41, 0) p (v - 1)) 0)) ∧ (Int.toNat (5000 - j) * 100 + Int.toNat (20 - (k + 1))) < (Int.toNat (5000 - j) * 100 + Int.toNat (20 - k)))) ∧ (¬ w32 ((r + (x_rem k 3)) - 1) < w32 0 → ((w32 ((q + (x_div k 3)) - 1) < w32 z → ((w32 ((r + (x_rem k 3)) - 1) < w32 z → ((0 ≤ w32 ((z * ((q + (x_div k 3)) - 1)) + ((r + (x_rem k 3)) - 1)) ∧ w32 ((z * ((q + (x_div k 3)) - 1)) + ((r + (x_rem k 3)) - 1)) < 4096) ∧ ((w32 (A 39 (w32 ((z * ((q + (x_div k 3)) - 1)) + ((r + (x_rem k 3)) - 1)))) = w32 0 → ((25 = 25 ∧ p = p ∧ v = v ∧ F0 = F0 ∧ (z = p2 (mF A0 3) ∧ (0 ≤ j ∧ j < 4096) ∧ ((0 ≤ q ∧ q < z) ∧ 0 ≤ r ∧ r < z) ∧ (0 ≤ (k + 1) ∧ (k + 1) ≤ 9) ∧ (∀ bb ii, (bb ≠ 40 ∧ bb ≠ 41) ∨ (bb = 40 ∧ w32 (A0 39 ii) = 0) → A bb ii = A0 bb ii) ∧ (∀ ii, 0 ≤ ii → ii < p2 (mF A0 3) * p2 (mF A0 3) → 0 ≤ A 40 ii ∧ A 40 ii ≤ 4096) ∧ okW (p2 (mF A0 3)) (trG A, A 41, t) ∧ ∃ ss : BS, (trG A, A 41, t) = nbF (p2 (mF A0 3)) (v - 1) ss q r (Int.toNat (k + 1)) ∧ j < ss.2.2 ∧ ss.2.2 ≤ t ∧ sprF (p2 (mF A0 3)) (v - 1) (Int.toNat (4096 - j)) (nbF (p2 (mF A0 3)) (v - 1) ss q r 9) (j + 1) = sprF (p2 (mF A0 3)) (v - 1) 4097 (joinF (trG A0, A0 41, 0) p (v - 1)) 0)) ∧ (Int.toNat (5000 - j) * 100 + Int.toNat (20 - (k + 1))) < (Int.toNat (5000 - j) * 100 + Int.toNat (20 - k)))) ∧ (¬ w32 (A 39 (w32 ((z * ((q + (x_div k 3)) - 1)) + ((r + (x_rem k 3)) - 1)))) = w32 0 → ((0 ≤ w32 ((z * ((q + (x_div k 3)) - 1)) + ((r + (x_rem k 3)) - 1)) ∧ w32 ((z * ((q + (x_div k 3)) - 1)) + ((r + (x_rem k 3)) - 1)) < 4096) ∧ ((w32 (A 40 (w32 ((z * ((q + (x_div k 3)) - 1)) + ((r + (x_rem k 3)) - 1)))) = w32 0 → ((0 ≤ w32 ((z * ((q + (x_div k 3)) - 1)) + ((r + (x_rem k 3)) - 1)) ∧ w32 ((z * ((q + (x_div k 3)) - 1)) + ((r + (x_rem k 3)) - 1)) < 4096) ∧ ((0 ≤ w32 t ∧ w32 t < 4096) ∧ ((25 = 25 ∧ p = p ∧ v = v ∧ F0 = F0 ∧ (z = p2 (mF A0 3) ∧ (0 ≤ j ∧ j < 4096) ∧ ((0 ≤ q ∧ q < z) ∧ 0 ≤ r ∧ r < z) ∧ (0 ≤ (k + 1) ∧ (k + 1) ≤ 9) ∧ (∀ bb ii, (bb ≠ 40 ∧ bb ≠ 41) ∨ (bb = 40 ∧ w32 (A0 39 ii) = 0) → (upA (upA A 40 (w32 ((z * ((q + (x_div k 3)) - 1)) + ((r + (x_rem k 3)) - 1))) v) 41 (w32 t) ((z * ((q + (x_div k 3)) - 1)) + ((r + (x_rem k 3)) - 1))) bb ii = A0 bb ii) ∧ (∀ ii, 0 ≤ ii → ii < p2 (mF A0 3) * p2 (mF A0 3) → 0 ≤ (upA (upA A 40 (w32 ((z * ((q + (x_div k 3)) - 1)) + ((r + (x_rem k 3)) - 1))) v) 41 (w32 t) ((z * ((q + (x_div k 3)) - 1)) + ((r + (x_rem k 3)) - 1))) 40 ii ∧ (upA (upA A 40 (w32 ((z * ((q + (x_div k 3)) - 1)) + ((r + (x_rem k 3)) - 1))) v) 41 (w32 t) ((z * ((q + (x_div k 3)) - 1)) + ((r + (x_rem k 3)) - 1))) 40 ii ≤ 4096) ∧ okW (p2 (mF A0 3)) (trG (upA (upA A 40 (w32 ((z * ((q + (x_div k 3)) - 1)) + ((r + (x_rem k 3)) - 1))) v) 41 (w32 t) ((z * ((q + (x_div k 3)) - 1)) + ((r + (x_rem k 3)) - 1))), (upA (upA A 40 (w32 ((z * ((q + (x_div k 3)) - 1)) + ((r + (x_rem k 3)) - 1))) v) 41 (w32 t) ((z * ((q + (x_div k 3)) - 1)) + ((r + (x_rem k 3)) - 1))) 41, (t + 1)) ∧ ∃ ss : BS, (trG (upA (upA A 40 (w32 ((z * ((q + (x_div k 3)) - 1)) + ((r + (x_rem k 3)) - 1))) v) 41 (w32 t) ((z * ((q + (x_div k 3)) - 1)) + ((r + (x_rem k 3)) - 1))), (upA (upA A 40 (w32 ((z * ((q + (x_div k 3)) - 1)) + ((r + (x_rem k 3)) - 1))) v) 41 (w32 t) ((z * ((q + (x_div k 3)) - 1)) + ((r + (x_rem k 3)) - 1))) 41, (t + 1)) = nbF (p2 (mF A0 3)) (v - 1) ss q r (Int.toNat (k + 1)) ∧ j < ss.2.2 ∧ ss.2.2 ≤ (t + 1) ∧ sprF (p2 (mF A0 3)) (v - 1) (Int.toNat (4096 - j)) (nbF (p2 (mF A0 3)) (v - 1) ss q r 9) (j + 1) = sprF (p2 (mF A0 3)) (v - 1) 4097 (joinF (trG A0, A0 41, 0) p (v - 1)) 0)) ∧ (Int.toNat (5000 - j) * 100 + Int.toNat (20 - (k + 1))) < (Int.toNat (5000 - j) * 100 + Int.toNat (20 - k)))))) ∧ (¬ w32 (A 40 (w32 ((z * ((q + (x_div k 3)) - 1)) + ((r + (x_rem k 3)) - 1)))) = w32 0 → ((25 = 25 ∧ p = p ∧ v = v ∧ F0 = F0 ∧ (z = p2 (mF A0 3) ∧ (0 ≤ j ∧ j < 4096) ∧ ((0 ≤ q ∧ q < z) ∧ 0 ≤ r ∧ r < z) ∧ (0 ≤ (k + 1) ∧ (k + 1) ≤ 9) ∧ (∀ bb ii, (bb ≠ 40 ∧ bb ≠ 41) ∨ (bb = 40 ∧ w32 (A0 39 ii) = 0) → A bb ii = A0 bb ii) ∧ (∀ ii, 0 ≤ ii → ii < p2 (mF A0 3) * p2 (mF A0 3) → 0 ≤ A 40 ii ∧ A 40 ii ≤ 4096) ∧ okW (p2 (mF A0 3)) (trG A, A 41, t) ∧ ∃ ss : BS, (trG A, A 41, t) = nbF (p2 (mF A0 3)) (v - 1) ss q r (Int.toNat (k + 1)) ∧ j < ss.2.2 ∧ ss.2.2 ≤ t ∧ sprF (p2 (mF A0 3)) (v - 1) (Int.toNat (4096 - j)) (nbF (p2 (mF A0 3)) (v - 1) ss q r 9) (j + 1) = sprF (p2 (mF A0 3)) (v - 1) 4097 (joinF (trG A0, A0 41, 0) p (v - 1)) 0)) ∧ (Int.toNat (5000 - j) * 100 + Int.toNat (20 - (k + 1))) < (Int.toNat (5000 - j) * 100 + Int.toNat (20 - k)))))))))) ∧ (¬ w32 ((r + (x_rem k 3)) - 1) < w32 z → ((25 = 25 ∧ p = p ∧ v = v ∧ F0 = F0 ∧ (z = p2 (mF A0 3) ∧ (0 ≤ j ∧ j < 4096) ∧ ((0 ≤ q ∧ q < z) ∧ 0 ≤ r ∧ r < z) ∧ (0 ≤ (k + 1) ∧ (k + 1) ≤ 9) ∧ (∀ bb ii, (bb ≠ 40 ∧ bb ≠ 41) ∨ (bb = 40 ∧ w32 (A0 39 ii) = 0) → A bb ii = A0 bb ii) ∧ (∀ ii, 0 ≤ ii → ii < p2 (mF A0 3) * p2 (mF A0 3) → 0 ≤ A 40 ii ∧ A 40 ii ≤ 4096) ∧ okW (p2 (mF A0 3)) (trG A, A 41, t) ∧ ∃ ss : BS, (trG A, A 41, t) = nbF (p2 (mF A0 3)) (v - 1) ss q r (Int.toNat (k + 1)) ∧ j < ss.2.2 ∧ ss.2.2 ≤ t ∧ sprF (p2 (mF A0 3)) (v - 1) (Int.toNat (4096 - j)) (nbF (p2 (mF A0 3)) (v - 1) ss q r 9) (j + 1) = sprF (p2 (mF A0 3)) (v - 1) 4097 (joinF (trG A0, A0 41, 0) p (v - 1)) 0)) ∧ (Int.toNat (5000 - j) * 100 + Int.toNat (20 - (k + 1))) < (Int.toNat (5000 - j) * 100 + Int.toNat (20 - k)))))) ∧ (¬ w32 ((q + (x_div k 3)) - 1) < w32 z → ((25 = 25 ∧ p = p ∧ v = v ∧ F0 = F0 ∧ (z = p2 (mF A0 3) ∧ (0 ≤ j ∧ j < 4096) ∧ ((0 ≤ q ∧ q < z) ∧ 0 ≤ r ∧ r < z) ∧ (0 ≤ (k + 1) ∧ (k + 1) ≤ 9) ∧ (∀ bb ii, (bb ≠ 40 ∧ bb ≠ 41) ∨ (bb = 40 ∧ w32 (A0 39 ii) = 0) → A bb ii = A0 bb ii) ∧ (∀ ii, 0 ≤ ii → ii < p2 (mF A0 3) * p2 (mF A0 3) → 0 ≤ A 40 ii ∧ A 40 ii ≤ 4096) ∧ okW (p2 (mF A0 3)) (trG A, A 41, t) ∧ ∃ ss : BS, (trG A, A 41, t) = nbF (p2 (mF A0 3)) (v - 1) ss q r (Int.toNat (k + 1)) ∧ j < ss.2.2 ∧ ss.2.2 ≤ t ∧ sprF (p2 (mF A0 3)) (v - 1) (Int.toNat (4096 - j)) (nbF (p2 (mF A0 3)) (v - 1) ss q r 9) (j + 1) = sprF (p2 (mF A0 3)) (v - 1) 4097 (joinF (trG A0, A0 41, 0) p (v - 1)) 0)) ∧ (Int.toNat (5000 - j) * 100 + Int.toNat (20 - (k + 1))) < (Int.toNat (5000 - j) * 100 + Int.toNat (20 - k)))))))))))) ∧ (¬ w32 k < w32 9 → ((25 = 25 ∧ p = p ∧ v = v ∧ F0 = F0 ∧ (z = p2 (mF A0 3) ∧ (0 ≤ (j + 1) ∧ (j + 1) ≤ t ∧ t ≤ 4096) ∧ (∀ bb ii, (bb ≠ 40 ∧ bb ≠ 41) ∨ (bb = 40 ∧ w32 (A0 39 ii) = 0) → A bb ii = A0 bb ii) ∧ (∀ ii, 0 ≤ ii → ii < p2 (mF A0 3) * p2 (mF A0 3) → 0 ≤ A 40 ii ∧ A 40 ii ≤ 4096) ∧ okW (p2 (mF A0 3)) (trG A, A 41, t) ∧ sprF (p2 (mF A0 3)) (v - 1) (Int.toNat (4097 - (j + 1))) (trG A, A 41, t) (j + 1) = sprF (p2 (mF A0 3)) (v - 1) 4097 (joinF (trG A0, A0 41, 0) p (v - 1)) 0)) ∧ (Int.toNat (5000 - (j + 1)) * 100 + 50) < (Int.toNat (5000 - j) * 100 + Int.toNat (20 - k))))
  refine ⟨fun c1 => ?_, fun c1 => ?_⟩
  · skip
    (try simp (disch := omega) only [w32_0, w32_id] at c1)
    have ed : x_div k 3 = k / 3 := x_div_eq hk.1 (by omega) (by omega) (by omega)
    have em : x_rem k 3 = k % 3 := x_rem_eq hk.1 (by omega) (by omega) (by omega)
    rw [ed, em]
    have ns := nbF_s (S := p2 (mF A0 3)) (v := v - 1) (s := ss) (q := q) (o := r) (k := k) hk.1
    rw [← hst] at ns
    have ba : -1 ≤ q + k / 3 - 1 ∧ q + k / 3 - 1 ≤ 64 := by omega
    have bb : -1 ≤ r + k % 3 - 1 ∧ r + k % 3 - 1 ≤ 64 := by omega
    generalize q + k / 3 - 1 = a at ns ba ⊢
    generalize r + k % 3 - 1 = b at ns bb ⊢
    have okj := joinF_okW hW (ixF_r (S := p2 (mF A0 3)) (r := a) (c := b)) (show 0 ≤ v - 1 by omega)
    have ix := fun (a0 : 0 ≤ a) (a1 : a < z) (b0 : 0 ≤ b) (b1 : b < z) => ix_b (S := z) a0 a1 b0 b1
    have ixe := fun (a0 : 0 ≤ a) (a1 : a < z) (b0 : 0 ≤ b) (b1 : b < z) => (show ixF (p2 (mF A0 3)) a b = a * z + b from by rw [ixF, if_pos (by omega), h1])
    rw [Int.mul_comm z a]
    have zz : z * z = p2 (mF A0 3) * p2 (mF A0 3) := by rw [h1]
    refine ⟨by first | decide | omega | (have u7 := tu c6; have lt7 := lt (by omega); rw [w32_id (by omega) (by omega)]; omega), ?_⟩
    refine ⟨by first | decide | omega | (have u7 := tu c6; have lt7 := lt (by omega); rw [w32_id (by omega) (by omega)]; omega), ?_⟩
    refine ⟨fun c2 => ?_, fun c2 => ?_⟩
    · skip
      (try simp (disch := omega) only [w32_0, w32_id] at c2)
      refine ⟨⟨rfl, rfl, rfl, rfl, ?_⟩, by omega⟩
      first
      | (refine ⟨h1, h2, hq, by omega, hF, hM, hW, ss, ?_, s1, s2, hR⟩
         rw [ns]
         symm
         refine joinF_x (fun y => ?_)
         have y0 := y.1
         have y2 := y.2.2.1
         dsimp only at y2
         unfold ixF at y0 y2
         by_cases sq : 0 ≤ a ∧ a < p2 (mF A0 3) ∧ 0 ≤ b ∧ b < p2 (mF A0 3)
         · rw [if_pos sq, ← h1] at y2
           first
           | omega
           | (have u7 := t0 (by assumption); omega)
           | (have u7 := tu (by assumption); omega)
         · rw [if_neg sq] at y0; omega)
      | (have u7 := tu c6
         have lt7 := lt (by omega)
         have j9 : joinF (trG A, A 41, t) (a * z + b) (v - 1) = (up1 (trG A) (a * z + b) (v - 1), up1 (A 41) t (a * z + b), t + 1) := joinF_j (by omega) (by omega) (by show trG A _ = -1; omega) (by show t < 4096; omega)
         have w7 : w32 (a * z + b) = a * z + b := w32_id (by omega) (by omega)
         have w8 : w32 t = t := w32_id (by have := hW.2.1; dsimp only at this; omega) (by omega)
         simp only [w7, w8]
         have e9 : (trG (upA (upA A 40 (a * z + b) v) 41 t (a * z + b)), upA (upA A 40 (a * z + b) v) 41 t (a * z + b) 41, t + 1) = joinF (trG A, A 41, t) (a * z + b) (v - 1) := by
           rw [j9, tr_o (by decide), tr_up c6, upA_up1, upA_r (by decide)]
         rw [ixe] at ns okj
         refine ⟨h1, h2, hq, by omega, g_fr hF (by rw [← hF 39 _ (Or.inl (by decide))]; exact c6), fun i i0 i1 => ?_, by rw [e9]; exact okj, ss, by rw [e9, ns], s1, by omega, hR⟩
         rw [upA_k (by decide)]
         by_cases e : i = a * z + b
         · rw [e, upA_s]; omega
         · rw [upA_o e]; exact hM i i0 i1)
    · skip
      (try simp (disch := omega) only [w32_0, w32_id] at c2)
      refine ⟨fun c3 => ?_, fun c3 => ?_⟩
      · skip
        (try simp (disch := omega) only [w32_0, w32_id] at c3)
        refine ⟨⟨rfl, rfl, rfl, rfl, ?_⟩, by omega⟩
        first
        | (refine ⟨h1, h2, hq, by omega, hF, hM, hW, ss, ?_, s1, s2, hR⟩
           rw [ns]
           symm
           refine joinF_x (fun y => ?_)
           have y0 := y.1
           have y2 := y.2.2.1
           dsimp only at y2
           unfold ixF at y0 y2
           by_cases sq : 0 ≤ a ∧ a < p2 (mF A0 3) ∧ 0 ≤ b ∧ b < p2 (mF A0 3)
           · rw [if_pos sq, ← h1] at y2
             first
             | omega
             | (have u7 := t0 (by assumption); omega)
             | (have u7 := tu (by assumption); omega)
           · rw [if_neg sq] at y0; omega)
        | (have u7 := tu c6
           have lt7 := lt (by omega)
           have j9 : joinF (trG A, A 41, t) (a * z + b) (v - 1) = (up1 (trG A) (a * z + b) (v - 1), up1 (A 41) t (a * z + b), t + 1) := joinF_j (by omega) (by omega) (by show trG A _ = -1; omega) (by show t < 4096; omega)
           have w7 : w32 (a * z + b) = a * z + b := w32_id (by omega) (by omega)
           have w8 : w32 t = t := w32_id (by have := hW.2.1; dsimp only at this; omega) (by omega)
           simp only [w7, w8]
           have e9 : (trG (upA (upA A 40 (a * z + b) v) 41 t (a * z + b)), upA (upA A 40 (a * z + b) v) 41 t (a * z + b) 41, t + 1) = joinF (trG A, A 41, t) (a * z + b) (v - 1) := by
             rw [j9, tr_o (by decide), tr_up c6, upA_up1, upA_r (by decide)]
           rw [ixe] at ns okj
           refine ⟨h1, h2, hq, by omega, g_fr hF (by rw [← hF 39 _ (Or.inl (by decide))]; exact c6), fun i i0 i1 => ?_, by rw [e9]; exact okj, ss, by rw [e9, ns], s1, by omega, hR⟩
           rw [upA_k (by decide)]
           by_cases e : i = a * z + b
           · rw [e, upA_s]; omega
           · rw [upA_o e]; exact hM i i0 i1)
      · skip
        (try simp (disch := omega) only [w32_0, w32_id] at c3)
        refine ⟨fun c4 => ?_, fun c4 => ?_⟩
        · skip
          (try simp (disch := omega) only [w32_0, w32_id] at c4)
          refine ⟨fun c5 => ?_, fun c5 => ?_⟩
          · skip
            (try simp (disch := omega) only [w32_0, w32_id] at c5)
            have ix := ix (by omega) (by omega) (by omega) (by omega)
            have ixe := ixe (by omega) (by omega) (by omega) (by omega)
            have lt := okW_lt (i := a * z + b) hW (by omega) (by omega)
            dsimp only at lt
            have tu : ∀ (_ : ¬ w32 (A 39 (a * z + b)) = 0), trG A (a * z + b) = A 40 (a * z + b) - 1 := fun y => if_neg y
            have t0 : ∀ (_ : w32 (A 39 (a * z + b)) = 0), trG A (a * z + b) = -2 := fun y => if_pos y
            have m4 := hM (a * z + b) (by omega) (by omega)
            rw [w32_id (x := a * z + b) (by omega) (by omega)]
            refine ⟨by first | decide | omega | (have u7 := tu c6; have lt7 := lt (by omega); rw [w32_id (by omega) (by omega)]; omega), ?_⟩
            refine ⟨fun c6 => ?_, fun c6 => ?_⟩
            · skip
              (try simp (disch := omega) only [w32_0, w32_id] at c6)
              refine ⟨⟨rfl, rfl, rfl, rfl, ?_⟩, by omega⟩
              first
              | (refine ⟨h1, h2, hq, by omega, hF, hM, hW, ss, ?_, s1, s2, hR⟩
                 rw [ns]
                 symm
                 refine joinF_x (fun y => ?_)
                 have y0 := y.1
                 have y2 := y.2.2.1
                 dsimp only at y2
                 unfold ixF at y0 y2
                 by_cases sq : 0 ≤ a ∧ a < p2 (mF A0 3) ∧ 0 ≤ b ∧ b < p2 (mF A0 3)
                 · rw [if_pos sq, ← h1] at y2
                   first
                   | omega
                   | (have u7 := t0 (by assumption); omega)
                   | (have u7 := tu (by assumption); omega)
                 · rw [if_neg sq] at y0; omega)
              | (have u7 := tu c6
                 have lt7 := lt (by omega)
                 have j9 : joinF (trG A, A 41, t) (a * z + b) (v - 1) = (up1 (trG A) (a * z + b) (v - 1), up1 (A 41) t (a * z + b), t + 1) := joinF_j (by omega) (by omega) (by show trG A _ = -1; omega) (by show t < 4096; omega)
                 have w7 : w32 (a * z + b) = a * z + b := w32_id (by omega) (by omega)
                 have w8 : w32 t = t := w32_id (by have := hW.2.1; dsimp only at this; omega) (by omega)
                 simp only [w7, w8]
                 have e9 : (trG (upA (upA A 40 (a * z + b) v) 41 t (a * z + b)), upA (upA A 40 (a * z + b) v) 41 t (a * z + b) 41, t + 1) = joinF (trG A, A 41, t) (a * z + b) (v - 1) := by
                   rw [j9, tr_o (by decide), tr_up c6, upA_up1, upA_r (by decide)]
                 rw [ixe] at ns okj
                 refine ⟨h1, h2, hq, by omega, g_fr hF (by rw [← hF 39 _ (Or.inl (by decide))]; exact c6), fun i i0 i1 => ?_, by rw [e9]; exact okj, ss, by rw [e9, ns], s1, by omega, hR⟩
                 rw [upA_k (by decide)]
                 by_cases e : i = a * z + b
                 · rw [e, upA_s]; omega
                 · rw [upA_o e]; exact hM i i0 i1)
            · skip
              (try simp (disch := omega) only [w32_0, w32_id] at c6)
              refine ⟨by first | decide | omega | (have u7 := tu c6; have lt7 := lt (by omega); rw [w32_id (by omega) (by omega)]; omega), ?_⟩
              refine ⟨fun c7 => ?_, fun c7 => ?_⟩
              · skip
                (try simp (disch := omega) only [w32_0, w32_id] at c7)
                refine ⟨by first | decide | omega | (have u7 := tu c6; have lt7 := lt (by omega); rw [w32_id (by omega) (by omega)]; omega), ?_⟩
                refine ⟨by first | decide | omega | (have u7 := tu c6; have lt7 := lt (by omega); rw [w32_id (by omega) (by omega)]; omega), ?_⟩
                refine ⟨⟨rfl, rfl, rfl, rfl, ?_⟩, by omega⟩
                first
                | (refine ⟨h1, h2, hq, by omega, hF, hM, hW, ss, ?_, s1, s2, hR⟩
                   rw [ns]
                   symm
                   refine joinF_x (fun y => ?_)
                   have y0 := y.1
                   have y2 := y.2.2.1
                   dsimp only at y2
                   unfold ixF at y0 y2
                   by_cases sq : 0 ≤ a ∧ a < p2 (mF A0 3) ∧ 0 ≤ b ∧ b < p2 (mF A0 3)
                   · rw [if_pos sq, ← h1] at y2
                     first
                     | omega
                     | (have u7 := t0 (by assumption); omega)
                     | (have u7 := tu (by assumption); omega)
                   · rw [if_neg sq] at y0; omega)
                | (have u7 := tu c6
                   have lt7 := lt (by omega)
                   have j9 : joinF (trG A, A 41, t) (a * z + b) (v - 1) = (up1 (trG A) (a * z + b) (v - 1), up1 (A 41) t (a * z + b), t + 1) := joinF_j (by omega) (by omega) (by show trG A _ = -1; omega) (by show t < 4096; omega)
                   have w7 : w32 (a * z + b) = a * z + b := w32_id (by omega) (by omega)
                   have w8 : w32 t = t := w32_id (by have := hW.2.1; dsimp only at this; omega) (by omega)
                   simp only [w7, w8]
                   have e9 : (trG (upA (upA A 40 (a * z + b) v) 41 t (a * z + b)), upA (upA A 40 (a * z + b) v) 41 t (a * z + b) 41, t + 1) = joinF (trG A, A 41, t) (a * z + b) (v - 1) := by
                     rw [j9, tr_o (by decide), tr_up c6, upA_up1, upA_r (by decide)]
                   rw [ixe] at ns okj
                   refine ⟨h1, h2, hq, by omega, g_fr hF (by rw [← hF 39 _ (Or.inl (by decide))]; exact c6), fun i i0 i1 => ?_, by rw [e9]; exact okj, ss, by rw [e9, ns], s1, by omega, hR⟩
                   rw [upA_k (by decide)]
                   by_cases e : i = a * z + b
                   · rw [e, upA_s]; omega
                   · rw [upA_o e]; exact hM i i0 i1)
              · skip
                (try simp (disch := omega) only [w32_0, w32_id] at c7)
                refine ⟨⟨rfl, rfl, rfl, rfl, ?_⟩, by omega⟩
                first
                | (refine ⟨h1, h2, hq, by omega, hF, hM, hW, ss, ?_, s1, s2, hR⟩
                   rw [ns]
                   symm
                   refine joinF_x (fun y => ?_)
                   have y0 := y.1
                   have y2 := y.2.2.1
                   dsimp only at y2
                   unfold ixF at y0 y2
                   by_cases sq : 0 ≤ a ∧ a < p2 (mF A0 3) ∧ 0 ≤ b ∧ b < p2 (mF A0 3)
                   · rw [if_pos sq, ← h1] at y2
                     first
                     | omega
                     | (have u7 := t0 (by assumption); omega)
                     | (have u7 := tu (by assumption); omega)
                   · rw [if_neg sq] at y0; omega)
                | (have u7 := tu c6
                   have lt7 := lt (by omega)
                   have j9 : joinF (trG A, A 41, t) (a * z + b) (v - 1) = (up1 (trG A) (a * z + b) (v - 1), up1 (A 41) t (a * z + b), t + 1) := joinF_j (by omega) (by omega) (by show trG A _ = -1; omega) (by show t < 4096; omega)
                   have w7 : w32 (a * z + b) = a * z + b := w32_id (by omega) (by omega)
                   have w8 : w32 t = t := w32_id (by have := hW.2.1; dsimp only at this; omega) (by omega)
                   simp only [w7, w8]
                   have e9 : (trG (upA (upA A 40 (a * z + b) v) 41 t (a * z + b)), upA (upA A 40 (a * z + b) v) 41 t (a * z + b) 41, t + 1) = joinF (trG A, A 41, t) (a * z + b) (v - 1) := by
                     rw [j9, tr_o (by decide), tr_up c6, upA_up1, upA_r (by decide)]
                   rw [ixe] at ns okj
                   refine ⟨h1, h2, hq, by omega, g_fr hF (by rw [← hF 39 _ (Or.inl (by decide))]; exact c6), fun i i0 i1 => ?_, by rw [e9]; exact okj, ss, by rw [e9, ns], s1, by omega, hR⟩
                   rw [upA_k (by decide)]
                   by_cases e : i = a * z + b
                   · rw [e, upA_s]; omega
                   · rw [upA_o e]; exact hM i i0 i1)
          · skip
            (try simp (disch := omega) only [w32_0, w32_id] at c5)
            refine ⟨⟨rfl, rfl, rfl, rfl, ?_⟩, by omega⟩
            first
            | (refine ⟨h1, h2, hq, by omega, hF, hM, hW, ss, ?_, s1, s2, hR⟩
               rw [ns]
               symm
               refine joinF_x (fun y => ?_)
               have y0 := y.1
               have y2 := y.2.2.1
               dsimp only at y2
               unfold ixF at y0 y2
               by_cases sq : 0 ≤ a ∧ a < p2 (mF A0 3) ∧ 0 ≤ b ∧ b < p2 (mF A0 3)
               · rw [if_pos sq, ← h1] at y2
                 first
                 | omega
                 | (have u7 := t0 (by assumption); omega)
                 | (have u7 := tu (by assumption); omega)
               · rw [if_neg sq] at y0; omega)
            | (have u7 := tu c6
               have lt7 := lt (by omega)
               have j9 : joinF (trG A, A 41, t) (a * z + b) (v - 1) = (up1 (trG A) (a * z + b) (v - 1), up1 (A 41) t (a * z + b), t + 1) := joinF_j (by omega) (by omega) (by show trG A _ = -1; omega) (by show t < 4096; omega)
               have w7 : w32 (a * z + b) = a * z + b := w32_id (by omega) (by omega)
               have w8 : w32 t = t := w32_id (by have := hW.2.1; dsimp only at this; omega) (by omega)
               simp only [w7, w8]
               have e9 : (trG (upA (upA A 40 (a * z + b) v) 41 t (a * z + b)), upA (upA A 40 (a * z + b) v) 41 t (a * z + b) 41, t + 1) = joinF (trG A, A 41, t) (a * z + b) (v - 1) := by
                 rw [j9, tr_o (by decide), tr_up c6, upA_up1, upA_r (by decide)]
               rw [ixe] at ns okj
               refine ⟨h1, h2, hq, by omega, g_fr hF (by rw [← hF 39 _ (Or.inl (by decide))]; exact c6), fun i i0 i1 => ?_, by rw [e9]; exact okj, ss, by rw [e9, ns], s1, by omega, hR⟩
               rw [upA_k (by decide)]
               by_cases e : i = a * z + b
               · rw [e, upA_s]; omega
               · rw [upA_o e]; exact hM i i0 i1)
        · skip
          (try simp (disch := omega) only [w32_0, w32_id] at c4)
          refine ⟨⟨rfl, rfl, rfl, rfl, ?_⟩, by omega⟩
          first
          | (refine ⟨h1, h2, hq, by omega, hF, hM, hW, ss, ?_, s1, s2, hR⟩
             rw [ns]
             symm
             refine joinF_x (fun y => ?_)
             have y0 := y.1
             have y2 := y.2.2.1
             dsimp only at y2
             unfold ixF at y0 y2
             by_cases sq : 0 ≤ a ∧ a < p2 (mF A0 3) ∧ 0 ≤ b ∧ b < p2 (mF A0 3)
             · rw [if_pos sq, ← h1] at y2
               first
               | omega
               | (have u7 := t0 (by assumption); omega)
               | (have u7 := tu (by assumption); omega)
             · rw [if_neg sq] at y0; omega)
          | (have u7 := tu c6
             have lt7 := lt (by omega)
             have j9 : joinF (trG A, A 41, t) (a * z + b) (v - 1) = (up1 (trG A) (a * z + b) (v - 1), up1 (A 41) t (a * z + b), t + 1) := joinF_j (by omega) (by omega) (by show trG A _ = -1; omega) (by show t < 4096; omega)
             have w7 : w32 (a * z + b) = a * z + b := w32_id (by omega) (by omega)
             have w8 : w32 t = t := w32_id (by have := hW.2.1; dsimp only at this; omega) (by omega)
             simp only [w7, w8]
             have e9 : (trG (upA (upA A 40 (a * z + b) v) 41 t (a * z + b)), upA (upA A 40 (a * z + b) v) 41 t (a * z + b) 41, t + 1) = joinF (trG A, A 41, t) (a * z + b) (v - 1) := by
               rw [j9, tr_o (by decide), tr_up c6, upA_up1, upA_r (by decide)]
             rw [ixe] at ns okj
             refine ⟨h1, h2, hq, by omega, g_fr hF (by rw [← hF 39 _ (Or.inl (by decide))]; exact c6), fun i i0 i1 => ?_, by rw [e9]; exact okj, ss, by rw [e9, ns], s1, by omega, hR⟩
             rw [upA_k (by decide)]
             by_cases e : i = a * z + b
             · rw [e, upA_s]; omega
             · rw [upA_o e]; exact hM i i0 i1)
  · skip
    (try simp (disch := omega) only [w32_0, w32_id] at c1)
    refine ⟨⟨rfl, rfl, rfl, rfl, ?_⟩, by omega⟩
    have ek : k = 9 := by omega
    subst ek
    refine ⟨h1, by have := hW.2; have cb := cntK_b (trG A) (-1) (Int.toNat (p2 (mF A0 3) * p2 (mF A0 3))); dsimp only at this; omega, hF, hM, hW, ?_⟩
    rw [show Int.toNat (4097 - (j + 1)) = Int.toNat (4096 - j) by omega, ← hR, hst]; rfl
set_option maxRecDepth 20000 in
theorem qvX9_gathers_25 (p : Int) (v : Int) (F0 : FF) (A0 : AA) (K : KK) (h : ((1 ≤ mF A0 3 ∧ mF A0 3 ≤ 6) ∧ (0 ≤ p ∧ p < p2 (mF A0 3) * p2 (mF A0 3)) ∧ (1 ≤ v ∧ v ≤ 4096) ∧ trG A0 p = -1 ∧ (∀ ii, 0 ≤ ii → ii < p2 (mF A0 3) * p2 (mF A0 3) → 0 ≤ A0 40 ii ∧ A0 40 ii ≤ 4096)) ∧ (∀ (B_1 : AA), ((∀ b i, (b ≠ 40 ∧ b ≠ 41) ∨ (b = 40 ∧ w32 (A0 39 i) = 0) → B_1 b i = A0 b i) ∧ (∀ ii, 0 ≤ ii → ii < p2 (mF A0 3) * p2 (mF A0 3) → 0 ≤ B_1 40 ii ∧ B_1 40 ii ≤ 4096) ∧ trG B_1 = (sprF (p2 (mF A0 3)) (v - 1) 4097 (joinF (trG A0, A0 41, 0) p (v - 1)) 0).1) → (K (some none) F0 B_1))) : am_body qxX9_gathers qnX9_gathers_25 71 (qiX9_gathers_25 p v F0 A0) quX9_gathers_25 [vR 25, vI p, vI v] 11 F0 A0 K := by
  refine ⟨qvX9_gathers_25_0 p v F0 A0 K h, fun pc ls st F A u hI => ?_⟩
  unfold qiX9_gathers_25 at hI
  replace hI := am_cond2 hI
  rcases hI with ⟨hb, hI⟩ | hI
  · have hb := am_bq hb
    subst hb
    split at hI
    · rename_i s0 s1 s2 z t j
      obtain ⟨e0, e1, e2, e3, hI⟩ := hI
      subst e0
      subst e1
      subst e2
      subst e3
      exact qvX9_gathers_25_25 _ _ _ _ K h _ _ _ _ hI
    · exact hI.elim
  replace hI := am_cond2 hI
  rcases hI with ⟨hb, hI⟩ | hI
  · have hb := am_bq hb
    subst hb
    split at hI
    · rename_i s0 s1 s2 z t j q r k
      obtain ⟨e0, e1, e2, e3, hI⟩ := hI
      subst e0
      subst e1
      subst e2
      subst e3
      exact qvX9_gathers_25_57 _ _ _ _ K h _ _ _ _ _ _ _ hI
    · exact hI.elim
  exact hI.elim
theorem qtX9_gathers (l : Launch) : am_CT l layM qeX9_gathers := am_met0 rfl (by decide +kernel) rfl rfl rfl rfl rfl (fun _ => rfl) rfl (qzX9_gathers l) (fun k e1 h => (qyX9_gathers l k e1 h).2) (fun as F A K h => by
  replace h : qsX9_gathers as F A K := h
  unfold qsX9_gathers at h
  split at h
  · rename_i o p v
    refine ⟨by first | exact Nat.le_of_ble_eq_true rfl | simp [am_fl, am_cat], ?_⟩
    replace h := am_cond2 h
    rcases h with ⟨hb, h⟩ | h
    · skip
      have hb0 := hb
      have hb0 := am_bq hb0
      subst hb0
      exact am_way_body (qvX9_gathers_25 p v F A K h)
    exact h.elim
  · exact h.elim)
def qkX9_laysMeetings : Nat → Option CI := fun pc => cond (Nat.ble 102 pc) none (cond (Nat.ble 46 pc) (cond (Nat.ble 73 pc) (cond (Nat.ble 86 pc) (cond (Nat.ble 93 pc) (cond (Nat.ble 99 pc) (cond (Nat.beq pc 99) (some (.iload 5, 101, [])) (cond (Nat.beq pc 101) (some (.ireturn, 102, [])) (none))) (cond (Nat.beq pc 93) (some (.iinc 6 1, 96, [])) (cond (Nat.beq pc 96) (some (.goto (-48), 99, [48])) (none)))) (cond (Nat.beq pc 86) (some (.iload 6, 88, [])) (cond (Nat.beq pc 88) (some (.iload 5, 90, [])) (cond (Nat.beq pc 90) (some (.invokevirtual 189, 93, [])) (none))))) (cond (Nat.ble 79 pc) (cond (Nat.beq pc 79) (some (.goto 14, 82, [93])) (cond (Nat.beq pc 82) (some (.iinc 5 1, 85, [])) (cond (Nat.beq pc 85) (some (.aload_n 0, 86, [])) (none)))) (cond (Nat.beq pc 73) (some (.iload 6, 75, [])) (cond (Nat.beq pc 75) (some (.iaload, 76, [])) (cond (Nat.beq pc 76) (some (.ifCond .eq 6, 79, [82])) (none)))))) (cond (Nat.ble 59 pc) (cond (Nat.ble 65 pc) (cond (Nat.ble 69 pc) (cond (Nat.beq pc 69) (some (.aload_n 0, 70, [])) (cond (Nat.beq pc 70) (some (.getfield 54, 73, [])) (none))) (cond (Nat.beq pc 65) (some (.baload, 66, [])) (cond (Nat.beq pc 66) (some (.ifCond .eq 27, 69, [93])) (none)))) (cond (Nat.beq pc 59) (some (.aload_n 0, 60, [])) (cond (Nat.beq pc 60) (some (.getfield 50, 63, [])) (cond (Nat.beq pc 63) (some (.iload 6, 65, [])) (none))))) (cond (Nat.ble 52 pc) (cond (Nat.beq pc 52) (some (.if_icmp .ge 47, 55, [99])) (cond (Nat.beq pc 55) (some (.iload_n 3, 56, [])) (cond (Nat.beq pc 56) (some (.ifCond .le 43, 59, [99])) (none)))) (cond (Nat.beq pc 46) (some (.istore 6, 48, [])) (cond (Nat.beq pc 48) (some (.iload 6, 50, [])) (cond (Nat.beq pc 50) (some (.iload 4, 52, [])) (none))))))) (cond (Nat.ble 21 pc) (cond (Nat.ble 34 pc) (cond (Nat.ble 39 pc) (cond (Nat.ble 43 pc) (cond (Nat.beq pc 43) (some (.istore 5, 45, [])) (cond (Nat.beq pc 45) (some (.iconst 0, 46, [])) (none))) (cond (Nat.beq pc 39) (some (.goto (-18), 42, [21])) (cond (Nat.beq pc 42) (some (.iconst 0, 43, [])) (none)))) (cond (Nat.beq pc 34) (some (.iconst 0, 35, [])) (cond (Nat.beq pc 35) (some (.iastore, 36, [])) (cond (Nat.beq pc 36) (some (.iinc 5 1, 39, [])) (none))))) (cond (Nat.ble 28 pc) (cond (Nat.beq pc 28) (some (.aload_n 0, 29, [])) (cond (Nat.beq pc 29) (some (.getfield 54, 32, [])) (cond (Nat.beq pc 32) (some (.iload 5, 34, [])) (none)))) (cond (Nat.beq pc 21) (some (.iload 5, 23, [])) (cond (Nat.beq pc 23) (some (.iload 4, 25, [])) (cond (Nat.beq pc 25) (some (.if_icmp .ge 17, 28, [42])) (none)))))) (cond (Nat.ble 8 pc) (cond (Nat.ble 15 pc) (cond (Nat.ble 18 pc) (cond (Nat.beq pc 18) (some (.iconst 0, 19, [])) (cond (Nat.beq pc 19) (some (.istore 5, 21, [])) (none))) (cond (Nat.beq pc 15) (some (.imul, 16, [])) (cond (Nat.beq pc 16) (some (.istore 4, 18, [])) (none)))) (cond (Nat.beq pc 8) (some (.invokevirtual 176, 11, [])) (cond (Nat.beq pc 11) (some (.aload_n 0, 12, [])) (cond (Nat.beq pc 12) (some (.invokevirtual 176, 15, [])) (none))))) (cond (Nat.ble 3 pc) (cond (Nat.beq pc 3) (some (.invokevirtual 186, 6, [])) (cond (Nat.beq pc 6) (some (.istore_n 3, 7, [])) (cond (Nat.beq pc 7) (some (.aload_n 0, 8, [])) (none)))) (cond (Nat.beq pc 0) (some (.aload_n 0, 1, [])) (cond (Nat.beq pc 1) (some (.iload_n 1, 2, [])) (cond (Nat.beq pc 2) (some (.iload_n 2, 3, [])) (none))))))))
theorem qkX9_laysMeetings_ok : ∀ pc i nx ts, qkX9_laysMeetings pc = some (i, nx, ts) → am_cok cX9_laysMeetings pc (i, nx, ts) = true := fun pc i nx ts h => am_tok_ok (n := 102) (by decide +kernel) (fun pc h => by show cond (Nat.ble 102 pc) _ _ = _; rw [Nat.ble_eq_true_of_le h]; rfl) h
def qaX9_laysMeetings : Nat → Option CE := fun k => cond (Nat.beq k 186) (some qeX9_laysPairs) (cond (Nat.beq k 176) (some qeX9_across) (cond (Nat.beq k 189) (some qeX9_gathers) (none)))
theorem qyX9_laysMeetings (l : Launch) : ∀ k e1, qaX9_laysMeetings k = some e1 → am_cal l layM RX9 14 k e1 ∧ ceT e1 = 0 := q_cons ⟨am_calV (ci := 9) (qtX9_laysPairs l) qbX9_laysPairs (by decide) rfl (am_tb_at 1949 (by decide +kernel) rfl), rfl⟩ (q_cons ⟨am_calV (ci := 9) (qtX9_across l) qbX9_across (by decide) rfl (am_tb_at 1933 (by decide +kernel) rfl), rfl⟩ (q_cons ⟨am_calV (ci := 9) (qtX9_gathers l) qbX9_gathers (by decide) rfl (am_tb_at 1980 (by decide +kernel) rfl), rfl⟩ (q_nil)))
def qxX9_laysMeetings : CX := (qkX9_laysMeetings, layM, qfX9, qaX9_laysMeetings, qcX9, qlX9, qmX9, (some .int), false, none, 0, none, fun _ => none)
theorem qzX9_laysMeetings (l : Launch) : am_sta l qxX9_laysMeetings RX9 14 cX9_laysMeetings := ⟨qkX9_laysMeetings_ok, layM_ok, qfX9_ok, qcX9_ok, qlX9_ok, am_mthP qmX9_ok (by decide), fun k e1 h => (qyX9_laysMeetings l k e1 h).1⟩
def qsX9_laysMeetings : SP := fun as F A K => match as with
  | [.inr (.inr o), .inl c, .inl e] => cond (Nat.beq o 25) ((fgOK (mF A) ∧ (0 ≤ c ∧ c < mF A 0) ∧ (0 ≤ e ∧ e < mF A 0)) ∧ (∀ (B_1 : AA), ((∀ b i, b ≠ 32 ∧ b ≠ 33 ∧ b ≠ 38 ∧ b ≠ 39 ∧ b ≠ 40 ∧ b ≠ 41 → B_1 b i = A b i) ∧ mqH (mF A) c e (B_1 40)) → (K (some (some (vI (gnX (mF A) c e)))) F B_1))) (False)
  | _ => False
def qeX9_laysMeetings : CE := (yX9_laysMeetings, cX9_laysMeetings, 7, (some .int), 2, some 9, 0, [], 0, 14, qsX9_laysMeetings)
theorem qbX9_laysMeetings : am_mb qeX9_laysMeetings := ⟨am_tb_at 1979 (by decide +kernel) rfl, am_tb_at 124 (by decide +kernel) rfl, ⟨by decide, by decide, by decide +kernel⟩, by decide, by decide, am_tb_at 1978 (by decide +kernel) rfl, am_tb_at 107 (by decide +kernel) rfl, _, _, rfl⟩
def qnX9_laysMeetings_25 : CUT := fun pc => cond (Nat.beq pc 21) (some [true, true, true, true, true, true, false]) (cond (Nat.beq pc 48) (some [true, true, true, true, true, true, true]) (none))
def qiX9_laysMeetings_25 (c : Int) (e : Int) (F0 : FF) (A0 : AA) : REC := fun pc ls st F A u => cond (Nat.beq pc 21) (match ls, st, u with
    | [some (.inr (.inr s0)), some (.inl s1), some (.inl s2), some (.inl m), some (.inl a), some (.inl k), none], [], 0 => s0 = 25 ∧ s1 = c ∧ s2 = e ∧ F = F0 ∧ (m = cntQ (prK (mF A0) c e) (Int.toNat (p2 (mF A0 3) * p2 (mF A0 3))) ∧ a = p2 (mF A0 3) * p2 (mF A0 3) ∧ (0 ≤ k ∧ k ≤ a) ∧ (∀ bb ii, bb ≠ 32 ∧ bb ≠ 33 ∧ bb ≠ 38 ∧ bb ≠ 39 ∧ bb ≠ 40 ∧ bb ≠ 41 → A bb ii = A0 bb ii) ∧ pkH (mF A0) c e (A 39) ∧ ∀ ii, 0 ≤ ii → ii < k → A 40 ii = 0)
    | _, _, _ => False) (cond (Nat.beq pc 48) (match ls, st, u with
    | [some (.inr (.inr s0)), some (.inl s1), some (.inl s2), some (.inl m), some (.inl a), some (.inl n), some (.inl k)], [], 0 => s0 = 25 ∧ s1 = c ∧ s2 = e ∧ F = F0 ∧ (m = cntQ (prK (mF A0) c e) (Int.toNat (p2 (mF A0 3) * p2 (mF A0 3))) ∧ a = p2 (mF A0 3) * p2 (mF A0 3) ∧ (0 ≤ k ∧ k ≤ a) ∧ (∀ bb ii, bb ≠ 32 ∧ bb ≠ 33 ∧ bb ≠ 38 ∧ bb ≠ 39 ∧ bb ≠ 40 ∧ bb ≠ 41 → A bb ii = A0 bb ii) ∧ pkH (mF A0) c e (A 39) ∧ (∀ ii, 0 ≤ ii → ii < p2 (mF A0 3) * p2 (mF A0 3) → 0 ≤ A 40 ii ∧ A 40 ii ≤ 4096) ∧ (∀ ii, 0 ≤ ii → ii < p2 (mF A0 3) * p2 (mF A0 3) → ¬ prK (mF A0) c e ii → A 40 ii = 0) ∧ (∀ ii, 0 ≤ ii → ii < p2 (mF A0 3) * p2 (mF A0 3) → trG A ii = (grpF (p2 (mF A0 3)) (pairS (mF A0) c e) (Int.toNat k)).1.1 ii) ∧ n = (grpF (p2 (mF A0 3)) (pairS (mF A0) c e) (Int.toNat k)).2)
    | _, _, _ => False) (False))
def quX9_laysMeetings_25 : Nat → LVs → List AV → FF → AA → Nat := fun pc ls _ F A => cond (Nat.beq pc 21) (match ls with
    | [some (.inr (.inr s0)), some (.inl s1), some (.inl s2), some (.inl m), some (.inl a), some (.inl k), none] => Int.toNat (20000 - k)
    | _ => 0) (cond (Nat.beq pc 48) (match ls with
    | [some (.inr (.inr s0)), some (.inl s1), some (.inl s2), some (.inl m), some (.inl a), some (.inl n), some (.inl k)] => Int.toNat (5000 - k)
    | _ => 0) (0))
set_option maxRecDepth 20000 in
theorem qvX9_laysMeetings_25_0 (c : Int) (e : Int) (F0 : FF) (A0 : AA) (K : KK) (h : (fgOK (mF A0) ∧ (0 ≤ c ∧ c < mF A0 0) ∧ (0 ≤ e ∧ e < mF A0 0)) ∧ (∀ (B_1 : AA), ((∀ b i, b ≠ 32 ∧ b ≠ 33 ∧ b ≠ 38 ∧ b ≠ 39 ∧ b ≠ 40 ∧ b ≠ 41 → B_1 b i = A0 b i) ∧ mqH (mF A0) c e (B_1 40)) → (K (some (some (vI (gnX (mF A0) c e)))) F0 B_1))) : am_stp qxX9_laysMeetings (am_run qxX9_laysMeetings qnX9_laysMeetings_25 (qiX9_laysMeetings_25 c e F0 A0) K 25) K 0 (am_ent [vR 25, vI c, vI e] 7) [] F0 A0 0 := by
  show am_stp qxX9_laysMeetings (am_run qxX9_laysMeetings qnX9_laysMeetings_25 (qiX9_laysMeetings_25 c e F0 A0) K 25) K 0 [some (vR 25), some (vI c), some (vI e), none, none, none, none] [] F0 A0 0
  obtain ⟨hp, h⟩ := h
  obtain ⟨p1, p2', p3⟩ := hp
  have q4 := p1.2.1.2
  have sb := sq_b q4.1 q4.2
  show (fgOK (mF A0) ∧ (0 ≤ c ∧ c < mF A0 0) ∧ (0 ≤ e ∧ e < mF A0 0)) ∧ (∀ (B_1 : AA), (pqP A0 B_1 c e) → ((True) ∧ ((True) ∧ (25 = 25 ∧ c = c ∧ e = e ∧ F0 = F0 ∧ ((cntQ (prK (mF A0) c e) (Int.toNat (p2 (mF A0 3) * p2 (mF A0 3)))) = cntQ (prK (mF A0) c e) (Int.toNat (p2 (mF A0 3) * p2 (mF A0 3))) ∧ ((x_shl 1 (mF B_1 (2 + 1))) * (x_shl 1 (mF B_1 (2 + 1)))) = p2 (mF A0 3) * p2 (mF A0 3) ∧ (0 ≤ 0 ∧ 0 ≤ ((x_shl 1 (mF B_1 (2 + 1))) * (x_shl 1 (mF B_1 (2 + 1))))) ∧ (∀ bb ii, bb ≠ 32 ∧ bb ≠ 33 ∧ bb ≠ 38 ∧ bb ≠ 39 ∧ bb ≠ 40 ∧ bb ≠ 41 → B_1 bb ii = A0 bb ii) ∧ pkH (mF A0) c e (B_1 39) ∧ ∀ ii, 0 ≤ ii → ii < 0 → B_1 40 ii = 0)))))
  refine ⟨by first | trivial | exact ⟨p1, p2', p3⟩, ?_⟩
  intro B_1 g1
  refine ⟨by first | trivial | exact ⟨p1, p2', p3⟩, ?_⟩
  refine ⟨by first | trivial | exact ⟨p1, p2', p3⟩, ?_⟩
  refine ⟨rfl, rfl, rfl, rfl, ?_⟩
  have ef := fr_f g1.1
  have el : x_shl 1 (mF B_1 (2 + 1)) = p2 (mF A0 3) := by rw [ef]; exact x_shl1 (by show 0 ≤ mF A0 3; omega) (by show mF A0 3 ≤ 12; omega)
  refine ⟨rfl, by rw [el], by rw [el]; omega, fun b i hb => g1.1 b i (by omega), g1.2, fun i i0 i1 => by omega⟩
set_option maxRecDepth 20000 in
theorem qvX9_laysMeetings_25_21 (c : Int) (e : Int) (F0 : FF) (A0 : AA) (K : KK) (h : (fgOK (mF A0) ∧ (0 ≤ c ∧ c < mF A0 0) ∧ (0 ≤ e ∧ e < mF A0 0)) ∧ (∀ (B_1 : AA), ((∀ b i, b ≠ 32 ∧ b ≠ 33 ∧ b ≠ 38 ∧ b ≠ 39 ∧ b ≠ 40 ∧ b ≠ 41 → B_1 b i = A0 b i) ∧ mqH (mF A0) c e (B_1 40)) → (K (some (some (vI (gnX (mF A0) c e)))) F0 B_1))) (m : Int) (a : Int) (k : Int) (A : AA) (hi : m = cntQ (prK (mF A0) c e) (Int.toNat (p2 (mF A0 3) * p2 (mF A0 3))) ∧ a = p2 (mF A0 3) * p2 (mF A0 3) ∧ (0 ≤ k ∧ k ≤ a) ∧ (∀ bb ii, bb ≠ 32 ∧ bb ≠ 33 ∧ bb ≠ 38 ∧ bb ≠ 39 ∧ bb ≠ 40 ∧ bb ≠ 41 → A bb ii = A0 bb ii) ∧ pkH (mF A0) c e (A 39) ∧ ∀ ii, 0 ≤ ii → ii < k → A 40 ii = 0) : am_stp qxX9_laysMeetings (am_run qxX9_laysMeetings qnX9_laysMeetings_25 (fun pc ls st F9 A9 u => qiX9_laysMeetings_25 c e F0 A0 pc ls st F9 A9 u ∧ quX9_laysMeetings_25 pc ls st F9 A9 < quX9_laysMeetings_25 21 [some (vR 25), some (vI c), some (vI e), some (vI m), some (vI a), some (vI k), none] [] F0 A) K 25) K 21 [some (vR 25), some (vI c), some (vI e), some (vI m), some (vI a), some (vI k), none] [] F0 A 0 := by
  obtain ⟨hp, h⟩ := h
  obtain ⟨p1, p2', p3⟩ := hp
  have q4 := p1.2.1.2
  have sb := sq_b q4.1 q4.2
  obtain ⟨h0, h1, h2, hF, hK, hZ⟩ := hi
  show (w32 k < w32 a → ((0 ≤ w32 k ∧ w32 k < 4096) ∧ ((25 = 25 ∧ c = c ∧ e = e ∧ F0 = F0 ∧ (m = cntQ (prK (mF A0) c e) (Int.toNat (p2 (mF A0 3) * p2 (mF A0 3))) ∧ a = p2 (mF A0 3) * p2 (mF A0 3) ∧ (0 ≤ (k + 1) ∧ (k + 1) ≤ a) ∧ (∀ bb ii, bb ≠ 32 ∧ bb ≠ 33 ∧ bb ≠ 38 ∧ bb ≠ 39 ∧ bb ≠ 40 ∧ bb ≠ 41 → (upA A 40 (w32 k) 0) bb ii = A0 bb ii) ∧ pkH (mF A0) c e ((upA A 40 (w32 k) 0) 39) ∧ ∀ ii, 0 ≤ ii → ii < (k + 1) → (upA A 40 (w32 k) 0) 40 ii = 0)) ∧ (Int.toNat (20000 - (k + 1))) < (Int.toNat (20000 - k))))) ∧ (¬ w32 k < w32 a → ((25 = 25 ∧ c = c ∧ e = e ∧ F0 = F0 ∧ (m = cntQ (prK (mF A0) c e) (Int.toNat (p2 (mF A0 3) * p2 (mF A0 3))) ∧ a = p2 (mF A0 3) * p2 (mF A0 3) ∧ (0 ≤ 0 ∧ 0 ≤ a) ∧ (∀ bb ii, bb ≠ 32 ∧ bb ≠ 33 ∧ bb ≠ 38 ∧ bb ≠ 39 ∧ bb ≠ 40 ∧ bb ≠ 41 → A bb ii = A0 bb ii) ∧ pkH (mF A0) c e (A 39) ∧ (∀ ii, 0 ≤ ii → ii < p2 (mF A0 3) * p2 (mF A0 3) → 0 ≤ A 40 ii ∧ A 40 ii ≤ 4096) ∧ (∀ ii, 0 ≤ ii → ii < p2 (mF A0 3) * p2 (mF A0 3) → ¬ prK (mF A0) c e ii → A 40 ii = 0) ∧ (∀ ii, 0 ≤ ii → ii < p2 (mF A0 3) * p2 (mF A0 3) → trG A ii = (grpF (p2 (mF A0 3)) (pairS (mF A0) c e) (Int.toNat 0)).1.1 ii) ∧ 0 = (grpF (p2 (mF A0 3)) (pairS (mF A0) c e) (Int.toNat 0)).2)) ∧ (Int.toNat (5000 - 0)) < (Int.toNat (20000 - k))))
  refine ⟨fun c1 => ?_, fun c1 => ?_⟩
  · skip
    (try simp (disch := omega) only [w32_id] at c1)
    refine ⟨by first | omega | (rw [w32_id (by omega) (by omega)]; omega), ?_⟩
    refine ⟨⟨rfl, rfl, rfl, rfl, ?_⟩, by omega⟩
    rw [w32_id (x := k) (by omega) (by omega)]
    refine ⟨h0, h1, by omega, fun b i hb => by rw [upA_k (by omega)]; exact hF b i hb, by rw [upA_r (by decide)]; exact hK, fun j j0 j1 => ?_⟩
    by_cases z : j = k
    · rw [z, upA_s]
    · rw [upA_o z]; exact hZ j j0 (by omega)
  · skip
    (try simp (disch := omega) only [w32_id] at c1)
    refine ⟨⟨rfl, rfl, rfl, rfl, ?_⟩, by omega⟩
    refine ⟨h0, h1, by omega, hF, hK, fun i i0 i1 => by rw [hZ i i0 (by omega)]; decide, fun i i0 i1 _ => hZ i i0 (by omega), fun i i0 i1 => ?_, rfl⟩
    show trG A i = (pairS (mF A0) c e).1 i
    unfold trG
    by_cases y : prK (mF A0) c e i
    · rw [if_neg (fun x => (pk_w hK i0 i1).mp x y), hZ i i0 (by omega), pairS_t y]; rfl
    · rw [if_pos ((pk_w hK i0 i1).mpr y), pairS_f y]
set_option maxRecDepth 20000 in
theorem qvX9_laysMeetings_25_48 (c : Int) (e : Int) (F0 : FF) (A0 : AA) (K : KK) (h : (fgOK (mF A0) ∧ (0 ≤ c ∧ c < mF A0 0) ∧ (0 ≤ e ∧ e < mF A0 0)) ∧ (∀ (B_1 : AA), ((∀ b i, b ≠ 32 ∧ b ≠ 33 ∧ b ≠ 38 ∧ b ≠ 39 ∧ b ≠ 40 ∧ b ≠ 41 → B_1 b i = A0 b i) ∧ mqH (mF A0) c e (B_1 40)) → (K (some (some (vI (gnX (mF A0) c e)))) F0 B_1))) (m : Int) (a : Int) (n : Int) (k : Int) (A : AA) (hi : m = cntQ (prK (mF A0) c e) (Int.toNat (p2 (mF A0 3) * p2 (mF A0 3))) ∧ a = p2 (mF A0 3) * p2 (mF A0 3) ∧ (0 ≤ k ∧ k ≤ a) ∧ (∀ bb ii, bb ≠ 32 ∧ bb ≠ 33 ∧ bb ≠ 38 ∧ bb ≠ 39 ∧ bb ≠ 40 ∧ bb ≠ 41 → A bb ii = A0 bb ii) ∧ pkH (mF A0) c e (A 39) ∧ (∀ ii, 0 ≤ ii → ii < p2 (mF A0 3) * p2 (mF A0 3) → 0 ≤ A 40 ii ∧ A 40 ii ≤ 4096) ∧ (∀ ii, 0 ≤ ii → ii < p2 (mF A0 3) * p2 (mF A0 3) → ¬ prK (mF A0) c e ii → A 40 ii = 0) ∧ (∀ ii, 0 ≤ ii → ii < p2 (mF A0 3) * p2 (mF A0 3) → trG A ii = (grpF (p2 (mF A0 3)) (pairS (mF A0) c e) (Int.toNat k)).1.1 ii) ∧ n = (grpF (p2 (mF A0 3)) (pairS (mF A0) c e) (Int.toNat k)).2) : am_stp qxX9_laysMeetings (am_run qxX9_laysMeetings qnX9_laysMeetings_25 (fun pc ls st F9 A9 u => qiX9_laysMeetings_25 c e F0 A0 pc ls st F9 A9 u ∧ quX9_laysMeetings_25 pc ls st F9 A9 < quX9_laysMeetings_25 48 [some (vR 25), some (vI c), some (vI e), some (vI m), some (vI a), some (vI n), some (vI k)] [] F0 A) K 25) K 48 [some (vR 25), some (vI c), some (vI e), some (vI m), some (vI a), some (vI n), some (vI k)] [] F0 A 0 := by
  obtain ⟨hp, h⟩ := h
  obtain ⟨p1, p2', p3⟩ := hp
  have q4 := p1.2.1.2
  have sb := sq_b q4.1 q4.2
  obtain ⟨h0, h1, h2, hF, hK, hM, hZ, hT, h4⟩ := hi
  have eF : mF A = mF A0 := mF_c (funext fun i => hF 2 i (by decide)) (funext fun i => hF 27 i (by decide)) (funext fun i => hF 29 i (by decide))
  have cb := cntQ_b (prK (mF A0) c e) (Int.toNat (p2 (mF A0 3) * p2 (mF A0 3)))
  have gb := grpF_b (p2 (mF A0 3)) (pairS (mF A0) c e) (Int.toNat k)
  show (w32 k < w32 a → ((w32 0 < w32 m → ((0 ≤ w32 k ∧ w32 k < 4096) ∧ ((w32 (A 39 (w32 k)) = w32 0 → ((25 = 25 ∧ c = c ∧ e = e ∧ F0 = F0 ∧ (m = cntQ (prK (mF A0) c e) (Int.toNat (p2 (mF A0 3) * p2 (mF A0 3))) ∧ a = p2 (mF A0 3) * p2 (mF A0 3) ∧ (0 ≤ (k + 1) ∧ (k + 1) ≤ a) ∧ (∀ bb ii, bb ≠ 32 ∧ bb ≠ 33 ∧ bb ≠ 38 ∧ bb ≠ 39 ∧ bb ≠ 40 ∧ bb ≠ 41 → A bb ii = A0 bb ii) ∧ pkH (mF A0) c e (A 39) ∧ (∀ ii, 0 ≤ ii → ii < p2 (mF A0 3) * p2 (mF A0 3) → 0 ≤ A 40 ii ∧ A 40 ii ≤ 4096) ∧ (∀ ii, 0 ≤ ii → ii < p2 (mF A0 3) * p2 (mF A0 3) → ¬ prK (mF A0) c e ii → A 40 ii = 0) ∧ (∀ ii, 0 ≤ ii → ii < p2 (mF A0 3) * p2 (mF A0 3) → trG A ii = (grpF (p2 (mF A0 3)) (pairS (mF A0) c e) (Int.toNat (k + 1))).1.1 ii) ∧ n = (grpF (p2 (mF A0 3)) (pairS (mF A0) c e) (Int.toNat (k + 1))).2)) ∧ (Int.toNat (5000 - (k + 1))) < (Int.toNat (5000 - k)))) ∧ (¬ w32 (A 39 (w32 k)) = w32 0 → ((0 ≤ w32 k ∧ w32 k < 4096) ∧ ((w32 (A 40 (w32 k)) = w32 0 → (((1 ≤ mF A 3 ∧ mF A 3 ≤ 6) ∧ (0 ≤ k ∧ k < p2 (mF A 3) * p2 (mF A 3)) ∧ (1 ≤ (n + 1) ∧ (n + 1) ≤ 4096) ∧ trG A k = -1 ∧ (∀ ii, 0 ≤ ii → ii < p2 (mF A 3) * p2 (mF A 3) → 0 ≤ A 40 ii ∧ A 40 ii ≤ 4096)) ∧ (∀ (B_1 : AA), ((∀ b i, (b ≠ 40 ∧ b ≠ 41) ∨ (b = 40 ∧ w32 (A 39 i) = 0) → B_1 b i = A b i) ∧ (∀ ii, 0 ≤ ii → ii < p2 (mF A 3) * p2 (mF A 3) → 0 ≤ B_1 40 ii ∧ B_1 40 ii ≤ 4096) ∧ trG B_1 = (sprF (p2 (mF A 3)) ((n + 1) - 1) 4097 (joinF (trG A, A 41, 0) k ((n + 1) - 1)) 0).1) → ((25 = 25 ∧ c = c ∧ e = e ∧ F0 = F0 ∧ (m = cntQ (prK (mF A0) c e) (Int.toNat (p2 (mF A0 3) * p2 (mF A0 3))) ∧ a = p2 (mF A0 3) * p2 (mF A0 3) ∧ (0 ≤ (k + 1) ∧ (k + 1) ≤ a) ∧ (∀ bb ii, bb ≠ 32 ∧ bb ≠ 33 ∧ bb ≠ 38 ∧ bb ≠ 39 ∧ bb ≠ 40 ∧ bb ≠ 41 → B_1 bb ii = A0 bb ii) ∧ pkH (mF A0) c e (B_1 39) ∧ (∀ ii, 0 ≤ ii → ii < p2 (mF A0 3) * p2 (mF A0 3) → 0 ≤ B_1 40 ii ∧ B_1 40 ii ≤ 4096) ∧ (∀ ii, 0 ≤ ii → ii < p2 (mF A0 3) * p2 (mF A0 3) → ¬ prK (mF A0) c e ii → B_1 40 ii = 0) ∧ (∀ ii, 0 ≤ ii → ii < p2 (mF A0 3) * p2 (mF A0 3) → trG B_1 ii = (grpF (p2 (mF A0 3)) (pairS (mF A0) c e) (Int.toNat (k + 1))).1.1 ii) ∧ (n + 1) = (grpF (p2 (mF A0 3)) (pairS (mF A0) c e) (Int.toNat (k + 1))).2)) ∧ (Int.toNat (5000 - (k + 1))) < (Int.toNat (5000 - k)))))) ∧ (¬ w32 (A 40 (w32 k)) = w32 0 → ((25 = 25 ∧ c = c ∧ e = e ∧ F0 = F0 ∧ (m = cntQ (prK (mF A0) c e) (Int.toNat (p2 (mF A0 3) * p2 (mF A0 3))) ∧ a = p2 (mF A0 3) * p2 (mF A0 3) ∧ (0 ≤ (k + 1) ∧ (k + 1) ≤ a) ∧ (∀ bb ii, bb ≠ 32 ∧ bb ≠ 33 ∧ bb ≠ 38 ∧ bb ≠ 39 ∧ bb ≠ 40 ∧ bb ≠ 41 → A bb ii = A0 bb ii) ∧ pkH (mF A0) c e (A 39) ∧ (∀ ii, 0 ≤ ii → ii < p2 (mF A0 3) * p2 (mF A0 3) → 0 ≤ A 40 ii ∧ A 40 ii ≤ 4096) ∧ (∀ ii, 0 ≤ ii → ii < p2 (mF A0 3) * p2 (mF A0 3) → ¬ prK (mF A0) c e ii → A 40 ii = 0) ∧ (∀ ii, 0 ≤ ii → ii < p2 (mF A0 3) * p2 (mF A0 3) → trG A ii = (grpF (p2 (mF A0 3)) (pairS (mF A0) c e) (Int.toNat (k + 1))).1.1 ii) ∧ n = (grpF (p2 (mF A0 3)) (pairS (mF A0) c e) (Int.toNat (k + 1))).2)) ∧ (Int.toNat (5000 - (k + 1))) < (Int.toNat (5000 - k)))))))))) ∧ (¬ w32 0 < w32 m → (K (some (some (vI n))) F0 A)))) ∧ (¬ w32 k < w32 a → (K (some (some (vI n))) F0 A))
  refine ⟨fun c1 => ?_, fun c1 => ?_⟩
  · skip
    (try rw [w32_id (x := k) (by omega) (by omega)] at c1); (try rw [w32_0] at c1); (try rw [pk_w hK (by omega) (by omega)] at c1); (try simp only [Classical.not_not] at c1); (try (have m9 := hM k (by omega) (by omega); rw [w32_id (x := A 40 k) (by omega) (by omega)] at c1)); (try simp (disch := omega) only [w32_id] at c1)
    have gs := grpF_s (S := p2 (mF A0 3)) (s := pairS (mF A0) c e) h2.1
    have tk := hT k h2.1 (by omega)
    have pw := pk_w hK (k := k) h2.1 (by omega)
    have tu : ∀ (_ : ¬ w32 (A 39 k) = 0), trG A k = A 40 k - 1 := fun y => if_neg y
    have t0 : ∀ (_ : w32 (A 39 k) = 0), trG A k = -2 := fun y => if_pos y
    refine ⟨fun c2 => ?_, fun c2 => ?_⟩
    · skip
      (try rw [w32_id (x := k) (by omega) (by omega)] at c2); (try rw [w32_0] at c2); (try rw [pk_w hK (by omega) (by omega)] at c2); (try simp only [Classical.not_not] at c2); (try (have m9 := hM k (by omega) (by omega); rw [w32_id (x := A 40 k) (by omega) (by omega)] at c2)); (try simp (disch := omega) only [w32_id] at c2)
      refine ⟨by first | omega | (rw [w32_id (by omega) (by omega)]; omega) | (rw [eF]; have u7 := tu (fun x => pw.mp x c3); exact ⟨q4, ⟨h2.1, by omega⟩, ⟨by omega, by omega⟩, by omega, hM⟩), ?_⟩
      refine ⟨fun c3 => ?_, fun c3 => ?_⟩
      · skip
        (try rw [w32_id (x := k) (by omega) (by omega)] at c3); (try rw [w32_0] at c3); (try rw [pk_w hK (by omega) (by omega)] at c3); (try simp only [Classical.not_not] at c3); (try (have m9 := hM k (by omega) (by omega); rw [w32_id (x := A 40 k) (by omega) (by omega)] at c3)); (try simp (disch := omega) only [w32_id] at c3)
        refine ⟨⟨rfl, rfl, rfl, rfl, ?_⟩, by omega⟩
        first
        | (have nk : ¬ (grpF (p2 (mF A0 3)) (pairS (mF A0) c e) (Int.toNat k)).1.1 k = -1 := (by
             rw [← tk]
             first
             | (rw [t0 (pw.mpr c3)]; decide)
             | (rw [tu (fun x => pw.mp x c3)]; omega))
           rw [if_neg nk] at gs
           exact ⟨h0, h1, by omega, hF, hK, hM, hZ, by rw [gs]; exact hT, by rw [gs]; exact h4⟩)
        | (have nk : (grpF (p2 (mF A0 3)) (pairS (mF A0) c e) (Int.toNat k)).1.1 k = -1 := (by rw [← tk, tu (fun x => pw.mp x c3)]; omega)
           rw [if_pos nk] at gs
           rw [eF] at g1
           have ag : agB (p2 (mF A0 3)) (trG A, A 41, 0) ((grpF (p2 (mF A0 3)) (pairS (mF A0) c e) (Int.toNat k)).1.1, (grpF (p2 (mF A0 3)) (pairS (mF A0) c e) (Int.toNat k)).1.2.1, 0) := ⟨rfl, hT, fun j j0 j1 => by have j1' : j < 0 := j1; omega⟩
           have ag2 := sprF_ag (v := n) 4097 _ _ 0 (Int.le_refl 0) (joinF_ag (i := k) (v := n) ag (Or.inr ⟨h2.1, by omega⟩))
           refine ⟨h0, h1, by omega, fun b i hb => (g1.1 b i (Or.inl (by omega))).trans (hF b i hb), by rw [show B_1 39 = A 39 from funext fun i => g1.1 39 i (Or.inl (by decide))]; exact hK, g1.2.1, fun i i0 i1 hn => ?_, fun i i0 i1 => ?_, by rw [gs, ← h4]⟩
           · exact (g1.1 40 i (Or.inr ⟨rfl, (pk_w hK i0 i1).mpr hn⟩)).trans (hZ i i0 i1 hn)
           · rw [gs, ← h4]
             have a9 := ag2.2.1 i i0 i1
             rw [g1.2.2, show n + 1 - 1 = n by omega]
             exact a9)
      · skip
        (try rw [w32_id (x := k) (by omega) (by omega)] at c3); (try rw [w32_0] at c3); (try rw [pk_w hK (by omega) (by omega)] at c3); (try simp only [Classical.not_not] at c3); (try (have m9 := hM k (by omega) (by omega); rw [w32_id (x := A 40 k) (by omega) (by omega)] at c3)); (try simp (disch := omega) only [w32_id] at c3)
        refine ⟨by first | omega | (rw [w32_id (by omega) (by omega)]; omega) | (rw [eF]; have u7 := tu (fun x => pw.mp x c3); exact ⟨q4, ⟨h2.1, by omega⟩, ⟨by omega, by omega⟩, by omega, hM⟩), ?_⟩
        refine ⟨fun c4 => ?_, fun c4 => ?_⟩
        · skip
          (try rw [w32_id (x := k) (by omega) (by omega)] at c4); (try rw [w32_0] at c4); (try rw [pk_w hK (by omega) (by omega)] at c4); (try simp only [Classical.not_not] at c4); (try (have m9 := hM k (by omega) (by omega); rw [w32_id (x := A 40 k) (by omega) (by omega)] at c4)); (try simp (disch := omega) only [w32_id] at c4)
          refine ⟨by first | omega | (rw [w32_id (by omega) (by omega)]; omega) | (rw [eF]; have u7 := tu (fun x => pw.mp x c3); exact ⟨q4, ⟨h2.1, by omega⟩, ⟨by omega, by omega⟩, by omega, hM⟩), ?_⟩
          intro B_1 g1
          refine ⟨⟨rfl, rfl, rfl, rfl, ?_⟩, by omega⟩
          first
          | (have nk : ¬ (grpF (p2 (mF A0 3)) (pairS (mF A0) c e) (Int.toNat k)).1.1 k = -1 := (by
               rw [← tk]
               first
               | (rw [t0 (pw.mpr c3)]; decide)
               | (rw [tu (fun x => pw.mp x c3)]; omega))
             rw [if_neg nk] at gs
             exact ⟨h0, h1, by omega, hF, hK, hM, hZ, by rw [gs]; exact hT, by rw [gs]; exact h4⟩)
          | (have nk : (grpF (p2 (mF A0 3)) (pairS (mF A0) c e) (Int.toNat k)).1.1 k = -1 := (by rw [← tk, tu (fun x => pw.mp x c3)]; omega)
             rw [if_pos nk] at gs
             rw [eF] at g1
             have ag : agB (p2 (mF A0 3)) (trG A, A 41, 0) ((grpF (p2 (mF A0 3)) (pairS (mF A0) c e) (Int.toNat k)).1.1, (grpF (p2 (mF A0 3)) (pairS (mF A0) c e) (Int.toNat k)).1.2.1, 0) := ⟨rfl, hT, fun j j0 j1 => by have j1' : j < 0 := j1; omega⟩
             have ag2 := sprF_ag (v := n) 4097 _ _ 0 (Int.le_refl 0) (joinF_ag (i := k) (v := n) ag (Or.inr ⟨h2.1, by omega⟩))
             refine ⟨h0, h1, by omega, fun b i hb => (g1.1 b i (Or.inl (by omega))).trans (hF b i hb), by rw [show B_1 39 = A 39 from funext fun i => g1.1 39 i (Or.inl (by decide))]; exact hK, g1.2.1, fun i i0 i1 hn => ?_, fun i i0 i1 => ?_, by rw [gs, ← h4]⟩
             · exact (g1.1 40 i (Or.inr ⟨rfl, (pk_w hK i0 i1).mpr hn⟩)).trans (hZ i i0 i1 hn)
             · rw [gs, ← h4]
               have a9 := ag2.2.1 i i0 i1
               rw [g1.2.2, show n + 1 - 1 = n by omega]
               exact a9)
        · skip
          (try rw [w32_id (x := k) (by omega) (by omega)] at c4); (try rw [w32_0] at c4); (try rw [pk_w hK (by omega) (by omega)] at c4); (try simp only [Classical.not_not] at c4); (try (have m9 := hM k (by omega) (by omega); rw [w32_id (x := A 40 k) (by omega) (by omega)] at c4)); (try simp (disch := omega) only [w32_id] at c4)
          refine ⟨⟨rfl, rfl, rfl, rfl, ?_⟩, by omega⟩
          first
          | (have nk : ¬ (grpF (p2 (mF A0 3)) (pairS (mF A0) c e) (Int.toNat k)).1.1 k = -1 := (by
               rw [← tk]
               first
               | (rw [t0 (pw.mpr c3)]; decide)
               | (rw [tu (fun x => pw.mp x c3)]; omega))
             rw [if_neg nk] at gs
             exact ⟨h0, h1, by omega, hF, hK, hM, hZ, by rw [gs]; exact hT, by rw [gs]; exact h4⟩)
          | (have nk : (grpF (p2 (mF A0 3)) (pairS (mF A0) c e) (Int.toNat k)).1.1 k = -1 := (by rw [← tk, tu (fun x => pw.mp x c3)]; omega)
             rw [if_pos nk] at gs
             rw [eF] at g1
             have ag : agB (p2 (mF A0 3)) (trG A, A 41, 0) ((grpF (p2 (mF A0 3)) (pairS (mF A0) c e) (Int.toNat k)).1.1, (grpF (p2 (mF A0 3)) (pairS (mF A0) c e) (Int.toNat k)).1.2.1, 0) := ⟨rfl, hT, fun j j0 j1 => by have j1' : j < 0 := j1; omega⟩
             have ag2 := sprF_ag (v := n) 4097 _ _ 0 (Int.le_refl 0) (joinF_ag (i := k) (v := n) ag (Or.inr ⟨h2.1, by omega⟩))
             refine ⟨h0, h1, by omega, fun b i hb => (g1.1 b i (Or.inl (by omega))).trans (hF b i hb), by rw [show B_1 39 = A 39 from funext fun i => g1.1 39 i (Or.inl (by decide))]; exact hK, g1.2.1, fun i i0 i1 hn => ?_, fun i i0 i1 => ?_, by rw [gs, ← h4]⟩
             · exact (g1.1 40 i (Or.inr ⟨rfl, (pk_w hK i0 i1).mpr hn⟩)).trans (hZ i i0 i1 hn)
             · rw [gs, ← h4]
               have a9 := ag2.2.1 i i0 i1
               rw [g1.2.2, show n + 1 - 1 = n by omega]
               exact a9)
    · skip
      (try rw [w32_id (x := k) (by omega) (by omega)] at c2); (try rw [w32_0] at c2); (try rw [pk_w hK (by omega) (by omega)] at c2); (try simp only [Classical.not_not] at c2); (try (have m9 := hM k (by omega) (by omega); rw [w32_id (x := A 40 k) (by omega) (by omega)] at c2)); (try simp (disch := omega) only [w32_id] at c2)
      have fin : (grpF (p2 (mF A0 3)) (pairS (mF A0) c e) (Int.toNat k)) = grpF (p2 (mF A0 3)) (pairS (mF A0) c e) (Int.toNat (p2 (mF A0 3) * p2 (mF A0 3))) := by
        by_cases y : k = p2 (mF A0 3) * p2 (mF A0 3)
        · rw [y]
        · have m0 : m ≤ 0 := by omega
          have none : ∀ i : Int, 0 ≤ i → i < p2 (mF A0 3) * p2 (mF A0 3) → ¬ (pairS (mF A0) c e).1 i = -1 := fun i i0 i1 z => by
            have pi : prK (mF A0) c e i := Classical.byContradiction fun q => by rw [pairS_f q] at z; omega
            have c1' := cntQ_t (p := prK (mF A0) c e) i0 pi
            have c2' := cntQ_m (prK (mF A0) c e) (Int.toNat (i + 1)) (Int.toNat (p2 (mF A0 3) * p2 (mF A0 3)) - Int.toNat (i + 1))
            rw [show Int.toNat (i + 1) + (Int.toNat (p2 (mF A0 3) * p2 (mF A0 3)) - Int.toNat (i + 1)) = Int.toNat (p2 (mF A0 3) * p2 (mF A0 3)) by omega] at c2'
            have c3' := cntQ_b (prK (mF A0) c e) (Int.toNat i)
            omega
          rw [grp_none _ (fun i i0 i1 => none i i0 (by omega)), grp_none _ (fun i i0 i1 => none i i0 (by omega))]
      rw [fin] at hT h4
      refine K_eq (h _ ⟨hF, fun i i0 i1 => ?_⟩) h4.symm
      have t9 : trG A i = gmX (mF A0) c e i := hT i i0 i1
      have m9 := hM i i0 i1
      by_cases y : prK (mF A0) c e i
      · have u9 : trG A i = A 40 i - 1 := if_neg (fun x => (pk_w hK i0 i1).mp x y)
        rw [← t9, u9]
        by_cases w : 0 ≤ A 40 i - 1
        · rw [if_pos w]; omega
        · rw [if_neg w]; omega
      · have u9 : trG A i = -2 := if_pos ((pk_w hK i0 i1).mpr y)
        rw [hZ i i0 i1 y, ← t9, u9]; rfl
  · skip
    (try rw [w32_id (x := k) (by omega) (by omega)] at c1); (try rw [w32_0] at c1); (try rw [pk_w hK (by omega) (by omega)] at c1); (try simp only [Classical.not_not] at c1); (try (have m9 := hM k (by omega) (by omega); rw [w32_id (x := A 40 k) (by omega) (by omega)] at c1)); (try simp (disch := omega) only [w32_id] at c1)
    have fin : (grpF (p2 (mF A0 3)) (pairS (mF A0) c e) (Int.toNat k)) = grpF (p2 (mF A0 3)) (pairS (mF A0) c e) (Int.toNat (p2 (mF A0 3) * p2 (mF A0 3))) := by
      by_cases y : k = p2 (mF A0 3) * p2 (mF A0 3)
      · rw [y]
      · have m0 : m ≤ 0 := by omega
        have none : ∀ i : Int, 0 ≤ i → i < p2 (mF A0 3) * p2 (mF A0 3) → ¬ (pairS (mF A0) c e).1 i = -1 := fun i i0 i1 z => by
          have pi : prK (mF A0) c e i := Classical.byContradiction fun q => by rw [pairS_f q] at z; omega
          have c1' := cntQ_t (p := prK (mF A0) c e) i0 pi
          have c2' := cntQ_m (prK (mF A0) c e) (Int.toNat (i + 1)) (Int.toNat (p2 (mF A0 3) * p2 (mF A0 3)) - Int.toNat (i + 1))
          rw [show Int.toNat (i + 1) + (Int.toNat (p2 (mF A0 3) * p2 (mF A0 3)) - Int.toNat (i + 1)) = Int.toNat (p2 (mF A0 3) * p2 (mF A0 3)) by omega] at c2'
          have c3' := cntQ_b (prK (mF A0) c e) (Int.toNat i)
          omega
        rw [grp_none _ (fun i i0 i1 => none i i0 (by omega)), grp_none _ (fun i i0 i1 => none i i0 (by omega))]
    rw [fin] at hT h4
    refine K_eq (h _ ⟨hF, fun i i0 i1 => ?_⟩) h4.symm
    have t9 : trG A i = gmX (mF A0) c e i := hT i i0 i1
    have m9 := hM i i0 i1
    by_cases y : prK (mF A0) c e i
    · have u9 : trG A i = A 40 i - 1 := if_neg (fun x => (pk_w hK i0 i1).mp x y)
      rw [← t9, u9]
      by_cases w : 0 ≤ A 40 i - 1
      · rw [if_pos w]; omega
      · rw [if_neg w]; omega
    · have u9 : trG A i = -2 := if_pos ((pk_w hK i0 i1).mpr y)
      rw [hZ i i0 i1 y, ← t9, u9]; rfl
set_option maxRecDepth 20000 in
theorem qvX9_laysMeetings_25 (c : Int) (e : Int) (F0 : FF) (A0 : AA) (K : KK) (h : (fgOK (mF A0) ∧ (0 ≤ c ∧ c < mF A0 0) ∧ (0 ≤ e ∧ e < mF A0 0)) ∧ (∀ (B_1 : AA), ((∀ b i, b ≠ 32 ∧ b ≠ 33 ∧ b ≠ 38 ∧ b ≠ 39 ∧ b ≠ 40 ∧ b ≠ 41 → B_1 b i = A0 b i) ∧ mqH (mF A0) c e (B_1 40)) → (K (some (some (vI (gnX (mF A0) c e)))) F0 B_1))) : am_body qxX9_laysMeetings qnX9_laysMeetings_25 25 (qiX9_laysMeetings_25 c e F0 A0) quX9_laysMeetings_25 [vR 25, vI c, vI e] 7 F0 A0 K := by
  refine ⟨qvX9_laysMeetings_25_0 c e F0 A0 K h, fun pc ls st F A u hI => ?_⟩
  unfold qiX9_laysMeetings_25 at hI
  replace hI := am_cond2 hI
  rcases hI with ⟨hb, hI⟩ | hI
  · have hb := am_bq hb
    subst hb
    split at hI
    · rename_i s0 s1 s2 m a k
      obtain ⟨e0, e1, e2, e3, hI⟩ := hI
      subst e0
      subst e1
      subst e2
      subst e3
      exact qvX9_laysMeetings_25_21 _ _ _ _ K h _ _ _ _ hI
    · exact hI.elim
  replace hI := am_cond2 hI
  rcases hI with ⟨hb, hI⟩ | hI
  · have hb := am_bq hb
    subst hb
    split at hI
    · rename_i s0 s1 s2 m a n k
      obtain ⟨e0, e1, e2, e3, hI⟩ := hI
      subst e0
      subst e1
      subst e2
      subst e3
      exact qvX9_laysMeetings_25_48 _ _ _ _ K h _ _ _ _ _ hI
    · exact hI.elim
  exact hI.elim
theorem qtX9_laysMeetings (l : Launch) : am_CT l layM qeX9_laysMeetings := am_met0 rfl (by decide +kernel) rfl rfl rfl rfl rfl (fun _ => rfl) rfl (qzX9_laysMeetings l) (fun k e1 h => (qyX9_laysMeetings l k e1 h).2) (fun as F A K h => by
  replace h : qsX9_laysMeetings as F A K := h
  unfold qsX9_laysMeetings at h
  split at h
  · rename_i o c e
    refine ⟨by first | exact Nat.le_of_ble_eq_true rfl | simp [am_fl, am_cat], ?_⟩
    replace h := am_cond2 h
    rcases h with ⟨hb, h⟩ | h
    · skip
      have hb0 := hb
      have hb0 := am_bq hb0
      subst hb0
      exact am_way_body (qvX9_laysMeetings_25 c e F A K h)
    exact h.elim
  · exact h.elim)
def qkX9_meetingCount : Nat → Option CI := fun pc => cond (Nat.ble 20 pc) none (cond (Nat.ble 10 pc) (cond (Nat.ble 15 pc) (cond (Nat.beq pc 15) (some (.goto 4, 18, [19])) (cond (Nat.beq pc 18) (some (.iconst 0, 19, [])) (cond (Nat.beq pc 19) (some (.ireturn, 20, [])) (none)))) (cond (Nat.beq pc 10) (some (.iload_n 1, 11, [])) (cond (Nat.beq pc 11) (some (.iload_n 2, 12, [])) (cond (Nat.beq pc 12) (some (.invokevirtual 391, 15, [])) (none))))) (cond (Nat.ble 3 pc) (cond (Nat.beq pc 3) (some (.invokevirtual 385, 6, [])) (cond (Nat.beq pc 6) (some (.ifCond .eq 12, 9, [18])) (cond (Nat.beq pc 9) (some (.aload_n 0, 10, [])) (none)))) (cond (Nat.beq pc 0) (some (.aload_n 0, 1, [])) (cond (Nat.beq pc 1) (some (.iload_n 1, 2, [])) (cond (Nat.beq pc 2) (some (.iload_n 2, 3, [])) (none))))))
theorem qkX9_meetingCount_ok : ∀ pc i nx ts, qkX9_meetingCount pc = some (i, nx, ts) → am_cok cX9_meetingCount pc (i, nx, ts) = true := fun pc i nx ts h => am_tok_ok (n := 20) (by decide +kernel) (fun pc h => by show cond (Nat.ble 20 pc) _ _ = _; rw [Nat.ble_eq_true_of_le h]; rfl) h
def qaX9_meetingCount : Nat → Option CE := fun k => cond (Nat.beq k 385) (some qeX9_areTwo) (cond (Nat.beq k 391) (some qeX9_laysMeetings) (none))
theorem qyX9_meetingCount (l : Launch) : ∀ k e1, qaX9_meetingCount k = some e1 → am_cal l layM RX9 15 k e1 ∧ ceT e1 = 0 := q_cons ⟨am_calV (ci := 9) (qtX9_areTwo l) qbX9_areTwo (by decide) rfl (am_tb_at 1929 (by decide +kernel) rfl), rfl⟩ (q_cons ⟨am_calV (ci := 9) (qtX9_laysMeetings l) qbX9_laysMeetings (by decide) rfl (am_tb_at 1976 (by decide +kernel) rfl), rfl⟩ (q_nil))
def qxX9_meetingCount : CX := (qkX9_meetingCount, layM, qfX9, qaX9_meetingCount, qcX9, qlX9, qmX9, (some .int), false, none, 0, none, fun _ => none)
theorem qzX9_meetingCount (l : Launch) : am_sta l qxX9_meetingCount RX9 15 cX9_meetingCount := ⟨qkX9_meetingCount_ok, layM_ok, qfX9_ok, qcX9_ok, qlX9_ok, am_mthP qmX9_ok (by decide), fun k e1 h => (qyX9_meetingCount l k e1 h).1⟩
def qsX9_meetingCount : SP := fun as F A K => match as with
  | [.inr (.inr o), .inl c, .inl e] => cond (Nat.beq o 25) ((fgOK (mF A) ∧ (-2147483648 ≤ c ∧ c < 2147483648) ∧ (-2147483648 ≤ e ∧ e < 2147483648)) ∧ (∀ (G_1 : FF) (B_1 : AA), (qdP F G_1 A B_1 ∧ G_1 25 0 = (if (0 ≤ c ∧ c < mF A 0) ∧ 0 ≤ e ∧ e < mF A 0 then 0 else 1)) → (K (some (some (vI (if (0 ≤ c ∧ c < mF A 0) ∧ 0 ≤ e ∧ e < mF A 0 then gnX (mF A) c e else 0)))) G_1 B_1))) (False)
  | _ => False
def qeX9_meetingCount : CE := (yX9_meetingCount, cX9_meetingCount, 3, (some .int), 2, some 9, 0, [], 0, 15, qsX9_meetingCount)
theorem qbX9_meetingCount : am_mb qeX9_meetingCount := ⟨am_tb_at 1975 (by decide +kernel) rfl, am_tb_at 124 (by decide +kernel) rfl, ⟨by decide, by decide, by decide +kernel⟩, by decide, by decide, am_tb_at 1973 (by decide +kernel) rfl, am_tb_at 1974 (by decide +kernel) rfl, _, _, rfl⟩
set_option maxRecDepth 20000 in
theorem qvX9_meetingCount_25 (c : Int) (e : Int) (F : FF) (A : AA) (K : KK) (h : (fgOK (mF A) ∧ (-2147483648 ≤ c ∧ c < 2147483648) ∧ (-2147483648 ≤ e ∧ e < 2147483648)) ∧ (∀ (G_1 : FF) (B_1 : AA), (qdP F G_1 A B_1 ∧ G_1 25 0 = (if (0 ≤ c ∧ c < mF A 0) ∧ 0 ≤ e ∧ e < mF A 0 then 0 else 1)) → (K (some (some (vI (if (0 ≤ c ∧ c < mF A 0) ∧ 0 ≤ e ∧ e < mF A 0 then gnX (mF A) c e else 0)))) G_1 B_1))) : am_line qxX9_meetingCount 12 [vR 25, vI c, vI e] 3 F A K := by
  show am_stp qxX9_meetingCount (am_run qxX9_meetingCount (fun _ => none) (fun _ _ _ _ _ _ => False) K 12) K 0 [some (vR 25), some (vI c), some (vI e)] [] F A 0
  obtain ⟨hp, h⟩ := h
  have p1 := hp.1
  have q1 := p1.1.1
  have q2 := p1.1.2
  have q4 := p1.2.1

  show (fgOK (mF A) ∧ (-2147483648 ≤ c ∧ c < 2147483648) ∧ (-2147483648 ≤ e ∧ e < 2147483648)) ∧ ((w32 (bi ((0 ≤ c ∧ c < mF A 0) ∧ 0 ≤ e ∧ e < mF A 0)) = w32 0 → (K (some (some (vI 0))) (upF F 25 0 (1 - bi ((0 ≤ c ∧ c < mF A 0) ∧ 0 ≤ e ∧ e < mF A 0))) A)) ∧ (¬ (w32 (bi ((0 ≤ c ∧ c < mF A 0) ∧ 0 ≤ e ∧ e < mF A 0)) = w32 0) → ((fgOK (mF A) ∧ (0 ≤ c ∧ c < mF A 0) ∧ (0 ≤ e ∧ e < mF A 0)) ∧ (∀ (B_1 : AA), ((∀ b i, b ≠ 32 ∧ b ≠ 33 ∧ b ≠ 38 ∧ b ≠ 39 ∧ b ≠ 40 ∧ b ≠ 41 → B_1 b i = A b i) ∧ mqH (mF A) c e (B_1 40)) → (K (some (some (vI (gnX (mF A) c e)))) (upF F 25 0 (1 - bi ((0 ≤ c ∧ c < mF A 0) ∧ 0 ≤ e ∧ e < mF A 0))) B_1)))))
  refine ⟨by exact ⟨p1, by omega, by omega⟩, ?_⟩
  refine ⟨fun c1 => ?_, fun c1 => ?_⟩
  · skip
    (try (have q3 := (p1.2.2.1 c c1.1.1 c1.1.2).1)); (try simp only [w32_0, wbi0, Classical.not_not] at c1); (try simp (disch := omega) only [fat_in, w32_0, wbi0, Classical.not_not, w32_id] at c1)
    first
    | exact K_eq (h _ _ ⟨qdP_F (by decide), by rw [upF_s, bi_f c1, if_neg c1]; rfl⟩) (if_neg c1)
    | exact K_eq (h _ _ ⟨qdP_trans (qdP_F (by decide)) (qdP_A (fun b i hb => g1.1 b i (by omega))), by rw [upF_s, bi_t c1, if_pos c1]; rfl⟩) (by rw [if_pos c1])
  · skip
    (try (have q3 := (p1.2.2.1 c c1.1.1 c1.1.2).1)); (try simp only [w32_0, wbi0, Classical.not_not] at c1); (try simp (disch := omega) only [fat_in, w32_0, wbi0, Classical.not_not, w32_id] at c1)
    refine ⟨by first | exact ⟨p1, c1.1, c1.2⟩ | exact bi_01 | omega, ?_⟩
    intro B_1 g1
    first
    | exact K_eq (h _ _ ⟨qdP_F (by decide), by rw [upF_s, bi_f c1, if_neg c1]; rfl⟩) (if_neg c1)
    | exact K_eq (h _ _ ⟨qdP_trans (qdP_F (by decide)) (qdP_A (fun b i hb => g1.1 b i (by omega))), by rw [upF_s, bi_t c1, if_pos c1]; rfl⟩) (by rw [if_pos c1])
theorem qtX9_meetingCount (l : Launch) : am_CT l layM qeX9_meetingCount := am_met0 rfl (by decide +kernel) rfl rfl rfl rfl rfl (fun _ => rfl) rfl (qzX9_meetingCount l) (fun k e1 h => (qyX9_meetingCount l k e1 h).2) (fun as F A K h => by
  replace h : qsX9_meetingCount as F A K := h
  unfold qsX9_meetingCount at h
  split at h
  · rename_i o c e
    refine ⟨by first | exact Nat.le_of_ble_eq_true rfl | simp [am_fl, am_cat], ?_⟩
    replace h := am_cond2 h
    rcases h with ⟨hb, h⟩ | h
    · skip
      have hb0 := hb
      have hb0 := am_bq hb0
      subst hb0
      exact am_way_line (qvX9_meetingCount_25 c e F A K h)
    exact h.elim
  · exact h.elim)
def qkX9_meetingOf : Nat → Option CI := fun pc => cond (Nat.ble 69 pc) none (cond (Nat.ble 35 pc) (cond (Nat.ble 56 pc) (cond (Nat.ble 64 pc) (cond (Nat.ble 66 pc) (cond (Nat.beq pc 66) (some (.iconst 1, 67, [])) (cond (Nat.beq pc 67) (some (.isub, 68, [])) (cond (Nat.beq pc 68) (some (.ireturn, 69, [])) (none)))) (cond (Nat.beq pc 64) (some (.iadd, 65, [])) (cond (Nat.beq pc 65) (some (.iaload, 66, [])) (none)))) (cond (Nat.ble 60 pc) (cond (Nat.beq pc 60) (some (.iload_n 3, 61, [])) (cond (Nat.beq pc 61) (some (.imul, 62, [])) (cond (Nat.beq pc 62) (some (.iload 4, 64, [])) (none)))) (cond (Nat.beq pc 56) (some (.aload_n 0, 57, [])) (cond (Nat.beq pc 57) (some (.invokevirtual 176, 60, [])) (none))))) (cond (Nat.ble 47 pc) (cond (Nat.ble 51 pc) (cond (Nat.beq pc 51) (some (.ireturn, 52, [])) (cond (Nat.beq pc 52) (some (.aload_n 0, 53, [])) (cond (Nat.beq pc 53) (some (.getfield 54, 56, [])) (none)))) (cond (Nat.beq pc 47) (some (.if_icmp .lt 5, 50, [52])) (cond (Nat.beq pc 50) (some (.iconst (-1), 51, [])) (none)))) (cond (Nat.ble 41 pc) (cond (Nat.beq pc 41) (some (.iload 4, 43, [])) (cond (Nat.beq pc 43) (some (.aload_n 0, 44, [])) (cond (Nat.beq pc 44) (some (.invokevirtual 176, 47, [])) (none)))) (cond (Nat.beq pc 35) (some (.invokevirtual 176, 38, [])) (cond (Nat.beq pc 38) (some (.if_icmp .ge 12, 41, [50])) (none)))))) (cond (Nat.ble 14 pc) (cond (Nat.ble 25 pc) (cond (Nat.ble 30 pc) (cond (Nat.beq pc 30) (some (.ifCond .lt 20, 33, [50])) (cond (Nat.beq pc 33) (some (.iload_n 3, 34, [])) (cond (Nat.beq pc 34) (some (.aload_n 0, 35, [])) (none)))) (cond (Nat.beq pc 25) (some (.ifCond .lt 25, 28, [50])) (cond (Nat.beq pc 28) (some (.iload 4, 30, [])) (none)))) (cond (Nat.ble 19 pc) (cond (Nat.beq pc 19) (some (.iload 5, 21, [])) (cond (Nat.beq pc 21) (some (.ifCond .eq 29, 24, [50])) (cond (Nat.beq pc 24) (some (.iload_n 3, 25, [])) (none)))) (cond (Nat.beq pc 14) (some (.invokevirtual 391, 17, [])) (cond (Nat.beq pc 17) (some (.istore 5, 19, [])) (none))))) (cond (Nat.ble 9 pc) (cond (Nat.ble 11 pc) (cond (Nat.beq pc 11) (some (.aload_n 0, 12, [])) (cond (Nat.beq pc 12) (some (.iload_n 1, 13, [])) (cond (Nat.beq pc 13) (some (.iload_n 2, 14, [])) (none)))) (cond (Nat.beq pc 9) (some (.iconst 0, 10, [])) (cond (Nat.beq pc 10) (some (.ireturn, 11, [])) (none)))) (cond (Nat.ble 2 pc) (cond (Nat.beq pc 2) (some (.iload_n 2, 3, [])) (cond (Nat.beq pc 3) (some (.invokevirtual 385, 6, [])) (cond (Nat.beq pc 6) (some (.ifCond .ne 5, 9, [11])) (none)))) (cond (Nat.beq pc 0) (some (.aload_n 0, 1, [])) (cond (Nat.beq pc 1) (some (.iload_n 1, 2, [])) (none)))))))
theorem qkX9_meetingOf_ok : ∀ pc i nx ts, qkX9_meetingOf pc = some (i, nx, ts) → am_cok cX9_meetingOf pc (i, nx, ts) = true := fun pc i nx ts h => am_tok_ok (n := 69) (by decide +kernel) (fun pc h => by show cond (Nat.ble 69 pc) _ _ = _; rw [Nat.ble_eq_true_of_le h]; rfl) h
def qaX9_meetingOf : Nat → Option CE := fun k => cond (Nat.beq k 385) (some qeX9_areTwo) (cond (Nat.beq k 391) (some qeX9_laysMeetings) (cond (Nat.beq k 176) (some qeX9_across) (none)))
theorem qyX9_meetingOf (l : Launch) : ∀ k e1, qaX9_meetingOf k = some e1 → am_cal l layM RX9 15 k e1 ∧ ceT e1 = 0 := q_cons ⟨am_calV (ci := 9) (qtX9_areTwo l) qbX9_areTwo (by decide) rfl (am_tb_at 1929 (by decide +kernel) rfl), rfl⟩ (q_cons ⟨am_calV (ci := 9) (qtX9_laysMeetings l) qbX9_laysMeetings (by decide) rfl (am_tb_at 1976 (by decide +kernel) rfl), rfl⟩ (q_cons ⟨am_calV (ci := 9) (qtX9_across l) qbX9_across (by decide) rfl (am_tb_at 1933 (by decide +kernel) rfl), rfl⟩ (q_nil)))
def qxX9_meetingOf : CX := (qkX9_meetingOf, layM, qfX9, qaX9_meetingOf, qcX9, qlX9, qmX9, (some .int), false, none, 0, none, fun _ => none)
theorem qzX9_meetingOf (l : Launch) : am_sta l qxX9_meetingOf RX9 15 cX9_meetingOf := ⟨qkX9_meetingOf_ok, layM_ok, qfX9_ok, qcX9_ok, qlX9_ok, am_mthP qmX9_ok (by decide), fun k e1 h => (qyX9_meetingOf l k e1 h).1⟩
def qsX9_meetingOf : SP := fun as F A K => match as with
  | [.inr (.inr o), .inl c, .inl e, .inl q, .inl r] => cond (Nat.beq o 25) ((fgOK (mF A) ∧ (-2147483648 ≤ c ∧ c < 2147483648) ∧ (-2147483648 ≤ e ∧ e < 2147483648) ∧ (-2147483648 ≤ q ∧ q < 2147483648) ∧ (-2147483648 ≤ r ∧ r < 2147483648)) ∧ (∀ (G_1 : FF) (B_1 : AA), (qdP F G_1 A B_1 ∧ G_1 25 0 = (if (0 ≤ c ∧ c < mF A 0) ∧ 0 ≤ e ∧ e < mF A 0 then 0 else 1)) → (K (some (some (vI (if (0 ≤ c ∧ c < mF A 0) ∧ 0 ≤ e ∧ e < mF A 0 then mtA (gmX (mF A) c e) (p2 (mF A 3)) q r else 0)))) G_1 B_1))) (False)
  | _ => False
def qeX9_meetingOf : CE := (yX9_meetingOf, cX9_meetingOf, 6, (some .int), 4, some 9, 0, [], 0, 15, qsX9_meetingOf)
theorem qbX9_meetingOf : am_mb qeX9_meetingOf := ⟨am_tb_at 1987 (by decide +kernel) rfl, am_tb_at 124 (by decide +kernel) rfl, ⟨by decide, by decide, by decide +kernel⟩, by decide, by decide, am_tb_at 1985 (by decide +kernel) rfl, am_tb_at 1986 (by decide +kernel) rfl, _, _, rfl⟩
set_option maxRecDepth 20000 in
theorem qvX9_meetingOf_25 (c : Int) (e : Int) (q : Int) (r : Int) (F : FF) (A : AA) (K : KK) (h : (fgOK (mF A) ∧ (-2147483648 ≤ c ∧ c < 2147483648) ∧ (-2147483648 ≤ e ∧ e < 2147483648) ∧ (-2147483648 ≤ q ∧ q < 2147483648) ∧ (-2147483648 ≤ r ∧ r < 2147483648)) ∧ (∀ (G_1 : FF) (B_1 : AA), (qdP F G_1 A B_1 ∧ G_1 25 0 = (if (0 ≤ c ∧ c < mF A 0) ∧ 0 ≤ e ∧ e < mF A 0 then 0 else 1)) → (K (some (some (vI (if (0 ≤ c ∧ c < mF A 0) ∧ 0 ≤ e ∧ e < mF A 0 then mtA (gmX (mF A) c e) (p2 (mF A 3)) q r else 0)))) G_1 B_1))) : am_line qxX9_meetingOf 37 [vR 25, vI c, vI e, vI q, vI r] 6 F A K := by
  show am_stp qxX9_meetingOf (am_run qxX9_meetingOf (fun _ => none) (fun _ _ _ _ _ _ => False) K 37) K 0 [some (vR 25), some (vI c), some (vI e), some (vI q), some (vI r), none] [] F A 0
  obtain ⟨hp, h⟩ := h
  have p1 := hp.1
  have q1 := p1.1.1
  have q2 := p1.1.2
  have q4 := p1.2.1

  show (fgOK (mF A) ∧ (-2147483648 ≤ c ∧ c < 2147483648) ∧ (-2147483648 ≤ e ∧ e < 2147483648)) ∧ ((w32 (bi ((0 ≤ c ∧ c < mF A 0) ∧ 0 ≤ e ∧ e < mF A 0)) = w32 0 → (K (some (some (vI 0))) (upF F 25 0 (1 - bi ((0 ≤ c ∧ c < mF A 0) ∧ 0 ≤ e ∧ e < mF A 0))) A)) ∧ (¬ (w32 (bi ((0 ≤ c ∧ c < mF A 0) ∧ 0 ≤ e ∧ e < mF A 0)) = w32 0) → ((fgOK (mF A) ∧ (0 ≤ c ∧ c < mF A 0) ∧ (0 ≤ e ∧ e < mF A 0)) ∧ (∀ (B_1 : AA), ((∀ b i, b ≠ 32 ∧ b ≠ 33 ∧ b ≠ 38 ∧ b ≠ 39 ∧ b ≠ 40 ∧ b ≠ 41 → B_1 b i = A b i) ∧ mqH (mF A) c e (B_1 40)) → ((w32 (gnX (mF A) c e) = w32 0 → (K (some (some (vI (-1)))) (upF F 25 0 (1 - bi ((0 ≤ c ∧ c < mF A 0) ∧ 0 ≤ e ∧ e < mF A 0))) B_1)) ∧ (¬ w32 (gnX (mF A) c e) = w32 0 → ((w32 q < w32 0 → (K (some (some (vI (-1)))) (upF F 25 0 (1 - bi ((0 ≤ c ∧ c < mF A 0) ∧ 0 ≤ e ∧ e < mF A 0))) B_1)) ∧ (¬ w32 q < w32 0 → ((w32 r < w32 0 → (K (some (some (vI (-1)))) (upF F 25 0 (1 - bi ((0 ≤ c ∧ c < mF A 0) ∧ 0 ≤ e ∧ e < mF A 0))) B_1)) ∧ (¬ w32 r < w32 0 → ((True) ∧ ((w32 q < w32 (x_shl 1 (mF B_1 (2 + 1))) → ((True) ∧ ((w32 r < w32 (x_shl 1 (mF B_1 (2 + 1))) → ((True) ∧ ((0 ≤ w32 (((x_shl 1 (mF B_1 (2 + 1))) * q) + r) ∧ w32 (((x_shl 1 (mF B_1 (2 + 1))) * q) + r) < 4096) ∧ (K (some (some (vI ((B_1 40 (w32 (((x_shl 1 (mF B_1 (2 + 1))) * q) + r))) - 1)))) (upF F 25 0 (1 - bi ((0 ≤ c ∧ c < mF A 0) ∧ 0 ≤ e ∧ e < mF A 0))) B_1)))) ∧ (¬ w32 r < w32 (x_shl 1 (mF B_1 (2 + 1))) → (K (some (some (vI (-1)))) (upF F 25 0 (1 - bi ((0 ≤ c ∧ c < mF A 0) ∧ 0 ≤ e ∧ e < mF A 0))) B_1))))) ∧ (¬ w32 q < w32 (x_shl 1 (mF B_1 (2 + 1))) → (K (some (some (vI (-1)))) (upF F 25 0 (1 - bi ((0 ≤ c ∧ c < mF A 0) ∧ 0 ≤ e ∧ e < mF A 0))) B_1))))))))))))))
  refine ⟨by exact ⟨p1, by omega, by omega⟩, ?_⟩
  refine ⟨fun c1 => ?_, fun c1 => ?_⟩
  · skip
    (try rw [el] at c1); (try simp only [w32_0, wbi0, Classical.not_not] at c1); (try simp (disch := omega) only [w32_id] at c1)
    first
    | exact K_eq (h _ _ ⟨qdP_F (by decide), by rw [upF_s, bi_f c1, if_neg c1]; rfl⟩) (if_neg c1)
    | (refine K_eq (h _ _ ⟨qdP_trans (qdP_F (by decide)) (qdP_A (fun b i hb => g1.1 b i (by omega))), by rw [upF_s, bi_t c1, if_pos c1]; rfl⟩) ?_; rw [if_pos c1, mt_neg (fun i => by have := gm_lt (f := mF A) (c := c) (e := e) i; omega)]; done)
    | (refine K_eq (h _ _ ⟨qdP_trans (qdP_F (by decide)) (qdP_A (fun b i hb => g1.1 b i (by omega))), by rw [upF_s, bi_t c1, if_pos c1]; rfl⟩) ?_; rw [if_pos c1, mt_out (by omega)]; done)
    | (refine K_eq (h _ _ ⟨qdP_trans (qdP_F (by decide)) (qdP_A (fun b i hb => g1.1 b i (by omega))), by rw [upF_s, bi_t c1, if_pos c1]; rfl⟩) ?_; rw [if_pos c1, ← mt_in (by omega), g1.2 _ ix.1 ix.2]; done)
  · skip
    (try rw [el] at c1); (try simp only [w32_0, wbi0, Classical.not_not] at c1); (try simp (disch := omega) only [w32_id] at c1)
    refine ⟨by first | exact ⟨p1, c1.1, c1.2⟩ | exact bi_01 | omega | trivial, ?_⟩
    intro B_1 g1
    have q4 := p1.2.1.2
    have sb := sq_b q4.1 q4.2
    have ef := frm_f g1.1
    have gnb := gnX_b (c := c) (e := e) p1
    have el : x_shl 1 (mF B_1 (2 + 1)) = p2 (mF A 3) := by rw [ef]; exact x_shl1 (by show 0 ≤ mF A 3; omega) (by show mF A 3 ≤ 12; omega)
    rw [el]
    refine ⟨fun c2 => ?_, fun c2 => ?_⟩
    · skip
      (try rw [el] at c2); (try simp only [w32_0, wbi0, Classical.not_not] at c2); (try simp (disch := omega) only [w32_id] at c2)
      first
      | exact K_eq (h _ _ ⟨qdP_F (by decide), by rw [upF_s, bi_f c1, if_neg c1]; rfl⟩) (if_neg c1)
      | (refine K_eq (h _ _ ⟨qdP_trans (qdP_F (by decide)) (qdP_A (fun b i hb => g1.1 b i (by omega))), by rw [upF_s, bi_t c1, if_pos c1]; rfl⟩) ?_; rw [if_pos c1, mt_neg (fun i => by have := gm_lt (f := mF A) (c := c) (e := e) i; omega)]; done)
      | (refine K_eq (h _ _ ⟨qdP_trans (qdP_F (by decide)) (qdP_A (fun b i hb => g1.1 b i (by omega))), by rw [upF_s, bi_t c1, if_pos c1]; rfl⟩) ?_; rw [if_pos c1, mt_out (by omega)]; done)
      | (refine K_eq (h _ _ ⟨qdP_trans (qdP_F (by decide)) (qdP_A (fun b i hb => g1.1 b i (by omega))), by rw [upF_s, bi_t c1, if_pos c1]; rfl⟩) ?_; rw [if_pos c1, ← mt_in (by omega), g1.2 _ ix.1 ix.2]; done)
    · skip
      (try rw [el] at c2); (try simp only [w32_0, wbi0, Classical.not_not] at c2); (try simp (disch := omega) only [w32_id] at c2)
      refine ⟨fun c3 => ?_, fun c3 => ?_⟩
      · skip
        (try rw [el] at c3); (try simp only [w32_0, wbi0, Classical.not_not] at c3); (try simp (disch := omega) only [w32_id] at c3)
        first
        | exact K_eq (h _ _ ⟨qdP_F (by decide), by rw [upF_s, bi_f c1, if_neg c1]; rfl⟩) (if_neg c1)
        | (refine K_eq (h _ _ ⟨qdP_trans (qdP_F (by decide)) (qdP_A (fun b i hb => g1.1 b i (by omega))), by rw [upF_s, bi_t c1, if_pos c1]; rfl⟩) ?_; rw [if_pos c1, mt_neg (fun i => by have := gm_lt (f := mF A) (c := c) (e := e) i; omega)]; done)
        | (refine K_eq (h _ _ ⟨qdP_trans (qdP_F (by decide)) (qdP_A (fun b i hb => g1.1 b i (by omega))), by rw [upF_s, bi_t c1, if_pos c1]; rfl⟩) ?_; rw [if_pos c1, mt_out (by omega)]; done)
        | (refine K_eq (h _ _ ⟨qdP_trans (qdP_F (by decide)) (qdP_A (fun b i hb => g1.1 b i (by omega))), by rw [upF_s, bi_t c1, if_pos c1]; rfl⟩) ?_; rw [if_pos c1, ← mt_in (by omega), g1.2 _ ix.1 ix.2]; done)
      · skip
        (try rw [el] at c3); (try simp only [w32_0, wbi0, Classical.not_not] at c3); (try simp (disch := omega) only [w32_id] at c3)
        refine ⟨fun c4 => ?_, fun c4 => ?_⟩
        · skip
          (try rw [el] at c4); (try simp only [w32_0, wbi0, Classical.not_not] at c4); (try simp (disch := omega) only [w32_id] at c4)
          first
          | exact K_eq (h _ _ ⟨qdP_F (by decide), by rw [upF_s, bi_f c1, if_neg c1]; rfl⟩) (if_neg c1)
          | (refine K_eq (h _ _ ⟨qdP_trans (qdP_F (by decide)) (qdP_A (fun b i hb => g1.1 b i (by omega))), by rw [upF_s, bi_t c1, if_pos c1]; rfl⟩) ?_; rw [if_pos c1, mt_neg (fun i => by have := gm_lt (f := mF A) (c := c) (e := e) i; omega)]; done)
          | (refine K_eq (h _ _ ⟨qdP_trans (qdP_F (by decide)) (qdP_A (fun b i hb => g1.1 b i (by omega))), by rw [upF_s, bi_t c1, if_pos c1]; rfl⟩) ?_; rw [if_pos c1, mt_out (by omega)]; done)
          | (refine K_eq (h _ _ ⟨qdP_trans (qdP_F (by decide)) (qdP_A (fun b i hb => g1.1 b i (by omega))), by rw [upF_s, bi_t c1, if_pos c1]; rfl⟩) ?_; rw [if_pos c1, ← mt_in (by omega), g1.2 _ ix.1 ix.2]; done)
        · skip
          (try rw [el] at c4); (try simp only [w32_0, wbi0, Classical.not_not] at c4); (try simp (disch := omega) only [w32_id] at c4)
          refine ⟨by first | exact ⟨p1, c1.1, c1.2⟩ | exact bi_01 | omega | trivial, ?_⟩
          refine ⟨fun c5 => ?_, fun c5 => ?_⟩
          · skip
            (try rw [el] at c5); (try simp only [w32_0, wbi0, Classical.not_not] at c5); (try simp (disch := omega) only [w32_id] at c5)
            refine ⟨by first | exact ⟨p1, c1.1, c1.2⟩ | exact bi_01 | omega | trivial, ?_⟩
            refine ⟨fun c6 => ?_, fun c6 => ?_⟩
            · skip
              (try rw [el] at c6); (try simp only [w32_0, wbi0, Classical.not_not] at c6); (try simp (disch := omega) only [w32_id] at c6)
              have ix := ix_b (S := p2 (mF A 3)) (i := q) (j := r) (by omega) (by omega) (by omega) (by omega)
              rw [Int.mul_comm (p2 (mF A 3)) q, w32_id (x := q * p2 (mF A 3) + r) (by omega) (by omega)]
              refine ⟨by first | exact ⟨p1, c1.1, c1.2⟩ | exact bi_01 | omega | trivial, ?_⟩
              refine ⟨by first | exact ⟨p1, c1.1, c1.2⟩ | exact bi_01 | omega | trivial, ?_⟩
              first
              | exact K_eq (h _ _ ⟨qdP_F (by decide), by rw [upF_s, bi_f c1, if_neg c1]; rfl⟩) (if_neg c1)
              | (refine K_eq (h _ _ ⟨qdP_trans (qdP_F (by decide)) (qdP_A (fun b i hb => g1.1 b i (by omega))), by rw [upF_s, bi_t c1, if_pos c1]; rfl⟩) ?_; rw [if_pos c1, mt_neg (fun i => by have := gm_lt (f := mF A) (c := c) (e := e) i; omega)]; done)
              | (refine K_eq (h _ _ ⟨qdP_trans (qdP_F (by decide)) (qdP_A (fun b i hb => g1.1 b i (by omega))), by rw [upF_s, bi_t c1, if_pos c1]; rfl⟩) ?_; rw [if_pos c1, mt_out (by omega)]; done)
              | (refine K_eq (h _ _ ⟨qdP_trans (qdP_F (by decide)) (qdP_A (fun b i hb => g1.1 b i (by omega))), by rw [upF_s, bi_t c1, if_pos c1]; rfl⟩) ?_; rw [if_pos c1, ← mt_in (by omega), g1.2 _ ix.1 ix.2]; done)
            · skip
              (try rw [el] at c6); (try simp only [w32_0, wbi0, Classical.not_not] at c6); (try simp (disch := omega) only [w32_id] at c6)
              first
              | exact K_eq (h _ _ ⟨qdP_F (by decide), by rw [upF_s, bi_f c1, if_neg c1]; rfl⟩) (if_neg c1)
              | (refine K_eq (h _ _ ⟨qdP_trans (qdP_F (by decide)) (qdP_A (fun b i hb => g1.1 b i (by omega))), by rw [upF_s, bi_t c1, if_pos c1]; rfl⟩) ?_; rw [if_pos c1, mt_neg (fun i => by have := gm_lt (f := mF A) (c := c) (e := e) i; omega)]; done)
              | (refine K_eq (h _ _ ⟨qdP_trans (qdP_F (by decide)) (qdP_A (fun b i hb => g1.1 b i (by omega))), by rw [upF_s, bi_t c1, if_pos c1]; rfl⟩) ?_; rw [if_pos c1, mt_out (by omega)]; done)
              | (refine K_eq (h _ _ ⟨qdP_trans (qdP_F (by decide)) (qdP_A (fun b i hb => g1.1 b i (by omega))), by rw [upF_s, bi_t c1, if_pos c1]; rfl⟩) ?_; rw [if_pos c1, ← mt_in (by omega), g1.2 _ ix.1 ix.2]; done)
          · skip
            (try rw [el] at c5); (try simp only [w32_0, wbi0, Classical.not_not] at c5); (try simp (disch := omega) only [w32_id] at c5)
            first
            | exact K_eq (h _ _ ⟨qdP_F (by decide), by rw [upF_s, bi_f c1, if_neg c1]; rfl⟩) (if_neg c1)
            | (refine K_eq (h _ _ ⟨qdP_trans (qdP_F (by decide)) (qdP_A (fun b i hb => g1.1 b i (by omega))), by rw [upF_s, bi_t c1, if_pos c1]; rfl⟩) ?_; rw [if_pos c1, mt_neg (fun i => by have := gm_lt (f := mF A) (c := c) (e := e) i; omega)]; done)
            | (refine K_eq (h _ _ ⟨qdP_trans (qdP_F (by decide)) (qdP_A (fun b i hb => g1.1 b i (by omega))), by rw [upF_s, bi_t c1, if_pos c1]; rfl⟩) ?_; rw [if_pos c1, mt_out (by omega)]; done)
            | (refine K_eq (h _ _ ⟨qdP_trans (qdP_F (by decide)) (qdP_A (fun b i hb => g1.1 b i (by omega))), by rw [upF_s, bi_t c1, if_pos c1]; rfl⟩) ?_; rw [if_pos c1, ← mt_in (by omega), g1.2 _ ix.1 ix.2]; done)
theorem qtX9_meetingOf (l : Launch) : am_CT l layM qeX9_meetingOf := am_met0 rfl (by decide +kernel) rfl rfl rfl rfl rfl (fun _ => rfl) rfl (qzX9_meetingOf l) (fun k e1 h => (qyX9_meetingOf l k e1 h).2) (fun as F A K h => by
  replace h : qsX9_meetingOf as F A K := h
  unfold qsX9_meetingOf at h
  split at h
  · rename_i o c e q r
    refine ⟨by first | exact Nat.le_of_ble_eq_true rfl | simp [am_fl, am_cat], ?_⟩
    replace h := am_cond2 h
    rcases h with ⟨hb, h⟩ | h
    · skip
      have hb0 := hb
      have hb0 := am_bq hb0
      subst hb0
      exact am_way_line (qvX9_meetingOf_25 c e q r F A K h)
    exact h.elim
  · exact h.elim)
def qkX9_meetingNumber : Nat → Option CI := fun pc => cond (Nat.ble 166 pc) none (cond (Nat.ble 76 pc) (cond (Nat.ble 117 pc) (cond (Nat.ble 143 pc) (cond (Nat.ble 154 pc) (cond (Nat.ble 160 pc) (cond (Nat.beq pc 160) (some (.goto 5, 163, [165])) (cond (Nat.beq pc 163) (some (.iload 7, 165, [])) (cond (Nat.beq pc 165) (some (.ireturn, 166, [])) (none)))) (cond (Nat.beq pc 154) (some (.irem, 155, [])) (cond (Nat.beq pc 155) (some (.ifCond .ne 8, 158, [163])) (cond (Nat.beq pc 158) (some (.iload 6, 160, [])) (none))))) (cond (Nat.ble 148 pc) (cond (Nat.beq pc 148) (some (.goto 17, 151, [165])) (cond (Nat.beq pc 151) (some (.iload 4, 153, [])) (cond (Nat.beq pc 153) (some (.iconst 2, 154, [])) (none)))) (cond (Nat.beq pc 143) (some (.if_icmp .ne 8, 146, [151])) (cond (Nat.beq pc 146) (some (.iload 8, 148, [])) (none))))) (cond (Nat.ble 129 pc) (cond (Nat.ble 137 pc) (cond (Nat.beq pc 137) (some (.goto (-79), 140, [58])) (cond (Nat.beq pc 140) (some (.iload 4, 142, [])) (cond (Nat.beq pc 142) (some (.iconst 4, 143, [])) (none)))) (cond (Nat.beq pc 129) (some (.istore 7, 131, [])) (cond (Nat.beq pc 131) (some (.iinc 8 1, 134, [])) (cond (Nat.beq pc 134) (some (.iinc 9 1, 137, [])) (none))))) (cond (Nat.ble 122 pc) (cond (Nat.beq pc 122) (some (.iload 7, 124, [])) (cond (Nat.beq pc 124) (some (.iload 10, 126, [])) (cond (Nat.beq pc 126) (some (.invokestatic 376, 129, [])) (none)))) (cond (Nat.beq pc 117) (some (.invokestatic 371, 120, [])) (cond (Nat.beq pc 120) (some (.istore 6, 122, [])) (none)))))) (cond (Nat.ble 96 pc) (cond (Nat.ble 106 pc) (cond (Nat.ble 111 pc) (cond (Nat.beq pc 111) (some (.istore 10, 113, [])) (cond (Nat.beq pc 113) (some (.iload 6, 115, [])) (cond (Nat.beq pc 115) (some (.iload 10, 117, [])) (none)))) (cond (Nat.beq pc 106) (some (.aload_n 0, 107, [])) (cond (Nat.beq pc 107) (some (.invokevirtual 176, 110, [])) (cond (Nat.beq pc 110) (some (.irem, 111, [])) (none))))) (cond (Nat.ble 100 pc) (cond (Nat.beq pc 100) (some (.idiv, 101, [])) (cond (Nat.beq pc 101) (some (.goto 10, 104, [111])) (cond (Nat.beq pc 104) (some (.iload 9, 106, [])) (none)))) (cond (Nat.beq pc 96) (some (.aload_n 0, 97, [])) (cond (Nat.beq pc 97) (some (.invokevirtual 176, 100, [])) (none))))) (cond (Nat.ble 82 pc) (cond (Nat.ble 90 pc) (cond (Nat.beq pc 90) (some (.iconst 2, 91, [])) (cond (Nat.beq pc 91) (some (.if_icmp .ge 13, 94, [104])) (cond (Nat.beq pc 94) (some (.iload 9, 96, [])) (none)))) (cond (Nat.beq pc 82) (some (.if_icmp .eq 6, 85, [88])) (cond (Nat.beq pc 85) (some (.goto 49, 88, [134])) (cond (Nat.beq pc 88) (some (.iload 4, 90, [])) (none))))) (cond (Nat.ble 79 pc) (cond (Nat.beq pc 79) (some (.iload_n 3, 80, [])) (cond (Nat.beq pc 80) (some (.iconst 1, 81, [])) (cond (Nat.beq pc 81) (some (.iadd, 82, [])) (none)))) (cond (Nat.beq pc 76) (some (.iload 9, 78, [])) (cond (Nat.beq pc 78) (some (.iaload, 79, [])) (none))))))) (cond (Nat.ble 36 pc) (cond (Nat.ble 55 pc) (cond (Nat.ble 64 pc) (cond (Nat.ble 69 pc) (cond (Nat.beq pc 69) (some (.if_icmp .ge 71, 72, [140])) (cond (Nat.beq pc 72) (some (.aload_n 0, 73, [])) (cond (Nat.beq pc 73) (some (.getfield 54, 76, [])) (none)))) (cond (Nat.beq pc 64) (some (.aload_n 0, 65, [])) (cond (Nat.beq pc 65) (some (.invokevirtual 176, 68, [])) (cond (Nat.beq pc 68) (some (.imul, 69, [])) (none))))) (cond (Nat.ble 58 pc) (cond (Nat.beq pc 58) (some (.iload 9, 60, [])) (cond (Nat.beq pc 60) (some (.aload_n 0, 61, [])) (cond (Nat.beq pc 61) (some (.invokevirtual 176, 64, [])) (none)))) (cond (Nat.beq pc 55) (some (.iconst 0, 56, [])) (cond (Nat.beq pc 56) (some (.istore 9, 58, [])) (none))))) (cond (Nat.ble 45 pc) (cond (Nat.ble 50 pc) (cond (Nat.beq pc 50) (some (.istore 7, 52, [])) (cond (Nat.beq pc 52) (some (.iconst 0, 53, [])) (cond (Nat.beq pc 53) (some (.istore 8, 55, [])) (none)))) (cond (Nat.beq pc 45) (some (.ldc 220, 47, [])) (cond (Nat.beq pc 47) (some (.istore 6, 49, [])) (cond (Nat.beq pc 49) (some (.iconst (-1), 50, [])) (none))))) (cond (Nat.ble 39 pc) (cond (Nat.beq pc 39) (some (.if_icmp .le 6, 42, [45])) (cond (Nat.beq pc 42) (some (.bipush (-2), 44, [])) (cond (Nat.beq pc 44) (some (.ireturn, 45, [])) (none)))) (cond (Nat.beq pc 36) (some (.iload 4, 38, [])) (cond (Nat.beq pc 38) (some (.iconst 4, 39, [])) (none)))))) (cond (Nat.ble 14 pc) (cond (Nat.ble 24 pc) (cond (Nat.ble 30 pc) (cond (Nat.beq pc 30) (some (.ireturn, 31, [])) (cond (Nat.beq pc 31) (some (.iload 4, 33, [])) (cond (Nat.beq pc 33) (some (.ifCond .lt 9, 36, [42])) (none)))) (cond (Nat.beq pc 24) (some (.iload 5, 26, [])) (cond (Nat.beq pc 26) (some (.if_icmp .lt 5, 29, [31])) (cond (Nat.beq pc 29) (some (.iconst (-1), 30, [])) (none))))) (cond (Nat.ble 19 pc) (cond (Nat.beq pc 19) (some (.iload_n 3, 20, [])) (cond (Nat.beq pc 20) (some (.ifCond .lt 9, 23, [29])) (cond (Nat.beq pc 23) (some (.iload_n 3, 24, [])) (none)))) (cond (Nat.beq pc 14) (some (.invokevirtual 391, 17, [])) (cond (Nat.beq pc 17) (some (.istore 5, 19, [])) (none))))) (cond (Nat.ble 9 pc) (cond (Nat.ble 11 pc) (cond (Nat.beq pc 11) (some (.aload_n 0, 12, [])) (cond (Nat.beq pc 12) (some (.iload_n 1, 13, [])) (cond (Nat.beq pc 13) (some (.iload_n 2, 14, [])) (none)))) (cond (Nat.beq pc 9) (some (.iconst 0, 10, [])) (cond (Nat.beq pc 10) (some (.ireturn, 11, [])) (none)))) (cond (Nat.ble 2 pc) (cond (Nat.beq pc 2) (some (.iload_n 2, 3, [])) (cond (Nat.beq pc 3) (some (.invokevirtual 385, 6, [])) (cond (Nat.beq pc 6) (some (.ifCond .ne 5, 9, [11])) (none)))) (cond (Nat.beq pc 0) (some (.aload_n 0, 1, [])) (cond (Nat.beq pc 1) (some (.iload_n 1, 2, [])) (none))))))))
theorem qkX9_meetingNumber_ok : ∀ pc i nx ts, qkX9_meetingNumber pc = some (i, nx, ts) → am_cok cX9_meetingNumber pc (i, nx, ts) = true := fun pc i nx ts h => am_tok_ok (n := 166) (by decide +kernel) (fun pc h => by show cond (Nat.ble 166 pc) _ _ = _; rw [Nat.ble_eq_true_of_le h]; rfl) h
def qaX9_meetingNumber : Nat → Option CE := fun k => cond (Nat.beq k 385) (some qeX9_areTwo) (cond (Nat.beq k 391) (some qeX9_laysMeetings) (cond (Nat.beq k 176) (some qeX9_across) (none)))
theorem qyX9_meetingNumber (l : Launch) : ∀ k e1, qaX9_meetingNumber k = some e1 → am_cal l layM RX9 15 k e1 ∧ ceT e1 = 0 := q_cons ⟨am_calV (ci := 9) (qtX9_areTwo l) qbX9_areTwo (by decide) rfl (am_tb_at 1929 (by decide +kernel) rfl), rfl⟩ (q_cons ⟨am_calV (ci := 9) (qtX9_laysMeetings l) qbX9_laysMeetings (by decide) rfl (am_tb_at 1976 (by decide +kernel) rfl), rfl⟩ (q_cons ⟨am_calV (ci := 9) (qtX9_across l) qbX9_across (by decide) rfl (am_tb_at 1933 (by decide +kernel) rfl), rfl⟩ (q_nil)))
def qxX9_meetingNumber : CX := (qkX9_meetingNumber, layM, qfX9, qaX9_meetingNumber, qcX9, qlX9, qmX9, (some .int), false, none, 0, none, fun _ => none)
theorem qzX9_meetingNumber (l : Launch) : am_sta l qxX9_meetingNumber RX9 15 cX9_meetingNumber := ⟨qkX9_meetingNumber_ok, layM_ok, qfX9_ok, qcX9_ok, qlX9_ok, am_mthP qmX9_ok (by decide), fun k e1 h => (qyX9_meetingNumber l k e1 h).1⟩
def qsX9_meetingNumber : SP := fun as F A K => match as with
  | [.inr (.inr o), .inl c, .inl e, .inl m, .inl w] => cond (Nat.beq o 25) ((fgOK (mF A) ∧ (-2147483648 ≤ c ∧ c < 2147483648) ∧ (-2147483648 ≤ e ∧ e < 2147483648) ∧ (-2147483648 ≤ m ∧ m < 2147483648) ∧ (-2147483648 ≤ w ∧ w < 2147483648)) ∧ (∀ (G_1 : FF) (B_1 : AA), (qdP F G_1 A B_1 ∧ G_1 25 0 = (if (0 ≤ c ∧ c < mF A 0) ∧ 0 ≤ e ∧ e < mF A 0 then 0 else 1)) → (K (some (some (vI (if (0 ≤ c ∧ c < mF A 0) ∧ 0 ≤ e ∧ e < mF A 0 then (if 0 ≤ m ∧ m < gnX (mF A) c e then (if 0 ≤ w ∧ w ≤ 4 then mvR (gmX (mF A) c e) m (p2 (mF A 3)) w else -2) else -1) else 0)))) G_1 B_1))) (False)
  | _ => False
def qeX9_meetingNumber : CE := (yX9_meetingNumber, cX9_meetingNumber, 11, (some .int), 4, some 9, 0, [], 0, 15, qsX9_meetingNumber)
theorem qbX9_meetingNumber : am_mb qeX9_meetingNumber := ⟨am_tb_at 1991 (by decide +kernel) rfl, am_tb_at 124 (by decide +kernel) rfl, ⟨by decide, by decide, by decide +kernel⟩, by decide, by decide, am_tb_at 1989 (by decide +kernel) rfl, am_tb_at 1990 (by decide +kernel) rfl, _, _, rfl⟩
def qnX9_meetingNumber_25 : CUT := fun pc => cond (Nat.beq pc 58) (some [true, true, true, true, true, true, true, true, true, true, false]) (none)
def qiX9_meetingNumber_25 (c : Int) (e : Int) (m : Int) (w : Int) (F0 : FF) (A0 : AA) : REC := fun pc ls st F A u => cond (Nat.beq pc 58) (match ls, st, u with
    | [some (.inr (.inr s0)), some (.inl s1), some (.inl s2), some (.inl s3), some (.inl s4), some (.inl nn), some (.inl x), some (.inl y), some (.inl n), some (.inl k), none], [], 0 => s0 = 25 ∧ s1 = c ∧ s2 = e ∧ s3 = m ∧ s4 = w ∧ (((0 ≤ c ∧ c < mF A0 0) ∧ 0 ≤ e ∧ e < mF A0 0) ∧ (0 ≤ m ∧ m < gnX (mF A0) c e) ∧ (0 ≤ w ∧ w ≤ 4) ∧ (0 ≤ k ∧ k ≤ p2 (mF A0 3) * p2 (mF A0 3)) ∧ x = mvL (gmX (mF A0) c e) m (p2 (mF A0 3)) w 100000 (Int.toNat k) ∧ y = mvG (gmX (mF A0) c e) m (p2 (mF A0 3)) w (-1) (Int.toNat k) ∧ n = cntK (gmX (mF A0) c e) m (Int.toNat k) ∧ (qdP F0 F A0 A ∧ F 25 0 = 0) ∧ mqH (mF A0) c e (A 40))
    | _, _, _ => False) (False)
def quX9_meetingNumber_25 : Nat → LVs → List AV → FF → AA → Nat := fun pc ls _ F A => cond (Nat.beq pc 58) (match ls with
    | [some (.inr (.inr s0)), some (.inl s1), some (.inl s2), some (.inl s3), some (.inl s4), some (.inl nn), some (.inl x), some (.inl y), some (.inl n), some (.inl k), none] => Int.toNat (5000 - k)
    | _ => 0) (0)
set_option maxRecDepth 20000 in
theorem qvX9_meetingNumber_25_0 (c : Int) (e : Int) (m : Int) (w : Int) (F0 : FF) (A0 : AA) (K : KK) (h : (fgOK (mF A0) ∧ (-2147483648 ≤ c ∧ c < 2147483648) ∧ (-2147483648 ≤ e ∧ e < 2147483648) ∧ (-2147483648 ≤ m ∧ m < 2147483648) ∧ (-2147483648 ≤ w ∧ w < 2147483648)) ∧ (∀ (G_1 : FF) (B_1 : AA), (qdP F0 G_1 A0 B_1 ∧ G_1 25 0 = (if (0 ≤ c ∧ c < mF A0 0) ∧ 0 ≤ e ∧ e < mF A0 0 then 0 else 1)) → (K (some (some (vI (if (0 ≤ c ∧ c < mF A0 0) ∧ 0 ≤ e ∧ e < mF A0 0 then (if 0 ≤ m ∧ m < gnX (mF A0) c e then (if 0 ≤ w ∧ w ≤ 4 then mvR (gmX (mF A0) c e) m (p2 (mF A0 3)) w else -2) else -1) else 0)))) G_1 B_1))) : am_stp qxX9_meetingNumber (am_run qxX9_meetingNumber qnX9_meetingNumber_25 (qiX9_meetingNumber_25 c e m w F0 A0) K 38) K 0 (am_ent [vR 25, vI c, vI e, vI m, vI w] 11) [] F0 A0 0 := by
  show am_stp qxX9_meetingNumber (am_run qxX9_meetingNumber qnX9_meetingNumber_25 (qiX9_meetingNumber_25 c e m w F0 A0) K 38) K 0 [some (vR 25), some (vI c), some (vI e), some (vI m), some (vI w), none, none, none, none, none, none] [] F0 A0 0
  obtain ⟨hp, h⟩ := h
  have p1 := hp.1
  have q4 := p1.2.1.2
  have sb := sq_b q4.1 q4.2
  show (fgOK (mF A0) ∧ (-2147483648 ≤ c ∧ c < 2147483648) ∧ (-2147483648 ≤ e ∧ e < 2147483648)) ∧ ((w32 (bi ((0 ≤ c ∧ c < mF A0 0) ∧ 0 ≤ e ∧ e < mF A0 0)) = w32 0 → (K (some (some (vI 0))) (upF F0 25 0 (1 - bi ((0 ≤ c ∧ c < mF A0 0) ∧ 0 ≤ e ∧ e < mF A0 0))) A0)) ∧ (¬ (w32 (bi ((0 ≤ c ∧ c < mF A0 0) ∧ 0 ≤ e ∧ e < mF A0 0)) = w32 0) → ((fgOK (mF A0) ∧ (0 ≤ c ∧ c < mF A0 0) ∧ (0 ≤ e ∧ e < mF A0 0)) ∧ (∀ (B_1 : AA), ((∀ b i, b ≠ 32 ∧ b ≠ 33 ∧ b ≠ 38 ∧ b ≠ 39 ∧ b ≠ 40 ∧ b ≠ 41 → B_1 b i = A0 b i) ∧ mqH (mF A0) c e (B_1 40)) → ((w32 m < w32 0 → (K (some (some (vI (-1)))) (upF F0 25 0 (1 - bi ((0 ≤ c ∧ c < mF A0 0) ∧ 0 ≤ e ∧ e < mF A0 0))) B_1)) ∧ (¬ w32 m < w32 0 → ((w32 m < w32 (gnX (mF A0) c e) → ((w32 w < w32 0 → (K (some (some (vI (-2)))) (upF F0 25 0 (1 - bi ((0 ≤ c ∧ c < mF A0 0) ∧ 0 ≤ e ∧ e < mF A0 0))) B_1)) ∧ (¬ w32 w < w32 0 → ((w32 4 < w32 w → (K (some (some (vI (-2)))) (upF F0 25 0 (1 - bi ((0 ≤ c ∧ c < mF A0 0) ∧ 0 ≤ e ∧ e < mF A0 0))) B_1)) ∧ (¬ w32 4 < w32 w → (25 = 25 ∧ c = c ∧ e = e ∧ m = m ∧ w = w ∧ (((0 ≤ c ∧ c < mF A0 0) ∧ 0 ≤ e ∧ e < mF A0 0) ∧ (0 ≤ m ∧ m < gnX (mF A0) c e) ∧ (0 ≤ w ∧ w ≤ 4) ∧ (0 ≤ 0 ∧ 0 ≤ p2 (mF A0 3) * p2 (mF A0 3)) ∧ 100000 = mvL (gmX (mF A0) c e) m (p2 (mF A0 3)) w 100000 (Int.toNat 0) ∧ (-1) = mvG (gmX (mF A0) c e) m (p2 (mF A0 3)) w (-1) (Int.toNat 0) ∧ 0 = cntK (gmX (mF A0) c e) m (Int.toNat 0) ∧ (qdP F0 (upF F0 25 0 (1 - bi ((0 ≤ c ∧ c < mF A0 0) ∧ 0 ≤ e ∧ e < mF A0 0))) A0 B_1 ∧ (upF F0 25 0 (1 - bi ((0 ≤ c ∧ c < mF A0 0) ∧ 0 ≤ e ∧ e < mF A0 0))) 25 0 = 0) ∧ mqH (mF A0) c e (B_1 40)))))))) ∧ (¬ w32 m < w32 (gnX (mF A0) c e) → (K (some (some (vI (-1)))) (upF F0 25 0 (1 - bi ((0 ≤ c ∧ c < mF A0 0) ∧ 0 ≤ e ∧ e < mF A0 0))) B_1)))))))))
  refine ⟨by first | exact ⟨p1, by omega, by omega⟩ | exact ⟨p1, c1.1, c1.2⟩ | omega, ?_⟩
  refine ⟨fun c1 => ?_, fun c1 => ?_⟩
  · skip
    (try simp only [w32_0, wbi0, Classical.not_not] at c1); (try (have gnb := gnX_b (c := c) (e := e) p1; simp (disch := omega) only [w32_id] at c1))
    first
    | exact K_eq (h _ _ ⟨qdP_F (by decide), by rw [upF_s, bi_f c1, if_neg c1]; rfl⟩) (if_neg c1)
    | (refine K_eq (h _ _ ⟨qdP_trans (qdP_F (by decide)) (qdP_A (fun b i hb => g1.1 b i (by omega))), by rw [upF_s, bi_t c1, if_pos c1]; rfl⟩) ?_; rw [if_pos c1, if_neg (by omega)]; done)
    | (refine K_eq (h _ _ ⟨qdP_trans (qdP_F (by decide)) (qdP_A (fun b i hb => g1.1 b i (by omega))), by rw [upF_s, bi_t c1, if_pos c1]; rfl⟩) ?_; rw [if_pos c1, if_pos (by omega), if_neg (by omega)]; done)
  · skip
    (try simp only [w32_0, wbi0, Classical.not_not] at c1); (try (have gnb := gnX_b (c := c) (e := e) p1; simp (disch := omega) only [w32_id] at c1))
    refine ⟨by first | exact ⟨p1, by omega, by omega⟩ | exact ⟨p1, c1.1, c1.2⟩ | omega, ?_⟩
    intro B_1 g1
    refine ⟨fun c2 => ?_, fun c2 => ?_⟩
    · skip
      (try simp only [w32_0, wbi0, Classical.not_not] at c2); (try (have gnb := gnX_b (c := c) (e := e) p1; simp (disch := omega) only [w32_id] at c2))
      first
      | exact K_eq (h _ _ ⟨qdP_F (by decide), by rw [upF_s, bi_f c1, if_neg c1]; rfl⟩) (if_neg c1)
      | (refine K_eq (h _ _ ⟨qdP_trans (qdP_F (by decide)) (qdP_A (fun b i hb => g1.1 b i (by omega))), by rw [upF_s, bi_t c1, if_pos c1]; rfl⟩) ?_; rw [if_pos c1, if_neg (by omega)]; done)
      | (refine K_eq (h _ _ ⟨qdP_trans (qdP_F (by decide)) (qdP_A (fun b i hb => g1.1 b i (by omega))), by rw [upF_s, bi_t c1, if_pos c1]; rfl⟩) ?_; rw [if_pos c1, if_pos (by omega), if_neg (by omega)]; done)
    · skip
      (try simp only [w32_0, wbi0, Classical.not_not] at c2); (try (have gnb := gnX_b (c := c) (e := e) p1; simp (disch := omega) only [w32_id] at c2))
      refine ⟨fun c3 => ?_, fun c3 => ?_⟩
      · skip
        (try simp only [w32_0, wbi0, Classical.not_not] at c3); (try (have gnb := gnX_b (c := c) (e := e) p1; simp (disch := omega) only [w32_id] at c3))
        refine ⟨fun c4 => ?_, fun c4 => ?_⟩
        · skip
          (try simp only [w32_0, wbi0, Classical.not_not] at c4); (try (have gnb := gnX_b (c := c) (e := e) p1; simp (disch := omega) only [w32_id] at c4))
          first
          | exact K_eq (h _ _ ⟨qdP_F (by decide), by rw [upF_s, bi_f c1, if_neg c1]; rfl⟩) (if_neg c1)
          | (refine K_eq (h _ _ ⟨qdP_trans (qdP_F (by decide)) (qdP_A (fun b i hb => g1.1 b i (by omega))), by rw [upF_s, bi_t c1, if_pos c1]; rfl⟩) ?_; rw [if_pos c1, if_neg (by omega)]; done)
          | (refine K_eq (h _ _ ⟨qdP_trans (qdP_F (by decide)) (qdP_A (fun b i hb => g1.1 b i (by omega))), by rw [upF_s, bi_t c1, if_pos c1]; rfl⟩) ?_; rw [if_pos c1, if_pos (by omega), if_neg (by omega)]; done)
        · skip
          (try simp only [w32_0, wbi0, Classical.not_not] at c4); (try (have gnb := gnX_b (c := c) (e := e) p1; simp (disch := omega) only [w32_id] at c4))
          refine ⟨fun c5 => ?_, fun c5 => ?_⟩
          · skip
            (try simp only [w32_0, wbi0, Classical.not_not] at c5); (try (have gnb := gnX_b (c := c) (e := e) p1; simp (disch := omega) only [w32_id] at c5))
            first
            | exact K_eq (h _ _ ⟨qdP_F (by decide), by rw [upF_s, bi_f c1, if_neg c1]; rfl⟩) (if_neg c1)
            | (refine K_eq (h _ _ ⟨qdP_trans (qdP_F (by decide)) (qdP_A (fun b i hb => g1.1 b i (by omega))), by rw [upF_s, bi_t c1, if_pos c1]; rfl⟩) ?_; rw [if_pos c1, if_neg (by omega)]; done)
            | (refine K_eq (h _ _ ⟨qdP_trans (qdP_F (by decide)) (qdP_A (fun b i hb => g1.1 b i (by omega))), by rw [upF_s, bi_t c1, if_pos c1]; rfl⟩) ?_; rw [if_pos c1, if_pos (by omega), if_neg (by omega)]; done)
          · skip
            (try simp only [w32_0, wbi0, Classical.not_not] at c5); (try (have gnb := gnX_b (c := c) (e := e) p1; simp (disch := omega) only [w32_id] at c5))
            refine ⟨rfl, rfl, rfl, rfl, rfl, ?_⟩
            exact ⟨c1, by omega, by omega, by omega, rfl, rfl, rfl, ⟨qdP_trans (qdP_F (by decide)) (qdP_A (fun b i hb => g1.1 b i (by omega))), by rw [upF_s, bi_t c1]; rfl⟩, g1.2⟩
      · skip
        (try simp only [w32_0, wbi0, Classical.not_not] at c3); (try (have gnb := gnX_b (c := c) (e := e) p1; simp (disch := omega) only [w32_id] at c3))
        first
        | exact K_eq (h _ _ ⟨qdP_F (by decide), by rw [upF_s, bi_f c1, if_neg c1]; rfl⟩) (if_neg c1)
        | (refine K_eq (h _ _ ⟨qdP_trans (qdP_F (by decide)) (qdP_A (fun b i hb => g1.1 b i (by omega))), by rw [upF_s, bi_t c1, if_pos c1]; rfl⟩) ?_; rw [if_pos c1, if_neg (by omega)]; done)
        | (refine K_eq (h _ _ ⟨qdP_trans (qdP_F (by decide)) (qdP_A (fun b i hb => g1.1 b i (by omega))), by rw [upF_s, bi_t c1, if_pos c1]; rfl⟩) ?_; rw [if_pos c1, if_pos (by omega), if_neg (by omega)]; done)
set_option maxRecDepth 20000 in
theorem qvX9_meetingNumber_25_58 (c : Int) (e : Int) (m : Int) (w : Int) (F0 : FF) (A0 : AA) (K : KK) (h : (fgOK (mF A0) ∧ (-2147483648 ≤ c ∧ c < 2147483648) ∧ (-2147483648 ≤ e ∧ e < 2147483648) ∧ (-2147483648 ≤ m ∧ m < 2147483648) ∧ (-2147483648 ≤ w ∧ w < 2147483648)) ∧ (∀ (G_1 : FF) (B_1 : AA), (qdP F0 G_1 A0 B_1 ∧ G_1 25 0 = (if (0 ≤ c ∧ c < mF A0 0) ∧ 0 ≤ e ∧ e < mF A0 0 then 0 else 1)) → (K (some (some (vI (if (0 ≤ c ∧ c < mF A0 0) ∧ 0 ≤ e ∧ e < mF A0 0 then (if 0 ≤ m ∧ m < gnX (mF A0) c e then (if 0 ≤ w ∧ w ≤ 4 then mvR (gmX (mF A0) c e) m (p2 (mF A0 3)) w else -2) else -1) else 0)))) G_1 B_1))) (nn : Int) (x : Int) (y : Int) (n : Int) (k : Int) (F : FF) (A : AA) (hi : ((0 ≤ c ∧ c < mF A0 0) ∧ 0 ≤ e ∧ e < mF A0 0) ∧ (0 ≤ m ∧ m < gnX (mF A0) c e) ∧ (0 ≤ w ∧ w ≤ 4) ∧ (0 ≤ k ∧ k ≤ p2 (mF A0 3) * p2 (mF A0 3)) ∧ x = mvL (gmX (mF A0) c e) m (p2 (mF A0 3)) w 100000 (Int.toNat k) ∧ y = mvG (gmX (mF A0) c e) m (p2 (mF A0 3)) w (-1) (Int.toNat k) ∧ n = cntK (gmX (mF A0) c e) m (Int.toNat k) ∧ (qdP F0 F A0 A ∧ F 25 0 = 0) ∧ mqH (mF A0) c e (A 40)) : am_stp qxX9_meetingNumber (am_run qxX9_meetingNumber qnX9_meetingNumber_25 (fun pc ls st F9 A9 u => qiX9_meetingNumber_25 c e m w F0 A0 pc ls st F9 A9 u ∧ quX9_meetingNumber_25 pc ls st F9 A9 < quX9_meetingNumber_25 58 [some (vR 25), some (vI c), some (vI e), some (vI m), some (vI w), some (vI nn), some (vI x), some (vI y), some (vI n), some (vI k), none] [] F A) K 38) K 58 [some (vR 25), some (vI c), some (vI e), some (vI m), some (vI w), some (vI nn), some (vI x), some (vI y), some (vI n), some (vI k), none] [] F A 0 := by
  obtain ⟨hp, h⟩ := h
  have p1 := hp.1
  have q4 := p1.2.1.2
  have sb := sq_b q4.1 q4.2
  obtain ⟨h1, h2, h3, h4, h5, h6, h7, ⟨hQ, hT⟩, hM⟩ := hi
  have eF := qdP_f hQ
  have el : x_shl 1 (mF A (2 + 1)) = p2 (mF A0 3) := by rw [eF]; exact x_shl1 (by show 0 ≤ mF A0 3; omega) (by show mF A0 3 ≤ 12; omega)
  have gnb := gnX_b (c := c) (e := e) p1
  have bL := (mvL_2 (g := gmX (mF A0) c e) (m := m) (w := w) sb.1 (Int.toNat k) (by omega)).2.1
  have bG := mvG_b (g := gmX (mF A0) c e) (m := m) (w := w) sb.1 (Int.toNat k) (by omega)
  have bC := cntK_b (gmX (mF A0) c e) m (Int.toNat k)
  have rm : x_rem w 2 = w % 2 := x_rem_eq (by omega) (by omega) (by omega) (by omega)
  show (True) ∧ ((True) ∧ ((w32 k < w32 ((x_shl 1 (mF A (2 + 1))) * (x_shl 1 (mF A (2 + 1)))) → ((0 ≤ w32 k ∧ w32 k < 4096) ∧ ((w32 (A 40 (w32 k)) = w32 (m + 1) → ((w32 w < w32 2 → ((True) ∧ ((w32 (x_shl 1 (mF A (2 + 1))) ≠ 0) ∧ ((25 = 25 ∧ c = c ∧ e = e ∧ m = m ∧ w = w ∧ (((0 ≤ c ∧ c < mF A0 0) ∧ 0 ≤ e ∧ e < mF A0 0) ∧ (0 ≤ m ∧ m < gnX (mF A0) c e) ∧ (0 ≤ w ∧ w ≤ 4) ∧ (0 ≤ (k + 1) ∧ (k + 1) ≤ p2 (mF A0 3) * p2 (mF A0 3)) ∧ (x_min x (x_div k (x_shl 1 (mF A (2 + 1))))) = mvL (gmX (mF A0) c e) m (p2 (mF A0 3)) w 100000 (Int.toNat (k + 1)) ∧ (x_max y (x_div k (x_shl 1 (mF A (2 + 1))))) = mvG (gmX (mF A0) c e) m (p2 (mF A0 3)) w (-1) (Int.toNat (k + 1)) ∧ (n + 1) = cntK (gmX (mF A0) c e) m (Int.toNat (k + 1)) ∧ (qdP F0 F A0 A ∧ F 25 0 = 0) ∧ mqH (mF A0) c e (A 40))) ∧ (Int.toNat (5000 - (k + 1))) < (Int.toNat (5000 - k)))))) ∧ (¬ w32 w < w32 2 → ((True) ∧ ((w32 (x_shl 1 (mF A (2 + 1))) ≠ 0) ∧ ((25 = 25 ∧ c = c ∧ e = e ∧ m = m ∧ w = w ∧ (((0 ≤ c ∧ c < mF A0 0) ∧ 0 ≤ e ∧ e < mF A0 0) ∧ (0 ≤ m ∧ m < gnX (mF A0) c e) ∧ (0 ≤ w ∧ w ≤ 4) ∧ (0 ≤ (k + 1) ∧ (k + 1) ≤ p2 (mF A0 3) * p2 (mF A0 3)) ∧ (x_min x (x_rem k (x_shl 1 (mF A (2 + 1))))) = mvL (gmX (mF A0) c e) m (p2 (mF A0 3)) w 100000 (Int.toNat (k + 1)) ∧ (x_max y (x_rem k (x_shl 1 (mF A (2 + 1))))) = mvG (gmX (mF A0) c e) m (p2 (mF A0 3)) w (-1) (Int.toNat (k + 1)) ∧ (n + 1) = cntK (gmX (mF A0) c e) m (Int.toNat (k + 1)) ∧ (qdP F0 F A0 A ∧ F 25 0 = 0) ∧ mqH (mF A0) c e (A 40))) ∧ (Int.toNat (5000 - (k + 1))) < (Int.toNat (5000 - k)))))))) ∧ (¬ w32 (A 40 (w32 k)) = w32 (m + 1) → ((25 = 25 ∧ c = c ∧ e = e ∧ m = m ∧ w = w ∧ (((0 ≤ c ∧ c < mF A0 0) ∧ 0 ≤ e ∧ e < mF A0 0) ∧ (0 ≤ m ∧ m < gnX (mF A0) c e) ∧ (0 ≤ w ∧ w ≤ 4) ∧ (0 ≤ (k + 1) ∧ (k + 1) ≤ p2 (mF A0 3) * p2 (mF A0 3)) ∧ x = mvL (gmX (mF A0) c e) m (p2 (mF A0 3)) w 100000 (Int.toNat (k + 1)) ∧ y = mvG (gmX (mF A0) c e) m (p2 (mF A0 3)) w (-1) (Int.toNat (k + 1)) ∧ n = cntK (gmX (mF A0) c e) m (Int.toNat (k + 1)) ∧ (qdP F0 F A0 A ∧ F 25 0 = 0) ∧ mqH (mF A0) c e (A 40))) ∧ (Int.toNat (5000 - (k + 1))) < (Int.toNat (5000 - k))))))) ∧ (¬ w32 k < w32 ((x_shl 1 (mF A (2 + 1))) * (x_shl 1 (mF A (2 + 1)))) → ((w32 w = w32 4 → (K (some (some (vI n))) F A)) ∧ (¬ w32 w = w32 4 → ((w32 2 ≠ 0) ∧ ((w32 (x_rem w 2) = w32 0 → (K (some (some (vI x))) F A)) ∧ (¬ w32 (x_rem w 2) = w32 0 → (K (some (some (vI y))) F A)))))))))
  refine ⟨by first | trivial | decide | omega | (rw [w32_id (by omega) (by omega)]; omega) | (rw [el, w32_id (by omega) (by omega)]; omega), ?_⟩
  refine ⟨by first | trivial | decide | omega | (rw [w32_id (by omega) (by omega)]; omega) | (rw [el, w32_id (by omega) (by omega)]; omega), ?_⟩
  refine ⟨fun c1 => ?_, fun c1 => ?_⟩
  · skip
    (try rw [rm] at c1); (try rw [el] at c1); (try rw [w32_id (x := k) (by omega) (by omega)] at c1); (try simp only [w32_0] at c1); (try (have mk := hM k (by omega) (by omega); have gl := gm_lt (f := mF A0) (c := c) (e := e) k; rw [w32_id (x := A 40 k) (by rw [mk]; split <;> omega) (by rw [mk]; split <;> omega), w32_id (x := m + 1) (by omega) (by omega), mq_m mk h2.1] at c1)); (try simp (disch := omega) only [w32_id] at c1)
    have eL := mvL_s (g := gmX (mF A0) c e) (m := m) (S := p2 (mF A0 3)) (w := w) (z := 100000) h4.1
    have eG := mvG_s (g := gmX (mF A0) c e) (m := m) (S := p2 (mF A0 3)) (w := w) (z := -1) h4.1
    have eC := cntK_s (g := gmX (mF A0) c e) (k := m) h4.1
    rw [← h5] at eL
    rw [← h6] at eG
    rw [← h7] at eC
    have xd := x_div_eq (a := k) (b := p2 (mF A0 3)) h4.1 (by omega) (by omega) (by omega)
    have xm := x_rem_eq (a := k) (b := p2 (mF A0 3)) h4.1 (by omega) (by omega) (by omega)
    rw [el]
    refine ⟨by first | trivial | decide | omega | (rw [w32_id (by omega) (by omega)]; omega) | (rw [el, w32_id (by omega) (by omega)]; omega), ?_⟩
    refine ⟨fun c2 => ?_, fun c2 => ?_⟩
    · skip
      (try rw [rm] at c2); (try rw [el] at c2); (try rw [w32_id (x := k) (by omega) (by omega)] at c2); (try simp only [w32_0] at c2); (try (have mk := hM k (by omega) (by omega); have gl := gm_lt (f := mF A0) (c := c) (e := e) k; rw [w32_id (x := A 40 k) (by rw [mk]; split <;> omega) (by rw [mk]; split <;> omega), w32_id (x := m + 1) (by omega) (by omega), mq_m mk h2.1] at c2)); (try simp (disch := omega) only [w32_id] at c2)
      refine ⟨fun c3 => ?_, fun c3 => ?_⟩
      · skip
        (try rw [rm] at c3); (try rw [el] at c3); (try rw [w32_id (x := k) (by omega) (by omega)] at c3); (try simp only [w32_0] at c3); (try (have mk := hM k (by omega) (by omega); have gl := gm_lt (f := mF A0) (c := c) (e := e) k; rw [w32_id (x := A 40 k) (by rw [mk]; split <;> omega) (by rw [mk]; split <;> omega), w32_id (x := m + 1) (by omega) (by omega), mq_m mk h2.1] at c3)); (try simp (disch := omega) only [w32_id] at c3)
        refine ⟨by first | trivial | decide | omega | (rw [w32_id (by omega) (by omega)]; omega) | (rw [el, w32_id (by omega) (by omega)]; omega), ?_⟩
        refine ⟨by first | trivial | decide | omega | (rw [w32_id (by omega) (by omega)]; omega) | (rw [el, w32_id (by omega) (by omega)]; omega), ?_⟩
        refine ⟨⟨rfl, rfl, rfl, rfl, rfl, ?_⟩, by omega⟩
        first
        | (rw [if_neg (by assumption)] at eL eG eC
           exact ⟨h1, h2, h3, by omega, eL.symm, eG.symm, eC.symm, ⟨hQ, hT⟩, hM⟩)
        | (rw [if_pos (by assumption)] at eL eG eC
           have mc : mvC (p2 (mF A0 3)) w k = if w < 2 then k / p2 (mF A0 3) else k % p2 (mF A0 3) := rfl
           first
           | (rw [if_pos (by omega), ← xd] at mc; rw [mc] at eL eG; exact ⟨h1, h2, h3, by omega, eL.symm, eG.symm, eC.symm, ⟨hQ, hT⟩, hM⟩)
           | (rw [if_neg (by omega), ← xm] at mc; rw [mc] at eL eG; exact ⟨h1, h2, h3, by omega, eL.symm, eG.symm, eC.symm, ⟨hQ, hT⟩, hM⟩))
      · skip
        (try rw [rm] at c3); (try rw [el] at c3); (try rw [w32_id (x := k) (by omega) (by omega)] at c3); (try simp only [w32_0] at c3); (try (have mk := hM k (by omega) (by omega); have gl := gm_lt (f := mF A0) (c := c) (e := e) k; rw [w32_id (x := A 40 k) (by rw [mk]; split <;> omega) (by rw [mk]; split <;> omega), w32_id (x := m + 1) (by omega) (by omega), mq_m mk h2.1] at c3)); (try simp (disch := omega) only [w32_id] at c3)
        refine ⟨by first | trivial | decide | omega | (rw [w32_id (by omega) (by omega)]; omega) | (rw [el, w32_id (by omega) (by omega)]; omega), ?_⟩
        refine ⟨by first | trivial | decide | omega | (rw [w32_id (by omega) (by omega)]; omega) | (rw [el, w32_id (by omega) (by omega)]; omega), ?_⟩
        refine ⟨⟨rfl, rfl, rfl, rfl, rfl, ?_⟩, by omega⟩
        first
        | (rw [if_neg (by assumption)] at eL eG eC
           exact ⟨h1, h2, h3, by omega, eL.symm, eG.symm, eC.symm, ⟨hQ, hT⟩, hM⟩)
        | (rw [if_pos (by assumption)] at eL eG eC
           have mc : mvC (p2 (mF A0 3)) w k = if w < 2 then k / p2 (mF A0 3) else k % p2 (mF A0 3) := rfl
           first
           | (rw [if_pos (by omega), ← xd] at mc; rw [mc] at eL eG; exact ⟨h1, h2, h3, by omega, eL.symm, eG.symm, eC.symm, ⟨hQ, hT⟩, hM⟩)
           | (rw [if_neg (by omega), ← xm] at mc; rw [mc] at eL eG; exact ⟨h1, h2, h3, by omega, eL.symm, eG.symm, eC.symm, ⟨hQ, hT⟩, hM⟩))
    · skip
      (try rw [rm] at c2); (try rw [el] at c2); (try rw [w32_id (x := k) (by omega) (by omega)] at c2); (try simp only [w32_0] at c2); (try (have mk := hM k (by omega) (by omega); have gl := gm_lt (f := mF A0) (c := c) (e := e) k; rw [w32_id (x := A 40 k) (by rw [mk]; split <;> omega) (by rw [mk]; split <;> omega), w32_id (x := m + 1) (by omega) (by omega), mq_m mk h2.1] at c2)); (try simp (disch := omega) only [w32_id] at c2)
      refine ⟨⟨rfl, rfl, rfl, rfl, rfl, ?_⟩, by omega⟩
      first
      | (rw [if_neg (by assumption)] at eL eG eC
         exact ⟨h1, h2, h3, by omega, eL.symm, eG.symm, eC.symm, ⟨hQ, hT⟩, hM⟩)
      | (rw [if_pos (by assumption)] at eL eG eC
         have mc : mvC (p2 (mF A0 3)) w k = if w < 2 then k / p2 (mF A0 3) else k % p2 (mF A0 3) := rfl
         first
         | (rw [if_pos (by omega), ← xd] at mc; rw [mc] at eL eG; exact ⟨h1, h2, h3, by omega, eL.symm, eG.symm, eC.symm, ⟨hQ, hT⟩, hM⟩)
         | (rw [if_neg (by omega), ← xm] at mc; rw [mc] at eL eG; exact ⟨h1, h2, h3, by omega, eL.symm, eG.symm, eC.symm, ⟨hQ, hT⟩, hM⟩))
  · skip
    (try rw [rm] at c1); (try rw [el] at c1); (try rw [w32_id (x := k) (by omega) (by omega)] at c1); (try simp only [w32_0] at c1); (try (have mk := hM k (by omega) (by omega); have gl := gm_lt (f := mF A0) (c := c) (e := e) k; rw [w32_id (x := A 40 k) (by rw [mk]; split <;> omega) (by rw [mk]; split <;> omega), w32_id (x := m + 1) (by omega) (by omega), mq_m mk h2.1] at c1)); (try simp (disch := omega) only [w32_id] at c1)
    refine ⟨fun c2 => ?_, fun c2 => ?_⟩
    · skip
      (try rw [rm] at c2); (try rw [el] at c2); (try rw [w32_id (x := k) (by omega) (by omega)] at c2); (try simp only [w32_0] at c2); (try (have mk := hM k (by omega) (by omega); have gl := gm_lt (f := mF A0) (c := c) (e := e) k; rw [w32_id (x := A 40 k) (by rw [mk]; split <;> omega) (by rw [mk]; split <;> omega), w32_id (x := m + 1) (by omega) (by omega), mq_m mk h2.1] at c2)); (try simp (disch := omega) only [w32_id] at c2)
      have ek : k = p2 (mF A0 3) * p2 (mF A0 3) := by omega
      subst ek
      have L2 := (mvL_2 (g := gmX (mF A0) c e) (m := m) (w := w) sb.1 (Int.toNat (p2 (mF A0 3) * p2 (mF A0 3))) (by omega)).2.2.1 (gm_ex p1 h2.1 h2.2)
      refine K_eq (h _ _ ⟨hQ, by rw [hT, if_pos h1]⟩) ?_
      rw [if_pos h1, if_pos h2, if_pos h3]
      unfold mvR
      first
      | (rw [if_pos (show w = 4 by omega), h7]; done)
      | (rw [if_neg (show ¬ w = 4 by omega), if_pos (show w % 2 = 0 by omega), L2.1, h5]; done)
      | (rw [if_neg (show ¬ w = 4 by omega), if_neg (show ¬ w % 2 = 0 by omega), h6]; done)
    · skip
      (try rw [rm] at c2); (try rw [el] at c2); (try rw [w32_id (x := k) (by omega) (by omega)] at c2); (try simp only [w32_0] at c2); (try (have mk := hM k (by omega) (by omega); have gl := gm_lt (f := mF A0) (c := c) (e := e) k; rw [w32_id (x := A 40 k) (by rw [mk]; split <;> omega) (by rw [mk]; split <;> omega), w32_id (x := m + 1) (by omega) (by omega), mq_m mk h2.1] at c2)); (try simp (disch := omega) only [w32_id] at c2)
      refine ⟨by first | trivial | decide | omega | (rw [w32_id (by omega) (by omega)]; omega) | (rw [el, w32_id (by omega) (by omega)]; omega), ?_⟩
      refine ⟨fun c3 => ?_, fun c3 => ?_⟩
      · skip
        (try rw [rm] at c3); (try rw [el] at c3); (try rw [w32_id (x := k) (by omega) (by omega)] at c3); (try simp only [w32_0] at c3); (try (have mk := hM k (by omega) (by omega); have gl := gm_lt (f := mF A0) (c := c) (e := e) k; rw [w32_id (x := A 40 k) (by rw [mk]; split <;> omega) (by rw [mk]; split <;> omega), w32_id (x := m + 1) (by omega) (by omega), mq_m mk h2.1] at c3)); (try simp (disch := omega) only [w32_id] at c3)
        have ek : k = p2 (mF A0 3) * p2 (mF A0 3) := by omega
        subst ek
        have L2 := (mvL_2 (g := gmX (mF A0) c e) (m := m) (w := w) sb.1 (Int.toNat (p2 (mF A0 3) * p2 (mF A0 3))) (by omega)).2.2.1 (gm_ex p1 h2.1 h2.2)
        refine K_eq (h _ _ ⟨hQ, by rw [hT, if_pos h1]⟩) ?_
        rw [if_pos h1, if_pos h2, if_pos h3]
        unfold mvR
        first
        | (rw [if_pos (show w = 4 by omega), h7]; done)
        | (rw [if_neg (show ¬ w = 4 by omega), if_pos (show w % 2 = 0 by omega), L2.1, h5]; done)
        | (rw [if_neg (show ¬ w = 4 by omega), if_neg (show ¬ w % 2 = 0 by omega), h6]; done)
      · skip
        (try rw [rm] at c3); (try rw [el] at c3); (try rw [w32_id (x := k) (by omega) (by omega)] at c3); (try simp only [w32_0] at c3); (try (have mk := hM k (by omega) (by omega); have gl := gm_lt (f := mF A0) (c := c) (e := e) k; rw [w32_id (x := A 40 k) (by rw [mk]; split <;> omega) (by rw [mk]; split <;> omega), w32_id (x := m + 1) (by omega) (by omega), mq_m mk h2.1] at c3)); (try simp (disch := omega) only [w32_id] at c3)
        have ek : k = p2 (mF A0 3) * p2 (mF A0 3) := by omega
        subst ek
        have L2 := (mvL_2 (g := gmX (mF A0) c e) (m := m) (w := w) sb.1 (Int.toNat (p2 (mF A0 3) * p2 (mF A0 3))) (by omega)).2.2.1 (gm_ex p1 h2.1 h2.2)
        refine K_eq (h _ _ ⟨hQ, by rw [hT, if_pos h1]⟩) ?_
        rw [if_pos h1, if_pos h2, if_pos h3]
        unfold mvR
        first
        | (rw [if_pos (show w = 4 by omega), h7]; done)
        | (rw [if_neg (show ¬ w = 4 by omega), if_pos (show w % 2 = 0 by omega), L2.1, h5]; done)
        | (rw [if_neg (show ¬ w = 4 by omega), if_neg (show ¬ w % 2 = 0 by omega), h6]; done)
set_option maxRecDepth 20000 in
theorem qvX9_meetingNumber_25 (c : Int) (e : Int) (m : Int) (w : Int) (F0 : FF) (A0 : AA) (K : KK) (h : (fgOK (mF A0) ∧ (-2147483648 ≤ c ∧ c < 2147483648) ∧ (-2147483648 ≤ e ∧ e < 2147483648) ∧ (-2147483648 ≤ m ∧ m < 2147483648) ∧ (-2147483648 ≤ w ∧ w < 2147483648)) ∧ (∀ (G_1 : FF) (B_1 : AA), (qdP F0 G_1 A0 B_1 ∧ G_1 25 0 = (if (0 ≤ c ∧ c < mF A0 0) ∧ 0 ≤ e ∧ e < mF A0 0 then 0 else 1)) → (K (some (some (vI (if (0 ≤ c ∧ c < mF A0 0) ∧ 0 ≤ e ∧ e < mF A0 0 then (if 0 ≤ m ∧ m < gnX (mF A0) c e then (if 0 ≤ w ∧ w ≤ 4 then mvR (gmX (mF A0) c e) m (p2 (mF A0 3)) w else -2) else -1) else 0)))) G_1 B_1))) : am_body qxX9_meetingNumber qnX9_meetingNumber_25 38 (qiX9_meetingNumber_25 c e m w F0 A0) quX9_meetingNumber_25 [vR 25, vI c, vI e, vI m, vI w] 11 F0 A0 K := by
  refine ⟨qvX9_meetingNumber_25_0 c e m w F0 A0 K h, fun pc ls st F A u hI => ?_⟩
  unfold qiX9_meetingNumber_25 at hI
  replace hI := am_cond2 hI
  rcases hI with ⟨hb, hI⟩ | hI
  · have hb := am_bq hb
    subst hb
    split at hI
    · rename_i s0 s1 s2 s3 s4 nn x y n k
      obtain ⟨e0, e1, e2, e3, e4, hI⟩ := hI
      subst e0
      subst e1
      subst e2
      subst e3
      subst e4
      exact qvX9_meetingNumber_25_58 _ _ _ _ _ _ K h _ _ _ _ _ _ _ hI
    · exact hI.elim
  exact hI.elim
theorem qtX9_meetingNumber (l : Launch) : am_CT l layM qeX9_meetingNumber := am_met0 rfl (by decide +kernel) rfl rfl rfl rfl rfl (fun _ => rfl) rfl (qzX9_meetingNumber l) (fun k e1 h => (qyX9_meetingNumber l k e1 h).2) (fun as F A K h => by
  replace h : qsX9_meetingNumber as F A K := h
  unfold qsX9_meetingNumber at h
  split at h
  · rename_i o c e m w
    refine ⟨by first | exact Nat.le_of_ble_eq_true rfl | simp [am_fl, am_cat], ?_⟩
    replace h := am_cond2 h
    rcases h with ⟨hb, h⟩ | h
    · skip
      have hb0 := hb
      have hb0 := am_bq hb0
      subst hb0
      exact am_way_body (qvX9_meetingNumber_25 c e m w F A K h)
    exact h.elim
  · exact h.elim)
