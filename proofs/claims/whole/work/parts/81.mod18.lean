def qkX9_isLess : Nat → Option CI := fun pc => cond (Nat.ble 18 pc) none (cond (Nat.ble 8 pc) (cond (Nat.ble 13 pc) (cond (Nat.beq pc 13) (some (.goto 4, 16, [17])) (cond (Nat.beq pc 16) (some (.iconst 0, 17, [])) (cond (Nat.beq pc 17) (some (.ireturn, 18, [])) (none)))) (cond (Nat.beq pc 8) (some (.lcmp, 9, [])) (cond (Nat.beq pc 9) (some (.ifCond .ge 7, 12, [16])) (cond (Nat.beq pc 12) (some (.iconst 1, 13, [])) (none))))) (cond (Nat.ble 4 pc) (cond (Nat.beq pc 4) (some (.lload 4, 6, [])) (cond (Nat.beq pc 6) (some (.lload_n 2, 7, [])) (cond (Nat.beq pc 7) (some (.lmul, 8, [])) (none)))) (cond (Nat.beq pc 0) (some (.lload_n 0, 1, [])) (cond (Nat.beq pc 1) (some (.lload 6, 3, [])) (cond (Nat.beq pc 3) (some (.lmul, 4, [])) (none))))))
theorem qkX9_isLess_ok : ∀ pc i nx ts, qkX9_isLess pc = some (i, nx, ts) → am_cok cX9_isLess pc (i, nx, ts) = true := fun pc i nx ts h => am_tok_ok (n := 18) (by decide +kernel) (fun pc h => by show cond (Nat.ble 18 pc) _ _ = _; rw [Nat.ble_eq_true_of_le h]; rfl) h
def qaX9_isLess : Nat → Option CE := fun k => none
theorem qyX9_isLess (l : Launch) : ∀ k e1, qaX9_isLess k = some e1 → am_cal l layM RX9 3 k e1 ∧ ceT e1 = 0 := q_nil
def qxX9_isLess : CX := (qkX9_isLess, layM, qfX9, qaX9_isLess, qcX9, qlX9, qmX9, (some .boolean), false, none, 0, none, fun _ => none)
theorem qzX9_isLess (l : Launch) : am_sta l qxX9_isLess RX9 3 cX9_isLess := ⟨qkX9_isLess_ok, layM_ok, qfX9_ok, qcX9_ok, qlX9_ok, am_mthP qmX9_ok (by decide), fun k e1 h => (qyX9_isLess l k e1 h).1⟩
def qsX9_isLess : SP := fun as F A K => match as with
  | [.inr (.inl a), .inr (.inl u), .inr (.inl b), .inr (.inl w)] => ((-4611686018427387904 ≤ a * w ∧ a * w ≤ 4611686018427387904) ∧ (-4611686018427387904 ≤ b * u ∧ b * u ≤ 4611686018427387904)) ∧ (K (some (some (vI (bi (a * w < b * u))))) F A)
  | _ => False
def qeX9_isLess : CE := (yX9_isLess, cX9_isLess, 8, (some .boolean), 4, none, 0, [], 0, 3, qsX9_isLess)
theorem qbX9_isLess : am_mb qeX9_isLess := ⟨am_tb_at 1736 (by decide +kernel) rfl, am_tb_at 124 (by decide +kernel) rfl, ⟨by decide, by decide, by decide +kernel⟩, by decide, am_tb_at 1735 (by decide +kernel) rfl⟩
set_option maxRecDepth 20000 in
theorem qvX9_isLess (a : Int) (u : Int) (b : Int) (w : Int) (F : FF) (A : AA) (K : KK) (h : ((-4611686018427387904 ≤ a * w ∧ a * w ≤ 4611686018427387904) ∧ (-4611686018427387904 ≤ b * u ∧ b * u ≤ 4611686018427387904)) ∧ (K (some (some (vI (bi (a * w < b * u))))) F A)) : am_line qxX9_isLess 12 [vL a, vL u, vL b, vL w] 8 F A K := by
  show am_stp qxX9_isLess (am_run qxX9_isLess (fun _ => none) (fun _ _ _ _ _ _ => False) K 12) K 0 [some (vL a), none, some (vL u), none, some (vL b), none, some (vL w), none] [] F A 0
  obtain ⟨hp, h⟩ := h
  show (w32 (y_cmp (a * w) (b * u)) < w32 0 → ((1 = 0 ∨ 1 = 1) ∧ (K (some (some (vI 1))) F A))) ∧ (¬ w32 (y_cmp (a * w) (b * u)) < w32 0 → ((0 = 0 ∨ 0 = 1) ∧ (K (some (some (vI 0))) F A)))
  refine ⟨fun c1 => ?_, fun c1 => ?_⟩
  · skip
    (try simp only [w32_0, yc_lt0] at c1); (try rw [w64_id (by omega) (by omega), w64_id (by omega) (by omega)] at c1)
    refine ⟨by first | omega | (simp (disch := omega) only [w32_0, w64_0, wbi0, wbi1, yc_eq0, yc_lt0, yc_gt0, Classical.not_not, w32_id, w64_id]; omega) | (simp (disch := omega) only [w32_0, w64_0, wbi0, wbi1, yc_eq0, yc_lt0, yc_gt0, Classical.not_not, w32_id, w64_id]; done), ?_⟩
    first | exact K_eq h (bi_t c1) | exact K_eq h (bi_f c1) | exact K_eq h (bi_f (by omega))
  · skip
    (try simp only [w32_0, yc_lt0] at c1); (try rw [w64_id (by omega) (by omega), w64_id (by omega) (by omega)] at c1)
    refine ⟨by first | omega | (simp (disch := omega) only [w32_0, w64_0, wbi0, wbi1, yc_eq0, yc_lt0, yc_gt0, Classical.not_not, w32_id, w64_id]; omega) | (simp (disch := omega) only [w32_0, w64_0, wbi0, wbi1, yc_eq0, yc_lt0, yc_gt0, Classical.not_not, w32_id, w64_id]; done), ?_⟩
    first | exact K_eq h (bi_t c1) | exact K_eq h (bi_f c1) | exact K_eq h (bi_f (by omega))
theorem qtX9_isLess (l : Launch) : am_CT l layM qeX9_isLess := am_met0 rfl (by decide +kernel) rfl rfl rfl rfl rfl (fun _ => rfl) rfl (qzX9_isLess l) (fun k e1 h => (qyX9_isLess l k e1 h).2) (fun as F A K h => by
  replace h : qsX9_isLess as F A K := h
  unfold qsX9_isLess at h
  split at h
  · rename_i a u b w
    refine ⟨by first | exact Nat.le_of_ble_eq_true rfl | simp [am_fl, am_cat], ?_⟩
    exact am_way_line (qvX9_isLess a u b w F A K h)
  · exact h.elim)
def qkX9_laysBox : Nat → Option CI := fun pc => cond (Nat.ble 227 pc) none (cond (Nat.ble 116 pc) (cond (Nat.ble 174 pc) (cond (Nat.ble 198 pc) (cond (Nat.ble 209 pc) (cond (Nat.ble 218 pc) (cond (Nat.ble 220 pc) (cond (Nat.beq pc 220) (some (.iinc 3 1, 223, [])) (cond (Nat.beq pc 223) (some (.goto (-221), 226, [2])) (cond (Nat.beq pc 226) (some (.return_, 227, [])) (none)))) (cond (Nat.beq pc 218) (some (.laload, 219, [])) (cond (Nat.beq pc 219) (some (.lastore, 220, [])) (none)))) (cond (Nat.ble 213 pc) (cond (Nat.beq pc 213) (some (.bipush 8, 215, [])) (cond (Nat.beq pc 215) (some (.iload 5, 217, [])) (cond (Nat.beq pc 217) (some (.iadd, 218, [])) (none)))) (cond (Nat.beq pc 209) (some (.aload_n 0, 210, [])) (cond (Nat.beq pc 210) (some (.getfield 32, 213, [])) (none))))) (cond (Nat.ble 204 pc) (cond (Nat.ble 206 pc) (cond (Nat.beq pc 206) (some (.iload_n 3, 207, [])) (cond (Nat.beq pc 207) (some (.imul, 208, [])) (cond (Nat.beq pc 208) (some (.iadd, 209, [])) (none)))) (cond (Nat.beq pc 204) (some (.iadd, 205, [])) (cond (Nat.beq pc 205) (some (.iconst 2, 206, [])) (none)))) (cond (Nat.ble 202 pc) (cond (Nat.beq pc 202) (some (.iload_n 1, 203, [])) (cond (Nat.beq pc 203) (some (.iconst 5, 204, [])) (none))) (cond (Nat.beq pc 198) (some (.aload_n 0, 199, [])) (cond (Nat.beq pc 199) (some (.getfield 47, 202, [])) (none)))))) (cond (Nat.ble 185 pc) (cond (Nat.ble 192 pc) (cond (Nat.ble 195 pc) (cond (Nat.beq pc 195) (some (.iadd, 196, [])) (cond (Nat.beq pc 196) (some (.laload, 197, [])) (cond (Nat.beq pc 197) (some (.lastore, 198, [])) (none)))) (cond (Nat.beq pc 192) (some (.imul, 193, [])) (cond (Nat.beq pc 193) (some (.iload 5, 195, [])) (none)))) (cond (Nat.ble 187 pc) (cond (Nat.beq pc 187) (some (.getfield 32, 190, [])) (cond (Nat.beq pc 190) (some (.iconst 4, 191, [])) (cond (Nat.beq pc 191) (some (.iload_n 3, 192, [])) (none)))) (cond (Nat.beq pc 185) (some (.iadd, 186, [])) (cond (Nat.beq pc 186) (some (.aload_n 0, 187, [])) (none))))) (cond (Nat.ble 180 pc) (cond (Nat.ble 182 pc) (cond (Nat.beq pc 182) (some (.iconst 2, 183, [])) (cond (Nat.beq pc 183) (some (.iload_n 3, 184, [])) (cond (Nat.beq pc 184) (some (.imul, 185, [])) (none)))) (cond (Nat.beq pc 180) (some (.iconst 4, 181, [])) (cond (Nat.beq pc 181) (some (.iadd, 182, [])) (none)))) (cond (Nat.ble 176 pc) (cond (Nat.beq pc 176) (some (.getfield 47, 179, [])) (cond (Nat.beq pc 179) (some (.iload_n 1, 180, [])) (none))) (cond (Nat.beq pc 174) (some (.lastore, 175, [])) (cond (Nat.beq pc 175) (some (.aload_n 0, 176, [])) (none))))))) (cond (Nat.ble 148 pc) (cond (Nat.ble 160 pc) (cond (Nat.ble 165 pc) (cond (Nat.ble 170 pc) (cond (Nat.beq pc 170) (some (.iload 4, 172, [])) (cond (Nat.beq pc 172) (some (.iadd, 173, [])) (cond (Nat.beq pc 173) (some (.laload, 174, [])) (none)))) (cond (Nat.beq pc 165) (some (.getfield 32, 168, [])) (cond (Nat.beq pc 168) (some (.bipush 8, 170, [])) (none)))) (cond (Nat.ble 162 pc) (cond (Nat.beq pc 162) (some (.iconst 1, 163, [])) (cond (Nat.beq pc 163) (some (.iadd, 164, [])) (cond (Nat.beq pc 164) (some (.aload_n 0, 165, [])) (none)))) (cond (Nat.beq pc 160) (some (.imul, 161, [])) (cond (Nat.beq pc 161) (some (.iadd, 162, [])) (none))))) (cond (Nat.ble 153 pc) (cond (Nat.ble 157 pc) (cond (Nat.beq pc 157) (some (.iload_n 1, 158, [])) (cond (Nat.beq pc 158) (some (.iconst 2, 159, [])) (cond (Nat.beq pc 159) (some (.iload_n 3, 160, [])) (none)))) (cond (Nat.beq pc 153) (some (.aload_n 0, 154, [])) (cond (Nat.beq pc 154) (some (.getfield 47, 157, [])) (none)))) (cond (Nat.ble 151 pc) (cond (Nat.beq pc 151) (some (.laload, 152, [])) (cond (Nat.beq pc 152) (some (.lastore, 153, [])) (none))) (cond (Nat.beq pc 148) (some (.iload 4, 150, [])) (cond (Nat.beq pc 150) (some (.iadd, 151, [])) (none)))))) (cond (Nat.ble 137 pc) (cond (Nat.ble 141 pc) (cond (Nat.ble 145 pc) (cond (Nat.beq pc 145) (some (.iconst 4, 146, [])) (cond (Nat.beq pc 146) (some (.iload_n 3, 147, [])) (cond (Nat.beq pc 147) (some (.imul, 148, [])) (none)))) (cond (Nat.beq pc 141) (some (.aload_n 0, 142, [])) (cond (Nat.beq pc 142) (some (.getfield 32, 145, [])) (none)))) (cond (Nat.ble 139 pc) (cond (Nat.beq pc 139) (some (.imul, 140, [])) (cond (Nat.beq pc 140) (some (.iadd, 141, [])) (none))) (cond (Nat.beq pc 137) (some (.iconst 2, 138, [])) (cond (Nat.beq pc 138) (some (.iload_n 3, 139, [])) (none))))) (cond (Nat.ble 126 pc) (cond (Nat.ble 132 pc) (cond (Nat.beq pc 132) (some (.aload_n 0, 133, [])) (cond (Nat.beq pc 133) (some (.getfield 47, 136, [])) (cond (Nat.beq pc 136) (some (.iload_n 1, 137, [])) (none)))) (cond (Nat.beq pc 126) (some (.iinc 6 1, 129, [])) (cond (Nat.beq pc 129) (some (.goto (-113), 132, [16])) (none)))) (cond (Nat.ble 122 pc) (cond (Nat.beq pc 122) (some (.iload 6, 124, [])) (cond (Nat.beq pc 124) (some (.istore 5, 126, [])) (none))) (cond (Nat.beq pc 116) (some (.invokestatic 160, 119, [])) (cond (Nat.beq pc 119) (some (.ifCond .eq 7, 122, [126])) (none)))))))) (cond (Nat.ble 55 pc) (cond (Nat.ble 86 pc) (cond (Nat.ble 101 pc) (cond (Nat.ble 107 pc) (cond (Nat.ble 112 pc) (cond (Nat.beq pc 112) (some (.iload 6, 114, [])) (cond (Nat.beq pc 114) (some (.iadd, 115, [])) (cond (Nat.beq pc 115) (some (.laload, 116, [])) (none)))) (cond (Nat.beq pc 107) (some (.getfield 32, 110, [])) (cond (Nat.beq pc 110) (some (.bipush 8, 112, [])) (none)))) (cond (Nat.ble 104 pc) (cond (Nat.beq pc 104) (some (.iadd, 105, [])) (cond (Nat.beq pc 105) (some (.laload, 106, [])) (cond (Nat.beq pc 106) (some (.aload_n 0, 107, [])) (none)))) (cond (Nat.beq pc 101) (some (.imul, 102, [])) (cond (Nat.beq pc 102) (some (.iload 6, 104, [])) (none))))) (cond (Nat.ble 94 pc) (cond (Nat.ble 96 pc) (cond (Nat.beq pc 96) (some (.getfield 32, 99, [])) (cond (Nat.beq pc 99) (some (.iconst 4, 100, [])) (cond (Nat.beq pc 100) (some (.iload_n 3, 101, [])) (none)))) (cond (Nat.beq pc 94) (some (.laload, 95, [])) (cond (Nat.beq pc 95) (some (.aload_n 0, 96, [])) (none)))) (cond (Nat.ble 91 pc) (cond (Nat.beq pc 91) (some (.iload 5, 93, [])) (cond (Nat.beq pc 93) (some (.iadd, 94, [])) (none))) (cond (Nat.beq pc 86) (some (.getfield 32, 89, [])) (cond (Nat.beq pc 89) (some (.bipush 8, 91, [])) (none)))))) (cond (Nat.ble 74 pc) (cond (Nat.ble 80 pc) (cond (Nat.ble 83 pc) (cond (Nat.beq pc 83) (some (.iadd, 84, [])) (cond (Nat.beq pc 84) (some (.laload, 85, [])) (cond (Nat.beq pc 85) (some (.aload_n 0, 86, [])) (none)))) (cond (Nat.beq pc 80) (some (.imul, 81, [])) (cond (Nat.beq pc 81) (some (.iload 5, 83, [])) (none)))) (cond (Nat.ble 78 pc) (cond (Nat.beq pc 78) (some (.iconst 4, 79, [])) (cond (Nat.beq pc 79) (some (.iload_n 3, 80, [])) (none))) (cond (Nat.beq pc 74) (some (.aload_n 0, 75, [])) (cond (Nat.beq pc 75) (some (.getfield 32, 78, [])) (none))))) (cond (Nat.ble 63 pc) (cond (Nat.ble 67 pc) (cond (Nat.beq pc 67) (some (.ifCond .eq 7, 70, [74])) (cond (Nat.beq pc 70) (some (.iload 6, 72, [])) (cond (Nat.beq pc 72) (some (.istore 4, 74, [])) (none)))) (cond (Nat.beq pc 63) (some (.laload, 64, [])) (cond (Nat.beq pc 64) (some (.invokestatic 160, 67, [])) (none)))) (cond (Nat.ble 60 pc) (cond (Nat.beq pc 60) (some (.iload 4, 62, [])) (cond (Nat.beq pc 62) (some (.iadd, 63, [])) (none))) (cond (Nat.beq pc 55) (some (.getfield 32, 58, [])) (cond (Nat.beq pc 58) (some (.bipush 8, 60, [])) (none))))))) (cond (Nat.ble 28 pc) (cond (Nat.ble 42 pc) (cond (Nat.ble 49 pc) (cond (Nat.ble 52 pc) (cond (Nat.beq pc 52) (some (.iadd, 53, [])) (cond (Nat.beq pc 53) (some (.laload, 54, [])) (cond (Nat.beq pc 54) (some (.aload_n 0, 55, [])) (none)))) (cond (Nat.beq pc 49) (some (.imul, 50, [])) (cond (Nat.beq pc 50) (some (.iload 4, 52, [])) (none)))) (cond (Nat.ble 44 pc) (cond (Nat.beq pc 44) (some (.getfield 32, 47, [])) (cond (Nat.beq pc 47) (some (.iconst 4, 48, [])) (cond (Nat.beq pc 48) (some (.iload_n 3, 49, [])) (none)))) (cond (Nat.beq pc 42) (some (.laload, 43, [])) (cond (Nat.beq pc 43) (some (.aload_n 0, 44, [])) (none))))) (cond (Nat.ble 33 pc) (cond (Nat.ble 37 pc) (cond (Nat.beq pc 37) (some (.bipush 8, 39, [])) (cond (Nat.beq pc 39) (some (.iload 6, 41, [])) (cond (Nat.beq pc 41) (some (.iadd, 42, [])) (none)))) (cond (Nat.beq pc 33) (some (.aload_n 0, 34, [])) (cond (Nat.beq pc 34) (some (.getfield 32, 37, [])) (none)))) (cond (Nat.ble 31 pc) (cond (Nat.beq pc 31) (some (.iadd, 32, [])) (cond (Nat.beq pc 32) (some (.laload, 33, [])) (none))) (cond (Nat.beq pc 28) (some (.imul, 29, [])) (cond (Nat.beq pc 29) (some (.iload 6, 31, [])) (none)))))) (cond (Nat.ble 13 pc) (cond (Nat.ble 19 pc) (cond (Nat.ble 23 pc) (cond (Nat.beq pc 23) (some (.getfield 32, 26, [])) (cond (Nat.beq pc 26) (some (.iconst 4, 27, [])) (cond (Nat.beq pc 27) (some (.iload_n 3, 28, [])) (none)))) (cond (Nat.beq pc 19) (some (.if_icmp .gt 113, 22, [132])) (cond (Nat.beq pc 22) (some (.aload_n 0, 23, [])) (none)))) (cond (Nat.ble 16 pc) (cond (Nat.beq pc 16) (some (.iload 6, 18, [])) (cond (Nat.beq pc 18) (some (.iload_n 2, 19, [])) (none))) (cond (Nat.beq pc 13) (some (.iconst 1, 14, [])) (cond (Nat.beq pc 14) (some (.istore 6, 16, [])) (none))))) (cond (Nat.ble 4 pc) (cond (Nat.ble 8 pc) (cond (Nat.beq pc 8) (some (.istore 4, 10, [])) (cond (Nat.beq pc 10) (some (.iconst 0, 11, [])) (cond (Nat.beq pc 11) (some (.istore 5, 13, [])) (none)))) (cond (Nat.beq pc 4) (some (.if_icmp .ge 222, 7, [226])) (cond (Nat.beq pc 7) (some (.iconst 0, 8, [])) (none)))) (cond (Nat.ble 2 pc) (cond (Nat.beq pc 2) (some (.iload_n 3, 3, [])) (cond (Nat.beq pc 3) (some (.iconst 2, 4, [])) (none))) (cond (Nat.beq pc 0) (some (.iconst 0, 1, [])) (cond (Nat.beq pc 1) (some (.istore_n 3, 2, [])) (none)))))))))
theorem qkX9_laysBox_ok : ∀ pc i nx ts, qkX9_laysBox pc = some (i, nx, ts) → am_cok cX9_laysBox pc (i, nx, ts) = true := fun pc i nx ts h => am_tok_ok (n := 227) (by decide +kernel) (fun pc h => by show cond (Nat.ble 227 pc) _ _ = _; rw [Nat.ble_eq_true_of_le h]; rfl) h
def qaX9_laysBox : Nat → Option CE := fun k => cond (Nat.beq k 160) (some qeX9_isLess) (none)
theorem qyX9_laysBox (l : Launch) : ∀ k e1, qaX9_laysBox k = some e1 → am_cal l layM RX9 4 k e1 ∧ ceT e1 = 0 := q_cons ⟨am_calS (qtX9_isLess l) qbX9_isLess (by decide) rfl (by decide) (am_tb_at 1734 (by decide +kernel) rfl), rfl⟩ (q_nil)
def qxX9_laysBox : CX := (qkX9_laysBox, layM, qfX9, qaX9_laysBox, qcX9, qlX9, qmX9, none, false, none, 0, none, fun _ => none)
theorem qzX9_laysBox (l : Launch) : am_sta l qxX9_laysBox RX9 4 cX9_laysBox := ⟨qkX9_laysBox_ok, layM_ok, qfX9_ok, qcX9_ok, qlX9_ok, am_mthP qmX9_ok (by decide), fun k e1 h => (qyX9_laysBox l k e1 h).1⟩
def qsX9_laysBox : SP := fun as F A K => match as with
  | [.inr (.inr o), .inl p, .inl n] => cond (Nat.beq o 25) (((0 ≤ p ∧ p ≤ 2024) ∧ (1 ≤ n ∧ n ≤ 3) ∧ clO (A 33) n) ∧ (∀ (B_1 : AA), ((∀ bb ii, bb ≠ 38 ∨ ii < p ∨ p + 8 ≤ ii → B_1 bb ii = A bb ii) ∧ ∀ ss, 0 ≤ ss → ss < 4 → lbP (A 33) n (B_1 38) p ss) → (K (some none) F B_1))) (False)
  | _ => False
def qeX9_laysBox : CE := (yX9_laysBox, cX9_laysBox, 7, none, 2, some 9, 0, [], 0, 4, qsX9_laysBox)
theorem qbX9_laysBox : am_mb qeX9_laysBox := ⟨am_tb_at 1733 (by decide +kernel) rfl, am_tb_at 124 (by decide +kernel) rfl, ⟨by decide, by decide, by decide +kernel⟩, by decide, by decide, am_tb_at 1732 (by decide +kernel) rfl, am_tb_at 77 (by decide +kernel) rfl, _, _, rfl⟩
def qnX9_laysBox_25 : CUT := fun pc => cond (Nat.beq pc 2) (some [true, true, true, true, false, false, false]) (cond (Nat.beq pc 16) (some [true, true, true, true, true, true, true]) (none))
def qiX9_laysBox_25 (p : Int) (n : Int) (F0 : FF) (A0 : AA) : REC := fun pc ls st F A u => cond (Nat.beq pc 2) (match ls, st, u with
    | [some (.inr (.inr s0)), some (.inl s1), some (.inl s2), some (.inl v), none, none, none], [], 0 => s0 = 25 ∧ s1 = p ∧ s2 = n ∧ F = F0 ∧ ((0 ≤ v ∧ v ≤ 2) ∧ (∀ bb ii, bb ≠ 38 ∨ ii < p ∨ p + 8 ≤ ii → A bb ii = A0 bb ii) ∧ ∀ ss, 0 ≤ ss → ss < 4 → ss % 2 < v → lbP (A0 33) n (A 38) p ss)
    | _, _, _ => False) (cond (Nat.beq pc 16) (match ls, st, u with
    | [some (.inr (.inr s0)), some (.inl s1), some (.inl s2), some (.inl v), some (.inl t), some (.inl u), some (.inl k)], [], 0 => s0 = 25 ∧ s1 = p ∧ s2 = n ∧ F = F0 ∧ ((0 ≤ v ∧ v < 2) ∧ (1 ≤ k ∧ k ≤ n + 1) ∧ t = exM (A0 33) v (k - 1) ∧ u = exM (A0 33) (2 + v) (k - 1) ∧ (∀ bb ii, bb ≠ 38 ∨ ii < p ∨ p + 8 ≤ ii → A bb ii = A0 bb ii) ∧ ∀ ss, 0 ≤ ss → ss < 4 → ss % 2 < v → lbP (A0 33) n (A 38) p ss)
    | _, _, _ => False) (False))
def quX9_laysBox_25 : Nat → LVs → List AV → FF → AA → Nat := fun pc ls _ F A => cond (Nat.beq pc 2) (match ls with
    | [some (.inr (.inr s0)), some (.inl s1), some (.inl s2), some (.inl v), none, none, none] => Int.toNat (20 - v) * 100 + 50
    | _ => 0) (cond (Nat.beq pc 16) (match ls with
    | [some (.inr (.inr s0)), some (.inl s1), some (.inl s2), some (.inl v), some (.inl t), some (.inl u), some (.inl k)] => Int.toNat (20 - v) * 100 + Int.toNat (20 - k)
    | _ => 0) (0))
set_option maxRecDepth 20000 in
theorem qvX9_laysBox_25_0 (p : Int) (n : Int) (F0 : FF) (A0 : AA) (K : KK) (h : ((0 ≤ p ∧ p ≤ 2024) ∧ (1 ≤ n ∧ n ≤ 3) ∧ clO (A0 33) n) ∧ (∀ (B_1 : AA), ((∀ bb ii, bb ≠ 38 ∨ ii < p ∨ p + 8 ≤ ii → B_1 bb ii = A0 bb ii) ∧ ∀ ss, 0 ≤ ss → ss < 4 → lbP (A0 33) n (B_1 38) p ss) → (K (some none) F0 B_1))) : am_stp qxX9_laysBox (am_run qxX9_laysBox qnX9_laysBox_25 (qiX9_laysBox_25 p n F0 A0) K 74) K 0 (am_ent [vR 25, vI p, vI n] 7) [] F0 A0 0 := by
  show am_stp qxX9_laysBox (am_run qxX9_laysBox qnX9_laysBox_25 (qiX9_laysBox_25 p n F0 A0) K 74) K 0 [some (vR 25), some (vI p), some (vI n), none, none, none, none] [] F0 A0 0
  obtain ⟨hp, h⟩ := h
  obtain ⟨p1, p2', hcl⟩ := hp
  show 25 = 25 ∧ p = p ∧ n = n ∧ F0 = F0 ∧ ((0 ≤ 0 ∧ 0 ≤ 2) ∧ (∀ bb ii, bb ≠ 38 ∨ ii < p ∨ p + 8 ≤ ii → A0 bb ii = A0 bb ii) ∧ ∀ ss, 0 ≤ ss → ss < 4 → ss % 2 < 0 → lbP (A0 33) n (A0 38) p ss)
  refine ⟨rfl, rfl, rfl, rfl, ?_⟩
  exact ⟨by omega, fun _ _ _ => rfl, fun ss s0 s1 s2 => by omega⟩
set_option maxRecDepth 20000 in
theorem qvX9_laysBox_25_2 (p : Int) (n : Int) (F0 : FF) (A0 : AA) (K : KK) (h : ((0 ≤ p ∧ p ≤ 2024) ∧ (1 ≤ n ∧ n ≤ 3) ∧ clO (A0 33) n) ∧ (∀ (B_1 : AA), ((∀ bb ii, bb ≠ 38 ∨ ii < p ∨ p + 8 ≤ ii → B_1 bb ii = A0 bb ii) ∧ ∀ ss, 0 ≤ ss → ss < 4 → lbP (A0 33) n (B_1 38) p ss) → (K (some none) F0 B_1))) (v : Int) (A : AA) (hi : (0 ≤ v ∧ v ≤ 2) ∧ (∀ bb ii, bb ≠ 38 ∨ ii < p ∨ p + 8 ≤ ii → A bb ii = A0 bb ii) ∧ ∀ ss, 0 ≤ ss → ss < 4 → ss % 2 < v → lbP (A0 33) n (A 38) p ss) : am_stp qxX9_laysBox (am_run qxX9_laysBox qnX9_laysBox_25 (fun pc ls st F9 A9 u => qiX9_laysBox_25 p n F0 A0 pc ls st F9 A9 u ∧ quX9_laysBox_25 pc ls st F9 A9 < quX9_laysBox_25 2 [some (vR 25), some (vI p), some (vI n), some (vI v), none, none, none] [] F0 A) K 74) K 2 [some (vR 25), some (vI p), some (vI n), some (vI v), none, none, none] [] F0 A 0 := by
  obtain ⟨hp, h⟩ := h
  obtain ⟨p1, p2', hcl⟩ := hp
  obtain ⟨h1, hA, hB⟩ := hi
  have e33 : A 33 = A0 33 := funext fun i => hA 33 i (Or.inl (by decide))
  show (w32 v < w32 2 → ((25 = 25 ∧ p = p ∧ n = n ∧ F0 = F0 ∧ ((0 ≤ v ∧ v < 2) ∧ (1 ≤ 1 ∧ 1 ≤ n + 1) ∧ 0 = exM (A0 33) v (1 - 1) ∧ 0 = exM (A0 33) (2 + v) (1 - 1) ∧ (∀ bb ii, bb ≠ 38 ∨ ii < p ∨ p + 8 ≤ ii → A bb ii = A0 bb ii) ∧ ∀ ss, 0 ≤ ss → ss < 4 → ss % 2 < v → lbP (A0 33) n (A 38) p ss)) ∧ (Int.toNat (20 - v) * 100 + Int.toNat (20 - 1)) < (Int.toNat (20 - v) * 100 + 50))) ∧ (¬ w32 v < w32 2 → (K (some none) F0 A))
  refine ⟨fun c1 => ?_, fun c1 => ?_⟩
  · skip
    (try simp (disch := omega) only [w32_id] at c1)
    refine ⟨⟨rfl, rfl, rfl, rfl, ?_⟩, by omega⟩
    exact ⟨by omega, by omega, rfl, rfl, hA, hB⟩
  · skip
    (try simp (disch := omega) only [w32_id] at c1)
    exact h _ ⟨hA, fun ss s0 s1 => hB ss s0 s1 (by omega)⟩
set_option maxRecDepth 20000 in
theorem qvX9_laysBox_25_16 (p : Int) (n : Int) (F0 : FF) (A0 : AA) (K : KK) (h : ((0 ≤ p ∧ p ≤ 2024) ∧ (1 ≤ n ∧ n ≤ 3) ∧ clO (A0 33) n) ∧ (∀ (B_1 : AA), ((∀ bb ii, bb ≠ 38 ∨ ii < p ∨ p + 8 ≤ ii → B_1 bb ii = A0 bb ii) ∧ ∀ ss, 0 ≤ ss → ss < 4 → lbP (A0 33) n (B_1 38) p ss) → (K (some none) F0 B_1))) (v : Int) (t : Int) (u : Int) (k : Int) (A : AA) (hi : (0 ≤ v ∧ v < 2) ∧ (1 ≤ k ∧ k ≤ n + 1) ∧ t = exM (A0 33) v (k - 1) ∧ u = exM (A0 33) (2 + v) (k - 1) ∧ (∀ bb ii, bb ≠ 38 ∨ ii < p ∨ p + 8 ≤ ii → A bb ii = A0 bb ii) ∧ ∀ ss, 0 ≤ ss → ss < 4 → ss % 2 < v → lbP (A0 33) n (A 38) p ss) : am_stp qxX9_laysBox (am_run qxX9_laysBox qnX9_laysBox_25 (fun pc ls st F9 A9 u => qiX9_laysBox_25 p n F0 A0 pc ls st F9 A9 u ∧ quX9_laysBox_25 pc ls st F9 A9 < quX9_laysBox_25 16 [some (vR 25), some (vI p), some (vI n), some (vI v), some (vI t), some (vI u), some (vI k)] [] F0 A) K 74) K 16 [some (vR 25), some (vI p), some (vI n), some (vI v), some (vI t), some (vI u), some (vI k)] [] F0 A 0 := by
  obtain ⟨hp, h⟩ := h
  obtain ⟨p1, p2', hcl⟩ := hp
  obtain ⟨h1, h2, h3, h4, hA, hB⟩ := hi
  have e33 : A 33 = A0 33 := funext fun i => hA 33 i (Or.inl (by decide))
  have tb := exM_b (g := A0 33) (s := v) (m := k - 1) (by omega)
  have ub := exM_b (g := A0 33) (s := 2 + v) (m := k - 1) (by omega)
  rw [← h3] at tb
  rw [← h4] at ub
  show (w32 n < w32 k → ((0 ≤ w32 ((4 * v) + t) ∧ w32 ((4 * v) + t) < 12) ∧ ((0 ≤ w32 (p + (2 * v)) ∧ w32 (p + (2 * v)) < 2032) ∧ ((0 ≤ w32 (8 + t) ∧ w32 (8 + t) < 12) ∧ ((0 ≤ w32 ((p + (2 * v)) + 1) ∧ w32 ((p + (2 * v)) + 1) < 2032) ∧ ((0 ≤ w32 ((4 * v) + u) ∧ w32 ((4 * v) + u) < 12) ∧ ((0 ≤ w32 ((p + 4) + (2 * v)) ∧ w32 ((p + 4) + (2 * v)) < 2032) ∧ ((0 ≤ w32 (8 + u) ∧ w32 (8 + u) < 12) ∧ ((0 ≤ w32 ((p + 5) + (2 * v)) ∧ w32 ((p + 5) + (2 * v)) < 2032) ∧ ((25 = 25 ∧ p = p ∧ n = n ∧ F0 = F0 ∧ ((0 ≤ (v + 1) ∧ (v + 1) ≤ 2) ∧ (∀ bb ii, bb ≠ 38 ∨ ii < p ∨ p + 8 ≤ ii → (upA (upA (upA (upA A 38 (w32 (p + (2 * v))) (A 33 (w32 ((4 * v) + t)))) 38 (w32 ((p + (2 * v)) + 1)) (A 33 (w32 (8 + t)))) 38 (w32 ((p + 4) + (2 * v))) (A 33 (w32 ((4 * v) + u)))) 38 (w32 ((p + 5) + (2 * v))) (A 33 (w32 (8 + u)))) bb ii = A0 bb ii) ∧ ∀ ss, 0 ≤ ss → ss < 4 → ss % 2 < (v + 1) → lbP (A0 33) n ((upA (upA (upA (upA A 38 (w32 (p + (2 * v))) (A 33 (w32 ((4 * v) + t)))) 38 (w32 ((p + (2 * v)) + 1)) (A 33 (w32 (8 + t)))) 38 (w32 ((p + 4) + (2 * v))) (A 33 (w32 ((4 * v) + u)))) 38 (w32 ((p + 5) + (2 * v))) (A 33 (w32 (8 + u)))) 38) p ss)) ∧ (Int.toNat (20 - (v + 1)) * 100 + 50) < (Int.toNat (20 - v) * 100 + Int.toNat (20 - k)))))))))))) ∧ (¬ w32 n < w32 k → ((0 ≤ w32 ((4 * v) + k) ∧ w32 ((4 * v) + k) < 12) ∧ ((0 ≤ w32 (8 + k) ∧ w32 (8 + k) < 12) ∧ ((0 ≤ w32 ((4 * v) + t) ∧ w32 ((4 * v) + t) < 12) ∧ ((0 ≤ w32 (8 + t) ∧ w32 (8 + t) < 12) ∧ (((-4611686018427387904 ≤ (A 33 (w32 ((4 * v) + k))) * (A 33 (w32 (8 + t))) ∧ (A 33 (w32 ((4 * v) + k))) * (A 33 (w32 (8 + t))) ≤ 4611686018427387904) ∧ (-4611686018427387904 ≤ (A 33 (w32 ((4 * v) + t))) * (A 33 (w32 (8 + k))) ∧ (A 33 (w32 ((4 * v) + t))) * (A 33 (w32 (8 + k))) ≤ 4611686018427387904)) ∧ ((w32 (bi ((A 33 (w32 ((4 * v) + k))) * (A 33 (w32 (8 + t))) < (A 33 (w32 ((4 * v) + t))) * (A 33 (w32 (8 + k))))) = w32 0 → ((0 ≤ w32 ((4 * v) + u) ∧ w32 ((4 * v) + u) < 12) ∧ ((0 ≤ w32 (8 + u) ∧ w32 (8 + u) < 12) ∧ ((0 ≤ w32 ((4 * v) + k) ∧ w32 ((4 * v) + k) < 12) ∧ ((0 ≤ w32 (8 + k) ∧ w32 (8 + k) < 12) ∧ (((-4611686018427387904 ≤ (A 33 (w32 ((4 * v) + u))) * (A 33 (w32 (8 + k))) ∧ (A 33 (w32 ((4 * v) + u))) * (A 33 (w32 (8 + k))) ≤ 4611686018427387904) ∧ (-4611686018427387904 ≤ (A 33 (w32 ((4 * v) + k))) * (A 33 (w32 (8 + u))) ∧ (A 33 (w32 ((4 * v) + k))) * (A 33 (w32 (8 + u))) ≤ 4611686018427387904)) ∧ ((w32 (bi ((A 33 (w32 ((4 * v) + u))) * (A 33 (w32 (8 + k))) < (A 33 (w32 ((4 * v) + k))) * (A 33 (w32 (8 + u))))) = w32 0 → ((25 = 25 ∧ p = p ∧ n = n ∧ F0 = F0 ∧ ((0 ≤ v ∧ v < 2) ∧ (1 ≤ (k + 1) ∧ (k + 1) ≤ n + 1) ∧ t = exM (A0 33) v ((k + 1) - 1) ∧ u = exM (A0 33) (2 + v) ((k + 1) - 1) ∧ (∀ bb ii, bb ≠ 38 ∨ ii < p ∨ p + 8 ≤ ii → A bb ii = A0 bb ii) ∧ ∀ ss, 0 ≤ ss → ss < 4 → ss % 2 < v → lbP (A0 33) n (A 38) p ss)) ∧ (Int.toNat (20 - v) * 100 + Int.toNat (20 - (k + 1))) < (Int.toNat (20 - v) * 100 + Int.toNat (20 - k)))) ∧ (¬ w32 (bi ((A 33 (w32 ((4 * v) + u))) * (A 33 (w32 (8 + k))) < (A 33 (w32 ((4 * v) + k))) * (A 33 (w32 (8 + u))))) = w32 0 → ((25 = 25 ∧ p = p ∧ n = n ∧ F0 = F0 ∧ ((0 ≤ v ∧ v < 2) ∧ (1 ≤ (k + 1) ∧ (k + 1) ≤ n + 1) ∧ t = exM (A0 33) v ((k + 1) - 1) ∧ k = exM (A0 33) (2 + v) ((k + 1) - 1) ∧ (∀ bb ii, bb ≠ 38 ∨ ii < p ∨ p + 8 ≤ ii → A bb ii = A0 bb ii) ∧ ∀ ss, 0 ≤ ss → ss < 4 → ss % 2 < v → lbP (A0 33) n (A 38) p ss)) ∧ (Int.toNat (20 - v) * 100 + Int.toNat (20 - (k + 1))) < (Int.toNat (20 - v) * 100 + Int.toNat (20 - k))))))))))) ∧ (¬ w32 (bi ((A 33 (w32 ((4 * v) + k))) * (A 33 (w32 (8 + t))) < (A 33 (w32 ((4 * v) + t))) * (A 33 (w32 (8 + k))))) = w32 0 → ((0 ≤ w32 ((4 * v) + u) ∧ w32 ((4 * v) + u) < 12) ∧ ((0 ≤ w32 (8 + u) ∧ w32 (8 + u) < 12) ∧ ((0 ≤ w32 ((4 * v) + k) ∧ w32 ((4 * v) + k) < 12) ∧ ((0 ≤ w32 (8 + k) ∧ w32 (8 + k) < 12) ∧ (((-4611686018427387904 ≤ (A 33 (w32 ((4 * v) + u))) * (A 33 (w32 (8 + k))) ∧ (A 33 (w32 ((4 * v) + u))) * (A 33 (w32 (8 + k))) ≤ 4611686018427387904) ∧ (-4611686018427387904 ≤ (A 33 (w32 ((4 * v) + k))) * (A 33 (w32 (8 + u))) ∧ (A 33 (w32 ((4 * v) + k))) * (A 33 (w32 (8 + u))) ≤ 4611686018427387904)) ∧ ((w32 (bi ((A 33 (w32 ((4 * v) + u))) * (A 33 (w32 (8 + k))) < (A 33 (w32 ((4 * v) + k))) * (A 33 (w32 (8 + u))))) = w32 0 → ((25 = 25 ∧ p = p ∧ n = n ∧ F0 = F0 ∧ ((0 ≤ v ∧ v < 2) ∧ (1 ≤ (k + 1) ∧ (k + 1) ≤ n + 1) ∧ k = exM (A0 33) v ((k + 1) - 1) ∧ u = exM (A0 33) (2 + v) ((k + 1) - 1) ∧ (∀ bb ii, bb ≠ 38 ∨ ii < p ∨ p + 8 ≤ ii → A bb ii = A0 bb ii) ∧ ∀ ss, 0 ≤ ss → ss < 4 → ss % 2 < v → lbP (A0 33) n (A 38) p ss)) ∧ (Int.toNat (20 - v) * 100 + Int.toNat (20 - (k + 1))) < (Int.toNat (20 - v) * 100 + Int.toNat (20 - k)))) ∧ (¬ w32 (bi ((A 33 (w32 ((4 * v) + u))) * (A 33 (w32 (8 + k))) < (A 33 (w32 ((4 * v) + k))) * (A 33 (w32 (8 + u))))) = w32 0 → ((25 = 25 ∧ p = p ∧ n = n ∧ F0 = F0 ∧ ((0 ≤ v ∧ v < 2) ∧ (1 ≤ (k + 1) ∧ (k + 1) ≤ n + 1) ∧ k = exM (A0 33) v ((k + 1) - 1) ∧ k = exM (A0 33) (2 + v) ((k + 1) - 1) ∧ (∀ bb ii, bb ≠ 38 ∨ ii < p ∨ p + 8 ≤ ii → A bb ii = A0 bb ii) ∧ ∀ ss, 0 ≤ ss → ss < 4 → ss % 2 < v → lbP (A0 33) n (A 38) p ss)) ∧ (Int.toNat (20 - v) * 100 + Int.toNat (20 - (k + 1))) < (Int.toNat (20 - v) * 100 + Int.toNat (20 - k))))))))))))))))))
  refine ⟨fun c1 => ?_, fun c1 => ?_⟩
  · skip
    (try simp only [w32_0, wbi0, Classical.not_not] at c1); (try simp (disch := omega) only [w32_id] at c1); (try rw [e33] at c1)
    refine ⟨by first | exact bi_01 | omega | (rw [w32_id (by omega) (by omega)]; omega) | (simp (disch := omega) only [w32_id]; rw [e33]; have a1 := hcl v k (by omega) (by omega) (by omega) (by omega); have a2 := hcl 2 t (by omega) (by omega) (by omega) (by omega); have a3 := hcl v t (by omega) (by omega) (by omega) (by omega); have a4 := hcl 2 k (by omega) (by omega) (by omega) (by omega); have a5 := hcl v u (by omega) (by omega) (by omega) (by omega); have a6 := hcl 2 u (by omega) (by omega) (by omega) (by omega); rw [show (4 * 2 : Int) = 8 by omega] at a2 a4 a6; have r1 := pr_b a1.1 a1.2 a2.1 a2.2; have r2 := pr_b a3.1 a3.2 a4.1 a4.2; have r3 := pr_b a5.1 a5.2 a4.1 a4.2; have r4 := pr_b a1.1 a1.2 a6.1 a6.2; exact ⟨⟨by omega, by omega⟩, by omega, by omega⟩), ?_⟩
    refine ⟨by first | exact bi_01 | omega | (rw [w32_id (by omega) (by omega)]; omega) | (simp (disch := omega) only [w32_id]; rw [e33]; have a1 := hcl v k (by omega) (by omega) (by omega) (by omega); have a2 := hcl 2 t (by omega) (by omega) (by omega) (by omega); have a3 := hcl v t (by omega) (by omega) (by omega) (by omega); have a4 := hcl 2 k (by omega) (by omega) (by omega) (by omega); have a5 := hcl v u (by omega) (by omega) (by omega) (by omega); have a6 := hcl 2 u (by omega) (by omega) (by omega) (by omega); rw [show (4 * 2 : Int) = 8 by omega] at a2 a4 a6; have r1 := pr_b a1.1 a1.2 a2.1 a2.2; have r2 := pr_b a3.1 a3.2 a4.1 a4.2; have r3 := pr_b a5.1 a5.2 a4.1 a4.2; have r4 := pr_b a1.1 a1.2 a6.1 a6.2; exact ⟨⟨by omega, by omega⟩, by omega, by omega⟩), ?_⟩
    refine ⟨by first | exact bi_01 | omega | (rw [w32_id (by omega) (by omega)]; omega) | (simp (disch := omega) only [w32_id]; rw [e33]; have a1 := hcl v k (by omega) (by omega) (by omega) (by omega); have a2 := hcl 2 t (by omega) (by omega) (by omega) (by omega); have a3 := hcl v t (by omega) (by omega) (by omega) (by omega); have a4 := hcl 2 k (by omega) (by omega) (by omega) (by omega); have a5 := hcl v u (by omega) (by omega) (by omega) (by omega); have a6 := hcl 2 u (by omega) (by omega) (by omega) (by omega); rw [show (4 * 2 : Int) = 8 by omega] at a2 a4 a6; have r1 := pr_b a1.1 a1.2 a2.1 a2.2; have r2 := pr_b a3.1 a3.2 a4.1 a4.2; have r3 := pr_b a5.1 a5.2 a4.1 a4.2; have r4 := pr_b a1.1 a1.2 a6.1 a6.2; exact ⟨⟨by omega, by omega⟩, by omega, by omega⟩), ?_⟩
    refine ⟨by first | exact bi_01 | omega | (rw [w32_id (by omega) (by omega)]; omega) | (simp (disch := omega) only [w32_id]; rw [e33]; have a1 := hcl v k (by omega) (by omega) (by omega) (by omega); have a2 := hcl 2 t (by omega) (by omega) (by omega) (by omega); have a3 := hcl v t (by omega) (by omega) (by omega) (by omega); have a4 := hcl 2 k (by omega) (by omega) (by omega) (by omega); have a5 := hcl v u (by omega) (by omega) (by omega) (by omega); have a6 := hcl 2 u (by omega) (by omega) (by omega) (by omega); rw [show (4 * 2 : Int) = 8 by omega] at a2 a4 a6; have r1 := pr_b a1.1 a1.2 a2.1 a2.2; have r2 := pr_b a3.1 a3.2 a4.1 a4.2; have r3 := pr_b a5.1 a5.2 a4.1 a4.2; have r4 := pr_b a1.1 a1.2 a6.1 a6.2; exact ⟨⟨by omega, by omega⟩, by omega, by omega⟩), ?_⟩
    refine ⟨by first | exact bi_01 | omega | (rw [w32_id (by omega) (by omega)]; omega) | (simp (disch := omega) only [w32_id]; rw [e33]; have a1 := hcl v k (by omega) (by omega) (by omega) (by omega); have a2 := hcl 2 t (by omega) (by omega) (by omega) (by omega); have a3 := hcl v t (by omega) (by omega) (by omega) (by omega); have a4 := hcl 2 k (by omega) (by omega) (by omega) (by omega); have a5 := hcl v u (by omega) (by omega) (by omega) (by omega); have a6 := hcl 2 u (by omega) (by omega) (by omega) (by omega); rw [show (4 * 2 : Int) = 8 by omega] at a2 a4 a6; have r1 := pr_b a1.1 a1.2 a2.1 a2.2; have r2 := pr_b a3.1 a3.2 a4.1 a4.2; have r3 := pr_b a5.1 a5.2 a4.1 a4.2; have r4 := pr_b a1.1 a1.2 a6.1 a6.2; exact ⟨⟨by omega, by omega⟩, by omega, by omega⟩), ?_⟩
    refine ⟨by first | exact bi_01 | omega | (rw [w32_id (by omega) (by omega)]; omega) | (simp (disch := omega) only [w32_id]; rw [e33]; have a1 := hcl v k (by omega) (by omega) (by omega) (by omega); have a2 := hcl 2 t (by omega) (by omega) (by omega) (by omega); have a3 := hcl v t (by omega) (by omega) (by omega) (by omega); have a4 := hcl 2 k (by omega) (by omega) (by omega) (by omega); have a5 := hcl v u (by omega) (by omega) (by omega) (by omega); have a6 := hcl 2 u (by omega) (by omega) (by omega) (by omega); rw [show (4 * 2 : Int) = 8 by omega] at a2 a4 a6; have r1 := pr_b a1.1 a1.2 a2.1 a2.2; have r2 := pr_b a3.1 a3.2 a4.1 a4.2; have r3 := pr_b a5.1 a5.2 a4.1 a4.2; have r4 := pr_b a1.1 a1.2 a6.1 a6.2; exact ⟨⟨by omega, by omega⟩, by omega, by omega⟩), ?_⟩
    refine ⟨by first | exact bi_01 | omega | (rw [w32_id (by omega) (by omega)]; omega) | (simp (disch := omega) only [w32_id]; rw [e33]; have a1 := hcl v k (by omega) (by omega) (by omega) (by omega); have a2 := hcl 2 t (by omega) (by omega) (by omega) (by omega); have a3 := hcl v t (by omega) (by omega) (by omega) (by omega); have a4 := hcl 2 k (by omega) (by omega) (by omega) (by omega); have a5 := hcl v u (by omega) (by omega) (by omega) (by omega); have a6 := hcl 2 u (by omega) (by omega) (by omega) (by omega); rw [show (4 * 2 : Int) = 8 by omega] at a2 a4 a6; have r1 := pr_b a1.1 a1.2 a2.1 a2.2; have r2 := pr_b a3.1 a3.2 a4.1 a4.2; have r3 := pr_b a5.1 a5.2 a4.1 a4.2; have r4 := pr_b a1.1 a1.2 a6.1 a6.2; exact ⟨⟨by omega, by omega⟩, by omega, by omega⟩), ?_⟩
    refine ⟨by first | exact bi_01 | omega | (rw [w32_id (by omega) (by omega)]; omega) | (simp (disch := omega) only [w32_id]; rw [e33]; have a1 := hcl v k (by omega) (by omega) (by omega) (by omega); have a2 := hcl 2 t (by omega) (by omega) (by omega) (by omega); have a3 := hcl v t (by omega) (by omega) (by omega) (by omega); have a4 := hcl 2 k (by omega) (by omega) (by omega) (by omega); have a5 := hcl v u (by omega) (by omega) (by omega) (by omega); have a6 := hcl 2 u (by omega) (by omega) (by omega) (by omega); rw [show (4 * 2 : Int) = 8 by omega] at a2 a4 a6; have r1 := pr_b a1.1 a1.2 a2.1 a2.2; have r2 := pr_b a3.1 a3.2 a4.1 a4.2; have r3 := pr_b a5.1 a5.2 a4.1 a4.2; have r4 := pr_b a1.1 a1.2 a6.1 a6.2; exact ⟨⟨by omega, by omega⟩, by omega, by omega⟩), ?_⟩
    refine ⟨⟨rfl, rfl, rfl, rfl, ?_⟩, by omega⟩
    have ek : k = n + 1 := by omega
    subst ek
    rw [show n + 1 - 1 = n by omega] at h3 h4
    simp (disch := omega) only [w32_id]
    refine ⟨by omega, fun bb ii hb => ?_, fun ss s0 s1 s2 => ?_⟩
    · rw [upA_x (by omega), upA_x (by omega), upA_x (by omega), upA_x (by omega)]; exact hA bb ii hb
    · by_cases e : ss % 2 = v
      · by_cases e2 : ss < 2
        · have es : ss = v := by omega
          subst es
          exact ⟨by rw [upA_x (by omega), upA_x (by omega), upA_x (by omega), upA_at (by omega), e33, h3, e], by rw [upA_x (by omega), upA_x (by omega), upA_at (by omega), e33, h3]⟩
        · have es : ss = 2 + v := by omega
          subst es
          exact ⟨by rw [upA_x (by omega), upA_at (by omega), e33, h4, e], by rw [upA_at (by omega), e33, h4]⟩
      · have z := hB ss s0 s1 (by omega)
        exact ⟨by rw [upA_x (by omega), upA_x (by omega), upA_x (by omega), upA_x (by omega)]; exact z.1, by rw [upA_x (by omega), upA_x (by omega), upA_x (by omega), upA_x (by omega)]; exact z.2⟩
  · skip
    (try simp only [w32_0, wbi0, Classical.not_not] at c1); (try simp (disch := omega) only [w32_id] at c1); (try rw [e33] at c1)
    refine ⟨by first | exact bi_01 | omega | (rw [w32_id (by omega) (by omega)]; omega) | (simp (disch := omega) only [w32_id]; rw [e33]; have a1 := hcl v k (by omega) (by omega) (by omega) (by omega); have a2 := hcl 2 t (by omega) (by omega) (by omega) (by omega); have a3 := hcl v t (by omega) (by omega) (by omega) (by omega); have a4 := hcl 2 k (by omega) (by omega) (by omega) (by omega); have a5 := hcl v u (by omega) (by omega) (by omega) (by omega); have a6 := hcl 2 u (by omega) (by omega) (by omega) (by omega); rw [show (4 * 2 : Int) = 8 by omega] at a2 a4 a6; have r1 := pr_b a1.1 a1.2 a2.1 a2.2; have r2 := pr_b a3.1 a3.2 a4.1 a4.2; have r3 := pr_b a5.1 a5.2 a4.1 a4.2; have r4 := pr_b a1.1 a1.2 a6.1 a6.2; exact ⟨⟨by omega, by omega⟩, by omega, by omega⟩), ?_⟩
    refine ⟨by first | exact bi_01 | omega | (rw [w32_id (by omega) (by omega)]; omega) | (simp (disch := omega) only [w32_id]; rw [e33]; have a1 := hcl v k (by omega) (by omega) (by omega) (by omega); have a2 := hcl 2 t (by omega) (by omega) (by omega) (by omega); have a3 := hcl v t (by omega) (by omega) (by omega) (by omega); have a4 := hcl 2 k (by omega) (by omega) (by omega) (by omega); have a5 := hcl v u (by omega) (by omega) (by omega) (by omega); have a6 := hcl 2 u (by omega) (by omega) (by omega) (by omega); rw [show (4 * 2 : Int) = 8 by omega] at a2 a4 a6; have r1 := pr_b a1.1 a1.2 a2.1 a2.2; have r2 := pr_b a3.1 a3.2 a4.1 a4.2; have r3 := pr_b a5.1 a5.2 a4.1 a4.2; have r4 := pr_b a1.1 a1.2 a6.1 a6.2; exact ⟨⟨by omega, by omega⟩, by omega, by omega⟩), ?_⟩
    refine ⟨by first | exact bi_01 | omega | (rw [w32_id (by omega) (by omega)]; omega) | (simp (disch := omega) only [w32_id]; rw [e33]; have a1 := hcl v k (by omega) (by omega) (by omega) (by omega); have a2 := hcl 2 t (by omega) (by omega) (by omega) (by omega); have a3 := hcl v t (by omega) (by omega) (by omega) (by omega); have a4 := hcl 2 k (by omega) (by omega) (by omega) (by omega); have a5 := hcl v u (by omega) (by omega) (by omega) (by omega); have a6 := hcl 2 u (by omega) (by omega) (by omega) (by omega); rw [show (4 * 2 : Int) = 8 by omega] at a2 a4 a6; have r1 := pr_b a1.1 a1.2 a2.1 a2.2; have r2 := pr_b a3.1 a3.2 a4.1 a4.2; have r3 := pr_b a5.1 a5.2 a4.1 a4.2; have r4 := pr_b a1.1 a1.2 a6.1 a6.2; exact ⟨⟨by omega, by omega⟩, by omega, by omega⟩), ?_⟩
    refine ⟨by first | exact bi_01 | omega | (rw [w32_id (by omega) (by omega)]; omega) | (simp (disch := omega) only [w32_id]; rw [e33]; have a1 := hcl v k (by omega) (by omega) (by omega) (by omega); have a2 := hcl 2 t (by omega) (by omega) (by omega) (by omega); have a3 := hcl v t (by omega) (by omega) (by omega) (by omega); have a4 := hcl 2 k (by omega) (by omega) (by omega) (by omega); have a5 := hcl v u (by omega) (by omega) (by omega) (by omega); have a6 := hcl 2 u (by omega) (by omega) (by omega) (by omega); rw [show (4 * 2 : Int) = 8 by omega] at a2 a4 a6; have r1 := pr_b a1.1 a1.2 a2.1 a2.2; have r2 := pr_b a3.1 a3.2 a4.1 a4.2; have r3 := pr_b a5.1 a5.2 a4.1 a4.2; have r4 := pr_b a1.1 a1.2 a6.1 a6.2; exact ⟨⟨by omega, by omega⟩, by omega, by omega⟩), ?_⟩
    refine ⟨by first | exact bi_01 | omega | (rw [w32_id (by omega) (by omega)]; omega) | (simp (disch := omega) only [w32_id]; rw [e33]; have a1 := hcl v k (by omega) (by omega) (by omega) (by omega); have a2 := hcl 2 t (by omega) (by omega) (by omega) (by omega); have a3 := hcl v t (by omega) (by omega) (by omega) (by omega); have a4 := hcl 2 k (by omega) (by omega) (by omega) (by omega); have a5 := hcl v u (by omega) (by omega) (by omega) (by omega); have a6 := hcl 2 u (by omega) (by omega) (by omega) (by omega); rw [show (4 * 2 : Int) = 8 by omega] at a2 a4 a6; have r1 := pr_b a1.1 a1.2 a2.1 a2.2; have r2 := pr_b a3.1 a3.2 a4.1 a4.2; have r3 := pr_b a5.1 a5.2 a4.1 a4.2; have r4 := pr_b a1.1 a1.2 a6.1 a6.2; exact ⟨⟨by omega, by omega⟩, by omega, by omega⟩), ?_⟩
    refine ⟨fun c2 => ?_, fun c2 => ?_⟩
    · skip
      (try simp only [w32_0, wbi0, Classical.not_not] at c2); (try simp (disch := omega) only [w32_id] at c2); (try rw [e33] at c2)
      refine ⟨by first | exact bi_01 | omega | (rw [w32_id (by omega) (by omega)]; omega) | (simp (disch := omega) only [w32_id]; rw [e33]; have a1 := hcl v k (by omega) (by omega) (by omega) (by omega); have a2 := hcl 2 t (by omega) (by omega) (by omega) (by omega); have a3 := hcl v t (by omega) (by omega) (by omega) (by omega); have a4 := hcl 2 k (by omega) (by omega) (by omega) (by omega); have a5 := hcl v u (by omega) (by omega) (by omega) (by omega); have a6 := hcl 2 u (by omega) (by omega) (by omega) (by omega); rw [show (4 * 2 : Int) = 8 by omega] at a2 a4 a6; have r1 := pr_b a1.1 a1.2 a2.1 a2.2; have r2 := pr_b a3.1 a3.2 a4.1 a4.2; have r3 := pr_b a5.1 a5.2 a4.1 a4.2; have r4 := pr_b a1.1 a1.2 a6.1 a6.2; exact ⟨⟨by omega, by omega⟩, by omega, by omega⟩), ?_⟩
      refine ⟨by first | exact bi_01 | omega | (rw [w32_id (by omega) (by omega)]; omega) | (simp (disch := omega) only [w32_id]; rw [e33]; have a1 := hcl v k (by omega) (by omega) (by omega) (by omega); have a2 := hcl 2 t (by omega) (by omega) (by omega) (by omega); have a3 := hcl v t (by omega) (by omega) (by omega) (by omega); have a4 := hcl 2 k (by omega) (by omega) (by omega) (by omega); have a5 := hcl v u (by omega) (by omega) (by omega) (by omega); have a6 := hcl 2 u (by omega) (by omega) (by omega) (by omega); rw [show (4 * 2 : Int) = 8 by omega] at a2 a4 a6; have r1 := pr_b a1.1 a1.2 a2.1 a2.2; have r2 := pr_b a3.1 a3.2 a4.1 a4.2; have r3 := pr_b a5.1 a5.2 a4.1 a4.2; have r4 := pr_b a1.1 a1.2 a6.1 a6.2; exact ⟨⟨by omega, by omega⟩, by omega, by omega⟩), ?_⟩
      refine ⟨by first | exact bi_01 | omega | (rw [w32_id (by omega) (by omega)]; omega) | (simp (disch := omega) only [w32_id]; rw [e33]; have a1 := hcl v k (by omega) (by omega) (by omega) (by omega); have a2 := hcl 2 t (by omega) (by omega) (by omega) (by omega); have a3 := hcl v t (by omega) (by omega) (by omega) (by omega); have a4 := hcl 2 k (by omega) (by omega) (by omega) (by omega); have a5 := hcl v u (by omega) (by omega) (by omega) (by omega); have a6 := hcl 2 u (by omega) (by omega) (by omega) (by omega); rw [show (4 * 2 : Int) = 8 by omega] at a2 a4 a6; have r1 := pr_b a1.1 a1.2 a2.1 a2.2; have r2 := pr_b a3.1 a3.2 a4.1 a4.2; have r3 := pr_b a5.1 a5.2 a4.1 a4.2; have r4 := pr_b a1.1 a1.2 a6.1 a6.2; exact ⟨⟨by omega, by omega⟩, by omega, by omega⟩), ?_⟩
      refine ⟨by first | exact bi_01 | omega | (rw [w32_id (by omega) (by omega)]; omega) | (simp (disch := omega) only [w32_id]; rw [e33]; have a1 := hcl v k (by omega) (by omega) (by omega) (by omega); have a2 := hcl 2 t (by omega) (by omega) (by omega) (by omega); have a3 := hcl v t (by omega) (by omega) (by omega) (by omega); have a4 := hcl 2 k (by omega) (by omega) (by omega) (by omega); have a5 := hcl v u (by omega) (by omega) (by omega) (by omega); have a6 := hcl 2 u (by omega) (by omega) (by omega) (by omega); rw [show (4 * 2 : Int) = 8 by omega] at a2 a4 a6; have r1 := pr_b a1.1 a1.2 a2.1 a2.2; have r2 := pr_b a3.1 a3.2 a4.1 a4.2; have r3 := pr_b a5.1 a5.2 a4.1 a4.2; have r4 := pr_b a1.1 a1.2 a6.1 a6.2; exact ⟨⟨by omega, by omega⟩, by omega, by omega⟩), ?_⟩
      refine ⟨by first | exact bi_01 | omega | (rw [w32_id (by omega) (by omega)]; omega) | (simp (disch := omega) only [w32_id]; rw [e33]; have a1 := hcl v k (by omega) (by omega) (by omega) (by omega); have a2 := hcl 2 t (by omega) (by omega) (by omega) (by omega); have a3 := hcl v t (by omega) (by omega) (by omega) (by omega); have a4 := hcl 2 k (by omega) (by omega) (by omega) (by omega); have a5 := hcl v u (by omega) (by omega) (by omega) (by omega); have a6 := hcl 2 u (by omega) (by omega) (by omega) (by omega); rw [show (4 * 2 : Int) = 8 by omega] at a2 a4 a6; have r1 := pr_b a1.1 a1.2 a2.1 a2.2; have r2 := pr_b a3.1 a3.2 a4.1 a4.2; have r3 := pr_b a5.1 a5.2 a4.1 a4.2; have r4 := pr_b a1.1 a1.2 a6.1 a6.2; exact ⟨⟨by omega, by omega⟩, by omega, by omega⟩), ?_⟩
      refine ⟨fun c3 => ?_, fun c3 => ?_⟩
      · skip
        (try simp only [w32_0, wbi0, Classical.not_not] at c3); (try simp (disch := omega) only [w32_id] at c3); (try rw [e33] at c3)
        refine ⟨⟨rfl, rfl, rfl, rfl, ?_⟩, by omega⟩
        refine ⟨h1, by omega, ?_, ?_, hA, hB⟩
        · rw [show k + 1 - 1 = k by omega, exM_lo hcl (by omega) (by omega) (by omega) (by omega), ← h3]
          first | (rw [if_pos c2]; done) | (rw [if_neg c2]; done)
        · rw [show k + 1 - 1 = k by omega, exM_hi hcl (by omega) (by omega) (by omega) (by omega), ← h4]
          first | (rw [if_pos c3]; done) | (rw [if_neg c3]; done)
      · skip
        (try simp only [w32_0, wbi0, Classical.not_not] at c3); (try simp (disch := omega) only [w32_id] at c3); (try rw [e33] at c3)
        refine ⟨⟨rfl, rfl, rfl, rfl, ?_⟩, by omega⟩
        refine ⟨h1, by omega, ?_, ?_, hA, hB⟩
        · rw [show k + 1 - 1 = k by omega, exM_lo hcl (by omega) (by omega) (by omega) (by omega), ← h3]
          first | (rw [if_pos c2]; done) | (rw [if_neg c2]; done)
        · rw [show k + 1 - 1 = k by omega, exM_hi hcl (by omega) (by omega) (by omega) (by omega), ← h4]
          first | (rw [if_pos c3]; done) | (rw [if_neg c3]; done)
    · skip
      (try simp only [w32_0, wbi0, Classical.not_not] at c2); (try simp (disch := omega) only [w32_id] at c2); (try rw [e33] at c2)
      refine ⟨by first | exact bi_01 | omega | (rw [w32_id (by omega) (by omega)]; omega) | (simp (disch := omega) only [w32_id]; rw [e33]; have a1 := hcl v k (by omega) (by omega) (by omega) (by omega); have a2 := hcl 2 t (by omega) (by omega) (by omega) (by omega); have a3 := hcl v t (by omega) (by omega) (by omega) (by omega); have a4 := hcl 2 k (by omega) (by omega) (by omega) (by omega); have a5 := hcl v u (by omega) (by omega) (by omega) (by omega); have a6 := hcl 2 u (by omega) (by omega) (by omega) (by omega); rw [show (4 * 2 : Int) = 8 by omega] at a2 a4 a6; have r1 := pr_b a1.1 a1.2 a2.1 a2.2; have r2 := pr_b a3.1 a3.2 a4.1 a4.2; have r3 := pr_b a5.1 a5.2 a4.1 a4.2; have r4 := pr_b a1.1 a1.2 a6.1 a6.2; exact ⟨⟨by omega, by omega⟩, by omega, by omega⟩), ?_⟩
      refine ⟨by first | exact bi_01 | omega | (rw [w32_id (by omega) (by omega)]; omega) | (simp (disch := omega) only [w32_id]; rw [e33]; have a1 := hcl v k (by omega) (by omega) (by omega) (by omega); have a2 := hcl 2 t (by omega) (by omega) (by omega) (by omega); have a3 := hcl v t (by omega) (by omega) (by omega) (by omega); have a4 := hcl 2 k (by omega) (by omega) (by omega) (by omega); have a5 := hcl v u (by omega) (by omega) (by omega) (by omega); have a6 := hcl 2 u (by omega) (by omega) (by omega) (by omega); rw [show (4 * 2 : Int) = 8 by omega] at a2 a4 a6; have r1 := pr_b a1.1 a1.2 a2.1 a2.2; have r2 := pr_b a3.1 a3.2 a4.1 a4.2; have r3 := pr_b a5.1 a5.2 a4.1 a4.2; have r4 := pr_b a1.1 a1.2 a6.1 a6.2; exact ⟨⟨by omega, by omega⟩, by omega, by omega⟩), ?_⟩
      refine ⟨by first | exact bi_01 | omega | (rw [w32_id (by omega) (by omega)]; omega) | (simp (disch := omega) only [w32_id]; rw [e33]; have a1 := hcl v k (by omega) (by omega) (by omega) (by omega); have a2 := hcl 2 t (by omega) (by omega) (by omega) (by omega); have a3 := hcl v t (by omega) (by omega) (by omega) (by omega); have a4 := hcl 2 k (by omega) (by omega) (by omega) (by omega); have a5 := hcl v u (by omega) (by omega) (by omega) (by omega); have a6 := hcl 2 u (by omega) (by omega) (by omega) (by omega); rw [show (4 * 2 : Int) = 8 by omega] at a2 a4 a6; have r1 := pr_b a1.1 a1.2 a2.1 a2.2; have r2 := pr_b a3.1 a3.2 a4.1 a4.2; have r3 := pr_b a5.1 a5.2 a4.1 a4.2; have r4 := pr_b a1.1 a1.2 a6.1 a6.2; exact ⟨⟨by omega, by omega⟩, by omega, by omega⟩), ?_⟩
      refine ⟨by first | exact bi_01 | omega | (rw [w32_id (by omega) (by omega)]; omega) | (simp (disch := omega) only [w32_id]; rw [e33]; have a1 := hcl v k (by omega) (by omega) (by omega) (by omega); have a2 := hcl 2 t (by omega) (by omega) (by omega) (by omega); have a3 := hcl v t (by omega) (by omega) (by omega) (by omega); have a4 := hcl 2 k (by omega) (by omega) (by omega) (by omega); have a5 := hcl v u (by omega) (by omega) (by omega) (by omega); have a6 := hcl 2 u (by omega) (by omega) (by omega) (by omega); rw [show (4 * 2 : Int) = 8 by omega] at a2 a4 a6; have r1 := pr_b a1.1 a1.2 a2.1 a2.2; have r2 := pr_b a3.1 a3.2 a4.1 a4.2; have r3 := pr_b a5.1 a5.2 a4.1 a4.2; have r4 := pr_b a1.1 a1.2 a6.1 a6.2; exact ⟨⟨by omega, by omega⟩, by omega, by omega⟩), ?_⟩
      refine ⟨by first | exact bi_01 | omega | (rw [w32_id (by omega) (by omega)]; omega) | (simp (disch := omega) only [w32_id]; rw [e33]; have a1 := hcl v k (by omega) (by omega) (by omega) (by omega); have a2 := hcl 2 t (by omega) (by omega) (by omega) (by omega); have a3 := hcl v t (by omega) (by omega) (by omega) (by omega); have a4 := hcl 2 k (by omega) (by omega) (by omega) (by omega); have a5 := hcl v u (by omega) (by omega) (by omega) (by omega); have a6 := hcl 2 u (by omega) (by omega) (by omega) (by omega); rw [show (4 * 2 : Int) = 8 by omega] at a2 a4 a6; have r1 := pr_b a1.1 a1.2 a2.1 a2.2; have r2 := pr_b a3.1 a3.2 a4.1 a4.2; have r3 := pr_b a5.1 a5.2 a4.1 a4.2; have r4 := pr_b a1.1 a1.2 a6.1 a6.2; exact ⟨⟨by omega, by omega⟩, by omega, by omega⟩), ?_⟩
      refine ⟨fun c3 => ?_, fun c3 => ?_⟩
      · skip
        (try simp only [w32_0, wbi0, Classical.not_not] at c3); (try simp (disch := omega) only [w32_id] at c3); (try rw [e33] at c3)
        refine ⟨⟨rfl, rfl, rfl, rfl, ?_⟩, by omega⟩
        refine ⟨h1, by omega, ?_, ?_, hA, hB⟩
        · rw [show k + 1 - 1 = k by omega, exM_lo hcl (by omega) (by omega) (by omega) (by omega), ← h3]
          first | (rw [if_pos c2]; done) | (rw [if_neg c2]; done)
        · rw [show k + 1 - 1 = k by omega, exM_hi hcl (by omega) (by omega) (by omega) (by omega), ← h4]
          first | (rw [if_pos c3]; done) | (rw [if_neg c3]; done)
      · skip
        (try simp only [w32_0, wbi0, Classical.not_not] at c3); (try simp (disch := omega) only [w32_id] at c3); (try rw [e33] at c3)
        refine ⟨⟨rfl, rfl, rfl, rfl, ?_⟩, by omega⟩
        refine ⟨h1, by omega, ?_, ?_, hA, hB⟩
        · rw [show k + 1 - 1 = k by omega, exM_lo hcl (by omega) (by omega) (by omega) (by omega), ← h3]
          first | (rw [if_pos c2]; done) | (rw [if_neg c2]; done)
        · rw [show k + 1 - 1 = k by omega, exM_hi hcl (by omega) (by omega) (by omega) (by omega), ← h4]
          first | (rw [if_pos c3]; done) | (rw [if_neg c3]; done)
set_option maxRecDepth 20000 in
theorem qvX9_laysBox_25 (p : Int) (n : Int) (F0 : FF) (A0 : AA) (K : KK) (h : ((0 ≤ p ∧ p ≤ 2024) ∧ (1 ≤ n ∧ n ≤ 3) ∧ clO (A0 33) n) ∧ (∀ (B_1 : AA), ((∀ bb ii, bb ≠ 38 ∨ ii < p ∨ p + 8 ≤ ii → B_1 bb ii = A0 bb ii) ∧ ∀ ss, 0 ≤ ss → ss < 4 → lbP (A0 33) n (B_1 38) p ss) → (K (some none) F0 B_1))) : am_body qxX9_laysBox qnX9_laysBox_25 74 (qiX9_laysBox_25 p n F0 A0) quX9_laysBox_25 [vR 25, vI p, vI n] 7 F0 A0 K := by
  refine ⟨qvX9_laysBox_25_0 p n F0 A0 K h, fun pc ls st F A u hI => ?_⟩
  unfold qiX9_laysBox_25 at hI
  replace hI := am_cond2 hI
  rcases hI with ⟨hb, hI⟩ | hI
  · have hb := am_bq hb
    subst hb
    split at hI
    · rename_i s0 s1 s2 v
      obtain ⟨e0, e1, e2, e3, hI⟩ := hI
      subst e0
      subst e1
      subst e2
      subst e3
      exact qvX9_laysBox_25_2 _ _ _ _ K h _ _ hI
    · exact hI.elim
  replace hI := am_cond2 hI
  rcases hI with ⟨hb, hI⟩ | hI
  · have hb := am_bq hb
    subst hb
    split at hI
    · rename_i s0 s1 s2 v t u k
      obtain ⟨e0, e1, e2, e3, hI⟩ := hI
      subst e0
      subst e1
      subst e2
      subst e3
      exact qvX9_laysBox_25_16 _ _ _ _ K h _ _ _ _ _ hI
    · exact hI.elim
  exact hI.elim
theorem qtX9_laysBox (l : Launch) : am_CT l layM qeX9_laysBox := am_met0 rfl (by decide +kernel) rfl rfl rfl rfl rfl (fun _ => rfl) rfl (qzX9_laysBox l) (fun k e1 h => (qyX9_laysBox l k e1 h).2) (fun as F A K h => by
  replace h : qsX9_laysBox as F A K := h
  unfold qsX9_laysBox at h
  split at h
  · rename_i o p n
    refine ⟨by first | exact Nat.le_of_ble_eq_true rfl | simp [am_fl, am_cat], ?_⟩
    replace h := am_cond2 h
    rcases h with ⟨hb, h⟩ | h
    · skip
      have hb0 := hb
      have hb0 := am_bq hb0
      subst hb0
      exact am_way_body (qvX9_laysBox_25 p n F A K h)
    exact h.elim
  · exact h.elim)
def qkX9_cellControl : Nat → Option CI := fun pc => cond (Nat.ble 69 pc) none (cond (Nat.ble 36 pc) (cond (Nat.ble 53 pc) (cond (Nat.ble 63 pc) (cond (Nat.ble 66 pc) (cond (Nat.beq pc 66) (some (.iadd, 67, [])) (cond (Nat.beq pc 67) (some (.laload, 68, [])) (cond (Nat.beq pc 68) (some (.lreturn, 69, [])) (none)))) (cond (Nat.beq pc 63) (some (.imul, 64, [])) (cond (Nat.beq pc 64) (some (.iload 4, 66, [])) (none)))) (cond (Nat.ble 57 pc) (cond (Nat.beq pc 57) (some (.getfield 32, 60, [])) (cond (Nat.beq pc 60) (some (.iconst 4, 61, [])) (cond (Nat.beq pc 61) (some (.iload 5, 63, [])) (none)))) (cond (Nat.beq pc 53) (some (.invokevirtual 163, 56, [])) (cond (Nat.beq pc 56) (some (.aload_n 0, 57, [])) (none))))) (cond (Nat.ble 48 pc) (cond (Nat.ble 50 pc) (cond (Nat.beq pc 50) (some (.iload_n 1, 51, [])) (cond (Nat.beq pc 51) (some (.iload_n 2, 52, [])) (cond (Nat.beq pc 52) (some (.iload_n 3, 53, [])) (none)))) (cond (Nat.beq pc 48) (some (.lreturn, 49, [])) (cond (Nat.beq pc 49) (some (.aload_n 0, 50, [])) (none)))) (cond (Nat.ble 41 pc) (cond (Nat.beq pc 41) (some (.iconst 2, 42, [])) (cond (Nat.beq pc 42) (some (.if_icmp .le 7, 45, [49])) (cond (Nat.beq pc 45) (some (.ldc2_w 315, 48, [])) (none)))) (cond (Nat.beq pc 36) (some (.ifCond .lt 9, 39, [45])) (cond (Nat.beq pc 39) (some (.iload 5, 41, [])) (none)))))) (cond (Nat.ble 15 pc) (cond (Nat.ble 25 pc) (cond (Nat.ble 28 pc) (cond (Nat.beq pc 28) (some (.invokevirtual 305, 31, [])) (cond (Nat.beq pc 31) (some (.ifCond .eq 14, 34, [45])) (cond (Nat.beq pc 34) (some (.iload 5, 36, [])) (none)))) (cond (Nat.beq pc 25) (some (.iload_n 1, 26, [])) (cond (Nat.beq pc 26) (some (.iload 4, 28, [])) (none)))) (cond (Nat.ble 18 pc) (cond (Nat.beq pc 18) (some (.invokestatic 311, 21, [])) (cond (Nat.beq pc 21) (some (.ifCond .eq 24, 24, [45])) (cond (Nat.beq pc 24) (some (.aload_n 0, 25, [])) (none)))) (cond (Nat.beq pc 15) (some (.bipush 6, 17, [])) (cond (Nat.beq pc 17) (some (.iload_n 3, 18, [])) (none))))) (cond (Nat.ble 6 pc) (cond (Nat.ble 12 pc) (cond (Nat.beq pc 12) (some (.lconst 0, 13, [])) (cond (Nat.beq pc 13) (some (.lreturn, 14, [])) (cond (Nat.beq pc 14) (some (.iload_n 2, 15, [])) (none)))) (cond (Nat.beq pc 6) (some (.invokevirtual 301, 9, [])) (cond (Nat.beq pc 9) (some (.ifCond .ne 5, 12, [14])) (none)))) (cond (Nat.ble 2 pc) (cond (Nat.beq pc 2) (some (.iload_n 1, 3, [])) (cond (Nat.beq pc 3) (some (.invokevirtual 298, 6, [])) (none))) (cond (Nat.beq pc 0) (some (.aload_n 0, 1, [])) (cond (Nat.beq pc 1) (some (.aload_n 0, 2, [])) (none)))))))
theorem qkX9_cellControl_ok : ∀ pc i nx ts, qkX9_cellControl pc = some (i, nx, ts) → am_cok cX9_cellControl pc (i, nx, ts) = true := fun pc i nx ts h => am_tok_ok (n := 69) (by decide +kernel) (fun pc h => by show cond (Nat.ble 69 pc) _ _ = _; rw [Nat.ble_eq_true_of_le h]; rfl) h
def qaX9_cellControl : Nat → Option CE := fun k => cond (Nat.beq k 298) (some qeX9_isCurve) (cond (Nat.beq k 301) (some qeX9_checks) (cond (Nat.beq k 311) (some qeX9_isCell) (cond (Nat.beq k 305) (some qeX9_isPoint) (cond (Nat.beq k 163) (some qeX9_laysCell) (none)))))
theorem qyX9_cellControl (l : Launch) : ∀ k e1, qaX9_cellControl k = some e1 → am_cal l layM RX9 6 k e1 ∧ ceT e1 = 0 := q_cons ⟨am_calV (ci := 9) (qtX9_isCurve l) qbX9_isCurve (by decide) rfl (am_tb_at 1651 (by decide +kernel) rfl), rfl⟩ (q_cons ⟨am_calV (ci := 9) (qtX9_checks l) qbX9_checks (by decide) rfl (am_tb_at 1655 (by decide +kernel) rfl), rfl⟩ (q_cons ⟨am_calS (qtX9_isCell l) qbX9_isCell (by decide) rfl (by decide) (am_tb_at 1695 (by decide +kernel) rfl), rfl⟩ (q_cons ⟨am_calV (ci := 9) (qtX9_isPoint l) qbX9_isPoint (by decide) rfl (am_tb_at 1671 (by decide +kernel) rfl), rfl⟩ (q_cons ⟨am_calV (ci := 9) (qtX9_laysCell l) qbX9_laysCell (by decide) rfl (am_tb_at 1699 (by decide +kernel) rfl), rfl⟩ (q_nil)))))
def qxX9_cellControl : CX := (qkX9_cellControl, layM, qfX9, qaX9_cellControl, qcX9, qlX9, qmX9, (some .long), false, none, 0, none, fun _ => none)
theorem qzX9_cellControl (l : Launch) : am_sta l qxX9_cellControl RX9 6 cX9_cellControl := ⟨qkX9_cellControl_ok, layM_ok, qfX9_ok, qcX9_ok, qlX9_ok, am_mthP qmX9_ok (by decide), fun k e1 h => (qyX9_cellControl l k e1 h).1⟩
def qsX9_cellControl : SP := fun as F A K => match as with
  | [.inr (.inr o), .inl c, .inl d, .inl q, .inl k, .inl w] => cond (Nat.beq o 25) ((fgOK (mF A) ∧ (-2147483648 ≤ c ∧ c < 2147483648) ∧ (-2147483648 ≤ d ∧ d < 2147483648) ∧ (-2147483648 ≤ q ∧ q < 2147483648) ∧ (-2147483648 ≤ k ∧ k < 2147483648) ∧ (-2147483648 ≤ w ∧ w < 2147483648)) ∧ (∀ (G_1 : FF) (B_1 : AA), (qdP F G_1 A B_1 ∧ G_1 25 0 = (if 0 ≤ c ∧ c < mF A 0 then 0 else 1)) → (K (some (some (vL (if 0 ≤ c ∧ c < mF A 0 then (if (0 ≤ d ∧ d ≤ 6 ∧ 0 ≤ q ∧ q < p2 d) ∧ (0 ≤ k ∧ k < mF A (18 + c)) ∧ 0 ≤ w ∧ w ≤ 2 then ceX (mF A) c d.toNat q w k else -1) else 0)))) G_1 B_1))) (False)
  | _ => False
def qeX9_cellControl : CE := (yX9_cellControl, cX9_cellControl, 6, (some .long), 5, some 9, 0, [], 0, 6, qsX9_cellControl)
theorem qbX9_cellControl : am_mb qeX9_cellControl := ⟨am_tb_at 1694 (by decide +kernel) rfl, am_tb_at 124 (by decide +kernel) rfl, ⟨by decide, by decide, by decide +kernel⟩, by decide, by decide, am_tb_at 1692 (by decide +kernel) rfl, am_tb_at 1693 (by decide +kernel) rfl, _, _, rfl⟩
set_option maxRecDepth 20000 in
theorem qvX9_cellControl_25 (c : Int) (d : Int) (q : Int) (k : Int) (w : Int) (F : FF) (A : AA) (K : KK) (h : (fgOK (mF A) ∧ (-2147483648 ≤ c ∧ c < 2147483648) ∧ (-2147483648 ≤ d ∧ d < 2147483648) ∧ (-2147483648 ≤ q ∧ q < 2147483648) ∧ (-2147483648 ≤ k ∧ k < 2147483648) ∧ (-2147483648 ≤ w ∧ w < 2147483648)) ∧ (∀ (G_1 : FF) (B_1 : AA), (qdP F G_1 A B_1 ∧ G_1 25 0 = (if 0 ≤ c ∧ c < mF A 0 then 0 else 1)) → (K (some (some (vL (if 0 ≤ c ∧ c < mF A 0 then (if (0 ≤ d ∧ d ≤ 6 ∧ 0 ≤ q ∧ q < p2 d) ∧ (0 ≤ k ∧ k < mF A (18 + c)) ∧ 0 ≤ w ∧ w ≤ 2 then ceX (mF A) c d.toNat q w k else -1) else 0)))) G_1 B_1))) : am_line qxX9_cellControl 36 [vR 25, vI c, vI d, vI q, vI k, vI w] 6 F A K := by
  show am_stp qxX9_cellControl (am_run qxX9_cellControl (fun _ => none) (fun _ _ _ _ _ _ => False) K 36) K 0 [some (vR 25), some (vI c), some (vI d), some (vI q), some (vI k), some (vI w)] [] F A 0
  obtain ⟨hp, h⟩ := h
  have p1 := hp.1
  have q1 := p1.1.1
  have q2 := p1.1.2
  have q4 := p1.2.1

  show ((0 ≤ mF A 0 ∧ mF A 0 ≤ 8) ∧ (0 ≤ mF A 1 ∧ mF A 1 ≤ 6) ∧ (-2147483648 ≤ c ∧ c < 2147483648)) ∧ (((bi (0 ≤ c ∧ c < mF A 0)) = 0 ∨ (bi (0 ≤ c ∧ c < mF A 0)) = 1) ∧ ((w32 (bi (0 ≤ c ∧ c < mF A 0)) = w32 0 → (K (some (some (vL 0))) (upF F 25 0 (1 - (bi (0 ≤ c ∧ c < mF A 0)))) A)) ∧ (¬ (w32 (bi (0 ≤ c ∧ c < mF A 0)) = w32 0) → (((0 ≤ 6 ∧ 6 ≤ 12) ∧ (-2147483648 ≤ d ∧ d < 2147483648) ∧ (-2147483648 ≤ q ∧ q < 2147483648)) ∧ ((w32 (bi (0 ≤ d ∧ d ≤ 6 ∧ 0 ≤ q ∧ q < p2 d)) = w32 0 → (K (some (some (vL (-1)))) (upF F 25 0 (1 - (bi (0 ≤ c ∧ c < mF A 0)))) A)) ∧ (¬ (w32 (bi (0 ≤ d ∧ d ≤ 6 ∧ 0 ≤ q ∧ q < p2 d)) = w32 0) → (((0 ≤ c ∧ c < 8) ∧ (2 ≤ mF A (18 + c) ∧ mF A (18 + c) ≤ 4) ∧ (-2147483648 ≤ k ∧ k < 2147483648)) ∧ ((w32 (bi (0 ≤ k ∧ k < mF A (18 + c))) = w32 0 → (K (some (some (vL (-1)))) (upF F 25 0 (1 - (bi (0 ≤ c ∧ c < mF A 0)))) A)) ∧ (¬ (w32 (bi (0 ≤ k ∧ k < mF A (18 + c))) = w32 0) → ((w32 w < w32 0 → (K (some (some (vL (-1)))) (upF F 25 0 (1 - (bi (0 ≤ c ∧ c < mF A 0)))) A)) ∧ (¬ w32 w < w32 0 → ((w32 2 < w32 w → (K (some (some (vL (-1)))) (upF F 25 0 (1 - (bi (0 ≤ c ∧ c < mF A 0)))) A)) ∧ (¬ w32 2 < w32 w → ((fgOK (mF A) ∧ (0 ≤ c ∧ c < mF A 0) ∧ (0 ≤ d ∧ d ≤ 6) ∧ 0 ≤ q ∧ q < p2 d) ∧ (∀ (B_1 : AA), ((∀ b i, b ≠ 32 ∧ b ≠ 33 → B_1 b i = A b i) ∧ ∀ w k, 0 ≤ w → w ≤ 2 → 0 ≤ k → k < mF A (18 + c) → B_1 33 (4 * w + k) = ceX (mF A) c (Int.toNat d) q w k) → ((0 ≤ w32 ((4 * w) + k) ∧ w32 ((4 * w) + k) < 12) ∧ (K (some (some (vL (B_1 33 (w32 ((4 * w) + k)))))) (upF F 25 0 (1 - (bi (0 ≤ c ∧ c < mF A 0)))) B_1)))))))))))))))))
  refine ⟨by omega, ?_⟩
  refine ⟨by first | exact bi_01 | omega | (have q3 := (p1.2.2.1 c c1.1 c1.2).1; first | omega | exact ⟨by omega, by omega, by omega⟩ | exact ⟨p1, c1, by omega, by omega⟩ | exact ⟨p1, c1, ⟨by omega, by omega⟩, by omega, by omega⟩ | (rw [w32_id (by omega) (by omega)]; omega)), ?_⟩
  refine ⟨fun c1 => ?_, fun c1 => ?_⟩
  · skip
    (try simp only [w32_0, wbi0, Classical.not_not] at c1); (try simp (disch := omega) only [w32_id] at c1)
    first
    | exact L_eq (h _ _ ⟨qdP_F (by decide), by rw [upF_s, bi_f c1, if_neg c1]; rfl⟩) (if_neg c1)
    | (refine L_eq (h _ _ ⟨qdP_F (by decide), by rw [upF_s, bi_t c1, if_pos c1]; rfl⟩) ?_; rw [if_pos c1, if_neg (by omega)]; done)
    | (have q3 := (p1.2.2.1 c c1.1 c1.2).1
       refine L_eq (h _ _ ⟨qdP_trans (qdP_F (by decide)) (qdP_A (fun b i hb => g1.1 b i (by omega))), by rw [upF_s, bi_t c1, if_pos c1]; rfl⟩) ?_
       rw [if_pos c1, if_pos (by omega), w32_id (by omega) (by omega)]
       exact (g1.2 w k (by omega) (by omega) (by omega) (by omega)).symm)
  · skip
    (try simp only [w32_0, wbi0, Classical.not_not] at c1); (try simp (disch := omega) only [w32_id] at c1)
    refine ⟨by first | exact bi_01 | omega | (have q3 := (p1.2.2.1 c c1.1 c1.2).1; first | omega | exact ⟨by omega, by omega, by omega⟩ | exact ⟨p1, c1, by omega, by omega⟩ | exact ⟨p1, c1, ⟨by omega, by omega⟩, by omega, by omega⟩ | (rw [w32_id (by omega) (by omega)]; omega)), ?_⟩
    refine ⟨fun c2 => ?_, fun c2 => ?_⟩
    · skip
      (try simp only [w32_0, wbi0, Classical.not_not] at c2); (try simp (disch := omega) only [w32_id] at c2)
      first
      | exact L_eq (h _ _ ⟨qdP_F (by decide), by rw [upF_s, bi_f c1, if_neg c1]; rfl⟩) (if_neg c1)
      | (refine L_eq (h _ _ ⟨qdP_F (by decide), by rw [upF_s, bi_t c1, if_pos c1]; rfl⟩) ?_; rw [if_pos c1, if_neg (by omega)]; done)
      | (have q3 := (p1.2.2.1 c c1.1 c1.2).1
         refine L_eq (h _ _ ⟨qdP_trans (qdP_F (by decide)) (qdP_A (fun b i hb => g1.1 b i (by omega))), by rw [upF_s, bi_t c1, if_pos c1]; rfl⟩) ?_
         rw [if_pos c1, if_pos (by omega), w32_id (by omega) (by omega)]
         exact (g1.2 w k (by omega) (by omega) (by omega) (by omega)).symm)
    · skip
      (try simp only [w32_0, wbi0, Classical.not_not] at c2); (try simp (disch := omega) only [w32_id] at c2)
      refine ⟨by first | exact bi_01 | omega | (have q3 := (p1.2.2.1 c c1.1 c1.2).1; first | omega | exact ⟨by omega, by omega, by omega⟩ | exact ⟨p1, c1, by omega, by omega⟩ | exact ⟨p1, c1, ⟨by omega, by omega⟩, by omega, by omega⟩ | (rw [w32_id (by omega) (by omega)]; omega)), ?_⟩
      refine ⟨fun c3 => ?_, fun c3 => ?_⟩
      · skip
        (try simp only [w32_0, wbi0, Classical.not_not] at c3); (try simp (disch := omega) only [w32_id] at c3)
        first
        | exact L_eq (h _ _ ⟨qdP_F (by decide), by rw [upF_s, bi_f c1, if_neg c1]; rfl⟩) (if_neg c1)
        | (refine L_eq (h _ _ ⟨qdP_F (by decide), by rw [upF_s, bi_t c1, if_pos c1]; rfl⟩) ?_; rw [if_pos c1, if_neg (by omega)]; done)
        | (have q3 := (p1.2.2.1 c c1.1 c1.2).1
           refine L_eq (h _ _ ⟨qdP_trans (qdP_F (by decide)) (qdP_A (fun b i hb => g1.1 b i (by omega))), by rw [upF_s, bi_t c1, if_pos c1]; rfl⟩) ?_
           rw [if_pos c1, if_pos (by omega), w32_id (by omega) (by omega)]
           exact (g1.2 w k (by omega) (by omega) (by omega) (by omega)).symm)
      · skip
        (try simp only [w32_0, wbi0, Classical.not_not] at c3); (try simp (disch := omega) only [w32_id] at c3)
        refine ⟨fun c4 => ?_, fun c4 => ?_⟩
        · skip
          (try simp only [w32_0, wbi0, Classical.not_not] at c4); (try simp (disch := omega) only [w32_id] at c4)
          first
          | exact L_eq (h _ _ ⟨qdP_F (by decide), by rw [upF_s, bi_f c1, if_neg c1]; rfl⟩) (if_neg c1)
          | (refine L_eq (h _ _ ⟨qdP_F (by decide), by rw [upF_s, bi_t c1, if_pos c1]; rfl⟩) ?_; rw [if_pos c1, if_neg (by omega)]; done)
          | (have q3 := (p1.2.2.1 c c1.1 c1.2).1
             refine L_eq (h _ _ ⟨qdP_trans (qdP_F (by decide)) (qdP_A (fun b i hb => g1.1 b i (by omega))), by rw [upF_s, bi_t c1, if_pos c1]; rfl⟩) ?_
             rw [if_pos c1, if_pos (by omega), w32_id (by omega) (by omega)]
             exact (g1.2 w k (by omega) (by omega) (by omega) (by omega)).symm)
        · skip
          (try simp only [w32_0, wbi0, Classical.not_not] at c4); (try simp (disch := omega) only [w32_id] at c4)
          refine ⟨fun c5 => ?_, fun c5 => ?_⟩
          · skip
            (try simp only [w32_0, wbi0, Classical.not_not] at c5); (try simp (disch := omega) only [w32_id] at c5)
            first
            | exact L_eq (h _ _ ⟨qdP_F (by decide), by rw [upF_s, bi_f c1, if_neg c1]; rfl⟩) (if_neg c1)
            | (refine L_eq (h _ _ ⟨qdP_F (by decide), by rw [upF_s, bi_t c1, if_pos c1]; rfl⟩) ?_; rw [if_pos c1, if_neg (by omega)]; done)
            | (have q3 := (p1.2.2.1 c c1.1 c1.2).1
               refine L_eq (h _ _ ⟨qdP_trans (qdP_F (by decide)) (qdP_A (fun b i hb => g1.1 b i (by omega))), by rw [upF_s, bi_t c1, if_pos c1]; rfl⟩) ?_
               rw [if_pos c1, if_pos (by omega), w32_id (by omega) (by omega)]
               exact (g1.2 w k (by omega) (by omega) (by omega) (by omega)).symm)
          · skip
            (try simp only [w32_0, wbi0, Classical.not_not] at c5); (try simp (disch := omega) only [w32_id] at c5)
            refine ⟨by first | exact bi_01 | omega | (have q3 := (p1.2.2.1 c c1.1 c1.2).1; first | omega | exact ⟨by omega, by omega, by omega⟩ | exact ⟨p1, c1, by omega, by omega⟩ | exact ⟨p1, c1, ⟨by omega, by omega⟩, by omega, by omega⟩ | (rw [w32_id (by omega) (by omega)]; omega)), ?_⟩
            intro B_1 g1
            refine ⟨by first | exact bi_01 | omega | (have q3 := (p1.2.2.1 c c1.1 c1.2).1; first | omega | exact ⟨by omega, by omega, by omega⟩ | exact ⟨p1, c1, by omega, by omega⟩ | exact ⟨p1, c1, ⟨by omega, by omega⟩, by omega, by omega⟩ | (rw [w32_id (by omega) (by omega)]; omega)), ?_⟩
            first
            | exact L_eq (h _ _ ⟨qdP_F (by decide), by rw [upF_s, bi_f c1, if_neg c1]; rfl⟩) (if_neg c1)
            | (refine L_eq (h _ _ ⟨qdP_F (by decide), by rw [upF_s, bi_t c1, if_pos c1]; rfl⟩) ?_; rw [if_pos c1, if_neg (by omega)]; done)
            | (have q3 := (p1.2.2.1 c c1.1 c1.2).1
               refine L_eq (h _ _ ⟨qdP_trans (qdP_F (by decide)) (qdP_A (fun b i hb => g1.1 b i (by omega))), by rw [upF_s, bi_t c1, if_pos c1]; rfl⟩) ?_
               rw [if_pos c1, if_pos (by omega), w32_id (by omega) (by omega)]
               exact (g1.2 w k (by omega) (by omega) (by omega) (by omega)).symm)
theorem qtX9_cellControl (l : Launch) : am_CT l layM qeX9_cellControl := am_met0 rfl (by decide +kernel) rfl rfl rfl rfl rfl (fun _ => rfl) rfl (qzX9_cellControl l) (fun k e1 h => (qyX9_cellControl l k e1 h).2) (fun as F A K h => by
  replace h : qsX9_cellControl as F A K := h
  unfold qsX9_cellControl at h
  split at h
  · rename_i o c d q k w
    refine ⟨by first | exact Nat.le_of_ble_eq_true rfl | simp [am_fl, am_cat], ?_⟩
    replace h := am_cond2 h
    rcases h with ⟨hb, h⟩ | h
    · skip
      have hb0 := hb
      have hb0 := am_bq hb0
      subst hb0
      exact am_way_line (qvX9_cellControl_25 c d q k w F A K h)
    exact h.elim
  · exact h.elim)
def qkX9_boxSide : Nat → Option CI := fun pc => cond (Nat.ble 108 pc) none (cond (Nat.ble 57 pc) (cond (Nat.ble 80 pc) (cond (Nat.ble 96 pc) (cond (Nat.ble 102 pc) (cond (Nat.ble 105 pc) (cond (Nat.beq pc 105) (some (.ldiv, 106, [])) (cond (Nat.beq pc 106) (some (.l2i, 107, [])) (cond (Nat.beq pc 107) (some (.ireturn, 108, [])) (none)))) (cond (Nat.beq pc 102) (some (.lsub, 103, [])) (cond (Nat.beq pc 103) (some (.lload 7, 105, [])) (none)))) (cond (Nat.ble 100 pc) (cond (Nat.beq pc 100) (some (.ladd, 101, [])) (cond (Nat.beq pc 101) (some (.lconst 1, 102, [])) (none))) (cond (Nat.beq pc 96) (some (.lload 5, 98, [])) (cond (Nat.beq pc 98) (some (.lload 7, 100, [])) (none))))) (cond (Nat.ble 88 pc) (cond (Nat.ble 92 pc) (cond (Nat.beq pc 92) (some (.ldiv, 93, [])) (cond (Nat.beq pc 93) (some (.goto 13, 96, [106])) (none))) (cond (Nat.beq pc 88) (some (.lload 5, 90, [])) (cond (Nat.beq pc 90) (some (.lload 7, 92, [])) (none)))) (cond (Nat.ble 84 pc) (cond (Nat.beq pc 84) (some (.iconst 2, 85, [])) (cond (Nat.beq pc 85) (some (.if_icmp .ge 11, 88, [96])) (none))) (cond (Nat.beq pc 80) (some (.lstore 7, 82, [])) (cond (Nat.beq pc 82) (some (.iload 4, 84, [])) (none)))))) (cond (Nat.ble 69 pc) (cond (Nat.ble 76 pc) (cond (Nat.ble 78 pc) (cond (Nat.beq pc 78) (some (.iadd, 79, [])) (cond (Nat.beq pc 79) (some (.laload, 80, [])) (none))) (cond (Nat.beq pc 76) (some (.imul, 77, [])) (cond (Nat.beq pc 77) (some (.iconst 1, 78, [])) (none)))) (cond (Nat.ble 73 pc) (cond (Nat.beq pc 73) (some (.iconst 2, 74, [])) (cond (Nat.beq pc 74) (some (.iload 4, 76, [])) (none))) (cond (Nat.beq pc 69) (some (.aload_n 0, 70, [])) (cond (Nat.beq pc 70) (some (.getfield 47, 73, [])) (none))))) (cond (Nat.ble 64 pc) (cond (Nat.ble 66 pc) (cond (Nat.beq pc 66) (some (.lmul, 67, [])) (cond (Nat.beq pc 67) (some (.lstore 5, 69, [])) (none))) (cond (Nat.beq pc 64) (some (.imul, 65, [])) (cond (Nat.beq pc 65) (some (.laload, 66, [])) (none)))) (cond (Nat.ble 61 pc) (cond (Nat.beq pc 61) (some (.iconst 2, 62, [])) (cond (Nat.beq pc 62) (some (.iload 4, 64, [])) (none))) (cond (Nat.beq pc 57) (some (.aload_n 0, 58, [])) (cond (Nat.beq pc 58) (some (.getfield 47, 61, [])) (none))))))) (cond (Nat.ble 31 pc) (cond (Nat.ble 41 pc) (cond (Nat.ble 47 pc) (cond (Nat.ble 51 pc) (cond (Nat.beq pc 51) (some (.invokevirtual 169, 54, [])) (cond (Nat.beq pc 54) (some (.ldc2_w 324, 57, [])) (none))) (cond (Nat.beq pc 47) (some (.iload_n 1, 48, [])) (cond (Nat.beq pc 48) (some (.invokevirtual 80, 51, [])) (none)))) (cond (Nat.ble 45 pc) (cond (Nat.beq pc 45) (some (.iconst 0, 46, [])) (cond (Nat.beq pc 46) (some (.aload_n 0, 47, [])) (none))) (cond (Nat.beq pc 41) (some (.invokevirtual 163, 44, [])) (cond (Nat.beq pc 44) (some (.aload_n 0, 45, [])) (none))))) (cond (Nat.ble 37 pc) (cond (Nat.ble 39 pc) (cond (Nat.beq pc 39) (some (.iload_n 2, 40, [])) (cond (Nat.beq pc 40) (some (.iload_n 3, 41, [])) (none))) (cond (Nat.beq pc 37) (some (.aload_n 0, 38, [])) (cond (Nat.beq pc 38) (some (.iload_n 1, 39, [])) (none)))) (cond (Nat.ble 35 pc) (cond (Nat.beq pc 35) (some (.iconst (-1), 36, [])) (cond (Nat.beq pc 36) (some (.ireturn, 37, [])) (none))) (cond (Nat.beq pc 31) (some (.iconst 3, 32, [])) (cond (Nat.beq pc 32) (some (.if_icmp .le 5, 35, [37])) (none)))))) (cond (Nat.ble 14 pc) (cond (Nat.ble 21 pc) (cond (Nat.ble 26 pc) (cond (Nat.beq pc 26) (some (.ifCond .lt 9, 29, [35])) (cond (Nat.beq pc 29) (some (.iload 4, 31, [])) (none))) (cond (Nat.beq pc 21) (some (.ifCond .eq 14, 24, [35])) (cond (Nat.beq pc 24) (some (.iload 4, 26, [])) (none)))) (cond (Nat.ble 17 pc) (cond (Nat.beq pc 17) (some (.iload_n 3, 18, [])) (cond (Nat.beq pc 18) (some (.invokestatic 311, 21, [])) (none))) (cond (Nat.beq pc 14) (some (.iload_n 2, 15, [])) (cond (Nat.beq pc 15) (some (.bipush 6, 17, [])) (none))))) (cond (Nat.ble 6 pc) (cond (Nat.ble 12 pc) (cond (Nat.beq pc 12) (some (.iconst 0, 13, [])) (cond (Nat.beq pc 13) (some (.ireturn, 14, [])) (none))) (cond (Nat.beq pc 6) (some (.invokevirtual 301, 9, [])) (cond (Nat.beq pc 9) (some (.ifCond .ne 5, 12, [14])) (none)))) (cond (Nat.ble 2 pc) (cond (Nat.beq pc 2) (some (.iload_n 1, 3, [])) (cond (Nat.beq pc 3) (some (.invokevirtual 298, 6, [])) (none))) (cond (Nat.beq pc 0) (some (.aload_n 0, 1, [])) (cond (Nat.beq pc 1) (some (.aload_n 0, 2, [])) (none))))))))
theorem qkX9_boxSide_ok : ∀ pc i nx ts, qkX9_boxSide pc = some (i, nx, ts) → am_cok cX9_boxSide pc (i, nx, ts) = true := fun pc i nx ts h => am_tok_ok (n := 108) (by decide +kernel) (fun pc h => by show cond (Nat.ble 108 pc) _ _ = _; rw [Nat.ble_eq_true_of_le h]; rfl) h
def qaX9_boxSide : Nat → Option CE := fun k => cond (Nat.beq k 298) (some qeX9_isCurve) (cond (Nat.beq k 301) (some qeX9_checks) (cond (Nat.beq k 311) (some qeX9_isCell) (cond (Nat.beq k 163) (some qeX9_laysCell) (cond (Nat.beq k 80) (some qeX9_order) (cond (Nat.beq k 169) (some qeX9_laysBox) (none))))))
theorem qyX9_boxSide (l : Launch) : ∀ k e1, qaX9_boxSide k = some e1 → am_cal l layM RX9 6 k e1 ∧ ceT e1 = 0 := q_cons ⟨am_calV (ci := 9) (qtX9_isCurve l) qbX9_isCurve (by decide) rfl (am_tb_at 1651 (by decide +kernel) rfl), rfl⟩ (q_cons ⟨am_calV (ci := 9) (qtX9_checks l) qbX9_checks (by decide) rfl (am_tb_at 1655 (by decide +kernel) rfl), rfl⟩ (q_cons ⟨am_calS (qtX9_isCell l) qbX9_isCell (by decide) rfl (by decide) (am_tb_at 1695 (by decide +kernel) rfl), rfl⟩ (q_cons ⟨am_calV (ci := 9) (qtX9_laysCell l) qbX9_laysCell (by decide) rfl (am_tb_at 1699 (by decide +kernel) rfl), rfl⟩ (q_cons ⟨am_calV (ci := 9) (qtX9_order l) qbX9_order (by decide) rfl (am_tb_at 1659 (by decide +kernel) rfl), rfl⟩ (q_cons ⟨am_calV (ci := 9) (qtX9_laysBox l) qbX9_laysBox (by decide) rfl (am_tb_at 1730 (by decide +kernel) rfl), rfl⟩ (q_nil))))))
def qxX9_boxSide : CX := (qkX9_boxSide, layM, qfX9, qaX9_boxSide, qcX9, qlX9, qmX9, (some .int), false, none, 0, none, fun _ => none)
theorem qzX9_boxSide (l : Launch) : am_sta l qxX9_boxSide RX9 6 cX9_boxSide := ⟨qkX9_boxSide_ok, layM_ok, qfX9_ok, qcX9_ok, qlX9_ok, am_mthP qmX9_ok (by decide), fun k e1 h => (qyX9_boxSide l k e1 h).1⟩
def qsX9_boxSide : SP := fun as F A K => match as with
  | [.inr (.inr o), .inl c, .inl d, .inl q, .inl s] => cond (Nat.beq o 25) ((fgOK (mF A) ∧ (-2147483648 ≤ c ∧ c < 2147483648) ∧ (-2147483648 ≤ d ∧ d < 2147483648) ∧ (-2147483648 ≤ q ∧ q < 2147483648) ∧ (-2147483648 ≤ s ∧ s < 2147483648)) ∧ (∀ (G_1 : FF) (B_1 : AA), (qdP F G_1 A B_1 ∧ G_1 25 0 = (if 0 ≤ c ∧ c < mF A 0 then 0 else 1)) → (K (some (some (vI (if 0 ≤ c ∧ c < mF A 0 then (if (0 ≤ d ∧ d ≤ 6 ∧ 0 ≤ q ∧ q < p2 d) ∧ 0 ≤ s ∧ s ≤ 3 then bxF (mF A) c d q s else -1) else 0)))) G_1 B_1))) (False)
  | _ => False
def qeX9_boxSide : CE := (yX9_boxSide, cX9_boxSide, 9, (some .int), 4, some 9, 0, [], 0, 6, qsX9_boxSide)
theorem qbX9_boxSide : am_mb qeX9_boxSide := ⟨am_tb_at 1729 (by decide +kernel) rfl, am_tb_at 124 (by decide +kernel) rfl, ⟨by decide, by decide, by decide +kernel⟩, by decide, by decide, am_tb_at 1727 (by decide +kernel) rfl, am_tb_at 1728 (by decide +kernel) rfl, _, _, rfl⟩
set_option maxRecDepth 20000 in
theorem qvX9_boxSide_25 (c : Int) (d : Int) (q : Int) (s : Int) (F : FF) (A : AA) (K : KK) (h : (fgOK (mF A) ∧ (-2147483648 ≤ c ∧ c < 2147483648) ∧ (-2147483648 ≤ d ∧ d < 2147483648) ∧ (-2147483648 ≤ q ∧ q < 2147483648) ∧ (-2147483648 ≤ s ∧ s < 2147483648)) ∧ (∀ (G_1 : FF) (B_1 : AA), (qdP F G_1 A B_1 ∧ G_1 25 0 = (if 0 ≤ c ∧ c < mF A 0 then 0 else 1)) → (K (some (some (vI (if 0 ≤ c ∧ c < mF A 0 then (if (0 ≤ d ∧ d ≤ 6 ∧ 0 ≤ q ∧ q < p2 d) ∧ 0 ≤ s ∧ s ≤ 3 then bxF (mF A) c d q s else -1) else 0)))) G_1 B_1))) : am_line qxX9_boxSide 58 [vR 25, vI c, vI d, vI q, vI s] 9 F A K := by
  show am_stp qxX9_boxSide (am_run qxX9_boxSide (fun _ => none) (fun _ _ _ _ _ _ => False) K 58) K 0 [some (vR 25), some (vI c), some (vI d), some (vI q), some (vI s), none, none, none, none] [] F A 0
  obtain ⟨hp, h⟩ := h
  have p1 := hp.1
  have q1 := p1.1.1
  have q2 := p1.1.2
  have q4 := p1.2.1

  show ((0 ≤ mF A 0 ∧ mF A 0 ≤ 8) ∧ (0 ≤ mF A 1 ∧ mF A 1 ≤ 6) ∧ (-2147483648 ≤ c ∧ c < 2147483648)) ∧ (((bi (0 ≤ c ∧ c < mF A 0)) = 0 ∨ (bi (0 ≤ c ∧ c < mF A 0)) = 1) ∧ ((w32 (bi (0 ≤ c ∧ c < mF A 0)) = w32 0 → (K (some (some (vI 0))) (upF F 25 0 (1 - (bi (0 ≤ c ∧ c < mF A 0)))) A)) ∧ (¬ (w32 (bi (0 ≤ c ∧ c < mF A 0)) = w32 0) → (((0 ≤ 6 ∧ 6 ≤ 12) ∧ (-2147483648 ≤ d ∧ d < 2147483648) ∧ (-2147483648 ≤ q ∧ q < 2147483648)) ∧ ((w32 (bi (0 ≤ d ∧ d ≤ 6 ∧ 0 ≤ q ∧ q < p2 d)) = w32 0 → (K (some (some (vI (-1)))) (upF F 25 0 (1 - (bi (0 ≤ c ∧ c < mF A 0)))) A)) ∧ (¬ (w32 (bi (0 ≤ d ∧ d ≤ 6 ∧ 0 ≤ q ∧ q < p2 d)) = w32 0) → ((w32 s < w32 0 → (K (some (some (vI (-1)))) (upF F 25 0 (1 - (bi (0 ≤ c ∧ c < mF A 0)))) A)) ∧ (¬ w32 s < w32 0 → ((w32 3 < w32 s → (K (some (some (vI (-1)))) (upF F 25 0 (1 - (bi (0 ≤ c ∧ c < mF A 0)))) A)) ∧ (¬ w32 3 < w32 s → ((fgOK (mF A) ∧ (0 ≤ c ∧ c < mF A 0) ∧ (0 ≤ d ∧ d ≤ 6) ∧ 0 ≤ q ∧ q < p2 d) ∧ (∀ (B_1 : AA), ((∀ b i, b ≠ 32 ∧ b ≠ 33 → B_1 b i = A b i) ∧ ∀ w k, 0 ≤ w → w ≤ 2 → 0 ≤ k → k < mF A (18 + c) → B_1 33 (4 * w + k) = ceX (mF A) c (Int.toNat d) q w k) → ((0 ≤ c ∧ c < 8) ∧ (((0 ≤ 0 ∧ 0 ≤ 2024) ∧ (1 ≤ (mF B_1 (18 + c) - 1) ∧ (mF B_1 (18 + c) - 1) ≤ 3) ∧ clO (B_1 33) (mF B_1 (18 + c) - 1)) ∧ (∀ (B_2 : AA), ((∀ bb ii, bb ≠ 38 ∨ ii < 0 ∨ 0 + 8 ≤ ii → B_2 bb ii = B_1 bb ii) ∧ ∀ ss, 0 ≤ ss → ss < 4 → lbP (B_1 33) (mF B_1 (18 + c) - 1) (B_2 38) 0 ss) → ((0 ≤ w32 (2 * s) ∧ w32 (2 * s) < 2032) ∧ ((0 ≤ w32 ((2 * s) + 1) ∧ w32 ((2 * s) + 1) < 2032) ∧ ((w32 s < w32 2 → ((w64 (B_2 38 (w32 ((2 * s) + 1))) ≠ 0) ∧ (K (some (some (vI (y_div (100 * (B_2 38 (w32 (2 * s)))) (B_2 38 (w32 ((2 * s) + 1))))))) (upF F 25 0 (1 - (bi (0 ≤ c ∧ c < mF A 0)))) B_2))) ∧ (¬ w32 s < w32 2 → ((w64 (B_2 38 (w32 ((2 * s) + 1))) ≠ 0) ∧ (K (some (some (vI (y_div (((100 * (B_2 38 (w32 (2 * s)))) + (B_2 38 (w32 ((2 * s) + 1)))) - 1) (B_2 38 (w32 ((2 * s) + 1))))))) (upF F 25 0 (1 - (bi (0 ≤ c ∧ c < mF A 0)))) B_2)))))))))))))))))))))
  refine ⟨by omega, ?_⟩
  refine ⟨by first | exact bi_01 | omega | (rw [w64_id (by omega) (by omega)]; omega) | (have q3 := (p1.2.2.1 c c1.1 c1.2).1; first | omega | exact ⟨by omega, by omega, by omega⟩ | exact ⟨p1, c1, by omega, by omega⟩ | exact ⟨p1, c1, ⟨by omega, by omega⟩, by omega, by omega⟩ | (rw [w32_id (by omega) (by omega)]; omega)) | (have q3 := (p1.2.2.1 c c1.1 c1.2).1; have eF : mF B_1 = mF A := mF_c (funext fun i => g1.1 2 i (by decide)) (funext fun i => g1.1 27 i (by decide)) (funext fun i => g1.1 29 i (by decide)); rw [eF]; exact ⟨by omega, by omega, ce_clO p1 (q := q) (d := d.toNat) (by omega) c1.1 c1.2 g1.2⟩), ?_⟩
  refine ⟨fun c1 => ?_, fun c1 => ?_⟩
  · skip
    (try simp only [w32_0, wbi0, Classical.not_not] at c1); (try simp (disch := omega) only [w32_id] at c1)
    first
    | exact K_eq (h _ _ ⟨qdP_F (by decide), by rw [upF_s, bi_f c1, if_neg c1]; rfl⟩) (if_neg c1)
    | (refine K_eq (h _ _ ⟨qdP_F (by decide), by rw [upF_s, bi_t c1, if_pos c1]; rfl⟩) ?_; rw [if_pos c1, if_neg (by omega)]; done)
    | (refine K_eq (h _ _ ⟨qdP_trans (qdP_F (by decide)) (qdP_A (fun b i hb => (g2.1 b i (by omega)).trans (g1.1 b i (by omega)))), by rw [upF_s, bi_t c1, if_pos c1]; rfl⟩) ?_
       rw [if_pos c1, if_pos (by omega), y_div_eq (by omega) (by omega) (by omega) (by omega)]
       unfold bxF
       rw [hX, hW]
       first | (rw [if_pos (show s < 2 by omega)]; done) | (rw [if_neg (show ¬ s < 2 by omega)]; done))
  · skip
    (try simp only [w32_0, wbi0, Classical.not_not] at c1); (try simp (disch := omega) only [w32_id] at c1)
    refine ⟨by first | exact bi_01 | omega | (rw [w64_id (by omega) (by omega)]; omega) | (have q3 := (p1.2.2.1 c c1.1 c1.2).1; first | omega | exact ⟨by omega, by omega, by omega⟩ | exact ⟨p1, c1, by omega, by omega⟩ | exact ⟨p1, c1, ⟨by omega, by omega⟩, by omega, by omega⟩ | (rw [w32_id (by omega) (by omega)]; omega)) | (have q3 := (p1.2.2.1 c c1.1 c1.2).1; have eF : mF B_1 = mF A := mF_c (funext fun i => g1.1 2 i (by decide)) (funext fun i => g1.1 27 i (by decide)) (funext fun i => g1.1 29 i (by decide)); rw [eF]; exact ⟨by omega, by omega, ce_clO p1 (q := q) (d := d.toNat) (by omega) c1.1 c1.2 g1.2⟩), ?_⟩
    refine ⟨fun c2 => ?_, fun c2 => ?_⟩
    · skip
      (try simp only [w32_0, wbi0, Classical.not_not] at c2); (try simp (disch := omega) only [w32_id] at c2)
      first
      | exact K_eq (h _ _ ⟨qdP_F (by decide), by rw [upF_s, bi_f c1, if_neg c1]; rfl⟩) (if_neg c1)
      | (refine K_eq (h _ _ ⟨qdP_F (by decide), by rw [upF_s, bi_t c1, if_pos c1]; rfl⟩) ?_; rw [if_pos c1, if_neg (by omega)]; done)
      | (refine K_eq (h _ _ ⟨qdP_trans (qdP_F (by decide)) (qdP_A (fun b i hb => (g2.1 b i (by omega)).trans (g1.1 b i (by omega)))), by rw [upF_s, bi_t c1, if_pos c1]; rfl⟩) ?_
         rw [if_pos c1, if_pos (by omega), y_div_eq (by omega) (by omega) (by omega) (by omega)]
         unfold bxF
         rw [hX, hW]
         first | (rw [if_pos (show s < 2 by omega)]; done) | (rw [if_neg (show ¬ s < 2 by omega)]; done))
    · skip
      (try simp only [w32_0, wbi0, Classical.not_not] at c2); (try simp (disch := omega) only [w32_id] at c2)
      refine ⟨fun c3 => ?_, fun c3 => ?_⟩
      · skip
        (try simp only [w32_0, wbi0, Classical.not_not] at c3); (try simp (disch := omega) only [w32_id] at c3)
        first
        | exact K_eq (h _ _ ⟨qdP_F (by decide), by rw [upF_s, bi_f c1, if_neg c1]; rfl⟩) (if_neg c1)
        | (refine K_eq (h _ _ ⟨qdP_F (by decide), by rw [upF_s, bi_t c1, if_pos c1]; rfl⟩) ?_; rw [if_pos c1, if_neg (by omega)]; done)
        | (refine K_eq (h _ _ ⟨qdP_trans (qdP_F (by decide)) (qdP_A (fun b i hb => (g2.1 b i (by omega)).trans (g1.1 b i (by omega)))), by rw [upF_s, bi_t c1, if_pos c1]; rfl⟩) ?_
           rw [if_pos c1, if_pos (by omega), y_div_eq (by omega) (by omega) (by omega) (by omega)]
           unfold bxF
           rw [hX, hW]
           first | (rw [if_pos (show s < 2 by omega)]; done) | (rw [if_neg (show ¬ s < 2 by omega)]; done))
      · skip
        (try simp only [w32_0, wbi0, Classical.not_not] at c3); (try simp (disch := omega) only [w32_id] at c3)
        refine ⟨fun c4 => ?_, fun c4 => ?_⟩
        · skip
          (try simp only [w32_0, wbi0, Classical.not_not] at c4); (try simp (disch := omega) only [w32_id] at c4)
          first
          | exact K_eq (h _ _ ⟨qdP_F (by decide), by rw [upF_s, bi_f c1, if_neg c1]; rfl⟩) (if_neg c1)
          | (refine K_eq (h _ _ ⟨qdP_F (by decide), by rw [upF_s, bi_t c1, if_pos c1]; rfl⟩) ?_; rw [if_pos c1, if_neg (by omega)]; done)
          | (refine K_eq (h _ _ ⟨qdP_trans (qdP_F (by decide)) (qdP_A (fun b i hb => (g2.1 b i (by omega)).trans (g1.1 b i (by omega)))), by rw [upF_s, bi_t c1, if_pos c1]; rfl⟩) ?_
             rw [if_pos c1, if_pos (by omega), y_div_eq (by omega) (by omega) (by omega) (by omega)]
             unfold bxF
             rw [hX, hW]
             first | (rw [if_pos (show s < 2 by omega)]; done) | (rw [if_neg (show ¬ s < 2 by omega)]; done))
        · skip
          (try simp only [w32_0, wbi0, Classical.not_not] at c4); (try simp (disch := omega) only [w32_id] at c4)
          refine ⟨by first | exact bi_01 | omega | (rw [w64_id (by omega) (by omega)]; omega) | (have q3 := (p1.2.2.1 c c1.1 c1.2).1; first | omega | exact ⟨by omega, by omega, by omega⟩ | exact ⟨p1, c1, by omega, by omega⟩ | exact ⟨p1, c1, ⟨by omega, by omega⟩, by omega, by omega⟩ | (rw [w32_id (by omega) (by omega)]; omega)) | (have q3 := (p1.2.2.1 c c1.1 c1.2).1; have eF : mF B_1 = mF A := mF_c (funext fun i => g1.1 2 i (by decide)) (funext fun i => g1.1 27 i (by decide)) (funext fun i => g1.1 29 i (by decide)); rw [eF]; exact ⟨by omega, by omega, ce_clO p1 (q := q) (d := d.toNat) (by omega) c1.1 c1.2 g1.2⟩), ?_⟩
          intro B_1 g1
          refine ⟨by first | exact bi_01 | omega | (rw [w64_id (by omega) (by omega)]; omega) | (have q3 := (p1.2.2.1 c c1.1 c1.2).1; first | omega | exact ⟨by omega, by omega, by omega⟩ | exact ⟨p1, c1, by omega, by omega⟩ | exact ⟨p1, c1, ⟨by omega, by omega⟩, by omega, by omega⟩ | (rw [w32_id (by omega) (by omega)]; omega)) | (have q3 := (p1.2.2.1 c c1.1 c1.2).1; have eF : mF B_1 = mF A := mF_c (funext fun i => g1.1 2 i (by decide)) (funext fun i => g1.1 27 i (by decide)) (funext fun i => g1.1 29 i (by decide)); rw [eF]; exact ⟨by omega, by omega, ce_clO p1 (q := q) (d := d.toNat) (by omega) c1.1 c1.2 g1.2⟩), ?_⟩
          refine ⟨by first | exact bi_01 | omega | (rw [w64_id (by omega) (by omega)]; omega) | (have q3 := (p1.2.2.1 c c1.1 c1.2).1; first | omega | exact ⟨by omega, by omega, by omega⟩ | exact ⟨p1, c1, by omega, by omega⟩ | exact ⟨p1, c1, ⟨by omega, by omega⟩, by omega, by omega⟩ | (rw [w32_id (by omega) (by omega)]; omega)) | (have q3 := (p1.2.2.1 c c1.1 c1.2).1; have eF : mF B_1 = mF A := mF_c (funext fun i => g1.1 2 i (by decide)) (funext fun i => g1.1 27 i (by decide)) (funext fun i => g1.1 29 i (by decide)); rw [eF]; exact ⟨by omega, by omega, ce_clO p1 (q := q) (d := d.toNat) (by omega) c1.1 c1.2 g1.2⟩), ?_⟩
          intro B_2 g2
          have q3 := (p1.2.2.1 c c1.1 c1.2).1
          have hcl := ce_clO p1 (q := q) (d := d.toNat) (by omega) c1.1 c1.2 g1.2
          have ec := exM_ce (f := mF A) (g := B_1 33) (c := c) (q := q) (s := s) (d := d.toNat) q3.1 (by omega) g1.2
          have z := g2.2 s (by omega) (by omega)
          have ey : B_1 33 = B_1 33 := rfl
          unfold lbP at z
          have eF : mF B_1 = mF A := mF_c (funext fun i => g1.1 2 i (by decide)) (funext fun i => g1.1 27 i (by decide)) (funext fun i => g1.1 29 i (by decide))
          rw [eF, ec, Int.zero_add] at z
          have xb := exX_b (f := mF A) (c := c) (d := d.toNat) (q := q) (s := s) q3.1
          have g8 := g1.2 2 (exX (mF A) c d.toNat q s) (by decide) (by decide) xb.1 xb.2
          rw [show (4 * 2 : Int) = 8 by omega] at g8
          rw [g1.2 (s % 2) _ (by omega) (by omega) xb.1 xb.2, g8] at z
          have X1 := ceX_b p1 (q := q) (d := d.toNat) (by omega) c1.1 c1.2 xb.1 xb.2 (show 0 ≤ s % 2 by omega) (by omega)
          have X2 := (ceX_b p1 (q := q) (d := d.toNat) (by omega) c1.1 c1.2 xb.1 xb.2 (show (0 : Int) ≤ 2 by decide) (by decide)).2.2 rfl
          simp (disch := omega) only [w32_id]
          rw [z.1, z.2]
          generalize hX : ceX (mF A) c d.toNat q (s % 2) (exX (mF A) c d.toNat q s) = X at X1 ⊢
          generalize hW : ceX (mF A) c d.toNat q 2 (exX (mF A) c d.toNat q s) = W at X2 ⊢
          refine ⟨by first | exact bi_01 | omega | (rw [w64_id (by omega) (by omega)]; omega) | (have q3 := (p1.2.2.1 c c1.1 c1.2).1; first | omega | exact ⟨by omega, by omega, by omega⟩ | exact ⟨p1, c1, by omega, by omega⟩ | exact ⟨p1, c1, ⟨by omega, by omega⟩, by omega, by omega⟩ | (rw [w32_id (by omega) (by omega)]; omega)) | (have q3 := (p1.2.2.1 c c1.1 c1.2).1; have eF : mF B_1 = mF A := mF_c (funext fun i => g1.1 2 i (by decide)) (funext fun i => g1.1 27 i (by decide)) (funext fun i => g1.1 29 i (by decide)); rw [eF]; exact ⟨by omega, by omega, ce_clO p1 (q := q) (d := d.toNat) (by omega) c1.1 c1.2 g1.2⟩), ?_⟩
          refine ⟨by first | exact bi_01 | omega | (rw [w64_id (by omega) (by omega)]; omega) | (have q3 := (p1.2.2.1 c c1.1 c1.2).1; first | omega | exact ⟨by omega, by omega, by omega⟩ | exact ⟨p1, c1, by omega, by omega⟩ | exact ⟨p1, c1, ⟨by omega, by omega⟩, by omega, by omega⟩ | (rw [w32_id (by omega) (by omega)]; omega)) | (have q3 := (p1.2.2.1 c c1.1 c1.2).1; have eF : mF B_1 = mF A := mF_c (funext fun i => g1.1 2 i (by decide)) (funext fun i => g1.1 27 i (by decide)) (funext fun i => g1.1 29 i (by decide)); rw [eF]; exact ⟨by omega, by omega, ce_clO p1 (q := q) (d := d.toNat) (by omega) c1.1 c1.2 g1.2⟩), ?_⟩
          refine ⟨fun c5 => ?_, fun c5 => ?_⟩
          · skip
            (try simp only [w32_0, wbi0, Classical.not_not] at c5); (try simp (disch := omega) only [w32_id] at c5)
            refine ⟨by first | exact bi_01 | omega | (rw [w64_id (by omega) (by omega)]; omega) | (have q3 := (p1.2.2.1 c c1.1 c1.2).1; first | omega | exact ⟨by omega, by omega, by omega⟩ | exact ⟨p1, c1, by omega, by omega⟩ | exact ⟨p1, c1, ⟨by omega, by omega⟩, by omega, by omega⟩ | (rw [w32_id (by omega) (by omega)]; omega)) | (have q3 := (p1.2.2.1 c c1.1 c1.2).1; have eF : mF B_1 = mF A := mF_c (funext fun i => g1.1 2 i (by decide)) (funext fun i => g1.1 27 i (by decide)) (funext fun i => g1.1 29 i (by decide)); rw [eF]; exact ⟨by omega, by omega, ce_clO p1 (q := q) (d := d.toNat) (by omega) c1.1 c1.2 g1.2⟩), ?_⟩
            first
            | exact K_eq (h _ _ ⟨qdP_F (by decide), by rw [upF_s, bi_f c1, if_neg c1]; rfl⟩) (if_neg c1)
            | (refine K_eq (h _ _ ⟨qdP_F (by decide), by rw [upF_s, bi_t c1, if_pos c1]; rfl⟩) ?_; rw [if_pos c1, if_neg (by omega)]; done)
            | (refine K_eq (h _ _ ⟨qdP_trans (qdP_F (by decide)) (qdP_A (fun b i hb => (g2.1 b i (by omega)).trans (g1.1 b i (by omega)))), by rw [upF_s, bi_t c1, if_pos c1]; rfl⟩) ?_
               rw [if_pos c1, if_pos (by omega), y_div_eq (by omega) (by omega) (by omega) (by omega)]
               unfold bxF
               rw [hX, hW]
               first | (rw [if_pos (show s < 2 by omega)]; done) | (rw [if_neg (show ¬ s < 2 by omega)]; done))
          · skip
            (try simp only [w32_0, wbi0, Classical.not_not] at c5); (try simp (disch := omega) only [w32_id] at c5)
            refine ⟨by first | exact bi_01 | omega | (rw [w64_id (by omega) (by omega)]; omega) | (have q3 := (p1.2.2.1 c c1.1 c1.2).1; first | omega | exact ⟨by omega, by omega, by omega⟩ | exact ⟨p1, c1, by omega, by omega⟩ | exact ⟨p1, c1, ⟨by omega, by omega⟩, by omega, by omega⟩ | (rw [w32_id (by omega) (by omega)]; omega)) | (have q3 := (p1.2.2.1 c c1.1 c1.2).1; have eF : mF B_1 = mF A := mF_c (funext fun i => g1.1 2 i (by decide)) (funext fun i => g1.1 27 i (by decide)) (funext fun i => g1.1 29 i (by decide)); rw [eF]; exact ⟨by omega, by omega, ce_clO p1 (q := q) (d := d.toNat) (by omega) c1.1 c1.2 g1.2⟩), ?_⟩
            first
            | exact K_eq (h _ _ ⟨qdP_F (by decide), by rw [upF_s, bi_f c1, if_neg c1]; rfl⟩) (if_neg c1)
            | (refine K_eq (h _ _ ⟨qdP_F (by decide), by rw [upF_s, bi_t c1, if_pos c1]; rfl⟩) ?_; rw [if_pos c1, if_neg (by omega)]; done)
            | (refine K_eq (h _ _ ⟨qdP_trans (qdP_F (by decide)) (qdP_A (fun b i hb => (g2.1 b i (by omega)).trans (g1.1 b i (by omega)))), by rw [upF_s, bi_t c1, if_pos c1]; rfl⟩) ?_
               rw [if_pos c1, if_pos (by omega), y_div_eq (by omega) (by omega) (by omega) (by omega)]
               unfold bxF
               rw [hX, hW]
               first | (rw [if_pos (show s < 2 by omega)]; done) | (rw [if_neg (show ¬ s < 2 by omega)]; done))
theorem qtX9_boxSide (l : Launch) : am_CT l layM qeX9_boxSide := am_met0 rfl (by decide +kernel) rfl rfl rfl rfl rfl (fun _ => rfl) rfl (qzX9_boxSide l) (fun k e1 h => (qyX9_boxSide l k e1 h).2) (fun as F A K h => by
  replace h : qsX9_boxSide as F A K := h
  unfold qsX9_boxSide at h
  split at h
  · rename_i o c d q s
    refine ⟨by first | exact Nat.le_of_ble_eq_true rfl | simp [am_fl, am_cat], ?_⟩
    replace h := am_cond2 h
    rcases h with ⟨hb, h⟩ | h
    · skip
      have hb0 := hb
      have hb0 := am_bq hb0
      subst hb0
      exact am_way_line (qvX9_boxSide_25 c d q s F A K h)
    exact h.elim
  · exact h.elim)
