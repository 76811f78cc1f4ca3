def qkX9_isTwiceCube : Nat → Option CI := fun pc => cond (Nat.ble 248 pc) none (cond (Nat.ble 124 pc) (cond (Nat.ble 185 pc) (cond (Nat.ble 214 pc) (cond (Nat.ble 231 pc) (cond (Nat.ble 239 pc) (cond (Nat.ble 243 pc) (cond (Nat.beq pc 243) (some (.goto 4, 246, [247])) (cond (Nat.beq pc 246) (some (.iconst 0, 247, [])) (cond (Nat.beq pc 247) (some (.ireturn, 248, [])) (none)))) (cond (Nat.beq pc 239) (some (.ifCond .eq 7, 242, [246])) (cond (Nat.beq pc 242) (some (.iconst 1, 243, [])) (none)))) (cond (Nat.ble 234 pc) (cond (Nat.beq pc 234) (some (.lload 8, 236, [])) (cond (Nat.beq pc 236) (some (.invokestatic 138, 239, [])) (none))) (cond (Nat.beq pc 231) (some (.lload 10, 233, [])) (cond (Nat.beq pc 233) (some (.lneg, 234, [])) (none))))) (cond (Nat.ble 220 pc) (cond (Nat.ble 224 pc) (cond (Nat.beq pc 224) (some (.istore 14, 226, [])) (cond (Nat.beq pc 226) (some (.iload 14, 228, [])) (cond (Nat.beq pc 228) (some (.ifCond .eq 18, 231, [246])) (none)))) (cond (Nat.beq pc 220) (some (.goto 4, 223, [224])) (cond (Nat.beq pc 223) (some (.iconst 0, 224, [])) (none)))) (cond (Nat.ble 216 pc) (cond (Nat.beq pc 216) (some (.ifCond .ne 7, 219, [223])) (cond (Nat.beq pc 219) (some (.iconst 1, 220, [])) (none))) (cond (Nat.beq pc 214) (some (.lconst 0, 215, [])) (cond (Nat.beq pc 215) (some (.lcmp, 216, [])) (none)))))) (cond (Nat.ble 200 pc) (cond (Nat.ble 207 pc) (cond (Nat.ble 210 pc) (cond (Nat.beq pc 210) (some (.lload 10, 212, [])) (cond (Nat.beq pc 212) (some (.lmul, 213, [])) (cond (Nat.beq pc 213) (some (.ladd, 214, [])) (none)))) (cond (Nat.beq pc 207) (some (.lload 10, 209, [])) (cond (Nat.beq pc 209) (some (.lmul, 210, [])) (none)))) (cond (Nat.ble 204 pc) (cond (Nat.beq pc 204) (some (.lload 6, 206, [])) (cond (Nat.beq pc 206) (some (.lmul, 207, [])) (none))) (cond (Nat.beq pc 200) (some (.lsub, 201, [])) (cond (Nat.beq pc 201) (some (.ldc2_w 146, 204, [])) (none))))) (cond (Nat.ble 193 pc) (cond (Nat.ble 196 pc) (cond (Nat.beq pc 196) (some (.lmul, 197, [])) (cond (Nat.beq pc 197) (some (.lload 10, 199, [])) (cond (Nat.beq pc 199) (some (.lmul, 200, [])) (none)))) (cond (Nat.beq pc 193) (some (.lmul, 194, [])) (cond (Nat.beq pc 194) (some (.lload 8, 196, [])) (none)))) (cond (Nat.ble 188 pc) (cond (Nat.beq pc 188) (some (.ldc2_w 136, 191, [])) (cond (Nat.beq pc 191) (some (.lload 4, 193, [])) (none))) (cond (Nat.beq pc 185) (some (.lload 8, 187, [])) (cond (Nat.beq pc 187) (some (.lmul, 188, [])) (none))))))) (cond (Nat.ble 154 pc) (cond (Nat.ble 169 pc) (cond (Nat.ble 177 pc) (cond (Nat.ble 181 pc) (cond (Nat.beq pc 181) (some (.lload_n 2, 182, [])) (cond (Nat.beq pc 182) (some (.lload 8, 184, [])) (cond (Nat.beq pc 184) (some (.lmul, 185, [])) (none)))) (cond (Nat.beq pc 177) (some (.iconst 0, 178, [])) (cond (Nat.beq pc 178) (some (.goto 46, 181, [224])) (none)))) (cond (Nat.ble 173 pc) (cond (Nat.beq pc 173) (some (.iconst 1, 174, [])) (cond (Nat.beq pc 174) (some (.goto 50, 177, [224])) (none))) (cond (Nat.beq pc 169) (some (.lcmp, 170, [])) (cond (Nat.beq pc 170) (some (.ifCond .ne 7, 173, [177])) (none))))) (cond (Nat.ble 160 pc) (cond (Nat.ble 165 pc) (cond (Nat.beq pc 165) (some (.lmul, 166, [])) (cond (Nat.beq pc 166) (some (.lload 8, 168, [])) (cond (Nat.beq pc 168) (some (.lmul, 169, [])) (none)))) (cond (Nat.beq pc 160) (some (.ldc2_w 136, 163, [])) (cond (Nat.beq pc 163) (some (.lload 4, 165, [])) (none)))) (cond (Nat.ble 157 pc) (cond (Nat.beq pc 157) (some (.lload 10, 159, [])) (cond (Nat.beq pc 159) (some (.lmul, 160, [])) (none))) (cond (Nat.beq pc 154) (some (.lload 6, 156, [])) (cond (Nat.beq pc 156) (some (.lmul, 157, [])) (none)))))) (cond (Nat.ble 138 pc) (cond (Nat.ble 144 pc) (cond (Nat.ble 147 pc) (cond (Nat.beq pc 147) (some (.lcmp, 148, [])) (cond (Nat.beq pc 148) (some (.ifCond .eq 25, 151, [173])) (cond (Nat.beq pc 151) (some (.ldc2_w 146, 154, [])) (none)))) (cond (Nat.beq pc 144) (some (.lload 10, 146, [])) (cond (Nat.beq pc 146) (some (.lconst 0, 147, [])) (none)))) (cond (Nat.ble 140 pc) (cond (Nat.beq pc 140) (some (.lcmp, 141, [])) (cond (Nat.beq pc 141) (some (.ifCond .ne 40, 144, [181])) (none))) (cond (Nat.beq pc 138) (some (.lload_n 2, 139, [])) (cond (Nat.beq pc 139) (some (.lconst 0, 140, [])) (none))))) (cond (Nat.ble 131 pc) (cond (Nat.ble 133 pc) (cond (Nat.beq pc 133) (some (.ifCond .eq 5, 136, [138])) (cond (Nat.beq pc 136) (some (.iconst 0, 137, [])) (cond (Nat.beq pc 137) (some (.ireturn, 138, [])) (none)))) (cond (Nat.beq pc 131) (some (.lconst 0, 132, [])) (cond (Nat.beq pc 132) (some (.lcmp, 133, [])) (none)))) (cond (Nat.ble 128 pc) (cond (Nat.beq pc 128) (some (.lload 10, 130, [])) (cond (Nat.beq pc 130) (some (.lrem, 131, [])) (none))) (cond (Nat.beq pc 124) (some (.ifCond .eq 14, 127, [138])) (cond (Nat.beq pc 127) (some (.lload_n 2, 128, [])) (none)))))))) (cond (Nat.ble 61 pc) (cond (Nat.ble 96 pc) (cond (Nat.ble 110 pc) (cond (Nat.ble 116 pc) (cond (Nat.ble 120 pc) (cond (Nat.beq pc 120) (some (.lload 10, 122, [])) (cond (Nat.beq pc 122) (some (.lconst 0, 123, [])) (cond (Nat.beq pc 123) (some (.lcmp, 124, [])) (none)))) (cond (Nat.beq pc 116) (some (.lcmp, 117, [])) (cond (Nat.beq pc 117) (some (.ifCond .ne 19, 120, [136])) (none)))) (cond (Nat.ble 114 pc) (cond (Nat.beq pc 114) (some (.lload_n 2, 115, [])) (cond (Nat.beq pc 115) (some (.lconst 0, 116, [])) (none))) (cond (Nat.beq pc 110) (some (.lcmp, 111, [])) (cond (Nat.beq pc 111) (some (.ifCond .ne 9, 114, [120])) (none))))) (cond (Nat.ble 102 pc) (cond (Nat.ble 104 pc) (cond (Nat.beq pc 104) (some (.ifCond .ne 32, 107, [136])) (cond (Nat.beq pc 107) (some (.lload 10, 109, [])) (cond (Nat.beq pc 109) (some (.lconst 0, 110, [])) (none)))) (cond (Nat.beq pc 102) (some (.lconst 0, 103, [])) (cond (Nat.beq pc 103) (some (.lcmp, 104, [])) (none)))) (cond (Nat.ble 99 pc) (cond (Nat.beq pc 99) (some (.lload 8, 101, [])) (cond (Nat.beq pc 101) (some (.lrem, 102, [])) (none))) (cond (Nat.beq pc 96) (some (.lload 6, 98, [])) (cond (Nat.beq pc 98) (some (.lmul, 99, [])) (none)))))) (cond (Nat.ble 79 pc) (cond (Nat.ble 86 pc) (cond (Nat.ble 90 pc) (cond (Nat.beq pc 90) (some (.ldiv, 91, [])) (cond (Nat.beq pc 91) (some (.lstore 10, 93, [])) (cond (Nat.beq pc 93) (some (.ldc2_w 146, 96, [])) (none)))) (cond (Nat.beq pc 86) (some (.lload 10, 88, [])) (cond (Nat.beq pc 88) (some (.lload 12, 90, [])) (none)))) (cond (Nat.ble 83 pc) (cond (Nat.beq pc 83) (some (.ldiv, 84, [])) (cond (Nat.beq pc 84) (some (.lstore 8, 86, [])) (none))) (cond (Nat.beq pc 79) (some (.lload 8, 81, [])) (cond (Nat.beq pc 81) (some (.lload 12, 83, [])) (none))))) (cond (Nat.ble 69 pc) (cond (Nat.ble 72 pc) (cond (Nat.beq pc 72) (some (.lload 10, 74, [])) (cond (Nat.beq pc 74) (some (.invokestatic 148, 77, [])) (cond (Nat.beq pc 77) (some (.lstore 12, 79, [])) (none)))) (cond (Nat.beq pc 69) (some (.ireturn, 70, [])) (cond (Nat.beq pc 70) (some (.lload 8, 72, [])) (none)))) (cond (Nat.ble 65 pc) (cond (Nat.beq pc 65) (some (.goto 4, 68, [69])) (cond (Nat.beq pc 68) (some (.iconst 0, 69, [])) (none))) (cond (Nat.beq pc 61) (some (.ifCond .eq 7, 64, [68])) (cond (Nat.beq pc 64) (some (.iconst 1, 65, [])) (none))))))) (cond (Nat.ble 29 pc) (cond (Nat.ble 44 pc) (cond (Nat.ble 51 pc) (cond (Nat.ble 55 pc) (cond (Nat.beq pc 55) (some (.lload 6, 57, [])) (cond (Nat.beq pc 57) (some (.lmul, 58, [])) (cond (Nat.beq pc 58) (some (.invokestatic 138, 61, [])) (none)))) (cond (Nat.beq pc 51) (some (.lneg, 52, [])) (cond (Nat.beq pc 52) (some (.ldc2_w 146, 55, [])) (none)))) (cond (Nat.ble 46 pc) (cond (Nat.beq pc 46) (some (.ifCond .ne 22, 49, [68])) (cond (Nat.beq pc 49) (some (.lload 4, 51, [])) (none))) (cond (Nat.beq pc 44) (some (.lconst 0, 45, [])) (cond (Nat.beq pc 45) (some (.lcmp, 46, [])) (none))))) (cond (Nat.ble 35 pc) (cond (Nat.ble 38 pc) (cond (Nat.beq pc 38) (some (.lcmp, 39, [])) (cond (Nat.beq pc 39) (some (.ifCond .ne 31, 42, [70])) (cond (Nat.beq pc 42) (some (.lload 10, 44, [])) (none)))) (cond (Nat.beq pc 35) (some (.lload 8, 37, [])) (cond (Nat.beq pc 37) (some (.lconst 0, 38, [])) (none)))) (cond (Nat.ble 32 pc) (cond (Nat.beq pc 32) (some (.lsub, 33, [])) (cond (Nat.beq pc 33) (some (.lstore 10, 35, [])) (none))) (cond (Nat.beq pc 29) (some (.lload 4, 31, [])) (cond (Nat.beq pc 31) (some (.lmul, 32, [])) (none)))))) (cond (Nat.ble 16 pc) (cond (Nat.ble 23 pc) (cond (Nat.ble 25 pc) (cond (Nat.beq pc 25) (some (.lload 6, 27, [])) (cond (Nat.beq pc 27) (some (.lmul, 28, [])) (cond (Nat.beq pc 28) (some (.lload_n 2, 29, [])) (none)))) (cond (Nat.beq pc 23) (some (.lload_n 0, 24, [])) (cond (Nat.beq pc 24) (some (.lmul, 25, [])) (none)))) (cond (Nat.ble 18 pc) (cond (Nat.beq pc 18) (some (.lstore 8, 20, [])) (cond (Nat.beq pc 20) (some (.ldc2_w 144, 23, [])) (none))) (cond (Nat.beq pc 16) (some (.lmul, 17, [])) (cond (Nat.beq pc 17) (some (.lsub, 18, [])) (none))))) (cond (Nat.ble 7 pc) (cond (Nat.ble 11 pc) (cond (Nat.beq pc 11) (some (.lload 4, 13, [])) (cond (Nat.beq pc 13) (some (.lmul, 14, [])) (cond (Nat.beq pc 14) (some (.lload 4, 16, [])) (none)))) (cond (Nat.beq pc 7) (some (.lmul, 8, [])) (cond (Nat.beq pc 8) (some (.ldc2_w 136, 11, [])) (none)))) (cond (Nat.ble 4 pc) (cond (Nat.beq pc 4) (some (.lmul, 5, [])) (cond (Nat.beq pc 5) (some (.lload 6, 7, [])) (none))) (cond (Nat.beq pc 0) (some (.ldc2_w 142, 3, [])) (cond (Nat.beq pc 3) (some (.lload_n 2, 4, [])) (none)))))))))
theorem qkX9_isTwiceCube_ok : ∀ pc i nx ts, qkX9_isTwiceCube pc = some (i, nx, ts) → am_cok cX9_isTwiceCube pc (i, nx, ts) = true := fun pc i nx ts h => am_tok_ok (n := 248) (by decide +kernel) (fun pc h => by show cond (Nat.ble 248 pc) _ _ = _; rw [Nat.ble_eq_true_of_le h]; rfl) h
def qaX9_isTwiceCube : Nat → Option CE := fun k => cond (Nat.beq k 138) (some qeX9_isPart) (cond (Nat.beq k 148) (some qeX9_divisor) (none))
theorem qyX9_isTwiceCube (l : Launch) : ∀ k e1, qaX9_isTwiceCube k = some e1 → am_cal l layM RX9 4 k e1 ∧ ceT e1 = 0 := q_cons ⟨am_calS (qtX9_isPart l) qbX9_isPart (by decide) rfl (by decide) (am_tb_at 1874 (by decide +kernel) rfl), rfl⟩ (q_cons ⟨am_calS (qtX9_divisor l) qbX9_divisor (by decide) rfl (by decide) (am_tb_at 1719 (by decide +kernel) rfl), rfl⟩ (q_nil))
def qxX9_isTwiceCube : CX := (qkX9_isTwiceCube, layM, qfX9, qaX9_isTwiceCube, qcX9, qlX9, qmX9, (some .boolean), false, none, 0, none, fun _ => none)
theorem qzX9_isTwiceCube (l : Launch) : am_sta l qxX9_isTwiceCube RX9 4 cX9_isTwiceCube := ⟨qkX9_isTwiceCube_ok, layM_ok, qfX9_ok, qcX9_ok, qlX9_ok, am_mthP qmX9_ok (by decide), fun k e1 h => (qyX9_isTwiceCube l k e1 h).1⟩
def qsX9_isTwiceCube : SP := fun as F A K => match as with
  | [.inr (.inl x), .inr (.inl y), .inr (.inl z), .inr (.inl v)] => ((-1200 ≤ x ∧ x ≤ 1200) ∧ (-7200 ≤ y ∧ y ≤ 7200) ∧ (-14400 ≤ z ∧ z ≤ 14400) ∧ (-9600 ≤ v ∧ v ≤ 9600) ∧ ¬ v = 0) ∧ (K (some (some (vI (bi (cbM x y z v))))) F A)
  | _ => False
def qeX9_isTwiceCube : CE := (yX9_isTwiceCube, cX9_isTwiceCube, 15, (some .boolean), 4, none, 0, [], 0, 4, qsX9_isTwiceCube)
theorem qbX9_isTwiceCube : am_mb qeX9_isTwiceCube := ⟨am_tb_at 1880 (by decide +kernel) rfl, am_tb_at 124 (by decide +kernel) rfl, ⟨by decide, by decide, by decide +kernel⟩, by decide, am_tb_at 1879 (by decide +kernel) rfl⟩
set_option maxRecDepth 20000 in
theorem qvX9_isTwiceCube (x : Int) (y : Int) (z : Int) (v : Int) (F : FF) (A : AA) (K : KK) (h : ((-1200 ≤ x ∧ x ≤ 1200) ∧ (-7200 ≤ y ∧ y ≤ 7200) ∧ (-14400 ≤ z ∧ z ≤ 14400) ∧ (-9600 ≤ v ∧ v ≤ 9600) ∧ ¬ v = 0) ∧ (K (some (some (vI (bi (cbM x y z v))))) F A)) : am_line qxX9_isTwiceCube 106 [vL x, vL y, vL z, vL v] 15 F A K := by
  show am_stp qxX9_isTwiceCube (am_run qxX9_isTwiceCube (fun _ => none) (fun _ _ _ _ _ _ => False) K 106) K 0 [some (vL x), none, some (vL y), none, some (vL z), none, some (vL v), none, none, none, none, none, none, none, none] [] F A 0
  obtain ⟨hp, h⟩ := h
  obtain ⟨bx, b_y, bz, bv, v0⟩ := hp
  have m1 := mu_b (a := 6 * y) (b := v) (M := 43200) (by omega) bv
  have m2 := mu_b (a := 2 * z) (b := z) (M := 28800) (by omega) bz
  have m3 := mu_b (a := 9 * x) (b := v) (M := 10800) (by omega) bv
  have m4 := mu_b b_y bz
  show (w32 (y_cmp (((6 * y) * v) - ((2 * z) * z)) 0) = w32 0 → ((w32 (y_cmp (((9 * x) * v) - (y * z)) 0) = w32 0 → (((-4611686018427387904 ≤ (-z) ∧ (-z) ≤ 4611686018427387904) ∧ (-4611686018427387904 ≤ (3 * v) ∧ (3 * v) ≤ 4611686018427387904)) ∧ ((w32 (bi (isFr (-z) (3 * v))) = w32 0 → ((0 = 0 ∨ 0 = 1) ∧ (K (some (some (vI 0))) F A))) ∧ (¬ w32 (bi (isFr (-z) (3 * v))) = w32 0 → ((1 = 0 ∨ 1 = 1) ∧ (K (some (some (vI 1))) F A)))))) ∧ (¬ w32 (y_cmp (((9 * x) * v) - (y * z)) 0) = w32 0 → ((0 = 0 ∨ 0 = 1) ∧ (K (some (some (vI 0))) F A))))) ∧ (¬ w32 (y_cmp (((6 * y) * v) - ((2 * z) * z)) 0) = w32 0 → (((-4611686018427387904 < (((6 * y) * v) - ((2 * z) * z)) ∧ (((6 * y) * v) - ((2 * z) * z)) < 4611686018427387904) ∧ (-4611686018427387904 < (((9 * x) * v) - (y * z)) ∧ (((9 * x) * v) - (y * z)) < 4611686018427387904)) ∧ ((w64 (Int.gcd (((6 * y) * v) - ((2 * z) * z)) (((9 * x) * v) - (y * z)) : Int) ≠ 0) ∧ ((w64 (Int.gcd (((6 * y) * v) - ((2 * z) * z)) (((9 * x) * v) - (y * z)) : Int) ≠ 0) ∧ ((w64 (y_div (((6 * y) * v) - ((2 * z) * z)) (Int.gcd (((6 * y) * v) - ((2 * z) * z)) (((9 * x) * v) - (y * z)) : Int)) ≠ 0) ∧ ((w32 (y_cmp (y_rem (3 * v) (y_div (((6 * y) * v) - ((2 * z) * z)) (Int.gcd (((6 * y) * v) - ((2 * z) * z)) (((9 * x) * v) - (y * z)) : Int))) 0) = w32 0 → ((w32 (y_cmp (y_div (((9 * x) * v) - (y * z)) (Int.gcd (((6 * y) * v) - ((2 * z) * z)) (((9 * x) * v) - (y * z)) : Int)) 0) = w32 0 → ((w32 (y_cmp y 0) = w32 0 → ((w32 (y_cmp (y_div (((9 * x) * v) - (y * z)) (Int.gcd (((6 * y) * v) - ((2 * z) * z)) (((9 * x) * v) - (y * z)) : Int)) 0) = w32 0 → ((w32 (y_cmp y 0) = w32 0 → ((w32 (y_cmp (y_div (((9 * x) * v) - (y * z)) (Int.gcd (((6 * y) * v) - ((2 * z) * z)) (((9 * x) * v) - (y * z)) : Int)) 0) = w32 0 → ((w32 1 = w32 0 → _) ∧ (¬ w32 1 = w32 0 → (((-4611686018427387904 ≤ (-(y_div (((9 * x) * v) - (y * z)) (Int.gcd (((6 * y) * v) - ((2 * z) * z)) (((9 * x) * v) - (y * z)) : Int))) ∧ (-(y_div (((9 * x) * v) - (y * z)) (Int.gcd (((6 * y) * v) - ((2 * z) * z)) (((9 * x) * v) - (y * z)) : Int))) ≤ 4611686018427387904) ∧ (-4611686018427387904 ≤ (y_div (((6 * y) * v) - ((2 * z) * z)) (Int.gcd (((6 * y) * v) - ((2 * z) * z)) (((9 * x) * v) - (y * z)) : Int)) ∧ (y_div (((6 * y) * v) - ((2 * z) * z)) (Int.gcd (((6 * y) * v) - ((2 * z) * z)) (((9 * x) * v) - (y * z)) : Int)) ≤ 4611686018427387904)) ∧ ((w32 (bi (isFr (-(y_div (((9 * x) * v) - (y * z)) (Int.gcd (((6 * y) * v) - ((2 * z) * z)) (((9 * x) * v) - (y * z)) : Int))) (y_div (((6 * y) * v) - ((2 * z) * z)) (Int.gcd (((6 * y) * v) - ((2 * z) * z)) (((9 * x) * v) - (y * z)) : Int)))) = w32 0 → ((0 = 0 ∨ 0 = 1) ∧ (K (some (some (vI 0))) F A))) ∧ (¬ w32 (bi (isFr (-(y_div (((9 * x) * v) - (y * z)) (Int.gcd (((6 * y) * v) - ((2 * z) * z)) (((9 * x) * v) - (y * z)) : Int))) (y_div (((6 * y) * v) - ((2 * z) * z)) (Int.gcd (((6 * y) * v) - ((2 * z) * z)) (((9 * x) * v) - (y * z)) : Int)))) = w32 0 → ((1 = 0 ∨ 1 = 1) ∧ (K (some (some (vI 1))) F A)))))))) ∧ (¬ w32 (y_cmp (y_div (((9 * x) * v) - (y * z)) (Int.gcd (((6 * y) * v) - ((2 * z) * z)) (((9 * x) * v) - (y * z)) : Int)) 0) = w32 0 → ((w32 (y_cmp ((3 * v) * (y_div (((9 * x) * v) - (y * z)) (Int.gcd (((6 * y) * v) - ((2 * z) * z)) (((9 * x) * v) - (y * z)) : Int))) ((2 * z) * (y_div (((6 * y) * v) - ((2 * z) * z)) (Int.gcd (((6 * y) * v) - ((2 * z) * z)) (((9 * x) * v) - (y * z)) : Int)))) = w32 0 → ((w32 1 = w32 0 → _) ∧ (¬ w32 1 = w32 0 → (((-4611686018427387904 ≤ (-(y_div (((9 * x) * v) - (y * z)) (Int.gcd (((6 * y) * v) - ((2 * z) * z)) (((9 * x) * v) - (y * z)) : Int))) ∧ (-(y_div (((9 * x) * v) - (y * z)) (Int.gcd (((6 * y) * v) - ((2 * z) * z)) (((9 * x) * v) - (y * z)) : Int))) ≤ 4611686018427387904) ∧ (-4611686018427387904 ≤ (y_div (((6 * y) * v) - ((2 * z) * z)) (Int.gcd (((6 * y) * v) - ((2 * z) * z)) (((9 * x) * v) - (y * z)) : Int)) ∧ (y_div (((6 * y) * v) - ((2 * z) * z)) (Int.gcd (((6 * y) * v) - ((2 * z) * z)) (((9 * x) * v) - (y * z)) : Int)) ≤ 4611686018427387904)) ∧ ((w32 (bi (isFr (-(y_div (((9 * x) * v) - (y * z)) (Int.gcd (((6 * y) * v) - ((2 * z) * z)) (((9 * x) * v) - (y * z)) : Int))) (y_div (((6 * y) * v) - ((2 * z) * z)) (Int.gcd (((6 * y) * v) - ((2 * z) * z)) (((9 * x) * v) - (y * z)) : Int)))) = w32 0 → ((0 = 0 ∨ 0 = 1) ∧ (K (some (some (vI 0))) F A))) ∧ (¬ w32 (bi (isFr (-(y_div (((9 * x) * v) - (y * z)) (Int.gcd (((6 * y) * v) - ((2 * z) * z)) (((9 * x) * v) - (y * z)) : Int))) (y_div (((6 * y) * v) - ((2 * z) * z)) (Int.gcd (((6 * y) * v) - ((2 * z) * z)) (((9 * x) * v) - (y * z)) : Int)))) = w32 0 → ((1 = 0 ∨ 1 = 1) ∧ (K (some (some (vI 1))) F A)))))))) ∧ (¬ w32 (y_cmp ((3 * v) * (y_div (((9 * x) * v) - (y * z)) (Int.gcd (((6 * y) * v) - ((2 * z) * z)) (((9 * x) * v) - (y * z)) : Int))) ((2 * z) * (y_div (((6 * y) * v) - ((2 * z) * z)) (Int.gcd (((6 * y) * v) - ((2 * z) * z)) (((9 * x) * v) - (y * z)) : Int)))) = w32 0 → ((w32 0 = w32 0 → ((0 = 0 ∨ 0 = 1) ∧ (K (some (some (vI 0))) F A))) ∧ (¬ w32 0 = w32 0 → _))))))) ∧ (¬ w32 (y_cmp y 0) = w32 0 → ((w32 (y_cmp ((((y * (y_div (((6 * y) * v) - ((2 * z) * z)) (Int.gcd (((6 * y) * v) - ((2 * z) * z)) (((9 * x) * v) - (y * z)) : Int))) * (y_div (((6 * y) * v) - ((2 * z) * z)) (Int.gcd (((6 * y) * v) - ((2 * z) * z)) (((9 * x) * v) - (y * z)) : Int))) - (((2 * z) * (y_div (((6 * y) * v) - ((2 * z) * z)) (Int.gcd (((6 * y) * v) - ((2 * z) * z)) (((9 * x) * v) - (y * z)) : Int))) * (y_div (((9 * x) * v) - (y * z)) (Int.gcd (((6 * y) * v) - ((2 * z) * z)) (((9 * x) * v) - (y * z)) : Int)))) + (((3 * v) * (y_div (((9 * x) * v) - (y * z)) (Int.gcd (((6 * y) * v) - ((2 * z) * z)) (((9 * x) * v) - (y * z)) : Int))) * (y_div (((9 * x) * v) - (y * z)) (Int.gcd (((6 * y) * v) - ((2 * z) * z)) (((9 * x) * v) - (y * z)) : Int)))) 0) = w32 0 → ((w32 1 = w32 0 → _) ∧ (¬ w32 1 = w32 0 → (((-4611686018427387904 ≤ (-(y_div (((9 * x) * v) - (y * z)) (Int.gcd (((6 * y) * v) - ((2 * z) * z)) (((9 * x) * v) - (y * z)) : Int))) ∧ (-(y_div (((9 * x) * v) - (y * z)) (Int.gcd (((6 * y) * v) - ((2 * z) * z)) (((9 * x) * v) - (y * z)) : Int))) ≤ 4611686018427387904) ∧ (-4611686018427387904 ≤ (y_div (((6 * y) * v) - ((2 * z) * z)) (Int.gcd (((6 * y) * v) - ((2 * z) * z)) (((9 * x) * v) - (y * z)) : Int)) ∧ (y_div (((6 * y) * v) - ((2 * z) * z)) (Int.gcd (((6 * y) * v) - ((2 * z) * z)) (((9 * x) * v) - (y * z)) : Int)) ≤ 4611686018427387904)) ∧ ((w32 (bi (isFr (-(y_div (((9 * x) * v) - (y * z)) (Int.gcd (((6 * y) * v) - ((2 * z) * z)) (((9 * x) * v) - (y * z)) : Int))) (y_div (((6 * y) * v) - ((2 * z) * z)) (Int.gcd (((6 * y) * v) - ((2 * z) * z)) (((9 * x) * v) - (y * z)) : Int)))) = w32 0 → ((0 = 0 ∨ 0 = 1) ∧ (K (some (some (vI 0))) F A))) ∧ (¬ w32 (bi (isFr (-(y_div (((9 * x) * v) - (y * z)) (Int.gcd (((6 * y) * v) - ((2 * z) * z)) (((9 * x) * v) - (y * z)) : Int))) (y_div (((6 * y) * v) - ((2 * z) * z)) (Int.gcd (((6 * y) * v) - ((2 * z) * z)) (((9 * x) * v) - (y * z)) : Int)))) = w32 0 → ((1 = 0 ∨ 1 = 1) ∧ (K (some (some (vI 1))) F A)))))))) ∧ (¬ w32 (y_cmp ((((y * (y_div (((6 * y) * v) - ((2 * z) * z)) (Int.gcd (((6 * y) * v) - ((2 * z) * z)) (((9 * x) * v) - (y * z)) : Int))) * (y_div (((6 * y) * v) - ((2 * z) * z)) (Int.gcd (((6 * y) * v) - ((2 * z) * z)) (((9 * x) * v) - (y * z)) : Int))) - (((2 * z) * (y_div (((6 * y) * v) - ((2 * z) * z)) (Int.gcd (((6 * y) * v) - ((2 * z) * z)) (((9 * x) * v) - (y * z)) : Int))) * (y_div (((9 * x) * v) - (y * z)) (Int.gcd (((6 * y) * v) - ((2 * z) * z)) (((9 * x) * v) - (y * z)) : Int)))) + (((3 * v) * (y_div (((9 * x) * v) - (y * z)) (Int.gcd (((6 * y) * v) - ((2 * z) * z)) (((9 * x) * v) - (y * z)) : Int))) * (y_div (((9 * x) * v) - (y * z)) (Int.gcd (((6 * y) * v) - ((2 * z) * z)) (((9 * x) * v) - (y * z)) : Int)))) 0) = w32 0 → ((w32 0 = w32 0 → ((0 = 0 ∨ 0 = 1) ∧ (K (some (some (vI 0))) F A))) ∧ (¬ w32 0 = w32 0 → _))))))) ∧ (¬ w32 (y_cmp (y_div (((9 * x) * v) - (y * z)) (Int.gcd (((6 * y) * v) - ((2 * z) * z)) (((9 * x) * v) - (y * z)) : Int)) 0) = w32 0 → ((w64 (y_div (((9 * x) * v) - (y * z)) (Int.gcd (((6 * y) * v) - ((2 * z) * z)) (((9 * x) * v) - (y * z)) : Int)) ≠ 0) ∧ ((w32 (y_cmp (y_rem y (y_div (((9 * x) * v) - (y * z)) (Int.gcd (((6 * y) * v) - ((2 * z) * z)) (((9 * x) * v) - (y * z)) : Int))) 0) = w32 0 → ((w32 (y_cmp y 0) = w32 0 → ((w32 (y_cmp (y_div (((9 * x) * v) - (y * z)) (Int.gcd (((6 * y) * v) - ((2 * z) * z)) (((9 * x) * v) - (y * z)) : Int)) 0) = w32 0 → ((w32 1 = w32 0 → _) ∧ (¬ w32 1 = w32 0 → (((-4611686018427387904 ≤ (-(y_div (((9 * x) * v) - (y * z)) (Int.gcd (((6 * y) * v) - ((2 * z) * z)) (((9 * x) * v) - (y * z)) : Int))) ∧ (-(y_div (((9 * x) * v) - (y * z)) (Int.gcd (((6 * y) * v) - ((2 * z) * z)) (((9 * x) * v) - (y * z)) : Int))) ≤ 4611686018427387904) ∧ (-4611686018427387904 ≤ (y_div (((6 * y) * v) - ((2 * z) * z)) (Int.gcd (((6 * y) * v) - ((2 * z) * z)) (((9 * x) * v) - (y * z)) : Int)) ∧ (y_div (((6 * y) * v) - ((2 * z) * z)) (Int.gcd (((6 * y) * v) - ((2 * z) * z)) (((9 * x) * v) - (y * z)) : Int)) ≤ 4611686018427387904)) ∧ ((w32 (bi (isFr (-(y_div (((9 * x) * v) - (y * z)) (Int.gcd (((6 * y) * v) - ((2 * z) * z)) (((9 * x) * v) - (y * z)) : Int))) (y_div (((6 * y) * v) - ((2 * z) * z)) (Int.gcd (((6 * y) * v) - ((2 * z) * z)) (((9 * x) * v) - (y * z)) : Int)))) = w32 0 → ((0 = 0 ∨ 0 = 1) ∧ (K (some (some (vI 0))) F A))) ∧ (¬ w32 (bi (isFr (-(y_div (((9 * x) * v) - (y * z)) (Int.gcd (((6 * y) * v) - ((2 * z) * z)) (((9 * x) * v) - (y * z)) : Int))) (y_div (((6 * y) * v) - ((2 * z) * z)) (Int.gcd (((6 * y) * v) - ((2 * z) * z)) (((9 * x) * v) - (y * z)) : Int)))) = w32 0 → ((1 = 0 ∨ 1 = 1) ∧ (K (some (some (vI 1))) F A)))))))) ∧ (¬ w32 (y_cmp (y_div (((9 * x) * v) - (y * z)) (Int.gcd (((6 * y) * v) - ((2 * z) * z)) (((9 * x) * v) - (y * z)) : Int)) 0) = w32 0 → ((w32 (y_cmp ((3 * v) * (y_div (((9 * x) * v) - (y * z)) (Int.gcd (((6 * y) * v) - ((2 * z) * z)) (((9 * x) * v) - (y * z)) : Int))) ((2 * z) * (y_div (((6 * y) * v) - ((2 * z) * z)) (Int.gcd (((6 * y) * v) - ((2 * z) * z)) (((9 * x) * v) - (y * z)) : Int)))) = w32 0 → ((w32 1 = w32 0 → _) ∧ (¬ w32 1 = w32 0 → (((-4611686018427387904 ≤ (-(y_div (((9 * x) * v) - (y * z)) (Int.gcd (((6 * y) * v) - ((2 * z) * z)) (((9 * x) * v) - (y * z)) : Int))) ∧ (-(y_div (((9 * x) * v) - (y * z)) (Int.gcd (((6 * y) * v) - ((2 * z) * z)) (((9 * x) * v) - (y * z)) : Int))) ≤ 4611686018427387904) ∧ (-4611686018427387904 ≤ (y_div (((6 * y) * v) - ((2 * z) * z)) (Int.gcd (((6 * y) * v) - ((2 * z) * z)) (((9 * x) * v) - (y * z)) : Int)) ∧ (y_div (((6 * y) * v) - ((2 * z) * z)) (Int.gcd (((6 * y) * v) - ((2 * z) * z)) (((9 * x) * v) - (y * z)) : Int)) ≤ 4611686018427387904)) ∧ ((w32 (bi (isFr (-(y_div (((9 * x) * v) - (y * z)) (Int.gcd (((6 * y) * v) - ((2 * z) * z)) (((9 * x) * v) - (y * z)) : Int))) (y_div (((6 * y) * v) - ((2 * z) * z)) (Int.gcd (((6 * y) * v) - ((2 * z) * z)) (((9 * x) * v) - (y * z)) : Int)))) = w32 0 → ((0 = 0 ∨ 0 = 1) ∧ (K (some (some (vI 0))) F A))) ∧ (¬ w32 (bi (isFr (-(y_div (((9 * x) * v) - (y * z)) (Int.gcd (((6 * y) * v) - ((2 * z) * z)) (((9 * x) * v) - (y * z)) : Int))) (y_div (((6 * y) * v) - ((2 * z) * z)) (Int.gcd (((6 * y) * v) - ((2 * z) * z)) (((9 * x) * v) - (y * z)) : Int)))) = w32 0 → ((1 = 0 ∨ 1 = 1) ∧ (K (some (some (vI 1))) F A)))))))) ∧ (¬ w32 (y_cmp ((3 * v) * (y_div (((9 * x) * v) - (y * z)) (Int.gcd (((6 * y) * v) - ((2 * z) * z)) (((9 * x) * v) - (y * z)) : Int))) ((2 * z) * (y_div (((6 * y) * v) - ((2 * z) * z)) (Int.gcd (((6 * y) * v) - ((2 * z) * z)) (((9 * x) * v) - (y * z)) : Int)))) = w32 0 → ((w32 0 = w32 0 → ((0 = 0 ∨ 0 = 1) ∧ (K (some (some (vI 0))) F A))) ∧ (¬ w32 0 = w32 0 → _))))))) ∧ (¬ w32 (y_cmp y 0) = w32 0 → ((w32 (y_cmp ((((y * (y_div (((6 * y) * v) - ((2 * z) * z)) (Int.gcd (((6 * y) * v) - ((2 * z) * z)) (((9 * x) * v) - (y * z)) : Int))) * (y_div (((6 * y) * v) - ((2 * z) * z)) (Int.gcd (((6 * y) * v) - ((2 * z) * z)) (((9 * x) * v) - (y * z)) : Int))) - (((2 * z) * (y_div (((6 * y) * v) - ((2 * z) * z)) (Int.gcd (((6 * y) * v) - ((2 * z) * z)) (((9 * x) * v) - (y * z)) : Int))) * (y_div (((9 * x) * v) - (y * z)) (Int.gcd (((6 * y) * v) - ((2 * z) * z)) (((9 * x) * v) - (y * z)) : Int)))) + (((3 * v) * (y_div (((9 * x) * v) - (y * z)) (Int.gcd (((6 * y) * v) - ((2 * z) * z)) (((9 * x) * v) - (y * z)) : Int))) * (y_div (((9 * x) * v) - (y * z)) (Int.gcd (((6 * y) * v) - ((2 * z) * z)) (((9 * x) * v) - (y * z)) : Int)))) 0) = w32 0 → ((w32 1 = w32 0 → _) ∧ (¬ w32 1 = w32 0 → (((-4611686018427387904 ≤ (-(y_div (((9 * x) * v) - (y * z)) (Int.gcd (((6 * y) * v) - ((2 * z) * z)) (((9 * x) * v) - (y * z)) : Int))) ∧ (-(y_div (((9 * x) * v) - (y * z)) (Int.gcd (((6 * y) * v) - ((2 * z) * z)) (((9 * x) * v) - (y * z)) : Int))) ≤ 4611686018427387904) ∧ (-4611686018427387904 ≤ (y_div (((6 * y) * v) - ((2 * z) * z)) (Int.gcd (((6 * y) * v) - ((2 * z) * z)) (((9 * x) * v) - (y * z)) : Int)) ∧ (y_div (((6 * y) * v) - ((2 * z) * z)) (Int.gcd (((6 * y) * v) - ((2 * z) * z)) (((9 * x) * v) - (y * z)) : Int)) ≤ 4611686018427387904)) ∧ ((w32 (bi (isFr (-(y_div (((9 * x) * v) - (y * z)) (Int.gcd (((6 * y) * v) - ((2 * z) * z)) (((9 * x) * v) - (y * z)) : Int))) (y_div (((6 * y) * v) - ((2 * z) * z)) (Int.gcd (((6 * y) * v) - ((2 * z) * z)) (((9 * x) * v) - (y * z)) : Int)))) = w32 0 → ((0 = 0 ∨ 0 = 1) ∧ (K (some (some (vI 0))) F A))) ∧ (¬ w32 (bi (isFr (-(y_div (((9 * x) * v) - (y * z)) (Int.gcd (((6 * y) * v) - ((2 * z) * z)) (((9 * x) * v) - (y * z)) : Int))) (y_div (((6 * y) * v) - ((2 * z) * z)) (Int.gcd (((6 * y) * v) - ((2 * z) * z)) (((9 * x) * v) - (y * z)) : Int)))) = w32 0 → ((1 = 0 ∨ 1 = 1) ∧ (K (some (some (vI 1))) F A)))))))) ∧ (¬ w32 (y_cmp ((((y * (y_div (((6 * y) * v) - ((2 * z) * z)) (Int.gcd (((6 * y) * v) - ((2 * z) * z)) (((9 * x) * v) - (y * z)) : Int))) * (y_div (((6 * y) * v) - ((2 * z) * z)) (Int.gcd (((6 * y) * v) - ((2 * z) * z)) (((9 * x) * v) - (y * z)) : Int))) - (((2 * z) * (y_div (((6 * y) * v) - ((2 * z) * z)) (Int.gcd (((6 * y) * v) - ((2 * z) * z)) (((9 * x) * v) - (y * z)) : Int))) * (y_div (((9 * x) * v) - (y * z)) (Int.gcd (((6 * y) * v) - ((2 * z) * z)) (((9 * x) * v) - (y * z)) : Int)))) + (((3 * v) * (y_div (((9 * x) * v) - (y * z)) (Int.gcd (((6 * y) * v) - ((2 * z) * z)) (((9 * x) * v) - (y * z)) : Int))) * (y_div (((9 * x) * v) - (y * z)) (Int.gcd (((6 * y) * v) - ((2 * z) * z)) (((9 * x) * v) - (y * z)) : Int)))) 0) = w32 0 → ((w32 0 = w32 0 → ((0 = 0 ∨ 0 = 1) ∧ (K (some (some (vI 0))) F A))) ∧ (¬ w32 0 = w32 0 → _))))))) ∧ (¬ w32 (y_cmp (y_rem y (y_div (((9 * x) * v) - (y * z)) (Int.gcd (((6 * y) * v) - ((2 * z) * z)) (((9 * x) * v) - (y * z)) : Int))) 0) = w32 0 → ((0 = 0 ∨ 0 = 1) ∧ (K (some (some (vI 0))) F A)))))))) ∧ (¬ w32 (y_cmp y 0) = w32 0 → ((0 = 0 ∨ 0 = 1) ∧ (K (some (some (vI 0))) F A))))) ∧ (¬ w32 (y_cmp (y_div (((9 * x) * v) - (y * z)) (Int.gcd (((6 * y) * v) - ((2 * z) * z)) (((9 * x) * v) - (y * z)) : Int)) 0) = w32 0 → ((w32 (y_cmp (y_div (((9 * x) * v) - (y * z)) (Int.gcd (((6 * y) * v) - ((2 * z) * z)) (((9 * x) * v) - (y * z)) : Int)) 0) = w32 0 → ((w32 (y_cmp y 0) = w32 0 → ((w32 (y_cmp (y_div (((9 * x) * v) - (y * z)) (Int.gcd (((6 * y) * v) - ((2 * z) * z)) (((9 * x) * v) - (y * z)) : Int)) 0) = w32 0 → ((w32 1 = w32 0 → _) ∧ (¬ w32 1 = w32 0 → (((-4611686018427387904 ≤ (-(y_div (((9 * x) * v) - (y * z)) (Int.gcd (((6 * y) * v) - ((2 * z) * z)) (((9 * x) * v) - (y * z)) : Int))) ∧ (-(y_div (((9 * x) * v) - (y * z)) (Int.gcd (((6 * y) * v) - ((2 * z) * z)) (((9 * x) * v) - (y * z)) : Int))) ≤ 4611686018427387904) ∧ (-4611686018427387904 ≤ (y_div (((6 * y) * v) - ((2 * z) * z)) (Int.gcd (((6 * y) * v) - ((2 * z) * z)) (((9 * x) * v) - (y * z)) : Int)) ∧ (y_div (((6 * y) * v) - ((2 * z) * z)) (Int.gcd (((6 * y) * v) - ((2 * z) * z)) (((9 * x) * v) - (y * z)) : Int)) ≤ 4611686018427387904)) ∧ ((w32 (bi (isFr (-(y_div (((9 * x) * v) - (y * z)) (Int.gcd (((6 * y) * v) - ((2 * z) * z)) (((9 * x) * v) - (y * z)) : Int))) (y_div (((6 * y) * v) - ((2 * z) * z)) (Int.gcd (((6 * y) * v) - ((2 * z) * z)) (((9 * x) * v) - (y * z)) : Int)))) = w32 0 → ((0 = 0 ∨ 0 = 1) ∧ (K (some (some (vI 0))) F A))) ∧ (¬ w32 (bi (isFr (-(y_div (((9 * x) * v) - (y * z)) (Int.gcd (((6 * y) * v) - ((2 * z) * z)) (((9 * x) * v) - (y * z)) : Int))) (y_div (((6 * y) * v) - ((2 * z) * z)) (Int.gcd (((6 * y) * v) - ((2 * z) * z)) (((9 * x) * v) - (y * z)) : Int)))) = w32 0 → ((1 = 0 ∨ 1 = 1) ∧ (K (some (some (vI 1))) F A)))))))) ∧ (¬ w32 (y_cmp (y_div (((9 * x) * v) - (y * z)) (Int.gcd (((6 * y) * v) - ((2 * z) * z)) (((9 * x) * v) - (y * z)) : Int)) 0) = w32 0 → ((w32 (y_cmp ((3 * v) * (y_div (((9 * x) * v) - (y * z)) (Int.gcd (((6 * y) * v) - ((2 * z) * z)) (((9 * x) * v) - (y * z)) : Int))) ((2 * z) * (y_div (((6 * y) * v) - ((2 * z) * z)) (Int.gcd (((6 * y) * v) - ((2 * z) * z)) (((9 * x) * v) - (y * z)) : Int)))) = w32 0 → ((w32 1 = w32 0 → _) ∧ (¬ w32 1 = w32 0 → (((-4611686018427387904 ≤ (-(y_div (((9 * x) * v) - (y * z)) (Int.gcd (((6 * y) * v) - ((2 * z) * z)) (((9 * x) * v) - (y * z)) : Int))) ∧ (-(y_div (((9 * x) * v) - (y * z)) (Int.gcd (((6 * y) * v) - ((2 * z) * z)) (((9 * x) * v) - (y * z)) : Int))) ≤ 4611686018427387904) ∧ (-4611686018427387904 ≤ (y_div (((6 * y) * v) - ((2 * z) * z)) (Int.gcd (((6 * y) * v) - ((2 * z) * z)) (((9 * x) * v) - (y * z)) : Int)) ∧ (y_div (((6 * y) * v) - ((2 * z) * z)) (Int.gcd (((6 * y) * v) - ((2 * z) * z)) (((9 * x) * v) - (y * z)) : Int)) ≤ 4611686018427387904)) ∧ ((w32 (bi (isFr (-(y_div (((9 * x) * v) - (y * z)) (Int.gcd (((6 * y) * v) - ((2 * z) * z)) (((9 * x) * v) - (y * z)) : Int))) (y_div (((6 * y) * v) - ((2 * z) * z)) (Int.gcd (((6 * y) * v) - ((2 * z) * z)) (((9 * x) * v) - (y * z)) : Int)))) = w32 0 → ((0 = 0 ∨ 0 = 1) ∧ (K (some (some (vI 0))) F A))) ∧ (¬ w32 (bi (isFr (-(y_div (((9 * x) * v) - (y * z)) (Int.gcd (((6 * y) * v) - ((2 * z) * z)) (((9 * x) * v) - (y * z)) : Int))) (y_div (((6 * y) * v) - ((2 * z) * z)) (Int.gcd (((6 * y) * v) - ((2 * z) * z)) (((9 * x) * v) - (y * z)) : Int)))) = w32 0 → ((1 = 0 ∨ 1 = 1) ∧ (K (some (some (vI 1))) F A)))))))) ∧ (¬ w32 (y_cmp ((3 * v) * (y_div (((9 * x) * v) - (y * z)) (Int.gcd (((6 * y) * v) - ((2 * z) * z)) (((9 * x) * v) - (y * z)) : Int))) ((2 * z) * (y_div (((6 * y) * v) - ((2 * z) * z)) (Int.gcd (((6 * y) * v) - ((2 * z) * z)) (((9 * x) * v) - (y * z)) : Int)))) = w32 0 → ((w32 0 = w32 0 → ((0 = 0 ∨ 0 = 1) ∧ (K (some (some (vI 0))) F A))) ∧ (¬ w32 0 = w32 0 → _))))))) ∧ (¬ w32 (y_cmp y 0) = w32 0 → ((w32 (y_cmp ((((y * (y_div (((6 * y) * v) - ((2 * z) * z)) (Int.gcd (((6 * y) * v) - ((2 * z) * z)) (((9 * x) * v) - (y * z)) : Int))) * (y_div (((6 * y) * v) - ((2 * z) * z)) (Int.gcd (((6 * y) * v) - ((2 * z) * z)) (((9 * x) * v) - (y * z)) : Int))) - (((2 * z) * (y_div (((6 * y) * v) - ((2 * z) * z)) (Int.gcd (((6 * y) * v) - ((2 * z) * z)) (((9 * x) * v) - (y * z)) : Int))) * (y_div (((9 * x) * v) - (y * z)) (Int.gcd (((6 * y) * v) - ((2 * z) * z)) (((9 * x) * v) - (y * z)) : Int)))) + (((3 * v) * (y_div (((9 * x) * v) - (y * z)) (Int.gcd (((6 * y) * v) - ((2 * z) * z)) (((9 * x) * v) - (y * z)) : Int))) * (y_div (((9 * x) * v) - (y * z)) (Int.gcd (((6 * y) * v) - ((2 * z) * z)) (((9 * x) * v) - (y * z)) : Int)))) 0) = w32 0 → ((w32 1 = w32 0 → _) ∧ (¬ w32 1 = w32 0 → (((-4611686018427387904 ≤ (-(y_div (((9 * x) * v) - (y * z)) (Int.gcd (((6 * y) * v) - ((2 * z) * z)) (((9 * x) * v) - (y * z)) : Int))) ∧ (-(y_div (((9 * x) * v) - (y * z)) (Int.gcd (((6 * y) * v) - ((2 * z) * z)) (((9 * x) * v) - (y * z)) : Int))) ≤ 4611686018427387904) ∧ (-4611686018427387904 ≤ (y_div (((6 * y) * v) - ((2 * z) * z)) (Int.gcd (((6 * y) * v) - ((2 * z) * z)) (((9 * x) * v) - (y * z)) : Int)) ∧ (y_div (((6 * y) * v) - ((2 * z) * z)) (Int.gcd (((6 * y) * v) - ((2 * z) * z)) (((9 * x) * v) - (y * z)) : Int)) ≤ 4611686018427387904)) ∧ ((w32 (bi (isFr (-(y_div (((9 * x) * v) - (y * z)) (Int.gcd (((6 * y) * v) - ((2 * z) * z)) (((9 * x) * v) - (y * z)) : Int))) (y_div (((6 * y) * v) - ((2 * z) * z)) (Int.gcd (((6 * y) * v) - ((2 * z) * z)) (((9 * x) * v) - (y * z)) : Int)))) = w32 0 → ((0 = 0 ∨ 0 = 1) ∧ (K (some (some (vI 0))) F A))) ∧ (¬ w32 (bi (isFr (-(y_div (((9 * x) * v) - (y * z)) (Int.gcd (((6 * y) * v) - ((2 * z) * z)) (((9 * x) * v) - (y * z)) : Int))) (y_div (((6 * y) * v) - ((2 * z) * z)) (Int.gcd (((6 * y) * v) - ((2 * z) * z)) (((9 * x) * v) - (y * z)) : Int)))) = w32 0 → ((1 = 0 ∨ 1 = 1) ∧ (K (some (some (vI 1))) F A)))))))) ∧ (¬ w32 (y_cmp ((((y * (y_div (((6 * y) * v) - ((2 * z) * z)) (Int.gcd (((6 * y) * v) - ((2 * z) * z)) (((9 * x) * v) - (y * z)) : Int))) * (y_div (((6 * y) * v) - ((2 * z) * z)) (Int.gcd (((6 * y) * v) - ((2 * z) * z)) (((9 * x) * v) - (y * z)) : Int))) - (((2 * z) * (y_div (((6 * y) * v) - ((2 * z) * z)) (Int.gcd (((6 * y) * v) - ((2 * z) * z)) (((9 * x) * v) - (y * z)) : Int))) * (y_div (((9 * x) * v) - (y * z)) (Int.gcd (((6 * y) * v) - ((2 * z) * z)) (((9 * x) * v) - (y * z)) : Int)))) + (((3 * v) * (y_div (((9 * x) * v) - (y * z)) (Int.gcd (((6 * y) * v) - ((2 * z) * z)) (((9 * x) * v) - (y * z)) : Int))) * (y_div (((9 * x) * v) - (y * z)) (Int.gcd (((6 * y) * v) - ((2 * z) * z)) (((9 * x) * v) - (y * z)) : Int)))) 0) = w32 0 → ((w32 0 = w32 0 → ((0 = 0 ∨ 0 = 1) ∧ (K (some (some (vI 0))) F A))) ∧ (¬ w32 0 = w32 0 → _))))))) ∧ (¬ w32 (y_cmp (y_div (((9 * x) * v) - (y * z)) (Int.gcd (((6 * y) * v) - ((2 * z) * z)) (((9 * x) * v) - (y * z)) : Int)) 0) = w32 0 → ((w64 (y_div (((9 * x) * v) - (y * z)) (Int.gcd (((6 * y) * v) - ((2 * z) * z)) (((9 * x) * v) - (y * z)) : Int)) ≠ 0) ∧ ((w32 (y_cmp (y_rem y (y_div (((9 * x) * v) - (y * z)) (Int.gcd (((6 * y) * v) - ((2 * z) * z)) (((9 * x) * v) - (y * z)) : Int))) 0) = w32 0 → ((w32 (y_cmp y 0) = w32 0 → ((w32 (y_cmp (y_div (((9 * x) * v) - (y * z)) (Int.gcd (((6 * y) * v) - ((2 * z) * z)) (((9 * x) * v) - (y * z)) : Int)) 0) = w32 0 → ((w32 1 = w32 0 → _) ∧ (¬ w32 1 = w32 0 → (((-4611686018427387904 ≤ (-(y_div (((9 * x) * v) - (y * z)) (Int.gcd (((6 * y) * v) - ((2 * z) * z)) (((9 * x) * v) - (y * z)) : Int))) ∧ (-(y_div (((9 * x) * v) - (y * z)) (Int.gcd (((6 * y) * v) - ((2 * z) * z)) (((9 * x) * v) - (y * z)) : Int))) ≤ 4611686018427387904) ∧ (-4611686018427387904 ≤ (y_div (((6 * y) * v) - ((2 * z) * z)) (Int.gcd (((6 * y) * v) - ((2 * z) * z)) (((9 * x) * v) - (y * z)) : Int)) ∧ (y_div (((6 * y) * v) - ((2 * z) * z)) (Int.gcd (((6 * y) * v) - ((2 * z) * z)) (((9 * x) * v) - (y * z)) : Int)) ≤ 4611686018427387904)) ∧ ((w32 (bi (isFr (-(y_div (((9 * x) * v) - (y * z)) (Int.gcd (((6 * y) * v) - ((2 * z) * z)) (((9 * x) * v) - (y * z)) : Int))) (y_div (((6 * y) * v) - ((2 * z) * z)) (Int.gcd (((6 * y) * v) - ((2 * z) * z)) (((9 * x) * v) - (y * z)) : Int)))) = w32 0 → ((0 = 0 ∨ 0 = 1) ∧ (K (some (some (vI 0))) F A))) ∧ (¬ w32 (bi (isFr (-(y_div (((9 * x) * v) - (y * z)) (Int.gcd (((6 * y) * v) - ((2 * z) * z)) (((9 * x) * v) - (y * z)) : Int))) (y_div (((6 * y) * v) - ((2 * z) * z)) (Int.gcd (((6 * y) * v) - ((2 * z) * z)) (((9 * x) * v) - (y * z)) : Int)))) = w32 0 → ((1 = 0 ∨ 1 = 1) ∧ (K (some (some (vI 1))) F A)))))))) ∧ (¬ w32 (y_cmp (y_div (((9 * x) * v) - (y * z)) (Int.gcd (((6 * y) * v) - ((2 * z) * z)) (((9 * x) * v) - (y * z)) : Int)) 0) = w32 0 → ((w32 (y_cmp ((3 * v) * (y_div (((9 * x) * v) - (y * z)) (Int.gcd (((6 * y) * v) - ((2 * z) * z)) (((9 * x) * v) - (y * z)) : Int))) ((2 * z) * (y_div (((6 * y) * v) - ((2 * z) * z)) (Int.gcd (((6 * y) * v) - ((2 * z) * z)) (((9 * x) * v) - (y * z)) : Int)))) = w32 0 → ((w32 1 = w32 0 → _) ∧ (¬ w32 1 = w32 0 → (((-4611686018427387904 ≤ (-(y_div (((9 * x) * v) - (y * z)) (Int.gcd (((6 * y) * v) - ((2 * z) * z)) (((9 * x) * v) - (y * z)) : Int))) ∧ (-(y_div (((9 * x) * v) - (y * z)) (Int.gcd (((6 * y) * v) - ((2 * z) * z)) (((9 * x) * v) - (y * z)) : Int))) ≤ 4611686018427387904) ∧ (-4611686018427387904 ≤ (y_div (((6 * y) * v) - ((2 * z) * z)) (Int.gcd (((6 * y) * v) - ((2 * z) * z)) (((9 * x) * v) - (y * z)) : Int)) ∧ (y_div (((6 * y) * v) - ((2 * z) * z)) (Int.gcd (((6 * y) * v) - ((2 * z) * z)) (((9 * x) * v) - (y * z)) : Int)) ≤ 4611686018427387904)) ∧ ((w32 (bi (isFr (-(y_div (((9 * x) * v) - (y * z)) (Int.gcd (((6 * y) * v) - ((2 * z) * z)) (((9 * x) * v) - (y * z)) : Int))) (y_div (((6 * y) * v) - ((2 * z) * z)) (Int.gcd (((6 * y) * v) - ((2 * z) * z)) (((9 * x) * v) - (y * z)) : Int)))) = w32 0 → ((0 = 0 ∨ 0 = 1) ∧ (K (some (some (vI 0))) F A))) ∧ (¬ w32 (bi (isFr (-(y_div (((9 * x) * v) - (y * z)) (Int.gcd (((6 * y) * v) - ((2 * z) * z)) (((9 * x) * v) - (y * z)) : Int))) (y_div (((6 * y) * v) - ((2 * z) * z)) (Int.gcd (((6 * y) * v) - ((2 * z) * z)) (((9 * x) * v) - (y * z)) : Int)))) = w32 0 → ((1 = 0 ∨ 1 = 1) ∧ (K (some (some (vI 1))) F A)))))))) ∧ (¬ w32 (y_cmp ((3 * v) * (y_div (((9 * x) * v) - (y * z)) (Int.gcd (((6 * y) * v) - ((2 * z) * z)) (((9 * x) * v) - (y * z)) : Int))) ((2 * z) * (y_div (((6 * y) * v) - ((2 * z) * z)) (Int.gcd (((6 * y) * v) - ((2 * z) * z)) (((9 * x) * v) - (y * z)) : Int)))) = w32 0 → ((w32 0 = w32 0 → ((0 = 0 ∨ 0 = 1) ∧ (K (some (some (vI 0))) F A))) ∧ (¬ w32 0 = w32 0 → _))))))) ∧ (¬ w32 (y_cmp y 0) = w32 0 → ((w32 (y_cmp ((((y * (y_div (((6 * y) * v) - ((2 * z) * z)) (Int.gcd (((6 * y) * v) - ((2 * z) * z)) (((9 * x) * v) - (y * z)) : Int))) * (y_div (((6 * y) * v) - ((2 * z) * z)) (Int.gcd (((6 * y) * v) - ((2 * z) * z)) (((9 * x) * v) - (y * z)) : Int))) - (((2 * z) * (y_div (((6 * y) * v) - ((2 * z) * z)) (Int.gcd (((6 * y) * v) - ((2 * z) * z)) (((9 * x) * v) - (y * z)) : Int))) * (y_div (((9 * x) * v) - (y * z)) (Int.gcd (((6 * y) * v) - ((2 * z) * z)) (((9 * x) * v) - (y * z)) : Int)))) + (((3 * v) * (y_div (((9 * x) * v) - (y * z)) (Int.gcd (((6 * y) * v) - ((2 * z) * z)) (((9 * x) * v) - (y * z)) : Int))) * (y_div (((9 * x) * v) - (y * z)) (Int.gcd (((6 * y) * v) - ((2 * z) * z)) (((9 * x) * v) - (y * z)) : Int)))) 0) = w32 0 → ((w32 1 = w32 0 → _) ∧ (¬ w32 1 = w32 0 → (((-4611686018427387904 ≤ (-(y_div (((9 * x) * v) - (y * z)) (Int.gcd (((6 * y) * v) - ((2 * z) * z)) (((9 * x) * v) - (y * z)) : Int))) ∧ (-(y_div (((9 * x) * v) - (y * z)) (Int.gcd (((6 * y) * v) - ((2 * z) * z)) (((9 * x) * v) - (y * z)) : Int))) ≤ 4611686018427387904) ∧ (-4611686018427387904 ≤ (y_div (((6 * y) * v) - ((2 * z) * z)) (Int.gcd (((6 * y) * v) - ((2 * z) * z)) (((9 * x) * v) - (y * z)) : Int)) ∧ (y_div (((6 * y) * v) - ((2 * z) * z)) (Int.gcd (((6 * y) * v) - ((2 * z) * z)) (((9 * x) * v) - (y * z)) : Int)) ≤ 4611686018427387904)) ∧ ((w32 (bi (isFr (-(y_div (((9 * x) * v) - (y * z)) (Int.gcd (((6 * y) * v) - ((2 * z) * z)) (((9 * x) * v) - (y * z)) : Int))) (y_div (((6 * y) * v) - ((2 * z) * z)) (Int.gcd (((6 * y) * v) - ((2 * z) * z)) (((9 * x) * v) - (y * z)) : Int)))) = w32 0 → ((0 = 0 ∨ 0 = 1) ∧ (K (some (some (vI 0))) F A))) ∧ (¬ w32 (bi (isFr (-(y_div (((9 * x) * v) - (y * z)) (Int.gcd (((6 * y) * v) - ((2 * z) * z)) (((9 * x) * v) - (y * z)) : Int))) (y_div (((6 * y) * v) - ((2 * z) * z)) (Int.gcd (((6 * y) * v) - ((2 * z) * z)) (((9 * x) * v) - (y * z)) : Int)))) = w32 0 → ((1 = 0 ∨ 1 = 1) ∧ (K (some (some (vI 1))) F A)))))))) ∧ (¬ w32 (y_cmp ((((y * (y_div (((6 * y) * v) - ((2 * z) * z)) (Int.gcd (((6 * y) * v) - ((2 * z) * z)) (((9 * x) * v) - (y * z)) : Int))) * (y_div (((6 * y) * v) - ((2 * z) * z)) (Int.gcd (((6 * y) * v) - ((2 * z) * z)) (((9 * x) * v) - (y * z)) : Int))) - (((2 * z) * (y_div (((6 * y) * v) - ((2 * z) * z)) (Int.gcd (((6 * y) * v) - ((2 * z) * z)) (((9 * x) * v) - (y * z)) : Int))) * (y_div (((9 * x) * v) - (y * z)) (Int.gcd (((6 * y) * v) - ((2 * z) * z)) (((9 * x) * v) - (y * z)) : Int)))) + (((3 * v) * (y_div (((9 * x) * v) - (y * z)) (Int.gcd (((6 * y) * v) - ((2 * z) * z)) (((9 * x) * v) - (y * z)) : Int))) * (y_div (((9 * x) * v) - (y * z)) (Int.gcd (((6 * y) * v) - ((2 * z) * z)) (((9 * x) * v) - (y * z)) : Int)))) 0) = w32 0 → ((w32 0 = w32 0 → ((0 = 0 ∨ 0 = 1) ∧ (K (some (some (vI 0))) F A))) ∧ (¬ w32 0 = w32 0 → _))))))) ∧ (¬ w32 (y_cmp (y_rem y (y_div (((9 * x) * v) - (y * z)) (Int.gcd (((6 * y) * v) - ((2 * z) * z)) (((9 * x) * v) - (y * z)) : Int))) 0) = w32 0 → ((0 = 0 ∨ 0 = 1) ∧ (K (some (some (vI 0))) F A)))))))))) ∧ (¬ w32 (y_cmp (y_rem (3 * v) (y_div (((6 * y) * v) - ((2 * z) * z)) (Int.gcd (((6 * y) * v) - ((2 * z) * z)) (((9 * x) * v) - (y * z)) : Int))) 0) = w32 0 → ((0 = 0 ∨ 0 = 1) ∧ (K (some (some (vI 0))) F A)))))))))
  refine ⟨fun c1 => ?_, fun c1 => ?_⟩
  · skip
    (try simp (disch := omega) only [w32_0, yc_eq0, w64_0, wbi0, Classical.not_not, w64_id] at c1); (try (rw [y_rem0 (by omega) (by omega) (by omega)] at c1))
    refine ⟨fun c2 => ?_, fun c2 => ?_⟩
    · skip
      (try simp (disch := omega) only [w32_0, yc_eq0, w64_0, wbi0, Classical.not_not, w64_id] at c2); (try (rw [y_rem0 (by omega) (by omega) (by omega)] at c2))
      try (have ab := dv_b c2 (show ¬ 3 * v = 0 by omega) (M := 28800) (by omega); have t1 := mu_b b_y ab; have t2 := mu_b (a := y * a) (b := a) (M := 207360000) (by omega) ab; have t3 := mu_b (a := 2 * z) (b := a) (M := 28800) (by omega) ab; have t4 := mu_b (a := 2 * z * a) (b := b) (M := 829440000) (by omega) bb; have t5 := mu_b (a := 3 * v) (b := b) (M := 28800) (by omega) bb)
      refine ⟨by first | exact bi_01 | exact Or.inl rfl | exact Or.inr rfl | exact Or.inl trivial | exact Or.inr trivial | omega | exact ⟨⟨by omega, by omega⟩, by omega, by omega⟩ | (rw [w64_id (by omega) (by omega)]; omega), ?_⟩
      refine ⟨fun c3 => ?_, fun c3 => ?_⟩
      · skip
        (try simp (disch := omega) only [w32_0, yc_eq0, w64_0, wbi0, Classical.not_not, w64_id] at c3); (try (rw [y_rem0 (by omega) (by omega) (by omega)] at c3))
        refine ⟨by first | exact bi_01 | exact Or.inl rfl | exact Or.inr rfl | exact Or.inl trivial | exact Or.inr trivial | omega | exact ⟨⟨by omega, by omega⟩, by omega, by omega⟩ | (rw [w64_id (by omega) (by omega)]; omega), ?_⟩
        first
        | (exfalso; omega)
        | exact K_eq h (bi_t ((if_pos c1).mpr ⟨c2, c3⟩))
        | exact K_eq h (bi_f (fun q => c3 ((if_pos c1).mp q).2))
        | exact K_eq h (bi_f (fun q => c2 ((if_pos c1).mp q).1))
        | exact K_eq h (bi_f (fun q => c2 (DV (R.mp q).1).1))
        | exact K_eq h (bi_f (fun q => c5 (DV (R.mp q).1).2))
        | exact K_eq h (bi_f (fun q => c4 (Int.zero_dvd.mp (c3 ▸ (DV (R.mp q).1).2))))
        | exact K_eq h (bi_t (R.mpr ⟨c7, c8⟩))
        | exact K_eq h (bi_f (fun q => c7 (R.mp q).1))
        | exact K_eq h (bi_f (fun q => c8 (R.mp q).2))
        | exact K_eq h (bi_t (R.mpr ⟨(cbX_y0 c6 c3).mpr c8, c9⟩))
        | exact K_eq h (bi_f (fun q => c8 ((cbX_y0 c6 c3).mp (R.mp q).1)))
        | exact K_eq h (bi_f (fun q => c9 (R.mp q).2))
        | exact K_eq h (bi_t (R.mpr ⟨cbX_00 c6 c3, c8⟩))
      · skip
        (try simp (disch := omega) only [w32_0, yc_eq0, w64_0, wbi0, Classical.not_not, w64_id] at c3); (try (rw [y_rem0 (by omega) (by omega) (by omega)] at c3))
        refine ⟨by first | exact bi_01 | exact Or.inl rfl | exact Or.inr rfl | exact Or.inl trivial | exact Or.inr trivial | omega | exact ⟨⟨by omega, by omega⟩, by omega, by omega⟩ | (rw [w64_id (by omega) (by omega)]; omega), ?_⟩
        first
        | (exfalso; omega)
        | exact K_eq h (bi_t ((if_pos c1).mpr ⟨c2, c3⟩))
        | exact K_eq h (bi_f (fun q => c3 ((if_pos c1).mp q).2))
        | exact K_eq h (bi_f (fun q => c2 ((if_pos c1).mp q).1))
        | exact K_eq h (bi_f (fun q => c2 (DV (R.mp q).1).1))
        | exact K_eq h (bi_f (fun q => c5 (DV (R.mp q).1).2))
        | exact K_eq h (bi_f (fun q => c4 (Int.zero_dvd.mp (c3 ▸ (DV (R.mp q).1).2))))
        | exact K_eq h (bi_t (R.mpr ⟨c7, c8⟩))
        | exact K_eq h (bi_f (fun q => c7 (R.mp q).1))
        | exact K_eq h (bi_f (fun q => c8 (R.mp q).2))
        | exact K_eq h (bi_t (R.mpr ⟨(cbX_y0 c6 c3).mpr c8, c9⟩))
        | exact K_eq h (bi_f (fun q => c8 ((cbX_y0 c6 c3).mp (R.mp q).1)))
        | exact K_eq h (bi_f (fun q => c9 (R.mp q).2))
        | exact K_eq h (bi_t (R.mpr ⟨cbX_00 c6 c3, c8⟩))
    · skip
      (try simp (disch := omega) only [w32_0, yc_eq0, w64_0, wbi0, Classical.not_not, w64_id] at c2); (try (rw [y_rem0 (by omega) (by omega) (by omega)] at c2))
      refine ⟨by first | exact bi_01 | exact Or.inl rfl | exact Or.inr rfl | exact Or.inl trivial | exact Or.inr trivial | omega | exact ⟨⟨by omega, by omega⟩, by omega, by omega⟩ | (rw [w64_id (by omega) (by omega)]; omega), ?_⟩
      first
      | (exfalso; omega)
      | exact K_eq h (bi_t ((if_pos c1).mpr ⟨c2, c3⟩))
      | exact K_eq h (bi_f (fun q => c3 ((if_pos c1).mp q).2))
      | exact K_eq h (bi_f (fun q => c2 ((if_pos c1).mp q).1))
      | exact K_eq h (bi_f (fun q => c2 (DV (R.mp q).1).1))
      | exact K_eq h (bi_f (fun q => c5 (DV (R.mp q).1).2))
      | exact K_eq h (bi_f (fun q => c4 (Int.zero_dvd.mp (c3 ▸ (DV (R.mp q).1).2))))
      | exact K_eq h (bi_t (R.mpr ⟨c7, c8⟩))
      | exact K_eq h (bi_f (fun q => c7 (R.mp q).1))
      | exact K_eq h (bi_f (fun q => c8 (R.mp q).2))
      | exact K_eq h (bi_t (R.mpr ⟨(cbX_y0 c6 c3).mpr c8, c9⟩))
      | exact K_eq h (bi_f (fun q => c8 ((cbX_y0 c6 c3).mp (R.mp q).1)))
      | exact K_eq h (bi_f (fun q => c9 (R.mp q).2))
      | exact K_eq h (bi_t (R.mpr ⟨cbX_00 c6 c3, c8⟩))
  · skip
    (try simp (disch := omega) only [w32_0, yc_eq0, w64_0, wbi0, Classical.not_not, w64_id] at c1); (try (rw [y_rem0 (by omega) (by omega) (by omega)] at c1))
    obtain ⟨a, b, g, g0, g1, eg, eA, eB, cop, dA, dB, a0, ba, bb⟩ := cb_div (B := 9 * x * v - y * z) c1 (by omega) (by omega)
    simp only [eg, dA, dB]
    have R := cb_red c1 g0 eA eB
    have DV := fun q => cb_dv (y := y) (z := z) (v := v) cop q
    refine ⟨by first | exact bi_01 | exact Or.inl rfl | exact Or.inr rfl | exact Or.inl trivial | exact Or.inr trivial | omega | exact ⟨⟨by omega, by omega⟩, by omega, by omega⟩ | (rw [w64_id (by omega) (by omega)]; omega), ?_⟩
    refine ⟨by first | exact bi_01 | exact Or.inl rfl | exact Or.inr rfl | exact Or.inl trivial | exact Or.inr trivial | omega | exact ⟨⟨by omega, by omega⟩, by omega, by omega⟩ | (rw [w64_id (by omega) (by omega)]; omega), ?_⟩
    refine ⟨by first | exact bi_01 | exact Or.inl rfl | exact Or.inr rfl | exact Or.inl trivial | exact Or.inr trivial | omega | exact ⟨⟨by omega, by omega⟩, by omega, by omega⟩ | (rw [w64_id (by omega) (by omega)]; omega), ?_⟩
    refine ⟨by first | exact bi_01 | exact Or.inl rfl | exact Or.inr rfl | exact Or.inl trivial | exact Or.inr trivial | omega | exact ⟨⟨by omega, by omega⟩, by omega, by omega⟩ | (rw [w64_id (by omega) (by omega)]; omega), ?_⟩
    refine ⟨fun c2 => ?_, fun c2 => ?_⟩
    · skip
      (try simp (disch := omega) only [w32_0, yc_eq0, w64_0, wbi0, Classical.not_not, w64_id] at c2); (try (rw [y_rem0 (by omega) (by omega) (by omega)] at c2))
      try (have ab := dv_b c2 (show ¬ 3 * v = 0 by omega) (M := 28800) (by omega); have t1 := mu_b b_y ab; have t2 := mu_b (a := y * a) (b := a) (M := 207360000) (by omega) ab; have t3 := mu_b (a := 2 * z) (b := a) (M := 28800) (by omega) ab; have t4 := mu_b (a := 2 * z * a) (b := b) (M := 829440000) (by omega) bb; have t5 := mu_b (a := 3 * v) (b := b) (M := 28800) (by omega) bb)
      refine ⟨fun c3 => ?_, fun c3 => ?_⟩
      · skip
        (try simp (disch := omega) only [w32_0, yc_eq0, w64_0, wbi0, Classical.not_not, w64_id] at c3); (try (rw [y_rem0 (by omega) (by omega) (by omega)] at c3))
        refine ⟨fun c4 => ?_, fun c4 => ?_⟩
        · skip
          (try simp (disch := omega) only [w32_0, yc_eq0, w64_0, wbi0, Classical.not_not, w64_id] at c4); (try (rw [y_rem0 (by omega) (by omega) (by omega)] at c4))
          refine ⟨fun c5 => ?_, fun c5 => ?_⟩
          · skip
            (try simp (disch := omega) only [w32_0, yc_eq0, w64_0, wbi0, Classical.not_not, w64_id] at c5); (try (rw [y_rem0 (by omega) (by omega) (by omega)] at c5))
            refine ⟨fun c6 => ?_, fun c6 => ?_⟩
            · skip
              (try simp (disch := omega) only [w32_0, yc_eq0, w64_0, wbi0, Classical.not_not, w64_id] at c6); (try (rw [y_rem0 (by omega) (by omega) (by omega)] at c6))
              refine ⟨fun c7 => ?_, fun c7 => ?_⟩
              · skip
                (try simp (disch := omega) only [w32_0, yc_eq0, w64_0, wbi0, Classical.not_not, w64_id] at c7); (try (rw [y_rem0 (by omega) (by omega) (by omega)] at c7))
                refine ⟨fun q => absurd q (by decide), fun _ => ?_⟩
                refine ⟨by first | exact bi_01 | exact Or.inl rfl | exact Or.inr rfl | exact Or.inl trivial | exact Or.inr trivial | omega | exact ⟨⟨by omega, by omega⟩, by omega, by omega⟩ | (rw [w64_id (by omega) (by omega)]; omega), ?_⟩
                refine ⟨fun c8 => ?_, fun c8 => ?_⟩
                · skip
                  (try simp (disch := omega) only [w32_0, yc_eq0, w64_0, wbi0, Classical.not_not, w64_id] at c8); (try (rw [y_rem0 (by omega) (by omega) (by omega)] at c8))
                  refine ⟨by first | exact bi_01 | exact Or.inl rfl | exact Or.inr rfl | exact Or.inl trivial | exact Or.inr trivial | omega | exact ⟨⟨by omega, by omega⟩, by omega, by omega⟩ | (rw [w64_id (by omega) (by omega)]; omega), ?_⟩
                  first
                  | (exfalso; omega)
                  | exact K_eq h (bi_t ((if_pos c1).mpr ⟨c2, c3⟩))
                  | exact K_eq h (bi_f (fun q => c3 ((if_pos c1).mp q).2))
                  | exact K_eq h (bi_f (fun q => c2 ((if_pos c1).mp q).1))
                  | exact K_eq h (bi_f (fun q => c2 (DV (R.mp q).1).1))
                  | exact K_eq h (bi_f (fun q => c5 (DV (R.mp q).1).2))
                  | exact K_eq h (bi_f (fun q => c4 (Int.zero_dvd.mp (c3 ▸ (DV (R.mp q).1).2))))
                  | exact K_eq h (bi_t (R.mpr ⟨c7, c8⟩))
                  | exact K_eq h (bi_f (fun q => c7 (R.mp q).1))
                  | exact K_eq h (bi_f (fun q => c8 (R.mp q).2))
                  | exact K_eq h (bi_t (R.mpr ⟨(cbX_y0 c6 c3).mpr c8, c9⟩))
                  | exact K_eq h (bi_f (fun q => c8 ((cbX_y0 c6 c3).mp (R.mp q).1)))
                  | exact K_eq h (bi_f (fun q => c9 (R.mp q).2))
                  | exact K_eq h (bi_t (R.mpr ⟨cbX_00 c6 c3, c8⟩))
                · skip
                  (try simp (disch := omega) only [w32_0, yc_eq0, w64_0, wbi0, Classical.not_not, w64_id] at c8); (try (rw [y_rem0 (by omega) (by omega) (by omega)] at c8))
                  refine ⟨by first | exact bi_01 | exact Or.inl rfl | exact Or.inr rfl | exact Or.inl trivial | exact Or.inr trivial | omega | exact ⟨⟨by omega, by omega⟩, by omega, by omega⟩ | (rw [w64_id (by omega) (by omega)]; omega), ?_⟩
                  first
                  | (exfalso; omega)
                  | exact K_eq h (bi_t ((if_pos c1).mpr ⟨c2, c3⟩))
                  | exact K_eq h (bi_f (fun q => c3 ((if_pos c1).mp q).2))
                  | exact K_eq h (bi_f (fun q => c2 ((if_pos c1).mp q).1))
                  | exact K_eq h (bi_f (fun q => c2 (DV (R.mp q).1).1))
                  | exact K_eq h (bi_f (fun q => c5 (DV (R.mp q).1).2))
                  | exact K_eq h (bi_f (fun q => c4 (Int.zero_dvd.mp (c3 ▸ (DV (R.mp q).1).2))))
                  | exact K_eq h (bi_t (R.mpr ⟨c7, c8⟩))
                  | exact K_eq h (bi_f (fun q => c7 (R.mp q).1))
                  | exact K_eq h (bi_f (fun q => c8 (R.mp q).2))
                  | exact K_eq h (bi_t (R.mpr ⟨(cbX_y0 c6 c3).mpr c8, c9⟩))
                  | exact K_eq h (bi_f (fun q => c8 ((cbX_y0 c6 c3).mp (R.mp q).1)))
                  | exact K_eq h (bi_f (fun q => c9 (R.mp q).2))
                  | exact K_eq h (bi_t (R.mpr ⟨cbX_00 c6 c3, c8⟩))
              · skip
                (try simp (disch := omega) only [w32_0, yc_eq0, w64_0, wbi0, Classical.not_not, w64_id] at c7); (try (rw [y_rem0 (by omega) (by omega) (by omega)] at c7))
                refine ⟨fun c8 => ?_, fun c8 => ?_⟩
                · skip
                  (try simp (disch := omega) only [w32_0, yc_eq0, w64_0, wbi0, Classical.not_not, w64_id] at c8); (try (rw [y_rem0 (by omega) (by omega) (by omega)] at c8))
                  refine ⟨fun q => absurd q (by decide), fun _ => ?_⟩
                  refine ⟨by first | exact bi_01 | exact Or.inl rfl | exact Or.inr rfl | exact Or.inl trivial | exact Or.inr trivial | omega | exact ⟨⟨by omega, by omega⟩, by omega, by omega⟩ | (rw [w64_id (by omega) (by omega)]; omega), ?_⟩
                  refine ⟨fun c9 => ?_, fun c9 => ?_⟩
                  · skip
                    (try simp (disch := omega) only [w32_0, yc_eq0, w64_0, wbi0, Classical.not_not, w64_id] at c9); (try (rw [y_rem0 (by omega) (by omega) (by omega)] at c9))
                    refine ⟨by first | exact bi_01 | exact Or.inl rfl | exact Or.inr rfl | exact Or.inl trivial | exact Or.inr trivial | omega | exact ⟨⟨by omega, by omega⟩, by omega, by omega⟩ | (rw [w64_id (by omega) (by omega)]; omega), ?_⟩
                    first
                    | (exfalso; omega)
                    | exact K_eq h (bi_t ((if_pos c1).mpr ⟨c2, c3⟩))
                    | exact K_eq h (bi_f (fun q => c3 ((if_pos c1).mp q).2))
                    | exact K_eq h (bi_f (fun q => c2 ((if_pos c1).mp q).1))
                    | exact K_eq h (bi_f (fun q => c2 (DV (R.mp q).1).1))
                    | exact K_eq h (bi_f (fun q => c5 (DV (R.mp q).1).2))
                    | exact K_eq h (bi_f (fun q => c4 (Int.zero_dvd.mp (c3 ▸ (DV (R.mp q).1).2))))
                    | exact K_eq h (bi_t (R.mpr ⟨c7, c8⟩))
                    | exact K_eq h (bi_f (fun q => c7 (R.mp q).1))
                    | exact K_eq h (bi_f (fun q => c8 (R.mp q).2))
                    | exact K_eq h (bi_t (R.mpr ⟨(cbX_y0 c6 c3).mpr c8, c9⟩))
                    | exact K_eq h (bi_f (fun q => c8 ((cbX_y0 c6 c3).mp (R.mp q).1)))
                    | exact K_eq h (bi_f (fun q => c9 (R.mp q).2))
                    | exact K_eq h (bi_t (R.mpr ⟨cbX_00 c6 c3, c8⟩))
                  · skip
                    (try simp (disch := omega) only [w32_0, yc_eq0, w64_0, wbi0, Classical.not_not, w64_id] at c9); (try (rw [y_rem0 (by omega) (by omega) (by omega)] at c9))
                    refine ⟨by first | exact bi_01 | exact Or.inl rfl | exact Or.inr rfl | exact Or.inl trivial | exact Or.inr trivial | omega | exact ⟨⟨by omega, by omega⟩, by omega, by omega⟩ | (rw [w64_id (by omega) (by omega)]; omega), ?_⟩
                    first
                    | (exfalso; omega)
                    | exact K_eq h (bi_t ((if_pos c1).mpr ⟨c2, c3⟩))
                    | exact K_eq h (bi_f (fun q => c3 ((if_pos c1).mp q).2))
                    | exact K_eq h (bi_f (fun q => c2 ((if_pos c1).mp q).1))
                    | exact K_eq h (bi_f (fun q => c2 (DV (R.mp q).1).1))
                    | exact K_eq h (bi_f (fun q => c5 (DV (R.mp q).1).2))
                    | exact K_eq h (bi_f (fun q => c4 (Int.zero_dvd.mp (c3 ▸ (DV (R.mp q).1).2))))
                    | exact K_eq h (bi_t (R.mpr ⟨c7, c8⟩))
                    | exact K_eq h (bi_f (fun q => c7 (R.mp q).1))
                    | exact K_eq h (bi_f (fun q => c8 (R.mp q).2))
                    | exact K_eq h (bi_t (R.mpr ⟨(cbX_y0 c6 c3).mpr c8, c9⟩))
                    | exact K_eq h (bi_f (fun q => c8 ((cbX_y0 c6 c3).mp (R.mp q).1)))
                    | exact K_eq h (bi_f (fun q => c9 (R.mp q).2))
                    | exact K_eq h (bi_t (R.mpr ⟨cbX_00 c6 c3, c8⟩))
                · skip
                  (try simp (disch := omega) only [w32_0, yc_eq0, w64_0, wbi0, Classical.not_not, w64_id] at c8); (try (rw [y_rem0 (by omega) (by omega) (by omega)] at c8))
                  refine ⟨fun _ => ?_, fun q => absurd (by decide) q⟩
                  refine ⟨by first | exact bi_01 | exact Or.inl rfl | exact Or.inr rfl | exact Or.inl trivial | exact Or.inr trivial | omega | exact ⟨⟨by omega, by omega⟩, by omega, by omega⟩ | (rw [w64_id (by omega) (by omega)]; omega), ?_⟩
                  first
                  | (exfalso; omega)
                  | exact K_eq h (bi_t ((if_pos c1).mpr ⟨c2, c3⟩))
                  | exact K_eq h (bi_f (fun q => c3 ((if_pos c1).mp q).2))
                  | exact K_eq h (bi_f (fun q => c2 ((if_pos c1).mp q).1))
                  | exact K_eq h (bi_f (fun q => c2 (DV (R.mp q).1).1))
                  | exact K_eq h (bi_f (fun q => c5 (DV (R.mp q).1).2))
                  | exact K_eq h (bi_f (fun q => c4 (Int.zero_dvd.mp (c3 ▸ (DV (R.mp q).1).2))))
                  | exact K_eq h (bi_t (R.mpr ⟨c7, c8⟩))
                  | exact K_eq h (bi_f (fun q => c7 (R.mp q).1))
                  | exact K_eq h (bi_f (fun q => c8 (R.mp q).2))
                  | exact K_eq h (bi_t (R.mpr ⟨(cbX_y0 c6 c3).mpr c8, c9⟩))
                  | exact K_eq h (bi_f (fun q => c8 ((cbX_y0 c6 c3).mp (R.mp q).1)))
                  | exact K_eq h (bi_f (fun q => c9 (R.mp q).2))
                  | exact K_eq h (bi_t (R.mpr ⟨cbX_00 c6 c3, c8⟩))
            · skip
              (try simp (disch := omega) only [w32_0, yc_eq0, w64_0, wbi0, Classical.not_not, w64_id] at c6); (try (rw [y_rem0 (by omega) (by omega) (by omega)] at c6))
              try (have b7 := dv_b c5 c6 (M := 7200) b_y; have t5b := mu_b (a := 3 * v) (b := b) (M := 28800) (by omega) b7; have t6 := mu_b (a := 3 * v * b) (b := b) (M := 207360000) (by omega) b7)
              refine ⟨fun c7 => ?_, fun c7 => ?_⟩
              · skip
                (try simp (disch := omega) only [w32_0, yc_eq0, w64_0, wbi0, Classical.not_not, w64_id] at c7); (try (rw [y_rem0 (by omega) (by omega) (by omega)] at c7))
                refine ⟨fun q => absurd q (by decide), fun _ => ?_⟩
                refine ⟨by first | exact bi_01 | exact Or.inl rfl | exact Or.inr rfl | exact Or.inl trivial | exact Or.inr trivial | omega | exact ⟨⟨by omega, by omega⟩, by omega, by omega⟩ | (rw [w64_id (by omega) (by omega)]; omega), ?_⟩
                refine ⟨fun c8 => ?_, fun c8 => ?_⟩
                · skip
                  (try simp (disch := omega) only [w32_0, yc_eq0, w64_0, wbi0, Classical.not_not, w64_id] at c8); (try (rw [y_rem0 (by omega) (by omega) (by omega)] at c8))
                  refine ⟨by first | exact bi_01 | exact Or.inl rfl | exact Or.inr rfl | exact Or.inl trivial | exact Or.inr trivial | omega | exact ⟨⟨by omega, by omega⟩, by omega, by omega⟩ | (rw [w64_id (by omega) (by omega)]; omega), ?_⟩
                  first
                  | (exfalso; omega)
                  | exact K_eq h (bi_t ((if_pos c1).mpr ⟨c2, c3⟩))
                  | exact K_eq h (bi_f (fun q => c3 ((if_pos c1).mp q).2))
                  | exact K_eq h (bi_f (fun q => c2 ((if_pos c1).mp q).1))
                  | exact K_eq h (bi_f (fun q => c2 (DV (R.mp q).1).1))
                  | exact K_eq h (bi_f (fun q => c5 (DV (R.mp q).1).2))
                  | exact K_eq h (bi_f (fun q => c4 (Int.zero_dvd.mp (c3 ▸ (DV (R.mp q).1).2))))
                  | exact K_eq h (bi_t (R.mpr ⟨c7, c8⟩))
                  | exact K_eq h (bi_f (fun q => c7 (R.mp q).1))
                  | exact K_eq h (bi_f (fun q => c8 (R.mp q).2))
                  | exact K_eq h (bi_t (R.mpr ⟨(cbX_y0 c6 c3).mpr c8, c9⟩))
                  | exact K_eq h (bi_f (fun q => c8 ((cbX_y0 c6 c3).mp (R.mp q).1)))
                  | exact K_eq h (bi_f (fun q => c9 (R.mp q).2))
                  | exact K_eq h (bi_t (R.mpr ⟨cbX_00 c6 c3, c8⟩))
                · skip
                  (try simp (disch := omega) only [w32_0, yc_eq0, w64_0, wbi0, Classical.not_not, w64_id] at c8); (try (rw [y_rem0 (by omega) (by omega) (by omega)] at c8))
                  refine ⟨by first | exact bi_01 | exact Or.inl rfl | exact Or.inr rfl | exact Or.inl trivial | exact Or.inr trivial | omega | exact ⟨⟨by omega, by omega⟩, by omega, by omega⟩ | (rw [w64_id (by omega) (by omega)]; omega), ?_⟩
                  first
                  | (exfalso; omega)
                  | exact K_eq h (bi_t ((if_pos c1).mpr ⟨c2, c3⟩))
                  | exact K_eq h (bi_f (fun q => c3 ((if_pos c1).mp q).2))
                  | exact K_eq h (bi_f (fun q => c2 ((if_pos c1).mp q).1))
                  | exact K_eq h (bi_f (fun q => c2 (DV (R.mp q).1).1))
                  | exact K_eq h (bi_f (fun q => c5 (DV (R.mp q).1).2))
                  | exact K_eq h (bi_f (fun q => c4 (Int.zero_dvd.mp (c3 ▸ (DV (R.mp q).1).2))))
                  | exact K_eq h (bi_t (R.mpr ⟨c7, c8⟩))
                  | exact K_eq h (bi_f (fun q => c7 (R.mp q).1))
                  | exact K_eq h (bi_f (fun q => c8 (R.mp q).2))
                  | exact K_eq h (bi_t (R.mpr ⟨(cbX_y0 c6 c3).mpr c8, c9⟩))
                  | exact K_eq h (bi_f (fun q => c8 ((cbX_y0 c6 c3).mp (R.mp q).1)))
                  | exact K_eq h (bi_f (fun q => c9 (R.mp q).2))
                  | exact K_eq h (bi_t (R.mpr ⟨cbX_00 c6 c3, c8⟩))
              · skip
                (try simp (disch := omega) only [w32_0, yc_eq0, w64_0, wbi0, Classical.not_not, w64_id] at c7); (try (rw [y_rem0 (by omega) (by omega) (by omega)] at c7))
                refine ⟨fun _ => ?_, fun q => absurd (by decide) q⟩
                refine ⟨by first | exact bi_01 | exact Or.inl rfl | exact Or.inr rfl | exact Or.inl trivial | exact Or.inr trivial | omega | exact ⟨⟨by omega, by omega⟩, by omega, by omega⟩ | (rw [w64_id (by omega) (by omega)]; omega), ?_⟩
                first
                | (exfalso; omega)
                | exact K_eq h (bi_t ((if_pos c1).mpr ⟨c2, c3⟩))
                | exact K_eq h (bi_f (fun q => c3 ((if_pos c1).mp q).2))
                | exact K_eq h (bi_f (fun q => c2 ((if_pos c1).mp q).1))
                | exact K_eq h (bi_f (fun q => c2 (DV (R.mp q).1).1))
                | exact K_eq h (bi_f (fun q => c5 (DV (R.mp q).1).2))
                | exact K_eq h (bi_f (fun q => c4 (Int.zero_dvd.mp (c3 ▸ (DV (R.mp q).1).2))))
                | exact K_eq h (bi_t (R.mpr ⟨c7, c8⟩))
                | exact K_eq h (bi_f (fun q => c7 (R.mp q).1))
                | exact K_eq h (bi_f (fun q => c8 (R.mp q).2))
                | exact K_eq h (bi_t (R.mpr ⟨(cbX_y0 c6 c3).mpr c8, c9⟩))
                | exact K_eq h (bi_f (fun q => c8 ((cbX_y0 c6 c3).mp (R.mp q).1)))
                | exact K_eq h (bi_f (fun q => c9 (R.mp q).2))
                | exact K_eq h (bi_t (R.mpr ⟨cbX_00 c6 c3, c8⟩))
          · skip
            (try simp (disch := omega) only [w32_0, yc_eq0, w64_0, wbi0, Classical.not_not, w64_id] at c5); (try (rw [y_rem0 (by omega) (by omega) (by omega)] at c5))
            refine ⟨by first | exact bi_01 | exact Or.inl rfl | exact Or.inr rfl | exact Or.inl trivial | exact Or.inr trivial | omega | exact ⟨⟨by omega, by omega⟩, by omega, by omega⟩ | (rw [w64_id (by omega) (by omega)]; omega), ?_⟩
            refine ⟨fun c6 => ?_, fun c6 => ?_⟩
            · skip
              (try simp (disch := omega) only [w32_0, yc_eq0, w64_0, wbi0, Classical.not_not, w64_id] at c6); (try (rw [y_rem0 (by omega) (by omega) (by omega)] at c6))
              refine ⟨fun c7 => ?_, fun c7 => ?_⟩
              · skip
                (try simp (disch := omega) only [w32_0, yc_eq0, w64_0, wbi0, Classical.not_not, w64_id] at c7); (try (rw [y_rem0 (by omega) (by omega) (by omega)] at c7))
                refine ⟨fun c8 => ?_, fun c8 => ?_⟩
                · skip
                  (try simp (disch := omega) only [w32_0, yc_eq0, w64_0, wbi0, Classical.not_not, w64_id] at c8); (try (rw [y_rem0 (by omega) (by omega) (by omega)] at c8))
                  refine ⟨fun q => absurd q (by decide), fun _ => ?_⟩
                  refine ⟨by first | exact bi_01 | exact Or.inl rfl | exact Or.inr rfl | exact Or.inl trivial | exact Or.inr trivial | omega | exact ⟨⟨by omega, by omega⟩, by omega, by omega⟩ | (rw [w64_id (by omega) (by omega)]; omega), ?_⟩
                  refine ⟨fun c9 => ?_, fun c9 => ?_⟩
                  · skip
                    (try simp (disch := omega) only [w32_0, yc_eq0, w64_0, wbi0, Classical.not_not, w64_id] at c9); (try (rw [y_rem0 (by omega) (by omega) (by omega)] at c9))
                    refine ⟨by first | exact bi_01 | exact Or.inl rfl | exact Or.inr rfl | exact Or.inl trivial | exact Or.inr trivial | omega | exact ⟨⟨by omega, by omega⟩, by omega, by omega⟩ | (rw [w64_id (by omega) (by omega)]; omega), ?_⟩
                    first
                    | (exfalso; omega)
                    | exact K_eq h (bi_t ((if_pos c1).mpr ⟨c2, c3⟩))
                    | exact K_eq h (bi_f (fun q => c3 ((if_pos c1).mp q).2))
                    | exact K_eq h (bi_f (fun q => c2 ((if_pos c1).mp q).1))
                    | exact K_eq h (bi_f (fun q => c2 (DV (R.mp q).1).1))
                    | exact K_eq h (bi_f (fun q => c5 (DV (R.mp q).1).2))
                    | exact K_eq h (bi_f (fun q => c4 (Int.zero_dvd.mp (c3 ▸ (DV (R.mp q).1).2))))
                    | exact K_eq h (bi_t (R.mpr ⟨c7, c8⟩))
                    | exact K_eq h (bi_f (fun q => c7 (R.mp q).1))
                    | exact K_eq h (bi_f (fun q => c8 (R.mp q).2))
                    | exact K_eq h (bi_t (R.mpr ⟨(cbX_y0 c6 c3).mpr c8, c9⟩))
                    | exact K_eq h (bi_f (fun q => c8 ((cbX_y0 c6 c3).mp (R.mp q).1)))
                    | exact K_eq h (bi_f (fun q => c9 (R.mp q).2))
                    | exact K_eq h (bi_t (R.mpr ⟨cbX_00 c6 c3, c8⟩))
                  · skip
                    (try simp (disch := omega) only [w32_0, yc_eq0, w64_0, wbi0, Classical.not_not, w64_id] at c9); (try (rw [y_rem0 (by omega) (by omega) (by omega)] at c9))
                    refine ⟨by first | exact bi_01 | exact Or.inl rfl | exact Or.inr rfl | exact Or.inl trivial | exact Or.inr trivial | omega | exact ⟨⟨by omega, by omega⟩, by omega, by omega⟩ | (rw [w64_id (by omega) (by omega)]; omega), ?_⟩
                    first
                    | (exfalso; omega)
                    | exact K_eq h (bi_t ((if_pos c1).mpr ⟨c2, c3⟩))
                    | exact K_eq h (bi_f (fun q => c3 ((if_pos c1).mp q).2))
                    | exact K_eq h (bi_f (fun q => c2 ((if_pos c1).mp q).1))
                    | exact K_eq h (bi_f (fun q => c2 (DV (R.mp q).1).1))
                    | exact K_eq h (bi_f (fun q => c5 (DV (R.mp q).1).2))
                    | exact K_eq h (bi_f (fun q => c4 (Int.zero_dvd.mp (c3 ▸ (DV (R.mp q).1).2))))
                    | exact K_eq h (bi_t (R.mpr ⟨c7, c8⟩))
                    | exact K_eq h (bi_f (fun q => c7 (R.mp q).1))
                    | exact K_eq h (bi_f (fun q => c8 (R.mp q).2))
                    | exact K_eq h (bi_t (R.mpr ⟨(cbX_y0 c6 c3).mpr c8, c9⟩))
                    | exact K_eq h (bi_f (fun q => c8 ((cbX_y0 c6 c3).mp (R.mp q).1)))
                    | exact K_eq h (bi_f (fun q => c9 (R.mp q).2))
                    | exact K_eq h (bi_t (R.mpr ⟨cbX_00 c6 c3, c8⟩))
                · skip
                  (try simp (disch := omega) only [w32_0, yc_eq0, w64_0, wbi0, Classical.not_not, w64_id] at c8); (try (rw [y_rem0 (by omega) (by omega) (by omega)] at c8))
                  refine ⟨fun c9 => ?_, fun c9 => ?_⟩
                  · skip
                    (try simp (disch := omega) only [w32_0, yc_eq0, w64_0, wbi0, Classical.not_not, w64_id] at c9); (try (rw [y_rem0 (by omega) (by omega) (by omega)] at c9))
                    refine ⟨fun q => absurd q (by decide), fun _ => ?_⟩
                    refine ⟨by first | exact bi_01 | exact Or.inl rfl | exact Or.inr rfl | exact Or.inl trivial | exact Or.inr trivial | omega | exact ⟨⟨by omega, by omega⟩, by omega, by omega⟩ | (rw [w64_id (by omega) (by omega)]; omega), ?_⟩
                    refine ⟨fun c10 => ?_, fun c10 => ?_⟩
                    · skip
                      (try simp (disch := omega) only [w32_0, yc_eq0, w64_0, wbi0, Classical.not_not, w64_id] at c10); (try (rw [y_rem0 (by omega) (by omega) (by omega)] at c10))
                      refine ⟨by first | exact bi_01 | exact Or.inl rfl | exact Or.inr rfl | exact Or.inl trivial | exact Or.inr trivial | omega | exact ⟨⟨by omega, by omega⟩, by omega, by omega⟩ | (rw [w64_id (by omega) (by omega)]; omega), ?_⟩
                      first
                      | (exfalso; omega)
                      | exact K_eq h (bi_t ((if_pos c1).mpr ⟨c2, c3⟩))
                      | exact K_eq h (bi_f (fun q => c3 ((if_pos c1).mp q).2))
                      | exact K_eq h (bi_f (fun q => c2 ((if_pos c1).mp q).1))
                      | exact K_eq h (bi_f (fun q => c2 (DV (R.mp q).1).1))
                      | exact K_eq h (bi_f (fun q => c5 (DV (R.mp q).1).2))
                      | exact K_eq h (bi_f (fun q => c4 (Int.zero_dvd.mp (c3 ▸ (DV (R.mp q).1).2))))
                      | exact K_eq h (bi_t (R.mpr ⟨c7, c8⟩))
                      | exact K_eq h (bi_f (fun q => c7 (R.mp q).1))
                      | exact K_eq h (bi_f (fun q => c8 (R.mp q).2))
                      | exact K_eq h (bi_t (R.mpr ⟨(cbX_y0 c6 c3).mpr c8, c9⟩))
                      | exact K_eq h (bi_f (fun q => c8 ((cbX_y0 c6 c3).mp (R.mp q).1)))
                      | exact K_eq h (bi_f (fun q => c9 (R.mp q).2))
                      | exact K_eq h (bi_t (R.mpr ⟨cbX_00 c6 c3, c8⟩))
                    · skip
                      (try simp (disch := omega) only [w32_0, yc_eq0, w64_0, wbi0, Classical.not_not, w64_id] at c10); (try (rw [y_rem0 (by omega) (by omega) (by omega)] at c10))
                      refine ⟨by first | exact bi_01 | exact Or.inl rfl | exact Or.inr rfl | exact Or.inl trivial | exact Or.inr trivial | omega | exact ⟨⟨by omega, by omega⟩, by omega, by omega⟩ | (rw [w64_id (by omega) (by omega)]; omega), ?_⟩
                      first
                      | (exfalso; omega)
                      | exact K_eq h (bi_t ((if_pos c1).mpr ⟨c2, c3⟩))
                      | exact K_eq h (bi_f (fun q => c3 ((if_pos c1).mp q).2))
                      | exact K_eq h (bi_f (fun q => c2 ((if_pos c1).mp q).1))
                      | exact K_eq h (bi_f (fun q => c2 (DV (R.mp q).1).1))
                      | exact K_eq h (bi_f (fun q => c5 (DV (R.mp q).1).2))
                      | exact K_eq h (bi_f (fun q => c4 (Int.zero_dvd.mp (c3 ▸ (DV (R.mp q).1).2))))
                      | exact K_eq h (bi_t (R.mpr ⟨c7, c8⟩))
                      | exact K_eq h (bi_f (fun q => c7 (R.mp q).1))
                      | exact K_eq h (bi_f (fun q => c8 (R.mp q).2))
                      | exact K_eq h (bi_t (R.mpr ⟨(cbX_y0 c6 c3).mpr c8, c9⟩))
                      | exact K_eq h (bi_f (fun q => c8 ((cbX_y0 c6 c3).mp (R.mp q).1)))
                      | exact K_eq h (bi_f (fun q => c9 (R.mp q).2))
                      | exact K_eq h (bi_t (R.mpr ⟨cbX_00 c6 c3, c8⟩))
                  · skip
                    (try simp (disch := omega) only [w32_0, yc_eq0, w64_0, wbi0, Classical.not_not, w64_id] at c9); (try (rw [y_rem0 (by omega) (by omega) (by omega)] at c9))
                    refine ⟨fun _ => ?_, fun q => absurd (by decide) q⟩
                    refine ⟨by first | exact bi_01 | exact Or.inl rfl | exact Or.inr rfl | exact Or.inl trivial | exact Or.inr trivial | omega | exact ⟨⟨by omega, by omega⟩, by omega, by omega⟩ | (rw [w64_id (by omega) (by omega)]; omega), ?_⟩
                    first
                    | (exfalso; omega)
                    | exact K_eq h (bi_t ((if_pos c1).mpr ⟨c2, c3⟩))
                    | exact K_eq h (bi_f (fun q => c3 ((if_pos c1).mp q).2))
                    | exact K_eq h (bi_f (fun q => c2 ((if_pos c1).mp q).1))
                    | exact K_eq h (bi_f (fun q => c2 (DV (R.mp q).1).1))
                    | exact K_eq h (bi_f (fun q => c5 (DV (R.mp q).1).2))
                    | exact K_eq h (bi_f (fun q => c4 (Int.zero_dvd.mp (c3 ▸ (DV (R.mp q).1).2))))
                    | exact K_eq h (bi_t (R.mpr ⟨c7, c8⟩))
                    | exact K_eq h (bi_f (fun q => c7 (R.mp q).1))
                    | exact K_eq h (bi_f (fun q => c8 (R.mp q).2))
                    | exact K_eq h (bi_t (R.mpr ⟨(cbX_y0 c6 c3).mpr c8, c9⟩))
                    | exact K_eq h (bi_f (fun q => c8 ((cbX_y0 c6 c3).mp (R.mp q).1)))
                    | exact K_eq h (bi_f (fun q => c9 (R.mp q).2))
                    | exact K_eq h (bi_t (R.mpr ⟨cbX_00 c6 c3, c8⟩))
              · skip
                (try simp (disch := omega) only [w32_0, yc_eq0, w64_0, wbi0, Classical.not_not, w64_id] at c7); (try (rw [y_rem0 (by omega) (by omega) (by omega)] at c7))
                refine ⟨fun c8 => ?_, fun c8 => ?_⟩
                · skip
                  (try simp (disch := omega) only [w32_0, yc_eq0, w64_0, wbi0, Classical.not_not, w64_id] at c8); (try (rw [y_rem0 (by omega) (by omega) (by omega)] at c8))
                  refine ⟨fun q => absurd q (by decide), fun _ => ?_⟩
                  refine ⟨by first | exact bi_01 | exact Or.inl rfl | exact Or.inr rfl | exact Or.inl trivial | exact Or.inr trivial | omega | exact ⟨⟨by omega, by omega⟩, by omega, by omega⟩ | (rw [w64_id (by omega) (by omega)]; omega), ?_⟩
                  refine ⟨fun c9 => ?_, fun c9 => ?_⟩
                  · skip
                    (try simp (disch := omega) only [w32_0, yc_eq0, w64_0, wbi0, Classical.not_not, w64_id] at c9); (try (rw [y_rem0 (by omega) (by omega) (by omega)] at c9))
                    refine ⟨by first | exact bi_01 | exact Or.inl rfl | exact Or.inr rfl | exact Or.inl trivial | exact Or.inr trivial | omega | exact ⟨⟨by omega, by omega⟩, by omega, by omega⟩ | (rw [w64_id (by omega) (by omega)]; omega), ?_⟩
                    first
                    | (exfalso; omega)
                    | exact K_eq h (bi_t ((if_pos c1).mpr ⟨c2, c3⟩))
                    | exact K_eq h (bi_f (fun q => c3 ((if_pos c1).mp q).2))
                    | exact K_eq h (bi_f (fun q => c2 ((if_pos c1).mp q).1))
                    | exact K_eq h (bi_f (fun q => c2 (DV (R.mp q).1).1))
                    | exact K_eq h (bi_f (fun q => c5 (DV (R.mp q).1).2))
                    | exact K_eq h (bi_f (fun q => c4 (Int.zero_dvd.mp (c3 ▸ (DV (R.mp q).1).2))))
                    | exact K_eq h (bi_t (R.mpr ⟨c7, c8⟩))
                    | exact K_eq h (bi_f (fun q => c7 (R.mp q).1))
                    | exact K_eq h (bi_f (fun q => c8 (R.mp q).2))
                    | exact K_eq h (bi_t (R.mpr ⟨(cbX_y0 c6 c3).mpr c8, c9⟩))
                    | exact K_eq h (bi_f (fun q => c8 ((cbX_y0 c6 c3).mp (R.mp q).1)))
                    | exact K_eq h (bi_f (fun q => c9 (R.mp q).2))
                    | exact K_eq h (bi_t (R.mpr ⟨cbX_00 c6 c3, c8⟩))
                  · skip
                    (try simp (disch := omega) only [w32_0, yc_eq0, w64_0, wbi0, Classical.not_not, w64_id] at c9); (try (rw [y_rem0 (by omega) (by omega) (by omega)] at c9))
                    refine ⟨by first | exact bi_01 | exact Or.inl rfl | exact Or.inr rfl | exact Or.inl trivial | exact Or.inr trivial | omega | exact ⟨⟨by omega, by omega⟩, by omega, by omega⟩ | (rw [w64_id (by omega) (by omega)]; omega), ?_⟩
                    first
                    | (exfalso; omega)
                    | exact K_eq h (bi_t ((if_pos c1).mpr ⟨c2, c3⟩))
                    | exact K_eq h (bi_f (fun q => c3 ((if_pos c1).mp q).2))
                    | exact K_eq h (bi_f (fun q => c2 ((if_pos c1).mp q).1))
                    | exact K_eq h (bi_f (fun q => c2 (DV (R.mp q).1).1))
                    | exact K_eq h (bi_f (fun q => c5 (DV (R.mp q).1).2))
                    | exact K_eq h (bi_f (fun q => c4 (Int.zero_dvd.mp (c3 ▸ (DV (R.mp q).1).2))))
                    | exact K_eq h (bi_t (R.mpr ⟨c7, c8⟩))
                    | exact K_eq h (bi_f (fun q => c7 (R.mp q).1))
                    | exact K_eq h (bi_f (fun q => c8 (R.mp q).2))
                    | exact K_eq h (bi_t (R.mpr ⟨(cbX_y0 c6 c3).mpr c8, c9⟩))
                    | exact K_eq h (bi_f (fun q => c8 ((cbX_y0 c6 c3).mp (R.mp q).1)))
                    | exact K_eq h (bi_f (fun q => c9 (R.mp q).2))
                    | exact K_eq h (bi_t (R.mpr ⟨cbX_00 c6 c3, c8⟩))
                · skip
                  (try simp (disch := omega) only [w32_0, yc_eq0, w64_0, wbi0, Classical.not_not, w64_id] at c8); (try (rw [y_rem0 (by omega) (by omega) (by omega)] at c8))
                  refine ⟨fun _ => ?_, fun q => absurd (by decide) q⟩
                  refine ⟨by first | exact bi_01 | exact Or.inl rfl | exact Or.inr rfl | exact Or.inl trivial | exact Or.inr trivial | omega | exact ⟨⟨by omega, by omega⟩, by omega, by omega⟩ | (rw [w64_id (by omega) (by omega)]; omega), ?_⟩
                  first
                  | (exfalso; omega)
                  | exact K_eq h (bi_t ((if_pos c1).mpr ⟨c2, c3⟩))
                  | exact K_eq h (bi_f (fun q => c3 ((if_pos c1).mp q).2))
                  | exact K_eq h (bi_f (fun q => c2 ((if_pos c1).mp q).1))
                  | exact K_eq h (bi_f (fun q => c2 (DV (R.mp q).1).1))
                  | exact K_eq h (bi_f (fun q => c5 (DV (R.mp q).1).2))
                  | exact K_eq h (bi_f (fun q => c4 (Int.zero_dvd.mp (c3 ▸ (DV (R.mp q).1).2))))
                  | exact K_eq h (bi_t (R.mpr ⟨c7, c8⟩))
                  | exact K_eq h (bi_f (fun q => c7 (R.mp q).1))
                  | exact K_eq h (bi_f (fun q => c8 (R.mp q).2))
                  | exact K_eq h (bi_t (R.mpr ⟨(cbX_y0 c6 c3).mpr c8, c9⟩))
                  | exact K_eq h (bi_f (fun q => c8 ((cbX_y0 c6 c3).mp (R.mp q).1)))
                  | exact K_eq h (bi_f (fun q => c9 (R.mp q).2))
                  | exact K_eq h (bi_t (R.mpr ⟨cbX_00 c6 c3, c8⟩))
            · skip
              (try simp (disch := omega) only [w32_0, yc_eq0, w64_0, wbi0, Classical.not_not, w64_id] at c6); (try (rw [y_rem0 (by omega) (by omega) (by omega)] at c6))
              try (have b7 := dv_b c5 c6 (M := 7200) b_y; have t5b := mu_b (a := 3 * v) (b := b) (M := 28800) (by omega) b7; have t6 := mu_b (a := 3 * v * b) (b := b) (M := 207360000) (by omega) b7)
              refine ⟨by first | exact bi_01 | exact Or.inl rfl | exact Or.inr rfl | exact Or.inl trivial | exact Or.inr trivial | omega | exact ⟨⟨by omega, by omega⟩, by omega, by omega⟩ | (rw [w64_id (by omega) (by omega)]; omega), ?_⟩
              first
              | (exfalso; omega)
              | exact K_eq h (bi_t ((if_pos c1).mpr ⟨c2, c3⟩))
              | exact K_eq h (bi_f (fun q => c3 ((if_pos c1).mp q).2))
              | exact K_eq h (bi_f (fun q => c2 ((if_pos c1).mp q).1))
              | exact K_eq h (bi_f (fun q => c2 (DV (R.mp q).1).1))
              | exact K_eq h (bi_f (fun q => c5 (DV (R.mp q).1).2))
              | exact K_eq h (bi_f (fun q => c4 (Int.zero_dvd.mp (c3 ▸ (DV (R.mp q).1).2))))
              | exact K_eq h (bi_t (R.mpr ⟨c7, c8⟩))
              | exact K_eq h (bi_f (fun q => c7 (R.mp q).1))
              | exact K_eq h (bi_f (fun q => c8 (R.mp q).2))
              | exact K_eq h (bi_t (R.mpr ⟨(cbX_y0 c6 c3).mpr c8, c9⟩))
              | exact K_eq h (bi_f (fun q => c8 ((cbX_y0 c6 c3).mp (R.mp q).1)))
              | exact K_eq h (bi_f (fun q => c9 (R.mp q).2))
              | exact K_eq h (bi_t (R.mpr ⟨cbX_00 c6 c3, c8⟩))
        · skip
          (try simp (disch := omega) only [w32_0, yc_eq0, w64_0, wbi0, Classical.not_not, w64_id] at c4); (try (rw [y_rem0 (by omega) (by omega) (by omega)] at c4))
          refine ⟨by first | exact bi_01 | exact Or.inl rfl | exact Or.inr rfl | exact Or.inl trivial | exact Or.inr trivial | omega | exact ⟨⟨by omega, by omega⟩, by omega, by omega⟩ | (rw [w64_id (by omega) (by omega)]; omega), ?_⟩
          first
          | (exfalso; omega)
          | exact K_eq h (bi_t ((if_pos c1).mpr ⟨c2, c3⟩))
          | exact K_eq h (bi_f (fun q => c3 ((if_pos c1).mp q).2))
          | exact K_eq h (bi_f (fun q => c2 ((if_pos c1).mp q).1))
          | exact K_eq h (bi_f (fun q => c2 (DV (R.mp q).1).1))
          | exact K_eq h (bi_f (fun q => c5 (DV (R.mp q).1).2))
          | exact K_eq h (bi_f (fun q => c4 (Int.zero_dvd.mp (c3 ▸ (DV (R.mp q).1).2))))
          | exact K_eq h (bi_t (R.mpr ⟨c7, c8⟩))
          | exact K_eq h (bi_f (fun q => c7 (R.mp q).1))
          | exact K_eq h (bi_f (fun q => c8 (R.mp q).2))
          | exact K_eq h (bi_t (R.mpr ⟨(cbX_y0 c6 c3).mpr c8, c9⟩))
          | exact K_eq h (bi_f (fun q => c8 ((cbX_y0 c6 c3).mp (R.mp q).1)))
          | exact K_eq h (bi_f (fun q => c9 (R.mp q).2))
          | exact K_eq h (bi_t (R.mpr ⟨cbX_00 c6 c3, c8⟩))
      · skip
        (try simp (disch := omega) only [w32_0, yc_eq0, w64_0, wbi0, Classical.not_not, w64_id] at c3); (try (rw [y_rem0 (by omega) (by omega) (by omega)] at c3))
        refine ⟨fun c4 => ?_, fun c4 => ?_⟩
        · skip
          (try simp (disch := omega) only [w32_0, yc_eq0, w64_0, wbi0, Classical.not_not, w64_id] at c4); (try (rw [y_rem0 (by omega) (by omega) (by omega)] at c4))
          refine ⟨fun c5 => ?_, fun c5 => ?_⟩
          · skip
            (try simp (disch := omega) only [w32_0, yc_eq0, w64_0, wbi0, Classical.not_not, w64_id] at c5); (try (rw [y_rem0 (by omega) (by omega) (by omega)] at c5))
            refine ⟨fun c6 => ?_, fun c6 => ?_⟩
            · skip
              (try simp (disch := omega) only [w32_0, yc_eq0, w64_0, wbi0, Classical.not_not, w64_id] at c6); (try (rw [y_rem0 (by omega) (by omega) (by omega)] at c6))
              refine ⟨fun q => absurd q (by decide), fun _ => ?_⟩
              refine ⟨by first | exact bi_01 | exact Or.inl rfl | exact Or.inr rfl | exact Or.inl trivial | exact Or.inr trivial | omega | exact ⟨⟨by omega, by omega⟩, by omega, by omega⟩ | (rw [w64_id (by omega) (by omega)]; omega), ?_⟩
              refine ⟨fun c7 => ?_, fun c7 => ?_⟩
              · skip
                (try simp (disch := omega) only [w32_0, yc_eq0, w64_0, wbi0, Classical.not_not, w64_id] at c7); (try (rw [y_rem0 (by omega) (by omega) (by omega)] at c7))
                refine ⟨by first | exact bi_01 | exact Or.inl rfl | exact Or.inr rfl | exact Or.inl trivial | exact Or.inr trivial | omega | exact ⟨⟨by omega, by omega⟩, by omega, by omega⟩ | (rw [w64_id (by omega) (by omega)]; omega), ?_⟩
                first
                | (exfalso; omega)
                | exact K_eq h (bi_t ((if_pos c1).mpr ⟨c2, c3⟩))
                | exact K_eq h (bi_f (fun q => c3 ((if_pos c1).mp q).2))
                | exact K_eq h (bi_f (fun q => c2 ((if_pos c1).mp q).1))
                | exact K_eq h (bi_f (fun q => c2 (DV (R.mp q).1).1))
                | exact K_eq h (bi_f (fun q => c5 (DV (R.mp q).1).2))
                | exact K_eq h (bi_f (fun q => c4 (Int.zero_dvd.mp (c3 ▸ (DV (R.mp q).1).2))))
                | exact K_eq h (bi_t (R.mpr ⟨c7, c8⟩))
                | exact K_eq h (bi_f (fun q => c7 (R.mp q).1))
                | exact K_eq h (bi_f (fun q => c8 (R.mp q).2))
                | exact K_eq h (bi_t (R.mpr ⟨(cbX_y0 c6 c3).mpr c8, c9⟩))
                | exact K_eq h (bi_f (fun q => c8 ((cbX_y0 c6 c3).mp (R.mp q).1)))
                | exact K_eq h (bi_f (fun q => c9 (R.mp q).2))
                | exact K_eq h (bi_t (R.mpr ⟨cbX_00 c6 c3, c8⟩))
              · skip
                (try simp (disch := omega) only [w32_0, yc_eq0, w64_0, wbi0, Classical.not_not, w64_id] at c7); (try (rw [y_rem0 (by omega) (by omega) (by omega)] at c7))
                refine ⟨by first | exact bi_01 | exact Or.inl rfl | exact Or.inr rfl | exact Or.inl trivial | exact Or.inr trivial | omega | exact ⟨⟨by omega, by omega⟩, by omega, by omega⟩ | (rw [w64_id (by omega) (by omega)]; omega), ?_⟩
                first
                | (exfalso; omega)
                | exact K_eq h (bi_t ((if_pos c1).mpr ⟨c2, c3⟩))
                | exact K_eq h (bi_f (fun q => c3 ((if_pos c1).mp q).2))
                | exact K_eq h (bi_f (fun q => c2 ((if_pos c1).mp q).1))
                | exact K_eq h (bi_f (fun q => c2 (DV (R.mp q).1).1))
                | exact K_eq h (bi_f (fun q => c5 (DV (R.mp q).1).2))
                | exact K_eq h (bi_f (fun q => c4 (Int.zero_dvd.mp (c3 ▸ (DV (R.mp q).1).2))))
                | exact K_eq h (bi_t (R.mpr ⟨c7, c8⟩))
                | exact K_eq h (bi_f (fun q => c7 (R.mp q).1))
                | exact K_eq h (bi_f (fun q => c8 (R.mp q).2))
                | exact K_eq h (bi_t (R.mpr ⟨(cbX_y0 c6 c3).mpr c8, c9⟩))
                | exact K_eq h (bi_f (fun q => c8 ((cbX_y0 c6 c3).mp (R.mp q).1)))
                | exact K_eq h (bi_f (fun q => c9 (R.mp q).2))
                | exact K_eq h (bi_t (R.mpr ⟨cbX_00 c6 c3, c8⟩))
            · skip
              (try simp (disch := omega) only [w32_0, yc_eq0, w64_0, wbi0, Classical.not_not, w64_id] at c6); (try (rw [y_rem0 (by omega) (by omega) (by omega)] at c6))
              try (have b7 := dv_b c5 c6 (M := 7200) b_y; have t5b := mu_b (a := 3 * v) (b := b) (M := 28800) (by omega) b7; have t6 := mu_b (a := 3 * v * b) (b := b) (M := 207360000) (by omega) b7)
              refine ⟨fun c7 => ?_, fun c7 => ?_⟩
              · skip
                (try simp (disch := omega) only [w32_0, yc_eq0, w64_0, wbi0, Classical.not_not, w64_id] at c7); (try (rw [y_rem0 (by omega) (by omega) (by omega)] at c7))
                refine ⟨fun q => absurd q (by decide), fun _ => ?_⟩
                refine ⟨by first | exact bi_01 | exact Or.inl rfl | exact Or.inr rfl | exact Or.inl trivial | exact Or.inr trivial | omega | exact ⟨⟨by omega, by omega⟩, by omega, by omega⟩ | (rw [w64_id (by omega) (by omega)]; omega), ?_⟩
                refine ⟨fun c8 => ?_, fun c8 => ?_⟩
                · skip
                  (try simp (disch := omega) only [w32_0, yc_eq0, w64_0, wbi0, Classical.not_not, w64_id] at c8); (try (rw [y_rem0 (by omega) (by omega) (by omega)] at c8))
                  refine ⟨by first | exact bi_01 | exact Or.inl rfl | exact Or.inr rfl | exact Or.inl trivial | exact Or.inr trivial | omega | exact ⟨⟨by omega, by omega⟩, by omega, by omega⟩ | (rw [w64_id (by omega) (by omega)]; omega), ?_⟩
                  first
                  | (exfalso; omega)
                  | exact K_eq h (bi_t ((if_pos c1).mpr ⟨c2, c3⟩))
                  | exact K_eq h (bi_f (fun q => c3 ((if_pos c1).mp q).2))
                  | exact K_eq h (bi_f (fun q => c2 ((if_pos c1).mp q).1))
                  | exact K_eq h (bi_f (fun q => c2 (DV (R.mp q).1).1))
                  | exact K_eq h (bi_f (fun q => c5 (DV (R.mp q).1).2))
                  | exact K_eq h (bi_f (fun q => c4 (Int.zero_dvd.mp (c3 ▸ (DV (R.mp q).1).2))))
                  | exact K_eq h (bi_t (R.mpr ⟨c7, c8⟩))
                  | exact K_eq h (bi_f (fun q => c7 (R.mp q).1))
                  | exact K_eq h (bi_f (fun q => c8 (R.mp q).2))
                  | exact K_eq h (bi_t (R.mpr ⟨(cbX_y0 c6 c3).mpr c8, c9⟩))
                  | exact K_eq h (bi_f (fun q => c8 ((cbX_y0 c6 c3).mp (R.mp q).1)))
                  | exact K_eq h (bi_f (fun q => c9 (R.mp q).2))
                  | exact K_eq h (bi_t (R.mpr ⟨cbX_00 c6 c3, c8⟩))
                · skip
                  (try simp (disch := omega) only [w32_0, yc_eq0, w64_0, wbi0, Classical.not_not, w64_id] at c8); (try (rw [y_rem0 (by omega) (by omega) (by omega)] at c8))
                  refine ⟨by first | exact bi_01 | exact Or.inl rfl | exact Or.inr rfl | exact Or.inl trivial | exact Or.inr trivial | omega | exact ⟨⟨by omega, by omega⟩, by omega, by omega⟩ | (rw [w64_id (by omega) (by omega)]; omega), ?_⟩
                  first
                  | (exfalso; omega)
                  | exact K_eq h (bi_t ((if_pos c1).mpr ⟨c2, c3⟩))
                  | exact K_eq h (bi_f (fun q => c3 ((if_pos c1).mp q).2))
                  | exact K_eq h (bi_f (fun q => c2 ((if_pos c1).mp q).1))
                  | exact K_eq h (bi_f (fun q => c2 (DV (R.mp q).1).1))
                  | exact K_eq h (bi_f (fun q => c5 (DV (R.mp q).1).2))
                  | exact K_eq h (bi_f (fun q => c4 (Int.zero_dvd.mp (c3 ▸ (DV (R.mp q).1).2))))
                  | exact K_eq h (bi_t (R.mpr ⟨c7, c8⟩))
                  | exact K_eq h (bi_f (fun q => c7 (R.mp q).1))
                  | exact K_eq h (bi_f (fun q => c8 (R.mp q).2))
                  | exact K_eq h (bi_t (R.mpr ⟨(cbX_y0 c6 c3).mpr c8, c9⟩))
                  | exact K_eq h (bi_f (fun q => c8 ((cbX_y0 c6 c3).mp (R.mp q).1)))
                  | exact K_eq h (bi_f (fun q => c9 (R.mp q).2))
                  | exact K_eq h (bi_t (R.mpr ⟨cbX_00 c6 c3, c8⟩))
              · skip
                (try simp (disch := omega) only [w32_0, yc_eq0, w64_0, wbi0, Classical.not_not, w64_id] at c7); (try (rw [y_rem0 (by omega) (by omega) (by omega)] at c7))
                refine ⟨fun _ => ?_, fun q => absurd (by decide) q⟩
                refine ⟨by first | exact bi_01 | exact Or.inl rfl | exact Or.inr rfl | exact Or.inl trivial | exact Or.inr trivial | omega | exact ⟨⟨by omega, by omega⟩, by omega, by omega⟩ | (rw [w64_id (by omega) (by omega)]; omega), ?_⟩
                first
                | (exfalso; omega)
                | exact K_eq h (bi_t ((if_pos c1).mpr ⟨c2, c3⟩))
                | exact K_eq h (bi_f (fun q => c3 ((if_pos c1).mp q).2))
                | exact K_eq h (bi_f (fun q => c2 ((if_pos c1).mp q).1))
                | exact K_eq h (bi_f (fun q => c2 (DV (R.mp q).1).1))
                | exact K_eq h (bi_f (fun q => c5 (DV (R.mp q).1).2))
                | exact K_eq h (bi_f (fun q => c4 (Int.zero_dvd.mp (c3 ▸ (DV (R.mp q).1).2))))
                | exact K_eq h (bi_t (R.mpr ⟨c7, c8⟩))
                | exact K_eq h (bi_f (fun q => c7 (R.mp q).1))
                | exact K_eq h (bi_f (fun q => c8 (R.mp q).2))
                | exact K_eq h (bi_t (R.mpr ⟨(cbX_y0 c6 c3).mpr c8, c9⟩))
                | exact K_eq h (bi_f (fun q => c8 ((cbX_y0 c6 c3).mp (R.mp q).1)))
                | exact K_eq h (bi_f (fun q => c9 (R.mp q).2))
                | exact K_eq h (bi_t (R.mpr ⟨cbX_00 c6 c3, c8⟩))
          · skip
            (try simp (disch := omega) only [w32_0, yc_eq0, w64_0, wbi0, Classical.not_not, w64_id] at c5); (try (rw [y_rem0 (by omega) (by omega) (by omega)] at c5))
            refine ⟨fun c6 => ?_, fun c6 => ?_⟩
            · skip
              (try simp (disch := omega) only [w32_0, yc_eq0, w64_0, wbi0, Classical.not_not, w64_id] at c6); (try (rw [y_rem0 (by omega) (by omega) (by omega)] at c6))
              refine ⟨fun q => absurd q (by decide), fun _ => ?_⟩
              refine ⟨by first | exact bi_01 | exact Or.inl rfl | exact Or.inr rfl | exact Or.inl trivial | exact Or.inr trivial | omega | exact ⟨⟨by omega, by omega⟩, by omega, by omega⟩ | (rw [w64_id (by omega) (by omega)]; omega), ?_⟩
              refine ⟨fun c7 => ?_, fun c7 => ?_⟩
              · skip
                (try simp (disch := omega) only [w32_0, yc_eq0, w64_0, wbi0, Classical.not_not, w64_id] at c7); (try (rw [y_rem0 (by omega) (by omega) (by omega)] at c7))
                refine ⟨by first | exact bi_01 | exact Or.inl rfl | exact Or.inr rfl | exact Or.inl trivial | exact Or.inr trivial | omega | exact ⟨⟨by omega, by omega⟩, by omega, by omega⟩ | (rw [w64_id (by omega) (by omega)]; omega), ?_⟩
                first
                | (exfalso; omega)
                | exact K_eq h (bi_t ((if_pos c1).mpr ⟨c2, c3⟩))
                | exact K_eq h (bi_f (fun q => c3 ((if_pos c1).mp q).2))
                | exact K_eq h (bi_f (fun q => c2 ((if_pos c1).mp q).1))
                | exact K_eq h (bi_f (fun q => c2 (DV (R.mp q).1).1))
                | exact K_eq h (bi_f (fun q => c5 (DV (R.mp q).1).2))
                | exact K_eq h (bi_f (fun q => c4 (Int.zero_dvd.mp (c3 ▸ (DV (R.mp q).1).2))))
                | exact K_eq h (bi_t (R.mpr ⟨c7, c8⟩))
                | exact K_eq h (bi_f (fun q => c7 (R.mp q).1))
                | exact K_eq h (bi_f (fun q => c8 (R.mp q).2))
                | exact K_eq h (bi_t (R.mpr ⟨(cbX_y0 c6 c3).mpr c8, c9⟩))
                | exact K_eq h (bi_f (fun q => c8 ((cbX_y0 c6 c3).mp (R.mp q).1)))
                | exact K_eq h (bi_f (fun q => c9 (R.mp q).2))
                | exact K_eq h (bi_t (R.mpr ⟨cbX_00 c6 c3, c8⟩))
              · skip
                (try simp (disch := omega) only [w32_0, yc_eq0, w64_0, wbi0, Classical.not_not, w64_id] at c7); (try (rw [y_rem0 (by omega) (by omega) (by omega)] at c7))
                refine ⟨by first | exact bi_01 | exact Or.inl rfl | exact Or.inr rfl | exact Or.inl trivial | exact Or.inr trivial | omega | exact ⟨⟨by omega, by omega⟩, by omega, by omega⟩ | (rw [w64_id (by omega) (by omega)]; omega), ?_⟩
                first
                | (exfalso; omega)
                | exact K_eq h (bi_t ((if_pos c1).mpr ⟨c2, c3⟩))
                | exact K_eq h (bi_f (fun q => c3 ((if_pos c1).mp q).2))
                | exact K_eq h (bi_f (fun q => c2 ((if_pos c1).mp q).1))
                | exact K_eq h (bi_f (fun q => c2 (DV (R.mp q).1).1))
                | exact K_eq h (bi_f (fun q => c5 (DV (R.mp q).1).2))
                | exact K_eq h (bi_f (fun q => c4 (Int.zero_dvd.mp (c3 ▸ (DV (R.mp q).1).2))))
                | exact K_eq h (bi_t (R.mpr ⟨c7, c8⟩))
                | exact K_eq h (bi_f (fun q => c7 (R.mp q).1))
                | exact K_eq h (bi_f (fun q => c8 (R.mp q).2))
                | exact K_eq h (bi_t (R.mpr ⟨(cbX_y0 c6 c3).mpr c8, c9⟩))
                | exact K_eq h (bi_f (fun q => c8 ((cbX_y0 c6 c3).mp (R.mp q).1)))
                | exact K_eq h (bi_f (fun q => c9 (R.mp q).2))
                | exact K_eq h (bi_t (R.mpr ⟨cbX_00 c6 c3, c8⟩))
            · skip
              (try simp (disch := omega) only [w32_0, yc_eq0, w64_0, wbi0, Classical.not_not, w64_id] at c6); (try (rw [y_rem0 (by omega) (by omega) (by omega)] at c6))
              try (have b7 := dv_b c5 c6 (M := 7200) b_y; have t5b := mu_b (a := 3 * v) (b := b) (M := 28800) (by omega) b7; have t6 := mu_b (a := 3 * v * b) (b := b) (M := 207360000) (by omega) b7)
              refine ⟨fun _ => ?_, fun q => absurd (by decide) q⟩
              refine ⟨by first | exact bi_01 | exact Or.inl rfl | exact Or.inr rfl | exact Or.inl trivial | exact Or.inr trivial | omega | exact ⟨⟨by omega, by omega⟩, by omega, by omega⟩ | (rw [w64_id (by omega) (by omega)]; omega), ?_⟩
              first
              | (exfalso; omega)
              | exact K_eq h (bi_t ((if_pos c1).mpr ⟨c2, c3⟩))
              | exact K_eq h (bi_f (fun q => c3 ((if_pos c1).mp q).2))
              | exact K_eq h (bi_f (fun q => c2 ((if_pos c1).mp q).1))
              | exact K_eq h (bi_f (fun q => c2 (DV (R.mp q).1).1))
              | exact K_eq h (bi_f (fun q => c5 (DV (R.mp q).1).2))
              | exact K_eq h (bi_f (fun q => c4 (Int.zero_dvd.mp (c3 ▸ (DV (R.mp q).1).2))))
              | exact K_eq h (bi_t (R.mpr ⟨c7, c8⟩))
              | exact K_eq h (bi_f (fun q => c7 (R.mp q).1))
              | exact K_eq h (bi_f (fun q => c8 (R.mp q).2))
              | exact K_eq h (bi_t (R.mpr ⟨(cbX_y0 c6 c3).mpr c8, c9⟩))
              | exact K_eq h (bi_f (fun q => c8 ((cbX_y0 c6 c3).mp (R.mp q).1)))
              | exact K_eq h (bi_f (fun q => c9 (R.mp q).2))
              | exact K_eq h (bi_t (R.mpr ⟨cbX_00 c6 c3, c8⟩))
        · skip
          (try simp (disch := omega) only [w32_0, yc_eq0, w64_0, wbi0, Classical.not_not, w64_id] at c4); (try (rw [y_rem0 (by omega) (by omega) (by omega)] at c4))
          refine ⟨by first | exact bi_01 | exact Or.inl rfl | exact Or.inr rfl | exact Or.inl trivial | exact Or.inr trivial | omega | exact ⟨⟨by omega, by omega⟩, by omega, by omega⟩ | (rw [w64_id (by omega) (by omega)]; omega), ?_⟩
          refine ⟨fun c5 => ?_, fun c5 => ?_⟩
          · skip
            (try simp (disch := omega) only [w32_0, yc_eq0, w64_0, wbi0, Classical.not_not, w64_id] at c5); (try (rw [y_rem0 (by omega) (by omega) (by omega)] at c5))
            refine ⟨fun c6 => ?_, fun c6 => ?_⟩
            · skip
              (try simp (disch := omega) only [w32_0, yc_eq0, w64_0, wbi0, Classical.not_not, w64_id] at c6); (try (rw [y_rem0 (by omega) (by omega) (by omega)] at c6))
              refine ⟨fun c7 => ?_, fun c7 => ?_⟩
              · skip
                (try simp (disch := omega) only [w32_0, yc_eq0, w64_0, wbi0, Classical.not_not, w64_id] at c7); (try (rw [y_rem0 (by omega) (by omega) (by omega)] at c7))
                refine ⟨fun q => absurd q (by decide), fun _ => ?_⟩
                refine ⟨by first | exact bi_01 | exact Or.inl rfl | exact Or.inr rfl | exact Or.inl trivial | exact Or.inr trivial | omega | exact ⟨⟨by omega, by omega⟩, by omega, by omega⟩ | (rw [w64_id (by omega) (by omega)]; omega), ?_⟩
                refine ⟨fun c8 => ?_, fun c8 => ?_⟩
                · skip
                  (try simp (disch := omega) only [w32_0, yc_eq0, w64_0, wbi0, Classical.not_not, w64_id] at c8); (try (rw [y_rem0 (by omega) (by omega) (by omega)] at c8))
                  refine ⟨by first | exact bi_01 | exact Or.inl rfl | exact Or.inr rfl | exact Or.inl trivial | exact Or.inr trivial | omega | exact ⟨⟨by omega, by omega⟩, by omega, by omega⟩ | (rw [w64_id (by omega) (by omega)]; omega), ?_⟩
                  first
                  | (exfalso; omega)
                  | exact K_eq h (bi_t ((if_pos c1).mpr ⟨c2, c3⟩))
                  | exact K_eq h (bi_f (fun q => c3 ((if_pos c1).mp q).2))
                  | exact K_eq h (bi_f (fun q => c2 ((if_pos c1).mp q).1))
                  | exact K_eq h (bi_f (fun q => c2 (DV (R.mp q).1).1))
                  | exact K_eq h (bi_f (fun q => c5 (DV (R.mp q).1).2))
                  | exact K_eq h (bi_f (fun q => c4 (Int.zero_dvd.mp (c3 ▸ (DV (R.mp q).1).2))))
                  | exact K_eq h (bi_t (R.mpr ⟨c7, c8⟩))
                  | exact K_eq h (bi_f (fun q => c7 (R.mp q).1))
                  | exact K_eq h (bi_f (fun q => c8 (R.mp q).2))
                  | exact K_eq h (bi_t (R.mpr ⟨(cbX_y0 c6 c3).mpr c8, c9⟩))
                  | exact K_eq h (bi_f (fun q => c8 ((cbX_y0 c6 c3).mp (R.mp q).1)))
                  | exact K_eq h (bi_f (fun q => c9 (R.mp q).2))
                  | exact K_eq h (bi_t (R.mpr ⟨cbX_00 c6 c3, c8⟩))
                · skip
                  (try simp (disch := omega) only [w32_0, yc_eq0, w64_0, wbi0, Classical.not_not, w64_id] at c8); (try (rw [y_rem0 (by omega) (by omega) (by omega)] at c8))
                  refine ⟨by first | exact bi_01 | exact Or.inl rfl | exact Or.inr rfl | exact Or.inl trivial | exact Or.inr trivial | omega | exact ⟨⟨by omega, by omega⟩, by omega, by omega⟩ | (rw [w64_id (by omega) (by omega)]; omega), ?_⟩
                  first
                  | (exfalso; omega)
                  | exact K_eq h (bi_t ((if_pos c1).mpr ⟨c2, c3⟩))
                  | exact K_eq h (bi_f (fun q => c3 ((if_pos c1).mp q).2))
                  | exact K_eq h (bi_f (fun q => c2 ((if_pos c1).mp q).1))
                  | exact K_eq h (bi_f (fun q => c2 (DV (R.mp q).1).1))
                  | exact K_eq h (bi_f (fun q => c5 (DV (R.mp q).1).2))
                  | exact K_eq h (bi_f (fun q => c4 (Int.zero_dvd.mp (c3 ▸ (DV (R.mp q).1).2))))
                  | exact K_eq h (bi_t (R.mpr ⟨c7, c8⟩))
                  | exact K_eq h (bi_f (fun q => c7 (R.mp q).1))
                  | exact K_eq h (bi_f (fun q => c8 (R.mp q).2))
                  | exact K_eq h (bi_t (R.mpr ⟨(cbX_y0 c6 c3).mpr c8, c9⟩))
                  | exact K_eq h (bi_f (fun q => c8 ((cbX_y0 c6 c3).mp (R.mp q).1)))
                  | exact K_eq h (bi_f (fun q => c9 (R.mp q).2))
                  | exact K_eq h (bi_t (R.mpr ⟨cbX_00 c6 c3, c8⟩))
              · skip
                (try simp (disch := omega) only [w32_0, yc_eq0, w64_0, wbi0, Classical.not_not, w64_id] at c7); (try (rw [y_rem0 (by omega) (by omega) (by omega)] at c7))
                refine ⟨fun c8 => ?_, fun c8 => ?_⟩
                · skip
                  (try simp (disch := omega) only [w32_0, yc_eq0, w64_0, wbi0, Classical.not_not, w64_id] at c8); (try (rw [y_rem0 (by omega) (by omega) (by omega)] at c8))
                  refine ⟨fun q => absurd q (by decide), fun _ => ?_⟩
                  refine ⟨by first | exact bi_01 | exact Or.inl rfl | exact Or.inr rfl | exact Or.inl trivial | exact Or.inr trivial | omega | exact ⟨⟨by omega, by omega⟩, by omega, by omega⟩ | (rw [w64_id (by omega) (by omega)]; omega), ?_⟩
                  refine ⟨fun c9 => ?_, fun c9 => ?_⟩
                  · skip
                    (try simp (disch := omega) only [w32_0, yc_eq0, w64_0, wbi0, Classical.not_not, w64_id] at c9); (try (rw [y_rem0 (by omega) (by omega) (by omega)] at c9))
                    refine ⟨by first | exact bi_01 | exact Or.inl rfl | exact Or.inr rfl | exact Or.inl trivial | exact Or.inr trivial | omega | exact ⟨⟨by omega, by omega⟩, by omega, by omega⟩ | (rw [w64_id (by omega) (by omega)]; omega), ?_⟩
                    first
                    | (exfalso; omega)
                    | exact K_eq h (bi_t ((if_pos c1).mpr ⟨c2, c3⟩))
                    | exact K_eq h (bi_f (fun q => c3 ((if_pos c1).mp q).2))
                    | exact K_eq h (bi_f (fun q => c2 ((if_pos c1).mp q).1))
                    | exact K_eq h (bi_f (fun q => c2 (DV (R.mp q).1).1))
                    | exact K_eq h (bi_f (fun q => c5 (DV (R.mp q).1).2))
                    | exact K_eq h (bi_f (fun q => c4 (Int.zero_dvd.mp (c3 ▸ (DV (R.mp q).1).2))))
                    | exact K_eq h (bi_t (R.mpr ⟨c7, c8⟩))
                    | exact K_eq h (bi_f (fun q => c7 (R.mp q).1))
                    | exact K_eq h (bi_f (fun q => c8 (R.mp q).2))
                    | exact K_eq h (bi_t (R.mpr ⟨(cbX_y0 c6 c3).mpr c8, c9⟩))
                    | exact K_eq h (bi_f (fun q => c8 ((cbX_y0 c6 c3).mp (R.mp q).1)))
                    | exact K_eq h (bi_f (fun q => c9 (R.mp q).2))
                    | exact K_eq h (bi_t (R.mpr ⟨cbX_00 c6 c3, c8⟩))
                  · skip
                    (try simp (disch := omega) only [w32_0, yc_eq0, w64_0, wbi0, Classical.not_not, w64_id] at c9); (try (rw [y_rem0 (by omega) (by omega) (by omega)] at c9))
                    refine ⟨by first | exact bi_01 | exact Or.inl rfl | exact Or.inr rfl | exact Or.inl trivial | exact Or.inr trivial | omega | exact ⟨⟨by omega, by omega⟩, by omega, by omega⟩ | (rw [w64_id (by omega) (by omega)]; omega), ?_⟩
                    first
                    | (exfalso; omega)
                    | exact K_eq h (bi_t ((if_pos c1).mpr ⟨c2, c3⟩))
                    | exact K_eq h (bi_f (fun q => c3 ((if_pos c1).mp q).2))
                    | exact K_eq h (bi_f (fun q => c2 ((if_pos c1).mp q).1))
                    | exact K_eq h (bi_f (fun q => c2 (DV (R.mp q).1).1))
                    | exact K_eq h (bi_f (fun q => c5 (DV (R.mp q).1).2))
                    | exact K_eq h (bi_f (fun q => c4 (Int.zero_dvd.mp (c3 ▸ (DV (R.mp q).1).2))))
                    | exact K_eq h (bi_t (R.mpr ⟨c7, c8⟩))
                    | exact K_eq h (bi_f (fun q => c7 (R.mp q).1))
                    | exact K_eq h (bi_f (fun q => c8 (R.mp q).2))
                    | exact K_eq h (bi_t (R.mpr ⟨(cbX_y0 c6 c3).mpr c8, c9⟩))
                    | exact K_eq h (bi_f (fun q => c8 ((cbX_y0 c6 c3).mp (R.mp q).1)))
                    | exact K_eq h (bi_f (fun q => c9 (R.mp q).2))
                    | exact K_eq h (bi_t (R.mpr ⟨cbX_00 c6 c3, c8⟩))
                · skip
                  (try simp (disch := omega) only [w32_0, yc_eq0, w64_0, wbi0, Classical.not_not, w64_id] at c8); (try (rw [y_rem0 (by omega) (by omega) (by omega)] at c8))
                  refine ⟨fun _ => ?_, fun q => absurd (by decide) q⟩
                  refine ⟨by first | exact bi_01 | exact Or.inl rfl | exact Or.inr rfl | exact Or.inl trivial | exact Or.inr trivial | omega | exact ⟨⟨by omega, by omega⟩, by omega, by omega⟩ | (rw [w64_id (by omega) (by omega)]; omega), ?_⟩
                  first
                  | (exfalso; omega)
                  | exact K_eq h (bi_t ((if_pos c1).mpr ⟨c2, c3⟩))
                  | exact K_eq h (bi_f (fun q => c3 ((if_pos c1).mp q).2))
                  | exact K_eq h (bi_f (fun q => c2 ((if_pos c1).mp q).1))
                  | exact K_eq h (bi_f (fun q => c2 (DV (R.mp q).1).1))
                  | exact K_eq h (bi_f (fun q => c5 (DV (R.mp q).1).2))
                  | exact K_eq h (bi_f (fun q => c4 (Int.zero_dvd.mp (c3 ▸ (DV (R.mp q).1).2))))
                  | exact K_eq h (bi_t (R.mpr ⟨c7, c8⟩))
                  | exact K_eq h (bi_f (fun q => c7 (R.mp q).1))
                  | exact K_eq h (bi_f (fun q => c8 (R.mp q).2))
                  | exact K_eq h (bi_t (R.mpr ⟨(cbX_y0 c6 c3).mpr c8, c9⟩))
                  | exact K_eq h (bi_f (fun q => c8 ((cbX_y0 c6 c3).mp (R.mp q).1)))
                  | exact K_eq h (bi_f (fun q => c9 (R.mp q).2))
                  | exact K_eq h (bi_t (R.mpr ⟨cbX_00 c6 c3, c8⟩))
            · skip
              (try simp (disch := omega) only [w32_0, yc_eq0, w64_0, wbi0, Classical.not_not, w64_id] at c6); (try (rw [y_rem0 (by omega) (by omega) (by omega)] at c6))
              try (have b7 := dv_b c5 c6 (M := 7200) b_y; have t5b := mu_b (a := 3 * v) (b := b) (M := 28800) (by omega) b7; have t6 := mu_b (a := 3 * v * b) (b := b) (M := 207360000) (by omega) b7)
              refine ⟨fun c7 => ?_, fun c7 => ?_⟩
              · skip
                (try simp (disch := omega) only [w32_0, yc_eq0, w64_0, wbi0, Classical.not_not, w64_id] at c7); (try (rw [y_rem0 (by omega) (by omega) (by omega)] at c7))
                refine ⟨fun q => absurd q (by decide), fun _ => ?_⟩
                refine ⟨by first | exact bi_01 | exact Or.inl rfl | exact Or.inr rfl | exact Or.inl trivial | exact Or.inr trivial | omega | exact ⟨⟨by omega, by omega⟩, by omega, by omega⟩ | (rw [w64_id (by omega) (by omega)]; omega), ?_⟩
                refine ⟨fun c8 => ?_, fun c8 => ?_⟩
                · skip
                  (try simp (disch := omega) only [w32_0, yc_eq0, w64_0, wbi0, Classical.not_not, w64_id] at c8); (try (rw [y_rem0 (by omega) (by omega) (by omega)] at c8))
                  refine ⟨by first | exact bi_01 | exact Or.inl rfl | exact Or.inr rfl | exact Or.inl trivial | exact Or.inr trivial | omega | exact ⟨⟨by omega, by omega⟩, by omega, by omega⟩ | (rw [w64_id (by omega) (by omega)]; omega), ?_⟩
                  first
                  | (exfalso; omega)
                  | exact K_eq h (bi_t ((if_pos c1).mpr ⟨c2, c3⟩))
                  | exact K_eq h (bi_f (fun q => c3 ((if_pos c1).mp q).2))
                  | exact K_eq h (bi_f (fun q => c2 ((if_pos c1).mp q).1))
                  | exact K_eq h (bi_f (fun q => c2 (DV (R.mp q).1).1))
                  | exact K_eq h (bi_f (fun q => c5 (DV (R.mp q).1).2))
                  | exact K_eq h (bi_f (fun q => c4 (Int.zero_dvd.mp (c3 ▸ (DV (R.mp q).1).2))))
                  | exact K_eq h (bi_t (R.mpr ⟨c7, c8⟩))
                  | exact K_eq h (bi_f (fun q => c7 (R.mp q).1))
                  | exact K_eq h (bi_f (fun q => c8 (R.mp q).2))
                  | exact K_eq h (bi_t (R.mpr ⟨(cbX_y0 c6 c3).mpr c8, c9⟩))
                  | exact K_eq h (bi_f (fun q => c8 ((cbX_y0 c6 c3).mp (R.mp q).1)))
                  | exact K_eq h (bi_f (fun q => c9 (R.mp q).2))
                  | exact K_eq h (bi_t (R.mpr ⟨cbX_00 c6 c3, c8⟩))
                · skip
                  (try simp (disch := omega) only [w32_0, yc_eq0, w64_0, wbi0, Classical.not_not, w64_id] at c8); (try (rw [y_rem0 (by omega) (by omega) (by omega)] at c8))
                  refine ⟨by first | exact bi_01 | exact Or.inl rfl | exact Or.inr rfl | exact Or.inl trivial | exact Or.inr trivial | omega | exact ⟨⟨by omega, by omega⟩, by omega, by omega⟩ | (rw [w64_id (by omega) (by omega)]; omega), ?_⟩
                  first
                  | (exfalso; omega)
                  | exact K_eq h (bi_t ((if_pos c1).mpr ⟨c2, c3⟩))
                  | exact K_eq h (bi_f (fun q => c3 ((if_pos c1).mp q).2))
                  | exact K_eq h (bi_f (fun q => c2 ((if_pos c1).mp q).1))
                  | exact K_eq h (bi_f (fun q => c2 (DV (R.mp q).1).1))
                  | exact K_eq h (bi_f (fun q => c5 (DV (R.mp q).1).2))
                  | exact K_eq h (bi_f (fun q => c4 (Int.zero_dvd.mp (c3 ▸ (DV (R.mp q).1).2))))
                  | exact K_eq h (bi_t (R.mpr ⟨c7, c8⟩))
                  | exact K_eq h (bi_f (fun q => c7 (R.mp q).1))
                  | exact K_eq h (bi_f (fun q => c8 (R.mp q).2))
                  | exact K_eq h (bi_t (R.mpr ⟨(cbX_y0 c6 c3).mpr c8, c9⟩))
                  | exact K_eq h (bi_f (fun q => c8 ((cbX_y0 c6 c3).mp (R.mp q).1)))
                  | exact K_eq h (bi_f (fun q => c9 (R.mp q).2))
                  | exact K_eq h (bi_t (R.mpr ⟨cbX_00 c6 c3, c8⟩))
              · skip
                (try simp (disch := omega) only [w32_0, yc_eq0, w64_0, wbi0, Classical.not_not, w64_id] at c7); (try (rw [y_rem0 (by omega) (by omega) (by omega)] at c7))
                refine ⟨fun _ => ?_, fun q => absurd (by decide) q⟩
                refine ⟨by first | exact bi_01 | exact Or.inl rfl | exact Or.inr rfl | exact Or.inl trivial | exact Or.inr trivial | omega | exact ⟨⟨by omega, by omega⟩, by omega, by omega⟩ | (rw [w64_id (by omega) (by omega)]; omega), ?_⟩
                first
                | (exfalso; omega)
                | exact K_eq h (bi_t ((if_pos c1).mpr ⟨c2, c3⟩))
                | exact K_eq h (bi_f (fun q => c3 ((if_pos c1).mp q).2))
                | exact K_eq h (bi_f (fun q => c2 ((if_pos c1).mp q).1))
                | exact K_eq h (bi_f (fun q => c2 (DV (R.mp q).1).1))
                | exact K_eq h (bi_f (fun q => c5 (DV (R.mp q).1).2))
                | exact K_eq h (bi_f (fun q => c4 (Int.zero_dvd.mp (c3 ▸ (DV (R.mp q).1).2))))
                | exact K_eq h (bi_t (R.mpr ⟨c7, c8⟩))
                | exact K_eq h (bi_f (fun q => c7 (R.mp q).1))
                | exact K_eq h (bi_f (fun q => c8 (R.mp q).2))
                | exact K_eq h (bi_t (R.mpr ⟨(cbX_y0 c6 c3).mpr c8, c9⟩))
                | exact K_eq h (bi_f (fun q => c8 ((cbX_y0 c6 c3).mp (R.mp q).1)))
                | exact K_eq h (bi_f (fun q => c9 (R.mp q).2))
                | exact K_eq h (bi_t (R.mpr ⟨cbX_00 c6 c3, c8⟩))
          · skip
            (try simp (disch := omega) only [w32_0, yc_eq0, w64_0, wbi0, Classical.not_not, w64_id] at c5); (try (rw [y_rem0 (by omega) (by omega) (by omega)] at c5))
            refine ⟨by first | exact bi_01 | exact Or.inl rfl | exact Or.inr rfl | exact Or.inl trivial | exact Or.inr trivial | omega | exact ⟨⟨by omega, by omega⟩, by omega, by omega⟩ | (rw [w64_id (by omega) (by omega)]; omega), ?_⟩
            first
            | (exfalso; omega)
            | exact K_eq h (bi_t ((if_pos c1).mpr ⟨c2, c3⟩))
            | exact K_eq h (bi_f (fun q => c3 ((if_pos c1).mp q).2))
            | exact K_eq h (bi_f (fun q => c2 ((if_pos c1).mp q).1))
            | exact K_eq h (bi_f (fun q => c2 (DV (R.mp q).1).1))
            | exact K_eq h (bi_f (fun q => c5 (DV (R.mp q).1).2))
            | exact K_eq h (bi_f (fun q => c4 (Int.zero_dvd.mp (c3 ▸ (DV (R.mp q).1).2))))
            | exact K_eq h (bi_t (R.mpr ⟨c7, c8⟩))
            | exact K_eq h (bi_f (fun q => c7 (R.mp q).1))
            | exact K_eq h (bi_f (fun q => c8 (R.mp q).2))
            | exact K_eq h (bi_t (R.mpr ⟨(cbX_y0 c6 c3).mpr c8, c9⟩))
            | exact K_eq h (bi_f (fun q => c8 ((cbX_y0 c6 c3).mp (R.mp q).1)))
            | exact K_eq h (bi_f (fun q => c9 (R.mp q).2))
            | exact K_eq h (bi_t (R.mpr ⟨cbX_00 c6 c3, c8⟩))
    · skip
      (try simp (disch := omega) only [w32_0, yc_eq0, w64_0, wbi0, Classical.not_not, w64_id] at c2); (try (rw [y_rem0 (by omega) (by omega) (by omega)] at c2))
      refine ⟨by first | exact bi_01 | exact Or.inl rfl | exact Or.inr rfl | exact Or.inl trivial | exact Or.inr trivial | omega | exact ⟨⟨by omega, by omega⟩, by omega, by omega⟩ | (rw [w64_id (by omega) (by omega)]; omega), ?_⟩
      first
      | (exfalso; omega)
      | exact K_eq h (bi_t ((if_pos c1).mpr ⟨c2, c3⟩))
      | exact K_eq h (bi_f (fun q => c3 ((if_pos c1).mp q).2))
      | exact K_eq h (bi_f (fun q => c2 ((if_pos c1).mp q).1))
      | exact K_eq h (bi_f (fun q => c2 (DV (R.mp q).1).1))
      | exact K_eq h (bi_f (fun q => c5 (DV (R.mp q).1).2))
      | exact K_eq h (bi_f (fun q => c4 (Int.zero_dvd.mp (c3 ▸ (DV (R.mp q).1).2))))
      | exact K_eq h (bi_t (R.mpr ⟨c7, c8⟩))
      | exact K_eq h (bi_f (fun q => c7 (R.mp q).1))
      | exact K_eq h (bi_f (fun q => c8 (R.mp q).2))
      | exact K_eq h (bi_t (R.mpr ⟨(cbX_y0 c6 c3).mpr c8, c9⟩))
      | exact K_eq h (bi_f (fun q => c8 ((cbX_y0 c6 c3).mp (R.mp q).1)))
      | exact K_eq h (bi_f (fun q => c9 (R.mp q).2))
      | exact K_eq h (bi_t (R.mpr ⟨cbX_00 c6 c3, c8⟩))
theorem qtX9_isTwiceCube (l : Launch) : am_CT l layM qeX9_isTwiceCube := am_met0 rfl (by decide +kernel) rfl rfl rfl rfl rfl (fun _ => rfl) rfl (qzX9_isTwiceCube l) (fun k e1 h => (qyX9_isTwiceCube l k e1 h).2) (fun as F A K h => by
  replace h : qsX9_isTwiceCube as F A K := h
  unfold qsX9_isTwiceCube at h
  split at h
  · rename_i x y z v
    refine ⟨by first | exact Nat.le_of_ble_eq_true rfl | simp [am_fl, am_cat], ?_⟩
    exact am_way_line (qvX9_isTwiceCube x y z v F A K h)
  · exact h.elim)
def qkX9_isTwice : Nat → Option CI := fun pc => cond (Nat.ble 159 pc) none (cond (Nat.ble 74 pc) (cond (Nat.ble 115 pc) (cond (Nat.ble 133 pc) (cond (Nat.ble 145 pc) (cond (Nat.ble 151 pc) (cond (Nat.ble 155 pc) (cond (Nat.beq pc 155) (some (.invokestatic 156, 158, [])) (cond (Nat.beq pc 158) (some (.ireturn, 159, [])) (none))) (cond (Nat.beq pc 151) (some (.lload 13, 153, [])) (cond (Nat.beq pc 153) (some (.lload 15, 155, [])) (none)))) (cond (Nat.beq pc 145) (some (.goto 13, 148, [158])) (cond (Nat.beq pc 148) (some (.lload_n 3, 149, [])) (cond (Nat.beq pc 149) (some (.lload 11, 151, [])) (none))))) (cond (Nat.ble 138 pc) (cond (Nat.beq pc 138) (some (.lload 11, 140, [])) (cond (Nat.beq pc 140) (some (.lload 13, 142, [])) (cond (Nat.beq pc 142) (some (.invokestatic 152, 145, [])) (none)))) (cond (Nat.beq pc 133) (some (.lcmp, 134, [])) (cond (Nat.beq pc 134) (some (.ifCond .ne 14, 137, [148])) (cond (Nat.beq pc 137) (some (.lload_n 3, 138, [])) (none)))))) (cond (Nat.ble 125 pc) (cond (Nat.ble 128 pc) (cond (Nat.beq pc 128) (some (.lstore 15, 130, [])) (cond (Nat.beq pc 130) (some (.lload 15, 132, [])) (cond (Nat.beq pc 132) (some (.lconst 0, 133, [])) (none)))) (cond (Nat.beq pc 125) (some (.ladd, 126, [])) (cond (Nat.beq pc 126) (some (.lload_n 3, 127, [])) (cond (Nat.beq pc 127) (some (.lsub, 128, [])) (none))))) (cond (Nat.ble 119 pc) (cond (Nat.beq pc 119) (some (.ldc2_w 146, 122, [])) (cond (Nat.beq pc 122) (some (.lload 5, 124, [])) (cond (Nat.beq pc 124) (some (.lmul, 125, [])) (none)))) (cond (Nat.beq pc 115) (some (.lload 7, 117, [])) (cond (Nat.beq pc 117) (some (.lmul, 118, [])) (cond (Nat.beq pc 118) (some (.lsub, 119, [])) (none))))))) (cond (Nat.ble 93 pc) (cond (Nat.ble 104 pc) (cond (Nat.ble 108 pc) (cond (Nat.beq pc 108) (some (.lstore 13, 110, [])) (cond (Nat.beq pc 110) (some (.lload 9, 112, [])) (cond (Nat.beq pc 112) (some (.ldc2_w 146, 115, [])) (none)))) (cond (Nat.beq pc 104) (some (.lload 7, 106, [])) (cond (Nat.beq pc 106) (some (.ladd, 107, [])) (cond (Nat.beq pc 107) (some (.lmul, 108, [])) (none))))) (cond (Nat.ble 100 pc) (cond (Nat.beq pc 100) (some (.lload 5, 102, [])) (cond (Nat.beq pc 102) (some (.lmul, 103, [])) (cond (Nat.beq pc 103) (some (.lsub, 104, [])) (none)))) (cond (Nat.beq pc 93) (some (.ldc2_w 146, 96, [])) (cond (Nat.beq pc 96) (some (.lload_n 3, 97, [])) (cond (Nat.beq pc 97) (some (.ldc2_w 136, 100, [])) (none)))))) (cond (Nat.ble 83 pc) (cond (Nat.ble 89 pc) (cond (Nat.beq pc 89) (some (.lsub, 90, [])) (cond (Nat.beq pc 90) (some (.lmul, 91, [])) (cond (Nat.beq pc 91) (some (.lstore 11, 93, [])) (none)))) (cond (Nat.beq pc 83) (some (.ldc2_w 146, 86, [])) (cond (Nat.beq pc 86) (some (.lload 5, 88, [])) (cond (Nat.beq pc 88) (some (.lload_n 3, 89, [])) (none))))) (cond (Nat.ble 77 pc) (cond (Nat.beq pc 77) (some (.invokevirtual 95, 80, [])) (cond (Nat.beq pc 80) (some (.i2l, 81, [])) (cond (Nat.beq pc 81) (some (.lstore 9, 83, [])) (none)))) (cond (Nat.beq pc 74) (some (.iload_n 1, 75, [])) (cond (Nat.beq pc 75) (some (.iload_n 2, 76, [])) (cond (Nat.beq pc 76) (some (.iconst 3, 77, [])) (none)))))))) (cond (Nat.ble 33 pc) (cond (Nat.ble 55 pc) (cond (Nat.ble 64 pc) (cond (Nat.ble 68 pc) (cond (Nat.ble 72 pc) (cond (Nat.beq pc 72) (some (.ireturn, 73, [])) (cond (Nat.beq pc 73) (some (.aload_n 0, 74, [])) (none))) (cond (Nat.beq pc 68) (some (.ladd, 69, [])) (cond (Nat.beq pc 69) (some (.invokestatic 152, 72, [])) (none)))) (cond (Nat.beq pc 64) (some (.lmul, 65, [])) (cond (Nat.beq pc 65) (some (.lsub, 66, [])) (cond (Nat.beq pc 66) (some (.lload 7, 68, [])) (none))))) (cond (Nat.ble 58 pc) (cond (Nat.beq pc 58) (some (.lload_n 3, 59, [])) (cond (Nat.beq pc 59) (some (.ldc2_w 136, 62, [])) (cond (Nat.beq pc 62) (some (.lload 5, 64, [])) (none)))) (cond (Nat.beq pc 55) (some (.lload_n 3, 56, [])) (cond (Nat.beq pc 56) (some (.lsub, 57, [])) (cond (Nat.beq pc 57) (some (.lmul, 58, [])) (none)))))) (cond (Nat.ble 42 pc) (cond (Nat.ble 49 pc) (cond (Nat.beq pc 49) (some (.lload_n 3, 50, [])) (cond (Nat.beq pc 50) (some (.ldc2_w 136, 53, [])) (cond (Nat.beq pc 53) (some (.lload 5, 55, [])) (none)))) (cond (Nat.beq pc 42) (some (.invokevirtual 80, 45, [])) (cond (Nat.beq pc 45) (some (.iconst 2, 46, [])) (cond (Nat.beq pc 46) (some (.if_icmp .ne 27, 49, [73])) (none))))) (cond (Nat.ble 38 pc) (cond (Nat.beq pc 38) (some (.lstore 7, 40, [])) (cond (Nat.beq pc 40) (some (.aload_n 0, 41, [])) (cond (Nat.beq pc 41) (some (.iload_n 1, 42, [])) (none)))) (cond (Nat.beq pc 33) (some (.iconst 2, 34, [])) (cond (Nat.beq pc 34) (some (.invokevirtual 95, 37, [])) (cond (Nat.beq pc 37) (some (.i2l, 38, [])) (none))))))) (cond (Nat.ble 16 pc) (cond (Nat.ble 25 pc) (cond (Nat.ble 30 pc) (cond (Nat.beq pc 30) (some (.aload_n 0, 31, [])) (cond (Nat.beq pc 31) (some (.iload_n 1, 32, [])) (cond (Nat.beq pc 32) (some (.iload_n 2, 33, [])) (none)))) (cond (Nat.beq pc 25) (some (.if_icmp .ne 5, 28, [30])) (cond (Nat.beq pc 28) (some (.iconst 0, 29, [])) (cond (Nat.beq pc 29) (some (.ireturn, 30, [])) (none))))) (cond (Nat.ble 20 pc) (cond (Nat.beq pc 20) (some (.iload_n 1, 21, [])) (cond (Nat.beq pc 21) (some (.invokevirtual 80, 24, [])) (cond (Nat.beq pc 24) (some (.iconst 1, 25, [])) (none)))) (cond (Nat.beq pc 16) (some (.i2l, 17, [])) (cond (Nat.beq pc 17) (some (.lstore 5, 19, [])) (cond (Nat.beq pc 19) (some (.aload_n 0, 20, [])) (none)))))) (cond (Nat.ble 8 pc) (cond (Nat.ble 11 pc) (cond (Nat.beq pc 11) (some (.iload_n 2, 12, [])) (cond (Nat.beq pc 12) (some (.iconst 1, 13, [])) (cond (Nat.beq pc 13) (some (.invokevirtual 95, 16, [])) (none)))) (cond (Nat.beq pc 8) (some (.lstore_n 3, 9, [])) (cond (Nat.beq pc 9) (some (.aload_n 0, 10, [])) (cond (Nat.beq pc 10) (some (.iload_n 1, 11, [])) (none))))) (cond (Nat.ble 3 pc) (cond (Nat.beq pc 3) (some (.iconst 0, 4, [])) (cond (Nat.beq pc 4) (some (.invokevirtual 95, 7, [])) (cond (Nat.beq pc 7) (some (.i2l, 8, [])) (none)))) (cond (Nat.beq pc 0) (some (.aload_n 0, 1, [])) (cond (Nat.beq pc 1) (some (.iload_n 1, 2, [])) (cond (Nat.beq pc 2) (some (.iload_n 2, 3, [])) (none)))))))))
theorem qkX9_isTwice_ok : ∀ pc i nx ts, qkX9_isTwice pc = some (i, nx, ts) → am_cok cX9_isTwice pc (i, nx, ts) = true := fun pc i nx ts h => am_tok_ok (n := 159) (by decide +kernel) (fun pc h => by show cond (Nat.ble 159 pc) _ _ = _; rw [Nat.ble_eq_true_of_le h]; rfl) h
def qaX9_isTwice : Nat → Option CE := fun k => cond (Nat.beq k 95) (some qeX9_coefficient0) (cond (Nat.beq k 80) (some qeX9_order) (cond (Nat.beq k 152) (some qeX9_isTwiceSquare) (cond (Nat.beq k 156) (some qeX9_isTwiceCube) (none))))
theorem qyX9_isTwice (l : Launch) : ∀ k e1, qaX9_isTwice k = some e1 → am_cal l layM RX9 5 k e1 ∧ ceT e1 = 0 := q_cons ⟨am_calV (ci := 9) (qtX9_coefficient0 l) qbX9_coefficient0 (by decide) rfl (am_tb_at 1778 (by decide +kernel) rfl), rfl⟩ (q_cons ⟨am_calV (ci := 9) (qtX9_order l) qbX9_order (by decide) rfl (am_tb_at 1659 (by decide +kernel) rfl), rfl⟩ (q_cons ⟨am_calS (qtX9_isTwiceSquare l) qbX9_isTwiceSquare (by decide) rfl (by decide) (am_tb_at 1870 (by decide +kernel) rfl), rfl⟩ (q_cons ⟨am_calS (qtX9_isTwiceCube l) qbX9_isTwiceCube (by decide) rfl (by decide) (am_tb_at 1878 (by decide +kernel) rfl), rfl⟩ (q_nil))))
def qxX9_isTwice : CX := (qkX9_isTwice, layM, qfX9, qaX9_isTwice, qcX9, qlX9, qmX9, (some .boolean), false, none, 0, none, fun _ => none)
theorem qzX9_isTwice (l : Launch) : am_sta l qxX9_isTwice RX9 5 cX9_isTwice := ⟨qkX9_isTwice_ok, layM_ok, qfX9_ok, qcX9_ok, qlX9_ok, am_mthP qmX9_ok (by decide), fun k e1 h => (qyX9_isTwice l k e1 h).1⟩
def qsX9_isTwice : SP := fun as F A K => match as with
  | [.inr (.inr o), .inl c, .inl l] => cond (Nat.beq o 25) ((fgOK (mF A) ∧ (0 ≤ c ∧ c < mF A 0) ∧ (0 ≤ l ∧ l < mF A 1) ∧ lnOK (mF A)) ∧ (K (some (some (vI (bi (dblP (cfL (mF A) c l) (mF A (18 + c) - 1)))))) F A)) (False)
  | _ => False
def qeX9_isTwice : CE := (yX9_isTwice, cX9_isTwice, 17, (some .boolean), 2, some 9, 0, [], 0, 5, qsX9_isTwice)
theorem qbX9_isTwice : am_mb qeX9_isTwice := ⟨am_tb_at 1868 (by decide +kernel) rfl, am_tb_at 124 (by decide +kernel) rfl, ⟨by decide, by decide, by decide +kernel⟩, by decide, by decide, am_tb_at 1867 (by decide +kernel) rfl, am_tb_at 94 (by decide +kernel) rfl, _, _, rfl⟩
set_option maxRecDepth 20000 in
theorem qvX9_isTwice_25 (c : Int) (l : Int) (F : FF) (A : AA) (K : KK) (h : (fgOK (mF A) ∧ (0 ≤ c ∧ c < mF A 0) ∧ (0 ≤ l ∧ l < mF A 1) ∧ lnOK (mF A)) ∧ (K (some (some (vI (bi (dblP (cfL (mF A) c l) (mF A (18 + c) - 1)))))) F A)) : am_line qxX9_isTwice 77 [vR 25, vI c, vI l] 17 F A K := by
  show am_stp qxX9_isTwice (am_run qxX9_isTwice (fun _ => none) (fun _ _ _ _ _ _ => False) K 77) K 0 [some (vR 25), some (vI c), some (vI l), none, none, none, none, none, none, none, none, none, none, none, none, none, none] [] F A 0
  obtain ⟨hp, h⟩ := h
  obtain ⟨p1, p2', p3, p4⟩ := hp
  have q1 := p1.1.1
  have q2 := p1.1.2
  have q3 := (p1.2.2.1 c p2'.1 p2'.2).1
  have T := tw_dbl (g := cfL (mF A) c l) (n := mF A (18 + c) - 1) (by omega) (by omega) (fun k k0 k1 => cfX_s p1 p4 p2'.1 p2'.2 p3.1 p3.2 k0 (by omega))
  have t : ∀ k, 0 ≤ k → k < mF A (18 + c) → -1200 ≤ w32 (cfR (mF A) c l k) ∧ w32 (cfR (mF A) c l k) ≤ 1200 := fun k k0 k1 => cfX_s p1 p4 p2'.1 p2'.2 p3.1 p3.2 k0 k1
  have b0 := t 0 (by decide) (by omega)
  have b1 := t 1 (by decide) (by omega)
  show ((0 ≤ c ∧ c < 8) ∧ (0 ≤ l ∧ l < 6) ∧ 0 ≤ 0 ∧ 0 < 4) ∧ (((0 ≤ c ∧ c < 8) ∧ (0 ≤ l ∧ l < 6) ∧ 0 ≤ 1 ∧ 1 < 4) ∧ ((0 ≤ c ∧ c < 8) ∧ ((w32 (mF A (18 + c) - 1) = w32 1 → ((0 = 0 ∨ 0 = 1) ∧ (K (some (some (vI 0))) F A))) ∧ (¬ w32 (mF A (18 + c) - 1) = w32 1 → (((0 ≤ c ∧ c < 8) ∧ (0 ≤ l ∧ l < 6) ∧ 0 ≤ 2 ∧ 2 < 4) ∧ ((0 ≤ c ∧ c < 8) ∧ ((w32 (mF A (18 + c) - 1) = w32 2 → (((-1152921504606846976 ≤ (w32 (cfR (mF A) c l 0)) ∧ (w32 (cfR (mF A) c l 0)) ≤ 1152921504606846976) ∧ (-1152921504606846976 ≤ (2 * ((w32 (cfR (mF A) c l 1)) - (w32 (cfR (mF A) c l 0)))) ∧ (2 * ((w32 (cfR (mF A) c l 1)) - (w32 (cfR (mF A) c l 0)))) ≤ 1152921504606846976) ∧ (-1152921504606846976 ≤ (((w32 (cfR (mF A) c l 0)) - (2 * (w32 (cfR (mF A) c l 1)))) + (w32 (cfR (mF A) c l 2))) ∧ (((w32 (cfR (mF A) c l 0)) - (2 * (w32 (cfR (mF A) c l 1)))) + (w32 (cfR (mF A) c l 2))) ≤ 1152921504606846976) ∧ (-4611686018427387904 ≤ (2 * ((w32 (cfR (mF A) c l 1)) - (w32 (cfR (mF A) c l 0)))) * (2 * ((w32 (cfR (mF A) c l 1)) - (w32 (cfR (mF A) c l 0)))) ∧ (2 * ((w32 (cfR (mF A) c l 1)) - (w32 (cfR (mF A) c l 0)))) * (2 * ((w32 (cfR (mF A) c l 1)) - (w32 (cfR (mF A) c l 0)))) ≤ 4611686018427387904) ∧ (-4611686018427387904 ≤ 4 * (w32 (cfR (mF A) c l 0)) * (((w32 (cfR (mF A) c l 0)) - (2 * (w32 (cfR (mF A) c l 1)))) + (w32 (cfR (mF A) c l 2))) ∧ 4 * (w32 (cfR (mF A) c l 0)) * (((w32 (cfR (mF A) c l 0)) - (2 * (w32 (cfR (mF A) c l 1)))) + (w32 (cfR (mF A) c l 2))) ≤ 4611686018427387904)) ∧ (((bi (¬ (((w32 (cfR (mF A) c l 0)) - (2 * (w32 (cfR (mF A) c l 1)))) + (w32 (cfR (mF A) c l 2))) = 0 ∧ (2 * ((w32 (cfR (mF A) c l 1)) - (w32 (cfR (mF A) c l 0)))) * (2 * ((w32 (cfR (mF A) c l 1)) - (w32 (cfR (mF A) c l 0)))) = 4 * (w32 (cfR (mF A) c l 0)) * (((w32 (cfR (mF A) c l 0)) - (2 * (w32 (cfR (mF A) c l 1)))) + (w32 (cfR (mF A) c l 2))) ∧ isFr (-(2 * ((w32 (cfR (mF A) c l 1)) - (w32 (cfR (mF A) c l 0))))) (2 * (((w32 (cfR (mF A) c l 0)) - (2 * (w32 (cfR (mF A) c l 1)))) + (w32 (cfR (mF A) c l 2)))))) = 0 ∨ (bi (¬ (((w32 (cfR (mF A) c l 0)) - (2 * (w32 (cfR (mF A) c l 1)))) + (w32 (cfR (mF A) c l 2))) = 0 ∧ (2 * ((w32 (cfR (mF A) c l 1)) - (w32 (cfR (mF A) c l 0)))) * (2 * ((w32 (cfR (mF A) c l 1)) - (w32 (cfR (mF A) c l 0)))) = 4 * (w32 (cfR (mF A) c l 0)) * (((w32 (cfR (mF A) c l 0)) - (2 * (w32 (cfR (mF A) c l 1)))) + (w32 (cfR (mF A) c l 2))) ∧ isFr (-(2 * ((w32 (cfR (mF A) c l 1)) - (w32 (cfR (mF A) c l 0))))) (2 * (((w32 (cfR (mF A) c l 0)) - (2 * (w32 (cfR (mF A) c l 1)))) + (w32 (cfR (mF A) c l 2)))))) = 1) ∧ (K (some (some (vI (bi (¬ (((w32 (cfR (mF A) c l 0)) - (2 * (w32 (cfR (mF A) c l 1)))) + (w32 (cfR (mF A) c l 2))) = 0 ∧ (2 * ((w32 (cfR (mF A) c l 1)) - (w32 (cfR (mF A) c l 0)))) * (2 * ((w32 (cfR (mF A) c l 1)) - (w32 (cfR (mF A) c l 0)))) = 4 * (w32 (cfR (mF A) c l 0)) * (((w32 (cfR (mF A) c l 0)) - (2 * (w32 (cfR (mF A) c l 1)))) + (w32 (cfR (mF A) c l 2))) ∧ isFr (-(2 * ((w32 (cfR (mF A) c l 1)) - (w32 (cfR (mF A) c l 0))))) (2 * (((w32 (cfR (mF A) c l 0)) - (2 * (w32 (cfR (mF A) c l 1)))) + (w32 (cfR (mF A) c l 2))))))))) F A)))) ∧ (¬ w32 (mF A (18 + c) - 1) = w32 2 → (((0 ≤ c ∧ c < 8) ∧ (0 ≤ l ∧ l < 6) ∧ 0 ≤ 3 ∧ 3 < 4) ∧ ((w32 (y_cmp ((((w32 (cfR (mF A) c l 3)) - (3 * (w32 (cfR (mF A) c l 2)))) + (3 * (w32 (cfR (mF A) c l 1)))) - (w32 (cfR (mF A) c l 0))) 0) = w32 0 → (((-1152921504606846976 ≤ (w32 (cfR (mF A) c l 0)) ∧ (w32 (cfR (mF A) c l 0)) ≤ 1152921504606846976) ∧ (-1152921504606846976 ≤ (3 * ((w32 (cfR (mF A) c l 1)) - (w32 (cfR (mF A) c l 0)))) ∧ (3 * ((w32 (cfR (mF A) c l 1)) - (w32 (cfR (mF A) c l 0)))) ≤ 1152921504606846976) ∧ (-1152921504606846976 ≤ (3 * (((w32 (cfR (mF A) c l 0)) - (2 * (w32 (cfR (mF A) c l 1)))) + (w32 (cfR (mF A) c l 2)))) ∧ (3 * (((w32 (cfR (mF A) c l 0)) - (2 * (w32 (cfR (mF A) c l 1)))) + (w32 (cfR (mF A) c l 2)))) ≤ 1152921504606846976) ∧ (-4611686018427387904 ≤ (3 * ((w32 (cfR (mF A) c l 1)) - (w32 (cfR (mF A) c l 0)))) * (3 * ((w32 (cfR (mF A) c l 1)) - (w32 (cfR (mF A) c l 0)))) ∧ (3 * ((w32 (cfR (mF A) c l 1)) - (w32 (cfR (mF A) c l 0)))) * (3 * ((w32 (cfR (mF A) c l 1)) - (w32 (cfR (mF A) c l 0)))) ≤ 4611686018427387904) ∧ (-4611686018427387904 ≤ 4 * (w32 (cfR (mF A) c l 0)) * (3 * (((w32 (cfR (mF A) c l 0)) - (2 * (w32 (cfR (mF A) c l 1)))) + (w32 (cfR (mF A) c l 2)))) ∧ 4 * (w32 (cfR (mF A) c l 0)) * (3 * (((w32 (cfR (mF A) c l 0)) - (2 * (w32 (cfR (mF A) c l 1)))) + (w32 (cfR (mF A) c l 2)))) ≤ 4611686018427387904)) ∧ (((bi (¬ (3 * (((w32 (cfR (mF A) c l 0)) - (2 * (w32 (cfR (mF A) c l 1)))) + (w32 (cfR (mF A) c l 2)))) = 0 ∧ (3 * ((w32 (cfR (mF A) c l 1)) - (w32 (cfR (mF A) c l 0)))) * (3 * ((w32 (cfR (mF A) c l 1)) - (w32 (cfR (mF A) c l 0)))) = 4 * (w32 (cfR (mF A) c l 0)) * (3 * (((w32 (cfR (mF A) c l 0)) - (2 * (w32 (cfR (mF A) c l 1)))) + (w32 (cfR (mF A) c l 2)))) ∧ isFr (-(3 * ((w32 (cfR (mF A) c l 1)) - (w32 (cfR (mF A) c l 0))))) (2 * (3 * (((w32 (cfR (mF A) c l 0)) - (2 * (w32 (cfR (mF A) c l 1)))) + (w32 (cfR (mF A) c l 2))))))) = 0 ∨ (bi (¬ (3 * (((w32 (cfR (mF A) c l 0)) - (2 * (w32 (cfR (mF A) c l 1)))) + (w32 (cfR (mF A) c l 2)))) = 0 ∧ (3 * ((w32 (cfR (mF A) c l 1)) - (w32 (cfR (mF A) c l 0)))) * (3 * ((w32 (cfR (mF A) c l 1)) - (w32 (cfR (mF A) c l 0)))) = 4 * (w32 (cfR (mF A) c l 0)) * (3 * (((w32 (cfR (mF A) c l 0)) - (2 * (w32 (cfR (mF A) c l 1)))) + (w32 (cfR (mF A) c l 2)))) ∧ isFr (-(3 * ((w32 (cfR (mF A) c l 1)) - (w32 (cfR (mF A) c l 0))))) (2 * (3 * (((w32 (cfR (mF A) c l 0)) - (2 * (w32 (cfR (mF A) c l 1)))) + (w32 (cfR (mF A) c l 2))))))) = 1) ∧ (K (some (some (vI (bi (¬ (3 * (((w32 (cfR (mF A) c l 0)) - (2 * (w32 (cfR (mF A) c l 1)))) + (w32 (cfR (mF A) c l 2)))) = 0 ∧ (3 * ((w32 (cfR (mF A) c l 1)) - (w32 (cfR (mF A) c l 0)))) * (3 * ((w32 (cfR (mF A) c l 1)) - (w32 (cfR (mF A) c l 0)))) = 4 * (w32 (cfR (mF A) c l 0)) * (3 * (((w32 (cfR (mF A) c l 0)) - (2 * (w32 (cfR (mF A) c l 1)))) + (w32 (cfR (mF A) c l 2)))) ∧ isFr (-(3 * ((w32 (cfR (mF A) c l 1)) - (w32 (cfR (mF A) c l 0))))) (2 * (3 * (((w32 (cfR (mF A) c l 0)) - (2 * (w32 (cfR (mF A) c l 1)))) + (w32 (cfR (mF A) c l 2)))))))))) F A)))) ∧ (¬ w32 (y_cmp ((((w32 (cfR (mF A) c l 3)) - (3 * (w32 (cfR (mF A) c l 2)))) + (3 * (w32 (cfR (mF A) c l 1)))) - (w32 (cfR (mF A) c l 0))) 0) = w32 0 → (((-1200 ≤ (w32 (cfR (mF A) c l 0)) ∧ (w32 (cfR (mF A) c l 0)) ≤ 1200) ∧ (-7200 ≤ (3 * ((w32 (cfR (mF A) c l 1)) - (w32 (cfR (mF A) c l 0)))) ∧ (3 * ((w32 (cfR (mF A) c l 1)) - (w32 (cfR (mF A) c l 0)))) ≤ 7200) ∧ (-14400 ≤ (3 * (((w32 (cfR (mF A) c l 0)) - (2 * (w32 (cfR (mF A) c l 1)))) + (w32 (cfR (mF A) c l 2)))) ∧ (3 * (((w32 (cfR (mF A) c l 0)) - (2 * (w32 (cfR (mF A) c l 1)))) + (w32 (cfR (mF A) c l 2)))) ≤ 14400) ∧ (-9600 ≤ ((((w32 (cfR (mF A) c l 3)) - (3 * (w32 (cfR (mF A) c l 2)))) + (3 * (w32 (cfR (mF A) c l 1)))) - (w32 (cfR (mF A) c l 0))) ∧ ((((w32 (cfR (mF A) c l 3)) - (3 * (w32 (cfR (mF A) c l 2)))) + (3 * (w32 (cfR (mF A) c l 1)))) - (w32 (cfR (mF A) c l 0))) ≤ 9600) ∧ ¬ ((((w32 (cfR (mF A) c l 3)) - (3 * (w32 (cfR (mF A) c l 2)))) + (3 * (w32 (cfR (mF A) c l 1)))) - (w32 (cfR (mF A) c l 0))) = 0) ∧ (((bi (cbM (w32 (cfR (mF A) c l 0)) (3 * ((w32 (cfR (mF A) c l 1)) - (w32 (cfR (mF A) c l 0)))) (3 * (((w32 (cfR (mF A) c l 0)) - (2 * (w32 (cfR (mF A) c l 1)))) + (w32 (cfR (mF A) c l 2)))) ((((w32 (cfR (mF A) c l 3)) - (3 * (w32 (cfR (mF A) c l 2)))) + (3 * (w32 (cfR (mF A) c l 1)))) - (w32 (cfR (mF A) c l 0))))) = 0 ∨ (bi (cbM (w32 (cfR (mF A) c l 0)) (3 * ((w32 (cfR (mF A) c l 1)) - (w32 (cfR (mF A) c l 0)))) (3 * (((w32 (cfR (mF A) c l 0)) - (2 * (w32 (cfR (mF A) c l 1)))) + (w32 (cfR (mF A) c l 2)))) ((((w32 (cfR (mF A) c l 3)) - (3 * (w32 (cfR (mF A) c l 2)))) + (3 * (w32 (cfR (mF A) c l 1)))) - (w32 (cfR (mF A) c l 0))))) = 1) ∧ (K (some (some (vI (bi (cbM (w32 (cfR (mF A) c l 0)) (3 * ((w32 (cfR (mF A) c l 1)) - (w32 (cfR (mF A) c l 0)))) (3 * (((w32 (cfR (mF A) c l 0)) - (2 * (w32 (cfR (mF A) c l 1)))) + (w32 (cfR (mF A) c l 2)))) ((((w32 (cfR (mF A) c l 3)) - (3 * (w32 (cfR (mF A) c l 2)))) + (3 * (w32 (cfR (mF A) c l 1)))) - (w32 (cfR (mF A) c l 0)))))))) F A))))))))))))))
  refine ⟨by first | exact bi_01 | exact Or.inl rfl | omega | exact ⟨by omega, by omega, by omega⟩ | exact ⟨⟨by omega, by omega⟩, ⟨by omega, by omega⟩, ⟨by omega, by omega⟩, ⟨by omega, by omega⟩, by omega, by omega⟩ | exact ⟨by omega, by omega, by omega, by omega, by omega⟩, ?_⟩
  refine ⟨by first | exact bi_01 | exact Or.inl rfl | omega | exact ⟨by omega, by omega, by omega⟩ | exact ⟨⟨by omega, by omega⟩, ⟨by omega, by omega⟩, ⟨by omega, by omega⟩, ⟨by omega, by omega⟩, by omega, by omega⟩ | exact ⟨by omega, by omega, by omega, by omega, by omega⟩, ?_⟩
  refine ⟨by first | exact bi_01 | exact Or.inl rfl | omega | exact ⟨by omega, by omega, by omega⟩ | exact ⟨⟨by omega, by omega⟩, ⟨by omega, by omega⟩, ⟨by omega, by omega⟩, ⟨by omega, by omega⟩, by omega, by omega⟩ | exact ⟨by omega, by omega, by omega, by omega, by omega⟩, ?_⟩
  refine ⟨fun c1 => ?_, fun c1 => ?_⟩
  · skip
    (try simp (disch := omega) only [w32_0, w32_id, yc_eq0, w64_0, wbi0, Classical.not_not, w64_id] at c1)
    refine ⟨by first | exact bi_01 | exact Or.inl rfl | omega | exact ⟨by omega, by omega, by omega⟩ | exact ⟨⟨by omega, by omega⟩, ⟨by omega, by omega⟩, ⟨by omega, by omega⟩, ⟨by omega, by omega⟩, by omega, by omega⟩ | exact ⟨by omega, by omega, by omega, by omega, by omega⟩, ?_⟩
    exact K_eq h (bi_f (fun q => (if_pos c1).mp (T.mpr q)))
  · skip
    (try simp (disch := omega) only [w32_0, w32_id, yc_eq0, w64_0, wbi0, Classical.not_not, w64_id] at c1)
    have b2 := t 2 (by decide) (by omega)
    refine ⟨by first | exact bi_01 | exact Or.inl rfl | omega | exact ⟨by omega, by omega, by omega⟩ | exact ⟨⟨by omega, by omega⟩, ⟨by omega, by omega⟩, ⟨by omega, by omega⟩, ⟨by omega, by omega⟩, by omega, by omega⟩ | exact ⟨by omega, by omega, by omega, by omega, by omega⟩, ?_⟩
    refine ⟨by first | exact bi_01 | exact Or.inl rfl | omega | exact ⟨by omega, by omega, by omega⟩ | exact ⟨⟨by omega, by omega⟩, ⟨by omega, by omega⟩, ⟨by omega, by omega⟩, ⟨by omega, by omega⟩, by omega, by omega⟩ | exact ⟨by omega, by omega, by omega, by omega, by omega⟩, ?_⟩
    refine ⟨fun c2 => ?_, fun c2 => ?_⟩
    · skip
      (try simp (disch := omega) only [w32_0, w32_id, yc_eq0, w64_0, wbi0, Classical.not_not, w64_id] at c2)
      have s1 := mu_b (a := 2 * (w32 (cfR (mF A) c l 1) - w32 (cfR (mF A) c l 0))) (b := 2 * (w32 (cfR (mF A) c l 1) - w32 (cfR (mF A) c l 0))) (M := 4800) (N := 4800) (by omega) (by omega)
      have s2 := mu_b (a := 4 * w32 (cfR (mF A) c l 0)) (b := w32 (cfR (mF A) c l 0) - 2 * w32 (cfR (mF A) c l 1) + w32 (cfR (mF A) c l 2)) (M := 4800) (N := 4800) (by omega) (by omega)
      refine ⟨by first | exact bi_01 | exact Or.inl rfl | omega | exact ⟨by omega, by omega, by omega⟩ | exact ⟨⟨by omega, by omega⟩, ⟨by omega, by omega⟩, ⟨by omega, by omega⟩, ⟨by omega, by omega⟩, by omega, by omega⟩ | exact ⟨by omega, by omega, by omega, by omega, by omega⟩, ?_⟩
      refine ⟨by first | exact bi_01 | exact Or.inl rfl | omega | exact ⟨by omega, by omega, by omega⟩ | exact ⟨⟨by omega, by omega⟩, ⟨by omega, by omega⟩, ⟨by omega, by omega⟩, ⟨by omega, by omega⟩, by omega, by omega⟩ | exact ⟨by omega, by omega, by omega, by omega, by omega⟩, ?_⟩
      refine K_eq h (bi_c (T.symm.trans ?_))
      show ite _ _ _ ↔ _
      rw [if_neg c1, if_pos c2]
      exact Iff.rfl
    · skip
      (try simp (disch := omega) only [w32_0, w32_id, yc_eq0, w64_0, wbi0, Classical.not_not, w64_id] at c2)
      have b3 := t 3 (by decide) (by omega)
      have s1 := mu_b (a := 3 * (w32 (cfR (mF A) c l 1) - w32 (cfR (mF A) c l 0))) (b := 3 * (w32 (cfR (mF A) c l 1) - w32 (cfR (mF A) c l 0))) (M := 7200) (N := 7200) (by omega) (by omega)
      have s2 := mu_b (a := 4 * w32 (cfR (mF A) c l 0)) (b := 3 * (w32 (cfR (mF A) c l 0) - 2 * w32 (cfR (mF A) c l 1) + w32 (cfR (mF A) c l 2))) (M := 4800) (N := 14400) (by omega) (by omega)
      refine ⟨by first | exact bi_01 | exact Or.inl rfl | omega | exact ⟨by omega, by omega, by omega⟩ | exact ⟨⟨by omega, by omega⟩, ⟨by omega, by omega⟩, ⟨by omega, by omega⟩, ⟨by omega, by omega⟩, by omega, by omega⟩ | exact ⟨by omega, by omega, by omega, by omega, by omega⟩, ?_⟩
      refine ⟨fun c3 => ?_, fun c3 => ?_⟩
      · skip
        (try simp (disch := omega) only [w32_0, w32_id, yc_eq0, w64_0, wbi0, Classical.not_not, w64_id] at c3)
        refine ⟨by first | exact bi_01 | exact Or.inl rfl | omega | exact ⟨by omega, by omega, by omega⟩ | exact ⟨⟨by omega, by omega⟩, ⟨by omega, by omega⟩, ⟨by omega, by omega⟩, ⟨by omega, by omega⟩, by omega, by omega⟩ | exact ⟨by omega, by omega, by omega, by omega, by omega⟩, ?_⟩
        refine ⟨by first | exact bi_01 | exact Or.inl rfl | omega | exact ⟨by omega, by omega, by omega⟩ | exact ⟨⟨by omega, by omega⟩, ⟨by omega, by omega⟩, ⟨by omega, by omega⟩, ⟨by omega, by omega⟩, by omega, by omega⟩ | exact ⟨by omega, by omega, by omega, by omega, by omega⟩, ?_⟩
        refine K_eq h (bi_c (T.symm.trans ?_))
        show ite _ _ (ite _ _ (ite _ _ _)) ↔ _
        rw [if_neg c1, if_neg c2, if_pos (show cfL (mF A) c l 3 - 3 * cfL (mF A) c l 2 + 3 * cfL (mF A) c l 1 - cfL (mF A) c l 0 = 0 from c3)]
        exact Iff.rfl
      · skip
        (try simp (disch := omega) only [w32_0, w32_id, yc_eq0, w64_0, wbi0, Classical.not_not, w64_id] at c3)
        refine ⟨by first | exact bi_01 | exact Or.inl rfl | omega | exact ⟨by omega, by omega, by omega⟩ | exact ⟨⟨by omega, by omega⟩, ⟨by omega, by omega⟩, ⟨by omega, by omega⟩, ⟨by omega, by omega⟩, by omega, by omega⟩ | exact ⟨by omega, by omega, by omega, by omega, by omega⟩, ?_⟩
        refine ⟨by first | exact bi_01 | exact Or.inl rfl | omega | exact ⟨by omega, by omega, by omega⟩ | exact ⟨⟨by omega, by omega⟩, ⟨by omega, by omega⟩, ⟨by omega, by omega⟩, ⟨by omega, by omega⟩, by omega, by omega⟩ | exact ⟨by omega, by omega, by omega, by omega, by omega⟩, ?_⟩
        refine K_eq h (bi_c (T.symm.trans ?_))
        show ite _ _ (ite _ _ (ite _ _ _)) ↔ _
        rw [if_neg c1, if_neg c2, if_neg (show ¬ cfL (mF A) c l 3 - 3 * cfL (mF A) c l 2 + 3 * cfL (mF A) c l 1 - cfL (mF A) c l 0 = 0 from c3)]
        exact Iff.rfl
theorem qtX9_isTwice (l : Launch) : am_CT l layM qeX9_isTwice := am_met0 rfl (by decide +kernel) rfl rfl rfl rfl rfl (fun _ => rfl) rfl (qzX9_isTwice l) (fun k e1 h => (qyX9_isTwice l k e1 h).2) (fun as F A K h => by
  replace h : qsX9_isTwice as F A K := h
  unfold qsX9_isTwice at h
  split at h
  · rename_i o c l
    refine ⟨by first | exact Nat.le_of_ble_eq_true rfl | simp [am_fl, am_cat], ?_⟩
    replace h := am_cond2 h
    rcases h with ⟨hb, h⟩ | h
    · skip
      have hb0 := hb
      have hb0 := am_bq hb0
      subst hb0
      exact am_way_line (qvX9_isTwice_25 c l F A K h)
    exact h.elim
  · exact h.elim)
def qkX9_isTangent : Nat → Option CI := fun pc => cond (Nat.ble 24 pc) none (cond (Nat.ble 11 pc) (cond (Nat.ble 18 pc) (cond (Nat.ble 22 pc) (cond (Nat.beq pc 22) (some (.iconst 0, 23, [])) (cond (Nat.beq pc 23) (some (.ireturn, 24, [])) (none))) (cond (Nat.beq pc 18) (some (.iconst 1, 19, [])) (cond (Nat.beq pc 19) (some (.goto 4, 22, [23])) (none)))) (cond (Nat.beq pc 11) (some (.iload_n 2, 12, [])) (cond (Nat.beq pc 12) (some (.invokevirtual 360, 15, [])) (cond (Nat.beq pc 15) (some (.ifCond .eq 7, 18, [22])) (none))))) (cond (Nat.ble 3 pc) (cond (Nat.ble 9 pc) (cond (Nat.beq pc 9) (some (.aload_n 0, 10, [])) (cond (Nat.beq pc 10) (some (.iload_n 1, 11, [])) (none))) (cond (Nat.beq pc 3) (some (.invokevirtual 346, 6, [])) (cond (Nat.beq pc 6) (some (.ifCond .eq 16, 9, [22])) (none)))) (cond (Nat.beq pc 0) (some (.aload_n 0, 1, [])) (cond (Nat.beq pc 1) (some (.iload_n 1, 2, [])) (cond (Nat.beq pc 2) (some (.iload_n 2, 3, [])) (none))))))
theorem qkX9_isTangent_ok : ∀ pc i nx ts, qkX9_isTangent pc = some (i, nx, ts) → am_cok cX9_isTangent pc (i, nx, ts) = true := fun pc i nx ts h => am_tok_ok (n := 24) (by decide +kernel) (fun pc h => by show cond (Nat.ble 24 pc) _ _ = _; rw [Nat.ble_eq_true_of_le h]; rfl) h
def qaX9_isTangent : Nat → Option CE := fun k => cond (Nat.beq k 346) (some qeX9_areThere) (cond (Nat.beq k 360) (some qeX9_isTwice) (none))
theorem qyX9_isTangent (l : Launch) : ∀ k e1, qaX9_isTangent k = some e1 → am_cal l layM RX9 6 k e1 ∧ ceT e1 = 0 := q_cons ⟨am_calV (ci := 9) (qtX9_areThere l) qbX9_areThere (by decide) rfl (am_tb_at 1774 (by decide +kernel) rfl), rfl⟩ (q_cons ⟨am_calV (ci := 9) (qtX9_isTwice l) qbX9_isTwice (by decide) rfl (am_tb_at 1865 (by decide +kernel) rfl), rfl⟩ (q_nil))
def qxX9_isTangent : CX := (qkX9_isTangent, layM, qfX9, qaX9_isTangent, qcX9, qlX9, qmX9, (some .boolean), false, none, 0, none, fun _ => none)
theorem qzX9_isTangent (l : Launch) : am_sta l qxX9_isTangent RX9 6 cX9_isTangent := ⟨qkX9_isTangent_ok, layM_ok, qfX9_ok, qcX9_ok, qlX9_ok, am_mthP qmX9_ok (by decide), fun k e1 h => (qyX9_isTangent l k e1 h).1⟩
def qsX9_isTangent : SP := fun as F A K => match as with
  | [.inr (.inr o), .inl c, .inl l] => cond (Nat.beq o 25) ((fgOK (mF A) ∧ (-2147483648 ≤ c ∧ c < 2147483648) ∧ (-2147483648 ≤ l ∧ l < 2147483648) ∧ lnOK (mF A)) ∧ (∀ (G_1 : FF) (B_1 : AA), (qdP F G_1 A B_1 ∧ G_1 25 0 = (if (0 ≤ c ∧ c < mF A 0) ∧ 0 ≤ l ∧ l < mF A 1 then 0 else 1)) → (K (some (some (vI (if (0 ≤ c ∧ c < mF A 0) ∧ 0 ≤ l ∧ l < mF A 1 then bi (dblP (cfL (mF A) c l) (mF A (18 + c) - 1)) else 0)))) G_1 B_1))) (False)
  | _ => False
def qeX9_isTangent : CE := (yX9_isTangent, cX9_isTangent, 3, (some .boolean), 2, some 9, 0, [], 0, 6, qsX9_isTangent)
theorem qbX9_isTangent : am_mb qeX9_isTangent := ⟨am_tb_at 1864 (by decide +kernel) rfl, am_tb_at 124 (by decide +kernel) rfl, ⟨by decide, by decide, by decide +kernel⟩, by decide, by decide, am_tb_at 1862 (by decide +kernel) rfl, am_tb_at 1863 (by decide +kernel) rfl, _, _, rfl⟩
set_option maxRecDepth 20000 in
theorem qvX9_isTangent_25 (c : Int) (l : Int) (F : FF) (A : AA) (K : KK) (h : (fgOK (mF A) ∧ (-2147483648 ≤ c ∧ c < 2147483648) ∧ (-2147483648 ≤ l ∧ l < 2147483648) ∧ lnOK (mF A)) ∧ (∀ (G_1 : FF) (B_1 : AA), (qdP F G_1 A B_1 ∧ G_1 25 0 = (if (0 ≤ c ∧ c < mF A 0) ∧ 0 ≤ l ∧ l < mF A 1 then 0 else 1)) → (K (some (some (vI (if (0 ≤ c ∧ c < mF A 0) ∧ 0 ≤ l ∧ l < mF A 1 then bi (dblP (cfL (mF A) c l) (mF A (18 + c) - 1)) else 0)))) G_1 B_1))) : am_line qxX9_isTangent 14 [vR 25, vI c, vI l] 3 F A K := by
  show am_stp qxX9_isTangent (am_run qxX9_isTangent (fun _ => none) (fun _ _ _ _ _ _ => False) K 14) K 0 [some (vR 25), some (vI c), some (vI l)] [] F A 0
  obtain ⟨hp, h⟩ := h
  have p1 := hp.1
  have q1 := p1.1.1
  have q2 := p1.1.2
  have q4 := p1.2.1

  show (fgOK (mF A) ∧ (-2147483648 ≤ c ∧ c < 2147483648) ∧ (-2147483648 ≤ l ∧ l < 2147483648)) ∧ ((w32 (bi ((0 ≤ c ∧ c < mF A 0) ∧ 0 ≤ l ∧ l < mF A 1)) = w32 0 → ((0 = 0 ∨ 0 = 1) ∧ (K (some (some (vI 0))) (upF F 25 0 (1 - bi ((0 ≤ c ∧ c < mF A 0) ∧ 0 ≤ l ∧ l < mF A 1))) A))) ∧ (¬ (w32 (bi ((0 ≤ c ∧ c < mF A 0) ∧ 0 ≤ l ∧ l < mF A 1)) = w32 0) → ((fgOK (mF A) ∧ (0 ≤ c ∧ c < mF A 0) ∧ (0 ≤ l ∧ l < mF A 1) ∧ lnOK (mF A)) ∧ ((w32 (bi (dblP (cfL (mF A) c l) (mF A (18 + c) - 1))) = w32 0 → ((0 = 0 ∨ 0 = 1) ∧ (K (some (some (vI 0))) (upF F 25 0 (1 - bi ((0 ≤ c ∧ c < mF A 0) ∧ 0 ≤ l ∧ l < mF A 1))) A))) ∧ (¬ w32 (bi (dblP (cfL (mF A) c l) (mF A (18 + c) - 1))) = w32 0 → ((1 = 0 ∨ 1 = 1) ∧ (K (some (some (vI 1))) (upF F 25 0 (1 - bi ((0 ≤ c ∧ c < mF A 0) ∧ 0 ≤ l ∧ l < mF A 1))) A)))))))
  refine ⟨by exact ⟨p1, by omega, by omega⟩, ?_⟩
  refine ⟨fun c1 => ?_, fun c1 => ?_⟩
  · skip
    (try (have q3 := (p1.2.2.1 c c1.1.1 c1.1.2).1)); (try simp only [w32_0, wbi0, Classical.not_not] at c1); (try simp (disch := omega) only [fat_in, w32_0, wbi0, Classical.not_not, w32_id] at c1)
    refine ⟨by first | exact bi_01 | exact Or.inl rfl | exact Or.inr rfl | exact ⟨p1, c1.1, c1.2, hp.2.2.2⟩, ?_⟩
    first
    | exact K_eq (h _ _ ⟨qdP_F (by decide), by rw [upF_s, bi_f c1, if_neg c1]; rfl⟩) (if_neg c1)
    | exact K_eq (h _ _ ⟨qdP_F (by decide), by rw [upF_s, bi_t c1, if_pos c1]; rfl⟩) (by rw [if_pos c1, bi_t c2])
    | exact K_eq (h _ _ ⟨qdP_F (by decide), by rw [upF_s, bi_t c1, if_pos c1]; rfl⟩) (by rw [if_pos c1, bi_f c2])
  · skip
    (try (have q3 := (p1.2.2.1 c c1.1.1 c1.1.2).1)); (try simp only [w32_0, wbi0, Classical.not_not] at c1); (try simp (disch := omega) only [fat_in, w32_0, wbi0, Classical.not_not, w32_id] at c1)
    refine ⟨by first | exact bi_01 | exact Or.inl rfl | exact Or.inr rfl | exact ⟨p1, c1.1, c1.2, hp.2.2.2⟩, ?_⟩
    refine ⟨fun c2 => ?_, fun c2 => ?_⟩
    · skip
      (try (have q3 := (p1.2.2.1 c c1.1.1 c1.1.2).1)); (try simp only [w32_0, wbi0, Classical.not_not] at c2); (try simp (disch := omega) only [fat_in, w32_0, wbi0, Classical.not_not, w32_id] at c2)
      refine ⟨by first | exact bi_01 | exact Or.inl rfl | exact Or.inr rfl | exact ⟨p1, c1.1, c1.2, hp.2.2.2⟩, ?_⟩
      first
      | exact K_eq (h _ _ ⟨qdP_F (by decide), by rw [upF_s, bi_f c1, if_neg c1]; rfl⟩) (if_neg c1)
      | exact K_eq (h _ _ ⟨qdP_F (by decide), by rw [upF_s, bi_t c1, if_pos c1]; rfl⟩) (by rw [if_pos c1, bi_t c2])
      | exact K_eq (h _ _ ⟨qdP_F (by decide), by rw [upF_s, bi_t c1, if_pos c1]; rfl⟩) (by rw [if_pos c1, bi_f c2])
    · skip
      (try (have q3 := (p1.2.2.1 c c1.1.1 c1.1.2).1)); (try simp only [w32_0, wbi0, Classical.not_not] at c2); (try simp (disch := omega) only [fat_in, w32_0, wbi0, Classical.not_not, w32_id] at c2)
      refine ⟨by first | exact bi_01 | exact Or.inl rfl | exact Or.inr rfl | exact ⟨p1, c1.1, c1.2, hp.2.2.2⟩, ?_⟩
      first
      | exact K_eq (h _ _ ⟨qdP_F (by decide), by rw [upF_s, bi_f c1, if_neg c1]; rfl⟩) (if_neg c1)
      | exact K_eq (h _ _ ⟨qdP_F (by decide), by rw [upF_s, bi_t c1, if_pos c1]; rfl⟩) (by rw [if_pos c1, bi_t c2])
      | exact K_eq (h _ _ ⟨qdP_F (by decide), by rw [upF_s, bi_t c1, if_pos c1]; rfl⟩) (by rw [if_pos c1, bi_f c2])
theorem qtX9_isTangent (l : Launch) : am_CT l layM qeX9_isTangent := am_met0 rfl (by decide +kernel) rfl rfl rfl rfl rfl (fun _ => rfl) rfl (qzX9_isTangent l) (fun k e1 h => (qyX9_isTangent l k e1 h).2) (fun as F A K h => by
  replace h : qsX9_isTangent as F A K := h
  unfold qsX9_isTangent at h
  split at h
  · rename_i o c l
    refine ⟨by first | exact Nat.le_of_ble_eq_true rfl | simp [am_fl, am_cat], ?_⟩
    replace h := am_cond2 h
    rcases h with ⟨hb, h⟩ | h
    · skip
      have hb0 := hb
      have hb0 := am_bq hb0
      subst hb0
      exact am_way_line (qvX9_isTangent_25 c l F A K h)
    exact h.elim
  · exact h.elim)
