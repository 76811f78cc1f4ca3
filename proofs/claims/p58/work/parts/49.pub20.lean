def qkX8_placePart : Nat → Option CI := fun pc => cond (Nat.ble 160 pc) none (cond (Nat.ble 76 pc) (cond (Nat.ble 117 pc) (cond (Nat.ble 137 pc) (cond (Nat.ble 149 pc) (cond (Nat.ble 156 pc) (cond (Nat.beq pc 156) (some (.lload 13, 158, [])) (cond (Nat.beq pc 158) (some (.ldiv, 159, [])) (cond (Nat.beq pc 159) (some (.lreturn, 160, [])) (none)))) (cond (Nat.beq pc 149) (some (.lload 11, 151, [])) (cond (Nat.beq pc 151) (some (.goto 5, 154, [156])) (cond (Nat.beq pc 154) (some (.lload 9, 156, [])) (none))))) (cond (Nat.ble 143 pc) (cond (Nat.beq pc 143) (some (.lreturn, 144, [])) (cond (Nat.beq pc 144) (some (.iload 5, 146, [])) (cond (Nat.beq pc 146) (some (.ifCond .eq 8, 149, [154])) (none)))) (cond (Nat.beq pc 137) (some (.ifCond .gt 7, 140, [144])) (cond (Nat.beq pc 140) (some (.ldc2_w 151, 143, [])) (none))))) (cond (Nat.ble 128 pc) (cond (Nat.ble 133 pc) (cond (Nat.beq pc 133) (some (.lload 13, 135, [])) (cond (Nat.beq pc 135) (some (.lconst 0, 136, [])) (cond (Nat.beq pc 136) (some (.lcmp, 137, [])) (none)))) (cond (Nat.beq pc 128) (some (.invokestatic 168, 131, [])) (cond (Nat.beq pc 131) (some (.lstore 13, 133, [])) (none)))) (cond (Nat.ble 122 pc) (cond (Nat.beq pc 122) (some (.lstore 11, 124, [])) (cond (Nat.beq pc 124) (some (.lload 9, 126, [])) (cond (Nat.beq pc 126) (some (.lload 11, 128, [])) (none)))) (cond (Nat.beq pc 117) (some (.iload 8, 119, [])) (cond (Nat.beq pc 119) (some (.invokevirtual 160, 122, [])) (none)))))) (cond (Nat.ble 97 pc) (cond (Nat.ble 107 pc) (cond (Nat.ble 113 pc) (cond (Nat.beq pc 113) (some (.iload_n 1, 114, [])) (cond (Nat.beq pc 114) (some (.iload 7, 116, [])) (cond (Nat.beq pc 116) (some (.iconst 2, 117, [])) (none)))) (cond (Nat.beq pc 107) (some (.lstore 9, 109, [])) (cond (Nat.beq pc 109) (some (.aload_n 0, 110, [])) (cond (Nat.beq pc 110) (some (.getfield 36, 113, [])) (none))))) (cond (Nat.ble 100 pc) (cond (Nat.beq pc 100) (some (.iload 4, 102, [])) (cond (Nat.beq pc 102) (some (.iload 8, 104, [])) (cond (Nat.beq pc 104) (some (.invokevirtual 160, 107, [])) (none)))) (cond (Nat.beq pc 97) (some (.iload_n 1, 98, [])) (cond (Nat.beq pc 98) (some (.iload 7, 100, [])) (none))))) (cond (Nat.ble 87 pc) (cond (Nat.ble 91 pc) (cond (Nat.beq pc 91) (some (.istore 8, 93, [])) (cond (Nat.beq pc 93) (some (.aload_n 0, 94, [])) (cond (Nat.beq pc 94) (some (.getfield 36, 97, [])) (none)))) (cond (Nat.beq pc 87) (some (.goto 4, 90, [91])) (cond (Nat.beq pc 90) (some (.iconst 0, 91, [])) (none)))) (cond (Nat.ble 80 pc) (cond (Nat.beq pc 80) (some (.getfield 10, 83, [])) (cond (Nat.beq pc 83) (some (.iload_n 1, 84, [])) (cond (Nat.beq pc 84) (some (.invokevirtual 126, 87, [])) (none)))) (cond (Nat.beq pc 76) (some (.ifCond .eq 14, 79, [90])) (cond (Nat.beq pc 79) (some (.aload_n 0, 80, [])) (none))))))) (cond (Nat.ble 36 pc) (cond (Nat.ble 56 pc) (cond (Nat.ble 64 pc) (cond (Nat.ble 69 pc) (cond (Nat.beq pc 69) (some (.invokestatic 157, 72, [])) (cond (Nat.beq pc 72) (some (.istore 7, 74, [])) (cond (Nat.beq pc 74) (some (.iload 6, 76, [])) (none)))) (cond (Nat.beq pc 64) (some (.isub, 65, [])) (cond (Nat.beq pc 65) (some (.goto 4, 68, [69])) (cond (Nat.beq pc 68) (some (.iload_n 3, 69, [])) (none))))) (cond (Nat.ble 59 pc) (cond (Nat.beq pc 59) (some (.ifCond .eq 9, 62, [68])) (cond (Nat.beq pc 62) (some (.iload_n 3, 63, [])) (cond (Nat.beq pc 63) (some (.iconst 1, 64, [])) (none)))) (cond (Nat.beq pc 56) (some (.iload_n 2, 57, [])) (cond (Nat.beq pc 57) (some (.iload 6, 59, [])) (none))))) (cond (Nat.ble 47 pc) (cond (Nat.ble 51 pc) (cond (Nat.beq pc 51) (some (.iload_n 1, 52, [])) (cond (Nat.beq pc 52) (some (.iload_n 2, 53, [])) (cond (Nat.beq pc 53) (some (.invokevirtual 153, 56, [])) (none)))) (cond (Nat.beq pc 47) (some (.aload_n 0, 48, [])) (cond (Nat.beq pc 48) (some (.getfield 10, 51, [])) (none)))) (cond (Nat.ble 42 pc) (cond (Nat.beq pc 42) (some (.lreturn, 43, [])) (cond (Nat.beq pc 43) (some (.aload_n 0, 44, [])) (cond (Nat.beq pc 44) (some (.getfield 36, 47, [])) (none)))) (cond (Nat.beq pc 36) (some (.ifCond .ne 7, 39, [43])) (cond (Nat.beq pc 39) (some (.ldc2_w 151, 42, [])) (none)))))) (cond (Nat.ble 17 pc) (cond (Nat.ble 26 pc) (cond (Nat.ble 30 pc) (cond (Nat.beq pc 30) (some (.iload_n 3, 31, [])) (cond (Nat.beq pc 31) (some (.bipush 6, 33, [])) (cond (Nat.beq pc 33) (some (.invokestatic 148, 36, [])) (none)))) (cond (Nat.beq pc 26) (some (.ifCond .ne 17, 29, [43])) (cond (Nat.beq pc 29) (some (.iload_n 2, 30, [])) (none)))) (cond (Nat.ble 21 pc) (cond (Nat.beq pc 21) (some (.iconst 0, 22, [])) (cond (Nat.beq pc 22) (some (.istore 6, 24, [])) (cond (Nat.beq pc 24) (some (.iload 6, 26, [])) (none)))) (cond (Nat.beq pc 17) (some (.iconst 1, 18, [])) (cond (Nat.beq pc 18) (some (.goto 4, 21, [22])) (none))))) (cond (Nat.ble 10 pc) (cond (Nat.ble 12 pc) (cond (Nat.beq pc 12) (some (.iload_n 2, 13, [])) (cond (Nat.beq pc 13) (some (.ishl, 14, [])) (cond (Nat.beq pc 14) (some (.if_icmp .ne 7, 17, [21])) (none)))) (cond (Nat.beq pc 10) (some (.iload_n 3, 11, [])) (cond (Nat.beq pc 11) (some (.iconst 1, 12, [])) (none)))) (cond (Nat.ble 2 pc) (cond (Nat.beq pc 2) (some (.bipush 6, 4, [])) (cond (Nat.beq pc 4) (some (.invokestatic 133, 7, [])) (cond (Nat.beq pc 7) (some (.ifCond .eq 14, 10, [21])) (none)))) (cond (Nat.beq pc 0) (some (.iload_n 2, 1, [])) (cond (Nat.beq pc 1) (some (.iconst 0, 2, [])) (none))))))))
theorem qkX8_placePart_ok : ∀ pc i nx ts, qkX8_placePart pc = some (i, nx, ts) → am_cok cX8_placePart pc (i, nx, ts) = true := fun pc i nx ts h => am_tok_ok (n := 160) (by decide +kernel) (fun pc h => by show cond (Nat.ble 160 pc) _ _ = _; rw [Nat.ble_eq_true_of_le h]; rfl) h
def qaX8_placePart : Nat → Option CE := fun k => cond (Nat.beq k 133) (some qeX8_isWithin) (cond (Nat.beq k 148) (some qeX8_isCell) (cond (Nat.beq k 153) (some qeX1_grow) (cond (Nat.beq k 157) (some qeX8_nodeOf) (cond (Nat.beq k 126) (some qeX2_top) (cond (Nat.beq k 160) (some qeX1_number) (cond (Nat.beq k 168) (some qeX8_commonDivisor) (none)))))))
theorem qyX8_placePart (l : Launch) : ∀ k e1, qaX8_placePart k = some e1 → am_cal l layX RX8 9 k e1 ∧ ceT e1 = 0 := q_cons ⟨am_calS (qtX8_isWithin l) qbX8_isWithin (by decide) rfl (by decide) (am_tb_at 875 (by decide +kernel) rfl), rfl⟩ (q_cons ⟨am_calS (qtX8_isCell l) qbX8_isCell (by decide) rfl (by decide) (am_tb_at 992 (by decide +kernel) rfl), rfl⟩ (q_cons ⟨am_calV (ci := 1) (qtX1_grow l) qbX1_grow (by decide) rfl (am_tb_at 996 (by decide +kernel) rfl), rfl⟩ (q_cons ⟨am_calS (qtX8_nodeOf l) qbX8_nodeOf (by decide) rfl (by decide) (am_tb_at 1043 (by decide +kernel) rfl), rfl⟩ (q_cons ⟨am_calV (ci := 2) (qtX2_top l) qbX2_top (by decide) rfl (am_tb_at 850 (by decide +kernel) rfl), rfl⟩ (q_cons ⟨am_calV (ci := 1) (qtX1_number l) qbX1_number (by decide) rfl (am_tb_at 1044 (by decide +kernel) rfl), rfl⟩ (q_cons ⟨am_calS (qtX8_commonDivisor l) qbX8_commonDivisor (by decide) rfl (by decide) (am_tb_at 1062 (by decide +kernel) rfl), rfl⟩ (q_nil)))))))
def qxX8_placePart : CX := (qkX8_placePart, layX, qfX8, qaX8_placePart, qcX8, qlX8, qmX8, (some .long), false, none, 0, none, fun _ => none)
theorem qzX8_placePart (l : Launch) : am_sta l qxX8_placePart RX8 9 cX8_placePart := ⟨qkX8_placePart_ok, layX_ok, qfX8_ok, qcX8_ok, qlX8_ok, am_mthP qmX8_ok (by decide), fun k e1 h => (qyX8_placePart l k e1 h).1⟩
def qsX8_placePart : SP := fun as F A K => match as with
  | [.inr (.inr o), .inl c, .inl d, .inl q, .inl w, .inl z] => cond (Nat.beq o 0) ((fgOK (A 2) ∧ (0 ≤ c ∧ c < A 2 0) ∧ (-2147483648 ≤ d ∧ d < 2147483648) ∧ (-2147483648 ≤ q ∧ q < 2147483648) ∧ (0 ≤ w ∧ w ≤ 1) ∧ (z = 0 ∨ z = 1) ∧ caAll A) ∧ (∀ (G_1 : FF) (B_1 : AA), (qrP F G_1 A B_1) → (K (some (some (vL (if 0 ≤ d ∧ d ≤ 6 ∧ 0 ≤ q ∧ q ≤ p2 d then plF (A 2) c d q w z else -1)))) G_1 B_1))) (False)
  | _ => False
def qeX8_placePart : CE := (yX8_placePart, cX8_placePart, 15, (some .long), 5, some 8, 0, none, 0, 9, qsX8_placePart)
theorem qbX8_placePart : am_mb qeX8_placePart := ⟨am_tb_at 1061 (by decide +kernel) rfl, am_tb_at 35 (by decide +kernel) rfl, ⟨by decide, by decide, by decide +kernel⟩, by decide, am_tb_at 1060 (by decide +kernel) rfl, am_tb_at 24 (by decide +kernel) rfl, _, _, rfl⟩
set_option maxRecDepth 20000 in
theorem qvX8_placePart_0 (c : Int) (d : Int) (q : Int) (w : Int) (z : Int) (F : FF) (A : AA) (K : KK) (h : (fgOK (A 2) ∧ (0 ≤ c ∧ c < A 2 0) ∧ (-2147483648 ≤ d ∧ d < 2147483648) ∧ (-2147483648 ≤ q ∧ q < 2147483648) ∧ (0 ≤ w ∧ w ≤ 1) ∧ (z = 0 ∨ z = 1) ∧ caAll A) ∧ (∀ (G_1 : FF) (B_1 : AA), (qrP F G_1 A B_1) → (K (some (some (vL (if 0 ≤ d ∧ d ≤ 6 ∧ 0 ≤ q ∧ q ≤ p2 d then plF (A 2) c d q w z else -1)))) G_1 B_1))) : am_line qxX8_placePart 71 [vR 0, vI c, vI d, vI q, vI w, vI z] 15 F A K := by
  show am_stp qxX8_placePart (am_run qxX8_placePart (fun _ => none) (fun _ _ _ _ _ _ => False) K 71) K 0 [some (vR 0), some (vI c), some (vI d), some (vI q), some (vI w), some (vI z), none, none, none, none, none, none, none, none, none] [] F A 0
  obtain ⟨hp, h⟩ := h
  obtain ⟨p1, p2', p3, p4, p5, p6, p7⟩ := hp
  have q1 := p1.1.1
  have q3 := (p1.2.2.1 c p2'.1 p2'.2).1
  show (w32 (bi (w32 0 ≤ w32 d ∧ w32 d ≤ w32 6)) = w32 0 → ((w32 0 = w32 0 → ((0 ≤ 6 ∧ 6 ≤ 12) ∧ ((w32 (bi (0 ≤ w32 d ∧ w32 d ≤ 6 ∧ 0 ≤ w32 q ∧ w32 q < p2 (w32 d))) = w32 0 → (K (some (some (vL (-1)))) F A)) ∧ (¬ (w32 (bi (0 ≤ w32 d ∧ w32 d ≤ 6 ∧ 0 ≤ w32 q ∧ w32 q < p2 (w32 d))) = w32 0) → ((0 ≤ c ∧ c < 8 ∧ 2 ≤ A 2 (18 + c) ∧ A 2 (18 + c) ≤ 4 ∧ 0 ≤ d ∧ d ≤ 6 ∧ caOK A c) ∧ (∀ (B_1 : AA), (grQ A B_1 c d) → ((w32 0 = w32 0 → ((w32 0 = w32 0 → ((0 ≤ c ∧ c < 8 ∧ 0 ≤ (x_shl 1 d - 1 + q) ∧ (x_shl 1 d - 1 + q) < 127 ∧ 0 ≤ w ∧ w ≤ 2 ∧ 0 ≤ 0 ∧ 0 < 4) ∧ ((0 ≤ c ∧ c < 8 ∧ 0 ≤ (x_shl 1 d - 1 + q) ∧ (x_shl 1 d - 1 + q) < 127 ∧ 0 ≤ 2 ∧ 2 ≤ 2 ∧ 0 ≤ 0 ∧ 0 < 4) ∧ (((0 ≤ (B_1 10 (((c * 127 + (x_shl 1 d - 1 + q)) * 3 + w) * 4 + 0)) ∧ (B_1 10 (((c * 127 + (x_shl 1 d - 1 + q)) * 3 + w) * 4 + 0)) < 2147483648) ∧ 0 ≤ (B_1 10 (((c * 127 + (x_shl 1 d - 1 + q)) * 3 + 2) * 4 + 0)) ∧ (B_1 10 (((c * 127 + (x_shl 1 d - 1 + q)) * 3 + 2) * 4 + 0)) < 2147483648) ∧ ((w32 0 < w32 (y_cmp (Int.gcd (B_1 10 (((c * 127 + (x_shl 1 d - 1 + q)) * 3 + w) * 4 + 0)) (B_1 10 (((c * 127 + (x_shl 1 d - 1 + q)) * 3 + 2) * 4 + 0)) : Int) 0) → ((w32 z = w32 0 → ((w64 (Int.gcd (B_1 10 (((c * 127 + (x_shl 1 d - 1 + q)) * 3 + w) * 4 + 0)) (B_1 10 (((c * 127 + (x_shl 1 d - 1 + q)) * 3 + 2) * 4 + 0)) : Int) ≠ 0) ∧ (K (some (some (vL (y_div (B_1 10 (((c * 127 + (x_shl 1 d - 1 + q)) * 3 + w) * 4 + 0)) (Int.gcd (B_1 10 (((c * 127 + (x_shl 1 d - 1 + q)) * 3 + w) * 4 + 0)) (B_1 10 (((c * 127 + (x_shl 1 d - 1 + q)) * 3 + 2) * 4 + 0)) : Int))))) F B_1))) ∧ (¬ w32 z = w32 0 → ((w64 (Int.gcd (B_1 10 (((c * 127 + (x_shl 1 d - 1 + q)) * 3 + w) * 4 + 0)) (B_1 10 (((c * 127 + (x_shl 1 d - 1 + q)) * 3 + 2) * 4 + 0)) : Int) ≠ 0) ∧ (K (some (some (vL (y_div (B_1 10 (((c * 127 + (x_shl 1 d - 1 + q)) * 3 + 2) * 4 + 0)) (Int.gcd (B_1 10 (((c * 127 + (x_shl 1 d - 1 + q)) * 3 + w) * 4 + 0)) (B_1 10 (((c * 127 + (x_shl 1 d - 1 + q)) * 3 + 2) * 4 + 0)) : Int))))) F B_1))))) ∧ (¬ w32 0 < w32 (y_cmp (Int.gcd (B_1 10 (((c * 127 + (x_shl 1 d - 1 + q)) * 3 + w) * 4 + 0)) (B_1 10 (((c * 127 + (x_shl 1 d - 1 + q)) * 3 + 2) * 4 + 0)) : Int) 0) → (K (some (some (vL (-1)))) F B_1))))))) ∧ (¬ w32 0 = w32 0 → _))) ∧ (¬ w32 0 = w32 0 → _)))))))) ∧ (¬ w32 0 = w32 0 → _))) ∧ (¬ (w32 (bi (w32 0 ≤ w32 d ∧ w32 d ≤ w32 6)) = w32 0) → ((w32 q = w32 (x_shl 1 d) → ((w32 1 = w32 0 → _) ∧ (¬ w32 1 = w32 0 → ((0 ≤ c ∧ c < 8 ∧ 2 ≤ A 2 (18 + c) ∧ A 2 (18 + c) ≤ 4 ∧ 0 ≤ d ∧ d ≤ 6 ∧ caOK A c) ∧ (∀ (B_1 : AA), (grQ A B_1 c d) → ((w32 1 = w32 0 → _) ∧ (¬ w32 1 = w32 0 → ((w32 1 = w32 0 → _) ∧ (¬ w32 1 = w32 0 → ((0 ≤ c ∧ c < 8 ∧ 0 ≤ (x_shl 1 d - 1 + (q - 1)) ∧ (x_shl 1 d - 1 + (q - 1)) < 127 ∧ 0 ≤ w ∧ w ≤ 2 ∧ 0 ≤ (fat (B_1 2) (18 + c) - 1) ∧ (fat (B_1 2) (18 + c) - 1) < 4) ∧ ((0 ≤ c ∧ c < 8 ∧ 0 ≤ (x_shl 1 d - 1 + (q - 1)) ∧ (x_shl 1 d - 1 + (q - 1)) < 127 ∧ 0 ≤ 2 ∧ 2 ≤ 2 ∧ 0 ≤ (fat (B_1 2) (18 + c) - 1) ∧ (fat (B_1 2) (18 + c) - 1) < 4) ∧ (((0 ≤ (B_1 10 (((c * 127 + (x_shl 1 d - 1 + (q - 1))) * 3 + w) * 4 + (fat (B_1 2) (18 + c) - 1))) ∧ (B_1 10 (((c * 127 + (x_shl 1 d - 1 + (q - 1))) * 3 + w) * 4 + (fat (B_1 2) (18 + c) - 1))) < 2147483648) ∧ 0 ≤ (B_1 10 (((c * 127 + (x_shl 1 d - 1 + (q - 1))) * 3 + 2) * 4 + (fat (B_1 2) (18 + c) - 1))) ∧ (B_1 10 (((c * 127 + (x_shl 1 d - 1 + (q - 1))) * 3 + 2) * 4 + (fat (B_1 2) (18 + c) - 1))) < 2147483648) ∧ ((w32 0 < w32 (y_cmp (Int.gcd (B_1 10 (((c * 127 + (x_shl 1 d - 1 + (q - 1))) * 3 + w) * 4 + (fat (B_1 2) (18 + c) - 1))) (B_1 10 (((c * 127 + (x_shl 1 d - 1 + (q - 1))) * 3 + 2) * 4 + (fat (B_1 2) (18 + c) - 1))) : Int) 0) → ((w32 z = w32 0 → ((w64 (Int.gcd (B_1 10 (((c * 127 + (x_shl 1 d - 1 + (q - 1))) * 3 + w) * 4 + (fat (B_1 2) (18 + c) - 1))) (B_1 10 (((c * 127 + (x_shl 1 d - 1 + (q - 1))) * 3 + 2) * 4 + (fat (B_1 2) (18 + c) - 1))) : Int) ≠ 0) ∧ (K (some (some (vL (y_div (B_1 10 (((c * 127 + (x_shl 1 d - 1 + (q - 1))) * 3 + w) * 4 + (fat (B_1 2) (18 + c) - 1))) (Int.gcd (B_1 10 (((c * 127 + (x_shl 1 d - 1 + (q - 1))) * 3 + w) * 4 + (fat (B_1 2) (18 + c) - 1))) (B_1 10 (((c * 127 + (x_shl 1 d - 1 + (q - 1))) * 3 + 2) * 4 + (fat (B_1 2) (18 + c) - 1))) : Int))))) F B_1))) ∧ (¬ w32 z = w32 0 → ((w64 (Int.gcd (B_1 10 (((c * 127 + (x_shl 1 d - 1 + (q - 1))) * 3 + w) * 4 + (fat (B_1 2) (18 + c) - 1))) (B_1 10 (((c * 127 + (x_shl 1 d - 1 + (q - 1))) * 3 + 2) * 4 + (fat (B_1 2) (18 + c) - 1))) : Int) ≠ 0) ∧ (K (some (some (vL (y_div (B_1 10 (((c * 127 + (x_shl 1 d - 1 + (q - 1))) * 3 + 2) * 4 + (fat (B_1 2) (18 + c) - 1))) (Int.gcd (B_1 10 (((c * 127 + (x_shl 1 d - 1 + (q - 1))) * 3 + w) * 4 + (fat (B_1 2) (18 + c) - 1))) (B_1 10 (((c * 127 + (x_shl 1 d - 1 + (q - 1))) * 3 + 2) * 4 + (fat (B_1 2) (18 + c) - 1))) : Int))))) F B_1))))) ∧ (¬ w32 0 < w32 (y_cmp (Int.gcd (B_1 10 (((c * 127 + (x_shl 1 d - 1 + (q - 1))) * 3 + w) * 4 + (fat (B_1 2) (18 + c) - 1))) (B_1 10 (((c * 127 + (x_shl 1 d - 1 + (q - 1))) * 3 + 2) * 4 + (fat (B_1 2) (18 + c) - 1))) : Int) 0) → (K (some (some (vL (-1)))) F B_1))))))))))))))) ∧ (¬ w32 q = w32 (x_shl 1 d) → ((w32 0 = w32 0 → ((0 ≤ 6 ∧ 6 ≤ 12) ∧ ((w32 (bi (0 ≤ w32 d ∧ w32 d ≤ 6 ∧ 0 ≤ w32 q ∧ w32 q < p2 (w32 d))) = w32 0 → (K (some (some (vL (-1)))) F A)) ∧ (¬ (w32 (bi (0 ≤ w32 d ∧ w32 d ≤ 6 ∧ 0 ≤ w32 q ∧ w32 q < p2 (w32 d))) = w32 0) → ((0 ≤ c ∧ c < 8 ∧ 2 ≤ A 2 (18 + c) ∧ A 2 (18 + c) ≤ 4 ∧ 0 ≤ d ∧ d ≤ 6 ∧ caOK A c) ∧ (∀ (B_1 : AA), (grQ A B_1 c d) → ((w32 0 = w32 0 → ((w32 0 = w32 0 → ((0 ≤ c ∧ c < 8 ∧ 0 ≤ (x_shl 1 d - 1 + q) ∧ (x_shl 1 d - 1 + q) < 127 ∧ 0 ≤ w ∧ w ≤ 2 ∧ 0 ≤ 0 ∧ 0 < 4) ∧ ((0 ≤ c ∧ c < 8 ∧ 0 ≤ (x_shl 1 d - 1 + q) ∧ (x_shl 1 d - 1 + q) < 127 ∧ 0 ≤ 2 ∧ 2 ≤ 2 ∧ 0 ≤ 0 ∧ 0 < 4) ∧ (((0 ≤ (B_1 10 (((c * 127 + (x_shl 1 d - 1 + q)) * 3 + w) * 4 + 0)) ∧ (B_1 10 (((c * 127 + (x_shl 1 d - 1 + q)) * 3 + w) * 4 + 0)) < 2147483648) ∧ 0 ≤ (B_1 10 (((c * 127 + (x_shl 1 d - 1 + q)) * 3 + 2) * 4 + 0)) ∧ (B_1 10 (((c * 127 + (x_shl 1 d - 1 + q)) * 3 + 2) * 4 + 0)) < 2147483648) ∧ ((w32 0 < w32 (y_cmp (Int.gcd (B_1 10 (((c * 127 + (x_shl 1 d - 1 + q)) * 3 + w) * 4 + 0)) (B_1 10 (((c * 127 + (x_shl 1 d - 1 + q)) * 3 + 2) * 4 + 0)) : Int) 0) → ((w32 z = w32 0 → ((w64 (Int.gcd (B_1 10 (((c * 127 + (x_shl 1 d - 1 + q)) * 3 + w) * 4 + 0)) (B_1 10 (((c * 127 + (x_shl 1 d - 1 + q)) * 3 + 2) * 4 + 0)) : Int) ≠ 0) ∧ (K (some (some (vL (y_div (B_1 10 (((c * 127 + (x_shl 1 d - 1 + q)) * 3 + w) * 4 + 0)) (Int.gcd (B_1 10 (((c * 127 + (x_shl 1 d - 1 + q)) * 3 + w) * 4 + 0)) (B_1 10 (((c * 127 + (x_shl 1 d - 1 + q)) * 3 + 2) * 4 + 0)) : Int))))) F B_1))) ∧ (¬ w32 z = w32 0 → ((w64 (Int.gcd (B_1 10 (((c * 127 + (x_shl 1 d - 1 + q)) * 3 + w) * 4 + 0)) (B_1 10 (((c * 127 + (x_shl 1 d - 1 + q)) * 3 + 2) * 4 + 0)) : Int) ≠ 0) ∧ (K (some (some (vL (y_div (B_1 10 (((c * 127 + (x_shl 1 d - 1 + q)) * 3 + 2) * 4 + 0)) (Int.gcd (B_1 10 (((c * 127 + (x_shl 1 d - 1 + q)) * 3 + w) * 4 + 0)) (B_1 10 (((c * 127 + (x_shl 1 d - 1 + q)) * 3 + 2) * 4 + 0)) : Int))))) F B_1))))) ∧ (¬ w32 0 < w32 (y_cmp (Int.gcd (B_1 10 (((c * 127 + (x_shl 1 d - 1 + q)) * 3 + w) * 4 + 0)) (B_1 10 (((c * 127 + (x_shl 1 d - 1 + q)) * 3 + 2) * 4 + 0)) : Int) 0) → (K (some (some (vL (-1)))) F B_1))))))) ∧ (¬ w32 0 = w32 0 → _))) ∧ (¬ w32 0 = w32 0 → _)))))))) ∧ (¬ w32 0 = w32 0 → _)))))
  refine ⟨fun c1 => ?_, fun c1 => ?_⟩
  · skip
    (try simp (disch := omega) only [w32_0, wbi0, Classical.not_not, w32_id] at c1); (try (have P6 := p2_le (show d ≤ 6 by omega); rw [p2_6] at P6)); (try (have P7 := @p2_pos d)); (try simp (disch := omega) only [x_shl1, x_rem_eq, w32_0, w64_0, wbi0, Classical.not_not, w32_id, yc_eq0, yc_gt0, yc_lt0, w64_id] at c1)
    refine ⟨fun _ => ?_, fun q => absurd (by decide) q⟩
    refine ⟨by exact ⟨by decide, by decide⟩, ?_⟩
    refine ⟨fun c2 => ?_, fun c2 => ?_⟩
    · skip
      (try simp (disch := omega) only [w32_0, wbi0, Classical.not_not, w32_id] at c2); (try (have P6 := p2_le (show d ≤ 6 by omega); rw [p2_6] at P6)); (try (have P7 := @p2_pos d)); (try simp (disch := omega) only [x_shl1, x_rem_eq, w32_0, w64_0, wbi0, Classical.not_not, w32_id, yc_eq0, yc_gt0, yc_lt0, w64_id] at c2)
      first
      | exact L_eq (h _ _ qrP_id) (if_neg (by omega))
      | (exfalso; omega)
      | (refine L_eq (h _ _ qG) ?_
         rw [if_pos (by omega), y_div_eq (by omega) (by omega) (by omega) (by omega)]
         unfold plF
         first
         | (rw [if_pos (show z = 0 by omega), if_pos (show q = p2 d by omega), if_pos (show q = p2 d by omega), hX, hW, hG]; done)
         | (rw [if_neg (show ¬ z = 0 by omega), if_pos (show q = p2 d by omega), if_pos (show q = p2 d by omega), hX, hW, hG]; done)
         | (rw [if_pos (show z = 0 by omega), if_neg (show ¬ q = p2 d by omega), if_neg (show ¬ q = p2 d by omega), hX, hW, hG]; done)
         | (rw [if_neg (show ¬ z = 0 by omega), if_neg (show ¬ q = p2 d by omega), if_neg (show ¬ q = p2 d by omega), hX, hW, hG]; done))
    · skip
      (try simp (disch := omega) only [w32_0, wbi0, Classical.not_not, w32_id] at c2); (try (have P6 := p2_le (show d ≤ 6 by omega); rw [p2_6] at P6)); (try (have P7 := @p2_pos d)); (try simp (disch := omega) only [x_shl1, x_rem_eq, w32_0, w64_0, wbi0, Classical.not_not, w32_id, yc_eq0, yc_gt0, yc_lt0, w64_id] at c2)
      refine ⟨by first | exact ⟨by decide, by decide⟩ | exact ⟨by omega, by omega, by omega, by omega, by omega, by omega, p7 c p2'.1 (by omega)⟩ | (simp only [esh]; have n9 := ndr (d := d) (q := q) (by omega) (by omega) (by omega); omega) | (simp only [esh]; have n9 := ndr (d := d) (q := q - 1) (by omega) (by omega) (by omega); omega) | (rw [w64_id (by omega) (by omega)]; omega) | omega, ?_⟩
      intro B_1 g1
      have hB := grQ_f g1
      have qG := qrP_gr (F := F) (G := F) (fun _ _ _ => rfl) g1
      have hd0 : 0 ≤ d ∧ d ≤ 6 := by omega
      have esh : x_shl 1 d = p2 d := x_shl1 (by omega) (by omega)
      have P6 := p2_le hd0.2
      rw [p2_6] at P6
      have P7 := @p2_pos d
      have ft : fat (A 2) (18 + c) - 1 = A 2 (18 + c) - 1 := by rw [fat_in (by omega) (by omega)]
      have nd := fun (qq ww kk : Int) (a0 : 0 ≤ qq) (a1 : qq < p2 d) (b0 : 0 ≤ ww) (b1 : ww ≤ 2) (k0 : 0 ≤ kk) (k1 : kk < A 2 (18 + c)) => nd_cell' (k := kk) g1.2.1 g1.2.2.1 (by rw [hB]; omega) (by omega) (by omega) a0 a1 b0 b1 k0 (by rw [hB]; omega)
      have cb := fun (qq ww kk : Int) (b0 : 0 ≤ ww) (b1 : ww ≤ 2) (k0 : 0 ≤ kk) (k1 : kk < A 2 (18 + c)) => ceX_b (q := qq) (d := d.toNat) (w := ww) p1 (by omega) p2'.1 p2'.2 k0 k1 b0 b1
      first
      | (simp only [esh, hB, ft]; rw [nd (q - 1) w (A 2 (18 + c) - 1) (by omega) (by omega) (by omega) (by omega) (by omega) (by omega), nd (q - 1) 2 (A 2 (18 + c) - 1) (by omega) (by omega) (by omega) (by omega) (by omega) (by omega), hB]
         have X1 := cb (q - 1) w (A 2 (18 + c) - 1) (by omega) (by omega) (by omega) (by omega)
         have X2 := (cb (q - 1) 2 (A 2 (18 + c) - 1) (by omega) (by omega) (by omega) (by omega)).2.2 rfl
         generalize hX : ceX (A 2) c d.toNat (q - 1) w (A 2 (18 + c) - 1) = X at X1 ⊢
         generalize hW : ceX (A 2) c d.toNat (q - 1) 2 (A 2 (18 + c) - 1) = W at X2 ⊢
         have hg := gcd_b (X := X) (show 0 < W by omega)
         generalize hG : (Int.gcd X W : Int) = g at hg ⊢)
      | (simp only [esh, hB, ft]; rw [nd (q) w (0) (by omega) (by omega) (by omega) (by omega) (by omega) (by omega), nd (q) 2 (0) (by omega) (by omega) (by omega) (by omega) (by omega) (by omega), hB]
         have X1 := cb (q) w (0) (by omega) (by omega) (by omega) (by omega)
         have X2 := (cb (q) 2 (0) (by omega) (by omega) (by omega) (by omega)).2.2 rfl
         generalize hX : ceX (A 2) c d.toNat (q) w (0) = X at X1 ⊢
         generalize hW : ceX (A 2) c d.toNat (q) 2 (0) = W at X2 ⊢
         have hg := gcd_b (X := X) (show 0 < W by omega)
         generalize hG : (Int.gcd X W : Int) = g at hg ⊢)
      refine ⟨fun _ => ?_, fun q => absurd (by decide) q⟩
      refine ⟨fun _ => ?_, fun q => absurd (by decide) q⟩
      refine ⟨by first | exact ⟨by decide, by decide⟩ | exact ⟨by omega, by omega, by omega, by omega, by omega, by omega, p7 c p2'.1 (by omega)⟩ | (simp only [esh]; have n9 := ndr (d := d) (q := q) (by omega) (by omega) (by omega); omega) | (simp only [esh]; have n9 := ndr (d := d) (q := q - 1) (by omega) (by omega) (by omega); omega) | (rw [w64_id (by omega) (by omega)]; omega) | omega, ?_⟩
      refine ⟨by first | exact ⟨by decide, by decide⟩ | exact ⟨by omega, by omega, by omega, by omega, by omega, by omega, p7 c p2'.1 (by omega)⟩ | (simp only [esh]; have n9 := ndr (d := d) (q := q) (by omega) (by omega) (by omega); omega) | (simp only [esh]; have n9 := ndr (d := d) (q := q - 1) (by omega) (by omega) (by omega); omega) | (rw [w64_id (by omega) (by omega)]; omega) | omega, ?_⟩
      refine ⟨by first | exact ⟨by decide, by decide⟩ | exact ⟨by omega, by omega, by omega, by omega, by omega, by omega, p7 c p2'.1 (by omega)⟩ | (simp only [esh]; have n9 := ndr (d := d) (q := q) (by omega) (by omega) (by omega); omega) | (simp only [esh]; have n9 := ndr (d := d) (q := q - 1) (by omega) (by omega) (by omega); omega) | (rw [w64_id (by omega) (by omega)]; omega) | omega, ?_⟩
      refine ⟨fun c3 => ?_, fun c3 => ?_⟩
      · skip
        (try simp (disch := omega) only [w32_0, wbi0, Classical.not_not, w32_id] at c3); (try (have P6 := p2_le (show d ≤ 6 by omega); rw [p2_6] at P6)); (try (have P7 := @p2_pos d)); (try simp (disch := omega) only [x_shl1, x_rem_eq, w32_0, w64_0, wbi0, Classical.not_not, w32_id, yc_eq0, yc_gt0, yc_lt0, w64_id] at c3)
        refine ⟨fun c4 => ?_, fun c4 => ?_⟩
        · skip
          (try simp (disch := omega) only [w32_0, wbi0, Classical.not_not, w32_id] at c4); (try (have P6 := p2_le (show d ≤ 6 by omega); rw [p2_6] at P6)); (try (have P7 := @p2_pos d)); (try simp (disch := omega) only [x_shl1, x_rem_eq, w32_0, w64_0, wbi0, Classical.not_not, w32_id, yc_eq0, yc_gt0, yc_lt0, w64_id] at c4)
          refine ⟨by first | exact ⟨by decide, by decide⟩ | exact ⟨by omega, by omega, by omega, by omega, by omega, by omega, p7 c p2'.1 (by omega)⟩ | (simp only [esh]; have n9 := ndr (d := d) (q := q) (by omega) (by omega) (by omega); omega) | (simp only [esh]; have n9 := ndr (d := d) (q := q - 1) (by omega) (by omega) (by omega); omega) | (rw [w64_id (by omega) (by omega)]; omega) | omega, ?_⟩
          first
          | exact L_eq (h _ _ qrP_id) (if_neg (by omega))
          | (exfalso; omega)
          | (refine L_eq (h _ _ qG) ?_
             rw [if_pos (by omega), y_div_eq (by omega) (by omega) (by omega) (by omega)]
             unfold plF
             first
             | (rw [if_pos (show z = 0 by omega), if_pos (show q = p2 d by omega), if_pos (show q = p2 d by omega), hX, hW, hG]; done)
             | (rw [if_neg (show ¬ z = 0 by omega), if_pos (show q = p2 d by omega), if_pos (show q = p2 d by omega), hX, hW, hG]; done)
             | (rw [if_pos (show z = 0 by omega), if_neg (show ¬ q = p2 d by omega), if_neg (show ¬ q = p2 d by omega), hX, hW, hG]; done)
             | (rw [if_neg (show ¬ z = 0 by omega), if_neg (show ¬ q = p2 d by omega), if_neg (show ¬ q = p2 d by omega), hX, hW, hG]; done))
        · skip
          (try simp (disch := omega) only [w32_0, wbi0, Classical.not_not, w32_id] at c4); (try (have P6 := p2_le (show d ≤ 6 by omega); rw [p2_6] at P6)); (try (have P7 := @p2_pos d)); (try simp (disch := omega) only [x_shl1, x_rem_eq, w32_0, w64_0, wbi0, Classical.not_not, w32_id, yc_eq0, yc_gt0, yc_lt0, w64_id] at c4)
          refine ⟨by first | exact ⟨by decide, by decide⟩ | exact ⟨by omega, by omega, by omega, by omega, by omega, by omega, p7 c p2'.1 (by omega)⟩ | (simp only [esh]; have n9 := ndr (d := d) (q := q) (by omega) (by omega) (by omega); omega) | (simp only [esh]; have n9 := ndr (d := d) (q := q - 1) (by omega) (by omega) (by omega); omega) | (rw [w64_id (by omega) (by omega)]; omega) | omega, ?_⟩
          first
          | exact L_eq (h _ _ qrP_id) (if_neg (by omega))
          | (exfalso; omega)
          | (refine L_eq (h _ _ qG) ?_
             rw [if_pos (by omega), y_div_eq (by omega) (by omega) (by omega) (by omega)]
             unfold plF
             first
             | (rw [if_pos (show z = 0 by omega), if_pos (show q = p2 d by omega), if_pos (show q = p2 d by omega), hX, hW, hG]; done)
             | (rw [if_neg (show ¬ z = 0 by omega), if_pos (show q = p2 d by omega), if_pos (show q = p2 d by omega), hX, hW, hG]; done)
             | (rw [if_pos (show z = 0 by omega), if_neg (show ¬ q = p2 d by omega), if_neg (show ¬ q = p2 d by omega), hX, hW, hG]; done)
             | (rw [if_neg (show ¬ z = 0 by omega), if_neg (show ¬ q = p2 d by omega), if_neg (show ¬ q = p2 d by omega), hX, hW, hG]; done))
      · skip
        (try simp (disch := omega) only [w32_0, wbi0, Classical.not_not, w32_id] at c3); (try (have P6 := p2_le (show d ≤ 6 by omega); rw [p2_6] at P6)); (try (have P7 := @p2_pos d)); (try simp (disch := omega) only [x_shl1, x_rem_eq, w32_0, w64_0, wbi0, Classical.not_not, w32_id, yc_eq0, yc_gt0, yc_lt0, w64_id] at c3)
        first
        | exact L_eq (h _ _ qrP_id) (if_neg (by omega))
        | (exfalso; omega)
        | (refine L_eq (h _ _ qG) ?_
           rw [if_pos (by omega), y_div_eq (by omega) (by omega) (by omega) (by omega)]
           unfold plF
           first
           | (rw [if_pos (show z = 0 by omega), if_pos (show q = p2 d by omega), if_pos (show q = p2 d by omega), hX, hW, hG]; done)
           | (rw [if_neg (show ¬ z = 0 by omega), if_pos (show q = p2 d by omega), if_pos (show q = p2 d by omega), hX, hW, hG]; done)
           | (rw [if_pos (show z = 0 by omega), if_neg (show ¬ q = p2 d by omega), if_neg (show ¬ q = p2 d by omega), hX, hW, hG]; done)
           | (rw [if_neg (show ¬ z = 0 by omega), if_neg (show ¬ q = p2 d by omega), if_neg (show ¬ q = p2 d by omega), hX, hW, hG]; done))
  · skip
    (try simp (disch := omega) only [w32_0, wbi0, Classical.not_not, w32_id] at c1); (try (have P6 := p2_le (show d ≤ 6 by omega); rw [p2_6] at P6)); (try (have P7 := @p2_pos d)); (try simp (disch := omega) only [x_shl1, x_rem_eq, w32_0, w64_0, wbi0, Classical.not_not, w32_id, yc_eq0, yc_gt0, yc_lt0, w64_id] at c1)
    refine ⟨fun c2 => ?_, fun c2 => ?_⟩
    · skip
      (try simp (disch := omega) only [w32_0, wbi0, Classical.not_not, w32_id] at c2); (try (have P6 := p2_le (show d ≤ 6 by omega); rw [p2_6] at P6)); (try (have P7 := @p2_pos d)); (try simp (disch := omega) only [x_shl1, x_rem_eq, w32_0, w64_0, wbi0, Classical.not_not, w32_id, yc_eq0, yc_gt0, yc_lt0, w64_id] at c2)
      refine ⟨fun q => absurd q (by decide), fun _ => ?_⟩
      refine ⟨by first | exact ⟨by decide, by decide⟩ | exact ⟨by omega, by omega, by omega, by omega, by omega, by omega, p7 c p2'.1 (by omega)⟩ | (simp only [esh]; have n9 := ndr (d := d) (q := q) (by omega) (by omega) (by omega); omega) | (simp only [esh]; have n9 := ndr (d := d) (q := q - 1) (by omega) (by omega) (by omega); omega) | (rw [w64_id (by omega) (by omega)]; omega) | omega, ?_⟩
      intro B_1 g1
      have hB := grQ_f g1
      have qG := qrP_gr (F := F) (G := F) (fun _ _ _ => rfl) g1
      have hd0 : 0 ≤ d ∧ d ≤ 6 := by omega
      have esh : x_shl 1 d = p2 d := x_shl1 (by omega) (by omega)
      have P6 := p2_le hd0.2
      rw [p2_6] at P6
      have P7 := @p2_pos d
      have ft : fat (A 2) (18 + c) - 1 = A 2 (18 + c) - 1 := by rw [fat_in (by omega) (by omega)]
      have nd := fun (qq ww kk : Int) (a0 : 0 ≤ qq) (a1 : qq < p2 d) (b0 : 0 ≤ ww) (b1 : ww ≤ 2) (k0 : 0 ≤ kk) (k1 : kk < A 2 (18 + c)) => nd_cell' (k := kk) g1.2.1 g1.2.2.1 (by rw [hB]; omega) (by omega) (by omega) a0 a1 b0 b1 k0 (by rw [hB]; omega)
      have cb := fun (qq ww kk : Int) (b0 : 0 ≤ ww) (b1 : ww ≤ 2) (k0 : 0 ≤ kk) (k1 : kk < A 2 (18 + c)) => ceX_b (q := qq) (d := d.toNat) (w := ww) p1 (by omega) p2'.1 p2'.2 k0 k1 b0 b1
      first
      | (simp only [esh, hB, ft]; rw [nd (q - 1) w (A 2 (18 + c) - 1) (by omega) (by omega) (by omega) (by omega) (by omega) (by omega), nd (q - 1) 2 (A 2 (18 + c) - 1) (by omega) (by omega) (by omega) (by omega) (by omega) (by omega), hB]
         have X1 := cb (q - 1) w (A 2 (18 + c) - 1) (by omega) (by omega) (by omega) (by omega)
         have X2 := (cb (q - 1) 2 (A 2 (18 + c) - 1) (by omega) (by omega) (by omega) (by omega)).2.2 rfl
         generalize hX : ceX (A 2) c d.toNat (q - 1) w (A 2 (18 + c) - 1) = X at X1 ⊢
         generalize hW : ceX (A 2) c d.toNat (q - 1) 2 (A 2 (18 + c) - 1) = W at X2 ⊢
         have hg := gcd_b (X := X) (show 0 < W by omega)
         generalize hG : (Int.gcd X W : Int) = g at hg ⊢)
      | (simp only [esh, hB, ft]; rw [nd (q) w (0) (by omega) (by omega) (by omega) (by omega) (by omega) (by omega), nd (q) 2 (0) (by omega) (by omega) (by omega) (by omega) (by omega) (by omega), hB]
         have X1 := cb (q) w (0) (by omega) (by omega) (by omega) (by omega)
         have X2 := (cb (q) 2 (0) (by omega) (by omega) (by omega) (by omega)).2.2 rfl
         generalize hX : ceX (A 2) c d.toNat (q) w (0) = X at X1 ⊢
         generalize hW : ceX (A 2) c d.toNat (q) 2 (0) = W at X2 ⊢
         have hg := gcd_b (X := X) (show 0 < W by omega)
         generalize hG : (Int.gcd X W : Int) = g at hg ⊢)
      refine ⟨fun q => absurd q (by decide), fun _ => ?_⟩
      refine ⟨fun q => absurd q (by decide), fun _ => ?_⟩
      refine ⟨by first | exact ⟨by decide, by decide⟩ | exact ⟨by omega, by omega, by omega, by omega, by omega, by omega, p7 c p2'.1 (by omega)⟩ | (simp only [esh]; have n9 := ndr (d := d) (q := q) (by omega) (by omega) (by omega); omega) | (simp only [esh]; have n9 := ndr (d := d) (q := q - 1) (by omega) (by omega) (by omega); omega) | (rw [w64_id (by omega) (by omega)]; omega) | omega, ?_⟩
      refine ⟨by first | exact ⟨by decide, by decide⟩ | exact ⟨by omega, by omega, by omega, by omega, by omega, by omega, p7 c p2'.1 (by omega)⟩ | (simp only [esh]; have n9 := ndr (d := d) (q := q) (by omega) (by omega) (by omega); omega) | (simp only [esh]; have n9 := ndr (d := d) (q := q - 1) (by omega) (by omega) (by omega); omega) | (rw [w64_id (by omega) (by omega)]; omega) | omega, ?_⟩
      refine ⟨by first | exact ⟨by decide, by decide⟩ | exact ⟨by omega, by omega, by omega, by omega, by omega, by omega, p7 c p2'.1 (by omega)⟩ | (simp only [esh]; have n9 := ndr (d := d) (q := q) (by omega) (by omega) (by omega); omega) | (simp only [esh]; have n9 := ndr (d := d) (q := q - 1) (by omega) (by omega) (by omega); omega) | (rw [w64_id (by omega) (by omega)]; omega) | omega, ?_⟩
      refine ⟨fun c3 => ?_, fun c3 => ?_⟩
      · skip
        (try simp (disch := omega) only [w32_0, wbi0, Classical.not_not, w32_id] at c3); (try (have P6 := p2_le (show d ≤ 6 by omega); rw [p2_6] at P6)); (try (have P7 := @p2_pos d)); (try simp (disch := omega) only [x_shl1, x_rem_eq, w32_0, w64_0, wbi0, Classical.not_not, w32_id, yc_eq0, yc_gt0, yc_lt0, w64_id] at c3)
        refine ⟨fun c4 => ?_, fun c4 => ?_⟩
        · skip
          (try simp (disch := omega) only [w32_0, wbi0, Classical.not_not, w32_id] at c4); (try (have P6 := p2_le (show d ≤ 6 by omega); rw [p2_6] at P6)); (try (have P7 := @p2_pos d)); (try simp (disch := omega) only [x_shl1, x_rem_eq, w32_0, w64_0, wbi0, Classical.not_not, w32_id, yc_eq0, yc_gt0, yc_lt0, w64_id] at c4)
          refine ⟨by first | exact ⟨by decide, by decide⟩ | exact ⟨by omega, by omega, by omega, by omega, by omega, by omega, p7 c p2'.1 (by omega)⟩ | (simp only [esh]; have n9 := ndr (d := d) (q := q) (by omega) (by omega) (by omega); omega) | (simp only [esh]; have n9 := ndr (d := d) (q := q - 1) (by omega) (by omega) (by omega); omega) | (rw [w64_id (by omega) (by omega)]; omega) | omega, ?_⟩
          first
          | exact L_eq (h _ _ qrP_id) (if_neg (by omega))
          | (exfalso; omega)
          | (refine L_eq (h _ _ qG) ?_
             rw [if_pos (by omega), y_div_eq (by omega) (by omega) (by omega) (by omega)]
             unfold plF
             first
             | (rw [if_pos (show z = 0 by omega), if_pos (show q = p2 d by omega), if_pos (show q = p2 d by omega), hX, hW, hG]; done)
             | (rw [if_neg (show ¬ z = 0 by omega), if_pos (show q = p2 d by omega), if_pos (show q = p2 d by omega), hX, hW, hG]; done)
             | (rw [if_pos (show z = 0 by omega), if_neg (show ¬ q = p2 d by omega), if_neg (show ¬ q = p2 d by omega), hX, hW, hG]; done)
             | (rw [if_neg (show ¬ z = 0 by omega), if_neg (show ¬ q = p2 d by omega), if_neg (show ¬ q = p2 d by omega), hX, hW, hG]; done))
        · skip
          (try simp (disch := omega) only [w32_0, wbi0, Classical.not_not, w32_id] at c4); (try (have P6 := p2_le (show d ≤ 6 by omega); rw [p2_6] at P6)); (try (have P7 := @p2_pos d)); (try simp (disch := omega) only [x_shl1, x_rem_eq, w32_0, w64_0, wbi0, Classical.not_not, w32_id, yc_eq0, yc_gt0, yc_lt0, w64_id] at c4)
          refine ⟨by first | exact ⟨by decide, by decide⟩ | exact ⟨by omega, by omega, by omega, by omega, by omega, by omega, p7 c p2'.1 (by omega)⟩ | (simp only [esh]; have n9 := ndr (d := d) (q := q) (by omega) (by omega) (by omega); omega) | (simp only [esh]; have n9 := ndr (d := d) (q := q - 1) (by omega) (by omega) (by omega); omega) | (rw [w64_id (by omega) (by omega)]; omega) | omega, ?_⟩
          first
          | exact L_eq (h _ _ qrP_id) (if_neg (by omega))
          | (exfalso; omega)
          | (refine L_eq (h _ _ qG) ?_
             rw [if_pos (by omega), y_div_eq (by omega) (by omega) (by omega) (by omega)]
             unfold plF
             first
             | (rw [if_pos (show z = 0 by omega), if_pos (show q = p2 d by omega), if_pos (show q = p2 d by omega), hX, hW, hG]; done)
             | (rw [if_neg (show ¬ z = 0 by omega), if_pos (show q = p2 d by omega), if_pos (show q = p2 d by omega), hX, hW, hG]; done)
             | (rw [if_pos (show z = 0 by omega), if_neg (show ¬ q = p2 d by omega), if_neg (show ¬ q = p2 d by omega), hX, hW, hG]; done)
             | (rw [if_neg (show ¬ z = 0 by omega), if_neg (show ¬ q = p2 d by omega), if_neg (show ¬ q = p2 d by omega), hX, hW, hG]; done))
      · skip
        (try simp (disch := omega) only [w32_0, wbi0, Classical.not_not, w32_id] at c3); (try (have P6 := p2_le (show d ≤ 6 by omega); rw [p2_6] at P6)); (try (have P7 := @p2_pos d)); (try simp (disch := omega) only [x_shl1, x_rem_eq, w32_0, w64_0, wbi0, Classical.not_not, w32_id, yc_eq0, yc_gt0, yc_lt0, w64_id] at c3)
        first
        | exact L_eq (h _ _ qrP_id) (if_neg (by omega))
        | (exfalso; omega)
        | (refine L_eq (h _ _ qG) ?_
           rw [if_pos (by omega), y_div_eq (by omega) (by omega) (by omega) (by omega)]
           unfold plF
           first
           | (rw [if_pos (show z = 0 by omega), if_pos (show q = p2 d by omega), if_pos (show q = p2 d by omega), hX, hW, hG]; done)
           | (rw [if_neg (show ¬ z = 0 by omega), if_pos (show q = p2 d by omega), if_pos (show q = p2 d by omega), hX, hW, hG]; done)
           | (rw [if_pos (show z = 0 by omega), if_neg (show ¬ q = p2 d by omega), if_neg (show ¬ q = p2 d by omega), hX, hW, hG]; done)
           | (rw [if_neg (show ¬ z = 0 by omega), if_neg (show ¬ q = p2 d by omega), if_neg (show ¬ q = p2 d by omega), hX, hW, hG]; done))
    · skip
      (try simp (disch := omega) only [w32_0, wbi0, Classical.not_not, w32_id] at c2); (try (have P6 := p2_le (show d ≤ 6 by omega); rw [p2_6] at P6)); (try (have P7 := @p2_pos d)); (try simp (disch := omega) only [x_shl1, x_rem_eq, w32_0, w64_0, wbi0, Classical.not_not, w32_id, yc_eq0, yc_gt0, yc_lt0, w64_id] at c2)
      refine ⟨fun _ => ?_, fun q => absurd (by decide) q⟩
      refine ⟨by first | exact ⟨by decide, by decide⟩ | exact ⟨by omega, by omega, by omega, by omega, by omega, by omega, p7 c p2'.1 (by omega)⟩ | (simp only [esh]; have n9 := ndr (d := d) (q := q) (by omega) (by omega) (by omega); omega) | (simp only [esh]; have n9 := ndr (d := d) (q := q - 1) (by omega) (by omega) (by omega); omega) | (rw [w64_id (by omega) (by omega)]; omega) | omega, ?_⟩
      refine ⟨fun c3 => ?_, fun c3 => ?_⟩
      · skip
        (try simp (disch := omega) only [w32_0, wbi0, Classical.not_not, w32_id] at c3); (try (have P6 := p2_le (show d ≤ 6 by omega); rw [p2_6] at P6)); (try (have P7 := @p2_pos d)); (try simp (disch := omega) only [x_shl1, x_rem_eq, w32_0, w64_0, wbi0, Classical.not_not, w32_id, yc_eq0, yc_gt0, yc_lt0, w64_id] at c3)
        first
        | exact L_eq (h _ _ qrP_id) (if_neg (by omega))
        | (exfalso; omega)
        | (refine L_eq (h _ _ qG) ?_
           rw [if_pos (by omega), y_div_eq (by omega) (by omega) (by omega) (by omega)]
           unfold plF
           first
           | (rw [if_pos (show z = 0 by omega), if_pos (show q = p2 d by omega), if_pos (show q = p2 d by omega), hX, hW, hG]; done)
           | (rw [if_neg (show ¬ z = 0 by omega), if_pos (show q = p2 d by omega), if_pos (show q = p2 d by omega), hX, hW, hG]; done)
           | (rw [if_pos (show z = 0 by omega), if_neg (show ¬ q = p2 d by omega), if_neg (show ¬ q = p2 d by omega), hX, hW, hG]; done)
           | (rw [if_neg (show ¬ z = 0 by omega), if_neg (show ¬ q = p2 d by omega), if_neg (show ¬ q = p2 d by omega), hX, hW, hG]; done))
      · skip
        (try simp (disch := omega) only [w32_0, wbi0, Classical.not_not, w32_id] at c3); (try (have P6 := p2_le (show d ≤ 6 by omega); rw [p2_6] at P6)); (try (have P7 := @p2_pos d)); (try simp (disch := omega) only [x_shl1, x_rem_eq, w32_0, w64_0, wbi0, Classical.not_not, w32_id, yc_eq0, yc_gt0, yc_lt0, w64_id] at c3)
        refine ⟨by first | exact ⟨by decide, by decide⟩ | exact ⟨by omega, by omega, by omega, by omega, by omega, by omega, p7 c p2'.1 (by omega)⟩ | (simp only [esh]; have n9 := ndr (d := d) (q := q) (by omega) (by omega) (by omega); omega) | (simp only [esh]; have n9 := ndr (d := d) (q := q - 1) (by omega) (by omega) (by omega); omega) | (rw [w64_id (by omega) (by omega)]; omega) | omega, ?_⟩
        intro B_1 g1
        have hB := grQ_f g1
        have qG := qrP_gr (F := F) (G := F) (fun _ _ _ => rfl) g1
        have hd0 : 0 ≤ d ∧ d ≤ 6 := by omega
        have esh : x_shl 1 d = p2 d := x_shl1 (by omega) (by omega)
        have P6 := p2_le hd0.2
        rw [p2_6] at P6
        have P7 := @p2_pos d
        have ft : fat (A 2) (18 + c) - 1 = A 2 (18 + c) - 1 := by rw [fat_in (by omega) (by omega)]
        have nd := fun (qq ww kk : Int) (a0 : 0 ≤ qq) (a1 : qq < p2 d) (b0 : 0 ≤ ww) (b1 : ww ≤ 2) (k0 : 0 ≤ kk) (k1 : kk < A 2 (18 + c)) => nd_cell' (k := kk) g1.2.1 g1.2.2.1 (by rw [hB]; omega) (by omega) (by omega) a0 a1 b0 b1 k0 (by rw [hB]; omega)
        have cb := fun (qq ww kk : Int) (b0 : 0 ≤ ww) (b1 : ww ≤ 2) (k0 : 0 ≤ kk) (k1 : kk < A 2 (18 + c)) => ceX_b (q := qq) (d := d.toNat) (w := ww) p1 (by omega) p2'.1 p2'.2 k0 k1 b0 b1
        first
        | (simp only [esh, hB, ft]; rw [nd (q - 1) w (A 2 (18 + c) - 1) (by omega) (by omega) (by omega) (by omega) (by omega) (by omega), nd (q - 1) 2 (A 2 (18 + c) - 1) (by omega) (by omega) (by omega) (by omega) (by omega) (by omega), hB]
           have X1 := cb (q - 1) w (A 2 (18 + c) - 1) (by omega) (by omega) (by omega) (by omega)
           have X2 := (cb (q - 1) 2 (A 2 (18 + c) - 1) (by omega) (by omega) (by omega) (by omega)).2.2 rfl
           generalize hX : ceX (A 2) c d.toNat (q - 1) w (A 2 (18 + c) - 1) = X at X1 ⊢
           generalize hW : ceX (A 2) c d.toNat (q - 1) 2 (A 2 (18 + c) - 1) = W at X2 ⊢
           have hg := gcd_b (X := X) (show 0 < W by omega)
           generalize hG : (Int.gcd X W : Int) = g at hg ⊢)
        | (simp only [esh, hB, ft]; rw [nd (q) w (0) (by omega) (by omega) (by omega) (by omega) (by omega) (by omega), nd (q) 2 (0) (by omega) (by omega) (by omega) (by omega) (by omega) (by omega), hB]
           have X1 := cb (q) w (0) (by omega) (by omega) (by omega) (by omega)
           have X2 := (cb (q) 2 (0) (by omega) (by omega) (by omega) (by omega)).2.2 rfl
           generalize hX : ceX (A 2) c d.toNat (q) w (0) = X at X1 ⊢
           generalize hW : ceX (A 2) c d.toNat (q) 2 (0) = W at X2 ⊢
           have hg := gcd_b (X := X) (show 0 < W by omega)
           generalize hG : (Int.gcd X W : Int) = g at hg ⊢)
        refine ⟨fun _ => ?_, fun q => absurd (by decide) q⟩
        refine ⟨fun _ => ?_, fun q => absurd (by decide) q⟩
        refine ⟨by first | exact ⟨by decide, by decide⟩ | exact ⟨by omega, by omega, by omega, by omega, by omega, by omega, p7 c p2'.1 (by omega)⟩ | (simp only [esh]; have n9 := ndr (d := d) (q := q) (by omega) (by omega) (by omega); omega) | (simp only [esh]; have n9 := ndr (d := d) (q := q - 1) (by omega) (by omega) (by omega); omega) | (rw [w64_id (by omega) (by omega)]; omega) | omega, ?_⟩
        refine ⟨by first | exact ⟨by decide, by decide⟩ | exact ⟨by omega, by omega, by omega, by omega, by omega, by omega, p7 c p2'.1 (by omega)⟩ | (simp only [esh]; have n9 := ndr (d := d) (q := q) (by omega) (by omega) (by omega); omega) | (simp only [esh]; have n9 := ndr (d := d) (q := q - 1) (by omega) (by omega) (by omega); omega) | (rw [w64_id (by omega) (by omega)]; omega) | omega, ?_⟩
        refine ⟨by first | exact ⟨by decide, by decide⟩ | exact ⟨by omega, by omega, by omega, by omega, by omega, by omega, p7 c p2'.1 (by omega)⟩ | (simp only [esh]; have n9 := ndr (d := d) (q := q) (by omega) (by omega) (by omega); omega) | (simp only [esh]; have n9 := ndr (d := d) (q := q - 1) (by omega) (by omega) (by omega); omega) | (rw [w64_id (by omega) (by omega)]; omega) | omega, ?_⟩
        refine ⟨fun c4 => ?_, fun c4 => ?_⟩
        · skip
          (try simp (disch := omega) only [w32_0, wbi0, Classical.not_not, w32_id] at c4); (try (have P6 := p2_le (show d ≤ 6 by omega); rw [p2_6] at P6)); (try (have P7 := @p2_pos d)); (try simp (disch := omega) only [x_shl1, x_rem_eq, w32_0, w64_0, wbi0, Classical.not_not, w32_id, yc_eq0, yc_gt0, yc_lt0, w64_id] at c4)
          refine ⟨fun c5 => ?_, fun c5 => ?_⟩
          · skip
            (try simp (disch := omega) only [w32_0, wbi0, Classical.not_not, w32_id] at c5); (try (have P6 := p2_le (show d ≤ 6 by omega); rw [p2_6] at P6)); (try (have P7 := @p2_pos d)); (try simp (disch := omega) only [x_shl1, x_rem_eq, w32_0, w64_0, wbi0, Classical.not_not, w32_id, yc_eq0, yc_gt0, yc_lt0, w64_id] at c5)
            refine ⟨by first | exact ⟨by decide, by decide⟩ | exact ⟨by omega, by omega, by omega, by omega, by omega, by omega, p7 c p2'.1 (by omega)⟩ | (simp only [esh]; have n9 := ndr (d := d) (q := q) (by omega) (by omega) (by omega); omega) | (simp only [esh]; have n9 := ndr (d := d) (q := q - 1) (by omega) (by omega) (by omega); omega) | (rw [w64_id (by omega) (by omega)]; omega) | omega, ?_⟩
            first
            | exact L_eq (h _ _ qrP_id) (if_neg (by omega))
            | (exfalso; omega)
            | (refine L_eq (h _ _ qG) ?_
               rw [if_pos (by omega), y_div_eq (by omega) (by omega) (by omega) (by omega)]
               unfold plF
               first
               | (rw [if_pos (show z = 0 by omega), if_pos (show q = p2 d by omega), if_pos (show q = p2 d by omega), hX, hW, hG]; done)
               | (rw [if_neg (show ¬ z = 0 by omega), if_pos (show q = p2 d by omega), if_pos (show q = p2 d by omega), hX, hW, hG]; done)
               | (rw [if_pos (show z = 0 by omega), if_neg (show ¬ q = p2 d by omega), if_neg (show ¬ q = p2 d by omega), hX, hW, hG]; done)
               | (rw [if_neg (show ¬ z = 0 by omega), if_neg (show ¬ q = p2 d by omega), if_neg (show ¬ q = p2 d by omega), hX, hW, hG]; done))
          · skip
            (try simp (disch := omega) only [w32_0, wbi0, Classical.not_not, w32_id] at c5); (try (have P6 := p2_le (show d ≤ 6 by omega); rw [p2_6] at P6)); (try (have P7 := @p2_pos d)); (try simp (disch := omega) only [x_shl1, x_rem_eq, w32_0, w64_0, wbi0, Classical.not_not, w32_id, yc_eq0, yc_gt0, yc_lt0, w64_id] at c5)
            refine ⟨by first | exact ⟨by decide, by decide⟩ | exact ⟨by omega, by omega, by omega, by omega, by omega, by omega, p7 c p2'.1 (by omega)⟩ | (simp only [esh]; have n9 := ndr (d := d) (q := q) (by omega) (by omega) (by omega); omega) | (simp only [esh]; have n9 := ndr (d := d) (q := q - 1) (by omega) (by omega) (by omega); omega) | (rw [w64_id (by omega) (by omega)]; omega) | omega, ?_⟩
            first
            | exact L_eq (h _ _ qrP_id) (if_neg (by omega))
            | (exfalso; omega)
            | (refine L_eq (h _ _ qG) ?_
               rw [if_pos (by omega), y_div_eq (by omega) (by omega) (by omega) (by omega)]
               unfold plF
               first
               | (rw [if_pos (show z = 0 by omega), if_pos (show q = p2 d by omega), if_pos (show q = p2 d by omega), hX, hW, hG]; done)
               | (rw [if_neg (show ¬ z = 0 by omega), if_pos (show q = p2 d by omega), if_pos (show q = p2 d by omega), hX, hW, hG]; done)
               | (rw [if_pos (show z = 0 by omega), if_neg (show ¬ q = p2 d by omega), if_neg (show ¬ q = p2 d by omega), hX, hW, hG]; done)
               | (rw [if_neg (show ¬ z = 0 by omega), if_neg (show ¬ q = p2 d by omega), if_neg (show ¬ q = p2 d by omega), hX, hW, hG]; done))
        · skip
          (try simp (disch := omega) only [w32_0, wbi0, Classical.not_not, w32_id] at c4); (try (have P6 := p2_le (show d ≤ 6 by omega); rw [p2_6] at P6)); (try (have P7 := @p2_pos d)); (try simp (disch := omega) only [x_shl1, x_rem_eq, w32_0, w64_0, wbi0, Classical.not_not, w32_id, yc_eq0, yc_gt0, yc_lt0, w64_id] at c4)
          first
          | exact L_eq (h _ _ qrP_id) (if_neg (by omega))
          | (exfalso; omega)
          | (refine L_eq (h _ _ qG) ?_
             rw [if_pos (by omega), y_div_eq (by omega) (by omega) (by omega) (by omega)]
             unfold plF
             first
             | (rw [if_pos (show z = 0 by omega), if_pos (show q = p2 d by omega), if_pos (show q = p2 d by omega), hX, hW, hG]; done)
             | (rw [if_neg (show ¬ z = 0 by omega), if_pos (show q = p2 d by omega), if_pos (show q = p2 d by omega), hX, hW, hG]; done)
             | (rw [if_pos (show z = 0 by omega), if_neg (show ¬ q = p2 d by omega), if_neg (show ¬ q = p2 d by omega), hX, hW, hG]; done)
             | (rw [if_neg (show ¬ z = 0 by omega), if_neg (show ¬ q = p2 d by omega), if_neg (show ¬ q = p2 d by omega), hX, hW, hG]; done))
theorem qtX8_placePart (l : Launch) : am_CT l layX qeX8_placePart := am_met0 rfl (by decide +kernel) rfl rfl rfl rfl rfl (fun _ => rfl) rfl (qzX8_placePart l) (fun k e1 h => (qyX8_placePart l k e1 h).2) (fun as F A K h => by
  replace h : qsX8_placePart as F A K := h
  unfold qsX8_placePart at h
  split at h
  · rename_i o c d q w z
    refine ⟨by first | exact Nat.le_of_ble_eq_true rfl | simp [am_fl, am_cat], ?_⟩
    replace h := am_cond2 h
    rcases h with ⟨hb, h⟩ | h
    · skip
      have hb0 := hb
      have hb0 := am_bq hb0
      subst hb0
      exact am_way_line (qvX8_placePart_0 c d q w z F A K h)
    exact h.elim
  · exact h.elim)
def qkX8_placeNumerator : Nat → Option CI := fun pc => cond (Nat.ble 24 pc) none (cond (Nat.ble 9 pc) (cond (Nat.ble 18 pc) (cond (Nat.ble 20 pc) (cond (Nat.beq pc 20) (some (.invokevirtual 164, 23, [])) (cond (Nat.beq pc 23) (some (.lreturn, 24, [])) (none))) (cond (Nat.beq pc 18) (some (.iconst 1, 19, [])) (cond (Nat.beq pc 19) (some (.iconst 0, 20, [])) (none)))) (cond (Nat.ble 14 pc) (cond (Nat.beq pc 14) (some (.iconst 0, 15, [])) (cond (Nat.beq pc 15) (some (.goto 4, 18, [19])) (none))) (cond (Nat.beq pc 9) (some (.iload 4, 11, [])) (cond (Nat.beq pc 11) (some (.ifCond .ne 7, 14, [18])) (none))))) (cond (Nat.ble 5 pc) (cond (Nat.ble 7 pc) (cond (Nat.beq pc 7) (some (.iload_n 2, 8, [])) (cond (Nat.beq pc 8) (some (.iload_n 3, 9, [])) (none))) (cond (Nat.beq pc 5) (some (.aload_n 0, 6, [])) (cond (Nat.beq pc 6) (some (.iload_n 1, 7, [])) (none)))) (cond (Nat.beq pc 0) (some (.aload_n 0, 1, [])) (cond (Nat.beq pc 1) (some (.iload_n 1, 2, [])) (cond (Nat.beq pc 2) (some (.invokevirtual 123, 5, [])) (none))))))
theorem qkX8_placeNumerator_ok : ∀ pc i nx ts, qkX8_placeNumerator pc = some (i, nx, ts) → am_cok cX8_placeNumerator pc (i, nx, ts) = true := fun pc i nx ts h => am_tok_ok (n := 24) (by decide +kernel) (fun pc h => by show cond (Nat.ble 24 pc) _ _ = _; rw [Nat.ble_eq_true_of_le h]; rfl) h
def qaX8_placeNumerator : Nat → Option CE := fun k => cond (Nat.beq k 123) (some qeX8_requireCurve) (cond (Nat.beq k 164) (some qeX8_placePart) (none))
theorem qyX8_placeNumerator (l : Launch) (hst : l.stackTraces = false) : ∀ k e1, qaX8_placeNumerator k = some e1 → am_cal l layX RX8 10 k e1 ∧ True := q_cons ⟨am_calV (ci := 8) (qtX8_requireCurve l hst) qbX8_requireCurve (by decide) rfl (am_tb_at 777 (by decide +kernel) rfl), trivial⟩ (q_cons ⟨am_calV (ci := 8) (qtX8_placePart l) qbX8_placePart (by decide) rfl (am_tb_at 1058 (by decide +kernel) rfl), trivial⟩ (q_nil))
def qxX8_placeNumerator : CX := (qkX8_placeNumerator, layX, qfX8, qaX8_placeNumerator, qcX8, qlX8, qmX8, (some .long), true, none, 1, none, fun _ => none)
theorem qzX8_placeNumerator (l : Launch) (hst : l.stackTraces = false) : am_sta l qxX8_placeNumerator RX8 10 cX8_placeNumerator := ⟨qkX8_placeNumerator_ok, layX_ok, qfX8_ok, qcX8_ok, qlX8_ok, am_mthP qmX8_ok (by decide), fun k e1 h => (qyX8_placeNumerator l hst k e1 h).1⟩
def qsX8_placeNumerator : SP := fun as F A K => match as with
  | [.inr (.inr o), .inl c, .inl d, .inl q, .inl a] => cond (Nat.beq o 0) ((fgOK (A 2) ∧ (-2147483648 ≤ c ∧ c < 2147483648) ∧ (-2147483648 ≤ d ∧ d < 2147483648) ∧ (-2147483648 ≤ q ∧ q < 2147483648) ∧ (-2147483648 ≤ a ∧ a < 2147483648) ∧ caAll A) ∧ ((0 ≤ c ∧ c < A 2 0 → (∀ (G_1 : FF) (B_1 : AA), (qrP F G_1 A B_1) → (K (some (some (vL (if 0 ≤ d ∧ d ≤ 6 ∧ 0 ≤ q ∧ q ≤ p2 d then plF (A 2) c d q (if a = 0 then 0 else 1) 0 else -1)))) G_1 B_1))) ∧ (¬ (0 ≤ c ∧ c < A 2 0) → (K none F A)))) (False)
  | _ => False
def qeX8_placeNumerator : CE := (yX8_placeNumerator, cX8_placeNumerator, 5, (some .long), 4, some 8, 1, none, 1, 10, qsX8_placeNumerator)
theorem qbX8_placeNumerator : am_mb qeX8_placeNumerator := ⟨am_tb_at 1057 (by decide +kernel) rfl, am_tb_at 35 (by decide +kernel) rfl, ⟨by decide, by decide, by decide +kernel⟩, by decide, am_tb_at 1055 (by decide +kernel) rfl, am_tb_at 1056 (by decide +kernel) rfl, _, _, rfl⟩
set_option maxRecDepth 20000 in
theorem qvX8_placeNumerator_0 (c : Int) (d : Int) (q : Int) (a : Int) (F : FF) (A : AA) (K : KK) (h : (fgOK (A 2) ∧ (-2147483648 ≤ c ∧ c < 2147483648) ∧ (-2147483648 ≤ d ∧ d < 2147483648) ∧ (-2147483648 ≤ q ∧ q < 2147483648) ∧ (-2147483648 ≤ a ∧ a < 2147483648) ∧ caAll A) ∧ ((0 ≤ c ∧ c < A 2 0 → (∀ (G_1 : FF) (B_1 : AA), (qrP F G_1 A B_1) → (K (some (some (vL (if 0 ≤ d ∧ d ≤ 6 ∧ 0 ≤ q ∧ q ≤ p2 d then plF (A 2) c d q (if a = 0 then 0 else 1) 0 else -1)))) G_1 B_1))) ∧ (¬ (0 ≤ c ∧ c < A 2 0) → (K none F A)))) : am_line qxX8_placeNumerator 15 [vR 0, vI c, vI d, vI q, vI a] 5 F A K := by
  show am_stp qxX8_placeNumerator (am_run qxX8_placeNumerator (fun _ => none) (fun _ _ _ _ _ _ => False) K 15) K 0 [some (vR 0), some (vI c), some (vI d), some (vI q), some (vI a)] [] F A 0
  obtain ⟨hp, h⟩ := h
  have p1 := hp.1
  have p2' := hp.2
  have q1 := p1.1.1
  have q2 := p1.1.2
  show ((0 ≤ A 2 0 ∧ A 2 0 ≤ 8) ∧ (0 ≤ A 2 1 ∧ A 2 1 ≤ 6) ∧ (-2147483648 ≤ c ∧ c < 2147483648)) ∧ ((0 ≤ c ∧ c < A 2 0 → ((w32 a = w32 0 → ((fgOK (A 2) ∧ (0 ≤ c ∧ c < A 2 0) ∧ (-2147483648 ≤ d ∧ d < 2147483648) ∧ (-2147483648 ≤ q ∧ q < 2147483648) ∧ (0 ≤ 0 ∧ 0 ≤ 1) ∧ (0 = 0 ∨ 0 = 1) ∧ caAll A) ∧ (∀ (G_1 : FF) (B_1 : AA), (qrP F G_1 A B_1) → (K (some (some (vL (if 0 ≤ d ∧ d ≤ 6 ∧ 0 ≤ q ∧ q ≤ p2 d then plF (A 2) c d q 0 0 else -1)))) G_1 B_1)))) ∧ (¬ w32 a = w32 0 → ((fgOK (A 2) ∧ (0 ≤ c ∧ c < A 2 0) ∧ (-2147483648 ≤ d ∧ d < 2147483648) ∧ (-2147483648 ≤ q ∧ q < 2147483648) ∧ (0 ≤ 1 ∧ 1 ≤ 1) ∧ (0 = 0 ∨ 0 = 1) ∧ caAll A) ∧ (∀ (G_1 : FF) (B_1 : AA), (qrP F G_1 A B_1) → (K (some (some (vL (if 0 ≤ d ∧ d ≤ 6 ∧ 0 ≤ q ∧ q ≤ p2 d then plF (A 2) c d q 1 0 else -1)))) G_1 B_1)))))) ∧ (¬ (0 ≤ c ∧ c < A 2 0) → (K none F A)))
  refine ⟨by exact ⟨p1.1.1, p1.1.2, hp.2.1⟩, ?_⟩
  refine ⟨fun c1 => ?_, fun c1 => ?_⟩
  · skip
    (try simp (disch := omega) only [w32_0, w32_id] at c1)
    refine ⟨fun c2 => ?_, fun c2 => ?_⟩
    · skip
      (try simp (disch := omega) only [w32_0, w32_id] at c2)
      refine ⟨by exact ⟨p1, c1, hp.2.2.1, hp.2.2.2.1, by omega, by omega, hp.2.2.2.2.2⟩, ?_⟩
      intro G_1 B_1 g1
      exact L_eq (h.1 c1 _ _ g1) (by rw [if_pos (show a = 0 by omega)])
    · skip
      (try simp (disch := omega) only [w32_0, w32_id] at c2)
      refine ⟨by exact ⟨p1, c1, hp.2.2.1, hp.2.2.2.1, by omega, by omega, hp.2.2.2.2.2⟩, ?_⟩
      intro G_1 B_1 g1
      exact L_eq (h.1 c1 _ _ g1) (by rw [if_neg (show ¬ a = 0 by omega)])
  · skip
    (try simp (disch := omega) only [w32_0, w32_id] at c1)
    exact h.2 c1
theorem qtX8_placeNumerator (l : Launch) (hst : l.stackTraces = false) : am_CT l layX qeX8_placeNumerator := am_met1 hst rfl (by decide +kernel) rfl rfl rfl rfl rfl (fun _ _ h => by cases h) rfl (qzX8_placeNumerator l hst) (fun as F A K h => by
  replace h : qsX8_placeNumerator as F A K := h
  unfold qsX8_placeNumerator at h
  split at h
  · rename_i o c d q a
    refine ⟨by first | exact Nat.le_of_ble_eq_true rfl | simp [am_fl, am_cat], ?_⟩
    replace h := am_cond2 h
    rcases h with ⟨hb, h⟩ | h
    · skip
      have hb0 := hb
      have hb0 := am_bq hb0
      subst hb0
      exact am_way_line (qvX8_placeNumerator_0 c d q a F A K h)
    exact h.elim
  · exact h.elim)
def qkX8_placeDenominator : Nat → Option CI := fun pc => cond (Nat.ble 24 pc) none (cond (Nat.ble 9 pc) (cond (Nat.ble 18 pc) (cond (Nat.ble 20 pc) (cond (Nat.beq pc 20) (some (.invokevirtual 164, 23, [])) (cond (Nat.beq pc 23) (some (.lreturn, 24, [])) (none))) (cond (Nat.beq pc 18) (some (.iconst 1, 19, [])) (cond (Nat.beq pc 19) (some (.iconst 1, 20, [])) (none)))) (cond (Nat.ble 14 pc) (cond (Nat.beq pc 14) (some (.iconst 0, 15, [])) (cond (Nat.beq pc 15) (some (.goto 4, 18, [19])) (none))) (cond (Nat.beq pc 9) (some (.iload 4, 11, [])) (cond (Nat.beq pc 11) (some (.ifCond .ne 7, 14, [18])) (none))))) (cond (Nat.ble 5 pc) (cond (Nat.ble 7 pc) (cond (Nat.beq pc 7) (some (.iload_n 2, 8, [])) (cond (Nat.beq pc 8) (some (.iload_n 3, 9, [])) (none))) (cond (Nat.beq pc 5) (some (.aload_n 0, 6, [])) (cond (Nat.beq pc 6) (some (.iload_n 1, 7, [])) (none)))) (cond (Nat.beq pc 0) (some (.aload_n 0, 1, [])) (cond (Nat.beq pc 1) (some (.iload_n 1, 2, [])) (cond (Nat.beq pc 2) (some (.invokevirtual 123, 5, [])) (none))))))
theorem qkX8_placeDenominator_ok : ∀ pc i nx ts, qkX8_placeDenominator pc = some (i, nx, ts) → am_cok cX8_placeDenominator pc (i, nx, ts) = true := fun pc i nx ts h => am_tok_ok (n := 24) (by decide +kernel) (fun pc h => by show cond (Nat.ble 24 pc) _ _ = _; rw [Nat.ble_eq_true_of_le h]; rfl) h
def qaX8_placeDenominator : Nat → Option CE := fun k => cond (Nat.beq k 123) (some qeX8_requireCurve) (cond (Nat.beq k 164) (some qeX8_placePart) (none))
theorem qyX8_placeDenominator (l : Launch) (hst : l.stackTraces = false) : ∀ k e1, qaX8_placeDenominator k = some e1 → am_cal l layX RX8 10 k e1 ∧ True := q_cons ⟨am_calV (ci := 8) (qtX8_requireCurve l hst) qbX8_requireCurve (by decide) rfl (am_tb_at 777 (by decide +kernel) rfl), trivial⟩ (q_cons ⟨am_calV (ci := 8) (qtX8_placePart l) qbX8_placePart (by decide) rfl (am_tb_at 1058 (by decide +kernel) rfl), trivial⟩ (q_nil))
def qxX8_placeDenominator : CX := (qkX8_placeDenominator, layX, qfX8, qaX8_placeDenominator, qcX8, qlX8, qmX8, (some .long), true, none, 1, none, fun _ => none)
theorem qzX8_placeDenominator (l : Launch) (hst : l.stackTraces = false) : am_sta l qxX8_placeDenominator RX8 10 cX8_placeDenominator := ⟨qkX8_placeDenominator_ok, layX_ok, qfX8_ok, qcX8_ok, qlX8_ok, am_mthP qmX8_ok (by decide), fun k e1 h => (qyX8_placeDenominator l hst k e1 h).1⟩
def qsX8_placeDenominator : SP := fun as F A K => match as with
  | [.inr (.inr o), .inl c, .inl d, .inl q, .inl a] => cond (Nat.beq o 0) ((fgOK (A 2) ∧ (-2147483648 ≤ c ∧ c < 2147483648) ∧ (-2147483648 ≤ d ∧ d < 2147483648) ∧ (-2147483648 ≤ q ∧ q < 2147483648) ∧ (-2147483648 ≤ a ∧ a < 2147483648) ∧ caAll A) ∧ ((0 ≤ c ∧ c < A 2 0 → (∀ (G_1 : FF) (B_1 : AA), (qrP F G_1 A B_1) → (K (some (some (vL (if 0 ≤ d ∧ d ≤ 6 ∧ 0 ≤ q ∧ q ≤ p2 d then plF (A 2) c d q (if a = 0 then 0 else 1) 1 else -1)))) G_1 B_1))) ∧ (¬ (0 ≤ c ∧ c < A 2 0) → (K none F A)))) (False)
  | _ => False
def qeX8_placeDenominator : CE := (yX8_placeDenominator, cX8_placeDenominator, 5, (some .long), 4, some 8, 1, none, 1, 10, qsX8_placeDenominator)
theorem qbX8_placeDenominator : am_mb qeX8_placeDenominator := ⟨am_tb_at 1068 (by decide +kernel) rfl, am_tb_at 35 (by decide +kernel) rfl, ⟨by decide, by decide, by decide +kernel⟩, by decide, am_tb_at 1066 (by decide +kernel) rfl, am_tb_at 1067 (by decide +kernel) rfl, _, _, rfl⟩
set_option maxRecDepth 20000 in
theorem qvX8_placeDenominator_0 (c : Int) (d : Int) (q : Int) (a : Int) (F : FF) (A : AA) (K : KK) (h : (fgOK (A 2) ∧ (-2147483648 ≤ c ∧ c < 2147483648) ∧ (-2147483648 ≤ d ∧ d < 2147483648) ∧ (-2147483648 ≤ q ∧ q < 2147483648) ∧ (-2147483648 ≤ a ∧ a < 2147483648) ∧ caAll A) ∧ ((0 ≤ c ∧ c < A 2 0 → (∀ (G_1 : FF) (B_1 : AA), (qrP F G_1 A B_1) → (K (some (some (vL (if 0 ≤ d ∧ d ≤ 6 ∧ 0 ≤ q ∧ q ≤ p2 d then plF (A 2) c d q (if a = 0 then 0 else 1) 1 else -1)))) G_1 B_1))) ∧ (¬ (0 ≤ c ∧ c < A 2 0) → (K none F A)))) : am_line qxX8_placeDenominator 15 [vR 0, vI c, vI d, vI q, vI a] 5 F A K := by
  show am_stp qxX8_placeDenominator (am_run qxX8_placeDenominator (fun _ => none) (fun _ _ _ _ _ _ => False) K 15) K 0 [some (vR 0), some (vI c), some (vI d), some (vI q), some (vI a)] [] F A 0
  obtain ⟨hp, h⟩ := h
  have p1 := hp.1
  have p2' := hp.2
  have q1 := p1.1.1
  have q2 := p1.1.2
  show ((0 ≤ A 2 0 ∧ A 2 0 ≤ 8) ∧ (0 ≤ A 2 1 ∧ A 2 1 ≤ 6) ∧ (-2147483648 ≤ c ∧ c < 2147483648)) ∧ ((0 ≤ c ∧ c < A 2 0 → ((w32 a = w32 0 → ((fgOK (A 2) ∧ (0 ≤ c ∧ c < A 2 0) ∧ (-2147483648 ≤ d ∧ d < 2147483648) ∧ (-2147483648 ≤ q ∧ q < 2147483648) ∧ (0 ≤ 0 ∧ 0 ≤ 1) ∧ (1 = 0 ∨ 1 = 1) ∧ caAll A) ∧ (∀ (G_1 : FF) (B_1 : AA), (qrP F G_1 A B_1) → (K (some (some (vL (if 0 ≤ d ∧ d ≤ 6 ∧ 0 ≤ q ∧ q ≤ p2 d then plF (A 2) c d q 0 1 else -1)))) G_1 B_1)))) ∧ (¬ w32 a = w32 0 → ((fgOK (A 2) ∧ (0 ≤ c ∧ c < A 2 0) ∧ (-2147483648 ≤ d ∧ d < 2147483648) ∧ (-2147483648 ≤ q ∧ q < 2147483648) ∧ (0 ≤ 1 ∧ 1 ≤ 1) ∧ (1 = 0 ∨ 1 = 1) ∧ caAll A) ∧ (∀ (G_1 : FF) (B_1 : AA), (qrP F G_1 A B_1) → (K (some (some (vL (if 0 ≤ d ∧ d ≤ 6 ∧ 0 ≤ q ∧ q ≤ p2 d then plF (A 2) c d q 1 1 else -1)))) G_1 B_1)))))) ∧ (¬ (0 ≤ c ∧ c < A 2 0) → (K none F A)))
  refine ⟨by exact ⟨p1.1.1, p1.1.2, hp.2.1⟩, ?_⟩
  refine ⟨fun c1 => ?_, fun c1 => ?_⟩
  · skip
    (try simp (disch := omega) only [w32_0, w32_id] at c1)
    refine ⟨fun c2 => ?_, fun c2 => ?_⟩
    · skip
      (try simp (disch := omega) only [w32_0, w32_id] at c2)
      refine ⟨by exact ⟨p1, c1, hp.2.2.1, hp.2.2.2.1, by omega, by omega, hp.2.2.2.2.2⟩, ?_⟩
      intro G_1 B_1 g1
      exact L_eq (h.1 c1 _ _ g1) (by rw [if_pos (show a = 0 by omega)])
    · skip
      (try simp (disch := omega) only [w32_0, w32_id] at c2)
      refine ⟨by exact ⟨p1, c1, hp.2.2.1, hp.2.2.2.1, by omega, by omega, hp.2.2.2.2.2⟩, ?_⟩
      intro G_1 B_1 g1
      exact L_eq (h.1 c1 _ _ g1) (by rw [if_neg (show ¬ a = 0 by omega)])
  · skip
    (try simp (disch := omega) only [w32_0, w32_id] at c1)
    exact h.2 c1
theorem qtX8_placeDenominator (l : Launch) (hst : l.stackTraces = false) : am_CT l layX qeX8_placeDenominator := am_met1 hst rfl (by decide +kernel) rfl rfl rfl rfl rfl (fun _ _ h => by cases h) rfl (qzX8_placeDenominator l hst) (fun as F A K h => by
  replace h : qsX8_placeDenominator as F A K := h
  unfold qsX8_placeDenominator at h
  split at h
  · rename_i o c d q a
    refine ⟨by first | exact Nat.le_of_ble_eq_true rfl | simp [am_fl, am_cat], ?_⟩
    replace h := am_cond2 h
    rcases h with ⟨hb, h⟩ | h
    · skip
      have hb0 := hb
      have hb0 := am_bq hb0
      subst hb0
      exact am_way_line (qvX8_placeDenominator_0 c d q a F A K h)
    exact h.elim
  · exact h.elim)
def qkX8_boxSide : Nat → Option CI := fun pc => cond (Nat.ble 141 pc) none (cond (Nat.ble 73 pc) (cond (Nat.ble 109 pc) (cond (Nat.ble 126 pc) (cond (Nat.ble 135 pc) (cond (Nat.ble 138 pc) (cond (Nat.beq pc 138) (some (.ldiv, 139, [])) (cond (Nat.beq pc 139) (some (.l2i, 140, [])) (cond (Nat.beq pc 140) (some (.ireturn, 141, [])) (none)))) (cond (Nat.beq pc 135) (some (.lsub, 136, [])) (cond (Nat.beq pc 136) (some (.lload 9, 138, [])) (none)))) (cond (Nat.ble 131 pc) (cond (Nat.beq pc 131) (some (.lload 9, 133, [])) (cond (Nat.beq pc 133) (some (.ladd, 134, [])) (cond (Nat.beq pc 134) (some (.lconst 1, 135, [])) (none)))) (cond (Nat.beq pc 126) (some (.goto 13, 129, [139])) (cond (Nat.beq pc 129) (some (.lload 7, 131, [])) (none))))) (cond (Nat.ble 117 pc) (cond (Nat.ble 121 pc) (cond (Nat.beq pc 121) (some (.lload 7, 123, [])) (cond (Nat.beq pc 123) (some (.lload 9, 125, [])) (cond (Nat.beq pc 125) (some (.ldiv, 126, [])) (none)))) (cond (Nat.beq pc 117) (some (.iconst 2, 118, [])) (cond (Nat.beq pc 118) (some (.if_icmp .ge 11, 121, [129])) (none)))) (cond (Nat.ble 113 pc) (cond (Nat.beq pc 113) (some (.iconst (-1), 114, [])) (cond (Nat.beq pc 114) (some (.ireturn, 115, [])) (cond (Nat.beq pc 115) (some (.iload 4, 117, [])) (none)))) (cond (Nat.beq pc 109) (some (.lcmp, 110, [])) (cond (Nat.beq pc 110) (some (.ifCond .gt 5, 113, [115])) (none)))))) (cond (Nat.ble 91 pc) (cond (Nat.ble 99 pc) (cond (Nat.ble 104 pc) (cond (Nat.beq pc 104) (some (.lstore 9, 106, [])) (cond (Nat.beq pc 106) (some (.lload 9, 108, [])) (cond (Nat.beq pc 108) (some (.lconst 0, 109, [])) (none)))) (cond (Nat.beq pc 99) (some (.iload 6, 101, [])) (cond (Nat.beq pc 101) (some (.invokevirtual 160, 104, [])) (none)))) (cond (Nat.ble 95 pc) (cond (Nat.beq pc 95) (some (.iload_n 1, 96, [])) (cond (Nat.beq pc 96) (some (.iload 5, 98, [])) (cond (Nat.beq pc 98) (some (.iconst 2, 99, [])) (none)))) (cond (Nat.beq pc 91) (some (.aload_n 0, 92, [])) (cond (Nat.beq pc 92) (some (.getfield 36, 95, [])) (none))))) (cond (Nat.ble 82 pc) (cond (Nat.ble 85 pc) (cond (Nat.beq pc 85) (some (.invokevirtual 160, 88, [])) (cond (Nat.beq pc 88) (some (.lmul, 89, [])) (cond (Nat.beq pc 89) (some (.lstore 7, 91, [])) (none)))) (cond (Nat.beq pc 82) (some (.iconst 1, 83, [])) (cond (Nat.beq pc 83) (some (.iload 6, 85, [])) (none)))) (cond (Nat.ble 75 pc) (cond (Nat.beq pc 75) (some (.ifCond .ne 7, 78, [82])) (cond (Nat.beq pc 78) (some (.iconst 0, 79, [])) (cond (Nat.beq pc 79) (some (.goto 4, 82, [83])) (none)))) (cond (Nat.beq pc 73) (some (.iconst 2, 74, [])) (cond (Nat.beq pc 74) (some (.irem, 75, [])) (none))))))) (cond (Nat.ble 35 pc) (cond (Nat.ble 52 pc) (cond (Nat.ble 64 pc) (cond (Nat.ble 68 pc) (cond (Nat.beq pc 68) (some (.iload_n 1, 69, [])) (cond (Nat.beq pc 69) (some (.iload 5, 71, [])) (cond (Nat.beq pc 71) (some (.iload 4, 73, [])) (none)))) (cond (Nat.beq pc 64) (some (.aload_n 0, 65, [])) (cond (Nat.beq pc 65) (some (.getfield 36, 68, [])) (none)))) (cond (Nat.ble 56 pc) (cond (Nat.beq pc 56) (some (.invokevirtual 172, 59, [])) (cond (Nat.beq pc 59) (some (.istore 6, 61, [])) (cond (Nat.beq pc 61) (some (.ldc2_w 175, 64, [])) (none)))) (cond (Nat.beq pc 52) (some (.iload 5, 54, [])) (cond (Nat.beq pc 54) (some (.iload 4, 56, [])) (none))))) (cond (Nat.ble 42 pc) (cond (Nat.ble 47 pc) (cond (Nat.beq pc 47) (some (.aload_n 0, 48, [])) (cond (Nat.beq pc 48) (some (.getfield 36, 51, [])) (cond (Nat.beq pc 51) (some (.iload_n 1, 52, [])) (none)))) (cond (Nat.beq pc 42) (some (.invokestatic 157, 45, [])) (cond (Nat.beq pc 45) (some (.istore 5, 47, [])) (none)))) (cond (Nat.ble 37 pc) (cond (Nat.beq pc 37) (some (.invokevirtual 153, 40, [])) (cond (Nat.beq pc 40) (some (.iload_n 2, 41, [])) (cond (Nat.beq pc 41) (some (.iload_n 3, 42, [])) (none)))) (cond (Nat.beq pc 35) (some (.iload_n 1, 36, [])) (cond (Nat.beq pc 36) (some (.iload_n 2, 37, [])) (none)))))) (cond (Nat.ble 17 pc) (cond (Nat.ble 26 pc) (cond (Nat.ble 28 pc) (cond (Nat.beq pc 28) (some (.getfield 36, 31, [])) (cond (Nat.beq pc 31) (some (.aload_n 0, 32, [])) (cond (Nat.beq pc 32) (some (.getfield 10, 35, [])) (none)))) (cond (Nat.beq pc 26) (some (.ireturn, 27, [])) (cond (Nat.beq pc 27) (some (.aload_n 0, 28, [])) (none)))) (cond (Nat.ble 19 pc) (cond (Nat.beq pc 19) (some (.invokestatic 133, 22, [])) (cond (Nat.beq pc 22) (some (.ifCond .ne 5, 25, [27])) (cond (Nat.beq pc 25) (some (.iconst (-1), 26, [])) (none)))) (cond (Nat.beq pc 17) (some (.iconst 0, 18, [])) (cond (Nat.beq pc 18) (some (.iconst 3, 19, [])) (none))))) (cond (Nat.ble 6 pc) (cond (Nat.ble 9 pc) (cond (Nat.beq pc 9) (some (.invokestatic 148, 12, [])) (cond (Nat.beq pc 12) (some (.ifCond .eq 13, 15, [25])) (cond (Nat.beq pc 15) (some (.iload 4, 17, [])) (none)))) (cond (Nat.beq pc 6) (some (.iload_n 3, 7, [])) (cond (Nat.beq pc 7) (some (.bipush 6, 9, [])) (none)))) (cond (Nat.ble 2 pc) (cond (Nat.beq pc 2) (some (.invokevirtual 123, 5, [])) (cond (Nat.beq pc 5) (some (.iload_n 2, 6, [])) (none))) (cond (Nat.beq pc 0) (some (.aload_n 0, 1, [])) (cond (Nat.beq pc 1) (some (.iload_n 1, 2, [])) (none))))))))
theorem qkX8_boxSide_ok : ∀ pc i nx ts, qkX8_boxSide pc = some (i, nx, ts) → am_cok cX8_boxSide pc (i, nx, ts) = true := fun pc i nx ts h => am_tok_ok (n := 141) (by decide +kernel) (fun pc h => by show cond (Nat.ble 141 pc) _ _ = _; rw [Nat.ble_eq_true_of_le h]; rfl) h
def qaX8_boxSide : Nat → Option CE := fun k => cond (Nat.beq k 123) (some qeX8_requireCurve) (cond (Nat.beq k 148) (some qeX8_isCell) (cond (Nat.beq k 133) (some qeX8_isWithin) (cond (Nat.beq k 153) (some qeX1_grow) (cond (Nat.beq k 157) (some qeX8_nodeOf) (cond (Nat.beq k 172) (some qeX1_extreme) (cond (Nat.beq k 160) (some qeX1_number) (none)))))))
theorem qyX8_boxSide (l : Launch) (hst : l.stackTraces = false) : ∀ k e1, qaX8_boxSide k = some e1 → am_cal l layX RX8 10 k e1 ∧ True := q_cons ⟨am_calV (ci := 8) (qtX8_requireCurve l hst) qbX8_requireCurve (by decide) rfl (am_tb_at 777 (by decide +kernel) rfl), trivial⟩ (q_cons ⟨am_calS (qtX8_isCell l) qbX8_isCell (by decide) rfl (by decide) (am_tb_at 992 (by decide +kernel) rfl), trivial⟩ (q_cons ⟨am_calS (qtX8_isWithin l) qbX8_isWithin (by decide) rfl (by decide) (am_tb_at 875 (by decide +kernel) rfl), trivial⟩ (q_cons ⟨am_calV (ci := 1) (qtX1_grow l) qbX1_grow (by decide) rfl (am_tb_at 996 (by decide +kernel) rfl), trivial⟩ (q_cons ⟨am_calS (qtX8_nodeOf l) qbX8_nodeOf (by decide) rfl (by decide) (am_tb_at 1043 (by decide +kernel) rfl), trivial⟩ (q_cons ⟨am_calV (ci := 1) (qtX1_extreme l) qbX1_extreme (by decide) rfl (am_tb_at 1073 (by decide +kernel) rfl), trivial⟩ (q_cons ⟨am_calV (ci := 1) (qtX1_number l) qbX1_number (by decide) rfl (am_tb_at 1044 (by decide +kernel) rfl), trivial⟩ (q_nil)))))))
def qxX8_boxSide : CX := (qkX8_boxSide, layX, qfX8, qaX8_boxSide, qcX8, qlX8, qmX8, (some .int), true, none, 1, none, fun _ => none)
theorem qzX8_boxSide (l : Launch) (hst : l.stackTraces = false) : am_sta l qxX8_boxSide RX8 10 cX8_boxSide := ⟨qkX8_boxSide_ok, layX_ok, qfX8_ok, qcX8_ok, qlX8_ok, am_mthP qmX8_ok (by decide), fun k e1 h => (qyX8_boxSide l hst k e1 h).1⟩
def qsX8_boxSide : SP := fun as F A K => match as with
  | [.inr (.inr o), .inl c, .inl d, .inl q, .inl s] => cond (Nat.beq o 0) ((fgOK (A 2) ∧ (-2147483648 ≤ c ∧ c < 2147483648) ∧ (-2147483648 ≤ d ∧ d < 2147483648) ∧ (-2147483648 ≤ q ∧ q < 2147483648) ∧ (-2147483648 ≤ s ∧ s < 2147483648) ∧ caAll A) ∧ ((0 ≤ c ∧ c < A 2 0 → (∀ (G_1 : FF) (B_1 : AA), (qrP F G_1 A B_1) → (K (some (some (vI (if (0 ≤ d ∧ d ≤ 6 ∧ 0 ≤ q ∧ q < p2 d) ∧ 0 ≤ s ∧ s ≤ 3 then bxF (A 2) c d q s else -1)))) G_1 B_1))) ∧ (¬ (0 ≤ c ∧ c < A 2 0) → (K none F A)))) (False)
  | _ => False
def qeX8_boxSide : CE := (yX8_boxSide, cX8_boxSide, 11, (some .int), 4, some 8, 1, none, 1, 10, qsX8_boxSide)
theorem qbX8_boxSide : am_mb qeX8_boxSide := ⟨am_tb_at 1072 (by decide +kernel) rfl, am_tb_at 35 (by decide +kernel) rfl, ⟨by decide, by decide, by decide +kernel⟩, by decide, am_tb_at 1070 (by decide +kernel) rfl, am_tb_at 1071 (by decide +kernel) rfl, _, _, rfl⟩
set_option maxRecDepth 20000 in
theorem qvX8_boxSide_0 (c : Int) (d : Int) (q : Int) (s : Int) (F : FF) (A : AA) (K : KK) (h : (fgOK (A 2) ∧ (-2147483648 ≤ c ∧ c < 2147483648) ∧ (-2147483648 ≤ d ∧ d < 2147483648) ∧ (-2147483648 ≤ q ∧ q < 2147483648) ∧ (-2147483648 ≤ s ∧ s < 2147483648) ∧ caAll A) ∧ ((0 ≤ c ∧ c < A 2 0 → (∀ (G_1 : FF) (B_1 : AA), (qrP F G_1 A B_1) → (K (some (some (vI (if (0 ≤ d ∧ d ≤ 6 ∧ 0 ≤ q ∧ q < p2 d) ∧ 0 ≤ s ∧ s ≤ 3 then bxF (A 2) c d q s else -1)))) G_1 B_1))) ∧ (¬ (0 ≤ c ∧ c < A 2 0) → (K none F A)))) : am_line qxX8_boxSide 71 [vR 0, vI c, vI d, vI q, vI s] 11 F A K := by
  show am_stp qxX8_boxSide (am_run qxX8_boxSide (fun _ => none) (fun _ _ _ _ _ _ => False) K 71) K 0 [some (vR 0), some (vI c), some (vI d), some (vI q), some (vI s), none, none, none, none, none, none] [] F A 0
  obtain ⟨hp, h⟩ := h
  have p1 := hp.1
  have p2' := hp.2
  have q1 := p1.1.1
  have q2 := p1.1.2
  show ((0 ≤ A 2 0 ∧ A 2 0 ≤ 8) ∧ (0 ≤ A 2 1 ∧ A 2 1 ≤ 6) ∧ (-2147483648 ≤ c ∧ c < 2147483648)) ∧ ((0 ≤ c ∧ c < A 2 0 → ((0 ≤ 6 ∧ 6 ≤ 12) ∧ ((w32 (bi (0 ≤ w32 d ∧ w32 d ≤ 6 ∧ 0 ≤ w32 q ∧ w32 q < p2 (w32 d))) = w32 0 → (K (some (some (vI (-1)))) F A)) ∧ (¬ (w32 (bi (0 ≤ w32 d ∧ w32 d ≤ 6 ∧ 0 ≤ w32 q ∧ w32 q < p2 (w32 d))) = w32 0) → ((w32 (bi (w32 0 ≤ w32 s ∧ w32 s ≤ w32 3)) = w32 0 → (K (some (some (vI (-1)))) F A)) ∧ (¬ (w32 (bi (w32 0 ≤ w32 s ∧ w32 s ≤ w32 3)) = w32 0) → ((0 ≤ c ∧ c < 8 ∧ 2 ≤ A 2 (18 + c) ∧ A 2 (18 + c) ≤ 4 ∧ 0 ≤ d ∧ d ≤ 6 ∧ caOK A c) ∧ (∀ (B_1 : AA), (grQ A B_1 c d) → ((0 ≤ c ∧ c < 8 ∧ 0 ≤ (x_shl 1 d - 1 + q) ∧ (x_shl 1 d - 1 + q) < 127 ∧ 0 ≤ s ∧ s < 4) ∧ ((w32 2 ≠ 0) ∧ ((w32 (x_rem s 2) = w32 0 → ((0 ≤ c ∧ c < 8 ∧ 0 ≤ (x_shl 1 d - 1 + q) ∧ (x_shl 1 d - 1 + q) < 127 ∧ 0 ≤ 0 ∧ 0 ≤ 2 ∧ 0 ≤ (B_1 11 ((c * 127 + (x_shl 1 d - 1 + q)) * 4 + s)) ∧ (B_1 11 ((c * 127 + (x_shl 1 d - 1 + q)) * 4 + s)) < 4) ∧ ((0 ≤ c ∧ c < 8 ∧ 0 ≤ (x_shl 1 d - 1 + q) ∧ (x_shl 1 d - 1 + q) < 127 ∧ 0 ≤ 2 ∧ 2 ≤ 2 ∧ 0 ≤ (B_1 11 ((c * 127 + (x_shl 1 d - 1 + q)) * 4 + s)) ∧ (B_1 11 ((c * 127 + (x_shl 1 d - 1 + q)) * 4 + s)) < 4) ∧ ((w32 0 < w32 (y_cmp (B_1 10 (((c * 127 + (x_shl 1 d - 1 + q)) * 3 + 2) * 4 + (B_1 11 ((c * 127 + (x_shl 1 d - 1 + q)) * 4 + s)))) 0) → ((w32 s < w32 2 → ((w64 (B_1 10 (((c * 127 + (x_shl 1 d - 1 + q)) * 3 + 2) * 4 + (B_1 11 ((c * 127 + (x_shl 1 d - 1 + q)) * 4 + s)))) ≠ 0) ∧ (K (some (some (vI (y_div (100 * (B_1 10 (((c * 127 + (x_shl 1 d - 1 + q)) * 3 + 0) * 4 + (B_1 11 ((c * 127 + (x_shl 1 d - 1 + q)) * 4 + s))))) (B_1 10 (((c * 127 + (x_shl 1 d - 1 + q)) * 3 + 2) * 4 + (B_1 11 ((c * 127 + (x_shl 1 d - 1 + q)) * 4 + s)))))))) F B_1))) ∧ (¬ w32 s < w32 2 → ((w64 (B_1 10 (((c * 127 + (x_shl 1 d - 1 + q)) * 3 + 2) * 4 + (B_1 11 ((c * 127 + (x_shl 1 d - 1 + q)) * 4 + s)))) ≠ 0) ∧ (K (some (some (vI (y_div (((100 * (B_1 10 (((c * 127 + (x_shl 1 d - 1 + q)) * 3 + 0) * 4 + (B_1 11 ((c * 127 + (x_shl 1 d - 1 + q)) * 4 + s))))) + (B_1 10 (((c * 127 + (x_shl 1 d - 1 + q)) * 3 + 2) * 4 + (B_1 11 ((c * 127 + (x_shl 1 d - 1 + q)) * 4 + s))))) - 1) (B_1 10 (((c * 127 + (x_shl 1 d - 1 + q)) * 3 + 2) * 4 + (B_1 11 ((c * 127 + (x_shl 1 d - 1 + q)) * 4 + s)))))))) F B_1))))) ∧ (¬ w32 0 < w32 (y_cmp (B_1 10 (((c * 127 + (x_shl 1 d - 1 + q)) * 3 + 2) * 4 + (B_1 11 ((c * 127 + (x_shl 1 d - 1 + q)) * 4 + s)))) 0) → (K (some (some (vI (-1)))) F B_1)))))) ∧ (¬ w32 (x_rem s 2) = w32 0 → ((0 ≤ c ∧ c < 8 ∧ 0 ≤ (x_shl 1 d - 1 + q) ∧ (x_shl 1 d - 1 + q) < 127 ∧ 0 ≤ 1 ∧ 1 ≤ 2 ∧ 0 ≤ (B_1 11 ((c * 127 + (x_shl 1 d - 1 + q)) * 4 + s)) ∧ (B_1 11 ((c * 127 + (x_shl 1 d - 1 + q)) * 4 + s)) < 4) ∧ ((0 ≤ c ∧ c < 8 ∧ 0 ≤ (x_shl 1 d - 1 + q) ∧ (x_shl 1 d - 1 + q) < 127 ∧ 0 ≤ 2 ∧ 2 ≤ 2 ∧ 0 ≤ (B_1 11 ((c * 127 + (x_shl 1 d - 1 + q)) * 4 + s)) ∧ (B_1 11 ((c * 127 + (x_shl 1 d - 1 + q)) * 4 + s)) < 4) ∧ ((w32 0 < w32 (y_cmp (B_1 10 (((c * 127 + (x_shl 1 d - 1 + q)) * 3 + 2) * 4 + (B_1 11 ((c * 127 + (x_shl 1 d - 1 + q)) * 4 + s)))) 0) → ((w32 s < w32 2 → ((w64 (B_1 10 (((c * 127 + (x_shl 1 d - 1 + q)) * 3 + 2) * 4 + (B_1 11 ((c * 127 + (x_shl 1 d - 1 + q)) * 4 + s)))) ≠ 0) ∧ (K (some (some (vI (y_div (100 * (B_1 10 (((c * 127 + (x_shl 1 d - 1 + q)) * 3 + 1) * 4 + (B_1 11 ((c * 127 + (x_shl 1 d - 1 + q)) * 4 + s))))) (B_1 10 (((c * 127 + (x_shl 1 d - 1 + q)) * 3 + 2) * 4 + (B_1 11 ((c * 127 + (x_shl 1 d - 1 + q)) * 4 + s)))))))) F B_1))) ∧ (¬ w32 s < w32 2 → ((w64 (B_1 10 (((c * 127 + (x_shl 1 d - 1 + q)) * 3 + 2) * 4 + (B_1 11 ((c * 127 + (x_shl 1 d - 1 + q)) * 4 + s)))) ≠ 0) ∧ (K (some (some (vI (y_div (((100 * (B_1 10 (((c * 127 + (x_shl 1 d - 1 + q)) * 3 + 1) * 4 + (B_1 11 ((c * 127 + (x_shl 1 d - 1 + q)) * 4 + s))))) + (B_1 10 (((c * 127 + (x_shl 1 d - 1 + q)) * 3 + 2) * 4 + (B_1 11 ((c * 127 + (x_shl 1 d - 1 + q)) * 4 + s))))) - 1) (B_1 10 (((c * 127 + (x_shl 1 d - 1 + q)) * 3 + 2) * 4 + (B_1 11 ((c * 127 + (x_shl 1 d - 1 + q)) * 4 + s)))))))) F B_1))))) ∧ (¬ w32 0 < w32 (y_cmp (B_1 10 (((c * 127 + (x_shl 1 d - 1 + q)) * 3 + 2) * 4 + (B_1 11 ((c * 127 + (x_shl 1 d - 1 + q)) * 4 + s)))) 0) → (K (some (some (vI (-1)))) F B_1))))))))))))))))) ∧ (¬ (0 ≤ c ∧ c < A 2 0) → (K none F A)))
  refine ⟨by exact ⟨p1.1.1, p1.1.2, hp.2.1⟩, ?_⟩
  refine ⟨fun c1 => ?_, fun c1 => ?_⟩
  · skip
    (try simp (disch := omega) only [w32_0, wbi0, Classical.not_not, w32_id] at c1); (try (have P6 := p2_le (show d ≤ 6 by omega); rw [p2_6] at P6)); (try (have P7 := @p2_pos d)); (try simp (disch := omega) only [x_shl1, x_rem_eq, w32_0, w64_0, wbi0, Classical.not_not, w32_id, yc_eq0, yc_gt0, yc_lt0, w64_id] at c1)
    refine ⟨by (have q3 := (p1.2.2.1 c c1.1 c1.2).1; first | exact ⟨by decide, by decide⟩ | exact ⟨by omega, by omega, by omega, by omega, by omega, by omega, hp.2.2.2.2.2 c c1.1 (by omega)⟩ | (simp only [esh]; have n9 := ndr (d := d) (q := q) (by omega) (by omega) (by omega); omega) | (rw [w64_id (by omega) (by omega)]; omega) | decide | omega), ?_⟩
    refine ⟨fun c2 => ?_, fun c2 => ?_⟩
    · skip
      (try simp (disch := omega) only [w32_0, wbi0, Classical.not_not, w32_id] at c2); (try (have P6 := p2_le (show d ≤ 6 by omega); rw [p2_6] at P6)); (try (have P7 := @p2_pos d)); (try simp (disch := omega) only [x_shl1, x_rem_eq, w32_0, w64_0, wbi0, Classical.not_not, w32_id, yc_eq0, yc_gt0, yc_lt0, w64_id] at c2)
      have q3 := (p1.2.2.1 c c1.1 c1.2).1
      first
      | exact K_eq (h.1 c1 _ _ qrP_id) (if_neg (by omega))
      | (exfalso; omega)
      | (refine K_eq (h.1 c1 _ _ qG) ?_
         rw [if_pos (by omega), y_div_eq (by omega) (by omega) (by omega) (by omega)]
         unfold bxF
         rw [hK, hW]
         first
         | (rw [if_pos (show s < 2 by omega), show s % 2 = 0 by omega, hX]; done)
         | (rw [if_pos (show s < 2 by omega), show s % 2 = 1 by omega, hY]; done)
         | (rw [if_neg (show ¬ s < 2 by omega), show s % 2 = 0 by omega, hX]; done)
         | (rw [if_neg (show ¬ s < 2 by omega), show s % 2 = 1 by omega, hY]; done))
    · skip
      (try simp (disch := omega) only [w32_0, wbi0, Classical.not_not, w32_id] at c2); (try (have P6 := p2_le (show d ≤ 6 by omega); rw [p2_6] at P6)); (try (have P7 := @p2_pos d)); (try simp (disch := omega) only [x_shl1, x_rem_eq, w32_0, w64_0, wbi0, Classical.not_not, w32_id, yc_eq0, yc_gt0, yc_lt0, w64_id] at c2)
      refine ⟨fun c3 => ?_, fun c3 => ?_⟩
      · skip
        (try simp (disch := omega) only [w32_0, wbi0, Classical.not_not, w32_id] at c3); (try (have P6 := p2_le (show d ≤ 6 by omega); rw [p2_6] at P6)); (try (have P7 := @p2_pos d)); (try simp (disch := omega) only [x_shl1, x_rem_eq, w32_0, w64_0, wbi0, Classical.not_not, w32_id, yc_eq0, yc_gt0, yc_lt0, w64_id] at c3)
        have q3 := (p1.2.2.1 c c1.1 c1.2).1
        first
        | exact K_eq (h.1 c1 _ _ qrP_id) (if_neg (by omega))
        | (exfalso; omega)
        | (refine K_eq (h.1 c1 _ _ qG) ?_
           rw [if_pos (by omega), y_div_eq (by omega) (by omega) (by omega) (by omega)]
           unfold bxF
           rw [hK, hW]
           first
           | (rw [if_pos (show s < 2 by omega), show s % 2 = 0 by omega, hX]; done)
           | (rw [if_pos (show s < 2 by omega), show s % 2 = 1 by omega, hY]; done)
           | (rw [if_neg (show ¬ s < 2 by omega), show s % 2 = 0 by omega, hX]; done)
           | (rw [if_neg (show ¬ s < 2 by omega), show s % 2 = 1 by omega, hY]; done))
      · skip
        (try simp (disch := omega) only [w32_0, wbi0, Classical.not_not, w32_id] at c3); (try (have P6 := p2_le (show d ≤ 6 by omega); rw [p2_6] at P6)); (try (have P7 := @p2_pos d)); (try simp (disch := omega) only [x_shl1, x_rem_eq, w32_0, w64_0, wbi0, Classical.not_not, w32_id, yc_eq0, yc_gt0, yc_lt0, w64_id] at c3)
        refine ⟨by (have q3 := (p1.2.2.1 c c1.1 c1.2).1; first | exact ⟨by decide, by decide⟩ | exact ⟨by omega, by omega, by omega, by omega, by omega, by omega, hp.2.2.2.2.2 c c1.1 (by omega)⟩ | (simp only [esh]; have n9 := ndr (d := d) (q := q) (by omega) (by omega) (by omega); omega) | (rw [w64_id (by omega) (by omega)]; omega) | decide | omega), ?_⟩
        intro B_1 g1
        have hB := grQ_f g1
        have qG := qrP_gr (F := F) (G := F) (fun _ _ _ => rfl) g1
        have hd0 : 0 ≤ d ∧ d ≤ 6 := by omega
        have esh : x_shl 1 d = p2 d := x_shl1 (by omega) (by omega)
        have P6 := p2_le hd0.2
        rw [p2_6] at P6
        have P7 := @p2_pos d
        have q3 := (p1.2.2.1 c c1.1 c1.2).1
        have nd := fun (qq ww kk : Int) (a0 : 0 ≤ qq) (a1 : qq < p2 d) (b0 : 0 ≤ ww) (b1 : ww ≤ 2) (k0 : 0 ≤ kk) (k1 : kk < A 2 (18 + c)) => nd_cell' (k := kk) g1.2.1 g1.2.2.1 (by rw [hB]; omega) (by omega) (by omega) a0 a1 b0 b1 k0 (by rw [hB]; omega)
        have cb := fun (qq ww kk : Int) (b0 : 0 ≤ ww) (b1 : ww ≤ 2) (k0 : 0 ≤ kk) (k1 : kk < A 2 (18 + c)) => ceX_b (q := qq) (d := d.toNat) (w := ww) p1 (by omega) c1.1 c1.2 k0 k1 b0 b1
        have xe := ex_cell' (s := s) (q := q) (d := d) g1.2.1 g1.2.2.1 (by rw [hB]; omega) (by omega) (by omega) (by omega) (by omega) (by omega) (by omega)
        have xb := exX_b (f := A 2) (c := c) (d := d.toNat) (q := q) (s := s) q3.1
        simp only [esh, xe, hB]
        generalize hK : exX (A 2) c d.toNat q s = K1 at xb ⊢
        rw [nd q 2 K1 (by omega) (by omega) (by omega) (by omega) (by omega) (by omega), nd q 0 K1 (by omega) (by omega) (by omega) (by omega) (by omega) (by omega), nd q 1 K1 (by omega) (by omega) (by omega) (by omega) (by omega) (by omega), hB]
        have X0 := cb q 0 K1 (by omega) (by omega) (by omega) (by omega)
        have X1 := cb q 1 K1 (by omega) (by omega) (by omega) (by omega)
        have X2 := (cb q 2 K1 (by omega) (by omega) (by omega) (by omega)).2.2 rfl
        generalize hX : ceX (A 2) c d.toNat q 0 K1 = X at X0 ⊢
        generalize hY : ceX (A 2) c d.toNat q 1 K1 = Y at X1 ⊢
        generalize hW : ceX (A 2) c d.toNat q 2 K1 = W at X2 ⊢
        refine ⟨by (have q3 := (p1.2.2.1 c c1.1 c1.2).1; first | exact ⟨by decide, by decide⟩ | exact ⟨by omega, by omega, by omega, by omega, by omega, by omega, hp.2.2.2.2.2 c c1.1 (by omega)⟩ | (simp only [esh]; have n9 := ndr (d := d) (q := q) (by omega) (by omega) (by omega); omega) | (rw [w64_id (by omega) (by omega)]; omega) | decide | omega), ?_⟩
        refine ⟨by (have q3 := (p1.2.2.1 c c1.1 c1.2).1; first | exact ⟨by decide, by decide⟩ | exact ⟨by omega, by omega, by omega, by omega, by omega, by omega, hp.2.2.2.2.2 c c1.1 (by omega)⟩ | (simp only [esh]; have n9 := ndr (d := d) (q := q) (by omega) (by omega) (by omega); omega) | (rw [w64_id (by omega) (by omega)]; omega) | decide | omega), ?_⟩
        refine ⟨fun c4 => ?_, fun c4 => ?_⟩
        · skip
          (try simp (disch := omega) only [w32_0, wbi0, Classical.not_not, w32_id] at c4); (try (have P6 := p2_le (show d ≤ 6 by omega); rw [p2_6] at P6)); (try (have P7 := @p2_pos d)); (try simp (disch := omega) only [x_shl1, x_rem_eq, w32_0, w64_0, wbi0, Classical.not_not, w32_id, yc_eq0, yc_gt0, yc_lt0, w64_id] at c4)
          refine ⟨by (have q3 := (p1.2.2.1 c c1.1 c1.2).1; first | exact ⟨by decide, by decide⟩ | exact ⟨by omega, by omega, by omega, by omega, by omega, by omega, hp.2.2.2.2.2 c c1.1 (by omega)⟩ | (simp only [esh]; have n9 := ndr (d := d) (q := q) (by omega) (by omega) (by omega); omega) | (rw [w64_id (by omega) (by omega)]; omega) | decide | omega), ?_⟩
          refine ⟨by (have q3 := (p1.2.2.1 c c1.1 c1.2).1; first | exact ⟨by decide, by decide⟩ | exact ⟨by omega, by omega, by omega, by omega, by omega, by omega, hp.2.2.2.2.2 c c1.1 (by omega)⟩ | (simp only [esh]; have n9 := ndr (d := d) (q := q) (by omega) (by omega) (by omega); omega) | (rw [w64_id (by omega) (by omega)]; omega) | decide | omega), ?_⟩
          refine ⟨fun c5 => ?_, fun c5 => ?_⟩
          · skip
            (try simp (disch := omega) only [w32_0, wbi0, Classical.not_not, w32_id] at c5); (try (have P6 := p2_le (show d ≤ 6 by omega); rw [p2_6] at P6)); (try (have P7 := @p2_pos d)); (try simp (disch := omega) only [x_shl1, x_rem_eq, w32_0, w64_0, wbi0, Classical.not_not, w32_id, yc_eq0, yc_gt0, yc_lt0, w64_id] at c5)
            refine ⟨fun c6 => ?_, fun c6 => ?_⟩
            · skip
              (try simp (disch := omega) only [w32_0, wbi0, Classical.not_not, w32_id] at c6); (try (have P6 := p2_le (show d ≤ 6 by omega); rw [p2_6] at P6)); (try (have P7 := @p2_pos d)); (try simp (disch := omega) only [x_shl1, x_rem_eq, w32_0, w64_0, wbi0, Classical.not_not, w32_id, yc_eq0, yc_gt0, yc_lt0, w64_id] at c6)
              refine ⟨by (have q3 := (p1.2.2.1 c c1.1 c1.2).1; first | exact ⟨by decide, by decide⟩ | exact ⟨by omega, by omega, by omega, by omega, by omega, by omega, hp.2.2.2.2.2 c c1.1 (by omega)⟩ | (simp only [esh]; have n9 := ndr (d := d) (q := q) (by omega) (by omega) (by omega); omega) | (rw [w64_id (by omega) (by omega)]; omega) | decide | omega), ?_⟩
              have q3 := (p1.2.2.1 c c1.1 c1.2).1
              first
              | exact K_eq (h.1 c1 _ _ qrP_id) (if_neg (by omega))
              | (exfalso; omega)
              | (refine K_eq (h.1 c1 _ _ qG) ?_
                 rw [if_pos (by omega), y_div_eq (by omega) (by omega) (by omega) (by omega)]
                 unfold bxF
                 rw [hK, hW]
                 first
                 | (rw [if_pos (show s < 2 by omega), show s % 2 = 0 by omega, hX]; done)
                 | (rw [if_pos (show s < 2 by omega), show s % 2 = 1 by omega, hY]; done)
                 | (rw [if_neg (show ¬ s < 2 by omega), show s % 2 = 0 by omega, hX]; done)
                 | (rw [if_neg (show ¬ s < 2 by omega), show s % 2 = 1 by omega, hY]; done))
            · skip
              (try simp (disch := omega) only [w32_0, wbi0, Classical.not_not, w32_id] at c6); (try (have P6 := p2_le (show d ≤ 6 by omega); rw [p2_6] at P6)); (try (have P7 := @p2_pos d)); (try simp (disch := omega) only [x_shl1, x_rem_eq, w32_0, w64_0, wbi0, Classical.not_not, w32_id, yc_eq0, yc_gt0, yc_lt0, w64_id] at c6)
              refine ⟨by (have q3 := (p1.2.2.1 c c1.1 c1.2).1; first | exact ⟨by decide, by decide⟩ | exact ⟨by omega, by omega, by omega, by omega, by omega, by omega, hp.2.2.2.2.2 c c1.1 (by omega)⟩ | (simp only [esh]; have n9 := ndr (d := d) (q := q) (by omega) (by omega) (by omega); omega) | (rw [w64_id (by omega) (by omega)]; omega) | decide | omega), ?_⟩
              have q3 := (p1.2.2.1 c c1.1 c1.2).1
              first
              | exact K_eq (h.1 c1 _ _ qrP_id) (if_neg (by omega))
              | (exfalso; omega)
              | (refine K_eq (h.1 c1 _ _ qG) ?_
                 rw [if_pos (by omega), y_div_eq (by omega) (by omega) (by omega) (by omega)]
                 unfold bxF
                 rw [hK, hW]
                 first
                 | (rw [if_pos (show s < 2 by omega), show s % 2 = 0 by omega, hX]; done)
                 | (rw [if_pos (show s < 2 by omega), show s % 2 = 1 by omega, hY]; done)
                 | (rw [if_neg (show ¬ s < 2 by omega), show s % 2 = 0 by omega, hX]; done)
                 | (rw [if_neg (show ¬ s < 2 by omega), show s % 2 = 1 by omega, hY]; done))
          · skip
            (try simp (disch := omega) only [w32_0, wbi0, Classical.not_not, w32_id] at c5); (try (have P6 := p2_le (show d ≤ 6 by omega); rw [p2_6] at P6)); (try (have P7 := @p2_pos d)); (try simp (disch := omega) only [x_shl1, x_rem_eq, w32_0, w64_0, wbi0, Classical.not_not, w32_id, yc_eq0, yc_gt0, yc_lt0, w64_id] at c5)
            have q3 := (p1.2.2.1 c c1.1 c1.2).1
            first
            | exact K_eq (h.1 c1 _ _ qrP_id) (if_neg (by omega))
            | (exfalso; omega)
            | (refine K_eq (h.1 c1 _ _ qG) ?_
               rw [if_pos (by omega), y_div_eq (by omega) (by omega) (by omega) (by omega)]
               unfold bxF
               rw [hK, hW]
               first
               | (rw [if_pos (show s < 2 by omega), show s % 2 = 0 by omega, hX]; done)
               | (rw [if_pos (show s < 2 by omega), show s % 2 = 1 by omega, hY]; done)
               | (rw [if_neg (show ¬ s < 2 by omega), show s % 2 = 0 by omega, hX]; done)
               | (rw [if_neg (show ¬ s < 2 by omega), show s % 2 = 1 by omega, hY]; done))
        · skip
          (try simp (disch := omega) only [w32_0, wbi0, Classical.not_not, w32_id] at c4); (try (have P6 := p2_le (show d ≤ 6 by omega); rw [p2_6] at P6)); (try (have P7 := @p2_pos d)); (try simp (disch := omega) only [x_shl1, x_rem_eq, w32_0, w64_0, wbi0, Classical.not_not, w32_id, yc_eq0, yc_gt0, yc_lt0, w64_id] at c4)
          refine ⟨by (have q3 := (p1.2.2.1 c c1.1 c1.2).1; first | exact ⟨by decide, by decide⟩ | exact ⟨by omega, by omega, by omega, by omega, by omega, by omega, hp.2.2.2.2.2 c c1.1 (by omega)⟩ | (simp only [esh]; have n9 := ndr (d := d) (q := q) (by omega) (by omega) (by omega); omega) | (rw [w64_id (by omega) (by omega)]; omega) | decide | omega), ?_⟩
          refine ⟨by (have q3 := (p1.2.2.1 c c1.1 c1.2).1; first | exact ⟨by decide, by decide⟩ | exact ⟨by omega, by omega, by omega, by omega, by omega, by omega, hp.2.2.2.2.2 c c1.1 (by omega)⟩ | (simp only [esh]; have n9 := ndr (d := d) (q := q) (by omega) (by omega) (by omega); omega) | (rw [w64_id (by omega) (by omega)]; omega) | decide | omega), ?_⟩
          refine ⟨fun c5 => ?_, fun c5 => ?_⟩
          · skip
            (try simp (disch := omega) only [w32_0, wbi0, Classical.not_not, w32_id] at c5); (try (have P6 := p2_le (show d ≤ 6 by omega); rw [p2_6] at P6)); (try (have P7 := @p2_pos d)); (try simp (disch := omega) only [x_shl1, x_rem_eq, w32_0, w64_0, wbi0, Classical.not_not, w32_id, yc_eq0, yc_gt0, yc_lt0, w64_id] at c5)
            refine ⟨fun c6 => ?_, fun c6 => ?_⟩
            · skip
              (try simp (disch := omega) only [w32_0, wbi0, Classical.not_not, w32_id] at c6); (try (have P6 := p2_le (show d ≤ 6 by omega); rw [p2_6] at P6)); (try (have P7 := @p2_pos d)); (try simp (disch := omega) only [x_shl1, x_rem_eq, w32_0, w64_0, wbi0, Classical.not_not, w32_id, yc_eq0, yc_gt0, yc_lt0, w64_id] at c6)
              refine ⟨by (have q3 := (p1.2.2.1 c c1.1 c1.2).1; first | exact ⟨by decide, by decide⟩ | exact ⟨by omega, by omega, by omega, by omega, by omega, by omega, hp.2.2.2.2.2 c c1.1 (by omega)⟩ | (simp only [esh]; have n9 := ndr (d := d) (q := q) (by omega) (by omega) (by omega); omega) | (rw [w64_id (by omega) (by omega)]; omega) | decide | omega), ?_⟩
              have q3 := (p1.2.2.1 c c1.1 c1.2).1
              first
              | exact K_eq (h.1 c1 _ _ qrP_id) (if_neg (by omega))
              | (exfalso; omega)
              | (refine K_eq (h.1 c1 _ _ qG) ?_
                 rw [if_pos (by omega), y_div_eq (by omega) (by omega) (by omega) (by omega)]
                 unfold bxF
                 rw [hK, hW]
                 first
                 | (rw [if_pos (show s < 2 by omega), show s % 2 = 0 by omega, hX]; done)
                 | (rw [if_pos (show s < 2 by omega), show s % 2 = 1 by omega, hY]; done)
                 | (rw [if_neg (show ¬ s < 2 by omega), show s % 2 = 0 by omega, hX]; done)
                 | (rw [if_neg (show ¬ s < 2 by omega), show s % 2 = 1 by omega, hY]; done))
            · skip
              (try simp (disch := omega) only [w32_0, wbi0, Classical.not_not, w32_id] at c6); (try (have P6 := p2_le (show d ≤ 6 by omega); rw [p2_6] at P6)); (try (have P7 := @p2_pos d)); (try simp (disch := omega) only [x_shl1, x_rem_eq, w32_0, w64_0, wbi0, Classical.not_not, w32_id, yc_eq0, yc_gt0, yc_lt0, w64_id] at c6)
              refine ⟨by (have q3 := (p1.2.2.1 c c1.1 c1.2).1; first | exact ⟨by decide, by decide⟩ | exact ⟨by omega, by omega, by omega, by omega, by omega, by omega, hp.2.2.2.2.2 c c1.1 (by omega)⟩ | (simp only [esh]; have n9 := ndr (d := d) (q := q) (by omega) (by omega) (by omega); omega) | (rw [w64_id (by omega) (by omega)]; omega) | decide | omega), ?_⟩
              have q3 := (p1.2.2.1 c c1.1 c1.2).1
              first
              | exact K_eq (h.1 c1 _ _ qrP_id) (if_neg (by omega))
              | (exfalso; omega)
              | (refine K_eq (h.1 c1 _ _ qG) ?_
                 rw [if_pos (by omega), y_div_eq (by omega) (by omega) (by omega) (by omega)]
                 unfold bxF
                 rw [hK, hW]
                 first
                 | (rw [if_pos (show s < 2 by omega), show s % 2 = 0 by omega, hX]; done)
                 | (rw [if_pos (show s < 2 by omega), show s % 2 = 1 by omega, hY]; done)
                 | (rw [if_neg (show ¬ s < 2 by omega), show s % 2 = 0 by omega, hX]; done)
                 | (rw [if_neg (show ¬ s < 2 by omega), show s % 2 = 1 by omega, hY]; done))
          · skip
            (try simp (disch := omega) only [w32_0, wbi0, Classical.not_not, w32_id] at c5); (try (have P6 := p2_le (show d ≤ 6 by omega); rw [p2_6] at P6)); (try (have P7 := @p2_pos d)); (try simp (disch := omega) only [x_shl1, x_rem_eq, w32_0, w64_0, wbi0, Classical.not_not, w32_id, yc_eq0, yc_gt0, yc_lt0, w64_id] at c5)
            have q3 := (p1.2.2.1 c c1.1 c1.2).1
            first
            | exact K_eq (h.1 c1 _ _ qrP_id) (if_neg (by omega))
            | (exfalso; omega)
            | (refine K_eq (h.1 c1 _ _ qG) ?_
               rw [if_pos (by omega), y_div_eq (by omega) (by omega) (by omega) (by omega)]
               unfold bxF
               rw [hK, hW]
               first
               | (rw [if_pos (show s < 2 by omega), show s % 2 = 0 by omega, hX]; done)
               | (rw [if_pos (show s < 2 by omega), show s % 2 = 1 by omega, hY]; done)
               | (rw [if_neg (show ¬ s < 2 by omega), show s % 2 = 0 by omega, hX]; done)
               | (rw [if_neg (show ¬ s < 2 by omega), show s % 2 = 1 by omega, hY]; done))
  · skip
    (try simp (disch := omega) only [w32_0, wbi0, Classical.not_not, w32_id] at c1); (try (have P6 := p2_le (show d ≤ 6 by omega); rw [p2_6] at P6)); (try (have P7 := @p2_pos d)); (try simp (disch := omega) only [x_shl1, x_rem_eq, w32_0, w64_0, wbi0, Classical.not_not, w32_id, yc_eq0, yc_gt0, yc_lt0, w64_id] at c1)
    exact h.2 c1
theorem qtX8_boxSide (l : Launch) (hst : l.stackTraces = false) : am_CT l layX qeX8_boxSide := am_met1 hst rfl (by decide +kernel) rfl rfl rfl rfl rfl (fun _ _ h => by cases h) rfl (qzX8_boxSide l hst) (fun as F A K h => by
  replace h : qsX8_boxSide as F A K := h
  unfold qsX8_boxSide at h
  split at h
  · rename_i o c d q s
    refine ⟨by first | exact Nat.le_of_ble_eq_true rfl | simp [am_fl, am_cat], ?_⟩
    replace h := am_cond2 h
    rcases h with ⟨hb, h⟩ | h
    · skip
      have hb0 := hb
      have hb0 := am_bq hb0
      subst hb0
      exact am_way_line (qvX8_boxSide_0 c d q s F A K h)
    exact h.elim
  · exact h.elim)
