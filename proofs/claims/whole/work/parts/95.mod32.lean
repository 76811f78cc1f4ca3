def qkX9_failsIf : Nat → Option CI := fun pc => cond (Nat.ble 26 pc) none (cond (Nat.ble 13 pc) (cond (Nat.ble 18 pc) (cond (Nat.ble 22 pc) (cond (Nat.beq pc 22) (some (.putfield 235, 25, [])) (cond (Nat.beq pc 25) (some (.return_, 26, [])) (none))) (cond (Nat.beq pc 18) (some (.aload_n 0, 19, [])) (cond (Nat.beq pc 19) (some (.getfield 201, 22, [])) (none)))) (cond (Nat.beq pc 13) (some (.iload_n 2, 14, [])) (cond (Nat.beq pc 14) (some (.putfield 232, 17, [])) (cond (Nat.beq pc 17) (some (.aload_n 0, 18, [])) (none))))) (cond (Nat.ble 7 pc) (cond (Nat.ble 11 pc) (cond (Nat.beq pc 11) (some (.return_, 12, [])) (cond (Nat.beq pc 12) (some (.aload_n 0, 13, [])) (none))) (cond (Nat.beq pc 7) (some (.iload_n 1, 8, [])) (cond (Nat.beq pc 8) (some (.ifCond .ne 4, 11, [12])) (none)))) (cond (Nat.beq pc 0) (some (.aload_n 0, 1, [])) (cond (Nat.beq pc 1) (some (.getfield 232, 4, [])) (cond (Nat.beq pc 4) (some (.ifCond .ne 7, 7, [11])) (none))))))
theorem qkX9_failsIf_ok : ∀ pc i nx ts, qkX9_failsIf pc = some (i, nx, ts) → am_cok cX9_failsIf pc (i, nx, ts) = true := fun pc i nx ts h => am_tok_ok (n := 26) (by decide +kernel) (fun pc h => by show cond (Nat.ble 26 pc) _ _ = _; rw [Nat.ble_eq_true_of_le h]; rfl) h
def qaX9_failsIf : Nat → Option CE := fun k => none
theorem qyX9_failsIf (l : Launch) : ∀ k e1, qaX9_failsIf k = some e1 → am_cal l layM RX9 3 k e1 ∧ ceT e1 = 0 := q_nil
def qxX9_failsIf : CX := (qkX9_failsIf, layM, qfX9, qaX9_failsIf, qcX9, qlX9, qmX9, none, false, none, 0, none, fun _ => none)
theorem qzX9_failsIf (l : Launch) : am_sta l qxX9_failsIf RX9 3 cX9_failsIf := ⟨qkX9_failsIf_ok, layM_ok, qfX9_ok, qcX9_ok, qlX9_ok, am_mthP qmX9_ok (by decide), fun k e1 h => (qyX9_failsIf l k e1 h).1⟩
def qsX9_failsIf : SP := fun as F A K => match as with
  | [.inr (.inr o), .inl z, .inl v] => cond (Nat.beq o 25) (((z = 0 ∨ z = 1) ∧ (-2147483648 ≤ (F 25 26) ∧ (F 25 26) < 2147483648)) ∧ (K (some none) (psS F (fiP (psF F) z v)) A)) (False)
  | _ => False
def qeX9_failsIf : CE := (yX9_failsIf, cX9_failsIf, 3, none, 2, some 9, 0, [], 0, 3, qsX9_failsIf)
theorem qbX9_failsIf : am_mb qeX9_failsIf := ⟨am_tb_at 1575 (by decide +kernel) rfl, am_tb_at 124 (by decide +kernel) rfl, ⟨by decide, by decide, by decide +kernel⟩, by decide, by decide, am_tb_at 1574 (by decide +kernel) rfl, am_tb_at 54 (by decide +kernel) rfl, _, _, rfl⟩
set_option maxRecDepth 20000 in
theorem qvX9_failsIf_25 (z : Int) (v : Int) (F : FF) (A : AA) (K : KK) (h : ((z = 0 ∨ z = 1) ∧ (-2147483648 ≤ (F 25 26) ∧ (F 25 26) < 2147483648)) ∧ (K (some none) (psS F (fiP (psF F) z v)) A)) : am_line qxX9_failsIf 14 [vR 25, vI z, vI v] 3 F A K := by
  show am_stp qxX9_failsIf (am_run qxX9_failsIf (fun _ => none) (fun _ _ _ _ _ _ => False) K 14) K 0 [some (vR 25), some (vI z), some (vI v)] [] F A 0
  obtain ⟨hp, h⟩ := h
  show (w32 (F 25 26) = w32 0 → ((w32 z = w32 0 → (K (some none) F A)) ∧ (¬ w32 z = w32 0 → (K (some none) (upF (upF F 25 26 v) 25 27 (F 25 22)) A)))) ∧ (¬ w32 (F 25 26) = w32 0 → (K (some none) F A))
  refine ⟨fun c1 => ?_, fun c1 => ?_⟩
  · skip
    (try simp (disch := omega) only [w32_0, w32_id] at c1)
    refine ⟨fun c2 => ?_, fun c2 => ?_⟩
    · skip
      (try simp (disch := omega) only [w32_0, w32_id] at c2)
      first
      | (have e9 : fiP (psF F) z v = psF F := fiP_f (by show ¬ (F 25 26 = 0 ∧ z = 1); omega)
         rw [e9, psS_F] at h; exact h)
      | (have e9 : fiP (psF F) z v = (v, F 25 22, (psF F).2.2) := fiP_t (by show F 25 26 = 0 ∧ z = 1; omega)
         rw [e9] at h
         have e8 : upF (upF F 25 26 v) 25 27 (F 25 22) = psS F (v, F 25 22, (psF F).2.2) := psS_of (fun a b hab => by rw [upF_o (by omega), upF_o (by omega)]) rfl
         rw [e8]; exact h)
    · skip
      (try simp (disch := omega) only [w32_0, w32_id] at c2)
      first
      | (have e9 : fiP (psF F) z v = psF F := fiP_f (by show ¬ (F 25 26 = 0 ∧ z = 1); omega)
         rw [e9, psS_F] at h; exact h)
      | (have e9 : fiP (psF F) z v = (v, F 25 22, (psF F).2.2) := fiP_t (by show F 25 26 = 0 ∧ z = 1; omega)
         rw [e9] at h
         have e8 : upF (upF F 25 26 v) 25 27 (F 25 22) = psS F (v, F 25 22, (psF F).2.2) := psS_of (fun a b hab => by rw [upF_o (by omega), upF_o (by omega)]) rfl
         rw [e8]; exact h)
  · skip
    (try simp (disch := omega) only [w32_0, w32_id] at c1)
    first
    | (have e9 : fiP (psF F) z v = psF F := fiP_f (by show ¬ (F 25 26 = 0 ∧ z = 1); omega)
       rw [e9, psS_F] at h; exact h)
    | (have e9 : fiP (psF F) z v = (v, F 25 22, (psF F).2.2) := fiP_t (by show F 25 26 = 0 ∧ z = 1; omega)
       rw [e9] at h
       have e8 : upF (upF F 25 26 v) 25 27 (F 25 22) = psS F (v, F 25 22, (psF F).2.2) := psS_of (fun a b hab => by rw [upF_o (by omega), upF_o (by omega)]) rfl
       rw [e8]; exact h)
theorem qtX9_failsIf (l : Launch) : am_CT l layM qeX9_failsIf := am_met0 rfl (by decide +kernel) rfl rfl rfl rfl rfl (fun _ => rfl) rfl (qzX9_failsIf l) (fun k e1 h => (qyX9_failsIf l k e1 h).2) (fun as F A K h => by
  replace h : qsX9_failsIf as F A K := h
  unfold qsX9_failsIf at h
  split at h
  · rename_i o z v
    refine ⟨by first | exact Nat.le_of_ble_eq_true rfl | simp [am_fl, am_cat], ?_⟩
    replace h := am_cond2 h
    rcases h with ⟨hb, h⟩ | h
    · skip
      have hb0 := hb
      have hb0 := am_bq hb0
      subst hb0
      exact am_way_line (qvX9_failsIf_25 z v F A K h)
    exact h.elim
  · exact h.elim)
def qkX9_feed : Nat → Option CI := fun pc => cond (Nat.ble 130 pc) none (cond (Nat.ble 67 pc) (cond (Nat.ble 100 pc) (cond (Nat.ble 114 pc) (cond (Nat.ble 121 pc) (cond (Nat.ble 125 pc) (cond (Nat.beq pc 125) (some (.aload_n 0, 126, [])) (cond (Nat.beq pc 126) (some (.getfield 73, 129, [])) (cond (Nat.beq pc 129) (some (.ireturn, 130, [])) (none)))) (cond (Nat.beq pc 121) (some (.iadd, 122, [])) (cond (Nat.beq pc 122) (some (.putfield 73, 125, [])) (none)))) (cond (Nat.ble 116 pc) (cond (Nat.beq pc 116) (some (.getfield 73, 119, [])) (cond (Nat.beq pc 119) (some (.bipush 20, 121, [])) (none))) (cond (Nat.beq pc 114) (some (.aload_n 0, 115, [])) (cond (Nat.beq pc 115) (some (.dup, 116, [])) (none))))) (cond (Nat.ble 106 pc) (cond (Nat.ble 108 pc) (cond (Nat.beq pc 108) (some (.iinc 6 1, 111, [])) (cond (Nat.beq pc 111) (some (.goto (-87), 114, [24])) (none))) (cond (Nat.beq pc 106) (some (.iand, 107, [])) (cond (Nat.beq pc 107) (some (.iastore, 108, [])) (none)))) (cond (Nat.ble 102 pc) (cond (Nat.beq pc 102) (some (.ishr, 103, [])) (cond (Nat.beq pc 103) (some (.sipush 255, 106, [])) (none))) (cond (Nat.beq pc 100) (some (.imul, 101, [])) (cond (Nat.beq pc 101) (some (.isub, 102, [])) (none)))))) (cond (Nat.ble 84 pc) (cond (Nat.ble 92 pc) (cond (Nat.ble 96 pc) (cond (Nat.beq pc 96) (some (.iload 6, 98, [])) (cond (Nat.beq pc 98) (some (.iconst 4, 99, [])) (cond (Nat.beq pc 99) (some (.irem, 100, [])) (none)))) (cond (Nat.beq pc 92) (some (.bipush 24, 94, [])) (cond (Nat.beq pc 94) (some (.bipush 8, 96, [])) (none)))) (cond (Nat.ble 89 pc) (cond (Nat.beq pc 89) (some (.iadd, 90, [])) (cond (Nat.beq pc 90) (some (.iload 7, 92, [])) (none))) (cond (Nat.beq pc 84) (some (.getfield 73, 87, [])) (cond (Nat.beq pc 87) (some (.iload 6, 89, [])) (none))))) (cond (Nat.ble 77 pc) (cond (Nat.ble 80 pc) (cond (Nat.beq pc 80) (some (.getfield 7, 83, [])) (cond (Nat.beq pc 83) (some (.aload_n 0, 84, [])) (none))) (cond (Nat.beq pc 77) (some (.istore 7, 79, [])) (cond (Nat.beq pc 79) (some (.aload_n 0, 80, [])) (none)))) (cond (Nat.ble 72 pc) (cond (Nat.beq pc 72) (some (.goto 5, 75, [77])) (cond (Nat.beq pc 75) (some (.iload 5, 77, [])) (none))) (cond (Nat.beq pc 67) (some (.if_icmp .ge 8, 70, [75])) (cond (Nat.beq pc 70) (some (.iload 4, 72, [])) (none))))))) (cond (Nat.ble 31 pc) (cond (Nat.ble 48 pc) (cond (Nat.ble 56 pc) (cond (Nat.ble 60 pc) (cond (Nat.beq pc 60) (some (.goto 17, 63, [77])) (cond (Nat.beq pc 63) (some (.iload 6, 65, [])) (cond (Nat.beq pc 65) (some (.bipush 16, 67, [])) (none)))) (cond (Nat.beq pc 56) (some (.if_icmp .ge 7, 59, [63])) (cond (Nat.beq pc 59) (some (.iload_n 3, 60, [])) (none)))) (cond (Nat.ble 52 pc) (cond (Nat.beq pc 52) (some (.iload 6, 54, [])) (cond (Nat.beq pc 54) (some (.bipush 12, 56, [])) (none))) (cond (Nat.beq pc 48) (some (.iload_n 2, 49, [])) (cond (Nat.beq pc 49) (some (.goto 28, 52, [77])) (none))))) (cond (Nat.ble 38 pc) (cond (Nat.ble 43 pc) (cond (Nat.beq pc 43) (some (.bipush 8, 45, [])) (cond (Nat.beq pc 45) (some (.if_icmp .ge 7, 48, [52])) (none))) (cond (Nat.beq pc 38) (some (.goto 39, 41, [77])) (cond (Nat.beq pc 41) (some (.iload 6, 43, [])) (none)))) (cond (Nat.ble 34 pc) (cond (Nat.beq pc 34) (some (.if_icmp .ge 7, 37, [41])) (cond (Nat.beq pc 37) (some (.iload_n 1, 38, [])) (none))) (cond (Nat.beq pc 31) (some (.iload 6, 33, [])) (cond (Nat.beq pc 33) (some (.iconst 4, 34, [])) (none)))))) (cond (Nat.ble 15 pc) (cond (Nat.ble 22 pc) (cond (Nat.ble 26 pc) (cond (Nat.beq pc 26) (some (.bipush 20, 28, [])) (cond (Nat.beq pc 28) (some (.if_icmp .ge 86, 31, [114])) (none))) (cond (Nat.beq pc 22) (some (.istore 6, 24, [])) (cond (Nat.beq pc 24) (some (.iload 6, 26, [])) (none)))) (cond (Nat.ble 20 pc) (cond (Nat.beq pc 20) (some (.ireturn, 21, [])) (cond (Nat.beq pc 21) (some (.iconst 0, 22, [])) (none))) (cond (Nat.beq pc 15) (some (.if_icmp .le 6, 18, [21])) (cond (Nat.beq pc 18) (some (.bipush (-3), 20, [])) (none))))) (cond (Nat.ble 6 pc) (cond (Nat.ble 11 pc) (cond (Nat.beq pc 11) (some (.iadd, 12, [])) (cond (Nat.beq pc 12) (some (.sipush 800, 15, [])) (none))) (cond (Nat.beq pc 6) (some (.getfield 73, 9, [])) (cond (Nat.beq pc 9) (some (.bipush 20, 11, [])) (none)))) (cond (Nat.ble 2 pc) (cond (Nat.beq pc 2) (some (.putfield 70, 5, [])) (cond (Nat.beq pc 5) (some (.aload_n 0, 6, [])) (none))) (cond (Nat.beq pc 0) (some (.aload_n 0, 1, [])) (cond (Nat.beq pc 1) (some (.iconst 0, 2, [])) (none))))))))
theorem qkX9_feed_ok : ∀ pc i nx ts, qkX9_feed pc = some (i, nx, ts) → am_cok cX9_feed pc (i, nx, ts) = true := fun pc i nx ts h => am_tok_ok (n := 130) (by decide +kernel) (fun pc h => by show cond (Nat.ble 130 pc) _ _ = _; rw [Nat.ble_eq_true_of_le h]; rfl) h
def qaX9_feed : Nat → Option CE := fun k => none
theorem qyX9_feed (l : Launch) : ∀ k e1, qaX9_feed k = some e1 → am_cal l layM RX9 3 k e1 ∧ ceT e1 = 0 := q_nil
def qxX9_feed : CX := (qkX9_feed, layM, qfX9, qaX9_feed, qcX9, qlX9, qmX9, (some .int), false, none, 0, none, fun _ => none)
theorem qzX9_feed (l : Launch) : am_sta l qxX9_feed RX9 3 cX9_feed := ⟨qkX9_feed_ok, layM_ok, qfX9_ok, qcX9_ok, qlX9_ok, am_mthP qmX9_ok (by decide), fun k e1 h => (qyX9_feed l k e1 h).1⟩
def qsX9_feed : SP := fun as F A K => match as with
  | [.inr (.inr o), .inl a, .inl b, .inl c, .inl d, .inl e] => cond (Nat.beq o 25) ((0 ≤ (F 25 2) ∧ (F 25 2) ≤ 800) ∧ (∀ (G_1 : FF) (B_1 : AA), (((F 25 2) ≤ 780 → G_1 = upF (upF F 25 0 0) 25 2 ((F 25 2) + 20) ∧ B_1 = setR A 26 ((F 25 2)) 20 (fun kk => fdF a b c d e kk % 256)) ∧ (¬ (F 25 2) ≤ 780 → G_1 = upF F 25 0 0 ∧ B_1 = A)) → (K (some (some (vI (if (F 25 2) ≤ 780 then (F 25 2) + 20 else -3)))) G_1 B_1))) (False)
  | _ => False
def qeX9_feed : CE := (yX9_feed, cX9_feed, 8, (some .int), 5, some 9, 0, [], 0, 3, qsX9_feed)
theorem qbX9_feed : am_mb qeX9_feed := ⟨am_tb_at 1488 (by decide +kernel) rfl, am_tb_at 124 (by decide +kernel) rfl, ⟨by decide, by decide, by decide +kernel⟩, by decide, by decide, am_tb_at 1486 (by decide +kernel) rfl, am_tb_at 1487 (by decide +kernel) rfl, _, _, rfl⟩
def qnX9_feed_25 : CUT := fun pc => cond (Nat.beq pc 24) (some [true, true, true, true, true, true, true, false]) (none)
def qiX9_feed_25 (a : Int) (b : Int) (c : Int) (d : Int) (e : Int) (F0 : FF) (A0 : AA) : REC := fun pc ls st F A u => cond (Nat.beq pc 24) (match ls, st, u with
    | [some (.inr (.inr s0)), some (.inl s1), some (.inl s2), some (.inl s3), some (.inl s4), some (.inl s5), some (.inl k), none], [], 0 => s0 = 25 ∧ s1 = a ∧ s2 = b ∧ s3 = c ∧ s4 = d ∧ s5 = e ∧ (F0 25 2 ≤ 780 ∧ (0 ≤ k ∧ k ≤ 20) ∧ F = upF F0 25 0 0 ∧ A = setR A0 26 (F0 25 2) k (fun kk => fdF a b c d e kk % 256))
    | _, _, _ => False) (False)
def quX9_feed_25 : Nat → LVs → List AV → FF → AA → Nat := fun pc ls _ F A => cond (Nat.beq pc 24) (match ls with
    | [some (.inr (.inr s0)), some (.inl s1), some (.inl s2), some (.inl s3), some (.inl s4), some (.inl s5), some (.inl k), none] => Int.toNat (30 - k)
    | _ => 0) (0)
set_option maxRecDepth 20000 in
theorem qvX9_feed_25_0 (a : Int) (b : Int) (c : Int) (d : Int) (e : Int) (F0 : FF) (A0 : AA) (K : KK) (h : (0 ≤ (F0 25 2) ∧ (F0 25 2) ≤ 800) ∧ (∀ (G_1 : FF) (B_1 : AA), (((F0 25 2) ≤ 780 → G_1 = upF (upF F0 25 0 0) 25 2 ((F0 25 2) + 20) ∧ B_1 = setR A0 26 ((F0 25 2)) 20 (fun kk => fdF a b c d e kk % 256)) ∧ (¬ (F0 25 2) ≤ 780 → G_1 = upF F0 25 0 0 ∧ B_1 = A0)) → (K (some (some (vI (if (F0 25 2) ≤ 780 then (F0 25 2) + 20 else -3)))) G_1 B_1))) : am_stp qxX9_feed (am_run qxX9_feed qnX9_feed_25 (qiX9_feed_25 a b c d e F0 A0) K 41) K 0 (am_ent [vR 25, vI a, vI b, vI c, vI d, vI e] 8) [] F0 A0 0 := by
  show am_stp qxX9_feed (am_run qxX9_feed qnX9_feed_25 (qiX9_feed_25 a b c d e F0 A0) K 41) K 0 [some (vR 25), some (vI a), some (vI b), some (vI c), some (vI d), some (vI e), none, none] [] F0 A0 0
  obtain ⟨hp, h⟩ := h
  show (w32 800 < w32 ((F0 25 2) + 20) → (K (some (some (vI (-3)))) (upF F0 25 0 0) A0)) ∧ (¬ w32 800 < w32 ((F0 25 2) + 20) → (25 = 25 ∧ a = a ∧ b = b ∧ c = c ∧ d = d ∧ e = e ∧ (F0 25 2 ≤ 780 ∧ (0 ≤ 0 ∧ 0 ≤ 20) ∧ (upF F0 25 0 0) = upF F0 25 0 0 ∧ A0 = setR A0 26 (F0 25 2) 0 (fun kk => fdF a b c d e kk % 256))))
  refine ⟨fun c1 => ?_, fun c1 => ?_⟩
  · skip
    (try simp (disch := omega) only [w32_id] at c1)
    exact K_eq (h _ _ ⟨fun z => absurd z (by omega), fun _ => ⟨rfl, rfl⟩⟩) (if_neg (by omega))
  · skip
    (try simp (disch := omega) only [w32_id] at c1)
    refine ⟨rfl, rfl, rfl, rfl, rfl, rfl, ?_⟩
    exact ⟨by omega, by omega, rfl, setR_0.symm⟩
set_option maxRecDepth 20000 in
theorem qvX9_feed_25_24 (a : Int) (b : Int) (c : Int) (d : Int) (e : Int) (F0 : FF) (A0 : AA) (K : KK) (h : (0 ≤ (F0 25 2) ∧ (F0 25 2) ≤ 800) ∧ (∀ (G_1 : FF) (B_1 : AA), (((F0 25 2) ≤ 780 → G_1 = upF (upF F0 25 0 0) 25 2 ((F0 25 2) + 20) ∧ B_1 = setR A0 26 ((F0 25 2)) 20 (fun kk => fdF a b c d e kk % 256)) ∧ (¬ (F0 25 2) ≤ 780 → G_1 = upF F0 25 0 0 ∧ B_1 = A0)) → (K (some (some (vI (if (F0 25 2) ≤ 780 then (F0 25 2) + 20 else -3)))) G_1 B_1))) (k : Int) (F : FF) (A : AA) (hi : F0 25 2 ≤ 780 ∧ (0 ≤ k ∧ k ≤ 20) ∧ F = upF F0 25 0 0 ∧ A = setR A0 26 (F0 25 2) k (fun kk => fdF a b c d e kk % 256)) : am_stp qxX9_feed (am_run qxX9_feed qnX9_feed_25 (fun pc ls st F9 A9 u => qiX9_feed_25 a b c d e F0 A0 pc ls st F9 A9 u ∧ quX9_feed_25 pc ls st F9 A9 < quX9_feed_25 24 [some (vR 25), some (vI a), some (vI b), some (vI c), some (vI d), some (vI e), some (vI k), none] [] F A) K 41) K 24 [some (vR 25), some (vI a), some (vI b), some (vI c), some (vI d), some (vI e), some (vI k), none] [] F A 0 := by
  obtain ⟨hp, h⟩ := h
  obtain ⟨h0, h1, h2, h3⟩ := hi
  have f2 : F 25 2 = F0 25 2 := by rw [h2, upF_o (by decide)]
  show (w32 k < w32 20 → ((w32 k < w32 4 → ((w32 4 ≠ 0) ∧ ((0 ≤ w32 ((F 25 2) + k) ∧ w32 ((F 25 2) + k) < 800) ∧ ((25 = 25 ∧ a = a ∧ b = b ∧ c = c ∧ d = d ∧ e = e ∧ (F0 25 2 ≤ 780 ∧ (0 ≤ (k + 1) ∧ (k + 1) ≤ 20) ∧ F = upF F0 25 0 0 ∧ (upA A 26 (w32 ((F 25 2) + k)) (x_and (x_shr a (24 - (8 * (x_rem k 4)))) 255)) = setR A0 26 (F0 25 2) (k + 1) (fun kk => fdF a b c d e kk % 256))) ∧ (Int.toNat (30 - (k + 1))) < (Int.toNat (30 - k)))))) ∧ (¬ w32 k < w32 4 → ((w32 k < w32 8 → ((w32 4 ≠ 0) ∧ ((0 ≤ w32 ((F 25 2) + k) ∧ w32 ((F 25 2) + k) < 800) ∧ ((25 = 25 ∧ a = a ∧ b = b ∧ c = c ∧ d = d ∧ e = e ∧ (F0 25 2 ≤ 780 ∧ (0 ≤ (k + 1) ∧ (k + 1) ≤ 20) ∧ F = upF F0 25 0 0 ∧ (upA A 26 (w32 ((F 25 2) + k)) (x_and (x_shr b (24 - (8 * (x_rem k 4)))) 255)) = setR A0 26 (F0 25 2) (k + 1) (fun kk => fdF a b c d e kk % 256))) ∧ (Int.toNat (30 - (k + 1))) < (Int.toNat (30 - k)))))) ∧ (¬ w32 k < w32 8 → ((w32 k < w32 12 → ((w32 4 ≠ 0) ∧ ((0 ≤ w32 ((F 25 2) + k) ∧ w32 ((F 25 2) + k) < 800) ∧ ((25 = 25 ∧ a = a ∧ b = b ∧ c = c ∧ d = d ∧ e = e ∧ (F0 25 2 ≤ 780 ∧ (0 ≤ (k + 1) ∧ (k + 1) ≤ 20) ∧ F = upF F0 25 0 0 ∧ (upA A 26 (w32 ((F 25 2) + k)) (x_and (x_shr c (24 - (8 * (x_rem k 4)))) 255)) = setR A0 26 (F0 25 2) (k + 1) (fun kk => fdF a b c d e kk % 256))) ∧ (Int.toNat (30 - (k + 1))) < (Int.toNat (30 - k)))))) ∧ (¬ w32 k < w32 12 → ((w32 k < w32 16 → ((w32 4 ≠ 0) ∧ ((0 ≤ w32 ((F 25 2) + k) ∧ w32 ((F 25 2) + k) < 800) ∧ ((25 = 25 ∧ a = a ∧ b = b ∧ c = c ∧ d = d ∧ e = e ∧ (F0 25 2 ≤ 780 ∧ (0 ≤ (k + 1) ∧ (k + 1) ≤ 20) ∧ F = upF F0 25 0 0 ∧ (upA A 26 (w32 ((F 25 2) + k)) (x_and (x_shr d (24 - (8 * (x_rem k 4)))) 255)) = setR A0 26 (F0 25 2) (k + 1) (fun kk => fdF a b c d e kk % 256))) ∧ (Int.toNat (30 - (k + 1))) < (Int.toNat (30 - k)))))) ∧ (¬ w32 k < w32 16 → ((w32 4 ≠ 0) ∧ ((0 ≤ w32 ((F 25 2) + k) ∧ w32 ((F 25 2) + k) < 800) ∧ ((25 = 25 ∧ a = a ∧ b = b ∧ c = c ∧ d = d ∧ e = e ∧ (F0 25 2 ≤ 780 ∧ (0 ≤ (k + 1) ∧ (k + 1) ≤ 20) ∧ F = upF F0 25 0 0 ∧ (upA A 26 (w32 ((F 25 2) + k)) (x_and (x_shr e (24 - (8 * (x_rem k 4)))) 255)) = setR A0 26 (F0 25 2) (k + 1) (fun kk => fdF a b c d e kk % 256))) ∧ (Int.toNat (30 - (k + 1))) < (Int.toNat (30 - k)))))))))))))) ∧ (¬ w32 k < w32 20 → (K (some (some (vI ((F 25 2) + 20)))) (upF F 25 2 ((F 25 2) + 20)) A))
  refine ⟨fun c1 => ?_, fun c1 => ?_⟩
  · skip
    (try simp (disch := omega) only [w32_id] at c1)
    refine ⟨fun c2 => ?_, fun c2 => ?_⟩
    · skip
      (try simp (disch := omega) only [w32_id] at c2)
      refine ⟨by first | decide | (rw [f2, w32_id (by omega) (by omega)]; omega), ?_⟩
      refine ⟨by first | decide | (rw [f2, w32_id (by omega) (by omega)]; omega), ?_⟩
      refine ⟨⟨rfl, rfl, rfl, rfl, rfl, rfl, ?_⟩, by omega⟩
      refine ⟨h0, by omega, h2, ?_⟩
      have ed : x_rem k 4 = k % 4 := x_rem_eq h1.1 (by omega) (by omega) (by omega)
      rw [f2, w32_id (x := F0 25 2 + k) (by omega) (by omega), h3, x_and255, ed, x_shr_eq (by omega) (by omega)]
      refine setR_push h1.1 (fun _ _ _ => rfl) ?_
      unfold fdF byF p2
      first
      | (rw [if_pos (show k < 4 by omega)]; omega)
      | (rw [if_neg (show ¬ k < 4 by omega), if_pos (show k < 8 by omega)]; omega)
      | (rw [if_neg (show ¬ k < 4 by omega), if_neg (show ¬ k < 8 by omega), if_pos (show k < 12 by omega)]; omega)
      | (rw [if_neg (show ¬ k < 4 by omega), if_neg (show ¬ k < 8 by omega), if_neg (show ¬ k < 12 by omega), if_pos (show k < 16 by omega)]; omega)
      | (rw [if_neg (show ¬ k < 4 by omega), if_neg (show ¬ k < 8 by omega), if_neg (show ¬ k < 12 by omega), if_neg (show ¬ k < 16 by omega)]; omega)
    · skip
      (try simp (disch := omega) only [w32_id] at c2)
      refine ⟨fun c3 => ?_, fun c3 => ?_⟩
      · skip
        (try simp (disch := omega) only [w32_id] at c3)
        refine ⟨by first | decide | (rw [f2, w32_id (by omega) (by omega)]; omega), ?_⟩
        refine ⟨by first | decide | (rw [f2, w32_id (by omega) (by omega)]; omega), ?_⟩
        refine ⟨⟨rfl, rfl, rfl, rfl, rfl, rfl, ?_⟩, by omega⟩
        refine ⟨h0, by omega, h2, ?_⟩
        have ed : x_rem k 4 = k % 4 := x_rem_eq h1.1 (by omega) (by omega) (by omega)
        rw [f2, w32_id (x := F0 25 2 + k) (by omega) (by omega), h3, x_and255, ed, x_shr_eq (by omega) (by omega)]
        refine setR_push h1.1 (fun _ _ _ => rfl) ?_
        unfold fdF byF p2
        first
        | (rw [if_pos (show k < 4 by omega)]; omega)
        | (rw [if_neg (show ¬ k < 4 by omega), if_pos (show k < 8 by omega)]; omega)
        | (rw [if_neg (show ¬ k < 4 by omega), if_neg (show ¬ k < 8 by omega), if_pos (show k < 12 by omega)]; omega)
        | (rw [if_neg (show ¬ k < 4 by omega), if_neg (show ¬ k < 8 by omega), if_neg (show ¬ k < 12 by omega), if_pos (show k < 16 by omega)]; omega)
        | (rw [if_neg (show ¬ k < 4 by omega), if_neg (show ¬ k < 8 by omega), if_neg (show ¬ k < 12 by omega), if_neg (show ¬ k < 16 by omega)]; omega)
      · skip
        (try simp (disch := omega) only [w32_id] at c3)
        refine ⟨fun c4 => ?_, fun c4 => ?_⟩
        · skip
          (try simp (disch := omega) only [w32_id] at c4)
          refine ⟨by first | decide | (rw [f2, w32_id (by omega) (by omega)]; omega), ?_⟩
          refine ⟨by first | decide | (rw [f2, w32_id (by omega) (by omega)]; omega), ?_⟩
          refine ⟨⟨rfl, rfl, rfl, rfl, rfl, rfl, ?_⟩, by omega⟩
          refine ⟨h0, by omega, h2, ?_⟩
          have ed : x_rem k 4 = k % 4 := x_rem_eq h1.1 (by omega) (by omega) (by omega)
          rw [f2, w32_id (x := F0 25 2 + k) (by omega) (by omega), h3, x_and255, ed, x_shr_eq (by omega) (by omega)]
          refine setR_push h1.1 (fun _ _ _ => rfl) ?_
          unfold fdF byF p2
          first
          | (rw [if_pos (show k < 4 by omega)]; omega)
          | (rw [if_neg (show ¬ k < 4 by omega), if_pos (show k < 8 by omega)]; omega)
          | (rw [if_neg (show ¬ k < 4 by omega), if_neg (show ¬ k < 8 by omega), if_pos (show k < 12 by omega)]; omega)
          | (rw [if_neg (show ¬ k < 4 by omega), if_neg (show ¬ k < 8 by omega), if_neg (show ¬ k < 12 by omega), if_pos (show k < 16 by omega)]; omega)
          | (rw [if_neg (show ¬ k < 4 by omega), if_neg (show ¬ k < 8 by omega), if_neg (show ¬ k < 12 by omega), if_neg (show ¬ k < 16 by omega)]; omega)
        · skip
          (try simp (disch := omega) only [w32_id] at c4)
          refine ⟨fun c5 => ?_, fun c5 => ?_⟩
          · skip
            (try simp (disch := omega) only [w32_id] at c5)
            refine ⟨by first | decide | (rw [f2, w32_id (by omega) (by omega)]; omega), ?_⟩
            refine ⟨by first | decide | (rw [f2, w32_id (by omega) (by omega)]; omega), ?_⟩
            refine ⟨⟨rfl, rfl, rfl, rfl, rfl, rfl, ?_⟩, by omega⟩
            refine ⟨h0, by omega, h2, ?_⟩
            have ed : x_rem k 4 = k % 4 := x_rem_eq h1.1 (by omega) (by omega) (by omega)
            rw [f2, w32_id (x := F0 25 2 + k) (by omega) (by omega), h3, x_and255, ed, x_shr_eq (by omega) (by omega)]
            refine setR_push h1.1 (fun _ _ _ => rfl) ?_
            unfold fdF byF p2
            first
            | (rw [if_pos (show k < 4 by omega)]; omega)
            | (rw [if_neg (show ¬ k < 4 by omega), if_pos (show k < 8 by omega)]; omega)
            | (rw [if_neg (show ¬ k < 4 by omega), if_neg (show ¬ k < 8 by omega), if_pos (show k < 12 by omega)]; omega)
            | (rw [if_neg (show ¬ k < 4 by omega), if_neg (show ¬ k < 8 by omega), if_neg (show ¬ k < 12 by omega), if_pos (show k < 16 by omega)]; omega)
            | (rw [if_neg (show ¬ k < 4 by omega), if_neg (show ¬ k < 8 by omega), if_neg (show ¬ k < 12 by omega), if_neg (show ¬ k < 16 by omega)]; omega)
          · skip
            (try simp (disch := omega) only [w32_id] at c5)
            refine ⟨by first | decide | (rw [f2, w32_id (by omega) (by omega)]; omega), ?_⟩
            refine ⟨by first | decide | (rw [f2, w32_id (by omega) (by omega)]; omega), ?_⟩
            refine ⟨⟨rfl, rfl, rfl, rfl, rfl, rfl, ?_⟩, by omega⟩
            refine ⟨h0, by omega, h2, ?_⟩
            have ed : x_rem k 4 = k % 4 := x_rem_eq h1.1 (by omega) (by omega) (by omega)
            rw [f2, w32_id (x := F0 25 2 + k) (by omega) (by omega), h3, x_and255, ed, x_shr_eq (by omega) (by omega)]
            refine setR_push h1.1 (fun _ _ _ => rfl) ?_
            unfold fdF byF p2
            first
            | (rw [if_pos (show k < 4 by omega)]; omega)
            | (rw [if_neg (show ¬ k < 4 by omega), if_pos (show k < 8 by omega)]; omega)
            | (rw [if_neg (show ¬ k < 4 by omega), if_neg (show ¬ k < 8 by omega), if_pos (show k < 12 by omega)]; omega)
            | (rw [if_neg (show ¬ k < 4 by omega), if_neg (show ¬ k < 8 by omega), if_neg (show ¬ k < 12 by omega), if_pos (show k < 16 by omega)]; omega)
            | (rw [if_neg (show ¬ k < 4 by omega), if_neg (show ¬ k < 8 by omega), if_neg (show ¬ k < 12 by omega), if_neg (show ¬ k < 16 by omega)]; omega)
  · skip
    (try simp (disch := omega) only [w32_id] at c1)
    have ek : k = 20 := by omega
    subst ek
    refine K_eq (h _ _ ⟨fun _ => ⟨by rw [f2, h2], h3⟩, fun z => absurd h0 z⟩) ?_
    rw [if_pos h0]
    first | (rw [f2]; done) | (rw [upF_s, f2]; done) | rfl
set_option maxRecDepth 20000 in
theorem qvX9_feed_25 (a : Int) (b : Int) (c : Int) (d : Int) (e : Int) (F0 : FF) (A0 : AA) (K : KK) (h : (0 ≤ (F0 25 2) ∧ (F0 25 2) ≤ 800) ∧ (∀ (G_1 : FF) (B_1 : AA), (((F0 25 2) ≤ 780 → G_1 = upF (upF F0 25 0 0) 25 2 ((F0 25 2) + 20) ∧ B_1 = setR A0 26 ((F0 25 2)) 20 (fun kk => fdF a b c d e kk % 256)) ∧ (¬ (F0 25 2) ≤ 780 → G_1 = upF F0 25 0 0 ∧ B_1 = A0)) → (K (some (some (vI (if (F0 25 2) ≤ 780 then (F0 25 2) + 20 else -3)))) G_1 B_1))) : am_body qxX9_feed qnX9_feed_25 41 (qiX9_feed_25 a b c d e F0 A0) quX9_feed_25 [vR 25, vI a, vI b, vI c, vI d, vI e] 8 F0 A0 K := by
  refine ⟨qvX9_feed_25_0 a b c d e F0 A0 K h, fun pc ls st F A u hI => ?_⟩
  unfold qiX9_feed_25 at hI
  replace hI := am_cond2 hI
  rcases hI with ⟨hb, hI⟩ | hI
  · have hb := am_bq hb
    subst hb
    split at hI
    · rename_i s0 s1 s2 s3 s4 s5 k
      obtain ⟨e0, e1, e2, e3, e4, e5, hI⟩ := hI
      subst e0
      subst e1
      subst e2
      subst e3
      subst e4
      subst e5
      exact qvX9_feed_25_24 _ _ _ _ _ _ _ K h _ _ _ hI
    · exact hI.elim
  exact hI.elim
theorem qtX9_feed (l : Launch) : am_CT l layM qeX9_feed := am_met0 rfl (by decide +kernel) rfl rfl rfl rfl rfl (fun _ => rfl) rfl (qzX9_feed l) (fun k e1 h => (qyX9_feed l k e1 h).2) (fun as F A K h => by
  replace h : qsX9_feed as F A K := h
  unfold qsX9_feed at h
  split at h
  · rename_i o a b c d e
    refine ⟨by first | exact Nat.le_of_ble_eq_true rfl | simp [am_fl, am_cat], ?_⟩
    replace h := am_cond2 h
    rcases h with ⟨hb, h⟩ | h
    · skip
      have hb0 := hb
      have hb0 := am_bq hb0
      subst hb0
      exact am_way_body (qvX9_feed_25 a b c d e F A K h)
    exact h.elim
  · exact h.elim)
def qkX9_copies : Nat → Option CI := fun pc => cond (Nat.ble 21 pc) none (cond (Nat.ble 9 pc) (cond (Nat.ble 13 pc) (cond (Nat.ble 17 pc) (cond (Nat.beq pc 17) (some (.goto (-15), 20, [2])) (cond (Nat.beq pc 20) (some (.return_, 21, [])) (none))) (cond (Nat.beq pc 13) (some (.iastore, 14, [])) (cond (Nat.beq pc 14) (some (.iinc 2 1, 17, [])) (none)))) (cond (Nat.ble 11 pc) (cond (Nat.beq pc 11) (some (.iload_n 2, 12, [])) (cond (Nat.beq pc 12) (some (.iaload, 13, [])) (none))) (cond (Nat.beq pc 9) (some (.iload_n 2, 10, [])) (cond (Nat.beq pc 10) (some (.aload_n 0, 11, [])) (none))))) (cond (Nat.ble 3 pc) (cond (Nat.ble 5 pc) (cond (Nat.beq pc 5) (some (.if_icmp .ge 15, 8, [20])) (cond (Nat.beq pc 8) (some (.aload_n 1, 9, [])) (none))) (cond (Nat.beq pc 3) (some (.aload_n 0, 4, [])) (cond (Nat.beq pc 4) (some (.arraylength, 5, [])) (none)))) (cond (Nat.beq pc 0) (some (.iconst 0, 1, [])) (cond (Nat.beq pc 1) (some (.istore_n 2, 2, [])) (cond (Nat.beq pc 2) (some (.iload_n 2, 3, [])) (none))))))
theorem qkX9_copies_ok : ∀ pc i nx ts, qkX9_copies pc = some (i, nx, ts) → am_cok cX9_copies pc (i, nx, ts) = true := fun pc i nx ts h => am_tok_ok (n := 21) (by decide +kernel) (fun pc h => by show cond (Nat.ble 21 pc) _ _ = _; rw [Nat.ble_eq_true_of_le h]; rfl) h
def qaX9_copies : Nat → Option CE := fun k => none
theorem qyX9_copies (l : Launch) : ∀ k e1, qaX9_copies k = some e1 → am_cal l layM RX9 3 k e1 ∧ ceT e1 = 0 := q_nil
def qxX9_copies : CX := (qkX9_copies, layM, qfX9, qaX9_copies, qcX9, qlX9, qmX9, none, false, none, 0, none, fun _ => none)
theorem qzX9_copies (l : Launch) : am_sta l qxX9_copies RX9 3 cX9_copies := ⟨qkX9_copies_ok, layM_ok, qfX9_ok, qcX9_ok, qlX9_ok, am_mthP qmX9_ok (by decide), fun k e1 h => (qyX9_copies l k e1 h).1⟩
def qsX9_copies : SP := fun as F A K => match as with
  | [.inr (.inr f), .inr (.inr t)] => cond (Nat.beq f 27 && Nat.beq t 28) (K (some none) F (setR A 28 0 16 (A 27))) (cond (Nat.beq f 29 && Nat.beq t 30) (K (some none) F (setR A 30 0 124 (A 29))) (cond (Nat.beq f 28 && Nat.beq t 27) (K (some none) F (setR A 27 0 16 (A 28))) (cond (Nat.beq f 30 && Nat.beq t 29) (K (some none) F (setR A 29 0 124 (A 30))) (False))))
  | _ => False
def qeX9_copies : CE := (yX9_copies, cX9_copies, 3, none, 2, none, 0, [], 0, 3, qsX9_copies)
theorem qbX9_copies : am_mb qeX9_copies := ⟨am_tb_at 1495 (by decide +kernel) rfl, am_tb_at 124 (by decide +kernel) rfl, ⟨by decide, by decide, by decide +kernel⟩, by decide, am_tb_at 1494 (by decide +kernel) rfl⟩
def qnX9_copies_27_28 : CUT := fun pc => cond (Nat.beq pc 2) (some [true, true, true]) (none)
def qiX9_copies_27_28  (F0 : FF) (A0 : AA) : REC := fun pc ls st F A u => cond (Nat.beq pc 2) (match ls, st, u with
    | [some (.inr (.inr s0)), some (.inr (.inr s1)), some (.inl k)], [], 0 => s0 = 27 ∧ s1 = 28 ∧ F = F0 ∧ ((0 ≤ k ∧ k ≤ 16) ∧ A = setR A0 28 0 k (A0 27))
    | _, _, _ => False) (False)
def quX9_copies_27_28 : Nat → LVs → List AV → FF → AA → Nat := fun pc ls _ F A => cond (Nat.beq pc 2) (match ls with
    | [some (.inr (.inr s0)), some (.inr (.inr s1)), some (.inl k)] => Int.toNat (200 - k)
    | _ => 0) (0)
set_option maxRecDepth 20000 in
theorem qvX9_copies_27_28_0  (F0 : FF) (A0 : AA) (K : KK) (h : K (some none) F0 (setR A0 28 0 16 (A0 27))) : am_stp qxX9_copies (am_run qxX9_copies qnX9_copies_27_28 (qiX9_copies_27_28  F0 A0) K 15) K 0 (am_ent [vR 27, vR 28] 3) [] F0 A0 0 := by
  show am_stp qxX9_copies (am_run qxX9_copies qnX9_copies_27_28 (qiX9_copies_27_28  F0 A0) K 15) K 0 [some (vR 27), some (vR 28), none] [] F0 A0 0
  show 27 = 27 ∧ 28 = 28 ∧ F0 = F0 ∧ ((0 ≤ 0 ∧ 0 ≤ 16) ∧ A0 = setR A0 28 0 0 (A0 27))
  refine ⟨rfl, rfl, rfl, ?_⟩
  exact ⟨by decide, setR_0.symm⟩
set_option maxRecDepth 20000 in
theorem qvX9_copies_27_28_2  (F0 : FF) (A0 : AA) (K : KK) (h : K (some none) F0 (setR A0 28 0 16 (A0 27))) (k : Int) (A : AA) (hi : (0 ≤ k ∧ k ≤ 16) ∧ A = setR A0 28 0 k (A0 27)) : am_stp qxX9_copies (am_run qxX9_copies qnX9_copies_27_28 (fun pc ls st F9 A9 u => qiX9_copies_27_28  F0 A0 pc ls st F9 A9 u ∧ quX9_copies_27_28 pc ls st F9 A9 < quX9_copies_27_28 2 [some (vR 27), some (vR 28), some (vI k)] [] F0 A) K 15) K 2 [some (vR 27), some (vR 28), some (vI k)] [] F0 A 0 := by
  obtain ⟨h1, h2⟩ := hi
  show (w32 k < w32 16 → ((0 ≤ w32 k ∧ w32 k < 16) ∧ ((0 ≤ w32 k ∧ w32 k < 16) ∧ ((27 = 27 ∧ 28 = 28 ∧ F0 = F0 ∧ ((0 ≤ (k + 1) ∧ (k + 1) ≤ 16) ∧ (upA A 28 (w32 k) (A 27 (w32 k))) = setR A0 28 0 (k + 1) (A0 27))) ∧ (Int.toNat (200 - (k + 1))) < (Int.toNat (200 - k)))))) ∧ (¬ w32 k < w32 16 → (K (some none) F0 A))
  refine ⟨fun c1 => ?_, fun c1 => ?_⟩
  · skip
    (try simp (disch := omega) only [w32_id] at c1); (try rw [w32_id (by decide) (by decide)] at c1)
    refine ⟨by first | omega | (rw [w32_id (by omega) (by omega)]; omega), ?_⟩
    refine ⟨by first | omega | (rw [w32_id (by omega) (by omega)]; omega), ?_⟩
    refine ⟨⟨rfl, rfl, rfl, ?_⟩, by omega⟩
    rw [w32_id (x := k) (by omega) (by omega)]
    refine ⟨by omega, ?_⟩
    have e9 := setR_push (A := A0) (a := 28) (s := 0) (n := k) (v := A 27 k) (g := A0 27) (g' := A0 27) h1.1 (fun _ _ _ => rfl) (by rw [h2, setR_o (by decide)])
    rw [Int.zero_add] at e9
    rw [← e9, ← h2]
  · skip
    (try simp (disch := omega) only [w32_id] at c1); (try rw [w32_id (by decide) (by decide)] at c1)
    have ek : k = 16 := by omega
    subst ek
    rw [h2]; exact h
set_option maxRecDepth 20000 in
theorem qvX9_copies_27_28  (F0 : FF) (A0 : AA) (K : KK) (h : K (some none) F0 (setR A0 28 0 16 (A0 27))) : am_body qxX9_copies qnX9_copies_27_28 15 (qiX9_copies_27_28  F0 A0) quX9_copies_27_28 [vR 27, vR 28] 3 F0 A0 K := by
  refine ⟨qvX9_copies_27_28_0  F0 A0 K h, fun pc ls st F A u hI => ?_⟩
  unfold qiX9_copies_27_28 at hI
  replace hI := am_cond2 hI
  rcases hI with ⟨hb, hI⟩ | hI
  · have hb := am_bq hb
    subst hb
    split at hI
    · rename_i s0 s1 k
      obtain ⟨e0, e1, e2, hI⟩ := hI
      subst e0
      subst e1
      subst e2
      exact qvX9_copies_27_28_2  _ _ K h _ _ hI
    · exact hI.elim
  exact hI.elim
def qnX9_copies_29_30 : CUT := fun pc => cond (Nat.beq pc 2) (some [true, true, true]) (none)
def qiX9_copies_29_30  (F0 : FF) (A0 : AA) : REC := fun pc ls st F A u => cond (Nat.beq pc 2) (match ls, st, u with
    | [some (.inr (.inr s0)), some (.inr (.inr s1)), some (.inl k)], [], 0 => s0 = 29 ∧ s1 = 30 ∧ F = F0 ∧ ((0 ≤ k ∧ k ≤ 124) ∧ A = setR A0 30 0 k (A0 29))
    | _, _, _ => False) (False)
def quX9_copies_29_30 : Nat → LVs → List AV → FF → AA → Nat := fun pc ls _ F A => cond (Nat.beq pc 2) (match ls with
    | [some (.inr (.inr s0)), some (.inr (.inr s1)), some (.inl k)] => Int.toNat (200 - k)
    | _ => 0) (0)
set_option maxRecDepth 20000 in
theorem qvX9_copies_29_30_0  (F0 : FF) (A0 : AA) (K : KK) (h : K (some none) F0 (setR A0 30 0 124 (A0 29))) : am_stp qxX9_copies (am_run qxX9_copies qnX9_copies_29_30 (qiX9_copies_29_30  F0 A0) K 15) K 0 (am_ent [vR 29, vR 30] 3) [] F0 A0 0 := by
  show am_stp qxX9_copies (am_run qxX9_copies qnX9_copies_29_30 (qiX9_copies_29_30  F0 A0) K 15) K 0 [some (vR 29), some (vR 30), none] [] F0 A0 0
  show 29 = 29 ∧ 30 = 30 ∧ F0 = F0 ∧ ((0 ≤ 0 ∧ 0 ≤ 124) ∧ A0 = setR A0 30 0 0 (A0 29))
  refine ⟨rfl, rfl, rfl, ?_⟩
  exact ⟨by decide, setR_0.symm⟩
set_option maxRecDepth 20000 in
theorem qvX9_copies_29_30_2  (F0 : FF) (A0 : AA) (K : KK) (h : K (some none) F0 (setR A0 30 0 124 (A0 29))) (k : Int) (A : AA) (hi : (0 ≤ k ∧ k ≤ 124) ∧ A = setR A0 30 0 k (A0 29)) : am_stp qxX9_copies (am_run qxX9_copies qnX9_copies_29_30 (fun pc ls st F9 A9 u => qiX9_copies_29_30  F0 A0 pc ls st F9 A9 u ∧ quX9_copies_29_30 pc ls st F9 A9 < quX9_copies_29_30 2 [some (vR 29), some (vR 30), some (vI k)] [] F0 A) K 15) K 2 [some (vR 29), some (vR 30), some (vI k)] [] F0 A 0 := by
  obtain ⟨h1, h2⟩ := hi
  show (w32 k < w32 124 → ((0 ≤ w32 k ∧ w32 k < 124) ∧ ((0 ≤ w32 k ∧ w32 k < 124) ∧ ((29 = 29 ∧ 30 = 30 ∧ F0 = F0 ∧ ((0 ≤ (k + 1) ∧ (k + 1) ≤ 124) ∧ (upA A 30 (w32 k) (A 29 (w32 k))) = setR A0 30 0 (k + 1) (A0 29))) ∧ (Int.toNat (200 - (k + 1))) < (Int.toNat (200 - k)))))) ∧ (¬ w32 k < w32 124 → (K (some none) F0 A))
  refine ⟨fun c1 => ?_, fun c1 => ?_⟩
  · skip
    (try simp (disch := omega) only [w32_id] at c1); (try rw [w32_id (by decide) (by decide)] at c1)
    refine ⟨by first | omega | (rw [w32_id (by omega) (by omega)]; omega), ?_⟩
    refine ⟨by first | omega | (rw [w32_id (by omega) (by omega)]; omega), ?_⟩
    refine ⟨⟨rfl, rfl, rfl, ?_⟩, by omega⟩
    rw [w32_id (x := k) (by omega) (by omega)]
    refine ⟨by omega, ?_⟩
    have e9 := setR_push (A := A0) (a := 30) (s := 0) (n := k) (v := A 29 k) (g := A0 29) (g' := A0 29) h1.1 (fun _ _ _ => rfl) (by rw [h2, setR_o (by decide)])
    rw [Int.zero_add] at e9
    rw [← e9, ← h2]
  · skip
    (try simp (disch := omega) only [w32_id] at c1); (try rw [w32_id (by decide) (by decide)] at c1)
    have ek : k = 124 := by omega
    subst ek
    rw [h2]; exact h
set_option maxRecDepth 20000 in
theorem qvX9_copies_29_30  (F0 : FF) (A0 : AA) (K : KK) (h : K (some none) F0 (setR A0 30 0 124 (A0 29))) : am_body qxX9_copies qnX9_copies_29_30 15 (qiX9_copies_29_30  F0 A0) quX9_copies_29_30 [vR 29, vR 30] 3 F0 A0 K := by
  refine ⟨qvX9_copies_29_30_0  F0 A0 K h, fun pc ls st F A u hI => ?_⟩
  unfold qiX9_copies_29_30 at hI
  replace hI := am_cond2 hI
  rcases hI with ⟨hb, hI⟩ | hI
  · have hb := am_bq hb
    subst hb
    split at hI
    · rename_i s0 s1 k
      obtain ⟨e0, e1, e2, hI⟩ := hI
      subst e0
      subst e1
      subst e2
      exact qvX9_copies_29_30_2  _ _ K h _ _ hI
    · exact hI.elim
  exact hI.elim
def qnX9_copies_28_27 : CUT := fun pc => cond (Nat.beq pc 2) (some [true, true, true]) (none)
def qiX9_copies_28_27  (F0 : FF) (A0 : AA) : REC := fun pc ls st F A u => cond (Nat.beq pc 2) (match ls, st, u with
    | [some (.inr (.inr s0)), some (.inr (.inr s1)), some (.inl k)], [], 0 => s0 = 28 ∧ s1 = 27 ∧ F = F0 ∧ ((0 ≤ k ∧ k ≤ 16) ∧ A = setR A0 27 0 k (A0 28))
    | _, _, _ => False) (False)
def quX9_copies_28_27 : Nat → LVs → List AV → FF → AA → Nat := fun pc ls _ F A => cond (Nat.beq pc 2) (match ls with
    | [some (.inr (.inr s0)), some (.inr (.inr s1)), some (.inl k)] => Int.toNat (200 - k)
    | _ => 0) (0)
set_option maxRecDepth 20000 in
theorem qvX9_copies_28_27_0  (F0 : FF) (A0 : AA) (K : KK) (h : K (some none) F0 (setR A0 27 0 16 (A0 28))) : am_stp qxX9_copies (am_run qxX9_copies qnX9_copies_28_27 (qiX9_copies_28_27  F0 A0) K 15) K 0 (am_ent [vR 28, vR 27] 3) [] F0 A0 0 := by
  show am_stp qxX9_copies (am_run qxX9_copies qnX9_copies_28_27 (qiX9_copies_28_27  F0 A0) K 15) K 0 [some (vR 28), some (vR 27), none] [] F0 A0 0
  show 28 = 28 ∧ 27 = 27 ∧ F0 = F0 ∧ ((0 ≤ 0 ∧ 0 ≤ 16) ∧ A0 = setR A0 27 0 0 (A0 28))
  refine ⟨rfl, rfl, rfl, ?_⟩
  exact ⟨by decide, setR_0.symm⟩
set_option maxRecDepth 20000 in
theorem qvX9_copies_28_27_2  (F0 : FF) (A0 : AA) (K : KK) (h : K (some none) F0 (setR A0 27 0 16 (A0 28))) (k : Int) (A : AA) (hi : (0 ≤ k ∧ k ≤ 16) ∧ A = setR A0 27 0 k (A0 28)) : am_stp qxX9_copies (am_run qxX9_copies qnX9_copies_28_27 (fun pc ls st F9 A9 u => qiX9_copies_28_27  F0 A0 pc ls st F9 A9 u ∧ quX9_copies_28_27 pc ls st F9 A9 < quX9_copies_28_27 2 [some (vR 28), some (vR 27), some (vI k)] [] F0 A) K 15) K 2 [some (vR 28), some (vR 27), some (vI k)] [] F0 A 0 := by
  obtain ⟨h1, h2⟩ := hi
  show (w32 k < w32 16 → ((0 ≤ w32 k ∧ w32 k < 16) ∧ ((0 ≤ w32 k ∧ w32 k < 16) ∧ ((28 = 28 ∧ 27 = 27 ∧ F0 = F0 ∧ ((0 ≤ (k + 1) ∧ (k + 1) ≤ 16) ∧ (upA A 27 (w32 k) (A 28 (w32 k))) = setR A0 27 0 (k + 1) (A0 28))) ∧ (Int.toNat (200 - (k + 1))) < (Int.toNat (200 - k)))))) ∧ (¬ w32 k < w32 16 → (K (some none) F0 A))
  refine ⟨fun c1 => ?_, fun c1 => ?_⟩
  · skip
    (try simp (disch := omega) only [w32_id] at c1); (try rw [w32_id (by decide) (by decide)] at c1)
    refine ⟨by first | omega | (rw [w32_id (by omega) (by omega)]; omega), ?_⟩
    refine ⟨by first | omega | (rw [w32_id (by omega) (by omega)]; omega), ?_⟩
    refine ⟨⟨rfl, rfl, rfl, ?_⟩, by omega⟩
    rw [w32_id (x := k) (by omega) (by omega)]
    refine ⟨by omega, ?_⟩
    have e9 := setR_push (A := A0) (a := 27) (s := 0) (n := k) (v := A 28 k) (g := A0 28) (g' := A0 28) h1.1 (fun _ _ _ => rfl) (by rw [h2, setR_o (by decide)])
    rw [Int.zero_add] at e9
    rw [← e9, ← h2]
  · skip
    (try simp (disch := omega) only [w32_id] at c1); (try rw [w32_id (by decide) (by decide)] at c1)
    have ek : k = 16 := by omega
    subst ek
    rw [h2]; exact h
set_option maxRecDepth 20000 in
theorem qvX9_copies_28_27  (F0 : FF) (A0 : AA) (K : KK) (h : K (some none) F0 (setR A0 27 0 16 (A0 28))) : am_body qxX9_copies qnX9_copies_28_27 15 (qiX9_copies_28_27  F0 A0) quX9_copies_28_27 [vR 28, vR 27] 3 F0 A0 K := by
  refine ⟨qvX9_copies_28_27_0  F0 A0 K h, fun pc ls st F A u hI => ?_⟩
  unfold qiX9_copies_28_27 at hI
  replace hI := am_cond2 hI
  rcases hI with ⟨hb, hI⟩ | hI
  · have hb := am_bq hb
    subst hb
    split at hI
    · rename_i s0 s1 k
      obtain ⟨e0, e1, e2, hI⟩ := hI
      subst e0
      subst e1
      subst e2
      exact qvX9_copies_28_27_2  _ _ K h _ _ hI
    · exact hI.elim
  exact hI.elim
def qnX9_copies_30_29 : CUT := fun pc => cond (Nat.beq pc 2) (some [true, true, true]) (none)
def qiX9_copies_30_29  (F0 : FF) (A0 : AA) : REC := fun pc ls st F A u => cond (Nat.beq pc 2) (match ls, st, u with
    | [some (.inr (.inr s0)), some (.inr (.inr s1)), some (.inl k)], [], 0 => s0 = 30 ∧ s1 = 29 ∧ F = F0 ∧ ((0 ≤ k ∧ k ≤ 124) ∧ A = setR A0 29 0 k (A0 30))
    | _, _, _ => False) (False)
def quX9_copies_30_29 : Nat → LVs → List AV → FF → AA → Nat := fun pc ls _ F A => cond (Nat.beq pc 2) (match ls with
    | [some (.inr (.inr s0)), some (.inr (.inr s1)), some (.inl k)] => Int.toNat (200 - k)
    | _ => 0) (0)
set_option maxRecDepth 20000 in
theorem qvX9_copies_30_29_0  (F0 : FF) (A0 : AA) (K : KK) (h : K (some none) F0 (setR A0 29 0 124 (A0 30))) : am_stp qxX9_copies (am_run qxX9_copies qnX9_copies_30_29 (qiX9_copies_30_29  F0 A0) K 15) K 0 (am_ent [vR 30, vR 29] 3) [] F0 A0 0 := by
  show am_stp qxX9_copies (am_run qxX9_copies qnX9_copies_30_29 (qiX9_copies_30_29  F0 A0) K 15) K 0 [some (vR 30), some (vR 29), none] [] F0 A0 0
  show 30 = 30 ∧ 29 = 29 ∧ F0 = F0 ∧ ((0 ≤ 0 ∧ 0 ≤ 124) ∧ A0 = setR A0 29 0 0 (A0 30))
  refine ⟨rfl, rfl, rfl, ?_⟩
  exact ⟨by decide, setR_0.symm⟩
set_option maxRecDepth 20000 in
theorem qvX9_copies_30_29_2  (F0 : FF) (A0 : AA) (K : KK) (h : K (some none) F0 (setR A0 29 0 124 (A0 30))) (k : Int) (A : AA) (hi : (0 ≤ k ∧ k ≤ 124) ∧ A = setR A0 29 0 k (A0 30)) : am_stp qxX9_copies (am_run qxX9_copies qnX9_copies_30_29 (fun pc ls st F9 A9 u => qiX9_copies_30_29  F0 A0 pc ls st F9 A9 u ∧ quX9_copies_30_29 pc ls st F9 A9 < quX9_copies_30_29 2 [some (vR 30), some (vR 29), some (vI k)] [] F0 A) K 15) K 2 [some (vR 30), some (vR 29), some (vI k)] [] F0 A 0 := by
  obtain ⟨h1, h2⟩ := hi
  show (w32 k < w32 124 → ((0 ≤ w32 k ∧ w32 k < 124) ∧ ((0 ≤ w32 k ∧ w32 k < 124) ∧ ((30 = 30 ∧ 29 = 29 ∧ F0 = F0 ∧ ((0 ≤ (k + 1) ∧ (k + 1) ≤ 124) ∧ (upA A 29 (w32 k) (A 30 (w32 k))) = setR A0 29 0 (k + 1) (A0 30))) ∧ (Int.toNat (200 - (k + 1))) < (Int.toNat (200 - k)))))) ∧ (¬ w32 k < w32 124 → (K (some none) F0 A))
  refine ⟨fun c1 => ?_, fun c1 => ?_⟩
  · skip
    (try simp (disch := omega) only [w32_id] at c1); (try rw [w32_id (by decide) (by decide)] at c1)
    refine ⟨by first | omega | (rw [w32_id (by omega) (by omega)]; omega), ?_⟩
    refine ⟨by first | omega | (rw [w32_id (by omega) (by omega)]; omega), ?_⟩
    refine ⟨⟨rfl, rfl, rfl, ?_⟩, by omega⟩
    rw [w32_id (x := k) (by omega) (by omega)]
    refine ⟨by omega, ?_⟩
    have e9 := setR_push (A := A0) (a := 29) (s := 0) (n := k) (v := A 30 k) (g := A0 30) (g' := A0 30) h1.1 (fun _ _ _ => rfl) (by rw [h2, setR_o (by decide)])
    rw [Int.zero_add] at e9
    rw [← e9, ← h2]
  · skip
    (try simp (disch := omega) only [w32_id] at c1); (try rw [w32_id (by decide) (by decide)] at c1)
    have ek : k = 124 := by omega
    subst ek
    rw [h2]; exact h
set_option maxRecDepth 20000 in
theorem qvX9_copies_30_29  (F0 : FF) (A0 : AA) (K : KK) (h : K (some none) F0 (setR A0 29 0 124 (A0 30))) : am_body qxX9_copies qnX9_copies_30_29 15 (qiX9_copies_30_29  F0 A0) quX9_copies_30_29 [vR 30, vR 29] 3 F0 A0 K := by
  refine ⟨qvX9_copies_30_29_0  F0 A0 K h, fun pc ls st F A u hI => ?_⟩
  unfold qiX9_copies_30_29 at hI
  replace hI := am_cond2 hI
  rcases hI with ⟨hb, hI⟩ | hI
  · have hb := am_bq hb
    subst hb
    split at hI
    · rename_i s0 s1 k
      obtain ⟨e0, e1, e2, hI⟩ := hI
      subst e0
      subst e1
      subst e2
      exact qvX9_copies_30_29_2  _ _ K h _ _ hI
    · exact hI.elim
  exact hI.elim
theorem qtX9_copies (l : Launch) : am_CT l layM qeX9_copies := am_met0 rfl (by decide +kernel) rfl rfl rfl rfl rfl (fun _ => rfl) rfl (qzX9_copies l) (fun k e1 h => (qyX9_copies l k e1 h).2) (fun as F A K h => by
  replace h : qsX9_copies as F A K := h
  unfold qsX9_copies at h
  split at h
  · rename_i f t
    refine ⟨by first | exact Nat.le_of_ble_eq_true rfl | simp [am_fl, am_cat], ?_⟩
    replace h := am_cond2 h
    rcases h with ⟨hb, h⟩ | h
    · simp only [Bool.and_eq_true] at hb
      obtain ⟨hb0, hb1⟩ := hb
      have hb0 := am_bq hb0
      subst hb0
      have hb1 := am_bq hb1
      subst hb1
      exact am_way_body (qvX9_copies_27_28  F A K h)
    replace h := am_cond2 h
    rcases h with ⟨hb, h⟩ | h
    · simp only [Bool.and_eq_true] at hb
      obtain ⟨hb0, hb1⟩ := hb
      have hb0 := am_bq hb0
      subst hb0
      have hb1 := am_bq hb1
      subst hb1
      exact am_way_body (qvX9_copies_29_30  F A K h)
    replace h := am_cond2 h
    rcases h with ⟨hb, h⟩ | h
    · simp only [Bool.and_eq_true] at hb
      obtain ⟨hb0, hb1⟩ := hb
      have hb0 := am_bq hb0
      subst hb0
      have hb1 := am_bq hb1
      subst hb1
      exact am_way_body (qvX9_copies_28_27  F A K h)
    replace h := am_cond2 h
    rcases h with ⟨hb, h⟩ | h
    · simp only [Bool.and_eq_true] at hb
      obtain ⟨hb0, hb1⟩ := hb
      have hb0 := am_bq hb0
      subst hb0
      have hb1 := am_bq hb1
      subst hb1
      exact am_way_body (qvX9_copies_30_29  F A K h)
    exact h.elim
  · exact h.elim)
def qkX9_newFigure : Nat → Option CI := fun pc => cond (Nat.ble 60 pc) none (cond (Nat.ble 29 pc) (cond (Nat.ble 46 pc) (cond (Nat.ble 52 pc) (cond (Nat.ble 57 pc) (cond (Nat.beq pc 57) (some (.iconst 4, 58, [])) (cond (Nat.beq pc 58) (some (.iastore, 59, [])) (cond (Nat.beq pc 59) (some (.return_, 60, [])) (none)))) (cond (Nat.beq pc 52) (some (.getfield 19, 55, [])) (cond (Nat.beq pc 55) (some (.bipush 123, 57, [])) (none)))) (cond (Nat.ble 50 pc) (cond (Nat.beq pc 50) (some (.iastore, 51, [])) (cond (Nat.beq pc 51) (some (.aload_n 0, 52, [])) (none))) (cond (Nat.beq pc 46) (some (.bipush 122, 48, [])) (cond (Nat.beq pc 48) (some (.bipush 10, 50, [])) (none))))) (cond (Nat.ble 35 pc) (cond (Nat.ble 39 pc) (cond (Nat.beq pc 39) (some (.goto (-16), 42, [23])) (cond (Nat.beq pc 42) (some (.aload_n 0, 43, [])) (cond (Nat.beq pc 43) (some (.getfield 19, 46, [])) (none)))) (cond (Nat.beq pc 35) (some (.iastore, 36, [])) (cond (Nat.beq pc 36) (some (.iinc 1 1, 39, [])) (none)))) (cond (Nat.ble 33 pc) (cond (Nat.beq pc 33) (some (.iload_n 1, 34, [])) (cond (Nat.beq pc 34) (some (.iconst 0, 35, [])) (none))) (cond (Nat.beq pc 29) (some (.aload_n 0, 30, [])) (cond (Nat.beq pc 30) (some (.getfield 19, 33, [])) (none)))))) (cond (Nat.ble 13 pc) (cond (Nat.ble 21 pc) (cond (Nat.ble 23 pc) (cond (Nat.beq pc 23) (some (.iload_n 1, 24, [])) (cond (Nat.beq pc 24) (some (.bipush 124, 26, [])) (cond (Nat.beq pc 26) (some (.if_icmp .ge 16, 29, [42])) (none)))) (cond (Nat.beq pc 21) (some (.iconst 0, 22, [])) (cond (Nat.beq pc 22) (some (.istore_n 1, 23, [])) (none)))) (cond (Nat.ble 15 pc) (cond (Nat.beq pc 15) (some (.iinc 1 1, 18, [])) (cond (Nat.beq pc 18) (some (.goto (-16), 21, [2])) (none))) (cond (Nat.beq pc 13) (some (.iconst 0, 14, [])) (cond (Nat.beq pc 14) (some (.iastore, 15, [])) (none))))) (cond (Nat.ble 5 pc) (cond (Nat.ble 9 pc) (cond (Nat.beq pc 9) (some (.getfield 13, 12, [])) (cond (Nat.beq pc 12) (some (.iload_n 1, 13, [])) (none))) (cond (Nat.beq pc 5) (some (.if_icmp .ge 16, 8, [21])) (cond (Nat.beq pc 8) (some (.aload_n 0, 9, [])) (none)))) (cond (Nat.ble 2 pc) (cond (Nat.beq pc 2) (some (.iload_n 1, 3, [])) (cond (Nat.beq pc 3) (some (.bipush 16, 5, [])) (none))) (cond (Nat.beq pc 0) (some (.iconst 0, 1, [])) (cond (Nat.beq pc 1) (some (.istore_n 1, 2, [])) (none)))))))
theorem qkX9_newFigure_ok : ∀ pc i nx ts, qkX9_newFigure pc = some (i, nx, ts) → am_cok cX9_newFigure pc (i, nx, ts) = true := fun pc i nx ts h => am_tok_ok (n := 60) (by decide +kernel) (fun pc h => by show cond (Nat.ble 60 pc) _ _ = _; rw [Nat.ble_eq_true_of_le h]; rfl) h
def qaX9_newFigure : Nat → Option CE := fun k => none
theorem qyX9_newFigure (l : Launch) : ∀ k e1, qaX9_newFigure k = some e1 → am_cal l layM RX9 3 k e1 ∧ ceT e1 = 0 := q_nil
def qxX9_newFigure : CX := (qkX9_newFigure, layM, qfX9, qaX9_newFigure, qcX9, qlX9, qmX9, none, false, none, 0, none, fun _ => none)
theorem qzX9_newFigure (l : Launch) : am_sta l qxX9_newFigure RX9 3 cX9_newFigure := ⟨qkX9_newFigure_ok, layM_ok, qfX9_ok, qcX9_ok, qlX9_ok, am_mthP qmX9_ok (by decide), fun k e1 h => (qyX9_newFigure l k e1 h).1⟩
def qsX9_newFigure : SP := fun as F A K => match as with
  | [.inr (.inr o)] => cond (Nat.beq o 25) (K (some none) F (setR (setR A 27 0 16 (fun _ => 0)) 29 0 124 (fun kk => if kk = 122 then 10 else if kk = 123 then 4 else 0))) (False)
  | _ => False
def qeX9_newFigure : CE := (yX9_newFigure, cX9_newFigure, 2, none, 0, some 9, 0, [], 0, 3, qsX9_newFigure)
theorem qbX9_newFigure : am_mb qeX9_newFigure := ⟨am_tb_at 1379 (by decide +kernel) rfl, am_tb_at 124 (by decide +kernel) rfl, ⟨by decide, by decide, by decide +kernel⟩, by decide, by decide, am_tb_at 1378 (by decide +kernel) rfl, am_tb_at 48 (by decide +kernel) rfl, _, _, rfl⟩
def qnX9_newFigure_25 : CUT := fun pc => cond (Nat.beq pc 2) (some [true, true]) (cond (Nat.beq pc 23) (some [true, true]) (none))
def qiX9_newFigure_25  (F0 : FF) (A0 : AA) : REC := fun pc ls st F A u => cond (Nat.beq pc 2) (match ls, st, u with
    | [some (.inr (.inr s0)), some (.inl k)], [], 0 => s0 = 25 ∧ F = F0 ∧ ((0 ≤ k ∧ k ≤ 16) ∧ A = setR A0 27 0 k (fun _ => 0))
    | _, _, _ => False) (cond (Nat.beq pc 23) (match ls, st, u with
    | [some (.inr (.inr s0)), some (.inl k)], [], 0 => s0 = 25 ∧ F = F0 ∧ ((0 ≤ k ∧ k ≤ 124) ∧ A = setR (setR A0 27 0 16 (fun _ => 0)) 29 0 k (fun _ => 0))
    | _, _, _ => False) (False))
def quX9_newFigure_25 : Nat → LVs → List AV → FF → AA → Nat := fun pc ls _ F A => cond (Nat.beq pc 2) (match ls with
    | [some (.inr (.inr s0)), some (.inl k)] => Int.toNat (1000 - k)
    | _ => 0) (cond (Nat.beq pc 23) (match ls with
    | [some (.inr (.inr s0)), some (.inl k)] => Int.toNat (500 - k)
    | _ => 0) (0))
set_option maxRecDepth 20000 in
theorem qvX9_newFigure_25_0  (F0 : FF) (A0 : AA) (K : KK) (h : K (some none) F0 (setR (setR A0 27 0 16 (fun _ => 0)) 29 0 124 (fun kk => if kk = 122 then 10 else if kk = 123 then 4 else 0))) : am_stp qxX9_newFigure (am_run qxX9_newFigure qnX9_newFigure_25 (qiX9_newFigure_25  F0 A0) K 16) K 0 (am_ent [vR 25] 2) [] F0 A0 0 := by
  show am_stp qxX9_newFigure (am_run qxX9_newFigure qnX9_newFigure_25 (qiX9_newFigure_25  F0 A0) K 16) K 0 [some (vR 25), none] [] F0 A0 0
  show 25 = 25 ∧ F0 = F0 ∧ ((0 ≤ 0 ∧ 0 ≤ 16) ∧ A0 = setR A0 27 0 0 (fun _ => 0))
  refine ⟨rfl, rfl, ?_⟩
  exact ⟨by decide, setR_0.symm⟩
set_option maxRecDepth 20000 in
theorem qvX9_newFigure_25_2  (F0 : FF) (A0 : AA) (K : KK) (h : K (some none) F0 (setR (setR A0 27 0 16 (fun _ => 0)) 29 0 124 (fun kk => if kk = 122 then 10 else if kk = 123 then 4 else 0))) (k : Int) (A : AA) (hi : (0 ≤ k ∧ k ≤ 16) ∧ A = setR A0 27 0 k (fun _ => 0)) : am_stp qxX9_newFigure (am_run qxX9_newFigure qnX9_newFigure_25 (fun pc ls st F9 A9 u => qiX9_newFigure_25  F0 A0 pc ls st F9 A9 u ∧ quX9_newFigure_25 pc ls st F9 A9 < quX9_newFigure_25 2 [some (vR 25), some (vI k)] [] F0 A) K 16) K 2 [some (vR 25), some (vI k)] [] F0 A 0 := by
  obtain ⟨h1, h2⟩ := hi
  show (w32 k < w32 16 → ((0 ≤ w32 k ∧ w32 k < 16) ∧ ((25 = 25 ∧ F0 = F0 ∧ ((0 ≤ (k + 1) ∧ (k + 1) ≤ 16) ∧ (upA A 27 (w32 k) 0) = setR A0 27 0 (k + 1) (fun _ => 0))) ∧ (Int.toNat (1000 - (k + 1))) < (Int.toNat (1000 - k))))) ∧ (¬ w32 k < w32 16 → ((25 = 25 ∧ F0 = F0 ∧ ((0 ≤ 0 ∧ 0 ≤ 124) ∧ A = setR (setR A0 27 0 16 (fun _ => 0)) 29 0 0 (fun _ => 0))) ∧ (Int.toNat (500 - 0)) < (Int.toNat (1000 - k))))
  refine ⟨fun c1 => ?_, fun c1 => ?_⟩
  · skip
    (try simp (disch := omega) only [w32_id] at c1); (try rw [w32_id (by decide) (by decide)] at c1)
    refine ⟨by first | omega | (rw [w32_id (by omega) (by omega)]; omega), ?_⟩
    refine ⟨⟨rfl, rfl, ?_⟩, by omega⟩
    rw [w32_id (x := k) (by omega) (by omega)]
    refine ⟨by omega, ?_⟩
    have e9 := setR_push (A := A0) (a := 27) (s := 0) (n := k) (v := 0) (g := fun _ => 0) (g' := fun _ => 0) h1.1 (fun _ _ _ => rfl) rfl
    rw [Int.zero_add] at e9
    rw [← e9, ← h2]
  · skip
    (try simp (disch := omega) only [w32_id] at c1); (try rw [w32_id (by decide) (by decide)] at c1)
    refine ⟨⟨rfl, rfl, ?_⟩, by omega⟩
    have ek : k = 16 := by omega
    subst ek
    exact ⟨by decide, by rw [setR_0]; exact h2⟩
set_option maxRecDepth 20000 in
theorem qvX9_newFigure_25_23  (F0 : FF) (A0 : AA) (K : KK) (h : K (some none) F0 (setR (setR A0 27 0 16 (fun _ => 0)) 29 0 124 (fun kk => if kk = 122 then 10 else if kk = 123 then 4 else 0))) (k : Int) (A : AA) (hi : (0 ≤ k ∧ k ≤ 124) ∧ A = setR (setR A0 27 0 16 (fun _ => 0)) 29 0 k (fun _ => 0)) : am_stp qxX9_newFigure (am_run qxX9_newFigure qnX9_newFigure_25 (fun pc ls st F9 A9 u => qiX9_newFigure_25  F0 A0 pc ls st F9 A9 u ∧ quX9_newFigure_25 pc ls st F9 A9 < quX9_newFigure_25 23 [some (vR 25), some (vI k)] [] F0 A) K 16) K 23 [some (vR 25), some (vI k)] [] F0 A 0 := by
  obtain ⟨h1, h2⟩ := hi
  show (w32 k < w32 124 → ((0 ≤ w32 k ∧ w32 k < 124) ∧ ((25 = 25 ∧ F0 = F0 ∧ ((0 ≤ (k + 1) ∧ (k + 1) ≤ 124) ∧ (upA A 29 (w32 k) 0) = setR (setR A0 27 0 16 (fun _ => 0)) 29 0 (k + 1) (fun _ => 0))) ∧ (Int.toNat (500 - (k + 1))) < (Int.toNat (500 - k))))) ∧ (¬ w32 k < w32 124 → ((0 ≤ w32 122 ∧ w32 122 < 124) ∧ ((0 ≤ w32 123 ∧ w32 123 < 124) ∧ (K (some none) F0 (upA (upA A 29 (w32 122) 10) 29 (w32 123) 4)))))
  refine ⟨fun c1 => ?_, fun c1 => ?_⟩
  · skip
    (try simp (disch := omega) only [w32_id] at c1); (try rw [w32_id (by decide) (by decide)] at c1)
    refine ⟨by first | decide | omega | (rw [w32_id (by omega) (by omega)]; omega), ?_⟩
    refine ⟨⟨rfl, rfl, ?_⟩, by omega⟩
    rw [w32_id (x := k) (by omega) (by omega)]
    refine ⟨by omega, ?_⟩
    have e9 := setR_push (A := setR A0 27 0 16 (fun _ => 0)) (a := 29) (s := 0) (n := k) (v := 0) (g := fun _ => 0) (g' := fun _ => 0) h1.1 (fun _ _ _ => rfl) rfl
    rw [Int.zero_add] at e9
    rw [← e9, ← h2]
  · skip
    (try simp (disch := omega) only [w32_id] at c1); (try rw [w32_id (by decide) (by decide)] at c1)
    refine ⟨by first | decide | omega | (rw [w32_id (by omega) (by omega)]; omega), ?_⟩
    refine ⟨by first | decide | omega | (rw [w32_id (by omega) (by omega)]; omega), ?_⟩
    have ek : k = 124 := by omega
    subst ek
    refine FA_eq h rfl rfl ?_
    rw [h2, w32_id (x := 122) (by decide) (by decide), w32_id (x := 123) (by decide) (by decide)]
    have p1 := setR_put (A := setR A0 27 0 16 (fun _ => 0)) (a := 29) (s := 0) (n := 124) (k := 122) (v := 10) (g := fun _ => 0) (g' := fun i => if i = 122 then 10 else 0) (by decide) (by decide) (fun i _ _ => rfl)
    have p2 := setR_put (A := setR A0 27 0 16 (fun _ => 0)) (a := 29) (s := 0) (n := 124) (k := 123) (v := 4) (g := fun i => if i = 122 then 10 else 0) (g' := fun i => if i = 122 then 10 else if i = 123 then 4 else 0) (by decide) (by decide) (fun i _ _ => by show (if i = 122 then (10 : Int) else if i = 123 then 4 else 0) = if i = 123 then 4 else if i = 122 then 10 else 0; split <;> split <;> first | rfl | omega)
    rw [Int.zero_add] at p1 p2
    rw [p1, p2]
set_option maxRecDepth 20000 in
theorem qvX9_newFigure_25  (F0 : FF) (A0 : AA) (K : KK) (h : K (some none) F0 (setR (setR A0 27 0 16 (fun _ => 0)) 29 0 124 (fun kk => if kk = 122 then 10 else if kk = 123 then 4 else 0))) : am_body qxX9_newFigure qnX9_newFigure_25 16 (qiX9_newFigure_25  F0 A0) quX9_newFigure_25 [vR 25] 2 F0 A0 K := by
  refine ⟨qvX9_newFigure_25_0  F0 A0 K h, fun pc ls st F A u hI => ?_⟩
  unfold qiX9_newFigure_25 at hI
  replace hI := am_cond2 hI
  rcases hI with ⟨hb, hI⟩ | hI
  · have hb := am_bq hb
    subst hb
    split at hI
    · rename_i s0 k
      obtain ⟨e0, e1, hI⟩ := hI
      subst e0
      subst e1
      exact qvX9_newFigure_25_2  _ _ K h _ _ hI
    · exact hI.elim
  replace hI := am_cond2 hI
  rcases hI with ⟨hb, hI⟩ | hI
  · have hb := am_bq hb
    subst hb
    split at hI
    · rename_i s0 k
      obtain ⟨e0, e1, hI⟩ := hI
      subst e0
      subst e1
      exact qvX9_newFigure_25_23  _ _ K h _ _ hI
    · exact hI.elim
  exact hI.elim
theorem qtX9_newFigure (l : Launch) : am_CT l layM qeX9_newFigure := am_met0 rfl (by decide +kernel) rfl rfl rfl rfl rfl (fun _ => rfl) rfl (qzX9_newFigure l) (fun k e1 h => (qyX9_newFigure l k e1 h).2) (fun as F A K h => by
  replace h : qsX9_newFigure as F A K := h
  unfold qsX9_newFigure at h
  split at h
  · rename_i o
    refine ⟨by first | exact Nat.le_of_ble_eq_true rfl | simp [am_fl, am_cat], ?_⟩
    replace h := am_cond2 h
    rcases h with ⟨hb, h⟩ | h
    · skip
      have hb0 := hb
      have hb0 := am_bq hb0
      subst hb0
      exact am_way_body (qvX9_newFigure_25  F A K h)
    exact h.elim
  · exact h.elim)
