theorem i3_z {v : Int} (h1 : -1000 ≤ v) (h2 : v ≤ 1000) : Int32.ofInt v = 0 ↔ v = 0 := by
  constructor
  · intro h
    have e := congrArg Int32.toInt h
    rw [Int32.toInt_ofInt_of_le (by omega) (by omega)] at e
    exact e
  · rintro rfl; rfl
theorem lnAB {L : Nat} {xs : Nat → Int32} {j : Nat} : (-5 ≤ lnA L xs j ∧ lnA L xs j ≤ 5) ∧ -5 ≤ lnB L xs j ∧ lnB L xs j ≤ 5 := by
  have h1 := inV_lt (x := ceV L xs (6 + j)) (m := 11) (by decide)
  have h2 := inV_lt (x := ceV L xs (6 + j) / 11) (m := 11) (by decide)
  unfold lnA lnB
  omega
theorem dk_L_line_0 : decode cL_line 0 = .ok (.aload_n 0, 1) := by decide +kernel
theorem dk_L_line_1 : decode cL_line 1 = .ok (.bipush 6, 2) := by decide +kernel
theorem dk_L_line_3 : decode cL_line 3 = .ok (.iload_n 1, 1) := by decide +kernel
theorem dk_L_line_4 : decode cL_line 4 = .ok (.iadd, 1) := by decide +kernel
theorem dk_L_line_5 : decode cL_line 5 = .ok (.invokestatic 37, 3) := by decide +kernel
theorem dk_L_line_8 : decode cL_line 8 = .ok (.istore_n 3, 1) := by decide +kernel
theorem dk_L_line_9 : decode cL_line 9 = .ok (.iload_n 2, 1) := by decide +kernel
theorem dk_L_line_10 : decode cL_line 10 = .ok (.iconst 2, 1) := by decide +kernel
theorem dk_L_line_11 : decode cL_line 11 = .ok (.if_icmp .ne 18, 3) := by decide +kernel
theorem dk_L_line_14 : decode cL_line 14 = .ok (.iload_n 3, 1) := by decide +kernel
theorem dk_L_line_15 : decode cL_line 15 = .ok (.sipush 128, 3) := by decide +kernel
theorem dk_L_line_18 : decode cL_line 18 = .ok (.idiv, 1) := by decide +kernel
theorem dk_L_line_19 : decode cL_line 19 = .ok (.sipush 201, 3) := by decide +kernel
theorem dk_L_line_22 : decode cL_line 22 = .ok (.invokestatic 43, 3) := by decide +kernel
theorem dk_L_line_25 : decode cL_line 25 = .ok (.bipush 100, 2) := by decide +kernel
theorem dk_L_line_27 : decode cL_line 27 = .ok (.isub, 1) := by decide +kernel
theorem dk_L_line_28 : decode cL_line 28 = .ok (.ireturn, 1) := by decide +kernel
theorem dk_L_line_29 : decode cL_line 29 = .ok (.iload_n 3, 1) := by decide +kernel
theorem dk_L_line_30 : decode cL_line 30 = .ok (.bipush 11, 2) := by decide +kernel
theorem dk_L_line_32 : decode cL_line 32 = .ok (.invokestatic 43, 3) := by decide +kernel
theorem dk_L_line_35 : decode cL_line 35 = .ok (.iconst 5, 1) := by decide +kernel
theorem dk_L_line_36 : decode cL_line 36 = .ok (.isub, 1) := by decide +kernel
theorem dk_L_line_37 : decode cL_line 37 = .ok (.istore 4, 2) := by decide +kernel
theorem dk_L_line_39 : decode cL_line 39 = .ok (.iload_n 3, 1) := by decide +kernel
theorem dk_L_line_40 : decode cL_line 40 = .ok (.bipush 11, 2) := by decide +kernel
theorem dk_L_line_42 : decode cL_line 42 = .ok (.idiv, 1) := by decide +kernel
theorem dk_L_line_43 : decode cL_line 43 = .ok (.bipush 11, 2) := by decide +kernel
theorem dk_L_line_45 : decode cL_line 45 = .ok (.invokestatic 43, 3) := by decide +kernel
theorem dk_L_line_48 : decode cL_line 48 = .ok (.iconst 5, 1) := by decide +kernel
theorem dk_L_line_49 : decode cL_line 49 = .ok (.isub, 1) := by decide +kernel
theorem dk_L_line_50 : decode cL_line 50 = .ok (.istore 5, 2) := by decide +kernel
theorem dk_L_line_52 : decode cL_line 52 = .ok (.iload_n 2, 1) := by decide +kernel
theorem dk_L_line_53 : decode cL_line 53 = .ok (.ifCond .ne 8, 3) := by decide +kernel
theorem dk_L_line_56 : decode cL_line 56 = .ok (.iload 4, 2) := by decide +kernel
theorem dk_L_line_58 : decode cL_line 58 = .ok (.goto 19, 3) := by decide +kernel
theorem dk_L_line_61 : decode cL_line 61 = .ok (.iload 4, 2) := by decide +kernel
theorem dk_L_line_63 : decode cL_line 63 = .ok (.ifCond .ne 12, 3) := by decide +kernel
theorem dk_L_line_66 : decode cL_line 66 = .ok (.iload 5, 2) := by decide +kernel
theorem dk_L_line_68 : decode cL_line 68 = .ok (.ifCond .ne 7, 3) := by decide +kernel
theorem dk_L_line_71 : decode cL_line 71 = .ok (.iconst 1, 1) := by decide +kernel
theorem dk_L_line_72 : decode cL_line 72 = .ok (.goto 5, 3) := by decide +kernel
theorem dk_L_line_75 : decode cL_line 75 = .ok (.iload 5, 2) := by decide +kernel
theorem dk_L_line_77 : decode cL_line 77 = .ok (.ireturn, 1) := by decide +kernel
set_option maxHeartbeats 4000000 in
set_option maxRecDepth 100000 in
theorem sk_line2 (l : Launch) (D : va_G) (kC : Nat → ClassId) (bs L : Nat) (xs : Nat → Int32) (hLb : L < 1000) (li : Nat) (hli : li ≤ 100) (sz : Nat) : Met l yL_line (.code yL_line cL_line 6 (some .int) :: jk_tb) (jr 2 0 0) (va_Pc [.ref bs, .int (nI li), .int 2] (ws_B D kC (fun B U H => js_G B U H ∧ scX bs L xs B U H) [] sz)) (va_Qi (S := Unit) (fun r _ => r = Int32.ofInt (lnV L xs li 2)) (fun _ _ => True) (va_A [] sz)) 0 0 (va_A [] sz) := by
  refine Met.ofW (cc := cL_line) (maxL := 6) (ret := (some .int)) (by decide +kernel) rfl ?_
  intro p e s m args below meth c s₁ B hml hv2
  obtain ⟨rfl, hsz, hP, hK, hD0, hE⟩ := hv2
  have hx := B.exec
  have hb := B.bytes
  have hr := B.returns
  have hlocks := B.notSynchronized
  have hts0 := atoms_spec (ws := (.code yL_line cL_line 6 (some .int) :: jk_tb)) B.pre
  have htj := fun w (hw : w ∈ jk_tb) => hts0 w (List.mem_cons_of_mem _ hw)
  have hts := fun w (hw : w ∈ am_tb) => htj w (jk_in hw)
  have hown : s.vm.findClass yL_line.cls = some m.cls := findClass_of_methodNamed B.named
  subst hsz
  have hD := hD0.self (sz := s.heap.size)
  generalize hAe : va_A [] s.heap.size = A at hD hE ⊢
  have hA : ∀ q : Nat, s.heap.size ≤ q → A q := fun q h => by rw [← hAe]; exact Or.inr h
  have hP : va_P D vwCl [] s.heap := hP
  have hS : va_S A s.heap s.heap [] := va_S.rf
  have hl := lv_entry ([.ref bs, .int (nI li), .int 2]) (n := 6) (Nat.le_of_ble_eq_true rfl)
  rw [lg_entry_eq]
  generalize (lg_sl ([.ref bs, .int (nI li), .int 2]) ++ List.replicate (6 - (lg_sl ([.ref bs, .int (nI li), .int 2])).length) Slot.unset).toArray = ls at hl ⊢
  have hl : lv_has ls 6 [(0, .ref bs), (1, .int (nI li)), (2, .int 2)] := hl
  have hab := lnAB (L := L) (xs := xs) (j := li)
  refine lv_aload_n hx hb dk_L_line_0 rfl (lv_at hl 0 rfl) ?_
  refine lv_bipush (v := 6) hx hb dk_L_line_1 (by decide) ?_
  refine lv_iload_n hx hb dk_L_line_3 rfl (lv_at hl 1 rfl) ?_
  refine lv_iadd hx hb dk_L_line_4 ?_
  rw [show ((6 + (nI li)) : Int32) = nI (6 + li) from (nI_add 6 li)]
  have hPc : va_P D vwCl [] s.heap := ws_nP
  have hDc : va_D A [] := ws_nD
  have hFc : ∀ q, va_A [] s.heap.size q → A q := fun q h => hA q (Nat.le_trans hS.1 (ws_nA h))
  refine va_calli (va_runS (As := [.ref bs, .int (nI (6 + li))]) (rest := []) ⟨hx, hb, hml, hown, hts⟩ (sk_cell l D kC bs L xs hLb (6 + li) (by omega) s.heap.size) ⟨am_callB (R := jr 2 0 0) (index := 37) 2 (jk_pay htj (am_tb_at 63 (by decide +kernel) rfl)) (hts _ (am_tb_at 63 (by decide +kernel) rfl)) rfl rfl rfl (hts _ (am_tb_at 34 (by decide +kernel) rfl)) (hts _ (am_tb_at 61 (by decide +kernel) rfl)) ⟨by decide, by decide, by decide +kernel⟩ ⟨(by show 1 + 1 ≤ 2; decide), (by show 8 + (2 + 11) + 48 * 1 ≤ 48 * 2; decide)⟩, (hts _ (am_tb_at 62 (by decide +kernel) rfl))⟩ (ws_S (Stb_and Stb_G (Stb_X bs L xs)) hPc hK hDc (fun U hU hW => ws_E (Stb_and Stb_G (Stb_X bs L xs)) hE hS hU hW hFc)) rfl rfl hl.1 rfl (lv_room (Nat.le_of_ble_eq_true rfl)) dk_L_line_5 ⟨(by show 0 + 0 ≤ 0; omega), (by show 0 + 0 ≤ 0; omega)⟩) hS (fun q _ h => hFc q h) hFc (fun r0 u t H1 locs hte hvm hz hB hsz hkp hS => ?_)
  have hP : va_P D vwCl [] H1 := ws_nP
  generalize H1 = H at hP hS ⊢
  subst hz
  refine lv_istore_n (lv' := [(3, .int (ceV L xs (6 + li))), (0, .ref bs), (1, .int (nI li)), (2, .int 2)]) hx hb dk_L_line_8 rfl hl (by decide) rfl (fun ls hl => ?_)
  refine lv_iload_n hx hb dk_L_line_9 rfl (lv_at hl 3 rfl) ?_
  refine lv_iconst (v := 2) hx hb dk_L_line_10 (by decide) ?_
  refine lv_icmp_ne (tgt := 29) hx hb dk_L_line_11 rfl (fun q => absurd rfl q) (fun _ => ?_)
  refine lv_iload_n hx hb dk_L_line_14 rfl (lv_at hl 0 rfl) ?_
  refine lv_sipush (v := 128) hx hb dk_L_line_15 (by decide) ?_
  refine lv_idiv hx hb dk_L_line_18 (by decide) ?_
  refine lv_sipush (v := 201) hx hb dk_L_line_19 (by decide) ?_
  have hPc : va_P D vwCl [] H := ws_nP
  have hDc : va_D A [] := ws_nD
  have hFc : ∀ q, va_A [] H.size q → A q := fun q h => hA q (Nat.le_trans hS.1 (ws_nA h))
  refine va_calli (va_runS (As := [.int ((ceV L xs (6 + li)) / 128), .int 201]) (rest := []) ⟨hx, hb, hml, hown, hts⟩ (sk_in l D kC (ceV L xs (6 + li) / 128) 201 (by decide) (by decide) H.size) ⟨am_callB (R := jr 2 0 0) (index := 43) 2 (jk_pay htj (am_tb_at 66 (by decide +kernel) rfl)) (hts _ (am_tb_at 66 (by decide +kernel) rfl)) rfl rfl rfl (hts _ (am_tb_at 34 (by decide +kernel) rfl)) (hts _ (am_tb_at 64 (by decide +kernel) rfl)) ⟨by decide, by decide, by decide +kernel⟩ ⟨(by show 1 + 1 ≤ 2; decide), (by show 8 + (2 + 11) + 48 * 1 ≤ 48 * 2; decide)⟩, (hts _ (am_tb_at 65 (by decide +kernel) rfl))⟩ (ws_S Stb_G hPc hK hDc (fun U hU hW => ws_E Stb_G hE.1 hS hU hW hFc)) rfl rfl hl.1 rfl (lv_room (Nat.le_of_ble_eq_true rfl)) dk_L_line_22 ⟨(by show 0 + 0 + 0 ≤ 0; omega), (by show 0 + 0 + 0 ≤ 0; omega)⟩) hS (fun q _ h => hFc q h) hFc (fun r0 u t H1 locs hte hvm hz hB hsz hkp hS => ?_)
  have hP : va_P D vwCl [] H1 := ws_nP
  generalize H1 = H at hP hS ⊢
  subst hz
  refine lv_bipush (v := 100) hx hb dk_L_line_25 (by decide) ?_
  refine lv_isub hx hb dk_L_line_27 ?_
  rw [show (((nI (inV (ceV L xs (6 + li) / 128) 201)) - 100) : Int32) = Int32.ofInt (lnV L xs li 2) from (i3_sub _ 100)]
  refine W.widen (k := 0) (n := 0) (by omega) (by omega) ?_
  exact W.iret (v := (Int32.ofInt (lnV L xs li 2))) hx hb hr (fun t ht hW => ⟨⟨(Int32.ofInt (lnV L xs li 2)), (), rfl, rfl, trivial⟩, hS.F ht⟩) hS.2.2 dk_L_line_28
set_option maxHeartbeats 4000000 in
set_option maxRecDepth 100000 in
theorem sk_line0 (l : Launch) (D : va_G) (kC : Nat → ClassId) (bs L : Nat) (xs : Nat → Int32) (hLb : L < 1000) (li : Nat) (hli : li ≤ 100) (sz : Nat) : Met l yL_line (.code yL_line cL_line 6 (some .int) :: jk_tb) (jr 2 0 0) (va_Pc [.ref bs, .int (nI li), .int 0] (ws_B D kC (fun B U H => js_G B U H ∧ scX bs L xs B U H) [] sz)) (va_Qi (S := Unit) (fun r _ => r = Int32.ofInt (lnV L xs li 0)) (fun _ _ => True) (va_A [] sz)) 0 0 (va_A [] sz) := by
  refine Met.ofW (cc := cL_line) (maxL := 6) (ret := (some .int)) (by decide +kernel) rfl ?_
  intro p e s m args below meth c s₁ B hml hv2
  obtain ⟨rfl, hsz, hP, hK, hD0, hE⟩ := hv2
  have hx := B.exec
  have hb := B.bytes
  have hr := B.returns
  have hlocks := B.notSynchronized
  have hts0 := atoms_spec (ws := (.code yL_line cL_line 6 (some .int) :: jk_tb)) B.pre
  have htj := fun w (hw : w ∈ jk_tb) => hts0 w (List.mem_cons_of_mem _ hw)
  have hts := fun w (hw : w ∈ am_tb) => htj w (jk_in hw)
  have hown : s.vm.findClass yL_line.cls = some m.cls := findClass_of_methodNamed B.named
  subst hsz
  have hD := hD0.self (sz := s.heap.size)
  generalize hAe : va_A [] s.heap.size = A at hD hE ⊢
  have hA : ∀ q : Nat, s.heap.size ≤ q → A q := fun q h => by rw [← hAe]; exact Or.inr h
  have hP : va_P D vwCl [] s.heap := hP
  have hS : va_S A s.heap s.heap [] := va_S.rf
  have hl := lv_entry ([.ref bs, .int (nI li), .int 0]) (n := 6) (Nat.le_of_ble_eq_true rfl)
  rw [lg_entry_eq]
  generalize (lg_sl ([.ref bs, .int (nI li), .int 0]) ++ List.replicate (6 - (lg_sl ([.ref bs, .int (nI li), .int 0])).length) Slot.unset).toArray = ls at hl ⊢
  have hl : lv_has ls 6 [(0, .ref bs), (1, .int (nI li)), (2, .int 0)] := hl
  have hab := lnAB (L := L) (xs := xs) (j := li)
  refine lv_aload_n hx hb dk_L_line_0 rfl (lv_at hl 0 rfl) ?_
  refine lv_bipush (v := 6) hx hb dk_L_line_1 (by decide) ?_
  refine lv_iload_n hx hb dk_L_line_3 rfl (lv_at hl 1 rfl) ?_
  refine lv_iadd hx hb dk_L_line_4 ?_
  rw [show ((6 + (nI li)) : Int32) = nI (6 + li) from (nI_add 6 li)]
  have hPc : va_P D vwCl [] s.heap := ws_nP
  have hDc : va_D A [] := ws_nD
  have hFc : ∀ q, va_A [] s.heap.size q → A q := fun q h => hA q (Nat.le_trans hS.1 (ws_nA h))
  refine va_calli (va_runS (As := [.ref bs, .int (nI (6 + li))]) (rest := []) ⟨hx, hb, hml, hown, hts⟩ (sk_cell l D kC bs L xs hLb (6 + li) (by omega) s.heap.size) ⟨am_callB (R := jr 2 0 0) (index := 37) 2 (jk_pay htj (am_tb_at 63 (by decide +kernel) rfl)) (hts _ (am_tb_at 63 (by decide +kernel) rfl)) rfl rfl rfl (hts _ (am_tb_at 34 (by decide +kernel) rfl)) (hts _ (am_tb_at 61 (by decide +kernel) rfl)) ⟨by decide, by decide, by decide +kernel⟩ ⟨(by show 1 + 1 ≤ 2; decide), (by show 8 + (2 + 11) + 48 * 1 ≤ 48 * 2; decide)⟩, (hts _ (am_tb_at 62 (by decide +kernel) rfl))⟩ (ws_S (Stb_and Stb_G (Stb_X bs L xs)) hPc hK hDc (fun U hU hW => ws_E (Stb_and Stb_G (Stb_X bs L xs)) hE hS hU hW hFc)) rfl rfl hl.1 rfl (lv_room (Nat.le_of_ble_eq_true rfl)) dk_L_line_5 ⟨(by show 0 + 0 ≤ 0; omega), (by show 0 + 0 ≤ 0; omega)⟩) hS (fun q _ h => hFc q h) hFc (fun r0 u t H1 locs hte hvm hz hB hsz hkp hS => ?_)
  have hP : va_P D vwCl [] H1 := ws_nP
  generalize H1 = H at hP hS ⊢
  subst hz
  refine lv_istore_n (lv' := [(3, .int (ceV L xs (6 + li))), (0, .ref bs), (1, .int (nI li)), (2, .int 0)]) hx hb dk_L_line_8 rfl hl (by decide) rfl (fun ls hl => ?_)
  refine lv_iload_n hx hb dk_L_line_9 rfl (lv_at hl 3 rfl) ?_
  refine lv_iconst (v := 2) hx hb dk_L_line_10 (by decide) ?_
  refine lv_icmp_ne (tgt := 29) hx hb dk_L_line_11 rfl (fun _ => ?_) (fun q => absurd q (by decide))
  refine lv_iload_n hx hb dk_L_line_29 rfl (lv_at hl 0 rfl) ?_
  refine lv_bipush (v := 11) hx hb dk_L_line_30 (by decide) ?_
  have hPc : va_P D vwCl [] H := ws_nP
  have hDc : va_D A [] := ws_nD
  have hFc : ∀ q, va_A [] H.size q → A q := fun q h => hA q (Nat.le_trans hS.1 (ws_nA h))
  refine va_calli (va_runS (As := [.int (ceV L xs (6 + li)), .int 11]) (rest := []) ⟨hx, hb, hml, hown, hts⟩ (sk_in l D kC (ceV L xs (6 + li)) 11 (by decide) (by decide) H.size) ⟨am_callB (R := jr 2 0 0) (index := 43) 2 (jk_pay htj (am_tb_at 66 (by decide +kernel) rfl)) (hts _ (am_tb_at 66 (by decide +kernel) rfl)) rfl rfl rfl (hts _ (am_tb_at 34 (by decide +kernel) rfl)) (hts _ (am_tb_at 64 (by decide +kernel) rfl)) ⟨by decide, by decide, by decide +kernel⟩ ⟨(by show 1 + 1 ≤ 2; decide), (by show 8 + (2 + 11) + 48 * 1 ≤ 48 * 2; decide)⟩, (hts _ (am_tb_at 65 (by decide +kernel) rfl))⟩ (ws_S Stb_G hPc hK hDc (fun U hU hW => ws_E Stb_G hE.1 hS hU hW hFc)) rfl rfl hl.1 rfl (lv_room (Nat.le_of_ble_eq_true rfl)) dk_L_line_32 ⟨(by show 0 + 0 + 0 ≤ 0; omega), (by show 0 + 0 + 0 ≤ 0; omega)⟩) hS (fun q _ h => hFc q h) hFc (fun r0 u t H1 locs hte hvm hz hB hsz hkp hS => ?_)
  have hP : va_P D vwCl [] H1 := ws_nP
  generalize H1 = H at hP hS ⊢
  subst hz
  refine lv_iconst (v := 5) hx hb dk_L_line_35 (by decide) ?_
  refine lv_isub hx hb dk_L_line_36 ?_
  rw [show (((nI (inV (ceV L xs (6 + li)) 11)) - 5) : Int32) = Int32.ofInt (lnA L xs li) from (i3_sub _ 5)]
  refine lv_istore (lv' := [(4, .int (Int32.ofInt (lnA L xs li))), (3, .int (ceV L xs (6 + li))), (0, .ref bs), (1, .int (nI li)), (2, .int 0)]) hx hb dk_L_line_37 hl (by decide) rfl (fun ls hl => ?_)
  refine lv_iload_n hx hb dk_L_line_39 rfl (lv_at hl 1 rfl) ?_
  refine lv_bipush (v := 11) hx hb dk_L_line_40 (by decide) ?_
  refine lv_idiv hx hb dk_L_line_42 (by decide) ?_
  refine lv_bipush (v := 11) hx hb dk_L_line_43 (by decide) ?_
  have hPc : va_P D vwCl [] H := ws_nP
  have hDc : va_D A [] := ws_nD
  have hFc : ∀ q, va_A [] H.size q → A q := fun q h => hA q (Nat.le_trans hS.1 (ws_nA h))
  refine va_calli (va_runS (As := [.int ((ceV L xs (6 + li)) / 11), .int 11]) (rest := []) ⟨hx, hb, hml, hown, hts⟩ (sk_in l D kC (ceV L xs (6 + li) / 11) 11 (by decide) (by decide) H.size) ⟨am_callB (R := jr 2 0 0) (index := 43) 2 (jk_pay htj (am_tb_at 66 (by decide +kernel) rfl)) (hts _ (am_tb_at 66 (by decide +kernel) rfl)) rfl rfl rfl (hts _ (am_tb_at 34 (by decide +kernel) rfl)) (hts _ (am_tb_at 64 (by decide +kernel) rfl)) ⟨by decide, by decide, by decide +kernel⟩ ⟨(by show 1 + 1 ≤ 2; decide), (by show 8 + (2 + 11) + 48 * 1 ≤ 48 * 2; decide)⟩, (hts _ (am_tb_at 65 (by decide +kernel) rfl))⟩ (ws_S Stb_G hPc hK hDc (fun U hU hW => ws_E Stb_G hE.1 hS hU hW hFc)) rfl rfl hl.1 rfl (lv_room (Nat.le_of_ble_eq_true rfl)) dk_L_line_45 ⟨(by show 0 + 0 + 0 + 0 ≤ 0; omega), (by show 0 + 0 + 0 + 0 ≤ 0; omega)⟩) hS (fun q _ h => hFc q h) hFc (fun r0 u t H1 locs hte hvm hz hB hsz hkp hS => ?_)
  have hP : va_P D vwCl [] H1 := ws_nP
  generalize H1 = H at hP hS ⊢
  subst hz
  refine lv_iconst (v := 5) hx hb dk_L_line_48 (by decide) ?_
  refine lv_isub hx hb dk_L_line_49 ?_
  rw [show (((nI (inV (ceV L xs (6 + li) / 11) 11)) - 5) : Int32) = Int32.ofInt (lnB L xs li) from (i3_sub _ 5)]
  refine lv_istore (lv' := [(5, .int (Int32.ofInt (lnB L xs li))), (4, .int (Int32.ofInt (lnA L xs li))), (3, .int (ceV L xs (6 + li))), (0, .ref bs), (1, .int (nI li)), (2, .int 0)]) hx hb dk_L_line_50 hl (by decide) rfl (fun ls hl => ?_)
  refine lv_iload_n hx hb dk_L_line_52 rfl (lv_at hl 5 rfl) ?_
  refine lv_if_ne (tgt := 61) hx hb dk_L_line_53 rfl (fun q => absurd rfl q) (fun _ => ?_)
  refine lv_iload hx hb dk_L_line_56 (lv_at hl 1 rfl) ?_
  refine lv_goto (tgt := 77) hx hb dk_L_line_58 rfl ?_
  refine W.widen (k := 0) (n := 0) (by omega) (by omega) ?_
  exact W.iret (v := (Int32.ofInt (lnA L xs li))) hx hb hr (fun t ht hW => ⟨⟨(Int32.ofInt (lnA L xs li)), (), rfl, rfl, trivial⟩, hS.F ht⟩) hS.2.2 dk_L_line_77
set_option maxHeartbeats 4000000 in
set_option maxRecDepth 100000 in
theorem sk_line1 (l : Launch) (D : va_G) (kC : Nat → ClassId) (bs L : Nat) (xs : Nat → Int32) (hLb : L < 1000) (li : Nat) (hli : li ≤ 100) (sz : Nat) : Met l yL_line (.code yL_line cL_line 6 (some .int) :: jk_tb) (jr 2 0 0) (va_Pc [.ref bs, .int (nI li), .int 1] (ws_B D kC (fun B U H => js_G B U H ∧ scX bs L xs B U H) [] sz)) (va_Qi (S := Unit) (fun r _ => r = Int32.ofInt (lnV L xs li 1)) (fun _ _ => True) (va_A [] sz)) 0 0 (va_A [] sz) := by
  refine Met.ofW (cc := cL_line) (maxL := 6) (ret := (some .int)) (by decide +kernel) rfl ?_
  intro p e s m args below meth c s₁ B hml hv2
  obtain ⟨rfl, hsz, hP, hK, hD0, hE⟩ := hv2
  have hx := B.exec
  have hb := B.bytes
  have hr := B.returns
  have hlocks := B.notSynchronized
  have hts0 := atoms_spec (ws := (.code yL_line cL_line 6 (some .int) :: jk_tb)) B.pre
  have htj := fun w (hw : w ∈ jk_tb) => hts0 w (List.mem_cons_of_mem _ hw)
  have hts := fun w (hw : w ∈ am_tb) => htj w (jk_in hw)
  have hown : s.vm.findClass yL_line.cls = some m.cls := findClass_of_methodNamed B.named
  subst hsz
  have hD := hD0.self (sz := s.heap.size)
  generalize hAe : va_A [] s.heap.size = A at hD hE ⊢
  have hA : ∀ q : Nat, s.heap.size ≤ q → A q := fun q h => by rw [← hAe]; exact Or.inr h
  have hP : va_P D vwCl [] s.heap := hP
  have hS : va_S A s.heap s.heap [] := va_S.rf
  have hl := lv_entry ([.ref bs, .int (nI li), .int 1]) (n := 6) (Nat.le_of_ble_eq_true rfl)
  rw [lg_entry_eq]
  generalize (lg_sl ([.ref bs, .int (nI li), .int 1]) ++ List.replicate (6 - (lg_sl ([.ref bs, .int (nI li), .int 1])).length) Slot.unset).toArray = ls at hl ⊢
  have hl : lv_has ls 6 [(0, .ref bs), (1, .int (nI li)), (2, .int 1)] := hl
  have hab := lnAB (L := L) (xs := xs) (j := li)
  refine lv_aload_n hx hb dk_L_line_0 rfl (lv_at hl 0 rfl) ?_
  refine lv_bipush (v := 6) hx hb dk_L_line_1 (by decide) ?_
  refine lv_iload_n hx hb dk_L_line_3 rfl (lv_at hl 1 rfl) ?_
  refine lv_iadd hx hb dk_L_line_4 ?_
  rw [show ((6 + (nI li)) : Int32) = nI (6 + li) from (nI_add 6 li)]
  have hPc : va_P D vwCl [] s.heap := ws_nP
  have hDc : va_D A [] := ws_nD
  have hFc : ∀ q, va_A [] s.heap.size q → A q := fun q h => hA q (Nat.le_trans hS.1 (ws_nA h))
  refine va_calli (va_runS (As := [.ref bs, .int (nI (6 + li))]) (rest := []) ⟨hx, hb, hml, hown, hts⟩ (sk_cell l D kC bs L xs hLb (6 + li) (by omega) s.heap.size) ⟨am_callB (R := jr 2 0 0) (index := 37) 2 (jk_pay htj (am_tb_at 63 (by decide +kernel) rfl)) (hts _ (am_tb_at 63 (by decide +kernel) rfl)) rfl rfl rfl (hts _ (am_tb_at 34 (by decide +kernel) rfl)) (hts _ (am_tb_at 61 (by decide +kernel) rfl)) ⟨by decide, by decide, by decide +kernel⟩ ⟨(by show 1 + 1 ≤ 2; decide), (by show 8 + (2 + 11) + 48 * 1 ≤ 48 * 2; decide)⟩, (hts _ (am_tb_at 62 (by decide +kernel) rfl))⟩ (ws_S (Stb_and Stb_G (Stb_X bs L xs)) hPc hK hDc (fun U hU hW => ws_E (Stb_and Stb_G (Stb_X bs L xs)) hE hS hU hW hFc)) rfl rfl hl.1 rfl (lv_room (Nat.le_of_ble_eq_true rfl)) dk_L_line_5 ⟨(by show 0 + 0 ≤ 0; omega), (by show 0 + 0 ≤ 0; omega)⟩) hS (fun q _ h => hFc q h) hFc (fun r0 u t H1 locs hte hvm hz hB hsz hkp hS => ?_)
  have hP : va_P D vwCl [] H1 := ws_nP
  generalize H1 = H at hP hS ⊢
  subst hz
  refine lv_istore_n (lv' := [(3, .int (ceV L xs (6 + li))), (0, .ref bs), (1, .int (nI li)), (2, .int 1)]) hx hb dk_L_line_8 rfl hl (by decide) rfl (fun ls hl => ?_)
  refine lv_iload_n hx hb dk_L_line_9 rfl (lv_at hl 3 rfl) ?_
  refine lv_iconst (v := 2) hx hb dk_L_line_10 (by decide) ?_
  refine lv_icmp_ne (tgt := 29) hx hb dk_L_line_11 rfl (fun _ => ?_) (fun q => absurd q (by decide))
  refine lv_iload_n hx hb dk_L_line_29 rfl (lv_at hl 0 rfl) ?_
  refine lv_bipush (v := 11) hx hb dk_L_line_30 (by decide) ?_
  have hPc : va_P D vwCl [] H := ws_nP
  have hDc : va_D A [] := ws_nD
  have hFc : ∀ q, va_A [] H.size q → A q := fun q h => hA q (Nat.le_trans hS.1 (ws_nA h))
  refine va_calli (va_runS (As := [.int (ceV L xs (6 + li)), .int 11]) (rest := []) ⟨hx, hb, hml, hown, hts⟩ (sk_in l D kC (ceV L xs (6 + li)) 11 (by decide) (by decide) H.size) ⟨am_callB (R := jr 2 0 0) (index := 43) 2 (jk_pay htj (am_tb_at 66 (by decide +kernel) rfl)) (hts _ (am_tb_at 66 (by decide +kernel) rfl)) rfl rfl rfl (hts _ (am_tb_at 34 (by decide +kernel) rfl)) (hts _ (am_tb_at 64 (by decide +kernel) rfl)) ⟨by decide, by decide, by decide +kernel⟩ ⟨(by show 1 + 1 ≤ 2; decide), (by show 8 + (2 + 11) + 48 * 1 ≤ 48 * 2; decide)⟩, (hts _ (am_tb_at 65 (by decide +kernel) rfl))⟩ (ws_S Stb_G hPc hK hDc (fun U hU hW => ws_E Stb_G hE.1 hS hU hW hFc)) rfl rfl hl.1 rfl (lv_room (Nat.le_of_ble_eq_true rfl)) dk_L_line_32 ⟨(by show 0 + 0 + 0 ≤ 0; omega), (by show 0 + 0 + 0 ≤ 0; omega)⟩) hS (fun q _ h => hFc q h) hFc (fun r0 u t H1 locs hte hvm hz hB hsz hkp hS => ?_)
  have hP : va_P D vwCl [] H1 := ws_nP
  generalize H1 = H at hP hS ⊢
  subst hz
  refine lv_iconst (v := 5) hx hb dk_L_line_35 (by decide) ?_
  refine lv_isub hx hb dk_L_line_36 ?_
  rw [show (((nI (inV (ceV L xs (6 + li)) 11)) - 5) : Int32) = Int32.ofInt (lnA L xs li) from (i3_sub _ 5)]
  refine lv_istore (lv' := [(4, .int (Int32.ofInt (lnA L xs li))), (3, .int (ceV L xs (6 + li))), (0, .ref bs), (1, .int (nI li)), (2, .int 1)]) hx hb dk_L_line_37 hl (by decide) rfl (fun ls hl => ?_)
  refine lv_iload_n hx hb dk_L_line_39 rfl (lv_at hl 1 rfl) ?_
  refine lv_bipush (v := 11) hx hb dk_L_line_40 (by decide) ?_
  refine lv_idiv hx hb dk_L_line_42 (by decide) ?_
  refine lv_bipush (v := 11) hx hb dk_L_line_43 (by decide) ?_
  have hPc : va_P D vwCl [] H := ws_nP
  have hDc : va_D A [] := ws_nD
  have hFc : ∀ q, va_A [] H.size q → A q := fun q h => hA q (Nat.le_trans hS.1 (ws_nA h))
  refine va_calli (va_runS (As := [.int ((ceV L xs (6 + li)) / 11), .int 11]) (rest := []) ⟨hx, hb, hml, hown, hts⟩ (sk_in l D kC (ceV L xs (6 + li) / 11) 11 (by decide) (by decide) H.size) ⟨am_callB (R := jr 2 0 0) (index := 43) 2 (jk_pay htj (am_tb_at 66 (by decide +kernel) rfl)) (hts _ (am_tb_at 66 (by decide +kernel) rfl)) rfl rfl rfl (hts _ (am_tb_at 34 (by decide +kernel) rfl)) (hts _ (am_tb_at 64 (by decide +kernel) rfl)) ⟨by decide, by decide, by decide +kernel⟩ ⟨(by show 1 + 1 ≤ 2; decide), (by show 8 + (2 + 11) + 48 * 1 ≤ 48 * 2; decide)⟩, (hts _ (am_tb_at 65 (by decide +kernel) rfl))⟩ (ws_S Stb_G hPc hK hDc (fun U hU hW => ws_E Stb_G hE.1 hS hU hW hFc)) rfl rfl hl.1 rfl (lv_room (Nat.le_of_ble_eq_true rfl)) dk_L_line_45 ⟨(by show 0 + 0 + 0 + 0 ≤ 0; omega), (by show 0 + 0 + 0 + 0 ≤ 0; omega)⟩) hS (fun q _ h => hFc q h) hFc (fun r0 u t H1 locs hte hvm hz hB hsz hkp hS => ?_)
  have hP : va_P D vwCl [] H1 := ws_nP
  generalize H1 = H at hP hS ⊢
  subst hz
  refine lv_iconst (v := 5) hx hb dk_L_line_48 (by decide) ?_
  refine lv_isub hx hb dk_L_line_49 ?_
  rw [show (((nI (inV (ceV L xs (6 + li) / 11) 11)) - 5) : Int32) = Int32.ofInt (lnB L xs li) from (i3_sub _ 5)]
  refine lv_istore (lv' := [(5, .int (Int32.ofInt (lnB L xs li))), (4, .int (Int32.ofInt (lnA L xs li))), (3, .int (ceV L xs (6 + li))), (0, .ref bs), (1, .int (nI li)), (2, .int 1)]) hx hb dk_L_line_50 hl (by decide) rfl (fun ls hl => ?_)
  refine lv_iload_n hx hb dk_L_line_52 rfl (lv_at hl 5 rfl) ?_
  refine lv_if_ne (tgt := 61) hx hb dk_L_line_53 rfl (fun _ => ?_) (fun q => absurd q (by decide))
  refine lv_iload hx hb dk_L_line_61 (lv_at hl 1 rfl) ?_
  by_cases ha : lnA L xs li = 0
  · skip
    refine lv_if_ne (tgt := 75) hx hb dk_L_line_63 rfl (fun q => absurd ((i3_z (by omega) (by omega)).mpr ha) q) (fun _ => ?_)
    refine lv_iload hx hb dk_L_line_66 (lv_at hl 0 rfl) ?_
    by_cases hb0 : lnB L xs li = 0
    · skip
      refine lv_if_ne (tgt := 75) hx hb dk_L_line_68 rfl (fun q => absurd ((i3_z (by omega) (by omega)).mpr hb0) q) (fun _ => ?_)
      refine lv_iconst (v := 1) hx hb dk_L_line_71 (by decide) ?_
      refine lv_goto (tgt := 77) hx hb dk_L_line_72 rfl ?_
      have e : (1 : Int32) = Int32.ofInt (lnV L xs li 1) := by
        unfold lnV; rw [if_neg (by decide), if_neg (by decide), if_pos ha, if_pos hb0]; rfl
      refine W.widen (k := 0) (n := 0) (by omega) (by omega) ?_
      exact W.iret (v := 1) hx hb hr (fun t ht hW => ⟨⟨1, (), rfl, e, trivial⟩, hS.F ht⟩) hS.2.2 dk_L_line_77
    · skip
      refine lv_if_ne (tgt := 75) hx hb dk_L_line_68 rfl (fun _ => ?_) (fun q => absurd q (fun z => hb0 ((i3_z (by omega) (by omega)).mp z)))
      refine lv_iload hx hb dk_L_line_75 (lv_at hl 0 rfl) ?_
      have e : Int32.ofInt (lnB L xs li) = Int32.ofInt (lnV L xs li 1) := by
        unfold lnV; rw [if_neg (by decide), if_neg (by decide), if_pos ha, if_neg hb0]
      refine W.widen (k := 0) (n := 0) (by omega) (by omega) ?_
      exact W.iret (v := (Int32.ofInt (lnB L xs li))) hx hb hr (fun t ht hW => ⟨⟨(Int32.ofInt (lnB L xs li)), (), rfl, e, trivial⟩, hS.F ht⟩) hS.2.2 dk_L_line_77
  · skip
    refine lv_if_ne (tgt := 75) hx hb dk_L_line_63 rfl (fun _ => ?_) (fun q => absurd q (fun z => ha ((i3_z (by omega) (by omega)).mp z)))
    refine lv_iload hx hb dk_L_line_75 (lv_at hl 0 rfl) ?_
    have e : Int32.ofInt (lnB L xs li) = Int32.ofInt (lnV L xs li 1) := by
      unfold lnV; rw [if_neg (by decide), if_neg (by decide), if_neg ha]
    refine W.widen (k := 0) (n := 0) (by omega) (by omega) ?_
    exact W.iret (v := (Int32.ofInt (lnB L xs li))) hx hb hr (fun t ht hW => ⟨⟨(Int32.ofInt (lnB L xs li)), (), rfl, e, trivial⟩, hS.F ht⟩) hS.2.2 dk_L_line_77
