theorem dk_J3_checkIndex_8e157_0 : decode cJ3_checkIndex_8e157 0 = .ok (.iload_n 0, 1) := by decide +kernel
theorem dk_J3_checkIndex_8e157_1 : decode cJ3_checkIndex_8e157 1 = .ok (.ifCond .lt 8, 3) := by decide +kernel
theorem dk_J3_checkIndex_8e157_4 : decode cJ3_checkIndex_8e157 4 = .ok (.iload_n 0, 1) := by decide +kernel
theorem dk_J3_checkIndex_8e157_5 : decode cJ3_checkIndex_8e157 5 = .ok (.iload_n 1, 1) := by decide +kernel
theorem dk_J3_checkIndex_8e157_6 : decode cJ3_checkIndex_8e157 6 = .ok (.if_icmp .lt 10, 3) := by decide +kernel
theorem dk_J3_checkIndex_8e157_9 : decode cJ3_checkIndex_8e157 9 = .ok (.aload_n 2, 1) := by decide +kernel
theorem dk_J3_checkIndex_8e157_10 : decode cJ3_checkIndex_8e157 10 = .ok (.iload_n 0, 1) := by decide +kernel
theorem dk_J3_checkIndex_8e157_11 : decode cJ3_checkIndex_8e157 11 = .ok (.iload_n 1, 1) := by decide +kernel
theorem dk_J3_checkIndex_8e157_12 : decode cJ3_checkIndex_8e157 12 = .ok (.invokestatic 95, 3) := by decide +kernel
theorem dk_J3_checkIndex_8e157_15 : decode cJ3_checkIndex_8e157 15 = .ok (.athrow, 1) := by decide +kernel
theorem dk_J3_checkIndex_8e157_16 : decode cJ3_checkIndex_8e157 16 = .ok (.iload_n 0, 1) := by decide +kernel
theorem dk_J3_checkIndex_8e157_17 : decode cJ3_checkIndex_8e157 17 = .ok (.ireturn, 1) := by decide +kernel
set_option maxHeartbeats 4000000 in
set_option maxRecDepth 100000 in
theorem sk_ci3 (l : Launch) (D : va_G) (kC : Nat → ClassId) (i n : Nat) (h1 : i < n) (h2 : n < 2147483648) (vv : Value) (hv : vv = .null ∨ ∃ t, vv = .ref t) (sz : Nat) : Met l yJ3_checkIndex_8e157 (.code yJ3_checkIndex_8e157 cJ3_checkIndex_8e157 3 (some .int) :: jk_tb) (jr 1 0 0) (va_Pc [.int (nI i), .int (nI n), vv] (ws_B D kC js_G [] sz)) (va_Qi (S := Unit) (fun r _ => r = nI i) (fun _ _ => True) (va_A [] sz)) 0 0 (va_A [] sz) := by
  refine Met.ofW (cc := cJ3_checkIndex_8e157) (maxL := 3) (ret := (some .int)) (by decide +kernel) rfl ?_
  intro p e s m args below meth c s₁ B hml hv2
  obtain ⟨rfl, hsz, hP, hK, hD0, hE⟩ := hv2
  have hx := B.exec
  have hb := B.bytes
  have hr := B.returns
  have hlocks := B.notSynchronized
  have hts0 := atoms_spec (ws := (.code yJ3_checkIndex_8e157 cJ3_checkIndex_8e157 3 (some .int) :: jk_tb)) B.pre
  have htj := fun w (hw : w ∈ jk_tb) => hts0 w (List.mem_cons_of_mem _ hw)
  have hts := fun w (hw : w ∈ am_tb) => htj w (jk_in hw)
  have hown : s.vm.findClass yJ3_checkIndex_8e157.cls = some m.cls := findClass_of_methodNamed B.named
  subst hsz
  have hD := hD0.self (sz := s.heap.size)
  generalize hAe : va_A [] s.heap.size = A at hD hE ⊢
  have hA : ∀ q : Nat, s.heap.size ≤ q → A q := fun q h => by rw [← hAe]; exact Or.inr h
  have hP : va_P D vwCl [] s.heap := hP
  have hS : va_S A s.heap s.heap [] := va_S.rf
  have hcat : lg_sl [Value.int (nI i), .int (nI n), vv] = [Slot.val (.int (nI i)), Slot.val (.int (nI n)), Slot.val vv] := by rcases hv with rfl | ⟨t, rfl⟩ <;> rfl
  have hl := lv_entry ([.int (nI i), .int (nI n), vv]) (n := 3) (by rw [hcat]; exact Nat.le_of_ble_eq_true rfl)
  rw [lg_entry_eq]
  generalize (lg_sl ([.int (nI i), .int (nI n), vv]) ++ List.replicate (3 - (lg_sl ([.int (nI i), .int (nI n), vv])).length) Slot.unset).toArray = ls at hl ⊢
  have hl : lv_has ls 3 [(0, .int (nI i)), (1, .int (nI n))] := by
    rcases hv with rfl | ⟨t, rfl⟩ <;> exact lv_sub hl [0, 1] rfl
  refine lv_iload_n hx hb dk_J3_checkIndex_8e157_0 rfl (lv_at hl 0 rfl) ?_
  refine lv_if_lt (tgt := 9) hx hb dk_J3_checkIndex_8e157_1 rfl (fun q => absurd q (nI_pos (by omega))) (fun _ => ?_)
  refine lv_iload_n hx hb dk_J3_checkIndex_8e157_4 rfl (lv_at hl 0 rfl) ?_
  refine lv_iload_n hx hb dk_J3_checkIndex_8e157_5 rfl (lv_at hl 1 rfl) ?_
  refine lv_icmp_lt (tgt := 16) hx hb dk_J3_checkIndex_8e157_6 rfl (fun _ => ?_) (fun q => absurd (nI_lt h1 (by omega)) q)
  refine lv_iload_n hx hb dk_J3_checkIndex_8e157_16 rfl (lv_at hl 0 rfl) ?_
  refine W.widen (k := 0) (n := 0) (by omega) (by omega) ?_
  exact W.iret (v := (nI i)) hx hb hr (fun t ht hW => ⟨⟨(nI i), (), rfl, rfl, trivial⟩, hS.F ht⟩) hS.2.2 dk_J3_checkIndex_8e157_17
theorem dk_J0_checkIndex_df160_0 : decode cJ0_checkIndex_df160 0 = .ok (.iload_n 0, 1) := by decide +kernel
theorem dk_J0_checkIndex_df160_1 : decode cJ0_checkIndex_df160 1 = .ok (.iload_n 1, 1) := by decide +kernel
theorem dk_J0_checkIndex_df160_2 : decode cJ0_checkIndex_df160 2 = .ok (.getstatic 1053, 3) := by decide +kernel
theorem dk_J0_checkIndex_df160_5 : decode cJ0_checkIndex_df160 5 = .ok (.invokestatic 1059, 3) := by decide +kernel
theorem dk_J0_checkIndex_df160_8 : decode cJ0_checkIndex_df160 8 = .ok (.pop, 1) := by decide +kernel
theorem dk_J0_checkIndex_df160_9 : decode cJ0_checkIndex_df160 9 = .ok (.return_, 1) := by decide +kernel
set_option maxHeartbeats 4000000 in
set_option maxRecDepth 100000 in
theorem sk_ci (l : Launch) (D : va_G) (kC : Nat → ClassId) (i n : Nat) (h1 : i < n) (h2 : n < 2147483648) (sz : Nat) : Met l yJ0_checkIndex_df160 (.code yJ0_checkIndex_df160 cJ0_checkIndex_df160 2 none :: jk_tb) (jr 2 0 0) (va_Pc [.int (nI i), .int (nI n)] (ws_B D kC js_G [] sz)) (va_Qv (S := Unit) (fun _ => True) (fun _ _ => True) (va_A [] sz)) 0 0 (va_A [] sz) := by
  refine Met.ofW (cc := cJ0_checkIndex_df160) (maxL := 2) (ret := none) (by decide +kernel) rfl ?_
  intro p e s m args below meth c s₁ B hml hv2
  obtain ⟨rfl, hsz, hP, hK, hD0, hE⟩ := hv2
  have hx := B.exec
  have hb := B.bytes
  have hr := B.returns
  have hlocks := B.notSynchronized
  have hts0 := atoms_spec (ws := (.code yJ0_checkIndex_df160 cJ0_checkIndex_df160 2 none :: jk_tb)) B.pre
  have htj := fun w (hw : w ∈ jk_tb) => hts0 w (List.mem_cons_of_mem _ hw)
  have hts := fun w (hw : w ∈ am_tb) => htj w (jk_in hw)
  have hown : s.vm.findClass yJ0_checkIndex_df160.cls = some m.cls := findClass_of_methodNamed B.named
  subst hsz
  have hD := hD0.self (sz := s.heap.size)
  generalize hAe : va_A [] s.heap.size = A at hD hE ⊢
  have hA : ∀ q : Nat, s.heap.size ≤ q → A q := fun q h => by rw [← hAe]; exact Or.inr h
  have hP : va_P D vwCl [] s.heap := hP
  have hS : va_S A s.heap s.heap [] := va_S.rf
  have hl := lv_entry ([.int (nI i), .int (nI n)]) (n := 2) (Nat.le_of_ble_eq_true rfl)
  rw [lg_entry_eq]
  generalize (lg_sl ([.int (nI i), .int (nI n)]) ++ List.replicate (2 - (lg_sl ([.int (nI i), .int (nI n)])).length) Slot.unset).toArray = ls at hl ⊢
  have hl : lv_has ls 2 [(0, .int (nI i)), (1, .int (nI n))] := hl
  obtain ⟨vv, hv, hZ⟩ : ∃ vv : Value, (vv = .null ∨ ∃ t, vv = .ref t) ∧ va_Z "jdk/internal/util/Preconditions" "SIOOBE_FORMATTER" "Ljava/util/function/BiFunction;" vv A s s.heap := by
    rcases hE.2.1 with h | ⟨t, h⟩
    · exact ⟨_, Or.inl rfl, h⟩
    · exact ⟨_, Or.inr ⟨t, rfl⟩, h⟩
  refine lv_iload_n hx hb dk_J0_checkIndex_df160_0 rfl (lv_at hl 0 rfl) ?_
  refine lv_iload_n hx hb dk_J0_checkIndex_df160_1 rfl (lv_at hl 1 rfl) ?_
  refine va_gets hx hb hZ hS hown (hts _ (am_tb_at 383 (by decide +kernel) rfl)) (fun x h => h) dk_J0_checkIndex_df160_2 ?_
  have hPc : va_P D vwCl [] s.heap := ws_nP
  have hDc : va_D A [] := ws_nD
  have hFc : ∀ q, va_A [] s.heap.size q → A q := fun q h => hA q (Nat.le_trans hS.1 (ws_nA h))
  refine va_calli (va_runS (As := [.int (nI i), .int (nI n), vv]) (rest := []) ⟨hx, hb, hml, hown, hts⟩ (sk_ci3 l D kC i n h1 h2 vv hv s.heap.size) ⟨am_callB (R := jr 2 0 0) (index := 1059) 3 (jk_pay htj (am_tb_at 559 (by decide +kernel) rfl)) (hts _ (am_tb_at 559 (by decide +kernel) rfl)) rfl rfl rfl (hts _ (am_tb_at 52 (by decide +kernel) rfl)) (hts _ (am_tb_at 557 (by decide +kernel) rfl)) ⟨by decide, by decide, by decide +kernel⟩ ⟨(by show 1 + 1 ≤ 2; decide), (by show 8 + (3 + 11) + 48 * 1 ≤ 48 * 2; decide)⟩, (hts _ (am_tb_at 558 (by decide +kernel) rfl))⟩ (ws_S Stb_G hPc hK hDc (fun U hU hW => ws_E Stb_G hE hS hU hW hFc)) rfl rfl hl.1 rfl (lv_room (Nat.le_of_ble_eq_true rfl)) dk_J0_checkIndex_df160_5 ⟨(by show 0 + 0 ≤ 0; omega), (by show 0 + 0 ≤ 0; omega)⟩) hS (fun q _ h => hFc q h) hFc (fun r0 u t H1 locs hte hvm hz hB hsz hkp hS => ?_)
  have hP : va_P D vwCl [] H1 := ws_nP
  generalize H1 = H at hP hS ⊢
  refine lv_pop hx hb dk_J0_checkIndex_df160_8 rfl ?_
  refine W.widen (k := 0) (n := 0) (by omega) (by omega) ?_
  exact W.vret hx hb hr (fun t ht hW => ⟨⟨(), rfl, trivial, trivial⟩, hS.F ht⟩) hS.2.2 dk_J0_checkIndex_df160_9
theorem dk_J1_charAt_3b067_0 : decode cJ1_charAt_3b067 0 = .ok (.iload_n 1, 1) := by decide +kernel
theorem dk_J1_charAt_3b067_1 : decode cJ1_charAt_3b067 1 = .ok (.aload_n 0, 1) := by decide +kernel
theorem dk_J1_charAt_3b067_2 : decode cJ1_charAt_3b067 2 = .ok (.arraylength, 1) := by decide +kernel
theorem dk_J1_charAt_3b067_3 : decode cJ1_charAt_3b067 3 = .ok (.invokestatic 9, 3) := by decide +kernel
theorem dk_J1_charAt_3b067_6 : decode cJ1_charAt_3b067 6 = .ok (.aload_n 0, 1) := by decide +kernel
theorem dk_J1_charAt_3b067_7 : decode cJ1_charAt_3b067 7 = .ok (.iload_n 1, 1) := by decide +kernel
theorem dk_J1_charAt_3b067_8 : decode cJ1_charAt_3b067 8 = .ok (.baload, 1) := by decide +kernel
theorem dk_J1_charAt_3b067_9 : decode cJ1_charAt_3b067 9 = .ok (.sipush 255, 3) := by decide +kernel
theorem dk_J1_charAt_3b067_12 : decode cJ1_charAt_3b067 12 = .ok (.iand, 1) := by decide +kernel
theorem dk_J1_charAt_3b067_13 : decode cJ1_charAt_3b067 13 = .ok (.i2c, 1) := by decide +kernel
theorem dk_J1_charAt_3b067_14 : decode cJ1_charAt_3b067 14 = .ok (.ireturn, 1) := by decide +kernel
set_option maxHeartbeats 4000000 in
set_option maxRecDepth 100000 in
theorem sk_lat (l : Launch) (D : va_G) (kC : Nat → ClassId) (d y i : Nat) (f : Nat → Int32) (tx : Nat → Nat) (hL : sb_Lat tx y f) (h1 : i < y) (h2 : y < 2147483648) (sz : Nat) : Met l yJ1_charAt_3b067 (.code yJ1_charAt_3b067 cJ1_charAt_3b067 2 (some .char) :: jk_tb) (jr 3 0 0) (va_Pc [.ref d, .int (nI i)] (ws_B D kC (fun B U H => js_G B U H ∧ va_T .byte d y (fun j => .int (f j)) B U H) [] sz)) (va_Qi (S := Unit) (fun r _ => r = nI (tx i)) (fun _ _ => True) (va_A [] sz)) 0 0 (va_A [] sz) := by
  refine Met.ofW (cc := cJ1_charAt_3b067) (maxL := 2) (ret := (some .char)) (by decide +kernel) rfl ?_
  intro p e s m args below meth c s₁ B hml hv2
  obtain ⟨rfl, hsz, hP, hK, hD0, hE⟩ := hv2
  have hx := B.exec
  have hb := B.bytes
  have hr := B.returns
  have hlocks := B.notSynchronized
  have hts0 := atoms_spec (ws := (.code yJ1_charAt_3b067 cJ1_charAt_3b067 2 (some .char) :: jk_tb)) B.pre
  have htj := fun w (hw : w ∈ jk_tb) => hts0 w (List.mem_cons_of_mem _ hw)
  have hts := fun w (hw : w ∈ am_tb) => htj w (jk_in hw)
  have hown : s.vm.findClass yJ1_charAt_3b067.cls = some m.cls := findClass_of_methodNamed B.named
  subst hsz
  have hD := hD0.self (sz := s.heap.size)
  generalize hAe : va_A [] s.heap.size = A at hD hE ⊢
  have hA : ∀ q : Nat, s.heap.size ≤ q → A q := fun q h => by rw [← hAe]; exact Or.inr h
  have hP : va_P D vwCl [] s.heap := hP
  have hS : va_S A s.heap s.heap [] := va_S.rf
  have hl := lv_entry ([.ref d, .int (nI i)]) (n := 2) (Nat.le_of_ble_eq_true rfl)
  rw [lg_entry_eq]
  generalize (lg_sl ([.ref d, .int (nI i)]) ++ List.replicate (2 - (lg_sl ([.ref d, .int (nI i)])).length) Slot.unset).toArray = ls at hl ⊢
  have hl : lv_has ls 2 [(0, .ref d), (1, .int (nI i))] := hl
  have hb2 := sb_byte _ (hL i h1).1
  have hc2 := (pk_charN (q := tx i) (by have := (hL i h1).1; omega)).1
  refine lv_iload_n hx hb dk_J1_charAt_3b067_0 rfl (lv_at hl 1 rfl) ?_
  refine lv_aload_n hx hb dk_J1_charAt_3b067_1 rfl (lv_at hl 0 rfl) ?_
  refine va_tlen (v := nI y) hx hb hE.2 hS rfl dk_J1_charAt_3b067_2 ?_
  have hPc : va_P D vwCl [] s.heap := ws_nP
  have hDc : va_D A [] := ws_nD
  have hFc : ∀ q, va_A [] s.heap.size q → A q := fun q h => hA q (Nat.le_trans hS.1 (ws_nA h))
  refine va_callv (va_runS (As := [.int (nI i), .int (nI y)]) (rest := []) ⟨hx, hb, hml, hown, hts⟩ (sk_ci l D kC i y h1 h2 s.heap.size) ⟨am_callB (R := jr 3 0 0) (index := 9) 2 (jk_pay htj (am_tb_at 556 (by decide +kernel) rfl)) (hts _ (am_tb_at 556 (by decide +kernel) rfl)) rfl rfl rfl (hts _ (am_tb_at 47 (by decide +kernel) rfl)) (hts _ (am_tb_at 591 (by decide +kernel) rfl)) ⟨by decide, by decide, by decide +kernel⟩ ⟨(by show 2 + 1 ≤ 3; decide), (by show 8 + (2 + 11) + 48 * 2 ≤ 48 * 3; decide)⟩, (hts _ (am_tb_at 555 (by decide +kernel) rfl))⟩ (ws_S Stb_G hPc hK hDc (fun U hU hW => ws_E Stb_G hE.1 hS hU hW hFc)) rfl rfl hl.1 rfl (lv_room (Nat.le_of_ble_eq_true rfl)) dk_J1_charAt_3b067_3 ⟨(by show 0 + 0 ≤ 0; omega), (by show 0 + 0 ≤ 0; omega)⟩) hS (fun q _ h => hFc q h) hFc (fun u t H1 locs hte hvm hz hB hsz hkp hS => ?_)
  have hP : va_P D vwCl [] H1 := ws_nP
  generalize H1 = H at hP hS ⊢
  refine lv_aload_n hx hb dk_J1_charAt_3b067_6 rfl (lv_at hl 0 rfl) ?_
  refine lv_iload_n hx hb dk_J1_charAt_3b067_7 rfl (lv_at hl 1 rfl) ?_
  refine va_tb (v := .int ((sb_b (tx i)))) hx hb hE.2 hS (vp_in_nI h1 (by omega)) (by show Value.int (f (nI i).toNatClampNeg) = _; rw [nI_clamp (by omega), (hL i h1).2]) dk_J1_charAt_3b067_8 ?_
  refine lv_sipush (v := 255) hx hb dk_J1_charAt_3b067_9 (by decide) ?_
  refine lv_iand hx hb dk_J1_charAt_3b067_12 ?_
  rw [show ((((sb_b (tx i))) &&& 255) : Int32) = nI (tx i) from hb2.1]
  refine lv_i2c (v := nI (tx i)) hx hb dk_J1_charAt_3b067_13 hb2.2.1 ?_
  refine W.widen (k := 0) (n := 0) (by omega) (by omega) ?_
  exact W.zret (v := (nI (tx i))) (ty := .char) hx hb hr hc2 (fun t ht hW => ⟨⟨(nI (tx i)), (), rfl, rfl, trivial⟩, hS.F ht⟩) hS.2.2 dk_J1_charAt_3b067_14
theorem dk_J0_charAt_5068e_0 : decode cJ0_charAt_5068e 0 = .ok (.aload_n 0, 1) := by decide +kernel
theorem dk_J0_charAt_5068e_1 : decode cJ0_charAt_5068e 1 = .ok (.invokevirtual 492, 3) := by decide +kernel
theorem dk_J0_charAt_5068e_4 : decode cJ0_charAt_5068e 4 = .ok (.ifCond .eq 12, 3) := by decide +kernel
theorem dk_J0_charAt_5068e_7 : decode cJ0_charAt_5068e 7 = .ok (.aload_n 0, 1) := by decide +kernel
theorem dk_J0_charAt_5068e_8 : decode cJ0_charAt_5068e 8 = .ok (.getfield 9, 3) := by decide +kernel
theorem dk_J0_charAt_5068e_11 : decode cJ0_charAt_5068e 11 = .ok (.iload_n 1, 1) := by decide +kernel
theorem dk_J0_charAt_5068e_12 : decode cJ0_charAt_5068e 12 = .ok (.invokestatic 495, 3) := by decide +kernel
theorem dk_J0_charAt_5068e_15 : decode cJ0_charAt_5068e 15 = .ok (.ireturn, 1) := by decide +kernel
theorem dk_J0_charAt_5068e_16 : decode cJ0_charAt_5068e 16 = .ok (.aload_n 0, 1) := by decide +kernel
theorem dk_J0_charAt_5068e_17 : decode cJ0_charAt_5068e 17 = .ok (.getfield 9, 3) := by decide +kernel
theorem dk_J0_charAt_5068e_20 : decode cJ0_charAt_5068e 20 = .ok (.iload_n 1, 1) := by decide +kernel
theorem dk_J0_charAt_5068e_21 : decode cJ0_charAt_5068e 21 = .ok (.invokestatic 498, 3) := by decide +kernel
theorem dk_J0_charAt_5068e_24 : decode cJ0_charAt_5068e 24 = .ok (.ireturn, 1) := by decide +kernel
set_option maxHeartbeats 4000000 in
set_option maxRecDepth 100000 in
theorem sk_chr (l : Launch) (D : va_G) (kC : Nat → ClassId) (a d y : Nat) (tx : Nat → Nat) (i : Nat) (h1 : i < y) (h2 : y < 2147483648) (sz : Nat) : Met l yJ0_charAt_5068e (.code yJ0_charAt_5068e cJ0_charAt_5068e 2 (some .char) :: jk_tb) (jr 4 0 0) (va_Pc [.ref a, .int (nI i)] (ws_B D kC (fun B U H => js_G B U H ∧ js_S a d y tx B U H) [] sz)) (va_Qi (S := Unit) (fun r _ => r = nI (tx i)) (fun _ _ => True) (va_A [] sz)) 0 0 (va_A [] sz) := by
  refine Met.ofW (cc := cJ0_charAt_5068e) (maxL := 2) (ret := (some .char)) (by decide +kernel) rfl ?_
  intro p e s m args below meth c s₁ B hml hv2
  obtain ⟨rfl, hsz, hP, hK, hD0, hE⟩ := hv2
  have hx := B.exec
  have hb := B.bytes
  have hr := B.returns
  have hlocks := B.notSynchronized
  have hts0 := atoms_spec (ws := (.code yJ0_charAt_5068e cJ0_charAt_5068e 2 (some .char) :: jk_tb)) B.pre
  have htj := fun w (hw : w ∈ jk_tb) => hts0 w (List.mem_cons_of_mem _ hw)
  have hts := fun w (hw : w ∈ am_tb) => htj w (jk_in hw)
  have hown : s.vm.findClass yJ0_charAt_5068e.cls = some m.cls := findClass_of_methodNamed B.named
  subst hsz
  have hD := hD0.self (sz := s.heap.size)
  generalize hAe : va_A [] s.heap.size = A at hD hE ⊢
  have hA : ∀ q : Nat, s.heap.size ≤ q → A q := fun q h => by rw [← hAe]; exact Or.inr h
  have hP : va_P D vwCl [] s.heap := hP
  have hS : va_S A s.heap s.heap [] := va_S.rf
  have hl := lv_entry ([.ref a, .int (nI i)]) (n := 2) (Nat.le_of_ble_eq_true rfl)
  rw [lg_entry_eq]
  generalize (lg_sl ([.ref a, .int (nI i)]) ++ List.replicate (2 - (lg_sl ([.ref a, .int (nI i)])).length) Slot.unset).toArray = ls at hl ⊢
  have hl : lv_has ls 2 [(0, .ref a), (1, .int (nI i))] := hl
  obtain ⟨f, hT, hLt, hft⟩ := hE.2.2.2.2
  have hc2 := (pk_charN (q := tx i) (by have := (hLt i h1).1; omega)).1
  refine lv_aload_n hx hb dk_J0_charAt_5068e_0 rfl (lv_at hl 0 rfl) ?_
  have hPc : va_P D vwCl [] s.heap := ws_nP
  have hDc : va_D A [] := ws_nD
  have hFc : ∀ q, va_A [] s.heap.size q → A q := fun q h => hA q (Nat.le_trans hS.1 (ws_nA h))
  refine va_calli (va_runV (As := []) (rest := []) ⟨hx, hb, hml, hown, hts⟩ (sk_sLat l D kC a d y tx s.heap.size) ⟨am_callB (R := jr 4 0 0) (index := 492) 0 (jk_pay htj (am_tb_at 587 (by decide +kernel) rfl)) (hts _ (am_tb_at 587 (by decide +kernel) rfl)) rfl rfl rfl (hts _ (am_tb_at 47 (by decide +kernel) rfl)) (hts _ (am_tb_at 584 (by decide +kernel) rfl)) ⟨by decide, by decide, by decide +kernel⟩ ⟨(by show 1 + 1 ≤ 4; decide), (by show 8 + (1 + 11) + 48 * 1 ≤ 48 * 4; decide)⟩, (hts _ (am_tb_at 585 (by decide +kernel) rfl)), (hts _ (am_tb_at 586 (by decide +kernel) rfl))⟩ (ws_V (Stb_and Stb_G (Stb_S a d y tx)) (ro_rec hE.2.1 hS) hPc hK hDc (fun U hU hW => ws_E (Stb_and Stb_G (Stb_S a d y tx)) hE hS hU hW hFc)) rfl rfl hl.1 rfl (lv_room (Nat.le_of_ble_eq_true rfl)) dk_J0_charAt_5068e_1 ⟨(by show 0 + 0 ≤ 0; omega), (by show 0 + 0 ≤ 0; omega)⟩) hS (fun q _ h => hFc q h) hFc (fun r0 u t H1 locs hte hvm hz hB hsz hkp hS => ?_)
  have hP : va_P D vwCl [] H1 := ws_nP
  generalize H1 = H at hP hS ⊢
  subst hz
  refine lv_if_eq (tgt := 16) hx hb dk_J0_charAt_5068e_4 rfl (fun q => absurd q (by decide)) (fun _ => ?_)
  refine lv_aload_n hx hb dk_J0_charAt_5068e_7 rfl (lv_at hl 0 rfl) ?_
  refine vk_getf hx hb hE.2.2.2.1 hS hown (hts _ (am_tb_at 522 (by decide +kernel) rfl)) (fun x h => h) dk_J0_charAt_5068e_8 ?_
  refine lv_iload_n hx hb dk_J0_charAt_5068e_11 rfl (lv_at hl 1 rfl) ?_
  have hPc : va_P D vwCl [] H := ws_nP
  have hDc : va_D A [] := ws_nD
  have hFc : ∀ q, va_A [] H.size q → A q := fun q h => hA q (Nat.le_trans hS.1 (ws_nA h))
  refine va_calli (va_runS (As := [.ref d, .int (nI i)]) (rest := []) ⟨hx, hb, hml, hown, hts⟩ (sk_lat l D kC d y i f tx hLt h1 h2 H.size) ⟨am_callB (R := jr 4 0 0) (index := 495) 2 (jk_pay htj (am_tb_at 590 (by decide +kernel) rfl)) (hts _ (am_tb_at 590 (by decide +kernel) rfl)) rfl rfl rfl (hts _ (am_tb_at 53 (by decide +kernel) rfl)) (hts _ (am_tb_at 588 (by decide +kernel) rfl)) ⟨by decide, by decide, by decide +kernel⟩ ⟨(by show 3 + 1 ≤ 4; decide), (by show 8 + (2 + 11) + 48 * 3 ≤ 48 * 4; decide)⟩, (hts _ (am_tb_at 589 (by decide +kernel) rfl))⟩ (ws_S (Stb_and Stb_G (Stb_T .byte d y (fun j => .int (f j)))) hPc hK hDc (fun U hU hW => ⟨ws_E Stb_G hE.1 hS hU hW hFc, ws_E (Stb_T .byte d y (fun j => .int (f j))) hT hS hU hW hFc⟩)) rfl rfl hl.1 rfl (lv_room (Nat.le_of_ble_eq_true rfl)) dk_J0_charAt_5068e_12 ⟨(by show 0 + 0 + 0 ≤ 0; omega), (by show 0 + 0 + 0 ≤ 0; omega)⟩) hS (fun q _ h => hFc q h) hFc (fun r0 u t H1 locs hte hvm hz hB hsz hkp hS => ?_)
  have hP : va_P D vwCl [] H1 := ws_nP
  generalize H1 = H at hP hS ⊢
  subst hz
  refine W.widen (k := 0) (n := 0) (by omega) (by omega) ?_
  exact W.zret (v := (nI (tx i))) (ty := .char) hx hb hr hc2 (fun t ht hW => ⟨⟨(nI (tx i)), (), rfl, rfl, trivial⟩, hS.F ht⟩) hS.2.2 dk_J0_charAt_5068e_15
/-- the script -/
def scX (bs L : Nat) (xs : Nat → Int32) : RoP := fun B U H => va_X bs L xs U H ∧ bs < H.size ∧ ¬ B bs
theorem Stb_X (bs L : Nat) (xs : Nat → Int32) : Stb (scX bs L xs) := ⟨fun _ _ _ _ w q => ⟨q.1.moved w.alike, q.2⟩, fun _ u U _ w q => ⟨q.1.moved (by rw [w]; exact Vm.Alike.refl _), q.2⟩, fun _ _ H H1 q k => ⟨q.1.kept (k bs q.2.1 q.2.2), by
  obtain ⟨scr, h1, -⟩ := q.1
  have h2 : H1[bs]? = some scr := by rw [k bs q.2.1 q.2.2]; exact h1
  exact (Array.getElem?_eq_some_iff.mp h2).1, q.2.2⟩, fun _ _ _ _ q k => ⟨q.1, q.2.1, fun z => q.2.2 (k bs z)⟩⟩
def ceV (L : Nat) (xs : Nat → Int32) (j : Nat) : Int32 := if j < L then xs j else 0
def inV (x : Int32) (m : Nat) : Nat := (x &&& 2147483647).toBitVec.toNat % m
theorem and_nI (x : Int32) : (x &&& 2147483647).toBitVec.toNat < 2147483648 ∧ x &&& 2147483647 = nI (x &&& 2147483647).toBitVec.toNat := by
  have h : (x &&& 2147483647).toBitVec.toNat < 2147483648 := by
    have e : (x &&& 2147483647).toBitVec = x.toBitVec &&& (2147483647 : Int32).toBitVec := rfl
    rw [e, BitVec.toNat_and]
    exact Nat.lt_of_le_of_lt Nat.and_le_right (by decide)
  refine ⟨h, ?_⟩
  apply Int32.toBitVec_inj.mp
  show _ = BitVec.ofNat 32 _
  rw [BitVec.ofNat_toNat, BitVec.setWidth_eq]
theorem nI_div {a b : Nat} (ha : a < 2147483648) (hb : b < 2147483648) : nI a / nI b = nI (a / b) := by
  have h : a / b ≤ a := Nat.div_le_self _ _
  have e : (a : Int).tdiv (b : Int) = ((a / b : Nat) : Int) := by rw [Int.natCast_ediv, Int.tdiv_eq_ediv_of_nonneg (by omega)]
  apply Int32.toInt_inj.mp
  rw [Int32.toInt_div, nI_toInt (by omega), nI_toInt (by omega), nI_toInt (by omega), e]
  generalize a / b = q at h
  exact Int.bmod_eq_of_le (by omega) (by omega)
theorem nI_mul {a b : Nat} : nI a * nI b = nI (a * b) := (Int32.ofNat_mul a b).symm
theorem in_eq {x : Int32} {m : Nat} (h : m < 2147483648) : (x &&& 2147483647) - (x &&& 2147483647) / nI m * nI m = nI (inV x m) := by
  obtain ⟨h1, h2⟩ := and_nI x
  unfold inV
  generalize (x &&& 2147483647).toBitVec.toNat = j at h1 h2
  rw [h2, nI_div h1 h, nI_mul, pk_sub (Nat.div_mul_le_self j m)]
  congr 1
  have := Nat.div_add_mod j m
  rw [Nat.mul_comm] at this
  omega
theorem inV_lt {x : Int32} {m : Nat} (h : 0 < m) : inV x m < m := Nat.mod_lt _ h
theorem dk_L_cell_0 : decode cL_cell 0 = .ok (.iload_n 1, 1) := by decide +kernel
theorem dk_L_cell_1 : decode cL_cell 1 = .ok (.aload_n 0, 1) := by decide +kernel
theorem dk_L_cell_2 : decode cL_cell 2 = .ok (.arraylength, 1) := by decide +kernel
theorem dk_L_cell_3 : decode cL_cell 3 = .ok (.if_icmp .ge 9, 3) := by decide +kernel
theorem dk_L_cell_6 : decode cL_cell 6 = .ok (.aload_n 0, 1) := by decide +kernel
theorem dk_L_cell_7 : decode cL_cell 7 = .ok (.iload_n 1, 1) := by decide +kernel
theorem dk_L_cell_8 : decode cL_cell 8 = .ok (.iaload, 1) := by decide +kernel
theorem dk_L_cell_9 : decode cL_cell 9 = .ok (.goto 4, 3) := by decide +kernel
theorem dk_L_cell_12 : decode cL_cell 12 = .ok (.iconst 0, 1) := by decide +kernel
theorem dk_L_cell_13 : decode cL_cell 13 = .ok (.ireturn, 1) := by decide +kernel
set_option maxHeartbeats 4000000 in
set_option maxRecDepth 100000 in
theorem sk_cell (l : Launch) (D : va_G) (kC : Nat → ClassId) (bs L : Nat) (xs : Nat → Int32) (hLb : L < 1000) (j : Nat) (hj : j < 1000) (sz : Nat) : Met l yL_cell (.code yL_cell cL_cell 2 (some .int) :: jk_tb) (jr 1 0 0) (va_Pc [.ref bs, .int (nI j)] (ws_B D kC (fun B U H => js_G B U H ∧ scX bs L xs B U H) [] sz)) (va_Qi (S := Unit) (fun r _ => r = ceV L xs j) (fun _ _ => True) (va_A [] sz)) 0 0 (va_A [] sz) := by
  refine Met.ofW (cc := cL_cell) (maxL := 2) (ret := (some .int)) (by decide +kernel) rfl ?_
  intro p e s m args below meth c s₁ B hml hv2
  obtain ⟨rfl, hsz, hP, hK, hD0, hE⟩ := hv2
  have hx := B.exec
  have hb := B.bytes
  have hr := B.returns
  have hlocks := B.notSynchronized
  have hts0 := atoms_spec (ws := (.code yL_cell cL_cell 2 (some .int) :: jk_tb)) B.pre
  have htj := fun w (hw : w ∈ jk_tb) => hts0 w (List.mem_cons_of_mem _ hw)
  have hts := fun w (hw : w ∈ am_tb) => htj w (jk_in hw)
  have hown : s.vm.findClass yL_cell.cls = some m.cls := findClass_of_methodNamed B.named
  subst hsz
  have hD := hD0.self (sz := s.heap.size)
  generalize hAe : va_A [] s.heap.size = A at hD hE ⊢
  have hA : ∀ q : Nat, s.heap.size ≤ q → A q := fun q h => by rw [← hAe]; exact Or.inr h
  have hP : va_P D vwCl [] s.heap := hP
  have hS : va_S A s.heap s.heap [] := va_S.rf
  have hl := lv_entry ([.ref bs, .int (nI j)]) (n := 2) (Nat.le_of_ble_eq_true rfl)
  rw [lg_entry_eq]
  generalize (lg_sl ([.ref bs, .int (nI j)]) ++ List.replicate (2 - (lg_sl ([.ref bs, .int (nI j)])).length) Slot.unset).toArray = ls at hl ⊢
  have hl : lv_has ls 2 [(0, .ref bs), (1, .int (nI j))] := hl
  refine lv_iload_n hx hb dk_L_cell_0 rfl (lv_at hl 1 rfl) ?_
  refine lv_aload_n hx hb dk_L_cell_1 rfl (lv_at hl 0 rfl) ?_
  refine va_slen hx hb hE.2.1 hE.2.2.1 hE.2.2.2 hS dk_L_cell_2 ?_
  by_cases hjl : j < L
  · have e : ceV L xs j = xs j := if_pos hjl
    rw [e]
    refine lv_icmp_ge (tgt := 12) hx hb dk_L_cell_3 rfl (fun q => absurd q (fun z => absurd ((nI_leI (by omega) (by omega)).mp z) (by omega))) (fun _ => ?_)
    refine lv_aload_n hx hb dk_L_cell_6 rfl (lv_at hl 0 rfl) ?_
    refine lv_iload_n hx hb dk_L_cell_7 rfl (lv_at hl 1 rfl) ?_
    refine va_sld hx hb hE.2.1 hE.2.2.1 hE.2.2.2 hS (vp_in_nI hjl (by omega)) dk_L_cell_8 ?_
    rw [nI_clamp (by omega)]
    refine lv_goto (tgt := 13) hx hb dk_L_cell_9 rfl ?_
    refine W.widen (k := 0) (n := 0) (by omega) (by omega) ?_
    exact W.iret (v := (xs j)) hx hb hr (fun t ht hW => ⟨⟨(xs j), (), rfl, rfl, trivial⟩, hS.F ht⟩) hS.2.2 dk_L_cell_13
  · have e : ceV L xs j = 0 := if_neg hjl
    rw [e]
    refine lv_icmp_ge (tgt := 12) hx hb dk_L_cell_3 rfl (fun _ => ?_) (fun q => absurd ((nI_leI (by omega) (by omega)).mpr (by omega)) q)
    refine lv_iconst (v := 0) hx hb dk_L_cell_12 (by decide) ?_
    refine W.widen (k := 0) (n := 0) (by omega) (by omega) ?_
    exact W.iret (v := 0) hx hb hr (fun t ht hW => ⟨⟨0, (), rfl, rfl, trivial⟩, hS.F ht⟩) hS.2.2 dk_L_cell_13
theorem dk_L_in_0 : decode cL_in 0 = .ok (.iload_n 0, 1) := by decide +kernel
theorem dk_L_in_1 : decode cL_in 1 = .ok (.ldc 7, 2) := by decide +kernel
theorem dk_L_in_3 : decode cL_in 3 = .ok (.iand, 1) := by decide +kernel
theorem dk_L_in_4 : decode cL_in 4 = .ok (.iload_n 1, 1) := by decide +kernel
theorem dk_L_in_5 : decode cL_in 5 = .ok (.irem, 1) := by decide +kernel
theorem dk_L_in_6 : decode cL_in 6 = .ok (.ireturn, 1) := by decide +kernel
set_option maxHeartbeats 4000000 in
set_option maxRecDepth 100000 in
theorem sk_in (l : Launch) (D : va_G) (kC : Nat → ClassId) (x : Int32) (m0 : Nat) (h : 0 < m0) (h2 : m0 < 2147483648) (sz : Nat) : Met l yL_in (.code yL_in cL_in 2 (some .int) :: jk_tb) (jr 1 0 0) (va_Pc [.int x, .int (nI m0)] (ws_B D kC js_G [] sz)) (va_Qi (S := Unit) (fun r _ => r = nI (inV x m0)) (fun _ _ => True) (va_A [] sz)) 0 0 (va_A [] sz) := by
  refine Met.ofW (cc := cL_in) (maxL := 2) (ret := (some .int)) (by decide +kernel) rfl ?_
  intro p e s m args below meth c s₁ B hml hv2
  obtain ⟨rfl, hsz, hP, hK, hD0, hE⟩ := hv2
  have hx := B.exec
  have hb := B.bytes
  have hr := B.returns
  have hlocks := B.notSynchronized
  have hts0 := atoms_spec (ws := (.code yL_in cL_in 2 (some .int) :: jk_tb)) B.pre
  have htj := fun w (hw : w ∈ jk_tb) => hts0 w (List.mem_cons_of_mem _ hw)
  have hts := fun w (hw : w ∈ am_tb) => htj w (jk_in hw)
  have hown : s.vm.findClass yL_in.cls = some m.cls := findClass_of_methodNamed B.named
  subst hsz
  have hD := hD0.self (sz := s.heap.size)
  generalize hAe : va_A [] s.heap.size = A at hD hE ⊢
  have hA : ∀ q : Nat, s.heap.size ≤ q → A q := fun q h => by rw [← hAe]; exact Or.inr h
  have hP : va_P D vwCl [] s.heap := hP
  have hS : va_S A s.heap s.heap [] := va_S.rf
  have hl := lv_entry ([.int x, .int (nI m0)]) (n := 2) (Nat.le_of_ble_eq_true rfl)
  rw [lg_entry_eq]
  generalize (lg_sl ([.int x, .int (nI m0)]) ++ List.replicate (2 - (lg_sl ([.int x, .int (nI m0)])).length) Slot.unset).toArray = ls at hl ⊢
  have hl : lv_has ls 2 [(0, .int x), (1, .int (nI m0))] := hl
  refine lv_iload_n hx hb dk_L_in_0 rfl (lv_at hl 0 rfl) ?_
  refine lv_ldc (v := 2147483647) hx hb hown (hts _ (am_tb_at 67 (by decide +kernel) rfl)) dk_L_in_1 ?_
  refine lv_iand hx hb dk_L_in_3 ?_
  refine lv_iload_n hx hb dk_L_in_4 rfl (lv_at hl 1 rfl) ?_
  refine lv_irem hx hb dk_L_in_5 (fun z => absurd ((nI_eq (b := 0) (by omega) (by decide)).mp z) (by omega)) ?_
  rw [show (((x &&& 2147483647) - (x &&& 2147483647) / (nI m0) * (nI m0)) : Int32) = nI (inV x m0) from in_eq h2]
  refine W.widen (k := 0) (n := 0) (by omega) (by omega) ?_
  exact W.iret (v := (nI (inV x m0))) hx hb hr (fun t ht hW => ⟨⟨(nI (inV x m0)), (), rfl, rfl, trivial⟩, hS.F ht⟩) hS.2.2 dk_L_in_6
def cvN (L : Nat) (xs : Nat → Int32) : Nat := 1 + inV (ceV L xs 0) 5
theorem dk_L_curves_0 : decode cL_curves 0 = .ok (.iconst 1, 1) := by decide +kernel
theorem dk_L_curves_1 : decode cL_curves 1 = .ok (.aload_n 0, 1) := by decide +kernel
theorem dk_L_curves_2 : decode cL_curves 2 = .ok (.iconst 0, 1) := by decide +kernel
theorem dk_L_curves_3 : decode cL_curves 3 = .ok (.invokestatic 37, 3) := by decide +kernel
theorem dk_L_curves_6 : decode cL_curves 6 = .ok (.iconst 5, 1) := by decide +kernel
theorem dk_L_curves_7 : decode cL_curves 7 = .ok (.invokestatic 43, 3) := by decide +kernel
theorem dk_L_curves_10 : decode cL_curves 10 = .ok (.iadd, 1) := by decide +kernel
theorem dk_L_curves_11 : decode cL_curves 11 = .ok (.ireturn, 1) := by decide +kernel
set_option maxHeartbeats 4000000 in
set_option maxRecDepth 100000 in
theorem sk_curves (l : Launch) (D : va_G) (kC : Nat → ClassId) (bs L : Nat) (xs : Nat → Int32) (hLb : L < 1000) (sz : Nat) : Met l yL_curves (.code yL_curves cL_curves 1 (some .int) :: jk_tb) (jr 2 0 0) (va_Pc [.ref bs] (ws_B D kC (fun B U H => js_G B U H ∧ scX bs L xs B U H) [] sz)) (va_Qi (S := Unit) (fun r _ => r = nI (cvN L xs)) (fun _ _ => True) (va_A [] sz)) 0 0 (va_A [] sz) := by
  refine Met.ofW (cc := cL_curves) (maxL := 1) (ret := (some .int)) (by decide +kernel) rfl ?_
  intro p e s m args below meth c s₁ B hml hv2
  obtain ⟨rfl, hsz, hP, hK, hD0, hE⟩ := hv2
  have hx := B.exec
  have hb := B.bytes
  have hr := B.returns
  have hlocks := B.notSynchronized
  have hts0 := atoms_spec (ws := (.code yL_curves cL_curves 1 (some .int) :: jk_tb)) B.pre
  have htj := fun w (hw : w ∈ jk_tb) => hts0 w (List.mem_cons_of_mem _ hw)
  have hts := fun w (hw : w ∈ am_tb) => htj w (jk_in hw)
  have hown : s.vm.findClass yL_curves.cls = some m.cls := findClass_of_methodNamed B.named
  subst hsz
  have hD := hD0.self (sz := s.heap.size)
  generalize hAe : va_A [] s.heap.size = A at hD hE ⊢
  have hA : ∀ q : Nat, s.heap.size ≤ q → A q := fun q h => by rw [← hAe]; exact Or.inr h
  have hP : va_P D vwCl [] s.heap := hP
  have hS : va_S A s.heap s.heap [] := va_S.rf
  have hl := lv_entry ([.ref bs]) (n := 1) (Nat.le_of_ble_eq_true rfl)
  rw [lg_entry_eq]
  generalize (lg_sl ([.ref bs]) ++ List.replicate (1 - (lg_sl ([.ref bs])).length) Slot.unset).toArray = ls at hl ⊢
  have hl : lv_has ls 1 [(0, .ref bs)] := hl
  refine lv_iconst (v := 1) hx hb dk_L_curves_0 (by decide) ?_
  refine lv_aload_n hx hb dk_L_curves_1 rfl (lv_at hl 0 rfl) ?_
  refine lv_iconst (v := 0) hx hb dk_L_curves_2 (by decide) ?_
  have hPc : va_P D vwCl [] s.heap := ws_nP
  have hDc : va_D A [] := ws_nD
  have hFc : ∀ q, va_A [] s.heap.size q → A q := fun q h => hA q (Nat.le_trans hS.1 (ws_nA h))
  refine va_calli (va_runS (As := [.ref bs, .int 0]) (rest := [.int 1]) ⟨hx, hb, hml, hown, hts⟩ (sk_cell l D kC bs L xs hLb 0 (by omega) s.heap.size) ⟨am_callB (R := jr 2 0 0) (index := 37) 2 (jk_pay htj (am_tb_at 63 (by decide +kernel) rfl)) (hts _ (am_tb_at 63 (by decide +kernel) rfl)) rfl rfl rfl (hts _ (am_tb_at 34 (by decide +kernel) rfl)) (hts _ (am_tb_at 61 (by decide +kernel) rfl)) ⟨by decide, by decide, by decide +kernel⟩ ⟨(by show 1 + 1 ≤ 2; decide), (by show 8 + (2 + 11) + 48 * 1 ≤ 48 * 2; decide)⟩, (hts _ (am_tb_at 62 (by decide +kernel) rfl))⟩ (ws_S (Stb_and Stb_G (Stb_X bs L xs)) hPc hK hDc (fun U hU hW => ws_E (Stb_and Stb_G (Stb_X bs L xs)) hE hS hU hW hFc)) rfl rfl hl.1 rfl (lv_room (Nat.le_of_ble_eq_true rfl)) dk_L_curves_3 ⟨(by show 0 + 0 ≤ 0; omega), (by show 0 + 0 ≤ 0; omega)⟩) hS (fun q _ h => hFc q h) hFc (fun r0 u t H1 locs hte hvm hz hB hsz hkp hS => ?_)
  have hP : va_P D vwCl [] H1 := ws_nP
  generalize H1 = H at hP hS ⊢
  subst hz
  refine lv_iconst (v := 5) hx hb dk_L_curves_6 (by decide) ?_
  have hPc : va_P D vwCl [] H := ws_nP
  have hDc : va_D A [] := ws_nD
  have hFc : ∀ q, va_A [] H.size q → A q := fun q h => hA q (Nat.le_trans hS.1 (ws_nA h))
  refine va_calli (va_runS (As := [.int (ceV L xs 0), .int 5]) (rest := [.int 1]) ⟨hx, hb, hml, hown, hts⟩ (sk_in l D kC (ceV L xs 0) 5 (by decide) (by decide) H.size) ⟨am_callB (R := jr 2 0 0) (index := 43) 2 (jk_pay htj (am_tb_at 66 (by decide +kernel) rfl)) (hts _ (am_tb_at 66 (by decide +kernel) rfl)) rfl rfl rfl (hts _ (am_tb_at 34 (by decide +kernel) rfl)) (hts _ (am_tb_at 64 (by decide +kernel) rfl)) ⟨by decide, by decide, by decide +kernel⟩ ⟨(by show 1 + 1 ≤ 2; decide), (by show 8 + (2 + 11) + 48 * 1 ≤ 48 * 2; decide)⟩, (hts _ (am_tb_at 65 (by decide +kernel) rfl))⟩ (ws_S Stb_G hPc hK hDc (fun U hU hW => ws_E Stb_G hE.1 hS hU hW hFc)) rfl rfl hl.1 rfl (lv_room (Nat.le_of_ble_eq_true rfl)) dk_L_curves_7 ⟨(by show 0 + 0 + 0 ≤ 0; omega), (by show 0 + 0 + 0 ≤ 0; omega)⟩) hS (fun q _ h => hFc q h) hFc (fun r0 u t H1 locs hte hvm hz hB hsz hkp hS => ?_)
  have hP : va_P D vwCl [] H1 := ws_nP
  generalize H1 = H at hP hS ⊢
  subst hz
  refine lv_iadd hx hb dk_L_curves_10 ?_
  rw [show ((1 + (nI (inV (ceV L xs 0) 5))) : Int32) = nI (cvN L xs) from (nI_add 1 _)]
  refine W.widen (k := 0) (n := 0) (by omega) (by omega) ?_
  exact W.iret (v := (nI (cvN L xs))) hx hb hr (fun t ht hW => ⟨⟨(nI (cvN L xs)), (), rfl, rfl, trivial⟩, hS.F ht⟩) hS.2.2 dk_L_curves_11
def lnN (L : Nat) (xs : Nat → Int32) : Nat := 1 + inV (ceV L xs 0 / 8) 4
theorem dk_L_lines_0 : decode cL_lines 0 = .ok (.iconst 1, 1) := by decide +kernel
theorem dk_L_lines_1 : decode cL_lines 1 = .ok (.aload_n 0, 1) := by decide +kernel
theorem dk_L_lines_2 : decode cL_lines 2 = .ok (.iconst 0, 1) := by decide +kernel
theorem dk_L_lines_3 : decode cL_lines 3 = .ok (.invokestatic 37, 3) := by decide +kernel
theorem dk_L_lines_6 : decode cL_lines 6 = .ok (.bipush 8, 2) := by decide +kernel
theorem dk_L_lines_8 : decode cL_lines 8 = .ok (.idiv, 1) := by decide +kernel
theorem dk_L_lines_9 : decode cL_lines 9 = .ok (.iconst 4, 1) := by decide +kernel
theorem dk_L_lines_10 : decode cL_lines 10 = .ok (.invokestatic 43, 3) := by decide +kernel
theorem dk_L_lines_13 : decode cL_lines 13 = .ok (.iadd, 1) := by decide +kernel
theorem dk_L_lines_14 : decode cL_lines 14 = .ok (.ireturn, 1) := by decide +kernel
set_option maxHeartbeats 4000000 in
set_option maxRecDepth 100000 in
theorem sk_lines (l : Launch) (D : va_G) (kC : Nat → ClassId) (bs L : Nat) (xs : Nat → Int32) (hLb : L < 1000) (sz : Nat) : Met l yL_lines (.code yL_lines cL_lines 1 (some .int) :: jk_tb) (jr 2 0 0) (va_Pc [.ref bs] (ws_B D kC (fun B U H => js_G B U H ∧ scX bs L xs B U H) [] sz)) (va_Qi (S := Unit) (fun r _ => r = nI (lnN L xs)) (fun _ _ => True) (va_A [] sz)) 0 0 (va_A [] sz) := by
  refine Met.ofW (cc := cL_lines) (maxL := 1) (ret := (some .int)) (by decide +kernel) rfl ?_
  intro p e s m args below meth c s₁ B hml hv2
  obtain ⟨rfl, hsz, hP, hK, hD0, hE⟩ := hv2
  have hx := B.exec
  have hb := B.bytes
  have hr := B.returns
  have hlocks := B.notSynchronized
  have hts0 := atoms_spec (ws := (.code yL_lines cL_lines 1 (some .int) :: jk_tb)) B.pre
  have htj := fun w (hw : w ∈ jk_tb) => hts0 w (List.mem_cons_of_mem _ hw)
  have hts := fun w (hw : w ∈ am_tb) => htj w (jk_in hw)
  have hown : s.vm.findClass yL_lines.cls = some m.cls := findClass_of_methodNamed B.named
  subst hsz
  have hD := hD0.self (sz := s.heap.size)
  generalize hAe : va_A [] s.heap.size = A at hD hE ⊢
  have hA : ∀ q : Nat, s.heap.size ≤ q → A q := fun q h => by rw [← hAe]; exact Or.inr h
  have hP : va_P D vwCl [] s.heap := hP
  have hS : va_S A s.heap s.heap [] := va_S.rf
  have hl := lv_entry ([.ref bs]) (n := 1) (Nat.le_of_ble_eq_true rfl)
  rw [lg_entry_eq]
  generalize (lg_sl ([.ref bs]) ++ List.replicate (1 - (lg_sl ([.ref bs])).length) Slot.unset).toArray = ls at hl ⊢
  have hl : lv_has ls 1 [(0, .ref bs)] := hl
  refine lv_iconst (v := 1) hx hb dk_L_lines_0 (by decide) ?_
  refine lv_aload_n hx hb dk_L_lines_1 rfl (lv_at hl 0 rfl) ?_
  refine lv_iconst (v := 0) hx hb dk_L_lines_2 (by decide) ?_
  have hPc : va_P D vwCl [] s.heap := ws_nP
  have hDc : va_D A [] := ws_nD
  have hFc : ∀ q, va_A [] s.heap.size q → A q := fun q h => hA q (Nat.le_trans hS.1 (ws_nA h))
  refine va_calli (va_runS (As := [.ref bs, .int 0]) (rest := [.int 1]) ⟨hx, hb, hml, hown, hts⟩ (sk_cell l D kC bs L xs hLb 0 (by omega) s.heap.size) ⟨am_callB (R := jr 2 0 0) (index := 37) 2 (jk_pay htj (am_tb_at 63 (by decide +kernel) rfl)) (hts _ (am_tb_at 63 (by decide +kernel) rfl)) rfl rfl rfl (hts _ (am_tb_at 34 (by decide +kernel) rfl)) (hts _ (am_tb_at 61 (by decide +kernel) rfl)) ⟨by decide, by decide, by decide +kernel⟩ ⟨(by show 1 + 1 ≤ 2; decide), (by show 8 + (2 + 11) + 48 * 1 ≤ 48 * 2; decide)⟩, (hts _ (am_tb_at 62 (by decide +kernel) rfl))⟩ (ws_S (Stb_and Stb_G (Stb_X bs L xs)) hPc hK hDc (fun U hU hW => ws_E (Stb_and Stb_G (Stb_X bs L xs)) hE hS hU hW hFc)) rfl rfl hl.1 rfl (lv_room (Nat.le_of_ble_eq_true rfl)) dk_L_lines_3 ⟨(by show 0 + 0 ≤ 0; omega), (by show 0 + 0 ≤ 0; omega)⟩) hS (fun q _ h => hFc q h) hFc (fun r0 u t H1 locs hte hvm hz hB hsz hkp hS => ?_)
  have hP : va_P D vwCl [] H1 := ws_nP
  generalize H1 = H at hP hS ⊢
  subst hz
  refine lv_bipush (v := 8) hx hb dk_L_lines_6 (by decide) ?_
  refine lv_idiv hx hb dk_L_lines_8 (by decide) ?_
  refine lv_iconst (v := 4) hx hb dk_L_lines_9 (by decide) ?_
  have hPc : va_P D vwCl [] H := ws_nP
  have hDc : va_D A [] := ws_nD
  have hFc : ∀ q, va_A [] H.size q → A q := fun q h => hA q (Nat.le_trans hS.1 (ws_nA h))
  refine va_calli (va_runS (As := [.int ((ceV L xs 0) / 8), .int 4]) (rest := [.int 1]) ⟨hx, hb, hml, hown, hts⟩ (sk_in l D kC (ceV L xs 0 / 8) 4 (by decide) (by decide) H.size) ⟨am_callB (R := jr 2 0 0) (index := 43) 2 (jk_pay htj (am_tb_at 66 (by decide +kernel) rfl)) (hts _ (am_tb_at 66 (by decide +kernel) rfl)) rfl rfl rfl (hts _ (am_tb_at 34 (by decide +kernel) rfl)) (hts _ (am_tb_at 64 (by decide +kernel) rfl)) ⟨by decide, by decide, by decide +kernel⟩ ⟨(by show 1 + 1 ≤ 2; decide), (by show 8 + (2 + 11) + 48 * 1 ≤ 48 * 2; decide)⟩, (hts _ (am_tb_at 65 (by decide +kernel) rfl))⟩ (ws_S Stb_G hPc hK hDc (fun U hU hW => ws_E Stb_G hE.1 hS hU hW hFc)) rfl rfl hl.1 rfl (lv_room (Nat.le_of_ble_eq_true rfl)) dk_L_lines_10 ⟨(by show 0 + 0 + 0 ≤ 0; omega), (by show 0 + 0 + 0 ≤ 0; omega)⟩) hS (fun q _ h => hFc q h) hFc (fun r0 u t H1 locs hte hvm hz hB hsz hkp hS => ?_)
  have hP : va_P D vwCl [] H1 := ws_nP
  generalize H1 = H at hP hS ⊢
  subst hz
  refine lv_iadd hx hb dk_L_lines_13 ?_
  rw [show ((1 + (nI (inV (ceV L xs 0 / 8) 4))) : Int32) = nI (lnN L xs) from (nI_add 1 _)]
  refine W.widen (k := 0) (n := 0) (by omega) (by omega) ?_
  exact W.iret (v := (nI (lnN L xs))) hx hb hr (fun t ht hW => ⟨⟨(nI (lnN L xs)), (), rfl, rfl, trivial⟩, hS.F ht⟩) hS.2.2 dk_L_lines_14
def ltN (L : Nat) (xs : Nat → Int32) : Nat := 1 + inV (ceV L xs 0 / 32) 12
theorem dk_L_limit_0 : decode cL_limit 0 = .ok (.iconst 1, 1) := by decide +kernel
theorem dk_L_limit_1 : decode cL_limit 1 = .ok (.aload_n 0, 1) := by decide +kernel
theorem dk_L_limit_2 : decode cL_limit 2 = .ok (.iconst 0, 1) := by decide +kernel
theorem dk_L_limit_3 : decode cL_limit 3 = .ok (.invokestatic 37, 3) := by decide +kernel
theorem dk_L_limit_6 : decode cL_limit 6 = .ok (.bipush 32, 2) := by decide +kernel
theorem dk_L_limit_8 : decode cL_limit 8 = .ok (.idiv, 1) := by decide +kernel
theorem dk_L_limit_9 : decode cL_limit 9 = .ok (.bipush 12, 2) := by decide +kernel
theorem dk_L_limit_11 : decode cL_limit 11 = .ok (.invokestatic 43, 3) := by decide +kernel
theorem dk_L_limit_14 : decode cL_limit 14 = .ok (.iadd, 1) := by decide +kernel
theorem dk_L_limit_15 : decode cL_limit 15 = .ok (.ireturn, 1) := by decide +kernel
set_option maxHeartbeats 4000000 in
set_option maxRecDepth 100000 in
theorem sk_limit (l : Launch) (D : va_G) (kC : Nat → ClassId) (bs L : Nat) (xs : Nat → Int32) (hLb : L < 1000) (sz : Nat) : Met l yL_limit (.code yL_limit cL_limit 1 (some .int) :: jk_tb) (jr 2 0 0) (va_Pc [.ref bs] (ws_B D kC (fun B U H => js_G B U H ∧ scX bs L xs B U H) [] sz)) (va_Qi (S := Unit) (fun r _ => r = nI (ltN L xs)) (fun _ _ => True) (va_A [] sz)) 0 0 (va_A [] sz) := by
  refine Met.ofW (cc := cL_limit) (maxL := 1) (ret := (some .int)) (by decide +kernel) rfl ?_
  intro p e s m args below meth c s₁ B hml hv2
  obtain ⟨rfl, hsz, hP, hK, hD0, hE⟩ := hv2
  have hx := B.exec
  have hb := B.bytes
  have hr := B.returns
  have hlocks := B.notSynchronized
  have hts0 := atoms_spec (ws := (.code yL_limit cL_limit 1 (some .int) :: jk_tb)) B.pre
  have htj := fun w (hw : w ∈ jk_tb) => hts0 w (List.mem_cons_of_mem _ hw)
  have hts := fun w (hw : w ∈ am_tb) => htj w (jk_in hw)
  have hown : s.vm.findClass yL_limit.cls = some m.cls := findClass_of_methodNamed B.named
  subst hsz
  have hD := hD0.self (sz := s.heap.size)
  generalize hAe : va_A [] s.heap.size = A at hD hE ⊢
  have hA : ∀ q : Nat, s.heap.size ≤ q → A q := fun q h => by rw [← hAe]; exact Or.inr h
  have hP : va_P D vwCl [] s.heap := hP
  have hS : va_S A s.heap s.heap [] := va_S.rf
  have hl := lv_entry ([.ref bs]) (n := 1) (Nat.le_of_ble_eq_true rfl)
  rw [lg_entry_eq]
  generalize (lg_sl ([.ref bs]) ++ List.replicate (1 - (lg_sl ([.ref bs])).length) Slot.unset).toArray = ls at hl ⊢
  have hl : lv_has ls 1 [(0, .ref bs)] := hl
  refine lv_iconst (v := 1) hx hb dk_L_limit_0 (by decide) ?_
  refine lv_aload_n hx hb dk_L_limit_1 rfl (lv_at hl 0 rfl) ?_
  refine lv_iconst (v := 0) hx hb dk_L_limit_2 (by decide) ?_
  have hPc : va_P D vwCl [] s.heap := ws_nP
  have hDc : va_D A [] := ws_nD
  have hFc : ∀ q, va_A [] s.heap.size q → A q := fun q h => hA q (Nat.le_trans hS.1 (ws_nA h))
  refine va_calli (va_runS (As := [.ref bs, .int 0]) (rest := [.int 1]) ⟨hx, hb, hml, hown, hts⟩ (sk_cell l D kC bs L xs hLb 0 (by omega) s.heap.size) ⟨am_callB (R := jr 2 0 0) (index := 37) 2 (jk_pay htj (am_tb_at 63 (by decide +kernel) rfl)) (hts _ (am_tb_at 63 (by decide +kernel) rfl)) rfl rfl rfl (hts _ (am_tb_at 34 (by decide +kernel) rfl)) (hts _ (am_tb_at 61 (by decide +kernel) rfl)) ⟨by decide, by decide, by decide +kernel⟩ ⟨(by show 1 + 1 ≤ 2; decide), (by show 8 + (2 + 11) + 48 * 1 ≤ 48 * 2; decide)⟩, (hts _ (am_tb_at 62 (by decide +kernel) rfl))⟩ (ws_S (Stb_and Stb_G (Stb_X bs L xs)) hPc hK hDc (fun U hU hW => ws_E (Stb_and Stb_G (Stb_X bs L xs)) hE hS hU hW hFc)) rfl rfl hl.1 rfl (lv_room (Nat.le_of_ble_eq_true rfl)) dk_L_limit_3 ⟨(by show 0 + 0 ≤ 0; omega), (by show 0 + 0 ≤ 0; omega)⟩) hS (fun q _ h => hFc q h) hFc (fun r0 u t H1 locs hte hvm hz hB hsz hkp hS => ?_)
  have hP : va_P D vwCl [] H1 := ws_nP
  generalize H1 = H at hP hS ⊢
  subst hz
  refine lv_bipush (v := 32) hx hb dk_L_limit_6 (by decide) ?_
  refine lv_idiv hx hb dk_L_limit_8 (by decide) ?_
  refine lv_bipush (v := 12) hx hb dk_L_limit_9 (by decide) ?_
  have hPc : va_P D vwCl [] H := ws_nP
  have hDc : va_D A [] := ws_nD
  have hFc : ∀ q, va_A [] H.size q → A q := fun q h => hA q (Nat.le_trans hS.1 (ws_nA h))
  refine va_calli (va_runS (As := [.int ((ceV L xs 0) / 32), .int 12]) (rest := [.int 1]) ⟨hx, hb, hml, hown, hts⟩ (sk_in l D kC (ceV L xs 0 / 32) 12 (by decide) (by decide) H.size) ⟨am_callB (R := jr 2 0 0) (index := 43) 2 (jk_pay htj (am_tb_at 66 (by decide +kernel) rfl)) (hts _ (am_tb_at 66 (by decide +kernel) rfl)) rfl rfl rfl (hts _ (am_tb_at 34 (by decide +kernel) rfl)) (hts _ (am_tb_at 64 (by decide +kernel) rfl)) ⟨by decide, by decide, by decide +kernel⟩ ⟨(by show 1 + 1 ≤ 2; decide), (by show 8 + (2 + 11) + 48 * 1 ≤ 48 * 2; decide)⟩, (hts _ (am_tb_at 65 (by decide +kernel) rfl))⟩ (ws_S Stb_G hPc hK hDc (fun U hU hW => ws_E Stb_G hE.1 hS hU hW hFc)) rfl rfl hl.1 rfl (lv_room (Nat.le_of_ble_eq_true rfl)) dk_L_limit_11 ⟨(by show 0 + 0 + 0 ≤ 0; omega), (by show 0 + 0 + 0 ≤ 0; omega)⟩) hS (fun q _ h => hFc q h) hFc (fun r0 u t H1 locs hte hvm hz hB hsz hkp hS => ?_)
  have hP : va_P D vwCl [] H1 := ws_nP
  generalize H1 = H at hP hS ⊢
  subst hz
  refine lv_iadd hx hb dk_L_limit_14 ?_
  rw [show ((1 + (nI (inV (ceV L xs 0 / 32) 12))) : Int32) = nI (ltN L xs) from (nI_add 1 _)]
  refine W.widen (k := 0) (n := 0) (by omega) (by omega) ?_
  exact W.iret (v := (nI (ltN L xs))) hx hb hr (fun t ht hW => ⟨⟨(nI (ltN L xs)), (), rfl, rfl, trivial⟩, hS.F ht⟩) hS.2.2 dk_L_limit_15
def dpN (L : Nat) (xs : Nat → Int32) : Nat := 1 + inV (ceV L xs 0 / 512) 4
theorem dk_L_depth_0 : decode cL_depth 0 = .ok (.iconst 1, 1) := by decide +kernel
theorem dk_L_depth_1 : decode cL_depth 1 = .ok (.aload_n 0, 1) := by decide +kernel
theorem dk_L_depth_2 : decode cL_depth 2 = .ok (.iconst 0, 1) := by decide +kernel
theorem dk_L_depth_3 : decode cL_depth 3 = .ok (.invokestatic 37, 3) := by decide +kernel
theorem dk_L_depth_6 : decode cL_depth 6 = .ok (.sipush 512, 3) := by decide +kernel
theorem dk_L_depth_9 : decode cL_depth 9 = .ok (.idiv, 1) := by decide +kernel
theorem dk_L_depth_10 : decode cL_depth 10 = .ok (.iconst 4, 1) := by decide +kernel
theorem dk_L_depth_11 : decode cL_depth 11 = .ok (.invokestatic 43, 3) := by decide +kernel
theorem dk_L_depth_14 : decode cL_depth 14 = .ok (.iadd, 1) := by decide +kernel
theorem dk_L_depth_15 : decode cL_depth 15 = .ok (.ireturn, 1) := by decide +kernel
set_option maxHeartbeats 4000000 in
set_option maxRecDepth 100000 in
theorem sk_depth (l : Launch) (D : va_G) (kC : Nat → ClassId) (bs L : Nat) (xs : Nat → Int32) (hLb : L < 1000) (sz : Nat) : Met l yL_depth (.code yL_depth cL_depth 1 (some .int) :: jk_tb) (jr 2 0 0) (va_Pc [.ref bs] (ws_B D kC (fun B U H => js_G B U H ∧ scX bs L xs B U H) [] sz)) (va_Qi (S := Unit) (fun r _ => r = nI (dpN L xs)) (fun _ _ => True) (va_A [] sz)) 0 0 (va_A [] sz) := by
  refine Met.ofW (cc := cL_depth) (maxL := 1) (ret := (some .int)) (by decide +kernel) rfl ?_
  intro p e s m args below meth c s₁ B hml hv2
  obtain ⟨rfl, hsz, hP, hK, hD0, hE⟩ := hv2
  have hx := B.exec
  have hb := B.bytes
  have hr := B.returns
  have hlocks := B.notSynchronized
  have hts0 := atoms_spec (ws := (.code yL_depth cL_depth 1 (some .int) :: jk_tb)) B.pre
  have htj := fun w (hw : w ∈ jk_tb) => hts0 w (List.mem_cons_of_mem _ hw)
  have hts := fun w (hw : w ∈ am_tb) => htj w (jk_in hw)
  have hown : s.vm.findClass yL_depth.cls = some m.cls := findClass_of_methodNamed B.named
  subst hsz
  have hD := hD0.self (sz := s.heap.size)
  generalize hAe : va_A [] s.heap.size = A at hD hE ⊢
  have hA : ∀ q : Nat, s.heap.size ≤ q → A q := fun q h => by rw [← hAe]; exact Or.inr h
  have hP : va_P D vwCl [] s.heap := hP
  have hS : va_S A s.heap s.heap [] := va_S.rf
  have hl := lv_entry ([.ref bs]) (n := 1) (Nat.le_of_ble_eq_true rfl)
  rw [lg_entry_eq]
  generalize (lg_sl ([.ref bs]) ++ List.replicate (1 - (lg_sl ([.ref bs])).length) Slot.unset).toArray = ls at hl ⊢
  have hl : lv_has ls 1 [(0, .ref bs)] := hl
  refine lv_iconst (v := 1) hx hb dk_L_depth_0 (by decide) ?_
  refine lv_aload_n hx hb dk_L_depth_1 rfl (lv_at hl 0 rfl) ?_
  refine lv_iconst (v := 0) hx hb dk_L_depth_2 (by decide) ?_
  have hPc : va_P D vwCl [] s.heap := ws_nP
  have hDc : va_D A [] := ws_nD
  have hFc : ∀ q, va_A [] s.heap.size q → A q := fun q h => hA q (Nat.le_trans hS.1 (ws_nA h))
  refine va_calli (va_runS (As := [.ref bs, .int 0]) (rest := [.int 1]) ⟨hx, hb, hml, hown, hts⟩ (sk_cell l D kC bs L xs hLb 0 (by omega) s.heap.size) ⟨am_callB (R := jr 2 0 0) (index := 37) 2 (jk_pay htj (am_tb_at 63 (by decide +kernel) rfl)) (hts _ (am_tb_at 63 (by decide +kernel) rfl)) rfl rfl rfl (hts _ (am_tb_at 34 (by decide +kernel) rfl)) (hts _ (am_tb_at 61 (by decide +kernel) rfl)) ⟨by decide, by decide, by decide +kernel⟩ ⟨(by show 1 + 1 ≤ 2; decide), (by show 8 + (2 + 11) + 48 * 1 ≤ 48 * 2; decide)⟩, (hts _ (am_tb_at 62 (by decide +kernel) rfl))⟩ (ws_S (Stb_and Stb_G (Stb_X bs L xs)) hPc hK hDc (fun U hU hW => ws_E (Stb_and Stb_G (Stb_X bs L xs)) hE hS hU hW hFc)) rfl rfl hl.1 rfl (lv_room (Nat.le_of_ble_eq_true rfl)) dk_L_depth_3 ⟨(by show 0 + 0 ≤ 0; omega), (by show 0 + 0 ≤ 0; omega)⟩) hS (fun q _ h => hFc q h) hFc (fun r0 u t H1 locs hte hvm hz hB hsz hkp hS => ?_)
  have hP : va_P D vwCl [] H1 := ws_nP
  generalize H1 = H at hP hS ⊢
  subst hz
  refine lv_sipush (v := 512) hx hb dk_L_depth_6 (by decide) ?_
  refine lv_idiv hx hb dk_L_depth_9 (by decide) ?_
  refine lv_iconst (v := 4) hx hb dk_L_depth_10 (by decide) ?_
  have hPc : va_P D vwCl [] H := ws_nP
  have hDc : va_D A [] := ws_nD
  have hFc : ∀ q, va_A [] H.size q → A q := fun q h => hA q (Nat.le_trans hS.1 (ws_nA h))
  refine va_calli (va_runS (As := [.int ((ceV L xs 0) / 512), .int 4]) (rest := [.int 1]) ⟨hx, hb, hml, hown, hts⟩ (sk_in l D kC (ceV L xs 0 / 512) 4 (by decide) (by decide) H.size) ⟨am_callB (R := jr 2 0 0) (index := 43) 2 (jk_pay htj (am_tb_at 66 (by decide +kernel) rfl)) (hts _ (am_tb_at 66 (by decide +kernel) rfl)) rfl rfl rfl (hts _ (am_tb_at 34 (by decide +kernel) rfl)) (hts _ (am_tb_at 64 (by decide +kernel) rfl)) ⟨by decide, by decide, by decide +kernel⟩ ⟨(by show 1 + 1 ≤ 2; decide), (by show 8 + (2 + 11) + 48 * 1 ≤ 48 * 2; decide)⟩, (hts _ (am_tb_at 65 (by decide +kernel) rfl))⟩ (ws_S Stb_G hPc hK hDc (fun U hU hW => ws_E Stb_G hE.1 hS hU hW hFc)) rfl rfl hl.1 rfl (lv_room (Nat.le_of_ble_eq_true rfl)) dk_L_depth_11 ⟨(by show 0 + 0 + 0 ≤ 0; omega), (by show 0 + 0 + 0 ≤ 0; omega)⟩) hS (fun q _ h => hFc q h) hFc (fun r0 u t H1 locs hte hvm hz hB hsz hkp hS => ?_)
  have hP : va_P D vwCl [] H1 := ws_nP
  generalize H1 = H at hP hS ⊢
  subst hz
  refine lv_iadd hx hb dk_L_depth_14 ?_
  rw [show ((1 + (nI (inV (ceV L xs 0 / 512) 4))) : Int32) = nI (dpN L xs) from (nI_add 1 _)]
  refine W.widen (k := 0) (n := 0) (by omega) (by omega) ?_
  exact W.iret (v := (nI (dpN L xs))) hx hb hr (fun t ht hW => ⟨⟨(nI (dpN L xs)), (), rfl, rfl, trivial⟩, hS.F ht⟩) hS.2.2 dk_L_depth_15
