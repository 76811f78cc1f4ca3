theorem dk_J0_getBytes_840e7_0 : decode cJ0_getBytes_840e7 0 = .ok (.aload_n 0, 1) := by decide +kernel
theorem dk_J0_getBytes_840e7_1 : decode cJ0_getBytes_840e7 1 = .ok (.invokevirtual 335, 3) := by decide +kernel
theorem dk_J0_getBytes_840e7_4 : decode cJ0_getBytes_840e7 4 = .ok (.iload_n 3, 1) := by decide +kernel
theorem dk_J0_getBytes_840e7_5 : decode cJ0_getBytes_840e7 5 = .ok (.if_icmp .ne 23, 3) := by decide +kernel
theorem dk_J0_getBytes_840e7_8 : decode cJ0_getBytes_840e7 8 = .ok (.aload_n 0, 1) := by decide +kernel
theorem dk_J0_getBytes_840e7_9 : decode cJ0_getBytes_840e7 9 = .ok (.getfield 9, 3) := by decide +kernel
theorem dk_J0_getBytes_840e7_12 : decode cJ0_getBytes_840e7 12 = .ok (.iconst 0, 1) := by decide +kernel
theorem dk_J0_getBytes_840e7_13 : decode cJ0_getBytes_840e7 13 = .ok (.aload_n 1, 1) := by decide +kernel
theorem dk_J0_getBytes_840e7_14 : decode cJ0_getBytes_840e7 14 = .ok (.iload_n 2, 1) := by decide +kernel
theorem dk_J0_getBytes_840e7_15 : decode cJ0_getBytes_840e7 15 = .ok (.iload_n 3, 1) := by decide +kernel
theorem dk_J0_getBytes_840e7_16 : decode cJ0_getBytes_840e7 16 = .ok (.ishl, 1) := by decide +kernel
theorem dk_J0_getBytes_840e7_17 : decode cJ0_getBytes_840e7 17 = .ok (.aload_n 0, 1) := by decide +kernel
theorem dk_J0_getBytes_840e7_18 : decode cJ0_getBytes_840e7 18 = .ok (.getfield 9, 3) := by decide +kernel
theorem dk_J0_getBytes_840e7_21 : decode cJ0_getBytes_840e7 21 = .ok (.arraylength, 1) := by decide +kernel
theorem dk_J0_getBytes_840e7_22 : decode cJ0_getBytes_840e7 22 = .ok (.invokestatic 212, 3) := by decide +kernel
theorem dk_J0_getBytes_840e7_25 : decode cJ0_getBytes_840e7 25 = .ok (.goto 18, 3) := by decide +kernel
theorem dk_J0_getBytes_840e7_28 : decode cJ0_getBytes_840e7 28 = .ok (.aload_n 0, 1) := by decide +kernel
theorem dk_J0_getBytes_840e7_29 : decode cJ0_getBytes_840e7 29 = .ok (.getfield 9, 3) := by decide +kernel
theorem dk_J0_getBytes_840e7_32 : decode cJ0_getBytes_840e7 32 = .ok (.iconst 0, 1) := by decide +kernel
theorem dk_J0_getBytes_840e7_33 : decode cJ0_getBytes_840e7 33 = .ok (.aload_n 1, 1) := by decide +kernel
theorem dk_J0_getBytes_840e7_34 : decode cJ0_getBytes_840e7 34 = .ok (.iload_n 2, 1) := by decide +kernel
theorem dk_J0_getBytes_840e7_35 : decode cJ0_getBytes_840e7 35 = .ok (.aload_n 0, 1) := by decide +kernel
theorem dk_J0_getBytes_840e7_36 : decode cJ0_getBytes_840e7 36 = .ok (.getfield 9, 3) := by decide +kernel
theorem dk_J0_getBytes_840e7_39 : decode cJ0_getBytes_840e7 39 = .ok (.arraylength, 1) := by decide +kernel
theorem dk_J0_getBytes_840e7_40 : decode cJ0_getBytes_840e7 40 = .ok (.invokestatic 106, 3) := by decide +kernel
theorem dk_J0_getBytes_840e7_43 : decode cJ0_getBytes_840e7 43 = .ok (.return_, 1) := by decide +kernel
set_option maxHeartbeats 4000000 in
set_option maxRecDepth 100000 in
theorem sk_getB (l : Launch) (D : va_G) (kC : Nat → ClassId) (a d y : Nat) (tx : Nat → Nat) (b w n : Nat) (g : Nat → Int32) (h1 : n + y ≤ w) (h2 : w ≤ 4000) (hf : sb_Fit g) (sz : Nat) : Met l yJ0_getBytes_840e7 (.code yJ0_getBytes_840e7 cJ0_getBytes_840e7 4 none :: jk_tb) (jr 4 0 0) (va_Pc [.ref a, .ref b, .int (nI n), .int 0] (ws_B D kC (fun B U H => js_G B U H ∧ js_S a d y tx B U H) [(b, .inl (kC 2, w, .inl g))] sz)) (va_Qv (S := Nat → Int32) (fun g2 => sb_Fit g2 ∧ (∀ j, j < n → g2 j = g j) ∧ ∀ i, i < y → g2 (n + i) = sb_b (tx i)) (fun g2 t => va_P D vwCl [(b, .inl (kC 2, w, .inl g2))] t.heap ∧ va_D (va_A [(b, .inl (kC 2, w, .inl g))] sz) [(b, .inl (kC 2, w, .inl g2))]) (va_A [(b, .inl (kC 2, w, .inl g))] sz)) 0 0 (va_A [(b, .inl (kC 2, w, .inl g))] sz) := by
  refine Met.ofW (cc := cJ0_getBytes_840e7) (maxL := 4) (ret := none) (by decide +kernel) rfl ?_
  intro p e s m args below meth c s₁ B hml hv2
  obtain ⟨rfl, hsz, hP, hK, hD0, hE⟩ := hv2
  have hx := B.exec
  have hb := B.bytes
  have hr := B.returns
  have hlocks := B.notSynchronized
  have hts0 := atoms_spec (ws := (.code yJ0_getBytes_840e7 cJ0_getBytes_840e7 4 none :: jk_tb)) B.pre
  have htj := fun w (hw : w ∈ jk_tb) => hts0 w (List.mem_cons_of_mem _ hw)
  have hts := fun w (hw : w ∈ am_tb) => htj w (jk_in hw)
  have hown : s.vm.findClass yJ0_getBytes_840e7.cls = some m.cls := findClass_of_methodNamed B.named
  subst hsz
  have hD := hD0.self (sz := s.heap.size)
  generalize hAe : va_A [(b, .inl (kC 2, w, .inl g))] s.heap.size = A at hD hE ⊢
  have hA : ∀ q : Nat, s.heap.size ≤ q → A q := fun q h => by rw [← hAe]; exact Or.inr h
  have hP : va_P D vwCl [(b, .inl (kC 2, w, .inl g))] s.heap := hP
  have hS : va_S A s.heap s.heap [] := va_S.rf
  have hl := lv_entry ([.ref a, .ref b, .int (nI n), .int 0]) (n := 4) (Nat.le_of_ble_eq_true rfl)
  rw [lg_entry_eq]
  generalize (lg_sl ([.ref a, .ref b, .int (nI n), .int 0]) ++ List.replicate (4 - (lg_sl ([.ref a, .ref b, .int (nI n), .int 0])).length) Slot.unset).toArray = ls at hl ⊢
  have hl : lv_has ls 4 [(0, .ref a), (1, .ref b), (2, .int (nI n)), (3, .int 0)] := hl
  obtain ⟨f, hT, hLt, hft⟩ := hE.2.2.2.2
  refine lv_aload_n hx hb dk_J0_getBytes_840e7_0 rfl (lv_at hl 0 rfl) ?_
  have hPc : va_P D vwCl [] s.heap := ws_nP
  have hDc : va_D A [] := ws_nD
  have hFc : ∀ q, va_A [] s.heap.size q → A q := fun q h => hA q (Nat.le_trans hS.1 (ws_nA h))
  refine va_calli (va_runV (As := []) (rest := []) ⟨hx, hb, hml, hown, hts⟩ (sk_coder l D kC a d y tx s.heap.size) ⟨am_callB (R := jr 4 0 0) (index := 335) 0 (jk_pay htj (am_tb_at 404 (by decide +kernel) rfl)) (hts _ (am_tb_at 404 (by decide +kernel) rfl)) rfl rfl rfl (hts _ (am_tb_at 47 (by decide +kernel) rfl)) (hts _ (am_tb_at 401 (by decide +kernel) rfl)) ⟨by decide, by decide, by decide +kernel⟩ ⟨(by show 1 + 1 ≤ 4; decide), (by show 8 + (1 + 11) + 48 * 1 ≤ 48 * 4; decide)⟩, (hts _ (am_tb_at 402 (by decide +kernel) rfl)), (hts _ (am_tb_at 403 (by decide +kernel) rfl))⟩ (ws_V (Stb_and Stb_G (Stb_S a d y tx)) (ro_rec hE.2.1 hS) hPc hK hDc (fun U hU hW => ws_E (Stb_and Stb_G (Stb_S a d y tx)) hE hS hU hW hFc)) rfl rfl hl.1 rfl (lv_room (Nat.le_of_ble_eq_true rfl)) dk_J0_getBytes_840e7_1 ⟨(by show 0 + 0 ≤ 0; omega), (by show 0 + 0 ≤ 0; omega)⟩) hS (fun q _ h => hFc q h) hFc (fun r0 u t H1 locs hte hvm hz hB hsz hkp hS => ?_)
  have hP := ws_kept hP hkp
  generalize H1 = H at hP hS ⊢
  have hP : va_P D vwCl [(b, .inl (kC 2, w, .inl g))] H := hP
  have hD : va_D A [(b, .inl (kC 2, w, .inl g))] := hD
  subst hz
  refine lv_iload_n hx hb dk_J0_getBytes_840e7_4 rfl (lv_at hl 3 rfl) ?_
  refine lv_icmp_ne (tgt := 28) hx hb dk_J0_getBytes_840e7_5 rfl (fun q => absurd rfl q) (fun _ => ?_)
  refine lv_aload_n hx hb dk_J0_getBytes_840e7_8 rfl (lv_at hl 0 rfl) ?_
  refine vk_getf hx hb hE.2.2.2.1 hS hown (hts _ (am_tb_at 522 (by decide +kernel) rfl)) (fun x h => h) dk_J0_getBytes_840e7_9 ?_
  refine lv_iconst (v := 0) hx hb dk_J0_getBytes_840e7_12 (by decide) ?_
  refine lv_aload_n hx hb dk_J0_getBytes_840e7_13 rfl (lv_at hl 1 rfl) ?_
  refine lv_iload_n hx hb dk_J0_getBytes_840e7_14 rfl (lv_at hl 2 rfl) ?_
  refine lv_iload_n hx hb dk_J0_getBytes_840e7_15 rfl (lv_at hl 3 rfl) ?_
  refine lv_ishl hx hb dk_J0_getBytes_840e7_16 ?_
  rw [show ((((nI n) : Int32) <<< ((0 : Int32) &&& 31)) : Int32) = nI n from sb_shl0 _]
  refine lv_aload_n hx hb dk_J0_getBytes_840e7_17 rfl (lv_at hl 0 rfl) ?_
  refine vk_getf hx hb hE.2.2.2.1 hS hown (hts _ (am_tb_at 522 (by decide +kernel) rfl)) (fun x h => h) dk_J0_getBytes_840e7_18 ?_
  refine va_tlen (v := nI y) hx hb hT hS rfl dk_J0_getBytes_840e7_21 ?_
  refine vk_copyt hx hb (by rw [hml, hl.1]) hown (hts _ (am_tb_at 438 (by decide +kernel) rfl)) (hts _ (am_tb_at 365 (by decide +kernel) rfl)) (hts _ (am_tb_at 364 (by decide +kernel) rfl)) (hts _ (am_tb_at 51 (by decide +kernel) rfl)) hK hP hD hS (hT) 0 2 rfl rfl (by decide) (nI_pos (by omega)) (nI_pos (by omega)) (by rw [sb_cl0, nI_clamp (n := y) (by omega)]; omega) (by rw [nI_clamp (n := n) (by omega), nI_clamp (n := y) (by omega)]; omega) (fun i _ => hft _) (by show 1 ≤ 4; decide) (Nat.le_of_ble_eq_true rfl) dk_J0_getBytes_840e7_22 (fun H locs hP hD hS => ?_)
  rw [sb_cl0, nI_clamp (n := n) (by omega), nI_clamp (n := y) (by omega)] at hP hD
  have hP : va_P D vwCl [(b, .inl (kC 2, w, .inl (va_cpy f g 0 n y)))] H := hP
  have hD : va_D A [(b, .inl (kC 2, w, .inl (va_cpy f g 0 n y)))] := hD
  refine lv_goto (tgt := 43) hx hb dk_J0_getBytes_840e7_25 rfl ?_
  refine W.widen (k := 0) (n := 0) (by omega) (by omega) ?_
  exact W.vret hx hb hr (fun t ht hW => ⟨⟨va_cpy f g 0 n y, rfl, ⟨sb_fitC hft hf, fun j hj => pk_cpy_out (by omega), fun i hi => by rw [pk_cpy_in (by omega) (by omega), show 0 + (n + i - n) = i by omega]; exact (hLt i hi).2⟩, by rw [ht]; exact hP, hD⟩, hS.F ht⟩) hS.2.2 dk_J0_getBytes_840e7_43
theorem dk_J5_inflateIfNeededFor_a7421_0 : decode cJ5_inflateIfNeededFor_a7421 0 = .ok (.getstatic 18, 3) := by decide +kernel
theorem dk_J5_inflateIfNeededFor_a7421_3 : decode cJ5_inflateIfNeededFor_a7421 3 = .ok (.ifCond .eq 18, 3) := by decide +kernel
theorem dk_J5_inflateIfNeededFor_a7421_6 : decode cJ5_inflateIfNeededFor_a7421 6 = .ok (.aload_n 0, 1) := by decide +kernel
theorem dk_J5_inflateIfNeededFor_a7421_7 : decode cJ5_inflateIfNeededFor_a7421 7 = .ok (.getfield 22, 3) := by decide +kernel
theorem dk_J5_inflateIfNeededFor_a7421_10 : decode cJ5_inflateIfNeededFor_a7421 10 = .ok (.aload_n 1, 1) := by decide +kernel
theorem dk_J5_inflateIfNeededFor_a7421_11 : decode cJ5_inflateIfNeededFor_a7421 11 = .ok (.invokevirtual 40, 3) := by decide +kernel
theorem dk_J5_inflateIfNeededFor_a7421_14 : decode cJ5_inflateIfNeededFor_a7421 14 = .ok (.if_icmp .eq 7, 3) := by decide +kernel
theorem dk_J5_inflateIfNeededFor_a7421_17 : decode cJ5_inflateIfNeededFor_a7421 17 = .ok (.aload_n 0, 1) := by decide +kernel
theorem dk_J5_inflateIfNeededFor_a7421_18 : decode cJ5_inflateIfNeededFor_a7421 18 = .ok (.invokevirtual 195, 3) := by decide +kernel
theorem dk_J5_inflateIfNeededFor_a7421_21 : decode cJ5_inflateIfNeededFor_a7421 21 = .ok (.return_, 1) := by decide +kernel
set_option maxHeartbeats 4000000 in
set_option maxRecDepth 100000 in
theorem sk_infl (l : Launch) (D : va_G) (kC : Nat → ClassId) (q b w n : Nat) (g : Nat → Int32) (a d y : Nat) (tx : Nat → Nat) (sz : Nat) : Met l yJ5_inflateIfNeededFor_a7421 (.code yJ5_inflateIfNeededFor_a7421 cJ5_inflateIfNeededFor_a7421 2 none :: jk_tb) (jr 3 0 0) (va_Pc [.ref q, .ref a] (ws_B D kC (fun B U H => (js_G B U H ∧ js_S a d y tx B U H) ∧ js_B kC q b w n g B U H) [] sz)) (va_Qv (S := Unit) (fun _ => True) (fun _ _ => True) (va_A [] sz)) 0 0 (va_A [] sz) := by
  refine Met.ofW (cc := cJ5_inflateIfNeededFor_a7421) (maxL := 2) (ret := none) (by decide +kernel) rfl ?_
  intro p e s m args below meth c s₁ B hml hv2
  obtain ⟨rfl, hsz, hP, hK, hD0, hE⟩ := hv2
  have hx := B.exec
  have hb := B.bytes
  have hr := B.returns
  have hlocks := B.notSynchronized
  have hts0 := atoms_spec (ws := (.code yJ5_inflateIfNeededFor_a7421 cJ5_inflateIfNeededFor_a7421 2 none :: jk_tb)) B.pre
  have htj := fun w (hw : w ∈ jk_tb) => hts0 w (List.mem_cons_of_mem _ hw)
  have hts := fun w (hw : w ∈ am_tb) => htj w (jk_in hw)
  have hown : s.vm.findClass yJ5_inflateIfNeededFor_a7421.cls = some m.cls := findClass_of_methodNamed B.named
  subst hsz
  have hD := hD0.self (sz := s.heap.size)
  generalize hAe : va_A [] s.heap.size = A at hD hE ⊢
  have hA : ∀ q : Nat, s.heap.size ≤ q → A q := fun q h => by rw [← hAe]; exact Or.inr h
  have hP : va_P D vwCl [] s.heap := hP
  have hS : va_S A s.heap s.heap [] := va_S.rf
  have hl := lv_entry ([.ref q, .ref a]) (n := 2) (Nat.le_of_ble_eq_true rfl)
  rw [lg_entry_eq]
  generalize (lg_sl ([.ref q, .ref a]) ++ List.replicate (2 - (lg_sl ([.ref q, .ref a])).length) Slot.unset).toArray = ls at hl ⊢
  have hl : lv_has ls 2 [(0, .ref q), (1, .ref a)] := hl
  refine va_gets hx hb hE.1.1.1 hS hown (hts _ (am_tb_at 297 (by decide +kernel) rfl)) (fun x h => h) dk_J5_inflateIfNeededFor_a7421_0 ?_
  refine lv_if_eq (tgt := 21) hx hb dk_J5_inflateIfNeededFor_a7421_3 rfl (fun q => absurd q (by decide)) (fun _ => ?_)
  refine lv_aload_n hx hb dk_J5_inflateIfNeededFor_a7421_6 rfl (lv_at hl 0 rfl) ?_
  refine vk_getf hx hb hE.2.2.2.1 hS hown (hts _ (am_tb_at 307 (by decide +kernel) rfl)) (fun x h => h) dk_J5_inflateIfNeededFor_a7421_7 ?_
  refine lv_aload_n hx hb dk_J5_inflateIfNeededFor_a7421_10 rfl (lv_at hl 1 rfl) ?_
  have hPc : va_P D vwCl [] s.heap := ws_nP
  have hDc : va_D A [] := ws_nD
  have hFc : ∀ q, va_A [] s.heap.size q → A q := fun q h => hA q (Nat.le_trans hS.1 (ws_nA h))
  refine va_calli (va_runV (As := []) (rest := [.int 0]) ⟨hx, hb, hml, hown, hts⟩ (sk_coder l D kC a d y tx s.heap.size) ⟨am_callB (R := jr 3 0 0) (index := 40) 0 (jk_pay htj (am_tb_at 404 (by decide +kernel) rfl)) (hts _ (am_tb_at 404 (by decide +kernel) rfl)) rfl rfl rfl (hts _ (am_tb_at 47 (by decide +kernel) rfl)) (hts _ (am_tb_at 414 (by decide +kernel) rfl)) ⟨by decide, by decide, by decide +kernel⟩ ⟨(by show 1 + 1 ≤ 3; decide), (by show 8 + (1 + 11) + 48 * 1 ≤ 48 * 3; decide)⟩, (hts _ (am_tb_at 402 (by decide +kernel) rfl)), (hts _ (am_tb_at 403 (by decide +kernel) rfl))⟩ (ws_V (Stb_and Stb_G (Stb_S a d y tx)) (ro_rec hE.1.2.1 hS) hPc hK hDc (fun U hU hW => ws_E (Stb_and Stb_G (Stb_S a d y tx)) hE.1 hS hU hW hFc)) rfl rfl hl.1 rfl (lv_room (Nat.le_of_ble_eq_true rfl)) dk_J5_inflateIfNeededFor_a7421_11 ⟨(by show 0 + 0 ≤ 0; omega), (by show 0 + 0 ≤ 0; omega)⟩) hS (fun q _ h => hFc q h) hFc (fun r0 u t H1 locs hte hvm hz hB hsz hkp hS => ?_)
  have hP : va_P D vwCl [] H1 := ws_nP
  generalize H1 = H at hP hS ⊢
  subst hz
  refine lv_icmp_eq (tgt := 21) hx hb dk_J5_inflateIfNeededFor_a7421_14 rfl (fun _ => ?_) (fun q => absurd rfl q)
  refine W.widen (k := 0) (n := 0) (by omega) (by omega) ?_
  exact W.vret hx hb hr (fun t ht hW => ⟨⟨(), rfl, trivial, trivial⟩, hS.F ht⟩) hS.2.2 dk_J5_inflateIfNeededFor_a7421_21
theorem dk_J5_putStringAt_47b60_0 : decode cJ5_putStringAt_47b60 0 = .ok (.aload_n 0, 1) := by decide +kernel
theorem dk_J5_putStringAt_47b60_1 : decode cJ5_putStringAt_47b60 1 = .ok (.aload_n 2, 1) := by decide +kernel
theorem dk_J5_putStringAt_47b60_2 : decode cJ5_putStringAt_47b60 2 = .ok (.invokevirtual 397, 3) := by decide +kernel
theorem dk_J5_putStringAt_47b60_5 : decode cJ5_putStringAt_47b60 5 = .ok (.aload_n 2, 1) := by decide +kernel
theorem dk_J5_putStringAt_47b60_6 : decode cJ5_putStringAt_47b60 6 = .ok (.aload_n 0, 1) := by decide +kernel
theorem dk_J5_putStringAt_47b60_7 : decode cJ5_putStringAt_47b60 7 = .ok (.getfield 15, 3) := by decide +kernel
theorem dk_J5_putStringAt_47b60_10 : decode cJ5_putStringAt_47b60 10 = .ok (.iload_n 1, 1) := by decide +kernel
theorem dk_J5_putStringAt_47b60_11 : decode cJ5_putStringAt_47b60 11 = .ok (.aload_n 0, 1) := by decide +kernel
theorem dk_J5_putStringAt_47b60_12 : decode cJ5_putStringAt_47b60 12 = .ok (.getfield 22, 3) := by decide +kernel
theorem dk_J5_putStringAt_47b60_15 : decode cJ5_putStringAt_47b60 15 = .ok (.invokevirtual 399, 3) := by decide +kernel
theorem dk_J5_putStringAt_47b60_18 : decode cJ5_putStringAt_47b60 18 = .ok (.return_, 1) := by decide +kernel
set_option maxHeartbeats 4000000 in
set_option maxRecDepth 100000 in
theorem sk_putS (l : Launch) (D : va_G) (kC : Nat → ClassId) (q b w n : Nat) (z : Int32) (g : Nat → Int32) (a d y : Nat) (tx : Nat → Nat) (h1 : n + y ≤ w) (h2 : w ≤ 4000) (hf : sb_Fit g) (sz : Nat) : Met l yJ5_putStringAt_47b60 (.code yJ5_putStringAt_47b60 cJ5_putStringAt_47b60 3 none :: jk_tb) (jr 6 0 0) (va_Pc [.ref q, .int (nI n), .ref a] (ws_B D kC (fun B U H => js_G B U H ∧ js_S a d y tx B U H) [(q, .inr (10, [.ref b, .int 0, .int z, .int (nI n)])), (b, .inl (kC 2, w, .inl g))] sz)) (va_Qv (S := Nat → Int32) (fun g2 => sb_Fit g2 ∧ (∀ j, j < n → g2 j = g j) ∧ ∀ i, i < y → g2 (n + i) = sb_b (tx i)) (fun g2 t => va_P D vwCl [(q, .inr (10, [.ref b, .int 0, .int z, .int (nI n)])), (b, .inl (kC 2, w, .inl g2))] t.heap ∧ va_D (va_A [(q, .inr (10, [.ref b, .int 0, .int z, .int (nI n)])), (b, .inl (kC 2, w, .inl g))] sz) [(q, .inr (10, [.ref b, .int 0, .int z, .int (nI n)])), (b, .inl (kC 2, w, .inl g2))]) (va_A [(q, .inr (10, [.ref b, .int 0, .int z, .int (nI n)])), (b, .inl (kC 2, w, .inl g))] sz)) 0 0 (va_A [(q, .inr (10, [.ref b, .int 0, .int z, .int (nI n)])), (b, .inl (kC 2, w, .inl g))] sz) := by
  refine Met.ofW (cc := cJ5_putStringAt_47b60) (maxL := 3) (ret := none) (by decide +kernel) rfl ?_
  intro p e s m args below meth c s₁ B hml hv2
  obtain ⟨rfl, hsz, hP, hK, hD0, hE⟩ := hv2
  have hx := B.exec
  have hb := B.bytes
  have hr := B.returns
  have hlocks := B.notSynchronized
  have hts0 := atoms_spec (ws := (.code yJ5_putStringAt_47b60 cJ5_putStringAt_47b60 3 none :: jk_tb)) B.pre
  have htj := fun w (hw : w ∈ jk_tb) => hts0 w (List.mem_cons_of_mem _ hw)
  have hts := fun w (hw : w ∈ am_tb) => htj w (jk_in hw)
  have hown : s.vm.findClass yJ5_putStringAt_47b60.cls = some m.cls := findClass_of_methodNamed B.named
  subst hsz
  have hD := hD0.self (sz := s.heap.size)
  generalize hAe : va_A [(q, .inr (10, [.ref b, .int 0, .int z, .int (nI n)])), (b, .inl (kC 2, w, .inl g))] s.heap.size = A at hD hE ⊢
  have hA : ∀ q : Nat, s.heap.size ≤ q → A q := fun q h => by rw [← hAe]; exact Or.inr h
  have hP : va_P D vwCl [(q, .inr (10, [.ref b, .int 0, .int z, .int (nI n)])), (b, .inl (kC 2, w, .inl g))] s.heap := hP
  have hS : va_S A s.heap s.heap [] := va_S.rf
  have hl := lv_entry ([.ref q, .int (nI n), .ref a]) (n := 3) (Nat.le_of_ble_eq_true rfl)
  rw [lg_entry_eq]
  generalize (lg_sl ([.ref q, .int (nI n), .ref a]) ++ List.replicate (3 - (lg_sl ([.ref q, .int (nI n), .ref a])).length) Slot.unset).toArray = ls at hl ⊢
  have hl : lv_has ls 3 [(0, .ref q), (1, .int (nI n)), (2, .ref a)] := hl
  refine lv_aload_n hx hb dk_J5_putStringAt_47b60_0 rfl (lv_at hl 0 rfl) ?_
  refine lv_aload_n hx hb dk_J5_putStringAt_47b60_1 rfl (lv_at hl 2 rfl) ?_
  have hPc : va_P D vwCl [] s.heap := ws_nP
  have hDc : va_D A [] := ws_nD
  have hFc : ∀ q, va_A [] s.heap.size q → A q := fun q h => hA q (Nat.le_trans hS.1 (ws_nA h))
  refine va_callv (va_runU (As := [.ref a]) (rest := []) ⟨hx, hb, hml, hown, hts⟩ (sk_infl l D kC q b w n g a d y tx s.heap.size) (⟨⟨rfl, rfl, (by show 3 + 1 ≤ 6; decide), (by show 8 + (2 + 11) + 48 * 3 ≤ 48 * 6; decide), jk_pay htj (am_tb_at 413 (by decide +kernel) rfl), List.mem_cons_self⟩, (hts _ (am_tb_at 413 (by decide +kernel) rfl)), (hts _ (am_tb_at 45 (by decide +kernel) rfl)), ⟨by decide, by decide⟩, (fun sig h => by have h2 : parseMethodDescriptor yJ5_inflateIfNeededFor_a7421.desc = some _ := h; have h3 : (parseMethodDescriptor yJ5_inflateIfNeededFor_a7421.desc).map (fun d => d.parameters.length) = some 1 := (by decide +kernel); rw [h2] at h3; exact (Option.some.inj h3).symm), (hts _ (am_tb_at 410 (by decide +kernel) rfl)), (hts _ (am_tb_at 1240 (by decide +kernel) rfl)), (va_Decl.of (x := yJ5_inflateIfNeededFor_a7421) (b := cJ5_inflateIfNeededFor_a7421) (m := 2) (ret := none) (hts _ (am_tb_at 412 (by decide +kernel) rfl)) (hts _ (am_tb_at 413 (by decide +kernel) rfl))), (htj _ (List.mem_append_left _ (List.mem_of_getElem? (i := 3) rfl))), (hts _ (am_tb_at 412 (by decide +kernel) rfl))⟩ : va_CU _ _ _ _ "java/lang/StringBuilder" "java/lang/AbstractStringBuilder" 397 yJ5_inflateIfNeededFor_a7421 yJ5_inflateIfNeededFor_a7421 _ _ _ _ _ _ _ _) (ws_V (Stb_and (Stb_and Stb_G (Stb_S a d y tx)) (Stb_B kC q b w n g)) (va_recv (q := (RJ4, TJ4, 4)) (q0 := 0) hK hP rfl rfl) hPc hK hDc (fun U hU hW => ⟨ws_E (Stb_and Stb_G (Stb_S a d y tx)) hE hS hU hW hFc, ws_N (Stb_B kC q b w n g) (ro_B hts hK hP 0 1 rfl rfl (ws_n0 hP 0 rfl) (ws_n0 hP 1 rfl)) hU hW⟩)) rfl rfl hl.1 rfl (lv_room (Nat.le_of_ble_eq_true rfl)) dk_J5_putStringAt_47b60_2 ⟨(by show 0 + 0 ≤ 0; omega), (by show 0 + 0 ≤ 0; omega)⟩) hS (fun q _ h => hFc q h) hFc (fun u t H1 locs hte hvm hz hB hsz hkp hS => ?_)
  have hP := ws_kept hP hkp
  generalize H1 = H at hP hS ⊢
  have hP : va_P D vwCl [(q, .inr (10, [.ref b, .int 0, .int z, .int (nI n)])), (b, .inl (kC 2, w, .inl g))] H := hP
  have hD : va_D A [(q, .inr (10, [.ref b, .int 0, .int z, .int (nI n)])), (b, .inl (kC 2, w, .inl g))] := hD
  refine lv_aload_n hx hb dk_J5_putStringAt_47b60_5 rfl (lv_at hl 2 rfl) ?_
  refine lv_aload_n hx hb dk_J5_putStringAt_47b60_6 rfl (lv_at hl 0 rfl) ?_
  refine va_get (D := D) (ci := 10) (C := RJ4) (T := TJ4) (N := 4) hx hb hts qwJ4 hown hK hP 0 rfl rfl 0 (by decide) (hts _ (am_tb_at 306 (by decide +kernel) rfl)) (fun _ h9 => h9) rfl dk_J5_putStringAt_47b60_7 ?_
  refine lv_iload_n hx hb dk_J5_putStringAt_47b60_10 rfl (lv_at hl 1 rfl) ?_
  refine lv_aload_n hx hb dk_J5_putStringAt_47b60_11 rfl (lv_at hl 0 rfl) ?_
  refine va_get (D := D) (ci := 10) (C := RJ4) (T := TJ4) (N := 4) hx hb hts qwJ4 hown hK hP 0 rfl rfl 1 (by decide) (hts _ (am_tb_at 307 (by decide +kernel) rfl)) (fun _ h9 => h9) rfl dk_J5_putStringAt_47b60_12 ?_
  have hPc := hP.sub (ws' := [(b, .inl (kC 2, w, .inl g))]) [1] rfl
  have hDc := hD.sub (ws' := [(b, .inl (kC 2, w, .inl g))]) [1] (by decide) rfl
  have hFc := va_free (wc := [(b, .inl (kC 2, w, .inl g))]) hD hS hA [1] rfl
  refine va_callv (va_runV (As := [.ref b, .int (nI n), .int 0]) (rest := []) ⟨hx, hb, hml, hown, hts⟩ (sk_getB l D kC a d y tx b w n g h1 h2 hf H.size) ⟨am_callB (R := jr 6 0 0) (index := 399) 3 (jk_pay htj (am_tb_at 437 (by decide +kernel) rfl)) (hts _ (am_tb_at 437 (by decide +kernel) rfl)) rfl rfl rfl (hts _ (am_tb_at 47 (by decide +kernel) rfl)) (hts _ (am_tb_at 434 (by decide +kernel) rfl)) ⟨by decide, by decide, by decide +kernel⟩ ⟨(by show 4 + 1 ≤ 6; decide), (by show 8 + (4 + 11) + 48 * 4 ≤ 48 * 6; decide)⟩, (hts _ (am_tb_at 435 (by decide +kernel) rfl)), (hts _ (am_tb_at 436 (by decide +kernel) rfl))⟩ (ws_V (Stb_and Stb_G (Stb_S a d y tx)) (ro_rec hE.2.1 hS) hPc hK hDc (fun U hU hW => ws_E (Stb_and Stb_G (Stb_S a d y tx)) hE hS hU hW hFc)) rfl rfl hl.1 rfl (lv_room (Nat.le_of_ble_eq_true rfl)) dk_J5_putStringAt_47b60_15 ⟨(by show 0 + 0 + 0 ≤ 0; omega), (by show 0 + 0 + 0 ≤ 0; omega)⟩) hS (fun q _ h => hFc q h) hFc (fun u t H1 locs hte hvm hz hB hsz hkp hS => ?_)
  obtain ⟨hP1, hD1⟩ := hB
  rw [hte] at hP1
  obtain ⟨hP, hD⟩ := va_join (wr := [(q, .inr (10, [.ref b, .int 0, .int z, .int (nI n)]))]) (w1 := [(b, .inl (kC 2, w, .inl u))]) hP hD [1] [0] rfl rfl (by decide) (by decide) hkp hFc hP1 hD1
  generalize H1 = H at hP hS ⊢
  have hP : va_P D vwCl [(q, .inr (10, [.ref b, .int 0, .int z, .int (nI n)])), (b, .inl (kC 2, w, .inl u))] H := hP
  have hD : va_D A [(q, .inr (10, [.ref b, .int 0, .int z, .int (nI n)])), (b, .inl (kC 2, w, .inl u))] := hD
  refine W.widen (k := 0) (n := 0) (by omega) (by omega) ?_
  exact W.vret hx hb hr (fun t ht hW => ⟨⟨u, rfl, hz, by rw [ht]; exact hP, hD⟩, hS.F ht⟩) hS.2.2 dk_J5_putStringAt_47b60_18
theorem dk_J5_ensureCapacityInternal_d00df_0 : decode cJ5_ensureCapacityInternal_d00df 0 = .ok (.aload_n 0, 1) := by decide +kernel
theorem dk_J5_ensureCapacityInternal_d00df_1 : decode cJ5_ensureCapacityInternal_d00df 1 = .ok (.getfield 15, 3) := by decide +kernel
theorem dk_J5_ensureCapacityInternal_d00df_4 : decode cJ5_ensureCapacityInternal_d00df 4 = .ok (.arraylength, 1) := by decide +kernel
theorem dk_J5_ensureCapacityInternal_d00df_5 : decode cJ5_ensureCapacityInternal_d00df 5 = .ok (.aload_n 0, 1) := by decide +kernel
theorem dk_J5_ensureCapacityInternal_d00df_6 : decode cJ5_ensureCapacityInternal_d00df 6 = .ok (.getfield 22, 3) := by decide +kernel
theorem dk_J5_ensureCapacityInternal_d00df_9 : decode cJ5_ensureCapacityInternal_d00df 9 = .ok (.ishr, 1) := by decide +kernel
theorem dk_J5_ensureCapacityInternal_d00df_10 : decode cJ5_ensureCapacityInternal_d00df 10 = .ok (.istore_n 2, 1) := by decide +kernel
theorem dk_J5_ensureCapacityInternal_d00df_11 : decode cJ5_ensureCapacityInternal_d00df 11 = .ok (.iload_n 1, 1) := by decide +kernel
theorem dk_J5_ensureCapacityInternal_d00df_12 : decode cJ5_ensureCapacityInternal_d00df 12 = .ok (.iload_n 2, 1) := by decide +kernel
theorem dk_J5_ensureCapacityInternal_d00df_13 : decode cJ5_ensureCapacityInternal_d00df 13 = .ok (.isub, 1) := by decide +kernel
theorem dk_J5_ensureCapacityInternal_d00df_14 : decode cJ5_ensureCapacityInternal_d00df 14 = .ok (.ifCond .le 24, 3) := by decide +kernel
theorem dk_J5_ensureCapacityInternal_d00df_17 : decode cJ5_ensureCapacityInternal_d00df 17 = .ok (.aload_n 0, 1) := by decide +kernel
theorem dk_J5_ensureCapacityInternal_d00df_18 : decode cJ5_ensureCapacityInternal_d00df 18 = .ok (.aload_n 0, 1) := by decide +kernel
theorem dk_J5_ensureCapacityInternal_d00df_19 : decode cJ5_ensureCapacityInternal_d00df 19 = .ok (.getfield 15, 3) := by decide +kernel
theorem dk_J5_ensureCapacityInternal_d00df_22 : decode cJ5_ensureCapacityInternal_d00df 22 = .ok (.aload_n 0, 1) := by decide +kernel
theorem dk_J5_ensureCapacityInternal_d00df_23 : decode cJ5_ensureCapacityInternal_d00df 23 = .ok (.iload_n 1, 1) := by decide +kernel
theorem dk_J5_ensureCapacityInternal_d00df_24 : decode cJ5_ensureCapacityInternal_d00df 24 = .ok (.invokevirtual 104, 3) := by decide +kernel
theorem dk_J5_ensureCapacityInternal_d00df_27 : decode cJ5_ensureCapacityInternal_d00df 27 = .ok (.aload_n 0, 1) := by decide +kernel
theorem dk_J5_ensureCapacityInternal_d00df_28 : decode cJ5_ensureCapacityInternal_d00df 28 = .ok (.getfield 22, 3) := by decide +kernel
theorem dk_J5_ensureCapacityInternal_d00df_31 : decode cJ5_ensureCapacityInternal_d00df 31 = .ok (.ishl, 1) := by decide +kernel
theorem dk_J5_ensureCapacityInternal_d00df_32 : decode cJ5_ensureCapacityInternal_d00df 32 = .ok (.invokestatic 108, 3) := by decide +kernel
theorem dk_J5_ensureCapacityInternal_d00df_35 : decode cJ5_ensureCapacityInternal_d00df 35 = .ok (.putfield 15, 3) := by decide +kernel
theorem dk_J5_ensureCapacityInternal_d00df_38 : decode cJ5_ensureCapacityInternal_d00df 38 = .ok (.return_, 1) := by decide +kernel
set_option maxHeartbeats 4000000 in
set_option maxRecDepth 100000 in
theorem sk_ens (l : Launch) (D : va_G) (kC : Nat → ClassId) (q b w n : Nat) (z : Int32) (g : Nat → Int32) (k : Nat) (h0 : n ≤ w) (h1 : w ≤ 1700) (h2 : k ≤ 820) (hf : sb_Fit g) (sz : Nat) : Met l yJ5_ensureCapacityInternal_d00df (.code yJ5_ensureCapacityInternal_d00df cJ5_ensureCapacityInternal_d00df 3 none :: jk_tb) (jr 8 1 4000) (va_Pc [.ref q, .int (nI k)] (ws_B D kC js_G [(q, .inr (10, [.ref b, .int 0, .int z, .int (nI n)])), (b, .inl (kC 2, w, .inl g))] sz)) (va_Qv (S := Nat × Nat × (Nat → Int32)) (fun u => (k ≤ u.2.1 ∧ n ≤ u.2.1 ∧ u.2.1 ≤ 1700) ∧ sb_Fit u.2.2 ∧ ∀ j, j < n → u.2.2 j = g j) (fun u t => va_P D vwCl [(q, .inr (10, [.ref u.1, .int 0, .int z, .int (nI n)])), (u.1, .inl (kC 2, u.2.1, .inl (u.2.2)))] t.heap ∧ va_D (va_A [(q, .inr (10, [.ref b, .int 0, .int z, .int (nI n)])), (b, .inl (kC 2, w, .inl g))] sz) [(q, .inr (10, [.ref u.1, .int 0, .int z, .int (nI n)])), (u.1, .inl (kC 2, u.2.1, .inl (u.2.2)))]) (va_A [(q, .inr (10, [.ref b, .int 0, .int z, .int (nI n)])), (b, .inl (kC 2, w, .inl g))] sz)) 1 4000 (va_A [(q, .inr (10, [.ref b, .int 0, .int z, .int (nI n)])), (b, .inl (kC 2, w, .inl g))] sz) := by
  refine Met.ofW (cc := cJ5_ensureCapacityInternal_d00df) (maxL := 3) (ret := none) (by decide +kernel) rfl ?_
  intro p e s m args below meth c s₁ B hml hv2
  obtain ⟨rfl, hsz, hP, hK, hD0, hE⟩ := hv2
  have hx := B.exec
  have hb := B.bytes
  have hr := B.returns
  have hlocks := B.notSynchronized
  have hts0 := atoms_spec (ws := (.code yJ5_ensureCapacityInternal_d00df cJ5_ensureCapacityInternal_d00df 3 none :: jk_tb)) B.pre
  have htj := fun w (hw : w ∈ jk_tb) => hts0 w (List.mem_cons_of_mem _ hw)
  have hts := fun w (hw : w ∈ am_tb) => htj w (jk_in hw)
  have hown : s.vm.findClass yJ5_ensureCapacityInternal_d00df.cls = some m.cls := findClass_of_methodNamed B.named
  subst hsz
  have hD := hD0.self (sz := s.heap.size)
  generalize hAe : va_A [(q, .inr (10, [.ref b, .int 0, .int z, .int (nI n)])), (b, .inl (kC 2, w, .inl g))] s.heap.size = A at hD hE ⊢
  have hA : ∀ q : Nat, s.heap.size ≤ q → A q := fun q h => by rw [← hAe]; exact Or.inr h
  have hP : va_P D vwCl [(q, .inr (10, [.ref b, .int 0, .int z, .int (nI n)])), (b, .inl (kC 2, w, .inl g))] s.heap := hP
  have hS : va_S A s.heap s.heap [] := va_S.rf
  have hl := lv_entry ([.ref q, .int (nI k)]) (n := 3) (Nat.le_of_ble_eq_true rfl)
  rw [lg_entry_eq]
  generalize (lg_sl ([.ref q, .int (nI k)]) ++ List.replicate (3 - (lg_sl ([.ref q, .int (nI k)])).length) Slot.unset).toArray = ls at hl ⊢
  have hl : lv_has ls 3 [(0, .ref q), (1, .int (nI k))] := hl
  refine lv_aload_n hx hb dk_J5_ensureCapacityInternal_d00df_0 rfl (lv_at hl 0 rfl) ?_
  refine va_get (D := D) (ci := 10) (C := RJ4) (T := TJ4) (N := 4) hx hb hts qwJ4 hown hK hP 0 rfl rfl 0 (by decide) (hts _ (am_tb_at 306 (by decide +kernel) rfl)) (fun _ h9 => h9) rfl dk_J5_ensureCapacityInternal_d00df_1 ?_
  refine va_alen (v := nI w) hx hb hK hP 1 2 rfl rfl rfl dk_J5_ensureCapacityInternal_d00df_4 ?_
  refine lv_aload_n hx hb dk_J5_ensureCapacityInternal_d00df_5 rfl (lv_at hl 0 rfl) ?_
  refine va_get (D := D) (ci := 10) (C := RJ4) (T := TJ4) (N := 4) hx hb hts qwJ4 hown hK hP 0 rfl rfl 1 (by decide) (hts _ (am_tb_at 307 (by decide +kernel) rfl)) (fun _ h9 => h9) rfl dk_J5_ensureCapacityInternal_d00df_6 ?_
  refine lv_ishr hx hb dk_J5_ensureCapacityInternal_d00df_9 ?_
  rw [show ((((nI w) : Int32) >>> ((0 : Int32) &&& 31)) : Int32) = nI w from sb_shr0 _]
  refine lv_istore_n (lv' := [(2, .int (nI w)), (0, .ref q), (1, .int (nI k))]) hx hb dk_J5_ensureCapacityInternal_d00df_10 rfl hl (by decide) rfl (fun ls hl => ?_)
  refine lv_iload_n hx hb dk_J5_ensureCapacityInternal_d00df_11 rfl (lv_at hl 2 rfl) ?_
  refine lv_iload_n hx hb dk_J5_ensureCapacityInternal_d00df_12 rfl (lv_at hl 0 rfl) ?_
  refine lv_isub hx hb dk_J5_ensureCapacityInternal_d00df_13 ?_
  by_cases hkw : k ≤ w
  · have hle : nI k - nI w ≤ 0 := by rw [Int32.le_iff_toInt_le, pk_sub_toInt (by omega) (by omega), Int32.toInt_zero]; omega
    refine lv_if_le (tgt := 38) hx hb dk_J5_ensureCapacityInternal_d00df_14 rfl (fun _ => ?_) (fun q => absurd hle q)
    refine W.widen (k := 1) (n := 4000) (by omega) (by omega) ?_
    exact W.vret hx hb hr (fun t ht hW => ⟨⟨(b, w, g), rfl, ⟨⟨hkw, h0, h1⟩, hf, fun _ _ => rfl⟩, by rw [ht]; exact hP, hD⟩, hS.F ht⟩) hS.2.2 dk_J5_ensureCapacityInternal_d00df_38
  · have hle : ¬ nI k - nI w ≤ 0 := by rw [Int32.le_iff_toInt_le, pk_sub_toInt (by omega) (by omega), Int32.toInt_zero]; omega
    have hm := mxN_b (k - w) (w + 2)
    have hm2 : mxN (k - w) (w + 2) = k - w ∨ mxN (k - w) (w + 2) = w + 2 := by unfold mxN; split <;> omega
    obtain ⟨n2, hn2⟩ : ∃ n2, n2 = w + mxN (k - w) (w + 2) := ⟨_, rfl⟩
    refine lv_if_le (tgt := 38) hx hb dk_J5_ensureCapacityInternal_d00df_14 rfl (fun q => absurd q hle) (fun _ => ?_)
    refine lv_aload_n hx hb dk_J5_ensureCapacityInternal_d00df_17 rfl (lv_at hl 1 rfl) ?_
    refine lv_aload_n hx hb dk_J5_ensureCapacityInternal_d00df_18 rfl (lv_at hl 1 rfl) ?_
    refine va_get (D := D) (ci := 10) (C := RJ4) (T := TJ4) (N := 4) hx hb hts qwJ4 hown hK hP 0 rfl rfl 0 (by decide) (hts _ (am_tb_at 306 (by decide +kernel) rfl)) (fun _ h9 => h9) rfl dk_J5_ensureCapacityInternal_d00df_19 ?_
    refine lv_aload_n hx hb dk_J5_ensureCapacityInternal_d00df_22 rfl (lv_at hl 1 rfl) ?_
    refine lv_iload_n hx hb dk_J5_ensureCapacityInternal_d00df_23 rfl (lv_at hl 2 rfl) ?_
    have hPc : va_P D vwCl [] s.heap := ws_nP
    have hDc : va_D A [] := ws_nD
    have hFc : ∀ q, va_A [] s.heap.size q → A q := fun q h => hA q (Nat.le_trans hS.1 (ws_nA h))
    refine va_calli (va_runU (As := [.int (nI k)]) (rest := [.ref b, .ref q]) ⟨hx, hb, hml, hown, hts⟩ (sk_newCap l D kC q b w n g k (by omega) (by omega) s.heap.size) (⟨⟨rfl, rfl, (by show 6 + 1 ≤ 8; decide), (by show 8 + (6 + 11) + 48 * 6 ≤ 48 * 8; decide), jk_pay htj (am_tb_at 338 (by decide +kernel) rfl), List.mem_cons_self⟩, (hts _ (am_tb_at 338 (by decide +kernel) rfl)), (hts _ (am_tb_at 45 (by decide +kernel) rfl)), ⟨by decide, by decide⟩, (fun sig h => by have h2 : parseMethodDescriptor yJ5_newCapacity_0f7a4.desc = some _ := h; have h3 : (parseMethodDescriptor yJ5_newCapacity_0f7a4.desc).map (fun d => d.parameters.length) = some 1 := (by decide +kernel); rw [h2] at h3; exact (Option.some.inj h3).symm), (hts _ (am_tb_at 335 (by decide +kernel) rfl)), (hts _ (am_tb_at 1238 (by decide +kernel) rfl)), (va_Decl.of (x := yJ5_newCapacity_0f7a4) (b := cJ5_newCapacity_0f7a4) (m := 6) (ret := (some .int)) (hts _ (am_tb_at 337 (by decide +kernel) rfl)) (hts _ (am_tb_at 338 (by decide +kernel) rfl))), (htj _ (List.mem_append_left _ (List.mem_of_getElem? (i := 1) rfl))), (hts _ (am_tb_at 337 (by decide +kernel) rfl))⟩ : va_CU _ _ _ _ "java/lang/StringBuilder" "java/lang/AbstractStringBuilder" 104 yJ5_newCapacity_0f7a4 yJ5_newCapacity_0f7a4 _ _ _ _ _ _ _ _) (ws_V (Stb_and Stb_G (Stb_B kC q b w n g)) (va_recv (q := (RJ4, TJ4, 4)) (q0 := 0) hK hP rfl rfl) hPc hK hDc (fun U hU hW => ⟨ws_E Stb_G hE hS hU hW hFc, ws_N (Stb_B kC q b w n g) (ro_B hts hK hP 0 1 rfl rfl (ws_n0 hP 0 rfl) (ws_n0 hP 1 rfl)) hU hW⟩)) rfl rfl hl.1 rfl (lv_room (Nat.le_of_ble_eq_true rfl)) dk_J5_ensureCapacityInternal_d00df_24 ⟨(by show 0 + 0 ≤ 1; omega), (by show 0 + 0 ≤ 4000; omega)⟩) hS (fun q _ h => hFc q h) hFc (fun r0 u t H1 locs hte hvm hz hB hsz hkp hS => ?_)
    have hP := ws_kept hP hkp
    generalize H1 = H at hP hS ⊢
    have hP : va_P D vwCl [(q, .inr (10, [.ref b, .int 0, .int z, .int (nI n)])), (b, .inl (kC 2, w, .inl g))] H := hP
    have hD : va_D A [(q, .inr (10, [.ref b, .int 0, .int z, .int (nI n)])), (b, .inl (kC 2, w, .inl g))] := hD
    rw [← hn2] at hz
    subst hz
    refine lv_aload_n hx hb dk_J5_ensureCapacityInternal_d00df_27 rfl (lv_at hl 1 rfl) ?_
    refine va_get (D := D) (ci := 10) (C := RJ4) (T := TJ4) (N := 4) hx hb hts qwJ4 hown hK hP 0 rfl rfl 1 (by decide) (hts _ (am_tb_at 307 (by decide +kernel) rfl)) (fun _ h9 => h9) rfl dk_J5_ensureCapacityInternal_d00df_28 ?_
    refine lv_ishl hx hb dk_J5_ensureCapacityInternal_d00df_31 ?_
    rw [show ((((nI n2) : Int32) <<< ((0 : Int32) &&& 31)) : Int32) = nI n2 from sb_shl0 _]
    have hPc : va_P D vwCl [] H := ws_nP
    have hDc : va_D A [] := ws_nD
    have hFc : ∀ q, va_A [] H.size q → A q := fun q h => hA q (Nat.le_trans hS.1 (ws_nA h))
    refine va_callr (va_runS (As := [.ref b, .int (nI n2)]) (rest := [.ref q]) ⟨hx, hb, hml, hown, hts⟩ (sk_copyOf l D kC b w n2 g (by omega) (by omega) hf H.size) ⟨am_callB (R := jr 8 1 4000) (index := 108) 2 (jk_pay htj (am_tb_at 352 (by decide +kernel) rfl)) (hts _ (am_tb_at 352 (by decide +kernel) rfl)) rfl rfl rfl (hts _ (am_tb_at 44 (by decide +kernel) rfl)) (hts _ (am_tb_at 350 (by decide +kernel) rfl)) ⟨by decide, by decide, by decide +kernel⟩ ⟨(by show 4 + 1 ≤ 8; decide), (by show 8 + (3 + 11) + 48 * 4 ≤ 48 * 8; decide)⟩, (hts _ (am_tb_at 351 (by decide +kernel) rfl))⟩ (ws_S (Stb_and Stb_G (Stb_A kC b w g)) hPc hK hDc (fun U hU hW => ⟨ws_E Stb_G hE hS hU hW hFc, ws_N (Stb_A kC b w g) (ro_W hP 1 rfl (ws_n0 hP 1 rfl)) hU hW⟩)) rfl rfl hl.1 rfl (lv_room (Nat.le_of_ble_eq_true rfl)) dk_J5_ensureCapacityInternal_d00df_32 ⟨(by show 0 + 0 + 1 ≤ 1; omega), (by show 0 + 0 + 4000 ≤ 4000; omega)⟩) hS (fun q _ h => hFc q h) hFc (fun u ra t H1 locs hte hvm hz hB hsz hkp hS => ?_)
    obtain ⟨hP1, hD1⟩ := hB
    rw [hte] at hP1
    obtain ⟨hP, hD⟩ := va_join (wr := [(q, .inr (10, [.ref b, .int 0, .int z, .int (nI n)])), (b, .inl (kC 2, w, .inl g))]) (w1 := [(ra, .inl (kC 2, n2, .inl u))]) hP hD [] [0, 1] rfl rfl (by decide) (by decide) hkp hFc hP1 hD1
    generalize H1 = H at hP hS ⊢
    have hP : va_P D vwCl [(q, .inr (10, [.ref b, .int 0, .int z, .int (nI n)])), (b, .inl (kC 2, w, .inl g)), (ra, .inl (kC 2, n2, .inl u))] H := hP
    have hD : va_D A [(q, .inr (10, [.ref b, .int 0, .int z, .int (nI n)])), (b, .inl (kC 2, w, .inl g)), (ra, .inl (kC 2, n2, .inl u))] := hD
    refine va_put (D := D) (ci := 10) (v := .ref ra) (ty := .array .byte) (C := RJ4) (T := TJ4) (N := 4) hx hb hts qwJ4 tyJ4 tyJ4_ok nmJ4 hown hK hP hD hS 0 rfl rfl 0 (by decide) (hts _ (am_tb_at 306 (by decide +kernel) rfl)) (fun _ h9 => h9) rfl (by decide +kernel) rfl rfl (Nat.le_of_ble_eq_true rfl) dk_J5_ensureCapacityInternal_d00df_35 (fun H locs hP hD hS => ?_)
    have hP : va_P D vwCl [(q, .inr (10, [.ref ra, .int 0, .int z, .int (nI n)])), (b, .inl (kC 2, w, .inl g)), (ra, .inl (kC 2, n2, .inl u))] H := hP
    have hD : va_D A [(q, .inr (10, [.ref ra, .int 0, .int z, .int (nI n)])), (b, .inl (kC 2, w, .inl g)), (ra, .inl (kC 2, n2, .inl u))] := hD
    have hP := hP.sub (ws' := [(q, .inr (10, [.ref ra, .int 0, .int z, .int (nI n)])), (ra, .inl (kC 2, n2, .inl u))]) [0, 2] rfl
    have hD := hD.sub (ws' := [(q, .inr (10, [.ref ra, .int 0, .int z, .int (nI n)])), (ra, .inl (kC 2, n2, .inl u))]) [0, 2] (by decide) rfl
    refine W.widen (k := 1) (n := 4000) (by omega) (by omega) ?_
    exact W.vret hx hb hr (fun t ht hW => ⟨⟨(ra, n2, u), rfl, ⟨⟨(by show k ≤ n2; omega), (by show n ≤ n2; omega), (by show n2 ≤ 1700; omega)⟩, hz.1, fun j hj => hz.2 j (by omega)⟩, by rw [ht]; exact hP, hD⟩, hS.F ht⟩) hS.2.2 dk_J5_ensureCapacityInternal_d00df_38
