theorem dk_J5_append_cf1ce_0 : decode cJ5_append_cf1ce 0 = .ok (.aload_n 1, 1) := by decide +kernel
theorem dk_J5_append_cf1ce_1 : decode cJ5_append_cf1ce 1 = .ok (.ifnonnull 8, 3) := by decide +kernel
theorem dk_J5_append_cf1ce_4 : decode cJ5_append_cf1ce 4 = .ok (.aload_n 0, 1) := by decide +kernel
theorem dk_J5_append_cf1ce_5 : decode cJ5_append_cf1ce 5 = .ok (.invokevirtual 204, 3) := by decide +kernel
theorem dk_J5_append_cf1ce_8 : decode cJ5_append_cf1ce 8 = .ok (.areturn, 1) := by decide +kernel
theorem dk_J5_append_cf1ce_9 : decode cJ5_append_cf1ce 9 = .ok (.aload_n 1, 1) := by decide +kernel
theorem dk_J5_append_cf1ce_10 : decode cJ5_append_cf1ce 10 = .ok (.invokevirtual 32, 3) := by decide +kernel
theorem dk_J5_append_cf1ce_13 : decode cJ5_append_cf1ce 13 = .ok (.istore_n 2, 1) := by decide +kernel
theorem dk_J5_append_cf1ce_14 : decode cJ5_append_cf1ce 14 = .ok (.aload_n 0, 1) := by decide +kernel
theorem dk_J5_append_cf1ce_15 : decode cJ5_append_cf1ce 15 = .ok (.aload_n 0, 1) := by decide +kernel
theorem dk_J5_append_cf1ce_16 : decode cJ5_append_cf1ce 16 = .ok (.getfield 79, 3) := by decide +kernel
theorem dk_J5_append_cf1ce_19 : decode cJ5_append_cf1ce 19 = .ok (.iload_n 2, 1) := by decide +kernel
theorem dk_J5_append_cf1ce_20 : decode cJ5_append_cf1ce 20 = .ok (.iadd, 1) := by decide +kernel
theorem dk_J5_append_cf1ce_21 : decode cJ5_append_cf1ce 21 = .ok (.invokevirtual 100, 3) := by decide +kernel
theorem dk_J5_append_cf1ce_24 : decode cJ5_append_cf1ce 24 = .ok (.aload_n 0, 1) := by decide +kernel
theorem dk_J5_append_cf1ce_25 : decode cJ5_append_cf1ce 25 = .ok (.aload_n 0, 1) := by decide +kernel
theorem dk_J5_append_cf1ce_26 : decode cJ5_append_cf1ce 26 = .ok (.getfield 79, 3) := by decide +kernel
theorem dk_J5_append_cf1ce_29 : decode cJ5_append_cf1ce 29 = .ok (.aload_n 1, 1) := by decide +kernel
theorem dk_J5_append_cf1ce_30 : decode cJ5_append_cf1ce 30 = .ok (.invokevirtual 208, 3) := by decide +kernel
theorem dk_J5_append_cf1ce_33 : decode cJ5_append_cf1ce 33 = .ok (.aload_n 0, 1) := by decide +kernel
theorem dk_J5_append_cf1ce_34 : decode cJ5_append_cf1ce 34 = .ok (.dup, 1) := by decide +kernel
theorem dk_J5_append_cf1ce_35 : decode cJ5_append_cf1ce 35 = .ok (.getfield 79, 3) := by decide +kernel
theorem dk_J5_append_cf1ce_38 : decode cJ5_append_cf1ce 38 = .ok (.iload_n 2, 1) := by decide +kernel
theorem dk_J5_append_cf1ce_39 : decode cJ5_append_cf1ce 39 = .ok (.iadd, 1) := by decide +kernel
theorem dk_J5_append_cf1ce_40 : decode cJ5_append_cf1ce 40 = .ok (.putfield 79, 3) := by decide +kernel
theorem dk_J5_append_cf1ce_43 : decode cJ5_append_cf1ce 43 = .ok (.aload_n 0, 1) := by decide +kernel
theorem dk_J5_append_cf1ce_44 : decode cJ5_append_cf1ce 44 = .ok (.areturn, 1) := by decide +kernel
set_option maxHeartbeats 4000000 in
set_option maxRecDepth 100000 in
theorem sk_apS (l : Launch) (D : va_G) (kC : Nat → ClassId) (q b w n : Nat) (z : Int32) (g : Nat → Int32) (a d y : Nat) (tx : Nat → Nat) (tt : Nat → Nat) (h0 : n ≤ w) (h1 : w ≤ 1700) (hf : sb_Fit g) (hL : sb_Lat tt n g) (h2 : n + y ≤ 800) (sz : Nat) : Met l yJ5_append_cf1ce (.code yJ5_append_cf1ce cJ5_append_cf1ce 3 (some (.object "java/lang/AbstractStringBuilder")) :: jk_tb) (jr 12 1 4000) (va_Pc [.ref q, .ref a] (ws_B D kC (fun B U H => js_G B U H ∧ js_S a d y tx B U H) [(q, .inr (10, [.ref b, .int 0, .int z, .int (nI n)])), (b, .inl (kC 2, w, .inl g))] sz)) (va_Qr (S := Nat × Nat × (Nat → Int32)) (fun u => (n + y ≤ u.2.1 ∧ u.2.1 ≤ 1700) ∧ sb_Fit u.2.2 ∧ sb_Lat (sb_cat tt n tx) (n + y) u.2.2) (fun u ra t => ra = q ∧ va_P D vwCl [(q, .inr (10, [.ref u.1, .int 0, .int z, .int (nI (n + y))])), (u.1, .inl (kC 2, u.2.1, .inl (u.2.2)))] t.heap ∧ va_D (va_A [(q, .inr (10, [.ref b, .int 0, .int z, .int (nI n)])), (b, .inl (kC 2, w, .inl g))] sz) [(q, .inr (10, [.ref u.1, .int 0, .int z, .int (nI (n + y))])), (u.1, .inl (kC 2, u.2.1, .inl (u.2.2)))]) (va_A [(q, .inr (10, [.ref b, .int 0, .int z, .int (nI n)])), (b, .inl (kC 2, w, .inl g))] sz)) 1 4000 (va_A [(q, .inr (10, [.ref b, .int 0, .int z, .int (nI n)])), (b, .inl (kC 2, w, .inl g))] sz) := by
  refine Met.ofW (cc := cJ5_append_cf1ce) (maxL := 3) (ret := (some (.object "java/lang/AbstractStringBuilder"))) (by decide +kernel) rfl ?_
  intro p e s m args below meth c s₁ B hml hv2
  obtain ⟨rfl, hsz, hP, hK, hD0, hE⟩ := hv2
  have hx := B.exec
  have hb := B.bytes
  have hr := B.returns
  have hlocks := B.notSynchronized
  have hts0 := atoms_spec (ws := (.code yJ5_append_cf1ce cJ5_append_cf1ce 3 (some (.object "java/lang/AbstractStringBuilder")) :: jk_tb)) B.pre
  have htj := fun w (hw : w ∈ jk_tb) => hts0 w (List.mem_cons_of_mem _ hw)
  have hts := fun w (hw : w ∈ am_tb) => htj w (jk_in hw)
  have hown : s.vm.findClass yJ5_append_cf1ce.cls = some m.cls := findClass_of_methodNamed B.named
  subst hsz
  have hD := hD0.self (sz := s.heap.size)
  generalize hAe : va_A [(q, .inr (10, [.ref b, .int 0, .int z, .int (nI n)])), (b, .inl (kC 2, w, .inl g))] s.heap.size = A at hD hE ⊢
  have hA : ∀ q : Nat, s.heap.size ≤ q → A q := fun q h => by rw [← hAe]; exact Or.inr h
  have hP : va_P D vwCl [(q, .inr (10, [.ref b, .int 0, .int z, .int (nI n)])), (b, .inl (kC 2, w, .inl g))] s.heap := hP
  have hS : va_S A s.heap s.heap [] := va_S.rf
  have hl := lv_entry ([.ref q, .ref a]) (n := 3) (Nat.le_of_ble_eq_true rfl)
  rw [lg_entry_eq]
  generalize (lg_sl ([.ref q, .ref a]) ++ List.replicate (3 - (lg_sl ([.ref q, .ref a])).length) Slot.unset).toArray = ls at hl ⊢
  have hl : lv_has ls 3 [(0, .ref q), (1, .ref a)] := hl
  obtain ⟨f, -, hLt, hft⟩ := hE.2.2.2.2
  refine lv_aload_n hx hb dk_J5_append_cf1ce_0 rfl (lv_at hl 1 rfl) ?_
  refine lv_ifnonnull (tgt := 9) hx hb dk_J5_append_cf1ce_1 rfl ?_
  refine lv_aload_n hx hb dk_J5_append_cf1ce_9 rfl (lv_at hl 1 rfl) ?_
  have hPc : va_P D vwCl [] s.heap := ws_nP
  have hDc : va_D A [] := ws_nD
  have hFc : ∀ q, va_A [] s.heap.size q → A q := fun q h => hA q (Nat.le_trans hS.1 (ws_nA h))
  refine va_calli (va_runV (As := []) (rest := []) ⟨hx, hb, hml, hown, hts⟩ (sk_slen l D kC a d y tx s.heap.size) ⟨am_callB (R := jr 12 1 4000) (index := 32) 0 (jk_pay htj (am_tb_at 400 (by decide +kernel) rfl)) (hts _ (am_tb_at 400 (by decide +kernel) rfl)) rfl rfl rfl (hts _ (am_tb_at 47 (by decide +kernel) rfl)) (hts _ (am_tb_at 397 (by decide +kernel) rfl)) ⟨by decide, by decide, by decide +kernel⟩ ⟨(by show 2 + 1 ≤ 12; decide), (by show 8 + (1 + 11) + 48 * 2 ≤ 48 * 12; decide)⟩, (hts _ (am_tb_at 398 (by decide +kernel) rfl)), (hts _ (am_tb_at 399 (by decide +kernel) rfl))⟩ (ws_V (Stb_and Stb_G (Stb_S a d y tx)) (ro_rec hE.2.1 hS) hPc hK hDc (fun U hU hW => ws_E (Stb_and Stb_G (Stb_S a d y tx)) hE hS hU hW hFc)) rfl rfl hl.1 rfl (lv_room (Nat.le_of_ble_eq_true rfl)) dk_J5_append_cf1ce_10 ⟨(by show 0 + 0 ≤ 1; omega), (by show 0 + 0 ≤ 4000; omega)⟩) hS (fun q _ h => hFc q h) hFc (fun r0 u t H1 locs hte hvm hz hB hsz hkp hS => ?_)
  have hP := ws_kept hP hkp
  generalize H1 = H at hP hS ⊢
  have hP : va_P D vwCl [(q, .inr (10, [.ref b, .int 0, .int z, .int (nI n)])), (b, .inl (kC 2, w, .inl g))] H := hP
  have hD : va_D A [(q, .inr (10, [.ref b, .int 0, .int z, .int (nI n)])), (b, .inl (kC 2, w, .inl g))] := hD
  subst hz
  refine lv_istore_n (lv' := [(2, .int (nI y)), (0, .ref q), (1, .ref a)]) hx hb dk_J5_append_cf1ce_13 rfl hl (by decide) rfl (fun ls hl => ?_)
  refine lv_aload_n hx hb dk_J5_append_cf1ce_14 rfl (lv_at hl 1 rfl) ?_
  refine lv_aload_n hx hb dk_J5_append_cf1ce_15 rfl (lv_at hl 1 rfl) ?_
  refine va_get (D := D) (ci := 10) (C := RJ4) (T := TJ4) (N := 4) hx hb hts qwJ4 hown hK hP 0 rfl rfl 3 (by decide) (hts _ (am_tb_at 309 (by decide +kernel) rfl)) (fun _ h9 => h9) rfl dk_J5_append_cf1ce_16 ?_
  refine lv_iload_n hx hb dk_J5_append_cf1ce_19 rfl (lv_at hl 0 rfl) ?_
  refine lv_iadd hx hb dk_J5_append_cf1ce_20 ?_
  rw [show (((nI n) + (nI y)) : Int32) = nI (n + y) from nI_add _ _]
  have hPc := hP.sub (ws' := [(q, .inr (10, [.ref b, .int 0, .int z, .int (nI n)])), (b, .inl (kC 2, w, .inl g))]) [0, 1] rfl
  have hDc := hD.sub (ws' := [(q, .inr (10, [.ref b, .int 0, .int z, .int (nI n)])), (b, .inl (kC 2, w, .inl g))]) [0, 1] (by decide) rfl
  have hFc := va_free (wc := [(q, .inr (10, [.ref b, .int 0, .int z, .int (nI n)])), (b, .inl (kC 2, w, .inl g))]) hD hS hA [0, 1] rfl
  refine va_callv (va_runU (As := [.int (nI (n + y))]) (rest := []) ⟨hx, hb, hml, hown, hts⟩ (sk_ens l D kC q b w n z g (n + y) h0 h1 (by omega) hf H.size) (⟨⟨rfl, rfl, (by show 8 + 1 ≤ 12; decide), (by show 8 + (3 + 11) + 48 * 8 ≤ 48 * 12; decide), jk_pay htj (am_tb_at 334 (by decide +kernel) rfl), List.mem_cons_self⟩, (hts _ (am_tb_at 334 (by decide +kernel) rfl)), (hts _ (am_tb_at 45 (by decide +kernel) rfl)), ⟨by decide, by decide⟩, (fun sig h => by have h2 : parseMethodDescriptor yJ5_ensureCapacityInternal_d00df.desc = some _ := h; have h3 : (parseMethodDescriptor yJ5_ensureCapacityInternal_d00df.desc).map (fun d => d.parameters.length) = some 1 := (by decide +kernel); rw [h2] at h3; exact (Option.some.inj h3).symm), (hts _ (am_tb_at 331 (by decide +kernel) rfl)), (hts _ (am_tb_at 1237 (by decide +kernel) rfl)), (va_Decl.of (x := yJ5_ensureCapacityInternal_d00df) (b := cJ5_ensureCapacityInternal_d00df) (m := 3) (ret := none) (hts _ (am_tb_at 333 (by decide +kernel) rfl)) (hts _ (am_tb_at 334 (by decide +kernel) rfl))), (htj _ (List.mem_append_left _ (List.mem_of_getElem? (i := 0) rfl))), (hts _ (am_tb_at 333 (by decide +kernel) rfl))⟩ : va_CU _ _ _ _ "java/lang/StringBuilder" "java/lang/AbstractStringBuilder" 100 yJ5_ensureCapacityInternal_d00df yJ5_ensureCapacityInternal_d00df _ _ _ _ _ _ _ _) (ws_V Stb_G (va_recv (q := (RJ4, TJ4, 4)) (q0 := 0) hK hP rfl rfl) hPc hK hDc (fun U hU hW => ws_E Stb_G hE.1 hS hU hW hFc)) rfl rfl hl.1 rfl (lv_room (Nat.le_of_ble_eq_true rfl)) dk_J5_append_cf1ce_21 ⟨(by show 0 + 0 + 1 ≤ 1; omega), (by show 0 + 0 + 4000 ≤ 4000; omega)⟩) hS (fun q _ h => hFc q h) hFc (fun u t H1 locs hte hvm hz hB hsz hkp hS => ?_)
  obtain ⟨b1, w1, g1⟩ := u
  obtain ⟨hP1, hD1⟩ := hB
  rw [hte] at hP1
  obtain ⟨hP, hD⟩ := va_join (wr := []) (w1 := [(q, .inr (10, [.ref b1, .int 0, .int z, .int (nI n)])), (b1, .inl (kC 2, w1, .inl g1))]) hP hD [0, 1] [] rfl rfl (by decide) (by decide) hkp hFc hP1 hD1
  generalize H1 = H at hP hS ⊢
  have hP : va_P D vwCl [(q, .inr (10, [.ref b1, .int 0, .int z, .int (nI n)])), (b1, .inl (kC 2, w1, .inl g1))] H := hP
  have hD : va_D A [(q, .inr (10, [.ref b1, .int 0, .int z, .int (nI n)])), (b1, .inl (kC 2, w1, .inl g1))] := hD
  dsimp only at hz
  obtain ⟨⟨hz1, hz2, hz3⟩, hz4, hz5⟩ := hz
  refine lv_aload_n hx hb dk_J5_append_cf1ce_24 rfl (lv_at hl 1 rfl) ?_
  refine lv_aload_n hx hb dk_J5_append_cf1ce_25 rfl (lv_at hl 1 rfl) ?_
  refine va_get (D := D) (ci := 10) (C := RJ4) (T := TJ4) (N := 4) hx hb hts qwJ4 hown hK hP 0 rfl rfl 3 (by decide) (hts _ (am_tb_at 309 (by decide +kernel) rfl)) (fun _ h9 => h9) rfl dk_J5_append_cf1ce_26 ?_
  refine lv_aload_n hx hb dk_J5_append_cf1ce_29 rfl (lv_at hl 2 rfl) ?_
  have hPc := hP.sub (ws' := [(q, .inr (10, [.ref b1, .int 0, .int z, .int (nI n)])), (b1, .inl (kC 2, w1, .inl g1))]) [0, 1] rfl
  have hDc := hD.sub (ws' := [(q, .inr (10, [.ref b1, .int 0, .int z, .int (nI n)])), (b1, .inl (kC 2, w1, .inl g1))]) [0, 1] (by decide) rfl
  have hFc := va_free (wc := [(q, .inr (10, [.ref b1, .int 0, .int z, .int (nI n)])), (b1, .inl (kC 2, w1, .inl g1))]) hD hS hA [0, 1] rfl
  refine va_callv (va_runU (As := [.int (nI n), .ref a]) (rest := []) ⟨hx, hb, hml, hown, hts⟩ (sk_putS l D kC q b1 w1 n z g1 a d y tx hz1 (by omega) hz4 H.size) (⟨⟨rfl, rfl, (by show 6 + 1 ≤ 12; decide), (by show 8 + (3 + 11) + 48 * 6 ≤ 48 * 12; decide), jk_pay htj (am_tb_at 409 (by decide +kernel) rfl), List.mem_cons_self⟩, (hts _ (am_tb_at 409 (by decide +kernel) rfl)), (hts _ (am_tb_at 45 (by decide +kernel) rfl)), ⟨by decide, by decide⟩, (fun sig h => by have h2 : parseMethodDescriptor yJ5_putStringAt_47b60.desc = some _ := h; have h3 : (parseMethodDescriptor yJ5_putStringAt_47b60.desc).map (fun d => d.parameters.length) = some 2 := (by decide +kernel); rw [h2] at h3; exact (Option.some.inj h3).symm), (hts _ (am_tb_at 406 (by decide +kernel) rfl)), (hts _ (am_tb_at 1239 (by decide +kernel) rfl)), (va_Decl.of (x := yJ5_putStringAt_47b60) (b := cJ5_putStringAt_47b60) (m := 3) (ret := none) (hts _ (am_tb_at 408 (by decide +kernel) rfl)) (hts _ (am_tb_at 409 (by decide +kernel) rfl))), (htj _ (List.mem_append_left _ (List.mem_of_getElem? (i := 2) rfl))), (hts _ (am_tb_at 408 (by decide +kernel) rfl))⟩ : va_CU _ _ _ _ "java/lang/StringBuilder" "java/lang/AbstractStringBuilder" 208 yJ5_putStringAt_47b60 yJ5_putStringAt_47b60 _ _ _ _ _ _ _ _) (ws_V (Stb_and Stb_G (Stb_S a d y tx)) (va_recv (q := (RJ4, TJ4, 4)) (q0 := 0) hK hP rfl rfl) hPc hK hDc (fun U hU hW => ws_E (Stb_and Stb_G (Stb_S a d y tx)) hE hS hU hW hFc)) rfl rfl hl.1 rfl (lv_room (Nat.le_of_ble_eq_true rfl)) dk_J5_append_cf1ce_30 ⟨(by show 0 + 0 + 1 + 0 ≤ 1; omega), (by show 0 + 0 + 4000 + 0 ≤ 4000; omega)⟩) hS (fun q _ h => hFc q h) hFc (fun u t H1 locs hte hvm hz hB hsz hkp hS => ?_)
  obtain ⟨hP1, hD1⟩ := hB
  rw [hte] at hP1
  obtain ⟨hP, hD⟩ := va_join (wr := []) (w1 := [(q, .inr (10, [.ref b1, .int 0, .int z, .int (nI n)])), (b1, .inl (kC 2, w1, .inl u))]) hP hD [0, 1] [] rfl rfl (by decide) (by decide) hkp hFc hP1 hD1
  generalize H1 = H at hP hS ⊢
  have hP : va_P D vwCl [(q, .inr (10, [.ref b1, .int 0, .int z, .int (nI n)])), (b1, .inl (kC 2, w1, .inl u))] H := hP
  have hD : va_D A [(q, .inr (10, [.ref b1, .int 0, .int z, .int (nI n)])), (b1, .inl (kC 2, w1, .inl u))] := hD
  refine lv_aload_n hx hb dk_J5_append_cf1ce_33 rfl (lv_at hl 1 rfl) ?_
  refine lv_dup hx hb dk_J5_append_cf1ce_34 rfl ?_
  refine va_get (D := D) (ci := 10) (C := RJ4) (T := TJ4) (N := 4) hx hb hts qwJ4 hown hK hP 0 rfl rfl 3 (by decide) (hts _ (am_tb_at 309 (by decide +kernel) rfl)) (fun _ h9 => h9) rfl dk_J5_append_cf1ce_35 ?_
  refine lv_iload_n hx hb dk_J5_append_cf1ce_38 rfl (lv_at hl 0 rfl) ?_
  refine lv_iadd hx hb dk_J5_append_cf1ce_39 ?_
  rw [show (((nI n) + (nI y)) : Int32) = nI (n + y) from nI_add _ _]
  refine va_put (D := D) (ci := 10) (v := .int (nI (n + y))) (ty := .int) (C := RJ4) (T := TJ4) (N := 4) hx hb hts qwJ4 tyJ4 tyJ4_ok nmJ4 hown hK hP hD hS 0 rfl rfl 3 (by decide) (hts _ (am_tb_at 309 (by decide +kernel) rfl)) (fun _ h9 => h9) rfl (by decide +kernel) rfl rfl (Nat.le_of_ble_eq_true rfl) dk_J5_append_cf1ce_40 (fun H locs hP hD hS => ?_)
  have hP : va_P D vwCl [(q, .inr (10, [.ref b1, .int 0, .int z, .int (nI (n + y))])), (b1, .inl (kC 2, w1, .inl u))] H := hP
  have hD : va_D A [(q, .inr (10, [.ref b1, .int 0, .int z, .int (nI (n + y))])), (b1, .inl (kC 2, w1, .inl u))] := hD
  refine lv_aload_n hx hb dk_J5_append_cf1ce_43 rfl (lv_at hl 1 rfl) ?_
  refine W.widen (k := 1) (n := 4000) (by omega) (by omega) ?_
  exact W.aret (v := .ref q) hx hb hr (Or.inl ⟨_, rfl⟩) (Or.inr ⟨_, rfl⟩) (fun t ht hW => ⟨⟨(b1, w1, u), q, rfl, ⟨⟨hz1, hz3⟩, hz.1, sb_latPut hL (fun j hj => (hz.2.1 j hj).trans (hz5 j hj)) (fun i hi => ⟨(hLt i hi).1, hz.2.2 i hi⟩)⟩, rfl, by rw [ht]; exact hP, hD⟩, hS.F ht⟩) hS.2.2 dk_J5_append_cf1ce_44
theorem dk_J4_append_15ec4_0 : decode cJ4_append_15ec4 0 = .ok (.aload_n 0, 1) := by decide +kernel
theorem dk_J4_append_15ec4_1 : decode cJ4_append_15ec4 1 = .ok (.aload_n 1, 1) := by decide +kernel
theorem dk_J4_append_15ec4_2 : decode cJ4_append_15ec4 2 = .ok (.invokespecial 29, 3) := by decide +kernel
theorem dk_J4_append_15ec4_5 : decode cJ4_append_15ec4 5 = .ok (.pop, 1) := by decide +kernel
theorem dk_J4_append_15ec4_6 : decode cJ4_append_15ec4 6 = .ok (.aload_n 0, 1) := by decide +kernel
theorem dk_J4_append_15ec4_7 : decode cJ4_append_15ec4 7 = .ok (.areturn, 1) := by decide +kernel
set_option maxHeartbeats 4000000 in
set_option maxRecDepth 100000 in
theorem sk_sbS (l : Launch) (D : va_G) (kC : Nat → ClassId) (q b w n : Nat) (z : Int32) (g : Nat → Int32) (a d y : Nat) (tx : Nat → Nat) (tt : Nat → Nat) (h0 : n ≤ w) (h1 : w ≤ 1700) (hf : sb_Fit g) (hL : sb_Lat tt n g) (h2 : n + y ≤ 800) (sz : Nat) : Met l yJ4_append_15ec4 (.code yJ4_append_15ec4 cJ4_append_15ec4 2 (some (.object "java/lang/StringBuilder")) :: jk_tb) (jr 13 1 4000) (va_Pc [.ref q, .ref a] (ws_B D kC (fun B U H => js_G B U H ∧ js_S a d y tx B U H) [(q, .inr (10, [.ref b, .int 0, .int z, .int (nI n)])), (b, .inl (kC 2, w, .inl g))] sz)) (va_Qr (S := Nat × Nat × (Nat → Int32)) (fun u => (n + y ≤ u.2.1 ∧ u.2.1 ≤ 1700) ∧ sb_Fit u.2.2 ∧ sb_Lat (sb_cat tt n tx) (n + y) u.2.2) (fun u ra t => ra = q ∧ va_P D vwCl [(q, .inr (10, [.ref u.1, .int 0, .int z, .int (nI (n + y))])), (u.1, .inl (kC 2, u.2.1, .inl (u.2.2)))] t.heap ∧ va_D (va_A [(q, .inr (10, [.ref b, .int 0, .int z, .int (nI n)])), (b, .inl (kC 2, w, .inl g))] sz) [(q, .inr (10, [.ref u.1, .int 0, .int z, .int (nI (n + y))])), (u.1, .inl (kC 2, u.2.1, .inl (u.2.2)))]) (va_A [(q, .inr (10, [.ref b, .int 0, .int z, .int (nI n)])), (b, .inl (kC 2, w, .inl g))] sz)) 1 4000 (va_A [(q, .inr (10, [.ref b, .int 0, .int z, .int (nI n)])), (b, .inl (kC 2, w, .inl g))] sz) := by
  refine Met.ofW (cc := cJ4_append_15ec4) (maxL := 2) (ret := (some (.object "java/lang/StringBuilder"))) (by decide +kernel) rfl ?_
  intro p e s m args below meth c s₁ B hml hv2
  obtain ⟨rfl, hsz, hP, hK, hD0, hE⟩ := hv2
  have hx := B.exec
  have hb := B.bytes
  have hr := B.returns
  have hlocks := B.notSynchronized
  have hts0 := atoms_spec (ws := (.code yJ4_append_15ec4 cJ4_append_15ec4 2 (some (.object "java/lang/StringBuilder")) :: jk_tb)) B.pre
  have htj := fun w (hw : w ∈ jk_tb) => hts0 w (List.mem_cons_of_mem _ hw)
  have hts := fun w (hw : w ∈ am_tb) => htj w (jk_in hw)
  have hown : s.vm.findClass yJ4_append_15ec4.cls = some m.cls := findClass_of_methodNamed B.named
  subst hsz
  have hD := hD0.self (sz := s.heap.size)
  generalize hAe : va_A [(q, .inr (10, [.ref b, .int 0, .int z, .int (nI n)])), (b, .inl (kC 2, w, .inl g))] s.heap.size = A at hD hE ⊢
  have hA : ∀ q : Nat, s.heap.size ≤ q → A q := fun q h => by rw [← hAe]; exact Or.inr h
  have hP : va_P D vwCl [(q, .inr (10, [.ref b, .int 0, .int z, .int (nI n)])), (b, .inl (kC 2, w, .inl g))] s.heap := hP
  have hS : va_S A s.heap s.heap [] := va_S.rf
  have hl := lv_entry ([.ref q, .ref a]) (n := 2) (Nat.le_of_ble_eq_true rfl)
  rw [lg_entry_eq]
  generalize (lg_sl ([.ref q, .ref a]) ++ List.replicate (2 - (lg_sl ([.ref q, .ref a])).length) Slot.unset).toArray = ls at hl ⊢
  have hl : lv_has ls 2 [(0, .ref q), (1, .ref a)] := hl
  refine lv_aload_n hx hb dk_J4_append_15ec4_0 rfl (lv_at hl 0 rfl) ?_
  refine lv_aload_n hx hb dk_J4_append_15ec4_1 rfl (lv_at hl 1 rfl) ?_
  have hPc := hP.sub (ws' := [(q, .inr (10, [.ref b, .int 0, .int z, .int (nI n)])), (b, .inl (kC 2, w, .inl g))]) [0, 1] rfl
  have hDc := hD.sub (ws' := [(q, .inr (10, [.ref b, .int 0, .int z, .int (nI n)])), (b, .inl (kC 2, w, .inl g))]) [0, 1] (by decide) rfl
  have hFc := va_free (wc := [(q, .inr (10, [.ref b, .int 0, .int z, .int (nI n)])), (b, .inl (kC 2, w, .inl g))]) hD hS hA [0, 1] rfl
  refine va_callr (va_runSU (hK.1 10 _ rfl).2 (As := [.ref a]) (rest := []) ⟨hx, hb, hml, hown, hts⟩ (sk_apS l D kC q b w n z g a d y tx tt h0 h1 hf hL h2 s.heap.size) (⟨⟨rfl, rfl, (by show 12 + 1 ≤ 13; decide), (by show 8 + (3 + 11) + 48 * 12 ≤ 48 * 13; decide), jk_pay htj (am_tb_at 326 (by decide +kernel) rfl), List.mem_cons_self⟩, (hts _ (am_tb_at 324 (by decide +kernel) rfl)), (hts _ (am_tb_at 1235 (by decide +kernel) rfl)), (hts _ (am_tb_at 318 (by decide +kernel) rfl)), (hts _ (am_tb_at 325 (by decide +kernel) rfl)), (hts _ (am_tb_at 45 (by decide +kernel) rfl)), (hts _ (am_tb_at 326 (by decide +kernel) rfl)), (by decide), (fun sig h => by have h2 : parseMethodDescriptor yJ5_append_cf1ce.desc = some _ := h; have h3 : (parseMethodDescriptor yJ5_append_cf1ce.desc).map (fun d => d.parameters.length) = some 1 := (by decide +kernel); rw [h2] at h3; exact (Option.some.inj h3).symm)⟩ : va_CS _ _ _ _ _ _ _ _ _ _ _ _ _ _) (ws_V (Stb_and Stb_G (Stb_S a d y tx)) (va_recv (q := (RJ4, TJ4, 4)) (q0 := 0) hK hP rfl rfl) hPc hK hDc (fun U hU hW => ws_E (Stb_and Stb_G (Stb_S a d y tx)) hE hS hU hW hFc)) rfl rfl hl.1 rfl (lv_room (Nat.le_of_ble_eq_true rfl)) dk_J4_append_15ec4_2 ⟨(by show 0 + 1 ≤ 1; omega), (by show 0 + 4000 ≤ 4000; omega)⟩) hS (fun q _ h => hFc q h) hFc (fun u ra t H1 locs hte hvm hz hB hsz hkp hS => ?_)
  obtain ⟨hra, hP1, hD1⟩ := hB
  rw [hte] at hP1
  obtain ⟨hP, hD⟩ := va_join (wr := []) (w1 := [(q, .inr (10, [.ref u.1, .int 0, .int z, .int (nI (n + y))])), (u.1, .inl (kC 2, u.2.1, .inl (u.2.2)))]) hP hD [0, 1] [] rfl rfl (by decide) (by decide) hkp hFc hP1 hD1
  generalize H1 = H at hP hS ⊢
  have hP : va_P D vwCl [(q, .inr (10, [.ref u.1, .int 0, .int z, .int (nI (n + y))])), (u.1, .inl (kC 2, u.2.1, .inl (u.2.2)))] H := hP
  have hD : va_D A [(q, .inr (10, [.ref u.1, .int 0, .int z, .int (nI (n + y))])), (u.1, .inl (kC 2, u.2.1, .inl (u.2.2)))] := hD
  refine lv_pop hx hb dk_J4_append_15ec4_5 rfl ?_
  refine lv_aload_n hx hb dk_J4_append_15ec4_6 rfl (lv_at hl 0 rfl) ?_
  refine W.widen (k := 1) (n := 4000) (by omega) (by omega) ?_
  exact W.aret (v := .ref q) hx hb hr (Or.inl ⟨_, rfl⟩) (Or.inr ⟨_, rfl⟩) (fun t ht hW => ⟨⟨u, q, rfl, hz, rfl, by rw [ht]; exact hP, hD⟩, hS.F ht⟩) hS.2.2 dk_J4_append_15ec4_7
theorem dk_J1_canEncode_fc78d_0 : decode cJ1_canEncode_fc78d 0 = .ok (.iload_n 0, 1) := by decide +kernel
theorem dk_J1_canEncode_fc78d_1 : decode cJ1_canEncode_fc78d 1 = .ok (.sipush 255, 3) := by decide +kernel
theorem dk_J1_canEncode_fc78d_4 : decode cJ1_canEncode_fc78d 4 = .ok (.if_icmp .gt 7, 3) := by decide +kernel
theorem dk_J1_canEncode_fc78d_7 : decode cJ1_canEncode_fc78d 7 = .ok (.iconst 1, 1) := by decide +kernel
theorem dk_J1_canEncode_fc78d_8 : decode cJ1_canEncode_fc78d 8 = .ok (.goto 4, 3) := by decide +kernel
theorem dk_J1_canEncode_fc78d_11 : decode cJ1_canEncode_fc78d 11 = .ok (.iconst 0, 1) := by decide +kernel
theorem dk_J1_canEncode_fc78d_12 : decode cJ1_canEncode_fc78d 12 = .ok (.ireturn, 1) := by decide +kernel
set_option maxHeartbeats 4000000 in
set_option maxRecDepth 100000 in
theorem sk_enc (l : Launch) (D : va_G) (kC : Nat → ClassId) (ch : Nat) (hc : ch < 256) (sz : Nat) : Met l yJ1_canEncode_fc78d (.code yJ1_canEncode_fc78d cJ1_canEncode_fc78d 1 (some .boolean) :: jk_tb) (jr 1 0 0) (va_Pc [.int (nI ch)] (ws_B D kC js_G [] sz)) (va_Qi (S := Unit) (fun r _ => r = 1) (fun _ _ => True) (va_A [] sz)) 0 0 (va_A [] sz) := by
  refine Met.ofW (cc := cJ1_canEncode_fc78d) (maxL := 1) (ret := (some .boolean)) (by decide +kernel) rfl ?_
  intro p e s m args below meth c s₁ B hml hv2
  obtain ⟨rfl, hsz, hP, hK, hD0, hE⟩ := hv2
  have hx := B.exec
  have hb := B.bytes
  have hr := B.returns
  have hlocks := B.notSynchronized
  have hts0 := atoms_spec (ws := (.code yJ1_canEncode_fc78d cJ1_canEncode_fc78d 1 (some .boolean) :: jk_tb)) B.pre
  have htj := fun w (hw : w ∈ jk_tb) => hts0 w (List.mem_cons_of_mem _ hw)
  have hts := fun w (hw : w ∈ am_tb) => htj w (jk_in hw)
  have hown : s.vm.findClass yJ1_canEncode_fc78d.cls = some m.cls := findClass_of_methodNamed B.named
  subst hsz
  have hD := hD0.self (sz := s.heap.size)
  generalize hAe : va_A [] s.heap.size = A at hD hE ⊢
  have hA : ∀ q : Nat, s.heap.size ≤ q → A q := fun q h => by rw [← hAe]; exact Or.inr h
  have hP : va_P D vwCl [] s.heap := hP
  have hS : va_S A s.heap s.heap [] := va_S.rf
  have hl := lv_entry ([.int (nI ch)]) (n := 1) (Nat.le_of_ble_eq_true rfl)
  rw [lg_entry_eq]
  generalize (lg_sl ([.int (nI ch)]) ++ List.replicate (1 - (lg_sl ([.int (nI ch)])).length) Slot.unset).toArray = ls at hl ⊢
  have hl : lv_has ls 1 [(0, .int (nI ch))] := hl
  refine lv_iload_n hx hb dk_J1_canEncode_fc78d_0 rfl (lv_at hl 0 rfl) ?_
  refine lv_sipush (v := 255) hx hb dk_J1_canEncode_fc78d_1 (by decide) ?_
  refine lv_icmp_gt (tgt := 11) hx hb dk_J1_canEncode_fc78d_4 rfl (fun q => absurd q (show ¬ nI 255 < nI ch from nI_nlt (by omega) (by decide))) (fun _ => ?_)
  refine lv_iconst (v := 1) hx hb dk_J1_canEncode_fc78d_7 (by decide) ?_
  refine lv_goto (tgt := 12) hx hb dk_J1_canEncode_fc78d_8 rfl ?_
  refine W.widen (k := 0) (n := 0) (by omega) (by omega) ?_
  exact W.zret (v := 1) (ty := .boolean) hx hb hr rfl (fun t ht hW => ⟨⟨1, (), rfl, rfl, trivial⟩, hS.F ht⟩) hS.2.2 dk_J1_canEncode_fc78d_12
theorem dk_J5_append_3fe6f_0 : decode cJ5_append_3fe6f 0 = .ok (.aload_n 0, 1) := by decide +kernel
theorem dk_J5_append_3fe6f_1 : decode cJ5_append_3fe6f 1 = .ok (.aload_n 0, 1) := by decide +kernel
theorem dk_J5_append_3fe6f_2 : decode cJ5_append_3fe6f 2 = .ok (.getfield 79, 3) := by decide +kernel
theorem dk_J5_append_3fe6f_5 : decode cJ5_append_3fe6f 5 = .ok (.iconst 1, 1) := by decide +kernel
theorem dk_J5_append_3fe6f_6 : decode cJ5_append_3fe6f 6 = .ok (.iadd, 1) := by decide +kernel
theorem dk_J5_append_3fe6f_7 : decode cJ5_append_3fe6f 7 = .ok (.invokevirtual 100, 3) := by decide +kernel
theorem dk_J5_append_3fe6f_10 : decode cJ5_append_3fe6f 10 = .ok (.aload_n 0, 1) := by decide +kernel
theorem dk_J5_append_3fe6f_11 : decode cJ5_append_3fe6f 11 = .ok (.invokevirtual 83, 3) := by decide +kernel
theorem dk_J5_append_3fe6f_14 : decode cJ5_append_3fe6f 14 = .ok (.ifCond .eq 31, 3) := by decide +kernel
theorem dk_J5_append_3fe6f_17 : decode cJ5_append_3fe6f 17 = .ok (.iload_n 1, 1) := by decide +kernel
theorem dk_J5_append_3fe6f_18 : decode cJ5_append_3fe6f 18 = .ok (.invokestatic 191, 3) := by decide +kernel
theorem dk_J5_append_3fe6f_21 : decode cJ5_append_3fe6f 21 = .ok (.ifCond .eq 24, 3) := by decide +kernel
theorem dk_J5_append_3fe6f_24 : decode cJ5_append_3fe6f 24 = .ok (.aload_n 0, 1) := by decide +kernel
theorem dk_J5_append_3fe6f_25 : decode cJ5_append_3fe6f 25 = .ok (.getfield 15, 3) := by decide +kernel
theorem dk_J5_append_3fe6f_28 : decode cJ5_append_3fe6f 28 = .ok (.aload_n 0, 1) := by decide +kernel
theorem dk_J5_append_3fe6f_29 : decode cJ5_append_3fe6f 29 = .ok (.dup, 1) := by decide +kernel
theorem dk_J5_append_3fe6f_30 : decode cJ5_append_3fe6f 30 = .ok (.getfield 79, 3) := by decide +kernel
theorem dk_J5_append_3fe6f_33 : decode cJ5_append_3fe6f 33 = .ok (.dup_x1, 1) := by decide +kernel
theorem dk_J5_append_3fe6f_34 : decode cJ5_append_3fe6f 34 = .ok (.iconst 1, 1) := by decide +kernel
theorem dk_J5_append_3fe6f_35 : decode cJ5_append_3fe6f 35 = .ok (.iadd, 1) := by decide +kernel
theorem dk_J5_append_3fe6f_36 : decode cJ5_append_3fe6f 36 = .ok (.putfield 79, 3) := by decide +kernel
theorem dk_J5_append_3fe6f_39 : decode cJ5_append_3fe6f 39 = .ok (.iload_n 1, 1) := by decide +kernel
theorem dk_J5_append_3fe6f_40 : decode cJ5_append_3fe6f 40 = .ok (.i2b, 1) := by decide +kernel
theorem dk_J5_append_3fe6f_41 : decode cJ5_append_3fe6f 41 = .ok (.bastore, 1) := by decide +kernel
theorem dk_J5_append_3fe6f_42 : decode cJ5_append_3fe6f 42 = .ok (.goto 33, 3) := by decide +kernel
theorem dk_J5_append_3fe6f_45 : decode cJ5_append_3fe6f 45 = .ok (.aload_n 0, 1) := by decide +kernel
theorem dk_J5_append_3fe6f_46 : decode cJ5_append_3fe6f 46 = .ok (.invokevirtual 83, 3) := by decide +kernel
theorem dk_J5_append_3fe6f_49 : decode cJ5_append_3fe6f 49 = .ok (.ifCond .eq 7, 3) := by decide +kernel
theorem dk_J5_append_3fe6f_52 : decode cJ5_append_3fe6f 52 = .ok (.aload_n 0, 1) := by decide +kernel
theorem dk_J5_append_3fe6f_53 : decode cJ5_append_3fe6f 53 = .ok (.invokevirtual 195, 3) := by decide +kernel
theorem dk_J5_append_3fe6f_56 : decode cJ5_append_3fe6f 56 = .ok (.aload_n 0, 1) := by decide +kernel
theorem dk_J5_append_3fe6f_57 : decode cJ5_append_3fe6f 57 = .ok (.getfield 15, 3) := by decide +kernel
theorem dk_J5_append_3fe6f_60 : decode cJ5_append_3fe6f 60 = .ok (.aload_n 0, 1) := by decide +kernel
theorem dk_J5_append_3fe6f_61 : decode cJ5_append_3fe6f 61 = .ok (.dup, 1) := by decide +kernel
theorem dk_J5_append_3fe6f_62 : decode cJ5_append_3fe6f 62 = .ok (.getfield 79, 3) := by decide +kernel
theorem dk_J5_append_3fe6f_65 : decode cJ5_append_3fe6f 65 = .ok (.dup_x1, 1) := by decide +kernel
theorem dk_J5_append_3fe6f_66 : decode cJ5_append_3fe6f 66 = .ok (.iconst 1, 1) := by decide +kernel
theorem dk_J5_append_3fe6f_67 : decode cJ5_append_3fe6f 67 = .ok (.iadd, 1) := by decide +kernel
theorem dk_J5_append_3fe6f_68 : decode cJ5_append_3fe6f 68 = .ok (.putfield 79, 3) := by decide +kernel
theorem dk_J5_append_3fe6f_71 : decode cJ5_append_3fe6f 71 = .ok (.iload_n 1, 1) := by decide +kernel
theorem dk_J5_append_3fe6f_72 : decode cJ5_append_3fe6f 72 = .ok (.invokestatic 197, 3) := by decide +kernel
theorem dk_J5_append_3fe6f_75 : decode cJ5_append_3fe6f 75 = .ok (.aload_n 0, 1) := by decide +kernel
theorem dk_J5_append_3fe6f_76 : decode cJ5_append_3fe6f 76 = .ok (.areturn, 1) := by decide +kernel
set_option maxHeartbeats 4000000 in
set_option maxRecDepth 100000 in
theorem sk_apC (l : Launch) (D : va_G) (kC : Nat → ClassId) (q b w n : Nat) (z : Int32) (g : Nat → Int32) (ch : Nat) (hc : ch < 256) (tt : Nat → Nat) (h0 : n ≤ w) (h1 : w ≤ 1700) (hf : sb_Fit g) (hL : sb_Lat tt n g) (h2 : n + 1 ≤ 800) (sz : Nat) : Met l yJ5_append_3fe6f (.code yJ5_append_3fe6f cJ5_append_3fe6f 2 (some (.object "java/lang/AbstractStringBuilder")) :: jk_tb) (jr 12 1 4000) (va_Pc [.ref q, .int (nI ch)] (ws_B D kC js_G [(q, .inr (10, [.ref b, .int 0, .int z, .int (nI n)])), (b, .inl (kC 2, w, .inl g))] sz)) (va_Qr (S := Nat × Nat × (Nat → Int32)) (fun u => (n + 1 ≤ u.2.1 ∧ u.2.1 ≤ 1700) ∧ sb_Fit u.2.2 ∧ sb_Lat (sb_cat tt n (fun _ => ch)) (n + 1) u.2.2) (fun u ra t => ra = q ∧ va_P D vwCl [(q, .inr (10, [.ref u.1, .int 0, .int z, .int (nI (n + 1))])), (u.1, .inl (kC 2, u.2.1, .inl (u.2.2)))] t.heap ∧ va_D (va_A [(q, .inr (10, [.ref b, .int 0, .int z, .int (nI n)])), (b, .inl (kC 2, w, .inl g))] sz) [(q, .inr (10, [.ref u.1, .int 0, .int z, .int (nI (n + 1))])), (u.1, .inl (kC 2, u.2.1, .inl (u.2.2)))]) (va_A [(q, .inr (10, [.ref b, .int 0, .int z, .int (nI n)])), (b, .inl (kC 2, w, .inl g))] sz)) 1 4000 (va_A [(q, .inr (10, [.ref b, .int 0, .int z, .int (nI n)])), (b, .inl (kC 2, w, .inl g))] sz) := by
  refine Met.ofW (cc := cJ5_append_3fe6f) (maxL := 2) (ret := (some (.object "java/lang/AbstractStringBuilder"))) (by decide +kernel) rfl ?_
  intro p e s m args below meth c s₁ B hml hv2
  obtain ⟨rfl, hsz, hP, hK, hD0, hE⟩ := hv2
  have hx := B.exec
  have hb := B.bytes
  have hr := B.returns
  have hlocks := B.notSynchronized
  have hts0 := atoms_spec (ws := (.code yJ5_append_3fe6f cJ5_append_3fe6f 2 (some (.object "java/lang/AbstractStringBuilder")) :: jk_tb)) B.pre
  have htj := fun w (hw : w ∈ jk_tb) => hts0 w (List.mem_cons_of_mem _ hw)
  have hts := fun w (hw : w ∈ am_tb) => htj w (jk_in hw)
  have hown : s.vm.findClass yJ5_append_3fe6f.cls = some m.cls := findClass_of_methodNamed B.named
  subst hsz
  have hD := hD0.self (sz := s.heap.size)
  generalize hAe : va_A [(q, .inr (10, [.ref b, .int 0, .int z, .int (nI n)])), (b, .inl (kC 2, w, .inl g))] s.heap.size = A at hD hE ⊢
  have hA : ∀ q : Nat, s.heap.size ≤ q → A q := fun q h => by rw [← hAe]; exact Or.inr h
  have hP : va_P D vwCl [(q, .inr (10, [.ref b, .int 0, .int z, .int (nI n)])), (b, .inl (kC 2, w, .inl g))] s.heap := hP
  have hS : va_S A s.heap s.heap [] := va_S.rf
  have hl := lv_entry ([.ref q, .int (nI ch)]) (n := 2) (Nat.le_of_ble_eq_true rfl)
  rw [lg_entry_eq]
  generalize (lg_sl ([.ref q, .int (nI ch)]) ++ List.replicate (2 - (lg_sl ([.ref q, .int (nI ch)])).length) Slot.unset).toArray = ls at hl ⊢
  have hl : lv_has ls 2 [(0, .ref q), (1, .int (nI ch))] := hl
  refine lv_aload_n hx hb dk_J5_append_3fe6f_0 rfl (lv_at hl 0 rfl) ?_
  refine lv_aload_n hx hb dk_J5_append_3fe6f_1 rfl (lv_at hl 0 rfl) ?_
  refine va_get (D := D) (ci := 10) (C := RJ4) (T := TJ4) (N := 4) hx hb hts qwJ4 hown hK hP 0 rfl rfl 3 (by decide) (hts _ (am_tb_at 309 (by decide +kernel) rfl)) (fun _ h9 => h9) rfl dk_J5_append_3fe6f_2 ?_
  refine lv_iconst (v := 1) hx hb dk_J5_append_3fe6f_5 (by decide) ?_
  refine lv_iadd hx hb dk_J5_append_3fe6f_6 ?_
  rw [show (((nI n) + 1) : Int32) = nI (n + 1) from nI_1 _]
  have hPc := hP.sub (ws' := [(q, .inr (10, [.ref b, .int 0, .int z, .int (nI n)])), (b, .inl (kC 2, w, .inl g))]) [0, 1] rfl
  have hDc := hD.sub (ws' := [(q, .inr (10, [.ref b, .int 0, .int z, .int (nI n)])), (b, .inl (kC 2, w, .inl g))]) [0, 1] (by decide) rfl
  have hFc := va_free (wc := [(q, .inr (10, [.ref b, .int 0, .int z, .int (nI n)])), (b, .inl (kC 2, w, .inl g))]) hD hS hA [0, 1] rfl
  refine va_callv (va_runU (As := [.int (nI (n + 1))]) (rest := []) ⟨hx, hb, hml, hown, hts⟩ (sk_ens l D kC q b w n z g (n + 1) h0 h1 (by omega) hf s.heap.size) (⟨⟨rfl, rfl, (by show 8 + 1 ≤ 12; decide), (by show 8 + (3 + 11) + 48 * 8 ≤ 48 * 12; decide), jk_pay htj (am_tb_at 334 (by decide +kernel) rfl), List.mem_cons_self⟩, (hts _ (am_tb_at 334 (by decide +kernel) rfl)), (hts _ (am_tb_at 45 (by decide +kernel) rfl)), ⟨by decide, by decide⟩, (fun sig h => by have h2 : parseMethodDescriptor yJ5_ensureCapacityInternal_d00df.desc = some _ := h; have h3 : (parseMethodDescriptor yJ5_ensureCapacityInternal_d00df.desc).map (fun d => d.parameters.length) = some 1 := (by decide +kernel); rw [h2] at h3; exact (Option.some.inj h3).symm), (hts _ (am_tb_at 331 (by decide +kernel) rfl)), (hts _ (am_tb_at 1237 (by decide +kernel) rfl)), (va_Decl.of (x := yJ5_ensureCapacityInternal_d00df) (b := cJ5_ensureCapacityInternal_d00df) (m := 3) (ret := none) (hts _ (am_tb_at 333 (by decide +kernel) rfl)) (hts _ (am_tb_at 334 (by decide +kernel) rfl))), (htj _ (List.mem_append_left _ (List.mem_of_getElem? (i := 0) rfl))), (hts _ (am_tb_at 333 (by decide +kernel) rfl))⟩ : va_CU _ _ _ _ "java/lang/StringBuilder" "java/lang/AbstractStringBuilder" 100 yJ5_ensureCapacityInternal_d00df yJ5_ensureCapacityInternal_d00df _ _ _ _ _ _ _ _) (ws_V Stb_G (va_recv (q := (RJ4, TJ4, 4)) (q0 := 0) hK hP rfl rfl) hPc hK hDc (fun U hU hW => ws_E Stb_G hE hS hU hW hFc)) rfl rfl hl.1 rfl (lv_room (Nat.le_of_ble_eq_true rfl)) dk_J5_append_3fe6f_7 ⟨(by show 0 + 1 ≤ 1; omega), (by show 0 + 4000 ≤ 4000; omega)⟩) hS (fun q _ h => hFc q h) hFc (fun u t H1 locs hte hvm hz hB hsz hkp hS => ?_)
  obtain ⟨b1, w1, g1⟩ := u
  obtain ⟨hP1, hD1⟩ := hB
  rw [hte] at hP1
  obtain ⟨hP, hD⟩ := va_join (wr := []) (w1 := [(q, .inr (10, [.ref b1, .int 0, .int z, .int (nI n)])), (b1, .inl (kC 2, w1, .inl g1))]) hP hD [0, 1] [] rfl rfl (by decide) (by decide) hkp hFc hP1 hD1
  generalize H1 = H at hP hS ⊢
  have hP : va_P D vwCl [(q, .inr (10, [.ref b1, .int 0, .int z, .int (nI n)])), (b1, .inl (kC 2, w1, .inl g1))] H := hP
  have hD : va_D A [(q, .inr (10, [.ref b1, .int 0, .int z, .int (nI n)])), (b1, .inl (kC 2, w1, .inl g1))] := hD
  dsimp only at hz
  obtain ⟨⟨hz1, hz2, hz3⟩, hz4, hz5⟩ := hz
  refine lv_aload_n hx hb dk_J5_append_3fe6f_10 rfl (lv_at hl 0 rfl) ?_
  have hPc : va_P D vwCl [] H := ws_nP
  have hDc : va_D A [] := ws_nD
  have hFc : ∀ q, va_A [] H.size q → A q := fun q h => hA q (Nat.le_trans hS.1 (ws_nA h))
  refine va_calli (va_runU (As := []) (rest := []) ⟨hx, hb, hml, hown, hts⟩ (sk_isLat l D kC q b1 w1 n g1 H.size) (⟨⟨rfl, rfl, (by show 2 + 1 ≤ 12; decide), (by show 8 + (1 + 11) + 48 * 2 ≤ 48 * 12; decide), jk_pay htj (am_tb_at 370 (by decide +kernel) rfl), List.mem_cons_self⟩, (hts _ (am_tb_at 370 (by decide +kernel) rfl)), (hts _ (am_tb_at 45 (by decide +kernel) rfl)), ⟨by decide, by decide⟩, (fun sig h => by have h2 : parseMethodDescriptor yJ5_isLatin1_aae02.desc = some _ := h; have h3 : (parseMethodDescriptor yJ5_isLatin1_aae02.desc).map (fun d => d.parameters.length) = some 0 := (by decide +kernel); rw [h2] at h3; exact (Option.some.inj h3).symm), (hts _ (am_tb_at 366 (by decide +kernel) rfl)), (hts _ (am_tb_at 368 (by decide +kernel) rfl)), (va_Decl.of (x := yJ5_isLatin1_aae02) (b := cJ5_isLatin1_aae02) (m := 1) (ret := (some .boolean)) (hts _ (am_tb_at 367 (by decide +kernel) rfl)) (hts _ (am_tb_at 370 (by decide +kernel) rfl))), (hts _ (am_tb_at 369 (by decide +kernel) rfl)), (hts _ (am_tb_at 367 (by decide +kernel) rfl))⟩ : va_CU _ _ _ _ "java/lang/StringBuilder" "java/lang/AbstractStringBuilder" 83 yJ5_isLatin1_aae02 yJ5_isLatin1_aae02 _ _ _ _ _ _ _ _) (ws_V (Stb_and Stb_G (Stb_B kC q b1 w1 n g1)) (va_recv (q := (RJ4, TJ4, 4)) (q0 := 0) hK hP rfl rfl) hPc hK hDc (fun U hU hW => ⟨ws_E Stb_G hE hS hU hW hFc, ws_N (Stb_B kC q b1 w1 n g1) (ro_B hts hK hP 0 1 rfl rfl (ws_n0 hP 0 rfl) (ws_n0 hP 1 rfl)) hU hW⟩)) rfl rfl hl.1 rfl (lv_room (Nat.le_of_ble_eq_true rfl)) dk_J5_append_3fe6f_11 ⟨(by show 0 + 1 + 0 ≤ 1; omega), (by show 0 + 4000 + 0 ≤ 4000; omega)⟩) hS (fun q _ h => hFc q h) hFc (fun r0 u t H1 locs hte hvm hz hB hsz hkp hS => ?_)
  have hP := ws_kept hP hkp
  generalize H1 = H at hP hS ⊢
  have hP : va_P D vwCl [(q, .inr (10, [.ref b1, .int 0, .int z, .int (nI n)])), (b1, .inl (kC 2, w1, .inl g1))] H := hP
  have hD : va_D A [(q, .inr (10, [.ref b1, .int 0, .int z, .int (nI n)])), (b1, .inl (kC 2, w1, .inl g1))] := hD
  subst hz
  refine lv_if_eq (tgt := 45) hx hb dk_J5_append_3fe6f_14 rfl (fun q => absurd q (by decide)) (fun _ => ?_)
  refine lv_iload_n hx hb dk_J5_append_3fe6f_17 rfl (lv_at hl 1 rfl) ?_
  have hPc : va_P D vwCl [] H := ws_nP
  have hDc : va_D A [] := ws_nD
  have hFc : ∀ q, va_A [] H.size q → A q := fun q h => hA q (Nat.le_trans hS.1 (ws_nA h))
  refine va_calli (va_runS (As := [.int (nI ch)]) (rest := []) ⟨hx, hb, hml, hown, hts⟩ (sk_enc l D kC ch hc H.size) ⟨am_callB (R := jr 12 1 4000) (index := 191) 1 (jk_pay htj (am_tb_at 547 (by decide +kernel) rfl)) (hts _ (am_tb_at 547 (by decide +kernel) rfl)) rfl rfl rfl (hts _ (am_tb_at 53 (by decide +kernel) rfl)) (hts _ (am_tb_at 545 (by decide +kernel) rfl)) ⟨by decide, by decide, by decide +kernel⟩ ⟨(by show 1 + 1 ≤ 12; decide), (by show 8 + (1 + 11) + 48 * 1 ≤ 48 * 12; decide)⟩, (hts _ (am_tb_at 546 (by decide +kernel) rfl))⟩ (ws_S Stb_G hPc hK hDc (fun U hU hW => ws_E Stb_G hE hS hU hW hFc)) rfl rfl hl.1 rfl (lv_room (Nat.le_of_ble_eq_true rfl)) dk_J5_append_3fe6f_18 ⟨(by show 0 + 1 + 0 + 0 ≤ 1; omega), (by show 0 + 4000 + 0 + 0 ≤ 4000; omega)⟩) hS (fun q _ h => hFc q h) hFc (fun r0 u t H1 locs hte hvm hz hB hsz hkp hS => ?_)
  have hP := ws_kept hP hkp
  generalize H1 = H at hP hS ⊢
  have hP : va_P D vwCl [(q, .inr (10, [.ref b1, .int 0, .int z, .int (nI n)])), (b1, .inl (kC 2, w1, .inl g1))] H := hP
  have hD : va_D A [(q, .inr (10, [.ref b1, .int 0, .int z, .int (nI n)])), (b1, .inl (kC 2, w1, .inl g1))] := hD
  subst hz
  refine lv_if_eq (tgt := 45) hx hb dk_J5_append_3fe6f_21 rfl (fun q => absurd q (by decide)) (fun _ => ?_)
  refine lv_aload_n hx hb dk_J5_append_3fe6f_24 rfl (lv_at hl 0 rfl) ?_
  refine va_get (D := D) (ci := 10) (C := RJ4) (T := TJ4) (N := 4) hx hb hts qwJ4 hown hK hP 0 rfl rfl 0 (by decide) (hts _ (am_tb_at 306 (by decide +kernel) rfl)) (fun _ h9 => h9) rfl dk_J5_append_3fe6f_25 ?_
  refine lv_aload_n hx hb dk_J5_append_3fe6f_28 rfl (lv_at hl 0 rfl) ?_
  refine lv_dup hx hb dk_J5_append_3fe6f_29 rfl ?_
  refine va_get (D := D) (ci := 10) (C := RJ4) (T := TJ4) (N := 4) hx hb hts qwJ4 hown hK hP 0 rfl rfl 3 (by decide) (hts _ (am_tb_at 309 (by decide +kernel) rfl)) (fun _ h9 => h9) rfl dk_J5_append_3fe6f_30 ?_
  refine lv_dup_x1 hx hb dk_J5_append_3fe6f_33 rfl rfl ?_
  refine lv_iconst (v := 1) hx hb dk_J5_append_3fe6f_34 (by decide) ?_
  refine lv_iadd hx hb dk_J5_append_3fe6f_35 ?_
  rw [nI_1]
  refine va_put (D := D) (ci := 10) (v := .int (nI (n + 1))) (ty := .int) (C := RJ4) (T := TJ4) (N := 4) hx hb hts qwJ4 tyJ4 tyJ4_ok nmJ4 hown hK hP hD hS 0 rfl rfl 3 (by decide) (hts _ (am_tb_at 309 (by decide +kernel) rfl)) (fun _ h9 => h9) rfl (by decide +kernel) rfl rfl (Nat.le_of_ble_eq_true rfl) dk_J5_append_3fe6f_36 (fun H locs hP hD hS => ?_)
  have hP : va_P D vwCl [(q, .inr (10, [.ref b1, .int 0, .int z, .int (nI (n + 1))])), (b1, .inl (kC 2, w1, .inl g1))] H := hP
  have hD : va_D A [(q, .inr (10, [.ref b1, .int 0, .int z, .int (nI (n + 1))])), (b1, .inl (kC 2, w1, .inl g1))] := hD
  refine lv_iload_n hx hb dk_J5_append_3fe6f_39 rfl (lv_at hl 1 rfl) ?_
  refine lv_i2b (v := sb_b ch) hx hb dk_J5_append_3fe6f_40 rfl ?_
  refine va_bast hx hb hK hP hD hS 1 2 rfl rfl (vp_in_nI (by omega) (by omega)) dk_J5_append_3fe6f_41 (fun H locs hP hD hS => ?_)
  rw [nI_clamp (n := n) (by omega), show vp_nar .byte (sb_b ch) = sb_b ch from pk_vb _] at hP hD
  have hP : va_P D vwCl [(q, .inr (10, [.ref b1, .int 0, .int z, .int (nI (n + 1))])), (b1, .inl (kC 2, w1, .inl (upd g1 n ((sb_b ch)))))] H := hP
  have hD : va_D A [(q, .inr (10, [.ref b1, .int 0, .int z, .int (nI (n + 1))])), (b1, .inl (kC 2, w1, .inl (upd g1 n ((sb_b ch)))))] := hD
  refine lv_goto (tgt := 75) hx hb dk_J5_append_3fe6f_42 rfl ?_
  refine lv_aload_n hx hb dk_J5_append_3fe6f_75 rfl (lv_at hl 0 rfl) ?_
  have hq : sb_Lat (sb_cat tt n (fun _ => ch)) (n + 1) (upd g1 n (sb_b ch)) := sb_latPut hL (fun j hj => by rw [pk_un (by omega)]; exact hz5 j hj) (fun i hi => ⟨hc, by rw [show i = 0 by omega]; exact pk_us⟩)
  refine W.widen (k := 1) (n := 4000) (by omega) (by omega) ?_
  exact W.aret (v := .ref q) hx hb hr (Or.inl ⟨_, rfl⟩) (Or.inr ⟨_, rfl⟩) (fun t ht hW => ⟨⟨(b1, w1, upd g1 n (sb_b ch)), q, rfl, ⟨⟨hz1, hz3⟩, sb_fitU hz4 (sb_fitB ch), hq⟩, rfl, by rw [ht]; exact hP, hD⟩, hS.F ht⟩) hS.2.2 dk_J5_append_3fe6f_76
theorem dk_J4_append_cf468_0 : decode cJ4_append_cf468 0 = .ok (.aload_n 0, 1) := by decide +kernel
theorem dk_J4_append_cf468_1 : decode cJ4_append_cf468 1 = .ok (.iload_n 1, 1) := by decide +kernel
theorem dk_J4_append_cf468_2 : decode cJ4_append_cf468 2 = .ok (.invokespecial 50, 3) := by decide +kernel
theorem dk_J4_append_cf468_5 : decode cJ4_append_cf468 5 = .ok (.pop, 1) := by decide +kernel
theorem dk_J4_append_cf468_6 : decode cJ4_append_cf468 6 = .ok (.aload_n 0, 1) := by decide +kernel
theorem dk_J4_append_cf468_7 : decode cJ4_append_cf468 7 = .ok (.areturn, 1) := by decide +kernel
set_option maxHeartbeats 4000000 in
set_option maxRecDepth 100000 in
theorem sk_sbC (l : Launch) (D : va_G) (kC : Nat → ClassId) (q b w n : Nat) (z : Int32) (g : Nat → Int32) (ch : Nat) (hc : ch < 256) (tt : Nat → Nat) (h0 : n ≤ w) (h1 : w ≤ 1700) (hf : sb_Fit g) (hL : sb_Lat tt n g) (h2 : n + 1 ≤ 800) (sz : Nat) : Met l yJ4_append_cf468 (.code yJ4_append_cf468 cJ4_append_cf468 2 (some (.object "java/lang/StringBuilder")) :: jk_tb) (jr 13 1 4000) (va_Pc [.ref q, .int (nI ch)] (ws_B D kC js_G [(q, .inr (10, [.ref b, .int 0, .int z, .int (nI n)])), (b, .inl (kC 2, w, .inl g))] sz)) (va_Qr (S := Nat × Nat × (Nat → Int32)) (fun u => (n + 1 ≤ u.2.1 ∧ u.2.1 ≤ 1700) ∧ sb_Fit u.2.2 ∧ sb_Lat (sb_cat tt n (fun _ => ch)) (n + 1) u.2.2) (fun u ra t => ra = q ∧ va_P D vwCl [(q, .inr (10, [.ref u.1, .int 0, .int z, .int (nI (n + 1))])), (u.1, .inl (kC 2, u.2.1, .inl (u.2.2)))] t.heap ∧ va_D (va_A [(q, .inr (10, [.ref b, .int 0, .int z, .int (nI n)])), (b, .inl (kC 2, w, .inl g))] sz) [(q, .inr (10, [.ref u.1, .int 0, .int z, .int (nI (n + 1))])), (u.1, .inl (kC 2, u.2.1, .inl (u.2.2)))]) (va_A [(q, .inr (10, [.ref b, .int 0, .int z, .int (nI n)])), (b, .inl (kC 2, w, .inl g))] sz)) 1 4000 (va_A [(q, .inr (10, [.ref b, .int 0, .int z, .int (nI n)])), (b, .inl (kC 2, w, .inl g))] sz) := by
  refine Met.ofW (cc := cJ4_append_cf468) (maxL := 2) (ret := (some (.object "java/lang/StringBuilder"))) (by decide +kernel) rfl ?_
  intro p e s m args below meth c s₁ B hml hv2
  obtain ⟨rfl, hsz, hP, hK, hD0, hE⟩ := hv2
  have hx := B.exec
  have hb := B.bytes
  have hr := B.returns
  have hlocks := B.notSynchronized
  have hts0 := atoms_spec (ws := (.code yJ4_append_cf468 cJ4_append_cf468 2 (some (.object "java/lang/StringBuilder")) :: jk_tb)) B.pre
  have htj := fun w (hw : w ∈ jk_tb) => hts0 w (List.mem_cons_of_mem _ hw)
  have hts := fun w (hw : w ∈ am_tb) => htj w (jk_in hw)
  have hown : s.vm.findClass yJ4_append_cf468.cls = some m.cls := findClass_of_methodNamed B.named
  subst hsz
  have hD := hD0.self (sz := s.heap.size)
  generalize hAe : va_A [(q, .inr (10, [.ref b, .int 0, .int z, .int (nI n)])), (b, .inl (kC 2, w, .inl g))] s.heap.size = A at hD hE ⊢
  have hA : ∀ q : Nat, s.heap.size ≤ q → A q := fun q h => by rw [← hAe]; exact Or.inr h
  have hP : va_P D vwCl [(q, .inr (10, [.ref b, .int 0, .int z, .int (nI n)])), (b, .inl (kC 2, w, .inl g))] s.heap := hP
  have hS : va_S A s.heap s.heap [] := va_S.rf
  have hl := lv_entry ([.ref q, .int (nI ch)]) (n := 2) (Nat.le_of_ble_eq_true rfl)
  rw [lg_entry_eq]
  generalize (lg_sl ([.ref q, .int (nI ch)]) ++ List.replicate (2 - (lg_sl ([.ref q, .int (nI ch)])).length) Slot.unset).toArray = ls at hl ⊢
  have hl : lv_has ls 2 [(0, .ref q), (1, .int (nI ch))] := hl
  refine lv_aload_n hx hb dk_J4_append_cf468_0 rfl (lv_at hl 0 rfl) ?_
  refine lv_iload_n hx hb dk_J4_append_cf468_1 rfl (lv_at hl 1 rfl) ?_
  have hPc := hP.sub (ws' := [(q, .inr (10, [.ref b, .int 0, .int z, .int (nI n)])), (b, .inl (kC 2, w, .inl g))]) [0, 1] rfl
  have hDc := hD.sub (ws' := [(q, .inr (10, [.ref b, .int 0, .int z, .int (nI n)])), (b, .inl (kC 2, w, .inl g))]) [0, 1] (by decide) rfl
  have hFc := va_free (wc := [(q, .inr (10, [.ref b, .int 0, .int z, .int (nI n)])), (b, .inl (kC 2, w, .inl g))]) hD hS hA [0, 1] rfl
  refine va_callr (va_runSU (hK.1 10 _ rfl).2 (As := [.int (nI ch)]) (rest := []) ⟨hx, hb, hml, hown, hts⟩ (sk_apC l D kC q b w n z g ch hc tt h0 h1 hf hL h2 s.heap.size) (⟨⟨rfl, rfl, (by show 12 + 1 ≤ 13; decide), (by show 8 + (2 + 11) + 48 * 12 ≤ 48 * 13; decide), jk_pay htj (am_tb_at 544 (by decide +kernel) rfl), List.mem_cons_self⟩, (hts _ (am_tb_at 542 (by decide +kernel) rfl)), (hts _ (am_tb_at 1243 (by decide +kernel) rfl)), (hts _ (am_tb_at 318 (by decide +kernel) rfl)), (hts _ (am_tb_at 543 (by decide +kernel) rfl)), (hts _ (am_tb_at 45 (by decide +kernel) rfl)), (hts _ (am_tb_at 544 (by decide +kernel) rfl)), (by decide), (fun sig h => by have h2 : parseMethodDescriptor yJ5_append_3fe6f.desc = some _ := h; have h3 : (parseMethodDescriptor yJ5_append_3fe6f.desc).map (fun d => d.parameters.length) = some 1 := (by decide +kernel); rw [h2] at h3; exact (Option.some.inj h3).symm)⟩ : va_CS _ _ _ _ _ _ _ _ _ _ _ _ _ _) (ws_V Stb_G (va_recv (q := (RJ4, TJ4, 4)) (q0 := 0) hK hP rfl rfl) hPc hK hDc (fun U hU hW => ws_E Stb_G hE hS hU hW hFc)) rfl rfl hl.1 rfl (lv_room (Nat.le_of_ble_eq_true rfl)) dk_J4_append_cf468_2 ⟨(by show 0 + 1 ≤ 1; omega), (by show 0 + 4000 ≤ 4000; omega)⟩) hS (fun q _ h => hFc q h) hFc (fun u ra t H1 locs hte hvm hz hB hsz hkp hS => ?_)
  obtain ⟨hra, hP1, hD1⟩ := hB
  rw [hte] at hP1
  obtain ⟨hP, hD⟩ := va_join (wr := []) (w1 := [(q, .inr (10, [.ref u.1, .int 0, .int z, .int (nI (n + 1))])), (u.1, .inl (kC 2, u.2.1, .inl (u.2.2)))]) hP hD [0, 1] [] rfl rfl (by decide) (by decide) hkp hFc hP1 hD1
  generalize H1 = H at hP hS ⊢
  have hP : va_P D vwCl [(q, .inr (10, [.ref u.1, .int 0, .int z, .int (nI (n + 1))])), (u.1, .inl (kC 2, u.2.1, .inl (u.2.2)))] H := hP
  have hD : va_D A [(q, .inr (10, [.ref u.1, .int 0, .int z, .int (nI (n + 1))])), (u.1, .inl (kC 2, u.2.1, .inl (u.2.2)))] := hD
  refine lv_pop hx hb dk_J4_append_cf468_5 rfl ?_
  refine lv_aload_n hx hb dk_J4_append_cf468_6 rfl (lv_at hl 0 rfl) ?_
  refine W.widen (k := 1) (n := 4000) (by omega) (by omega) ?_
  exact W.aret (v := .ref q) hx hb hr (Or.inl ⟨_, rfl⟩) (Or.inr ⟨_, rfl⟩) (fun t ht hW => ⟨⟨u, q, rfl, hz, rfl, by rw [ht]; exact hP, hD⟩, hS.F ht⟩) hS.2.2 dk_J4_append_cf468_7
