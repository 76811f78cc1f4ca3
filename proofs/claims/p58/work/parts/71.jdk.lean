theorem dk_J5_append_c97b9_0 : decode cJ5_append_c97b9 0 = .ok (.aload_n 0, 1) := by decide +kernel
theorem dk_J5_append_c97b9_1 : decode cJ5_append_c97b9 1 = .ok (.getfield 79, 3) := by decide +kernel
theorem dk_J5_append_c97b9_4 : decode cJ5_append_c97b9 4 = .ok (.istore_n 2, 1) := by decide +kernel
theorem dk_J5_append_c97b9_5 : decode cJ5_append_c97b9 5 = .ok (.iload_n 2, 1) := by decide +kernel
theorem dk_J5_append_c97b9_6 : decode cJ5_append_c97b9 6 = .ok (.iload_n 1, 1) := by decide +kernel
theorem dk_J5_append_c97b9_7 : decode cJ5_append_c97b9 7 = .ok (.invokestatic 245, 3) := by decide +kernel
theorem dk_J5_append_c97b9_10 : decode cJ5_append_c97b9 10 = .ok (.iadd, 1) := by decide +kernel
theorem dk_J5_append_c97b9_11 : decode cJ5_append_c97b9 11 = .ok (.istore_n 3, 1) := by decide +kernel
theorem dk_J5_append_c97b9_12 : decode cJ5_append_c97b9 12 = .ok (.aload_n 0, 1) := by decide +kernel
theorem dk_J5_append_c97b9_13 : decode cJ5_append_c97b9 13 = .ok (.iload_n 3, 1) := by decide +kernel
theorem dk_J5_append_c97b9_14 : decode cJ5_append_c97b9 14 = .ok (.invokevirtual 100, 3) := by decide +kernel
theorem dk_J5_append_c97b9_17 : decode cJ5_append_c97b9 17 = .ok (.aload_n 0, 1) := by decide +kernel
theorem dk_J5_append_c97b9_18 : decode cJ5_append_c97b9 18 = .ok (.invokevirtual 83, 3) := by decide +kernel
theorem dk_J5_append_c97b9_21 : decode cJ5_append_c97b9 21 = .ok (.ifCond .eq 16, 3) := by decide +kernel
theorem dk_J5_append_c97b9_24 : decode cJ5_append_c97b9 24 = .ok (.iload_n 1, 1) := by decide +kernel
theorem dk_J5_append_c97b9_25 : decode cJ5_append_c97b9 25 = .ok (.iload_n 3, 1) := by decide +kernel
theorem dk_J5_append_c97b9_26 : decode cJ5_append_c97b9 26 = .ok (.aload_n 0, 1) := by decide +kernel
theorem dk_J5_append_c97b9_27 : decode cJ5_append_c97b9 27 = .ok (.getfield 15, 3) := by decide +kernel
theorem dk_J5_append_c97b9_30 : decode cJ5_append_c97b9 30 = .ok (.invokestatic 248, 3) := by decide +kernel
theorem dk_J5_append_c97b9_33 : decode cJ5_append_c97b9 33 = .ok (.pop, 1) := by decide +kernel
theorem dk_J5_append_c97b9_34 : decode cJ5_append_c97b9 34 = .ok (.goto 14, 3) := by decide +kernel
theorem dk_J5_append_c97b9_37 : decode cJ5_append_c97b9 37 = .ok (.iload_n 1, 1) := by decide +kernel
theorem dk_J5_append_c97b9_38 : decode cJ5_append_c97b9 38 = .ok (.iload_n 2, 1) := by decide +kernel
theorem dk_J5_append_c97b9_39 : decode cJ5_append_c97b9 39 = .ok (.iload_n 3, 1) := by decide +kernel
theorem dk_J5_append_c97b9_40 : decode cJ5_append_c97b9 40 = .ok (.aload_n 0, 1) := by decide +kernel
theorem dk_J5_append_c97b9_41 : decode cJ5_append_c97b9 41 = .ok (.getfield 15, 3) := by decide +kernel
theorem dk_J5_append_c97b9_44 : decode cJ5_append_c97b9 44 = .ok (.invokestatic 251, 3) := by decide +kernel
theorem dk_J5_append_c97b9_47 : decode cJ5_append_c97b9 47 = .ok (.pop, 1) := by decide +kernel
theorem dk_J5_append_c97b9_48 : decode cJ5_append_c97b9 48 = .ok (.aload_n 0, 1) := by decide +kernel
theorem dk_J5_append_c97b9_49 : decode cJ5_append_c97b9 49 = .ok (.iload_n 3, 1) := by decide +kernel
theorem dk_J5_append_c97b9_50 : decode cJ5_append_c97b9 50 = .ok (.putfield 79, 3) := by decide +kernel
theorem dk_J5_append_c97b9_53 : decode cJ5_append_c97b9 53 = .ok (.aload_n 0, 1) := by decide +kernel
theorem dk_J5_append_c97b9_54 : decode cJ5_append_c97b9 54 = .ok (.areturn, 1) := by decide +kernel
set_option maxHeartbeats 4000000 in
set_option maxRecDepth 100000 in
theorem sk_apI (l : Launch) (D : va_G) (kC : Nat → ClassId) (q b w n : Nat) (z : Int32) (g : Nat → Int32) (v : Nat) (hv : v ≤ 100) (tt : Nat → Nat) (h0 : n ≤ w) (h1 : w ≤ 1700) (hf : sb_Fit g) (hL : sb_Lat tt n g) (h2 : n + sb_dg v ≤ 800) (sz : Nat) : Met l yJ5_append_c97b9 (.code yJ5_append_c97b9 cJ5_append_c97b9 4 (some (.object "java/lang/AbstractStringBuilder")) :: jk_tb) (jr 12 1 4000) (va_Pc [.ref q, .int (nI v)] (ws_B D kC js_G [(q, .inr (10, [.ref b, .int 0, .int z, .int (nI n)])), (b, .inl (kC 2, w, .inl g))] sz)) (va_Qr (S := Nat × Nat × (Nat → Int32)) (fun u => (n + sb_dg v ≤ u.2.1 ∧ u.2.1 ≤ 1700) ∧ sb_Fit u.2.2 ∧ sb_Lat (sb_cat tt n (sb_dec v)) (n + sb_dg v) u.2.2) (fun u ra t => ra = q ∧ va_P D vwCl [(q, .inr (10, [.ref u.1, .int 0, .int z, .int (nI (n + sb_dg v))])), (u.1, .inl (kC 2, u.2.1, .inl (u.2.2)))] t.heap ∧ va_D (va_A [(q, .inr (10, [.ref b, .int 0, .int z, .int (nI n)])), (b, .inl (kC 2, w, .inl g))] sz) [(q, .inr (10, [.ref u.1, .int 0, .int z, .int (nI (n + sb_dg v))])), (u.1, .inl (kC 2, u.2.1, .inl (u.2.2)))]) (va_A [(q, .inr (10, [.ref b, .int 0, .int z, .int (nI n)])), (b, .inl (kC 2, w, .inl g))] sz)) 1 4000 (va_A [(q, .inr (10, [.ref b, .int 0, .int z, .int (nI n)])), (b, .inl (kC 2, w, .inl g))] sz) := by
  refine Met.ofW (cc := cJ5_append_c97b9) (maxL := 4) (ret := (some (.object "java/lang/AbstractStringBuilder"))) (by decide +kernel) rfl ?_
  intro p e s m args below meth c s₁ B hml hv2
  obtain ⟨rfl, hsz, hP, hK, hD0, hE⟩ := hv2
  have hx := B.exec
  have hb := B.bytes
  have hr := B.returns
  have hlocks := B.notSynchronized
  have hts0 := atoms_spec (ws := (.code yJ5_append_c97b9 cJ5_append_c97b9 4 (some (.object "java/lang/AbstractStringBuilder")) :: jk_tb)) B.pre
  have htj := fun w (hw : w ∈ jk_tb) => hts0 w (List.mem_cons_of_mem _ hw)
  have hts := fun w (hw : w ∈ am_tb) => htj w (jk_in hw)
  have hown : s.vm.findClass yJ5_append_c97b9.cls = some m.cls := findClass_of_methodNamed B.named
  subst hsz
  have hD := hD0.self (sz := s.heap.size)
  generalize hAe : va_A [(q, .inr (10, [.ref b, .int 0, .int z, .int (nI n)])), (b, .inl (kC 2, w, .inl g))] s.heap.size = A at hD hE ⊢
  have hA : ∀ q : Nat, s.heap.size ≤ q → A q := fun q h => by rw [← hAe]; exact Or.inr h
  have hP : va_P D vwCl [(q, .inr (10, [.ref b, .int 0, .int z, .int (nI n)])), (b, .inl (kC 2, w, .inl g))] s.heap := hP
  have hS : va_S A s.heap s.heap [] := va_S.rf
  have hl := lv_entry ([.ref q, .int (nI v)]) (n := 4) (Nat.le_of_ble_eq_true rfl)
  rw [lg_entry_eq]
  generalize (lg_sl ([.ref q, .int (nI v)]) ++ List.replicate (4 - (lg_sl ([.ref q, .int (nI v)])).length) Slot.unset).toArray = ls at hl ⊢
  have hl : lv_has ls 4 [(0, .ref q), (1, .int (nI v))] := hl
  obtain ⟨hd1, hd2, hd3⟩ := dec_le hv
  refine lv_aload_n hx hb dk_J5_append_c97b9_0 rfl (lv_at hl 0 rfl) ?_
  refine va_get (D := D) (ci := 10) (C := RJ4) (T := TJ4) (N := 4) hx hb hts qwJ4 hown hK hP 0 rfl rfl 3 (by decide) (hts _ (am_tb_at 309 (by decide +kernel) rfl)) (fun _ h9 => h9) rfl dk_J5_append_c97b9_1 ?_
  refine lv_istore_n (lv' := [(2, .int (nI n)), (0, .ref q), (1, .int (nI v))]) hx hb dk_J5_append_c97b9_4 rfl hl (by decide) rfl (fun ls hl => ?_)
  refine lv_iload_n hx hb dk_J5_append_c97b9_5 rfl (lv_at hl 0 rfl) ?_
  refine lv_iload_n hx hb dk_J5_append_c97b9_6 rfl (lv_at hl 2 rfl) ?_
  have hPc : va_P D vwCl [] s.heap := ws_nP
  have hDc : va_D A [] := ws_nD
  have hFc : ∀ q, va_A [] s.heap.size q → A q := fun q h => hA q (Nat.le_trans hS.1 (ws_nA h))
  refine va_calli (va_runS (As := [.int (nI v)]) (rest := [.int (nI n)]) ⟨hx, hb, hml, hown, hts⟩ (sk_size l D kC v hv s.heap.size) ⟨am_callB (R := jr 12 1 4000) (index := 245) 1 (jk_pay htj (am_tb_at 452 (by decide +kernel) rfl)) (hts _ (am_tb_at 452 (by decide +kernel) rfl)) rfl rfl rfl (hts _ (am_tb_at 55 (by decide +kernel) rfl)) (hts _ (am_tb_at 450 (by decide +kernel) rfl)) ⟨by decide, by decide, by decide +kernel⟩ ⟨(by show 1 + 1 ≤ 12; decide), (by show 8 + (4 + 11) + 48 * 1 ≤ 48 * 12; decide)⟩, (hts _ (am_tb_at 451 (by decide +kernel) rfl))⟩ (ws_S Stb_G hPc hK hDc (fun U hU hW => ws_E Stb_G hE hS hU hW hFc)) rfl rfl hl.1 rfl (lv_room (Nat.le_of_ble_eq_true rfl)) dk_J5_append_c97b9_7 ⟨(by show 0 + 0 ≤ 1; omega), (by show 0 + 0 ≤ 4000; omega)⟩) hS (fun q _ h => hFc q h) hFc (fun r0 u t H1 locs hte hvm hz hB hsz hkp hS => ?_)
  have hP := ws_kept hP hkp
  generalize H1 = H at hP hS ⊢
  have hP : va_P D vwCl [(q, .inr (10, [.ref b, .int 0, .int z, .int (nI n)])), (b, .inl (kC 2, w, .inl g))] H := hP
  have hD : va_D A [(q, .inr (10, [.ref b, .int 0, .int z, .int (nI n)])), (b, .inl (kC 2, w, .inl g))] := hD
  subst hz
  refine lv_iadd hx hb dk_J5_append_c97b9_10 ?_
  rw [show (((nI n) + (nI (sb_dg v))) : Int32) = nI (n + sb_dg v) from nI_add _ _]
  refine lv_istore_n (lv' := [(3, .int (nI (n + sb_dg v))), (2, .int (nI n)), (0, .ref q), (1, .int (nI v))]) hx hb dk_J5_append_c97b9_11 rfl hl (by decide) rfl (fun ls hl => ?_)
  refine lv_aload_n hx hb dk_J5_append_c97b9_12 rfl (lv_at hl 2 rfl) ?_
  refine lv_iload_n hx hb dk_J5_append_c97b9_13 rfl (lv_at hl 0 rfl) ?_
  have hPc := hP.sub (ws' := [(q, .inr (10, [.ref b, .int 0, .int z, .int (nI n)])), (b, .inl (kC 2, w, .inl g))]) [0, 1] rfl
  have hDc := hD.sub (ws' := [(q, .inr (10, [.ref b, .int 0, .int z, .int (nI n)])), (b, .inl (kC 2, w, .inl g))]) [0, 1] (by decide) rfl
  have hFc := va_free (wc := [(q, .inr (10, [.ref b, .int 0, .int z, .int (nI n)])), (b, .inl (kC 2, w, .inl g))]) hD hS hA [0, 1] rfl
  refine va_callv (va_runU (As := [.int (nI (n + sb_dg v))]) (rest := []) ⟨hx, hb, hml, hown, hts⟩ (sk_ens l D kC q b w n z g (n + sb_dg v) h0 h1 (by omega) hf H.size) (⟨⟨rfl, rfl, (by show 8 + 1 ≤ 12; decide), (by show 8 + (3 + 11) + 48 * 8 ≤ 48 * 12; decide), jk_pay htj (am_tb_at 334 (by decide +kernel) rfl), List.mem_cons_self⟩, (hts _ (am_tb_at 334 (by decide +kernel) rfl)), (hts _ (am_tb_at 45 (by decide +kernel) rfl)), ⟨by decide, by decide⟩, (fun sig h => by have h2 : parseMethodDescriptor yJ5_ensureCapacityInternal_d00df.desc = some _ := h; have h3 : (parseMethodDescriptor yJ5_ensureCapacityInternal_d00df.desc).map (fun d => d.parameters.length) = some 1 := (by decide +kernel); rw [h2] at h3; exact (Option.some.inj h3).symm), (hts _ (am_tb_at 331 (by decide +kernel) rfl)), (hts _ (am_tb_at 1237 (by decide +kernel) rfl)), (va_Decl.of (x := yJ5_ensureCapacityInternal_d00df) (b := cJ5_ensureCapacityInternal_d00df) (m := 3) (ret := none) (hts _ (am_tb_at 333 (by decide +kernel) rfl)) (hts _ (am_tb_at 334 (by decide +kernel) rfl))), (htj _ (List.mem_append_left _ (List.mem_of_getElem? (i := 0) rfl))), (hts _ (am_tb_at 333 (by decide +kernel) rfl))⟩ : va_CU _ _ _ _ "java/lang/StringBuilder" "java/lang/AbstractStringBuilder" 100 yJ5_ensureCapacityInternal_d00df yJ5_ensureCapacityInternal_d00df _ _ _ _ _ _ _ _) (ws_V Stb_G (va_recv (q := (RJ4, TJ4, 4)) (q0 := 0) hK hP rfl rfl) hPc hK hDc (fun U hU hW => ws_E Stb_G hE hS hU hW hFc)) rfl rfl hl.1 rfl (lv_room (Nat.le_of_ble_eq_true rfl)) dk_J5_append_c97b9_14 ⟨(by show 0 + 0 + 1 ≤ 1; omega), (by show 0 + 0 + 4000 ≤ 4000; omega)⟩) hS (fun q _ h => hFc q h) hFc (fun u t H1 locs hte hvm hz hB hsz hkp hS => ?_)
  obtain ⟨b1, w1, g1⟩ := u
  obtain ⟨hP1, hD1⟩ := hB
  rw [hte] at hP1
  obtain ⟨hP, hD⟩ := va_join (wr := []) (w1 := [(q, .inr (10, [.ref b1, .int 0, .int z, .int (nI n)])), (b1, .inl (kC 2, w1, .inl g1))]) hP hD [0, 1] [] rfl rfl (by decide) (by decide) hkp hFc hP1 hD1
  generalize H1 = H at hP hS ⊢
  have hP : va_P D vwCl [(q, .inr (10, [.ref b1, .int 0, .int z, .int (nI n)])), (b1, .inl (kC 2, w1, .inl g1))] H := hP
  have hD : va_D A [(q, .inr (10, [.ref b1, .int 0, .int z, .int (nI n)])), (b1, .inl (kC 2, w1, .inl g1))] := hD
  dsimp only at hz
  obtain ⟨⟨hz1, hz2, hz3⟩, hz4, hz5⟩ := hz
  refine lv_aload_n hx hb dk_J5_append_c97b9_17 rfl (lv_at hl 2 rfl) ?_
  have hPc : va_P D vwCl [] H := ws_nP
  have hDc : va_D A [] := ws_nD
  have hFc : ∀ q, va_A [] H.size q → A q := fun q h => hA q (Nat.le_trans hS.1 (ws_nA h))
  refine va_calli (va_runU (As := []) (rest := []) ⟨hx, hb, hml, hown, hts⟩ (sk_isLat l D kC q b1 w1 n g1 H.size) (⟨⟨rfl, rfl, (by show 2 + 1 ≤ 12; decide), (by show 8 + (1 + 11) + 48 * 2 ≤ 48 * 12; decide), jk_pay htj (am_tb_at 370 (by decide +kernel) rfl), List.mem_cons_self⟩, (hts _ (am_tb_at 370 (by decide +kernel) rfl)), (hts _ (am_tb_at 45 (by decide +kernel) rfl)), ⟨by decide, by decide⟩, (fun sig h => by have h2 : parseMethodDescriptor yJ5_isLatin1_aae02.desc = some _ := h; have h3 : (parseMethodDescriptor yJ5_isLatin1_aae02.desc).map (fun d => d.parameters.length) = some 0 := (by decide +kernel); rw [h2] at h3; exact (Option.some.inj h3).symm), (hts _ (am_tb_at 366 (by decide +kernel) rfl)), (hts _ (am_tb_at 368 (by decide +kernel) rfl)), (va_Decl.of (x := yJ5_isLatin1_aae02) (b := cJ5_isLatin1_aae02) (m := 1) (ret := (some .boolean)) (hts _ (am_tb_at 367 (by decide +kernel) rfl)) (hts _ (am_tb_at 370 (by decide +kernel) rfl))), (hts _ (am_tb_at 369 (by decide +kernel) rfl)), (hts _ (am_tb_at 367 (by decide +kernel) rfl))⟩ : va_CU _ _ _ _ "java/lang/StringBuilder" "java/lang/AbstractStringBuilder" 83 yJ5_isLatin1_aae02 yJ5_isLatin1_aae02 _ _ _ _ _ _ _ _) (ws_V (Stb_and Stb_G (Stb_B kC q b1 w1 n g1)) (va_recv (q := (RJ4, TJ4, 4)) (q0 := 0) hK hP rfl rfl) hPc hK hDc (fun U hU hW => ⟨ws_E Stb_G hE hS hU hW hFc, ws_N (Stb_B kC q b1 w1 n g1) (ro_B hts hK hP 0 1 rfl rfl (ws_n0 hP 0 rfl) (ws_n0 hP 1 rfl)) hU hW⟩)) rfl rfl hl.1 rfl (lv_room (Nat.le_of_ble_eq_true rfl)) dk_J5_append_c97b9_18 ⟨(by show 0 + 0 + 1 + 0 ≤ 1; omega), (by show 0 + 0 + 4000 + 0 ≤ 4000; omega)⟩) hS (fun q _ h => hFc q h) hFc (fun r0 u t H1 locs hte hvm hz hB hsz hkp hS => ?_)
  have hP := ws_kept hP hkp
  generalize H1 = H at hP hS ⊢
  have hP : va_P D vwCl [(q, .inr (10, [.ref b1, .int 0, .int z, .int (nI n)])), (b1, .inl (kC 2, w1, .inl g1))] H := hP
  have hD : va_D A [(q, .inr (10, [.ref b1, .int 0, .int z, .int (nI n)])), (b1, .inl (kC 2, w1, .inl g1))] := hD
  subst hz
  refine lv_if_eq (tgt := 37) hx hb dk_J5_append_c97b9_21 rfl (fun q => absurd q (by decide)) (fun _ => ?_)
  refine lv_iload_n hx hb dk_J5_append_c97b9_24 rfl (lv_at hl 3 rfl) ?_
  refine lv_iload_n hx hb dk_J5_append_c97b9_25 rfl (lv_at hl 0 rfl) ?_
  refine lv_aload_n hx hb dk_J5_append_c97b9_26 rfl (lv_at hl 2 rfl) ?_
  refine va_get (D := D) (ci := 10) (C := RJ4) (T := TJ4) (N := 4) hx hb hts qwJ4 hown hK hP 0 rfl rfl 0 (by decide) (hts _ (am_tb_at 306 (by decide +kernel) rfl)) (fun _ h9 => h9) rfl dk_J5_append_c97b9_27 ?_
  have hPc := hP.sub (ws' := [(b1, .inl (kC 2, w1, .inl g1))]) [1] rfl
  have hDc := hD.sub (ws' := [(b1, .inl (kC 2, w1, .inl g1))]) [1] (by decide) rfl
  have hFc := va_free (wc := [(b1, .inl (kC 2, w1, .inl g1))]) hD hS hA [1] rfl
  refine va_calli (va_runS (As := [.int (nI v), .int (nI (n + sb_dg v)), .ref b1]) (rest := []) ⟨hx, hb, hml, hown, hts⟩ (sk_gc l D kC v b1 w1 n g1 hz4 hv hz1 (by omega) H.size) ⟨am_callB (R := jr 12 1 4000) (index := 248) 3 (jk_pay htj (am_tb_at 455 (by decide +kernel) rfl)) (hts _ (am_tb_at 455 (by decide +kernel) rfl)) rfl rfl rfl (hts _ (am_tb_at 55 (by decide +kernel) rfl)) (hts _ (am_tb_at 453 (by decide +kernel) rfl)) ⟨by decide, by decide, by decide +kernel⟩ ⟨(by show 1 + 1 ≤ 12; decide), (by show 8 + (7 + 11) + 48 * 1 ≤ 48 * 12; decide)⟩, (hts _ (am_tb_at 454 (by decide +kernel) rfl))⟩ (ws_S Stb_G hPc hK hDc (fun U hU hW => ws_E Stb_G hE hS hU hW hFc)) rfl rfl hl.1 rfl (lv_room (Nat.le_of_ble_eq_true rfl)) dk_J5_append_c97b9_30 ⟨(by show 0 + 0 + 1 + 0 + 0 ≤ 1; omega), (by show 0 + 0 + 4000 + 0 + 0 ≤ 4000; omega)⟩) hS (fun q _ h => hFc q h) hFc (fun r0 u t H1 locs hte hvm hz hB hsz hkp hS => ?_)
  obtain ⟨hP1, hD1⟩ := hB
  rw [hte] at hP1
  obtain ⟨hP, hD⟩ := va_join (wr := [(q, .inr (10, [.ref b1, .int 0, .int z, .int (nI n)]))]) (w1 := [(b1, .inl (kC 2, w1, .inl u))]) hP hD [1] [0] rfl rfl (by decide) (by decide) hkp hFc hP1 hD1
  generalize H1 = H at hP hS ⊢
  have hP : va_P D vwCl [(q, .inr (10, [.ref b1, .int 0, .int z, .int (nI n)])), (b1, .inl (kC 2, w1, .inl u))] H := hP
  have hD : va_D A [(q, .inr (10, [.ref b1, .int 0, .int z, .int (nI n)])), (b1, .inl (kC 2, w1, .inl u))] := hD
  refine lv_pop hx hb dk_J5_append_c97b9_33 rfl ?_
  refine lv_goto (tgt := 48) hx hb dk_J5_append_c97b9_34 rfl ?_
  refine lv_aload_n hx hb dk_J5_append_c97b9_48 rfl (lv_at hl 2 rfl) ?_
  refine lv_iload_n hx hb dk_J5_append_c97b9_49 rfl (lv_at hl 0 rfl) ?_
  refine va_put (D := D) (ci := 10) (v := .int (nI (n + sb_dg v))) (ty := .int) (C := RJ4) (T := TJ4) (N := 4) hx hb hts qwJ4 tyJ4 tyJ4_ok nmJ4 hown hK hP hD hS 0 rfl rfl 3 (by decide) (hts _ (am_tb_at 309 (by decide +kernel) rfl)) (fun _ h9 => h9) rfl (by decide +kernel) rfl rfl (Nat.le_of_ble_eq_true rfl) dk_J5_append_c97b9_50 (fun H locs hP hD hS => ?_)
  have hP : va_P D vwCl [(q, .inr (10, [.ref b1, .int 0, .int z, .int (nI (n + sb_dg v))])), (b1, .inl (kC 2, w1, .inl u))] H := hP
  have hD : va_D A [(q, .inr (10, [.ref b1, .int 0, .int z, .int (nI (n + sb_dg v))])), (b1, .inl (kC 2, w1, .inl u))] := hD
  refine lv_aload_n hx hb dk_J5_append_c97b9_53 rfl (lv_at hl 2 rfl) ?_
  have hq : sb_Lat (sb_cat tt n (sb_dec v)) (n + sb_dg v) u := sb_latPut hL (fun j hj => (hz.2.1 j hj).trans (hz5 j hj)) (fun i hi => ⟨hd3 i, hz.2.2 i hi⟩)
  refine W.widen (k := 1) (n := 4000) (by omega) (by omega) ?_
  exact W.aret (v := .ref q) hx hb hr (Or.inl ⟨_, rfl⟩) (Or.inr ⟨_, rfl⟩) (fun t ht hW => ⟨⟨(b1, w1, u), q, rfl, ⟨⟨hz1, hz3⟩, hz.1, hq⟩, rfl, by rw [ht]; exact hP, hD⟩, hS.F ht⟩) hS.2.2 dk_J5_append_c97b9_54
theorem dk_J4_append_bf812_0 : decode cJ4_append_bf812 0 = .ok (.aload_n 0, 1) := by decide +kernel
theorem dk_J4_append_bf812_1 : decode cJ4_append_bf812 1 = .ok (.iload_n 1, 1) := by decide +kernel
theorem dk_J4_append_bf812_2 : decode cJ4_append_bf812 2 = .ok (.invokespecial 53, 3) := by decide +kernel
theorem dk_J4_append_bf812_5 : decode cJ4_append_bf812 5 = .ok (.pop, 1) := by decide +kernel
theorem dk_J4_append_bf812_6 : decode cJ4_append_bf812 6 = .ok (.aload_n 0, 1) := by decide +kernel
theorem dk_J4_append_bf812_7 : decode cJ4_append_bf812 7 = .ok (.areturn, 1) := by decide +kernel
set_option maxHeartbeats 4000000 in
set_option maxRecDepth 100000 in
theorem sk_sbI (l : Launch) (D : va_G) (kC : Nat → ClassId) (q b w n : Nat) (z : Int32) (g : Nat → Int32) (v : Nat) (hv : v ≤ 100) (tt : Nat → Nat) (h0 : n ≤ w) (h1 : w ≤ 1700) (hf : sb_Fit g) (hL : sb_Lat tt n g) (h2 : n + sb_dg v ≤ 800) (sz : Nat) : Met l yJ4_append_bf812 (.code yJ4_append_bf812 cJ4_append_bf812 2 (some (.object "java/lang/StringBuilder")) :: jk_tb) (jr 13 1 4000) (va_Pc [.ref q, .int (nI v)] (ws_B D kC js_G [(q, .inr (10, [.ref b, .int 0, .int z, .int (nI n)])), (b, .inl (kC 2, w, .inl g))] sz)) (va_Qr (S := Nat × Nat × (Nat → Int32)) (fun u => (n + sb_dg v ≤ u.2.1 ∧ u.2.1 ≤ 1700) ∧ sb_Fit u.2.2 ∧ sb_Lat (sb_cat tt n (sb_dec v)) (n + sb_dg v) u.2.2) (fun u ra t => ra = q ∧ va_P D vwCl [(q, .inr (10, [.ref u.1, .int 0, .int z, .int (nI (n + sb_dg v))])), (u.1, .inl (kC 2, u.2.1, .inl (u.2.2)))] t.heap ∧ va_D (va_A [(q, .inr (10, [.ref b, .int 0, .int z, .int (nI n)])), (b, .inl (kC 2, w, .inl g))] sz) [(q, .inr (10, [.ref u.1, .int 0, .int z, .int (nI (n + sb_dg v))])), (u.1, .inl (kC 2, u.2.1, .inl (u.2.2)))]) (va_A [(q, .inr (10, [.ref b, .int 0, .int z, .int (nI n)])), (b, .inl (kC 2, w, .inl g))] sz)) 1 4000 (va_A [(q, .inr (10, [.ref b, .int 0, .int z, .int (nI n)])), (b, .inl (kC 2, w, .inl g))] sz) := by
  refine Met.ofW (cc := cJ4_append_bf812) (maxL := 2) (ret := (some (.object "java/lang/StringBuilder"))) (by decide +kernel) rfl ?_
  intro p e s m args below meth c s₁ B hml hv2
  obtain ⟨rfl, hsz, hP, hK, hD0, hE⟩ := hv2
  have hx := B.exec
  have hb := B.bytes
  have hr := B.returns
  have hlocks := B.notSynchronized
  have hts0 := atoms_spec (ws := (.code yJ4_append_bf812 cJ4_append_bf812 2 (some (.object "java/lang/StringBuilder")) :: jk_tb)) B.pre
  have htj := fun w (hw : w ∈ jk_tb) => hts0 w (List.mem_cons_of_mem _ hw)
  have hts := fun w (hw : w ∈ am_tb) => htj w (jk_in hw)
  have hown : s.vm.findClass yJ4_append_bf812.cls = some m.cls := findClass_of_methodNamed B.named
  subst hsz
  have hD := hD0.self (sz := s.heap.size)
  generalize hAe : va_A [(q, .inr (10, [.ref b, .int 0, .int z, .int (nI n)])), (b, .inl (kC 2, w, .inl g))] s.heap.size = A at hD hE ⊢
  have hA : ∀ q : Nat, s.heap.size ≤ q → A q := fun q h => by rw [← hAe]; exact Or.inr h
  have hP : va_P D vwCl [(q, .inr (10, [.ref b, .int 0, .int z, .int (nI n)])), (b, .inl (kC 2, w, .inl g))] s.heap := hP
  have hS : va_S A s.heap s.heap [] := va_S.rf
  have hl := lv_entry ([.ref q, .int (nI v)]) (n := 2) (Nat.le_of_ble_eq_true rfl)
  rw [lg_entry_eq]
  generalize (lg_sl ([.ref q, .int (nI v)]) ++ List.replicate (2 - (lg_sl ([.ref q, .int (nI v)])).length) Slot.unset).toArray = ls at hl ⊢
  have hl : lv_has ls 2 [(0, .ref q), (1, .int (nI v))] := hl
  refine lv_aload_n hx hb dk_J4_append_bf812_0 rfl (lv_at hl 0 rfl) ?_
  refine lv_iload_n hx hb dk_J4_append_bf812_1 rfl (lv_at hl 1 rfl) ?_
  have hPc := hP.sub (ws' := [(q, .inr (10, [.ref b, .int 0, .int z, .int (nI n)])), (b, .inl (kC 2, w, .inl g))]) [0, 1] rfl
  have hDc := hD.sub (ws' := [(q, .inr (10, [.ref b, .int 0, .int z, .int (nI n)])), (b, .inl (kC 2, w, .inl g))]) [0, 1] (by decide) rfl
  have hFc := va_free (wc := [(q, .inr (10, [.ref b, .int 0, .int z, .int (nI n)])), (b, .inl (kC 2, w, .inl g))]) hD hS hA [0, 1] rfl
  refine va_callr (va_runSU (hK.1 10 _ rfl).2 (As := [.int (nI v)]) (rest := []) ⟨hx, hb, hml, hown, hts⟩ (sk_apI l D kC q b w n z g v hv tt h0 h1 hf hL h2 s.heap.size) (⟨⟨rfl, rfl, (by show 12 + 1 ≤ 13; decide), (by show 8 + (4 + 11) + 48 * 12 ≤ 48 * 13; decide), jk_pay htj (am_tb_at 449 (by decide +kernel) rfl), List.mem_cons_self⟩, (hts _ (am_tb_at 447 (by decide +kernel) rfl)), (hts _ (am_tb_at 1242 (by decide +kernel) rfl)), (hts _ (am_tb_at 318 (by decide +kernel) rfl)), (hts _ (am_tb_at 448 (by decide +kernel) rfl)), (hts _ (am_tb_at 45 (by decide +kernel) rfl)), (hts _ (am_tb_at 449 (by decide +kernel) rfl)), (by decide), (fun sig h => by have h2 : parseMethodDescriptor yJ5_append_c97b9.desc = some _ := h; have h3 : (parseMethodDescriptor yJ5_append_c97b9.desc).map (fun d => d.parameters.length) = some 1 := (by decide +kernel); rw [h2] at h3; exact (Option.some.inj h3).symm)⟩ : va_CS _ _ _ _ _ _ _ _ _ _ _ _ _ _) (ws_V Stb_G (va_recv (q := (RJ4, TJ4, 4)) (q0 := 0) hK hP rfl rfl) hPc hK hDc (fun U hU hW => ws_E Stb_G hE hS hU hW hFc)) rfl rfl hl.1 rfl (lv_room (Nat.le_of_ble_eq_true rfl)) dk_J4_append_bf812_2 ⟨(by show 0 + 1 ≤ 1; omega), (by show 0 + 4000 ≤ 4000; omega)⟩) hS (fun q _ h => hFc q h) hFc (fun u ra t H1 locs hte hvm hz hB hsz hkp hS => ?_)
  obtain ⟨hra, hP1, hD1⟩ := hB
  rw [hte] at hP1
  obtain ⟨hP, hD⟩ := va_join (wr := []) (w1 := [(q, .inr (10, [.ref u.1, .int 0, .int z, .int (nI (n + sb_dg v))])), (u.1, .inl (kC 2, u.2.1, .inl (u.2.2)))]) hP hD [0, 1] [] rfl rfl (by decide) (by decide) hkp hFc hP1 hD1
  generalize H1 = H at hP hS ⊢
  have hP : va_P D vwCl [(q, .inr (10, [.ref u.1, .int 0, .int z, .int (nI (n + sb_dg v))])), (u.1, .inl (kC 2, u.2.1, .inl (u.2.2)))] H := hP
  have hD : va_D A [(q, .inr (10, [.ref u.1, .int 0, .int z, .int (nI (n + sb_dg v))])), (u.1, .inl (kC 2, u.2.1, .inl (u.2.2)))] := hD
  refine lv_pop hx hb dk_J4_append_bf812_5 rfl ?_
  refine lv_aload_n hx hb dk_J4_append_bf812_6 rfl (lv_at hl 0 rfl) ?_
  refine W.widen (k := 1) (n := 4000) (by omega) (by omega) ?_
  exact W.aret (v := .ref q) hx hb hr (Or.inl ⟨_, rfl⟩) (Or.inr ⟨_, rfl⟩) (fun t ht hW => ⟨⟨u, q, rfl, hz, rfl, by rw [ht]; exact hP, hD⟩, hS.F ht⟩) hS.2.2 dk_J4_append_bf812_7
theorem dk_J5_init_d00df_0 : decode cJ5_init_d00df 0 = .ok (.aload_n 0, 1) := by decide +kernel
theorem dk_J5_init_d00df_1 : decode cJ5_init_d00df 1 = .ok (.invokespecial 3, 3) := by decide +kernel
theorem dk_J5_init_d00df_4 : decode cJ5_init_d00df 4 = .ok (.getstatic 18, 3) := by decide +kernel
theorem dk_J5_init_d00df_7 : decode cJ5_init_d00df 7 = .ok (.ifCond .eq 18, 3) := by decide +kernel
theorem dk_J5_init_d00df_10 : decode cJ5_init_d00df 10 = .ok (.aload_n 0, 1) := by decide +kernel
theorem dk_J5_init_d00df_11 : decode cJ5_init_d00df 11 = .ok (.iload_n 1, 1) := by decide +kernel
theorem dk_J5_init_d00df_12 : decode cJ5_init_d00df 12 = .ok (.newarray .byte, 2) := by decide +kernel
theorem dk_J5_init_d00df_14 : decode cJ5_init_d00df 14 = .ok (.putfield 15, 3) := by decide +kernel
theorem dk_J5_init_d00df_17 : decode cJ5_init_d00df 17 = .ok (.aload_n 0, 1) := by decide +kernel
theorem dk_J5_init_d00df_18 : decode cJ5_init_d00df 18 = .ok (.iconst 0, 1) := by decide +kernel
theorem dk_J5_init_d00df_19 : decode cJ5_init_d00df 19 = .ok (.putfield 22, 3) := by decide +kernel
theorem dk_J5_init_d00df_22 : decode cJ5_init_d00df 22 = .ok (.goto 16, 3) := by decide +kernel
theorem dk_J5_init_d00df_25 : decode cJ5_init_d00df 25 = .ok (.aload_n 0, 1) := by decide +kernel
theorem dk_J5_init_d00df_26 : decode cJ5_init_d00df 26 = .ok (.iload_n 1, 1) := by decide +kernel
theorem dk_J5_init_d00df_27 : decode cJ5_init_d00df 27 = .ok (.invokestatic 26, 3) := by decide +kernel
theorem dk_J5_init_d00df_30 : decode cJ5_init_d00df 30 = .ok (.putfield 15, 3) := by decide +kernel
theorem dk_J5_init_d00df_33 : decode cJ5_init_d00df 33 = .ok (.aload_n 0, 1) := by decide +kernel
theorem dk_J5_init_d00df_34 : decode cJ5_init_d00df 34 = .ok (.iconst 1, 1) := by decide +kernel
theorem dk_J5_init_d00df_35 : decode cJ5_init_d00df 35 = .ok (.putfield 22, 3) := by decide +kernel
theorem dk_J5_init_d00df_38 : decode cJ5_init_d00df 38 = .ok (.return_, 1) := by decide +kernel
set_option maxHeartbeats 4000000 in
set_option maxRecDepth 100000 in
theorem sk_asbN (l : Launch) (D : va_G) (kC : Nat → ClassId) (q : Nat) (sz : Nat) : Met l yJ5_init_d00df (.code yJ5_init_d00df cJ5_init_d00df 2 none :: jk_tb) (jr 3 1 4000) (va_Pc [.ref q, .int 16] (ws_B D kC js_G [(q, .inr (10, [.null, .int 0, .int 0, .int 0]))] sz)) (va_Qv (S := Nat) (fun _ => True) (fun b t => va_P D vwCl [(q, .inr (10, [.ref b, .int 0, .int 0, .int (nI 0)])), (b, .inl (kC 2, 16, .inl (fun _ => 0)))] t.heap ∧ va_D (va_A [(q, .inr (10, [.null, .int 0, .int 0, .int 0]))] sz) [(q, .inr (10, [.ref b, .int 0, .int 0, .int (nI 0)])), (b, .inl (kC 2, 16, .inl (fun _ => 0)))]) (va_A [(q, .inr (10, [.null, .int 0, .int 0, .int 0]))] sz)) 1 4000 (va_A [(q, .inr (10, [.null, .int 0, .int 0, .int 0]))] sz) := by
  refine Met.ofW (cc := cJ5_init_d00df) (maxL := 2) (ret := none) (by decide +kernel) rfl ?_
  intro p e s m args below meth c s₁ B hml hv2
  obtain ⟨rfl, hsz, hP, hK, hD0, hE⟩ := hv2
  have hx := B.exec
  have hb := B.bytes
  have hr := B.returns
  have hlocks := B.notSynchronized
  have hts0 := atoms_spec (ws := (.code yJ5_init_d00df cJ5_init_d00df 2 none :: jk_tb)) B.pre
  have htj := fun w (hw : w ∈ jk_tb) => hts0 w (List.mem_cons_of_mem _ hw)
  have hts := fun w (hw : w ∈ am_tb) => htj w (jk_in hw)
  have hown : s.vm.findClass yJ5_init_d00df.cls = some m.cls := findClass_of_methodNamed B.named
  have hin : meth.name = "<init>" := (name_of_methodNamed B.named B.method).1
  subst hsz
  have hD := hD0.self (sz := s.heap.size)
  generalize hAe : va_A [(q, .inr (10, [.null, .int 0, .int 0, .int 0]))] s.heap.size = A at hD hE ⊢
  have hA : ∀ q : Nat, s.heap.size ≤ q → A q := fun q h => by rw [← hAe]; exact Or.inr h
  have hP : va_P D vwCl [(q, .inr (10, [.null, .int 0, .int 0, .int 0]))] s.heap := hP
  have hS : va_S A s.heap s.heap [] := va_S.rf
  have hl := lv_entry ([.ref q, .int 16]) (n := 2) (Nat.le_of_ble_eq_true rfl)
  rw [lg_entry_eq]
  generalize (lg_sl ([.ref q, .int 16]) ++ List.replicate (2 - (lg_sl ([.ref q, .int 16])).length) Slot.unset).toArray = ls at hl ⊢
  have hl : lv_has ls 2 [(0, .ref q), (1, .int 16)] := hl
  refine lv_aload_n hx hb dk_J5_init_d00df_0 rfl (lv_at hl 0 rfl) ?_
  refine W.objInit hx hb hown (hts _ (am_tb_at 296 (by decide +kernel) rfl)) (hts _ (am_tb_at 83 (by decide +kernel) rfl)) (hts _ (am_tb_at 84 (by decide +kernel) rfl)) rfl (by rw [hml]; exact hl.1) rfl dk_J5_init_d00df_1 (Nat.le_of_ble_eq_true rfl) (Nat.le_of_ble_eq_true rfl) ?_
  refine W.eq (g2 := F0 m 4 ls []) rfl ?_
  refine va_gets hx hb hE.1 hS hown (hts _ (am_tb_at 297 (by decide +kernel) rfl)) (fun x h => h) dk_J5_init_d00df_4 ?_
  refine lv_if_eq (tgt := 25) hx hb dk_J5_init_d00df_7 rfl (fun q => absurd q (by decide)) (fun _ => ?_)
  refine lv_aload_n hx hb dk_J5_init_d00df_10 rfl (lv_at hl 0 rfl) ?_
  refine lv_iload_n hx hb dk_J5_init_d00df_11 rfl (lv_at hl 1 rfl) ?_
  rw [show (16 : Int32) = nI 16 from by decide]
  refine cn_newa (atype := .byte) (a0 := (16, .inl fun _ => 0)) hx hb (hts _ (am_tb_at 143 (by decide +kernel) rfl)) rfl hK 2 rfl hP hD hS hA (fun _ => rfl) (nI_pos (by omega)) (nI_clamp (by omega)) (by show 16 * 1 ≤ _; omega) (by show 0 + 1 ≤ 1; omega) (by show 0 + 16 ≤ 4000; omega) dk_J5_init_d00df_12 (fun b H hP hD hS => ?_)
  have hP : va_P D vwCl [(q, .inr (10, [.null, .int 0, .int 0, .int 0])), (b, .inl (kC 2, 16, .inl (fun _ => 0)))] H := hP
  have hD : va_D A [(q, .inr (10, [.null, .int 0, .int 0, .int 0])), (b, .inl (kC 2, 16, .inl (fun _ => 0)))] := hD
  refine va_put (D := D) (ci := 10) (v := .ref b) (ty := .array .byte) (C := RJ4) (T := TJ4) (N := 4) hx hb hts qwJ4 tyJ4 tyJ4_ok nmJ4 hown hK hP hD hS 0 rfl rfl 0 (by decide) (hts _ (am_tb_at 306 (by decide +kernel) rfl)) (fun _ h9 => h9) rfl (by decide +kernel) rfl rfl (Nat.le_of_ble_eq_true rfl) dk_J5_init_d00df_14 (fun H locs hP hD hS => ?_)
  have hP : va_P D vwCl [(q, .inr (10, [.ref b, .int 0, .int 0, .int 0])), (b, .inl (kC 2, 16, .inl (fun _ => 0)))] H := hP
  have hD : va_D A [(q, .inr (10, [.ref b, .int 0, .int 0, .int 0])), (b, .inl (kC 2, 16, .inl (fun _ => 0)))] := hD
  refine lv_aload_n hx hb dk_J5_init_d00df_17 rfl (lv_at hl 0 rfl) ?_
  refine lv_iconst (v := 0) hx hb dk_J5_init_d00df_18 (by decide) ?_
  refine va_put (D := D) (ci := 10) (v := .int 0) (ty := .byte) (C := RJ4) (T := TJ4) (N := 4) hx hb hts qwJ4 tyJ4 tyJ4_ok nmJ4 hown hK hP hD hS 0 rfl rfl 1 (by decide) (hts _ (am_tb_at 307 (by decide +kernel) rfl)) (fun _ h9 => h9) rfl (by decide +kernel) rfl rfl (Nat.le_of_ble_eq_true rfl) dk_J5_init_d00df_19 (fun H locs hP hD hS => ?_)
  have hP : va_P D vwCl [(q, .inr (10, [.ref b, .int 0, .int 0, .int 0])), (b, .inl (kC 2, 16, .inl (fun _ => 0)))] H := hP
  have hD : va_D A [(q, .inr (10, [.ref b, .int 0, .int 0, .int 0])), (b, .inl (kC 2, 16, .inl (fun _ => 0)))] := hD
  refine lv_goto (tgt := 38) hx hb dk_J5_init_d00df_22 rfl ?_
  refine W.widen (k := 1) (n := 4000) (by omega) (by omega) ?_
  exact W.vret hx hb hr (fun t ht hW => ⟨⟨b, rfl, trivial, by rw [ht]; exact hP, hD⟩, hS.F ht⟩) hS.2.2 dk_J5_init_d00df_38
theorem dk_J4_init_da8c8_0 : decode cJ4_init_da8c8 0 = .ok (.aload_n 0, 1) := by decide +kernel
theorem dk_J4_init_da8c8_1 : decode cJ4_init_da8c8 1 = .ok (.bipush 16, 2) := by decide +kernel
theorem dk_J4_init_da8c8_3 : decode cJ4_init_da8c8 3 = .ok (.invokespecial 1, 3) := by decide +kernel
theorem dk_J4_init_da8c8_6 : decode cJ4_init_da8c8 6 = .ok (.return_, 1) := by decide +kernel
set_option maxHeartbeats 4000000 in
set_option maxRecDepth 100000 in
theorem sk_sbN (l : Launch) (D : va_G) (kC : Nat → ClassId) (q : Nat) (sz : Nat) : Met l yJ4_init_da8c8 (.code yJ4_init_da8c8 cJ4_init_da8c8 1 none :: jk_tb) (jr 4 1 4000) (va_Pc [.ref q] (ws_B D kC js_G [(q, .inr (10, [.null, .int 0, .int 0, .int 0]))] sz)) (va_Qv (S := Nat) (fun _ => True) (fun b t => va_P D vwCl [(q, .inr (10, [.ref b, .int 0, .int 0, .int (nI 0)])), (b, .inl (kC 2, 16, .inl (fun _ => 0)))] t.heap ∧ va_D (va_A [(q, .inr (10, [.null, .int 0, .int 0, .int 0]))] sz) [(q, .inr (10, [.ref b, .int 0, .int 0, .int (nI 0)])), (b, .inl (kC 2, 16, .inl (fun _ => 0)))]) (va_A [(q, .inr (10, [.null, .int 0, .int 0, .int 0]))] sz)) 1 4000 (va_A [(q, .inr (10, [.null, .int 0, .int 0, .int 0]))] sz) := by
  refine Met.ofW (cc := cJ4_init_da8c8) (maxL := 1) (ret := none) (by decide +kernel) rfl ?_
  intro p e s m args below meth c s₁ B hml hv2
  obtain ⟨rfl, hsz, hP, hK, hD0, hE⟩ := hv2
  have hx := B.exec
  have hb := B.bytes
  have hr := B.returns
  have hlocks := B.notSynchronized
  have hts0 := atoms_spec (ws := (.code yJ4_init_da8c8 cJ4_init_da8c8 1 none :: jk_tb)) B.pre
  have htj := fun w (hw : w ∈ jk_tb) => hts0 w (List.mem_cons_of_mem _ hw)
  have hts := fun w (hw : w ∈ am_tb) => htj w (jk_in hw)
  have hown : s.vm.findClass yJ4_init_da8c8.cls = some m.cls := findClass_of_methodNamed B.named
  have hin : meth.name = "<init>" := (name_of_methodNamed B.named B.method).1
  subst hsz
  have hD := hD0.self (sz := s.heap.size)
  generalize hAe : va_A [(q, .inr (10, [.null, .int 0, .int 0, .int 0]))] s.heap.size = A at hD hE ⊢
  have hA : ∀ q : Nat, s.heap.size ≤ q → A q := fun q h => by rw [← hAe]; exact Or.inr h
  have hP : va_P D vwCl [(q, .inr (10, [.null, .int 0, .int 0, .int 0]))] s.heap := hP
  have hS : va_S A s.heap s.heap [] := va_S.rf
  have hl := lv_entry ([.ref q]) (n := 1) (Nat.le_of_ble_eq_true rfl)
  rw [lg_entry_eq]
  generalize (lg_sl ([.ref q]) ++ List.replicate (1 - (lg_sl ([.ref q])).length) Slot.unset).toArray = ls at hl ⊢
  have hl : lv_has ls 1 [(0, .ref q)] := hl
  refine lv_aload_n hx hb dk_J4_init_da8c8_0 rfl (lv_at hl 0 rfl) ?_
  refine lv_bipush (v := 16) hx hb dk_J4_init_da8c8_1 (by decide) ?_
  have hPc := hP.sub (ws' := [(q, .inr (10, [.null, .int 0, .int 0, .int 0]))]) [0] rfl
  have hDc := hD.sub (ws' := [(q, .inr (10, [.null, .int 0, .int 0, .int 0]))]) [0] (by decide) rfl
  have hFc := va_free (wc := [(q, .inr (10, [.null, .int 0, .int 0, .int 0]))]) hD hS hA [0] rfl
  refine va_callv (va_runI (As := [.int 16]) (rest := []) ⟨hx, hb, hml, hown, hts⟩ (sk_asbN l D kC q s.heap.size) ⟨am_callB (R := jr 4 1 4000) (index := 1) 1 (jk_pay htj (am_tb_at 295 (by decide +kernel) rfl)) (hts _ (am_tb_at 295 (by decide +kernel) rfl)) rfl rfl rfl (hts _ (am_tb_at 45 (by decide +kernel) rfl)) (hts _ (am_tb_at 293 (by decide +kernel) rfl)) ⟨by decide, by decide, by decide +kernel⟩ ⟨(by show 3 + 1 ≤ 4; decide), (by show 8 + (2 + 11) + 48 * 3 ≤ 48 * 4; decide)⟩, rfl, (hts _ (am_tb_at 294 (by decide +kernel) rfl))⟩ (ws_S Stb_G hPc hK hDc (fun U hU hW => ws_E Stb_G hE hS hU hW hFc)) rfl rfl hl.1 rfl (lv_room (Nat.le_of_ble_eq_true rfl)) dk_J4_init_da8c8_3 ⟨(by show 0 + 1 ≤ 1; omega), (by show 0 + 4000 ≤ 4000; omega)⟩) hS (fun q _ h => hFc q h) hFc (fun u t H1 locs hte hvm hz hB hsz hkp hS => ?_)
  obtain ⟨hP1, hD1⟩ := hB
  rw [hte] at hP1
  obtain ⟨hP, hD⟩ := va_join (wr := []) (w1 := [(q, .inr (10, [.ref u, .int 0, .int 0, .int (nI 0)])), (u, .inl (kC 2, 16, .inl (fun _ => 0)))]) hP hD [0] [] rfl rfl (by decide) (by decide) hkp hFc hP1 hD1
  generalize H1 = H at hP hS ⊢
  have hP : va_P D vwCl [(q, .inr (10, [.ref u, .int 0, .int 0, .int (nI 0)])), (u, .inl (kC 2, 16, .inl (fun _ => 0)))] H := hP
  have hD : va_D A [(q, .inr (10, [.ref u, .int 0, .int 0, .int (nI 0)])), (u, .inl (kC 2, 16, .inl (fun _ => 0)))] := hD
  refine W.widen (k := 1) (n := 4000) (by omega) (by omega) ?_
  exact W.vret hx hb hr (fun t ht hW => ⟨⟨u, rfl, trivial, by rw [ht]; exact hP, hD⟩, hS.F ht⟩) hS.2.2 dk_J4_init_da8c8_6
theorem dk_J7_checkLength_df160_0 : decode cJ7_checkLength_df160 0 = .ok (.iload_n 1, 1) := by decide +kernel
theorem dk_J7_checkLength_df160_1 : decode cJ7_checkLength_df160 1 = .ok (.iload_n 0, 1) := by decide +kernel
theorem dk_J7_checkLength_df160_2 : decode cJ7_checkLength_df160 2 = .ok (.if_icmp .ge 35, 3) := by decide +kernel
theorem dk_J7_checkLength_df160_5 : decode cJ7_checkLength_df160 5 = .ok (.new 43, 3) := by decide +kernel
theorem dk_J7_checkLength_df160_8 : decode cJ7_checkLength_df160 8 = .ok (.dup, 1) := by decide +kernel
theorem dk_J7_checkLength_df160_9 : decode cJ7_checkLength_df160 9 = .ok (.new 45, 3) := by decide +kernel
theorem dk_J7_checkLength_df160_12 : decode cJ7_checkLength_df160 12 = .ok (.dup, 1) := by decide +kernel
theorem dk_J7_checkLength_df160_13 : decode cJ7_checkLength_df160 13 = .ok (.invokespecial 47, 3) := by decide +kernel
theorem dk_J7_checkLength_df160_16 : decode cJ7_checkLength_df160 16 = .ok (.iload_n 0, 1) := by decide +kernel
theorem dk_J7_checkLength_df160_17 : decode cJ7_checkLength_df160 17 = .ok (.invokevirtual 54, 3) := by decide +kernel
theorem dk_J7_checkLength_df160_20 : decode cJ7_checkLength_df160 20 = .ok (.ldc_w 337, 3) := by decide +kernel
theorem dk_J7_checkLength_df160_23 : decode cJ7_checkLength_df160 23 = .ok (.invokevirtual 50, 3) := by decide +kernel
theorem dk_J7_checkLength_df160_26 : decode cJ7_checkLength_df160 26 = .ok (.iload_n 1, 1) := by decide +kernel
theorem dk_J7_checkLength_df160_27 : decode cJ7_checkLength_df160 27 = .ok (.invokevirtual 54, 3) := by decide +kernel
theorem dk_J7_checkLength_df160_30 : decode cJ7_checkLength_df160 30 = .ok (.invokevirtual 61, 3) := by decide +kernel
theorem dk_J7_checkLength_df160_33 : decode cJ7_checkLength_df160 33 = .ok (.invokespecial 65, 3) := by decide +kernel
theorem dk_J7_checkLength_df160_36 : decode cJ7_checkLength_df160 36 = .ok (.athrow, 1) := by decide +kernel
theorem dk_J7_checkLength_df160_37 : decode cJ7_checkLength_df160 37 = .ok (.return_, 1) := by decide +kernel
set_option maxHeartbeats 4000000 in
set_option maxRecDepth 100000 in
theorem sk_chkL (l : Launch) (D : va_G) (kC : Nat → ClassId) (n : Nat) (h : n ≤ 4000) (sz : Nat) : Met l yJ7_checkLength_df160 (.code yJ7_checkLength_df160 cJ7_checkLength_df160 2 none :: jk_tb) (jr 1 0 0) (va_Pc [.int 0, .int (nI n)] (ws_B D kC js_G [] sz)) (va_Qv (S := Unit) (fun _ => True) (fun _ _ => True) (va_A [] sz)) 0 0 (va_A [] sz) := by
  refine Met.ofW (cc := cJ7_checkLength_df160) (maxL := 2) (ret := none) (by decide +kernel) rfl ?_
  intro p e s m args below meth c s₁ B hml hv2
  obtain ⟨rfl, hsz, hP, hK, hD0, hE⟩ := hv2
  have hx := B.exec
  have hb := B.bytes
  have hr := B.returns
  have hlocks := B.notSynchronized
  have hts0 := atoms_spec (ws := (.code yJ7_checkLength_df160 cJ7_checkLength_df160 2 none :: jk_tb)) B.pre
  have htj := fun w (hw : w ∈ jk_tb) => hts0 w (List.mem_cons_of_mem _ hw)
  have hts := fun w (hw : w ∈ am_tb) => htj w (jk_in hw)
  have hown : s.vm.findClass yJ7_checkLength_df160.cls = some m.cls := findClass_of_methodNamed B.named
  subst hsz
  have hD := hD0.self (sz := s.heap.size)
  generalize hAe : va_A [] s.heap.size = A at hD hE ⊢
  have hA : ∀ q : Nat, s.heap.size ≤ q → A q := fun q h => by rw [← hAe]; exact Or.inr h
  have hP : va_P D vwCl [] s.heap := hP
  have hS : va_S A s.heap s.heap [] := va_S.rf
  have hl := lv_entry ([.int 0, .int (nI n)]) (n := 2) (Nat.le_of_ble_eq_true rfl)
  rw [lg_entry_eq]
  generalize (lg_sl ([.int 0, .int (nI n)]) ++ List.replicate (2 - (lg_sl ([.int 0, .int (nI n)])).length) Slot.unset).toArray = ls at hl ⊢
  have hl : lv_has ls 2 [(0, .int 0), (1, .int (nI n))] := hl
  refine lv_iload_n hx hb dk_J7_checkLength_df160_0 rfl (lv_at hl 1 rfl) ?_
  refine lv_iload_n hx hb dk_J7_checkLength_df160_1 rfl (lv_at hl 0 rfl) ?_
  refine lv_icmp_ge (tgt := 37) hx hb dk_J7_checkLength_df160_2 rfl (fun _ => ?_) (fun q => absurd (nI_pos' (by omega)) q)
  refine W.widen (k := 0) (n := 0) (by omega) (by omega) ?_
  exact W.vret hx hb hr (fun t ht hW => ⟨⟨(), rfl, trivial, trivial⟩, hS.F ht⟩) hS.2.2 dk_J7_checkLength_df160_37
theorem dk_J7_copyOfRangeByte_39247_0 : decode cJ7_copyOfRangeByte_39247 0 = .ok (.iload_n 1, 1) := by decide +kernel
theorem dk_J7_copyOfRangeByte_39247_1 : decode cJ7_copyOfRangeByte_39247 1 = .ok (.iload_n 2, 1) := by decide +kernel
theorem dk_J7_copyOfRangeByte_39247_2 : decode cJ7_copyOfRangeByte_39247 2 = .ok (.invokestatic 343, 3) := by decide +kernel
theorem dk_J7_copyOfRangeByte_39247_5 : decode cJ7_copyOfRangeByte_39247 5 = .ok (.iload_n 2, 1) := by decide +kernel
theorem dk_J7_copyOfRangeByte_39247_6 : decode cJ7_copyOfRangeByte_39247 6 = .ok (.iload_n 1, 1) := by decide +kernel
theorem dk_J7_copyOfRangeByte_39247_7 : decode cJ7_copyOfRangeByte_39247 7 = .ok (.isub, 1) := by decide +kernel
theorem dk_J7_copyOfRangeByte_39247_8 : decode cJ7_copyOfRangeByte_39247 8 = .ok (.istore_n 3, 1) := by decide +kernel
theorem dk_J7_copyOfRangeByte_39247_9 : decode cJ7_copyOfRangeByte_39247 9 = .ok (.iload_n 3, 1) := by decide +kernel
theorem dk_J7_copyOfRangeByte_39247_10 : decode cJ7_copyOfRangeByte_39247 10 = .ok (.newarray .byte, 2) := by decide +kernel
theorem dk_J7_copyOfRangeByte_39247_12 : decode cJ7_copyOfRangeByte_39247 12 = .ok (.astore 4, 2) := by decide +kernel
theorem dk_J7_copyOfRangeByte_39247_14 : decode cJ7_copyOfRangeByte_39247 14 = .ok (.aload_n 0, 1) := by decide +kernel
theorem dk_J7_copyOfRangeByte_39247_15 : decode cJ7_copyOfRangeByte_39247 15 = .ok (.iload_n 1, 1) := by decide +kernel
theorem dk_J7_copyOfRangeByte_39247_16 : decode cJ7_copyOfRangeByte_39247 16 = .ok (.aload 4, 2) := by decide +kernel
theorem dk_J7_copyOfRangeByte_39247_18 : decode cJ7_copyOfRangeByte_39247 18 = .ok (.iconst 0, 1) := by decide +kernel
theorem dk_J7_copyOfRangeByte_39247_19 : decode cJ7_copyOfRangeByte_39247 19 = .ok (.aload_n 0, 1) := by decide +kernel
theorem dk_J7_copyOfRangeByte_39247_20 : decode cJ7_copyOfRangeByte_39247 20 = .ok (.arraylength, 1) := by decide +kernel
theorem dk_J7_copyOfRangeByte_39247_21 : decode cJ7_copyOfRangeByte_39247 21 = .ok (.iload_n 1, 1) := by decide +kernel
theorem dk_J7_copyOfRangeByte_39247_22 : decode cJ7_copyOfRangeByte_39247 22 = .ok (.isub, 1) := by decide +kernel
theorem dk_J7_copyOfRangeByte_39247_23 : decode cJ7_copyOfRangeByte_39247 23 = .ok (.iload_n 3, 1) := by decide +kernel
theorem dk_J7_copyOfRangeByte_39247_24 : decode cJ7_copyOfRangeByte_39247 24 = .ok (.invokestatic 304, 3) := by decide +kernel
theorem dk_J7_copyOfRangeByte_39247_27 : decode cJ7_copyOfRangeByte_39247 27 = .ok (.invokestatic 150, 3) := by decide +kernel
theorem dk_J7_copyOfRangeByte_39247_30 : decode cJ7_copyOfRangeByte_39247 30 = .ok (.aload 4, 2) := by decide +kernel
theorem dk_J7_copyOfRangeByte_39247_32 : decode cJ7_copyOfRangeByte_39247 32 = .ok (.areturn, 1) := by decide +kernel
set_option maxHeartbeats 4000000 in
set_option maxRecDepth 100000 in
theorem sk_corB (l : Launch) (D : va_G) (kC : Nat → ClassId) (b w n : Nat) (g : Nat → Int32) (h1 : n < w) (h2 : w ≤ 4000) (hf : sb_Fit g) (sz : Nat) : Met l yJ7_copyOfRangeByte_39247 (.code yJ7_copyOfRangeByte_39247 cJ7_copyOfRangeByte_39247 5 (some (.array .byte)) :: jk_tb) (jr 4 1 4000) (va_Pc [.ref b, .int 0, .int (nI n)] (ws_B D kC (fun B U H => js_G B U H ∧ ro_A kC b w g B U H) [] sz)) (va_Qr (S := Nat → Int32) (fun g2 => sb_Fit g2 ∧ ∀ j, j < n → g2 j = g j) (fun g2 ra t => va_P D vwCl [(ra, .inl (kC 2, n, .inl g2))] t.heap ∧ va_D (va_A [] sz) [(ra, .inl (kC 2, n, .inl g2))]) (va_A [] sz)) 1 4000 (va_A [] sz) := by
  refine Met.ofW (cc := cJ7_copyOfRangeByte_39247) (maxL := 5) (ret := (some (.array .byte))) (by decide +kernel) rfl ?_
  intro p e s m args below meth c s₁ B hml hv2
  obtain ⟨rfl, hsz, hP, hK, hD0, hE⟩ := hv2
  have hx := B.exec
  have hb := B.bytes
  have hr := B.returns
  have hlocks := B.notSynchronized
  have hts0 := atoms_spec (ws := (.code yJ7_copyOfRangeByte_39247 cJ7_copyOfRangeByte_39247 5 (some (.array .byte)) :: jk_tb)) B.pre
  have htj := fun w (hw : w ∈ jk_tb) => hts0 w (List.mem_cons_of_mem _ hw)
  have hts := fun w (hw : w ∈ am_tb) => htj w (jk_in hw)
  have hown : s.vm.findClass yJ7_copyOfRangeByte_39247.cls = some m.cls := findClass_of_methodNamed B.named
  subst hsz
  have hD := hD0.self (sz := s.heap.size)
  generalize hAe : va_A [] s.heap.size = A at hD hE ⊢
  have hA : ∀ q : Nat, s.heap.size ≤ q → A q := fun q h => by rw [← hAe]; exact Or.inr h
  have hP : va_P D vwCl [] s.heap := hP
  have hS : va_S A s.heap s.heap [] := va_S.rf
  have hl := lv_entry ([.ref b, .int 0, .int (nI n)]) (n := 5) (Nat.le_of_ble_eq_true rfl)
  rw [lg_entry_eq]
  generalize (lg_sl ([.ref b, .int 0, .int (nI n)]) ++ List.replicate (5 - (lg_sl ([.ref b, .int 0, .int (nI n)])).length) Slot.unset).toArray = ls at hl ⊢
  have hl : lv_has ls 5 [(0, .ref b), (1, .int 0), (2, .int (nI n))] := hl
  have hT := ro_AT hK hE.2
  refine lv_iload_n hx hb dk_J7_copyOfRangeByte_39247_0 rfl (lv_at hl 1 rfl) ?_
  refine lv_iload_n hx hb dk_J7_copyOfRangeByte_39247_1 rfl (lv_at hl 2 rfl) ?_
  have hPc : va_P D vwCl [] s.heap := ws_nP
  have hDc : va_D A [] := ws_nD
  have hFc : ∀ q, va_A [] s.heap.size q → A q := fun q h => hA q (Nat.le_trans hS.1 (ws_nA h))
  refine va_callv (va_runS (As := [.int 0, .int (nI n)]) (rest := []) ⟨hx, hb, hml, hown, hts⟩ (sk_chkL l D kC n (by omega) s.heap.size) ⟨am_callB (R := jr 4 1 4000) (index := 343) 2 (jk_pay htj (am_tb_at 508 (by decide +kernel) rfl)) (hts _ (am_tb_at 508 (by decide +kernel) rfl)) rfl rfl rfl (hts _ (am_tb_at 44 (by decide +kernel) rfl)) (hts _ (am_tb_at 506 (by decide +kernel) rfl)) ⟨by decide, by decide, by decide +kernel⟩ ⟨(by show 1 + 1 ≤ 4; decide), (by show 8 + (2 + 11) + 48 * 1 ≤ 48 * 4; decide)⟩, (hts _ (am_tb_at 507 (by decide +kernel) rfl))⟩ (ws_S Stb_G hPc hK hDc (fun U hU hW => ws_E Stb_G hE.1 hS hU hW hFc)) rfl rfl hl.1 rfl (lv_room (Nat.le_of_ble_eq_true rfl)) dk_J7_copyOfRangeByte_39247_2 ⟨(by show 0 + 0 ≤ 1; omega), (by show 0 + 0 ≤ 4000; omega)⟩) hS (fun q _ h => hFc q h) hFc (fun u t H1 locs hte hvm hz hB hsz hkp hS => ?_)
  have hP : va_P D vwCl [] H1 := ws_nP
  generalize H1 = H at hP hS ⊢
  refine lv_iload_n hx hb dk_J7_copyOfRangeByte_39247_5 rfl (lv_at hl 2 rfl) ?_
  refine lv_iload_n hx hb dk_J7_copyOfRangeByte_39247_6 rfl (lv_at hl 1 rfl) ?_
  refine lv_isub hx hb dk_J7_copyOfRangeByte_39247_7 ?_
  rw [show (((nI n) - 0) : Int32) = nI n from (by rw [Int32.sub_zero])]
  refine lv_istore_n (lv' := [(3, .int (nI n)), (0, .ref b), (1, .int 0), (2, .int (nI n))]) hx hb dk_J7_copyOfRangeByte_39247_8 rfl hl (by decide) rfl (fun ls hl => ?_)
  refine lv_iload_n hx hb dk_J7_copyOfRangeByte_39247_9 rfl (lv_at hl 0 rfl) ?_
  refine cn_newa (atype := .byte) (a0 := (n, .inl fun _ => 0)) hx hb (hts _ (am_tb_at 143 (by decide +kernel) rfl)) rfl hK 2 rfl hP hD hS hA (fun _ => rfl) (nI_pos (by omega)) (nI_clamp (by omega)) (by show n * 1 ≤ _; omega) (by show 0 + 0 + 1 ≤ 1; omega) (by show 0 + 0 + n ≤ 4000; omega) dk_J7_copyOfRangeByte_39247_10 (fun q1 H hP hD hS => ?_)
  have hP : va_P D vwCl [(q1, .inl (kC 2, n, .inl (fun _ => 0)))] H := hP
  have hD : va_D A [(q1, .inl (kC 2, n, .inl (fun _ => 0)))] := hD
  refine lv_astore (lv' := [(4, .ref q1), (3, .int (nI n)), (0, .ref b), (1, .int 0), (2, .int (nI n))]) hx hb dk_J7_copyOfRangeByte_39247_12 hl (by decide) rfl (fun ls hl => ?_)
  refine lv_aload_n hx hb dk_J7_copyOfRangeByte_39247_14 rfl (lv_at hl 2 rfl) ?_
  refine lv_iload_n hx hb dk_J7_copyOfRangeByte_39247_15 rfl (lv_at hl 3 rfl) ?_
  refine lv_aload hx hb dk_J7_copyOfRangeByte_39247_16 (lv_at hl 0 rfl) ?_
  refine lv_iconst (v := 0) hx hb dk_J7_copyOfRangeByte_39247_18 (by decide) ?_
  refine lv_aload_n hx hb dk_J7_copyOfRangeByte_39247_19 rfl (lv_at hl 2 rfl) ?_
  refine va_tlen (v := nI w) hx hb hT hS rfl dk_J7_copyOfRangeByte_39247_20 ?_
  refine lv_iload_n hx hb dk_J7_copyOfRangeByte_39247_21 rfl (lv_at hl 3 rfl) ?_
  refine lv_isub hx hb dk_J7_copyOfRangeByte_39247_22 ?_
  rw [show (((nI w) - 0) : Int32) = nI w from (by rw [Int32.sub_zero])]
  refine lv_iload_n hx hb dk_J7_copyOfRangeByte_39247_23 rfl (lv_at hl 1 rfl) ?_
  refine va_mmin hx hb (by rw [hml, hl.1]) hown (hts _ (am_tb_at 360 (by decide +kernel) rfl)) (hts _ (am_tb_at 361 (by decide +kernel) rfl)) (hts _ (am_tb_at 50 (by decide +kernel) rfl)) (hts _ (am_tb_at 362 (by decide +kernel) rfl)) (by show 1 ≤ 4; decide) (Nat.le_of_ble_eq_true rfl) (by show 0 + 0 + 1 ≤ 1; omega) (by show 0 + 0 + n ≤ 4000; omega) dk_J7_copyOfRangeByte_39247_24 ?_
  rw [show ((if (nI n) < (nI w) then (nI n) else (nI w)) : Int32) = nI n from if_pos (nI_lt (by omega) (by omega))]
  refine vk_copyt hx hb (by rw [hml, hl.1]) hown (hts _ (am_tb_at 363 (by decide +kernel) rfl)) (hts _ (am_tb_at 365 (by decide +kernel) rfl)) (hts _ (am_tb_at 364 (by decide +kernel) rfl)) (hts _ (am_tb_at 51 (by decide +kernel) rfl)) hK hP hD hS (hT) 0 2 rfl rfl (by decide) (by decide) (nI_pos (by omega)) (by rw [sb_cl0, nI_clamp (n := n) (by omega)]; omega) (by rw [sb_cl0, nI_clamp (n := n) (by omega)]; omega) (fun i _ => hf _) (by show 1 ≤ 4; decide) (Nat.le_of_ble_eq_true rfl) dk_J7_copyOfRangeByte_39247_27 (fun H locs hP hD hS => ?_)
  rw [sb_cl0, nI_clamp (n := n) (by omega)] at hP hD
  have hP : va_P D vwCl [(q1, .inl (kC 2, n, .inl (va_cpy g (fun _ => 0) 0 0 n)))] H := hP
  have hD : va_D A [(q1, .inl (kC 2, n, .inl (va_cpy g (fun _ => 0) 0 0 n)))] := hD
  refine lv_aload hx hb dk_J7_copyOfRangeByte_39247_30 (lv_at hl 0 rfl) ?_
  refine W.widen (k := 1) (n := 4000) (by omega) (by omega) ?_
  exact W.aret (v := .ref q1) hx hb hr (Or.inr ⟨_, rfl⟩) (Or.inr ⟨_, rfl⟩) (fun t ht hW => ⟨⟨va_cpy g (fun _ => 0) 0 0 n, q1, rfl, ⟨sb_fitC hf sb_fit0, fun j hj => sb_cpy0 hj⟩, by rw [ht]; exact hP, hD⟩, hS.F ht⟩) hS.2.2 dk_J7_copyOfRangeByte_39247_32
