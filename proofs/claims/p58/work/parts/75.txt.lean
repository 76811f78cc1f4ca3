def sgL (v : Int) : List Nat := if v < 0 then [32, 45] ++ decL (-v).toNat else [32] ++ decL v.toNat
theorem i3_nat (n : Nat) : Int32.ofInt (n : Int) = nI n := rfl
theorem i3_neg {n : Nat} (h : n < 2147483648) : Int32.ofInt (-(n : Int)) = -nI n := by
  rw [Int32.ofInt_neg]
  rfl
theorem dk_L_signed_0 : decode cL_signed 0 = .ok (.iload_n 0, 1) := by decide +kernel
theorem dk_L_signed_1 : decode cL_signed 1 = .ok (.ifCond .ge 26, 3) := by decide +kernel
theorem dk_L_signed_4 : decode cL_signed 4 = .ok (.new 14, 3) := by decide +kernel
theorem dk_L_signed_7 : decode cL_signed 7 = .ok (.dup, 1) := by decide +kernel
theorem dk_L_signed_8 : decode cL_signed 8 = .ok (.invokespecial 16, 3) := by decide +kernel
theorem dk_L_signed_11 : decode cL_signed 11 = .ok (.ldc 50, 2) := by decide +kernel
theorem dk_L_signed_13 : decode cL_signed 13 = .ok (.invokevirtual 17, 3) := by decide +kernel
theorem dk_L_signed_16 : decode cL_signed 16 = .ok (.iload_n 0, 1) := by decide +kernel
theorem dk_L_signed_17 : decode cL_signed 17 = .ok (.ineg, 1) := by decide +kernel
theorem dk_L_signed_18 : decode cL_signed 18 = .ok (.invokevirtual 52, 3) := by decide +kernel
theorem dk_L_signed_21 : decode cL_signed 21 = .ok (.invokevirtual 23, 3) := by decide +kernel
theorem dk_L_signed_24 : decode cL_signed 24 = .ok (.goto 22, 3) := by decide +kernel
theorem dk_L_signed_27 : decode cL_signed 27 = .ok (.new 14, 3) := by decide +kernel
theorem dk_L_signed_30 : decode cL_signed 30 = .ok (.dup, 1) := by decide +kernel
theorem dk_L_signed_31 : decode cL_signed 31 = .ok (.invokespecial 16, 3) := by decide +kernel
theorem dk_L_signed_34 : decode cL_signed 34 = .ok (.ldc 21, 2) := by decide +kernel
theorem dk_L_signed_36 : decode cL_signed 36 = .ok (.invokevirtual 17, 3) := by decide +kernel
theorem dk_L_signed_39 : decode cL_signed 39 = .ok (.iload_n 0, 1) := by decide +kernel
theorem dk_L_signed_40 : decode cL_signed 40 = .ok (.invokevirtual 52, 3) := by decide +kernel
theorem dk_L_signed_43 : decode cL_signed 43 = .ok (.invokevirtual 23, 3) := by decide +kernel
theorem dk_L_signed_46 : decode cL_signed 46 = .ok (.areturn, 1) := by decide +kernel
set_option maxHeartbeats 4000000 in
set_option maxRecDepth 100000 in
theorem sk_sgP (l : Launch) (D : va_G) (kC : Nat → ClassId) (v : Nat) (hv : v ≤ 100) (sz : Nat) : Met l yL_signed (.code yL_signed cL_signed 1 (some (.object "java/lang/String")) :: jk_tb) (jr 14 8 24100) (va_Pc [.int (nI v)] (ws_B D kC (fun B U H => js_G B U H ∧ js_K 50 " -" [32, 45] B U H ∧ js_K 21 " " [32] B U H) [] sz)) (va_Qr (S := Nat × (Nat → Int32)) (fun u => sb_Fit u.2 ∧ sb_Lat (lt (sgL v)) ((sgL v).length) u.2) (fun u ra t => va_P D vwCl [(ra, .inr (9, [.ref u.1, .int 0, .int 0, .int 0])), (u.1, .inl (kC 2, (sgL v).length, .inl (u.2)))] t.heap ∧ va_D (va_A [] sz) [(ra, .inr (9, [.ref u.1, .int 0, .int 0, .int 0])), (u.1, .inl (kC 2, (sgL v).length, .inl (u.2)))]) (va_A [] sz)) 8 24100 (va_A [] sz) := by
  refine Met.ofW (cc := cL_signed) (maxL := 1) (ret := (some (.object "java/lang/String"))) (by decide +kernel) rfl ?_
  intro p e s m args below meth c s₁ B hml hv2
  obtain ⟨rfl, hsz, hP, hK, hD0, hE⟩ := hv2
  have hx := B.exec
  have hb := B.bytes
  have hr := B.returns
  have hlocks := B.notSynchronized
  have hts0 := atoms_spec (ws := (.code yL_signed cL_signed 1 (some (.object "java/lang/String")) :: jk_tb)) B.pre
  have htj := fun w (hw : w ∈ jk_tb) => hts0 w (List.mem_cons_of_mem _ hw)
  have hts := fun w (hw : w ∈ am_tb) => htj w (jk_in hw)
  have hown : s.vm.findClass yL_signed.cls = some m.cls := findClass_of_methodNamed B.named
  subst hsz
  have hD := hD0.self (sz := s.heap.size)
  generalize hAe : va_A [] s.heap.size = A at hD hE ⊢
  have hA : ∀ q : Nat, s.heap.size ≤ q → A q := fun q h => by rw [← hAe]; exact Or.inr h
  have hP : va_P D vwCl [] s.heap := hP
  have hS : va_S A s.heap s.heap [] := va_S.rf
  have hl := lv_entry ([.int (nI v)]) (n := 1) (Nat.le_of_ble_eq_true rfl)
  rw [lg_entry_eq]
  generalize (lg_sl ([.int (nI v)]) ++ List.replicate (1 - (lg_sl ([.int (nI v)])).length) Slot.unset).toArray = ls at hl ⊢
  have hl : lv_has ls 1 [(0, .int (nI v))] := hl
  have hdv := dec_le hv
  obtain ⟨-, ⟨a0, d0, hR0, hS0⟩, ⟨a1, d1, hR1, hS1⟩⟩ := id hE
  refine lv_iload_n hx hb dk_L_signed_0 rfl (lv_at hl 0 rfl) ?_
  refine lv_if_ge (tgt := 27) hx hb dk_L_signed_1 rfl (fun _ => ?_) (fun q => absurd (nI_pos' (by omega)) q)
  refine va_new (ci := 10) (fs := [.null, .int 0, .int 0, .int 0]) (C := RJ4) (T := TJ4) (N := 4) hx hb hts qwJ4 tyJ4 tyJ4_ok hown (hts _ (am_tb_at 288 (by decide +kernel) rfl)) (hts _ (am_tb_at 289 (by decide +kernel) rfl)) (hts _ (am_tb_at 46 (by decide +kernel) rfl)) hK hP hD hS hA rfl (fun j hj => by rcases (show j = 0 ∨ j = 1 ∨ j = 2 ∨ j = 3 by omega) with rfl | rfl | rfl | rfl <;> rfl) (by show 0 + 1 ≤ 8; omega) (by show 0 + 4 ≤ 24100; omega) dk_L_signed_27 (fun q1 H hP hD hS => ?_)
  have hP : va_P D vwCl [(q1, .inr (10, [.null, .int 0, .int 0, .int 0]))] H := hP
  have hD : va_D A [(q1, .inr (10, [.null, .int 0, .int 0, .int 0]))] := hD
  refine lv_dup hx hb dk_L_signed_30 rfl ?_
  have hPc := hP.sub (ws' := [(q1, .inr (10, [.null, .int 0, .int 0, .int 0]))]) [0] rfl
  have hDc := hD.sub (ws' := [(q1, .inr (10, [.null, .int 0, .int 0, .int 0]))]) [0] (by decide) rfl
  have hFc := va_free (wc := [(q1, .inr (10, [.null, .int 0, .int 0, .int 0]))]) hD hS hA [0] rfl
  refine va_callv (va_runI (As := []) (rest := [.ref q1]) ⟨hx, hb, hml, hown, hts⟩ (sk_sbN l D kC q1 H.size) ⟨am_callB (R := jr 14 8 24100) (index := 16) 0 (jk_pay htj (am_tb_at 292 (by decide +kernel) rfl)) (hts _ (am_tb_at 292 (by decide +kernel) rfl)) rfl rfl rfl (hts _ (am_tb_at 46 (by decide +kernel) rfl)) (hts _ (am_tb_at 290 (by decide +kernel) rfl)) ⟨by decide, by decide, by decide +kernel⟩ ⟨(by show 4 + 1 ≤ 14; decide), (by show 8 + (1 + 11) + 48 * 4 ≤ 48 * 14; decide)⟩, rfl, (hts _ (am_tb_at 291 (by decide +kernel) rfl))⟩ (ws_S Stb_G hPc hK hDc (fun U hU hW => ws_E Stb_G hE.1 hS hU hW hFc)) rfl rfl hl.1 rfl (lv_room (Nat.le_of_ble_eq_true rfl)) dk_L_signed_31 ⟨(by show 0 + 1 + 1 ≤ 8; omega), (by show 0 + 4 + 4000 ≤ 24100; omega)⟩) hS (fun q _ h => hFc q h) hFc (fun b1_0 t H1 locs hte hvm hz hB hsz hkp hS => ?_)
  obtain ⟨hP1, hD1⟩ := hB
  rw [hte] at hP1
  obtain ⟨hP, hD⟩ := va_join (wr := []) (w1 := [(q1, .inr (10, [.ref b1_0, .int 0, .int 0, .int (nI 0)])), (b1_0, .inl (kC 2, 16, .inl (fun _ => 0)))]) hP hD [0] [] rfl rfl (by decide) (by decide) hkp hFc hP1 hD1
  generalize H1 = H at hP hS ⊢
  have hP : va_P D vwCl [(q1, .inr (10, [.ref b1_0, .int 0, .int 0, .int (nI 0)])), (b1_0, .inl (kC 2, 16, .inl (fun _ => 0)))] H := hP
  have hD : va_D A [(q1, .inr (10, [.ref b1_0, .int 0, .int 0, .int (nI 0)])), (b1_0, .inl (kC 2, 16, .inl (fun _ => 0)))] := hD
  have hw1_0 : 0 ≤ 16 ∧ 16 ≤ 1700 := ⟨by decide, by decide⟩
  have hf1_0 : sb_Fit (fun _ => 0) := sb_fit0
  have hL1_0 : sb_Lat (lt []) 0 (fun _ => 0) := fun j h => absurd h (Nat.not_lt_zero _)
  have hn1_0 : ([] : List Nat).length = 0 := rfl
  refine va_ldcS hx hb hown hR1 dk_L_signed_34 ?_
  have hPc := hP.sub (ws' := [(q1, .inr (10, [.ref b1_0, .int 0, .int 0, .int (nI 0)])), (b1_0, .inl (kC 2, 16, .inl (fun _ => 0)))]) [0, 1] rfl
  have hDc := hD.sub (ws' := [(q1, .inr (10, [.ref b1_0, .int 0, .int 0, .int (nI 0)])), (b1_0, .inl (kC 2, 16, .inl (fun _ => 0)))]) [0, 1] (by decide) rfl
  have hFc := va_free (wc := [(q1, .inr (10, [.ref b1_0, .int 0, .int 0, .int (nI 0)])), (b1_0, .inl (kC 2, 16, .inl (fun _ => 0)))]) hD hS hA [0, 1] rfl
  refine va_callr (va_runV (As := [.ref a1]) (rest := []) ⟨hx, hb, hml, hown, hts⟩ (sk_sbS l D kC q1 b1_0 16 0 0 (fun _ => 0) a1 d1 1 (lt ([32])) (lt ([] : List Nat)) hw1_0.1 hw1_0.2 hf1_0 hL1_0 (by omega) H.size) ⟨am_callB (R := jr 14 8 24100) (index := 17) 1 (jk_pay htj (am_tb_at 323 (by decide +kernel) rfl)) (hts _ (am_tb_at 323 (by decide +kernel) rfl)) rfl rfl rfl (hts _ (am_tb_at 46 (by decide +kernel) rfl)) (hts _ (am_tb_at 320 (by decide +kernel) rfl)) ⟨by decide, by decide, by decide +kernel⟩ ⟨(by show 13 + 1 ≤ 14; decide), (by show 8 + (2 + 11) + 48 * 13 ≤ 48 * 14; decide)⟩, (hts _ (am_tb_at 321 (by decide +kernel) rfl)), (hts _ (am_tb_at 322 (by decide +kernel) rfl))⟩ (ws_V (Stb_and Stb_G (Stb_S a1 d1 1 (lt ([32])))) (va_recv (q := (RJ4, TJ4, 4)) (q0 := 0) hK hP rfl rfl) hPc hK hDc (fun U hU hW => ⟨ws_E Stb_G hE.1 hS hU hW hFc, ws_E (Stb_S a1 d1 1 (lt [32])) hS1 hS hU hW hFc⟩)) rfl rfl hl.1 rfl (lv_room (Nat.le_of_ble_eq_true rfl)) dk_L_signed_36 ⟨(by show 0 + 1 + 1 + 1 ≤ 8; omega), (by show 0 + 4 + 4000 + 4000 ≤ 24100; omega)⟩) hS (fun q _ h => hFc q h) hFc (fun u ra t H1 locs hte hvm hz hB hsz hkp hS => ?_)
  obtain ⟨b1_1, w1_1, g1_1⟩ := u
  obtain ⟨hra, hP1, hD1⟩ := hB
  rw [hte] at hP1
  obtain ⟨hP, hD⟩ := va_join (wr := []) (w1 := [(q1, .inr (10, [.ref b1_1, .int 0, .int 0, .int (nI ((0 + 1)))])), (b1_1, .inl (kC 2, w1_1, .inl g1_1))]) hP hD [0, 1] [] rfl rfl (by decide) (by decide) hkp hFc hP1 hD1
  generalize H1 = H at hP hS ⊢
  have hP : va_P D vwCl [(q1, .inr (10, [.ref b1_1, .int 0, .int 0, .int (nI ((0 + 1)))])), (b1_1, .inl (kC 2, w1_1, .inl g1_1))] H := hP
  have hD : va_D A [(q1, .inr (10, [.ref b1_1, .int 0, .int 0, .int (nI ((0 + 1)))])), (b1_1, .inl (kC 2, w1_1, .inl g1_1))] := hD
  dsimp only at hz
  obtain ⟨hw1_1, hf1_1, hL0⟩ := hz
  have hy1_1 : ([32] : List Nat).length = 1 := rfl
  have hL1_1 := ll_cat hn1_0 hy1_1 hL0
  have hn1_1 := ll_len hn1_0 hy1_1
  rw [hra]
  refine lv_iload_n hx hb dk_L_signed_39 rfl (lv_at hl 0 rfl) ?_
  have hPc := hP.sub (ws' := [(q1, .inr (10, [.ref b1_1, .int 0, .int 0, .int (nI ((0 + 1)))])), (b1_1, .inl (kC 2, w1_1, .inl g1_1))]) [0, 1] rfl
  have hDc := hD.sub (ws' := [(q1, .inr (10, [.ref b1_1, .int 0, .int 0, .int (nI ((0 + 1)))])), (b1_1, .inl (kC 2, w1_1, .inl g1_1))]) [0, 1] (by decide) rfl
  have hFc := va_free (wc := [(q1, .inr (10, [.ref b1_1, .int 0, .int 0, .int (nI ((0 + 1)))])), (b1_1, .inl (kC 2, w1_1, .inl g1_1))]) hD hS hA [0, 1] rfl
  refine va_callr (va_runV (As := [.int (nI v)]) (rest := []) ⟨hx, hb, hml, hown, hts⟩ (sk_sbI l D kC q1 b1_1 w1_1 (0 + 1) 0 g1_1 v hv (lt (([] : List Nat) ++ [32])) hw1_1.1 hw1_1.2 hf1_1 hL1_1 (by omega) H.size) ⟨am_callB (R := jr 14 8 24100) (index := 52) 1 (jk_pay htj (am_tb_at 446 (by decide +kernel) rfl)) (hts _ (am_tb_at 446 (by decide +kernel) rfl)) rfl rfl rfl (hts _ (am_tb_at 46 (by decide +kernel) rfl)) (hts _ (am_tb_at 443 (by decide +kernel) rfl)) ⟨by decide, by decide, by decide +kernel⟩ ⟨(by show 13 + 1 ≤ 14; decide), (by show 8 + (2 + 11) + 48 * 13 ≤ 48 * 14; decide)⟩, (hts _ (am_tb_at 444 (by decide +kernel) rfl)), (hts _ (am_tb_at 445 (by decide +kernel) rfl))⟩ (ws_V Stb_G (va_recv (q := (RJ4, TJ4, 4)) (q0 := 0) hK hP rfl rfl) hPc hK hDc (fun U hU hW => ws_E Stb_G hE.1 hS hU hW hFc)) rfl rfl hl.1 rfl (lv_room (Nat.le_of_ble_eq_true rfl)) dk_L_signed_40 ⟨(by show 0 + 1 + 1 + 1 + 1 ≤ 8; omega), (by show 0 + 4 + 4000 + 4000 + 4000 ≤ 24100; omega)⟩) hS (fun q _ h => hFc q h) hFc (fun u ra t H1 locs hte hvm hz hB hsz hkp hS => ?_)
  obtain ⟨b1_2, w1_2, g1_2⟩ := u
  obtain ⟨hra, hP1, hD1⟩ := hB
  rw [hte] at hP1
  obtain ⟨hP, hD⟩ := va_join (wr := []) (w1 := [(q1, .inr (10, [.ref b1_2, .int 0, .int 0, .int (nI (((0 + 1) + (sb_dg v))))])), (b1_2, .inl (kC 2, w1_2, .inl g1_2))]) hP hD [0, 1] [] rfl rfl (by decide) (by decide) hkp hFc hP1 hD1
  generalize H1 = H at hP hS ⊢
  have hP : va_P D vwCl [(q1, .inr (10, [.ref b1_2, .int 0, .int 0, .int (nI (((0 + 1) + (sb_dg v))))])), (b1_2, .inl (kC 2, w1_2, .inl g1_2))] H := hP
  have hD : va_D A [(q1, .inr (10, [.ref b1_2, .int 0, .int 0, .int (nI (((0 + 1) + (sb_dg v))))])), (b1_2, .inl (kC 2, w1_2, .inl g1_2))] := hD
  dsimp only at hz
  obtain ⟨hw1_2, hf1_2, hL0⟩ := hz
  have hy1_2 : ((decL v) : List Nat).length = sb_dg v := decL_len _
  have hL1_2 := ll_catI hn1_1 hL0
  have hn1_2 := ll_len hn1_1 hy1_2
  rw [hra]
  have hPc : va_P D vwCl [] H := ws_nP
  have hDc : va_D A [] := ws_nD
  have hFc : ∀ q, va_A [] H.size q → A q := fun q h => hA q (Nat.le_trans hS.1 (ws_nA h))
  refine va_callr (va_runV (As := []) (rest := []) ⟨hx, hb, hml, hown, hts⟩ (sk_toS l D kC q1 b1_2 w1_2 (((0 + 1) + (sb_dg v))) g1_2 (lt ((([] : List Nat) ++ [32]) ++ (decL v))) hw1_2.1 (by omega) hf1_2 hL1_2 H.size) ⟨am_callB (R := jr 14 8 24100) (index := 23) 0 (jk_pay htj (am_tb_at 476 (by decide +kernel) rfl)) (hts _ (am_tb_at 476 (by decide +kernel) rfl)) rfl rfl rfl (hts _ (am_tb_at 46 (by decide +kernel) rfl)) (hts _ (am_tb_at 473 (by decide +kernel) rfl)) ⟨by decide, by decide, by decide +kernel⟩ ⟨(by show 10 + 1 ≤ 14; decide), (by show 8 + (1 + 11) + 48 * 10 ≤ 48 * 14; decide)⟩, (hts _ (am_tb_at 474 (by decide +kernel) rfl)), (hts _ (am_tb_at 475 (by decide +kernel) rfl))⟩ (ws_V (Stb_and Stb_G (Stb_B kC q1 b1_2 w1_2 (((0 + 1) + (sb_dg v))) g1_2)) (va_recv (q := (RJ4, TJ4, 4)) (q0 := 0) hK hP rfl rfl) hPc hK hDc (fun U hU hW => ⟨ws_E Stb_G hE.1 hS hU hW hFc, ws_N (Stb_B kC q1 b1_2 w1_2 (((0 + 1) + (sb_dg v))) g1_2) (ro_B hts hK hP 0 1 rfl rfl (ws_n0 hP 0 rfl) (ws_n0 hP 1 rfl)) hU hW⟩)) rfl rfl hl.1 rfl (lv_room (Nat.le_of_ble_eq_true rfl)) dk_L_signed_43 ⟨(by show 0 + 1 + 1 + 1 + 1 + 2 ≤ 8; omega), (by show 0 + 4 + 4000 + 4000 + 4000 + 4010 ≤ 24100; omega)⟩) hS (fun q _ h => hFc q h) hFc (fun u s1 t H1 locs hte hvm hz hB hsz hkp hS => ?_)
  obtain ⟨ds1, gs1⟩ := u
  obtain ⟨hP1, hD1⟩ := hB
  rw [hte] at hP1
  obtain ⟨hP, hD⟩ := va_join (wr := [(q1, .inr (10, [.ref b1_2, .int 0, .int 0, .int (nI (((0 + 1) + (sb_dg v))))])), (b1_2, .inl (kC 2, w1_2, .inl g1_2))]) (w1 := [(s1, .inr (9, [.ref ds1, .int 0, .int 0, .int 0])), (ds1, .inl (kC 2, ((0 + 1) + (sb_dg v)), .inl gs1))]) hP hD [] [0, 1] rfl rfl (by decide) (by decide) hkp hFc hP1 hD1
  generalize H1 = H at hP hS ⊢
  have hP : va_P D vwCl [(q1, .inr (10, [.ref b1_2, .int 0, .int 0, .int (nI (((0 + 1) + (sb_dg v))))])), (b1_2, .inl (kC 2, w1_2, .inl g1_2)), (s1, .inr (9, [.ref ds1, .int 0, .int 0, .int 0])), (ds1, .inl (kC 2, ((0 + 1) + (sb_dg v)), .inl gs1))] H := hP
  have hD : va_D A [(q1, .inr (10, [.ref b1_2, .int 0, .int 0, .int (nI (((0 + 1) + (sb_dg v))))])), (b1_2, .inl (kC 2, w1_2, .inl g1_2)), (s1, .inr (9, [.ref ds1, .int 0, .int 0, .int 0])), (ds1, .inl (kC 2, ((0 + 1) + (sb_dg v)), .inl gs1))] := hD
  dsimp only at hz
  obtain ⟨hfs1, hLs1⟩ := hz
  have hP := hP.sub (ws' := [(s1, .inr (9, [.ref ds1, .int 0, .int 0, .int 0])), (ds1, .inl (kC 2, ((0 + 1) + (sb_dg v)), .inl gs1))]) [2, 3] rfl
  have hD := hD.sub (ws' := [(s1, .inr (9, [.ref ds1, .int 0, .int 0, .int 0])), (ds1, .inl (kC 2, ((0 + 1) + (sb_dg v)), .inl gs1))]) [2, 3] (by decide) rfl
  have hT : ((([] : List Nat) ++ [32]) ++ (decL v)) = sgL v := by unfold sgL; rw [if_neg (by omega), Int.toNat_natCast]; rfl
  rw [hT] at hLs1 hn1_2
  rw [← hn1_2] at hLs1 hP hD
  refine W.widen (k := 8) (n := 24100) (by omega) (by omega) ?_
  exact W.aret (v := .ref s1) hx hb hr (Or.inl ⟨_, rfl⟩) (Or.inr ⟨_, rfl⟩) (fun t ht hW => ⟨⟨(ds1, gs1), s1, rfl, ⟨hfs1, hLs1⟩, by rw [ht]; exact hP, hD⟩, hS.F ht⟩) hS.2.2 dk_L_signed_46
set_option maxHeartbeats 4000000 in
set_option maxRecDepth 100000 in
theorem sk_sgN (l : Launch) (D : va_G) (kC : Nat → ClassId) (v : Nat) (h0 : 0 < v) (hv : v ≤ 100) (sz : Nat) : Met l yL_signed (.code yL_signed cL_signed 1 (some (.object "java/lang/String")) :: jk_tb) (jr 14 8 24100) (va_Pc [.int (-nI v)] (ws_B D kC (fun B U H => js_G B U H ∧ js_K 50 " -" [32, 45] B U H ∧ js_K 21 " " [32] B U H) [] sz)) (va_Qr (S := Nat × (Nat → Int32)) (fun u => sb_Fit u.2 ∧ sb_Lat (lt (sgL (-(v : Int)))) ((sgL (-(v : Int))).length) u.2) (fun u ra t => va_P D vwCl [(ra, .inr (9, [.ref u.1, .int 0, .int 0, .int 0])), (u.1, .inl (kC 2, (sgL (-(v : Int))).length, .inl (u.2)))] t.heap ∧ va_D (va_A [] sz) [(ra, .inr (9, [.ref u.1, .int 0, .int 0, .int 0])), (u.1, .inl (kC 2, (sgL (-(v : Int))).length, .inl (u.2)))]) (va_A [] sz)) 8 24100 (va_A [] sz) := by
  refine Met.ofW (cc := cL_signed) (maxL := 1) (ret := (some (.object "java/lang/String"))) (by decide +kernel) rfl ?_
  intro p e s m args below meth c s₁ B hml hv2
  obtain ⟨rfl, hsz, hP, hK, hD0, hE⟩ := hv2
  have hx := B.exec
  have hb := B.bytes
  have hr := B.returns
  have hlocks := B.notSynchronized
  have hts0 := atoms_spec (ws := (.code yL_signed cL_signed 1 (some (.object "java/lang/String")) :: jk_tb)) B.pre
  have htj := fun w (hw : w ∈ jk_tb) => hts0 w (List.mem_cons_of_mem _ hw)
  have hts := fun w (hw : w ∈ am_tb) => htj w (jk_in hw)
  have hown : s.vm.findClass yL_signed.cls = some m.cls := findClass_of_methodNamed B.named
  subst hsz
  have hD := hD0.self (sz := s.heap.size)
  generalize hAe : va_A [] s.heap.size = A at hD hE ⊢
  have hA : ∀ q : Nat, s.heap.size ≤ q → A q := fun q h => by rw [← hAe]; exact Or.inr h
  have hP : va_P D vwCl [] s.heap := hP
  have hS : va_S A s.heap s.heap [] := va_S.rf
  have hl := lv_entry ([.int (-nI v)]) (n := 1) (Nat.le_of_ble_eq_true rfl)
  rw [lg_entry_eq]
  generalize (lg_sl ([.int (-nI v)]) ++ List.replicate (1 - (lg_sl ([.int (-nI v)])).length) Slot.unset).toArray = ls at hl ⊢
  have hl : lv_has ls 1 [(0, .int (-nI v))] := hl
  have hdv := dec_le hv
  obtain ⟨-, ⟨a0, d0, hR0, hS0⟩, ⟨a1, d1, hR1, hS1⟩⟩ := id hE
  refine lv_iload_n hx hb dk_L_signed_0 rfl (lv_at hl 0 rfl) ?_
  refine lv_if_ge (tgt := 27) hx hb dk_L_signed_1 rfl (fun q => absurd q (show ¬ (0 : Int32) ≤ -nI v from fun z => by have h9 := Int32.le_iff_toInt_le.mp z; rw [sb_negT (by omega), Int32.toInt_zero] at h9; omega)) (fun _ => ?_)
  refine va_new (ci := 10) (fs := [.null, .int 0, .int 0, .int 0]) (C := RJ4) (T := TJ4) (N := 4) hx hb hts qwJ4 tyJ4 tyJ4_ok hown (hts _ (am_tb_at 288 (by decide +kernel) rfl)) (hts _ (am_tb_at 289 (by decide +kernel) rfl)) (hts _ (am_tb_at 46 (by decide +kernel) rfl)) hK hP hD hS hA rfl (fun j hj => by rcases (show j = 0 ∨ j = 1 ∨ j = 2 ∨ j = 3 by omega) with rfl | rfl | rfl | rfl <;> rfl) (by show 0 + 1 ≤ 8; omega) (by show 0 + 4 ≤ 24100; omega) dk_L_signed_4 (fun q1 H hP hD hS => ?_)
  have hP : va_P D vwCl [(q1, .inr (10, [.null, .int 0, .int 0, .int 0]))] H := hP
  have hD : va_D A [(q1, .inr (10, [.null, .int 0, .int 0, .int 0]))] := hD
  refine lv_dup hx hb dk_L_signed_7 rfl ?_
  have hPc := hP.sub (ws' := [(q1, .inr (10, [.null, .int 0, .int 0, .int 0]))]) [0] rfl
  have hDc := hD.sub (ws' := [(q1, .inr (10, [.null, .int 0, .int 0, .int 0]))]) [0] (by decide) rfl
  have hFc := va_free (wc := [(q1, .inr (10, [.null, .int 0, .int 0, .int 0]))]) hD hS hA [0] rfl
  refine va_callv (va_runI (As := []) (rest := [.ref q1]) ⟨hx, hb, hml, hown, hts⟩ (sk_sbN l D kC q1 H.size) ⟨am_callB (R := jr 14 8 24100) (index := 16) 0 (jk_pay htj (am_tb_at 292 (by decide +kernel) rfl)) (hts _ (am_tb_at 292 (by decide +kernel) rfl)) rfl rfl rfl (hts _ (am_tb_at 46 (by decide +kernel) rfl)) (hts _ (am_tb_at 290 (by decide +kernel) rfl)) ⟨by decide, by decide, by decide +kernel⟩ ⟨(by show 4 + 1 ≤ 14; decide), (by show 8 + (1 + 11) + 48 * 4 ≤ 48 * 14; decide)⟩, rfl, (hts _ (am_tb_at 291 (by decide +kernel) rfl))⟩ (ws_S Stb_G hPc hK hDc (fun U hU hW => ws_E Stb_G hE.1 hS hU hW hFc)) rfl rfl hl.1 rfl (lv_room (Nat.le_of_ble_eq_true rfl)) dk_L_signed_8 ⟨(by show 0 + 1 + 1 ≤ 8; omega), (by show 0 + 4 + 4000 ≤ 24100; omega)⟩) hS (fun q _ h => hFc q h) hFc (fun b1_0 t H1 locs hte hvm hz hB hsz hkp hS => ?_)
  obtain ⟨hP1, hD1⟩ := hB
  rw [hte] at hP1
  obtain ⟨hP, hD⟩ := va_join (wr := []) (w1 := [(q1, .inr (10, [.ref b1_0, .int 0, .int 0, .int (nI 0)])), (b1_0, .inl (kC 2, 16, .inl (fun _ => 0)))]) hP hD [0] [] rfl rfl (by decide) (by decide) hkp hFc hP1 hD1
  generalize H1 = H at hP hS ⊢
  have hP : va_P D vwCl [(q1, .inr (10, [.ref b1_0, .int 0, .int 0, .int (nI 0)])), (b1_0, .inl (kC 2, 16, .inl (fun _ => 0)))] H := hP
  have hD : va_D A [(q1, .inr (10, [.ref b1_0, .int 0, .int 0, .int (nI 0)])), (b1_0, .inl (kC 2, 16, .inl (fun _ => 0)))] := hD
  have hw1_0 : 0 ≤ 16 ∧ 16 ≤ 1700 := ⟨by decide, by decide⟩
  have hf1_0 : sb_Fit (fun _ => 0) := sb_fit0
  have hL1_0 : sb_Lat (lt []) 0 (fun _ => 0) := fun j h => absurd h (Nat.not_lt_zero _)
  have hn1_0 : ([] : List Nat).length = 0 := rfl
  refine va_ldcS hx hb hown hR0 dk_L_signed_11 ?_
  have hPc := hP.sub (ws' := [(q1, .inr (10, [.ref b1_0, .int 0, .int 0, .int (nI 0)])), (b1_0, .inl (kC 2, 16, .inl (fun _ => 0)))]) [0, 1] rfl
  have hDc := hD.sub (ws' := [(q1, .inr (10, [.ref b1_0, .int 0, .int 0, .int (nI 0)])), (b1_0, .inl (kC 2, 16, .inl (fun _ => 0)))]) [0, 1] (by decide) rfl
  have hFc := va_free (wc := [(q1, .inr (10, [.ref b1_0, .int 0, .int 0, .int (nI 0)])), (b1_0, .inl (kC 2, 16, .inl (fun _ => 0)))]) hD hS hA [0, 1] rfl
  refine va_callr (va_runV (As := [.ref a0]) (rest := []) ⟨hx, hb, hml, hown, hts⟩ (sk_sbS l D kC q1 b1_0 16 0 0 (fun _ => 0) a0 d0 2 (lt ([32, 45])) (lt ([] : List Nat)) hw1_0.1 hw1_0.2 hf1_0 hL1_0 (by omega) H.size) ⟨am_callB (R := jr 14 8 24100) (index := 17) 1 (jk_pay htj (am_tb_at 323 (by decide +kernel) rfl)) (hts _ (am_tb_at 323 (by decide +kernel) rfl)) rfl rfl rfl (hts _ (am_tb_at 46 (by decide +kernel) rfl)) (hts _ (am_tb_at 320 (by decide +kernel) rfl)) ⟨by decide, by decide, by decide +kernel⟩ ⟨(by show 13 + 1 ≤ 14; decide), (by show 8 + (2 + 11) + 48 * 13 ≤ 48 * 14; decide)⟩, (hts _ (am_tb_at 321 (by decide +kernel) rfl)), (hts _ (am_tb_at 322 (by decide +kernel) rfl))⟩ (ws_V (Stb_and Stb_G (Stb_S a0 d0 2 (lt ([32, 45])))) (va_recv (q := (RJ4, TJ4, 4)) (q0 := 0) hK hP rfl rfl) hPc hK hDc (fun U hU hW => ⟨ws_E Stb_G hE.1 hS hU hW hFc, ws_E (Stb_S a0 d0 2 (lt [32, 45])) hS0 hS hU hW hFc⟩)) rfl rfl hl.1 rfl (lv_room (Nat.le_of_ble_eq_true rfl)) dk_L_signed_13 ⟨(by show 0 + 1 + 1 + 1 ≤ 8; omega), (by show 0 + 4 + 4000 + 4000 ≤ 24100; omega)⟩) hS (fun q _ h => hFc q h) hFc (fun u ra t H1 locs hte hvm hz hB hsz hkp hS => ?_)
  obtain ⟨b1_1, w1_1, g1_1⟩ := u
  obtain ⟨hra, hP1, hD1⟩ := hB
  rw [hte] at hP1
  obtain ⟨hP, hD⟩ := va_join (wr := []) (w1 := [(q1, .inr (10, [.ref b1_1, .int 0, .int 0, .int (nI ((0 + 2)))])), (b1_1, .inl (kC 2, w1_1, .inl g1_1))]) hP hD [0, 1] [] rfl rfl (by decide) (by decide) hkp hFc hP1 hD1
  generalize H1 = H at hP hS ⊢
  have hP : va_P D vwCl [(q1, .inr (10, [.ref b1_1, .int 0, .int 0, .int (nI ((0 + 2)))])), (b1_1, .inl (kC 2, w1_1, .inl g1_1))] H := hP
  have hD : va_D A [(q1, .inr (10, [.ref b1_1, .int 0, .int 0, .int (nI ((0 + 2)))])), (b1_1, .inl (kC 2, w1_1, .inl g1_1))] := hD
  dsimp only at hz
  obtain ⟨hw1_1, hf1_1, hL0⟩ := hz
  have hy1_1 : ([32, 45] : List Nat).length = 2 := rfl
  have hL1_1 := ll_cat hn1_0 hy1_1 hL0
  have hn1_1 := ll_len hn1_0 hy1_1
  rw [hra]
  refine lv_iload_n hx hb dk_L_signed_16 rfl (lv_at hl 0 rfl) ?_
  refine lv_ineg hx hb dk_L_signed_17 ?_
  rw [show ((-(-nI v)) : Int32) = nI v from Int32.neg_neg]
  have hPc := hP.sub (ws' := [(q1, .inr (10, [.ref b1_1, .int 0, .int 0, .int (nI ((0 + 2)))])), (b1_1, .inl (kC 2, w1_1, .inl g1_1))]) [0, 1] rfl
  have hDc := hD.sub (ws' := [(q1, .inr (10, [.ref b1_1, .int 0, .int 0, .int (nI ((0 + 2)))])), (b1_1, .inl (kC 2, w1_1, .inl g1_1))]) [0, 1] (by decide) rfl
  have hFc := va_free (wc := [(q1, .inr (10, [.ref b1_1, .int 0, .int 0, .int (nI ((0 + 2)))])), (b1_1, .inl (kC 2, w1_1, .inl g1_1))]) hD hS hA [0, 1] rfl
  refine va_callr (va_runV (As := [.int (nI v)]) (rest := []) ⟨hx, hb, hml, hown, hts⟩ (sk_sbI l D kC q1 b1_1 w1_1 (0 + 2) 0 g1_1 v hv (lt (([] : List Nat) ++ [32, 45])) hw1_1.1 hw1_1.2 hf1_1 hL1_1 (by omega) H.size) ⟨am_callB (R := jr 14 8 24100) (index := 52) 1 (jk_pay htj (am_tb_at 446 (by decide +kernel) rfl)) (hts _ (am_tb_at 446 (by decide +kernel) rfl)) rfl rfl rfl (hts _ (am_tb_at 46 (by decide +kernel) rfl)) (hts _ (am_tb_at 443 (by decide +kernel) rfl)) ⟨by decide, by decide, by decide +kernel⟩ ⟨(by show 13 + 1 ≤ 14; decide), (by show 8 + (2 + 11) + 48 * 13 ≤ 48 * 14; decide)⟩, (hts _ (am_tb_at 444 (by decide +kernel) rfl)), (hts _ (am_tb_at 445 (by decide +kernel) rfl))⟩ (ws_V Stb_G (va_recv (q := (RJ4, TJ4, 4)) (q0 := 0) hK hP rfl rfl) hPc hK hDc (fun U hU hW => ws_E Stb_G hE.1 hS hU hW hFc)) rfl rfl hl.1 rfl (lv_room (Nat.le_of_ble_eq_true rfl)) dk_L_signed_18 ⟨(by show 0 + 1 + 1 + 1 + 1 ≤ 8; omega), (by show 0 + 4 + 4000 + 4000 + 4000 ≤ 24100; omega)⟩) hS (fun q _ h => hFc q h) hFc (fun u ra t H1 locs hte hvm hz hB hsz hkp hS => ?_)
  obtain ⟨b1_2, w1_2, g1_2⟩ := u
  obtain ⟨hra, hP1, hD1⟩ := hB
  rw [hte] at hP1
  obtain ⟨hP, hD⟩ := va_join (wr := []) (w1 := [(q1, .inr (10, [.ref b1_2, .int 0, .int 0, .int (nI (((0 + 2) + (sb_dg v))))])), (b1_2, .inl (kC 2, w1_2, .inl g1_2))]) hP hD [0, 1] [] rfl rfl (by decide) (by decide) hkp hFc hP1 hD1
  generalize H1 = H at hP hS ⊢
  have hP : va_P D vwCl [(q1, .inr (10, [.ref b1_2, .int 0, .int 0, .int (nI (((0 + 2) + (sb_dg v))))])), (b1_2, .inl (kC 2, w1_2, .inl g1_2))] H := hP
  have hD : va_D A [(q1, .inr (10, [.ref b1_2, .int 0, .int 0, .int (nI (((0 + 2) + (sb_dg v))))])), (b1_2, .inl (kC 2, w1_2, .inl g1_2))] := hD
  dsimp only at hz
  obtain ⟨hw1_2, hf1_2, hL0⟩ := hz
  have hy1_2 : ((decL v) : List Nat).length = sb_dg v := decL_len _
  have hL1_2 := ll_catI hn1_1 hL0
  have hn1_2 := ll_len hn1_1 hy1_2
  rw [hra]
  have hPc : va_P D vwCl [] H := ws_nP
  have hDc : va_D A [] := ws_nD
  have hFc : ∀ q, va_A [] H.size q → A q := fun q h => hA q (Nat.le_trans hS.1 (ws_nA h))
  refine va_callr (va_runV (As := []) (rest := []) ⟨hx, hb, hml, hown, hts⟩ (sk_toS l D kC q1 b1_2 w1_2 (((0 + 2) + (sb_dg v))) g1_2 (lt ((([] : List Nat) ++ [32, 45]) ++ (decL v))) hw1_2.1 (by omega) hf1_2 hL1_2 H.size) ⟨am_callB (R := jr 14 8 24100) (index := 23) 0 (jk_pay htj (am_tb_at 476 (by decide +kernel) rfl)) (hts _ (am_tb_at 476 (by decide +kernel) rfl)) rfl rfl rfl (hts _ (am_tb_at 46 (by decide +kernel) rfl)) (hts _ (am_tb_at 473 (by decide +kernel) rfl)) ⟨by decide, by decide, by decide +kernel⟩ ⟨(by show 10 + 1 ≤ 14; decide), (by show 8 + (1 + 11) + 48 * 10 ≤ 48 * 14; decide)⟩, (hts _ (am_tb_at 474 (by decide +kernel) rfl)), (hts _ (am_tb_at 475 (by decide +kernel) rfl))⟩ (ws_V (Stb_and Stb_G (Stb_B kC q1 b1_2 w1_2 (((0 + 2) + (sb_dg v))) g1_2)) (va_recv (q := (RJ4, TJ4, 4)) (q0 := 0) hK hP rfl rfl) hPc hK hDc (fun U hU hW => ⟨ws_E Stb_G hE.1 hS hU hW hFc, ws_N (Stb_B kC q1 b1_2 w1_2 (((0 + 2) + (sb_dg v))) g1_2) (ro_B hts hK hP 0 1 rfl rfl (ws_n0 hP 0 rfl) (ws_n0 hP 1 rfl)) hU hW⟩)) rfl rfl hl.1 rfl (lv_room (Nat.le_of_ble_eq_true rfl)) dk_L_signed_21 ⟨(by show 0 + 1 + 1 + 1 + 1 + 2 ≤ 8; omega), (by show 0 + 4 + 4000 + 4000 + 4000 + 4010 ≤ 24100; omega)⟩) hS (fun q _ h => hFc q h) hFc (fun u s1 t H1 locs hte hvm hz hB hsz hkp hS => ?_)
  obtain ⟨ds1, gs1⟩ := u
  obtain ⟨hP1, hD1⟩ := hB
  rw [hte] at hP1
  obtain ⟨hP, hD⟩ := va_join (wr := [(q1, .inr (10, [.ref b1_2, .int 0, .int 0, .int (nI (((0 + 2) + (sb_dg v))))])), (b1_2, .inl (kC 2, w1_2, .inl g1_2))]) (w1 := [(s1, .inr (9, [.ref ds1, .int 0, .int 0, .int 0])), (ds1, .inl (kC 2, ((0 + 2) + (sb_dg v)), .inl gs1))]) hP hD [] [0, 1] rfl rfl (by decide) (by decide) hkp hFc hP1 hD1
  generalize H1 = H at hP hS ⊢
  have hP : va_P D vwCl [(q1, .inr (10, [.ref b1_2, .int 0, .int 0, .int (nI (((0 + 2) + (sb_dg v))))])), (b1_2, .inl (kC 2, w1_2, .inl g1_2)), (s1, .inr (9, [.ref ds1, .int 0, .int 0, .int 0])), (ds1, .inl (kC 2, ((0 + 2) + (sb_dg v)), .inl gs1))] H := hP
  have hD : va_D A [(q1, .inr (10, [.ref b1_2, .int 0, .int 0, .int (nI (((0 + 2) + (sb_dg v))))])), (b1_2, .inl (kC 2, w1_2, .inl g1_2)), (s1, .inr (9, [.ref ds1, .int 0, .int 0, .int 0])), (ds1, .inl (kC 2, ((0 + 2) + (sb_dg v)), .inl gs1))] := hD
  dsimp only at hz
  obtain ⟨hfs1, hLs1⟩ := hz
  have hP := hP.sub (ws' := [(s1, .inr (9, [.ref ds1, .int 0, .int 0, .int 0])), (ds1, .inl (kC 2, ((0 + 2) + (sb_dg v)), .inl gs1))]) [2, 3] rfl
  have hD := hD.sub (ws' := [(s1, .inr (9, [.ref ds1, .int 0, .int 0, .int 0])), (ds1, .inl (kC 2, ((0 + 2) + (sb_dg v)), .inl gs1))]) [2, 3] (by decide) rfl
  refine lv_goto (tgt := 46) hx hb dk_L_signed_24 rfl ?_
  have hT : ((([] : List Nat) ++ [32, 45]) ++ (decL v)) = sgL (-(v : Int)) := by unfold sgL; rw [if_pos (by omega), Int.neg_neg, Int.toNat_natCast]; rfl
  rw [hT] at hLs1 hn1_2
  rw [← hn1_2] at hLs1 hP hD
  refine W.widen (k := 8) (n := 24100) (by omega) (by omega) ?_
  exact W.aret (v := .ref s1) hx hb hr (Or.inl ⟨_, rfl⟩) (Or.inr ⟨_, rfl⟩) (fun t ht hW => ⟨⟨(ds1, gs1), s1, rfl, ⟨hfs1, hLs1⟩, by rw [ht]; exact hP, hD⟩, hS.F ht⟩) hS.2.2 dk_L_signed_46
theorem sk_signed (l : Launch) (D : va_G) (kC : Nat → ClassId) (v : Int) (h1 : -100 ≤ v) (h2 : v ≤ 100) (sz : Nat) : Met l yL_signed (.code yL_signed cL_signed 1 (some (.object "java/lang/String")) :: jk_tb) (jr 14 8 24100) (va_Pc [.int (Int32.ofInt v)] (ws_B D kC (fun B U H => js_G B U H ∧ js_K 50 " -" [32, 45] B U H ∧ js_K 21 " " [32] B U H) [] sz)) (va_Qr (S := Nat × (Nat → Int32)) (fun u => sb_Fit u.2 ∧ sb_Lat (lt (sgL v)) ((sgL v).length) u.2) (fun u ra t => va_P D vwCl [(ra, .inr (9, [.ref u.1, .int 0, .int 0, .int 0])), (u.1, .inl (kC 2, (sgL v).length, .inl (u.2)))] t.heap ∧ va_D (va_A [] sz) [(ra, .inr (9, [.ref u.1, .int 0, .int 0, .int 0])), (u.1, .inl (kC 2, (sgL v).length, .inl (u.2)))]) (va_A [] sz)) 8 24100 (va_A [] sz) := by
  by_cases h : v < 0
  · obtain ⟨m, rfl⟩ : ∃ m : Nat, v = -(m : Int) := ⟨(-v).toNat, by omega⟩
    rw [i3_neg (by omega)]
    exact sk_sgN l D kC m (by omega) (by omega) sz
  · obtain ⟨m, rfl⟩ : ∃ m : Nat, v = (m : Int) := ⟨v.toNat, by omega⟩
    rw [i3_nat]
    exact sk_sgP l D kC m (by omega) sz
def ptC (L : Nat) (xs : Nat → Int32) (c : Nat) : Nat := 2 + inV (ceV L xs (1 + c)) 3
def ptX (L : Nat) (xs : Nat → Int32) (c k : Nat) : Int32 := ceV L xs (1 + c) >>> (nI (6 * k) &&& 31)
def ptN (L : Nat) (xs : Nat → Int32) (c k w : Nat) : Nat := if w = 2 then 1 + inV (ptX L xs c k / 4) 3 else if w = 0 then inV (ptX L xs c k / 16) 21 else inV (ptX L xs c k / 16 * 7 + ceV L xs (1 + c) / 64) 21
theorem ptC_b {L : Nat} {xs : Nat → Int32} {c : Nat} : 2 ≤ ptC L xs c ∧ ptC L xs c ≤ 4 := by
  have := inV_lt (x := ceV L xs (1 + c)) (m := 3) (by decide)
  unfold ptC
  omega
theorem ptN_b {L : Nat} {xs : Nat → Int32} {c k w : Nat} : ptN L xs c k w ≤ 20 ∧ (w = 2 → 1 ≤ ptN L xs c k w ∧ ptN L xs c k w ≤ 3) := by
  unfold ptN
  have h1 := inV_lt (x := ptX L xs c k / 4) (m := 3) (by decide)
  have h2 := inV_lt (x := ptX L xs c k / 16) (m := 21) (by decide)
  have h3 := inV_lt (x := ptX L xs c k / 16 * 7 + ceV L xs (1 + c) / 64) (m := 21) (by decide)
  split
  · omega
  · split <;> omega
theorem cvN_b {L : Nat} {xs : Nat → Int32} : 1 ≤ cvN L xs ∧ cvN L xs ≤ 5 := by
  have := inV_lt (x := ceV L xs 0) (m := 5) (by decide)
  unfold cvN; omega
theorem lnN_b {L : Nat} {xs : Nat → Int32} : 1 ≤ lnN L xs ∧ lnN L xs ≤ 4 := by
  have := inV_lt (x := ceV L xs 0 / 8) (m := 4) (by decide)
  unfold lnN; omega
theorem ltN_b {L : Nat} {xs : Nat → Int32} : 1 ≤ ltN L xs ∧ ltN L xs ≤ 12 := by
  have := inV_lt (x := ceV L xs 0 / 32) (m := 12) (by decide)
  unfold ltN; omega
theorem dpN_b {L : Nat} {xs : Nat → Int32} : 1 ≤ dpN L xs ∧ dpN L xs ≤ 4 := by
  have := inV_lt (x := ceV L xs 0 / 512) (m := 4) (by decide)
  unfold dpN; omega
def lnA (L : Nat) (xs : Nat → Int32) (j : Nat) : Int := (inV (ceV L xs (6 + j)) 11 : Int) - 5
def lnB (L : Nat) (xs : Nat → Int32) (j : Nat) : Int := (inV (ceV L xs (6 + j) / 11) 11 : Int) - 5
def lnV (L : Nat) (xs : Nat → Int32) (j w : Nat) : Int := if w = 2 then (inV (ceV L xs (6 + j) / 128) 201 : Int) - 100 else if w = 0 then lnA L xs j else if lnA L xs j = 0 then (if lnB L xs j = 0 then 1 else lnB L xs j) else lnB L xs j
theorem lnV_b {L : Nat} {xs : Nat → Int32} {j w : Nat} : -100 ≤ lnV L xs j w ∧ lnV L xs j w ≤ 100 ∧ (w ≠ 2 → -5 ≤ lnV L xs j w ∧ lnV L xs j w ≤ 5) ∧ (lnV L xs j 0 ≠ 0 ∨ lnV L xs j 1 ≠ 0) := by
  have h1 := inV_lt (x := ceV L xs (6 + j)) (m := 11) (by decide)
  have h2 := inV_lt (x := ceV L xs (6 + j) / 11) (m := 11) (by decide)
  have h3 := inV_lt (x := ceV L xs (6 + j) / 128) (m := 201) (by decide)
  unfold lnV lnA lnB
  refine ⟨?_, ?_, fun hw => ?_, ?_⟩
  · split; omega; split; omega; split; (split <;> omega); omega
  · split; omega; split; omega; split; (split <;> omega); omega
  · rw [if_neg hw]; split; omega; split; (split <;> omega); omega
  · rw [if_neg (by decide), if_pos rfl, if_neg (by decide), if_neg (by decide)]
    split
    · right; split <;> omega
    · left; assumption
theorem i3_sub (a b : Nat) : nI a - nI b = Int32.ofInt ((a : Int) - b) := by
  rw [Int32.ofInt_sub]
  rfl
theorem dk_L_points_0 : decode cL_points 0 = .ok (.iconst 2, 1) := by decide +kernel
theorem dk_L_points_1 : decode cL_points 1 = .ok (.aload_n 0, 1) := by decide +kernel
theorem dk_L_points_2 : decode cL_points 2 = .ok (.iconst 1, 1) := by decide +kernel
theorem dk_L_points_3 : decode cL_points 3 = .ok (.iload_n 1, 1) := by decide +kernel
theorem dk_L_points_4 : decode cL_points 4 = .ok (.iadd, 1) := by decide +kernel
theorem dk_L_points_5 : decode cL_points 5 = .ok (.invokestatic 37, 3) := by decide +kernel
theorem dk_L_points_8 : decode cL_points 8 = .ok (.iconst 3, 1) := by decide +kernel
theorem dk_L_points_9 : decode cL_points 9 = .ok (.invokestatic 43, 3) := by decide +kernel
theorem dk_L_points_12 : decode cL_points 12 = .ok (.iadd, 1) := by decide +kernel
theorem dk_L_points_13 : decode cL_points 13 = .ok (.ireturn, 1) := by decide +kernel
set_option maxHeartbeats 4000000 in
set_option maxRecDepth 100000 in
theorem sk_points (l : Launch) (D : va_G) (kC : Nat → ClassId) (bs L : Nat) (xs : Nat → Int32) (hLb : L < 1000) (ci : Nat) (hci : ci ≤ 100) (sz : Nat) : Met l yL_points (.code yL_points cL_points 2 (some .int) :: jk_tb) (jr 2 0 0) (va_Pc [.ref bs, .int (nI ci)] (ws_B D kC (fun B U H => js_G B U H ∧ scX bs L xs B U H) [] sz)) (va_Qi (S := Unit) (fun r _ => r = nI (ptC L xs ci)) (fun _ _ => True) (va_A [] sz)) 0 0 (va_A [] sz) := by
  refine Met.ofW (cc := cL_points) (maxL := 2) (ret := (some .int)) (by decide +kernel) rfl ?_
  intro p e s m args below meth c s₁ B hml hv2
  obtain ⟨rfl, hsz, hP, hK, hD0, hE⟩ := hv2
  have hx := B.exec
  have hb := B.bytes
  have hr := B.returns
  have hlocks := B.notSynchronized
  have hts0 := atoms_spec (ws := (.code yL_points cL_points 2 (some .int) :: jk_tb)) B.pre
  have htj := fun w (hw : w ∈ jk_tb) => hts0 w (List.mem_cons_of_mem _ hw)
  have hts := fun w (hw : w ∈ am_tb) => htj w (jk_in hw)
  have hown : s.vm.findClass yL_points.cls = some m.cls := findClass_of_methodNamed B.named
  subst hsz
  have hD := hD0.self (sz := s.heap.size)
  generalize hAe : va_A [] s.heap.size = A at hD hE ⊢
  have hA : ∀ q : Nat, s.heap.size ≤ q → A q := fun q h => by rw [← hAe]; exact Or.inr h
  have hP : va_P D vwCl [] s.heap := hP
  have hS : va_S A s.heap s.heap [] := va_S.rf
  have hl := lv_entry ([.ref bs, .int (nI ci)]) (n := 2) (Nat.le_of_ble_eq_true rfl)
  rw [lg_entry_eq]
  generalize (lg_sl ([.ref bs, .int (nI ci)]) ++ List.replicate (2 - (lg_sl ([.ref bs, .int (nI ci)])).length) Slot.unset).toArray = ls at hl ⊢
  have hl : lv_has ls 2 [(0, .ref bs), (1, .int (nI ci))] := hl
  refine lv_iconst (v := 2) hx hb dk_L_points_0 (by decide) ?_
  refine lv_aload_n hx hb dk_L_points_1 rfl (lv_at hl 0 rfl) ?_
  refine lv_iconst (v := 1) hx hb dk_L_points_2 (by decide) ?_
  refine lv_iload_n hx hb dk_L_points_3 rfl (lv_at hl 1 rfl) ?_
  refine lv_iadd hx hb dk_L_points_4 ?_
  rw [show ((1 + (nI ci)) : Int32) = nI (1 + ci) from (nI_add 1 ci)]
  have hPc : va_P D vwCl [] s.heap := ws_nP
  have hDc : va_D A [] := ws_nD
  have hFc : ∀ q, va_A [] s.heap.size q → A q := fun q h => hA q (Nat.le_trans hS.1 (ws_nA h))
  refine va_calli (va_runS (As := [.ref bs, .int (nI (1 + ci))]) (rest := [.int 2]) ⟨hx, hb, hml, hown, hts⟩ (sk_cell l D kC bs L xs hLb (1 + ci) (by omega) s.heap.size) ⟨am_callB (R := jr 2 0 0) (index := 37) 2 (jk_pay htj (am_tb_at 63 (by decide +kernel) rfl)) (hts _ (am_tb_at 63 (by decide +kernel) rfl)) rfl rfl rfl (hts _ (am_tb_at 34 (by decide +kernel) rfl)) (hts _ (am_tb_at 61 (by decide +kernel) rfl)) ⟨by decide, by decide, by decide +kernel⟩ ⟨(by show 1 + 1 ≤ 2; decide), (by show 8 + (2 + 11) + 48 * 1 ≤ 48 * 2; decide)⟩, (hts _ (am_tb_at 62 (by decide +kernel) rfl))⟩ (ws_S (Stb_and Stb_G (Stb_X bs L xs)) hPc hK hDc (fun U hU hW => ws_E (Stb_and Stb_G (Stb_X bs L xs)) hE hS hU hW hFc)) rfl rfl hl.1 rfl (lv_room (Nat.le_of_ble_eq_true rfl)) dk_L_points_5 ⟨(by show 0 + 0 ≤ 0; omega), (by show 0 + 0 ≤ 0; omega)⟩) hS (fun q _ h => hFc q h) hFc (fun r0 u t H1 locs hte hvm hz hB hsz hkp hS => ?_)
  have hP : va_P D vwCl [] H1 := ws_nP
  generalize H1 = H at hP hS ⊢
  subst hz
  refine lv_iconst (v := 3) hx hb dk_L_points_8 (by decide) ?_
  have hPc : va_P D vwCl [] H := ws_nP
  have hDc : va_D A [] := ws_nD
  have hFc : ∀ q, va_A [] H.size q → A q := fun q h => hA q (Nat.le_trans hS.1 (ws_nA h))
  refine va_calli (va_runS (As := [.int (ceV L xs (1 + ci)), .int 3]) (rest := [.int 2]) ⟨hx, hb, hml, hown, hts⟩ (sk_in l D kC (ceV L xs (1 + ci)) 3 (by decide) (by decide) H.size) ⟨am_callB (R := jr 2 0 0) (index := 43) 2 (jk_pay htj (am_tb_at 66 (by decide +kernel) rfl)) (hts _ (am_tb_at 66 (by decide +kernel) rfl)) rfl rfl rfl (hts _ (am_tb_at 34 (by decide +kernel) rfl)) (hts _ (am_tb_at 64 (by decide +kernel) rfl)) ⟨by decide, by decide, by decide +kernel⟩ ⟨(by show 1 + 1 ≤ 2; decide), (by show 8 + (2 + 11) + 48 * 1 ≤ 48 * 2; decide)⟩, (hts _ (am_tb_at 65 (by decide +kernel) rfl))⟩ (ws_S Stb_G hPc hK hDc (fun U hU hW => ws_E Stb_G hE.1 hS hU hW hFc)) rfl rfl hl.1 rfl (lv_room (Nat.le_of_ble_eq_true rfl)) dk_L_points_9 ⟨(by show 0 + 0 + 0 ≤ 0; omega), (by show 0 + 0 + 0 ≤ 0; omega)⟩) hS (fun q _ h => hFc q h) hFc (fun r0 u t H1 locs hte hvm hz hB hsz hkp hS => ?_)
  have hP : va_P D vwCl [] H1 := ws_nP
  generalize H1 = H at hP hS ⊢
  subst hz
  refine lv_iadd hx hb dk_L_points_12 ?_
  rw [show ((2 + (nI (inV (ceV L xs (1 + ci)) 3))) : Int32) = nI (ptC L xs ci) from (nI_add 2 _)]
  refine W.widen (k := 0) (n := 0) (by omega) (by omega) ?_
  exact W.iret (v := (nI (ptC L xs ci))) hx hb hr (fun t ht hW => ⟨⟨(nI (ptC L xs ci)), (), rfl, rfl, trivial⟩, hS.F ht⟩) hS.2.2 dk_L_points_13
theorem dk_L_point_0 : decode cL_point 0 = .ok (.aload_n 0, 1) := by decide +kernel
theorem dk_L_point_1 : decode cL_point 1 = .ok (.iconst 1, 1) := by decide +kernel
theorem dk_L_point_2 : decode cL_point 2 = .ok (.iload_n 1, 1) := by decide +kernel
theorem dk_L_point_3 : decode cL_point 3 = .ok (.iadd, 1) := by decide +kernel
theorem dk_L_point_4 : decode cL_point 4 = .ok (.invokestatic 37, 3) := by decide +kernel
theorem dk_L_point_7 : decode cL_point 7 = .ok (.bipush 6, 2) := by decide +kernel
theorem dk_L_point_9 : decode cL_point 9 = .ok (.iload_n 2, 1) := by decide +kernel
theorem dk_L_point_10 : decode cL_point 10 = .ok (.imul, 1) := by decide +kernel
theorem dk_L_point_11 : decode cL_point 11 = .ok (.ishr, 1) := by decide +kernel
theorem dk_L_point_12 : decode cL_point 12 = .ok (.istore 4, 2) := by decide +kernel
theorem dk_L_point_14 : decode cL_point 14 = .ok (.iload_n 3, 1) := by decide +kernel
theorem dk_L_point_15 : decode cL_point 15 = .ok (.iconst 2, 1) := by decide +kernel
theorem dk_L_point_16 : decode cL_point 16 = .ok (.if_icmp .ne 16, 3) := by decide +kernel
theorem dk_L_point_19 : decode cL_point 19 = .ok (.iconst 1, 1) := by decide +kernel
theorem dk_L_point_20 : decode cL_point 20 = .ok (.iload 4, 2) := by decide +kernel
theorem dk_L_point_22 : decode cL_point 22 = .ok (.iconst 4, 1) := by decide +kernel
theorem dk_L_point_23 : decode cL_point 23 = .ok (.idiv, 1) := by decide +kernel
theorem dk_L_point_24 : decode cL_point 24 = .ok (.iconst 3, 1) := by decide +kernel
theorem dk_L_point_25 : decode cL_point 25 = .ok (.invokestatic 43, 3) := by decide +kernel
theorem dk_L_point_28 : decode cL_point 28 = .ok (.iadd, 1) := by decide +kernel
theorem dk_L_point_29 : decode cL_point 29 = .ok (.goto 44, 3) := by decide +kernel
theorem dk_L_point_32 : decode cL_point 32 = .ok (.iload_n 3, 1) := by decide +kernel
theorem dk_L_point_33 : decode cL_point 33 = .ok (.ifCond .ne 16, 3) := by decide +kernel
theorem dk_L_point_36 : decode cL_point 36 = .ok (.iload 4, 2) := by decide +kernel
theorem dk_L_point_38 : decode cL_point 38 = .ok (.bipush 16, 2) := by decide +kernel
theorem dk_L_point_40 : decode cL_point 40 = .ok (.idiv, 1) := by decide +kernel
theorem dk_L_point_41 : decode cL_point 41 = .ok (.bipush 21, 2) := by decide +kernel
theorem dk_L_point_43 : decode cL_point 43 = .ok (.invokestatic 43, 3) := by decide +kernel
theorem dk_L_point_46 : decode cL_point 46 = .ok (.goto 27, 3) := by decide +kernel
theorem dk_L_point_49 : decode cL_point 49 = .ok (.iload 4, 2) := by decide +kernel
theorem dk_L_point_51 : decode cL_point 51 = .ok (.bipush 16, 2) := by decide +kernel
theorem dk_L_point_53 : decode cL_point 53 = .ok (.idiv, 1) := by decide +kernel
theorem dk_L_point_54 : decode cL_point 54 = .ok (.bipush 7, 2) := by decide +kernel
theorem dk_L_point_56 : decode cL_point 56 = .ok (.imul, 1) := by decide +kernel
theorem dk_L_point_57 : decode cL_point 57 = .ok (.aload_n 0, 1) := by decide +kernel
theorem dk_L_point_58 : decode cL_point 58 = .ok (.iconst 1, 1) := by decide +kernel
theorem dk_L_point_59 : decode cL_point 59 = .ok (.iload_n 1, 1) := by decide +kernel
theorem dk_L_point_60 : decode cL_point 60 = .ok (.iadd, 1) := by decide +kernel
theorem dk_L_point_61 : decode cL_point 61 = .ok (.invokestatic 37, 3) := by decide +kernel
theorem dk_L_point_64 : decode cL_point 64 = .ok (.bipush 64, 2) := by decide +kernel
theorem dk_L_point_66 : decode cL_point 66 = .ok (.idiv, 1) := by decide +kernel
theorem dk_L_point_67 : decode cL_point 67 = .ok (.iadd, 1) := by decide +kernel
theorem dk_L_point_68 : decode cL_point 68 = .ok (.bipush 21, 2) := by decide +kernel
theorem dk_L_point_70 : decode cL_point 70 = .ok (.invokestatic 43, 3) := by decide +kernel
theorem dk_L_point_73 : decode cL_point 73 = .ok (.ireturn, 1) := by decide +kernel
set_option maxHeartbeats 4000000 in
set_option maxRecDepth 100000 in
theorem sk_point2 (l : Launch) (D : va_G) (kC : Nat → ClassId) (bs L : Nat) (xs : Nat → Int32) (hLb : L < 1000) (ci ki : Nat) (hci : ci ≤ 100) (hki : ki ≤ 10) (sz : Nat) : Met l yL_point (.code yL_point cL_point 5 (some .int) :: jk_tb) (jr 2 0 0) (va_Pc [.ref bs, .int (nI ci), .int (nI ki), .int 2] (ws_B D kC (fun B U H => js_G B U H ∧ scX bs L xs B U H) [] sz)) (va_Qi (S := Unit) (fun r _ => r = nI (ptN L xs ci ki 2)) (fun _ _ => True) (va_A [] sz)) 0 0 (va_A [] sz) := by
  refine Met.ofW (cc := cL_point) (maxL := 5) (ret := (some .int)) (by decide +kernel) rfl ?_
  intro p e s m args below meth c s₁ B hml hv2
  obtain ⟨rfl, hsz, hP, hK, hD0, hE⟩ := hv2
  have hx := B.exec
  have hb := B.bytes
  have hr := B.returns
  have hlocks := B.notSynchronized
  have hts0 := atoms_spec (ws := (.code yL_point cL_point 5 (some .int) :: jk_tb)) B.pre
  have htj := fun w (hw : w ∈ jk_tb) => hts0 w (List.mem_cons_of_mem _ hw)
  have hts := fun w (hw : w ∈ am_tb) => htj w (jk_in hw)
  have hown : s.vm.findClass yL_point.cls = some m.cls := findClass_of_methodNamed B.named
  subst hsz
  have hD := hD0.self (sz := s.heap.size)
  generalize hAe : va_A [] s.heap.size = A at hD hE ⊢
  have hA : ∀ q : Nat, s.heap.size ≤ q → A q := fun q h => by rw [← hAe]; exact Or.inr h
  have hP : va_P D vwCl [] s.heap := hP
  have hS : va_S A s.heap s.heap [] := va_S.rf
  have hl := lv_entry ([.ref bs, .int (nI ci), .int (nI ki), .int 2]) (n := 5) (Nat.le_of_ble_eq_true rfl)
  rw [lg_entry_eq]
  generalize (lg_sl ([.ref bs, .int (nI ci), .int (nI ki), .int 2]) ++ List.replicate (5 - (lg_sl ([.ref bs, .int (nI ci), .int (nI ki), .int 2])).length) Slot.unset).toArray = ls at hl ⊢
  have hl : lv_has ls 5 [(0, .ref bs), (1, .int (nI ci)), (2, .int (nI ki)), (3, .int 2)] := hl
  refine lv_aload_n hx hb dk_L_point_0 rfl (lv_at hl 0 rfl) ?_
  refine lv_iconst (v := 1) hx hb dk_L_point_1 (by decide) ?_
  refine lv_iload_n hx hb dk_L_point_2 rfl (lv_at hl 1 rfl) ?_
  refine lv_iadd hx hb dk_L_point_3 ?_
  rw [show ((1 + (nI ci)) : Int32) = nI (1 + ci) from (nI_add 1 ci)]
  have hPc : va_P D vwCl [] s.heap := ws_nP
  have hDc : va_D A [] := ws_nD
  have hFc : ∀ q, va_A [] s.heap.size q → A q := fun q h => hA q (Nat.le_trans hS.1 (ws_nA h))
  refine va_calli (va_runS (As := [.ref bs, .int (nI (1 + ci))]) (rest := []) ⟨hx, hb, hml, hown, hts⟩ (sk_cell l D kC bs L xs hLb (1 + ci) (by omega) s.heap.size) ⟨am_callB (R := jr 2 0 0) (index := 37) 2 (jk_pay htj (am_tb_at 63 (by decide +kernel) rfl)) (hts _ (am_tb_at 63 (by decide +kernel) rfl)) rfl rfl rfl (hts _ (am_tb_at 34 (by decide +kernel) rfl)) (hts _ (am_tb_at 61 (by decide +kernel) rfl)) ⟨by decide, by decide, by decide +kernel⟩ ⟨(by show 1 + 1 ≤ 2; decide), (by show 8 + (2 + 11) + 48 * 1 ≤ 48 * 2; decide)⟩, (hts _ (am_tb_at 62 (by decide +kernel) rfl))⟩ (ws_S (Stb_and Stb_G (Stb_X bs L xs)) hPc hK hDc (fun U hU hW => ws_E (Stb_and Stb_G (Stb_X bs L xs)) hE hS hU hW hFc)) rfl rfl hl.1 rfl (lv_room (Nat.le_of_ble_eq_true rfl)) dk_L_point_4 ⟨(by show 0 + 0 ≤ 0; omega), (by show 0 + 0 ≤ 0; omega)⟩) hS (fun q _ h => hFc q h) hFc (fun r0 u t H1 locs hte hvm hz hB hsz hkp hS => ?_)
  have hP : va_P D vwCl [] H1 := ws_nP
  generalize H1 = H at hP hS ⊢
  subst hz
  refine lv_bipush (v := 6) hx hb dk_L_point_7 (by decide) ?_
  refine lv_iload_n hx hb dk_L_point_9 rfl (lv_at hl 2 rfl) ?_
  refine lv_imul hx hb dk_L_point_10 ?_
  rw [show ((6 * (nI ki)) : Int32) = nI (6 * ki) from (nI_mul (a := 6))]
  refine lv_ishr hx hb dk_L_point_11 ?_
  rw [show ((((ceV L xs (1 + ci)) : Int32) >>> (((nI (6 * ki)) : Int32) &&& 31)) : Int32) = ptX L xs ci ki from rfl]
  refine lv_istore (lv' := [(4, .int (ptX L xs ci ki)), (0, .ref bs), (1, .int (nI ci)), (2, .int (nI ki)), (3, .int 2)]) hx hb dk_L_point_12 hl (by decide) rfl (fun ls hl => ?_)
  refine lv_iload_n hx hb dk_L_point_14 rfl (lv_at hl 4 rfl) ?_
  refine lv_iconst (v := 2) hx hb dk_L_point_15 (by decide) ?_
  refine lv_icmp_ne (tgt := 32) hx hb dk_L_point_16 rfl (fun q => absurd rfl q) (fun _ => ?_)
  refine lv_iconst (v := 1) hx hb dk_L_point_19 (by decide) ?_
  refine lv_iload hx hb dk_L_point_20 (lv_at hl 0 rfl) ?_
  refine lv_iconst (v := 4) hx hb dk_L_point_22 (by decide) ?_
  refine lv_idiv hx hb dk_L_point_23 (by decide) ?_
  refine lv_iconst (v := 3) hx hb dk_L_point_24 (by decide) ?_
  have hPc : va_P D vwCl [] H := ws_nP
  have hDc : va_D A [] := ws_nD
  have hFc : ∀ q, va_A [] H.size q → A q := fun q h => hA q (Nat.le_trans hS.1 (ws_nA h))
  refine va_calli (va_runS (As := [.int ((ptX L xs ci ki) / 4), .int 3]) (rest := [.int 1]) ⟨hx, hb, hml, hown, hts⟩ (sk_in l D kC (ptX L xs ci ki / 4) 3 (by decide) (by decide) H.size) ⟨am_callB (R := jr 2 0 0) (index := 43) 2 (jk_pay htj (am_tb_at 66 (by decide +kernel) rfl)) (hts _ (am_tb_at 66 (by decide +kernel) rfl)) rfl rfl rfl (hts _ (am_tb_at 34 (by decide +kernel) rfl)) (hts _ (am_tb_at 64 (by decide +kernel) rfl)) ⟨by decide, by decide, by decide +kernel⟩ ⟨(by show 1 + 1 ≤ 2; decide), (by show 8 + (2 + 11) + 48 * 1 ≤ 48 * 2; decide)⟩, (hts _ (am_tb_at 65 (by decide +kernel) rfl))⟩ (ws_S Stb_G hPc hK hDc (fun U hU hW => ws_E Stb_G hE.1 hS hU hW hFc)) rfl rfl hl.1 rfl (lv_room (Nat.le_of_ble_eq_true rfl)) dk_L_point_25 ⟨(by show 0 + 0 + 0 ≤ 0; omega), (by show 0 + 0 + 0 ≤ 0; omega)⟩) hS (fun q _ h => hFc q h) hFc (fun r0 u t H1 locs hte hvm hz hB hsz hkp hS => ?_)
  have hP : va_P D vwCl [] H1 := ws_nP
  generalize H1 = H at hP hS ⊢
  subst hz
  refine lv_iadd hx hb dk_L_point_28 ?_
  rw [show ((1 + (nI (inV (ptX L xs ci ki / 4) 3))) : Int32) = nI (ptN L xs ci ki 2) from (nI_add 1 _)]
  refine lv_goto (tgt := 73) hx hb dk_L_point_29 rfl ?_
  refine W.widen (k := 0) (n := 0) (by omega) (by omega) ?_
  exact W.iret (v := (nI (ptN L xs ci ki 2))) hx hb hr (fun t ht hW => ⟨⟨(nI (ptN L xs ci ki 2)), (), rfl, rfl, trivial⟩, hS.F ht⟩) hS.2.2 dk_L_point_73
set_option maxHeartbeats 4000000 in
set_option maxRecDepth 100000 in
theorem sk_point0 (l : Launch) (D : va_G) (kC : Nat → ClassId) (bs L : Nat) (xs : Nat → Int32) (hLb : L < 1000) (ci ki : Nat) (hci : ci ≤ 100) (hki : ki ≤ 10) (sz : Nat) : Met l yL_point (.code yL_point cL_point 5 (some .int) :: jk_tb) (jr 2 0 0) (va_Pc [.ref bs, .int (nI ci), .int (nI ki), .int 0] (ws_B D kC (fun B U H => js_G B U H ∧ scX bs L xs B U H) [] sz)) (va_Qi (S := Unit) (fun r _ => r = nI (ptN L xs ci ki 0)) (fun _ _ => True) (va_A [] sz)) 0 0 (va_A [] sz) := by
  refine Met.ofW (cc := cL_point) (maxL := 5) (ret := (some .int)) (by decide +kernel) rfl ?_
  intro p e s m args below meth c s₁ B hml hv2
  obtain ⟨rfl, hsz, hP, hK, hD0, hE⟩ := hv2
  have hx := B.exec
  have hb := B.bytes
  have hr := B.returns
  have hlocks := B.notSynchronized
  have hts0 := atoms_spec (ws := (.code yL_point cL_point 5 (some .int) :: jk_tb)) B.pre
  have htj := fun w (hw : w ∈ jk_tb) => hts0 w (List.mem_cons_of_mem _ hw)
  have hts := fun w (hw : w ∈ am_tb) => htj w (jk_in hw)
  have hown : s.vm.findClass yL_point.cls = some m.cls := findClass_of_methodNamed B.named
  subst hsz
  have hD := hD0.self (sz := s.heap.size)
  generalize hAe : va_A [] s.heap.size = A at hD hE ⊢
  have hA : ∀ q : Nat, s.heap.size ≤ q → A q := fun q h => by rw [← hAe]; exact Or.inr h
  have hP : va_P D vwCl [] s.heap := hP
  have hS : va_S A s.heap s.heap [] := va_S.rf
  have hl := lv_entry ([.ref bs, .int (nI ci), .int (nI ki), .int 0]) (n := 5) (Nat.le_of_ble_eq_true rfl)
  rw [lg_entry_eq]
  generalize (lg_sl ([.ref bs, .int (nI ci), .int (nI ki), .int 0]) ++ List.replicate (5 - (lg_sl ([.ref bs, .int (nI ci), .int (nI ki), .int 0])).length) Slot.unset).toArray = ls at hl ⊢
  have hl : lv_has ls 5 [(0, .ref bs), (1, .int (nI ci)), (2, .int (nI ki)), (3, .int 0)] := hl
  refine lv_aload_n hx hb dk_L_point_0 rfl (lv_at hl 0 rfl) ?_
  refine lv_iconst (v := 1) hx hb dk_L_point_1 (by decide) ?_
  refine lv_iload_n hx hb dk_L_point_2 rfl (lv_at hl 1 rfl) ?_
  refine lv_iadd hx hb dk_L_point_3 ?_
  rw [show ((1 + (nI ci)) : Int32) = nI (1 + ci) from (nI_add 1 ci)]
  have hPc : va_P D vwCl [] s.heap := ws_nP
  have hDc : va_D A [] := ws_nD
  have hFc : ∀ q, va_A [] s.heap.size q → A q := fun q h => hA q (Nat.le_trans hS.1 (ws_nA h))
  refine va_calli (va_runS (As := [.ref bs, .int (nI (1 + ci))]) (rest := []) ⟨hx, hb, hml, hown, hts⟩ (sk_cell l D kC bs L xs hLb (1 + ci) (by omega) s.heap.size) ⟨am_callB (R := jr 2 0 0) (index := 37) 2 (jk_pay htj (am_tb_at 63 (by decide +kernel) rfl)) (hts _ (am_tb_at 63 (by decide +kernel) rfl)) rfl rfl rfl (hts _ (am_tb_at 34 (by decide +kernel) rfl)) (hts _ (am_tb_at 61 (by decide +kernel) rfl)) ⟨by decide, by decide, by decide +kernel⟩ ⟨(by show 1 + 1 ≤ 2; decide), (by show 8 + (2 + 11) + 48 * 1 ≤ 48 * 2; decide)⟩, (hts _ (am_tb_at 62 (by decide +kernel) rfl))⟩ (ws_S (Stb_and Stb_G (Stb_X bs L xs)) hPc hK hDc (fun U hU hW => ws_E (Stb_and Stb_G (Stb_X bs L xs)) hE hS hU hW hFc)) rfl rfl hl.1 rfl (lv_room (Nat.le_of_ble_eq_true rfl)) dk_L_point_4 ⟨(by show 0 + 0 ≤ 0; omega), (by show 0 + 0 ≤ 0; omega)⟩) hS (fun q _ h => hFc q h) hFc (fun r0 u t H1 locs hte hvm hz hB hsz hkp hS => ?_)
  have hP : va_P D vwCl [] H1 := ws_nP
  generalize H1 = H at hP hS ⊢
  subst hz
  refine lv_bipush (v := 6) hx hb dk_L_point_7 (by decide) ?_
  refine lv_iload_n hx hb dk_L_point_9 rfl (lv_at hl 2 rfl) ?_
  refine lv_imul hx hb dk_L_point_10 ?_
  rw [show ((6 * (nI ki)) : Int32) = nI (6 * ki) from (nI_mul (a := 6))]
  refine lv_ishr hx hb dk_L_point_11 ?_
  rw [show ((((ceV L xs (1 + ci)) : Int32) >>> (((nI (6 * ki)) : Int32) &&& 31)) : Int32) = ptX L xs ci ki from rfl]
  refine lv_istore (lv' := [(4, .int (ptX L xs ci ki)), (0, .ref bs), (1, .int (nI ci)), (2, .int (nI ki)), (3, .int 0)]) hx hb dk_L_point_12 hl (by decide) rfl (fun ls hl => ?_)
  refine lv_iload_n hx hb dk_L_point_14 rfl (lv_at hl 4 rfl) ?_
  refine lv_iconst (v := 2) hx hb dk_L_point_15 (by decide) ?_
  refine lv_icmp_ne (tgt := 32) hx hb dk_L_point_16 rfl (fun _ => ?_) (fun q => absurd q (by decide))
  refine lv_iload_n hx hb dk_L_point_32 rfl (lv_at hl 4 rfl) ?_
  refine lv_if_ne (tgt := 49) hx hb dk_L_point_33 rfl (fun q => absurd rfl q) (fun _ => ?_)
  refine lv_iload hx hb dk_L_point_36 (lv_at hl 0 rfl) ?_
  refine lv_bipush (v := 16) hx hb dk_L_point_38 (by decide) ?_
  refine lv_idiv hx hb dk_L_point_40 (by decide) ?_
  refine lv_bipush (v := 21) hx hb dk_L_point_41 (by decide) ?_
  have hPc : va_P D vwCl [] H := ws_nP
  have hDc : va_D A [] := ws_nD
  have hFc : ∀ q, va_A [] H.size q → A q := fun q h => hA q (Nat.le_trans hS.1 (ws_nA h))
  refine va_calli (va_runS (As := [.int ((ptX L xs ci ki) / 16), .int 21]) (rest := []) ⟨hx, hb, hml, hown, hts⟩ (sk_in l D kC (ptX L xs ci ki / 16) 21 (by decide) (by decide) H.size) ⟨am_callB (R := jr 2 0 0) (index := 43) 2 (jk_pay htj (am_tb_at 66 (by decide +kernel) rfl)) (hts _ (am_tb_at 66 (by decide +kernel) rfl)) rfl rfl rfl (hts _ (am_tb_at 34 (by decide +kernel) rfl)) (hts _ (am_tb_at 64 (by decide +kernel) rfl)) ⟨by decide, by decide, by decide +kernel⟩ ⟨(by show 1 + 1 ≤ 2; decide), (by show 8 + (2 + 11) + 48 * 1 ≤ 48 * 2; decide)⟩, (hts _ (am_tb_at 65 (by decide +kernel) rfl))⟩ (ws_S Stb_G hPc hK hDc (fun U hU hW => ws_E Stb_G hE.1 hS hU hW hFc)) rfl rfl hl.1 rfl (lv_room (Nat.le_of_ble_eq_true rfl)) dk_L_point_43 ⟨(by show 0 + 0 + 0 ≤ 0; omega), (by show 0 + 0 + 0 ≤ 0; omega)⟩) hS (fun q _ h => hFc q h) hFc (fun r0 u t H1 locs hte hvm hz hB hsz hkp hS => ?_)
  have hP : va_P D vwCl [] H1 := ws_nP
  generalize H1 = H at hP hS ⊢
  subst hz
  refine lv_goto (tgt := 73) hx hb dk_L_point_46 rfl ?_
  refine W.widen (k := 0) (n := 0) (by omega) (by omega) ?_
  exact W.iret (v := (nI (inV (ptX L xs ci ki / 16) 21))) hx hb hr (fun t ht hW => ⟨⟨(nI (inV (ptX L xs ci ki / 16) 21)), (), rfl, rfl, trivial⟩, hS.F ht⟩) hS.2.2 dk_L_point_73
set_option maxHeartbeats 4000000 in
set_option maxRecDepth 100000 in
theorem sk_point1 (l : Launch) (D : va_G) (kC : Nat → ClassId) (bs L : Nat) (xs : Nat → Int32) (hLb : L < 1000) (ci ki : Nat) (hci : ci ≤ 100) (hki : ki ≤ 10) (sz : Nat) : Met l yL_point (.code yL_point cL_point 5 (some .int) :: jk_tb) (jr 2 0 0) (va_Pc [.ref bs, .int (nI ci), .int (nI ki), .int 1] (ws_B D kC (fun B U H => js_G B U H ∧ scX bs L xs B U H) [] sz)) (va_Qi (S := Unit) (fun r _ => r = nI (ptN L xs ci ki 1)) (fun _ _ => True) (va_A [] sz)) 0 0 (va_A [] sz) := by
  refine Met.ofW (cc := cL_point) (maxL := 5) (ret := (some .int)) (by decide +kernel) rfl ?_
  intro p e s m args below meth c s₁ B hml hv2
  obtain ⟨rfl, hsz, hP, hK, hD0, hE⟩ := hv2
  have hx := B.exec
  have hb := B.bytes
  have hr := B.returns
  have hlocks := B.notSynchronized
  have hts0 := atoms_spec (ws := (.code yL_point cL_point 5 (some .int) :: jk_tb)) B.pre
  have htj := fun w (hw : w ∈ jk_tb) => hts0 w (List.mem_cons_of_mem _ hw)
  have hts := fun w (hw : w ∈ am_tb) => htj w (jk_in hw)
  have hown : s.vm.findClass yL_point.cls = some m.cls := findClass_of_methodNamed B.named
  subst hsz
  have hD := hD0.self (sz := s.heap.size)
  generalize hAe : va_A [] s.heap.size = A at hD hE ⊢
  have hA : ∀ q : Nat, s.heap.size ≤ q → A q := fun q h => by rw [← hAe]; exact Or.inr h
  have hP : va_P D vwCl [] s.heap := hP
  have hS : va_S A s.heap s.heap [] := va_S.rf
  have hl := lv_entry ([.ref bs, .int (nI ci), .int (nI ki), .int 1]) (n := 5) (Nat.le_of_ble_eq_true rfl)
  rw [lg_entry_eq]
  generalize (lg_sl ([.ref bs, .int (nI ci), .int (nI ki), .int 1]) ++ List.replicate (5 - (lg_sl ([.ref bs, .int (nI ci), .int (nI ki), .int 1])).length) Slot.unset).toArray = ls at hl ⊢
  have hl : lv_has ls 5 [(0, .ref bs), (1, .int (nI ci)), (2, .int (nI ki)), (3, .int 1)] := hl
  refine lv_aload_n hx hb dk_L_point_0 rfl (lv_at hl 0 rfl) ?_
  refine lv_iconst (v := 1) hx hb dk_L_point_1 (by decide) ?_
  refine lv_iload_n hx hb dk_L_point_2 rfl (lv_at hl 1 rfl) ?_
  refine lv_iadd hx hb dk_L_point_3 ?_
  rw [show ((1 + (nI ci)) : Int32) = nI (1 + ci) from (nI_add 1 ci)]
  have hPc : va_P D vwCl [] s.heap := ws_nP
  have hDc : va_D A [] := ws_nD
  have hFc : ∀ q, va_A [] s.heap.size q → A q := fun q h => hA q (Nat.le_trans hS.1 (ws_nA h))
  refine va_calli (va_runS (As := [.ref bs, .int (nI (1 + ci))]) (rest := []) ⟨hx, hb, hml, hown, hts⟩ (sk_cell l D kC bs L xs hLb (1 + ci) (by omega) s.heap.size) ⟨am_callB (R := jr 2 0 0) (index := 37) 2 (jk_pay htj (am_tb_at 63 (by decide +kernel) rfl)) (hts _ (am_tb_at 63 (by decide +kernel) rfl)) rfl rfl rfl (hts _ (am_tb_at 34 (by decide +kernel) rfl)) (hts _ (am_tb_at 61 (by decide +kernel) rfl)) ⟨by decide, by decide, by decide +kernel⟩ ⟨(by show 1 + 1 ≤ 2; decide), (by show 8 + (2 + 11) + 48 * 1 ≤ 48 * 2; decide)⟩, (hts _ (am_tb_at 62 (by decide +kernel) rfl))⟩ (ws_S (Stb_and Stb_G (Stb_X bs L xs)) hPc hK hDc (fun U hU hW => ws_E (Stb_and Stb_G (Stb_X bs L xs)) hE hS hU hW hFc)) rfl rfl hl.1 rfl (lv_room (Nat.le_of_ble_eq_true rfl)) dk_L_point_4 ⟨(by show 0 + 0 ≤ 0; omega), (by show 0 + 0 ≤ 0; omega)⟩) hS (fun q _ h => hFc q h) hFc (fun r0 u t H1 locs hte hvm hz hB hsz hkp hS => ?_)
  have hP : va_P D vwCl [] H1 := ws_nP
  generalize H1 = H at hP hS ⊢
  subst hz
  refine lv_bipush (v := 6) hx hb dk_L_point_7 (by decide) ?_
  refine lv_iload_n hx hb dk_L_point_9 rfl (lv_at hl 2 rfl) ?_
  refine lv_imul hx hb dk_L_point_10 ?_
  rw [show ((6 * (nI ki)) : Int32) = nI (6 * ki) from (nI_mul (a := 6))]
  refine lv_ishr hx hb dk_L_point_11 ?_
  rw [show ((((ceV L xs (1 + ci)) : Int32) >>> (((nI (6 * ki)) : Int32) &&& 31)) : Int32) = ptX L xs ci ki from rfl]
  refine lv_istore (lv' := [(4, .int (ptX L xs ci ki)), (0, .ref bs), (1, .int (nI ci)), (2, .int (nI ki)), (3, .int 1)]) hx hb dk_L_point_12 hl (by decide) rfl (fun ls hl => ?_)
  refine lv_iload_n hx hb dk_L_point_14 rfl (lv_at hl 4 rfl) ?_
  refine lv_iconst (v := 2) hx hb dk_L_point_15 (by decide) ?_
  refine lv_icmp_ne (tgt := 32) hx hb dk_L_point_16 rfl (fun _ => ?_) (fun q => absurd q (by decide))
  refine lv_iload_n hx hb dk_L_point_32 rfl (lv_at hl 4 rfl) ?_
  refine lv_if_ne (tgt := 49) hx hb dk_L_point_33 rfl (fun _ => ?_) (fun q => absurd q (by decide))
  refine lv_iload hx hb dk_L_point_49 (lv_at hl 0 rfl) ?_
  refine lv_bipush (v := 16) hx hb dk_L_point_51 (by decide) ?_
  refine lv_idiv hx hb dk_L_point_53 (by decide) ?_
  refine lv_bipush (v := 7) hx hb dk_L_point_54 (by decide) ?_
  refine lv_imul hx hb dk_L_point_56 ?_
  refine lv_aload_n hx hb dk_L_point_57 rfl (lv_at hl 1 rfl) ?_
  refine lv_iconst (v := 1) hx hb dk_L_point_58 (by decide) ?_
  refine lv_iload_n hx hb dk_L_point_59 rfl (lv_at hl 2 rfl) ?_
  refine lv_iadd hx hb dk_L_point_60 ?_
  rw [show ((1 + (nI ci)) : Int32) = nI (1 + ci) from (nI_add 1 ci)]
  have hPc : va_P D vwCl [] H := ws_nP
  have hDc : va_D A [] := ws_nD
  have hFc : ∀ q, va_A [] H.size q → A q := fun q h => hA q (Nat.le_trans hS.1 (ws_nA h))
  refine va_calli (va_runS (As := [.ref bs, .int (nI (1 + ci))]) (rest := [.int (((ptX L xs ci ki) / 16) * 7)]) ⟨hx, hb, hml, hown, hts⟩ (sk_cell l D kC bs L xs hLb (1 + ci) (by omega) H.size) ⟨am_callB (R := jr 2 0 0) (index := 37) 2 (jk_pay htj (am_tb_at 63 (by decide +kernel) rfl)) (hts _ (am_tb_at 63 (by decide +kernel) rfl)) rfl rfl rfl (hts _ (am_tb_at 34 (by decide +kernel) rfl)) (hts _ (am_tb_at 61 (by decide +kernel) rfl)) ⟨by decide, by decide, by decide +kernel⟩ ⟨(by show 1 + 1 ≤ 2; decide), (by show 8 + (2 + 11) + 48 * 1 ≤ 48 * 2; decide)⟩, (hts _ (am_tb_at 62 (by decide +kernel) rfl))⟩ (ws_S (Stb_and Stb_G (Stb_X bs L xs)) hPc hK hDc (fun U hU hW => ws_E (Stb_and Stb_G (Stb_X bs L xs)) hE hS hU hW hFc)) rfl rfl hl.1 rfl (lv_room (Nat.le_of_ble_eq_true rfl)) dk_L_point_61 ⟨(by show 0 + 0 + 0 ≤ 0; omega), (by show 0 + 0 + 0 ≤ 0; omega)⟩) hS (fun q _ h => hFc q h) hFc (fun r0 u t H1 locs hte hvm hz hB hsz hkp hS => ?_)
  have hP : va_P D vwCl [] H1 := ws_nP
  generalize H1 = H at hP hS ⊢
  subst hz
  refine lv_bipush (v := 64) hx hb dk_L_point_64 (by decide) ?_
  refine lv_idiv hx hb dk_L_point_66 (by decide) ?_
  refine lv_iadd hx hb dk_L_point_67 ?_
  refine lv_bipush (v := 21) hx hb dk_L_point_68 (by decide) ?_
  have hPc : va_P D vwCl [] H := ws_nP
  have hDc : va_D A [] := ws_nD
  have hFc : ∀ q, va_A [] H.size q → A q := fun q h => hA q (Nat.le_trans hS.1 (ws_nA h))
  refine va_calli (va_runS (As := [.int ((((ptX L xs ci ki) / 16) * 7) + ((ceV L xs (1 + ci)) / 64)), .int 21]) (rest := []) ⟨hx, hb, hml, hown, hts⟩ (sk_in l D kC (ptX L xs ci ki / 16 * 7 + ceV L xs (1 + ci) / 64) 21 (by decide) (by decide) H.size) ⟨am_callB (R := jr 2 0 0) (index := 43) 2 (jk_pay htj (am_tb_at 66 (by decide +kernel) rfl)) (hts _ (am_tb_at 66 (by decide +kernel) rfl)) rfl rfl rfl (hts _ (am_tb_at 34 (by decide +kernel) rfl)) (hts _ (am_tb_at 64 (by decide +kernel) rfl)) ⟨by decide, by decide, by decide +kernel⟩ ⟨(by show 1 + 1 ≤ 2; decide), (by show 8 + (2 + 11) + 48 * 1 ≤ 48 * 2; decide)⟩, (hts _ (am_tb_at 65 (by decide +kernel) rfl))⟩ (ws_S Stb_G hPc hK hDc (fun U hU hW => ws_E Stb_G hE.1 hS hU hW hFc)) rfl rfl hl.1 rfl (lv_room (Nat.le_of_ble_eq_true rfl)) dk_L_point_70 ⟨(by show 0 + 0 + 0 + 0 ≤ 0; omega), (by show 0 + 0 + 0 + 0 ≤ 0; omega)⟩) hS (fun q _ h => hFc q h) hFc (fun r0 u t H1 locs hte hvm hz hB hsz hkp hS => ?_)
  have hP : va_P D vwCl [] H1 := ws_nP
  generalize H1 = H at hP hS ⊢
  subst hz
  refine W.widen (k := 0) (n := 0) (by omega) (by omega) ?_
  exact W.iret (v := (nI (inV (ptX L xs ci ki / 16 * 7 + ceV L xs (1 + ci) / 64) 21))) hx hb hr (fun t ht hW => ⟨⟨(nI (inV (ptX L xs ci ki / 16 * 7 + ceV L xs (1 + ci) / 64) 21)), (), rfl, rfl, trivial⟩, hS.F ht⟩) hS.2.2 dk_L_point_73
