/-- a list of signs as a text -/
def lt (T : List Nat) : Nat → Nat := fun j => T.getD j 0
theorem lt_lo {T S : List Nat} {j : Nat} (h : j < T.length) : lt (T ++ S) j = lt T j := by
  unfold lt
  rw [List.getD_eq_getElem?_getD, List.getD_eq_getElem?_getD, List.getElem?_append_left h]
theorem lt_hi {T S : List Nat} {j : Nat} (h : T.length ≤ j) : lt (T ++ S) j = lt S (j - T.length) := by
  unfold lt
  rw [List.getD_eq_getElem?_getD, List.getD_eq_getElem?_getD, List.getElem?_append_right h]
theorem ll_cat0 {T : List Nat} {tx : Nat → Nat} {S : List Nat} {n y : Nat} {g : Nat → Int32} (hn : T.length = n) (hy : S.length = y) (hs : ∀ i, i < y → tx i = lt S i) (h : sb_Lat (sb_cat (lt T) n tx) (n + y) g) : sb_Lat (lt (T ++ S)) (n + y) g := fun j hj => by
  have h1 := h j hj
  have e : sb_cat (lt T) n tx j = lt (T ++ S) j := by
    unfold sb_cat
    by_cases z : j < n
    · rw [if_pos z, lt_lo (by omega)]
    · rw [if_neg z, lt_hi (by omega), hn, hs _ (by omega)]
  rw [e] at h1
  exact h1
theorem ll_len {T S : List Nat} {n y : Nat} (hn : T.length = n) (hy : S.length = y) : (T ++ S).length = n + y := by rw [List.length_append, hn, hy]
/-- decimals as a list -/
def decL (v : Nat) : List Nat := (List.range (sb_dg v)).map (sb_dec v)
theorem decL_len (v : Nat) : (decL v).length = sb_dg v := by unfold decL; rw [List.length_map, List.length_range]
theorem decL_at {v i : Nat} (h : i < sb_dg v) : sb_dec v i = lt (decL v) i := by
  unfold lt decL
  rw [List.getD_eq_getElem?_getD, List.getElem?_map, List.getElem?_range h]
  rfl
/-- a constant of the law -/
def js_K (k : Nat) (tx : String) (S : List Nat) : RoP := fun B U H => ∃ a d, vk_R RL k tx a U ∧ js_S a d S.length (lt S) B U H
theorem Stb_K (k : Nat) (tx : String) (S : List Nat) : Stb (js_K k tx S) := Stb_ex fun a => Stb_ex fun d => Stb_and (Stb_R RL k tx a) (Stb_S a d _ _)
theorem ll_cat {T S : List Nat} {n y : Nat} {g : Nat → Int32} (hn : T.length = n) (hy : S.length = y) (h : sb_Lat (sb_cat (lt T) n (lt S)) (n + y) g) : sb_Lat (lt (T ++ S)) (n + y) g := ll_cat0 hn hy (fun _ _ => rfl) h
theorem ll_catI {T : List Nat} {v n : Nat} {g : Nat → Int32} (hn : T.length = n) (h : sb_Lat (sb_cat (lt T) n (sb_dec v)) (n + sb_dg v) g) : sb_Lat (lt (T ++ decL v)) (n + sb_dg v) g := ll_cat0 hn (decL_len v) (fun _ hi => decL_at hi) h
theorem ll_catC {T : List Nat} {c n : Nat} {g : Nat → Int32} (hn : T.length = n) (h : sb_Lat (sb_cat (lt T) n (fun _ => c)) (n + 1) g) : sb_Lat (lt (T ++ [c])) (n + 1) g := ll_cat0 (S := [c]) (y := 1) hn rfl (fun i hi => (by
  obtain rfl : i = 0 := by omega
  rfl)) h
theorem dk_L_name_0 : decode cL_name 0 = .ok (.new 14, 3) := by decide +kernel
theorem dk_L_name_3 : decode cL_name 3 = .ok (.dup, 1) := by decide +kernel
theorem dk_L_name_4 : decode cL_name 4 = .ok (.invokespecial 16, 3) := by decide +kernel
theorem dk_L_name_7 : decode cL_name 7 = .ok (.aload_n 0, 1) := by decide +kernel
theorem dk_L_name_8 : decode cL_name 8 = .ok (.invokevirtual 17, 3) := by decide +kernel
theorem dk_L_name_11 : decode cL_name 11 = .ok (.bipush 97, 2) := by decide +kernel
theorem dk_L_name_13 : decode cL_name 13 = .ok (.iload_n 1, 1) := by decide +kernel
theorem dk_L_name_14 : decode cL_name 14 = .ok (.iadd, 1) := by decide +kernel
theorem dk_L_name_15 : decode cL_name 15 = .ok (.i2c, 1) := by decide +kernel
theorem dk_L_name_16 : decode cL_name 16 = .ok (.invokevirtual 47, 3) := by decide +kernel
theorem dk_L_name_19 : decode cL_name 19 = .ok (.invokevirtual 23, 3) := by decide +kernel
theorem dk_L_name_22 : decode cL_name 22 = .ok (.areturn, 1) := by decide +kernel
set_option maxHeartbeats 4000000 in
set_option maxRecDepth 100000 in
theorem sk_name (l : Launch) (D : va_G) (kC : Nat → ClassId) (a d y : Nat) (S : List Nat) (hS0 : S.length = y) (hy1 : y ≤ 10) (ch : Nat) (hc : ch ≤ 100) (sz : Nat) : Met l yL_name (.code yL_name cL_name 2 (some (.object "java/lang/String")) :: jk_tb) (jr 16 10 24100) (va_Pc [.ref a, .int (nI ch)] (ws_B D kC (fun B U H => js_G B U H ∧ js_S a d y (lt S) B U H) [] sz)) (va_Qr (S := Nat × (Nat → Int32)) (fun u => sb_Fit u.2 ∧ sb_Lat (lt (S ++ [97 + ch])) (y + 1) u.2) (fun u ra t => va_P D vwCl [(ra, .inr (9, [.ref u.1, .int 0, .int 0, .int 0])), (u.1, .inl (kC 2, y + 1, .inl (u.2)))] t.heap ∧ va_D (va_A [] sz) [(ra, .inr (9, [.ref u.1, .int 0, .int 0, .int 0])), (u.1, .inl (kC 2, y + 1, .inl (u.2)))]) (va_A [] sz)) 10 24100 (va_A [] sz) := by
  refine Met.ofW (cc := cL_name) (maxL := 2) (ret := (some (.object "java/lang/String"))) (by decide +kernel) rfl ?_
  intro p e s m args below meth c s₁ B hml hv2
  obtain ⟨rfl, hsz, hP, hK, hD0, hE⟩ := hv2
  have hx := B.exec
  have hb := B.bytes
  have hr := B.returns
  have hlocks := B.notSynchronized
  have hts0 := atoms_spec (ws := (.code yL_name cL_name 2 (some (.object "java/lang/String")) :: jk_tb)) B.pre
  have htj := fun w (hw : w ∈ jk_tb) => hts0 w (List.mem_cons_of_mem _ hw)
  have hts := fun w (hw : w ∈ am_tb) => htj w (jk_in hw)
  have hown : s.vm.findClass yL_name.cls = some m.cls := findClass_of_methodNamed B.named
  subst hsz
  have hD := hD0.self (sz := s.heap.size)
  generalize hAe : va_A [] s.heap.size = A at hD hE ⊢
  have hA : ∀ q : Nat, s.heap.size ≤ q → A q := fun q h => by rw [← hAe]; exact Or.inr h
  have hP : va_P D vwCl [] s.heap := hP
  have hS : va_S A s.heap s.heap [] := va_S.rf
  have hl := lv_entry ([.ref a, .int (nI ch)]) (n := 2) (Nat.le_of_ble_eq_true rfl)
  rw [lg_entry_eq]
  generalize (lg_sl ([.ref a, .int (nI ch)]) ++ List.replicate (2 - (lg_sl ([.ref a, .int (nI ch)])).length) Slot.unset).toArray = ls at hl ⊢
  have hl : lv_has ls 2 [(0, .ref a), (1, .int (nI ch))] := hl
  refine va_new (ci := 10) (fs := [.null, .int 0, .int 0, .int 0]) (C := RJ4) (T := TJ4) (N := 4) hx hb hts qwJ4 tyJ4 tyJ4_ok hown (hts _ (am_tb_at 288 (by decide +kernel) rfl)) (hts _ (am_tb_at 289 (by decide +kernel) rfl)) (hts _ (am_tb_at 46 (by decide +kernel) rfl)) hK hP hD hS hA rfl (fun j hj => by rcases (show j = 0 ∨ j = 1 ∨ j = 2 ∨ j = 3 by omega) with rfl | rfl | rfl | rfl <;> rfl) (by show 0 + 1 ≤ 10; omega) (by show 0 + 4 ≤ 24100; omega) dk_L_name_0 (fun q1 H hP hD hS => ?_)
  have hP : va_P D vwCl [(q1, .inr (10, [.null, .int 0, .int 0, .int 0]))] H := hP
  have hD : va_D A [(q1, .inr (10, [.null, .int 0, .int 0, .int 0]))] := hD
  refine lv_dup hx hb dk_L_name_3 rfl ?_
  have hPc := hP.sub (ws' := [(q1, .inr (10, [.null, .int 0, .int 0, .int 0]))]) [0] rfl
  have hDc := hD.sub (ws' := [(q1, .inr (10, [.null, .int 0, .int 0, .int 0]))]) [0] (by decide) rfl
  have hFc := va_free (wc := [(q1, .inr (10, [.null, .int 0, .int 0, .int 0]))]) hD hS hA [0] rfl
  refine va_callv (va_runI (As := []) (rest := [.ref q1]) ⟨hx, hb, hml, hown, hts⟩ (sk_sbN l D kC q1 H.size) ⟨am_callB (R := jr 16 10 24100) (index := 16) 0 (jk_pay htj (am_tb_at 292 (by decide +kernel) rfl)) (hts _ (am_tb_at 292 (by decide +kernel) rfl)) rfl rfl rfl (hts _ (am_tb_at 46 (by decide +kernel) rfl)) (hts _ (am_tb_at 290 (by decide +kernel) rfl)) ⟨by decide, by decide, by decide +kernel⟩ ⟨(by show 4 + 1 ≤ 16; decide), (by show 8 + (1 + 11) + 48 * 4 ≤ 48 * 16; decide)⟩, rfl, (hts _ (am_tb_at 291 (by decide +kernel) rfl))⟩ (ws_S Stb_G hPc hK hDc (fun U hU hW => ws_E Stb_G hE.1 hS hU hW hFc)) rfl rfl hl.1 rfl (lv_room (Nat.le_of_ble_eq_true rfl)) dk_L_name_4 ⟨(by show 0 + 1 + 1 ≤ 10; omega), (by show 0 + 4 + 4000 ≤ 24100; omega)⟩) hS (fun q _ h => hFc q h) hFc (fun b1_0 t H1 locs hte hvm hz hB hsz hkp hS => ?_)
  obtain ⟨hP1, hD1⟩ := hB
  rw [hte] at hP1
  obtain ⟨hP, hD⟩ := va_join (wr := []) (w1 := [(q1, .inr (10, [.ref b1_0, .int 0, .int 0, .int (nI 0)])), (b1_0, .inl (kC 2, 16, .inl (fun _ => 0)))]) hP hD [0] [] rfl rfl (by decide) (by decide) hkp hFc hP1 hD1
  generalize H1 = H at hP hS ⊢
  have hP : va_P D vwCl [(q1, .inr (10, [.ref b1_0, .int 0, .int 0, .int (nI 0)])), (b1_0, .inl (kC 2, 16, .inl (fun _ => 0)))] H := hP
  have hD : va_D A [(q1, .inr (10, [.ref b1_0, .int 0, .int 0, .int (nI 0)])), (b1_0, .inl (kC 2, 16, .inl (fun _ => 0)))] := hD
  have hw1_0 : 0 ≤ 16 ∧ 16 ≤ 1700 := ⟨by decide, by decide⟩
  have hf1_0 : sb_Fit (fun _ => 0) := sb_fit0
  have hL1_0 : sb_Lat (lt []) 0 (fun _ => 0) := fun j h => absurd h (Nat.not_lt_zero _)
  have hn1_0 : ([] : List Nat).length = 0 := rfl
  refine lv_aload_n hx hb dk_L_name_7 rfl (lv_at hl 0 rfl) ?_
  have hPc := hP.sub (ws' := [(q1, .inr (10, [.ref b1_0, .int 0, .int 0, .int (nI 0)])), (b1_0, .inl (kC 2, 16, .inl (fun _ => 0)))]) [0, 1] rfl
  have hDc := hD.sub (ws' := [(q1, .inr (10, [.ref b1_0, .int 0, .int 0, .int (nI 0)])), (b1_0, .inl (kC 2, 16, .inl (fun _ => 0)))]) [0, 1] (by decide) rfl
  have hFc := va_free (wc := [(q1, .inr (10, [.ref b1_0, .int 0, .int 0, .int (nI 0)])), (b1_0, .inl (kC 2, 16, .inl (fun _ => 0)))]) hD hS hA [0, 1] rfl
  refine va_callr (va_runV (As := [.ref a]) (rest := []) ⟨hx, hb, hml, hown, hts⟩ (sk_sbS l D kC q1 b1_0 16 0 0 (fun _ => 0) a d y (lt S) (lt ([] : List Nat)) hw1_0.1 hw1_0.2 hf1_0 hL1_0 (by omega) H.size) ⟨am_callB (R := jr 16 10 24100) (index := 17) 1 (jk_pay htj (am_tb_at 323 (by decide +kernel) rfl)) (hts _ (am_tb_at 323 (by decide +kernel) rfl)) rfl rfl rfl (hts _ (am_tb_at 46 (by decide +kernel) rfl)) (hts _ (am_tb_at 320 (by decide +kernel) rfl)) ⟨by decide, by decide, by decide +kernel⟩ ⟨(by show 13 + 1 ≤ 16; decide), (by show 8 + (2 + 11) + 48 * 13 ≤ 48 * 16; decide)⟩, (hts _ (am_tb_at 321 (by decide +kernel) rfl)), (hts _ (am_tb_at 322 (by decide +kernel) rfl))⟩ (ws_V (Stb_and Stb_G (Stb_S a d y (lt S))) (va_recv (q := (RJ4, TJ4, 4)) (q0 := 0) hK hP rfl rfl) hPc hK hDc (fun U hU hW => ⟨ws_E Stb_G hE.1 hS hU hW hFc, ws_E (Stb_S a d y (lt S)) hE.2 hS hU hW hFc⟩)) rfl rfl hl.1 rfl (lv_room (Nat.le_of_ble_eq_true rfl)) dk_L_name_8 ⟨(by show 0 + 1 + 1 + 1 ≤ 10; omega), (by show 0 + 4 + 4000 + 4000 ≤ 24100; omega)⟩) hS (fun q _ h => hFc q h) hFc (fun u ra t H1 locs hte hvm hz hB hsz hkp hS => ?_)
  obtain ⟨b1_1, w1_1, g1_1⟩ := u
  obtain ⟨hra, hP1, hD1⟩ := hB
  rw [hte] at hP1
  obtain ⟨hP, hD⟩ := va_join (wr := []) (w1 := [(q1, .inr (10, [.ref b1_1, .int 0, .int 0, .int (nI ((0 + y)))])), (b1_1, .inl (kC 2, w1_1, .inl g1_1))]) hP hD [0, 1] [] rfl rfl (by decide) (by decide) hkp hFc hP1 hD1
  generalize H1 = H at hP hS ⊢
  have hP : va_P D vwCl [(q1, .inr (10, [.ref b1_1, .int 0, .int 0, .int (nI ((0 + y)))])), (b1_1, .inl (kC 2, w1_1, .inl g1_1))] H := hP
  have hD : va_D A [(q1, .inr (10, [.ref b1_1, .int 0, .int 0, .int (nI ((0 + y)))])), (b1_1, .inl (kC 2, w1_1, .inl g1_1))] := hD
  dsimp only at hz
  obtain ⟨hw1_1, hf1_1, hL0⟩ := hz
  have hy1_1 : (S : List Nat).length = y := hS0
  have hL1_1 := ll_cat hn1_0 hy1_1 hL0
  have hn1_1 := ll_len hn1_0 hy1_1
  rw [hra]
  refine lv_bipush (v := 97) hx hb dk_L_name_11 (by decide) ?_
  refine lv_iload_n hx hb dk_L_name_13 rfl (lv_at hl 1 rfl) ?_
  refine lv_iadd hx hb dk_L_name_14 ?_
  rw [show ((97 + (nI ch)) : Int32) = nI (97 + ch) from (nI_add 97 ch)]
  refine lv_i2c (v := nI (97 + ch)) hx hb dk_L_name_15 (sb_byte (97 + ch) (by omega)).2.1 ?_
  have hPc := hP.sub (ws' := [(q1, .inr (10, [.ref b1_1, .int 0, .int 0, .int (nI ((0 + y)))])), (b1_1, .inl (kC 2, w1_1, .inl g1_1))]) [0, 1] rfl
  have hDc := hD.sub (ws' := [(q1, .inr (10, [.ref b1_1, .int 0, .int 0, .int (nI ((0 + y)))])), (b1_1, .inl (kC 2, w1_1, .inl g1_1))]) [0, 1] (by decide) rfl
  have hFc := va_free (wc := [(q1, .inr (10, [.ref b1_1, .int 0, .int 0, .int (nI ((0 + y)))])), (b1_1, .inl (kC 2, w1_1, .inl g1_1))]) hD hS hA [0, 1] rfl
  refine va_callr (va_runV (As := [.int (nI (97 + ch))]) (rest := []) ⟨hx, hb, hml, hown, hts⟩ (sk_sbC l D kC q1 b1_1 w1_1 (0 + y) 0 g1_1 (97 + ch) (by omega) (lt (([] : List Nat) ++ S)) hw1_1.1 hw1_1.2 hf1_1 hL1_1 (by omega) H.size) ⟨am_callB (R := jr 16 10 24100) (index := 47) 1 (jk_pay htj (am_tb_at 541 (by decide +kernel) rfl)) (hts _ (am_tb_at 541 (by decide +kernel) rfl)) rfl rfl rfl (hts _ (am_tb_at 46 (by decide +kernel) rfl)) (hts _ (am_tb_at 538 (by decide +kernel) rfl)) ⟨by decide, by decide, by decide +kernel⟩ ⟨(by show 13 + 1 ≤ 16; decide), (by show 8 + (2 + 11) + 48 * 13 ≤ 48 * 16; decide)⟩, (hts _ (am_tb_at 539 (by decide +kernel) rfl)), (hts _ (am_tb_at 540 (by decide +kernel) rfl))⟩ (ws_V Stb_G (va_recv (q := (RJ4, TJ4, 4)) (q0 := 0) hK hP rfl rfl) hPc hK hDc (fun U hU hW => ws_E Stb_G hE.1 hS hU hW hFc)) rfl rfl hl.1 rfl (lv_room (Nat.le_of_ble_eq_true rfl)) dk_L_name_16 ⟨(by show 0 + 1 + 1 + 1 + 1 ≤ 10; omega), (by show 0 + 4 + 4000 + 4000 + 4000 ≤ 24100; omega)⟩) hS (fun q _ h => hFc q h) hFc (fun u ra t H1 locs hte hvm hz hB hsz hkp hS => ?_)
  obtain ⟨b1_2, w1_2, g1_2⟩ := u
  obtain ⟨hra, hP1, hD1⟩ := hB
  rw [hte] at hP1
  obtain ⟨hP, hD⟩ := va_join (wr := []) (w1 := [(q1, .inr (10, [.ref b1_2, .int 0, .int 0, .int (nI (((0 + y) + 1)))])), (b1_2, .inl (kC 2, w1_2, .inl g1_2))]) hP hD [0, 1] [] rfl rfl (by decide) (by decide) hkp hFc hP1 hD1
  generalize H1 = H at hP hS ⊢
  have hP : va_P D vwCl [(q1, .inr (10, [.ref b1_2, .int 0, .int 0, .int (nI (((0 + y) + 1)))])), (b1_2, .inl (kC 2, w1_2, .inl g1_2))] H := hP
  have hD : va_D A [(q1, .inr (10, [.ref b1_2, .int 0, .int 0, .int (nI (((0 + y) + 1)))])), (b1_2, .inl (kC 2, w1_2, .inl g1_2))] := hD
  dsimp only at hz
  obtain ⟨hw1_2, hf1_2, hL0⟩ := hz
  have hy1_2 : ([97 + ch] : List Nat).length = 1 := rfl
  have hL1_2 := ll_catC hn1_1 hL0
  have hn1_2 := ll_len hn1_1 hy1_2
  rw [hra]
  have hPc : va_P D vwCl [] H := ws_nP
  have hDc : va_D A [] := ws_nD
  have hFc : ∀ q, va_A [] H.size q → A q := fun q h => hA q (Nat.le_trans hS.1 (ws_nA h))
  refine va_callr (va_runV (As := []) (rest := []) ⟨hx, hb, hml, hown, hts⟩ (sk_toS l D kC q1 b1_2 w1_2 (((0 + y) + 1)) g1_2 (lt ((([] : List Nat) ++ S) ++ [97 + ch])) hw1_2.1 (by omega) hf1_2 hL1_2 H.size) ⟨am_callB (R := jr 16 10 24100) (index := 23) 0 (jk_pay htj (am_tb_at 476 (by decide +kernel) rfl)) (hts _ (am_tb_at 476 (by decide +kernel) rfl)) rfl rfl rfl (hts _ (am_tb_at 46 (by decide +kernel) rfl)) (hts _ (am_tb_at 473 (by decide +kernel) rfl)) ⟨by decide, by decide, by decide +kernel⟩ ⟨(by show 10 + 1 ≤ 16; decide), (by show 8 + (1 + 11) + 48 * 10 ≤ 48 * 16; decide)⟩, (hts _ (am_tb_at 474 (by decide +kernel) rfl)), (hts _ (am_tb_at 475 (by decide +kernel) rfl))⟩ (ws_V (Stb_and Stb_G (Stb_B kC q1 b1_2 w1_2 (((0 + y) + 1)) g1_2)) (va_recv (q := (RJ4, TJ4, 4)) (q0 := 0) hK hP rfl rfl) hPc hK hDc (fun U hU hW => ⟨ws_E Stb_G hE.1 hS hU hW hFc, ws_N (Stb_B kC q1 b1_2 w1_2 (((0 + y) + 1)) g1_2) (ro_B hts hK hP 0 1 rfl rfl (ws_n0 hP 0 rfl) (ws_n0 hP 1 rfl)) hU hW⟩)) rfl rfl hl.1 rfl (lv_room (Nat.le_of_ble_eq_true rfl)) dk_L_name_19 ⟨(by show 0 + 1 + 1 + 1 + 1 + 2 ≤ 10; omega), (by show 0 + 4 + 4000 + 4000 + 4000 + 4010 ≤ 24100; omega)⟩) hS (fun q _ h => hFc q h) hFc (fun u s1 t H1 locs hte hvm hz hB hsz hkp hS => ?_)
  obtain ⟨ds1, gs1⟩ := u
  obtain ⟨hP1, hD1⟩ := hB
  rw [hte] at hP1
  obtain ⟨hP, hD⟩ := va_join (wr := [(q1, .inr (10, [.ref b1_2, .int 0, .int 0, .int (nI (((0 + y) + 1)))])), (b1_2, .inl (kC 2, w1_2, .inl g1_2))]) (w1 := [(s1, .inr (9, [.ref ds1, .int 0, .int 0, .int 0])), (ds1, .inl (kC 2, ((0 + y) + 1), .inl gs1))]) hP hD [] [0, 1] rfl rfl (by decide) (by decide) hkp hFc hP1 hD1
  generalize H1 = H at hP hS ⊢
  have hP : va_P D vwCl [(q1, .inr (10, [.ref b1_2, .int 0, .int 0, .int (nI (((0 + y) + 1)))])), (b1_2, .inl (kC 2, w1_2, .inl g1_2)), (s1, .inr (9, [.ref ds1, .int 0, .int 0, .int 0])), (ds1, .inl (kC 2, ((0 + y) + 1), .inl gs1))] H := hP
  have hD : va_D A [(q1, .inr (10, [.ref b1_2, .int 0, .int 0, .int (nI (((0 + y) + 1)))])), (b1_2, .inl (kC 2, w1_2, .inl g1_2)), (s1, .inr (9, [.ref ds1, .int 0, .int 0, .int 0])), (ds1, .inl (kC 2, ((0 + y) + 1), .inl gs1))] := hD
  dsimp only at hz
  obtain ⟨hfs1, hLs1⟩ := hz
  have hP := hP.sub (ws' := [(s1, .inr (9, [.ref ds1, .int 0, .int 0, .int 0])), (ds1, .inl (kC 2, ((0 + y) + 1), .inl gs1))]) [2, 3] rfl
  have hD := hD.sub (ws' := [(s1, .inr (9, [.ref ds1, .int 0, .int 0, .int 0])), (ds1, .inl (kC 2, ((0 + y) + 1), .inl gs1))]) [2, 3] (by decide) rfl
  have hT : ((([] : List Nat) ++ S) ++ [97 + ch]) = S ++ [97 + ch] := by simp
  rw [hT] at hLs1
  have hq : sb_Lat (lt (S ++ [97 + ch])) (y + 1) gs1 := by rw [show y + 1 = ((0 + y) + 1) by omega]; exact hLs1
  rw [show ((0 + y) + 1) = y + 1 by omega] at hP hD
  refine W.widen (k := 10) (n := 24100) (by omega) (by omega) ?_
  exact W.aret (v := .ref s1) hx hb hr (Or.inl ⟨_, rfl⟩) (Or.inr ⟨_, rfl⟩) (fun t ht hW => ⟨⟨(ds1, gs1), s1, rfl, ⟨hfs1, hq⟩, by rw [ht]; exact hP, hD⟩, hS.F ht⟩) hS.2.2 dk_L_name_22
