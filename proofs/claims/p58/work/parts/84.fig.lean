theorem vt_out {A0 : Nat → Prop} {D : va_G} {cl : List vw_C} {X pl : va_W} {H : Heap} (hP : va_P D cl (X ++ pl) H) (hD : va_D A0 (X ++ pl)) {i : Nat} {x : Nat × va_E} (hi : X[i]? = some x) : ¬ va_A pl H.size x.1 := by
  have hlt : i < X.length := (List.getElem?_eq_some_iff.mp hi).1
  have h1 : (X ++ pl)[i]? = some x := by rw [List.getElem?_append_left hlt]; exact hi
  rintro (⟨j, e, hj⟩ | hz)
  · have h2 : (X ++ pl)[X.length + j]? = some (x.1, e) := by rw [List.getElem?_append_right (by omega)]; rw [show X.length + j - X.length = j by omega]; exact hj
    have := hD.1 _ _ _ _ h1 h2 rfl
    omega
  · have := (hP i x h1).lt
    omega
theorem vt_0P {D : va_G} {cl : List vw_C} {pl : va_W} {H : Heap} (h : va_P D cl pl H) : va_P D cl ([] ++ pl) H := by rw [List.nil_append]; exact h
theorem vt_0D {A0 : Nat → Prop} {pl : va_W} (h : va_D A0 pl) : va_D A0 ([] ++ pl) := by rw [List.nil_append]; exact h
theorem vt_0A {pl : va_W} {sz : Nat} {q : Nat} (h : va_A ([] ++ pl) sz q) : va_A pl sz q := by rw [List.nil_append] at h; exact h
theorem sk_load (l : Launch) (D : va_G) (al : Nat → Nat) (kC : Nat → ClassId) (F : FF) (A : AA) (n : Nat) (h1 : 0 ≤ F 7 1 ∧ F 7 1 ≤ 800) (h2 : -2147483648 ≤ F 7 6 ∧ F 7 6 < 2147483648) (h3 : (n : Int) ≤ F 7 1) (sz : Nat) : Met l yX8_load (.code yX8_load cX8_load 3 (some .int) :: am_tb) (am_rm 10 0) (va_Pc [.ref (al 0), .int (nI n)] (am_B 0 none D al kC layX F A sz)) (va_Qi (S := Int × FF × AA) (fun r u => r = Int32.ofInt u.1 ∧ ((some (some (vI u.1)) : AO) = some (some (vI (ldR A F n).1)) ∧ ldQ F u.2.1 A u.2.2 n)) (fun u t => va_P D vwCl (am_ws al kC layX u.2.1 u.2.2) t.heap) (va_A (am_ws al kC layX F A) sz)) 0 0 (va_A (am_ws al kC layX F A) sz) := by
  have h0 : (0 : Int) ≤ n ∧ (n : Int) ≤ F 7 1 := ⟨by omega, h3⟩
  have q := qtX8_load l layX (List.prefix_refl _) D al kC [vR 0, vI n] F A (fun o F1 A1 => o = some (some (vI (ldR A F n).1)) ∧ ldQ F F1 A A1 n) sz ⟨⟨h1, h2, by omega, by omega⟩, fun G B hGB => ⟨by rw [if_pos h0], hGB.1 h0⟩⟩
  have e : (([vR 0, vI n] : List AV).map (am_cv al)) = [.ref (al 0), .int (nI n)] := by
    show [Value.ref (al 0), .int (Int32.ofInt n)] = _
    rw [← am_ofN h0.1, Int.toNat_natCast]
    rfl
  rw [e] at q
  exact q
theorem dk_L_figure_0 : decode cL_figure 0 = .ok (.new 32, 3) := by decide +kernel
theorem dk_L_figure_3 : decode cL_figure 3 = .ok (.dup, 1) := by decide +kernel
theorem dk_L_figure_4 : decode cL_figure 4 = .ok (.invokespecial 101, 3) := by decide +kernel
theorem dk_L_figure_7 : decode cL_figure 7 = .ok (.astore_n 1, 1) := by decide +kernel
theorem dk_L_figure_8 : decode cL_figure 8 = .ok (.aload_n 0, 1) := by decide +kernel
theorem dk_L_figure_9 : decode cL_figure 9 = .ok (.invokestatic 102, 3) := by decide +kernel
theorem dk_L_figure_12 : decode cL_figure 12 = .ok (.astore_n 2, 1) := by decide +kernel
theorem dk_L_figure_13 : decode cL_figure 13 = .ok (.aload_n 1, 1) := by decide +kernel
theorem dk_L_figure_14 : decode cL_figure 14 = .ok (.aload_n 2, 1) := by decide +kernel
theorem dk_L_figure_15 : decode cL_figure 15 = .ok (.invokestatic 106, 3) := by decide +kernel
theorem dk_L_figure_18 : decode cL_figure 18 = .ok (.aload_n 1, 1) := by decide +kernel
theorem dk_L_figure_19 : decode cL_figure 19 = .ok (.aload_n 2, 1) := by decide +kernel
theorem dk_L_figure_20 : decode cL_figure 20 = .ok (.invokevirtual 8, 3) := by decide +kernel
theorem dk_L_figure_23 : decode cL_figure 23 = .ok (.invokevirtual 110, 3) := by decide +kernel
theorem dk_L_figure_26 : decode cL_figure 26 = .ok (.aload_n 2, 1) := by decide +kernel
theorem dk_L_figure_27 : decode cL_figure 27 = .ok (.invokestatic 114, 3) := by decide +kernel
theorem dk_L_figure_30 : decode cL_figure 30 = .ok (.if_icmp .ne 7, 3) := by decide +kernel
theorem dk_L_figure_33 : decode cL_figure 33 = .ok (.aload_n 1, 1) := by decide +kernel
theorem dk_L_figure_34 : decode cL_figure 34 = .ok (.goto 4, 3) := by decide +kernel
theorem dk_L_figure_37 : decode cL_figure 37 = .ok (.aconst_null, 1) := by decide +kernel
theorem dk_L_figure_38 : decode cL_figure 38 = .ok (.areturn, 1) := by decide +kernel
set_option maxHeartbeats 4000000 in
set_option maxRecDepth 100000 in
theorem sk_figure (l : Launch) (D : va_G) (kC : Nat → ClassId) (bs L : Nat) (xs : Nat → Int32) (hLb : L < 1000) (hTL : (txT L xs).length ≤ 340) (ht8 : ∀ q, lt (pdL (txT L xs)) q < 128) (hld : (ldR (ptA (lt (pdL (txT L xs))) A8 ((txT L xs).length + nd20 (txT L xs).length)) (ptF F8 ((txT L xs).length + nd20 (txT L xs).length)) (txT L xs).length).1 = (((txT L xs).count 59 : Nat) : Int)) (sz : Nat) : Met l yL_figure (.code yL_figure cL_figure 3 (some (.object "CurveMeetings")) :: jk_tb) (jr 21 1000 2500000) (va_Pc [.ref bs] (ws_B D kC (fun B U H => (js_G B U H ∧ scX bs L xs B U H) ∧ js_C B U H) [] sz)) (va_Qr (S := (Nat → Nat) × FF × AA) (fun u => ldQ (ptF F8 ((txT L xs).length + nd20 (txT L xs).length)) u.2.1 (ptA (lt (pdL (txT L xs))) A8 ((txT L xs).length + nd20 (txT L xs).length)) u.2.2 (txT L xs).length) (fun u ra t => ra = u.1 0 ∧ va_P D vwCl (am_ws u.1 kC layX u.2.1 u.2.2) t.heap ∧ va_D (va_A [] sz) (am_ws u.1 kC layX u.2.1 u.2.2)) (va_A [] sz)) 1000 2500000 (va_A [] sz) := by
  refine Met.ofW (cc := cL_figure) (maxL := 3) (ret := (some (.object "CurveMeetings"))) (by decide +kernel) rfl ?_
  intro p e s m args below meth c s₁ B hml hv2
  obtain ⟨rfl, hsz, hP, hK, hD0, hE⟩ := hv2
  have hx := B.exec
  have hb := B.bytes
  have hr := B.returns
  have hlocks := B.notSynchronized
  have hts0 := atoms_spec (ws := (.code yL_figure cL_figure 3 (some (.object "CurveMeetings")) :: jk_tb)) B.pre
  have htj := fun w (hw : w ∈ jk_tb) => hts0 w (List.mem_cons_of_mem _ hw)
  have hts := fun w (hw : w ∈ am_tb) => htj w (jk_in hw)
  have hown : s.vm.findClass yL_figure.cls = some m.cls := findClass_of_methodNamed B.named
  subst hsz
  have hD := hD0.self (sz := s.heap.size)
  generalize hAe : va_A [] s.heap.size = A at hD hE ⊢
  have hA : ∀ q : Nat, s.heap.size ≤ q → A q := fun q h => by rw [← hAe]; exact Or.inr h
  have hP : va_P D vwCl [] s.heap := hP
  have hS : va_S A s.heap s.heap [] := va_S.rf
  have hl := lv_entry ([.ref bs]) (n := 3) (Nat.le_of_ble_eq_true rfl)
  rw [lg_entry_eq]
  generalize (lg_sl ([.ref bs]) ++ List.replicate (3 - (lg_sl ([.ref bs])).length) Slot.unset).toArray = ls at hl ⊢
  have hl : lv_has ls 3 [(0, .ref bs)] := hl
  refine W.widen (k := 0) (n := 0) (Nat.le_refl _) (Nat.le_refl _) ?_
  refine va_new (ci := 8) (fs := [.null, .null, .null, .null, .null, .null, .null, .null, .null, .int 0]) (C := RX8) (T := TX8) (N := 10) hx hb hts qwX8 tyX8 tyX8_ok hown (hts _ (am_tb_at 77 (by decide +kernel) rfl)) (hts _ (am_tb_at 78 (by decide +kernel) rfl)) (hts _ (am_tb_at 35 (by decide +kernel) rfl)) hK hP hD hS hA rfl (fun j hj => by rcases (show j = 0 ∨ j = 1 ∨ j = 2 ∨ j = 3 ∨ j = 4 ∨ j = 5 ∨ j = 6 ∨ j = 7 ∨ j = 8 ∨ j = 9 by omega) with rfl | rfl | rfl | rfl | rfl | rfl | rfl | rfl | rfl | rfl <;> rfl) (Nat.le_of_ble_eq_true rfl) (Nat.le_of_ble_eq_true rfl) dk_L_figure_0 (fun h0 H hP hD hS => ?_)
  refine W.widen (k := 1) (n := 10) (Nat.le_of_ble_eq_true rfl) (Nat.le_of_ble_eq_true rfl) ?_
  have hP : va_P D vwCl [(h0, .inr (8, [.null, .null, .null, .null, .null, .null, .null, .null, .null, .int 0]))] H := hP
  have hD : va_D A [(h0, .inr (8, [.null, .null, .null, .null, .null, .null, .null, .null, .null, .int 0]))] := hD
  refine lv_dup hx hb dk_L_figure_3 rfl ?_
  have hFc : ∀ q, va_A [(h0, .inr (8, [.null, .null, .null, .null, .null, .null, .null, .null, .null, .int 0]))] H.size q → A q := va_free (wc := [(h0, .inr (8, [.null, .null, .null, .null, .null, .null, .null, .null, .null, .int 0]))]) hD hS hA [0] rfl
  refine va_callv (va_runI (As := []) (rest := [.ref h0]) ⟨hx, hb, hml, hown, hts⟩ (cn_X8 l D kC h0 H.size) ⟨am_callB (R := jr 21 1000 2500000) (index := 101) 0 (am_pay hts (am_tb_at 81 (by decide +kernel) rfl)) (hts _ (am_tb_at 81 (by decide +kernel) rfl)) rfl rfl rfl (hts _ (am_tb_at 35 (by decide +kernel) rfl)) (hts _ (am_tb_at 79 (by decide +kernel) rfl)) ⟨by decide, by decide, by decide +kernel⟩ ⟨(by show 10 + 1 ≤ 21; decide), (by show 8 + (1 + 11) + 48 * 10 ≤ 48 * 21; decide)⟩, rfl, (hts _ (am_tb_at 80 (by decide +kernel) rfl))⟩ ⟨cn_blind, fun U hU hW => ⟨rfl, by rw [hU], by rw [hU]; exact hP, va_K.moved hW.alike hK, hD.weaken (fun _ _ _ _ => trivial)⟩⟩ rfl rfl hl.1 rfl (lv_room (Nat.le_of_ble_eq_true rfl)) dk_L_figure_4 ⟨(Nat.le_of_ble_eq_true rfl), (Nat.le_of_ble_eq_true rfl)⟩) hS (fun q _ h => hFc q h) hFc (fun al t H1 locs hte hvm hz hB hsz hkp hS => ?_)
  obtain ⟨hB1, hB2⟩ := hB
  rw [hte] at hB1
  have hP := vt_0P hB1
  have hD := vt_0D (am_dis_D (As := A) (lay := layX) (kC := kC) ⟨hB2.1, fun i hi => hFc _ (hB2.2 i hi)⟩ F8 A8)
  rw [← hz]
  generalize H1 = H at hP hS ⊢
  refine W.widen (k := 25) (n := 27072) (Nat.le_of_ble_eq_true rfl) (Nat.le_of_ble_eq_true rfl) ?_
  have hP : va_P D vwCl ([] ++ am_ws al kC layX F8 A8) H := hP
  have hD : va_D A ([] ++ am_ws al kC layX F8 A8) := hD
  refine lv_astore_n (lv' := [(1, .ref (al 0)), (0, .ref bs)]) hx hb dk_L_figure_7 rfl hl (by decide) rfl (fun ls hl => ?_)
  refine lv_aload_n hx hb dk_L_figure_8 rfl (lv_at hl 1 rfl) ?_
  have hPc : va_P D vwCl [] H := ws_nP
  have hDc : va_D A [] := ws_nD
  have hFc : ∀ q, va_A [] H.size q → A q := fun q h => hA q (Nat.le_trans hS.1 (ws_nA h))
  refine va_callr (va_runS (As := [.ref bs]) (rest := []) ⟨hx, hb, hml, hown, hts⟩ (sk_text l D kC bs L xs hLb H.size) ⟨am_callB (R := jr 21 1000 2500000) (index := 102) 1 (jk_pay htj (am_tb_at 287 (by decide +kernel) rfl)) (hts _ (am_tb_at 287 (by decide +kernel) rfl)) rfl rfl rfl (hts _ (am_tb_at 34 (by decide +kernel) rfl)) (hts _ (am_tb_at 285 (by decide +kernel) rfl)) ⟨by decide, by decide, by decide +kernel⟩ ⟨(by show 20 + 1 ≤ 21; decide), (by show 8 + (5 + 11) + 48 * 20 ≤ 48 * 21; decide)⟩, (hts _ (am_tb_at 286 (by decide +kernel) rfl))⟩ (ws_S (Stb_and (Stb_and Stb_G (Stb_X bs L xs)) Stb_C) hPc hK hDc (fun U hU hW => ws_E (Stb_and (Stb_and Stb_G (Stb_X bs L xs)) Stb_C) hE hS hU hW hFc)) rfl rfl hl.1 rfl (lv_room (Nat.le_of_ble_eq_true rfl)) dk_L_figure_9 ⟨(Nat.le_of_ble_eq_true rfl), (Nat.le_of_ble_eq_true rfl)⟩) hS (fun q _ h => hFc q h) hFc (fun u st t H1 locs hte hvm hz hB hsz hkp hS => ?_)
  obtain ⟨dst, gst⟩ := u
  obtain ⟨hP1, hD1⟩ := hB
  rw [hte] at hP1
  obtain ⟨hP, hD⟩ := va_joinQ (X := []) (pl := am_ws al kC layX F8 A8) (wr := []) (w1 := [(st, .inr (9, [.ref dst, .int 0, .int 0, .int 0])), (dst, .inl (kC 2, (txT L xs).length, .inl gst))]) hP hD [] [] rfl rfl (by decide) (by decide) hkp hFc hP1 hD1
  generalize H1 = H at hP hS ⊢
  have hP : va_P D vwCl ([(st, .inr (9, [.ref dst, .int 0, .int 0, .int 0])), (dst, .inl (kC 2, (txT L xs).length, .inl gst))] ++ am_ws al kC layX F8 A8) H := hP
  have hD : va_D A ([(st, .inr (9, [.ref dst, .int 0, .int 0, .int 0])), (dst, .inl (kC 2, (txT L xs).length, .inl gst))] ++ am_ws al kC layX F8 A8) := hD
  refine W.widen (k := 825) (n := 2127072) (Nat.le_of_ble_eq_true rfl) (Nat.le_of_ble_eq_true rfl) ?_
  dsimp only at hz
  obtain ⟨hf, hL⟩ := hz
  refine lv_astore_n (lv' := [(2, .ref st), (1, .ref (al 0)), (0, .ref bs)]) hx hb dk_L_figure_12 rfl hl (by decide) rfl (fun ls hl => ?_)
  refine lv_aload_n hx hb dk_L_figure_13 rfl (lv_at hl 1 rfl) ?_
  refine lv_aload_n hx hb dk_L_figure_14 rfl (lv_at hl 0 rfl) ?_
  have hPc : va_P D vwCl (am_ws al kC layX F8 A8) H := vt_P hP
  have hDc : va_D A (am_ws al kC layX F8 A8) := vt_D hD
  have hFc : ∀ q, va_A (am_ws al kC layX F8 A8) H.size q → A q := vt_F hD hS hA
  have hPz := vt_0P hPc
  have hDz := vt_0D hDc
  have hFz : ∀ q, va_A ([] ++ am_ws al kC layX F8 A8) H.size q → A q := fun q h => hFc q (vt_0A h)
  refine va_callv (va_runS (As := [.ref (al 0), .ref st]) (rest := []) ⟨hx, hb, hml, hown, hts⟩ (sk_put l D kC al F8 A8 st dst (txT L xs) hTL ht8 rfl H.size) ⟨am_callB (R := jr 21 1000 2500000) (index := 106) 2 (jk_pay htj (am_tb_at 578 (by decide +kernel) rfl)) (hts _ (am_tb_at 578 (by decide +kernel) rfl)) rfl rfl rfl (hts _ (am_tb_at 34 (by decide +kernel) rfl)) (hts _ (am_tb_at 576 (by decide +kernel) rfl)) ⟨by decide, by decide, by decide +kernel⟩ ⟨(by show 15 + 1 ≤ 21; decide), (by show 8 + (6 + 11) + 48 * 15 ≤ 48 * 21; decide)⟩, (hts _ (am_tb_at 577 (by decide +kernel) rfl))⟩ (ws_S (Stb_and (Stb_and Stb_G (Stb_S st dst (txT L xs).length (lt (txT L xs)))) Stb_C) hPz hK hDz (fun U hU hW => ⟨⟨ws_E Stb_G hE.1.1 hS hU hW hFz, ws_N (Stb_S st dst (txT L xs).length (lt (txT L xs))) (ro_S hts hK hP 0 1 rfl rfl hL hf (fun h => vt_out hP hD (i := 0) rfl (vt_0A h)) (fun h => vt_out hP hD (i := 1) rfl (vt_0A h))) hU hW⟩, ws_E Stb_C hE.2 hS hU hW hFz⟩)) rfl rfl hl.1 rfl (lv_room (Nat.le_of_ble_eq_true rfl)) dk_L_figure_15 ⟨(Nat.le_of_ble_eq_true rfl), (Nat.le_of_ble_eq_true rfl)⟩) hS (fun q _ h => hFz q h) hFz (fun u t H1 locs hte hvm hz hB hsz hkp hS => ?_)
  obtain ⟨hB1, hB2⟩ := hB
  rw [hte] at hB1
  have hkp2 : ∀ q : Nat, q < H.size → ¬ va_A (am_ws al kC layX F8 A8) H.size q → H1[q]? = H[q]? := fun q h1 h2 => hkp q h1 (fun h => h2 (vt_0A h))
  have hB2 : va_D (va_A (am_ws al kC layX F8 A8) H.size) (am_ws al kC layX (ptF F8 ((txT L xs).length + nd20 (txT L xs).length)) (ptA (lt (pdL (txT L xs))) A8 ((txT L xs).length + nd20 (txT L xs).length))) := by rw [List.nil_append] at hB2; exact hB2
  obtain ⟨hP, hD⟩ := vt_J (X := [(st, .inr (9, [.ref dst, .int 0, .int 0, .int 0])), (dst, .inl (kC 2, (txT L xs).length, .inl gst))]) (pl := am_ws al kC layX F8 A8) (pl1 := am_ws al kC layX (ptF F8 ((txT L xs).length + nd20 (txT L xs).length)) (ptA (lt (pdL (txT L xs))) A8 ((txT L xs).length + nd20 (txT L xs).length))) hP hD [0, 1] rfl (by decide) hkp2 hFc hB1 hB2
  generalize H1 = H at hP hS ⊢
  have hP : va_P D vwCl ([(st, .inr (9, [.ref dst, .int 0, .int 0, .int 0])), (dst, .inl (kC 2, (txT L xs).length, .inl gst))] ++ am_ws al kC layX (ptF F8 ((txT L xs).length + nd20 (txT L xs).length)) (ptA (lt (pdL (txT L xs))) A8 ((txT L xs).length + nd20 (txT L xs).length))) H := hP
  have hD : va_D A ([(st, .inr (9, [.ref dst, .int 0, .int 0, .int 0])), (dst, .inl (kC 2, (txT L xs).length, .inl gst))] ++ am_ws al kC layX (ptF F8 ((txT L xs).length + nd20 (txT L xs).length)) (ptA (lt (pdL (txT L xs))) A8 ((txT L xs).length + nd20 (txT L xs).length))) := hD
  refine W.widen (k := 965) (n := 2433072) (Nat.le_of_ble_eq_true rfl) (Nat.le_of_ble_eq_true rfl) ?_
  refine lv_aload_n hx hb dk_L_figure_18 rfl (lv_at hl 1 rfl) ?_
  refine lv_aload_n hx hb dk_L_figure_19 rfl (lv_at hl 0 rfl) ?_
  have hPc : va_P D vwCl [] H := ws_nP
  have hDc : va_D A [] := ws_nD
  have hFc : ∀ q, va_A [] H.size q → A q := fun q h => hA q (Nat.le_trans hS.1 (ws_nA h))
  refine va_calli (va_runV (As := []) (rest := [.ref (al 0)]) ⟨hx, hb, hml, hown, hts⟩ (sk_slen l D kC st dst (txT L xs).length (lt (txT L xs)) H.size) ⟨am_callB (R := jr 21 1000 2500000) (index := 8) 0 (jk_pay htj (am_tb_at 400 (by decide +kernel) rfl)) (hts _ (am_tb_at 400 (by decide +kernel) rfl)) rfl rfl rfl (hts _ (am_tb_at 47 (by decide +kernel) rfl)) (hts _ (am_tb_at 579 (by decide +kernel) rfl)) ⟨by decide, by decide, by decide +kernel⟩ ⟨(by show 2 + 1 ≤ 21; decide), (by show 8 + (1 + 11) + 48 * 2 ≤ 48 * 21; decide)⟩, (hts _ (am_tb_at 398 (by decide +kernel) rfl)), (hts _ (am_tb_at 399 (by decide +kernel) rfl))⟩ (ws_V (Stb_and Stb_G (Stb_S st dst (txT L xs).length (lt (txT L xs)))) (va_recv (q := (RJ0, TJ0, 4)) (q0 := 0) hK hP rfl rfl) hPc hK hDc (fun U hU hW => ⟨ws_E Stb_G hE.1.1 hS hU hW hFc, ws_N (Stb_S st dst (txT L xs).length (lt (txT L xs))) (ro_S hts hK hP 0 1 rfl rfl hL hf (ws_n0 hP 0 rfl) (ws_n0 hP 1 rfl)) hU hW⟩)) rfl rfl hl.1 rfl (lv_room (Nat.le_of_ble_eq_true rfl)) dk_L_figure_20 ⟨(Nat.le_of_ble_eq_true rfl), (Nat.le_of_ble_eq_true rfl)⟩) hS (fun q _ h => hFc q h) hFc (fun r0 u t H1 locs hte hvm hz hB hsz hkp hS => ?_)
  have hP := ws_kept hP hkp
  generalize H1 = H at hP hS ⊢
  have hP : va_P D vwCl ([(st, .inr (9, [.ref dst, .int 0, .int 0, .int 0])), (dst, .inl (kC 2, (txT L xs).length, .inl gst))] ++ am_ws al kC layX (ptF F8 ((txT L xs).length + nd20 (txT L xs).length)) (ptA (lt (pdL (txT L xs))) A8 ((txT L xs).length + nd20 (txT L xs).length))) H := hP
  have hD : va_D A ([(st, .inr (9, [.ref dst, .int 0, .int 0, .int 0])), (dst, .inl (kC 2, (txT L xs).length, .inl gst))] ++ am_ws al kC layX (ptF F8 ((txT L xs).length + nd20 (txT L xs).length)) (ptA (lt (pdL (txT L xs))) A8 ((txT L xs).length + nd20 (txT L xs).length))) := hD
  refine W.widen (k := 965) (n := 2433072) (Nat.le_of_ble_eq_true rfl) (Nat.le_of_ble_eq_true rfl) ?_
  subst hz
  have hPc : va_P D vwCl (am_ws al kC layX (ptF F8 ((txT L xs).length + nd20 (txT L xs).length)) (ptA (lt (pdL (txT L xs))) A8 ((txT L xs).length + nd20 (txT L xs).length))) H := vt_P hP
  have hDc : va_D A (am_ws al kC layX (ptF F8 ((txT L xs).length + nd20 (txT L xs).length)) (ptA (lt (pdL (txT L xs))) A8 ((txT L xs).length + nd20 (txT L xs).length))) := vt_D hD
  have hFc : ∀ q, va_A (am_ws al kC layX (ptF F8 ((txT L xs).length + nd20 (txT L xs).length)) (ptA (lt (pdL (txT L xs))) A8 ((txT L xs).length + nd20 (txT L xs).length))) H.size q → A q := vt_F hD hS hA
  have hz7 : (ptF F8 ((txT L xs).length + nd20 (txT L xs).length)) 7 1 = ((((txT L xs).length + nd20 (txT L xs).length) : Nat) : Int) := ptF_7 _ _
  have hnd := (nd20_b (txT L xs)).1
  refine va_calli (va_runV (As := [.int (nI (txT L xs).length)]) (rest := []) ⟨hx, hb, hml, hown, hts⟩ (sk_load l D al kC (ptF F8 ((txT L xs).length + nd20 (txT L xs).length)) (ptA (lt (pdL (txT L xs))) A8 ((txT L xs).length + nd20 (txT L xs).length)) (txT L xs).length (by rw [hz7]; omega) (by show (-2147483648 : Int) ≤ 0 ∧ (0 : Int) < 2147483648; omega) (by rw [hz7]; omega) H.size) ⟨am_callB (R := jr 21 1000 2500000) (index := 110) 1 (am_pay hts (am_tb_at 610 (by decide +kernel) rfl)) (hts _ (am_tb_at 610 (by decide +kernel) rfl)) rfl rfl rfl (hts _ (am_tb_at 35 (by decide +kernel) rfl)) (hts _ (am_tb_at 607 (by decide +kernel) rfl)) ⟨by decide, by decide, by decide +kernel⟩ ⟨(by show 10 + 1 ≤ 21; decide), (by show 8 + (3 + 11) + 48 * 10 ≤ 48 * 21; decide)⟩, (hts _ (am_tb_at 608 (by decide +kernel) rfl)), (hts _ (am_tb_at 609 (by decide +kernel) rfl))⟩ (wa_V (wa_rec hK hPc) hPc hK hDc) rfl rfl hl.1 rfl (lv_room (Nat.le_of_ble_eq_true rfl)) dk_L_figure_23 ⟨(Nat.le_of_ble_eq_true rfl), (Nat.le_of_ble_eq_true rfl)⟩) hS (fun q _ h => hFc q h) hFc (fun r0 u t H1 locs hte hvm hz hB hsz hkp hS => ?_)
  obtain ⟨r1, G1, B1⟩ := u
  obtain ⟨hr0, hr1, hldq⟩ := hz
  dsimp only at hr0 hr1 hldq hB
  have hr1 : r1 = (((txT L xs).count 59 : Nat) : Int) := by
    rw [← hld]
    injection hr1 with q
    injection q with q
    injection q with q
  rw [hr1] at hr0
  rw [hte] at hB
  have hr2 : r0 = nI ((txT L xs).count 59) := by rw [hr0, ← am_ofN (Int.natCast_nonneg _), Int.toNat_natCast]; rfl
  rw [hr2]
  have hD1 : va_D (va_A (am_ws al kC layX (ptF F8 ((txT L xs).length + nd20 (txT L xs).length)) (ptA (lt (pdL (txT L xs))) A8 ((txT L xs).length + nd20 (txT L xs).length))) H.size) (am_ws al kC layX G1 B1) := am_dis_D (am_D_dis hDc.self) _ _
  obtain ⟨hP, hD⟩ := vt_J (X := [(st, .inr (9, [.ref dst, .int 0, .int 0, .int 0])), (dst, .inl (kC 2, (txT L xs).length, .inl gst))]) (pl := am_ws al kC layX (ptF F8 ((txT L xs).length + nd20 (txT L xs).length)) (ptA (lt (pdL (txT L xs))) A8 ((txT L xs).length + nd20 (txT L xs).length))) (pl1 := am_ws al kC layX G1 B1) hP hD [0, 1] rfl (by decide) hkp hFc hB hD1
  generalize H1 = H at hP hS ⊢
  have hP : va_P D vwCl ([(st, .inr (9, [.ref dst, .int 0, .int 0, .int 0])), (dst, .inl (kC 2, (txT L xs).length, .inl gst))] ++ am_ws al kC layX G1 B1) H := hP
  have hD : va_D A ([(st, .inr (9, [.ref dst, .int 0, .int 0, .int 0])), (dst, .inl (kC 2, (txT L xs).length, .inl gst))] ++ am_ws al kC layX G1 B1) := hD
  refine W.widen (k := 965) (n := 2433072) (Nat.le_of_ble_eq_true rfl) (Nat.le_of_ble_eq_true rfl) ?_
  refine lv_aload_n hx hb dk_L_figure_26 rfl (lv_at hl 0 rfl) ?_
  have hPc : va_P D vwCl [] H := ws_nP
  have hDc : va_D A [] := ws_nD
  have hFc : ∀ q, va_A [] H.size q → A q := fun q h => hA q (Nat.le_trans hS.1 (ws_nA h))
  refine va_calli (va_runS (As := [.ref st]) (rest := [.int (nI ((txT L xs).count 59))]) ⟨hx, hb, hml, hown, hts⟩ (sk_statements l D kC st dst (txT L xs) (by omega) H.size) ⟨am_callB (R := jr 21 1000 2500000) (index := 114) 1 (jk_pay htj (am_tb_at 764 (by decide +kernel) rfl)) (hts _ (am_tb_at 764 (by decide +kernel) rfl)) rfl rfl rfl (hts _ (am_tb_at 34 (by decide +kernel) rfl)) (hts _ (am_tb_at 762 (by decide +kernel) rfl)) ⟨by decide, by decide, by decide +kernel⟩ ⟨(by show 5 + 1 ≤ 21; decide), (by show 8 + (3 + 11) + 48 * 5 ≤ 48 * 21; decide)⟩, (hts _ (am_tb_at 763 (by decide +kernel) rfl))⟩ (ws_S (Stb_and Stb_G (Stb_S st dst (txT L xs).length (lt (txT L xs)))) hPc hK hDc (fun U hU hW => ⟨ws_E Stb_G hE.1.1 hS hU hW hFc, ws_N (Stb_S st dst (txT L xs).length (lt (txT L xs))) (ro_S hts hK hP 0 1 rfl rfl hL hf (ws_n0 hP 0 rfl) (ws_n0 hP 1 rfl)) hU hW⟩)) rfl rfl hl.1 rfl (lv_room (Nat.le_of_ble_eq_true rfl)) dk_L_figure_27 ⟨(Nat.le_of_ble_eq_true rfl), (Nat.le_of_ble_eq_true rfl)⟩) hS (fun q _ h => hFc q h) hFc (fun r0 u t H1 locs hte hvm hz hB hsz hkp hS => ?_)
  have hP := ws_kept hP hkp
  generalize H1 = H at hP hS ⊢
  have hP : va_P D vwCl ([(st, .inr (9, [.ref dst, .int 0, .int 0, .int 0])), (dst, .inl (kC 2, (txT L xs).length, .inl gst))] ++ am_ws al kC layX G1 B1) H := hP
  have hD : va_D A ([(st, .inr (9, [.ref dst, .int 0, .int 0, .int 0])), (dst, .inl (kC 2, (txT L xs).length, .inl gst))] ++ am_ws al kC layX G1 B1) := hD
  refine W.widen (k := 965) (n := 2433072) (Nat.le_of_ble_eq_true rfl) (Nat.le_of_ble_eq_true rfl) ?_
  subst hz
  refine lv_icmp_ne (tgt := 37) hx hb dk_L_figure_30 rfl (fun q => absurd rfl q) (fun _ => ?_)
  refine lv_aload_n hx hb dk_L_figure_33 rfl (lv_at hl 1 rfl) ?_
  refine lv_goto (tgt := 38) hx hb dk_L_figure_34 rfl ?_
  have hP := vt_P hP
  have hD := vt_D hD
  refine W.widen (k := 1000) (n := 2500000) (Nat.le_of_ble_eq_true rfl) (Nat.le_of_ble_eq_true rfl) ?_
  exact W.aret (v := .ref (al 0)) hx hb hr (Or.inl ⟨_, rfl⟩) (Or.inr ⟨_, rfl⟩) (fun t ht hW => ⟨⟨(al, G1, B1), (al 0), rfl, hldq, rfl, by rw [ht]; exact hP, hD⟩, hS.F ht⟩) hS.2.2 dk_L_figure_38
