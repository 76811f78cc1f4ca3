theorem dk_L_statements_0 : decode cL_statements 0 = .ok (.iconst 0, 1) := by decide +kernel
theorem dk_L_statements_1 : decode cL_statements 1 = .ok (.istore_n 1, 1) := by decide +kernel
theorem dk_L_statements_2 : decode cL_statements 2 = .ok (.iconst 0, 1) := by decide +kernel
theorem dk_L_statements_3 : decode cL_statements 3 = .ok (.istore_n 2, 1) := by decide +kernel
theorem dk_L_statements_4 : decode cL_statements 4 = .ok (.iload_n 2, 1) := by decide +kernel
theorem dk_L_statements_5 : decode cL_statements 5 = .ok (.aload_n 0, 1) := by decide +kernel
theorem dk_L_statements_6 : decode cL_statements 6 = .ok (.invokevirtual 8, 3) := by decide +kernel
theorem dk_L_statements_9 : decode cL_statements 9 = .ok (.if_icmp .ge 27, 3) := by decide +kernel
theorem dk_L_statements_12 : decode cL_statements 12 = .ok (.iload_n 1, 1) := by decide +kernel
theorem dk_L_statements_13 : decode cL_statements 13 = .ok (.aload_n 0, 1) := by decide +kernel
theorem dk_L_statements_14 : decode cL_statements 14 = .ok (.iload_n 2, 1) := by decide +kernel
theorem dk_L_statements_15 : decode cL_statements 15 = .ok (.invokevirtual 27, 3) := by decide +kernel
theorem dk_L_statements_18 : decode cL_statements 18 = .ok (.bipush 59, 2) := by decide +kernel
theorem dk_L_statements_20 : decode cL_statements 20 = .ok (.if_icmp .ne 7, 3) := by decide +kernel
theorem dk_L_statements_23 : decode cL_statements 23 = .ok (.iconst 1, 1) := by decide +kernel
theorem dk_L_statements_24 : decode cL_statements 24 = .ok (.goto 4, 3) := by decide +kernel
theorem dk_L_statements_27 : decode cL_statements 27 = .ok (.iconst 0, 1) := by decide +kernel
theorem dk_L_statements_28 : decode cL_statements 28 = .ok (.iadd, 1) := by decide +kernel
theorem dk_L_statements_29 : decode cL_statements 29 = .ok (.istore_n 1, 1) := by decide +kernel
theorem dk_L_statements_30 : decode cL_statements 30 = .ok (.iinc 2 1, 3) := by decide +kernel
theorem dk_L_statements_33 : decode cL_statements 33 = .ok (.goto (-29), 3) := by decide +kernel
theorem dk_L_statements_36 : decode cL_statements 36 = .ok (.iload_n 1, 1) := by decide +kernel
theorem dk_L_statements_37 : decode cL_statements 37 = .ok (.ireturn, 1) := by decide +kernel
set_option maxHeartbeats 4000000 in
set_option maxRecDepth 100000 in
theorem st_loop {p : Program} {l : Launch} {e : Env} {s : State} {m : MethodId} {below : List Frame} {meth : Method} {c : Code} {a d : Nat} {T : List Nat} {D : va_G} {kC : Nat → ClassId} {A : Nat → Prop} (hT : T.length < 10000) (hx : p.tables.exec = Jvm.exec) (hb : c.code = cL_statements) (hr : meth.sig.returnType = some .int) (hlocks : meth.locks = false) (hml : c.maxLocals = 3) (htj : ∀ w ∈ jk_tb, w.before (#[Value.ref a] : Array Value) s = true) (hown : s.vm.findClass yL_statements.cls = some m.cls) (hK : va_K D vwCl (am_tys kC) s) (hA : ∀ q : Nat, s.heap.size ≤ q → A q) (hE : (fun B U H => js_G B U H ∧ js_S a d T.length (lt T) B U H) A s s.heap) :
    ∀ r k : Nat, k + r = T.length → ∀ (H : Heap) (locs : List Loc) (ls : Array Slot), lv_has ls 3 [(1, .int (nI (ct59 T k))), (2, .int (nI k)), (0, .ref a)] → va_S A s.heap H locs → W p l e (jr 5 0 0) s m #[Value.ref a] below meth c H locs 0 0 (MQ below (va_Qi (S := Unit) (fun r _ => r = nI (T.count 59)) (fun _ _ => True) A) #[Value.ref a] s 0 0 A) (F0 m 4 ls []) := by
  have hts := fun w (hw : w ∈ am_tb) => htj w (jk_in hw)
  intro r
  induction r with
  | zero =>
    intro k hk H locs ls hl hS
    have hk2 : k = T.length := by omega
    refine lv_iload_n hx hb dk_L_statements_4 rfl (lv_at hl 1 rfl) ?_
    refine lv_aload_n hx hb dk_L_statements_5 rfl (lv_at hl 2 rfl) ?_
    have hPc : va_P D vwCl [] H := ws_nP
    have hDc : va_D A [] := ws_nD
    have hFc : ∀ q, va_A [] H.size q → A q := fun q h => hA q (Nat.le_trans hS.1 (ws_nA h))
    refine va_calli (va_runV (As := []) (rest := [.int (nI k)]) ⟨hx, hb, hml, hown, hts⟩ (sk_slen l D kC a d T.length (lt T) H.size) ⟨am_callB (R := jr 5 0 0) (index := 8) 0 (jk_pay htj (am_tb_at 400 (by decide +kernel) rfl)) (hts _ (am_tb_at 400 (by decide +kernel) rfl)) rfl rfl rfl (hts _ (am_tb_at 47 (by decide +kernel) rfl)) (hts _ (am_tb_at 579 (by decide +kernel) rfl)) ⟨by decide, by decide, by decide +kernel⟩ ⟨(by show 2 + 1 ≤ 5; decide), (by show 8 + (1 + 11) + 48 * 2 ≤ 48 * 5; decide)⟩, (hts _ (am_tb_at 398 (by decide +kernel) rfl)), (hts _ (am_tb_at 399 (by decide +kernel) rfl))⟩ (ws_V (Stb_and Stb_G (Stb_S a d T.length (lt T))) (ro_rec hE.2.1 hS) hPc hK hDc (fun U hU hW => ws_E (Stb_and Stb_G (Stb_S a d T.length (lt T))) hE hS hU hW hFc)) rfl rfl hl.1 rfl (lv_room (Nat.le_of_ble_eq_true rfl)) dk_L_statements_6 ⟨(by show 0 + 0 ≤ 0; omega), (by show 0 + 0 ≤ 0; omega)⟩) hS (fun q _ h => hFc q h) hFc (fun r0 u t H1 locs hte hvm hz hB hsz hkp hS => ?_)
    have hP : va_P D vwCl [] H1 := ws_nP
    generalize H1 = H at hP hS ⊢
    subst hz
    refine lv_icmp_ge (tgt := 36) hx hb dk_L_statements_9 rfl (fun _ => ?_) (fun q => absurd ((nI_leI (by omega) (by omega)).mpr (by omega)) q)
    refine lv_iload_n hx hb dk_L_statements_36 rfl (lv_at hl 0 rfl) ?_
    rw [hk2, ct59_all]
    refine W.widen (k := 0) (n := 0) (by omega) (by omega) ?_
    exact W.iret (v := (nI (T.count 59))) hx hb hr (fun t ht hW => ⟨⟨(nI (T.count 59)), (), rfl, rfl, trivial⟩, hS.F ht⟩) hS.2.2 dk_L_statements_37
  | succ r ih =>
    intro k hk H locs ls hl hS
    have hb2 := ct59_le T k
    have hs := ct59_s (T := T) (k := k) (by omega)
    refine lv_iload_n hx hb dk_L_statements_4 rfl (lv_at hl 1 rfl) ?_
    refine lv_aload_n hx hb dk_L_statements_5 rfl (lv_at hl 2 rfl) ?_
    have hPc : va_P D vwCl [] H := ws_nP
    have hDc : va_D A [] := ws_nD
    have hFc : ∀ q, va_A [] H.size q → A q := fun q h => hA q (Nat.le_trans hS.1 (ws_nA h))
    refine va_calli (va_runV (As := []) (rest := [.int (nI k)]) ⟨hx, hb, hml, hown, hts⟩ (sk_slen l D kC a d T.length (lt T) H.size) ⟨am_callB (R := jr 5 0 0) (index := 8) 0 (jk_pay htj (am_tb_at 400 (by decide +kernel) rfl)) (hts _ (am_tb_at 400 (by decide +kernel) rfl)) rfl rfl rfl (hts _ (am_tb_at 47 (by decide +kernel) rfl)) (hts _ (am_tb_at 579 (by decide +kernel) rfl)) ⟨by decide, by decide, by decide +kernel⟩ ⟨(by show 2 + 1 ≤ 5; decide), (by show 8 + (1 + 11) + 48 * 2 ≤ 48 * 5; decide)⟩, (hts _ (am_tb_at 398 (by decide +kernel) rfl)), (hts _ (am_tb_at 399 (by decide +kernel) rfl))⟩ (ws_V (Stb_and Stb_G (Stb_S a d T.length (lt T))) (ro_rec hE.2.1 hS) hPc hK hDc (fun U hU hW => ws_E (Stb_and Stb_G (Stb_S a d T.length (lt T))) hE hS hU hW hFc)) rfl rfl hl.1 rfl (lv_room (Nat.le_of_ble_eq_true rfl)) dk_L_statements_6 ⟨(by show 0 + 0 ≤ 0; omega), (by show 0 + 0 ≤ 0; omega)⟩) hS (fun q _ h => hFc q h) hFc (fun r0 u t H1 locs hte hvm hz hB hsz hkp hS => ?_)
    have hP : va_P D vwCl [] H1 := ws_nP
    generalize H1 = H at hP hS ⊢
    subst hz
    refine lv_icmp_ge (tgt := 36) hx hb dk_L_statements_9 rfl (fun q => absurd q (fun z => absurd ((nI_leI (by omega) (by omega)).mp z) (by omega))) (fun _ => ?_)
    refine lv_iload_n hx hb dk_L_statements_12 rfl (lv_at hl 0 rfl) ?_
    refine lv_aload_n hx hb dk_L_statements_13 rfl (lv_at hl 2 rfl) ?_
    refine lv_iload_n hx hb dk_L_statements_14 rfl (lv_at hl 1 rfl) ?_
    have hPc : va_P D vwCl [] H := ws_nP
    have hDc : va_D A [] := ws_nD
    have hFc : ∀ q, va_A [] H.size q → A q := fun q h => hA q (Nat.le_trans hS.1 (ws_nA h))
    refine va_calli (va_runV (As := [.int (nI k)]) (rest := [.int (nI (ct59 T k))]) ⟨hx, hb, hml, hown, hts⟩ (sk_chr l D kC a d T.length (lt T) k (by omega) (by omega) H.size) ⟨am_callB (R := jr 5 0 0) (index := 27) 1 (jk_pay htj (am_tb_at 583 (by decide +kernel) rfl)) (hts _ (am_tb_at 583 (by decide +kernel) rfl)) rfl rfl rfl (hts _ (am_tb_at 47 (by decide +kernel) rfl)) (hts _ (am_tb_at 580 (by decide +kernel) rfl)) ⟨by decide, by decide, by decide +kernel⟩ ⟨(by show 4 + 1 ≤ 5; decide), (by show 8 + (2 + 11) + 48 * 4 ≤ 48 * 5; decide)⟩, (hts _ (am_tb_at 581 (by decide +kernel) rfl)), (hts _ (am_tb_at 582 (by decide +kernel) rfl))⟩ (ws_V (Stb_and Stb_G (Stb_S a d T.length (lt T))) (ro_rec hE.2.1 hS) hPc hK hDc (fun U hU hW => ws_E (Stb_and Stb_G (Stb_S a d T.length (lt T))) hE hS hU hW hFc)) rfl rfl hl.1 rfl (lv_room (Nat.le_of_ble_eq_true rfl)) dk_L_statements_15 ⟨(by show 0 + 0 + 0 ≤ 0; omega), (by show 0 + 0 + 0 ≤ 0; omega)⟩) hS (fun q _ h => hFc q h) hFc (fun r0 u t H1 locs hte hvm hz hB hsz hkp hS => ?_)
    have hP : va_P D vwCl [] H1 := ws_nP
    generalize H1 = H at hP hS ⊢
    subst hz
    refine lv_bipush (v := 59) hx hb dk_L_statements_18 (by decide) ?_
    obtain ⟨f9, hf9⟩ := id hE.2.2.2.2
    have hlt : lt T k < 256 := (hf9.2.1 k (by omega)).1
    by_cases h59 : lt T k = 59
    · rw [if_pos h59] at hs
      refine lv_icmp_ne (tgt := 27) hx hb dk_L_statements_20 rfl (fun q => absurd (by rw [h59]; decide) q) (fun _ => ?_)
      refine lv_iconst (v := 1) hx hb dk_L_statements_23 (by decide) ?_
      refine lv_goto (tgt := 28) hx hb dk_L_statements_24 rfl ?_
      refine lv_iadd hx hb dk_L_statements_28 ?_
      rw [show (((nI (ct59 T k)) + 1) : Int32) = nI (ct59 T (k + 1)) from by rw [hs]; exact nI_1 _]
      refine lv_istore_n (lv' := [(1, .int (nI (ct59 T (k + 1)))), (2, .int (nI k)), (0, .ref a)]) hx hb dk_L_statements_29 rfl hl (by decide) rfl (fun ls hl => ?_)
      refine lv_iinc (k := 1) (v := nI (k + 1)) (lv' := [(2, .int (nI (k + 1))), (1, .int (nI (ct59 T (k + 1)))), (0, .ref a)]) hx hb dk_L_statements_30 hl rfl (nI_1 k) (by decide) rfl (fun ls hl => ?_)
      refine lv_goto (tgt := 4) hx hb dk_L_statements_33 rfl ?_
      refine W.widen (k := 0) (n := 0) (Nat.le_refl _) (Nat.le_refl _) ?_
      exact ih (k + 1) (by omega) _ _ _ (lv_sub hl [1, 0, 2] rfl) hS
    · rw [if_neg h59] at hs
      refine lv_icmp_ne (tgt := 27) hx hb dk_L_statements_20 rfl (fun _ => ?_) (fun q => absurd q (fun z => h59 ((nI_eq (by omega) (by decide)).mp z)))
      refine lv_iconst (v := 0) hx hb dk_L_statements_27 (by decide) ?_
      refine lv_iadd hx hb dk_L_statements_28 ?_
      rw [show (((nI (ct59 T k)) + 0) : Int32) = nI (ct59 T (k + 1)) from by rw [hs]; exact Int32.add_zero _]
      refine lv_istore_n (lv' := [(1, .int (nI (ct59 T (k + 1)))), (2, .int (nI k)), (0, .ref a)]) hx hb dk_L_statements_29 rfl hl (by decide) rfl (fun ls hl => ?_)
      refine lv_iinc (k := 1) (v := nI (k + 1)) (lv' := [(2, .int (nI (k + 1))), (1, .int (nI (ct59 T (k + 1)))), (0, .ref a)]) hx hb dk_L_statements_30 hl rfl (nI_1 k) (by decide) rfl (fun ls hl => ?_)
      refine lv_goto (tgt := 4) hx hb dk_L_statements_33 rfl ?_
      refine W.widen (k := 0) (n := 0) (Nat.le_refl _) (Nat.le_refl _) ?_
      exact ih (k + 1) (by omega) _ _ _ (lv_sub hl [1, 0, 2] rfl) hS
set_option maxHeartbeats 4000000 in
set_option maxRecDepth 100000 in
theorem sk_statements (l : Launch) (D : va_G) (kC : Nat → ClassId) (a d : Nat) (T : List Nat) (hT : T.length < 10000) (sz : Nat) : Met l yL_statements (.code yL_statements cL_statements 3 (some .int) :: jk_tb) (jr 5 0 0) (va_Pc [.ref a] (ws_B D kC (fun B U H => js_G B U H ∧ js_S a d T.length (lt T) B U H) [] sz)) (va_Qi (S := Unit) (fun r _ => r = nI (T.count 59)) (fun _ _ => True) (va_A [] sz)) 0 0 (va_A [] sz) := by
  refine Met.ofW (cc := cL_statements) (maxL := 3) (ret := (some .int)) (by decide +kernel) rfl ?_
  intro p e s m args below meth c s₁ B hml hv2
  obtain ⟨rfl, hsz, hP, hK, hD0, hE⟩ := hv2
  have hx := B.exec
  have hb := B.bytes
  have hr := B.returns
  have hlocks := B.notSynchronized
  have hts0 := atoms_spec (ws := (.code yL_statements cL_statements 3 (some .int) :: jk_tb)) B.pre
  have htj := fun w (hw : w ∈ jk_tb) => hts0 w (List.mem_cons_of_mem _ hw)
  have hts := fun w (hw : w ∈ am_tb) => htj w (jk_in hw)
  have hown : s.vm.findClass yL_statements.cls = some m.cls := findClass_of_methodNamed B.named
  subst hsz
  have hD := hD0.self (sz := s.heap.size)
  generalize hAe : va_A [] s.heap.size = A at hD hE ⊢
  have hA : ∀ q : Nat, s.heap.size ≤ q → A q := fun q h => by rw [← hAe]; exact Or.inr h
  have hP : va_P D vwCl [] s.heap := hP
  have hS : va_S A s.heap s.heap [] := va_S.rf
  have hl := lv_entry ([.ref a]) (n := 3) (Nat.le_of_ble_eq_true rfl)
  rw [lg_entry_eq]
  generalize (lg_sl ([.ref a]) ++ List.replicate (3 - (lg_sl ([.ref a])).length) Slot.unset).toArray = ls at hl ⊢
  have hl : lv_has ls 3 [(0, .ref a)] := hl
  refine lv_iconst (v := 0) hx hb dk_L_statements_0 (by decide) ?_
  refine lv_istore_n (lv' := [(1, .int 0), (0, .ref a)]) hx hb dk_L_statements_1 rfl hl (by decide) rfl (fun ls hl => ?_)
  refine lv_iconst (v := 0) hx hb dk_L_statements_2 (by decide) ?_
  refine lv_istore_n (lv' := [(2, .int 0), (1, .int 0), (0, .ref a)]) hx hb dk_L_statements_3 rfl hl (by decide) rfl (fun ls hl => ?_)
  refine W.widen (k := 0) (n := 0) (Nat.le_refl _) (Nat.le_refl _) ?_
  exact st_loop (D := D) (kC := kC) hT hx hb hr hlocks hml htj hown hK hA hE T.length 0 (by omega) _ _ _ (lv_sub hl [1, 0, 2] rfl) hS
