section ROC
variable {p : Program} {l : Launch} {e : Env} {R : Room} {s : State} {m : MethodId} {args : Array Value} {below : List Frame} {meth : Method} {c : Code} {Q : State → Prop} {H : Heap} {locs : List Loc} {cells slots : Nat}
theorem ro_clone {cc : ByteArray} {pc : Nat} {ls : Array Slot} {rest : List Value} {D : va_G} {kC : Nat → ClassId} {A : Nat → Prop} {b w index : Nat} {g : Nat → Int32} {own : String} (hexec : p.tables.exec = Jvm.exec) (hb : c.code = cc) (hml : c.maxLocals = ls.size) (hown : s.vm.findClass own = some m.cls)
    (hlink : (Cond.methodLink own index ⟨"[B", "clone", "()Ljava/lang/Object;"⟩).before args s = true) (hts : ∀ w ∈ am_tb, w.before args s = true)
    (hK : va_K D vwCl (am_tys kC) s) (hR : ro_A kC b w g A s s.heap) (hS : va_S A s.heap H locs) (hA : ∀ q, s.heap.size ≤ q → A q) (hf : sb_Fit g)
    (hframes : 1 ≤ R.frames) (hlocals : (rest.map fun v => v.category).sum + 14 ≤ R.locals) (hcells : cells + 1 ≤ R.cells) (hslots : slots + w ≤ R.slots) (hdg : decode cc pc = .ok (.invokevirtual index, 3))
    (kk : ∀ (q : Nat) (H1 : Heap), va_P D vwCl [(q, .inl (kC 2, w, .inl g))] H1 → va_D A [(q, .inl (kC 2, w, .inl g))] → va_S A s.heap H1 locs → s.vm.findClass "[B" = some (kC 2) →
      W p l e R s m args below meth c H1 locs (cells + 1) (slots + w) Q (F0 m (pc + 3) ls (.ref q :: rest))) : W p l e R s m args below meth c H locs cells slots Q (F0 m pc ls (.ref b :: rest)) := by
  have hbs := (Array.getElem?_eq_some_iff.mp hR.1).1
  have hbH : H[b]? = some (vp_cell (kC 2) (w, .inl g)) := by rw [hS.2.1 b hbs hR.2]; exact hR.1
  have hP0 : va_P D vwCl [(b, .inl (kC 2, w, .inl g))] H := fun k q h => by
    match k, h with
    | 0, h => cases h; exact hbH
  have hD0 : va_D (fun x => x = b ∨ H.size ≤ x ∨ A x) [(b, .inl (kC 2, w, .inl g))] := ⟨fun i j p q h1 h2 _ => by
    match i, j, h1, h2 with
    | 0, 0, _, _ => rfl, fun k q h => by
    match k, h with
    | 0, h => cases h; exact Or.inl rfl⟩
  have hS0 : va_S (fun x => x = b ∨ H.size ≤ x ∨ A x) H H locs := ⟨Nat.le_refl _, fun _ _ _ => rfl, fun x hx => Or.inr (Or.inr (hS.2.2 x hx))⟩
  have hnm : s.vm.findClass "[B" = some (kC 2) := (hK.2 2 (kC 2, .byte) rfl).2
  refine va_clone (ad := "[B") hexec hb hml hown hlink (hts _ (am_tb_at 354 (by decide +kernel) rfl)) (hts _ (am_tb_at 355 (by decide +kernel) rfl)) (hts _ (am_tb_at 356 (by decide +kernel) rfl)) (hts _ (am_tb_at 357 (by decide +kernel) rfl)) (va_Nw.of rfl (hts _ (am_tb_at 358 (by decide +kernel) rfl))) hK hP0 hD0 hS0 (fun q h => Or.inr (Or.inl h)) 0 2 rfl rfl hnm (fun i v hv => ?_) hframes hlocals hcells hslots hdg (fun q H1 _ hP1 hD1 hS1 => ?_)
  · have hi : i < w := by
      have := (Array.getElem?_eq_some_iff.mp hv).1
      have e : (vp_cell (kC 2) (w, .inl g)).slots.size = w := arrV_size _ _ _
      omega
    have e : (vp_cell (kC 2) (w, .inl g)).slots[i]? = some (.int (g i)) := arrV_read (kC 2) (fun j => .int (g j)) hi
    rw [e] at hv
    cases hv
    exact hf i
  · have hq : A q := by
      rcases hD1.2 1 _ rfl with h | h | h
      · exact absurd (hD1.1 1 0 _ _ rfl rfl h) (by decide)
      · exact hA q (Nat.le_trans hS.1 h)
      · exact h
    refine kk q H1 (fun k x h => ?_) ⟨fun i j p q h1 h2 _ => ?_, fun k x h => ?_⟩ ⟨Nat.le_trans hS.1 hS1.1, fun x h1 h2 => ?_, hS.2.2⟩ hnm
    · match k, h with
      | 0, h => cases h; exact hP1 1 _ rfl
    · match i, j, h1, h2 with
      | 0, 0, _, _ => rfl
    · match k, h with
      | 0, h => cases h; exact hq
    · by_cases hxb : x = b
      · subst hxb
        have h3 : H1[x]? = some (vp_cell (kC 2) (w, .inl g)) := hP1 0 _ rfl
        rw [h3, hR.1]
      · rw [hS1.2.1 x (Nat.lt_of_lt_of_le h1 hS.1) (fun z => by rcases z with z | z | z; exact hxb z; exact absurd z (Nat.not_le.mpr (Nat.lt_of_lt_of_le h1 hS.1)); exact h2 z)]
        exact hS.2.1 x h1 h2
end ROC
theorem dk_J7_copyOfRange_39247_0 : decode cJ7_copyOfRange_39247 0 = .ok (.iload_n 1, 1) := by decide +kernel
theorem dk_J7_copyOfRange_39247_1 : decode cJ7_copyOfRange_39247 1 = .ok (.ifCond .ne 9, 3) := by decide +kernel
theorem dk_J7_copyOfRange_39247_4 : decode cJ7_copyOfRange_39247 4 = .ok (.iload_n 2, 1) := by decide +kernel
theorem dk_J7_copyOfRange_39247_5 : decode cJ7_copyOfRange_39247 5 = .ok (.aload_n 0, 1) := by decide +kernel
theorem dk_J7_copyOfRange_39247_6 : decode cJ7_copyOfRange_39247 6 = .ok (.arraylength, 1) := by decide +kernel
theorem dk_J7_copyOfRange_39247_7 : decode cJ7_copyOfRange_39247 7 = .ok (.if_icmp .eq 10, 3) := by decide +kernel
theorem dk_J7_copyOfRange_39247_10 : decode cJ7_copyOfRange_39247 10 = .ok (.aload_n 0, 1) := by decide +kernel
theorem dk_J7_copyOfRange_39247_11 : decode cJ7_copyOfRange_39247 11 = .ok (.iload_n 1, 1) := by decide +kernel
theorem dk_J7_copyOfRange_39247_12 : decode cJ7_copyOfRange_39247 12 = .ok (.iload_n 2, 1) := by decide +kernel
theorem dk_J7_copyOfRange_39247_13 : decode cJ7_copyOfRange_39247 13 = .ok (.invokestatic 339, 3) := by decide +kernel
theorem dk_J7_copyOfRange_39247_16 : decode cJ7_copyOfRange_39247 16 = .ok (.areturn, 1) := by decide +kernel
theorem dk_J7_copyOfRange_39247_17 : decode cJ7_copyOfRange_39247 17 = .ok (.aload_n 0, 1) := by decide +kernel
theorem dk_J7_copyOfRange_39247_18 : decode cJ7_copyOfRange_39247 18 = .ok (.invokevirtual 310, 3) := by decide +kernel
theorem dk_J7_copyOfRange_39247_21 : decode cJ7_copyOfRange_39247 21 = .ok (.checkcast 311, 3) := by decide +kernel
theorem dk_J7_copyOfRange_39247_24 : decode cJ7_copyOfRange_39247 24 = .ok (.areturn, 1) := by decide +kernel
set_option maxHeartbeats 4000000 in
set_option maxRecDepth 100000 in
theorem sk_cor (l : Launch) (D : va_G) (kC : Nat → ClassId) (b w n : Nat) (g : Nat → Int32) (h1 : n ≤ w) (h2 : w ≤ 4000) (hf : sb_Fit g) (sz : Nat) : Met l yJ7_copyOfRange_39247 (.code yJ7_copyOfRange_39247 cJ7_copyOfRange_39247 3 (some (.array .byte)) :: jk_tb) (jr 5 1 4000) (va_Pc [.ref b, .int 0, .int (nI n)] (ws_B D kC (fun B U H => js_G B U H ∧ ro_A kC b w g B U H) [] sz)) (va_Qr (S := Nat → Int32) (fun g2 => sb_Fit g2 ∧ ∀ j, j < n → g2 j = g j) (fun g2 ra t => va_P D vwCl [(ra, .inl (kC 2, n, .inl g2))] t.heap ∧ va_D (va_A [] sz) [(ra, .inl (kC 2, n, .inl g2))]) (va_A [] sz)) 1 4000 (va_A [] sz) := by
  refine Met.ofW (cc := cJ7_copyOfRange_39247) (maxL := 3) (ret := (some (.array .byte))) (by decide +kernel) rfl ?_
  intro p e s m args below meth c s₁ B hml hv2
  obtain ⟨rfl, hsz, hP, hK, hD0, hE⟩ := hv2
  have hx := B.exec
  have hb := B.bytes
  have hr := B.returns
  have hlocks := B.notSynchronized
  have hts0 := atoms_spec (ws := (.code yJ7_copyOfRange_39247 cJ7_copyOfRange_39247 3 (some (.array .byte)) :: jk_tb)) B.pre
  have htj := fun w (hw : w ∈ jk_tb) => hts0 w (List.mem_cons_of_mem _ hw)
  have hts := fun w (hw : w ∈ am_tb) => htj w (jk_in hw)
  have hown : s.vm.findClass yJ7_copyOfRange_39247.cls = some m.cls := findClass_of_methodNamed B.named
  subst hsz
  have hD := hD0.self (sz := s.heap.size)
  generalize hAe : va_A [] s.heap.size = A at hD hE ⊢
  have hA : ∀ q : Nat, s.heap.size ≤ q → A q := fun q h => by rw [← hAe]; exact Or.inr h
  have hP : va_P D vwCl [] s.heap := hP
  have hS : va_S A s.heap s.heap [] := va_S.rf
  have hl := lv_entry ([.ref b, .int 0, .int (nI n)]) (n := 3) (Nat.le_of_ble_eq_true rfl)
  rw [lg_entry_eq]
  generalize (lg_sl ([.ref b, .int 0, .int (nI n)]) ++ List.replicate (3 - (lg_sl ([.ref b, .int 0, .int (nI n)])).length) Slot.unset).toArray = ls at hl ⊢
  have hl : lv_has ls 3 [(0, .ref b), (1, .int 0), (2, .int (nI n))] := hl
  have hT := ro_AT hK hE.2
  refine lv_iload_n hx hb dk_J7_copyOfRange_39247_0 rfl (lv_at hl 1 rfl) ?_
  refine lv_if_ne (tgt := 10) hx hb dk_J7_copyOfRange_39247_1 rfl (fun q => absurd rfl q) (fun _ => ?_)
  refine lv_iload_n hx hb dk_J7_copyOfRange_39247_4 rfl (lv_at hl 2 rfl) ?_
  refine lv_aload_n hx hb dk_J7_copyOfRange_39247_5 rfl (lv_at hl 0 rfl) ?_
  refine va_tlen (v := nI w) hx hb hT hS rfl dk_J7_copyOfRange_39247_6 ?_
  by_cases hnw : n = w
  · subst hnw
    refine lv_icmp_eq (tgt := 17) hx hb dk_J7_copyOfRange_39247_7 rfl (fun _ => ?_) (fun q => absurd rfl q)
    refine lv_aload_n hx hb dk_J7_copyOfRange_39247_17 rfl (lv_at hl 0 rfl) ?_
    refine ro_clone hx hb (by rw [hml, hl.1]) hown (hts _ (am_tb_at 353 (by decide +kernel) rfl)) hts hK hE.2 hS hA hf (by show 1 ≤ 5; decide) (Nat.le_of_ble_eq_true rfl) (by show 0 + 1 ≤ 1; decide) (by show 0 + n ≤ 4000; omega) dk_J7_copyOfRange_39247_18 (fun q1 H hP hD hS hnm => ?_)
    refine va_castA hx hb hown (hts _ (am_tb_at 359 (by decide +kernel) rfl)) hP 0 rfl hnm dk_J7_copyOfRange_39247_21 ?_
    refine W.widen (k := 1) (n := 4000) (by omega) (by omega) ?_
    exact W.aret (v := .ref q1) hx hb hr (Or.inr ⟨_, rfl⟩) (Or.inr ⟨_, rfl⟩) (fun t ht hW => ⟨⟨g, q1, rfl, ⟨hf, fun j hj => rfl⟩, by rw [ht]; exact hP, hD⟩, hS.F ht⟩) hS.2.2 dk_J7_copyOfRange_39247_24
  · skip
    refine lv_icmp_eq (tgt := 17) hx hb dk_J7_copyOfRange_39247_7 rfl (fun q => absurd q (fun z => hnw ((nI_eq (by omega) (by omega)).mp z))) (fun _ => ?_)
    refine lv_aload_n hx hb dk_J7_copyOfRange_39247_10 rfl (lv_at hl 0 rfl) ?_
    refine lv_iload_n hx hb dk_J7_copyOfRange_39247_11 rfl (lv_at hl 1 rfl) ?_
    refine lv_iload_n hx hb dk_J7_copyOfRange_39247_12 rfl (lv_at hl 2 rfl) ?_
    have hPc : va_P D vwCl [] s.heap := ws_nP
    have hDc : va_D A [] := ws_nD
    have hFc : ∀ q, va_A [] s.heap.size q → A q := fun q h => hA q (Nat.le_trans hS.1 (ws_nA h))
    refine va_callr (va_runS (As := [.ref b, .int 0, .int (nI n)]) (rest := []) ⟨hx, hb, hml, hown, hts⟩ (sk_corB l D kC b w n g (by omega) h2 hf s.heap.size) ⟨am_callB (R := jr 5 1 4000) (index := 339) 3 (jk_pay htj (am_tb_at 505 (by decide +kernel) rfl)) (hts _ (am_tb_at 505 (by decide +kernel) rfl)) rfl rfl rfl (hts _ (am_tb_at 44 (by decide +kernel) rfl)) (hts _ (am_tb_at 503 (by decide +kernel) rfl)) ⟨by decide, by decide, by decide +kernel⟩ ⟨(by show 4 + 1 ≤ 5; decide), (by show 8 + (5 + 11) + 48 * 4 ≤ 48 * 5; decide)⟩, (hts _ (am_tb_at 504 (by decide +kernel) rfl))⟩ (ws_S (Stb_and Stb_G (Stb_A kC b w g)) hPc hK hDc (fun U hU hW => ws_E (Stb_and Stb_G (Stb_A kC b w g)) hE hS hU hW hFc)) rfl rfl hl.1 rfl (lv_room (Nat.le_of_ble_eq_true rfl)) dk_J7_copyOfRange_39247_13 ⟨(by show 0 + 1 ≤ 1; omega), (by show 0 + 4000 ≤ 4000; omega)⟩) hS (fun q _ h => hFc q h) hFc (fun u ra t H1 locs hte hvm hz hB hsz hkp hS => ?_)
    obtain ⟨hP1, hD1⟩ := hB
    rw [hte] at hP1
    obtain ⟨hP, hD⟩ := va_join (wr := []) (w1 := [(ra, .inl (kC 2, n, .inl u))]) hP hD [] [] rfl rfl (by decide) (by decide) hkp hFc hP1 hD1
    generalize H1 = H at hP hS ⊢
    have hP : va_P D vwCl [(ra, .inl (kC 2, n, .inl u))] H := hP
    have hD : va_D A [(ra, .inl (kC 2, n, .inl u))] := hD
    refine W.widen (k := 1) (n := 4000) (by omega) (by omega) ?_
    exact W.aret (v := .ref ra) hx hb hr (Or.inr ⟨_, rfl⟩) (Or.inr ⟨_, rfl⟩) (fun t ht hW => ⟨⟨u, ra, rfl, hz, by rw [ht]; exact hP, hD⟩, hS.F ht⟩) hS.2.2 dk_J7_copyOfRange_39247_16
theorem dk_J4_length_8abf5_0 : decode cJ4_length_8abf5 0 = .ok (.aload_n 0, 1) := by decide +kernel
theorem dk_J4_length_8abf5_1 : decode cJ4_length_8abf5 1 = .ok (.invokespecial 343, 3) := by decide +kernel
theorem dk_J4_length_8abf5_4 : decode cJ4_length_8abf5 4 = .ok (.ireturn, 1) := by decide +kernel
set_option maxHeartbeats 4000000 in
set_option maxRecDepth 100000 in
theorem sk_sbl (l : Launch) (D : va_G) (kC : Nat → ClassId) (q b w n : Nat) (g : Nat → Int32) (sz : Nat) : Met l yJ4_length_8abf5 (.code yJ4_length_8abf5 cJ4_length_8abf5 1 (some .int) :: jk_tb) (jr 3 0 0) (va_Pc [.ref q] (ws_B D kC (fun B U H => js_G B U H ∧ js_B kC q b w n g B U H) [] sz)) (va_Qi (S := Unit) (fun r _ => r = nI n) (fun _ _ => True) (va_A [] sz)) 0 0 (va_A [] sz) := by
  refine Met.ofW (cc := cJ4_length_8abf5) (maxL := 1) (ret := (some .int)) (by decide +kernel) rfl ?_
  intro p e s m args below meth c s₁ B hml hv2
  obtain ⟨rfl, hsz, hP, hK, hD0, hE⟩ := hv2
  have hx := B.exec
  have hb := B.bytes
  have hr := B.returns
  have hlocks := B.notSynchronized
  have hts0 := atoms_spec (ws := (.code yJ4_length_8abf5 cJ4_length_8abf5 1 (some .int) :: jk_tb)) B.pre
  have htj := fun w (hw : w ∈ jk_tb) => hts0 w (List.mem_cons_of_mem _ hw)
  have hts := fun w (hw : w ∈ am_tb) => htj w (jk_in hw)
  have hown : s.vm.findClass yJ4_length_8abf5.cls = some m.cls := findClass_of_methodNamed B.named
  subst hsz
  have hD := hD0.self (sz := s.heap.size)
  generalize hAe : va_A [] s.heap.size = A at hD hE ⊢
  have hA : ∀ q : Nat, s.heap.size ≤ q → A q := fun q h => by rw [← hAe]; exact Or.inr h
  have hP : va_P D vwCl [] s.heap := hP
  have hS : va_S A s.heap s.heap [] := va_S.rf
  have hl := lv_entry ([.ref q]) (n := 1) (Nat.le_of_ble_eq_true rfl)
  rw [lg_entry_eq]
  generalize (lg_sl ([.ref q]) ++ List.replicate (1 - (lg_sl ([.ref q])).length) Slot.unset).toArray = ls at hl ⊢
  have hl : lv_has ls 1 [(0, .ref q)] := hl
  refine lv_aload_n hx hb dk_J4_length_8abf5_0 rfl (lv_at hl 0 rfl) ?_
  have hPc : va_P D vwCl [] s.heap := ws_nP
  have hDc : va_D A [] := ws_nD
  have hFc : ∀ q, va_A [] s.heap.size q → A q := fun q h => hA q (Nat.le_trans hS.1 (ws_nA h))
  refine va_calli (va_runSU (hK.1 10 _ rfl).2 (As := []) (rest := []) ⟨hx, hb, hml, hown, hts⟩ (sk_blen l D kC q b w n g s.heap.size) (⟨⟨rfl, rfl, (by show 2 + 1 ≤ 3; decide), (by show 8 + (1 + 11) + 48 * 2 ≤ 48 * 3; decide), jk_pay htj (am_tb_at 498 (by decide +kernel) rfl), List.mem_cons_self⟩, (hts _ (am_tb_at 497 (by decide +kernel) rfl)), (hts _ (am_tb_at 493 (by decide +kernel) rfl)), (hts _ (am_tb_at 318 (by decide +kernel) rfl)), (hts _ (am_tb_at 492 (by decide +kernel) rfl)), (hts _ (am_tb_at 45 (by decide +kernel) rfl)), (hts _ (am_tb_at 498 (by decide +kernel) rfl)), (by decide), (fun sig h => by have h2 : parseMethodDescriptor yJ5_length_8abf5.desc = some _ := h; have h3 : (parseMethodDescriptor yJ5_length_8abf5.desc).map (fun d => d.parameters.length) = some 0 := (by decide +kernel); rw [h2] at h3; exact (Option.some.inj h3).symm)⟩ : va_CS _ _ _ _ _ _ _ _ _ _ _ _ _ _) (ws_V (Stb_and Stb_G (Stb_B kC q b w n g)) (ro_rec hE.2.1 hS) hPc hK hDc (fun U hU hW => ws_E (Stb_and Stb_G (Stb_B kC q b w n g)) hE hS hU hW hFc)) rfl rfl hl.1 rfl (lv_room (Nat.le_of_ble_eq_true rfl)) dk_J4_length_8abf5_1 ⟨(by show 0 + 0 ≤ 0; omega), (by show 0 + 0 ≤ 0; omega)⟩) hS (fun q _ h => hFc q h) hFc (fun r0 u t H1 locs hte hvm hz hB hsz hkp hS => ?_)
  have hP : va_P D vwCl [] H1 := ws_nP
  generalize H1 = H at hP hS ⊢
  subst hz
  refine W.widen (k := 0) (n := 0) (by omega) (by omega) ?_
  exact W.iret (v := (nI n)) hx hb hr (fun t ht hW => ⟨⟨(nI n), (), rfl, rfl, trivial⟩, hS.F ht⟩) hS.2.2 dk_J4_length_8abf5_4
theorem dk_J0_init_db425_0 : decode cJ0_init_db425 0 = .ok (.aload_n 0, 1) := by decide +kernel
theorem dk_J0_init_db425_1 : decode cJ0_init_db425 1 = .ok (.invokespecial 1, 3) := by decide +kernel
theorem dk_J0_init_db425_4 : decode cJ0_init_db425 4 = .ok (.aload_n 1, 1) := by decide +kernel
theorem dk_J0_init_db425_5 : decode cJ0_init_db425 5 = .ok (.invokevirtual 552, 3) := by decide +kernel
theorem dk_J0_init_db425_8 : decode cJ0_init_db425 8 = .ok (.astore_n 3, 1) := by decide +kernel
theorem dk_J0_init_db425_9 : decode cJ0_init_db425 9 = .ok (.aload_n 1, 1) := by decide +kernel
theorem dk_J0_init_db425_10 : decode cJ0_init_db425 10 = .ok (.invokevirtual 549, 3) := by decide +kernel
theorem dk_J0_init_db425_13 : decode cJ0_init_db425 13 = .ok (.istore 4, 2) := by decide +kernel
theorem dk_J0_init_db425_15 : decode cJ0_init_db425 15 = .ok (.aload_n 1, 1) := by decide +kernel
theorem dk_J0_init_db425_16 : decode cJ0_init_db425 16 = .ok (.invokevirtual 1047, 3) := by decide +kernel
theorem dk_J0_init_db425_19 : decode cJ0_init_db425 19 = .ok (.ifCond .eq 22, 3) := by decide +kernel
theorem dk_J0_init_db425_22 : decode cJ0_init_db425 22 = .ok (.aload_n 0, 1) := by decide +kernel
theorem dk_J0_init_db425_23 : decode cJ0_init_db425 23 = .ok (.iconst 0, 1) := by decide +kernel
theorem dk_J0_init_db425_24 : decode cJ0_init_db425 24 = .ok (.putfield 15, 3) := by decide +kernel
theorem dk_J0_init_db425_27 : decode cJ0_init_db425 27 = .ok (.aload_n 0, 1) := by decide +kernel
theorem dk_J0_init_db425_28 : decode cJ0_init_db425 28 = .ok (.aload_n 3, 1) := by decide +kernel
theorem dk_J0_init_db425_29 : decode cJ0_init_db425 29 = .ok (.iconst 0, 1) := by decide +kernel
theorem dk_J0_init_db425_30 : decode cJ0_init_db425 30 = .ok (.iload 4, 2) := by decide +kernel
theorem dk_J0_init_db425_32 : decode cJ0_init_db425 32 = .ok (.invokestatic 54, 3) := by decide +kernel
theorem dk_J0_init_db425_35 : decode cJ0_init_db425 35 = .ok (.putfield 9, 3) := by decide +kernel
theorem dk_J0_init_db425_38 : decode cJ0_init_db425 38 = .ok (.goto 59, 3) := by decide +kernel
theorem dk_J0_init_db425_41 : decode cJ0_init_db425 41 = .ok (.getstatic 38, 3) := by decide +kernel
theorem dk_J0_init_db425_44 : decode cJ0_init_db425 44 = .ok (.ifCond .eq 35, 3) := by decide +kernel
theorem dk_J0_init_db425_47 : decode cJ0_init_db425 47 = .ok (.aload_n 1, 1) := by decide +kernel
theorem dk_J0_init_db425_48 : decode cJ0_init_db425 48 = .ok (.getfield 1048, 3) := by decide +kernel
theorem dk_J0_init_db425_51 : decode cJ0_init_db425 51 = .ok (.ifCond .eq 28, 3) := by decide +kernel
theorem dk_J0_init_db425_54 : decode cJ0_init_db425 54 = .ok (.aload_n 0, 1) := by decide +kernel
theorem dk_J0_init_db425_55 : decode cJ0_init_db425 55 = .ok (.aload_n 3, 1) := by decide +kernel
theorem dk_J0_init_db425_56 : decode cJ0_init_db425 56 = .ok (.iconst 0, 1) := by decide +kernel
theorem dk_J0_init_db425_57 : decode cJ0_init_db425 57 = .ok (.iload 4, 2) := by decide +kernel
theorem dk_J0_init_db425_59 : decode cJ0_init_db425 59 = .ok (.invokestatic 1051, 3) := by decide +kernel
theorem dk_J0_init_db425_62 : decode cJ0_init_db425 62 = .ok (.putfield 9, 3) := by decide +kernel
theorem dk_J0_init_db425_65 : decode cJ0_init_db425 65 = .ok (.aload_n 0, 1) := by decide +kernel
theorem dk_J0_init_db425_66 : decode cJ0_init_db425 66 = .ok (.aload_n 0, 1) := by decide +kernel
theorem dk_J0_init_db425_67 : decode cJ0_init_db425 67 = .ok (.getfield 9, 3) := by decide +kernel
theorem dk_J0_init_db425_70 : decode cJ0_init_db425 70 = .ok (.iload 4, 2) := by decide +kernel
theorem dk_J0_init_db425_72 : decode cJ0_init_db425 72 = .ok (.invokestatic 47, 3) := by decide +kernel
theorem dk_J0_init_db425_75 : decode cJ0_init_db425 75 = .ok (.putfield 15, 3) := by decide +kernel
theorem dk_J0_init_db425_78 : decode cJ0_init_db425 78 = .ok (.return_, 1) := by decide +kernel
theorem dk_J0_init_db425_79 : decode cJ0_init_db425 79 = .ok (.aload_n 0, 1) := by decide +kernel
theorem dk_J0_init_db425_80 : decode cJ0_init_db425 80 = .ok (.iconst 1, 1) := by decide +kernel
theorem dk_J0_init_db425_81 : decode cJ0_init_db425 81 = .ok (.putfield 15, 3) := by decide +kernel
theorem dk_J0_init_db425_84 : decode cJ0_init_db425 84 = .ok (.aload_n 0, 1) := by decide +kernel
theorem dk_J0_init_db425_85 : decode cJ0_init_db425 85 = .ok (.aload_n 3, 1) := by decide +kernel
theorem dk_J0_init_db425_86 : decode cJ0_init_db425 86 = .ok (.iconst 0, 1) := by decide +kernel
theorem dk_J0_init_db425_87 : decode cJ0_init_db425 87 = .ok (.iload 4, 2) := by decide +kernel
theorem dk_J0_init_db425_89 : decode cJ0_init_db425 89 = .ok (.iconst 1, 1) := by decide +kernel
theorem dk_J0_init_db425_90 : decode cJ0_init_db425 90 = .ok (.ishl, 1) := by decide +kernel
theorem dk_J0_init_db425_91 : decode cJ0_init_db425 91 = .ok (.invokestatic 54, 3) := by decide +kernel
theorem dk_J0_init_db425_94 : decode cJ0_init_db425 94 = .ok (.putfield 9, 3) := by decide +kernel
theorem dk_J0_init_db425_97 : decode cJ0_init_db425 97 = .ok (.return_, 1) := by decide +kernel
set_option maxHeartbeats 4000000 in
set_option maxRecDepth 100000 in
theorem sk_strA (l : Launch) (D : va_G) (kC : Nat → ClassId) (a : Nat) (q b w n : Nat) (g : Nat → Int32) (h1 : n ≤ w) (h2 : w ≤ 4000) (hf : sb_Fit g) (sz : Nat) : Met l yJ0_init_db425 (.code yJ0_init_db425 cJ0_init_db425 5 none :: jk_tb) (jr 8 1 4000) (va_Pc [.ref a, .ref q, .null] (ws_B D kC (fun B U H => js_G B U H ∧ js_B kC q b w n g B U H) [(a, .inr (9, [.null, .int 0, .int 0, .int 0]))] sz)) (va_Qv (S := Nat × (Nat → Int32)) (fun u => sb_Fit u.2 ∧ ∀ j, j < n → u.2 j = g j) (fun u t => va_P D vwCl [(a, .inr (9, [.ref u.1, .int 0, .int 0, .int 0])), (u.1, .inl (kC 2, n, .inl (u.2)))] t.heap ∧ va_D (va_A [(a, .inr (9, [.null, .int 0, .int 0, .int 0]))] sz) [(a, .inr (9, [.ref u.1, .int 0, .int 0, .int 0])), (u.1, .inl (kC 2, n, .inl (u.2)))]) (va_A [(a, .inr (9, [.null, .int 0, .int 0, .int 0]))] sz)) 1 4000 (va_A [(a, .inr (9, [.null, .int 0, .int 0, .int 0]))] sz) := by
  refine Met.ofW (cc := cJ0_init_db425) (maxL := 5) (ret := none) (by decide +kernel) rfl ?_
  intro p e s m args below meth c s₁ B hml hv2
  obtain ⟨rfl, hsz, hP, hK, hD0, hE⟩ := hv2
  have hx := B.exec
  have hb := B.bytes
  have hr := B.returns
  have hlocks := B.notSynchronized
  have hts0 := atoms_spec (ws := (.code yJ0_init_db425 cJ0_init_db425 5 none :: jk_tb)) B.pre
  have htj := fun w (hw : w ∈ jk_tb) => hts0 w (List.mem_cons_of_mem _ hw)
  have hts := fun w (hw : w ∈ am_tb) => htj w (jk_in hw)
  have hown : s.vm.findClass yJ0_init_db425.cls = some m.cls := findClass_of_methodNamed B.named
  have hin : meth.name = "<init>" := (name_of_methodNamed B.named B.method).1
  subst hsz
  have hD := hD0.self (sz := s.heap.size)
  generalize hAe : va_A [(a, .inr (9, [.null, .int 0, .int 0, .int 0]))] s.heap.size = A at hD hE ⊢
  have hA : ∀ q : Nat, s.heap.size ≤ q → A q := fun q h => by rw [← hAe]; exact Or.inr h
  have hP : va_P D vwCl [(a, .inr (9, [.null, .int 0, .int 0, .int 0]))] s.heap := hP
  have hS : va_S A s.heap s.heap [] := va_S.rf
  have hl := lv_entry ([.ref a, .ref q, .null]) (n := 5) (Nat.le_of_ble_eq_true rfl)
  rw [lg_entry_eq]
  generalize (lg_sl ([.ref a, .ref q, .null]) ++ List.replicate (5 - (lg_sl ([.ref a, .ref q, .null])).length) Slot.unset).toArray = ls at hl ⊢
  have hl : lv_has ls 5 [(0, .ref a), (1, .ref q)] := lv_sub hl [0, 1] rfl
  refine lv_aload_n hx hb dk_J0_init_db425_0 rfl (lv_at hl 0 rfl) ?_
  refine W.objInit hx hb hown (hts _ (am_tb_at 485 (by decide +kernel) rfl)) (hts _ (am_tb_at 83 (by decide +kernel) rfl)) (hts _ (am_tb_at 84 (by decide +kernel) rfl)) rfl (by rw [hml]; exact hl.1) rfl dk_J0_init_db425_1 (Nat.le_of_ble_eq_true rfl) (Nat.le_of_ble_eq_true rfl) ?_
  refine W.eq (g2 := F0 m 4 ls []) rfl ?_
  refine lv_aload_n hx hb dk_J0_init_db425_4 rfl (lv_at hl 1 rfl) ?_
  have hPc : va_P D vwCl [] s.heap := ws_nP
  have hDc : va_D A [] := ws_nD
  have hFc : ∀ q, va_A [] s.heap.size q → A q := fun q h => hA q (Nat.le_trans hS.1 (ws_nA h))
  refine va_callr (va_runU (As := []) (rest := []) ⟨hx, hb, hml, hown, hts⟩ (sk_getV l D kC q b w n g s.heap.size) (⟨⟨rfl, rfl, (by show 2 + 1 ≤ 8; decide), (by show 8 + (1 + 11) + 48 * 2 ≤ 48 * 8; decide), jk_pay htj (am_tb_at 490 (by decide +kernel) rfl), List.mem_cons_self⟩, (hts _ (am_tb_at 490 (by decide +kernel) rfl)), (hts _ (am_tb_at 45 (by decide +kernel) rfl)), ⟨by decide, by decide⟩, (fun sig h => by have h2 : parseMethodDescriptor yJ5_getValue_6d5f1.desc = some _ := h; have h3 : (parseMethodDescriptor yJ5_getValue_6d5f1.desc).map (fun d => d.parameters.length) = some 0 := (by decide +kernel); rw [h2] at h3; exact (Option.some.inj h3).symm), (hts _ (am_tb_at 486 (by decide +kernel) rfl)), (hts _ (am_tb_at 488 (by decide +kernel) rfl)), (va_Decl.of (x := yJ5_getValue_6d5f1) (b := cJ5_getValue_6d5f1) (m := 1) (ret := (some (.array .byte))) (hts _ (am_tb_at 487 (by decide +kernel) rfl)) (hts _ (am_tb_at 490 (by decide +kernel) rfl))), (hts _ (am_tb_at 489 (by decide +kernel) rfl)), (hts _ (am_tb_at 487 (by decide +kernel) rfl))⟩ : va_CU _ _ _ _ "java/lang/StringBuilder" "java/lang/AbstractStringBuilder" 552 yJ5_getValue_6d5f1 yJ5_getValue_6d5f1 _ _ _ _ _ _ _ _) (ws_V (Stb_and Stb_G (Stb_B kC q b w n g)) (ro_rec hE.2.1 hS) hPc hK hDc (fun U hU hW => ws_E (Stb_and Stb_G (Stb_B kC q b w n g)) hE hS hU hW hFc)) rfl rfl hl.1 rfl (lv_room (Nat.le_of_ble_eq_true rfl)) dk_J0_init_db425_5 ⟨(by show 0 + 0 ≤ 1; omega), (by show 0 + 0 ≤ 4000; omega)⟩) hS (fun q _ h => hFc q h) hFc (fun u ra t H1 locs hte hvm hz hB hsz hkp hS => ?_)
  have hP := ws_kept hP hkp
  generalize H1 = H at hP hS ⊢
  have hP : va_P D vwCl [(a, .inr (9, [.null, .int 0, .int 0, .int 0]))] H := hP
  have hD : va_D A [(a, .inr (9, [.null, .int 0, .int 0, .int 0]))] := hD
  rw [hB]
  refine lv_astore_n (lv' := [(3, .ref b), (0, .ref a), (1, .ref q)]) hx hb dk_J0_init_db425_8 rfl hl (by decide) rfl (fun ls hl => ?_)
  refine lv_aload_n hx hb dk_J0_init_db425_9 rfl (lv_at hl 2 rfl) ?_
  have hPc : va_P D vwCl [] H := ws_nP
  have hDc : va_D A [] := ws_nD
  have hFc : ∀ q, va_A [] H.size q → A q := fun q h => hA q (Nat.le_trans hS.1 (ws_nA h))
  refine va_calli (va_runU (As := []) (rest := []) ⟨hx, hb, hml, hown, hts⟩ (sk_sbl l D kC q b w n g H.size) (⟨⟨rfl, rfl, (by show 3 + 1 ≤ 8; decide), (by show 8 + (1 + 11) + 48 * 3 ≤ 48 * 8; decide), jk_pay htj (am_tb_at 496 (by decide +kernel) rfl), List.mem_cons_self⟩, (hts _ (am_tb_at 496 (by decide +kernel) rfl)), (hts _ (am_tb_at 46 (by decide +kernel) rfl)), ⟨by decide, by decide⟩, (fun sig h => by have h2 : parseMethodDescriptor yJ5_length_8abf5.desc = some _ := h; have h3 : (parseMethodDescriptor yJ5_length_8abf5.desc).map (fun d => d.parameters.length) = some 0 := (by decide +kernel); rw [h2] at h3; exact (Option.some.inj h3).symm), (hts _ (am_tb_at 491 (by decide +kernel) rfl)), (hts _ (am_tb_at 493 (by decide +kernel) rfl)), (va_Decl.of (x := yJ5_length_8abf5) (b := cJ5_length_8abf5) (m := 1) (ret := (some .int)) (hts _ (am_tb_at 492 (by decide +kernel) rfl)) (hts _ (am_tb_at 498 (by decide +kernel) rfl))), (hts _ (am_tb_at 494 (by decide +kernel) rfl)), (hts _ (am_tb_at 495 (by decide +kernel) rfl))⟩ : va_CU _ _ _ _ "java/lang/StringBuilder" "java/lang/AbstractStringBuilder" 549 yJ5_length_8abf5 yJ4_length_8abf5 _ _ _ _ _ _ _ _) (ws_V (Stb_and Stb_G (Stb_B kC q b w n g)) (ro_rec hE.2.1 hS) hPc hK hDc (fun U hU hW => ws_E (Stb_and Stb_G (Stb_B kC q b w n g)) hE hS hU hW hFc)) rfl rfl hl.1 rfl (lv_room (Nat.le_of_ble_eq_true rfl)) dk_J0_init_db425_10 ⟨(by show 0 + 0 + 0 ≤ 1; omega), (by show 0 + 0 + 0 ≤ 4000; omega)⟩) hS (fun q _ h => hFc q h) hFc (fun r0 u t H1 locs hte hvm hz hB hsz hkp hS => ?_)
  have hP := ws_kept hP hkp
  generalize H1 = H at hP hS ⊢
  have hP : va_P D vwCl [(a, .inr (9, [.null, .int 0, .int 0, .int 0]))] H := hP
  have hD : va_D A [(a, .inr (9, [.null, .int 0, .int 0, .int 0]))] := hD
  subst hz
  refine lv_istore (lv' := [(4, .int (nI n)), (3, .ref b), (0, .ref a), (1, .ref q)]) hx hb dk_J0_init_db425_13 hl (by decide) rfl (fun ls hl => ?_)
  refine lv_aload_n hx hb dk_J0_init_db425_15 rfl (lv_at hl 3 rfl) ?_
  have hPc : va_P D vwCl [] H := ws_nP
  have hDc : va_D A [] := ws_nD
  have hFc : ∀ q, va_A [] H.size q → A q := fun q h => hA q (Nat.le_trans hS.1 (ws_nA h))
  refine va_calli (va_runU (As := []) (rest := []) ⟨hx, hb, hml, hown, hts⟩ (sk_isLat l D kC q b w n g H.size) (⟨⟨rfl, rfl, (by show 2 + 1 ≤ 8; decide), (by show 8 + (1 + 11) + 48 * 2 ≤ 48 * 8; decide), jk_pay htj (am_tb_at 370 (by decide +kernel) rfl), List.mem_cons_self⟩, (hts _ (am_tb_at 370 (by decide +kernel) rfl)), (hts _ (am_tb_at 45 (by decide +kernel) rfl)), ⟨by decide, by decide⟩, (fun sig h => by have h2 : parseMethodDescriptor yJ5_isLatin1_aae02.desc = some _ := h; have h3 : (parseMethodDescriptor yJ5_isLatin1_aae02.desc).map (fun d => d.parameters.length) = some 0 := (by decide +kernel); rw [h2] at h3; exact (Option.some.inj h3).symm), (hts _ (am_tb_at 499 (by decide +kernel) rfl)), (hts _ (am_tb_at 368 (by decide +kernel) rfl)), (va_Decl.of (x := yJ5_isLatin1_aae02) (b := cJ5_isLatin1_aae02) (m := 1) (ret := (some .boolean)) (hts _ (am_tb_at 367 (by decide +kernel) rfl)) (hts _ (am_tb_at 370 (by decide +kernel) rfl))), (hts _ (am_tb_at 369 (by decide +kernel) rfl)), (hts _ (am_tb_at 367 (by decide +kernel) rfl))⟩ : va_CU _ _ _ _ "java/lang/StringBuilder" "java/lang/AbstractStringBuilder" 1047 yJ5_isLatin1_aae02 yJ5_isLatin1_aae02 _ _ _ _ _ _ _ _) (ws_V (Stb_and Stb_G (Stb_B kC q b w n g)) (ro_rec hE.2.1 hS) hPc hK hDc (fun U hU hW => ws_E (Stb_and Stb_G (Stb_B kC q b w n g)) hE hS hU hW hFc)) rfl rfl hl.1 rfl (lv_room (Nat.le_of_ble_eq_true rfl)) dk_J0_init_db425_16 ⟨(by show 0 + 0 + 0 + 0 ≤ 1; omega), (by show 0 + 0 + 0 + 0 ≤ 4000; omega)⟩) hS (fun q _ h => hFc q h) hFc (fun r0 u t H1 locs hte hvm hz hB hsz hkp hS => ?_)
  have hP := ws_kept hP hkp
  generalize H1 = H at hP hS ⊢
  have hP : va_P D vwCl [(a, .inr (9, [.null, .int 0, .int 0, .int 0]))] H := hP
  have hD : va_D A [(a, .inr (9, [.null, .int 0, .int 0, .int 0]))] := hD
  subst hz
  refine lv_if_eq (tgt := 41) hx hb dk_J0_init_db425_19 rfl (fun q => absurd q (by decide)) (fun _ => ?_)
  refine lv_aload_n hx hb dk_J0_init_db425_22 rfl (lv_at hl 2 rfl) ?_
  refine lv_iconst (v := 0) hx hb dk_J0_init_db425_23 (by decide) ?_
  refine va_putF (D := D) (ci := 9) (v := .int 0) (ty := .byte) (C := RJ0) (T := TJ0) (N := 4) hx hb hts qwJ0 tyJ0 tyJ0_ok nmJ0 hown hK hP hD hS 0 rfl rfl 1 (by decide) (hts _ (am_tb_at 523 (by decide +kernel) rfl)) (fun _ h9 => h9) rfl hin rfl (by decide +kernel) rfl rfl (Nat.le_of_ble_eq_true rfl) dk_J0_init_db425_24 (fun H locs hP hD hS => ?_)
  have hP : va_P D vwCl [(a, .inr (9, [.null, .int 0, .int 0, .int 0]))] H := hP
  have hD : va_D A [(a, .inr (9, [.null, .int 0, .int 0, .int 0]))] := hD
  refine lv_aload_n hx hb dk_J0_init_db425_27 rfl (lv_at hl 2 rfl) ?_
  refine lv_aload_n hx hb dk_J0_init_db425_28 rfl (lv_at hl 1 rfl) ?_
  refine lv_iconst (v := 0) hx hb dk_J0_init_db425_29 (by decide) ?_
  refine lv_iload hx hb dk_J0_init_db425_30 (lv_at hl 0 rfl) ?_
  have hPc : va_P D vwCl [] H := ws_nP
  have hDc : va_D A [] := ws_nD
  have hFc : ∀ q, va_A [] H.size q → A q := fun q h => hA q (Nat.le_trans hS.1 (ws_nA h))
  refine va_callr (va_runS (As := [.ref b, .int 0, .int (nI n)]) (rest := [.ref a]) ⟨hx, hb, hml, hown, hts⟩ (sk_cor l D kC b w n g h1 h2 hf H.size) ⟨am_callB (R := jr 8 1 4000) (index := 54) 3 (jk_pay htj (am_tb_at 502 (by decide +kernel) rfl)) (hts _ (am_tb_at 502 (by decide +kernel) rfl)) rfl rfl rfl (hts _ (am_tb_at 44 (by decide +kernel) rfl)) (hts _ (am_tb_at 500 (by decide +kernel) rfl)) ⟨by decide, by decide, by decide +kernel⟩ ⟨(by show 5 + 1 ≤ 8; decide), (by show 8 + (3 + 11) + 48 * 5 ≤ 48 * 8; decide)⟩, (hts _ (am_tb_at 501 (by decide +kernel) rfl))⟩ (ws_S (Stb_and Stb_G (Stb_A kC b w g)) hPc hK hDc (fun U hU hW => ⟨ws_E Stb_G hE.1 hS hU hW hFc, ws_E (Stb_A kC b w g) hE.2.2.2.2.2 hS hU hW hFc⟩)) rfl rfl hl.1 rfl (lv_room (Nat.le_of_ble_eq_true rfl)) dk_J0_init_db425_32 ⟨(by show 0 + 0 + 0 + 0 + 1 ≤ 1; omega), (by show 0 + 0 + 0 + 0 + 4000 ≤ 4000; omega)⟩) hS (fun q _ h => hFc q h) hFc (fun u ra t H1 locs hte hvm hz hB hsz hkp hS => ?_)
  obtain ⟨hP1, hD1⟩ := hB
  rw [hte] at hP1
  obtain ⟨hP, hD⟩ := va_join (wr := [(a, .inr (9, [.null, .int 0, .int 0, .int 0]))]) (w1 := [(ra, .inl (kC 2, n, .inl u))]) hP hD [] [0] rfl rfl (by decide) (by decide) hkp hFc hP1 hD1
  generalize H1 = H at hP hS ⊢
  have hP : va_P D vwCl [(a, .inr (9, [.null, .int 0, .int 0, .int 0])), (ra, .inl (kC 2, n, .inl u))] H := hP
  have hD : va_D A [(a, .inr (9, [.null, .int 0, .int 0, .int 0])), (ra, .inl (kC 2, n, .inl u))] := hD
  refine va_putF (D := D) (ci := 9) (v := .ref ra) (ty := .array .byte) (C := RJ0) (T := TJ0) (N := 4) hx hb hts qwJ0 tyJ0 tyJ0_ok nmJ0 hown hK hP hD hS 0 rfl rfl 0 (by decide) (hts _ (am_tb_at 522 (by decide +kernel) rfl)) (fun _ h9 => h9) rfl hin rfl (by decide +kernel) rfl rfl (Nat.le_of_ble_eq_true rfl) dk_J0_init_db425_35 (fun H locs hP hD hS => ?_)
  have hP : va_P D vwCl [(a, .inr (9, [.ref ra, .int 0, .int 0, .int 0])), (ra, .inl (kC 2, n, .inl u))] H := hP
  have hD : va_D A [(a, .inr (9, [.ref ra, .int 0, .int 0, .int 0])), (ra, .inl (kC 2, n, .inl u))] := hD
  refine lv_goto (tgt := 97) hx hb dk_J0_init_db425_38 rfl ?_
  refine W.widen (k := 1) (n := 4000) (by omega) (by omega) ?_
  exact W.vret hx hb hr (fun t ht hW => ⟨⟨(ra, u), rfl, hz, by rw [ht]; exact hP, hD⟩, hS.F ht⟩) hS.2.2 dk_J0_init_db425_97
theorem dk_J0_init_81219_0 : decode cJ0_init_81219 0 = .ok (.aload_n 0, 1) := by decide +kernel
theorem dk_J0_init_81219_1 : decode cJ0_init_81219 1 = .ok (.aload_n 1, 1) := by decide +kernel
theorem dk_J0_init_81219_2 : decode cJ0_init_81219 2 = .ok (.aconst_null, 1) := by decide +kernel
theorem dk_J0_init_81219_3 : decode cJ0_init_81219 3 = .ok (.invokespecial 489, 3) := by decide +kernel
theorem dk_J0_init_81219_6 : decode cJ0_init_81219 6 = .ok (.return_, 1) := by decide +kernel
set_option maxHeartbeats 4000000 in
set_option maxRecDepth 100000 in
theorem sk_strB (l : Launch) (D : va_G) (kC : Nat → ClassId) (a : Nat) (q b w n : Nat) (g : Nat → Int32) (h1 : n ≤ w) (h2 : w ≤ 4000) (hf : sb_Fit g) (sz : Nat) : Met l yJ0_init_81219 (.code yJ0_init_81219 cJ0_init_81219 2 none :: jk_tb) (jr 9 1 4000) (va_Pc [.ref a, .ref q] (ws_B D kC (fun B U H => js_G B U H ∧ js_B kC q b w n g B U H) [(a, .inr (9, [.null, .int 0, .int 0, .int 0]))] sz)) (va_Qv (S := Nat × (Nat → Int32)) (fun u => sb_Fit u.2 ∧ ∀ j, j < n → u.2 j = g j) (fun u t => va_P D vwCl [(a, .inr (9, [.ref u.1, .int 0, .int 0, .int 0])), (u.1, .inl (kC 2, n, .inl (u.2)))] t.heap ∧ va_D (va_A [(a, .inr (9, [.null, .int 0, .int 0, .int 0]))] sz) [(a, .inr (9, [.ref u.1, .int 0, .int 0, .int 0])), (u.1, .inl (kC 2, n, .inl (u.2)))]) (va_A [(a, .inr (9, [.null, .int 0, .int 0, .int 0]))] sz)) 1 4000 (va_A [(a, .inr (9, [.null, .int 0, .int 0, .int 0]))] sz) := by
  refine Met.ofW (cc := cJ0_init_81219) (maxL := 2) (ret := none) (by decide +kernel) rfl ?_
  intro p e s m args below meth c s₁ B hml hv2
  obtain ⟨rfl, hsz, hP, hK, hD0, hE⟩ := hv2
  have hx := B.exec
  have hb := B.bytes
  have hr := B.returns
  have hlocks := B.notSynchronized
  have hts0 := atoms_spec (ws := (.code yJ0_init_81219 cJ0_init_81219 2 none :: jk_tb)) B.pre
  have htj := fun w (hw : w ∈ jk_tb) => hts0 w (List.mem_cons_of_mem _ hw)
  have hts := fun w (hw : w ∈ am_tb) => htj w (jk_in hw)
  have hown : s.vm.findClass yJ0_init_81219.cls = some m.cls := findClass_of_methodNamed B.named
  have hin : meth.name = "<init>" := (name_of_methodNamed B.named B.method).1
  subst hsz
  have hD := hD0.self (sz := s.heap.size)
  generalize hAe : va_A [(a, .inr (9, [.null, .int 0, .int 0, .int 0]))] s.heap.size = A at hD hE ⊢
  have hA : ∀ q : Nat, s.heap.size ≤ q → A q := fun q h => by rw [← hAe]; exact Or.inr h
  have hP : va_P D vwCl [(a, .inr (9, [.null, .int 0, .int 0, .int 0]))] s.heap := hP
  have hS : va_S A s.heap s.heap [] := va_S.rf
  have hl := lv_entry ([.ref a, .ref q]) (n := 2) (Nat.le_of_ble_eq_true rfl)
  rw [lg_entry_eq]
  generalize (lg_sl ([.ref a, .ref q]) ++ List.replicate (2 - (lg_sl ([.ref a, .ref q])).length) Slot.unset).toArray = ls at hl ⊢
  have hl : lv_has ls 2 [(0, .ref a), (1, .ref q)] := hl
  refine lv_aload_n hx hb dk_J0_init_81219_0 rfl (lv_at hl 0 rfl) ?_
  refine lv_aload_n hx hb dk_J0_init_81219_1 rfl (lv_at hl 1 rfl) ?_
  refine lv_null hx hb dk_J0_init_81219_2 ?_
  have hPc := hP.sub (ws' := [(a, .inr (9, [.null, .int 0, .int 0, .int 0]))]) [0] rfl
  have hDc := hD.sub (ws' := [(a, .inr (9, [.null, .int 0, .int 0, .int 0]))]) [0] (by decide) rfl
  have hFc := va_free (wc := [(a, .inr (9, [.null, .int 0, .int 0, .int 0]))]) hD hS hA [0] rfl
  refine va_callv (va_runI (As := [.ref q, .null]) (rest := []) ⟨hx, hb, hml, hown, hts⟩ (sk_strA l D kC a q b w n g h1 h2 hf s.heap.size) ⟨am_callB (R := jr 9 1 4000) (index := 489) 2 (jk_pay htj (am_tb_at 484 (by decide +kernel) rfl)) (hts _ (am_tb_at 484 (by decide +kernel) rfl)) rfl rfl rfl (hts _ (am_tb_at 47 (by decide +kernel) rfl)) (hts _ (am_tb_at 482 (by decide +kernel) rfl)) ⟨by decide, by decide, by decide +kernel⟩ ⟨(by show 8 + 1 ≤ 9; decide), (by show 8 + (5 + 11) + 48 * 8 ≤ 48 * 9; decide)⟩, rfl, (hts _ (am_tb_at 483 (by decide +kernel) rfl))⟩ (ws_S (Stb_and Stb_G (Stb_B kC q b w n g)) hPc hK hDc (fun U hU hW => ws_E (Stb_and Stb_G (Stb_B kC q b w n g)) hE hS hU hW hFc)) rfl rfl hl.1 rfl (lv_room (Nat.le_of_ble_eq_true rfl)) dk_J0_init_81219_3 ⟨(by show 0 + 1 ≤ 1; omega), (by show 0 + 4000 ≤ 4000; omega)⟩) hS (fun q _ h => hFc q h) hFc (fun u t H1 locs hte hvm hz hB hsz hkp hS => ?_)
  obtain ⟨hP1, hD1⟩ := hB
  rw [hte] at hP1
  obtain ⟨hP, hD⟩ := va_join (wr := []) (w1 := [(a, .inr (9, [.ref u.1, .int 0, .int 0, .int 0])), (u.1, .inl (kC 2, n, .inl (u.2)))]) hP hD [0] [] rfl rfl (by decide) (by decide) hkp hFc hP1 hD1
  generalize H1 = H at hP hS ⊢
  have hP : va_P D vwCl [(a, .inr (9, [.ref u.1, .int 0, .int 0, .int 0])), (u.1, .inl (kC 2, n, .inl (u.2)))] H := hP
  have hD : va_D A [(a, .inr (9, [.ref u.1, .int 0, .int 0, .int 0])), (u.1, .inl (kC 2, n, .inl (u.2)))] := hD
  refine W.widen (k := 1) (n := 4000) (by omega) (by omega) ?_
  exact W.vret hx hb hr (fun t ht hW => ⟨⟨u, rfl, hz, by rw [ht]; exact hP, hD⟩, hS.F ht⟩) hS.2.2 dk_J0_init_81219_6
theorem dk_J4_toString_0e30d_0 : decode cJ4_toString_0e30d 0 = .ok (.new 18, 3) := by decide +kernel
theorem dk_J4_toString_0e30d_3 : decode cJ4_toString_0e30d 3 = .ok (.dup, 1) := by decide +kernel
theorem dk_J4_toString_0e30d_4 : decode cJ4_toString_0e30d 4 = .ok (.aload_n 0, 1) := by decide +kernel
theorem dk_J4_toString_0e30d_5 : decode cJ4_toString_0e30d 5 = .ok (.invokespecial 137, 3) := by decide +kernel
theorem dk_J4_toString_0e30d_8 : decode cJ4_toString_0e30d 8 = .ok (.areturn, 1) := by decide +kernel
set_option maxHeartbeats 4000000 in
set_option maxRecDepth 100000 in
theorem sk_toS (l : Launch) (D : va_G) (kC : Nat → ClassId) (q b w n : Nat) (g : Nat → Int32) (tt : Nat → Nat) (h1 : n ≤ w) (h2 : w ≤ 4000) (hf : sb_Fit g) (hL : sb_Lat tt n g) (sz : Nat) : Met l yJ4_toString_0e30d (.code yJ4_toString_0e30d cJ4_toString_0e30d 1 (some (.object "java/lang/String")) :: jk_tb) (jr 10 2 4010) (va_Pc [.ref q] (ws_B D kC (fun B U H => js_G B U H ∧ js_B kC q b w n g B U H) [] sz)) (va_Qr (S := Nat × (Nat → Int32)) (fun u => sb_Fit u.2 ∧ sb_Lat tt n u.2) (fun u ra t => va_P D vwCl [(ra, .inr (9, [.ref u.1, .int 0, .int 0, .int 0])), (u.1, .inl (kC 2, n, .inl (u.2)))] t.heap ∧ va_D (va_A [] sz) [(ra, .inr (9, [.ref u.1, .int 0, .int 0, .int 0])), (u.1, .inl (kC 2, n, .inl (u.2)))]) (va_A [] sz)) 2 4010 (va_A [] sz) := by
  refine Met.ofW (cc := cJ4_toString_0e30d) (maxL := 1) (ret := (some (.object "java/lang/String"))) (by decide +kernel) rfl ?_
  intro p e s m args below meth c s₁ B hml hv2
  obtain ⟨rfl, hsz, hP, hK, hD0, hE⟩ := hv2
  have hx := B.exec
  have hb := B.bytes
  have hr := B.returns
  have hlocks := B.notSynchronized
  have hts0 := atoms_spec (ws := (.code yJ4_toString_0e30d cJ4_toString_0e30d 1 (some (.object "java/lang/String")) :: jk_tb)) B.pre
  have htj := fun w (hw : w ∈ jk_tb) => hts0 w (List.mem_cons_of_mem _ hw)
  have hts := fun w (hw : w ∈ am_tb) => htj w (jk_in hw)
  have hown : s.vm.findClass yJ4_toString_0e30d.cls = some m.cls := findClass_of_methodNamed B.named
  subst hsz
  have hD := hD0.self (sz := s.heap.size)
  generalize hAe : va_A [] s.heap.size = A at hD hE ⊢
  have hA : ∀ q : Nat, s.heap.size ≤ q → A q := fun q h => by rw [← hAe]; exact Or.inr h
  have hP : va_P D vwCl [] s.heap := hP
  have hS : va_S A s.heap s.heap [] := va_S.rf
  have hl := lv_entry ([.ref q]) (n := 1) (Nat.le_of_ble_eq_true rfl)
  rw [lg_entry_eq]
  generalize (lg_sl ([.ref q]) ++ List.replicate (1 - (lg_sl ([.ref q])).length) Slot.unset).toArray = ls at hl ⊢
  have hl : lv_has ls 1 [(0, .ref q)] := hl
  refine va_new (ci := 9) (fs := [.null, .int 0, .int 0, .int 0]) (C := RJ0) (T := TJ0) (N := 4) hx hb hts qwJ0 tyJ0 tyJ0_ok hown (hts _ (am_tb_at 477 (by decide +kernel) rfl)) (hts _ (am_tb_at 478 (by decide +kernel) rfl)) (hts _ (am_tb_at 47 (by decide +kernel) rfl)) hK hP hD hS hA rfl (fun j hj => by rcases (show j = 0 ∨ j = 1 ∨ j = 2 ∨ j = 3 by omega) with rfl | rfl | rfl | rfl <;> rfl) (by show 0 + 1 ≤ 2; omega) (by show 0 + 4 ≤ 4010; omega) dk_J4_toString_0e30d_0 (fun a H hP hD hS => ?_)
  have hP : va_P D vwCl [(a, .inr (9, [.null, .int 0, .int 0, .int 0]))] H := hP
  have hD : va_D A [(a, .inr (9, [.null, .int 0, .int 0, .int 0]))] := hD
  refine lv_dup hx hb dk_J4_toString_0e30d_3 rfl ?_
  refine lv_aload_n hx hb dk_J4_toString_0e30d_4 rfl (lv_at hl 0 rfl) ?_
  have hPc := hP.sub (ws' := [(a, .inr (9, [.null, .int 0, .int 0, .int 0]))]) [0] rfl
  have hDc := hD.sub (ws' := [(a, .inr (9, [.null, .int 0, .int 0, .int 0]))]) [0] (by decide) rfl
  have hFc := va_free (wc := [(a, .inr (9, [.null, .int 0, .int 0, .int 0]))]) hD hS hA [0] rfl
  refine va_callv (va_runI (As := [.ref q]) (rest := [.ref a]) ⟨hx, hb, hml, hown, hts⟩ (sk_strB l D kC a q b w n g h1 h2 hf H.size) ⟨am_callB (R := jr 10 2 4010) (index := 137) 1 (jk_pay htj (am_tb_at 481 (by decide +kernel) rfl)) (hts _ (am_tb_at 481 (by decide +kernel) rfl)) rfl rfl rfl (hts _ (am_tb_at 47 (by decide +kernel) rfl)) (hts _ (am_tb_at 479 (by decide +kernel) rfl)) ⟨by decide, by decide, by decide +kernel⟩ ⟨(by show 9 + 1 ≤ 10; decide), (by show 8 + (2 + 11) + 48 * 9 ≤ 48 * 10; decide)⟩, rfl, (hts _ (am_tb_at 480 (by decide +kernel) rfl))⟩ (ws_S (Stb_and Stb_G (Stb_B kC q b w n g)) hPc hK hDc (fun U hU hW => ws_E (Stb_and Stb_G (Stb_B kC q b w n g)) hE hS hU hW hFc)) rfl rfl hl.1 rfl (lv_room (Nat.le_of_ble_eq_true rfl)) dk_J4_toString_0e30d_5 ⟨(by show 0 + 1 + 1 ≤ 2; omega), (by show 0 + 4 + 4000 ≤ 4010; omega)⟩) hS (fun q _ h => hFc q h) hFc (fun u t H1 locs hte hvm hz hB hsz hkp hS => ?_)
  obtain ⟨hP1, hD1⟩ := hB
  rw [hte] at hP1
  obtain ⟨hP, hD⟩ := va_join (wr := []) (w1 := [(a, .inr (9, [.ref u.1, .int 0, .int 0, .int 0])), (u.1, .inl (kC 2, n, .inl (u.2)))]) hP hD [0] [] rfl rfl (by decide) (by decide) hkp hFc hP1 hD1
  generalize H1 = H at hP hS ⊢
  have hP : va_P D vwCl [(a, .inr (9, [.ref u.1, .int 0, .int 0, .int 0])), (u.1, .inl (kC 2, n, .inl (u.2)))] H := hP
  have hD : va_D A [(a, .inr (9, [.ref u.1, .int 0, .int 0, .int 0])), (u.1, .inl (kC 2, n, .inl (u.2)))] := hD
  have hq : sb_Lat tt n u.2 := sb_latKeep hL hz.2
  refine W.widen (k := 2) (n := 4010) (by omega) (by omega) ?_
  exact W.aret (v := .ref a) hx hb hr (Or.inl ⟨_, rfl⟩) (Or.inr ⟨_, rfl⟩) (fun t ht hW => ⟨⟨u, a, rfl, ⟨hz.1, hq⟩, by rw [ht]; exact hP, hD⟩, hS.F ht⟩) hS.2.2 dk_J4_toString_0e30d_8
