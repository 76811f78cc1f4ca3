theorem dec_1 {v : Nat} (h : v < 10) : sb_dg v = 1 ∧ sb_dec v 0 = 48 + v := by
  have e : sb_dg v = 1 := if_pos h
  refine ⟨e, ?_⟩
  unfold sb_dec
  rw [e]
  omega
theorem dec_2 {v : Nat} (h : 10 ≤ v) (h2 : v < 100) : sb_dg v = 2 ∧ sb_dec v 0 = 48 + v / 10 ∧ sb_dec v 1 = 48 + v % 10 := by
  have e : sb_dg v = 2 := by unfold sb_dg; rw [if_neg (by omega), if_pos h2]
  refine ⟨e, ?_, ?_⟩ <;> unfold sb_dec <;> rw [e]
  · show 48 + v / 10 ^ 1 % 10 = _
    omega
  · show 48 + v / 10 ^ 0 % 10 = _
    omega
theorem dec_3 : sb_dg 100 = 3 ∧ sb_dec 100 0 = 49 ∧ sb_dec 100 1 = 48 ∧ sb_dec 100 2 = 48 := by decide
theorem dec_le {v : Nat} (h : v ≤ 100) : 1 ≤ sb_dg v ∧ sb_dg v ≤ 3 ∧ ∀ i, sb_dec v i < 256 := by
  refine ⟨(sb_dg_in v).1, ?_, fun i => ?_⟩
  · unfold sb_dg; split <;> (try split) <;> (try split) <;> omega
  · have : sb_dec v i < 58 := by unfold sb_dec; omega
    omega
theorem neg_le {v c : Nat} (hv : v < 2 ^ 31) (hc : c < 2 ^ 31) : -nI v ≤ -nI c ↔ c ≤ v := sb_nle hv hc
theorem dk_J6_stringSize_0f7a4_0 : decode cJ6_stringSize_0f7a4 0 = .ok (.iconst 1, 1) := by decide +kernel
theorem dk_J6_stringSize_0f7a4_1 : decode cJ6_stringSize_0f7a4 1 = .ok (.istore_n 1, 1) := by decide +kernel
theorem dk_J6_stringSize_0f7a4_2 : decode cJ6_stringSize_0f7a4 2 = .ok (.iload_n 0, 1) := by decide +kernel
theorem dk_J6_stringSize_0f7a4_3 : decode cJ6_stringSize_0f7a4 3 = .ok (.ifCond .lt 8, 3) := by decide +kernel
theorem dk_J6_stringSize_0f7a4_6 : decode cJ6_stringSize_0f7a4 6 = .ok (.iconst 0, 1) := by decide +kernel
theorem dk_J6_stringSize_0f7a4_7 : decode cJ6_stringSize_0f7a4 7 = .ok (.istore_n 1, 1) := by decide +kernel
theorem dk_J6_stringSize_0f7a4_8 : decode cJ6_stringSize_0f7a4 8 = .ok (.iload_n 0, 1) := by decide +kernel
theorem dk_J6_stringSize_0f7a4_9 : decode cJ6_stringSize_0f7a4 9 = .ok (.ineg, 1) := by decide +kernel
theorem dk_J6_stringSize_0f7a4_10 : decode cJ6_stringSize_0f7a4 10 = .ok (.istore_n 0, 1) := by decide +kernel
theorem dk_J6_stringSize_0f7a4_11 : decode cJ6_stringSize_0f7a4 11 = .ok (.bipush (-10), 2) := by decide +kernel
theorem dk_J6_stringSize_0f7a4_13 : decode cJ6_stringSize_0f7a4 13 = .ok (.istore_n 2, 1) := by decide +kernel
theorem dk_J6_stringSize_0f7a4_14 : decode cJ6_stringSize_0f7a4 14 = .ok (.iconst 1, 1) := by decide +kernel
theorem dk_J6_stringSize_0f7a4_15 : decode cJ6_stringSize_0f7a4 15 = .ok (.istore_n 3, 1) := by decide +kernel
theorem dk_J6_stringSize_0f7a4_16 : decode cJ6_stringSize_0f7a4 16 = .ok (.iload_n 3, 1) := by decide +kernel
theorem dk_J6_stringSize_0f7a4_17 : decode cJ6_stringSize_0f7a4 17 = .ok (.bipush 10, 2) := by decide +kernel
theorem dk_J6_stringSize_0f7a4_19 : decode cJ6_stringSize_0f7a4 19 = .ok (.if_icmp .ge 23, 3) := by decide +kernel
theorem dk_J6_stringSize_0f7a4_22 : decode cJ6_stringSize_0f7a4 22 = .ok (.iload_n 0, 1) := by decide +kernel
theorem dk_J6_stringSize_0f7a4_23 : decode cJ6_stringSize_0f7a4 23 = .ok (.iload_n 2, 1) := by decide +kernel
theorem dk_J6_stringSize_0f7a4_24 : decode cJ6_stringSize_0f7a4 24 = .ok (.if_icmp .le 7, 3) := by decide +kernel
theorem dk_J6_stringSize_0f7a4_27 : decode cJ6_stringSize_0f7a4 27 = .ok (.iload_n 3, 1) := by decide +kernel
theorem dk_J6_stringSize_0f7a4_28 : decode cJ6_stringSize_0f7a4 28 = .ok (.iload_n 1, 1) := by decide +kernel
theorem dk_J6_stringSize_0f7a4_29 : decode cJ6_stringSize_0f7a4 29 = .ok (.iadd, 1) := by decide +kernel
theorem dk_J6_stringSize_0f7a4_30 : decode cJ6_stringSize_0f7a4 30 = .ok (.ireturn, 1) := by decide +kernel
theorem dk_J6_stringSize_0f7a4_31 : decode cJ6_stringSize_0f7a4 31 = .ok (.bipush 10, 2) := by decide +kernel
theorem dk_J6_stringSize_0f7a4_33 : decode cJ6_stringSize_0f7a4 33 = .ok (.iload_n 2, 1) := by decide +kernel
theorem dk_J6_stringSize_0f7a4_34 : decode cJ6_stringSize_0f7a4 34 = .ok (.imul, 1) := by decide +kernel
theorem dk_J6_stringSize_0f7a4_35 : decode cJ6_stringSize_0f7a4 35 = .ok (.istore_n 2, 1) := by decide +kernel
theorem dk_J6_stringSize_0f7a4_36 : decode cJ6_stringSize_0f7a4 36 = .ok (.iinc 3 1, 3) := by decide +kernel
theorem dk_J6_stringSize_0f7a4_39 : decode cJ6_stringSize_0f7a4 39 = .ok (.goto (-23), 3) := by decide +kernel
theorem dk_J6_stringSize_0f7a4_42 : decode cJ6_stringSize_0f7a4 42 = .ok (.bipush 10, 2) := by decide +kernel
theorem dk_J6_stringSize_0f7a4_44 : decode cJ6_stringSize_0f7a4 44 = .ok (.iload_n 1, 1) := by decide +kernel
theorem dk_J6_stringSize_0f7a4_45 : decode cJ6_stringSize_0f7a4 45 = .ok (.iadd, 1) := by decide +kernel
theorem dk_J6_stringSize_0f7a4_46 : decode cJ6_stringSize_0f7a4 46 = .ok (.ireturn, 1) := by decide +kernel
set_option maxHeartbeats 4000000 in
set_option maxRecDepth 100000 in
theorem sk_size1 (l : Launch) (D : va_G) (kC : Nat → ClassId) (v : Nat) (h : v < 10) (sz : Nat) : Met l yJ6_stringSize_0f7a4 (.code yJ6_stringSize_0f7a4 cJ6_stringSize_0f7a4 4 (some .int) :: jk_tb) (jr 1 0 0) (va_Pc [.int (nI v)] (ws_B D kC js_G [] sz)) (va_Qi (S := Unit) (fun r _ => r = 1) (fun _ _ => True) (va_A [] sz)) 0 0 (va_A [] sz) := by
  refine Met.ofW (cc := cJ6_stringSize_0f7a4) (maxL := 4) (ret := (some .int)) (by decide +kernel) rfl ?_
  intro p e s m args below meth c s₁ B hml hv2
  obtain ⟨rfl, hsz, hP, hK, hD0, hE⟩ := hv2
  have hx := B.exec
  have hb := B.bytes
  have hr := B.returns
  have hlocks := B.notSynchronized
  have hts0 := atoms_spec (ws := (.code yJ6_stringSize_0f7a4 cJ6_stringSize_0f7a4 4 (some .int) :: jk_tb)) B.pre
  have htj := fun w (hw : w ∈ jk_tb) => hts0 w (List.mem_cons_of_mem _ hw)
  have hts := fun w (hw : w ∈ am_tb) => htj w (jk_in hw)
  have hown : s.vm.findClass yJ6_stringSize_0f7a4.cls = some m.cls := findClass_of_methodNamed B.named
  subst hsz
  have hD := hD0.self (sz := s.heap.size)
  generalize hAe : va_A [] s.heap.size = A at hD hE ⊢
  have hA : ∀ q : Nat, s.heap.size ≤ q → A q := fun q h => by rw [← hAe]; exact Or.inr h
  have hP : va_P D vwCl [] s.heap := hP
  have hS : va_S A s.heap s.heap [] := va_S.rf
  have hl := lv_entry ([.int (nI v)]) (n := 4) (Nat.le_of_ble_eq_true rfl)
  rw [lg_entry_eq]
  generalize (lg_sl ([.int (nI v)]) ++ List.replicate (4 - (lg_sl ([.int (nI v)])).length) Slot.unset).toArray = ls at hl ⊢
  have hl : lv_has ls 4 [(0, .int (nI v))] := hl
  refine lv_iconst (v := 1) hx hb dk_J6_stringSize_0f7a4_0 (by decide) ?_
  refine lv_istore_n (lv' := [(1, .int 1), (0, .int (nI v))]) hx hb dk_J6_stringSize_0f7a4_1 rfl hl (by decide) rfl (fun ls hl => ?_)
  refine lv_iload_n hx hb dk_J6_stringSize_0f7a4_2 rfl (lv_at hl 1 rfl) ?_
  refine lv_if_lt (tgt := 11) hx hb dk_J6_stringSize_0f7a4_3 rfl (fun q => absurd q (nI_pos (by omega))) (fun _ => ?_)
  refine lv_iconst (v := 0) hx hb dk_J6_stringSize_0f7a4_6 (by decide) ?_
  refine lv_istore_n (lv' := [(1, .int 0), (0, .int (nI v))]) hx hb dk_J6_stringSize_0f7a4_7 rfl hl (by decide) rfl (fun ls hl => ?_)
  refine lv_iload_n hx hb dk_J6_stringSize_0f7a4_8 rfl (lv_at hl 1 rfl) ?_
  refine lv_ineg hx hb dk_J6_stringSize_0f7a4_9 ?_
  refine lv_istore_n (lv' := [(0, .int (-(nI v))), (1, .int 0)]) hx hb dk_J6_stringSize_0f7a4_10 rfl hl (by decide) rfl (fun ls hl => ?_)
  refine lv_bipush (v := (-10)) hx hb dk_J6_stringSize_0f7a4_11 (by decide) ?_
  refine lv_istore_n (lv' := [(2, .int (-10)), (0, .int (-(nI v))), (1, .int 0)]) hx hb dk_J6_stringSize_0f7a4_13 rfl hl (by decide) rfl (fun ls hl => ?_)
  refine lv_iconst (v := 1) hx hb dk_J6_stringSize_0f7a4_14 (by decide) ?_
  refine lv_istore_n (lv' := [(3, .int 1), (2, .int (-10)), (0, .int (-(nI v))), (1, .int 0)]) hx hb dk_J6_stringSize_0f7a4_15 rfl hl (by decide) rfl (fun ls hl => ?_)
  refine lv_iload_n hx hb dk_J6_stringSize_0f7a4_16 rfl (lv_at hl 0 rfl) ?_
  refine lv_bipush (v := 10) hx hb dk_J6_stringSize_0f7a4_17 (by decide) ?_
  refine lv_icmp_ge (tgt := 42) hx hb dk_J6_stringSize_0f7a4_19 rfl (fun q => absurd q (by decide)) (fun _ => ?_)
  refine lv_iload_n hx hb dk_J6_stringSize_0f7a4_22 rfl (lv_at hl 2 rfl) ?_
  refine lv_iload_n hx hb dk_J6_stringSize_0f7a4_23 rfl (lv_at hl 1 rfl) ?_
  refine lv_icmp_le (tgt := 31) hx hb dk_J6_stringSize_0f7a4_24 rfl (fun q => absurd q (fun z => absurd ((neg_le (v := v) (c := 10) (by omega) (by decide)).mp z) (by omega))) (fun _ => ?_)
  refine lv_iload_n hx hb dk_J6_stringSize_0f7a4_27 rfl (lv_at hl 0 rfl) ?_
  refine lv_iload_n hx hb dk_J6_stringSize_0f7a4_28 rfl (lv_at hl 3 rfl) ?_
  refine lv_iadd hx hb dk_J6_stringSize_0f7a4_29 ?_
  rw [show ((1 + 0) : Int32) = 1 from (by decide)]
  refine W.widen (k := 0) (n := 0) (by omega) (by omega) ?_
  exact W.iret (v := 1) hx hb hr (fun t ht hW => ⟨⟨1, (), rfl, rfl, trivial⟩, hS.F ht⟩) hS.2.2 dk_J6_stringSize_0f7a4_30
set_option maxHeartbeats 4000000 in
set_option maxRecDepth 100000 in
theorem sk_size2 (l : Launch) (D : va_G) (kC : Nat → ClassId) (v : Nat) (h : 10 ≤ v) (h2 : v < 100) (sz : Nat) : Met l yJ6_stringSize_0f7a4 (.code yJ6_stringSize_0f7a4 cJ6_stringSize_0f7a4 4 (some .int) :: jk_tb) (jr 1 0 0) (va_Pc [.int (nI v)] (ws_B D kC js_G [] sz)) (va_Qi (S := Unit) (fun r _ => r = 2) (fun _ _ => True) (va_A [] sz)) 0 0 (va_A [] sz) := by
  refine Met.ofW (cc := cJ6_stringSize_0f7a4) (maxL := 4) (ret := (some .int)) (by decide +kernel) rfl ?_
  intro p e s m args below meth c s₁ B hml hv2
  obtain ⟨rfl, hsz, hP, hK, hD0, hE⟩ := hv2
  have hx := B.exec
  have hb := B.bytes
  have hr := B.returns
  have hlocks := B.notSynchronized
  have hts0 := atoms_spec (ws := (.code yJ6_stringSize_0f7a4 cJ6_stringSize_0f7a4 4 (some .int) :: jk_tb)) B.pre
  have htj := fun w (hw : w ∈ jk_tb) => hts0 w (List.mem_cons_of_mem _ hw)
  have hts := fun w (hw : w ∈ am_tb) => htj w (jk_in hw)
  have hown : s.vm.findClass yJ6_stringSize_0f7a4.cls = some m.cls := findClass_of_methodNamed B.named
  subst hsz
  have hD := hD0.self (sz := s.heap.size)
  generalize hAe : va_A [] s.heap.size = A at hD hE ⊢
  have hA : ∀ q : Nat, s.heap.size ≤ q → A q := fun q h => by rw [← hAe]; exact Or.inr h
  have hP : va_P D vwCl [] s.heap := hP
  have hS : va_S A s.heap s.heap [] := va_S.rf
  have hl := lv_entry ([.int (nI v)]) (n := 4) (Nat.le_of_ble_eq_true rfl)
  rw [lg_entry_eq]
  generalize (lg_sl ([.int (nI v)]) ++ List.replicate (4 - (lg_sl ([.int (nI v)])).length) Slot.unset).toArray = ls at hl ⊢
  have hl : lv_has ls 4 [(0, .int (nI v))] := hl
  refine lv_iconst (v := 1) hx hb dk_J6_stringSize_0f7a4_0 (by decide) ?_
  refine lv_istore_n (lv' := [(1, .int 1), (0, .int (nI v))]) hx hb dk_J6_stringSize_0f7a4_1 rfl hl (by decide) rfl (fun ls hl => ?_)
  refine lv_iload_n hx hb dk_J6_stringSize_0f7a4_2 rfl (lv_at hl 1 rfl) ?_
  refine lv_if_lt (tgt := 11) hx hb dk_J6_stringSize_0f7a4_3 rfl (fun q => absurd q (nI_pos (by omega))) (fun _ => ?_)
  refine lv_iconst (v := 0) hx hb dk_J6_stringSize_0f7a4_6 (by decide) ?_
  refine lv_istore_n (lv' := [(1, .int 0), (0, .int (nI v))]) hx hb dk_J6_stringSize_0f7a4_7 rfl hl (by decide) rfl (fun ls hl => ?_)
  refine lv_iload_n hx hb dk_J6_stringSize_0f7a4_8 rfl (lv_at hl 1 rfl) ?_
  refine lv_ineg hx hb dk_J6_stringSize_0f7a4_9 ?_
  refine lv_istore_n (lv' := [(0, .int (-(nI v))), (1, .int 0)]) hx hb dk_J6_stringSize_0f7a4_10 rfl hl (by decide) rfl (fun ls hl => ?_)
  refine lv_bipush (v := (-10)) hx hb dk_J6_stringSize_0f7a4_11 (by decide) ?_
  refine lv_istore_n (lv' := [(2, .int (-10)), (0, .int (-(nI v))), (1, .int 0)]) hx hb dk_J6_stringSize_0f7a4_13 rfl hl (by decide) rfl (fun ls hl => ?_)
  refine lv_iconst (v := 1) hx hb dk_J6_stringSize_0f7a4_14 (by decide) ?_
  refine lv_istore_n (lv' := [(3, .int 1), (2, .int (-10)), (0, .int (-(nI v))), (1, .int 0)]) hx hb dk_J6_stringSize_0f7a4_15 rfl hl (by decide) rfl (fun ls hl => ?_)
  refine lv_iload_n hx hb dk_J6_stringSize_0f7a4_16 rfl (lv_at hl 0 rfl) ?_
  refine lv_bipush (v := 10) hx hb dk_J6_stringSize_0f7a4_17 (by decide) ?_
  refine lv_icmp_ge (tgt := 42) hx hb dk_J6_stringSize_0f7a4_19 rfl (fun q => absurd q (by decide)) (fun _ => ?_)
  refine lv_iload_n hx hb dk_J6_stringSize_0f7a4_22 rfl (lv_at hl 2 rfl) ?_
  refine lv_iload_n hx hb dk_J6_stringSize_0f7a4_23 rfl (lv_at hl 1 rfl) ?_
  refine lv_icmp_le (tgt := 31) hx hb dk_J6_stringSize_0f7a4_24 rfl (fun _ => ?_) (fun q => absurd ((neg_le (v := v) (c := 10) (by omega) (by decide)).mpr (by omega)) q)
  refine lv_bipush (v := 10) hx hb dk_J6_stringSize_0f7a4_31 (by decide) ?_
  refine lv_iload_n hx hb dk_J6_stringSize_0f7a4_33 rfl (lv_at hl 1 rfl) ?_
  refine lv_imul hx hb dk_J6_stringSize_0f7a4_34 ?_
  rw [show ((10 * (-10)) : Int32) = (-100) from (by decide)]
  refine lv_istore_n (lv' := [(2, .int ((-100))), (3, .int 1), (0, .int (-(nI v))), (1, .int 0)]) hx hb dk_J6_stringSize_0f7a4_35 rfl hl (by decide) rfl (fun ls hl => ?_)
  refine lv_iinc (k := 1) (v := 2) (lv' := [(3, .int 2), (2, .int ((-100))), (0, .int (-(nI v))), (1, .int 0)]) hx hb dk_J6_stringSize_0f7a4_36 hl rfl (by decide) (by decide) rfl (fun ls hl => ?_)
  refine lv_goto (tgt := 16) hx hb dk_J6_stringSize_0f7a4_39 rfl ?_
  refine lv_iload_n hx hb dk_J6_stringSize_0f7a4_16 rfl (lv_at hl 0 rfl) ?_
  refine lv_bipush (v := 10) hx hb dk_J6_stringSize_0f7a4_17 (by decide) ?_
  refine lv_icmp_ge (tgt := 42) hx hb dk_J6_stringSize_0f7a4_19 rfl (fun q => absurd q (by decide)) (fun _ => ?_)
  refine lv_iload_n hx hb dk_J6_stringSize_0f7a4_22 rfl (lv_at hl 2 rfl) ?_
  refine lv_iload_n hx hb dk_J6_stringSize_0f7a4_23 rfl (lv_at hl 1 rfl) ?_
  refine lv_icmp_le (tgt := 31) hx hb dk_J6_stringSize_0f7a4_24 rfl (fun q => absurd q (fun z => absurd ((neg_le (v := v) (c := 100) (by omega) (by decide)).mp z) (by omega))) (fun _ => ?_)
  refine lv_iload_n hx hb dk_J6_stringSize_0f7a4_27 rfl (lv_at hl 0 rfl) ?_
  refine lv_iload_n hx hb dk_J6_stringSize_0f7a4_28 rfl (lv_at hl 3 rfl) ?_
  refine lv_iadd hx hb dk_J6_stringSize_0f7a4_29 ?_
  rw [show ((2 + 0) : Int32) = 2 from (by decide)]
  refine W.widen (k := 0) (n := 0) (by omega) (by omega) ?_
  exact W.iret (v := 2) hx hb hr (fun t ht hW => ⟨⟨2, (), rfl, rfl, trivial⟩, hS.F ht⟩) hS.2.2 dk_J6_stringSize_0f7a4_30
set_option maxHeartbeats 4000000 in
set_option maxRecDepth 100000 in
theorem sk_size3 (l : Launch) (D : va_G) (kC : Nat → ClassId) (v : Nat) (h : v = 100) (sz : Nat) : Met l yJ6_stringSize_0f7a4 (.code yJ6_stringSize_0f7a4 cJ6_stringSize_0f7a4 4 (some .int) :: jk_tb) (jr 1 0 0) (va_Pc [.int (nI v)] (ws_B D kC js_G [] sz)) (va_Qi (S := Unit) (fun r _ => r = 3) (fun _ _ => True) (va_A [] sz)) 0 0 (va_A [] sz) := by
  refine Met.ofW (cc := cJ6_stringSize_0f7a4) (maxL := 4) (ret := (some .int)) (by decide +kernel) rfl ?_
  intro p e s m args below meth c s₁ B hml hv2
  obtain ⟨rfl, hsz, hP, hK, hD0, hE⟩ := hv2
  have hx := B.exec
  have hb := B.bytes
  have hr := B.returns
  have hlocks := B.notSynchronized
  have hts0 := atoms_spec (ws := (.code yJ6_stringSize_0f7a4 cJ6_stringSize_0f7a4 4 (some .int) :: jk_tb)) B.pre
  have htj := fun w (hw : w ∈ jk_tb) => hts0 w (List.mem_cons_of_mem _ hw)
  have hts := fun w (hw : w ∈ am_tb) => htj w (jk_in hw)
  have hown : s.vm.findClass yJ6_stringSize_0f7a4.cls = some m.cls := findClass_of_methodNamed B.named
  subst hsz
  have hD := hD0.self (sz := s.heap.size)
  generalize hAe : va_A [] s.heap.size = A at hD hE ⊢
  have hA : ∀ q : Nat, s.heap.size ≤ q → A q := fun q h => by rw [← hAe]; exact Or.inr h
  have hP : va_P D vwCl [] s.heap := hP
  have hS : va_S A s.heap s.heap [] := va_S.rf
  have hl := lv_entry ([.int (nI v)]) (n := 4) (Nat.le_of_ble_eq_true rfl)
  rw [lg_entry_eq]
  generalize (lg_sl ([.int (nI v)]) ++ List.replicate (4 - (lg_sl ([.int (nI v)])).length) Slot.unset).toArray = ls at hl ⊢
  have hl : lv_has ls 4 [(0, .int (nI v))] := hl
  refine lv_iconst (v := 1) hx hb dk_J6_stringSize_0f7a4_0 (by decide) ?_
  refine lv_istore_n (lv' := [(1, .int 1), (0, .int (nI v))]) hx hb dk_J6_stringSize_0f7a4_1 rfl hl (by decide) rfl (fun ls hl => ?_)
  refine lv_iload_n hx hb dk_J6_stringSize_0f7a4_2 rfl (lv_at hl 1 rfl) ?_
  refine lv_if_lt (tgt := 11) hx hb dk_J6_stringSize_0f7a4_3 rfl (fun q => absurd q (nI_pos (by omega))) (fun _ => ?_)
  refine lv_iconst (v := 0) hx hb dk_J6_stringSize_0f7a4_6 (by decide) ?_
  refine lv_istore_n (lv' := [(1, .int 0), (0, .int (nI v))]) hx hb dk_J6_stringSize_0f7a4_7 rfl hl (by decide) rfl (fun ls hl => ?_)
  refine lv_iload_n hx hb dk_J6_stringSize_0f7a4_8 rfl (lv_at hl 1 rfl) ?_
  refine lv_ineg hx hb dk_J6_stringSize_0f7a4_9 ?_
  refine lv_istore_n (lv' := [(0, .int (-(nI v))), (1, .int 0)]) hx hb dk_J6_stringSize_0f7a4_10 rfl hl (by decide) rfl (fun ls hl => ?_)
  refine lv_bipush (v := (-10)) hx hb dk_J6_stringSize_0f7a4_11 (by decide) ?_
  refine lv_istore_n (lv' := [(2, .int (-10)), (0, .int (-(nI v))), (1, .int 0)]) hx hb dk_J6_stringSize_0f7a4_13 rfl hl (by decide) rfl (fun ls hl => ?_)
  refine lv_iconst (v := 1) hx hb dk_J6_stringSize_0f7a4_14 (by decide) ?_
  refine lv_istore_n (lv' := [(3, .int 1), (2, .int (-10)), (0, .int (-(nI v))), (1, .int 0)]) hx hb dk_J6_stringSize_0f7a4_15 rfl hl (by decide) rfl (fun ls hl => ?_)
  refine lv_iload_n hx hb dk_J6_stringSize_0f7a4_16 rfl (lv_at hl 0 rfl) ?_
  refine lv_bipush (v := 10) hx hb dk_J6_stringSize_0f7a4_17 (by decide) ?_
  refine lv_icmp_ge (tgt := 42) hx hb dk_J6_stringSize_0f7a4_19 rfl (fun q => absurd q (by decide)) (fun _ => ?_)
  refine lv_iload_n hx hb dk_J6_stringSize_0f7a4_22 rfl (lv_at hl 2 rfl) ?_
  refine lv_iload_n hx hb dk_J6_stringSize_0f7a4_23 rfl (lv_at hl 1 rfl) ?_
  refine lv_icmp_le (tgt := 31) hx hb dk_J6_stringSize_0f7a4_24 rfl (fun _ => ?_) (fun q => absurd ((neg_le (v := v) (c := 10) (by omega) (by decide)).mpr (by omega)) q)
  refine lv_bipush (v := 10) hx hb dk_J6_stringSize_0f7a4_31 (by decide) ?_
  refine lv_iload_n hx hb dk_J6_stringSize_0f7a4_33 rfl (lv_at hl 1 rfl) ?_
  refine lv_imul hx hb dk_J6_stringSize_0f7a4_34 ?_
  rw [show ((10 * (-10)) : Int32) = (-100) from (by decide)]
  refine lv_istore_n (lv' := [(2, .int ((-100))), (3, .int 1), (0, .int (-(nI v))), (1, .int 0)]) hx hb dk_J6_stringSize_0f7a4_35 rfl hl (by decide) rfl (fun ls hl => ?_)
  refine lv_iinc (k := 1) (v := 2) (lv' := [(3, .int 2), (2, .int ((-100))), (0, .int (-(nI v))), (1, .int 0)]) hx hb dk_J6_stringSize_0f7a4_36 hl rfl (by decide) (by decide) rfl (fun ls hl => ?_)
  refine lv_goto (tgt := 16) hx hb dk_J6_stringSize_0f7a4_39 rfl ?_
  refine lv_iload_n hx hb dk_J6_stringSize_0f7a4_16 rfl (lv_at hl 0 rfl) ?_
  refine lv_bipush (v := 10) hx hb dk_J6_stringSize_0f7a4_17 (by decide) ?_
  refine lv_icmp_ge (tgt := 42) hx hb dk_J6_stringSize_0f7a4_19 rfl (fun q => absurd q (by decide)) (fun _ => ?_)
  refine lv_iload_n hx hb dk_J6_stringSize_0f7a4_22 rfl (lv_at hl 2 rfl) ?_
  refine lv_iload_n hx hb dk_J6_stringSize_0f7a4_23 rfl (lv_at hl 1 rfl) ?_
  refine lv_icmp_le (tgt := 31) hx hb dk_J6_stringSize_0f7a4_24 rfl (fun _ => ?_) (fun q => absurd ((neg_le (v := v) (c := 100) (by omega) (by decide)).mpr (by omega)) q)
  refine lv_bipush (v := 10) hx hb dk_J6_stringSize_0f7a4_31 (by decide) ?_
  refine lv_iload_n hx hb dk_J6_stringSize_0f7a4_33 rfl (lv_at hl 1 rfl) ?_
  refine lv_imul hx hb dk_J6_stringSize_0f7a4_34 ?_
  rw [show ((10 * ((-100))) : Int32) = (-1000) from (by decide)]
  refine lv_istore_n (lv' := [(2, .int ((-1000))), (3, .int 2), (0, .int (-(nI v))), (1, .int 0)]) hx hb dk_J6_stringSize_0f7a4_35 rfl hl (by decide) rfl (fun ls hl => ?_)
  refine lv_iinc (k := 1) (v := 3) (lv' := [(3, .int 3), (2, .int ((-1000))), (0, .int (-(nI v))), (1, .int 0)]) hx hb dk_J6_stringSize_0f7a4_36 hl rfl (by decide) (by decide) rfl (fun ls hl => ?_)
  refine lv_goto (tgt := 16) hx hb dk_J6_stringSize_0f7a4_39 rfl ?_
  refine lv_iload_n hx hb dk_J6_stringSize_0f7a4_16 rfl (lv_at hl 0 rfl) ?_
  refine lv_bipush (v := 10) hx hb dk_J6_stringSize_0f7a4_17 (by decide) ?_
  refine lv_icmp_ge (tgt := 42) hx hb dk_J6_stringSize_0f7a4_19 rfl (fun q => absurd q (by decide)) (fun _ => ?_)
  refine lv_iload_n hx hb dk_J6_stringSize_0f7a4_22 rfl (lv_at hl 2 rfl) ?_
  refine lv_iload_n hx hb dk_J6_stringSize_0f7a4_23 rfl (lv_at hl 1 rfl) ?_
  refine lv_icmp_le (tgt := 31) hx hb dk_J6_stringSize_0f7a4_24 rfl (fun q => absurd q (fun z => absurd ((neg_le (v := v) (c := 1000) (by omega) (by decide)).mp z) (by omega))) (fun _ => ?_)
  refine lv_iload_n hx hb dk_J6_stringSize_0f7a4_27 rfl (lv_at hl 0 rfl) ?_
  refine lv_iload_n hx hb dk_J6_stringSize_0f7a4_28 rfl (lv_at hl 3 rfl) ?_
  refine lv_iadd hx hb dk_J6_stringSize_0f7a4_29 ?_
  rw [show ((3 + 0) : Int32) = 3 from (by decide)]
  refine W.widen (k := 0) (n := 0) (by omega) (by omega) ?_
  exact W.iret (v := 3) hx hb hr (fun t ht hW => ⟨⟨3, (), rfl, rfl, trivial⟩, hS.F ht⟩) hS.2.2 dk_J6_stringSize_0f7a4_30
theorem sk_size (l : Launch) (D : va_G) (kC : Nat → ClassId) (v : Nat) (h : v ≤ 100) (sz : Nat) : Met l yJ6_stringSize_0f7a4 (.code yJ6_stringSize_0f7a4 cJ6_stringSize_0f7a4 4 (some .int) :: jk_tb) (jr 1 0 0) (va_Pc [.int (nI v)] (ws_B D kC js_G [] sz)) (va_Qi (S := Unit) (fun r _ => r = nI (sb_dg v)) (fun _ _ => True) (va_A [] sz)) 0 0 (va_A [] sz) := by
  by_cases h1 : v < 10
  · rw [(dec_1 h1).1]; exact sk_size1 l D kC v h1 sz
  by_cases h2 : v < 100
  · rw [(dec_2 (by omega) h2).1]; exact sk_size2 l D kC v (by omega) h2 sz
  · obtain rfl : v = 100 := by omega
    rw [dec_3.1]; exact sk_size3 l D kC 100 rfl sz
theorem nib : ∀ c : Nat, c < 128 → vp_nar .byte (nI c) = nI c ∧ nI c = sb_b c := by decide +kernel
theorem nfit (c : Nat) (h : c < 128) : fits .byte (.int (nI c)) = true := by rw [(nib c h).2]; exact sb_fitB c
theorem dk_J6_getChars_ba4f3_0 : decode cJ6_getChars_ba4f3 0 = .ok (.iload_n 1, 1) := by decide +kernel
theorem dk_J6_getChars_ba4f3_1 : decode cJ6_getChars_ba4f3 1 = .ok (.istore 5, 2) := by decide +kernel
theorem dk_J6_getChars_ba4f3_3 : decode cJ6_getChars_ba4f3 3 = .ok (.iload_n 0, 1) := by decide +kernel
theorem dk_J6_getChars_ba4f3_4 : decode cJ6_getChars_ba4f3 4 = .ok (.ifCond .ge 7, 3) := by decide +kernel
theorem dk_J6_getChars_ba4f3_7 : decode cJ6_getChars_ba4f3 7 = .ok (.iconst 1, 1) := by decide +kernel
theorem dk_J6_getChars_ba4f3_8 : decode cJ6_getChars_ba4f3 8 = .ok (.goto 4, 3) := by decide +kernel
theorem dk_J6_getChars_ba4f3_11 : decode cJ6_getChars_ba4f3 11 = .ok (.iconst 0, 1) := by decide +kernel
theorem dk_J6_getChars_ba4f3_12 : decode cJ6_getChars_ba4f3 12 = .ok (.istore 6, 2) := by decide +kernel
theorem dk_J6_getChars_ba4f3_14 : decode cJ6_getChars_ba4f3 14 = .ok (.iload 6, 2) := by decide +kernel
theorem dk_J6_getChars_ba4f3_16 : decode cJ6_getChars_ba4f3 16 = .ok (.ifCond .ne 6, 3) := by decide +kernel
theorem dk_J6_getChars_ba4f3_19 : decode cJ6_getChars_ba4f3 19 = .ok (.iload_n 0, 1) := by decide +kernel
theorem dk_J6_getChars_ba4f3_20 : decode cJ6_getChars_ba4f3 20 = .ok (.ineg, 1) := by decide +kernel
theorem dk_J6_getChars_ba4f3_21 : decode cJ6_getChars_ba4f3 21 = .ok (.istore_n 0, 1) := by decide +kernel
theorem dk_J6_getChars_ba4f3_22 : decode cJ6_getChars_ba4f3 22 = .ok (.iload_n 0, 1) := by decide +kernel
theorem dk_J6_getChars_ba4f3_23 : decode cJ6_getChars_ba4f3 23 = .ok (.bipush (-100), 2) := by decide +kernel
theorem dk_J6_getChars_ba4f3_25 : decode cJ6_getChars_ba4f3 25 = .ok (.if_icmp .gt 47, 3) := by decide +kernel
theorem dk_J6_getChars_ba4f3_28 : decode cJ6_getChars_ba4f3 28 = .ok (.iload_n 0, 1) := by decide +kernel
theorem dk_J6_getChars_ba4f3_29 : decode cJ6_getChars_ba4f3 29 = .ok (.bipush 100, 2) := by decide +kernel
theorem dk_J6_getChars_ba4f3_31 : decode cJ6_getChars_ba4f3 31 = .ok (.idiv, 1) := by decide +kernel
theorem dk_J6_getChars_ba4f3_32 : decode cJ6_getChars_ba4f3 32 = .ok (.istore_n 3, 1) := by decide +kernel
theorem dk_J6_getChars_ba4f3_33 : decode cJ6_getChars_ba4f3 33 = .ok (.iload_n 3, 1) := by decide +kernel
theorem dk_J6_getChars_ba4f3_34 : decode cJ6_getChars_ba4f3 34 = .ok (.bipush 100, 2) := by decide +kernel
theorem dk_J6_getChars_ba4f3_36 : decode cJ6_getChars_ba4f3 36 = .ok (.imul, 1) := by decide +kernel
theorem dk_J6_getChars_ba4f3_37 : decode cJ6_getChars_ba4f3 37 = .ok (.iload_n 0, 1) := by decide +kernel
theorem dk_J6_getChars_ba4f3_38 : decode cJ6_getChars_ba4f3 38 = .ok (.isub, 1) := by decide +kernel
theorem dk_J6_getChars_ba4f3_39 : decode cJ6_getChars_ba4f3 39 = .ok (.istore 4, 2) := by decide +kernel
theorem dk_J6_getChars_ba4f3_41 : decode cJ6_getChars_ba4f3 41 = .ok (.iload_n 3, 1) := by decide +kernel
theorem dk_J6_getChars_ba4f3_42 : decode cJ6_getChars_ba4f3 42 = .ok (.istore_n 0, 1) := by decide +kernel
theorem dk_J6_getChars_ba4f3_43 : decode cJ6_getChars_ba4f3 43 = .ok (.aload_n 2, 1) := by decide +kernel
theorem dk_J6_getChars_ba4f3_44 : decode cJ6_getChars_ba4f3 44 = .ok (.iinc 5 (-1), 3) := by decide +kernel
theorem dk_J6_getChars_ba4f3_47 : decode cJ6_getChars_ba4f3 47 = .ok (.iload 5, 2) := by decide +kernel
theorem dk_J6_getChars_ba4f3_49 : decode cJ6_getChars_ba4f3 49 = .ok (.getstatic 83, 3) := by decide +kernel
theorem dk_J6_getChars_ba4f3_52 : decode cJ6_getChars_ba4f3 52 = .ok (.iload 4, 2) := by decide +kernel
theorem dk_J6_getChars_ba4f3_54 : decode cJ6_getChars_ba4f3 54 = .ok (.baload, 1) := by decide +kernel
theorem dk_J6_getChars_ba4f3_55 : decode cJ6_getChars_ba4f3 55 = .ok (.bastore, 1) := by decide +kernel
theorem dk_J6_getChars_ba4f3_56 : decode cJ6_getChars_ba4f3 56 = .ok (.aload_n 2, 1) := by decide +kernel
theorem dk_J6_getChars_ba4f3_57 : decode cJ6_getChars_ba4f3 57 = .ok (.iinc 5 (-1), 3) := by decide +kernel
theorem dk_J6_getChars_ba4f3_60 : decode cJ6_getChars_ba4f3 60 = .ok (.iload 5, 2) := by decide +kernel
theorem dk_J6_getChars_ba4f3_62 : decode cJ6_getChars_ba4f3 62 = .ok (.getstatic 87, 3) := by decide +kernel
theorem dk_J6_getChars_ba4f3_65 : decode cJ6_getChars_ba4f3 65 = .ok (.iload 4, 2) := by decide +kernel
theorem dk_J6_getChars_ba4f3_67 : decode cJ6_getChars_ba4f3 67 = .ok (.baload, 1) := by decide +kernel
theorem dk_J6_getChars_ba4f3_68 : decode cJ6_getChars_ba4f3 68 = .ok (.bastore, 1) := by decide +kernel
theorem dk_J6_getChars_ba4f3_69 : decode cJ6_getChars_ba4f3 69 = .ok (.goto (-47), 3) := by decide +kernel
theorem dk_J6_getChars_ba4f3_72 : decode cJ6_getChars_ba4f3 72 = .ok (.aload_n 2, 1) := by decide +kernel
theorem dk_J6_getChars_ba4f3_73 : decode cJ6_getChars_ba4f3 73 = .ok (.iinc 5 (-1), 3) := by decide +kernel
theorem dk_J6_getChars_ba4f3_76 : decode cJ6_getChars_ba4f3 76 = .ok (.iload 5, 2) := by decide +kernel
theorem dk_J6_getChars_ba4f3_78 : decode cJ6_getChars_ba4f3 78 = .ok (.getstatic 83, 3) := by decide +kernel
theorem dk_J6_getChars_ba4f3_81 : decode cJ6_getChars_ba4f3 81 = .ok (.iload_n 0, 1) := by decide +kernel
theorem dk_J6_getChars_ba4f3_82 : decode cJ6_getChars_ba4f3 82 = .ok (.ineg, 1) := by decide +kernel
theorem dk_J6_getChars_ba4f3_83 : decode cJ6_getChars_ba4f3 83 = .ok (.baload, 1) := by decide +kernel
theorem dk_J6_getChars_ba4f3_84 : decode cJ6_getChars_ba4f3 84 = .ok (.bastore, 1) := by decide +kernel
theorem dk_J6_getChars_ba4f3_85 : decode cJ6_getChars_ba4f3 85 = .ok (.iload_n 0, 1) := by decide +kernel
theorem dk_J6_getChars_ba4f3_86 : decode cJ6_getChars_ba4f3 86 = .ok (.bipush (-9), 2) := by decide +kernel
theorem dk_J6_getChars_ba4f3_88 : decode cJ6_getChars_ba4f3 88 = .ok (.if_icmp .ge 16, 3) := by decide +kernel
theorem dk_J6_getChars_ba4f3_91 : decode cJ6_getChars_ba4f3 91 = .ok (.aload_n 2, 1) := by decide +kernel
theorem dk_J6_getChars_ba4f3_92 : decode cJ6_getChars_ba4f3 92 = .ok (.iinc 5 (-1), 3) := by decide +kernel
theorem dk_J6_getChars_ba4f3_95 : decode cJ6_getChars_ba4f3 95 = .ok (.iload 5, 2) := by decide +kernel
theorem dk_J6_getChars_ba4f3_97 : decode cJ6_getChars_ba4f3 97 = .ok (.getstatic 87, 3) := by decide +kernel
theorem dk_J6_getChars_ba4f3_100 : decode cJ6_getChars_ba4f3 100 = .ok (.iload_n 0, 1) := by decide +kernel
theorem dk_J6_getChars_ba4f3_101 : decode cJ6_getChars_ba4f3 101 = .ok (.ineg, 1) := by decide +kernel
theorem dk_J6_getChars_ba4f3_102 : decode cJ6_getChars_ba4f3 102 = .ok (.baload, 1) := by decide +kernel
theorem dk_J6_getChars_ba4f3_103 : decode cJ6_getChars_ba4f3 103 = .ok (.bastore, 1) := by decide +kernel
theorem dk_J6_getChars_ba4f3_104 : decode cJ6_getChars_ba4f3 104 = .ok (.iload 6, 2) := by decide +kernel
theorem dk_J6_getChars_ba4f3_106 : decode cJ6_getChars_ba4f3 106 = .ok (.ifCond .eq 12, 3) := by decide +kernel
theorem dk_J6_getChars_ba4f3_109 : decode cJ6_getChars_ba4f3 109 = .ok (.aload_n 2, 1) := by decide +kernel
theorem dk_J6_getChars_ba4f3_110 : decode cJ6_getChars_ba4f3 110 = .ok (.iinc 5 (-1), 3) := by decide +kernel
theorem dk_J6_getChars_ba4f3_113 : decode cJ6_getChars_ba4f3 113 = .ok (.iload 5, 2) := by decide +kernel
theorem dk_J6_getChars_ba4f3_115 : decode cJ6_getChars_ba4f3 115 = .ok (.bipush 45, 2) := by decide +kernel
theorem dk_J6_getChars_ba4f3_117 : decode cJ6_getChars_ba4f3 117 = .ok (.bastore, 1) := by decide +kernel
theorem dk_J6_getChars_ba4f3_118 : decode cJ6_getChars_ba4f3 118 = .ok (.iload 5, 2) := by decide +kernel
theorem dk_J6_getChars_ba4f3_120 : decode cJ6_getChars_ba4f3 120 = .ok (.ireturn, 1) := by decide +kernel
set_option maxHeartbeats 4000000 in
set_option maxRecDepth 100000 in
theorem sk_gc1 (l : Launch) (D : va_G) (kC : Nat → ClassId) (v : Nat) (b w n : Nat) (g : Nat → Int32) (hf : sb_Fit g) (h : v < 10) (h2 : n + 1 ≤ w) (h3 : w ≤ 4000) (sz : Nat) : Met l yJ6_getChars_ba4f3 (.code yJ6_getChars_ba4f3 cJ6_getChars_ba4f3 7 (some .int) :: jk_tb) (jr 1 0 0) (va_Pc [.int (nI v), .int (nI (n + 1)), .ref b] (ws_B D kC js_G [(b, .inl (kC 2, w, .inl g))] sz)) (va_Qi (S := Nat → Int32) (fun _ g2 => sb_Fit g2 ∧ (∀ j, j < n → g2 j = g j) ∧ ∀ i, i < sb_dg v → g2 (n + i) = sb_b (sb_dec v i)) (fun g2 t => va_P D vwCl [(b, .inl (kC 2, w, .inl g2))] t.heap ∧ va_D (va_A [(b, .inl (kC 2, w, .inl g))] sz) [(b, .inl (kC 2, w, .inl g2))]) (va_A [(b, .inl (kC 2, w, .inl g))] sz)) 0 0 (va_A [(b, .inl (kC 2, w, .inl g))] sz) := by
  refine Met.ofW (cc := cJ6_getChars_ba4f3) (maxL := 7) (ret := (some .int)) (by decide +kernel) rfl ?_
  intro p e s m args below meth c s₁ B hml hv2
  obtain ⟨rfl, hsz, hP, hK, hD0, hE⟩ := hv2
  have hx := B.exec
  have hb := B.bytes
  have hr := B.returns
  have hlocks := B.notSynchronized
  have hts0 := atoms_spec (ws := (.code yJ6_getChars_ba4f3 cJ6_getChars_ba4f3 7 (some .int) :: jk_tb)) B.pre
  have htj := fun w (hw : w ∈ jk_tb) => hts0 w (List.mem_cons_of_mem _ hw)
  have hts := fun w (hw : w ∈ am_tb) => htj w (jk_in hw)
  have hown : s.vm.findClass yJ6_getChars_ba4f3.cls = some m.cls := findClass_of_methodNamed B.named
  subst hsz
  have hD := hD0.self (sz := s.heap.size)
  generalize hAe : va_A [(b, .inl (kC 2, w, .inl g))] s.heap.size = A at hD hE ⊢
  have hA : ∀ q : Nat, s.heap.size ≤ q → A q := fun q h => by rw [← hAe]; exact Or.inr h
  have hP : va_P D vwCl [(b, .inl (kC 2, w, .inl g))] s.heap := hP
  have hS : va_S A s.heap s.heap [] := va_S.rf
  have hl := lv_entry ([.int (nI v), .int (nI (n + 1)), .ref b]) (n := 7) (Nat.le_of_ble_eq_true rfl)
  rw [lg_entry_eq]
  generalize (lg_sl ([.int (nI v), .int (nI (n + 1)), .ref b]) ++ List.replicate (7 - (lg_sl ([.int (nI v), .int (nI (n + 1)), .ref b])).length) Slot.unset).toArray = ls at hl ⊢
  have hl : lv_has ls 7 [(0, .int (nI v)), (1, .int (nI (n + 1))), (2, .ref b)] := hl
  obtain ⟨-, -, ⟨t1, hZ1, hT1⟩, ⟨t2, hZ2, hT2⟩⟩ := hE
  refine lv_iload_n hx hb dk_J6_getChars_ba4f3_0 rfl (lv_at hl 1 rfl) ?_
  refine lv_istore (lv' := [(5, .int (nI (n + 1))), (0, .int (nI v)), (1, .int (nI (n + 1))), (2, .ref b)]) hx hb dk_J6_getChars_ba4f3_1 hl (by decide) rfl (fun ls hl => ?_)
  refine lv_iload_n hx hb dk_J6_getChars_ba4f3_3 rfl (lv_at hl 1 rfl) ?_
  refine lv_if_ge (tgt := 11) hx hb dk_J6_getChars_ba4f3_4 rfl (fun _ => ?_) (fun q => absurd (nI_pos' (by omega)) q)
  refine lv_iconst (v := 0) hx hb dk_J6_getChars_ba4f3_11 (by decide) ?_
  refine lv_istore (lv' := [(6, .int 0), (5, .int (nI (n + 1))), (0, .int (nI v)), (1, .int (nI (n + 1))), (2, .ref b)]) hx hb dk_J6_getChars_ba4f3_12 hl (by decide) rfl (fun ls hl => ?_)
  refine lv_iload hx hb dk_J6_getChars_ba4f3_14 (lv_at hl 0 rfl) ?_
  refine lv_if_ne (tgt := 22) hx hb dk_J6_getChars_ba4f3_16 rfl (fun q => absurd rfl q) (fun _ => ?_)
  refine lv_iload_n hx hb dk_J6_getChars_ba4f3_19 rfl (lv_at hl 2 rfl) ?_
  refine lv_ineg hx hb dk_J6_getChars_ba4f3_20 ?_
  refine lv_istore_n (lv' := [(0, .int (-(nI v))), (6, .int 0), (5, .int (nI (n + 1))), (1, .int (nI (n + 1))), (2, .ref b)]) hx hb dk_J6_getChars_ba4f3_21 rfl hl (by decide) rfl (fun ls hl => ?_)
  refine lv_iload_n hx hb dk_J6_getChars_ba4f3_22 rfl (lv_at hl 0 rfl) ?_
  refine lv_bipush (v := (-100)) hx hb dk_J6_getChars_ba4f3_23 (by decide) ?_
  refine lv_icmp_gt (tgt := 72) hx hb dk_J6_getChars_ba4f3_25 rfl (fun _ => ?_) (fun q => absurd (show -nI 100 < -nI v from (sb_nlt (by decide) (by omega)).mpr (by omega)) q)
  refine lv_aload_n hx hb dk_J6_getChars_ba4f3_72 rfl (lv_at hl 4 rfl) ?_
  refine lv_iinc (k := 2) (v := (nI n)) (lv' := [(5, .int ((nI n))), (0, .int (-(nI v))), (6, .int 0), (1, .int (nI (n + 1))), (2, .ref b)]) hx hb dk_J6_getChars_ba4f3_73 hl rfl (sb_m1 (p := n + 1) (by omega)) (by decide) rfl (fun ls hl => ?_)
  refine lv_iload hx hb dk_J6_getChars_ba4f3_76 (lv_at hl 0 rfl) ?_
  refine va_gets hx hb hZ1 hS hown (hts _ (am_tb_at 456 (by decide +kernel) rfl)) (fun x h => h) dk_J6_getChars_ba4f3_78 ?_
  refine lv_iload_n hx hb dk_J6_getChars_ba4f3_81 rfl (lv_at hl 1 rfl) ?_
  refine lv_ineg hx hb dk_J6_getChars_ba4f3_82 ?_
  rw [show ((-(-(nI v))) : Int32) = nI v from Int32.neg_neg]
  refine va_tb (v := .int (nI (48 + v % 10))) hx hb hT1 hS (vp_in_nI (by omega) (by decide)) (by show Value.int (nI (48 + (nI v).toNatClampNeg % 10)) = _; rw [nI_clamp (by omega)]) dk_J6_getChars_ba4f3_83 ?_
  refine va_bast hx hb hK hP hD hS 0 2 rfl rfl (vp_in_nI (by omega) (by omega)) dk_J6_getChars_ba4f3_84 (fun H locs hP hD hS => ?_)
  rw [nI_clamp (n := n) (by omega), (nib (48 + v % 10) (by omega)).1] at hP hD
  have hP : va_P D vwCl [(b, .inl (kC 2, w, .inl (upd g n (nI (48 + v % 10)))))] H := hP
  have hD : va_D A [(b, .inl (kC 2, w, .inl (upd g n (nI (48 + v % 10)))))] := hD
  refine lv_iload_n hx hb dk_J6_getChars_ba4f3_85 rfl (lv_at hl 1 rfl) ?_
  refine lv_bipush (v := (-9)) hx hb dk_J6_getChars_ba4f3_86 (by decide) ?_
  refine lv_icmp_ge (tgt := 104) hx hb dk_J6_getChars_ba4f3_88 rfl (fun _ => ?_) (fun q => absurd ((neg_le (v := 9) (c := v) (by decide) (by omega)).mpr (by omega)) q)
  refine lv_iload hx hb dk_J6_getChars_ba4f3_104 (lv_at hl 2 rfl) ?_
  refine lv_if_eq (tgt := 118) hx hb dk_J6_getChars_ba4f3_106 rfl (fun _ => ?_) (fun q => absurd rfl q)
  refine lv_iload hx hb dk_J6_getChars_ba4f3_118 (lv_at hl 0 rfl) ?_
  have hq : sb_Fit (upd g n (nI (48 + v % 10))) ∧ (∀ j, j < n → upd g n (nI (48 + v % 10)) j = g j) ∧ ∀ i, i < sb_dg v → upd g n (nI (48 + v % 10)) (n + i) = sb_b (sb_dec v i) := by
    refine ⟨sb_fitU hf (nfit _ (by omega)), fun j hj => pk_un (by omega), fun i hi => ?_⟩
    rw [(dec_1 h).1] at hi
    obtain rfl : i = 0 := by omega
    rw [(dec_1 h).2, Nat.add_zero, pk_us, (nib _ (by omega)).2, Nat.mod_eq_of_lt h]
  refine W.widen (k := 0) (n := 0) (by omega) (by omega) ?_
  exact W.iret (v := ((nI n))) hx hb hr (fun t ht hW => ⟨⟨((nI n)), upd g n (nI (48 + v % 10)), rfl, hq, by rw [ht]; exact hP, hD⟩, hS.F ht⟩) hS.2.2 dk_J6_getChars_ba4f3_120
set_option maxHeartbeats 4000000 in
set_option maxRecDepth 100000 in
theorem sk_gc2 (l : Launch) (D : va_G) (kC : Nat → ClassId) (v : Nat) (b w n : Nat) (g : Nat → Int32) (hf : sb_Fit g) (h : 10 ≤ v) (h1 : v < 100) (h2 : n + 2 ≤ w) (h3 : w ≤ 4000) (sz : Nat) : Met l yJ6_getChars_ba4f3 (.code yJ6_getChars_ba4f3 cJ6_getChars_ba4f3 7 (some .int) :: jk_tb) (jr 1 0 0) (va_Pc [.int (nI v), .int (nI (n + 2)), .ref b] (ws_B D kC js_G [(b, .inl (kC 2, w, .inl g))] sz)) (va_Qi (S := Nat → Int32) (fun _ g2 => sb_Fit g2 ∧ (∀ j, j < n → g2 j = g j) ∧ ∀ i, i < sb_dg v → g2 (n + i) = sb_b (sb_dec v i)) (fun g2 t => va_P D vwCl [(b, .inl (kC 2, w, .inl g2))] t.heap ∧ va_D (va_A [(b, .inl (kC 2, w, .inl g))] sz) [(b, .inl (kC 2, w, .inl g2))]) (va_A [(b, .inl (kC 2, w, .inl g))] sz)) 0 0 (va_A [(b, .inl (kC 2, w, .inl g))] sz) := by
  refine Met.ofW (cc := cJ6_getChars_ba4f3) (maxL := 7) (ret := (some .int)) (by decide +kernel) rfl ?_
  intro p e s m args below meth c s₁ B hml hv2
  obtain ⟨rfl, hsz, hP, hK, hD0, hE⟩ := hv2
  have hx := B.exec
  have hb := B.bytes
  have hr := B.returns
  have hlocks := B.notSynchronized
  have hts0 := atoms_spec (ws := (.code yJ6_getChars_ba4f3 cJ6_getChars_ba4f3 7 (some .int) :: jk_tb)) B.pre
  have htj := fun w (hw : w ∈ jk_tb) => hts0 w (List.mem_cons_of_mem _ hw)
  have hts := fun w (hw : w ∈ am_tb) => htj w (jk_in hw)
  have hown : s.vm.findClass yJ6_getChars_ba4f3.cls = some m.cls := findClass_of_methodNamed B.named
  subst hsz
  have hD := hD0.self (sz := s.heap.size)
  generalize hAe : va_A [(b, .inl (kC 2, w, .inl g))] s.heap.size = A at hD hE ⊢
  have hA : ∀ q : Nat, s.heap.size ≤ q → A q := fun q h => by rw [← hAe]; exact Or.inr h
  have hP : va_P D vwCl [(b, .inl (kC 2, w, .inl g))] s.heap := hP
  have hS : va_S A s.heap s.heap [] := va_S.rf
  have hl := lv_entry ([.int (nI v), .int (nI (n + 2)), .ref b]) (n := 7) (Nat.le_of_ble_eq_true rfl)
  rw [lg_entry_eq]
  generalize (lg_sl ([.int (nI v), .int (nI (n + 2)), .ref b]) ++ List.replicate (7 - (lg_sl ([.int (nI v), .int (nI (n + 2)), .ref b])).length) Slot.unset).toArray = ls at hl ⊢
  have hl : lv_has ls 7 [(0, .int (nI v)), (1, .int (nI (n + 2))), (2, .ref b)] := hl
  obtain ⟨-, -, ⟨t1, hZ1, hT1⟩, ⟨t2, hZ2, hT2⟩⟩ := hE
  refine lv_iload_n hx hb dk_J6_getChars_ba4f3_0 rfl (lv_at hl 1 rfl) ?_
  refine lv_istore (lv' := [(5, .int (nI (n + 2))), (0, .int (nI v)), (1, .int (nI (n + 2))), (2, .ref b)]) hx hb dk_J6_getChars_ba4f3_1 hl (by decide) rfl (fun ls hl => ?_)
  refine lv_iload_n hx hb dk_J6_getChars_ba4f3_3 rfl (lv_at hl 1 rfl) ?_
  refine lv_if_ge (tgt := 11) hx hb dk_J6_getChars_ba4f3_4 rfl (fun _ => ?_) (fun q => absurd (nI_pos' (by omega)) q)
  refine lv_iconst (v := 0) hx hb dk_J6_getChars_ba4f3_11 (by decide) ?_
  refine lv_istore (lv' := [(6, .int 0), (5, .int (nI (n + 2))), (0, .int (nI v)), (1, .int (nI (n + 2))), (2, .ref b)]) hx hb dk_J6_getChars_ba4f3_12 hl (by decide) rfl (fun ls hl => ?_)
  refine lv_iload hx hb dk_J6_getChars_ba4f3_14 (lv_at hl 0 rfl) ?_
  refine lv_if_ne (tgt := 22) hx hb dk_J6_getChars_ba4f3_16 rfl (fun q => absurd rfl q) (fun _ => ?_)
  refine lv_iload_n hx hb dk_J6_getChars_ba4f3_19 rfl (lv_at hl 2 rfl) ?_
  refine lv_ineg hx hb dk_J6_getChars_ba4f3_20 ?_
  refine lv_istore_n (lv' := [(0, .int (-(nI v))), (6, .int 0), (5, .int (nI (n + 2))), (1, .int (nI (n + 2))), (2, .ref b)]) hx hb dk_J6_getChars_ba4f3_21 rfl hl (by decide) rfl (fun ls hl => ?_)
  refine lv_iload_n hx hb dk_J6_getChars_ba4f3_22 rfl (lv_at hl 0 rfl) ?_
  refine lv_bipush (v := (-100)) hx hb dk_J6_getChars_ba4f3_23 (by decide) ?_
  refine lv_icmp_gt (tgt := 72) hx hb dk_J6_getChars_ba4f3_25 rfl (fun _ => ?_) (fun q => absurd (show -nI 100 < -nI v from (sb_nlt (by decide) (by omega)).mpr (by omega)) q)
  refine lv_aload_n hx hb dk_J6_getChars_ba4f3_72 rfl (lv_at hl 4 rfl) ?_
  refine lv_iinc (k := 2) (v := (nI (n + 1))) (lv' := [(5, .int ((nI (n + 1)))), (0, .int (-(nI v))), (6, .int 0), (1, .int (nI (n + 2))), (2, .ref b)]) hx hb dk_J6_getChars_ba4f3_73 hl rfl (sb_m1 (p := n + 2) (by omega)) (by decide) rfl (fun ls hl => ?_)
  refine lv_iload hx hb dk_J6_getChars_ba4f3_76 (lv_at hl 0 rfl) ?_
  refine va_gets hx hb hZ1 hS hown (hts _ (am_tb_at 456 (by decide +kernel) rfl)) (fun x h => h) dk_J6_getChars_ba4f3_78 ?_
  refine lv_iload_n hx hb dk_J6_getChars_ba4f3_81 rfl (lv_at hl 1 rfl) ?_
  refine lv_ineg hx hb dk_J6_getChars_ba4f3_82 ?_
  rw [show ((-(-(nI v))) : Int32) = nI v from Int32.neg_neg]
  refine va_tb (v := .int (nI (48 + v % 10))) hx hb hT1 hS (vp_in_nI (by omega) (by decide)) (by show Value.int (nI (48 + (nI v).toNatClampNeg % 10)) = _; rw [nI_clamp (by omega)]) dk_J6_getChars_ba4f3_83 ?_
  refine va_bast hx hb hK hP hD hS 0 2 rfl rfl (vp_in_nI (by omega) (by omega)) dk_J6_getChars_ba4f3_84 (fun H locs hP hD hS => ?_)
  rw [nI_clamp (n := n + 1) (by omega), (nib (48 + v % 10) (by omega)).1] at hP hD
  have hP : va_P D vwCl [(b, .inl (kC 2, w, .inl (upd g (n + 1) (nI (48 + v % 10)))))] H := hP
  have hD : va_D A [(b, .inl (kC 2, w, .inl (upd g (n + 1) (nI (48 + v % 10)))))] := hD
  refine lv_iload_n hx hb dk_J6_getChars_ba4f3_85 rfl (lv_at hl 1 rfl) ?_
  refine lv_bipush (v := (-9)) hx hb dk_J6_getChars_ba4f3_86 (by decide) ?_
  refine lv_icmp_ge (tgt := 104) hx hb dk_J6_getChars_ba4f3_88 rfl (fun q => absurd q (fun z => absurd ((neg_le (v := 9) (c := v) (by decide) (by omega)).mp z) (by omega))) (fun _ => ?_)
  refine lv_aload_n hx hb dk_J6_getChars_ba4f3_91 rfl (lv_at hl 4 rfl) ?_
  refine lv_iinc (k := 0) (v := (nI n)) (lv' := [(5, .int ((nI n))), (0, .int (-(nI v))), (6, .int 0), (1, .int (nI (n + 2))), (2, .ref b)]) hx hb dk_J6_getChars_ba4f3_92 hl rfl (sb_m1 (p := n + 1) (by omega)) (by decide) rfl (fun ls hl => ?_)
  refine lv_iload hx hb dk_J6_getChars_ba4f3_95 (lv_at hl 0 rfl) ?_
  refine va_gets hx hb hZ2 hS hown (hts _ (am_tb_at 458 (by decide +kernel) rfl)) (fun x h => h) dk_J6_getChars_ba4f3_97 ?_
  refine lv_iload_n hx hb dk_J6_getChars_ba4f3_100 rfl (lv_at hl 1 rfl) ?_
  refine lv_ineg hx hb dk_J6_getChars_ba4f3_101 ?_
  rw [show ((-(-(nI v))) : Int32) = nI v from Int32.neg_neg]
  refine va_tb (v := .int (nI (48 + v / 10))) hx hb hT2 hS (vp_in_nI (by omega) (by decide)) (by show Value.int (nI (48 + (nI v).toNatClampNeg / 10)) = _; rw [nI_clamp (by omega)]) dk_J6_getChars_ba4f3_102 ?_
  refine va_bast hx hb hK hP hD hS 0 2 rfl rfl (vp_in_nI (by omega) (by omega)) dk_J6_getChars_ba4f3_103 (fun H locs hP hD hS => ?_)
  rw [nI_clamp (n := n) (by omega), (nib (48 + v / 10) (by omega)).1] at hP hD
  have hP : va_P D vwCl [(b, .inl (kC 2, w, .inl (upd (upd g (n + 1) (nI (48 + v % 10))) n (nI (48 + v / 10)))))] H := hP
  have hD : va_D A [(b, .inl (kC 2, w, .inl (upd (upd g (n + 1) (nI (48 + v % 10))) n (nI (48 + v / 10)))))] := hD
  refine lv_iload hx hb dk_J6_getChars_ba4f3_104 (lv_at hl 2 rfl) ?_
  refine lv_if_eq (tgt := 118) hx hb dk_J6_getChars_ba4f3_106 rfl (fun _ => ?_) (fun q => absurd rfl q)
  refine lv_iload hx hb dk_J6_getChars_ba4f3_118 (lv_at hl 0 rfl) ?_
  have hq : sb_Fit (upd (upd g (n + 1) (nI (48 + v % 10))) n (nI (48 + v / 10))) ∧ (∀ j, j < n → (upd (upd g (n + 1) (nI (48 + v % 10))) n (nI (48 + v / 10))) j = g j) ∧ ∀ i, i < sb_dg v → (upd (upd g (n + 1) (nI (48 + v % 10))) n (nI (48 + v / 10))) (n + i) = sb_b (sb_dec v i) := by
    refine ⟨sb_fitU (sb_fitU hf (nfit _ (by omega))) (nfit _ (by omega)), fun j hj => by rw [pk_un (by omega), pk_un (by omega)], fun i hi => ?_⟩
    rw [(dec_2 h h1).1] at hi
    rcases (show i = 0 ∨ i = 1 by omega) with rfl | rfl
    · rw [(dec_2 h h1).2.1, show n + 0 = n from rfl, pk_us, (nib _ (by omega)).2]
    · rw [(dec_2 h h1).2.2, pk_un (by omega), pk_us, (nib _ (by omega)).2]
  refine W.widen (k := 0) (n := 0) (by omega) (by omega) ?_
  exact W.iret (v := ((nI n))) hx hb hr (fun t ht hW => ⟨⟨((nI n)), upd (upd g (n + 1) (nI (48 + v % 10))) n (nI (48 + v / 10)), rfl, hq, by rw [ht]; exact hP, hD⟩, hS.F ht⟩) hS.2.2 dk_J6_getChars_ba4f3_120
set_option maxHeartbeats 4000000 in
set_option maxRecDepth 100000 in
theorem sk_gc3 (l : Launch) (D : va_G) (kC : Nat → ClassId) (v : Nat) (b w n : Nat) (g : Nat → Int32) (hf : sb_Fit g) (h : v = 100) (h2 : n + 3 ≤ w) (h3 : w ≤ 4000) (sz : Nat) : Met l yJ6_getChars_ba4f3 (.code yJ6_getChars_ba4f3 cJ6_getChars_ba4f3 7 (some .int) :: jk_tb) (jr 1 0 0) (va_Pc [.int (nI v), .int (nI (n + 3)), .ref b] (ws_B D kC js_G [(b, .inl (kC 2, w, .inl g))] sz)) (va_Qi (S := Nat → Int32) (fun _ g2 => sb_Fit g2 ∧ (∀ j, j < n → g2 j = g j) ∧ ∀ i, i < sb_dg v → g2 (n + i) = sb_b (sb_dec v i)) (fun g2 t => va_P D vwCl [(b, .inl (kC 2, w, .inl g2))] t.heap ∧ va_D (va_A [(b, .inl (kC 2, w, .inl g))] sz) [(b, .inl (kC 2, w, .inl g2))]) (va_A [(b, .inl (kC 2, w, .inl g))] sz)) 0 0 (va_A [(b, .inl (kC 2, w, .inl g))] sz) := by
  refine Met.ofW (cc := cJ6_getChars_ba4f3) (maxL := 7) (ret := (some .int)) (by decide +kernel) rfl ?_
  intro p e s m args below meth c s₁ B hml hv2
  obtain ⟨rfl, hsz, hP, hK, hD0, hE⟩ := hv2
  have hx := B.exec
  have hb := B.bytes
  have hr := B.returns
  have hlocks := B.notSynchronized
  have hts0 := atoms_spec (ws := (.code yJ6_getChars_ba4f3 cJ6_getChars_ba4f3 7 (some .int) :: jk_tb)) B.pre
  have htj := fun w (hw : w ∈ jk_tb) => hts0 w (List.mem_cons_of_mem _ hw)
  have hts := fun w (hw : w ∈ am_tb) => htj w (jk_in hw)
  have hown : s.vm.findClass yJ6_getChars_ba4f3.cls = some m.cls := findClass_of_methodNamed B.named
  subst hsz
  have hD := hD0.self (sz := s.heap.size)
  generalize hAe : va_A [(b, .inl (kC 2, w, .inl g))] s.heap.size = A at hD hE ⊢
  have hA : ∀ q : Nat, s.heap.size ≤ q → A q := fun q h => by rw [← hAe]; exact Or.inr h
  have hP : va_P D vwCl [(b, .inl (kC 2, w, .inl g))] s.heap := hP
  have hS : va_S A s.heap s.heap [] := va_S.rf
  have hl := lv_entry ([.int (nI v), .int (nI (n + 3)), .ref b]) (n := 7) (Nat.le_of_ble_eq_true rfl)
  rw [lg_entry_eq]
  generalize (lg_sl ([.int (nI v), .int (nI (n + 3)), .ref b]) ++ List.replicate (7 - (lg_sl ([.int (nI v), .int (nI (n + 3)), .ref b])).length) Slot.unset).toArray = ls at hl ⊢
  have hl : lv_has ls 7 [(0, .int (nI v)), (1, .int (nI (n + 3))), (2, .ref b)] := hl
  obtain ⟨-, -, ⟨t1, hZ1, hT1⟩, ⟨t2, hZ2, hT2⟩⟩ := hE
  refine lv_iload_n hx hb dk_J6_getChars_ba4f3_0 rfl (lv_at hl 1 rfl) ?_
  refine lv_istore (lv' := [(5, .int (nI (n + 3))), (0, .int (nI v)), (1, .int (nI (n + 3))), (2, .ref b)]) hx hb dk_J6_getChars_ba4f3_1 hl (by decide) rfl (fun ls hl => ?_)
  refine lv_iload_n hx hb dk_J6_getChars_ba4f3_3 rfl (lv_at hl 1 rfl) ?_
  refine lv_if_ge (tgt := 11) hx hb dk_J6_getChars_ba4f3_4 rfl (fun _ => ?_) (fun q => absurd (nI_pos' (by omega)) q)
  refine lv_iconst (v := 0) hx hb dk_J6_getChars_ba4f3_11 (by decide) ?_
  refine lv_istore (lv' := [(6, .int 0), (5, .int (nI (n + 3))), (0, .int (nI v)), (1, .int (nI (n + 3))), (2, .ref b)]) hx hb dk_J6_getChars_ba4f3_12 hl (by decide) rfl (fun ls hl => ?_)
  refine lv_iload hx hb dk_J6_getChars_ba4f3_14 (lv_at hl 0 rfl) ?_
  refine lv_if_ne (tgt := 22) hx hb dk_J6_getChars_ba4f3_16 rfl (fun q => absurd rfl q) (fun _ => ?_)
  refine lv_iload_n hx hb dk_J6_getChars_ba4f3_19 rfl (lv_at hl 2 rfl) ?_
  refine lv_ineg hx hb dk_J6_getChars_ba4f3_20 ?_
  refine lv_istore_n (lv' := [(0, .int (-(nI v))), (6, .int 0), (5, .int (nI (n + 3))), (1, .int (nI (n + 3))), (2, .ref b)]) hx hb dk_J6_getChars_ba4f3_21 rfl hl (by decide) rfl (fun ls hl => ?_)
  refine lv_iload_n hx hb dk_J6_getChars_ba4f3_22 rfl (lv_at hl 0 rfl) ?_
  refine lv_bipush (v := (-100)) hx hb dk_J6_getChars_ba4f3_23 (by decide) ?_
  subst h
  refine lv_icmp_gt (tgt := 72) hx hb dk_J6_getChars_ba4f3_25 rfl (fun q => absurd q (by decide)) (fun _ => ?_)
  refine lv_iload_n hx hb dk_J6_getChars_ba4f3_28 rfl (lv_at hl 0 rfl) ?_
  refine lv_bipush (v := 100) hx hb dk_J6_getChars_ba4f3_29 (by decide) ?_
  refine lv_idiv hx hb dk_J6_getChars_ba4f3_31 (by decide) ?_
  rw [show (((-(nI 100)) / 100) : Int32) = (-1) from by decide]
  refine lv_istore_n (lv' := [(3, .int ((-1))), (0, .int (-(nI 100))), (6, .int 0), (5, .int (nI (n + 3))), (1, .int (nI (n + 3))), (2, .ref b)]) hx hb dk_J6_getChars_ba4f3_32 rfl hl (by decide) rfl (fun ls hl => ?_)
  refine lv_iload_n hx hb dk_J6_getChars_ba4f3_33 rfl (lv_at hl 0 rfl) ?_
  refine lv_bipush (v := 100) hx hb dk_J6_getChars_ba4f3_34 (by decide) ?_
  refine lv_imul hx hb dk_J6_getChars_ba4f3_36 ?_
  refine lv_iload_n hx hb dk_J6_getChars_ba4f3_37 rfl (lv_at hl 1 rfl) ?_
  refine lv_isub hx hb dk_J6_getChars_ba4f3_38 ?_
  rw [show (((((-1)) * 100) - (-(nI 100))) : Int32) = 0 from by decide]
  refine lv_istore (lv' := [(4, .int 0), (3, .int ((-1))), (0, .int (-(nI 100))), (6, .int 0), (5, .int (nI (n + 3))), (1, .int (nI (n + 3))), (2, .ref b)]) hx hb dk_J6_getChars_ba4f3_39 hl (by decide) rfl (fun ls hl => ?_)
  refine lv_iload_n hx hb dk_J6_getChars_ba4f3_41 rfl (lv_at hl 1 rfl) ?_
  refine lv_istore_n (lv' := [(0, .int ((-1))), (4, .int 0), (3, .int ((-1))), (6, .int 0), (5, .int (nI (n + 3))), (1, .int (nI (n + 3))), (2, .ref b)]) hx hb dk_J6_getChars_ba4f3_42 rfl hl (by decide) rfl (fun ls hl => ?_)
  refine lv_aload_n hx hb dk_J6_getChars_ba4f3_43 rfl (lv_at hl 6 rfl) ?_
  refine lv_iinc (k := 4) (v := (nI (n + 2))) (lv' := [(5, .int ((nI (n + 2)))), (0, .int ((-1))), (4, .int 0), (3, .int ((-1))), (6, .int 0), (1, .int (nI (n + 3))), (2, .ref b)]) hx hb dk_J6_getChars_ba4f3_44 hl rfl (sb_m1 (p := n + 3) (by omega)) (by decide) rfl (fun ls hl => ?_)
  refine lv_iload hx hb dk_J6_getChars_ba4f3_47 (lv_at hl 0 rfl) ?_
  refine va_gets hx hb hZ1 hS hown (hts _ (am_tb_at 456 (by decide +kernel) rfl)) (fun x h => h) dk_J6_getChars_ba4f3_49 ?_
  refine lv_iload hx hb dk_J6_getChars_ba4f3_52 (lv_at hl 2 rfl) ?_
  rw [show (0 : Int32) = nI 0 from by decide]
  refine va_tb (v := .int (nI (48 + 0 % 10))) hx hb hT1 hS (vp_in_nI (by omega) (by decide)) (by show Value.int (nI (48 + (nI 0).toNatClampNeg % 10)) = _; rw [nI_clamp (by omega)]) dk_J6_getChars_ba4f3_54 ?_
  refine va_bast hx hb hK hP hD hS 0 2 rfl rfl (vp_in_nI (by omega) (by omega)) dk_J6_getChars_ba4f3_55 (fun H locs hP hD hS => ?_)
  rw [nI_clamp (n := n + 2) (by omega), (nib (48 + 0 % 10) (by omega)).1] at hP hD
  have hP : va_P D vwCl [(b, .inl (kC 2, w, .inl (upd g (n + 2) (nI (48 + 0 % 10)))))] H := hP
  have hD : va_D A [(b, .inl (kC 2, w, .inl (upd g (n + 2) (nI (48 + 0 % 10)))))] := hD
  refine lv_aload_n hx hb dk_J6_getChars_ba4f3_56 rfl (lv_at hl 6 rfl) ?_
  refine lv_iinc (k := 0) (v := (nI (n + 1))) (lv' := [(5, .int ((nI (n + 1)))), (0, .int ((-1))), (4, .int 0), (3, .int ((-1))), (6, .int 0), (1, .int (nI (n + 3))), (2, .ref b)]) hx hb dk_J6_getChars_ba4f3_57 hl rfl (sb_m1 (p := n + 2) (by omega)) (by decide) rfl (fun ls hl => ?_)
  refine lv_iload hx hb dk_J6_getChars_ba4f3_60 (lv_at hl 0 rfl) ?_
  refine va_gets hx hb hZ2 hS hown (hts _ (am_tb_at 458 (by decide +kernel) rfl)) (fun x h => h) dk_J6_getChars_ba4f3_62 ?_
  refine lv_iload hx hb dk_J6_getChars_ba4f3_65 (lv_at hl 2 rfl) ?_
  rw [show (0 : Int32) = nI 0 from by decide]
  refine va_tb (v := .int (nI (48 + 0 / 10))) hx hb hT2 hS (vp_in_nI (by omega) (by decide)) (by show Value.int (nI (48 + (nI 0).toNatClampNeg / 10)) = _; rw [nI_clamp (by omega)]) dk_J6_getChars_ba4f3_67 ?_
  refine va_bast hx hb hK hP hD hS 0 2 rfl rfl (vp_in_nI (by omega) (by omega)) dk_J6_getChars_ba4f3_68 (fun H locs hP hD hS => ?_)
  rw [nI_clamp (n := n + 1) (by omega), (nib (48 + 0 / 10) (by omega)).1] at hP hD
  have hP : va_P D vwCl [(b, .inl (kC 2, w, .inl (upd (upd g (n + 2) (nI (48 + 0 % 10))) (n + 1) (nI (48 + 0 / 10)))))] H := hP
  have hD : va_D A [(b, .inl (kC 2, w, .inl (upd (upd g (n + 2) (nI (48 + 0 % 10))) (n + 1) (nI (48 + 0 / 10)))))] := hD
  refine lv_goto (tgt := 22) hx hb dk_J6_getChars_ba4f3_69 rfl ?_
  refine lv_iload_n hx hb dk_J6_getChars_ba4f3_22 rfl (lv_at hl 1 rfl) ?_
  refine lv_bipush (v := (-100)) hx hb dk_J6_getChars_ba4f3_23 (by decide) ?_
  refine lv_icmp_gt (tgt := 72) hx hb dk_J6_getChars_ba4f3_25 rfl (fun _ => ?_) (fun q => absurd (by decide) q)
  refine lv_aload_n hx hb dk_J6_getChars_ba4f3_72 rfl (lv_at hl 6 rfl) ?_
  refine lv_iinc (k := 0) (v := (nI n)) (lv' := [(5, .int ((nI n))), (0, .int ((-1))), (4, .int 0), (3, .int ((-1))), (6, .int 0), (1, .int (nI (n + 3))), (2, .ref b)]) hx hb dk_J6_getChars_ba4f3_73 hl rfl (sb_m1 (p := n + 1) (by omega)) (by decide) rfl (fun ls hl => ?_)
  refine lv_iload hx hb dk_J6_getChars_ba4f3_76 (lv_at hl 0 rfl) ?_
  refine va_gets hx hb hZ1 hS hown (hts _ (am_tb_at 456 (by decide +kernel) rfl)) (fun x h => h) dk_J6_getChars_ba4f3_78 ?_
  refine lv_iload_n hx hb dk_J6_getChars_ba4f3_81 rfl (lv_at hl 1 rfl) ?_
  refine lv_ineg hx hb dk_J6_getChars_ba4f3_82 ?_
  rw [show ((-((-1))) : Int32) = nI 1 from by decide]
  refine va_tb (v := .int (nI (48 + 1 % 10))) hx hb hT1 hS (vp_in_nI (by omega) (by decide)) (by show Value.int (nI (48 + (nI 1).toNatClampNeg % 10)) = _; rw [nI_clamp (by omega)]) dk_J6_getChars_ba4f3_83 ?_
  refine va_bast hx hb hK hP hD hS 0 2 rfl rfl (vp_in_nI (by omega) (by omega)) dk_J6_getChars_ba4f3_84 (fun H locs hP hD hS => ?_)
  rw [nI_clamp (n := n) (by omega), (nib (48 + 1 % 10) (by omega)).1] at hP hD
  have hP : va_P D vwCl [(b, .inl (kC 2, w, .inl (upd (upd (upd g (n + 2) (nI (48 + 0 % 10))) (n + 1) (nI (48 + 0 / 10))) n (nI (48 + 1 % 10)))))] H := hP
  have hD : va_D A [(b, .inl (kC 2, w, .inl (upd (upd (upd g (n + 2) (nI (48 + 0 % 10))) (n + 1) (nI (48 + 0 / 10))) n (nI (48 + 1 % 10)))))] := hD
  refine lv_iload_n hx hb dk_J6_getChars_ba4f3_85 rfl (lv_at hl 1 rfl) ?_
  refine lv_bipush (v := (-9)) hx hb dk_J6_getChars_ba4f3_86 (by decide) ?_
  refine lv_icmp_ge (tgt := 104) hx hb dk_J6_getChars_ba4f3_88 rfl (fun _ => ?_) (fun q => absurd (by decide) q)
  refine lv_iload hx hb dk_J6_getChars_ba4f3_104 (lv_at hl 4 rfl) ?_
  refine lv_if_eq (tgt := 118) hx hb dk_J6_getChars_ba4f3_106 rfl (fun _ => ?_) (fun q => absurd rfl q)
  refine lv_iload hx hb dk_J6_getChars_ba4f3_118 (lv_at hl 0 rfl) ?_
  have hq : sb_Fit (upd (upd (upd g (n + 2) (nI (48 + 0 % 10))) (n + 1) (nI (48 + 0 / 10))) n (nI (48 + 1 % 10))) ∧ (∀ j, j < n → (upd (upd (upd g (n + 2) (nI (48 + 0 % 10))) (n + 1) (nI (48 + 0 / 10))) n (nI (48 + 1 % 10))) j = g j) ∧ ∀ i, i < sb_dg 100 → (upd (upd (upd g (n + 2) (nI (48 + 0 % 10))) (n + 1) (nI (48 + 0 / 10))) n (nI (48 + 1 % 10))) (n + i) = sb_b (sb_dec 100 i) := by
    refine ⟨sb_fitU (sb_fitU (sb_fitU hf (nfit _ (by decide))) (nfit _ (by decide))) (nfit _ (by decide)), fun j hj => by rw [pk_un (by omega), pk_un (by omega), pk_un (by omega)], fun i hi => ?_⟩
    rw [dec_3.1] at hi
    rcases (show i = 0 ∨ i = 1 ∨ i = 2 by omega) with rfl | rfl | rfl
    · rw [dec_3.2.1, show n + 0 = n from rfl, pk_us]; decide
    · rw [dec_3.2.2.1, pk_un (by omega), pk_us]; decide
    · rw [dec_3.2.2.2, pk_un (by omega), pk_un (by omega), pk_us]; decide
  refine W.widen (k := 0) (n := 0) (by omega) (by omega) ?_
  exact W.iret (v := ((nI n))) hx hb hr (fun t ht hW => ⟨⟨((nI n)), upd (upd (upd g (n + 2) (nI (48 + 0 % 10))) (n + 1) (nI (48 + 0 / 10))) n (nI (48 + 1 % 10)), rfl, hq, by rw [ht]; exact hP, hD⟩, hS.F ht⟩) hS.2.2 dk_J6_getChars_ba4f3_120
theorem sk_gc (l : Launch) (D : va_G) (kC : Nat → ClassId) (v : Nat) (b w n : Nat) (g : Nat → Int32) (hf : sb_Fit g) (h : v ≤ 100) (h2 : n + sb_dg v ≤ w) (h3 : w ≤ 4000) (sz : Nat) : Met l yJ6_getChars_ba4f3 (.code yJ6_getChars_ba4f3 cJ6_getChars_ba4f3 7 (some .int) :: jk_tb) (jr 1 0 0) (va_Pc [.int (nI v), .int (nI (n + sb_dg v)), .ref b] (ws_B D kC js_G [(b, .inl (kC 2, w, .inl g))] sz)) (va_Qi (S := Nat → Int32) (fun _ g2 => sb_Fit g2 ∧ (∀ j, j < n → g2 j = g j) ∧ ∀ i, i < sb_dg v → g2 (n + i) = sb_b (sb_dec v i)) (fun g2 t => va_P D vwCl [(b, .inl (kC 2, w, .inl g2))] t.heap ∧ va_D (va_A [(b, .inl (kC 2, w, .inl g))] sz) [(b, .inl (kC 2, w, .inl g2))]) (va_A [(b, .inl (kC 2, w, .inl g))] sz)) 0 0 (va_A [(b, .inl (kC 2, w, .inl g))] sz) := by
  by_cases h1 : v < 10
  · have e := (dec_1 h1).1
    rw [show n + sb_dg v = n + 1 by rw [e]]
    exact sk_gc1 l D kC v b w n g hf h1 (by omega) h3 sz
  by_cases h5 : v < 100
  · have e := (dec_2 (by omega) h5).1
    rw [show n + sb_dg v = n + 2 by rw [e]]
    exact sk_gc2 l D kC v b w n g hf (by omega) h5 (by omega) h3 sz
  · obtain rfl : v = 100 := by omega
    have e := dec_3.1
    rw [show n + sb_dg 100 = n + 3 by rw [e]]
    exact sk_gc3 l D kC 100 b w n g hf rfl (by omega) h3 sz
