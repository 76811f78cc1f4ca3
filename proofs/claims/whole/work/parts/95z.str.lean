theorem ds_ci3_0 : decode cJ3_checkIndex_8e157 0 = .ok (.iload_n 0, 1) := by decide +kernel
theorem ds_ci3_1 : decode cJ3_checkIndex_8e157 1 = .ok (.ifCond .lt 8, 3) := by decide +kernel
theorem ds_ci3_4 : decode cJ3_checkIndex_8e157 4 = .ok (.iload_n 0, 1) := by decide +kernel
theorem ds_ci3_5 : decode cJ3_checkIndex_8e157 5 = .ok (.iload_n 1, 1) := by decide +kernel
theorem ds_ci3_6 : decode cJ3_checkIndex_8e157 6 = .ok (.if_icmp .lt 10, 3) := by decide +kernel
theorem ds_ci3_9 : decode cJ3_checkIndex_8e157 9 = .ok (.aload_n 2, 1) := by decide +kernel
theorem ds_ci3_10 : decode cJ3_checkIndex_8e157 10 = .ok (.iload_n 0, 1) := by decide +kernel
theorem ds_ci3_11 : decode cJ3_checkIndex_8e157 11 = .ok (.iload_n 1, 1) := by decide +kernel
theorem ds_ci3_12 : decode cJ3_checkIndex_8e157 12 = .ok (.invokestatic 95, 3) := by decide +kernel
theorem ds_ci3_15 : decode cJ3_checkIndex_8e157 15 = .ok (.athrow, 1) := by decide +kernel
theorem ds_ci3_16 : decode cJ3_checkIndex_8e157 16 = .ok (.iload_n 0, 1) := by decide +kernel
theorem ds_ci3_17 : decode cJ3_checkIndex_8e157 17 = .ok (.ireturn, 1) := by decide +kernel
theorem ds_ci_0 : decode cJ0_checkIndex_df160 0 = .ok (.iload_n 0, 1) := by decide +kernel
theorem ds_ci_1 : decode cJ0_checkIndex_df160 1 = .ok (.iload_n 1, 1) := by decide +kernel
theorem ds_ci_2 : decode cJ0_checkIndex_df160 2 = .ok (.getstatic 1053, 3) := by decide +kernel
theorem ds_ci_5 : decode cJ0_checkIndex_df160 5 = .ok (.invokestatic 1059, 3) := by decide +kernel
theorem ds_ci_8 : decode cJ0_checkIndex_df160 8 = .ok (.pop, 1) := by decide +kernel
theorem ds_ci_9 : decode cJ0_checkIndex_df160 9 = .ok (.return_, 1) := by decide +kernel
theorem ds_lat_0 : decode cJ1_charAt_3b067 0 = .ok (.iload_n 1, 1) := by decide +kernel
theorem ds_lat_1 : decode cJ1_charAt_3b067 1 = .ok (.aload_n 0, 1) := by decide +kernel
theorem ds_lat_2 : decode cJ1_charAt_3b067 2 = .ok (.arraylength, 1) := by decide +kernel
theorem ds_lat_3 : decode cJ1_charAt_3b067 3 = .ok (.invokestatic 9, 3) := by decide +kernel
theorem ds_lat_6 : decode cJ1_charAt_3b067 6 = .ok (.aload_n 0, 1) := by decide +kernel
theorem ds_lat_7 : decode cJ1_charAt_3b067 7 = .ok (.iload_n 1, 1) := by decide +kernel
theorem ds_lat_8 : decode cJ1_charAt_3b067 8 = .ok (.baload, 1) := by decide +kernel
theorem ds_lat_9 : decode cJ1_charAt_3b067 9 = .ok (.sipush 255, 3) := by decide +kernel
theorem ds_lat_12 : decode cJ1_charAt_3b067 12 = .ok (.iand, 1) := by decide +kernel
theorem ds_lat_13 : decode cJ1_charAt_3b067 13 = .ok (.i2c, 1) := by decide +kernel
theorem ds_lat_14 : decode cJ1_charAt_3b067 14 = .ok (.ireturn, 1) := by decide +kernel
theorem ds_cod_0 : decode cJ0_coder_7d493 0 = .ok (.getstatic 38, 3) := by decide +kernel
theorem ds_cod_3 : decode cJ0_coder_7d493 3 = .ok (.ifCond .eq 10, 3) := by decide +kernel
theorem ds_cod_6 : decode cJ0_coder_7d493 6 = .ok (.aload_n 0, 1) := by decide +kernel
theorem ds_cod_7 : decode cJ0_coder_7d493 7 = .ok (.getfield 15, 3) := by decide +kernel
theorem ds_cod_10 : decode cJ0_coder_7d493 10 = .ok (.goto 4, 3) := by decide +kernel
theorem ds_cod_13 : decode cJ0_coder_7d493 13 = .ok (.iconst 1, 1) := by decide +kernel
theorem ds_cod_14 : decode cJ0_coder_7d493 14 = .ok (.ireturn, 1) := by decide +kernel
theorem ds_isl_0 : decode cJ0_isLatin1_aae02 0 = .ok (.getstatic 38, 3) := by decide +kernel
theorem ds_isl_3 : decode cJ0_isLatin1_aae02 3 = .ok (.ifCond .eq 14, 3) := by decide +kernel
theorem ds_isl_6 : decode cJ0_isLatin1_aae02 6 = .ok (.aload_n 0, 1) := by decide +kernel
theorem ds_isl_7 : decode cJ0_isLatin1_aae02 7 = .ok (.getfield 15, 3) := by decide +kernel
theorem ds_isl_10 : decode cJ0_isLatin1_aae02 10 = .ok (.ifCond .ne 7, 3) := by decide +kernel
theorem ds_isl_13 : decode cJ0_isLatin1_aae02 13 = .ok (.iconst 1, 1) := by decide +kernel
theorem ds_isl_14 : decode cJ0_isLatin1_aae02 14 = .ok (.goto 4, 3) := by decide +kernel
theorem ds_isl_17 : decode cJ0_isLatin1_aae02 17 = .ok (.iconst 0, 1) := by decide +kernel
theorem ds_isl_18 : decode cJ0_isLatin1_aae02 18 = .ok (.ireturn, 1) := by decide +kernel
theorem ds_len_0 : decode cJ0_length_8abf5 0 = .ok (.aload_n 0, 1) := by decide +kernel
theorem ds_len_1 : decode cJ0_length_8abf5 1 = .ok (.getfield 9, 3) := by decide +kernel
theorem ds_len_4 : decode cJ0_length_8abf5 4 = .ok (.arraylength, 1) := by decide +kernel
theorem ds_len_5 : decode cJ0_length_8abf5 5 = .ok (.aload_n 0, 1) := by decide +kernel
theorem ds_len_6 : decode cJ0_length_8abf5 6 = .ok (.invokevirtual 335, 3) := by decide +kernel
theorem ds_len_9 : decode cJ0_length_8abf5 9 = .ok (.ishr, 1) := by decide +kernel
theorem ds_len_10 : decode cJ0_length_8abf5 10 = .ok (.ireturn, 1) := by decide +kernel
theorem ds_chr_0 : decode cJ0_charAt_5068e 0 = .ok (.aload_n 0, 1) := by decide +kernel
theorem ds_chr_1 : decode cJ0_charAt_5068e 1 = .ok (.invokevirtual 492, 3) := by decide +kernel
theorem ds_chr_4 : decode cJ0_charAt_5068e 4 = .ok (.ifCond .eq 12, 3) := by decide +kernel
theorem ds_chr_7 : decode cJ0_charAt_5068e 7 = .ok (.aload_n 0, 1) := by decide +kernel
theorem ds_chr_8 : decode cJ0_charAt_5068e 8 = .ok (.getfield 9, 3) := by decide +kernel
theorem ds_chr_11 : decode cJ0_charAt_5068e 11 = .ok (.iload_n 1, 1) := by decide +kernel
theorem ds_chr_12 : decode cJ0_charAt_5068e 12 = .ok (.invokestatic 495, 3) := by decide +kernel
theorem ds_chr_15 : decode cJ0_charAt_5068e 15 = .ok (.ireturn, 1) := by decide +kernel
theorem ds_chr_16 : decode cJ0_charAt_5068e 16 = .ok (.aload_n 0, 1) := by decide +kernel
theorem ds_chr_17 : decode cJ0_charAt_5068e 17 = .ok (.getfield 9, 3) := by decide +kernel
theorem ds_chr_20 : decode cJ0_charAt_5068e 20 = .ok (.iload_n 1, 1) := by decide +kernel
theorem ds_chr_21 : decode cJ0_charAt_5068e 21 = .ok (.invokestatic 498, 3) := by decide +kernel
theorem ds_chr_24 : decode cJ0_charAt_5068e 24 = .ok (.ireturn, 1) := by decide +kernel
abbrev js_A (sz : Nat) : Nat → Prop := fun q => sz ≤ q
abbrev js_B (a b sz : Nat) : State → Prop := fun U => U.heap.size = sz ∧ js_P a b (js_A sz) U U.heap
theorem js_blind {av : List Value} {a b sz : Nat} : FrameBlind (va_Pc av (js_B a b sz)) := by
  intro x U g mk h
  obtain ⟨h0, h1, h2⟩ := h
  exact ⟨h0, h1, js_moved (u := U) (U := U.calling g mk x) (Vm.Alike.refl U.vm) h2⟩
theorem js_preS {s : State} {H : Heap} {locs : List Loc} {av : List Value} {a b : Nat} (hJ : js_P a b (js_A s.heap.size) s s.heap) (hS : va_S (js_A s.heap.size) s.heap H locs) : PreS s H (va_Pc av (js_B a b H.size)) av :=
  ⟨js_blind, fun U hU hW => ⟨rfl, by rw [hU], by rw [hU]; exact js_narrow (js_moved hW.alike (js_kept hJ hS.2.1)) (fun q h => Nat.le_trans hS.1 h)⟩⟩
theorem js_preV {s : State} {H : Heap} {locs : List Loc} {av : List Value} {a b : Nat} {B : Nat → Prop} (hJ : js_P a b B s s.heap) (hS : va_S B s.heap H locs) (hB : ∀ q, H.size ≤ q → B q) : PreV s H "java/lang/String" a (va_Pc (.ref a :: av) (js_B a b H.size)) av := by
  obtain ⟨cell, h1, h2, h3, -⟩ := hJ.1.kept hS.2.1
  exact ⟨js_blind, ⟨cell, h1, h2, h3⟩, fun U hU hW => ⟨rfl, by rw [hU], by rw [hU]; exact js_narrow (js_moved hW.alike (js_kept hJ hS.2.1)) hB⟩⟩
/-- an answer that is a number, nothing written -/
abbrev js_Q (r : Int32) (sz : Nat) : Array Value → State → Outcome → State → Prop := va_Qi (S := Unit) (fun x _ => x = r) (fun _ _ => True) (js_A sz)
abbrev js_Qv (sz : Nat) : Array Value → State → Outcome → State → Prop := va_Qv (S := Unit) (fun _ => True) (fun _ _ => True) (js_A sz)
set_option maxHeartbeats 1000000 in
theorem sj_ci3 (l : Launch) (i n : Int32) (v : Value) (hv : v = .null ∨ ∃ t, v = .ref t) (h0 : ¬ i < 0) (h1 : i < n) (a b sz : Nat) : Met l yJ3_checkIndex_8e157 (.code yJ3_checkIndex_8e157 cJ3_checkIndex_8e157 3 (some .int) :: am_tb) (am_rm 1 0) (va_Pc [.int i, .int n, v] (js_B a b sz)) (js_Q i sz) 0 0 (js_A sz) := by
  have hcat : ∀ n0 : Nat, lg_sl [Value.int i, .int n, v] = [Slot.val (.int i), Slot.val (.int n), Slot.val v] := fun _ => by rcases hv with rfl | ⟨t, rfl⟩ <;> rfl
  refine Met.ofW (cc := cJ3_checkIndex_8e157) (maxL := 3) (ret := (some .int)) (by decide +kernel) rfl ?_
  intro p e s m args below meth c s₁ B hml hv2
  obtain ⟨rfl, rfl, hJ⟩ := hv2
  have hx := B.exec
  have hb := B.bytes
  have hr := B.returns
  have hlocks := B.notSynchronized
  have hS : va_S (js_A s.heap.size) s.heap s.heap [] := va_S.rf
  have hl := lv_entry ([.int i, .int n, v]) (n := 3) (by rw [hcat 0]; exact Nat.le_of_ble_eq_true rfl)
  rw [lg_entry_eq]
  generalize (lg_sl ([.int i, .int n, v]) ++ List.replicate (3 - (lg_sl ([.int i, .int n, v])).length) Slot.unset).toArray = ls at hl ⊢
  have hl : lv_has ls 3 [(0, .int i), (1, .int n)] := by
    rcases hv with rfl | ⟨t, rfl⟩ <;> exact lv_sub hl [0, 1] rfl
  refine lv_iload_n hx hb ds_ci3_0 rfl (lv_at hl 0 rfl) ?_
  refine lv_if_lt (tgt := 9) hx hb ds_ci3_1 rfl (fun q => absurd q h0) (fun _ => ?_)
  refine lv_iload_n hx hb ds_ci3_4 rfl (lv_at hl 0 rfl) ?_
  refine lv_iload_n hx hb ds_ci3_5 rfl (lv_at hl 1 rfl) ?_
  refine lv_icmp_lt (tgt := 16) hx hb ds_ci3_6 rfl (fun _ => ?_) (fun q => absurd h1 q)
  refine lv_iload_n hx hb ds_ci3_16 rfl (lv_at hl 0 rfl) ?_
  exact W.iret (v := i) hx hb hr (fun t ht hW => ⟨⟨i, (), rfl, rfl, trivial⟩, hS.F ht⟩) hS.2.2 ds_ci3_17
set_option maxHeartbeats 1000000 in
theorem sj_ci (l : Launch) (i n : Int32) (h0 : ¬ i < 0) (h1 : i < n) (a b sz : Nat) : Met l yJ0_checkIndex_df160 (.code yJ0_checkIndex_df160 cJ0_checkIndex_df160 2 none :: am_tb) (am_rm 2 0) (va_Pc [.int i, .int n] (js_B a b sz)) (js_Qv sz) 0 0 (js_A sz) := by
  refine Met.ofW (cc := cJ0_checkIndex_df160) (maxL := 2) (ret := none) (by decide +kernel) rfl ?_
  intro p e s m args below meth c s₁ B hml hv2
  obtain ⟨rfl, rfl, hJ⟩ := hv2
  have hx := B.exec
  have hb := B.bytes
  have hr := B.returns
  have hlocks := B.notSynchronized
  have hts0 := atoms_spec (ws := (.code yJ0_checkIndex_df160 cJ0_checkIndex_df160 2 none :: am_tb)) B.pre
  have hts := fun w (hw : w ∈ am_tb) => hts0 w (List.mem_cons_of_mem _ hw)
  have hown : s.vm.findClass yJ0_checkIndex_df160.cls = some m.cls := findClass_of_methodNamed B.named
  have hS : va_S (js_A s.heap.size) s.heap s.heap [] := va_S.rf
  have hl := lv_entry ([.int i, .int n]) (n := 2) (Nat.le_of_ble_eq_true rfl)
  rw [lg_entry_eq]
  generalize (lg_sl ([.int i, .int n]) ++ List.replicate (2 - (lg_sl ([.int i, .int n])).length) Slot.unset).toArray = ls at hl ⊢
  have hl : lv_has ls 2 [(0, .int i), (1, .int n)] := hl
  obtain ⟨v, hv, hZ⟩ : ∃ v : Value, (v = .null ∨ ∃ t, v = .ref t) ∧ va_Z "jdk/internal/util/Preconditions" "SIOOBE_FORMATTER" "Ljava/util/function/BiFunction;" v (js_A s.heap.size) s s.heap := by
    rcases hJ.2.2.2.2.2 with h | ⟨t, h⟩
    · exact ⟨_, Or.inl rfl, h⟩
    · exact ⟨_, Or.inr ⟨t, rfl⟩, h⟩
  refine lv_iload_n hx hb ds_ci_0 rfl (lv_at hl 0 rfl) ?_
  refine lv_iload_n hx hb ds_ci_1 rfl (lv_at hl 1 rfl) ?_
  refine va_gets hx hb hZ hS hown (hts _ (am_tb_at 1536 (by decide +kernel) rfl)) (fun x h => h) ds_ci_2 ?_
  refine va_calli (va_runS (rest := []) ⟨hx, hb, hml, hown, hts⟩ (sj_ci3 l i n v hv h0 h1 a b s.heap.size) ⟨am_callB (R := am_rm 2 0) (index := 1059) 3 (am_pay hts (am_tb_at 1540 (by decide +kernel) rfl)) (hts _ (am_tb_at 1540 (by decide +kernel) rfl)) rfl rfl rfl (hts _ (am_tb_at 128 (by decide +kernel) rfl)) (hts _ (am_tb_at 1538 (by decide +kernel) rfl)) ⟨by decide, by decide, by decide +kernel⟩ ⟨by decide, by decide⟩, hts _ (am_tb_at 1539 (by decide +kernel) rfl)⟩ (js_preS hJ hS) rfl rfl hl.1 rfl (lv_room (Nat.le_of_ble_eq_true rfl)) ds_ci_5 ⟨Nat.le_of_ble_eq_true rfl, Nat.le_of_ble_eq_true rfl⟩) hS (fun q _ h => Nat.le_trans hS.1 h) (fun q h => Nat.le_trans hS.1 h) (fun r0 u t H locs hte hvm hz _ hsz hkp hS => ?_)
  subst hz
  refine lv_pop hx hb ds_ci_8 rfl ?_
  exact W.vret hx hb hr (fun t ht hW => ⟨⟨(), rfl, trivial, trivial⟩, hS.F ht⟩) hS.2.2 ds_ci_9
/-- the sign at a place of the constant -/
def cW (k : Int) : Int := (am_by.getD k.toNat 0).toInt
theorem cW_b : ∀ k : Nat, k < 27 → ((am_by.getD k 0 &&& 255).toUInt32 % 65536).toInt32 = am_by.getD k 0 ∧ narrow .char (.int (am_by.getD k 0)) = .int (am_by.getD k 0) := by decide +kernel
theorem js_in {i : Int32} (h0 : ¬ i < 0) (h1 : i < 27) : vp_in i 27 ∧ i.toNatClampNeg < 27 := by
  have e : i.toInt < 27 := by simpa using Int32.lt_iff_toInt_lt.mp h1
  have e0 : ¬ i.toInt < 0 := fun q => h0 (Int32.lt_iff_toInt_lt.mpr (by simpa using q))
  have e2 : i.toNatClampNeg = i.toInt.toNat := rfl
  refine ⟨fun q => ?_, by omega⟩
  rcases q with q | q
  · exact h0 q
  · omega
set_option maxHeartbeats 1000000 in
theorem sj_lat (l : Launch) (i : Int32) (h0 : ¬ i < 0) (h1 : i < 27) (a b sz : Nat) : Met l yJ1_charAt_3b067 (.code yJ1_charAt_3b067 cJ1_charAt_3b067 2 (some .char) :: am_tb) (am_rm 3 0) (va_Pc [.ref b, .int i] (js_B a b sz)) (js_Q (am_by.getD i.toNatClampNeg 0) sz) 0 0 (js_A sz) := by
  refine Met.ofW (cc := cJ1_charAt_3b067) (maxL := 2) (ret := (some .char)) (by decide +kernel) rfl ?_
  intro p e s m args below meth c s₁ B hml hv2
  obtain ⟨rfl, rfl, hJ⟩ := hv2
  have hx := B.exec
  have hb := B.bytes
  have hr := B.returns
  have hlocks := B.notSynchronized
  have hts0 := atoms_spec (ws := (.code yJ1_charAt_3b067 cJ1_charAt_3b067 2 (some .char) :: am_tb)) B.pre
  have hts := fun w (hw : w ∈ am_tb) => hts0 w (List.mem_cons_of_mem _ hw)
  have hown : s.vm.findClass yJ1_charAt_3b067.cls = some m.cls := findClass_of_methodNamed B.named
  have hS : va_S (js_A s.heap.size) s.heap s.heap [] := va_S.rf
  have hl := lv_entry ([.ref b, .int i]) (n := 2) (Nat.le_of_ble_eq_true rfl)
  rw [lg_entry_eq]
  generalize (lg_sl ([.ref b, .int i]) ++ List.replicate (2 - (lg_sl ([.ref b, .int i])).length) Slot.unset).toArray = ls at hl ⊢
  have hl : lv_has ls 2 [(0, .ref b), (1, .int i)] := hl
  refine lv_iload_n hx hb ds_lat_0 rfl (lv_at hl 1 rfl) ?_
  refine lv_aload_n hx hb ds_lat_1 rfl (lv_at hl 0 rfl) ?_
  refine va_tlen (v := 27) hx hb hJ.2.2.2.1 hS rfl ds_lat_2 ?_
  refine va_callv (va_runS (rest := []) ⟨hx, hb, hml, hown, hts⟩ (sj_ci l i 27 h0 h1 a b s.heap.size) ⟨am_callB (R := am_rm 3 0) (index := 9) 2 (am_pay hts (am_tb_at 1535 (by decide +kernel) rfl)) (hts _ (am_tb_at 1535 (by decide +kernel) rfl)) rfl rfl rfl (hts _ (am_tb_at 126 (by decide +kernel) rfl)) (hts _ (am_tb_at 1533 (by decide +kernel) rfl)) ⟨by decide, by decide, by decide +kernel⟩ ⟨by decide, by decide⟩, hts _ (am_tb_at 1534 (by decide +kernel) rfl)⟩ (js_preS hJ hS) rfl rfl hl.1 rfl (lv_room (Nat.le_of_ble_eq_true rfl)) ds_lat_3 ⟨Nat.le_of_ble_eq_true rfl, Nat.le_of_ble_eq_true rfl⟩) hS (fun q _ h => Nat.le_trans hS.1 h) (fun q h => Nat.le_trans hS.1 h) (fun u t H locs hte hvm hz _ hsz hkp hS => ?_)
  refine lv_aload_n hx hb ds_lat_6 rfl (lv_at hl 0 rfl) ?_
  refine lv_iload_n hx hb ds_lat_7 rfl (lv_at hl 1 rfl) ?_
  refine va_tb (v := .int (am_by.getD i.toNatClampNeg 0)) hx hb hJ.2.2.2.1 hS (js_in h0 h1).1 rfl ds_lat_8 ?_
  refine lv_sipush (v := 255) hx hb ds_lat_9 (by decide) ?_
  refine lv_iand hx hb ds_lat_12 ?_
  refine lv_i2c (v := am_by.getD i.toNatClampNeg 0) hx hb ds_lat_13 (cW_b _ (js_in h0 h1).2).1 ?_
  exact W.zret (v := am_by.getD i.toNatClampNeg 0) (ty := .char) hx hb hr (cW_b _ (js_in h0 h1).2).2 (fun t ht hW => ⟨⟨_, (), rfl, rfl, trivial⟩, hS.F ht⟩) hS.2.2 ds_lat_14
set_option maxHeartbeats 1000000 in
theorem sj_cod (l : Launch) (a b sz : Nat) : Met l yJ0_coder_7d493 (.code yJ0_coder_7d493 cJ0_coder_7d493 1 (some .byte) :: am_tb) (am_rm 1 0) (va_Pc [.ref a] (js_B a b sz)) (js_Q 0 sz) 0 0 (js_A sz) := by
  refine Met.ofW (cc := cJ0_coder_7d493) (maxL := 1) (ret := (some .byte)) (by decide +kernel) rfl ?_
  intro p e s m args below meth c s₁ B hml hv2
  obtain ⟨rfl, rfl, hJ⟩ := hv2
  have hx := B.exec
  have hb := B.bytes
  have hr := B.returns
  have hlocks := B.notSynchronized
  have hts0 := atoms_spec (ws := (.code yJ0_coder_7d493 cJ0_coder_7d493 1 (some .byte) :: am_tb)) B.pre
  have hts := fun w (hw : w ∈ am_tb) => hts0 w (List.mem_cons_of_mem _ hw)
  have hown : s.vm.findClass yJ0_coder_7d493.cls = some m.cls := findClass_of_methodNamed B.named
  have hS : va_S (js_A s.heap.size) s.heap s.heap [] := va_S.rf
  have hl := lv_entry ([.ref a]) (n := 1) (Nat.le_of_ble_eq_true rfl)
  rw [lg_entry_eq]
  generalize (lg_sl ([.ref a]) ++ List.replicate (1 - (lg_sl ([.ref a])).length) Slot.unset).toArray = ls at hl ⊢
  have hl : lv_has ls 1 [(0, .ref a)] := hl
  refine va_gets hx hb hJ.2.2.2.2.1 hS hown (hts _ (am_tb_at 1520 (by decide +kernel) rfl)) (fun x h => h) ds_cod_0 ?_
  refine lv_if_eq (tgt := 13) hx hb ds_cod_3 rfl (fun q => absurd q (by decide)) (fun _ => ?_)
  refine lv_aload_n hx hb ds_cod_6 rfl (lv_at hl 0 rfl) ?_
  refine vk_getf hx hb hJ.2.1 hS hown (hts _ (am_tb_at 2068 (by decide +kernel) rfl)) (fun x h => h) ds_cod_7 ?_
  refine lv_goto (tgt := 14) hx hb ds_cod_10 rfl ?_
  exact W.zret (v := 0) (ty := .byte) hx hb hr rfl (fun t ht hW => ⟨⟨_, (), rfl, rfl, trivial⟩, hS.F ht⟩) hS.2.2 ds_cod_14
set_option maxHeartbeats 1000000 in
theorem sj_isl (l : Launch) (a b sz : Nat) : Met l yJ0_isLatin1_aae02 (.code yJ0_isLatin1_aae02 cJ0_isLatin1_aae02 1 (some .boolean) :: am_tb) (am_rm 1 0) (va_Pc [.ref a] (js_B a b sz)) (js_Q 1 sz) 0 0 (js_A sz) := by
  refine Met.ofW (cc := cJ0_isLatin1_aae02) (maxL := 1) (ret := (some .boolean)) (by decide +kernel) rfl ?_
  intro p e s m args below meth c s₁ B hml hv2
  obtain ⟨rfl, rfl, hJ⟩ := hv2
  have hx := B.exec
  have hb := B.bytes
  have hr := B.returns
  have hlocks := B.notSynchronized
  have hts0 := atoms_spec (ws := (.code yJ0_isLatin1_aae02 cJ0_isLatin1_aae02 1 (some .boolean) :: am_tb)) B.pre
  have hts := fun w (hw : w ∈ am_tb) => hts0 w (List.mem_cons_of_mem _ hw)
  have hown : s.vm.findClass yJ0_isLatin1_aae02.cls = some m.cls := findClass_of_methodNamed B.named
  have hS : va_S (js_A s.heap.size) s.heap s.heap [] := va_S.rf
  have hl := lv_entry ([.ref a]) (n := 1) (Nat.le_of_ble_eq_true rfl)
  rw [lg_entry_eq]
  generalize (lg_sl ([.ref a]) ++ List.replicate (1 - (lg_sl ([.ref a])).length) Slot.unset).toArray = ls at hl ⊢
  have hl : lv_has ls 1 [(0, .ref a)] := hl
  refine va_gets hx hb hJ.2.2.2.2.1 hS hown (hts _ (am_tb_at 1520 (by decide +kernel) rfl)) (fun x h => h) ds_isl_0 ?_
  refine lv_if_eq (tgt := 17) hx hb ds_isl_3 rfl (fun q => absurd q (by decide)) (fun _ => ?_)
  refine lv_aload_n hx hb ds_isl_6 rfl (lv_at hl 0 rfl) ?_
  refine vk_getf hx hb hJ.2.1 hS hown (hts _ (am_tb_at 2068 (by decide +kernel) rfl)) (fun x h => h) ds_isl_7 ?_
  refine lv_if_ne (tgt := 17) hx hb ds_isl_10 rfl (fun q => absurd rfl q) (fun _ => ?_)
  refine lv_iconst (v := 1) hx hb ds_isl_13 (by decide) ?_
  refine lv_goto (tgt := 18) hx hb ds_isl_14 rfl ?_
  exact W.zret (v := 1) (ty := .boolean) hx hb hr rfl (fun t ht hW => ⟨⟨_, (), rfl, rfl, trivial⟩, hS.F ht⟩) hS.2.2 ds_isl_18
set_option maxHeartbeats 1000000 in
theorem sj_len (l : Launch) (a b sz : Nat) : Met l yJ0_length_8abf5 (.code yJ0_length_8abf5 cJ0_length_8abf5 1 (some .int) :: am_tb) (am_rm 2 0) (va_Pc [.ref a] (js_B a b sz)) (js_Q 27 sz) 0 0 (js_A sz) := by
  refine Met.ofW (cc := cJ0_length_8abf5) (maxL := 1) (ret := (some .int)) (by decide +kernel) rfl ?_
  intro p e s m args below meth c s₁ B hml hv2
  obtain ⟨rfl, rfl, hJ⟩ := hv2
  have hx := B.exec
  have hb := B.bytes
  have hr := B.returns
  have hlocks := B.notSynchronized
  have hts0 := atoms_spec (ws := (.code yJ0_length_8abf5 cJ0_length_8abf5 1 (some .int) :: am_tb)) B.pre
  have hts := fun w (hw : w ∈ am_tb) => hts0 w (List.mem_cons_of_mem _ hw)
  have hown : s.vm.findClass yJ0_length_8abf5.cls = some m.cls := findClass_of_methodNamed B.named
  have hS : va_S (js_A s.heap.size) s.heap s.heap [] := va_S.rf
  have hl := lv_entry ([.ref a]) (n := 1) (Nat.le_of_ble_eq_true rfl)
  rw [lg_entry_eq]
  generalize (lg_sl ([.ref a]) ++ List.replicate (1 - (lg_sl ([.ref a])).length) Slot.unset).toArray = ls at hl ⊢
  have hl : lv_has ls 1 [(0, .ref a)] := hl
  refine lv_aload_n hx hb ds_len_0 rfl (lv_at hl 0 rfl) ?_
  refine vk_getf hx hb hJ.2.2.1 hS hown (hts _ (am_tb_at 2067 (by decide +kernel) rfl)) (fun x h => h) ds_len_1 ?_
  refine va_tlen (v := 27) hx hb hJ.2.2.2.1 hS rfl ds_len_4 ?_
  refine lv_aload_n hx hb ds_len_5 rfl (lv_at hl 0 rfl) ?_
  refine va_calli (va_runV (rest := [.int 27]) ⟨hx, hb, hml, hown, hts⟩ (sj_cod l a b s.heap.size) ⟨am_callB (R := am_rm 2 0) (index := 335) 0 (am_pay hts (am_tb_at 1519 (by decide +kernel) rfl)) (hts _ (am_tb_at 1519 (by decide +kernel) rfl)) rfl rfl rfl (hts _ (am_tb_at 126 (by decide +kernel) rfl)) (hts _ (am_tb_at 1516 (by decide +kernel) rfl)) ⟨by decide, by decide, by decide +kernel⟩ ⟨by decide, by decide⟩, hts _ (am_tb_at 1517 (by decide +kernel) rfl), hts _ (am_tb_at 1518 (by decide +kernel) rfl)⟩ (js_preV hJ hS (fun q h => Nat.le_trans hS.1 h)) rfl rfl hl.1 rfl (lv_room (Nat.le_of_ble_eq_true rfl)) ds_len_6 ⟨Nat.le_of_ble_eq_true rfl, Nat.le_of_ble_eq_true rfl⟩) hS (fun q _ h => Nat.le_trans hS.1 h) (fun q h => Nat.le_trans hS.1 h) (fun r0 u t H locs hte hvm hz _ hsz hkp hS => ?_)
  subst hz
  refine lv_ishr hx hb ds_len_9 ?_
  exact W.iret (v := 27) hx hb hr (fun t ht hW => ⟨⟨_, (), rfl, rfl, trivial⟩, hS.F ht⟩) hS.2.2 ds_len_10
set_option maxHeartbeats 1000000 in
theorem sj_chr (l : Launch) (i : Int32) (h0 : ¬ i < 0) (h1 : i < 27) (a b sz : Nat) : Met l yJ0_charAt_5068e (.code yJ0_charAt_5068e cJ0_charAt_5068e 2 (some .char) :: am_tb) (am_rm 4 0) (va_Pc [.ref a, .int i] (js_B a b sz)) (js_Q (am_by.getD i.toNatClampNeg 0) sz) 0 0 (js_A sz) := by
  refine Met.ofW (cc := cJ0_charAt_5068e) (maxL := 2) (ret := (some .char)) (by decide +kernel) rfl ?_
  intro p e s m args below meth c s₁ B hml hv2
  obtain ⟨rfl, rfl, hJ⟩ := hv2
  have hx := B.exec
  have hb := B.bytes
  have hr := B.returns
  have hlocks := B.notSynchronized
  have hts0 := atoms_spec (ws := (.code yJ0_charAt_5068e cJ0_charAt_5068e 2 (some .char) :: am_tb)) B.pre
  have hts := fun w (hw : w ∈ am_tb) => hts0 w (List.mem_cons_of_mem _ hw)
  have hown : s.vm.findClass yJ0_charAt_5068e.cls = some m.cls := findClass_of_methodNamed B.named
  have hS : va_S (js_A s.heap.size) s.heap s.heap [] := va_S.rf
  have hl := lv_entry ([.ref a, .int i]) (n := 2) (Nat.le_of_ble_eq_true rfl)
  rw [lg_entry_eq]
  generalize (lg_sl ([.ref a, .int i]) ++ List.replicate (2 - (lg_sl ([.ref a, .int i])).length) Slot.unset).toArray = ls at hl ⊢
  have hl : lv_has ls 2 [(0, .ref a), (1, .int i)] := hl
  refine lv_aload_n hx hb ds_chr_0 rfl (lv_at hl 0 rfl) ?_
  refine va_calli (va_runV (rest := []) ⟨hx, hb, hml, hown, hts⟩ (sj_isl l a b s.heap.size) ⟨am_callB (R := am_rm 4 0) (index := 492) 0 (am_pay hts (am_tb_at 1529 (by decide +kernel) rfl)) (hts _ (am_tb_at 1529 (by decide +kernel) rfl)) rfl rfl rfl (hts _ (am_tb_at 126 (by decide +kernel) rfl)) (hts _ (am_tb_at 1526 (by decide +kernel) rfl)) ⟨by decide, by decide, by decide +kernel⟩ ⟨by decide, by decide⟩, hts _ (am_tb_at 1527 (by decide +kernel) rfl), hts _ (am_tb_at 1528 (by decide +kernel) rfl)⟩ (js_preV hJ hS (fun q h => Nat.le_trans hS.1 h)) rfl rfl hl.1 rfl (lv_room (Nat.le_of_ble_eq_true rfl)) ds_chr_1 ⟨Nat.le_of_ble_eq_true rfl, Nat.le_of_ble_eq_true rfl⟩) hS (fun q _ h => Nat.le_trans hS.1 h) (fun q h => Nat.le_trans hS.1 h) (fun r0 u t H locs hte hvm hz _ hsz hkp hS => ?_)
  subst hz
  refine lv_if_eq (tgt := 16) hx hb ds_chr_4 rfl (fun q => absurd q (by decide)) (fun _ => ?_)
  refine lv_aload_n hx hb ds_chr_7 rfl (lv_at hl 0 rfl) ?_
  refine vk_getf hx hb hJ.2.2.1 hS hown (hts _ (am_tb_at 2067 (by decide +kernel) rfl)) (fun x h => h) ds_chr_8 ?_
  refine lv_iload_n hx hb ds_chr_11 rfl (lv_at hl 1 rfl) ?_
  refine va_calli (va_runS (rest := []) ⟨hx, hb, hml, hown, hts⟩ (sj_lat l i h0 h1 a b H.size) ⟨am_callB (R := am_rm 4 0) (index := 495) 2 (am_pay hts (am_tb_at 1532 (by decide +kernel) rfl)) (hts _ (am_tb_at 1532 (by decide +kernel) rfl)) rfl rfl rfl (hts _ (am_tb_at 127 (by decide +kernel) rfl)) (hts _ (am_tb_at 1530 (by decide +kernel) rfl)) ⟨by decide, by decide, by decide +kernel⟩ ⟨by decide, by decide⟩, hts _ (am_tb_at 1531 (by decide +kernel) rfl)⟩ (js_preS hJ hS) rfl rfl hl.1 rfl (lv_room (Nat.le_of_ble_eq_true rfl)) ds_chr_12 ⟨Nat.le_of_ble_eq_true rfl, Nat.le_of_ble_eq_true rfl⟩) hS (fun q _ h => Nat.le_trans hS.1 h) (fun q h => Nat.le_trans hS.1 h) (fun r0 u t H locs hte hvm hz _ hsz hkp hS => ?_)
  subst hz
  exact W.zret (v := am_by.getD i.toNatClampNeg 0) (ty := .char) hx hb hr (cW_b _ (js_in h0 h1).2).2 (fun t ht hW => ⟨⟨_, (), rfl, rfl, trivial⟩, hS.F ht⟩) hS.2.2 ds_chr_15
