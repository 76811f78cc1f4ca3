/-! the start -/
theorem A9_0 {b : Nat} {i : Int} (h : b ≠ 2 ∧ b ≠ 27 ∧ b ≠ 29) : A9 b i = 0 := by
  unfold A9 A8
  rw [setR_o h.2.2, setR_o h.2.1, fput_r h.1, fput_r h.1]
  unfold fillA
  rw [if_neg (fun q => h.1 q.1)]
theorem A9_2 {i : Int} : A9 2 i = if i = 3 then 4 else if i = 2 then 10 else 0 := by
  unfold A9 A8
  rw [setR_o (by decide), setR_o (by decide), fput_2 (by decide) (by decide), fput_2 (by decide) (by decide)]
  have e : fillA (fun _ _ => 0) 2 140 0 2 i = 0 := by unfold fillA; split <;> rfl
  rw [e]
theorem A9_27 {j : Int} (j0 : 0 ≤ j) (j1 : j < 16) : A9 27 j = 0 := by
  unfold A9
  rw [setR_o (by decide), setR_in j0 (by omega)]
theorem A9_29 {j : Int} (j0 : 0 ≤ j) (j1 : j < 124) : A9 29 j = if j = 122 then 10 else if j = 123 then 4 else 0 := by
  unfold A9
  rw [setR_in j0 (by omega), Int.sub_zero]
theorem A9_em : ∀ i, 0 ≤ i → i < 140 → A9 2 i = emR (fun _ => 0) i := fun i i0 i1 => by
  rw [A9_2]
  unfold emR up1
  by_cases z3 : i = 3
  · rw [if_pos z3, if_pos z3]
  · rw [if_neg z3, if_neg z3]
    by_cases z2 : i = 2
    · rw [if_pos z2, if_pos z2]
    · rw [if_neg z2, if_neg z2]
      show (0 : Int) = if 0 ≤ i ∧ i < 140 then 0 else 0
      exact (if_pos ⟨i0, i1⟩).symm
theorem A9_mF : A9 2 = mF A9 := mF_eq fun i i0 i1 => by
  rw [A9_em i i0 i1, em_ld (A := A9) i i0 i1]
  refine mF_i (fun j j0 j1 => ?_) (fun j j0 j1 => ?_) i0 i1
  · rw [A9_27 j0 j1]
    unfold ldA1
    rw [setR_o (by decide), setR_in j0 (by omega)]
  · rw [A9_29 j0 j1]
    unfold ldA1
    rw [setR_in j0 (by omega), Int.sub_zero]
theorem rel_start : REL F9 A9 := by
  have f : ∀ a b, (a ≠ 0 ∨ b ≠ 9) → (a ≠ 25 ∨ b ≠ 28) → F9 a b = 0 := fun a b h1 h2 => by
    unfold F9 F8
    rw [upF_o h2, upF_o h1]
  refine ⟨⟨A9_mF, fig_c (em_F (f := fun _ => 0)) A9_em⟩, ⟨?_, ?_, ?_, ?_⟩, ⟨⟨?_, ?_⟩, ?_, fun k k0 k1 => ?_⟩, ?_, ⟨fun c c0 c1 => ?_, fun j => ?_⟩, ?_, ?_, ?_⟩
  · rw [f 7 1 (by decide) (by decide)]; decide
  · rw [f 7 1 (by decide) (by decide), f 25 2 (by decide) (by decide)]
  · rw [f 7 1 (by decide) (by decide)]; intro i i0 i1; omega
  · intro i i0 i1; rw [A9_0 (by decide)]; decide
  · rw [f 5 1 (by decide) (by decide)]; decide
  · rw [f 5 2 (by decide) (by decide)]; decide
  · rw [f 25 8 (by decide) (by decide), f 5 2 (by decide) (by decide)]
  · rw [f 5 2 (by decide) (by decide)] at k1; omega
  · unfold F9 F8; rw [upF_s, upF_o (by decide), upF_s]
  · refine ⟨?_, ?_, fun h => ?_⟩
    · rw [A9_0 (by decide)]; decide
    · rw [A9_0 (by decide)]; decide
    · rw [A9_0 (by decide)] at h; omega
  · rw [A9_0 (by decide)]; decide
  · rw [f 7 6 (by decide) (by decide)]; decide
  · rw [f 25 27 (by decide) (by decide)]; decide
  · rw [f 25 24 (by decide) (by decide)]; decide
theorem wL_eq (al9 : Nat → Nat) (kC : Nat → ClassId) (b q43 : Nat) : am_ws al9 kC layM F9 A9 ++ ([(q43, .inl (kC 1, 1, .inr (.inl fun _ => 0)))] : va_W) = am_ws (fun k => if k = 999 then b else if k = 43 then q43 else al9 k) kC layL F9 A9 := by
  rw [am_ws_wl, am_ws_wl]
  rfl
theorem start_str {args : Array Value} {s : State} (hgv : (Jvm.Cond.and given_1 narrow_1).before args s = true) : (∃ a, (Term.string RX8 354).eval args s none [] s = some (.ref a)) ∧ (∃ a, (Term.string RX8 359).eval args s none [] s = some (.ref a)) := by
  have hs := flat_of_before _ hgv
  have h1 : (Cond.exactly (.string RX8 354) "java/lang/String").before args s = true := hs _ (by decide +kernel)
  have h2 : (Cond.exactly (.string RX8 359) "java/lang/String").before args s = true := hs _ (by decide +kernel)
  obtain ⟨a1, c, cA, kA, q1, -⟩ := Cond.exactly_spec (args := args) (first := s) (o := none) (s := s) (idx := []) (t := .string RX8 354) (cls := "java/lang/String") h1
  obtain ⟨a2, c, cA, kA, q2, -⟩ := Cond.exactly_spec (args := args) (first := s) (o := none) (s := s) (idx := []) (t := .string RX8 359) (cls := "java/lang/String") h2
  exact ⟨⟨a1, q1⟩, a2, q2⟩
theorem start_by {args : Array Value} {s : State} (hgv : (Jvm.Cond.and given_1 narrow_1).before args s = true) : ∀ j : Nat, j < 27 → (Cond.eq (.elem (.field (.string RX9 221) "java/lang/String" "value" "[B") (.int (Int32.ofNat j))) (.int (am_by.getD j 0))).before args s = true := by
  have hs := flat_of_before _ hgv
  intro j hj
  match j, hj with
  | 0, _ => exact hs _ (by decide +kernel)
  | 1, _ => exact hs _ (by decide +kernel)
  | 2, _ => exact hs _ (by decide +kernel)
  | 3, _ => exact hs _ (by decide +kernel)
  | 4, _ => exact hs _ (by decide +kernel)
  | 5, _ => exact hs _ (by decide +kernel)
  | 6, _ => exact hs _ (by decide +kernel)
  | 7, _ => exact hs _ (by decide +kernel)
  | 8, _ => exact hs _ (by decide +kernel)
  | 9, _ => exact hs _ (by decide +kernel)
  | 10, _ => exact hs _ (by decide +kernel)
  | 11, _ => exact hs _ (by decide +kernel)
  | 12, _ => exact hs _ (by decide +kernel)
  | 13, _ => exact hs _ (by decide +kernel)
  | 14, _ => exact hs _ (by decide +kernel)
  | 15, _ => exact hs _ (by decide +kernel)
  | 16, _ => exact hs _ (by decide +kernel)
  | 17, _ => exact hs _ (by decide +kernel)
  | 18, _ => exact hs _ (by decide +kernel)
  | 19, _ => exact hs _ (by decide +kernel)
  | 20, _ => exact hs _ (by decide +kernel)
  | 21, _ => exact hs _ (by decide +kernel)
  | 22, _ => exact hs _ (by decide +kernel)
  | 23, _ => exact hs _ (by decide +kernel)
  | 24, _ => exact hs _ (by decide +kernel)
  | 25, _ => exact hs _ (by decide +kernel)
  | 26, _ => exact hs _ (by decide +kernel)
  | n + 27, h => omega
theorem start_S {args : Array Value} {s : State} (hgv : (Jvm.Cond.and given_1 narrow_1).before args s = true) (hts : ∀ w ∈ lw_tbl, w.before args s = true) : am_S (fun q => s.heap.size ≤ q) s s.heap := by
  have hs := flat_of_before _ hgv
  have hA : ∀ a : Nat, a < s.heap.size → ¬ s.heap.size ≤ a := fun a h => Nat.not_le.mpr h
  have n0 : ∀ i : Nat, i < 1 → i = 0 := fun i h => by omega
  obtain ⟨adK, adV, ⟨h1, -⟩, h2⟩ := vk_Sof (args := args) (s := s) (N := 1) (tm := fun _ => .string RX9 221) (len := [27]) (byt := [am_by]) (A := fun q => s.heap.size ≤ q)
    (fun i hi => by rw [n0 i hi]; decide) (fun i hi => hs _ (by decide +kernel)) (fun i hi => hs _ (by decide +kernel)) (fun i hi => hs _ (by decide +kernel)) (fun i hi => by rw [n0 i hi]; exact hs _ (by decide +kernel))
    (fun i hi j hj => by rw [n0 i hi] at hj ⊢; exact start_by hgv j hj) (fun i j hi hj hij => absurd ((n0 i hi).trans (n0 j hj).symm) hij) hA
  obtain ⟨o1, o2, o3, o4⟩ := h1 0 (by decide)
  refine ⟨adK 0, adV 0, vk_R.of (hts _ (List.mem_of_getElem? (i := 1511) (by decide +kernel))) (h2 0 (by decide)), o1, o2, o3, o4, ?_, ?_⟩
  · exact va_Zof (hts _ (List.mem_of_getElem? (i := 1521) (by decide +kernel))) (hts _ (List.mem_of_getElem? (i := 126) (by decide +kernel))) (va_eqi (hs _ (by decide +kernel))) hA
  · exact va_Zqof (hts _ (List.mem_of_getElem? (i := 1537) (by decide +kernel))) (hts _ (List.mem_of_getElem? (i := 128) (by decide +kernel))) (hs _ (by decide +kernel)) hA
theorem start_Z {args : Array Value} {s : State} (hgv : (Jvm.Cond.and given_1 narrow_1).before args s = true) (hts : ∀ w ∈ lw_tbl, w.before args s = true) : am_Z (fun q => s.heap.size ≤ q) s s.heap := by
  have hs := flat_of_before _ hgv
  have hA : ∀ a : Nat, a < s.heap.size → ¬ s.heap.size ≤ a := fun a h => Nat.not_le.mpr h
  obtain ⟨⟨a1, q1⟩, a2, q2⟩ := start_str hgv
  refine ⟨?_, ?_, ⟨a1, vk_R.of (hts _ (List.mem_of_getElem? (i := 884) (by decide +kernel))) q1⟩, ⟨a2, vk_R.of (hts _ (List.mem_of_getElem? (i := 928) (by decide +kernel))) q2⟩, start_S hgv hts⟩
  · exact vx_Zqof (hts _ (List.mem_of_getElem? (i := 872) (by decide +kernel))) (hts _ (List.mem_of_getElem? (i := 130) (by decide +kernel))) (hs _ (by decide +kernel)) hA
  · exact vx_Zqof (hts _ (List.mem_of_getElem? (i := 874) (by decide +kernel))) (hts _ (List.mem_of_getElem? (i := 130) (by decide +kernel))) (hs _ (by decide +kernel)) hA
theorem start_flags {l : Launch} (h : l.flags = flags0) : l.stackTraces = false := by
  rw [show l.stackTraces = !l.flags.contains Jvm.noTraceFlag from rfl, h]
  decide +kernel
theorem start_K {args : Array Value} {s : State} (htb : ∀ w ∈ am_tb, w.before args s = true) : ∃ (D : va_G) (kC : Nat → ClassId), va_K D vwCl (am_tys kC) s := by
  obtain ⟨c0, iS0, hKn0⟩ := u_known (C := RX0) (T := TX0) (N := 6) (n := 6) htb qwX0 (htb _ (am_tb_at 291 (by decide +kernel) rfl))
  obtain ⟨c1, iS1, hKn1⟩ := u_known (C := RX1) (T := TX1) (N := 4) (n := 4) htb qwX1 (htb _ (am_tb_at 205 (by decide +kernel) rfl))
  obtain ⟨c2, iS2, hKn2⟩ := u_known (C := RX2) (T := TX2) (N := 1) (n := 1) htb qwX2 (htb _ (am_tb_at 146 (by decide +kernel) rfl))
  obtain ⟨c3, iS3, hKn3⟩ := u_known (C := RX3) (T := TX3) (N := 3) (n := 3) htb qwX3 (htb _ (am_tb_at 157 (by decide +kernel) rfl))
  obtain ⟨c4, iS4, hKn4⟩ := u_known (C := RX4) (T := TX4) (N := 2) (n := 2) htb qwX4 (htb _ (am_tb_at 278 (by decide +kernel) rfl))
  obtain ⟨c5, iS5, hKn5⟩ := u_known (C := RX5) (T := TX5) (N := 6) (n := 6) htb qwX5 (htb _ (am_tb_at 225 (by decide +kernel) rfl))
  obtain ⟨c6, iS6, hKn6⟩ := u_known (C := RX6) (T := TX6) (N := 7) (n := 7) htb qwX6 (htb _ (am_tb_at 250 (by decide +kernel) rfl))
  obtain ⟨c7, iS7, hKn7⟩ := u_known (C := RX7) (T := TX7) (N := 8) (n := 8) htb qwX7 (htb _ (am_tb_at 173 (by decide +kernel) rfl))
  obtain ⟨c8, iS8, hKn8⟩ := u_known (C := RX8) (T := TX8) (N := 10) (n := 10) htb qwX8 (htb _ (am_tb_at 138 (by decide +kernel) rfl))
  obtain ⟨c9, iS9, hKn9⟩ := u_known (C := RX9) (T := TX9) (N := 33) (n := 33) htb qwX9 (htb _ (am_tb_at 1371 (by decide +kernel) rfl))
  obtain ⟨a0, kA0, cm0, f0, g0, h0⟩ := Cond.arrayClass_spec (type := .int) (htb _ (am_tb_at 155 (by decide +kernel) rfl))
  obtain ⟨a1, kA1, cm1, f1, g1, h1⟩ := Cond.arrayClass_spec (type := .long) (htb _ (am_tb_at 223 (by decide +kernel) rfl))
  obtain ⟨a2, kA2, cm2, f2, g2, h2⟩ := Cond.arrayClass_spec (type := .byte) (htb _ (am_tb_at 203 (by decide +kernel) rfl))
  obtain ⟨a3, kA3, cm3, f3, g3, h3⟩ := Cond.arrayClass_spec (type := .boolean) (htb _ (am_tb_at 1480 (by decide +kernel) rfl))
  refine ⟨(fun k => match k with
    | 0 => c0
    | 1 => c1
    | 2 => c2
    | 3 => c3
    | 4 => c4
    | 5 => c5
    | 6 => c6
    | 7 => c7
    | 8 => c8
    | _ => c9, fun k => match k with
    | 0 => iS0
    | 1 => iS1
    | 2 => iS2
    | 3 => iS3
    | 4 => iS4
    | 5 => iS5
    | 6 => iS6
    | 7 => iS7
    | 8 => iS8
    | _ => iS9), fun k => match k with
    | 0 => a0
    | 1 => a1
    | 2 => a2
    | _ => a3, fun k q hq => ?_, fun k q hq => ?_⟩
  · match k, hq with
    | 0, hq => cases hq; exact hKn0
    | 1, hq => cases hq; exact hKn1
    | 2, hq => cases hq; exact hKn2
    | 3, hq => cases hq; exact hKn3
    | 4, hq => cases hq; exact hKn4
    | 5, hq => cases hq; exact hKn5
    | 6, hq => cases hq; exact hKn6
    | 7, hq => cases hq; exact hKn7
    | 8, hq => cases hq; exact hKn8
    | 9, hq => cases hq; exact hKn9
    | k + 10, hq => simp [vwCl] at hq
  · match k, hq with
    | 0, hq => cases hq; exact ⟨fun n z => ⟨fun k h => (by cases h), kA0, g0, cm0, h0⟩, f0⟩
    | 1, hq => cases hq; exact ⟨fun n z => ⟨fun k h => (by cases h), kA1, g1, cm1, h1⟩, f1⟩
    | 2, hq => cases hq; exact ⟨fun n z => ⟨fun k h => (by cases h), kA2, g2, cm2, h2⟩, f2⟩
    | 3, hq => cases hq; exact ⟨fun n z => ⟨fun k h => (by cases h), kA3, g3, cm3, h3⟩, f3⟩
    | k + 4, hq => simp [am_tys] at hq
set_option maxHeartbeats 4000000 in
set_option maxRecDepth 100000 in
theorem whole_start {p : Program} {e : Env} {s : State} {m : MethodId} {below : List Frame} {meth : Method} {c : Code} (l : Launch) (hflags : l.flags = flags0) {b L : Nat} {xs : Nat → Int32} (hL : L ≤ 3072) (C0 : lw_At p s m meth c b L xs) : W p l e room_1 s m #[Value.ref b] below meth c s.heap [] 0 0 (lw_Z below #[Value.ref b] s) (entryFrame m ([Value.ref b] : List Value).toArray 8) := by
  obtain ⟨hx, hb, hr, hml, hown, hts, hX, hbl, hlocks, hgv⟩ := id C0
  have hst := start_flags hflags
  have htb : ∀ w ∈ am_tb, w.before #[Value.ref b] s = true := fun w hw => hts w (List.mem_filter.mp hw).1
  obtain ⟨D, kC, hK⟩ := start_K htb
  have hZ := start_Z hgv hts
  have hA : ∀ q : Nat, s.heap.size ≤ q → lawA s q := fun _ h => h
  have hS : va_S (lawA s) s.heap s.heap [] := va_S.rf
  have hP : va_P D vwCl [] s.heap := fun k q h => by simp at h
  have hD : va_D (lawA s) [] := ⟨fun i j p q h => by simp at h, fun k q h => by simp at h⟩
  have hl := lv_entry ([.ref b]) (n := 8) (Nat.le_of_ble_eq_true rfl)
  rw [lg_entry_eq]
  generalize (lg_sl ([.ref b]) ++ List.replicate (8 - (lg_sl ([.ref b])).length) Slot.unset).toArray = ls at hl ⊢
  have hl : lv_has ls 8 [(0, .ref b)] := hl
  refine va_new (ci := 8) (fs := [.null, .null, .null, .null, .null, .null, .null, .null, .null, .int 0]) (C := RX8) (T := TX8) (N := 10) hx hb htb qwX8 tyX8 tyX8_ok hown (htb _ (am_tb_at 137 (by decide +kernel) rfl)) (htb _ (am_tb_at 138 (by decide +kernel) rfl)) (htb _ (am_tb_at 114 (by decide +kernel) rfl)) hK hP hD hS hA rfl (fun j hj => by rcases (show j = 0 ∨ j = 1 ∨ j = 2 ∨ j = 3 ∨ j = 4 ∨ j = 5 ∨ j = 6 ∨ j = 7 ∨ j = 8 ∨ j = 9 by omega) with rfl | rfl | rfl | rfl | rfl | rfl | rfl | rfl | rfl | rfl <;> rfl) (Nat.le_of_ble_eq_true rfl) (Nat.le_of_ble_eq_true rfl) (show decode cL_law 0 = .ok (.new 8, 3) by decide +kernel) (fun q0 H hP hD hS => ?_)
  have hP : va_P D vwCl [(q0, .inr (8, [.null, .null, .null, .null, .null, .null, .null, .null, .null, .int 0]))] H := hP
  have hD : va_D (lawA s) [(q0, .inr (8, [.null, .null, .null, .null, .null, .null, .null, .null, .null, .int 0]))] := hD
  refine lv_dup hx hb (show decode cL_law 3 = .ok (.dup, 1) by decide +kernel) rfl ?_
  have hFc : ∀ q, va_A [(q0, .inr (8, [.null, .null, .null, .null, .null, .null, .null, .null, .null, .int 0]))] H.size q → lawA s q := va_free (wc := [(q0, .inr (8, [.null, .null, .null, .null, .null, .null, .null, .null, .null, .int 0]))]) hD hS hA [0] rfl
  refine va_callv (va_runI (As := []) (rest := [.ref q0]) ⟨hx, hb, hml, hown, htb⟩ (cn_X8 l D kC q0 H.size) ⟨am_callB (R := room_1) (index := 128) 0 (am_pay htb (am_tb_at 141 (by decide +kernel) rfl)) (htb _ (am_tb_at 141 (by decide +kernel) rfl)) rfl rfl rfl (htb _ (am_tb_at 114 (by decide +kernel) rfl)) (htb _ (am_tb_at 139 (by decide +kernel) rfl)) ⟨by decide +kernel, by decide +kernel, by decide +kernel⟩ ⟨by decide, by decide⟩, rfl, htb _ (am_tb_at 140 (by decide +kernel) rfl)⟩ ⟨cn_blind, fun U hU hW => ⟨rfl, by rw [hU], by rw [hU]; exact hP, va_K.moved hW.alike hK, hD.weaken (fun _ _ _ _ => trivial)⟩⟩ rfl rfl hl.1 rfl (lv_room (Nat.le_of_ble_eq_true rfl)) (show decode cL_law 4 = .ok (.invokespecial 128, 3) by decide +kernel) ⟨(Nat.le_of_ble_eq_true rfl), (Nat.le_of_ble_eq_true rfl)⟩) hS (fun q _ h => hFc q h) hFc (fun al8 t H1 locs ht hvm h80 hB hz1 hk1 hS => ?_)
  obtain ⟨hP, hdis8⟩ := hB
  rw [ht] at hP
  have hD : va_D (lawA s) (am_ws al8 kC layX F8 A8) := am_dis_D ⟨hdis8.1, fun i hi => hFc _ (hdis8.2 i hi)⟩ F8 A8
  generalize H1 = H at hP hS ⊢
  refine lv_astore_n hx hb (show decode cL_law 7 = .ok (.astore_n 1, 1) by decide +kernel) rfl hl (by decide) rfl (fun ls hl => ?_)
  have hl : lv_has ls 8 [(1, .ref q0), (0, .ref b)] := hl
  refine va_new (ci := 9) (fs := [.int 0, .null, .int 0, .null, .null, .null, .null, .null, .int 0, .null, .null, .null, .int 0, .null, .null, .null, .null, .null, .null, .null, .int 0, .int 0, .int 0, .int 0, .int 0, .int 0, .int 0, .int 0, .int 0, .int 0, .int 0, .int 0, .null]) (C := RX9) (T := TX9) (N := 33) hx hb htb qwX9 tyX9 tyX9_ok hown (htb _ (am_tb_at 1370 (by decide +kernel) rfl)) (htb _ (am_tb_at 1371 (by decide +kernel) rfl)) (htb _ (am_tb_at 124 (by decide +kernel) rfl)) hK hP hD hS hA rfl (fun j hj => by rcases (show j = 0 ∨ j = 1 ∨ j = 2 ∨ j = 3 ∨ j = 4 ∨ j = 5 ∨ j = 6 ∨ j = 7 ∨ j = 8 ∨ j = 9 ∨ j = 10 ∨ j = 11 ∨ j = 12 ∨ j = 13 ∨ j = 14 ∨ j = 15 ∨ j = 16 ∨ j = 17 ∨ j = 18 ∨ j = 19 ∨ j = 20 ∨ j = 21 ∨ j = 22 ∨ j = 23 ∨ j = 24 ∨ j = 25 ∨ j = 26 ∨ j = 27 ∨ j = 28 ∨ j = 29 ∨ j = 30 ∨ j = 31 ∨ j = 32 by omega) with rfl | rfl | rfl | rfl | rfl | rfl | rfl | rfl | rfl | rfl | rfl | rfl | rfl | rfl | rfl | rfl | rfl | rfl | rfl | rfl | rfl | rfl | rfl | rfl | rfl | rfl | rfl | rfl | rfl | rfl | rfl | rfl | rfl <;> rfl) (Nat.le_of_ble_eq_true rfl) (Nat.le_of_ble_eq_true rfl) (show decode cL_law 8 = .ok (.new 129, 3) by decide +kernel) (fun q25 H hP hD hS => ?_)
  refine lv_dup hx hb (show decode cL_law 11 = .ok (.dup, 1) by decide +kernel) rfl ?_
  have hFc : ∀ q, va_A (am_ws al8 kC layX F8 A8 ++ [(q25, .inr (9, [.int 0, .null, .int 0, .null, .null, .null, .null, .null, .int 0, .null, .null, .null, .int 0, .null, .null, .null, .null, .null, .null, .null, .int 0, .int 0, .int 0, .int 0, .int 0, .int 0, .int 0, .int 0, .int 0, .int 0, .int 0, .int 0, .null]))]) H.size q → lawA s q := fun q h => by
    rcases h with ⟨k, e9, h⟩ | h
    · exact hD.2 k _ h
    · exact Nat.le_trans hS.1 h
  refine va_callv (va_runI (As := []) (rest := [.ref q25]) ⟨hx, hb, hml, hown, htb⟩ (cn_X9 l D kC q25 H.size al8) ⟨am_callB (R := room_1) (index := 131) 0 (am_pay htb (am_tb_at 1374 (by decide +kernel) rfl)) (htb _ (am_tb_at 1374 (by decide +kernel) rfl)) rfl rfl rfl (htb _ (am_tb_at 124 (by decide +kernel) rfl)) (htb _ (am_tb_at 1372 (by decide +kernel) rfl)) ⟨by decide +kernel, by decide +kernel, by decide +kernel⟩ ⟨by decide, by decide⟩, rfl, htb _ (am_tb_at 1373 (by decide +kernel) rfl)⟩ ⟨cn_blind, fun U hU hW => ⟨rfl, by rw [hU], by rw [hU]; exact hP, va_K.moved hW.alike hK, hD.weaken (fun _ _ _ _ => trivial)⟩⟩ rfl rfl hl.1 rfl (lv_room (Nat.le_of_ble_eq_true rfl)) (show decode cL_law 12 = .ok (.invokespecial 131, 3) by decide +kernel) ⟨(Nat.le_of_ble_eq_true rfl), (Nat.le_of_ble_eq_true rfl)⟩) hS (fun q _ h => hFc q h) hFc (fun al9 t H1 locs ht hvm h90 hB hz1 hk1 hS => ?_)
  obtain ⟨hP, hdis9⟩ := hB
  rw [ht] at hP
  have hD : va_D (lawA s) (am_ws al9 kC layM F9 A9) := am_dis_D ⟨hdis9.1, fun i hi => hFc _ (hdis9.2 i hi)⟩ F9 A9
  generalize H1 = H at hP hS ⊢
  refine lv_astore_n hx hb (show decode cL_law 15 = .ok (.astore_n 2, 1) by decide +kernel) rfl hl (by decide) rfl (fun ls hl => ?_)
  have hl : lv_has ls 8 [(2, .ref q25), (1, .ref q0), (0, .ref b)] := hl
  refine lv_iconst (v := 1) hx hb (show decode cL_law 16 = .ok (.iconst 1, 1) by decide +kernel) (by decide) ?_
  refine cn_newa (atype := .long) (a0 := (1, .inr (.inl fun _ => 0))) hx hb (htb _ (am_tb_at 223 (by decide +kernel) rfl)) rfl hK 1 rfl hP hD hS hA (fun _ => rfl) (by decide) rfl (Nat.le_of_ble_eq_true rfl) (Nat.le_of_ble_eq_true rfl) (Nat.le_of_ble_eq_true rfl) (show decode cL_law 17 = .ok (.newarray .long, 2) by decide +kernel) (fun q43 H hP hD hS => ?_)
  refine lv_astore_n hx hb (show decode cL_law 19 = .ok (.astore_n 3, 1) by decide +kernel) rfl hl (by decide) rfl (fun ls hl => ?_)
  have hl : lv_has ls 8 [(3, .ref q43), (2, .ref q25), (1, .ref q0), (0, .ref b)] := hl
  refine lv_iconst (v := 0) hx hb (show decode cL_law 20 = .ok (.iconst 0, 1) by decide +kernel) (by decide) ?_
  refine lv_istore hx hb (show decode cL_law 21 = .ok (.istore 4, 2) by decide +kernel) hl (by decide) rfl (fun ls hl => ?_)
  have hl : lv_has ls 8 [(4, .int 0), (3, .ref q43), (2, .ref q25), (1, .ref q0), (0, .ref b)] := hl
  rw [wL_eq al9 kC b q43] at hP hD
  obtain ⟨al, hal⟩ : ∃ al : Nat → Nat, al = (fun k => if k = 999 then b else if k = 43 then q43 else al9 k) := ⟨_, rfl⟩
  rw [← hal] at hP hD
  have hdis := am_D_dis hD
  have a0 : al 0 = q0 := by rw [hal]; exact h90.1.trans h80
  have a25 : al 25 = q25 := by rw [hal]; exact h90.2
  have a43 : al 43 = q43 := by rw [hal]; rfl
  have a9 : al 999 = b := by rw [hal]; rfl
  have hE : lawE p s m meth c b L xs D al kC := ⟨C0, hK, hdis, a9, hZ⟩
  have hLR : am_LR al ls 8 (lawS 0) := ⟨rfl, hl.1, hl.2.1, fun i v hi => by
    match i, hi with
    | 0, hi => cases hi; rw [lv_at hl 4 rfl]; show _ = some (Slot.val (Value.ref (al 999))); rw [a9]
    | 1, hi => cases hi; rw [lv_at hl 3 rfl]; show _ = some (Slot.val (Value.ref (al 0))); rw [a0]
    | 2, hi => cases hi; rw [lv_at hl 2 rfl]; show _ = some (Slot.val (Value.ref (al 25))); rw [a25]
    | 3, hi => cases hi; rw [lv_at hl 1 rfl]; show _ = some (Slot.val (Value.ref (al 43))); rw [a43]
    | 4, hi => cases hi; rw [lv_at hl 0 rfl]; rfl
    | 5, hi => cases hi
    | 6, hi => cases hi
    | 7, hi => cases hi
    | n + 8, hi => simp at hi⟩
  refine W.widen (k := 44) (n := 43891) (Nat.le_of_ble_eq_true rfl) (Nat.le_of_ble_eq_true rfl) ?_
  exact law_loop l hst hE hL 513 44 43891 0 F9 A9 (by omega) (by omega) (by omega) (by omega) (by omega) rel_start (Nat.zero_le _) H locs ls hLR hP hS
