theorem dk_L_put_0 : decode cL_put 0 = .ok (.aload_n 1, 1) := by decide +kernel
theorem dk_L_put_1 : decode cL_put 1 = .ok (.astore_n 2, 1) := by decide +kernel
theorem dk_L_put_2 : decode cL_put 2 = .ok (.aload_n 2, 1) := by decide +kernel
theorem dk_L_put_3 : decode cL_put 3 = .ok (.invokevirtual 8, 3) := by decide +kernel
theorem dk_L_put_6 : decode cL_put 6 = .ok (.bipush 20, 2) := by decide +kernel
theorem dk_L_put_8 : decode cL_put 8 = .ok (.irem, 1) := by decide +kernel
theorem dk_L_put_9 : decode cL_put 9 = .ok (.ifCond .eq 26, 3) := by decide +kernel
theorem dk_L_put_12 : decode cL_put 12 = .ok (.new 14, 3) := by decide +kernel
theorem dk_L_put_15 : decode cL_put 15 = .ok (.dup, 1) := by decide +kernel
theorem dk_L_put_16 : decode cL_put 16 = .ok (.invokespecial 16, 3) := by decide +kernel
theorem dk_L_put_19 : decode cL_put 19 = .ok (.aload_n 2, 1) := by decide +kernel
theorem dk_L_put_20 : decode cL_put 20 = .ok (.invokevirtual 17, 3) := by decide +kernel
theorem dk_L_put_23 : decode cL_put 23 = .ok (.ldc 21, 2) := by decide +kernel
theorem dk_L_put_25 : decode cL_put 25 = .ok (.invokevirtual 17, 3) := by decide +kernel
theorem dk_L_put_28 : decode cL_put 28 = .ok (.invokevirtual 23, 3) := by decide +kernel
theorem dk_L_put_31 : decode cL_put 31 = .ok (.astore_n 2, 1) := by decide +kernel
theorem dk_L_put_32 : decode cL_put 32 = .ok (.goto (-30), 3) := by decide +kernel
theorem dk_L_put_35 : decode cL_put 35 = .ok (.iconst 0, 1) := by decide +kernel
theorem dk_L_put_36 : decode cL_put 36 = .ok (.istore_n 3, 1) := by decide +kernel
theorem dk_L_put_37 : decode cL_put 37 = .ok (.iload_n 3, 1) := by decide +kernel
theorem dk_L_put_38 : decode cL_put 38 = .ok (.aload_n 2, 1) := by decide +kernel
theorem dk_L_put_39 : decode cL_put 39 = .ok (.invokevirtual 8, 3) := by decide +kernel
theorem dk_L_put_42 : decode cL_put 42 = .ok (.if_icmp .ge 84, 3) := by decide +kernel
theorem dk_L_put_45 : decode cL_put 45 = .ok (.iconst 5, 1) := by decide +kernel
theorem dk_L_put_46 : decode cL_put 46 = .ok (.newarray .int, 2) := by decide +kernel
theorem dk_L_put_48 : decode cL_put 48 = .ok (.astore 4, 2) := by decide +kernel
theorem dk_L_put_50 : decode cL_put 50 = .ok (.iconst 0, 1) := by decide +kernel
theorem dk_L_put_51 : decode cL_put 51 = .ok (.istore 5, 2) := by decide +kernel
theorem dk_L_put_53 : decode cL_put 53 = .ok (.iload 5, 2) := by decide +kernel
theorem dk_L_put_55 : decode cL_put 55 = .ok (.bipush 20, 2) := by decide +kernel
theorem dk_L_put_57 : decode cL_put 57 = .ok (.if_icmp .ge 38, 3) := by decide +kernel
theorem dk_L_put_60 : decode cL_put 60 = .ok (.aload 4, 2) := by decide +kernel
theorem dk_L_put_62 : decode cL_put 62 = .ok (.iload 5, 2) := by decide +kernel
theorem dk_L_put_64 : decode cL_put 64 = .ok (.iconst 4, 1) := by decide +kernel
theorem dk_L_put_65 : decode cL_put 65 = .ok (.idiv, 1) := by decide +kernel
theorem dk_L_put_66 : decode cL_put 66 = .ok (.dup2, 1) := by decide +kernel
theorem dk_L_put_67 : decode cL_put 67 = .ok (.iaload, 1) := by decide +kernel
theorem dk_L_put_68 : decode cL_put 68 = .ok (.aload_n 2, 1) := by decide +kernel
theorem dk_L_put_69 : decode cL_put 69 = .ok (.iload_n 3, 1) := by decide +kernel
theorem dk_L_put_70 : decode cL_put 70 = .ok (.iload 5, 2) := by decide +kernel
theorem dk_L_put_72 : decode cL_put 72 = .ok (.iadd, 1) := by decide +kernel
theorem dk_L_put_73 : decode cL_put 73 = .ok (.invokevirtual 27, 3) := by decide +kernel
theorem dk_L_put_76 : decode cL_put 76 = .ok (.bipush 24, 2) := by decide +kernel
theorem dk_L_put_78 : decode cL_put 78 = .ok (.bipush 8, 2) := by decide +kernel
theorem dk_L_put_80 : decode cL_put 80 = .ok (.iload 5, 2) := by decide +kernel
theorem dk_L_put_82 : decode cL_put 82 = .ok (.iconst 4, 1) := by decide +kernel
theorem dk_L_put_83 : decode cL_put 83 = .ok (.irem, 1) := by decide +kernel
theorem dk_L_put_84 : decode cL_put 84 = .ok (.imul, 1) := by decide +kernel
theorem dk_L_put_85 : decode cL_put 85 = .ok (.isub, 1) := by decide +kernel
theorem dk_L_put_86 : decode cL_put 86 = .ok (.ishl, 1) := by decide +kernel
theorem dk_L_put_87 : decode cL_put 87 = .ok (.ior, 1) := by decide +kernel
theorem dk_L_put_88 : decode cL_put 88 = .ok (.iastore, 1) := by decide +kernel
theorem dk_L_put_89 : decode cL_put 89 = .ok (.iinc 5 1, 3) := by decide +kernel
theorem dk_L_put_92 : decode cL_put 92 = .ok (.goto (-39), 3) := by decide +kernel
theorem dk_L_put_95 : decode cL_put 95 = .ok (.aload_n 0, 1) := by decide +kernel
theorem dk_L_put_96 : decode cL_put 96 = .ok (.aload 4, 2) := by decide +kernel
theorem dk_L_put_98 : decode cL_put 98 = .ok (.iconst 0, 1) := by decide +kernel
theorem dk_L_put_99 : decode cL_put 99 = .ok (.iaload, 1) := by decide +kernel
theorem dk_L_put_100 : decode cL_put 100 = .ok (.aload 4, 2) := by decide +kernel
theorem dk_L_put_102 : decode cL_put 102 = .ok (.iconst 1, 1) := by decide +kernel
theorem dk_L_put_103 : decode cL_put 103 = .ok (.iaload, 1) := by decide +kernel
theorem dk_L_put_104 : decode cL_put 104 = .ok (.aload 4, 2) := by decide +kernel
theorem dk_L_put_106 : decode cL_put 106 = .ok (.iconst 2, 1) := by decide +kernel
theorem dk_L_put_107 : decode cL_put 107 = .ok (.iaload, 1) := by decide +kernel
theorem dk_L_put_108 : decode cL_put 108 = .ok (.aload 4, 2) := by decide +kernel
theorem dk_L_put_110 : decode cL_put 110 = .ok (.iconst 3, 1) := by decide +kernel
theorem dk_L_put_111 : decode cL_put 111 = .ok (.iaload, 1) := by decide +kernel
theorem dk_L_put_112 : decode cL_put 112 = .ok (.aload 4, 2) := by decide +kernel
theorem dk_L_put_114 : decode cL_put 114 = .ok (.iconst 4, 1) := by decide +kernel
theorem dk_L_put_115 : decode cL_put 115 = .ok (.iaload, 1) := by decide +kernel
theorem dk_L_put_116 : decode cL_put 116 = .ok (.invokevirtual 31, 3) := by decide +kernel
theorem dk_L_put_119 : decode cL_put 119 = .ok (.pop, 1) := by decide +kernel
theorem dk_L_put_120 : decode cL_put 120 = .ok (.iinc 3 20, 3) := by decide +kernel
theorem dk_L_put_123 : decode cL_put 123 = .ok (.goto (-86), 3) := by decide +kernel
theorem dk_L_put_126 : decode cL_put 126 = .ok (.return_, 1) := by decide +kernel
theorem sk_feed (l : Launch) (D : va_G) (al : Nat → Nat) (kC : Nat → ClassId) (F : FF) (A : AA) (w0 w1 w2 w3 w4 : Int32) (h : 0 ≤ F 7 1 ∧ F 7 1 ≤ 780) (sz : Nat) : Met l yX8_feed (.code yX8_feed cX8_feed 6 (some .int) :: am_tb) (am_rm 4 0) (va_Pc [.ref (al 0), .int w0, .int w1, .int w2, .int w3, .int w4] (am_B 0 none D al kC layX F A sz)) (va_Qi (S := Int × FF × AA) (fun r u => r = Int32.ofInt u.1 ∧ u.2.1 = upF F 7 1 (F 7 1 + 20) ∧ u.2.2 = setR A 8 (F 7 1) 20 (fdF w0.toInt w1.toInt w2.toInt w3.toInt w4.toInt)) (fun u t => va_P D vwCl (am_ws al kC layX u.2.1 u.2.2) t.heap) (va_A (am_ws al kC layX F A) sz)) 0 0 (va_A (am_ws al kC layX F A) sz) := by
  have h1 := qtX8_feed l layX (List.prefix_refl _) D al kC [vR 0, vI w0.toInt, vI w1.toInt, vI w2.toInt, vI w3.toInt, vI w4.toInt] F A (fun o F1 A1 => F1 = upF F 7 1 (F 7 1 + 20) ∧ A1 = setR A 8 (F 7 1) 20 (fdF w0.toInt w1.toInt w2.toInt w3.toInt w4.toInt)) sz ⟨⟨h.1, by omega⟩, fun G B hGB => ⟨(hGB.1 h.2).1, (hGB.1 h.2).2⟩⟩
  have h2 : (([vR 0, vI w0.toInt, vI w1.toInt, vI w2.toInt, vI w3.toInt, vI w4.toInt] : List AV).map (am_cv al)) = [.ref (al 0), .int w0, .int w1, .int w2, .int w3, .int w4] := by
    show [Value.ref (al 0), .int (Int32.ofInt w0.toInt), .int (Int32.ofInt w1.toInt), .int (Int32.ofInt w2.toInt), .int (Int32.ofInt w3.toInt), .int (Int32.ofInt w4.toInt)] = _
    simp only [Int32.ofInt_toInt]
  rw [h2] at h1
  exact h1
/-- a class's method on its own cells: the start of a call -/
theorem wa_V {D : va_G} {al : Nat → Nat} {kC : Nat → ClassId} {F : FF} {A : AA} {s : State} {H : Heap} {av : List Value} {As : Nat → Prop} {C : String} {o : Nat} (hr : ∃ cell : Cell, H[al o]? = some cell ∧ cell.vm.isStatics = false ∧ s.vm.findClass C = some cell.cls) (hP : va_P D vwCl (am_ws al kC layX F A) H) (hK : va_K D vwCl (am_tys kC) s) (hD : va_D As (am_ws al kC layX F A)) : PreV s H C (al o) (va_Pc (.ref (al o) :: av) (am_B 0 none D al kC layX F A H.size)) av :=
  ⟨am_blind (as := .ref (al o) :: av) (kd := 0) (Z := none), hr, fun U hU hW => ⟨rfl, by rw [hU], by rw [hU]; exact hP, va_K.moved hW.alike hK, ⟨(am_D_dis hD).1, fun _ _ => trivial⟩, fun h => absurd rfl h, fun L xs h => by cases h⟩⟩
def puE (p : Program) (l : Launch) (e : Env) (s : State) (m : MethodId) (below : List Frame) (meth : Method) (c : Code) (a d : Nat) (T : List Nat) (D : va_G) (al : Nat → Nat) (kC : Nat → ClassId) (F : FF) (A0 : AA) (A : Nat → Prop) : Prop :=
  (T.length ≤ 340 ∧ (∀ q, lt (pdL T) q < 128)) ∧ p.tables.exec = Jvm.exec ∧ c.code = cL_put ∧ meth.sig.returnType = none ∧ meth.locks = false ∧ c.maxLocals = 6 ∧ (∀ w ∈ jk_tb, w.before (#[Value.ref (al 0), .ref a] : Array Value) s = true) ∧ s.vm.findClass yL_put.cls = some m.cls ∧ va_K D vwCl (am_tys kC) s ∧ (∀ q : Nat, s.heap.size ≤ q → A q) ∧ (fun B U H => (js_G B U H ∧ js_S a d T.length (lt T) B U H) ∧ js_C B U H) A s s.heap
def puGf (p : Program) (l : Launch) (e : Env) (s : State) (m : MethodId) (below : List Frame) (meth : Method) (c : Code) (a d : Nat) (T : List Nat) (D : va_G) (al : Nat → Nat) (kC : Nat → ClassId) (F : FF) (A0 : AA) (A : Nat → Prop) (pc k : Nat) (lo : Nat → List (Nat × Value)) (C1 C2 : Nat) : Prop :=
  ∀ (H : Heap) (locs : List Loc) (ls : Array Slot) (cells slots : Nat), lv_has ls 6 (lo a) → va_P D vwCl ([] ++ am_ws al kC layX (ptF F k) (ptA (lt (pdL T)) A0 k)) H → va_D A ([] ++ am_ws al kC layX (ptF F k) (ptA (lt (pdL T)) A0 k)) → va_S A s.heap H locs → cells + C1 ≤ 140 → slots + C2 ≤ 306000 →
  W p l e (jr 15 140 306000) s m #[Value.ref (al 0), .ref a] below meth c H locs cells slots (MQ below (va_Qv (S := Unit) (fun _ => True) (fun _ t => va_P D vwCl (am_ws al kC layX (ptF F ((T.length + nd20 T.length))) (ptA (lt (pdL T)) A0 ((T.length + nd20 T.length)))) t.heap ∧ va_D A (am_ws al kC layX (ptF F ((T.length + nd20 T.length))) (ptA (lt (pdL T)) A0 ((T.length + nd20 T.length))))) A) #[Value.ref (al 0), .ref a] s 140 306000 A) (F0 m pc ls [])
def puGw (p : Program) (l : Launch) (e : Env) (s : State) (m : MethodId) (below : List Frame) (meth : Method) (c : Code) (a d : Nat) (T : List Nat) (D : va_G) (al : Nat → Nat) (kC : Nat → ClassId) (F : FF) (A0 : AA) (A : Nat → Prop) (pc k : Nat) (lo : Nat → List (Nat × Value)) (S : List Nat) (C1 C2 : Nat) : Prop :=
  ∀ (b db n : Nat) (g : Nat → Int32) (H : Heap) (locs : List Loc) (ls : Array Slot) (cells slots : Nat), lv_has ls 6 (lo b) → va_P D vwCl ([(b, .inr (9, [.ref db, .int 0, .int 0, .int 0])), (db, .inl (kC 2, n, .inl g))] ++ am_ws al kC layX (ptF F k) (ptA (lt (pdL T)) A0 k)) H → va_D A ([(b, .inr (9, [.ref db, .int 0, .int 0, .int 0])), (db, .inl (kC 2, n, .inl g))] ++ am_ws al kC layX (ptF F k) (ptA (lt (pdL T)) A0 k)) → va_S A s.heap H locs → sb_Fit g → sb_Lat (lt S) n g → S.length = n → cells + C1 ≤ 140 → slots + C2 ≤ 306000 →
  W p l e (jr 15 140 306000) s m #[Value.ref (al 0), .ref a] below meth c H locs cells slots (MQ below (va_Qv (S := Unit) (fun _ => True) (fun _ t => va_P D vwCl (am_ws al kC layX (ptF F ((T.length + nd20 T.length))) (ptA (lt (pdL T)) A0 ((T.length + nd20 T.length)))) t.heap ∧ va_D A (am_ws al kC layX (ptF F ((T.length + nd20 T.length))) (ptA (lt (pdL T)) A0 ((T.length + nd20 T.length))))) A) #[Value.ref (al 0), .ref a] s 140 306000 A) (F0 m pc ls [])
set_option maxHeartbeats 1000000 in
set_option maxRecDepth 100000 in
theorem pt_P0f {p : Program} {l : Launch} {e : Env} {s : State} {m : MethodId} {below : List Frame} {meth : Method} {c : Code} {a d : Nat} {T : List Nat} {D : va_G} {al : Nat → Nat} {kC : Nat → ClassId} {F : FF} {A0 : AA} {A : Nat → Prop} (hEnv : puE p l e s m below meth c a d T D al kC F A0 A)  (h20 : T.length % 20 = 0) {C1 C2 : Nat} (hk : puGf p l e s m below meth c a d T D al kC F A0 A 37 (0) (fun cu => [(3, .int (nI 0)), (2, .ref cu), (0, .ref (al 0)), (1, .ref a)]) (C1) (C2)) : puGf p l e s m below meth c a d T D al kC F A0 A 2 (0) (fun cu => [(2, .ref cu), (0, .ref (al 0)), (1, .ref a)]) (C1 + 0) (C2 + 0) := by
  obtain ⟨⟨hTL, ht8⟩, hx, hb, hr, hlocks, hml, htj, hown, hK, hA, hE⟩ := hEnv
  have hts := fun w (hw : w ∈ am_tb) => htj w (jk_in hw)
  obtain ⟨-, -, -, -, -, ⟨a6, d6, hR6, hS6⟩, -⟩ := id hE.2
  intro H locs ls cells slots hl hP hD hS hc1 hc2
  refine W.widen (k := cells + 0) (n := slots + 0) (Nat.le_refl _) (Nat.le_refl _) ?_
  have hl : lv_has ls 6 [(2, .ref a), (0, .ref (al 0)), (1, .ref a)] := hl
  have hP : va_P D vwCl ([] ++ am_ws al kC layX (ptF F 0) (ptA (lt (pdL T)) A0 0)) H := hP
  have hD : va_D A ([] ++ am_ws al kC layX (ptF F 0) (ptA (lt (pdL T)) A0 0)) := hD
  refine lv_aload_n hx hb dk_L_put_2 rfl (lv_at hl 0 rfl) ?_
  have hPc : va_P D vwCl [] H := ws_nP
  have hDc : va_D A [] := ws_nD
  have hFc : ∀ q, va_A [] H.size q → A q := fun q h => hA q (Nat.le_trans hS.1 (ws_nA h))
  refine va_calli (va_runV (As := []) (rest := []) ⟨hx, hb, hml, hown, hts⟩ (sk_slen l D kC a d T.length (lt T) H.size) ⟨am_callB (R := jr 15 140 306000) (index := 8) 0 (jk_pay htj (am_tb_at 400 (by decide +kernel) rfl)) (hts _ (am_tb_at 400 (by decide +kernel) rfl)) rfl rfl rfl (hts _ (am_tb_at 47 (by decide +kernel) rfl)) (hts _ (am_tb_at 579 (by decide +kernel) rfl)) ⟨by decide, by decide, by decide +kernel⟩ ⟨(by show 2 + 1 ≤ 15; decide), (by show 8 + (1 + 11) + 48 * 2 ≤ 48 * 15; decide)⟩, (hts _ (am_tb_at 398 (by decide +kernel) rfl)), (hts _ (am_tb_at 399 (by decide +kernel) rfl))⟩ (ws_V (Stb_and Stb_G (Stb_S a d T.length (lt T))) (ro_rec hE.1.2.1 hS) hPc hK hDc (fun U hU hW => ⟨ws_E Stb_G hE.1.1 hS hU hW hFc, ws_E (Stb_S a d T.length (lt T)) hE.1.2 hS hU hW hFc⟩)) rfl rfl hl.1 rfl (lv_room (Nat.le_of_ble_eq_true rfl)) dk_L_put_3 ⟨(room_ok hc1 rfl), (room_ok hc2 rfl)⟩) hS (fun q _ h => hFc q h) hFc (fun r0 u t H1 locs hte hvm hz hB hsz hkp hS => ?_)
  have hP := ws_kept hP hkp
  generalize H1 = H at hP hS ⊢
  have hP : va_P D vwCl ([] ++ am_ws al kC layX (ptF F 0) (ptA (lt (pdL T)) A0 0)) H := hP
  have hD : va_D A ([] ++ am_ws al kC layX (ptF F 0) (ptA (lt (pdL T)) A0 0)) := hD
  refine W.widen (k := cells + 0) (n := slots + 0) (Nat.le_of_eq (Nat.add_assoc _ _ _)) (Nat.le_of_eq (Nat.add_assoc _ _ _)) ?_
  subst hz
  refine lv_bipush (v := 20) hx hb dk_L_put_6 (by decide) ?_
  refine lv_irem hx hb dk_L_put_8 (by decide) ?_
  rw [show (((nI T.length) - (nI T.length) / 20 * 20) : Int32) = nI 0 from by rw [show (20 : Int32) = nI 20 from rfl, ir_c (by omega) (by omega), h20]]
  refine lv_if_eq (tgt := 35) hx hb dk_L_put_9 rfl (fun _ => ?_) (fun q => absurd (by decide) q)
  refine lv_iconst (v := 0) hx hb dk_L_put_35 (by decide) ?_
  refine lv_istore_n (lv' := [(3, .int 0), (2, .ref a), (0, .ref (al 0)), (1, .ref a)]) hx hb dk_L_put_36 rfl hl (by decide) rfl (fun ls hl => ?_)
  have hl : lv_has ls 6 [(3, .int (nI 0)), (2, .ref a), (0, .ref (al 0)), (1, .ref a)] := lv_sub hl [0, 1, 2, 3] rfl
  exact hk _ _ _ _ _ hl hP hD hS (room_end hc1 rfl) (room_end hc2 rfl)
set_option maxHeartbeats 1000000 in
set_option maxRecDepth 100000 in
theorem pt_P1f {p : Program} {l : Launch} {e : Env} {s : State} {m : MethodId} {below : List Frame} {meth : Method} {c : Code} {a d : Nat} {T : List Nat} {D : va_G} {al : Nat → Nat} {kC : Nat → ClassId} {F : FF} {A0 : AA} {A : Nat → Prop} (hEnv : puE p l e s m below meth c a d T D al kC F A0 A)  (h20 : T.length % 20 ≠ 0) {C1 C2 : Nat} (hk : puGw p l e s m below meth c a d T D al kC F A0 A 2 (0) (fun cu => [(2, .ref cu), (0, .ref (al 0)), (1, .ref a)]) (T ++ [32]) (C1) (C2)) : puGf p l e s m below meth c a d T D al kC F A0 A 2 (0) (fun cu => [(2, .ref cu), (0, .ref (al 0)), (1, .ref a)]) (C1 + 6) (C2 + 16014) := by
  obtain ⟨⟨hTL, ht8⟩, hx, hb, hr, hlocks, hml, htj, hown, hK, hA, hE⟩ := hEnv
  have hts := fun w (hw : w ∈ am_tb) => htj w (jk_in hw)
  obtain ⟨-, -, -, -, -, ⟨a6, d6, hR6, hS6⟩, -⟩ := id hE.2
  intro H locs ls cells slots hl hP hD hS hc1 hc2
  refine W.widen (k := cells + 0) (n := slots + 0) (Nat.le_refl _) (Nat.le_refl _) ?_
  have hl : lv_has ls 6 [(2, .ref a), (0, .ref (al 0)), (1, .ref a)] := hl
  have hP : va_P D vwCl ([] ++ am_ws al kC layX (ptF F 0) (ptA (lt (pdL T)) A0 0)) H := hP
  have hD : va_D A ([] ++ am_ws al kC layX (ptF F 0) (ptA (lt (pdL T)) A0 0)) := hD
  refine lv_aload_n hx hb dk_L_put_2 rfl (lv_at hl 0 rfl) ?_
  have hPc : va_P D vwCl [] H := ws_nP
  have hDc : va_D A [] := ws_nD
  have hFc : ∀ q, va_A [] H.size q → A q := fun q h => hA q (Nat.le_trans hS.1 (ws_nA h))
  refine va_calli (va_runV (As := []) (rest := []) ⟨hx, hb, hml, hown, hts⟩ (sk_slen l D kC a d T.length (lt T) H.size) ⟨am_callB (R := jr 15 140 306000) (index := 8) 0 (jk_pay htj (am_tb_at 400 (by decide +kernel) rfl)) (hts _ (am_tb_at 400 (by decide +kernel) rfl)) rfl rfl rfl (hts _ (am_tb_at 47 (by decide +kernel) rfl)) (hts _ (am_tb_at 579 (by decide +kernel) rfl)) ⟨by decide, by decide, by decide +kernel⟩ ⟨(by show 2 + 1 ≤ 15; decide), (by show 8 + (1 + 11) + 48 * 2 ≤ 48 * 15; decide)⟩, (hts _ (am_tb_at 398 (by decide +kernel) rfl)), (hts _ (am_tb_at 399 (by decide +kernel) rfl))⟩ (ws_V (Stb_and Stb_G (Stb_S a d T.length (lt T))) (ro_rec hE.1.2.1 hS) hPc hK hDc (fun U hU hW => ⟨ws_E Stb_G hE.1.1 hS hU hW hFc, ws_E (Stb_S a d T.length (lt T)) hE.1.2 hS hU hW hFc⟩)) rfl rfl hl.1 rfl (lv_room (Nat.le_of_ble_eq_true rfl)) dk_L_put_3 ⟨(room_ok hc1 rfl), (room_ok hc2 rfl)⟩) hS (fun q _ h => hFc q h) hFc (fun r0 u t H1 locs hte hvm hz hB hsz hkp hS => ?_)
  have hP := ws_kept hP hkp
  generalize H1 = H at hP hS ⊢
  have hP : va_P D vwCl ([] ++ am_ws al kC layX (ptF F 0) (ptA (lt (pdL T)) A0 0)) H := hP
  have hD : va_D A ([] ++ am_ws al kC layX (ptF F 0) (ptA (lt (pdL T)) A0 0)) := hD
  refine W.widen (k := cells + 0) (n := slots + 0) (Nat.le_of_eq (Nat.add_assoc _ _ _)) (Nat.le_of_eq (Nat.add_assoc _ _ _)) ?_
  subst hz
  refine lv_bipush (v := 20) hx hb dk_L_put_6 (by decide) ?_
  refine lv_irem hx hb dk_L_put_8 (by decide) ?_
  rw [show (((nI T.length) - (nI T.length) / 20 * 20) : Int32) = nI (T.length % 20) from by rw [show (20 : Int32) = nI 20 from rfl, ir_c (by omega) (by omega)]]
  refine lv_if_eq (tgt := 35) hx hb dk_L_put_9 rfl (fun q => absurd q (fun z => h20 ((nI_eq (a := T.length % 20) (b := 0) (by omega) (by decide)).mp z))) (fun _ => ?_)
  refine va_new (ci := 10) (fs := [.null, .int 0, .int 0, .int 0]) (C := RJ4) (T := TJ4) (N := 4) hx hb hts qwJ4 tyJ4 tyJ4_ok hown (hts _ (am_tb_at 288 (by decide +kernel) rfl)) (hts _ (am_tb_at 289 (by decide +kernel) rfl)) (hts _ (am_tb_at 46 (by decide +kernel) rfl)) hK hP hD hS hA rfl (fun j hj => by rcases (show j = 0 ∨ j = 1 ∨ j = 2 ∨ j = 3 by omega) with rfl | rfl | rfl | rfl <;> rfl) (room_ok hc1 rfl) (room_ok hc2 rfl) dk_L_put_12 (fun q1 H hP hD hS => ?_)
  refine W.widen (k := cells + 1) (n := slots + 4) (Nat.le_of_eq (Nat.add_assoc _ _ _)) (Nat.le_of_eq (Nat.add_assoc _ _ _)) ?_
  have hP := va_P.swap hP
  have hD := va_D.swap hD
  have hP : va_P D vwCl ([(q1, .inr (10, [.null, .int 0, .int 0, .int 0]))] ++ am_ws al kC layX (ptF F 0) (ptA (lt (pdL T)) A0 0)) H := hP
  have hD : va_D A ([(q1, .inr (10, [.null, .int 0, .int 0, .int 0]))] ++ am_ws al kC layX (ptF F 0) (ptA (lt (pdL T)) A0 0)) := hD
  refine lv_dup hx hb dk_L_put_15 rfl ?_
  have hPc := hP.sub (ws' := [(q1, .inr (10, [.null, .int 0, .int 0, .int 0]))]) [0] rfl
  have hDc := hD.sub (ws' := [(q1, .inr (10, [.null, .int 0, .int 0, .int 0]))]) [0] (by decide) rfl
  have hFc := va_free (wc := [(q1, .inr (10, [.null, .int 0, .int 0, .int 0]))]) hD hS hA [0] rfl
  refine va_callv (va_runI (As := []) (rest := [.ref q1]) ⟨hx, hb, hml, hown, hts⟩ (sk_sbN l D kC q1 H.size) ⟨am_callB (R := jr 15 140 306000) (index := 16) 0 (jk_pay htj (am_tb_at 292 (by decide +kernel) rfl)) (hts _ (am_tb_at 292 (by decide +kernel) rfl)) rfl rfl rfl (hts _ (am_tb_at 46 (by decide +kernel) rfl)) (hts _ (am_tb_at 290 (by decide +kernel) rfl)) ⟨by decide, by decide, by decide +kernel⟩ ⟨(by show 4 + 1 ≤ 15; decide), (by show 8 + (1 + 11) + 48 * 4 ≤ 48 * 15; decide)⟩, rfl, (hts _ (am_tb_at 291 (by decide +kernel) rfl))⟩ (ws_S Stb_G hPc hK hDc (fun U hU hW => ws_E Stb_G hE.1.1 hS hU hW hFc)) rfl rfl hl.1 rfl (lv_room (Nat.le_of_ble_eq_true rfl)) dk_L_put_16 ⟨(room_ok hc1 rfl), (room_ok hc2 rfl)⟩) hS (fun q _ h => hFc q h) hFc (fun b1_0 t H1 locs hte hvm hz hB hsz hkp hS => ?_)
  obtain ⟨hP1, hD1⟩ := hB
  rw [hte] at hP1
  obtain ⟨hP, hD⟩ := va_joinQ (X := [(q1, .inr (10, [.null, .int 0, .int 0, .int 0]))]) (pl := am_ws al kC layX (ptF F 0) (ptA (lt (pdL T)) A0 0)) (wr := []) (w1 := [(q1, .inr (10, [.ref b1_0, .int 0, .int 0, .int (nI 0)])), (b1_0, .inl (kC 2, 16, .inl (fun _ => 0)))]) hP hD [0] [] rfl rfl (by decide) (by decide) hkp hFc hP1 hD1
  generalize H1 = H at hP hS ⊢
  have hP : va_P D vwCl ([(q1, .inr (10, [.ref b1_0, .int 0, .int 0, .int (nI 0)])), (b1_0, .inl (kC 2, 16, .inl (fun _ => 0)))] ++ am_ws al kC layX (ptF F 0) (ptA (lt (pdL T)) A0 0)) H := hP
  have hD : va_D A ([(q1, .inr (10, [.ref b1_0, .int 0, .int 0, .int (nI 0)])), (b1_0, .inl (kC 2, 16, .inl (fun _ => 0)))] ++ am_ws al kC layX (ptF F 0) (ptA (lt (pdL T)) A0 0)) := hD
  refine W.widen (k := cells + 2) (n := slots + 4004) (Nat.le_of_eq (Nat.add_assoc _ _ _)) (Nat.le_of_eq (Nat.add_assoc _ _ _)) ?_
  have hw1_0 : 0 ≤ 16 ∧ 16 ≤ 1700 := ⟨by decide, by decide⟩
  have hf1_0 : sb_Fit (fun _ => 0) := sb_fit0
  have hL1_0 : sb_Lat (lt []) 0 (fun _ => 0) := fun j h => absurd h (Nat.not_lt_zero _)
  have hn1_0 : ([] : List Nat).length = 0 := rfl
  refine lv_aload_n hx hb dk_L_put_19 rfl (lv_at hl 0 rfl) ?_
  have hPc := hP.sub (ws' := [(q1, .inr (10, [.ref b1_0, .int 0, .int 0, .int (nI 0)])), (b1_0, .inl (kC 2, 16, .inl (fun _ => 0)))]) [0, 1] rfl
  have hDc := hD.sub (ws' := [(q1, .inr (10, [.ref b1_0, .int 0, .int 0, .int (nI 0)])), (b1_0, .inl (kC 2, 16, .inl (fun _ => 0)))]) [0, 1] (by decide) rfl
  have hFc := va_free (wc := [(q1, .inr (10, [.ref b1_0, .int 0, .int 0, .int (nI 0)])), (b1_0, .inl (kC 2, 16, .inl (fun _ => 0)))]) hD hS hA [0, 1] rfl
  refine va_callr (va_runV (As := [.ref a]) (rest := []) ⟨hx, hb, hml, hown, hts⟩ (sk_sbS l D kC q1 b1_0 16 0 0 (fun _ => 0) a d T.length (lt T) (lt ([] : List Nat)) hw1_0.1 hw1_0.2 hf1_0 hL1_0 (by omega) H.size) ⟨am_callB (R := jr 15 140 306000) (index := 17) 1 (jk_pay htj (am_tb_at 323 (by decide +kernel) rfl)) (hts _ (am_tb_at 323 (by decide +kernel) rfl)) rfl rfl rfl (hts _ (am_tb_at 46 (by decide +kernel) rfl)) (hts _ (am_tb_at 320 (by decide +kernel) rfl)) ⟨by decide, by decide, by decide +kernel⟩ ⟨(by show 13 + 1 ≤ 15; decide), (by show 8 + (2 + 11) + 48 * 13 ≤ 48 * 15; decide)⟩, (hts _ (am_tb_at 321 (by decide +kernel) rfl)), (hts _ (am_tb_at 322 (by decide +kernel) rfl))⟩ (ws_V (Stb_and Stb_G (Stb_S a d T.length (lt T))) (va_recv (q := (RJ4, TJ4, 4)) (q0 := 0) hK hP rfl rfl) hPc hK hDc (fun U hU hW => ⟨ws_E Stb_G hE.1.1 hS hU hW hFc, ws_E (Stb_S a d T.length (lt T)) hE.1.2 hS hU hW hFc⟩)) rfl rfl hl.1 rfl (lv_room (Nat.le_of_ble_eq_true rfl)) dk_L_put_20 ⟨(room_ok hc1 rfl), (room_ok hc2 rfl)⟩) hS (fun q _ h => hFc q h) hFc (fun u ra t H1 locs hte hvm hz hB hsz hkp hS => ?_)
  obtain ⟨b1_1, w1_1, g1_1⟩ := u
  obtain ⟨hra, hP1, hD1⟩ := hB
  rw [hte] at hP1
  obtain ⟨hP, hD⟩ := va_joinQ (X := [(q1, .inr (10, [.ref b1_0, .int 0, .int 0, .int (nI 0)])), (b1_0, .inl (kC 2, 16, .inl (fun _ => 0)))]) (pl := am_ws al kC layX (ptF F 0) (ptA (lt (pdL T)) A0 0)) (wr := []) (w1 := [(q1, .inr (10, [.ref b1_1, .int 0, .int 0, .int (nI ((0 + T.length)))])), (b1_1, .inl (kC 2, w1_1, .inl g1_1))]) hP hD [0, 1] [] rfl rfl (by decide) (by decide) hkp hFc hP1 hD1
  generalize H1 = H at hP hS ⊢
  have hP : va_P D vwCl ([(q1, .inr (10, [.ref b1_1, .int 0, .int 0, .int (nI ((0 + T.length)))])), (b1_1, .inl (kC 2, w1_1, .inl g1_1))] ++ am_ws al kC layX (ptF F 0) (ptA (lt (pdL T)) A0 0)) H := hP
  have hD : va_D A ([(q1, .inr (10, [.ref b1_1, .int 0, .int 0, .int (nI ((0 + T.length)))])), (b1_1, .inl (kC 2, w1_1, .inl g1_1))] ++ am_ws al kC layX (ptF F 0) (ptA (lt (pdL T)) A0 0)) := hD
  refine W.widen (k := cells + 3) (n := slots + 8004) (Nat.le_of_eq (Nat.add_assoc _ _ _)) (Nat.le_of_eq (Nat.add_assoc _ _ _)) ?_
  dsimp only at hz
  obtain ⟨hw1_1, hf1_1, hL0⟩ := hz
  have hy1_1 : (T : List Nat).length = T.length := rfl
  have hL1_1 := ll_cat hn1_0 hy1_1 hL0
  have hn1_1 := ll_len hn1_0 hy1_1
  rw [hra]
  refine va_ldcS hx hb hown hR6 dk_L_put_23 ?_
  have hPc := hP.sub (ws' := [(q1, .inr (10, [.ref b1_1, .int 0, .int 0, .int (nI ((0 + T.length)))])), (b1_1, .inl (kC 2, w1_1, .inl g1_1))]) [0, 1] rfl
  have hDc := hD.sub (ws' := [(q1, .inr (10, [.ref b1_1, .int 0, .int 0, .int (nI ((0 + T.length)))])), (b1_1, .inl (kC 2, w1_1, .inl g1_1))]) [0, 1] (by decide) rfl
  have hFc := va_free (wc := [(q1, .inr (10, [.ref b1_1, .int 0, .int 0, .int (nI ((0 + T.length)))])), (b1_1, .inl (kC 2, w1_1, .inl g1_1))]) hD hS hA [0, 1] rfl
  refine va_callr (va_runV (As := [.ref a6]) (rest := []) ⟨hx, hb, hml, hown, hts⟩ (sk_sbS l D kC q1 b1_1 w1_1 (0 + T.length) 0 g1_1 a6 d6 1 (lt ([32])) (lt (([] : List Nat) ++ T)) hw1_1.1 hw1_1.2 hf1_1 hL1_1 (by omega) H.size) ⟨am_callB (R := jr 15 140 306000) (index := 17) 1 (jk_pay htj (am_tb_at 323 (by decide +kernel) rfl)) (hts _ (am_tb_at 323 (by decide +kernel) rfl)) rfl rfl rfl (hts _ (am_tb_at 46 (by decide +kernel) rfl)) (hts _ (am_tb_at 320 (by decide +kernel) rfl)) ⟨by decide, by decide, by decide +kernel⟩ ⟨(by show 13 + 1 ≤ 15; decide), (by show 8 + (2 + 11) + 48 * 13 ≤ 48 * 15; decide)⟩, (hts _ (am_tb_at 321 (by decide +kernel) rfl)), (hts _ (am_tb_at 322 (by decide +kernel) rfl))⟩ (ws_V (Stb_and Stb_G (Stb_S a6 d6 1 (lt ([32])))) (va_recv (q := (RJ4, TJ4, 4)) (q0 := 0) hK hP rfl rfl) hPc hK hDc (fun U hU hW => ⟨ws_E Stb_G hE.1.1 hS hU hW hFc, ws_E (Stb_S a6 d6 1 (lt [32])) hS6 hS hU hW hFc⟩)) rfl rfl hl.1 rfl (lv_room (Nat.le_of_ble_eq_true rfl)) dk_L_put_25 ⟨(room_ok hc1 rfl), (room_ok hc2 rfl)⟩) hS (fun q _ h => hFc q h) hFc (fun u ra t H1 locs hte hvm hz hB hsz hkp hS => ?_)
  obtain ⟨b1_2, w1_2, g1_2⟩ := u
  obtain ⟨hra, hP1, hD1⟩ := hB
  rw [hte] at hP1
  obtain ⟨hP, hD⟩ := va_joinQ (X := [(q1, .inr (10, [.ref b1_1, .int 0, .int 0, .int (nI ((0 + T.length)))])), (b1_1, .inl (kC 2, w1_1, .inl g1_1))]) (pl := am_ws al kC layX (ptF F 0) (ptA (lt (pdL T)) A0 0)) (wr := []) (w1 := [(q1, .inr (10, [.ref b1_2, .int 0, .int 0, .int (nI (((0 + T.length) + 1)))])), (b1_2, .inl (kC 2, w1_2, .inl g1_2))]) hP hD [0, 1] [] rfl rfl (by decide) (by decide) hkp hFc hP1 hD1
  generalize H1 = H at hP hS ⊢
  have hP : va_P D vwCl ([(q1, .inr (10, [.ref b1_2, .int 0, .int 0, .int (nI (((0 + T.length) + 1)))])), (b1_2, .inl (kC 2, w1_2, .inl g1_2))] ++ am_ws al kC layX (ptF F 0) (ptA (lt (pdL T)) A0 0)) H := hP
  have hD : va_D A ([(q1, .inr (10, [.ref b1_2, .int 0, .int 0, .int (nI (((0 + T.length) + 1)))])), (b1_2, .inl (kC 2, w1_2, .inl g1_2))] ++ am_ws al kC layX (ptF F 0) (ptA (lt (pdL T)) A0 0)) := hD
  refine W.widen (k := cells + 4) (n := slots + 12004) (Nat.le_of_eq (Nat.add_assoc _ _ _)) (Nat.le_of_eq (Nat.add_assoc _ _ _)) ?_
  dsimp only at hz
  obtain ⟨hw1_2, hf1_2, hL0⟩ := hz
  have hy1_2 : ([32] : List Nat).length = 1 := rfl
  have hL1_2 := ll_cat hn1_1 hy1_2 hL0
  have hn1_2 := ll_len hn1_1 hy1_2
  rw [hra]
  have hPc : va_P D vwCl [] H := ws_nP
  have hDc : va_D A [] := ws_nD
  have hFc : ∀ q, va_A [] H.size q → A q := fun q h => hA q (Nat.le_trans hS.1 (ws_nA h))
  refine va_callr (va_runV (As := []) (rest := []) ⟨hx, hb, hml, hown, hts⟩ (sk_toS l D kC q1 b1_2 w1_2 (((0 + T.length) + 1)) g1_2 (lt ((([] : List Nat) ++ T) ++ [32])) hw1_2.1 (by omega) hf1_2 hL1_2 H.size) ⟨am_callB (R := jr 15 140 306000) (index := 23) 0 (jk_pay htj (am_tb_at 476 (by decide +kernel) rfl)) (hts _ (am_tb_at 476 (by decide +kernel) rfl)) rfl rfl rfl (hts _ (am_tb_at 46 (by decide +kernel) rfl)) (hts _ (am_tb_at 473 (by decide +kernel) rfl)) ⟨by decide, by decide, by decide +kernel⟩ ⟨(by show 10 + 1 ≤ 15; decide), (by show 8 + (1 + 11) + 48 * 10 ≤ 48 * 15; decide)⟩, (hts _ (am_tb_at 474 (by decide +kernel) rfl)), (hts _ (am_tb_at 475 (by decide +kernel) rfl))⟩ (ws_V (Stb_and Stb_G (Stb_B kC q1 b1_2 w1_2 (((0 + T.length) + 1)) g1_2)) (va_recv (q := (RJ4, TJ4, 4)) (q0 := 0) hK hP rfl rfl) hPc hK hDc (fun U hU hW => ⟨ws_E Stb_G hE.1.1 hS hU hW hFc, ws_N (Stb_B kC q1 b1_2 w1_2 (((0 + T.length) + 1)) g1_2) (ro_B hts hK hP 0 1 rfl rfl (ws_n0 hP 0 rfl) (ws_n0 hP 1 rfl)) hU hW⟩)) rfl rfl hl.1 rfl (lv_room (Nat.le_of_ble_eq_true rfl)) dk_L_put_28 ⟨(room_ok hc1 rfl), (room_ok hc2 rfl)⟩) hS (fun q _ h => hFc q h) hFc (fun u s1 t H1 locs hte hvm hz hB hsz hkp hS => ?_)
  obtain ⟨ds1, gs1⟩ := u
  obtain ⟨hP1, hD1⟩ := hB
  rw [hte] at hP1
  obtain ⟨hP, hD⟩ := va_joinQ (X := [(q1, .inr (10, [.ref b1_2, .int 0, .int 0, .int (nI (((0 + T.length) + 1)))])), (b1_2, .inl (kC 2, w1_2, .inl g1_2))]) (pl := am_ws al kC layX (ptF F 0) (ptA (lt (pdL T)) A0 0)) (wr := [(q1, .inr (10, [.ref b1_2, .int 0, .int 0, .int (nI (((0 + T.length) + 1)))])), (b1_2, .inl (kC 2, w1_2, .inl g1_2))]) (w1 := [(s1, .inr (9, [.ref ds1, .int 0, .int 0, .int 0])), (ds1, .inl (kC 2, ((0 + T.length) + 1), .inl gs1))]) hP hD [] [0, 1] rfl rfl (by decide) (by decide) hkp hFc hP1 hD1
  generalize H1 = H at hP hS ⊢
  have hP : va_P D vwCl ([(q1, .inr (10, [.ref b1_2, .int 0, .int 0, .int (nI (((0 + T.length) + 1)))])), (b1_2, .inl (kC 2, w1_2, .inl g1_2)), (s1, .inr (9, [.ref ds1, .int 0, .int 0, .int 0])), (ds1, .inl (kC 2, ((0 + T.length) + 1), .inl gs1))] ++ am_ws al kC layX (ptF F 0) (ptA (lt (pdL T)) A0 0)) H := hP
  have hD : va_D A ([(q1, .inr (10, [.ref b1_2, .int 0, .int 0, .int (nI (((0 + T.length) + 1)))])), (b1_2, .inl (kC 2, w1_2, .inl g1_2)), (s1, .inr (9, [.ref ds1, .int 0, .int 0, .int 0])), (ds1, .inl (kC 2, ((0 + T.length) + 1), .inl gs1))] ++ am_ws al kC layX (ptF F 0) (ptA (lt (pdL T)) A0 0)) := hD
  refine W.widen (k := cells + 6) (n := slots + 16014) (Nat.le_of_eq (Nat.add_assoc _ _ _)) (Nat.le_of_eq (Nat.add_assoc _ _ _)) ?_
  dsimp only at hz
  obtain ⟨hfs1, hLs1⟩ := hz
  have hP := va_P.part (X := [(q1, .inr (10, [.ref b1_2, .int 0, .int 0, .int (nI (((0 + T.length) + 1)))])), (b1_2, .inl (kC 2, w1_2, .inl g1_2)), (s1, .inr (9, [.ref ds1, .int 0, .int 0, .int 0])), (ds1, .inl (kC 2, ((0 + T.length) + 1), .inl gs1))]) (cx := [(s1, .inr (9, [.ref ds1, .int 0, .int 0, .int 0])), (ds1, .inl (kC 2, ((0 + T.length) + 1), .inl gs1))]) hP [2, 3] rfl
  have hD := va_D.part (X := [(q1, .inr (10, [.ref b1_2, .int 0, .int 0, .int (nI (((0 + T.length) + 1)))])), (b1_2, .inl (kC 2, w1_2, .inl g1_2)), (s1, .inr (9, [.ref ds1, .int 0, .int 0, .int 0])), (ds1, .inl (kC 2, ((0 + T.length) + 1), .inl gs1))]) (cx := [(s1, .inr (9, [.ref ds1, .int 0, .int 0, .int 0])), (ds1, .inl (kC 2, ((0 + T.length) + 1), .inl gs1))]) hD [2, 3] (by decide) rfl
  refine lv_astore_n (lv' := [(2, .ref s1), (0, .ref (al 0)), (1, .ref a)]) hx hb dk_L_put_31 rfl hl (by decide) rfl (fun ls hl => ?_)
  refine lv_goto (tgt := 2) hx hb dk_L_put_32 rfl ?_
  have hT : ((([] : List Nat) ++ T) ++ [32]) = T ++ [32] := by simp
  rw [hT] at hLs1 hn1_2
  have hl : lv_has ls 6 [(2, .ref s1), (0, .ref (al 0)), (1, .ref a)] := lv_sub hl [0, 1, 2] rfl
  exact hk _ _ _ _ _ _ _ _ _ hl hP hD hS hfs1 hLs1 hn1_2 (room_end hc1 rfl) (room_end hc2 rfl)
set_option maxHeartbeats 1000000 in
set_option maxRecDepth 100000 in
theorem pt_P0w {p : Program} {l : Launch} {e : Env} {s : State} {m : MethodId} {below : List Frame} {meth : Method} {c : Code} {a d : Nat} {T : List Nat} {D : va_G} {al : Nat → Nat} {kC : Nat → ClassId} {F : FF} {A0 : AA} {A : Nat → Prop} (hEnv : puE p l e s m below meth c a d T D al kC F A0 A) {S : List Nat} (hSl : S.length ≤ 400) (h20 : S.length % 20 = 0) {C1 C2 : Nat} (hk : puGw p l e s m below meth c a d T D al kC F A0 A 37 (0) (fun cu => [(3, .int (nI 0)), (2, .ref cu), (0, .ref (al 0)), (1, .ref a)]) (S) (C1) (C2)) : puGw p l e s m below meth c a d T D al kC F A0 A 2 (0) (fun cu => [(2, .ref cu), (0, .ref (al 0)), (1, .ref a)]) (S) (C1 + 0) (C2 + 0) := by
  obtain ⟨⟨hTL, ht8⟩, hx, hb, hr, hlocks, hml, htj, hown, hK, hA, hE⟩ := hEnv
  have hts := fun w (hw : w ∈ am_tb) => htj w (jk_in hw)
  obtain ⟨-, -, -, -, -, ⟨a6, d6, hR6, hS6⟩, -⟩ := id hE.2
  intro b db n g H locs ls cells slots hl hP hD hS hf hL hn hc1 hc2
  refine W.widen (k := cells + 0) (n := slots + 0) (Nat.le_refl _) (Nat.le_refl _) ?_
  have hl : lv_has ls 6 [(2, .ref b), (0, .ref (al 0)), (1, .ref a)] := hl
  have hP : va_P D vwCl ([(b, .inr (9, [.ref db, .int 0, .int 0, .int 0])), (db, .inl (kC 2, n, .inl g))] ++ am_ws al kC layX (ptF F 0) (ptA (lt (pdL T)) A0 0)) H := hP
  have hD : va_D A ([(b, .inr (9, [.ref db, .int 0, .int 0, .int 0])), (db, .inl (kC 2, n, .inl g))] ++ am_ws al kC layX (ptF F 0) (ptA (lt (pdL T)) A0 0)) := hD
  rw [hn] at hSl h20
  refine lv_aload_n hx hb dk_L_put_2 rfl (lv_at hl 0 rfl) ?_
  have hPc : va_P D vwCl [] H := ws_nP
  have hDc : va_D A [] := ws_nD
  have hFc : ∀ q, va_A [] H.size q → A q := fun q h => hA q (Nat.le_trans hS.1 (ws_nA h))
  refine va_calli (va_runV (As := []) (rest := []) ⟨hx, hb, hml, hown, hts⟩ (sk_slen l D kC b db n (lt S) H.size) ⟨am_callB (R := jr 15 140 306000) (index := 8) 0 (jk_pay htj (am_tb_at 400 (by decide +kernel) rfl)) (hts _ (am_tb_at 400 (by decide +kernel) rfl)) rfl rfl rfl (hts _ (am_tb_at 47 (by decide +kernel) rfl)) (hts _ (am_tb_at 579 (by decide +kernel) rfl)) ⟨by decide, by decide, by decide +kernel⟩ ⟨(by show 2 + 1 ≤ 15; decide), (by show 8 + (1 + 11) + 48 * 2 ≤ 48 * 15; decide)⟩, (hts _ (am_tb_at 398 (by decide +kernel) rfl)), (hts _ (am_tb_at 399 (by decide +kernel) rfl))⟩ (ws_V (Stb_and Stb_G (Stb_S b db n (lt S))) (va_recv (q := (RJ0, TJ0, 4)) (q0 := 0) hK hP rfl rfl) hPc hK hDc (fun U hU hW => ⟨ws_E Stb_G hE.1.1 hS hU hW hFc, ws_N (Stb_S b db n (lt S)) (ro_S hts hK hP 0 1 rfl rfl hL hf (ws_n0 hP 0 rfl) (ws_n0 hP 1 rfl)) hU hW⟩)) rfl rfl hl.1 rfl (lv_room (Nat.le_of_ble_eq_true rfl)) dk_L_put_3 ⟨(room_ok hc1 rfl), (room_ok hc2 rfl)⟩) hS (fun q _ h => hFc q h) hFc (fun r0 u t H1 locs hte hvm hz hB hsz hkp hS => ?_)
  have hP := ws_kept hP hkp
  generalize H1 = H at hP hS ⊢
  have hP : va_P D vwCl ([(b, .inr (9, [.ref db, .int 0, .int 0, .int 0])), (db, .inl (kC 2, n, .inl g))] ++ am_ws al kC layX (ptF F 0) (ptA (lt (pdL T)) A0 0)) H := hP
  have hD : va_D A ([(b, .inr (9, [.ref db, .int 0, .int 0, .int 0])), (db, .inl (kC 2, n, .inl g))] ++ am_ws al kC layX (ptF F 0) (ptA (lt (pdL T)) A0 0)) := hD
  refine W.widen (k := cells + 0) (n := slots + 0) (Nat.le_of_eq (Nat.add_assoc _ _ _)) (Nat.le_of_eq (Nat.add_assoc _ _ _)) ?_
  subst hz
  refine lv_bipush (v := 20) hx hb dk_L_put_6 (by decide) ?_
  refine lv_irem hx hb dk_L_put_8 (by decide) ?_
  rw [show (((nI n) - (nI n) / 20 * 20) : Int32) = nI 0 from by rw [show (20 : Int32) = nI 20 from rfl, ir_c (by omega) (by omega), h20]]
  refine lv_if_eq (tgt := 35) hx hb dk_L_put_9 rfl (fun _ => ?_) (fun q => absurd (by decide) q)
  refine lv_iconst (v := 0) hx hb dk_L_put_35 (by decide) ?_
  refine lv_istore_n (lv' := [(3, .int 0), (2, .ref b), (0, .ref (al 0)), (1, .ref a)]) hx hb dk_L_put_36 rfl hl (by decide) rfl (fun ls hl => ?_)
  have hl : lv_has ls 6 [(3, .int (nI 0)), (2, .ref b), (0, .ref (al 0)), (1, .ref a)] := lv_sub hl [0, 1, 2, 3] rfl
  exact hk _ _ _ _ _ _ _ _ _ hl hP hD hS hf hL hn (room_end hc1 rfl) (room_end hc2 rfl)
set_option maxHeartbeats 1000000 in
set_option maxRecDepth 100000 in
theorem pt_P1w {p : Program} {l : Launch} {e : Env} {s : State} {m : MethodId} {below : List Frame} {meth : Method} {c : Code} {a d : Nat} {T : List Nat} {D : va_G} {al : Nat → Nat} {kC : Nat → ClassId} {F : FF} {A0 : AA} {A : Nat → Prop} (hEnv : puE p l e s m below meth c a d T D al kC F A0 A) {S : List Nat} (hSl : S.length ≤ 400) (h20 : S.length % 20 ≠ 0) {C1 C2 : Nat} (hk : puGw p l e s m below meth c a d T D al kC F A0 A 2 (0) (fun cu => [(2, .ref cu), (0, .ref (al 0)), (1, .ref a)]) (S ++ [32]) (C1) (C2)) : puGw p l e s m below meth c a d T D al kC F A0 A 2 (0) (fun cu => [(2, .ref cu), (0, .ref (al 0)), (1, .ref a)]) (S) (C1 + 6) (C2 + 16014) := by
  obtain ⟨⟨hTL, ht8⟩, hx, hb, hr, hlocks, hml, htj, hown, hK, hA, hE⟩ := hEnv
  have hts := fun w (hw : w ∈ am_tb) => htj w (jk_in hw)
  obtain ⟨-, -, -, -, -, ⟨a6, d6, hR6, hS6⟩, -⟩ := id hE.2
  intro b db n g H locs ls cells slots hl hP hD hS hf hL hn hc1 hc2
  refine W.widen (k := cells + 0) (n := slots + 0) (Nat.le_refl _) (Nat.le_refl _) ?_
  have hl : lv_has ls 6 [(2, .ref b), (0, .ref (al 0)), (1, .ref a)] := hl
  have hP : va_P D vwCl ([(b, .inr (9, [.ref db, .int 0, .int 0, .int 0])), (db, .inl (kC 2, n, .inl g))] ++ am_ws al kC layX (ptF F 0) (ptA (lt (pdL T)) A0 0)) H := hP
  have hD : va_D A ([(b, .inr (9, [.ref db, .int 0, .int 0, .int 0])), (db, .inl (kC 2, n, .inl g))] ++ am_ws al kC layX (ptF F 0) (ptA (lt (pdL T)) A0 0)) := hD
  rw [hn] at hSl h20
  refine lv_aload_n hx hb dk_L_put_2 rfl (lv_at hl 0 rfl) ?_
  have hPc : va_P D vwCl [] H := ws_nP
  have hDc : va_D A [] := ws_nD
  have hFc : ∀ q, va_A [] H.size q → A q := fun q h => hA q (Nat.le_trans hS.1 (ws_nA h))
  refine va_calli (va_runV (As := []) (rest := []) ⟨hx, hb, hml, hown, hts⟩ (sk_slen l D kC b db n (lt S) H.size) ⟨am_callB (R := jr 15 140 306000) (index := 8) 0 (jk_pay htj (am_tb_at 400 (by decide +kernel) rfl)) (hts _ (am_tb_at 400 (by decide +kernel) rfl)) rfl rfl rfl (hts _ (am_tb_at 47 (by decide +kernel) rfl)) (hts _ (am_tb_at 579 (by decide +kernel) rfl)) ⟨by decide, by decide, by decide +kernel⟩ ⟨(by show 2 + 1 ≤ 15; decide), (by show 8 + (1 + 11) + 48 * 2 ≤ 48 * 15; decide)⟩, (hts _ (am_tb_at 398 (by decide +kernel) rfl)), (hts _ (am_tb_at 399 (by decide +kernel) rfl))⟩ (ws_V (Stb_and Stb_G (Stb_S b db n (lt S))) (va_recv (q := (RJ0, TJ0, 4)) (q0 := 0) hK hP rfl rfl) hPc hK hDc (fun U hU hW => ⟨ws_E Stb_G hE.1.1 hS hU hW hFc, ws_N (Stb_S b db n (lt S)) (ro_S hts hK hP 0 1 rfl rfl hL hf (ws_n0 hP 0 rfl) (ws_n0 hP 1 rfl)) hU hW⟩)) rfl rfl hl.1 rfl (lv_room (Nat.le_of_ble_eq_true rfl)) dk_L_put_3 ⟨(room_ok hc1 rfl), (room_ok hc2 rfl)⟩) hS (fun q _ h => hFc q h) hFc (fun r0 u t H1 locs hte hvm hz hB hsz hkp hS => ?_)
  have hP := ws_kept hP hkp
  generalize H1 = H at hP hS ⊢
  have hP : va_P D vwCl ([(b, .inr (9, [.ref db, .int 0, .int 0, .int 0])), (db, .inl (kC 2, n, .inl g))] ++ am_ws al kC layX (ptF F 0) (ptA (lt (pdL T)) A0 0)) H := hP
  have hD : va_D A ([(b, .inr (9, [.ref db, .int 0, .int 0, .int 0])), (db, .inl (kC 2, n, .inl g))] ++ am_ws al kC layX (ptF F 0) (ptA (lt (pdL T)) A0 0)) := hD
  refine W.widen (k := cells + 0) (n := slots + 0) (Nat.le_of_eq (Nat.add_assoc _ _ _)) (Nat.le_of_eq (Nat.add_assoc _ _ _)) ?_
  subst hz
  refine lv_bipush (v := 20) hx hb dk_L_put_6 (by decide) ?_
  refine lv_irem hx hb dk_L_put_8 (by decide) ?_
  rw [show (((nI n) - (nI n) / 20 * 20) : Int32) = nI (n % 20) from by rw [show (20 : Int32) = nI 20 from rfl, ir_c (by omega) (by omega)]]
  refine lv_if_eq (tgt := 35) hx hb dk_L_put_9 rfl (fun q => absurd q (fun z => h20 ((nI_eq (a := n % 20) (b := 0) (by omega) (by decide)).mp z))) (fun _ => ?_)
  refine va_new (ci := 10) (fs := [.null, .int 0, .int 0, .int 0]) (C := RJ4) (T := TJ4) (N := 4) hx hb hts qwJ4 tyJ4 tyJ4_ok hown (hts _ (am_tb_at 288 (by decide +kernel) rfl)) (hts _ (am_tb_at 289 (by decide +kernel) rfl)) (hts _ (am_tb_at 46 (by decide +kernel) rfl)) hK hP hD hS hA rfl (fun j hj => by rcases (show j = 0 ∨ j = 1 ∨ j = 2 ∨ j = 3 by omega) with rfl | rfl | rfl | rfl <;> rfl) (room_ok hc1 rfl) (room_ok hc2 rfl) dk_L_put_12 (fun q1 H hP hD hS => ?_)
  refine W.widen (k := cells + 1) (n := slots + 4) (Nat.le_of_eq (Nat.add_assoc _ _ _)) (Nat.le_of_eq (Nat.add_assoc _ _ _)) ?_
  have hP := va_P.swap hP
  have hD := va_D.swap hD
  have hP : va_P D vwCl ([(b, .inr (9, [.ref db, .int 0, .int 0, .int 0])), (db, .inl (kC 2, n, .inl g)), (q1, .inr (10, [.null, .int 0, .int 0, .int 0]))] ++ am_ws al kC layX (ptF F 0) (ptA (lt (pdL T)) A0 0)) H := hP
  have hD : va_D A ([(b, .inr (9, [.ref db, .int 0, .int 0, .int 0])), (db, .inl (kC 2, n, .inl g)), (q1, .inr (10, [.null, .int 0, .int 0, .int 0]))] ++ am_ws al kC layX (ptF F 0) (ptA (lt (pdL T)) A0 0)) := hD
  refine lv_dup hx hb dk_L_put_15 rfl ?_
  have hPc := hP.sub (ws' := [(q1, .inr (10, [.null, .int 0, .int 0, .int 0]))]) [2] rfl
  have hDc := hD.sub (ws' := [(q1, .inr (10, [.null, .int 0, .int 0, .int 0]))]) [2] (by decide) rfl
  have hFc := va_free (wc := [(q1, .inr (10, [.null, .int 0, .int 0, .int 0]))]) hD hS hA [2] rfl
  refine va_callv (va_runI (As := []) (rest := [.ref q1]) ⟨hx, hb, hml, hown, hts⟩ (sk_sbN l D kC q1 H.size) ⟨am_callB (R := jr 15 140 306000) (index := 16) 0 (jk_pay htj (am_tb_at 292 (by decide +kernel) rfl)) (hts _ (am_tb_at 292 (by decide +kernel) rfl)) rfl rfl rfl (hts _ (am_tb_at 46 (by decide +kernel) rfl)) (hts _ (am_tb_at 290 (by decide +kernel) rfl)) ⟨by decide, by decide, by decide +kernel⟩ ⟨(by show 4 + 1 ≤ 15; decide), (by show 8 + (1 + 11) + 48 * 4 ≤ 48 * 15; decide)⟩, rfl, (hts _ (am_tb_at 291 (by decide +kernel) rfl))⟩ (ws_S Stb_G hPc hK hDc (fun U hU hW => ws_E Stb_G hE.1.1 hS hU hW hFc)) rfl rfl hl.1 rfl (lv_room (Nat.le_of_ble_eq_true rfl)) dk_L_put_16 ⟨(room_ok hc1 rfl), (room_ok hc2 rfl)⟩) hS (fun q _ h => hFc q h) hFc (fun b1_0 t H1 locs hte hvm hz hB hsz hkp hS => ?_)
  obtain ⟨hP1, hD1⟩ := hB
  rw [hte] at hP1
  obtain ⟨hP, hD⟩ := va_joinQ (X := [(b, .inr (9, [.ref db, .int 0, .int 0, .int 0])), (db, .inl (kC 2, n, .inl g)), (q1, .inr (10, [.null, .int 0, .int 0, .int 0]))]) (pl := am_ws al kC layX (ptF F 0) (ptA (lt (pdL T)) A0 0)) (wr := [(b, .inr (9, [.ref db, .int 0, .int 0, .int 0])), (db, .inl (kC 2, n, .inl g))]) (w1 := [(q1, .inr (10, [.ref b1_0, .int 0, .int 0, .int (nI 0)])), (b1_0, .inl (kC 2, 16, .inl (fun _ => 0)))]) hP hD [2] [0, 1] rfl rfl (by decide) (by decide) hkp hFc hP1 hD1
  generalize H1 = H at hP hS ⊢
  have hP : va_P D vwCl ([(b, .inr (9, [.ref db, .int 0, .int 0, .int 0])), (db, .inl (kC 2, n, .inl g)), (q1, .inr (10, [.ref b1_0, .int 0, .int 0, .int (nI 0)])), (b1_0, .inl (kC 2, 16, .inl (fun _ => 0)))] ++ am_ws al kC layX (ptF F 0) (ptA (lt (pdL T)) A0 0)) H := hP
  have hD : va_D A ([(b, .inr (9, [.ref db, .int 0, .int 0, .int 0])), (db, .inl (kC 2, n, .inl g)), (q1, .inr (10, [.ref b1_0, .int 0, .int 0, .int (nI 0)])), (b1_0, .inl (kC 2, 16, .inl (fun _ => 0)))] ++ am_ws al kC layX (ptF F 0) (ptA (lt (pdL T)) A0 0)) := hD
  refine W.widen (k := cells + 2) (n := slots + 4004) (Nat.le_of_eq (Nat.add_assoc _ _ _)) (Nat.le_of_eq (Nat.add_assoc _ _ _)) ?_
  have hw1_0 : 0 ≤ 16 ∧ 16 ≤ 1700 := ⟨by decide, by decide⟩
  have hf1_0 : sb_Fit (fun _ => 0) := sb_fit0
  have hL1_0 : sb_Lat (lt []) 0 (fun _ => 0) := fun j h => absurd h (Nat.not_lt_zero _)
  have hn1_0 : ([] : List Nat).length = 0 := rfl
  refine lv_aload_n hx hb dk_L_put_19 rfl (lv_at hl 0 rfl) ?_
  have hPc := hP.sub (ws' := [(q1, .inr (10, [.ref b1_0, .int 0, .int 0, .int (nI 0)])), (b1_0, .inl (kC 2, 16, .inl (fun _ => 0)))]) [2, 3] rfl
  have hDc := hD.sub (ws' := [(q1, .inr (10, [.ref b1_0, .int 0, .int 0, .int (nI 0)])), (b1_0, .inl (kC 2, 16, .inl (fun _ => 0)))]) [2, 3] (by decide) rfl
  have hFc := va_free (wc := [(q1, .inr (10, [.ref b1_0, .int 0, .int 0, .int (nI 0)])), (b1_0, .inl (kC 2, 16, .inl (fun _ => 0)))]) hD hS hA [2, 3] rfl
  refine va_callr (va_runV (As := [.ref b]) (rest := []) ⟨hx, hb, hml, hown, hts⟩ (sk_sbS l D kC q1 b1_0 16 0 0 (fun _ => 0) b db n (lt S) (lt ([] : List Nat)) hw1_0.1 hw1_0.2 hf1_0 hL1_0 (by omega) H.size) ⟨am_callB (R := jr 15 140 306000) (index := 17) 1 (jk_pay htj (am_tb_at 323 (by decide +kernel) rfl)) (hts _ (am_tb_at 323 (by decide +kernel) rfl)) rfl rfl rfl (hts _ (am_tb_at 46 (by decide +kernel) rfl)) (hts _ (am_tb_at 320 (by decide +kernel) rfl)) ⟨by decide, by decide, by decide +kernel⟩ ⟨(by show 13 + 1 ≤ 15; decide), (by show 8 + (2 + 11) + 48 * 13 ≤ 48 * 15; decide)⟩, (hts _ (am_tb_at 321 (by decide +kernel) rfl)), (hts _ (am_tb_at 322 (by decide +kernel) rfl))⟩ (ws_V (Stb_and Stb_G (Stb_S b db n (lt S))) (va_recv (q := (RJ4, TJ4, 4)) (q0 := 2) hK hP rfl rfl) hPc hK hDc (fun U hU hW => ⟨ws_E Stb_G hE.1.1 hS hU hW hFc, ws_N (Stb_S b db n (lt S)) (ro_S hts hK hP 0 1 rfl rfl hL hf (ws_out hP hD [2, 3] rfl (k := 0) rfl (by decide)) (ws_out hP hD [2, 3] rfl (k := 1) rfl (by decide))) hU hW⟩)) rfl rfl hl.1 rfl (lv_room (Nat.le_of_ble_eq_true rfl)) dk_L_put_20 ⟨(room_ok hc1 rfl), (room_ok hc2 rfl)⟩) hS (fun q _ h => hFc q h) hFc (fun u ra t H1 locs hte hvm hz hB hsz hkp hS => ?_)
  obtain ⟨b1_1, w1_1, g1_1⟩ := u
  obtain ⟨hra, hP1, hD1⟩ := hB
  rw [hte] at hP1
  obtain ⟨hP, hD⟩ := va_joinQ (X := [(b, .inr (9, [.ref db, .int 0, .int 0, .int 0])), (db, .inl (kC 2, n, .inl g)), (q1, .inr (10, [.ref b1_0, .int 0, .int 0, .int (nI 0)])), (b1_0, .inl (kC 2, 16, .inl (fun _ => 0)))]) (pl := am_ws al kC layX (ptF F 0) (ptA (lt (pdL T)) A0 0)) (wr := [(b, .inr (9, [.ref db, .int 0, .int 0, .int 0])), (db, .inl (kC 2, n, .inl g))]) (w1 := [(q1, .inr (10, [.ref b1_1, .int 0, .int 0, .int (nI ((0 + n)))])), (b1_1, .inl (kC 2, w1_1, .inl g1_1))]) hP hD [2, 3] [0, 1] rfl rfl (by decide) (by decide) hkp hFc hP1 hD1
  generalize H1 = H at hP hS ⊢
  have hP : va_P D vwCl ([(b, .inr (9, [.ref db, .int 0, .int 0, .int 0])), (db, .inl (kC 2, n, .inl g)), (q1, .inr (10, [.ref b1_1, .int 0, .int 0, .int (nI ((0 + n)))])), (b1_1, .inl (kC 2, w1_1, .inl g1_1))] ++ am_ws al kC layX (ptF F 0) (ptA (lt (pdL T)) A0 0)) H := hP
  have hD : va_D A ([(b, .inr (9, [.ref db, .int 0, .int 0, .int 0])), (db, .inl (kC 2, n, .inl g)), (q1, .inr (10, [.ref b1_1, .int 0, .int 0, .int (nI ((0 + n)))])), (b1_1, .inl (kC 2, w1_1, .inl g1_1))] ++ am_ws al kC layX (ptF F 0) (ptA (lt (pdL T)) A0 0)) := hD
  refine W.widen (k := cells + 3) (n := slots + 8004) (Nat.le_of_eq (Nat.add_assoc _ _ _)) (Nat.le_of_eq (Nat.add_assoc _ _ _)) ?_
  dsimp only at hz
  obtain ⟨hw1_1, hf1_1, hL0⟩ := hz
  have hy1_1 : (S : List Nat).length = n := hn
  have hL1_1 := ll_cat hn1_0 hy1_1 hL0
  have hn1_1 := ll_len hn1_0 hy1_1
  rw [hra]
  refine va_ldcS hx hb hown hR6 dk_L_put_23 ?_
  have hPc := hP.sub (ws' := [(q1, .inr (10, [.ref b1_1, .int 0, .int 0, .int (nI ((0 + n)))])), (b1_1, .inl (kC 2, w1_1, .inl g1_1))]) [2, 3] rfl
  have hDc := hD.sub (ws' := [(q1, .inr (10, [.ref b1_1, .int 0, .int 0, .int (nI ((0 + n)))])), (b1_1, .inl (kC 2, w1_1, .inl g1_1))]) [2, 3] (by decide) rfl
  have hFc := va_free (wc := [(q1, .inr (10, [.ref b1_1, .int 0, .int 0, .int (nI ((0 + n)))])), (b1_1, .inl (kC 2, w1_1, .inl g1_1))]) hD hS hA [2, 3] rfl
  refine va_callr (va_runV (As := [.ref a6]) (rest := []) ⟨hx, hb, hml, hown, hts⟩ (sk_sbS l D kC q1 b1_1 w1_1 (0 + n) 0 g1_1 a6 d6 1 (lt ([32])) (lt (([] : List Nat) ++ S)) hw1_1.1 hw1_1.2 hf1_1 hL1_1 (by omega) H.size) ⟨am_callB (R := jr 15 140 306000) (index := 17) 1 (jk_pay htj (am_tb_at 323 (by decide +kernel) rfl)) (hts _ (am_tb_at 323 (by decide +kernel) rfl)) rfl rfl rfl (hts _ (am_tb_at 46 (by decide +kernel) rfl)) (hts _ (am_tb_at 320 (by decide +kernel) rfl)) ⟨by decide, by decide, by decide +kernel⟩ ⟨(by show 13 + 1 ≤ 15; decide), (by show 8 + (2 + 11) + 48 * 13 ≤ 48 * 15; decide)⟩, (hts _ (am_tb_at 321 (by decide +kernel) rfl)), (hts _ (am_tb_at 322 (by decide +kernel) rfl))⟩ (ws_V (Stb_and Stb_G (Stb_S a6 d6 1 (lt ([32])))) (va_recv (q := (RJ4, TJ4, 4)) (q0 := 2) hK hP rfl rfl) hPc hK hDc (fun U hU hW => ⟨ws_E Stb_G hE.1.1 hS hU hW hFc, ws_E (Stb_S a6 d6 1 (lt [32])) hS6 hS hU hW hFc⟩)) rfl rfl hl.1 rfl (lv_room (Nat.le_of_ble_eq_true rfl)) dk_L_put_25 ⟨(room_ok hc1 rfl), (room_ok hc2 rfl)⟩) hS (fun q _ h => hFc q h) hFc (fun u ra t H1 locs hte hvm hz hB hsz hkp hS => ?_)
  obtain ⟨b1_2, w1_2, g1_2⟩ := u
  obtain ⟨hra, hP1, hD1⟩ := hB
  rw [hte] at hP1
  obtain ⟨hP, hD⟩ := va_joinQ (X := [(b, .inr (9, [.ref db, .int 0, .int 0, .int 0])), (db, .inl (kC 2, n, .inl g)), (q1, .inr (10, [.ref b1_1, .int 0, .int 0, .int (nI ((0 + n)))])), (b1_1, .inl (kC 2, w1_1, .inl g1_1))]) (pl := am_ws al kC layX (ptF F 0) (ptA (lt (pdL T)) A0 0)) (wr := [(b, .inr (9, [.ref db, .int 0, .int 0, .int 0])), (db, .inl (kC 2, n, .inl g))]) (w1 := [(q1, .inr (10, [.ref b1_2, .int 0, .int 0, .int (nI (((0 + n) + 1)))])), (b1_2, .inl (kC 2, w1_2, .inl g1_2))]) hP hD [2, 3] [0, 1] rfl rfl (by decide) (by decide) hkp hFc hP1 hD1
  generalize H1 = H at hP hS ⊢
  have hP : va_P D vwCl ([(b, .inr (9, [.ref db, .int 0, .int 0, .int 0])), (db, .inl (kC 2, n, .inl g)), (q1, .inr (10, [.ref b1_2, .int 0, .int 0, .int (nI (((0 + n) + 1)))])), (b1_2, .inl (kC 2, w1_2, .inl g1_2))] ++ am_ws al kC layX (ptF F 0) (ptA (lt (pdL T)) A0 0)) H := hP
  have hD : va_D A ([(b, .inr (9, [.ref db, .int 0, .int 0, .int 0])), (db, .inl (kC 2, n, .inl g)), (q1, .inr (10, [.ref b1_2, .int 0, .int 0, .int (nI (((0 + n) + 1)))])), (b1_2, .inl (kC 2, w1_2, .inl g1_2))] ++ am_ws al kC layX (ptF F 0) (ptA (lt (pdL T)) A0 0)) := hD
  refine W.widen (k := cells + 4) (n := slots + 12004) (Nat.le_of_eq (Nat.add_assoc _ _ _)) (Nat.le_of_eq (Nat.add_assoc _ _ _)) ?_
  dsimp only at hz
  obtain ⟨hw1_2, hf1_2, hL0⟩ := hz
  have hy1_2 : ([32] : List Nat).length = 1 := rfl
  have hL1_2 := ll_cat hn1_1 hy1_2 hL0
  have hn1_2 := ll_len hn1_1 hy1_2
  rw [hra]
  have hPc : va_P D vwCl [] H := ws_nP
  have hDc : va_D A [] := ws_nD
  have hFc : ∀ q, va_A [] H.size q → A q := fun q h => hA q (Nat.le_trans hS.1 (ws_nA h))
  refine va_callr (va_runV (As := []) (rest := []) ⟨hx, hb, hml, hown, hts⟩ (sk_toS l D kC q1 b1_2 w1_2 (((0 + n) + 1)) g1_2 (lt ((([] : List Nat) ++ S) ++ [32])) hw1_2.1 (by omega) hf1_2 hL1_2 H.size) ⟨am_callB (R := jr 15 140 306000) (index := 23) 0 (jk_pay htj (am_tb_at 476 (by decide +kernel) rfl)) (hts _ (am_tb_at 476 (by decide +kernel) rfl)) rfl rfl rfl (hts _ (am_tb_at 46 (by decide +kernel) rfl)) (hts _ (am_tb_at 473 (by decide +kernel) rfl)) ⟨by decide, by decide, by decide +kernel⟩ ⟨(by show 10 + 1 ≤ 15; decide), (by show 8 + (1 + 11) + 48 * 10 ≤ 48 * 15; decide)⟩, (hts _ (am_tb_at 474 (by decide +kernel) rfl)), (hts _ (am_tb_at 475 (by decide +kernel) rfl))⟩ (ws_V (Stb_and Stb_G (Stb_B kC q1 b1_2 w1_2 (((0 + n) + 1)) g1_2)) (va_recv (q := (RJ4, TJ4, 4)) (q0 := 2) hK hP rfl rfl) hPc hK hDc (fun U hU hW => ⟨ws_E Stb_G hE.1.1 hS hU hW hFc, ws_N (Stb_B kC q1 b1_2 w1_2 (((0 + n) + 1)) g1_2) (ro_B hts hK hP 2 3 rfl rfl (ws_n0 hP 2 rfl) (ws_n0 hP 3 rfl)) hU hW⟩)) rfl rfl hl.1 rfl (lv_room (Nat.le_of_ble_eq_true rfl)) dk_L_put_28 ⟨(room_ok hc1 rfl), (room_ok hc2 rfl)⟩) hS (fun q _ h => hFc q h) hFc (fun u s1 t H1 locs hte hvm hz hB hsz hkp hS => ?_)
  obtain ⟨ds1, gs1⟩ := u
  obtain ⟨hP1, hD1⟩ := hB
  rw [hte] at hP1
  obtain ⟨hP, hD⟩ := va_joinQ (X := [(b, .inr (9, [.ref db, .int 0, .int 0, .int 0])), (db, .inl (kC 2, n, .inl g)), (q1, .inr (10, [.ref b1_2, .int 0, .int 0, .int (nI (((0 + n) + 1)))])), (b1_2, .inl (kC 2, w1_2, .inl g1_2))]) (pl := am_ws al kC layX (ptF F 0) (ptA (lt (pdL T)) A0 0)) (wr := [(b, .inr (9, [.ref db, .int 0, .int 0, .int 0])), (db, .inl (kC 2, n, .inl g)), (q1, .inr (10, [.ref b1_2, .int 0, .int 0, .int (nI (((0 + n) + 1)))])), (b1_2, .inl (kC 2, w1_2, .inl g1_2))]) (w1 := [(s1, .inr (9, [.ref ds1, .int 0, .int 0, .int 0])), (ds1, .inl (kC 2, ((0 + n) + 1), .inl gs1))]) hP hD [] [0, 1, 2, 3] rfl rfl (by decide) (by decide) hkp hFc hP1 hD1
  generalize H1 = H at hP hS ⊢
  have hP : va_P D vwCl ([(b, .inr (9, [.ref db, .int 0, .int 0, .int 0])), (db, .inl (kC 2, n, .inl g)), (q1, .inr (10, [.ref b1_2, .int 0, .int 0, .int (nI (((0 + n) + 1)))])), (b1_2, .inl (kC 2, w1_2, .inl g1_2)), (s1, .inr (9, [.ref ds1, .int 0, .int 0, .int 0])), (ds1, .inl (kC 2, ((0 + n) + 1), .inl gs1))] ++ am_ws al kC layX (ptF F 0) (ptA (lt (pdL T)) A0 0)) H := hP
  have hD : va_D A ([(b, .inr (9, [.ref db, .int 0, .int 0, .int 0])), (db, .inl (kC 2, n, .inl g)), (q1, .inr (10, [.ref b1_2, .int 0, .int 0, .int (nI (((0 + n) + 1)))])), (b1_2, .inl (kC 2, w1_2, .inl g1_2)), (s1, .inr (9, [.ref ds1, .int 0, .int 0, .int 0])), (ds1, .inl (kC 2, ((0 + n) + 1), .inl gs1))] ++ am_ws al kC layX (ptF F 0) (ptA (lt (pdL T)) A0 0)) := hD
  refine W.widen (k := cells + 6) (n := slots + 16014) (Nat.le_of_eq (Nat.add_assoc _ _ _)) (Nat.le_of_eq (Nat.add_assoc _ _ _)) ?_
  dsimp only at hz
  obtain ⟨hfs1, hLs1⟩ := hz
  have hP := va_P.part (X := [(b, .inr (9, [.ref db, .int 0, .int 0, .int 0])), (db, .inl (kC 2, n, .inl g)), (q1, .inr (10, [.ref b1_2, .int 0, .int 0, .int (nI (((0 + n) + 1)))])), (b1_2, .inl (kC 2, w1_2, .inl g1_2)), (s1, .inr (9, [.ref ds1, .int 0, .int 0, .int 0])), (ds1, .inl (kC 2, ((0 + n) + 1), .inl gs1))]) (cx := [(b, .inr (9, [.ref db, .int 0, .int 0, .int 0])), (db, .inl (kC 2, n, .inl g)), (s1, .inr (9, [.ref ds1, .int 0, .int 0, .int 0])), (ds1, .inl (kC 2, ((0 + n) + 1), .inl gs1))]) hP [0, 1, 4, 5] rfl
  have hD := va_D.part (X := [(b, .inr (9, [.ref db, .int 0, .int 0, .int 0])), (db, .inl (kC 2, n, .inl g)), (q1, .inr (10, [.ref b1_2, .int 0, .int 0, .int (nI (((0 + n) + 1)))])), (b1_2, .inl (kC 2, w1_2, .inl g1_2)), (s1, .inr (9, [.ref ds1, .int 0, .int 0, .int 0])), (ds1, .inl (kC 2, ((0 + n) + 1), .inl gs1))]) (cx := [(b, .inr (9, [.ref db, .int 0, .int 0, .int 0])), (db, .inl (kC 2, n, .inl g)), (s1, .inr (9, [.ref ds1, .int 0, .int 0, .int 0])), (ds1, .inl (kC 2, ((0 + n) + 1), .inl gs1))]) hD [0, 1, 4, 5] (by decide) rfl
  have hP := va_P.part (X := [(b, .inr (9, [.ref db, .int 0, .int 0, .int 0])), (db, .inl (kC 2, n, .inl g)), (s1, .inr (9, [.ref ds1, .int 0, .int 0, .int 0])), (ds1, .inl (kC 2, ((0 + n) + 1), .inl gs1))]) (cx := [(s1, .inr (9, [.ref ds1, .int 0, .int 0, .int 0])), (ds1, .inl (kC 2, ((0 + n) + 1), .inl gs1))]) hP [2, 3] rfl
  have hD := va_D.part (X := [(b, .inr (9, [.ref db, .int 0, .int 0, .int 0])), (db, .inl (kC 2, n, .inl g)), (s1, .inr (9, [.ref ds1, .int 0, .int 0, .int 0])), (ds1, .inl (kC 2, ((0 + n) + 1), .inl gs1))]) (cx := [(s1, .inr (9, [.ref ds1, .int 0, .int 0, .int 0])), (ds1, .inl (kC 2, ((0 + n) + 1), .inl gs1))]) hD [2, 3] (by decide) rfl
  refine lv_astore_n (lv' := [(2, .ref s1), (0, .ref (al 0)), (1, .ref a)]) hx hb dk_L_put_31 rfl hl (by decide) rfl (fun ls hl => ?_)
  refine lv_goto (tgt := 2) hx hb dk_L_put_32 rfl ?_
  have hT : ((([] : List Nat) ++ S) ++ [32]) = S ++ [32] := by simp
  rw [hT] at hLs1 hn1_2
  have hl : lv_has ls 6 [(2, .ref s1), (0, .ref (al 0)), (1, .ref a)] := lv_sub hl [0, 1, 2] rfl
  exact hk _ _ _ _ _ _ _ _ _ hl hP hD hS hfs1 hLs1 hn1_2 (room_end hc1 rfl) (room_end hc2 rfl)
