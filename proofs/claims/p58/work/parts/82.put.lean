def puHf (p : Program) (l : Launch) (e : Env) (s : State) (m : MethodId) (below : List Frame) (meth : Method) (c : Code) (a d : Nat) (T : List Nat) (D : va_G) (al : Nat → Nat) (kC : Nat → ClassId) (F : FF) (A0 : AA) (A : Nat → Prop) (k i : Nat) (C1 C2 : Nat) : Prop :=
  ∀ (q : Nat) (H : Heap) (locs : List Loc) (ls : Array Slot) (cells slots : Nat), lv_has ls 6 [(5, .int (nI i)), (4, .ref q), (3, .int (nI k)), (2, .ref a), (0, .ref (al 0)), (1, .ref a)] → va_P D vwCl ([(q, .inl (kC 0, 5, .inl (pkG (lt (pdL T)) k i)))] ++ am_ws al kC layX (ptF F k) (ptA (lt (pdL T)) A0 k)) H → va_D A ([(q, .inl (kC 0, 5, .inl (pkG (lt (pdL T)) k i)))] ++ am_ws al kC layX (ptF F k) (ptA (lt (pdL T)) A0 k)) → va_S A s.heap H locs → cells + C1 ≤ 140 → slots + C2 ≤ 306000 →
  W p l e (jr 15 140 306000) s m #[Value.ref (al 0), .ref a] below meth c H locs cells slots (MQ below (va_Qv (S := Unit) (fun _ => True) (fun _ t => va_P D vwCl (am_ws al kC layX (ptF F ((T.length + nd20 T.length))) (ptA (lt (pdL T)) A0 ((T.length + nd20 T.length)))) t.heap ∧ va_D A (am_ws al kC layX (ptF F ((T.length + nd20 T.length))) (ptA (lt (pdL T)) A0 ((T.length + nd20 T.length))))) A) #[Value.ref (al 0), .ref a] s 140 306000 A) (F0 m 53 ls [])
def puHw (p : Program) (l : Launch) (e : Env) (s : State) (m : MethodId) (below : List Frame) (meth : Method) (c : Code) (a d : Nat) (T : List Nat) (D : va_G) (al : Nat → Nat) (kC : Nat → ClassId) (F : FF) (A0 : AA) (A : Nat → Prop) (k i : Nat) (C1 C2 : Nat) : Prop :=
  ∀ (b db n : Nat) (g : Nat → Int32) (q : Nat) (H : Heap) (locs : List Loc) (ls : Array Slot) (cells slots : Nat), lv_has ls 6 [(5, .int (nI i)), (4, .ref q), (3, .int (nI k)), (2, .ref b), (0, .ref (al 0)), (1, .ref a)] → va_P D vwCl ([(b, .inr (9, [.ref db, .int 0, .int 0, .int 0])), (db, .inl (kC 2, n, .inl g)), (q, .inl (kC 0, 5, .inl (pkG (lt (pdL T)) k i)))] ++ am_ws al kC layX (ptF F k) (ptA (lt (pdL T)) A0 k)) H → va_D A ([(b, .inr (9, [.ref db, .int 0, .int 0, .int 0])), (db, .inl (kC 2, n, .inl g)), (q, .inl (kC 0, 5, .inl (pkG (lt (pdL T)) k i)))] ++ am_ws al kC layX (ptF F k) (ptA (lt (pdL T)) A0 k)) → va_S A s.heap H locs → sb_Fit g → sb_Lat (lt (pdL T)) n g → (pdL T).length = n → cells + C1 ≤ 140 → slots + C2 ≤ 306000 →
  W p l e (jr 15 140 306000) s m #[Value.ref (al 0), .ref a] below meth c H locs cells slots (MQ below (va_Qv (S := Unit) (fun _ => True) (fun _ t => va_P D vwCl (am_ws al kC layX (ptF F ((T.length + nd20 T.length))) (ptA (lt (pdL T)) A0 ((T.length + nd20 T.length)))) t.heap ∧ va_D A (am_ws al kC layX (ptF F ((T.length + nd20 T.length))) (ptA (lt (pdL T)) A0 ((T.length + nd20 T.length))))) A) #[Value.ref (al 0), .ref a] s 140 306000 A) (F0 m 53 ls [])
theorem vt_P {D : va_G} {cl : List vw_C} {X pl : va_W} {H : Heap} (h : va_P D cl (X ++ pl) H) : va_P D cl pl H := by
  have h1 := va_P.part (X := X) (cx := []) h [] rfl
  rwa [List.nil_append] at h1
theorem vt_D {A0 : Nat → Prop} {X pl : va_W} (h : va_D A0 (X ++ pl)) : va_D A0 pl := by
  have h1 := va_D.part (X := X) (cx := []) h [] rfl rfl
  rwa [List.nil_append] at h1
theorem vt_F {A0 : Nat → Prop} {X pl : va_W} {H0 H : Heap} {locs : List Loc} (hD : va_D A0 (X ++ pl)) (hS : va_S A0 H0 H locs) (hA : ∀ q, H0.size ≤ q → A0 q) : ∀ q, va_A pl H.size q → A0 q := by
  have h1 := va_freeP (X := X) (cx := []) hD hS hA [] rfl
  rwa [List.nil_append] at h1
theorem vt_J {A0 : Nat → Prop} {D : va_G} {cl : List vw_C} {X pl pl1 : va_W} {H H1 : Heap} (hP : va_P D cl (X ++ pl) H) (hD : va_D A0 (X ++ pl)) (isR : List Nat) (hR : isR.map (fun i => X[i]?) = X.map some) (hn : va_nd isR = true)
    (hk : ∀ q : Nat, q < H.size → ¬ va_A pl H.size q → H1[q]? = H[q]?) (hF : ∀ q, va_A pl H.size q → A0 q) (hP1 : va_P D cl pl1 H1) (hD1 : va_D (va_A pl H.size) pl1) : va_P D cl (X ++ pl1) H1 ∧ va_D A0 (X ++ pl1) := by
  have h1 := va_joinP (X := X) (pl := pl) (cx := []) (rx := []) (wr := X) (pl1 := pl1) hP hD [] isR rfl hR hn (fun i _ h => by cases h) (by rw [List.nil_append]; exact hk) (by rw [List.nil_append]; exact hF) (by rw [List.nil_append]; exact hP1) (by rw [List.nil_append, List.nil_append]; exact hD1)
  rwa [List.append_nil] at h1
theorem ptF_7 (F : FF) (k : Nat) : (ptF F k) 7 1 = k := by
  unfold ptF upF
  rw [if_pos ⟨rfl, rfl⟩]
theorem wa_rec {D : va_G} {al : Nat → Nat} {kC : Nat → ClassId} {F : FF} {A : AA} {s : State} {H : Heap} (hK : va_K D vwCl (am_tys kC) s) (hP : va_P D vwCl (am_ws al kC layX F A) H) : ∃ cell : Cell, H[al 0]? = some cell ∧ cell.vm.isStatics = false ∧ s.vm.findClass RX8 = some cell.cls :=
  va_recv (q := (RX8, TX8, 10)) hK hP (ci := 8) rfl (am_ws_get (lay := layX) (o := 0) rfl)
set_option maxHeartbeats 1000000 in
set_option maxRecDepth 100000 in
theorem pt_I1f {p : Program} {l : Launch} {e : Env} {s : State} {m : MethodId} {below : List Frame} {meth : Method} {c : Code} {a d : Nat} {T : List Nat} {D : va_G} {al : Nat → Nat} {kC : Nat → ClassId} {F : FF} {A0 : AA} {A : Nat → Prop} (hEnv : puE p l e s m below meth c a d T D al kC F A0 A) {k i : Nat} (hi : i < 20) (hki : k + i < (pdL T).length) (hTp : pdL T = T) {C1 C2 : Nat} (hk : puHf p l e s m below meth c a d T D al kC F A0 A k (i + 1) (C1) (C2)) : puHf p l e s m below meth c a d T D al kC F A0 A k i (C1 + 0) (C2 + 0) := by
  obtain ⟨⟨hTL, ht8⟩, hx, hb, hr, hlocks, hml, htj, hown, hK, hA, hE⟩ := hEnv
  have hts := fun w (hw : w ∈ am_tb) => htj w (jk_in hw)
  obtain ⟨-, -, -, -, -, ⟨a6, d6, hR6, hS6⟩, -⟩ := id hE.2
  intro q H locs ls cells slots hl hP hD hS hc1 hc2
  refine W.widen (k := cells + 0) (n := slots + 0) (Nat.le_refl _) (Nat.le_refl _) ?_
  have hl : lv_has ls 6 [(5, .int (nI i)), (4, .ref q), (3, .int (nI k)), (2, .ref a), (0, .ref (al 0)), (1, .ref a)] := hl
  have hP : va_P D vwCl ([(q, .inl (kC 0, 5, .inl (pkG (lt (pdL T)) k i)))] ++ am_ws al kC layX (ptF F k) (ptA (lt (pdL T)) A0 k)) H := hP
  have hD : va_D A ([(q, .inl (kC 0, 5, .inl (pkG (lt (pdL T)) k i)))] ++ am_ws al kC layX (ptF F k) (ptA (lt (pdL T)) A0 k)) := hD
  have hk4 : k + i < 400 := by have := pdL_len T; have : nd20 T.length < 20 := Nat.mod_lt _ (by decide); omega
  refine lv_iload hx hb dk_L_put_53 (lv_at hl 0 rfl) ?_
  refine lv_bipush (v := 20) hx hb dk_L_put_55 (by decide) ?_
  refine lv_icmp_ge (tgt := 95) hx hb dk_L_put_57 rfl (fun q => absurd q (fun z => absurd ((nI_leI (a := 20) (by decide) (by omega)).mp z) (by omega))) (fun _ => ?_)
  refine lv_aload hx hb dk_L_put_60 (lv_at hl 1 rfl) ?_
  refine lv_iload hx hb dk_L_put_62 (lv_at hl 0 rfl) ?_
  refine lv_iconst (v := 4) hx hb dk_L_put_64 (by decide) ?_
  refine lv_idiv hx hb dk_L_put_65 (by decide) ?_
  rw [show (((nI i) / 4) : Int32) = nI (i / 4) from by rw [show (4 : Int32) = nI 4 from rfl, nI_div (by omega) (by omega)]]
  refine lv_dup2_11 hx hb dk_L_put_66 rfl rfl ?_
  refine va_iald hx hb hK hP 0 0 rfl rfl (vp_in_nI (n := (i / 4)) (N := 5) (by omega) (by omega)) dk_L_put_67 ?_
  rw [nI_clamp (n := (i / 4)) (by omega)]
  rw [show ((pkG (lt (pdL T)) k i (i / 4)) : Int32) = nI (pkN (lt (pdL T)) k i (i / 4)) from rfl]
  refine lv_aload_n hx hb dk_L_put_68 rfl (lv_at hl 3 rfl) ?_
  refine lv_iload_n hx hb dk_L_put_69 rfl (lv_at hl 2 rfl) ?_
  refine lv_iload hx hb dk_L_put_70 (lv_at hl 0 rfl) ?_
  refine lv_iadd hx hb dk_L_put_72 ?_
  rw [show (((nI k) + (nI i)) : Int32) = nI (k + i) from (nI_add k i)]
  have hPc : va_P D vwCl [] H := ws_nP
  have hDc : va_D A [] := ws_nD
  have hFc : ∀ q, va_A [] H.size q → A q := fun q h => hA q (Nat.le_trans hS.1 (ws_nA h))
  refine va_calli (va_runV (As := [.int (nI (k + i))]) (rest := [.int (nI (pkN (lt (pdL T)) k i (i / 4))), .int (nI (i / 4)), .ref q]) ⟨hx, hb, hml, hown, hts⟩ (sk_chr l D kC a d T.length (lt T) (k + i) (by rw [hTp] at hki; omega) (by omega) H.size) ⟨am_callB (R := jr 15 140 306000) (index := 27) 1 (jk_pay htj (am_tb_at 583 (by decide +kernel) rfl)) (hts _ (am_tb_at 583 (by decide +kernel) rfl)) rfl rfl rfl (hts _ (am_tb_at 47 (by decide +kernel) rfl)) (hts _ (am_tb_at 580 (by decide +kernel) rfl)) ⟨by decide, by decide, by decide +kernel⟩ ⟨(by show 4 + 1 ≤ 15; decide), (by show 8 + (2 + 11) + 48 * 4 ≤ 48 * 15; decide)⟩, (hts _ (am_tb_at 581 (by decide +kernel) rfl)), (hts _ (am_tb_at 582 (by decide +kernel) rfl))⟩ (ws_V (Stb_and Stb_G (Stb_S a d T.length (lt T))) (ro_rec hE.1.2.1 hS) hPc hK hDc (fun U hU hW => ⟨ws_E Stb_G hE.1.1 hS hU hW hFc, ws_E (Stb_S a d T.length (lt T)) hE.1.2 hS hU hW hFc⟩)) rfl rfl hl.1 rfl (lv_room (Nat.le_of_ble_eq_true rfl)) dk_L_put_73 ⟨(room_ok hc1 rfl), (room_ok hc2 rfl)⟩) hS (fun q _ h => hFc q h) hFc (fun r0 u t H1 locs hte hvm hz hB hsz hkp hS => ?_)
  have hP := ws_kept hP hkp
  generalize H1 = H at hP hS ⊢
  have hP : va_P D vwCl ([(q, .inl (kC 0, 5, .inl (pkG (lt (pdL T)) k i)))] ++ am_ws al kC layX (ptF F k) (ptA (lt (pdL T)) A0 k)) H := hP
  have hD : va_D A ([(q, .inl (kC 0, 5, .inl (pkG (lt (pdL T)) k i)))] ++ am_ws al kC layX (ptF F k) (ptA (lt (pdL T)) A0 k)) := hD
  refine W.widen (k := cells + 0) (n := slots + 0) (Nat.le_of_eq (Nat.add_assoc _ _ _)) (Nat.le_of_eq (Nat.add_assoc _ _ _)) ?_
  subst hz
  rw [show ((nI (lt T (k + i))) : Int32) = nI (lt (pdL T) (k + i)) from by rw [hTp]]
  refine lv_bipush (v := 24) hx hb dk_L_put_76 (by decide) ?_
  refine lv_bipush (v := 8) hx hb dk_L_put_78 (by decide) ?_
  refine lv_iload hx hb dk_L_put_80 (lv_at hl 0 rfl) ?_
  refine lv_iconst (v := 4) hx hb dk_L_put_82 (by decide) ?_
  refine lv_irem hx hb dk_L_put_83 (by decide) ?_
  rw [show (((nI i) - (nI i) / 4 * 4) : Int32) = nI (i % 4) from by rw [show (4 : Int32) = nI 4 from rfl, ir_c (by omega) (by omega)]]
  refine lv_imul hx hb dk_L_put_84 ?_
  refine lv_isub hx hb dk_L_put_85 ?_
  refine lv_ishl hx hb dk_L_put_86 ?_
  rw [show ((((nI (lt (pdL T) (k + i))) : Int32) <<< (((24 - (8 * (nI (i % 4)))) : Int32) &&& 31)) : Int32) = nI (lt (pdL T) (k + i) * 2 ^ (24 - 8 * (i % 4))) from sh_c]
  refine lv_ior hx hb dk_L_put_87 ?_
  refine va_iast hx hb hK hP hD hS 0 0 rfl rfl (vp_in_nI (n := i / 4) (N := 5) (by omega) (by omega)) dk_L_put_88 (fun H locs hP hD hS => ?_)
  rw [nI_clamp (n := i / 4) (by omega), pkG_s ht8] at hP hD
  have hP : va_P D vwCl ([(q, .inl (kC 0, 5, .inl (pkG (lt (pdL T)) k (i + 1))))] ++ am_ws al kC layX (ptF F k) (ptA (lt (pdL T)) A0 k)) H := hP
  have hD : va_D A ([(q, .inl (kC 0, 5, .inl (pkG (lt (pdL T)) k (i + 1))))] ++ am_ws al kC layX (ptF F k) (ptA (lt (pdL T)) A0 k)) := hD
  refine lv_iinc (k := 0) (v := nI (i + 1)) (lv' := [(5, .int (nI (i + 1))), (4, .ref q), (3, .int (nI k)), (2, .ref a), (0, .ref (al 0)), (1, .ref a)]) hx hb dk_L_put_89 hl rfl (nI_1 i) (by decide) rfl (fun ls hl => ?_)
  refine lv_goto (tgt := 53) hx hb dk_L_put_92 rfl ?_
  have hl : lv_has ls 6 [(5, .int (nI (i + 1))), (4, .ref q), (3, .int (nI k)), (2, .ref a), (0, .ref (al 0)), (1, .ref a)] := lv_sub hl [0, 1, 2, 3, 4, 5] rfl
  exact hk _ _ _ _ _ _ hl hP hD hS (room_end hc1 rfl) (room_end hc2 rfl)
set_option maxHeartbeats 1000000 in
set_option maxRecDepth 100000 in
theorem pt_I0f {p : Program} {l : Launch} {e : Env} {s : State} {m : MethodId} {below : List Frame} {meth : Method} {c : Code} {a d : Nat} {T : List Nat} {D : va_G} {al : Nat → Nat} {kC : Nat → ClassId} {F : FF} {A0 : AA} {A : Nat → Prop} (hEnv : puE p l e s m below meth c a d T D al kC F A0 A) {k : Nat} (hk5 : k ≤ 380) {C1 C2 : Nat} (hk : puGf p l e s m below meth c a d T D al kC F A0 A 37 (k + 20) (fun cu => [(3, .int (nI (k + 20))), (2, .ref cu), (0, .ref (al 0)), (1, .ref a)]) (C1) (C2)) : puHf p l e s m below meth c a d T D al kC F A0 A k 20 (C1 + 0) (C2 + 0) := by
  obtain ⟨⟨hTL, ht8⟩, hx, hb, hr, hlocks, hml, htj, hown, hK, hA, hE⟩ := hEnv
  have hts := fun w (hw : w ∈ am_tb) => htj w (jk_in hw)
  obtain ⟨-, -, -, -, -, ⟨a6, d6, hR6, hS6⟩, -⟩ := id hE.2
  intro q H locs ls cells slots hl hP hD hS hc1 hc2
  refine W.widen (k := cells + 0) (n := slots + 0) (Nat.le_refl _) (Nat.le_refl _) ?_
  have hl : lv_has ls 6 [(5, .int (nI 20)), (4, .ref q), (3, .int (nI k)), (2, .ref a), (0, .ref (al 0)), (1, .ref a)] := hl
  have hP : va_P D vwCl ([(q, .inl (kC 0, 5, .inl (pkG (lt (pdL T)) k 20)))] ++ am_ws al kC layX (ptF F k) (ptA (lt (pdL T)) A0 k)) H := hP
  have hD : va_D A ([(q, .inl (kC 0, 5, .inl (pkG (lt (pdL T)) k 20)))] ++ am_ws al kC layX (ptF F k) (ptA (lt (pdL T)) A0 k)) := hD
  refine lv_iload hx hb dk_L_put_53 (lv_at hl 0 rfl) ?_
  refine lv_bipush (v := 20) hx hb dk_L_put_55 (by decide) ?_
  refine lv_icmp_ge (tgt := 95) hx hb dk_L_put_57 rfl (fun _ => ?_) (fun q => absurd (by decide) q)
  refine lv_aload_n hx hb dk_L_put_95 rfl (lv_at hl 4 rfl) ?_
  refine lv_aload hx hb dk_L_put_96 (lv_at hl 1 rfl) ?_
  refine lv_iconst (v := 0) hx hb dk_L_put_98 (by decide) ?_
  rw [show (0 : Int32) = nI 0 from rfl]
  refine va_iald hx hb hK hP 0 0 rfl rfl (vp_in_nI (n := 0) (N := 5) (by decide) (by omega)) dk_L_put_99 ?_
  rw [nI_clamp (n := 0) (by omega)]
  refine lv_aload hx hb dk_L_put_100 (lv_at hl 1 rfl) ?_
  refine lv_iconst (v := 1) hx hb dk_L_put_102 (by decide) ?_
  rw [show (1 : Int32) = nI 1 from rfl]
  refine va_iald hx hb hK hP 0 0 rfl rfl (vp_in_nI (n := 1) (N := 5) (by decide) (by omega)) dk_L_put_103 ?_
  rw [nI_clamp (n := 1) (by omega)]
  refine lv_aload hx hb dk_L_put_104 (lv_at hl 1 rfl) ?_
  refine lv_iconst (v := 2) hx hb dk_L_put_106 (by decide) ?_
  rw [show (2 : Int32) = nI 2 from rfl]
  refine va_iald hx hb hK hP 0 0 rfl rfl (vp_in_nI (n := 2) (N := 5) (by decide) (by omega)) dk_L_put_107 ?_
  rw [nI_clamp (n := 2) (by omega)]
  refine lv_aload hx hb dk_L_put_108 (lv_at hl 1 rfl) ?_
  refine lv_iconst (v := 3) hx hb dk_L_put_110 (by decide) ?_
  rw [show (3 : Int32) = nI 3 from rfl]
  refine va_iald hx hb hK hP 0 0 rfl rfl (vp_in_nI (n := 3) (N := 5) (by decide) (by omega)) dk_L_put_111 ?_
  rw [nI_clamp (n := 3) (by omega)]
  refine lv_aload hx hb dk_L_put_112 (lv_at hl 1 rfl) ?_
  refine lv_iconst (v := 4) hx hb dk_L_put_114 (by decide) ?_
  rw [show (4 : Int32) = nI 4 from rfl]
  refine va_iald hx hb hK hP 0 0 rfl rfl (vp_in_nI (n := 4) (N := 5) (by decide) (by omega)) dk_L_put_115 ?_
  rw [nI_clamp (n := 4) (by omega)]
  have hPc : va_P D vwCl (am_ws al kC layX (ptF F k) (ptA (lt (pdL T)) A0 k)) H := vt_P hP
  have hDc : va_D A (am_ws al kC layX (ptF F k) (ptA (lt (pdL T)) A0 k)) := vt_D hD
  have hFc : ∀ q, va_A (am_ws al kC layX (ptF F k) (ptA (lt (pdL T)) A0 k)) H.size q → A q := vt_F hD hS hA
  refine va_calli (va_runV (As := [.int (pkG (lt (pdL T)) k 20 0), .int (pkG (lt (pdL T)) k 20 1), .int (pkG (lt (pdL T)) k 20 2), .int (pkG (lt (pdL T)) k 20 3), .int (pkG (lt (pdL T)) k 20 4)]) (rest := []) ⟨hx, hb, hml, hown, hts⟩ (sk_feed l D al kC (ptF F k) (ptA (lt (pdL T)) A0 k) (pkG (lt (pdL T)) k 20 0) (pkG (lt (pdL T)) k 20 1) (pkG (lt (pdL T)) k 20 2) (pkG (lt (pdL T)) k 20 3) (pkG (lt (pdL T)) k 20 4) ⟨by rw [ptF_7]; omega, by rw [ptF_7]; omega⟩ H.size) ⟨am_callB (R := jr 15 140 306000) (index := 31) 5 (am_pay hts (am_tb_at 598 (by decide +kernel) rfl)) (hts _ (am_tb_at 598 (by decide +kernel) rfl)) rfl rfl rfl (hts _ (am_tb_at 35 (by decide +kernel) rfl)) (hts _ (am_tb_at 595 (by decide +kernel) rfl)) ⟨by decide, by decide, by decide +kernel⟩ ⟨(by show 4 + 1 ≤ 15; decide), (by show 8 + (6 + 11) + 48 * 4 ≤ 48 * 15; decide)⟩, (hts _ (am_tb_at 596 (by decide +kernel) rfl)), (hts _ (am_tb_at 597 (by decide +kernel) rfl))⟩ (wa_V (wa_rec hK hPc) hPc hK hDc) rfl rfl hl.1 rfl (lv_room (Nat.le_of_ble_eq_true rfl)) dk_L_put_116 ⟨(room_ok hc1 rfl), (room_ok hc2 rfl)⟩) hS (fun q _ h => hFc q h) hFc (fun r0 u t H1 locs hte hvm hz hB hsz hkp hS => ?_)
  obtain ⟨r1, G1, B1⟩ := u
  obtain ⟨-, hG, hB1⟩ := hz
  dsimp only at hG hB1 hB
  rw [hG, hB1, hte, ptF_s, ptF_7, ptA_s (fun i h0 h1 => fd_pk ht8 h0 h1)] at hB
  have hD1 : va_D (va_A (am_ws al kC layX (ptF F k) (ptA (lt (pdL T)) A0 k)) H.size) (am_ws al kC layX (ptF F (k + 20)) (ptA (lt (pdL T)) A0 (k + 20))) := am_dis_D (am_D_dis hDc.self) _ _
  obtain ⟨hP, hD⟩ := vt_J (X := [(q, .inl (kC 0, 5, .inl (pkG (lt (pdL T)) k 20)))]) (pl := am_ws al kC layX (ptF F k) (ptA (lt (pdL T)) A0 k)) (pl1 := am_ws al kC layX (ptF F (k + 20)) (ptA (lt (pdL T)) A0 (k + 20))) hP hD [0] rfl (by decide) hkp hFc hB hD1
  generalize H1 = H at hP hS ⊢
  have hP : va_P D vwCl ([(q, .inl (kC 0, 5, .inl (pkG (lt (pdL T)) k 20)))] ++ am_ws al kC layX (ptF F (k + 20)) (ptA (lt (pdL T)) A0 (k + 20))) H := hP
  have hD : va_D A ([(q, .inl (kC 0, 5, .inl (pkG (lt (pdL T)) k 20)))] ++ am_ws al kC layX (ptF F (k + 20)) (ptA (lt (pdL T)) A0 (k + 20))) := hD
  refine W.widen (k := cells + 0) (n := slots + 0) (Nat.le_of_eq (Nat.add_assoc _ _ _)) (Nat.le_of_eq (Nat.add_assoc _ _ _)) ?_
  refine lv_pop hx hb dk_L_put_119 rfl ?_
  have hP := va_P.part (X := [(q, .inl (kC 0, 5, .inl (pkG (lt (pdL T)) k 20)))]) (cx := []) hP [] rfl
  have hD := va_D.part (X := [(q, .inl (kC 0, 5, .inl (pkG (lt (pdL T)) k 20)))]) (cx := []) hD [] (by decide) rfl
  refine lv_iinc (k := 2) (v := nI (k + 20)) (lv' := [(3, .int (nI (k + 20))), (5, .int (nI 20)), (4, .ref q), (2, .ref a), (0, .ref (al 0)), (1, .ref a)]) hx hb dk_L_put_120 hl rfl (nI_add k 20) (by decide) rfl (fun ls hl => ?_)
  refine lv_goto (tgt := 37) hx hb dk_L_put_123 rfl ?_
  have hl : lv_has ls 6 [(3, .int (nI (k + 20))), (2, .ref a), (0, .ref (al 0)), (1, .ref a)] := lv_sub hl [0, 3, 4, 5] rfl
  exact hk _ _ _ _ _ hl hP hD hS (room_end hc1 rfl) (room_end hc2 rfl)
set_option maxHeartbeats 1000000 in
set_option maxRecDepth 100000 in
theorem pt_K1f {p : Program} {l : Launch} {e : Env} {s : State} {m : MethodId} {below : List Frame} {meth : Method} {c : Code} {a d : Nat} {T : List Nat} {D : va_G} {al : Nat → Nat} {kC : Nat → ClassId} {F : FF} {A0 : AA} {A : Nat → Prop} (hEnv : puE p l e s m below meth c a d T D al kC F A0 A) {k : Nat} (hk3 : k < (pdL T).length) (hTp : pdL T = T) {C1 C2 : Nat} (hk : puHf p l e s m below meth c a d T D al kC F A0 A k 0 (C1) (C2)) : puGf p l e s m below meth c a d T D al kC F A0 A 37 (k) (fun cu => [(3, .int (nI k)), (2, .ref cu), (0, .ref (al 0)), (1, .ref a)]) (C1 + 1) (C2 + 5) := by
  obtain ⟨⟨hTL, ht8⟩, hx, hb, hr, hlocks, hml, htj, hown, hK, hA, hE⟩ := hEnv
  have hts := fun w (hw : w ∈ am_tb) => htj w (jk_in hw)
  obtain ⟨-, -, -, -, -, ⟨a6, d6, hR6, hS6⟩, -⟩ := id hE.2
  intro H locs ls cells slots hl hP hD hS hc1 hc2
  refine W.widen (k := cells + 0) (n := slots + 0) (Nat.le_refl _) (Nat.le_refl _) ?_
  have hl : lv_has ls 6 [(3, .int (nI k)), (2, .ref a), (0, .ref (al 0)), (1, .ref a)] := hl
  have hP : va_P D vwCl ([] ++ am_ws al kC layX (ptF F k) (ptA (lt (pdL T)) A0 k)) H := hP
  have hD : va_D A ([] ++ am_ws al kC layX (ptF F k) (ptA (lt (pdL T)) A0 k)) := hD
  have hk4 : k < 400 := by have := pdL_len T; have : nd20 T.length < 20 := Nat.mod_lt _ (by decide); omega
  refine lv_iload_n hx hb dk_L_put_37 rfl (lv_at hl 0 rfl) ?_
  refine lv_aload_n hx hb dk_L_put_38 rfl (lv_at hl 1 rfl) ?_
  have hPc : va_P D vwCl [] H := ws_nP
  have hDc : va_D A [] := ws_nD
  have hFc : ∀ q, va_A [] H.size q → A q := fun q h => hA q (Nat.le_trans hS.1 (ws_nA h))
  refine va_calli (va_runV (As := []) (rest := [.int (nI k)]) ⟨hx, hb, hml, hown, hts⟩ (sk_slen l D kC a d T.length (lt T) H.size) ⟨am_callB (R := jr 15 140 306000) (index := 8) 0 (jk_pay htj (am_tb_at 400 (by decide +kernel) rfl)) (hts _ (am_tb_at 400 (by decide +kernel) rfl)) rfl rfl rfl (hts _ (am_tb_at 47 (by decide +kernel) rfl)) (hts _ (am_tb_at 579 (by decide +kernel) rfl)) ⟨by decide, by decide, by decide +kernel⟩ ⟨(by show 2 + 1 ≤ 15; decide), (by show 8 + (1 + 11) + 48 * 2 ≤ 48 * 15; decide)⟩, (hts _ (am_tb_at 398 (by decide +kernel) rfl)), (hts _ (am_tb_at 399 (by decide +kernel) rfl))⟩ (ws_V (Stb_and Stb_G (Stb_S a d T.length (lt T))) (ro_rec hE.1.2.1 hS) hPc hK hDc (fun U hU hW => ⟨ws_E Stb_G hE.1.1 hS hU hW hFc, ws_E (Stb_S a d T.length (lt T)) hE.1.2 hS hU hW hFc⟩)) rfl rfl hl.1 rfl (lv_room (Nat.le_of_ble_eq_true rfl)) dk_L_put_39 ⟨(room_ok hc1 rfl), (room_ok hc2 rfl)⟩) hS (fun q _ h => hFc q h) hFc (fun r0 u t H1 locs hte hvm hz hB hsz hkp hS => ?_)
  have hP := ws_kept hP hkp
  generalize H1 = H at hP hS ⊢
  have hP : va_P D vwCl ([] ++ am_ws al kC layX (ptF F k) (ptA (lt (pdL T)) A0 k)) H := hP
  have hD : va_D A ([] ++ am_ws al kC layX (ptF F k) (ptA (lt (pdL T)) A0 k)) := hD
  refine W.widen (k := cells + 0) (n := slots + 0) (Nat.le_of_eq (Nat.add_assoc _ _ _)) (Nat.le_of_eq (Nat.add_assoc _ _ _)) ?_
  subst hz
  refine lv_icmp_ge (tgt := 126) hx hb dk_L_put_42 rfl (fun q => absurd q (fun z => absurd ((nI_leI (by omega) (by omega)).mp z) (by rw [hTp] at hk3; omega))) (fun _ => ?_)
  refine lv_iconst (v := 5) hx hb dk_L_put_45 (by decide) ?_
  rw [show (5 : Int32) = nI 5 from rfl]
  refine cn_newa (atype := .int) (a0 := (5, .inl fun _ => 0)) hx hb (hts _ (am_tb_at 95 (by decide +kernel) rfl)) rfl hK 0 rfl hP hD hS hA (fun _ => rfl) (nI_pos (by decide)) (nI_clamp (n := 5) (by decide)) (by decide) (room_ok hc1 rfl) (room_ok hc2 rfl) dk_L_put_46 (fun q H hP hD hS => ?_)
  refine W.widen (k := cells + 1) (n := slots + 5) (Nat.le_of_eq (Nat.add_assoc _ _ _)) (Nat.le_of_eq (Nat.add_assoc _ _ _)) ?_
  have hP := va_P.swap hP
  have hD := va_D.swap hD
  have hP : va_P D vwCl ([(q, .inl (kC 0, 5, .inl (pkG (lt (pdL T)) k 0)))] ++ am_ws al kC layX (ptF F k) (ptA (lt (pdL T)) A0 k)) H := hP
  have hD : va_D A ([(q, .inl (kC 0, 5, .inl (pkG (lt (pdL T)) k 0)))] ++ am_ws al kC layX (ptF F k) (ptA (lt (pdL T)) A0 k)) := hD
  refine lv_astore (lv' := [(4, .ref q), (3, .int (nI k)), (2, .ref a), (0, .ref (al 0)), (1, .ref a)]) hx hb dk_L_put_48 hl (by decide) rfl (fun ls hl => ?_)
  refine lv_iconst (v := 0) hx hb dk_L_put_50 (by decide) ?_
  refine lv_istore (lv' := [(5, .int 0), (4, .ref q), (3, .int (nI k)), (2, .ref a), (0, .ref (al 0)), (1, .ref a)]) hx hb dk_L_put_51 hl (by decide) rfl (fun ls hl => ?_)
  have hl : lv_has ls 6 [(5, .int 0), (4, .ref q), (3, .int (nI k)), (2, .ref a), (0, .ref (al 0)), (1, .ref a)] := lv_sub hl [0, 1, 2, 3, 4, 5] rfl
  exact hk _ _ _ _ _ _ hl hP hD hS (room_end hc1 rfl) (room_end hc2 rfl)
set_option maxHeartbeats 1000000 in
set_option maxRecDepth 100000 in
theorem pt_K0f {p : Program} {l : Launch} {e : Env} {s : State} {m : MethodId} {below : List Frame} {meth : Method} {c : Code} {a d : Nat} {T : List Nat} {D : va_G} {al : Nat → Nat} {kC : Nat → ClassId} {F : FF} {A0 : AA} {A : Nat → Prop} (hEnv : puE p l e s m below meth c a d T D al kC F A0 A) {k : Nat} (hk3 : k = (pdL T).length) (hTp : pdL T = T) {C1 C2 : Nat}  : puGf p l e s m below meth c a d T D al kC F A0 A 37 (k) (fun cu => [(3, .int (nI k)), (2, .ref cu), (0, .ref (al 0)), (1, .ref a)]) (C1 + 0) (C2 + 0) := by
  obtain ⟨⟨hTL, ht8⟩, hx, hb, hr, hlocks, hml, htj, hown, hK, hA, hE⟩ := hEnv
  have hts := fun w (hw : w ∈ am_tb) => htj w (jk_in hw)
  obtain ⟨-, -, -, -, -, ⟨a6, d6, hR6, hS6⟩, -⟩ := id hE.2
  intro H locs ls cells slots hl hP hD hS hc1 hc2
  refine W.widen (k := cells + 0) (n := slots + 0) (Nat.le_refl _) (Nat.le_refl _) ?_
  have hl : lv_has ls 6 [(3, .int (nI k)), (2, .ref a), (0, .ref (al 0)), (1, .ref a)] := hl
  have hP : va_P D vwCl ([] ++ am_ws al kC layX (ptF F k) (ptA (lt (pdL T)) A0 k)) H := hP
  have hD : va_D A ([] ++ am_ws al kC layX (ptF F k) (ptA (lt (pdL T)) A0 k)) := hD
  have hk4 : k < 400 := by have := pdL_len T; have : nd20 T.length < 20 := Nat.mod_lt _ (by decide); omega
  refine lv_iload_n hx hb dk_L_put_37 rfl (lv_at hl 0 rfl) ?_
  refine lv_aload_n hx hb dk_L_put_38 rfl (lv_at hl 1 rfl) ?_
  have hPc : va_P D vwCl [] H := ws_nP
  have hDc : va_D A [] := ws_nD
  have hFc : ∀ q, va_A [] H.size q → A q := fun q h => hA q (Nat.le_trans hS.1 (ws_nA h))
  refine va_calli (va_runV (As := []) (rest := [.int (nI k)]) ⟨hx, hb, hml, hown, hts⟩ (sk_slen l D kC a d T.length (lt T) H.size) ⟨am_callB (R := jr 15 140 306000) (index := 8) 0 (jk_pay htj (am_tb_at 400 (by decide +kernel) rfl)) (hts _ (am_tb_at 400 (by decide +kernel) rfl)) rfl rfl rfl (hts _ (am_tb_at 47 (by decide +kernel) rfl)) (hts _ (am_tb_at 579 (by decide +kernel) rfl)) ⟨by decide, by decide, by decide +kernel⟩ ⟨(by show 2 + 1 ≤ 15; decide), (by show 8 + (1 + 11) + 48 * 2 ≤ 48 * 15; decide)⟩, (hts _ (am_tb_at 398 (by decide +kernel) rfl)), (hts _ (am_tb_at 399 (by decide +kernel) rfl))⟩ (ws_V (Stb_and Stb_G (Stb_S a d T.length (lt T))) (ro_rec hE.1.2.1 hS) hPc hK hDc (fun U hU hW => ⟨ws_E Stb_G hE.1.1 hS hU hW hFc, ws_E (Stb_S a d T.length (lt T)) hE.1.2 hS hU hW hFc⟩)) rfl rfl hl.1 rfl (lv_room (Nat.le_of_ble_eq_true rfl)) dk_L_put_39 ⟨(room_ok hc1 rfl), (room_ok hc2 rfl)⟩) hS (fun q _ h => hFc q h) hFc (fun r0 u t H1 locs hte hvm hz hB hsz hkp hS => ?_)
  have hP := ws_kept hP hkp
  generalize H1 = H at hP hS ⊢
  have hP : va_P D vwCl ([] ++ am_ws al kC layX (ptF F k) (ptA (lt (pdL T)) A0 k)) H := hP
  have hD : va_D A ([] ++ am_ws al kC layX (ptF F k) (ptA (lt (pdL T)) A0 k)) := hD
  refine W.widen (k := cells + 0) (n := slots + 0) (Nat.le_of_eq (Nat.add_assoc _ _ _)) (Nat.le_of_eq (Nat.add_assoc _ _ _)) ?_
  subst hz
  refine lv_icmp_ge (tgt := 126) hx hb dk_L_put_42 rfl (fun _ => ?_) (fun q => absurd ((nI_leI (by omega) (by omega)).mpr (by rw [hTp] at hk3; omega)) q)
  have hP := vt_P hP
  have hD := vt_D hD
  rw [hk3, pdL_len] at hP hD
  refine W.widen (k := 140) (n := 306000) (room_le hc1) (room_le hc2) ?_
  exact W.vret hx hb hr (fun t ht hW => ⟨⟨(), rfl, trivial, by rw [ht]; exact hP, hD⟩, hS.F ht⟩) hS.2.2 dk_L_put_126
set_option maxHeartbeats 1000000 in
set_option maxRecDepth 100000 in
theorem pt_I1w {p : Program} {l : Launch} {e : Env} {s : State} {m : MethodId} {below : List Frame} {meth : Method} {c : Code} {a d : Nat} {T : List Nat} {D : va_G} {al : Nat → Nat} {kC : Nat → ClassId} {F : FF} {A0 : AA} {A : Nat → Prop} (hEnv : puE p l e s m below meth c a d T D al kC F A0 A) {k i : Nat} (hi : i < 20) (hki : k + i < (pdL T).length)  {C1 C2 : Nat} (hk : puHw p l e s m below meth c a d T D al kC F A0 A k (i + 1) (C1) (C2)) : puHw p l e s m below meth c a d T D al kC F A0 A k i (C1 + 0) (C2 + 0) := by
  obtain ⟨⟨hTL, ht8⟩, hx, hb, hr, hlocks, hml, htj, hown, hK, hA, hE⟩ := hEnv
  have hts := fun w (hw : w ∈ am_tb) => htj w (jk_in hw)
  obtain ⟨-, -, -, -, -, ⟨a6, d6, hR6, hS6⟩, -⟩ := id hE.2
  intro b db n g q H locs ls cells slots hl hP hD hS hf hL hn hc1 hc2
  refine W.widen (k := cells + 0) (n := slots + 0) (Nat.le_refl _) (Nat.le_refl _) ?_
  have hl : lv_has ls 6 [(5, .int (nI i)), (4, .ref q), (3, .int (nI k)), (2, .ref b), (0, .ref (al 0)), (1, .ref a)] := hl
  have hP : va_P D vwCl ([(b, .inr (9, [.ref db, .int 0, .int 0, .int 0])), (db, .inl (kC 2, n, .inl g)), (q, .inl (kC 0, 5, .inl (pkG (lt (pdL T)) k i)))] ++ am_ws al kC layX (ptF F k) (ptA (lt (pdL T)) A0 k)) H := hP
  have hD : va_D A ([(b, .inr (9, [.ref db, .int 0, .int 0, .int 0])), (db, .inl (kC 2, n, .inl g)), (q, .inl (kC 0, 5, .inl (pkG (lt (pdL T)) k i)))] ++ am_ws al kC layX (ptF F k) (ptA (lt (pdL T)) A0 k)) := hD
  have hn2 : n ≤ 400 := by have := pdL_len T; have : nd20 T.length < 20 := Nat.mod_lt _ (by decide); omega
  have hk4 : k + i < 400 := by have := pdL_len T; have : nd20 T.length < 20 := Nat.mod_lt _ (by decide); omega
  refine lv_iload hx hb dk_L_put_53 (lv_at hl 0 rfl) ?_
  refine lv_bipush (v := 20) hx hb dk_L_put_55 (by decide) ?_
  refine lv_icmp_ge (tgt := 95) hx hb dk_L_put_57 rfl (fun q => absurd q (fun z => absurd ((nI_leI (a := 20) (by decide) (by omega)).mp z) (by omega))) (fun _ => ?_)
  refine lv_aload hx hb dk_L_put_60 (lv_at hl 1 rfl) ?_
  refine lv_iload hx hb dk_L_put_62 (lv_at hl 0 rfl) ?_
  refine lv_iconst (v := 4) hx hb dk_L_put_64 (by decide) ?_
  refine lv_idiv hx hb dk_L_put_65 (by decide) ?_
  rw [show (((nI i) / 4) : Int32) = nI (i / 4) from by rw [show (4 : Int32) = nI 4 from rfl, nI_div (by omega) (by omega)]]
  refine lv_dup2_11 hx hb dk_L_put_66 rfl rfl ?_
  refine va_iald hx hb hK hP 2 0 rfl rfl (vp_in_nI (n := (i / 4)) (N := 5) (by omega) (by omega)) dk_L_put_67 ?_
  rw [nI_clamp (n := (i / 4)) (by omega)]
  rw [show ((pkG (lt (pdL T)) k i (i / 4)) : Int32) = nI (pkN (lt (pdL T)) k i (i / 4)) from rfl]
  refine lv_aload_n hx hb dk_L_put_68 rfl (lv_at hl 3 rfl) ?_
  refine lv_iload_n hx hb dk_L_put_69 rfl (lv_at hl 2 rfl) ?_
  refine lv_iload hx hb dk_L_put_70 (lv_at hl 0 rfl) ?_
  refine lv_iadd hx hb dk_L_put_72 ?_
  rw [show (((nI k) + (nI i)) : Int32) = nI (k + i) from (nI_add k i)]
  have hPc : va_P D vwCl [] H := ws_nP
  have hDc : va_D A [] := ws_nD
  have hFc : ∀ q, va_A [] H.size q → A q := fun q h => hA q (Nat.le_trans hS.1 (ws_nA h))
  refine va_calli (va_runV (As := [.int (nI (k + i))]) (rest := [.int (nI (pkN (lt (pdL T)) k i (i / 4))), .int (nI (i / 4)), .ref q]) ⟨hx, hb, hml, hown, hts⟩ (sk_chr l D kC b db n (lt (pdL T)) (k + i) (by rw [hn] at hki; omega) (by omega) H.size) ⟨am_callB (R := jr 15 140 306000) (index := 27) 1 (jk_pay htj (am_tb_at 583 (by decide +kernel) rfl)) (hts _ (am_tb_at 583 (by decide +kernel) rfl)) rfl rfl rfl (hts _ (am_tb_at 47 (by decide +kernel) rfl)) (hts _ (am_tb_at 580 (by decide +kernel) rfl)) ⟨by decide, by decide, by decide +kernel⟩ ⟨(by show 4 + 1 ≤ 15; decide), (by show 8 + (2 + 11) + 48 * 4 ≤ 48 * 15; decide)⟩, (hts _ (am_tb_at 581 (by decide +kernel) rfl)), (hts _ (am_tb_at 582 (by decide +kernel) rfl))⟩ (ws_V (Stb_and Stb_G (Stb_S b db n (lt (pdL T)))) (va_recv (q := (RJ0, TJ0, 4)) (q0 := 0) hK hP rfl rfl) hPc hK hDc (fun U hU hW => ⟨ws_E Stb_G hE.1.1 hS hU hW hFc, ws_N (Stb_S b db n (lt ((pdL T)))) (ro_S hts hK hP 0 1 rfl rfl hL hf (ws_n0 hP 0 rfl) (ws_n0 hP 1 rfl)) hU hW⟩)) rfl rfl hl.1 rfl (lv_room (Nat.le_of_ble_eq_true rfl)) dk_L_put_73 ⟨(room_ok hc1 rfl), (room_ok hc2 rfl)⟩) hS (fun q _ h => hFc q h) hFc (fun r0 u t H1 locs hte hvm hz hB hsz hkp hS => ?_)
  have hP := ws_kept hP hkp
  generalize H1 = H at hP hS ⊢
  have hP : va_P D vwCl ([(b, .inr (9, [.ref db, .int 0, .int 0, .int 0])), (db, .inl (kC 2, n, .inl g)), (q, .inl (kC 0, 5, .inl (pkG (lt (pdL T)) k i)))] ++ am_ws al kC layX (ptF F k) (ptA (lt (pdL T)) A0 k)) H := hP
  have hD : va_D A ([(b, .inr (9, [.ref db, .int 0, .int 0, .int 0])), (db, .inl (kC 2, n, .inl g)), (q, .inl (kC 0, 5, .inl (pkG (lt (pdL T)) k i)))] ++ am_ws al kC layX (ptF F k) (ptA (lt (pdL T)) A0 k)) := hD
  refine W.widen (k := cells + 0) (n := slots + 0) (Nat.le_of_eq (Nat.add_assoc _ _ _)) (Nat.le_of_eq (Nat.add_assoc _ _ _)) ?_
  subst hz
  refine lv_bipush (v := 24) hx hb dk_L_put_76 (by decide) ?_
  refine lv_bipush (v := 8) hx hb dk_L_put_78 (by decide) ?_
  refine lv_iload hx hb dk_L_put_80 (lv_at hl 0 rfl) ?_
  refine lv_iconst (v := 4) hx hb dk_L_put_82 (by decide) ?_
  refine lv_irem hx hb dk_L_put_83 (by decide) ?_
  rw [show (((nI i) - (nI i) / 4 * 4) : Int32) = nI (i % 4) from by rw [show (4 : Int32) = nI 4 from rfl, ir_c (by omega) (by omega)]]
  refine lv_imul hx hb dk_L_put_84 ?_
  refine lv_isub hx hb dk_L_put_85 ?_
  refine lv_ishl hx hb dk_L_put_86 ?_
  rw [show ((((nI (lt (pdL T) (k + i))) : Int32) <<< (((24 - (8 * (nI (i % 4)))) : Int32) &&& 31)) : Int32) = nI (lt (pdL T) (k + i) * 2 ^ (24 - 8 * (i % 4))) from sh_c]
  refine lv_ior hx hb dk_L_put_87 ?_
  refine va_iast hx hb hK hP hD hS 2 0 rfl rfl (vp_in_nI (n := i / 4) (N := 5) (by omega) (by omega)) dk_L_put_88 (fun H locs hP hD hS => ?_)
  rw [nI_clamp (n := i / 4) (by omega), pkG_s ht8] at hP hD
  have hP : va_P D vwCl ([(b, .inr (9, [.ref db, .int 0, .int 0, .int 0])), (db, .inl (kC 2, n, .inl g)), (q, .inl (kC 0, 5, .inl (pkG (lt (pdL T)) k (i + 1))))] ++ am_ws al kC layX (ptF F k) (ptA (lt (pdL T)) A0 k)) H := hP
  have hD : va_D A ([(b, .inr (9, [.ref db, .int 0, .int 0, .int 0])), (db, .inl (kC 2, n, .inl g)), (q, .inl (kC 0, 5, .inl (pkG (lt (pdL T)) k (i + 1))))] ++ am_ws al kC layX (ptF F k) (ptA (lt (pdL T)) A0 k)) := hD
  refine lv_iinc (k := 0) (v := nI (i + 1)) (lv' := [(5, .int (nI (i + 1))), (4, .ref q), (3, .int (nI k)), (2, .ref b), (0, .ref (al 0)), (1, .ref a)]) hx hb dk_L_put_89 hl rfl (nI_1 i) (by decide) rfl (fun ls hl => ?_)
  refine lv_goto (tgt := 53) hx hb dk_L_put_92 rfl ?_
  have hl : lv_has ls 6 [(5, .int (nI (i + 1))), (4, .ref q), (3, .int (nI k)), (2, .ref b), (0, .ref (al 0)), (1, .ref a)] := lv_sub hl [0, 1, 2, 3, 4, 5] rfl
  exact hk _ _ _ _ _ _ _ _ _ _ hl hP hD hS hf hL hn (room_end hc1 rfl) (room_end hc2 rfl)
set_option maxHeartbeats 1000000 in
set_option maxRecDepth 100000 in
theorem pt_I0w {p : Program} {l : Launch} {e : Env} {s : State} {m : MethodId} {below : List Frame} {meth : Method} {c : Code} {a d : Nat} {T : List Nat} {D : va_G} {al : Nat → Nat} {kC : Nat → ClassId} {F : FF} {A0 : AA} {A : Nat → Prop} (hEnv : puE p l e s m below meth c a d T D al kC F A0 A) {k : Nat} (hk5 : k ≤ 380) {C1 C2 : Nat} (hk : puGw p l e s m below meth c a d T D al kC F A0 A 37 (k + 20) (fun cu => [(3, .int (nI (k + 20))), (2, .ref cu), (0, .ref (al 0)), (1, .ref a)]) (pdL T) (C1) (C2)) : puHw p l e s m below meth c a d T D al kC F A0 A k 20 (C1 + 0) (C2 + 0) := by
  obtain ⟨⟨hTL, ht8⟩, hx, hb, hr, hlocks, hml, htj, hown, hK, hA, hE⟩ := hEnv
  have hts := fun w (hw : w ∈ am_tb) => htj w (jk_in hw)
  obtain ⟨-, -, -, -, -, ⟨a6, d6, hR6, hS6⟩, -⟩ := id hE.2
  intro b db n g q H locs ls cells slots hl hP hD hS hf hL hn hc1 hc2
  refine W.widen (k := cells + 0) (n := slots + 0) (Nat.le_refl _) (Nat.le_refl _) ?_
  have hl : lv_has ls 6 [(5, .int (nI 20)), (4, .ref q), (3, .int (nI k)), (2, .ref b), (0, .ref (al 0)), (1, .ref a)] := hl
  have hP : va_P D vwCl ([(b, .inr (9, [.ref db, .int 0, .int 0, .int 0])), (db, .inl (kC 2, n, .inl g)), (q, .inl (kC 0, 5, .inl (pkG (lt (pdL T)) k 20)))] ++ am_ws al kC layX (ptF F k) (ptA (lt (pdL T)) A0 k)) H := hP
  have hD : va_D A ([(b, .inr (9, [.ref db, .int 0, .int 0, .int 0])), (db, .inl (kC 2, n, .inl g)), (q, .inl (kC 0, 5, .inl (pkG (lt (pdL T)) k 20)))] ++ am_ws al kC layX (ptF F k) (ptA (lt (pdL T)) A0 k)) := hD
  refine lv_iload hx hb dk_L_put_53 (lv_at hl 0 rfl) ?_
  refine lv_bipush (v := 20) hx hb dk_L_put_55 (by decide) ?_
  refine lv_icmp_ge (tgt := 95) hx hb dk_L_put_57 rfl (fun _ => ?_) (fun q => absurd (by decide) q)
  refine lv_aload_n hx hb dk_L_put_95 rfl (lv_at hl 4 rfl) ?_
  refine lv_aload hx hb dk_L_put_96 (lv_at hl 1 rfl) ?_
  refine lv_iconst (v := 0) hx hb dk_L_put_98 (by decide) ?_
  rw [show (0 : Int32) = nI 0 from rfl]
  refine va_iald hx hb hK hP 2 0 rfl rfl (vp_in_nI (n := 0) (N := 5) (by decide) (by omega)) dk_L_put_99 ?_
  rw [nI_clamp (n := 0) (by omega)]
  refine lv_aload hx hb dk_L_put_100 (lv_at hl 1 rfl) ?_
  refine lv_iconst (v := 1) hx hb dk_L_put_102 (by decide) ?_
  rw [show (1 : Int32) = nI 1 from rfl]
  refine va_iald hx hb hK hP 2 0 rfl rfl (vp_in_nI (n := 1) (N := 5) (by decide) (by omega)) dk_L_put_103 ?_
  rw [nI_clamp (n := 1) (by omega)]
  refine lv_aload hx hb dk_L_put_104 (lv_at hl 1 rfl) ?_
  refine lv_iconst (v := 2) hx hb dk_L_put_106 (by decide) ?_
  rw [show (2 : Int32) = nI 2 from rfl]
  refine va_iald hx hb hK hP 2 0 rfl rfl (vp_in_nI (n := 2) (N := 5) (by decide) (by omega)) dk_L_put_107 ?_
  rw [nI_clamp (n := 2) (by omega)]
  refine lv_aload hx hb dk_L_put_108 (lv_at hl 1 rfl) ?_
  refine lv_iconst (v := 3) hx hb dk_L_put_110 (by decide) ?_
  rw [show (3 : Int32) = nI 3 from rfl]
  refine va_iald hx hb hK hP 2 0 rfl rfl (vp_in_nI (n := 3) (N := 5) (by decide) (by omega)) dk_L_put_111 ?_
  rw [nI_clamp (n := 3) (by omega)]
  refine lv_aload hx hb dk_L_put_112 (lv_at hl 1 rfl) ?_
  refine lv_iconst (v := 4) hx hb dk_L_put_114 (by decide) ?_
  rw [show (4 : Int32) = nI 4 from rfl]
  refine va_iald hx hb hK hP 2 0 rfl rfl (vp_in_nI (n := 4) (N := 5) (by decide) (by omega)) dk_L_put_115 ?_
  rw [nI_clamp (n := 4) (by omega)]
  have hPc : va_P D vwCl (am_ws al kC layX (ptF F k) (ptA (lt (pdL T)) A0 k)) H := vt_P hP
  have hDc : va_D A (am_ws al kC layX (ptF F k) (ptA (lt (pdL T)) A0 k)) := vt_D hD
  have hFc : ∀ q, va_A (am_ws al kC layX (ptF F k) (ptA (lt (pdL T)) A0 k)) H.size q → A q := vt_F hD hS hA
  refine va_calli (va_runV (As := [.int (pkG (lt (pdL T)) k 20 0), .int (pkG (lt (pdL T)) k 20 1), .int (pkG (lt (pdL T)) k 20 2), .int (pkG (lt (pdL T)) k 20 3), .int (pkG (lt (pdL T)) k 20 4)]) (rest := []) ⟨hx, hb, hml, hown, hts⟩ (sk_feed l D al kC (ptF F k) (ptA (lt (pdL T)) A0 k) (pkG (lt (pdL T)) k 20 0) (pkG (lt (pdL T)) k 20 1) (pkG (lt (pdL T)) k 20 2) (pkG (lt (pdL T)) k 20 3) (pkG (lt (pdL T)) k 20 4) ⟨by rw [ptF_7]; omega, by rw [ptF_7]; omega⟩ H.size) ⟨am_callB (R := jr 15 140 306000) (index := 31) 5 (am_pay hts (am_tb_at 598 (by decide +kernel) rfl)) (hts _ (am_tb_at 598 (by decide +kernel) rfl)) rfl rfl rfl (hts _ (am_tb_at 35 (by decide +kernel) rfl)) (hts _ (am_tb_at 595 (by decide +kernel) rfl)) ⟨by decide, by decide, by decide +kernel⟩ ⟨(by show 4 + 1 ≤ 15; decide), (by show 8 + (6 + 11) + 48 * 4 ≤ 48 * 15; decide)⟩, (hts _ (am_tb_at 596 (by decide +kernel) rfl)), (hts _ (am_tb_at 597 (by decide +kernel) rfl))⟩ (wa_V (wa_rec hK hPc) hPc hK hDc) rfl rfl hl.1 rfl (lv_room (Nat.le_of_ble_eq_true rfl)) dk_L_put_116 ⟨(room_ok hc1 rfl), (room_ok hc2 rfl)⟩) hS (fun q _ h => hFc q h) hFc (fun r0 u t H1 locs hte hvm hz hB hsz hkp hS => ?_)
  obtain ⟨r1, G1, B1⟩ := u
  obtain ⟨-, hG, hB1⟩ := hz
  dsimp only at hG hB1 hB
  rw [hG, hB1, hte, ptF_s, ptF_7, ptA_s (fun i h0 h1 => fd_pk ht8 h0 h1)] at hB
  have hD1 : va_D (va_A (am_ws al kC layX (ptF F k) (ptA (lt (pdL T)) A0 k)) H.size) (am_ws al kC layX (ptF F (k + 20)) (ptA (lt (pdL T)) A0 (k + 20))) := am_dis_D (am_D_dis hDc.self) _ _
  obtain ⟨hP, hD⟩ := vt_J (X := [(b, .inr (9, [.ref db, .int 0, .int 0, .int 0])), (db, .inl (kC 2, n, .inl g)), (q, .inl (kC 0, 5, .inl (pkG (lt (pdL T)) k 20)))]) (pl := am_ws al kC layX (ptF F k) (ptA (lt (pdL T)) A0 k)) (pl1 := am_ws al kC layX (ptF F (k + 20)) (ptA (lt (pdL T)) A0 (k + 20))) hP hD [0, 1, 2] rfl (by decide) hkp hFc hB hD1
  generalize H1 = H at hP hS ⊢
  have hP : va_P D vwCl ([(b, .inr (9, [.ref db, .int 0, .int 0, .int 0])), (db, .inl (kC 2, n, .inl g)), (q, .inl (kC 0, 5, .inl (pkG (lt (pdL T)) k 20)))] ++ am_ws al kC layX (ptF F (k + 20)) (ptA (lt (pdL T)) A0 (k + 20))) H := hP
  have hD : va_D A ([(b, .inr (9, [.ref db, .int 0, .int 0, .int 0])), (db, .inl (kC 2, n, .inl g)), (q, .inl (kC 0, 5, .inl (pkG (lt (pdL T)) k 20)))] ++ am_ws al kC layX (ptF F (k + 20)) (ptA (lt (pdL T)) A0 (k + 20))) := hD
  refine W.widen (k := cells + 0) (n := slots + 0) (Nat.le_of_eq (Nat.add_assoc _ _ _)) (Nat.le_of_eq (Nat.add_assoc _ _ _)) ?_
  refine lv_pop hx hb dk_L_put_119 rfl ?_
  have hP := va_P.part (X := [(b, .inr (9, [.ref db, .int 0, .int 0, .int 0])), (db, .inl (kC 2, n, .inl g)), (q, .inl (kC 0, 5, .inl (pkG (lt (pdL T)) k 20)))]) (cx := [(b, .inr (9, [.ref db, .int 0, .int 0, .int 0])), (db, .inl (kC 2, n, .inl g))]) hP [0, 1] rfl
  have hD := va_D.part (X := [(b, .inr (9, [.ref db, .int 0, .int 0, .int 0])), (db, .inl (kC 2, n, .inl g)), (q, .inl (kC 0, 5, .inl (pkG (lt (pdL T)) k 20)))]) (cx := [(b, .inr (9, [.ref db, .int 0, .int 0, .int 0])), (db, .inl (kC 2, n, .inl g))]) hD [0, 1] (by decide) rfl
  refine lv_iinc (k := 2) (v := nI (k + 20)) (lv' := [(3, .int (nI (k + 20))), (5, .int (nI 20)), (4, .ref q), (2, .ref b), (0, .ref (al 0)), (1, .ref a)]) hx hb dk_L_put_120 hl rfl (nI_add k 20) (by decide) rfl (fun ls hl => ?_)
  refine lv_goto (tgt := 37) hx hb dk_L_put_123 rfl ?_
  have hl : lv_has ls 6 [(3, .int (nI (k + 20))), (2, .ref b), (0, .ref (al 0)), (1, .ref a)] := lv_sub hl [0, 3, 4, 5] rfl
  exact hk _ _ _ _ _ _ _ _ _ hl hP hD hS hf hL hn (room_end hc1 rfl) (room_end hc2 rfl)
set_option maxHeartbeats 1000000 in
set_option maxRecDepth 100000 in
theorem pt_K1w {p : Program} {l : Launch} {e : Env} {s : State} {m : MethodId} {below : List Frame} {meth : Method} {c : Code} {a d : Nat} {T : List Nat} {D : va_G} {al : Nat → Nat} {kC : Nat → ClassId} {F : FF} {A0 : AA} {A : Nat → Prop} (hEnv : puE p l e s m below meth c a d T D al kC F A0 A) {k : Nat} (hk3 : k < (pdL T).length)  {C1 C2 : Nat} (hk : puHw p l e s m below meth c a d T D al kC F A0 A k 0 (C1) (C2)) : puGw p l e s m below meth c a d T D al kC F A0 A 37 (k) (fun cu => [(3, .int (nI k)), (2, .ref cu), (0, .ref (al 0)), (1, .ref a)]) (pdL T) (C1 + 1) (C2 + 5) := by
  obtain ⟨⟨hTL, ht8⟩, hx, hb, hr, hlocks, hml, htj, hown, hK, hA, hE⟩ := hEnv
  have hts := fun w (hw : w ∈ am_tb) => htj w (jk_in hw)
  obtain ⟨-, -, -, -, -, ⟨a6, d6, hR6, hS6⟩, -⟩ := id hE.2
  intro b db n g H locs ls cells slots hl hP hD hS hf hL hn hc1 hc2
  refine W.widen (k := cells + 0) (n := slots + 0) (Nat.le_refl _) (Nat.le_refl _) ?_
  have hl : lv_has ls 6 [(3, .int (nI k)), (2, .ref b), (0, .ref (al 0)), (1, .ref a)] := hl
  have hP : va_P D vwCl ([(b, .inr (9, [.ref db, .int 0, .int 0, .int 0])), (db, .inl (kC 2, n, .inl g))] ++ am_ws al kC layX (ptF F k) (ptA (lt (pdL T)) A0 k)) H := hP
  have hD : va_D A ([(b, .inr (9, [.ref db, .int 0, .int 0, .int 0])), (db, .inl (kC 2, n, .inl g))] ++ am_ws al kC layX (ptF F k) (ptA (lt (pdL T)) A0 k)) := hD
  have hn2 : n ≤ 400 := by have := pdL_len T; have : nd20 T.length < 20 := Nat.mod_lt _ (by decide); omega
  have hk4 : k < 400 := by have := pdL_len T; have : nd20 T.length < 20 := Nat.mod_lt _ (by decide); omega
  refine lv_iload_n hx hb dk_L_put_37 rfl (lv_at hl 0 rfl) ?_
  refine lv_aload_n hx hb dk_L_put_38 rfl (lv_at hl 1 rfl) ?_
  have hPc : va_P D vwCl [] H := ws_nP
  have hDc : va_D A [] := ws_nD
  have hFc : ∀ q, va_A [] H.size q → A q := fun q h => hA q (Nat.le_trans hS.1 (ws_nA h))
  refine va_calli (va_runV (As := []) (rest := [.int (nI k)]) ⟨hx, hb, hml, hown, hts⟩ (sk_slen l D kC b db n (lt ((pdL T))) H.size) ⟨am_callB (R := jr 15 140 306000) (index := 8) 0 (jk_pay htj (am_tb_at 400 (by decide +kernel) rfl)) (hts _ (am_tb_at 400 (by decide +kernel) rfl)) rfl rfl rfl (hts _ (am_tb_at 47 (by decide +kernel) rfl)) (hts _ (am_tb_at 579 (by decide +kernel) rfl)) ⟨by decide, by decide, by decide +kernel⟩ ⟨(by show 2 + 1 ≤ 15; decide), (by show 8 + (1 + 11) + 48 * 2 ≤ 48 * 15; decide)⟩, (hts _ (am_tb_at 398 (by decide +kernel) rfl)), (hts _ (am_tb_at 399 (by decide +kernel) rfl))⟩ (ws_V (Stb_and Stb_G (Stb_S b db n (lt ((pdL T))))) (va_recv (q := (RJ0, TJ0, 4)) (q0 := 0) hK hP rfl rfl) hPc hK hDc (fun U hU hW => ⟨ws_E Stb_G hE.1.1 hS hU hW hFc, ws_N (Stb_S b db n (lt ((pdL T)))) (ro_S hts hK hP 0 1 rfl rfl hL hf (ws_n0 hP 0 rfl) (ws_n0 hP 1 rfl)) hU hW⟩)) rfl rfl hl.1 rfl (lv_room (Nat.le_of_ble_eq_true rfl)) dk_L_put_39 ⟨(room_ok hc1 rfl), (room_ok hc2 rfl)⟩) hS (fun q _ h => hFc q h) hFc (fun r0 u t H1 locs hte hvm hz hB hsz hkp hS => ?_)
  have hP := ws_kept hP hkp
  generalize H1 = H at hP hS ⊢
  have hP : va_P D vwCl ([(b, .inr (9, [.ref db, .int 0, .int 0, .int 0])), (db, .inl (kC 2, n, .inl g))] ++ am_ws al kC layX (ptF F k) (ptA (lt (pdL T)) A0 k)) H := hP
  have hD : va_D A ([(b, .inr (9, [.ref db, .int 0, .int 0, .int 0])), (db, .inl (kC 2, n, .inl g))] ++ am_ws al kC layX (ptF F k) (ptA (lt (pdL T)) A0 k)) := hD
  refine W.widen (k := cells + 0) (n := slots + 0) (Nat.le_of_eq (Nat.add_assoc _ _ _)) (Nat.le_of_eq (Nat.add_assoc _ _ _)) ?_
  subst hz
  refine lv_icmp_ge (tgt := 126) hx hb dk_L_put_42 rfl (fun q => absurd q (fun z => absurd ((nI_leI (by omega) (by omega)).mp z) (by rw [hn] at hk3; omega))) (fun _ => ?_)
  refine lv_iconst (v := 5) hx hb dk_L_put_45 (by decide) ?_
  rw [show (5 : Int32) = nI 5 from rfl]
  refine cn_newa (atype := .int) (a0 := (5, .inl fun _ => 0)) hx hb (hts _ (am_tb_at 95 (by decide +kernel) rfl)) rfl hK 0 rfl hP hD hS hA (fun _ => rfl) (nI_pos (by decide)) (nI_clamp (n := 5) (by decide)) (by decide) (room_ok hc1 rfl) (room_ok hc2 rfl) dk_L_put_46 (fun q H hP hD hS => ?_)
  refine W.widen (k := cells + 1) (n := slots + 5) (Nat.le_of_eq (Nat.add_assoc _ _ _)) (Nat.le_of_eq (Nat.add_assoc _ _ _)) ?_
  have hP := va_P.swap hP
  have hD := va_D.swap hD
  have hP : va_P D vwCl ([(b, .inr (9, [.ref db, .int 0, .int 0, .int 0])), (db, .inl (kC 2, n, .inl g)), (q, .inl (kC 0, 5, .inl (pkG (lt (pdL T)) k 0)))] ++ am_ws al kC layX (ptF F k) (ptA (lt (pdL T)) A0 k)) H := hP
  have hD : va_D A ([(b, .inr (9, [.ref db, .int 0, .int 0, .int 0])), (db, .inl (kC 2, n, .inl g)), (q, .inl (kC 0, 5, .inl (pkG (lt (pdL T)) k 0)))] ++ am_ws al kC layX (ptF F k) (ptA (lt (pdL T)) A0 k)) := hD
  refine lv_astore (lv' := [(4, .ref q), (3, .int (nI k)), (2, .ref b), (0, .ref (al 0)), (1, .ref a)]) hx hb dk_L_put_48 hl (by decide) rfl (fun ls hl => ?_)
  refine lv_iconst (v := 0) hx hb dk_L_put_50 (by decide) ?_
  refine lv_istore (lv' := [(5, .int 0), (4, .ref q), (3, .int (nI k)), (2, .ref b), (0, .ref (al 0)), (1, .ref a)]) hx hb dk_L_put_51 hl (by decide) rfl (fun ls hl => ?_)
  have hl : lv_has ls 6 [(5, .int 0), (4, .ref q), (3, .int (nI k)), (2, .ref b), (0, .ref (al 0)), (1, .ref a)] := lv_sub hl [0, 1, 2, 3, 4, 5] rfl
  exact hk _ _ _ _ _ _ _ _ _ _ hl hP hD hS hf hL hn (room_end hc1 rfl) (room_end hc2 rfl)
set_option maxHeartbeats 1000000 in
set_option maxRecDepth 100000 in
theorem pt_K0w {p : Program} {l : Launch} {e : Env} {s : State} {m : MethodId} {below : List Frame} {meth : Method} {c : Code} {a d : Nat} {T : List Nat} {D : va_G} {al : Nat → Nat} {kC : Nat → ClassId} {F : FF} {A0 : AA} {A : Nat → Prop} (hEnv : puE p l e s m below meth c a d T D al kC F A0 A) {k : Nat} (hk3 : k = (pdL T).length)  {C1 C2 : Nat}  : puGw p l e s m below meth c a d T D al kC F A0 A 37 (k) (fun cu => [(3, .int (nI k)), (2, .ref cu), (0, .ref (al 0)), (1, .ref a)]) (pdL T) (C1 + 0) (C2 + 0) := by
  obtain ⟨⟨hTL, ht8⟩, hx, hb, hr, hlocks, hml, htj, hown, hK, hA, hE⟩ := hEnv
  have hts := fun w (hw : w ∈ am_tb) => htj w (jk_in hw)
  obtain ⟨-, -, -, -, -, ⟨a6, d6, hR6, hS6⟩, -⟩ := id hE.2
  intro b db n g H locs ls cells slots hl hP hD hS hf hL hn hc1 hc2
  refine W.widen (k := cells + 0) (n := slots + 0) (Nat.le_refl _) (Nat.le_refl _) ?_
  have hl : lv_has ls 6 [(3, .int (nI k)), (2, .ref b), (0, .ref (al 0)), (1, .ref a)] := hl
  have hP : va_P D vwCl ([(b, .inr (9, [.ref db, .int 0, .int 0, .int 0])), (db, .inl (kC 2, n, .inl g))] ++ am_ws al kC layX (ptF F k) (ptA (lt (pdL T)) A0 k)) H := hP
  have hD : va_D A ([(b, .inr (9, [.ref db, .int 0, .int 0, .int 0])), (db, .inl (kC 2, n, .inl g))] ++ am_ws al kC layX (ptF F k) (ptA (lt (pdL T)) A0 k)) := hD
  have hn2 : n ≤ 400 := by have := pdL_len T; have : nd20 T.length < 20 := Nat.mod_lt _ (by decide); omega
  have hk4 : k < 400 := by have := pdL_len T; have : nd20 T.length < 20 := Nat.mod_lt _ (by decide); omega
  refine lv_iload_n hx hb dk_L_put_37 rfl (lv_at hl 0 rfl) ?_
  refine lv_aload_n hx hb dk_L_put_38 rfl (lv_at hl 1 rfl) ?_
  have hPc : va_P D vwCl [] H := ws_nP
  have hDc : va_D A [] := ws_nD
  have hFc : ∀ q, va_A [] H.size q → A q := fun q h => hA q (Nat.le_trans hS.1 (ws_nA h))
  refine va_calli (va_runV (As := []) (rest := [.int (nI k)]) ⟨hx, hb, hml, hown, hts⟩ (sk_slen l D kC b db n (lt ((pdL T))) H.size) ⟨am_callB (R := jr 15 140 306000) (index := 8) 0 (jk_pay htj (am_tb_at 400 (by decide +kernel) rfl)) (hts _ (am_tb_at 400 (by decide +kernel) rfl)) rfl rfl rfl (hts _ (am_tb_at 47 (by decide +kernel) rfl)) (hts _ (am_tb_at 579 (by decide +kernel) rfl)) ⟨by decide, by decide, by decide +kernel⟩ ⟨(by show 2 + 1 ≤ 15; decide), (by show 8 + (1 + 11) + 48 * 2 ≤ 48 * 15; decide)⟩, (hts _ (am_tb_at 398 (by decide +kernel) rfl)), (hts _ (am_tb_at 399 (by decide +kernel) rfl))⟩ (ws_V (Stb_and Stb_G (Stb_S b db n (lt ((pdL T))))) (va_recv (q := (RJ0, TJ0, 4)) (q0 := 0) hK hP rfl rfl) hPc hK hDc (fun U hU hW => ⟨ws_E Stb_G hE.1.1 hS hU hW hFc, ws_N (Stb_S b db n (lt ((pdL T)))) (ro_S hts hK hP 0 1 rfl rfl hL hf (ws_n0 hP 0 rfl) (ws_n0 hP 1 rfl)) hU hW⟩)) rfl rfl hl.1 rfl (lv_room (Nat.le_of_ble_eq_true rfl)) dk_L_put_39 ⟨(room_ok hc1 rfl), (room_ok hc2 rfl)⟩) hS (fun q _ h => hFc q h) hFc (fun r0 u t H1 locs hte hvm hz hB hsz hkp hS => ?_)
  have hP := ws_kept hP hkp
  generalize H1 = H at hP hS ⊢
  have hP : va_P D vwCl ([(b, .inr (9, [.ref db, .int 0, .int 0, .int 0])), (db, .inl (kC 2, n, .inl g))] ++ am_ws al kC layX (ptF F k) (ptA (lt (pdL T)) A0 k)) H := hP
  have hD : va_D A ([(b, .inr (9, [.ref db, .int 0, .int 0, .int 0])), (db, .inl (kC 2, n, .inl g))] ++ am_ws al kC layX (ptF F k) (ptA (lt (pdL T)) A0 k)) := hD
  refine W.widen (k := cells + 0) (n := slots + 0) (Nat.le_of_eq (Nat.add_assoc _ _ _)) (Nat.le_of_eq (Nat.add_assoc _ _ _)) ?_
  subst hz
  refine lv_icmp_ge (tgt := 126) hx hb dk_L_put_42 rfl (fun _ => ?_) (fun q => absurd ((nI_leI (by omega) (by omega)).mpr (by rw [hn] at hk3; omega)) q)
  have hP := vt_P hP
  have hD := vt_D hD
  rw [hk3, pdL_len] at hP hD
  refine W.widen (k := 140) (n := 306000) (room_le hc1) (room_le hc2) ?_
  exact W.vret hx hb hr (fun t ht hW => ⟨⟨(), rfl, trivial, by rw [ht]; exact hP, hD⟩, hS.F ht⟩) hS.2.2 dk_L_put_126
