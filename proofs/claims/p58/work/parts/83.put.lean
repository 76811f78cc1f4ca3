theorem nd20_b (T : List Nat) : nd20 T.length < 20 ∧ (T.length + nd20 T.length) % 20 = 0 ∧ (T.length % 20 = 0 → nd20 T.length = 0) := by
  unfold nd20
  refine ⟨by omega, by omega, fun h => by omega⟩
theorem pdL_0 {T : List Nat} (h : T.length % 20 = 0) : pdL T = T := by
  unfold pdL
  rw [(nd20_b T).2.2 h]
  exact List.append_nil T
theorem pt_monof {p : Program} {l : Launch} {e : Env} {s : State} {m : MethodId} {below : List Frame} {meth : Method} {c : Code} {a d : Nat} {T : List Nat} {D : va_G} {al : Nat → Nat} {kC : Nat → ClassId} {F : FF} {A0 : AA} {A : Nat → Prop} {pc k : Nat} {lo : Nat → List (Nat × Value)} {C1 C2 E1 E2 : Nat} (h : puGf p l e s m below meth c a d T D al kC F A0 A pc k lo C1 C2) (h1 : C1 ≤ E1) (h2 : C2 ≤ E2) : puGf p l e s m below meth c a d T D al kC F A0 A pc k lo E1 E2 := fun H locs ls cells slots hl hP hD hS hc1 hc2 => h H locs ls cells slots hl hP hD hS (by omega) (by omega)
theorem pt_monow {p : Program} {l : Launch} {e : Env} {s : State} {m : MethodId} {below : List Frame} {meth : Method} {c : Code} {a d : Nat} {T : List Nat} {D : va_G} {al : Nat → Nat} {kC : Nat → ClassId} {F : FF} {A0 : AA} {A : Nat → Prop} {pc k : Nat} {lo : Nat → List (Nat × Value)} {S : List Nat} {C1 C2 E1 E2 : Nat} (h : puGw p l e s m below meth c a d T D al kC F A0 A pc k lo S C1 C2) (h1 : C1 ≤ E1) (h2 : C2 ≤ E2) : puGw p l e s m below meth c a d T D al kC F A0 A pc k lo S E1 E2 := fun b db n g H locs ls cells slots hl hP hD hS hf hL hn hc1 hc2 => h b db n g H locs ls cells slots hl hP hD hS hf hL hn (by omega) (by omega)
theorem pt_If {p : Program} {l : Launch} {e : Env} {s : State} {m : MethodId} {below : List Frame} {meth : Method} {c : Code} {a d : Nat} {T : List Nat} {D : va_G} {al : Nat → Nat} {kC : Nat → ClassId} {F : FF} {A0 : AA} {A : Nat → Prop} (hEnv : puE p l e s m below meth c a d T D al kC F A0 A) {k : Nat} (hk5 : k ≤ 380) (hki : k + 20 ≤ (pdL T).length) (hTp : pdL T = T) {C1 C2 : Nat} (hk : puGf p l e s m below meth c a d T D al kC F A0 A 37 (k + 20) (fun cu => [(3, .int (nI (k + 20))), (2, .ref cu), (0, .ref (al 0)), (1, .ref a)]) (C1) (C2)) : ∀ r i : Nat, i + r = 20 → puHf p l e s m below meth c a d T D al kC F A0 A k i (C1) (C2)
  | 0, i, hi => by
    have h := pt_I0f hEnv hk5 hk
    have e : i = 20 := by omega
    rw [e]
    exact h
  | r + 1, i, hi => pt_I1f hEnv (by omega) (by omega) hTp (pt_If hEnv hk5 hki hTp hk r (i + 1) (by omega))
theorem pt_Kf {p : Program} {l : Launch} {e : Env} {s : State} {m : MethodId} {below : List Frame} {meth : Method} {c : Code} {a d : Nat} {T : List Nat} {D : va_G} {al : Nat → Nat} {kC : Nat → ClassId} {F : FF} {A0 : AA} {A : Nat → Prop} (hEnv : puE p l e s m below meth c a d T D al kC F A0 A) (hTp : pdL T = T) : ∀ r k : Nat, k + 20 * r = (pdL T).length → puGf p l e s m below meth c a d T D al kC F A0 A 37 (k) (fun cu => [(3, .int (nI k)), (2, .ref cu), (0, .ref (al 0)), (1, .ref a)]) (r) (r * 5)
  | 0, k, hr => pt_monof (pt_K0f (C1 := 0) (C2 := 0) hEnv (by omega) hTp ) (by omega) (by omega)
  | r + 1, k, hr => by
    have h1 := hEnv.1.1
    have h2 := pdL_len T
    have h3 := (nd20_b T).1
    exact pt_monof (pt_K1f hEnv (by omega) hTp (pt_If hEnv (by omega) (by omega) hTp (pt_Kf hEnv hTp r (k + 20) (by omega)) 20 0 rfl)) (by omega) (by omega)
theorem pt_Iw {p : Program} {l : Launch} {e : Env} {s : State} {m : MethodId} {below : List Frame} {meth : Method} {c : Code} {a d : Nat} {T : List Nat} {D : va_G} {al : Nat → Nat} {kC : Nat → ClassId} {F : FF} {A0 : AA} {A : Nat → Prop} (hEnv : puE p l e s m below meth c a d T D al kC F A0 A) {k : Nat} (hk5 : k ≤ 380) (hki : k + 20 ≤ (pdL T).length) {C1 C2 : Nat} (hk : puGw p l e s m below meth c a d T D al kC F A0 A 37 (k + 20) (fun cu => [(3, .int (nI (k + 20))), (2, .ref cu), (0, .ref (al 0)), (1, .ref a)]) (pdL T) (C1) (C2)) : ∀ r i : Nat, i + r = 20 → puHw p l e s m below meth c a d T D al kC F A0 A k i (C1) (C2)
  | 0, i, hi => by
    have h := pt_I0w hEnv hk5 hk
    have e : i = 20 := by omega
    rw [e]
    exact h
  | r + 1, i, hi => pt_I1w hEnv (by omega) (by omega) (pt_Iw hEnv hk5 hki hk r (i + 1) (by omega))
theorem pt_Kw {p : Program} {l : Launch} {e : Env} {s : State} {m : MethodId} {below : List Frame} {meth : Method} {c : Code} {a d : Nat} {T : List Nat} {D : va_G} {al : Nat → Nat} {kC : Nat → ClassId} {F : FF} {A0 : AA} {A : Nat → Prop} (hEnv : puE p l e s m below meth c a d T D al kC F A0 A) : ∀ r k : Nat, k + 20 * r = (pdL T).length → puGw p l e s m below meth c a d T D al kC F A0 A 37 (k) (fun cu => [(3, .int (nI k)), (2, .ref cu), (0, .ref (al 0)), (1, .ref a)]) (pdL T) (r) (r * 5)
  | 0, k, hr => pt_monow (pt_K0w (C1 := 0) (C2 := 0) hEnv (by omega) ) (by omega) (by omega)
  | r + 1, k, hr => by
    have h1 := hEnv.1.1
    have h2 := pdL_len T
    have h3 := (nd20_b T).1
    exact pt_monow (pt_K1w hEnv (by omega) (pt_Iw hEnv (by omega) (by omega) (pt_Kw hEnv r (k + 20) (by omega)) 20 0 rfl)) (by omega) (by omega)
theorem pt_Pw {p : Program} {l : Launch} {e : Env} {s : State} {m : MethodId} {below : List Frame} {meth : Method} {c : Code} {a d : Nat} {T : List Nat} {D : va_G} {al : Nat → Nat} {kC : Nat → ClassId} {F : FF} {A0 : AA} {A : Nat → Prop} (hEnv : puE p l e s m below meth c a d T D al kC F A0 A) : ∀ r j : Nat, j + r = nd20 T.length → ∀ S : List Nat, S = T ++ List.replicate j 32 → puGw p l e s m below meth c a d T D al kC F A0 A 2 (0) (fun cu => [(2, .ref cu), (0, .ref (al 0)), (1, .ref a)]) (S) (18 + r * 6) (90 + r * 16014)
  | 0, j, hj, S, hS => by
    have h1 := hEnv.1.1
    have h2 := pdL_len T
    have h3 := nd20_b T
    have e : S = pdL T := by rw [hS]; unfold pdL; rw [← hj]; rfl
    rw [e]
    exact pt_monow (pt_P0w hEnv (by omega) (by rw [h2]; exact h3.2.1) (pt_monow (E1 := 18) (E2 := 90) (pt_Kw hEnv ((pdL T).length / 20) 0 (by omega)) (by omega) (by omega))) (by omega) (by omega)
  | r + 1, j, hj, S, hS => by
    have h1 := hEnv.1.1
    have h3 := nd20_b T
    have hl : S.length = T.length + j := by rw [hS, List.length_append, List.length_replicate]
    have h4 : S.length % 20 ≠ 0 := by unfold nd20 at hj; omega
    exact pt_monow (pt_P1w hEnv (by omega) h4 (pt_Pw hEnv r (j + 1) (by omega) (S ++ [32]) (by rw [hS, List.replicate_succ', List.append_assoc]))) (by omega) (by omega)
theorem pt_top {p : Program} {l : Launch} {e : Env} {s : State} {m : MethodId} {below : List Frame} {meth : Method} {c : Code} {a d : Nat} {T : List Nat} {D : va_G} {al : Nat → Nat} {kC : Nat → ClassId} {F : FF} {A0 : AA} {A : Nat → Prop} (hEnv : puE p l e s m below meth c a d T D al kC F A0 A) : puGf p l e s m below meth c a d T D al kC F A0 A 2 (0) (fun cu => [(2, .ref cu), (0, .ref (al 0)), (1, .ref a)]) (140) (305000) := by
  have h1 := hEnv.1.1
  have h2 := pdL_len T
  have h3 := nd20_b T
  by_cases h : T.length % 20 = 0
  · exact pt_monof (pt_P0f hEnv h (pt_monof (E1 := 18) (E2 := 90) (pt_Kf hEnv (pdL_0 h) ((pdL T).length / 20) 0 (by omega)) (by omega) (by omega))) (by omega) (by omega)
  · exact pt_monof (pt_P1f hEnv h (pt_Pw hEnv (nd20 T.length - 1) 1 (by unfold nd20; omega) (T ++ [32]) rfl)) (by omega) (by omega)
set_option maxHeartbeats 4000000 in
set_option maxRecDepth 100000 in
theorem sk_put (l : Launch) (D : va_G) (kC : Nat → ClassId) (al : Nat → Nat) (F : FF) (A0 : AA) (a d : Nat) (T : List Nat) (hTL : T.length ≤ 340) (ht8 : ∀ q, lt (pdL T) q < 128) (hF0 : F 7 1 = 0) (sz : Nat) : Met l yL_put (.code yL_put cL_put 6 none :: jk_tb) (jr 15 140 306000) (va_Pc [.ref (al 0), .ref a] (ws_B D kC (fun B U H => (js_G B U H ∧ js_S a d T.length (lt T) B U H) ∧ js_C B U H) ([] ++ am_ws al kC layX F A0) sz)) (va_Qv (S := Unit) (fun _ => True) (fun _ t => va_P D vwCl (am_ws al kC layX (ptF F ((T.length + nd20 T.length))) (ptA (lt (pdL T)) A0 ((T.length + nd20 T.length)))) t.heap ∧ va_D (va_A ([] ++ am_ws al kC layX F A0) sz) (am_ws al kC layX (ptF F ((T.length + nd20 T.length))) (ptA (lt (pdL T)) A0 ((T.length + nd20 T.length))))) (va_A ([] ++ am_ws al kC layX F A0) sz)) 140 306000 (va_A ([] ++ am_ws al kC layX F A0) sz) := by
  refine Met.ofW (cc := cL_put) (maxL := 6) (ret := none) (by decide +kernel) rfl ?_
  intro p e s m args below meth c s₁ B hml hv2
  obtain ⟨rfl, hsz, hP, hK, hD0, hE⟩ := hv2
  have hx := B.exec
  have hb := B.bytes
  have hr := B.returns
  have hlocks := B.notSynchronized
  have hts0 := atoms_spec (ws := (.code yL_put cL_put 6 none :: jk_tb)) B.pre
  have htj := fun w (hw : w ∈ jk_tb) => hts0 w (List.mem_cons_of_mem _ hw)
  have hts := fun w (hw : w ∈ am_tb) => htj w (jk_in hw)
  have hown : s.vm.findClass yL_put.cls = some m.cls := findClass_of_methodNamed B.named
  subst hsz
  have hD := hD0.self (sz := s.heap.size)
  generalize hAe : va_A ([] ++ am_ws al kC layX F A0) s.heap.size = A at hD hE ⊢
  have hA : ∀ q : Nat, s.heap.size ≤ q → A q := fun q h => by rw [← hAe]; exact Or.inr h
  have hP : va_P D vwCl ([] ++ am_ws al kC layX F A0) s.heap := hP
  have hS : va_S A s.heap s.heap [] := va_S.rf
  have hl := lv_entry ([.ref (al 0), .ref a]) (n := 6) (Nat.le_of_ble_eq_true rfl)
  rw [lg_entry_eq]
  generalize (lg_sl ([.ref (al 0), .ref a]) ++ List.replicate (6 - (lg_sl ([.ref (al 0), .ref a])).length) Slot.unset).toArray = ls at hl ⊢
  have hl : lv_has ls 6 [(0, .ref (al 0)), (1, .ref a)] := hl
  refine lv_aload_n hx hb dk_L_put_0 rfl (lv_at hl 1 rfl) ?_
  refine lv_astore_n (lv' := [(2, .ref a), (0, .ref (al 0)), (1, .ref a)]) hx hb dk_L_put_1 rfl hl (by decide) rfl (fun ls hl => ?_)
  have hEnv : puE p l e s m below meth c a d T D al kC F A0 A := ⟨⟨hTL, ht8⟩, hx, hb, hr, hlocks, hml, htj, hown, hK, hA, hE⟩
  have h := pt_top hEnv
  unfold puGf at h
  rw [ptF_0 hF0, ptA_0] at h
  exact h _ _ _ _ _ (lv_sub hl [0, 1, 2] rfl) hP hD hS (by decide) (Nat.le_of_ble_eq_true rfl)
