/-! methods that catch (kind 2) -/
theorem am_cat1 : Cond.classLink RL 13 am_iob ∈ am_tb ∧ Cond.castable am_iob am_iob ∈ am_tb := ⟨am_tb_in (by decide +kernel) rfl, am_tb_in (by decide +kernel) rfl⟩
set_option maxHeartbeats 4000000 in
theorem am_met2 {l : Launch} {lay : List LC} {x : CX} {e1 : CE} {hp hn i en : Nat} (hT : ceT e1 = 2) (hy : plainName (ceY e1).cls = true) (hRL : (ceY e1).cls = RL) (hlay : cxLay x = lay) (hret : cxRet x = ceR e1) (hmc : cxMc x = ceK e1) (hhnd : cxHnd x = some hn)
    (hH : ceH e1 = [(0, en, hp, 13)]) (hst : (decode (ceB e1) hp = .ok (.astore i, 2) ∧ hn = hp + 2) ∨ ∃ k : Fin 4, (k : Nat) = i ∧ decode (ceB e1) hp = .ok (.astore_n k, 1) ∧ hn = hp + 1) (hi : i < ceM e1)
    (hcov : ∀ pc k, decode (ceB e1) pc = .ok (.invokevirtual k, 3) → pc < en) (hspc : ∀ pc, cxSpc x pc = none) (hscr : cxScr x = none)
    (hsta : am_sta l x (ceY e1).cls (ceL e1) (ceB e1))
    (hgo : ∀ as F A K, ceS e1 as F A K → (am_fl as).length ≤ ceM e1 ∧ am_way x as (ceM e1) F A K) : am_CT l lay e1 := by
  intro layW hpre D al kC as F A K sz hS
  obtain ⟨hlen, hway⟩ := hgo as F A K hS
  unfold am_Met
  rw [hT]
  have hM : vx_Met l (ceY e1) (.codeWith (ceY e1) (ceB e1) (ceM e1) (ceR e1) (ceH e1) :: am_tb) (am_rm (ceL e1) (ceK e1)) (va_Pc (as.map (am_cv al)) (am_B 2 D al kC layW F A sz)) (am_Q (ceR e1) K D al kC layW (va_A (am_ws al kC layW F A) sz)) (fun _ _ _ => False) (ceK e1) (16 * ceK e1) (va_A (am_ws al kC layW F A) sz) := by
    refine vx_ofWH (cc := ceB e1) (maxL := ceM e1) (ret := ceR e1) (hh := ceH e1) hy rfl ?_
    intro p e s m args below meth c s₁ B hml hv
    obtain ⟨rfl, rfl, hP, hK, hdis0, hZ0⟩ := hv
    have hZ0 := hZ0 (by decide)
    have hts := atoms_spec (ws := .codeWith (ceY e1) (ceB e1) (ceM e1) (ceR e1) (ceH e1) :: am_tb) B.pre
    have htab := vx_table (x := ceY e1) B (hts _ List.mem_cons_self)
    rw [hH] at htab
    have hown : s.vm.findClass (ceY e1).cls = some m.cls := findClass_of_methodNamed B.named
    have hlocks := B.notSynchronized
    rw [lg_entry_eq]
    have hLR := am_LR_ent (al := al) hlen
    generalize hAe : va_A (am_ws al kC layW F A) s.heap.size = As at hZ0 ⊢
    have hdis : am_dis al layW As := by
      refine ⟨hdis0.1, fun i hi => ?_⟩
      rw [← hAe]
      exact Or.inl ⟨i, _, am_ws_get (F := F) (A := A) (kC := kC) (al := al) (List.getElem?_eq_getElem hi)⟩
    have hA : ∀ q, s.heap.size ≤ q → As q := fun q h => by rw [← hAe]; exact Or.inr h
    have hE : am_env p l e (am_rm (ceL e1) (ceK e1)) s m (as.map (am_cv al)).toArray c (ceB e1) (ceY e1).cls (ceM e1) D al kC layW As 0 0 (cxMc x) am_tb :=
      ⟨B.exec, B.bytes, hml, hown, fun w hw => hts w (List.mem_cons_of_mem _ hw), hK, hdis, hA, by rw [hmc]; exact Nat.le_of_eq (Nat.zero_add _), by rw [hmc]; exact Nat.le_of_eq (Nat.zero_add _)⟩
    have hret1 : ∀ pc o F A ls u i, (match o with | some (.inl a) => i = Instr.ireturn ∧ (cxRet x = some .int ∨ cxRet x = some .boolean ∧ (a = 0 ∨ a = 1)) | some (.inr (.inl _)) => i = Instr.lreturn ∧ cxRet x = some .long | some (.inr (.inr _)) => False | none => i = Instr.return_ ∧ cxRet x = none) → decode (ceB e1) pc = .ok (i, 1) → K (some o) F A → am_W p l e (am_rm (ceL e1) (ceK e1)) s m (as.map (am_cv al)).toArray below meth c (vx_MQ below (am_Q (ceR e1) K D al kC layW As) (fun _ _ _ => False) (as.map (am_cv al)).toArray s (ceK e1) (16 * ceK e1) As) (ceM e1) D al kC layW As 0 0 (cxMc x) pc ls o.toList F A u := by
      intro pc o F A ls u i ho hd hk hu H locs lsC hl hP1 hS1
      refine vx_ret ?_
      refine W.widen (k := ceK e1) (n := 16 * ceK e1) (by omega) (by omega) ?_
      rw [hret] at ho
      match o, ho with
      | none, ho =>
        obtain ⟨rfl, hr⟩ := ho
        exact W.vret B.exec B.bytes (by rw [B.returns]; exact hr) (fun t ht hW => by rw [hr]; exact ⟨⟨(F, A), rfl, hk, by dsimp only; rw [ht]; exact hP1⟩, hS1.F ht⟩) hS1.2.2 hd
      | some (.inl a), ho =>
        obtain ⟨rfl, hr | ⟨hr, h01⟩⟩ := ho
        · exact W.iret (v := Int32.ofInt a) B.exec B.bytes (by rw [B.returns]; exact hr) (fun t ht hW => by rw [hr]; exact ⟨⟨_, (a, F, A), rfl, ⟨rfl, hk⟩, by dsimp only; rw [ht]; exact hP1⟩, hS1.F ht⟩) hS1.2.2 hd
        · exact W.zret (v := Int32.ofInt a) (ty := .boolean) B.exec B.bytes (by rw [B.returns]; exact hr) (by rcases h01 with rfl | rfl <;> rfl) (fun t ht hW => by rw [hr]; exact ⟨⟨_, (a, F, A), rfl, ⟨rfl, hk⟩, by dsimp only; rw [ht]; exact hP1⟩, hS1.F ht⟩) hS1.2.2 hd
      | some (.inr (.inl a)), ho =>
        obtain ⟨rfl, hr⟩ := ho
        exact W.lret (v := Int64.ofInt a) B.exec B.bytes (by rw [B.returns]; exact hr) (fun t ht hW => by rw [hr]; exact ⟨⟨_, (a, F, A), rfl, ⟨rfl, hk⟩, by dsimp only; rw [ht]; exact hP1⟩, hS1.F ht⟩) hS1.2.2 hd
      | some (.inr (.inr _)), ho => exact ho.elim
    have htw : ∀ w, w ∈ am_tb → w.before (as.map (am_cv al)).toArray s = true := fun w hw => hts w (List.mem_cons_of_mem _ hw)
    have hown' : s.vm.findClass RL = some m.cls := by rw [← hRL]; exact hown
    have key := hway (am_W p l e (am_rm (ceL e1) (ceK e1)) s m (as.map (am_cv al)).toArray below meth c (vx_MQ below (am_Q (ceR e1) K D al kC layW As) (fun _ _ _ => False) (as.map (am_cv al)).toArray s (ceK e1) (16 * ceK e1) As) (ceM e1) D al kC layW As 0 0 (cxMc x)) ⟨fun rec hrec pc ls st F A u h =>
      am_run_ok hE ⟨Nat.le_refl _, Nat.le_refl _⟩ (by rw [hlay]; exact hpre) hsta (fun _ => hZ0) (fun L xs h => by rw [hscr] at h; cases h) (fun _ _ pc b h => by rw [hspc] at h; cases h)
        (fun rec hrec pc k e2 hd hk hT2 ls F A u hx hu H locs lsC rest q9 ce hl hP1 hS1 hce hcv hcl => by
          rw [hhnd] at hx
          have hlt := hcov pc k hd
          refine vx_catch hown' [] ⟨0, en, hp, 13⟩ [] (by rw [htab]; rfl) (fun z hz => nomatch hz) (by simp [covers]; omega) (show (13 : Nat) ≠ 0 by decide) (htw _ am_cat1.1) (htw _ am_cat1.2) hce hcv hcl ?_
          have hfin : ∀ ls' : Array Slot, lv_has ls' (ceM e1) ((i, Value.ref q9) :: (am_lv al ls).filter (fun q => !(q.1 == i) && !(q.1 + 1 == i && q.2.category == 2))) → W p l e (am_rm (ceL e1) (ceK e1)) s m (as.map (am_cv al)).toArray below meth c H locs (0 + u) (0 + 16 * u) (vx_MQ below (am_Q (ceR e1) K D al kC layW As) (fun _ _ _ => False) (as.map (am_cv al)).toArray s (ceK e1) (16 * ceK e1) As) (F0 m hn ls' []) := fun ls' h' =>
            hrec _ _ _ _ _ _ hx hu H locs ls' ⟨by rw [List.length_map]; exact hl.1, h'.1, h'.2.1, fun j v hj => by
              rw [List.getElem?_map] at hj
              cases h9 : ls[j]? with
              | none => rw [h9] at hj; cases hj
              | some w => rw [h9] at hj; cases hj⟩ hP1 hS1
          rcases hst with ⟨hd1, rfl⟩ | ⟨k1, hk1, hd1, rfl⟩
          · exact lv_astore B.exec B.bytes hd1 (am_LR_has hl) hi rfl hfin
          · exact lv_astore_n B.exec B.bytes hd1 hk1 (am_LR_has hl) hi rfl hfin) hret1 rec hrec h, fun _ _ _ _ _ _ _ hs h => am_W_sub hs h⟩
    exact key (Nat.zero_le _) s.heap [] _ hLR hP va_S.rf
  have hN : Met l (ceY e1) (.codeWith (ceY e1) (ceB e1) (ceM e1) (ceR e1) (ceH e1) :: am_tb) (am_rm (ceL e1) (ceK e1)) (va_Pc (as.map (am_cv al)) (am_B 2 D al kC layW F A sz)) (am_Q (ceR e1) K D al kC layW (va_A (am_ws al kC layW F A) sz)) (ceK e1) (16 * ceK e1) (va_A (am_ws al kC layW F A) sz) := by
    refine MetFree.mono hM (fun _ _ h => h) (fun _ _ _ _ _ h => h) (fun a st o t _ h => ?_)
    rcases h with h | ⟨q, -, E, ce, L, h, -⟩
    · exact h
    · exact h.elim
  exact hN
