/-! throwing: the two methods that throw, and methods that let through what they throw -/
def am_sup : List String := ["java/lang/RuntimeException", "java/lang/Exception"]
theorem am_thr1 : (vx_atS RX8 356 am_iob am_sup).all (fun w => decide (w ∈ lw_tbl) && am_gw w) = true := by decide +kernel
theorem am_thr2 : ∀ w ∈ vx_atS RX8 356 am_iob am_sup, w ∈ am_tb := by
  intro w hw
  have h := List.all_eq_true.mp am_thr1 w hw
  simp only [Bool.and_eq_true, decide_eq_true_eq] at h
  exact am_tb_in h.1 h.2
theorem am_thr3 : (Cond.classLink RX8 352 am_iob :: Cond.initialized am_iob :: vx_atS RX8 356 am_iob am_sup).all vx_ot = true := by decide +kernel
theorem am_thr4 : Cond.classLink RX8 352 am_iob ∈ am_tb ∧ Cond.initialized am_iob ∈ am_tb := ⟨am_tb_in (by decide +kernel) rfl, am_tb_in (by decide +kernel) rfl⟩
theorem am_thr5 : ∀ n ∈ am_sup, Bundle.fit n = true := by decide +kernel
theorem am_thr6 : Bundle.fit am_iob = true := by decide +kernel
/-- the block that makes and throws the exception: what its instructions are -/
def am_thrD (cc : ByteArray) (pc is : Nat) : Prop := decode cc pc = .ok (.new 352, 3) ∧ decode cc (pc + 3) = .ok (.dup, 1) ∧ decode cc (pc + 4) = .ok (.ldc_w is, 3) ∧ decode cc (pc + 7) = .ok (.invokespecial 356, 3) ∧ decode cc (pc + 10) = .ok (.athrow, 1)
def am_thrB (mc : Nat) : BLK := fun _ K _ st F A u => st = [] ∧ u + 1 ≤ mc ∧ K none F A
set_option maxHeartbeats 4000000 in
/-- a method that returns or throws (kind 1) -/
theorem am_met1 {l : Launch} {lay : List LC} {x : CX} {e1 : CE} (hst : l.stackTraces = false) (hT : ceT e1 = 1) (hy : plainName (ceY e1).cls = true) (hlay : cxLay x = lay) (hret : cxRet x = ceR e1) (hmc : cxMc x = ceK e1) (hthr : cxThr x = true) (hhnd : cxHnd x = none)
    (hspc : ∀ pc b, cxSpc x pc = some b → (ceY e1).cls = RX8 ∧ 6 ≤ ceL e1 ∧ b = am_thrB (ceK e1) ∧ (am_thrD (ceB e1) pc 354 ∨ am_thrD (ceB e1) pc 359)) (hscr : cxScr x = none)
    (hsta : am_sta l x (ceY e1).cls (ceL e1) (ceB e1))
    (hgo : ∀ as F A K, ceS e1 as F A K → (am_fl as).length ≤ ceM e1 ∧ am_way x as (ceM e1) F A K) : am_CT l lay e1 := by
  intro layW hpre D al kC as F A K sz hS
  obtain ⟨hlen, hway⟩ := hgo as F A K hS
  unfold am_Met
  rw [hT]
  refine vx_ofW (cc := ceB e1) (maxL := ceM e1) (ret := ceR e1) hy rfl ?_
  intro p e s m args below meth c s₁ B hml htab hv
  obtain ⟨rfl, rfl, hP, hK, hdis0, hZ0, -⟩ := hv
  have hZ0 := hZ0 (by decide)
  have hts := atoms_spec (ws := .code (ceY e1) (ceB e1) (ceM e1) (ceR e1) :: am_tb) B.pre
  have hown : s.vm.findClass (ceY e1).cls = some m.cls := findClass_of_methodNamed B.named
  have hlocks := B.notSynchronized
  rw [lg_entry_eq]
  have hLR := am_LR_ent (al := al) hlen
  generalize hAe : va_A (am_ws al kC layW F A) s.heap.size = As at hZ0 ⊢
  have hdis : am_dis al layW As := by
    refine ⟨hdis0.1, fun i hi => ?_⟩
    rw [← hAe]
    exact Or.inl ⟨i, _, am_ws_get (F := F) (A := A) (kC := kC) (al := al) (List.getElem?_eq_getElem hi)⟩
  have hA : ∀ q, s.heap.size ≤ q → As q := fun q h => by rw [← hAe]; exact Or.inr h
  have hE : am_env p l e (am_rm (ceL e1) (ceK e1)) s m (as.map (am_cv al)).toArray c (ceB e1) (ceY e1).cls (ceM e1) D al kC layW As 0 0 (cxMc x) am_tb :=
    ⟨B.exec, B.bytes, hml, hown, fun w hw => hts w (List.mem_cons_of_mem _ hw), hK, hdis, hA, by rw [hmc]; exact Nat.le_of_eq (Nat.zero_add _), by rw [hmc]; exact Nat.le_of_eq (Nat.zero_add _)⟩
  have hret1 : ∀ pc o F A ls u i, (match o with | some (.inl a) => i = Instr.ireturn ∧ (cxRet x = some .int ∨ cxRet x = some .boolean ∧ (a = 0 ∨ a = 1)) | some (.inr (.inl _)) => i = Instr.lreturn ∧ cxRet x = some .long | some (.inr (.inr _)) => False | none => i = Instr.return_ ∧ cxRet x = none) → decode (ceB e1) pc = .ok (i, 1) → K (some o) F A → am_W p l e (am_rm (ceL e1) (ceK e1)) s m (as.map (am_cv al)).toArray below meth c (vx_MQ below (am_Q (ceR e1) K D al kC layW As) (am_X K D al kC layW As) (as.map (am_cv al)).toArray s (ceK e1) (16 * ceK e1) As) (ceM e1) D al kC layW As 0 0 (cxMc x) pc ls o.toList F A u := by
    intro pc o F A ls u i ho hd hk hu H locs lsC hl hP1 hS1
    refine vx_ret ?_
    refine W.widen (k := ceK e1) (n := 16 * ceK e1) (by omega) (by omega) ?_
    rw [hret] at ho
    match o, ho with
    | none, ho =>
      obtain ⟨rfl, hr⟩ := ho
      exact W.vret B.exec B.bytes (by rw [B.returns]; exact hr) (fun t ht hW => by rw [hr]; exact ⟨⟨(F, A), rfl, hk, by dsimp only; rw [ht]; exact hP1⟩, hS1.F ht⟩) hS1.2.2 hd
    | some (.inl a), ho =>
      obtain ⟨rfl, hr | ⟨hr, h01⟩⟩ := ho
      · exact W.iret (v := Int32.ofInt a) B.exec B.bytes (by rw [B.returns]; exact hr) (fun t ht hW => by rw [hr]; exact ⟨⟨_, (a, F, A), rfl, ⟨rfl, hk⟩, by dsimp only; rw [ht]; exact hP1⟩, hS1.F ht⟩) hS1.2.2 hd
      · exact W.zret (v := Int32.ofInt a) (ty := .boolean) B.exec B.bytes (by rw [B.returns]; exact hr) (by rcases h01 with rfl | rfl <;> rfl) (fun t ht hW => by rw [hr]; exact ⟨⟨_, (a, F, A), rfl, ⟨rfl, hk⟩, by dsimp only; rw [ht]; exact hP1⟩, hS1.F ht⟩) hS1.2.2 hd
    | some (.inr (.inl a)), ho =>
      obtain ⟨rfl, hr⟩ := ho
      exact W.lret (v := Int64.ofInt a) B.exec B.bytes (by rw [B.returns]; exact hr) (fun t ht hW => by rw [hr]; exact ⟨⟨_, (a, F, A), rfl, ⟨rfl, hk⟩, by dsimp only; rw [ht]; exact hP1⟩, hS1.F ht⟩) hS1.2.2 hd
    | some (.inr (.inr _)), ho => exact ho.elim
  have hspc1 : ∀ rec : REC, ∀ pc b, cxSpc x pc = some b → ∀ ls st F A u, b rec K ls st F A u → am_W p l e (am_rm (ceL e1) (ceK e1)) s m (as.map (am_cv al)).toArray below meth c (vx_MQ below (am_Q (ceR e1) K D al kC layW As) (am_X K D al kC layW As) (as.map (am_cv al)).toArray s (ceK e1) (16 * ceK e1) As) (ceM e1) D al kC layW As 0 0 (cxMc x) pc ls st F A u := by
    intro rec pc b hb ls st F A u h hu H locs lsC hl hP1 hS1
    obtain ⟨hRX, hlv, rfl, hd⟩ := hspc pc b hb
    obtain ⟨rfl, hu1, hk⟩ := h
    obtain ⟨z1, z2, ⟨a3, z3⟩, ⟨a4, z4⟩⟩ := hZ0
    have hX : ∀ t : State, s.vm.Alike t.vm → H.size ≤ t.heap.size → (∀ q : Nat, q < H.size → t.heap[q]? = H[q]?) → am_X K D al kC layW As am_iob s t := fun t _ h1 h2 => ⟨(F, A), hk, ⟨rfl, hP1.kept (fun k q hkq => h2 q.1 (vx_lt hP1 hkq))⟩, Nat.le_trans hS1.1 h1, fun q hq1 hq2 => by rw [h2 q (Nat.lt_of_lt_of_le hq1 hS1.1)]; exact hS1.2.1 q hq1 hq2⟩
    have hown' : s.vm.findClass RX8 = some m.cls := by rw [← hRX]; exact hown
    have htw : ∀ w, w ∈ am_tb → w.before (as.map (am_cv al)).toArray s = true := fun w hw => hts w (List.mem_cons_of_mem _ hw)
    have hgood : ∀ w ∈ Cond.classLink RX8 352 am_iob :: Cond.initialized am_iob :: vx_atS RX8 356 am_iob am_sup, vx_ot w = true := List.all_eq_true.mp am_thr3
    have hfr : am_sup.length + 3 < (am_rm (ceL e1) (ceK e1)).frames := by show 2 + 3 < ceL e1; omega
    have hlo : (([] : List Value).map fun v => v.category).sum + (13 * (am_sup.length + 1) + 43) ≤ (am_rm (ceL e1) (ceK e1)).locals := by show 0 + (13 * (2 + 1) + 43) ≤ 48 * ceL e1; omega
    rcases hd with ⟨d0, d3, d4, d7, d10⟩ | ⟨d0, d3, d4, d7, d10⟩
    · exact vx_throwSW B.exec B.bytes hst (names := am_sup) hown' am_thr6 am_thr5 (htw _ am_thr4.1) (htw _ am_thr4.2) z3 (fun w hw => htw _ (am_thr2 w hw)) hgood z1 z2 hS1 (by rw [hl.2.1, hml]) d0 d3 d4 d7 d10 (fun x hx => (htab x hx).elim) hfr hlo (by show 0 + u + 1 ≤ ceK e1; omega) (by show 0 + 16 * u + 6 ≤ 16 * ceK e1; omega) hlocks hX hS1.2.2 (by omega) (by omega)
    · exact vx_throwSW B.exec B.bytes hst (names := am_sup) hown' am_thr6 am_thr5 (htw _ am_thr4.1) (htw _ am_thr4.2) z4 (fun w hw => htw _ (am_thr2 w hw)) hgood z1 z2 hS1 (by rw [hl.2.1, hml]) d0 d3 d4 d7 d10 (fun x hx => (htab x hx).elim) hfr hlo (by show 0 + u + 1 ≤ ceK e1; omega) (by show 0 + 16 * u + 6 ≤ 16 * ceK e1; omega) hlocks hX hS1.2.2 (by omega) (by omega)
  have key := hway (am_W p l e (am_rm (ceL e1) (ceK e1)) s m (as.map (am_cv al)).toArray below meth c (vx_MQ below (am_Q (ceR e1) K D al kC layW As) (am_X K D al kC layW As) (as.map (am_cv al)).toArray s (ceK e1) (16 * ceK e1) As) (ceM e1) D al kC layW As 0 0 (cxMc x)) ⟨fun rec hrec pc ls st F A u h =>
    am_run_ok hE ⟨Nat.le_refl _, Nat.le_refl _⟩ (by rw [hlay]; exact hpre) hsta (fun _ => hZ0) (fun L xs h => by rw [hscr] at h; cases h) (fun rec _ pc b h => hspc1 rec pc b h)
      (fun rec hrec pc k e2 hd hk hT2 ls F A u hx hu H locs lsC rest q9 ce hl hP1 hS1 hce hcv hcl => by
        rw [hhnd, hthr] at hx
        refine vx_widen (k := ceK e1) (n := 16 * ceK e1) (by omega) (by omega) ?_
        exact vx_out (E := am_iob) (fun x hx => (htab x hx).elim) hlocks hce hcv hcl (fun t ht _ => ⟨(F, A), hx, ⟨rfl, by dsimp only; rw [ht]; exact hP1⟩, hS1.F ht⟩) hS1.2.2 (Nat.le_refl _) (Nat.le_refl _)) hret1 rec hrec h, fun _ _ _ _ _ _ _ hs h => am_W_sub hs h⟩
  exact key (Nat.zero_le _) s.heap [] _ hLR hP va_S.rf
