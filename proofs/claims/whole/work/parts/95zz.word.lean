/-! the constant's blocks in wordHere: ldc and length, ldc .. charAt -/
def bkL : BLK := fun rec _ ls st F A u => cond (Nat.ble (am_sum st) 7) (rec 10 ls (vI 27 :: st) F A u) False
def bkC (i j nx : Nat) : BLK := fun rec _ ls st F A u => cond (Nat.ble (am_sum st) 7) (am_gI ls i fun a => am_gI ls j fun b => (0 ≤ w32 (a + b) ∧ w32 (a + b) < 27) ∧ rec nx ls (vI (cW (w32 (a + b))) :: st) F A u) False
def bkD (i nx : Nat) : BLK := fun rec _ ls st F A u => cond (Nat.ble (am_sum st) 7) (am_gI ls i fun a => (0 ≤ w32 a ∧ w32 a < 27) ∧ rec nx ls (vI (cW (w32 a)) :: st) F A u) False
theorem bk_in {x : Int} (h : 0 ≤ w32 x ∧ w32 x < 27) : ¬ Int32.ofInt x < 0 ∧ Int32.ofInt x < 27 ∧ am_by.getD (Int32.ofInt x).toNatClampNeg 0 = Int32.ofInt (cW (w32 x)) := by
  refine ⟨fun q => ?_, Int32.lt_iff_toInt_lt.mpr (show w32 x < 27 from h.2), ?_⟩
  · have h1 : w32 x < 0 := Int32.lt_iff_toInt_lt.mp q
    omega
  · unfold cW
    rw [Int32.ofInt_toInt]
    rfl
section BKS
variable {p : Program} {l : Launch} {e : Env} {R : Room} {s : State} {m : MethodId} {args : Array Value} {below : List Frame} {meth : Method} {c : Code} {Q : State → Prop}
variable {cc : ByteArray} {nL : Nat} {D : va_G} {al : Nat → Nat} {kC : Nat → ClassId} {layW : List LC} {As : Nat → Prop} {cb sb mcO : Nat} {K : KK} {rec : REC} {ls : LVs} {st : List AV} {F : FF} {A : AA} {u pc : Nat}
theorem bkL_ok (hE : am_env p l e R s m args c cc RX9 nL D al kC layW As cb sb mcO am_tb) (hR : 10 ≤ R.frames ∧ 480 ≤ R.locals) (hS : am_S As s s.heap)
    (hrec : ∀ pc ls st F A u, rec pc ls st F A u → am_W p l e R s m args below meth c Q nL D al kC layW As cb sb mcO pc ls st F A u)
    (d0 : decode cc 5 = .ok (.ldc 221, 2)) (d1 : decode cc 7 = .ok (.invokevirtual 223, 3)) (h : bkL rec K ls st F A u) : am_W p l e R s m args below meth c Q nL D al kC layW As cb sb mcO 5 ls st F A u := by
  intro hu H locs lsC hl hP hS1
  obtain ⟨hx, hb, hml, hown, hts, hK, hdis, hA, hRc, hRs⟩ := id hE
  obtain ⟨a, b, hk, hJ⟩ := hS
  unfold bkL at h
  obtain ⟨hsum, h⟩ := am_cond_ok h
  have hsum := Nat.le_of_ble_eq_true hsum
  have hA1 : ∀ q, H.size ≤ q → As q := fun q h => hA q (Nat.le_trans hS1.1 h)
  refine va_ldcS hx hb hown hk d0 ?_
  refine va_calli (va_runV (rest := st.map (am_cv al)) ⟨hx, hb, hml, hown, hts⟩ (sj_len l a b H.size) ⟨am_callB (R := R) (index := 223) 0 (am_pay hts (am_tb_at 1515 (by decide +kernel) rfl)) (hts _ (am_tb_at 1515 (by decide +kernel) rfl)) rfl rfl rfl (hts _ (am_tb_at 126 (by decide +kernel) rfl)) (hts _ (am_tb_at 1512 (by decide +kernel) rfl)) ⟨by decide, by decide, by decide +kernel⟩ ⟨(show 2 + 1 ≤ R.frames by omega), (show 8 + (1 + 11) + 48 * 2 ≤ R.locals by omega)⟩, hts _ (am_tb_at 1513 (by decide +kernel) rfl), hts _ (am_tb_at 1514 (by decide +kernel) rfl)⟩ (js_preV hJ hS1 hA1) rfl rfl hl.2.1 rfl (lv_room (by rw [am_sum_eq]; omega)) d1 ⟨by omega, by omega⟩) hS1 (fun q _ h => hA1 q h) (fun q h => hA1 q h) (fun r0 u0 t H1 locs1 hte hvm hz _ hsz hkp hS2 => ?_)
  subst hz
  exact hrec _ _ _ _ _ _ h hu H1 locs1 lsC hl (hP.kept (fun k q hkq => hkp q.1 (vx_lt hP hkq) (Nat.not_le.mpr (vx_lt hP hkq)))) hS2
theorem bkC_ok (i j : Fin 4) (hE : am_env p l e R s m args c cc RX9 nL D al kC layW As cb sb mcO am_tb) (hR : 10 ≤ R.frames ∧ 480 ≤ R.locals) (hS : am_S As s s.heap)
    (hrec : ∀ pc ls st F A u, rec pc ls st F A u → am_W p l e R s m args below meth c Q nL D al kC layW As cb sb mcO pc ls st F A u)
    (d0 : decode cc pc = .ok (.ldc 221, 2)) (d2 : decode cc (pc + 2) = .ok (.iload_n i, 1)) (d3 : decode cc (pc + 3) = .ok (.iload_n j, 1)) (d4 : decode cc (pc + 4) = .ok (.iadd, 1)) (d5 : decode cc (pc + 5) = .ok (.invokevirtual 228, 3)) (h : bkC i j (pc + 8) rec K ls st F A u) : am_W p l e R s m args below meth c Q nL D al kC layW As cb sb mcO pc ls st F A u := by
  intro hu H locs lsC hl hP hS1
  obtain ⟨hx, hb, hml, hown, hts, hK, hdis, hA, hRc, hRs⟩ := id hE
  obtain ⟨a, b, hk, hJ⟩ := hS
  unfold bkC at h
  obtain ⟨hsum, h⟩ := am_cond_ok h
  have hsum := Nat.le_of_ble_eq_true hsum
  obtain ⟨x, hx1, h⟩ := am_gI_ok h
  obtain ⟨y, hy1, hr, h⟩ := am_gI_ok h
  have hA1 : ∀ q, H.size ≤ q → As q := fun q h => hA q (Nat.le_trans hS1.1 h)
  obtain ⟨n0, n1, nv⟩ := bk_in hr
  refine va_ldcS hx hb hown hk d0 ?_
  refine lv_iload_n hx hb d2 rfl (hl.2.2.2 _ _ hx1) ?_
  refine lv_iload_n hx hb d3 rfl (hl.2.2.2 _ _ hy1) ?_
  refine lv_iadd hx hb d4 ?_
  rw [← Int32.ofInt_add]
  refine va_calli (va_runV (rest := st.map (am_cv al)) ⟨hx, hb, hml, hown, hts⟩ (sj_chr l (Int32.ofInt (x + y)) n0 n1 a b H.size) ⟨am_callB (R := R) (index := 228) 1 (am_pay hts (am_tb_at 1525 (by decide +kernel) rfl)) (hts _ (am_tb_at 1525 (by decide +kernel) rfl)) rfl rfl rfl (hts _ (am_tb_at 126 (by decide +kernel) rfl)) (hts _ (am_tb_at 1522 (by decide +kernel) rfl)) ⟨by decide, by decide, by decide +kernel⟩ ⟨(show 4 + 1 ≤ R.frames by omega), (show 8 + (2 + 11) + 48 * 4 ≤ R.locals by omega)⟩, hts _ (am_tb_at 1523 (by decide +kernel) rfl), hts _ (am_tb_at 1524 (by decide +kernel) rfl)⟩ (js_preV hJ hS1 hA1) rfl rfl hl.2.1 rfl (lv_room (by rw [am_sum_eq]; omega)) d5 ⟨by omega, by omega⟩) hS1 (fun q _ h => hA1 q h) (fun q h => hA1 q h) (fun r0 u0 t H1 locs1 hte hvm hz _ hsz hkp hS2 => ?_)
  subst hz
  rw [nv]
  exact hrec _ _ _ _ _ _ h hu H1 locs1 lsC hl (hP.kept (fun k q hkq => hkp q.1 (vx_lt hP hkq) (Nat.not_le.mpr (vx_lt hP hkq)))) hS2
theorem bkD_ok (i : Fin 4) (hE : am_env p l e R s m args c cc RX9 nL D al kC layW As cb sb mcO am_tb) (hR : 10 ≤ R.frames ∧ 480 ≤ R.locals) (hS : am_S As s s.heap)
    (hrec : ∀ pc ls st F A u, rec pc ls st F A u → am_W p l e R s m args below meth c Q nL D al kC layW As cb sb mcO pc ls st F A u)
    (d0 : decode cc pc = .ok (.ldc 221, 2)) (d2 : decode cc (pc + 2) = .ok (.iload_n i, 1)) (d5 : decode cc (pc + 3) = .ok (.invokevirtual 228, 3)) (h : bkD i (pc + 6) rec K ls st F A u) : am_W p l e R s m args below meth c Q nL D al kC layW As cb sb mcO pc ls st F A u := by
  intro hu H locs lsC hl hP hS1
  obtain ⟨hx, hb, hml, hown, hts, hK, hdis, hA, hRc, hRs⟩ := id hE
  obtain ⟨a, b, hk, hJ⟩ := hS
  unfold bkD at h
  obtain ⟨hsum, h⟩ := am_cond_ok h
  have hsum := Nat.le_of_ble_eq_true hsum
  obtain ⟨x, hx1, hr, h⟩ := am_gI_ok h
  have hA1 : ∀ q, H.size ≤ q → As q := fun q h => hA q (Nat.le_trans hS1.1 h)
  obtain ⟨n0, n1, nv⟩ := bk_in hr
  refine va_ldcS hx hb hown hk d0 ?_
  refine lv_iload_n hx hb d2 rfl (hl.2.2.2 _ _ hx1) ?_
  refine va_calli (va_runV (rest := st.map (am_cv al)) ⟨hx, hb, hml, hown, hts⟩ (sj_chr l (Int32.ofInt (x)) n0 n1 a b H.size) ⟨am_callB (R := R) (index := 228) 1 (am_pay hts (am_tb_at 1525 (by decide +kernel) rfl)) (hts _ (am_tb_at 1525 (by decide +kernel) rfl)) rfl rfl rfl (hts _ (am_tb_at 126 (by decide +kernel) rfl)) (hts _ (am_tb_at 1522 (by decide +kernel) rfl)) ⟨by decide, by decide, by decide +kernel⟩ ⟨(show 4 + 1 ≤ R.frames by omega), (show 8 + (2 + 11) + 48 * 4 ≤ R.locals by omega)⟩, hts _ (am_tb_at 1523 (by decide +kernel) rfl), hts _ (am_tb_at 1524 (by decide +kernel) rfl)⟩ (js_preV hJ hS1 hA1) rfl rfl hl.2.1 rfl (lv_room (by rw [am_sum_eq]; omega)) d5 ⟨by omega, by omega⟩) hS1 (fun q _ h => hA1 q h) (fun q h => hA1 q h) (fun r0 u0 t H1 locs1 hte hvm hz _ hsz hkp hS2 => ?_)
  subst hz
  rw [nv]
  exact hrec _ _ _ _ _ _ h hu H1 locs1 lsC hl (hP.kept (fun k q hkq => hkp q.1 (vx_lt hP hkq) (Nat.not_le.mpr (vx_lt hP hkq)))) hS2
end BKS
set_option maxHeartbeats 4000000 in
/-- the same, with blocks over the constant -/
theorem am_metS {l : Launch} {lay : List LC} {x : CX} {e1 : CE} (hT : ceT e1 = 1) (hy : plainName (ceY e1).cls = true) (hlay : cxLay x = lay) (hret : cxRet x = ceR e1) (hmc : cxMc x = ceK e1) (hthr : cxThr x = true) (hhnd : cxHnd x = none)
    (hspc : ∀ (p : Program) (e : Env) (s : State) (m : MethodId) (args : Array Value) (below : List Frame) (meth : Method) (c : Code) (Q : State → Prop) (D : va_G) (al : Nat → Nat) (kC : Nat → ClassId) (layW : List LC) (As : Nat → Prop) (K : KK), am_env p l e (am_rm (ceL e1) (ceK e1)) s m args c (ceB e1) (ceY e1).cls (ceM e1) D al kC layW As 0 0 (cxMc x) am_tb → am_S As s s.heap → ∀ rec : REC, (∀ pc ls st F A u, rec pc ls st F A u → am_W p l e (am_rm (ceL e1) (ceK e1)) s m args below meth c Q (ceM e1) D al kC layW As 0 0 (cxMc x) pc ls st F A u) → ∀ pc b, cxSpc x pc = some b → ∀ ls st F A u, b rec K ls st F A u → am_W p l e (am_rm (ceL e1) (ceK e1)) s m args below meth c Q (ceM e1) D al kC layW As 0 0 (cxMc x) pc ls st F A u) (hscr : cxScr x = none)
    (hsta : am_sta l x (ceY e1).cls (ceL e1) (ceB e1))
    (hgo : ∀ as F A K, ceS e1 as F A K → (am_fl as).length ≤ ceM e1 ∧ am_way x as (ceM e1) F A K) : am_CT l lay e1 := by
  intro layW hpre D al kC as F A K sz hS
  obtain ⟨hlen, hway⟩ := hgo as F A K hS
  unfold am_Met
  rw [hT]
  refine vx_ofW (cc := ceB e1) (maxL := ceM e1) (ret := ceR e1) hy rfl ?_
  intro p e s m args below meth c s₁ B hml htab hv
  obtain ⟨rfl, rfl, hP, hK, hdis0, hZ0⟩ := hv
  have hZ0 := hZ0 (by decide)
  have hts := atoms_spec (ws := .code (ceY e1) (ceB e1) (ceM e1) (ceR e1) :: am_tb) B.pre
  have hown : s.vm.findClass (ceY e1).cls = some m.cls := findClass_of_methodNamed B.named
  have hlocks := B.notSynchronized
  rw [lg_entry_eq]
  have hLR := am_LR_ent (al := al) hlen
  generalize hAe : va_A (am_ws al kC layW F A) s.heap.size = As at hZ0 ⊢
  have hdis : am_dis al layW As := by
    refine ⟨hdis0.1, fun i hi => ?_⟩
    rw [← hAe]
    exact Or.inl ⟨i, _, am_ws_get (F := F) (A := A) (kC := kC) (al := al) (List.getElem?_eq_getElem hi)⟩
  have hA : ∀ q, s.heap.size ≤ q → As q := fun q h => by rw [← hAe]; exact Or.inr h
  have hE : am_env p l e (am_rm (ceL e1) (ceK e1)) s m (as.map (am_cv al)).toArray c (ceB e1) (ceY e1).cls (ceM e1) D al kC layW As 0 0 (cxMc x) am_tb :=
    ⟨B.exec, B.bytes, hml, hown, fun w hw => hts w (List.mem_cons_of_mem _ hw), hK, hdis, hA, by rw [hmc]; exact Nat.le_of_eq (Nat.zero_add _), by rw [hmc]; exact Nat.le_of_eq (Nat.zero_add _)⟩
  have hret1 : ∀ pc o F A ls u i, (match o with | some (.inl a) => i = Instr.ireturn ∧ (cxRet x = some .int ∨ cxRet x = some .boolean ∧ (a = 0 ∨ a = 1)) | some (.inr (.inl _)) => i = Instr.lreturn ∧ cxRet x = some .long | some (.inr (.inr _)) => False | none => i = Instr.return_ ∧ cxRet x = none) → decode (ceB e1) pc = .ok (i, 1) → K (some o) F A → am_W p l e (am_rm (ceL e1) (ceK e1)) s m (as.map (am_cv al)).toArray below meth c (vx_MQ below (am_Q (ceR e1) K D al kC layW As) (am_X K D al kC layW As) (as.map (am_cv al)).toArray s (ceK e1) (16 * ceK e1) As) (ceM e1) D al kC layW As 0 0 (cxMc x) pc ls o.toList F A u := by
    intro pc o F A ls u i ho hd hk hu H locs lsC hl hP1 hS1
    refine vx_ret ?_
    refine W.widen (k := ceK e1) (n := 16 * ceK e1) (by omega) (by omega) ?_
    rw [hret] at ho
    match o, ho with
    | none, ho =>
      obtain ⟨rfl, hr⟩ := ho
      exact W.vret B.exec B.bytes (by rw [B.returns]; exact hr) (fun t ht hW => by rw [hr]; exact ⟨⟨(F, A), rfl, hk, by dsimp only; rw [ht]; exact hP1⟩, hS1.F ht⟩) hS1.2.2 hd
    | some (.inl a), ho =>
      obtain ⟨rfl, hr | ⟨hr, h01⟩⟩ := ho
      · exact W.iret (v := Int32.ofInt a) B.exec B.bytes (by rw [B.returns]; exact hr) (fun t ht hW => by rw [hr]; exact ⟨⟨_, (a, F, A), rfl, ⟨rfl, hk⟩, by dsimp only; rw [ht]; exact hP1⟩, hS1.F ht⟩) hS1.2.2 hd
      · exact W.zret (v := Int32.ofInt a) (ty := .boolean) B.exec B.bytes (by rw [B.returns]; exact hr) (by rcases h01 with rfl | rfl <;> rfl) (fun t ht hW => by rw [hr]; exact ⟨⟨_, (a, F, A), rfl, ⟨rfl, hk⟩, by dsimp only; rw [ht]; exact hP1⟩, hS1.F ht⟩) hS1.2.2 hd
    | some (.inr (.inl a)), ho =>
      obtain ⟨rfl, hr⟩ := ho
      exact W.lret (v := Int64.ofInt a) B.exec B.bytes (by rw [B.returns]; exact hr) (fun t ht hW => by rw [hr]; exact ⟨⟨_, (a, F, A), rfl, ⟨rfl, hk⟩, by dsimp only; rw [ht]; exact hP1⟩, hS1.F ht⟩) hS1.2.2 hd
    | some (.inr (.inr _)), ho => exact ho.elim
  have key := hway (am_W p l e (am_rm (ceL e1) (ceK e1)) s m (as.map (am_cv al)).toArray below meth c (vx_MQ below (am_Q (ceR e1) K D al kC layW As) (am_X K D al kC layW As) (as.map (am_cv al)).toArray s (ceK e1) (16 * ceK e1) As) (ceM e1) D al kC layW As 0 0 (cxMc x)) ⟨fun rec hrec pc ls st F A u h =>
    am_run_ok hE ⟨Nat.le_refl _, Nat.le_refl _⟩ (by rw [hlay]; exact hpre) hsta (fun _ => hZ0) (fun L xs h => by rw [hscr] at h; cases h) (fun rec hrec pc b h => hspc p e s m _ below meth c _ D al kC layW As K hE hZ0.2.2.2.2 rec hrec pc b h)
      (fun rec hrec pc k e2 hd hk hT2 ls F A u hx hu H locs lsC rest q9 ce hl hP1 hS1 hce hcv hcl => by
        rw [hhnd, hthr] at hx
        refine vx_widen (k := ceK e1) (n := 16 * ceK e1) (by omega) (by omega) ?_
        exact vx_out (E := am_iob) (fun x hx => (htab x hx).elim) hlocks hce hcv hcl (fun t ht _ => ⟨(F, A), hx, ⟨rfl, by dsimp only; rw [ht]; exact hP1⟩, hS1.F ht⟩) hS1.2.2 (Nat.le_refl _) (Nat.le_refl _)) hret1 rec hrec h, fun _ _ _ _ _ _ _ hs h => am_W_sub hs h⟩
  exact key (Nat.zero_le _) s.heap [] _ hLR hP va_S.rf
/-! the words, pure -/
def wsN : Nat → Nat
  | 0 => 0 | 1 => 6 | 2 => 11 | 3 => 15 | 4 => 21 | _ => 27
def wlN : Nat → Nat
  | 0 => 5 | 1 => 4 | 2 => 3 | 3 => 5 | 4 => 5 | _ => 0
def wdL : Nat → List Int
  | 0 => [99, 117, 114, 118, 101] | 1 => [108, 105, 110, 101] | 2 => [115, 101, 116] | 3 => [108, 105, 109, 105, 116] | 4 => [100, 101, 112, 116, 104] | _ => []
theorem wd_t : ∀ k : Nat, k < 5 → (wdL k).length = wlN k ∧ wsN (k + 1) = wsN k + wlN k + 1 ∧ 1 ≤ wlN k ∧ wlN k ≤ 5 ∧ wsN k + wlN k < 27 ∧ ∀ n : Nat, n < 6 → n ≤ wlN k → ((cW ((wsN k + n : Nat) : Int) = 32 ↔ n = wlN k) ∧ (n < wlN k → (wdL k).getD n 0 = cW ((wsN k + n : Nat) : Int))) := by decide +kernel
theorem cW_r0 : ∀ k : Nat, k < 27 → 0 ≤ cW (k : Int) ∧ cW (k : Int) ≤ 127 := by decide +kernel
theorem cW_r {x : Int} (h0 : 0 ≤ x) (h1 : x < 27) : 0 ≤ cW x ∧ cW x ≤ 127 := by
  obtain ⟨k, rfl⟩ : ∃ k : Nat, x = k := ⟨x.toNat, by omega⟩
  exact cW_r0 k (by omega)
def wdG (T : Int → Int) (p e : Int) : Nat → Int
  | 0 => wdX T p e
  | 1 => if wdE T p e (wdL 1) then 1 else if wdE T p e (wdL 2) then 2 else if wdE T p e (wdL 3) then 3 else if wdE T p e (wdL 4) then 4 else -1
  | 2 => if wdE T p e (wdL 2) then 2 else if wdE T p e (wdL 3) then 3 else if wdE T p e (wdL 4) then 4 else -1
  | 3 => if wdE T p e (wdL 3) then 3 else if wdE T p e (wdL 4) then 4 else -1
  | 4 => if wdE T p e (wdL 4) then 4 else -1
  | _ => -1
theorem wdG_s {T : Int → Int} {p e : Int} : ∀ k : Nat, k < 5 → wdG T p e k = if wdE T p e (wdL k) then (k : Int) else wdG T p e (k + 1)
  | 0, _ => rfl | 1, _ => rfl | 2, _ => rfl | 3, _ => rfl | 4, _ => rfl
  | n + 5, h => by omega
/-- where the search stands -/
def whA (T : Int → Int) (p e k i : Int) : Prop := ∃ n : Nat, n ≤ 5 ∧ k = n ∧ i = wsN n ∧ wdX T p e = wdG T p e n
def whB (T : Int → Int) (p e k i j : Int) : Prop := ∃ n m : Nat, n < 5 ∧ m ≤ wlN n ∧ k = n ∧ i = wsN n ∧ j = m ∧ wdX T p e = wdG T p e n ∧ p + m ≤ e ∧ ∀ t : Nat, t < m → T (p + t) = (wdL n).getD t 0
def whC (T : Int → Int) (p e k i : Int) : Prop := ∃ n m : Nat, n < 5 ∧ m ≤ wlN n ∧ k = n ∧ i = (wsN n : Int) + m ∧ wdX T p e = wdG T p e (n + 1)
theorem whA_0 (T : Int → Int) (p e : Int) : whA T p e 0 0 := ⟨0, by decide, rfl, rfl, rfl⟩
theorem whA_b {T : Int → Int} {p e k i : Int} (h : whA T p e k i) : 0 ≤ k ∧ k ≤ 5 ∧ 0 ≤ i ∧ i ≤ 27 := by
  obtain ⟨n, h1, rfl, rfl, h4⟩ := h
  have : wsN n ≤ 27 := by
    have hh : ∀ n : Nat, n ≤ 5 → wsN n ≤ 27 := by decide
    exact hh n h1
  omega
theorem whA_e {T : Int → Int} {p e k i : Int} (h : whA T p e k i) (hi : ¬ i < 27) : wdX T p e = -1 := by
  obtain ⟨n, h1, rfl, rfl, h4⟩ := h
  have hh : ∀ n : Nat, n ≤ 5 → ¬ n = 5 → wsN n < 27 := by decide
  have e5 : n = 5 := by
    by_cases z : n = 5
    · exact z
    · have := hh n h1 z; omega
  rw [h4, e5]
  rfl
theorem whA_B {T : Int → Int} {p e k i : Int} (h : whA T p e k i) (hi : i < 27) (hp : p ≤ e) : whB T p e k i 0 := by
  obtain ⟨n, h1, rfl, rfl, h4⟩ := h
  have n5 : n < 5 := by
    by_cases z : n = 5
    · subst z; exact absurd hi (by decide)
    · omega
  exact ⟨n, 0, n5, by omega, rfl, rfl, rfl, h4, by omega, fun t ht => by omega⟩
theorem whB_b {T : Int → Int} {p e k i j : Int} (h : whB T p e k i j) : (0 ≤ k ∧ k ≤ 4) ∧ (0 ≤ i ∧ i < 27) ∧ (0 ≤ j ∧ j ≤ 5) ∧ i + j < 27 ∧ p + j ≤ e := by
  obtain ⟨n, m, h1, h2, rfl, rfl, rfl, h6, h7, h8⟩ := h
  obtain ⟨t1, t2, t3, t4, t5, t6⟩ := wd_t n h1
  omega
theorem whB_B {T : Int → Int} {p e k i j : Int} (h : whB T p e k i j) (c1 : ¬ cW (i + j) = 32) (c2 : p + j < e) (c3 : T (p + j) = cW (i + j)) : whB T p e k i (j + 1) := by
  obtain ⟨n, m, h1, h2, rfl, rfl, rfl, h6, h7, h8⟩ := h
  obtain ⟨t1, t2, t3, t4, t5, t6⟩ := wd_t n h1
  obtain ⟨t7, t8⟩ := t6 m (by omega) h2
  have ee : ((wsN n : Nat) : Int) + (m : Int) = ((wsN n + m : Nat) : Int) := by omega
  rw [ee] at c1 c3
  have hm : m < wlN n := by
    rcases Nat.lt_or_ge m (wlN n) with z | z
    · exact z
    · exact absurd (t7.mpr (by omega)) c1
  refine ⟨n, m + 1, h1, by omega, rfl, rfl, by omega, h6, by omega, fun t ht => ?_⟩
  rcases Nat.lt_or_ge t m with z | z
  · exact h8 t z
  · obtain rfl : t = m := by omega
    rw [c3, t8 hm]
theorem whB_r {T : Int → Int} {p e k i j : Int} (h : whB T p e k i j) (c1 : cW (i + j) = 32) (c2 : p + j = e) : wdX T p e = k := by
  obtain ⟨n, m, h1, h2, rfl, rfl, rfl, h6, h7, h8⟩ := h
  obtain ⟨t1, t2, t3, t4, t5, t6⟩ := wd_t n h1
  obtain ⟨t7, t8⟩ := t6 m (by omega) h2
  have ee : ((wsN n : Nat) : Int) + (m : Int) = ((wsN n + m : Nat) : Int) := by omega
  rw [ee] at c1
  have hm := t7.mp c1
  rw [h6, wdG_s n h1, if_pos ⟨by rw [t1]; omega, fun t ht => h8 t (by rw [t1] at ht; omega)⟩]
theorem whB_C {T : Int → Int} {p e k i j : Int} (h : whB T p e k i j) (c : (cW (i + j) = 32 ∧ ¬ p + j = e) ∨ (¬ cW (i + j) = 32 ∧ (e ≤ p + j ∨ ¬ T (p + j) = cW (i + j)))) : whC T p e k i := by
  obtain ⟨n, m, h1, h2, rfl, rfl, rfl, h6, h7, h8⟩ := h
  obtain ⟨t1, t2, t3, t4, t5, t6⟩ := wd_t n h1
  obtain ⟨t7, t8⟩ := t6 m (by omega) h2
  have ee : ((wsN n : Nat) : Int) + (m : Int) = ((wsN n + m : Nat) : Int) := by omega
  rw [ee] at c
  refine ⟨n, 0, h1, by omega, rfl, by omega, ?_⟩
  have hn : ¬ wdE T p e (wdL n) := by
    rintro ⟨g1, g2⟩
    rw [t1] at g1 g2
    rcases c with ⟨c1, c2⟩ | ⟨c1, c2⟩
    · have := t7.mp c1; omega
    · have hm : m < wlN n := by
        rcases Nat.lt_or_ge m (wlN n) with z | z
        · exact z
        · exact absurd (t7.mpr (by omega)) c1
      rcases c2 with c2 | c2
      · omega
      · exact c2 (by rw [g2 m hm, t8 hm])
  rw [h6, wdG_s n h1, if_neg hn]
theorem whC_b {T : Int → Int} {p e k i : Int} (h : whC T p e k i) : (0 ≤ k ∧ k ≤ 4) ∧ (0 ≤ i ∧ i < 27) := by
  obtain ⟨n, m, h1, h2, rfl, rfl, h6⟩ := h
  obtain ⟨t1, t2, t3, t4, t5, t6⟩ := wd_t n h1
  omega
theorem whC_A {T : Int → Int} {p e k i : Int} (h : whC T p e k i) (c : cW i = 32) : whA T p e (k + 1) (i + 1) := by
  obtain ⟨n, m, h1, h2, rfl, rfl, h6⟩ := h
  obtain ⟨t1, t2, t3, t4, t5, t6⟩ := wd_t n h1
  obtain ⟨t7, t8⟩ := t6 m (by omega) h2
  have ee : ((wsN n : Nat) : Int) + (m : Int) = ((wsN n + m : Nat) : Int) := by omega
  rw [ee] at c
  have hm := t7.mp c
  exact ⟨n + 1, by omega, by omega, by rw [t2]; omega, h6⟩
theorem whC_C {T : Int → Int} {p e k i : Int} (h : whC T p e k i) (c : ¬ cW i = 32) : whC T p e k (i + 1) := by
  obtain ⟨n, m, h1, h2, rfl, rfl, h6⟩ := h
  obtain ⟨t1, t2, t3, t4, t5, t6⟩ := wd_t n h1
  obtain ⟨t7, t8⟩ := t6 m (by omega) h2
  have ee : ((wsN n : Nat) : Int) + (m : Int) = ((wsN n + m : Nat) : Int) := by omega
  rw [ee] at c
  have hm : m < wlN n := by
    rcases Nat.lt_or_ge m (wlN n) with z | z
    · exact z
    · exact absurd (t7.mpr (by omega)) c
  exact ⟨n, m + 1, h1, by omega, rfl, by omega, h6⟩
def qwX9_wordHere : Nat → Option BLK := fun pc => cond (Nat.beq pc 5) (some bkL) (cond (Nat.beq pc 15) (some (bkC 2 3 23)) (cond (Nat.beq pc 52) (some (bkC 2 3 60)) (cond (Nat.beq pc 69) (some (bkC 2 3 77)) (cond (Nat.beq pc 97) (some (bkD 2 103)) none))))
theorem bk_c {c : Bool} {x y : Option BLK} {b : BLK} (h : cond c x y = some b) : (c = true ∧ x = some b) ∨ y = some b := by
  cases c
  · exact Or.inr h
  · exact Or.inl ⟨rfl, h⟩
theorem qsX9_wordHere_spc (l : Launch) (p : Program) (e : Env) (s : State) (m : MethodId) (args : Array Value) (below : List Frame) (meth : Method) (c : Code) (Q : State → Prop) (D : va_G) (al : Nat → Nat) (kC : Nat → ClassId) (layW : List LC) (As : Nat → Prop) (K : KK) (hE : am_env p l e (am_rm 10 0) s m args c cX9_wordHere RX9 4 D al kC layW As 0 0 0 am_tb) (hS : am_S As s s.heap) (rec : REC) (hrec : ∀ pc ls st F A u, rec pc ls st F A u → am_W p l e (am_rm 10 0) s m args below meth c Q 4 D al kC layW As 0 0 0 pc ls st F A u) (pc : Nat) (b : BLK) (hb : qwX9_wordHere pc = some b) (ls : LVs) (st : List AV) (F : FF) (A : AA) (u : Nat) (h : b rec K ls st F A u) : am_W p l e (am_rm 10 0) s m args below meth c Q 4 D al kC layW As 0 0 0 pc ls st F A u := by
  have hR : 10 ≤ (am_rm 10 0).frames ∧ 480 ≤ (am_rm 10 0).locals := ⟨by decide, by decide⟩
  unfold qwX9_wordHere at hb
  rcases bk_c hb with ⟨e1, hb⟩ | hb
  · have e1 := am_bq e1
    subst e1
    cases hb
    exact bkL_ok hE hR hS hrec (by decide +kernel) (by decide +kernel) h
  rcases bk_c hb with ⟨e1, hb⟩ | hb
  · have e1 := am_bq e1
    subst e1
    cases hb
    exact bkC_ok (pc := 15) 2 3 hE hR hS hrec (by decide +kernel) (by decide +kernel) (by decide +kernel) (by decide +kernel) (by decide +kernel) h
  rcases bk_c hb with ⟨e1, hb⟩ | hb
  · have e1 := am_bq e1
    subst e1
    cases hb
    exact bkC_ok (pc := 52) 2 3 hE hR hS hrec (by decide +kernel) (by decide +kernel) (by decide +kernel) (by decide +kernel) (by decide +kernel) h
  rcases bk_c hb with ⟨e1, hb⟩ | hb
  · have e1 := am_bq e1
    subst e1
    cases hb
    exact bkC_ok (pc := 69) 2 3 hE hR hS hrec (by decide +kernel) (by decide +kernel) (by decide +kernel) (by decide +kernel) (by decide +kernel) h
  rcases bk_c hb with ⟨e1, hb⟩ | hb
  · have e1 := am_bq e1
    subst e1
    cases hb
    exact bkD_ok (pc := 97) 2 hE hR hS hrec (by decide +kernel) (by decide +kernel) (by decide +kernel) h
  cases hb
def qkX9_wordHere : Nat → Option CI := fun pc => cond (Nat.ble 125 pc) none (cond (Nat.ble 55 pc) (cond (Nat.ble 88 pc) (cond (Nat.ble 103 pc) (cond (Nat.ble 114 pc) (cond (Nat.ble 120 pc) (cond (Nat.beq pc 120) (some (.goto (-116), 123, [4])) (cond (Nat.beq pc 123) (some (.iconst (-1), 124, [])) (cond (Nat.beq pc 124) (some (.ireturn, 125, [])) (none)))) (cond (Nat.beq pc 114) (some (.iinc 2 1, 117, [])) (cond (Nat.beq pc 117) (some (.iinc 1 1, 120, [])) (none)))) (cond (Nat.ble 108 pc) (cond (Nat.beq pc 108) (some (.iinc 2 1, 111, [])) (cond (Nat.beq pc 111) (some (.goto (-14), 114, [97])) (none))) (cond (Nat.beq pc 103) (some (.bipush 32, 105, [])) (cond (Nat.beq pc 105) (some (.if_icmp .eq 9, 108, [114])) (none))))) (cond (Nat.ble 96 pc) (cond (Nat.ble 99 pc) (cond (Nat.beq pc 99) (some (.iload_n 2, 100, [])) (cond (Nat.beq pc 100) (some (.invokevirtual 228, 103, [])) (none))) (cond (Nat.beq pc 96) (some (.ireturn, 97, [])) (cond (Nat.beq pc 97) (some (.ldc 221, 99, [])) (none)))) (cond (Nat.ble 92 pc) (cond (Nat.beq pc 92) (some (.if_icmp .ne 5, 95, [97])) (cond (Nat.beq pc 95) (some (.iload_n 1, 96, [])) (none))) (cond (Nat.beq pc 88) (some (.aload_n 0, 89, [])) (cond (Nat.beq pc 89) (some (.getfield 192, 92, [])) (none)))))) (cond (Nat.ble 72 pc) (cond (Nat.ble 79 pc) (cond (Nat.ble 83 pc) (cond (Nat.beq pc 83) (some (.getfield 201, 86, [])) (cond (Nat.beq pc 86) (some (.iload_n 3, 87, [])) (cond (Nat.beq pc 87) (some (.iadd, 88, [])) (none)))) (cond (Nat.beq pc 79) (some (.if_icmp .ne 18, 82, [97])) (cond (Nat.beq pc 82) (some (.aload_n 0, 83, [])) (none)))) (cond (Nat.ble 74 pc) (cond (Nat.beq pc 74) (some (.invokevirtual 228, 77, [])) (cond (Nat.beq pc 77) (some (.bipush 32, 79, [])) (none))) (cond (Nat.beq pc 72) (some (.iload_n 3, 73, [])) (cond (Nat.beq pc 73) (some (.iadd, 74, [])) (none))))) (cond (Nat.ble 63 pc) (cond (Nat.ble 69 pc) (cond (Nat.beq pc 69) (some (.ldc 221, 71, [])) (cond (Nat.beq pc 71) (some (.iload_n 2, 72, [])) (none))) (cond (Nat.beq pc 63) (some (.iinc 3 1, 66, [])) (cond (Nat.beq pc 66) (some (.goto (-51), 69, [15])) (none)))) (cond (Nat.ble 57 pc) (cond (Nat.beq pc 57) (some (.invokevirtual 228, 60, [])) (cond (Nat.beq pc 60) (some (.if_icmp .ne 9, 63, [69])) (none))) (cond (Nat.beq pc 55) (some (.iload_n 3, 56, [])) (cond (Nat.beq pc 56) (some (.iadd, 57, [])) (none))))))) (cond (Nat.ble 25 pc) (cond (Nat.ble 41 pc) (cond (Nat.ble 49 pc) (cond (Nat.ble 51 pc) (cond (Nat.beq pc 51) (some (.iaload, 52, [])) (cond (Nat.beq pc 52) (some (.ldc 221, 54, [])) (cond (Nat.beq pc 54) (some (.iload_n 2, 55, [])) (none)))) (cond (Nat.beq pc 49) (some (.iload_n 3, 50, [])) (cond (Nat.beq pc 50) (some (.iadd, 51, [])) (none)))) (cond (Nat.ble 45 pc) (cond (Nat.beq pc 45) (some (.aload_n 0, 46, [])) (cond (Nat.beq pc 46) (some (.getfield 201, 49, [])) (none))) (cond (Nat.beq pc 41) (some (.aload_n 0, 42, [])) (cond (Nat.beq pc 42) (some (.getfield 7, 45, [])) (none))))) (cond (Nat.ble 33 pc) (cond (Nat.ble 35 pc) (cond (Nat.beq pc 35) (some (.getfield 192, 38, [])) (cond (Nat.beq pc 38) (some (.if_icmp .ge 31, 41, [69])) (none))) (cond (Nat.beq pc 33) (some (.iadd, 34, [])) (cond (Nat.beq pc 34) (some (.aload_n 0, 35, [])) (none)))) (cond (Nat.ble 29 pc) (cond (Nat.beq pc 29) (some (.getfield 201, 32, [])) (cond (Nat.beq pc 32) (some (.iload_n 3, 33, [])) (none))) (cond (Nat.beq pc 25) (some (.if_icmp .eq 44, 28, [69])) (cond (Nat.beq pc 28) (some (.aload_n 0, 29, [])) (none)))))) (cond (Nat.ble 13 pc) (cond (Nat.ble 18 pc) (cond (Nat.ble 20 pc) (cond (Nat.beq pc 20) (some (.invokevirtual 228, 23, [])) (cond (Nat.beq pc 23) (some (.bipush 32, 25, [])) (none))) (cond (Nat.beq pc 18) (some (.iload_n 3, 19, [])) (cond (Nat.beq pc 19) (some (.iadd, 20, [])) (none)))) (cond (Nat.ble 15 pc) (cond (Nat.beq pc 15) (some (.ldc 221, 17, [])) (cond (Nat.beq pc 17) (some (.iload_n 2, 18, [])) (none))) (cond (Nat.beq pc 13) (some (.iconst 0, 14, [])) (cond (Nat.beq pc 14) (some (.istore_n 3, 15, [])) (none))))) (cond (Nat.ble 4 pc) (cond (Nat.ble 7 pc) (cond (Nat.beq pc 7) (some (.invokevirtual 223, 10, [])) (cond (Nat.beq pc 10) (some (.if_icmp .ge 113, 13, [123])) (none))) (cond (Nat.beq pc 4) (some (.iload_n 2, 5, [])) (cond (Nat.beq pc 5) (some (.ldc 221, 7, [])) (none)))) (cond (Nat.ble 2 pc) (cond (Nat.beq pc 2) (some (.iconst 0, 3, [])) (cond (Nat.beq pc 3) (some (.istore_n 2, 4, [])) (none))) (cond (Nat.beq pc 0) (some (.iconst 0, 1, [])) (cond (Nat.beq pc 1) (some (.istore_n 1, 2, [])) (none))))))))
theorem qkX9_wordHere_ok : ∀ pc i nx ts, qkX9_wordHere pc = some (i, nx, ts) → am_cok cX9_wordHere pc (i, nx, ts) = true := fun pc i nx ts h => am_tok_ok (n := 125) (by decide +kernel) (fun pc h => by show cond (Nat.ble 125 pc) _ _ = _; rw [Nat.ble_eq_true_of_le h]; rfl) h
def qaX9_wordHere : Nat → Option CE := fun k => none
theorem qyX9_wordHere (l : Launch) (hst : l.stackTraces = false) : ∀ k e1, qaX9_wordHere k = some e1 → am_cal l layM RX9 10 k e1 ∧ ceT e1 = 0 := q_nil
def qxX9_wordHere : CX := (qkX9_wordHere, layM, qfX9, qaX9_wordHere, qcX9, qlX9, qmX9, (some .int), true, none, 0, none, qwX9_wordHere)
theorem qzX9_wordHere (l : Launch) (hst : l.stackTraces = false) : am_sta l qxX9_wordHere RX9 10 cX9_wordHere := ⟨qkX9_wordHere_ok, layM_ok, qfX9_ok, qcX9_ok, qlX9_ok, am_mthP qmX9_ok (by decide), fun k e1 h => (qyX9_wordHere l hst k e1 h).1⟩
def qsX9_wordHere : SP := fun as F A K => match as with
  | [.inr (.inr o)] => cond (Nat.beq o 25) ((byO (A 26) ∧ (0 ≤ (F 25 22) ∧ (F 25 22) ≤ (F 25 21) ∧ (F 25 21) ≤ 800)) ∧ (K (some (some (vI (wdX (A 26) ((F 25 22)) ((F 25 21)))))) F A)) (False)
  | _ => False
def qeX9_wordHere : CE := (yX9_wordHere, cX9_wordHere, 4, (some .int), 0, some 9, 1, [], 0, 10, qsX9_wordHere)
theorem qbX9_wordHere : am_mb qeX9_wordHere := ⟨am_tb_at 1510 (by decide +kernel) rfl, am_tb_at 124 (by decide +kernel) rfl, ⟨by decide, by decide, by decide +kernel⟩, by decide, by decide, am_tb_at 1509 (by decide +kernel) rfl, am_tb_at 51 (by decide +kernel) rfl, _, _, rfl⟩
def qnX9_wordHere_25 : CUT := fun pc => cond (Nat.beq pc 4) (some [true, true, true, false]) (cond (Nat.beq pc 15) (some [true, true, true, true]) (cond (Nat.beq pc 97) (some [true, true, true, false]) (none)))
def qiX9_wordHere_25  (F0 : FF) (A0 : AA) : REC := fun pc ls st F A u => cond (Nat.beq pc 4) (match ls, st, u with
    | [some (.inr (.inr s0)), some (.inl wk), some (.inl wi), none], [], 0 => s0 = 25 ∧ F = F0 ∧ A = A0 ∧ (whA (A 26) (F 25 22) (F 25 21) wk wi)
    | _, _, _ => False) (cond (Nat.beq pc 15) (match ls, st, u with
    | [some (.inr (.inr s0)), some (.inl wk), some (.inl wi), some (.inl wj)], [], 0 => s0 = 25 ∧ F = F0 ∧ A = A0 ∧ (whB (A 26) (F 25 22) (F 25 21) wk wi wj)
    | _, _, _ => False) (cond (Nat.beq pc 97) (match ls, st, u with
    | [some (.inr (.inr s0)), some (.inl wk), some (.inl wi), none], [], 0 => s0 = 25 ∧ F = F0 ∧ A = A0 ∧ (whC (A 26) (F 25 22) (F 25 21) wk wi)
    | _, _, _ => False) (False)))
def quX9_wordHere_25 : Nat → LVs → List AV → FF → AA → Nat := fun pc ls _ F A => cond (Nat.beq pc 4) (match ls with
    | [some (.inr (.inr s0)), some (.inl wk), some (.inl wi), none] => Int.toNat (1000 - 100 * wk)
    | _ => 0) (cond (Nat.beq pc 15) (match ls with
    | [some (.inr (.inr s0)), some (.inl wk), some (.inl wi), some (.inl wj)] => Int.toNat (990 - 100 * wk - wj)
    | _ => 0) (cond (Nat.beq pc 97) (match ls with
    | [some (.inr (.inr s0)), some (.inl wk), some (.inl wi), none] => Int.toNat (960 - 100 * wk - wi)
    | _ => 0) (0)))
set_option maxRecDepth 20000 in
theorem qvX9_wordHere_25_0  (F0 : FF) (A0 : AA) (K : KK) (h : (byO (A0 26) ∧ (0 ≤ (F0 25 22) ∧ (F0 25 22) ≤ (F0 25 21) ∧ (F0 25 21) ≤ 800)) ∧ (K (some (some (vI (wdX (A0 26) ((F0 25 22)) ((F0 25 21)))))) F0 A0)) : am_stp qxX9_wordHere (am_run qxX9_wordHere qnX9_wordHere_25 (qiX9_wordHere_25  F0 A0) K 33) K 0 (am_ent [vR 25] 4) [] F0 A0 0 := by
  show am_stp qxX9_wordHere (am_run qxX9_wordHere qnX9_wordHere_25 (qiX9_wordHere_25  F0 A0) K 33) K 0 [some (vR 25), none, none, none] [] F0 A0 0
  obtain ⟨hp, h⟩ := h
  show 25 = 25 ∧ F0 = F0 ∧ A0 = A0 ∧ (whA (A0 26) (F0 25 22) (F0 25 21) 0 0)
  refine ⟨rfl, rfl, rfl, ?_⟩
  exact whA_0 _ _ _
set_option maxRecDepth 20000 in
theorem qvX9_wordHere_25_4  (F0 : FF) (A0 : AA) (K : KK) (h : (byO (A0 26) ∧ (0 ≤ (F0 25 22) ∧ (F0 25 22) ≤ (F0 25 21) ∧ (F0 25 21) ≤ 800)) ∧ (K (some (some (vI (wdX (A0 26) ((F0 25 22)) ((F0 25 21)))))) F0 A0)) (wk : Int) (wi : Int) (hi : whA (A0 26) (F0 25 22) (F0 25 21) wk wi) : am_stp qxX9_wordHere (am_run qxX9_wordHere qnX9_wordHere_25 (fun pc ls st F9 A9 u => qiX9_wordHere_25  F0 A0 pc ls st F9 A9 u ∧ quX9_wordHere_25 pc ls st F9 A9 < quX9_wordHere_25 4 [some (vR 25), some (vI wk), some (vI wi), none] [] F0 A0) K 33) K 4 [some (vR 25), some (vI wk), some (vI wi), none] [] F0 A0 0 := by
  obtain ⟨hp, h⟩ := h
  obtain ⟨pt, p0, p1, p2⟩ := hp
  have ib := whA_b hi
  show (w32 wi < w32 27 → ((25 = 25 ∧ F0 = F0 ∧ A0 = A0 ∧ (whB (A0 26) (F0 25 22) (F0 25 21) wk wi 0)) ∧ (Int.toNat (990 - 100 * wk - 0)) < (Int.toNat (1000 - 100 * wk)))) ∧ (¬ w32 wi < w32 27 → (K (some (some (vI (-1)))) F0 A0))
  refine ⟨fun c1 => ?_, fun c1 => ?_⟩
  · skip
    (try simp (disch := omega) only [w32_0, wbi0, Classical.not_not, w32_id] at c1)
    refine ⟨⟨rfl, rfl, rfl, ?_⟩, by omega⟩
    exact whA_B hi (by omega) p1
  · skip
    (try simp (disch := omega) only [w32_0, wbi0, Classical.not_not, w32_id] at c1)
    exact K_eq h (by rw [whA_e hi (by omega)])
set_option maxRecDepth 20000 in
theorem qvX9_wordHere_25_15  (F0 : FF) (A0 : AA) (K : KK) (h : (byO (A0 26) ∧ (0 ≤ (F0 25 22) ∧ (F0 25 22) ≤ (F0 25 21) ∧ (F0 25 21) ≤ 800)) ∧ (K (some (some (vI (wdX (A0 26) ((F0 25 22)) ((F0 25 21)))))) F0 A0)) (wk : Int) (wi : Int) (wj : Int) (hi : whB (A0 26) (F0 25 22) (F0 25 21) wk wi wj) : am_stp qxX9_wordHere (am_run qxX9_wordHere qnX9_wordHere_25 (fun pc ls st F9 A9 u => qiX9_wordHere_25  F0 A0 pc ls st F9 A9 u ∧ quX9_wordHere_25 pc ls st F9 A9 < quX9_wordHere_25 15 [some (vR 25), some (vI wk), some (vI wi), some (vI wj)] [] F0 A0) K 33) K 15 [some (vR 25), some (vI wk), some (vI wi), some (vI wj)] [] F0 A0 0 := by
  obtain ⟨hp, h⟩ := h
  obtain ⟨pt, p0, p1, p2⟩ := hp
  have ib := whB_b hi
  have wb := cW_r (x := wi + wj) (by omega) (by omega)
  have bt : ∀ x, 0 ≤ x → x < 800 → 0 ≤ A0 26 x ∧ A0 26 x ≤ 255 := pt
  have b0 : F0 25 22 + wj < F0 25 21 → 0 ≤ A0 26 (F0 25 22 + wj) ∧ A0 26 (F0 25 22 + wj) ≤ 255 := fun z => pt _ (by omega) (by omega)
  show (0 ≤ w32 (wi + wj) ∧ w32 (wi + wj) < 27) ∧ ((w32 (cW (w32 (wi + wj))) = w32 32 → ((0 ≤ w32 (wi + wj) ∧ w32 (wi + wj) < 27) ∧ ((w32 (cW (w32 (wi + wj))) = w32 32 → ((w32 ((F0 25 22) + wj) = w32 (F0 25 21) → (K (some (some (vI wk))) F0 A0)) ∧ (¬ w32 ((F0 25 22) + wj) = w32 (F0 25 21) → ((25 = 25 ∧ F0 = F0 ∧ A0 = A0 ∧ (whC (A0 26) (F0 25 22) (F0 25 21) wk wi)) ∧ (Int.toNat (960 - 100 * wk - wi)) < (Int.toNat (990 - 100 * wk - wj)))))) ∧ (¬ w32 (cW (w32 (wi + wj))) = w32 32 → ((25 = 25 ∧ F0 = F0 ∧ A0 = A0 ∧ (whC (A0 26) (F0 25 22) (F0 25 21) wk wi)) ∧ (Int.toNat (960 - 100 * wk - wi)) < (Int.toNat (990 - 100 * wk - wj))))))) ∧ (¬ w32 (cW (w32 (wi + wj))) = w32 32 → ((w32 ((F0 25 22) + wj) < w32 (F0 25 21) → ((0 ≤ w32 ((F0 25 22) + wj) ∧ w32 ((F0 25 22) + wj) < 800) ∧ ((0 ≤ w32 (wi + wj) ∧ w32 (wi + wj) < 27) ∧ ((w32 (A0 26 (w32 ((F0 25 22) + wj))) = w32 (cW (w32 (wi + wj))) → ((25 = 25 ∧ F0 = F0 ∧ A0 = A0 ∧ (whB (A0 26) (F0 25 22) (F0 25 21) wk wi (wj + 1))) ∧ (Int.toNat (990 - 100 * wk - (wj + 1))) < (Int.toNat (990 - 100 * wk - wj)))) ∧ (¬ w32 (A0 26 (w32 ((F0 25 22) + wj))) = w32 (cW (w32 (wi + wj))) → ((0 ≤ w32 (wi + wj) ∧ w32 (wi + wj) < 27) ∧ ((w32 (cW (w32 (wi + wj))) = w32 32 → ((w32 ((F0 25 22) + wj) = w32 (F0 25 21) → (K (some (some (vI wk))) F0 A0)) ∧ (¬ w32 ((F0 25 22) + wj) = w32 (F0 25 21) → ((25 = 25 ∧ F0 = F0 ∧ A0 = A0 ∧ (whC (A0 26) (F0 25 22) (F0 25 21) wk wi)) ∧ (Int.toNat (960 - 100 * wk - wi)) < (Int.toNat (990 - 100 * wk - wj)))))) ∧ (¬ w32 (cW (w32 (wi + wj))) = w32 32 → ((25 = 25 ∧ F0 = F0 ∧ A0 = A0 ∧ (whC (A0 26) (F0 25 22) (F0 25 21) wk wi)) ∧ (Int.toNat (960 - 100 * wk - wi)) < (Int.toNat (990 - 100 * wk - wj))))))))))) ∧ (¬ w32 ((F0 25 22) + wj) < w32 (F0 25 21) → ((0 ≤ w32 (wi + wj) ∧ w32 (wi + wj) < 27) ∧ ((w32 (cW (w32 (wi + wj))) = w32 32 → ((w32 ((F0 25 22) + wj) = w32 (F0 25 21) → (K (some (some (vI wk))) F0 A0)) ∧ (¬ w32 ((F0 25 22) + wj) = w32 (F0 25 21) → ((25 = 25 ∧ F0 = F0 ∧ A0 = A0 ∧ (whC (A0 26) (F0 25 22) (F0 25 21) wk wi)) ∧ (Int.toNat (960 - 100 * wk - wi)) < (Int.toNat (990 - 100 * wk - wj)))))) ∧ (¬ w32 (cW (w32 (wi + wj))) = w32 32 → ((25 = 25 ∧ F0 = F0 ∧ A0 = A0 ∧ (whC (A0 26) (F0 25 22) (F0 25 21) wk wi)) ∧ (Int.toNat (960 - 100 * wk - wi)) < (Int.toNat (990 - 100 * wk - wj))))))))))
  refine ⟨by first | omega | (simp (disch := omega) only [w32_0, w64_0, wbi0, wbi1, yc_eq0, yc_lt0, yc_gt0, Classical.not_not, w32_id, w64_id]; omega) | (simp (disch := omega) only [w32_0, w64_0, wbi0, wbi1, yc_eq0, yc_lt0, yc_gt0, Classical.not_not, w32_id, w64_id]; done), ?_⟩
  refine ⟨fun c1 => ?_, fun c1 => ?_⟩
  · skip
    (try simp (disch := omega) only [w32_0, wbi0, Classical.not_not, w32_id] at c1)
    refine ⟨by first | omega | (simp (disch := omega) only [w32_0, w64_0, wbi0, wbi1, yc_eq0, yc_lt0, yc_gt0, Classical.not_not, w32_id, w64_id]; omega) | (simp (disch := omega) only [w32_0, w64_0, wbi0, wbi1, yc_eq0, yc_lt0, yc_gt0, Classical.not_not, w32_id, w64_id]; done), ?_⟩
    refine ⟨fun c2 => ?_, fun c2 => ?_⟩
    · skip
      (try simp (disch := omega) only [w32_0, wbi0, Classical.not_not, w32_id] at c2)
      refine ⟨fun c3 => ?_, fun c3 => ?_⟩
      · skip
        (try simp (disch := omega) only [w32_0, wbi0, Classical.not_not, w32_id] at c3)
        exact K_eq h (whB_r hi c1 c3)
      · skip
        (try simp (disch := omega) only [w32_0, wbi0, Classical.not_not, w32_id] at c3)
        refine ⟨⟨rfl, rfl, rfl, ?_⟩, by omega⟩
        exact whB_C hi (Or.inl ⟨c1, c3⟩)
    · skip
      (try simp (disch := omega) only [w32_0, wbi0, Classical.not_not, w32_id] at c2)
      refine ⟨⟨rfl, rfl, rfl, ?_⟩, by omega⟩
      exact absurd c1 c2
  · skip
    (try simp (disch := omega) only [w32_0, wbi0, Classical.not_not, w32_id] at c1)
    refine ⟨fun c2 => ?_, fun c2 => ?_⟩
    · skip
      (try simp (disch := omega) only [w32_0, wbi0, Classical.not_not, w32_id] at c2)
      refine ⟨by first | omega | (simp (disch := omega) only [w32_0, w64_0, wbi0, wbi1, yc_eq0, yc_lt0, yc_gt0, Classical.not_not, w32_id, w64_id]; omega) | (simp (disch := omega) only [w32_0, w64_0, wbi0, wbi1, yc_eq0, yc_lt0, yc_gt0, Classical.not_not, w32_id, w64_id]; done), ?_⟩
      refine ⟨by first | omega | (simp (disch := omega) only [w32_0, w64_0, wbi0, wbi1, yc_eq0, yc_lt0, yc_gt0, Classical.not_not, w32_id, w64_id]; omega) | (simp (disch := omega) only [w32_0, w64_0, wbi0, wbi1, yc_eq0, yc_lt0, yc_gt0, Classical.not_not, w32_id, w64_id]; done), ?_⟩
      refine ⟨fun c3 => ?_, fun c3 => ?_⟩
      · skip
        (try simp (disch := omega) only [w32_0, wbi0, Classical.not_not, w32_id] at c3)
        refine ⟨⟨rfl, rfl, rfl, ?_⟩, by omega⟩
        exact whB_B hi c1 c2 c3
      · skip
        (try simp (disch := omega) only [w32_0, wbi0, Classical.not_not, w32_id] at c3)
        refine ⟨by first | omega | (simp (disch := omega) only [w32_0, w64_0, wbi0, wbi1, yc_eq0, yc_lt0, yc_gt0, Classical.not_not, w32_id, w64_id]; omega) | (simp (disch := omega) only [w32_0, w64_0, wbi0, wbi1, yc_eq0, yc_lt0, yc_gt0, Classical.not_not, w32_id, w64_id]; done), ?_⟩
        refine ⟨fun c4 => ?_, fun c4 => ?_⟩
        · skip
          (try simp (disch := omega) only [w32_0, wbi0, Classical.not_not, w32_id] at c4)
          refine ⟨fun c5 => ?_, fun c5 => ?_⟩
          · skip
            (try simp (disch := omega) only [w32_0, wbi0, Classical.not_not, w32_id] at c5)
            exact absurd c4 c1
          · skip
            (try simp (disch := omega) only [w32_0, wbi0, Classical.not_not, w32_id] at c5)
            refine ⟨⟨rfl, rfl, rfl, ?_⟩, by omega⟩
            exact absurd c4 c1
        · skip
          (try simp (disch := omega) only [w32_0, wbi0, Classical.not_not, w32_id] at c4)
          refine ⟨⟨rfl, rfl, rfl, ?_⟩, by omega⟩
          exact whB_C hi (Or.inr ⟨c1, Or.inr c3⟩)
    · skip
      (try simp (disch := omega) only [w32_0, wbi0, Classical.not_not, w32_id] at c2)
      refine ⟨by first | omega | (simp (disch := omega) only [w32_0, w64_0, wbi0, wbi1, yc_eq0, yc_lt0, yc_gt0, Classical.not_not, w32_id, w64_id]; omega) | (simp (disch := omega) only [w32_0, w64_0, wbi0, wbi1, yc_eq0, yc_lt0, yc_gt0, Classical.not_not, w32_id, w64_id]; done), ?_⟩
      refine ⟨fun c3 => ?_, fun c3 => ?_⟩
      · skip
        (try simp (disch := omega) only [w32_0, wbi0, Classical.not_not, w32_id] at c3)
        refine ⟨fun c4 => ?_, fun c4 => ?_⟩
        · skip
          (try simp (disch := omega) only [w32_0, wbi0, Classical.not_not, w32_id] at c4)
          exact absurd c3 c1
        · skip
          (try simp (disch := omega) only [w32_0, wbi0, Classical.not_not, w32_id] at c4)
          refine ⟨⟨rfl, rfl, rfl, ?_⟩, by omega⟩
          exact absurd c3 c1
      · skip
        (try simp (disch := omega) only [w32_0, wbi0, Classical.not_not, w32_id] at c3)
        refine ⟨⟨rfl, rfl, rfl, ?_⟩, by omega⟩
        exact whB_C hi (Or.inr ⟨c1, Or.inl (by omega)⟩)
set_option maxRecDepth 20000 in
theorem qvX9_wordHere_25_97  (F0 : FF) (A0 : AA) (K : KK) (h : (byO (A0 26) ∧ (0 ≤ (F0 25 22) ∧ (F0 25 22) ≤ (F0 25 21) ∧ (F0 25 21) ≤ 800)) ∧ (K (some (some (vI (wdX (A0 26) ((F0 25 22)) ((F0 25 21)))))) F0 A0)) (wk : Int) (wi : Int) (hi : whC (A0 26) (F0 25 22) (F0 25 21) wk wi) : am_stp qxX9_wordHere (am_run qxX9_wordHere qnX9_wordHere_25 (fun pc ls st F9 A9 u => qiX9_wordHere_25  F0 A0 pc ls st F9 A9 u ∧ quX9_wordHere_25 pc ls st F9 A9 < quX9_wordHere_25 97 [some (vR 25), some (vI wk), some (vI wi), none] [] F0 A0) K 33) K 97 [some (vR 25), some (vI wk), some (vI wi), none] [] F0 A0 0 := by
  obtain ⟨hp, h⟩ := h
  obtain ⟨pt, p0, p1, p2⟩ := hp
  have ib := whC_b hi
  have wb := cW_r (x := wi) (by omega) (by omega)
  show (0 ≤ w32 wi ∧ w32 wi < 27) ∧ ((w32 (cW (w32 wi)) = w32 32 → ((25 = 25 ∧ F0 = F0 ∧ A0 = A0 ∧ (whA (A0 26) (F0 25 22) (F0 25 21) (wk + 1) (wi + 1))) ∧ (Int.toNat (1000 - 100 * (wk + 1))) < (Int.toNat (960 - 100 * wk - wi)))) ∧ (¬ w32 (cW (w32 wi)) = w32 32 → ((25 = 25 ∧ F0 = F0 ∧ A0 = A0 ∧ (whC (A0 26) (F0 25 22) (F0 25 21) wk (wi + 1))) ∧ (Int.toNat (960 - 100 * wk - (wi + 1))) < (Int.toNat (960 - 100 * wk - wi)))))
  refine ⟨by first | omega | (simp (disch := omega) only [w32_0, w64_0, wbi0, wbi1, yc_eq0, yc_lt0, yc_gt0, Classical.not_not, w32_id, w64_id]; omega) | (simp (disch := omega) only [w32_0, w64_0, wbi0, wbi1, yc_eq0, yc_lt0, yc_gt0, Classical.not_not, w32_id, w64_id]; done), ?_⟩
  refine ⟨fun c1 => ?_, fun c1 => ?_⟩
  · skip
    (try simp (disch := omega) only [w32_0, wbi0, Classical.not_not, w32_id] at c1)
    refine ⟨⟨rfl, rfl, rfl, ?_⟩, by omega⟩
    exact whC_A hi (by omega)
  · skip
    (try simp (disch := omega) only [w32_0, wbi0, Classical.not_not, w32_id] at c1)
    refine ⟨⟨rfl, rfl, rfl, ?_⟩, by omega⟩
    exact whC_C hi (by omega)
set_option maxRecDepth 20000 in
theorem qvX9_wordHere_25  (F0 : FF) (A0 : AA) (K : KK) (h : (byO (A0 26) ∧ (0 ≤ (F0 25 22) ∧ (F0 25 22) ≤ (F0 25 21) ∧ (F0 25 21) ≤ 800)) ∧ (K (some (some (vI (wdX (A0 26) ((F0 25 22)) ((F0 25 21)))))) F0 A0)) : am_body qxX9_wordHere qnX9_wordHere_25 33 (qiX9_wordHere_25  F0 A0) quX9_wordHere_25 [vR 25] 4 F0 A0 K := by
  refine ⟨qvX9_wordHere_25_0  F0 A0 K h, fun pc ls st F A u hI => ?_⟩
  unfold qiX9_wordHere_25 at hI
  replace hI := am_cond2 hI
  rcases hI with ⟨hb, hI⟩ | hI
  · have hb := am_bq hb
    subst hb
    split at hI
    · rename_i s0 wk wi
      obtain ⟨e0, e1, e2, hI⟩ := hI
      subst e0
      subst e1
      subst e2
      exact qvX9_wordHere_25_4  _ _ K h _ _ hI
    · exact hI.elim
  replace hI := am_cond2 hI
  rcases hI with ⟨hb, hI⟩ | hI
  · have hb := am_bq hb
    subst hb
    split at hI
    · rename_i s0 wk wi wj
      obtain ⟨e0, e1, e2, hI⟩ := hI
      subst e0
      subst e1
      subst e2
      exact qvX9_wordHere_25_15  _ _ K h _ _ _ hI
    · exact hI.elim
  replace hI := am_cond2 hI
  rcases hI with ⟨hb, hI⟩ | hI
  · have hb := am_bq hb
    subst hb
    split at hI
    · rename_i s0 wk wi
      obtain ⟨e0, e1, e2, hI⟩ := hI
      subst e0
      subst e1
      subst e2
      exact qvX9_wordHere_25_97  _ _ K h _ _ hI
    · exact hI.elim
  exact hI.elim
theorem qtX9_wordHere (l : Launch) (hst : l.stackTraces = false) : am_CT l layM qeX9_wordHere := am_metS (x := qxX9_wordHere) rfl (by decide +kernel) rfl rfl rfl rfl rfl (qsX9_wordHere_spc l) rfl (qzX9_wordHere l hst) (fun as F A K h => by
  replace h : qsX9_wordHere as F A K := h
  unfold qsX9_wordHere at h
  split at h
  · rename_i o
    refine ⟨by first | exact Nat.le_of_ble_eq_true rfl | simp [am_fl, am_cat], ?_⟩
    replace h := am_cond2 h
    rcases h with ⟨hb, h⟩ | h
    · skip
      have hb0 := hb
      have hb0 := am_bq hb0
      subst hb0
      exact am_way_body (qvX9_wordHere_25  F A K h)
    exact h.elim
  · exact h.elim)
