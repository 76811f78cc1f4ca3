/-! from a verified body to a contract -/
def am_fl (as : List AV) : LVs := as.flatMap fun v => if am_cat v = 2 then [some v, none] else [some v]
def am_ent (as : List AV) (n : Nat) : LVs := am_fl as ++ List.replicate (n - (am_fl as).length) none
theorem am_fl_eq (al : Nat → Nat) (as : List AV) : lg_sl (as.map (am_cv al)) = (am_fl as).map (fun o => match o with
    | some v => Slot.val (am_cv al v)
    | none => Slot.second) := by
  induction as with
  | nil => rfl
  | cons a as ih =>
    have e1 : lg_sl ((a :: as).map (am_cv al)) = (if am_cat a = 2 then [Slot.val (am_cv al a), Slot.second] else [Slot.val (am_cv al a)]) ++ lg_sl (as.map (am_cv al)) := by
      simp only [lg_sl, List.map_cons, List.flatMap_cons, am_cv_cat]
    have e2 : am_fl (a :: as) = (if am_cat a = 2 then [some a, none] else [some a]) ++ am_fl as := rfl
    rw [e1, e2, ih, List.map_append]
    congr 1
    split <;> rfl
theorem am_LR_ent {al : Nat → Nat} {as : List AV} {n : Nat} (h : (am_fl as).length ≤ n) :
    am_LR al ((lg_sl (as.map (am_cv al)) ++ List.replicate (n - (lg_sl (as.map (am_cv al))).length) Slot.unset).toArray) n (am_ent as n) := by
  have hlen : (lg_sl (as.map (am_cv al))).length = (am_fl as).length := by rw [am_fl_eq, List.length_map]
  have hL := lv_entry (as.map (am_cv al)) (n := n) (by rw [hlen]; exact h)
  refine ⟨?_, hL.1, hL.2.1, fun i v hi => ?_⟩
  · unfold am_ent; rw [List.length_append, List.length_replicate]; omega
  · unfold am_ent at hi
    rw [List.getElem?_toArray, hlen, am_fl_eq]
    by_cases hlt : i < (am_fl as).length
    · rw [List.getElem?_append_left hlt] at hi
      rw [List.getElem?_append_left (by rw [List.length_map]; exact hlt), List.getElem?_map, hi]
      rfl
    · rw [List.getElem?_append_right (by omega), List.getElem?_replicate] at hi
      split at hi <;> cases hi
/-- the fixed tables of a frame are what the constant pool and the bytes have -/
def am_sta (l : Launch) (x : CX) (own : String) (lvO : Nat) (cc : ByteArray) : Prop :=
  (∀ pc i nx ts, cxCode x pc = some (i, nx, ts) → am_cok cc pc (i, nx, ts) = true) ∧ am_lok (cxLay x) = true ∧
  (∀ k ci j w, cxFld x k = some (ci, j, w) → am_fok own am_tb k ci j w) ∧
  (∀ k v, cxCst x k = some v → Cond.constant own k (Int32.ofInt v) ∈ am_tb) ∧
  (∀ k v, cxCsL x k = some v → Cond.constantLong own k (Int64.ofInt v) ∈ am_tb) ∧
  (∀ k, (cxMth x k = 1 → Cond.methodLink own k Lib.Math.min.name ∈ am_tb ∧ Cond.static Lib.Math.min.name ∈ am_tb ∧ Cond.initialized "java/lang/Math" ∈ am_tb ∧ Cond.code Lib.Math.min.name Lib.Math.min.code 2 (some .int) ∈ am_tb) ∧
      (cxMth x k = 2 → Cond.methodLink own k Lib.Math.max.name ∈ am_tb ∧ Cond.static Lib.Math.max.name ∈ am_tb ∧ Cond.initialized "java/lang/Math" ∈ am_tb ∧ Cond.code Lib.Math.max.name Lib.Math.max.code 2 (some .int) ∈ am_tb) ∧
      (cxMth x k = 3 → Cond.methodLink own k Lib.Math.abs.name ∈ am_tb ∧ Cond.static Lib.Math.abs.name ∈ am_tb ∧ Cond.initialized "java/lang/Math" ∈ am_tb ∧ Cond.code Lib.Math.abs.name Lib.Math.abs.code 1 (some .int) ∈ am_tb) ∧
      (cxMth x k = 4 → Cond.methodLink own k arraycopyName ∈ am_tb ∧ Cond.native arraycopyName ∈ am_tb ∧ Cond.static arraycopyName ∈ am_tb ∧ Cond.initialized "java/lang/System" ∈ am_tb) ∧
      (cxMth x k ≠ 0 → 3 ≤ lvO)) ∧
  (∀ k e1, cxCal x k = some e1 → am_cal l (cxLay x) own lvO k e1 (cxScr x))
section AMM
variable {p : Program} {l : Launch} {e : Env} {R : Room} {s : State} {m : MethodId} {args : Array Value} {below : List Frame} {meth : Method} {c : Code} {Q : State → Prop}
theorem am_run_ok {cc : ByteArray} {own : String} {nL : Nat} {D : va_G} {al : Nat → Nat} {kC : Nat → ClassId} {layW : List LC} {As : Nat → Prop} {cb sb lvO : Nat} {x : CX} {K : KK}
    (hE : am_env p l e R s m args c cc own nL D al kC layW As cb sb (cxMc x) am_tb)
    (hR : lvO ≤ R.frames ∧ 48 * lvO ≤ R.locals) (hpre : cxLay x <+: layW) (hsta : am_sta l x own lvO cc)
    (hZ : (∃ k e1, cxCal x k = some e1 ∧ ceT e1 ≠ 0) → am_Z As s s.heap)
    (hscr : ∀ L xs, cxScr x = some (L, xs) → scrF L xs (al 999) As s s.heap)
    (hspc : ∀ rec : REC, (∀ pc ls st F A u, rec pc ls st F A u → am_W p l e R s m args below meth c Q nL D al kC layW As cb sb (cxMc x) pc ls st F A u) →
      ∀ pc b, cxSpc x pc = some b → ∀ ls st F A u, b rec K ls st F A u → am_W p l e R s m args below meth c Q nL D al kC layW As cb sb (cxMc x) pc ls st F A u)
    (hexc : ∀ rec : REC, (∀ pc ls st F A u, rec pc ls st F A u → am_W p l e R s m args below meth c Q nL D al kC layW As cb sb (cxMc x) pc ls st F A u) →
      ∀ pc k e1, decode cc pc = .ok (.invokevirtual k, 3) → cxCal x k = some e1 → ceT e1 ≠ 0 → ∀ ls F A u, (match cxHnd x with
      | some h => rec h (ls.map fun _ => none) [] F A u
      | none => cond (cxThr x) (K none F A) False) → u ≤ cxMc x → ∀ H locs lsC rest q9 ce, am_LR al lsC nL ls → va_P D vwCl (am_ws al kC layW F A) H → va_S As s.heap H locs → H[q9]? = some ce → ce.vm = .none → s.vm.findClass am_iob = some ce.cls → vx_W p l e R s m args below meth c H locs (cb + u) (sb + 16 * u) Q (F0 m pc lsC rest) q9)
    (hret : ∀ pc o F A ls u i, (match o with | some (.inl a) => i = Instr.ireturn ∧ (cxRet x = some .int ∨ cxRet x = some .boolean ∧ (a = 0 ∨ a = 1)) | some (.inr (.inl _)) => i = Instr.lreturn ∧ cxRet x = some .long | some (.inr (.inr _)) => False | none => i = Instr.return_ ∧ cxRet x = none) → decode cc pc = .ok (i, 1) → K (some o) F A → am_W p l e R s m args below meth c Q nL D al kC layW As cb sb (cxMc x) pc ls o.toList F A u)
    (rec : REC) (hrec : ∀ pc ls st F A u, rec pc ls st F A u → am_W p l e R s m args below meth c Q nL D al kC layW As cb sb (cxMc x) pc ls st F A u)
    {pc : Nat} {ls : LVs} {st : List AV} {F : FF} {A : AA} {u : Nat} (h : am_stp x rec K pc ls st F A u) : am_W p l e R s m args below meth c Q nL D al kC layW As cb sb (cxMc x) pc ls st F A u := by
  unfold am_stp at h
  split at h
  · rename_i b hb
    exact hspc rec hrec _ _ hb _ _ _ _ _ h
  split at h
  · rename_i i nx ts hc
    obtain ⟨h1, h2, h3, h4, h5, h6, h7⟩ := hsta
    refine am_ins_ok hE hrec hpre h2 h3 h4 h5 (fun k => ?_) hscr (hspc rec hrec) ?_ hret (h1 _ _ _ _ hc) h
    · obtain ⟨a1, a2, a3, a4, a5⟩ := h6 k
      exact ⟨a1, a2, a3, a4, fun q => by have := a5 q; omega⟩
    · intro k nx2 i2 pc2 e1 hk hd hi hi2 ls st F A u hcall
      refine am_call_ok hE hR hrec hpre (fun q => hZ ⟨k, e1, hk, q⟩) hscr (K := K) (fun hT ls F A u hx => ?_) (h7 k e1 hk) hd hi hi2 hcall
      refine hexc rec hrec pc2 k e1 ?_ hk (by rw [hT]; decide) ls F A u hx
      have h8 := (h7 k e1 hk).2.2.2.2.2.2.2
      rcases hi with hi | hi
      · rw [hd, hi]
      · rw [hi2.mp hi] at h8
        dsimp only at h8
        rcases h8.2 with ⟨-, q⟩ | ⟨q, -⟩ <;> omega
  · exact h.elim
/-- fewer locals known -/
def am_sub (l' l : LVs) : Prop := l'.length = l.length ∧ ∀ (i : Nat) (v : AV), l'[i]? = some (some v) → l[i]? = some (some v)
theorem am_mask_sub : ∀ (b : List Bool) (l : LVs), am_sub (am_mask b l) l
  | [], l => by
    refine ⟨by simp [am_mask], fun i v h => ?_⟩
    simp [am_mask] at h
  | c :: bs, [] => ⟨rfl, fun i v h => h⟩
  | c :: bs, a :: l => by
    obtain ⟨h1, h2⟩ := am_mask_sub bs l
    refine ⟨by simp [am_mask, h1], fun i v h => ?_⟩
    match i, h with
    | 0, h =>
      cases c
      · simp [am_mask] at h
      · simpa [am_mask] using h
    | i + 1, h => simpa using h2 i v (by simpa [am_mask] using h)
theorem am_W_sub {nL : Nat} {D : va_G} {al : Nat → Nat} {kC : Nat → ClassId} {layW : List LC} {As : Nat → Prop} {cb sb mcO : Nat} {pc : Nat} {ls ls' : LVs} {st : List AV} {F : FF} {A : AA} {u : Nat} (hs : am_sub ls' ls)
    (h : am_W p l e R s m args below meth c Q nL D al kC layW As cb sb mcO pc ls' st F A u) : am_W p l e R s m args below meth c Q nL D al kC layW As cb sb mcO pc ls st F A u :=
  fun hu H locs lsC hl hP hS => h hu H locs lsC ⟨hs.1.trans hl.1, hl.2.1, hl.2.2.1, fun i v hv => hl.2.2.2 i v (hs.2 i v hv)⟩ hP hS
/-- what the machine gives: a step, and fewer locals -/
def am_good (x : CX) (K : KK) (V : REC) : Prop := (∀ (rec : REC), (∀ pc ls st F A u, rec pc ls st F A u → V pc ls st F A u) → ∀ pc ls st F A u, am_stp x rec K pc ls st F A u → V pc ls st F A u) ∧ ∀ pc ls ls' st F A u, am_sub ls' ls → V pc ls' st F A u → V pc ls st F A u
/-- a whole run up to the cuts -/
theorem am_runs {x : CX} {K : KK} {cut : CUT} {Kc V : REC} (hK : ∀ pc ls st F A u, Kc pc ls st F A u → V pc ls st F A u) (hg : am_good x K V) :
    ∀ n pc ls st F A u, am_run x cut Kc K n pc ls st F A u → V pc ls st F A u := by
  intro n
  induction n with
  | zero => intro pc ls st F A u h; exact h.elim
  | succ n ih =>
    intro pc ls st F A u h
    unfold am_run at h
    split at h
    · rename_i b hb
      exact hg.2 _ _ _ _ _ _ _ (am_mask_sub b ls) (hK _ _ _ _ _ _ h)
    · exact hg.1 _ ih _ _ _ _ _ _ h
/-- what is to be verified of a body, without the machine: an invariant I at the cuts and a number that falls -/
def am_ver (x : CX) (cut : CUT) (n : Nat) (I : REC) (mu : Nat → LVs → List AV → FF → AA → Nat) (K : KK) : Prop := ∀ pc ls st F A u, I pc ls st F A u →
  am_stp x (am_run x cut (fun pc' ls' st' F' A' u' => I pc' ls' st' F' A' u' ∧ mu pc' ls' st' F' A' < mu pc ls st F A) K n) K pc ls st F A u
theorem am_vers {x : CX} {K : KK} {cut : CUT} {n : Nat} {I V : REC} {mu : Nat → LVs → List AV → FF → AA → Nat} (hv : am_ver x cut n I mu K) (hg : am_good x K V) :
    ∀ k pc ls st F A u, I pc ls st F A u → mu pc ls st F A < k → V pc ls st F A u := by
  intro k
  induction k with
  | zero => intro pc ls st F A u _ h; omega
  | succ k ih =>
    intro pc ls st F A u hI hk
    exact hg.1 _ (am_runs (fun pc' ls' st' F' A' u' h => ih _ _ _ _ _ _ h.1 (by have := h.2; omega)) hg n) _ _ _ _ _ _ (hv _ _ _ _ _ _ hI)
end AMM
/-- a body that needs no cut -/
def am_line (x : CX) (n : Nat) (as : List AV) (nL : Nat) (F : FF) (A : AA) (K : KK) : Prop := am_stp x (am_run x (fun _ => none) (fun _ _ _ _ _ _ => False) K n) K 0 (am_ent as nL) [] F A 0
/-- a body with cuts, from its entry -/
def am_body (x : CX) (cut : CUT) (n : Nat) (I : REC) (mu : Nat → LVs → List AV → FF → AA → Nat) (as : List AV) (nL : Nat) (F : FF) (A : AA) (K : KK) : Prop :=
  am_stp x (am_run x cut I K n) K 0 (am_ent as nL) [] F A 0 ∧ am_ver x cut n I mu K
/-- the body of a method, verified or run: any way that gives the machine's own step its place -/
def am_way (x : CX) (as : List AV) (nL : Nat) (F : FF) (A : AA) (K : KK) : Prop := ∀ V : REC, am_good x K V → V 0 (am_ent as nL) [] F A 0
theorem am_way_line {x : CX} {n : Nat} {as : List AV} {nL : Nat} {F : FF} {A : AA} {K : KK} (h : am_line x n as nL F A K) : am_way x as nL F A K := fun _ hg =>
  hg.1 _ (am_runs (fun _ _ _ _ _ _ hI => hI.elim) hg n) _ _ _ _ _ _ h
theorem am_way_body {x : CX} {cut : CUT} {n : Nat} {I : REC} {mu : Nat → LVs → List AV → FF → AA → Nat} {as : List AV} {nL : Nat} {F : FF} {A : AA} {K : KK} (h : am_body x cut n I mu as nL F A K) : am_way x as nL F A K := fun _ hg =>
  hg.1 _ (am_runs (fun _ _ _ _ _ _ hI => am_vers h.2 hg _ _ _ _ _ _ _ hI (Nat.lt_succ_self _)) hg n) _ _ _ _ _ _ h.1
set_option maxHeartbeats 4000000 in
/-- a method that returns (kind 0) -/
theorem am_met0 {l : Launch} {lay : List LC} {x : CX} {e1 : CE} (hT : ceT e1 = 0) (hy : plainName (ceY e1).cls = true) (hlay : cxLay x = lay) (hret : cxRet x = ceR e1) (hmc : cxMc x = ceK e1) (hthr : cxThr x = false) (hhnd : cxHnd x = none) (hspc : ∀ pc, cxSpc x pc = none) (hscr : cxScr x = none)
    (hsta : am_sta l x (ceY e1).cls (ceL e1) (ceB e1)) (hcal : ∀ k e2, cxCal x k = some e2 → ceT e2 = 0)
    (hgo : ∀ as F A K, ceS e1 as F A K → (am_fl as).length ≤ ceM e1 ∧ am_way x as (ceM e1) F A K) : am_CT l lay e1 := by
  intro layW hpre D al kC as F A K sz hS
  obtain ⟨hlen, hway⟩ := hgo as F A K hS
  unfold am_Met
  rw [hT]
  refine Met.ofW (cc := ceB e1) (maxL := ceM e1) (ret := ceR e1) hy rfl ?_
  intro p e s m args below meth c s₁ B hml hv
  obtain ⟨rfl, rfl, hP, hK, hdis0, -⟩ := hv
  have hts := atoms_spec (ws := .code (ceY e1) (ceB e1) (ceM e1) (ceR e1) :: am_tb) B.pre
  have hown : s.vm.findClass (ceY e1).cls = some m.cls := findClass_of_methodNamed B.named
  have hlocks := B.notSynchronized
  rw [lg_entry_eq]
  have hLR := am_LR_ent (al := al) hlen
  generalize hAe : va_A (am_ws al kC layW F A) s.heap.size = As
  have hdis : am_dis al layW As := by
    refine ⟨hdis0.1, fun i hi => ?_⟩
    rw [← hAe]
    exact Or.inl ⟨i, _, am_ws_get (F := F) (A := A) (kC := kC) (al := al) (List.getElem?_eq_getElem hi)⟩
  have hA : ∀ q, s.heap.size ≤ q → As q := fun q h => by rw [← hAe]; exact Or.inr h
  have hE : am_env p l e (am_rm (ceL e1) (ceK e1)) s m (as.map (am_cv al)).toArray c (ceB e1) (ceY e1).cls (ceM e1) D al kC layW As 0 0 (cxMc x) am_tb :=
    ⟨B.exec, B.bytes, hml, hown, fun w hw => hts w (List.mem_cons_of_mem _ hw), hK, hdis, hA, by rw [hmc]; exact Nat.le_of_eq (Nat.zero_add _), by rw [hmc]; exact Nat.le_of_eq (Nat.zero_add _)⟩
  have hret1 : ∀ pc o F A ls u i, (match o with | some (.inl a) => i = Instr.ireturn ∧ (cxRet x = some .int ∨ cxRet x = some .boolean ∧ (a = 0 ∨ a = 1)) | some (.inr (.inl _)) => i = Instr.lreturn ∧ cxRet x = some .long | some (.inr (.inr _)) => False | none => i = Instr.return_ ∧ cxRet x = none) → decode (ceB e1) pc = .ok (i, 1) → K (some o) F A → am_W p l e (am_rm (ceL e1) (ceK e1)) s m (as.map (am_cv al)).toArray below meth c (MQ below (am_Q (ceR e1) K D al kC layW As) (as.map (am_cv al)).toArray s (ceK e1) (16 * ceK e1) As) (ceM e1) D al kC layW As 0 0 (cxMc x) pc ls o.toList F A u := by
    intro pc o F A ls u i ho hd hk hu H locs lsC hl hP1 hS1
    refine W.widen (k := ceK e1) (n := 16 * ceK e1) (by omega) (by omega) ?_
    rw [hret] at ho
    match o, ho with
    | none, ho =>
      obtain ⟨rfl, hr⟩ := ho
      exact W.vret B.exec B.bytes (by rw [B.returns]; exact hr) (fun t ht hW => by rw [hr]; exact ⟨⟨(F, A), rfl, hk, by dsimp only; rw [ht]; exact hP1⟩, hS1.F ht⟩) hS1.2.2 hd
    | some (.inl a), ho =>
      obtain ⟨rfl, hr | ⟨hr, h01⟩⟩ := ho
      · exact W.iret (v := Int32.ofInt a) B.exec B.bytes (by rw [B.returns]; exact hr) (fun t ht hW => by rw [hr]; exact ⟨⟨_, (a, F, A), rfl, ⟨rfl, hk⟩, by dsimp only; rw [ht]; exact hP1⟩, hS1.F ht⟩) hS1.2.2 hd
      · exact W.zret (v := Int32.ofInt a) (ty := .boolean) B.exec B.bytes (by rw [B.returns]; exact hr) (by rcases h01 with rfl | rfl <;> rfl) (fun t ht hW => by rw [hr]; exact ⟨⟨_, (a, F, A), rfl, ⟨rfl, hk⟩, by dsimp only; rw [ht]; exact hP1⟩, hS1.F ht⟩) hS1.2.2 hd
    | some (.inr (.inl a)), ho =>
      obtain ⟨rfl, hr⟩ := ho
      exact W.lret (v := Int64.ofInt a) B.exec B.bytes (by rw [B.returns]; exact hr) (fun t ht hW => by rw [hr]; exact ⟨⟨_, (a, F, A), rfl, ⟨rfl, hk⟩, by dsimp only; rw [ht]; exact hP1⟩, hS1.F ht⟩) hS1.2.2 hd
    | some (.inr (.inr _)), ho => exact ho.elim
  have key := hway (am_W p l e (am_rm (ceL e1) (ceK e1)) s m (as.map (am_cv al)).toArray below meth c (MQ below (am_Q (ceR e1) K D al kC layW As) (as.map (am_cv al)).toArray s (ceK e1) (16 * ceK e1) As) (ceM e1) D al kC layW As 0 0 (cxMc x)) ⟨fun rec hrec pc ls st F A u h =>
    am_run_ok hE ⟨Nat.le_refl _, Nat.le_refl _⟩ (by rw [hlay]; exact hpre) hsta (fun ⟨k, e2, h1, h2⟩ => absurd (hcal k e2 h1) h2) (fun L xs h => by rw [hscr] at h; cases h) (fun _ _ pc b h => by rw [hspc] at h; cases h)
      (fun _ _ pc k e2 _ h1 h2 => absurd (hcal k e2 h1) h2) hret1 rec hrec h, fun _ _ _ _ _ _ _ hs h => am_W_sub hs h⟩
  exact key (Nat.zero_le _) s.heap [] _ hLR hP va_S.rf
