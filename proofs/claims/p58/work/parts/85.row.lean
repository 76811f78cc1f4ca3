/-! rows that a method makes: a world with a row more; methods whose bodies have special blocks -/
def am_rok (n : Nat) (c : LC) : Bool := match c with
  | .inl (_, fs) => fs.all (fun t => match t with
    | some r => Nat.blt r n
    | none => true)
  | .inr _ => true
def zrA (A : AA) (k : Nat) : AA := fun b i => if b = k then 0 else A b i
theorem zrA_s {A : AA} {k : Nat} {i : Int} : zrA A k k i = 0 := if_pos rfl
theorem zrA_o {A : AA} {k b : Nat} {i : Int} (h : b ≠ k) : zrA A k b i = A b i := if_neg h
theorem am_wc_ext {al al' : Nat → Nat} {kC : Nat → ClassId} {F : FF} {A A' : AA} {n k : Nat} {c : LC} (hc : am_rok n c = true) (hal : ∀ j, j < n → al' j = al j) (hk : k < n) (hA : ∀ j, A' k j = A k j) : am_wc al' kC F A' k c = am_wc al kC F A k c := by
  unfold am_wc
  rw [hal k hk]
  congr 1
  split
  · rename_i ci fs
    congr 1
    congr 1
    apply List.ext_getElem?
    intro j
    rw [List.getElem?_mapIdx, List.getElem?_mapIdx]
    cases hj : fs[j]? with
    | none => rfl
    | some t =>
      cases t with
      | none => rfl
      | some r =>
        have h1 : fs.all (fun t => match t with | some r => Nat.blt r n | none => true) = true := hc
        have h2 := List.all_eq_true.mp h1 (some r) (List.mem_of_getElem? hj)
        have h3 : r < n := by simpa using h2
        simp only [Option.map_some]
        rw [hal r h3]
  · rw [show A' k = A k from funext hA]
  · rw [show A' k = A k from funext hA]
theorem am_ws_ext {al al' : Nat → Nat} {kC : Nat → ClassId} {F : FF} {A A' : AA} {lay : List LC} {c : LC} (hr : lay.all (am_rok lay.length) = true) (hal : ∀ j, j < lay.length → al' j = al j) (hA : ∀ k, k < lay.length → ∀ j, A' k j = A k j) : am_ws al' kC (lay ++ [c]) F A' = am_ws al kC lay F A ++ [am_wc al' kC F A' lay.length c] := by
  apply List.ext_getElem?
  intro k
  unfold am_ws
  rw [List.getElem?_mapIdx]
  by_cases h : k < lay.length
  · rw [List.getElem?_append_left h, List.getElem?_append_left (by rw [List.length_mapIdx]; exact h), List.getElem?_mapIdx]
    rw [List.getElem?_eq_getElem h]
    simp only [Option.map_some]
    rw [am_wc_ext (List.all_eq_true.mp hr _ (List.getElem_mem h)) hal h (hA k h)]
  · by_cases e : k = lay.length
    · subst e
      rw [List.getElem?_append_right (Nat.le_refl _), List.getElem?_append_right (by rw [List.length_mapIdx]; exact Nat.le_refl _), List.length_mapIdx, Nat.sub_self]
      rfl
    · rw [List.getElem?_eq_none (by rw [List.length_append]; show lay.length + 1 ≤ k; omega), List.getElem?_eq_none (by rw [List.length_append, List.length_mapIdx]; show lay.length + 1 ≤ k; omega)]
      rfl
theorem am_P_base {D : va_G} {al al' : Nat → Nat} {kC : Nat → ClassId} {F : FF} {A : AA} {lay : List LC} {c : LC} {H : Heap} (hr : lay.all (am_rok lay.length) = true) (hal : ∀ j, j < lay.length → al' j = al j) (h : va_P D vwCl (am_ws al' kC (lay ++ [c]) F A) H) : va_P D vwCl (am_ws al kC lay F A) H := by
  rw [am_ws_ext hr hal (fun _ _ _ => rfl)] at h
  intro k q hk
  exact h k q (by rw [List.getElem?_append_left (List.getElem?_eq_some_iff.mp hk).1]; exact hk)
/-- no row from k0 on is known -/
def am_nr (k0 : Nat) : LVs → Bool
  | [] => true
  | some (.inr (.inr k)) :: l => Nat.blt k k0 && am_nr k0 l
  | _ :: l => am_nr k0 l
theorem am_nr_ok {k0 : Nat} : ∀ {l : LVs}, am_nr k0 l = true → ∀ (i k : Nat), l[i]? = some (some (vR k)) → k < k0
  | [], _, i, k, h => by simp at h
  | a :: l, hn, i, k, h => by
    match a, i with
    | some (.inr (.inr j)), 0 =>
      have h1 : (Nat.blt j k0 && am_nr k0 l) = true := hn
      simp only [Bool.and_eq_true] at h1
      simp only [List.getElem?_cons_zero, Option.some.injEq, Sum.inr.injEq] at h
      rw [← h]
      simpa using h1.1
    | some (.inr (.inr j)), i + 1 =>
      have h1 : (Nat.blt j k0 && am_nr k0 l) = true := hn
      simp only [Bool.and_eq_true] at h1
      exact am_nr_ok h1.2 i k (by simpa using h)
    | some (.inl x), 0 => simp at h
    | some (.inl x), i + 1 => exact am_nr_ok (l := l) hn i k (by simpa using h)
    | some (.inr (.inl x)), 0 => simp at h
    | some (.inr (.inl x)), i + 1 => exact am_nr_ok (l := l) hn i k (by simpa using h)
    | none, 0 => simp at h
    | none, i + 1 => exact am_nr_ok (l := l) hn i k (by simpa using h)
theorem am_cv_ext {al al' : Nat → Nat} {k0 : Nat} (hal : ∀ j, j < k0 → al' j = al j) {v : AV} (h : ∀ k, v = vR k → k < k0) : am_cv al' v = am_cv al v := by
  match v with
  | .inl x => rfl
  | .inr (.inl x) => rfl
  | .inr (.inr k) => show Value.ref (al' k) = Value.ref (al k); rw [hal k (h k rfl)]
theorem am_LR_ext {al al' : Nat → Nat} {k0 : Nat} (hal : ∀ j, j < k0 → al' j = al j) {lsC : Array Slot} {nL : Nat} {ls : LVs} (hn : am_nr k0 ls = true) (h : am_LR al lsC nL ls) : am_LR al' lsC nL ls :=
  ⟨h.1, h.2.1, h.2.2.1, fun i v hv => by rw [am_cv_ext hal (fun k e => am_nr_ok hn i k (by rw [← e]; exact hv))]; exact h.2.2.2 i v hv⟩
theorem am_map_ext {al al' : Nat → Nat} {k0 : Nat} (hal : ∀ j, j < k0 → al' j = al j) : ∀ {r : List AV}, am_nr k0 (r.map some) = true → r.map (am_cv al') = r.map (am_cv al)
  | [], _ => rfl
  | a :: r, hn => by
    have h1 : am_cv al' a = am_cv al a := am_cv_ext hal (fun k e => am_nr_ok hn 0 k (by simp [e]))
    have h2 : am_nr k0 (r.map some) = true := by
      match a, hn with
      | .inl _, hn => exact hn
      | .inr (.inl _), hn => exact hn
      | .inr (.inr j), hn =>
        have h3 : (Nat.blt j k0 && am_nr k0 (r.map some)) = true := hn
        simp only [Bool.and_eq_true] at h3
        exact h3.2
    rw [List.map_cons, List.map_cons, h1, am_map_ext hal h2]
/-- newarray, the world with its row behind it -/
def am_nwB (x' : CX) (k0 : Nat) (len : Int) (nx : Nat) : BLK := fun _ K ls st F A u => match st with
  | .inl v :: r => (w32 v = len ∧ am_nr k0 ls = true ∧ am_nr k0 (r.map some) = true ∧ u + 1 ≤ cxMc x') ∧ ∀ V : REC, am_good x' K V → V nx ls (vR k0 :: r) F (zrA A k0) (u + 1)
  | _ => False
section CHN
variable {p : Program} {l : Launch} {e : Env} {R : Room} {s : State} {m : MethodId} {args : Array Value} {below : List Frame} {meth : Method} {c : Code} {Q : State → Prop}
/-- what a return does, in a world -/
def am_rt (p : Program) (l : Launch) (e : Env) (R : Room) (s : State) (m : MethodId) (args : Array Value) (below : List Frame) (meth : Method) (c : Code) (Q : State → Prop) (cc : ByteArray) (nL : Nat) (D : va_G) (al : Nat → Nat) (kC : Nat → ClassId) (lay : List LC) (As : Nat → Prop) (cb sb mcO : Nat) (ret : Option FieldType) (K : KK) : Prop :=
  ∀ pc o F A ls u i, (match o with | some (.inl a) => i = Instr.ireturn ∧ (ret = some .int ∨ ret = some .boolean ∧ (a = 0 ∨ a = 1)) | some (.inr (.inl _)) => i = Instr.lreturn ∧ ret = some .long | some (.inr (.inr _)) => False | none => i = Instr.return_ ∧ ret = none) → decode cc pc = .ok (i, 1) → K (some o) F A → am_W p l e R s m args below meth c Q nL D al kC lay As cb sb mcO pc ls o.toList F A u
theorem am_rt_ext {cc : ByteArray} {nL : Nat} {D : va_G} {al al' : Nat → Nat} {kC : Nat → ClassId} {lay : List LC} {q : LC} {As : Nat → Prop} {cb sb mcO : Nat} {ret : Option FieldType} {K : KK} (hr : lay.all (am_rok lay.length) = true) (hal : ∀ j, j < lay.length → al' j = al j)
    (h : am_rt p l e R s m args below meth c Q cc nL D al kC lay As cb sb mcO ret K) : am_rt p l e R s m args below meth c Q cc nL D al' kC (lay ++ [q]) As cb sb mcO ret K := by
  intro pc o F A ls u i ho hd hk hu H locs lsC hl hP hS
  have b := h pc o F A (ls.map fun _ => none) u i ho hd hk hu H locs lsC ⟨by rw [List.length_map]; exact hl.1, hl.2.1, hl.2.2.1, fun i v hv => by
    rw [List.getElem?_map] at hv
    cases hq : ls[i]? with
    | none => rw [hq] at hv; cases hv
    | some w => rw [hq] at hv; cases hv⟩ (am_P_base hr hal hP) hS
  have es : o.toList.map (am_cv al') = o.toList.map (am_cv al) := by
    match o, ho with
    | none, _ => rfl
    | some (.inl a), _ => rfl
    | some (.inr (.inl a)), _ => rfl
    | some (.inr (.inr a)), ho => exact ho.elim
  rw [es]
  exact b
/-- a context of a method's body: from what a frame has, its steps are sound -/
def am_ctx (l : Launch) (cc : ByteArray) (own : String) (nL lvO : Nat) (x : CX) : Prop := ∀ {p : Program} {e : Env} {R : Room} {s : State} {m : MethodId} {args : Array Value} {below : List Frame} {meth : Method} {c : Code} {Q : State → Prop} {D : va_G} {al : Nat → Nat} {kC : Nat → ClassId} {As : Nat → Prop} {cb sb : Nat} {K : KK},
  am_env p l e R s m args c cc own nL D al kC (cxLay x) As cb sb (cxMc x) am_tb → lvO ≤ R.frames ∧ 48 * lvO ≤ R.locals → am_rt p l e R s m args below meth c Q cc nL D al kC (cxLay x) As cb sb (cxMc x) (cxRet x) K → am_good x K (am_W p l e R s m args below meth c Q nL D al kC (cxLay x) As cb sb (cxMc x))
/-- a special block's soundness -/
def am_bs (l : Launch) (cc : ByteArray) (own : String) (nL lvO : Nat) (x : CX) (pc : Nat) (b : BLK) : Prop := ∀ {p : Program} {e : Env} {R : Room} {s : State} {m : MethodId} {args : Array Value} {below : List Frame} {meth : Method} {c : Code} {Q : State → Prop} {D : va_G} {al : Nat → Nat} {kC : Nat → ClassId} {As : Nat → Prop} {cb sb : Nat} {K : KK},
  am_env p l e R s m args c cc own nL D al kC (cxLay x) As cb sb (cxMc x) am_tb → lvO ≤ R.frames ∧ 48 * lvO ≤ R.locals → am_rt p l e R s m args below meth c Q cc nL D al kC (cxLay x) As cb sb (cxMc x) (cxRet x) K →
  ∀ rec : REC, (∀ pc ls st F A u, rec pc ls st F A u → am_W p l e R s m args below meth c Q nL D al kC (cxLay x) As cb sb (cxMc x) pc ls st F A u) → ∀ ls st F A u, b rec K ls st F A u → am_W p l e R s m args below meth c Q nL D al kC (cxLay x) As cb sb (cxMc x) pc ls st F A u
theorem am_gdW {cc : ByteArray} {own : String} {nL lvO : Nat} {x : CX} {D : va_G} {al : Nat → Nat} {kC : Nat → ClassId} {As : Nat → Prop} {cb sb : Nat} {K : KK} (hsta : am_sta l x own lvO cc) (hcal : ∀ k e2, cxCal x k = some e2 → ceT e2 = 0) (hscr : cxScr x = none)
    (hE : am_env p l e R s m args c cc own nL D al kC (cxLay x) As cb sb (cxMc x) am_tb) (hR : lvO ≤ R.frames ∧ 48 * lvO ≤ R.locals) (hret : am_rt p l e R s m args below meth c Q cc nL D al kC (cxLay x) As cb sb (cxMc x) (cxRet x) K)
    (hspc : ∀ rec : REC, (∀ pc ls st F A u, rec pc ls st F A u → am_W p l e R s m args below meth c Q nL D al kC (cxLay x) As cb sb (cxMc x) pc ls st F A u) → ∀ pc b, cxSpc x pc = some b → ∀ ls st F A u, b rec K ls st F A u → am_W p l e R s m args below meth c Q nL D al kC (cxLay x) As cb sb (cxMc x) pc ls st F A u) :
    am_good x K (am_W p l e R s m args below meth c Q nL D al kC (cxLay x) As cb sb (cxMc x)) :=
  ⟨fun rec hrec pc ls st F A u h => am_run_ok hE hR (List.prefix_refl _) hsta (fun ⟨k, e2, h1, h2⟩ => absurd (hcal k e2 h1) h2) (fun L xs h => by rw [hscr] at h; cases h) hspc
      (fun rec hrec pc k e2 hd hk hT2 => absurd (hcal k e2 hk) hT2) hret rec hrec h, fun _ _ _ _ _ _ _ hs h => am_W_sub hs h⟩
end CHN
theorem am_ctx_of {l : Launch} {cc : ByteArray} {own : String} {nL lvO : Nat} {x : CX} (hsta : am_sta l x own lvO cc) (hcal : ∀ k e2, cxCal x k = some e2 → ceT e2 = 0) (hscr : cxScr x = none) (hb : ∀ pc b, cxSpc x pc = some b → am_bs l cc own nL lvO x pc b) : am_ctx l cc own nL lvO x := by
  intro p e R s m args below meth c Q D al kC As cb sb K hE hR hret
  exact am_gdW hsta hcal hscr hE hR hret (fun rec hrec pc b h ls st F A u hx => hb pc b h hE hR hret rec hrec ls st F A u hx)
theorem am_one_row {D : va_G} {al : Nat → Nat} {kC : Nat → ClassId} {lay : List LC} {F : FF} {A : AA} {As : Nat → Prop} {kd : Nat} {len : Int} {q : Nat} {H : Heap} (hr : lay.all (am_rok lay.length) = true) (hkd : kd = 0 ∨ kd = 1)
    (hP : va_P D vwCl (am_ws al kC lay F A ++ [(q, .inl (kC kd, (len.toNat, if kd = 1 then .inr (.inl fun _ => 0) else .inl fun _ => 0)))]) H) (hD : va_D As (am_ws al kC lay F A ++ [(q, .inl (kC kd, (len.toNat, if kd = 1 then .inr (.inl fun _ => 0) else .inl fun _ => 0)))])) :
    va_P D vwCl (am_ws (fun k => if k = lay.length then q else al k) kC (lay ++ [.inr (kd, len)]) F (zrA A lay.length)) H ∧ am_dis (fun k => if k = lay.length then q else al k) (lay ++ [.inr (kd, len)]) As := by
  have e : am_ws (fun k => if k = lay.length then q else al k) kC (lay ++ [.inr (kd, len)]) F (zrA A lay.length) = am_ws al kC lay F A ++ [(q, .inl (kC kd, (len.toNat, if kd = 1 then .inr (.inl fun _ => 0) else .inl fun _ => 0)))] := by
    rw [am_ws_ext (al := al) (A := A) hr (fun j hj => if_neg (by omega)) (fun k hk j => zrA_o (by omega))]
    have e0 : (fun j : Nat => Int32.ofInt (zrA A lay.length lay.length j)) = fun _ => 0 := by funext j; rw [zrA_s]; rfl
    have e1 : (fun j : Nat => Int64.ofInt (zrA A lay.length lay.length j)) = fun _ => 0 := by funext j; rw [zrA_s]; rfl
    rcases hkd with rfl | rfl
    · show _ ++ [((if lay.length = lay.length then q else al lay.length), (Sum.inl (kC 0, len.toNat, Sum.inl (fun j : Nat => Int32.ofInt (zrA A lay.length lay.length j))) : va_E))] = _
      rw [if_pos rfl, if_neg (by decide), e0]
    · show _ ++ [((if lay.length = lay.length then q else al lay.length), (Sum.inl (kC 1, len.toNat, Sum.inr (Sum.inl (fun j : Nat => Int64.ofInt (zrA A lay.length lay.length j)))) : va_E))] = _
      rw [if_pos rfl, if_pos rfl, e1]
  rw [← e] at hP hD
  exact ⟨hP, am_D_dis hD⟩
set_option maxHeartbeats 1000000 in
theorem am_bs_nw {l : Launch} {cc : ByteArray} {own : String} {nL lvO : Nat} {x x' : CX} {kd pc : Nat} {len : Int} {atype : Jvm.ClassFile.ArrayType} (hat : (kd = 0 ∧ atype = .int) ∨ (kd = 1 ∧ atype = .long)) (hlen : 0 ≤ len ∧ len ≤ 16) (hlay : cxLay x' = cxLay x ++ [.inr (kd, len)]) (hmc : cxMc x' = cxMc x) (hret' : cxRet x' = cxRet x) (hrok : (cxLay x).all (am_rok (cxLay x).length) = true) (hdec : decode cc pc = .ok (.newarray atype, 2)) (harr : Cond.arrayClass (newarray.typeOf atype) ∈ am_tb)
    (hx : am_ctx l cc own nL lvO x') : am_bs l cc own nL lvO x pc (am_nwB x' (cxLay x).length len (pc + 2)) := by
  intro p e R s m args below meth c Q D al kC As cb sb K hE hR hret rec hrec ls st F A u h hu H locs lsC hl hP hS
  unfold am_nwB at h
  split at h
  · rename_i v r
    obtain ⟨⟨hv, hn1, hn2, hu1⟩, h⟩ := h
    obtain ⟨hexec, hb, hml, hown, hts, hK, hdis, hA, hc1, hc2⟩ := id hE
    have hD := am_dis_D (kC := kC) hdis F A
    rw [hmc] at hu1
    have hv0 : ¬ Int32.ofInt v < 0 := fun q => by
      have := (w32_lt v 0).mp q
      rw [w32_0] at this
      omega
    have hvN : (Int32.ofInt v).toNatClampNeg = len.toNat := by
      show (Int32.ofInt v).toInt.toNat = _
      rw [show (Int32.ofInt v).toInt = len from hv]
    have key : ∀ (q : Nat) (H1 : Heap), va_P D vwCl (am_ws al kC (cxLay x) F A ++ [(q, .inl (kC kd, (len.toNat, if kd = 1 then .inr (.inl fun _ => 0) else .inl fun _ => 0)))]) H1 → va_D As (am_ws al kC (cxLay x) F A ++ [(q, .inl (kC kd, (len.toNat, if kd = 1 then .inr (.inl fun _ => 0) else .inl fun _ => 0)))]) → va_S As s.heap H1 locs →
        W p l e R s m args below meth c H1 locs (cb + u + 1) (sb + 16 * u + len.toNat) Q (F0 m (pc + 2) lsC (.ref q :: r.map (am_cv al))) := by
      intro q H1 hP1 hD1 hS1
      obtain ⟨hP2, hdis2⟩ := am_one_row hrok (by rcases hat with h | h <;> simp [h.1]) hP1 hD1
      have hal : ∀ j, j < (cxLay x).length → (fun k => if k = (cxLay x).length then q else al k) j = al j := fun j hj => if_neg (by omega)
      rw [← hlay] at hP2 hdis2
      have hE' : am_env p l e R s m args c cc own nL D (fun k => if k = (cxLay x).length then q else al k) kC (cxLay x') As cb sb (cxMc x') am_tb := ⟨hexec, hb, hml, hown, hts, hK, hdis2, hA, by rw [hmc]; exact hc1, by rw [hmc]; exact hc2⟩
      have hret2 : am_rt p l e R s m args below meth c Q cc nL D (fun k => if k = (cxLay x).length then q else al k) kC (cxLay x') As cb sb (cxMc x') (cxRet x') K := by
        rw [hlay, hmc, hret']
        exact am_rt_ext hrok hal hret
      have g := h _ (hx hE' hR hret2) (by rw [hmc]; exact hu1) H1 locs lsC (am_LR_ext hal hn1 hl) hP2 hS1
      have es : (vR (cxLay x).length :: r).map (am_cv fun k => if k = (cxLay x).length then q else al k) = .ref q :: r.map (am_cv al) := by
        rw [List.map_cons, am_map_ext hal hn2]
        show Value.ref (if (cxLay x).length = (cxLay x).length then q else al (cxLay x).length) :: _ = _
        rw [if_pos rfl]
      rw [es] at g
      refine W.widen (k := cb + (u + 1)) (n := sb + 16 * (u + 1)) (by omega) (by omega) g
    rcases hat with ⟨rfl, rfl⟩ | ⟨rfl, rfl⟩
    · exact cn_newa (atype := .int) (a0 := (len.toNat, .inl fun _ => 0)) hexec hb (hts _ harr) rfl hK 0 rfl hP hD hS hA (fun _ => rfl) hv0 hvN (by show len.toNat * 4 ≤ _; omega) (by omega) (by omega) hdec key
    · exact cn_newa (atype := .long) (a0 := (len.toNat, .inr (.inl fun _ => 0))) hexec hb (hts _ harr) rfl hK 1 rfl hP hD hS hA (fun _ => rfl) hv0 hvN (by show len.toNat * 8 ≤ _; omega) (by omega) (by omega) hdec key
  · exact h.elim
/-- a contract over one world alone -/
def am_CX (l : Launch) (lay : List LC) (e1 : CE) : Prop := ∀ (D : va_G) (al : Nat → Nat) (kC : Nat → ClassId) (as : List AV) (F : FF) (A : AA) (K : KK) (sz : Nat), ceS e1 as F A K →
  Met l (ceY e1) (.code (ceY e1) (ceB e1) (ceM e1) (ceR e1) :: am_tb) (am_rm (ceL e1) (ceK e1)) (va_Pc (as.map (am_cv al)) (am_B 0 none D al kC lay F A sz)) (am_Q (ceR e1) K D al kC lay (va_A (am_ws al kC lay F A) sz)) (ceK e1) (16 * ceK e1) (va_A (am_ws al kC lay F A) sz)
set_option maxHeartbeats 4000000 in
theorem am_metX {l : Launch} {lay : List LC} {x : CX} {e1 : CE} (hy : plainName (ceY e1).cls = true) (hlay : cxLay x = lay) (hret : cxRet x = ceR e1) (hmc : cxMc x = ceK e1) (hctx : am_ctx l (ceB e1) (ceY e1).cls (ceM e1) (ceL e1) x)
    (hgo : ∀ as F A K, ceS e1 as F A K → (am_fl as).length ≤ ceM e1 ∧ am_way x as (ceM e1) F A K) : am_CX l lay e1 := by
  intro D al kC as F A K sz hS
  obtain ⟨hlen, hway⟩ := hgo as F A K hS
  refine Met.ofW (cc := ceB e1) (maxL := ceM e1) (ret := ceR e1) hy rfl ?_
  intro p e s m args below meth c s₁ B hml hv
  obtain ⟨rfl, rfl, hP, hK, hdis0, -⟩ := hv
  have hts := atoms_spec (ws := .code (ceY e1) (ceB e1) (ceM e1) (ceR e1) :: am_tb) B.pre
  have hown : s.vm.findClass (ceY e1).cls = some m.cls := findClass_of_methodNamed B.named
  have hlocks := B.notSynchronized
  rw [lg_entry_eq]
  have hLR := am_LR_ent (al := al) hlen
  generalize hAe : va_A (am_ws al kC lay F A) s.heap.size = As
  have hdis : am_dis al lay As := by
    refine ⟨hdis0.1, fun i hi => ?_⟩
    rw [← hAe]
    exact Or.inl ⟨i, _, am_ws_get (F := F) (A := A) (kC := kC) (al := al) (List.getElem?_eq_getElem hi)⟩
  have hA : ∀ q, s.heap.size ≤ q → As q := fun q h => by rw [← hAe]; exact Or.inr h
  have hE : am_env p l e (am_rm (ceL e1) (ceK e1)) s m (as.map (am_cv al)).toArray c (ceB e1) (ceY e1).cls (ceM e1) D al kC (cxLay x) As 0 0 (cxMc x) am_tb :=
    ⟨B.exec, B.bytes, hml, hown, fun w hw => hts w (List.mem_cons_of_mem _ hw), hK, by rw [hlay]; exact hdis, hA, by rw [hmc]; exact Nat.le_of_eq (Nat.zero_add _), by rw [hmc]; exact Nat.le_of_eq (Nat.zero_add _)⟩
  have hret1 : am_rt p l e (am_rm (ceL e1) (ceK e1)) s m (as.map (am_cv al)).toArray below meth c (MQ below (am_Q (ceR e1) K D al kC lay As) (as.map (am_cv al)).toArray s (ceK e1) (16 * ceK e1) As) (ceB e1) (ceM e1) D al kC (cxLay x) As 0 0 (cxMc x) (cxRet x) K := by
    intro pc o F A ls u i ho hd hk hu H locs lsC hl hP1 hS1
    rw [hlay] at hP1
    refine W.widen (k := ceK e1) (n := 16 * ceK e1) (by omega) (by omega) ?_
    rw [hret] at ho
    match o, ho with
    | none, ho =>
      obtain ⟨rfl, hr⟩ := ho
      exact W.vret B.exec B.bytes (by rw [B.returns]; exact hr) (fun t ht hW => by rw [hr]; exact ⟨⟨(F, A), rfl, hk, by dsimp only; rw [ht]; exact hP1⟩, hS1.F ht⟩) hS1.2.2 hd
    | some (.inl a), ho =>
      obtain ⟨rfl, hr | ⟨hr, h01⟩⟩ := ho
      · exact W.iret (v := Int32.ofInt a) B.exec B.bytes (by rw [B.returns]; exact hr) (fun t ht hW => by rw [hr]; exact ⟨⟨_, (a, F, A), rfl, ⟨rfl, hk⟩, by dsimp only; rw [ht]; exact hP1⟩, hS1.F ht⟩) hS1.2.2 hd
      · exact W.zret (v := Int32.ofInt a) (ty := .boolean) B.exec B.bytes (by rw [B.returns]; exact hr) (by rcases h01 with rfl | rfl <;> rfl) (fun t ht hW => by rw [hr]; exact ⟨⟨_, (a, F, A), rfl, ⟨rfl, hk⟩, by dsimp only; rw [ht]; exact hP1⟩, hS1.F ht⟩) hS1.2.2 hd
    | some (.inr (.inl a)), ho =>
      obtain ⟨rfl, hr⟩ := ho
      exact W.lret (v := Int64.ofInt a) B.exec B.bytes (by rw [B.returns]; exact hr) (fun t ht hW => by rw [hr]; exact ⟨⟨_, (a, F, A), rfl, ⟨rfl, hk⟩, by dsimp only; rw [ht]; exact hP1⟩, hS1.F ht⟩) hS1.2.2 hd
    | some (.inr (.inr _)), ho => exact ho.elim
  have key := hway (am_W p l e (am_rm (ceL e1) (ceK e1)) s m (as.map (am_cv al)).toArray below meth c (MQ below (am_Q (ceR e1) K D al kC lay As) (as.map (am_cv al)).toArray s (ceK e1) (16 * ceK e1) As) (ceM e1) D al kC (cxLay x) As 0 0 (cxMc x)) (hctx hE ⟨Nat.le_refl _, Nat.le_refl _⟩ hret1)
  exact key (Nat.zero_le _) s.heap [] _ hLR (by rw [hlay]; exact hP) va_S.rf
