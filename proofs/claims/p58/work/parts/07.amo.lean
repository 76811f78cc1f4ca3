/-! one instruction of the abstract machine is sound -/
section AMO
variable {p : Program} {l : Launch} {e : Env} {R : Room} {s : State} {m : MethodId} {args : Array Value} {below : List Frame} {meth : Method} {c : Code} {Q : State → Prop}
def am_W (p : Program) (l : Launch) (e : Env) (R : Room) (s : State) (m : MethodId) (args : Array Value) (below : List Frame) (meth : Method) (c : Code) (Q : State → Prop) (nL : Nat) (D : va_G) (al : Nat → Nat) (kC : Nat → ClassId) (layW : List LC) (As : Nat → Prop) (cb sb mcO : Nat) : REC := fun pc ls st F A u =>
  u ≤ mcO → ∀ (H : Heap) (locs : List Loc) (lsC : Array Slot), am_LR al lsC nL ls → va_P D vwCl (am_ws al kC layW F A) H → va_S As s.heap H locs → W p l e R s m args below meth c H locs (cb + u) (sb + 16 * u) Q (F0 m pc lsC (st.map (am_cv al)))
theorem am_p1_ok {st : List AV} {k : Int → List AV → Prop} (h : am_p1 st k) : ∃ a r, st = vI a :: r ∧ k a r := by
  unfold am_p1 at h
  split at h
  · exact ⟨_, _, rfl, h⟩
  · exact h.elim
theorem am_p2_ok {st : List AV} {k : Int → Int → List AV → Prop} (h : am_p2 st k) : ∃ a b r, st = vI b :: vI a :: r ∧ k a b r := by
  unfold am_p2 at h
  split at h
  · exact ⟨_, _, _, rfl, h⟩
  · exact h.elim
theorem am_q1_ok {st : List AV} {k : Int → List AV → Prop} (h : am_q1 st k) : ∃ a r, st = vL a :: r ∧ k a r := by
  unfold am_q1 at h
  split at h
  · exact ⟨_, _, rfl, h⟩
  · exact h.elim
theorem am_q2_ok {st : List AV} {k : Int → Int → List AV → Prop} (h : am_q2 st k) : ∃ a b r, st = vL b :: vL a :: r ∧ k a b r := by
  unfold am_q2 at h
  split at h
  · exact ⟨_, _, _, rfl, h⟩
  · exact h.elim
theorem am_pR_ok {st : List AV} {k : Nat → List AV → Prop} (h : am_pR st k) : ∃ a r, st = vR a :: r ∧ k a r := by
  unfold am_pR at h
  split at h
  · exact ⟨_, _, rfl, h⟩
  · exact h.elim
theorem am_nth_get : ∀ (l : LVs) (i : Nat) (v : AV), am_nth l i = some v → l[i]? = some (some v)
  | [], _, _, h => by cases h
  | a :: _, 0, v, h => by
    have h : a = some v := h
    rw [h]; rfl
  | _ :: l, i + 1, v, h => by
    rw [List.getElem?_cons_succ]
    exact am_nth_get l i v h
theorem am_gI_ok {ls : LVs} {i : Nat} {k : Int → Prop} (h : am_gI ls i k) : ∃ x, ls[i]? = some (some (vI x)) ∧ k x := by
  unfold am_gI at h
  split at h
  · rename_i x hx; exact ⟨x, am_nth_get _ _ _ hx, h⟩
  · exact h.elim
theorem am_gL_ok {ls : LVs} {i : Nat} {k : Int → Prop} (h : am_gL ls i k) : ∃ x, ls[i]? = some (some (vL x)) ∧ k x := by
  unfold am_gL at h
  split at h
  · rename_i x hx; exact ⟨x, am_nth_get _ _ _ hx, h⟩
  · exact h.elim
theorem am_gR_ok {ls : LVs} {i : Nat} {k : Nat → Prop} (h : am_gR ls i k) : ∃ x, ls[i]? = some (some (vR x)) ∧ k x := by
  unfold am_gR at h
  split at h
  · rename_i x hx; exact ⟨x, am_nth_get _ _ _ hx, h⟩
  · exact h.elim
theorem am_cond_ok {b : Bool} {P : Prop} (h : cond b P False) : b = true ∧ P := by
  cases b
  · exact h.elim
  · exact ⟨rfl, h⟩
theorem am_killk_ok : ∀ (l : LVs) (i : Nat) (k : LVs → Prop), am_killk l i k → k (am_kill l i)
  | l, 0, k, h => by unfold am_killk at h; exact h
  | [], i + 1, k, h => by
    unfold am_killk at h
    exact h
  | a :: l, 1, k, h => by
    unfold am_killk at h
    unfold am_kill
    simp only [List.getElem?_cons_zero]
    split at h
    · exact h
    · rename_i hn
      split
      · rename_i x hx
        exact absurd (Option.some.inj hx) (hn x)
      · exact h
  | a :: l, i + 2, k, h => by
    unfold am_killk at h
    have := am_killk_ok l (i + 1) _ h
    have e : am_kill (a :: l) (i + 2) = a :: am_kill l (i + 1) := by
      unfold am_kill
      simp only [List.getElem?_cons_succ]
      split
      · rename_i x hx
        rw [hx]; rfl
      · rfl
    rw [e]; exact this
theorem am_setk_ok : ∀ (l : LVs) (i : Nat) (v : Option AV) (k : LVs → Prop), am_setk l i v k → i < l.length ∧ k (l.set i v)
  | [], _, _, _, h => by unfold am_setk at h; exact h.elim
  | a :: l, 0, v, k, h => by
    unfold am_setk at h
    exact ⟨Nat.zero_lt_succ _, h⟩
  | a :: l, i + 1, v, k, h => by
    unfold am_setk at h
    have := am_setk_ok l i v _ h
    exact ⟨Nat.succ_lt_succ this.1, this.2⟩
theorem am_st1_ok {ls : LVs} {i : Nat} {v : AV} {k : LVs → Prop} (h : am_st1 ls i v k) : i < ls.length ∧ k ((am_kill ls i).set i (some v)) := by
  have h1 := am_killk_ok _ _ _ h
  have h2 := am_setk_ok _ _ _ _ h1
  rw [am_kill_len] at h2
  exact h2
theorem am_st2_ok {ls : LVs} {i : Nat} {v : AV} {k : LVs → Prop} (h : am_st2 ls i v k) : i + 1 < ls.length ∧ k (((am_kill ls i).set i (some v)).set (i + 1) none) := by
  have h1 := am_killk_ok _ _ _ h
  have h2 := am_setk_ok _ _ _ _ h1
  have h3 := am_setk_ok _ _ _ _ h2.2
  rw [List.length_set, am_kill_len] at h3
  exact h3
theorem am_tgt_ok {ts : List Nat} {k : Nat → Prop} (h : am_tgt ts k) : ∃ t, ts = [t] ∧ k t := by
  unfold am_tgt at h
  split at h
  · exact ⟨_, rfl, h⟩
  · exact h.elim
theorem am_obj_ok {lay : List LC} {o : Nat} {k : Nat → List (Option Nat) → Prop} (h : am_obj lay o k) : ∃ ci fs, lay[o]? = some (.inl (ci, fs)) ∧ k ci fs := by
  unfold am_obj at h
  split at h
  · rename_i ci fs hx; exact ⟨ci, fs, hx, h⟩
  · exact h.elim
theorem am_arr_ok {lay : List LC} {o : Nat} {k : Nat → Int → Prop} (h : am_arr lay o k) : ∃ kd n, lay[o]? = some (.inr (kd, n)) ∧ k kd n := by
  unfold am_arr at h
  split at h
  · rename_i ci fs hx; exact ⟨ci, fs, hx, h⟩
  · exact h.elim
/-- a field's row of the constant pool -/
def am_fok (own : String) (Ts : List Cond) (k : Nat) (ci j : Nat) (w : Bool) : Prop := ∃ (C : String) (T : u_T) (N : Nat) (ty0 : Nat → FieldType), vwCl[ci]? = some (C, T, N) ∧ j < N ∧ (∀ w ∈ u_ws C T N, w ∈ Ts) ∧ Cond.fieldLink own k (T j).1 (T j).2.1 (T j).2.2.1 ∈ Ts ∧ (∀ k, k < N → parseFieldDescriptor (T k).2.2.1 = some (ty0 k)) ∧ (∀ a, a < N → ∀ b, b < N → a ≠ b → (T a).2.1 ≠ (T b).2.1) ∧ (w = true → (T j).2.2.2 = false ∧ parseFieldDescriptor (T j).2.2.1 = some .int)
/-- the fixed things of a frame -/
def am_env (p : Program) (l : Launch) (e : Env) (R : Room) (s : State) (m : MethodId) (args : Array Value) (c : Code) (cc : ByteArray) (own : String) (nL : Nat) (D : va_G) (al : Nat → Nat) (kC : Nat → ClassId) (layW : List LC) (As : Nat → Prop) (cb sb mcO : Nat) (Ts : List Cond) : Prop :=
  p.tables.exec = Jvm.exec ∧ c.code = cc ∧ c.maxLocals = nL ∧ s.vm.findClass own = some m.cls ∧ (∀ w ∈ Ts, w.before args s = true) ∧ va_K D vwCl (am_tys kC) s ∧ am_dis al layW As ∧ (∀ q, s.heap.size ≤ q → As q) ∧ cb + mcO ≤ R.cells ∧ sb + 16 * mcO ≤ R.slots
theorem am_pre {lay layW : List LC} (h : lay <+: layW) {o : Nat} {c : LC} (hc : lay[o]? = some c) : layW[o]? = some c := by
  obtain ⟨t, rfl⟩ := h
  rw [List.getElem?_append_left (List.getElem?_eq_some_iff.mp hc).1]
  exact hc
theorem am_sw_ok {x : Int} {rec : Nat → Prop} : ∀ (ts : List Nat) (lo : Int), am_sw x rec lo ts → ∀ (k : Nat) (t : Nat), ts[k]? = some t → w32 x = lo + k → rec t
  | [], _, _, _, _, h, _ => by cases h
  | a :: as, lo, h, 0, t, ht, hx => by
    cases ht
    exact h.1 (by rw [hx]; omega)
  | a :: as, lo, h, k + 1, t, ht, hx => am_sw_ok as (lo + 1) h.2 k t (by simpa using ht) (by rw [hx]; omega)
theorem am_swok_ok {pc : Nat} : ∀ (os : List Int) (ts : List Nat), am_swok pc os ts = true → ∀ (k : Nat) (o : Int), os[k]? = some o → ∃ t, ts[k]? = some t ∧ (pc : Int) + o = (t : Int)
  | [], _, _, _, _, h => by cases h
  | o :: os, [], h, _, _, _ => by cases h
  | o :: os, t :: ts, h, k, o', ho => by
    unfold am_swok at h
    rw [Bool.and_eq_true] at h
    match k, ho with
    | 0, ho => cases ho; exact ⟨t, rfl, of_decide_eq_true h.1⟩
    | k + 1, ho =>
      obtain ⟨t', h1, h2⟩ := am_swok_ok os ts h.2 k o' (by simpa using ho)
      exact ⟨t', by simpa using h1, h2⟩
theorem o_min (a b : Int) : (if Int32.ofInt b < Int32.ofInt a then Int32.ofInt b else Int32.ofInt a) = Int32.ofInt (x_min a b) := by
  unfold x_min
  by_cases h : w32 b < w32 a
  · rw [if_pos h, if_pos ((w32_lt b a).mpr h)]
  · rw [if_neg h, if_neg (fun q => h ((w32_lt b a).mp q))]
theorem o_max (a b : Int) : (if Int32.ofInt a < Int32.ofInt b then Int32.ofInt b else Int32.ofInt a) = Int32.ofInt (x_max a b) := by
  unfold x_max
  by_cases h : w32 a < w32 b
  · rw [if_pos h, if_pos ((w32_lt a b).mpr h)]
  · rw [if_neg h, if_neg (fun q => h ((w32_lt a b).mp q))]
theorem o_zero : (0 : Int32) = Int32.ofInt 0 := rfl
theorem w32_0 : w32 0 = 0 := rfl
theorem o_abs (a : Int) : (if 0 ≤ Int32.ofInt a then Int32.ofInt a else 0 - Int32.ofInt a) = Int32.ofInt (x_abs a) := by
  unfold x_abs
  by_cases h : 0 ≤ w32 a
  · rw [if_pos h, if_pos]
    rw [o_zero, w32_le, w32_0]; omega
  · rw [if_neg h, if_neg]
    · rw [o_zero, ← Int32.ofInt_sub, Int.zero_sub]
    · rw [o_zero, w32_le, w32_0]; omega
theorem o_cmp (a b : Int) : lg_cmp (Int64.ofInt a) (Int64.ofInt b) = Int32.ofInt (y_cmp a b) := by
  unfold y_cmp lg_cmp
  by_cases h : w64 b < w64 a
  · rw [if_pos h, if_pos ((w64_lt b a).mpr h)]; rfl
  · rw [if_neg h, if_neg (fun q => h ((w64_lt b a).mp q))]
    by_cases h2 : w64 a = w64 b
    · rw [if_pos h2, if_pos ((w64_inj a b).mpr h2)]; rfl
    · rw [if_neg h2, if_neg (fun q => h2 ((w64_inj a b).mp q))]; rfl
theorem w64_0 : w64 0 = 0 := rfl
theorem o64_ne {b : Int} (h : w64 b ≠ 0) : ¬ Int64.ofInt b = 0 := fun q => h (by rw [← w64_0]; exact (w64_inj b 0).mp q)
theorem o32_ne {b : Int} (h : w32 b ≠ 0) : ¬ Int32.ofInt b = 0 := fun q => h (by rw [← w32_0]; exact (w32_inj b 0).mp q)
theorem o_l2i (a : Int) : (Int64.ofInt a).toInt32 = Int32.ofInt a := by
  first | exact Int64.toInt32_ofInt a | simp
theorem o_i2l (a : Int) : (Int32.ofInt a).toInt64 = Int64.ofInt (w32 a) := by
  unfold w32
  first | exact (Int64.ofInt_int32ToInt _).symm | simp
def am_lok (lay : List LC) : Bool := lay.all fun c => match c with
  | .inr (kd, n) => Nat.ble kd 2 && decide (0 ≤ n)
  | .inl _ => true
theorem am_lok_ok {lay : List LC} (h : am_lok lay = true) {o kd : Nat} {n : Int} (hc : lay[o]? = some (.inr (kd, n))) : kd ≤ 2 ∧ 0 ≤ n := by
  have h1 := List.all_eq_true.mp h _ (List.mem_of_getElem? hc)
  dsimp only at h1
  rw [Bool.and_eq_true] at h1
  exact ⟨Nat.le_of_ble_eq_true h1.1, of_decide_eq_true h1.2⟩
theorem am_put_eq {al : Nat → Nat} {kC : Nat → ClassId} {F : FF} {A : AA} {o ci j : Nat} {fs : List (Option Nat)} {v : Int} (hj : fs[j]? = some none) :
    ((al o, .inr (ci, (fs.mapIdx (fun j t => match t with
      | none => Value.int (Int32.ofInt (F o j))
      | some r => Value.ref (al r))).set j (.int (Int32.ofInt v)))) : Nat × va_E) = am_wc al kC (upF F o j v) A o (.inl (ci, fs)) := by
  unfold am_wc
  congr 3
  apply List.ext_getElem?
  intro k
  rw [List.getElem?_set, List.getElem?_mapIdx, List.getElem?_mapIdx]
  have hlt := (List.getElem?_eq_some_iff.mp hj).1
  by_cases hk : j = k
  · subst hk
    rw [if_pos rfl, if_pos (by rw [List.length_mapIdx]; exact hlt), hj]
    simp [upF]
  · rw [if_neg hk]
    cases fs[k]? with
    | none => rfl
    | some t =>
      cases t with
      | none =>
        have hk' : ¬ k = j := fun q => hk q.symm
        simp [upF, hk']
      | some r => rfl
theorem am_ofN {n : Int} (h : 0 ≤ n) : Int32.ofNat n.toNat = Int32.ofInt n := by
  obtain ⟨k, rfl⟩ := Int.eq_ofNat_of_zero_le h
  first | rfl | simp
theorem am_sum_eq (al : Nat → Nat) (r : List AV) : ((r.map (am_cv al)).map fun v => v.category).sum = am_sum r := by
  unfold am_sum
  rw [List.map_map]
  have : ((fun v : Value => v.category) ∘ am_cv al) = am_cat := by funext v; exact am_cv_cat al v
  rw [this]
  rfl
theorem am_cpy {A : AA} {a0 a : Nat} {sp dp n : Int} {s' d' n' : Nat} (h1 : (s' : Int) = sp) (h2 : (d' : Int) = dp) (h3 : (n' : Int) = n) :
    va_cpy (fun j : Nat => Int32.ofInt (A a0 j)) (fun j : Nat => Int32.ofInt (A a j)) s' d' n' = fun j : Nat => Int32.ofInt (cpA A a0 sp 0 dp n a a j) := by
  funext j
  unfold va_cpy cpA
  by_cases h : d' ≤ j ∧ j < d' + n'
  · rw [if_pos h, if_pos ⟨rfl, by omega, by omega⟩]
    have e : ((s' + (j - d') : Nat) : Int) = sp + ((j : Int) - dp) := by omega
    show Int32.ofInt (A a0 ((s' + (j - d') : Nat) : Int)) = _
    rw [e]
  · rw [if_neg h, if_neg (fun q => h ⟨by omega, by omega⟩)]
theorem am_wc_C {al : Nat → Nat} {kC : Nat → ClassId} {F : FF} {A : AA} {a0 o : Nat} {sp dp n : Int} : ∀ k, k ≠ o → ∀ d, am_wc al kC F A k d = am_wc al kC F (cpA A a0 sp 0 dp n o) k d := by
  intro k hk d
  have e : ∀ b, cpA A a0 sp 0 dp n o k b = A k b := fun b => by simp [cpA, hk]
  unfold am_wc
  simp only [e]
theorem am_nf : nativeFrameWords "java/lang/System" "arraycopy" 5 ≤ 89 := by decide +kernel
theorem am_bq {a b : Nat} (h : Nat.beq a b = true) : a = b := Nat.eq_of_beq_eq_true h
set_option maxHeartbeats 4000000 in
theorem am_ins_ok {cc : ByteArray} {own : String} {nL : Nat} {D : va_G} {al : Nat → Nat} {kC : Nat → ClassId} {layW : List LC} {As : Nat → Prop} {cb sb : Nat} {Ts : List Cond} {x : CX} {K : KK} {rec : REC}
    (hE : am_env p l e R s m args c cc own nL D al kC layW As cb sb (cxMc x) Ts)
    (hrec : ∀ pc ls st F A u, rec pc ls st F A u → am_W p l e R s m args below meth c Q nL D al kC layW As cb sb (cxMc x) pc ls st F A u)
    (hpre : cxLay x <+: layW) (hlok : am_lok (cxLay x) = true)
    (hfld : ∀ k ci j w, cxFld x k = some (ci, j, w) → am_fok own Ts k ci j w)
    (hcst : ∀ k v, cxCst x k = some v → Cond.constant own k (Int32.ofInt v) ∈ Ts)
    (hcsl : ∀ k v, cxCsL x k = some v → Cond.constantLong own k (Int64.ofInt v) ∈ Ts)
    (hmth : ∀ k, (cxMth x k = 1 → Cond.methodLink own k Lib.Math.min.name ∈ Ts ∧ Cond.static Lib.Math.min.name ∈ Ts ∧ Cond.initialized "java/lang/Math" ∈ Ts ∧ Cond.code Lib.Math.min.name Lib.Math.min.code 2 (some .int) ∈ Ts) ∧
      (cxMth x k = 2 → Cond.methodLink own k Lib.Math.max.name ∈ Ts ∧ Cond.static Lib.Math.max.name ∈ Ts ∧ Cond.initialized "java/lang/Math" ∈ Ts ∧ Cond.code Lib.Math.max.name Lib.Math.max.code 2 (some .int) ∈ Ts) ∧
      (cxMth x k = 3 → Cond.methodLink own k Lib.Math.abs.name ∈ Ts ∧ Cond.static Lib.Math.abs.name ∈ Ts ∧ Cond.initialized "java/lang/Math" ∈ Ts ∧ Cond.code Lib.Math.abs.name Lib.Math.abs.code 1 (some .int) ∈ Ts) ∧
      (cxMth x k = 4 → Cond.methodLink own k arraycopyName ∈ Ts ∧ Cond.native arraycopyName ∈ Ts ∧ Cond.static arraycopyName ∈ Ts ∧ Cond.initialized "java/lang/System" ∈ Ts) ∧
      (cxMth x k ≠ 0 → 1 ≤ R.frames ∧ 8 + 100 ≤ R.locals))
    (hscr : ∀ L xs, cxScr x = some (L, xs) → ∃ (Ln : Nat) (xn : Nat → Int32), L = Ln ∧ Ln < 2147483648 ∧ (∀ j : Nat, xs j = (xn j).toInt) ∧ va_X (al 999) Ln xn s s.heap ∧ al 999 < s.heap.size ∧ ¬ As (al 999))
    (hspc : ∀ pc b, cxSpc x pc = some b → ∀ ls st F A u, b rec K ls st F A u → am_W p l e R s m args below meth c Q nL D al kC layW As cb sb (cxMc x) pc ls st F A u)
    (hcal : ∀ (k nx : Nat) (i : Instr) (pc : Nat) (e1 : CE), cxCal x k = some e1 → decode cc pc = .ok (i, 3) → (i = .invokevirtual k ∨ i = .invokestatic k) → (i = .invokestatic k ↔ ceC e1 = none) → ∀ ls st F A u, am_call (cxLay x) (cxThr x) (cxHnd x) (cxMc x) rec K (pc + 3) ls st F A u e1 → am_W p l e R s m args below meth c Q nL D al kC layW As cb sb (cxMc x) pc ls st F A u)
    (hret : ∀ pc o F A ls u i, (match o with | some (.inl a) => i = Instr.ireturn ∧ (cxRet x = some .int ∨ cxRet x = some .boolean ∧ (a = 0 ∨ a = 1)) | some (.inr (.inl _)) => i = Instr.lreturn ∧ cxRet x = some .long | some (.inr (.inr _)) => False | none => i = Instr.return_ ∧ cxRet x = none) → decode cc pc = .ok (i, 1) → K (some o) F A → am_W p l e R s m args below meth c Q nL D al kC layW As cb sb (cxMc x) pc ls o.toList F A u)
    {pc : Nat} {ls : LVs} {st : List AV} {F : FF} {A : AA} {u : Nat} {i : Instr} {nx : Nat} {ts : List Nat} (hc : am_cok cc pc (i, nx, ts) = true)
    (h : am_ins x rec K pc ls st F A u i nx ts) : am_W p l e R s m args below meth c Q nL D al kC layW As cb sb (cxMc x) pc ls st F A u := by
  obtain ⟨hx, hb, hml, hown, hts, hK, hdis, hA, hRc, hRs⟩ := id hE
  obtain ⟨k0, hd, rfl, hi⟩ := am_cok_ok hc
  intro hu H locs lsC hl hP hS
  have hD := am_dis_D (kC := kC) hdis F A
  cases i
  case iconst =>
    have hk : k0 = 1 := by have := am_bq hi; omega
    subst hk
    refine lv_iconst (v := Int32.ofInt _) hx hb hd rfl ?_
    exact hrec _ _ _ _ _ _ h hu _ _ _ hl hP hS
  case bipush =>
    have hi2 := (Bool.and_eq_true _ _).mp hi
    have hk : k0 = 2 := by have := am_bq hi2.1; omega
    subst hk
    refine lv_bipush (v := Int32.ofInt _) hx hb hd (of_decide_eq_true hi2.2) ?_
    exact hrec _ _ _ _ _ _ h hu _ _ _ hl hP hS
  case sipush =>
    have hi2 := (Bool.and_eq_true _ _).mp hi
    have hk : k0 = 3 := by have := am_bq hi2.1; omega
    subst hk
    refine lv_sipush (v := Int32.ofInt _) hx hb hd (of_decide_eq_true hi2.2) ?_
    exact hrec _ _ _ _ _ _ h hu _ _ _ hl hP hS
  case lconst =>
    have hk : k0 = 1 := by have := am_bq hi; omega
    subst hk
    rename_i n
    refine lv_lconst (v := Int64.ofInt (n.val : Nat)) hx hb hd rfl ?_
    exact hrec _ _ _ _ _ _ h hu _ _ _ hl hP hS
  case ldc =>
    unfold am_ins at h
    dsimp only at h
    split at h
    · rename_i v hv
      have hk : k0 = 2 := by have := am_bq hi; omega
      subst hk
      refine lv_ldc hx hb hown (hts _ (hcst _ _ hv)) hd ?_
      exact hrec _ _ _ _ _ _ h hu _ _ _ hl hP hS
    · unfold am_spc at h
      split at h
      · rename_i b hb2
        exact hspc _ _ hb2 _ _ _ _ _ h hu _ _ _ hl hP hS
      · exact h.elim
  case ldc_w =>
    unfold am_ins at h
    dsimp only at h
    split at h
    · rename_i v hv
      have hk : k0 = 3 := by have := am_bq hi; omega
      subst hk
      refine lv_ldcw hx hb hown (hts _ (hcst _ _ hv)) hd ?_
      exact hrec _ _ _ _ _ _ h hu _ _ _ hl hP hS
    · unfold am_spc at h
      split at h
      · rename_i b hb2
        exact hspc _ _ hb2 _ _ _ _ _ h hu _ _ _ hl hP hS
      · exact h.elim
  case new =>
    unfold am_ins at h
    dsimp only at h
    unfold am_spc at h
    split at h
    · rename_i b hb2
      exact hspc _ _ hb2 _ _ _ _ _ h hu _ _ _ hl hP hS
    · exact h.elim
  case ldc2_w =>
    unfold am_ins at h
    dsimp only at h
    split at h
    · rename_i v hv
      have hk : k0 = 3 := by have := am_bq hi; omega
      subst hk
      refine lv_ldc2 hx hb hown (hts _ (hcsl _ _ hv)) hd ?_
      exact hrec _ _ _ _ _ _ h hu _ _ _ hl hP hS
    · exact h.elim
  case iload =>
    have hk : k0 = 2 := by have := am_bq hi; omega
    subst hk
    replace h := am_gI_ok h
    obtain ⟨a, ha, h⟩ := h
    refine lv_iload hx hb hd (hl.2.2.2 _ _ ha) ?_
    exact hrec _ _ _ _ _ _ h hu _ _ _ hl hP hS
  case iload_n =>
    have hk : k0 = 1 := by have := am_bq hi; omega
    subst hk
    replace h := am_gI_ok h
    obtain ⟨a, ha, h⟩ := h
    refine lv_iload_n hx hb hd rfl (hl.2.2.2 _ _ ha) ?_
    exact hrec _ _ _ _ _ _ h hu _ _ _ hl hP hS
  case lload =>
    have hk : k0 = 2 := by have := am_bq hi; omega
    subst hk
    replace h := am_gL_ok h
    obtain ⟨a, ha, h⟩ := h
    refine lv_lload hx hb hd (hl.2.2.2 _ _ ha) ?_
    exact hrec _ _ _ _ _ _ h hu _ _ _ hl hP hS
  case lload_n =>
    have hk : k0 = 1 := by have := am_bq hi; omega
    subst hk
    replace h := am_gL_ok h
    obtain ⟨a, ha, h⟩ := h
    refine lv_lload_n hx hb hd rfl (hl.2.2.2 _ _ ha) ?_
    exact hrec _ _ _ _ _ _ h hu _ _ _ hl hP hS
  case aload =>
    have hk : k0 = 2 := by have := am_bq hi; omega
    subst hk
    replace h := am_gR_ok h
    obtain ⟨a, ha, h⟩ := h
    refine lv_aload hx hb hd (hl.2.2.2 _ _ ha) ?_
    exact hrec _ _ _ _ _ _ h hu _ _ _ hl hP hS
  case aload_n =>
    have hk : k0 = 1 := by have := am_bq hi; omega
    subst hk
    replace h := am_gR_ok h
    obtain ⟨a, ha, h⟩ := h
    refine lv_aload_n hx hb hd rfl (hl.2.2.2 _ _ ha) ?_
    exact hrec _ _ _ _ _ _ h hu _ _ _ hl hP hS
  case istore =>
    unfold am_ins at h
    dsimp only at h
    have hk : k0 = 2 := by have := am_bq hi; omega
    subst hk
    replace h := am_p1_ok h
    obtain ⟨a, r, rfl, h⟩ := h
    replace h := am_st1_ok h
    obtain ⟨h1, h⟩ := h
    refine lv_istore hx hb hd (am_LR_has hl) (by rw [← hl.1]; exact h1) rfl (fun ls' h' => ?_)
    exact hrec _ _ _ _ _ _ h hu _ _ _ (am_LR_set1 (v := .inl a) hl h') hP hS
  case istore_n =>
    unfold am_ins at h
    dsimp only at h
    have hk : k0 = 1 := by have := am_bq hi; omega
    subst hk
    replace h := am_p1_ok h
    obtain ⟨a, r, rfl, h⟩ := h
    replace h := am_st1_ok h
    obtain ⟨h1, h⟩ := h
    refine lv_istore_n hx hb hd rfl (am_LR_has hl) (by rw [← hl.1]; exact h1) rfl (fun ls' h' => ?_)
    exact hrec _ _ _ _ _ _ h hu _ _ _ (am_LR_set1 (v := .inl a) hl h') hP hS
  case astore =>
    unfold am_ins at h
    dsimp only at h
    have hk : k0 = 2 := by have := am_bq hi; omega
    subst hk
    replace h := am_pR_ok h
    obtain ⟨a, r, rfl, h⟩ := h
    replace h := am_st1_ok h
    obtain ⟨h1, h⟩ := h
    refine lv_astore hx hb hd (am_LR_has hl) (by rw [← hl.1]; exact h1) rfl (fun ls' h' => ?_)
    exact hrec _ _ _ _ _ _ h hu _ _ _ (am_LR_set1 (v := .inr (.inr a)) hl h') hP hS
  case astore_n =>
    unfold am_ins at h
    dsimp only at h
    have hk : k0 = 1 := by have := am_bq hi; omega
    subst hk
    replace h := am_pR_ok h
    obtain ⟨a, r, rfl, h⟩ := h
    replace h := am_st1_ok h
    obtain ⟨h1, h⟩ := h
    refine lv_astore_n hx hb hd rfl (am_LR_has hl) (by rw [← hl.1]; exact h1) rfl (fun ls' h' => ?_)
    exact hrec _ _ _ _ _ _ h hu _ _ _ (am_LR_set1 (v := .inr (.inr a)) hl h') hP hS
  case lstore =>
    unfold am_ins at h
    dsimp only at h
    have hk : k0 = 2 := by have := am_bq hi; omega
    subst hk
    replace h := am_q1_ok h
    obtain ⟨a, r, rfl, h⟩ := h
    replace h := am_st2_ok h
    obtain ⟨h1, h⟩ := h
    refine lv_lstore hx hb hd (am_LR_has hl) (by rw [← hl.1]; exact h1) rfl (fun ls' h' => ?_)
    exact hrec _ _ _ _ _ _ h hu _ _ _ (am_LR_set2 (v := .inr (.inl a)) hl h') hP hS
  case lstore_n =>
    unfold am_ins at h
    dsimp only at h
    have hk : k0 = 1 := by have := am_bq hi; omega
    subst hk
    replace h := am_q1_ok h
    obtain ⟨a, r, rfl, h⟩ := h
    replace h := am_st2_ok h
    obtain ⟨h1, h⟩ := h
    refine lv_lstore_n hx hb hd rfl (am_LR_has hl) (by rw [← hl.1]; exact h1) rfl (fun ls' h' => ?_)
    exact hrec _ _ _ _ _ _ h hu _ _ _ (am_LR_set2 (v := .inr (.inl a)) hl h') hP hS
  case iinc =>
    have hk : k0 = 3 := by have := am_bq hi; omega
    subst hk
    rename_i iv n
    replace h := am_gI_ok h
    obtain ⟨a, ha, h⟩ := h
    replace h := am_st1_ok h
    obtain ⟨h1, h⟩ := h
    have hm : (iv, Value.int (Int32.ofInt a)) ∈ am_lv al ls := am_lv_mem.mpr ⟨vI a, ha, rfl⟩
    obtain ⟨q, hq⟩ := List.getElem?_of_mem hm
    refine lv_iinc (k := q) (v := Int32.ofInt (a + n)) hx hb hd (am_LR_has hl) hq (by rw [Int32.ofInt_add]) (by rw [← hl.1]; exact h1) rfl (fun ls' h' => ?_)
    exact hrec _ _ _ _ _ _ h hu _ _ _ (am_LR_set1 (v := .inl (a + n)) hl h') hP hS
  case iadd =>
    have hk : k0 = 1 := by have := am_bq hi; omega
    subst hk
    replace h := am_p2_ok h
    obtain ⟨a, b, r, rfl, h⟩ := h
    refine lv_iadd hx hb hd ?_
    rw [← Int32.ofInt_add]
    exact hrec _ _ _ _ _ _ h hu _ _ _ hl hP hS
  case isub =>
    have hk : k0 = 1 := by have := am_bq hi; omega
    subst hk
    replace h := am_p2_ok h
    obtain ⟨a, b, r, rfl, h⟩ := h
    refine lv_isub hx hb hd ?_
    rw [← Int32.ofInt_sub]
    exact hrec _ _ _ _ _ _ h hu _ _ _ hl hP hS
  case imul =>
    have hk : k0 = 1 := by have := am_bq hi; omega
    subst hk
    replace h := am_p2_ok h
    obtain ⟨a, b, r, rfl, h⟩ := h
    refine lv_imul hx hb hd ?_
    rw [← Int32.ofInt_mul]
    exact hrec _ _ _ _ _ _ h hu _ _ _ hl hP hS
  case iand =>
    have hk : k0 = 1 := by have := am_bq hi; omega
    subst hk
    replace h := am_p2_ok h
    obtain ⟨a, b, r, rfl, h⟩ := h
    refine lv_iand hx hb hd ?_
    rw [o32 (_ &&& _)]
    exact hrec _ _ _ _ _ _ h hu _ _ _ hl hP hS
  case ior =>
    have hk : k0 = 1 := by have := am_bq hi; omega
    subst hk
    replace h := am_p2_ok h
    obtain ⟨a, b, r, rfl, h⟩ := h
    refine lv_ior hx hb hd ?_
    rw [o32 (_ ||| _)]
    exact hrec _ _ _ _ _ _ h hu _ _ _ hl hP hS
  case ishl =>
    have hk : k0 = 1 := by have := am_bq hi; omega
    subst hk
    replace h := am_p2_ok h
    obtain ⟨a, b, r, rfl, h⟩ := h
    refine lv_ishl hx hb hd ?_
    rw [o32 (_ <<< _)]
    exact hrec _ _ _ _ _ _ h hu _ _ _ hl hP hS
  case ishr =>
    have hk : k0 = 1 := by have := am_bq hi; omega
    subst hk
    replace h := am_p2_ok h
    obtain ⟨a, b, r, rfl, h⟩ := h
    refine lv_ishr hx hb hd ?_
    rw [o32 (_ >>> _)]
    exact hrec _ _ _ _ _ _ h hu _ _ _ hl hP hS
  case iushr =>
    have hk : k0 = 1 := by have := am_bq hi; omega
    subst hk
    replace h := am_p2_ok h
    obtain ⟨a, b, r, rfl, h⟩ := h
    refine lv_iushr (v := Int32.ofInt (x_ushr a b)) hx hb hd (o32 _) ?_
    exact hrec _ _ _ _ _ _ h hu _ _ _ hl hP hS
  case ineg =>
    have hk : k0 = 1 := by have := am_bq hi; omega
    subst hk
    replace h := am_p1_ok h
    obtain ⟨a, r, rfl, h⟩ := h
    refine lv_ineg hx hb hd ?_
    rw [← Int32.ofInt_neg]
    exact hrec _ _ _ _ _ _ h hu _ _ _ hl hP hS
  case idiv =>
    have hk : k0 = 1 := by have := am_bq hi; omega
    subst hk
    replace h := am_p2_ok h
    obtain ⟨a, b, r, rfl, h0, h⟩ := h
    refine lv_idiv hx hb hd (o32_ne h0) ?_
    rw [o32 (_ / _)]
    exact hrec _ _ _ _ _ _ h hu _ _ _ hl hP hS
  case irem =>
    have hk : k0 = 1 := by have := am_bq hi; omega
    subst hk
    replace h := am_p2_ok h
    obtain ⟨a, b, r, rfl, h0, h⟩ := h
    refine lv_irem hx hb hd (o32_ne h0) ?_
    rw [o32 (_ - _)]
    exact hrec _ _ _ _ _ _ h hu _ _ _ hl hP hS
  case ladd =>
    have hk : k0 = 1 := by have := am_bq hi; omega
    subst hk
    replace h := am_q2_ok h
    obtain ⟨a, b, r, rfl, h⟩ := h
    refine lv_ladd hx hb hd ?_
    rw [← Int64.ofInt_add]
    exact hrec _ _ _ _ _ _ h hu _ _ _ hl hP hS
  case lsub =>
    have hk : k0 = 1 := by have := am_bq hi; omega
    subst hk
    replace h := am_q2_ok h
    obtain ⟨a, b, r, rfl, h⟩ := h
    refine lv_lsub hx hb hd ?_
    rw [← Int64.ofInt_sub]
    exact hrec _ _ _ _ _ _ h hu _ _ _ hl hP hS
  case lmul =>
    have hk : k0 = 1 := by have := am_bq hi; omega
    subst hk
    replace h := am_q2_ok h
    obtain ⟨a, b, r, rfl, h⟩ := h
    refine lv_lmul hx hb hd ?_
    rw [← Int64.ofInt_mul]
    exact hrec _ _ _ _ _ _ h hu _ _ _ hl hP hS
  case lor =>
    have hk : k0 = 1 := by have := am_bq hi; omega
    subst hk
    replace h := am_q2_ok h
    obtain ⟨a, b, r, rfl, h⟩ := h
    refine lv_lor hx hb hd ?_
    rw [o64 (_ ||| _)]
    exact hrec _ _ _ _ _ _ h hu _ _ _ hl hP hS
  case lneg =>
    have hk : k0 = 1 := by have := am_bq hi; omega
    subst hk
    replace h := am_q1_ok h
    obtain ⟨a, r, rfl, h⟩ := h
    refine lv_lneg hx hb hd ?_
    rw [← Int64.ofInt_neg]
    exact hrec _ _ _ _ _ _ h hu _ _ _ hl hP hS
  case ldiv =>
    have hk : k0 = 1 := by have := am_bq hi; omega
    subst hk
    replace h := am_q2_ok h
    obtain ⟨a, b, r, rfl, h0, h⟩ := h
    refine lv_ldiv hx hb hd (o64_ne h0) ?_
    rw [o64 (_ / _)]
    exact hrec _ _ _ _ _ _ h hu _ _ _ hl hP hS
  case lrem =>
    have hk : k0 = 1 := by have := am_bq hi; omega
    subst hk
    replace h := am_q2_ok h
    obtain ⟨a, b, r, rfl, h0, h⟩ := h
    refine lv_lrem hx hb hd (o64_ne h0) ?_
    rw [o64 (_ - _)]
    exact hrec _ _ _ _ _ _ h hu _ _ _ hl hP hS
  case lshl =>
    unfold am_ins at h
    dsimp only at h
    have hk : k0 = 1 := by have := am_bq hi; omega
    subst hk
    replace h := am_p1_ok h
    obtain ⟨b, r, rfl, h⟩ := h
    replace h := am_q1_ok h
    obtain ⟨a, r, rfl, h⟩ := h
    refine lv_lshl (v := Int64.ofInt (y_shl a b)) hx hb hd (o64 _) ?_
    exact hrec _ _ _ _ _ _ h hu _ _ _ hl hP hS
  case lshr =>
    unfold am_ins at h
    dsimp only at h
    have hk : k0 = 1 := by have := am_bq hi; omega
    subst hk
    replace h := am_p1_ok h
    obtain ⟨b, r, rfl, h⟩ := h
    replace h := am_q1_ok h
    obtain ⟨a, r, rfl, h⟩ := h
    refine lv_lshr (v := Int64.ofInt (y_shr a b)) hx hb hd (o64 _) ?_
    exact hrec _ _ _ _ _ _ h hu _ _ _ hl hP hS
  case lushr =>
    unfold am_ins at h
    dsimp only at h
    have hk : k0 = 1 := by have := am_bq hi; omega
    subst hk
    replace h := am_p1_ok h
    obtain ⟨b, r, rfl, h⟩ := h
    replace h := am_q1_ok h
    obtain ⟨a, r, rfl, h⟩ := h
    refine lv_lushr (v := Int64.ofInt (y_ushr a b)) hx hb hd (o64 _) ?_
    exact hrec _ _ _ _ _ _ h hu _ _ _ hl hP hS
  case lcmp =>
    have hk : k0 = 1 := by have := am_bq hi; omega
    subst hk
    replace h := am_q2_ok h
    obtain ⟨a, b, r, rfl, h⟩ := h
    refine W.lcmp hx hb hd ?_
    rw [o_cmp]
    exact hrec _ _ _ _ _ _ h hu _ _ _ hl hP hS
  case i2l =>
    have hk : k0 = 1 := by have := am_bq hi; omega
    subst hk
    replace h := am_p1_ok h
    obtain ⟨a, r, rfl, h⟩ := h
    refine lv_i2l hx hb hd (o_i2l a) ?_
    exact hrec _ _ _ _ _ _ h hu _ _ _ hl hP hS
  case l2i =>
    have hk : k0 = 1 := by have := am_bq hi; omega
    subst hk
    replace h := am_q1_ok h
    obtain ⟨a, r, rfl, h⟩ := h
    refine lv_l2i hx hb hd (o_l2i a) ?_
    exact hrec _ _ _ _ _ _ h hu _ _ _ hl hP hS
  case i2b =>
    have hk : k0 = 1 := by have := am_bq hi; omega
    subst hk
    replace h := am_p1_ok h
    obtain ⟨a, r, rfl, h⟩ := h
    refine lv_i2b (v := Int32.ofInt (x_i2b a)) hx hb hd (o32 _) ?_
    exact hrec _ _ _ _ _ _ h hu _ _ _ hl hP hS
  case i2c =>
    have hk : k0 = 1 := by have := am_bq hi; omega
    subst hk
    replace h := am_p1_ok h
    obtain ⟨a, r, rfl, h⟩ := h
    refine lv_i2c (v := Int32.ofInt (x_i2c a)) hx hb hd (o32 _) ?_
    exact hrec _ _ _ _ _ _ h hu _ _ _ hl hP hS
  case pop =>
    have hk : k0 = 1 := by have := am_bq hi; omega
    subst hk
    unfold am_ins at h
    dsimp only at h
    split at h
    · refine lv_pop hx hb hd rfl ?_
      exact hrec _ _ _ _ _ _ h hu _ _ _ hl hP hS
    · exact h.elim
  case dup =>
    have hk : k0 = 1 := by have := am_bq hi; omega
    subst hk
    unfold am_ins at h
    dsimp only at h
    split at h
    · refine lv_dup hx hb hd rfl ?_
      exact hrec _ _ _ _ _ _ h hu _ _ _ hl hP hS
    · refine lv_dup hx hb hd rfl ?_
      exact hrec _ _ _ _ _ _ h hu _ _ _ hl hP hS
    · exact h.elim
  case dup2 =>
    have hk : k0 = 1 := by have := am_bq hi; omega
    subst hk
    unfold am_ins at h
    dsimp only at h
    split at h
    · refine lv_dup2_11 hx hb hd rfl rfl ?_
      exact hrec _ _ _ _ _ _ h hu _ _ _ hl hP hS
    · refine lv_dup2_11 hx hb hd rfl rfl ?_
      exact hrec _ _ _ _ _ _ h hu _ _ _ hl hP hS
    · refine lv_dup2_2 hx hb hd rfl ?_
      exact hrec _ _ _ _ _ _ h hu _ _ _ hl hP hS
    · exact h.elim
  case goto =>
    have hi2 := (Bool.and_eq_true _ _).mp hi
    have hk : k0 = 3 := by have := am_bq hi2.1; omega
    subst hk
    replace h := am_tgt_ok h
    obtain ⟨t, rfl, h⟩ := h
    refine lv_goto (tgt := t) hx hb hd (of_decide_eq_true hi2.2) ?_
    exact hrec _ _ _ _ _ _ h hu _ _ _ hl hP hS
  case if_icmp =>
    rename_i cd off
    have hi2 := (Bool.and_eq_true _ _).mp hi
    have hk : k0 = 3 := by have := am_bq hi2.1; omega
    subst hk
    replace h := am_p2_ok h
    obtain ⟨a, b, r, rfl, h⟩ := h
    replace h := am_tgt_ok h
    obtain ⟨t, rfl, h⟩ := h
    have ht := of_decide_eq_true hi2.2
    cases cd
    case eq =>
      refine lv_icmp_eq (tgt := t) hx hb hd ht (fun q => ?_) (fun q => ?_)
      · exact hrec _ _ _ _ _ _ (h.1 ((w32_inj a b).mp q)) hu _ _ _ hl hP hS
      · exact hrec _ _ _ _ _ _ (h.2 (fun z => q ((w32_inj a b).mpr z))) hu _ _ _ hl hP hS
    case ne =>
      refine lv_icmp_ne (tgt := t) hx hb hd ht (fun q => ?_) (fun q => ?_)
      · exact hrec _ _ _ _ _ _ (h.2 (fun z => q ((w32_inj a b).mpr z))) hu _ _ _ hl hP hS
      · exact hrec _ _ _ _ _ _ (h.1 ((w32_inj a b).mp q)) hu _ _ _ hl hP hS
    case lt =>
      refine lv_icmp_lt (tgt := t) hx hb hd ht (fun q => ?_) (fun q => ?_)
      · exact hrec _ _ _ _ _ _ (h.1 ((w32_lt a b).mp q)) hu _ _ _ hl hP hS
      · exact hrec _ _ _ _ _ _ (h.2 (fun z => q ((w32_lt a b).mpr z))) hu _ _ _ hl hP hS
    case ge =>
      refine lv_icmp_ge (tgt := t) hx hb hd ht (fun q => ?_) (fun q => ?_)
      · exact hrec _ _ _ _ _ _ (h.2 ((w32_le b a).mp q)) hu _ _ _ hl hP hS
      · exact hrec _ _ _ _ _ _ (h.1 (Classical.byContradiction fun z => q ((w32_le b a).mpr z))) hu _ _ _ hl hP hS
    case gt =>
      refine lv_icmp_gt (tgt := t) hx hb hd ht (fun q => ?_) (fun q => ?_)
      · exact hrec _ _ _ _ _ _ (h.1 ((w32_lt b a).mp q)) hu _ _ _ hl hP hS
      · exact hrec _ _ _ _ _ _ (h.2 (fun z => q ((w32_lt b a).mpr z))) hu _ _ _ hl hP hS
    case le =>
      refine lv_icmp_le (tgt := t) hx hb hd ht (fun q => ?_) (fun q => ?_)
      · exact hrec _ _ _ _ _ _ (h.2 ((w32_le a b).mp q)) hu _ _ _ hl hP hS
      · exact hrec _ _ _ _ _ _ (h.1 (Classical.byContradiction fun z => q ((w32_le a b).mpr z))) hu _ _ _ hl hP hS
  case ifCond =>
    rename_i cd off
    have hi2 := (Bool.and_eq_true _ _).mp hi
    have hk : k0 = 3 := by have := am_bq hi2.1; omega
    subst hk
    replace h := am_p1_ok h
    obtain ⟨a, r, rfl, h⟩ := h
    replace h := am_tgt_ok h
    obtain ⟨t, rfl, h⟩ := h
    have ht := of_decide_eq_true hi2.2
    cases cd
    case eq =>
      refine lv_if_eq (tgt := t) hx hb hd ht (fun q => ?_) (fun q => ?_)
      · exact hrec _ _ _ _ _ _ (h.1 ((w32_inj a 0).mp q)) hu _ _ _ hl hP hS
      · exact hrec _ _ _ _ _ _ (h.2 (fun z => q ((w32_inj a 0).mpr z))) hu _ _ _ hl hP hS
    case ne =>
      refine lv_if_ne (tgt := t) hx hb hd ht (fun q => ?_) (fun q => ?_)
      · exact hrec _ _ _ _ _ _ (h.2 (fun z => q ((w32_inj a 0).mpr z))) hu _ _ _ hl hP hS
      · exact hrec _ _ _ _ _ _ (h.1 ((w32_inj a 0).mp q)) hu _ _ _ hl hP hS
    case lt =>
      refine lv_if_lt (tgt := t) hx hb hd ht (fun q => ?_) (fun q => ?_)
      · exact hrec _ _ _ _ _ _ (h.1 ((w32_lt a 0).mp q)) hu _ _ _ hl hP hS
      · exact hrec _ _ _ _ _ _ (h.2 (fun z => q ((w32_lt a 0).mpr z))) hu _ _ _ hl hP hS
    case ge =>
      refine lv_if_ge (tgt := t) hx hb hd ht (fun q => ?_) (fun q => ?_)
      · exact hrec _ _ _ _ _ _ (h.2 ((w32_le 0 a).mp q)) hu _ _ _ hl hP hS
      · exact hrec _ _ _ _ _ _ (h.1 (Classical.byContradiction fun z => q ((w32_le 0 a).mpr z))) hu _ _ _ hl hP hS
    case gt =>
      refine lv_if_gt (tgt := t) hx hb hd ht (fun q => ?_) (fun q => ?_)
      · exact hrec _ _ _ _ _ _ (h.1 ((w32_lt 0 a).mp q)) hu _ _ _ hl hP hS
      · exact hrec _ _ _ _ _ _ (h.2 (fun z => q ((w32_lt 0 a).mpr z))) hu _ _ _ hl hP hS
    case le =>
      refine lv_if_le (tgt := t) hx hb hd ht (fun q => ?_) (fun q => ?_)
      · exact hrec _ _ _ _ _ _ (h.2 ((w32_le a 0).mp q)) hu _ _ _ hl hP hS
      · exact hrec _ _ _ _ _ _ (h.1 (Classical.byContradiction fun z => q ((w32_le a 0).mpr z))) hu _ _ _ hl hP hS
  case tableswitch =>
    unfold am_ins at h
    dsimp only at h
    rename_i dflt lo hi9 offs
    replace h := am_p1_ok h
    obtain ⟨a, r, rfl, h⟩ := h
    cases ts
    case nil => exact h.elim
    case cons d ll =>
      unfold am_iok at hi
      simp only [Bool.and_eq_true, decide_eq_true_eq] at hi
      obtain ⟨⟨⟨⟨i1, i2⟩, i3⟩, i4⟩, i5⟩ := hi
      by_cases hin : w32 a < lo ∨ hi9 < w32 a
      · refine lv_tableOut (tgt := d) hx hb hd hin i1 ?_
        exact hrec _ _ _ _ _ _ (h.2 hin) hu _ _ _ hl hP hS
      · have h1 : ¬ w32 a < lo := fun q => hin (Or.inl q)
        have h2 : ¬ hi9 < w32 a := fun q => hin (Or.inr q)
        have hlt : (w32 a - lo).toNat < offs.size := by omega
        obtain ⟨t, t1, t2⟩ := am_swok_ok _ _ i2 (w32 a - lo).toNat offs[(w32 a - lo).toNat] (by rw [Array.getElem?_toList, Array.getElem?_eq_getElem hlt])
        refine lv_tableIn (tgt := t) (off := offs[(w32 a - lo).toNat]) hx hb hd h1 h2 (Array.getElem?_eq_getElem hlt) t2 ?_
        exact hrec _ _ _ _ _ _ (am_sw_ok _ _ h.1 _ _ t1 (by omega)) hu _ _ _ hl hP hS
  case getfield =>
    have hk : k0 = 3 := by have := am_bq hi; omega
    subst hk
    replace h := am_pR_ok h
    obtain ⟨o, r, rfl, h⟩ := h
    split at h
    · rename_i ci j w hf
      replace h := am_obj_ok h
      obtain ⟨cj, fs, hlay, h⟩ := h
      replace h := am_cond_ok h
      obtain ⟨hcc, h⟩ := h
      have hcc := am_bq hcc
      subst hcc
      obtain ⟨C, T, N, ty0, f1, f2, f3, f4, f5, f6, f7⟩ := hfld _ _ _ _ hf
      have he := am_ws_get (al := al) (kC := kC) (F := F) (A := A) (am_pre hpre hlay)
      split at h
      · rename_i hj
        refine va_get (v := .int (Int32.ofInt (F o j))) hx hb hts f3 hown hK hP o he f1 j f2 (hts _ f4) (fun _ z => z) ?_ hd ?_
        · rw [List.getElem?_mapIdx, hj]; rfl
        exact hrec _ _ _ _ _ _ h hu _ _ _ hl hP hS
      · rename_i t hj
        refine va_get (v := .ref (al t)) hx hb hts f3 hown hK hP o he f1 j f2 (hts _ f4) (fun _ z => z) ?_ hd ?_
        · rw [List.getElem?_mapIdx, hj]; rfl
        exact hrec _ _ _ _ _ _ h hu _ _ _ hl hP hS
      · exact h.elim
    · exact h.elim
  case putfield =>
    unfold am_ins at h
    dsimp only at h
    have hk : k0 = 3 := by have := am_bq hi; omega
    subst hk
    replace h := am_p1_ok h
    obtain ⟨v, r, rfl, h⟩ := h
    replace h := am_pR_ok h
    obtain ⟨o, r, rfl, h⟩ := h
    split at h
    · rename_i ci j hf
      replace h := am_obj_ok h
      obtain ⟨cj, fs, hlay, h⟩ := h
      replace h := am_cond_ok h
      obtain ⟨hcc, h⟩ := h
      have hcc := am_bq hcc
      subst hcc
      obtain ⟨C, T, N, ty0, f1, f2, f3, f4, f5, f6, f7⟩ := hfld _ _ _ _ hf
      have he := am_ws_get (al := al) (kC := kC) (F := F) (A := A) (am_pre hpre hlay)
      split at h
      · rename_i hj
        refine va_put (v := .int (Int32.ofInt v)) (ty := .int) hx hb hts f3 ty0 f5 f6 hown hK hP hD hS o he f1 j f2 (hts _ f4) (fun _ z => z) (f7 rfl).1 (f7 rfl).2 rfl rfl ?_ hd (fun H1 locs1 hP1 hD1 hS1 => ?_)
        · rw [List.length_mapIdx]; exact (List.getElem?_eq_some_iff.mp hj).1
        · rw [am_ws_set (F' := upF F o j v) (A' := A) (am_pre hpre hlay) ?_ am_wc_F] at hP1
          · exact hrec _ _ _ _ _ _ h hu _ _ _ hl hP1 hS1
          · exact am_put_eq hj
      · exact h.elim
    · exact h.elim
  case arraylength =>
    have hk : k0 = 1 := by have := am_bq hi; omega
    subst hk
    unfold am_ins at h
    dsimp only at h
    replace h := am_pR_ok h
    obtain ⟨o, r, rfl, h⟩ := h
    unfold am_len at h
    split at h
    · rename_i kd n hlay
      have he := am_ws_get (al := al) (kC := kC) (F := F) (A := A) (am_pre hpre hlay)
      obtain ⟨hk3, hn⟩ := am_lok_ok hlok hlay
      match kd, hk3, he with
      | 0, _, he => exact va_alen (v := Int32.ofInt n) hx hb hK hP o 0 he rfl (am_ofN hn) hd (hrec _ _ _ _ _ _ h hu _ _ _ hl hP hS)
      | 1, _, he => exact va_alen (v := Int32.ofInt n) hx hb hK hP o 1 he rfl (am_ofN hn) hd (hrec _ _ _ _ _ _ h hu _ _ _ hl hP hS)
      | 2, _, he => exact va_alen (v := Int32.ofInt n) hx hb hK hP o 2 he rfl (am_ofN hn) hd (hrec _ _ _ _ _ _ h hu _ _ _ hl hP hS)
    · exact h.elim
    · split at h
      · rename_i L xs hsc
        replace h := am_cond_ok h
        obtain ⟨h9, h⟩ := h
        have h9 := am_bq h9
        subst h9
        obtain ⟨Ln, xn, rfl, hLs, hxs, hX, hbl, hbA⟩ := hscr _ _ hsc
        refine va_slen hx hb hX hbl hbA hS hd ?_
        rw [show Int32.ofNat Ln = Int32.ofInt (Ln : Int) from am_ofN (n := (Ln : Int)) (by omega)]
        exact hrec _ _ _ _ _ _ h hu _ _ _ hl hP hS
      · exact h.elim
  case iaload =>
    have hk : k0 = 1 := by have := am_bq hi; omega
    subst hk
    unfold am_ins at h
    dsimp only at h
    replace h := am_p1_ok h
    obtain ⟨i, r, rfl, h⟩ := h
    replace h := am_pR_ok h
    obtain ⟨o, r, rfl, h⟩ := h
    unfold am_ldA at h
    split at h
    · rename_i n hlay
      have he := am_ws_get (al := al) (kC := kC) (F := F) (A := A) (am_pre hpre hlay)
      obtain ⟨hin, h⟩ := h
      obtain ⟨hv, hq⟩ := am_in hin
      refine va_iald hx hb hK hP o 0 he rfl hv hd ?_
      rw [hq]
      exact hrec _ _ _ _ _ _ h hu _ _ _ hl hP hS
    · exact h.elim
    · split at h
      · rename_i L xs hsc
        replace h := am_cond_ok h
        obtain ⟨h9, h⟩ := h
        have h9 := am_bq h9
        subst h9
        obtain ⟨Ln, xn, rfl, hLs, hxs, hX, hbl, hbA⟩ := hscr _ _ hsc
        obtain ⟨hin, h⟩ := h
        obtain ⟨hv, hq⟩ := am_in hin
        refine va_sld hx hb hX hbl hbA hS (by simpa using hv) hd ?_
        have e9 : xn (Int32.ofInt i).toNatClampNeg = Int32.ofInt (xs (w32 i)) := by rw [← hq, hxs]; exact o32 _
        rw [e9]
        exact hrec _ _ _ _ _ _ h hu _ _ _ hl hP hS
      · exact h.elim
  case baload =>
    have hk : k0 = 1 := by have := am_bq hi; omega
    subst hk
    unfold am_ins at h
    dsimp only at h
    replace h := am_p1_ok h
    obtain ⟨i, r, rfl, h⟩ := h
    replace h := am_pR_ok h
    obtain ⟨o, r, rfl, h⟩ := h
    unfold am_ldB at h
    split at h
    · rename_i n hlay
      have he := am_ws_get (al := al) (kC := kC) (F := F) (A := A) (am_pre hpre hlay)
      obtain ⟨hin, h⟩ := h
      obtain ⟨hv, hq⟩ := am_in hin
      refine va_bald hx hb hK hP o 2 he rfl hv hd ?_
      rw [hq]
      exact hrec _ _ _ _ _ _ h hu _ _ _ hl hP hS
    · rename_i n hlay
      exact absurd (am_lok_ok hlok hlay).1 (by decide)
    · exact h.elim
  case laload =>
    have hk : k0 = 1 := by have := am_bq hi; omega
    subst hk
    unfold am_ins at h
    dsimp only at h
    replace h := am_p1_ok h
    obtain ⟨i, r, rfl, h⟩ := h
    replace h := am_pR_ok h
    obtain ⟨o, r, rfl, h⟩ := h
    unfold am_ldL at h
    split at h
    · rename_i n hlay
      have he := am_ws_get (al := al) (kC := kC) (F := F) (A := A) (am_pre hpre hlay)
      obtain ⟨hin, h⟩ := h
      obtain ⟨hv, hq⟩ := am_in hin
      refine va_lald hx hb hK hP o 1 he rfl hv hd ?_
      rw [hq]
      exact hrec _ _ _ _ _ _ h hu _ _ _ hl hP hS
    · exact h.elim
  case iastore =>
    have hk : k0 = 1 := by have := am_bq hi; omega
    subst hk
    unfold am_ins at h
    dsimp only at h
    replace h := am_p1_ok h
    obtain ⟨v, r, rfl, h⟩ := h
    replace h := am_p1_ok h
    obtain ⟨i, r, rfl, h⟩ := h
    replace h := am_pR_ok h
    obtain ⟨o, r, rfl, h⟩ := h
    unfold am_stk at h
    replace h := am_arr_ok h
    obtain ⟨kd, n, hlay, h⟩ := h
    replace h := am_cond_ok h
    obtain ⟨hkd, hin, h⟩ := h
    have hkd := am_bq hkd
    subst hkd
    have he := am_ws_get (al := al) (kC := kC) (F := F) (A := A) (am_pre hpre hlay)
    obtain ⟨hv, hq⟩ := am_in hin
    refine va_iast hx hb hK hP hD hS o 0 he rfl hv hd (fun H1 locs1 hP1 hD1 hS1 => ?_)
    rw [am_updI hq, am_ws_set (F' := F) (A' := upA A o (w32 i) v) (am_pre hpre hlay) (by rfl) am_wc_A] at hP1
    exact hrec _ _ _ _ _ _ h hu _ _ _ hl hP1 hS1
  case lastore =>
    have hk : k0 = 1 := by have := am_bq hi; omega
    subst hk
    unfold am_ins at h
    dsimp only at h
    replace h := am_q1_ok h
    obtain ⟨v, r, rfl, h⟩ := h
    replace h := am_p1_ok h
    obtain ⟨i, r, rfl, h⟩ := h
    replace h := am_pR_ok h
    obtain ⟨o, r, rfl, h⟩ := h
    unfold am_stk at h
    replace h := am_arr_ok h
    obtain ⟨kd, n, hlay, h⟩ := h
    replace h := am_cond_ok h
    obtain ⟨hkd, hin, h⟩ := h
    have hkd := am_bq hkd
    subst hkd
    have he := am_ws_get (al := al) (kC := kC) (F := F) (A := A) (am_pre hpre hlay)
    obtain ⟨hv, hq⟩ := am_in hin
    refine va_last hx hb hK hP hD hS o 1 he rfl hv hd (fun H1 locs1 hP1 hD1 hS1 => ?_)
    rw [am_updL hq, am_ws_set (F' := F) (A' := upA A o (w32 i) v) (am_pre hpre hlay) (by rfl) am_wc_A] at hP1
    exact hrec _ _ _ _ _ _ h hu _ _ _ hl hP1 hS1
  case bastore =>
    have hk : k0 = 1 := by have := am_bq hi; omega
    subst hk
    unfold am_ins at h
    dsimp only at h
    replace h := am_p1_ok h
    obtain ⟨v, r, rfl, h⟩ := h
    replace h := am_p1_ok h
    obtain ⟨i, r, rfl, h⟩ := h
    replace h := am_pR_ok h
    obtain ⟨o, r, rfl, h⟩ := h
    unfold am_stB at h
    split at h
    · rename_i n hlay
      obtain ⟨hin, h⟩ := h
      have he := am_ws_get (al := al) (kC := kC) (F := F) (A := A) (am_pre hpre hlay)
      obtain ⟨hv, hq⟩ := am_in hin
      refine va_bast hx hb hK hP hD hS o 2 he rfl hv hd (fun H1 locs1 hP1 hD1 hS1 => ?_)
      rw [o32 (vp_nar .byte (Int32.ofInt v)), am_updI hq, am_ws_set (F' := F) (A' := upA A o (w32 i) (x_bb v)) (am_pre hpre hlay) (by rfl) am_wc_A] at hP1
      exact hrec _ _ _ _ _ _ h hu _ _ _ hl hP1 hS1
    · rename_i n hlay
      exact absurd (am_lok_ok hlok hlay).1 (by decide)
    · exact h.elim
  case invokevirtual =>
    have hk : k0 = 3 := by have := am_bq hi; omega
    subst hk
    unfold am_ins at h
    dsimp only at h
    split at h
    · rename_i k e1 hk1
      split at h
      · rename_i ci hci
        exact hcal _ pc _ _ _ hk1 hd (Or.inl rfl) ⟨fun q => (by cases q), fun q => (by rw [q] at hci; cases hci)⟩ _ _ _ _ _ h hu _ _ _ hl hP hS
      · exact h.elim
    · unfold am_spc at h
      split at h
      · rename_i b hb2
        exact hspc _ _ hb2 _ _ _ _ _ h hu _ _ _ hl hP hS
      · exact h.elim
  case invokestatic =>
    have hk : k0 = 3 := by have := am_bq hi; omega
    subst hk
    unfold am_ins at h
    dsimp only at h
    unfold am_mth at h
    rename_i k
    have hm := hmth k
    have hsz : c.maxLocals = lsC.size := by rw [hml, hl.2.1]
    split at h
    · rename_i hk1
      obtain ⟨m1, m2, m3, m4⟩ := hm.1 hk1
      obtain ⟨r1, r2⟩ := hm.2.2.2.2 (by rw [hk1]; decide)
      replace h := am_p2_ok h
      obtain ⟨a, b, r, rfl, h⟩ := h
      replace h := am_cond_ok h
      obtain ⟨h8, h⟩ := h
      have h8 := Nat.le_of_ble_eq_true h8
      refine va_mmin hx hb hsz hown (hts _ m1) (hts _ m2) (hts _ m3) (hts _ m4) r1 (by rw [am_sum_eq]; omega) (by omega) (by omega) hd ?_
      rw [o_min]
      exact hrec _ _ _ _ _ _ h hu _ _ _ hl hP hS
    · rename_i hk1
      obtain ⟨m1, m2, m3, m4⟩ := hm.2.1 hk1
      obtain ⟨r1, r2⟩ := hm.2.2.2.2 (by rw [hk1]; decide)
      replace h := am_p2_ok h
      obtain ⟨a, b, r, rfl, h⟩ := h
      replace h := am_cond_ok h
      obtain ⟨h8, h⟩ := h
      have h8 := Nat.le_of_ble_eq_true h8
      refine va_mmax hx hb hsz hown (hts _ m1) (hts _ m2) (hts _ m3) (hts _ m4) r1 (by rw [am_sum_eq]; omega) (by omega) (by omega) hd ?_
      rw [o_max]
      exact hrec _ _ _ _ _ _ h hu _ _ _ hl hP hS
    · rename_i hk1
      obtain ⟨m1, m2, m3, m4⟩ := hm.2.2.1 hk1
      obtain ⟨r1, r2⟩ := hm.2.2.2.2 (by rw [hk1]; decide)
      replace h := am_p1_ok h
      obtain ⟨a, r, rfl, h⟩ := h
      replace h := am_cond_ok h
      obtain ⟨h8, h⟩ := h
      have h8 := Nat.le_of_ble_eq_true h8
      refine va_mabs hx hb hsz hown (hts _ m1) (hts _ m2) (hts _ m3) (hts _ m4) r1 (by rw [am_sum_eq]; omega) (by omega) (by omega) hd ?_
      rw [o_abs]
      exact hrec _ _ _ _ _ _ h hu _ _ _ hl hP hS
    · rename_i hk1
      obtain ⟨m1, m2, m3, m4⟩ := hm.2.2.2.1 hk1
      obtain ⟨r1, r2⟩ := hm.2.2.2.2 (by rw [hk1]; decide)
      replace h := am_p2_ok h
      obtain ⟨dp, n, r, rfl, h⟩ := h
      replace h := am_pR_ok h
      obtain ⟨a, r, rfl, h⟩ := h
      replace h := am_p1_ok h
      obtain ⟨sp, r, rfl, h⟩ := h
      replace h := am_pR_ok h
      obtain ⟨a0, r, rfl, h⟩ := h
      replace h := am_arr_ok h
      obtain ⟨kd, mm, hla, h⟩ := h
      replace h := am_arr_ok h
      obtain ⟨kd0, mm0, hla0, h⟩ := h
      replace h := am_cond_ok h
      obtain ⟨h8, ⟨c1, c2, c3, c4, c5⟩, h⟩ := h
      simp only [Bool.and_eq_true] at h8
      obtain ⟨k1, k2, k3⟩ := h8
      have k1 := am_bq k1
      have k2 := am_bq k2
      have k3 := Nat.le_of_ble_eq_true k3
      subst k1
      subst k2
      have he := am_ws_get (al := al) (kC := kC) (F := F) (A := A) (am_pre hpre hla)
      have he0 := am_ws_get (al := al) (kC := kC) (F := F) (A := A) (am_pre hpre hla0)
      have z0 : ∀ y : Int, 0 ≤ w32 y → ¬ Int32.ofInt y < 0 := fun y q z => by rw [o_zero, w32_lt, w32_0] at z; omega
      have zc : ∀ y : Int, 0 ≤ w32 y → (((Int32.ofInt y).toNatClampNeg : Nat) : Int) = w32 y := fun y q => by have e : (Int32.ofInt y).toNatClampNeg = (w32 y).toNat := rfl; rw [e]; omega
      have e1 := zc sp c2
      have e2 := zc dp c4
      have e3 := zc n c1
      refine va_copyi hx hb hsz hown (hts _ m1) (hts _ m2) (hts _ m3) (hts _ m4) hK hP hD hS a0 a 0 0 he0 he rfl rfl rfl (z0 _ c2) (z0 _ c4) (z0 _ c1) (by omega) (by omega) (fun _ _ => rfl) r1 (by rw [am_sum_eq]; have := am_nf; omega) hd (fun H1 locs1 hP1 hD1 hS1 => ?_)
      rw [am_cpy e1 e2 e3, am_ws_set (F' := F) (A' := cpA A a0 (w32 sp) 0 (w32 dp) (w32 n) a) (am_pre hpre hla) (by rfl) am_wc_C] at hP1
      exact hrec _ _ _ _ _ _ h hu _ _ _ hl hP1 hS1
    · split at h
      · rename_i e1 hk1
        split at h
        · rename_i hci
          exact hcal _ pc _ _ _ hk1 hd (Or.inr rfl) ⟨fun _ => hci, fun _ => rfl⟩ _ _ _ _ _ h hu _ _ _ hl hP hS
        · exact h.elim
      · exact h.elim
  case ireturn =>
    have hk : k0 = 1 := by have := am_bq hi; omega
    subst hk
    unfold am_ins at h
    dsimp only at h
    replace h := am_p1_ok h
    obtain ⟨a, r, rfl, h⟩ := h
    split at h
    · unfold am_ret at h
      split at h
      · rename_i hr
        exact hret _ (some (vI a)) _ _ _ _ _ ⟨rfl, Or.inl hr⟩ hd h hu _ _ _ hl hP hS
      · rename_i hr
        exact hret _ (some (vI a)) _ _ _ _ _ ⟨rfl, Or.inr ⟨hr, h.1⟩⟩ hd h.2 hu _ _ _ hl hP hS
      · exact h.elim
    · exact h.elim
  case lreturn =>
    have hk : k0 = 1 := by have := am_bq hi; omega
    subst hk
    unfold am_ins at h
    dsimp only at h
    replace h := am_q1_ok h
    obtain ⟨a, r, rfl, h⟩ := h
    split at h
    · replace h := am_cond_ok h
      obtain ⟨h1, h⟩ := h
      have hr : cxRet x = some .long := by
        unfold am_isL at h1
        split at h1
        · assumption
        · cases h1
      exact hret _ (some (vL a)) _ _ _ _ _ ⟨rfl, hr⟩ hd h hu _ _ _ hl hP hS
    · exact h.elim
  case return_ =>
    have hk : k0 = 1 := by have := am_bq hi; omega
    subst hk
    unfold am_ins at h
    dsimp only at h
    split at h
    · rename_i hr
      exact hret _ none _ _ _ _ _ ⟨rfl, hr⟩ hd h hu _ _ _ hl hP hS
    · exact h.elim
  all_goals exact h.elim
end AMO
