/-! what a callee may read and nobody writes: strings, builders, statics; worlds as written lists; calls of a builder's inherited methods -/
abbrev RoP : Type := (Nat → Prop) → State → Heap → Prop
/-- such a fact stays when other classes warm, when other cells change, and for fewer cells -/
def Stb (E : RoP) : Prop := (∀ B (u U : State) H, u.WarmedH U.vm → E B u H → E B U H) ∧ (∀ B (u U : State) H, U.vm = u.vm → E B u H → E B U H) ∧ (∀ B U (H H1 : Heap), E B U H → (∀ a : Nat, a < H.size → ¬ B a → H1[a]? = H[a]?) → E B U H1) ∧ (∀ (B C : Nat → Prop) U H, E B U H → (∀ q, C q → B q) → E C U H)
theorem Stb_and {E F : RoP} (h : Stb E) (g : Stb F) : Stb (fun B U H => E B U H ∧ F B U H) := ⟨fun B u U H w q => ⟨h.1 B u U H w q.1, g.1 B u U H w q.2⟩, fun B u U H w q => ⟨h.2.1 B u U H w q.1, g.2.1 B u U H w q.2⟩, fun B U H H1 q k => ⟨h.2.2.1 B U H H1 q.1 k, g.2.2.1 B U H H1 q.2 k⟩, fun B C U H q k => ⟨h.2.2.2 B C U H q.1 k, g.2.2.2 B C U H q.2 k⟩⟩
theorem Stb_ex {α : Type} {E : α → RoP} (h : ∀ a, Stb (E a)) : Stb (fun B U H => ∃ a, E a B U H) := ⟨fun B u U H w ⟨a, q⟩ => ⟨a, (h a).1 B u U H w q⟩, fun B u U H w ⟨a, q⟩ => ⟨a, (h a).2.1 B u U H w q⟩, fun B U H H1 ⟨a, q⟩ k => ⟨a, (h a).2.2.1 B U H H1 q k⟩, fun B C U H ⟨a, q⟩ k => ⟨a, (h a).2.2.2 B C U H q k⟩⟩
theorem Stb_P (P : Prop) : Stb (fun _ _ _ => P) := ⟨fun _ _ _ _ _ q => q, fun _ _ _ _ _ q => q, fun _ _ _ _ q _ => q, fun _ _ _ _ q _ => q⟩
theorem Stb_Z (C n d : String) (v : Value) : Stb (va_Z C n d v) := ⟨fun _ _ _ _ w q => q.moved w.alike, fun _ u U _ w q => q.moved (by rw [w]; exact Vm.Alike.refl _), fun _ _ _ _ q k => q.kept k, fun _ _ _ _ q k => q.narrow k⟩
theorem Stb_Zq (C n d : String) : Stb (va_Zq C n d) := ⟨fun _ _ _ _ w q => q.imp (fun z => z.moved w.alike) (fun ⟨t, z⟩ => ⟨t, z.moved w.alike⟩), fun _ u U _ w q => q.imp (fun z => z.moved (by rw [w]; exact Vm.Alike.refl _)) (fun ⟨t, z⟩ => ⟨t, z.moved (by rw [w]; exact Vm.Alike.refl _)⟩), fun _ _ _ _ q k => q.imp (fun z => z.kept k) (fun ⟨t, z⟩ => ⟨t, z.kept k⟩), fun _ _ _ _ q k => q.imp (fun z => z.narrow k) (fun ⟨t, z⟩ => ⟨t, z.narrow k⟩)⟩
theorem Stb_T (ty : FieldType) (t N : Nat) (f : Nat → Value) : Stb (va_T ty t N f) := ⟨fun _ _ _ _ w q => q.moved w.alike, fun _ u U _ w q => q.moved (by rw [w]; exact Vm.Alike.refl _), fun _ _ _ _ q k => q.kept k, fun _ _ _ _ q k => q.narrow k⟩
theorem Stb_O (C : String) (t : Nat) : Stb (va_O C t) := ⟨fun _ _ _ _ w q => q.moved w.alike, fun _ u U _ w q => q.moved (by rw [w]; exact Vm.Alike.refl _), fun _ _ _ _ q k => q.kept k, fun _ _ _ _ q k => q.narrow k⟩
theorem Stb_OF (o n d : String) (v : Value) (t : Nat) : Stb (va_OF o n d v t) := ⟨fun _ _ _ _ w q => q.moved w.alike, fun _ u U _ w q => q.moved (by rw [w]; exact Vm.Alike.refl _), fun _ _ _ _ q k => q.kept k, fun _ _ _ _ q k => q.narrow k⟩
theorem Stb_R (own : String) (k : Nat) (tx : String) (a : Nat) : Stb (fun _ U _ => vk_R own k tx a U) := ⟨fun _ _ _ _ w q => q.warm w, fun _ _ _ _ w q => q.same w, fun _ _ _ _ q _ => q, fun _ _ _ _ q _ => q⟩
/-- a string of n signs t, out of reach -/
def js_S (a b n : Nat) (t : Nat → Nat) : RoP := fun B U H => va_O "java/lang/String" a B U H ∧ va_OF "java/lang/String" "coder" "B" (.int 0) a B U H ∧ va_OF "java/lang/String" "value" "[B" (.ref b) a B U H ∧ ∃ f : Nat → Int32, va_T .byte b n (fun j => .int (f j)) B U H ∧ (sb_Lat t n f ∧ sb_Fit f)
theorem Stb_S (a b n : Nat) (t : Nat → Nat) : Stb (js_S a b n t) := Stb_and (Stb_O _ _) (Stb_and (Stb_OF _ _ _ _ _) (Stb_and (Stb_OF _ _ _ _ _) (Stb_ex fun f => Stb_and (Stb_T _ _ _ _) (Stb_P _))))
/-- the statics that the JDK's string methods read -/
def js_G : RoP := fun B U H => va_Z "java/lang/String" "COMPACT_STRINGS" "Z" (.int 1) B U H ∧ va_Zq "jdk/internal/util/Preconditions" "SIOOBE_FORMATTER" "Ljava/util/function/BiFunction;" B U H ∧ (∃ t, va_Z "java/lang/Integer" "DigitOnes" "[B" (.ref t) B U H ∧ va_T .byte t 100 (fun j => .int (nI (48 + j % 10))) B U H) ∧ ∃ t, va_Z "java/lang/Integer" "DigitTens" "[B" (.ref t) B U H ∧ va_T .byte t 100 (fun j => .int (nI (48 + j / 10))) B U H
theorem Stb_G : Stb js_G := Stb_and (Stb_Z _ _ _ _) (Stb_and (Stb_Zq _ _ _) (Stb_and (Stb_ex fun t => Stb_and (Stb_Z _ _ _ _) (Stb_T _ _ _ _)) (Stb_ex fun t => Stb_and (Stb_Z _ _ _ _) (Stb_T _ _ _ _))))
/-- a row of bytes, cell for cell, out of reach -/
def ro_A (kC : Nat → ClassId) (b m : Nat) (g : Nat → Int32) : RoP := fun B _ H => H[b]? = some (vp_cell (kC 2) (m, .inl g)) ∧ ¬ B b
theorem Stb_A (kC : Nat → ClassId) (b m : Nat) (g : Nat → Int32) : Stb (ro_A kC b m g) := ⟨fun _ _ _ _ _ q => q, fun _ _ _ _ _ q => q, fun _ _ H H1 q k => ⟨by rw [k b (Array.getElem?_eq_some_iff.mp q.1).1 q.2]; exact q.1, q.2⟩, fun _ _ _ _ q k => ⟨q.1, fun z => q.2 (k b z)⟩⟩
/-- a builder of n signs in m bytes g, out of reach -/
def js_B (kC : Nat → ClassId) (q b m n : Nat) (g : Nat → Int32) : RoP := fun B U H => va_O "java/lang/StringBuilder" q B U H ∧ va_OF "java/lang/AbstractStringBuilder" "value" "[B" (.ref b) q B U H ∧ va_OF "java/lang/AbstractStringBuilder" "coder" "B" (.int 0) q B U H ∧ va_OF "java/lang/AbstractStringBuilder" "count" "I" (.int (nI n)) q B U H ∧ ro_A kC b m g B U H
theorem Stb_B (kC : Nat → ClassId) (q b m n : Nat) (g : Nat → Int32) : Stb (js_B kC q b m n g) := Stb_and (Stb_O _ _) (Stb_and (Stb_OF _ _ _ _ _) (Stb_and (Stb_OF _ _ _ _ _) (Stb_and (Stb_OF _ _ _ _ _) (Stb_A _ _ _ _))))
theorem ro_AT {kC : Nat → ClassId} {b m : Nat} {g : Nat → Int32} {B : Nat → Prop} {U s : State} {H : Heap} {D : va_G} {cl : List vw_C} (hK : va_K D cl (am_tys kC) s) (h : ro_A kC b m g B U H) : va_T .byte b m (fun j => .int (g j)) B s H :=
  ⟨_, h.1, (hK.2 2 (kC 2, .byte) rfl).1 m (fun j => .int (g j)), fun q => (by cases q), (by show m ≤ (arrV _ _ _).slots.size; rw [arrV_size]; exact Nat.le_refl _), (by show (arrV _ _ _).slots.size.toInt32 = _; rw [arrV_size]), fun j hj => (by show (arrV _ _ _).slots[j]? = _; rw [arrV_read _ _ hj]), h.2⟩
/-- out of a world -/
theorem ro_W {D : va_G} {cl : List vw_C} {ws : va_W} {H : Heap} {kC : Nat → ClassId} {b m : Nat} {g : Nat → Int32} {B : Nat → Prop} {U : State} (hP : va_P D cl ws H) (i : Nat) (h : ws[i]? = some (b, .inl (kC 2, m, .inl g))) (hB : ¬ B b) : ro_A kC b m g B U H := ⟨hP i _ h, hB⟩
theorem ro_F {D : va_G} {cl : List vw_C} {tys : List (ClassId × FieldType)} {ws : va_W} {H : Heap} {s : State} {args : Array Value} {Ts : List Cond} {B : Nat → Prop} {a : Nat} {C : String} {T : u_T} {N ci : Nat} {fs : List Value} {v : Value} (hts : ∀ w ∈ Ts, w.before args s = true) (hin : ∀ w ∈ u_ws C T N, w ∈ Ts) (hK : va_K D cl tys s) (hP : va_P D cl ws H) (i : Nat) (he : ws[i]? = some (a, .inr (ci, fs))) (hc : cl[ci]? = some (C, T, N)) (k : Nat) (hk : k < N) (hv : fs[k]? = some v) (hB : ¬ B a) : va_OF (T k).1 (T k).2.1 (T k).2.2.1 v a B s H := by
  obtain ⟨r, h1, cell, q1, q2, q3, q4⟩ := hP i _ he
  have hr : r = (C, T, N) := Option.some.inj (h1.symm.trans hc)
  subst hr
  obtain ⟨hS, hfc, kC, hkC, hkind⟩ := hK.1 ci _ hc
  obtain ⟨cf, kf, fi, f, hi, hsl⟩ := hS k hk
  refine ⟨cf, kf, fi, f, cell, hi, (u_facts hfc hkC (u_lays hts hin hk) hi).1, q1, by rw [q3]; exact fun h => (by cases h), ?_, hB⟩
  rw [hsl, q4 k hk]
  simp [vp_V, hv]
theorem ro_O {D : va_G} {cl : List vw_C} {tys : List (ClassId × FieldType)} {ws : va_W} {H : Heap} {s : State} {B : Nat → Prop} {a : Nat} {q : vw_C} {ci : Nat} {fs : List Value} (hK : va_K D cl tys s) (hP : va_P D cl ws H) (i : Nat) (he : ws[i]? = some (a, .inr (ci, fs))) (hc : cl[ci]? = some q) (hB : ¬ B a) : va_O q.1 a B s H := by
  obtain ⟨cell, h1, h2, h3⟩ := va_recv hK hP hc he
  exact ⟨cell, h1, h2, h3, hB⟩
/-- a builder's two cells, a string's two cells -/
abbrev sbw (kC : Nat → ClassId) (q b m n : Nat) (z : Int32) (g : Nat → Int32) : va_W := [(q, .inr (10, [.ref b, .int 0, .int z, .int (nI n)])), (b, .inl (kC 2, m, .inl g))]
abbrev stw (kC : Nat → ClassId) (a b n : Nat) (g : Nat → Int32) : va_W := [(a, .inr (9, [.ref b, .int 0, .int 0, .int 0])), (b, .inl (kC 2, n, .inl g))]
theorem ro_B {D : va_G} {kC : Nat → ClassId} {ws : va_W} {H : Heap} {s : State} {args : Array Value} {B : Nat → Prop} {q b m n : Nat} {z : Int32} {g : Nat → Int32} (hts : ∀ w ∈ am_tb, w.before args s = true) (hK : va_K D vwCl (am_tys kC) s) (hP : va_P D vwCl ws H) (i j : Nat) (hi : ws[i]? = some (q, .inr (10, [.ref b, .int 0, .int z, .int (nI n)]))) (hj : ws[j]? = some (b, .inl (kC 2, m, .inl g))) (hq : ¬ B q) (hb : ¬ B b) : js_B kC q b m n g B s H :=
  ⟨ro_O (q := (RJ4, TJ4, 4)) hK hP i hi rfl hq, ro_F (C := RJ4) (T := TJ4) (N := 4) hts qwJ4 hK hP i hi rfl 0 (by decide) rfl hq, ro_F (C := RJ4) (T := TJ4) (N := 4) hts qwJ4 hK hP i hi rfl 1 (by decide) rfl hq, ro_F (C := RJ4) (T := TJ4) (N := 4) hts qwJ4 hK hP i hi rfl 3 (by decide) rfl hq, ro_W hP j hj hb⟩
theorem ro_S {D : va_G} {kC : Nat → ClassId} {ws : va_W} {H : Heap} {s : State} {args : Array Value} {B : Nat → Prop} {a b n : Nat} {g : Nat → Int32} {t : Nat → Nat} (hts : ∀ w ∈ am_tb, w.before args s = true) (hK : va_K D vwCl (am_tys kC) s) (hP : va_P D vwCl ws H) (i j : Nat) (hi : ws[i]? = some (a, .inr (9, [.ref b, .int 0, .int 0, .int 0]))) (hj : ws[j]? = some (b, .inl (kC 2, n, .inl g))) (hL : sb_Lat t n g) (hf : sb_Fit g) (hq : ¬ B a) (hb : ¬ B b) : js_S a b n t B s H :=
  ⟨ro_O (q := (RJ0, TJ0, 4)) hK hP i hi rfl hq, ro_F (C := RJ0) (T := TJ0) (N := 4) hts qwJ0 hK hP i hi rfl 1 (by decide) rfl hq, ro_F (C := RJ0) (T := TJ0) (N := 4) hts qwJ0 hK hP i hi rfl 0 (by decide) rfl hq, g, ro_AT (U := s) hK (ro_W hP j hj hb), hL, hf⟩
/-- a callee's start: its cells, and what it may read -/
abbrev ws_B (D : va_G) (kC : Nat → ClassId) (E : RoP) (ws : va_W) (sz : Nat) : State → Prop := fun U => U.heap.size = sz ∧ va_P D vwCl ws U.heap ∧ va_K D vwCl (am_tys kC) U ∧ va_D (fun _ => True) ws ∧ E (va_A ws sz) U U.heap
theorem ws_blind {D : va_G} {kC : Nat → ClassId} {E : RoP} {ws : va_W} {sz : Nat} {av : List Value} (h : Stb E) : FrameBlind (va_Pc av (ws_B D kC E ws sz)) := by
  intro a U g mk q
  obtain ⟨q0, q1, qP, qK, qD, qE⟩ := q
  exact ⟨q0, q1, qP, va_K.moved (u := U) (U := U.calling g mk a) (Vm.Alike.refl U.vm) qK, qD, h.2.1 _ U (U.calling g mk a) _ rfl qE⟩
/-- a fact of the start, at a call -/
theorem ws_E {E : RoP} {s U : State} {A C : Nat → Prop} {H : Heap} {locs : List Loc} (h : Stb E) (hE : E A s s.heap) (hS : va_S A s.heap H locs) (hU : U.heap = H) (hW : s.WarmedH U.vm) (hC : ∀ q, C q → A q) : E C U U.heap := by
  rw [hU]
  exact h.2.2.2 _ _ _ _ (h.1 _ _ _ _ hW (h.2.2.1 _ _ _ _ hE hS.2.1)) hC
/-- a fact of the heap as it stands, at a call -/
theorem ws_N {E : RoP} {s U : State} {C : Nat → Prop} {H : Heap} (h : Stb E) (hE : E C s H) (hU : U.heap = H) (hW : s.WarmedH U.vm) : E C U U.heap := by
  rw [hU]
  exact h.1 _ _ _ _ hW hE
theorem ws_S {D : va_G} {kC : Nat → ClassId} {E : RoP} {ws : va_W} {s : State} {H : Heap} {av : List Value} {As : Nat → Prop} (h : Stb E) (hP : va_P D vwCl ws H) (hK : va_K D vwCl (am_tys kC) s) (hD : va_D As ws) (hE : ∀ U : State, U.heap = H → s.WarmedH U.vm → E (va_A ws H.size) U U.heap) : PreS s H (va_Pc av (ws_B D kC E ws H.size)) av :=
  ⟨ws_blind h, fun U hU hW => ⟨rfl, by rw [hU], by rw [hU]; exact hP, va_K.moved hW.alike hK, hD.weaken (fun _ _ _ _ => trivial), hE U hU hW⟩⟩
theorem ws_V {D : va_G} {kC : Nat → ClassId} {E : RoP} {ws : va_W} {s : State} {H : Heap} {av : List Value} {As : Nat → Prop} {C : String} {a : Nat} (h : Stb E) (hr : ∃ cell : Cell, H[a]? = some cell ∧ cell.vm.isStatics = false ∧ s.vm.findClass C = some cell.cls) (hP : va_P D vwCl ws H) (hK : va_K D vwCl (am_tys kC) s) (hD : va_D As ws) (hE : ∀ U : State, U.heap = H → s.WarmedH U.vm → E (va_A ws H.size) U U.heap) : PreV s H C a (va_Pc (.ref a :: av) (ws_B D kC E ws H.size)) av :=
  ⟨ws_blind h, hr, fun U hU hW => ⟨rfl, by rw [hU], by rw [hU]; exact hP, va_K.moved hW.alike hK, hD.weaken (fun _ _ _ _ => trivial), hE U hU hW⟩⟩
theorem ro_rec {C : String} {a : Nat} {A : Nat → Prop} {s : State} {H : Heap} {locs : List Loc} (h : va_O C a A s s.heap) (hS : va_S A s.heap H locs) : ∃ cell : Cell, H[a]? = some cell ∧ cell.vm.isStatics = false ∧ s.vm.findClass C = some cell.cls := by
  obtain ⟨cell, h1, h2, h3, -⟩ := h.kept hS.2.1
  exact ⟨cell, h1, h2, h3⟩
theorem ws_nP {D : va_G} {cl : List vw_C} {H : Heap} : va_P D cl [] H := fun k q h => by cases h
theorem ws_nD {A : Nat → Prop} : va_D A [] := ⟨fun i j p q h => (by cases h), fun k q h => by cases h⟩
theorem ws_nA {H : Heap} {q : Nat} (h : va_A [] H.size q) : H.size ≤ q := by
  rcases h with ⟨k, e, h⟩ | h
  · cases h
  · exact h
theorem ws_kept {D : va_G} {cl : List vw_C} {ws : va_W} {H H1 : Heap} (hP : va_P D cl ws H) (hk : ∀ q : Nat, q < H.size → ¬ va_A [] H.size q → H1[q]? = H[q]?) : va_P D cl ws H1 := hP.kept (fun k x h => hk x.1 (hP k x h).lt (fun z => by have := ws_nA z; have := (hP k x h).lt; omega))
theorem ws_out {D : va_G} {cl : List vw_C} {ws wc : va_W} {A : Nat → Prop} {H : Heap} (hP : va_P D cl ws H) (hD : va_D A ws) (is : List Nat) (hs : is.map (fun i => ws[i]?) = wc.map some) {k : Nat} {x : Nat × va_E} (hk : ws[k]? = some x) (hn : k ∉ is) : ¬ va_A wc H.size x.1 := by
  rintro (⟨j, e, hj⟩ | hz)
  · have h1 : (is.map (fun i => ws[i]?))[j]? = some (some (x.1, e)) := by rw [hs, List.getElem?_map, hj]; rfl
    rw [List.getElem?_map] at h1
    cases hi : is[j]? with
    | none => rw [hi] at h1; cases h1
    | some i =>
      rw [hi] at h1
      have h2 : ws[i]? = some (x.1, e) := Option.some.inj h1
      have := hD.1 k i _ _ hk h2 rfl
      subst this
      exact hn (List.mem_of_getElem? hi)
  · have := (hP k x hk).lt
    omega
abbrev jr (lv mc ms : Nat) : Room := { frames := lv, cells := mc, slots := ms, locals := 48 * lv }
/-- a private method of the builder's super class, on a builder -/
theorem sel_priv {x : MethodName} {s : State} {args : Array Value} {C : String} {n : Nat} (hy : x.cls ≠ "java/lang/invoke/MethodHandle" ∧ x.cls ≠ "java/lang/invoke/VarHandle")
    (hins : (Cond.instantiable C n).before args s = true) (hpriv : (Cond.privateMethod x).before args s = true) (hinst : (Cond.instanceMethod x).before args s = true) (hsame : (Cond.sameMethod x.cls x.cls x.name x.desc).before args s = true) : (Cond.selects C x x).before args s = true := by
  obtain ⟨c, k, hc, hk, -, hniab, -, -⟩ := Cond.instantiable_spec hins
  obtain ⟨cn, ck, r1, hcn, hck, hni, -, -⟩ := Cond.sameMethod_found hsame
  obtain ⟨mk, methM, hnamed, hmethM, -, -⟩ := Cond.instanceMethod_spec hinst
  have hfound : s.methodFound? x.cls x.name x.desc = some mk := State.methodFound?_of_named hnamed hy
  have hsel : selectMethod {} s.vm c mk = .method mk := selectMethod_private hmethM (Cond.privateMethod_at hpriv mk methM hnamed hmethM)
  have hcls : mk.cls = cn := Option.some.inj ((findClass_of_methodNamed hnamed).symm.trans hcn)
  simp only [Cond.before, Cond.holds, Cond.value, hc, hfound, hnamed, hsel, hcls, hck]
  simp [hni]
/-- a builder's private methods, selected -/
def jk_sel : List Cond := [.selects RJ4 yJ5_ensureCapacityInternal_d00df yJ5_ensureCapacityInternal_d00df, .selects RJ4 yJ5_newCapacity_0f7a4 yJ5_newCapacity_0f7a4, .selects RJ4 yJ5_putStringAt_47b60 yJ5_putStringAt_47b60, .selects RJ4 yJ5_inflateIfNeededFor_a7421 yJ5_inflateIfNeededFor_a7421]
def jk_tb : List Cond := jk_sel ++ am_tb
theorem jk_in {w : Cond} (h : w ∈ am_tb) : w ∈ jk_tb := List.mem_append_right _ h
theorem jk_pay1 {args : Array Value} {s : State} (hts : ∀ w ∈ jk_tb, w.before args s = true) : ∀ w ∈ jk_tb, ∀ (a' : Array Value) (U : State), s.WarmedH U.vm → w.before a' U = true := by
  intro w hw a' U hW
  rcases List.mem_append.mp hw with h | h
  · refine word_at hW (good_of_word ?_) (hts w hw)
    have : jk_sel.all goodWord = true := rfl
    exact List.all_eq_true.mp this w h
  · exact am_pay1 (fun w hw => hts w (jk_in hw)) w h a' U hW
theorem jk_pay {args : Array Value} {s : State} (hts : ∀ w ∈ jk_tb, w.before args s = true) {w0 : Cond} (h0 : w0 ∈ am_tb) : ∀ w ∈ w0 :: jk_tb, ∀ (a' : Array Value) (U : State), s.WarmedH U.vm → w.before a' U = true := by
  intro w hw
  rcases List.mem_cons.mp hw with rfl | hw
  · exact jk_pay1 hts w (jk_in h0)
  · exact jk_pay1 hts w hw
theorem jk_hts {args : Array Value} {s : State} (hts : ∀ w ∈ lw_tbl, w.before args s = true) : ∀ w ∈ jk_tb, w.before args s = true := by
  intro w hw
  have at' : ∀ (i : Nat) (w : Cond), lw_tbl[i]? = some w → w.before args s = true := fun i w h => hts w (List.mem_of_getElem? h)
  rcases List.mem_append.mp hw with h | h
  · simp only [jk_sel, List.mem_cons, List.not_mem_nil, or_false] at h
    rcases h with rfl | rfl | rfl | rfl
    · exact sel_priv (n := 4) ⟨by decide, by decide⟩ (at' 289 _ (by decide +kernel)) (at' 332 _ (by decide +kernel)) (at' 333 _ (by decide +kernel)) (at' 1237 _ (by decide +kernel))
    · exact sel_priv (n := 4) ⟨by decide, by decide⟩ (at' 289 _ (by decide +kernel)) (at' 336 _ (by decide +kernel)) (at' 337 _ (by decide +kernel)) (at' 1238 _ (by decide +kernel))
    · exact sel_priv (n := 4) ⟨by decide, by decide⟩ (at' 289 _ (by decide +kernel)) (at' 407 _ (by decide +kernel)) (at' 408 _ (by decide +kernel)) (at' 1239 _ (by decide +kernel))
    · exact sel_priv (n := 4) ⟨by decide, by decide⟩ (at' 289 _ (by decide +kernel)) (at' 411 _ (by decide +kernel)) (at' 412 _ (by decide +kernel)) (at' 1240 _ (by decide +kernel))
  · exact hts w (List.mem_filter.mp h).1
