/-! the law's frame: its calls, and the loops -/
abbrev lawA (s : State) : Nat → Prop := fun q => s.heap.size ≤ q
def lawE (p : Program) (s : State) (m : MethodId) (meth : Method) (c : Code) (b L : Nat) (xs : Nat → Int32) (D : va_G) (al : Nat → Nat) (kC : Nat → ClassId) : Prop :=
  lw_At p s m meth c b L xs ∧ va_K D vwCl (am_tys kC) s ∧ am_dis al layX (lawA s) ∧ al 999 = b ∧ js_G (lawA s) s s.heap
/-- what a call at pc asks, and what it gives -/
def lw_sok (V rec : REC) (pc : Nat) (b : BLK) : Prop := ∀ ls st F A u, b rec lawK ls st F A u → V pc ls st F A u
theorem nI_int (j : Nat) : Int32.ofInt (j : Int) = nI j := rfl
theorem nI_back {v : Int} {n : Nat} (hv : -2147483648 ≤ v ∧ v < 2147483648) (hn : n < 2147483648) (h : Int32.ofInt v = nI n) : v = (n : Int) := by
  have h1 := Int32.toInt_ofInt_of_le hv.1 hv.2
  rw [h, nI_toInt (by omega)] at h1
  exact h1.symm
section LAWM
variable {p : Program} {e : Env} {s : State} {m : MethodId} {below : List Frame} {meth : Method} {c : Code} {b L : Nat} {xs : Nat → Int32} {D : va_G} {al : Nat → Nat} {kC : Nat → ClassId}
/-- a call that reads alone -/
theorem lw_ro (l : Launch) (hE : lawE p s m meth c b L xs D al kC) {cb sb : Nat} (hc : cb + 8 ≤ 600086) (hs : sb + 128 ≤ 7301442) {y : MethodName} {bytes : ByteArray} {maxL n index lv pc : Nat} {st r : List AV} {As : List Value} {post : Int32 → Prop} {ls : LVs} {F : FF} {A : AA} {u : Nat}
    (hM : ∀ sz, Met l y (.code y bytes maxL (some .int) :: jk_tb) (jr lv 0 0) (va_Pc As (ws_B D kC (fun B U H => js_G B U H ∧ scX b L xs B U H) [] sz)) (va_Qi (S := Unit) (fun r _ => post r) (fun _ _ => True) (va_A [] sz)) 0 0 (va_A [] sz))
    (hcode : Cond.code y bytes maxL (some .int) ∈ am_tb) (hini : Cond.initialized y.cls ∈ am_tb) (hlink : Cond.methodLink RL index y ∈ am_tb) (hst : Cond.static y ∈ am_tb)
    (hdsc : y.cls ≠ "java/lang/invoke/MethodHandle" ∧ y.cls ≠ "java/lang/invoke/VarHandle" ∧ (parseMethodDescriptor y.desc).map (fun d => d.parameters.length) = some n) (hlv : lv + 1 ≤ 40 ∧ maxL ≤ 10)
    (hstk : st.map (am_cv al) = As.reverse ++ r.map (am_cv al)) (hn : As.length = n) (hsum : am_sum r ≤ 8) (hdg : decode cL_law pc = .ok (.invokestatic index, 3))
    (k : ∀ v : Int, (-2147483648 ≤ v ∧ v < 2147483648) → post (Int32.ofInt v) → am_W p l e room_1 s m #[Value.ref b] below meth c (lw_Z below #[Value.ref b] s) 7 D al kC layX (lawA s) cb sb 8 (pc + 3) ls (vI v :: r) F A u) :
    am_W p l e room_1 s m #[Value.ref b] below meth c (lw_Z below #[Value.ref b] s) 7 D al kC layX (lawA s) cb sb 8 pc ls st F A u := by
  obtain ⟨⟨hx, hb, hr, hml, hown, hts0, hX, hbl, hlocks, hgv⟩, hK, hdis, hal, hG⟩ := hE
  have hts : ∀ w ∈ am_tb, w.before #[Value.ref b] s = true := fun w hw => hts0 w (List.mem_filter.mp hw).1
  have htj : ∀ w ∈ jk_tb, w.before #[Value.ref b] s = true := jk_hts hts0
  have hX2 : js_G (lawA s) s s.heap ∧ scX b L xs (lawA s) s s.heap := ⟨hG, hX, hbl, Nat.not_le.mpr hbl⟩
  intro hu H locs lsC hl hP hS
  have hPc : va_P D vwCl [] H := ws_nP
  have hDc : va_D (lawA s) [] := ws_nD
  have hFc : ∀ q, va_A [] H.size q → lawA s q := fun q h => Nat.le_trans hS.1 (ws_nA h)
  rw [hstk]
  refine va_calli (va_runS (As := As) (rest := r.map (am_cv al)) ⟨hx, hb, hml, hown, hts⟩ (hM H.size) ⟨am_callB (R := room_1) (index := index) n (jk_pay htj hcode) (hts _ hcode) rfl rfl rfl (hts _ hini) (hts _ hlink) hdsc ⟨by show lv + 1 ≤ 2048; omega, by show 8 + (maxL + 11) + 48 * lv ≤ 84000; omega⟩, hts _ hst⟩ (ws_S (Stb_and Stb_G (Stb_X b L xs)) hPc hK hDc (fun U hU hW => ws_E (Stb_and Stb_G (Stb_X b L xs)) hX2 hS hU hW hFc)) rfl hn hl.2.1 rfl (lv_room (by rw [am_sum_eq]; exact hsum)) hdg ⟨by show cb + u + 0 ≤ 600086; omega, by show sb + 16 * u + 0 ≤ 7301442; omega⟩) hS (fun q _ h => hFc q h) hFc (fun r0 u0 t H1 locs1 hte hvm hz hB hsz hkp hS1 => ?_)
  have hP1 := ws_kept hP hkp
  have key := k r0.toInt ⟨Int32.le_toInt _, Int32.toInt_lt _⟩ (by rw [Int32.ofInt_toInt]; exact hz) hu H1 locs1 lsC hl hP1 hS1
  have e9 : ((vI r0.toInt :: r).map (am_cv al) : List Value) = .int r0 :: r.map (am_cv al) := by
    show (Value.int (Int32.ofInt r0.toInt) :: r.map (am_cv al) : List Value) = _
    rw [Int32.ofInt_toInt]
  rw [e9] at key
  exact key
/-- a call with a contract over this world alone -/
theorem lw_cx (l : Launch) (hE : lawE p s m meth c b L xs D al kC) {cb sb : Nat} (hc : cb + 8 ≤ 600086) (hs : sb + 128 ≤ 7301442) {rec : REC} (hrec : ∀ pc ls st F A u, rec pc ls st F A u → am_W p l e room_1 s m #[Value.ref b] below meth c (lw_Z below #[Value.ref b] s) 7 D al kC layX (lawA s) cb sb 8 pc ls st F A u) {e1 : CE} {k pc : Nat}
    (hCX : am_CX l layX e1) (hcode : Cond.code (ceY e1) (ceB e1) (ceM e1) (ceR e1) ∈ am_tb) (hini : Cond.initialized (ceY e1).cls ∈ am_tb) (hlink : Cond.methodLink RL k (ceY e1) ∈ am_tb) (hst : Cond.static (ceY e1) ∈ am_tb)
    (hdsc : (ceY e1).cls ≠ "java/lang/invoke/MethodHandle" ∧ (ceY e1).cls ≠ "java/lang/invoke/VarHandle" ∧ (parseMethodDescriptor (ceY e1).desc).map (fun d => d.parameters.length) = some (ceN e1)) (hlv : ceL e1 + 1 ≤ 40 ∧ ceM e1 ≤ 40) (hdg : decode cL_law pc = .ok (.invokestatic k, 3)) :
    lw_sok (am_W p l e room_1 s m #[Value.ref b] below meth c (lw_Z below #[Value.ref b] s) 7 D al kC layX (lawA s) cb sb 8) rec pc (lw_cxB e1 8 (pc + 3)) := by
  intro ls st F A u h
  unfold lw_cxB at h
  obtain ⟨h1, h⟩ := am_cond_ok h
  simp only [Bool.and_eq_true] at h1
  obtain ⟨⟨g1, g2⟩, g3⟩ := h1
  have g1 := Nat.le_of_ble_eq_true g1
  have g2 := Nat.le_of_ble_eq_true g2
  have g3 := Nat.le_of_ble_eq_true g3
  obtain ⟨⟨hx, hb, hr, hml, hown, hts0, hX, hbl, hlocks, hgv⟩, hK, hdis, hal, hG⟩ := hE
  have hts : ∀ w ∈ am_tb, w.before #[Value.ref b] s = true := fun w hw => hts0 w (List.mem_filter.mp hw).1
  intro hu H locs lsC hl hP hS
  have hM := hCX D al kC _ F A _ H.size h
  have hAA : ∀ q, va_A (am_ws al kC layX F A) H.size q → lawA s q := by
    intro q hq
    rcases hq with ⟨j, e9, hj⟩ | hq
    · exact (am_dis_D hdis F A).2 j _ hj
    · exact Nat.le_trans hS.1 hq
  have hlen : ((st.take (ceN e1)).reverse.map (am_cv al)).length = ceN e1 := by simp; omega
  have hst2 : st.map (am_cv al) = ((st.take (ceN e1)).reverse.map (am_cv al)).reverse ++ (st.drop (ceN e1)).map (am_cv al) := by
    rw [List.map_reverse, List.reverse_reverse, ← List.map_append, List.take_append_drop]
  have hpS : PreS s H (va_Pc ((st.take (ceN e1)).reverse.map (am_cv al)) (am_B 0 none D al kC layX F A H.size)) ((st.take (ceN e1)).reverse.map (am_cv al)) := ⟨am_blind, fun U hU hW => ⟨rfl, by rw [hU], by rw [hU]; exact hP, va_K.moved hW.alike hK, ⟨hdis.1, fun _ _ => trivial⟩, fun hk => absurd rfl hk, fun L' xs' q => by cases q⟩⟩
  have hr := va_runS (meth := meth) (below := below) (e := e) (g := F0 m pc lsC (st.map (am_cv al))) (rest := (st.drop (ceN e1)).map (am_cv al)) (locs := locs) (cells := cb + u) (slots := sb + 16 * u) ⟨hx, hb, hml, hown, hts⟩ hM ⟨am_callB (R := room_1) (args := #[Value.ref b]) (index := k) (ceN e1) (am_pay hts hcode) (hts _ hcode) rfl rfl rfl (hts _ hini) (hts _ hlink) hdsc ⟨by show ceL e1 + 1 ≤ 2048; omega, by show 8 + (ceM e1 + 11) + 48 * ceL e1 ≤ 84000; omega⟩, hts _ hst⟩ hpS rfl hlen hl.2.1 hst2 (lv_room (by rw [am_sum_eq]; exact g2)) hdg ⟨by show cb + u + ceK e1 ≤ 600086; omega, by show sb + 16 * u + 16 * ceK e1 ≤ 7301442; omega⟩
  refine am_after hr hS hAA (fun o F' A' ho H1 locs1 hP1 hS1 => ?_)
  match o, ho with
  | some v, ho =>
    rw [show cb + u + ceK e1 = cb + (u + ceK e1) by omega, show sb + 16 * u + 16 * ceK e1 = sb + 16 * (u + ceK e1) by omega]
    exact hrec _ _ _ _ _ _ ho g1 _ _ _ hl hP1 hS1
theorem lw_24 (l : Launch) (hE : lawE p s m meth c b L xs D al kC) (hL : L < 1000) {cb sb : Nat} (hc : cb + 8 ≤ 600086) (hs : sb + 128 ≤ 7301442) {rec : REC} (hrec : ∀ pc ls st F A u, rec pc ls st F A u → am_W p l e room_1 s m #[Value.ref b] below meth c (lw_Z below #[Value.ref b] s) 7 D al kC layX (lawA s) cb sb 8 pc ls st F A u) : lw_sok (am_W p l e room_1 s m #[Value.ref b] below meth c (lw_Z below #[Value.ref b] s) 7 D al kC layX (lawA s) cb sb 8) rec 24 (lw_cellB 27) := by
  intro ls st F A u h
  unfold lw_cellB at h
  split at h
  · rename_i k o r
    obtain ⟨h1, ⟨hk0, hk1⟩, hh⟩ := am_cond_ok h
    simp only [Bool.and_eq_true] at h1
    have ho := am_bq h1.1
    have hr := Nat.le_of_ble_eq_true h1.2
    subst ho
    obtain ⟨j, rfl⟩ : ∃ j : Nat, k = (j : Int) := ⟨k.toNat, by omega⟩
    have hal : al 999 = b := hE.2.2.2.1
    refine lw_ro l hE hc hs (As := [.ref b, .int (nI j)]) (r := r) (n := 2) (index := 37) (post := fun v => v = ceV L xs j) (fun sz => sk_cell l D kC b L xs hL j (by omega) sz) (am_tb_at 63 (by decide +kernel) rfl) (am_tb_at 34 (by decide +kernel) rfl) (am_tb_at 61 (by decide +kernel) rfl) (am_tb_at 62 (by decide +kernel) rfl) ⟨by decide, by decide, by decide +kernel⟩ ⟨by decide, by decide⟩ ?_ rfl hr (by decide +kernel) (fun v hv _ => hrec _ _ _ _ _ _ (hh v hv))
    show (Value.int (Int32.ofInt (j : Int)) :: Value.ref (al 999) :: r.map (am_cv al) : List Value) = _
    rw [hal, nI_int]
    rfl
  · exact h.elim
theorem lw_cnt (l : Launch) (hE : lawE p s m meth c b L xs D al kC) {cb sb : Nat} (hc : cb + 8 ≤ 600086) (hs : sb + 128 ≤ 7301442) {rec : REC} (hrec : ∀ pc ls st F A u, rec pc ls st F A u → am_W p l e room_1 s m #[Value.ref b] below meth c (lw_Z below #[Value.ref b] s) 7 D al kC layX (lawA s) cb sb 8 pc ls st F A u) {y : MethodName} {bytes : ByteArray} {maxL index lv pc n : Nat} (hn : n < 1000)
    (hM : ∀ sz, Met l y (.code y bytes maxL (some .int) :: jk_tb) (jr lv 0 0) (va_Pc [.ref b] (ws_B D kC (fun B U H => js_G B U H ∧ scX b L xs B U H) [] sz)) (va_Qi (S := Unit) (fun r _ => r = nI n) (fun _ _ => True) (va_A [] sz)) 0 0 (va_A [] sz))
    (hcode : Cond.code y bytes maxL (some .int) ∈ am_tb) (hini : Cond.initialized y.cls ∈ am_tb) (hlink : Cond.methodLink RL index y ∈ am_tb) (hst : Cond.static y ∈ am_tb)
    (hdsc : y.cls ≠ "java/lang/invoke/MethodHandle" ∧ y.cls ≠ "java/lang/invoke/VarHandle" ∧ (parseMethodDescriptor y.desc).map (fun d => d.parameters.length) = some 1) (hlv : lv + 1 ≤ 40 ∧ maxL ≤ 10) (hdg : decode cL_law pc = .ok (.invokestatic index, 3)) :
    lw_sok (am_W p l e room_1 s m #[Value.ref b] below meth c (lw_Z below #[Value.ref b] s) 7 D al kC layX (lawA s) cb sb 8) rec pc (lw_cntB (n : Int) (pc + 3)) := by
  intro ls st F A u h
  unfold lw_cntB at h
  split at h
  · rename_i o r
    obtain ⟨h1, hh⟩ := am_cond_ok h
    simp only [Bool.and_eq_true] at h1
    have ho := am_bq h1.1
    have hr := Nat.le_of_ble_eq_true h1.2
    subst ho
    have hal : al 999 = b := hE.2.2.2.1
    refine lw_ro l hE hc hs (As := [.ref b]) (r := r) (n := 1) (index := index) (post := fun v => v = nI n) hM hcode hini hlink hst hdsc hlv ?_ rfl hr hdg (fun v hv hp => ?_)
    · show (Value.ref (al 999) :: r.map (am_cv al) : List Value) = _
      rw [hal]
      rfl
    · rw [nI_back hv (by omega) hp]
      exact hrec _ _ _ _ _ _ hh
  · exact h.elim
theorem lw_spc (l : Launch) (hE : lawE p s m meth c b L xs D al kC) (hL : L < 1000) {cb sb : Nat} (hc : cb + 8 ≤ 600086) (hs : sb + 128 ≤ 7301442) {rec : REC} (hrec : ∀ pc ls st F A u, rec pc ls st F A u → am_W p l e room_1 s m #[Value.ref b] below meth c (lw_Z below #[Value.ref b] s) 7 D al kC layX (lawA s) cb sb 8 pc ls st F A u) : ∀ pc b1, cxSpc (qxL_law (cvN L xs) (lnN L xs)) pc = some b1 → lw_sok (am_W p l e room_1 s m #[Value.ref b] below meth c (lw_Z below #[Value.ref b] s) 7 D al kC layX (lawA s) cb sb 8) rec pc b1 := by
  have c1 := @cvN_b L xs
  have c2 := @lnN_b L xs
  have k1 := fun pc idx (hl : Cond.methodLink RL idx yL_curves ∈ am_tb) (hd : decode cL_law pc = .ok (.invokestatic idx, 3)) => lw_cnt (b := b) (xs := xs) (below := below) (e := e) l hE hc hs hrec (pc := pc) (n := cvN L xs) (by omega) (fun sz => sk_curves l D kC b L xs hL sz) (am_tb_at 70 (by decide +kernel) rfl) (am_tb_at 34 (by decide +kernel) rfl) hl (am_tb_at 69 (by decide +kernel) rfl) ⟨by decide, by decide, by decide +kernel⟩ ⟨by decide, by decide⟩ hd
  intro pc b1 h
  replace h : cond (Nat.beq pc 24) (some (lw_cellB 27)) (cond (Nat.beq pc 42) (some (lw_cntB (cvN L xs) 45)) (cond (Nat.beq pc 61) (some (lw_cxB qeL_isCut 8 64)) (cond (Nat.beq pc 75) (some (lw_cntB (cvN L xs) 78)) (cond (Nat.beq pc 87) (some (lw_cntB (lnN L xs) 90)) (cond (Nat.beq pc 98) (some (lw_cxB qeL_isRooted 8 101)) none))))) = some b1 := h
  revert h
  cases z1 : Nat.beq pc 24
  · cases z2 : Nat.beq pc 42
    · cases z3 : Nat.beq pc 61
      · cases z4 : Nat.beq pc 75
        · cases z5 : Nat.beq pc 87
          · cases z6 : Nat.beq pc 98
            · intro h; cases h
            · intro h; cases h; rw [am_bq z6]
              exact lw_cx l hE hc hs hrec (pc := 98) (k := 243) (qtL_isRooted l) qbL_isRooted.1 qbL_isRooted.2.1 (am_tb_at 1079 (by decide +kernel) rfl) (am_tb_at 1080 (by decide +kernel) rfl) ⟨by decide, by decide, by decide +kernel⟩ ⟨by decide, by decide⟩ (by decide +kernel)
          · intro h; cases h; rw [am_bq z5]
            exact lw_cnt l hE hc hs hrec (pc := 87) (n := lnN L xs) (index := 86) (by omega) (fun sz => sk_lines l D kC b L xs hL sz) (am_tb_at 73 (by decide +kernel) rfl) (am_tb_at 34 (by decide +kernel) rfl) (am_tb_at 71 (by decide +kernel) rfl) (am_tb_at 72 (by decide +kernel) rfl) ⟨by decide, by decide, by decide +kernel⟩ ⟨by decide, by decide⟩ (by decide +kernel)
        · intro h; cases h; rw [am_bq z4]
          exact k1 75 68 (am_tb_at 68 (by decide +kernel) rfl) (by decide +kernel)
      · intro h; cases h; rw [am_bq z3]
        exact lw_cx l hE hc hs hrec (pc := 61) (k := 239) (qtL_isCut l) qbL_isCut.1 qbL_isCut.2.1 (am_tb_at 981 (by decide +kernel) rfl) (am_tb_at 982 (by decide +kernel) rfl) ⟨by decide, by decide, by decide +kernel⟩ ⟨by decide, by decide⟩ (by decide +kernel)
    · intro h; cases h; rw [am_bq z2]
      exact k1 42 68 (am_tb_at 68 (by decide +kernel) rfl) (by decide +kernel)
  · intro h; cases h; rw [am_bq z1]
    exact lw_24 l hE hL hc hs hrec
theorem law_good (l : Launch) (hE : lawE p s m meth c b L xs D al kC) (hL : L < 1000) {cb sb : Nat} (hc : cb + 8 ≤ 600086) (hs : sb + 128 ≤ 7301442) :
    am_good (qxL_law (cvN L xs) (lnN L xs)) lawK (am_W p l e room_1 s m #[Value.ref b] below meth c (lw_Z below #[Value.ref b] s) 7 D al kC layX (lawA s) cb sb 8) := by
  have hE' := hE
  obtain ⟨⟨hx, hb, hr, hml, hown, hts, hX, hbl, hlocks, hgv⟩, hK, hdis, hal, hG⟩ := hE
  have hE2 : am_env p l e room_1 s m #[Value.ref b] c cL_law RL 7 D al kC layX (lawA s) cb sb 8 am_tb := ⟨hx, hb, hml, hown, fun w hw => hts w (List.mem_filter.mp hw).1, hK, hdis, fun q h => h, hc, by show sb + 16 * 8 ≤ 7301442; omega⟩
  refine ⟨fun rec hrec pc ls st F A u h => am_run_ok (x := qxL_law (cvN L xs) (lnN L xs)) (lvO := 40) hE2 ⟨by decide, by decide⟩ (List.prefix_refl _) (qzL_law l _ _) (fun q => ?_) (fun L' xs' q => by cases q) (fun rec2 hrec2 pc b1 q => lw_spc l hE' hL hc hs hrec2 pc b1 q)
    (fun _ _ _ _ _ _ _ _ _ _ _ _ hk _ _ _ _ _ _ _ _ _ _ _ _ _ => (show False from hk).elim)
    (fun pc o F A ls u i ho hd hk hu H locs lsC hl hP hS => ?_) rec hrec h, fun _ _ _ _ _ _ _ hs h => am_W_sub hs h⟩
  · obtain ⟨k, e1, q1, q2⟩ := q
    exact absurd (qyL_law l k e1 q1).2 q2
  · obtain rfl : o = some (vI 1) := Option.some.inj hk
    obtain ⟨rfl, -⟩ := ho
    have hu : u ≤ 8 := hu
    refine W.widen (k := 600086) (n := 7301442) (by omega) (by omega) ?_
    refine va_forget (fun q hq => hS.2.2 q hq) ?_
    exact lw_ret hx hb hr hlocks hd
/-- the same frame, its room counted on -/
theorem lw_reb {l : Launch} {cb sb pc u : Nat} {ls : LVs} {st : List AV} {F : FF} {A : AA} (h : am_W p l e room_1 s m #[Value.ref b] below meth c (lw_Z below #[Value.ref b] s) 7 D al kC layX (lawA s) (cb + u) (sb + 16 * u) 8 pc ls st F A 0) : am_W p l e room_1 s m #[Value.ref b] below meth c (lw_Z below #[Value.ref b] s) 7 D al kC layX (lawA s) cb sb 8 pc ls st F A u := fun _ H locs lsC hl hP hS => h (Nat.zero_le _) H locs lsC hl hP hS
theorem law_84 (l : Launch) (hE : lawE p s m meth c b L xs D al kC) (hL : L < 1000) {stp xx cc : Int} (bs : 0 ≤ stp ∧ stp ≤ 12) (hcc : 0 ≤ cc ∧ cc < (cvN L xs : Int)) : ∀ (n cb sb : Nat) (ll : Int) (F : FF) (A : AA), (lnN L xs : Int) - ll ≤ n → 0 ≤ ll → ll ≤ (lnN L xs : Int) → cb + 2 * n + 8 ≤ 600086 → sb + 32 * n + 128 ≤ 7301442 → lwI F A (cvN L xs) (lnN L xs) →
    (∀ (cb' sb' : Nat) (G : FF) (B : AA), cb' ≤ cb + 2 * n → sb' ≤ sb + 32 * n → lwI G B (cvN L xs) (lnN L xs) → am_W p l e room_1 s m #[Value.ref b] below meth c (lw_Z below #[Value.ref b] s) 7 D al kC layX (lawA s) cb' sb' 8 72 [some (vR 999), some (vR 0), some (vI stp), some (vI xx), none, some (vI (cc + 1)), none] [] G B 0) →
    am_W p l e room_1 s m #[Value.ref b] below meth c (lw_Z below #[Value.ref b] s) 7 D al kC layX (lawA s) cb sb 8 84 [some (vR 999), some (vR 0), some (vI stp), some (vI xx), none, some (vI cc), some (vI ll)] [] F A 0 := by
  have c1 := @cvN_b L xs
  have c2 := @lnN_b L xs
  intro n
  induction n with
  | zero =>
    intro cb sb ll F A hn h0 h1 hc hs hI k
    exact lws_84 (law_good l hE hL (by omega) (by omega)) hI (by omega) (by omega) bs ⟨h0, h1⟩ hcc (fun _ => k cb sb F A (by omega) (by omega) hI) (fun q => absurd q (by omega))
  | succ n ih =>
    intro cb sb ll F A hn h0 h1 hc hs hI k
    refine lws_84 (law_good l hE hL (by omega) (by omega)) hI (by omega) (by omega) bs ⟨h0, h1⟩ hcc (fun _ => k cb sb F A (by omega) (by omega) hI) (fun q G B hI2 => ?_)
    exact lw_reb (ih (cb + 2) (sb + 16 * 2) (ll + 1) G B (by omega) (by omega) (by omega) (by omega) (by omega) hI2 (fun cb' sb' G2 B2 q1 q2 q3 => k cb' sb' G2 B2 (by omega) (by omega) q3))
theorem law_72 (l : Launch) (hE : lawE p s m meth c b L xs D al kC) (hL : L < 1000) {stp xx : Int} (bs : 0 ≤ stp ∧ stp ≤ 12) (hxx : -2147483648 ≤ xx ∧ xx < 2147483648) : ∀ (n cb sb : Nat) (cc : Int) (F : FF) (A : AA), (cvN L xs : Int) - cc ≤ n → 0 ≤ cc → cc ≤ (cvN L xs : Int) → cb + 8 * n + 8 ≤ 600086 → sb + 128 * n + 128 ≤ 7301442 → lwI F A (cvN L xs) (lnN L xs) →
    (∀ (cb' sb' : Nat) (G : FF) (B : AA), cb' ≤ cb + 8 * n → sb' ≤ sb + 128 * n → lwI G B (cvN L xs) (lnN L xs) → am_W p l e room_1 s m #[Value.ref b] below meth c (lw_Z below #[Value.ref b] s) 7 D al kC layX (lawA s) cb' sb' 8 13 [some (vR 999), some (vR 0), some (vI (stp + 1)), none, none, none, none] [] G B 0) →
    am_W p l e room_1 s m #[Value.ref b] below meth c (lw_Z below #[Value.ref b] s) 7 D al kC layX (lawA s) cb sb 8 72 [some (vR 999), some (vR 0), some (vI stp), some (vI xx), none, some (vI cc), none] [] F A 0 := by
  have c1 := @cvN_b L xs
  have c2 := @lnN_b L xs
  intro n
  induction n with
  | zero =>
    intro cb sb cc F A hn h0 h1 hc hs hI k
    exact lws_72 (law_good l hE hL (by omega) (by omega)) hI (by omega) (by omega) bs hxx ⟨h0, h1⟩ (fun _ G B hI2 => k cb sb G B (by omega) (by omega) hI2) (fun q => absurd q (by omega))
  | succ n ih =>
    intro cb sb cc F A hn h0 h1 hc hs hI k
    refine lws_72 (law_good l hE hL (by omega) (by omega)) hI (by omega) (by omega) bs hxx ⟨h0, h1⟩ (fun _ G B hI2 => k cb sb G B (by omega) (by omega) hI2) (fun q => ?_)
    exact law_84 l hE hL bs ⟨h0, q⟩ 4 cb sb 0 F A (by omega) (by omega) (by omega) (by omega) (by omega) hI (fun cb' sb' G2 B2 q1 q2 q3 => ih cb' sb' (cc + 1) G2 B2 (by omega) (by omega) (by omega) (by omega) (by omega) q3 (fun cb2 sb2 G3 B3 r1 r2 r3 => k cb2 sb2 G3 B3 (by omega) (by omega) r3))
set_option maxRecDepth 20000 in
theorem law_13 (l : Launch) (hE : lawE p s m meth c b L xs D al kC) (hL : L < 1000) : ∀ (n cb sb : Nat) (stp : Int) (F : FF) (A : AA), 12 - stp ≤ n → 0 ≤ stp → stp ≤ 12 → cb + 46 * n + 8 ≤ 600086 → sb + 736 * n + 128 ≤ 7301442 → lwI F A (cvN L xs) (lnN L xs) →
    am_W p l e room_1 s m #[Value.ref b] below meth c (lw_Z below #[Value.ref b] s) 7 D al kC layX (lawA s) cb sb 8 13 [some (vR 999), some (vR 0), some (vI stp), none, none, none, none] [] F A 0 := by
  have c1 := @cvN_b L xs
  have c2 := @lnN_b L xs
  intro n
  induction n with
  | zero =>
    intro cb sb stp F A hn h0 h1 hc hs hI
    exact lws_13 (law_good l hE hL (by omega) (by omega)) hI (by omega) (by omega) ⟨h0, h1⟩ (fun q => absurd q (by omega))
  | succ n ih =>
    intro cb sb stp F A hn h0 h1 hc hs hI
    refine lws_13 (law_good l hE hL (by omega) (by omega)) hI (by omega) (by omega) ⟨h0, h1⟩ (fun q xx G B hxx hI2 => ?_)
    have e1 : cb + 6 + 8 * 5 + 8 ≤ 600086 := by omega
    have e2 : sb + 16 * 6 + 128 * 5 + 128 ≤ 7301442 := by omega
    have e3 : (cvN L xs : Int) - 0 ≤ (5 : Nat) := by omega
    refine lw_reb (law_72 l hE hL ⟨h0, h1⟩ hxx 5 (cb + 6) (sb + 16 * 6) 0 G B e3 (Int.le_refl 0) (by omega) e1 e2 hI2 (fun cb' sb' G2 B2 q1 q2 q3 => ?_))
    have f1 : cb' + 46 * n + 8 ≤ 600086 := by omega
    have f2 : sb' + 736 * n + 128 ≤ 7301442 := by omega
    have f3 : 12 - (stp + 1) ≤ (n : Int) := by omega
    exact ih cb' sb' (stp + 1) G2 B2 f3 (by omega) (by omega) f1 f2 q3
end LAWM
