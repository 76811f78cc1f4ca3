/-! the law's loop, at the machine -/
abbrev lawA (s : State) : Nat → Prop := fun q => s.heap.size ≤ q
abbrev lawX (xs : Nat → Int32) : Int → Int := fun j => (xs j.toNat).toInt
def lawE (p : Program) (s : State) (m : MethodId) (meth : Method) (c : Code) (b L : Nat) (xs : Nat → Int32) (D : va_G) (al : Nat → Nat) (kC : Nat → ClassId) : Prop :=
  lw_At p s m meth c b L xs ∧ va_K D vwCl (am_tys kC) s ∧ am_dis al layL (lawA s) ∧ al 999 = b ∧ am_Z (lawA s) s s.heap
section LAWM
variable {p : Program} {e : Env} {s : State} {m : MethodId} {below : List Frame} {meth : Method} {c : Code} {b L : Nat} {xs : Nat → Int32} {D : va_G} {al : Nat → Nat} {kC : Nat → ClassId}
theorem law_good (l : Launch) (hE : lawE p s m meth c b L xs D al kC) (hL : L ≤ 3072) {cb sb : Nat} (hc : cb + 2 ≤ 601024) (hs : sb + 32 ≤ 7293034) {x : CX} (hlay : cxLay x = layL) (hmc : cxMc x = 2) (hthr : cxThr x = false) (hhnd : cxHnd x = none) (hspc : ∀ pc, cxSpc x pc = none) (hscr : cxScr x = some ((L : Int), lawX xs)) (hsta : am_sta l x RL 40 cL_law) :
    am_good x lawK (am_W p l e room_1 s m #[Value.ref b] below meth c (lw_Z below #[Value.ref b] s) 8 D al kC layL (lawA s) cb sb (cxMc x)) := by
  obtain ⟨⟨hx, hb, hr, hml, hown, hts, hX, hbl, hlocks, hgv⟩, hK, hdis, hal, hZ⟩ := hE
  have hE2 : am_env p l e room_1 s m #[Value.ref b] c cL_law RL 8 D al kC layL (lawA s) cb sb (cxMc x) am_tb := ⟨hx, hb, hml, hown, fun w hw => hts w (List.mem_filter.mp hw).1, hK, hdis, fun q h => h, by rw [hmc]; exact hc, by rw [hmc]; exact hs⟩
  refine ⟨fun rec hrec pc ls st F A u h => am_run_ok (x := x) (lvO := 40) hE2 ⟨by decide, by decide⟩ (by rw [hlay]; exact List.prefix_refl _) hsta (fun _ => hZ) (fun L' xs' h => ?_) (fun _ _ pc b h => by rw [hspc] at h; cases h)
    (fun _ _ _ _ _ _ _ _ _ _ _ _ hk _ _ _ _ _ _ _ _ _ _ _ _ _ => by rw [hhnd, hthr] at hk; exact hk.elim)
    (fun pc o F A ls u i ho hd hk hu H locs lsC hl hP hS => ?_) rec hrec h, fun _ _ _ _ _ _ _ hs h => am_W_sub hs h⟩
  · rw [hscr] at h
    cases h
    exact ⟨L, xs, rfl, by omega, fun j => rfl, by rw [hal]; exact hX, by rw [hal]; exact hbl, by rw [hal]; exact Nat.not_le.mpr hbl⟩
  · obtain rfl : o = some (vI 1) := Option.some.inj hk
    obtain ⟨rfl, -⟩ := ho
    rw [hmc] at hu
    refine W.widen (k := 601024) (n := 7293034) (by omega) (by omega) ?_
    refine va_forget (fun q hq => hS.2.2 q hq) ?_
    exact lw_ret hx hb hr hlocks hd
theorem lawI_ok {V : REC} {i : Int} (h : ∀ F A u, u ≤ 2 → REL F A → V 23 (lawS (i + 6)) [] F A u) : ∀ pc ls st F A u, lawI i pc ls st F A u → V pc ls st F A u := by
  intro pc ls st F A u hq
  unfold lawI at hq
  obtain ⟨h1, hq⟩ := am_cond_ok hq
  have h1 := am_bq h1
  subst h1
  split at hq
  · rename_i s0 s1 s2 s3 j
    obtain ⟨rfl, rfl, rfl, rfl, rfl, hr, hu⟩ := hq
    exact h _ _ _ hu hr
  · exact hq.elim
theorem law_cs {x : CX} {V : REC} {N pc : Nat} {i : Int} {F : FF} {A : AA} (hg : am_good x lawK V) (hI : ∀ F A u, u ≤ 2 → REL F A → V 23 (lawS (i + 6)) [] F A u) (hv : am_stp x (am_run x lawC (lawI i) lawK N) lawK pc (lawS i) [] F A 0) : V pc (lawS i) [] F A 0 :=
  hg.1 _ (am_runs (cut := lawC) (Kc := lawI i) (lawI_ok hI) hg N) _ _ _ _ _ _ hv
theorem lawX_b (xs : Nat → Int32) : ∀ j, -2147483648 ≤ lawX xs j ∧ lawX xs j < 2147483648 := fun j => ⟨Int32.le_toInt _, Int32.toInt_lt _⟩
def lawL0 : List Nat := [276, 349, 374, 387, 400, 413, 426, 451]
theorem law_c0 (l : Launch) (hst : l.stackTraces = false) (hE : lawE p s m meth c b L xs D al kC) (hL : L ≤ 3072) {cb sb : Nat} (hc : cb + 2 ≤ 601024) (hs : sb + 32 ≤ 7293034) {i : Int} {F : FF} {A : AA} (i0 : 0 ≤ i) (i1 : i + 6 ≤ (L : Int)) (hR : REL F A)
    (hI : ∀ F A u, u ≤ 2 → REL F A → am_W p l e room_1 s m #[Value.ref b] below meth c (lw_Z below #[Value.ref b] s) 8 D al kC layL (lawA s) cb sb 2 23 (lawS (i + 6)) [] F A u) : ∀ pc ∈ lawL0, am_W p l e room_1 s m #[Value.ref b] below meth c (lw_Z below #[Value.ref b] s) 8 D al kC layL (lawA s) cb sb 2 pc (lawS i) [] F A 0 := by
  intro pc hm
  unfold lawL0 at hm
  simp only [List.mem_cons, List.not_mem_nil, or_false] at hm
  rcases hm with rfl | rfl | rfl | rfl | rfl | rfl | rfl | rfl
  · exact law_cs (law_good l hE hL hc hs (x := qxL_0 L (lawX xs)) rfl rfl rfl rfl (fun _ => rfl) rfl (qzL_0 l hst L (lawX xs))) hI (qvL_0 L (lawX xs) F A i (lawX_b xs) (by omega) i0 i1 hR)
  · exact law_cs (law_good l hE hL hc hs (x := qxL_1 L (lawX xs)) rfl rfl rfl rfl (fun _ => rfl) rfl (qzL_1 l hst L (lawX xs))) hI (qvL_1 L (lawX xs) F A i (lawX_b xs) (by omega) i0 i1 hR)
  · exact law_cs (law_good l hE hL hc hs (x := qxL_2 L (lawX xs)) rfl rfl rfl rfl (fun _ => rfl) rfl (qzL_2 l hst L (lawX xs))) hI (qvL_2 L (lawX xs) F A i (lawX_b xs) (by omega) i0 i1 hR)
  · exact law_cs (law_good l hE hL hc hs (x := qxL_3 L (lawX xs)) rfl rfl rfl rfl (fun _ => rfl) rfl (qzL_3 l hst L (lawX xs))) hI (qvL_3 L (lawX xs) F A i (lawX_b xs) (by omega) i0 i1 hR)
  · exact law_cs (law_good l hE hL hc hs (x := qxL_4 L (lawX xs)) rfl rfl rfl rfl (fun _ => rfl) rfl (qzL_4 l hst L (lawX xs))) hI (qvL_4 L (lawX xs) F A i (lawX_b xs) (by omega) i0 i1 hR)
  · exact law_cs (law_good l hE hL hc hs (x := qxL_5 L (lawX xs)) rfl rfl rfl rfl (fun _ => rfl) rfl (qzL_5 l hst L (lawX xs))) hI (qvL_5 L (lawX xs) F A i (lawX_b xs) (by omega) i0 i1 hR)
  · exact law_cs (law_good l hE hL hc hs (x := qxL_6 L (lawX xs)) rfl rfl rfl rfl (fun _ => rfl) rfl (qzL_6 l hst L (lawX xs))) hI (qvL_6 L (lawX xs) F A i (lawX_b xs) (by omega) i0 i1 hR)
  · exact law_cs (law_good l hE hL hc hs (x := qxL_7 L (lawX xs)) rfl rfl rfl rfl (fun _ => rfl) rfl (qzL_7 l hst L (lawX xs))) hI (qvL_7 L (lawX xs) F A i (lawX_b xs) (by omega) i0 i1 hR)
def lawL1 : List Nat := [476, 501, 557, 637, 705, 808, 899, 990]
theorem law_c1 (l : Launch) (hst : l.stackTraces = false) (hE : lawE p s m meth c b L xs D al kC) (hL : L ≤ 3072) {cb sb : Nat} (hc : cb + 2 ≤ 601024) (hs : sb + 32 ≤ 7293034) {i : Int} {F : FF} {A : AA} (i0 : 0 ≤ i) (i1 : i + 6 ≤ (L : Int)) (hR : REL F A)
    (hI : ∀ F A u, u ≤ 2 → REL F A → am_W p l e room_1 s m #[Value.ref b] below meth c (lw_Z below #[Value.ref b] s) 8 D al kC layL (lawA s) cb sb 2 23 (lawS (i + 6)) [] F A u) : ∀ pc ∈ lawL1, am_W p l e room_1 s m #[Value.ref b] below meth c (lw_Z below #[Value.ref b] s) 8 D al kC layL (lawA s) cb sb 2 pc (lawS i) [] F A 0 := by
  intro pc hm
  unfold lawL1 at hm
  simp only [List.mem_cons, List.not_mem_nil, or_false] at hm
  rcases hm with rfl | rfl | rfl | rfl | rfl | rfl | rfl | rfl
  · exact law_cs (law_good l hE hL hc hs (x := qxL_8 L (lawX xs)) rfl rfl rfl rfl (fun _ => rfl) rfl (qzL_8 l hst L (lawX xs))) hI (qvL_8 L (lawX xs) F A i (lawX_b xs) (by omega) i0 i1 hR)
  · exact law_cs (law_good l hE hL hc hs (x := qxL_9 L (lawX xs)) rfl rfl rfl rfl (fun _ => rfl) rfl (qzL_9 l hst L (lawX xs))) hI (qvL_9 L (lawX xs) F A i (lawX_b xs) (by omega) i0 i1 hR)
  · exact law_cs (law_good l hE hL hc hs (x := qxL_10 L (lawX xs)) rfl rfl rfl rfl (fun _ => rfl) rfl (qzL_10 l hst L (lawX xs))) hI (qvL_10 L (lawX xs) F A i (lawX_b xs) (by omega) i0 i1 hR)
  · exact law_cs (law_good l hE hL hc hs (x := qxL_11 L (lawX xs)) rfl rfl rfl rfl (fun _ => rfl) rfl (qzL_11 l hst L (lawX xs))) hI (qvL_11 L (lawX xs) F A i (lawX_b xs) (by omega) i0 i1 hR)
  · exact law_cs (law_good l hE hL hc hs (x := qxL_12 L (lawX xs)) rfl rfl rfl rfl (fun _ => rfl) rfl (qzL_12 l hst L (lawX xs))) hI (qvL_12 L (lawX xs) F A i (lawX_b xs) (by omega) i0 i1 hR)
  · exact law_cs (law_good l hE hL hc hs (x := qxL_13 L (lawX xs)) rfl rfl rfl rfl (fun _ => rfl) rfl (qzL_13 l hst L (lawX xs))) hI (qvL_13 L (lawX xs) F A i (lawX_b xs) (by omega) i0 i1 hR)
  · exact law_cs (law_good l hE hL hc hs (x := qxL_14 L (lawX xs)) rfl rfl rfl rfl (fun _ => rfl) rfl (qzL_14 l hst L (lawX xs))) hI (qvL_14 L (lawX xs) F A i (lawX_b xs) (by omega) i0 i1 hR)
  · exact law_cs (law_good l hE hL hc hs (x := qxL_15 L (lawX xs)) rfl rfl rfl rfl (fun _ => rfl) rfl (qzL_15 l hst L (lawX xs))) hI (qvL_15 L (lawX xs) F A i (lawX_b xs) (by omega) i0 i1 hR)
def lawL2 : List Nat := [1082, 1145, 1201, 1269, 1349, 1441, 1516, 1596]
theorem law_c2 (l : Launch) (hst : l.stackTraces = false) (hE : lawE p s m meth c b L xs D al kC) (hL : L ≤ 3072) {cb sb : Nat} (hc : cb + 2 ≤ 601024) (hs : sb + 32 ≤ 7293034) {i : Int} {F : FF} {A : AA} (i0 : 0 ≤ i) (i1 : i + 6 ≤ (L : Int)) (hR : REL F A)
    (hI : ∀ F A u, u ≤ 2 → REL F A → am_W p l e room_1 s m #[Value.ref b] below meth c (lw_Z below #[Value.ref b] s) 8 D al kC layL (lawA s) cb sb 2 23 (lawS (i + 6)) [] F A u) : ∀ pc ∈ lawL2, am_W p l e room_1 s m #[Value.ref b] below meth c (lw_Z below #[Value.ref b] s) 8 D al kC layL (lawA s) cb sb 2 pc (lawS i) [] F A 0 := by
  intro pc hm
  unfold lawL2 at hm
  simp only [List.mem_cons, List.not_mem_nil, or_false] at hm
  rcases hm with rfl | rfl | rfl | rfl | rfl | rfl | rfl | rfl
  · exact law_cs (law_good l hE hL hc hs (x := qxL_16 L (lawX xs)) rfl rfl rfl rfl (fun _ => rfl) rfl (qzL_16 l hst L (lawX xs))) hI (qvL_16 L (lawX xs) F A i (lawX_b xs) (by omega) i0 i1 hR)
  · exact law_cs (law_good l hE hL hc hs (x := qxL_17 L (lawX xs)) rfl rfl rfl rfl (fun _ => rfl) rfl (qzL_17 l hst L (lawX xs))) hI (qvL_17 L (lawX xs) F A i (lawX_b xs) (by omega) i0 i1 hR)
  · exact law_cs (law_good l hE hL hc hs (x := qxL_18 L (lawX xs)) rfl rfl rfl rfl (fun _ => rfl) rfl (qzL_18 l hst L (lawX xs))) hI (qvL_18 L (lawX xs) F A i (lawX_b xs) (by omega) i0 i1 hR)
  · exact law_cs (law_good l hE hL hc hs (x := qxL_19 L (lawX xs)) rfl rfl rfl rfl (fun _ => rfl) rfl (qzL_19 l hst L (lawX xs))) hI (qvL_19 L (lawX xs) F A i (lawX_b xs) (by omega) i0 i1 hR)
  · exact law_cs (law_good l hE hL hc hs (x := qxL_20 L (lawX xs)) rfl rfl rfl rfl (fun _ => rfl) rfl (qzL_20 l hst L (lawX xs))) hI (qvL_20 L (lawX xs) F A i (lawX_b xs) (by omega) i0 i1 hR)
  · exact law_cs (law_good l hE hL hc hs (x := qxL_21 L (lawX xs)) rfl rfl rfl rfl (fun _ => rfl) rfl (qzL_21 l hst L (lawX xs))) hI (qvL_21 L (lawX xs) F A i (lawX_b xs) (by omega) i0 i1 hR)
  · exact law_cs (law_good l hE hL hc hs (x := qxL_22 L (lawX xs)) rfl rfl rfl rfl (fun _ => rfl) rfl (qzL_22 l hst L (lawX xs))) hI (qvL_22 L (lawX xs) F A i (lawX_b xs) (by omega) i0 i1 hR)
  · exact law_cs (law_good l hE hL hc hs (x := qxL_23 L (lawX xs)) rfl rfl rfl rfl (fun _ => rfl) rfl (qzL_23 l hst L (lawX xs))) hI (qvL_23 L (lawX xs) F A i (lawX_b xs) (by omega) i0 i1 hR)
def lawL3 : List Nat := [1664, 1744, 1824, 1904, 1984, 2076, 2151, 2207]
theorem law_c3 (l : Launch) (hst : l.stackTraces = false) (hE : lawE p s m meth c b L xs D al kC) (hL : L ≤ 3072) {cb sb : Nat} (hc : cb + 2 ≤ 601024) (hs : sb + 32 ≤ 7293034) {i : Int} {F : FF} {A : AA} (i0 : 0 ≤ i) (i1 : i + 6 ≤ (L : Int)) (hR : REL F A)
    (hI : ∀ F A u, u ≤ 2 → REL F A → am_W p l e room_1 s m #[Value.ref b] below meth c (lw_Z below #[Value.ref b] s) 8 D al kC layL (lawA s) cb sb 2 23 (lawS (i + 6)) [] F A u) : ∀ pc ∈ lawL3, am_W p l e room_1 s m #[Value.ref b] below meth c (lw_Z below #[Value.ref b] s) 8 D al kC layL (lawA s) cb sb 2 pc (lawS i) [] F A 0 := by
  intro pc hm
  unfold lawL3 at hm
  simp only [List.mem_cons, List.not_mem_nil, or_false] at hm
  rcases hm with rfl | rfl | rfl | rfl | rfl | rfl | rfl | rfl
  · exact law_cs (law_good l hE hL hc hs (x := qxL_24 L (lawX xs)) rfl rfl rfl rfl (fun _ => rfl) rfl (qzL_24 l hst L (lawX xs))) hI (qvL_24 L (lawX xs) F A i (lawX_b xs) (by omega) i0 i1 hR)
  · exact law_cs (law_good l hE hL hc hs (x := qxL_25 L (lawX xs)) rfl rfl rfl rfl (fun _ => rfl) rfl (qzL_25 l hst L (lawX xs))) hI (qvL_25 L (lawX xs) F A i (lawX_b xs) (by omega) i0 i1 hR)
  · exact law_cs (law_good l hE hL hc hs (x := qxL_26 L (lawX xs)) rfl rfl rfl rfl (fun _ => rfl) rfl (qzL_26 l hst L (lawX xs))) hI (qvL_26 L (lawX xs) F A i (lawX_b xs) (by omega) i0 i1 hR)
  · exact law_cs (law_good l hE hL hc hs (x := qxL_27 L (lawX xs)) rfl rfl rfl rfl (fun _ => rfl) rfl (qzL_27 l hst L (lawX xs))) hI (qvL_27 L (lawX xs) F A i (lawX_b xs) (by omega) i0 i1 hR)
  · exact law_cs (law_good l hE hL hc hs (x := qxL_28 L (lawX xs)) rfl rfl rfl rfl (fun _ => rfl) rfl (qzL_28 l hst L (lawX xs))) hI (qvL_28 L (lawX xs) F A i (lawX_b xs) (by omega) i0 i1 hR)
  · exact law_cs (law_good l hE hL hc hs (x := qxL_29 L (lawX xs)) rfl rfl rfl rfl (fun _ => rfl) rfl (qzL_29 l hst L (lawX xs))) hI (qvL_29 L (lawX xs) F A i (lawX_b xs) (by omega) i0 i1 hR)
  · exact law_cs (law_good l hE hL hc hs (x := qxL_30 L (lawX xs)) rfl rfl rfl rfl (fun _ => rfl) rfl (qzL_30 l hst L (lawX xs))) hI (qvL_30 L (lawX xs) F A i (lawX_b xs) (by omega) i0 i1 hR)
  · exact law_cs (law_good l hE hL hc hs (x := qxL_31 L (lawX xs)) rfl rfl rfl rfl (fun _ => rfl) rfl (qzL_31 l hst L (lawX xs))) hI (qvL_31 L (lawX xs) F A i (lawX_b xs) (by omega) i0 i1 hR)
def lawL4 : List Nat := [2263, 2276, 2332, 2388, 2456, 2524, 2592, 2672]
theorem law_c4 (l : Launch) (hst : l.stackTraces = false) (hE : lawE p s m meth c b L xs D al kC) (hL : L ≤ 3072) {cb sb : Nat} (hc : cb + 2 ≤ 601024) (hs : sb + 32 ≤ 7293034) {i : Int} {F : FF} {A : AA} (i0 : 0 ≤ i) (i1 : i + 6 ≤ (L : Int)) (hR : REL F A)
    (hI : ∀ F A u, u ≤ 2 → REL F A → am_W p l e room_1 s m #[Value.ref b] below meth c (lw_Z below #[Value.ref b] s) 8 D al kC layL (lawA s) cb sb 2 23 (lawS (i + 6)) [] F A u) : ∀ pc ∈ lawL4, am_W p l e room_1 s m #[Value.ref b] below meth c (lw_Z below #[Value.ref b] s) 8 D al kC layL (lawA s) cb sb 2 pc (lawS i) [] F A 0 := by
  intro pc hm
  unfold lawL4 at hm
  simp only [List.mem_cons, List.not_mem_nil, or_false] at hm
  rcases hm with rfl | rfl | rfl | rfl | rfl | rfl | rfl | rfl
  · exact law_cs (law_good l hE hL hc hs (x := qxL_32 L (lawX xs)) rfl rfl rfl rfl (fun _ => rfl) rfl (qzL_32 l hst L (lawX xs))) hI (qvL_32 L (lawX xs) F A i (lawX_b xs) (by omega) i0 i1 hR)
  · exact law_cs (law_good l hE hL hc hs (x := qxL_33 L (lawX xs)) rfl rfl rfl rfl (fun _ => rfl) rfl (qzL_33 l hst L (lawX xs))) hI (qvL_33 L (lawX xs) F A i (lawX_b xs) (by omega) i0 i1 hR)
  · exact law_cs (law_good l hE hL hc hs (x := qxL_34 L (lawX xs)) rfl rfl rfl rfl (fun _ => rfl) rfl (qzL_34 l hst L (lawX xs))) hI (qvL_34 L (lawX xs) F A i (lawX_b xs) (by omega) i0 i1 hR)
  · exact law_cs (law_good l hE hL hc hs (x := qxL_35 L (lawX xs)) rfl rfl rfl rfl (fun _ => rfl) rfl (qzL_35 l hst L (lawX xs))) hI (qvL_35 L (lawX xs) F A i (lawX_b xs) (by omega) i0 i1 hR)
  · exact law_cs (law_good l hE hL hc hs (x := qxL_36 L (lawX xs)) rfl rfl rfl rfl (fun _ => rfl) rfl (qzL_36 l hst L (lawX xs))) hI (qvL_36 L (lawX xs) F A i (lawX_b xs) (by omega) i0 i1 hR)
  · exact law_cs (law_good l hE hL hc hs (x := qxL_37 L (lawX xs)) rfl rfl rfl rfl (fun _ => rfl) rfl (qzL_37 l hst L (lawX xs))) hI (qvL_37 L (lawX xs) F A i (lawX_b xs) (by omega) i0 i1 hR)
  · exact law_cs (law_good l hE hL hc hs (x := qxL_38 L (lawX xs)) rfl rfl rfl rfl (fun _ => rfl) rfl (qzL_38 l hst L (lawX xs))) hI (qvL_38 L (lawX xs) F A i (lawX_b xs) (by omega) i0 i1 hR)
  · exact law_cs (law_good l hE hL hc hs (x := qxL_39 L (lawX xs)) rfl rfl rfl rfl (fun _ => rfl) rfl (qzL_39 l hst L (lawX xs))) hI (qvL_39 L (lawX xs) F A i (lawX_b xs) (by omega) i0 i1 hR)
def lawL5 : List Nat := [2740, 2832, 2924, 2992, 3060, 3116, 3129, 3233]
theorem law_c5 (l : Launch) (hst : l.stackTraces = false) (hE : lawE p s m meth c b L xs D al kC) (hL : L ≤ 3072) {cb sb : Nat} (hc : cb + 2 ≤ 601024) (hs : sb + 32 ≤ 7293034) {i : Int} {F : FF} {A : AA} (i0 : 0 ≤ i) (i1 : i + 6 ≤ (L : Int)) (hR : REL F A)
    (hI : ∀ F A u, u ≤ 2 → REL F A → am_W p l e room_1 s m #[Value.ref b] below meth c (lw_Z below #[Value.ref b] s) 8 D al kC layL (lawA s) cb sb 2 23 (lawS (i + 6)) [] F A u) : ∀ pc ∈ lawL5, am_W p l e room_1 s m #[Value.ref b] below meth c (lw_Z below #[Value.ref b] s) 8 D al kC layL (lawA s) cb sb 2 pc (lawS i) [] F A 0 := by
  intro pc hm
  unfold lawL5 at hm
  simp only [List.mem_cons, List.not_mem_nil, or_false] at hm
  rcases hm with rfl | rfl | rfl | rfl | rfl | rfl | rfl | rfl
  · exact law_cs (law_good l hE hL hc hs (x := qxL_40 L (lawX xs)) rfl rfl rfl rfl (fun _ => rfl) rfl (qzL_40 l hst L (lawX xs))) hI (qvL_40 L (lawX xs) F A i (lawX_b xs) (by omega) i0 i1 hR)
  · exact law_cs (law_good l hE hL hc hs (x := qxL_41 L (lawX xs)) rfl rfl rfl rfl (fun _ => rfl) rfl (qzL_41 l hst L (lawX xs))) hI (qvL_41 L (lawX xs) F A i (lawX_b xs) (by omega) i0 i1 hR)
  · exact law_cs (law_good l hE hL hc hs (x := qxL_42 L (lawX xs)) rfl rfl rfl rfl (fun _ => rfl) rfl (qzL_42 l hst L (lawX xs))) hI (qvL_42 L (lawX xs) F A i (lawX_b xs) (by omega) i0 i1 hR)
  · exact law_cs (law_good l hE hL hc hs (x := qxL_43 L (lawX xs)) rfl rfl rfl rfl (fun _ => rfl) rfl (qzL_43 l hst L (lawX xs))) hI (qvL_43 L (lawX xs) F A i (lawX_b xs) (by omega) i0 i1 hR)
  · exact law_cs (law_good l hE hL hc hs (x := qxL_44 L (lawX xs)) rfl rfl rfl rfl (fun _ => rfl) rfl (qzL_44 l hst L (lawX xs))) hI (qvL_44 L (lawX xs) F A i (lawX_b xs) (by omega) i0 i1 hR)
  · exact law_cs (law_good l hE hL hc hs (x := qxL_45 L (lawX xs)) rfl rfl rfl rfl (fun _ => rfl) rfl (qzL_45 l hst L (lawX xs))) hI (qvL_45 L (lawX xs) F A i (lawX_b xs) (by omega) i0 i1 hR)
  · exact law_cs (law_good l hE hL hc hs (x := qxL_46 L (lawX xs)) rfl rfl rfl rfl (fun _ => rfl) rfl (qzL_46 l hst L (lawX xs))) hI (qvL_46 L (lawX xs) F A i (lawX_b xs) (by omega) i0 i1 hR)
  · exact law_cs (law_good l hE hL hc hs (x := qxL_47 L (lawX xs)) rfl rfl rfl rfl (fun _ => rfl) rfl (qzL_47 l hst L (lawX xs))) hI (qvL_47 L (lawX xs) F A i (lawX_b xs) (by omega) i0 i1 hR)
def lawL6 : List Nat := [3294, 3343, 3416, 3453, 3478, 3539, 3576, 3589]
theorem law_c6 (l : Launch) (hst : l.stackTraces = false) (hE : lawE p s m meth c b L xs D al kC) (hL : L ≤ 3072) {cb sb : Nat} (hc : cb + 2 ≤ 601024) (hs : sb + 32 ≤ 7293034) {i : Int} {F : FF} {A : AA} (i0 : 0 ≤ i) (i1 : i + 6 ≤ (L : Int)) (hR : REL F A)
    (hI : ∀ F A u, u ≤ 2 → REL F A → am_W p l e room_1 s m #[Value.ref b] below meth c (lw_Z below #[Value.ref b] s) 8 D al kC layL (lawA s) cb sb 2 23 (lawS (i + 6)) [] F A u) : ∀ pc ∈ lawL6, am_W p l e room_1 s m #[Value.ref b] below meth c (lw_Z below #[Value.ref b] s) 8 D al kC layL (lawA s) cb sb 2 pc (lawS i) [] F A 0 := by
  intro pc hm
  unfold lawL6 at hm
  simp only [List.mem_cons, List.not_mem_nil, or_false] at hm
  rcases hm with rfl | rfl | rfl | rfl | rfl | rfl | rfl | rfl
  · exact law_cs (law_good l hE hL hc hs (x := qxL_48 L (lawX xs)) rfl rfl rfl rfl (fun _ => rfl) rfl (qzL_48 l hst L (lawX xs))) hI (qvL_48 L (lawX xs) F A i (lawX_b xs) (by omega) i0 i1 hR)
  · exact law_cs (law_good l hE hL hc hs (x := qxL_49 L (lawX xs)) rfl rfl rfl rfl (fun _ => rfl) rfl (qzL_49 l hst L (lawX xs))) hI (qvL_49 L (lawX xs) F A i (lawX_b xs) (by omega) i0 i1 hR)
  · exact law_cs (law_good l hE hL hc hs (x := qxL_50 L (lawX xs)) rfl rfl rfl rfl (fun _ => rfl) rfl (qzL_50 l hst L (lawX xs))) hI (qvL_50 L (lawX xs) F A i (lawX_b xs) (by omega) i0 i1 hR)
  · exact law_cs (law_good l hE hL hc hs (x := qxL_51 L (lawX xs)) rfl rfl rfl rfl (fun _ => rfl) rfl (qzL_51 l hst L (lawX xs))) hI (qvL_51 L (lawX xs) F A i (lawX_b xs) (by omega) i0 i1 hR)
  · exact law_cs (law_good l hE hL hc hs (x := qxL_52 L (lawX xs)) rfl rfl rfl rfl (fun _ => rfl) rfl (qzL_52 l hst L (lawX xs))) hI (qvL_52 L (lawX xs) F A i (lawX_b xs) (by omega) i0 i1 hR)
  · exact law_cs (law_good l hE hL hc hs (x := qxL_53 L (lawX xs)) rfl rfl rfl rfl (fun _ => rfl) rfl (qzL_53 l hst L (lawX xs))) hI (qvL_53 L (lawX xs) F A i (lawX_b xs) (by omega) i0 i1 hR)
  · exact law_cs (law_good l hE hL hc hs (x := qxL_54 L (lawX xs)) rfl rfl rfl rfl (fun _ => rfl) rfl (qzL_54 l hst L (lawX xs))) hI (qvL_54 L (lawX xs) F A i (lawX_b xs) (by omega) i0 i1 hR)
  · exact law_cs (law_good l hE hL hc hs (x := qxL_d L (lawX xs)) rfl rfl rfl rfl (fun _ => rfl) rfl (qzL_d l hst L (lawX xs))) hI (qvL_d L (lawX xs) F A i hR)
theorem lawL_eq : lawL = lawL0 ++ (lawL1 ++ (lawL2 ++ (lawL3 ++ (lawL4 ++ (lawL5 ++ (lawL6)))))) := rfl
theorem law_case (l : Launch) (hst : l.stackTraces = false) (hE : lawE p s m meth c b L xs D al kC) (hL : L ≤ 3072) {cb sb : Nat} (hc : cb + 2 ≤ 601024) (hs : sb + 32 ≤ 7293034) {i : Int} {F : FF} {A : AA} (i0 : 0 ≤ i) (i1 : i + 6 ≤ (L : Int)) (hR : REL F A)
    (hI : ∀ F A u, u ≤ 2 → REL F A → am_W p l e room_1 s m #[Value.ref b] below meth c (lw_Z below #[Value.ref b] s) 8 D al kC layL (lawA s) cb sb 2 23 (lawS (i + 6)) [] F A u) : ∀ pc ∈ lawL, am_W p l e room_1 s m #[Value.ref b] below meth c (lw_Z below #[Value.ref b] s) 8 D al kC layL (lawA s) cb sb 2 pc (lawS i) [] F A 0 := by
  intro pc hm
  rw [lawL_eq] at hm
  simp only [List.mem_append] at hm
  rcases hm with hm | hm | hm | hm | hm | hm | hm
  · exact law_c0 l hst hE hL hc hs i0 i1 hR hI pc hm
  · exact law_c1 l hst hE hL hc hs i0 i1 hR hI pc hm
  · exact law_c2 l hst hE hL hc hs i0 i1 hR hI pc hm
  · exact law_c3 l hst hE hL hc hs i0 i1 hR hI pc hm
  · exact law_c4 l hst hE hL hc hs i0 i1 hR hI pc hm
  · exact law_c5 l hst hE hL hc hs i0 i1 hR hI pc hm
  · exact law_c6 l hst hE hL hc hs i0 i1 hR hI pc hm
theorem law_loop (l : Launch) (hst : l.stackTraces = false) (hE : lawE p s m meth c b L xs D al kC) (hL : L ≤ 3072) : ∀ (n cb sb : Nat) (i : Int) (F : FF) (A : AA), (L : Int) - i < 6 * n → cb + 2 * n + 2 ≤ 601024 → sb + 32 * n + 32 ≤ 7293034 → 0 ≤ i → i ≤ (L : Int) + 6 → REL F A → am_W p l e room_1 s m #[Value.ref b] below meth c (lw_Z below #[Value.ref b] s) 8 D al kC layL (lawA s) cb sb 2 23 (lawS i) [] F A 0 := by
  intro n
  induction n with
  | zero =>
    intro cb sb i F A hn hc hs i0 i1 hR
    have hg := law_good (e := e) (below := below) l hE hL (cb := cb) (sb := sb) (by omega) (by omega) (x := qxL_h L (lawX xs)) rfl rfl rfl rfl (fun _ => rfl) rfl (qzL_h l hst L (lawX xs))
    exact hg.1 _ (am_runs (cut := lawD) (Kc := lawJ (L : Int) i F A) (fun pc ls st F' A' u h => absurd h.2.2.2.2.2.1 (by omega)) hg 15) _ _ _ _ _ _ (qvL_h L (lawX xs) F A i (by omega) (by omega) i0 i1)
  | succ n ih =>
    intro cb sb i F A hn hc hs i0 i1 hR
    have hg := law_good (e := e) (below := below) l hE hL (cb := cb) (sb := sb) (by omega) (by omega) (x := qxL_h L (lawX xs)) rfl rfl rfl rfl (fun _ => rfl) rfl (qzL_h l hst L (lawX xs))
    refine hg.1 _ (am_runs (cut := lawD) (Kc := lawJ (L : Int) i F A) (fun pc ls st F' A' u h => ?_) hg 15) _ _ _ _ _ _ (qvL_h L (lawX xs) F A i (by omega) (by omega) i0 i1)
    obtain ⟨rfl, rfl, rfl, rfl, rfl, hi, hm⟩ := h
    refine law_case l hst hE hL (by omega) (by omega) i0 hi hR (fun F2 A2 u hu hR2 => ?_) pc hm
    intro hu2 H locs lsC hl hP hS
    exact ih (cb + u) (sb + 16 * u) (i + 6) F2 A2 (by omega) (by omega) (by omega) (by omega) (by omega) hR2 (Nat.zero_le _) H locs lsC hl hP hS
end LAWM
