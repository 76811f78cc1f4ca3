/-! what the abstract machine's values, rows and cells are in the machine -/
def am_LR (al : Nat → Nat) (ls : Array Slot) (nL : Nat) (l : LVs) : Prop := l.length = nL ∧ ls.size = nL ∧ lv_wf ls ∧ ∀ (i : Nat) (v : AV), l[i]? = some (some v) → ls[i]? = some (.val (am_cv al v))
def am_lv (al : Nat → Nat) (l : LVs) : List (Nat × Value) := (List.range l.length).filterMap (fun i => match l[i]? with
  | some (some v) => some (i, am_cv al v)
  | _ => none)
theorem am_lv_mem {al : Nat → Nat} {l : LVs} {q : Nat × Value} : q ∈ am_lv al l ↔ ∃ v, l[q.1]? = some (some v) ∧ q.2 = am_cv al v := by
  unfold am_lv
  rw [List.mem_filterMap]
  constructor
  · rintro ⟨i, hi, h⟩
    split at h
    · rename_i v hv
      cases h
      exact ⟨v, hv, rfl⟩
    · cases h
  · rintro ⟨v, hv, h2⟩
    obtain ⟨i, w⟩ := q
    refine ⟨i, ?_, ?_⟩
    · rw [List.mem_range]
      exact (List.getElem?_eq_some_iff.mp hv).1
    · dsimp only at hv h2 ⊢
      rw [hv, h2]
theorem am_LR_has {al : Nat → Nat} {ls : Array Slot} {nL : Nat} {l : LVs} (h : am_LR al ls nL l) : lv_has ls nL (am_lv al l) := ⟨h.2.1, h.2.2.1, fun q hq => by
  obtain ⟨v, hv, h2⟩ := am_lv_mem.mp hq
  rw [h2]
  exact h.2.2.2 q.1 v hv⟩
theorem am_cv_cat (al : Nat → Nat) (v : AV) : (am_cv al v).category = am_cat v := by
  rcases v with x | x | k <;> rfl
theorem am_kill_len (l : LVs) (i : Nat) : (am_kill l i).length = l.length := by
  unfold am_kill
  split
  · rfl
  · split <;> simp
theorem am_kill_get {l : LVs} {i j : Nat} {v : AV} (h : (am_kill l i)[j]? = some (some v)) : l[j]? = some (some v) ∧ ¬ (j + 1 = i ∧ am_cat v = 2) := by
  unfold am_kill at h
  split at h
  · exact ⟨h, fun q => by omega⟩
  · rename_i k
    split at h
    · rename_i x hx
      rw [List.getElem?_set] at h
      by_cases hk : k = j
      · subst hk
        simp only [if_true] at h
        split at h <;> simp at h
      · rw [if_neg hk] at h
        exact ⟨h, fun q => by omega⟩
    · rename_i hn
      refine ⟨h, fun q => ?_⟩
      obtain ⟨q1, q2⟩ := q
      have e : j = k := by omega
      subst e
      rcases v with x | x | y
      · cases q2
      · exact hn x h
      · cases q2
theorem am_LR_set1 {al : Nat → Nat} {ls ls' : Array Slot} {nL i : Nat} {l : LVs} {v : AV} (h : am_LR al ls nL l)
    (h' : lv_has ls' nL ((i, am_cv al v) :: (am_lv al l).filter (fun q => !(q.1 == i) && !(q.1 + 1 == i && q.2.category == 2)))) : am_LR al ls' nL ((am_kill l i).set i (some v)) := by
  refine ⟨by rw [List.length_set, am_kill_len]; exact h.1, h'.1, h'.2.1, fun j w hj => ?_⟩
  rw [List.getElem?_set] at hj
  by_cases hi : i = j
  · subst hi
    rw [if_pos rfl] at hj
    split at hj
    · cases hj
      exact h'.2.2 _ List.mem_cons_self
    · cases hj
  · rw [if_neg hi] at hj
    obtain ⟨h1, h2⟩ := am_kill_get hj
    refine h'.2.2 (j, am_cv al w) (List.mem_cons_of_mem _ (List.mem_filter.mpr ⟨am_lv_mem.mpr ⟨w, h1, rfl⟩, ?_⟩))
    have e1 : (j == i) = false := by simp; omega
    simp only [e1, Bool.not_false, Bool.true_and, am_cv_cat]
    by_cases h3 : j + 1 = i
    · have : am_cat w ≠ 2 := fun q => h2 ⟨h3, q⟩
      simp [this]
    · simp [h3]
theorem am_LR_set2 {al : Nat → Nat} {ls ls' : Array Slot} {nL i : Nat} {l : LVs} {v : AV} (h : am_LR al ls nL l)
    (h' : lv_has ls' nL ((i, am_cv al v) :: (am_lv al l).filter (fun q => !(q.1 == i) && (!(q.1 == i + 1) && !(q.1 + 1 == i && q.2.category == 2))))) : am_LR al ls' nL (((am_kill l i).set i (some v)).set (i + 1) none) := by
  refine ⟨by rw [List.length_set, List.length_set, am_kill_len]; exact h.1, h'.1, h'.2.1, fun j w hj => ?_⟩
  rw [List.getElem?_set] at hj
  by_cases hi1 : i + 1 = j
  · rw [if_pos hi1] at hj
    split at hj <;> simp at hj
  rw [if_neg hi1, List.getElem?_set] at hj
  by_cases hi : i = j
  · subst hi
    rw [if_pos rfl] at hj
    split at hj
    · cases hj
      exact h'.2.2 _ List.mem_cons_self
    · cases hj
  · rw [if_neg hi] at hj
    obtain ⟨h1, h2⟩ := am_kill_get hj
    refine h'.2.2 (j, am_cv al w) (List.mem_cons_of_mem _ (List.mem_filter.mpr ⟨am_lv_mem.mpr ⟨w, h1, rfl⟩, ?_⟩))
    have e1 : (j == i) = false := by simp; omega
    have e2 : (j == i + 1) = false := by simp; omega
    simp only [e1, e2, Bool.not_false, Bool.true_and, am_cv_cat]
    by_cases h3 : j + 1 = i
    · have : am_cat w ≠ 2 := fun q => h2 ⟨h3, q⟩
      simp [this]
    · simp [h3]
def am_wc (al : Nat → Nat) (kC : Nat → ClassId) (F : FF) (A : AA) (k : Nat) (c : LC) : Nat × va_E := (al k, match c with
  | .inl (ci, fs) => .inr (ci, fs.mapIdx (fun j t => match t with
    | none => Value.int (Int32.ofInt (F k j))
    | some r => Value.ref (al r)))
  | .inr (1, n) => .inl (kC 1, n.toNat, .inr (.inl (fun j => Int64.ofInt (A k j))))
  | .inr (kd, n) => .inl (kC kd, n.toNat, .inl (fun j => Int32.ofInt (A k j))))
def am_ws (al : Nat → Nat) (kC : Nat → ClassId) (lay : List LC) (F : FF) (A : AA) : va_W := lay.mapIdx (am_wc al kC F A)
def am_tys (kC : Nat → ClassId) : List (ClassId × FieldType) := [(kC 0, .int), (kC 1, .long), (kC 2, .byte)]
theorem am_ws_get {al : Nat → Nat} {kC : Nat → ClassId} {lay : List LC} {F : FF} {A : AA} {o : Nat} {c : LC} (h : lay[o]? = some c) : (am_ws al kC lay F A)[o]? = some (am_wc al kC F A o c) := by
  unfold am_ws
  rw [List.getElem?_mapIdx, h]
  rfl
theorem am_ws_set {al : Nat → Nat} {kC : Nat → ClassId} {lay : List LC} {F F' : FF} {A A' : AA} {o : Nat} {c : LC} {e : Nat × va_E} (h : lay[o]? = some c) (he : e = am_wc al kC F' A' o c)
    (hk : ∀ k, k ≠ o → ∀ d, am_wc al kC F A k d = am_wc al kC F' A' k d) : (am_ws al kC lay F A).set o e = am_ws al kC lay F' A' := by
  apply List.ext_getElem?
  intro k
  unfold am_ws
  rw [List.getElem?_set, List.getElem?_mapIdx, List.getElem?_mapIdx]
  by_cases hko : o = k
  · subst hko
    have hlt : o < lay.length := (List.getElem?_eq_some_iff.mp h).1
    rw [if_pos rfl, h, if_pos (by rw [List.length_mapIdx]; exact hlt), he]
    rfl
  · rw [if_neg hko]
    cases hq : lay[k]? with
    | none => rfl
    | some d => simp only [Option.map_some]; rw [hk k (fun q => hko q.symm)]
theorem am_wc_F {al : Nat → Nat} {kC : Nat → ClassId} {F : FF} {A : AA} {o j : Nat} {v : Int} : ∀ k, k ≠ o → ∀ d, am_wc al kC F A k d = am_wc al kC (upF F o j v) A k d := by
  intro k hk d
  have e : ∀ b, upF F o j v k b = F k b := fun b => by simp [upF, hk]
  unfold am_wc
  simp only [e]
theorem am_wc_A {al : Nat → Nat} {kC : Nat → ClassId} {F : FF} {A : AA} {o : Nat} {i v : Int} : ∀ k, k ≠ o → ∀ d, am_wc al kC F A k d = am_wc al kC F (upA A o i v) k d := by
  intro k hk d
  have e : ∀ b, upA A o i v k b = A k b := fun b => by simp [upA, hk]
  unfold am_wc
  simp only [e]
/-- cells apart: by their places alone -/
def am_dis (al : Nat → Nat) (lay : List LC) (As : Nat → Prop) : Prop := (∀ i j, i < lay.length → j < lay.length → al i = al j → i = j) ∧ ∀ i, i < lay.length → As (al i)
theorem am_dis_D {al : Nat → Nat} {kC : Nat → ClassId} {lay : List LC} {As : Nat → Prop} (h : am_dis al lay As) (F : FF) (A : AA) : va_D As (am_ws al kC lay F A) := by
  have key : ∀ (k : Nat) (q : Nat × va_E), (am_ws al kC lay F A)[k]? = some q → k < lay.length ∧ q.1 = al k := by
    intro k q hq
    unfold am_ws at hq
    rw [List.getElem?_mapIdx] at hq
    cases hc : lay[k]? with
    | none => rw [hc] at hq; cases hq
    | some c =>
      rw [hc] at hq
      cases hq
      exact ⟨(List.getElem?_eq_some_iff.mp hc).1, rfl⟩
  refine ⟨fun i j p q hp hq e => ?_, fun k q hq => ?_⟩
  · obtain ⟨h1, h2⟩ := key i p hp
    obtain ⟨h3, h4⟩ := key j q hq
    exact h.1 i j h1 h3 (by rw [← h2, ← h4, e])
  · obtain ⟨h1, h2⟩ := key k q hq
    rw [h2]
    exact h.2 k h1
theorem am_D_dis {al : Nat → Nat} {kC : Nat → ClassId} {lay : List LC} {As : Nat → Prop} {F : FF} {A : AA} (h : va_D As (am_ws al kC lay F A)) : am_dis al lay As := by
  have key : ∀ k, k < lay.length → ∃ q, (am_ws al kC lay F A)[k]? = some q ∧ q.1 = al k := fun k hk => ⟨_, am_ws_get (List.getElem?_eq_getElem hk), rfl⟩
  refine ⟨fun i j hi hj e => ?_, fun i hi => ?_⟩
  · obtain ⟨p, h1, h2⟩ := key i hi
    obtain ⟨q, h3, h4⟩ := key j hj
    exact h.1 i j p q h1 h3 (by rw [h2, h4, e])
  · obtain ⟨p, h1, h2⟩ := key i hi
    rw [← h2]
    exact h.2 i p h1
theorem o32 (x : Int32) : x = Int32.ofInt x.toInt := (Int32.ofInt_toInt x).symm
theorem o64 (x : Int64) : x = Int64.ofInt x.toInt := (Int64.ofInt_toInt x).symm
theorem w32_lt (a b : Int) : Int32.ofInt a < Int32.ofInt b ↔ w32 a < w32 b := Int32.lt_iff_toInt_lt
theorem w32_le (a b : Int) : Int32.ofInt a ≤ Int32.ofInt b ↔ ¬ w32 b < w32 a := by
  rw [Int32.le_iff_toInt_le]; unfold w32; omega
theorem w32_inj (a b : Int) : Int32.ofInt a = Int32.ofInt b ↔ w32 a = w32 b := Int32.toInt_inj.symm
theorem w64_lt (a b : Int) : Int64.ofInt a < Int64.ofInt b ↔ w64 a < w64 b := Int64.lt_iff_toInt_lt
theorem w64_inj (a b : Int) : Int64.ofInt a = Int64.ofInt b ↔ w64 a = w64 b := Int64.toInt_inj.symm
theorem am_in {i n : Int} (h : 0 ≤ w32 i ∧ w32 i < n) : vp_in (Int32.ofInt i) n.toNat ∧ (((Int32.ofInt i).toNatClampNeg : Nat) : Int) = w32 i := by
  refine ⟨vp_in_iff.mpr ⟨h.1, ?_⟩, ?_⟩
  · have : (Int32.ofInt i).toInt = w32 i := rfl
    rw [this]; omega
  · have e : (Int32.ofInt i).toNatClampNeg = (w32 i).toNat := rfl
    rw [e]; omega
theorem am_updI {A : AA} {o : Nat} {i v : Int} {k : Nat} (hk : (k : Int) = i) : upd (fun j : Nat => Int32.ofInt (A o j)) k (Int32.ofInt v) = fun j : Nat => Int32.ofInt (upA A o i v o j) := by
  funext j
  unfold upd upA
  by_cases h : j = k
  · subst h; rw [if_pos rfl, if_pos ⟨rfl, hk⟩]
  · rw [if_neg h, if_neg (fun q => h (by have := q.2; omega))]
theorem am_updL {A : AA} {o : Nat} {i v : Int} {k : Nat} (hk : (k : Int) = i) : vp_updL (fun j : Nat => Int64.ofInt (A o j)) k (Int64.ofInt v) = fun j : Nat => Int64.ofInt (upA A o i v o j) := by
  funext j
  unfold vp_updL upA
  by_cases h : j = k
  · subst h; rw [if_pos rfl, if_pos ⟨rfl, hk⟩]
  · rw [if_neg h, if_neg (fun q => h (by have := q.2; omega))]
/-! what a decoded row must be -/
def am_one (pc : Nat) (off : Int) (ts : List Nat) : Bool := match ts with
  | [t] => decide ((pc : Int) + off = (t : Int))
  | _ => false
def am_swok (pc : Nat) : List Int → List Nat → Bool
  | [], [] => true
  | o :: os, t :: ts => decide ((pc : Int) + o = (t : Int)) && am_swok pc os ts
  | _, _ => false
def am_iok (pc : Nat) (i : Instr) (nx : Nat) (ts : List Nat) : Bool := match i with
  | .iconst _ | .lconst _ | .iload_n _ | .lload_n _ | .aload_n _ | .istore_n _ | .lstore_n _ | .astore_n _ => Nat.beq nx (pc + 1)
  | .iadd | .isub | .imul | .ineg | .idiv | .irem | .iand | .ior | .ishl | .ishr | .iushr => Nat.beq nx (pc + 1)
  | .ladd | .lsub | .lmul | .lneg | .ldiv | .lrem | .lor | .lshl | .lshr | .lushr | .lcmp => Nat.beq nx (pc + 1)
  | .i2l | .l2i | .i2b | .i2c | .pop | .dup | .dup2 | .arraylength | .iaload | .baload | .laload | .iastore | .lastore | .bastore | .ireturn | .lreturn | .return_ => Nat.beq nx (pc + 1)
  | .bipush n => Nat.beq nx (pc + 2) && decide ((Int8.ofInt n).toInt32 = Int32.ofInt n)
  | .sipush n => Nat.beq nx (pc + 3) && decide ((Int16.ofInt n).toInt32 = Int32.ofInt n)
  | .ldc _ | .iload _ | .lload _ | .aload _ | .istore _ | .lstore _ | .astore _ => Nat.beq nx (pc + 2)
  | .ldc_w _ | .ldc2_w _ | .new _ | .iinc _ _ | .getfield _ | .putfield _ | .invokevirtual _ | .invokestatic _ => Nat.beq nx (pc + 3)
  | .goto off | .if_icmp _ off | .ifCond _ off => Nat.beq nx (pc + 3) && am_one pc off ts
  | .tableswitch d lo hi offs => match ts with
    | t :: l => decide ((pc : Int) + d = (t : Int)) && am_swok pc offs.toList l && decide (hi = lo + offs.size - 1) && decide (-2147483648 ≤ lo) && decide (hi < 2147483648)
    | [] => false
  | _ => false
def am_cok (cc : ByteArray) (pc : Nat) (q : CI) : Bool := (match decode cc pc with
  | .ok (i, k) => decide (i = q.1) && Nat.beq q.2.1 (pc + k)
  | .error _ => false) && am_iok pc q.1 q.2.1 q.2.2
theorem am_cok_ok {cc : ByteArray} {pc : Nat} {i : Instr} {nx : Nat} {ts : List Nat} (h : am_cok cc pc (i, nx, ts) = true) : ∃ k, decode cc pc = .ok (i, k) ∧ nx = pc + k ∧ am_iok pc i nx ts = true := by
  unfold am_cok at h
  rw [Bool.and_eq_true] at h
  obtain ⟨h1, h2⟩ := h
  split at h1
  · rename_i i' k' hd
    rw [Bool.and_eq_true] at h1
    obtain ⟨a, b⟩ := h1
    have a := of_decide_eq_true a
    dsimp only at a b
    subst a
    exact ⟨k', hd, Nat.eq_of_beq_eq_true b, h2⟩
  · cases h1
/-- a table of rows: the bytes have them -/
def am_tok (cc : ByteArray) (code : Nat → Option CI) (n : Nat) : Bool := (List.range n).all fun pc => match code pc with
  | some q => am_cok cc pc q
  | none => true
theorem am_tok_ok {cc : ByteArray} {code : Nat → Option CI} {n : Nat} (h : am_tok cc code n = true) (hn : ∀ pc, n ≤ pc → code pc = none) {pc : Nat} {i : Instr} {nx : Nat} {ts : List Nat} (hc : code pc = some (i, nx, ts)) : am_cok cc pc (i, nx, ts) = true := by
  have hlt : pc < n := by
    rcases Nat.lt_or_ge pc n with q | q
    · exact q
    · rw [hn pc q] at hc; cases hc
  have h1 := List.all_eq_true.mp h pc (List.mem_range.mpr hlt)
  rw [hc] at h1
  exact h1
