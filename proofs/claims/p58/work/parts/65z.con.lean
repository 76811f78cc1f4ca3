/-! the world as a written list -/
def am_fo (al : Nat → Nat) (F : FF) (k : Nat) : List (Option Nat) → Nat → List Value
  | [], _ => []
  | none :: l, j => .int (Int32.ofInt (F k j)) :: am_fo al F k l (j + 1)
  | some r :: l, j => .ref (al r) :: am_fo al F k l (j + 1)
def am_wd (al : Nat → Nat) (kC : Nat → ClassId) (F : FF) (A : AA) (k : Nat) (c : LC) : Nat × va_E := (al k, match c with
  | .inl (ci, fs) => .inr (ci, am_fo al F k fs 0)
  | .inr (1, n) => .inl (kC 1, n.toNat, .inr (.inl (fun j => Int64.ofInt (A k j))))
  | .inr (kd, n) => .inl (kC kd, n.toNat, .inl (fun j => Int32.ofInt (A k j))))
def am_wl (al : Nat → Nat) (kC : Nat → ClassId) (F : FF) (A : AA) : List LC → Nat → va_W
  | [], _ => []
  | c :: l, k => am_wd al kC F A k c :: am_wl al kC F A l (k + 1)
theorem am_fo_get (al : Nat → Nat) (F : FF) (k : Nat) : ∀ (l : List (Option Nat)) (j i : Nat), (am_fo al F k l j)[i]? = (l[i]?).map (fun t => match t with
    | none => Value.int (Int32.ofInt (F k (j + i)))
    | some r => Value.ref (al r))
  | [], _, _ => rfl
  | none :: l, j, 0 => rfl
  | some r :: l, j, 0 => rfl
  | none :: l, j, i + 1 => by
    rw [am_fo, List.getElem?_cons_succ, List.getElem?_cons_succ, am_fo_get al F k l (j + 1) i, show j + 1 + i = j + (i + 1) by omega]
  | some r :: l, j, i + 1 => by
    rw [am_fo, List.getElem?_cons_succ, List.getElem?_cons_succ, am_fo_get al F k l (j + 1) i, show j + 1 + i = j + (i + 1) by omega]
theorem am_wd_eq (al : Nat → Nat) (kC : Nat → ClassId) (F : FF) (A : AA) (k : Nat) (c : LC) : am_wc al kC F A k c = am_wd al kC F A k c := by
  match c with
  | .inl (ci, fs) =>
    refine Prod.ext rfl (congrArg Sum.inr (Prod.ext rfl ?_))
    apply List.ext_getElem?
    intro i
    show (fs.mapIdx _)[i]? = (am_fo al F k fs 0)[i]?
    rw [am_fo_get, List.getElem?_mapIdx, Nat.zero_add]
    cases fs[i]? with
    | none => rfl
    | some t => cases t <;> rfl
  | .inr (0, n) => rfl
  | .inr (1, n) => rfl
  | .inr (m + 2, n) => rfl
theorem am_wl_get (al : Nat → Nat) (kC : Nat → ClassId) (F : FF) (A : AA) : ∀ (l : List LC) (j i : Nat), (am_wl al kC F A l j)[i]? = (l[i]?).map (am_wd al kC F A (j + i))
  | [], _, _ => rfl
  | c :: l, j, 0 => rfl
  | c :: l, j, i + 1 => by
    rw [am_wl, List.getElem?_cons_succ, List.getElem?_cons_succ, am_wl_get al kC F A l (j + 1) i, show j + 1 + i = j + (i + 1) by omega]
theorem am_ws_wl (al : Nat → Nat) (kC : Nat → ClassId) (lay : List LC) (F : FF) (A : AA) : am_ws al kC lay F A = am_wl al kC F A lay 0 := by
  apply List.ext_getElem?
  intro i
  unfold am_ws
  rw [am_wl_get, List.getElem?_mapIdx, Nat.zero_add]
  cases lay[i]? with
  | none => rfl
  | some c => exact congrArg some (am_wd_eq al kC F A i c)
