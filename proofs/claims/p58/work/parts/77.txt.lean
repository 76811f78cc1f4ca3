theorem sk_point (l : Launch) (D : va_G) (kC : Nat → ClassId) (bs L : Nat) (xs : Nat → Int32) (hLb : L < 1000) (ci ki wi : Nat) (hci : ci ≤ 100) (hki : ki ≤ 10) (hwi : wi < 3) (sz : Nat) : Met l yL_point (.code yL_point cL_point 5 (some .int) :: jk_tb) (jr 2 0 0) (va_Pc [.ref bs, .int (nI ci), .int (nI ki), .int (nI wi)] (ws_B D kC (fun B U H => js_G B U H ∧ scX bs L xs B U H) [] sz)) (va_Qi (S := Unit) (fun r _ => r = nI (ptN L xs ci ki wi)) (fun _ _ => True) (va_A [] sz)) 0 0 (va_A [] sz) := by
  rcases (show wi = 0 ∨ wi = 1 ∨ wi = 2 by omega) with rfl | rfl | rfl
  · exact sk_point0 l D kC bs L xs hLb ci ki hci hki sz
  · exact sk_point1 l D kC bs L xs hLb ci ki hci hki sz
  · exact sk_point2 l D kC bs L xs hLb ci ki hci hki sz
def kLimit : List Nat := [115, 101, 116, 32, 108, 105, 109, 105, 116, 32]
def kDepth : List Nat := [59, 115, 101, 116, 32, 100, 101, 112, 116, 104, 32]
def kCurve : List Nat := [99, 117, 114, 118, 101, 32]
def kLine : List Nat := [108, 105, 110, 101, 32]
section TX
variable (L : Nat) (xs : Nat → Int32)
def tx0 : List Nat := kLimit ++ decL (ltN L xs) ++ kDepth ++ decL (dpN L xs) ++ [59]
def txN (c k w : Nat) : List Nat := [32] ++ decL (ptN L xs c k w)
def txP (c k : Nat) : List Nat := txN L xs c k 0 ++ (txN L xs c k 1 ++ txN L xs c k 2)
def txPs (c : Nat) : Nat → List Nat
  | 0 => []
  | k + 1 => txPs c k ++ txP L xs c k
def txH (c : Nat) : List Nat := kCurve ++ [99, 97 + c]
def txC (c : Nat) : List Nat := txH c ++ txPs L xs c (ptC L xs c) ++ [59]
def txCs : Nat → List Nat
  | 0 => []
  | c + 1 => txCs c ++ txC L xs c
def txL (j : Nat) : List Nat := kLine ++ [108, 97 + j] ++ sgL (lnV L xs j 0) ++ sgL (lnV L xs j 1) ++ sgL (lnV L xs j 2) ++ [59]
def txLs : Nat → List Nat
  | 0 => []
  | j + 1 => txLs j ++ txL L xs j
def txT : List Nat := tx0 L xs ++ txCs L xs (cvN L xs) ++ txLs L xs (lnN L xs)
end TX
theorem sb_dg_b {v : Nat} (h : v ≤ 100) : sb_dg v ≤ 3 ∧ (v ≤ 20 → sb_dg v ≤ 2) ∧ (v ≤ 5 → sb_dg v = 1) := by
  refine ⟨(dec_le h).2.1, fun h2 => ?_, fun h2 => (dec_1 (by omega)).1⟩
  by_cases h3 : v < 10
  · rw [(dec_1 h3).1]; decide
  · rw [(dec_2 (by omega) (by omega)).1]; decide
theorem sgL_len {v : Int} (h1 : -100 ≤ v) (h2 : v ≤ 100) : 1 ≤ (sgL v).length ∧ (sgL v).length ≤ 5 ∧ (-5 ≤ v → v ≤ 5 → (sgL v).length ≤ 3) := by
  unfold sgL
  split
  · have := sb_dg_b (v := (-v).toNat) (by omega)
    rw [List.length_append, decL_len]
    refine ⟨by show 1 ≤ 2 + _; omega, by show 2 + _ ≤ 5; omega, fun q1 q2 => ?_⟩
    show 2 + _ ≤ 3
    rw [this.2.2 (by omega)]
    decide
  · have := sb_dg_b (v := v.toNat) (by omega)
    rw [List.length_append, decL_len]
    refine ⟨by show 1 ≤ 1 + _; omega, by show 1 + _ ≤ 5; omega, fun q1 q2 => ?_⟩
    show 1 + _ ≤ 3
    rw [this.2.2 (by omega)]
    decide
theorem txN_len (L : Nat) (xs : Nat → Int32) (c k w : Nat) : (txN L xs c k w).length ≤ 3 := by
  have h1 := (ptN_b (L := L) (xs := xs) (c := c) (k := k) (w := w)).1
  have h2 := (sb_dg_b (v := ptN L xs c k w) (by omega)).2.1 h1
  unfold txN
  rw [List.length_append, decL_len]
  show 1 + _ ≤ 3
  omega
theorem txPs_len (L : Nat) (xs : Nat → Int32) (c : Nat) : ∀ k, (txPs L xs c k).length ≤ 9 * k
  | 0 => Nat.le_refl 0
  | k + 1 => by
    have h0 := txPs_len L xs c k
    have h1 := txN_len L xs c k 0
    have h2 := txN_len L xs c k 1
    have h3 := txN_len L xs c k 2
    unfold txPs txP
    rw [List.length_append, List.length_append, List.length_append]
    omega
theorem txC_len (L : Nat) (xs : Nat → Int32) (c : Nat) : (txC L xs c).length ≤ 45 := by
  have h0 := txPs_len L xs c (ptC L xs c)
  have h1 := (ptC_b (L := L) (xs := xs) (c := c)).2
  unfold txC txH
  rw [List.length_append, List.length_append, List.length_append]
  show 6 + 2 + _ + 1 ≤ 45
  omega
theorem txCs_len (L : Nat) (xs : Nat → Int32) : ∀ c, (txCs L xs c).length ≤ 45 * c
  | 0 => Nat.le_refl 0
  | c + 1 => by
    have h0 := txCs_len L xs c
    have h1 := txC_len L xs c
    unfold txCs
    rw [List.length_append]
    omega
theorem txL_len (L : Nat) (xs : Nat → Int32) (j : Nat) : (txL L xs j).length ≤ 20 := by
  have b0 := lnV_b (L := L) (xs := xs) (j := j) (w := 0)
  have b1 := lnV_b (L := L) (xs := xs) (j := j) (w := 1)
  have b2 := lnV_b (L := L) (xs := xs) (j := j) (w := 2)
  have h0 := (sgL_len b0.1 b0.2.1).2.2 (b0.2.2.1 (by decide)).1 (b0.2.2.1 (by decide)).2
  have h1 := (sgL_len b1.1 b1.2.1).2.2 (b1.2.2.1 (by decide)).1 (b1.2.2.1 (by decide)).2
  have h2 := (sgL_len b2.1 b2.2.1).2.1
  unfold txL
  rw [List.length_append, List.length_append, List.length_append, List.length_append, List.length_append]
  show 5 + 2 + _ + _ + _ + 1 ≤ 20
  omega
theorem txLs_len (L : Nat) (xs : Nat → Int32) : ∀ j, (txLs L xs j).length ≤ 20 * j
  | 0 => Nat.le_refl 0
  | j + 1 => by
    have h0 := txLs_len L xs j
    have h1 := txL_len L xs j
    unfold txLs
    rw [List.length_append]
    omega
theorem tx0_len (L : Nat) (xs : Nat → Int32) : (tx0 L xs).length ≤ 28 := by
  have h1 := (ltN_b (L := L) (xs := xs)).2
  have h2 := (dpN_b (L := L) (xs := xs)).2
  have h3 := (sb_dg_b (v := ltN L xs) (by omega)).2.1 (by omega)
  have h4 := (sb_dg_b (v := dpN L xs) (by omega)).2.1 (by omega)
  unfold tx0
  rw [List.length_append, List.length_append, List.length_append, List.length_append, decL_len, decL_len]
  show 10 + _ + 11 + _ + 1 ≤ 28
  omega
theorem txT_len (L : Nat) (xs : Nat → Int32) : (txT L xs).length ≤ 340 := by
  have h1 := (cvN_b (L := L) (xs := xs)).2
  have h2 := (lnN_b (L := L) (xs := xs)).2
  have h3 := txCs_len L xs (cvN L xs)
  have h4 := txLs_len L xs (lnN L xs)
  have h5 := tx0_len L xs
  unfold txT
  rw [List.length_append, List.length_append]
  omega
/-- the law's constants -/
def js_C : RoP := fun B U H => js_K 55 "set limit " kLimit B U H ∧ js_K 61 ";set depth " kDepth B U H ∧ js_K 66 ";" [59] B U H ∧ js_K 71 "curve " kCurve B U H ∧ js_K 73 "c" [99] B U H ∧ js_K 21 " " [32] B U H ∧ js_K 89 "line " kLine B U H ∧ js_K 91 "l" [108] B U H ∧ js_K 50 " -" [32, 45] B U H
theorem Stb_C : Stb js_C := Stb_and (Stb_K _ _ _) (Stb_and (Stb_K _ _ _) (Stb_and (Stb_K _ _ _) (Stb_and (Stb_K _ _ _) (Stb_and (Stb_K _ _ _) (Stb_and (Stb_K _ _ _) (Stb_and (Stb_K _ _ _) (Stb_and (Stb_K _ _ _) (Stb_K _ _ _))))))))
