/-! the model's text: its state of reading -/
abbrev PS : Type := Int × Int × TK
/-- error, its place; place, position, token, value -/
def psF (F : FF) : PS := (F 25 26, F 25 27, F 25 22, F 25 21, F 25 23, F 25 24)
def psS (F : FF) (s : PS) : FF := fun a b => if a = 25 ∧ b = 26 then s.1 else if a = 25 ∧ b = 27 then s.2.1 else if a = 25 ∧ b = 22 then s.2.2.1 else if a = 25 ∧ b = 21 then s.2.2.2.1 else if a = 25 ∧ b = 23 then s.2.2.2.2.1 else if a = 25 ∧ b = 24 then s.2.2.2.2.2 else F a b
theorem psF_S {F : FF} {s : PS} : psF (psS F s) = s := rfl
theorem psS_o {F : FF} {s : PS} {a b : Nat} (h : ¬ (a = 25 ∧ (b = 26 ∨ b = 27 ∨ b = 22 ∨ b = 21 ∨ b = 23 ∨ b = 24))) : psS F s a b = F a b := by
  unfold psS
  rw [if_neg (by omega), if_neg (by omega), if_neg (by omega), if_neg (by omega), if_neg (by omega), if_neg (by omega)]
theorem psS_of {F G : FF} {s : PS} (h0 : ∀ a b, ¬ (a = 25 ∧ (b = 26 ∨ b = 27 ∨ b = 22 ∨ b = 21 ∨ b = 23 ∨ b = 24)) → G a b = F a b) (h : psF G = s) : G = psS F s := by
  funext a b
  by_cases z : a = 25 ∧ (b = 26 ∨ b = 27 ∨ b = 22 ∨ b = 21 ∨ b = 23 ∨ b = 24)
  · obtain ⟨rfl, z⟩ := z
    rcases z with rfl | rfl | rfl | rfl | rfl | rfl <;> (rw [← h]; rfl)
  · rw [psS_o z]; exact h0 a b z
theorem psS_F {F : FF} : psS F (psF F) = F := (psS_of (fun _ _ _ => rfl) rfl).symm
theorem psS_S {F : FF} {s t : PS} : psS (psS F s) t = psS F t := psS_of (fun a b h => (psS_o h).trans (psS_o h)) rfl
theorem psS_up {F : FF} {s : PS} {j : Nat} {v : Int} (h : ¬ (j = 26 ∨ j = 27 ∨ j = 22 ∨ j = 21 ∨ j = 23 ∨ j = 24)) : psS (upF F 25 j v) s = upF (psS F s) 25 j v := by
  funext a b
  by_cases e : a = 25 ∧ b = j
  · rw [e.1, e.2, upF_s, psS_o (by omega), upF_s]
  · rw [upF_o (by omega)]
    by_cases z : a = 25 ∧ (b = 26 ∨ b = 27 ∨ b = 22 ∨ b = 21 ∨ b = 23 ∨ b = 24)
    · obtain ⟨rfl, z⟩ := z
      rcases z with rfl | rfl | rfl | rfl | rfl | rfl <;> rfl
    · rw [psS_o z, psS_o z, upF_o (by omega)]
/-- an error noted once -/
def fiP (s : PS) (z v : Int) : PS := if s.1 = 0 ∧ z = 1 then (v, s.2.2.1, s.2.2) else s
theorem fiP_t {s : PS} {z v : Int} (h : s.1 = 0 ∧ z = 1) : fiP s z v = (v, s.2.2.1, s.2.2) := if_pos h
theorem fiP_f {s : PS} {z v : Int} (h : ¬ (s.1 = 0 ∧ z = 1)) : fiP s z v = s := if_neg h
/-- whether a stretch of a text is a word; which word of the format it is -/
abbrev wdE (T : Int → Int) (p e : Int) (L : List Int) : Prop := e - p = L.length ∧ ∀ k : Nat, k < L.length → T (p + k) = L.getD k 0
def wdX (T : Int → Int) (p e : Int) : Int :=
  if wdE T p e [99, 117, 114, 118, 101] then 0 else if wdE T p e [108, 105, 110, 101] then 1 else if wdE T p e [115, 101, 116] then 2 else if wdE T p e [108, 105, 109, 105, 116] then 3 else if wdE T p e [100, 101, 112, 116, 104] then 4 else -1
theorem wdX_b (T : Int → Int) (p e : Int) : -1 ≤ wdX T p e ∧ wdX T p e ≤ 4 := by
  unfold wdX
  split
  · omega
  · split
    · omega
    · split
      · omega
      · split
        · omega
        · split <;> omega
/-- digits, as the model adds them up -/
def ivM (T : Int → Int) (n s : Int) : Nat → Int
  | 0 => 0
  | k + 1 => if 100000 < ivM T n s k then ivM T n s k else 10 * ivM T n s k + sgT T n (s + k) - 48
theorem ivM_s {T : Int → Int} {n s k : Int} (h : 0 ≤ k) : ivM T n s (Int.toNat (k + 1)) = if 100000 < ivM T n s (Int.toNat k) then ivM T n s (Int.toNat k) else 10 * ivM T n s (Int.toNat k) + sgT T n (s + k) - 48 := by
  obtain ⟨j, rfl⟩ : ∃ j : Nat, k = j := ⟨k.toNat, by omega⟩
  rw [show Int.toNat ((j : Int) + 1) = j + 1 by omega, show Int.toNat (j : Int) = j by omega]; rfl
/-- the next token of the model: 0 word, 1 integer, 2 end of a statement, 3 end, 4 other -/
def nxQ (T : Int → Int) (n v p : Int) : TK :=
  if n ≤ p then (p, p, 3, v)
  else if ltP (sgT T n p) then (p, runL T n (Int.toNat (n - p)) p, 0, wdX T p (runL T n (Int.toNat (n - p)) p))
  else if dgP (sgT T n p) then (p, runD T n (Int.toNat (n - p)) p, 1, ivM T n p (Int.toNat (runD T n (Int.toNat (n - p)) p - p)))
  else (p, p + 1, if sgT T n p = 59 then 2 else 4, v)
def nxK (T : Int → Int) (n : Int) (t : TK) : TK := nxQ T n t.2.2.2 (runB T n (Int.toNat (n - t.2.1)) t.2.1)
def goM (T : Int → Int) (n : Int) (s : PS) : PS := if s.1 = 0 then (s.1, s.2.1, nxK T n s.2.2) else s
def inS (a b : Int) (s : PS) : PS := fiP (fiP s (if s.2.2.2.2.1 = 1 then 0 else 1) (-11)) (if s.2.2.2.2.2 < a ∨ b < s.2.2.2.2.2 then 1 else 0) (-12)
def inV (a b : Int) (s : PS) : Int := if (inS a b s).1 = 0 then s.2.2.2.2.2 else a
/-- what holds of the state over a text of n signs -/
def psOK (n : Int) (s : PS) : Prop := (-14 ≤ s.1 ∧ s.1 ≤ 0) ∧ (0 ≤ s.2.1 ∧ s.2.1 ≤ 800) ∧ (0 ≤ s.2.2.1 ∧ s.2.2.1 ≤ n) ∧ (s.2.2.1 ≤ s.2.2.2.1 ∧ s.2.2.2.1 ≤ n) ∧ (0 ≤ s.2.2.2.2.1 ∧ s.2.2.2.2.1 ≤ 4) ∧ (s.2.2.2.2.1 ≠ 3 → s.2.2.1 < s.2.2.2.1) ∧ -1 ≤ s.2.2.2.2.2 ∧ s.2.2.2.2.2 ≤ 2000000
/-- bytes without a sign -/
def byO (T : Int → Int) : Prop := ∀ i, 0 ≤ i → i < 800 → 0 ≤ T i ∧ T i ≤ 255
theorem sg_by {T : Int → Int} {n p : Int} (h : byO T) (hn : n ≤ 800) (p0 : 0 ≤ p) : (if p < n then T p else -1) = sgT T n p := by
  unfold sgT
  by_cases z : p < n
  · have := h p p0 (by omega)
    rw [if_pos z, if_pos ⟨p0, z⟩]; omega
  · rw [if_neg z, if_neg (by omega)]
theorem ivM_b {T : Int → Int} {n s : Int} : ∀ m : Nat, (∀ k : Nat, k < m → dgP (sgT T n (s + k))) → 0 ≤ ivM T n s m ∧ ivM T n s m ≤ 1000009
  | 0, _ => ⟨Int.le_refl 0, by show (0 : Int) ≤ 1000009; decide⟩
  | m + 1, h => by
    have a := ivM_b m (fun k hk => h k (by omega))
    have b := h m (by omega)
    unfold ivM
    split <;> omega
theorem nxK_ok {T : Int → Int} {n : Int} {s : PS} (h : psOK n s) (hn : 0 ≤ n) (h2 : n ≤ 800) : psOK n (s.1, s.2.1, nxK T n s.2.2) := by
  obtain ⟨h1, h3, h4, h5, h6, h7, h8⟩ := h
  have a := runB_b T n (Int.toNat (n - s.2.2.2.1)) s.2.2.2.1
  unfold nxK nxQ
  generalize runB T n (Int.toNat (n - s.2.2.2.1)) s.2.2.2.1 = p at a ⊢
  unfold psOK
  dsimp only
  by_cases z : n ≤ p
  · rw [if_pos z]; dsimp only; omega
  · rw [if_neg z]
    by_cases z1 : ltP (sgT T n p)
    · rw [if_pos z1]
      have b := runL_b T n (Int.toNat (n - p)) p
      have c := runL_s (T := T) (n := n) (p := p) (by omega)
      rw [if_pos z1] at c
      have d := runL_b T n (Int.toNat (n - (p + 1))) (p + 1)
      have w := wdX_b T p (runL T n (Int.toNat (n - p)) p)
      dsimp only; omega
    · rw [if_neg z1]
      by_cases z2 : dgP (sgT T n p)
      · rw [if_pos z2]
        have b := runD_b T n (Int.toNat (n - p)) p
        have c := runD_s (T := T) (n := n) (p := p) (by omega)
        rw [if_pos z2] at c
        have d := runD_b T n (Int.toNat (n - (p + 1))) (p + 1)
        have w := ivM_b (T := T) (n := n) (s := p) (Int.toNat (runD T n (Int.toNat (n - p)) p - p)) (fun k hk => runD_dg T n (Int.toNat (n - p)) p k (by omega))
        dsimp only; omega
      · rw [if_neg z2]; dsimp only
        split <;> omega
theorem goM_ok {T : Int → Int} {n : Int} {s : PS} (h : psOK n s) (hn : 0 ≤ n) (h2 : n ≤ 800) : psOK n (goM T n s) := by
  unfold goM
  split
  · exact nxK_ok h hn h2
  · exact h
theorem fiP_ok {n z v : Int} {s : PS} (h : psOK n s) (h2 : n ≤ 800) (hv : -14 ≤ v ∧ v ≤ 0) : psOK n (fiP s z v) := by
  unfold fiP
  split
  · obtain ⟨h1, h3, h4, h5, h6, h7, h8⟩ := h
    unfold psOK; dsimp only; omega
  · exact h
theorem inS_ok {n a b : Int} {s : PS} (h : psOK n s) (h2 : n ≤ 800) : psOK n (inS a b s) := fiP_ok (fiP_ok h h2 (by decide)) h2 (by decide)
