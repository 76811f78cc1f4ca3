/-! meetings: spreading over neighbours, as a run of joins -/
theorem x_and_p2 {a D : Int} (h : 0 ≤ D) (h1 : D ≤ 6) : x_and a (p2 D - 1) = a % p2 D := by
  obtain ⟨n, rfl⟩ : ∃ n : Nat, D = n := ⟨D.toNat, by omega⟩
  have e : p2 (n : Int) = ((2 ^ n : Nat) : Int) := by
    unfold p2
    rw [show (n : Int).toNat = n by omega, Int.natCast_pow]; rfl
  have hp : 0 < 2 ^ n := Nat.two_pow_pos n
  rw [e, show ((2 ^ n : Nat) : Int) - 1 = ((2 ^ n - 1 : Nat) : Int) by omega]
  exact x_and_mask n (by omega)
/-- the place of the pair number k among the first m places; -1 -/
def pkF (g : Int → Int) (k : Int) : Nat → Int
  | 0 => -1
  | m + 1 => if pkF g k m = -1 then (if g m = -2 then -1 else if cntP g m = k then m else -1) else pkF g k m
theorem pkF_s {g : Int → Int} {k m : Int} (h : 0 ≤ m) : pkF g k (Int.toNat (m + 1)) = if pkF g k (Int.toNat m) = -1 then (if g m = -2 then -1 else if cntP g (Int.toNat m) = k then m else -1) else pkF g k (Int.toNat m) := by
  obtain ⟨j, rfl⟩ : ∃ j : Nat, m = j := ⟨m.toNat, by omega⟩
  rw [show Int.toNat ((j : Int) + 1) = j + 1 by omega, show Int.toNat (j : Int) = j by omega]; rfl
theorem pkF_mono {g : Int → Int} {k : Int} {m : Nat} (h : ¬ pkF g k m = -1) : ∀ d : Nat, pkF g k (m + d) = pkF g k m
  | 0 => rfl
  | d + 1 => by
    have ih := pkF_mono h d
    show pkF g k (m + d + 1) = _
    conv => lhs; unfold pkF
    rw [ih, if_neg h]
def pkR (g : Int → Int) (S k : Int) : Int := if pkF g k (Int.toNat (S * S)) = -1 then -1 else 100 * (pkF g k (Int.toNat (S * S)) / S) + pkF g k (Int.toNat (S * S)) % S
abbrev BS : Type := (Int → Int) × (Int → Int) × Int
def up1 (f : Int → Int) (i v : Int) : Int → Int := fun j => if j = i then v else f j
theorem upA_up1 {A : AA} {n : Nat} {i v : Int} : upA A n i v n = up1 (A n) i v := by
  funext j
  unfold upA up1
  by_cases h : j = i
  · rw [if_pos ⟨rfl, h⟩, if_pos h]
  · rw [if_neg (fun z => h z.2), if_neg h]
def ixF (S r c : Int) : Int := if 0 ≤ r ∧ r < S ∧ 0 ≤ c ∧ c < S then r * S + c else -1
def joinF (s : BS) (i v : Int) : BS := if 0 ≤ i ∧ i < 4096 ∧ s.1 i = -1 ∧ s.2.2 < 4096 then (up1 s.1 i v, up1 s.2.1 s.2.2 i, s.2.2 + 1) else s
def colsF (S v : Int) (s : BS) (r o : Int) : Nat → BS
  | 0 => s
  | b + 1 => joinF (colsF S v s r o b) (ixF S r (o - 1 + b)) v
def rowsF (S v : Int) (s : BS) (q o : Int) : Nat → BS
  | 0 => s
  | a + 1 => colsF S v (rowsF S v s q o a) (q - 1 + a) o 3
def sprF (S v : Int) : Nat → BS → Int → BS
  | 0, s, _ => s
  | f + 1, s, h => if h < s.2.2 then sprF S v f (rowsF S v s (s.2.1 h / S) (s.2.1 h % S) 3) (h + 1) else s
/-- marks and places in their ranges -/
def okS (S : Int) (s : BS) : Prop := (∀ i, -2 ≤ s.1 i ∧ s.1 i < 5000) ∧ (∀ j, 0 ≤ j → j < s.2.2 → 0 ≤ s.2.1 j ∧ s.2.1 j < S * S) ∧ 0 ≤ s.2.2 ∧ s.2.2 ≤ 4096
theorem joinF_ok {S i v : Int} {s : BS} (h : okS S s) (hi : i = -1 ∨ 0 ≤ i ∧ i < S * S) (hv : 0 ≤ v) (hv2 : v < 5000) : okS S (joinF s i v) := by
  unfold joinF
  split
  · rename_i c
    obtain ⟨a, b, d, e⟩ := h
    refine ⟨fun k => ?_, fun j j0 j1 => ?_, by dsimp only; omega, by dsimp only; omega⟩
    · dsimp only; unfold up1
      split
      · omega
      · exact a k
    · dsimp only at j1 ⊢; unfold up1
      split
      · omega
      · exact b j j0 (by omega)
  · exact h
theorem ixF_r {S r c : Int} : ixF S r c = -1 ∨ 0 ≤ ixF S r c ∧ ixF S r c < S * S := by
  unfold ixF
  split
  · rename_i h; exact Or.inr (ix_b h.1 h.2.1 h.2.2.1 h.2.2.2)
  · exact Or.inl rfl
theorem joinF_n {s : BS} {i v : Int} : s.2.2 ≤ (joinF s i v).2.2 := by
  unfold joinF
  split
  · dsimp only; omega
  · exact Int.le_refl _
theorem colsF_n {S v r o : Int} {s : BS} : ∀ b : Nat, s.2.2 ≤ (colsF S v s r o b).2.2
  | 0 => Int.le_refl _
  | b + 1 => by have := colsF_n (S := S) (v := v) (r := r) (o := o) (s := s) b; unfold colsF; have := @joinF_n (colsF S v s r o b) (ixF S r (o - 1 + b)) v; omega
theorem rowsF_n {S v q o : Int} {s : BS} : ∀ a : Nat, s.2.2 ≤ (rowsF S v s q o a).2.2
  | 0 => Int.le_refl _
  | a + 1 => by have := rowsF_n (S := S) (v := v) (q := q) (o := o) (s := s) a; unfold rowsF; have := @colsF_n S v (q - 1 + a) o (rowsF S v s q o a) 3; omega
theorem colsF_ok {S v r o : Int} {s : BS} (h : okS S s) (hv : 0 ≤ v) (hv2 : v < 5000) : ∀ b : Nat, okS S (colsF S v s r o b)
  | 0 => h
  | b + 1 => joinF_ok (colsF_ok h hv hv2 b) ixF_r hv hv2
theorem rowsF_ok {S v q o : Int} {s : BS} (h : okS S s) (hv : 0 ≤ v) (hv2 : v < 5000) : ∀ a : Nat, okS S (rowsF S v s q o a)
  | 0 => h
  | a + 1 => colsF_ok (rowsF_ok h hv hv2 a) hv hv2 3
/-- the class's grid holds a state -/
def gsP (F : FF) (A : AA) (s : BS) : Prop := A 20 = s.1 ∧ A 21 = s.2.1 ∧ F 19 2 = s.2.2
def gsF (F G : FF) (A B : AA) : Prop := (∀ b i, b ≠ 20 ∧ b ≠ 21 → B b i = A b i) ∧ ∀ a b, a ≠ 19 ∨ b ≠ 2 → G a b = F a b
theorem gsF_id {F : FF} {A : AA} : gsF F F A A := ⟨fun _ _ _ => rfl, fun _ _ _ => rfl⟩
theorem gsF_trans {F G H : FF} {A B C : AA} (h1 : gsF F G A B) (h2 : gsF G H B C) : gsF F H A C := ⟨fun b i hb => (h2.1 b i hb).trans (h1.1 b i hb), fun a b hb => (h2.2 a b hb).trans (h1.2 a b hb)⟩
theorem sprF_s {S v h : Int} {s : BS} (h0 : 0 ≤ h) (h1 : h ≤ 4096) : sprF S v (Int.toNat (4097 - h)) s h = if h < s.2.2 then sprF S v (Int.toNat (4096 - h)) (rowsF S v s (s.2.1 h / S) (s.2.1 h % S) 3) (h + 1) else s := by
  rw [show Int.toNat (4097 - h) = Int.toNat (4096 - h) + 1 by omega]; rfl
theorem colsF_s {S v r o b : Int} {s : BS} (h : 0 ≤ b) : colsF S v s r o (Int.toNat (b + 1)) = joinF (colsF S v s r o (Int.toNat b)) (ixF S r (o - 1 + b)) v := by
  obtain ⟨j, rfl⟩ : ∃ j : Nat, b = j := ⟨b.toNat, by omega⟩
  rw [show Int.toNat ((j : Int) + 1) = j + 1 by omega, show Int.toNat (j : Int) = j by omega]; rfl
theorem rowsF_s {S v q o a : Int} {s : BS} (h : 0 ≤ a) : rowsF S v s q o (Int.toNat (a + 1)) = colsF S v (rowsF S v s q o (Int.toNat a)) (q - 1 + a) o 3 := by
  obtain ⟨j, rfl⟩ : ∃ j : Nat, a = j := ⟨a.toNat, by omega⟩
  rw [show Int.toNat ((j : Int) + 1) = j + 1 by omega, show Int.toNat (j : Int) = j by omega]; rfl
theorem gsP_eq {F : FF} {A : AA} {s : BS} (h : gsP F A s) : (A 20, A 21, F 19 2) = s := by
  obtain ⟨a, b, c⟩ := h
  rw [a, b, c]
theorem gsP_of {F : FF} {A : AA} {s : BS} (h : (A 20, A 21, F 19 2) = s) : gsP F A s := by rw [← h]; exact ⟨rfl, rfl, rfl⟩
