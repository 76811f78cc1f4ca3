/-! what a question may change -/
def caAll (A : AA) : Prop := ∀ c, 0 ≤ c → c < 8 → caOK A c
theorem caAll_c {A B : AA} (h10 : B 10 = A 10) (h11 : B 11 = A 11) (h12 : B 12 = A 12) (h13 : B 13 = A 13) (h : caAll A) : caAll B := by
  intro c c0 c1
  have := h c c0 c1
  unfold caOK exOK ndOK exOK at this ⊢
  rw [h10, h11, h12, h13]
  exact this
/-- the grid's marks in their range -/
def r20 (A : AA) : Prop := ∀ j, -2 ≤ A 20 j ∧ A 20 j < 5000
theorem r20_c {A B : AA} (h : B 20 = A 20) (k : r20 A) : r20 B := fun j => by rw [h]; exact k j
def qrP (F G : FF) (A B : AA) : Prop := (∀ a b, a ≠ 14 ∧ a ≠ 19 ∧ a ≠ 22 ∧ a ≠ 24 → G a b = F a b) ∧ (∀ b i, (b < 10 ∨ b = 14 ∨ b = 19 ∨ b = 22 ∨ 24 ≤ b) → B b i = A b i) ∧ (caAll A → caAll B) ∧ (r20 A → r20 B)
theorem qrP_id {F : FF} {A : AA} : qrP F F A A := ⟨fun _ _ _ => rfl, fun _ _ _ => rfl, fun h => h, fun h => h⟩
theorem qrP_trans {F G H : FF} {A B C : AA} (h1 : qrP F G A B) (h2 : qrP G H B C) : qrP F H A C := ⟨fun a b h => (h2.1 a b h).trans (h1.1 a b h), fun b i h => (h2.2.1 b i h).trans (h1.2.1 b i h), fun h => h2.2.2.1 (h1.2.2.1 h), fun h => h2.2.2.2 (h1.2.2.2 h)⟩
theorem qrP_of {F G : FF} {A B : AA} (h1 : ∀ a b, a ≠ 14 ∧ a ≠ 19 ∧ a ≠ 22 ∧ a ≠ 24 → G a b = F a b) (h2 : ∀ b i, (b < 14 ∨ b = 14 ∨ b = 19 ∨ b = 20 ∨ b = 22 ∨ 24 ≤ b) → B b i = A b i) : qrP F G A B := ⟨h1, fun b i h => h2 b i (by omega), caAll_c (funext fun i => h2 10 i (by omega)) (funext fun i => h2 11 i (by omega)) (funext fun i => h2 12 i (by omega)) (funext fun i => h2 13 i (by omega)), r20_c (funext fun i => h2 20 i (by omega))⟩
theorem rowL_len {g : Int → Int} {L : List Int} {k : Int} (h : rowL g 0 L) (h0 : 0 ≤ k) (h1 : k < L.length) : g k = L.getD k.toNat 0 := by
  have hl : k.toNat < L.length := by omega
  have := rowL_at L 0 h k.toNat (L[k.toNat]'hl) (List.getElem?_eq_getElem hl)
  rw [show (0 : Int) + (k.toNat : Nat) = k by omega] at this
  rw [this, List.getD_eq_getElem?_getD, List.getElem?_eq_getElem hl]; rfl
def huL (f : Int → Int) (c : Int) : List Int := wrF f c (f (18 + c)) (lfF f c (Int.toNat (f (18 + c) - 1))) 4 (lfF f c (Int.toNat (f (18 + c) - 1)))
theorem wrF_len {f : Int → Int} {c n x : Int} : ∀ (m : Nat) (a : Int), (wrF f c n x m a).length ≤ m
  | 0, _ => Nat.le_refl 0
  | m + 1, a => by
    unfold wrF
    simp only [List.length_cons]
    split
    · simp
    · have := wrF_len (f := f) (c := c) (n := n) (x := x) m (caF f c a (Int.toNat n)); omega
