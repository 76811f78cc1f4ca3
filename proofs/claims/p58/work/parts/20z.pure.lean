/-! pairs of cells -/
def mtX (A : AA) (c o : Int) : Int → Int → Int → Prop := fun l q r => meetP A c (p2 l - 1 + q) o (p2 l - 1 + r)
theorem mtX_c {A B : AA} {c o : Int} (h : B 10 = A 10) (h2 : B 11 = A 11) : mtX B c o = mtX A c o := by unfold mtX meetP; rw [h, h2]
/-- pairs below two cells of a depth l: M tells whether boxes meet -/
def prF (M : Int → Int → Int → Prop) (D : Int) : Nat → Int → Int → Int → Int → Int → Prop
  | 0, _, _, _, _, _ => False
  | f + 1, l, q, r, i, j => M l q r ∧ if D ≤ l then i = q ∧ j = r else prF M D f (l + 1) (2 * q) (2 * r) i j ∨ prF M D f (l + 1) (2 * q) (2 * r + 1) i j ∨ prF M D f (l + 1) (2 * q + 1) (2 * r) i j ∨ prF M D f (l + 1) (2 * q + 1) (2 * r + 1) i j
def mk2 (A B : AA) (S : Int) (P : Int → Int → Prop) : Prop := (∀ b i, b ≠ 20 ∨ i < 0 ∨ S * S ≤ i → B b i = A b i) ∧ ∀ i j, 0 ≤ i → i < S → 0 ≤ j → j < S → (P i j → B 20 (i * S + j) = -1) ∧ (¬ P i j → B 20 (i * S + j) = A 20 (i * S + j))
theorem mk2_trans {A B C : AA} {S : Int} {P Q : Int → Int → Prop} (h1 : mk2 A B S P) (h2 : mk2 B C S Q) : mk2 A C S (fun i j => P i j ∨ Q i j) := by
  refine ⟨fun b i hb => (h2.1 b i hb).trans (h1.1 b i hb), fun i j i0 i1 j0 j1 => ⟨fun z => ?_, fun z => ?_⟩⟩
  · by_cases hq : Q i j
    · exact (h2.2 i j i0 i1 j0 j1).1 hq
    · rw [(h2.2 i j i0 i1 j0 j1).2 hq]
      exact (h1.2 i j i0 i1 j0 j1).1 (z.resolve_right hq)
  · rw [(h2.2 i j i0 i1 j0 j1).2 (fun y => z (Or.inr y)), (h1.2 i j i0 i1 j0 j1).2 (fun y => z (Or.inl y))]
theorem mk2_c {A B : AA} {S : Int} {P Q : Int → Int → Prop} (h : mk2 A B S P) (e : ∀ i j, P i j ↔ Q i j) : mk2 A B S Q := ⟨h.1, fun i j i0 i1 j0 j1 => ⟨fun z => (h.2 i j i0 i1 j0 j1).1 ((e i j).mpr z), fun z => (h.2 i j i0 i1 j0 j1).2 (fun y => z ((e i j).mp y))⟩⟩
theorem mk2_id {A : AA} {S : Int} {P : Int → Int → Prop} (h : ∀ i j, ¬ P i j) : mk2 A A S P := ⟨fun _ _ _ => rfl, fun i j _ _ _ _ => ⟨fun z => absurd z (h i j), fun _ => rfl⟩⟩
theorem ix_div {S i j : Int} (h0 : 0 ≤ j) (h1 : j < S) : (i * S + j) / S = i := by
  rw [Int.add_comm, Int.add_mul_ediv_right _ _ (by omega), Int.ediv_eq_zero_of_lt h0 h1, Int.zero_add]
theorem ix_mod {S i j : Int} (h0 : 0 ≤ j) (h1 : j < S) : (i * S + j) % S = j := by
  rw [Int.add_comm, Int.add_mul_emod_self_right, Int.emod_eq_of_lt h0 h1]
theorem ix_inj {S i j q r : Int} (h0 : 0 ≤ j) (h1 : j < S) (h2 : 0 ≤ r) (h3 : r < S) (h : i * S + j = q * S + r) : i = q ∧ j = r := by
  have a := ix_div (i := i) h0 h1
  have b := ix_mod (i := i) h0 h1
  rw [h] at a b
  rw [ix_div h2 h3] at a
  rw [ix_mod h2 h3] at b
  exact ⟨a.symm, b.symm⟩
theorem ix_b {S i j : Int} (i0 : 0 ≤ i) (i1 : i < S) (j0 : 0 ≤ j) (j1 : j < S) : 0 ≤ i * S + j ∧ i * S + j < S * S := by
  have h1 : 0 ≤ i * S := Int.mul_nonneg i0 (by omega)
  have h2 : (i + 1) * S ≤ S * S := Int.mul_le_mul_of_nonneg_right (by omega) (by omega)
  rw [Int.add_mul, Int.one_mul] at h2
  omega
theorem mk2_put {A : AA} {S q r : Int} {P : Int → Int → Prop} (q0 : 0 ≤ q) (q1 : q < S) (r0 : 0 ≤ r) (r1 : r < S) (e : ∀ i j, P i j ↔ i = q ∧ j = r) : mk2 A (upA A 20 (q * S + r) (-1)) S P := by
  have hb := ix_b q0 q1 r0 r1
  refine ⟨fun b i h => ?_, fun i j i0 i1 j0 j1 => ⟨fun z => ?_, fun z => ?_⟩⟩
  · unfold upA; rw [if_neg (by omega)]
  · obtain ⟨rfl, rfl⟩ := (e i j).mp z
    exact upA_s
  · exact upA_o (fun y => z ((e i j).mpr (ix_inj j0 j1 r0 r1 y)))
theorem prF_no {M : Int → Int → Int → Prop} {D : Int} {f : Nat} {l q r : Int} (h : ¬ M l q r) (i j : Int) : ¬ prF M D (f + 1) l q r i j := fun z => by unfold prF at z; exact h z.1
theorem prF_leaf {M : Int → Int → Int → Prop} {D : Int} {f : Nat} {l q r : Int} (h : M l q r) (hD : D ≤ l) (i j : Int) : prF M D (f + 1) l q r i j ↔ i = q ∧ j = r := by
  unfold prF
  rw [if_pos hD]
  exact ⟨fun z => z.2, fun z => ⟨h, z⟩⟩
theorem prF_kids {M : Int → Int → Int → Prop} {D : Int} {f : Nat} {l q r : Int} (h : M l q r) (hD : ¬ D ≤ l) (i j : Int) : prF M D (f + 1) l q r i j ↔ prF M D f (l + 1) (2 * q) (2 * r) i j ∨ prF M D f (l + 1) (2 * q) (2 * r + 1) i j ∨ prF M D f (l + 1) (2 * q + 1) (2 * r) i j ∨ prF M D f (l + 1) (2 * q + 1) (2 * r + 1) i j := by
  conv => lhs; unfold prF
  rw [if_neg hD]
  exact ⟨fun z => z.2, fun z => ⟨h, z⟩⟩
/-- the extremes of a curve's cells are control points -/
def exR (A : AA) (c D : Int) : Prop := ∀ nd s, 0 ≤ nd → nd < 2 * p2 D - 1 → 0 ≤ s → s < 4 → 0 ≤ A 11 ((c * 127 + nd) * 4 + s) ∧ A 11 ((c * 127 + nd) * 4 + s) < 4
theorem mk2_rows {A B : AA} {S : Int} {P : Int → Int → Prop} (h : mk2 A B S P) : B 10 = A 10 ∧ B 11 = A 11 := ⟨funext fun i => h.1 10 i (Or.inl (by decide)), funext fun i => h.1 11 i (Or.inl (by decide))⟩
theorem exR_c {A B : AA} {c D : Int} (h : B 11 = A 11) (e : exR A c D) : exR B c D := by unfold exR; rw [h]; exact e
theorem sq64 {S : Int} (h : 0 ≤ S) (h1 : S ≤ 64) : S * S ≤ 4096 := by
  have := Int.mul_le_mul h1 h1 h (by decide)
  omega
/-- how many of the first m places hold a pair -/
def cntP (g : Int → Int) : Nat → Int
  | 0 => 0
  | m + 1 => if g m = -2 then cntP g m else cntP g m + 1
theorem cntP_b (g : Int → Int) : ∀ m : Nat, 0 ≤ cntP g m ∧ cntP g m ≤ m
  | 0 => ⟨Int.le_refl 0, Int.le_refl 0⟩
  | m + 1 => by
    have := cntP_b g m
    unfold cntP
    split <;> omega
theorem cntP_s {g : Int → Int} {m : Int} (h : 0 ≤ m) : cntP g (Int.toNat (m + 1)) = if g m = -2 then cntP g (Int.toNat m) else cntP g (Int.toNat m) + 1 := by
  obtain ⟨j, rfl⟩ : ∃ j : Nat, m = j := ⟨m.toNat, by omega⟩
  rw [show Int.toNat ((j : Int) + 1) = j + 1 by omega, show Int.toNat (j : Int) = j by omega]; rfl
