/-! cells of the class: nodes in rows -/
def hmX (f : Int → Int) (c k w : Int) : Int := if w = 2 then w32 (f (26 + (c * 4 + k) * 3 + 2)) else w32 (f (26 + (c * 4 + k) * 3 + 2) * f (26 + (c * 4 + k) * 3 + w))
theorem x_rem_eq {a b : Int} (h0 : 0 ≤ a) (h1 : a < 2147483648) (h2 : 0 < b) (h3 : b < 2147483648) : x_rem a b = a % b := by
  unfold x_rem
  rw [rem_toInt, show (Int32.ofInt a).toInt = a from w32_id (by omega) h1, show (Int32.ofInt b).toInt = b from w32_id (by omega) h3, Int.tmod_eq_emod_of_nonneg h0]
theorem x_div_eq {a b : Int} (h0 : 0 ≤ a) (h1 : a < 2147483648) (h2 : 0 < b) (h3 : b < 2147483648) : x_div a b = a / b := by
  unfold x_div
  rw [Int32.toInt_div, show (Int32.ofInt a).toInt = a from w32_id (by omega) h1, show (Int32.ofInt b).toInt = b from w32_id (by omega) h3, Int.tdiv_eq_ediv_of_nonneg h0]
  have h4 : 0 ≤ a / b := Int.ediv_nonneg h0 (by omega)
  have h5 : a / b ≤ a := Int.ediv_le_self _ h0
  exact Int.bmod_eq_of_le (by omega) (by omega)
/-- the control point that is extreme on a side, of the first m behind the first one -/
def exB (X W : Int → Int) (s : Int) : Nat → Int
  | 0 => 0
  | m + 1 => if (if s < 2 then w64 (X (m + 1) * W (exB X W s m) - X (exB X W s m) * W (m + 1)) < 0 else 0 < w64 (X (m + 1) * W (exB X W s m) - X (exB X W s m) * W (m + 1))) then m + 1 else exB X W s m
theorem exB_b (X W : Int → Int) (s : Int) : ∀ m : Nat, 0 ≤ exB X W s m ∧ exB X W s m ≤ m
  | 0 => ⟨Int.le_refl 0, Int.le_refl 0⟩
  | m + 1 => by
    have := exB_b X W s m
    unfold exB
    split <;> omega
theorem exB_s {X W : Int → Int} {s m : Int} (h : 1 ≤ m) : exB X W s (Int.toNat m) = if (if s < 2 then w64 (X m * W (exB X W s (Int.toNat (m - 1))) - X (exB X W s (Int.toNat (m - 1))) * W m) < 0 else 0 < w64 (X m * W (exB X W s (Int.toNat (m - 1))) - X (exB X W s (Int.toNat (m - 1))) * W m)) then m else exB X W s (Int.toNat (m - 1)) := by
  obtain ⟨j, rfl⟩ : ∃ j : Nat, m = j + 1 := ⟨(m - 1).toNat, by omega⟩
  rw [show Int.toNat ((j : Int) + 1) = j + 1 by omega, show Int.toNat ((j : Int) + 1 - 1) = j by omega]
  conv => lhs; unfold exB
theorem exB_c {X W X' W' : Int → Int} {s : Int} : ∀ m : Nat, (∀ i : Int, 0 ≤ i → i ≤ m → X i = X' i ∧ W i = W' i) → exB X W s m = exB X' W' s m
  | 0, _ => rfl
  | m + 1, h => by
    have ih := exB_c m (s := s) (fun i i0 i1 => h i i0 (by omega))
    have hb := exB_b X' W' s m
    unfold exB
    rw [ih, (h (m + 1) (by omega) (by omega)).1, (h (m + 1) (by omega) (by omega)).2, (h _ hb.1 (by omega)).1, (h _ hb.1 (by omega)).2]
/-- the extremes of a node are those of its numbers -/
def exOK (B : AA) (c nd : Int) : Prop := ∀ s, 0 ≤ s → s < 4 → B 11 ((c * 127 + nd) * 4 + s) = exB (fun k => B 10 (((c * 127 + nd) * 3 + s % 2) * 4 + k)) (fun k => B 10 (((c * 127 + nd) * 3 + 2) * 4 + k)) s (Int.toNat (B 12 c))
/-- a node that is the half of the one above -/
def ndOK (B : AA) (c nd : Int) : Prop := (∀ w k, 0 ≤ w → w ≤ 2 → 0 ≤ k → k ≤ B 12 c → B 10 (((c * 127 + nd) * 3 + w) * 4 + k) = hv (fun i => B 10 (((c * 127 + (nd - 1) / 2) * 3 + w) * 4 + i)) (B 12 c) ((nd - 1) % 2) k) ∧ exOK B c nd
noncomputable def bc (p : Prop) : Int := @bi p (Classical.propDecidable p)
theorem bc_t {p : Prop} (h : p) : bc p = 1 := @bi_t p (Classical.propDecidable p) h
theorem bc_f {p : Prop} (h : ¬ p) : bc p = 0 := @bi_f p (Classical.propDecidable p) h
theorem bc_01 {p : Prop} : bc p = 0 ∨ bc p = 1 := @bi_01 p (Classical.propDecidable p)
theorem wbc0 {p : Prop} : w32 (bc p) = 0 ↔ ¬ p := @wbi0 p (Classical.propDecidable p)
theorem wbc1 {p : Prop} : w32 (bc p) = 1 ↔ p := @wbi1 p (Classical.propDecidable p)
theorem bc_c {p q : Prop} (h : p ↔ q) : bc p = bc q := by rw [propext h]
theorem bi_bc {p : Prop} [Decidable p] : bi p = bc p := by
  by_cases h : p
  · rw [bi_t h, bc_t h]
  · rw [bi_f h, bc_f h]
/-- the root of a curve's cells is that of the figure -/
def pltP (A : AA) (c : Int) : Prop := A 12 c = A 2 (18 + c) - 1 ∧ ∀ k w, 0 ≤ k → k < A 2 (18 + c) → 0 ≤ w → w ≤ 2 → w64 (A 10 (((c * 127 + 0) * 3 + w) * 4 + k)) = w64 (hmX (A 2) c k w)
def plQ (A B : AA) (c : Int) : Prop := (∀ b i, (b ≠ 10 ∧ b ≠ 11) ∨ (b = 10 ∧ (i < c * 1524 ∨ c * 1524 + 12 ≤ i)) ∨ (b = 11 ∧ (i < c * 508 ∨ c * 508 + 4 ≤ i)) → B b i = A b i) ∧ (∀ k w, 0 ≤ k → k < A 2 (18 + c) → 0 ≤ w → w ≤ 2 → B 10 (((c * 127 + 0) * 3 + w) * 4 + k) = hmX (A 2) c k w) ∧ exOK B c 0
theorem exOK_set {A : AA} {c nd : Int} : exOK (setR A 11 ((c * 127 + nd) * 4) 4 (fun ss => exB (fun jj => A 10 (((c * 127 + nd) * 3 + ss % 2) * 4 + jj)) (fun jj => A 10 (((c * 127 + nd) * 3 + 2) * 4 + jj)) ss (Int.toNat (A 12 c)))) c nd := by
  intro s s0 s1
  rw [setR_at s0 s1, setR_r (show (10 : Nat) ≠ 11 by decide), setR_r (show (12 : Nat) ≠ 11 by decide)]
def frG (A B : AA) (c P : Int) : Prop := ∀ b i, (b ≠ 10 ∧ b ≠ 11) ∨ (b = 10 ∧ (i < (c * 127 + 2 * P - 1) * 12 ∨ (c * 127 + 4 * P - 1) * 12 ≤ i)) ∨ (b = 11 ∧ (i < (c * 127 + 2 * P - 1) * 4 ∨ (c * 127 + 4 * P - 1) * 4 ≤ i)) → B b i = A b i
theorem ndOK_c {A B : AA} {c m nd : Int} (h10 : ∀ i, i < (c * 127 + m) * 12 → B 10 i = A 10 i) (h11 : ∀ i, i < (c * 127 + m) * 4 → B 11 i = A 11 i) (h12 : B 12 c = A 12 c) (hn : A 12 c ≤ 3) (h1 : 1 ≤ nd) (h2 : nd < m) (h : ndOK A c nd) : ndOK B c nd := by
  obtain ⟨a, e⟩ := h
  refine ⟨fun w k w0 w1 k0 k1 => ?_, fun s s0 s1 => ?_⟩
  · rw [h12] at k1 ⊢
    rw [h10 _ (by omega), a w k w0 w1 k0 k1]
    exact hv_c (fun i i0 i1 => (h10 _ (by omega)).symm) k0 k1
  · rw [h11 _ (by omega), h12, e s s0 s1]
    refine exB_c _ (fun i i0 i1 => ⟨(h10 _ ?_).symm, (h10 _ ?_).symm⟩) <;> omega
theorem frG_set10 {A B : AA} {c P nd w n : Int} {g : Int → Int} (h : frG A B c P) (h1 : 2 * P - 1 ≤ nd) (h2 : nd < 4 * P - 1) (w0 : 0 ≤ w) (w1 : w ≤ 2) (hn : n ≤ 3) : frG A (setR B 10 (((c * 127 + nd) * 3 + w) * 4) (n + 1) g) c P := by
  intro b i hb
  by_cases hbb : b = 10
  · subst hbb
    by_cases hi : i < ((c * 127 + nd) * 3 + w) * 4
    · rw [setR_lt hi]; exact h _ _ hb
    · rw [setR_ge (by omega)]; exact h _ _ hb
  · rw [setR_o hbb]; exact h _ _ hb
theorem frG_set11 {A B : AA} {c P nd : Int} {g : Int → Int} (h : frG A B c P) (h1 : 2 * P - 1 ≤ nd) (h2 : nd < 4 * P - 1) : frG A (setR B 11 ((c * 127 + nd) * 4) 4 g) c P := by
  intro b i hb
  by_cases hbb : b = 11
  · subst hbb
    by_cases hi : i < (c * 127 + nd) * 4
    · rw [setR_lt hi]; exact h _ _ hb
    · rw [setR_ge (by omega)]; exact h _ _ hb
  · rw [setR_o hbb]; exact h _ _ hb
