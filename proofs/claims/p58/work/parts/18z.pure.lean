/-! the cache of cells -/
theorem w64_w32 (x : Int) : w64 (w32 x) = w32 x := w64_id (by have := w32_ge x; omega) (by have := w32_lt2 x; omega)
theorem w64_hm (f : Int → Int) (c k w : Int) : w64 (hmX f c k w) = hmX f c k w := by
  unfold hmX
  split <;> exact w64_w32 _
theorem exOK_c {A B : AA} {c nd : Int} (h10 : ∀ i, (c * 127 + nd) * 12 ≤ i → i < (c * 127 + nd + 1) * 12 → B 10 i = A 10 i) (h11 : ∀ i, (c * 127 + nd) * 4 ≤ i → i < (c * 127 + nd + 1) * 4 → B 11 i = A 11 i) (h12 : B 12 c = A 12 c) (hn : A 12 c ≤ 3) (h : exOK A c nd) : exOK B c nd := by
  intro s s0 s1
  rw [h11 _ (by omega) (by omega), h12, h s s0 s1]
  refine exB_c _ (fun i i0 i1 => ⟨(h10 _ ?_ ?_).symm, (h10 _ ?_ ?_).symm⟩) <;> omega
theorem ndOK_c2 {A B : AA} {c nd : Int} (h10 : ∀ i, c * 1524 ≤ i → i < (c * 127 + nd + 1) * 12 → B 10 i = A 10 i) (h11 : ∀ i, (c * 127 + nd) * 4 ≤ i → i < (c * 127 + nd + 1) * 4 → B 11 i = A 11 i) (h12 : B 12 c = A 12 c) (hn : A 12 c ≤ 3) (h1 : 1 ≤ nd) (h : ndOK A c nd) : ndOK B c nd := by
  obtain ⟨a, e⟩ := h
  refine ⟨fun w k w0 w1 k0 k1 => ?_, exOK_c (fun i i0 i1 => h10 i (by omega) i1) h11 h12 hn e⟩
  rw [h12] at k1 ⊢
  rw [h10 _ (by omega) (by omega), a w k w0 w1 k0 k1]
  exact hv_c (fun i i0 i1 => (h10 _ (by omega) (by omega)).symm) k0 k1
def caOK (A : AA) (c : Int) : Prop := (0 ≤ A 12 c ∧ A 12 c ≤ 3) ∧ (0 ≤ A 13 c ∧ A 13 c ≤ 6) ∧ (1 ≤ A 12 c → (∀ w k, 0 ≤ w → w ≤ 2 → 0 ≤ k → k ≤ A 12 c → w64 (A 10 (((c * 127 + 0) * 3 + w) * 4 + k)) = A 10 (((c * 127 + 0) * 3 + w) * 4 + k)) ∧ exOK A c 0 ∧ ∀ nd, 1 ≤ nd → nd < 2 * p2 (A 13 c) - 1 → ndOK A c nd)
/-- the cells of a curve stand, down to a depth D -/
def pltE (A : AA) (c D : Int) : Prop := A 12 c = A 2 (18 + c) - 1 ∧ (∀ k w, 0 ≤ k → k < A 2 (18 + c) → 0 ≤ w → w ≤ 2 → A 10 (((c * 127 + 0) * 3 + w) * 4 + k) = hmX (A 2) c k w) ∧ D ≤ A 13 c
def grF (A B : AA) (c : Int) : Prop := ∀ b i, (b ≠ 10 ∧ b ≠ 11 ∧ b ≠ 12 ∧ b ≠ 13) ∨ (b = 10 ∧ (i < c * 1524 ∨ c * 1524 + 1524 ≤ i)) ∨ (b = 11 ∧ (i < c * 508 ∨ c * 508 + 508 ≤ i)) ∨ ((b = 12 ∨ b = 13) ∧ i ≠ c) → B b i = A b i
theorem grF_trans {A B C : AA} {c : Int} (h1 : grF A B c) (h2 : grF B C c) : grF A C c := fun b i hb => (h2 b i hb).trans (h1 b i hb)
theorem plt_E {A : AA} {c : Int} (h : caOK A c) (h2 : pltP A c) (hs : 2 ≤ A 2 (18 + c)) : pltE A c (A 13 c) := by
  obtain ⟨a, b⟩ := h2
  refine ⟨a, fun k w k0 k1 w0 w1 => ?_, Int.le_refl _⟩
  have h3 := (h.2.2 (by omega)).1 w k w0 w1 k0 (by omega)
  rw [← h3, b k w k0 k1 w0 w1, w64_hm]
theorem plant_ok {A B : AA} {c : Int} (hs : 2 ≤ A 2 (18 + c)) (hs2 : A 2 (18 + c) ≤ 4) (h : plQ (upA (upA A 12 c (A 2 (18 + c) - 1)) 13 c 0) B c) : caOK B c ∧ pltE B c 0 ∧ grF A B c ∧ B 13 c = 0 := by
  obtain ⟨f, n, e⟩ := h
  have b13 : B 13 c = 0 := by rw [f 13 c (Or.inl ⟨by decide, by decide⟩), upA_s]
  have b12 : B 12 c = A 2 (18 + c) - 1 := by rw [f 12 c (Or.inl ⟨by decide, by decide⟩), upA_k (by decide), upA_s]
  have b2 : B 2 = A 2 := funext fun i => by rw [f 2 i (Or.inl ⟨by decide, by decide⟩), upA_k (by decide), upA_k (by decide)]
  rw [upA_r (show (2 : Nat) ≠ 13 by decide), upA_r (show (2 : Nat) ≠ 12 by decide)] at n
  refine ⟨⟨by omega, by omega, fun _ => ⟨fun w k w0 w1 k0 k1 => ?_, e, fun nd n1 n2 => ?_⟩⟩, ⟨by rw [b12, b2], fun k w k0 k1 w0 w1 => ?_, by omega⟩, fun b i hb => ?_, b13⟩
  · rw [n k w k0 (by omega) w0 w1, w64_hm]
  · rw [b13, p2_0] at n2; omega
  · rw [b2] at k1 ⊢; exact n k w k0 k1 w0 w1
  · rw [f b i (by omega)]
    unfold upA
    rw [if_neg (by omega), if_neg (by omega)]
theorem grow_step {A B : AA} {c lv : Int} (hc : 0 ≤ c) (h : caOK A c) (hE : pltE A c lv) (h13 : A 13 c = lv) (h0 : 0 ≤ lv) (h5 : lv ≤ 5) (hs : 2 ≤ A 2 (18 + c)) (hF : frG A B c (p2 lv)) (hN : ∀ nd, 2 * p2 lv - 1 ≤ nd → nd < 4 * p2 lv - 1 → ndOK B c nd) : caOK (upA B 13 c (lv + 1)) c ∧ pltE (upA B 13 c (lv + 1)) c (lv + 1) ∧ grF A (upA B 13 c (lv + 1)) c := by
  have hP : 1 ≤ p2 lv ∧ p2 lv ≤ 32 := ⟨p2_pos, p2_le h5⟩
  have b12 : B 12 = A 12 := funext fun i => hF 12 i (Or.inl ⟨by decide, by decide⟩)
  have b2 : B 2 = A 2 := funext fun i => hF 2 i (Or.inl ⟨by decide, by decide⟩)
  obtain ⟨a1, a2, a3⟩ := h
  have a3 := a3 (by have := hE.1; omega)
  have ps : p2 (lv + 1) = 2 * p2 lv := p2_s h0
  have u : ∀ b, b ≠ 13 → (upA B 13 c (lv + 1)) b = B b := fun b hb => upA_r hb
  refine ⟨⟨by rw [u 12 (by decide), b12]; exact a1, by rw [upA_s]; omega, fun _ => ⟨fun w k w0 w1 k0 k1 => ?_, ?_, fun nd n1 n2 => ?_⟩⟩, ⟨by rw [u 12 (by decide), u 2 (by decide), b12, b2]; exact hE.1, fun k w k0 k1 w0 w1 => ?_, by rw [upA_s]; omega⟩, fun b i hb => ?_⟩
  · rw [u 12 (by decide), b12] at k1
    rw [u 10 (by decide), hF 10 _ (Or.inr (Or.inl ⟨rfl, by omega⟩))]
    exact a3.1 w k w0 w1 k0 k1
  · exact exOK_c (A := A) (fun i i0 i1 => by rw [u 10 (by decide)]; exact hF 10 _ (Or.inr (Or.inl ⟨rfl, by omega⟩))) (fun i i0 i1 => by rw [u 11 (by decide)]; exact hF 11 _ (Or.inr (Or.inr ⟨rfl, by omega⟩))) (by rw [u 12 (by decide), b12]) a1.2 a3.2.1
  · rw [upA_s, ps] at n2
    by_cases e : nd < 2 * p2 lv - 1
    · exact ndOK_c2 (A := A) (fun i i0 i1 => by rw [u 10 (by decide)]; exact hF 10 _ (Or.inr (Or.inl ⟨rfl, by omega⟩))) (fun i i0 i1 => by rw [u 11 (by decide)]; exact hF 11 _ (Or.inr (Or.inr ⟨rfl, by omega⟩))) (by rw [u 12 (by decide), b12]) a1.2 n1 (a3.2.2 nd n1 (by rw [h13]; exact e))
    · exact ndOK_c2 (A := B) (fun i i0 i1 => by rw [u 10 (by decide)]) (fun i i0 i1 => by rw [u 11 (by decide)]) (by rw [u 12 (by decide)]) (by rw [b12]; exact a1.2) n1 (hN nd (by omega) (by omega))
  · rw [u 2 (by decide), b2] at k1 ⊢
    rw [u 10 (by decide), hF 10 _ (Or.inr (Or.inl ⟨rfl, by have := hE.1; omega⟩))]
    exact hE.2.1 k w k0 k1 w0 w1
  · by_cases hbb : b = 13
    · subst hbb
      rw [upA_o (by omega)]; exact hF 13 i (Or.inl ⟨by decide, by decide⟩)
    · rw [u b hbb]; exact hF b i (by omega)
def grQ (A B : AA) (c D : Int) : Prop := grF A B c ∧ caOK B c ∧ pltE B c D ∧ (pltP A c → A 13 c ≤ B 13 c)
/-- the boxes of two cells meet -/
def meetP (A : AA) (c nd c2 nd2 : Int) : Prop := ∀ w, 0 ≤ w → w ≤ 1 →
  ¬ 0 < w64 (A 10 (((c * 127 + nd) * 3 + w) * 4 + A 11 ((c * 127 + nd) * 4 + w)) * A 10 (((c2 * 127 + nd2) * 3 + 2) * 4 + A 11 ((c2 * 127 + nd2) * 4 + (2 + w))) - A 10 (((c2 * 127 + nd2) * 3 + w) * 4 + A 11 ((c2 * 127 + nd2) * 4 + (2 + w))) * A 10 (((c * 127 + nd) * 3 + 2) * 4 + A 11 ((c * 127 + nd) * 4 + w))) ∧
  ¬ w64 (A 10 (((c * 127 + nd) * 3 + w) * 4 + A 11 ((c * 127 + nd) * 4 + (2 + w))) * A 10 (((c2 * 127 + nd2) * 3 + 2) * 4 + A 11 ((c2 * 127 + nd2) * 4 + w)) - A 10 (((c2 * 127 + nd2) * 3 + w) * 4 + A 11 ((c2 * 127 + nd2) * 4 + w)) * A 10 (((c * 127 + nd) * 3 + 2) * 4 + A 11 ((c * 127 + nd) * 4 + (2 + w)))) < 0
