theorem exR_ca {A : AA} {c D : Int} (h : caOK A c) (hE : pltE A c D) (hs : 2 ≤ A 2 (18 + c)) : exR A c D := by
  intro nd s n0 n1 s0 s1
  have P := p2_le hE.2.2
  have a3 := h.2.2 (by have := hE.1; omega)
  have e : exOK A c nd := by
    by_cases z : nd = 0
    · rw [z]; exact a3.2.1
    · exact (a3.2.2 nd (by omega) (by omega)).2
  have b := exB_b (fun k => A 10 (((c * 127 + nd) * 3 + s % 2) * 4 + k)) (fun k => A 10 (((c * 127 + nd) * 3 + 2) * 4 + k)) s (Int.toNat (A 12 c))
  rw [e s s0 s1]
  have := h.1
  omega
theorem pltE_o {A B : AA} {c e D E : Int} (hG : grQ A B e D) (hne : c ≠ e) (hn : A 12 c ≤ 3) (h : pltE A c E) : pltE B c E := by
  have b2 := grQ_f hG
  have b12 : B 12 c = A 12 c := hG.1 12 c (Or.inr (Or.inr (Or.inr ⟨Or.inl rfl, hne⟩)))
  have b13 : B 13 c = A 13 c := hG.1 13 c (Or.inr (Or.inr (Or.inr ⟨Or.inr rfl, hne⟩)))
  refine ⟨by rw [b12, b2]; exact h.1, fun k w k0 k1 w0 w1 => ?_, by rw [b13]; exact h.2.2⟩
  rw [b2] at k1 ⊢
  rw [hG.1 10 _ (Or.inr (Or.inl ⟨rfl, by have := h.1; omega⟩))]
  exact h.2.1 k w k0 k1 w0 w1
/-- both curves' cells stand after growing one behind the other -/
theorem grQ_2 {A B C : AA} {c e D : Int} (h1 : grQ A B c D) (h2 : grQ B C e D) : pltE C c D ∧ pltE C e D := by
  by_cases q : c = e
  · subst q; exact ⟨h2.2.2.1, h2.2.2.1⟩
  · exact ⟨pltE_o h2 q h1.2.1.1.2 h1.2.2.1, h2.2.2.1⟩
/-- what marking the pairs of two curves leaves -/
def mkP (F G : FF) (A B : AA) (c e D : Int) : Prop := qrP F G A B ∧ (G 19 3 = D ∧ G 19 4 = p2 D) ∧ (pltE B c D ∧ pltE B e D) ∧ (∀ i j, 0 ≤ i → i < p2 D → 0 ≤ j → j < p2 D → (prF (mtX B c e) D 7 0 0 0 i j → B 20 (i * p2 D + j) = -1) ∧ (¬ prF (mtX B c e) D 7 0 0 0 i j → B 20 (i * p2 D + j) = -2)) ∧ ((∀ j, -2 ≤ A 20 j ∧ A 20 j < 5000) → ∀ j, -2 ≤ B 20 j ∧ B 20 j < 5000)
theorem mkP_of {F G : FF} {A A1 A2 B : AA} {c e D : Int} (h1 : grQ A A1 c D) (h2 : grQ A1 A2 e D) (D0 : 0 ≤ D) (D6 : D ≤ 6) (hG : G = upF (upF (upF (upF F 19 3 D) 19 4 (p2 D)) 19 5 c) 19 6 e) (hm : mk2 (fillA A2 20 4096 (-2)) B (p2 D) (prF (mtX A2 c e) D 7 0 0 0)) : mkP F G A B c e D := by
  have P : 1 ≤ p2 D ∧ p2 D ≤ 64 := ⟨p2_pos, by have := p2_le D6; rwa [p2_6] at this⟩
  have S := sq64 (by omega) P.2
  have hr : ∀ b, b ≠ 20 → B b = A2 b := fun b hb => funext fun i => by
    rw [hm.1 b i (Or.inl hb)]; unfold fillA; rw [if_neg (by omega)]
  have pl := grQ_2 h1 h2
  have p_ : ∀ x, pltE A2 x D → pltE B x D := fun x h => by
    unfold pltE; rw [hr 12 (by decide), hr 2 (by decide), hr 10 (by decide), hr 13 (by decide)]; exact h
  have f0 : ∀ j, 0 ≤ j → j < 4096 → fillA A2 20 4096 (-2) 20 j = -2 := fun j j0 j1 => by unfold fillA; rw [if_pos ⟨rfl, j0, j1⟩]
  have h20 : r20 A → r20 B := fun h j => by
    have hA : B 20 j = -2 ∨ B 20 j = -1 ∨ B 20 j = A 20 j := by
      by_cases r : 0 ≤ j ∧ j < p2 D * p2 D
      · have hd : j / p2 D * p2 D + j % p2 D = j := by rw [Int.mul_comm]; exact Int.mul_ediv_add_emod j _
        have d0 : 0 ≤ j / p2 D := Int.ediv_nonneg r.1 (by omega)
        have d1 : j / p2 D < p2 D := Int.ediv_lt_of_lt_mul (by omega) r.2
        have q := hm.2 (j / p2 D) (j % p2 D) d0 d1 (Int.emod_nonneg _ (by omega)) (Int.emod_lt_of_pos _ (by omega))
        rw [hd, f0 j (by omega) (by omega)] at q
        by_cases z : prF (mtX A2 c e) D 7 0 0 0 (j / p2 D) (j % p2 D)
        · exact Or.inr (Or.inl (q.1 z))
        · exact Or.inl (q.2 z)
      · rw [hm.1 20 j (by omega)]
        by_cases w : 0 ≤ j ∧ j < 4096
        · exact Or.inl (f0 j w.1 w.2)
        · refine Or.inr (Or.inr ?_)
          unfold fillA
          rw [if_neg (by omega), h2.1 20 j (Or.inl (by decide)), h1.1 20 j (Or.inl (by decide))]
    have := h j
    omega
  refine ⟨⟨fun a b h => ?_, fun b i hb => ?_, fun h => ?_, h20⟩, ⟨?_, ?_⟩, ⟨p_ c pl.1, p_ e pl.2⟩, fun i j i0 i1 j0 j1 => ?_, h20⟩
  · rw [hG, upF_o (by omega), upF_o (by omega), upF_o (by omega), upF_o (by omega)]
  · rw [hr b (by omega), h2.1 b i (Or.inl (by omega)), h1.1 b i (Or.inl (by omega))]
  · exact caAll_c (hr 10 (by decide)) (hr 11 (by decide)) (hr 12 (by decide)) (hr 13 (by decide)) (caAll_gr h2 (caAll_gr h1 h))
  · rw [hG, upF_o (by omega), upF_o (by omega), upF_o (by omega), upF_s]
  · rw [hG, upF_o (by omega), upF_o (by omega), upF_s]
  · rw [mtX_c (hr 10 (by decide)) (hr 11 (by decide))]
    have hb := ix_b i0 i1 j0 j1
    have q := hm.2 i j i0 i1 j0 j1
    rw [f0 _ (by omega) (by omega)] at q
    exact q
