/-- the depth and the cell of a root that a search finds -/
theorem srch_b {n lim : Int} : ∀ (f : Nat) (g : Int → Int) (d q : Int) (x : RT), 0 ≤ d → d ≤ lim → 0 ≤ q → q < p2 d → x ∈ srch n lim f g d q → (0 ≤ x.2.1 ∧ x.2.1 ≤ lim) ∧ 0 ≤ x.2.2 ∧ x.2.2 < p2 x.2.1
  | 0, _, _, _, _, _, _, _, _, h => by simp [srch] at h
  | f + 1, g, d, q, x, d0, d1, q0, q1, h => by
    unfold srch at h
    have ps := p2_s d0
    split at h
    · simp at h
    · split at h
      · simp at h; rw [h]; dsimp only; omega
      · split at h
        · simp at h; rw [h]; dsimp only; omega
        · rcases List.mem_append.mp h with h | h
          · exact srch_b f _ _ _ x (by omega) (by omega) (by omega) (by omega) h
          · rcases List.mem_append.mp h with h | h
            · split at h
              · simp at h; rw [h]; dsimp only; omega
              · simp at h
            · exact srch_b f _ _ _ x (by omega) (by omega) (by omega) (by omega) h
theorem rootsL_b {g : Int → Int} {n lim : Int} {x : RT} (l0 : 0 ≤ lim) (h : x ∈ rootsL g n lim) : (0 ≤ x.2.1 ∧ x.2.1 ≤ lim) ∧ 0 ≤ x.2.2 ∧ x.2.2 ≤ p2 x.2.1 := by
  have z := p2_0
  unfold rootsL at h
  split at h
  · simp at h
  · rcases List.mem_append.mp h with h | h
    · split at h
      · simp at h; rw [h]; dsimp only; omega
      · simp at h
    · rcases List.mem_append.mp h with h | h
      · have := srch_b _ _ _ _ x (Int.le_refl 0) l0 (Int.le_refl 0) (by omega) h
        exact ⟨this.1, this.2.1, Int.le_of_lt this.2.2⟩
      · split at h
        · simp at h; rw [h]; dsimp only; omega
        · simp at h
/-- a root by its number -/
def rtN (L : List RT) (r : Int) : RT := L.getD r.toNat (0, 0, 0)
theorem rtN_b {f : Int → Int} {c l r : Int} (l0 : 0 ≤ f 2) (h0 : 0 ≤ r) (h1 : r < ((rtsX f c l).length : Int)) : (0 ≤ (rtN (rtsX f c l) r).1 ∧ (rtN (rtsX f c l) r).1 ≤ 2) ∧ (0 ≤ (rtN (rtsX f c l) r).2.1 ∧ (rtN (rtsX f c l) r).2.1 ≤ f 2) ∧ 0 ≤ (rtN (rtsX f c l) r).2.2 ∧ (rtN (rtsX f c l) r).2.2 ≤ p2 (rtN (rtsX f c l) r).2.1 := by
  have hl : r.toNat < (rtsX f c l).length := by omega
  have e : rtN (rtsX f c l) r = (rtsX f c l)[r.toNat]'hl := by unfold rtN; rw [List.getD_eq_getElem?_getD, List.getElem?_eq_getElem hl]; rfl
  have m : rtN (rtsX f c l) r ∈ rtsX f c l := by rw [e]; exact List.getElem_mem hl
  exact ⟨rootsL_k m, rootsL_b l0 m⟩
