/-! lines changed; roots if a point moved; the buffer -/
theorem lnR_2 {A : AA} {l a b c : Int} (l0 : 0 ≤ l) (l1 : l < 6) : fput (fput (fput A 2 (122 + l * 3 + 0) a) 2 (122 + l * 3 + 1) b) 2 (122 + l * 3 + 2) c 2 = lnR (A 2) l a b c := by
  funext i
  rw [fput_2 (by omega) (by omega), fput_2 (by omega) (by omega), fput_2 (by omega) (by omega)]
  unfold lnR
  by_cases e2 : i = 122 + l * 3 + 2
  · rw [if_pos e2, if_neg (by omega), if_neg (by omega), if_pos e2]
  · rw [if_neg e2]
    by_cases e1 : i = 122 + l * 3 + 1
    · rw [if_pos e1, if_neg (by omega), if_pos e1]
    · rw [if_neg e1, Int.add_zero]
      by_cases e0 : i = 122 + l * 3
      · rw [if_pos e0, if_pos e0]
      · rw [if_neg e0, if_neg e0, if_neg e1, if_neg e2]
theorem lnR_fg {f : Int → Int} (h : fgOK f) {l a b c : Int} (l0 : 0 ≤ l) (l1 : l < f 1) (ha : -5 ≤ a ∧ a ≤ 5) (hb : -5 ≤ b ∧ b ≤ 5) (hc : -200 ≤ c ∧ c ≤ 200) : fgOK (lnR f l a b c) := by
  have q := h.1
  have e : ∀ i, i < 122 → lnR f l a b c i = f i := fun i hi => by unfold lnR; rw [if_neg (by omega), if_neg (by omega), if_neg (by omega)]
  refine ⟨by rw [e 0 (by omega), e 1 (by omega)]; exact h.1, by rw [e 2 (by omega), e 3 (by omega)]; exact h.2.1, fun k k0 k1 => ?_, fun m w m0 m1 w0 w1 => ?_⟩
  · rw [e 0 (by omega)] at k1
    have a3 := h.2.2.1 k k0 k1
    rw [e (18 + k) (by omega)]
    refine ⟨a3.1, fun j j0 j1 => ?_⟩
    unfold pxF
    rw [e _ (by omega), e _ (by omega), e _ (by omega)]
    exact a3.2 j j0 j1
  · rw [e 1 (by omega)] at m1
    have a4 := h.2.2.2 m w m0 m1 w0 w1
    unfold lnR
    split
    · omega
    · split
      · omega
      · split
        · omega
        · exact a4
def RTB : Prop := ∀ f, fgOK f → rtB f
/-- how many of the first m curves lie on a line -/
def onF (f : Int → Int) (l : Int) : Nat → Int := sumI (fun jj => bi (azP (cfL f jj l) (Int.toNat (f (18 + jj)))))
theorem onF_b (f : Int → Int) (l : Int) (n : Nat) : 0 ≤ onF f l n ∧ onF f l n ≤ n := by
  have := sumI_b (g := fun jj => bi (azP (cfL f jj l) (Int.toNat (f (18 + jj))))) (b := 1) n (fun j _ _ => by rcases @bi_01 (azP (cfL f j l) (Int.toNat (f (18 + j)))) _ with h | h <;> rw [h] <;> decide)
  unfold onF; omega
theorem movR_cf {f : Int → Int} {c l k x y : Int} (c0 : 0 ≤ c) (l0 : 0 ≤ l) (k0 : 0 ≤ k) (k1 : k < 4) (c1 : c < 8) (j : Int) (j0 : 0 ≤ j) (j1 : j < 4) : cfX (movR f c k x y) c l j = if j = k then w32 (f (26 + (c * 4 + k) * 3 + 2) * (f (122 + l * 3 + 0) * x + f (122 + l * 3 + 1) * y + f (122 + l * 3 + 2))) else cfX f c l j := by
  unfold cfX
  have e : ∀ i, (i < 26 + (c * 4 + k) * 3 ∨ 26 + (c * 4 + k) * 3 + 2 ≤ i) → movR f c k x y i = f i := fun i hi => by unfold movR; rw [if_neg (by omega), if_neg (by omega)]
  rw [e (122 + l * 3 + 0) (by omega), e (122 + l * 3 + 1) (by omega), e (122 + l * 3 + 2) (by omega)]
  by_cases h : j = k
  · rw [if_pos h, h, e (26 + (c * 4 + k) * 3 + 2) (by omega)]
    rw [show movR f c k x y (26 + (c * 4 + k) * 3 + 0) = x by unfold movR; rw [if_pos (by omega)], show movR f c k x y (26 + (c * 4 + k) * 3 + 1) = y by unfold movR; rw [if_neg (by omega), if_pos (by omega)]]
  · rw [if_neg h, e (26 + (c * 4 + j) * 3 + 0) (by omega), e (26 + (c * 4 + j) * 3 + 1) (by omega), e (26 + (c * 4 + j) * 3 + 2) (by omega)]
theorem movR_fg {f : Int → Int} (h : fgOK f) {c k x y : Int} (c0 : 0 ≤ c) (c1 : c < f 0) (k0 : 0 ≤ k) (k1 : k < f (18 + c)) (hx : 0 ≤ x ∧ x ≤ 20) (hy : 0 ≤ y ∧ y ≤ 20) : fgOK (movR f c k x y) := by
  have q := h.1
  have q3 := (h.2.2.1 c c0 c1).1
  have e : ∀ i, (i < 26 + (c * 4 + k) * 3 ∨ 26 + (c * 4 + k) * 3 + 2 ≤ i) → movR f c k x y i = f i := fun i hi => by unfold movR; rw [if_neg (by omega), if_neg (by omega)]
  refine ⟨by rw [e 0 (by omega), e 1 (by omega)]; exact h.1, by rw [e 2 (by omega), e 3 (by omega)]; exact h.2.1, fun d d0 d1 => ?_, fun m w m0 m1 w0 w1 => ?_⟩
  · rw [e 0 (by omega)] at d1
    have a3 := h.2.2.1 d d0 d1
    rw [e (18 + d) (by omega)]
    refine ⟨a3.1, fun j j0 j1 => ?_⟩
    have a5 := a3.2 j j0 j1
    unfold pxF at a5 ⊢
    by_cases z : d = c ∧ j = k
    · rw [z.1, z.2] at a5 ⊢
      rw [e (26 + (c * 4 + k) * 3 + 2) (by omega), show movR f c k x y (26 + (c * 4 + k) * 3 + 0) = x by unfold movR; rw [if_pos (by omega)], show movR f c k x y (26 + (c * 4 + k) * 3 + 1) = y by unfold movR; rw [if_neg (by omega), if_pos (by omega)]]
      exact ⟨hx, hy, a5.2.2⟩
    · rw [e _ (by omega), e _ (by omega), e _ (by omega)]; exact a5
  · rw [e 1 (by omega)] at m1
    rw [e _ (by omega)]; exact h.2.2.2 m w m0 m1 w0 w1
/-- four bytes of a word, the most significant one first -/
def byF (v k : Int) : Int := (w32 v / p2 (24 - 8 * k) + 128) % 256 - 128
