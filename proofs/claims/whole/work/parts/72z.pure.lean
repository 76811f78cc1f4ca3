/-! the model's refining -/
/-- as the model does it: m levels below a cell with one change -/
def rfM (n : Int) : Nat → (Int → Int) → Int → Int
  | 0, _, q => q
  | m + 1, g, q => if chg (hv g n 0) (Int.toNat (n + 1)) = 1 then rfM n m (hv g n 0) (2 * q) else if w64 (hv g n 1 0) = 0 then (2 * q + 1) * p2 m else rfM n m (hv g n 1) (2 * q + 1)
def rfP (f : Int → Int) (c l : Int) (x : RT) (d : Int) : Int := if d ≤ x.2.1 then x.2.2 / p2 (x.2.1 - d) else if x.1 = 0 then x.2.2 * p2 (d - x.2.1) else rfM (f (18 + c) - 1) (Int.toNat (d - x.2.1)) (ccX f c l (Int.toNat x.2.1) x.2.2) x.2.2
theorem rfM_s {n d e q : Int} {g : Int → Int} (h : e < d) : rfM n (Int.toNat (d - e)) g q = if chg (hv g n 0) (Int.toNat (n + 1)) = 1 then rfM n (Int.toNat (d - (e + 1))) (hv g n 0) (2 * q) else if w64 (hv g n 1 0) = 0 then (2 * q + 1) * p2 (d - (e + 1)) else rfM n (Int.toNat (d - (e + 1))) (hv g n 1) (2 * q + 1) := by
  rw [show Int.toNat (d - e) = Int.toNat (d - (e + 1)) + 1 by omega]
  conv => lhs; unfold rfM
  rw [show ((Int.toNat (d - (e + 1)) : Nat) : Int) = d - (e + 1) by omega]
theorem srch_i {n lim : Int} : ∀ (m : Nat) (g : Int → Int) (d q : Int) (x : RT), 0 ≤ d → 0 ≤ q → q < p2 d → x ∈ srch n lim m g d q → x.1 = 1 → x.2.2 < p2 x.2.1
  | 0, _, _, _, _, _, _, _, h, _ => by simp [srch] at h
  | m + 1, g, d, q, x, d0, q0, q1, h, hx => by
    unfold srch at h
    have ps := p2_s d0
    split at h
    · simp at h
    · split at h
      · simp at h; rw [h]; dsimp only; omega
      · split at h
        · simp at h; rw [h] at hx; simp at hx
        · rcases List.mem_append.mp h with h | h
          · exact srch_i m _ _ _ x (by omega) (by omega) (by omega) h hx
          · rcases List.mem_append.mp h with h | h
            · split at h
              · simp at h; rw [h] at hx; simp at hx
              · simp at h
            · exact srch_i m _ _ _ x (by omega) (by omega) (by omega) h hx
theorem rtsX_i {f : Int → Int} {c l r : Int} (l0 : 0 ≤ f 2) (h0 : 0 ≤ r) (h1 : r < ((rtsX f c l).length : Int)) : (rtN (rtsX f c l) r).1 = 1 → (rtN (rtsX f c l) r).2.2 < p2 (rtN (rtsX f c l) r).2.1 := by
  intro hx
  have hl : r.toNat < (rtsX f c l).length := by omega
  have e : rtN (rtsX f c l) r = (rtsX f c l)[r.toNat]'hl := by unfold rtN; rw [List.getD_eq_getElem?_getD, List.getElem?_eq_getElem hl]; rfl
  have m : rtN (rtsX f c l) r ∈ rtsX f c l := by rw [e]; exact List.getElem_mem hl
  generalize rtN (rtsX f c l) r = x at m hx ⊢
  unfold rtsX rootsL at m
  split at m
  · simp at m
  · rcases List.mem_append.mp m with m | m
    · split at m
      · simp at m; rw [m] at hx; simp at hx
      · simp at m
    · rcases List.mem_append.mp m with m | m
      · exact srch_i _ _ _ _ x (Int.le_refl 0) (Int.le_refl 0) (by rw [p2_0]; decide) m hx
      · split at m
        · simp at m; rw [m] at hx; simp at hx
        · simp at m
