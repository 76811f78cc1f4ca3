/-! all boxes of a curve laid -/
def bxC (f : Int → Int) (c d q : Int) (h : Int → Int) (p : Int) : Prop := ∀ s, 0 ≤ s → s < 4 → h (p + 2 * s) = ceX f c d.toNat q (s % 2) (exX f c d.toNat q s) ∧ h (p + 2 * s + 1) = ceX f c d.toNat q 2 (exX f c d.toNat q s)
theorem lb_bx {f g h : Int → Int} {c d q p : Int} (h2 : 2 ≤ f (18 + c)) (hc : ∀ w k, 0 ≤ w → w ≤ 2 → 0 ≤ k → k < f (18 + c) → g (4 * w + k) = ceX f c d.toNat q w k) (hl : ∀ ss, 0 ≤ ss → ss < 4 → lbP g (f (18 + c) - 1) h p ss) : bxC f c d q h p := fun s s0 s1 => by
  have z := hl s s0 s1
  unfold lbP at z
  have xb := exX_b (f := f) (c := c) (d := d.toNat) (q := q) (s := s) h2
  rw [exM_ce h2 s0 hc] at z
  have g8 := hc 2 (exX f c d.toNat q s) (by decide) (by decide) xb.1 xb.2
  rw [show (4 * 2 : Int) = 8 by omega] at g8
  rw [hc (s % 2) _ (by omega) (by omega) xb.1 xb.2, g8] at z
  exact z
theorem bxC_c {f h h' : Int → Int} {c d q p : Int} (e : ∀ i, p ≤ i → i < p + 8 → h' i = h i) (z : bxC f c d q h p) : bxC f c d q h' p := fun s s0 s1 => by
  have y := z s s0 s1
  rw [e (p + 2 * s) (by omega) (by omega), e (p + 2 * s + 1) (by omega) (by omega)]
  exact y
theorem node_b {d q : Int} (d0 : 0 ≤ d) (hd : d ≤ 6) (q0 : 0 ≤ q) (q1 : q < p2 d) : 0 ≤ p2 d - 1 + q ∧ p2 d - 1 + q < 127 := ndr hd q0 q1
/-- nodes of one depth lie before those of the next -/
theorem node_lt {d q e r : Int} (q1 : q < p2 d) (e0 : 0 ≤ d) (h : d < e) (r0 : 0 ≤ r) : p2 d - 1 + q < p2 e - 1 + r := by
  have a := p2_le (j := d + 1) (k := e) (by omega)
  rw [p2_s e0] at a
  omega
