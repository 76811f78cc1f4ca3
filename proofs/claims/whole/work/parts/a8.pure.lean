/-! figures that a text makes are in their ranges -/
theorem inE_r {a b : Int} {t : TK} (h : inE a b t = 0) : a ≤ t.2.2.2 ∧ t.2.2.2 ≤ b := by
  unfold inE at h
  by_cases k : t.2.2.1 = 1
  · rw [if_pos k] at h
    by_cases v : a ≤ t.2.2.2 ∧ t.2.2.2 ≤ b
    · exact v
    · rw [if_neg v] at h; exact absurd h (by decide)
  · rw [if_neg k] at h; exact absurd h (by decide)
abbrev ptB (f : Int → Int) (c k : Int) : Prop := (0 ≤ pxF f c k 0 ∧ pxF f c k 0 ≤ 20) ∧ (0 ≤ pxF f c k 1 ∧ pxF f c k 1 ≤ 20) ∧ (1 ≤ pxF f c k 2 ∧ pxF f c k 2 ≤ 3)
theorem px_o {f : Int → Int} {c j w i v : Int} (h : i ≠ 26 + (c * 4 + j) * 3 + w) : pxF (up1 f i v) c j w = pxF f c j w := by
  unfold pxF; rw [up1_o (fun y => h y.symm)]
theorem px_s {f : Int → Int} {c j w v : Int} : pxF (up1 f (26 + (c * 4 + j) * 3 + w) v) c j w = v := by
  unfold pxF; rw [up1_s]
theorem crv_F {T : Int → Int} {n c : Int} (c0 : 0 ≤ c) (c8 : c < 8) : ∀ (d : Nat) (k : Int) (t : TK) (f : Int → Int), k = 4 - d → 0 ≤ k → (∀ j, 0 ≤ j → j < k → ptB f c j) → (0 < k → f (18 + c) = k) → (crv T n c (3 * d + 1) (3 * k) t f).1 = 0 →
    ((2 ≤ (crv T n c (3 * d + 1) (3 * k) t f).2.2 (18 + c) ∧ (crv T n c (3 * d + 1) (3 * k) t f).2.2 (18 + c) ≤ 4) ∧ ∀ j, 0 ≤ j → j < (crv T n c (3 * d + 1) (3 * k) t f).2.2 (18 + c) → ptB (crv T n c (3 * d + 1) (3 * k) t f).2.2 c j) ∧ ∀ i, i ≠ 18 + c → (i < 26 + c * 12 ∨ 38 + c * 12 ≤ i) → (crv T n c (3 * d + 1) (3 * k) t f).2.2 i = f i := by
  intro d
  induction d with
  | zero =>
    intro k t f hk k0 hp hc
    have hk4 : k = 4 := by omega
    subst hk4
    rw [show 3 * 0 + 1 = 0 + 1 from rfl, crv_u, show (3 * 4 : Int) % 3 = 0 by decide, show (3 * 4 : Int) / 3 = 4 by decide]
    by_cases z : t.2.2.1 = 2
    · rw [if_pos ⟨rfl, by decide, z⟩]
      intro _
      have e := hc (by decide)
      refine ⟨⟨by dsimp only; omega, fun j j0 j1 => ?_⟩, fun i _ _ => rfl⟩
      exact hp j j0 (by dsimp only at j1; omega)
    · rw [if_neg (fun y => z y.2.2)]
      have e1 : ¬ ptE 4 0 t = 0 := by
        rw [pt_0 (Or.inl rfl)]
        by_cases y : inE 0 20 t = 0
        · rw [if_pos ⟨y, by decide⟩]; decide
        · rw [if_neg (fun w => y w.1)]; exact y
      rw [if_neg e1]
      intro w
      exact absurd w e1
  | succ d ih =>
    intro k t f hk k0 hp hc
    have k3 : k ≤ 3 := by omega
    have m0 : (3 * k) % 3 = 0 ∧ (3 * k) / 3 = k := by omega
    have m1 : (3 * k + 1) % 3 = 1 ∧ (3 * k + 1) / 3 = k := by omega
    have m2 : (3 * k + 1 + 1) % 3 = 2 ∧ (3 * k + 1 + 1) / 3 = k := by omega
    rw [show 3 * (d + 1) + 1 = (3 * d + 1) + 1 + 1 + 1 by omega, crv_u, m0.1, m0.2]
    by_cases z : 2 ≤ k ∧ t.2.2.1 = 2
    · rw [if_pos ⟨rfl, z⟩]
      intro _
      have e := hc (by omega)
      refine ⟨⟨by dsimp only; omega, fun j j0 j1 => ?_⟩, fun i _ _ => rfl⟩
      exact hp j j0 (by dsimp only at j1; omega)
    · rw [if_neg (fun y => z y.2)]
      have eE : ptE k 0 t = inE 0 20 t := by
        rw [pt_0 (Or.inl rfl), if_neg (fun y => by have y2 := y.2; omega)]
      rw [eE]
      by_cases y : inE 0 20 t = 0
      · rw [if_pos y, crv_u, m1.1, m1.2, if_neg (show ¬ ((1 : Int) = 0 ∧ 2 ≤ k ∧ (nxT T n t).2.2.1 = 2) from fun y => absurd y.1 (by decide))]
        have eE1 : ptE k 1 (nxT T n t) = inE 0 20 (nxT T n t) := by
          rw [pt_0 (Or.inr rfl), if_neg (fun y => by have y2 := y.2; omega)]
        rw [eE1]
        by_cases y1 : inE 0 20 (nxT T n t) = 0
        · rw [if_pos y1, crv_u, m2.1, m2.2, if_neg (show ¬ ((2 : Int) = 0 ∧ 2 ≤ k ∧ (nxT T n (nxT T n t)).2.2.1 = 2) from fun y => absurd y.1 (by decide))]
          have eE2 : ptE k 2 (nxT T n (nxT T n t)) = inE 1 3 (nxT T n (nxT T n t)) := by
            rw [pt_2, if_neg (fun y => by have y2 := y.2; omega)]
          rw [eE2]
          by_cases y2 : inE 1 3 (nxT T n (nxT T n t)) = 0
          · rw [if_pos y2, show 3 * k + 1 + 1 + 1 = 3 * (k + 1) by omega]
            intro w
            have b0 := inE_r y; have b1 := inE_r y1; have b2 := inE_r y2
            have R := ih (k + 1) (nxT T n (nxT T n (nxT T n t))) (up1 (up1 (up1 (up1 (up1 (up1 f (26 + (c * 4 + k) * 3 + 0) t.2.2.2) (18 + c) (k + 1)) (26 + (c * 4 + k) * 3 + 1) (nxT T n t).2.2.2) (18 + c) (k + 1)) (26 + (c * 4 + k) * 3 + 2) (nxT T n (nxT T n t)).2.2.2) (18 + c) (k + 1)) (by omega) (by omega) (fun j j0 j1 => by
              by_cases e : j = k
              · subst e
                refine ⟨?_, ?_, ?_⟩
                · rw [px_o (by omega), px_o (by omega), px_o (by omega), px_o (by omega), px_o (by omega), px_s]; exact b0
                · rw [px_o (by omega), px_o (by omega), px_o (by omega), px_s]; exact b1
                · rw [px_o (by omega), px_s]; exact b2
              · have q := hp j j0 (by omega)
                refine ⟨?_, ?_, ?_⟩
                · rw [px_o (by omega), px_o (by omega), px_o (by omega), px_o (by omega), px_o (by omega), px_o (by omega)]; exact q.1
                · rw [px_o (by omega), px_o (by omega), px_o (by omega), px_o (by omega), px_o (by omega), px_o (by omega)]; exact q.2.1
                · rw [px_o (by omega), px_o (by omega), px_o (by omega), px_o (by omega), px_o (by omega), px_o (by omega)]; exact q.2.2) (fun _ => up1_s) w
            refine ⟨R.1, fun i i0 i1 => ?_⟩
            rw [R.2 i i0 i1, up1_o i0, up1_o (by omega), up1_o i0, up1_o (by omega), up1_o i0, up1_o (by omega)]
          · rw [if_neg y2]; intro w; exact absurd w y2
        · rw [if_neg y1]; intro w; exact absurd w y1
      · rw [if_neg y]; intro w; exact absurd w y
