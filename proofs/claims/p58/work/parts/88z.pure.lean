/-! at most 8 roots: halves have no more sign changes than the whole -/
def stp (a : Int × Int) (s : Int) : Int × Int := if s = 0 then a else (if s = -a.2 then a.1 + 1 else a.1, s)
def VL (l : List Int) : Int := (l.foldl stp (0, 0)).1
def admB (a b s : Int) : Bool := decide ((a = b → s = a) ∧ (a = 0 → s = b) ∧ (b = 0 → s = a))
abbrev adm (a b s : Int) : Prop := admB a b s = true
theorem sg_adm (x y : Int) : adm (sg x) (sg y) (sg (x + y)) := by
  unfold adm admB
  apply decide_eq_true
  rcases sg_cases x with ⟨h, e⟩ | ⟨h, e⟩ | ⟨h, e⟩ <;> rcases sg_cases y with ⟨h', e'⟩ | ⟨h', e'⟩ | ⟨h', e'⟩ <;> rcases sg_cases (x + y) with ⟨h2, e2⟩ | ⟨h2, e2⟩ | ⟨h2, e2⟩ <;> rw [e, e', e2] <;> omega
abbrev vS (i : Fin 3) : Int := (i.val : Int) - 1
theorem vS_of (x : Int) : ∃ i : Fin 3, sg x = vS i := by
  rcases sg_cases x with ⟨_, e⟩ | ⟨_, e⟩ | ⟨_, e⟩
  · exact ⟨2, e⟩
  · exact ⟨0, e⟩
  · exact ⟨1, e⟩
theorem vfA : ∀ s0 s1 m : Fin 3, adm (vS s0) (vS s1) (vS m) → 1 ≤ VL [vS s0, vS s1] → VL [vS s0, vS m] + VL [vS m, vS s1] + (if vS m = 0 then 1 else 0) ≤ VL [vS s0, vS s1] ∧ (VL [vS s0, vS s1] = 1 → VL [vS s0, vS m] + VL [vS m, vS s1] + (if vS m = 0 then 1 else 0) = 1) := by decide +kernel
theorem vfB : ∀ s0 s1 s01 : Fin 3, adm (vS s0) (vS s1) (vS s01) → ∀ s2 s12 : Fin 3, adm (vS s1) (vS s2) (vS s12) → ∀ m : Fin 3, adm (vS s01) (vS s12) (vS m) → 1 ≤ VL [vS s0, vS s1, vS s2] → VL [vS s0, vS s01, vS m] + VL [vS m, vS s12, vS s2] + (if vS m = 0 then 1 else 0) ≤ VL [vS s0, vS s1, vS s2] ∧ (VL [vS s0, vS s1, vS s2] = 1 → VL [vS s0, vS s01, vS m] + VL [vS m, vS s12, vS s2] + (if vS m = 0 then 1 else 0) = 1) := by decide +kernel
def all3 (p : Fin 3 → Bool) : Bool := p 0 && p 1 && p 2
theorem all3_at {p : Fin 3 → Bool} (h : all3 p = true) : ∀ i : Fin 3, p i = true := by
  unfold all3 at h
  simp only [Bool.and_eq_true] at h
  intro i
  match i with
  | 0 => exact h.1.1
  | 1 => exact h.1.2
  | 2 => exact h.2
def imp3 (a : Prop) [Decidable a] (b : Bool) : Bool := if a then b else true
theorem imp3_at {a : Prop} [Decidable a] {b : Bool} (h : imp3 a b = true) (ha : a) : b = true := by
  unfold imp3 at h; rw [if_pos ha] at h; exact h
theorem vfD : (all3 fun s0 => all3 fun s1 => all3 fun s01 => imp3 (adm (vS s0) (vS s1) (vS s01)) (all3 fun s2 => all3 fun s12 => imp3 (adm (vS s1) (vS s2) (vS s12)) (all3 fun s012 => imp3 (adm (vS s01) (vS s12) (vS s012)) (all3 fun s3 => all3 fun s23 => imp3 (adm (vS s2) (vS s3) (vS s23)) (all3 fun s123 => imp3 (adm (vS s12) (vS s23) (vS s123)) (all3 fun m => imp3 (adm (vS s012) (vS s123) (vS m)) (imp3 (1 ≤ VL [vS s0, vS s1, vS s2, vS s3]) (decide (VL [vS s0, vS s01, vS s012, vS m] + VL [vS m, vS s123, vS s23, vS s3] + (if vS m = 0 then 1 else 0) ≤ VL [vS s0, vS s1, vS s2, vS s3] ∧ (VL [vS s0, vS s1, vS s2, vS s3] = 1 → VL [vS s0, vS s01, vS s012, vS m] + VL [vS m, vS s123, vS s23, vS s3] + (if vS m = 0 then 1 else 0) = 1)))))))))) = true := by decide +kernel
theorem vfC (s0 s1 s2 s3 s01 s12 s23 s012 s123 m : Fin 3) (h1 : adm (vS s0) (vS s1) (vS s01)) (h2 : adm (vS s1) (vS s2) (vS s12)) (h3 : adm (vS s2) (vS s3) (vS s23)) (h4 : adm (vS s01) (vS s12) (vS s012)) (h5 : adm (vS s12) (vS s23) (vS s123)) (h6 : adm (vS s012) (vS s123) (vS m)) (h7 : 1 ≤ VL [vS s0, vS s1, vS s2, vS s3]) : VL [vS s0, vS s01, vS s012, vS m] + VL [vS m, vS s123, vS s23, vS s3] + (if vS m = 0 then 1 else 0) ≤ VL [vS s0, vS s1, vS s2, vS s3] ∧ (VL [vS s0, vS s1, vS s2, vS s3] = 1 → VL [vS s0, vS s01, vS s012, vS m] + VL [vS m, vS s123, vS s23, vS s3] + (if vS m = 0 then 1 else 0) = 1) :=
  of_decide_eq_true (imp3_at (imp3_at (all3_at (imp3_at (all3_at (imp3_at (all3_at (all3_at (imp3_at (all3_at (imp3_at (all3_at (all3_at (imp3_at (all3_at (all3_at (all3_at vfD s0) s1) s01) h1) s2) s12) h2) s012) h4) s3) s23) h3) s123) h5) m) h6) h7)
/-- the signs of the first m numbers of a row -/
theorem chgF_stp (g : Int → Int) (k : Nat) : chgF g (k + 1) = stp (chgF g k) (sg (w64 (g k))) := rfl
theorem chg2 (g : Int → Int) : chg g 2 = VL [sg (w64 (g 0)), sg (w64 (g 1))] := rfl
theorem chg3 (g : Int → Int) : chg g 3 = VL [sg (w64 (g 0)), sg (w64 (g 1)), sg (w64 (g 2))] := rfl
theorem chg4 (g : Int → Int) : chg g 4 = VL [sg (w64 (g 0)), sg (w64 (g 1)), sg (w64 (g 2)), sg (w64 (g 3))] := rfl
theorem sg_mul {x k : Int} (h : 0 < k) : sg (x * k) = sg x := by
  rcases sg_cases x with ⟨a, e⟩ | ⟨a, e⟩ | ⟨a, e⟩
  · rw [e]; exact if_pos (Int.mul_pos a h)
  · rw [e]
    have := Int.mul_neg_of_neg_of_pos a h
    unfold sg
    rw [if_neg (by omega), if_pos this]
  · rw [a, Int.zero_mul]
/-- a row whose halves stay within long numbers -/
def smR (g : Int → Int) (n M : Int) : Prop := ∀ i, 0 ≤ i → i ≤ n → -M ≤ g i ∧ g i ≤ M
theorem smR_w {g : Int → Int} {n M k : Int} (h : smR g n M) (hM : M ≤ 4611686018427387904) (k0 : 0 ≤ k) (k1 : k ≤ n) : w64 (g k) = g k := by
  have := h k k0 k1
  exact w64_id (by omega) (by omega)
theorem half_le {g : Int → Int} {n M : Int} (n1 : 1 ≤ n) (n3 : n ≤ 3) (h : smR g n M) (hM : M * 8 ≤ 4611686018427387904) (hc : 1 ≤ chg g (Int.toNat (n + 1))) :
    chg (hv g n 0) (Int.toNat (n + 1)) + chg (hv g n 1) (Int.toNat (n + 1)) + (if w64 (hv g n 1 0) = 0 then 1 else 0) ≤ chg g (Int.toNat (n + 1)) ∧ (chg g (Int.toNat (n + 1)) = 1 → chg (hv g n 0) (Int.toNat (n + 1)) + chg (hv g n 1) (Int.toNat (n + 1)) + (if w64 (hv g n 1 0) = 0 then 1 else 0) = 1) := by
  have hMn : M * p2 n ≤ 4611686018427387904 := by
    have : M ≤ M * p2 n ∨ M < 0 := by
      by_cases z : 0 ≤ M
      · left
        have := Int.mul_le_mul_of_nonneg_left (show 1 ≤ p2 n by have := @p2_pos n; omega) z
        omega
      · exact Or.inr (by omega)
    by_cases z : 0 ≤ M
    · have q : p2 n ≤ 8 := p2_le (j := n) (k := 3) n3
      have := Int.mul_le_mul_of_nonneg_left q z
      omega
    · have q := Int.mul_neg_of_neg_of_pos (show M < 0 by omega) (@p2_pos n)
      omega
  have hM1 : M ≤ 4611686018427387904 := by omega
  have b0 : smR (hv g n 0) n (M * p2 n) := fun k k0 k1 => hv_bs h (Or.inl rfl) k0 k1
  have b1 : smR (hv g n 1) n (M * p2 n) := fun k k0 k1 => hv_bs h (Or.inr rfl) k0 k1
  have w := fun (k : Int) (k0 : 0 ≤ k) (k1 : k ≤ n) => smR_w h hM1 k0 k1
  have l := fun (k : Int) (k0 : 0 ≤ k) (k1 : k ≤ n) => (show sg (w64 (hv g n 0 k)) = sg (dF g (Int.toNat k) 0) by rw [smR_w b0 hMn k0 k1, hv_0 k0 k1, sg_mul p2_pos])
  have r := fun (k : Int) (k0 : 0 ≤ k) (k1 : k ≤ n) => (show sg (w64 (hv g n 1 k)) = sg (dF g (Int.toNat (n - k)) k) by rw [smR_w b1 hMn k0 k1, hv_1 k0 k1, sg_mul p2_pos])
  have z : w64 (hv g n 1 0) = 0 ↔ sg (w64 (hv g n 1 0)) = 0 := sg_eq0.symm
  have ez : (if w64 (hv g n 1 0) = 0 then (1 : Int) else 0) = (if sg (w64 (hv g n 1 0)) = 0 then 1 else 0) := by
    by_cases y : w64 (hv g n 1 0) = 0
    · rw [if_pos y, if_pos (z.mp y)]
    · rw [if_neg y, if_neg (fun x => y (z.mpr x))]
  rw [ez]
  rcases (show n = 1 ∨ n = 2 ∨ n = 3 by omega) with rfl | rfl | rfl
  · rw [show Int.toNat ((1 : Int) + 1) = 2 from rfl, chg2] at hc ⊢
    rw [chg2, chg2, l 0 (by decide) (by decide), l 1 (by decide) (by decide), r 0 (by decide) (by decide), r 1 (by decide) (by decide)]
    rw [w 0 (by decide) (by decide), w 1 (by decide) (by decide)] at hc ⊢
    have a := sg_adm (g 0) (g 1)
    show VL [sg (g 0), sg (g 0 + g (0 + 1))] + VL [sg (g 0 + g (0 + 1)), sg (g 1)] + (if sg (g 0 + g (0 + 1)) = 0 then 1 else 0) ≤ _ ∧ (_ → VL [sg (g 0), sg (g 0 + g (0 + 1))] + VL [sg (g 0 + g (0 + 1)), sg (g 1)] + (if sg (g 0 + g (0 + 1)) = 0 then 1 else 0) = 1)
    rw [show (0 : Int) + 1 = 1 from rfl]
    obtain ⟨i0, e0⟩ := vS_of (g 0)
    obtain ⟨i1, e1⟩ := vS_of (g 1)
    obtain ⟨im, em⟩ := vS_of (g 0 + g 1)
    rw [e0, e1, em] at a ⊢
    rw [e0, e1] at hc
    exact vfA i0 i1 im a hc
  · rw [show Int.toNat ((2 : Int) + 1) = 3 from rfl, chg3] at hc ⊢
    rw [chg3, chg3, l 0 (by decide) (by decide), l 1 (by decide) (by decide), l 2 (by decide) (by decide), r 0 (by decide) (by decide), r 1 (by decide) (by decide), r 2 (by decide) (by decide)]
    rw [w 0 (by decide) (by decide), w 1 (by decide) (by decide), w 2 (by decide) (by decide)] at hc ⊢
    have a := sg_adm (g 0) (g 1)
    have b := sg_adm (g 1) (g 2)
    have c := sg_adm (g 0 + g 1) (g 1 + g 2)
    show VL [sg (g 0), sg (g 0 + g 1), sg (g 0 + g 1 + (g 1 + g 2))] + VL [sg (g 0 + g 1 + (g 1 + g 2)), sg (g 1 + g 2), sg (g 2)] + (if sg (g 0 + g 1 + (g 1 + g 2)) = 0 then 1 else 0) ≤ _ ∧ (_ → VL [sg (g 0), sg (g 0 + g 1), sg (g 0 + g 1 + (g 1 + g 2))] + VL [sg (g 0 + g 1 + (g 1 + g 2)), sg (g 1 + g 2), sg (g 2)] + (if sg (g 0 + g 1 + (g 1 + g 2)) = 0 then 1 else 0) = 1)
    obtain ⟨i0, e0⟩ := vS_of (g 0)
    obtain ⟨i1, e1⟩ := vS_of (g 1)
    obtain ⟨i2, e2⟩ := vS_of (g 2)
    obtain ⟨j0, e3⟩ := vS_of (g 0 + g 1)
    obtain ⟨j1, e4⟩ := vS_of (g 1 + g 2)
    obtain ⟨im, em⟩ := vS_of (g 0 + g 1 + (g 1 + g 2))
    rw [e0, e1, e3] at a
    rw [e1, e2, e4] at b
    rw [e3, e4, em] at c
    rw [e0, e1, e2, e3, e4, em]
    rw [e0, e1, e2] at hc
    exact vfB i0 i1 j0 a i2 j1 b im c hc
  · rw [show Int.toNat ((3 : Int) + 1) = 4 from rfl, chg4] at hc ⊢
    rw [chg4, chg4, l 0 (by decide) (by decide), l 1 (by decide) (by decide), l 2 (by decide) (by decide), l 3 (by decide) (by decide), r 0 (by decide) (by decide), r 1 (by decide) (by decide), r 2 (by decide) (by decide), r 3 (by decide) (by decide)]
    rw [w 0 (by decide) (by decide), w 1 (by decide) (by decide), w 2 (by decide) (by decide), w 3 (by decide) (by decide)] at hc ⊢
    have a := sg_adm (g 0) (g 1)
    have b := sg_adm (g 1) (g 2)
    have c := sg_adm (g 2) (g 3)
    have a2 := sg_adm (g 0 + g 1) (g 1 + g 2)
    have b2 := sg_adm (g 1 + g 2) (g 2 + g 3)
    have a3 := sg_adm (g 0 + g 1 + (g 1 + g 2)) (g 1 + g 2 + (g 2 + g 3))
    show VL [sg (g 0), sg (g 0 + g 1), sg (g 0 + g 1 + (g 1 + g 2)), sg (g 0 + g 1 + (g 1 + g 2) + (g 1 + g 2 + (g 2 + g 3)))] + VL [sg (g 0 + g 1 + (g 1 + g 2) + (g 1 + g 2 + (g 2 + g 3))), sg (g 1 + g 2 + (g 2 + g 3)), sg (g 2 + g 3), sg (g 3)] + (if sg (g 0 + g 1 + (g 1 + g 2) + (g 1 + g 2 + (g 2 + g 3))) = 0 then 1 else 0) ≤ _ ∧ (_ → VL [sg (g 0), sg (g 0 + g 1), sg (g 0 + g 1 + (g 1 + g 2)), sg (g 0 + g 1 + (g 1 + g 2) + (g 1 + g 2 + (g 2 + g 3)))] + VL [sg (g 0 + g 1 + (g 1 + g 2) + (g 1 + g 2 + (g 2 + g 3))), sg (g 1 + g 2 + (g 2 + g 3)), sg (g 2 + g 3), sg (g 3)] + (if sg (g 0 + g 1 + (g 1 + g 2) + (g 1 + g 2 + (g 2 + g 3))) = 0 then 1 else 0) = 1)
    obtain ⟨i0, e0⟩ := vS_of (g 0)
    obtain ⟨i1, e1⟩ := vS_of (g 1)
    obtain ⟨i2, e2⟩ := vS_of (g 2)
    obtain ⟨i3, e3⟩ := vS_of (g 3)
    obtain ⟨j0, y0⟩ := vS_of (g 0 + g 1)
    obtain ⟨j1, y1⟩ := vS_of (g 1 + g 2)
    obtain ⟨j2, y2⟩ := vS_of (g 2 + g 3)
    obtain ⟨k0, x0⟩ := vS_of (g 0 + g 1 + (g 1 + g 2))
    obtain ⟨k1, x1⟩ := vS_of (g 1 + g 2 + (g 2 + g 3))
    obtain ⟨im, em⟩ := vS_of (g 0 + g 1 + (g 1 + g 2) + (g 1 + g 2 + (g 2 + g 3)))
    rw [e0, e1, y0] at a
    rw [e1, e2, y1] at b
    rw [e2, e3, y2] at c
    rw [y0, y1, x0] at a2
    rw [y1, y2, x1] at b2
    rw [x0, x1, em] at a3
    rw [e0, e1, e2, e3, y0, y2, x0, x1, em]
    rw [e0, e1, e2, e3] at hc
    exact vfC i0 i1 i2 i3 j0 j1 j2 k0 k1 im a b c a2 b2 a3 hc
theorem srch_len {n lim : Int} (n1 : 1 ≤ n) (n3 : n ≤ 3) : ∀ (f : Nat) (g : Int → Int) (d q M : Int), smR g n M → 0 ≤ M → M * p2 (3 * f) ≤ 4611686018427387904 → ((srch n lim f g d q).length : Int) ≤ chg g (Int.toNat (n + 1))
  | 0, g, _, _, _, _, _, _ => (chg_b g _).1
  | f + 1, g, d, q, M, h, hM0, hM => by
    have cb := chg_b g (Int.toNat (n + 1))
    unfold srch
    split
    · exact cb.1
    · split
      · rename_i _ e; rw [e]; exact Int.le_refl 1
      · split
        · show (1 : Int) ≤ _; omega
        · have e3 : p2 (3 * ((f + 1 : Nat) : Int)) = p2 3 * p2 (3 * f) := by rw [← p2_add (by decide) (by omega)]; congr 1; omega
          have P := @p2_pos (3 * (f : Int))
          have e8 : p2 3 = 8 := rfl
          rw [e3, e8] at hM
          have hM8 : M * 8 ≤ M * (8 * p2 (3 * f)) := Int.mul_le_mul_of_nonneg_left (by omega) hM0
          have hn : p2 n ≤ 8 := p2_le (j := n) (k := 3) n3
          have Pn := @p2_pos n
          have m0 : 0 ≤ M * p2 n := Int.mul_nonneg hM0 (by omega)
          have hMn : M * p2 n * p2 (3 * f) ≤ 4611686018427387904 := by
            have z : M * p2 n * p2 (3 * f) ≤ M * 8 * p2 (3 * f) := Int.mul_le_mul_of_nonneg_right (Int.mul_le_mul_of_nonneg_left hn hM0) (by omega)
            rw [Int.mul_assoc M 8] at z
            omega
          have hl := (half_le n1 n3 h (by omega) (by omega)).1
          have a := srch_len n1 n3 (lim := lim) f (hv g n 0) (d + 1) (2 * q) (M * p2 n) (fun k k0 k1 => hv_bs h (Or.inl rfl) k0 k1) m0 hMn
          have b := srch_len n1 n3 (lim := lim) f (hv g n 1) (d + 1) (2 * q + 1) (M * p2 n) (fun k k0 k1 => hv_bs h (Or.inr rfl) k0 k1) m0 hMn
          rw [List.length_append, List.length_append]
          by_cases y : w64 (hv g n 1 0) = 0
          · rw [if_pos y] at hl ⊢; simp only [List.length_cons, List.length_nil, Int.natCast_add]; omega
          · rw [if_neg y] at hl ⊢; simp only [List.length_nil, Int.natCast_add]; omega
theorem rootsL_len {g : Int → Int} {n lim M : Int} (n1 : 1 ≤ n) (n3 : n ≤ 3) (h : smR g n M) (hM0 : 0 ≤ M) (hM : M * p2 39 ≤ 4611686018427387904) : ((rootsL g n lim).length : Int) ≤ 8 := by
  have a := srch_len (lim := lim) n1 n3 13 g 0 0 M h hM0 hM
  have cb := chg_b g (Int.toNat (n + 1))
  unfold rootsL
  split
  · decide
  · rw [List.length_append, List.length_append]
    have l1 : ((if w64 (g 0) = 0 then [((0 : Int), (0 : Int), (0 : Int))] else []).length : Int) ≤ 1 := by split <;> decide
    have l2 : ((if w64 (g n) = 0 then [((0 : Int), (0 : Int), (1 : Int))] else []).length : Int) ≤ 1 := by split <;> decide
    omega
/-! refining: the class follows an isolated root as the model does -/
theorem smR_h {g : Int → Int} {n M : Int} (n1 : 1 ≤ n) (n3 : n ≤ 3) (hM : M * 8 ≤ 4611686018427387904) : M ≤ 4611686018427387904 ∧ M * p2 n ≤ 4611686018427387904 := by
  have P := @p2_pos n
  by_cases z : 0 ≤ M
  · have q : p2 n ≤ 8 := p2_le (j := n) (k := 3) n3
    have a := Int.mul_le_mul_of_nonneg_left q z
    omega
  · have q := Int.mul_neg_of_neg_of_pos (show M < 0 by omega) P
    omega
/-- an isolated root's cell has one change -/
theorem srch_one {n lim : Int} {G : Int → Int} : ∀ (m : Nat) (d q : Int) (x : RT), 0 ≤ d → 0 ≤ q → x ∈ srch n lim m (cellF G n (Int.toNat d) q) d q → x.1 = 1 → chg (cellF G n (Int.toNat x.2.1) x.2.2) (Int.toNat (n + 1)) = 1
  | 0, _, _, _, _, _, h, _ => by simp [srch] at h
  | m + 1, d, q, x, d0, q0, h, hx => by
    have e0 : hv (cellF G n (Int.toNat d) q) n 0 = cellF G n (Int.toNat (d + 1)) (2 * q) := by rw [cellF_s d0, show 2 * q / 2 = q by omega, show 2 * q % 2 = 0 by omega]
    have e1 : hv (cellF G n (Int.toNat d) q) n 1 = cellF G n (Int.toNat (d + 1)) (2 * q + 1) := by rw [cellF_s d0, show (2 * q + 1) / 2 = q by omega, show (2 * q + 1) % 2 = 1 by omega]
    unfold srch at h
    split at h
    · simp at h
    · split at h
      · rename_i y; simp at h; rw [h]; exact y
      · split at h
        · simp at h; rw [h] at hx; simp at hx
        · rcases List.mem_append.mp h with h | h
          · rw [e0] at h; exact srch_one m _ _ x (by omega) (by omega) h hx
          · rcases List.mem_append.mp h with h | h
            · split at h
              · simp at h; rw [h] at hx; simp at hx
              · simp at h
            · rw [e1] at h; exact srch_one m _ _ x (by omega) (by omega) h hx
theorem rootsL_one {n lim : Int} {G : Int → Int} {x : RT} (h : x ∈ rootsL G n lim) (hx : x.1 = 1) : chg (cellF G n (Int.toNat x.2.1) x.2.2) (Int.toNat (n + 1)) = 1 := by
  unfold rootsL at h
  split at h
  · simp at h
  · rcases List.mem_append.mp h with h | h
    · split at h
      · simp at h; rw [h] at hx; simp at hx
      · simp at h
    · rcases List.mem_append.mp h with h | h
      · exact srch_one 13 0 0 x (Int.le_refl 0) (Int.le_refl 0) h hx
      · split at h
        · simp at h; rw [h] at hx; simp at hx
        · simp at h
theorem cfL_sm {f : Int → Int} (h : fgOK f) {c l : Int} (c0 : 0 ≤ c) (c1 : c < f 0) (l0 : 0 ≤ l) (l1 : l < f 1) : smR (cfL f c l) (f (18 + c) - 1) 24600 := fun i i0 i1 => by
  show -24600 ≤ cfX f c l i ∧ cfX f c l i ≤ 24600
  rw [cfX_R h c0 c1 l0 l1 i0 (by omega)]
  exact cfR_b h c0 c1 l0 l1 i0 (by omega)
theorem RTB_T : RTB := fun f h c l c0 c1 l0 l1 => by
  have hn := (h.2.2.1 c c0 c1).1
  exact rootsL_len (M := 24600) (by omega) (by omega) (cfL_sm h c0 c1 l0 l1) (by decide) (by rw [show p2 39 = 549755813888 from rfl]; decide)
