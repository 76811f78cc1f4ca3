/-! statements and texts, purely -/
theorem crv_e {T : Int → Int} {n c : Int} : ∀ (m : Nat) (i : Int) (t : TK) (f : Int → Int), -14 ≤ (crv T n c m i t f).1 ∧ (crv T n c m i t f).1 ≤ 0
  | 0, _, _, _ => by show (-14 : Int) ≤ -14 ∧ (-14 : Int) ≤ 0; decide
  | m + 1, i, t, f => by
    have a := ptE_b (i / 3) (i % 3) t
    unfold crv
    split
    · show (-14 : Int) ≤ 0 ∧ (0 : Int) ≤ 0; decide
    · split
      · exact crv_e m _ _ _
      · exact a
theorem rdC_e {T : Int → Int} {n : Int} {t : TK} {f : Int → Int} : -14 ≤ (rdC T n t f).1 ∧ (rdC T n t f).1 ≤ 0 := by
  have a := nmE_b f (nxT T n t)
  unfold rdC
  split
  · split
    · exact crv_e _ _ _ _
    · exact ⟨by dsimp only; omega, a.2⟩
  · show (-14 : Int) ≤ -14 ∧ (-14 : Int) ≤ 0; decide
theorem lnE_b (w a : Int) (t : TK) : -12 ≤ lnE w a t ∧ lnE w a t ≤ 0 := by
  have b := inE_b 0 (if w < 2 then 5 else 200) t
  unfold lnE
  generalize inE 0 (if w < 2 then 5 else 200) t = e at b ⊢
  split
  · omega
  · exact b
theorem lin_e {T : Int → Int} {n l : Int} : ∀ (m : Nat) (w : Int) (t : TK) (f : Int → Int), -14 ≤ (lin T n l m w t f).1 ∧ (lin T n l m w t f).1 ≤ 0
  | 0, _, _, _ => by show (-14 : Int) ≤ 0 ∧ (0 : Int) ≤ 0; decide
  | m + 1, w, t, f => by
    have a := lnE_b w (f (122 + l * 3 + 0)) (sgK T n t)
    unfold lin
    split
    · exact lin_e m _ _ _
    · exact ⟨by dsimp only; omega, a.2⟩
theorem rdL_e {T : Int → Int} {n : Int} {t : TK} {f : Int → Int} : -14 ≤ (rdL T n t f).1 ∧ (rdL T n t f).1 ≤ 0 := by
  have a := nmE_b f (nxT T n t)
  unfold rdL
  split
  · split
    · exact lin_e _ _ _ _
    · exact ⟨by dsimp only; omega, a.2⟩
  · show (-14 : Int) ≤ -14 ∧ (-14 : Int) ≤ 0; decide
theorem rdS_e {T : Int → Int} {n g : Int} {t : TK} {f : Int → Int} : -14 ≤ (rdS T n t f g).1 ∧ (rdS T n t f g).1 ≤ 0 := by
  have a := inE_b 1 (gtO (stI (nxT T n t))) (nxT T n (nxT T n t))
  unfold rdS
  split
  · split
    · split
      · show (-14 : Int) ≤ 0 ∧ (0 : Int) ≤ 0; decide
      · exact ⟨by dsimp only; omega, a.2⟩
    · show (-14 : Int) ≤ -13 ∧ (-13 : Int) ≤ 0; decide
  · show (-14 : Int) ≤ -11 ∧ (-11 : Int) ≤ 0; decide
theorem rdX_e {T : Int → Int} {n g : Int} {t : TK} {f : Int → Int} : -14 ≤ (rdX T n t f g).1 ∧ (rdX T n t f g).1 ≤ 0 := by
  unfold rdX
  split
  · exact rdC_e
  · split
    · exact rdL_e
    · split
      · exact rdS_e
      · show (-14 : Int) ≤ -11 ∧ (-11 : Int) ≤ 0; decide
theorem rdT_e {T : Int → Int} {n g : Int} {t : TK} {f : Int → Int} : -14 ≤ (rdT T n t f g).1 ∧ (rdT T n t f g).1 ≤ 0 := by
  unfold rdT
  split
  · split
    · show (-14 : Int) ≤ 0 ∧ (0 : Int) ≤ 0; decide
    · show (-14 : Int) ≤ -11 ∧ (-11 : Int) ≤ 0; decide
  · exact rdX_e
theorem rdA_s {T : Int → Int} {n s : Int} {t : TK} {f : Int → Int} {g : Int} (h : s < 801) : rdA T n (Int.toNat (801 - s)) s t f g = if t.2.2.1 = 5 then (s, t, f, g) else if (rdT T n t f g).1 = 0 then rdA T n (Int.toNat (801 - (s + 1))) (s + 1) (rdT T n t f g).2.1 (rdT T n t f g).2.2.1 (rdT T n t f g).2.2.2 else rdT T n t f g := by
  rw [show Int.toNat (801 - s) = Int.toNat (801 - (s + 1)) + 1 by omega]; rfl
theorem rdA_0 {T : Int → Int} {n s : Int} {t : TK} {f : Int → Int} {g : Int} (h : 801 ≤ s) : rdA T n (Int.toNat (801 - s)) s t f g = (-11, t, f, g) := by
  rw [show Int.toNat (801 - s) = 0 by omega]; rfl
theorem rdA_ok {T : Int → Int} {n : Int} : ∀ (m : Nat) (s : Int) (t : TK) (f : Int → Int) (g : Int), tkOK n t → ctOK f → 0 ≤ g ∧ g ≤ 3 → tkOK n (rdA T n m s t f g).2.1 ∧ ctOK (rdA T n m s t f g).2.2.1
  | 0, _, _, _, _, h, h2, _ => ⟨h, h2⟩
  | m + 1, s, t, f, g, h, h2, hg => by
    have a := rdT_ok (T := T) h h2 hg
    unfold rdA
    split
    · exact ⟨h, h2⟩
    · split
      · exact rdA_ok m _ _ _ _ a.1 a.2.1 a.2.2
      · exact ⟨a.1, a.2.1⟩
theorem rdA_e {T : Int → Int} {n : Int} : ∀ (m : Nat) (s : Int) (t : TK) (f : Int → Int) (g : Int), 0 ≤ s → -14 ≤ (rdA T n m s t f g).1 ∧ (rdA T n m s t f g).1 ≤ s + m
  | 0, s, _, _, _, h => by show (-14 : Int) ≤ -11 ∧ (-11 : Int) ≤ s + ((0 : Nat) : Int); omega
  | m + 1, s, t, f, g, h => by
    have a := rdT_e (T := T) (n := n) (g := g) (t := t) (f := f)
    unfold rdA
    split
    · show (-14 : Int) ≤ s ∧ s ≤ s + ((m + 1 : Nat) : Int); omega
    · split
      · have := rdA_e (T := T) (n := n) m (s + 1) (rdT T n t f g).2.1 (rdT T n t f g).2.2.1 (rdT T n t f g).2.2.2 (by omega); omega
      · omega
/-- an empty figure's row -/
def emR (f : Int → Int) : Int → Int := up1 (up1 (fun j => if 0 ≤ j ∧ j < 140 then 0 else f j) 2 10) 3 4
theorem em_r4 {A : AA} : fput (fput (fillA A 4 140 0) 4 2 10) 4 3 4 = r4 A (emR (A 4)) := by
  have e : fillA A 4 140 0 = r4 A (fun j => if 0 ≤ j ∧ j < 140 then 0 else A 4 j) := by
    funext b i; unfold fillA r4
    by_cases hb : b = 4
    · rw [if_pos hb]
      by_cases hi : 0 ≤ i ∧ i < 140
      · rw [if_pos ⟨hb, hi⟩]; exact (if_pos hi).symm
      · rw [if_neg (fun z => hi z.2), hb]; exact (if_neg hi).symm
    · rw [if_neg (fun z => hb z.1), if_neg hb]
  rw [e, put2_r4 (by omega) (by omega) (by omega) (by omega)]; rfl
theorem em_8 {A : AA} : fput (fput (fillA A 4 140 0) 4 2 10) 4 3 4 8 = A 8 := by rw [em_r4]; rfl
theorem em_ct {f : Int → Int} : ctOK (emR f) := by
  unfold ctOK emR
  rw [up1_o (by decide), up1_o (by decide), up1_o (by decide), up1_o (by decide)]
  rw [if_pos (by decide), if_pos (by decide)]
  decide
theorem tkS_u4 {F : FF} {t : TK} {v : Int} : tkS (upF F 7 4 v) t = tkS F t := by
  funext a b; unfold tkS upF
  by_cases h4 : a = 7 ∧ b = 4
  · rw [if_neg (by omega), if_pos h4, if_neg (by omega), if_pos h4]
  · simp only [if_neg h4]
def ldR (A : AA) (F : FF) (n : Int) : R4 := rdA (A 8) n 801 0 (adF (A 8) n 0 (F 7 6)) (emR (A 4)) 0
theorem ldR_ok {A : AA} {F : FF} {n : Int} (h : 0 ≤ n) (hv : -2147483648 ≤ F 7 6 ∧ F 7 6 < 2147483648) : tkOK n (ldR A F n).2.1 ∧ ctOK (ldR A F n).2.2.1 := rdA_ok 801 0 _ _ _ (adF_ok (Int.le_refl 0) h hv) em_ct (by decide)
theorem ldR_e {A : AA} {F : FF} {n : Int} : -14 ≤ (ldR A F n).1 ∧ (ldR A F n).1 ≤ 801 := rdA_e 801 0 _ _ _ (Int.le_refl 0)
/-- what load does -/
def ldQ (F G : FF) (A B : AA) (n : Int) : Prop := (∀ a b, a ≠ 7 ∧ (a ≠ 0 ∨ b ≠ 9) ∧ (a ≠ 5 ∨ b ≠ 2) → G a b = F a b) ∧ G 7 1 = 0 ∧ (-2147483648 ≤ G 7 6 ∧ G 7 6 < 2147483648) ∧ ((ldR A F n).1 < 0 → G 0 9 = (ldR A F n).2.1.1 ∧ G 5 2 = F 5 2 ∧ ∀ b i, b ≠ 4 → B b i = A b i) ∧ (¬ (ldR A F n).1 < 0 → G 0 9 = -1 ∧ G 5 2 = 0 ∧ (∀ b i, b ≠ 4 ∧ b ≠ 2 → B b i = A b i) ∧ ∀ i, 0 ≤ i → i < 140 → B 2 i = (ldR A F n).2.2.1 i)
theorem tkS_o {F : FF} {t : TK} {a b : Nat} (h : a ≠ 7) : tkS F t a b = F a b := by
  unfold tkS; rw [if_neg (by omega), if_neg (by omega), if_neg (by omega), if_neg (by omega)]
