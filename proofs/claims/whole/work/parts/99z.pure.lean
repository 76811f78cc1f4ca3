/-! lines and settings of the model -/
def rlS1 (A : AA) (n : Int) (s : PS) : PS := goM (A 26) n (fiP s (if A 27 15 = 6 then 1 else 0) (-14))
def rlS2 (A : AA) (n : Int) (s : PS) : PS := nmG A n (rlS1 A n s)
def rlX (A : AA) (n : Int) (s : PS) : Int := sgR (A 26) n 5 (rlS2 A n s)
def rlS3 (A : AA) (n : Int) (s : PS) : PS := sgS (A 26) n 5 1 (rlS2 A n s)
def rlY (A : AA) (n : Int) (s : PS) : Int := sgR (A 26) n 5 (rlS3 A n s)
def rlS4 (A : AA) (n : Int) (s : PS) : PS := sgS (A 26) n 5 (if rlX A n s = 0 then 0 else 1) (rlS3 A n s)
def rlZ (A : AA) (n : Int) (s : PS) : Int := sgR (A 26) n 200 (rlS4 A n s)
def rlS5 (A : AA) (n : Int) (s : PS) : PS := sgS (A 26) n 200 1 (rlS4 A n s)
def rlA (A : AA) (n : Int) (s : PS) : AA := if (rlS5 A n s).1 = 0 then upA (upA (r29 A (up1 (up1 (up1 (A 29) (104 + 3 * A 27 15) (rlX A n s)) (104 + 3 * A 27 15 + 1) (rlY A n s)) (104 + 3 * A 27 15 + 2) (rlZ A n s))) 27 (8 + A 27 15) (nmN (A 26) (rlS1 A n s))) 27 15 (A 27 15 + 1) else A
theorem sgR_b {T : Int → Int} {n m : Int} {s : PS} (h : psOK n s) (hn : 0 ≤ n) (h2 : n ≤ 800) : -2000000 ≤ sgR T n m s ∧ sgR T n m s ≤ 2000000 := by
  have b := inV_b (a := 0) (b := m) (sg1_ok (T := T) h hn h2)
  unfold sgR
  split <;> omega
theorem sgS_n {T : Int → Int} {n m z : Int} {s : PS} (h : ¬ s.1 = 0) : ¬ (sgS T n m z s).1 = 0 := by
  have h1 : ¬ (sg1 T n s).1 = 0 := by
    unfold sg1
    split
    · rw [goM_1]; exact h
    · exact h
  unfold sgS
  rw [goM_1, fiP_n (by rw [inS_n h1]; exact h1), inS_n h1]; exact h1
/-- too many lines: an error -/
theorem rl_6 {A : AA} {n : Int} {s : PS} (h : A 27 15 = 6) : ¬ (rlS2 A n s).1 = 0 := by
  refine nmG_n ?_
  unfold rlS1
  rw [goM_1, if_pos h]
  by_cases z : s.1 = 0
  · rw [fiP_t ⟨z, rfl⟩]; show ¬ (-14 : Int) = 0; decide
  · rw [fiP_n z]; exact z
theorem rl5_n {A : AA} {n : Int} {s : PS} (h : ¬ (rlS2 A n s).1 = 0) : ¬ (rlS5 A n s).1 = 0 := sgS_n (sgS_n (sgS_n h))
/-- settings -/
def rsS2 (T : Int → Int) (n : Int) (s : PS) : PS := fiP (goM T n s) (if (¬ (goM T n s).2.2.2.2.1 = 0) ∨ (goM T n s).2.2.2.2.2 < 3 then 1 else 0) (-11)
def rsW (T : Int → Int) (n : Int) (s : PS) : Int := if (rsS2 T n s).1 = 0 then (goM T n s).2.2.2.2.2 - 3 else 0
def rsS3 (T : Int → Int) (n g : Int) (s : PS) : PS := fiP (rsS2 T n s) (if x_and (x_shr g (rsW T n s)) 1 = 1 then 1 else 0) (-13)
def tpM (w : Int) : Int := if w = 0 then 12 else 6
def rsV (T : Int → Int) (n g : Int) (s : PS) : Int := inV 1 (tpM (rsW T n s)) (goM T n (rsS3 T n g s))
def rsS5 (T : Int → Int) (n g : Int) (s : PS) : PS := goM T n (inS 1 (tpM (rsW T n s)) (goM T n (rsS3 T n g s)))
def rsA (A : AA) (n g : Int) (s : PS) : AA := if (rsS5 (A 26) n g s).1 = 0 then upA A 29 (122 + rsW (A 26) n s) (rsV (A 26) n g s) else A
theorem nxK_w {T : Int → Int} {n : Int} {t : TK} (h : (nxK T n t).2.2.1 = 0) : (nxK T n t).2.2.2 ≤ 4 := by
  unfold nxK nxQ at h ⊢
  generalize runB T n (Int.toNat (n - t.2.1)) t.2.1 = p at h ⊢
  by_cases z : n ≤ p
  · rw [if_pos z] at h; exact absurd h (by show ¬ (3 : Int) = 0; decide)
  · rw [if_neg z] at h ⊢
    by_cases z1 : ltP (sgT T n p)
    · rw [if_pos z1]; exact (wdX_b T p _).2
    · rw [if_neg z1] at h ⊢
      by_cases z2 : dgP (sgT T n p)
      · rw [if_pos z2] at h; exact absurd h (by show ¬ (1 : Int) = 0; decide)
      · rw [if_neg z2] at h
        dsimp only at h
        split at h <;> omega
theorem rsW_b (T : Int → Int) (n : Int) (s : PS) : 0 ≤ rsW T n s ∧ rsW T n s ≤ 1 := by
  unfold rsW
  by_cases z : (rsS2 T n s).1 = 0
  · rw [if_pos z]
    unfold rsS2 at z
    by_cases e : (goM T n s).1 = 0
    · by_cases w : (¬ (goM T n s).2.2.2.2.1 = 0) ∨ (goM T n s).2.2.2.2.2 < 3
      · rw [if_pos w, fiP_t ⟨e, rfl⟩] at z
        exact absurd z (by show ¬ (-11 : Int) = 0; decide)
      · have e2 : s.1 = 0 := by rw [goM_1] at e; exact e
        have g : goM T n s = (s.1, s.2.1, nxK T n s.2.2) := if_pos e2
        rw [g] at w ⊢
        dsimp only at w ⊢
        have := nxK_w (T := T) (n := n) (t := s.2.2) (by omega)
        omega
    · rw [fiP_n e] at z; exact absurd z e
  · rw [if_neg z]; decide
theorem upA_29_3 {A : AA} {i j k x y z : Int} : upA (upA (upA A 29 i x) 29 j y) 29 k z = r29 A (up1 (up1 (up1 (A 29) i x) j y) k z) := by
  rw [show upA A 29 i x = r29 A (up1 (A 29) i x) from upA_29', upA_29, upA_29]
