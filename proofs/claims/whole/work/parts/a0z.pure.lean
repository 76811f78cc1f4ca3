/-! statements of the model, one after another -/
def stK (s : PS) : Int := if s.2.2.2.2.1 = 0 then s.2.2.2.2.2 else -1
def stS1 (A : AA) (n g : Int) (s : PS) : PS := if stK s = 0 then (rcR A n s).1 else if stK s = 1 then rlS5 A n s else if stK s = 2 then rsS5 (A 26) n g s else fiP s 1 (-11)
def stN (A : AA) (n x : Int) (s : PS) : Int := if stK s = 0 then nmN (A 26) (rcS1 A n s) else if stK s = 1 then nmN (A 26) (rlS1 A n s) else x
def stG (A : AA) (n g : Int) (s : PS) : Int := if stK s = 2 then x_or g (x_shl 1 (rsW (A 26) n s)) else g
def stA (A : AA) (n g : Int) (s : PS) : AA := if stK s = 0 then rcA A n s else if stK s = 1 then rlA A n s else if stK s = 2 then rsA A n g s else A
def stS2 (A : AA) (n g : Int) (s : PS) : PS := goM (A 26) n (fiP (stS1 A n g s) (if (stS1 A n g s).2.2.2.2.1 = 2 then 0 else 1) (-11))
theorem rcM_ok {T : Int → Int} {n c : Int} (hn : 0 ≤ n) (h2 : n ≤ 800) : ∀ (m : Nat) (k : Int) (s : PS) (g : Int → Int), psOK n s → psOK n (rcM T n c m k s g).1
  | 0, _, _, _, h => h
  | m + 1, k, s, g, h => by
    unfold rcM
    split
    · split
      · exact rcM_ok hn h2 m _ _ _ (peS_ok h hn h2)
      · exact peS_ok h hn h2
    · exact h
theorem rcS1_ok {A : AA} {n : Int} {s : PS} (h : psOK n s) (hn : 0 ≤ n) (h2 : n ≤ 800) : psOK n (rcS1 A n s) := goM_ok (fiP_ok h h2 (by decide)) hn h2
theorem rlS5_ok {A : AA} {n : Int} {s : PS} (h : psOK n s) (hn : 0 ≤ n) (h2 : n ≤ 800) : psOK n (rlS5 A n s) :=
  sgS_ok (sgS_ok (sgS_ok (nmG_ok (goM_ok (fiP_ok h h2 (by decide)) hn h2) hn h2) hn h2) hn h2) hn h2
theorem rsS5_ok {T : Int → Int} {n g : Int} {s : PS} (h : psOK n s) (hn : 0 ≤ n) (h2 : n ≤ 800) : psOK n (rsS5 T n g s) :=
  goM_ok (inS_ok (goM_ok (fiP_ok (fiP_ok (goM_ok h hn h2) h2 (by decide)) h2 (by decide)) hn h2) h2) hn h2
theorem stS1_ok {A : AA} {n g : Int} {s : PS} (h : psOK n s) (hn : 0 ≤ n) (h2 : n ≤ 800) : psOK n (stS1 A n g s) := by
  unfold stS1
  split
  · exact rcM_ok hn h2 _ _ _ _ (nmG_ok (rcS1_ok h hn h2) hn h2)
  · split
    · exact rlS5_ok h hn h2
    · split
      · exact rsS5_ok h hn h2
      · exact fiP_ok h h2 (by decide)
theorem stS2_ok {A : AA} {n g : Int} {s : PS} (h : psOK n s) (hn : 0 ≤ n) (h2 : n ≤ 800) : psOK n (stS2 A n g s) :=
  goM_ok (fiP_ok (stS1_ok h hn h2) h2 (by decide)) hn h2
/-- the position only goes on -/
abbrev pO (s : PS) : Int := s.2.2.2.1
theorem nxK_le {T : Int → Int} {n : Int} {t : TK} : t.2.1 ≤ (nxK T n t).1 ∧ (nxK T n t).1 ≤ (nxK T n t).2.1 := by
  have a := runB_b T n (Int.toNat (n - t.2.1)) t.2.1
  unfold nxK nxQ
  generalize runB T n (Int.toNat (n - t.2.1)) t.2.1 = p at a ⊢
  have b := runL_b T n (Int.toNat (n - p)) p
  have c := runD_b T n (Int.toNat (n - p)) p
  split
  · dsimp only; omega
  · split
    · dsimp only; omega
    · split <;> dsimp only <;> omega
theorem goM_le {T : Int → Int} {n : Int} {s : PS} : pO s ≤ pO (goM T n s) := by
  have a := nxK_le (T := T) (n := n) (t := s.2.2)
  unfold goM
  split
  · show s.2.2.2.1 ≤ (nxK T n s.2.2).2.1; omega
  · exact Int.le_refl _
theorem goM_pl {T : Int → Int} {n : Int} {s : PS} (h : s.1 = 0) : pO s ≤ (goM T n s).2.2.1 := by
  have a := nxK_le (T := T) (n := n) (t := s.2.2)
  unfold goM
  rw [if_pos h]
  exact a.1
theorem fiP_le {s : PS} {z v : Int} : pO s ≤ pO (fiP s z v) := by
  show s.2.2.2.1 ≤ (fiP s z v).2.2.2.1
  rw [fiP_22]; exact Int.le_refl _
theorem inS_le {s : PS} {a b : Int} : pO s ≤ pO (inS a b s) := Int.le_trans fiP_le fiP_le
theorem sg1_le {T : Int → Int} {n : Int} {s : PS} : pO s ≤ pO (sg1 T n s) := by
  unfold sg1
  split
  · exact goM_le
  · exact Int.le_refl _
theorem sgS_le {T : Int → Int} {n m z : Int} {s : PS} : pO s ≤ pO (sgS T n m z s) := Int.le_trans sg1_le (Int.le_trans inS_le (Int.le_trans fiP_le goM_le))
theorem nmG_le {A : AA} {n : Int} {s : PS} : pO s ≤ pO (nmG A n s) := Int.le_trans (Int.le_trans fiP_le fiP_le) goM_le
theorem peS_le {T : Int → Int} {n k : Int} {s : PS} : pO s ≤ pO (peS T n k s) :=
  Int.le_trans (Int.le_trans inS_le (Int.le_trans fiP_le goM_le)) (Int.le_trans (Int.le_trans inS_le goM_le) (Int.le_trans inS_le goM_le))
theorem rcM_le {T : Int → Int} {n c : Int} : ∀ (m : Nat) (k : Int) (s : PS) (g : Int → Int), pO s ≤ pO (rcM T n c m k s g).1
  | 0, _, _, _ => Int.le_refl _
  | m + 1, k, s, g => by
    unfold rcM
    split
    · split
      · exact Int.le_trans peS_le (rcM_le m _ _ _)
      · exact peS_le
    · exact Int.le_refl _
theorem rlS5_le {A : AA} {n : Int} {s : PS} : pO s ≤ pO (rlS5 A n s) :=
  Int.le_trans (Int.le_trans fiP_le goM_le) (Int.le_trans nmG_le (Int.le_trans sgS_le (Int.le_trans sgS_le sgS_le)))
theorem rsS5_le {T : Int → Int} {n g : Int} {s : PS} : pO s ≤ pO (rsS5 T n g s) :=
  Int.le_trans goM_le (Int.le_trans fiP_le (Int.le_trans fiP_le (Int.le_trans goM_le (Int.le_trans inS_le goM_le))))
theorem stS1_le {A : AA} {n g : Int} {s : PS} : pO s ≤ pO (stS1 A n g s) := by
  unfold stS1
  split
  · exact Int.le_trans (Int.le_trans fiP_le goM_le) (Int.le_trans nmG_le (rcM_le _ _ _ _))
  · split
    · exact rlS5_le
    · split
      · exact rsS5_le
      · exact fiP_le
theorem stS2_pl {A : AA} {n g : Int} {s : PS} (h : (stS2 A n g s).1 = 0) : pO s ≤ (stS2 A n g s).2.2.1 := by
  unfold stS2 at h ⊢
  rw [goM_1] at h
  exact Int.le_trans (Int.le_trans stS1_le fiP_le) (goM_pl h)
/-- what a statement leaves alone -/
theorem stA_o {A : AA} {n g : Int} {s : PS} {b : Nat} (h1 : b ≠ 27) (h2 : b ≠ 29) : stA A n g s b = A b := by
  have hc : rcA A n s b = A b := by
    funext j
    unfold rcA
    split
    · rw [upA_k h1, upA_k h1, r29_o h2]
    · rw [r29_o h2]
  have hl : rlA A n s b = A b := by
    funext j
    unfold rlA
    split
    · rw [upA_k h1, upA_k h1, r29_o h2]
    · rfl
  have hs : rsA A n g s b = A b := by
    funext j
    unfold rsA
    split
    · rw [upA_k h2]
    · rfl
  unfold stA
  split
  · exact hc
  · split
    · exact hl
    · split
      · exact hs
      · rfl
theorem stA_26 {A : AA} {n g : Int} {s : PS} : stA A n g s 26 = A 26 := stA_o (by decide) (by decide)
theorem rcM_n {T : Int → Int} {n c : Int} {m : Nat} {k : Int} {s : PS} {g : Int → Int} (h : ¬ s.1 = 0) : ¬ (rcM T n c m k s g).1.1 = 0 := by
  cases m with
  | zero => exact h
  | succ m => unfold rcM; rw [if_neg (fun z => h z.1)]; exact h
/-- the counts of curves and lines -/
abbrev ctM (A : AA) : Prop := (0 ≤ A 27 14 ∧ A 27 14 ≤ 8) ∧ (0 ≤ A 27 15 ∧ A 27 15 ≤ 6)
theorem stA_ct {A : AA} {n g : Int} {s : PS} (h : ctM A) : ctM (stA A n g s) := by
  obtain ⟨h1, h2⟩ := h
  unfold stA
  split
  · unfold rcA
    split
    · rename_i z
      have n8 : ¬ A 27 14 = 8 := fun y => rcM_n (rc_8 (n := n) (s := s) y) z
      refine ⟨?_, ?_⟩
      · rw [upA_s]; omega
      · rw [upA_o (by omega), upA_o (by omega), r29_27]; exact h2
    · exact ⟨h1, h2⟩
  · split
    · unfold rlA
      split
      · rename_i z
        have n6 : ¬ A 27 15 = 6 := fun y => rl5_n (rl_6 (n := n) (s := s) y) z
        refine ⟨?_, ?_⟩
        · rw [upA_o (by omega), upA_o (by omega), r29_27]; exact h1
        · rw [upA_s]; omega
      · exact ⟨h1, h2⟩
    · split
      · unfold rsA
        split
        · exact ⟨h1, h2⟩
        · exact ⟨h1, h2⟩
      · exact ⟨h1, h2⟩
theorem orS {g w : Int} (h : 0 ≤ g ∧ g ≤ 3) (hw : 0 ≤ w ∧ w ≤ 1) : 0 ≤ x_or g (x_shl 1 w) ∧ x_or g (x_shl 1 w) ≤ 3 := by
  rcases (show g = 0 ∨ g = 1 ∨ g = 2 ∨ g = 3 by omega) with rfl | rfl | rfl | rfl <;> rcases (show w = 0 ∨ w = 1 by omega) with rfl | rfl <;> decide
theorem stG_b {A : AA} {n g : Int} {s : PS} (h : 0 ≤ g ∧ g ≤ 3) : 0 ≤ stG A n g s ∧ stG A n g s ≤ 3 := by
  unfold stG
  split
  · exact orS h (rsW_b _ _ _)
  · exact h
/-- statements until the text ends or one fails -/
abbrev LdS : Type := PS × Int × Int × Int × AA
def ldM (n : Int) : Nat → LdS → LdS
  | 0, q => q
  | m + 1, q => if q.1.1 = 0 ∧ ¬ q.1.2.2.2.2.1 = 3 then ldM n m (stS2 q.2.2.2.2 n q.2.2.1 q.1, stN q.2.2.2.2 n q.2.1 q.1, stG q.2.2.2.2 n q.2.2.1 q.1, q.2.2.2.1 + 1, stA q.2.2.2.2 n q.2.2.1 q.1) else q
theorem ldM_n {n : Int} {m : Nat} {q : LdS} (h : ¬ (q.1.1 = 0 ∧ ¬ q.1.2.2.2.2.1 = 3)) : ldM n m q = q := by
  cases m with
  | zero => rfl
  | succ m => unfold ldM; rw [if_neg h]
/-- the model's fields over a state of reading -/
abbrev ldF (F : FF) (n : Int) (s : PS) (x g c : Int) : FF := upF (upF (upF (psS (upF (upF F 25 0 0) 25 20 n) s) 25 25 x) 25 30 g) 25 29 c
theorem psS_in {F : FF} {s : PS} {j : Nat} {v : Int} (h : j = 26 ∨ j = 27 ∨ j = 22 ∨ j = 21 ∨ j = 23 ∨ j = 24) : psS (upF F 25 j v) s = psS F s :=
  psS_of (fun a b hab => by rw [psS_o hab, upF_o (by omega)]) rfl
theorem ldF_st {F : FF} {n : Int} {s t : PS} {x g c y e d : Int} : upF (upF (upF (psS (ldF F n s x g c) t) 25 25 y) 25 30 e) 25 29 d = ldF F n t y e d := by
  unfold ldF
  rw [psS_up (by decide), psS_up (by decide), psS_up (by decide), psS_S]
  funext a b
  by_cases z1 : a = 25 ∧ b = 29
  · rw [z1.1, z1.2, upF_s, upF_s]
  · rw [upF_o (by omega), upF_o (F := upF _ _ _ _) (v := d) (by omega)]
    by_cases z2 : a = 25 ∧ b = 30
    · rw [z2.1, z2.2, upF_s, upF_s]
    · rw [upF_o (by omega), upF_o (F := upF _ _ _ _) (v := e) (by omega)]
      by_cases z3 : a = 25 ∧ b = 25
      · rw [z3.1, z3.2, upF_s, upF_s]
      · rw [upF_o (by omega), upF_o (by omega), upF_o (by omega), upF_o (by omega), upF_o (by omega)]
theorem ldF_0 {F : FF} {n : Int} {s : PS} : psS (upF (upF (upF (upF (upF (upF F 25 0 0) 25 20 n) 25 21 0) 25 26 0) 25 29 0) 25 30 0) s = ldF F n s (F 25 25) 0 0 := by
  have e : upF (psS (upF (upF F 25 0 0) 25 20 n) s) 25 25 (F 25 25) = psS (upF (upF F 25 0 0) 25 20 n) s := upF_id (by rw [psS_o (by omega), upF_o (by omega), upF_o (by omega)])
  unfold ldF
  rw [psS_up (by decide), psS_up (by decide), psS_in (by decide), psS_in (by decide), e]
  funext a b
  by_cases z1 : a = 25 ∧ b = 29
  · rw [z1.1, z1.2, upF_o (by omega), upF_s, upF_s]
  · by_cases z2 : a = 25 ∧ b = 30
    · rw [z2.1, z2.2, upF_s, upF_o (by omega), upF_s]
    · rw [upF_o (by omega), upF_o (by omega), upF_o (by omega), upF_o (by omega)]
/-- a text laid: the figure before, a new figure, its statements -/
def ldA1 (A : AA) : AA := setR (setR (setR (setR A 28 0 16 (A 27)) 30 0 124 (A 29)) 27 0 16 (fun _ => 0)) 29 0 124 (fun kk => if kk = 122 then 10 else if kk = 123 then 4 else 0)
def ld0 (F : FF) (A : AA) (n : Int) : LdS := ((0, F 25 27, nxK (A 26) n (F 25 22, 0, F 25 23, F 25 24)), F 25 25, 0, 0, ldA1 A)
def ldT (F : FF) (A : AA) (n : Int) : LdS := ldM n (Int.toNat (n + 3)) (ld0 F A n)
def ldG (F : FF) (n : Int) (r : LdS) : FF := if r.1.1 = 0 then upF (upF (upF (ldF F n r.1 r.2.1 r.2.2.1 r.2.2.2.1) 25 2 0) 25 28 (-1)) 25 8 0 else upF (upF (ldF F n r.1 r.2.1 r.2.2.1 r.2.2.2.1) 25 2 0) 25 28 r.1.2.1
def ldB (r : LdS) : AA := if r.1.1 = 0 then r.2.2.2.2 else setR (setR r.2.2.2.2 27 0 16 (r.2.2.2.2 28)) 29 0 124 (r.2.2.2.2 30)
theorem ldA1_26 {A : AA} : ldA1 A 26 = A 26 := by
  unfold ldA1
  rw [setR_r (by decide), setR_r (by decide), setR_r (by decide), setR_r (by decide)]
theorem ldA1_ct {A : AA} : ctM (ldA1 A) := by
  have e : ∀ i : Int, 0 ≤ i → i < 16 → ldA1 A 27 i = 0 := fun i h0 h1 => by
    unfold ldA1
    rw [setR_o (by decide), setR_in h0 (by omega)]
  rw [ctM, e 14 (by decide) (by decide), e 15 (by decide) (by decide)]; decide
theorem ld0_ok {F : FF} {A : AA} {n : Int} (hn : 0 ≤ n) (h2 : n ≤ 800) (h3 : 0 ≤ F 25 27 ∧ F 25 27 ≤ 800) (h4 : -1 ≤ F 25 24 ∧ F 25 24 ≤ 2000000) : psOK n (ld0 F A n).1 := by
  have a : psOK n (0, F 25 27, nxK (A 26) n ((0, F 25 27, 0, 0, 3, F 25 24) : PS).2.2) := nxK_ok (s := (0, F 25 27, 0, 0, 3, F 25 24)) ⟨by dsimp only; omega, h3, by dsimp only; omega, by dsimp only; omega, by dsimp only; omega, fun z => absurd rfl z, h4⟩ hn h2
  exact a
/-- the measure of the loop -/
def ldm (e p : Int) : Nat := if e = 0 then Int.toNat (900 - p) + 1 else 0
theorem ldm_lt {e p e' p' : Int} (h : e = 0) (h2 : e' = 0 → p < p') (h3 : p < 900) : ldm e' p' < ldm e p := by
  unfold ldm
  rw [if_pos h]
  by_cases z : e' = 0
  · have := h2 z
    rw [if_pos z]; omega
  · rw [if_neg z]; omega
