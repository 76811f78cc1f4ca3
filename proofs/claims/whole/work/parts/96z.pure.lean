/-! numbers with signs, names -/
theorem fiP_22 {s : PS} {z v : Int} : (fiP s z v).2.2 = s.2.2 := by
  unfold fiP; split <;> rfl
theorem psF_e {F : FF} : (psF F).1 = F 25 26 := rfl
theorem psF_q {F : FF} : (psF F).2.1 = F 25 27 := rfl
theorem psF_p {F : FF} : (psF F).2.2.1 = F 25 22 := rfl
theorem psF_o {F : FF} : (psF F).2.2.2.1 = F 25 21 := rfl
theorem psF_t {F : FF} : (psF F).2.2.2.2.1 = F 25 23 := rfl
theorem psF_v {F : FF} : (psF F).2.2.2.2.2 = F 25 24 := rfl
theorem inS_22 {a b : Int} {s : PS} : (inS a b s).2.2 = s.2.2 := by
  unfold inS; rw [fiP_22, fiP_22]
/-- a minus stands here -/
abbrev sgB (T : Int → Int) (s : PS) : Prop := s.2.2.2.2.1 = 4 ∧ s.1 = 0 ∧ T s.2.2.1 = 45
def sg1 (T : Int → Int) (n : Int) (s : PS) : PS := if sgB T s then goM T n s else s
def sgS (T : Int → Int) (n m z : Int) (s : PS) : PS := goM T n (fiP (inS 0 m (sg1 T n s)) (if inV 0 m (sg1 T n s) = 0 ∧ z = 0 then 1 else 0) (-12))
def sgR (T : Int → Int) (n m : Int) (s : PS) : Int := if sgB T s then -(inV 0 m (sg1 T n s)) else inV 0 m (sg1 T n s)
theorem sg1_ok {T : Int → Int} {n : Int} {s : PS} (h : psOK n s) (hn : 0 ≤ n) (h2 : n ≤ 800) : psOK n (sg1 T n s) := by
  unfold sg1
  split
  · exact goM_ok h hn h2
  · exact h
theorem inV_b {n a b : Int} {s : PS} (h : psOK n s) : inV a b s = a ∨ -1 ≤ inV a b s ∧ inV a b s ≤ 2000000 := by
  unfold inV
  split
  · exact Or.inr h.2.2.2.2.2.2
  · exact Or.inl rfl
/-- a name of the model -/
def nmS (s : PS) : PS := fiP s (if (¬ s.2.2.2.2.1 = 0) ∨ (¬ s.2.2.2.2.2 = -1) ∨ 6 < s.2.2.2.1 - s.2.2.1 then 1 else 0) (-11)
def nmP (T : Int → Int) (p e : Int) : Nat → Int
  | 0 => 0
  | k + 1 => x_or (x_shl (nmP T p e k) 5) (if p + k < e then T (p + k) - 97 + 1 else 0)
theorem nmP_s {T : Int → Int} {p e k : Int} (h : 0 ≤ k) : nmP T p e (Int.toNat (k + 1)) = x_or (x_shl (nmP T p e (Int.toNat k)) 5) (if p + k < e then T (p + k) - 97 + 1 else 0) := by
  obtain ⟨j, rfl⟩ : ∃ j : Nat, k = j := ⟨k.toNat, by omega⟩
  rw [show Int.toNat ((j : Int) + 1) = j + 1 by omega, show Int.toNat (j : Int) = j by omega]; rfl
def nmN (T : Int → Int) (s : PS) : Int := if (nmS s).1 = 0 then nmP T s.2.2.1 s.2.2.2.1 6 else 0
def fnM (A : AA) (s m v : Int) : Int := firstk (fun jj => decide (w32 (A 27 (s + jj)) = w32 v)) (Int.toNat m)
abbrev haM (A : AA) (v : Int) : Prop := (¬ fnM A 0 (A 27 14) v = -1) ∨ ¬ fnM A 8 (A 27 15) v = -1
def nmG (A : AA) (n : Int) (s : PS) : PS := goM (A 26) n (fiP (nmS s) (if (nmS s).1 = 0 ∧ haM A (nmN (A 26) s) then 1 else 0) (-13))
theorem nmS_ok {n : Int} {s : PS} (h : psOK n s) (h2 : n ≤ 800) : psOK n (nmS s) := fiP_ok h h2 (by decide)
theorem nmS_22 {s : PS} : (nmS s).2.2 = s.2.2 := fiP_22
