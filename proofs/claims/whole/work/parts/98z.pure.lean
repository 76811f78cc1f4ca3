/-! statements of the model -/
def r29 (A : AA) (g : Int → Int) : AA := fun b i => if b = 29 then g i else A b i
theorem r29_29 {A : AA} {g : Int → Int} : r29 A g 29 = g := rfl
theorem r29_o {A : AA} {g : Int → Int} {b : Nat} (h : b ≠ 29) : r29 A g b = A b := funext fun _ => if_neg h
theorem r29_26 {A : AA} {g : Int → Int} : r29 A g 26 = A 26 := rfl
theorem r29_27 {A : AA} {g : Int → Int} : r29 A g 27 = A 27 := rfl
theorem r29_r {A : AA} {f g : Int → Int} : r29 (r29 A f) g = r29 A g := by
  funext b i; unfold r29; split <;> rfl
theorem r29_A {A : AA} : r29 A (A 29) = A := by
  funext b i; unfold r29
  split
  · rename_i h; rw [h]
  · rfl
theorem upA_29 {A : AA} {g : Int → Int} {i v : Int} : upA (r29 A g) 29 i v = r29 A (up1 g i v) := by
  funext b j
  unfold upA r29 up1
  by_cases hb : b = 29
  · by_cases hj : j = i
    · rw [if_pos ⟨hb, hj⟩, if_pos hb, if_pos hj]
    · rw [if_neg (fun z => hj z.2), if_pos hb, if_pos hb, if_neg hj]
  · rw [if_neg (fun z => hb z.1), if_neg hb, if_neg hb]
theorem upA_29' {A : AA} {i v : Int} : upA A 29 i v = r29 A (up1 (A 29) i v) := by
  conv => lhs; rw [← r29_A (A := A)]
  exact upA_29
theorem nmG_ok {A : AA} {n : Int} {s : PS} (h : psOK n s) (hn : 0 ≤ n) (h2 : n ≤ 800) : psOK n (nmG A n s) := goM_ok (fiP_ok (nmS_ok h h2) h2 (by decide)) hn h2
theorem sgS_ok {T : Int → Int} {n m z : Int} {s : PS} (h : psOK n s) (hn : 0 ≤ n) (h2 : n ≤ 800) : psOK n (sgS T n m z s) := goM_ok (fiP_ok (inS_ok (sg1_ok h hn h2) h2) h2 (by decide)) hn h2
/-- the three numbers of a point -/
def pcS (T : Int → Int) (n k : Int) (s : PS) : PS := goM T n (fiP (inS 0 20 s) (if k = 4 then 1 else 0) (-14))
def pdS (T : Int → Int) (n k : Int) (s : PS) : PS := goM T n (inS 0 20 (pcS T n k s))
def peS (T : Int → Int) (n k : Int) (s : PS) : PS := goM T n (inS 1 3 (pdS T n k s))
def ptG (T : Int → Int) (n c k : Int) (s : PS) (g : Int → Int) : Int → Int := up1 (up1 (up1 g (13 * c + 1 + 3 * k + 0) (inV 0 20 s)) (13 * c + 1 + 3 * k + 1) (inV 0 20 (pcS T n k s))) (13 * c + 1 + 3 * k + 2) (inV 1 3 (pdS T n k s))
def rcM (T : Int → Int) (n c : Int) : Nat → Int → PS → (Int → Int) → PS × Int × (Int → Int)
  | 0, k, s, g => (s, k, g)
  | m + 1, k, s, g => if s.1 = 0 ∧ (k < 2 ∨ s.2.2.2.2.1 = 1) then (if (peS T n k s).1 = 0 then rcM T n c m (k + 1) (peS T n k s) (ptG T n c k s g) else (peS T n k s, k, g)) else (s, k, g)
theorem rcM_s {T : Int → Int} {n c k : Int} {s : PS} {g : Int → Int} (h : k < 6) : rcM T n c (Int.toNat (6 - k)) k s g = if s.1 = 0 ∧ (k < 2 ∨ s.2.2.2.2.1 = 1) then (if (peS T n k s).1 = 0 then rcM T n c (Int.toNat (6 - (k + 1))) (k + 1) (peS T n k s) (ptG T n c k s g) else (peS T n k s, k, g)) else (s, k, g) := by
  rw [show Int.toNat (6 - k) = Int.toNat (6 - (k + 1)) + 1 by omega]; rfl
theorem pcS_ok {T : Int → Int} {n k : Int} {s : PS} (h : psOK n s) (hn : 0 ≤ n) (h2 : n ≤ 800) : psOK n (pcS T n k s) := goM_ok (fiP_ok (inS_ok h h2) h2 (by decide)) hn h2
theorem pdS_ok {T : Int → Int} {n k : Int} {s : PS} (h : psOK n s) (hn : 0 ≤ n) (h2 : n ≤ 800) : psOK n (pdS T n k s) := goM_ok (inS_ok (pcS_ok h hn h2) h2) hn h2
theorem peS_ok {T : Int → Int} {n k : Int} {s : PS} (h : psOK n s) (hn : 0 ≤ n) (h2 : n ≤ 800) : psOK n (peS T n k s) := goM_ok (inS_ok (pdS_ok h hn h2) h2) hn h2
/-- an error stays -/
theorem fiP_n {s : PS} {z v : Int} (h : ¬ s.1 = 0) : (fiP s z v).1 = s.1 := by
  rw [fiP_f (fun y => h y.1)]
theorem inS_n {a b : Int} {s : PS} (h : ¬ s.1 = 0) : (inS a b s).1 = s.1 := by
  unfold inS
  rw [fiP_n (by rw [fiP_n h]; exact h), fiP_n h]
theorem goM_1 {T : Int → Int} {n : Int} {s : PS} : (goM T n s).1 = s.1 := by
  unfold goM; split <;> rfl
/-- with four points there is none more -/
theorem peS_4 {T : Int → Int} {n : Int} {s : PS} : ¬ (peS T n 4 s).1 = 0 := by
  have h1 : ¬ (fiP (inS 0 20 s) (if (4 : Int) = 4 then 1 else 0) (-14)).1 = 0 := by
    rw [if_pos rfl]
    by_cases z : (inS 0 20 s).1 = 0
    · rw [fiP_t ⟨z, rfl⟩]; show ¬ (-14 : Int) = 0; decide
    · rw [fiP_n z]; exact z
  have h2 : ¬ (pcS T n 4 s).1 = 0 := by unfold pcS; rw [goM_1]; exact h1
  have h3 : ¬ (pdS T n 4 s).1 = 0 := by unfold pdS; rw [goM_1, inS_n h2]; exact h2
  unfold peS
  rw [goM_1, inS_n h3]; exact h3
def rcS1 (A : AA) (n : Int) (s : PS) : PS := goM (A 26) n (fiP s (if A 27 14 = 8 then 1 else 0) (-14))
def rcR (A : AA) (n : Int) (s : PS) : PS × Int × (Int → Int) := rcM (A 26) n (A 27 14) 6 0 (nmG A n (rcS1 A n s)) (A 29)
def rcA (A : AA) (n : Int) (s : PS) : AA := if (rcR A n s).1.1 = 0 then upA (upA (r29 A (up1 (rcR A n s).2.2 (13 * A 27 14) (rcR A n s).2.1)) 27 (A 27 14) (nmN (A 26) (rcS1 A n s))) 27 14 (A 27 14 + 1) else r29 A (rcR A n s).2.2
theorem nmG_n {A : AA} {n : Int} {s : PS} (h : ¬ s.1 = 0) : ¬ (nmG A n s).1 = 0 := by
  unfold nmG nmS
  rw [goM_1, fiP_n (by rw [fiP_n h]; exact h), fiP_n h]; exact h
/-- too many curves: an error -/
theorem rc_8 {A : AA} {n : Int} {s : PS} (h : A 27 14 = 8) : ¬ (nmG A n (rcS1 A n s)).1 = 0 := by
  refine nmG_n ?_
  unfold rcS1
  rw [goM_1, if_pos h]
  by_cases z : s.1 = 0
  · rw [fiP_t ⟨z, rfl⟩]; show ¬ (-14 : Int) = 0; decide
  · rw [fiP_n z]; exact z
theorem k4_of {T : Int → Int} {n k : Int} {s : PS} (h : (peS T n k s).1 = 0) (k3 : 0 ≤ k ∧ k ≤ 4) : k < 4 := by
  by_cases z : k = 4
  · rw [z] at h; exact absurd h peS_4
  · omega
