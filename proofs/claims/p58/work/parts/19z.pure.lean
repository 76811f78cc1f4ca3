/-! bands -/
def bnN (f : Int → Int) (c k : Int) : Int := (f (26 + (c * 4 + (f (18 + c) - 1)) * 3 + 0) - f (26 + (c * 4 + 0) * 3 + 0)) * (f (26 + (c * 4 + k) * 3 + 1) - f (26 + (c * 4 + 0) * 3 + 1)) - (f (26 + (c * 4 + (f (18 + c) - 1)) * 3 + 1) - f (26 + (c * 4 + 0) * 3 + 1)) * (f (26 + (c * 4 + k) * 3 + 0) - f (26 + (c * 4 + 0) * 3 + 0))
def bLow (f : Int → Int) (c : Int) : Nat → Int
  | 0 => 0
  | k + 1 => x_min (bLow f c k) (bnN f c (k + 1))
def bHigh (f : Int → Int) (c : Int) : Nat → Int
  | 0 => 0
  | k + 1 => x_max (bHigh f c k) (bnN f c (k + 1))
theorem bLow_s {f : Int → Int} {c k : Int} (h : 1 ≤ k) : bLow f c (Int.toNat k) = x_min (bLow f c (Int.toNat (k - 1))) (bnN f c k) := by
  obtain ⟨j, rfl⟩ : ∃ j : Nat, k = j + 1 := ⟨(k - 1).toNat, by omega⟩
  rw [show Int.toNat ((j : Int) + 1) = j + 1 by omega, show Int.toNat ((j : Int) + 1 - 1) = j by omega]; rfl
theorem bHigh_s {f : Int → Int} {c k : Int} (h : 1 ≤ k) : bHigh f c (Int.toNat k) = x_max (bHigh f c (Int.toNat (k - 1))) (bnN f c k) := by
  obtain ⟨j, rfl⟩ : ∃ j : Nat, k = j + 1 := ⟨(k - 1).toNat, by omega⟩
  rw [show Int.toNat ((j : Int) + 1) = j + 1 by omega, show Int.toNat ((j : Int) + 1 - 1) = j by omega]; rfl
/-- what a band holds -/
def bnP (G : FF) (f : Int → Int) (c : Int) : Prop := G 24 0 = f (26 + (c * 4 + 0) * 3 + 0) ∧ G 24 1 = f (26 + (c * 4 + 0) * 3 + 1) ∧ G 24 2 = f (26 + (c * 4 + (f (18 + c) - 1)) * 3 + 0) - f (26 + (c * 4 + 0) * 3 + 0) ∧ G 24 3 = f (26 + (c * 4 + (f (18 + c) - 1)) * 3 + 1) - f (26 + (c * 4 + 0) * 3 + 1) ∧ G 24 4 = bLow f c (Int.toNat (f (18 + c) - 1)) ∧ G 24 5 = bHigh f c (Int.toNat (f (18 + c) - 1))
/-- the number of a control point of a cell, times its weight -/
def clN (G : FF) (A : AA) (c nd k : Int) : Int := w32 (G 24 2) * (A 10 (((c * 127 + nd) * 3 + 1) * 4 + k) - w32 (G 24 1) * A 10 (((c * 127 + nd) * 3 + 2) * 4 + k)) - w32 (G 24 3) * (A 10 (((c * 127 + nd) * 3 + 0) * 4 + k) - w32 (G 24 0) * A 10 (((c * 127 + nd) * 3 + 2) * 4 + k))
def clA (G : FF) (A : AA) (c nd k : Int) : Prop := w64 (w32 (G 24 5) * A 10 (((c * 127 + nd) * 3 + 2) * 4 + k)) < w64 (clN G A c nd k)
def clB (G : FF) (A : AA) (c nd k : Int) : Prop := w64 (clN G A c nd k) < w64 (w32 (G 24 4) * A 10 (((c * 127 + nd) * 3 + 2) * 4 + k))
def clP (G : FF) (A : AA) (c nd n : Int) : Prop := (∀ k, 0 ≤ k → k ≤ n → clA G A c nd k) ∨ (∀ k, 0 ≤ k → k ≤ n → clB G A c nd k)
theorem cpA_set {A : AA} {a b : Nat} {sp dp n : Int} : cpA A a sp 0 dp n b = setR A b dp n (fun i => A a (sp + i)) := by
  funext k i
  unfold cpA setR
  split <;> rfl
theorem bcs_t {P : Int → Prop} {k : Int} (h : ∀ j, 0 ≤ j → j < k → P j) (hp : P k) : 1 = bc (∀ j, 0 ≤ j → j < k + 1 → P j) := (bc_t (fun j j0 j1 => by
  by_cases e : j = k
  · rw [e]; exact hp
  · exact h j j0 (by omega))).symm
theorem bcs_f1 {P : Int → Prop} {k : Int} (h : ¬ ∀ j, 0 ≤ j → j < k → P j) : 0 = bc (∀ j, 0 ≤ j → j < k + 1 → P j) := (bc_f (fun z => h (fun j j0 j1 => z j j0 (by omega)))).symm
theorem bcs_f2 {P : Int → Prop} {k : Int} (hk : 0 ≤ k) (h : ¬ P k) : 0 = bc (∀ j, 0 ≤ j → j < k + 1 → P j) := (bc_f (fun z => h (z k hk (by omega)))).symm
