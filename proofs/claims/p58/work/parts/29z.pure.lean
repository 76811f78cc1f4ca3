/-! roots of a curve and a line of a figure -/
def cfL (f : Int → Int) (c l : Int) : Int → Int := fun jj => cfX f c l jj
theorem azP_c {g g' : Int → Int} {m : Nat} (h : ∀ k : Nat, k < m → g k = g' k) : azP g m ↔ azP g' m := ⟨fun z k hk => by rw [← h k hk]; exact z k hk, fun z k hk => by rw [h k hk]; exact z k hk⟩
theorem rootsL_c {g g' : Int → Int} {n lim : Int} (hn : 0 ≤ n) (h : ∀ k, 0 ≤ k → k ≤ n → g k = g' k) : rootsL g n lim = rootsL g' n lim := by
  unfold rootsL
  have e : azP g (Int.toNat (n + 1)) ↔ azP g' (Int.toNat (n + 1)) := azP_c (fun k hk => h k (by omega) (by omega))
  rw [h 0 (by omega) hn, h n hn (by omega), srch_c hn 13 (x := g) (y := g') 0 0 h]
  by_cases z : azP g (Int.toNat (n + 1))
  · rw [if_pos z, if_pos (e.mp z)]
  · rw [if_neg z, if_neg (fun y => z (e.mpr y))]
def rtsX (f : Int → Int) (c l : Int) : List RT := rootsL (cfL f c l) (f (18 + c) - 1) (f 2)
/-- what the class's cut holds: the coefficients, and the roots L -/
def rcP (G : FF) (B : AA) (f : Int → Int) (c l : Int) (L : List RT) : Prop := G 14 4 = f (18 + c) - 1 ∧ G 14 5 = (L.length : Int) ∧ rts (B 16) (B 17) (B 18) 0 L ∧ ∀ k, 0 ≤ k → k < f (18 + c) → B 15 k = cfX f c l k
