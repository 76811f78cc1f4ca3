/-- a sum, and the first greatest -/
def sumI (g : Int → Int) : Nat → Int
  | 0 => 0
  | m + 1 => sumI g m + g m
theorem sumI_s {g : Int → Int} {m : Int} (h : 0 ≤ m) : sumI g (Int.toNat (m + 1)) = sumI g (Int.toNat m) + g m := by
  obtain ⟨j, rfl⟩ : ∃ j : Nat, m = j := ⟨m.toNat, by omega⟩
  rw [show Int.toNat ((j : Int) + 1) = j + 1 by omega, show Int.toNat (j : Int) = j by omega]
  rfl
theorem sumI_b {g : Int → Int} {b : Int} : ∀ n : Nat, (∀ j : Int, 0 ≤ j → j < n → 0 ≤ g j ∧ g j ≤ b) → 0 ≤ sumI g n ∧ sumI g n ≤ b * n
  | 0, _ => ⟨Int.le_refl 0, by rw [show b * ((0 : Nat) : Int) = 0 from Int.mul_zero b]; exact Int.le_refl 0⟩
  | n + 1, h => by
    have a := sumI_b n (fun j j0 j1 => h j j0 (by omega))
    have c := h n (by omega) (by omega)
    rw [show b * ((n + 1 : Nat) : Int) = b * n + b by rw [Int.natCast_add, Int.mul_add]; simp]
    show 0 ≤ sumI g n + g n ∧ sumI g n + g n ≤ _
    omega
def bestI (g : Int → Int) : Nat → Int × Int
  | 0 => (-1, -1)
  | m + 1 => if (bestI g m).2 < g m then (m, g m) else bestI g m
theorem bestI_t {g : Int → Int} {m w v : Int} (h : 0 ≤ m) (e : (w, v) = bestI g (Int.toNat m)) (hp : v < g m) : (m, g m) = bestI g (Int.toNat (m + 1)) := by
  obtain ⟨j, rfl⟩ : ∃ j : Nat, m = j := ⟨m.toNat, by omega⟩
  rw [show Int.toNat (j : Int) = j by omega] at e
  rw [show Int.toNat ((j : Int) + 1) = j + 1 by omega]
  show _ = ite ((bestI g j).2 < g j) _ _
  rw [if_pos (by rw [← e]; exact hp)]
theorem bestI_f {g : Int → Int} {m w v : Int} (h : 0 ≤ m) (e : (w, v) = bestI g (Int.toNat m)) (hp : ¬ v < g m) : (w, v) = bestI g (Int.toNat (m + 1)) := by
  obtain ⟨j, rfl⟩ : ∃ j : Nat, m = j := ⟨m.toNat, by omega⟩
  rw [show Int.toNat (j : Int) = j by omega] at e
  rw [show Int.toNat ((j : Int) + 1) = j + 1 by omega]
  show _ = ite ((bestI g j).2 < g j) _ _
  rw [if_neg (by rw [← e]; exact hp)]
  exact e
