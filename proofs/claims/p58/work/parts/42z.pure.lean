/-- the last number below a bound that has a property -/
noncomputable def lasI (p : Int → Prop) : Nat → Int
  | 0 => -1
  | m + 1 => @ite Int (p m) (Classical.propDecidable _) m (lasI p m)
theorem lasI_t {p : Int → Prop} {k : Int} (h : 0 ≤ k) (hp : p k) : lasI p (Int.toNat (k + 1)) = k := by
  obtain ⟨j, rfl⟩ : ∃ j : Nat, k = j := ⟨k.toNat, by omega⟩
  rw [show Int.toNat ((j : Int) + 1) = j + 1 by omega]; exact if_pos hp
theorem lasI_f {p : Int → Prop} {k : Int} (h : 0 ≤ k) (hp : ¬ p k) : lasI p (Int.toNat (k + 1)) = lasI p (Int.toNat k) := by
  obtain ⟨j, rfl⟩ : ∃ j : Nat, k = j := ⟨k.toNat, by omega⟩
  rw [show Int.toNat ((j : Int) + 1) = j + 1 by omega, show Int.toNat (j : Int) = j by omega]; exact if_neg hp
theorem lasI_0 {p : Int → Prop} {k : Int} (h : k < 0) : lasI p (Int.toNat (k + 1)) = -1 := by
  rw [show Int.toNat (k + 1) = 0 by omega]; rfl
