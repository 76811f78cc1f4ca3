def sureF (f : Int → Int) (c l : Int) : Int := cntK (ktF (rtsX f c l)) 0 (rtsX f c l).length + cntK (ktF (rtsX f c l)) 1 (rtsX f c l).length
theorem sureF_b {f : Int → Int} {c l : Int} (h : ((rtsX f c l).length : Int) ≤ 8) : 0 ≤ sureF f c l ∧ sureF f c l ≤ 16 := by
  have a := cntK_b (ktF (rtsX f c l)) 0 (rtsX f c l).length
  have b := cntK_b (ktF (rtsX f c l)) 1 (rtsX f c l).length
  unfold sureF; omega
/-- a set of numbers below m, as bits -/
def bitS (p : Int → Prop) (d : ∀ i, Decidable (p i)) : Nat → Int
  | 0 => 0
  | m + 1 => @ite Int (p m) (d m) (x_or (bitS p d m) (x_shl 1 m)) (bitS p d m)
noncomputable def bitP (p : Int → Prop) : Nat → Int
  | 0 => 0
  | m + 1 => @ite Int (p m) (Classical.propDecidable _) (x_or (bitP p m) (x_shl 1 m)) (bitP p m)
theorem bitP_t {p : Int → Prop} {m : Int} (h : 0 ≤ m) (hp : p m) : bitP p (Int.toNat (m + 1)) = x_or (bitP p (Int.toNat m)) (x_shl 1 m) := by
  obtain ⟨j, rfl⟩ : ∃ j : Nat, m = j := ⟨m.toNat, by omega⟩
  rw [show Int.toNat ((j : Int) + 1) = j + 1 by omega, show Int.toNat (j : Int) = j by omega]
  exact if_pos hp
theorem bitP_f {p : Int → Prop} {m : Int} (h : 0 ≤ m) (hp : ¬ p m) : bitP p (Int.toNat (m + 1)) = bitP p (Int.toNat m) := by
  obtain ⟨j, rfl⟩ : ∃ j : Nat, m = j := ⟨m.toNat, by omega⟩
  rw [show Int.toNat ((j : Int) + 1) = j + 1 by omega, show Int.toNat (j : Int) = j by omega]
  exact if_neg hp
