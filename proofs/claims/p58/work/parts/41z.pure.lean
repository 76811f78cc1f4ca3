/-- the first number from k on, of so many, that has a property; the last one below -/
noncomputable def firI (p : Int → Prop) : Nat → Int → Int
  | 0, _ => -1
  | m + 1, k => @ite Int (p k) (Classical.propDecidable _) k (firI p m (k + 1))
theorem firI_t {p : Int → Prop} {n k : Int} (h : k < n) (hp : p k) : firI p (Int.toNat (n - k)) k = k := by
  rw [show Int.toNat (n - k) = Int.toNat (n - (k + 1)) + 1 by omega]; exact if_pos hp
theorem firI_f {p : Int → Prop} {n k : Int} (h : k < n) (hp : ¬ p k) : firI p (Int.toNat (n - k)) k = firI p (Int.toNat (n - (k + 1))) (k + 1) := by
  rw [show Int.toNat (n - k) = Int.toNat (n - (k + 1)) + 1 by omega]; exact if_neg hp
theorem firI_0 {p : Int → Prop} {n k : Int} (h : n ≤ k) : firI p (Int.toNat (n - k)) k = -1 := by
  rw [show Int.toNat (n - k) = 0 by omega]; rfl
