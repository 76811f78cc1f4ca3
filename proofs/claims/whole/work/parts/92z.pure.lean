/-! the hull's walk as the model ends it: by the place, not by the number of a point -/
abbrev nxF (f : Int → Int) (c a : Int) : Int := caF f c a (Int.toNat (f (18 + c)))
abbrev spF (f : Int → Int) (c u x : Int) : Prop := w32 (pxF f c u 0) = w32 (pxF f c x 0) ∧ w32 (pxF f c u 1) = w32 (pxF f c x 1)
def wrM (f : Int → Int) (c x : Int) : Nat → Int → List Int
  | 0, _ => []
  | m + 1, a => a :: (if nxF f c a = -1 ∨ spF f c (nxF f c a) x then [] else wrM f c x m (nxF f c a))
def endM (f : Int → Int) (c x : Int) : Nat → Int → Prop
  | 0, _ => False
  | m + 1, a => (nxF f c a = -1 ∨ spF f c (nxF f c a) x) ∨ endM f c x m (nxF f c a)
abbrev lmF (f : Int → Int) (c : Int) : Int := lfF f c (Int.toNat (f (18 + c) - 1))
/-- the walk ends within four corners, and its corners are the hull's -/
def HUT : Prop := ∀ f, fgOK f → ∀ c, 0 ≤ c → c < f 0 → endM f c (lmF f c) 4 (lmF f c) ∧ wrM f c (lmF f c) 4 (lmF f c) = huL f c
theorem wrM_s {f : Int → Int} {c x a k : Int} (h : k < 4) : wrM f c x (Int.toNat (4 - k)) a = a :: (if nxF f c a = -1 ∨ spF f c (nxF f c a) x then [] else wrM f c x (Int.toNat (4 - (k + 1))) (nxF f c a)) := by
  rw [show Int.toNat (4 - k) = Int.toNat (4 - (k + 1)) + 1 by omega]; rfl
theorem endM_s {f : Int → Int} {c x a k : Int} (h : k < 4) (z : endM f c x (Int.toNat (4 - k)) a) (n : ¬ (nxF f c a = -1 ∨ spF f c (nxF f c a) x)) : endM f c x (Int.toNat (4 - (k + 1))) (nxF f c a) := by
  rw [show Int.toNat (4 - k) = Int.toNat (4 - (k + 1)) + 1 by omega] at z
  exact z.resolve_left n
theorem endM_4 {f : Int → Int} {c x a k : Int} (h : 4 ≤ k) (z : endM f c x (Int.toNat (4 - k)) a) : False := by
  rw [show Int.toNat (4 - k) = 0 by omega] at z
  exact z
