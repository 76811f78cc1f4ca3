/-! straight curves, two curves alike -/
def stP (f : Int → Int) (c n : Int) : Prop := ∀ a b k, 0 ≤ a → a < b → b < k → k < n → w32 (tnF f c a b k) = 0
/-- the control points k of one curve and i of another one are at the same place -/
abbrev smP (f : Int → Int) (c k e i : Int) : Prop := w32 (pxF f c k 0) = w32 (pxF f e i 0) ∧ w32 (pxF f c k 1) = w32 (pxF f e i 1)
def alQ (f : Int → Int) (c e z k : Int) : Prop := smP f c k e (if z = 0 then k else f (18 + c) - 1 - k) ∧ w32 (pxF f c k 2 * pxF f e (if z = 0 then 0 else f (18 + c) - 1) 2) = w32 (pxF f e (if z = 0 then k else f (18 + c) - 1 - k) 2 * pxF f c 0 2)
def alP (f : Int → Int) (c e z : Int) : Prop := ∀ k, 0 ≤ k → k < f (18 + c) → alQ f c e z k
/-- the curves near one -/
noncomputable def nrF (f : Int → Int) (c : Int) : Nat → Int := bitP (fun o => ¬ o = c ∧ ∃ ii jj, prX f c o (f 3) ii jj)
