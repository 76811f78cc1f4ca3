/-! hulls -/
def pxF (f : Int → Int) (c k w : Int) : Int := f (26 + (c * 4 + k) * 3 + w)
def dsF (f : Int → Int) (c a b : Int) : Int := x_abs (pxF f c b 0 - pxF f c a 0) + x_abs (pxF f c b 1 - pxF f c a 1)
def tnF (f : Int → Int) (c a i j : Int) : Int := (pxF f c i 0 - pxF f c a 0) * (pxF f c j 1 - pxF f c a 1) - (pxF f c i 1 - pxF f c a 1) * (pxF f c j 0 - pxF f c a 0)
abbrev otF (f : Int → Int) (c a b k : Int) : Prop := w32 (tnF f c a b k) < 0 ∨ w32 (tnF f c a b k) = 0 ∧ w32 (dsF f c a b) < w32 (dsF f c a k)
def lfF (f : Int → Int) (c : Int) : Nat → Int
  | 0 => 0
  | m + 1 => if w32 (pxF f c (m + 1) 0 - pxF f c (lfF f c m) 0) < 0 ∨ w32 (pxF f c (m + 1) 0 - pxF f c (lfF f c m) 0) = 0 ∧ w32 (pxF f c (m + 1) 1 - pxF f c (lfF f c m) 1) < 0 then m + 1 else lfF f c m
theorem lfF_b (f : Int → Int) (c : Int) : ∀ m : Nat, 0 ≤ lfF f c m ∧ lfF f c m ≤ m
  | 0 => ⟨Int.le_refl 0, Int.le_refl 0⟩
  | m + 1 => by
    have := lfF_b f c m
    unfold lfF
    split <;> omega
theorem lfF_s {f : Int → Int} {c k : Int} (h : 1 ≤ k) : lfF f c (Int.toNat k) = if w32 (pxF f c k 0 - pxF f c (lfF f c (Int.toNat (k - 1))) 0) < 0 ∨ w32 (pxF f c k 0 - pxF f c (lfF f c (Int.toNat (k - 1))) 0) = 0 ∧ w32 (pxF f c k 1 - pxF f c (lfF f c (Int.toNat (k - 1))) 1) < 0 then k else lfF f c (Int.toNat (k - 1)) := by
  obtain ⟨j, rfl⟩ : ∃ j : Nat, k = j + 1 := ⟨(k - 1).toNat, by omega⟩
  rw [show Int.toNat ((j : Int) + 1) = j + 1 by omega, show Int.toNat ((j : Int) + 1 - 1) = j by omega]
  conv => lhs; unfold lfF
def caF (f : Int → Int) (c a : Int) : Nat → Int
  | 0 => -1
  | m + 1 => if 0 < w32 (dsF f c a m) ∧ (caF f c a m = -1 ∨ otF f c a (caF f c a m) m) then m else caF f c a m
theorem caF_b (f : Int → Int) (c a : Int) : ∀ m : Nat, -1 ≤ caF f c a m ∧ caF f c a m < m
  | 0 => ⟨Int.le_refl _, by show (-1 : Int) < 0; decide⟩
  | m + 1 => by
    have := caF_b f c a m
    unfold caF
    split <;> omega
theorem caF_s {f : Int → Int} {c a k : Int} (h : 0 ≤ k) : caF f c a (Int.toNat (k + 1)) = if 0 < w32 (dsF f c a k) ∧ (caF f c a (Int.toNat k) = -1 ∨ otF f c a (caF f c a (Int.toNat k)) k) then k else caF f c a (Int.toNat k) := by
  obtain ⟨j, rfl⟩ : ∃ j : Nat, k = j := ⟨k.toNat, by omega⟩
  rw [show Int.toNat ((j : Int) + 1) = j + 1 by omega, show Int.toNat (j : Int) = j by omega]
  conv => lhs; unfold caF
/-- the corners from one on, with a bound on their number -/
def wrF (f : Int → Int) (c n x : Int) : Nat → Int → List Int
  | 0, _ => []
  | m + 1, a => a :: (if caF f c a (Int.toNat n) = x ∨ caF f c a (Int.toNat n) = -1 then [] else wrF f c n x m (caF f c a (Int.toNat n)))
/-- a list in a row, from r on -/
def rowL (g : Int → Int) : Int → List Int → Prop
  | _, [] => True
  | r, x :: L => g r = x ∧ rowL g (r + 1) L
theorem rowL_at {g : Int → Int} : ∀ (L : List Int) (r : Int), rowL g r L → ∀ (j : Nat) (x : Int), L[j]? = some x → g (r + j) = x
  | [], _, _, j, x, h => by simp at h
  | y :: L, r, ⟨a, b⟩, 0, x, h => by
    simp only [List.getElem?_cons_zero, Option.some.injEq] at h
    subst h
    simpa using a
  | y :: L, r, ⟨a, b⟩, j + 1, x, h => by
    have := rowL_at L (r + 1) b j x (by simpa using h)
    rw [show r + ((j + 1 : Nat) : Int) = r + 1 + j by omega]
    exact this
theorem rowL_app {g : Int → Int} : ∀ (L M : List Int) (r : Int), rowL g r (L ++ M) ↔ rowL g r L ∧ rowL g (r + L.length) M
  | [], M, r => by simp [rowL]
  | x :: L, M, r => by
    have ih := rowL_app (g := g) L M (r + 1)
    simp only [List.cons_append, rowL, ih, List.length_cons]
    rw [show r + 1 + (L.length : Int) = r + ((L.length + 1 : Nat) : Int) by omega]
    constructor
    · rintro ⟨a, b, c⟩; exact ⟨⟨a, b⟩, c⟩
    · rintro ⟨⟨a, b⟩, c⟩; exact ⟨a, b, c⟩
theorem rowL_c {g g' : Int → Int} : ∀ (L : List Int) (r : Int), (∀ i, r ≤ i → i < r + L.length → g' i = g i) → rowL g r L → rowL g' r L
  | [], _, _, _ => trivial
  | x :: L, r, h, ⟨a, b⟩ => ⟨(h r (by omega) (by simp only [List.length_cons]; omega)).trans a, rowL_c L (r + 1) (fun i i0 i1 => h i (by omega) (by simp only [List.length_cons]; omega)) b⟩
/-- what the hull holds -/
def huP (F G : FF) (A B : AA) (L : List Int) : Prop := (∀ a b, a ≠ 22 ∨ b ≠ 1 → G a b = F a b) ∧ (∀ b i, b ≠ 23 → B b i = A b i) ∧ G 22 1 = L.length ∧ rowL (B 23) 0 L
theorem wrF_s {f : Int → Int} {c n x k a : Int} (h : k < 4) : wrF f c n x (Int.toNat (4 - k)) a = a :: (if caF f c a (Int.toNat n) = x ∨ caF f c a (Int.toNat n) = -1 then [] else wrF f c n x (Int.toNat (4 - (k + 1))) (caF f c a (Int.toNat n))) := by
  rw [show Int.toNat (4 - k) = Int.toNat (4 - (k + 1)) + 1 by omega]; rfl
