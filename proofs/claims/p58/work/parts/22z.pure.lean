/-! meetings: groups -/
theorem sprF_ok {S v : Int} (hv : 0 ≤ v) (hv2 : v < 5000) : ∀ (f : Nat) (s : BS) (h : Int), okS S s → okS S (sprF S v f s h)
  | 0, _, _, k => k
  | f + 1, s, h, k => by
    unfold sprF
    split
    · exact sprF_ok hv hv2 f _ _ (rowsF_ok k hv hv2 3)
    · exact k
def grpF (S : Int) (s : BS) : Nat → BS × Int
  | 0 => (s, 0)
  | i + 1 => if (grpF S s i).1.1 i = -1 then (sprF S (grpF S s i).2 4097 (joinF ((grpF S s i).1.1, (grpF S s i).1.2.1, 0) i (grpF S s i).2) 0, (grpF S s i).2 + 1) else grpF S s i
theorem grpF_s {S i : Int} {s : BS} (h : 0 ≤ i) : grpF S s (Int.toNat (i + 1)) = if (grpF S s (Int.toNat i)).1.1 i = -1 then (sprF S (grpF S s (Int.toNat i)).2 4097 (joinF ((grpF S s (Int.toNat i)).1.1, (grpF S s (Int.toNat i)).1.2.1, 0) i (grpF S s (Int.toNat i)).2) 0, (grpF S s (Int.toNat i)).2 + 1) else grpF S s (Int.toNat i) := by
  obtain ⟨j, rfl⟩ : ∃ j : Nat, i = j := ⟨i.toNat, by omega⟩
  rw [show Int.toNat ((j : Int) + 1) = j + 1 by omega, show Int.toNat (j : Int) = j by omega]; rfl
def mtA (g : Int → Int) (S q r : Int) : Int := if (0 ≤ q ∧ q < S ∧ 0 ≤ r ∧ r < S) ∧ 0 ≤ g (q * S + r) then g (q * S + r) else -1
def mvC (S w i : Int) : Int := if w < 2 then i / S else i % S
def mvL (g : Int → Int) (m S w z : Int) : Nat → Int
  | 0 => z
  | i + 1 => if g i = m then x_min (mvL g m S w z i) (mvC S w i) else mvL g m S w z i
def mvG (g : Int → Int) (m S w z : Int) : Nat → Int
  | 0 => z
  | i + 1 => if g i = m then x_max (mvG g m S w z i) (mvC S w i) else mvG g m S w z i
theorem mvL_s {g : Int → Int} {m S w z i : Int} (h : 0 ≤ i) : mvL g m S w z (Int.toNat (i + 1)) = if g i = m then x_min (mvL g m S w z (Int.toNat i)) (mvC S w i) else mvL g m S w z (Int.toNat i) := by
  obtain ⟨j, rfl⟩ : ∃ j : Nat, i = j := ⟨i.toNat, by omega⟩
  rw [show Int.toNat ((j : Int) + 1) = j + 1 by omega, show Int.toNat (j : Int) = j by omega]; rfl
theorem mvG_s {g : Int → Int} {m S w z i : Int} (h : 0 ≤ i) : mvG g m S w z (Int.toNat (i + 1)) = if g i = m then x_max (mvG g m S w z (Int.toNat i)) (mvC S w i) else mvG g m S w z (Int.toNat i) := by
  obtain ⟨j, rfl⟩ : ∃ j : Nat, i = j := ⟨i.toNat, by omega⟩
  rw [show Int.toNat ((j : Int) + 1) = j + 1 by omega, show Int.toNat (j : Int) = j by omega]; rfl
def mvR (g : Int → Int) (m S w : Int) : Int := if w = 4 then cntK g m (Int.toNat (S * S)) else if w % 2 = 0 then mvL g m S w 64 (Int.toNat (S * S)) else mvG g m S w (-1) (Int.toNat (S * S))
