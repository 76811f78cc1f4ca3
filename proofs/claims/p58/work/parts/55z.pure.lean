/-! texts: signs, runs, tokens -/
theorem x_bb_i2b {a : Int} : x_bb a = x_i2b a := by unfold x_bb x_i2b; rfl
theorem x_i2b_id {a : Int} (h : -128 ≤ a) (h2 : a < 128) : x_i2b a = a := by rw [x_i2b_eq]; omega
theorem x_bb_by {v k : Int} (k0 : 0 ≤ k) (k1 : k ≤ 3) : x_bb (x_i2b (x_shr v (24 - 8 * k))) = byF v k := by
  rw [x_bb_i2b, x_i2b_eq (a := x_shr v (24 - 8 * k)), x_shr_eq (by omega) (by omega)]
  rw [x_i2b_id (by omega) (by omega)]; rfl
theorem setR_app {A : AA} {a : Nat} {s n m : Int} {g h : Int → Int} (n0 : 0 ≤ n) (m0 : 0 ≤ m) : setR (setR A a s n g) a (s + n) m h = setR A a s (n + m) (fun i => if i < n then g i else h (i - n)) := by
  funext b i
  unfold setR
  by_cases hb : b = a
  · by_cases h1 : s + n ≤ i ∧ i < s + n + m
    · rw [if_pos ⟨hb, h1⟩, if_pos ⟨hb, by omega, by omega⟩]; dsimp only; rw [if_neg (by omega)]; congr 1; omega
    · rw [if_neg (fun z => h1 z.2)]
      by_cases h2 : s ≤ i ∧ i < s + n
      · rw [if_pos ⟨hb, h2⟩, if_pos ⟨hb, by omega, by omega⟩]; dsimp only; rw [if_pos (by omega)]
      · rw [if_neg (fun z => h2 z.2), if_neg (by omega)]
  · rw [if_neg (fun z => hb z.1), if_neg (fun z => hb z.1), if_neg (fun z => hb z.1)]
/-- the twenty bytes that are fed -/
def fdF (a b c d e k : Int) : Int := byF (if k < 4 then a else if k < 8 then b else if k < 12 then c else if k < 16 then d else e) (k % 4)
/-- the sign at a place, unsigned; -1 behind the end -/
def sgT (T : Int → Int) (n i : Int) : Int := if 0 ≤ i ∧ i < n then T i % 256 else -1
theorem sgT_b (T : Int → Int) (n i : Int) : -1 ≤ sgT T n i ∧ sgT T n i ≤ 255 := by unfold sgT; split <;> omega
theorem sgT_o {T : Int → Int} {n i : Int} (h : n ≤ i) : sgT T n i = -1 := if_neg (by omega)
abbrev ltP (s : Int) : Prop := 97 ≤ s ∧ s ≤ 122
abbrev dgP (s : Int) : Prop := 48 ≤ s ∧ s ≤ 57
abbrev blP (s : Int) : Prop := s = 32 ∨ s = 10
/-- the first place from p on where a run of signs ends (m: how far it may go) -/
def runB (T : Int → Int) (n : Int) : Nat → Int → Int
  | 0, p => p
  | m + 1, p => if blP (sgT T n p) then runB T n m (p + 1) else p
def runL (T : Int → Int) (n : Int) : Nat → Int → Int
  | 0, p => p
  | m + 1, p => if ltP (sgT T n p) then runL T n m (p + 1) else p
def runD (T : Int → Int) (n : Int) : Nat → Int → Int
  | 0, p => p
  | m + 1, p => if dgP (sgT T n p) then runD T n m (p + 1) else p
theorem runB_s {T : Int → Int} {n p : Int} (h : p < n) : runB T n (Int.toNat (n - p)) p = if blP (sgT T n p) then runB T n (Int.toNat (n - (p + 1))) (p + 1) else p := by
  rw [show Int.toNat (n - p) = Int.toNat (n - (p + 1)) + 1 by omega]; rfl
theorem runL_s {T : Int → Int} {n p : Int} (h : p < n) : runL T n (Int.toNat (n - p)) p = if ltP (sgT T n p) then runL T n (Int.toNat (n - (p + 1))) (p + 1) else p := by
  rw [show Int.toNat (n - p) = Int.toNat (n - (p + 1)) + 1 by omega]; rfl
theorem runD_s {T : Int → Int} {n p : Int} (h : p < n) : runD T n (Int.toNat (n - p)) p = if dgP (sgT T n p) then runD T n (Int.toNat (n - (p + 1))) (p + 1) else p := by
  rw [show Int.toNat (n - p) = Int.toNat (n - (p + 1)) + 1 by omega]; rfl
theorem runB_0 {T : Int → Int} {n p : Int} (h : n ≤ p) : runB T n (Int.toNat (n - p)) p = p := by rw [show Int.toNat (n - p) = 0 by omega]; rfl
theorem runL_0 {T : Int → Int} {n p : Int} (h : n ≤ p) : runL T n (Int.toNat (n - p)) p = p := by rw [show Int.toNat (n - p) = 0 by omega]; rfl
theorem runD_0 {T : Int → Int} {n p : Int} (h : n ≤ p) : runD T n (Int.toNat (n - p)) p = p := by rw [show Int.toNat (n - p) = 0 by omega]; rfl
theorem runB_b (T : Int → Int) (n : Int) : ∀ (m : Nat) (p : Int), p ≤ runB T n m p ∧ runB T n m p ≤ p + m
  | 0, p => by unfold runB; omega
  | m + 1, p => by
    have := runB_b T n m (p + 1)
    unfold runB; split <;> omega
theorem runL_b (T : Int → Int) (n : Int) : ∀ (m : Nat) (p : Int), p ≤ runL T n m p ∧ runL T n m p ≤ p + m
  | 0, p => by unfold runL; omega
  | m + 1, p => by
    have := runL_b T n m (p + 1)
    unfold runL; split <;> omega
theorem runD_b (T : Int → Int) (n : Int) : ∀ (m : Nat) (p : Int), p ≤ runD T n m p ∧ runD T n m p ≤ p + m
  | 0, p => by unfold runD; omega
  | m + 1, p => by
    have := runD_b T n m (p + 1)
    unfold runD; split <;> omega
/-- the first letters from s on, packed -/
def ltF (T : Int → Int) (n s : Int) : Nat → Int
  | 0 => 0
  | k + 1 => if k < 6 then x_or (ltF T n s k) (x_shl (sgT T n (s + k) - 97 + 1) (5 * (5 - k))) else ltF T n s k
theorem ltF_s {T : Int → Int} {n s k : Int} (h : 0 ≤ k) : ltF T n s (Int.toNat (k + 1)) = if k < 6 then x_or (ltF T n s (Int.toNat k)) (x_shl (sgT T n (s + k) - 97 + 1) (5 * (5 - k))) else ltF T n s (Int.toNat k) := by
  obtain ⟨j, rfl⟩ : ∃ j : Nat, k = j := ⟨k.toNat, by omega⟩
  rw [show Int.toNat ((j : Int) + 1) = j + 1 by omega, show Int.toNat (j : Int) = j by omega]
  show (if j < 6 then _ else _) = _
  by_cases h6 : j < 6
  · rw [if_pos h6, if_pos (by omega)]
  · rw [if_neg h6, if_neg (by omega)]
/-- the digits from s on, up to a large number -/
def ivF (T : Int → Int) (n s : Int) : Nat → Int
  | 0 => 0
  | k + 1 => if ivF T n s k < 100000 then 10 * ivF T n s k + sgT T n (s + k) - 48 else ivF T n s k
theorem ivF_s {T : Int → Int} {n s k : Int} (h : 0 ≤ k) : ivF T n s (Int.toNat (k + 1)) = if ivF T n s (Int.toNat k) < 100000 then 10 * ivF T n s (Int.toNat k) + sgT T n (s + k) - 48 else ivF T n s (Int.toNat k) := by
  obtain ⟨j, rfl⟩ : ∃ j : Nat, k = j := ⟨k.toNat, by omega⟩
  rw [show Int.toNat ((j : Int) + 1) = j + 1 by omega, show Int.toNat (j : Int) = j by omega]; rfl
/-- a token: its start, the place behind it, its kind (0 word, 1 integer, 2 semicolon, 3 minus, 4 strange, 5 end), its value -/
abbrev TK : Type := Int × Int × Int × Int
def adF (T : Int → Int) (n nx v : Int) : TK :=
  let p := runB T n (Int.toNat (n - nx)) nx
  if n ≤ p then (p, p, 5, v)
  else if ltP (sgT T n p) then (p, runL T n (Int.toNat (n - p)) p, 0, if runL T n (Int.toNat (n - p)) p - p ≤ 6 then ltF T n p (Int.toNat (runL T n (Int.toNat (n - p)) p - p)) else 0)
  else if dgP (sgT T n p) then (p, runD T n (Int.toNat (n - p)) p, 1, ivF T n p (Int.toNat (runD T n (Int.toNat (n - p)) p - p)))
  else (p, p + 1, if sgT T n p = 59 then 2 else if sgT T n p = 45 then 3 else 4, v)
/-- the class's reader stands at a token -/
def tkP (F G : FF) (t : TK) : Prop := (∀ a b, a ≠ 7 ∨ (b ≠ 3 ∧ b ≠ 4 ∧ b ≠ 5 ∧ b ≠ 6) → G a b = F a b) ∧ G 7 3 = t.1 ∧ G 7 4 = t.2.1 ∧ G 7 5 = t.2.2.1 ∧ G 7 6 = t.2.2.2
/-- what holds of a token of a text of n signs -/
def tkOK (n : Int) (t : TK) : Prop := (0 ≤ t.1 ∧ t.1 ≤ n) ∧ (t.1 ≤ t.2.1 ∧ t.2.1 ≤ n) ∧ (0 ≤ t.2.2.1 ∧ t.2.2.1 ≤ 5) ∧ (t.2.2.1 ≠ 5 → t.1 < t.2.1) ∧ (t.2.2.1 = 1 → 0 ≤ t.2.2.2 ∧ t.2.2.2 < 1000000) ∧ -2147483648 ≤ t.2.2.2 ∧ t.2.2.2 < 2147483648
theorem ivF_b (T : Int → Int) (n s : Int) : ∀ m : Nat, (∀ k : Nat, k < m → dgP (sgT T n (s + k))) → 0 ≤ ivF T n s m ∧ ivF T n s m < 1000000
  | 0, _ => ⟨Int.le_refl 0, by show (0 : Int) < 1000000; decide⟩
  | m + 1, h => by
    have a := ivF_b T n s m (fun k hk => h k (by omega))
    have b := h m (by omega)
    unfold ivF
    split <;> omega
theorem runD_dg (T : Int → Int) (n : Int) : ∀ (m : Nat) (p : Int) (k : Nat), (k : Int) < runD T n m p - p → dgP (sgT T n (p + k))
  | 0, p, k, h => by unfold runD at h; omega
  | m + 1, p, k, h => by
    unfold runD at h
    split at h
    · rename_i hd
      match k with
      | 0 => simpa using hd
      | k + 1 =>
        have := runD_dg T n m (p + 1) k (by omega)
        rw [show p + ((k + 1 : Nat) : Int) = p + 1 + k by omega]; exact this
    · omega
theorem x_or_r (a b : Int) : -2147483648 ≤ x_or a b ∧ x_or a b < 2147483648 := ⟨Int32.le_toInt _, Int32.toInt_lt _⟩
theorem ltF_r (T : Int → Int) (n s : Int) : ∀ m : Nat, -2147483648 ≤ ltF T n s m ∧ ltF T n s m < 2147483648
  | 0 => by show (-2147483648 : Int) ≤ 0 ∧ (0 : Int) < 2147483648; decide
  | m + 1 => by
    unfold ltF; split
    · exact x_or_r _ _
    · exact ltF_r T n s m
theorem adF_ok {T : Int → Int} {n nx v : Int} (h0 : 0 ≤ nx) (h1 : nx ≤ n) (hv : -2147483648 ≤ v ∧ v < 2147483648) : tkOK n (adF T n nx v) := by
  have a := runB_b T n (Int.toNat (n - nx)) nx
  unfold adF
  generalize runB T n (Int.toNat (n - nx)) nx = p at a
  dsimp only
  split
  · unfold tkOK; dsimp only; omega
  · split
    · have b := runL_b T n (Int.toNat (n - p)) p
      have c := runL_s (T := T) (n := n) (p := p) (by omega)
      rw [if_pos (by assumption)] at c
      have d := runL_b T n (Int.toNat (n - (p + 1))) (p + 1)
      have l := ltF_r T n p (Int.toNat (runL T n (Int.toNat (n - p)) p - p))
      unfold tkOK; dsimp only
      split <;> omega
    · split
      · have b := runD_b T n (Int.toNat (n - p)) p
        have c := runD_s (T := T) (n := n) (p := p) (by omega)
        rw [if_pos (by assumption)] at c
        have d := runD_b T n (Int.toNat (n - (p + 1))) (p + 1)
        have e := ivF_b T n p (Int.toNat (runD T n (Int.toNat (n - p)) p - p)) (fun k hk => runD_dg T n (Int.toNat (n - p)) p k (by omega))
        unfold tkOK; dsimp only; omega
      · unfold tkOK; dsimp only
        split
        · omega
        · split <;> omega
