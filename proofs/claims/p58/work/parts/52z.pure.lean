/-! changes: what is kept before, and the row behind -/
def kF (F : FF) : FF := upF (upF F 5 1 (if F 5 2 = 10 then (F 5 1 + 1) % 10 else F 5 1)) 5 2 (if F 5 2 = 10 then 10 else F 5 2 + 1)
def kA (F : FF) (A : AA) : AA := setR A 6 ((if F 5 2 = 10 then (F 5 1 + 1) % 10 + 9 else F 5 1 + F 5 2) % 10 * 140) 140 (A 2)
theorem kA_2 {F : FF} {A : AA} : kA F A 2 = A 2 := setR_r (by decide)
def hsOK (F : FF) : Prop := (0 ≤ F 5 1 ∧ F 5 1 ≤ 9) ∧ 0 ≤ F 5 2 ∧ F 5 2 ≤ 10
/-- a change took place, with the row g behind it -/
def chP (F G : FF) (A B : AA) (g : Int → Int) : Prop := G = kF F ∧ (∀ b i, b ≠ 2 → B b i = kA F A b i) ∧ ∀ i, 0 ≤ i → i < 140 → B 2 i = g i
def ch0 (F G : FF) (A B : AA) : Prop := G = F ∧ B = A
abbrev chQ (p : Prop) (F G : FF) (A B : AA) (g : Int → Int) : Prop := (p → chP F G A B g) ∧ (¬ p → ch0 F G A B)
/-- rows behind changes -/
def movR (f : Int → Int) (c k x y : Int) : Int → Int := fun i => if i = 26 + (c * 4 + k) * 3 then x else if i = 26 + (c * 4 + k) * 3 + 1 then y else f i
def wgR (f : Int → Int) (c k w : Int) : Int → Int := fun i => if i = 26 + (c * 4 + k) * 3 + 2 then w else f i
def stR (f : Int → Int) (s v : Int) : Int → Int := fun i => if i = 2 + s then v else f i
def lnR (f : Int → Int) (l a b c : Int) : Int → Int := fun i => if i = 122 + l * 3 then a else if i = 122 + l * 3 + 1 then b else if i = 122 + l * 3 + 2 then c else f i
/-- points from t + 1 up to the last one moved up by one -/
def upR (f : Int → Int) (c t n : Int) : Int → Int := fun i => if 26 + c * 12 + 3 * (t + 1) ≤ i ∧ i < 26 + c * 12 + 3 * (n + 1) then f (i - 3) else f i
def insR (f : Int → Int) (c k x y w : Int) : Int → Int := fun i => if i = 18 + c then f (18 + c) + 1 else if i = 26 + (c * 4 + k) * 3 then x else if i = 26 + (c * 4 + k) * 3 + 1 then y else if i = 26 + (c * 4 + k) * 3 + 2 then w else upR f c k (f (18 + c)) i
/-- points from k to t - 1 moved down by one -/
def dnR (f : Int → Int) (c k t : Int) : Int → Int := fun i => if 26 + c * 12 + 3 * k ≤ i ∧ i < 26 + c * 12 + 3 * t then f (i + 3) else f i
def drpR (f : Int → Int) (c k : Int) : Int → Int := fun i => if i = 18 + c then f (18 + c) - 1 else dnR f c k (f (18 + c) - 1) i
/-- the first t points swapped with the last ones (n: the last one's number) -/
def swR (f : Int → Int) (c t n : Int) : Int → Int := fun i => if 26 + c * 12 ≤ i ∧ i < 26 + c * 12 + 3 * (n + 1) ∧ ((i - 26 - c * 12) / 3 < t ∨ n - t < (i - 26 - c * 12) / 3) then f (26 + c * 12 + 3 * (n - (i - 26 - c * 12) / 3) + (i - 26 - c * 12) % 3) else f i
def revR (f : Int → Int) (c : Int) : Int → Int := fun i => if 26 + c * 12 ≤ i ∧ i < 26 + c * 12 + 3 * f (18 + c) then f (26 + c * 12 + 3 * (f (18 + c) - 1 - (i - 26 - c * 12) / 3) + (i - 26 - c * 12) % 3) else f i
theorem putP_in {A : AA} {n : Nat} {c k x y w : Int} (c0 : 0 ≤ c) (c1 : c < 8) (k0 : 0 ≤ k) (k1 : k < 4) : putP A n c k x y w = upA (upA (upA A n (26 + (c * 4 + k) * 3 + 0) x) n (26 + (c * 4 + k) * 3 + 1) y) n (26 + (c * 4 + k) * 3 + 2) w := by
  unfold putP
  rw [fput_in (i := 26 + (c * 4 + k) * 3 + 0) (by omega) (by omega), fput_in (i := 26 + (c * 4 + k) * 3 + 1) (by omega) (by omega), fput_in (i := 26 + (c * 4 + k) * 3 + 2) (by omega) (by omega)]
theorem putP_r {A : AA} {n m : Nat} {c k x y w : Int} (h : m ≠ n) : putP A n c k x y w m = A m := by
  unfold putP; rw [fput_r h, fput_r h, fput_r h]
theorem putP_2 {A : AA} {n : Nat} {c k x y w : Int} (c0 : 0 ≤ c) (c1 : c < 8) (k0 : 0 ≤ k) (k1 : k < 4) (i : Int) : putP A n c k x y w n i = if i = 26 + (c * 4 + k) * 3 then x else if i = 26 + (c * 4 + k) * 3 + 1 then y else if i = 26 + (c * 4 + k) * 3 + 2 then w else A n i := by
  rw [putP_in c0 c1 k0 k1]
  unfold upA
  by_cases h2 : i = 26 + (c * 4 + k) * 3 + 2
  · rw [if_pos ⟨rfl, h2⟩, if_neg (by omega), if_neg (by omega), if_pos h2]
  · rw [if_neg (by omega)]
    by_cases h1 : i = 26 + (c * 4 + k) * 3 + 1
    · rw [if_pos ⟨rfl, h1⟩, if_neg (by omega), if_pos h1]
    · rw [if_neg (by omega)]
      by_cases h0 : i = 26 + (c * 4 + k) * 3
      · rw [if_pos ⟨rfl, by omega⟩, if_pos h0]
      · rw [if_neg (by omega), if_neg h0, if_neg h1, if_neg h2]
theorem fput_2 {A : AA} {n : Nat} {j v : Int} (h : 0 ≤ j) (h2 : j < 140) (i : Int) : fput A n j v n i = if i = j then v else A n i := by
  rw [fput_in h h2]; unfold upA
  by_cases e : i = j
  · rw [if_pos ⟨rfl, e⟩, if_pos e]
  · rw [if_neg (fun z => e z.2), if_neg e]
theorem pt_iff {f : Int → Int} (h : fgOK f) {c k : Int} (hc : -2147483648 ≤ c ∧ c < 2147483648) (hk : -2147483648 ≤ k ∧ k < 2147483648) : (0 ≤ w32 c ∧ w32 c < w32 (fat f 0) ∧ 0 ≤ w32 k ∧ w32 k < w32 (fat f (18 + c))) ↔ (0 ≤ c ∧ c < f 0 ∧ 0 ≤ k ∧ k < f (18 + c)) := by
  have q1 := h.1.1
  rw [w32_id (x := c) hc.1 hc.2, w32_id (x := k) hk.1 hk.2, fat_in (i := 0) (by omega) (by omega), w32_id (x := f 0) (by omega) (by omega)]
  by_cases z : 0 ≤ c ∧ c < f 0
  · have q3 := (h.2.2.1 c z.1 z.2).1
    rw [fat_in (i := 18 + c) (by omega) (by omega), w32_id (x := f (18 + c)) (by omega) (by omega)]
  · exact ⟨fun y => absurd ⟨y.1, y.2.1⟩ z, fun y => absurd ⟨y.1, y.2.1⟩ z⟩
