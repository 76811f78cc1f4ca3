/-! moving points in a row: the steps -/
/-- a point put into a row -/
def pnR (g : Int → Int) (c k x y w : Int) : Int → Int := fun i => if i = 26 + (c * 4 + k) * 3 then x else if i = 26 + (c * 4 + k) * 3 + 1 then y else if i = 26 + (c * 4 + k) * 3 + 2 then w else g i
theorem putP_2' {A : AA} {n : Nat} {c k x y w : Int} (c0 : 0 ≤ c) (c1 : c < 8) (k0 : 0 ≤ k) (k1 : k < 4) : putP A n c k x y w n = pnR (A n) c k x y w := funext fun i => putP_2 c0 c1 k0 k1 i
theorem pnR_0 {g : Int → Int} {c k x y w : Int} : pnR g c k x y w (26 + (c * 4 + k) * 3) = x := if_pos rfl
theorem pnR_1 {g : Int → Int} {c k x y w : Int} : pnR g c k x y w (26 + (c * 4 + k) * 3 + 1) = y := by unfold pnR; rw [if_neg (by omega), if_pos rfl]
theorem pnR_2 {g : Int → Int} {c k x y w : Int} : pnR g c k x y w (26 + (c * 4 + k) * 3 + 2) = w := by unfold pnR; rw [if_neg (by omega), if_neg (by omega), if_pos rfl]
theorem pnR_o {g : Int → Int} {c k x y w i : Int} (h : i < 26 + (c * 4 + k) * 3 ∨ 26 + (c * 4 + k) * 3 + 3 ≤ i) : pnR g c k x y w i = g i := by unfold pnR; rw [if_neg (by omega), if_neg (by omega), if_neg (by omega)]
theorem pnR_cases (c k i : Int) : i = 26 + (c * 4 + k) * 3 ∨ i = 26 + (c * 4 + k) * 3 + 1 ∨ i = 26 + (c * 4 + k) * 3 + 2 ∨ (i < 26 + (c * 4 + k) * 3 ∨ 26 + (c * 4 + k) * 3 + 3 ≤ i) := by omega
theorem upR_in {f : Int → Int} {c t n i : Int} (h : 26 + c * 12 + 3 * (t + 1) ≤ i) (h2 : i < 26 + c * 12 + 3 * (n + 1)) : upR f c t n i = f (i - 3) := if_pos ⟨h, h2⟩
theorem upR_out {f : Int → Int} {c t n i : Int} (h : i < 26 + c * 12 + 3 * (t + 1) ∨ 26 + c * 12 + 3 * (n + 1) ≤ i) : upR f c t n i = f i := if_neg (by omega)
theorem upR_s {f g : Int → Int} {c t n : Int} (c0 : 0 ≤ c) (c1 : c < 8) (t1 : 1 ≤ t) (tn : t ≤ n) (n4 : n < 4) (h : ∀ i, 0 ≤ i → i < 140 → g i = upR f c t n i) : ∀ i, 0 ≤ i → i < 140 → pnR g c t (g (26 + (c * 4 + (t - 1)) * 3 + 0)) (g (26 + (c * 4 + (t - 1)) * 3 + 1)) (g (26 + (c * 4 + (t - 1)) * 3 + 2)) i = upR f c (t - 1) n i := by
  intro i i0 i1
  rcases pnR_cases c t i with e | e | e | e
  · rw [e, pnR_0, h _ (by omega) (by omega), upR_out (by omega), upR_in (by omega) (by omega)]; congr 1; omega
  · rw [e, pnR_1, h _ (by omega) (by omega), upR_out (by omega), upR_in (by omega) (by omega)]; congr 1; omega
  · rw [e, pnR_2, h _ (by omega) (by omega), upR_out (by omega), upR_in (by omega) (by omega)]; congr 1; omega
  · rw [pnR_o e, h i i0 i1]
    by_cases z : 26 + c * 12 + 3 * (t + 1) ≤ i ∧ i < 26 + c * 12 + 3 * (n + 1)
    · rw [upR_in z.1 z.2, upR_in (by omega) z.2]
    · rw [upR_out (by omega), upR_out (by omega)]
theorem insR_e {f g : Int → Int} {c k x y w n : Int} (c0 : 0 ≤ c) (c1 : c < 8) (k0 : 0 ≤ k) (kn : k ≤ n) (n4 : n < 4) (hn : n = f (18 + c)) (h : ∀ i, 0 ≤ i → i < 140 → g i = upR f c k n i) : ∀ i, 0 ≤ i → i < 140 → (if i = 18 + c then n + 1 else pnR g c k x y w i) = insR f c k x y w i := by
  intro i i0 i1
  unfold insR pnR
  rw [← hn]
  by_cases e : i = 18 + c
  · rw [if_pos e, if_pos e]
  · rw [if_neg e, if_neg e, h i i0 i1]
theorem dnR_in {f : Int → Int} {c k t i : Int} (h : 26 + c * 12 + 3 * k ≤ i) (h2 : i < 26 + c * 12 + 3 * t) : dnR f c k t i = f (i + 3) := if_pos ⟨h, h2⟩
theorem dnR_out {f : Int → Int} {c k t i : Int} (h : i < 26 + c * 12 + 3 * k ∨ 26 + c * 12 + 3 * t ≤ i) : dnR f c k t i = f i := if_neg (by omega)
theorem dnR_s {f g : Int → Int} {c k t : Int} (c0 : 0 ≤ c) (c1 : c < 8) (k0 : 0 ≤ k) (kt : k ≤ t) (t3 : t < 3) (h : ∀ i, 0 ≤ i → i < 140 → g i = dnR f c k t i) : ∀ i, 0 ≤ i → i < 140 → pnR g c t (g (26 + (c * 4 + (t + 1)) * 3 + 0)) (g (26 + (c * 4 + (t + 1)) * 3 + 1)) (g (26 + (c * 4 + (t + 1)) * 3 + 2)) i = dnR f c k (t + 1) i := by
  intro i i0 i1
  rcases pnR_cases c t i with e | e | e | e
  · rw [e, pnR_0, h _ (by omega) (by omega), dnR_out (by omega), dnR_in (by omega) (by omega)]; congr 1; omega
  · rw [e, pnR_1, h _ (by omega) (by omega), dnR_out (by omega), dnR_in (by omega) (by omega)]; congr 1; omega
  · rw [e, pnR_2, h _ (by omega) (by omega), dnR_out (by omega), dnR_in (by omega) (by omega)]; congr 1; omega
  · rw [pnR_o e, h i i0 i1]
    by_cases z : 26 + c * 12 + 3 * k ≤ i ∧ i < 26 + c * 12 + 3 * t
    · rw [dnR_in z.1 z.2, dnR_in z.1 (by omega)]
    · rw [dnR_out (by omega), dnR_out (by omega)]
theorem drpR_e {f g : Int → Int} {c k n : Int} (hn : n = f (18 + c)) (h : ∀ i, 0 ≤ i → i < 140 → g i = dnR f c k (n - 1) i) : ∀ i, 0 ≤ i → i < 140 → (if i = 18 + c then n - 1 else g i) = drpR f c k i := by
  intro i i0 i1
  unfold drpR
  rw [← hn]
  by_cases e : i = 18 + c
  · rw [if_pos e, if_pos e]
  · rw [if_neg e, if_neg e, h i i0 i1]
theorem swR_in {f : Int → Int} {c t n i : Int} (h : 26 + c * 12 ≤ i) (h2 : i < 26 + c * 12 + 3 * (n + 1)) (h3 : (i - 26 - c * 12) / 3 < t ∨ n - t < (i - 26 - c * 12) / 3) : swR f c t n i = f (26 + c * 12 + 3 * (n - (i - 26 - c * 12) / 3) + (i - 26 - c * 12) % 3) := if_pos ⟨h, h2, h3⟩
theorem swR_out {f : Int → Int} {c t n i : Int} (h : ¬ (26 + c * 12 ≤ i ∧ i < 26 + c * 12 + 3 * (n + 1) ∧ ((i - 26 - c * 12) / 3 < t ∨ n - t < (i - 26 - c * 12) / 3))) : swR f c t n i = f i := if_neg h
theorem swR_s {f g : Int → Int} {c t n : Int} (c0 : 0 ≤ c) (c1 : c < 8) (t0 : 0 ≤ t) (tn : t < n - t) (n4 : n < 4) (h : ∀ i, 0 ≤ i → i < 140 → g i = swR f c t n i) : ∀ i, 0 ≤ i → i < 140 → pnR (pnR g c t (g (26 + (c * 4 + (n - t)) * 3 + 0)) (g (26 + (c * 4 + (n - t)) * 3 + 1)) (g (26 + (c * 4 + (n - t)) * 3 + 2))) c (n - t) (g (26 + (c * 4 + t) * 3 + 0)) (g (26 + (c * 4 + t) * 3 + 1)) (g (26 + (c * 4 + t) * 3 + 2)) i = swR f c (t + 1) n i := by
  intro i i0 i1
  rcases pnR_cases c (n - t) i with e | e | e | e
  · rw [e, pnR_0, h _ (by omega) (by omega), swR_out (by omega), swR_in (by omega) (by omega) (by omega)]; congr 1; omega
  · rw [e, pnR_1, h _ (by omega) (by omega), swR_out (by omega), swR_in (by omega) (by omega) (by omega)]; congr 1; omega
  · rw [e, pnR_2, h _ (by omega) (by omega), swR_out (by omega), swR_in (by omega) (by omega) (by omega)]; congr 1; omega
  · rw [pnR_o e]
    rcases pnR_cases c t i with e' | e' | e' | e'
    · rw [e', pnR_0, h _ (by omega) (by omega), swR_out (by omega), swR_in (by omega) (by omega) (by omega)]; congr 1; omega
    · rw [e', pnR_1, h _ (by omega) (by omega), swR_out (by omega), swR_in (by omega) (by omega) (by omega)]; congr 1; omega
    · rw [e', pnR_2, h _ (by omega) (by omega), swR_out (by omega), swR_in (by omega) (by omega) (by omega)]; congr 1; omega
    · rw [pnR_o e', h i i0 i1]
      by_cases z : 26 + c * 12 ≤ i ∧ i < 26 + c * 12 + 3 * (n + 1) ∧ ((i - 26 - c * 12) / 3 < t ∨ n - t < (i - 26 - c * 12) / 3)
      · rw [swR_in z.1 z.2.1 z.2.2, swR_in z.1 z.2.1 (by omega)]
      · rw [swR_out z, swR_out (by omega)]
theorem revR_e {f g : Int → Int} {c t n : Int} (c0 : 0 ≤ c) (t0 : 0 ≤ t) (tn : ¬ t < n - t) (hn : n = f (18 + c) - 1) (h : ∀ i, 0 ≤ i → i < 140 → g i = swR f c t n i) : ∀ i, 0 ≤ i → i < 140 → g i = revR f c i := by
  intro i i0 i1
  rw [h i i0 i1]
  unfold revR
  by_cases z : 26 + c * 12 ≤ i ∧ i < 26 + c * 12 + 3 * f (18 + c)
  · rw [if_pos z, ← hn]
    by_cases y : (i - 26 - c * 12) / 3 < t ∨ n - t < (i - 26 - c * 12) / 3
    · rw [swR_in z.1 (by omega) y]
    · rw [swR_out (fun q => y q.2.2)]; congr 1; omega
  · rw [if_neg z, swR_out (by omega)]
theorem swP_2 {A : AA} {c i j : Int} (c0 : 0 ≤ c) (c1 : c < 8) (i0 : 0 ≤ i) (i1 : i < 4) (j0 : 0 ≤ j) (j1 : j < 4) : swP A 2 c i j 2 = pnR (pnR (A 2) c i (A 2 (26 + (c * 4 + j) * 3 + 0)) (A 2 (26 + (c * 4 + j) * 3 + 1)) (A 2 (26 + (c * 4 + j) * 3 + 2))) c j (A 2 (26 + (c * 4 + i) * 3 + 0)) (A 2 (26 + (c * 4 + i) * 3 + 1)) (A 2 (26 + (c * 4 + i) * 3 + 2)) := by
  unfold swP
  rw [putP_2' c0 c1 j0 j1, putP_2' c0 c1 i0 i1]
  rw [fat_in (i := 26 + (c * 4 + j) * 3 + 0) (by omega) (by omega), fat_in (i := 26 + (c * 4 + j) * 3 + 1) (by omega) (by omega), fat_in (i := 26 + (c * 4 + j) * 3 + 2) (by omega) (by omega), fat_in (i := 26 + (c * 4 + i) * 3 + 0) (by omega) (by omega), fat_in (i := 26 + (c * 4 + i) * 3 + 1) (by omega) (by omega), fat_in (i := 26 + (c * 4 + i) * 3 + 2) (by omega) (by omega)]
theorem swP_r {A : AA} {m : Nat} {c i j : Int} (h : m ≠ 2) : swP A 2 c i j m = A m := by unfold swP; rw [putP_r h, putP_r h]
