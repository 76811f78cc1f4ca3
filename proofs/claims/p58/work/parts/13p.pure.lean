/-! pure pictures: signs of coefficients, cells, roots -/
theorem wbi0 {p : Prop} [Decidable p] : w32 (bi p) = 0 ↔ ¬ p := by rw [w32_bi]; exact bi_0
theorem wbi1 {p : Prop} [Decidable p] : w32 (bi p) = 1 ↔ p := by rw [w32_bi]; exact bi_1
theorem yc_eq0 {a b : Int} : w32 (y_cmp a b) = 0 ↔ w64 a = w64 b := by
  rw [y_cmp_eq, sg_w, sg_eq0]; omega
theorem yc_lt0 {a b : Int} : w32 (y_cmp a b) < 0 ↔ w64 a < w64 b := by
  rw [y_cmp_eq, sg_w]; rcases sg_cases (w64 a - w64 b) with h | h | h <;> omega
theorem yc_gt0 {a b : Int} : 0 < w32 (y_cmp a b) ↔ w64 b < w64 a := by
  rw [y_cmp_eq, sg_w]; rcases sg_cases (w64 a - w64 b) with h | h | h <;> omega
abbrev azP (g : Int → Int) (m : Nat) : Prop := ∀ k : Nat, k < m → w64 (g k) = 0
def chgF (g : Int → Int) : Nat → Int × Int
  | 0 => (0, 0)
  | k + 1 => if sg (w64 (g k)) = 0 then chgF g k else (if sg (w64 (g k)) = -(chgF g k).2 then (chgF g k).1 + 1 else (chgF g k).1, sg (w64 (g k)))
def chg (g : Int → Int) (m : Nat) : Int := (chgF g m).1
theorem chgF_b (g : Int → Int) : ∀ m : Nat, 0 ≤ (chgF g m).1 ∧ (chgF g m).1 ≤ m ∧ -1 ≤ (chgF g m).2 ∧ (chgF g m).2 ≤ 1
  | 0 => ⟨Int.le_refl 0, Int.le_refl 0, (by decide : (-1 : Int) ≤ 0), (by decide : (0 : Int) ≤ 1)⟩
  | k + 1 => by
    have ih := chgF_b g k
    unfold chgF
    split
    · omega
    · rcases sg_cases (w64 (g k)) with h | h | h <;> rw [h.2] <;> dsimp only <;> split <;> omega
theorem chg_b (g : Int → Int) (m : Nat) : 0 ≤ chg g m ∧ chg g m ≤ m := ⟨(chgF_b g m).1, (chgF_b g m).2.1⟩
theorem chgF_c {g g' : Int → Int} : ∀ m : Nat, (∀ k : Nat, k < m → g k = g' k) → chgF g m = chgF g' m
  | 0, _ => rfl
  | k + 1, h => by
    unfold chgF
    rw [chgF_c k (fun j hj => h j (by omega)), h k (by omega)]
theorem chg_c {g g' : Int → Int} {m : Nat} (h : ∀ k : Int, 0 ≤ k → k < m → g k = g' k) : chg g m = chg g' m := by
  unfold chg; rw [chgF_c m (fun k hk => h k (by omega) (by omega))]
def cellF (g : Int → Int) (n : Int) : Nat → Int → Int → Int
  | 0, _ => g
  | d + 1, q => hv (cellF g n d (q / 2)) n (q % 2)
theorem hS_c {x y : Int → Int} {n : Int} (h : ∀ i, 0 ≤ i → i ≤ n → x i = y i) : ∀ (s : Nat) (i : Int), 0 ≤ i → i ≤ n → hS x s i = hS y s i
  | 0, i, h0, h1 => h i h0 h1
  | s + 1, i, h0, h1 => by
    unfold hS
    rw [hS_c h s i h0 h1]
    split
    · rw [hS_c h s (i - 1) (by omega) (by omega)]
    · rfl
theorem hR_c {x y : Int → Int} {n : Int} (h : ∀ i, 0 ≤ i → i ≤ n → x i = y i) : ∀ (s : Nat) (i : Int), 0 ≤ i → i ≤ n → hR x n s i = hR y n s i
  | 0, i, h0, h1 => h i h0 h1
  | s + 1, i, h0, h1 => by
    unfold hR
    rw [hR_c h s i h0 h1]
    split
    · rw [hR_c h s (i + 1) (by omega) (by omega)]
    · rfl
theorem hv_c {x y : Int → Int} {n z : Int} (h : ∀ i, 0 ≤ i → i ≤ n → x i = y i) {k : Int} (h0 : 0 ≤ k) (h1 : k ≤ n) : hv x n z k = hv y n z k := by
  unfold hv
  rw [hS_c h _ k h0 h1, hR_c h _ k h0 h1]
theorem cellF_c {x y : Int → Int} {n : Int} (h : ∀ i, 0 ≤ i → i ≤ n → x i = y i) : ∀ (d : Nat) (q i : Int), 0 ≤ i → i ≤ n → cellF x n d q i = cellF y n d q i
  | 0, _, i, h0, h1 => h i h0 h1
  | d + 1, q, i, h0, h1 => hv_c (fun j j0 j1 => cellF_c h d (q / 2) j j0 j1) h0 h1
theorem cellF_s {g : Int → Int} {n d q : Int} (h : 0 ≤ d) : cellF g n (Int.toNat (d + 1)) q = hv (cellF g n (Int.toNat d) (q / 2)) n (q % 2) := by
  rw [show Int.toNat (d + 1) = Int.toNat d + 1 by omega]; rfl
abbrev RT : Type := Int × Int × Int
/-- the roots of a cell: kind, depth, cell -/
def srch (n lim : Int) : Nat → (Int → Int) → Int → Int → List RT
  | 0, _, _, _ => []
  | f + 1, g, d, q => if chg g (Int.toNat (n + 1)) = 0 then [] else if chg g (Int.toNat (n + 1)) = 1 then [(1, d, q)] else if lim ≤ d then [(2, d, q)] else
    srch n lim f (hv g n 0) (d + 1) (2 * q) ++ ((if w64 (hv g n 1 0) = 0 then [(0, d + 1, 2 * q + 1)] else []) ++ srch n lim f (hv g n 1) (d + 1) (2 * q + 1))
def rootsL (g : Int → Int) (n lim : Int) : List RT := if azP g (Int.toNat (n + 1)) then [] else
  (if w64 (g 0) = 0 then [(0, 0, 0)] else []) ++ (srch n lim 13 g 0 0 ++ (if w64 (g n) = 0 then [(0, 0, 1)] else []))
theorem srch_c {n lim : Int} (hn : 0 ≤ n) : ∀ (f : Nat) {x y : Int → Int} (d q : Int), (∀ i, 0 ≤ i → i ≤ n → x i = y i) → srch n lim f x d q = srch n lim f y d q
  | 0, _, _, _, _, _ => rfl
  | f + 1, x, y, d, q, h => by
    unfold srch
    rw [chg_c (g := x) (g' := y) (fun k k0 k1 => h k k0 (by omega)), srch_c hn f (d + 1) (2 * q) (fun i i0 i1 => hv_c h i0 i1), srch_c hn f (d + 1) (2 * q + 1) (fun i i0 i1 => hv_c h i0 i1), hv_c h (by omega) hn]
/-- a list of roots in three rows, from r on -/
def rts (K D C : Int → Int) : Int → List RT → Prop
  | _, [] => True
  | r, x :: L => K r = x.1 ∧ D r = x.2.1 ∧ C r = x.2.2 ∧ rts K D C (r + 1) L
theorem rts_app {K D C : Int → Int} : ∀ (L M : List RT) (r : Int), rts K D C r (L ++ M) ↔ rts K D C r L ∧ rts K D C (r + L.length) M
  | [], M, r => by simp [rts]
  | x :: L, M, r => by
    have ih := rts_app (K := K) (D := D) (C := C) L M (r + 1)
    simp only [List.cons_append, rts, ih, List.length_cons]
    rw [show r + 1 + (L.length : Int) = r + ((L.length + 1 : Nat) : Int) by omega]
    constructor
    · rintro ⟨a, b, c, d, e⟩; exact ⟨⟨a, b, c, d⟩, e⟩
    · rintro ⟨⟨a, b, c, d⟩, e⟩; exact ⟨a, b, c, d, e⟩
theorem rts_c {K D C K' D' C' : Int → Int} : ∀ (L : List RT) (r : Int), (∀ i, r ≤ i → i < r + L.length → K' i = K i ∧ D' i = D i ∧ C' i = C i) → rts K D C r L → rts K' D' C' r L
  | [], _, _, _ => trivial
  | x :: L, r, h, ⟨a, b, c, d⟩ => by
    have h0 := h r (by omega) (by simp only [List.length_cons]; omega)
    exact ⟨h0.1.trans a, h0.2.1.trans b, h0.2.2.trans c, rts_c L (r + 1) (fun i i0 i1 => h i (by omega) (by simp only [List.length_cons]; omega)) d⟩
theorem rts_at {K D C : Int → Int} : ∀ (L : List RT) (r : Int), rts K D C r L → ∀ (j : Nat) (x : RT), L[j]? = some x → K (r + j) = x.1 ∧ D (r + j) = x.2.1 ∧ C (r + j) = x.2.2
  | [], _, _, j, x, h => by simp at h
  | y :: L, r, ⟨a, b, c, d⟩, 0, x, h => by
    simp only [List.getElem?_cons_zero, Option.some.injEq] at h
    subst h
    simp only [Int.natCast_zero, Int.add_zero]
    exact ⟨a, b, c⟩
  | y :: L, r, ⟨a, b, c, d⟩, j + 1, x, h => by
    have := rts_at L (r + 1) d j x (by simpa using h)
    rw [show r + ((j + 1 : Nat) : Int) = r + 1 + j by omega]
    exact this
/-- how many of the first m are k -/
def cntK (g : Int → Int) (k : Int) : Nat → Int
  | 0 => 0
  | m + 1 => if g m = k then cntK g k m + 1 else cntK g k m
theorem cntK_b (g : Int → Int) (k : Int) : ∀ m : Nat, 0 ≤ cntK g k m ∧ cntK g k m ≤ m
  | 0 => ⟨Int.le_refl 0, Int.le_refl 0⟩
  | m + 1 => by
    have := cntK_b g k m
    unfold cntK
    split <;> omega
theorem cntK_s {g : Int → Int} {k m : Int} (h : 0 ≤ m) : cntK g k (Int.toNat (m + 1)) = if g m = k then cntK g k (Int.toNat m) + 1 else cntK g k (Int.toNat m) := by
  obtain ⟨j, rfl⟩ : ∃ j : Nat, m = j := ⟨m.toNat, by omega⟩
  rw [show Int.toNat ((j : Int) + 1) = j + 1 by omega, show Int.toNat (j : Int) = j by omega]; rfl
theorem chgF_s {g : Int → Int} {m : Int} (h : 0 ≤ m) : chgF g (Int.toNat (m + 1)) = if sg (w64 (g m)) = 0 then chgF g (Int.toNat m) else (if sg (w64 (g m)) = -(chgF g (Int.toNat m)).2 then (chgF g (Int.toNat m)).1 + 1 else (chgF g (Int.toNat m)).1, sg (w64 (g m))) := by
  obtain ⟨j, rfl⟩ : ∃ j : Nat, m = j := ⟨m.toNat, by omega⟩
  rw [show Int.toNat ((j : Int) + 1) = j + 1 by omega, show Int.toNat (j : Int) = j by omega]; rfl
/-- an isolated root's cell, m levels further down -/
def fol (n : Int) : Nat → (Int → Int) → Int → Int
  | 0, _, q => q
  | m + 1, g, q => if ¬ chg g (Int.toNat (n + 1)) = 0 ∧ chg (hv g n 0) (Int.toNat (n + 1)) = 0 then fol n m (hv g n 1) (2 * q + 1) else fol n m (hv g n 0) (2 * q)
theorem fol_c {n : Int} (hn : 0 ≤ n) : ∀ (m : Nat) {x y : Int → Int} (q : Int), (∀ i, 0 ≤ i → i ≤ n → x i = y i) → fol n m x q = fol n m y q
  | 0, _, _, _, _ => rfl
  | m + 1, x, y, q, h => by
    unfold fol
    rw [chg_c (g := x) (g' := y) (fun k k0 k1 => h k k0 (by omega)), chg_c (g := hv x n 0) (g' := hv y n 0) (fun k k0 k1 => hv_c h k0 (by omega)), fol_c hn m (2 * q + 1) (fun i i0 i1 => hv_c h i0 i1), fol_c hn m (2 * q) (fun i i0 i1 => hv_c h i0 i1)]
abbrev isFr (a b : Int) : Prop := if 0 < b then 0 ≤ a ∧ a ≤ b else a ≤ 0 ∧ b ≤ a
/-- the coefficient k of a curve and a line, by a figure's row -/
def cfX (f : Int → Int) (c l k : Int) : Int := w32 (f (26 + (c * 4 + k) * 3 + 2) * (f (122 + l * 3 + 0) * f (26 + (c * 4 + k) * 3 + 0) + f (122 + l * 3 + 1) * f (26 + (c * 4 + k) * 3 + 1) + f (122 + l * 3 + 2)))
/-- what going to a cell leaves: rows above the first alone, the cell's own at its depth -/
def gtP (A B : AA) (n depth q : Int) : Prop := (∀ b i, b ≠ 15 ∨ i < 4 → B b i = A b i) ∧ ∀ i, 0 ≤ i → i ≤ n → B 15 (depth * 4 + i) = cellF (A 15) n (Int.toNat depth) q i
/-- what a search leaves: roots from r on, all above its own row as it was -/
def srP (A B : AA) (r depth : Int) (L : List RT) : Prop := (∀ b i, (b ≠ 15 ∧ b ≠ 16 ∧ b ≠ 17 ∧ b ≠ 18) ∨ (b = 15 ∧ i < 4 * (depth + 1)) ∨ (b ≠ 15 ∧ i < r) → B b i = A b i) ∧ rts (B 16) (B 17) (B 18) r L
theorem upF_s {F : FF} {k j : Nat} {v : Int} : upF F k j v k j = v := if_pos ⟨rfl, rfl⟩
theorem upF_o {F : FF} {k j a b : Nat} {v : Int} (h : a ≠ k ∨ b ≠ j) : upF F k j v a b = F a b := if_neg (fun q => by omega)
theorem upF_2 {F : FF} {k j : Nat} {v w : Int} : upF (upF F k j v) k j w = upF F k j w := by
  funext a b
  unfold upF
  split <;> rfl
theorem upF_id {F : FF} {k j : Nat} {v : Int} (h : v = F k j) : upF F k j v = F := by
  funext a b
  unfold upF
  split
  · rename_i q; rw [h, q.1, q.2]
  · rfl
theorem srP_trans {A B C : AA} {r r' d : Int} {L M : List RT} (h1 : srP A B r d L) (h2 : srP B C r' d M) (hr : r' = r + L.length) : srP A C r d (L ++ M) := by
  subst hr
  refine ⟨fun b i hb => ?_, (rts_app L M r).mpr ⟨rts_c L r (fun i i0 i1 => ⟨h2.1 16 i (Or.inr (Or.inr ⟨by decide, i1⟩)), h2.1 17 i (Or.inr (Or.inr ⟨by decide, i1⟩)), h2.1 18 i (Or.inr (Or.inr ⟨by decide, i1⟩))⟩) h1.2, h2.2⟩⟩
  rw [h2.1 b i (by omega), h1.1 b i hb]
theorem srP_up {A B : AA} {r d : Int} {L : List RT} (h : srP A B r (d + 1) L) : srP A B r d L := ⟨fun b i hb => h.1 b i (by omega), h.2⟩
theorem srP_row {A : AA} {r d m : Int} {g : Int → Int} : srP A (setR A 15 ((d + 1) * 4) m g) r d [] := ⟨fun b i hb => by
  by_cases h : b = 15
  · subst h; exact setR_lt (by omega)
  · exact setR_o h, trivial⟩
theorem srP_add {A : AA} {r d k d' q : Int} : srP A (upA (upA (upA A 16 r k) 17 r d') 18 r q) r d [(k, d', q)] := by
  refine ⟨fun b i hb => ?_, ?_⟩
  · unfold upA
    rw [if_neg (by omega), if_neg (by omega), if_neg (by omega)]
  · refine ⟨?_, ?_, ?_, trivial⟩
    · rw [upA_k (by decide), upA_k (by decide), upA_s]
    · rw [upA_k (by decide), upA_s]
    · rw [upA_s]
theorem srP_id {A : AA} {r d : Int} : srP A A r d [] := ⟨fun _ _ _ => rfl, trivial⟩
theorem srch_s0 {n lim d q : Int} {f : Nat} {g : Int → Int} (h : chg g (Int.toNat (n + 1)) = 0) : srch n lim (f + 1) g d q = [] := by unfold srch; rw [if_pos h]
theorem srch_s1 {n lim d q : Int} {f : Nat} {g : Int → Int} (h : chg g (Int.toNat (n + 1)) = 1) : srch n lim (f + 1) g d q = [(1, d, q)] := by unfold srch; rw [if_neg (by omega), if_pos h]
theorem srch_s2 {n lim d q : Int} {f : Nat} {g : Int → Int} (h : ¬ chg g (Int.toNat (n + 1)) = 0) (h1 : ¬ chg g (Int.toNat (n + 1)) = 1) (h2 : lim ≤ d) : srch n lim (f + 1) g d q = [(2, d, q)] := by unfold srch; rw [if_neg h, if_neg h1, if_pos h2]
theorem srch_s3 {n lim d q : Int} {f : Nat} {g : Int → Int} (h : ¬ chg g (Int.toNat (n + 1)) = 0) (h1 : ¬ chg g (Int.toNat (n + 1)) = 1) (h2 : ¬ lim ≤ d) : srch n lim (f + 1) g d q = srch n lim f (hv g n 0) (d + 1) (2 * q) ++ ((if w64 (hv g n 1 0) = 0 then [(0, d + 1, 2 * q + 1)] else []) ++ srch n lim f (hv g n 1) (d + 1) (2 * q + 1)) := by
  conv => lhs; unfold srch
  rw [if_neg h, if_neg h1, if_neg h2]
