/-! meetings of the model: the same run of joins -/
def trG (A : AA) : Int → Int := fun i => if w32 (A 39 i) = 0 then -2 else A 40 i - 1
theorem tr_up {A : AA} {i v : Int} (h : ¬ w32 (A 39 i) = 0) : trG (upA A 40 i v) = up1 (trG A) i (v - 1) := by
  funext j
  unfold trG up1
  rw [upA_k (by decide)]
  by_cases e : j = i
  · rw [if_pos e, e, if_neg h, upA_s]
  · rw [if_neg e, upA_o e]
theorem tr_o {A : AA} {n : Nat} {i v : Int} (h : n ≠ 39 ∧ n ≠ 40) : trG (upA A n i v) = trG A := by
  unfold trG
  rw [upA_r (by omega), upA_r (by omega)]
theorem tr_1 {A : AA} {i : Int} (h : trG A i = -1) : ¬ w32 (A 39 i) = 0 ∧ A 40 i = 0 := by
  unfold trG at h
  by_cases z : w32 (A 39 i) = 0
  · rw [if_pos z] at h; omega
  · rw [if_neg z] at h; exact ⟨z, by omega⟩
/-- the nine neighbours, one behind another -/
def nbF (S v : Int) (s : BS) (q o : Int) : Nat → BS
  | 0 => s
  | k + 1 => joinF (nbF S v s q o k) (ixF S (q + (k : Int) / 3 - 1) (o + (k : Int) % 3 - 1)) v
theorem nbF_s {S v q o k : Int} {s : BS} (h : 0 ≤ k) : nbF S v s q o (Int.toNat (k + 1)) = joinF (nbF S v s q o (Int.toNat k)) (ixF S (q + k / 3 - 1) (o + k % 3 - 1)) v := by
  obtain ⟨j, rfl⟩ : ∃ j : Nat, k = j := ⟨k.toNat, by omega⟩
  rw [show Int.toNat ((j : Int) + 1) = j + 1 by omega, show Int.toNat (j : Int) = j by omega]; rfl
theorem nb_row {S v q o : Int} {s : BS} (a : Nat) : nbF S v s q o (3 * a + 3) = colsF S v (nbF S v s q o (3 * a)) (q - 1 + a) o 3 := by
  have e : ∀ b : Nat, b < 3 → ixF S (q + ((3 * a + b : Nat) : Int) / 3 - 1) (o + ((3 * a + b : Nat) : Int) % 3 - 1) = ixF S (q - 1 + a) (o - 1 + b) := fun b hb => by congr 1 <;> omega
  show joinF (joinF (joinF (nbF S v s q o (3 * a)) (ixF S (q + ((3 * a + 0 : Nat) : Int) / 3 - 1) (o + ((3 * a + 0 : Nat) : Int) % 3 - 1)) v) (ixF S (q + ((3 * a + 1 : Nat) : Int) / 3 - 1) (o + ((3 * a + 1 : Nat) : Int) % 3 - 1)) v) (ixF S (q + ((3 * a + 2 : Nat) : Int) / 3 - 1) (o + ((3 * a + 2 : Nat) : Int) % 3 - 1)) v = _
  rw [e 0 (by decide), e 1 (by decide), e 2 (by decide)]
  rfl
theorem nb_9 {S v q o : Int} {s : BS} : nbF S v s q o 9 = rowsF S v s q o 3 := by
  have a := nb_row (S := S) (v := v) (q := q) (o := o) (s := s) 2
  have b := nb_row (S := S) (v := v) (q := q) (o := o) (s := s) 1
  have c := nb_row (S := S) (v := v) (q := q) (o := o) (s := s) 0
  have c' : nbF S v s q o 3 = colsF S v s (q - 1 + ((0 : Nat) : Int)) o 3 := c
  have b' : nbF S v s q o 6 = colsF S v (nbF S v s q o 3) (q - 1 + ((1 : Nat) : Int)) o 3 := b
  have a' : nbF S v s q o 9 = colsF S v (nbF S v s q o 6) (q - 1 + ((2 : Nat) : Int)) o 3 := a
  rw [a', b', c']; rfl
theorem joinF_x {s : BS} {i v : Int} (h : ¬ (0 ≤ i ∧ i < 4096 ∧ s.1 i = -1 ∧ s.2.2 < 4096)) : joinF s i v = s := if_neg h
theorem joinF_j {s : BS} {i v : Int} (h0 : 0 ≤ i) (h1 : i < 4096) (h2 : s.1 i = -1) (h3 : s.2.2 < 4096) : joinF s i v = (up1 s.1 i v, up1 s.2.1 s.2.2 i, s.2.2 + 1) := if_pos ⟨h0, h1, h2, h3⟩
theorem cntK_pos {g : Int → Int} {k i : Int} (i0 : 0 ≤ i) (h : g i = k) : ∀ m : Nat, i < m → 1 ≤ cntK g k m
  | 0, z => by omega
  | m + 1, z => by
    have b := cntK_b g k m
    unfold cntK
    by_cases e : i = m
    · rw [if_pos (by rw [← e]; exact h)]; omega
    · have ih := cntK_pos i0 h m (by omega)
      split <;> omega
theorem cntK_o {g : Int → Int} {k i v : Int} : ∀ m : Nat, (m : Int) ≤ i → cntK (up1 g i v) k m = cntK g k m
  | 0, _ => rfl
  | m + 1, h => by
    unfold cntK
    rw [cntK_o m (by omega), show up1 g i v m = g m from if_neg (by omega)]
theorem cntK_up {g : Int → Int} {k i v : Int} (i0 : 0 ≤ i) (h : g i = k) (hv : ¬ v = k) : ∀ m : Nat, i < m → cntK (up1 g i v) k m = cntK g k m - 1
  | 0, z => by omega
  | m + 1, z => by
    unfold cntK
    by_cases e : i = m
    · rw [show up1 g i v m = v from if_pos e.symm, if_neg hv, if_pos (by rw [← e]; exact h), cntK_o m (by omega)]; omega
    · rw [show up1 g i v m = g m from if_neg (by omega), cntK_up i0 h hv m (by omega)]
      split <;> omega
/-- what waits lies in the square, and there is room for the rest -/
def okW (S : Int) (s : BS) : Prop := (∀ j, 0 ≤ j → j < s.2.2 → 0 ≤ s.2.1 j ∧ s.2.1 j < S * S) ∧ 0 ≤ s.2.2 ∧ s.2.2 + cntK s.1 (-1) (Int.toNat (S * S)) ≤ S * S
theorem okW_lt {S i : Int} {s : BS} (h : okW S s) (i0 : 0 ≤ i) (i1 : i < S * S) (hi : s.1 i = -1) : s.2.2 < S * S := by
  have := cntK_pos i0 hi (Int.toNat (S * S)) (by omega)
  have := h.2.2
  omega
theorem joinF_okW {S i v : Int} {s : BS} (h : okW S s) (hi : i = -1 ∨ 0 ≤ i ∧ i < S * S) (hv : 0 ≤ v) : okW S (joinF s i v) := by
  by_cases c : 0 ≤ i ∧ i < 4096 ∧ s.1 i = -1 ∧ s.2.2 < 4096
  · rw [joinF_j c.1 c.2.1 c.2.2.1 c.2.2.2]
    obtain ⟨a, b, d⟩ := h
    refine ⟨fun j j0 j1 => ?_, by dsimp only; omega, ?_⟩
    · dsimp only at j1 ⊢; unfold up1
      split
      · omega
      · exact a j j0 (by omega)
    · dsimp only
      rw [cntK_up c.1 c.2.2.1 (by omega) _ (by omega)]
      omega
  · rw [joinF_x c]; exact h
theorem nb_okW {S v q o : Int} {s : BS} (h : okW S s) (hv : 0 ≤ v) : ∀ k : Nat, okW S (nbF S v s q o k)
  | 0 => h
  | k + 1 => joinF_okW (nb_okW h hv k) ixF_r hv
/-- two states that agree where it matters -/
def agB (S : Int) (s t : BS) : Prop := s.2.2 = t.2.2 ∧ (∀ i, 0 ≤ i → i < S * S → s.1 i = t.1 i) ∧ ∀ j, 0 ≤ j → j < s.2.2 → s.2.1 j = t.2.1 j
theorem joinF_ag {S i v : Int} {s t : BS} (h : agB S s t) (hi : i = -1 ∨ 0 ≤ i ∧ i < S * S) : agB S (joinF s i v) (joinF t i v) := by
  obtain ⟨a, b, d⟩ := h
  by_cases c : 0 ≤ i ∧ i < 4096 ∧ s.1 i = -1 ∧ s.2.2 < 4096
  · have e := b i c.1 (by omega)
    rw [joinF_j c.1 c.2.1 c.2.2.1 c.2.2.2, joinF_j c.1 c.2.1 (by omega) (by omega)]
    refine ⟨by dsimp only; omega, fun k k0 k1 => ?_, fun j j0 j1 => ?_⟩
    · dsimp only; unfold up1
      split
      · rfl
      · exact b k k0 k1
    · dsimp only at j1 ⊢; unfold up1
      rw [← a]
      split
      · rfl
      · exact d j j0 (by omega)
  · rw [joinF_x c, joinF_x (fun z => c ⟨z.1, z.2.1, by rw [b i z.1 (by omega)]; exact z.2.2.1, by omega⟩)]
    exact ⟨a, b, d⟩
theorem colsF_ag {S v r o : Int} {s t : BS} (h : agB S s t) : ∀ b : Nat, agB S (colsF S v s r o b) (colsF S v t r o b)
  | 0 => h
  | b + 1 => joinF_ag (colsF_ag h b) ixF_r
theorem rowsF_ag {S v q o : Int} {s t : BS} (h : agB S s t) : ∀ a : Nat, agB S (rowsF S v s q o a) (rowsF S v t q o a)
  | 0 => h
  | a + 1 => colsF_ag (rowsF_ag h a) 3
theorem sprF_ag {S v : Int} : ∀ (f : Nat) (s t : BS) (h : Int), 0 ≤ h → agB S s t → agB S (sprF S v f s h) (sprF S v f t h)
  | 0, _, _, _, _, k => k
  | f + 1, s, t, h, h0, k => by
    unfold sprF
    by_cases z : h < s.2.2
    · rw [if_pos z, if_pos (by rw [← k.1]; exact z), ← k.2.2 h h0 z]
      exact sprF_ag f _ _ _ (by omega) (rowsF_ag k 3)
    · rw [if_neg z, if_neg (by rw [← k.1]; exact z)]; exact k
theorem sprF_end {S v h : Int} {s : BS} {f : Nat} (z : ¬ h < s.2.2) : sprF S v f s h = s := by
  cases f with
  | zero => rfl
  | succ f => unfold sprF; exact if_neg z
/-- marks from nought on stay -/
theorem joinF_k {s : BS} {i v j : Int} (h : 0 ≤ s.1 j) : (joinF s i v).1 j = s.1 j := by
  unfold joinF
  split
  · rename_i c
    exact if_neg (fun z => by rw [z] at h; omega)
  · rfl
theorem colsF_k {S v r o j : Int} {s : BS} (h : 0 ≤ s.1 j) : ∀ b : Nat, (colsF S v s r o b).1 j = s.1 j
  | 0 => rfl
  | b + 1 => (joinF_k (by rw [colsF_k h b]; exact h)).trans (colsF_k h b)
theorem rowsF_k {S v q o j : Int} {s : BS} (h : 0 ≤ s.1 j) : ∀ a : Nat, (rowsF S v s q o a).1 j = s.1 j
  | 0 => rfl
  | a + 1 => (colsF_k (by rw [rowsF_k h a]; exact h) 3).trans (rowsF_k h a)
theorem sprF_k {S v j : Int} : ∀ (f : Nat) (s : BS) (h : Int), 0 ≤ s.1 j → (sprF S v f s h).1 j = s.1 j
  | 0, _, _, _ => rfl
  | f + 1, s, h, k => by
    unfold sprF
    split
    · exact (sprF_k f _ _ (by rw [rowsF_k k 3]; exact k)).trans (rowsF_k k 3)
    · rfl
/-- marks are no greater than the newest -/
theorem joinF_m {s : BS} {i v : Int} (h : ∀ j, s.1 j ≤ v) (j : Int) : (joinF s i v).1 j ≤ v := by
  unfold joinF
  split
  · show up1 s.1 i v j ≤ v
    unfold up1
    split
    · exact Int.le_refl v
    · exact h j
  · exact h j
theorem colsF_m {S v r o : Int} {s : BS} (h : ∀ j, s.1 j ≤ v) : ∀ (b : Nat) (j : Int), (colsF S v s r o b).1 j ≤ v
  | 0 => h
  | b + 1 => joinF_m (colsF_m h b)
theorem rowsF_m {S v q o : Int} {s : BS} (h : ∀ j, s.1 j ≤ v) : ∀ (a : Nat) (j : Int), (rowsF S v s q o a).1 j ≤ v
  | 0 => h
  | a + 1 => colsF_m (rowsF_m h a) 3
theorem sprF_m {S v : Int} : ∀ (f : Nat) (s : BS) (h : Int), (∀ j, s.1 j ≤ v) → ∀ j, (sprF S v f s h).1 j ≤ v
  | 0, _, _, k => k
  | f + 1, s, h, k => by
    unfold sprF
    split
    · exact sprF_m f _ _ (rowsF_m k 3)
    · exact k
/-- groups, with any bound on the steps of one -/
def grpN (N : Nat) (S : Int) (s : BS) : Nat → BS × Int
  | 0 => (s, 0)
  | i + 1 => if (grpN N S s i).1.1 i = -1 then (sprF S (grpN N S s i).2 N (joinF ((grpN N S s i).1.1, (grpN N S s i).1.2.1, 0) i (grpN N S s i).2) 0, (grpN N S s i).2 + 1) else grpN N S s i
theorem grpN_t {N : Nat} {S : Int} {s : BS} {i : Nat} (h : (grpN N S s i).1.1 i = -1) : grpN N S s (i + 1) = (sprF S (grpN N S s i).2 N (joinF ((grpN N S s i).1.1, (grpN N S s i).1.2.1, 0) i (grpN N S s i).2) 0, (grpN N S s i).2 + 1) := if_pos h
theorem grpN_f {N : Nat} {S : Int} {s : BS} {i : Nat} (h : ¬ (grpN N S s i).1.1 i = -1) : grpN N S s (i + 1) = grpN N S s i := if_neg h
theorem grpN_F (S : Int) (s : BS) : ∀ k : Nat, grpF S s k = grpN 4097 S s k
  | 0 => rfl
  | k + 1 => by
    conv => lhs; unfold grpF
    conv => rhs; unfold grpN
    rw [grpN_F S s k]
theorem grpN_b {N : Nat} {S : Int} {s : BS} : ∀ n : Nat, 0 ≤ (grpN N S s n).2 ∧ (grpN N S s n).2 ≤ n
  | 0 => ⟨Int.le_refl 0, Int.le_refl 0⟩
  | n + 1 => by
    have a := grpN_b (N := N) (S := S) (s := s) n
    by_cases z : (grpN N S s n).1.1 n = -1
    · rw [grpN_t z]
      show 0 ≤ (grpN N S s n).2 + 1 ∧ (grpN N S s n).2 + 1 ≤ _; omega
    · rw [grpN_f z]; omega
theorem grpN_lt {N : Nat} {S : Int} {s : BS} (h : ∀ i, s.1 i ≤ -1) : ∀ (k : Nat) (i : Int), (grpN N S s k).1.1 i ≤ (grpN N S s k).2 - 1
  | 0, i => h i
  | k + 1, i => by
    have ih := grpN_lt (N := N) (S := S) h k
    by_cases z : (grpN N S s k).1.1 k = -1
    · rw [grpN_t z]
      have a := sprF_m (S := S) (v := (grpN N S s k).2) N (joinF ((grpN N S s k).1.1, (grpN N S s k).1.2.1, 0) k (grpN N S s k).2) 0 (joinF_m (s := ((grpN N S s k).1.1, (grpN N S s k).1.2.1, 0)) (fun j => by have := ih j; show (grpN N S s k).1.1 j ≤ _; omega)) i
      dsimp only
      omega
    · rw [grpN_f z]; exact ih i
theorem grpN_ex {N : Nat} {S m : Int} {s : BS} (m0 : 0 ≤ m) : ∀ k : Nat, k ≤ 4096 → m < (grpN N S s k).2 → ∃ i : Int, 0 ≤ i ∧ i < k ∧ (grpN N S s k).1.1 i = m
  | 0, _, h => by have h' : m < 0 := h; omega
  | k + 1, hk, h => by
    by_cases z : (grpN N S s k).1.1 k = -1
    · rw [grpN_t z] at h ⊢
      have b := grpN_b (N := N) (S := S) (s := s) k
      by_cases e : m = (grpN N S s k).2
      · have j9 := joinF_j (s := ((grpN N S s k).1.1, (grpN N S s k).1.2.1, 0)) (i := (k : Int)) (v := (grpN N S s k).2) (by omega) (by omega) z (show (0 : Int) < 4096 by decide)
        have u : (joinF ((grpN N S s k).1.1, (grpN N S s k).1.2.1, 0) k (grpN N S s k).2).1 k = (grpN N S s k).2 := by rw [j9]; exact if_pos rfl
        have w9 := sprF_k (S := S) (v := (grpN N S s k).2) (j := (k : Int)) N (joinF ((grpN N S s k).1.1, (grpN N S s k).1.2.1, 0) k (grpN N S s k).2) 0 (by rw [u]; exact b.1)
        exact ⟨k, by omega, by omega, w9.trans (u.trans e.symm)⟩
      · obtain ⟨i, i0, i1, hi⟩ := grpN_ex (N := N) (S := S) (s := s) m0 k (by omega) (by have h' : m < (grpN N S s k).2 + 1 := h; omega)
        have u : (joinF ((grpN N S s k).1.1, (grpN N S s k).1.2.1, 0) k (grpN N S s k).2).1 i = (grpN N S s k).1.1 i := joinF_k (s := ((grpN N S s k).1.1, (grpN N S s k).1.2.1, 0)) (by show 0 ≤ (grpN N S s k).1.1 i; omega)
        have w9 := sprF_k (S := S) (v := (grpN N S s k).2) (j := i) N (joinF ((grpN N S s k).1.1, (grpN N S s k).1.2.1, 0) k (grpN N S s k).2) 0 (by rw [u]; omega)
        exact ⟨i, i0, by omega, w9.trans (u.trans hi)⟩
    · rw [grpN_f z] at h ⊢
      obtain ⟨i, i0, i1, hi⟩ := grpN_ex (N := N) (S := S) (s := s) m0 k (by omega) h
      exact ⟨i, i0, by omega, hi⟩
theorem grp_lt {S : Int} {s : BS} (h : ∀ i, s.1 i ≤ -1) (k : Nat) (i : Int) : (grpF S s k).1.1 i ≤ (grpF S s k).2 - 1 := by
  rw [grpN_F]; exact grpN_lt h k i
theorem grp_ex {S m : Int} {s : BS} (m0 : 0 ≤ m) (k : Nat) (hk : k ≤ 4096) (h : m < (grpF S s k).2) : ∃ i : Int, 0 ≤ i ∧ i < k ∧ (grpF S s k).1.1 i = m := by
  rw [grpN_F] at h ⊢; exact grpN_ex m0 k hk h
theorem grpF_f {S : Int} {s : BS} {i : Nat} (h : ¬ (grpF S s i).1.1 i = -1) : grpF S s (i + 1) = grpF S s i := if_neg h
theorem grp_none {S : Int} {s : BS} : ∀ k : Nat, (∀ i : Int, 0 ≤ i → i < k → ¬ s.1 i = -1) → grpF S s k = (s, 0)
  | 0, _ => rfl
  | k + 1, h => by
    have ih := grp_none (S := S) k (fun i i0 i1 => h i i0 (by omega))
    rw [grpF_f (by rw [ih]; exact h k (by omega) (by omega)), ih]
/-- the pairs of two curves, none grouped; the meetings' marks, and how many meetings -/
noncomputable def pairS (f : Int → Int) (c e : Int) : BS := (fun i => @ite Int (prK f c e i) (Classical.propDecidable _) (-1) (-2), fun _ => 0, 0)
theorem pairS_t {f : Int → Int} {c e i : Int} (h : prK f c e i) : (pairS f c e).1 i = -1 := if_pos h
theorem pairS_f {f : Int → Int} {c e i : Int} (h : ¬ prK f c e i) : (pairS f c e).1 i = -2 := if_neg h
theorem pairS_le {f : Int → Int} {c e : Int} (i : Int) : (pairS f c e).1 i ≤ -1 := by
  by_cases h : prK f c e i
  · rw [pairS_t h]; decide
  · rw [pairS_f h]; decide
noncomputable def gmX (f : Int → Int) (c e : Int) : Int → Int := (grpF (p2 (f 3)) (pairS f c e) (Int.toNat (p2 (f 3) * p2 (f 3)))).1.1
noncomputable def gnX (f : Int → Int) (c e : Int) : Int := (grpF (p2 (f 3)) (pairS f c e) (Int.toNat (p2 (f 3) * p2 (f 3)))).2
def mqH (f : Int → Int) (c e : Int) (g : Int → Int) : Prop := ∀ i, 0 ≤ i → i < p2 (f 3) * p2 (f 3) → g i = if 0 ≤ gmX f c e i then gmX f c e i + 1 else 0
theorem g_fr {A0 A : AA} {i v t w : Int} (hF : ∀ bb ii, (bb ≠ 40 ∧ bb ≠ 41) ∨ (bb = 40 ∧ w32 (A0 39 ii) = 0) → A bb ii = A0 bb ii) (h : ¬ w32 (A0 39 i) = 0) : ∀ bb ii, (bb ≠ 40 ∧ bb ≠ 41) ∨ (bb = 40 ∧ w32 (A0 39 ii) = 0) → upA (upA A 40 i v) 41 t w bb ii = A0 bb ii := by
  intro b j hb
  rw [upA_x (fun y => by rcases hb with z | z <;> omega), upA_x (fun y => by
    rcases hb with z | z
    · exact z.1 y.1
    · exact h (y.2 ▸ z.2))]
  exact hF b j hb
theorem gnX_b {f : Int → Int} {c e : Int} (h : fgOK f) : 0 ≤ gnX f c e ∧ gnX f c e ≤ 4096 := by
  have sb := sq_b h.2.1.2.1 h.2.1.2.2
  have := grpF_b (p2 (f 3)) (pairS f c e) (Int.toNat (p2 (f 3) * p2 (f 3)))
  unfold gnX
  omega
theorem gm_lt {f : Int → Int} {c e : Int} (i : Int) : gmX f c e i ≤ gnX f c e - 1 := grp_lt pairS_le _ i
theorem frm_f {A B : AA} (h : ∀ b i, b ≠ 32 ∧ b ≠ 33 ∧ b ≠ 38 ∧ b ≠ 39 ∧ b ≠ 40 ∧ b ≠ 41 → B b i = A b i) : mF B = mF A := mF_c (funext fun i => h 2 i (by decide)) (funext fun i => h 27 i (by decide)) (funext fun i => h 29 i (by decide))
theorem mt_out {g : Int → Int} {S q r : Int} (h : ¬ (0 ≤ q ∧ q < S ∧ 0 ≤ r ∧ r < S)) : mtA g S q r = -1 := if_neg (fun z => h z.1)
theorem mt_neg {g : Int → Int} {S q r : Int} (h : ∀ i, g i ≤ -1) : mtA g S q r = -1 := if_neg (fun z => by have := h (q * S + r); omega)
theorem mt_in {g : Int → Int} {S q r : Int} (h : 0 ≤ q ∧ q < S ∧ 0 ≤ r ∧ r < S) : (if 0 ≤ g (q * S + r) then g (q * S + r) + 1 else 0) - 1 = mtA g S q r := by
  unfold mtA
  by_cases z : 0 ≤ g (q * S + r)
  · rw [if_pos z, if_pos ⟨h, z⟩]; omega
  · rw [if_neg z, if_neg (fun y => z y.2)]; rfl
/-- the least of some, begun with a greater number -/
theorem mvL_2 {g : Int → Int} {m S w : Int} (hS : 1 ≤ S ∧ S ≤ 64) : ∀ k : Nat, (k : Int) ≤ S * S → (0 ≤ mvL g m S w 64 k ∧ mvL g m S w 64 k ≤ 64) ∧ (0 ≤ mvL g m S w 100000 k ∧ mvL g m S w 100000 k ≤ 100000) ∧ ((∃ i : Int, 0 ≤ i ∧ i < k ∧ g i = m) → mvL g m S w 64 k = mvL g m S w 100000 k ∧ mvL g m S w 64 k < 64) ∧ ((¬ ∃ i : Int, 0 ≤ i ∧ i < k ∧ g i = m) → mvL g m S w 64 k = 64 ∧ mvL g m S w 100000 k = 100000)
  | 0, _ => ⟨⟨by show (0 : Int) ≤ 64; decide, by show (64 : Int) ≤ 64; decide⟩, ⟨by show (0 : Int) ≤ 100000; decide, by show (100000 : Int) ≤ 100000; decide⟩, fun ⟨i, i0, i1, _⟩ => by omega, fun _ => ⟨rfl, rfl⟩⟩
  | k + 1, hk => by
    have sb := sq64 (S := S) (by omega) hS.2
    obtain ⟨a, b, c, d⟩ := mvL_2 (g := g) (m := m) (w := w) hS k (by omega)
    have sk := sq_k (S := S) (k := (k : Int)) hS.1 (by omega) (by omega)
    have mc : 0 ≤ mvC S w k ∧ mvC S w k < 64 := by unfold mvC; split <;> omega
    by_cases z : g k = m
    · have e1 : mvL g m S w 64 (k + 1) = x_min (mvL g m S w 64 k) (mvC S w k) := if_pos z
      have e2 : mvL g m S w 100000 (k + 1) = x_min (mvL g m S w 100000 k) (mvC S w k) := if_pos z
      have n : (∃ i : Int, 0 ≤ i ∧ i < ((k + 1 : Nat) : Int) ∧ g i = m) := ⟨k, by omega, by omega, z⟩
      unfold x_min at e1 e2
      rw [w32_id (by omega) (by omega), w32_id (by omega) (by omega)] at e1 e2
      by_cases y : ∃ i : Int, 0 ≤ i ∧ i < k ∧ g i = m
      · have c' := c y
        rw [← c'.1] at e2
        refine ⟨?_, ?_, fun _ => ?_, fun q => absurd n q⟩
        · rw [e1]; split <;> omega
        · rw [e2]; split <;> omega
        · rw [e1, e2]; split <;> omega
      · have d' := d y
        rw [d'.1, if_pos (by omega)] at e1
        rw [d'.2, if_pos (by omega)] at e2
        exact ⟨by omega, by omega, fun _ => by omega, fun q => absurd n q⟩
    · have e1 : mvL g m S w 64 (k + 1) = mvL g m S w 64 k := if_neg z
      have e2 : mvL g m S w 100000 (k + 1) = mvL g m S w 100000 k := if_neg z
      have iff : (∃ i : Int, 0 ≤ i ∧ i < ((k + 1 : Nat) : Int) ∧ g i = m) ↔ (∃ i : Int, 0 ≤ i ∧ i < k ∧ g i = m) := by
        constructor
        · rintro ⟨i, i0, i1, hi⟩
          refine ⟨i, i0, ?_, hi⟩
          by_cases e : i = k
          · rw [e] at hi; exact absurd hi z
          · omega
        · rintro ⟨i, i0, i1, hi⟩; exact ⟨i, i0, by omega, hi⟩
      rw [e1, e2, iff]
      exact ⟨a, b, c, d⟩
theorem mvG_b {g : Int → Int} {m S w : Int} (hS : 1 ≤ S ∧ S ≤ 64) : ∀ k : Nat, (k : Int) ≤ S * S → -1 ≤ mvG g m S w (-1) k ∧ mvG g m S w (-1) k ≤ 64
  | 0, _ => ⟨by show (-1 : Int) ≤ -1; decide, by show (-1 : Int) ≤ 64; decide⟩
  | k + 1, hk => by
    have sb := sq64 (S := S) (by omega) hS.2
    have a := mvG_b (g := g) (m := m) (w := w) hS k (by omega)
    have sk := sq_k (S := S) (k := (k : Int)) hS.1 (by omega) (by omega)
    have mc : 0 ≤ mvC S w k ∧ mvC S w k < 64 := by unfold mvC; split <;> omega
    by_cases z : g k = m
    · have e1 : mvG g m S w (-1) (k + 1) = x_max (mvG g m S w (-1) k) (mvC S w k) := if_pos z
      unfold x_max at e1
      rw [e1]
      split <;> omega
    · have e1 : mvG g m S w (-1) (k + 1) = mvG g m S w (-1) k := if_neg z
      rw [e1]; exact a
theorem gm_ex {f : Int → Int} {c e m : Int} (h : fgOK f) (m0 : 0 ≤ m) (m1 : m < gnX f c e) : ∃ i : Int, 0 ≤ i ∧ i < ((Int.toNat (p2 (f 3) * p2 (f 3)) : Nat) : Int) ∧ gmX f c e i = m := by
  have sb := sq_b h.2.1.2.1 h.2.1.2.2
  exact grp_ex m0 _ (by omega) m1
theorem mq_m {g : Int → Int} {x i m : Int} (h : x = if 0 ≤ g i then g i + 1 else 0) (m0 : 0 ≤ m) : x = m + 1 ↔ g i = m := by
  rw [h]
  split <;> omega
