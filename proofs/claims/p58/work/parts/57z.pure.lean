/-! the parser, purely -/
def r4 (A : AA) (f : Int → Int) : AA := fun b i => if b = 4 then f i else A b i
theorem r4_4 {A : AA} {f : Int → Int} : r4 A f 4 = f := rfl
theorem r4_o {A : AA} {f : Int → Int} {b : Nat} (h : b ≠ 4) : r4 A f b = A b := funext fun _ => if_neg h
theorem r4_8 {A : AA} {f : Int → Int} : r4 A f 8 = A 8 := rfl
theorem r4_r4 {A : AA} {f g : Int → Int} : r4 (r4 A f) g = r4 A g := by
  funext b i; unfold r4; split <;> rfl
theorem r4_A {A : AA} : r4 A (A 4) = A := by
  funext b i; unfold r4
  split
  · rename_i h; rw [h]
  · rfl
theorem tkS_up {F : FF} {t : TK} {v : Int} : tkS (upF F 7 7 v) t = upF (tkS F t) 7 7 v := by
  funext a b; unfold tkS upF
  by_cases h7 : a = 7 ∧ b = 7
  · rw [if_pos h7, if_pos h7, if_neg (by omega), if_neg (by omega), if_neg (by omega), if_neg (by omega)]
  · rw [if_neg h7, if_neg h7]
theorem fput_r4 {A : AA} {i v : Int} (h : 0 ≤ i) (h2 : i < 140) : fput A 4 i v = r4 A (up1 (A 4) i v) := by
  rw [fput_in h h2]
  funext b j; unfold upA r4 up1
  by_cases hb : b = 4
  · by_cases hj : j = i
    · rw [if_pos ⟨hb, hj⟩, if_pos hb, if_pos hj]
    · rw [if_neg (fun z => hj z.2), if_pos hb, if_neg hj, hb]
  · rw [if_neg (fun z => hb z.1), if_neg hb]
theorem nxT_ok {T : Int → Int} {n : Int} {t : TK} (h : tkOK n t) : tkOK n (nxT T n t) := adF_ok (by have := h.1; have := h.2.1; omega) h.2.1.2 h.2.2.2.2.2
abbrev rvP (v : Int) : Prop := v = 123295904 ∨ v = 412554240 ∨ v = 643432448 ∨ v = 412526208 ∨ v = 140005632
def fnC (f : Int → Int) (v : Int) : Int := firstk (fun jj => decide (w32 (fat f (4 + jj)) = w32 v)) (Int.toNat (f 0))
def fnL (f : Int → Int) (v : Int) : Int := firstk (fun jj => decide (w32 (fat f (12 + jj)) = w32 v)) (Int.toNat (f 1))
def nmE (f : Int → Int) (t : TK) : Int := if (¬ t.2.2.1 = 0) ∨ t.2.2.2 = 0 ∨ rvP t.2.2.2 then -11 else if (¬ fnC f t.2.2.2 = -1) ∨ ¬ fnL f t.2.2.2 = -1 then -13 else 0
def inE (a b : Int) (t : TK) : Int := if t.2.2.1 = 1 then (if a ≤ t.2.2.2 ∧ t.2.2.2 ≤ b then 0 else -12) else -11
def ptE (k w : Int) (t : TK) : Int := if (if w = 2 then inE 1 3 t else inE 0 20 t) = 0 ∧ 4 ≤ k then -14 else (if w = 2 then inE 1 3 t else inE 0 20 t)
/-- error (0: none), token, row -/
abbrev RS : Type := Int × TK × (Int → Int)
def crv (T : Int → Int) (n c : Int) : Nat → Int → TK → (Int → Int) → RS
  | 0, _, t, f => (-14, t, f)
  | m + 1, i, t, f => if i % 3 = 0 ∧ 2 ≤ i / 3 ∧ t.2.2.1 = 2 then (0, t, f) else if ptE (i / 3) (i % 3) t = 0 then crv T n c m (i + 1) (nxT T n t) (up1 (up1 f (26 + (c * 4 + i / 3) * 3 + i % 3) t.2.2.2) (18 + c) (i / 3 + 1)) else (ptE (i / 3) (i % 3) t, t, f)
def rdC (T : Int → Int) (n : Int) (t : TK) (f : Int → Int) : RS := if f 0 < 8 then (if nmE f (nxT T n t) = 0 then crv T n (f 0) 13 0 (nxT T n (nxT T n t)) (up1 (up1 f (4 + f 0) (nxT T n t).2.2.2) 0 (f 0 + 1)) else (nmE f (nxT T n t), nxT T n t, f)) else (-14, t, f)
/-- the error of a line's number: the second one is not 0 where the first one is -/
def lnE (w a : Int) (t : TK) : Int := if inE 0 (if w < 2 then 5 else 200) t = 0 ∧ w = 1 ∧ w32 a = 0 ∧ t.2.2.2 = 0 then -12 else inE 0 (if w < 2 then 5 else 200) t
def sgK (T : Int → Int) (n : Int) (t : TK) : TK := if t.2.2.1 = 3 then nxT T n t else t
def lin (T : Int → Int) (n l : Int) : Nat → Int → TK → (Int → Int) → RS
  | 0, _, t, f => (0, t, f)
  | m + 1, w, t, f => if lnE w (f (122 + l * 3 + 0)) (sgK T n t) = 0 then lin T n l m (w + 1) (nxT T n (sgK T n t)) (up1 f (122 + l * 3 + w) (if t.2.2.1 = 3 then -(sgK T n t).2.2.2 else (sgK T n t).2.2.2)) else (lnE w (f (122 + l * 3 + 0)) (sgK T n t), sgK T n t, f)
def rdL (T : Int → Int) (n : Int) (t : TK) (f : Int → Int) : RS := if f 1 < 6 then (if nmE f (nxT T n t) = 0 then lin T n (f 1) 3 0 (nxT T n (nxT T n t)) (up1 (up1 f (12 + f 1) (nxT T n t).2.2.2) 1 (f 1 + 1)) else (nmE f (nxT T n t), nxT T n t, f)) else (-14, t, f)
abbrev iwP (t : TK) (v : Int) : Prop := t.2.2.1 = 0 ∧ t.2.2.2 = v
def gtO (s : Int) : Int := if s = 0 then 12 else 6
def stI (t : TK) : Int := if t.2.2.2 = 412526208 then 0 else 1
/-- as RS, with the settings that were given -/
abbrev R4 : Type := Int × TK × (Int → Int) × Int
def rdS (T : Int → Int) (n : Int) (t : TK) (f : Int → Int) (g : Int) : R4 :=
  if iwP (nxT T n t) 412526208 ∨ iwP (nxT T n t) 140005632 then
    (if x_and g (x_shl 1 (stI (nxT T n t))) = 0 then
      (if inE 1 (gtO (stI (nxT T n t))) (nxT T n (nxT T n t)) = 0 then (0, nxT T n (nxT T n (nxT T n t)), up1 f (2 + stI (nxT T n t)) (nxT T n (nxT T n t)).2.2.2, x_or g (x_shl 1 (stI (nxT T n t))))
       else (inE 1 (gtO (stI (nxT T n t))) (nxT T n (nxT T n t)), nxT T n (nxT T n t), f, x_or g (x_shl 1 (stI (nxT T n t)))))
     else (-13, nxT T n t, f, g))
  else (-11, nxT T n t, f, g)
def rdX (T : Int → Int) (n : Int) (t : TK) (f : Int → Int) (g : Int) : R4 :=
  if iwP t 123295904 then ((rdC T n t f).1, (rdC T n t f).2.1, (rdC T n t f).2.2, g)
  else if iwP t 412554240 then ((rdL T n t f).1, (rdL T n t f).2.1, (rdL T n t f).2.2, g)
  else if iwP t 643432448 then rdS T n t f g
  else (-11, t, f, g)
def rdT (T : Int → Int) (n : Int) (t : TK) (f : Int → Int) (g : Int) : R4 :=
  if (rdX T n t f g).1 = 0 then (if (rdX T n t f g).2.1.2.2.1 = 2 then (0, nxT T n (rdX T n t f g).2.1, (rdX T n t f g).2.2.1, (rdX T n t f g).2.2.2) else (-11, (rdX T n t f g).2.1, (rdX T n t f g).2.2.1, (rdX T n t f g).2.2.2)) else rdX T n t f g
/-- the number of statements or the first error -/
def rdA (T : Int → Int) (n : Int) : Nat → Int → TK → (Int → Int) → Int → R4
  | 0, _, t, f, g => (-11, t, f, g)
  | m + 1, s, t, f, g => if t.2.2.1 = 5 then (s, t, f, g) else if (rdT T n t f g).1 = 0 then rdA T n m (s + 1) (rdT T n t f g).2.1 (rdT T n t f g).2.2.1 (rdT T n t f g).2.2.2 else rdT T n t f g
/-- a row with its counts in their ranges -/
def ctOK (f : Int → Int) : Prop := (0 ≤ f 0 ∧ f 0 ≤ 8) ∧ 0 ≤ f 1 ∧ f 1 ≤ 6
theorem up1_s {f : Int → Int} {i v : Int} : up1 f i v i = v := if_pos rfl
theorem up1_o {f : Int → Int} {i j v : Int} (h : j ≠ i) : up1 f i v j = f j := if_neg h
theorem crv_ok {T : Int → Int} {n c : Int} (c0 : 0 ≤ c) : ∀ (m : Nat) (i : Int) (t : TK) (f : Int → Int), 0 ≤ i → tkOK n t → ctOK f → tkOK n (crv T n c m i t f).2.1 ∧ ctOK (crv T n c m i t f).2.2
  | 0, _, _, _, _, h, h2 => ⟨h, h2⟩
  | m + 1, i, t, f, i0, h, h2 => by
    unfold crv
    split
    · exact ⟨h, h2⟩
    · split
      · refine crv_ok c0 m (i + 1) _ _ (by omega) (nxT_ok h) ?_
        unfold ctOK
        rw [up1_o (by omega), up1_o (by omega), up1_o (by omega), up1_o (by omega)]
        exact h2
      · exact ⟨h, h2⟩
theorem sgK_ok {T : Int → Int} {n : Int} {t : TK} (h : tkOK n t) : tkOK n (sgK T n t) := by
  unfold sgK; split
  · exact nxT_ok h
  · exact h
theorem lin_ok {T : Int → Int} {n l : Int} (l0 : 0 ≤ l) : ∀ (m : Nat) (w : Int) (t : TK) (f : Int → Int), 0 ≤ w → tkOK n t → ctOK f → tkOK n (lin T n l m w t f).2.1 ∧ ctOK (lin T n l m w t f).2.2
  | 0, _, _, _, _, h, h2 => ⟨h, h2⟩
  | m + 1, w, t, f, w0, h, h2 => by
    unfold lin
    split
    · refine lin_ok l0 m (w + 1) _ _ (by omega) (nxT_ok (sgK_ok h)) ?_
      unfold ctOK
      rw [up1_o (by omega), up1_o (by omega)]
      exact h2
    · exact ⟨sgK_ok h, h2⟩
theorem rdC_ok {T : Int → Int} {n : Int} {t : TK} {f : Int → Int} (h : tkOK n t) (h2 : ctOK f) : tkOK n (rdC T n t f).2.1 ∧ ctOK (rdC T n t f).2.2 := by
  have a := h2.1; have b := h2.2
  unfold rdC
  split
  · split
    · refine crv_ok a.1 13 0 _ _ (Int.le_refl 0) (nxT_ok (nxT_ok h)) ?_
      unfold ctOK
      rw [up1_s, up1_o (by omega), up1_o (by omega)]
      omega
    · exact ⟨nxT_ok h, h2⟩
  · exact ⟨h, h2⟩
theorem rdL_ok {T : Int → Int} {n : Int} {t : TK} {f : Int → Int} (h : tkOK n t) (h2 : ctOK f) : tkOK n (rdL T n t f).2.1 ∧ ctOK (rdL T n t f).2.2 := by
  have a := h2.1; have b := h2.2
  unfold rdL
  split
  · split
    · refine lin_ok b.1 3 0 _ _ (Int.le_refl 0) (nxT_ok (nxT_ok h)) ?_
      unfold ctOK
      rw [up1_s, up1_o (by omega), up1_o (by omega)]
      omega
    · exact ⟨nxT_ok h, h2⟩
  · exact ⟨h, h2⟩
theorem stI_b (t : TK) : stI t = 0 ∨ stI t = 1 := by unfold stI; split <;> simp
theorem gv_k : ∀ g : Fin 4, ∀ s : Fin 2, 0 ≤ x_or (g.val : Int) (x_shl 1 (s.val : Int)) ∧ x_or (g.val : Int) (x_shl 1 (s.val : Int)) ≤ 3 := by decide +kernel
theorem gv_b {g s : Int} (h : 0 ≤ g ∧ g ≤ 3) (hs : s = 0 ∨ s = 1) : 0 ≤ x_or g (x_shl 1 s) ∧ x_or g (x_shl 1 s) ≤ 3 := by
  obtain ⟨a, rfl⟩ : ∃ a : Nat, g = a := ⟨g.toNat, by omega⟩
  rcases hs with rfl | rfl
  · exact gv_k ⟨a, by omega⟩ 0
  · exact gv_k ⟨a, by omega⟩ 1
theorem rdS_ok {T : Int → Int} {n g : Int} {t : TK} {f : Int → Int} (h : tkOK n t) (h2 : ctOK f) (hg : 0 ≤ g ∧ g ≤ 3) : tkOK n (rdS T n t f g).2.1 ∧ ctOK (rdS T n t f g).2.2.1 ∧ 0 ≤ (rdS T n t f g).2.2.2 ∧ (rdS T n t f g).2.2.2 ≤ 3 := by
  have s := stI_b (nxT T n t)
  have gg := gv_b hg s
  unfold rdS
  split
  · split
    · split
      · refine ⟨nxT_ok (nxT_ok (nxT_ok h)), ?_, gg⟩
        unfold ctOK
        dsimp only
        rw [up1_o (by omega), up1_o (by omega)]
        exact h2
      · exact ⟨nxT_ok (nxT_ok h), h2, gg⟩
    · exact ⟨nxT_ok h, h2, hg⟩
  · exact ⟨nxT_ok h, h2, hg⟩
theorem rdX_ok {T : Int → Int} {n g : Int} {t : TK} {f : Int → Int} (h : tkOK n t) (h2 : ctOK f) (hg : 0 ≤ g ∧ g ≤ 3) : tkOK n (rdX T n t f g).2.1 ∧ ctOK (rdX T n t f g).2.2.1 ∧ 0 ≤ (rdX T n t f g).2.2.2 ∧ (rdX T n t f g).2.2.2 ≤ 3 := by
  unfold rdX
  split
  · exact ⟨(rdC_ok h h2).1, (rdC_ok h h2).2, hg⟩
  · split
    · exact ⟨(rdL_ok h h2).1, (rdL_ok h h2).2, hg⟩
    · split
      · exact rdS_ok h h2 hg
      · exact ⟨h, h2, hg⟩
theorem rdT_ok {T : Int → Int} {n g : Int} {t : TK} {f : Int → Int} (h : tkOK n t) (h2 : ctOK f) (hg : 0 ≤ g ∧ g ≤ 3) : tkOK n (rdT T n t f g).2.1 ∧ ctOK (rdT T n t f g).2.2.1 ∧ 0 ≤ (rdT T n t f g).2.2.2 ∧ (rdT T n t f g).2.2.2 ≤ 3 := by
  have a := rdX_ok (T := T) h h2 hg
  unfold rdT
  split
  · split
    · exact ⟨nxT_ok a.1, a.2⟩
    · exact a
  · exact a
theorem inE_b (a b : Int) (t : TK) : -12 ≤ inE a b t ∧ inE a b t ≤ 0 := by unfold inE; split <;> (try split) <;> omega
theorem firstk_b (p : Nat → Bool) (n : Nat) : -1 ≤ firstk p n ∧ firstk p n < n := by
  unfold firstk
  split
  · rename_i k hk
    have := List.mem_range.mp (List.mem_of_find?_eq_some hk)
    omega
  · omega
theorem ifz0 : (if w32 0 = 0 then 12 else 6 : Int) = 12 := rfl
theorem ifz1 : (if w32 1 = 0 then 12 else 6 : Int) = 6 := rfl
theorem x_and_r (a b : Int) : -2147483648 ≤ x_and a b ∧ x_and a b < 2147483648 := ⟨Int32.le_toInt _, Int32.toInt_lt _⟩
theorem lin_s {T : Int → Int} {n l w : Int} {t : TK} {f : Int → Int} (h : w < 3) : lin T n l (Int.toNat (3 - w)) w t f = if lnE w (f (122 + l * 3 + 0)) (sgK T n t) = 0 then lin T n l (Int.toNat (3 - (w + 1))) (w + 1) (nxT T n (sgK T n t)) (up1 f (122 + l * 3 + w) (if t.2.2.1 = 3 then -(sgK T n t).2.2.2 else (sgK T n t).2.2.2)) else (lnE w (f (122 + l * 3 + 0)) (sgK T n t), sgK T n t, f) := by
  rw [show Int.toNat (3 - w) = Int.toNat (3 - (w + 1)) + 1 by omega]; rfl
theorem lin_0 {T : Int → Int} {n l w : Int} {t : TK} {f : Int → Int} (h : 3 ≤ w) : lin T n l (Int.toNat (3 - w)) w t f = (0, t, f) := by
  rw [show Int.toNat (3 - w) = 0 by omega]; rfl
theorem crv_s {T : Int → Int} {n c i : Int} {t : TK} {f : Int → Int} (h : i < 13) : crv T n c (Int.toNat (13 - i)) i t f = if i % 3 = 0 ∧ 2 ≤ i / 3 ∧ t.2.2.1 = 2 then (0, t, f) else if ptE (i / 3) (i % 3) t = 0 then crv T n c (Int.toNat (13 - (i + 1))) (i + 1) (nxT T n t) (up1 (up1 f (26 + (c * 4 + i / 3) * 3 + i % 3) t.2.2.2) (18 + c) (i / 3 + 1)) else (ptE (i / 3) (i % 3) t, t, f) := by
  rw [show Int.toNat (13 - i) = Int.toNat (13 - (i + 1)) + 1 by omega]; rfl
theorem crv_0 {T : Int → Int} {n c i : Int} {t : TK} {f : Int → Int} (h : 13 ≤ i) : crv T n c (Int.toNat (13 - i)) i t f = (-14, t, f) := by
  rw [show Int.toNat (13 - i) = 0 by omega]; rfl
theorem ptE_b (k w : Int) (t : TK) : -14 ≤ ptE k w t ∧ ptE k w t ≤ 0 := by
  have a := inE_b 1 3 t
  have b := inE_b 0 20 t
  unfold ptE
  split
  · omega
  · split <;> omega
theorem nmE_b (f : Int → Int) (t : TK) : -13 ≤ nmE f t ∧ nmE f t ≤ 0 := by unfold nmE; split <;> (try split) <;> omega
theorem add2_r4 {A : AA} {s i v : Int} (h : 0 ≤ s + A 4 i) (h2 : s + A 4 i < 140) (hi : 0 ≤ i) (hi2 : i < 140) : fput (fput A 4 (s + fat (A 4) i) v) 4 i (fat (A 4) i + 1) = r4 A (up1 (up1 (A 4) (s + A 4 i) v) i (A 4 i + 1)) := by
  rw [fat_in hi hi2, fput_r4 h h2, fput_r4 hi hi2, r4_4, r4_r4]
theorem put2_r4 {A : AA} {f : Int → Int} {a v b u : Int} (h : 0 ≤ a) (h2 : a < 140) (h3 : 0 ≤ b) (h4 : b < 140) : fput (fput (r4 A f) 4 a v) 4 b u = r4 A (up1 (up1 f a v) b u) := by
  rw [fput_r4 h h2, fput_r4 h3 h4, r4_4, r4_4, r4_r4, r4_r4]
