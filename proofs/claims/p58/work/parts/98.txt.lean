/-! the law's text is read -/
/-- what remains of a text at a place -/
def Rm (T : Int → Int) (n p : Int) (R : List Nat) : Prop := n = p + R.length ∧ 0 ≤ p ∧ ∀ i : Nat, i < R.length → sgT T n (p + i) = ((R.getD i 0 : Nat) : Int)
theorem Rm_cons {T : Int → Int} {n p : Int} {a : Nat} {R : List Nat} (h : Rm T n p (a :: R)) : sgT T n p = a ∧ p < n ∧ 0 ≤ p ∧ Rm T n (p + 1) R := by
  obtain ⟨h1, h2, h3⟩ := h
  have l : ((a :: R).length : Int) = R.length + 1 := by simp
  rw [l] at h1
  have h0 := h3 0 (by simp)
  simp only [Int.natCast_zero, Int.add_zero, List.getD_cons_zero] at h0
  refine ⟨h0, by omega, h2, by omega, by omega, fun i hi => ?_⟩
  have := h3 (i + 1) (by simp; omega)
  rw [List.getD_cons_succ] at this
  rw [show p + 1 + (i : Int) = p + ((i + 1 : Nat) : Int) by omega]
  exact this
theorem Rm_app {T : Int → Int} {n : Int} {R : List Nat} : ∀ (L : List Nat) (p : Int), Rm T n p (L ++ R) → Rm T n (p + L.length) R
  | [], p, h => by simpa using h
  | a :: L, p, h => by
    have := Rm_app L (p + 1) (Rm_cons h).2.2.2
    rw [show p + ((a :: L).length : Int) = p + 1 + L.length by simp; omega]
    exact this
theorem ad_bl {T : Int → Int} {n p v : Int} {R : List Nat} (h : Rm T n p (32 :: R)) : adF T n p v = adF T n (p + 1) v := by
  obtain ⟨a, b, -, -⟩ := Rm_cons h
  rw [adF_q, adF_q, runB_s b, if_pos (by rw [a]; exact Or.inl rfl)]
theorem ad_nb {T : Int → Int} {n p v : Int} {a : Nat} {R : List Nat} (h : Rm T n p (a :: R)) (h1 : a ≠ 32) (h2 : a ≠ 10) : adF T n p v = adQ T n v p := by
  obtain ⟨e, b, -, -⟩ := Rm_cons h
  rw [adF_q, runB_s b, if_neg (by rw [e]; rintro (q | q) <;> omega)]
theorem ad_sc {T : Int → Int} {n p v : Int} {R : List Nat} (h : Rm T n p (59 :: R)) : adF T n p v = (p, p + 1, 2, v) := by
  obtain ⟨e, b, -, -⟩ := Rm_cons h
  rw [ad_nb h (by decide) (by decide)]
  unfold adQ
  rw [if_neg (by omega), e, if_neg (by decide), if_neg (by decide)]; rfl
theorem ad_mi {T : Int → Int} {n p v : Int} {R : List Nat} (h : Rm T n p (45 :: R)) : adF T n p v = (p, p + 1, 3, v) := by
  obtain ⟨e, b, -, -⟩ := Rm_cons h
  rw [ad_nb h (by decide) (by decide)]
  unfold adQ
  rw [if_neg (by omega), e, if_neg (by decide), if_neg (by decide)]; rfl
theorem ad_en {T : Int → Int} {n p v : Int} (h : Rm T n p []) : adF T n p v = (p, p, 5, v) := by
  have e : n = p := by have := h.1; simp at this; exact this
  rw [adF_q, runB_0 (by omega)]
  unfold adQ
  rw [if_pos (by omega)]
/-- what stands next is no letter, no digit -/
def nlD (R : List Nat) : Prop := ∀ a S, R = a :: S → (a < 97 ∨ 122 < a) ∧ (a < 48 ∨ 57 < a)
theorem runL_w {T : Int → Int} {n : Int} {R : List Nat} (hR : nlD R) : ∀ (w : List Nat) (p : Int), (∀ a, a ∈ w → 97 ≤ a ∧ a ≤ 122) → Rm T n p (w ++ R) → runL T n (Int.toNat (n - p)) p = p + w.length
  | [], p, _, h => by
    cases R with
    | nil => rw [runL_0 (by have := h.1; simp at this; omega)]; simp
    | cons a S =>
      obtain ⟨e, b, -, -⟩ := Rm_cons h
      have := hR a S rfl
      rw [runL_s b, if_neg (by rw [e]; rintro ⟨q1, q2⟩; omega)]; simp
  | a :: w, p, hw, h => by
    obtain ⟨e, b, -, h2⟩ := Rm_cons h
    have ha := hw a (by simp)
    rw [runL_s b, if_pos (by rw [e]; exact ⟨by omega, by omega⟩), runL_w hR w (p + 1) (fun x hx => hw x (by simp [hx])) h2]
    simp; omega
theorem runD_w {T : Int → Int} {n : Int} {R : List Nat} (hR : nlD R) : ∀ (w : List Nat) (p : Int), (∀ a, a ∈ w → 48 ≤ a ∧ a ≤ 57) → Rm T n p (w ++ R) → runD T n (Int.toNat (n - p)) p = p + w.length
  | [], p, _, h => by
    cases R with
    | nil => rw [runD_0 (by have := h.1; simp at this; omega)]; simp
    | cons a S =>
      obtain ⟨e, b, -, -⟩ := Rm_cons h
      have := hR a S rfl
      rw [runD_s b, if_neg (by rw [e]; rintro ⟨q1, q2⟩; omega)]; simp
  | a :: w, p, hw, h => by
    obtain ⟨e, b, -, h2⟩ := Rm_cons h
    have ha := hw a (by simp)
    rw [runD_s b, if_pos (by rw [e]; exact ⟨by omega, by omega⟩), runD_w hR w (p + 1) (fun x hx => hw x (by simp [hx])) h2]
    simp; omega
/-- letters packed -/
def wkF (w : List Nat) : Nat → Int
  | 0 => 0
  | k + 1 => if k < 6 then x_or (wkF w k) (x_shl ((w.getD k 0 : Nat) - 97 + 1) (5 * (5 - k))) else wkF w k
theorem ltF_w {T : Int → Int} {n p : Int} {w R : List Nat} (h : Rm T n p (w ++ R)) : ∀ k : Nat, k ≤ w.length → ltF T n p k = wkF w k
  | 0, _ => rfl
  | k + 1, hk => by
    have e := h.2.2 k (by simp; omega)
    rw [List.getD_eq_getElem?_getD, List.getElem?_append_left (by omega), ← List.getD_eq_getElem?_getD] at e
    unfold ltF wkF
    rw [ltF_w h k (by omega), e]
theorem ad_wd {T : Int → Int} {n p v : Int} {a : Nat} {w R : List Nat} (hR : nlD R) (hw : ∀ x, x ∈ a :: w → 97 ≤ x ∧ x ≤ 122) (hl : (a :: w).length ≤ 6) (h : Rm T n p (a :: w ++ R)) : adF T n p v = (p, p + (a :: w).length, 0, wkF (a :: w) (a :: w).length) := by
  obtain ⟨e, b, -, -⟩ := Rm_cons (show Rm T n p (a :: (w ++ R)) from h)
  have ha := hw a (by simp)
  rw [ad_nb (R := w ++ R) h (by omega) (by omega)]
  unfold adQ
  rw [if_neg (by omega), if_pos (by rw [e]; exact ⟨by omega, by omega⟩), runL_w hR (a :: w) p hw h, show p + ((a :: w).length : Int) - p = ((a :: w).length : Nat) by omega, if_pos (by omega), Int.toNat_natCast, ltF_w h _ (Nat.le_refl _)]
theorem decL1 {v : Nat} (h : v < 10) : decL v = [48 + v] := by
  unfold decL; rw [(dec_1 h).1]; show [sb_dec v 0] = _; rw [(dec_1 h).2]
theorem decL2 {v : Nat} (h : 10 ≤ v) (h2 : v < 100) : decL v = [48 + v / 10, 48 + v % 10] := by
  unfold decL; rw [(dec_2 h h2).1]; show [sb_dec v 0, sb_dec v 1] = _; rw [(dec_2 h h2).2.1, (dec_2 h h2).2.2]
theorem decL3 : decL 100 = [49, 48, 48] := by
  unfold decL; rw [dec_3.1]; show [sb_dec 100 0, sb_dec 100 1, sb_dec 100 2] = _; rw [dec_3.2.1, dec_3.2.2.1, dec_3.2.2.2]
theorem ivF_1 {T : Int → Int} {n p : Int} : ivF T n p 1 = sgT T n p - 48 := by
  show (if (0 : Int) < 100000 then 10 * 0 + sgT T n (p + ((0 : Nat) : Int)) - 48 else 0) = _
  rw [if_pos (by decide)]
  simp
theorem ivF_2 {T : Int → Int} {n p : Int} (h : sgT T n p ≤ 57) : ivF T n p 2 = 10 * (sgT T n p - 48) + sgT T n (p + 1) - 48 := by
  show (if ivF T n p 1 < 100000 then 10 * ivF T n p 1 + sgT T n (p + ((1 : Nat) : Int)) - 48 else ivF T n p 1) = _
  rw [ivF_1, if_pos (by omega)]; rfl
theorem ivF_3 {T : Int → Int} {n p : Int} (h : sgT T n p ≤ 57) (h2 : sgT T n (p + 1) ≤ 57) : ivF T n p 3 = 10 * (10 * (sgT T n p - 48) + sgT T n (p + 1) - 48) + sgT T n (p + 2) - 48 := by
  show (if ivF T n p 2 < 100000 then 10 * ivF T n p 2 + sgT T n (p + ((2 : Nat) : Int)) - 48 else ivF T n p 2) = _
  rw [ivF_2 h, if_pos (by omega)]; rfl
theorem decL_dg {v : Nat} (h : v ≤ 100) : ∀ a, a ∈ decL v → 48 ≤ a ∧ a ≤ 57 := by
  intro a ha
  by_cases h1 : v < 10
  · rw [decL1 h1] at ha; simp at ha; omega
  · by_cases h2 : v < 100
    · rw [decL2 (by omega) h2] at ha; simp at ha; omega
    · rw [show v = 100 by omega, decL3] at ha; simp at ha; omega
theorem decL_iv {T : Int → Int} {n p : Int} {v : Nat} {R : List Nat} (h : v ≤ 100) (hr : Rm T n p (decL v ++ R)) : ivF T n p (decL v).length = v := by
  by_cases h1 : v < 10
  · rw [decL1 h1] at hr ⊢
    obtain ⟨e, -, -, -⟩ := Rm_cons (show Rm T n p ((48 + v) :: R) from hr)
    show ivF T n p 1 = _
    rw [ivF_1, e]; omega
  · by_cases h2 : v < 100
    · rw [decL2 (by omega) h2] at hr ⊢
      obtain ⟨e, -, -, r⟩ := Rm_cons (show Rm T n p ((48 + v / 10) :: (48 + v % 10) :: R) from hr)
      obtain ⟨e2, -, -, -⟩ := Rm_cons r
      show ivF T n p 2 = _
      rw [ivF_2 (by rw [e]; omega), e, e2]; omega
    · have q : v = 100 := by omega
      subst q
      rw [decL3] at hr ⊢
      obtain ⟨e, -, -, r⟩ := Rm_cons (show Rm T n p (49 :: 48 :: 48 :: R) from hr)
      obtain ⟨e2, -, -, r2⟩ := Rm_cons r
      obtain ⟨e3, -, -, -⟩ := Rm_cons r2
      rw [show p + 1 + 1 = p + 2 by omega] at e3
      show ivF T n p 3 = _
      rw [ivF_3 (by rw [e]; decide) (by rw [e2]; decide), e, e2, e3]; decide
theorem decL_ne {v : Nat} (h : v ≤ 100) : ∃ a S, decL v = a :: S := by
  by_cases h1 : v < 10
  · exact ⟨_, _, decL1 h1⟩
  · by_cases h2 : v < 100
    · exact ⟨_, _, decL2 (by omega) h2⟩
    · rw [show v = 100 by omega]; exact ⟨_, _, decL3⟩
theorem ad_in {T : Int → Int} {n p x : Int} {v : Nat} {R : List Nat} (hv : v ≤ 100) (hR : nlD R) (h : Rm T n p (decL v ++ R)) : adF T n p x = (p, p + (decL v).length, 1, (v : Int)) := by
  have iv := decL_iv hv h
  have rd := runD_w hR (decL v) p (decL_dg hv) h
  obtain ⟨a, S, e⟩ := decL_ne hv
  have ha := decL_dg hv a (by rw [e]; simp)
  have h' : Rm T n p (a :: (S ++ R)) := by rw [e] at h; exact h
  obtain ⟨q, b, -, -⟩ := Rm_cons h'
  rw [ad_nb h' (by omega) (by omega)]
  unfold adQ
  rw [if_neg (by omega), if_neg (by rw [q]; rintro ⟨q1, q2⟩; omega), if_pos (by rw [q]; exact ⟨by omega, by omega⟩), rd, show p + ((decL v).length : Int) - p = ((decL v).length : Nat) by omega, Int.toNat_natCast, iv]
/-- a blank, then a number -/
theorem ad_bi {T : Int → Int} {n p x : Int} {v : Nat} {R : List Nat} (hv : v ≤ 100) (hR : nlD R) (h : Rm T n p ([32] ++ decL v ++ R)) : adF T n p x = (p + 1, p + ([32] ++ decL v).length, 1, (v : Int)) := by
  have h0 : Rm T n p (32 :: (decL v ++ R)) := by simpa using h
  rw [ad_bl h0, ad_in hv hR (Rm_cons h0).2.2.2]
  simp; omega
theorem nl_32 (S : List Nat) : nlD (32 :: S) := fun a R h => by injection h with h1 h2; rw [← h1]; decide
theorem nl_59 (S : List Nat) : nlD (59 :: S) := fun a R h => by injection h with h1 h2; rw [← h1]; decide
/-! statements read -/
/-- k statements are read, from one place to another one -/
def Rd (T : Int → Int) (n : Int) (k : Nat) (t : TK) (f : Int → Int) (g : Int) (t' : TK) (f' : Int → Int) (g' : Int) : Prop := ∀ (m : Nat) (s : Int), rdA T n (m + k) s t f g = rdA T n m (s + k) t' f' g'
theorem Rd_1 {T : Int → Int} {n : Int} {t t' : TK} {f f' : Int → Int} {g g' : Int} (h5 : t.2.2.1 ≠ 5) (h : rdT T n t f g = (0, t', f', g')) : Rd T n 1 t f g t' f' g' := fun m s => by
  show (if t.2.2.1 = 5 then _ else if (rdT T n t f g).1 = 0 then _ else _) = _
  rw [if_neg h5, h]
  dsimp only
  rw [if_pos rfl]; rfl
theorem Rd_0 {T : Int → Int} {n : Int} {t : TK} {f : Int → Int} {g : Int} : Rd T n 0 t f g t f g := fun m s => by
  show rdA T n m s t f g = rdA T n m (s + ((0 : Nat) : Int)) t f g
  rw [Int.natCast_zero, Int.add_zero]
theorem Rd_t {T : Int → Int} {n : Int} {a b : Nat} {t t' t'' : TK} {f f' f'' : Int → Int} {g g' g'' : Int} (h : Rd T n a t f g t' f' g') (k : Rd T n b t' f' g' t'' f'' g'') : Rd T n (a + b) t f g t'' f'' g'' := fun m s => by
  rw [show m + (a + b) = m + b + a by omega, h (m + b) s, k m (s + a)]
  congr 1
  omega
theorem wk_w : wkF [115, 101, 116] 3 = 643432448 ∧ wkF [108, 105, 109, 105, 116] 5 = 412526208 ∧ wkF [100, 101, 112, 116, 104] 5 = 140005632 ∧ wkF [99, 117, 114, 118, 101] 5 = 123295904 ∧ wkF [108, 105, 110, 101] 4 = 412554240 := by decide +kernel
theorem nx_e {T : Int → Int} {n p q k v : Int} : nxT T n (p, q, k, v) = adF T n q v := rfl
/-- set limit, set depth -/
theorem st_set {T : Int → Int} {n p v s g : Int} {w : List Nat} {a : Nat} {R : List Nat} {f : Int → Int} {k : Int} (hw : (w = [108, 105, 109, 105, 116] ∧ s = 0 ∧ k = 412526208) ∨ (w = [100, 101, 112, 116, 104] ∧ s = 1 ∧ k = 140005632)) (hg : x_and g (x_shl 1 s) = 0) (ha : 1 ≤ a ∧ (a : Int) ≤ gtO s ∧ a ≤ 100) (h : Rm T n p ([115, 101, 116, 32] ++ w ++ [32] ++ decL a ++ [59] ++ R)) :
    ∃ v', Rd T n 1 (adF T n p v) f g (adF T n (p + ([115, 101, 116, 32] ++ w ++ [32] ++ decL a ++ [59]).length) v') (up1 f (2 + s) a) (x_or g (x_shl 1 s)) := by
  refine ⟨(a : Int), ?_⟩
  have h0 : Rm T n p (115 :: [101, 116] ++ (32 :: (w ++ ([32] ++ decL a ++ (59 :: R))))) := by simpa using h
  have e0 := ad_wd (v := v) (nl_32 _) (by decide) (by decide) h0
  have h1 : Rm T n (p + 3) (32 :: (w ++ ([32] ++ decL a ++ (59 :: R)))) := Rm_app [115, 101, 116] p h0
  have h2 := (Rm_cons h1).2.2.2
  have lw : w.length = 5 := by rcases hw with ⟨e, -, -⟩ | ⟨e, -, -⟩ <;> rw [e] <;> rfl
  have e1 : ∀ v, adF T n (p + 3) v = (p + 4, p + 9, 0, k) := by
    intro v
    rw [ad_bl (R := w ++ ([32] ++ decL a ++ (59 :: R))) h1, show p + 3 + 1 = p + 4 by omega]
    have h2' : Rm T n (p + 4) (w ++ ([32] ++ decL a ++ (59 :: R))) := by rw [show p + 4 = p + 3 + 1 by omega]; exact h2
    rcases hw with ⟨rfl, -, rfl⟩ | ⟨rfl, -, rfl⟩
    · rw [ad_wd (nl_32 _) (by decide) (by decide) h2']
      show (p + 4, p + 4 + 5, 0, wkF [108, 105, 109, 105, 116] 5) = _
      rw [wk_w.2.1, show p + 4 + 5 = p + 9 by omega]
    · rw [ad_wd (nl_32 _) (by decide) (by decide) h2']
      show (p + 4, p + 4 + 5, 0, wkF [100, 101, 112, 116, 104] 5) = _
      rw [wk_w.2.2.1, show p + 4 + 5 = p + 9 by omega]
  have h3 := Rm_app w _ h2
  rw [lw, show p + 3 + 1 + ((5 : Nat) : Int) = p + 9 by omega] at h3
  have e2 : ∀ v, adF T n (p + 9) v = (p + 10, p + 9 + ([32] ++ decL a).length, 1, (a : Int)) := fun v => by
    rw [ad_bi ha.2.2 (nl_59 _) h3]; congr 1; omega
  have h4 := Rm_app ([32] ++ decL a) _ h3
  have e3 : ∀ v, adF T n (p + 9 + ([32] ++ decL a).length) v = (p + 9 + ([32] ++ decL a).length, p + 9 + ([32] ++ decL a).length + 1, 2, v) := fun v => ad_sc h4
  have el : p + (([115, 101, 116, 32] ++ w ++ [32] ++ decL a ++ [59]).length : Int) = p + 9 + ([32] ++ decL a).length + 1 := by
    simp [lw]; omega
  rw [el]
  have k0 : wkF [115, 101, 116] ([115, 101, 116] : List Nat).length = 643432448 := wk_w.1
  rw [e0, k0]
  refine Rd_1 (show (0 : Int) ≠ 5 by decide) ?_
  have eX : rdX T n (p, p + (([115, 101, 116] : List Nat).length : Int), 0, 643432448) f g = (0, (p + 9 + ([32] ++ decL a).length, p + 9 + ([32] ++ decL a).length + 1, 2, (a : Int)), up1 f (2 + s) a, x_or g (x_shl 1 s)) := by
    unfold rdX
    rw [if_neg (show ¬ ((0 : Int) = 0 ∧ (643432448 : Int) = 123295904) by decide), if_neg (show ¬ ((0 : Int) = 0 ∧ (643432448 : Int) = 412554240) by decide), if_pos ⟨rfl, rfl⟩]
    have n1 : nxT T n (p, p + (([115, 101, 116] : List Nat).length : Int), 0, 643432448) = (p + 4, p + 9, 0, k) := e1 _
    have sI : stI (p + 4, p + 9, 0, k) = s := by
      unfold stI
      rcases hw with ⟨-, rfl, rfl⟩ | ⟨-, rfl, rfl⟩
      · exact if_pos rfl
      · exact if_neg (show ¬ (140005632 : Int) = 412526208 by decide)
    have iw : iwP (p + 4, p + 9, 0, k) 412526208 ∨ iwP (p + 4, p + 9, 0, k) 140005632 := by
      rcases hw with ⟨-, -, rfl⟩ | ⟨-, -, rfl⟩
      · exact Or.inl ⟨rfl, rfl⟩
      · exact Or.inr ⟨rfl, rfl⟩
    have n2 : nxT T n (p + 4, p + 9, 0, k) = (p + 10, p + 9 + ([32] ++ decL a).length, 1, (a : Int)) := e2 _
    have n3 : nxT T n (p + 10, p + 9 + (([32] ++ decL a).length : Int), 1, (a : Int)) = (p + 9 + ([32] ++ decL a).length, p + 9 + ([32] ++ decL a).length + 1, 2, (a : Int)) := e3 _
    have iE : inE 1 (gtO s) (p + 10, p + 9 + (([32] ++ decL a).length : Int), 1, (a : Int)) = 0 := by
      unfold inE
      rw [if_pos rfl, if_pos ⟨by show (1 : Int) ≤ a; omega, ha.2.1⟩]
    unfold rdS
    rw [n1, n2, n3, if_pos iw, sI, if_pos hg, if_pos iE]
  unfold rdT
  rw [eX]
  dsimp only
  rw [if_pos rfl, if_pos rfl]; rfl
