/-! changes of the model's figure, one number at a time; what is kept before a change -/
theorem up29 {A : AA} {J v : Int} (j : Int) : upA A 29 J v 29 j = if j = J then v else A 29 j := by
  by_cases h : j = J
  · rw [h, upA_s, if_pos rfl]
  · rw [upA_o h, if_neg h]
theorem mF_u {A : AA} {J v : Int} : mF (upA A 29 J v) = fun i => if i = 0 then A 27 14 else if i = 1 then A 27 15 else if 2 ≤ i ∧ i < 4 then (if 122 + (i - 2) = J then v else A 29 (122 + (i - 2))) else if 4 ≤ i ∧ i < 12 then A 27 (i - 4) else if 12 ≤ i ∧ i < 18 then A 27 (8 + (i - 12)) else if 18 ≤ i ∧ i < 26 then (if 13 * (i - 18) = J then v else A 29 (13 * (i - 18))) else if 26 ≤ i ∧ i < 122 then (if 13 * ((i - 26) / 12) + 1 + (i - 26) % 12 = J then v else A 29 (13 * ((i - 26) / 12) + 1 + (i - 26) % 12)) else if 122 ≤ i ∧ i < 140 then (if 104 + (i - 122) = J then v else A 29 (104 + (i - 122))) else A 2 i := by
  funext i
  unfold mF
  rw [upA_r (n := 29) (k := 27) (by decide), upA_r (n := 29) (k := 2) (by decide), up29, up29, up29, up29]
theorem mF_g {A : AA} {J v I : Int} (h1 : ∀ i, i = I → (2 ≤ i ∧ i < 4 ∧ 122 + (i - 2) = J) ∨ (18 ≤ i ∧ i < 26 ∧ 13 * (i - 18) = J) ∨ (26 ≤ i ∧ i < 122 ∧ 13 * ((i - 26) / 12) + 1 + (i - 26) % 12 = J) ∨ (122 ≤ i ∧ i < 140 ∧ 104 + (i - 122) = J)) (h2 : ∀ i, ¬ i = I → ¬ (2 ≤ i ∧ i < 4 ∧ 122 + (i - 2) = J) ∧ ¬ (18 ≤ i ∧ i < 26 ∧ 13 * (i - 18) = J) ∧ ¬ (26 ≤ i ∧ i < 122 ∧ 13 * ((i - 26) / 12) + 1 + (i - 26) % 12 = J) ∧ ¬ (122 ≤ i ∧ i < 140 ∧ 104 + (i - 122) = J)) : mF (upA A 29 J v) = fun i => if i = I then v else mF A i := by
  rw [mF_u]
  funext i
  show _ = ite (i = I) _ _
  by_cases e : i = I
  · rw [if_pos e]
    rcases h1 i e with h | h | h | h
    · rw [if_neg (by omega), if_neg (by omega), if_pos ⟨h.1, h.2.1⟩, if_pos h.2.2]
    · rw [if_neg (by omega), if_neg (by omega), if_neg (by omega), if_neg (by omega), if_neg (by omega), if_pos ⟨h.1, h.2.1⟩, if_pos h.2.2]
    · rw [if_neg (by omega), if_neg (by omega), if_neg (by omega), if_neg (by omega), if_neg (by omega), if_neg (by omega), if_pos ⟨h.1, h.2.1⟩, if_pos h.2.2]
    · rw [if_neg (by omega), if_neg (by omega), if_neg (by omega), if_neg (by omega), if_neg (by omega), if_neg (by omega), if_neg (by omega), if_pos ⟨h.1, h.2.1⟩, if_pos h.2.2]
  · rw [if_neg e]
    obtain ⟨a, b, c, d⟩ := h2 i e
    unfold mF
    by_cases k1 : 2 ≤ i ∧ i < 4
    · rw [if_pos k1, if_pos k1, if_neg (fun z => a ⟨k1.1, k1.2, z⟩)]
    · rw [if_neg k1, if_neg k1]
      by_cases k2 : 18 ≤ i ∧ i < 26
      · rw [if_pos k2, if_pos k2, if_neg (fun z => b ⟨k2.1, k2.2, z⟩)]
      · rw [if_neg k2, if_neg k2]
        by_cases k3 : 26 ≤ i ∧ i < 122
        · rw [if_pos k3, if_pos k3, if_neg (fun z => c ⟨k3.1, k3.2, z⟩)]
        · rw [if_neg k3, if_neg k3]
          by_cases k4 : 122 ≤ i ∧ i < 140
          · rw [if_pos k4, if_pos k4, if_neg (fun z => d ⟨k4.1, k4.2, z⟩)]
          · rw [if_neg k4, if_neg k4]
theorem mF_pu {A : AA} {c k w v : Int} (c0 : 0 ≤ c) (c1 : c < 8) (k0 : 0 ≤ k) (k1 : k < 4) (w0 : 0 ≤ w) (w1 : w ≤ 2) : mF (upA A 29 (13 * c + 1 + 3 * k + w) v) = fun i => if i = 26 + (c * 4 + k) * 3 + w then v else mF A i := mF_g (fun i e => by omega) (fun i e => by omega)
theorem mF_zu {A : AA} {c v : Int} (c0 : 0 ≤ c) (c1 : c < 8) : mF (upA A 29 (13 * c) v) = fun i => if i = 18 + c then v else mF A i := mF_g (fun i e => by omega) (fun i e => by omega)
theorem mF_lu {A : AA} {l w v : Int} (l0 : 0 ≤ l) (l1 : l < 6) (w0 : 0 ≤ w) (w1 : w ≤ 2) : mF (upA A 29 (104 + 3 * l + w) v) = fun i => if i = 122 + l * 3 + w then v else mF A i := mF_g (fun i e => by omega) (fun i e => by omega)
theorem mF_su {A : AA} {s v : Int} (s0 : 0 ≤ s) (s1 : s ≤ 1) : mF (upA A 29 (122 + s) v) = fun i => if i = 2 + s then v else mF A i := mF_g (fun i e => by omega) (fun i e => by omega)
def kpU (u : Int) : Int := if u = 10 then 9 else u
theorem kpU_b {u : Int} (h : 0 ≤ u ∧ u ≤ 10) : 0 ≤ kpU u ∧ kpU u ≤ 9 := by unfold kpU; split <;> omega
/-- a row is kept -/
def keP (F G : FF) (A B : AA) : Prop := (∀ a b, a ≠ 25 ∨ b ≠ 8 → G a b = F a b) ∧ G 25 8 = kpU (F 25 8) + 1 ∧ (∀ b i, b ≠ 31 → B b i = A b i) ∧ (∀ j, 0 ≤ j → j < 124 * kpU (F 25 8) → B 31 j = A 31 (if F 25 8 = 10 then j + 124 else j)) ∧ ∀ k, 0 ≤ k → k < 124 → B 31 (124 * kpU (F 25 8) + k) = A 29 k
theorem keP_f {F G : FF} {A B : AA} (h : keP F G A B) : mF B = mF A := mF_c (funext fun i => h.2.2.1 2 i (by decide)) (funext fun i => h.2.2.1 27 i (by decide)) (funext fun i => h.2.2.1 29 i (by decide))
/-- what a change leaves, the figure aside -/
def msW (F G : FF) (A B : AA) : Prop := (∀ a b, a ≠ 25 ∨ (b ≠ 0 ∧ b ≠ 8) → G a b = F a b) ∧ G 25 0 = 0 ∧ G 25 8 = kpU (F 25 8) + 1 ∧ (∀ b i, b ≠ 29 ∧ b ≠ 31 → B b i = A b i) ∧ (∀ j, 0 ≤ j → j < 124 * kpU (F 25 8) → B 31 j = A 31 (if F 25 8 = 10 then j + 124 else j)) ∧ ∀ k, 0 ≤ k → k < 124 → B 31 (124 * kpU (F 25 8) + k) = A 29 k
/-- a change of the model's figure took place, with the row g behind it -/
def msP (F G : FF) (A B : AA) (g : Int → Int) : Prop := msW F G A B ∧ ∀ i, 0 ≤ i → i < 140 → mF B i = g i
def ms0 (F G : FF) (A B : AA) : Prop := G = upF F 25 0 0 ∧ B = A
abbrev msQ (p : Prop) (F G : FF) (A B : AA) (g : Int → Int) : Prop := (p → msP F G A B g) ∧ (¬ p → ms0 F G A B)
theorem msW_of {F G : FF} {A B C : AA} (h : keP (upF F 25 0 0) G A B) (hc : ∀ b i, b ≠ 29 → C b i = B b i) : msW F G A C :=
  ⟨fun a b hab => (h.1 a b (by omega)).trans (upF_o (by omega)), (h.1 25 0 (by decide)).trans upF_s, by
    have := h.2.1; rw [upF_o (by decide)] at this; exact this, fun b i hb => (hc b i hb.1).trans (h.2.2.1 b i hb.2), by
    have := h.2.2.2.1; rw [upF_o (by decide)] at this; exact fun j j0 j1 => (hc 31 j (by decide)).trans (this j j0 j1), by
    have := h.2.2.2.2; rw [upF_o (by decide)] at this; exact fun k k0 k1 => (hc 31 _ (by decide)).trans (this k k0 k1)⟩
theorem msP_of {F G : FF} {A B C : AA} {g : Int → Int} (h : keP (upF F 25 0 0) G A B) (hc : ∀ b i, b ≠ 29 → C b i = B b i) (hg : mF C = g) : msP F G A C g := ⟨msW_of h hc, fun i _ _ => by rw [hg]⟩
theorem msW_n {F G : FF} {A B C : AA} (h : msW F G A B) (hc : ∀ b i, b ≠ 29 → C b i = B b i) : msW F G A C :=
  ⟨h.1, h.2.1, h.2.2.1, fun b i hb => (hc b i hb.1).trans (h.2.2.2.1 b i hb), fun j j0 j1 => (hc 31 j (by decide)).trans (h.2.2.2.2.1 j j0 j1), fun k k0 k1 => (hc 31 _ (by decide)).trans (h.2.2.2.2.2 k k0 k1)⟩
theorem mF_p3 {A : AA} {c t x y w : Int} (c0 : 0 ≤ c) (c1 : c < 8) (t0 : 0 ≤ t) (t1 : t < 4) : mF (upA (upA (upA A 29 (13 * c + 1 + 3 * t + 0) x) 29 (13 * c + 1 + 3 * t + 1) y) 29 (13 * c + 1 + 3 * t + 2) w) = pnR (mF A) c t x y w := by
  rw [mF_pu c0 c1 t0 t1 (by decide) (by decide), mF_pu c0 c1 t0 t1 (by decide) (by decide), mF_pu c0 c1 t0 t1 (by decide) (by decide)]
  funext i
  unfold pnR
  dsimp only
  by_cases e2 : i = 26 + (c * 4 + t) * 3 + 2
  · rw [if_pos e2, if_neg (by omega), if_neg (by omega), if_pos e2]
  · rw [if_neg e2]
    by_cases e1 : i = 26 + (c * 4 + t) * 3 + 1
    · rw [if_pos e1, if_neg (by omega), if_pos e1]
    · rw [if_neg e1]
      by_cases e0 : i = 26 + (c * 4 + t) * 3
      · rw [if_pos (by omega), if_pos e0]
      · rw [if_neg (by omega), if_neg e0, if_neg e1, if_neg e2]
theorem mF_px {A : AA} {c t w k v z : Int} (c0 : 0 ≤ c) (c1 : c < 8) (t0 : 0 ≤ t) (t1 : t < 4) (w0 : 0 ≤ w) (w1 : w ≤ 2) (z0 : 0 ≤ z) (z1 : z ≤ 2) (h : k ≠ t ∨ z ≠ w) : pxF (mF (upA A 29 (13 * c + 1 + 3 * t + w) v)) c k z = pxF (mF A) c k z := by
  unfold pxF
  rw [mF_pu c0 c1 t0 t1 w0 w1]
  exact if_neg (by omega)
