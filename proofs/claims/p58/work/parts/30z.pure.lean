theorem rts_get {K D C : Int → Int} {L : List RT} {k : Int} (h : rts K D C 0 L) (h0 : 0 ≤ k) (h1 : k < L.length) : K k = (L.getD k.toNat (0, 0, 0)).1 ∧ D k = (L.getD k.toNat (0, 0, 0)).2.1 ∧ C k = (L.getD k.toNat (0, 0, 0)).2.2 := by
  have hl : k.toNat < L.length := by omega
  have := rts_at L 0 h k.toNat (L[k.toNat]'hl) (List.getElem?_eq_getElem hl)
  rw [show (0 : Int) + (k.toNat : Nat) = k by omega] at this
  rw [List.getD_eq_getElem?_getD, List.getElem?_eq_getElem hl]
  exact this
/-- every curve and line have few roots -/
def rtB (f : Int → Int) : Prop := ∀ c l, 0 ≤ c → c < f 0 → 0 ≤ l → l < f 1 → ((rtsX f c l).length : Int) ≤ 8
theorem rc_az {G : FF} {B : AA} {f : Int → Int} {c l : Int} {L : List RT} (h : rcP G B f c l L) (hs : 2 ≤ f (18 + c)) : azP (B 15) (Int.toNat (G 14 4 + 1)) ↔ azP (cfL f c l) (Int.toNat (f (18 + c))) := by
  rw [h.1, show f (18 + c) - 1 + 1 = f (18 + c) by omega]
  exact azP_c (fun k hk => h.2.2.2 k (by omega) (by omega))
theorem powL_c {g g' : Int → Int} {n k : Int} (h : ∀ i, 0 ≤ i → i ≤ n → g i = g' i) (h1 : 1 ≤ n) (h0 : 0 ≤ k) (hk : k ≤ 3) : powL g n k = powL g' n k := by
  unfold powL
  by_cases a : n < k
  · rw [if_pos a, if_pos a]
  · rw [if_neg a, if_neg a, h 0 (by omega) (by omega), h 1 (by omega) (by omega)]
    by_cases b : k = 0
    · rw [if_pos b, if_pos b]
    · rw [if_neg b, if_neg b]
      by_cases c : k = 1
      · rw [if_pos c, if_pos c]
      · rw [if_neg c, if_neg c, h 2 (by omega) (by omega)]
        by_cases d : k = 2
        · rw [if_pos d, if_pos d]
        · rw [if_neg d, if_neg d, h 3 (by omega) (by omega)]
theorem dblP_c {g g' : Int → Int} {n : Int} (h : ∀ i, 0 ≤ i → i ≤ n → g i = g' i) (h1 : 1 ≤ n) : dblP g n ↔ dblP g' n := by
  unfold dblP
  rw [powL_c h h1 (k := 0) (by omega) (by omega), powL_c h h1 (k := 1) (by omega) (by omega), powL_c h h1 (k := 2) (by omega) (by omega), powL_c h h1 (k := 3) (by omega) (by omega)]
theorem srch_k {n lim : Int} : ∀ (f : Nat) (g : Int → Int) (d q : Int) (x : RT), x ∈ srch n lim f g d q → 0 ≤ x.1 ∧ x.1 ≤ 2
  | 0, _, _, _, _, h => by simp [srch] at h
  | f + 1, g, d, q, x, h => by
    unfold srch at h
    split at h
    · simp at h
    · split at h
      · simp at h; rw [h]; dsimp only; omega
      · split at h
        · simp at h; rw [h]; dsimp only; omega
        · rcases List.mem_append.mp h with h | h
          · exact srch_k f _ _ _ x h
          · rcases List.mem_append.mp h with h | h
            · split at h
              · simp at h; rw [h]; dsimp only; omega
              · simp at h
            · exact srch_k f _ _ _ x h
theorem rootsL_k {g : Int → Int} {n lim : Int} {x : RT} (h : x ∈ rootsL g n lim) : 0 ≤ x.1 ∧ x.1 ≤ 2 := by
  unfold rootsL at h
  split at h
  · simp at h
  · rcases List.mem_append.mp h with h | h
    · split at h
      · simp at h; rw [h]; dsimp only; omega
      · simp at h
    · rcases List.mem_append.mp h with h | h
      · exact srch_k _ _ _ _ x h
      · split at h
        · simp at h; rw [h]; dsimp only; omega
        · simp at h
def ktF (L : List RT) : Int → Int := fun jj => (L.getD jj.toNat (0, 0, 0)).1
theorem cntK_c {g g' : Int → Int} {k : Int} : ∀ m : Nat, (∀ j : Nat, j < m → g j = g' j) → cntK g k m = cntK g' k m
  | 0, _ => rfl
  | m + 1, h => by
    unfold cntK
    rw [cntK_c m (fun j hj => h j (by omega)), h m (by omega)]
theorem rc_kd {G : FF} {B : AA} {f : Int → Int} {c l : Int} (h : rcP G B f c l (rtsX f c l)) : ∀ i, 0 ≤ i → i < G 14 5 → -1 ≤ B 16 i ∧ B 16 i ≤ 3 := by
  intro i i0 i1
  rw [h.2.1] at i1
  rw [(rts_get h.2.2.1 i0 i1).1, List.getD_eq_getElem?_getD, List.getElem?_eq_getElem (by omega)]
  have := rootsL_k (List.getElem_mem (l := rtsX f c l) (n := i.toNat) (by omega))
  simp only [Option.getD_some]
  omega
theorem rc_cnt {G : FF} {B : AA} {f : Int → Int} {c l k : Int} (h : rcP G B f c l (rtsX f c l)) : cntK (B 16) k (Int.toNat (G 14 5)) = cntK (ktF (rtsX f c l)) k (rtsX f c l).length := by
  rw [h.2.1, show Int.toNat ((rtsX f c l).length : Int) = (rtsX f c l).length by omega]
  refine cntK_c _ (fun j hj => ?_)
  rw [(rts_get h.2.2.1 (k := j) (by omega) (by omega)).1]; rfl
