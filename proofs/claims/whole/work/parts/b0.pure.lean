theorem drpR_F {f : Int → Int} (h : figR f) {c k : Int} (c0 : 0 ≤ c) (c1 : c < f 0) (k0 : 0 ≤ k) (k1 : k < f (18 + c)) (n2 : ¬ f (18 + c) = 2) : figR (drpR f c k) := by
  have hh := h
  obtain ⟨⟨⟨hc, hl⟩, ⟨hs, hd⟩, hp, hv⟩, hln⟩ := hh
  have n4 := (hp c c0 c1).1
  have keep : ∀ i, i ≠ 18 + c → (i < 26 + c * 12 ∨ 38 + c * 12 ≤ i) → drpR f c k i = f i := fun i q0 q1 => by
    unfold drpR dnR
    rw [if_neg q0, if_neg (by omega)]
  refine fig_of h (keep 0 (by omega) (by omega)) (keep 1 (by omega) (by omega)) (by rw [keep 2 (by omega) (by omega)]; exact hs) (by rw [keep 3 (by omega) (by omega)]; exact hd) (fun e q0 q1 => ?_) (fun i i0 i1 => keep i (by omega) (by omega))
  have he := hp e q0 q1
  by_cases z : e = c
  · subst z
    have e18 : drpR f e k (18 + e) = f (18 + e) - 1 := if_pos rfl
    rw [e18]
    refine ⟨by omega, fun j j0 j1 => ?_⟩
    have kp : ∀ u, 0 ≤ u → u ≤ 2 → pxF (drpR f e k) e j u = pxF f e (if j < k then j else j + 1) u := fun u u0 u1 => by
      unfold pxF drpR dnR
      rw [if_neg (by omega)]
      by_cases zj : j < k
      · rw [if_neg (by omega), if_pos zj]
      · rw [if_pos (by omega), if_neg zj]; congr 1; omega
    have hj := he.2 (if j < k then j else j + 1) (by split <;> omega) (by split <;> omega)
    refine ⟨?_, ?_, ?_⟩
    · rw [kp 0 (by decide) (by decide)]; exact hj.1
    · rw [kp 1 (by decide) (by decide)]; exact hj.2.1
    · rw [kp 2 (by decide) (by decide)]; exact hj.2.2
  · rw [keep (18 + e) (by omega) (by omega)]
    refine ⟨he.1, fun j j0 j1 => ?_⟩
    have hj := he.2 j j0 j1
    refine ⟨?_, ?_, ?_⟩
    · rw [px_i, keep _ (by omega) (by omega)]; exact hj.1
    · rw [px_i, keep _ (by omega) (by omega)]; exact hj.2.1
    · rw [px_i, keep _ (by omega) (by omega)]; exact hj.2.2
theorem revR_F {f : Int → Int} (h : figR f) {c : Int} (c0 : 0 ≤ c) (c1 : c < f 0) : figR (revR f c) := by
  have hh := h
  obtain ⟨⟨⟨hc, hl⟩, ⟨hs, hd⟩, hp, hv⟩, hln⟩ := hh
  have n4 := (hp c c0 c1).1
  have keep : ∀ i, (i < 26 + c * 12 ∨ 38 + c * 12 ≤ i) → revR f c i = f i := fun i q1 => by
    unfold revR
    rw [if_neg (by omega)]
  refine fig_of h (keep 0 (by omega)) (keep 1 (by omega)) (by rw [keep 2 (by omega)]; exact hs) (by rw [keep 3 (by omega)]; exact hd) (fun e q0 q1 => ?_) (fun i i0 i1 => keep i (by omega))
  have he := hp e q0 q1
  rw [keep (18 + e) (by omega)]
  refine ⟨he.1, fun j j0 j1 => ?_⟩
  by_cases z : e = c
  · subst z
    have kp : ∀ u, 0 ≤ u → u ≤ 2 → pxF (revR f e) e j u = pxF f e (f (18 + e) - 1 - j) u := fun u u0 u1 => by
      unfold pxF revR
      rw [if_pos (by omega)]
      congr 1
      omega
    have hj := he.2 (f (18 + e) - 1 - j) (by omega) (by omega)
    refine ⟨?_, ?_, ?_⟩
    · rw [kp 0 (by decide) (by decide)]; exact hj.1
    · rw [kp 1 (by decide) (by decide)]; exact hj.2.1
    · rw [kp 2 (by decide) (by decide)]; exact hj.2.2
  · have hj := he.2 j j0 j1
    refine ⟨?_, ?_, ?_⟩
    · rw [px_i, keep _ (by omega)]; exact hj.1
    · rw [px_i, keep _ (by omega)]; exact hj.2.1
    · rw [px_i, keep _ (by omega)]; exact hj.2.2
theorem lnR_F {f : Int → Int} (h : figR f) {l a b c : Int} (l0 : 0 ≤ l) (l1 : l < f 1) (ha : -5 ≤ a ∧ a ≤ 5) (hb : -5 ≤ b ∧ b ≤ 5) (hc : -200 ≤ c ∧ c ≤ 200) : figR (lnR f l a b c) := by
  refine ⟨lnR_fg h.1 l0 l1 ha hb hc, fun m m0 m1 => ?_⟩
  have q1 := h.1.1
  have k1 : lnR f l a b c 1 = f 1 := by
    unfold lnR
    rw [if_neg (by omega), if_neg (by omega), if_neg (by omega)]
  rw [k1] at m1
  have hm := h.2 m m0 m1
  by_cases z : m = l
  · subst z
    have v0 : lnR f m a b c (122 + m * 3 + 0) = a := by unfold lnR; rw [if_pos (by omega)]
    have v1 : lnR f m a b c (122 + m * 3 + 1) = b := by unfold lnR; rw [if_neg (by omega), if_pos (by omega)]
    rw [v0, v1]; exact ⟨ha, hb⟩
  · have v0 : lnR f l a b c (122 + m * 3 + 0) = f (122 + m * 3 + 0) := by unfold lnR; rw [if_neg (by omega), if_neg (by omega), if_neg (by omega)]
    have v1 : lnR f l a b c (122 + m * 3 + 1) = f (122 + m * 3 + 1) := by unfold lnR; rw [if_neg (by omega), if_neg (by omega), if_neg (by omega)]
    rw [v0, v1]; exact hm
