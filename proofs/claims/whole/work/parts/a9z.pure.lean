/-! changes keep figures in their ranges -/
theorem fig_of {f r : Int → Int} (h : figR f) (e0 : r 0 = f 0) (e1 : r 1 = f 1) (e2 : 1 ≤ r 2 ∧ r 2 ≤ 12) (e3 : 1 ≤ r 3 ∧ r 3 ≤ 6) (hp : ∀ e, 0 ≤ e → e < f 0 → (2 ≤ r (18 + e) ∧ r (18 + e) ≤ 4) ∧ ∀ k, 0 ≤ k → k < r (18 + e) → ptB r e k) (hl : ∀ i, 122 ≤ i → i < 140 → r i = f i) : figR r := by
  obtain ⟨⟨⟨hc, hl1⟩, -, -, hv⟩, hln⟩ := h
  refine ⟨⟨⟨by omega, by omega⟩, ⟨e2, e3⟩, fun e q0 q1 => hp e q0 (by omega), fun l w l0 l1 w0 w1 => ?_⟩, fun l l0 l1 => ?_⟩
  · rw [hl (122 + l * 3 + w) (by omega) (by omega)]
    exact hv l w l0 (by omega) w0 w1
  · rw [hl (122 + l * 3 + 0) (by omega) (by omega), hl (122 + l * 3 + 1) (by omega) (by omega)]
    exact hln l l0 (by omega)
theorem px_i {f : Int → Int} {c k w : Int} : pxF f c k w = f (26 + (c * 4 + k) * 3 + w) := rfl
theorem wgR_F {f : Int → Int} (h : figR f) {c k w : Int} (c0 : 0 ≤ c) (c1 : c < f 0) (k0 : 0 ≤ k) (k1 : k < f (18 + c)) (hw : 1 ≤ w ∧ w ≤ 3) : figR (wgR f c k w) := by
  have hh := h
  obtain ⟨⟨⟨hc, hl⟩, ⟨hs, hd⟩, hp, hv⟩, hln⟩ := hh
  have n4 := (hp c c0 c1).1
  have keep : ∀ i, i ≠ 26 + (c * 4 + k) * 3 + 2 → wgR f c k w i = f i := fun i q => if_neg q
  refine fig_of h (keep 0 (by omega)) (keep 1 (by omega)) (by rw [keep 2 (by omega)]; exact hs) (by rw [keep 3 (by omega)]; exact hd) (fun e q0 q1 => ?_) (fun i i0 i1 => keep i (by omega))
  have he := hp e q0 q1
  rw [keep (18 + e) (by omega)]
  refine ⟨he.1, fun j j0 j1 => ?_⟩
  have hj := he.2 j j0 j1
  refine ⟨?_, ?_, ?_⟩
  · rw [px_i, keep _ (by omega)]; exact hj.1
  · rw [px_i, keep _ (by omega)]; exact hj.2.1
  · by_cases z : 26 + (e * 4 + j) * 3 + 2 = 26 + (c * 4 + k) * 3 + 2
    · have v : wgR f c k w (26 + (e * 4 + j) * 3 + 2) = w := if_pos z
      rw [px_i, v]; exact hw
    · rw [px_i, keep _ z]; exact hj.2.2
theorem stR_F {f : Int → Int} {s v : Int} (h : figR f) (hs : s = 0 ∨ s = 1) (hv : 1 ≤ v ∧ v ≤ (if s = 0 then 12 else 6)) : figR (stR f s v) := by
  have e : stR f s v = up1 f (2 + s) v := rfl
  rw [e]
  exact set_F h hs hv
theorem movR_F {f : Int → Int} (h : figR f) {c k x y : Int} (c0 : 0 ≤ c) (c1 : c < f 0) (k0 : 0 ≤ k) (k1 : k < f (18 + c)) (hx : 0 ≤ x ∧ x ≤ 20) (hy : 0 ≤ y ∧ y ≤ 20) : figR (movR f c k x y) := by
  refine ⟨movR_fg h.1 c0 c1 k0 k1 hx hy, fun l l0 l1 => ?_⟩
  have n4 := (h.1.2.2.1 c c0 c1).1
  have q1 := h.1.1
  have keep : ∀ i, 122 ≤ i ∨ i < 26 → movR f c k x y i = f i := fun i q => by
    unfold movR
    rw [if_neg (by omega), if_neg (by omega)]
  rw [keep 1 (by omega)] at l1
  rw [keep (122 + l * 3 + 0) (by omega), keep (122 + l * 3 + 1) (by omega)]
  exact h.2 l l0 l1
theorem insR_F {f : Int → Int} (h : figR f) {c k x y w : Int} (c0 : 0 ≤ c) (c1 : c < f 0) (k0 : 0 ≤ k) (k1 : k ≤ f (18 + c)) (n4 : f (18 + c) < 4) (hx : 0 ≤ x ∧ x ≤ 20) (hy : 0 ≤ y ∧ y ≤ 20) (hw : 1 ≤ w ∧ w ≤ 3) : figR (insR f c k x y w) := by
  have hh := h
  obtain ⟨⟨⟨hc, hl⟩, ⟨hs, hd⟩, hp, hv⟩, hln⟩ := hh
  have n2 := (hp c c0 c1).1
  have keep : ∀ i, i ≠ 18 + c → (i < 26 + c * 12 ∨ 38 + c * 12 ≤ i) → insR f c k x y w i = f i := fun i q0 q1 => by
    unfold insR upR
    rw [if_neg q0, if_neg (by omega), if_neg (by omega), if_neg (by omega), if_neg (by omega)]
  refine fig_of h (keep 0 (by omega) (by omega)) (keep 1 (by omega) (by omega)) (by rw [keep 2 (by omega) (by omega)]; exact hs) (by rw [keep 3 (by omega) (by omega)]; exact hd) (fun e q0 q1 => ?_) (fun i i0 i1 => keep i (by omega) (by omega))
  have he := hp e q0 q1
  by_cases z : e = c
  · subst z
    have e18 : insR f e k x y w (18 + e) = f (18 + e) + 1 := if_pos rfl
    rw [e18]
    refine ⟨by omega, fun j j0 j1 => ?_⟩
    by_cases zk : j = k
    · subst zk
      have v0 : insR f e j x y w (26 + (e * 4 + j) * 3 + 0) = x := by unfold insR; rw [if_neg (by omega), if_pos (by omega)]
      have v1 : insR f e j x y w (26 + (e * 4 + j) * 3 + 1) = y := by unfold insR; rw [if_neg (by omega), if_neg (by omega), if_pos (by omega)]
      have v2 : insR f e j x y w (26 + (e * 4 + j) * 3 + 2) = w := by unfold insR; rw [if_neg (by omega), if_neg (by omega), if_neg (by omega), if_pos (by omega)]
      refine ⟨?_, ?_, ?_⟩
      · rw [px_i, v0]; exact hx
      · rw [px_i, v1]; exact hy
      · rw [px_i, v2]; exact hw
    · have kp : ∀ u, 0 ≤ u → u ≤ 2 → pxF (insR f e k x y w) e j u = pxF f e (if j < k then j else j - 1) u := fun u u0 u1 => by
        unfold pxF insR upR
        rw [if_neg (by omega), if_neg (by omega), if_neg (by omega), if_neg (by omega)]
        by_cases zj : j < k
        · rw [if_neg (by omega), if_pos zj]
        · rw [if_pos (by omega), if_neg zj]; congr 1; omega
      have hj := he.2 (if j < k then j else j - 1) (by split <;> omega) (by split <;> omega)
      refine ⟨?_, ?_, ?_⟩
      · rw [kp 0 (by decide) (by decide)]; exact hj.1
      · rw [kp 1 (by decide) (by decide)]; exact hj.2.1
      · rw [kp 2 (by decide) (by decide)]; exact hj.2.2
  · rw [keep (18 + e) (by omega) (by omega)]
    refine ⟨he.1, fun j j0 j1 => ?_⟩
    have hj := he.2 j j0 j1
    refine ⟨?_, ?_, ?_⟩
    · rw [px_i, keep _ (by omega) (by omega)]; exact hj.1
    · rw [px_i, keep _ (by omega) (by omega)]; exact hj.2.1
    · rw [px_i, keep _ (by omega) (by omega)]; exact hj.2.2
