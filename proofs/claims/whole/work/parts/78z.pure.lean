/-! moving points in the model's figure -/
theorem dnR_s' {f g : Int → Int} {c k t n : Int} (c0 : 0 ≤ c) (c1 : c < 8) (k0 : 0 ≤ k) (kt : k ≤ t) (t3 : t < 3) (h : ∀ i, 0 ≤ i → i < 140 → g i = if i = 18 + c then n else dnR f c k t i) : ∀ i, 0 ≤ i → i < 140 → pnR g c t (g (26 + (c * 4 + (t + 1)) * 3 + 0)) (g (26 + (c * 4 + (t + 1)) * 3 + 1)) (g (26 + (c * 4 + (t + 1)) * 3 + 2)) i = if i = 18 + c then n else dnR f c k (t + 1) i := by
  intro i i0 i1
  by_cases e : i = 18 + c
  · rw [if_pos e, pnR_o (by omega), h i i0 i1, if_pos e]
  · rw [if_neg e]
    have z := dnR_s (f := f) (g := fun i => if i = 18 + c then f (18 + c) else g i) c0 c1 k0 kt t3 (fun i i0 i1 => by
      show ite (i = 18 + c) _ _ = _
      by_cases e : i = 18 + c
      · rw [if_pos e, dnR_out (by omega), e]
      · rw [if_neg e, h i i0 i1, if_neg e]) i i0 i1
    rw [← z]
    unfold pnR
    dsimp only
    rw [if_neg (show ¬ 26 + (c * 4 + (t + 1)) * 3 + 0 = 18 + c by omega), if_neg (show ¬ 26 + (c * 4 + (t + 1)) * 3 + 1 = 18 + c by omega), if_neg (show ¬ 26 + (c * 4 + (t + 1)) * 3 + 2 = 18 + c by omega), if_neg e]
theorem mF_p6 {A : AA} {c t n a0 a1 a2 b0 b1 b2 : Int} (c0 : 0 ≤ c) (c1 : c < 8) (t0 : 0 ≤ t) (tn : t < n) (n1 : n < 4) : mF (upA (upA (upA (upA (upA (upA A 29 (13 * c + 1 + 3 * t + 0) b0) 29 (13 * c + 1 + 3 * n + 0) a0) 29 (13 * c + 1 + 3 * t + 1) b1) 29 (13 * c + 1 + 3 * n + 1) a1) 29 (13 * c + 1 + 3 * t + 2) b2) 29 (13 * c + 1 + 3 * n + 2) a2) = pnR (pnR (mF A) c t b0 b1 b2) c n a0 a1 a2 := by
  rw [mF_pu (k := n) c0 c1 (by omega) n1 (by decide) (by decide), mF_pu (k := t) c0 c1 t0 (by omega) (by decide) (by decide), mF_pu (k := n) c0 c1 (by omega) n1 (by decide) (by decide), mF_pu (k := t) c0 c1 t0 (by omega) (by decide) (by decide), mF_pu (k := n) c0 c1 (by omega) n1 (by decide) (by decide), mF_pu (k := t) c0 c1 t0 (by omega) (by decide) (by decide)]
  funext i
  unfold pnR
  dsimp only
  repeat' split
  all_goals first | rfl | (exfalso; omega)
theorem mF_l3 {A : AA} {l x y w : Int} (l0 : 0 ≤ l) (l1 : l < 6) : mF (upA (upA (upA A 29 (104 + 3 * l) x) 29 (104 + 3 * l + 1) y) 29 (104 + 3 * l + 2) w) = lnR (mF A) l x y w := by
  rw [mF_lu l0 l1 (by decide) (by decide), mF_lu l0 l1 (by decide) (by decide), show 104 + 3 * l = 104 + 3 * l + 0 by omega, mF_lu l0 l1 (by decide) (by decide)]
  funext i
  unfold lnR
  dsimp only
  repeat' split
  all_goals first | rfl | (exfalso; omega)
theorem mF_mv {A : AA} {c k x y : Int} (c0 : 0 ≤ c) (c1 : c < 8) (k0 : 0 ≤ k) (k1 : k < 4) : mF (upA (upA A 29 (13 * c + 1 + 3 * k + 0) x) 29 (13 * c + 1 + 3 * k + 1) y) = movR (mF A) c k x y := by
  rw [mF_pu c0 c1 k0 k1 (by decide) (by decide), mF_pu c0 c1 k0 k1 (by decide) (by decide)]
  funext i
  unfold movR
  dsimp only
  repeat' split
  all_goals first | rfl | (exfalso; omega)
theorem upA_x {A : AA} {n b : Nat} {i j v : Int} (h : ¬ (b = n ∧ j = i)) : upA A n i v b j = A b j := if_neg h
/-! boxes of the model -/
theorem lt_pr {a b : Int} (ha : 0 ≤ a ∧ a ≤ 4611686018427387904) (hb : 0 ≤ b ∧ b ≤ 4611686018427387904) : w64 (a - b) < 0 ↔ a < b := by
  rw [w64_id (by omega) (by omega)]; omega
theorem lt_pr' {a b : Int} (ha : 0 ≤ a ∧ a ≤ 4611686018427387904) (hb : 0 ≤ b ∧ b ≤ 4611686018427387904) : 0 < w64 (a - b) ↔ b < a := by
  rw [w64_id (by omega) (by omega)]; omega
theorem pr_b {a b : Int} (a0 : 0 ≤ a) (a1 : a ≤ 2147483648) (b0 : 0 ≤ b) (b1 : b ≤ 2147483648) : 0 ≤ a * b ∧ a * b ≤ 4611686018427387904 := ⟨Int.mul_nonneg a0 b0, Int.mul_le_mul a1 b1 b0 (by decide)⟩
/-- a row of a cell laid: numbers that are not too big -/
def clO (g : Int → Int) (n : Int) : Prop := ∀ w k, 0 ≤ w → w ≤ 2 → 0 ≤ k → k ≤ n → 0 ≤ g (4 * w + k) ∧ g (4 * w + k) ≤ 2147483648
def exM (g : Int → Int) (s m : Int) : Int := exB (fun i => g (4 * (s % 2) + i)) (fun i => g (8 + i)) s (Int.toNat m)
theorem exM_b {g : Int → Int} {s m : Int} (h : 0 ≤ m) : 0 ≤ exM g s m ∧ exM g s m ≤ m := by
  have := exB_b (fun i => g (4 * (s % 2) + i)) (fun i => g (8 + i)) s (Int.toNat m)
  unfold exM; omega
theorem exM_lo {g : Int → Int} {n v k : Int} (h : clO g n) (v0 : 0 ≤ v) (v1 : v ≤ 1) (k0 : 1 ≤ k) (k1 : k ≤ n) : exM g v k = if g (4 * v + k) * g (8 + exM g v (k - 1)) < g (4 * v + exM g v (k - 1)) * g (8 + k) then k else exM g v (k - 1) := by
  have hb := exM_b (g := g) (s := v) (m := k - 1) (by omega)
  have e : exM g v k = _ := exB_s k0
  have a1 := h v k v0 (by omega) (by omega) k1
  have a2 := h 2 (exM g v (k - 1)) (by omega) (by omega) hb.1 (by omega)
  have a3 := h v (exM g v (k - 1)) v0 (by omega) hb.1 (by omega)
  have a4 := h 2 k (by omega) (by omega) (by omega) k1
  rw [show (4 * 2 : Int) = 8 by omega] at a2 a4
  have p1 := pr_b a1.1 a1.2 a2.1 a2.2
  have p2 := pr_b a3.1 a3.2 a4.1 a4.2
  rw [e]
  simp only [if_pos (show v < 2 by omega), show v % 2 = v by omega]
  show ite (w64 (g (4 * v + k) * g (8 + exB (fun i => g (4 * v + i)) (fun i => g (8 + i)) v (Int.toNat (k - 1))) - g (4 * v + exB (fun i => g (4 * v + i)) (fun i => g (8 + i)) v (Int.toNat (k - 1))) * g (8 + k)) < 0) _ _ = _
  have e2 : exM g v (k - 1) = exB (fun i => g (4 * v + i)) (fun i => g (8 + i)) v (Int.toNat (k - 1)) := by
    unfold exM; rw [show v % 2 = v by omega]
  rw [← e2]
  have q := lt_pr (a := g (4 * v + k) * g (8 + exM g v (k - 1))) (b := g (4 * v + exM g v (k - 1)) * g (8 + k)) (by omega) (by omega)
  by_cases z : g (4 * v + k) * g (8 + exM g v (k - 1)) < g (4 * v + exM g v (k - 1)) * g (8 + k)
  · rw [if_pos z, if_pos (q.mpr z)]
  · rw [if_neg z, if_neg (fun y => z (q.mp y))]
theorem exM_hi {g : Int → Int} {n v k : Int} (h : clO g n) (v0 : 0 ≤ v) (v1 : v ≤ 1) (k0 : 1 ≤ k) (k1 : k ≤ n) : exM g (2 + v) k = if g (4 * v + exM g (2 + v) (k - 1)) * g (8 + k) < g (4 * v + k) * g (8 + exM g (2 + v) (k - 1)) then k else exM g (2 + v) (k - 1) := by
  have hb := exM_b (g := g) (s := 2 + v) (m := k - 1) (by omega)
  have e : exM g (2 + v) k = _ := exB_s k0
  have a1 := h v k v0 (by omega) (by omega) k1
  have a2 := h 2 (exM g (2 + v) (k - 1)) (by omega) (by omega) hb.1 (by omega)
  have a3 := h v (exM g (2 + v) (k - 1)) v0 (by omega) hb.1 (by omega)
  have a4 := h 2 k (by omega) (by omega) (by omega) k1
  rw [show (4 * 2 : Int) = 8 by omega] at a2 a4
  have p1 := pr_b a1.1 a1.2 a2.1 a2.2
  have p2 := pr_b a3.1 a3.2 a4.1 a4.2
  rw [e]
  simp only [if_neg (show ¬ 2 + v < 2 by omega), show (2 + v) % 2 = v by omega]
  show ite (0 < w64 (g (4 * v + k) * g (8 + exB (fun i => g (4 * v + i)) (fun i => g (8 + i)) (2 + v) (Int.toNat (k - 1))) - g (4 * v + exB (fun i => g (4 * v + i)) (fun i => g (8 + i)) (2 + v) (Int.toNat (k - 1))) * g (8 + k))) _ _ = _
  have e2 : exM g (2 + v) (k - 1) = exB (fun i => g (4 * v + i)) (fun i => g (8 + i)) (2 + v) (Int.toNat (k - 1)) := by
    unfold exM; rw [show (2 + v) % 2 = v by omega]
  rw [← e2]
  have q := lt_pr' (a := g (4 * v + k) * g (8 + exM g (2 + v) (k - 1))) (b := g (4 * v + exM g (2 + v) (k - 1)) * g (8 + k)) (by omega) (by omega)
  by_cases z : g (4 * v + exM g (2 + v) (k - 1)) * g (8 + k) < g (4 * v + k) * g (8 + exM g (2 + v) (k - 1))
  · rw [if_pos z, if_pos (q.mpr z)]
  · rw [if_neg z, if_neg (fun y => z (q.mp y))]
theorem exM_0 {g : Int → Int} {s : Int} : exM g s 0 = 0 := rfl
/-- a box laid -/
def lbP (g : Int → Int) (n : Int) (h : Int → Int) (p s : Int) : Prop := h (p + 2 * s) = g (4 * (s % 2) + exM g s n) ∧ h (p + 2 * s + 1) = g (8 + exM g s n)
theorem upA_at {A : AA} {n : Nat} {i j v : Int} (h : j = i) : upA A n i v n j = v := by rw [h, upA_s]
theorem exM_ce {f g : Int → Int} {c q s : Int} {d : Nat} (h2 : 2 ≤ f (18 + c)) (s0 : 0 ≤ s) (h : ∀ w k, 0 ≤ w → w ≤ 2 → 0 ≤ k → k < f (18 + c) → g (4 * w + k) = ceX f c d q w k) : exM g s (f (18 + c) - 1) = exX f c d q s := by
  unfold exM exX
  exact exB_c _ (fun i i0 i1 => ⟨h (s % 2) i (by omega) (by omega) i0 (by omega), by
    have := h 2 i (by omega) (by omega) i0 (by omega)
    rw [show (4 * 2 : Int) = 8 by omega] at this
    exact this⟩)
theorem ce_clO {f g : Int → Int} (hf : fgOK f) {c q : Int} {d : Nat} (hd : d ≤ 6) (c0 : 0 ≤ c) (c1 : c < f 0) (h : ∀ w k, 0 ≤ w → w ≤ 2 → 0 ≤ k → k < f (18 + c) → g (4 * w + k) = ceX f c d q w k) : clO g (f (18 + c) - 1) := fun w k w0 w1 k0 k1 => by
  rw [h w k w0 w1 k0 (by omega)]
  have := ceX_b hf (q := q) hd c0 c1 k0 (by omega) w0 w1
  omega
