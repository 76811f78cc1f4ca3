/-! isRooted: what its answers are -/
def rtH (A0 : AA) (c l n : Int) : Prop := fgOK (A0 2) ∧ (0 ≤ c ∧ c < A0 2 0) ∧ (0 ≤ l ∧ l < A0 2 1) ∧ n = A0 2 (18 + c) - 1
theorem rt_f {f : Int → Int} {c l n : Int} (hf : fgOK f) (hc : 0 ≤ c ∧ c < f 0) (hl : 0 ≤ l ∧ l < f 1) (hn : n = f (18 + c) - 1) : (1 ≤ f 2 ∧ f 2 ≤ 12) ∧ smR (cfL f c l) n 24600 ∧ 1 ≤ n ∧ n ≤ 3 ∧ Int.toNat (f (18 + c)) = Int.toNat (n + 1) ∧ ((rtsX f c l).length : Int) ≤ 8 := by
  have hs := (hf.2.2.1 c hc.1 hc.2).1
  refine ⟨hf.2.1.1, by rw [hn]; exact cfL_sm hf hc.1 hc.2 hl.1 hl.2, by omega, by omega, by congr 1; omega, RTB_T f hf c l hc.1 hc.2 hl.1 hl.2⟩
theorem G_w {f : Int → Int} {c l n k : Int} (h : smR (cfL f c l) n 24600) (k0 : 0 ≤ k) (k1 : k ≤ n) : w64 (cfL f c l k) = cfL f c l k := by
  have := h k k0 k1
  exact w64_id (by omega) (by omega)
theorem cofV {X f : Int → Int} {c l k : Int} {i : Decidable (0 ≤ k ∧ k < X (18 + c))} (e : X = f) (hk : 0 ≤ k ∧ k < f (18 + c)) : @ite Int (0 ≤ k ∧ k < X (18 + c)) i (cfR X c l k) (-100000) = cfR f c l k := by
  subst e
  exact if_pos hk
theorem gsV {X f : Int → Int} {i : Decidable ((0 : Int) = 0 ∨ (0 : Int) = 1)} (e : X = f) : @ite Int ((0 : Int) = 0 ∨ (0 : Int) = 1) i (X (2 + 0)) (-2) = f 2 := by
  subst e
  exact if_pos (Or.inl rfl)
theorem biV {X f : Int → Int} {c l : Int} {i : Decidable (azP (cfL X c l) (Int.toNat (X (18 + c))))} (e : X = f) : @bi (azP (cfL X c l) (Int.toNat (X (18 + c)))) i = bi (azP (cfL f c l) (Int.toNat (f (18 + c)))) := by
  subst e
  exact congrArg (fun j => @bi _ j) (Subsingleton.elim i _)
theorem bdV {X f : Int → Int} {c l : Int} {i : Decidable (dblP (cfL X c l) (X (18 + c) - 1))} (e : X = f) (h : ¬ dblP (cfL f c l) (f (18 + c) - 1)) : @bi (dblP (cfL X c l) (X (18 + c) - 1)) i = 0 := by
  subst e
  exact (@bi_0 _ i).mpr h
theorem sd0 {X f : Int → Int} {c l : Int} {i : Decidable ((0 : Int) = 0)} (e : X = f) : w32 (cfR X c l (@ite Int ((0 : Int) = 0) i 0 (X (18 + c) - 1))) = cfL f c l 0 := by
  subst e
  rw [if_pos rfl]; rfl
theorem sd1 {X f : Int → Int} {c l : Int} {i : Decidable ((1 : Int) = 0)} (e : X = f) : w32 (cfR X c l (@ite Int ((1 : Int) = 0) i 0 (X (18 + c) - 1))) = cfL f c l (f (18 + c) - 1) := by
  subst e
  rw [if_neg (by omega)]; rfl
theorem rcA {X f : Int → Int} {c l : Int} {i : Decidable (azP (cfL X c l) (Int.toNat (X (18 + c))))} (e : X = f) (h : azP (cfL f c l) (Int.toNat (f (18 + c)))) : @ite Int (azP (cfL X c l) (Int.toNat (X (18 + c)))) i (-1) ((rtsX X c l).length : Int) = -1 := by
  subst e
  exact if_pos h
theorem rcN {X f : Int → Int} {c l : Int} {i : Decidable (azP (cfL X c l) (Int.toNat (X (18 + c))))} (e : X = f) (h : ¬ azP (cfL f c l) (Int.toNat (f (18 + c)))) : @ite Int (azP (cfL X c l) (Int.toNat (X (18 + c)))) i (-1) ((rtsX X c l).length : Int) = ((rtsX f c l).length : Int) := by
  subst e
  exact if_neg h
theorem roA {X f : Int → Int} {c l k : Int} {i : Decidable (azP (cfL X c l) (Int.toNat (X (18 + c))))} {j : Decidable (0 ≤ k ∧ k ≤ 2)} (e : X = f) (hk : 0 ≤ k ∧ k ≤ 2) (h : azP (cfL f c l) (Int.toNat (f (18 + c)))) : @ite Int (0 ≤ k ∧ k ≤ 2) j (@ite Int (azP (cfL X c l) (Int.toNat (X (18 + c)))) i (-1) (cntK (ktF (rtsX X c l)) k (rtsX X c l).length)) (-2) = -1 := by
  subst e
  rw [if_pos hk, if_pos h]
theorem roN {X f : Int → Int} {c l k : Int} {i : Decidable (azP (cfL X c l) (Int.toNat (X (18 + c))))} {j : Decidable (0 ≤ k ∧ k ≤ 2)} (e : X = f) (hk : 0 ≤ k ∧ k ≤ 2) (h : ¬ azP (cfL f c l) (Int.toNat (f (18 + c)))) : @ite Int (0 ≤ k ∧ k ≤ 2) j (@ite Int (azP (cfL X c l) (Int.toNat (X (18 + c)))) i (-1) (cntK (ktF (rtsX X c l)) k (rtsX X c l).length)) (-2) = cntK (ktF (rtsX f c l)) k (rtsX f c l).length := by
  subst e
  rw [if_pos hk, if_neg h]
theorem ro3 {X : Int → Int} {c l k y : Int} {j : Decidable (0 ≤ k ∧ k ≤ 2)} (hk : ¬ (0 ≤ k ∧ k ≤ 2)) : @ite Int (0 ≤ k ∧ k ≤ 2) j y (-2) = -2 := if_neg hk
theorem rts_az {f : Int → Int} {c l : Int} (hs : 2 ≤ f (18 + c)) (h : azP (cfL f c l) (Int.toNat (f (18 + c)))) : rtsX f c l = [] := by
  unfold rtsX rootsL
  rw [if_pos (by rw [show f (18 + c) - 1 + 1 = f (18 + c) by omega]; exact h)]
theorem rkO {X f : Int → Int} {c l r : Int} {i : Decidable (0 ≤ r ∧ r < ((rtsX X c l).length : Int))} {y : Int} (e : X = f) (h : ((rtsX f c l).length : Int) ≤ r) : @ite Int (0 ≤ r ∧ r < ((rtsX X c l).length : Int)) i y (-1) = -1 := by
  subst e
  exact if_neg (by omega)
theorem rkV {X f : Int → Int} {c l r : Int} {i : Decidable (0 ≤ r ∧ r < ((rtsX X c l).length : Int))} (e : X = f) (hr : 0 ≤ r ∧ r < ((rtsX f c l).length : Int)) : @ite Int (0 ≤ r ∧ r < ((rtsX X c l).length : Int)) i ((rtsX X c l).getD (Int.toNat r) (0, 0, 0)).1 (-1) = ((rtsX f c l).getD (Int.toNat r) (0, 0, 0)).1 := by
  subst e
  exact if_pos hr
theorem rdV {X f : Int → Int} {c l r : Int} {i : Decidable (0 ≤ r ∧ r < ((rtsX X c l).length : Int))} (e : X = f) (hr : 0 ≤ r ∧ r < ((rtsX f c l).length : Int)) : @ite Int (0 ≤ r ∧ r < ((rtsX X c l).length : Int)) i ((rtsX X c l).getD (Int.toNat r) (0, 0, 0)).2.1 (-1) = ((rtsX f c l).getD (Int.toNat r) (0, 0, 0)).2.1 := by
  subst e
  exact if_pos hr
theorem rqV {X f : Int → Int} {c l r : Int} {i : Decidable (0 ≤ r ∧ r < ((rtsX X c l).length : Int))} (e : X = f) (hr : 0 ≤ r ∧ r < ((rtsX f c l).length : Int)) : @ite Int (0 ≤ r ∧ r < ((rtsX X c l).length : Int)) i ((rtsX X c l).getD (Int.toNat r) (0, 0, 0)).2.2 (-1) = ((rtsX f c l).getD (Int.toNat r) (0, 0, 0)).2.2 := by
  subst e
  exact if_pos hr
theorem scV {X f : Int → Int} {c l d q : Int} {i : Decidable (0 ≤ d ∧ d ≤ 12 ∧ 0 ≤ q ∧ q < p2 d)} (e : X = f) (h : 0 ≤ d ∧ d ≤ 12 ∧ 0 ≤ q ∧ q < p2 d) : @ite Int (0 ≤ d ∧ d ≤ 12 ∧ 0 ≤ q ∧ q < p2 d) i (chg (cellF (cfL X c l) (X (18 + c) - 1) (Int.toNat d) q) (Int.toNat (X (18 + c)))) (-1) = chg (cellF (cfL f c l) (f (18 + c) - 1) (Int.toNat d) q) (Int.toNat (f (18 + c))) := by
  subst e
  exact if_pos h
theorem and_1 {z : Int} (h : z = 0 ∨ z = 1) : x_and z 1 = z := by rcases h with rfl | rfl <;> rfl
theorem and_0 {z : Int} (h : z = 0 ∨ z = 1) : x_and z 0 = 0 := by rcases h with rfl | rfl <;> rfl
theorem onS {on k : Int} {G : Int → Int} (h : on = 1 ↔ ∀ i, 0 ≤ i → i < k → G i = 0) (e : G k = 0) : on = 1 ↔ ∀ i, 0 ≤ i → i < k + 1 → G i = 0 := by
  constructor
  · intro z i i0 i1
    by_cases q : i = k
    · rw [q]; exact e
    · exact h.mp z i i0 (by omega)
  · intro z
    exact h.mpr (fun i i0 i1 => z i i0 (by omega))
theorem onN {k : Int} {G : Int → Int} (k0 : 0 ≤ k) (e : ¬ G k = 0) : (0 : Int) = 1 ↔ ∀ i, 0 ≤ i → i < k + 1 → G i = 0 := by
  constructor
  · intro z; omega
  · intro z; exact absurd (z k k0 (by omega)) e
theorem on_az {f : Int → Int} {c l n on : Int} (hn : n = f (18 + c) - 1) (h : smR (cfL f c l) n 24600) (ho : on = 1 ↔ ∀ i, 0 ≤ i → i < n + 1 → cfL f c l i = 0) : on = 1 ↔ azP (cfL f c l) (Int.toNat (f (18 + c))) := by
  rw [ho]
  constructor
  · intro z k hk
    rw [z k (by omega) (by omega)]; rfl
  · intro z i i0 i1
    have := z (Int.toNat i) (by omega)
    rw [show ((Int.toNat i : Nat) : Int) = i by omega, G_w h i0 (by omega)] at this
    exact this
theorem dbl_az {g : Int → Int} {n : Int} (n1 : 1 ≤ n) (n3 : n ≤ 3) (h : ∀ i, 0 ≤ i → i ≤ n → g i = 0) : ¬ dblP g n := by
  have p3 : powL g n 3 = 0 := by
    unfold powL
    by_cases q : n < 3
    · rw [if_pos q]
    · rw [if_neg q, if_neg (by decide), if_neg (by decide), if_neg (by decide), h 0 (by omega) (by omega), h 1 (by omega) (by omega), h 2 (by omega) (by omega), h 3 (by omega) (by omega)]; rfl
  have p2 : powL g n 2 = 0 := by
    unfold powL
    by_cases q : n < 2
    · rw [if_pos q]
    · rw [if_neg q, if_neg (by decide), if_neg (by decide), if_pos rfl, h 0 (by omega) (by omega), h 1 (by omega) (by omega), h 2 (by omega) (by omega)]
      show _ * (0 : Int) = 0
      exact Int.mul_zero _
  intro z
  have z2 : w64 (powL g n 2) ≠ 0 := by
    unfold dblP at z
    rw [if_neg (by rw [p3]; decide)] at z
    exact z.1
  rw [p2] at z2
  exact z2 rfl
/-- the place of the last root that was told -/
def lstF (L : List RT) (r : Int) : Int := if r = 0 then -1 else plc (L.getD (Int.toNat (r - 1)) (0, 0, 0))
theorem lst_lt {L : List RT} {r : Int} (h : ∀ x, x ∈ L → 0 ≤ plc x) (hp : L.Pairwise (fun x y => plc x < plc y)) (r0 : 0 ≤ r) (r1 : r < L.length) : -1 ≤ lstF L r ∧ lstF L r < plc (L.getD (Int.toNat r) (0, 0, 0)) := by
  unfold lstF
  have a := h _ (getD_mem r0 r1)
  by_cases q : r = 0
  · rw [if_pos q]; omega
  · rw [if_neg q]
    have b := h _ (getD_mem (L := L) (r := r - 1) (by omega) (by omega))
    exact ⟨by omega, roots_lt hp (by omega) (by omega)⟩
theorem lst_s {L : List RT} {r : Int} (r0 : 0 ≤ r) : lstF L (r + 1) = plc (L.getD (Int.toNat r) (0, 0, 0)) := by
  unfold lstF
  rw [if_neg (by omega), show r + 1 - 1 = r by omega]
theorem kt_s {L : List RT} {r k : Int} (r0 : 0 ≤ r) : cntK (ktF L) k (Int.toNat (r + 1)) = if (L.getD (Int.toNat r) (0, 0, 0)).1 = k then cntK (ktF L) k (Int.toNat r) + 1 else cntK (ktF L) k (Int.toNat r) := cntK_s r0
/-- the facts of a root that is told -/
theorem rt_at {f : Int → Int} {c l n r : Int} (hf : fgOK f) (hc : 0 ≤ c ∧ c < f 0) (hl : 0 ≤ l ∧ l < f 1) (hn : n = f (18 + c) - 1) (r0 : 0 ≤ r) (r1 : r < ((rtsX f c l).length : Int)) : gdR (cfL f c l) n (f 2) ((rtsX f c l).getD (Int.toNat r) (0, 0, 0)) ∧ -1 ≤ lstF (rtsX f c l) r ∧ lstF (rtsX f c l) r < plc ((rtsX f c l).getD (Int.toNat r) (0, 0, 0)) := by
  obtain ⟨hlm, hsm, n1, n3, -, -⟩ := rt_f hf hc hl hn
  have g := roots_g n1 n3 hlm.1 hlm.2 hsm
  have e : rtsX f c l = rootsL (cfL f c l) n (f 2) := by unfold rtsX; rw [hn]
  rw [e] at r1 ⊢
  exact ⟨(g.1 _ (getD_mem r0 r1)).1, lst_lt (fun x hx => (g.1 x hx).2) g.2 r0 r1⟩
theorem pl_b {G : Int → Int} {n lim : Int} {x : RT} (h : gdR G n lim x) (hl : lim ≤ 12) : 0 ≤ x.2.2 * p2 (13 - x.2.1) ∧ x.2.2 * p2 (13 - x.2.1) ≤ 8192 ∧ x.2.2 ≤ 4096 ∧ p2 x.2.1 ≤ 4096 := by
  obtain ⟨⟨d0, d1⟩, ⟨q0, q1⟩, -⟩ := h
  have a := @p2_pos (13 - x.2.1)
  have b : p2 x.2.1 * p2 (13 - x.2.1) = 8192 := by rw [← p2_add d0 (by omega), show x.2.1 + (13 - x.2.1) = 13 by omega]; rfl
  have c : x.2.2 * p2 (13 - x.2.1) ≤ p2 x.2.1 * p2 (13 - x.2.1) := mle q1 (by omega)
  have d : p2 x.2.1 ≤ 4096 := p2_le (k := 12) (by omega)
  exact ⟨Int.mul_nonneg q0 (by omega), by omega, by omega, d⟩
