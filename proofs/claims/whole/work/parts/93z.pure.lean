/-! cells that a band clips; curves near one; bits counted -/
abbrev atF (f : Int → Int) (e a : Int) : Int := pxF f e (f (18 + e) - 1) a - pxF f e 0 a
def mnN (f : Int → Int) (c e : Int) (d : Nat) (q k : Int) : Int := w32 (atF f e 0) * (ceX f c d q 1 k - w32 (pxF f e 0 1) * ceX f c d q 2 k) - w32 (atF f e 1) * (ceX f c d q 0 k - w32 (pxF f e 0 0) * ceX f c d q 2 k)
def mnA (f : Int → Int) (c e : Int) (d : Nat) (q : Int) : Int → Prop := fun k => w64 (w32 (bHigh f e (Int.toNat (f (18 + e) - 1))) * ceX f c d q 2 k) < w64 (mnN f c e d q k)
def mnB (f : Int → Int) (c e : Int) (d : Nat) (q : Int) : Int → Prop := fun k => w64 (mnN f c e d q k) < w64 (w32 (bLow f e (Int.toNat (f (18 + e) - 1))) * ceX f c d q 2 k)
/-- a cell of a curve's own depth is clipped by another curve's band -/
def clM (f : Int → Int) (c e q : Int) : Prop := (∀ k, 0 ≤ k → k < f (18 + c) → mnA f c e (Int.toNat (f 3)) q k) ∨ ∀ k, 0 ≤ k → k < f (18 + c) → mnB f c e (Int.toNat (f 3)) q k
theorem cntQ_all {p : Int → Prop} : ∀ m : Nat, cntQ p m = m ↔ ∀ k : Int, 0 ≤ k → k < m → p k
  | 0 => ⟨fun _ k k0 k1 => by omega, fun _ => rfl⟩
  | m + 1 => by
    have ih := cntQ_all (p := p) m
    have b := cntQ_b p m
    by_cases z : p m
    · rw [cntQ_t0 z]
      constructor
      · intro h k k0 k1
        by_cases e : k = m
        · rw [e]; exact z
        · exact ih.mp (by omega) k k0 (by omega)
      · intro h
        have := ih.mpr (fun k k0 k1 => h k k0 (by omega))
        omega
    · rw [cntQ_f0 z]
      constructor
      · intro h; omega
      · intro h; exact absurd (h m (by omega) (by omega)) z
theorem cntQ_ex {p : Int → Prop} : ∀ m : Nat, 0 < cntQ p m ↔ ∃ k : Int, 0 ≤ k ∧ k < m ∧ p k
  | 0 => ⟨fun h => absurd h (Int.lt_irrefl 0), fun ⟨k, k0, k1, _⟩ => by omega⟩
  | m + 1 => by
    have ih := cntQ_ex (p := p) m
    have b := cntQ_b p m
    by_cases z : p m
    · rw [cntQ_t0 z]
      exact ⟨fun _ => ⟨m, by omega, by omega, z⟩, fun _ => by omega⟩
    · rw [cntQ_f0 z, ih]
      constructor
      · rintro ⟨k, k0, k1, hk⟩; exact ⟨k, k0, by omega, hk⟩
      · rintro ⟨k, k0, k1, hk⟩
        refine ⟨k, k0, ?_, hk⟩
        by_cases e : k = m
        · rw [e] at hk; exact absurd hk z
        · omega
theorem kid_b {P Q q b i : Int} (hP : Q = 2 * P) (P0 : 0 < P) (hb : b = 0 ∨ b = 1) (h : P * (2 * q + b) ≤ i ∧ i < P * (2 * q + b) + P) : Q * q ≤ i ∧ i < Q * q + Q := by
  subst hP
  have e : 2 * P * q = 2 * (P * q) := Int.mul_assoc _ _ _
  rcases hb with rfl | rfl
  · have e2 : P * (2 * q + 0) = 2 * (P * q) := by grind
    omega
  · have e2 : P * (2 * q + 1) = 2 * (P * q) + P := by grind
    omega
/-- pairs lie below the two cells that the search began at -/
theorem prF_rng {M : Int → Int → Int → Prop} {D i j : Int} : ∀ (m : Nat) (l q r : Int), 0 ≤ l → l ≤ D → prF M D m l q r i j → (p2 (D - l) * q ≤ i ∧ i < p2 (D - l) * q + p2 (D - l)) ∧ p2 (D - l) * r ≤ j ∧ j < p2 (D - l) * r + p2 (D - l)
  | 0, _, _, _, _, _, h => h.elim
  | m + 1, l, q, r, l0, l1, h => by
    unfold prF at h
    obtain ⟨_, h⟩ := h
    by_cases z : D ≤ l
    · rw [if_pos z] at h
      have e : p2 (D - l) = 1 := by rw [show D - l = 0 by omega]; rfl
      rw [e, h.1, h.2]
      omega
    · rw [if_neg z] at h
      have e : p2 (D - l) = 2 * p2 (D - (l + 1)) := by rw [show D - l = D - (l + 1) + 1 by omega, p2_s (by omega)]
      have P0 := @p2_pos (D - (l + 1))
      rcases h with h | h | h | h
      · have ih := prF_rng m _ _ _ (by omega) (by omega) h
        exact ⟨kid_b (b := 0) e P0 (Or.inl rfl) (by rw [Int.add_zero]; exact ih.1), kid_b (b := 0) e P0 (Or.inl rfl) (by rw [Int.add_zero]; exact ih.2)⟩
      · have ih := prF_rng m _ _ _ (by omega) (by omega) h
        exact ⟨kid_b (b := 0) e P0 (Or.inl rfl) (by rw [Int.add_zero]; exact ih.1), kid_b (b := 1) e P0 (Or.inr rfl) ih.2⟩
      · have ih := prF_rng m _ _ _ (by omega) (by omega) h
        exact ⟨kid_b (b := 1) e P0 (Or.inr rfl) ih.1, kid_b (b := 0) e P0 (Or.inl rfl) (by rw [Int.add_zero]; exact ih.2)⟩
      · have ih := prF_rng m _ _ _ (by omega) (by omega) h
        exact ⟨kid_b (b := 1) e P0 (Or.inr rfl) ih.1, kid_b (b := 1) e P0 (Or.inr rfl) ih.2⟩
theorem prX_rng {f : Int → Int} {c e D i j : Int} (D0 : 0 ≤ D) (h : prX f c e D i j) : (0 ≤ i ∧ i < p2 D) ∧ 0 ≤ j ∧ j < p2 D := by
  have a := prF_rng 7 0 0 0 (Int.le_refl 0) D0 h
  rw [Int.mul_zero, Int.sub_zero] at a
  omega
theorem near_cnt {f : Int → Int} {c o : Int} (h : fgOK f) : 0 < cntQ (prK f c o) (Int.toNat (p2 (f 3) * p2 (f 3))) ↔ ∃ ii jj, prX f c o (f 3) ii jj := by
  have q4 := h.2.1.2
  have sb := sq_b q4.1 q4.2
  rw [cntQ_ex]
  constructor
  · rintro ⟨k, _, _, hk⟩; exact ⟨_, _, hk⟩
  · rintro ⟨i, j, hp⟩
    have r := prX_rng (by omega) hp
    have b := ix_b r.1.1 r.1.2 r.2.1 r.2.2
    refine ⟨i * p2 (f 3) + j, b.1, by omega, ?_⟩
    unfold prK
    rw [ix_div r.2.1 r.2.2, ix_mod r.2.1 r.2.2]
    exact hp
theorem bitM_k : ∀ n : Fin 256, bitM (n.val : Int) = bitN (n.val : Int) := by decide +kernel
theorem bitM_N {v : Int} (h0 : 0 ≤ v) (h1 : v ≤ 255) : bitM v = bitN v := by
  have e := bitM_k ⟨v.toNat, by omega⟩
  rw [show (((⟨v.toNat, by omega⟩ : Fin 256).val : Nat) : Int) = v by show ((v.toNat : Nat) : Int) = v; omega] at e
  exact e
