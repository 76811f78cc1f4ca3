/-! cells that a band clips: the class's against the model's -/
theorem cl_iff {G : FF} {B : AA} {f : Int → Int} {c e q : Int} (hf : fgOK f) (c0 : 0 ≤ c) (cn : c < f 0) (h2 : B 2 = f) (hb : bnP G f e) (h : caOK B c) (hE : pltE B c (f 3)) (q0 : 0 ≤ q) (q1 : q < p2 (f 3)) : clP G B c (p2 (f 3) - 1 + q) (B 12 c) ↔ clM f c e q := by
  obtain ⟨hn, -⟩ := hf.2.2.1 c c0 cn
  have h12 : B 12 c = f (18 + c) - 1 := by rw [← h2]; exact hE.1
  have cell : ∀ w k, 0 ≤ w → w ≤ 2 → 0 ≤ k → k < f (18 + c) → B 10 (((c * 127 + (p2 (f 3) - 1 + q)) * 3 + w) * 4 + k) = ceX f c (Int.toNat (f 3)) q w k := fun w k w0 w1 k0 k1 => by
    have a := nd_cell' h hE (by rw [h2]; omega) (show 0 ≤ f 3 by have := hf.2.1.2; omega) (Int.le_refl _) q0 q1 w0 w1 k0 (by rw [h2]; exact k1)
    rw [h2] at a
    exact a
  obtain ⟨b0, b1, b2, b3, b4, b5⟩ := hb
  have eN : ∀ k, 0 ≤ k → k < f (18 + c) → clN G B c (p2 (f 3) - 1 + q) k = mnN f c e (Int.toNat (f 3)) q k := fun k k0 k1 => by
    unfold clN mnN
    rw [cell 0 k (by decide) (by decide) k0 k1, cell 1 k (by decide) (by decide) k0 k1, cell 2 k (by decide) (by decide) k0 k1, b0, b1, b2, b3]
    rfl
  have eA : ∀ k, 0 ≤ k → k < f (18 + c) → (clA G B c (p2 (f 3) - 1 + q) k ↔ mnA f c e (Int.toNat (f 3)) q k) := fun k k0 k1 => by
    unfold clA mnA
    rw [eN k k0 k1, cell 2 k (by decide) (by decide) k0 k1, b5]
  have eB : ∀ k, 0 ≤ k → k < f (18 + c) → (clB G B c (p2 (f 3) - 1 + q) k ↔ mnB f c e (Int.toNat (f 3)) q k) := fun k k0 k1 => by
    unfold clB mnB
    rw [eN k k0 k1, cell 2 k (by decide) (by decide) k0 k1, b4]
  unfold clP clM
  rw [h12]
  constructor
  · rintro (z | z)
    · exact Or.inl fun k k0 k1 => (eA k k0 k1).mp (z k k0 (by omega))
    · exact Or.inr fun k k0 k1 => (eB k k0 k1).mp (z k k0 (by omega))
  · rintro (z | z)
    · exact Or.inl fun k k0 k1 => (eA k k0 (by omega)).mpr (z k k0 (by omega))
    · exact Or.inr fun k k0 k1 => (eB k k0 (by omega)).mpr (z k k0 (by omega))
theorem firI_c {p r : Int → Prop} : ∀ (m : Nat) (k : Int), (∀ j, k ≤ j → j < k + m → (p j ↔ r j)) → firI p m k = firI r m k
  | 0, _, _ => rfl
  | m + 1, k, h => by
    have ih := firI_c m (k + 1) (fun j j0 j1 => h j (by omega) (by omega))
    have e := h k (Int.le_refl _) (by omega)
    unfold firI
    rw [ih]
    by_cases z : p k
    · rw [if_pos z, if_pos (e.mp z)]
    · rw [if_neg z, if_neg (fun y => z (e.mpr y))]
theorem lasI_c {p r : Int → Prop} : ∀ (m : Nat), (∀ j, 0 ≤ j → j < (m : Int) → (p j ↔ r j)) → lasI p m = lasI r m
  | 0, _ => rfl
  | m + 1, h => by
    have ih := lasI_c m (fun j j0 j1 => h j j0 (by omega))
    have e := h m (by omega) (by omega)
    unfold lasI
    rw [ih]
    by_cases z : p m
    · rw [if_pos z, if_pos (e.mp z)]
    · rw [if_neg z, if_neg (fun y => z (e.mpr y))]
theorem fir_cl {G : FF} {B : AA} {f : Int → Int} {c e : Int} (hf : fgOK f) (c0 : 0 ≤ c) (cn : c < f 0) (h2 : B 2 = f) (hb : bnP G f e) (h : caOK B c) (hE : pltE B c (f 3)) : firI (fun jj => ¬ clP G B c (p2 (f 3) - 1 + jj) (B 12 c)) (Int.toNat (p2 (f 3))) 0 = firI (fun jj => ¬ clM f c e jj) (Int.toNat (p2 (f 3))) 0 := by
  have p0 := @p2_pos (f 3)
  exact firI_c _ _ (fun j j0 j1 => by rw [cl_iff hf c0 cn h2 hb h hE j0 (by omega)])
theorem las_cl {G : FF} {B : AA} {f : Int → Int} {c e : Int} (hf : fgOK f) (c0 : 0 ≤ c) (cn : c < f 0) (h2 : B 2 = f) (hb : bnP G f e) (h : caOK B c) (hE : pltE B c (f 3)) : lasI (fun jj => ¬ clP G B c (p2 (f 3) - 1 + jj) (B 12 c)) (Int.toNat (p2 (f 3))) = lasI (fun jj => ¬ clM f c e jj) (Int.toNat (p2 (f 3))) := by
  have p0 := @p2_pos (f 3)
  exact lasI_c _ (fun j j0 j1 => by rw [cl_iff hf c0 cn h2 hb h hE j0 (by omega)])
