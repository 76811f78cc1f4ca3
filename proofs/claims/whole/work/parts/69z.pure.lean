/-! the model's search for roots -/
def snP (A B : AA) (r : Int) (L : List RT) : Prop := (∀ b i, (b ≠ 32 ∧ b ≠ 34 ∧ b ≠ 35 ∧ b ≠ 36 ∧ b ≠ 37) ∨ ((b = 35 ∨ b = 36 ∨ b = 37) ∧ i < r) → B b i = A b i) ∧ rts (B 35) (B 36) (B 37) r L
theorem snP_trans {A B C : AA} {r r' : Int} {L M : List RT} (h1 : snP A B r L) (h2 : snP B C r' M) (hr : r' = r + L.length) : snP A C r (L ++ M) := by
  subst hr
  refine ⟨fun b i hb => ?_, (rts_app L M r).mpr ⟨rts_c L r (fun i i0 i1 => ⟨h2.1 35 i (Or.inr ⟨by decide, i1⟩), h2.1 36 i (Or.inr ⟨by decide, i1⟩), h2.1 37 i (Or.inr ⟨by decide, i1⟩)⟩) h1.2, h2.2⟩⟩
  rw [h2.1 b i (by omega), h1.1 b i hb]
theorem snP_lay {A B : AA} {r : Int} (h : ∀ b i, b ≠ 32 ∧ b ≠ 34 → B b i = A b i) : snP A B r [] := ⟨fun b i hb => h b i (by omega), trivial⟩
theorem snP_id {A : AA} {r : Int} : snP A A r [] := ⟨fun _ _ _ => rfl, trivial⟩
theorem snP_add {A : AA} {r k d q : Int} : snP A (upA (upA (upA A 35 r k) 36 r d) 37 r q) r [(k, d, q)] := by
  refine ⟨fun b i hb => ?_, ?_⟩
  · unfold upA
    rw [if_neg (by omega), if_neg (by omega), if_neg (by omega)]
  · refine ⟨?_, ?_, ?_, trivial⟩
    · rw [upA_k (by decide), upA_k (by decide), upA_s]
    · rw [upA_k (by decide), upA_s]
    · rw [upA_s]
theorem snP_f {A B : AA} {r : Int} {L : List RT} (h : snP A B r L) : mF B = mF A := mF_c (funext fun i => h.1 2 i (by omega)) (funext fun i => h.1 27 i (by omega)) (funext fun i => h.1 29 i (by omega))
theorem lay_f {A B : AA} (h : ∀ b i, b ≠ 32 ∧ b ≠ 34 → B b i = A b i) : mF B = mF A := mF_c (funext fun i => h 2 i (by omega)) (funext fun i => h 27 i (by omega)) (funext fun i => h 29 i (by omega))
theorem cc0 {f : Int → Int} {c l d q : Int} (h : 0 ≤ d) : ccX f c l (Int.toNat (d + 1)) (2 * q) = hv (ccX f c l (Int.toNat d) q) (f (18 + c) - 1) 0 := by
  rw [show Int.toNat (d + 1) = Int.toNat d + 1 by omega, ccX_s, show 2 * q / 2 = q by omega, show 2 * q % 2 = 0 by omega]
theorem cc1 {f : Int → Int} {c l d q : Int} (h : 0 ≤ d) : ccX f c l (Int.toNat (d + 1)) (2 * q + 1) = hv (ccX f c l (Int.toNat d) q) (f (18 + c) - 1) 1 := by
  rw [show Int.toNat (d + 1) = Int.toNat d + 1 by omega, ccX_s, show (2 * q + 1) / 2 = q by omega, show (2 * q + 1) % 2 = 1 by omega]
/-- what the model's search finds below a cell -/
def smL (f : Int → Int) (c l : Int) (m : Nat) (d q : Int) : List RT := srch (f (18 + c) - 1) (f 2) m (ccX f c l (Int.toNat d) q) d q
theorem smL_s3 {f : Int → Int} {c l d q : Int} {m : Nat} (hd : 0 ≤ d) (h : ¬ chg (ccX f c l (Int.toNat d) q) (Int.toNat (f (18 + c) - 1 + 1)) = 0) (h1 : ¬ chg (ccX f c l (Int.toNat d) q) (Int.toNat (f (18 + c) - 1 + 1)) = 1) (h2 : ¬ f 2 ≤ d) : smL f c l (m + 1) d q = smL f c l m (d + 1) (2 * q) ++ ((if w64 (ccX f c l (Int.toNat (d + 1)) (2 * q + 1) 0) = 0 then [(0, d + 1, 2 * q + 1)] else []) ++ smL f c l m (d + 1) (2 * q + 1)) := by
  unfold smL
  rw [srch_s3 h h1 h2, cc0 hd, cc1 hd]
theorem smL_rt {f : Int → Int} {c l : Int} (h : ¬ azP (cfL f c l) (Int.toNat (f (18 + c) - 1 + 1))) : rtsX f c l = (if w64 (cfL f c l 0) = 0 then [(0, 0, 0)] else []) ++ (smL f c l 13 0 0 ++ (if w64 (cfL f c l (f (18 + c) - 1)) = 0 then [(0, 0, 1)] else [])) := by
  unfold rtsX rootsL smL
  rw [if_neg h]; rfl
