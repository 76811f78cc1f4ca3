/-! what laying the roots leaves -/
def roP (F G : FF) (A B : AA) (c l : Int) : Prop := snP A B 0 (rtsX (mF A) c l) ∧ (∀ a b, a ≠ 25 ∨ b ≠ 12 → G a b = F a b) ∧ G 25 12 = ((rtsX (mF A) c l).length : Int)
theorem roP_q {F G : FF} {A B : AA} {c l : Int} (h : roP F G A B c l) : qdP F G A B := ⟨fun a b hab => h.2.1 a b (by omega), fun b i hb => h.1.1 b i (Or.inl (by omega))⟩
theorem roP_f {F G : FF} {A B : AA} {c l : Int} (h : roP F G A B c l) : mF B = mF A := snP_f h.1
theorem roP_k {F G : FF} {A B : AA} {c l : Int} (h : roP F G A B c l) : ∀ i, 0 ≤ i → i < G 25 12 → -1 ≤ B 35 i ∧ B 35 i ≤ 3 := by
  intro i i0 i1
  rw [h.2.2] at i1
  rw [(rts_get h.1.2 i0 i1).1, List.getD_eq_getElem?_getD, List.getElem?_eq_getElem (by omega)]
  have := rootsL_k (List.getElem_mem (l := rtsX (mF A) c l) (n := i.toNat) (by omega))
  simp only [Option.getD_some]
  omega
theorem roP_cnt {F G : FF} {A B : AA} {c l k : Int} (h : roP F G A B c l) : cntK (B 35) k (Int.toNat (G 25 12)) = cntK (ktF (rtsX (mF A) c l)) k (rtsX (mF A) c l).length := by
  rw [h.2.2, show Int.toNat ((rtsX (mF A) c l).length : Int) = (rtsX (mF A) c l).length by omega]
  refine cntK_c _ (fun j hj => ?_)
  rw [(rts_get h.1.2 (k := j) (by omega) (by omega)).1]; rfl
theorem rts_on {f : Int → Int} {c l : Int} (hs : 2 ≤ f (18 + c)) (h : azP (cfL f c l) (Int.toNat (f (18 + c)))) : rtsX f c l = [] := by
  unfold rtsX rootsL
  exact if_pos (by rw [show f (18 + c) - 1 + 1 = f (18 + c) by omega]; exact h)
theorem cf_0 {f : Int → Int} {c l k : Int} : w64 (cfL f c l k) = 0 ↔ w32 (cfR f c l k) = 0 := by
  show w64 (w32 (cfR f c l k)) = 0 ↔ _
  rw [w64_w32]
theorem sure_on {f : Int → Int} {c l : Int} (hs : 2 ≤ f (18 + c)) (h : azP (cfL f c l) (Int.toNat (f (18 + c)))) : sureF f c l = 0 := by
  unfold sureF; rw [rts_on hs h]; rfl
