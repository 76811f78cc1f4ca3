/-- growing one curve's cells leaves the others' as they were -/
theorem caOK_o {A B : AA} {c e : Int} (hF : grF A B c) (hne : e ≠ c) (h : caOK A e) : caOK B e := by
  obtain ⟨a1, a2, a3⟩ := h
  have b12 : B 12 e = A 12 e := hF 12 e (Or.inr (Or.inr (Or.inr ⟨Or.inl rfl, hne⟩)))
  have b13 : B 13 e = A 13 e := hF 13 e (Or.inr (Or.inr (Or.inr ⟨Or.inr rfl, hne⟩)))
  have P64 : p2 (A 13 e) ≤ 64 := by have := p2_le a2.2; rwa [p2_6] at this
  have h10 : ∀ i, e * 1524 ≤ i → i < e * 1524 + 1524 → B 10 i = A 10 i := fun i i0 i1 => hF 10 i (Or.inr (Or.inl ⟨rfl, by omega⟩))
  have h11 : ∀ i, e * 508 ≤ i → i < e * 508 + 508 → B 11 i = A 11 i := fun i i0 i1 => hF 11 i (Or.inr (Or.inr (Or.inl ⟨rfl, by omega⟩)))
  refine ⟨by rw [b12]; exact a1, by rw [b13]; exact a2, fun h1 => ?_⟩
  rw [b12] at h1
  have a4 := a3 h1
  refine ⟨fun w k w0 w1 k0 k1 => ?_, exOK_c (fun i i0 i1 => h10 i (by omega) (by omega)) (fun i i0 i1 => h11 i (by omega) (by omega)) b12 a1.2 a4.2.1, fun nd n1 n2 => ?_⟩
  · rw [b12] at k1
    rw [h10 _ (by omega) (by omega)]; exact a4.1 w k w0 w1 k0 k1
  · rw [b13] at n2
    exact ndOK_c2 (fun i i0 i1 => h10 i i0 (by omega)) (fun i i0 i1 => h11 i (by omega) (by omega)) b12 a1.2 n1 (a4.2.2 nd n1 n2)
theorem caAll_gr {A B : AA} {c D : Int} (hG : grQ A B c D) (h : caAll A) : caAll B := fun e e0 e1 => by
  by_cases q : e = c
  · rw [q]; exact hG.2.1
  · exact caOK_o hG.1 q (h e e0 e1)
theorem grQ_f {A B : AA} {c D : Int} (hG : grQ A B c D) : B 2 = A 2 := funext fun i => hG.1 2 i (Or.inl (by decide))
theorem qrP_gr {F G : FF} {A B : AA} {c D : Int} (hF : ∀ a b, a ≠ 24 → G a b = F a b) (hG : grQ A B c D) : qrP F G A B := ⟨fun a b h => hF a b (by omega), fun b i hb => hG.1 b i (Or.inl (by omega)), caAll_gr hG, r20_c (funext fun i => hG.1 20 i (Or.inl (by omega)))⟩
