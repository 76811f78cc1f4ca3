theorem fig_c {f r : Int → Int} (h : figR f) (hr : ∀ i, 0 ≤ i → i < 140 → r i = f i) : figR r := by
  have hh := h
  obtain ⟨⟨⟨hc, hl⟩, ⟨hs, hd⟩, hp, hv⟩, hln⟩ := hh
  refine fig_of h (hr 0 (by decide) (by decide)) (hr 1 (by decide) (by decide)) (by rw [hr 2 (by decide) (by decide)]; exact hs) (by rw [hr 3 (by decide) (by decide)]; exact hd) (fun e q0 q1 => ?_) (fun i i0 i1 => hr i (by omega) i1)
  have he := hp e q0 q1
  rw [hr (18 + e) (by omega) (by omega)]
  refine ⟨he.1, fun j j0 j1 => ?_⟩
  have hj := he.2 j j0 j1
  refine ⟨?_, ?_, ?_⟩
  · rw [px_i, hr _ (by omega) (by omega)]; exact hj.1
  · rw [px_i, hr _ (by omega) (by omega)]; exact hj.2.1
  · rw [px_i, hr _ (by omega) (by omega)]; exact hj.2.2
/-- what is fed, in both stores -/
theorem fd_R {A C : AA} {m : Int} {g : Int → Int} (m0 : 0 ≤ m) (h : byR (A 8) (C 26) m) : byR (setR A 8 m 20 g 8) (setR C 26 m 20 (fun k => g k % 256) 26) (m + 20) := fun i i0 i1 => by
  by_cases z : i < m
  · rw [setR_lt z, setR_lt z]; exact h i i0 z
  · rw [setR_in (by omega) (by omega), setR_in (by omega) (by omega)]
theorem fd_O {C : AA} {m : Int} {g : Int → Int} (h : byO (C 26)) : byO (setR C 26 m 20 (fun k => g k % 256) 26) := fun i i0 i1 => by
  by_cases z : m ≤ i ∧ i < m + 20
  · rw [setR_in z.1 (by omega)]
    omega
  · by_cases y : i < m
    · rw [setR_lt y]; exact h i i0 i1
    · rw [setR_ge (by omega)]; exact h i i0 i1
