theorem firstk_c {p q : Nat → Bool} {n : Nat} (h : ∀ j, j < n → p j = q j) : firstk p n = firstk q n := by
  have e : (List.range n).find? p = (List.range n).find? q := by
    have : ∀ L : List Nat, (∀ x ∈ L, x < n) → L.find? p = L.find? q := by
      intro L
      induction L with
      | nil => intro _; rfl
      | cons x L ih =>
        intro hx
        rw [List.find?_cons, List.find?_cons, h x (hx x List.mem_cons_self), ih (fun y hy => hx y (List.mem_cons_of_mem _ hy))]
    exact this _ (fun x hx => List.mem_range.mp hx)
  unfold firstk; rw [e]
/-- the same search in told names -/
theorem fnd_C {A : AA} {v : Int} (h : mF A 0 ≤ 8) (h0 : 0 ≤ mF A 0) : firstk (fun jj => decide (w32 (A 27 (0 + jj)) = w32 v)) (Int.toNat (A 27 14)) = firstk (fun jj => decide (w32 (fat (mF A) (4 + jj)) = w32 v)) (Int.toNat (mF A 0)) := by
  rw [← mF_0 (A := A)]
  refine firstk_c (fun j hj => ?_)
  rw [fat_in (by omega) (by omega), mF_cn (by omega) (by omega)]
theorem fnd_L {A : AA} {v : Int} (h : mF A 1 ≤ 6) (h0 : 0 ≤ mF A 1) : firstk (fun jj => decide (w32 (A 27 (8 + jj)) = w32 v)) (Int.toNat (A 27 15)) = firstk (fun jj => decide (w32 (fat (mF A) (12 + jj)) = w32 v)) (Int.toNat (mF A 1)) := by
  rw [← mF_1 (A := A)]
  refine firstk_c (fun j hj => ?_)
  rw [fat_in (by omega) (by omega), mF_ln (by omega) (by omega)]
