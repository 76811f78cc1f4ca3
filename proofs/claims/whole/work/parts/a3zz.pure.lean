theorem runL_lt (T : Int → Int) (n : Int) : ∀ (m : Nat) (p : Int) (k : Nat), (k : Int) < runL T n m p - p → ltP (sgT T n (p + k))
  | 0, p, k, h => by unfold runL at h; omega
  | m + 1, p, k, h => by
    unfold runL at h
    split at h
    · rename_i hd
      match k with
      | 0 => simpa using hd
      | k + 1 =>
        have := runL_lt T n m (p + 1) k (by omega)
        rw [show p + ((k + 1 : Nat) : Int) = p + 1 + k by omega]; exact this
    · omega
/-- the packed letters of the class, by their number -/
theorem ltF_S {T : Int → Int} {n p : Int} {L : Int → Int} (h : ∀ k, 0 ≤ k → k < 6 → 0 ≤ L k ∧ L k < 27) : ∀ m : Nat, m ≤ 6 → (∀ k : Nat, k < m → sgT T n (p + k) - 97 + 1 = L k) → ltF T n p m = (if 0 < m then L 0 * 33554432 else 0) + (if 1 < m then L 1 * 1048576 else 0) + (if 2 < m then L 2 * 32768 else 0) + (if 3 < m then L 3 * 1024 else 0) + (if 4 < m then L 4 * 32 else 0) + (if 5 < m then L 5 else 0)
  | 0, _, _ => rfl
  | m + 1, hm, e => by
    have l0 := h 0 (by decide) (by decide); have l1 := h 1 (by decide) (by decide); have l2 := h 2 (by decide) (by decide)
    have l3 := h 3 (by decide) (by decide); have l4 := h 4 (by decide) (by decide); have l5 := h 5 (by decide) (by decide)
    have ih := ltF_S h m (by omega) (fun k hk => e k (by omega))
    have em := e m (by omega)
    have st : ltF T n p (m + 1) = x_or (ltF T n p m) (x_shl (L m) (5 * (5 - m))) := by
      conv => lhs; unfold ltF
      rw [if_pos (by omega), em]
    rw [st, ih]
    clear st ih em
    match m, hm with
    | 0, _ =>
      show x_or 0 (x_shl (L 0) 25) = _
      rw [sh25 l0.1 (by omega)]
      have f := x_or_add (a := 0) (b := L 0 * 33554432) 30 (by decide) (by decide) (by decide) (by omega) (by show L 0 * 33554432 < 1073741824; omega) (by omega)
      rw [f]
      show _ = L 0 * 33554432 + 0 + 0 + 0 + 0 + 0
      omega
    | 1, _ =>
      show x_or (L 0 * 33554432 + 0 + 0 + 0 + 0 + 0) (x_shl (L 1) 20) = L 0 * 33554432 + L 1 * 1048576 + 0 + 0 + 0 + 0
      rw [sh20 l1.1 (by omega)]
      have f := x_or_add (a := L 0 * 33554432 + 0 + 0 + 0 + 0 + 0) (b := L 1 * 1048576) 25 (by decide) (by omega) (by show (L 0 * 33554432 + 0 + 0 + 0 + 0 + 0) % 33554432 = 0; omega) (by omega) (by show L 1 * 1048576 < 33554432; omega) (by omega)
      rw [f]; omega
    | 2, _ =>
      show x_or (L 0 * 33554432 + L 1 * 1048576 + 0 + 0 + 0 + 0) (x_shl (L 2) 15) = L 0 * 33554432 + L 1 * 1048576 + L 2 * 32768 + 0 + 0 + 0
      rw [sh15 l2.1 (by omega)]
      have f := x_or_add (a := L 0 * 33554432 + L 1 * 1048576 + 0 + 0 + 0 + 0) (b := L 2 * 32768) 20 (by decide) (by omega) (by show (L 0 * 33554432 + L 1 * 1048576 + 0 + 0 + 0 + 0) % 1048576 = 0; omega) (by omega) (by show L 2 * 32768 < 1048576; omega) (by omega)
      rw [f]; omega
    | 3, _ =>
      show x_or (L 0 * 33554432 + L 1 * 1048576 + L 2 * 32768 + 0 + 0 + 0) (x_shl (L 3) 10) = L 0 * 33554432 + L 1 * 1048576 + L 2 * 32768 + L 3 * 1024 + 0 + 0
      rw [sh10 l3.1 (by omega)]
      have f := x_or_add (a := L 0 * 33554432 + L 1 * 1048576 + L 2 * 32768 + 0 + 0 + 0) (b := L 3 * 1024) 15 (by decide) (by omega) (by show (L 0 * 33554432 + L 1 * 1048576 + L 2 * 32768 + 0 + 0 + 0) % 32768 = 0; omega) (by omega) (by show L 3 * 1024 < 32768; omega) (by omega)
      rw [f]; omega
    | 4, _ =>
      show x_or (L 0 * 33554432 + L 1 * 1048576 + L 2 * 32768 + L 3 * 1024 + 0 + 0) (x_shl (L 4) 5) = L 0 * 33554432 + L 1 * 1048576 + L 2 * 32768 + L 3 * 1024 + L 4 * 32 + 0
      rw [sh5 l4.1 (by omega)]
      have f := x_or_add (a := L 0 * 33554432 + L 1 * 1048576 + L 2 * 32768 + L 3 * 1024 + 0 + 0) (b := L 4 * 32) 10 (by decide) (by omega) (by show (L 0 * 33554432 + L 1 * 1048576 + L 2 * 32768 + L 3 * 1024 + 0 + 0) % 1024 = 0; omega) (by omega) (by show L 4 * 32 < 1024; omega) (by omega)
      rw [f]; omega
    | 5, _ =>
      show x_or (L 0 * 33554432 + L 1 * 1048576 + L 2 * 32768 + L 3 * 1024 + L 4 * 32 + 0) (x_shl (L 5) 0) = L 0 * 33554432 + L 1 * 1048576 + L 2 * 32768 + L 3 * 1024 + L 4 * 32 + L 5
      rw [sh0 l5.1 (by omega)]
      have f := x_or_add (a := L 0 * 33554432 + L 1 * 1048576 + L 2 * 32768 + L 3 * 1024 + L 4 * 32 + 0) (b := L 5) 5 (by decide) (by omega) (by show (L 0 * 33554432 + L 1 * 1048576 + L 2 * 32768 + L 3 * 1024 + L 4 * 32 + 0) % 32 = 0; omega) (by omega) (by show L 5 < 32; omega) (by omega)
      rw [f]; omega
/-- a word's letters, both ways -/
theorem wd_S {T U : Int → Int} {n p e : Int} (hU : byR T U n) (he : e ≤ n) (p0 : 0 ≤ p) (h6 : e - p ≤ 6) (pe : p ≤ e) (hl : ∀ k : Nat, (k : Int) < e - p → ltP (sgT T n (p + k))) : (∀ k, 0 ≤ k → k < 6 → 0 ≤ leF U p e k ∧ leF U p e k < 27 ∧ (leF U p e k = 0 ↔ e ≤ p + k)) ∧ ltF T n p (Int.toNat (e - p)) = pkS U p e := by
  have hk : ∀ k : Nat, (k : Int) < e - p → U (p + k) = sgT T n (p + k) := fun k hk => by
    rw [hU _ (by omega) (by omega)]
    unfold sgT
    rw [if_pos ⟨by omega, by omega⟩]
  have hL : ∀ k, 0 ≤ k → k < 6 → 0 ≤ leF U p e k ∧ leF U p e k < 27 ∧ (leF U p e k = 0 ↔ e ≤ p + k) := fun k k0 k1 => by
    obtain ⟨j, rfl⟩ : ∃ j : Nat, k = j := ⟨k.toNat, by omega⟩
    unfold leF
    by_cases z : p + j < e
    · have a := hk j (by omega)
      have b := hl j (by omega)
      rw [if_pos z, a]; omega
    · rw [if_neg z]; omega
  refine ⟨hL, ?_⟩
  have s := ltF_S (T := T) (n := n) (p := p) (L := leF U p e) (fun k k0 k1 => ⟨(hL k k0 k1).1, (hL k k0 k1).2.1⟩) (Int.toNat (e - p)) (by omega) (fun k hk2 => by
    unfold leF
    rw [if_pos (by omega), hk k (by omega)])
  rw [s]
  have z0 := (hL 0 (by decide) (by decide)).2.2; have z1 := (hL 1 (by decide) (by decide)).2.2; have z2 := (hL 2 (by decide) (by decide)).2.2
  have z3 := (hL 3 (by decide) (by decide)).2.2; have z4 := (hL 4 (by decide) (by decide)).2.2; have z5 := (hL 5 (by decide) (by decide)).2.2
  unfold pkS
  rcases (show e - p = 0 ∨ e - p = 1 ∨ e - p = 2 ∨ e - p = 3 ∨ e - p = 4 ∨ e - p = 5 ∨ e - p = 6 by omega) with q | q | q | q | q | q | q <;> rw [q]
  · show (0 : Int) + 0 + 0 + 0 + 0 + 0 = _
    omega
  · show leF U p e 0 * 33554432 + 0 + 0 + 0 + 0 + 0 = _
    omega
  · show leF U p e 0 * 33554432 + leF U p e 1 * 1048576 + 0 + 0 + 0 + 0 = _
    omega
  · show leF U p e 0 * 33554432 + leF U p e 1 * 1048576 + leF U p e 2 * 32768 + 0 + 0 + 0 = _
    omega
  · show leF U p e 0 * 33554432 + leF U p e 1 * 1048576 + leF U p e 2 * 32768 + leF U p e 3 * 1024 + 0 + 0 = _
    omega
  · show leF U p e 0 * 33554432 + leF U p e 1 * 1048576 + leF U p e 2 * 32768 + leF U p e 3 * 1024 + leF U p e 4 * 32 + 0 = _
    omega
  · rfl
