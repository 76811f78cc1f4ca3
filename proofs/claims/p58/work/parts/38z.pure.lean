theorem qrP_gs {F G H : FF} {A B C : AA} (h : qrP F H A C) (g : gsF H G C B) (hr : r20 B) : qrP F G A B := qrP_trans h ⟨fun a b hb => g.2 a b (by omega), fun b i hb => g.1 b i (by omega), fun hc => caAll_c (funext fun i => g.1 10 i (by decide)) (funext fun i => g.1 11 i (by decide)) (funext fun i => g.1 12 i (by decide)) (funext fun i => g.1 13 i (by decide)) hc, fun _ => hr⟩
theorem grpF_b (S : Int) (s : BS) : ∀ n : Nat, 0 ≤ (grpF S s n).2 ∧ (grpF S s n).2 ≤ n
  | 0 => ⟨Int.le_refl 0, Int.le_refl 0⟩
  | n + 1 => by
    have a := grpF_b S s n
    unfold grpF
    split
    · show 0 ≤ (grpF S s n).2 + 1 ∧ (grpF S s n).2 + 1 ≤ _; omega
    · omega
/-- the groups of the pairs of two curves -/
def gqP (F G H : FF) (A B C : AA) (c e : Int) : Prop := qrP F G A B ∧ mkP F H A C c e (A 2 3) ∧ B 20 = (grpF (p2 (A 2 3)) (C 20, C 21, H 19 2) (Int.toNat (p2 (A 2 3) * p2 (A 2 3)))).1.1
def gqN (H : FF) (C : AA) (D : Int) : Int := (grpF (p2 D) (C 20, C 21, H 19 2) (Int.toNat (p2 D * p2 D))).2
theorem gqN_b {H : FF} {C : AA} {D : Int} (D6 : D ≤ 6) : 0 ≤ gqN H C D ∧ gqN H C D ≤ 4096 := by
  have P : 1 ≤ p2 D ∧ p2 D ≤ 64 := ⟨p2_pos, by have := p2_le D6; rwa [p2_6] at this⟩
  have S := sq64 (by omega) P.2
  have := grpF_b (p2 D) (C 20, C 21, H 19 2) (Int.toNat (p2 D * p2 D))
  unfold gqN
  omega
