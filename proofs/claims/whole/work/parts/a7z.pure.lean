/-! whole texts -/
theorem rdA_S {T : Int → Int} {n : Int} (hn : 0 ≤ n) (h8 : n ≤ 800) : ∀ (m k : Nat) (cnt x g : Int) (t : TK) (f : Int → Int) (s : PS) (A : AA), n - t.1 < (m : Int) → n - s.2.2.1 < (k : Int) → byR T (A 26) n → s.1 = 0 → tkR (A 26) t s.2.2 → psOK n s → (∀ i, 0 ≤ i → i < 140 → f i = mF A i) → ctM A → (0 ≤ g ∧ g ≤ 3) → 0 ≤ cnt →
    (0 ≤ (rdA T n m cnt t f g).1 → (ldM n k (s, x, g, cnt, A)).1.1 = 0 ∧ (ldM n k (s, x, g, cnt, A)).2.2.2.1 = (rdA T n m cnt t f g).1 ∧ ∀ i, 0 ≤ i → i < 140 → (rdA T n m cnt t f g).2.2.1 i = mF (ldM n k (s, x, g, cnt, A)).2.2.2.2 i) ∧
    ((rdA T n m cnt t f g).1 < 0 → (ldM n k (s, x, g, cnt, A)).1.1 = (rdA T n m cnt t f g).1 ∧ (ldM n k (s, x, g, cnt, A)).1.2.1 = (rdA T n m cnt t f g).2.1.1) := by
  intro m
  induction m with
  | zero =>
    intro k cnt x g t f s A hm hk hU h hr hs hf ct hg hc
    have e := hr.1.1
    have b := hs.2.2.1
    omega
  | succ m ih =>
    intro k cnt x g t f s A hm hk hU h hr hs hf ct hg hc
    have e := hr.1.1
    have b := hs.2.2.1
    have p := hs.2.2.2.1
    have k5 := hr.2.2.2.2.1
    obtain ⟨j, rfl⟩ : ∃ j : Nat, k = j + 1 := ⟨k - 1, by omega⟩
    have eR : rdA T n (m + 1) cnt t f g = if t.2.2.1 = 5 then (cnt, t, f, g) else if (rdT T n t f g).1 = 0 then rdA T n m (cnt + 1) (rdT T n t f g).2.1 (rdT T n t f g).2.2.1 (rdT T n t f g).2.2.2 else rdT T n t f g := rfl
    have eM : ldM n (j + 1) (s, x, g, cnt, A) = if s.1 = 0 ∧ ¬ s.2.2.2.2.1 = 3 then ldM n j (stS2 A n g s, stN A n x s, stG A n g s, cnt + 1, stA A n g s) else (s, x, g, cnt, A) := rfl
    rw [eR, eM]
    by_cases z : t.2.2.1 = 5
    · rw [if_pos z, if_neg (fun y => y.2 (k5.mp z))]
      exact ⟨fun _ => ⟨h, rfl, hf⟩, fun y => absurd y (by show ¬ cnt < 0; omega)⟩
    · have z3 : ¬ s.2.2.2.2.1 = 3 := fun y => z (k5.mpr y)
      rw [if_neg z, if_pos (show s.1 = 0 ∧ ¬ s.2.2.2.2.1 = 3 from ⟨h, z3⟩)]
      obtain ⟨X, Y⟩ := rdT_S hU h hr (by show 0 ≤ s.2.2.2.1; omega) hf ct hg
      have ok := stS2_ok (A := A) (g := g) hs hn h8
      by_cases y : (rdT T n t f g).1 = 0
      · rw [if_pos y]
        obtain ⟨a1, a2, a3⟩ := X.1 y
        have pl : s.2.2.2.1 ≤ (stS2 A n g s).2.2.1 := stS2_pl a1
        have nx := hs.2.2.2.2.2.1 z3
        have pe := a2.1.1
        obtain ⟨y1, y2⟩ := Y y
        rw [← y2]
        refine ih j (cnt + 1) (stN A n x s) _ _ _ _ _ (by omega) (by omega) ?_ a1 ?_ ok y1 (stA_ct ct) (by rw [y2]; exact stG_b hg) (by omega)
        · rw [stA_26]; exact hU
        · rw [stA_26]; exact a2
      · rw [if_neg y]
        have q := X.2 y
        have ne : ¬ (stS2 A n g s).1 = 0 := by rw [q.1]; exact y
        have oe := ok.1
        have st : ldM n j (stS2 A n g s, stN A n x s, stG A n g s, cnt + 1, stA A n g s) = (stS2 A n g s, stN A n x s, stG A n g s, cnt + 1, stA A n g s) := ldM_n (fun w => ne w.1)
        rw [st]
        refine ⟨fun w => ?_, fun _ => q⟩
        have q1 := q.1
        omega
/-- the new figures of both -/
theorem em_ld {A : AA} {f : Int → Int} : ∀ i, 0 ≤ i → i < 140 → emR f i = mF (ldA1 A) i := fun i i0 i1 => by
  have e27 : ∀ j : Int, 0 ≤ j → j < 16 → ldA1 A 27 j = 0 := fun j h0 h1 => by
    unfold ldA1
    rw [setR_o (by decide), setR_in h0 (by omega)]
  have e29 : ∀ j : Int, 0 ≤ j → j < 124 → ldA1 A 29 j = if j = 122 then 10 else if j = 123 then 4 else 0 := fun j h0 h1 => by
    unfold ldA1
    rw [setR_in h0 (by omega), Int.sub_zero]
  unfold emR mF
  by_cases w3 : i = 3
  · rw [w3, up1_s]; exact (e29 123 (by decide) (by decide)).symm
  · rw [up1_o w3]
    by_cases w2 : i = 2
    · rw [w2, up1_s]; exact (e29 122 (by decide) (by decide)).symm
    · rw [up1_o w2]
      rw [if_pos (show 0 ≤ i ∧ i < 140 from ⟨i0, i1⟩)]
      by_cases h0 : i = 0
      · rw [if_pos h0, e27 14 (by decide) (by decide)]
      · rw [if_neg h0]
        by_cases h1 : i = 1
        · rw [if_pos h1, e27 15 (by decide) (by decide)]
        · rw [if_neg h1, if_neg (show ¬ (2 ≤ i ∧ i < 4) by omega)]
          by_cases h3 : 4 ≤ i ∧ i < 12
          · rw [if_pos h3, e27 (i - 4) (by omega) (by omega)]
          · rw [if_neg h3]
            by_cases h4 : 12 ≤ i ∧ i < 18
            · rw [if_pos h4, e27 (8 + (i - 12)) (by omega) (by omega)]
            · rw [if_neg h4]
              by_cases h5 : 18 ≤ i ∧ i < 26
              · rw [if_pos h5, e29 (13 * (i - 18)) (by omega) (by omega), if_neg (by omega), if_neg (by omega)]
              · rw [if_neg h5]
                by_cases h6 : 26 ≤ i ∧ i < 122
                · rw [if_pos h6, e29 (13 * ((i - 26) / 12) + 1 + (i - 26) % 12) (by omega) (by omega), if_neg (by omega), if_neg (by omega)]
                · rw [if_neg h6, if_pos (show 122 ≤ i ∧ i < 140 by omega), e29 (104 + (i - 122)) (by omega) (by omega), if_neg (by omega), if_neg (by omega)]
/-- load: the class's result and the model's -/
theorem ld_S {A : AA} {F : FF} {n : Int} (hn : 0 ≤ n) (h8 : n ≤ 800) (hU : byR (A 8) (A 26) n) (h3 : 0 ≤ F 25 27 ∧ F 25 27 ≤ 800) (h4 : -1 ≤ F 25 24 ∧ F 25 24 ≤ 2000000) :
    (0 ≤ (ldR A F n).1 → (ldT F A n).1.1 = 0 ∧ (ldT F A n).2.2.2.1 = (ldR A F n).1 ∧ ∀ i, 0 ≤ i → i < 140 → (ldR A F n).2.2.1 i = mF (ldT F A n).2.2.2.2 i) ∧
    ((ldR A F n).1 < 0 → (ldT F A n).1.1 = (ldR A F n).1 ∧ (ldT F A n).1.2.1 = (ldR A F n).2.1.1) := by
  have ok := ld0_ok (F := F) (A := A) hn h8 h3 h4
  have hr : tkR (A 26) (adF (A 8) n 0 (F 7 6)) (ld0 F A n).1.2.2 := nx_R (t := (0, 0, 0, F 7 6)) (u := (F 25 22, 0, F 25 23, F 25 24)) hU (Int.le_refl 0) rfl
  have e := hr.1.1
  have b := ok.2.2.1
  exact rdA_S hn h8 801 (Int.toNat (n + 3)) 0 (F 25 25) 0 _ _ (ld0 F A n).1 (ldA1 A) (by omega) (by omega) (by rw [ldA1_26]; exact hU) rfl (by rw [ldA1_26]; exact hr) ok em_ld ldA1_ct (by decide) (Int.le_refl 0)
