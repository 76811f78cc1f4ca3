/-! changes: both histories -/
theorem hs_new {F H : FF} {A C : AA} {m d : Int} (hd : 0 ≤ d) (hm : 0 ≤ m ∧ m + d ≤ F 5 2) (hH : H 5 2 = m + 1) (h : hsE F A) (hA : A 2 = mF A ∧ figR (A 2)) (h27 : C 27 = A 27)
    (hk : ∀ k, 0 ≤ k → k < m → (∀ i, 0 ≤ i → i < 140 → hcR H C k i = hcR F A (k + d) i) ∧ ∀ j, 0 ≤ j → j < 124 → C 31 (124 * k + j) = A 31 (124 * (k + d) + j))
    (hn : (∀ i, 0 ≤ i → i < 140 → hcR H C m i = A 2 i) ∧ ∀ j, 0 ≤ j → j < 124 → C 31 (124 * m + j) = A 29 j) : hsE H C := fun k k0 k1 => by
  rw [hH] at k1
  by_cases z : k < m
  · obtain ⟨e1, e2⟩ := hk k k0 z
    obtain ⟨a, b⟩ := h (k + d) (by omega) (by omega)
    refine ⟨fig_c a e1, fun i i0 i1 => ?_⟩
    rw [e1 i i0 i1, b i i0 i1]
    exact (mF_i (fun j _ _ => by rw [hmA_o (by decide), hmA_o (by decide), h27]) (fun j j0 j1 => by rw [hmA_29, hmA_29, e2 j j0 j1]) i0 i1).symm
  · obtain rfl : k = m := by omega
    obtain ⟨e1, e2⟩ := hn
    refine ⟨fig_c hA.2 e1, fun i i0 i1 => ?_⟩
    rw [e1 i i0 i1, hA.1]
    exact (mF_i (fun j _ _ => by rw [hmA_o (by decide), h27]) (fun j j0 j1 => by rw [hmA_29, e2 j j0 j1]) i0 i1).symm
theorem kA_6 {F : FF} {A : AA} {j : Int} : kA F A 6 j = if (if F 5 2 = 10 then (F 5 1 + 1) % 10 + 9 else F 5 1 + F 5 2) % 10 * 140 ≤ j ∧ j < (if F 5 2 = 10 then (F 5 1 + 1) % 10 + 9 else F 5 1 + F 5 2) % 10 * 140 + 140 then A 2 (j - (if F 5 2 = 10 then (F 5 1 + 1) % 10 + 9 else F 5 1 + F 5 2) % 10 * 140) else A 6 j := by
  unfold kA setR
  by_cases z : (if F 5 2 = 10 then (F 5 1 + 1) % 10 + 9 else F 5 1 + F 5 2) % 10 * 140 ≤ j ∧ j < (if F 5 2 = 10 then (F 5 1 + 1) % 10 + 9 else F 5 1 + F 5 2) % 10 * 140 + 140
  · rw [if_pos ⟨rfl, z⟩, if_pos z]
  · rw [if_neg (fun q => z q.2), if_neg z]
/-- a change done by both -/
theorem rel_ch {F G H : FF} {A B C : AA} {g g' : Int → Int} (h : REL F A) (hc : chR F G A B g) (hg : ∀ i, 0 ≤ i → i < 140 → g i = g' i) (hf : figR g) (hm : msP G H B C g') : REL H C := by
  obtain ⟨⟨a1, a2⟩, ⟨b1, b2, b3, b4⟩, ⟨⟨c1, c2⟩, c3, c4⟩, d, ⟨ca, cr⟩, e, gg, ii⟩ := h
  obtain ⟨u1, u2, u3, u4, u5⟩ := hc
  obtain ⟨⟨w1, w2, w3, w4, w5, w6⟩, w7⟩ := hm
  have kf : ∀ aa bb, (aa ≠ 5 ∨ (bb ≠ 1 ∧ bb ≠ 2)) → kF F aa bb = F aa bb := fun aa bb z => by
    unfold kF
    rw [upF_o (by omega), upF_o (by omega)]
  have k51 : kF F 5 1 = if F 5 2 = 10 then (F 5 1 + 1) % 10 else F 5 1 := by unfold kF; rw [upF_o (by decide), upF_s]
  have k52 : kF F 5 2 = if F 5 2 = 10 then 10 else F 5 2 + 1 := by unfold kF; rw [upF_s]
  have hF : ∀ aa bb, (aa ≠ 14 ∧ aa ≠ 19 ∧ aa ≠ 22 ∧ aa ≠ 24) → (aa ≠ 25 ∨ (bb ≠ 0 ∧ bb ≠ 8)) → H aa bb = kF F aa bb := fun aa bb z1 z2 => (w1 aa bb z2).trans (u1 aa bb z1)
  have hF' : ∀ aa bb, (aa ≠ 14 ∧ aa ≠ 19 ∧ aa ≠ 22 ∧ aa ≠ 24) → (aa ≠ 25 ∨ (bb ≠ 0 ∧ bb ≠ 8)) → (aa ≠ 5 ∨ (bb ≠ 1 ∧ bb ≠ 2)) → H aa bb = F aa bb := fun aa bb z1 z2 z3 => (hF aa bb z1 z2).trans (kf aa bb z3)
  have g8 : G 25 8 = F 5 2 := by rw [u1 25 8 (by decide), kf 25 8 (by decide), c3]
  have h51 : H 5 1 = if F 5 2 = 10 then (F 5 1 + 1) % 10 else F 5 1 := (hF 5 1 (by decide) (by decide)).trans k51
  have h52 : H 5 2 = if F 5 2 = 10 then 10 else F 5 2 + 1 := (hF 5 2 (by decide) (by decide)).trans k52
  have h58 : H 25 8 = H 5 2 := by rw [w3, g8, h52]; unfold kpU; split <;> omega
  have rB : ∀ b : Nat, b ≠ 2 → b ≠ 6 → (b < 10 ∨ b = 14 ∨ b = 19 ∨ b = 22 ∨ 24 ≤ b) → B b = A b := fun b z1 z2 z3 => funext fun i => by
    rw [u2 b i ⟨z1, z3⟩]
    unfold kA
    rw [setR_o z2]
  have rC : ∀ b : Nat, b ≠ 29 → b ≠ 31 → C b = B b := fun b z1 z2 => funext fun i => w4 b i ⟨z1, z2⟩
  have r : ∀ b : Nat, b ≠ 2 → b ≠ 6 → b ≠ 29 → b ≠ 31 → (b < 10 ∨ b = 14 ∨ b = 19 ∨ b = 22 ∨ 24 ≤ b) → C b = A b := fun b z1 z2 z3 z4 z5 => (rC b z3 z4).trans (rB b z1 z2 z5)
  have r2 : ∀ i, 0 ≤ i → i < 140 → C 2 i = mF C i := fun i i0 i1 => by
    rw [rC 2 (by decide) (by decide), u3 i i0 i1, w7 i i0 i1, hg i i0 i1]
  have q2 := mF_eq r2
  have f2 : figR (C 2) := fig_c hf (fun i i0 i1 => by rw [rC 2 (by decide) (by decide), u3 i i0 i1])
  have C6 : ∀ j, C 6 j = kA F A 6 j := fun j => by rw [rC 6 (by decide) (by decide), u2 6 j (by decide)]
  have B31 : B 31 = A 31 := rB 31 (by decide) (by decide) (by decide)
  have B29 : B 29 = A 29 := rB 29 (by decide) (by decide) (by decide)
  have hs : hsE H C := by
    by_cases z : F 5 2 = 10
    · rw [if_pos z] at h51 h52
      have kp : kpU (G 25 8) = 9 := by rw [g8, z]; rfl
      rw [kp] at w5 w6
      refine hs_new (m := 9) (d := 1) (by decide) (by omega) (by omega) c4 ⟨a1, a2⟩ (r 27 (by decide) (by decide) (by decide) (by decide) (by decide)) (fun k k0 k1 => ⟨fun i i0 i1 => ?_, fun j j0 j1 => ?_⟩) ⟨fun i i0 i1 => ?_, fun j j0 j1 => ?_⟩
      · unfold hcR
        rw [C6, kA_6, if_pos z, h51, if_neg (by omega)]
        congr 2
        omega
      · rw [w5 _ (by omega) (by omega), g8, if_pos z, B31]
        congr 1
        omega
      · unfold hcR
        rw [C6, kA_6, if_pos z, h51, if_pos (by omega)]
        congr 1
        omega
      · rw [w6 j j0 j1, B29]
    · rw [if_neg z] at h51 h52
      have kp : kpU (G 25 8) = F 5 2 := by rw [g8]; exact if_neg z
      rw [kp] at w5 w6
      refine hs_new (m := F 5 2) (d := 0) (by decide) (by omega) h52 c4 ⟨a1, a2⟩ (r 27 (by decide) (by decide) (by decide) (by decide) (by decide)) (fun k k0 k1 => ⟨fun i i0 i1 => ?_, fun j j0 j1 => ?_⟩) ⟨fun i i0 i1 => ?_, fun j j0 j1 => ?_⟩
      · unfold hcR
        rw [C6, kA_6, if_neg z, h51, if_neg (by omega), Int.add_zero]
      · rw [w5 _ (by omega) (by omega), g8, if_neg z, B31, Int.add_zero]
      · unfold hcR
        rw [C6, kA_6, if_neg z, h51, if_pos (by omega)]
        congr 1
        omega
      · rw [w6 j j0 j1, B29]
  refine ⟨⟨q2, f2⟩, ⟨?_, ?_, ?_, ?_⟩, ⟨⟨?_, ?_⟩, h58, hs⟩, ?_, ⟨caAll_c (rC 10 (by decide) (by decide)) (rC 11 (by decide) (by decide)) (rC 12 (by decide) (by decide)) (rC 13 (by decide) (by decide)) (u4 ca), r20_c (rC 20 (by decide) (by decide)) (u5 cr)⟩, ?_, ?_, ?_⟩
  · rw [hF' 7 1 (by decide) (by decide) (by decide)]; exact b1
  · rw [hF' 7 1 (by decide) (by decide) (by decide), hF' 25 2 (by decide) (by decide) (by decide)]; exact b2
  · rw [hF' 7 1 (by decide) (by decide) (by decide), r 8 (by decide) (by decide) (by decide) (by decide) (by decide), r 26 (by decide) (by decide) (by decide) (by decide) (by decide)]; exact b3
  · rw [r 26 (by decide) (by decide) (by decide) (by decide) (by decide)]; exact b4
  · rw [h51]; split <;> omega
  · rw [h52]; split <;> omega
  · rw [hF' 25 28 (by decide) (by decide) (by decide), hF' 0 9 (by decide) (by decide) (by decide)]; exact d
  · rw [hF' 7 6 (by decide) (by decide) (by decide)]; exact e
  · rw [hF' 25 27 (by decide) (by decide) (by decide)]; exact gg
  · rw [hF' 25 24 (by decide) (by decide) (by decide)]; exact ii
/-- undo, both -/
theorem rel_un {F G H : FF} {A B C : AA} (h : REL F A) (hn : ¬ F 5 2 = 0) (hG : G = upF F 5 2 (F 5 2 - 1)) (hB : B = setR A 2 0 140 (fun jj => A 6 ((F 5 1 + F 5 2 - 1) % 10 * 140 + jj)))
    (w1 : ∀ aa bb, aa ≠ 25 ∨ (bb ≠ 0 ∧ bb ≠ 8) → H aa bb = G aa bb) (w3 : H 25 8 = G 25 8 - 1) (w4 : ∀ bb ii, bb ≠ 29 → C bb ii = B bb ii) (w5 : ∀ kk, 0 ≤ kk → kk < 124 → C 29 kk = B 31 (124 * (G 25 8 - 1) + kk)) : REL H C := by
  obtain ⟨⟨a1, a2⟩, ⟨b1, b2, b3, b4⟩, ⟨⟨c1, c2⟩, c3, c4⟩, d, ⟨ca, cr⟩, e, gg, ii⟩ := h
  have gF : ∀ aa bb, (aa ≠ 5 ∨ bb ≠ 2) → G aa bb = F aa bb := fun aa bb z => by rw [hG, upF_o z]
  have g52 : G 5 2 = F 5 2 - 1 := by rw [hG, upF_s]
  have hF : ∀ aa bb, (aa ≠ 25 ∨ (bb ≠ 0 ∧ bb ≠ 8)) → (aa ≠ 5 ∨ bb ≠ 2) → H aa bb = F aa bb := fun aa bb z1 z2 => (w1 aa bb z1).trans (gF aa bb z2)
  have g8 : G 25 8 = F 5 2 := by rw [gF 25 8 (by decide), c3]
  have h52 : H 5 2 = F 5 2 - 1 := by rw [w1 5 2 (by decide), g52]
  have h51 : H 5 1 = F 5 1 := hF 5 1 (by decide) (by decide)
  have rB : ∀ b : Nat, b ≠ 2 → B b = A b := fun b z => by rw [hB, setR_r z]
  have rC : ∀ b : Nat, b ≠ 29 → C b = B b := fun b z => funext fun i => w4 b i z
  have r : ∀ b : Nat, b ≠ 2 → b ≠ 29 → C b = A b := fun b z1 z2 => (rC b z2).trans (rB b z1)
  obtain ⟨p1, p2⟩ := c4 (F 5 2 - 1) (by omega) (by omega)
  have e2 : ∀ i, 0 ≤ i → i < 140 → C 2 i = hcR F A (F 5 2 - 1) i := fun i i0 i1 => by
    rw [rC 2 (by decide), hB, setR_in i0 (by omega)]
    unfold hcR
    congr 2 <;> omega
  have q2 : C 2 = mF C := mF_eq fun i i0 i1 => by
    rw [e2 i i0 i1, p2 i i0 i1]
    refine (mF_i (fun j _ _ => ?_) (fun j j0 j1 => ?_) i0 i1).symm
    · rw [hmA_o (by decide), r 27 (by decide) (by decide)]
    · rw [hmA_29, w5 j j0 j1, g8, rB 31 (by decide)]
  have hs : hsE H C := fun k k0 k1 => by
    rw [h52] at k1
    obtain ⟨a, b⟩ := c4 k k0 (by omega)
    have ee : hcR H C k = hcR F A k := funext fun i => by unfold hcR; rw [h51, r 6 (by decide) (by decide)]
    rw [ee]
    refine ⟨a, fun i i0 i1 => (b i i0 i1).trans (mF_i (fun j _ _ => ?_) (fun j _ _ => ?_) i0 i1).symm⟩
    · rw [hmA_o (by decide), hmA_o (by decide), r 27 (by decide) (by decide)]
    · rw [hmA_29, hmA_29, r 31 (by decide) (by decide)]
  refine ⟨⟨q2, fig_c p1 e2⟩, ⟨?_, ?_, ?_, ?_⟩, ⟨⟨?_, ?_⟩, ?_, hs⟩, ?_, ⟨caAll_c (r 10 (by decide) (by decide)) (r 11 (by decide) (by decide)) (r 12 (by decide) (by decide)) (r 13 (by decide) (by decide)) ca, r20_c (r 20 (by decide) (by decide)) cr⟩, ?_, ?_, ?_⟩
  · rw [hF 7 1 (by decide) (by decide)]; exact b1
  · rw [hF 7 1 (by decide) (by decide), hF 25 2 (by decide) (by decide)]; exact b2
  · rw [hF 7 1 (by decide) (by decide), r 8 (by decide) (by decide), r 26 (by decide) (by decide)]; exact b3
  · rw [r 26 (by decide) (by decide)]; exact b4
  · rw [h51]; exact c1
  · rw [h52]; omega
  · rw [w3, g8, h52]
  · rw [hF 25 28 (by decide) (by decide), hF 0 9 (by decide) (by decide)]; exact d
  · rw [hF 7 6 (by decide) (by decide)]; exact e
  · rw [hF 25 27 (by decide) (by decide)]; exact gg
  · rw [hF 25 24 (by decide) (by decide)]; exact ii
