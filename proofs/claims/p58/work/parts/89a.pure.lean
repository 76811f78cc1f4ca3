/-! roots as they are told: places in order, exact ones are 0 -/
def plc (x : RT) : Int := x.2.2 * p2 (13 - x.2.1) + (if x.1 = 0 then 0 else 1)
def gdR (G : Int → Int) (n lim : Int) (x : RT) : Prop := (0 ≤ x.2.1 ∧ x.2.1 ≤ lim) ∧ (0 ≤ x.2.2 ∧ x.2.2 ≤ p2 x.2.1) ∧ (x.1 = 0 ∨ x.1 = 1 ∨ x.1 = 2) ∧ (x.1 ≠ 0 → x.2.2 < p2 x.2.1) ∧ (x.1 = 0 → atI G n x.2.2 (p2 x.2.1) = 0) ∧ (x.1 = 1 → chg (cellF G n (Int.toNat x.2.1) x.2.2) (Int.toNat (n + 1)) = 1) ∧ (x.1 = 2 → 2 ≤ chg (cellF G n (Int.toNat x.2.1) x.2.2) (Int.toNat (n + 1)) ∧ x.2.1 = lim)
theorem ce_b {G : Int → Int} {n : Int} (n1 : 1 ≤ n) (n3 : n ≤ 3) (hG : smR G n 24600) {d q i : Int} (d0 : 0 ≤ d) (d1 : d ≤ 12) (i0 : 0 ≤ i) (i1 : i ≤ n) : w64 (cellF G n (Int.toNat d) q i) = cellF G n (Int.toNat d) q i := by
  have a := cellF_bs (n := n) (by omega) hG (Int.toNat d) q i i0 i1
  have e : n * ((Int.toNat d : Nat) : Int) ≤ 3 * 12 := Int.mul_le_mul (by omega) (by omega) (by omega) (by omega)
  have b : p2 (n * ((Int.toNat d : Nat) : Int)) ≤ 68719476736 := p2_le e
  have c := @p2_pos (n * ((Int.toNat d : Nat) : Int))
  exact w64_id (by omega) (by omega)
theorem p13 {d : Int} (d0 : 0 ≤ d) (d1 : d ≤ 12) : p2 (13 - d) = 2 * p2 (13 - (d + 1)) ∧ 1 ≤ p2 (13 - (d + 1)) := by
  have a := @p2_pos (13 - (d + 1))
  refine ⟨?_, by omega⟩
  rw [← p2_s (by omega)]; congr 1; omega
theorem srch_g {G : Int → Int} {n lim : Int} (n1 : 1 ≤ n) (n3 : n ≤ 3) (l1 : lim ≤ 12) (hG : smR G n 24600) : ∀ (m : Nat) (d q : Int), 0 ≤ d → d ≤ lim → 0 ≤ q → q < p2 d →
    (∀ x, x ∈ srch n lim m (cellF G n (Int.toNat d) q) d q → gdR G n lim x ∧ q * p2 (13 - d) < plc x ∧ plc x < (q + 1) * p2 (13 - d)) ∧ (srch n lim m (cellF G n (Int.toNat d) q) d q).Pairwise (fun x y => plc x < plc y)
  | 0, _, _, _, _, _, _ => ⟨fun x h => by simp [srch] at h, by simp [srch]⟩
  | m + 1, d, q, d0, d1, q0, q1 => by
    have cb := chg_b (cellF G n (Int.toNat d) q) (Int.toNat (n + 1))
    obtain ⟨ep, p1⟩ := p13 d0 (by omega)
    have e0 : hv (cellF G n (Int.toNat d) q) n 0 = cellF G n (Int.toNat (d + 1)) (2 * q) := by rw [cellF_s d0, show 2 * q / 2 = q by omega, show 2 * q % 2 = 0 by omega]
    have e1 : hv (cellF G n (Int.toNat d) q) n 1 = cellF G n (Int.toNat (d + 1)) (2 * q + 1) := by rw [cellF_s d0, show (2 * q + 1) / 2 = q by omega, show (2 * q + 1) % 2 = 1 by omega]
    have eq1 : (q + 1) * p2 (13 - d) = q * p2 (13 - d) + p2 (13 - d) := by rw [Int.add_mul, Int.one_mul]
    unfold srch
    split
    · exact ⟨fun x h => by simp at h, List.Pairwise.nil⟩
    · rename_i c0
      split
      · rename_i c1
        refine ⟨fun x h => ?_, List.pairwise_singleton _ _⟩
        rw [List.mem_singleton.mp h]
        refine ⟨⟨⟨d0, d1⟩, ⟨q0, by show q ≤ p2 d; omega⟩, Or.inr (Or.inl rfl), fun _ => q1, fun z => absurd z (by show ¬ (1 : Int) = 0; decide), fun _ => c1, fun z => absurd z (by show ¬ (1 : Int) = 2; decide)⟩, ?_, ?_⟩
        · show q * p2 (13 - d) < q * p2 (13 - d) + 1; omega
        · show q * p2 (13 - d) + 1 < _; omega
      · rename_i c1
        split
        · rename_i c2
          refine ⟨fun x h => ?_, List.pairwise_singleton _ _⟩
          rw [List.mem_singleton.mp h]
          refine ⟨⟨⟨d0, d1⟩, ⟨q0, by show q ≤ p2 d; omega⟩, Or.inr (Or.inr rfl), fun _ => q1, fun z => absurd z (by show ¬ (2 : Int) = 0; decide), fun z => absurd z (by show ¬ (2 : Int) = 1; decide), fun _ => ⟨by show 2 ≤ chg (cellF G n (Int.toNat d) q) (Int.toNat (n + 1)); omega, by show d = lim; omega⟩⟩, ?_, ?_⟩
          · show q * p2 (13 - d) < q * p2 (13 - d) + 1; omega
          · show q * p2 (13 - d) + 1 < _; omega
        · rename_i c2
          have pd := p2_s d0
          have i0 := srch_g n1 n3 l1 hG m (d + 1) (2 * q) (by omega) (by omega) (by omega) (by omega)
          have i1 := srch_g n1 n3 l1 hG m (d + 1) (2 * q + 1) (by omega) (by omega) (by omega) (by omega)
          rw [e0, e1]
          have wz : w64 (cellF G n (Int.toNat (d + 1)) (2 * q + 1) 0) = cellF G n (Int.toNat (d + 1)) (2 * q + 1) 0 := ce_b n1 n3 hG (by omega) (by omega) (by omega) (by omega)
          have ec := ce_0 (g := G) (n := n) (q := 2 * q + 1) (d := Int.toNat (d + 1)) n1 n3 (by omega) (by rw [show ((Int.toNat (d + 1) : Nat) : Int) = d + 1 by omega]; omega)
          rw [show ((Int.toNat (d + 1) : Nat) : Int) = d + 1 by omega] at ec
          rw [wz, ec]
          have a1 : 2 * q * p2 (13 - (d + 1)) = q * p2 (13 - d) := by rw [ep]; grind
          have a2 : (2 * q + 1) * p2 (13 - (d + 1)) = q * p2 (13 - d) + p2 (13 - (d + 1)) := by rw [ep]; grind
          have a3 : (2 * q + 1 + 1) * p2 (13 - (d + 1)) = q * p2 (13 - d) + p2 (13 - d) := by rw [ep]; grind
          have mid : ∀ x, x ∈ (if atI G n (2 * q + 1) (p2 (d + 1)) = 0 then [((0 : Int), d + 1, 2 * q + 1)] else []) → gdR G n lim x ∧ plc x = (2 * q + 1) * p2 (13 - (d + 1)) := by
            intro x h
            split at h
            · rename_i z
              rw [List.mem_singleton.mp h]
              refine ⟨⟨⟨by show 0 ≤ d + 1; omega, by show d + 1 ≤ lim; omega⟩, ⟨by show 0 ≤ 2 * q + 1; omega, by show 2 * q + 1 ≤ p2 (d + 1); omega⟩, Or.inl rfl, fun z => absurd rfl z, fun _ => z, fun z => absurd z (by show ¬ (0 : Int) = 1; decide), fun z => absurd z (by show ¬ (0 : Int) = 2; decide)⟩, ?_⟩
              show _ + 0 = _; rw [Int.add_zero]
            · simp at h
          refine ⟨fun x h => ?_, ?_⟩
          · rcases List.mem_append.mp h with h | h
            · have := i0.1 x h; exact ⟨this.1, by omega, by omega⟩
            · rcases List.mem_append.mp h with h | h
              · have := mid x h; exact ⟨this.1, by omega, by omega⟩
              · have := i1.1 x h; exact ⟨this.1, by omega, by omega⟩
          · refine List.pairwise_append.mpr ⟨i0.2, List.pairwise_append.mpr ⟨?_, i1.2, fun a ha b hb => ?_⟩, fun a ha b hb => ?_⟩
            · split
              · exact List.pairwise_singleton _ _
              · exact List.Pairwise.nil
            · have x1 := mid a ha; have x2 := i1.1 b hb; omega
            · have x1 := i0.1 a ha
              rcases List.mem_append.mp hb with hb | hb
              · have x2 := mid b hb; omega
              · have x2 := i1.1 b hb; omega
theorem roots_g {G : Int → Int} {n lim : Int} (n1 : 1 ≤ n) (n3 : n ≤ 3) (l0 : 1 ≤ lim) (l1 : lim ≤ 12) (hG : smR G n 24600) : (∀ x, x ∈ rootsL G n lim → gdR G n lim x ∧ 0 ≤ plc x) ∧ (rootsL G n lim).Pairwise (fun x y => plc x < plc y) := by
  have s := srch_g (lim := lim) n1 n3 l1 hG 13 0 0 (by omega) (by omega) (by omega) (by decide)
  have g0 := hG 0 (by omega) (by omega)
  have gn := hG n (by omega) (by omega)
  have w0 : w64 (G 0) = G 0 := w64_id (by omega) (by omega)
  have wn : w64 (G n) = G n := w64_id (by omega) (by omega)
  have pp : p2 (13 - 0) = 8192 := rfl
  rw [pp] at s
  replace s : (∀ x, x ∈ srch n lim 13 G 0 0 → gdR G n lim x ∧ 0 * 8192 < plc x ∧ plc x < (0 + 1) * 8192) ∧ (srch n lim 13 G 0 0).Pairwise (fun x y => plc x < plc y) := s
  unfold rootsL
  split
  · exact ⟨fun x h => by simp at h, List.Pairwise.nil⟩
  · rw [w0, wn]
    have fs : ∀ x, x ∈ (if G 0 = 0 then [((0 : Int), (0 : Int), (0 : Int))] else []) → gdR G n lim x ∧ plc x = 0 := by
      intro x h
      split at h
      · rename_i z
        rw [List.mem_singleton.mp h]
        refine ⟨⟨⟨Int.le_refl 0, by show 0 ≤ lim; omega⟩, ⟨Int.le_refl 0, by show (0 : Int) ≤ p2 0; decide⟩, Or.inl rfl, fun z => absurd rfl z, fun _ => ?_, fun z => absurd z (by show ¬ (0 : Int) = 1; decide), fun z => absurd z (by show ¬ (0 : Int) = 2; decide)⟩, by show 0 * p2 (13 - 0) + 0 = 0; decide⟩
        show atI G n 0 1 = 0
        rw [at_0 n1 n3, z]
      · simp at h
    have ls : ∀ x, x ∈ (if G n = 0 then [((0 : Int), (0 : Int), (1 : Int))] else []) → gdR G n lim x ∧ plc x = 8192 := by
      intro x h
      split at h
      · rename_i z
        rw [List.mem_singleton.mp h]
        refine ⟨⟨⟨Int.le_refl 0, by show 0 ≤ lim; omega⟩, ⟨by show (0 : Int) ≤ 1; decide, by show (1 : Int) ≤ p2 0; decide⟩, Or.inl rfl, fun z => absurd rfl z, fun _ => ?_, fun z => absurd z (by show ¬ (0 : Int) = 1; decide), fun z => absurd z (by show ¬ (0 : Int) = 2; decide)⟩, by show 1 * p2 (13 - 0) + 0 = 8192; decide⟩
        show atI G n 1 1 = 0
        rw [at_1 n1 n3, z]
      · simp at h
    refine ⟨fun x h => ?_, ?_⟩
    · rcases List.mem_append.mp h with h | h
      · have := fs x h; exact ⟨this.1, by omega⟩
      · rcases List.mem_append.mp h with h | h
        · have := s.1 x h; exact ⟨this.1, by omega⟩
        · have := ls x h; exact ⟨this.1, by omega⟩
    · refine List.pairwise_append.mpr ⟨?_, List.pairwise_append.mpr ⟨s.2, ?_, fun a ha b hb => ?_⟩, fun a ha b hb => ?_⟩
      · split
        · exact List.pairwise_singleton _ _
        · exact List.Pairwise.nil
      · split
        · exact List.pairwise_singleton _ _
        · exact List.Pairwise.nil
      · have x1 := s.1 a ha; have x2 := ls b hb; omega
      · have x1 := fs a ha
        rcases List.mem_append.mp hb with hb | hb
        · have x2 := s.1 b hb; omega
        · have x2 := ls b hb; omega
/-- the places of two roots told one behind another -/
theorem roots_lt {L : List RT} (h : L.Pairwise (fun x y => plc x < plc y)) {i j : Nat} (hij : i < j) (hj : j < L.length) : plc (L.getD i (0, 0, 0)) < plc (L.getD j (0, 0, 0)) := by
  have := List.pairwise_iff_getElem.mp h i j (by omega) hj hij
  rw [List.getD_eq_getElem?_getD, List.getD_eq_getElem?_getD, List.getElem?_eq_getElem hj, List.getElem?_eq_getElem (show i < L.length by omega)]
  exact this
theorem getD_mem {L : List RT} {r : Int} (r0 : 0 ≤ r) (r1 : r < L.length) : L.getD (Int.toNat r) (0, 0, 0) ∈ L := by
  rw [List.getD_eq_getElem?_getD, List.getElem?_eq_getElem (by omega)]
  exact List.getElem_mem (by omega)
/-! a change of sign has a root -/
theorem vo1 : ∀ a b : Fin 3, VL [vS a, vS b] = 0 → ¬ vS a * vS b < 0 := by decide +kernel
theorem vo2 : ∀ a b c : Fin 3, VL [vS a, vS b, vS c] = 0 → ¬ vS a * vS c < 0 := by decide +kernel
theorem vo3 : ∀ a b c d : Fin 3, VL [vS a, vS b, vS c, vS d] = 0 → ¬ vS a * vS d < 0 := by decide +kernel
theorem chg_odd {g : Int → Int} {n : Int} (n1 : 1 ≤ n) (n3 : n ≤ 3) (h : chg g (Int.toNat (n + 1)) = 0) : ¬ sg (w64 (g 0)) * sg (w64 (g n)) < 0 := by
  rcases (show n = 1 ∨ n = 2 ∨ n = 3 by omega) with rfl | rfl | rfl
  · rw [show Int.toNat ((1 : Int) + 1) = 2 from rfl, chg2] at h
    obtain ⟨a, ea⟩ := vS_of (w64 (g 0)); obtain ⟨b, eb⟩ := vS_of (w64 (g 1))
    rw [ea, eb] at h ⊢; exact vo1 a b h
  · rw [show Int.toNat ((2 : Int) + 1) = 3 from rfl, chg3] at h
    obtain ⟨a, ea⟩ := vS_of (w64 (g 0)); obtain ⟨b, eb⟩ := vS_of (w64 (g 1)); obtain ⟨c, ec⟩ := vS_of (w64 (g 2))
    rw [ea, eb, ec] at h; rw [ea, ec]; exact vo2 a b c h
  · rw [show Int.toNat ((3 : Int) + 1) = 4 from rfl, chg4] at h
    obtain ⟨a, ea⟩ := vS_of (w64 (g 0)); obtain ⟨b, eb⟩ := vS_of (w64 (g 1)); obtain ⟨c, ec⟩ := vS_of (w64 (g 2)); obtain ⟨d, ed⟩ := vS_of (w64 (g 3))
    rw [ea, eb, ec, ed] at h; rw [ea, ed]; exact vo3 a b c d h
theorem sg_split {a b m : Int} (ha : a = -1 ∨ a = 0 ∨ a = 1) (hb : b = -1 ∨ b = 0 ∨ b = 1) (hm : m = -1 ∨ m = 1) (h : a * b < 0) : a * m < 0 ∨ m * b < 0 := by
  rcases ha with rfl | rfl | rfl <;> rcases hb with rfl | rfl | rfl <;> rcases hm with rfl | rfl <;> first | (exfalso; revert h; decide) | (left; decide) | (right; decide)
theorem sg_3 (x : Int) : sg x = -1 ∨ sg x = 0 ∨ sg x = 1 := by rcases sg_cases x with ⟨_, e⟩ | ⟨_, e⟩ | ⟨_, e⟩ <;> rw [e] <;> simp
theorem srch_odd {G : Int → Int} {n lim : Int} (n1 : 1 ≤ n) (n3 : n ≤ 3) (l1 : lim ≤ 12) (hG : smR G n 24600) : ∀ (m : Nat) (d q : Int), 0 ≤ d → d ≤ lim → lim < d + m → sg (cellF G n (Int.toNat d) q 0) * sg (cellF G n (Int.toNat d) q n) < 0 → srch n lim m (cellF G n (Int.toNat d) q) d q ≠ []
  | 0, d, q, d0, d1, hm, _ => by omega
  | m + 1, d, q, d0, d1, hm, h => by
    have e0 : hv (cellF G n (Int.toNat d) q) n 0 = cellF G n (Int.toNat (d + 1)) (2 * q) := by rw [cellF_s d0, show 2 * q / 2 = q by omega, show 2 * q % 2 = 0 by omega]
    have e1 : hv (cellF G n (Int.toNat d) q) n 1 = cellF G n (Int.toNat (d + 1)) (2 * q + 1) := by rw [cellF_s d0, show (2 * q + 1) / 2 = q by omega, show (2 * q + 1) % 2 = 1 by omega]
    have w0 := ce_b n1 n3 hG d0 (by omega) (q := q) (i := 0) (by omega) (by omega)
    have wn := ce_b n1 n3 hG d0 (by omega) (q := q) (i := n) (by omega) (by omega)
    unfold srch
    split
    · rename_i c0
      have := chg_odd n1 n3 c0
      rw [w0, wn] at this
      exact absurd h this
    · split
      · simp
      · split
        · simp
        · rename_i c2
          have wm := ce_b n1 n3 hG (show 0 ≤ d + 1 by omega) (by omega) (q := 2 * q + 1) (i := 0) (by omega) (by omega)
          have l0 : cellF G n (Int.toNat (d + 1)) (2 * q) 0 = cellF G n (Int.toNat d) q 0 * p2 (n - 0) := by rw [← e0, hv_0 (by omega) (by omega)]; rfl
          have ln : cellF G n (Int.toNat (d + 1)) (2 * q) n = dF (cellF G n (Int.toNat d) q) (Int.toNat n) 0 * p2 0 := by rw [← e0, hv_0 (by omega) (by omega), Int.sub_self]
          have r0 : cellF G n (Int.toNat (d + 1)) (2 * q + 1) 0 = dF (cellF G n (Int.toNat d) q) (Int.toNat n) 0 * p2 0 := by rw [← e1, hv_1 (by omega) (by omega), Int.sub_zero]
          have rn : cellF G n (Int.toNat (d + 1)) (2 * q + 1) n = cellF G n (Int.toNat d) q n * p2 n := by rw [← e1, hv_1 (by omega) (by omega), Int.sub_self]; rfl
          rw [e0, e1, wm]
          by_cases z : cellF G n (Int.toNat (d + 1)) (2 * q + 1) 0 = 0
          · rw [if_pos z]; simp
          · have zm : sg (dF (cellF G n (Int.toNat d) q) (Int.toNat n) 0) = -1 ∨ sg (dF (cellF G n (Int.toNat d) q) (Int.toNat n) 0) = 1 := by
              rw [r0, p2_0, Int.mul_one] at z
              rcases sg_cases (dF (cellF G n (Int.toNat d) q) (Int.toNat n) 0) with ⟨_, e⟩ | ⟨_, e⟩ | ⟨y, e⟩
              · exact Or.inr e
              · exact Or.inl e
              · exact absurd y z
            rcases sg_split (sg_3 _) (sg_3 _) zm h with k | k
            · have := srch_odd n1 n3 l1 hG m (d + 1) (2 * q) (by omega) (by omega) (by omega) (by rw [l0, ln, sg_mul p2_pos, sg_mul p2_pos]; exact k)
              simp [this]
            · have := srch_odd n1 n3 l1 hG m (d + 1) (2 * q + 1) (by omega) (by omega) (by omega) (by rw [r0, rn, sg_mul p2_pos, sg_mul p2_pos]; exact k)
              simp [this]
theorem roots_odd {G : Int → Int} {n lim : Int} (n1 : 1 ≤ n) (n3 : n ≤ 3) (l0 : 1 ≤ lim) (l1 : lim ≤ 12) (hG : smR G n 24600) (h : sg (G 0) * sg (G n) < 0) : rootsL G n lim ≠ [] := by
  have a := srch_odd n1 n3 l1 hG 13 0 0 (by omega) (by omega) (by omega) h
  replace a : srch n lim 13 G 0 0 ≠ [] := a
  have w0 : w64 (G 0) = G 0 := by have := hG 0 (by omega) (by omega); exact w64_id (by omega) (by omega)
  unfold rootsL
  split
  · rename_i z
    have e := z 0 (by omega)
    rw [show (((0 : Nat) : Int)) = 0 from rfl, w0] at e
    rw [e, sg_0, Int.zero_mul] at h
    exact absurd h (by decide)
  · simp [a]
theorem roots_0 {G : Int → Int} {n lim : Int} (n1 : 1 ≤ n) (hG : smR G n 24600) (hz : ¬ azP G (Int.toNat (n + 1))) (h : chg G (Int.toNat (n + 1)) = 0) : ((rootsL G n lim).length : Int) = (if G 0 = 0 then 1 else 0) + (if G n = 0 then 1 else 0) := by
  have w0 : w64 (G 0) = G 0 := by have := hG 0 (by omega) (by omega); exact w64_id (by omega) (by omega)
  have wn : w64 (G n) = G n := by have := hG n (by omega) (by omega); exact w64_id (by omega) (by omega)
  unfold rootsL
  rw [if_neg hz, srch_s0 h, w0, wn, List.nil_append, List.length_append]
  split <;> split <;> rfl
/-! zeros -/
theorem cnt_ex {f : Int → Int} {k j : Int} : ∀ m : Nat, j + 1 ≤ cntK f k m → 0 ≤ j → ∃ i : Nat, i < m ∧ f i = k ∧ j ≤ cntK f k i
  | 0, h, h0 => by
    have h : j + 1 ≤ 0 := h
    omega
  | m + 1, h, h0 => by
    unfold cntK at h
    split at h
    · exact ⟨m, by omega, by assumption, by omega⟩
    · obtain ⟨i, a, b⟩ := cnt_ex m h h0
      exact ⟨i, by omega, b⟩
theorem mz {a b : Int} (h : a * b = 0) (ha : a ≠ 0) : b = 0 := by
  rcases Int.mul_eq_zero.mp h with h | h
  · exact absurd h ha
  · exact h
theorem pol1 {c0 c1 a b : Int} (hab : b < a) (ha : c0 + c1 * a = 0) (hb : c0 + c1 * b = 0) : c1 = 0 ∧ c0 = 0 := by
  have e : (a - b) * c1 = 0 := by grind
  have z := mz e (by omega)
  rw [z] at ha
  exact ⟨z, by omega⟩
theorem pol2 {c0 c1 c2 a b c : Int} (hab : b < a) (hbc : c < b) (ha : c0 + c1 * a + c2 * a * a = 0) (hb : c0 + c1 * b + c2 * b * b = 0) (hc : c0 + c1 * c + c2 * c * c = 0) : c2 = 0 ∧ c1 = 0 ∧ c0 = 0 := by
  have e1 : (a - b) * (c1 + c2 * (a + b)) = 0 := by grind
  have e2 : (b - c) * (c1 + c2 * (b + c)) = 0 := by grind
  have z1 := mz e1 (by omega)
  have z2 := mz e2 (by omega)
  have e3 : (a - c) * c2 = 0 := by grind
  have z3 := mz e3 (by omega)
  rw [z3] at z1 ha
  have z4 : c1 = 0 := by omega
  rw [z4] at ha
  exact ⟨z3, z4, by omega⟩
theorem pol3 {c0 c1 c2 c3 a b c d : Int} (hab : b < a) (hbc : c < b) (hcd : d < c) (ha : c0 + c1 * a + c2 * a * a + c3 * a * a * a = 0) (hb : c0 + c1 * b + c2 * b * b + c3 * b * b * b = 0) (hc : c0 + c1 * c + c2 * c * c + c3 * c * c * c = 0) (hd : c0 + c1 * d + c2 * d * d + c3 * d * d * d = 0) : c3 = 0 ∧ c2 = 0 ∧ c1 = 0 ∧ c0 = 0 := by
  have e1 : (a - b) * (c1 + c2 * (a + b) + c3 * (a * a + a * b + b * b)) = 0 := by grind
  have e2 : (b - c) * (c1 + c2 * (b + c) + c3 * (b * b + b * c + c * c)) = 0 := by grind
  have e3 : (c - d) * (c1 + c2 * (c + d) + c3 * (c * c + c * d + d * d)) = 0 := by grind
  have z1 := mz e1 (by omega)
  have z2 := mz e2 (by omega)
  have z3 := mz e3 (by omega)
  have e4 : (a - c) * (c2 + c3 * (a + b + c)) = 0 := by grind
  have e5 : (b - d) * (c2 + c3 * (b + c + d)) = 0 := by grind
  have z4 := mz e4 (by omega)
  have z5 := mz e5 (by omega)
  have e6 : (a - d) * c3 = 0 := by grind
  have z6 := mz e6 (by omega)
  subst z6
  have z7 : c2 = 0 := by omega
  subst z7
  have z8 : c1 = 0 := by omega
  subst z8
  exact ⟨rfl, rfl, rfl, by omega⟩
theorem at16_w {g : Int → Int} {n : Int} (n1 : 1 ≤ n) (n3 : n ≤ 3) (hG : smR g n 24600) {i : Int} (i0 : 0 ≤ i) (i1 : i ≤ 16) : w64 (atI g n i 16) = atI g n i 16 := by
  have r : i = 0 ∨ i = 1 ∨ i = 2 ∨ i = 3 ∨ i = 4 ∨ i = 5 ∨ i = 6 ∨ i = 7 ∨ i = 8 ∨ i = 9 ∨ i = 10 ∨ i = 11 ∨ i = 12 ∨ i = 13 ∨ i = 14 ∨ i = 15 ∨ i = 16 := by omega
  rcases (show n = 1 ∨ n = 2 ∨ n = 3 by omega) with rfl | rfl | rfl
  · have a := hG 0 (by omega) (by omega); have b := hG 1 (by omega) (by omega)
    rw [at1]
    rcases r with rfl | rfl | rfl | rfl | rfl | rfl | rfl | rfl | rfl | rfl | rfl | rfl | rfl | rfl | rfl | rfl | rfl <;> exact w64_id (by omega) (by omega)
  · have a := hG 0 (by omega) (by omega); have b := hG 1 (by omega) (by omega); have c := hG 2 (by omega) (by omega)
    rw [at2]
    rcases r with rfl | rfl | rfl | rfl | rfl | rfl | rfl | rfl | rfl | rfl | rfl | rfl | rfl | rfl | rfl | rfl | rfl <;> exact w64_id (by omega) (by omega)
  · have a := hG 0 (by omega) (by omega); have b := hG 1 (by omega) (by omega); have c := hG 2 (by omega) (by omega); have d := hG 3 (by omega) (by omega)
    rw [at3]
    rcases r with rfl | rfl | rfl | rfl | rfl | rfl | rfl | rfl | rfl | rfl | rfl | rfl | rfl | rfl | rfl | rfl | rfl <;> exact w64_id (by omega) (by omega)
theorem zer_le {g : Int → Int} {n : Int} (n1 : 1 ≤ n) (n3 : n ≤ 3) (hG : smR g n 24600) (hz : ¬ azP g (Int.toNat (n + 1))) : cntK (fun i => w64 (atI g n i 16)) 0 17 ≤ n := by
  refine Classical.byContradiction fun hc => hz ?_
  have at' : ∀ i : Nat, i < 17 → w64 (atI g n i 16) = 0 → atI g n i 16 = 0 := fun i hi h => by rw [at16_w n1 n3 hG (by omega) (by omega)] at h; exact h
  have fin : (∀ k, 0 ≤ k → k ≤ n → g k = 0) → azP g (Int.toNat (n + 1)) := fun h k hk => by rw [h k (by omega) (by omega)]; rfl
  apply fin
  rcases (show n = 1 ∨ n = 2 ∨ n = 3 by omega) with rfl | rfl | rfl
  · obtain ⟨a, a1, a2, a3⟩ := cnt_ex (f := fun i => w64 (atI g 1 i 16)) (k := 0) (j := 1) 17 (by omega) (by omega)
    obtain ⟨b, b1, b2, -⟩ := cnt_ex (f := fun i => w64 (atI g 1 i 16)) (k := 0) (j := 0) a (by omega) (by omega)
    have pa := at' a a1 a2; have pb := at' b (by omega) b2
    rw [at1] at pa pb
    have z := pol1 (c0 := 16 * g 0) (c1 := g 1 - g 0) (a := (a : Int)) (b := (b : Int)) (by omega) (by grind) (by grind)
    intro k k0 k1
    rcases (show k = 0 ∨ k = 1 by omega) with rfl | rfl <;> omega
  · obtain ⟨a, a1, a2, a3⟩ := cnt_ex (f := fun i => w64 (atI g 2 i 16)) (k := 0) (j := 2) 17 (by omega) (by omega)
    obtain ⟨b, b1, b2, b3⟩ := cnt_ex (f := fun i => w64 (atI g 2 i 16)) (k := 0) (j := 1) a (by omega) (by omega)
    obtain ⟨c, c1, c2, -⟩ := cnt_ex (f := fun i => w64 (atI g 2 i 16)) (k := 0) (j := 0) b (by omega) (by omega)
    have pa := at' a a1 a2; have pb := at' b (by omega) b2; have pc := at' c (by omega) c2
    rw [at2] at pa pb pc
    have z := pol2 (c0 := 256 * g 0) (c1 := 32 * (g 1 - g 0)) (c2 := g 2 - 2 * g 1 + g 0) (a := (a : Int)) (b := (b : Int)) (c := (c : Int)) (by omega) (by omega) (by grind) (by grind) (by grind)
    intro k k0 k1
    rcases (show k = 0 ∨ k = 1 ∨ k = 2 by omega) with rfl | rfl | rfl <;> omega
  · obtain ⟨a, a1, a2, a3⟩ := cnt_ex (f := fun i => w64 (atI g 3 i 16)) (k := 0) (j := 3) 17 (by omega) (by omega)
    obtain ⟨b, b1, b2, b3⟩ := cnt_ex (f := fun i => w64 (atI g 3 i 16)) (k := 0) (j := 2) a (by omega) (by omega)
    obtain ⟨c, c1, c2, c3⟩ := cnt_ex (f := fun i => w64 (atI g 3 i 16)) (k := 0) (j := 1) b (by omega) (by omega)
    obtain ⟨d, d1, d2, -⟩ := cnt_ex (f := fun i => w64 (atI g 3 i 16)) (k := 0) (j := 0) c (by omega) (by omega)
    have pa := at' a a1 a2; have pb := at' b (by omega) b2; have pc := at' c (by omega) c2; have pd := at' d (by omega) d2
    rw [at3] at pa pb pc pd
    have z := pol3 (c0 := 4096 * g 0) (c1 := 768 * (g 1 - g 0)) (c2 := 48 * (g 2 - 2 * g 1 + g 0)) (c3 := g 3 - 3 * g 2 + 3 * g 1 - g 0) (a := (a : Int)) (b := (b : Int)) (c := (c : Int)) (d := (d : Int)) (by omega) (by omega) (by omega) (by grind) (by grind) (by grind) (by grind)
    intro k k0 k1
    rcases (show k = 0 ∨ k = 1 ∨ k = 2 ∨ k = 3 by omega) with rfl | rfl | rfl | rfl <;> omega
