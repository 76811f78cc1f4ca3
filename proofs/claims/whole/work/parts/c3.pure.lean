/-! answers, class against model, at one figure -/
theorem rel_l {F : FF} {A : AA} (h : REL F A) : lnOK (mF A) := by rw [← h.1.1]; exact h.1.2.2
theorem yc_s (a : Int) : y_cmp a a = 0 := by
  unfold y_cmp
  rw [if_neg (by omega), if_pos rfl]
theorem law_e {x a b : Int} (hv : x = w32 a) (he : a = b) : w32 (y_cmp x (w32 b)) = w32 0 := by rw [hv, he, yc_s]
theorem law_l {x a b : Int} (hv : x = a) (he : a = b) : w32 (y_cmp x b) = w32 0 := by rw [hv, he, yc_s]
theorem law_z {x a b : Int} (hv : x = w32 a) (he : a = b) (c : w32 b = w32 0) : w32 (y_cmp x 0) = w32 0 := by
  rw [hv, he, c, show w32 0 = 0 by decide, yc_s]
  decide
theorem law_o {x a b : Int} (hv : x = w32 a) (he : a = b) (h01 : a = 0 ∨ a = 1) (c : ¬ w32 b = w32 0) : w32 (y_cmp x 1) = w32 0 := by
  rcases h01 with z | z
  · exact absurd (by rw [← he, z]) c
  · rw [hv, z, show w32 1 = 1 by decide, yc_s, w32_id (by decide) (by decide)]
theorem le_st {f : Int → Int} {c : Int} (hf : fgOK f) (c0 : 0 ≤ c) (cn : c < f 0) : bc (stP f c (f (18 + c))) = bi (((huL f c).length : Int) < 3) := by
  by_cases z : stP f c (f (18 + c))
  · have := (st_hu hf c0 cn).mpr z
    rw [bc_t z, bi_t (by omega)]
  · have : ¬ (huL f c).length < 3 := fun q => z ((st_hu hf c0 cn).mp q)
    rw [bc_f z, bi_f (by omega)]
theorem le_rf {f : Int → Int} (h : fgOK f) {c l r d : Int} (c0 : 0 ≤ c) (c1 : c < f 0) (l0 : 0 ≤ l) (l1 : l < f 1) : (if (0 ≤ r ∧ r < ((rtsX f c l).length : Int)) ∧ ¬ (rtN (rtsX f c l) r).1 = 2 then (if 0 ≤ d ∧ d ≤ 12 then refP f c l (rtN (rtsX f c l) r) d else -2) else -1) = (if (0 ≤ r ∧ r < ((rtsX f c l).length : Int)) ∧ ¬ (rtN (rtsX f c l) r).1 = 2 then (if 0 ≤ d ∧ d ≤ 12 then rfP f c l (rtN (rtsX f c l) r) d else -2) else -1) := by
  by_cases z : (0 ≤ r ∧ r < ((rtsX f c l).length : Int)) ∧ ¬ (rtN (rtsX f c l) r).1 = 2
  · rw [if_pos z, if_pos z]
    by_cases w : 0 ≤ d ∧ d ≤ 12
    · rw [if_pos w, if_pos w, rf_ref h c0 c1 l0 l1 z.1.1 z.1.2 w.1 w.2 z.2]
    · rw [if_neg w, if_neg w]
  · rw [if_neg z, if_neg z]
theorem le_fi {F G : FF} {A B : AA} {c e : Int} (hf : fgOK (A 2)) (ca : caAll A) (c0 : 0 ≤ c) (cn : c < A 2 0) (g : qrP F G A B ∧ bnP G (A 2) e ∧ grQ A B c (A 2 3)) : firI (fun jj => ¬ clP G B c (p2 (A 2 3) - 1 + jj) (B 12 c)) (Int.toNat (p2 (A 2 3))) 0 = firI (fun jj => ¬ clM (A 2) c e jj) (Int.toNat (p2 (A 2 3))) 0 :=
  fir_cl hf c0 cn (funext fun i => g.1.2.1 2 i (by decide)) g.2.1 g.2.2.2.1 g.2.2.2.2.1
theorem le_la {F G : FF} {A B : AA} {c e : Int} (hf : fgOK (A 2)) (ca : caAll A) (c0 : 0 ≤ c) (cn : c < A 2 0) (g : qrP F G A B ∧ bnP G (A 2) e ∧ grQ A B c (A 2 3)) : lasI (fun jj => ¬ clP G B c (p2 (A 2 3) - 1 + jj) (B 12 c)) (Int.toNat (p2 (A 2 3))) = lasI (fun jj => ¬ clM (A 2) c e jj) (Int.toNat (p2 (A 2 3))) :=
  las_cl hf c0 cn (funext fun i => g.1.2.1 2 i (by decide)) g.2.1 g.2.2.2.1 g.2.2.2.2.1
theorem le_mc {F G H : FF} {A B C : AA} {c e : Int} (hf : fgOK (A 2)) (ca : caAll A) (c0 : 0 ≤ c) (cn : c < A 2 0) (e0 : 0 ≤ e) (en : e < A 2 0) (g : gqP F G H A B C c e) : gqN H C (A 2 3) = gnX (A 2) c e := (gr_eq (C := B) hf c0 cn e0 en ca g.2.1).2
theorem le_mo {F G H : FF} {A B C : AA} {c e q r : Int} (hf : fgOK (A 2)) (ca : caAll A) (c0 : 0 ≤ c) (cn : c < A 2 0) (e0 : 0 ≤ e) (en : e < A 2 0) (g : gqP F G H A B C c e) : mtA (B 20) (p2 (A 2 3)) q r = mtA (gmX (A 2) c e) (p2 (A 2 3)) q r :=
  mtA_c fun k k0 k1 => by rw [g.2.2]; exact (gr_eq (C := B) hf c0 cn e0 en ca g.2.1).1 k k0 k1
theorem le_mn {F G H : FF} {A B C : AA} {c e m w : Int} (hf : fgOK (A 2)) (ca : caAll A) (c0 : 0 ≤ c) (cn : c < A 2 0) (e0 : 0 ≤ e) (en : e < A 2 0) (g : gqP F G H A B C c e) : (if 0 ≤ m ∧ m < gqN H C (A 2 3) then (if 0 ≤ w ∧ w ≤ 4 then mvR (B 20) m (p2 (A 2 3)) w else -2) else -1) = (if 0 ≤ m ∧ m < gnX (A 2) c e then (if 0 ≤ w ∧ w ≤ 4 then mvR (gmX (A 2) c e) m (p2 (A 2 3)) w else -2) else -1) := by
  rw [le_mc hf ca c0 cn e0 en g, mvR_c (g := B 20) (r := gmX (A 2) c e) (fun k k0 k1 => by rw [g.2.2]; exact (gr_eq (C := B) hf c0 cn e0 en ca g.2.1).1 k k0 k1)]
/-- feed, class then model -/
theorem lw_fd {F G : FF} {A B : AA} {a b c d e : Int} (h : REL F A) (g : (F 7 1 ≤ 780 → G = upF F 7 1 (F 7 1 + 20) ∧ B = setR A 8 (F 7 1) 20 (fdF a b c d e)) ∧ (¬ F 7 1 ≤ 780 → ch0 F G A B)) :
    G 25 2 = F 7 1 ∧ ∀ H C, ((G 25 2 ≤ 780 → H = upF (upF G 25 0 0) 25 2 (G 25 2 + 20) ∧ C = setR B 26 (G 25 2) 20 (fun kk => fdF a b c d e kk % 256)) ∧ (¬ G 25 2 ≤ 780 → H = upF G 25 0 0 ∧ C = B)) → REL H C := by
  by_cases z : F 7 1 ≤ 780
  · obtain ⟨e1, e2⟩ := g.1 z
    have gm : G 25 2 = F 7 1 := by rw [e1, upF_o (by decide)]; exact h.2.1.2.1
    refine ⟨gm, fun H C hm => ?_⟩
    obtain ⟨e3, e4⟩ := hm.1 (by rw [gm]; exact z)
    exact rel_fd h z e1 e2 e3 e4
  · obtain ⟨rfl, rfl⟩ := g.2 z
    have gm : G 25 2 = G 7 1 := h.2.1.2.1
    refine ⟨gm, fun H C hm => ?_⟩
    obtain ⟨rfl, rfl⟩ := hm.2 (by rw [gm]; exact z)
    exact rel_0 h
/-- undo, class then model -/
theorem lw_ud {F G : FF} {A B : AA} (h : REL F A) (g : (F 5 2 = 0 → ch0 F G A B) ∧ (¬ F 5 2 = 0 → G = upF F 5 2 (F 5 2 - 1) ∧ B = setR A 2 0 140 (fun jj => A 6 ((F 5 1 + F 5 2 - 1) % 10 * 140 + jj)))) :
    G 25 8 = F 5 2 ∧ ∀ H C, ((G 25 8 = 0 → ms0 G H B C) ∧ (¬ G 25 8 = 0 → (∀ aa bb, aa ≠ 25 ∨ (bb ≠ 0 ∧ bb ≠ 8) → H aa bb = G aa bb) ∧ H 25 0 = 0 ∧ H 25 8 = G 25 8 - 1 ∧ (∀ bb ii, bb ≠ 29 → C bb ii = B bb ii) ∧ ∀ kk, 0 ≤ kk → kk < 124 → C 29 kk = B 31 (124 * (G 25 8 - 1) + kk))) → REL H C := by
  by_cases z : F 5 2 = 0
  · obtain ⟨rfl, rfl⟩ := g.1 z
    have gm : G 25 8 = G 5 2 := h.2.2.1.2.1
    refine ⟨gm, fun H C hm => ?_⟩
    obtain ⟨rfl, rfl⟩ := hm.1 (by rw [gm]; exact z)
    exact rel_0 h
  · obtain ⟨e1, e2⟩ := g.2 z
    have gm : G 25 8 = F 5 2 := by rw [e1, upF_o (by decide)]; exact h.2.2.1.2.1
    refine ⟨gm, fun H C hm => ?_⟩
    obtain ⟨w1, -, w3, w4, w5⟩ := hm.2 (by rw [gm]; exact z)
    exact rel_un h z e1 e2 w1 w3 w4 w5
theorem chq_R {p : Prop} {F G : FF} {A B : AA} {g : Int → Int} (h : chQ p F G A B g) : (p → chR F G A B g) ∧ (¬ p → ch0 F G A B) := ⟨fun z => chP_R (h.1 z), h.2⟩
theorem rel_8 {p : Prop} {F G : FF} {A B : AA} {g : Int → Int} (h : REL F A) (hc : (p → chR F G A B g) ∧ (¬ p → ch0 F G A B)) : 0 ≤ G 25 8 ∧ G 25 8 ≤ 10 := by
  have e : G 25 8 = F 5 2 := by
    by_cases z : p
    · rw [(hc.1 z).1 25 8 (by decide), ← h.2.2.1.2.1]
      unfold kF
      rw [upF_o (by decide), upF_o (by decide)]
    · rw [(hc.2 z).1]; exact h.2.2.1.2.1
  rw [e]
  exact h.2.2.1.1.2
