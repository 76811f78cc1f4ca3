/-! changes: rows and answers speak of the figure's own places alone -/
abbrev eqR (r f : Int → Int) : Prop := ∀ i, 0 ≤ i → i < 140 → r i = f i
theorem movR_c {r f : Int → Int} (h : eqR r f) {c k x y : Int} : eqR (movR f c k x y) (movR r c k x y) := fun i i0 i1 => by unfold movR; rw [h i i0 i1]
theorem wgR_c {r f : Int → Int} (h : eqR r f) {c k w : Int} : eqR (wgR f c k w) (wgR r c k w) := fun i i0 i1 => by unfold wgR; rw [h i i0 i1]
theorem stR_c {r f : Int → Int} (h : eqR r f) {s v : Int} : eqR (stR f s v) (stR r s v) := fun i i0 i1 => by unfold stR; rw [h i i0 i1]
theorem lnR_c {r f : Int → Int} (h : eqR r f) {l a b c : Int} : eqR (lnR f l a b c) (lnR r l a b c) := fun i i0 i1 => by unfold lnR; rw [h i i0 i1]
theorem insR_c {r f : Int → Int} (h : eqR r f) {c k x y w : Int} (c0 : 0 ≤ c) (c1 : c < 8) (k0 : 0 ≤ k) (hn : f (18 + c) ≤ 3) : eqR (insR f c k x y w) (insR r c k x y w) := fun i i0 i1 => by
  have e : upR r c k (r (18 + c)) i = upR f c k (f (18 + c)) i := by
    unfold upR
    rw [h (18 + c) (by omega) (by omega), h i i0 i1]
    by_cases z : 26 + c * 12 + 3 * (k + 1) ≤ i ∧ i < 26 + c * 12 + 3 * (f (18 + c) + 1)
    · rw [if_pos z, if_pos z, h (i - 3) (by omega) (by omega)]
    · rw [if_neg z, if_neg z]
  unfold insR
  rw [e, h (18 + c) (by omega) (by omega)]
theorem drpR_c {r f : Int → Int} (h : eqR r f) {c k : Int} (c0 : 0 ≤ c) (c1 : c < 8) (k0 : 0 ≤ k) (hn : f (18 + c) ≤ 4) : eqR (drpR f c k) (drpR r c k) := fun i i0 i1 => by
  have e : dnR r c k (r (18 + c) - 1) i = dnR f c k (f (18 + c) - 1) i := by
    unfold dnR
    rw [h (18 + c) (by omega) (by omega), h i i0 i1]
    by_cases z : 26 + c * 12 + 3 * k ≤ i ∧ i < 26 + c * 12 + 3 * (f (18 + c) - 1)
    · rw [if_pos z, if_pos z, h (i + 3) (by omega) (by omega)]
    · rw [if_neg z, if_neg z]
  unfold drpR
  rw [e, h (18 + c) (by omega) (by omega)]
theorem revR_c {r f : Int → Int} (h : eqR r f) {c : Int} (c0 : 0 ≤ c) (c1 : c < 8) (hn : f (18 + c) ≤ 4) : eqR (revR f c) (revR r c) := fun i i0 i1 => by
  unfold revR
  rw [h (18 + c) (by omega) (by omega), h i i0 i1]
  by_cases z : 26 + c * 12 ≤ i ∧ i < 26 + c * 12 + 3 * f (18 + c)
  · rw [if_pos z, if_pos z, h (26 + c * 12 + 3 * (f (18 + c) - 1 - (i - 26 - c * 12) / 3) + (i - 26 - c * 12) % 3) (by omega) (by omega)]
  · rw [if_neg z, if_neg z]
theorem pxF_c {r f : Int → Int} (h : eqR r f) {c k w : Int} (c0 : 0 ≤ c) (c1 : c < 8) (k0 : 0 ≤ k) (k1 : k < 4) (w0 : 0 ≤ w) (w1 : w ≤ 2) : pxF r c k w = pxF f c k w := h _ (by omega) (by omega)
theorem cfX_c {r f : Int → Int} (h : eqR r f) {c l k : Int} (c0 : 0 ≤ c) (c1 : c < 8) (l0 : 0 ≤ l) (l1 : l < 6) (k0 : 0 ≤ k) (k1 : k < 4) : cfX r c l k = cfX f c l k := by
  unfold cfX
  rw [h (26 + (c * 4 + k) * 3 + 2) (by omega) (by omega), h (122 + l * 3 + 0) (by omega) (by omega), h (26 + (c * 4 + k) * 3 + 0) (by omega) (by omega), h (122 + l * 3 + 1) (by omega) (by omega), h (26 + (c * 4 + k) * 3 + 1) (by omega) (by omega), h (122 + l * 3 + 2) (by omega) (by omega)]
theorem sumI_cc {g g' : Int → Int} : ∀ n : Nat, (∀ j : Int, 0 ≤ j → j < n → g j = g' j) → sumI g n = sumI g' n
  | 0, _ => rfl
  | n + 1, h => by
    unfold sumI
    rw [sumI_cc n (fun j j0 j1 => h j j0 (by omega)), h n (by omega) (by omega)]
theorem onF_c {r f : Int → Int} (h : eqR r f) {l : Int} (l0 : 0 ≤ l) (l1 : l < 6) (n : Nat) (hn : n ≤ 8) (hs : ∀ c : Int, 0 ≤ c → c < n → f (18 + c) ≤ 4) : onF r l n = onF f l n :=
  sumI_cc n fun j j0 j1 => by
    have e := h (18 + j) (by omega) (by omega)
    have q := hs j j0 j1
    rw [e]
    exact bi_c (azP_c (fun k hk => cfX_c h j0 (by omega) l0 l1 (by omega) (by omega)))
/-- the model's row after a change of the class -/
theorem ch_m {F G : FF} {A B : AA} {g : Int → Int} (h2 : A 2 = mF A) (h : chR F G A B g) : eqR (mF B) (A 2) := fun i i0 i1 => by
  rw [h2]
  exact mF_i (fun j _ _ => by rw [h.2.1 27 j (by decide)]; unfold kA; exact setR_o (by decide)) (fun j _ _ => by rw [h.2.1 29 j (by decide)]; unfold kA; exact setR_o (by decide)) i0 i1
theorem rel_cq {p p' : Prop} {F G H : FF} {A B C : AA} {g g' : Int → Int} (h : REL F A) (hc : (p → chR F G A B g) ∧ (¬ p → ch0 F G A B)) (hm : (p' → msP G H B C g') ∧ (¬ p' → ms0 G H B C))
    (hp : eqR (mF B) (A 2) → (p ↔ p')) (hg : eqR (mF B) (A 2) → p → eqR g g') (hf : p → figR g) : REL H C := by
  by_cases z : p
  · have c1 := hc.1 z
    have e := ch_m h.1.1 c1
    exact rel_ch h c1 (hg e z) (hf z) (hm.1 ((hp e).mp z))
  · obtain ⟨rfl, rfl⟩ := hc.2 z
    obtain ⟨rfl, rfl⟩ := hm.2 (fun q => z ((hp (fun i _ _ => by rw [h.1.1])).mpr q))
    exact rel_0 h
theorem rel_e {p : Prop} {F G : FF} {A B : AA} {g : Int → Int} (h : REL F A) (hc : (p → chR F G A B g) ∧ (¬ p → ch0 F G A B)) : eqR (mF B) (A 2) := by
  by_cases z : p
  · exact ch_m h.1.1 (hc.1 z)
  · obtain ⟨rfl, rfl⟩ := hc.2 z
    exact fun i _ _ => by rw [h.1.1]
/-- fgOK of the model's row then -/
theorem rel_g {r f : Int → Int} (e : eqR r f) (h : figR f) : fgOK r := (fig_c h e).1
abbrev crP (f : Int → Int) (c : Int) : Prop := 0 ≤ c ∧ c < f 0
theorem eqR_n {r f : Int → Int} (e : eqR r f) (h : fgOK f) {c : Int} (c0 : 0 ≤ c) (c1 : c < f 0) : r (18 + c) = f (18 + c) ∧ c < 8 ∧ 2 ≤ f (18 + c) ∧ f (18 + c) ≤ 4 := by
  have b := h.1.1.2
  have q := (h.2.2.1 c c0 c1).1
  exact ⟨e _ (by omega) (by omega), by omega, q⟩
theorem mv_p {r f : Int → Int} (e : eqR r f) (h : fgOK f) {c k : Int} {q : Prop} : ((0 ≤ c ∧ c < f 0 ∧ 0 ≤ k ∧ k < f (18 + c)) ∧ q) ↔ ((0 ≤ c ∧ c < r 0 ∧ 0 ≤ k ∧ k < r (18 + c)) ∧ q) := by
  have e0 := e 0 (by decide) (by decide)
  rw [e0]
  by_cases z : 0 ≤ c ∧ c < f 0
  · rw [(eqR_n e h z.1 z.2).1]
  · exact ⟨fun w => absurd ⟨w.1.1, w.1.2.1⟩ z, fun w => absurd ⟨w.1.1, w.1.2.1⟩ z⟩
theorem mv_v {r f : Int → Int} (e : eqR r f) (h : fgOK f) {c k : Int} {q : Prop} [Decidable q] {u v : Int} {X Y : Int} (hX : 0 ≤ c → c < f 0 → 0 ≤ k → k < f (18 + c) → X = Y) : (if (0 ≤ c ∧ c < f 0 ∧ 0 ≤ k ∧ k < f (18 + c)) then (if q then X else u) else v) = (if (0 ≤ c ∧ c < r 0 ∧ 0 ≤ k ∧ k < r (18 + c)) then (if q then Y else u) else v) := by
  have e0 := e 0 (by decide) (by decide)
  rw [e0]
  by_cases z : 0 ≤ c ∧ c < f 0
  · rw [(eqR_n e h z.1 z.2).1]
    by_cases w : 0 ≤ c ∧ c < f 0 ∧ 0 ≤ k ∧ k < f (18 + c)
    · rw [if_pos w, if_pos w, hX w.1 w.2.1 w.2.2.1 w.2.2.2]
    · rw [if_neg w, if_neg w]
  · rw [if_neg (fun w => z ⟨w.1, w.2.1⟩), if_neg (fun w => z ⟨w.1, w.2.1⟩)]
