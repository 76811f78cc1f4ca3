/-! what load answers, what the figure is then -/
theorem a8_app {P : Nat → Prop} {l m : List Nat} (h : ∀ a, a ∈ l → P a) (k : ∀ a, a ∈ m → P a) : ∀ a, a ∈ l ++ m → P a := fun a ha => (List.mem_append.mp ha).elim (h a) (k a)
theorem decL_8 {v : Nat} (h : v ≤ 100) : ∀ a, a ∈ decL v → a < 128 ∧ a ≠ 59 := fun a ha => by have := decL_dg h a ha; omega
theorem txN_8 {L : Nat} {xs : Nat → Int32} {c k w : Nat} : ∀ a, a ∈ txN L xs c k w → a < 128 ∧ a ≠ 59 := by
  have b := (ptN_b (L := L) (xs := xs) (c := c) (k := k) (w := w)).1
  exact a8_app (by decide) (decL_8 (by omega))
theorem txPs_8 {L : Nat} {xs : Nat → Int32} {c : Nat} : ∀ k a, a ∈ txPs L xs c k → a < 128 ∧ a ≠ 59
  | 0, a, h => by simp [txPs] at h
  | k + 1, a, h => a8_app (txPs_8 k) (a8_app txN_8 (a8_app txN_8 txN_8)) a h
theorem sgL_8 {v : Int} (h1 : -100 ≤ v) (h2 : v ≤ 100) : ∀ a, a ∈ sgL v → a < 128 ∧ a ≠ 59 := by
  unfold sgL
  split
  · exact a8_app (by decide) (decL_8 (by omega))
  · exact a8_app (by decide) (decL_8 (by omega))
theorem txH_8 {c : Nat} (hc : c < 6) : ∀ a, a ∈ txH c → a < 128 ∧ a ≠ 59 := a8_app (by decide) (fun a ha => by simp at ha; omega)
theorem l9 {l : List Nat} (h : ∀ a, a ∈ l → a < 128 ∧ a ≠ 59) : (∀ a, a ∈ l → a < 128) ∧ l.count 59 = 0 := ⟨fun a ha => (h a ha).1, List.count_eq_zero.mpr (fun m => (h 59 m).2 rfl)⟩
theorem tx0_8 (L : Nat) (xs : Nat → Int32) : (∀ a, a ∈ tx0 L xs → a < 128) ∧ (tx0 L xs).count 59 = 2 := by
  have b1 := ltN_b (L := L) (xs := xs)
  have b2 := dpN_b (L := L) (xs := xs)
  have d1 := l9 (decL_8 (v := ltN L xs) (by omega))
  have d2 := l9 (decL_8 (v := dpN L xs) (by omega))
  unfold tx0
  refine ⟨a8_app (a8_app (a8_app (a8_app (by decide) d1.1) (by decide)) d2.1) (by decide), ?_⟩
  rw [List.count_append, List.count_append, List.count_append, List.count_append, d1.2, d2.2]; rfl
theorem txC_8 (L : Nat) (xs : Nat → Int32) {c : Nat} (hc : c < 5) : (∀ a, a ∈ txC L xs c → a < 128) ∧ (txC L xs c).count 59 = 1 := by
  have d1 := l9 (txH_8 (c := c) (by omega))
  have d2 := l9 (txPs_8 (L := L) (xs := xs) (c := c) (ptC L xs c))
  unfold txC
  refine ⟨a8_app (a8_app d1.1 d2.1) (by decide), ?_⟩
  rw [List.count_append, List.count_append, d1.2, d2.2]; rfl
theorem txCs_8 (L : Nat) (xs : Nat → Int32) : ∀ c, c ≤ 5 → (∀ a, a ∈ txCs L xs c → a < 128) ∧ (txCs L xs c).count 59 = c
  | 0, _ => ⟨fun a ha => by simp [txCs] at ha, rfl⟩
  | c + 1, h => by
    have i := txCs_8 L xs c (by omega)
    have d := txC_8 L xs (c := c) (by omega)
    refine ⟨a8_app i.1 d.1, ?_⟩
    show (txCs L xs c ++ txC L xs c).count 59 = c + 1
    rw [List.count_append, i.2, d.2]
theorem txL_8 (L : Nat) (xs : Nat → Int32) {j : Nat} (hj : j < 4) : (∀ a, a ∈ txL L xs j → a < 128) ∧ (txL L xs j).count 59 = 1 := by
  have b0 := lnV_b (L := L) (xs := xs) (j := j) (w := 0)
  have b1 := lnV_b (L := L) (xs := xs) (j := j) (w := 1)
  have b2 := lnV_b (L := L) (xs := xs) (j := j) (w := 2)
  have d0 := l9 (sgL_8 b0.1 b0.2.1)
  have d1 := l9 (sgL_8 b1.1 b1.2.1)
  have d2 := l9 (sgL_8 b2.1 b2.2.1)
  have dk := l9 (l := [108, 97 + j]) (fun a ha => by simp at ha; omega)
  unfold txL
  refine ⟨a8_app (a8_app (a8_app (a8_app (a8_app (by decide) dk.1) d0.1) d1.1) d2.1) (by decide), ?_⟩
  rw [List.count_append, List.count_append, List.count_append, List.count_append, List.count_append, dk.2, d0.2, d1.2, d2.2]; rfl
theorem txLs_8 (L : Nat) (xs : Nat → Int32) : ∀ j, j ≤ 4 → (∀ a, a ∈ txLs L xs j → a < 128) ∧ (txLs L xs j).count 59 = j
  | 0, _ => ⟨fun a ha => by simp [txLs] at ha, rfl⟩
  | j + 1, h => by
    have i := txLs_8 L xs j (by omega)
    have d := txL_8 L xs (j := j) (by omega)
    refine ⟨a8_app i.1 d.1, ?_⟩
    show (txLs L xs j ++ txL L xs j).count 59 = j + 1
    rw [List.count_append, i.2, d.2]
theorem txT_8 (L : Nat) (xs : Nat → Int32) : (∀ a, a ∈ txT L xs → a < 128) ∧ (txT L xs).count 59 = 2 + cvN L xs + lnN L xs := by
  have b1 := (cvN_b (L := L) (xs := xs)).2
  have b2 := (lnN_b (L := L) (xs := xs)).2
  have d0 := tx0_8 L xs
  have d1 := txCs_8 L xs (cvN L xs) b1
  have d2 := txLs_8 L xs (lnN L xs) b2
  unfold txT
  refine ⟨a8_app (a8_app d0.1 d1.1) d2.1, ?_⟩
  rw [List.count_append, List.count_append, d0.2, d1.2, d2.2]
theorem lt_mem {l : List Nat} {q : Nat} (h : ∀ a, a ∈ l → a < 128) : lt l q < 128 := by
  unfold lt
  rw [List.getD_eq_getElem?_getD]
  cases e : l[q]? with
  | none => decide
  | some a => exact h a (List.mem_of_getElem? e)
theorem txT_p (L : Nat) (xs : Nat → Int32) : ∀ q, lt (pdL (txT L xs)) q < 128 := fun q => lt_mem (a8_app (txT_8 L xs).1 (fun a ha => by rw [List.mem_replicate] at ha; omega))
theorem Rm_0 {X : List Nat} {A : AA} (h : ∀ q, lt (pdL X) q < 128) : Rm (ptA (lt (pdL X)) A (X.length + nd20 X.length) 8) X.length 0 X := by
  refine ⟨by omega, Int.le_refl 0, fun i hi => ?_⟩
  unfold sgT
  rw [if_pos (by omega), Int.zero_add]
  have e : ptA (lt (pdL X)) A (X.length + nd20 X.length) 8 (i : Int) = ((lt (pdL X) i : Nat) : Int) := by
    unfold ptA
    rw [setR_in (by omega) (by omega), Int.sub_zero]
    unfold ptI
    rw [Int.toNat_natCast]
  have e2 : lt (pdL X) i = X.getD i 0 := lt_lo hi
  have h2 := h i
  rw [e, ← e2]
  omega
theorem em_n {f : Int → Int} : nmP (emR f) 0 0 := by
  unfold emR
  refine ⟨?_, ?_, fun i hi => by omega, fun i hi => by omega⟩
  · rw [up1_o (by decide), up1_o (by decide), if_pos (by decide)]; rfl
  · rw [up1_o (by decide), up1_o (by decide), if_pos (by decide)]; rfl
theorem ld_txt (L : Nat) (xs : Nat → Int32) (A : AA) (F : FF) : (ldR (ptA (lt (pdL (txT L xs))) A ((txT L xs).length + nd20 (txT L xs).length)) F (txT L xs).length).1 = (((txT L xs).count 59 : Nat) : Int) ∧ nmP (ldR (ptA (lt (pdL (txT L xs))) A ((txT L xs).length + nd20 (txT L xs).length)) F (txT L xs).length).2.2.1 (cvN L xs) (lnN L xs) := by
  obtain ⟨t, f', g, e, b⟩ := rd_T (v := F 7 6) (f := emR (ptA (lt (pdL (txT L xs))) A ((txT L xs).length + nd20 (txT L xs).length) 4)) em_n (Rm_0 (A := A) (txT_p L xs))
  have e2 : ldR (ptA (lt (pdL (txT L xs))) A ((txT L xs).length + nd20 (txT L xs).length)) F (txT L xs).length = (((2 + cvN L xs + lnN L xs : Nat) : Int), t, f', g) := e
  rw [e2, (txT_8 L xs).2]
  exact ⟨rfl, b⟩
