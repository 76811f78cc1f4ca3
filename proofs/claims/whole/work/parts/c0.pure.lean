/-! the law's relation of class and model -/
theorem mF_i {A B : AA} (h27 : ∀ j, 0 ≤ j → j < 16 → B 27 j = A 27 j) (h29 : ∀ j, 0 ≤ j → j < 124 → B 29 j = A 29 j) {i : Int} (i0 : 0 ≤ i) (i1 : i < 140) : mF B i = mF A i := by
  unfold mF
  by_cases z0 : i = 0
  · rw [if_pos z0, if_pos z0, h27 14 (by decide) (by decide)]
  rw [if_neg z0, if_neg z0]
  by_cases z1 : i = 1
  · rw [if_pos z1, if_pos z1, h27 15 (by decide) (by decide)]
  rw [if_neg z1, if_neg z1]
  by_cases z2 : 2 ≤ i ∧ i < 4
  · rw [if_pos z2, if_pos z2, h29 _ (by omega) (by omega)]
  rw [if_neg z2, if_neg z2]
  by_cases z3 : 4 ≤ i ∧ i < 12
  · rw [if_pos z3, if_pos z3, h27 _ (by omega) (by omega)]
  rw [if_neg z3, if_neg z3]
  by_cases z4 : 12 ≤ i ∧ i < 18
  · rw [if_pos z4, if_pos z4, h27 _ (by omega) (by omega)]
  rw [if_neg z4, if_neg z4]
  by_cases z5 : 18 ≤ i ∧ i < 26
  · rw [if_pos z5, if_pos z5, h29 _ (by omega) (by omega)]
  rw [if_neg z5, if_neg z5]
  by_cases z6 : 26 ≤ i ∧ i < 122
  · rw [if_pos z6, if_pos z6, h29 _ (by omega) (by omega)]
  rw [if_neg z6, if_neg z6, if_pos (show 122 ≤ i ∧ i < 140 by omega), if_pos (show 122 ≤ i ∧ i < 140 by omega), h29 _ (by omega) (by omega)]
theorem mF_out {A : AA} {i : Int} (h : i < 0 ∨ 140 ≤ i) : mF A i = A 2 i := by
  unfold mF
  rw [if_neg (by omega), if_neg (by omega), if_neg (by omega), if_neg (by omega), if_neg (by omega), if_neg (by omega), if_neg (by omega), if_neg (by omega)]
/-- a row that is the model's figure in its places is it everywhere -/
theorem mF_eq {A : AA} (h : ∀ i, 0 ≤ i → i < 140 → A 2 i = mF A i) : A 2 = mF A := funext fun i => by
  by_cases z : 0 ≤ i ∧ i < 140
  · exact h i z.1 z.2
  · rw [mF_out (by omega)]
def hcR (F : FF) (A : AA) (k : Int) : Int → Int := fun i => A 6 ((F 5 1 + k) % 10 * 140 + i)
def hmA (A : AA) (k : Int) : AA := fun b i => if b = 29 then A 31 (124 * k + i) else A b i
theorem hmA_29 {A : AA} {k i : Int} : hmA A k 29 i = A 31 (124 * k + i) := if_pos rfl
theorem hmA_o {A : AA} {k i : Int} {b : Nat} (h : b ≠ 29) : hmA A k b i = A b i := if_neg h
def hsE (F : FF) (A : AA) : Prop := ∀ k, 0 ≤ k → k < F 5 2 → figR (hcR F A k) ∧ ∀ i, 0 ≤ i → i < 140 → hcR F A k i = mF (hmA A k) i
def REL (F : FF) (A : AA) : Prop := (A 2 = mF A ∧ figR (A 2)) ∧ ((0 ≤ F 7 1 ∧ F 7 1 ≤ 800) ∧ F 25 2 = F 7 1 ∧ byR (A 8) (A 26) (F 7 1) ∧ byO (A 26)) ∧ (hsOK F ∧ F 25 8 = F 5 2 ∧ hsE F A) ∧ F 25 28 = F 0 9 ∧ (caAll A ∧ r20 A) ∧ (-2147483648 ≤ F 7 6 ∧ F 7 6 < 2147483648) ∧ (0 ≤ F 25 27 ∧ F 25 27 ≤ 800) ∧ (-1 ≤ F 25 24 ∧ F 25 24 ≤ 2000000)
theorem hsE_c {F G : FF} {A B : AA} (h1 : G 5 1 = F 5 1) (h2 : G 5 2 = F 5 2) (h6 : B 6 = A 6) (h27 : ∀ j, 0 ≤ j → j < 16 → B 27 j = A 27 j) (h31 : B 31 = A 31) (h : hsE F A) : hsE G B := fun k k0 k1 => by
  rw [h2] at k1
  obtain ⟨a, b⟩ := h k k0 k1
  have e : hcR G B k = hcR F A k := funext fun i => by unfold hcR; rw [h1, h6]
  rw [e]
  refine ⟨a, fun i i0 i1 => (b i i0 i1).trans (mF_i (fun j j0 j1 => ?_) (fun j _ _ => ?_) i0 i1).symm⟩
  · rw [hmA_o (by decide), hmA_o (by decide), h27 j j0 j1]
  · rw [hmA_29, hmA_29, h31]
theorem rel_c {F G : FF} {A B : AA} (h : REL F A) (h2 : B 2 = A 2) (h6 : B 6 = A 6) (h8 : B 8 = A 8) (h26 : B 26 = A 26) (h27 : B 27 = A 27) (h29 : B 29 = A 29) (h31 : B 31 = A 31) (f0 : G 0 9 = F 0 9) (f1 : G 7 1 = F 7 1) (f2 : G 7 6 = F 7 6) (f3 : G 5 1 = F 5 1) (f4 : G 5 2 = F 5 2) (f5 : ∀ b, b = 2 ∨ b = 8 ∨ b = 28 ∨ b = 24 ∨ b = 27 → G 25 b = F 25 b) (hc : caAll B) (hr : r20 B) : REL G B := by
  obtain ⟨⟨a1, a2⟩, ⟨b1, b2, b3, b4⟩, ⟨⟨c1, c2⟩, c3, c4⟩, d, -, e, g, i⟩ := h
  refine ⟨⟨?_, ?_⟩, ⟨?_, ?_, ?_, ?_⟩, ⟨⟨?_, ?_⟩, ?_, hsE_c f3 f4 h6 (fun j _ _ => by rw [h27]) h31 c4⟩, ?_, ⟨hc, hr⟩, ?_, ?_, ?_⟩
  · rw [mF_c h2 h27 h29, h2]; exact a1
  · rw [h2]; exact a2
  · rw [f1]; exact b1
  · rw [f5 2 (by decide), f1]; exact b2
  · rw [h8, h26, f1]; exact b3
  · rw [h26]; exact b4
  · rw [f3]; exact c1
  · rw [f4]; exact c2
  · rw [f5 8 (by decide), f4]; exact c3
  · rw [f5 28 (by decide), f0]; exact d
  · rw [f2]; exact e
  · rw [f5 27 (by decide)]; exact g
  · rw [f5 24 (by decide)]; exact i
/-- a question of the class -/
theorem rel_qr {F G : FF} {A B : AA} (h : REL F A) (q : qrP F G A B) : REL G B :=
  have r : ∀ b : Nat, (b < 10 ∨ b = 14 ∨ b = 19 ∨ b = 22 ∨ 24 ≤ b) → B b = A b := fun b hb => funext fun i => q.2.1 b i hb
  rel_c h (r 2 (by decide)) (r 6 (by decide)) (r 8 (by decide)) (r 26 (by decide)) (r 27 (by decide)) (r 29 (by decide)) (r 31 (by decide)) (q.1 0 9 (by decide)) (q.1 7 1 (by decide)) (q.1 7 6 (by decide)) (q.1 5 1 (by decide)) (q.1 5 2 (by decide)) (fun b _ => q.1 25 b (by decide)) (q.2.2.1 h.2.2.2.2.1.1) (q.2.2.2 h.2.2.2.2.1.2)
/-- a question of the model -/
theorem rel_qd {F G : FF} {A B : AA} (h : REL F A) (q : qdP F G A B) : REL G B :=
  have r : ∀ b : Nat, (b < 32 ∨ 42 < b) → B b = A b := fun b hb => funext fun i => q.2 b i hb
  rel_c h (r 2 (by decide)) (r 6 (by decide)) (r 8 (by decide)) (r 26 (by decide)) (r 27 (by decide)) (r 29 (by decide)) (r 31 (by decide)) (q.1 0 9 (by decide)) (q.1 7 1 (by decide)) (q.1 7 6 (by decide)) (q.1 5 1 (by decide)) (q.1 5 2 (by decide)) (fun b hb => q.1 25 b (by omega)) (caAll_c (r 10 (by decide)) (r 11 (by decide)) (r 12 (by decide)) (r 13 (by decide)) h.2.2.2.2.1.1) (r20_c (r 20 (by decide)) h.2.2.2.2.1.2)
/-- the law's own row -/
theorem rel_up {F : FF} {A : AA} {i v : Int} (h : REL F A) : REL F (upA A 43 i v) :=
  have r : ∀ b : Nat, b ≠ 43 → upA A 43 i v b = A b := fun b hb => upA_r hb
  rel_c h (r 2 (by decide)) (r 6 (by decide)) (r 8 (by decide)) (r 26 (by decide)) (r 27 (by decide)) (r 29 (by decide)) (r 31 (by decide)) rfl rfl rfl rfl rfl (fun _ _ => rfl) (caAll_c (r 10 (by decide)) (r 11 (by decide)) (r 12 (by decide)) (r 13 (by decide)) h.2.2.2.2.1.1) (r20_c (r 20 (by decide)) h.2.2.2.2.1.2)
/-- nothing done by the class, thrown set by the model -/
theorem rel_0 {F : FF} {A : AA} {v : Int} (h : REL F A) : REL (upF F 25 0 v) A :=
  rel_c h rfl rfl rfl rfl rfl rfl rfl rfl rfl rfl rfl rfl (fun b hb => upF_o (by omega)) h.2.2.2.2.1.1 h.2.2.2.2.1.2
theorem rel_f {F : FF} {A : AA} (h : REL F A) : fgOK (A 2) := h.1.2.1
theorem rel_m {F : FF} {A : AA} (h : REL F A) : fgOK (mF A) := by rw [← h.1.1]; exact h.1.2.1
/-- feed, both stores -/
theorem rel_fd {F G H : FF} {A B C : AA} {v0 v1 v2 v3 v4 : Int} (h : REL F A) (hx : F 7 1 ≤ 780) (hG : G = upF F 7 1 (F 7 1 + 20)) (hB : B = setR A 8 (F 7 1) 20 (fdF v0 v1 v2 v3 v4)) (hH : H = upF (upF G 25 0 0) 25 2 (G 25 2 + 20)) (hC : C = setR B 26 (G 25 2) 20 (fun kk => fdF v0 v1 v2 v3 v4 kk % 256)) : REL H C := by
  obtain ⟨⟨a1, a2⟩, ⟨b1, b2, b3, b4⟩, ⟨⟨c1, c2⟩, c3, c4⟩, d, ⟨ca, cr⟩, e, g, i⟩ := h
  have gF : ∀ aa bb, aa ≠ 7 ∨ bb ≠ 1 → G aa bb = F aa bb := fun aa bb z => by rw [hG, upF_o z]
  have g1 : G 7 1 = F 7 1 + 20 := by rw [hG, upF_s]
  have hF : ∀ aa bb, (aa ≠ 7 ∨ bb ≠ 1) → (aa ≠ 25 ∨ (bb ≠ 0 ∧ bb ≠ 2)) → H aa bb = F aa bb := fun aa bb z1 z2 => by rw [hH, upF_o (by omega), upF_o (by omega), gF aa bb z1]
  have h1 : H 7 1 = F 7 1 + 20 := by rw [hH, upF_o (by decide), upF_o (by decide), g1]
  have h2 : H 25 2 = F 7 1 + 20 := by rw [hH, upF_s, gF 25 2 (by decide), b2]
  have gm : G 25 2 = F 7 1 := by rw [gF 25 2 (by decide), b2]
  have r : ∀ b : Nat, b ≠ 8 → b ≠ 26 → C b = A b := fun b z1 z2 => by rw [hC, setR_r z2, hB, setR_r z1]
  have r8 : C 8 = setR A 8 (F 7 1) 20 (fdF v0 v1 v2 v3 v4) 8 := by rw [hC, setR_r (by decide), hB]
  have r26 : C 26 = setR B 26 (F 7 1) 20 (fun kk => fdF v0 v1 v2 v3 v4 kk % 256) 26 := by rw [hC, gm]
  have rB : B 26 = A 26 := by rw [hB, setR_r (by decide)]
  refine ⟨⟨?_, ?_⟩, ⟨?_, ?_, ?_, ?_⟩, ⟨⟨?_, ?_⟩, ?_, hsE_c (hF 5 1 (by decide) (by decide)) (hF 5 2 (by decide) (by decide)) (r 6 (by decide) (by decide)) (fun j _ _ => by rw [r 27 (by decide) (by decide)]) (r 31 (by decide) (by decide)) c4⟩, ?_, ⟨caAll_c (r 10 (by decide) (by decide)) (r 11 (by decide) (by decide)) (r 12 (by decide) (by decide)) (r 13 (by decide) (by decide)) ca, r20_c (r 20 (by decide) (by decide)) cr⟩, ?_, ?_, ?_⟩
  · rw [mF_c (r 2 (by decide) (by decide)) (r 27 (by decide) (by decide)) (r 29 (by decide) (by decide)), r 2 (by decide) (by decide)]; exact a1
  · rw [r 2 (by decide) (by decide)]; exact a2
  · rw [h1]; omega
  · rw [h1, h2]
  · rw [h1, r8, r26]
    exact fd_R (A := A) (C := B) b1.1 (by rw [rB]; exact b3)
  · rw [r26]
    exact fd_O (C := B) (by rw [rB]; exact b4)
  · rw [hF 5 1 (by decide) (by decide)]; exact c1
  · rw [hF 5 2 (by decide) (by decide)]; exact c2
  · rw [hF 25 8 (by decide) (by decide), hF 5 2 (by decide) (by decide)]; exact c3
  · rw [hF 25 28 (by decide) (by decide), hF 0 9 (by decide) (by decide)]; exact d
  · rw [hF 7 6 (by decide) (by decide)]; exact e
  · rw [hF 25 27 (by decide) (by decide)]; exact g
  · rw [hF 25 24 (by decide) (by decide)]; exact i
