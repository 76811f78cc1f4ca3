/-! the model's figure as a row of the class's form -/
def mF (A : AA) : Int → Int := fun i => if i = 0 then A 27 14 else if i = 1 then A 27 15 else if 2 ≤ i ∧ i < 4 then A 29 (122 + (i - 2)) else if 4 ≤ i ∧ i < 12 then A 27 (i - 4) else if 12 ≤ i ∧ i < 18 then A 27 (8 + (i - 12)) else if 18 ≤ i ∧ i < 26 then A 29 (13 * (i - 18)) else if 26 ≤ i ∧ i < 122 then A 29 (13 * ((i - 26) / 12) + 1 + (i - 26) % 12) else if 122 ≤ i ∧ i < 140 then A 29 (104 + (i - 122)) else A 2 i
theorem mF_c {A B : AA} (h2 : B 2 = A 2) (h27 : B 27 = A 27) (h29 : B 29 = A 29) : mF B = mF A := by unfold mF; rw [h2, h27, h29]
theorem mF_0 {A : AA} : mF A 0 = A 27 14 := rfl
theorem mF_1 {A : AA} : mF A 1 = A 27 15 := rfl
theorem mF_st {A : AA} {s : Int} (h : 0 ≤ s) (h2 : s ≤ 1) : mF A (2 + s) = A 29 (122 + s) := by
  unfold mF; rw [if_neg (by omega), if_neg (by omega), if_pos (by omega), show 2 + s - 2 = s by omega]
theorem mF_cn {A : AA} {c : Int} (h : 0 ≤ c) (h2 : c < 8) : mF A (4 + c) = A 27 (0 + c) := by
  unfold mF; rw [if_neg (by omega), if_neg (by omega), if_neg (by omega), if_pos (by omega), show 4 + c - 4 = 0 + c by omega]
theorem mF_ln {A : AA} {l : Int} (h : 0 ≤ l) (h2 : l < 6) : mF A (12 + l) = A 27 (8 + l) := by
  unfold mF; rw [if_neg (by omega), if_neg (by omega), if_neg (by omega), if_neg (by omega), if_pos (by omega), show 12 + l - 12 = l by omega]
theorem mF_sz {A : AA} {c : Int} (h : 0 ≤ c) (h2 : c < 8) : mF A (18 + c) = A 29 (13 * c) := by
  unfold mF; rw [if_neg (by omega), if_neg (by omega), if_neg (by omega), if_neg (by omega), if_neg (by omega), if_pos (by omega), show 18 + c - 18 = c by omega]
theorem mF_pt {A : AA} {c k w : Int} (c0 : 0 ≤ c) (c1 : c < 8) (k0 : 0 ≤ k) (k1 : k < 4) (w0 : 0 ≤ w) (w1 : w ≤ 2) : mF A (26 + (c * 4 + k) * 3 + w) = A 29 (13 * c + 1 + 3 * k + w) := by
  unfold mF; rw [if_neg (by omega), if_neg (by omega), if_neg (by omega), if_neg (by omega), if_neg (by omega), if_neg (by omega), if_pos (by omega)]
  congr 1; omega
theorem mF_lv {A : AA} {l w : Int} (l0 : 0 ≤ l) (l1 : l < 6) (w0 : 0 ≤ w) (w1 : w ≤ 2) : mF A (122 + l * 3 + w) = A 29 (104 + 3 * l + w) := by
  unfold mF; rw [if_neg (by omega), if_neg (by omega), if_neg (by omega), if_neg (by omega), if_neg (by omega), if_neg (by omega), if_neg (by omega), if_pos (by omega)]
  congr 1; omega
/-- what a question of the model may change -/
def qdP (F G : FF) (A B : AA) : Prop := (∀ a b, a ≠ 25 ∨ b = 2 ∨ b = 8 ∨ b = 28 ∨ b = 24 ∨ b = 27 → G a b = F a b) ∧ (∀ b i, b < 32 ∨ 42 < b → B b i = A b i)
theorem qdP_id {F : FF} {A : AA} : qdP F F A A := ⟨fun _ _ _ => rfl, fun _ _ _ => rfl⟩
theorem qdP_trans {F G H : FF} {A B C : AA} (h1 : qdP F G A B) (h2 : qdP G H B C) : qdP F H A C := ⟨fun a b h => (h2.1 a b h).trans (h1.1 a b h), fun b i h => (h2.2 b i h).trans (h1.2 b i h)⟩
theorem qdP_f {F G : FF} {A B : AA} (h : qdP F G A B) : mF B = mF A := mF_c (funext fun i => h.2 2 i (by omega)) (funext fun i => h.2 27 i (by omega)) (funext fun i => h.2 29 i (by omega))
theorem qdP_F {F : FF} {A : AA} {j : Nat} {v : Int} (h : j ≠ 2 ∧ j ≠ 8 ∧ j ≠ 28 ∧ j ≠ 24 ∧ j ≠ 27) : qdP F (upF F 25 j v) A A := ⟨fun a b hab => upF_o (by omega), fun _ _ _ => rfl⟩
theorem qdP_A {F : FF} {A B : AA} (h : ∀ b i, b < 32 ∨ 42 < b → B b i = A b i) : qdP F F A B := ⟨fun _ _ _ => rfl, h⟩
