theorem am_mthP {own : String} {f : Nat → Nat} {lv : Nat} (h : ∀ k, qmP own k (f k)) (hl : 3 ≤ lv) : ∀ k, (f k = 1 → Cond.methodLink own k Lib.Math.min.name ∈ am_tb ∧ Cond.static Lib.Math.min.name ∈ am_tb ∧ Cond.initialized "java/lang/Math" ∈ am_tb ∧ Cond.code Lib.Math.min.name Lib.Math.min.code 2 (some .int) ∈ am_tb) ∧
      (f k = 2 → Cond.methodLink own k Lib.Math.max.name ∈ am_tb ∧ Cond.static Lib.Math.max.name ∈ am_tb ∧ Cond.initialized "java/lang/Math" ∈ am_tb ∧ Cond.code Lib.Math.max.name Lib.Math.max.code 2 (some .int) ∈ am_tb) ∧
      (f k = 3 → Cond.methodLink own k Lib.Math.abs.name ∈ am_tb ∧ Cond.static Lib.Math.abs.name ∈ am_tb ∧ Cond.initialized "java/lang/Math" ∈ am_tb ∧ Cond.code Lib.Math.abs.name Lib.Math.abs.code 1 (some .int) ∈ am_tb) ∧
      (f k = 4 → Cond.methodLink own k arraycopyName ∈ am_tb ∧ Cond.native arraycopyName ∈ am_tb ∧ Cond.static arraycopyName ∈ am_tb ∧ Cond.initialized "java/lang/System" ∈ am_tb) ∧
      (f k ≠ 0 → 3 ≤ lv) := fun k => ⟨fun q => ⟨(h k).1 q, qM_min.1, qM_min.2.1, qM_min.2.2⟩, fun q => ⟨(h k).2.1 q, qM_max.1, qM_max.2.1, qM_max.2.2⟩, fun q => ((h k).2.2.1 q).elim, fun q => ⟨(h k).2.2.2 q, qM_copy.1, qM_copy.2.1, qM_copy.2.2⟩, fun _ => hl⟩
theorem am_cond2 {b : Bool} {P Q : Prop} (h : cond b P Q) : (b = true ∧ P) ∨ Q := by
  cases b
  · exact Or.inr h
  · exact Or.inl ⟨rfl, h⟩
/-- a truth value as a number -/
def bi (p : Prop) [Decidable p] : Int := if p then 1 else 0
theorem bi_t {p : Prop} [Decidable p] (h : p) : bi p = 1 := if_pos h
theorem bi_f {p : Prop} [Decidable p] (h : ¬ p) : bi p = 0 := if_neg h
theorem bi_01 {p : Prop} [Decidable p] : bi p = 0 ∨ bi p = 1 := by unfold bi; split <;> simp
theorem w32_bi {p : Prop} [Decidable p] : w32 (bi p) = bi p := by unfold bi; split <;> rfl
theorem bi_0 {p : Prop} [Decidable p] : bi p = 0 ↔ ¬ p := by unfold bi; split <;> simp_all
theorem bi_1 {p : Prop} [Decidable p] : bi p = 1 ↔ p := by unfold bi; split <;> simp_all
theorem w32_id {x : Int} (h1 : -2147483648 ≤ x) (h2 : x < 2147483648) : w32 x = x := Int32.toInt_ofInt_of_le h1 h2
theorem w64_id {x : Int} (h1 : -9223372036854775808 ≤ x) (h2 : x < 9223372036854775808) : w64 x = x := Int64.toInt_ofInt_of_le h1 h2
theorem w32_ge (x : Int) : -2147483648 ≤ w32 x := Int32.le_toInt _
theorem w32_lt2 (x : Int) : w32 x < 2147483648 := Int32.toInt_lt _
theorem w32_w32 (x : Int) : w32 (w32 x) = w32 x := w32_id (w32_ge x) (w32_lt2 x)
theorem K_eq {K : KK} {x y : Int} {F : FF} {A : AA} (h : K (some (some (vI x))) F A) (e : x = y) : K (some (some (vI y))) F A := e ▸ h
theorem L_eq {K : KK} {x y : Int} {F : FF} {A : AA} (h : K (some (some (vL x))) F A) (e : x = y) : K (some (some (vL y))) F A := e ▸ h
theorem A_eq {K : KK} {o : AO} {F : FF} {A B : AA} (h : K o F A) (e : A = B) : K o F B := e ▸ h
theorem FA_eq {K : KK} {o p : AO} {F G : FF} {A B : AA} (h : K o F A) (e : o = p) (e2 : F = G) (e3 : A = B) : K p G B := e ▸ e2 ▸ e3 ▸ h
/-- a row written from 0 to n -/
def fillA (A : AA) (a : Nat) (n v : Int) : AA := fun k j => if k = a ∧ 0 ≤ j ∧ j < n then v else A k j
def fat (f : Int → Int) (i : Int) : Int := if 0 ≤ w32 i ∧ w32 i < 140 then f (w32 i) else 0
def fput (A : AA) (n : Nat) (i v : Int) : AA := if 0 ≤ w32 i ∧ w32 i < 140 then upA A n (w32 i) v else A
theorem fat_in {f : Int → Int} {i : Int} (h : 0 ≤ i) (h2 : i < 140) : fat f i = f i := by unfold fat; rw [w32_id (by omega) (by omega), if_pos ⟨h, h2⟩]
theorem fput_in {A : AA} {n : Nat} {i v : Int} (h : 0 ≤ i) (h2 : i < 140) : fput A n i v = upA A n i v := by unfold fput; rw [w32_id (by omega) (by omega), if_pos ⟨h, h2⟩]
theorem upA_s {A : AA} {n : Nat} {i v : Int} : upA A n i v n i = v := if_pos ⟨rfl, rfl⟩
theorem upA_o {A : AA} {n : Nat} {i j v : Int} (h : j ≠ i) : upA A n i v n j = A n j := if_neg fun q => h q.2
theorem upA_k {A : AA} {n k : Nat} {i j v : Int} (h : k ≠ n) : upA A n i v k j = A k j := if_neg fun q => h q.1
theorem upA_r {A : AA} {n k : Nat} {i v : Int} (h : k ≠ n) : upA A n i v k = A k := funext fun _ => upA_k h
theorem fput_r {A : AA} {n k : Nat} {i v : Int} (h : k ≠ n) : fput A n i v k = A k := by
  by_cases hc : 0 ≤ w32 i ∧ w32 i < 140
  · unfold fput
    rw [if_pos hc]
    exact upA_r h
  · unfold fput
    rw [if_neg hc]
/-- the first number below n with p; -1 if there is none -/
def firstk (p : Nat → Bool) (n : Nat) : Int := match (List.range n).find? p with
  | some k => k
  | none => -1
theorem firstk_none {p : Nat → Bool} {n : Nat} (h : ∀ j, j < n → p j = false) : firstk p n = -1 := by
  unfold firstk
  rw [List.find?_eq_none.mpr (fun j hj => by rw [h j (List.mem_range.mp hj)]; decide)]
theorem firstk_some {p : Nat → Bool} {n k : Nat} (hk : k < n) (hp : p k = true) (h : ∀ j, j < k → p j = false) : firstk p n = k := by
  unfold firstk
  have e : (List.range n).find? p = some k := by
    rw [List.find?_range_eq_some]
    exact ⟨hp, List.mem_range.mpr hk, fun j hj => by rw [h j hj]; rfl⟩
  rw [e]
def putP (A : AA) (n : Nat) (c k x y w : Int) : AA := fput (fput (fput A n (26 + (c * 4 + k) * 3 + 0) x) n (26 + (c * 4 + k) * 3 + 1) y) n (26 + (c * 4 + k) * 3 + 2) w
def swP (A : AA) (n : Nat) (c i j : Int) : AA := putP (putP A n c i (fat (A n) (26 + (c * 4 + j) * 3 + 0)) (fat (A n) (26 + (c * 4 + j) * 3 + 1)) (fat (A n) (26 + (c * 4 + j) * 3 + 2))) n c j (fat (A n) (26 + (c * 4 + i) * 3 + 0)) (fat (A n) (26 + (c * 4 + i) * 3 + 1)) (fat (A n) (26 + (c * 4 + i) * 3 + 2))
