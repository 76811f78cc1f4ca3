/-! statements in a text; four signs a number -/
def ct59 (T : List Nat) (k : Nat) : Nat := (T.take k).count 59
theorem ct59_s {T : List Nat} {k : Nat} (h : k < T.length) : ct59 T (k + 1) = ct59 T k + if lt T k = 59 then 1 else 0 := by
  unfold ct59 lt
  rw [List.take_add_one, List.count_append, List.getD_eq_getElem?_getD, List.getElem?_eq_getElem h]
  simp only [Option.toList_some, Option.getD_some, List.count_cons, List.count_nil, beq_iff_eq]
  omega
theorem ct59_le (T : List Nat) (k : Nat) : ct59 T k ≤ k := Nat.le_trans List.count_le_length (by rw [List.length_take]; omega)
theorem ct59_all (T : List Nat) : ct59 T T.length = T.count 59 := by unfold ct59; rw [List.take_length]
theorem ir_c {i m : Nat} (h : i < 2147483648) (hm : m < 2147483648) : (nI i : Int32) - nI i / nI m * nI m = nI (i % m) := by
  rw [nI_div h hm, nI_mul, pk_sub (Nat.div_mul_le_self i m)]
  congr 1
  have := Nat.div_add_mod i m
  rw [Nat.mul_comm] at this
  omega
theorem nI_or (a b : Nat) : nI a ||| nI b = nI (a ||| b) := by
  apply Int32.toBitVec_inj.mp
  show BitVec.ofNat 32 a ||| BitVec.ofNat 32 b = BitVec.ofNat 32 (a ||| b)
  exact BitVec.ofNat_or.symm
theorem nI_shl (a s : Nat) (c : Int32) (hc : (c &&& 31).toBitVec.smod 32 = BitVec.ofNat 32 s) (hs : s < 32) : nI a <<< (c &&& 31) = nI (a * 2 ^ s) := by
  apply Int32.toBitVec_inj.mp
  show BitVec.ofNat 32 a <<< ((c &&& 31).toBitVec.smod 32) = BitVec.ofNat 32 (a * 2 ^ s)
  rw [hc]
  apply BitVec.eq_of_toNat_eq
  rw [BitVec.shiftLeft_eq', BitVec.toNat_shiftLeft, BitVec.toNat_ofNat, BitVec.toNat_ofNat, BitVec.toNat_ofNat, Nat.mod_eq_of_lt (show s < 2 ^ 32 by omega), Nat.shiftLeft_eq, Nat.mod_mul_mod]
theorem sh_c {c i : Nat} : nI c <<< ((24 - 8 * nI (i % 4)) &&& 31) = nI (c * 2 ^ (24 - 8 * (i % 4))) := by
  rcases (show i % 4 = 0 ∨ i % 4 = 1 ∨ i % 4 = 2 ∨ i % 4 = 3 by omega) with h | h | h | h <;> rw [h] <;> exact nI_shl c _ _ (by decide) (by decide)
/-- the number j of five, with i signs in -/
def pkN (t : Nat → Nat) (k : Nat) : Nat → Nat → Nat
  | 0, _ => 0
  | i + 1, j => pkN t k i j + if i / 4 = j then t (k + i) * 2 ^ (24 - 8 * (i % 4)) else 0
theorem pkN_lt {t : Nat → Nat} {k i j : Nat} (h : i ≤ 4 * j) : pkN t k i j = 0 := by
  induction i with
  | zero => rfl
  | succ i ih =>
    rw [pkN, ih (by omega), if_neg (by omega)]
theorem pkN_at (t : Nat → Nat) (k j : Nat) : pkN t k (4 * j) j = 0 ∧ pkN t k (4 * j + 1) j = t (k + 4 * j) * 16777216 ∧ pkN t k (4 * j + 2) j = t (k + 4 * j) * 16777216 + t (k + 4 * j + 1) * 65536 ∧ pkN t k (4 * j + 3) j = t (k + 4 * j) * 16777216 + t (k + 4 * j + 1) * 65536 + t (k + 4 * j + 2) * 256 ∧ pkN t k (4 * j + 4) j = t (k + 4 * j) * 16777216 + t (k + 4 * j + 1) * 65536 + t (k + 4 * j + 2) * 256 + t (k + 4 * j + 3) := by
  have e0 : pkN t k (4 * j) j = 0 := pkN_lt (Nat.le_refl _)
  have e1 : pkN t k (4 * j + 1) j = t (k + 4 * j) * 16777216 := by
    rw [pkN, e0, if_pos (by omega), show (4 * j) % 4 = 0 by omega]; simp
  have e2 : pkN t k (4 * j + 2) j = t (k + 4 * j) * 16777216 + t (k + 4 * j + 1) * 65536 := by
    rw [show 4 * j + 2 = (4 * j + 1) + 1 from rfl, pkN, e1, if_pos (by omega), show (4 * j + 1) % 4 = 1 by omega]; rfl
  have e3 : pkN t k (4 * j + 3) j = t (k + 4 * j) * 16777216 + t (k + 4 * j + 1) * 65536 + t (k + 4 * j + 2) * 256 := by
    rw [show 4 * j + 3 = (4 * j + 2) + 1 from rfl, pkN, e2, if_pos (by omega), show (4 * j + 2) % 4 = 2 by omega]; rfl
  refine ⟨e0, e1, e2, e3, ?_⟩
  rw [show 4 * j + 4 = (4 * j + 3) + 1 from rfl, pkN, e3, if_pos (by omega), show (4 * j + 3) % 4 = 3 by omega]
  simp [Nat.add_assoc]
theorem pkN_ge {t : Nat → Nat} {k i j : Nat} (h : 4 * j + 4 ≤ i) : pkN t k i j = pkN t k (4 * j + 4) j := by
  induction i with
  | zero => omega
  | succ i ih =>
    by_cases z : 4 * j + 4 = i + 1
    · rw [z]
    · rw [pkN, if_neg (by omega), Nat.add_zero, ih (by omega)]
theorem pkN_or {t : Nat → Nat} {k i : Nat} (ht : ∀ q, t q < 128) : pkN t k i (i / 4) ||| t (k + i) * 2 ^ (24 - 8 * (i % 4)) = pkN t k (i + 1) (i / 4) := by
  rw [pkN, if_pos rfl]
  obtain ⟨j, rfl | rfl | rfl | rfl⟩ : ∃ j, i = 4 * j ∨ i = 4 * j + 1 ∨ i = 4 * j + 2 ∨ i = 4 * j + 3 := ⟨i / 4, by omega⟩
  · rw [show 4 * j / 4 = j by omega, (pkN_at t k j).1, Nat.zero_or, Nat.zero_add]
  · rw [show (4 * j + 1) / 4 = j by omega, show (4 * j + 1) % 4 = 1 by omega, (pkN_at t k j).2.1]
    have h1 := ht (k + (4 * j + 1))
    have := Nat.two_pow_add_eq_or_of_lt (i := 24) (b := t (k + (4 * j + 1)) * 2 ^ (24 - 8 * 1)) (by show _ * 65536 < 16777216; omega) (t (k + 4 * j))
    rw [Nat.mul_comm] at this
    exact this.symm
  · rw [show (4 * j + 2) / 4 = j by omega, show (4 * j + 2) % 4 = 2 by omega, (pkN_at t k j).2.2.1]
    have h1 := ht (k + (4 * j + 2))
    have := Nat.two_pow_add_eq_or_of_lt (i := 16) (b := t (k + (4 * j + 2)) * 2 ^ (24 - 8 * 2)) (by show _ * 256 < 65536; omega) (t (k + 4 * j) * 256 + t (k + 4 * j + 1))
    rw [show 2 ^ 16 * (t (k + 4 * j) * 256 + t (k + 4 * j + 1)) = t (k + 4 * j) * 16777216 + t (k + 4 * j + 1) * 65536 by omega] at this
    exact this.symm
  · rw [show (4 * j + 3) / 4 = j by omega, show (4 * j + 3) % 4 = 3 by omega, (pkN_at t k j).2.2.2.1]
    have h1 := ht (k + (4 * j + 3))
    have := Nat.two_pow_add_eq_or_of_lt (i := 8) (b := t (k + (4 * j + 3)) * 2 ^ (24 - 8 * 3)) (by show _ * 1 < 256; omega) (t (k + 4 * j) * 65536 + t (k + 4 * j + 1) * 256 + t (k + 4 * j + 2))
    rw [show 2 ^ 8 * (t (k + 4 * j) * 65536 + t (k + 4 * j + 1) * 256 + t (k + 4 * j + 2)) = t (k + 4 * j) * 16777216 + t (k + 4 * j + 1) * 65536 + t (k + 4 * j + 2) * 256 by omega] at this
    exact this.symm
/-- the row of five, with i signs in -/
def pkG (t : Nat → Nat) (k i : Nat) : Nat → Int32 := fun j => nI (pkN t k i j)
theorem pkG_s {t : Nat → Nat} {k i : Nat} (ht : ∀ q, t q < 128) : upd (pkG t k i) (i / 4) (nI (pkN t k i (i / 4)) ||| nI (t (k + i) * 2 ^ (24 - 8 * (i % 4)))) = pkG t k (i + 1) := by
  funext j
  unfold upd pkG
  split
  · rename_i h
    subst h
    rw [nI_or, pkN_or ht]
  · rename_i h
    rw [pkN, if_neg (fun q => h q.symm), Nat.add_zero]
theorem by_4 {a b c d : Nat} (ha : a < 128) (hb : b < 128) (hc : c < 128) (hd : d < 128) {v : Int} (hv : v = ((a * 16777216 + b * 65536 + c * 256 + d : Nat) : Int)) : byF v 0 = a ∧ byF v 1 = b ∧ byF v 2 = c ∧ byF v 3 = d := by
  have hw : w32 v = v := w32_id (by omega) (by omega)
  unfold byF
  rw [hw, show p2 (24 - 8 * 0) = 16777216 from rfl, show p2 (24 - 8 * 1) = 65536 from rfl, show p2 (24 - 8 * 2) = 256 from rfl, show p2 (24 - 8 * 3) = 1 from rfl]
  refine ⟨?_, ?_, ?_, ?_⟩ <;> omega
theorem fd_pk {t : Nat → Nat} {k : Nat} (ht : ∀ q, t q < 128) {i : Int} (h0 : 0 ≤ i) (h1 : i < 20) : fdF (pkG t k 20 0).toInt (pkG t k 20 1).toInt (pkG t k 20 2).toInt (pkG t k 20 3).toInt (pkG t k 20 4).toInt i = ((t (k + i.toNat) : Nat) : Int) := by
  have key : ∀ j, j < 5 → byF (pkG t k 20 j).toInt 0 = t (k + 4 * j) ∧ byF (pkG t k 20 j).toInt 1 = t (k + 4 * j + 1) ∧ byF (pkG t k 20 j).toInt 2 = t (k + 4 * j + 2) ∧ byF (pkG t k 20 j).toInt 3 = t (k + 4 * j + 3) := by
    intro j hj
    have h0 := ht (k + 4 * j)
    have h1 := ht (k + 4 * j + 1)
    have h2 := ht (k + 4 * j + 2)
    have h3 := ht (k + 4 * j + 3)
    refine by_4 h0 h1 h2 h3 ?_
    unfold pkG
    rw [pkN_ge (by omega), (pkN_at t k j).2.2.2.2, nI_toInt (by omega)]
  obtain ⟨i, rfl⟩ := Int.eq_ofNat_of_zero_le h0
  obtain ⟨j, r, hj, hr, rfl⟩ : ∃ j r, j < 5 ∧ r < 4 ∧ i = 4 * j + r := ⟨i / 4, i % 4, by omega, by omega, by omega⟩
  have hw : fdF (pkG t k 20 0).toInt (pkG t k 20 1).toInt (pkG t k 20 2).toInt (pkG t k 20 3).toInt (pkG t k 20 4).toInt ((4 * j + r : Nat) : Int) = byF (pkG t k 20 j).toInt r := by
    unfold fdF
    rw [show ((4 * j + r : Nat) : Int) % 4 = r by omega]
    rcases (show j = 0 ∨ j = 1 ∨ j = 2 ∨ j = 3 ∨ j = 4 by omega) with rfl | rfl | rfl | rfl | rfl
    · rw [if_pos (by omega)]
    · rw [if_neg (by omega), if_pos (by omega)]
    · rw [if_neg (by omega), if_neg (by omega), if_pos (by omega)]
    · rw [if_neg (by omega), if_neg (by omega), if_neg (by omega), if_pos (by omega)]
    · rw [if_neg (by omega), if_neg (by omega), if_neg (by omega), if_neg (by omega)]
  rw [hw, Int.toNat_natCast]
  obtain ⟨a0, a1, a2, a3⟩ := key j hj
  have e : ∀ q : Nat, q = k + (4 * j + r) → ((t q : Nat) : Int) = ((t (k + (4 * j + r)) : Nat) : Int) := fun q h => by rw [h]
  rcases (show r = 0 ∨ r = 1 ∨ r = 2 ∨ r = 3 by omega) with rfl | rfl | rfl | rfl
  · exact a0.trans (e _ (by omega))
  · exact a1.trans (e _ (by omega))
  · exact a2.trans (e _ (by omega))
  · exact a3.trans (e _ (by omega))
/-- the class's text after k signs -/
def ptF (F : FF) (k : Nat) : FF := upF F 7 1 k
def ptI (t : Nat → Nat) : Int → Int := fun i => ((t i.toNat : Nat) : Int)
def ptA (t : Nat → Nat) (A : AA) (k : Nat) : AA := setR A 8 0 k (ptI t)
theorem ptF_s (F : FF) (k : Nat) : upF (ptF F k) 7 1 ((ptF F k) 7 1 + 20) = ptF F (k + 20) := by
  funext a b
  unfold ptF upF
  by_cases h : a = 7 ∧ b = 1
  · rw [if_pos h, if_pos h, if_pos ⟨rfl, rfl⟩]; omega
  · rw [if_neg h, if_neg h, if_neg h]
theorem ptF_0 {F : FF} (h : F 7 1 = 0) : ptF F 0 = F := by
  funext a b
  unfold ptF upF
  split
  · rename_i q; rw [q.1, q.2, h]; rfl
  · rfl
theorem ptA_0 {t : Nat → Nat} {A : AA} : ptA t A 0 = A := by
  funext a i
  unfold ptA setR
  rw [if_neg (by omega)]
theorem ptA_s {t : Nat → Nat} {A : AA} {k : Nat} {g : Int → Int} (hg : ∀ i, 0 ≤ i → i < 20 → g i = ((t (k + i.toNat) : Nat) : Int)) : setR (ptA t A k) 8 k 20 g = ptA t A (k + 20) := by
  funext a i
  unfold ptA setR
  by_cases h : a = 8 ∧ (k : Int) ≤ i ∧ i < k + 20
  · rw [if_pos h, if_pos (by omega), hg _ (by omega) (by omega)]
    unfold ptI
    congr 2
    omega
  · rw [if_neg h]
    by_cases h2 : a = 8 ∧ 0 ≤ i ∧ i < 0 + (k : Int)
    · rw [if_pos h2, if_pos (by omega)]
    · rw [if_neg h2, if_neg (by omega)]
/-- the text, filled up with blanks -/
def nd20 (n : Nat) : Nat := (20 - n % 20) % 20
def pdL (T : List Nat) : List Nat := T ++ List.replicate (nd20 T.length) 32
theorem pdL_len (T : List Nat) : (pdL T).length = T.length + nd20 T.length := by unfold pdL; rw [List.length_append, List.length_replicate]
