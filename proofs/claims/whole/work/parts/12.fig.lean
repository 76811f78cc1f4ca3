def qkJ7_fill_53178 : Nat → Option CI := fun pc => cond (Nat.ble 21 pc) none (cond (Nat.ble 7 pc) (cond (Nat.ble 13 pc) (cond (Nat.ble 17 pc) (cond (Nat.beq pc 17) (some (.goto (-12), 20, [5])) (cond (Nat.beq pc 20) (some (.return_, 21, [])) (none))) (cond (Nat.beq pc 13) (some (.iastore, 14, [])) (cond (Nat.beq pc 14) (some (.iinc 2 1, 17, [])) (none)))) (cond (Nat.ble 11 pc) (cond (Nat.beq pc 11) (some (.iload_n 2, 12, [])) (cond (Nat.beq pc 12) (some (.iload_n 1, 13, [])) (none))) (cond (Nat.beq pc 7) (some (.if_icmp .ge 13, 10, [20])) (cond (Nat.beq pc 10) (some (.aload_n 0, 11, [])) (none))))) (cond (Nat.ble 3 pc) (cond (Nat.ble 5 pc) (cond (Nat.beq pc 5) (some (.iload_n 2, 6, [])) (cond (Nat.beq pc 6) (some (.iload_n 3, 7, [])) (none))) (cond (Nat.beq pc 3) (some (.arraylength, 4, [])) (cond (Nat.beq pc 4) (some (.istore_n 3, 5, [])) (none)))) (cond (Nat.beq pc 0) (some (.iconst 0, 1, [])) (cond (Nat.beq pc 1) (some (.istore_n 2, 2, [])) (cond (Nat.beq pc 2) (some (.aload_n 0, 3, [])) (none))))))
theorem qkJ7_fill_53178_ok : ∀ pc i nx ts, qkJ7_fill_53178 pc = some (i, nx, ts) → am_cok cJ7_fill_53178 pc (i, nx, ts) = true := fun pc i nx ts h => am_tok_ok (n := 21) (by decide +kernel) (fun pc h => by show cond (Nat.ble 21 pc) _ _ = _; rw [Nat.ble_eq_true_of_le h]; rfl) h
def qaJ7_fill_53178 : Nat → Option CE := fun k => none
theorem qyJ7_fill_53178 (l : Launch) : ∀ k e1, qaJ7_fill_53178 k = some e1 → am_cal l layX RJ7 3 k e1 ∧ ceT e1 = 0 := q_nil
def qxJ7_fill_53178 : CX := (qkJ7_fill_53178, layX, qfJ7, qaJ7_fill_53178, qcJ7, qlJ7, qmJ7, none, false, none, 0, none, fun _ => none)
theorem qzJ7_fill_53178 (l : Launch) : am_sta l qxJ7_fill_53178 RJ7 3 cJ7_fill_53178 := ⟨qkJ7_fill_53178_ok, layX_ok, qfJ7_ok, qcJ7_ok, qlJ7_ok, am_mthP qmJ7_ok (by decide), fun k e1 h => (qyJ7_fill_53178 l k e1 h).1⟩
def qsJ7_fill_53178 : SP := fun as F A K => match as with
  | [.inr (.inr a), .inl v] => cond (Nat.beq a 2) (K (some none) F (fillA A 2 140 v)) (cond (Nat.beq a 4) (K (some none) F (fillA A 4 140 v)) (cond (Nat.beq a 20) (K (some none) F (fillA A 20 4096 v)) (False)))
  | _ => False
def qeJ7_fill_53178 : CE := (yJ7_fill_53178, cJ7_fill_53178, 4, none, 2, none, 0, [], 0, 3, qsJ7_fill_53178)
theorem qbJ7_fill_53178 : am_mb qeJ7_fill_53178 := ⟨am_tb_at 321 (by decide +kernel) rfl, am_tb_at 123 (by decide +kernel) rfl, ⟨by decide, by decide, by decide +kernel⟩, by decide, am_tb_at 320 (by decide +kernel) rfl⟩
def qnJ7_fill_53178_2 : CUT := fun pc => cond (Nat.beq pc 5) (some [true, true, true, true]) (none)
def qiJ7_fill_53178_2 (v : Int) (F0 : FF) (A0 : AA) : REC := fun pc ls st F A u => cond (Nat.beq pc 5) (match ls, st, u with
    | [some (.inr (.inr s0)), some (.inl s1), some (.inl i), some (.inl e)], [], 0 => s0 = 2 ∧ s1 = v ∧ F = F0 ∧ (e = 140 ∧ 0 ≤ i ∧ i ≤ 140 ∧ A = fillA A0 2 i v)
    | _, _, _ => False) (False)
def quJ7_fill_53178_2 : Nat → LVs → List AV → FF → AA → Nat := fun pc ls _ F A => cond (Nat.beq pc 5) (match ls with
    | [some (.inr (.inr s0)), some (.inl s1), some (.inl i), some (.inl e)] => (140 - i).toNat
    | _ => 0) (0)
theorem qvJ7_fill_53178_2_0 (v : Int) (F0 : FF) (A0 : AA) (K : KK) (h : K (some none) F0 (fillA A0 2 140 v)) : am_stp qxJ7_fill_53178 (am_run qxJ7_fill_53178 qnJ7_fill_53178_2 (qiJ7_fill_53178_2 v F0 A0) K 12) K 0 (am_ent [vR 2, vI v] 4) [] F0 A0 0 := by
  show 2 = 2 ∧ v = v ∧ F0 = F0 ∧ (140 = 140 ∧ 0 ≤ 0 ∧ 0 ≤ 140 ∧ A0 = fillA A0 2 0 v)
  refine ⟨rfl, rfl, rfl, rfl, by omega, by omega, ?_⟩
  funext k j
  unfold fillA
  rw [if_neg (by omega)]
theorem qvJ7_fill_53178_2_5 (v : Int) (F0 : FF) (A0 : AA) (K : KK) (h : K (some none) F0 (fillA A0 2 140 v)) (i : Int) (e : Int) (A : AA) (hi : e = 140 ∧ 0 ≤ i ∧ i ≤ 140 ∧ A = fillA A0 2 i v) : am_stp qxJ7_fill_53178 (am_run qxJ7_fill_53178 qnJ7_fill_53178_2 (fun pc ls st F A u => qiJ7_fill_53178_2 v F0 A0 pc ls st F A u ∧ quJ7_fill_53178_2 pc ls st F A < quJ7_fill_53178_2 5 [some (vR 2), some (vI v), some (vI i), some (vI e)] [] F0 A) K 12) K 5 [some (vR 2), some (vI v), some (vI i), some (vI e)] [] F0 A 0 := by
  show (w32 i < w32 e → ((0 ≤ w32 i ∧ w32 i < 140) ∧ ((2 = 2 ∧ v = v ∧ F0 = F0 ∧ (e = 140 ∧ 0 ≤ (i + 1) ∧ (i + 1) ≤ 140 ∧ (upA A 2 (w32 i) v) = fillA A0 2 (i + 1) v)) ∧ ((140 - (i + 1)).toNat) < ((140 - i).toNat)))) ∧ (¬ w32 i < w32 e → (K (some none) F0 A))
  obtain ⟨rfl, h1, h2, rfl⟩ := hi
  rw [w32_id (x := i) (by omega) (by omega), show w32 140 = 140 from rfl]
  refine ⟨fun hlt => ⟨by omega, ⟨rfl, rfl, rfl, rfl, by omega, by omega, ?_⟩, by omega⟩, fun hge => ?_⟩
  · funext k j
    unfold upA fillA
    by_cases hk : k = 2 ∧ j = i
    · rw [if_pos hk, if_pos (by omega)]
    · rw [if_neg hk]
      by_cases h5 : k = 2 ∧ 0 ≤ j ∧ j < i
      · rw [if_pos h5, if_pos (by omega)]
      · rw [if_neg h5, if_neg (by omega)]
  · have : i = 140 := by omega
    subst this
    exact h
theorem qvJ7_fill_53178_2 (v : Int) (F0 : FF) (A0 : AA) (K : KK) (h : K (some none) F0 (fillA A0 2 140 v)) : am_body qxJ7_fill_53178 qnJ7_fill_53178_2 12 (qiJ7_fill_53178_2 v F0 A0) quJ7_fill_53178_2 [vR 2, vI v] 4 F0 A0 K := by
  refine ⟨qvJ7_fill_53178_2_0 v F0 A0 K h, fun pc ls st F A u hI => ?_⟩
  unfold qiJ7_fill_53178_2 at hI
  replace hI := am_cond2 hI
  rcases hI with ⟨hb, hI⟩ | hI
  · have hb := am_bq hb
    subst hb
    split at hI
    · rename_i s0 s1 i e
      obtain ⟨e0, e1, e2, hI⟩ := hI
      subst e0
      subst e1
      subst e2
      exact qvJ7_fill_53178_2_5 _ _ _ K h _ _ _ hI
    · exact hI.elim
  exact hI.elim
def qnJ7_fill_53178_4 : CUT := fun pc => cond (Nat.beq pc 5) (some [true, true, true, true]) (none)
def qiJ7_fill_53178_4 (v : Int) (F0 : FF) (A0 : AA) : REC := fun pc ls st F A u => cond (Nat.beq pc 5) (match ls, st, u with
    | [some (.inr (.inr s0)), some (.inl s1), some (.inl i), some (.inl e)], [], 0 => s0 = 4 ∧ s1 = v ∧ F = F0 ∧ (e = 140 ∧ 0 ≤ i ∧ i ≤ 140 ∧ A = fillA A0 4 i v)
    | _, _, _ => False) (False)
def quJ7_fill_53178_4 : Nat → LVs → List AV → FF → AA → Nat := fun pc ls _ F A => cond (Nat.beq pc 5) (match ls with
    | [some (.inr (.inr s0)), some (.inl s1), some (.inl i), some (.inl e)] => (140 - i).toNat
    | _ => 0) (0)
theorem qvJ7_fill_53178_4_0 (v : Int) (F0 : FF) (A0 : AA) (K : KK) (h : K (some none) F0 (fillA A0 4 140 v)) : am_stp qxJ7_fill_53178 (am_run qxJ7_fill_53178 qnJ7_fill_53178_4 (qiJ7_fill_53178_4 v F0 A0) K 12) K 0 (am_ent [vR 4, vI v] 4) [] F0 A0 0 := by
  show 4 = 4 ∧ v = v ∧ F0 = F0 ∧ (140 = 140 ∧ 0 ≤ 0 ∧ 0 ≤ 140 ∧ A0 = fillA A0 4 0 v)
  refine ⟨rfl, rfl, rfl, rfl, by omega, by omega, ?_⟩
  funext k j
  unfold fillA
  rw [if_neg (by omega)]
theorem qvJ7_fill_53178_4_5 (v : Int) (F0 : FF) (A0 : AA) (K : KK) (h : K (some none) F0 (fillA A0 4 140 v)) (i : Int) (e : Int) (A : AA) (hi : e = 140 ∧ 0 ≤ i ∧ i ≤ 140 ∧ A = fillA A0 4 i v) : am_stp qxJ7_fill_53178 (am_run qxJ7_fill_53178 qnJ7_fill_53178_4 (fun pc ls st F A u => qiJ7_fill_53178_4 v F0 A0 pc ls st F A u ∧ quJ7_fill_53178_4 pc ls st F A < quJ7_fill_53178_4 5 [some (vR 4), some (vI v), some (vI i), some (vI e)] [] F0 A) K 12) K 5 [some (vR 4), some (vI v), some (vI i), some (vI e)] [] F0 A 0 := by
  show (w32 i < w32 e → ((0 ≤ w32 i ∧ w32 i < 140) ∧ ((4 = 4 ∧ v = v ∧ F0 = F0 ∧ (e = 140 ∧ 0 ≤ (i + 1) ∧ (i + 1) ≤ 140 ∧ (upA A 4 (w32 i) v) = fillA A0 4 (i + 1) v)) ∧ ((140 - (i + 1)).toNat) < ((140 - i).toNat)))) ∧ (¬ w32 i < w32 e → (K (some none) F0 A))
  obtain ⟨rfl, h1, h2, rfl⟩ := hi
  rw [w32_id (x := i) (by omega) (by omega), show w32 140 = 140 from rfl]
  refine ⟨fun hlt => ⟨by omega, ⟨rfl, rfl, rfl, rfl, by omega, by omega, ?_⟩, by omega⟩, fun hge => ?_⟩
  · funext k j
    unfold upA fillA
    by_cases hk : k = 4 ∧ j = i
    · rw [if_pos hk, if_pos (by omega)]
    · rw [if_neg hk]
      by_cases h5 : k = 4 ∧ 0 ≤ j ∧ j < i
      · rw [if_pos h5, if_pos (by omega)]
      · rw [if_neg h5, if_neg (by omega)]
  · have : i = 140 := by omega
    subst this
    exact h
theorem qvJ7_fill_53178_4 (v : Int) (F0 : FF) (A0 : AA) (K : KK) (h : K (some none) F0 (fillA A0 4 140 v)) : am_body qxJ7_fill_53178 qnJ7_fill_53178_4 12 (qiJ7_fill_53178_4 v F0 A0) quJ7_fill_53178_4 [vR 4, vI v] 4 F0 A0 K := by
  refine ⟨qvJ7_fill_53178_4_0 v F0 A0 K h, fun pc ls st F A u hI => ?_⟩
  unfold qiJ7_fill_53178_4 at hI
  replace hI := am_cond2 hI
  rcases hI with ⟨hb, hI⟩ | hI
  · have hb := am_bq hb
    subst hb
    split at hI
    · rename_i s0 s1 i e
      obtain ⟨e0, e1, e2, hI⟩ := hI
      subst e0
      subst e1
      subst e2
      exact qvJ7_fill_53178_4_5 _ _ _ K h _ _ _ hI
    · exact hI.elim
  exact hI.elim
def qnJ7_fill_53178_20 : CUT := fun pc => cond (Nat.beq pc 5) (some [true, true, true, true]) (none)
def qiJ7_fill_53178_20 (v : Int) (F0 : FF) (A0 : AA) : REC := fun pc ls st F A u => cond (Nat.beq pc 5) (match ls, st, u with
    | [some (.inr (.inr s0)), some (.inl s1), some (.inl i), some (.inl e)], [], 0 => s0 = 20 ∧ s1 = v ∧ F = F0 ∧ (e = 4096 ∧ 0 ≤ i ∧ i ≤ 4096 ∧ A = fillA A0 20 i v)
    | _, _, _ => False) (False)
def quJ7_fill_53178_20 : Nat → LVs → List AV → FF → AA → Nat := fun pc ls _ F A => cond (Nat.beq pc 5) (match ls with
    | [some (.inr (.inr s0)), some (.inl s1), some (.inl i), some (.inl e)] => (4096 - i).toNat
    | _ => 0) (0)
theorem qvJ7_fill_53178_20_0 (v : Int) (F0 : FF) (A0 : AA) (K : KK) (h : K (some none) F0 (fillA A0 20 4096 v)) : am_stp qxJ7_fill_53178 (am_run qxJ7_fill_53178 qnJ7_fill_53178_20 (qiJ7_fill_53178_20 v F0 A0) K 12) K 0 (am_ent [vR 20, vI v] 4) [] F0 A0 0 := by
  show 20 = 20 ∧ v = v ∧ F0 = F0 ∧ (4096 = 4096 ∧ 0 ≤ 0 ∧ 0 ≤ 4096 ∧ A0 = fillA A0 20 0 v)
  refine ⟨rfl, rfl, rfl, rfl, by omega, by omega, ?_⟩
  funext k j
  unfold fillA
  rw [if_neg (by omega)]
theorem qvJ7_fill_53178_20_5 (v : Int) (F0 : FF) (A0 : AA) (K : KK) (h : K (some none) F0 (fillA A0 20 4096 v)) (i : Int) (e : Int) (A : AA) (hi : e = 4096 ∧ 0 ≤ i ∧ i ≤ 4096 ∧ A = fillA A0 20 i v) : am_stp qxJ7_fill_53178 (am_run qxJ7_fill_53178 qnJ7_fill_53178_20 (fun pc ls st F A u => qiJ7_fill_53178_20 v F0 A0 pc ls st F A u ∧ quJ7_fill_53178_20 pc ls st F A < quJ7_fill_53178_20 5 [some (vR 20), some (vI v), some (vI i), some (vI e)] [] F0 A) K 12) K 5 [some (vR 20), some (vI v), some (vI i), some (vI e)] [] F0 A 0 := by
  show (w32 i < w32 e → ((0 ≤ w32 i ∧ w32 i < 4096) ∧ ((20 = 20 ∧ v = v ∧ F0 = F0 ∧ (e = 4096 ∧ 0 ≤ (i + 1) ∧ (i + 1) ≤ 4096 ∧ (upA A 20 (w32 i) v) = fillA A0 20 (i + 1) v)) ∧ ((4096 - (i + 1)).toNat) < ((4096 - i).toNat)))) ∧ (¬ w32 i < w32 e → (K (some none) F0 A))
  obtain ⟨rfl, h1, h2, rfl⟩ := hi
  rw [w32_id (x := i) (by omega) (by omega), show w32 4096 = 4096 from rfl]
  refine ⟨fun hlt => ⟨by omega, ⟨rfl, rfl, rfl, rfl, by omega, by omega, ?_⟩, by omega⟩, fun hge => ?_⟩
  · funext k j
    unfold upA fillA
    by_cases hk : k = 20 ∧ j = i
    · rw [if_pos hk, if_pos (by omega)]
    · rw [if_neg hk]
      by_cases h5 : k = 20 ∧ 0 ≤ j ∧ j < i
      · rw [if_pos h5, if_pos (by omega)]
      · rw [if_neg h5, if_neg (by omega)]
  · have : i = 4096 := by omega
    subst this
    exact h
theorem qvJ7_fill_53178_20 (v : Int) (F0 : FF) (A0 : AA) (K : KK) (h : K (some none) F0 (fillA A0 20 4096 v)) : am_body qxJ7_fill_53178 qnJ7_fill_53178_20 12 (qiJ7_fill_53178_20 v F0 A0) quJ7_fill_53178_20 [vR 20, vI v] 4 F0 A0 K := by
  refine ⟨qvJ7_fill_53178_20_0 v F0 A0 K h, fun pc ls st F A u hI => ?_⟩
  unfold qiJ7_fill_53178_20 at hI
  replace hI := am_cond2 hI
  rcases hI with ⟨hb, hI⟩ | hI
  · have hb := am_bq hb
    subst hb
    split at hI
    · rename_i s0 s1 i e
      obtain ⟨e0, e1, e2, hI⟩ := hI
      subst e0
      subst e1
      subst e2
      exact qvJ7_fill_53178_20_5 _ _ _ K h _ _ _ hI
    · exact hI.elim
  exact hI.elim
theorem qtJ7_fill_53178 (l : Launch) : am_CT l layX qeJ7_fill_53178 := am_met0 rfl (by decide +kernel) rfl rfl rfl rfl rfl (fun _ => rfl) rfl (qzJ7_fill_53178 l) (fun k e1 h => (qyJ7_fill_53178 l k e1 h).2) (fun as F A K h => by
  replace h : qsJ7_fill_53178 as F A K := h
  unfold qsJ7_fill_53178 at h
  split at h
  · rename_i a v
    refine ⟨by first | exact Nat.le_of_ble_eq_true rfl | simp [am_fl, am_cat], ?_⟩
    replace h := am_cond2 h
    rcases h with ⟨hb, h⟩ | h
    · skip
      have hb0 := hb
      have hb0 := am_bq hb0
      subst hb0
      exact am_way_body (qvJ7_fill_53178_2 v F A K h)
    replace h := am_cond2 h
    rcases h with ⟨hb, h⟩ | h
    · skip
      have hb0 := hb
      have hb0 := am_bq hb0
      subst hb0
      exact am_way_body (qvJ7_fill_53178_4 v F A K h)
    replace h := am_cond2 h
    rcases h with ⟨hb, h⟩ | h
    · skip
      have hb0 := hb
      have hb0 := am_bq hb0
      subst hb0
      exact am_way_body (qvJ7_fill_53178_20 v F A K h)
    exact h.elim
  · exact h.elim)
def qkX2_at : Nat → Option CI := fun pc => cond (Nat.ble 24 pc) none (cond (Nat.ble 13 pc) (cond (Nat.ble 18 pc) (cond (Nat.ble 22 pc) (cond (Nat.beq pc 22) (some (.iconst 0, 23, [])) (cond (Nat.beq pc 23) (some (.ireturn, 24, [])) (none))) (cond (Nat.beq pc 18) (some (.iaload, 19, [])) (cond (Nat.beq pc 19) (some (.goto 4, 22, [23])) (none)))) (cond (Nat.beq pc 13) (some (.aload_n 0, 14, [])) (cond (Nat.beq pc 14) (some (.getfield 11, 17, [])) (cond (Nat.beq pc 17) (some (.iload_n 1, 18, [])) (none))))) (cond (Nat.ble 5 pc) (cond (Nat.ble 9 pc) (cond (Nat.beq pc 9) (some (.arraylength, 10, [])) (cond (Nat.beq pc 10) (some (.if_icmp .ge 12, 13, [22])) (none))) (cond (Nat.beq pc 5) (some (.aload_n 0, 6, [])) (cond (Nat.beq pc 6) (some (.getfield 11, 9, [])) (none)))) (cond (Nat.beq pc 0) (some (.iload_n 1, 1, [])) (cond (Nat.beq pc 1) (some (.ifCond .lt 21, 4, [22])) (cond (Nat.beq pc 4) (some (.iload_n 1, 5, [])) (none))))))
theorem qkX2_at_ok : ∀ pc i nx ts, qkX2_at pc = some (i, nx, ts) → am_cok cX2_at pc (i, nx, ts) = true := fun pc i nx ts h => am_tok_ok (n := 24) (by decide +kernel) (fun pc h => by show cond (Nat.ble 24 pc) _ _ = _; rw [Nat.ble_eq_true_of_le h]; rfl) h
def qaX2_at : Nat → Option CE := fun k => none
theorem qyX2_at (l : Launch) : ∀ k e1, qaX2_at k = some e1 → am_cal l layX RX2 3 k e1 ∧ ceT e1 = 0 := q_nil
def qxX2_at : CX := (qkX2_at, layX, qfX2, qaX2_at, qcX2, qlX2, qmX2, (some .int), false, none, 0, none, fun _ => none)
theorem qzX2_at (l : Launch) : am_sta l qxX2_at RX2 3 cX2_at := ⟨qkX2_at_ok, layX_ok, qfX2_ok, qcX2_ok, qlX2_ok, am_mthP qmX2_ok (by decide), fun k e1 h => (qyX2_at l k e1 h).1⟩
def qsX2_at : SP := fun as F A K => match as with
  | [.inr (.inr o), .inl i] => cond (Nat.beq o 1) (K (some (some (vI (fat (A 2) i)))) F A) (cond (Nat.beq o 3) (K (some (some (vI (fat (A 4) i)))) F A) (False))
  | _ => False
def qeX2_at : CE := (yX2_at, cX2_at, 2, (some .int), 1, some 2, 0, [], 0, 3, qsX2_at)
theorem qbX2_at : am_mb qeX2_at := ⟨am_tb_at 424 (by decide +kernel) rfl, am_tb_at 115 (by decide +kernel) rfl, ⟨by decide, by decide, by decide +kernel⟩, by decide, by decide, am_tb_at 423 (by decide +kernel) rfl, am_tb_at 8 (by decide +kernel) rfl, _, _, rfl⟩
theorem qvX2_at_1 (i : Int) (F : FF) (A : AA) (K : KK) (h : K (some (some (vI (fat (A 2) i)))) F A) : am_line qxX2_at 14 [vR 1, vI i] 2 F A K := by
  show (w32 i < w32 0 → (K (some (some (vI 0))) F A)) ∧ (¬ w32 i < w32 0 → ((w32 i < w32 140 → ((0 ≤ w32 i ∧ w32 i < 140) ∧ (K (some (some (vI (A 2 (w32 i))))) F A))) ∧ (¬ w32 i < w32 140 → (K (some (some (vI 0))) F A))))
  have e0 : w32 0 = 0 := rfl
  have e1 : w32 140 = 140 := rfl
  rw [e0, e1]
  refine ⟨fun h1 => K_eq h ?_, fun h1 => ⟨fun h2 => ⟨by omega, K_eq h ?_⟩, fun h2 => K_eq h ?_⟩⟩ <;> unfold fat
  · rw [if_neg (by omega)]
  · rw [if_pos (by omega)]
  · rw [if_neg (by omega)]
theorem qvX2_at_3 (i : Int) (F : FF) (A : AA) (K : KK) (h : K (some (some (vI (fat (A 4) i)))) F A) : am_line qxX2_at 14 [vR 3, vI i] 2 F A K := by
  show (w32 i < w32 0 → (K (some (some (vI 0))) F A)) ∧ (¬ w32 i < w32 0 → ((w32 i < w32 140 → ((0 ≤ w32 i ∧ w32 i < 140) ∧ (K (some (some (vI (A 4 (w32 i))))) F A))) ∧ (¬ w32 i < w32 140 → (K (some (some (vI 0))) F A))))
  have e0 : w32 0 = 0 := rfl
  have e1 : w32 140 = 140 := rfl
  rw [e0, e1]
  refine ⟨fun h1 => K_eq h ?_, fun h1 => ⟨fun h2 => ⟨by omega, K_eq h ?_⟩, fun h2 => K_eq h ?_⟩⟩ <;> unfold fat
  · rw [if_neg (by omega)]
  · rw [if_pos (by omega)]
  · rw [if_neg (by omega)]
theorem qtX2_at (l : Launch) : am_CT l layX qeX2_at := am_met0 rfl (by decide +kernel) rfl rfl rfl rfl rfl (fun _ => rfl) rfl (qzX2_at l) (fun k e1 h => (qyX2_at l k e1 h).2) (fun as F A K h => by
  replace h : qsX2_at as F A K := h
  unfold qsX2_at at h
  split at h
  · rename_i o i
    refine ⟨by first | exact Nat.le_of_ble_eq_true rfl | simp [am_fl, am_cat], ?_⟩
    replace h := am_cond2 h
    rcases h with ⟨hb, h⟩ | h
    · skip
      have hb0 := hb
      have hb0 := am_bq hb0
      subst hb0
      exact am_way_line (qvX2_at_1 i F A K h)
    replace h := am_cond2 h
    rcases h with ⟨hb, h⟩ | h
    · skip
      have hb0 := hb
      have hb0 := am_bq hb0
      subst hb0
      exact am_way_line (qvX2_at_3 i F A K h)
    exact h.elim
  · exact h.elim)
def qkX2_put : Nat → Option CI := fun pc => cond (Nat.ble 21 pc) none (cond (Nat.ble 10 pc) (cond (Nat.ble 17 pc) (cond (Nat.ble 19 pc) (cond (Nat.beq pc 19) (some (.iastore, 20, [])) (cond (Nat.beq pc 20) (some (.return_, 21, [])) (none))) (cond (Nat.beq pc 17) (some (.iload_n 1, 18, [])) (cond (Nat.beq pc 18) (some (.iload_n 2, 19, [])) (none)))) (cond (Nat.beq pc 10) (some (.if_icmp .ge 10, 13, [20])) (cond (Nat.beq pc 13) (some (.aload_n 0, 14, [])) (cond (Nat.beq pc 14) (some (.getfield 11, 17, [])) (none))))) (cond (Nat.ble 5 pc) (cond (Nat.beq pc 5) (some (.aload_n 0, 6, [])) (cond (Nat.beq pc 6) (some (.getfield 11, 9, [])) (cond (Nat.beq pc 9) (some (.arraylength, 10, [])) (none)))) (cond (Nat.beq pc 0) (some (.iload_n 1, 1, [])) (cond (Nat.beq pc 1) (some (.ifCond .lt 19, 4, [20])) (cond (Nat.beq pc 4) (some (.iload_n 1, 5, [])) (none))))))
theorem qkX2_put_ok : ∀ pc i nx ts, qkX2_put pc = some (i, nx, ts) → am_cok cX2_put pc (i, nx, ts) = true := fun pc i nx ts h => am_tok_ok (n := 21) (by decide +kernel) (fun pc h => by show cond (Nat.ble 21 pc) _ _ = _; rw [Nat.ble_eq_true_of_le h]; rfl) h
def qaX2_put : Nat → Option CE := fun k => none
theorem qyX2_put (l : Launch) : ∀ k e1, qaX2_put k = some e1 → am_cal l layX RX2 3 k e1 ∧ ceT e1 = 0 := q_nil
def qxX2_put : CX := (qkX2_put, layX, qfX2, qaX2_put, qcX2, qlX2, qmX2, none, false, none, 0, none, fun _ => none)
theorem qzX2_put (l : Launch) : am_sta l qxX2_put RX2 3 cX2_put := ⟨qkX2_put_ok, layX_ok, qfX2_ok, qcX2_ok, qlX2_ok, am_mthP qmX2_ok (by decide), fun k e1 h => (qyX2_put l k e1 h).1⟩
def qsX2_put : SP := fun as F A K => match as with
  | [.inr (.inr o), .inl i, .inl v] => cond (Nat.beq o 1) (K (some none) F (fput A 2 i v)) (cond (Nat.beq o 3) (K (some none) F (fput A 4 i v)) (False))
  | _ => False
def qeX2_put : CE := (yX2_put, cX2_put, 3, none, 2, some 2, 0, [], 0, 3, qsX2_put)
theorem qbX2_put : am_mb qeX2_put := ⟨am_tb_at 325 (by decide +kernel) rfl, am_tb_at 115 (by decide +kernel) rfl, ⟨by decide, by decide, by decide +kernel⟩, by decide, by decide, am_tb_at 324 (by decide +kernel) rfl, am_tb_at 0 (by decide +kernel) rfl, _, _, rfl⟩
theorem qvX2_put_1 (i : Int) (v : Int) (F : FF) (A : AA) (K : KK) (h : K (some none) F (fput A 2 i v)) : am_line qxX2_put 14 [vR 1, vI i, vI v] 3 F A K := by
  show (w32 i < w32 0 → (K (some none) F A)) ∧ (¬ w32 i < w32 0 → ((w32 i < w32 140 → ((0 ≤ w32 i ∧ w32 i < 140) ∧ (K (some none) F (upA A 2 (w32 i) v)))) ∧ (¬ w32 i < w32 140 → (K (some none) F A))))
  have e0 : w32 0 = 0 := rfl
  have e1 : w32 140 = 140 := rfl
  rw [e0, e1]
  refine ⟨fun h1 => A_eq h ?_, fun h1 => ⟨fun h2 => ⟨by omega, A_eq h ?_⟩, fun h2 => A_eq h ?_⟩⟩ <;> unfold fput
  · rw [if_neg (by omega)]
  · rw [if_pos (by omega)]
  · rw [if_neg (by omega)]
theorem qvX2_put_3 (i : Int) (v : Int) (F : FF) (A : AA) (K : KK) (h : K (some none) F (fput A 4 i v)) : am_line qxX2_put 14 [vR 3, vI i, vI v] 3 F A K := by
  show (w32 i < w32 0 → (K (some none) F A)) ∧ (¬ w32 i < w32 0 → ((w32 i < w32 140 → ((0 ≤ w32 i ∧ w32 i < 140) ∧ (K (some none) F (upA A 4 (w32 i) v)))) ∧ (¬ w32 i < w32 140 → (K (some none) F A))))
  have e0 : w32 0 = 0 := rfl
  have e1 : w32 140 = 140 := rfl
  rw [e0, e1]
  refine ⟨fun h1 => A_eq h ?_, fun h1 => ⟨fun h2 => ⟨by omega, A_eq h ?_⟩, fun h2 => A_eq h ?_⟩⟩ <;> unfold fput
  · rw [if_neg (by omega)]
  · rw [if_pos (by omega)]
  · rw [if_neg (by omega)]
theorem qtX2_put (l : Launch) : am_CT l layX qeX2_put := am_met0 rfl (by decide +kernel) rfl rfl rfl rfl rfl (fun _ => rfl) rfl (qzX2_put l) (fun k e1 h => (qyX2_put l k e1 h).2) (fun as F A K h => by
  replace h : qsX2_put as F A K := h
  unfold qsX2_put at h
  split at h
  · rename_i o i v
    refine ⟨by first | exact Nat.le_of_ble_eq_true rfl | simp [am_fl, am_cat], ?_⟩
    replace h := am_cond2 h
    rcases h with ⟨hb, h⟩ | h
    · skip
      have hb0 := hb
      have hb0 := am_bq hb0
      subst hb0
      exact am_way_line (qvX2_put_1 i v F A K h)
    replace h := am_cond2 h
    rcases h with ⟨hb, h⟩ | h
    · skip
      have hb0 := hb
      have hb0 := am_bq hb0
      subst hb0
      exact am_way_line (qvX2_put_3 i v F A K h)
    exact h.elim
  · exact h.elim)
def qkX2_size : Nat → Option CI := fun pc => cond (Nat.ble 9 pc) none (cond (Nat.ble 4 pc) (cond (Nat.beq pc 4) (some (.iadd, 5, [])) (cond (Nat.beq pc 5) (some (.invokevirtual 31, 8, [])) (cond (Nat.beq pc 8) (some (.ireturn, 9, [])) (none)))) (cond (Nat.beq pc 0) (some (.aload_n 0, 1, [])) (cond (Nat.beq pc 1) (some (.bipush 18, 3, [])) (cond (Nat.beq pc 3) (some (.iload_n 1, 4, [])) (none)))))
theorem qkX2_size_ok : ∀ pc i nx ts, qkX2_size pc = some (i, nx, ts) → am_cok cX2_size pc (i, nx, ts) = true := fun pc i nx ts h => am_tok_ok (n := 9) (by decide +kernel) (fun pc h => by show cond (Nat.ble 9 pc) _ _ = _; rw [Nat.ble_eq_true_of_le h]; rfl) h
def qaX2_size : Nat → Option CE := fun k => cond (Nat.beq k 31) (some qeX2_at) (none)
theorem qyX2_size (l : Launch) : ∀ k e1, qaX2_size k = some e1 → am_cal l layX RX2 4 k e1 ∧ ceT e1 = 0 := q_cons ⟨am_calV (ci := 2) (qtX2_at l) qbX2_at (by decide) rfl (am_tb_at 421 (by decide +kernel) rfl), rfl⟩ (q_nil)
def qxX2_size : CX := (qkX2_size, layX, qfX2, qaX2_size, qcX2, qlX2, qmX2, (some .int), false, none, 0, none, fun _ => none)
theorem qzX2_size (l : Launch) : am_sta l qxX2_size RX2 4 cX2_size := ⟨qkX2_size_ok, layX_ok, qfX2_ok, qcX2_ok, qlX2_ok, am_mthP qmX2_ok (by decide), fun k e1 h => (qyX2_size l k e1 h).1⟩
def qsX2_size : SP := fun as F A K => match as with
  | [.inr (.inr o), .inl c] => cond (Nat.beq o 1) (K (some (some (vI (fat (A 2) (18 + c))))) F A) (cond (Nat.beq o 3) (K (some (some (vI (fat (A 4) (18 + c))))) F A) (False))
  | _ => False
def qeX2_size : CE := (yX2_size, cX2_size, 2, (some .int), 1, some 2, 0, [], 0, 4, qsX2_size)
theorem qbX2_size : am_mb qeX2_size := ⟨am_tb_at 592 (by decide +kernel) rfl, am_tb_at 115 (by decide +kernel) rfl, ⟨by decide, by decide, by decide +kernel⟩, by decide, by decide, am_tb_at 590 (by decide +kernel) rfl, am_tb_at 591 (by decide +kernel) rfl, _, _, rfl⟩
theorem qvX2_size_1 (c : Int) (F : FF) (A : AA) (K : KK) (h : K (some (some (vI (fat (A 2) (18 + c))))) F A) : am_line qxX2_size 7 [vR 1, vI c] 2 F A K := by
  show K (some (some (vI (fat (A 2) (18 + c))))) F A
  exact h
theorem qvX2_size_3 (c : Int) (F : FF) (A : AA) (K : KK) (h : K (some (some (vI (fat (A 4) (18 + c))))) F A) : am_line qxX2_size 7 [vR 3, vI c] 2 F A K := by
  show K (some (some (vI (fat (A 4) (18 + c))))) F A
  exact h
theorem qtX2_size (l : Launch) : am_CT l layX qeX2_size := am_met0 rfl (by decide +kernel) rfl rfl rfl rfl rfl (fun _ => rfl) rfl (qzX2_size l) (fun k e1 h => (qyX2_size l k e1 h).2) (fun as F A K h => by
  replace h : qsX2_size as F A K := h
  unfold qsX2_size at h
  split at h
  · rename_i o c
    refine ⟨by first | exact Nat.le_of_ble_eq_true rfl | simp [am_fl, am_cat], ?_⟩
    replace h := am_cond2 h
    rcases h with ⟨hb, h⟩ | h
    · skip
      have hb0 := hb
      have hb0 := am_bq hb0
      subst hb0
      exact am_way_line (qvX2_size_1 c F A K h)
    replace h := am_cond2 h
    rcases h with ⟨hb, h⟩ | h
    · skip
      have hb0 := hb
      have hb0 := am_bq hb0
      subst hb0
      exact am_way_line (qvX2_size_3 c F A K h)
    exact h.elim
  · exact h.elim)
def qkX2_top : Nat → Option CI := fun pc => cond (Nat.ble 8 pc) none (cond (Nat.ble 5 pc) (cond (Nat.beq pc 5) (some (.iconst 1, 6, [])) (cond (Nat.beq pc 6) (some (.isub, 7, [])) (cond (Nat.beq pc 7) (some (.ireturn, 8, [])) (none)))) (cond (Nat.beq pc 0) (some (.aload_n 0, 1, [])) (cond (Nat.beq pc 1) (some (.iload_n 1, 2, [])) (cond (Nat.beq pc 2) (some (.invokevirtual 46, 5, [])) (none)))))
theorem qkX2_top_ok : ∀ pc i nx ts, qkX2_top pc = some (i, nx, ts) → am_cok cX2_top pc (i, nx, ts) = true := fun pc i nx ts h => am_tok_ok (n := 8) (by decide +kernel) (fun pc h => by show cond (Nat.ble 8 pc) _ _ = _; rw [Nat.ble_eq_true_of_le h]; rfl) h
def qaX2_top : Nat → Option CE := fun k => cond (Nat.beq k 46) (some qeX2_size) (none)
theorem qyX2_top (l : Launch) : ∀ k e1, qaX2_top k = some e1 → am_cal l layX RX2 5 k e1 ∧ ceT e1 = 0 := q_cons ⟨am_calV (ci := 2) (qtX2_size l) qbX2_size (by decide) rfl (am_tb_at 589 (by decide +kernel) rfl), rfl⟩ (q_nil)
def qxX2_top : CX := (qkX2_top, layX, qfX2, qaX2_top, qcX2, qlX2, qmX2, (some .int), false, none, 0, none, fun _ => none)
theorem qzX2_top (l : Launch) : am_sta l qxX2_top RX2 5 cX2_top := ⟨qkX2_top_ok, layX_ok, qfX2_ok, qcX2_ok, qlX2_ok, am_mthP qmX2_ok (by decide), fun k e1 h => (qyX2_top l k e1 h).1⟩
def qsX2_top : SP := fun as F A K => match as with
  | [.inr (.inr o), .inl c] => cond (Nat.beq o 1) (K (some (some (vI (fat (A 2) (18 + c) - 1)))) F A) (cond (Nat.beq o 3) (K (some (some (vI (fat (A 4) (18 + c) - 1)))) F A) (False))
  | _ => False
def qeX2_top : CE := (yX2_top, cX2_top, 2, (some .int), 1, some 2, 0, [], 0, 5, qsX2_top)
theorem qbX2_top : am_mb qeX2_top := ⟨am_tb_at 588 (by decide +kernel) rfl, am_tb_at 115 (by decide +kernel) rfl, ⟨by decide, by decide, by decide +kernel⟩, by decide, by decide, am_tb_at 586 (by decide +kernel) rfl, am_tb_at 587 (by decide +kernel) rfl, _, _, rfl⟩
theorem qvX2_top_1 (c : Int) (F : FF) (A : AA) (K : KK) (h : K (some (some (vI (fat (A 2) (18 + c) - 1)))) F A) : am_line qxX2_top 7 [vR 1, vI c] 2 F A K := by
  show K (some (some (vI ((fat (A 2) (18 + c)) - 1)))) F A
  exact h
theorem qvX2_top_3 (c : Int) (F : FF) (A : AA) (K : KK) (h : K (some (some (vI (fat (A 4) (18 + c) - 1)))) F A) : am_line qxX2_top 7 [vR 3, vI c] 2 F A K := by
  show K (some (some (vI ((fat (A 4) (18 + c)) - 1)))) F A
  exact h
theorem qtX2_top (l : Launch) : am_CT l layX qeX2_top := am_met0 rfl (by decide +kernel) rfl rfl rfl rfl rfl (fun _ => rfl) rfl (qzX2_top l) (fun k e1 h => (qyX2_top l k e1 h).2) (fun as F A K h => by
  replace h : qsX2_top as F A K := h
  unfold qsX2_top at h
  split at h
  · rename_i o c
    refine ⟨by first | exact Nat.le_of_ble_eq_true rfl | simp [am_fl, am_cat], ?_⟩
    replace h := am_cond2 h
    rcases h with ⟨hb, h⟩ | h
    · skip
      have hb0 := hb
      have hb0 := am_bq hb0
      subst hb0
      exact am_way_line (qvX2_top_1 c F A K h)
    replace h := am_cond2 h
    rcases h with ⟨hb, h⟩ | h
    · skip
      have hb0 := hb
      have hb0 := am_bq hb0
      subst hb0
      exact am_way_line (qvX2_top_3 c F A K h)
    exact h.elim
  · exact h.elim)
def qkX2_pointStart : Nat → Option CI := fun pc => cond (Nat.ble 11 pc) none (cond (Nat.ble 6 pc) (cond (Nat.ble 8 pc) (cond (Nat.beq pc 8) (some (.imul, 9, [])) (cond (Nat.beq pc 9) (some (.iadd, 10, [])) (cond (Nat.beq pc 10) (some (.ireturn, 11, [])) (none)))) (cond (Nat.beq pc 6) (some (.iadd, 7, [])) (cond (Nat.beq pc 7) (some (.iconst 3, 8, [])) (none)))) (cond (Nat.ble 3 pc) (cond (Nat.beq pc 3) (some (.iconst 4, 4, [])) (cond (Nat.beq pc 4) (some (.imul, 5, [])) (cond (Nat.beq pc 5) (some (.iload_n 1, 6, [])) (none)))) (cond (Nat.beq pc 0) (some (.bipush 26, 2, [])) (cond (Nat.beq pc 2) (some (.iload_n 0, 3, [])) (none)))))
theorem qkX2_pointStart_ok : ∀ pc i nx ts, qkX2_pointStart pc = some (i, nx, ts) → am_cok cX2_pointStart pc (i, nx, ts) = true := fun pc i nx ts h => am_tok_ok (n := 11) (by decide +kernel) (fun pc h => by show cond (Nat.ble 11 pc) _ _ = _; rw [Nat.ble_eq_true_of_le h]; rfl) h
def qaX2_pointStart : Nat → Option CE := fun k => none
theorem qyX2_pointStart (l : Launch) : ∀ k e1, qaX2_pointStart k = some e1 → am_cal l layX RX2 3 k e1 ∧ ceT e1 = 0 := q_nil
def qxX2_pointStart : CX := (qkX2_pointStart, layX, qfX2, qaX2_pointStart, qcX2, qlX2, qmX2, (some .int), false, none, 0, none, fun _ => none)
theorem qzX2_pointStart (l : Launch) : am_sta l qxX2_pointStart RX2 3 cX2_pointStart := ⟨qkX2_pointStart_ok, layX_ok, qfX2_ok, qcX2_ok, qlX2_ok, am_mthP qmX2_ok (by decide), fun k e1 h => (qyX2_pointStart l k e1 h).1⟩
def qsX2_pointStart : SP := fun as F A K => match as with
  | [.inl c, .inl k] => K (some (some (vI (26 + (c * 4 + k) * 3)))) F A
  | _ => False
def qeX2_pointStart : CE := (yX2_pointStart, cX2_pointStart, 2, (some .int), 2, none, 0, [], 0, 3, qsX2_pointStart)
theorem qbX2_pointStart : am_mb qeX2_pointStart := ⟨am_tb_at 474 (by decide +kernel) rfl, am_tb_at 115 (by decide +kernel) rfl, ⟨by decide, by decide, by decide +kernel⟩, by decide, am_tb_at 473 (by decide +kernel) rfl⟩
theorem qvX2_pointStart (c : Int) (k : Int) (F : FF) (A : AA) (K : KK) (h : K (some (some (vI (26 + (c * 4 + k) * 3)))) F A) : am_line qxX2_pointStart 11 [vI c, vI k] 2 F A K := by
  show K (some (some (vI (26 + (((c * 4) + k) * 3))))) F A
  exact h
theorem qtX2_pointStart (l : Launch) : am_CT l layX qeX2_pointStart := am_met0 rfl (by decide +kernel) rfl rfl rfl rfl rfl (fun _ => rfl) rfl (qzX2_pointStart l) (fun k e1 h => (qyX2_pointStart l k e1 h).2) (fun as F A K h => by
  replace h : qsX2_pointStart as F A K := h
  unfold qsX2_pointStart at h
  split at h
  · rename_i c k
    refine ⟨by first | exact Nat.le_of_ble_eq_true rfl | simp [am_fl, am_cat], ?_⟩
    exact am_way_line (qvX2_pointStart c k F A K h)
  · exact h.elim)
def qkX2_point : Nat → Option CI := fun pc => cond (Nat.ble 12 pc) none (cond (Nat.ble 6 pc) (cond (Nat.ble 8 pc) (cond (Nat.beq pc 8) (some (.invokevirtual 31, 11, [])) (cond (Nat.beq pc 11) (some (.ireturn, 12, [])) (none))) (cond (Nat.beq pc 6) (some (.iload_n 3, 7, [])) (cond (Nat.beq pc 7) (some (.iadd, 8, [])) (none)))) (cond (Nat.ble 2 pc) (cond (Nat.beq pc 2) (some (.iload_n 2, 3, [])) (cond (Nat.beq pc 3) (some (.invokestatic 53, 6, [])) (none))) (cond (Nat.beq pc 0) (some (.aload_n 0, 1, [])) (cond (Nat.beq pc 1) (some (.iload_n 1, 2, [])) (none)))))
theorem qkX2_point_ok : ∀ pc i nx ts, qkX2_point pc = some (i, nx, ts) → am_cok cX2_point pc (i, nx, ts) = true := fun pc i nx ts h => am_tok_ok (n := 12) (by decide +kernel) (fun pc h => by show cond (Nat.ble 12 pc) _ _ = _; rw [Nat.ble_eq_true_of_le h]; rfl) h
def qaX2_point : Nat → Option CE := fun k => cond (Nat.beq k 53) (some qeX2_pointStart) (cond (Nat.beq k 31) (some qeX2_at) (none))
theorem qyX2_point (l : Launch) : ∀ k e1, qaX2_point k = some e1 → am_cal l layX RX2 4 k e1 ∧ ceT e1 = 0 := q_cons ⟨am_calS (qtX2_pointStart l) qbX2_pointStart (by decide) rfl (by decide) (am_tb_at 472 (by decide +kernel) rfl), rfl⟩ (q_cons ⟨am_calV (ci := 2) (qtX2_at l) qbX2_at (by decide) rfl (am_tb_at 421 (by decide +kernel) rfl), rfl⟩ (q_nil))
def qxX2_point : CX := (qkX2_point, layX, qfX2, qaX2_point, qcX2, qlX2, qmX2, (some .int), false, none, 0, none, fun _ => none)
theorem qzX2_point (l : Launch) : am_sta l qxX2_point RX2 4 cX2_point := ⟨qkX2_point_ok, layX_ok, qfX2_ok, qcX2_ok, qlX2_ok, am_mthP qmX2_ok (by decide), fun k e1 h => (qyX2_point l k e1 h).1⟩
def qsX2_point : SP := fun as F A K => match as with
  | [.inr (.inr o), .inl c, .inl k, .inl w] => cond (Nat.beq o 1) (K (some (some (vI (fat (A 2) (26 + (c * 4 + k) * 3 + w))))) F A) (cond (Nat.beq o 3) (K (some (some (vI (fat (A 4) (26 + (c * 4 + k) * 3 + w))))) F A) (False))
  | _ => False
def qeX2_point : CE := (yX2_point, cX2_point, 4, (some .int), 3, some 2, 0, [], 0, 4, qsX2_point)
theorem qbX2_point : am_mb qeX2_point := ⟨am_tb_at 600 (by decide +kernel) rfl, am_tb_at 115 (by decide +kernel) rfl, ⟨by decide, by decide, by decide +kernel⟩, by decide, by decide, am_tb_at 598 (by decide +kernel) rfl, am_tb_at 599 (by decide +kernel) rfl, _, _, rfl⟩
theorem qvX2_point_1 (c : Int) (k : Int) (w : Int) (F : FF) (A : AA) (K : KK) (h : K (some (some (vI (fat (A 2) (26 + (c * 4 + k) * 3 + w))))) F A) : am_line qxX2_point 9 [vR 1, vI c, vI k, vI w] 4 F A K := by
  show K (some (some (vI (fat (A 2) ((26 + (c * 4 + k) * 3) + w))))) F A
  exact h
theorem qvX2_point_3 (c : Int) (k : Int) (w : Int) (F : FF) (A : AA) (K : KK) (h : K (some (some (vI (fat (A 4) (26 + (c * 4 + k) * 3 + w))))) F A) : am_line qxX2_point 9 [vR 3, vI c, vI k, vI w] 4 F A K := by
  show K (some (some (vI (fat (A 4) ((26 + (c * 4 + k) * 3) + w))))) F A
  exact h
theorem qtX2_point (l : Launch) : am_CT l layX qeX2_point := am_met0 rfl (by decide +kernel) rfl rfl rfl rfl rfl (fun _ => rfl) rfl (qzX2_point l) (fun k e1 h => (qyX2_point l k e1 h).2) (fun as F A K h => by
  replace h : qsX2_point as F A K := h
  unfold qsX2_point at h
  split at h
  · rename_i o c k w
    refine ⟨by first | exact Nat.le_of_ble_eq_true rfl | simp [am_fl, am_cat], ?_⟩
    replace h := am_cond2 h
    rcases h with ⟨hb, h⟩ | h
    · skip
      have hb0 := hb
      have hb0 := am_bq hb0
      subst hb0
      exact am_way_line (qvX2_point_1 c k w F A K h)
    replace h := am_cond2 h
    rcases h with ⟨hb, h⟩ | h
    · skip
      have hb0 := hb
      have hb0 := am_bq hb0
      subst hb0
      exact am_way_line (qvX2_point_3 c k w F A K h)
    exact h.elim
  · exact h.elim)
