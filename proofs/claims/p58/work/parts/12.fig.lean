def qkJ7_fill_53178 : Nat → Option CI := fun pc => cond (Nat.ble 21 pc) none (cond (Nat.ble 7 pc) (cond (Nat.ble 13 pc) (cond (Nat.ble 17 pc) (cond (Nat.beq pc 17) (some (.goto (-12), 20, [5])) (cond (Nat.beq pc 20) (some (.return_, 21, [])) (none))) (cond (Nat.beq pc 13) (some (.iastore, 14, [])) (cond (Nat.beq pc 14) (some (.iinc 2 1, 17, [])) (none)))) (cond (Nat.ble 11 pc) (cond (Nat.beq pc 11) (some (.iload_n 2, 12, [])) (cond (Nat.beq pc 12) (some (.iload_n 1, 13, [])) (none))) (cond (Nat.beq pc 7) (some (.if_icmp .ge 13, 10, [20])) (cond (Nat.beq pc 10) (some (.aload_n 0, 11, [])) (none))))) (cond (Nat.ble 3 pc) (cond (Nat.ble 5 pc) (cond (Nat.beq pc 5) (some (.iload_n 2, 6, [])) (cond (Nat.beq pc 6) (some (.iload_n 3, 7, [])) (none))) (cond (Nat.beq pc 3) (some (.arraylength, 4, [])) (cond (Nat.beq pc 4) (some (.istore_n 3, 5, [])) (none)))) (cond (Nat.beq pc 0) (some (.iconst 0, 1, [])) (cond (Nat.beq pc 1) (some (.istore_n 2, 2, [])) (cond (Nat.beq pc 2) (some (.aload_n 0, 3, [])) (none))))))
theorem qkJ7_fill_53178_ok : ∀ pc i nx ts, qkJ7_fill_53178 pc = some (i, nx, ts) → am_cok cJ7_fill_53178 pc (i, nx, ts) = true := fun pc i nx ts h => am_tok_ok (n := 21) (by decide +kernel) (fun pc h => by show cond (Nat.ble 21 pc) _ _ = _; rw [Nat.ble_eq_true_of_le h]; rfl) h
def qaJ7_fill_53178 : Nat → Option CE := fun k => none
theorem qyJ7_fill_53178 (l : Launch) : ∀ k e1, qaJ7_fill_53178 k = some e1 → am_cal l layX RJ7 3 k e1 ∧ ceT e1 = 0 := q_nil
def qxJ7_fill_53178 : CX := (qkJ7_fill_53178, layX, qfJ7, qaJ7_fill_53178, qcJ7, qlJ7, qmJ7, none, false, none, 0, none, fun _ => none)
theorem qzJ7_fill_53178 (l : Launch) : am_sta l qxJ7_fill_53178 RJ7 3 cJ7_fill_53178 := ⟨qkJ7_fill_53178_ok, layX_ok, qfJ7_ok, qcJ7_ok, qlJ7_ok, am_mthP qmJ7_ok (by decide), fun k e1 h => (qyJ7_fill_53178 l k e1 h).1⟩
def qsJ7_fill_53178 : SP := fun as F A K => match as with
  | [.inr (.inr a), .inl v] => cond (Nat.beq a 2) (K (some none) F (fillA A 2 140 v)) (cond (Nat.beq a 4) (K (some none) F (fillA A 4 140 v)) (cond (Nat.beq a 20) (K (some none) F (fillA A 20 4096 v)) (False)))
  | _ => False
def qeJ7_fill_53178 : CE := (yJ7_fill_53178, cJ7_fill_53178, 4, none, 2, none, 0, none, 0, 3, qsJ7_fill_53178)
theorem qbJ7_fill_53178 : am_mb qeJ7_fill_53178 := ⟨am_tb_at 249 (by decide +kernel) rfl, am_tb_at 44 (by decide +kernel) rfl, ⟨by decide, by decide, by decide +kernel⟩, by decide, am_tb_at 248 (by decide +kernel) rfl⟩
def qnJ7_fill_53178_2 : CUT := fun pc => cond (Nat.beq pc 5) (some [true, true, true, true]) (none)
def qiJ7_fill_53178_2 (v : Int) (F0 : FF) (A0 : AA) : REC := fun pc ls st F A u => cond (Nat.beq pc 5) (match ls, st, u with
    | [some (.inr (.inr s0)), some (.inl s1), some (.inl i), some (.inl e)], [], 0 => s0 = 2 ∧ s1 = v ∧ F = F0 ∧ (e = 140 ∧ 0 ≤ i ∧ i ≤ 140 ∧ A = fillA A0 2 i v)
    | _, _, _ => False) (False)
def quJ7_fill_53178_2 : Nat → LVs → List AV → FF → AA → Nat := fun pc ls _ F A => cond (Nat.beq pc 5) (match ls with
    | [some (.inr (.inr s0)), some (.inl s1), some (.inl i), some (.inl e)] => (140 - i).toNat
    | _ => 0) (0)
theorem qvJ7_fill_53178_2_0 (v : Int) (F0 : FF) (A0 : AA) (K : KK) (h : K (some none) F0 (fillA A0 2 140 v)) : am_stp qxJ7_fill_53178 (am_run qxJ7_fill_53178 qnJ7_fill_53178_2 (qiJ7_fill_53178_2 v F0 A0) K 12) K 0 (am_ent [vR 2, vI v] 4) [] F0 A0 0 := by
  show am_stp qxJ7_fill_53178 (am_run qxJ7_fill_53178 qnJ7_fill_53178_2 (qiJ7_fill_53178_2 v F0 A0) K 12) K 0 [some (vR 2), some (vI v), none, none] [] F0 A0 0
  show 2 = 2 ∧ v = v ∧ F0 = F0 ∧ (140 = 140 ∧ 0 ≤ 0 ∧ 0 ≤ 140 ∧ A0 = fillA A0 2 0 v)
  refine ⟨rfl, rfl, rfl, rfl, by omega, by omega, ?_⟩
  funext k j
  unfold fillA
  rw [if_neg (by omega)]
theorem qvJ7_fill_53178_2_5 (v : Int) (F0 : FF) (A0 : AA) (K : KK) (h : K (some none) F0 (fillA A0 2 140 v)) (i : Int) (e : Int) (A : AA) (hi : e = 140 ∧ 0 ≤ i ∧ i ≤ 140 ∧ A = fillA A0 2 i v) : am_stp qxJ7_fill_53178 (am_run qxJ7_fill_53178 qnJ7_fill_53178_2 (fun pc ls st F A u => qiJ7_fill_53178_2 v F0 A0 pc ls st F A u ∧ quJ7_fill_53178_2 pc ls st F A < quJ7_fill_53178_2 5 [some (vR 2), some (vI v), some (vI i), some (vI e)] [] F0 A) K 12) K 5 [some (vR 2), some (vI v), some (vI i), some (vI e)] [] F0 A 0 := by
  show (w32 i < w32 e → ((0 ≤ w32 i ∧ w32 i < 140) ∧ ((2 = 2 ∧ v = v ∧ F0 = F0 ∧ (e = 140 ∧ 0 ≤ (i + 1) ∧ (i + 1) ≤ 140 ∧ (upA A 2 (w32 i) v) = fillA A0 2 (i + 1) v)) ∧ ((140 - (i + 1)).toNat) < ((140 - i).toNat)))) ∧ (¬ w32 i < w32 e → (K (some none) F0 A))
  obtain ⟨rfl, h1, h2, rfl⟩ := hi
  rw [w32_id (x := i) (by omega) (by omega), show w32 140 = 140 from rfl]
  refine ⟨fun hlt => ⟨by omega, ⟨rfl, rfl, rfl, rfl, by omega, by omega, ?_⟩, by omega⟩, fun hge => ?_⟩
  · funext k j
    unfold upA fillA
    by_cases hk : k = 2 ∧ j = i
    · rw [if_pos hk, if_pos (by omega)]
    · rw [if_neg hk]
      by_cases h5 : k = 2 ∧ 0 ≤ j ∧ j < i
      · rw [if_pos h5, if_pos (by omega)]
      · rw [if_neg h5, if_neg (by omega)]
  · have : i = 140 := by omega
    subst this
    exact h
theorem qvJ7_fill_53178_2 (v : Int) (F0 : FF) (A0 : AA) (K : KK) (h : K (some none) F0 (fillA A0 2 140 v)) : am_body qxJ7_fill_53178 qnJ7_fill_53178_2 12 (qiJ7_fill_53178_2 v F0 A0) quJ7_fill_53178_2 [vR 2, vI v] 4 F0 A0 K := by
  refine ⟨qvJ7_fill_53178_2_0 v F0 A0 K h, fun pc ls st F A u hI => ?_⟩
  unfold qiJ7_fill_53178_2 at hI
  replace hI := am_cond2 hI
  rcases hI with ⟨hb, hI⟩ | hI
  · have hb := am_bq hb
    subst hb
    split at hI
    · rename_i s0 s1 i e
      obtain ⟨e0, e1, e2, hI⟩ := hI
      subst e0
      subst e1
      subst e2
      exact qvJ7_fill_53178_2_5 _ _ _ K h _ _ _ hI
    · exact hI.elim
  exact hI.elim
def qnJ7_fill_53178_4 : CUT := fun pc => cond (Nat.beq pc 5) (some [true, true, true, true]) (none)
def qiJ7_fill_53178_4 (v : Int) (F0 : FF) (A0 : AA) : REC := fun pc ls st F A u => cond (Nat.beq pc 5) (match ls, st, u with
    | [some (.inr (.inr s0)), some (.inl s1), some (.inl i), some (.inl e)], [], 0 => s0 = 4 ∧ s1 = v ∧ F = F0 ∧ (e = 140 ∧ 0 ≤ i ∧ i ≤ 140 ∧ A = fillA A0 4 i v)
    | _, _, _ => False) (False)
def quJ7_fill_53178_4 : Nat → LVs → List AV → FF → AA → Nat := fun pc ls _ F A => cond (Nat.beq pc 5) (match ls with
    | [some (.inr (.inr s0)), some (.inl s1), some (.inl i), some (.inl e)] => (140 - i).toNat
    | _ => 0) (0)
theorem qvJ7_fill_53178_4_0 (v : Int) (F0 : FF) (A0 : AA) (K : KK) (h : K (some none) F0 (fillA A0 4 140 v)) : am_stp qxJ7_fill_53178 (am_run qxJ7_fill_53178 qnJ7_fill_53178_4 (qiJ7_fill_53178_4 v F0 A0) K 12) K 0 (am_ent [vR 4, vI v] 4) [] F0 A0 0 := by
  show am_stp qxJ7_fill_53178 (am_run qxJ7_fill_53178 qnJ7_fill_53178_4 (qiJ7_fill_53178_4 v F0 A0) K 12) K 0 [some (vR 4), some (vI v), none, none] [] F0 A0 0
  show 4 = 4 ∧ v = v ∧ F0 = F0 ∧ (140 = 140 ∧ 0 ≤ 0 ∧ 0 ≤ 140 ∧ A0 = fillA A0 4 0 v)
  refine ⟨rfl, rfl, rfl, rfl, by omega, by omega, ?_⟩
  funext k j
  unfold fillA
  rw [if_neg (by omega)]
theorem qvJ7_fill_53178_4_5 (v : Int) (F0 : FF) (A0 : AA) (K : KK) (h : K (some none) F0 (fillA A0 4 140 v)) (i : Int) (e : Int) (A : AA) (hi : e = 140 ∧ 0 ≤ i ∧ i ≤ 140 ∧ A = fillA A0 4 i v) : am_stp qxJ7_fill_53178 (am_run qxJ7_fill_53178 qnJ7_fill_53178_4 (fun pc ls st F A u => qiJ7_fill_53178_4 v F0 A0 pc ls st F A u ∧ quJ7_fill_53178_4 pc ls st F A < quJ7_fill_53178_4 5 [some (vR 4), some (vI v), some (vI i), some (vI e)] [] F0 A) K 12) K 5 [some (vR 4), some (vI v), some (vI i), some (vI e)] [] F0 A 0 := by
  show (w32 i < w32 e → ((0 ≤ w32 i ∧ w32 i < 140) ∧ ((4 = 4 ∧ v = v ∧ F0 = F0 ∧ (e = 140 ∧ 0 ≤ (i + 1) ∧ (i + 1) ≤ 140 ∧ (upA A 4 (w32 i) v) = fillA A0 4 (i + 1) v)) ∧ ((140 - (i + 1)).toNat) < ((140 - i).toNat)))) ∧ (¬ w32 i < w32 e → (K (some none) F0 A))
  obtain ⟨rfl, h1, h2, rfl⟩ := hi
  rw [w32_id (x := i) (by omega) (by omega), show w32 140 = 140 from rfl]
  refine ⟨fun hlt => ⟨by omega, ⟨rfl, rfl, rfl, rfl, by omega, by omega, ?_⟩, by omega⟩, fun hge => ?_⟩
  · funext k j
    unfold upA fillA
    by_cases hk : k = 4 ∧ j = i
    · rw [if_pos hk, if_pos (by omega)]
    · rw [if_neg hk]
      by_cases h5 : k = 4 ∧ 0 ≤ j ∧ j < i
      · rw [if_pos h5, if_pos (by omega)]
      · rw [if_neg h5, if_neg (by omega)]
  · have : i = 140 := by omega
    subst this
    exact h
theorem qvJ7_fill_53178_4 (v : Int) (F0 : FF) (A0 : AA) (K : KK) (h : K (some none) F0 (fillA A0 4 140 v)) : am_body qxJ7_fill_53178 qnJ7_fill_53178_4 12 (qiJ7_fill_53178_4 v F0 A0) quJ7_fill_53178_4 [vR 4, vI v] 4 F0 A0 K := by
  refine ⟨qvJ7_fill_53178_4_0 v F0 A0 K h, fun pc ls st F A u hI => ?_⟩
  unfold qiJ7_fill_53178_4 at hI
  replace hI := am_cond2 hI
  rcases hI with ⟨hb, hI⟩ | hI
  · have hb := am_bq hb
    subst hb
    split at hI
    · rename_i s0 s1 i e
      obtain ⟨e0, e1, e2, hI⟩ := hI
      subst e0
      subst e1
      subst e2
      exact qvJ7_fill_53178_4_5 _ _ _ K h _ _ _ hI
    · exact hI.elim
  exact hI.elim
def qnJ7_fill_53178_20 : CUT := fun pc => cond (Nat.beq pc 5) (some [true, true, true, true]) (none)
def qiJ7_fill_53178_20 (v : Int) (F0 : FF) (A0 : AA) : REC := fun pc ls st F A u => cond (Nat.beq pc 5) (match ls, st, u with
    | [some (.inr (.inr s0)), some (.inl s1), some (.inl i), some (.inl e)], [], 0 => s0 = 20 ∧ s1 = v ∧ F = F0 ∧ (e = 4096 ∧ 0 ≤ i ∧ i ≤ 4096 ∧ A = fillA A0 20 i v)
    | _, _, _ => False) (False)
def quJ7_fill_53178_20 : Nat → LVs → List AV → FF → AA → Nat := fun pc ls _ F A => cond (Nat.beq pc 5) (match ls with
    | [some (.inr (.inr s0)), some (.inl s1), some (.inl i), some (.inl e)] => (4096 - i).toNat
    | _ => 0) (0)
theorem qvJ7_fill_53178_20_0 (v : Int) (F0 : FF) (A0 : AA) (K : KK) (h : K (some none) F0 (fillA A0 20 4096 v)) : am_stp qxJ7_fill_53178 (am_run qxJ7_fill_53178 qnJ7_fill_53178_20 (qiJ7_fill_53178_20 v F0 A0) K 12) K 0 (am_ent [vR 20, vI v] 4) [] F0 A0 0 := by
  show am_stp qxJ7_fill_53178 (am_run qxJ7_fill_53178 qnJ7_fill_53178_20 (qiJ7_fill_53178_20 v F0 A0) K 12) K 0 [some (vR 20), some (vI v), none, none] [] F0 A0 0
  show 20 = 20 ∧ v = v ∧ F0 = F0 ∧ (4096 = 4096 ∧ 0 ≤ 0 ∧ 0 ≤ 4096 ∧ A0 = fillA A0 20 0 v)
  refine ⟨rfl, rfl, rfl, rfl, by omega, by omega, ?_⟩
  funext k j
  unfold fillA
  rw [if_neg (by omega)]
theorem qvJ7_fill_53178_20_5 (v : Int) (F0 : FF) (A0 : AA) (K : KK) (h : K (some none) F0 (fillA A0 20 4096 v)) (i : Int) (e : Int) (A : AA) (hi : e = 4096 ∧ 0 ≤ i ∧ i ≤ 4096 ∧ A = fillA A0 20 i v) : am_stp qxJ7_fill_53178 (am_run qxJ7_fill_53178 qnJ7_fill_53178_20 (fun pc ls st F A u => qiJ7_fill_53178_20 v F0 A0 pc ls st F A u ∧ quJ7_fill_53178_20 pc ls st F A < quJ7_fill_53178_20 5 [some (vR 20), some (vI v), some (vI i), some (vI e)] [] F0 A) K 12) K 5 [some (vR 20), some (vI v), some (vI i), some (vI e)] [] F0 A 0 := by
  show (w32 i < w32 e → ((0 ≤ w32 i ∧ w32 i < 4096) ∧ ((20 = 20 ∧ v = v ∧ F0 = F0 ∧ (e = 4096 ∧ 0 ≤ (i + 1) ∧ (i + 1) ≤ 4096 ∧ (upA A 20 (w32 i) v) = fillA A0 20 (i + 1) v)) ∧ ((4096 - (i + 1)).toNat) < ((4096 - i).toNat)))) ∧ (¬ w32 i < w32 e → (K (some none) F0 A))
  obtain ⟨rfl, h1, h2, rfl⟩ := hi
  rw [w32_id (x := i) (by omega) (by omega), show w32 4096 = 4096 from rfl]
  refine ⟨fun hlt => ⟨by omega, ⟨rfl, rfl, rfl, rfl, by omega, by omega, ?_⟩, by omega⟩, fun hge => ?_⟩
  · funext k j
    unfold upA fillA
    by_cases hk : k = 20 ∧ j = i
    · rw [if_pos hk, if_pos (by omega)]
    · rw [if_neg hk]
      by_cases h5 : k = 20 ∧ 0 ≤ j ∧ j < i
      · rw [if_pos h5, if_pos (by omega)]
      · rw [if_neg h5, if_neg (by omega)]
  · have : i = 4096 := by omega
    subst this
    exact h
theorem qvJ7_fill_53178_20 (v : Int) (F0 : FF) (A0 : AA) (K : KK) (h : K (some none) F0 (fillA A0 20 4096 v)) : am_body qxJ7_fill_53178 qnJ7_fill_53178_20 12 (qiJ7_fill_53178_20 v F0 A0) quJ7_fill_53178_20 [vR 20, vI v] 4 F0 A0 K := by
  refine ⟨qvJ7_fill_53178_20_0 v F0 A0 K h, fun pc ls st F A u hI => ?_⟩
  unfold qiJ7_fill_53178_20 at hI
  replace hI := am_cond2 hI
  rcases hI with ⟨hb, hI⟩ | hI
  · have hb := am_bq hb
    subst hb
    split at hI
    · rename_i s0 s1 i e
      obtain ⟨e0, e1, e2, hI⟩ := hI
      subst e0
      subst e1
      subst e2
      exact qvJ7_fill_53178_20_5 _ _ _ K h _ _ _ hI
    · exact hI.elim
  exact hI.elim
theorem qtJ7_fill_53178 (l : Launch) : am_CT l layX qeJ7_fill_53178 := am_met0 rfl (by decide +kernel) rfl rfl rfl rfl rfl (fun _ => rfl) rfl (qzJ7_fill_53178 l) (fun k e1 h => (qyJ7_fill_53178 l k e1 h).2) (fun as F A K h => by
  replace h : qsJ7_fill_53178 as F A K := h
  unfold qsJ7_fill_53178 at h
  split at h
  · rename_i a v
    refine ⟨by first | exact Nat.le_of_ble_eq_true rfl | simp [am_fl, am_cat], ?_⟩
    replace h := am_cond2 h
    rcases h with ⟨hb, h⟩ | h
    · skip
      have hb0 := hb
      have hb0 := am_bq hb0
      subst hb0
      exact am_way_body (qvJ7_fill_53178_2 v F A K h)
    replace h := am_cond2 h
    rcases h with ⟨hb, h⟩ | h
    · skip
      have hb0 := hb
      have hb0 := am_bq hb0
      subst hb0
      exact am_way_body (qvJ7_fill_53178_4 v F A K h)
    replace h := am_cond2 h
    rcases h with ⟨hb, h⟩ | h
    · skip
      have hb0 := hb
      have hb0 := am_bq hb0
      subst hb0
      exact am_way_body (qvJ7_fill_53178_20 v F A K h)
    exact h.elim
  · exact h.elim)
def qkX2_at : Nat → Option CI := fun pc => cond (Nat.ble 24 pc) none (cond (Nat.ble 13 pc) (cond (Nat.ble 18 pc) (cond (Nat.ble 22 pc) (cond (Nat.beq pc 22) (some (.iconst 0, 23, [])) (cond (Nat.beq pc 23) (some (.ireturn, 24, [])) (none))) (cond (Nat.beq pc 18) (some (.iaload, 19, [])) (cond (Nat.beq pc 19) (some (.goto 4, 22, [23])) (none)))) (cond (Nat.beq pc 13) (some (.aload_n 0, 14, [])) (cond (Nat.beq pc 14) (some (.getfield 11, 17, [])) (cond (Nat.beq pc 17) (some (.iload_n 1, 18, [])) (none))))) (cond (Nat.ble 5 pc) (cond (Nat.ble 9 pc) (cond (Nat.beq pc 9) (some (.arraylength, 10, [])) (cond (Nat.beq pc 10) (some (.if_icmp .ge 12, 13, [22])) (none))) (cond (Nat.beq pc 5) (some (.aload_n 0, 6, [])) (cond (Nat.beq pc 6) (some (.getfield 11, 9, [])) (none)))) (cond (Nat.beq pc 0) (some (.iload_n 1, 1, [])) (cond (Nat.beq pc 1) (some (.ifCond .lt 21, 4, [22])) (cond (Nat.beq pc 4) (some (.iload_n 1, 5, [])) (none))))))
theorem qkX2_at_ok : ∀ pc i nx ts, qkX2_at pc = some (i, nx, ts) → am_cok cX2_at pc (i, nx, ts) = true := fun pc i nx ts h => am_tok_ok (n := 24) (by decide +kernel) (fun pc h => by show cond (Nat.ble 24 pc) _ _ = _; rw [Nat.ble_eq_true_of_le h]; rfl) h
def qaX2_at : Nat → Option CE := fun k => none
theorem qyX2_at (l : Launch) : ∀ k e1, qaX2_at k = some e1 → am_cal l layX RX2 3 k e1 ∧ ceT e1 = 0 := q_nil
def qxX2_at : CX := (qkX2_at, layX, qfX2, qaX2_at, qcX2, qlX2, qmX2, (some .int), false, none, 0, none, fun _ => none)
theorem qzX2_at (l : Launch) : am_sta l qxX2_at RX2 3 cX2_at := ⟨qkX2_at_ok, layX_ok, qfX2_ok, qcX2_ok, qlX2_ok, am_mthP qmX2_ok (by decide), fun k e1 h => (qyX2_at l k e1 h).1⟩
def qsX2_at : SP := fun as F A K => match as with
  | [.inr (.inr o), .inl i] => cond (Nat.beq o 1) (K (some (some (vI (fat (A 2) i)))) F A) (cond (Nat.beq o 3) (K (some (some (vI (fat (A 4) i)))) F A) (False))
  | _ => False
def qeX2_at : CE := (yX2_at, cX2_at, 2, (some .int), 1, some 2, 0, none, 0, 3, qsX2_at)
theorem qbX2_at : am_mb qeX2_at := ⟨am_tb_at 662 (by decide +kernel) rfl, am_tb_at 36 (by decide +kernel) rfl, ⟨by decide, by decide, by decide +kernel⟩, by decide, am_tb_at 661 (by decide +kernel) rfl, am_tb_at 8 (by decide +kernel) rfl, _, _, rfl⟩
theorem qvX2_at_1 (i : Int) (F : FF) (A : AA) (K : KK) (h : K (some (some (vI (fat (A 2) i)))) F A) : am_line qxX2_at 14 [vR 1, vI i] 2 F A K := by
  show am_stp qxX2_at (am_run qxX2_at (fun _ => none) (fun _ _ _ _ _ _ => False) K 14) K 0 [some (vR 1), some (vI i)] [] F A 0
  show (w32 i < w32 0 → (K (some (some (vI 0))) F A)) ∧ (¬ w32 i < w32 0 → ((w32 i < w32 140 → ((0 ≤ w32 i ∧ w32 i < 140) ∧ (K (some (some (vI (A 2 (w32 i))))) F A))) ∧ (¬ w32 i < w32 140 → (K (some (some (vI 0))) F A))))
  have e0 : w32 0 = 0 := rfl
  have e1 : w32 140 = 140 := rfl
  rw [e0, e1]
  refine ⟨fun h1 => K_eq h ?_, fun h1 => ⟨fun h2 => ⟨by omega, K_eq h ?_⟩, fun h2 => K_eq h ?_⟩⟩ <;> unfold fat
  · rw [if_neg (by omega)]
  · rw [if_pos (by omega)]
  · rw [if_neg (by omega)]
theorem qvX2_at_3 (i : Int) (F : FF) (A : AA) (K : KK) (h : K (some (some (vI (fat (A 4) i)))) F A) : am_line qxX2_at 14 [vR 3, vI i] 2 F A K := by
  show am_stp qxX2_at (am_run qxX2_at (fun _ => none) (fun _ _ _ _ _ _ => False) K 14) K 0 [some (vR 3), some (vI i)] [] F A 0
  show (w32 i < w32 0 → (K (some (some (vI 0))) F A)) ∧ (¬ w32 i < w32 0 → ((w32 i < w32 140 → ((0 ≤ w32 i ∧ w32 i < 140) ∧ (K (some (some (vI (A 4 (w32 i))))) F A))) ∧ (¬ w32 i < w32 140 → (K (some (some (vI 0))) F A))))
  have e0 : w32 0 = 0 := rfl
  have e1 : w32 140 = 140 := rfl
  rw [e0, e1]
  refine ⟨fun h1 => K_eq h ?_, fun h1 => ⟨fun h2 => ⟨by omega, K_eq h ?_⟩, fun h2 => K_eq h ?_⟩⟩ <;> unfold fat
  · rw [if_neg (by omega)]
  · rw [if_pos (by omega)]
  · rw [if_neg (by omega)]
theorem qtX2_at (l : Launch) : am_CT l layX qeX2_at := am_met0 rfl (by decide +kernel) rfl rfl rfl rfl rfl (fun _ => rfl) rfl (qzX2_at l) (fun k e1 h => (qyX2_at l k e1 h).2) (fun as F A K h => by
  replace h : qsX2_at as F A K := h
  unfold qsX2_at at h
  split at h
  · rename_i o i
    refine ⟨by first | exact Nat.le_of_ble_eq_true rfl | simp [am_fl, am_cat], ?_⟩
    replace h := am_cond2 h
    rcases h with ⟨hb, h⟩ | h
    · skip
      have hb0 := hb
      have hb0 := am_bq hb0
      subst hb0
      exact am_way_line (qvX2_at_1 i F A K h)
    replace h := am_cond2 h
    rcases h with ⟨hb, h⟩ | h
    · skip
      have hb0 := hb
      have hb0 := am_bq hb0
      subst hb0
      exact am_way_line (qvX2_at_3 i F A K h)
    exact h.elim
  · exact h.elim)
def qkX2_put : Nat → Option CI := fun pc => cond (Nat.ble 21 pc) none (cond (Nat.ble 10 pc) (cond (Nat.ble 17 pc) (cond (Nat.ble 19 pc) (cond (Nat.beq pc 19) (some (.iastore, 20, [])) (cond (Nat.beq pc 20) (some (.return_, 21, [])) (none))) (cond (Nat.beq pc 17) (some (.iload_n 1, 18, [])) (cond (Nat.beq pc 18) (some (.iload_n 2, 19, [])) (none)))) (cond (Nat.beq pc 10) (some (.if_icmp .ge 10, 13, [20])) (cond (Nat.beq pc 13) (some (.aload_n 0, 14, [])) (cond (Nat.beq pc 14) (some (.getfield 11, 17, [])) (none))))) (cond (Nat.ble 5 pc) (cond (Nat.beq pc 5) (some (.aload_n 0, 6, [])) (cond (Nat.beq pc 6) (some (.getfield 11, 9, [])) (cond (Nat.beq pc 9) (some (.arraylength, 10, [])) (none)))) (cond (Nat.beq pc 0) (some (.iload_n 1, 1, [])) (cond (Nat.beq pc 1) (some (.ifCond .lt 19, 4, [20])) (cond (Nat.beq pc 4) (some (.iload_n 1, 5, [])) (none))))))
theorem qkX2_put_ok : ∀ pc i nx ts, qkX2_put pc = some (i, nx, ts) → am_cok cX2_put pc (i, nx, ts) = true := fun pc i nx ts h => am_tok_ok (n := 21) (by decide +kernel) (fun pc h => by show cond (Nat.ble 21 pc) _ _ = _; rw [Nat.ble_eq_true_of_le h]; rfl) h
def qaX2_put : Nat → Option CE := fun k => none
theorem qyX2_put (l : Launch) : ∀ k e1, qaX2_put k = some e1 → am_cal l layX RX2 3 k e1 ∧ ceT e1 = 0 := q_nil
def qxX2_put : CX := (qkX2_put, layX, qfX2, qaX2_put, qcX2, qlX2, qmX2, none, false, none, 0, none, fun _ => none)
theorem qzX2_put (l : Launch) : am_sta l qxX2_put RX2 3 cX2_put := ⟨qkX2_put_ok, layX_ok, qfX2_ok, qcX2_ok, qlX2_ok, am_mthP qmX2_ok (by decide), fun k e1 h => (qyX2_put l k e1 h).1⟩
def qsX2_put : SP := fun as F A K => match as with
  | [.inr (.inr o), .inl i, .inl v] => cond (Nat.beq o 1) (K (some none) F (fput A 2 i v)) (cond (Nat.beq o 3) (K (some none) F (fput A 4 i v)) (False))
  | _ => False
def qeX2_put : CE := (yX2_put, cX2_put, 3, none, 2, some 2, 0, none, 0, 3, qsX2_put)
theorem qbX2_put : am_mb qeX2_put := ⟨am_tb_at 253 (by decide +kernel) rfl, am_tb_at 36 (by decide +kernel) rfl, ⟨by decide, by decide, by decide +kernel⟩, by decide, am_tb_at 252 (by decide +kernel) rfl, am_tb_at 0 (by decide +kernel) rfl, _, _, rfl⟩
theorem qvX2_put_1 (i : Int) (v : Int) (F : FF) (A : AA) (K : KK) (h : K (some none) F (fput A 2 i v)) : am_line qxX2_put 14 [vR 1, vI i, vI v] 3 F A K := by
  show am_stp qxX2_put (am_run qxX2_put (fun _ => none) (fun _ _ _ _ _ _ => False) K 14) K 0 [some (vR 1), some (vI i), some (vI v)] [] F A 0
  show (w32 i < w32 0 → (K (some none) F A)) ∧ (¬ w32 i < w32 0 → ((w32 i < w32 140 → ((0 ≤ w32 i ∧ w32 i < 140) ∧ (K (some none) F (upA A 2 (w32 i) v)))) ∧ (¬ w32 i < w32 140 → (K (some none) F A))))
  have e0 : w32 0 = 0 := rfl
  have e1 : w32 140 = 140 := rfl
  rw [e0, e1]
  refine ⟨fun h1 => A_eq h ?_, fun h1 => ⟨fun h2 => ⟨by omega, A_eq h ?_⟩, fun h2 => A_eq h ?_⟩⟩ <;> unfold fput
  · rw [if_neg (by omega)]
  · rw [if_pos (by omega)]
  · rw [if_neg (by omega)]
theorem qvX2_put_3 (i : Int) (v : Int) (F : FF) (A : AA) (K : KK) (h : K (some none) F (fput A 4 i v)) : am_line qxX2_put 14 [vR 3, vI i, vI v] 3 F A K := by
  show am_stp qxX2_put (am_run qxX2_put (fun _ => none) (fun _ _ _ _ _ _ => False) K 14) K 0 [some (vR 3), some (vI i), some (vI v)] [] F A 0
  show (w32 i < w32 0 → (K (some none) F A)) ∧ (¬ w32 i < w32 0 → ((w32 i < w32 140 → ((0 ≤ w32 i ∧ w32 i < 140) ∧ (K (some none) F (upA A 4 (w32 i) v)))) ∧ (¬ w32 i < w32 140 → (K (some none) F A))))
  have e0 : w32 0 = 0 := rfl
  have e1 : w32 140 = 140 := rfl
  rw [e0, e1]
  refine ⟨fun h1 => A_eq h ?_, fun h1 => ⟨fun h2 => ⟨by omega, A_eq h ?_⟩, fun h2 => A_eq h ?_⟩⟩ <;> unfold fput
  · rw [if_neg (by omega)]
  · rw [if_pos (by omega)]
  · rw [if_neg (by omega)]
theorem qtX2_put (l : Launch) : am_CT l layX qeX2_put := am_met0 rfl (by decide +kernel) rfl rfl rfl rfl rfl (fun _ => rfl) rfl (qzX2_put l) (fun k e1 h => (qyX2_put l k e1 h).2) (fun as F A K h => by
  replace h : qsX2_put as F A K := h
  unfold qsX2_put at h
  split at h
  · rename_i o i v
    refine ⟨by first | exact Nat.le_of_ble_eq_true rfl | simp [am_fl, am_cat], ?_⟩
    replace h := am_cond2 h
    rcases h with ⟨hb, h⟩ | h
    · skip
      have hb0 := hb
      have hb0 := am_bq hb0
      subst hb0
      exact am_way_line (qvX2_put_1 i v F A K h)
    replace h := am_cond2 h
    rcases h with ⟨hb, h⟩ | h
    · skip
      have hb0 := hb
      have hb0 := am_bq hb0
      subst hb0
      exact am_way_line (qvX2_put_3 i v F A K h)
    exact h.elim
  · exact h.elim)
def qkX2_makeEmpty : Nat → Option CI := fun pc => cond (Nat.ble 22 pc) none (cond (Nat.ble 10 pc) (cond (Nat.ble 16 pc) (cond (Nat.ble 18 pc) (cond (Nat.beq pc 18) (some (.invokevirtual 21, 21, [])) (cond (Nat.beq pc 21) (some (.return_, 22, [])) (none))) (cond (Nat.beq pc 16) (some (.iconst 3, 17, [])) (cond (Nat.beq pc 17) (some (.iconst 4, 18, [])) (none)))) (cond (Nat.beq pc 10) (some (.bipush 10, 12, [])) (cond (Nat.beq pc 12) (some (.invokevirtual 21, 15, [])) (cond (Nat.beq pc 15) (some (.aload_n 0, 16, [])) (none))))) (cond (Nat.ble 5 pc) (cond (Nat.beq pc 5) (some (.invokestatic 15, 8, [])) (cond (Nat.beq pc 8) (some (.aload_n 0, 9, [])) (cond (Nat.beq pc 9) (some (.iconst 2, 10, [])) (none)))) (cond (Nat.beq pc 0) (some (.aload_n 0, 1, [])) (cond (Nat.beq pc 1) (some (.getfield 11, 4, [])) (cond (Nat.beq pc 4) (some (.iconst 0, 5, [])) (none))))))
theorem qkX2_makeEmpty_ok : ∀ pc i nx ts, qkX2_makeEmpty pc = some (i, nx, ts) → am_cok cX2_makeEmpty pc (i, nx, ts) = true := fun pc i nx ts h => am_tok_ok (n := 22) (by decide +kernel) (fun pc h => by show cond (Nat.ble 22 pc) _ _ = _; rw [Nat.ble_eq_true_of_le h]; rfl) h
def qaX2_makeEmpty : Nat → Option CE := fun k => cond (Nat.beq k 15) (some qeJ7_fill_53178) (cond (Nat.beq k 21) (some qeX2_put) (none))
theorem qyX2_makeEmpty (l : Launch) : ∀ k e1, qaX2_makeEmpty k = some e1 → am_cal l layX RX2 4 k e1 ∧ ceT e1 = 0 := q_cons ⟨am_calS (qtJ7_fill_53178 l) qbJ7_fill_53178 (by decide) rfl (by decide) (am_tb_at 247 (by decide +kernel) rfl), rfl⟩ (q_cons ⟨am_calV (ci := 2) (qtX2_put l) qbX2_put (by decide) rfl (am_tb_at 250 (by decide +kernel) rfl), rfl⟩ (q_nil))
def qxX2_makeEmpty : CX := (qkX2_makeEmpty, layX, qfX2, qaX2_makeEmpty, qcX2, qlX2, qmX2, none, false, none, 0, none, fun _ => none)
theorem qzX2_makeEmpty (l : Launch) : am_sta l qxX2_makeEmpty RX2 4 cX2_makeEmpty := ⟨qkX2_makeEmpty_ok, layX_ok, qfX2_ok, qcX2_ok, qlX2_ok, am_mthP qmX2_ok (by decide), fun k e1 h => (qyX2_makeEmpty l k e1 h).1⟩
def qsX2_makeEmpty : SP := fun as F A K => match as with
  | [.inr (.inr o)] => cond (Nat.beq o 1) (K (some none) F (fput (fput (fillA A 2 140 0) 2 2 10) 2 3 4)) (cond (Nat.beq o 3) (K (some none) F (fput (fput (fillA A 4 140 0) 4 2 10) 4 3 4)) (False))
  | _ => False
def qeX2_makeEmpty : CE := (yX2_makeEmpty, cX2_makeEmpty, 1, none, 0, some 2, 0, none, 0, 4, qsX2_makeEmpty)
theorem qbX2_makeEmpty : am_mb qeX2_makeEmpty := ⟨am_tb_at 246 (by decide +kernel) rfl, am_tb_at 36 (by decide +kernel) rfl, ⟨by decide, by decide, by decide +kernel⟩, by decide, am_tb_at 244 (by decide +kernel) rfl, am_tb_at 245 (by decide +kernel) rfl, _, _, rfl⟩
theorem qvX2_makeEmpty_1  (F : FF) (A : AA) (K : KK) (h : K (some none) F (fput (fput (fillA A 2 140 0) 2 2 10) 2 3 4)) : am_line qxX2_makeEmpty 14 [vR 1] 1 F A K := by
  show am_stp qxX2_makeEmpty (am_run qxX2_makeEmpty (fun _ => none) (fun _ _ _ _ _ _ => False) K 14) K 0 [some (vR 1)] [] F A 0
  show K (some none) F (fput (fput (fillA A 2 140 0) 2 2 10) 2 3 4)
  exact h
theorem qvX2_makeEmpty_3  (F : FF) (A : AA) (K : KK) (h : K (some none) F (fput (fput (fillA A 4 140 0) 4 2 10) 4 3 4)) : am_line qxX2_makeEmpty 14 [vR 3] 1 F A K := by
  show am_stp qxX2_makeEmpty (am_run qxX2_makeEmpty (fun _ => none) (fun _ _ _ _ _ _ => False) K 14) K 0 [some (vR 3)] [] F A 0
  show K (some none) F (fput (fput (fillA A 4 140 0) 4 2 10) 4 3 4)
  exact h
theorem qtX2_makeEmpty (l : Launch) : am_CT l layX qeX2_makeEmpty := am_met0 rfl (by decide +kernel) rfl rfl rfl rfl rfl (fun _ => rfl) rfl (qzX2_makeEmpty l) (fun k e1 h => (qyX2_makeEmpty l k e1 h).2) (fun as F A K h => by
  replace h : qsX2_makeEmpty as F A K := h
  unfold qsX2_makeEmpty at h
  split at h
  · rename_i o
    refine ⟨by first | exact Nat.le_of_ble_eq_true rfl | simp [am_fl, am_cat], ?_⟩
    replace h := am_cond2 h
    rcases h with ⟨hb, h⟩ | h
    · skip
      have hb0 := hb
      have hb0 := am_bq hb0
      subst hb0
      exact am_way_line (qvX2_makeEmpty_1  F A K h)
    replace h := am_cond2 h
    rcases h with ⟨hb, h⟩ | h
    · skip
      have hb0 := hb
      have hb0 := am_bq hb0
      subst hb0
      exact am_way_line (qvX2_makeEmpty_3  F A K h)
    exact h.elim
  · exact h.elim)
def qkX2_copyFrom : Nat → Option CI := fun pc => cond (Nat.ble 17 pc) none (cond (Nat.ble 6 pc) (cond (Nat.ble 10 pc) (cond (Nat.beq pc 10) (some (.sipush 140, 13, [])) (cond (Nat.beq pc 13) (some (.invokestatic 25, 16, [])) (cond (Nat.beq pc 16) (some (.return_, 17, [])) (none)))) (cond (Nat.beq pc 6) (some (.getfield 11, 9, [])) (cond (Nat.beq pc 9) (some (.iconst 0, 10, [])) (none)))) (cond (Nat.ble 4 pc) (cond (Nat.beq pc 4) (some (.iconst 0, 5, [])) (cond (Nat.beq pc 5) (some (.aload_n 0, 6, [])) (none))) (cond (Nat.beq pc 0) (some (.aload_n 1, 1, [])) (cond (Nat.beq pc 1) (some (.getfield 11, 4, [])) (none)))))
theorem qkX2_copyFrom_ok : ∀ pc i nx ts, qkX2_copyFrom pc = some (i, nx, ts) → am_cok cX2_copyFrom pc (i, nx, ts) = true := fun pc i nx ts h => am_tok_ok (n := 17) (by decide +kernel) (fun pc h => by show cond (Nat.ble 17 pc) _ _ = _; rw [Nat.ble_eq_true_of_le h]; rfl) h
def qaX2_copyFrom : Nat → Option CE := fun k => none
theorem qyX2_copyFrom (l : Launch) : ∀ k e1, qaX2_copyFrom k = some e1 → am_cal l layX RX2 3 k e1 ∧ ceT e1 = 0 := q_nil
def qxX2_copyFrom : CX := (qkX2_copyFrom, layX, qfX2, qaX2_copyFrom, qcX2, qlX2, qmX2, none, false, none, 0, none, fun _ => none)
theorem qzX2_copyFrom (l : Launch) : am_sta l qxX2_copyFrom RX2 3 cX2_copyFrom := ⟨qkX2_copyFrom_ok, layX_ok, qfX2_ok, qcX2_ok, qlX2_ok, am_mthP qmX2_ok (by decide), fun k e1 h => (qyX2_copyFrom l k e1 h).1⟩
def qsX2_copyFrom : SP := fun as F A K => match as with
  | [.inr (.inr o), .inr (.inr p)] => cond (Nat.beq o 1 && Nat.beq p 3) (K (some none) F (cpA A 4 (w32 0) 0 (w32 0) (w32 140) 2)) (False)
  | _ => False
def qeX2_copyFrom : CE := (yX2_copyFrom, cX2_copyFrom, 2, none, 1, some 2, 0, none, 0, 3, qsX2_copyFrom)
theorem qbX2_copyFrom : am_mb qeX2_copyFrom := ⟨am_tb_at 756 (by decide +kernel) rfl, am_tb_at 36 (by decide +kernel) rfl, ⟨by decide, by decide, by decide +kernel⟩, by decide, am_tb_at 754 (by decide +kernel) rfl, am_tb_at 755 (by decide +kernel) rfl, _, _, rfl⟩
theorem qvX2_copyFrom_1_3  (F : FF) (A : AA) (K : KK) (h : K (some none) F (cpA A 4 (w32 0) 0 (w32 0) (w32 140) 2)) : am_line qxX2_copyFrom 10 [vR 1, vR 3] 2 F A K := by
  show am_stp qxX2_copyFrom (am_run qxX2_copyFrom (fun _ => none) (fun _ _ _ _ _ _ => False) K 10) K 0 [some (vR 1), some (vR 3)] [] F A 0
  show (0 ≤ w32 140 ∧ 0 ≤ w32 0 ∧ w32 0 + w32 140 ≤ 140 ∧ 0 ≤ w32 0 ∧ w32 0 + w32 140 ≤ 140) ∧ (K (some none) F (cpA A 4 (w32 0) 0 (w32 0) (w32 140) 2))
  exact ⟨by decide, h⟩
theorem qtX2_copyFrom (l : Launch) : am_CT l layX qeX2_copyFrom := am_met0 rfl (by decide +kernel) rfl rfl rfl rfl rfl (fun _ => rfl) rfl (qzX2_copyFrom l) (fun k e1 h => (qyX2_copyFrom l k e1 h).2) (fun as F A K h => by
  replace h : qsX2_copyFrom as F A K := h
  unfold qsX2_copyFrom at h
  split at h
  · rename_i o p
    refine ⟨by first | exact Nat.le_of_ble_eq_true rfl | simp [am_fl, am_cat], ?_⟩
    replace h := am_cond2 h
    rcases h with ⟨hb, h⟩ | h
    · simp only [Bool.and_eq_true] at hb
      obtain ⟨hb0, hb1⟩ := hb
      have hb0 := am_bq hb0
      subst hb0
      have hb1 := am_bq hb1
      subst hb1
      exact am_way_line (qvX2_copyFrom_1_3  F A K h)
    exact h.elim
  · exact h.elim)
def qkX2_saveTo : Nat → Option CI := fun pc => cond (Nat.ble 28 pc) none (cond (Nat.ble 14 pc) (cond (Nat.ble 20 pc) (cond (Nat.ble 24 pc) (cond (Nat.beq pc 24) (some (.invokestatic 25, 27, [])) (cond (Nat.beq pc 27) (some (.return_, 28, [])) (none))) (cond (Nat.beq pc 20) (some (.iload_n 2, 21, [])) (cond (Nat.beq pc 21) (some (.sipush 140, 24, [])) (none)))) (cond (Nat.ble 18 pc) (cond (Nat.beq pc 18) (some (.iconst 0, 19, [])) (cond (Nat.beq pc 19) (some (.aload_n 1, 20, [])) (none))) (cond (Nat.beq pc 14) (some (.aload_n 0, 15, [])) (cond (Nat.beq pc 15) (some (.getfield 11, 18, [])) (none))))) (cond (Nat.ble 6 pc) (cond (Nat.ble 10 pc) (cond (Nat.beq pc 10) (some (.isub, 11, [])) (cond (Nat.beq pc 11) (some (.if_icmp .gt 16, 14, [27])) (none))) (cond (Nat.beq pc 6) (some (.arraylength, 7, [])) (cond (Nat.beq pc 7) (some (.sipush 140, 10, [])) (none)))) (cond (Nat.ble 4 pc) (cond (Nat.beq pc 4) (some (.iload_n 2, 5, [])) (cond (Nat.beq pc 5) (some (.aload_n 1, 6, [])) (none))) (cond (Nat.beq pc 0) (some (.iload_n 2, 1, [])) (cond (Nat.beq pc 1) (some (.ifCond .lt 26, 4, [27])) (none))))))
theorem qkX2_saveTo_ok : ∀ pc i nx ts, qkX2_saveTo pc = some (i, nx, ts) → am_cok cX2_saveTo pc (i, nx, ts) = true := fun pc i nx ts h => am_tok_ok (n := 28) (by decide +kernel) (fun pc h => by show cond (Nat.ble 28 pc) _ _ = _; rw [Nat.ble_eq_true_of_le h]; rfl) h
def qaX2_saveTo : Nat → Option CE := fun k => none
theorem qyX2_saveTo (l : Launch) : ∀ k e1, qaX2_saveTo k = some e1 → am_cal l layX RX2 3 k e1 ∧ ceT e1 = 0 := q_nil
def qxX2_saveTo : CX := (qkX2_saveTo, layX, qfX2, qaX2_saveTo, qcX2, qlX2, qmX2, none, false, none, 0, none, fun _ => none)
theorem qzX2_saveTo (l : Launch) : am_sta l qxX2_saveTo RX2 3 cX2_saveTo := ⟨qkX2_saveTo_ok, layX_ok, qfX2_ok, qcX2_ok, qlX2_ok, am_mthP qmX2_ok (by decide), fun k e1 h => (qyX2_saveTo l k e1 h).1⟩
def qsX2_saveTo : SP := fun as F A K => match as with
  | [.inr (.inr o), .inr (.inr p), .inl start] => cond (Nat.beq o 1 && Nat.beq p 6) ((0 ≤ w32 start ∧ w32 start ≤ 1260) ∧ (K (some none) F (cpA A 2 (w32 0) 0 (w32 start) (w32 140) 6))) (False)
  | _ => False
def qeX2_saveTo : CE := (yX2_saveTo, cX2_saveTo, 3, none, 2, some 2, 0, none, 0, 3, qsX2_saveTo)
theorem qbX2_saveTo : am_mb qeX2_saveTo := ⟨am_tb_at 890 (by decide +kernel) rfl, am_tb_at 36 (by decide +kernel) rfl, ⟨by decide, by decide, by decide +kernel⟩, by decide, am_tb_at 888 (by decide +kernel) rfl, am_tb_at 889 (by decide +kernel) rfl, _, _, rfl⟩
theorem qvX2_saveTo_1_6 (start : Int) (F : FF) (A : AA) (K : KK) (h : (0 ≤ w32 start ∧ w32 start ≤ 1260) ∧ (K (some none) F (cpA A 2 (w32 0) 0 (w32 start) (w32 140) 6))) : am_line qxX2_saveTo 17 [vR 1, vR 6, vI start] 3 F A K := by
  show am_stp qxX2_saveTo (am_run qxX2_saveTo (fun _ => none) (fun _ _ _ _ _ _ => False) K 17) K 0 [some (vR 1), some (vR 6), some (vI start)] [] F A 0
  show (w32 start < w32 0 → (K (some none) F A)) ∧ (¬ w32 start < w32 0 → ((w32 (1400 - 140) < w32 start → (K (some none) F A)) ∧ (¬ w32 (1400 - 140) < w32 start → ((0 ≤ w32 140 ∧ 0 ≤ w32 0 ∧ w32 0 + w32 140 ≤ 140 ∧ 0 ≤ w32 start ∧ w32 start + w32 140 ≤ 1400) ∧ (K (some none) F (cpA A 2 (w32 0) 0 (w32 start) (w32 140) 6))))))
  have z0 : w32 0 = 0 := rfl
  have z1 : w32 1 = 1 := rfl
  have z2 : w32 2 = 2 := rfl
  have z140 : w32 140 = 140 := rfl
  have z1260 : w32 (1400 - 140) = 1260 := rfl
  obtain ⟨⟨h1, h2⟩, h⟩ := h
  refine ⟨fun q => absurd q (by omega), fun q => ⟨fun q2 => absurd q2 (by omega), fun q2 => ⟨by omega, h⟩⟩⟩
theorem qtX2_saveTo (l : Launch) : am_CT l layX qeX2_saveTo := am_met0 rfl (by decide +kernel) rfl rfl rfl rfl rfl (fun _ => rfl) rfl (qzX2_saveTo l) (fun k e1 h => (qyX2_saveTo l k e1 h).2) (fun as F A K h => by
  replace h : qsX2_saveTo as F A K := h
  unfold qsX2_saveTo at h
  split at h
  · rename_i o p start
    refine ⟨by first | exact Nat.le_of_ble_eq_true rfl | simp [am_fl, am_cat], ?_⟩
    replace h := am_cond2 h
    rcases h with ⟨hb, h⟩ | h
    · simp only [Bool.and_eq_true] at hb
      obtain ⟨hb0, hb1⟩ := hb
      have hb0 := am_bq hb0
      subst hb0
      have hb1 := am_bq hb1
      subst hb1
      exact am_way_line (qvX2_saveTo_1_6 start F A K h)
    exact h.elim
  · exact h.elim)
def qkX2_curves : Nat → Option CI := fun pc => cond (Nat.ble 6 pc) none (cond (Nat.ble 2 pc) (cond (Nat.beq pc 2) (some (.invokevirtual 31, 5, [])) (cond (Nat.beq pc 5) (some (.ireturn, 6, [])) (none))) (cond (Nat.beq pc 0) (some (.aload_n 0, 1, [])) (cond (Nat.beq pc 1) (some (.iconst 0, 2, [])) (none))))
theorem qkX2_curves_ok : ∀ pc i nx ts, qkX2_curves pc = some (i, nx, ts) → am_cok cX2_curves pc (i, nx, ts) = true := fun pc i nx ts h => am_tok_ok (n := 6) (by decide +kernel) (fun pc h => by show cond (Nat.ble 6 pc) _ _ = _; rw [Nat.ble_eq_true_of_le h]; rfl) h
def qaX2_curves : Nat → Option CE := fun k => cond (Nat.beq k 31) (some qeX2_at) (none)
theorem qyX2_curves (l : Launch) : ∀ k e1, qaX2_curves k = some e1 → am_cal l layX RX2 4 k e1 ∧ ceT e1 = 0 := q_cons ⟨am_calV (ci := 2) (qtX2_at l) qbX2_at (by decide) rfl (am_tb_at 659 (by decide +kernel) rfl), rfl⟩ (q_nil)
def qxX2_curves : CX := (qkX2_curves, layX, qfX2, qaX2_curves, qcX2, qlX2, qmX2, (some .int), false, none, 0, none, fun _ => none)
theorem qzX2_curves (l : Launch) : am_sta l qxX2_curves RX2 4 cX2_curves := ⟨qkX2_curves_ok, layX_ok, qfX2_ok, qcX2_ok, qlX2_ok, am_mthP qmX2_ok (by decide), fun k e1 h => (qyX2_curves l k e1 h).1⟩
def qsX2_curves : SP := fun as F A K => match as with
  | [.inr (.inr o)] => cond (Nat.beq o 1) (K (some (some (vI (fat (A 2) 0)))) F A) (cond (Nat.beq o 3) (K (some (some (vI (fat (A 4) 0)))) F A) (False))
  | _ => False
def qeX2_curves : CE := (yX2_curves, cX2_curves, 1, (some .int), 0, some 2, 0, none, 0, 4, qsX2_curves)
theorem qbX2_curves : am_mb qeX2_curves := ⟨am_tb_at 658 (by decide +kernel) rfl, am_tb_at 36 (by decide +kernel) rfl, ⟨by decide, by decide, by decide +kernel⟩, by decide, am_tb_at 656 (by decide +kernel) rfl, am_tb_at 657 (by decide +kernel) rfl, _, _, rfl⟩
theorem qvX2_curves_1  (F : FF) (A : AA) (K : KK) (h : K (some (some (vI (fat (A 2) 0)))) F A) : am_line qxX2_curves 5 [vR 1] 1 F A K := by
  show am_stp qxX2_curves (am_run qxX2_curves (fun _ => none) (fun _ _ _ _ _ _ => False) K 5) K 0 [some (vR 1)] [] F A 0
  show K (some (some (vI (fat (A 2) 0)))) F A
  exact h
theorem qvX2_curves_3  (F : FF) (A : AA) (K : KK) (h : K (some (some (vI (fat (A 4) 0)))) F A) : am_line qxX2_curves 5 [vR 3] 1 F A K := by
  show am_stp qxX2_curves (am_run qxX2_curves (fun _ => none) (fun _ _ _ _ _ _ => False) K 5) K 0 [some (vR 3)] [] F A 0
  show K (some (some (vI (fat (A 4) 0)))) F A
  exact h
theorem qtX2_curves (l : Launch) : am_CT l layX qeX2_curves := am_met0 rfl (by decide +kernel) rfl rfl rfl rfl rfl (fun _ => rfl) rfl (qzX2_curves l) (fun k e1 h => (qyX2_curves l k e1 h).2) (fun as F A K h => by
  replace h : qsX2_curves as F A K := h
  unfold qsX2_curves at h
  split at h
  · rename_i o
    refine ⟨by first | exact Nat.le_of_ble_eq_true rfl | simp [am_fl, am_cat], ?_⟩
    replace h := am_cond2 h
    rcases h with ⟨hb, h⟩ | h
    · skip
      have hb0 := hb
      have hb0 := am_bq hb0
      subst hb0
      exact am_way_line (qvX2_curves_1  F A K h)
    replace h := am_cond2 h
    rcases h with ⟨hb, h⟩ | h
    · skip
      have hb0 := hb
      have hb0 := am_bq hb0
      subst hb0
      exact am_way_line (qvX2_curves_3  F A K h)
    exact h.elim
  · exact h.elim)
def qkX2_lines : Nat → Option CI := fun pc => cond (Nat.ble 6 pc) none (cond (Nat.ble 2 pc) (cond (Nat.beq pc 2) (some (.invokevirtual 31, 5, [])) (cond (Nat.beq pc 5) (some (.ireturn, 6, [])) (none))) (cond (Nat.beq pc 0) (some (.aload_n 0, 1, [])) (cond (Nat.beq pc 1) (some (.iconst 1, 2, [])) (none))))
theorem qkX2_lines_ok : ∀ pc i nx ts, qkX2_lines pc = some (i, nx, ts) → am_cok cX2_lines pc (i, nx, ts) = true := fun pc i nx ts h => am_tok_ok (n := 6) (by decide +kernel) (fun pc h => by show cond (Nat.ble 6 pc) _ _ = _; rw [Nat.ble_eq_true_of_le h]; rfl) h
def qaX2_lines : Nat → Option CE := fun k => cond (Nat.beq k 31) (some qeX2_at) (none)
theorem qyX2_lines (l : Launch) : ∀ k e1, qaX2_lines k = some e1 → am_cal l layX RX2 4 k e1 ∧ ceT e1 = 0 := q_cons ⟨am_calV (ci := 2) (qtX2_at l) qbX2_at (by decide) rfl (am_tb_at 659 (by decide +kernel) rfl), rfl⟩ (q_nil)
def qxX2_lines : CX := (qkX2_lines, layX, qfX2, qaX2_lines, qcX2, qlX2, qmX2, (some .int), false, none, 0, none, fun _ => none)
theorem qzX2_lines (l : Launch) : am_sta l qxX2_lines RX2 4 cX2_lines := ⟨qkX2_lines_ok, layX_ok, qfX2_ok, qcX2_ok, qlX2_ok, am_mthP qmX2_ok (by decide), fun k e1 h => (qyX2_lines l k e1 h).1⟩
def qsX2_lines : SP := fun as F A K => match as with
  | [.inr (.inr o)] => cond (Nat.beq o 1) (K (some (some (vI (fat (A 2) 1)))) F A) (cond (Nat.beq o 3) (K (some (some (vI (fat (A 4) 1)))) F A) (False))
  | _ => False
def qeX2_lines : CE := (yX2_lines, cX2_lines, 1, (some .int), 0, some 2, 0, none, 0, 4, qsX2_lines)
theorem qbX2_lines : am_mb qeX2_lines := ⟨am_tb_at 690 (by decide +kernel) rfl, am_tb_at 36 (by decide +kernel) rfl, ⟨by decide, by decide, by decide +kernel⟩, by decide, am_tb_at 688 (by decide +kernel) rfl, am_tb_at 689 (by decide +kernel) rfl, _, _, rfl⟩
theorem qvX2_lines_1  (F : FF) (A : AA) (K : KK) (h : K (some (some (vI (fat (A 2) 1)))) F A) : am_line qxX2_lines 5 [vR 1] 1 F A K := by
  show am_stp qxX2_lines (am_run qxX2_lines (fun _ => none) (fun _ _ _ _ _ _ => False) K 5) K 0 [some (vR 1)] [] F A 0
  show K (some (some (vI (fat (A 2) 1)))) F A
  exact h
theorem qvX2_lines_3  (F : FF) (A : AA) (K : KK) (h : K (some (some (vI (fat (A 4) 1)))) F A) : am_line qxX2_lines 5 [vR 3] 1 F A K := by
  show am_stp qxX2_lines (am_run qxX2_lines (fun _ => none) (fun _ _ _ _ _ _ => False) K 5) K 0 [some (vR 3)] [] F A 0
  show K (some (some (vI (fat (A 4) 1)))) F A
  exact h
theorem qtX2_lines (l : Launch) : am_CT l layX qeX2_lines := am_met0 rfl (by decide +kernel) rfl rfl rfl rfl rfl (fun _ => rfl) rfl (qzX2_lines l) (fun k e1 h => (qyX2_lines l k e1 h).2) (fun as F A K h => by
  replace h : qsX2_lines as F A K := h
  unfold qsX2_lines at h
  split at h
  · rename_i o
    refine ⟨by first | exact Nat.le_of_ble_eq_true rfl | simp [am_fl, am_cat], ?_⟩
    replace h := am_cond2 h
    rcases h with ⟨hb, h⟩ | h
    · skip
      have hb0 := hb
      have hb0 := am_bq hb0
      subst hb0
      exact am_way_line (qvX2_lines_1  F A K h)
    replace h := am_cond2 h
    rcases h with ⟨hb, h⟩ | h
    · skip
      have hb0 := hb
      have hb0 := am_bq hb0
      subst hb0
      exact am_way_line (qvX2_lines_3  F A K h)
    exact h.elim
  · exact h.elim)
def qkX2_size : Nat → Option CI := fun pc => cond (Nat.ble 9 pc) none (cond (Nat.ble 4 pc) (cond (Nat.beq pc 4) (some (.iadd, 5, [])) (cond (Nat.beq pc 5) (some (.invokevirtual 31, 8, [])) (cond (Nat.beq pc 8) (some (.ireturn, 9, [])) (none)))) (cond (Nat.beq pc 0) (some (.aload_n 0, 1, [])) (cond (Nat.beq pc 1) (some (.bipush 18, 3, [])) (cond (Nat.beq pc 3) (some (.iload_n 1, 4, [])) (none)))))
theorem qkX2_size_ok : ∀ pc i nx ts, qkX2_size pc = some (i, nx, ts) → am_cok cX2_size pc (i, nx, ts) = true := fun pc i nx ts h => am_tok_ok (n := 9) (by decide +kernel) (fun pc h => by show cond (Nat.ble 9 pc) _ _ = _; rw [Nat.ble_eq_true_of_le h]; rfl) h
def qaX2_size : Nat → Option CE := fun k => cond (Nat.beq k 31) (some qeX2_at) (none)
theorem qyX2_size (l : Launch) : ∀ k e1, qaX2_size k = some e1 → am_cal l layX RX2 4 k e1 ∧ ceT e1 = 0 := q_cons ⟨am_calV (ci := 2) (qtX2_at l) qbX2_at (by decide) rfl (am_tb_at 659 (by decide +kernel) rfl), rfl⟩ (q_nil)
def qxX2_size : CX := (qkX2_size, layX, qfX2, qaX2_size, qcX2, qlX2, qmX2, (some .int), false, none, 0, none, fun _ => none)
theorem qzX2_size (l : Launch) : am_sta l qxX2_size RX2 4 cX2_size := ⟨qkX2_size_ok, layX_ok, qfX2_ok, qcX2_ok, qlX2_ok, am_mthP qmX2_ok (by decide), fun k e1 h => (qyX2_size l k e1 h).1⟩
def qsX2_size : SP := fun as F A K => match as with
  | [.inr (.inr o), .inl c] => cond (Nat.beq o 1) (K (some (some (vI (fat (A 2) (18 + c))))) F A) (cond (Nat.beq o 3) (K (some (some (vI (fat (A 4) (18 + c))))) F A) (False))
  | _ => False
def qeX2_size : CE := (yX2_size, cX2_size, 2, (some .int), 1, some 2, 0, none, 0, 4, qsX2_size)
theorem qbX2_size : am_mb qeX2_size := ⟨am_tb_at 857 (by decide +kernel) rfl, am_tb_at 36 (by decide +kernel) rfl, ⟨by decide, by decide, by decide +kernel⟩, by decide, am_tb_at 855 (by decide +kernel) rfl, am_tb_at 856 (by decide +kernel) rfl, _, _, rfl⟩
theorem qvX2_size_1 (c : Int) (F : FF) (A : AA) (K : KK) (h : K (some (some (vI (fat (A 2) (18 + c))))) F A) : am_line qxX2_size 7 [vR 1, vI c] 2 F A K := by
  show am_stp qxX2_size (am_run qxX2_size (fun _ => none) (fun _ _ _ _ _ _ => False) K 7) K 0 [some (vR 1), some (vI c)] [] F A 0
  show K (some (some (vI (fat (A 2) (18 + c))))) F A
  exact h
theorem qvX2_size_3 (c : Int) (F : FF) (A : AA) (K : KK) (h : K (some (some (vI (fat (A 4) (18 + c))))) F A) : am_line qxX2_size 7 [vR 3, vI c] 2 F A K := by
  show am_stp qxX2_size (am_run qxX2_size (fun _ => none) (fun _ _ _ _ _ _ => False) K 7) K 0 [some (vR 3), some (vI c)] [] F A 0
  show K (some (some (vI (fat (A 4) (18 + c))))) F A
  exact h
theorem qtX2_size (l : Launch) : am_CT l layX qeX2_size := am_met0 rfl (by decide +kernel) rfl rfl rfl rfl rfl (fun _ => rfl) rfl (qzX2_size l) (fun k e1 h => (qyX2_size l k e1 h).2) (fun as F A K h => by
  replace h : qsX2_size as F A K := h
  unfold qsX2_size at h
  split at h
  · rename_i o c
    refine ⟨by first | exact Nat.le_of_ble_eq_true rfl | simp [am_fl, am_cat], ?_⟩
    replace h := am_cond2 h
    rcases h with ⟨hb, h⟩ | h
    · skip
      have hb0 := hb
      have hb0 := am_bq hb0
      subst hb0
      exact am_way_line (qvX2_size_1 c F A K h)
    replace h := am_cond2 h
    rcases h with ⟨hb, h⟩ | h
    · skip
      have hb0 := hb
      have hb0 := am_bq hb0
      subst hb0
      exact am_way_line (qvX2_size_3 c F A K h)
    exact h.elim
  · exact h.elim)
def qkX2_hasCurve : Nat → Option CI := fun pc => cond (Nat.ble 18 pc) none (cond (Nat.ble 9 pc) (cond (Nat.ble 13 pc) (cond (Nat.beq pc 13) (some (.goto 4, 16, [17])) (cond (Nat.beq pc 16) (some (.iconst 0, 17, [])) (cond (Nat.beq pc 17) (some (.ireturn, 18, [])) (none)))) (cond (Nat.beq pc 9) (some (.if_icmp .ge 7, 12, [16])) (cond (Nat.beq pc 12) (some (.iconst 1, 13, [])) (none)))) (cond (Nat.ble 4 pc) (cond (Nat.beq pc 4) (some (.iload_n 1, 5, [])) (cond (Nat.beq pc 5) (some (.aload_n 0, 6, [])) (cond (Nat.beq pc 6) (some (.invokevirtual 35, 9, [])) (none)))) (cond (Nat.beq pc 0) (some (.iload_n 1, 1, [])) (cond (Nat.beq pc 1) (some (.ifCond .lt 15, 4, [16])) (none)))))
theorem qkX2_hasCurve_ok : ∀ pc i nx ts, qkX2_hasCurve pc = some (i, nx, ts) → am_cok cX2_hasCurve pc (i, nx, ts) = true := fun pc i nx ts h => am_tok_ok (n := 18) (by decide +kernel) (fun pc h => by show cond (Nat.ble 18 pc) _ _ = _; rw [Nat.ble_eq_true_of_le h]; rfl) h
def qaX2_hasCurve : Nat → Option CE := fun k => cond (Nat.beq k 35) (some qeX2_curves) (none)
theorem qyX2_hasCurve (l : Launch) : ∀ k e1, qaX2_hasCurve k = some e1 → am_cal l layX RX2 5 k e1 ∧ ceT e1 = 0 := q_cons ⟨am_calV (ci := 2) (qtX2_curves l) qbX2_curves (by decide) rfl (am_tb_at 678 (by decide +kernel) rfl), rfl⟩ (q_nil)
def qxX2_hasCurve : CX := (qkX2_hasCurve, layX, qfX2, qaX2_hasCurve, qcX2, qlX2, qmX2, (some .boolean), false, none, 0, none, fun _ => none)
theorem qzX2_hasCurve (l : Launch) : am_sta l qxX2_hasCurve RX2 5 cX2_hasCurve := ⟨qkX2_hasCurve_ok, layX_ok, qfX2_ok, qcX2_ok, qlX2_ok, am_mthP qmX2_ok (by decide), fun k e1 h => (qyX2_hasCurve l k e1 h).1⟩
def qsX2_hasCurve : SP := fun as F A K => match as with
  | [.inr (.inr o), .inl c] => cond (Nat.beq o 1) (K (some (some (vI (bi (0 ≤ w32 c ∧ w32 c < w32 (fat (A 2) 0)))))) F A) (cond (Nat.beq o 3) (K (some (some (vI (bi (0 ≤ w32 c ∧ w32 c < w32 (fat (A 4) 0)))))) F A) (False))
  | _ => False
def qeX2_hasCurve : CE := (yX2_hasCurve, cX2_hasCurve, 2, (some .boolean), 1, some 2, 0, none, 0, 5, qsX2_hasCurve)
theorem qbX2_hasCurve : am_mb qeX2_hasCurve := ⟨am_tb_at 784 (by decide +kernel) rfl, am_tb_at 36 (by decide +kernel) rfl, ⟨by decide, by decide, by decide +kernel⟩, by decide, am_tb_at 782 (by decide +kernel) rfl, am_tb_at 783 (by decide +kernel) rfl, _, _, rfl⟩
theorem qvX2_hasCurve_1 (c : Int) (F : FF) (A : AA) (K : KK) (h : K (some (some (vI (bi (0 ≤ w32 c ∧ w32 c < w32 (fat (A 2) 0)))))) F A) : am_line qxX2_hasCurve 10 [vR 1, vI c] 2 F A K := by
  show am_stp qxX2_hasCurve (am_run qxX2_hasCurve (fun _ => none) (fun _ _ _ _ _ _ => False) K 10) K 0 [some (vR 1), some (vI c)] [] F A 0
  show (w32 c < w32 0 → ((0 = 0 ∨ 0 = 1) ∧ (K (some (some (vI 0))) F A))) ∧ (¬ w32 c < w32 0 → ((w32 c < w32 (fat (A 2) 0) → ((1 = 0 ∨ 1 = 1) ∧ (K (some (some (vI 1))) F A))) ∧ (¬ w32 c < w32 (fat (A 2) 0) → ((0 = 0 ∨ 0 = 1) ∧ (K (some (some (vI 0))) F A)))))
  have z0 : w32 0 = 0 := rfl
  have z1 : w32 1 = 1 := rfl
  have z2 : w32 2 = 2 := rfl
  have z140 : w32 140 = 140 := rfl
  repeat' (first | apply And.intro | intro _)
  all_goals first
    | exact Or.inl rfl
    | exact Or.inr rfl
    | exact K_eq h (bi_t (by omega))
    | exact K_eq h (bi_f (by omega))
theorem qvX2_hasCurve_3 (c : Int) (F : FF) (A : AA) (K : KK) (h : K (some (some (vI (bi (0 ≤ w32 c ∧ w32 c < w32 (fat (A 4) 0)))))) F A) : am_line qxX2_hasCurve 10 [vR 3, vI c] 2 F A K := by
  show am_stp qxX2_hasCurve (am_run qxX2_hasCurve (fun _ => none) (fun _ _ _ _ _ _ => False) K 10) K 0 [some (vR 3), some (vI c)] [] F A 0
  show (w32 c < w32 0 → ((0 = 0 ∨ 0 = 1) ∧ (K (some (some (vI 0))) F A))) ∧ (¬ w32 c < w32 0 → ((w32 c < w32 (fat (A 4) 0) → ((1 = 0 ∨ 1 = 1) ∧ (K (some (some (vI 1))) F A))) ∧ (¬ w32 c < w32 (fat (A 4) 0) → ((0 = 0 ∨ 0 = 1) ∧ (K (some (some (vI 0))) F A)))))
  have z0 : w32 0 = 0 := rfl
  have z1 : w32 1 = 1 := rfl
  have z2 : w32 2 = 2 := rfl
  have z140 : w32 140 = 140 := rfl
  repeat' (first | apply And.intro | intro _)
  all_goals first
    | exact Or.inl rfl
    | exact Or.inr rfl
    | exact K_eq h (bi_t (by omega))
    | exact K_eq h (bi_f (by omega))
theorem qtX2_hasCurve (l : Launch) : am_CT l layX qeX2_hasCurve := am_met0 rfl (by decide +kernel) rfl rfl rfl rfl rfl (fun _ => rfl) rfl (qzX2_hasCurve l) (fun k e1 h => (qyX2_hasCurve l k e1 h).2) (fun as F A K h => by
  replace h : qsX2_hasCurve as F A K := h
  unfold qsX2_hasCurve at h
  split at h
  · rename_i o c
    refine ⟨by first | exact Nat.le_of_ble_eq_true rfl | simp [am_fl, am_cat], ?_⟩
    replace h := am_cond2 h
    rcases h with ⟨hb, h⟩ | h
    · skip
      have hb0 := hb
      have hb0 := am_bq hb0
      subst hb0
      exact am_way_line (qvX2_hasCurve_1 c F A K h)
    replace h := am_cond2 h
    rcases h with ⟨hb, h⟩ | h
    · skip
      have hb0 := hb
      have hb0 := am_bq hb0
      subst hb0
      exact am_way_line (qvX2_hasCurve_3 c F A K h)
    exact h.elim
  · exact h.elim)
def qkX2_hasLine : Nat → Option CI := fun pc => cond (Nat.ble 18 pc) none (cond (Nat.ble 9 pc) (cond (Nat.ble 13 pc) (cond (Nat.beq pc 13) (some (.goto 4, 16, [17])) (cond (Nat.beq pc 16) (some (.iconst 0, 17, [])) (cond (Nat.beq pc 17) (some (.ireturn, 18, [])) (none)))) (cond (Nat.beq pc 9) (some (.if_icmp .ge 7, 12, [16])) (cond (Nat.beq pc 12) (some (.iconst 1, 13, [])) (none)))) (cond (Nat.ble 4 pc) (cond (Nat.beq pc 4) (some (.iload_n 1, 5, [])) (cond (Nat.beq pc 5) (some (.aload_n 0, 6, [])) (cond (Nat.beq pc 6) (some (.invokevirtual 39, 9, [])) (none)))) (cond (Nat.beq pc 0) (some (.iload_n 1, 1, [])) (cond (Nat.beq pc 1) (some (.ifCond .lt 15, 4, [16])) (none)))))
theorem qkX2_hasLine_ok : ∀ pc i nx ts, qkX2_hasLine pc = some (i, nx, ts) → am_cok cX2_hasLine pc (i, nx, ts) = true := fun pc i nx ts h => am_tok_ok (n := 18) (by decide +kernel) (fun pc h => by show cond (Nat.ble 18 pc) _ _ = _; rw [Nat.ble_eq_true_of_le h]; rfl) h
def qaX2_hasLine : Nat → Option CE := fun k => cond (Nat.beq k 39) (some qeX2_lines) (none)
theorem qyX2_hasLine (l : Launch) : ∀ k e1, qaX2_hasLine k = some e1 → am_cal l layX RX2 5 k e1 ∧ ceT e1 = 0 := q_cons ⟨am_calV (ci := 2) (qtX2_lines l) qbX2_lines (by decide) rfl (am_tb_at 687 (by decide +kernel) rfl), rfl⟩ (q_nil)
def qxX2_hasLine : CX := (qkX2_hasLine, layX, qfX2, qaX2_hasLine, qcX2, qlX2, qmX2, (some .boolean), false, none, 0, none, fun _ => none)
theorem qzX2_hasLine (l : Launch) : am_sta l qxX2_hasLine RX2 5 cX2_hasLine := ⟨qkX2_hasLine_ok, layX_ok, qfX2_ok, qcX2_ok, qlX2_ok, am_mthP qmX2_ok (by decide), fun k e1 h => (qyX2_hasLine l k e1 h).1⟩
def qsX2_hasLine : SP := fun as F A K => match as with
  | [.inr (.inr o), .inl l] => cond (Nat.beq o 1) (K (some (some (vI (bi (0 ≤ w32 l ∧ w32 l < w32 (fat (A 2) 1)))))) F A) (cond (Nat.beq o 3) (K (some (some (vI (bi (0 ≤ w32 l ∧ w32 l < w32 (fat (A 4) 1)))))) F A) (False))
  | _ => False
def qeX2_hasLine : CE := (yX2_hasLine, cX2_hasLine, 2, (some .boolean), 1, some 2, 0, none, 0, 5, qsX2_hasLine)
theorem qbX2_hasLine : am_mb qeX2_hasLine := ⟨am_tb_at 933 (by decide +kernel) rfl, am_tb_at 36 (by decide +kernel) rfl, ⟨by decide, by decide, by decide +kernel⟩, by decide, am_tb_at 931 (by decide +kernel) rfl, am_tb_at 932 (by decide +kernel) rfl, _, _, rfl⟩
theorem qvX2_hasLine_1 (l : Int) (F : FF) (A : AA) (K : KK) (h : K (some (some (vI (bi (0 ≤ w32 l ∧ w32 l < w32 (fat (A 2) 1)))))) F A) : am_line qxX2_hasLine 10 [vR 1, vI l] 2 F A K := by
  show am_stp qxX2_hasLine (am_run qxX2_hasLine (fun _ => none) (fun _ _ _ _ _ _ => False) K 10) K 0 [some (vR 1), some (vI l)] [] F A 0
  show (w32 l < w32 0 → ((0 = 0 ∨ 0 = 1) ∧ (K (some (some (vI 0))) F A))) ∧ (¬ w32 l < w32 0 → ((w32 l < w32 (fat (A 2) 1) → ((1 = 0 ∨ 1 = 1) ∧ (K (some (some (vI 1))) F A))) ∧ (¬ w32 l < w32 (fat (A 2) 1) → ((0 = 0 ∨ 0 = 1) ∧ (K (some (some (vI 0))) F A)))))
  have z0 : w32 0 = 0 := rfl
  have z1 : w32 1 = 1 := rfl
  have z2 : w32 2 = 2 := rfl
  have z140 : w32 140 = 140 := rfl
  repeat' (first | apply And.intro | intro _)
  all_goals first
    | exact Or.inl rfl
    | exact Or.inr rfl
    | exact K_eq h (bi_t (by omega))
    | exact K_eq h (bi_f (by omega))
theorem qvX2_hasLine_3 (l : Int) (F : FF) (A : AA) (K : KK) (h : K (some (some (vI (bi (0 ≤ w32 l ∧ w32 l < w32 (fat (A 4) 1)))))) F A) : am_line qxX2_hasLine 10 [vR 3, vI l] 2 F A K := by
  show am_stp qxX2_hasLine (am_run qxX2_hasLine (fun _ => none) (fun _ _ _ _ _ _ => False) K 10) K 0 [some (vR 3), some (vI l)] [] F A 0
  show (w32 l < w32 0 → ((0 = 0 ∨ 0 = 1) ∧ (K (some (some (vI 0))) F A))) ∧ (¬ w32 l < w32 0 → ((w32 l < w32 (fat (A 4) 1) → ((1 = 0 ∨ 1 = 1) ∧ (K (some (some (vI 1))) F A))) ∧ (¬ w32 l < w32 (fat (A 4) 1) → ((0 = 0 ∨ 0 = 1) ∧ (K (some (some (vI 0))) F A)))))
  have z0 : w32 0 = 0 := rfl
  have z1 : w32 1 = 1 := rfl
  have z2 : w32 2 = 2 := rfl
  have z140 : w32 140 = 140 := rfl
  repeat' (first | apply And.intro | intro _)
  all_goals first
    | exact Or.inl rfl
    | exact Or.inr rfl
    | exact K_eq h (bi_t (by omega))
    | exact K_eq h (bi_f (by omega))
theorem qtX2_hasLine (l : Launch) : am_CT l layX qeX2_hasLine := am_met0 rfl (by decide +kernel) rfl rfl rfl rfl rfl (fun _ => rfl) rfl (qzX2_hasLine l) (fun k e1 h => (qyX2_hasLine l k e1 h).2) (fun as F A K h => by
  replace h : qsX2_hasLine as F A K := h
  unfold qsX2_hasLine at h
  split at h
  · rename_i o l
    refine ⟨by first | exact Nat.le_of_ble_eq_true rfl | simp [am_fl, am_cat], ?_⟩
    replace h := am_cond2 h
    rcases h with ⟨hb, h⟩ | h
    · skip
      have hb0 := hb
      have hb0 := am_bq hb0
      subst hb0
      exact am_way_line (qvX2_hasLine_1 l F A K h)
    replace h := am_cond2 h
    rcases h with ⟨hb, h⟩ | h
    · skip
      have hb0 := hb
      have hb0 := am_bq hb0
      subst hb0
      exact am_way_line (qvX2_hasLine_3 l F A K h)
    exact h.elim
  · exact h.elim)
def qkX2_hasPoint : Nat → Option CI := fun pc => cond (Nat.ble 27 pc) none (cond (Nat.ble 13 pc) (cond (Nat.ble 21 pc) (cond (Nat.ble 25 pc) (cond (Nat.beq pc 25) (some (.iconst 0, 26, [])) (cond (Nat.beq pc 26) (some (.ireturn, 27, [])) (none))) (cond (Nat.beq pc 21) (some (.iconst 1, 22, [])) (cond (Nat.beq pc 22) (some (.goto 4, 25, [26])) (none)))) (cond (Nat.ble 15 pc) (cond (Nat.beq pc 15) (some (.invokevirtual 46, 18, [])) (cond (Nat.beq pc 18) (some (.if_icmp .ge 7, 21, [25])) (none))) (cond (Nat.beq pc 13) (some (.aload_n 0, 14, [])) (cond (Nat.beq pc 14) (some (.iload_n 1, 15, [])) (none))))) (cond (Nat.ble 5 pc) (cond (Nat.ble 9 pc) (cond (Nat.beq pc 9) (some (.ifCond .lt 16, 12, [25])) (cond (Nat.beq pc 12) (some (.iload_n 2, 13, [])) (none))) (cond (Nat.beq pc 5) (some (.ifCond .eq 20, 8, [25])) (cond (Nat.beq pc 8) (some (.iload_n 2, 9, [])) (none)))) (cond (Nat.beq pc 0) (some (.aload_n 0, 1, [])) (cond (Nat.beq pc 1) (some (.iload_n 1, 2, [])) (cond (Nat.beq pc 2) (some (.invokevirtual 42, 5, [])) (none))))))
theorem qkX2_hasPoint_ok : ∀ pc i nx ts, qkX2_hasPoint pc = some (i, nx, ts) → am_cok cX2_hasPoint pc (i, nx, ts) = true := fun pc i nx ts h => am_tok_ok (n := 27) (by decide +kernel) (fun pc h => by show cond (Nat.ble 27 pc) _ _ = _; rw [Nat.ble_eq_true_of_le h]; rfl) h
def qaX2_hasPoint : Nat → Option CE := fun k => cond (Nat.beq k 42) (some qeX2_hasCurve) (cond (Nat.beq k 46) (some qeX2_size) (none))
theorem qyX2_hasPoint (l : Launch) : ∀ k e1, qaX2_hasPoint k = some e1 → am_cal l layX RX2 6 k e1 ∧ ceT e1 = 0 := q_cons ⟨am_calV (ci := 2) (qtX2_hasCurve l) qbX2_hasCurve (by decide) rfl (am_tb_at 871 (by decide +kernel) rfl), rfl⟩ (q_cons ⟨am_calV (ci := 2) (qtX2_size l) qbX2_size (by decide) rfl (am_tb_at 854 (by decide +kernel) rfl), rfl⟩ (q_nil))
def qxX2_hasPoint : CX := (qkX2_hasPoint, layX, qfX2, qaX2_hasPoint, qcX2, qlX2, qmX2, (some .boolean), false, none, 0, none, fun _ => none)
theorem qzX2_hasPoint (l : Launch) : am_sta l qxX2_hasPoint RX2 6 cX2_hasPoint := ⟨qkX2_hasPoint_ok, layX_ok, qfX2_ok, qcX2_ok, qlX2_ok, am_mthP qmX2_ok (by decide), fun k e1 h => (qyX2_hasPoint l k e1 h).1⟩
def qsX2_hasPoint : SP := fun as F A K => match as with
  | [.inr (.inr o), .inl c, .inl k] => cond (Nat.beq o 1) (K (some (some (vI (bi (0 ≤ w32 c ∧ w32 c < w32 (fat (A 2) 0) ∧ 0 ≤ w32 k ∧ w32 k < w32 (fat (A 2) (18 + c))))))) F A) (cond (Nat.beq o 3) (K (some (some (vI (bi (0 ≤ w32 c ∧ w32 c < w32 (fat (A 4) 0) ∧ 0 ≤ w32 k ∧ w32 k < w32 (fat (A 4) (18 + c))))))) F A) (False))
  | _ => False
def qeX2_hasPoint : CE := (yX2_hasPoint, cX2_hasPoint, 3, (some .boolean), 2, some 2, 0, none, 0, 6, qsX2_hasPoint)
theorem qbX2_hasPoint : am_mb qeX2_hasPoint := ⟨am_tb_at 870 (by decide +kernel) rfl, am_tb_at 36 (by decide +kernel) rfl, ⟨by decide, by decide, by decide +kernel⟩, by decide, am_tb_at 868 (by decide +kernel) rfl, am_tb_at 869 (by decide +kernel) rfl, _, _, rfl⟩
theorem qvX2_hasPoint_1 (c : Int) (k : Int) (F : FF) (A : AA) (K : KK) (h : K (some (some (vI (bi (0 ≤ w32 c ∧ w32 c < w32 (fat (A 2) 0) ∧ 0 ≤ w32 k ∧ w32 k < w32 (fat (A 2) (18 + c))))))) F A) : am_line qxX2_hasPoint 15 [vR 1, vI c, vI k] 3 F A K := by
  show am_stp qxX2_hasPoint (am_run qxX2_hasPoint (fun _ => none) (fun _ _ _ _ _ _ => False) K 15) K 0 [some (vR 1), some (vI c), some (vI k)] [] F A 0
  show (w32 (bi (0 ≤ w32 c ∧ w32 c < w32 (fat (A 2) 0))) = w32 0 → ((0 = 0 ∨ 0 = 1) ∧ (K (some (some (vI 0))) F A))) ∧ (¬ w32 (bi (0 ≤ w32 c ∧ w32 c < w32 (fat (A 2) 0))) = w32 0 → ((w32 k < w32 0 → ((0 = 0 ∨ 0 = 1) ∧ (K (some (some (vI 0))) F A))) ∧ (¬ w32 k < w32 0 → ((w32 k < w32 (fat (A 2) (18 + c)) → ((1 = 0 ∨ 1 = 1) ∧ (K (some (some (vI 1))) F A))) ∧ (¬ w32 k < w32 (fat (A 2) (18 + c)) → ((0 = 0 ∨ 0 = 1) ∧ (K (some (some (vI 0))) F A)))))))
  have z0 : w32 0 = 0 := rfl
  have z1 : w32 1 = 1 := rfl
  have z2 : w32 2 = 2 := rfl
  have z140 : w32 140 = 140 := rfl
  refine ⟨fun q => ?_, fun q => ⟨fun q1 => ?_, fun q1 => ⟨fun q2 => ?_, fun q2 => ?_⟩⟩⟩ <;> rw [w32_bi, z0] at q <;> refine ⟨by decide, K_eq h ?_⟩
  · exact bi_f (fun z => bi_0.mp q ⟨z.1, z.2.1⟩)
  · exact bi_f (by omega)
  · exact bi_t (by have := Classical.byContradiction (fun z => q (bi_0.mpr z)); omega)
  · exact bi_f (by omega)
theorem qvX2_hasPoint_3 (c : Int) (k : Int) (F : FF) (A : AA) (K : KK) (h : K (some (some (vI (bi (0 ≤ w32 c ∧ w32 c < w32 (fat (A 4) 0) ∧ 0 ≤ w32 k ∧ w32 k < w32 (fat (A 4) (18 + c))))))) F A) : am_line qxX2_hasPoint 15 [vR 3, vI c, vI k] 3 F A K := by
  show am_stp qxX2_hasPoint (am_run qxX2_hasPoint (fun _ => none) (fun _ _ _ _ _ _ => False) K 15) K 0 [some (vR 3), some (vI c), some (vI k)] [] F A 0
  show (w32 (bi (0 ≤ w32 c ∧ w32 c < w32 (fat (A 4) 0))) = w32 0 → ((0 = 0 ∨ 0 = 1) ∧ (K (some (some (vI 0))) F A))) ∧ (¬ w32 (bi (0 ≤ w32 c ∧ w32 c < w32 (fat (A 4) 0))) = w32 0 → ((w32 k < w32 0 → ((0 = 0 ∨ 0 = 1) ∧ (K (some (some (vI 0))) F A))) ∧ (¬ w32 k < w32 0 → ((w32 k < w32 (fat (A 4) (18 + c)) → ((1 = 0 ∨ 1 = 1) ∧ (K (some (some (vI 1))) F A))) ∧ (¬ w32 k < w32 (fat (A 4) (18 + c)) → ((0 = 0 ∨ 0 = 1) ∧ (K (some (some (vI 0))) F A)))))))
  have z0 : w32 0 = 0 := rfl
  have z1 : w32 1 = 1 := rfl
  have z2 : w32 2 = 2 := rfl
  have z140 : w32 140 = 140 := rfl
  refine ⟨fun q => ?_, fun q => ⟨fun q1 => ?_, fun q1 => ⟨fun q2 => ?_, fun q2 => ?_⟩⟩⟩ <;> rw [w32_bi, z0] at q <;> refine ⟨by decide, K_eq h ?_⟩
  · exact bi_f (fun z => bi_0.mp q ⟨z.1, z.2.1⟩)
  · exact bi_f (by omega)
  · exact bi_t (by have := Classical.byContradiction (fun z => q (bi_0.mpr z)); omega)
  · exact bi_f (by omega)
theorem qtX2_hasPoint (l : Launch) : am_CT l layX qeX2_hasPoint := am_met0 rfl (by decide +kernel) rfl rfl rfl rfl rfl (fun _ => rfl) rfl (qzX2_hasPoint l) (fun k e1 h => (qyX2_hasPoint l k e1 h).2) (fun as F A K h => by
  replace h : qsX2_hasPoint as F A K := h
  unfold qsX2_hasPoint at h
  split at h
  · rename_i o c k
    refine ⟨by first | exact Nat.le_of_ble_eq_true rfl | simp [am_fl, am_cat], ?_⟩
    replace h := am_cond2 h
    rcases h with ⟨hb, h⟩ | h
    · skip
      have hb0 := hb
      have hb0 := am_bq hb0
      subst hb0
      exact am_way_line (qvX2_hasPoint_1 c k F A K h)
    replace h := am_cond2 h
    rcases h with ⟨hb, h⟩ | h
    · skip
      have hb0 := hb
      have hb0 := am_bq hb0
      subst hb0
      exact am_way_line (qvX2_hasPoint_3 c k F A K h)
    exact h.elim
  · exact h.elim)
def qkX2_addCurve : Nat → Option CI := fun pc => cond (Nat.ble 23 pc) none (cond (Nat.ble 10 pc) (cond (Nat.ble 16 pc) (cond (Nat.ble 18 pc) (cond (Nat.beq pc 18) (some (.invokevirtual 21, 21, [])) (cond (Nat.beq pc 21) (some (.iload_n 2, 22, [])) (cond (Nat.beq pc 22) (some (.ireturn, 23, [])) (none)))) (cond (Nat.beq pc 16) (some (.iconst 1, 17, [])) (cond (Nat.beq pc 17) (some (.iadd, 18, [])) (none)))) (cond (Nat.ble 14 pc) (cond (Nat.beq pc 14) (some (.iconst 0, 15, [])) (cond (Nat.beq pc 15) (some (.iload_n 2, 16, [])) (none))) (cond (Nat.beq pc 10) (some (.invokevirtual 21, 13, [])) (cond (Nat.beq pc 13) (some (.aload_n 0, 14, [])) (none))))) (cond (Nat.ble 6 pc) (cond (Nat.ble 8 pc) (cond (Nat.beq pc 8) (some (.iadd, 9, [])) (cond (Nat.beq pc 9) (some (.iload_n 1, 10, [])) (none))) (cond (Nat.beq pc 6) (some (.iconst 4, 7, [])) (cond (Nat.beq pc 7) (some (.iload_n 2, 8, [])) (none)))) (cond (Nat.ble 4 pc) (cond (Nat.beq pc 4) (some (.istore_n 2, 5, [])) (cond (Nat.beq pc 5) (some (.aload_n 0, 6, [])) (none))) (cond (Nat.beq pc 0) (some (.aload_n 0, 1, [])) (cond (Nat.beq pc 1) (some (.invokevirtual 35, 4, [])) (none))))))
theorem qkX2_addCurve_ok : ∀ pc i nx ts, qkX2_addCurve pc = some (i, nx, ts) → am_cok cX2_addCurve pc (i, nx, ts) = true := fun pc i nx ts h => am_tok_ok (n := 23) (by decide +kernel) (fun pc h => by show cond (Nat.ble 23 pc) _ _ = _; rw [Nat.ble_eq_true_of_le h]; rfl) h
def qaX2_addCurve : Nat → Option CE := fun k => cond (Nat.beq k 35) (some qeX2_curves) (cond (Nat.beq k 21) (some qeX2_put) (none))
theorem qyX2_addCurve (l : Launch) : ∀ k e1, qaX2_addCurve k = some e1 → am_cal l layX RX2 5 k e1 ∧ ceT e1 = 0 := q_cons ⟨am_calV (ci := 2) (qtX2_curves l) qbX2_curves (by decide) rfl (am_tb_at 678 (by decide +kernel) rfl), rfl⟩ (q_cons ⟨am_calV (ci := 2) (qtX2_put l) qbX2_put (by decide) rfl (am_tb_at 250 (by decide +kernel) rfl), rfl⟩ (q_nil))
def qxX2_addCurve : CX := (qkX2_addCurve, layX, qfX2, qaX2_addCurve, qcX2, qlX2, qmX2, (some .int), false, none, 0, none, fun _ => none)
theorem qzX2_addCurve (l : Launch) : am_sta l qxX2_addCurve RX2 5 cX2_addCurve := ⟨qkX2_addCurve_ok, layX_ok, qfX2_ok, qcX2_ok, qlX2_ok, am_mthP qmX2_ok (by decide), fun k e1 h => (qyX2_addCurve l k e1 h).1⟩
def qsX2_addCurve : SP := fun as F A K => match as with
  | [.inr (.inr o), .inl v] => cond (Nat.beq o 1) (K (some (some (vI (fat (A 2) 0)))) F (fput (fput A 2 (4 + fat (A 2) 0) v) 2 0 (fat (A 2) 0 + 1))) (cond (Nat.beq o 3) (K (some (some (vI (fat (A 4) 0)))) F (fput (fput A 4 (4 + fat (A 4) 0) v) 4 0 (fat (A 4) 0 + 1))) (False))
  | _ => False
def qeX2_addCurve : CE := (yX2_addCurve, cX2_addCurve, 3, (some .int), 1, some 2, 0, none, 0, 5, qsX2_addCurve)
theorem qbX2_addCurve : am_mb qeX2_addCurve := ⟨am_tb_at 694 (by decide +kernel) rfl, am_tb_at 36 (by decide +kernel) rfl, ⟨by decide, by decide, by decide +kernel⟩, by decide, am_tb_at 692 (by decide +kernel) rfl, am_tb_at 693 (by decide +kernel) rfl, _, _, rfl⟩
theorem qvX2_addCurve_1 (v : Int) (F : FF) (A : AA) (K : KK) (h : K (some (some (vI (fat (A 2) 0)))) F (fput (fput A 2 (4 + fat (A 2) 0) v) 2 0 (fat (A 2) 0 + 1))) : am_line qxX2_addCurve 18 [vR 1, vI v] 3 F A K := by
  show am_stp qxX2_addCurve (am_run qxX2_addCurve (fun _ => none) (fun _ _ _ _ _ _ => False) K 18) K 0 [some (vR 1), some (vI v), none] [] F A 0
  show K (some (some (vI (fat (A 2) 0)))) F (fput (fput A 2 (4 + (fat (A 2) 0)) v) 2 0 ((fat (A 2) 0) + 1))
  exact h
theorem qvX2_addCurve_3 (v : Int) (F : FF) (A : AA) (K : KK) (h : K (some (some (vI (fat (A 4) 0)))) F (fput (fput A 4 (4 + fat (A 4) 0) v) 4 0 (fat (A 4) 0 + 1))) : am_line qxX2_addCurve 18 [vR 3, vI v] 3 F A K := by
  show am_stp qxX2_addCurve (am_run qxX2_addCurve (fun _ => none) (fun _ _ _ _ _ _ => False) K 18) K 0 [some (vR 3), some (vI v), none] [] F A 0
  show K (some (some (vI (fat (A 4) 0)))) F (fput (fput A 4 (4 + (fat (A 4) 0)) v) 4 0 ((fat (A 4) 0) + 1))
  exact h
theorem qtX2_addCurve (l : Launch) : am_CT l layX qeX2_addCurve := am_met0 rfl (by decide +kernel) rfl rfl rfl rfl rfl (fun _ => rfl) rfl (qzX2_addCurve l) (fun k e1 h => (qyX2_addCurve l k e1 h).2) (fun as F A K h => by
  replace h : qsX2_addCurve as F A K := h
  unfold qsX2_addCurve at h
  split at h
  · rename_i o v
    refine ⟨by first | exact Nat.le_of_ble_eq_true rfl | simp [am_fl, am_cat], ?_⟩
    replace h := am_cond2 h
    rcases h with ⟨hb, h⟩ | h
    · skip
      have hb0 := hb
      have hb0 := am_bq hb0
      subst hb0
      exact am_way_line (qvX2_addCurve_1 v F A K h)
    replace h := am_cond2 h
    rcases h with ⟨hb, h⟩ | h
    · skip
      have hb0 := hb
      have hb0 := am_bq hb0
      subst hb0
      exact am_way_line (qvX2_addCurve_3 v F A K h)
    exact h.elim
  · exact h.elim)
def qkX2_addLine : Nat → Option CI := fun pc => cond (Nat.ble 24 pc) none (cond (Nat.ble 11 pc) (cond (Nat.ble 17 pc) (cond (Nat.ble 19 pc) (cond (Nat.beq pc 19) (some (.invokevirtual 21, 22, [])) (cond (Nat.beq pc 22) (some (.iload_n 2, 23, [])) (cond (Nat.beq pc 23) (some (.ireturn, 24, [])) (none)))) (cond (Nat.beq pc 17) (some (.iconst 1, 18, [])) (cond (Nat.beq pc 18) (some (.iadd, 19, [])) (none)))) (cond (Nat.ble 15 pc) (cond (Nat.beq pc 15) (some (.iconst 1, 16, [])) (cond (Nat.beq pc 16) (some (.iload_n 2, 17, [])) (none))) (cond (Nat.beq pc 11) (some (.invokevirtual 21, 14, [])) (cond (Nat.beq pc 14) (some (.aload_n 0, 15, [])) (none))))) (cond (Nat.ble 6 pc) (cond (Nat.ble 9 pc) (cond (Nat.beq pc 9) (some (.iadd, 10, [])) (cond (Nat.beq pc 10) (some (.iload_n 1, 11, [])) (none))) (cond (Nat.beq pc 6) (some (.bipush 12, 8, [])) (cond (Nat.beq pc 8) (some (.iload_n 2, 9, [])) (none)))) (cond (Nat.ble 4 pc) (cond (Nat.beq pc 4) (some (.istore_n 2, 5, [])) (cond (Nat.beq pc 5) (some (.aload_n 0, 6, [])) (none))) (cond (Nat.beq pc 0) (some (.aload_n 0, 1, [])) (cond (Nat.beq pc 1) (some (.invokevirtual 39, 4, [])) (none))))))
theorem qkX2_addLine_ok : ∀ pc i nx ts, qkX2_addLine pc = some (i, nx, ts) → am_cok cX2_addLine pc (i, nx, ts) = true := fun pc i nx ts h => am_tok_ok (n := 24) (by decide +kernel) (fun pc h => by show cond (Nat.ble 24 pc) _ _ = _; rw [Nat.ble_eq_true_of_le h]; rfl) h
def qaX2_addLine : Nat → Option CE := fun k => cond (Nat.beq k 39) (some qeX2_lines) (cond (Nat.beq k 21) (some qeX2_put) (none))
theorem qyX2_addLine (l : Launch) : ∀ k e1, qaX2_addLine k = some e1 → am_cal l layX RX2 5 k e1 ∧ ceT e1 = 0 := q_cons ⟨am_calV (ci := 2) (qtX2_lines l) qbX2_lines (by decide) rfl (am_tb_at 687 (by decide +kernel) rfl), rfl⟩ (q_cons ⟨am_calV (ci := 2) (qtX2_put l) qbX2_put (by decide) rfl (am_tb_at 250 (by decide +kernel) rfl), rfl⟩ (q_nil))
def qxX2_addLine : CX := (qkX2_addLine, layX, qfX2, qaX2_addLine, qcX2, qlX2, qmX2, (some .int), false, none, 0, none, fun _ => none)
theorem qzX2_addLine (l : Launch) : am_sta l qxX2_addLine RX2 5 cX2_addLine := ⟨qkX2_addLine_ok, layX_ok, qfX2_ok, qcX2_ok, qlX2_ok, am_mthP qmX2_ok (by decide), fun k e1 h => (qyX2_addLine l k e1 h).1⟩
def qsX2_addLine : SP := fun as F A K => match as with
  | [.inr (.inr o), .inl v] => cond (Nat.beq o 1) (K (some (some (vI (fat (A 2) 1)))) F (fput (fput A 2 (12 + fat (A 2) 1) v) 2 1 (fat (A 2) 1 + 1))) (cond (Nat.beq o 3) (K (some (some (vI (fat (A 4) 1)))) F (fput (fput A 4 (12 + fat (A 4) 1) v) 4 1 (fat (A 4) 1 + 1))) (False))
  | _ => False
def qeX2_addLine : CE := (yX2_addLine, cX2_addLine, 3, (some .int), 1, some 2, 0, none, 0, 5, qsX2_addLine)
theorem qbX2_addLine : am_mb qeX2_addLine := ⟨am_tb_at 725 (by decide +kernel) rfl, am_tb_at 36 (by decide +kernel) rfl, ⟨by decide, by decide, by decide +kernel⟩, by decide, am_tb_at 723 (by decide +kernel) rfl, am_tb_at 724 (by decide +kernel) rfl, _, _, rfl⟩
theorem qvX2_addLine_1 (v : Int) (F : FF) (A : AA) (K : KK) (h : K (some (some (vI (fat (A 2) 1)))) F (fput (fput A 2 (12 + fat (A 2) 1) v) 2 1 (fat (A 2) 1 + 1))) : am_line qxX2_addLine 18 [vR 1, vI v] 3 F A K := by
  show am_stp qxX2_addLine (am_run qxX2_addLine (fun _ => none) (fun _ _ _ _ _ _ => False) K 18) K 0 [some (vR 1), some (vI v), none] [] F A 0
  show K (some (some (vI (fat (A 2) 1)))) F (fput (fput A 2 (12 + (fat (A 2) 1)) v) 2 1 ((fat (A 2) 1) + 1))
  exact h
theorem qvX2_addLine_3 (v : Int) (F : FF) (A : AA) (K : KK) (h : K (some (some (vI (fat (A 4) 1)))) F (fput (fput A 4 (12 + fat (A 4) 1) v) 4 1 (fat (A 4) 1 + 1))) : am_line qxX2_addLine 18 [vR 3, vI v] 3 F A K := by
  show am_stp qxX2_addLine (am_run qxX2_addLine (fun _ => none) (fun _ _ _ _ _ _ => False) K 18) K 0 [some (vR 3), some (vI v), none] [] F A 0
  show K (some (some (vI (fat (A 4) 1)))) F (fput (fput A 4 (12 + (fat (A 4) 1)) v) 4 1 ((fat (A 4) 1) + 1))
  exact h
theorem qtX2_addLine (l : Launch) : am_CT l layX qeX2_addLine := am_met0 rfl (by decide +kernel) rfl rfl rfl rfl rfl (fun _ => rfl) rfl (qzX2_addLine l) (fun k e1 h => (qyX2_addLine l k e1 h).2) (fun as F A K h => by
  replace h : qsX2_addLine as F A K := h
  unfold qsX2_addLine at h
  split at h
  · rename_i o v
    refine ⟨by first | exact Nat.le_of_ble_eq_true rfl | simp [am_fl, am_cat], ?_⟩
    replace h := am_cond2 h
    rcases h with ⟨hb, h⟩ | h
    · skip
      have hb0 := hb
      have hb0 := am_bq hb0
      subst hb0
      exact am_way_line (qvX2_addLine_1 v F A K h)
    replace h := am_cond2 h
    rcases h with ⟨hb, h⟩ | h
    · skip
      have hb0 := hb
      have hb0 := am_bq hb0
      subst hb0
      exact am_way_line (qvX2_addLine_3 v F A K h)
    exact h.elim
  · exact h.elim)
def qkX2_find : Nat → Option CI := fun pc => cond (Nat.ble 32 pc) none (cond (Nat.ble 14 pc) (cond (Nat.ble 23 pc) (cond (Nat.ble 27 pc) (cond (Nat.beq pc 27) (some (.goto (-24), 30, [3])) (cond (Nat.beq pc 30) (some (.iconst (-1), 31, [])) (cond (Nat.beq pc 31) (some (.ireturn, 32, [])) (none)))) (cond (Nat.beq pc 23) (some (.ireturn, 24, [])) (cond (Nat.beq pc 24) (some (.iinc 4 1, 27, [])) (none)))) (cond (Nat.ble 18 pc) (cond (Nat.beq pc 18) (some (.if_icmp .ne 6, 21, [24])) (cond (Nat.beq pc 21) (some (.iload 4, 23, [])) (none))) (cond (Nat.beq pc 14) (some (.invokevirtual 31, 17, [])) (cond (Nat.beq pc 17) (some (.iload_n 1, 18, [])) (none))))) (cond (Nat.ble 6 pc) (cond (Nat.ble 10 pc) (cond (Nat.beq pc 10) (some (.iload_n 2, 11, [])) (cond (Nat.beq pc 11) (some (.iload 4, 13, [])) (cond (Nat.beq pc 13) (some (.iadd, 14, [])) (none)))) (cond (Nat.beq pc 6) (some (.if_icmp .ge 24, 9, [30])) (cond (Nat.beq pc 9) (some (.aload_n 0, 10, [])) (none)))) (cond (Nat.ble 3 pc) (cond (Nat.beq pc 3) (some (.iload 4, 5, [])) (cond (Nat.beq pc 5) (some (.iload_n 3, 6, [])) (none))) (cond (Nat.beq pc 0) (some (.iconst 0, 1, [])) (cond (Nat.beq pc 1) (some (.istore 4, 3, [])) (none))))))
theorem qkX2_find_ok : ∀ pc i nx ts, qkX2_find pc = some (i, nx, ts) → am_cok cX2_find pc (i, nx, ts) = true := fun pc i nx ts h => am_tok_ok (n := 32) (by decide +kernel) (fun pc h => by show cond (Nat.ble 32 pc) _ _ = _; rw [Nat.ble_eq_true_of_le h]; rfl) h
def qaX2_find : Nat → Option CE := fun k => cond (Nat.beq k 31) (some qeX2_at) (none)
theorem qyX2_find (l : Launch) : ∀ k e1, qaX2_find k = some e1 → am_cal l layX RX2 4 k e1 ∧ ceT e1 = 0 := q_cons ⟨am_calV (ci := 2) (qtX2_at l) qbX2_at (by decide) rfl (am_tb_at 659 (by decide +kernel) rfl), rfl⟩ (q_nil)
def qxX2_find : CX := (qkX2_find, layX, qfX2, qaX2_find, qcX2, qlX2, qmX2, (some .int), false, none, 0, none, fun _ => none)
theorem qzX2_find (l : Launch) : am_sta l qxX2_find RX2 4 cX2_find := ⟨qkX2_find_ok, layX_ok, qfX2_ok, qcX2_ok, qlX2_ok, am_mthP qmX2_ok (by decide), fun k e1 h => (qyX2_find l k e1 h).1⟩
def qsX2_find : SP := fun as F A K => match as with
  | [.inr (.inr o), .inl v, .inl sta, .inl n] => cond (Nat.beq o 1) ((0 ≤ n ∧ n ≤ 1000) ∧ (K (some (some (vI (firstk (fun k => decide (w32 (fat (A 2) (sta + k)) = w32 v)) n.toNat)))) F A)) (cond (Nat.beq o 3) ((0 ≤ n ∧ n ≤ 1000) ∧ (K (some (some (vI (firstk (fun k => decide (w32 (fat (A 4) (sta + k)) = w32 v)) n.toNat)))) F A)) (False))
  | _ => False
def qeX2_find : CE := (yX2_find, cX2_find, 5, (some .int), 3, some 2, 0, none, 0, 4, qsX2_find)
theorem qbX2_find : am_mb qeX2_find := ⟨am_tb_at 682 (by decide +kernel) rfl, am_tb_at 36 (by decide +kernel) rfl, ⟨by decide, by decide, by decide +kernel⟩, by decide, am_tb_at 681 (by decide +kernel) rfl, am_tb_at 10 (by decide +kernel) rfl, _, _, rfl⟩
def qnX2_find_1 : CUT := fun pc => cond (Nat.beq pc 3) (some [true, true, true, true, true]) (none)
def qiX2_find_1 (v : Int) (sta : Int) (n : Int) (F0 : FF) (A0 : AA) : REC := fun pc ls st F A u => cond (Nat.beq pc 3) (match ls, st, u with
    | [some (.inr (.inr s0)), some (.inl s1), some (.inl s2), some (.inl s3), some (.inl k)], [], 0 => s0 = 1 ∧ s1 = v ∧ s2 = sta ∧ s3 = n ∧ F = F0 ∧ A = A0 ∧ (0 ≤ k ∧ k ≤ n ∧ ∀ j : Nat, (j : Int) < k → ¬ w32 (fat (A0 2) (sta + j)) = w32 v)
    | _, _, _ => False) (False)
def quX2_find_1 : Nat → LVs → List AV → FF → AA → Nat := fun pc ls _ F A => cond (Nat.beq pc 3) (match ls with
    | [some (.inr (.inr s0)), some (.inl s1), some (.inl s2), some (.inl s3), some (.inl k)] => (s3 - k).toNat
    | _ => 0) (0)
theorem qvX2_find_1_0 (v : Int) (sta : Int) (n : Int) (F0 : FF) (A0 : AA) (K : KK) (h : (0 ≤ n ∧ n ≤ 1000) ∧ (K (some (some (vI (firstk (fun k => decide (w32 (fat (A0 2) (sta + k)) = w32 v)) n.toNat)))) F0 A0)) : am_stp qxX2_find (am_run qxX2_find qnX2_find_1 (qiX2_find_1 v sta n F0 A0) K 15) K 0 (am_ent [vR 1, vI v, vI sta, vI n] 5) [] F0 A0 0 := by
  show am_stp qxX2_find (am_run qxX2_find qnX2_find_1 (qiX2_find_1 v sta n F0 A0) K 15) K 0 [some (vR 1), some (vI v), some (vI sta), some (vI n), none] [] F0 A0 0
  show 1 = 1 ∧ v = v ∧ sta = sta ∧ n = n ∧ F0 = F0 ∧ A0 = A0 ∧ (0 ≤ 0 ∧ 0 ≤ n ∧ ∀ j : Nat, (j : Int) < 0 → ¬ w32 (fat (A0 2) (sta + j)) = w32 v)
  exact ⟨rfl, rfl, rfl, rfl, rfl, rfl, Int.le_refl 0, h.1.1, fun j hj => by omega⟩
theorem qvX2_find_1_3 (v : Int) (sta : Int) (n : Int) (F0 : FF) (A0 : AA) (K : KK) (h : (0 ≤ n ∧ n ≤ 1000) ∧ (K (some (some (vI (firstk (fun k => decide (w32 (fat (A0 2) (sta + k)) = w32 v)) n.toNat)))) F0 A0)) (k : Int) (hi : 0 ≤ k ∧ k ≤ n ∧ ∀ j : Nat, (j : Int) < k → ¬ w32 (fat (A0 2) (sta + j)) = w32 v) : am_stp qxX2_find (am_run qxX2_find qnX2_find_1 (fun pc ls st F A u => qiX2_find_1 v sta n F0 A0 pc ls st F A u ∧ quX2_find_1 pc ls st F A < quX2_find_1 3 [some (vR 1), some (vI v), some (vI sta), some (vI n), some (vI k)] [] F0 A0) K 15) K 3 [some (vR 1), some (vI v), some (vI sta), some (vI n), some (vI k)] [] F0 A0 0 := by
  show (w32 k < w32 n → ((w32 (fat (A0 2) (sta + k)) = w32 v → (K (some (some (vI k))) F0 A0)) ∧ (¬ w32 (fat (A0 2) (sta + k)) = w32 v → ((1 = 1 ∧ v = v ∧ sta = sta ∧ n = n ∧ F0 = F0 ∧ A0 = A0 ∧ (0 ≤ (k + 1) ∧ (k + 1) ≤ n ∧ ∀ j : Nat, (j : Int) < (k + 1) → ¬ w32 (fat (A0 2) (sta + j)) = w32 v)) ∧ ((n - (k + 1)).toNat) < ((n - k).toNat))))) ∧ (¬ w32 k < w32 n → (K (some (some (vI (-1)))) F0 A0))
  obtain ⟨⟨hn0, hn1⟩, h⟩ := h
  obtain ⟨h1, h2, h3⟩ := hi
  rw [w32_id (x := k) (by omega) (by omega), w32_id (x := n) (by omega) (by omega)]
  have ek : ((k.toNat : Nat) : Int) = k := by omega
  refine ⟨fun hlt => ⟨fun heq => ?_, fun hne => ⟨⟨rfl, rfl, rfl, rfl, rfl, rfl, by omega, by omega, fun j hj => ?_⟩, by omega⟩⟩, fun hge => ?_⟩
  · refine K_eq h ?_
    rw [firstk_some (k := k.toNat) (by omega) (by rw [ek]; exact decide_eq_true heq) (fun j hj => decide_eq_false (h3 j (by omega)))]
    exact ek
  · by_cases hjk : (j : Int) = k
    · rw [hjk]; exact hne
    · exact h3 j (by omega)
  · refine K_eq h ?_
    exact firstk_none (fun j hj => decide_eq_false (h3 j (by omega)))
theorem qvX2_find_1 (v : Int) (sta : Int) (n : Int) (F0 : FF) (A0 : AA) (K : KK) (h : (0 ≤ n ∧ n ≤ 1000) ∧ (K (some (some (vI (firstk (fun k => decide (w32 (fat (A0 2) (sta + k)) = w32 v)) n.toNat)))) F0 A0)) : am_body qxX2_find qnX2_find_1 15 (qiX2_find_1 v sta n F0 A0) quX2_find_1 [vR 1, vI v, vI sta, vI n] 5 F0 A0 K := by
  refine ⟨qvX2_find_1_0 v sta n F0 A0 K h, fun pc ls st F A u hI => ?_⟩
  unfold qiX2_find_1 at hI
  replace hI := am_cond2 hI
  rcases hI with ⟨hb, hI⟩ | hI
  · have hb := am_bq hb
    subst hb
    split at hI
    · rename_i s0 s1 s2 s3 k
      obtain ⟨e0, e1, e2, e3, e4, e5, hI⟩ := hI
      subst e0
      subst e1
      subst e2
      subst e3
      subst e4
      subst e5
      exact qvX2_find_1_3 _ _ _ _ _ K h _ hI
    · exact hI.elim
  exact hI.elim
def qnX2_find_3 : CUT := fun pc => cond (Nat.beq pc 3) (some [true, true, true, true, true]) (none)
def qiX2_find_3 (v : Int) (sta : Int) (n : Int) (F0 : FF) (A0 : AA) : REC := fun pc ls st F A u => cond (Nat.beq pc 3) (match ls, st, u with
    | [some (.inr (.inr s0)), some (.inl s1), some (.inl s2), some (.inl s3), some (.inl k)], [], 0 => s0 = 3 ∧ s1 = v ∧ s2 = sta ∧ s3 = n ∧ F = F0 ∧ A = A0 ∧ (0 ≤ k ∧ k ≤ n ∧ ∀ j : Nat, (j : Int) < k → ¬ w32 (fat (A0 4) (sta + j)) = w32 v)
    | _, _, _ => False) (False)
def quX2_find_3 : Nat → LVs → List AV → FF → AA → Nat := fun pc ls _ F A => cond (Nat.beq pc 3) (match ls with
    | [some (.inr (.inr s0)), some (.inl s1), some (.inl s2), some (.inl s3), some (.inl k)] => (s3 - k).toNat
    | _ => 0) (0)
theorem qvX2_find_3_0 (v : Int) (sta : Int) (n : Int) (F0 : FF) (A0 : AA) (K : KK) (h : (0 ≤ n ∧ n ≤ 1000) ∧ (K (some (some (vI (firstk (fun k => decide (w32 (fat (A0 4) (sta + k)) = w32 v)) n.toNat)))) F0 A0)) : am_stp qxX2_find (am_run qxX2_find qnX2_find_3 (qiX2_find_3 v sta n F0 A0) K 15) K 0 (am_ent [vR 3, vI v, vI sta, vI n] 5) [] F0 A0 0 := by
  show am_stp qxX2_find (am_run qxX2_find qnX2_find_3 (qiX2_find_3 v sta n F0 A0) K 15) K 0 [some (vR 3), some (vI v), some (vI sta), some (vI n), none] [] F0 A0 0
  show 3 = 3 ∧ v = v ∧ sta = sta ∧ n = n ∧ F0 = F0 ∧ A0 = A0 ∧ (0 ≤ 0 ∧ 0 ≤ n ∧ ∀ j : Nat, (j : Int) < 0 → ¬ w32 (fat (A0 4) (sta + j)) = w32 v)
  exact ⟨rfl, rfl, rfl, rfl, rfl, rfl, Int.le_refl 0, h.1.1, fun j hj => by omega⟩
theorem qvX2_find_3_3 (v : Int) (sta : Int) (n : Int) (F0 : FF) (A0 : AA) (K : KK) (h : (0 ≤ n ∧ n ≤ 1000) ∧ (K (some (some (vI (firstk (fun k => decide (w32 (fat (A0 4) (sta + k)) = w32 v)) n.toNat)))) F0 A0)) (k : Int) (hi : 0 ≤ k ∧ k ≤ n ∧ ∀ j : Nat, (j : Int) < k → ¬ w32 (fat (A0 4) (sta + j)) = w32 v) : am_stp qxX2_find (am_run qxX2_find qnX2_find_3 (fun pc ls st F A u => qiX2_find_3 v sta n F0 A0 pc ls st F A u ∧ quX2_find_3 pc ls st F A < quX2_find_3 3 [some (vR 3), some (vI v), some (vI sta), some (vI n), some (vI k)] [] F0 A0) K 15) K 3 [some (vR 3), some (vI v), some (vI sta), some (vI n), some (vI k)] [] F0 A0 0 := by
  show (w32 k < w32 n → ((w32 (fat (A0 4) (sta + k)) = w32 v → (K (some (some (vI k))) F0 A0)) ∧ (¬ w32 (fat (A0 4) (sta + k)) = w32 v → ((3 = 3 ∧ v = v ∧ sta = sta ∧ n = n ∧ F0 = F0 ∧ A0 = A0 ∧ (0 ≤ (k + 1) ∧ (k + 1) ≤ n ∧ ∀ j : Nat, (j : Int) < (k + 1) → ¬ w32 (fat (A0 4) (sta + j)) = w32 v)) ∧ ((n - (k + 1)).toNat) < ((n - k).toNat))))) ∧ (¬ w32 k < w32 n → (K (some (some (vI (-1)))) F0 A0))
  obtain ⟨⟨hn0, hn1⟩, h⟩ := h
  obtain ⟨h1, h2, h3⟩ := hi
  rw [w32_id (x := k) (by omega) (by omega), w32_id (x := n) (by omega) (by omega)]
  have ek : ((k.toNat : Nat) : Int) = k := by omega
  refine ⟨fun hlt => ⟨fun heq => ?_, fun hne => ⟨⟨rfl, rfl, rfl, rfl, rfl, rfl, by omega, by omega, fun j hj => ?_⟩, by omega⟩⟩, fun hge => ?_⟩
  · refine K_eq h ?_
    rw [firstk_some (k := k.toNat) (by omega) (by rw [ek]; exact decide_eq_true heq) (fun j hj => decide_eq_false (h3 j (by omega)))]
    exact ek
  · by_cases hjk : (j : Int) = k
    · rw [hjk]; exact hne
    · exact h3 j (by omega)
  · refine K_eq h ?_
    exact firstk_none (fun j hj => decide_eq_false (h3 j (by omega)))
theorem qvX2_find_3 (v : Int) (sta : Int) (n : Int) (F0 : FF) (A0 : AA) (K : KK) (h : (0 ≤ n ∧ n ≤ 1000) ∧ (K (some (some (vI (firstk (fun k => decide (w32 (fat (A0 4) (sta + k)) = w32 v)) n.toNat)))) F0 A0)) : am_body qxX2_find qnX2_find_3 15 (qiX2_find_3 v sta n F0 A0) quX2_find_3 [vR 3, vI v, vI sta, vI n] 5 F0 A0 K := by
  refine ⟨qvX2_find_3_0 v sta n F0 A0 K h, fun pc ls st F A u hI => ?_⟩
  unfold qiX2_find_3 at hI
  replace hI := am_cond2 hI
  rcases hI with ⟨hb, hI⟩ | hI
  · have hb := am_bq hb
    subst hb
    split at hI
    · rename_i s0 s1 s2 s3 k
      obtain ⟨e0, e1, e2, e3, e4, e5, hI⟩ := hI
      subst e0
      subst e1
      subst e2
      subst e3
      subst e4
      subst e5
      exact qvX2_find_3_3 _ _ _ _ _ K h _ hI
    · exact hI.elim
  exact hI.elim
theorem qtX2_find (l : Launch) : am_CT l layX qeX2_find := am_met0 rfl (by decide +kernel) rfl rfl rfl rfl rfl (fun _ => rfl) rfl (qzX2_find l) (fun k e1 h => (qyX2_find l k e1 h).2) (fun as F A K h => by
  replace h : qsX2_find as F A K := h
  unfold qsX2_find at h
  split at h
  · rename_i o v sta n
    refine ⟨by first | exact Nat.le_of_ble_eq_true rfl | simp [am_fl, am_cat], ?_⟩
    replace h := am_cond2 h
    rcases h with ⟨hb, h⟩ | h
    · skip
      have hb0 := hb
      have hb0 := am_bq hb0
      subst hb0
      exact am_way_body (qvX2_find_1 v sta n F A K h)
    replace h := am_cond2 h
    rcases h with ⟨hb, h⟩ | h
    · skip
      have hb0 := hb
      have hb0 := am_bq hb0
      subst hb0
      exact am_way_body (qvX2_find_3 v sta n F A K h)
    exact h.elim
  · exact h.elim)
def qkX2_findCurve : Nat → Option CI := fun pc => cond (Nat.ble 11 pc) none (cond (Nat.ble 3 pc) (cond (Nat.ble 7 pc) (cond (Nat.beq pc 7) (some (.invokevirtual 49, 10, [])) (cond (Nat.beq pc 10) (some (.ireturn, 11, [])) (none))) (cond (Nat.beq pc 3) (some (.aload_n 0, 4, [])) (cond (Nat.beq pc 4) (some (.invokevirtual 35, 7, [])) (none)))) (cond (Nat.beq pc 0) (some (.aload_n 0, 1, [])) (cond (Nat.beq pc 1) (some (.iload_n 1, 2, [])) (cond (Nat.beq pc 2) (some (.iconst 4, 3, [])) (none)))))
theorem qkX2_findCurve_ok : ∀ pc i nx ts, qkX2_findCurve pc = some (i, nx, ts) → am_cok cX2_findCurve pc (i, nx, ts) = true := fun pc i nx ts h => am_tok_ok (n := 11) (by decide +kernel) (fun pc h => by show cond (Nat.ble 11 pc) _ _ = _; rw [Nat.ble_eq_true_of_le h]; rfl) h
def qaX2_findCurve : Nat → Option CE := fun k => cond (Nat.beq k 35) (some qeX2_curves) (cond (Nat.beq k 49) (some qeX2_find) (none))
theorem qyX2_findCurve (l : Launch) : ∀ k e1, qaX2_findCurve k = some e1 → am_cal l layX RX2 5 k e1 ∧ ceT e1 = 0 := q_cons ⟨am_calV (ci := 2) (qtX2_curves l) qbX2_curves (by decide) rfl (am_tb_at 678 (by decide +kernel) rfl), rfl⟩ (q_cons ⟨am_calV (ci := 2) (qtX2_find l) qbX2_find (by decide) rfl (am_tb_at 679 (by decide +kernel) rfl), rfl⟩ (q_nil))
def qxX2_findCurve : CX := (qkX2_findCurve, layX, qfX2, qaX2_findCurve, qcX2, qlX2, qmX2, (some .int), false, none, 0, none, fun _ => none)
theorem qzX2_findCurve (l : Launch) : am_sta l qxX2_findCurve RX2 5 cX2_findCurve := ⟨qkX2_findCurve_ok, layX_ok, qfX2_ok, qcX2_ok, qlX2_ok, am_mthP qmX2_ok (by decide), fun k e1 h => (qyX2_findCurve l k e1 h).1⟩
def qsX2_findCurve : SP := fun as F A K => match as with
  | [.inr (.inr o), .inl v] => cond (Nat.beq o 1) ((0 ≤ fat (A 2) 0 ∧ fat (A 2) 0 ≤ 1000) ∧ (K (some (some (vI (firstk (fun k => decide (w32 (fat (A 2) (4 + k)) = w32 v)) (fat (A 2) 0).toNat)))) F A)) (cond (Nat.beq o 3) ((0 ≤ fat (A 4) 0 ∧ fat (A 4) 0 ≤ 1000) ∧ (K (some (some (vI (firstk (fun k => decide (w32 (fat (A 4) (4 + k)) = w32 v)) (fat (A 4) 0).toNat)))) F A)) (False))
  | _ => False
def qeX2_findCurve : CE := (yX2_findCurve, cX2_findCurve, 2, (some .int), 1, some 2, 0, none, 0, 5, qsX2_findCurve)
theorem qbX2_findCurve : am_mb qeX2_findCurve := ⟨am_tb_at 677 (by decide +kernel) rfl, am_tb_at 36 (by decide +kernel) rfl, ⟨by decide, by decide, by decide +kernel⟩, by decide, am_tb_at 675 (by decide +kernel) rfl, am_tb_at 676 (by decide +kernel) rfl, _, _, rfl⟩
theorem qvX2_findCurve_1 (v : Int) (F : FF) (A : AA) (K : KK) (h : (0 ≤ fat (A 2) 0 ∧ fat (A 2) 0 ≤ 1000) ∧ (K (some (some (vI (firstk (fun k => decide (w32 (fat (A 2) (4 + k)) = w32 v)) (fat (A 2) 0).toNat)))) F A)) : am_line qxX2_findCurve 8 [vR 1, vI v] 2 F A K := by
  show am_stp qxX2_findCurve (am_run qxX2_findCurve (fun _ => none) (fun _ _ _ _ _ _ => False) K 8) K 0 [some (vR 1), some (vI v)] [] F A 0
  show (0 ≤ (fat (A 2) 0) ∧ (fat (A 2) 0) ≤ 1000) ∧ (K (some (some (vI (firstk (fun k => decide (w32 (fat (A 2) (4 + k)) = w32 v)) (fat (A 2) 0).toNat)))) F A)
  exact h
theorem qvX2_findCurve_3 (v : Int) (F : FF) (A : AA) (K : KK) (h : (0 ≤ fat (A 4) 0 ∧ fat (A 4) 0 ≤ 1000) ∧ (K (some (some (vI (firstk (fun k => decide (w32 (fat (A 4) (4 + k)) = w32 v)) (fat (A 4) 0).toNat)))) F A)) : am_line qxX2_findCurve 8 [vR 3, vI v] 2 F A K := by
  show am_stp qxX2_findCurve (am_run qxX2_findCurve (fun _ => none) (fun _ _ _ _ _ _ => False) K 8) K 0 [some (vR 3), some (vI v)] [] F A 0
  show (0 ≤ (fat (A 4) 0) ∧ (fat (A 4) 0) ≤ 1000) ∧ (K (some (some (vI (firstk (fun k => decide (w32 (fat (A 4) (4 + k)) = w32 v)) (fat (A 4) 0).toNat)))) F A)
  exact h
theorem qtX2_findCurve (l : Launch) : am_CT l layX qeX2_findCurve := am_met0 rfl (by decide +kernel) rfl rfl rfl rfl rfl (fun _ => rfl) rfl (qzX2_findCurve l) (fun k e1 h => (qyX2_findCurve l k e1 h).2) (fun as F A K h => by
  replace h : qsX2_findCurve as F A K := h
  unfold qsX2_findCurve at h
  split at h
  · rename_i o v
    refine ⟨by first | exact Nat.le_of_ble_eq_true rfl | simp [am_fl, am_cat], ?_⟩
    replace h := am_cond2 h
    rcases h with ⟨hb, h⟩ | h
    · skip
      have hb0 := hb
      have hb0 := am_bq hb0
      subst hb0
      exact am_way_line (qvX2_findCurve_1 v F A K h)
    replace h := am_cond2 h
    rcases h with ⟨hb, h⟩ | h
    · skip
      have hb0 := hb
      have hb0 := am_bq hb0
      subst hb0
      exact am_way_line (qvX2_findCurve_3 v F A K h)
    exact h.elim
  · exact h.elim)
def qkX2_findLine : Nat → Option CI := fun pc => cond (Nat.ble 12 pc) none (cond (Nat.ble 4 pc) (cond (Nat.ble 8 pc) (cond (Nat.beq pc 8) (some (.invokevirtual 49, 11, [])) (cond (Nat.beq pc 11) (some (.ireturn, 12, [])) (none))) (cond (Nat.beq pc 4) (some (.aload_n 0, 5, [])) (cond (Nat.beq pc 5) (some (.invokevirtual 39, 8, [])) (none)))) (cond (Nat.beq pc 0) (some (.aload_n 0, 1, [])) (cond (Nat.beq pc 1) (some (.iload_n 1, 2, [])) (cond (Nat.beq pc 2) (some (.bipush 12, 4, [])) (none)))))
theorem qkX2_findLine_ok : ∀ pc i nx ts, qkX2_findLine pc = some (i, nx, ts) → am_cok cX2_findLine pc (i, nx, ts) = true := fun pc i nx ts h => am_tok_ok (n := 12) (by decide +kernel) (fun pc h => by show cond (Nat.ble 12 pc) _ _ = _; rw [Nat.ble_eq_true_of_le h]; rfl) h
def qaX2_findLine : Nat → Option CE := fun k => cond (Nat.beq k 39) (some qeX2_lines) (cond (Nat.beq k 49) (some qeX2_find) (none))
theorem qyX2_findLine (l : Launch) : ∀ k e1, qaX2_findLine k = some e1 → am_cal l layX RX2 5 k e1 ∧ ceT e1 = 0 := q_cons ⟨am_calV (ci := 2) (qtX2_lines l) qbX2_lines (by decide) rfl (am_tb_at 687 (by decide +kernel) rfl), rfl⟩ (q_cons ⟨am_calV (ci := 2) (qtX2_find l) qbX2_find (by decide) rfl (am_tb_at 679 (by decide +kernel) rfl), rfl⟩ (q_nil))
def qxX2_findLine : CX := (qkX2_findLine, layX, qfX2, qaX2_findLine, qcX2, qlX2, qmX2, (some .int), false, none, 0, none, fun _ => none)
theorem qzX2_findLine (l : Launch) : am_sta l qxX2_findLine RX2 5 cX2_findLine := ⟨qkX2_findLine_ok, layX_ok, qfX2_ok, qcX2_ok, qlX2_ok, am_mthP qmX2_ok (by decide), fun k e1 h => (qyX2_findLine l k e1 h).1⟩
def qsX2_findLine : SP := fun as F A K => match as with
  | [.inr (.inr o), .inl v] => cond (Nat.beq o 1) ((0 ≤ fat (A 2) 1 ∧ fat (A 2) 1 ≤ 1000) ∧ (K (some (some (vI (firstk (fun k => decide (w32 (fat (A 2) (12 + k)) = w32 v)) (fat (A 2) 1).toNat)))) F A)) (cond (Nat.beq o 3) ((0 ≤ fat (A 4) 1 ∧ fat (A 4) 1 ≤ 1000) ∧ (K (some (some (vI (firstk (fun k => decide (w32 (fat (A 4) (12 + k)) = w32 v)) (fat (A 4) 1).toNat)))) F A)) (False))
  | _ => False
def qeX2_findLine : CE := (yX2_findLine, cX2_findLine, 2, (some .int), 1, some 2, 0, none, 0, 5, qsX2_findLine)
theorem qbX2_findLine : am_mb qeX2_findLine := ⟨am_tb_at 686 (by decide +kernel) rfl, am_tb_at 36 (by decide +kernel) rfl, ⟨by decide, by decide, by decide +kernel⟩, by decide, am_tb_at 684 (by decide +kernel) rfl, am_tb_at 685 (by decide +kernel) rfl, _, _, rfl⟩
theorem qvX2_findLine_1 (v : Int) (F : FF) (A : AA) (K : KK) (h : (0 ≤ fat (A 2) 1 ∧ fat (A 2) 1 ≤ 1000) ∧ (K (some (some (vI (firstk (fun k => decide (w32 (fat (A 2) (12 + k)) = w32 v)) (fat (A 2) 1).toNat)))) F A)) : am_line qxX2_findLine 8 [vR 1, vI v] 2 F A K := by
  show am_stp qxX2_findLine (am_run qxX2_findLine (fun _ => none) (fun _ _ _ _ _ _ => False) K 8) K 0 [some (vR 1), some (vI v)] [] F A 0
  show (0 ≤ (fat (A 2) 1) ∧ (fat (A 2) 1) ≤ 1000) ∧ (K (some (some (vI (firstk (fun k => decide (w32 (fat (A 2) (12 + k)) = w32 v)) (fat (A 2) 1).toNat)))) F A)
  exact h
theorem qvX2_findLine_3 (v : Int) (F : FF) (A : AA) (K : KK) (h : (0 ≤ fat (A 4) 1 ∧ fat (A 4) 1 ≤ 1000) ∧ (K (some (some (vI (firstk (fun k => decide (w32 (fat (A 4) (12 + k)) = w32 v)) (fat (A 4) 1).toNat)))) F A)) : am_line qxX2_findLine 8 [vR 3, vI v] 2 F A K := by
  show am_stp qxX2_findLine (am_run qxX2_findLine (fun _ => none) (fun _ _ _ _ _ _ => False) K 8) K 0 [some (vR 3), some (vI v)] [] F A 0
  show (0 ≤ (fat (A 4) 1) ∧ (fat (A 4) 1) ≤ 1000) ∧ (K (some (some (vI (firstk (fun k => decide (w32 (fat (A 4) (12 + k)) = w32 v)) (fat (A 4) 1).toNat)))) F A)
  exact h
theorem qtX2_findLine (l : Launch) : am_CT l layX qeX2_findLine := am_met0 rfl (by decide +kernel) rfl rfl rfl rfl rfl (fun _ => rfl) rfl (qzX2_findLine l) (fun k e1 h => (qyX2_findLine l k e1 h).2) (fun as F A K h => by
  replace h : qsX2_findLine as F A K := h
  unfold qsX2_findLine at h
  split at h
  · rename_i o v
    refine ⟨by first | exact Nat.le_of_ble_eq_true rfl | simp [am_fl, am_cat], ?_⟩
    replace h := am_cond2 h
    rcases h with ⟨hb, h⟩ | h
    · skip
      have hb0 := hb
      have hb0 := am_bq hb0
      subst hb0
      exact am_way_line (qvX2_findLine_1 v F A K h)
    replace h := am_cond2 h
    rcases h with ⟨hb, h⟩ | h
    · skip
      have hb0 := hb
      have hb0 := am_bq hb0
      subst hb0
      exact am_way_line (qvX2_findLine_3 v F A K h)
    exact h.elim
  · exact h.elim)
def qkX2_setting : Nat → Option CI := fun pc => cond (Nat.ble 8 pc) none (cond (Nat.ble 3 pc) (cond (Nat.beq pc 3) (some (.iadd, 4, [])) (cond (Nat.beq pc 4) (some (.invokevirtual 31, 7, [])) (cond (Nat.beq pc 7) (some (.ireturn, 8, [])) (none)))) (cond (Nat.beq pc 0) (some (.aload_n 0, 1, [])) (cond (Nat.beq pc 1) (some (.iconst 2, 2, [])) (cond (Nat.beq pc 2) (some (.iload_n 1, 3, [])) (none)))))
theorem qkX2_setting_ok : ∀ pc i nx ts, qkX2_setting pc = some (i, nx, ts) → am_cok cX2_setting pc (i, nx, ts) = true := fun pc i nx ts h => am_tok_ok (n := 8) (by decide +kernel) (fun pc h => by show cond (Nat.ble 8 pc) _ _ = _; rw [Nat.ble_eq_true_of_le h]; rfl) h
def qaX2_setting : Nat → Option CE := fun k => cond (Nat.beq k 31) (some qeX2_at) (none)
theorem qyX2_setting (l : Launch) : ∀ k e1, qaX2_setting k = some e1 → am_cal l layX RX2 4 k e1 ∧ ceT e1 = 0 := q_cons ⟨am_calV (ci := 2) (qtX2_at l) qbX2_at (by decide) rfl (am_tb_at 659 (by decide +kernel) rfl), rfl⟩ (q_nil)
def qxX2_setting : CX := (qkX2_setting, layX, qfX2, qaX2_setting, qcX2, qlX2, qmX2, (some .int), false, none, 0, none, fun _ => none)
theorem qzX2_setting (l : Launch) : am_sta l qxX2_setting RX2 4 cX2_setting := ⟨qkX2_setting_ok, layX_ok, qfX2_ok, qcX2_ok, qlX2_ok, am_mthP qmX2_ok (by decide), fun k e1 h => (qyX2_setting l k e1 h).1⟩
def qsX2_setting : SP := fun as F A K => match as with
  | [.inr (.inr o), .inl s] => cond (Nat.beq o 1) (K (some (some (vI (fat (A 2) (2 + s))))) F A) (cond (Nat.beq o 3) (K (some (some (vI (fat (A 4) (2 + s))))) F A) (False))
  | _ => False
def qeX2_setting : CE := (yX2_setting, cX2_setting, 2, (some .int), 1, some 2, 0, none, 0, 4, qsX2_setting)
theorem qbX2_setting : am_mb qeX2_setting := ⟨am_tb_at 979 (by decide +kernel) rfl, am_tb_at 36 (by decide +kernel) rfl, ⟨by decide, by decide, by decide +kernel⟩, by decide, am_tb_at 977 (by decide +kernel) rfl, am_tb_at 978 (by decide +kernel) rfl, _, _, rfl⟩
theorem qvX2_setting_1 (s : Int) (F : FF) (A : AA) (K : KK) (h : K (some (some (vI (fat (A 2) (2 + s))))) F A) : am_line qxX2_setting 7 [vR 1, vI s] 2 F A K := by
  show am_stp qxX2_setting (am_run qxX2_setting (fun _ => none) (fun _ _ _ _ _ _ => False) K 7) K 0 [some (vR 1), some (vI s)] [] F A 0
  show K (some (some (vI (fat (A 2) (2 + s))))) F A
  exact h
theorem qvX2_setting_3 (s : Int) (F : FF) (A : AA) (K : KK) (h : K (some (some (vI (fat (A 4) (2 + s))))) F A) : am_line qxX2_setting 7 [vR 3, vI s] 2 F A K := by
  show am_stp qxX2_setting (am_run qxX2_setting (fun _ => none) (fun _ _ _ _ _ _ => False) K 7) K 0 [some (vR 3), some (vI s)] [] F A 0
  show K (some (some (vI (fat (A 4) (2 + s))))) F A
  exact h
theorem qtX2_setting (l : Launch) : am_CT l layX qeX2_setting := am_met0 rfl (by decide +kernel) rfl rfl rfl rfl rfl (fun _ => rfl) rfl (qzX2_setting l) (fun k e1 h => (qyX2_setting l k e1 h).2) (fun as F A K h => by
  replace h : qsX2_setting as F A K := h
  unfold qsX2_setting at h
  split at h
  · rename_i o s
    refine ⟨by first | exact Nat.le_of_ble_eq_true rfl | simp [am_fl, am_cat], ?_⟩
    replace h := am_cond2 h
    rcases h with ⟨hb, h⟩ | h
    · skip
      have hb0 := hb
      have hb0 := am_bq hb0
      subst hb0
      exact am_way_line (qvX2_setting_1 s F A K h)
    replace h := am_cond2 h
    rcases h with ⟨hb, h⟩ | h
    · skip
      have hb0 := hb
      have hb0 := am_bq hb0
      subst hb0
      exact am_way_line (qvX2_setting_3 s F A K h)
    exact h.elim
  · exact h.elim)
def qkX2_putSetting : Nat → Option CI := fun pc => cond (Nat.ble 9 pc) none (cond (Nat.ble 3 pc) (cond (Nat.ble 5 pc) (cond (Nat.beq pc 5) (some (.invokevirtual 21, 8, [])) (cond (Nat.beq pc 8) (some (.return_, 9, [])) (none))) (cond (Nat.beq pc 3) (some (.iadd, 4, [])) (cond (Nat.beq pc 4) (some (.iload_n 2, 5, [])) (none)))) (cond (Nat.beq pc 0) (some (.aload_n 0, 1, [])) (cond (Nat.beq pc 1) (some (.iconst 2, 2, [])) (cond (Nat.beq pc 2) (some (.iload_n 1, 3, [])) (none)))))
theorem qkX2_putSetting_ok : ∀ pc i nx ts, qkX2_putSetting pc = some (i, nx, ts) → am_cok cX2_putSetting pc (i, nx, ts) = true := fun pc i nx ts h => am_tok_ok (n := 9) (by decide +kernel) (fun pc h => by show cond (Nat.ble 9 pc) _ _ = _; rw [Nat.ble_eq_true_of_le h]; rfl) h
def qaX2_putSetting : Nat → Option CE := fun k => cond (Nat.beq k 21) (some qeX2_put) (none)
theorem qyX2_putSetting (l : Launch) : ∀ k e1, qaX2_putSetting k = some e1 → am_cal l layX RX2 4 k e1 ∧ ceT e1 = 0 := q_cons ⟨am_calV (ci := 2) (qtX2_put l) qbX2_put (by decide) rfl (am_tb_at 250 (by decide +kernel) rfl), rfl⟩ (q_nil)
def qxX2_putSetting : CX := (qkX2_putSetting, layX, qfX2, qaX2_putSetting, qcX2, qlX2, qmX2, none, false, none, 0, none, fun _ => none)
theorem qzX2_putSetting (l : Launch) : am_sta l qxX2_putSetting RX2 4 cX2_putSetting := ⟨qkX2_putSetting_ok, layX_ok, qfX2_ok, qcX2_ok, qlX2_ok, am_mthP qmX2_ok (by decide), fun k e1 h => (qyX2_putSetting l k e1 h).1⟩
def qsX2_putSetting : SP := fun as F A K => match as with
  | [.inr (.inr o), .inl s, .inl v] => cond (Nat.beq o 1) (K (some none) F (fput A 2 (2 + s) v)) (cond (Nat.beq o 3) (K (some none) F (fput A 4 (2 + s) v)) (False))
  | _ => False
def qeX2_putSetting : CE := (yX2_putSetting, cX2_putSetting, 3, none, 2, some 2, 0, none, 0, 4, qsX2_putSetting)
theorem qbX2_putSetting : am_mb qeX2_putSetting := ⟨am_tb_at 744 (by decide +kernel) rfl, am_tb_at 36 (by decide +kernel) rfl, ⟨by decide, by decide, by decide +kernel⟩, by decide, am_tb_at 742 (by decide +kernel) rfl, am_tb_at 743 (by decide +kernel) rfl, _, _, rfl⟩
theorem qvX2_putSetting_1 (s : Int) (v : Int) (F : FF) (A : AA) (K : KK) (h : K (some none) F (fput A 2 (2 + s) v)) : am_line qxX2_putSetting 8 [vR 1, vI s, vI v] 3 F A K := by
  show am_stp qxX2_putSetting (am_run qxX2_putSetting (fun _ => none) (fun _ _ _ _ _ _ => False) K 8) K 0 [some (vR 1), some (vI s), some (vI v)] [] F A 0
  show K (some none) F (fput A 2 (2 + s) v)
  exact h
theorem qvX2_putSetting_3 (s : Int) (v : Int) (F : FF) (A : AA) (K : KK) (h : K (some none) F (fput A 4 (2 + s) v)) : am_line qxX2_putSetting 8 [vR 3, vI s, vI v] 3 F A K := by
  show am_stp qxX2_putSetting (am_run qxX2_putSetting (fun _ => none) (fun _ _ _ _ _ _ => False) K 8) K 0 [some (vR 3), some (vI s), some (vI v)] [] F A 0
  show K (some none) F (fput A 4 (2 + s) v)
  exact h
theorem qtX2_putSetting (l : Launch) : am_CT l layX qeX2_putSetting := am_met0 rfl (by decide +kernel) rfl rfl rfl rfl rfl (fun _ => rfl) rfl (qzX2_putSetting l) (fun k e1 h => (qyX2_putSetting l k e1 h).2) (fun as F A K h => by
  replace h : qsX2_putSetting as F A K := h
  unfold qsX2_putSetting at h
  split at h
  · rename_i o s v
    refine ⟨by first | exact Nat.le_of_ble_eq_true rfl | simp [am_fl, am_cat], ?_⟩
    replace h := am_cond2 h
    rcases h with ⟨hb, h⟩ | h
    · skip
      have hb0 := hb
      have hb0 := am_bq hb0
      subst hb0
      exact am_way_line (qvX2_putSetting_1 s v F A K h)
    replace h := am_cond2 h
    rcases h with ⟨hb, h⟩ | h
    · skip
      have hb0 := hb
      have hb0 := am_bq hb0
      subst hb0
      exact am_way_line (qvX2_putSetting_3 s v F A K h)
    exact h.elim
  · exact h.elim)
def qkX2_putSize : Nat → Option CI := fun pc => cond (Nat.ble 10 pc) none (cond (Nat.ble 4 pc) (cond (Nat.ble 6 pc) (cond (Nat.beq pc 6) (some (.invokevirtual 21, 9, [])) (cond (Nat.beq pc 9) (some (.return_, 10, [])) (none))) (cond (Nat.beq pc 4) (some (.iadd, 5, [])) (cond (Nat.beq pc 5) (some (.iload_n 2, 6, [])) (none)))) (cond (Nat.beq pc 0) (some (.aload_n 0, 1, [])) (cond (Nat.beq pc 1) (some (.bipush 18, 3, [])) (cond (Nat.beq pc 3) (some (.iload_n 1, 4, [])) (none)))))
theorem qkX2_putSize_ok : ∀ pc i nx ts, qkX2_putSize pc = some (i, nx, ts) → am_cok cX2_putSize pc (i, nx, ts) = true := fun pc i nx ts h => am_tok_ok (n := 10) (by decide +kernel) (fun pc h => by show cond (Nat.ble 10 pc) _ _ = _; rw [Nat.ble_eq_true_of_le h]; rfl) h
def qaX2_putSize : Nat → Option CE := fun k => cond (Nat.beq k 21) (some qeX2_put) (none)
theorem qyX2_putSize (l : Launch) : ∀ k e1, qaX2_putSize k = some e1 → am_cal l layX RX2 4 k e1 ∧ ceT e1 = 0 := q_cons ⟨am_calV (ci := 2) (qtX2_put l) qbX2_put (by decide) rfl (am_tb_at 250 (by decide +kernel) rfl), rfl⟩ (q_nil)
def qxX2_putSize : CX := (qkX2_putSize, layX, qfX2, qaX2_putSize, qcX2, qlX2, qmX2, none, false, none, 0, none, fun _ => none)
theorem qzX2_putSize (l : Launch) : am_sta l qxX2_putSize RX2 4 cX2_putSize := ⟨qkX2_putSize_ok, layX_ok, qfX2_ok, qcX2_ok, qlX2_ok, am_mthP qmX2_ok (by decide), fun k e1 h => (qyX2_putSize l k e1 h).1⟩
def qsX2_putSize : SP := fun as F A K => match as with
  | [.inr (.inr o), .inl c, .inl v] => cond (Nat.beq o 1) (K (some none) F (fput A 2 (18 + c) v)) (cond (Nat.beq o 3) (K (some none) F (fput A 4 (18 + c) v)) (False))
  | _ => False
def qeX2_putSize : CE := (yX2_putSize, cX2_putSize, 3, none, 2, some 2, 0, none, 0, 4, qsX2_putSize)
theorem qbX2_putSize : am_mb qeX2_putSize := ⟨am_tb_at 716 (by decide +kernel) rfl, am_tb_at 36 (by decide +kernel) rfl, ⟨by decide, by decide, by decide +kernel⟩, by decide, am_tb_at 714 (by decide +kernel) rfl, am_tb_at 715 (by decide +kernel) rfl, _, _, rfl⟩
theorem qvX2_putSize_1 (c : Int) (v : Int) (F : FF) (A : AA) (K : KK) (h : K (some none) F (fput A 2 (18 + c) v)) : am_line qxX2_putSize 8 [vR 1, vI c, vI v] 3 F A K := by
  show am_stp qxX2_putSize (am_run qxX2_putSize (fun _ => none) (fun _ _ _ _ _ _ => False) K 8) K 0 [some (vR 1), some (vI c), some (vI v)] [] F A 0
  show K (some none) F (fput A 2 (18 + c) v)
  exact h
theorem qvX2_putSize_3 (c : Int) (v : Int) (F : FF) (A : AA) (K : KK) (h : K (some none) F (fput A 4 (18 + c) v)) : am_line qxX2_putSize 8 [vR 3, vI c, vI v] 3 F A K := by
  show am_stp qxX2_putSize (am_run qxX2_putSize (fun _ => none) (fun _ _ _ _ _ _ => False) K 8) K 0 [some (vR 3), some (vI c), some (vI v)] [] F A 0
  show K (some none) F (fput A 4 (18 + c) v)
  exact h
theorem qtX2_putSize (l : Launch) : am_CT l layX qeX2_putSize := am_met0 rfl (by decide +kernel) rfl rfl rfl rfl rfl (fun _ => rfl) rfl (qzX2_putSize l) (fun k e1 h => (qyX2_putSize l k e1 h).2) (fun as F A K h => by
  replace h : qsX2_putSize as F A K := h
  unfold qsX2_putSize at h
  split at h
  · rename_i o c v
    refine ⟨by first | exact Nat.le_of_ble_eq_true rfl | simp [am_fl, am_cat], ?_⟩
    replace h := am_cond2 h
    rcases h with ⟨hb, h⟩ | h
    · skip
      have hb0 := hb
      have hb0 := am_bq hb0
      subst hb0
      exact am_way_line (qvX2_putSize_1 c v F A K h)
    replace h := am_cond2 h
    rcases h with ⟨hb, h⟩ | h
    · skip
      have hb0 := hb
      have hb0 := am_bq hb0
      subst hb0
      exact am_way_line (qvX2_putSize_3 c v F A K h)
    exact h.elim
  · exact h.elim)
def qkX2_top : Nat → Option CI := fun pc => cond (Nat.ble 8 pc) none (cond (Nat.ble 5 pc) (cond (Nat.beq pc 5) (some (.iconst 1, 6, [])) (cond (Nat.beq pc 6) (some (.isub, 7, [])) (cond (Nat.beq pc 7) (some (.ireturn, 8, [])) (none)))) (cond (Nat.beq pc 0) (some (.aload_n 0, 1, [])) (cond (Nat.beq pc 1) (some (.iload_n 1, 2, [])) (cond (Nat.beq pc 2) (some (.invokevirtual 46, 5, [])) (none)))))
theorem qkX2_top_ok : ∀ pc i nx ts, qkX2_top pc = some (i, nx, ts) → am_cok cX2_top pc (i, nx, ts) = true := fun pc i nx ts h => am_tok_ok (n := 8) (by decide +kernel) (fun pc h => by show cond (Nat.ble 8 pc) _ _ = _; rw [Nat.ble_eq_true_of_le h]; rfl) h
def qaX2_top : Nat → Option CE := fun k => cond (Nat.beq k 46) (some qeX2_size) (none)
theorem qyX2_top (l : Launch) : ∀ k e1, qaX2_top k = some e1 → am_cal l layX RX2 5 k e1 ∧ ceT e1 = 0 := q_cons ⟨am_calV (ci := 2) (qtX2_size l) qbX2_size (by decide) rfl (am_tb_at 854 (by decide +kernel) rfl), rfl⟩ (q_nil)
def qxX2_top : CX := (qkX2_top, layX, qfX2, qaX2_top, qcX2, qlX2, qmX2, (some .int), false, none, 0, none, fun _ => none)
theorem qzX2_top (l : Launch) : am_sta l qxX2_top RX2 5 cX2_top := ⟨qkX2_top_ok, layX_ok, qfX2_ok, qcX2_ok, qlX2_ok, am_mthP qmX2_ok (by decide), fun k e1 h => (qyX2_top l k e1 h).1⟩
def qsX2_top : SP := fun as F A K => match as with
  | [.inr (.inr o), .inl c] => cond (Nat.beq o 1) (K (some (some (vI (fat (A 2) (18 + c) - 1)))) F A) (cond (Nat.beq o 3) (K (some (some (vI (fat (A 4) (18 + c) - 1)))) F A) (False))
  | _ => False
def qeX2_top : CE := (yX2_top, cX2_top, 2, (some .int), 1, some 2, 0, none, 0, 5, qsX2_top)
theorem qbX2_top : am_mb qeX2_top := ⟨am_tb_at 853 (by decide +kernel) rfl, am_tb_at 36 (by decide +kernel) rfl, ⟨by decide, by decide, by decide +kernel⟩, by decide, am_tb_at 851 (by decide +kernel) rfl, am_tb_at 852 (by decide +kernel) rfl, _, _, rfl⟩
theorem qvX2_top_1 (c : Int) (F : FF) (A : AA) (K : KK) (h : K (some (some (vI (fat (A 2) (18 + c) - 1)))) F A) : am_line qxX2_top 7 [vR 1, vI c] 2 F A K := by
  show am_stp qxX2_top (am_run qxX2_top (fun _ => none) (fun _ _ _ _ _ _ => False) K 7) K 0 [some (vR 1), some (vI c)] [] F A 0
  show K (some (some (vI ((fat (A 2) (18 + c)) - 1)))) F A
  exact h
theorem qvX2_top_3 (c : Int) (F : FF) (A : AA) (K : KK) (h : K (some (some (vI (fat (A 4) (18 + c) - 1)))) F A) : am_line qxX2_top 7 [vR 3, vI c] 2 F A K := by
  show am_stp qxX2_top (am_run qxX2_top (fun _ => none) (fun _ _ _ _ _ _ => False) K 7) K 0 [some (vR 3), some (vI c)] [] F A 0
  show K (some (some (vI ((fat (A 4) (18 + c)) - 1)))) F A
  exact h
theorem qtX2_top (l : Launch) : am_CT l layX qeX2_top := am_met0 rfl (by decide +kernel) rfl rfl rfl rfl rfl (fun _ => rfl) rfl (qzX2_top l) (fun k e1 h => (qyX2_top l k e1 h).2) (fun as F A K h => by
  replace h : qsX2_top as F A K := h
  unfold qsX2_top at h
  split at h
  · rename_i o c
    refine ⟨by first | exact Nat.le_of_ble_eq_true rfl | simp [am_fl, am_cat], ?_⟩
    replace h := am_cond2 h
    rcases h with ⟨hb, h⟩ | h
    · skip
      have hb0 := hb
      have hb0 := am_bq hb0
      subst hb0
      exact am_way_line (qvX2_top_1 c F A K h)
    replace h := am_cond2 h
    rcases h with ⟨hb, h⟩ | h
    · skip
      have hb0 := hb
      have hb0 := am_bq hb0
      subst hb0
      exact am_way_line (qvX2_top_3 c F A K h)
    exact h.elim
  · exact h.elim)
def qkX2_pointStart : Nat → Option CI := fun pc => cond (Nat.ble 11 pc) none (cond (Nat.ble 6 pc) (cond (Nat.ble 8 pc) (cond (Nat.beq pc 8) (some (.imul, 9, [])) (cond (Nat.beq pc 9) (some (.iadd, 10, [])) (cond (Nat.beq pc 10) (some (.ireturn, 11, [])) (none)))) (cond (Nat.beq pc 6) (some (.iadd, 7, [])) (cond (Nat.beq pc 7) (some (.iconst 3, 8, [])) (none)))) (cond (Nat.ble 3 pc) (cond (Nat.beq pc 3) (some (.iconst 4, 4, [])) (cond (Nat.beq pc 4) (some (.imul, 5, [])) (cond (Nat.beq pc 5) (some (.iload_n 1, 6, [])) (none)))) (cond (Nat.beq pc 0) (some (.bipush 26, 2, [])) (cond (Nat.beq pc 2) (some (.iload_n 0, 3, [])) (none)))))
theorem qkX2_pointStart_ok : ∀ pc i nx ts, qkX2_pointStart pc = some (i, nx, ts) → am_cok cX2_pointStart pc (i, nx, ts) = true := fun pc i nx ts h => am_tok_ok (n := 11) (by decide +kernel) (fun pc h => by show cond (Nat.ble 11 pc) _ _ = _; rw [Nat.ble_eq_true_of_le h]; rfl) h
def qaX2_pointStart : Nat → Option CE := fun k => none
theorem qyX2_pointStart (l : Launch) : ∀ k e1, qaX2_pointStart k = some e1 → am_cal l layX RX2 3 k e1 ∧ ceT e1 = 0 := q_nil
def qxX2_pointStart : CX := (qkX2_pointStart, layX, qfX2, qaX2_pointStart, qcX2, qlX2, qmX2, (some .int), false, none, 0, none, fun _ => none)
theorem qzX2_pointStart (l : Launch) : am_sta l qxX2_pointStart RX2 3 cX2_pointStart := ⟨qkX2_pointStart_ok, layX_ok, qfX2_ok, qcX2_ok, qlX2_ok, am_mthP qmX2_ok (by decide), fun k e1 h => (qyX2_pointStart l k e1 h).1⟩
def qsX2_pointStart : SP := fun as F A K => match as with
  | [.inl c, .inl k] => K (some (some (vI (26 + (c * 4 + k) * 3)))) F A
  | _ => False
def qeX2_pointStart : CE := (yX2_pointStart, cX2_pointStart, 2, (some .int), 2, none, 0, none, 0, 3, qsX2_pointStart)
theorem qbX2_pointStart : am_mb qeX2_pointStart := ⟨am_tb_at 712 (by decide +kernel) rfl, am_tb_at 36 (by decide +kernel) rfl, ⟨by decide, by decide, by decide +kernel⟩, by decide, am_tb_at 711 (by decide +kernel) rfl⟩
theorem qvX2_pointStart (c : Int) (k : Int) (F : FF) (A : AA) (K : KK) (h : K (some (some (vI (26 + (c * 4 + k) * 3)))) F A) : am_line qxX2_pointStart 11 [vI c, vI k] 2 F A K := by
  show am_stp qxX2_pointStart (am_run qxX2_pointStart (fun _ => none) (fun _ _ _ _ _ _ => False) K 11) K 0 [some (vI c), some (vI k)] [] F A 0
  show K (some (some (vI (26 + (((c * 4) + k) * 3))))) F A
  exact h
theorem qtX2_pointStart (l : Launch) : am_CT l layX qeX2_pointStart := am_met0 rfl (by decide +kernel) rfl rfl rfl rfl rfl (fun _ => rfl) rfl (qzX2_pointStart l) (fun k e1 h => (qyX2_pointStart l k e1 h).2) (fun as F A K h => by
  replace h : qsX2_pointStart as F A K := h
  unfold qsX2_pointStart at h
  split at h
  · rename_i c k
    refine ⟨by first | exact Nat.le_of_ble_eq_true rfl | simp [am_fl, am_cat], ?_⟩
    exact am_way_line (qvX2_pointStart c k F A K h)
  · exact h.elim)
def qkX2_point : Nat → Option CI := fun pc => cond (Nat.ble 12 pc) none (cond (Nat.ble 6 pc) (cond (Nat.ble 8 pc) (cond (Nat.beq pc 8) (some (.invokevirtual 31, 11, [])) (cond (Nat.beq pc 11) (some (.ireturn, 12, [])) (none))) (cond (Nat.beq pc 6) (some (.iload_n 3, 7, [])) (cond (Nat.beq pc 7) (some (.iadd, 8, [])) (none)))) (cond (Nat.ble 2 pc) (cond (Nat.beq pc 2) (some (.iload_n 2, 3, [])) (cond (Nat.beq pc 3) (some (.invokestatic 53, 6, [])) (none))) (cond (Nat.beq pc 0) (some (.aload_n 0, 1, [])) (cond (Nat.beq pc 1) (some (.iload_n 1, 2, [])) (none)))))
theorem qkX2_point_ok : ∀ pc i nx ts, qkX2_point pc = some (i, nx, ts) → am_cok cX2_point pc (i, nx, ts) = true := fun pc i nx ts h => am_tok_ok (n := 12) (by decide +kernel) (fun pc h => by show cond (Nat.ble 12 pc) _ _ = _; rw [Nat.ble_eq_true_of_le h]; rfl) h
def qaX2_point : Nat → Option CE := fun k => cond (Nat.beq k 53) (some qeX2_pointStart) (cond (Nat.beq k 31) (some qeX2_at) (none))
theorem qyX2_point (l : Launch) : ∀ k e1, qaX2_point k = some e1 → am_cal l layX RX2 4 k e1 ∧ ceT e1 = 0 := q_cons ⟨am_calS (qtX2_pointStart l) qbX2_pointStart (by decide) rfl (by decide) (am_tb_at 710 (by decide +kernel) rfl), rfl⟩ (q_cons ⟨am_calV (ci := 2) (qtX2_at l) qbX2_at (by decide) rfl (am_tb_at 659 (by decide +kernel) rfl), rfl⟩ (q_nil))
def qxX2_point : CX := (qkX2_point, layX, qfX2, qaX2_point, qcX2, qlX2, qmX2, (some .int), false, none, 0, none, fun _ => none)
theorem qzX2_point (l : Launch) : am_sta l qxX2_point RX2 4 cX2_point := ⟨qkX2_point_ok, layX_ok, qfX2_ok, qcX2_ok, qlX2_ok, am_mthP qmX2_ok (by decide), fun k e1 h => (qyX2_point l k e1 h).1⟩
def qsX2_point : SP := fun as F A K => match as with
  | [.inr (.inr o), .inl c, .inl k, .inl w] => cond (Nat.beq o 1) (K (some (some (vI (fat (A 2) (26 + (c * 4 + k) * 3 + w))))) F A) (cond (Nat.beq o 3) (K (some (some (vI (fat (A 4) (26 + (c * 4 + k) * 3 + w))))) F A) (False))
  | _ => False
def qeX2_point : CE := (yX2_point, cX2_point, 4, (some .int), 3, some 2, 0, none, 0, 4, qsX2_point)
theorem qbX2_point : am_mb qeX2_point := ⟨am_tb_at 879 (by decide +kernel) rfl, am_tb_at 36 (by decide +kernel) rfl, ⟨by decide, by decide, by decide +kernel⟩, by decide, am_tb_at 877 (by decide +kernel) rfl, am_tb_at 878 (by decide +kernel) rfl, _, _, rfl⟩
theorem qvX2_point_1 (c : Int) (k : Int) (w : Int) (F : FF) (A : AA) (K : KK) (h : K (some (some (vI (fat (A 2) (26 + (c * 4 + k) * 3 + w))))) F A) : am_line qxX2_point 9 [vR 1, vI c, vI k, vI w] 4 F A K := by
  show am_stp qxX2_point (am_run qxX2_point (fun _ => none) (fun _ _ _ _ _ _ => False) K 9) K 0 [some (vR 1), some (vI c), some (vI k), some (vI w)] [] F A 0
  show K (some (some (vI (fat (A 2) ((26 + (c * 4 + k) * 3) + w))))) F A
  exact h
theorem qvX2_point_3 (c : Int) (k : Int) (w : Int) (F : FF) (A : AA) (K : KK) (h : K (some (some (vI (fat (A 4) (26 + (c * 4 + k) * 3 + w))))) F A) : am_line qxX2_point 9 [vR 3, vI c, vI k, vI w] 4 F A K := by
  show am_stp qxX2_point (am_run qxX2_point (fun _ => none) (fun _ _ _ _ _ _ => False) K 9) K 0 [some (vR 3), some (vI c), some (vI k), some (vI w)] [] F A 0
  show K (some (some (vI (fat (A 4) ((26 + (c * 4 + k) * 3) + w))))) F A
  exact h
theorem qtX2_point (l : Launch) : am_CT l layX qeX2_point := am_met0 rfl (by decide +kernel) rfl rfl rfl rfl rfl (fun _ => rfl) rfl (qzX2_point l) (fun k e1 h => (qyX2_point l k e1 h).2) (fun as F A K h => by
  replace h : qsX2_point as F A K := h
  unfold qsX2_point at h
  split at h
  · rename_i o c k w
    refine ⟨by first | exact Nat.le_of_ble_eq_true rfl | simp [am_fl, am_cat], ?_⟩
    replace h := am_cond2 h
    rcases h with ⟨hb, h⟩ | h
    · skip
      have hb0 := hb
      have hb0 := am_bq hb0
      subst hb0
      exact am_way_line (qvX2_point_1 c k w F A K h)
    replace h := am_cond2 h
    rcases h with ⟨hb, h⟩ | h
    · skip
      have hb0 := hb
      have hb0 := am_bq hb0
      subst hb0
      exact am_way_line (qvX2_point_3 c k w F A K h)
    exact h.elim
  · exact h.elim)
def qkX2_putPointNumber : Nat → Option CI := fun pc => cond (Nat.ble 14 pc) none (cond (Nat.ble 6 pc) (cond (Nat.ble 8 pc) (cond (Nat.beq pc 8) (some (.iload 4, 10, [])) (cond (Nat.beq pc 10) (some (.invokevirtual 21, 13, [])) (cond (Nat.beq pc 13) (some (.return_, 14, [])) (none)))) (cond (Nat.beq pc 6) (some (.iload_n 3, 7, [])) (cond (Nat.beq pc 7) (some (.iadd, 8, [])) (none)))) (cond (Nat.ble 2 pc) (cond (Nat.beq pc 2) (some (.iload_n 2, 3, [])) (cond (Nat.beq pc 3) (some (.invokestatic 53, 6, [])) (none))) (cond (Nat.beq pc 0) (some (.aload_n 0, 1, [])) (cond (Nat.beq pc 1) (some (.iload_n 1, 2, [])) (none)))))
theorem qkX2_putPointNumber_ok : ∀ pc i nx ts, qkX2_putPointNumber pc = some (i, nx, ts) → am_cok cX2_putPointNumber pc (i, nx, ts) = true := fun pc i nx ts h => am_tok_ok (n := 14) (by decide +kernel) (fun pc h => by show cond (Nat.ble 14 pc) _ _ = _; rw [Nat.ble_eq_true_of_le h]; rfl) h
def qaX2_putPointNumber : Nat → Option CE := fun k => cond (Nat.beq k 53) (some qeX2_pointStart) (cond (Nat.beq k 21) (some qeX2_put) (none))
theorem qyX2_putPointNumber (l : Launch) : ∀ k e1, qaX2_putPointNumber k = some e1 → am_cal l layX RX2 4 k e1 ∧ ceT e1 = 0 := q_cons ⟨am_calS (qtX2_pointStart l) qbX2_pointStart (by decide) rfl (by decide) (am_tb_at 710 (by decide +kernel) rfl), rfl⟩ (q_cons ⟨am_calV (ci := 2) (qtX2_put l) qbX2_put (by decide) rfl (am_tb_at 250 (by decide +kernel) rfl), rfl⟩ (q_nil))
def qxX2_putPointNumber : CX := (qkX2_putPointNumber, layX, qfX2, qaX2_putPointNumber, qcX2, qlX2, qmX2, none, false, none, 0, none, fun _ => none)
theorem qzX2_putPointNumber (l : Launch) : am_sta l qxX2_putPointNumber RX2 4 cX2_putPointNumber := ⟨qkX2_putPointNumber_ok, layX_ok, qfX2_ok, qcX2_ok, qlX2_ok, am_mthP qmX2_ok (by decide), fun k e1 h => (qyX2_putPointNumber l k e1 h).1⟩
def qsX2_putPointNumber : SP := fun as F A K => match as with
  | [.inr (.inr o), .inl c, .inl k, .inl w, .inl v] => cond (Nat.beq o 1) (K (some none) F (fput A 2 (26 + (c * 4 + k) * 3 + w) v)) (cond (Nat.beq o 3) (K (some none) F (fput A 4 (26 + (c * 4 + k) * 3 + w) v)) (False))
  | _ => False
def qeX2_putPointNumber : CE := (yX2_putPointNumber, cX2_putPointNumber, 5, none, 4, some 2, 0, none, 0, 4, qsX2_putPointNumber)
theorem qbX2_putPointNumber : am_mb qeX2_putPointNumber := ⟨am_tb_at 709 (by decide +kernel) rfl, am_tb_at 36 (by decide +kernel) rfl, ⟨by decide, by decide, by decide +kernel⟩, by decide, am_tb_at 707 (by decide +kernel) rfl, am_tb_at 708 (by decide +kernel) rfl, _, _, rfl⟩
theorem qvX2_putPointNumber_1 (c : Int) (k : Int) (w : Int) (v : Int) (F : FF) (A : AA) (K : KK) (h : K (some none) F (fput A 2 (26 + (c * 4 + k) * 3 + w) v)) : am_line qxX2_putPointNumber 10 [vR 1, vI c, vI k, vI w, vI v] 5 F A K := by
  show am_stp qxX2_putPointNumber (am_run qxX2_putPointNumber (fun _ => none) (fun _ _ _ _ _ _ => False) K 10) K 0 [some (vR 1), some (vI c), some (vI k), some (vI w), some (vI v)] [] F A 0
  show K (some none) F (fput A 2 ((26 + (c * 4 + k) * 3) + w) v)
  exact h
theorem qvX2_putPointNumber_3 (c : Int) (k : Int) (w : Int) (v : Int) (F : FF) (A : AA) (K : KK) (h : K (some none) F (fput A 4 (26 + (c * 4 + k) * 3 + w) v)) : am_line qxX2_putPointNumber 10 [vR 3, vI c, vI k, vI w, vI v] 5 F A K := by
  show am_stp qxX2_putPointNumber (am_run qxX2_putPointNumber (fun _ => none) (fun _ _ _ _ _ _ => False) K 10) K 0 [some (vR 3), some (vI c), some (vI k), some (vI w), some (vI v)] [] F A 0
  show K (some none) F (fput A 4 ((26 + (c * 4 + k) * 3) + w) v)
  exact h
theorem qtX2_putPointNumber (l : Launch) : am_CT l layX qeX2_putPointNumber := am_met0 rfl (by decide +kernel) rfl rfl rfl rfl rfl (fun _ => rfl) rfl (qzX2_putPointNumber l) (fun k e1 h => (qyX2_putPointNumber l k e1 h).2) (fun as F A K h => by
  replace h : qsX2_putPointNumber as F A K := h
  unfold qsX2_putPointNumber at h
  split at h
  · rename_i o c k w v
    refine ⟨by first | exact Nat.le_of_ble_eq_true rfl | simp [am_fl, am_cat], ?_⟩
    replace h := am_cond2 h
    rcases h with ⟨hb, h⟩ | h
    · skip
      have hb0 := hb
      have hb0 := am_bq hb0
      subst hb0
      exact am_way_line (qvX2_putPointNumber_1 c k w v F A K h)
    replace h := am_cond2 h
    rcases h with ⟨hb, h⟩ | h
    · skip
      have hb0 := hb
      have hb0 := am_bq hb0
      subst hb0
      exact am_way_line (qvX2_putPointNumber_3 c k w v F A K h)
    exact h.elim
  · exact h.elim)
def qkX2_putPoint : Nat → Option CI := fun pc => cond (Nat.ble 27 pc) none (cond (Nat.ble 11 pc) (cond (Nat.ble 19 pc) (cond (Nat.ble 21 pc) (cond (Nat.beq pc 21) (some (.iload 5, 23, [])) (cond (Nat.beq pc 23) (some (.invokevirtual 57, 26, [])) (cond (Nat.beq pc 26) (some (.return_, 27, [])) (none)))) (cond (Nat.beq pc 19) (some (.iload_n 2, 20, [])) (cond (Nat.beq pc 20) (some (.iconst 2, 21, [])) (none)))) (cond (Nat.ble 14 pc) (cond (Nat.beq pc 14) (some (.invokevirtual 57, 17, [])) (cond (Nat.beq pc 17) (some (.aload_n 0, 18, [])) (cond (Nat.beq pc 18) (some (.iload_n 1, 19, [])) (none)))) (cond (Nat.beq pc 11) (some (.iconst 1, 12, [])) (cond (Nat.beq pc 12) (some (.iload 4, 14, [])) (none))))) (cond (Nat.ble 4 pc) (cond (Nat.ble 8 pc) (cond (Nat.beq pc 8) (some (.aload_n 0, 9, [])) (cond (Nat.beq pc 9) (some (.iload_n 1, 10, [])) (cond (Nat.beq pc 10) (some (.iload_n 2, 11, [])) (none)))) (cond (Nat.beq pc 4) (some (.iload_n 3, 5, [])) (cond (Nat.beq pc 5) (some (.invokevirtual 57, 8, [])) (none)))) (cond (Nat.ble 2 pc) (cond (Nat.beq pc 2) (some (.iload_n 2, 3, [])) (cond (Nat.beq pc 3) (some (.iconst 0, 4, [])) (none))) (cond (Nat.beq pc 0) (some (.aload_n 0, 1, [])) (cond (Nat.beq pc 1) (some (.iload_n 1, 2, [])) (none))))))
theorem qkX2_putPoint_ok : ∀ pc i nx ts, qkX2_putPoint pc = some (i, nx, ts) → am_cok cX2_putPoint pc (i, nx, ts) = true := fun pc i nx ts h => am_tok_ok (n := 27) (by decide +kernel) (fun pc h => by show cond (Nat.ble 27 pc) _ _ = _; rw [Nat.ble_eq_true_of_le h]; rfl) h
def qaX2_putPoint : Nat → Option CE := fun k => cond (Nat.beq k 57) (some qeX2_putPointNumber) (none)
theorem qyX2_putPoint (l : Launch) : ∀ k e1, qaX2_putPoint k = some e1 → am_cal l layX RX2 5 k e1 ∧ ceT e1 = 0 := q_cons ⟨am_calV (ci := 2) (qtX2_putPointNumber l) qbX2_putPointNumber (by decide) rfl (am_tb_at 895 (by decide +kernel) rfl), rfl⟩ (q_nil)
def qxX2_putPoint : CX := (qkX2_putPoint, layX, qfX2, qaX2_putPoint, qcX2, qlX2, qmX2, none, false, none, 0, none, fun _ => none)
theorem qzX2_putPoint (l : Launch) : am_sta l qxX2_putPoint RX2 5 cX2_putPoint := ⟨qkX2_putPoint_ok, layX_ok, qfX2_ok, qcX2_ok, qlX2_ok, am_mthP qmX2_ok (by decide), fun k e1 h => (qyX2_putPoint l k e1 h).1⟩
def qsX2_putPoint : SP := fun as F A K => match as with
  | [.inr (.inr o), .inl c, .inl k, .inl x, .inl y, .inl w] => cond (Nat.beq o 1) (K (some none) F (putP A 2 c k x y w)) (cond (Nat.beq o 3) (K (some none) F (putP A 4 c k x y w)) (False))
  | _ => False
def qeX2_putPoint : CE := (yX2_putPoint, cX2_putPoint, 6, none, 5, some 2, 0, none, 0, 5, qsX2_putPoint)
theorem qbX2_putPoint : am_mb qeX2_putPoint := ⟨am_tb_at 894 (by decide +kernel) rfl, am_tb_at 36 (by decide +kernel) rfl, ⟨by decide, by decide, by decide +kernel⟩, by decide, am_tb_at 892 (by decide +kernel) rfl, am_tb_at 893 (by decide +kernel) rfl, _, _, rfl⟩
theorem qvX2_putPoint_1 (c : Int) (k : Int) (x : Int) (y : Int) (w : Int) (F : FF) (A : AA) (K : KK) (h : K (some none) F (putP A 2 c k x y w)) : am_line qxX2_putPoint 20 [vR 1, vI c, vI k, vI x, vI y, vI w] 6 F A K := by
  show am_stp qxX2_putPoint (am_run qxX2_putPoint (fun _ => none) (fun _ _ _ _ _ _ => False) K 20) K 0 [some (vR 1), some (vI c), some (vI k), some (vI x), some (vI y), some (vI w)] [] F A 0
  show K (some none) F (fput (fput (fput A 2 (26 + (c * 4 + k) * 3 + 0) x) 2 (26 + (c * 4 + k) * 3 + 1) y) 2 (26 + (c * 4 + k) * 3 + 2) w)
  exact h
theorem qvX2_putPoint_3 (c : Int) (k : Int) (x : Int) (y : Int) (w : Int) (F : FF) (A : AA) (K : KK) (h : K (some none) F (putP A 4 c k x y w)) : am_line qxX2_putPoint 20 [vR 3, vI c, vI k, vI x, vI y, vI w] 6 F A K := by
  show am_stp qxX2_putPoint (am_run qxX2_putPoint (fun _ => none) (fun _ _ _ _ _ _ => False) K 20) K 0 [some (vR 3), some (vI c), some (vI k), some (vI x), some (vI y), some (vI w)] [] F A 0
  show K (some none) F (fput (fput (fput A 4 (26 + (c * 4 + k) * 3 + 0) x) 4 (26 + (c * 4 + k) * 3 + 1) y) 4 (26 + (c * 4 + k) * 3 + 2) w)
  exact h
theorem qtX2_putPoint (l : Launch) : am_CT l layX qeX2_putPoint := am_met0 rfl (by decide +kernel) rfl rfl rfl rfl rfl (fun _ => rfl) rfl (qzX2_putPoint l) (fun k e1 h => (qyX2_putPoint l k e1 h).2) (fun as F A K h => by
  replace h : qsX2_putPoint as F A K := h
  unfold qsX2_putPoint at h
  split at h
  · rename_i o c k x y w
    refine ⟨by first | exact Nat.le_of_ble_eq_true rfl | simp [am_fl, am_cat], ?_⟩
    replace h := am_cond2 h
    rcases h with ⟨hb, h⟩ | h
    · skip
      have hb0 := hb
      have hb0 := am_bq hb0
      subst hb0
      exact am_way_line (qvX2_putPoint_1 c k x y w F A K h)
    replace h := am_cond2 h
    rcases h with ⟨hb, h⟩ | h
    · skip
      have hb0 := hb
      have hb0 := am_bq hb0
      subst hb0
      exact am_way_line (qvX2_putPoint_3 c k x y w F A K h)
    exact h.elim
  · exact h.elim)
def qkX2_copyPoint : Nat → Option CI := fun pc => cond (Nat.ble 28 pc) none (cond (Nat.ble 12 pc) (cond (Nat.ble 19 pc) (cond (Nat.ble 21 pc) (cond (Nat.beq pc 21) (some (.invokevirtual 61, 24, [])) (cond (Nat.beq pc 24) (some (.invokevirtual 64, 27, [])) (cond (Nat.beq pc 27) (some (.return_, 28, [])) (none)))) (cond (Nat.beq pc 19) (some (.iload_n 2, 20, [])) (cond (Nat.beq pc 20) (some (.iconst 2, 21, [])) (none)))) (cond (Nat.ble 14 pc) (cond (Nat.beq pc 14) (some (.invokevirtual 61, 17, [])) (cond (Nat.beq pc 17) (some (.aload_n 0, 18, [])) (cond (Nat.beq pc 18) (some (.iload_n 1, 19, [])) (none)))) (cond (Nat.beq pc 12) (some (.iload_n 2, 13, [])) (cond (Nat.beq pc 13) (some (.iconst 1, 14, [])) (none))))) (cond (Nat.ble 5 pc) (cond (Nat.ble 7 pc) (cond (Nat.beq pc 7) (some (.invokevirtual 61, 10, [])) (cond (Nat.beq pc 10) (some (.aload_n 0, 11, [])) (cond (Nat.beq pc 11) (some (.iload_n 1, 12, [])) (none)))) (cond (Nat.beq pc 5) (some (.iload_n 2, 6, [])) (cond (Nat.beq pc 6) (some (.iconst 0, 7, [])) (none)))) (cond (Nat.ble 2 pc) (cond (Nat.beq pc 2) (some (.iload_n 3, 3, [])) (cond (Nat.beq pc 3) (some (.aload_n 0, 4, [])) (cond (Nat.beq pc 4) (some (.iload_n 1, 5, [])) (none)))) (cond (Nat.beq pc 0) (some (.aload_n 0, 1, [])) (cond (Nat.beq pc 1) (some (.iload_n 1, 2, [])) (none))))))
theorem qkX2_copyPoint_ok : ∀ pc i nx ts, qkX2_copyPoint pc = some (i, nx, ts) → am_cok cX2_copyPoint pc (i, nx, ts) = true := fun pc i nx ts h => am_tok_ok (n := 28) (by decide +kernel) (fun pc h => by show cond (Nat.ble 28 pc) _ _ = _; rw [Nat.ble_eq_true_of_le h]; rfl) h
def qaX2_copyPoint : Nat → Option CE := fun k => cond (Nat.beq k 61) (some qeX2_point) (cond (Nat.beq k 64) (some qeX2_putPoint) (none))
theorem qyX2_copyPoint (l : Launch) : ∀ k e1, qaX2_copyPoint k = some e1 → am_cal l layX RX2 6 k e1 ∧ ceT e1 = 0 := q_cons ⟨am_calV (ci := 2) (qtX2_point l) qbX2_point (by decide) rfl (am_tb_at 909 (by decide +kernel) rfl), rfl⟩ (q_cons ⟨am_calV (ci := 2) (qtX2_putPoint l) qbX2_putPoint (by decide) rfl (am_tb_at 910 (by decide +kernel) rfl), rfl⟩ (q_nil))
def qxX2_copyPoint : CX := (qkX2_copyPoint, layX, qfX2, qaX2_copyPoint, qcX2, qlX2, qmX2, none, false, none, 0, none, fun _ => none)
theorem qzX2_copyPoint (l : Launch) : am_sta l qxX2_copyPoint RX2 6 cX2_copyPoint := ⟨qkX2_copyPoint_ok, layX_ok, qfX2_ok, qcX2_ok, qlX2_ok, am_mthP qmX2_ok (by decide), fun k e1 h => (qyX2_copyPoint l k e1 h).1⟩
def qsX2_copyPoint : SP := fun as F A K => match as with
  | [.inr (.inr o), .inl c, .inl i, .inl j] => cond (Nat.beq o 1) (K (some none) F (putP A 2 c j (fat (A 2) (26 + (c * 4 + i) * 3 + 0)) (fat (A 2) (26 + (c * 4 + i) * 3 + 1)) (fat (A 2) (26 + (c * 4 + i) * 3 + 2)))) (cond (Nat.beq o 3) (K (some none) F (putP A 4 c j (fat (A 4) (26 + (c * 4 + i) * 3 + 0)) (fat (A 4) (26 + (c * 4 + i) * 3 + 1)) (fat (A 4) (26 + (c * 4 + i) * 3 + 2)))) (False))
  | _ => False
def qeX2_copyPoint : CE := (yX2_copyPoint, cX2_copyPoint, 4, none, 3, some 2, 0, none, 0, 6, qsX2_copyPoint)
theorem qbX2_copyPoint : am_mb qeX2_copyPoint := ⟨am_tb_at 908 (by decide +kernel) rfl, am_tb_at 36 (by decide +kernel) rfl, ⟨by decide, by decide, by decide +kernel⟩, by decide, am_tb_at 906 (by decide +kernel) rfl, am_tb_at 907 (by decide +kernel) rfl, _, _, rfl⟩
theorem qvX2_copyPoint_1 (c : Int) (i : Int) (j : Int) (F : FF) (A : AA) (K : KK) (h : K (some none) F (putP A 2 c j (fat (A 2) (26 + (c * 4 + i) * 3 + 0)) (fat (A 2) (26 + (c * 4 + i) * 3 + 1)) (fat (A 2) (26 + (c * 4 + i) * 3 + 2)))) : am_line qxX2_copyPoint 21 [vR 1, vI c, vI i, vI j] 4 F A K := by
  show am_stp qxX2_copyPoint (am_run qxX2_copyPoint (fun _ => none) (fun _ _ _ _ _ _ => False) K 21) K 0 [some (vR 1), some (vI c), some (vI i), some (vI j)] [] F A 0
  show K (some none) F (putP A 2 c j (fat (A 2) (26 + (c * 4 + i) * 3 + 0)) (fat (A 2) (26 + (c * 4 + i) * 3 + 1)) (fat (A 2) (26 + (c * 4 + i) * 3 + 2)))
  exact h
theorem qvX2_copyPoint_3 (c : Int) (i : Int) (j : Int) (F : FF) (A : AA) (K : KK) (h : K (some none) F (putP A 4 c j (fat (A 4) (26 + (c * 4 + i) * 3 + 0)) (fat (A 4) (26 + (c * 4 + i) * 3 + 1)) (fat (A 4) (26 + (c * 4 + i) * 3 + 2)))) : am_line qxX2_copyPoint 21 [vR 3, vI c, vI i, vI j] 4 F A K := by
  show am_stp qxX2_copyPoint (am_run qxX2_copyPoint (fun _ => none) (fun _ _ _ _ _ _ => False) K 21) K 0 [some (vR 3), some (vI c), some (vI i), some (vI j)] [] F A 0
  show K (some none) F (putP A 4 c j (fat (A 4) (26 + (c * 4 + i) * 3 + 0)) (fat (A 4) (26 + (c * 4 + i) * 3 + 1)) (fat (A 4) (26 + (c * 4 + i) * 3 + 2)))
  exact h
theorem qtX2_copyPoint (l : Launch) : am_CT l layX qeX2_copyPoint := am_met0 rfl (by decide +kernel) rfl rfl rfl rfl rfl (fun _ => rfl) rfl (qzX2_copyPoint l) (fun k e1 h => (qyX2_copyPoint l k e1 h).2) (fun as F A K h => by
  replace h : qsX2_copyPoint as F A K := h
  unfold qsX2_copyPoint at h
  split at h
  · rename_i o c i j
    refine ⟨by first | exact Nat.le_of_ble_eq_true rfl | simp [am_fl, am_cat], ?_⟩
    replace h := am_cond2 h
    rcases h with ⟨hb, h⟩ | h
    · skip
      have hb0 := hb
      have hb0 := am_bq hb0
      subst hb0
      exact am_way_line (qvX2_copyPoint_1 c i j F A K h)
    replace h := am_cond2 h
    rcases h with ⟨hb, h⟩ | h
    · skip
      have hb0 := hb
      have hb0 := am_bq hb0
      subst hb0
      exact am_way_line (qvX2_copyPoint_3 c i j F A K h)
    exact h.elim
  · exact h.elim)
def qkX2_swapPoints : Nat → Option CI := fun pc => cond (Nat.ble 47 pc) none (cond (Nat.ble 21 pc) (cond (Nat.ble 34 pc) (cond (Nat.ble 39 pc) (cond (Nat.ble 43 pc) (cond (Nat.beq pc 43) (some (.invokevirtual 64, 46, [])) (cond (Nat.beq pc 46) (some (.return_, 47, [])) (none))) (cond (Nat.beq pc 39) (some (.iload 5, 41, [])) (cond (Nat.beq pc 41) (some (.iload 6, 43, [])) (none)))) (cond (Nat.ble 36 pc) (cond (Nat.beq pc 36) (some (.iload_n 3, 37, [])) (cond (Nat.beq pc 37) (some (.iload 4, 39, [])) (none))) (cond (Nat.beq pc 34) (some (.aload_n 0, 35, [])) (cond (Nat.beq pc 35) (some (.iload_n 1, 36, [])) (none))))) (cond (Nat.ble 28 pc) (cond (Nat.ble 30 pc) (cond (Nat.beq pc 30) (some (.iload_n 2, 31, [])) (cond (Nat.beq pc 31) (some (.invokevirtual 68, 34, [])) (none))) (cond (Nat.beq pc 28) (some (.iload_n 1, 29, [])) (cond (Nat.beq pc 29) (some (.iload_n 3, 30, [])) (none)))) (cond (Nat.ble 25 pc) (cond (Nat.beq pc 25) (some (.istore 6, 27, [])) (cond (Nat.beq pc 27) (some (.aload_n 0, 28, [])) (none))) (cond (Nat.beq pc 21) (some (.iconst 2, 22, [])) (cond (Nat.beq pc 22) (some (.invokevirtual 61, 25, [])) (none)))))) (cond (Nat.ble 10 pc) (cond (Nat.ble 16 pc) (cond (Nat.ble 19 pc) (cond (Nat.beq pc 19) (some (.iload_n 1, 20, [])) (cond (Nat.beq pc 20) (some (.iload_n 2, 21, [])) (none))) (cond (Nat.beq pc 16) (some (.istore 5, 18, [])) (cond (Nat.beq pc 18) (some (.aload_n 0, 19, [])) (none)))) (cond (Nat.ble 12 pc) (cond (Nat.beq pc 12) (some (.iconst 1, 13, [])) (cond (Nat.beq pc 13) (some (.invokevirtual 61, 16, [])) (none))) (cond (Nat.beq pc 10) (some (.iload_n 1, 11, [])) (cond (Nat.beq pc 11) (some (.iload_n 2, 12, [])) (none))))) (cond (Nat.ble 3 pc) (cond (Nat.ble 7 pc) (cond (Nat.beq pc 7) (some (.istore 4, 9, [])) (cond (Nat.beq pc 9) (some (.aload_n 0, 10, [])) (none))) (cond (Nat.beq pc 3) (some (.iconst 0, 4, [])) (cond (Nat.beq pc 4) (some (.invokevirtual 61, 7, [])) (none)))) (cond (Nat.beq pc 0) (some (.aload_n 0, 1, [])) (cond (Nat.beq pc 1) (some (.iload_n 1, 2, [])) (cond (Nat.beq pc 2) (some (.iload_n 2, 3, [])) (none)))))))
theorem qkX2_swapPoints_ok : ∀ pc i nx ts, qkX2_swapPoints pc = some (i, nx, ts) → am_cok cX2_swapPoints pc (i, nx, ts) = true := fun pc i nx ts h => am_tok_ok (n := 47) (by decide +kernel) (fun pc h => by show cond (Nat.ble 47 pc) _ _ = _; rw [Nat.ble_eq_true_of_le h]; rfl) h
def qaX2_swapPoints : Nat → Option CE := fun k => cond (Nat.beq k 61) (some qeX2_point) (cond (Nat.beq k 68) (some qeX2_copyPoint) (cond (Nat.beq k 64) (some qeX2_putPoint) (none)))
theorem qyX2_swapPoints (l : Launch) : ∀ k e1, qaX2_swapPoints k = some e1 → am_cal l layX RX2 7 k e1 ∧ ceT e1 = 0 := q_cons ⟨am_calV (ci := 2) (qtX2_point l) qbX2_point (by decide) rfl (am_tb_at 909 (by decide +kernel) rfl), rfl⟩ (q_cons ⟨am_calV (ci := 2) (qtX2_copyPoint l) qbX2_copyPoint (by decide) rfl (am_tb_at 924 (by decide +kernel) rfl), rfl⟩ (q_cons ⟨am_calV (ci := 2) (qtX2_putPoint l) qbX2_putPoint (by decide) rfl (am_tb_at 910 (by decide +kernel) rfl), rfl⟩ (q_nil)))
def qxX2_swapPoints : CX := (qkX2_swapPoints, layX, qfX2, qaX2_swapPoints, qcX2, qlX2, qmX2, none, false, none, 0, none, fun _ => none)
theorem qzX2_swapPoints (l : Launch) : am_sta l qxX2_swapPoints RX2 7 cX2_swapPoints := ⟨qkX2_swapPoints_ok, layX_ok, qfX2_ok, qcX2_ok, qlX2_ok, am_mthP qmX2_ok (by decide), fun k e1 h => (qyX2_swapPoints l k e1 h).1⟩
def qsX2_swapPoints : SP := fun as F A K => match as with
  | [.inr (.inr o), .inl c, .inl i, .inl j] => cond (Nat.beq o 1) (K (some none) F (swP A 2 c i j)) (cond (Nat.beq o 3) (K (some none) F (swP A 4 c i j)) (False))
  | _ => False
def qeX2_swapPoints : CE := (yX2_swapPoints, cX2_swapPoints, 7, none, 3, some 2, 0, none, 0, 7, qsX2_swapPoints)
theorem qbX2_swapPoints : am_mb qeX2_swapPoints := ⟨am_tb_at 923 (by decide +kernel) rfl, am_tb_at 36 (by decide +kernel) rfl, ⟨by decide, by decide, by decide +kernel⟩, by decide, am_tb_at 921 (by decide +kernel) rfl, am_tb_at 922 (by decide +kernel) rfl, _, _, rfl⟩
theorem qvX2_swapPoints_1 (c : Int) (i : Int) (j : Int) (F : FF) (A : AA) (K : KK) (h : K (some none) F (swP A 2 c i j)) : am_line qxX2_swapPoints 32 [vR 1, vI c, vI i, vI j] 7 F A K := by
  show am_stp qxX2_swapPoints (am_run qxX2_swapPoints (fun _ => none) (fun _ _ _ _ _ _ => False) K 32) K 0 [some (vR 1), some (vI c), some (vI i), some (vI j), none, none, none] [] F A 0
  show K (some none) F (putP (putP A 2 c i (fat (A 2) (26 + (c * 4 + j) * 3 + 0)) (fat (A 2) (26 + (c * 4 + j) * 3 + 1)) (fat (A 2) (26 + (c * 4 + j) * 3 + 2))) 2 c j (fat (A 2) (26 + (c * 4 + i) * 3 + 0)) (fat (A 2) (26 + (c * 4 + i) * 3 + 1)) (fat (A 2) (26 + (c * 4 + i) * 3 + 2)))
  exact h
theorem qvX2_swapPoints_3 (c : Int) (i : Int) (j : Int) (F : FF) (A : AA) (K : KK) (h : K (some none) F (swP A 4 c i j)) : am_line qxX2_swapPoints 32 [vR 3, vI c, vI i, vI j] 7 F A K := by
  show am_stp qxX2_swapPoints (am_run qxX2_swapPoints (fun _ => none) (fun _ _ _ _ _ _ => False) K 32) K 0 [some (vR 3), some (vI c), some (vI i), some (vI j), none, none, none] [] F A 0
  show K (some none) F (putP (putP A 4 c i (fat (A 4) (26 + (c * 4 + j) * 3 + 0)) (fat (A 4) (26 + (c * 4 + j) * 3 + 1)) (fat (A 4) (26 + (c * 4 + j) * 3 + 2))) 4 c j (fat (A 4) (26 + (c * 4 + i) * 3 + 0)) (fat (A 4) (26 + (c * 4 + i) * 3 + 1)) (fat (A 4) (26 + (c * 4 + i) * 3 + 2)))
  exact h
theorem qtX2_swapPoints (l : Launch) : am_CT l layX qeX2_swapPoints := am_met0 rfl (by decide +kernel) rfl rfl rfl rfl rfl (fun _ => rfl) rfl (qzX2_swapPoints l) (fun k e1 h => (qyX2_swapPoints l k e1 h).2) (fun as F A K h => by
  replace h : qsX2_swapPoints as F A K := h
  unfold qsX2_swapPoints at h
  split at h
  · rename_i o c i j
    refine ⟨by first | exact Nat.le_of_ble_eq_true rfl | simp [am_fl, am_cat], ?_⟩
    replace h := am_cond2 h
    rcases h with ⟨hb, h⟩ | h
    · skip
      have hb0 := hb
      have hb0 := am_bq hb0
      subst hb0
      exact am_way_line (qvX2_swapPoints_1 c i j F A K h)
    replace h := am_cond2 h
    rcases h with ⟨hb, h⟩ | h
    · skip
      have hb0 := hb
      have hb0 := am_bq hb0
      subst hb0
      exact am_way_line (qvX2_swapPoints_3 c i j F A K h)
    exact h.elim
  · exact h.elim)
def qkX2_lineValue : Nat → Option CI := fun pc => cond (Nat.ble 13 pc) none (cond (Nat.ble 6 pc) (cond (Nat.ble 8 pc) (cond (Nat.beq pc 8) (some (.iadd, 9, [])) (cond (Nat.beq pc 9) (some (.invokevirtual 31, 12, [])) (cond (Nat.beq pc 12) (some (.ireturn, 13, [])) (none)))) (cond (Nat.beq pc 6) (some (.iadd, 7, [])) (cond (Nat.beq pc 7) (some (.iload_n 2, 8, [])) (none)))) (cond (Nat.ble 3 pc) (cond (Nat.beq pc 3) (some (.iload_n 1, 4, [])) (cond (Nat.beq pc 4) (some (.iconst 3, 5, [])) (cond (Nat.beq pc 5) (some (.imul, 6, [])) (none)))) (cond (Nat.beq pc 0) (some (.aload_n 0, 1, [])) (cond (Nat.beq pc 1) (some (.bipush 122, 3, [])) (none)))))
theorem qkX2_lineValue_ok : ∀ pc i nx ts, qkX2_lineValue pc = some (i, nx, ts) → am_cok cX2_lineValue pc (i, nx, ts) = true := fun pc i nx ts h => am_tok_ok (n := 13) (by decide +kernel) (fun pc h => by show cond (Nat.ble 13 pc) _ _ = _; rw [Nat.ble_eq_true_of_le h]; rfl) h
def qaX2_lineValue : Nat → Option CE := fun k => cond (Nat.beq k 31) (some qeX2_at) (none)
theorem qyX2_lineValue (l : Launch) : ∀ k e1, qaX2_lineValue k = some e1 → am_cal l layX RX2 4 k e1 ∧ ceT e1 = 0 := q_cons ⟨am_calV (ci := 2) (qtX2_at l) qbX2_at (by decide) rfl (am_tb_at 659 (by decide +kernel) rfl), rfl⟩ (q_nil)
def qxX2_lineValue : CX := (qkX2_lineValue, layX, qfX2, qaX2_lineValue, qcX2, qlX2, qmX2, (some .int), false, none, 0, none, fun _ => none)
theorem qzX2_lineValue (l : Launch) : am_sta l qxX2_lineValue RX2 4 cX2_lineValue := ⟨qkX2_lineValue_ok, layX_ok, qfX2_ok, qcX2_ok, qlX2_ok, am_mthP qmX2_ok (by decide), fun k e1 h => (qyX2_lineValue l k e1 h).1⟩
def qsX2_lineValue : SP := fun as F A K => match as with
  | [.inr (.inr o), .inl l, .inl w] => cond (Nat.beq o 1) (K (some (some (vI (fat (A 2) (122 + l * 3 + w))))) F A) (cond (Nat.beq o 3) (K (some (some (vI (fat (A 4) (122 + l * 3 + w))))) F A) (False))
  | _ => False
def qeX2_lineValue : CE := (yX2_lineValue, cX2_lineValue, 3, (some .int), 2, some 2, 0, none, 0, 4, qsX2_lineValue)
theorem qbX2_lineValue : am_mb qeX2_lineValue := ⟨am_tb_at 729 (by decide +kernel) rfl, am_tb_at 36 (by decide +kernel) rfl, ⟨by decide, by decide, by decide +kernel⟩, by decide, am_tb_at 727 (by decide +kernel) rfl, am_tb_at 728 (by decide +kernel) rfl, _, _, rfl⟩
theorem qvX2_lineValue_1 (l : Int) (w : Int) (F : FF) (A : AA) (K : KK) (h : K (some (some (vI (fat (A 2) (122 + l * 3 + w))))) F A) : am_line qxX2_lineValue 11 [vR 1, vI l, vI w] 3 F A K := by
  show am_stp qxX2_lineValue (am_run qxX2_lineValue (fun _ => none) (fun _ _ _ _ _ _ => False) K 11) K 0 [some (vR 1), some (vI l), some (vI w)] [] F A 0
  show K (some (some (vI (fat (A 2) ((122 + (l * 3)) + w))))) F A
  exact h
theorem qvX2_lineValue_3 (l : Int) (w : Int) (F : FF) (A : AA) (K : KK) (h : K (some (some (vI (fat (A 4) (122 + l * 3 + w))))) F A) : am_line qxX2_lineValue 11 [vR 3, vI l, vI w] 3 F A K := by
  show am_stp qxX2_lineValue (am_run qxX2_lineValue (fun _ => none) (fun _ _ _ _ _ _ => False) K 11) K 0 [some (vR 3), some (vI l), some (vI w)] [] F A 0
  show K (some (some (vI (fat (A 4) ((122 + (l * 3)) + w))))) F A
  exact h
theorem qtX2_lineValue (l : Launch) : am_CT l layX qeX2_lineValue := am_met0 rfl (by decide +kernel) rfl rfl rfl rfl rfl (fun _ => rfl) rfl (qzX2_lineValue l) (fun k e1 h => (qyX2_lineValue l k e1 h).2) (fun as F A K h => by
  replace h : qsX2_lineValue as F A K := h
  unfold qsX2_lineValue at h
  split at h
  · rename_i o l w
    refine ⟨by first | exact Nat.le_of_ble_eq_true rfl | simp [am_fl, am_cat], ?_⟩
    replace h := am_cond2 h
    rcases h with ⟨hb, h⟩ | h
    · skip
      have hb0 := hb
      have hb0 := am_bq hb0
      subst hb0
      exact am_way_line (qvX2_lineValue_1 l w F A K h)
    replace h := am_cond2 h
    rcases h with ⟨hb, h⟩ | h
    · skip
      have hb0 := hb
      have hb0 := am_bq hb0
      subst hb0
      exact am_way_line (qvX2_lineValue_3 l w F A K h)
    exact h.elim
  · exact h.elim)
def qkX2_putLineValue : Nat → Option CI := fun pc => cond (Nat.ble 14 pc) none (cond (Nat.ble 6 pc) (cond (Nat.ble 9 pc) (cond (Nat.beq pc 9) (some (.iload_n 3, 10, [])) (cond (Nat.beq pc 10) (some (.invokevirtual 21, 13, [])) (cond (Nat.beq pc 13) (some (.return_, 14, [])) (none)))) (cond (Nat.beq pc 6) (some (.iadd, 7, [])) (cond (Nat.beq pc 7) (some (.iload_n 2, 8, [])) (cond (Nat.beq pc 8) (some (.iadd, 9, [])) (none))))) (cond (Nat.ble 3 pc) (cond (Nat.beq pc 3) (some (.iload_n 1, 4, [])) (cond (Nat.beq pc 4) (some (.iconst 3, 5, [])) (cond (Nat.beq pc 5) (some (.imul, 6, [])) (none)))) (cond (Nat.beq pc 0) (some (.aload_n 0, 1, [])) (cond (Nat.beq pc 1) (some (.bipush 122, 3, [])) (none)))))
theorem qkX2_putLineValue_ok : ∀ pc i nx ts, qkX2_putLineValue pc = some (i, nx, ts) → am_cok cX2_putLineValue pc (i, nx, ts) = true := fun pc i nx ts h => am_tok_ok (n := 14) (by decide +kernel) (fun pc h => by show cond (Nat.ble 14 pc) _ _ = _; rw [Nat.ble_eq_true_of_le h]; rfl) h
def qaX2_putLineValue : Nat → Option CE := fun k => cond (Nat.beq k 21) (some qeX2_put) (none)
theorem qyX2_putLineValue (l : Launch) : ∀ k e1, qaX2_putLineValue k = some e1 → am_cal l layX RX2 4 k e1 ∧ ceT e1 = 0 := q_cons ⟨am_calV (ci := 2) (qtX2_put l) qbX2_put (by decide) rfl (am_tb_at 250 (by decide +kernel) rfl), rfl⟩ (q_nil)
def qxX2_putLineValue : CX := (qkX2_putLineValue, layX, qfX2, qaX2_putLineValue, qcX2, qlX2, qmX2, none, false, none, 0, none, fun _ => none)
theorem qzX2_putLineValue (l : Launch) : am_sta l qxX2_putLineValue RX2 4 cX2_putLineValue := ⟨qkX2_putLineValue_ok, layX_ok, qfX2_ok, qcX2_ok, qlX2_ok, am_mthP qmX2_ok (by decide), fun k e1 h => (qyX2_putLineValue l k e1 h).1⟩
def qsX2_putLineValue : SP := fun as F A K => match as with
  | [.inr (.inr o), .inl l, .inl w, .inl v] => cond (Nat.beq o 1) (K (some none) F (fput A 2 (122 + l * 3 + w) v)) (cond (Nat.beq o 3) (K (some none) F (fput A 4 (122 + l * 3 + w) v)) (False))
  | _ => False
def qeX2_putLineValue : CE := (yX2_putLineValue, cX2_putLineValue, 4, none, 3, some 2, 0, none, 0, 4, qsX2_putLineValue)
theorem qbX2_putLineValue : am_mb qeX2_putLineValue := ⟨am_tb_at 733 (by decide +kernel) rfl, am_tb_at 36 (by decide +kernel) rfl, ⟨by decide, by decide, by decide +kernel⟩, by decide, am_tb_at 731 (by decide +kernel) rfl, am_tb_at 732 (by decide +kernel) rfl, _, _, rfl⟩
theorem qvX2_putLineValue_1 (l : Int) (w : Int) (v : Int) (F : FF) (A : AA) (K : KK) (h : K (some none) F (fput A 2 (122 + l * 3 + w) v)) : am_line qxX2_putLineValue 12 [vR 1, vI l, vI w, vI v] 4 F A K := by
  show am_stp qxX2_putLineValue (am_run qxX2_putLineValue (fun _ => none) (fun _ _ _ _ _ _ => False) K 12) K 0 [some (vR 1), some (vI l), some (vI w), some (vI v)] [] F A 0
  show K (some none) F (fput A 2 ((122 + (l * 3)) + w) v)
  exact h
theorem qvX2_putLineValue_3 (l : Int) (w : Int) (v : Int) (F : FF) (A : AA) (K : KK) (h : K (some none) F (fput A 4 (122 + l * 3 + w) v)) : am_line qxX2_putLineValue 12 [vR 3, vI l, vI w, vI v] 4 F A K := by
  show am_stp qxX2_putLineValue (am_run qxX2_putLineValue (fun _ => none) (fun _ _ _ _ _ _ => False) K 12) K 0 [some (vR 3), some (vI l), some (vI w), some (vI v)] [] F A 0
  show K (some none) F (fput A 4 ((122 + (l * 3)) + w) v)
  exact h
theorem qtX2_putLineValue (l : Launch) : am_CT l layX qeX2_putLineValue := am_met0 rfl (by decide +kernel) rfl rfl rfl rfl rfl (fun _ => rfl) rfl (qzX2_putLineValue l) (fun k e1 h => (qyX2_putLineValue l k e1 h).2) (fun as F A K h => by
  replace h : qsX2_putLineValue as F A K := h
  unfold qsX2_putLineValue at h
  split at h
  · rename_i o l w v
    refine ⟨by first | exact Nat.le_of_ble_eq_true rfl | simp [am_fl, am_cat], ?_⟩
    replace h := am_cond2 h
    rcases h with ⟨hb, h⟩ | h
    · skip
      have hb0 := hb
      have hb0 := am_bq hb0
      subst hb0
      exact am_way_line (qvX2_putLineValue_1 l w v F A K h)
    replace h := am_cond2 h
    rcases h with ⟨hb, h⟩ | h
    · skip
      have hb0 := hb
      have hb0 := am_bq hb0
      subst hb0
      exact am_way_line (qvX2_putLineValue_3 l w v F A K h)
    exact h.elim
  · exact h.elim)
def qkX2_lineAt : Nat → Option CI := fun pc => cond (Nat.ble 25 pc) none (cond (Nat.ble 11 pc) (cond (Nat.ble 18 pc) (cond (Nat.ble 20 pc) (cond (Nat.beq pc 20) (some (.invokevirtual 72, 23, [])) (cond (Nat.beq pc 23) (some (.iadd, 24, [])) (cond (Nat.beq pc 24) (some (.ireturn, 25, [])) (none)))) (cond (Nat.beq pc 18) (some (.iload_n 1, 19, [])) (cond (Nat.beq pc 19) (some (.iconst 2, 20, [])) (none)))) (cond (Nat.ble 15 pc) (cond (Nat.beq pc 15) (some (.imul, 16, [])) (cond (Nat.beq pc 16) (some (.iadd, 17, [])) (cond (Nat.beq pc 17) (some (.aload_n 0, 18, [])) (none)))) (cond (Nat.beq pc 11) (some (.invokevirtual 72, 14, [])) (cond (Nat.beq pc 14) (some (.iload_n 3, 15, [])) (none))))) (cond (Nat.ble 6 pc) (cond (Nat.ble 8 pc) (cond (Nat.beq pc 8) (some (.aload_n 0, 9, [])) (cond (Nat.beq pc 9) (some (.iload_n 1, 10, [])) (cond (Nat.beq pc 10) (some (.iconst 1, 11, [])) (none)))) (cond (Nat.beq pc 6) (some (.iload_n 2, 7, [])) (cond (Nat.beq pc 7) (some (.imul, 8, [])) (none)))) (cond (Nat.ble 2 pc) (cond (Nat.beq pc 2) (some (.iconst 0, 3, [])) (cond (Nat.beq pc 3) (some (.invokevirtual 72, 6, [])) (none))) (cond (Nat.beq pc 0) (some (.aload_n 0, 1, [])) (cond (Nat.beq pc 1) (some (.iload_n 1, 2, [])) (none))))))
theorem qkX2_lineAt_ok : ∀ pc i nx ts, qkX2_lineAt pc = some (i, nx, ts) → am_cok cX2_lineAt pc (i, nx, ts) = true := fun pc i nx ts h => am_tok_ok (n := 25) (by decide +kernel) (fun pc h => by show cond (Nat.ble 25 pc) _ _ = _; rw [Nat.ble_eq_true_of_le h]; rfl) h
def qaX2_lineAt : Nat → Option CE := fun k => cond (Nat.beq k 72) (some qeX2_lineValue) (none)
theorem qyX2_lineAt (l : Launch) : ∀ k e1, qaX2_lineAt k = some e1 → am_cal l layX RX2 5 k e1 ∧ ceT e1 = 0 := q_cons ⟨am_calV (ci := 2) (qtX2_lineValue l) qbX2_lineValue (by decide) rfl (am_tb_at 955 (by decide +kernel) rfl), rfl⟩ (q_nil)
def qxX2_lineAt : CX := (qkX2_lineAt, layX, qfX2, qaX2_lineAt, qcX2, qlX2, qmX2, (some .int), false, none, 0, none, fun _ => none)
theorem qzX2_lineAt (l : Launch) : am_sta l qxX2_lineAt RX2 5 cX2_lineAt := ⟨qkX2_lineAt_ok, layX_ok, qfX2_ok, qcX2_ok, qlX2_ok, am_mthP qmX2_ok (by decide), fun k e1 h => (qyX2_lineAt l k e1 h).1⟩
def qsX2_lineAt : SP := fun as F A K => match as with
  | [.inr (.inr o), .inl l, .inl x, .inl y] => cond (Nat.beq o 1) (K (some (some (vI (fat (A 2) (122 + l * 3 + 0) * x + fat (A 2) (122 + l * 3 + 1) * y + fat (A 2) (122 + l * 3 + 2))))) F A) (cond (Nat.beq o 3) (K (some (some (vI (fat (A 4) (122 + l * 3 + 0) * x + fat (A 4) (122 + l * 3 + 1) * y + fat (A 4) (122 + l * 3 + 2))))) F A) (False))
  | _ => False
def qeX2_lineAt : CE := (yX2_lineAt, cX2_lineAt, 4, (some .int), 3, some 2, 0, none, 0, 5, qsX2_lineAt)
theorem qbX2_lineAt : am_mb qeX2_lineAt := ⟨am_tb_at 954 (by decide +kernel) rfl, am_tb_at 36 (by decide +kernel) rfl, ⟨by decide, by decide, by decide +kernel⟩, by decide, am_tb_at 952 (by decide +kernel) rfl, am_tb_at 953 (by decide +kernel) rfl, _, _, rfl⟩
theorem qvX2_lineAt_1 (l : Int) (x : Int) (y : Int) (F : FF) (A : AA) (K : KK) (h : K (some (some (vI (fat (A 2) (122 + l * 3 + 0) * x + fat (A 2) (122 + l * 3 + 1) * y + fat (A 2) (122 + l * 3 + 2))))) F A) : am_line qxX2_lineAt 20 [vR 1, vI l, vI x, vI y] 4 F A K := by
  show am_stp qxX2_lineAt (am_run qxX2_lineAt (fun _ => none) (fun _ _ _ _ _ _ => False) K 20) K 0 [some (vR 1), some (vI l), some (vI x), some (vI y)] [] F A 0
  show K (some (some (vI ((((fat (A 2) (122 + l * 3 + 0)) * x) + ((fat (A 2) (122 + l * 3 + 1)) * y)) + (fat (A 2) (122 + l * 3 + 2)))))) F A
  exact h
theorem qvX2_lineAt_3 (l : Int) (x : Int) (y : Int) (F : FF) (A : AA) (K : KK) (h : K (some (some (vI (fat (A 4) (122 + l * 3 + 0) * x + fat (A 4) (122 + l * 3 + 1) * y + fat (A 4) (122 + l * 3 + 2))))) F A) : am_line qxX2_lineAt 20 [vR 3, vI l, vI x, vI y] 4 F A K := by
  show am_stp qxX2_lineAt (am_run qxX2_lineAt (fun _ => none) (fun _ _ _ _ _ _ => False) K 20) K 0 [some (vR 3), some (vI l), some (vI x), some (vI y)] [] F A 0
  show K (some (some (vI ((((fat (A 4) (122 + l * 3 + 0)) * x) + ((fat (A 4) (122 + l * 3 + 1)) * y)) + (fat (A 4) (122 + l * 3 + 2)))))) F A
  exact h
theorem qtX2_lineAt (l : Launch) : am_CT l layX qeX2_lineAt := am_met0 rfl (by decide +kernel) rfl rfl rfl rfl rfl (fun _ => rfl) rfl (qzX2_lineAt l) (fun k e1 h => (qyX2_lineAt l k e1 h).2) (fun as F A K h => by
  replace h : qsX2_lineAt as F A K := h
  unfold qsX2_lineAt at h
  split at h
  · rename_i o l x y
    refine ⟨by first | exact Nat.le_of_ble_eq_true rfl | simp [am_fl, am_cat], ?_⟩
    replace h := am_cond2 h
    rcases h with ⟨hb, h⟩ | h
    · skip
      have hb0 := hb
      have hb0 := am_bq hb0
      subst hb0
      exact am_way_line (qvX2_lineAt_1 l x y F A K h)
    replace h := am_cond2 h
    rcases h with ⟨hb, h⟩ | h
    · skip
      have hb0 := hb
      have hb0 := am_bq hb0
      subst hb0
      exact am_way_line (qvX2_lineAt_3 l x y F A K h)
    exact h.elim
  · exact h.elim)
def qkX2_cutNumber : Nat → Option CI := fun pc => cond (Nat.ble 28 pc) none (cond (Nat.ble 12 pc) (cond (Nat.ble 19 pc) (cond (Nat.ble 23 pc) (cond (Nat.beq pc 23) (some (.invokevirtual 75, 26, [])) (cond (Nat.beq pc 26) (some (.imul, 27, [])) (cond (Nat.beq pc 27) (some (.ireturn, 28, [])) (none)))) (cond (Nat.beq pc 19) (some (.iconst 1, 20, [])) (cond (Nat.beq pc 20) (some (.invokevirtual 61, 23, [])) (none)))) (cond (Nat.ble 16 pc) (cond (Nat.beq pc 16) (some (.aload_n 0, 17, [])) (cond (Nat.beq pc 17) (some (.iload_n 1, 18, [])) (cond (Nat.beq pc 18) (some (.iload_n 3, 19, [])) (none)))) (cond (Nat.beq pc 12) (some (.iconst 0, 13, [])) (cond (Nat.beq pc 13) (some (.invokevirtual 61, 16, [])) (none))))) (cond (Nat.ble 7 pc) (cond (Nat.ble 9 pc) (cond (Nat.beq pc 9) (some (.aload_n 0, 10, [])) (cond (Nat.beq pc 10) (some (.iload_n 1, 11, [])) (cond (Nat.beq pc 11) (some (.iload_n 3, 12, [])) (none)))) (cond (Nat.beq pc 7) (some (.aload_n 0, 8, [])) (cond (Nat.beq pc 8) (some (.iload_n 2, 9, [])) (none)))) (cond (Nat.ble 2 pc) (cond (Nat.beq pc 2) (some (.iload_n 3, 3, [])) (cond (Nat.beq pc 3) (some (.iconst 2, 4, [])) (cond (Nat.beq pc 4) (some (.invokevirtual 61, 7, [])) (none)))) (cond (Nat.beq pc 0) (some (.aload_n 0, 1, [])) (cond (Nat.beq pc 1) (some (.iload_n 1, 2, [])) (none))))))
theorem qkX2_cutNumber_ok : ∀ pc i nx ts, qkX2_cutNumber pc = some (i, nx, ts) → am_cok cX2_cutNumber pc (i, nx, ts) = true := fun pc i nx ts h => am_tok_ok (n := 28) (by decide +kernel) (fun pc h => by show cond (Nat.ble 28 pc) _ _ = _; rw [Nat.ble_eq_true_of_le h]; rfl) h
def qaX2_cutNumber : Nat → Option CE := fun k => cond (Nat.beq k 61) (some qeX2_point) (cond (Nat.beq k 75) (some qeX2_lineAt) (none))
theorem qyX2_cutNumber (l : Launch) : ∀ k e1, qaX2_cutNumber k = some e1 → am_cal l layX RX2 6 k e1 ∧ ceT e1 = 0 := q_cons ⟨am_calV (ci := 2) (qtX2_point l) qbX2_point (by decide) rfl (am_tb_at 909 (by decide +kernel) rfl), rfl⟩ (q_cons ⟨am_calV (ci := 2) (qtX2_lineAt l) qbX2_lineAt (by decide) rfl (am_tb_at 951 (by decide +kernel) rfl), rfl⟩ (q_nil))
def qxX2_cutNumber : CX := (qkX2_cutNumber, layX, qfX2, qaX2_cutNumber, qcX2, qlX2, qmX2, (some .int), false, none, 0, none, fun _ => none)
theorem qzX2_cutNumber (l : Launch) : am_sta l qxX2_cutNumber RX2 6 cX2_cutNumber := ⟨qkX2_cutNumber_ok, layX_ok, qfX2_ok, qcX2_ok, qlX2_ok, am_mthP qmX2_ok (by decide), fun k e1 h => (qyX2_cutNumber l k e1 h).1⟩
def qsX2_cutNumber : SP := fun as F A K => match as with
  | [.inr (.inr o), .inl c, .inl l, .inl k] => cond (Nat.beq o 1) (K (some (some (vI ((fat (A 2) (26 + (c * 4 + k) * 3 + 2)) * (fat (A 2) (122 + l * 3 + 0) * (fat (A 2) (26 + (c * 4 + k) * 3 + 0)) + fat (A 2) (122 + l * 3 + 1) * (fat (A 2) (26 + (c * 4 + k) * 3 + 1)) + fat (A 2) (122 + l * 3 + 2)))))) F A) (cond (Nat.beq o 3) (K (some (some (vI ((fat (A 4) (26 + (c * 4 + k) * 3 + 2)) * (fat (A 4) (122 + l * 3 + 0) * (fat (A 4) (26 + (c * 4 + k) * 3 + 0)) + fat (A 4) (122 + l * 3 + 1) * (fat (A 4) (26 + (c * 4 + k) * 3 + 1)) + fat (A 4) (122 + l * 3 + 2)))))) F A) (False))
  | _ => False
def qeX2_cutNumber : CE := (yX2_cutNumber, cX2_cutNumber, 4, (some .int), 3, some 2, 0, none, 0, 6, qsX2_cutNumber)
theorem qbX2_cutNumber : am_mb qeX2_cutNumber := ⟨am_tb_at 950 (by decide +kernel) rfl, am_tb_at 36 (by decide +kernel) rfl, ⟨by decide, by decide, by decide +kernel⟩, by decide, am_tb_at 948 (by decide +kernel) rfl, am_tb_at 949 (by decide +kernel) rfl, _, _, rfl⟩
theorem qvX2_cutNumber_1 (c : Int) (l : Int) (k : Int) (F : FF) (A : AA) (K : KK) (h : K (some (some (vI ((fat (A 2) (26 + (c * 4 + k) * 3 + 2)) * (fat (A 2) (122 + l * 3 + 0) * (fat (A 2) (26 + (c * 4 + k) * 3 + 0)) + fat (A 2) (122 + l * 3 + 1) * (fat (A 2) (26 + (c * 4 + k) * 3 + 1)) + fat (A 2) (122 + l * 3 + 2)))))) F A) : am_line qxX2_cutNumber 21 [vR 1, vI c, vI l, vI k] 4 F A K := by
  show am_stp qxX2_cutNumber (am_run qxX2_cutNumber (fun _ => none) (fun _ _ _ _ _ _ => False) K 21) K 0 [some (vR 1), some (vI c), some (vI l), some (vI k)] [] F A 0
  show K (some (some (vI ((fat (A 2) (26 + (c * 4 + k) * 3 + 2)) * (fat (A 2) (122 + l * 3 + 0) * (fat (A 2) (26 + (c * 4 + k) * 3 + 0)) + fat (A 2) (122 + l * 3 + 1) * (fat (A 2) (26 + (c * 4 + k) * 3 + 1)) + fat (A 2) (122 + l * 3 + 2)))))) F A
  exact h
theorem qvX2_cutNumber_3 (c : Int) (l : Int) (k : Int) (F : FF) (A : AA) (K : KK) (h : K (some (some (vI ((fat (A 4) (26 + (c * 4 + k) * 3 + 2)) * (fat (A 4) (122 + l * 3 + 0) * (fat (A 4) (26 + (c * 4 + k) * 3 + 0)) + fat (A 4) (122 + l * 3 + 1) * (fat (A 4) (26 + (c * 4 + k) * 3 + 1)) + fat (A 4) (122 + l * 3 + 2)))))) F A) : am_line qxX2_cutNumber 21 [vR 3, vI c, vI l, vI k] 4 F A K := by
  show am_stp qxX2_cutNumber (am_run qxX2_cutNumber (fun _ => none) (fun _ _ _ _ _ _ => False) K 21) K 0 [some (vR 3), some (vI c), some (vI l), some (vI k)] [] F A 0
  show K (some (some (vI ((fat (A 4) (26 + (c * 4 + k) * 3 + 2)) * (fat (A 4) (122 + l * 3 + 0) * (fat (A 4) (26 + (c * 4 + k) * 3 + 0)) + fat (A 4) (122 + l * 3 + 1) * (fat (A 4) (26 + (c * 4 + k) * 3 + 1)) + fat (A 4) (122 + l * 3 + 2)))))) F A
  exact h
theorem qtX2_cutNumber (l : Launch) : am_CT l layX qeX2_cutNumber := am_met0 rfl (by decide +kernel) rfl rfl rfl rfl rfl (fun _ => rfl) rfl (qzX2_cutNumber l) (fun k e1 h => (qyX2_cutNumber l k e1 h).2) (fun as F A K h => by
  replace h : qsX2_cutNumber as F A K := h
  unfold qsX2_cutNumber at h
  split at h
  · rename_i o c l k
    refine ⟨by first | exact Nat.le_of_ble_eq_true rfl | simp [am_fl, am_cat], ?_⟩
    replace h := am_cond2 h
    rcases h with ⟨hb, h⟩ | h
    · skip
      have hb0 := hb
      have hb0 := am_bq hb0
      subst hb0
      exact am_way_line (qvX2_cutNumber_1 c l k F A K h)
    replace h := am_cond2 h
    rcases h with ⟨hb, h⟩ | h
    · skip
      have hb0 := hb
      have hb0 := am_bq hb0
      subst hb0
      exact am_way_line (qvX2_cutNumber_3 c l k F A K h)
    exact h.elim
  · exact h.elim)