def qkX8_movePoint : Nat → Option CI := fun pc => cond (Nat.ble 88 pc) none (cond (Nat.ble 44 pc) (cond (Nat.ble 67 pc) (cond (Nat.ble 76 pc) (cond (Nat.ble 79 pc) (cond (Nat.ble 85 pc) (cond (Nat.beq pc 85) (some (.iload 5, 87, [])) (cond (Nat.beq pc 87) (some (.ireturn, 88, [])) (none))) (cond (Nat.beq pc 79) (some (.invokevirtual 137, 82, [])) (cond (Nat.beq pc 82) (some (.invokevirtual 316, 85, [])) (none)))) (cond (Nat.beq pc 76) (some (.iload_n 1, 77, [])) (cond (Nat.beq pc 77) (some (.iload_n 2, 78, [])) (cond (Nat.beq pc 78) (some (.iconst 2, 79, [])) (none))))) (cond (Nat.ble 70 pc) (cond (Nat.beq pc 70) (some (.iload 4, 72, [])) (cond (Nat.beq pc 72) (some (.aload_n 0, 73, [])) (cond (Nat.beq pc 73) (some (.getfield 10, 76, [])) (none)))) (cond (Nat.beq pc 67) (some (.iload_n 1, 68, [])) (cond (Nat.beq pc 68) (some (.iload_n 2, 69, [])) (cond (Nat.beq pc 69) (some (.iload_n 3, 70, [])) (none)))))) (cond (Nat.ble 53 pc) (cond (Nat.ble 60 pc) (cond (Nat.beq pc 60) (some (.invokevirtual 313, 63, [])) (cond (Nat.beq pc 63) (some (.aload_n 0, 64, [])) (cond (Nat.beq pc 64) (some (.getfield 10, 67, [])) (none)))) (cond (Nat.beq pc 53) (some (.getfield 22, 56, [])) (cond (Nat.beq pc 56) (some (.aload_n 0, 57, [])) (cond (Nat.beq pc 57) (some (.getfield 10, 60, [])) (none))))) (cond (Nat.ble 49 pc) (cond (Nat.beq pc 49) (some (.iadd, 50, [])) (cond (Nat.beq pc 50) (some (.istore 5, 52, [])) (cond (Nat.beq pc 52) (some (.aload_n 0, 53, [])) (none)))) (cond (Nat.beq pc 44) (some (.iload_n 2, 45, [])) (cond (Nat.beq pc 45) (some (.iconst 1, 46, [])) (cond (Nat.beq pc 46) (some (.invokevirtual 137, 49, [])) (none))))))) (cond (Nat.ble 23 pc) (cond (Nat.ble 33 pc) (cond (Nat.ble 38 pc) (cond (Nat.ble 40 pc) (cond (Nat.beq pc 40) (some (.getfield 10, 43, [])) (cond (Nat.beq pc 43) (some (.iload_n 1, 44, [])) (none))) (cond (Nat.beq pc 38) (some (.imul, 39, [])) (cond (Nat.beq pc 39) (some (.aload_n 0, 40, [])) (none)))) (cond (Nat.beq pc 33) (some (.iload_n 2, 34, [])) (cond (Nat.beq pc 34) (some (.iconst 0, 35, [])) (cond (Nat.beq pc 35) (some (.invokevirtual 137, 38, [])) (none))))) (cond (Nat.ble 28 pc) (cond (Nat.beq pc 28) (some (.aload_n 0, 29, [])) (cond (Nat.beq pc 29) (some (.getfield 10, 32, [])) (cond (Nat.beq pc 32) (some (.iload_n 1, 33, [])) (none)))) (cond (Nat.beq pc 23) (some (.bipush (-2), 25, [])) (cond (Nat.beq pc 25) (some (.ireturn, 26, [])) (cond (Nat.beq pc 26) (some (.bipush 100, 28, [])) (none)))))) (cond (Nat.ble 12 pc) (cond (Nat.ble 15 pc) (cond (Nat.beq pc 15) (some (.iload 4, 17, [])) (cond (Nat.beq pc 17) (some (.invokestatic 244, 20, [])) (cond (Nat.beq pc 20) (some (.ifCond .ne 6, 23, [26])) (none)))) (cond (Nat.beq pc 12) (some (.iconst (-1), 13, [])) (cond (Nat.beq pc 13) (some (.ireturn, 14, [])) (cond (Nat.beq pc 14) (some (.iload_n 3, 15, [])) (none))))) (cond (Nat.ble 5 pc) (cond (Nat.beq pc 5) (some (.iload_n 2, 6, [])) (cond (Nat.beq pc 6) (some (.invokevirtual 129, 9, [])) (cond (Nat.beq pc 9) (some (.ifCond .ne 5, 12, [14])) (none)))) (cond (Nat.beq pc 0) (some (.aload_n 0, 1, [])) (cond (Nat.beq pc 1) (some (.getfield 10, 4, [])) (cond (Nat.beq pc 4) (some (.iload_n 1, 5, [])) (none))))))))
theorem qkX8_movePoint_ok : ∀ pc i nx ts, qkX8_movePoint pc = some (i, nx, ts) → am_cok cX8_movePoint pc (i, nx, ts) = true := fun pc i nx ts h => am_tok_ok (n := 88) (by decide +kernel) (fun pc h => by show cond (Nat.ble 88 pc) _ _ = _; rw [Nat.ble_eq_true_of_le h]; rfl) h
def qaX8_movePoint : Nat → Option CE := fun k => cond (Nat.beq k 129) (some qeX2_hasPoint) (cond (Nat.beq k 244) (some qeX8_isPlace) (cond (Nat.beq k 137) (some qeX2_point) (cond (Nat.beq k 313) (some qeX3_keep) (cond (Nat.beq k 316) (some qeX2_putPoint) (none)))))
theorem qyX8_movePoint (l : Launch) : ∀ k e1, qaX8_movePoint k = some e1 → am_cal l layX RX8 7 k e1 ∧ ceT e1 = 0 := q_cons ⟨am_calV (ci := 2) (qtX2_hasPoint l) qbX2_hasPoint (by decide) rfl (am_tb_at 867 (by decide +kernel) rfl), rfl⟩ (q_cons ⟨am_calS (qtX8_isPlace l) qbX8_isPlace (by decide) rfl (by decide) (am_tb_at 872 (by decide +kernel) rfl), rfl⟩ (q_cons ⟨am_calV (ci := 2) (qtX2_point l) qbX2_point (by decide) rfl (am_tb_at 876 (by decide +kernel) rfl), rfl⟩ (q_cons ⟨am_calV (ci := 3) (qtX3_keep l) qbX3_keep (by decide) rfl (am_tb_at 880 (by decide +kernel) rfl), rfl⟩ (q_cons ⟨am_calV (ci := 2) (qtX2_putPoint l) qbX2_putPoint (by decide) rfl (am_tb_at 891 (by decide +kernel) rfl), rfl⟩ (q_nil)))))
def qxX8_movePoint : CX := (qkX8_movePoint, layX, qfX8, qaX8_movePoint, qcX8, qlX8, qmX8, (some .int), false, none, 0, none, fun _ => none)
theorem qzX8_movePoint (l : Launch) : am_sta l qxX8_movePoint RX8 7 cX8_movePoint := ⟨qkX8_movePoint_ok, layX_ok, qfX8_ok, qcX8_ok, qlX8_ok, am_mthP qmX8_ok (by decide), fun k e1 h => (qyX8_movePoint l k e1 h).1⟩
def qsX8_movePoint : SP := fun as F A K => match as with
  | [.inr (.inr o), .inl c, .inl k, .inl x, .inl y] => cond (Nat.beq o 0) ((fgOK (A 2) ∧ hsOK F ∧ (-2147483648 ≤ c ∧ c < 2147483648) ∧ (-2147483648 ≤ k ∧ k < 2147483648) ∧ (-2147483648 ≤ x ∧ x < 2147483648) ∧ (-2147483648 ≤ y ∧ y < 2147483648)) ∧ (∀ (G_1 : FF) (B_1 : AA), (chQ ((0 ≤ c ∧ c < A 2 0 ∧ 0 ≤ k ∧ k < A 2 (18 + c)) ∧ (0 ≤ x ∧ x ≤ 20 ∧ 0 ≤ y ∧ y ≤ 20)) F G_1 A B_1 (movR (A 2) c k x y)) → (K (some (some (vI (if (0 ≤ c ∧ c < A 2 0 ∧ 0 ≤ k ∧ k < A 2 (18 + c)) then (if (0 ≤ x ∧ x ≤ 20 ∧ 0 ≤ y ∧ y ≤ 20) then 100 * pxF (A 2) c k 0 + pxF (A 2) c k 1 else -2) else -1)))) G_1 B_1))) (False)
  | _ => False
def qeX8_movePoint : CE := (yX8_movePoint, cX8_movePoint, 6, (some .int), 4, some 8, 0, none, 0, 7, qsX8_movePoint)
theorem qbX8_movePoint : am_mb qeX8_movePoint := ⟨am_tb_at 866 (by decide +kernel) rfl, am_tb_at 35 (by decide +kernel) rfl, ⟨by decide, by decide, by decide +kernel⟩, by decide, am_tb_at 864 (by decide +kernel) rfl, am_tb_at 865 (by decide +kernel) rfl, _, _, rfl⟩
set_option maxRecDepth 20000 in
theorem qvX8_movePoint_0 (c : Int) (k : Int) (x : Int) (y : Int) (F : FF) (A : AA) (K : KK) (h : (fgOK (A 2) ∧ hsOK F ∧ (-2147483648 ≤ c ∧ c < 2147483648) ∧ (-2147483648 ≤ k ∧ k < 2147483648) ∧ (-2147483648 ≤ x ∧ x < 2147483648) ∧ (-2147483648 ≤ y ∧ y < 2147483648)) ∧ (∀ (G_1 : FF) (B_1 : AA), (chQ ((0 ≤ c ∧ c < A 2 0 ∧ 0 ≤ k ∧ k < A 2 (18 + c)) ∧ (0 ≤ x ∧ x ≤ 20 ∧ 0 ≤ y ∧ y ≤ 20)) F G_1 A B_1 (movR (A 2) c k x y)) → (K (some (some (vI (if (0 ≤ c ∧ c < A 2 0 ∧ 0 ≤ k ∧ k < A 2 (18 + c)) then (if (0 ≤ x ∧ x ≤ 20 ∧ 0 ≤ y ∧ y ≤ 20) then 100 * pxF (A 2) c k 0 + pxF (A 2) c k 1 else -2) else -1)))) G_1 B_1))) : am_line qxX8_movePoint 47 [vR 0, vI c, vI k, vI x, vI y] 6 F A K := by
  show am_stp qxX8_movePoint (am_run qxX8_movePoint (fun _ => none) (fun _ _ _ _ _ _ => False) K 47) K 0 [some (vR 0), some (vI c), some (vI k), some (vI x), some (vI y), none] [] F A 0
  obtain ⟨hp, h⟩ := h
  have p1 := hp.1
  have ph := hp.2.1
  have q1 := p1.1.1
  have q2 := p1.1.2
  obtain ⟨ph1, ph2⟩ := ph
  have hpt := pt_iff p1 (c := c) (k := k) hp.2.2.1 hp.2.2.2.1
  show (w32 (bi (0 ≤ w32 c ∧ w32 c < w32 (fat (A 2) 0) ∧ 0 ≤ w32 k ∧ w32 k < w32 (fat (A 2) (18 + c)))) = w32 0 → (K (some (some (vI (-1)))) F A)) ∧ (¬ (w32 (bi (0 ≤ w32 c ∧ w32 c < w32 (fat (A 2) 0) ∧ 0 ≤ w32 k ∧ w32 k < w32 (fat (A 2) (18 + c)))) = w32 0) → ((w32 (bi (0 ≤ w32 x ∧ w32 x ≤ 20 ∧ 0 ≤ w32 y ∧ w32 y ≤ 20)) = w32 0 → (K (some (some (vI (-2)))) F A)) ∧ (¬ (w32 (bi (0 ≤ w32 x ∧ w32 x ≤ 20 ∧ 0 ≤ w32 y ∧ w32 y ≤ 20)) = w32 0) → ((0 ≤ (F 5 1) ∧ (F 5 1) ≤ 9 ∧ 0 ≤ (F 5 2) ∧ (F 5 2) ≤ 10) ∧ (∀ (G_1 : FF), (G_1 = upF (upF F 5 1 (if (F 5 2) = 10 then ((F 5 1) + 1) % 10 else (F 5 1))) 5 2 (if (F 5 2) = 10 then 10 else (F 5 2) + 1)) → (K (some (some (vI ((100 * (fat (A 2) (26 + (c * 4 + k) * 3 + 0))) + (fat (A 2) (26 + (c * 4 + k) * 3 + 1)))))) G_1 (putP (setR A 6 ((if (F 5 2) = 10 then ((F 5 1) + 1) % 10 + 9 else (F 5 1) + (F 5 2)) % 10 * 140) 140 (A 2)) 2 c k x y (fat ((setR A 6 ((if (F 5 2) = 10 then ((F 5 1) + 1) % 10 + 9 else (F 5 1) + (F 5 2)) % 10 * 140) 140 (A 2)) 2) (26 + (c * 4 + k) * 3 + 2)))))))))
  refine ⟨fun c1 => ?_, fun c1 => ?_⟩
  · skip
    (try simp only [w32_0, wbi0, Classical.not_not] at c1); (try rw [hpt] at c1); (try simp (disch := omega) only [fat_in] at c1); (try simp (disch := omega) only [w32_0, wbi0, Classical.not_not, w32_id] at c1)
    first
    | exact K_eq (h _ _ ⟨fun z => absurd z (by omega), fun _ => ⟨rfl, rfl⟩⟩) (if_neg (by omega))
    | exact K_eq (h _ _ ⟨fun z => absurd z (by omega), fun _ => ⟨rfl, rfl⟩⟩) (by rw [if_pos (by omega), if_neg (by omega)])
    | (have q3 := (p1.2.2.1 c (by omega) (by omega)).1
       refine K_eq (h _ _ ⟨fun _ => ⟨gk, fun b i hb => by rw [putP_r hb], fun i i0 i1 => ?_⟩, fun z => absurd (by omega) z⟩) ?_
       · rw [putP_2 (by omega) (by omega) (by omega) (by omega), kA_2]
         unfold movR
         by_cases e : i = 26 + (c * 4 + k) * 3 + 2
         · subst e; rw [if_neg (by omega), if_neg (by omega), if_pos rfl, if_neg (by omega), if_neg (by omega), fat_in (by omega) (by omega)]
         · rw [if_neg e]
       · rw [if_pos (by omega), if_pos (by omega)]; simp (disch := omega) only [fat_in]; rfl)
  · skip
    (try simp only [w32_0, wbi0, Classical.not_not] at c1); (try rw [hpt] at c1); (try simp (disch := omega) only [fat_in] at c1); (try simp (disch := omega) only [w32_0, wbi0, Classical.not_not, w32_id] at c1)
    refine ⟨fun c2 => ?_, fun c2 => ?_⟩
    · skip
      (try simp only [w32_0, wbi0, Classical.not_not] at c2); (try rw [hpt] at c2); (try simp (disch := omega) only [fat_in] at c2); (try simp (disch := omega) only [w32_0, wbi0, Classical.not_not, w32_id] at c2)
      first
      | exact K_eq (h _ _ ⟨fun z => absurd z (by omega), fun _ => ⟨rfl, rfl⟩⟩) (if_neg (by omega))
      | exact K_eq (h _ _ ⟨fun z => absurd z (by omega), fun _ => ⟨rfl, rfl⟩⟩) (by rw [if_pos (by omega), if_neg (by omega)])
      | (have q3 := (p1.2.2.1 c (by omega) (by omega)).1
         refine K_eq (h _ _ ⟨fun _ => ⟨gk, fun b i hb => by rw [putP_r hb], fun i i0 i1 => ?_⟩, fun z => absurd (by omega) z⟩) ?_
         · rw [putP_2 (by omega) (by omega) (by omega) (by omega), kA_2]
           unfold movR
           by_cases e : i = 26 + (c * 4 + k) * 3 + 2
           · subst e; rw [if_neg (by omega), if_neg (by omega), if_pos rfl, if_neg (by omega), if_neg (by omega), fat_in (by omega) (by omega)]
           · rw [if_neg e]
         · rw [if_pos (by omega), if_pos (by omega)]; simp (disch := omega) only [fat_in]; rfl)
    · skip
      (try simp only [w32_0, wbi0, Classical.not_not] at c2); (try rw [hpt] at c2); (try simp (disch := omega) only [fat_in] at c2); (try simp (disch := omega) only [w32_0, wbi0, Classical.not_not, w32_id] at c2)
      refine ⟨by first | omega | (exact ⟨ph1.1, ph1.2, ph2.1, ph2.2⟩), ?_⟩
      intro G_1 g1
      have gk : G_1 = kF F := g1
      have ek : setR A 6 ((if F 5 2 = 10 then (F 5 1 + 1) % 10 + 9 else F 5 1 + F 5 2) % 10 * 140) 140 (A 2) = kA F A := rfl
      rw [ek]
      first
      | exact K_eq (h _ _ ⟨fun z => absurd z (by omega), fun _ => ⟨rfl, rfl⟩⟩) (if_neg (by omega))
      | exact K_eq (h _ _ ⟨fun z => absurd z (by omega), fun _ => ⟨rfl, rfl⟩⟩) (by rw [if_pos (by omega), if_neg (by omega)])
      | (have q3 := (p1.2.2.1 c (by omega) (by omega)).1
         refine K_eq (h _ _ ⟨fun _ => ⟨gk, fun b i hb => by rw [putP_r hb], fun i i0 i1 => ?_⟩, fun z => absurd (by omega) z⟩) ?_
         · rw [putP_2 (by omega) (by omega) (by omega) (by omega), kA_2]
           unfold movR
           by_cases e : i = 26 + (c * 4 + k) * 3 + 2
           · subst e; rw [if_neg (by omega), if_neg (by omega), if_pos rfl, if_neg (by omega), if_neg (by omega), fat_in (by omega) (by omega)]
           · rw [if_neg e]
         · rw [if_pos (by omega), if_pos (by omega)]; simp (disch := omega) only [fat_in]; rfl)
theorem qtX8_movePoint (l : Launch) : am_CT l layX qeX8_movePoint := am_met0 rfl (by decide +kernel) rfl rfl rfl rfl rfl (fun _ => rfl) rfl (qzX8_movePoint l) (fun k e1 h => (qyX8_movePoint l k e1 h).2) (fun as F A K h => by
  replace h : qsX8_movePoint as F A K := h
  unfold qsX8_movePoint at h
  split at h
  · rename_i o c k x y
    refine ⟨by first | exact Nat.le_of_ble_eq_true rfl | simp [am_fl, am_cat], ?_⟩
    replace h := am_cond2 h
    rcases h with ⟨hb, h⟩ | h
    · skip
      have hb0 := hb
      have hb0 := am_bq hb0
      subst hb0
      exact am_way_line (qvX8_movePoint_0 c k x y F A K h)
    exact h.elim
  · exact h.elim)
def qkX8_setWeight : Nat → Option CI := fun pc => cond (Nat.ble 82 pc) none (cond (Nat.ble 39 pc) (cond (Nat.ble 61 pc) (cond (Nat.ble 71 pc) (cond (Nat.ble 76 pc) (cond (Nat.beq pc 76) (some (.invokevirtual 316, 79, [])) (cond (Nat.beq pc 79) (some (.iload 4, 81, [])) (cond (Nat.beq pc 81) (some (.ireturn, 82, [])) (none)))) (cond (Nat.beq pc 71) (some (.iconst 1, 72, [])) (cond (Nat.beq pc 72) (some (.invokevirtual 137, 75, [])) (cond (Nat.beq pc 75) (some (.iload_n 3, 76, [])) (none))))) (cond (Nat.ble 66 pc) (cond (Nat.beq pc 66) (some (.getfield 10, 69, [])) (cond (Nat.beq pc 69) (some (.iload_n 1, 70, [])) (cond (Nat.beq pc 70) (some (.iload_n 2, 71, [])) (none)))) (cond (Nat.beq pc 61) (some (.iconst 0, 62, [])) (cond (Nat.beq pc 62) (some (.invokevirtual 137, 65, [])) (cond (Nat.beq pc 65) (some (.aload_n 0, 66, [])) (none)))))) (cond (Nat.ble 53 pc) (cond (Nat.ble 56 pc) (cond (Nat.beq pc 56) (some (.getfield 10, 59, [])) (cond (Nat.beq pc 59) (some (.iload_n 1, 60, [])) (cond (Nat.beq pc 60) (some (.iload_n 2, 61, [])) (none)))) (cond (Nat.beq pc 53) (some (.iload_n 1, 54, [])) (cond (Nat.beq pc 54) (some (.iload_n 2, 55, [])) (cond (Nat.beq pc 55) (some (.aload_n 0, 56, [])) (none))))) (cond (Nat.ble 46 pc) (cond (Nat.beq pc 46) (some (.invokevirtual 313, 49, [])) (cond (Nat.beq pc 49) (some (.aload_n 0, 50, [])) (cond (Nat.beq pc 50) (some (.getfield 10, 53, [])) (none)))) (cond (Nat.beq pc 39) (some (.getfield 22, 42, [])) (cond (Nat.beq pc 42) (some (.aload_n 0, 43, [])) (cond (Nat.beq pc 43) (some (.getfield 10, 46, [])) (none))))))) (cond (Nat.ble 17 pc) (cond (Nat.ble 30 pc) (cond (Nat.ble 33 pc) (cond (Nat.beq pc 33) (some (.invokevirtual 137, 36, [])) (cond (Nat.beq pc 36) (some (.istore 4, 38, [])) (cond (Nat.beq pc 38) (some (.aload_n 0, 39, [])) (none)))) (cond (Nat.beq pc 30) (some (.iload_n 1, 31, [])) (cond (Nat.beq pc 31) (some (.iload_n 2, 32, [])) (cond (Nat.beq pc 32) (some (.iconst 2, 33, [])) (none))))) (cond (Nat.ble 25 pc) (cond (Nat.beq pc 25) (some (.ireturn, 26, [])) (cond (Nat.beq pc 26) (some (.aload_n 0, 27, [])) (cond (Nat.beq pc 27) (some (.getfield 10, 30, [])) (none)))) (cond (Nat.beq pc 17) (some (.invokestatic 133, 20, [])) (cond (Nat.beq pc 20) (some (.ifCond .ne 6, 23, [26])) (cond (Nat.beq pc 23) (some (.bipush (-2), 25, [])) (none)))))) (cond (Nat.ble 9 pc) (cond (Nat.ble 14 pc) (cond (Nat.beq pc 14) (some (.iload_n 3, 15, [])) (cond (Nat.beq pc 15) (some (.iconst 1, 16, [])) (cond (Nat.beq pc 16) (some (.iconst 3, 17, [])) (none)))) (cond (Nat.beq pc 9) (some (.ifCond .ne 5, 12, [14])) (cond (Nat.beq pc 12) (some (.iconst (-1), 13, [])) (cond (Nat.beq pc 13) (some (.ireturn, 14, [])) (none))))) (cond (Nat.ble 4 pc) (cond (Nat.beq pc 4) (some (.iload_n 1, 5, [])) (cond (Nat.beq pc 5) (some (.iload_n 2, 6, [])) (cond (Nat.beq pc 6) (some (.invokevirtual 129, 9, [])) (none)))) (cond (Nat.beq pc 0) (some (.aload_n 0, 1, [])) (cond (Nat.beq pc 1) (some (.getfield 10, 4, [])) (none)))))))
theorem qkX8_setWeight_ok : ∀ pc i nx ts, qkX8_setWeight pc = some (i, nx, ts) → am_cok cX8_setWeight pc (i, nx, ts) = true := fun pc i nx ts h => am_tok_ok (n := 82) (by decide +kernel) (fun pc h => by show cond (Nat.ble 82 pc) _ _ = _; rw [Nat.ble_eq_true_of_le h]; rfl) h
def qaX8_setWeight : Nat → Option CE := fun k => cond (Nat.beq k 129) (some qeX2_hasPoint) (cond (Nat.beq k 133) (some qeX8_isWithin) (cond (Nat.beq k 137) (some qeX2_point) (cond (Nat.beq k 313) (some qeX3_keep) (cond (Nat.beq k 316) (some qeX2_putPoint) (none)))))
theorem qyX8_setWeight (l : Launch) : ∀ k e1, qaX8_setWeight k = some e1 → am_cal l layX RX8 7 k e1 ∧ ceT e1 = 0 := q_cons ⟨am_calV (ci := 2) (qtX2_hasPoint l) qbX2_hasPoint (by decide) rfl (am_tb_at 867 (by decide +kernel) rfl), rfl⟩ (q_cons ⟨am_calS (qtX8_isWithin l) qbX8_isWithin (by decide) rfl (by decide) (am_tb_at 875 (by decide +kernel) rfl), rfl⟩ (q_cons ⟨am_calV (ci := 2) (qtX2_point l) qbX2_point (by decide) rfl (am_tb_at 876 (by decide +kernel) rfl), rfl⟩ (q_cons ⟨am_calV (ci := 3) (qtX3_keep l) qbX3_keep (by decide) rfl (am_tb_at 880 (by decide +kernel) rfl), rfl⟩ (q_cons ⟨am_calV (ci := 2) (qtX2_putPoint l) qbX2_putPoint (by decide) rfl (am_tb_at 891 (by decide +kernel) rfl), rfl⟩ (q_nil)))))
def qxX8_setWeight : CX := (qkX8_setWeight, layX, qfX8, qaX8_setWeight, qcX8, qlX8, qmX8, (some .int), false, none, 0, none, fun _ => none)
theorem qzX8_setWeight (l : Launch) : am_sta l qxX8_setWeight RX8 7 cX8_setWeight := ⟨qkX8_setWeight_ok, layX_ok, qfX8_ok, qcX8_ok, qlX8_ok, am_mthP qmX8_ok (by decide), fun k e1 h => (qyX8_setWeight l k e1 h).1⟩
def qsX8_setWeight : SP := fun as F A K => match as with
  | [.inr (.inr o), .inl c, .inl k, .inl w] => cond (Nat.beq o 0) ((fgOK (A 2) ∧ hsOK F ∧ (-2147483648 ≤ c ∧ c < 2147483648) ∧ (-2147483648 ≤ k ∧ k < 2147483648) ∧ (-2147483648 ≤ w ∧ w < 2147483648)) ∧ (∀ (G_1 : FF) (B_1 : AA), (chQ ((0 ≤ c ∧ c < A 2 0 ∧ 0 ≤ k ∧ k < A 2 (18 + c)) ∧ (1 ≤ w ∧ w ≤ 3)) F G_1 A B_1 (wgR (A 2) c k w)) → (K (some (some (vI (if (0 ≤ c ∧ c < A 2 0 ∧ 0 ≤ k ∧ k < A 2 (18 + c)) then (if (1 ≤ w ∧ w ≤ 3) then pxF (A 2) c k 2 else -2) else -1)))) G_1 B_1))) (False)
  | _ => False
def qeX8_setWeight : CE := (yX8_setWeight, cX8_setWeight, 5, (some .int), 3, some 8, 0, none, 0, 7, qsX8_setWeight)
theorem qbX8_setWeight : am_mb qeX8_setWeight := ⟨am_tb_at 899 (by decide +kernel) rfl, am_tb_at 35 (by decide +kernel) rfl, ⟨by decide, by decide, by decide +kernel⟩, by decide, am_tb_at 897 (by decide +kernel) rfl, am_tb_at 898 (by decide +kernel) rfl, _, _, rfl⟩
set_option maxRecDepth 20000 in
theorem qvX8_setWeight_0 (c : Int) (k : Int) (w : Int) (F : FF) (A : AA) (K : KK) (h : (fgOK (A 2) ∧ hsOK F ∧ (-2147483648 ≤ c ∧ c < 2147483648) ∧ (-2147483648 ≤ k ∧ k < 2147483648) ∧ (-2147483648 ≤ w ∧ w < 2147483648)) ∧ (∀ (G_1 : FF) (B_1 : AA), (chQ ((0 ≤ c ∧ c < A 2 0 ∧ 0 ≤ k ∧ k < A 2 (18 + c)) ∧ (1 ≤ w ∧ w ≤ 3)) F G_1 A B_1 (wgR (A 2) c k w)) → (K (some (some (vI (if (0 ≤ c ∧ c < A 2 0 ∧ 0 ≤ k ∧ k < A 2 (18 + c)) then (if (1 ≤ w ∧ w ≤ 3) then pxF (A 2) c k 2 else -2) else -1)))) G_1 B_1))) : am_line qxX8_setWeight 44 [vR 0, vI c, vI k, vI w] 5 F A K := by
  show am_stp qxX8_setWeight (am_run qxX8_setWeight (fun _ => none) (fun _ _ _ _ _ _ => False) K 44) K 0 [some (vR 0), some (vI c), some (vI k), some (vI w), none] [] F A 0
  obtain ⟨hp, h⟩ := h
  have p1 := hp.1
  have ph := hp.2.1
  have q1 := p1.1.1
  have q2 := p1.1.2
  obtain ⟨ph1, ph2⟩ := ph
  have hpt := pt_iff p1 (c := c) (k := k) hp.2.2.1 hp.2.2.2.1
  show (w32 (bi (0 ≤ w32 c ∧ w32 c < w32 (fat (A 2) 0) ∧ 0 ≤ w32 k ∧ w32 k < w32 (fat (A 2) (18 + c)))) = w32 0 → (K (some (some (vI (-1)))) F A)) ∧ (¬ (w32 (bi (0 ≤ w32 c ∧ w32 c < w32 (fat (A 2) 0) ∧ 0 ≤ w32 k ∧ w32 k < w32 (fat (A 2) (18 + c)))) = w32 0) → ((w32 (bi (w32 1 ≤ w32 w ∧ w32 w ≤ w32 3)) = w32 0 → (K (some (some (vI (-2)))) F A)) ∧ (¬ (w32 (bi (w32 1 ≤ w32 w ∧ w32 w ≤ w32 3)) = w32 0) → ((0 ≤ (F 5 1) ∧ (F 5 1) ≤ 9 ∧ 0 ≤ (F 5 2) ∧ (F 5 2) ≤ 10) ∧ (∀ (G_1 : FF), (G_1 = upF (upF F 5 1 (if (F 5 2) = 10 then ((F 5 1) + 1) % 10 else (F 5 1))) 5 2 (if (F 5 2) = 10 then 10 else (F 5 2) + 1)) → (K (some (some (vI (fat (A 2) (26 + (c * 4 + k) * 3 + 2))))) G_1 (putP (setR A 6 ((if (F 5 2) = 10 then ((F 5 1) + 1) % 10 + 9 else (F 5 1) + (F 5 2)) % 10 * 140) 140 (A 2)) 2 c k (fat ((setR A 6 ((if (F 5 2) = 10 then ((F 5 1) + 1) % 10 + 9 else (F 5 1) + (F 5 2)) % 10 * 140) 140 (A 2)) 2) (26 + (c * 4 + k) * 3 + 0)) (fat ((setR A 6 ((if (F 5 2) = 10 then ((F 5 1) + 1) % 10 + 9 else (F 5 1) + (F 5 2)) % 10 * 140) 140 (A 2)) 2) (26 + (c * 4 + k) * 3 + 1)) w)))))))
  refine ⟨fun c1 => ?_, fun c1 => ?_⟩
  · skip
    (try simp only [w32_0, wbi0, Classical.not_not] at c1); (try rw [hpt] at c1); (try simp (disch := omega) only [fat_in] at c1); (try simp (disch := omega) only [w32_0, wbi0, Classical.not_not, w32_id] at c1)
    first
    | exact K_eq (h _ _ ⟨fun z => absurd z (by omega), fun _ => ⟨rfl, rfl⟩⟩) (if_neg (by omega))
    | exact K_eq (h _ _ ⟨fun z => absurd z (by omega), fun _ => ⟨rfl, rfl⟩⟩) (by rw [if_pos (by omega), if_neg (by omega)])
    | (have q3 := (p1.2.2.1 c (by omega) (by omega)).1
       refine K_eq (h _ _ ⟨fun _ => ⟨gk, fun b i hb => by rw [putP_r hb], fun i i0 i1 => ?_⟩, fun z => absurd (by omega) z⟩) ?_
       · rw [putP_2 (by omega) (by omega) (by omega) (by omega), kA_2]
         unfold wgR
         by_cases e2 : i = 26 + (c * 4 + k) * 3 + 2
         · rw [if_neg (by omega), if_neg (by omega), if_pos e2]
         · rw [if_neg e2]
           by_cases e : i = 26 + (c * 4 + k) * 3
           · rw [if_pos e, e, fat_in (by omega) (by omega), Int.add_zero]
           · rw [if_neg e]
             by_cases e1 : i = 26 + (c * 4 + k) * 3 + 1
             · rw [if_pos e1, e1, fat_in (by omega) (by omega)]
             · rw [if_neg e1]
       · rw [if_pos (by omega), if_pos (by omega)]; simp (disch := omega) only [fat_in]; rfl)
  · skip
    (try simp only [w32_0, wbi0, Classical.not_not] at c1); (try rw [hpt] at c1); (try simp (disch := omega) only [fat_in] at c1); (try simp (disch := omega) only [w32_0, wbi0, Classical.not_not, w32_id] at c1)
    refine ⟨fun c2 => ?_, fun c2 => ?_⟩
    · skip
      (try simp only [w32_0, wbi0, Classical.not_not] at c2); (try rw [hpt] at c2); (try simp (disch := omega) only [fat_in] at c2); (try simp (disch := omega) only [w32_0, wbi0, Classical.not_not, w32_id] at c2)
      first
      | exact K_eq (h _ _ ⟨fun z => absurd z (by omega), fun _ => ⟨rfl, rfl⟩⟩) (if_neg (by omega))
      | exact K_eq (h _ _ ⟨fun z => absurd z (by omega), fun _ => ⟨rfl, rfl⟩⟩) (by rw [if_pos (by omega), if_neg (by omega)])
      | (have q3 := (p1.2.2.1 c (by omega) (by omega)).1
         refine K_eq (h _ _ ⟨fun _ => ⟨gk, fun b i hb => by rw [putP_r hb], fun i i0 i1 => ?_⟩, fun z => absurd (by omega) z⟩) ?_
         · rw [putP_2 (by omega) (by omega) (by omega) (by omega), kA_2]
           unfold wgR
           by_cases e2 : i = 26 + (c * 4 + k) * 3 + 2
           · rw [if_neg (by omega), if_neg (by omega), if_pos e2]
           · rw [if_neg e2]
             by_cases e : i = 26 + (c * 4 + k) * 3
             · rw [if_pos e, e, fat_in (by omega) (by omega), Int.add_zero]
             · rw [if_neg e]
               by_cases e1 : i = 26 + (c * 4 + k) * 3 + 1
               · rw [if_pos e1, e1, fat_in (by omega) (by omega)]
               · rw [if_neg e1]
         · rw [if_pos (by omega), if_pos (by omega)]; simp (disch := omega) only [fat_in]; rfl)
    · skip
      (try simp only [w32_0, wbi0, Classical.not_not] at c2); (try rw [hpt] at c2); (try simp (disch := omega) only [fat_in] at c2); (try simp (disch := omega) only [w32_0, wbi0, Classical.not_not, w32_id] at c2)
      refine ⟨by first | omega | (exact ⟨ph1.1, ph1.2, ph2.1, ph2.2⟩), ?_⟩
      intro G_1 g1
      have gk : G_1 = kF F := g1
      have ek : setR A 6 ((if F 5 2 = 10 then (F 5 1 + 1) % 10 + 9 else F 5 1 + F 5 2) % 10 * 140) 140 (A 2) = kA F A := rfl
      rw [ek]
      first
      | exact K_eq (h _ _ ⟨fun z => absurd z (by omega), fun _ => ⟨rfl, rfl⟩⟩) (if_neg (by omega))
      | exact K_eq (h _ _ ⟨fun z => absurd z (by omega), fun _ => ⟨rfl, rfl⟩⟩) (by rw [if_pos (by omega), if_neg (by omega)])
      | (have q3 := (p1.2.2.1 c (by omega) (by omega)).1
         refine K_eq (h _ _ ⟨fun _ => ⟨gk, fun b i hb => by rw [putP_r hb], fun i i0 i1 => ?_⟩, fun z => absurd (by omega) z⟩) ?_
         · rw [putP_2 (by omega) (by omega) (by omega) (by omega), kA_2]
           unfold wgR
           by_cases e2 : i = 26 + (c * 4 + k) * 3 + 2
           · rw [if_neg (by omega), if_neg (by omega), if_pos e2]
           · rw [if_neg e2]
             by_cases e : i = 26 + (c * 4 + k) * 3
             · rw [if_pos e, e, fat_in (by omega) (by omega), Int.add_zero]
             · rw [if_neg e]
               by_cases e1 : i = 26 + (c * 4 + k) * 3 + 1
               · rw [if_pos e1, e1, fat_in (by omega) (by omega)]
               · rw [if_neg e1]
         · rw [if_pos (by omega), if_pos (by omega)]; simp (disch := omega) only [fat_in]; rfl)
theorem qtX8_setWeight (l : Launch) : am_CT l layX qeX8_setWeight := am_met0 rfl (by decide +kernel) rfl rfl rfl rfl rfl (fun _ => rfl) rfl (qzX8_setWeight l) (fun k e1 h => (qyX8_setWeight l k e1 h).2) (fun as F A K h => by
  replace h : qsX8_setWeight as F A K := h
  unfold qsX8_setWeight at h
  split at h
  · rename_i o c k w
    refine ⟨by first | exact Nat.le_of_ble_eq_true rfl | simp [am_fl, am_cat], ?_⟩
    replace h := am_cond2 h
    rcases h with ⟨hb, h⟩ | h
    · skip
      have hb0 := hb
      have hb0 := am_bq hb0
      subst hb0
      exact am_way_line (qvX8_setWeight_0 c k w F A K h)
    exact h.elim
  · exact h.elim)
def qkX8_setSetting : Nat → Option CI := fun pc => cond (Nat.ble 53 pc) none (cond (Nat.ble 27 pc) (cond (Nat.ble 42 pc) (cond (Nat.ble 47 pc) (cond (Nat.ble 51 pc) (cond (Nat.beq pc 51) (some (.iload_n 3, 52, [])) (cond (Nat.beq pc 52) (some (.ireturn, 53, [])) (none))) (cond (Nat.beq pc 47) (some (.iload_n 2, 48, [])) (cond (Nat.beq pc 48) (some (.invokevirtual 345, 51, [])) (none)))) (cond (Nat.beq pc 42) (some (.aload_n 0, 43, [])) (cond (Nat.beq pc 43) (some (.getfield 10, 46, [])) (cond (Nat.beq pc 46) (some (.iload_n 1, 47, [])) (none))))) (cond (Nat.ble 32 pc) (cond (Nat.ble 36 pc) (cond (Nat.beq pc 36) (some (.getfield 10, 39, [])) (cond (Nat.beq pc 39) (some (.invokevirtual 313, 42, [])) (none))) (cond (Nat.beq pc 32) (some (.getfield 22, 35, [])) (cond (Nat.beq pc 35) (some (.aload_n 0, 36, [])) (none)))) (cond (Nat.beq pc 27) (some (.invokevirtual 120, 30, [])) (cond (Nat.beq pc 30) (some (.istore_n 3, 31, [])) (cond (Nat.beq pc 31) (some (.aload_n 0, 32, [])) (none)))))) (cond (Nat.ble 13 pc) (cond (Nat.ble 21 pc) (cond (Nat.ble 23 pc) (cond (Nat.beq pc 23) (some (.getfield 10, 26, [])) (cond (Nat.beq pc 26) (some (.iload_n 1, 27, [])) (none))) (cond (Nat.beq pc 21) (some (.ireturn, 22, [])) (cond (Nat.beq pc 22) (some (.aload_n 0, 23, [])) (none)))) (cond (Nat.beq pc 13) (some (.invokestatic 133, 16, [])) (cond (Nat.beq pc 16) (some (.ifCond .ne 6, 19, [22])) (cond (Nat.beq pc 19) (some (.bipush (-2), 21, [])) (none))))) (cond (Nat.ble 7 pc) (cond (Nat.ble 9 pc) (cond (Nat.beq pc 9) (some (.iload_n 1, 10, [])) (cond (Nat.beq pc 10) (some (.invokestatic 342, 13, [])) (none))) (cond (Nat.beq pc 7) (some (.iload_n 2, 8, [])) (cond (Nat.beq pc 8) (some (.iconst 1, 9, [])) (none)))) (cond (Nat.beq pc 0) (some (.iload_n 1, 1, [])) (cond (Nat.beq pc 1) (some (.invokestatic 116, 4, [])) (cond (Nat.beq pc 4) (some (.ifCond .eq 15, 7, [19])) (none)))))))
theorem qkX8_setSetting_ok : ∀ pc i nx ts, qkX8_setSetting pc = some (i, nx, ts) → am_cok cX8_setSetting pc (i, nx, ts) = true := fun pc i nx ts h => am_tok_ok (n := 53) (by decide +kernel) (fun pc h => by show cond (Nat.ble 53 pc) _ _ = _; rw [Nat.ble_eq_true_of_le h]; rfl) h
def qaX8_setSetting : Nat → Option CE := fun k => cond (Nat.beq k 116) (some qeX8_isSetting) (cond (Nat.beq k 342) (some qeX8_greatestOf) (cond (Nat.beq k 133) (some qeX8_isWithin) (cond (Nat.beq k 120) (some qeX2_setting) (cond (Nat.beq k 313) (some qeX3_keep) (cond (Nat.beq k 345) (some qeX2_putSetting) (none))))))
theorem qyX8_setSetting (l : Launch) : ∀ k e1, qaX8_setSetting k = some e1 → am_cal l layX RX8 5 k e1 ∧ ceT e1 = 0 := q_cons ⟨am_calS (qtX8_isSetting l) qbX8_isSetting (by decide) rfl (by decide) (am_tb_at 972 (by decide +kernel) rfl), rfl⟩ (q_cons ⟨am_calS (qtX8_greatestOf l) qbX8_greatestOf (by decide) rfl (by decide) (am_tb_at 975 (by decide +kernel) rfl), rfl⟩ (q_cons ⟨am_calS (qtX8_isWithin l) qbX8_isWithin (by decide) rfl (by decide) (am_tb_at 875 (by decide +kernel) rfl), rfl⟩ (q_cons ⟨am_calV (ci := 2) (qtX2_setting l) qbX2_setting (by decide) rfl (am_tb_at 976 (by decide +kernel) rfl), rfl⟩ (q_cons ⟨am_calV (ci := 3) (qtX3_keep l) qbX3_keep (by decide) rfl (am_tb_at 880 (by decide +kernel) rfl), rfl⟩ (q_cons ⟨am_calV (ci := 2) (qtX2_putSetting l) qbX2_putSetting (by decide) rfl (am_tb_at 980 (by decide +kernel) rfl), rfl⟩ (q_nil))))))
def qxX8_setSetting : CX := (qkX8_setSetting, layX, qfX8, qaX8_setSetting, qcX8, qlX8, qmX8, (some .int), false, none, 0, none, fun _ => none)
theorem qzX8_setSetting (l : Launch) : am_sta l qxX8_setSetting RX8 5 cX8_setSetting := ⟨qkX8_setSetting_ok, layX_ok, qfX8_ok, qcX8_ok, qlX8_ok, am_mthP qmX8_ok (by decide), fun k e1 h => (qyX8_setSetting l k e1 h).1⟩
def qsX8_setSetting : SP := fun as F A K => match as with
  | [.inr (.inr o), .inl s, .inl v] => cond (Nat.beq o 0) ((fgOK (A 2) ∧ hsOK F ∧ (-2147483648 ≤ s ∧ s < 2147483648) ∧ (-2147483648 ≤ v ∧ v < 2147483648)) ∧ (∀ (G_1 : FF) (B_1 : AA), (chQ (((s = 0 ∨ s = 1) ∧ 1 ≤ v ∧ v ≤ (if s = 0 then 12 else 6))) F G_1 A B_1 (stR (A 2) s v)) → (K (some (some (vI (if ((s = 0 ∨ s = 1) ∧ 1 ≤ v ∧ v ≤ (if s = 0 then 12 else 6)) then A 2 (2 + s) else -2)))) G_1 B_1))) (False)
  | _ => False
def qeX8_setSetting : CE := (yX8_setSetting, cX8_setSetting, 4, (some .int), 2, some 8, 0, none, 0, 5, qsX8_setSetting)
theorem qbX8_setSetting : am_mb qeX8_setSetting := ⟨am_tb_at 971 (by decide +kernel) rfl, am_tb_at 35 (by decide +kernel) rfl, ⟨by decide, by decide, by decide +kernel⟩, by decide, am_tb_at 969 (by decide +kernel) rfl, am_tb_at 970 (by decide +kernel) rfl, _, _, rfl⟩
set_option maxRecDepth 20000 in
theorem qvX8_setSetting_0 (s : Int) (v : Int) (F : FF) (A : AA) (K : KK) (h : (fgOK (A 2) ∧ hsOK F ∧ (-2147483648 ≤ s ∧ s < 2147483648) ∧ (-2147483648 ≤ v ∧ v < 2147483648)) ∧ (∀ (G_1 : FF) (B_1 : AA), (chQ (((s = 0 ∨ s = 1) ∧ 1 ≤ v ∧ v ≤ (if s = 0 then 12 else 6))) F G_1 A B_1 (stR (A 2) s v)) → (K (some (some (vI (if ((s = 0 ∨ s = 1) ∧ 1 ≤ v ∧ v ≤ (if s = 0 then 12 else 6)) then A 2 (2 + s) else -2)))) G_1 B_1))) : am_line qxX8_setSetting 27 [vR 0, vI s, vI v] 4 F A K := by
  show am_stp qxX8_setSetting (am_run qxX8_setSetting (fun _ => none) (fun _ _ _ _ _ _ => False) K 27) K 0 [some (vR 0), some (vI s), some (vI v), none] [] F A 0
  obtain ⟨hp, h⟩ := h
  have p1 := hp.1
  have ph := hp.2.1
  have q1 := p1.1.1
  have q2 := p1.1.2
  obtain ⟨ph1, ph2⟩ := ph
  show (w32 (bi (w32 s = 0 ∨ w32 s = 1)) = w32 0 → (K (some (some (vI (-2)))) F A)) ∧ (¬ (w32 (bi (w32 s = 0 ∨ w32 s = 1)) = w32 0) → ((w32 (bi (w32 1 ≤ w32 v ∧ w32 v ≤ w32 (if w32 s = 0 then 12 else 6))) = w32 0 → (K (some (some (vI (-2)))) F A)) ∧ (¬ (w32 (bi (w32 1 ≤ w32 v ∧ w32 v ≤ w32 (if w32 s = 0 then 12 else 6))) = w32 0) → ((0 ≤ (F 5 1) ∧ (F 5 1) ≤ 9 ∧ 0 ≤ (F 5 2) ∧ (F 5 2) ≤ 10) ∧ (∀ (G_1 : FF), (G_1 = upF (upF F 5 1 (if (F 5 2) = 10 then ((F 5 1) + 1) % 10 else (F 5 1))) 5 2 (if (F 5 2) = 10 then 10 else (F 5 2) + 1)) → (K (some (some (vI (fat (A 2) (2 + s))))) G_1 (fput (setR A 6 ((if (F 5 2) = 10 then ((F 5 1) + 1) % 10 + 9 else (F 5 1) + (F 5 2)) % 10 * 140) 140 (A 2)) 2 (2 + s) v)))))))
  refine ⟨fun c1 => ?_, fun c1 => ?_⟩
  · skip
    (try simp only [w32_0, wbi0, Classical.not_not] at c1); (try rw [hpt] at c1); (try simp (disch := omega) only [fat_in] at c1); (try simp (disch := omega) only [w32_0, wbi0, Classical.not_not, w32_id] at c1)
    first
    | exact K_eq (h _ _ ⟨fun z => absurd z (by omega), fun _ => ⟨rfl, rfl⟩⟩) (if_neg (by omega))
    | (refine K_eq (h _ _ ⟨fun _ => ⟨gk, fun b i hb => by rw [fput_r hb], fun i i0 i1 => ?_⟩, fun z => absurd (by omega) z⟩) ?_
       · rw [fput_2 (by omega) (by omega), kA_2]; rfl
       · rw [if_pos (by omega), fat_in (by omega) (by omega)])
  · skip
    (try simp only [w32_0, wbi0, Classical.not_not] at c1); (try rw [hpt] at c1); (try simp (disch := omega) only [fat_in] at c1); (try simp (disch := omega) only [w32_0, wbi0, Classical.not_not, w32_id] at c1)
    refine ⟨fun c2 => ?_, fun c2 => ?_⟩
    · skip
      (try simp only [w32_0, wbi0, Classical.not_not] at c2); (try rw [hpt] at c2); (try simp (disch := omega) only [fat_in] at c2); (try simp (disch := omega) only [w32_0, wbi0, Classical.not_not, w32_id] at c2)
      first
      | exact K_eq (h _ _ ⟨fun z => absurd z (by omega), fun _ => ⟨rfl, rfl⟩⟩) (if_neg (by omega))
      | (refine K_eq (h _ _ ⟨fun _ => ⟨gk, fun b i hb => by rw [fput_r hb], fun i i0 i1 => ?_⟩, fun z => absurd (by omega) z⟩) ?_
         · rw [fput_2 (by omega) (by omega), kA_2]; rfl
         · rw [if_pos (by omega), fat_in (by omega) (by omega)])
    · skip
      (try simp only [w32_0, wbi0, Classical.not_not] at c2); (try rw [hpt] at c2); (try simp (disch := omega) only [fat_in] at c2); (try simp (disch := omega) only [w32_0, wbi0, Classical.not_not, w32_id] at c2)
      refine ⟨by first | omega | (exact ⟨ph1.1, ph1.2, ph2.1, ph2.2⟩), ?_⟩
      intro G_1 g1
      have gk : G_1 = kF F := g1
      have ek : setR A 6 ((if F 5 2 = 10 then (F 5 1 + 1) % 10 + 9 else F 5 1 + F 5 2) % 10 * 140) 140 (A 2) = kA F A := rfl
      rw [ek]
      first
      | exact K_eq (h _ _ ⟨fun z => absurd z (by omega), fun _ => ⟨rfl, rfl⟩⟩) (if_neg (by omega))
      | (refine K_eq (h _ _ ⟨fun _ => ⟨gk, fun b i hb => by rw [fput_r hb], fun i i0 i1 => ?_⟩, fun z => absurd (by omega) z⟩) ?_
         · rw [fput_2 (by omega) (by omega), kA_2]; rfl
         · rw [if_pos (by omega), fat_in (by omega) (by omega)])
theorem qtX8_setSetting (l : Launch) : am_CT l layX qeX8_setSetting := am_met0 rfl (by decide +kernel) rfl rfl rfl rfl rfl (fun _ => rfl) rfl (qzX8_setSetting l) (fun k e1 h => (qyX8_setSetting l k e1 h).2) (fun as F A K h => by
  replace h : qsX8_setSetting as F A K := h
  unfold qsX8_setSetting at h
  split at h
  · rename_i o s v
    refine ⟨by first | exact Nat.le_of_ble_eq_true rfl | simp [am_fl, am_cat], ?_⟩
    replace h := am_cond2 h
    rcases h with ⟨hb, h⟩ | h
    · skip
      have hb0 := hb
      have hb0 := am_bq hb0
      subst hb0
      exact am_way_line (qvX8_setSetting_0 s v F A K h)
    exact h.elim
  · exact h.elim)