def qkX9_isTwiceSquare : Nat → Option CI := fun pc => cond (Nat.ble 42 pc) none (cond (Nat.ble 18 pc) (cond (Nat.ble 29 pc) (cond (Nat.ble 36 pc) (cond (Nat.ble 40 pc) (cond (Nat.beq pc 40) (some (.iconst 0, 41, [])) (cond (Nat.beq pc 41) (some (.ireturn, 42, [])) (none))) (cond (Nat.beq pc 36) (some (.iconst 1, 37, [])) (cond (Nat.beq pc 37) (some (.goto 4, 40, [41])) (none)))) (cond (Nat.beq pc 29) (some (.lmul, 30, [])) (cond (Nat.beq pc 30) (some (.invokestatic 138, 33, [])) (cond (Nat.beq pc 33) (some (.ifCond .eq 7, 36, [40])) (none))))) (cond (Nat.ble 23 pc) (cond (Nat.beq pc 23) (some (.lneg, 24, [])) (cond (Nat.beq pc 24) (some (.ldc2_w 136, 27, [])) (cond (Nat.beq pc 27) (some (.lload 4, 29, [])) (none)))) (cond (Nat.beq pc 18) (some (.lcmp, 19, [])) (cond (Nat.beq pc 19) (some (.ifCond .ne 21, 22, [40])) (cond (Nat.beq pc 22) (some (.lload_n 2, 23, [])) (none)))))) (cond (Nat.ble 9 pc) (cond (Nat.ble 14 pc) (cond (Nat.beq pc 14) (some (.lmul, 15, [])) (cond (Nat.beq pc 15) (some (.lload 4, 17, [])) (cond (Nat.beq pc 17) (some (.lmul, 18, [])) (none)))) (cond (Nat.beq pc 9) (some (.lmul, 10, [])) (cond (Nat.beq pc 10) (some (.ldc2_w 134, 13, [])) (cond (Nat.beq pc 13) (some (.lload_n 0, 14, [])) (none))))) (cond (Nat.ble 4 pc) (cond (Nat.beq pc 4) (some (.ifCond .eq 36, 7, [40])) (cond (Nat.beq pc 7) (some (.lload_n 2, 8, [])) (cond (Nat.beq pc 8) (some (.lload_n 2, 9, [])) (none)))) (cond (Nat.beq pc 0) (some (.lload 4, 2, [])) (cond (Nat.beq pc 2) (some (.lconst 0, 3, [])) (cond (Nat.beq pc 3) (some (.lcmp, 4, [])) (none)))))))
theorem qkX9_isTwiceSquare_ok : ∀ pc i nx ts, qkX9_isTwiceSquare pc = some (i, nx, ts) → am_cok cX9_isTwiceSquare pc (i, nx, ts) = true := fun pc i nx ts h => am_tok_ok (n := 42) (by decide +kernel) (fun pc h => by show cond (Nat.ble 42 pc) _ _ = _; rw [Nat.ble_eq_true_of_le h]; rfl) h
def qaX9_isTwiceSquare : Nat → Option CE := fun k => cond (Nat.beq k 138) (some qeX9_isPart) (none)
theorem qyX9_isTwiceSquare (l : Launch) : ∀ k e1, qaX9_isTwiceSquare k = some e1 → am_cal l layM RX9 4 k e1 ∧ ceT e1 = 0 := q_cons ⟨am_calS (qtX9_isPart l) qbX9_isPart (by decide) rfl (by decide) (am_tb_at 1874 (by decide +kernel) rfl), rfl⟩ (q_nil)
def qxX9_isTwiceSquare : CX := (qkX9_isTwiceSquare, layM, qfX9, qaX9_isTwiceSquare, qcX9, qlX9, qmX9, (some .boolean), false, none, 0, none, fun _ => none)
theorem qzX9_isTwiceSquare (l : Launch) : am_sta l qxX9_isTwiceSquare RX9 4 cX9_isTwiceSquare := ⟨qkX9_isTwiceSquare_ok, layM_ok, qfX9_ok, qcX9_ok, qlX9_ok, am_mthP qmX9_ok (by decide), fun k e1 h => (qyX9_isTwiceSquare l k e1 h).1⟩
def qsX9_isTwiceSquare : SP := fun as F A K => match as with
  | [.inr (.inl x), .inr (.inl y), .inr (.inl z)] => ((-1152921504606846976 ≤ x ∧ x ≤ 1152921504606846976) ∧ (-1152921504606846976 ≤ y ∧ y ≤ 1152921504606846976) ∧ (-1152921504606846976 ≤ z ∧ z ≤ 1152921504606846976) ∧ (-4611686018427387904 ≤ y * y ∧ y * y ≤ 4611686018427387904) ∧ (-4611686018427387904 ≤ 4 * x * z ∧ 4 * x * z ≤ 4611686018427387904)) ∧ (K (some (some (vI (bi (¬ z = 0 ∧ y * y = 4 * x * z ∧ isFr (-y) (2 * z)))))) F A)
  | _ => False
def qeX9_isTwiceSquare : CE := (yX9_isTwiceSquare, cX9_isTwiceSquare, 6, (some .boolean), 3, none, 0, [], 0, 4, qsX9_isTwiceSquare)
theorem qbX9_isTwiceSquare : am_mb qeX9_isTwiceSquare := ⟨am_tb_at 1872 (by decide +kernel) rfl, am_tb_at 124 (by decide +kernel) rfl, ⟨by decide, by decide, by decide +kernel⟩, by decide, am_tb_at 1871 (by decide +kernel) rfl⟩
set_option maxRecDepth 20000 in
theorem qvX9_isTwiceSquare (x : Int) (y : Int) (z : Int) (F : FF) (A : AA) (K : KK) (h : ((-1152921504606846976 ≤ x ∧ x ≤ 1152921504606846976) ∧ (-1152921504606846976 ≤ y ∧ y ≤ 1152921504606846976) ∧ (-1152921504606846976 ≤ z ∧ z ≤ 1152921504606846976) ∧ (-4611686018427387904 ≤ y * y ∧ y * y ≤ 4611686018427387904) ∧ (-4611686018427387904 ≤ 4 * x * z ∧ 4 * x * z ≤ 4611686018427387904)) ∧ (K (some (some (vI (bi (¬ z = 0 ∧ y * y = 4 * x * z ∧ isFr (-y) (2 * z)))))) F A)) : am_line qxX9_isTwiceSquare 25 [vL x, vL y, vL z] 6 F A K := by
  show am_stp qxX9_isTwiceSquare (am_run qxX9_isTwiceSquare (fun _ => none) (fun _ _ _ _ _ _ => False) K 25) K 0 [some (vL x), none, some (vL y), none, some (vL z), none] [] F A 0
  obtain ⟨hp, h⟩ := h
  show (w32 (y_cmp z 0) = w32 0 → ((0 = 0 ∨ 0 = 1) ∧ (K (some (some (vI 0))) F A))) ∧ (¬ w32 (y_cmp z 0) = w32 0 → ((w32 (y_cmp (y * y) ((4 * x) * z)) = w32 0 → (((-4611686018427387904 ≤ (-y) ∧ (-y) ≤ 4611686018427387904) ∧ (-4611686018427387904 ≤ (2 * z) ∧ (2 * z) ≤ 4611686018427387904)) ∧ ((w32 (bi (isFr (-y) (2 * z))) = w32 0 → ((0 = 0 ∨ 0 = 1) ∧ (K (some (some (vI 0))) F A))) ∧ (¬ w32 (bi (isFr (-y) (2 * z))) = w32 0 → ((1 = 0 ∨ 1 = 1) ∧ (K (some (some (vI 1))) F A)))))) ∧ (¬ w32 (y_cmp (y * y) ((4 * x) * z)) = w32 0 → ((0 = 0 ∨ 0 = 1) ∧ (K (some (some (vI 0))) F A)))))
  refine ⟨fun c1 => ?_, fun c1 => ?_⟩
  · skip
    (try simp only [w32_0, yc_eq0, w64_0, wbi0, Classical.not_not] at c1); (try rw [w64_id (by omega) (by omega), w64_id (by omega) (by omega)] at c1); (try rw [w64_id (by omega) (by omega)] at c1)
    refine ⟨by first | exact bi_01 | omega | exact ⟨⟨by omega, by omega⟩, by omega, by omega⟩, ?_⟩
    first
    | exact K_eq h (bi_t ⟨c1, c2, c3⟩)
    | exact K_eq h (bi_f (fun q => q.1 c1))
    | exact K_eq h (bi_f (fun q => c2 q.2.1))
    | exact K_eq h (bi_f (fun q => c3 q.2.2))
  · skip
    (try simp only [w32_0, yc_eq0, w64_0, wbi0, Classical.not_not] at c1); (try rw [w64_id (by omega) (by omega), w64_id (by omega) (by omega)] at c1); (try rw [w64_id (by omega) (by omega)] at c1)
    refine ⟨fun c2 => ?_, fun c2 => ?_⟩
    · skip
      (try simp only [w32_0, yc_eq0, w64_0, wbi0, Classical.not_not] at c2); (try rw [w64_id (by omega) (by omega), w64_id (by omega) (by omega)] at c2); (try rw [w64_id (by omega) (by omega)] at c2)
      refine ⟨by first | exact bi_01 | omega | exact ⟨⟨by omega, by omega⟩, by omega, by omega⟩, ?_⟩
      refine ⟨fun c3 => ?_, fun c3 => ?_⟩
      · skip
        (try simp only [w32_0, yc_eq0, w64_0, wbi0, Classical.not_not] at c3); (try rw [w64_id (by omega) (by omega), w64_id (by omega) (by omega)] at c3); (try rw [w64_id (by omega) (by omega)] at c3)
        refine ⟨by first | exact bi_01 | omega | exact ⟨⟨by omega, by omega⟩, by omega, by omega⟩, ?_⟩
        first
        | exact K_eq h (bi_t ⟨c1, c2, c3⟩)
        | exact K_eq h (bi_f (fun q => q.1 c1))
        | exact K_eq h (bi_f (fun q => c2 q.2.1))
        | exact K_eq h (bi_f (fun q => c3 q.2.2))
      · skip
        (try simp only [w32_0, yc_eq0, w64_0, wbi0, Classical.not_not] at c3); (try rw [w64_id (by omega) (by omega), w64_id (by omega) (by omega)] at c3); (try rw [w64_id (by omega) (by omega)] at c3)
        refine ⟨by first | exact bi_01 | omega | exact ⟨⟨by omega, by omega⟩, by omega, by omega⟩, ?_⟩
        first
        | exact K_eq h (bi_t ⟨c1, c2, c3⟩)
        | exact K_eq h (bi_f (fun q => q.1 c1))
        | exact K_eq h (bi_f (fun q => c2 q.2.1))
        | exact K_eq h (bi_f (fun q => c3 q.2.2))
    · skip
      (try simp only [w32_0, yc_eq0, w64_0, wbi0, Classical.not_not] at c2); (try rw [w64_id (by omega) (by omega), w64_id (by omega) (by omega)] at c2); (try rw [w64_id (by omega) (by omega)] at c2)
      refine ⟨by first | exact bi_01 | omega | exact ⟨⟨by omega, by omega⟩, by omega, by omega⟩, ?_⟩
      first
      | exact K_eq h (bi_t ⟨c1, c2, c3⟩)
      | exact K_eq h (bi_f (fun q => q.1 c1))
      | exact K_eq h (bi_f (fun q => c2 q.2.1))
      | exact K_eq h (bi_f (fun q => c3 q.2.2))
theorem qtX9_isTwiceSquare (l : Launch) : am_CT l layM qeX9_isTwiceSquare := am_met0 rfl (by decide +kernel) rfl rfl rfl rfl rfl (fun _ => rfl) rfl (qzX9_isTwiceSquare l) (fun k e1 h => (qyX9_isTwiceSquare l k e1 h).2) (fun as F A K h => by
  replace h : qsX9_isTwiceSquare as F A K := h
  unfold qsX9_isTwiceSquare at h
  split at h
  · rename_i x y z
    refine ⟨by first | exact Nat.le_of_ble_eq_true rfl | simp [am_fl, am_cat], ?_⟩
    exact am_way_line (qvX9_isTwiceSquare x y z F A K h)
  · exact h.elim)
