def qkL_0 : Nat → Option CI := fun pc => cond (Nat.ble 3593 pc) none (cond (Nat.ble 312 pc) (cond (Nat.ble 330 pc) (cond (Nat.ble 339 pc) (cond (Nat.ble 347 pc) (cond (Nat.ble 3589 pc) (cond (Nat.beq pc 3589) (some (.iinc 4 6, 3592, [])) (cond (Nat.beq pc 3592) (some (.goto (-3569), 3595, [23])) (none))) (cond (Nat.beq pc 347) (some (.iconst 0, 348, [])) (cond (Nat.beq pc 348) (some (.ireturn, 349, [])) (none)))) (cond (Nat.ble 341 pc) (cond (Nat.beq pc 341) (some (.invokevirtual 135, 344, [])) (cond (Nat.beq pc 344) (some (.if_icmp .eq 3245, 347, [3589])) (none))) (cond (Nat.beq pc 339) (some (.iadd, 340, [])) (cond (Nat.beq pc 340) (some (.iaload, 341, [])) (none))))) (cond (Nat.ble 334 pc) (cond (Nat.ble 336 pc) (cond (Nat.beq pc 336) (some (.iload 4, 338, [])) (cond (Nat.beq pc 338) (some (.iconst 5, 339, [])) (none))) (cond (Nat.beq pc 334) (some (.iaload, 335, [])) (cond (Nat.beq pc 335) (some (.aload_n 0, 336, [])) (none)))) (cond (Nat.beq pc 330) (some (.iload 4, 332, [])) (cond (Nat.beq pc 332) (some (.iconst 4, 333, [])) (cond (Nat.beq pc 333) (some (.iadd, 334, [])) (none)))))) (cond (Nat.ble 321 pc) (cond (Nat.ble 326 pc) (cond (Nat.ble 328 pc) (cond (Nat.beq pc 328) (some (.iaload, 329, [])) (cond (Nat.beq pc 329) (some (.aload_n 0, 330, [])) (none))) (cond (Nat.beq pc 326) (some (.iconst 3, 327, [])) (cond (Nat.beq pc 327) (some (.iadd, 328, [])) (none)))) (cond (Nat.ble 323 pc) (cond (Nat.beq pc 323) (some (.aload_n 0, 324, [])) (cond (Nat.beq pc 324) (some (.iload 4, 326, [])) (none))) (cond (Nat.beq pc 321) (some (.iadd, 322, [])) (cond (Nat.beq pc 322) (some (.iaload, 323, [])) (none))))) (cond (Nat.ble 316 pc) (cond (Nat.ble 318 pc) (cond (Nat.beq pc 318) (some (.iload 4, 320, [])) (cond (Nat.beq pc 320) (some (.iconst 2, 321, [])) (none))) (cond (Nat.beq pc 316) (some (.iaload, 317, [])) (cond (Nat.beq pc 317) (some (.aload_n 0, 318, [])) (none)))) (cond (Nat.beq pc 312) (some (.iload 4, 314, [])) (cond (Nat.beq pc 314) (some (.iconst 1, 315, [])) (cond (Nat.beq pc 315) (some (.iadd, 316, [])) (none))))))) (cond (Nat.ble 293 pc) (cond (Nat.ble 301 pc) (cond (Nat.ble 306 pc) (cond (Nat.ble 310 pc) (cond (Nat.beq pc 310) (some (.aload_n 2, 311, [])) (cond (Nat.beq pc 311) (some (.aload_n 0, 312, [])) (none))) (cond (Nat.beq pc 306) (some (.iaload, 307, [])) (cond (Nat.beq pc 307) (some (.invokevirtual 132, 310, [])) (none)))) (cond (Nat.ble 304 pc) (cond (Nat.beq pc 304) (some (.iconst 5, 305, [])) (cond (Nat.beq pc 305) (some (.iadd, 306, [])) (none))) (cond (Nat.beq pc 301) (some (.aload_n 0, 302, [])) (cond (Nat.beq pc 302) (some (.iload 4, 304, [])) (none))))) (cond (Nat.ble 296 pc) (cond (Nat.ble 299 pc) (cond (Nat.beq pc 299) (some (.iadd, 300, [])) (cond (Nat.beq pc 300) (some (.iaload, 301, [])) (none))) (cond (Nat.beq pc 296) (some (.iload 4, 298, [])) (cond (Nat.beq pc 298) (some (.iconst 4, 299, [])) (none)))) (cond (Nat.beq pc 293) (some (.iadd, 294, [])) (cond (Nat.beq pc 294) (some (.iaload, 295, [])) (cond (Nat.beq pc 295) (some (.aload_n 0, 296, [])) (none)))))) (cond (Nat.ble 284 pc) (cond (Nat.ble 288 pc) (cond (Nat.ble 290 pc) (cond (Nat.beq pc 290) (some (.iload 4, 292, [])) (cond (Nat.beq pc 292) (some (.iconst 3, 293, [])) (none))) (cond (Nat.beq pc 288) (some (.iaload, 289, [])) (cond (Nat.beq pc 289) (some (.aload_n 0, 290, [])) (none)))) (cond (Nat.beq pc 284) (some (.iload 4, 286, [])) (cond (Nat.beq pc 286) (some (.iconst 2, 287, [])) (cond (Nat.beq pc 287) (some (.iadd, 288, [])) (none))))) (cond (Nat.ble 280 pc) (cond (Nat.ble 282 pc) (cond (Nat.beq pc 282) (some (.iaload, 283, [])) (cond (Nat.beq pc 283) (some (.aload_n 0, 284, [])) (none))) (cond (Nat.beq pc 280) (some (.iconst 1, 281, [])) (cond (Nat.beq pc 281) (some (.iadd, 282, [])) (none)))) (cond (Nat.beq pc 276) (some (.aload_n 1, 277, [])) (cond (Nat.beq pc 277) (some (.aload_n 0, 278, [])) (cond (Nat.beq pc 278) (some (.iload 4, 280, [])) (none))))))))
theorem qkL_0_ok : ∀ pc i nx ts, qkL_0 pc = some (i, nx, ts) → am_cok cL_law pc (i, nx, ts) = true := fun pc i nx ts h => am_tok_ok (n := 3593) (by decide +kernel) (fun pc h => by show cond (Nat.ble 3593 pc) _ _ = _; rw [Nat.ble_eq_true_of_le h]; rfl) h
def qaL_0 : Nat → Option CE := fun k => cond (Nat.beq k 132) (some qeX8_feed) (cond (Nat.beq k 135) (some qeX9_feed) (none))
theorem qyL_0 (l : Launch) (hst : l.stackTraces = false) : ∀ k e1, qaL_0 k = some e1 → am_cal l layL RL 40 k e1 ∧ True := q_cons ⟨am_calV (ci := 8) (am_CT_mono layX_L (qtX8_feed l)) qbX8_feed (by decide) rfl (am_tb_at 357 (by decide +kernel) rfl), trivial⟩ (q_cons ⟨am_calV (ci := 9) (am_CT_mono layM_L (qtX9_feed l)) qbX9_feed (by decide) rfl (am_tb_at 1485 (by decide +kernel) rfl), trivial⟩ (q_nil))
def qxL_0 (Ls : Int) (xs : Int → Int) : CX := (qkL_0, layL, qfL, qaL_0, qcL, qlL, qmL, some .boolean, false, none, 2, some (Ls, xs), fun _ => none)
theorem qzL_0 (l : Launch) (hst : l.stackTraces = false) (Ls : Int) (xs : Int → Int) : am_sta l (qxL_0 Ls xs) RL 40 cL_law := ⟨qkL_0_ok, layL_ok, qfL_ok, qcL_ok, qlL_ok, am_mthP qmL_ok (by decide), fun k e1 h => (qyL_0 l hst k e1 h).1⟩
set_option maxRecDepth 20000 in
theorem qvL_0 (Ls : Int) (xs : Int → Int) (F : FF) (A : AA) (i : Int) (hx : ∀ j, -2147483648 ≤ xs j ∧ xs j < 2147483648) (hL : Ls ≤ 3072) (i0 : 0 ≤ i) (i1 : i + 6 ≤ Ls) (hR : REL F A) : am_stp (qxL_0 Ls xs) (am_run (qxL_0 Ls xs) lawC (lawI i) lawK 60) lawK 276 [some (vR 999), some (vR 0), some (vR 25), some (vR 43), some (vI i), none, none, none] [] F A 0 := by
  have hb : ∀ k : Int, 0 ≤ k → k ≤ 5 → 0 ≤ w32 (i + k) ∧ w32 (i + k) < Ls := fun k k0 k1 => by rw [w32_id (by omega) (by omega)]; omega
  have e0 : mF A = A 2 := hR.1.1.symm
  show (0 ≤ w32 (i + 1) ∧ w32 (i + 1) < Ls) ∧ ((0 ≤ w32 (i + 2) ∧ w32 (i + 2) < Ls) ∧ ((0 ≤ w32 (i + 3) ∧ w32 (i + 3) < Ls) ∧ ((0 ≤ w32 (i + 4) ∧ w32 (i + 4) < Ls) ∧ ((0 ≤ w32 (i + 5) ∧ w32 (i + 5) < Ls) ∧ ((0 ≤ (F 7 1) ∧ (F 7 1) ≤ 800) ∧ (∀ (G_1 : FF) (B_1 : AA), (((F 7 1) ≤ 780 → G_1 = upF F 7 1 ((F 7 1) + 20) ∧ B_1 = setR A 8 ((F 7 1)) 20 (fdF (xs (w32 (i + 1))) (xs (w32 (i + 2))) (xs (w32 (i + 3))) (xs (w32 (i + 4))) (xs (w32 (i + 5))))) ∧ (¬ (F 7 1) ≤ 780 → ch0 F G_1 A B_1)) → ((0 ≤ w32 (i + 1) ∧ w32 (i + 1) < Ls) ∧ ((0 ≤ w32 (i + 2) ∧ w32 (i + 2) < Ls) ∧ ((0 ≤ w32 (i + 3) ∧ w32 (i + 3) < Ls) ∧ ((0 ≤ w32 (i + 4) ∧ w32 (i + 4) < Ls) ∧ ((0 ≤ w32 (i + 5) ∧ w32 (i + 5) < Ls) ∧ ((0 ≤ (G_1 25 2) ∧ (G_1 25 2) ≤ 800) ∧ (∀ (G_2 : FF) (B_2 : AA), (((G_1 25 2) ≤ 780 → G_2 = upF (upF G_1 25 0 0) 25 2 ((G_1 25 2) + 20) ∧ B_2 = setR B_1 26 ((G_1 25 2)) 20 (fun kk => fdF (xs (w32 (i + 1))) (xs (w32 (i + 2))) (xs (w32 (i + 3))) (xs (w32 (i + 4))) (xs (w32 (i + 5))) kk % 256)) ∧ (¬ (G_1 25 2) ≤ 780 → G_2 = upF G_1 25 0 0 ∧ B_2 = B_1)) → ((w32 (if (F 7 1) ≤ 780 then (F 7 1) + 20 else -3) = w32 (if (G_1 25 2) ≤ 780 then (G_1 25 2) + 20 else -3) → ((999 : Nat) = 999 ∧ (0 : Nat) = 0 ∧ (25 : Nat) = 25 ∧ (43 : Nat) = 43 ∧ i + 6 = i + 6 ∧ REL G_2 B_2 ∧ (0 : Nat) ≤ 2)) ∧ (¬ w32 (if (F 7 1) ≤ 780 then (F 7 1) + 20 else -3) = w32 (if (G_1 25 2) ≤ 780 then (G_1 25 2) + 20 else -3) → (((0 : Int) = 0 ∨ (0 : Int) = 1) ∧ (lawK (some (some (vI 0))) G_2 B_2)))))))))))))))))
  refine ⟨by exact hb 1 (by decide) (by decide), ?_⟩
  refine ⟨by exact hb 2 (by decide) (by decide), ?_⟩
  refine ⟨by exact hb 3 (by decide) (by decide), ?_⟩
  refine ⟨by exact hb 4 (by decide) (by decide), ?_⟩
  refine ⟨by exact hb 5 (by decide) (by decide), ?_⟩
  refine ⟨by exact hR.2.1.1, ?_⟩
  intro G_1 B_1 g1
  have hW := lw_fd hR g1
  refine ⟨by exact hb 1 (by decide) (by decide), ?_⟩
  refine ⟨by exact hb 2 (by decide) (by decide), ?_⟩
  refine ⟨by exact hb 3 (by decide) (by decide), ?_⟩
  refine ⟨by exact hb 4 (by decide) (by decide), ?_⟩
  refine ⟨by exact hb 5 (by decide) (by decide), ?_⟩
  refine ⟨by rw [hW.1]; exact hR.2.1.1, ?_⟩
  intro G_2 B_2 g2
  have hR2 := hW.2 _ _ g2
  refine ⟨fun c1 => ?_, fun c1 => ?_⟩
  · skip
    skip
    exact ⟨rfl, rfl, rfl, rfl, rfl, hR2, by decide⟩
  · skip
    skip
    refine ⟨by decide, ?_⟩
    exact absurd (by rw [hW.1]) c1
def qkL_1 : Nat → Option CI := fun pc => cond (Nat.ble 3593 pc) none (cond (Nat.ble 361 pc) (cond (Nat.ble 369 pc) (cond (Nat.ble 373 pc) (cond (Nat.beq pc 373) (some (.ireturn, 374, [])) (cond (Nat.beq pc 3589) (some (.iinc 4 6, 3592, [])) (cond (Nat.beq pc 3592) (some (.goto (-3569), 3595, [23])) (none)))) (cond (Nat.beq pc 369) (some (.if_icmp .eq 3220, 372, [3589])) (cond (Nat.beq pc 372) (some (.iconst 0, 373, [])) (none)))) (cond (Nat.ble 364 pc) (cond (Nat.beq pc 364) (some (.iadd, 365, [])) (cond (Nat.beq pc 365) (some (.iaload, 366, [])) (cond (Nat.beq pc 366) (some (.invokevirtual 139, 369, [])) (none)))) (cond (Nat.beq pc 361) (some (.iload 4, 363, [])) (cond (Nat.beq pc 363) (some (.iconst 1, 364, [])) (none))))) (cond (Nat.ble 354 pc) (cond (Nat.ble 356 pc) (cond (Nat.beq pc 356) (some (.invokevirtual 136, 359, [])) (cond (Nat.beq pc 359) (some (.aload_n 2, 360, [])) (cond (Nat.beq pc 360) (some (.aload_n 0, 361, [])) (none)))) (cond (Nat.beq pc 354) (some (.iadd, 355, [])) (cond (Nat.beq pc 355) (some (.iaload, 356, [])) (none)))) (cond (Nat.ble 351 pc) (cond (Nat.beq pc 351) (some (.iload 4, 353, [])) (cond (Nat.beq pc 353) (some (.iconst 1, 354, [])) (none))) (cond (Nat.beq pc 349) (some (.aload_n 1, 350, [])) (cond (Nat.beq pc 350) (some (.aload_n 0, 351, [])) (none))))))
theorem qkL_1_ok : ∀ pc i nx ts, qkL_1 pc = some (i, nx, ts) → am_cok cL_law pc (i, nx, ts) = true := fun pc i nx ts h => am_tok_ok (n := 3593) (by decide +kernel) (fun pc h => by show cond (Nat.ble 3593 pc) _ _ = _; rw [Nat.ble_eq_true_of_le h]; rfl) h
def qaL_1 : Nat → Option CE := fun k => cond (Nat.beq k 136) (some qeX8_load) (cond (Nat.beq k 139) (some qeX9_load) (none))
theorem qyL_1 (l : Launch) (hst : l.stackTraces = false) : ∀ k e1, qaL_1 k = some e1 → am_cal l layL RL 40 k e1 ∧ True := q_cons ⟨am_calV (ci := 8) (am_CT_mono layX_L (qtX8_load l)) qbX8_load (by decide) rfl (am_tb_at 369 (by decide +kernel) rfl), trivial⟩ (q_cons ⟨am_calV (ci := 9) (am_CT_mono layM_L (qtX9_load l hst)) qbX9_load (by decide) rfl (am_tb_at 1489 (by decide +kernel) rfl), trivial⟩ (q_nil))
def qxL_1 (Ls : Int) (xs : Int → Int) : CX := (qkL_1, layL, qfL, qaL_1, qcL, qlL, qmL, some .boolean, false, none, 2, some (Ls, xs), fun _ => none)
theorem qzL_1 (l : Launch) (hst : l.stackTraces = false) (Ls : Int) (xs : Int → Int) : am_sta l (qxL_1 Ls xs) RL 40 cL_law := ⟨qkL_1_ok, layL_ok, qfL_ok, qcL_ok, qlL_ok, am_mthP qmL_ok (by decide), fun k e1 h => (qyL_1 l hst k e1 h).1⟩
set_option maxRecDepth 20000 in
theorem qvL_1 (Ls : Int) (xs : Int → Int) (F : FF) (A : AA) (i : Int) (hx : ∀ j, -2147483648 ≤ xs j ∧ xs j < 2147483648) (hL : Ls ≤ 3072) (i0 : 0 ≤ i) (i1 : i + 6 ≤ Ls) (hR : REL F A) : am_stp (qxL_1 Ls xs) (am_run (qxL_1 Ls xs) lawC (lawI i) lawK 20) lawK 349 [some (vR 999), some (vR 0), some (vR 25), some (vR 43), some (vI i), none, none, none] [] F A 0 := by
  have hb : ∀ k : Int, 0 ≤ k → k ≤ 5 → 0 ≤ w32 (i + k) ∧ w32 (i + k) < Ls := fun k k0 k1 => by rw [w32_id (by omega) (by omega)]; omega
  have e0 : mF A = A 2 := hR.1.1.symm
  show (0 ≤ w32 (i + 1) ∧ w32 (i + 1) < Ls) ∧ (((0 ≤ (F 7 1) ∧ (F 7 1) ≤ 800) ∧ (-2147483648 ≤ (F 7 6) ∧ (F 7 6) < 2147483648) ∧ (-2147483648 ≤ (xs (w32 (i + 1))) ∧ (xs (w32 (i + 1))) < 2147483648)) ∧ (∀ (G_1 : FF) (B_1 : AA), (((0 ≤ (xs (w32 (i + 1))) ∧ (xs (w32 (i + 1))) ≤ (F 7 1)) → ldQ F G_1 A B_1 (xs (w32 (i + 1)))) ∧ (¬ (0 ≤ (xs (w32 (i + 1))) ∧ (xs (w32 (i + 1))) ≤ (F 7 1)) → ch0 F G_1 A B_1)) → ((0 ≤ w32 (i + 1) ∧ w32 (i + 1) < Ls) ∧ ((byO (B_1 26) ∧ (0 ≤ (G_1 25 2) ∧ (G_1 25 2) ≤ 800) ∧ (0 ≤ (G_1 25 27) ∧ (G_1 25 27) ≤ 800) ∧ (-1 ≤ (G_1 25 24) ∧ (G_1 25 24) ≤ 2000000) ∧ (-2147483648 ≤ (xs (w32 (i + 1))) ∧ (xs (w32 (i + 1))) < 2147483648)) ∧ (∀ (G_2 : FF) (B_2 : AA), ((((xs (w32 (i + 1))) < 0 ∨ (G_1 25 2) < (xs (w32 (i + 1)))) → G_2 = upF G_1 25 0 0 ∧ B_2 = B_1) ∧ (¬ ((xs (w32 (i + 1))) < 0 ∨ (G_1 25 2) < (xs (w32 (i + 1)))) → G_2 = ldG G_1 (xs (w32 (i + 1))) (ldT G_1 B_1 (xs (w32 (i + 1)))) ∧ B_2 = ldB (ldT G_1 B_1 (xs (w32 (i + 1)))))) → ((w32 (if (0 ≤ (xs (w32 (i + 1))) ∧ (xs (w32 (i + 1))) ≤ (F 7 1)) then (ldR A F (xs (w32 (i + 1)))).1 else -2) = w32 (if ((xs (w32 (i + 1))) < 0 ∨ (G_1 25 2) < (xs (w32 (i + 1)))) then -2 else if (ldT G_1 B_1 (xs (w32 (i + 1)))).1.1 = 0 then (ldT G_1 B_1 (xs (w32 (i + 1)))).2.2.2.1 else (ldT G_1 B_1 (xs (w32 (i + 1)))).1.1) → ((999 : Nat) = 999 ∧ (0 : Nat) = 0 ∧ (25 : Nat) = 25 ∧ (43 : Nat) = 43 ∧ i + 6 = i + 6 ∧ REL G_2 B_2 ∧ (0 : Nat) ≤ 2)) ∧ (¬ (w32 (if (0 ≤ (xs (w32 (i + 1))) ∧ (xs (w32 (i + 1))) ≤ (F 7 1)) then (ldR A F (xs (w32 (i + 1)))).1 else -2) = w32 (if ((xs (w32 (i + 1))) < 0 ∨ (G_1 25 2) < (xs (w32 (i + 1)))) then -2 else if (ldT G_1 B_1 (xs (w32 (i + 1)))).1.1 = 0 then (ldT G_1 B_1 (xs (w32 (i + 1)))).2.2.2.1 else (ldT G_1 B_1 (xs (w32 (i + 1)))).1.1)) → (((0 : Int) = 0 ∨ (0 : Int) = 1) ∧ (lawK (some (some (vI 0))) G_2 B_2)))))))))
  refine ⟨by exact hb 1 (by decide) (by decide), ?_⟩
  refine ⟨by exact ⟨hR.2.1.1, hR.2.2.2.2.2.1, hx _⟩, ?_⟩
  intro G_1 B_1 g1
  have hW := lw_ld hR g1
  refine ⟨by exact hb 1 (by decide) (by decide), ?_⟩
  refine ⟨by exact ⟨hW.1.1, hW.1.2.1, hW.1.2.2.1, hW.1.2.2.2, hx _⟩, ?_⟩
  intro G_2 B_2 g2
  have hR2 := hW.2.2 _ _ g2
  refine ⟨fun c1 => ?_, fun c1 => ?_⟩
  · skip
    skip
    exact ⟨rfl, rfl, rfl, rfl, rfl, hR2, by decide⟩
  · skip
    skip
    refine ⟨by decide, ?_⟩
    exact absurd (congrArg w32 hW.2.1) c1
def qkL_2 : Nat → Option CI := fun pc => cond (Nat.ble 3593 pc) none (cond (Nat.ble 382 pc) (cond (Nat.ble 386 pc) (cond (Nat.beq pc 386) (some (.ireturn, 387, [])) (cond (Nat.beq pc 3589) (some (.iinc 4 6, 3592, [])) (cond (Nat.beq pc 3592) (some (.goto (-3569), 3595, [23])) (none)))) (cond (Nat.beq pc 382) (some (.if_icmp .eq 3207, 385, [3589])) (cond (Nat.beq pc 385) (some (.iconst 0, 386, [])) (none)))) (cond (Nat.ble 378 pc) (cond (Nat.beq pc 378) (some (.aload_n 2, 379, [])) (cond (Nat.beq pc 379) (some (.invokevirtual 144, 382, [])) (none))) (cond (Nat.beq pc 374) (some (.aload_n 1, 375, [])) (cond (Nat.beq pc 375) (some (.invokevirtual 140, 378, [])) (none)))))
theorem qkL_2_ok : ∀ pc i nx ts, qkL_2 pc = some (i, nx, ts) → am_cok cL_law pc (i, nx, ts) = true := fun pc i nx ts h => am_tok_ok (n := 3593) (by decide +kernel) (fun pc h => by show cond (Nat.ble 3593 pc) _ _ = _; rw [Nat.ble_eq_true_of_le h]; rfl) h
def qaL_2 : Nat → Option CE := fun k => cond (Nat.beq k 140) (some qeX8_errorPosition) (cond (Nat.beq k 144) (some qeX9_errorPosition) (none))
theorem qyL_2 (l : Launch) (hst : l.stackTraces = false) : ∀ k e1, qaL_2 k = some e1 → am_cal l layL RL 40 k e1 ∧ True := q_cons ⟨am_calV (ci := 8) (am_CT_mono layX_L (qtX8_errorPosition l)) qbX8_errorPosition (by decide) rfl (am_tb_at 526 (by decide +kernel) rfl), trivial⟩ (q_cons ⟨am_calV (ci := 9) (am_CT_mono layM_L (qtX9_errorPosition l)) qbX9_errorPosition (by decide) rfl (am_tb_at 1615 (by decide +kernel) rfl), trivial⟩ (q_nil))
def qxL_2 (Ls : Int) (xs : Int → Int) : CX := (qkL_2, layL, qfL, qaL_2, qcL, qlL, qmL, some .boolean, false, none, 2, some (Ls, xs), fun _ => none)
theorem qzL_2 (l : Launch) (hst : l.stackTraces = false) (Ls : Int) (xs : Int → Int) : am_sta l (qxL_2 Ls xs) RL 40 cL_law := ⟨qkL_2_ok, layL_ok, qfL_ok, qcL_ok, qlL_ok, am_mthP qmL_ok (by decide), fun k e1 h => (qyL_2 l hst k e1 h).1⟩
set_option maxRecDepth 20000 in
theorem qvL_2 (Ls : Int) (xs : Int → Int) (F : FF) (A : AA) (i : Int) (hx : ∀ j, -2147483648 ≤ xs j ∧ xs j < 2147483648) (hL : Ls ≤ 3072) (i0 : 0 ≤ i) (i1 : i + 6 ≤ Ls) (hR : REL F A) : am_stp (qxL_2 Ls xs) (am_run (qxL_2 Ls xs) lawC (lawI i) lawK 10) lawK 374 [some (vR 999), some (vR 0), some (vR 25), some (vR 43), some (vI i), none, none, none] [] F A 0 := by
  have hb : ∀ k : Int, 0 ≤ k → k ≤ 5 → 0 ≤ w32 (i + k) ∧ w32 (i + k) < Ls := fun k k0 k1 => by rw [w32_id (by omega) (by omega)]; omega
  have e0 : mF A = A 2 := hR.1.1.symm
  show (fgOK (mF A)) ∧ (∀ (G_1 : FF) (B_1 : AA), (qdP F G_1 A B_1 ∧ G_1 25 0 = 0) → ((w32 (F 0 9) = w32 (F 25 28) → ((999 : Nat) = 999 ∧ (0 : Nat) = 0 ∧ (25 : Nat) = 25 ∧ (43 : Nat) = 43 ∧ i + 6 = i + 6 ∧ REL G_1 B_1 ∧ (0 : Nat) ≤ 2)) ∧ (¬ w32 (F 0 9) = w32 (F 25 28) → (((0 : Int) = 0 ∨ (0 : Int) = 1) ∧ (lawK (some (some (vI 0))) G_1 B_1)))))
  refine ⟨by exact rel_m hR, ?_⟩
  intro G_1 B_1 g1
  have hR2 := rel_qd hR g1.1
  refine ⟨fun c1 => ?_, fun c1 => ?_⟩
  · skip
    skip
    exact ⟨rfl, rfl, rfl, rfl, rfl, hR2, by decide⟩
  · skip
    skip
    refine ⟨by decide, ?_⟩
    exact absurd (by rw [hR.2.2.2.1]) c1
def qkL_3 : Nat → Option CI := fun pc => cond (Nat.ble 3593 pc) none (cond (Nat.ble 395 pc) (cond (Nat.ble 399 pc) (cond (Nat.beq pc 399) (some (.ireturn, 400, [])) (cond (Nat.beq pc 3589) (some (.iinc 4 6, 3592, [])) (cond (Nat.beq pc 3592) (some (.goto (-3569), 3595, [23])) (none)))) (cond (Nat.beq pc 395) (some (.if_icmp .eq 3194, 398, [3589])) (cond (Nat.beq pc 398) (some (.iconst 0, 399, [])) (none)))) (cond (Nat.ble 391 pc) (cond (Nat.beq pc 391) (some (.aload_n 2, 392, [])) (cond (Nat.beq pc 392) (some (.invokevirtual 148, 395, [])) (none))) (cond (Nat.beq pc 387) (some (.aload_n 1, 388, [])) (cond (Nat.beq pc 388) (some (.invokevirtual 145, 391, [])) (none)))))
theorem qkL_3_ok : ∀ pc i nx ts, qkL_3 pc = some (i, nx, ts) → am_cok cL_law pc (i, nx, ts) = true := fun pc i nx ts h => am_tok_ok (n := 3593) (by decide +kernel) (fun pc h => by show cond (Nat.ble 3593 pc) _ _ = _; rw [Nat.ble_eq_true_of_le h]; rfl) h
def qaL_3 : Nat → Option CE := fun k => cond (Nat.beq k 145) (some qeX8_curveCount) (cond (Nat.beq k 148) (some qeX9_curveCount) (none))
theorem qyL_3 (l : Launch) (hst : l.stackTraces = false) : ∀ k e1, qaL_3 k = some e1 → am_cal l layL RL 40 k e1 ∧ True := q_cons ⟨am_calV (ci := 8) (am_CT_mono layX_L (qtX8_curveCount l)) qbX8_curveCount (by decide) rfl (am_tb_at 530 (by decide +kernel) rfl), trivial⟩ (q_cons ⟨am_calV (ci := 9) (am_CT_mono layM_L (qtX9_curveCount l)) qbX9_curveCount (by decide) rfl (am_tb_at 1619 (by decide +kernel) rfl), trivial⟩ (q_nil))
def qxL_3 (Ls : Int) (xs : Int → Int) : CX := (qkL_3, layL, qfL, qaL_3, qcL, qlL, qmL, some .boolean, false, none, 2, some (Ls, xs), fun _ => none)
theorem qzL_3 (l : Launch) (hst : l.stackTraces = false) (Ls : Int) (xs : Int → Int) : am_sta l (qxL_3 Ls xs) RL 40 cL_law := ⟨qkL_3_ok, layL_ok, qfL_ok, qcL_ok, qlL_ok, am_mthP qmL_ok (by decide), fun k e1 h => (qyL_3 l hst k e1 h).1⟩
set_option maxRecDepth 20000 in
theorem qvL_3 (Ls : Int) (xs : Int → Int) (F : FF) (A : AA) (i : Int) (hx : ∀ j, -2147483648 ≤ xs j ∧ xs j < 2147483648) (hL : Ls ≤ 3072) (i0 : 0 ≤ i) (i1 : i + 6 ≤ Ls) (hR : REL F A) : am_stp (qxL_3 Ls xs) (am_run (qxL_3 Ls xs) lawC (lawI i) lawK 10) lawK 387 [some (vR 999), some (vR 0), some (vR 25), some (vR 43), some (vI i), none, none, none] [] F A 0 := by
  have hb : ∀ k : Int, 0 ≤ k → k ≤ 5 → 0 ≤ w32 (i + k) ∧ w32 (i + k) < Ls := fun k k0 k1 => by rw [w32_id (by omega) (by omega)]; omega
  have e0 : mF A = A 2 := hR.1.1.symm
  show (fgOK (mF A)) ∧ (∀ (G_1 : FF) (B_1 : AA), (qdP F G_1 A B_1 ∧ G_1 25 0 = 0) → ((w32 (A 2 0) = w32 (mF A 0) → ((999 : Nat) = 999 ∧ (0 : Nat) = 0 ∧ (25 : Nat) = 25 ∧ (43 : Nat) = 43 ∧ i + 6 = i + 6 ∧ REL G_1 B_1 ∧ (0 : Nat) ≤ 2)) ∧ (¬ w32 (A 2 0) = w32 (mF A 0) → (((0 : Int) = 0 ∨ (0 : Int) = 1) ∧ (lawK (some (some (vI 0))) G_1 B_1)))))
  refine ⟨by exact rel_m hR, ?_⟩
  intro G_1 B_1 g1
  have hR2 := rel_qd hR g1.1
  refine ⟨fun c1 => ?_, fun c1 => ?_⟩
  · skip
    skip
    exact ⟨rfl, rfl, rfl, rfl, rfl, hR2, by decide⟩
  · skip
    skip
    refine ⟨by decide, ?_⟩
    exact absurd (by rw [e0]) c1
def qkL_4 : Nat → Option CI := fun pc => cond (Nat.ble 3593 pc) none (cond (Nat.ble 408 pc) (cond (Nat.ble 412 pc) (cond (Nat.beq pc 412) (some (.ireturn, 413, [])) (cond (Nat.beq pc 3589) (some (.iinc 4 6, 3592, [])) (cond (Nat.beq pc 3592) (some (.goto (-3569), 3595, [23])) (none)))) (cond (Nat.beq pc 408) (some (.if_icmp .eq 3181, 411, [3589])) (cond (Nat.beq pc 411) (some (.iconst 0, 412, [])) (none)))) (cond (Nat.ble 404 pc) (cond (Nat.beq pc 404) (some (.aload_n 2, 405, [])) (cond (Nat.beq pc 405) (some (.invokevirtual 152, 408, [])) (none))) (cond (Nat.beq pc 400) (some (.aload_n 1, 401, [])) (cond (Nat.beq pc 401) (some (.invokevirtual 149, 404, [])) (none)))))
theorem qkL_4_ok : ∀ pc i nx ts, qkL_4 pc = some (i, nx, ts) → am_cok cL_law pc (i, nx, ts) = true := fun pc i nx ts h => am_tok_ok (n := 3593) (by decide +kernel) (fun pc h => by show cond (Nat.ble 3593 pc) _ _ = _; rw [Nat.ble_eq_true_of_le h]; rfl) h
def qaL_4 : Nat → Option CE := fun k => cond (Nat.beq k 149) (some qeX8_lineCount) (cond (Nat.beq k 152) (some qeX9_lineCount) (none))
theorem qyL_4 (l : Launch) (hst : l.stackTraces = false) : ∀ k e1, qaL_4 k = some e1 → am_cal l layL RL 40 k e1 ∧ True := q_cons ⟨am_calV (ci := 8) (am_CT_mono layX_L (qtX8_lineCount l)) qbX8_lineCount (by decide) rfl (am_tb_at 535 (by decide +kernel) rfl), trivial⟩ (q_cons ⟨am_calV (ci := 9) (am_CT_mono layM_L (qtX9_lineCount l)) qbX9_lineCount (by decide) rfl (am_tb_at 1623 (by decide +kernel) rfl), trivial⟩ (q_nil))
def qxL_4 (Ls : Int) (xs : Int → Int) : CX := (qkL_4, layL, qfL, qaL_4, qcL, qlL, qmL, some .boolean, false, none, 2, some (Ls, xs), fun _ => none)
theorem qzL_4 (l : Launch) (hst : l.stackTraces = false) (Ls : Int) (xs : Int → Int) : am_sta l (qxL_4 Ls xs) RL 40 cL_law := ⟨qkL_4_ok, layL_ok, qfL_ok, qcL_ok, qlL_ok, am_mthP qmL_ok (by decide), fun k e1 h => (qyL_4 l hst k e1 h).1⟩
set_option maxRecDepth 20000 in
theorem qvL_4 (Ls : Int) (xs : Int → Int) (F : FF) (A : AA) (i : Int) (hx : ∀ j, -2147483648 ≤ xs j ∧ xs j < 2147483648) (hL : Ls ≤ 3072) (i0 : 0 ≤ i) (i1 : i + 6 ≤ Ls) (hR : REL F A) : am_stp (qxL_4 Ls xs) (am_run (qxL_4 Ls xs) lawC (lawI i) lawK 10) lawK 400 [some (vR 999), some (vR 0), some (vR 25), some (vR 43), some (vI i), none, none, none] [] F A 0 := by
  have hb : ∀ k : Int, 0 ≤ k → k ≤ 5 → 0 ≤ w32 (i + k) ∧ w32 (i + k) < Ls := fun k k0 k1 => by rw [w32_id (by omega) (by omega)]; omega
  have e0 : mF A = A 2 := hR.1.1.symm
  show (fgOK (mF A)) ∧ (∀ (G_1 : FF) (B_1 : AA), (qdP F G_1 A B_1 ∧ G_1 25 0 = 0) → ((w32 (A 2 1) = w32 (mF A 1) → ((999 : Nat) = 999 ∧ (0 : Nat) = 0 ∧ (25 : Nat) = 25 ∧ (43 : Nat) = 43 ∧ i + 6 = i + 6 ∧ REL G_1 B_1 ∧ (0 : Nat) ≤ 2)) ∧ (¬ w32 (A 2 1) = w32 (mF A 1) → (((0 : Int) = 0 ∨ (0 : Int) = 1) ∧ (lawK (some (some (vI 0))) G_1 B_1)))))
  refine ⟨by exact rel_m hR, ?_⟩
  intro G_1 B_1 g1
  have hR2 := rel_qd hR g1.1
  refine ⟨fun c1 => ?_, fun c1 => ?_⟩
  · skip
    skip
    exact ⟨rfl, rfl, rfl, rfl, rfl, hR2, by decide⟩
  · skip
    skip
    refine ⟨by decide, ?_⟩
    exact absurd (by rw [e0]) c1
def qkL_5 : Nat → Option CI := fun pc => cond (Nat.ble 3593 pc) none (cond (Nat.ble 421 pc) (cond (Nat.ble 425 pc) (cond (Nat.beq pc 425) (some (.ireturn, 426, [])) (cond (Nat.beq pc 3589) (some (.iinc 4 6, 3592, [])) (cond (Nat.beq pc 3592) (some (.goto (-3569), 3595, [23])) (none)))) (cond (Nat.beq pc 421) (some (.if_icmp .eq 3168, 424, [3589])) (cond (Nat.beq pc 424) (some (.iconst 0, 425, [])) (none)))) (cond (Nat.ble 417 pc) (cond (Nat.beq pc 417) (some (.aload_n 2, 418, [])) (cond (Nat.beq pc 418) (some (.invokevirtual 156, 421, [])) (none))) (cond (Nat.beq pc 413) (some (.aload_n 1, 414, [])) (cond (Nat.beq pc 414) (some (.invokevirtual 153, 417, [])) (none)))))
theorem qkL_5_ok : ∀ pc i nx ts, qkL_5 pc = some (i, nx, ts) → am_cok cL_law pc (i, nx, ts) = true := fun pc i nx ts h => am_tok_ok (n := 3593) (by decide +kernel) (fun pc h => by show cond (Nat.ble 3593 pc) _ _ = _; rw [Nat.ble_eq_true_of_le h]; rfl) h
def qaL_5 : Nat → Option CE := fun k => cond (Nat.beq k 153) (some qeX8_undoCount) (cond (Nat.beq k 156) (some qeX9_undoCount) (none))
theorem qyL_5 (l : Launch) (hst : l.stackTraces = false) : ∀ k e1, qaL_5 k = some e1 → am_cal l layL RL 40 k e1 ∧ True := q_cons ⟨am_calV (ci := 8) (am_CT_mono layX_L (qtX8_undoCount l)) qbX8_undoCount (by decide) rfl (am_tb_at 540 (by decide +kernel) rfl), trivial⟩ (q_cons ⟨am_calV (ci := 9) (am_CT_mono layM_L (qtX9_undoCount l)) qbX9_undoCount (by decide) rfl (am_tb_at 1627 (by decide +kernel) rfl), trivial⟩ (q_nil))
def qxL_5 (Ls : Int) (xs : Int → Int) : CX := (qkL_5, layL, qfL, qaL_5, qcL, qlL, qmL, some .boolean, false, none, 2, some (Ls, xs), fun _ => none)
theorem qzL_5 (l : Launch) (hst : l.stackTraces = false) (Ls : Int) (xs : Int → Int) : am_sta l (qxL_5 Ls xs) RL 40 cL_law := ⟨qkL_5_ok, layL_ok, qfL_ok, qcL_ok, qlL_ok, am_mthP qmL_ok (by decide), fun k e1 h => (qyL_5 l hst k e1 h).1⟩
set_option maxRecDepth 20000 in
theorem qvL_5 (Ls : Int) (xs : Int → Int) (F : FF) (A : AA) (i : Int) (hx : ∀ j, -2147483648 ≤ xs j ∧ xs j < 2147483648) (hL : Ls ≤ 3072) (i0 : 0 ≤ i) (i1 : i + 6 ≤ Ls) (hR : REL F A) : am_stp (qxL_5 Ls xs) (am_run (qxL_5 Ls xs) lawC (lawI i) lawK 10) lawK 413 [some (vR 999), some (vR 0), some (vR 25), some (vR 43), some (vI i), none, none, none] [] F A 0 := by
  have hb : ∀ k : Int, 0 ≤ k → k ≤ 5 → 0 ≤ w32 (i + k) ∧ w32 (i + k) < Ls := fun k k0 k1 => by rw [w32_id (by omega) (by omega)]; omega
  have e0 : mF A = A 2 := hR.1.1.symm
  show (fgOK (mF A)) ∧ (∀ (G_1 : FF) (B_1 : AA), (qdP F G_1 A B_1 ∧ G_1 25 0 = 0) → ((w32 (F 5 2) = w32 (F 25 8) → ((999 : Nat) = 999 ∧ (0 : Nat) = 0 ∧ (25 : Nat) = 25 ∧ (43 : Nat) = 43 ∧ i + 6 = i + 6 ∧ REL G_1 B_1 ∧ (0 : Nat) ≤ 2)) ∧ (¬ w32 (F 5 2) = w32 (F 25 8) → (((0 : Int) = 0 ∨ (0 : Int) = 1) ∧ (lawK (some (some (vI 0))) G_1 B_1)))))
  refine ⟨by exact rel_m hR, ?_⟩
  intro G_1 B_1 g1
  have hR2 := rel_qd hR g1.1
  refine ⟨fun c1 => ?_, fun c1 => ?_⟩
  · skip
    skip
    exact ⟨rfl, rfl, rfl, rfl, rfl, hR2, by decide⟩
  · skip
    skip
    refine ⟨by decide, ?_⟩
    exact absurd (by rw [hR.2.2.1.2.1]) c1
def qkL_6 : Nat → Option CI := fun pc => cond (Nat.ble 3593 pc) none (cond (Nat.ble 438 pc) (cond (Nat.ble 446 pc) (cond (Nat.ble 450 pc) (cond (Nat.beq pc 450) (some (.ireturn, 451, [])) (cond (Nat.beq pc 3589) (some (.iinc 4 6, 3592, [])) (cond (Nat.beq pc 3592) (some (.goto (-3569), 3595, [23])) (none)))) (cond (Nat.beq pc 446) (some (.if_icmp .eq 3143, 449, [3589])) (cond (Nat.beq pc 449) (some (.iconst 0, 450, [])) (none)))) (cond (Nat.ble 441 pc) (cond (Nat.beq pc 441) (some (.iadd, 442, [])) (cond (Nat.beq pc 442) (some (.iaload, 443, [])) (cond (Nat.beq pc 443) (some (.invokevirtual 160, 446, [])) (none)))) (cond (Nat.beq pc 438) (some (.iload 4, 440, [])) (cond (Nat.beq pc 440) (some (.iconst 1, 441, [])) (none))))) (cond (Nat.ble 431 pc) (cond (Nat.ble 433 pc) (cond (Nat.beq pc 433) (some (.invokevirtual 157, 436, [])) (cond (Nat.beq pc 436) (some (.aload_n 2, 437, [])) (cond (Nat.beq pc 437) (some (.aload_n 0, 438, [])) (none)))) (cond (Nat.beq pc 431) (some (.iadd, 432, [])) (cond (Nat.beq pc 432) (some (.iaload, 433, [])) (none)))) (cond (Nat.ble 428 pc) (cond (Nat.beq pc 428) (some (.iload 4, 430, [])) (cond (Nat.beq pc 430) (some (.iconst 1, 431, [])) (none))) (cond (Nat.beq pc 426) (some (.aload_n 1, 427, [])) (cond (Nat.beq pc 427) (some (.aload_n 0, 428, [])) (none))))))
theorem qkL_6_ok : ∀ pc i nx ts, qkL_6 pc = some (i, nx, ts) → am_cok cL_law pc (i, nx, ts) = true := fun pc i nx ts h => am_tok_ok (n := 3593) (by decide +kernel) (fun pc h => by show cond (Nat.ble 3593 pc) _ _ = _; rw [Nat.ble_eq_true_of_le h]; rfl) h
def qaL_6 : Nat → Option CE := fun k => cond (Nat.beq k 157) (some qeX8_curveNamed) (cond (Nat.beq k 160) (some qeX9_curveNamed) (none))
theorem qyL_6 (l : Launch) (hst : l.stackTraces = false) : ∀ k e1, qaL_6 k = some e1 → am_cal l layL RL 40 k e1 ∧ True := q_cons ⟨am_calV (ci := 8) (am_CT_mono layX_L (qtX8_curveNamed l)) qbX8_curveNamed (by decide) rfl (am_tb_at 548 (by decide +kernel) rfl), trivial⟩ (q_cons ⟨am_calV (ci := 9) (am_CT_mono layM_L (qtX9_curveNamed l)) qbX9_curveNamed (by decide) rfl (am_tb_at 1631 (by decide +kernel) rfl), trivial⟩ (q_nil))
def qxL_6 (Ls : Int) (xs : Int → Int) : CX := (qkL_6, layL, qfL, qaL_6, qcL, qlL, qmL, some .boolean, false, none, 2, some (Ls, xs), fun _ => none)
theorem qzL_6 (l : Launch) (hst : l.stackTraces = false) (Ls : Int) (xs : Int → Int) : am_sta l (qxL_6 Ls xs) RL 40 cL_law := ⟨qkL_6_ok, layL_ok, qfL_ok, qcL_ok, qlL_ok, am_mthP qmL_ok (by decide), fun k e1 h => (qyL_6 l hst k e1 h).1⟩
set_option maxRecDepth 20000 in
theorem qvL_6 (Ls : Int) (xs : Int → Int) (F : FF) (A : AA) (i : Int) (hx : ∀ j, -2147483648 ≤ xs j ∧ xs j < 2147483648) (hL : Ls ≤ 3072) (i0 : 0 ≤ i) (i1 : i + 6 ≤ Ls) (hR : REL F A) : am_stp (qxL_6 Ls xs) (am_run (qxL_6 Ls xs) lawC (lawI i) lawK 20) lawK 426 [some (vR 999), some (vR 0), some (vR 25), some (vR 43), some (vI i), none, none, none] [] F A 0 := by
  have hb : ∀ k : Int, 0 ≤ k → k ≤ 5 → 0 ≤ w32 (i + k) ∧ w32 (i + k) < Ls := fun k k0 k1 => by rw [w32_id (by omega) (by omega)]; omega
  have e0 : mF A = A 2 := hR.1.1.symm
  show (0 ≤ w32 (i + 1) ∧ w32 (i + 1) < Ls) ∧ ((fgOK (A 2)) ∧ ((0 ≤ w32 (i + 1) ∧ w32 (i + 1) < Ls) ∧ ((fgOK (mF A)) ∧ (∀ (G_1 : FF) (B_1 : AA), (qdP F G_1 A B_1 ∧ G_1 25 0 = 0) → ((w32 (firstk (fun jj => decide (w32 (fat (A 2) (4 + jj)) = w32 (xs (w32 (i + 1))))) (Int.toNat (A 2 0))) = w32 (firstk (fun jj => decide (w32 (fat (mF A) (4 + jj)) = w32 (xs (w32 (i + 1))))) (Int.toNat (mF A 0))) → ((999 : Nat) = 999 ∧ (0 : Nat) = 0 ∧ (25 : Nat) = 25 ∧ (43 : Nat) = 43 ∧ i + 6 = i + 6 ∧ REL G_1 B_1 ∧ (0 : Nat) ≤ 2)) ∧ (¬ w32 (firstk (fun jj => decide (w32 (fat (A 2) (4 + jj)) = w32 (xs (w32 (i + 1))))) (Int.toNat (A 2 0))) = w32 (firstk (fun jj => decide (w32 (fat (mF A) (4 + jj)) = w32 (xs (w32 (i + 1))))) (Int.toNat (mF A 0))) → (((0 : Int) = 0 ∨ (0 : Int) = 1) ∧ (lawK (some (some (vI 0))) G_1 B_1))))))))
  refine ⟨by exact hb 1 (by decide) (by decide), ?_⟩
  refine ⟨by exact rel_f hR, ?_⟩
  refine ⟨by exact hb 1 (by decide) (by decide), ?_⟩
  refine ⟨by exact rel_m hR, ?_⟩
  intro G_1 B_1 g1
  have hR2 := rel_qd hR g1.1
  refine ⟨fun c1 => ?_, fun c1 => ?_⟩
  · skip
    skip
    exact ⟨rfl, rfl, rfl, rfl, rfl, hR2, by decide⟩
  · skip
    skip
    refine ⟨by decide, ?_⟩
    exact absurd (by rw [e0]) c1
