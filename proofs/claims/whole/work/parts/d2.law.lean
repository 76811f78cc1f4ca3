def qkL_7 : Nat → Option CI := fun pc => cond (Nat.ble 3593 pc) none (cond (Nat.ble 463 pc) (cond (Nat.ble 471 pc) (cond (Nat.ble 475 pc) (cond (Nat.beq pc 475) (some (.ireturn, 476, [])) (cond (Nat.beq pc 3589) (some (.iinc 4 6, 3592, [])) (cond (Nat.beq pc 3592) (some (.goto (-3569), 3595, [23])) (none)))) (cond (Nat.beq pc 471) (some (.if_icmp .eq 3118, 474, [3589])) (cond (Nat.beq pc 474) (some (.iconst 0, 475, [])) (none)))) (cond (Nat.ble 466 pc) (cond (Nat.beq pc 466) (some (.iadd, 467, [])) (cond (Nat.beq pc 467) (some (.iaload, 468, [])) (cond (Nat.beq pc 468) (some (.invokevirtual 164, 471, [])) (none)))) (cond (Nat.beq pc 463) (some (.iload 4, 465, [])) (cond (Nat.beq pc 465) (some (.iconst 1, 466, [])) (none))))) (cond (Nat.ble 456 pc) (cond (Nat.ble 458 pc) (cond (Nat.beq pc 458) (some (.invokevirtual 161, 461, [])) (cond (Nat.beq pc 461) (some (.aload_n 2, 462, [])) (cond (Nat.beq pc 462) (some (.aload_n 0, 463, [])) (none)))) (cond (Nat.beq pc 456) (some (.iadd, 457, [])) (cond (Nat.beq pc 457) (some (.iaload, 458, [])) (none)))) (cond (Nat.ble 453 pc) (cond (Nat.beq pc 453) (some (.iload 4, 455, [])) (cond (Nat.beq pc 455) (some (.iconst 1, 456, [])) (none))) (cond (Nat.beq pc 451) (some (.aload_n 1, 452, [])) (cond (Nat.beq pc 452) (some (.aload_n 0, 453, [])) (none))))))
theorem qkL_7_ok : ∀ pc i nx ts, qkL_7 pc = some (i, nx, ts) → am_cok cL_law pc (i, nx, ts) = true := fun pc i nx ts h => am_tok_ok (n := 3593) (by decide +kernel) (fun pc h => by show cond (Nat.ble 3593 pc) _ _ = _; rw [Nat.ble_eq_true_of_le h]; rfl) h
def qaL_7 : Nat → Option CE := fun k => cond (Nat.beq k 161) (some qeX8_lineNamed) (cond (Nat.beq k 164) (some qeX9_lineNamed) (none))
theorem qyL_7 (l : Launch) (hst : l.stackTraces = false) : ∀ k e1, qaL_7 k = some e1 → am_cal l layL RL 40 k e1 ∧ True := q_cons ⟨am_calV (ci := 8) (am_CT_mono layX_L (qtX8_lineNamed l)) qbX8_lineNamed (by decide) rfl (am_tb_at 553 (by decide +kernel) rfl), trivial⟩ (q_cons ⟨am_calV (ci := 9) (am_CT_mono layM_L (qtX9_lineNamed l)) qbX9_lineNamed (by decide) rfl (am_tb_at 1635 (by decide +kernel) rfl), trivial⟩ (q_nil))
def qxL_7 (Ls : Int) (xs : Int → Int) : CX := (qkL_7, layL, qfL, qaL_7, qcL, qlL, qmL, some .boolean, false, none, 2, some (Ls, xs), fun _ => none)
theorem qzL_7 (l : Launch) (hst : l.stackTraces = false) (Ls : Int) (xs : Int → Int) : am_sta l (qxL_7 Ls xs) RL 40 cL_law := ⟨qkL_7_ok, layL_ok, qfL_ok, qcL_ok, qlL_ok, am_mthP qmL_ok (by decide), fun k e1 h => (qyL_7 l hst k e1 h).1⟩
set_option maxRecDepth 20000 in
theorem qvL_7 (Ls : Int) (xs : Int → Int) (F : FF) (A : AA) (i : Int) (hx : ∀ j, -2147483648 ≤ xs j ∧ xs j < 2147483648) (hL : Ls ≤ 3072) (i0 : 0 ≤ i) (i1 : i + 6 ≤ Ls) (hR : REL F A) : am_stp (qxL_7 Ls xs) (am_run (qxL_7 Ls xs) lawC (lawI i) lawK 20) lawK 451 [some (vR 999), some (vR 0), some (vR 25), some (vR 43), some (vI i), none, none, none] [] F A 0 := by
  have hb : ∀ k : Int, 0 ≤ k → k ≤ 5 → 0 ≤ w32 (i + k) ∧ w32 (i + k) < Ls := fun k k0 k1 => by rw [w32_id (by omega) (by omega)]; omega
  have e0 : mF A = A 2 := hR.1.1.symm
  show (0 ≤ w32 (i + 1) ∧ w32 (i + 1) < Ls) ∧ ((fgOK (A 2)) ∧ ((0 ≤ w32 (i + 1) ∧ w32 (i + 1) < Ls) ∧ ((fgOK (mF A)) ∧ (∀ (G_1 : FF) (B_1 : AA), (qdP F G_1 A B_1 ∧ G_1 25 0 = 0) → ((w32 (firstk (fun jj => decide (w32 (fat (A 2) (12 + jj)) = w32 (xs (w32 (i + 1))))) (Int.toNat (A 2 1))) = w32 (firstk (fun jj => decide (w32 (fat (mF A) (12 + jj)) = w32 (xs (w32 (i + 1))))) (Int.toNat (mF A 1))) → ((999 : Nat) = 999 ∧ (0 : Nat) = 0 ∧ (25 : Nat) = 25 ∧ (43 : Nat) = 43 ∧ i + 6 = i + 6 ∧ REL G_1 B_1 ∧ (0 : Nat) ≤ 2)) ∧ (¬ w32 (firstk (fun jj => decide (w32 (fat (A 2) (12 + jj)) = w32 (xs (w32 (i + 1))))) (Int.toNat (A 2 1))) = w32 (firstk (fun jj => decide (w32 (fat (mF A) (12 + jj)) = w32 (xs (w32 (i + 1))))) (Int.toNat (mF A 1))) → (((0 : Int) = 0 ∨ (0 : Int) = 1) ∧ (lawK (some (some (vI 0))) G_1 B_1))))))))
  refine ⟨by exact hb 1 (by decide) (by decide), ?_⟩
  refine ⟨by exact rel_f hR, ?_⟩
  refine ⟨by exact hb 1 (by decide) (by decide), ?_⟩
  refine ⟨by exact rel_m hR, ?_⟩
  intro G_1 B_1 g1
  have hR2 := rel_qd hR g1.1
  refine ⟨fun c1 => ?_, fun c1 => ?_⟩
  · skip
    skip
    exact ⟨rfl, rfl, rfl, rfl, rfl, hR2, by decide⟩
  · skip
    skip
    refine ⟨by decide, ?_⟩
    exact absurd (by rw [e0]) c1
def qkL_8 : Nat → Option CI := fun pc => cond (Nat.ble 3593 pc) none (cond (Nat.ble 488 pc) (cond (Nat.ble 496 pc) (cond (Nat.ble 500 pc) (cond (Nat.beq pc 500) (some (.ireturn, 501, [])) (cond (Nat.beq pc 3589) (some (.iinc 4 6, 3592, [])) (cond (Nat.beq pc 3592) (some (.goto (-3569), 3595, [23])) (none)))) (cond (Nat.beq pc 496) (some (.if_icmp .eq 3093, 499, [3589])) (cond (Nat.beq pc 499) (some (.iconst 0, 500, [])) (none)))) (cond (Nat.ble 491 pc) (cond (Nat.beq pc 491) (some (.iadd, 492, [])) (cond (Nat.beq pc 492) (some (.iaload, 493, [])) (cond (Nat.beq pc 493) (some (.invokevirtual 168, 496, [])) (none)))) (cond (Nat.beq pc 488) (some (.iload 4, 490, [])) (cond (Nat.beq pc 490) (some (.iconst 1, 491, [])) (none))))) (cond (Nat.ble 481 pc) (cond (Nat.ble 483 pc) (cond (Nat.beq pc 483) (some (.invokevirtual 165, 486, [])) (cond (Nat.beq pc 486) (some (.aload_n 2, 487, [])) (cond (Nat.beq pc 487) (some (.aload_n 0, 488, [])) (none)))) (cond (Nat.beq pc 481) (some (.iadd, 482, [])) (cond (Nat.beq pc 482) (some (.iaload, 483, [])) (none)))) (cond (Nat.ble 478 pc) (cond (Nat.beq pc 478) (some (.iload 4, 480, [])) (cond (Nat.beq pc 480) (some (.iconst 1, 481, [])) (none))) (cond (Nat.beq pc 476) (some (.aload_n 1, 477, [])) (cond (Nat.beq pc 477) (some (.aload_n 0, 478, [])) (none))))))
theorem qkL_8_ok : ∀ pc i nx ts, qkL_8 pc = some (i, nx, ts) → am_cok cL_law pc (i, nx, ts) = true := fun pc i nx ts h => am_tok_ok (n := 3593) (by decide +kernel) (fun pc h => by show cond (Nat.ble 3593 pc) _ _ = _; rw [Nat.ble_eq_true_of_le h]; rfl) h
def qaL_8 : Nat → Option CE := fun k => cond (Nat.beq k 165) (some qeX8_getSetting) (cond (Nat.beq k 168) (some qeX9_getSetting) (none))
theorem qyL_8 (l : Launch) (hst : l.stackTraces = false) : ∀ k e1, qaL_8 k = some e1 → am_cal l layL RL 40 k e1 ∧ True := q_cons ⟨am_calV (ci := 8) (am_CT_mono layX_L (qtX8_getSetting l)) qbX8_getSetting (by decide) rfl (am_tb_at 558 (by decide +kernel) rfl), trivial⟩ (q_cons ⟨am_calV (ci := 9) (am_CT_mono layM_L (qtX9_getSetting l)) qbX9_getSetting (by decide) rfl (am_tb_at 1639 (by decide +kernel) rfl), trivial⟩ (q_nil))
def qxL_8 (Ls : Int) (xs : Int → Int) : CX := (qkL_8, layL, qfL, qaL_8, qcL, qlL, qmL, some .boolean, false, none, 2, some (Ls, xs), fun _ => none)
theorem qzL_8 (l : Launch) (hst : l.stackTraces = false) (Ls : Int) (xs : Int → Int) : am_sta l (qxL_8 Ls xs) RL 40 cL_law := ⟨qkL_8_ok, layL_ok, qfL_ok, qcL_ok, qlL_ok, am_mthP qmL_ok (by decide), fun k e1 h => (qyL_8 l hst k e1 h).1⟩
set_option maxRecDepth 20000 in
theorem qvL_8 (Ls : Int) (xs : Int → Int) (F : FF) (A : AA) (i : Int) (hx : ∀ j, -2147483648 ≤ xs j ∧ xs j < 2147483648) (hL : Ls ≤ 3072) (i0 : 0 ≤ i) (i1 : i + 6 ≤ Ls) (hR : REL F A) : am_stp (qxL_8 Ls xs) (am_run (qxL_8 Ls xs) lawC (lawI i) lawK 20) lawK 476 [some (vR 999), some (vR 0), some (vR 25), some (vR 43), some (vI i), none, none, none] [] F A 0 := by
  have hb : ∀ k : Int, 0 ≤ k → k ≤ 5 → 0 ≤ w32 (i + k) ∧ w32 (i + k) < Ls := fun k k0 k1 => by rw [w32_id (by omega) (by omega)]; omega
  have e0 : mF A = A 2 := hR.1.1.symm
  show (0 ≤ w32 (i + 1) ∧ w32 (i + 1) < Ls) ∧ (((-2147483648 ≤ (xs (w32 (i + 1))) ∧ (xs (w32 (i + 1))) < 2147483648)) ∧ ((0 ≤ w32 (i + 1) ∧ w32 (i + 1) < Ls) ∧ ((fgOK (mF A) ∧ (-2147483648 ≤ (xs (w32 (i + 1))) ∧ (xs (w32 (i + 1))) < 2147483648)) ∧ (∀ (G_1 : FF) (B_1 : AA), (qdP F G_1 A B_1 ∧ G_1 25 0 = 0) → ((w32 (if (xs (w32 (i + 1))) = 0 ∨ (xs (w32 (i + 1))) = 1 then A 2 (2 + (xs (w32 (i + 1)))) else -2) = w32 (if (xs (w32 (i + 1))) = 0 ∨ (xs (w32 (i + 1))) = 1 then mF A (2 + (xs (w32 (i + 1)))) else -2) → ((999 : Nat) = 999 ∧ (0 : Nat) = 0 ∧ (25 : Nat) = 25 ∧ (43 : Nat) = 43 ∧ i + 6 = i + 6 ∧ REL G_1 B_1 ∧ (0 : Nat) ≤ 2)) ∧ (¬ (w32 (if (xs (w32 (i + 1))) = 0 ∨ (xs (w32 (i + 1))) = 1 then A 2 (2 + (xs (w32 (i + 1)))) else -2) = w32 (if (xs (w32 (i + 1))) = 0 ∨ (xs (w32 (i + 1))) = 1 then mF A (2 + (xs (w32 (i + 1)))) else -2)) → (((0 : Int) = 0 ∨ (0 : Int) = 1) ∧ (lawK (some (some (vI 0))) G_1 B_1))))))))
  refine ⟨by exact hb 1 (by decide) (by decide), ?_⟩
  refine ⟨by exact hx _, ?_⟩
  refine ⟨by exact hb 1 (by decide) (by decide), ?_⟩
  refine ⟨by exact ⟨rel_m hR, hx _⟩, ?_⟩
  intro G_1 B_1 g1
  have hR2 := rel_qd hR g1.1
  refine ⟨fun c1 => ?_, fun c1 => ?_⟩
  · skip
    skip
    exact ⟨rfl, rfl, rfl, rfl, rfl, hR2, by decide⟩
  · skip
    skip
    refine ⟨by decide, ?_⟩
    exact absurd (by rw [e0]) c1
def qkL_9 : Nat → Option CI := fun pc => cond (Nat.ble 3593 pc) none (cond (Nat.ble 527 pc) (cond (Nat.ble 544 pc) (cond (Nat.ble 552 pc) (cond (Nat.ble 554 pc) (cond (Nat.beq pc 554) (some (.goto 3035, 557, [3589])) (cond (Nat.beq pc 3589) (some (.iinc 4 6, 3592, [])) (cond (Nat.beq pc 3592) (some (.goto (-3569), 3595, [23])) (none)))) (cond (Nat.beq pc 552) (some (.iconst 0, 553, [])) (cond (Nat.beq pc 553) (some (.ireturn, 554, [])) (none)))) (cond (Nat.ble 547 pc) (cond (Nat.beq pc 547) (some (.i2l, 548, [])) (cond (Nat.beq pc 548) (some (.lcmp, 549, [])) (cond (Nat.beq pc 549) (some (.ifCond .eq 5, 552, [554])) (none)))) (cond (Nat.beq pc 544) (some (.laload, 545, [])) (cond (Nat.beq pc 545) (some (.iload 6, 547, [])) (none))))) (cond (Nat.ble 536 pc) (cond (Nat.ble 539 pc) (cond (Nat.beq pc 539) (some (.ifCond .ne 15, 542, [554])) (cond (Nat.beq pc 542) (some (.aload_n 3, 543, [])) (cond (Nat.beq pc 543) (some (.iconst 0, 544, [])) (none)))) (cond (Nat.beq pc 536) (some (.ireturn, 537, [])) (cond (Nat.beq pc 537) (some (.iload 5, 539, [])) (none)))) (cond (Nat.ble 532 pc) (cond (Nat.beq pc 532) (some (.if_icmp .eq 5, 535, [537])) (cond (Nat.beq pc 535) (some (.iconst 0, 536, [])) (none))) (cond (Nat.beq pc 527) (some (.invokevirtual 175, 530, [])) (cond (Nat.beq pc 530) (some (.iload 5, 532, [])) (none)))))) (cond (Nat.ble 514 pc) (cond (Nat.ble 519 pc) (cond (Nat.ble 521 pc) (cond (Nat.beq pc 521) (some (.invokevirtual 174, 524, [])) (cond (Nat.beq pc 524) (some (.istore 6, 526, [])) (cond (Nat.beq pc 526) (some (.aload_n 2, 527, [])) (none)))) (cond (Nat.beq pc 519) (some (.iadd, 520, [])) (cond (Nat.beq pc 520) (some (.iaload, 521, [])) (none)))) (cond (Nat.ble 516 pc) (cond (Nat.beq pc 516) (some (.iload 4, 518, [])) (cond (Nat.beq pc 518) (some (.iconst 1, 519, [])) (none))) (cond (Nat.beq pc 514) (some (.aload_n 2, 515, [])) (cond (Nat.beq pc 515) (some (.aload_n 0, 516, [])) (none))))) (cond (Nat.ble 506 pc) (cond (Nat.ble 508 pc) (cond (Nat.beq pc 508) (some (.aload_n 3, 509, [])) (cond (Nat.beq pc 509) (some (.invokestatic 169, 512, [])) (cond (Nat.beq pc 512) (some (.istore 5, 514, [])) (none)))) (cond (Nat.beq pc 506) (some (.iadd, 507, [])) (cond (Nat.beq pc 507) (some (.iaload, 508, [])) (none)))) (cond (Nat.ble 503 pc) (cond (Nat.beq pc 503) (some (.iload 4, 505, [])) (cond (Nat.beq pc 505) (some (.iconst 1, 506, [])) (none))) (cond (Nat.beq pc 501) (some (.aload_n 1, 502, [])) (cond (Nat.beq pc 502) (some (.aload_n 0, 503, [])) (none)))))))
theorem qkL_9_ok : ∀ pc i nx ts, qkL_9 pc = some (i, nx, ts) → am_cok cL_law pc (i, nx, ts) = true := fun pc i nx ts h => am_tok_ok (n := 3593) (by decide +kernel) (fun pc h => by show cond (Nat.ble 3593 pc) _ _ = _; rw [Nat.ble_eq_true_of_le h]; rfl) h
def qaL_9 : Nat → Option CE := fun k => cond (Nat.beq k 169) (some qeL_degree) (cond (Nat.beq k 174) (some qeX9_degree) (cond (Nat.beq k 175) (some qeX9_thrown) (none)))
theorem qyL_9 (l : Launch) (hst : l.stackTraces = false) : ∀ k e1, qaL_9 k = some e1 → am_cal l layL RL 40 k e1 ∧ True := q_cons ⟨am_calS (qtL_degree l hst) qbL_degree (by decide) rfl (by decide) (am_tb_at 833 (by decide +kernel) rfl), trivial⟩ (q_cons ⟨am_calV (ci := 9) (am_CT_mono layM_L (qtX9_degree l)) qbX9_degree (by decide) rfl (am_tb_at 1647 (by decide +kernel) rfl), trivial⟩ (q_cons ⟨am_calV (ci := 9) (am_CT_mono layM_L (qtX9_thrown l)) qbX9_thrown (by decide) rfl (am_tb_at 1481 (by decide +kernel) rfl), trivial⟩ (q_nil)))
def qxL_9 (Ls : Int) (xs : Int → Int) : CX := (qkL_9, layL, qfL, qaL_9, qcL, qlL, qmL, some .boolean, false, none, 2, some (Ls, xs), fun _ => none)
theorem qzL_9 (l : Launch) (hst : l.stackTraces = false) (Ls : Int) (xs : Int → Int) : am_sta l (qxL_9 Ls xs) RL 40 cL_law := ⟨qkL_9_ok, layL_ok, qfL_ok, qcL_ok, qlL_ok, am_mthP qmL_ok (by decide), fun k e1 h => (qyL_9 l hst k e1 h).1⟩
set_option maxRecDepth 20000 in
theorem qvL_9 (Ls : Int) (xs : Int → Int) (F : FF) (A : AA) (i : Int) (hx : ∀ j, -2147483648 ≤ xs j ∧ xs j < 2147483648) (hL : Ls ≤ 3072) (i0 : 0 ≤ i) (i1 : i + 6 ≤ Ls) (hR : REL F A) : am_stp (qxL_9 Ls xs) (am_run (qxL_9 Ls xs) lawC (lawI i) lawK 36) lawK 501 [some (vR 999), some (vR 0), some (vR 25), some (vR 43), some (vI i), none, none, none] [] F A 0 := by
  have hb : ∀ k : Int, 0 ≤ k → k ≤ 5 → 0 ≤ w32 (i + k) ∧ w32 (i + k) < Ls := fun k k0 k1 => by rw [w32_id (by omega) (by omega)]; omega
  have hR1 : ∀ v, REL F (upA A 43 (w32 0) v) := fun v => rel_up hR
  have em : ∀ v, mF (upA A 43 (w32 0) v) = A 2 := fun v => (hR1 v).1.1.symm.trans (upA_r (by decide))
  have e0 : mF A = A 2 := hR.1.1.symm
  show (0 ≤ w32 (i + 1) ∧ w32 (i + 1) < Ls) ∧ (((0 ≤ A 2 0 ∧ A 2 0 ≤ 8) ∧ (0 ≤ A 2 1 ∧ A 2 1 ≤ 6) ∧ (-2147483648 ≤ (xs (w32 (i + 1))) ∧ (xs (w32 (i + 1))) < 2147483648)) ∧ ((0 ≤ (xs (w32 (i + 1))) ∧ (xs (w32 (i + 1))) < A 2 0 → ((0 ≤ w32 (i + 1) ∧ w32 (i + 1) < Ls) ∧ ((fgOK (mF (upA A 43 (w32 0) (w32 (A 2 (18 + (xs (w32 (i + 1)))) - 1)))) ∧ (-2147483648 ≤ (xs (w32 (i + 1))) ∧ (xs (w32 (i + 1))) < 2147483648)) ∧ (∀ (G_1 : FF) (B_1 : AA), (qdP F G_1 (upA A 43 (w32 0) (w32 (A 2 (18 + (xs (w32 (i + 1)))) - 1))) B_1 ∧ G_1 25 0 = (if 0 ≤ (xs (w32 (i + 1))) ∧ (xs (w32 (i + 1))) < mF (upA A 43 (w32 0) (w32 (A 2 (18 + (xs (w32 (i + 1)))) - 1))) 0 then 0 else 1)) → ((w32 (G_1 25 0) = w32 0 → ((w32 0 = w32 0 → ((0 ≤ w32 0 ∧ w32 0 < 1) ∧ ((w32 (y_cmp (B_1 43 (w32 0)) (w32 (if 0 ≤ (xs (w32 (i + 1))) ∧ (xs (w32 (i + 1))) < mF (upA A 43 (w32 0) (w32 (A 2 (18 + (xs (w32 (i + 1)))) - 1))) 0 then mF (upA A 43 (w32 0) (w32 (A 2 (18 + (xs (w32 (i + 1)))) - 1))) (18 + (xs (w32 (i + 1)))) - 1 else 0))) = w32 0 → ((999 : Nat) = 999 ∧ (0 : Nat) = 0 ∧ (25 : Nat) = 25 ∧ (43 : Nat) = 43 ∧ i + 6 = i + 6 ∧ REL G_1 B_1 ∧ (1 : Nat) ≤ 2)) ∧ (¬ (w32 (y_cmp (B_1 43 (w32 0)) (w32 (if 0 ≤ (xs (w32 (i + 1))) ∧ (xs (w32 (i + 1))) < mF (upA A 43 (w32 0) (w32 (A 2 (18 + (xs (w32 (i + 1)))) - 1))) 0 then mF (upA A 43 (w32 0) (w32 (A 2 (18 + (xs (w32 (i + 1)))) - 1))) (18 + (xs (w32 (i + 1)))) - 1 else 0))) = w32 0) → (((0 : Int) = 0 ∨ (0 : Int) = 1) ∧ (lawK (some (some (vI 0))) G_1 B_1)))))) ∧ (¬ w32 0 = w32 0 → _))) ∧ (¬ w32 (G_1 25 0) = w32 0 → (((0 : Int) = 0 ∨ (0 : Int) = 1) ∧ (lawK (some (some (vI 0))) G_1 B_1)))))))) ∧ (¬ (0 ≤ (xs (w32 (i + 1))) ∧ (xs (w32 (i + 1))) < A 2 0) → ((0 ≤ w32 (i + 1) ∧ w32 (i + 1) < Ls) ∧ ((fgOK (mF A) ∧ (-2147483648 ≤ (xs (w32 (i + 1))) ∧ (xs (w32 (i + 1))) < 2147483648)) ∧ (∀ (G_1 : FF) (B_1 : AA), (qdP F G_1 A B_1 ∧ G_1 25 0 = (if 0 ≤ (xs (w32 (i + 1))) ∧ (xs (w32 (i + 1))) < mF A 0 then 0 else 1)) → ((w32 (G_1 25 0) = w32 1 → ((w32 1 = w32 0 → _) ∧ (¬ w32 1 = w32 0 → ((999 : Nat) = 999 ∧ (0 : Nat) = 0 ∧ (25 : Nat) = 25 ∧ (43 : Nat) = 43 ∧ i + 6 = i + 6 ∧ REL G_1 B_1 ∧ (1 : Nat) ≤ 2)))) ∧ (¬ w32 (G_1 25 0) = w32 1 → (((0 : Int) = 0 ∨ (0 : Int) = 1) ∧ (lawK (some (some (vI 0))) G_1 B_1))))))))))
  refine ⟨by exact hb 1 (by decide) (by decide), ?_⟩
  refine ⟨by exact ⟨(rel_f hR).1.1, (rel_f hR).1.2, hx _⟩, ?_⟩
  refine ⟨fun c1 => ?_, fun c1 => ?_⟩
  · skip
    skip
    refine ⟨by exact hb 1 (by decide) (by decide), ?_⟩
    refine ⟨by exact ⟨rel_m (hR1 _), hx _⟩, ?_⟩
    intro G_1 B_1 g1
    have hR2 := rel_qd (hR1 _) g1.1
    have t2 : G_1 25 0 = 0 := by
      have w := g1.2
      rw [em] at w
      exact w.trans (if_pos c1)
    have v2 := (g1.1.2 43 (w32 0) (by decide)).trans upA_s
    refine ⟨fun c2 => ?_, fun c2 => ?_⟩
    · skip
      skip
      refine ⟨fun _ => ?_, fun q => absurd (by decide) q⟩
      refine ⟨by decide, ?_⟩
      refine ⟨fun c3 => ?_, fun c3 => ?_⟩
      · skip
        skip
        exact ⟨rfl, rfl, rfl, rfl, rfl, hR2, by decide⟩
      · skip
        skip
        refine ⟨by decide, ?_⟩
        exact absurd (law_e v2 (by rw [em, if_pos c1])) c3
    · skip
      skip
      refine ⟨by decide, ?_⟩
      exact absurd (by rw [t2]) c2
  · skip
    skip
    refine ⟨by exact hb 1 (by decide) (by decide), ?_⟩
    refine ⟨by exact ⟨rel_m hR, hx _⟩, ?_⟩
    intro G_1 B_1 g1
    have hR2 := rel_qd hR g1.1
    have t2 : G_1 25 0 = 1 := by
      have w := g1.2
      rw [e0] at w
      exact w.trans (if_neg c1)
    refine ⟨fun c2 => ?_, fun c2 => ?_⟩
    · skip
      skip
      refine ⟨fun q => absurd q (by decide), fun _ => ?_⟩
      exact ⟨rfl, rfl, rfl, rfl, rfl, hR2, by decide⟩
    · skip
      skip
      refine ⟨by decide, ?_⟩
      exact absurd (by rw [t2]) c2
def qkL_10 : Nat → Option CI := fun pc => cond (Nat.ble 3593 pc) none (cond (Nat.ble 593 pc) (cond (Nat.ble 616 pc) (cond (Nat.ble 627 pc) (cond (Nat.ble 633 pc) (cond (Nat.ble 3589 pc) (cond (Nat.beq pc 3589) (some (.iinc 4 6, 3592, [])) (cond (Nat.beq pc 3592) (some (.goto (-3569), 3595, [23])) (none))) (cond (Nat.beq pc 633) (some (.ireturn, 634, [])) (cond (Nat.beq pc 634) (some (.goto 2955, 637, [3589])) (none)))) (cond (Nat.ble 629 pc) (cond (Nat.beq pc 629) (some (.ifCond .eq 5, 632, [634])) (cond (Nat.beq pc 632) (some (.iconst 0, 633, [])) (none))) (cond (Nat.beq pc 627) (some (.i2l, 628, [])) (cond (Nat.beq pc 628) (some (.lcmp, 629, [])) (none))))) (cond (Nat.ble 622 pc) (cond (Nat.ble 624 pc) (cond (Nat.beq pc 624) (some (.laload, 625, [])) (cond (Nat.beq pc 625) (some (.iload 6, 627, [])) (none))) (cond (Nat.beq pc 622) (some (.aload_n 3, 623, [])) (cond (Nat.beq pc 623) (some (.iconst 0, 624, [])) (none)))) (cond (Nat.beq pc 616) (some (.ireturn, 617, [])) (cond (Nat.beq pc 617) (some (.iload 5, 619, [])) (cond (Nat.beq pc 619) (some (.ifCond .ne 15, 622, [634])) (none)))))) (cond (Nat.ble 601 pc) (cond (Nat.ble 607 pc) (cond (Nat.ble 612 pc) (cond (Nat.beq pc 612) (some (.if_icmp .eq 5, 615, [617])) (cond (Nat.beq pc 615) (some (.iconst 0, 616, [])) (none))) (cond (Nat.beq pc 607) (some (.invokevirtual 175, 610, [])) (cond (Nat.beq pc 610) (some (.iload 5, 612, [])) (none)))) (cond (Nat.beq pc 601) (some (.invokevirtual 181, 604, [])) (cond (Nat.beq pc 604) (some (.istore 6, 606, [])) (cond (Nat.beq pc 606) (some (.aload_n 2, 607, [])) (none))))) (cond (Nat.ble 596 pc) (cond (Nat.ble 599 pc) (cond (Nat.beq pc 599) (some (.iadd, 600, [])) (cond (Nat.beq pc 600) (some (.iaload, 601, [])) (none))) (cond (Nat.beq pc 596) (some (.iload 4, 598, [])) (cond (Nat.beq pc 598) (some (.iconst 3, 599, [])) (none)))) (cond (Nat.beq pc 593) (some (.iadd, 594, [])) (cond (Nat.beq pc 594) (some (.iaload, 595, [])) (cond (Nat.beq pc 595) (some (.aload_n 0, 596, [])) (none))))))) (cond (Nat.ble 574 pc) (cond (Nat.ble 584 pc) (cond (Nat.ble 588 pc) (cond (Nat.ble 590 pc) (cond (Nat.beq pc 590) (some (.iload 4, 592, [])) (cond (Nat.beq pc 592) (some (.iconst 2, 593, [])) (none))) (cond (Nat.beq pc 588) (some (.iaload, 589, [])) (cond (Nat.beq pc 589) (some (.aload_n 0, 590, [])) (none)))) (cond (Nat.beq pc 584) (some (.iload 4, 586, [])) (cond (Nat.beq pc 586) (some (.iconst 1, 587, [])) (cond (Nat.beq pc 587) (some (.iadd, 588, [])) (none))))) (cond (Nat.ble 577 pc) (cond (Nat.ble 582 pc) (cond (Nat.beq pc 582) (some (.aload_n 2, 583, [])) (cond (Nat.beq pc 583) (some (.aload_n 0, 584, [])) (none))) (cond (Nat.beq pc 577) (some (.invokestatic 178, 580, [])) (cond (Nat.beq pc 580) (some (.istore 5, 582, [])) (none)))) (cond (Nat.beq pc 574) (some (.iadd, 575, [])) (cond (Nat.beq pc 575) (some (.iaload, 576, [])) (cond (Nat.beq pc 576) (some (.aload_n 3, 577, [])) (none)))))) (cond (Nat.ble 565 pc) (cond (Nat.ble 569 pc) (cond (Nat.ble 571 pc) (cond (Nat.beq pc 571) (some (.iload 4, 573, [])) (cond (Nat.beq pc 573) (some (.iconst 3, 574, [])) (none))) (cond (Nat.beq pc 569) (some (.iaload, 570, [])) (cond (Nat.beq pc 570) (some (.aload_n 0, 571, [])) (none)))) (cond (Nat.beq pc 565) (some (.iload 4, 567, [])) (cond (Nat.beq pc 567) (some (.iconst 2, 568, [])) (cond (Nat.beq pc 568) (some (.iadd, 569, [])) (none))))) (cond (Nat.ble 561 pc) (cond (Nat.ble 563 pc) (cond (Nat.beq pc 563) (some (.iaload, 564, [])) (cond (Nat.beq pc 564) (some (.aload_n 0, 565, [])) (none))) (cond (Nat.beq pc 561) (some (.iconst 1, 562, [])) (cond (Nat.beq pc 562) (some (.iadd, 563, [])) (none)))) (cond (Nat.beq pc 557) (some (.aload_n 1, 558, [])) (cond (Nat.beq pc 558) (some (.aload_n 0, 559, [])) (cond (Nat.beq pc 559) (some (.iload 4, 561, [])) (none))))))))
theorem qkL_10_ok : ∀ pc i nx ts, qkL_10 pc = some (i, nx, ts) → am_cok cL_law pc (i, nx, ts) = true := fun pc i nx ts h => am_tok_ok (n := 3593) (by decide +kernel) (fun pc h => by show cond (Nat.ble 3593 pc) _ _ = _; rw [Nat.ble_eq_true_of_le h]; rfl) h
def qaL_10 : Nat → Option CE := fun k => cond (Nat.beq k 178) (some qeL_control) (cond (Nat.beq k 181) (some qeX9_control) (cond (Nat.beq k 175) (some qeX9_thrown) (none)))
theorem qyL_10 (l : Launch) (hst : l.stackTraces = false) : ∀ k e1, qaL_10 k = some e1 → am_cal l layL RL 40 k e1 ∧ True := q_cons ⟨am_calS (qtL_control l hst) qbL_control (by decide) rfl (by decide) (am_tb_at 910 (by decide +kernel) rfl), trivial⟩ (q_cons ⟨am_calV (ci := 9) (am_CT_mono layM_L (qtX9_control l)) qbX9_control (by decide) rfl (am_tb_at 1667 (by decide +kernel) rfl), trivial⟩ (q_cons ⟨am_calV (ci := 9) (am_CT_mono layM_L (qtX9_thrown l)) qbX9_thrown (by decide) rfl (am_tb_at 1481 (by decide +kernel) rfl), trivial⟩ (q_nil)))
def qxL_10 (Ls : Int) (xs : Int → Int) : CX := (qkL_10, layL, qfL, qaL_10, qcL, qlL, qmL, some .boolean, false, none, 2, some (Ls, xs), fun _ => none)
theorem qzL_10 (l : Launch) (hst : l.stackTraces = false) (Ls : Int) (xs : Int → Int) : am_sta l (qxL_10 Ls xs) RL 40 cL_law := ⟨qkL_10_ok, layL_ok, qfL_ok, qcL_ok, qlL_ok, am_mthP qmL_ok (by decide), fun k e1 h => (qyL_10 l hst k e1 h).1⟩
set_option maxRecDepth 20000 in
theorem qvL_10 (Ls : Int) (xs : Int → Int) (F : FF) (A : AA) (i : Int) (hx : ∀ j, -2147483648 ≤ xs j ∧ xs j < 2147483648) (hL : Ls ≤ 3072) (i0 : 0 ≤ i) (i1 : i + 6 ≤ Ls) (hR : REL F A) : am_stp (qxL_10 Ls xs) (am_run (qxL_10 Ls xs) lawC (lawI i) lawK 56) lawK 557 [some (vR 999), some (vR 0), some (vR 25), some (vR 43), some (vI i), none, none, none] [] F A 0 := by
  have hb : ∀ k : Int, 0 ≤ k → k ≤ 5 → 0 ≤ w32 (i + k) ∧ w32 (i + k) < Ls := fun k k0 k1 => by rw [w32_id (by omega) (by omega)]; omega
  have hR1 : ∀ v, REL F (upA A 43 (w32 0) v) := fun v => rel_up hR
  have em : ∀ v, mF (upA A 43 (w32 0) v) = A 2 := fun v => (hR1 v).1.1.symm.trans (upA_r (by decide))
  have e0 : mF A = A 2 := hR.1.1.symm
  show (0 ≤ w32 (i + 1) ∧ w32 (i + 1) < Ls) ∧ ((0 ≤ w32 (i + 2) ∧ w32 (i + 2) < Ls) ∧ ((0 ≤ w32 (i + 3) ∧ w32 (i + 3) < Ls) ∧ ((fgOK (A 2) ∧ (-2147483648 ≤ (xs (w32 (i + 1))) ∧ (xs (w32 (i + 1))) < 2147483648) ∧ (-2147483648 ≤ (xs (w32 (i + 2))) ∧ (xs (w32 (i + 2))) < 2147483648) ∧ (-2147483648 ≤ (xs (w32 (i + 3))) ∧ (xs (w32 (i + 3))) < 2147483648)) ∧ ((0 ≤ (xs (w32 (i + 1))) ∧ (xs (w32 (i + 1))) < A 2 0 → ((0 ≤ w32 (i + 1) ∧ w32 (i + 1) < Ls) ∧ ((0 ≤ w32 (i + 2) ∧ w32 (i + 2) < Ls) ∧ ((0 ≤ w32 (i + 3) ∧ w32 (i + 3) < Ls) ∧ ((fgOK (mF (upA A 43 (w32 0) (w32 (if 0 ≤ (xs (w32 (i + 2))) ∧ (xs (w32 (i + 2))) < A 2 (18 + (xs (w32 (i + 1)))) then (if 0 ≤ (xs (w32 (i + 3))) ∧ (xs (w32 (i + 3))) ≤ 2 then A 2 (26 + ((xs (w32 (i + 1))) * 4 + (xs (w32 (i + 2)))) * 3 + (xs (w32 (i + 3)))) else -2) else -1)))) ∧ (-2147483648 ≤ (xs (w32 (i + 1))) ∧ (xs (w32 (i + 1))) < 2147483648) ∧ (-2147483648 ≤ (xs (w32 (i + 2))) ∧ (xs (w32 (i + 2))) < 2147483648) ∧ (-2147483648 ≤ (xs (w32 (i + 3))) ∧ (xs (w32 (i + 3))) < 2147483648)) ∧ (∀ (G_1 : FF) (B_1 : AA), (qdP F G_1 (upA A 43 (w32 0) (w32 (if 0 ≤ (xs (w32 (i + 2))) ∧ (xs (w32 (i + 2))) < A 2 (18 + (xs (w32 (i + 1)))) then (if 0 ≤ (xs (w32 (i + 3))) ∧ (xs (w32 (i + 3))) ≤ 2 then A 2 (26 + ((xs (w32 (i + 1))) * 4 + (xs (w32 (i + 2)))) * 3 + (xs (w32 (i + 3)))) else -2) else -1))) B_1 ∧ G_1 25 0 = (if 0 ≤ (xs (w32 (i + 1))) ∧ (xs (w32 (i + 1))) < mF (upA A 43 (w32 0) (w32 (if 0 ≤ (xs (w32 (i + 2))) ∧ (xs (w32 (i + 2))) < A 2 (18 + (xs (w32 (i + 1)))) then (if 0 ≤ (xs (w32 (i + 3))) ∧ (xs (w32 (i + 3))) ≤ 2 then A 2 (26 + ((xs (w32 (i + 1))) * 4 + (xs (w32 (i + 2)))) * 3 + (xs (w32 (i + 3)))) else -2) else -1))) 0 then 0 else 1)) → ((w32 (G_1 25 0) = w32 0 → ((w32 0 = w32 0 → ((0 ≤ w32 0 ∧ w32 0 < 1) ∧ ((w32 (y_cmp (B_1 43 (w32 0)) (w32 (if 0 ≤ (xs (w32 (i + 1))) ∧ (xs (w32 (i + 1))) < mF (upA A 43 (w32 0) (w32 (if 0 ≤ (xs (w32 (i + 2))) ∧ (xs (w32 (i + 2))) < A 2 (18 + (xs (w32 (i + 1)))) then (if 0 ≤ (xs (w32 (i + 3))) ∧ (xs (w32 (i + 3))) ≤ 2 then A 2 (26 + ((xs (w32 (i + 1))) * 4 + (xs (w32 (i + 2)))) * 3 + (xs (w32 (i + 3)))) else -2) else -1))) 0 then (if 0 ≤ (xs (w32 (i + 2))) ∧ (xs (w32 (i + 2))) < mF (upA A 43 (w32 0) (w32 (if 0 ≤ (xs (w32 (i + 2))) ∧ (xs (w32 (i + 2))) < A 2 (18 + (xs (w32 (i + 1)))) then (if 0 ≤ (xs (w32 (i + 3))) ∧ (xs (w32 (i + 3))) ≤ 2 then A 2 (26 + ((xs (w32 (i + 1))) * 4 + (xs (w32 (i + 2)))) * 3 + (xs (w32 (i + 3)))) else -2) else -1))) (18 + (xs (w32 (i + 1)))) then (if 0 ≤ (xs (w32 (i + 3))) ∧ (xs (w32 (i + 3))) ≤ 2 then mF (upA A 43 (w32 0) (w32 (if 0 ≤ (xs (w32 (i + 2))) ∧ (xs (w32 (i + 2))) < A 2 (18 + (xs (w32 (i + 1)))) then (if 0 ≤ (xs (w32 (i + 3))) ∧ (xs (w32 (i + 3))) ≤ 2 then A 2 (26 + ((xs (w32 (i + 1))) * 4 + (xs (w32 (i + 2)))) * 3 + (xs (w32 (i + 3)))) else -2) else -1))) (26 + ((xs (w32 (i + 1))) * 4 + (xs (w32 (i + 2)))) * 3 + (xs (w32 (i + 3)))) else -2) else -1) else 0))) = w32 0 → ((999 : Nat) = 999 ∧ (0 : Nat) = 0 ∧ (25 : Nat) = 25 ∧ (43 : Nat) = 43 ∧ i + 6 = i + 6 ∧ REL G_1 B_1 ∧ (1 : Nat) ≤ 2)) ∧ (¬ (w32 (y_cmp (B_1 43 (w32 0)) (w32 (if 0 ≤ (xs (w32 (i + 1))) ∧ (xs (w32 (i + 1))) < mF (upA A 43 (w32 0) (w32 (if 0 ≤ (xs (w32 (i + 2))) ∧ (xs (w32 (i + 2))) < A 2 (18 + (xs (w32 (i + 1)))) then (if 0 ≤ (xs (w32 (i + 3))) ∧ (xs (w32 (i + 3))) ≤ 2 then A 2 (26 + ((xs (w32 (i + 1))) * 4 + (xs (w32 (i + 2)))) * 3 + (xs (w32 (i + 3)))) else -2) else -1))) 0 then (if 0 ≤ (xs (w32 (i + 2))) ∧ (xs (w32 (i + 2))) < mF (upA A 43 (w32 0) (w32 (if 0 ≤ (xs (w32 (i + 2))) ∧ (xs (w32 (i + 2))) < A 2 (18 + (xs (w32 (i + 1)))) then (if 0 ≤ (xs (w32 (i + 3))) ∧ (xs (w32 (i + 3))) ≤ 2 then A 2 (26 + ((xs (w32 (i + 1))) * 4 + (xs (w32 (i + 2)))) * 3 + (xs (w32 (i + 3)))) else -2) else -1))) (18 + (xs (w32 (i + 1)))) then (if 0 ≤ (xs (w32 (i + 3))) ∧ (xs (w32 (i + 3))) ≤ 2 then mF (upA A 43 (w32 0) (w32 (if 0 ≤ (xs (w32 (i + 2))) ∧ (xs (w32 (i + 2))) < A 2 (18 + (xs (w32 (i + 1)))) then (if 0 ≤ (xs (w32 (i + 3))) ∧ (xs (w32 (i + 3))) ≤ 2 then A 2 (26 + ((xs (w32 (i + 1))) * 4 + (xs (w32 (i + 2)))) * 3 + (xs (w32 (i + 3)))) else -2) else -1))) (26 + ((xs (w32 (i + 1))) * 4 + (xs (w32 (i + 2)))) * 3 + (xs (w32 (i + 3)))) else -2) else -1) else 0))) = w32 0) → (((0 : Int) = 0 ∨ (0 : Int) = 1) ∧ (lawK (some (some (vI 0))) G_1 B_1)))))) ∧ (¬ w32 0 = w32 0 → _))) ∧ (¬ w32 (G_1 25 0) = w32 0 → (((0 : Int) = 0 ∨ (0 : Int) = 1) ∧ (lawK (some (some (vI 0))) G_1 B_1)))))))))) ∧ (¬ (0 ≤ (xs (w32 (i + 1))) ∧ (xs (w32 (i + 1))) < A 2 0) → ((0 ≤ w32 (i + 1) ∧ w32 (i + 1) < Ls) ∧ ((0 ≤ w32 (i + 2) ∧ w32 (i + 2) < Ls) ∧ ((0 ≤ w32 (i + 3) ∧ w32 (i + 3) < Ls) ∧ ((fgOK (mF A) ∧ (-2147483648 ≤ (xs (w32 (i + 1))) ∧ (xs (w32 (i + 1))) < 2147483648) ∧ (-2147483648 ≤ (xs (w32 (i + 2))) ∧ (xs (w32 (i + 2))) < 2147483648) ∧ (-2147483648 ≤ (xs (w32 (i + 3))) ∧ (xs (w32 (i + 3))) < 2147483648)) ∧ (∀ (G_1 : FF) (B_1 : AA), (qdP F G_1 A B_1 ∧ G_1 25 0 = (if 0 ≤ (xs (w32 (i + 1))) ∧ (xs (w32 (i + 1))) < mF A 0 then 0 else 1)) → ((w32 (G_1 25 0) = w32 1 → ((w32 1 = w32 0 → _) ∧ (¬ w32 1 = w32 0 → ((999 : Nat) = 999 ∧ (0 : Nat) = 0 ∧ (25 : Nat) = 25 ∧ (43 : Nat) = 43 ∧ i + 6 = i + 6 ∧ REL G_1 B_1 ∧ (1 : Nat) ≤ 2)))) ∧ (¬ w32 (G_1 25 0) = w32 1 → (((0 : Int) = 0 ∨ (0 : Int) = 1) ∧ (lawK (some (some (vI 0))) G_1 B_1))))))))))))))
  refine ⟨by exact hb 1 (by decide) (by decide), ?_⟩
  refine ⟨by exact hb 2 (by decide) (by decide), ?_⟩
  refine ⟨by exact hb 3 (by decide) (by decide), ?_⟩
  refine ⟨by exact ⟨rel_f hR, hx _, hx _, hx _⟩, ?_⟩
  refine ⟨fun c1 => ?_, fun c1 => ?_⟩
  · skip
    skip
    refine ⟨by exact hb 1 (by decide) (by decide), ?_⟩
    refine ⟨by exact hb 2 (by decide) (by decide), ?_⟩
    refine ⟨by exact hb 3 (by decide) (by decide), ?_⟩
    refine ⟨by exact ⟨rel_m (hR1 _), hx _, hx _, hx _⟩, ?_⟩
    intro G_1 B_1 g1
    have hR2 := rel_qd (hR1 _) g1.1
    have t2 : G_1 25 0 = 0 := by
      have w := g1.2
      rw [em] at w
      exact w.trans (if_pos c1)
    have v2 := (g1.1.2 43 (w32 0) (by decide)).trans upA_s
    refine ⟨fun c2 => ?_, fun c2 => ?_⟩
    · skip
      skip
      refine ⟨fun _ => ?_, fun q => absurd (by decide) q⟩
      refine ⟨by decide, ?_⟩
      refine ⟨fun c3 => ?_, fun c3 => ?_⟩
      · skip
        skip
        exact ⟨rfl, rfl, rfl, rfl, rfl, hR2, by decide⟩
      · skip
        skip
        refine ⟨by decide, ?_⟩
        exact absurd (law_e v2 (by rw [em, if_pos c1])) c3
    · skip
      skip
      refine ⟨by decide, ?_⟩
      exact absurd (by rw [t2]) c2
  · skip
    skip
    refine ⟨by exact hb 1 (by decide) (by decide), ?_⟩
    refine ⟨by exact hb 2 (by decide) (by decide), ?_⟩
    refine ⟨by exact hb 3 (by decide) (by decide), ?_⟩
    refine ⟨by exact ⟨rel_m hR, hx _, hx _, hx _⟩, ?_⟩
    intro G_1 B_1 g1
    have hR2 := rel_qd hR g1.1
    have t2 : G_1 25 0 = 1 := by
      have w := g1.2
      rw [e0] at w
      exact w.trans (if_neg c1)
    refine ⟨fun c2 => ?_, fun c2 => ?_⟩
    · skip
      skip
      refine ⟨fun q => absurd q (by decide), fun _ => ?_⟩
      exact ⟨rfl, rfl, rfl, rfl, rfl, hR2, by decide⟩
    · skip
      skip
      refine ⟨by decide, ?_⟩
      exact absurd (by rw [t2]) c2
def qkL_11 : Nat → Option CI := fun pc => cond (Nat.ble 3593 pc) none (cond (Nat.ble 667 pc) (cond (Nat.ble 690 pc) (cond (Nat.ble 697 pc) (cond (Nat.ble 702 pc) (cond (Nat.beq pc 702) (some (.goto 2887, 705, [3589])) (cond (Nat.beq pc 3589) (some (.iinc 4 6, 3592, [])) (cond (Nat.beq pc 3592) (some (.goto (-3569), 3595, [23])) (none)))) (cond (Nat.beq pc 697) (some (.ifCond .eq 5, 700, [702])) (cond (Nat.beq pc 700) (some (.iconst 0, 701, [])) (cond (Nat.beq pc 701) (some (.ireturn, 702, [])) (none))))) (cond (Nat.ble 693 pc) (cond (Nat.beq pc 693) (some (.iload 6, 695, [])) (cond (Nat.beq pc 695) (some (.i2l, 696, [])) (cond (Nat.beq pc 696) (some (.lcmp, 697, [])) (none)))) (cond (Nat.beq pc 690) (some (.aload_n 3, 691, [])) (cond (Nat.beq pc 691) (some (.iconst 0, 692, [])) (cond (Nat.beq pc 692) (some (.laload, 693, [])) (none)))))) (cond (Nat.ble 678 pc) (cond (Nat.ble 684 pc) (cond (Nat.beq pc 684) (some (.ireturn, 685, [])) (cond (Nat.beq pc 685) (some (.iload 5, 687, [])) (cond (Nat.beq pc 687) (some (.ifCond .ne 15, 690, [702])) (none)))) (cond (Nat.beq pc 678) (some (.iload 5, 680, [])) (cond (Nat.beq pc 680) (some (.if_icmp .eq 5, 683, [685])) (cond (Nat.beq pc 683) (some (.iconst 0, 684, [])) (none))))) (cond (Nat.ble 672 pc) (cond (Nat.beq pc 672) (some (.istore 6, 674, [])) (cond (Nat.beq pc 674) (some (.aload_n 2, 675, [])) (cond (Nat.beq pc 675) (some (.invokevirtual 175, 678, [])) (none)))) (cond (Nat.beq pc 667) (some (.iadd, 668, [])) (cond (Nat.beq pc 668) (some (.iaload, 669, [])) (cond (Nat.beq pc 669) (some (.invokevirtual 185, 672, [])) (none))))))) (cond (Nat.ble 650 pc) (cond (Nat.ble 660 pc) (cond (Nat.ble 663 pc) (cond (Nat.beq pc 663) (some (.aload_n 0, 664, [])) (cond (Nat.beq pc 664) (some (.iload 4, 666, [])) (cond (Nat.beq pc 666) (some (.iconst 2, 667, [])) (none)))) (cond (Nat.beq pc 660) (some (.iconst 1, 661, [])) (cond (Nat.beq pc 661) (some (.iadd, 662, [])) (cond (Nat.beq pc 662) (some (.iaload, 663, [])) (none))))) (cond (Nat.ble 656 pc) (cond (Nat.beq pc 656) (some (.aload_n 2, 657, [])) (cond (Nat.beq pc 657) (some (.aload_n 0, 658, [])) (cond (Nat.beq pc 658) (some (.iload 4, 660, [])) (none)))) (cond (Nat.beq pc 650) (some (.aload_n 3, 651, [])) (cond (Nat.beq pc 651) (some (.invokestatic 182, 654, [])) (cond (Nat.beq pc 654) (some (.istore 5, 656, [])) (none)))))) (cond (Nat.ble 643 pc) (cond (Nat.ble 647 pc) (cond (Nat.beq pc 647) (some (.iconst 2, 648, [])) (cond (Nat.beq pc 648) (some (.iadd, 649, [])) (cond (Nat.beq pc 649) (some (.iaload, 650, [])) (none)))) (cond (Nat.beq pc 643) (some (.iaload, 644, [])) (cond (Nat.beq pc 644) (some (.aload_n 0, 645, [])) (cond (Nat.beq pc 645) (some (.iload 4, 647, [])) (none))))) (cond (Nat.ble 639 pc) (cond (Nat.beq pc 639) (some (.iload 4, 641, [])) (cond (Nat.beq pc 641) (some (.iconst 1, 642, [])) (cond (Nat.beq pc 642) (some (.iadd, 643, [])) (none)))) (cond (Nat.beq pc 637) (some (.aload_n 1, 638, [])) (cond (Nat.beq pc 638) (some (.aload_n 0, 639, [])) (none)))))))
theorem qkL_11_ok : ∀ pc i nx ts, qkL_11 pc = some (i, nx, ts) → am_cok cL_law pc (i, nx, ts) = true := fun pc i nx ts h => am_tok_ok (n := 3593) (by decide +kernel) (fun pc h => by show cond (Nat.ble 3593 pc) _ _ = _; rw [Nat.ble_eq_true_of_le h]; rfl) h
def qaL_11 : Nat → Option CE := fun k => cond (Nat.beq k 182) (some qeL_lineNumber) (cond (Nat.beq k 185) (some qeX9_lineNumber) (cond (Nat.beq k 175) (some qeX9_thrown) (none)))
theorem qyL_11 (l : Launch) (hst : l.stackTraces = false) : ∀ k e1, qaL_11 k = some e1 → am_cal l layL RL 40 k e1 ∧ True := q_cons ⟨am_calS (qtL_lineNumber l hst) qbL_lineNumber (by decide) rfl (by decide) (am_tb_at 917 (by decide +kernel) rfl), trivial⟩ (q_cons ⟨am_calV (ci := 9) (am_CT_mono layM_L (qtX9_lineNumber l)) qbX9_lineNumber (by decide) rfl (am_tb_at 1679 (by decide +kernel) rfl), trivial⟩ (q_cons ⟨am_calV (ci := 9) (am_CT_mono layM_L (qtX9_thrown l)) qbX9_thrown (by decide) rfl (am_tb_at 1481 (by decide +kernel) rfl), trivial⟩ (q_nil)))
def qxL_11 (Ls : Int) (xs : Int → Int) : CX := (qkL_11, layL, qfL, qaL_11, qcL, qlL, qmL, some .boolean, false, none, 2, some (Ls, xs), fun _ => none)
theorem qzL_11 (l : Launch) (hst : l.stackTraces = false) (Ls : Int) (xs : Int → Int) : am_sta l (qxL_11 Ls xs) RL 40 cL_law := ⟨qkL_11_ok, layL_ok, qfL_ok, qcL_ok, qlL_ok, am_mthP qmL_ok (by decide), fun k e1 h => (qyL_11 l hst k e1 h).1⟩
set_option maxRecDepth 20000 in
theorem qvL_11 (Ls : Int) (xs : Int → Int) (F : FF) (A : AA) (i : Int) (hx : ∀ j, -2147483648 ≤ xs j ∧ xs j < 2147483648) (hL : Ls ≤ 3072) (i0 : 0 ≤ i) (i1 : i + 6 ≤ Ls) (hR : REL F A) : am_stp (qxL_11 Ls xs) (am_run (qxL_11 Ls xs) lawC (lawI i) lawK 46) lawK 637 [some (vR 999), some (vR 0), some (vR 25), some (vR 43), some (vI i), none, none, none] [] F A 0 := by
  have hb : ∀ k : Int, 0 ≤ k → k ≤ 5 → 0 ≤ w32 (i + k) ∧ w32 (i + k) < Ls := fun k k0 k1 => by rw [w32_id (by omega) (by omega)]; omega
  have hR1 : ∀ v, REL F (upA A 43 (w32 0) v) := fun v => rel_up hR
  have em : ∀ v, mF (upA A 43 (w32 0) v) = A 2 := fun v => (hR1 v).1.1.symm.trans (upA_r (by decide))
  have e0 : mF A = A 2 := hR.1.1.symm
  show (0 ≤ w32 (i + 1) ∧ w32 (i + 1) < Ls) ∧ ((0 ≤ w32 (i + 2) ∧ w32 (i + 2) < Ls) ∧ ((fgOK (A 2) ∧ (-2147483648 ≤ (xs (w32 (i + 1))) ∧ (xs (w32 (i + 1))) < 2147483648) ∧ (-2147483648 ≤ (xs (w32 (i + 2))) ∧ (xs (w32 (i + 2))) < 2147483648)) ∧ ((0 ≤ (xs (w32 (i + 1))) ∧ (xs (w32 (i + 1))) < A 2 1 → ((0 ≤ w32 (i + 1) ∧ w32 (i + 1) < Ls) ∧ ((0 ≤ w32 (i + 2) ∧ w32 (i + 2) < Ls) ∧ ((fgOK (mF (upA A 43 (w32 0) (w32 (if 0 ≤ (xs (w32 (i + 2))) ∧ (xs (w32 (i + 2))) ≤ 2 then A 2 (122 + (xs (w32 (i + 1))) * 3 + (xs (w32 (i + 2)))) else 1000)))) ∧ (-2147483648 ≤ (xs (w32 (i + 1))) ∧ (xs (w32 (i + 1))) < 2147483648) ∧ (-2147483648 ≤ (xs (w32 (i + 2))) ∧ (xs (w32 (i + 2))) < 2147483648)) ∧ (∀ (G_1 : FF) (B_1 : AA), (qdP F G_1 (upA A 43 (w32 0) (w32 (if 0 ≤ (xs (w32 (i + 2))) ∧ (xs (w32 (i + 2))) ≤ 2 then A 2 (122 + (xs (w32 (i + 1))) * 3 + (xs (w32 (i + 2)))) else 1000))) B_1 ∧ G_1 25 0 = (if 0 ≤ (xs (w32 (i + 1))) ∧ (xs (w32 (i + 1))) < mF (upA A 43 (w32 0) (w32 (if 0 ≤ (xs (w32 (i + 2))) ∧ (xs (w32 (i + 2))) ≤ 2 then A 2 (122 + (xs (w32 (i + 1))) * 3 + (xs (w32 (i + 2)))) else 1000))) 1 then 0 else 1)) → ((w32 (G_1 25 0) = w32 0 → ((w32 0 = w32 0 → ((0 ≤ w32 0 ∧ w32 0 < 1) ∧ ((w32 (y_cmp (B_1 43 (w32 0)) (w32 (if 0 ≤ (xs (w32 (i + 1))) ∧ (xs (w32 (i + 1))) < mF (upA A 43 (w32 0) (w32 (if 0 ≤ (xs (w32 (i + 2))) ∧ (xs (w32 (i + 2))) ≤ 2 then A 2 (122 + (xs (w32 (i + 1))) * 3 + (xs (w32 (i + 2)))) else 1000))) 1 then (if 0 ≤ (xs (w32 (i + 2))) ∧ (xs (w32 (i + 2))) ≤ 2 then mF (upA A 43 (w32 0) (w32 (if 0 ≤ (xs (w32 (i + 2))) ∧ (xs (w32 (i + 2))) ≤ 2 then A 2 (122 + (xs (w32 (i + 1))) * 3 + (xs (w32 (i + 2)))) else 1000))) (122 + (xs (w32 (i + 1))) * 3 + (xs (w32 (i + 2)))) else 1000) else 0))) = w32 0 → ((999 : Nat) = 999 ∧ (0 : Nat) = 0 ∧ (25 : Nat) = 25 ∧ (43 : Nat) = 43 ∧ i + 6 = i + 6 ∧ REL G_1 B_1 ∧ (1 : Nat) ≤ 2)) ∧ (¬ (w32 (y_cmp (B_1 43 (w32 0)) (w32 (if 0 ≤ (xs (w32 (i + 1))) ∧ (xs (w32 (i + 1))) < mF (upA A 43 (w32 0) (w32 (if 0 ≤ (xs (w32 (i + 2))) ∧ (xs (w32 (i + 2))) ≤ 2 then A 2 (122 + (xs (w32 (i + 1))) * 3 + (xs (w32 (i + 2)))) else 1000))) 1 then (if 0 ≤ (xs (w32 (i + 2))) ∧ (xs (w32 (i + 2))) ≤ 2 then mF (upA A 43 (w32 0) (w32 (if 0 ≤ (xs (w32 (i + 2))) ∧ (xs (w32 (i + 2))) ≤ 2 then A 2 (122 + (xs (w32 (i + 1))) * 3 + (xs (w32 (i + 2)))) else 1000))) (122 + (xs (w32 (i + 1))) * 3 + (xs (w32 (i + 2)))) else 1000) else 0))) = w32 0) → (((0 : Int) = 0 ∨ (0 : Int) = 1) ∧ (lawK (some (some (vI 0))) G_1 B_1)))))) ∧ (¬ w32 0 = w32 0 → _))) ∧ (¬ w32 (G_1 25 0) = w32 0 → (((0 : Int) = 0 ∨ (0 : Int) = 1) ∧ (lawK (some (some (vI 0))) G_1 B_1))))))))) ∧ (¬ (0 ≤ (xs (w32 (i + 1))) ∧ (xs (w32 (i + 1))) < A 2 1) → ((0 ≤ w32 (i + 1) ∧ w32 (i + 1) < Ls) ∧ ((0 ≤ w32 (i + 2) ∧ w32 (i + 2) < Ls) ∧ ((fgOK (mF A) ∧ (-2147483648 ≤ (xs (w32 (i + 1))) ∧ (xs (w32 (i + 1))) < 2147483648) ∧ (-2147483648 ≤ (xs (w32 (i + 2))) ∧ (xs (w32 (i + 2))) < 2147483648)) ∧ (∀ (G_1 : FF) (B_1 : AA), (qdP F G_1 A B_1 ∧ G_1 25 0 = (if 0 ≤ (xs (w32 (i + 1))) ∧ (xs (w32 (i + 1))) < mF A 1 then 0 else 1)) → ((w32 (G_1 25 0) = w32 1 → ((w32 1 = w32 0 → _) ∧ (¬ w32 1 = w32 0 → ((999 : Nat) = 999 ∧ (0 : Nat) = 0 ∧ (25 : Nat) = 25 ∧ (43 : Nat) = 43 ∧ i + 6 = i + 6 ∧ REL G_1 B_1 ∧ (1 : Nat) ≤ 2)))) ∧ (¬ w32 (G_1 25 0) = w32 1 → (((0 : Int) = 0 ∨ (0 : Int) = 1) ∧ (lawK (some (some (vI 0))) G_1 B_1))))))))))))
  refine ⟨by exact hb 1 (by decide) (by decide), ?_⟩
  refine ⟨by exact hb 2 (by decide) (by decide), ?_⟩
  refine ⟨by exact ⟨rel_f hR, hx _, hx _⟩, ?_⟩
  refine ⟨fun c1 => ?_, fun c1 => ?_⟩
  · skip
    skip
    refine ⟨by exact hb 1 (by decide) (by decide), ?_⟩
    refine ⟨by exact hb 2 (by decide) (by decide), ?_⟩
    refine ⟨by exact ⟨rel_m (hR1 _), hx _, hx _⟩, ?_⟩
    intro G_1 B_1 g1
    have hR2 := rel_qd (hR1 _) g1.1
    have t2 : G_1 25 0 = 0 := by
      have w := g1.2
      rw [em] at w
      exact w.trans (if_pos c1)
    have v2 := (g1.1.2 43 (w32 0) (by decide)).trans upA_s
    refine ⟨fun c2 => ?_, fun c2 => ?_⟩
    · skip
      skip
      refine ⟨fun _ => ?_, fun q => absurd (by decide) q⟩
      refine ⟨by decide, ?_⟩
      refine ⟨fun c3 => ?_, fun c3 => ?_⟩
      · skip
        skip
        exact ⟨rfl, rfl, rfl, rfl, rfl, hR2, by decide⟩
      · skip
        skip
        refine ⟨by decide, ?_⟩
        exact absurd (law_e v2 (by rw [em, if_pos c1])) c3
    · skip
      skip
      refine ⟨by decide, ?_⟩
      exact absurd (by rw [t2]) c2
  · skip
    skip
    refine ⟨by exact hb 1 (by decide) (by decide), ?_⟩
    refine ⟨by exact hb 2 (by decide) (by decide), ?_⟩
    refine ⟨by exact ⟨rel_m hR, hx _, hx _⟩, ?_⟩
    intro G_1 B_1 g1
    have hR2 := rel_qd hR g1.1
    have t2 : G_1 25 0 = 1 := by
      have w := g1.2
      rw [e0] at w
      exact w.trans (if_neg c1)
    refine ⟨fun c2 => ?_, fun c2 => ?_⟩
    · skip
      skip
      refine ⟨fun q => absurd q (by decide), fun _ => ?_⟩
      exact ⟨rfl, rfl, rfl, rfl, rfl, hR2, by decide⟩
    · skip
      skip
      refine ⟨by decide, ?_⟩
      exact absurd (by rw [t2]) c2
def qkL_12 : Nat → Option CI := fun pc => cond (Nat.ble 3593 pc) none (cond (Nat.ble 753 pc) (cond (Nat.ble 778 pc) (cond (Nat.ble 795 pc) (cond (Nat.ble 803 pc) (cond (Nat.ble 805 pc) (cond (Nat.beq pc 805) (some (.goto 2784, 808, [3589])) (cond (Nat.beq pc 3589) (some (.iinc 4 6, 3592, [])) (cond (Nat.beq pc 3592) (some (.goto (-3569), 3595, [23])) (none)))) (cond (Nat.beq pc 803) (some (.iconst 0, 804, [])) (cond (Nat.beq pc 804) (some (.ireturn, 805, [])) (none)))) (cond (Nat.ble 797 pc) (cond (Nat.beq pc 797) (some (.lload 6, 799, [])) (cond (Nat.beq pc 799) (some (.lcmp, 800, [])) (cond (Nat.beq pc 800) (some (.ifCond .eq 5, 803, [805])) (none)))) (cond (Nat.beq pc 795) (some (.iconst 0, 796, [])) (cond (Nat.beq pc 796) (some (.laload, 797, [])) (none))))) (cond (Nat.ble 787 pc) (cond (Nat.ble 789 pc) (cond (Nat.beq pc 789) (some (.iload 5, 791, [])) (cond (Nat.beq pc 791) (some (.ifCond .ne 14, 794, [805])) (cond (Nat.beq pc 794) (some (.aload_n 3, 795, [])) (none)))) (cond (Nat.beq pc 787) (some (.iconst 0, 788, [])) (cond (Nat.beq pc 788) (some (.ireturn, 789, [])) (none)))) (cond (Nat.ble 782 pc) (cond (Nat.beq pc 782) (some (.iload 5, 784, [])) (cond (Nat.beq pc 784) (some (.if_icmp .eq 5, 787, [789])) (none))) (cond (Nat.beq pc 778) (some (.aload_n 2, 779, [])) (cond (Nat.beq pc 779) (some (.invokevirtual 175, 782, [])) (none)))))) (cond (Nat.ble 764 pc) (cond (Nat.ble 770 pc) (cond (Nat.ble 772 pc) (cond (Nat.beq pc 772) (some (.iaload, 773, [])) (cond (Nat.beq pc 773) (some (.invokevirtual 189, 776, [])) (cond (Nat.beq pc 776) (some (.lstore 6, 778, [])) (none)))) (cond (Nat.beq pc 770) (some (.iconst 5, 771, [])) (cond (Nat.beq pc 771) (some (.iadd, 772, [])) (none)))) (cond (Nat.ble 766 pc) (cond (Nat.beq pc 766) (some (.iaload, 767, [])) (cond (Nat.beq pc 767) (some (.aload_n 0, 768, [])) (cond (Nat.beq pc 768) (some (.iload 4, 770, [])) (none)))) (cond (Nat.beq pc 764) (some (.iconst 4, 765, [])) (cond (Nat.beq pc 765) (some (.iadd, 766, [])) (none))))) (cond (Nat.ble 758 pc) (cond (Nat.ble 760 pc) (cond (Nat.beq pc 760) (some (.iaload, 761, [])) (cond (Nat.beq pc 761) (some (.aload_n 0, 762, [])) (cond (Nat.beq pc 762) (some (.iload 4, 764, [])) (none)))) (cond (Nat.beq pc 758) (some (.iconst 3, 759, [])) (cond (Nat.beq pc 759) (some (.iadd, 760, [])) (none)))) (cond (Nat.ble 755 pc) (cond (Nat.beq pc 755) (some (.aload_n 0, 756, [])) (cond (Nat.beq pc 756) (some (.iload 4, 758, [])) (none))) (cond (Nat.beq pc 753) (some (.iadd, 754, [])) (cond (Nat.beq pc 754) (some (.iaload, 755, [])) (none))))))) (cond (Nat.ble 728 pc) (cond (Nat.ble 740 pc) (cond (Nat.ble 747 pc) (cond (Nat.ble 749 pc) (cond (Nat.beq pc 749) (some (.aload_n 0, 750, [])) (cond (Nat.beq pc 750) (some (.iload 4, 752, [])) (cond (Nat.beq pc 752) (some (.iconst 2, 753, [])) (none)))) (cond (Nat.beq pc 747) (some (.iadd, 748, [])) (cond (Nat.beq pc 748) (some (.iaload, 749, [])) (none)))) (cond (Nat.ble 743 pc) (cond (Nat.beq pc 743) (some (.aload_n 0, 744, [])) (cond (Nat.beq pc 744) (some (.iload 4, 746, [])) (cond (Nat.beq pc 746) (some (.iconst 1, 747, [])) (none)))) (cond (Nat.beq pc 740) (some (.istore 5, 742, [])) (cond (Nat.beq pc 742) (some (.aload_n 2, 743, [])) (none))))) (cond (Nat.ble 733 pc) (cond (Nat.ble 735 pc) (cond (Nat.beq pc 735) (some (.iaload, 736, [])) (cond (Nat.beq pc 736) (some (.aload_n 3, 737, [])) (cond (Nat.beq pc 737) (some (.invokestatic 186, 740, [])) (none)))) (cond (Nat.beq pc 733) (some (.iconst 5, 734, [])) (cond (Nat.beq pc 734) (some (.iadd, 735, [])) (none)))) (cond (Nat.ble 730 pc) (cond (Nat.beq pc 730) (some (.aload_n 0, 731, [])) (cond (Nat.beq pc 731) (some (.iload 4, 733, [])) (none))) (cond (Nat.beq pc 728) (some (.iadd, 729, [])) (cond (Nat.beq pc 729) (some (.iaload, 730, [])) (none)))))) (cond (Nat.ble 716 pc) (cond (Nat.ble 722 pc) (cond (Nat.ble 724 pc) (cond (Nat.beq pc 724) (some (.aload_n 0, 725, [])) (cond (Nat.beq pc 725) (some (.iload 4, 727, [])) (cond (Nat.beq pc 727) (some (.iconst 4, 728, [])) (none)))) (cond (Nat.beq pc 722) (some (.iadd, 723, [])) (cond (Nat.beq pc 723) (some (.iaload, 724, [])) (none)))) (cond (Nat.ble 718 pc) (cond (Nat.beq pc 718) (some (.aload_n 0, 719, [])) (cond (Nat.beq pc 719) (some (.iload 4, 721, [])) (cond (Nat.beq pc 721) (some (.iconst 3, 722, [])) (none)))) (cond (Nat.beq pc 716) (some (.iadd, 717, [])) (cond (Nat.beq pc 717) (some (.iaload, 718, [])) (none))))) (cond (Nat.ble 710 pc) (cond (Nat.ble 712 pc) (cond (Nat.beq pc 712) (some (.aload_n 0, 713, [])) (cond (Nat.beq pc 713) (some (.iload 4, 715, [])) (cond (Nat.beq pc 715) (some (.iconst 2, 716, [])) (none)))) (cond (Nat.beq pc 710) (some (.iadd, 711, [])) (cond (Nat.beq pc 711) (some (.iaload, 712, [])) (none)))) (cond (Nat.ble 707 pc) (cond (Nat.beq pc 707) (some (.iload 4, 709, [])) (cond (Nat.beq pc 709) (some (.iconst 1, 710, [])) (none))) (cond (Nat.beq pc 705) (some (.aload_n 1, 706, [])) (cond (Nat.beq pc 706) (some (.aload_n 0, 707, [])) (none))))))))
theorem qkL_12_ok : ∀ pc i nx ts, qkL_12 pc = some (i, nx, ts) → am_cok cL_law pc (i, nx, ts) = true := fun pc i nx ts h => am_tok_ok (n := 3593) (by decide +kernel) (fun pc h => by show cond (Nat.ble 3593 pc) _ _ = _; rw [Nat.ble_eq_true_of_le h]; rfl) h
def qaL_12 : Nat → Option CE := fun k => cond (Nat.beq k 186) (some qeL_cellControl) (cond (Nat.beq k 189) (some qeX9_cellControl) (cond (Nat.beq k 175) (some qeX9_thrown) (none)))
theorem qyL_12 (l : Launch) (hst : l.stackTraces = false) : ∀ k e1, qaL_12 k = some e1 → am_cal l layL RL 40 k e1 ∧ True := q_cons ⟨am_calS (qtL_cellControl l hst) qbL_cellControl (by decide) rfl (by decide) (am_tb_at 930 (by decide +kernel) rfl), trivial⟩ (q_cons ⟨am_calV (ci := 9) (am_CT_mono layM_L (qtX9_cellControl l)) qbX9_cellControl (by decide) rfl (am_tb_at 1691 (by decide +kernel) rfl), trivial⟩ (q_cons ⟨am_calV (ci := 9) (am_CT_mono layM_L (qtX9_thrown l)) qbX9_thrown (by decide) rfl (am_tb_at 1481 (by decide +kernel) rfl), trivial⟩ (q_nil)))
def qxL_12 (Ls : Int) (xs : Int → Int) : CX := (qkL_12, layL, qfL, qaL_12, qcL, qlL, qmL, some .boolean, false, none, 2, some (Ls, xs), fun _ => none)
theorem qzL_12 (l : Launch) (hst : l.stackTraces = false) (Ls : Int) (xs : Int → Int) : am_sta l (qxL_12 Ls xs) RL 40 cL_law := ⟨qkL_12_ok, layL_ok, qfL_ok, qcL_ok, qlL_ok, am_mthP qmL_ok (by decide), fun k e1 h => (qyL_12 l hst k e1 h).1⟩
set_option maxRecDepth 20000 in
theorem qvL_12 (Ls : Int) (xs : Int → Int) (F : FF) (A : AA) (i : Int) (hx : ∀ j, -2147483648 ≤ xs j ∧ xs j < 2147483648) (hL : Ls ≤ 3072) (i0 : 0 ≤ i) (i1 : i + 6 ≤ Ls) (hR : REL F A) : am_stp (qxL_12 Ls xs) (am_run (qxL_12 Ls xs) lawC (lawI i) lawK 75) lawK 705 [some (vR 999), some (vR 0), some (vR 25), some (vR 43), some (vI i), none, none, none] [] F A 0 := by
  have hb : ∀ k : Int, 0 ≤ k → k ≤ 5 → 0 ≤ w32 (i + k) ∧ w32 (i + k) < Ls := fun k k0 k1 => by rw [w32_id (by omega) (by omega)]; omega
  have e0 : mF A = A 2 := hR.1.1.symm
  show (0 ≤ w32 (i + 1) ∧ w32 (i + 1) < Ls) ∧ ((0 ≤ w32 (i + 2) ∧ w32 (i + 2) < Ls) ∧ ((0 ≤ w32 (i + 3) ∧ w32 (i + 3) < Ls) ∧ ((0 ≤ w32 (i + 4) ∧ w32 (i + 4) < Ls) ∧ ((0 ≤ w32 (i + 5) ∧ w32 (i + 5) < Ls) ∧ ((fgOK (A 2) ∧ (-2147483648 ≤ (xs (w32 (i + 1))) ∧ (xs (w32 (i + 1))) < 2147483648) ∧ (-2147483648 ≤ (xs (w32 (i + 2))) ∧ (xs (w32 (i + 2))) < 2147483648) ∧ (-2147483648 ≤ (xs (w32 (i + 3))) ∧ (xs (w32 (i + 3))) < 2147483648) ∧ (-2147483648 ≤ (xs (w32 (i + 4))) ∧ (xs (w32 (i + 4))) < 2147483648) ∧ (-2147483648 ≤ (xs (w32 (i + 5))) ∧ (xs (w32 (i + 5))) < 2147483648) ∧ caAll A) ∧ ((0 ≤ (xs (w32 (i + 1))) ∧ (xs (w32 (i + 1))) < A 2 0 → (∀ (G_1 : FF) (B_1 : AA), (qrP F G_1 A B_1) → ((0 ≤ w32 (i + 1) ∧ w32 (i + 1) < Ls) ∧ ((0 ≤ w32 (i + 2) ∧ w32 (i + 2) < Ls) ∧ ((0 ≤ w32 (i + 3) ∧ w32 (i + 3) < Ls) ∧ ((0 ≤ w32 (i + 4) ∧ w32 (i + 4) < Ls) ∧ ((0 ≤ w32 (i + 5) ∧ w32 (i + 5) < Ls) ∧ ((fgOK (mF (upA B_1 43 (w32 0) (if (0 ≤ (xs (w32 (i + 2))) ∧ (xs (w32 (i + 2))) ≤ 6 ∧ 0 ≤ (xs (w32 (i + 3))) ∧ (xs (w32 (i + 3))) < p2 (xs (w32 (i + 2)))) ∧ (0 ≤ (xs (w32 (i + 4))) ∧ (xs (w32 (i + 4))) < A 2 (18 + (xs (w32 (i + 1))))) ∧ 0 ≤ (xs (w32 (i + 5))) ∧ (xs (w32 (i + 5))) ≤ 2 then ceX (A 2) (xs (w32 (i + 1))) (xs (w32 (i + 2))).toNat (xs (w32 (i + 3))) (xs (w32 (i + 5))) (xs (w32 (i + 4))) else -1))) ∧ (-2147483648 ≤ (xs (w32 (i + 1))) ∧ (xs (w32 (i + 1))) < 2147483648) ∧ (-2147483648 ≤ (xs (w32 (i + 2))) ∧ (xs (w32 (i + 2))) < 2147483648) ∧ (-2147483648 ≤ (xs (w32 (i + 3))) ∧ (xs (w32 (i + 3))) < 2147483648) ∧ (-2147483648 ≤ (xs (w32 (i + 4))) ∧ (xs (w32 (i + 4))) < 2147483648) ∧ (-2147483648 ≤ (xs (w32 (i + 5))) ∧ (xs (w32 (i + 5))) < 2147483648)) ∧ (∀ (G_2 : FF) (B_2 : AA), (qdP G_1 G_2 (upA B_1 43 (w32 0) (if (0 ≤ (xs (w32 (i + 2))) ∧ (xs (w32 (i + 2))) ≤ 6 ∧ 0 ≤ (xs (w32 (i + 3))) ∧ (xs (w32 (i + 3))) < p2 (xs (w32 (i + 2)))) ∧ (0 ≤ (xs (w32 (i + 4))) ∧ (xs (w32 (i + 4))) < A 2 (18 + (xs (w32 (i + 1))))) ∧ 0 ≤ (xs (w32 (i + 5))) ∧ (xs (w32 (i + 5))) ≤ 2 then ceX (A 2) (xs (w32 (i + 1))) (xs (w32 (i + 2))).toNat (xs (w32 (i + 3))) (xs (w32 (i + 5))) (xs (w32 (i + 4))) else -1)) B_2 ∧ G_2 25 0 = (if 0 ≤ (xs (w32 (i + 1))) ∧ (xs (w32 (i + 1))) < mF (upA B_1 43 (w32 0) (if (0 ≤ (xs (w32 (i + 2))) ∧ (xs (w32 (i + 2))) ≤ 6 ∧ 0 ≤ (xs (w32 (i + 3))) ∧ (xs (w32 (i + 3))) < p2 (xs (w32 (i + 2)))) ∧ (0 ≤ (xs (w32 (i + 4))) ∧ (xs (w32 (i + 4))) < A 2 (18 + (xs (w32 (i + 1))))) ∧ 0 ≤ (xs (w32 (i + 5))) ∧ (xs (w32 (i + 5))) ≤ 2 then ceX (A 2) (xs (w32 (i + 1))) (xs (w32 (i + 2))).toNat (xs (w32 (i + 3))) (xs (w32 (i + 5))) (xs (w32 (i + 4))) else -1)) 0 then 0 else 1)) → ((w32 (G_2 25 0) = w32 0 → ((w32 0 = w32 0 → ((0 ≤ w32 0 ∧ w32 0 < 1) ∧ ((w32 (y_cmp (B_2 43 (w32 0)) (if 0 ≤ (xs (w32 (i + 1))) ∧ (xs (w32 (i + 1))) < mF (upA B_1 43 (w32 0) (if (0 ≤ (xs (w32 (i + 2))) ∧ (xs (w32 (i + 2))) ≤ 6 ∧ 0 ≤ (xs (w32 (i + 3))) ∧ (xs (w32 (i + 3))) < p2 (xs (w32 (i + 2)))) ∧ (0 ≤ (xs (w32 (i + 4))) ∧ (xs (w32 (i + 4))) < A 2 (18 + (xs (w32 (i + 1))))) ∧ 0 ≤ (xs (w32 (i + 5))) ∧ (xs (w32 (i + 5))) ≤ 2 then ceX (A 2) (xs (w32 (i + 1))) (xs (w32 (i + 2))).toNat (xs (w32 (i + 3))) (xs (w32 (i + 5))) (xs (w32 (i + 4))) else -1)) 0 then (if (0 ≤ (xs (w32 (i + 2))) ∧ (xs (w32 (i + 2))) ≤ 6 ∧ 0 ≤ (xs (w32 (i + 3))) ∧ (xs (w32 (i + 3))) < p2 (xs (w32 (i + 2)))) ∧ (0 ≤ (xs (w32 (i + 4))) ∧ (xs (w32 (i + 4))) < mF (upA B_1 43 (w32 0) (if (0 ≤ (xs (w32 (i + 2))) ∧ (xs (w32 (i + 2))) ≤ 6 ∧ 0 ≤ (xs (w32 (i + 3))) ∧ (xs (w32 (i + 3))) < p2 (xs (w32 (i + 2)))) ∧ (0 ≤ (xs (w32 (i + 4))) ∧ (xs (w32 (i + 4))) < A 2 (18 + (xs (w32 (i + 1))))) ∧ 0 ≤ (xs (w32 (i + 5))) ∧ (xs (w32 (i + 5))) ≤ 2 then ceX (A 2) (xs (w32 (i + 1))) (xs (w32 (i + 2))).toNat (xs (w32 (i + 3))) (xs (w32 (i + 5))) (xs (w32 (i + 4))) else -1)) (18 + (xs (w32 (i + 1))))) ∧ 0 ≤ (xs (w32 (i + 5))) ∧ (xs (w32 (i + 5))) ≤ 2 then ceX (mF (upA B_1 43 (w32 0) (if (0 ≤ (xs (w32 (i + 2))) ∧ (xs (w32 (i + 2))) ≤ 6 ∧ 0 ≤ (xs (w32 (i + 3))) ∧ (xs (w32 (i + 3))) < p2 (xs (w32 (i + 2)))) ∧ (0 ≤ (xs (w32 (i + 4))) ∧ (xs (w32 (i + 4))) < A 2 (18 + (xs (w32 (i + 1))))) ∧ 0 ≤ (xs (w32 (i + 5))) ∧ (xs (w32 (i + 5))) ≤ 2 then ceX (A 2) (xs (w32 (i + 1))) (xs (w32 (i + 2))).toNat (xs (w32 (i + 3))) (xs (w32 (i + 5))) (xs (w32 (i + 4))) else -1))) (xs (w32 (i + 1))) (xs (w32 (i + 2))).toNat (xs (w32 (i + 3))) (xs (w32 (i + 5))) (xs (w32 (i + 4))) else -1) else 0)) = w32 0 → ((999 : Nat) = 999 ∧ (0 : Nat) = 0 ∧ (25 : Nat) = 25 ∧ (43 : Nat) = 43 ∧ i + 6 = i + 6 ∧ REL G_2 B_2 ∧ (1 : Nat) ≤ 2)) ∧ (¬ (w32 (y_cmp (B_2 43 (w32 0)) (if 0 ≤ (xs (w32 (i + 1))) ∧ (xs (w32 (i + 1))) < mF (upA B_1 43 (w32 0) (if (0 ≤ (xs (w32 (i + 2))) ∧ (xs (w32 (i + 2))) ≤ 6 ∧ 0 ≤ (xs (w32 (i + 3))) ∧ (xs (w32 (i + 3))) < p2 (xs (w32 (i + 2)))) ∧ (0 ≤ (xs (w32 (i + 4))) ∧ (xs (w32 (i + 4))) < A 2 (18 + (xs (w32 (i + 1))))) ∧ 0 ≤ (xs (w32 (i + 5))) ∧ (xs (w32 (i + 5))) ≤ 2 then ceX (A 2) (xs (w32 (i + 1))) (xs (w32 (i + 2))).toNat (xs (w32 (i + 3))) (xs (w32 (i + 5))) (xs (w32 (i + 4))) else -1)) 0 then (if (0 ≤ (xs (w32 (i + 2))) ∧ (xs (w32 (i + 2))) ≤ 6 ∧ 0 ≤ (xs (w32 (i + 3))) ∧ (xs (w32 (i + 3))) < p2 (xs (w32 (i + 2)))) ∧ (0 ≤ (xs (w32 (i + 4))) ∧ (xs (w32 (i + 4))) < mF (upA B_1 43 (w32 0) (if (0 ≤ (xs (w32 (i + 2))) ∧ (xs (w32 (i + 2))) ≤ 6 ∧ 0 ≤ (xs (w32 (i + 3))) ∧ (xs (w32 (i + 3))) < p2 (xs (w32 (i + 2)))) ∧ (0 ≤ (xs (w32 (i + 4))) ∧ (xs (w32 (i + 4))) < A 2 (18 + (xs (w32 (i + 1))))) ∧ 0 ≤ (xs (w32 (i + 5))) ∧ (xs (w32 (i + 5))) ≤ 2 then ceX (A 2) (xs (w32 (i + 1))) (xs (w32 (i + 2))).toNat (xs (w32 (i + 3))) (xs (w32 (i + 5))) (xs (w32 (i + 4))) else -1)) (18 + (xs (w32 (i + 1))))) ∧ 0 ≤ (xs (w32 (i + 5))) ∧ (xs (w32 (i + 5))) ≤ 2 then ceX (mF (upA B_1 43 (w32 0) (if (0 ≤ (xs (w32 (i + 2))) ∧ (xs (w32 (i + 2))) ≤ 6 ∧ 0 ≤ (xs (w32 (i + 3))) ∧ (xs (w32 (i + 3))) < p2 (xs (w32 (i + 2)))) ∧ (0 ≤ (xs (w32 (i + 4))) ∧ (xs (w32 (i + 4))) < A 2 (18 + (xs (w32 (i + 1))))) ∧ 0 ≤ (xs (w32 (i + 5))) ∧ (xs (w32 (i + 5))) ≤ 2 then ceX (A 2) (xs (w32 (i + 1))) (xs (w32 (i + 2))).toNat (xs (w32 (i + 3))) (xs (w32 (i + 5))) (xs (w32 (i + 4))) else -1))) (xs (w32 (i + 1))) (xs (w32 (i + 2))).toNat (xs (w32 (i + 3))) (xs (w32 (i + 5))) (xs (w32 (i + 4))) else -1) else 0)) = w32 0) → (((0 : Int) = 0 ∨ (0 : Int) = 1) ∧ (lawK (some (some (vI 0))) G_2 B_2)))))) ∧ (¬ w32 0 = w32 0 → _))) ∧ (¬ w32 (G_2 25 0) = w32 0 → (((0 : Int) = 0 ∨ (0 : Int) = 1) ∧ (lawK (some (some (vI 0))) G_2 B_2))))))))))))) ∧ (¬ (0 ≤ (xs (w32 (i + 1))) ∧ (xs (w32 (i + 1))) < A 2 0) → ((0 ≤ w32 (i + 1) ∧ w32 (i + 1) < Ls) ∧ ((0 ≤ w32 (i + 2) ∧ w32 (i + 2) < Ls) ∧ ((0 ≤ w32 (i + 3) ∧ w32 (i + 3) < Ls) ∧ ((0 ≤ w32 (i + 4) ∧ w32 (i + 4) < Ls) ∧ ((0 ≤ w32 (i + 5) ∧ w32 (i + 5) < Ls) ∧ ((fgOK (mF A) ∧ (-2147483648 ≤ (xs (w32 (i + 1))) ∧ (xs (w32 (i + 1))) < 2147483648) ∧ (-2147483648 ≤ (xs (w32 (i + 2))) ∧ (xs (w32 (i + 2))) < 2147483648) ∧ (-2147483648 ≤ (xs (w32 (i + 3))) ∧ (xs (w32 (i + 3))) < 2147483648) ∧ (-2147483648 ≤ (xs (w32 (i + 4))) ∧ (xs (w32 (i + 4))) < 2147483648) ∧ (-2147483648 ≤ (xs (w32 (i + 5))) ∧ (xs (w32 (i + 5))) < 2147483648)) ∧ (∀ (G_1 : FF) (B_1 : AA), (qdP F G_1 A B_1 ∧ G_1 25 0 = (if 0 ≤ (xs (w32 (i + 1))) ∧ (xs (w32 (i + 1))) < mF A 0 then 0 else 1)) → ((w32 (G_1 25 0) = w32 1 → ((w32 1 = w32 0 → _) ∧ (¬ w32 1 = w32 0 → ((999 : Nat) = 999 ∧ (0 : Nat) = 0 ∧ (25 : Nat) = 25 ∧ (43 : Nat) = 43 ∧ i + 6 = i + 6 ∧ REL G_1 B_1 ∧ (1 : Nat) ≤ 2)))) ∧ (¬ w32 (G_1 25 0) = w32 1 → (((0 : Int) = 0 ∨ (0 : Int) = 1) ∧ (lawK (some (some (vI 0))) G_1 B_1))))))))))))))))))
  refine ⟨by exact hb 1 (by decide) (by decide), ?_⟩
  refine ⟨by exact hb 2 (by decide) (by decide), ?_⟩
  refine ⟨by exact hb 3 (by decide) (by decide), ?_⟩
  refine ⟨by exact hb 4 (by decide) (by decide), ?_⟩
  refine ⟨by exact hb 5 (by decide) (by decide), ?_⟩
  refine ⟨by exact ⟨rel_f hR, hx _, hx _, hx _, hx _, hx _, (hR).2.2.2.2.1.1⟩, ?_⟩
  refine ⟨fun c1 => ?_, fun c1 => ?_⟩
  · skip
    skip
    intro G_1 B_1 g1
    have hR1 : ∀ v, REL G_1 (upA B_1 43 (w32 0) v) := fun v => rel_up (rel_qr hR g1)
    have em : ∀ v, mF (upA B_1 43 (w32 0) v) = A 2 := fun v => (hR1 v).1.1.symm.trans ((upA_r (by decide)).trans (funext fun i => (g1).2.1 2 i (by decide)))
    refine ⟨by exact hb 1 (by decide) (by decide), ?_⟩
    refine ⟨by exact hb 2 (by decide) (by decide), ?_⟩
    refine ⟨by exact hb 3 (by decide) (by decide), ?_⟩
    refine ⟨by exact hb 4 (by decide) (by decide), ?_⟩
    refine ⟨by exact hb 5 (by decide) (by decide), ?_⟩
    refine ⟨by exact ⟨rel_m (hR1 _), hx _, hx _, hx _, hx _, hx _⟩, ?_⟩
    intro G_2 B_2 g2
    have hR2 := rel_qd (hR1 _) g2.1
    have t2 : G_2 25 0 = 0 := by
      have w := g2.2
      rw [em] at w
      exact w.trans (if_pos c1)
    have v2 := (g2.1.2 43 (w32 0) (by decide)).trans upA_s
    refine ⟨fun c2 => ?_, fun c2 => ?_⟩
    · skip
      skip
      refine ⟨fun _ => ?_, fun q => absurd (by decide) q⟩
      refine ⟨by decide, ?_⟩
      refine ⟨fun c3 => ?_, fun c3 => ?_⟩
      · skip
        skip
        exact ⟨rfl, rfl, rfl, rfl, rfl, hR2, by decide⟩
      · skip
        skip
        refine ⟨by decide, ?_⟩
        exact absurd (law_l v2 (by rw [em, if_pos c1])) c3
    · skip
      skip
      refine ⟨by decide, ?_⟩
      exact absurd (by rw [t2]) c2
  · skip
    skip
    refine ⟨by exact hb 1 (by decide) (by decide), ?_⟩
    refine ⟨by exact hb 2 (by decide) (by decide), ?_⟩
    refine ⟨by exact hb 3 (by decide) (by decide), ?_⟩
    refine ⟨by exact hb 4 (by decide) (by decide), ?_⟩
    refine ⟨by exact hb 5 (by decide) (by decide), ?_⟩
    refine ⟨by exact ⟨rel_m hR, hx _, hx _, hx _, hx _, hx _⟩, ?_⟩
    intro G_1 B_1 g1
    have hR2 := rel_qd hR g1.1
    have t2 : G_1 25 0 = 1 := by
      have w := g1.2
      rw [e0] at w
      exact w.trans (if_neg c1)
    refine ⟨fun c2 => ?_, fun c2 => ?_⟩
    · skip
      skip
      refine ⟨fun q => absurd q (by decide), fun _ => ?_⟩
      exact ⟨rfl, rfl, rfl, rfl, rfl, hR2, by decide⟩
    · skip
      skip
      refine ⟨by decide, ?_⟩
      exact absurd (by rw [t2]) c2
def qkL_13 : Nat → Option CI := fun pc => cond (Nat.ble 3593 pc) none (cond (Nat.ble 850 pc) (cond (Nat.ble 873 pc) (cond (Nat.ble 887 pc) (cond (Nat.ble 894 pc) (cond (Nat.ble 896 pc) (cond (Nat.beq pc 896) (some (.goto 2693, 899, [3589])) (cond (Nat.beq pc 3589) (some (.iinc 4 6, 3592, [])) (cond (Nat.beq pc 3592) (some (.goto (-3569), 3595, [23])) (none)))) (cond (Nat.beq pc 894) (some (.iconst 0, 895, [])) (cond (Nat.beq pc 895) (some (.ireturn, 896, [])) (none)))) (cond (Nat.ble 890 pc) (cond (Nat.beq pc 890) (some (.lcmp, 891, [])) (cond (Nat.beq pc 891) (some (.ifCond .eq 5, 894, [896])) (none))) (cond (Nat.beq pc 887) (some (.laload, 888, [])) (cond (Nat.beq pc 888) (some (.lload 6, 890, [])) (none))))) (cond (Nat.ble 880 pc) (cond (Nat.ble 885 pc) (cond (Nat.beq pc 885) (some (.aload_n 3, 886, [])) (cond (Nat.beq pc 886) (some (.iconst 0, 887, [])) (none))) (cond (Nat.beq pc 880) (some (.iload 5, 882, [])) (cond (Nat.beq pc 882) (some (.ifCond .ne 14, 885, [896])) (none)))) (cond (Nat.ble 878 pc) (cond (Nat.beq pc 878) (some (.iconst 0, 879, [])) (cond (Nat.beq pc 879) (some (.ireturn, 880, [])) (none))) (cond (Nat.beq pc 873) (some (.iload 5, 875, [])) (cond (Nat.beq pc 875) (some (.if_icmp .eq 5, 878, [880])) (none)))))) (cond (Nat.ble 859 pc) (cond (Nat.ble 864 pc) (cond (Nat.ble 869 pc) (cond (Nat.beq pc 869) (some (.aload_n 2, 870, [])) (cond (Nat.beq pc 870) (some (.invokevirtual 175, 873, [])) (none))) (cond (Nat.beq pc 864) (some (.invokevirtual 193, 867, [])) (cond (Nat.beq pc 867) (some (.lstore 6, 869, [])) (none)))) (cond (Nat.ble 862 pc) (cond (Nat.beq pc 862) (some (.iadd, 863, [])) (cond (Nat.beq pc 863) (some (.iaload, 864, [])) (none))) (cond (Nat.beq pc 859) (some (.iload 4, 861, [])) (cond (Nat.beq pc 861) (some (.iconst 4, 862, [])) (none))))) (cond (Nat.ble 855 pc) (cond (Nat.ble 857 pc) (cond (Nat.beq pc 857) (some (.iaload, 858, [])) (cond (Nat.beq pc 858) (some (.aload_n 0, 859, [])) (none))) (cond (Nat.beq pc 855) (some (.iconst 3, 856, [])) (cond (Nat.beq pc 856) (some (.iadd, 857, [])) (none)))) (cond (Nat.ble 852 pc) (cond (Nat.beq pc 852) (some (.aload_n 0, 853, [])) (cond (Nat.beq pc 853) (some (.iload 4, 855, [])) (none))) (cond (Nat.beq pc 850) (some (.iadd, 851, [])) (cond (Nat.beq pc 851) (some (.iaload, 852, [])) (none))))))) (cond (Nat.ble 827 pc) (cond (Nat.ble 839 pc) (cond (Nat.ble 844 pc) (cond (Nat.ble 846 pc) (cond (Nat.beq pc 846) (some (.aload_n 0, 847, [])) (cond (Nat.beq pc 847) (some (.iload 4, 849, [])) (cond (Nat.beq pc 849) (some (.iconst 2, 850, [])) (none)))) (cond (Nat.beq pc 844) (some (.iadd, 845, [])) (cond (Nat.beq pc 845) (some (.iaload, 846, [])) (none)))) (cond (Nat.ble 841 pc) (cond (Nat.beq pc 841) (some (.iload 4, 843, [])) (cond (Nat.beq pc 843) (some (.iconst 1, 844, [])) (none))) (cond (Nat.beq pc 839) (some (.aload_n 2, 840, [])) (cond (Nat.beq pc 840) (some (.aload_n 0, 841, [])) (none))))) (cond (Nat.ble 832 pc) (cond (Nat.ble 834 pc) (cond (Nat.beq pc 834) (some (.invokestatic 190, 837, [])) (cond (Nat.beq pc 837) (some (.istore 5, 839, [])) (none))) (cond (Nat.beq pc 832) (some (.iaload, 833, [])) (cond (Nat.beq pc 833) (some (.aload_n 3, 834, [])) (none)))) (cond (Nat.ble 830 pc) (cond (Nat.beq pc 830) (some (.iconst 4, 831, [])) (cond (Nat.beq pc 831) (some (.iadd, 832, [])) (none))) (cond (Nat.beq pc 827) (some (.aload_n 0, 828, [])) (cond (Nat.beq pc 828) (some (.iload 4, 830, [])) (none)))))) (cond (Nat.ble 818 pc) (cond (Nat.ble 822 pc) (cond (Nat.ble 825 pc) (cond (Nat.beq pc 825) (some (.iadd, 826, [])) (cond (Nat.beq pc 826) (some (.iaload, 827, [])) (none))) (cond (Nat.beq pc 822) (some (.iload 4, 824, [])) (cond (Nat.beq pc 824) (some (.iconst 3, 825, [])) (none)))) (cond (Nat.ble 820 pc) (cond (Nat.beq pc 820) (some (.iaload, 821, [])) (cond (Nat.beq pc 821) (some (.aload_n 0, 822, [])) (none))) (cond (Nat.beq pc 818) (some (.iconst 2, 819, [])) (cond (Nat.beq pc 819) (some (.iadd, 820, [])) (none))))) (cond (Nat.ble 813 pc) (cond (Nat.ble 815 pc) (cond (Nat.beq pc 815) (some (.aload_n 0, 816, [])) (cond (Nat.beq pc 816) (some (.iload 4, 818, [])) (none))) (cond (Nat.beq pc 813) (some (.iadd, 814, [])) (cond (Nat.beq pc 814) (some (.iaload, 815, [])) (none)))) (cond (Nat.ble 810 pc) (cond (Nat.beq pc 810) (some (.iload 4, 812, [])) (cond (Nat.beq pc 812) (some (.iconst 1, 813, [])) (none))) (cond (Nat.beq pc 808) (some (.aload_n 1, 809, [])) (cond (Nat.beq pc 809) (some (.aload_n 0, 810, [])) (none))))))))
theorem qkL_13_ok : ∀ pc i nx ts, qkL_13 pc = some (i, nx, ts) → am_cok cL_law pc (i, nx, ts) = true := fun pc i nx ts h => am_tok_ok (n := 3593) (by decide +kernel) (fun pc h => by show cond (Nat.ble 3593 pc) _ _ = _; rw [Nat.ble_eq_true_of_le h]; rfl) h
def qaL_13 : Nat → Option CE := fun k => cond (Nat.beq k 190) (some qeL_placeNumerator) (cond (Nat.beq k 193) (some qeX9_placeNumerator) (cond (Nat.beq k 175) (some qeX9_thrown) (none)))
theorem qyL_13 (l : Launch) (hst : l.stackTraces = false) : ∀ k e1, qaL_13 k = some e1 → am_cal l layL RL 40 k e1 ∧ True := q_cons ⟨am_calS (qtL_placeNumerator l hst) qbL_placeNumerator (by decide) rfl (by decide) (am_tb_at 943 (by decide +kernel) rfl), trivial⟩ (q_cons ⟨am_calV (ci := 9) (am_CT_mono layM_L (qtX9_placeNumerator l)) qbX9_placeNumerator (by decide) rfl (am_tb_at 1707 (by decide +kernel) rfl), trivial⟩ (q_cons ⟨am_calV (ci := 9) (am_CT_mono layM_L (qtX9_thrown l)) qbX9_thrown (by decide) rfl (am_tb_at 1481 (by decide +kernel) rfl), trivial⟩ (q_nil)))
def qxL_13 (Ls : Int) (xs : Int → Int) : CX := (qkL_13, layL, qfL, qaL_13, qcL, qlL, qmL, some .boolean, false, none, 2, some (Ls, xs), fun _ => none)
theorem qzL_13 (l : Launch) (hst : l.stackTraces = false) (Ls : Int) (xs : Int → Int) : am_sta l (qxL_13 Ls xs) RL 40 cL_law := ⟨qkL_13_ok, layL_ok, qfL_ok, qcL_ok, qlL_ok, am_mthP qmL_ok (by decide), fun k e1 h => (qyL_13 l hst k e1 h).1⟩
set_option maxRecDepth 20000 in
theorem qvL_13 (Ls : Int) (xs : Int → Int) (F : FF) (A : AA) (i : Int) (hx : ∀ j, -2147483648 ≤ xs j ∧ xs j < 2147483648) (hL : Ls ≤ 3072) (i0 : 0 ≤ i) (i1 : i + 6 ≤ Ls) (hR : REL F A) : am_stp (qxL_13 Ls xs) (am_run (qxL_13 Ls xs) lawC (lawI i) lawK 65) lawK 808 [some (vR 999), some (vR 0), some (vR 25), some (vR 43), some (vI i), none, none, none] [] F A 0 := by
  have hb : ∀ k : Int, 0 ≤ k → k ≤ 5 → 0 ≤ w32 (i + k) ∧ w32 (i + k) < Ls := fun k k0 k1 => by rw [w32_id (by omega) (by omega)]; omega
  have e0 : mF A = A 2 := hR.1.1.symm
  show (0 ≤ w32 (i + 1) ∧ w32 (i + 1) < Ls) ∧ ((0 ≤ w32 (i + 2) ∧ w32 (i + 2) < Ls) ∧ ((0 ≤ w32 (i + 3) ∧ w32 (i + 3) < Ls) ∧ ((0 ≤ w32 (i + 4) ∧ w32 (i + 4) < Ls) ∧ ((fgOK (A 2) ∧ (-2147483648 ≤ (xs (w32 (i + 1))) ∧ (xs (w32 (i + 1))) < 2147483648) ∧ (-2147483648 ≤ (xs (w32 (i + 2))) ∧ (xs (w32 (i + 2))) < 2147483648) ∧ (-2147483648 ≤ (xs (w32 (i + 3))) ∧ (xs (w32 (i + 3))) < 2147483648) ∧ (-2147483648 ≤ (xs (w32 (i + 4))) ∧ (xs (w32 (i + 4))) < 2147483648) ∧ caAll A) ∧ ((0 ≤ (xs (w32 (i + 1))) ∧ (xs (w32 (i + 1))) < A 2 0 → (∀ (G_1 : FF) (B_1 : AA), (qrP F G_1 A B_1) → ((0 ≤ w32 (i + 1) ∧ w32 (i + 1) < Ls) ∧ ((0 ≤ w32 (i + 2) ∧ w32 (i + 2) < Ls) ∧ ((0 ≤ w32 (i + 3) ∧ w32 (i + 3) < Ls) ∧ ((0 ≤ w32 (i + 4) ∧ w32 (i + 4) < Ls) ∧ ((fgOK (mF (upA B_1 43 (w32 0) (if 0 ≤ (xs (w32 (i + 2))) ∧ (xs (w32 (i + 2))) ≤ 6 ∧ 0 ≤ (xs (w32 (i + 3))) ∧ (xs (w32 (i + 3))) ≤ p2 (xs (w32 (i + 2))) then plF (A 2) (xs (w32 (i + 1))) (xs (w32 (i + 2))) (xs (w32 (i + 3))) (if (xs (w32 (i + 4))) = 0 then 0 else 1) 0 else -1))) ∧ (-2147483648 ≤ (xs (w32 (i + 1))) ∧ (xs (w32 (i + 1))) < 2147483648) ∧ (-2147483648 ≤ (xs (w32 (i + 2))) ∧ (xs (w32 (i + 2))) < 2147483648) ∧ (-2147483648 ≤ (xs (w32 (i + 3))) ∧ (xs (w32 (i + 3))) < 2147483648) ∧ (-2147483648 ≤ (xs (w32 (i + 4))) ∧ (xs (w32 (i + 4))) < 2147483648)) ∧ (∀ (G_2 : FF) (B_2 : AA), (qdP G_1 G_2 (upA B_1 43 (w32 0) (if 0 ≤ (xs (w32 (i + 2))) ∧ (xs (w32 (i + 2))) ≤ 6 ∧ 0 ≤ (xs (w32 (i + 3))) ∧ (xs (w32 (i + 3))) ≤ p2 (xs (w32 (i + 2))) then plF (A 2) (xs (w32 (i + 1))) (xs (w32 (i + 2))) (xs (w32 (i + 3))) (if (xs (w32 (i + 4))) = 0 then 0 else 1) 0 else -1)) B_2 ∧ G_2 25 0 = (if 0 ≤ (xs (w32 (i + 1))) ∧ (xs (w32 (i + 1))) < mF (upA B_1 43 (w32 0) (if 0 ≤ (xs (w32 (i + 2))) ∧ (xs (w32 (i + 2))) ≤ 6 ∧ 0 ≤ (xs (w32 (i + 3))) ∧ (xs (w32 (i + 3))) ≤ p2 (xs (w32 (i + 2))) then plF (A 2) (xs (w32 (i + 1))) (xs (w32 (i + 2))) (xs (w32 (i + 3))) (if (xs (w32 (i + 4))) = 0 then 0 else 1) 0 else -1)) 0 then 0 else 1)) → ((w32 (G_2 25 0) = w32 0 → ((w32 0 = w32 0 → ((0 ≤ w32 0 ∧ w32 0 < 1) ∧ ((w32 (y_cmp (B_2 43 (w32 0)) (if 0 ≤ (xs (w32 (i + 1))) ∧ (xs (w32 (i + 1))) < mF (upA B_1 43 (w32 0) (if 0 ≤ (xs (w32 (i + 2))) ∧ (xs (w32 (i + 2))) ≤ 6 ∧ 0 ≤ (xs (w32 (i + 3))) ∧ (xs (w32 (i + 3))) ≤ p2 (xs (w32 (i + 2))) then plF (A 2) (xs (w32 (i + 1))) (xs (w32 (i + 2))) (xs (w32 (i + 3))) (if (xs (w32 (i + 4))) = 0 then 0 else 1) 0 else -1)) 0 then (if 0 ≤ (xs (w32 (i + 2))) ∧ (xs (w32 (i + 2))) ≤ 6 ∧ 0 ≤ (xs (w32 (i + 3))) ∧ (xs (w32 (i + 3))) ≤ p2 (xs (w32 (i + 2))) then plF (mF (upA B_1 43 (w32 0) (if 0 ≤ (xs (w32 (i + 2))) ∧ (xs (w32 (i + 2))) ≤ 6 ∧ 0 ≤ (xs (w32 (i + 3))) ∧ (xs (w32 (i + 3))) ≤ p2 (xs (w32 (i + 2))) then plF (A 2) (xs (w32 (i + 1))) (xs (w32 (i + 2))) (xs (w32 (i + 3))) (if (xs (w32 (i + 4))) = 0 then 0 else 1) 0 else -1))) (xs (w32 (i + 1))) (xs (w32 (i + 2))) (xs (w32 (i + 3))) (if (xs (w32 (i + 4))) = 0 then 0 else 1) 0 else -1) else 0)) = w32 0 → ((999 : Nat) = 999 ∧ (0 : Nat) = 0 ∧ (25 : Nat) = 25 ∧ (43 : Nat) = 43 ∧ i + 6 = i + 6 ∧ REL G_2 B_2 ∧ (1 : Nat) ≤ 2)) ∧ (¬ (w32 (y_cmp (B_2 43 (w32 0)) (if 0 ≤ (xs (w32 (i + 1))) ∧ (xs (w32 (i + 1))) < mF (upA B_1 43 (w32 0) (if 0 ≤ (xs (w32 (i + 2))) ∧ (xs (w32 (i + 2))) ≤ 6 ∧ 0 ≤ (xs (w32 (i + 3))) ∧ (xs (w32 (i + 3))) ≤ p2 (xs (w32 (i + 2))) then plF (A 2) (xs (w32 (i + 1))) (xs (w32 (i + 2))) (xs (w32 (i + 3))) (if (xs (w32 (i + 4))) = 0 then 0 else 1) 0 else -1)) 0 then (if 0 ≤ (xs (w32 (i + 2))) ∧ (xs (w32 (i + 2))) ≤ 6 ∧ 0 ≤ (xs (w32 (i + 3))) ∧ (xs (w32 (i + 3))) ≤ p2 (xs (w32 (i + 2))) then plF (mF (upA B_1 43 (w32 0) (if 0 ≤ (xs (w32 (i + 2))) ∧ (xs (w32 (i + 2))) ≤ 6 ∧ 0 ≤ (xs (w32 (i + 3))) ∧ (xs (w32 (i + 3))) ≤ p2 (xs (w32 (i + 2))) then plF (A 2) (xs (w32 (i + 1))) (xs (w32 (i + 2))) (xs (w32 (i + 3))) (if (xs (w32 (i + 4))) = 0 then 0 else 1) 0 else -1))) (xs (w32 (i + 1))) (xs (w32 (i + 2))) (xs (w32 (i + 3))) (if (xs (w32 (i + 4))) = 0 then 0 else 1) 0 else -1) else 0)) = w32 0) → (((0 : Int) = 0 ∨ (0 : Int) = 1) ∧ (lawK (some (some (vI 0))) G_2 B_2)))))) ∧ (¬ w32 0 = w32 0 → _))) ∧ (¬ w32 (G_2 25 0) = w32 0 → (((0 : Int) = 0 ∨ (0 : Int) = 1) ∧ (lawK (some (some (vI 0))) G_2 B_2)))))))))))) ∧ (¬ (0 ≤ (xs (w32 (i + 1))) ∧ (xs (w32 (i + 1))) < A 2 0) → ((0 ≤ w32 (i + 1) ∧ w32 (i + 1) < Ls) ∧ ((0 ≤ w32 (i + 2) ∧ w32 (i + 2) < Ls) ∧ ((0 ≤ w32 (i + 3) ∧ w32 (i + 3) < Ls) ∧ ((0 ≤ w32 (i + 4) ∧ w32 (i + 4) < Ls) ∧ ((fgOK (mF A) ∧ (-2147483648 ≤ (xs (w32 (i + 1))) ∧ (xs (w32 (i + 1))) < 2147483648) ∧ (-2147483648 ≤ (xs (w32 (i + 2))) ∧ (xs (w32 (i + 2))) < 2147483648) ∧ (-2147483648 ≤ (xs (w32 (i + 3))) ∧ (xs (w32 (i + 3))) < 2147483648) ∧ (-2147483648 ≤ (xs (w32 (i + 4))) ∧ (xs (w32 (i + 4))) < 2147483648)) ∧ (∀ (G_1 : FF) (B_1 : AA), (qdP F G_1 A B_1 ∧ G_1 25 0 = (if 0 ≤ (xs (w32 (i + 1))) ∧ (xs (w32 (i + 1))) < mF A 0 then 0 else 1)) → ((w32 (G_1 25 0) = w32 1 → ((w32 1 = w32 0 → _) ∧ (¬ w32 1 = w32 0 → ((999 : Nat) = 999 ∧ (0 : Nat) = 0 ∧ (25 : Nat) = 25 ∧ (43 : Nat) = 43 ∧ i + 6 = i + 6 ∧ REL G_1 B_1 ∧ (1 : Nat) ≤ 2)))) ∧ (¬ w32 (G_1 25 0) = w32 1 → (((0 : Int) = 0 ∨ (0 : Int) = 1) ∧ (lawK (some (some (vI 0))) G_1 B_1))))))))))))))))
  refine ⟨by exact hb 1 (by decide) (by decide), ?_⟩
  refine ⟨by exact hb 2 (by decide) (by decide), ?_⟩
  refine ⟨by exact hb 3 (by decide) (by decide), ?_⟩
  refine ⟨by exact hb 4 (by decide) (by decide), ?_⟩
  refine ⟨by exact ⟨rel_f hR, hx _, hx _, hx _, hx _, (hR).2.2.2.2.1.1⟩, ?_⟩
  refine ⟨fun c1 => ?_, fun c1 => ?_⟩
  · skip
    skip
    intro G_1 B_1 g1
    have hR1 : ∀ v, REL G_1 (upA B_1 43 (w32 0) v) := fun v => rel_up (rel_qr hR g1)
    have em : ∀ v, mF (upA B_1 43 (w32 0) v) = A 2 := fun v => (hR1 v).1.1.symm.trans ((upA_r (by decide)).trans (funext fun i => (g1).2.1 2 i (by decide)))
    refine ⟨by exact hb 1 (by decide) (by decide), ?_⟩
    refine ⟨by exact hb 2 (by decide) (by decide), ?_⟩
    refine ⟨by exact hb 3 (by decide) (by decide), ?_⟩
    refine ⟨by exact hb 4 (by decide) (by decide), ?_⟩
    refine ⟨by exact ⟨rel_m (hR1 _), hx _, hx _, hx _, hx _⟩, ?_⟩
    intro G_2 B_2 g2
    have hR2 := rel_qd (hR1 _) g2.1
    have t2 : G_2 25 0 = 0 := by
      have w := g2.2
      rw [em] at w
      exact w.trans (if_pos c1)
    have v2 := (g2.1.2 43 (w32 0) (by decide)).trans upA_s
    refine ⟨fun c2 => ?_, fun c2 => ?_⟩
    · skip
      skip
      refine ⟨fun _ => ?_, fun q => absurd (by decide) q⟩
      refine ⟨by decide, ?_⟩
      refine ⟨fun c3 => ?_, fun c3 => ?_⟩
      · skip
        skip
        exact ⟨rfl, rfl, rfl, rfl, rfl, hR2, by decide⟩
      · skip
        skip
        refine ⟨by decide, ?_⟩
        exact absurd (law_l v2 (by rw [em, if_pos c1])) c3
    · skip
      skip
      refine ⟨by decide, ?_⟩
      exact absurd (by rw [t2]) c2
  · skip
    skip
    refine ⟨by exact hb 1 (by decide) (by decide), ?_⟩
    refine ⟨by exact hb 2 (by decide) (by decide), ?_⟩
    refine ⟨by exact hb 3 (by decide) (by decide), ?_⟩
    refine ⟨by exact hb 4 (by decide) (by decide), ?_⟩
    refine ⟨by exact ⟨rel_m hR, hx _, hx _, hx _, hx _⟩, ?_⟩
    intro G_1 B_1 g1
    have hR2 := rel_qd hR g1.1
    have t2 : G_1 25 0 = 1 := by
      have w := g1.2
      rw [e0] at w
      exact w.trans (if_neg c1)
    refine ⟨fun c2 => ?_, fun c2 => ?_⟩
    · skip
      skip
      refine ⟨fun q => absurd q (by decide), fun _ => ?_⟩
      exact ⟨rfl, rfl, rfl, rfl, rfl, hR2, by decide⟩
    · skip
      skip
      refine ⟨by decide, ?_⟩
      exact absurd (by rw [t2]) c2
