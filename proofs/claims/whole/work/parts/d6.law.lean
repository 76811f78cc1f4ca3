def qkL_35 : Nat → Option CI := fun pc => cond (Nat.ble 3593 pc) none (cond (Nat.ble 2418 pc) (cond (Nat.ble 2441 pc) (cond (Nat.ble 2448 pc) (cond (Nat.ble 2453 pc) (cond (Nat.beq pc 2453) (some (.goto 1136, 2456, [3589])) (cond (Nat.beq pc 3589) (some (.iinc 4 6, 3592, [])) (cond (Nat.beq pc 3592) (some (.goto (-3569), 3595, [23])) (none)))) (cond (Nat.beq pc 2448) (some (.ifCond .eq 5, 2451, [2453])) (cond (Nat.beq pc 2451) (some (.iconst 0, 2452, [])) (cond (Nat.beq pc 2452) (some (.ireturn, 2453, [])) (none))))) (cond (Nat.ble 2444 pc) (cond (Nat.beq pc 2444) (some (.iload 6, 2446, [])) (cond (Nat.beq pc 2446) (some (.i2l, 2447, [])) (cond (Nat.beq pc 2447) (some (.lcmp, 2448, [])) (none)))) (cond (Nat.beq pc 2441) (some (.aload_n 3, 2442, [])) (cond (Nat.beq pc 2442) (some (.iconst 0, 2443, [])) (cond (Nat.beq pc 2443) (some (.laload, 2444, [])) (none)))))) (cond (Nat.ble 2429 pc) (cond (Nat.ble 2435 pc) (cond (Nat.beq pc 2435) (some (.ireturn, 2436, [])) (cond (Nat.beq pc 2436) (some (.iload 5, 2438, [])) (cond (Nat.beq pc 2438) (some (.ifCond .ne 15, 2441, [2453])) (none)))) (cond (Nat.beq pc 2429) (some (.iload 5, 2431, [])) (cond (Nat.beq pc 2431) (some (.if_icmp .eq 5, 2434, [2436])) (cond (Nat.beq pc 2434) (some (.iconst 0, 2435, [])) (none))))) (cond (Nat.ble 2423 pc) (cond (Nat.beq pc 2423) (some (.istore 6, 2425, [])) (cond (Nat.beq pc 2425) (some (.aload_n 2, 2426, [])) (cond (Nat.beq pc 2426) (some (.invokevirtual 175, 2429, [])) (none)))) (cond (Nat.beq pc 2418) (some (.iadd, 2419, [])) (cond (Nat.beq pc 2419) (some (.iaload, 2420, [])) (cond (Nat.beq pc 2420) (some (.invokevirtual 260, 2423, [])) (none))))))) (cond (Nat.ble 2401 pc) (cond (Nat.ble 2411 pc) (cond (Nat.ble 2414 pc) (cond (Nat.beq pc 2414) (some (.aload_n 0, 2415, [])) (cond (Nat.beq pc 2415) (some (.iload 4, 2417, [])) (cond (Nat.beq pc 2417) (some (.iconst 2, 2418, [])) (none)))) (cond (Nat.beq pc 2411) (some (.iconst 1, 2412, [])) (cond (Nat.beq pc 2412) (some (.iadd, 2413, [])) (cond (Nat.beq pc 2413) (some (.iaload, 2414, [])) (none))))) (cond (Nat.ble 2407 pc) (cond (Nat.beq pc 2407) (some (.aload_n 2, 2408, [])) (cond (Nat.beq pc 2408) (some (.aload_n 0, 2409, [])) (cond (Nat.beq pc 2409) (some (.iload 4, 2411, [])) (none)))) (cond (Nat.beq pc 2401) (some (.aload_n 3, 2402, [])) (cond (Nat.beq pc 2402) (some (.invokestatic 258, 2405, [])) (cond (Nat.beq pc 2405) (some (.istore 5, 2407, [])) (none)))))) (cond (Nat.ble 2394 pc) (cond (Nat.ble 2398 pc) (cond (Nat.beq pc 2398) (some (.iconst 2, 2399, [])) (cond (Nat.beq pc 2399) (some (.iadd, 2400, [])) (cond (Nat.beq pc 2400) (some (.iaload, 2401, [])) (none)))) (cond (Nat.beq pc 2394) (some (.iaload, 2395, [])) (cond (Nat.beq pc 2395) (some (.aload_n 0, 2396, [])) (cond (Nat.beq pc 2396) (some (.iload 4, 2398, [])) (none))))) (cond (Nat.ble 2390 pc) (cond (Nat.beq pc 2390) (some (.iload 4, 2392, [])) (cond (Nat.beq pc 2392) (some (.iconst 1, 2393, [])) (cond (Nat.beq pc 2393) (some (.iadd, 2394, [])) (none)))) (cond (Nat.beq pc 2388) (some (.aload_n 1, 2389, [])) (cond (Nat.beq pc 2389) (some (.aload_n 0, 2390, [])) (none)))))))
theorem qkL_35_ok : ∀ pc i nx ts, qkL_35 pc = some (i, nx, ts) → am_cok cL_law pc (i, nx, ts) = true := fun pc i nx ts h => am_tok_ok (n := 3593) (by decide +kernel) (fun pc h => by show cond (Nat.ble 3593 pc) _ _ = _; rw [Nat.ble_eq_true_of_le h]; rfl) h
def qaL_35 : Nat → Option CE := fun k => cond (Nat.beq k 258) (some qeL_firstLeft) (cond (Nat.beq k 260) (some qeX9_firstLeft) (cond (Nat.beq k 175) (some qeX9_thrown) (none)))
theorem qyL_35 (l : Launch) (hst : l.stackTraces = false) : ∀ k e1, qaL_35 k = some e1 → am_cal l layL RL 40 k e1 ∧ True := q_cons ⟨am_calS (qtL_firstLeft l hst) qbL_firstLeft (by decide) rfl (by decide) (am_tb_at 1215 (by decide +kernel) rfl), trivial⟩ (q_cons ⟨am_calV (ci := 9) (am_CT_mono layM_L (qtX9_firstLeft l)) qbX9_firstLeft (by decide) rfl (am_tb_at 1925 (by decide +kernel) rfl), trivial⟩ (q_cons ⟨am_calV (ci := 9) (am_CT_mono layM_L (qtX9_thrown l)) qbX9_thrown (by decide) rfl (am_tb_at 1481 (by decide +kernel) rfl), trivial⟩ (q_nil)))
def qxL_35 (Ls : Int) (xs : Int → Int) : CX := (qkL_35, layL, qfL, qaL_35, qcL, qlL, qmL, some .boolean, false, none, 2, some (Ls, xs), fun _ => none)
theorem qzL_35 (l : Launch) (hst : l.stackTraces = false) (Ls : Int) (xs : Int → Int) : am_sta l (qxL_35 Ls xs) RL 40 cL_law := ⟨qkL_35_ok, layL_ok, qfL_ok, qcL_ok, qlL_ok, am_mthP qmL_ok (by decide), fun k e1 h => (qyL_35 l hst k e1 h).1⟩
set_option maxRecDepth 20000 in
theorem qvL_35 (Ls : Int) (xs : Int → Int) (F : FF) (A : AA) (i : Int) (hx : ∀ j, -2147483648 ≤ xs j ∧ xs j < 2147483648) (hL : Ls ≤ 3072) (i0 : 0 ≤ i) (i1 : i + 6 ≤ Ls) (hR : REL F A) : am_stp (qxL_35 Ls xs) (am_run (qxL_35 Ls xs) lawC (lawI i) lawK 46) lawK 2388 [some (vR 999), some (vR 0), some (vR 25), some (vR 43), some (vI i), none, none, none] [] F A 0 := by
  have hb : ∀ k : Int, 0 ≤ k → k ≤ 5 → 0 ≤ w32 (i + k) ∧ w32 (i + k) < Ls := fun k k0 k1 => by rw [w32_id (by omega) (by omega)]; omega
  have e0 : mF A = A 2 := hR.1.1.symm
  show (0 ≤ w32 (i + 1) ∧ w32 (i + 1) < Ls) ∧ ((0 ≤ w32 (i + 2) ∧ w32 (i + 2) < Ls) ∧ ((fgOK (A 2) ∧ (-2147483648 ≤ (xs (w32 (i + 1))) ∧ (xs (w32 (i + 1))) < 2147483648) ∧ (-2147483648 ≤ (xs (w32 (i + 2))) ∧ (xs (w32 (i + 2))) < 2147483648) ∧ caAll A) ∧ (((0 ≤ (xs (w32 (i + 1))) ∧ (xs (w32 (i + 1))) < A 2 0) ∧ 0 ≤ (xs (w32 (i + 2))) ∧ (xs (w32 (i + 2))) < A 2 0 → (∀ (G_1 : FF) (B_1 : AA), (qrP F G_1 A B_1 ∧ bnP G_1 (A 2) (xs (w32 (i + 2))) ∧ grQ A B_1 (xs (w32 (i + 1))) (A 2 3)) → ((0 ≤ w32 (i + 1) ∧ w32 (i + 1) < Ls) ∧ ((0 ≤ w32 (i + 2) ∧ w32 (i + 2) < Ls) ∧ ((fgOK (mF (upA B_1 43 (w32 0) (w32 (firI (fun jj => ¬ clP G_1 B_1 (xs (w32 (i + 1))) (p2 (A 2 3) - 1 + jj) (B_1 12 (xs (w32 (i + 1))))) (Int.toNat (p2 (A 2 3))) 0)))) ∧ (-2147483648 ≤ (xs (w32 (i + 1))) ∧ (xs (w32 (i + 1))) < 2147483648) ∧ (-2147483648 ≤ (xs (w32 (i + 2))) ∧ (xs (w32 (i + 2))) < 2147483648)) ∧ (∀ (G_2 : FF) (B_2 : AA), (qdP G_1 G_2 (upA B_1 43 (w32 0) (w32 (firI (fun jj => ¬ clP G_1 B_1 (xs (w32 (i + 1))) (p2 (A 2 3) - 1 + jj) (B_1 12 (xs (w32 (i + 1))))) (Int.toNat (p2 (A 2 3))) 0))) B_2 ∧ G_2 25 0 = (if (0 ≤ (xs (w32 (i + 1))) ∧ (xs (w32 (i + 1))) < mF (upA B_1 43 (w32 0) (w32 (firI (fun jj => ¬ clP G_1 B_1 (xs (w32 (i + 1))) (p2 (A 2 3) - 1 + jj) (B_1 12 (xs (w32 (i + 1))))) (Int.toNat (p2 (A 2 3))) 0))) 0) ∧ 0 ≤ (xs (w32 (i + 2))) ∧ (xs (w32 (i + 2))) < mF (upA B_1 43 (w32 0) (w32 (firI (fun jj => ¬ clP G_1 B_1 (xs (w32 (i + 1))) (p2 (A 2 3) - 1 + jj) (B_1 12 (xs (w32 (i + 1))))) (Int.toNat (p2 (A 2 3))) 0))) 0 then 0 else 1)) → ((w32 (G_2 25 0) = w32 0 → ((w32 0 = w32 0 → ((0 ≤ w32 0 ∧ w32 0 < 1) ∧ ((w32 (y_cmp (B_2 43 (w32 0)) (w32 (if (0 ≤ (xs (w32 (i + 1))) ∧ (xs (w32 (i + 1))) < mF (upA B_1 43 (w32 0) (w32 (firI (fun jj => ¬ clP G_1 B_1 (xs (w32 (i + 1))) (p2 (A 2 3) - 1 + jj) (B_1 12 (xs (w32 (i + 1))))) (Int.toNat (p2 (A 2 3))) 0))) 0) ∧ 0 ≤ (xs (w32 (i + 2))) ∧ (xs (w32 (i + 2))) < mF (upA B_1 43 (w32 0) (w32 (firI (fun jj => ¬ clP G_1 B_1 (xs (w32 (i + 1))) (p2 (A 2 3) - 1 + jj) (B_1 12 (xs (w32 (i + 1))))) (Int.toNat (p2 (A 2 3))) 0))) 0 then firI (fun jj => ¬ clM (mF (upA B_1 43 (w32 0) (w32 (firI (fun jj => ¬ clP G_1 B_1 (xs (w32 (i + 1))) (p2 (A 2 3) - 1 + jj) (B_1 12 (xs (w32 (i + 1))))) (Int.toNat (p2 (A 2 3))) 0)))) (xs (w32 (i + 1))) (xs (w32 (i + 2))) jj) (Int.toNat (p2 (mF (upA B_1 43 (w32 0) (w32 (firI (fun jj => ¬ clP G_1 B_1 (xs (w32 (i + 1))) (p2 (A 2 3) - 1 + jj) (B_1 12 (xs (w32 (i + 1))))) (Int.toNat (p2 (A 2 3))) 0))) 3))) 0 else 0))) = w32 0 → ((999 : Nat) = 999 ∧ (0 : Nat) = 0 ∧ (25 : Nat) = 25 ∧ (43 : Nat) = 43 ∧ i + 6 = i + 6 ∧ REL G_2 B_2 ∧ (2 : Nat) ≤ 2)) ∧ (¬ (w32 (y_cmp (B_2 43 (w32 0)) (w32 (if (0 ≤ (xs (w32 (i + 1))) ∧ (xs (w32 (i + 1))) < mF (upA B_1 43 (w32 0) (w32 (firI (fun jj => ¬ clP G_1 B_1 (xs (w32 (i + 1))) (p2 (A 2 3) - 1 + jj) (B_1 12 (xs (w32 (i + 1))))) (Int.toNat (p2 (A 2 3))) 0))) 0) ∧ 0 ≤ (xs (w32 (i + 2))) ∧ (xs (w32 (i + 2))) < mF (upA B_1 43 (w32 0) (w32 (firI (fun jj => ¬ clP G_1 B_1 (xs (w32 (i + 1))) (p2 (A 2 3) - 1 + jj) (B_1 12 (xs (w32 (i + 1))))) (Int.toNat (p2 (A 2 3))) 0))) 0 then firI (fun jj => ¬ clM (mF (upA B_1 43 (w32 0) (w32 (firI (fun jj => ¬ clP G_1 B_1 (xs (w32 (i + 1))) (p2 (A 2 3) - 1 + jj) (B_1 12 (xs (w32 (i + 1))))) (Int.toNat (p2 (A 2 3))) 0)))) (xs (w32 (i + 1))) (xs (w32 (i + 2))) jj) (Int.toNat (p2 (mF (upA B_1 43 (w32 0) (w32 (firI (fun jj => ¬ clP G_1 B_1 (xs (w32 (i + 1))) (p2 (A 2 3) - 1 + jj) (B_1 12 (xs (w32 (i + 1))))) (Int.toNat (p2 (A 2 3))) 0))) 3))) 0 else 0))) = w32 0) → (((0 : Int) = 0 ∨ (0 : Int) = 1) ∧ (lawK (some (some (vI 0))) G_2 B_2)))))) ∧ (¬ w32 0 = w32 0 → _))) ∧ (¬ w32 (G_2 25 0) = w32 0 → (((0 : Int) = 0 ∨ (0 : Int) = 1) ∧ (lawK (some (some (vI 0))) G_2 B_2)))))))))) ∧ (¬ ((0 ≤ (xs (w32 (i + 1))) ∧ (xs (w32 (i + 1))) < A 2 0) ∧ 0 ≤ (xs (w32 (i + 2))) ∧ (xs (w32 (i + 2))) < A 2 0) → ((0 ≤ w32 (i + 1) ∧ w32 (i + 1) < Ls) ∧ ((0 ≤ w32 (i + 2) ∧ w32 (i + 2) < Ls) ∧ ((fgOK (mF A) ∧ (-2147483648 ≤ (xs (w32 (i + 1))) ∧ (xs (w32 (i + 1))) < 2147483648) ∧ (-2147483648 ≤ (xs (w32 (i + 2))) ∧ (xs (w32 (i + 2))) < 2147483648)) ∧ (∀ (G_1 : FF) (B_1 : AA), (qdP F G_1 A B_1 ∧ G_1 25 0 = (if (0 ≤ (xs (w32 (i + 1))) ∧ (xs (w32 (i + 1))) < mF A 0) ∧ 0 ≤ (xs (w32 (i + 2))) ∧ (xs (w32 (i + 2))) < mF A 0 then 0 else 1)) → ((w32 (G_1 25 0) = w32 1 → ((w32 1 = w32 0 → _) ∧ (¬ w32 1 = w32 0 → ((999 : Nat) = 999 ∧ (0 : Nat) = 0 ∧ (25 : Nat) = 25 ∧ (43 : Nat) = 43 ∧ i + 6 = i + 6 ∧ REL G_1 B_1 ∧ (2 : Nat) ≤ 2)))) ∧ (¬ w32 (G_1 25 0) = w32 1 → (((0 : Int) = 0 ∨ (0 : Int) = 1) ∧ (lawK (some (some (vI 0))) G_1 B_1))))))))))))
  refine ⟨by exact hb 1 (by decide) (by decide), ?_⟩
  refine ⟨by exact hb 2 (by decide) (by decide), ?_⟩
  refine ⟨by exact ⟨rel_f hR, hx _, hx _, (hR).2.2.2.2.1.1⟩, ?_⟩
  refine ⟨fun c1 => ?_, fun c1 => ?_⟩
  · skip
    skip
    intro G_1 B_1 g1
    have hR1 : ∀ v, REL G_1 (upA B_1 43 (w32 0) v) := fun v => rel_up (rel_qr hR g1.1)
    have em : ∀ v, mF (upA B_1 43 (w32 0) v) = A 2 := fun v => (hR1 v).1.1.symm.trans ((upA_r (by decide)).trans (funext fun i => (g1.1).2.1 2 i (by decide)))
    refine ⟨by exact hb 1 (by decide) (by decide), ?_⟩
    refine ⟨by exact hb 2 (by decide) (by decide), ?_⟩
    refine ⟨by exact ⟨rel_m (hR1 _), hx _, hx _⟩, ?_⟩
    intro G_2 B_2 g2
    have hR2 := rel_qd (hR1 _) g2.1
    have t2 : G_2 25 0 = 0 := by
      have w := g2.2
      rw [em] at w
      exact w.trans (if_pos c1)
    have v2 := (g2.1.2 43 (w32 0) (by decide)).trans upA_s
    refine ⟨fun c2 => ?_, fun c2 => ?_⟩
    · skip
      skip
      refine ⟨fun _ => ?_, fun q => absurd (by decide) q⟩
      refine ⟨by decide, ?_⟩
      refine ⟨fun c3 => ?_, fun c3 => ?_⟩
      · skip
        skip
        exact ⟨rfl, rfl, rfl, rfl, rfl, hR2, by decide⟩
      · skip
        skip
        refine ⟨by decide, ?_⟩
        exact absurd (law_e v2 (by rw [em, if_pos c1]; exact le_fi (rel_f hR) hR.2.2.2.2.1.1 c1.1.1 c1.1.2 g1)) c3
    · skip
      skip
      refine ⟨by decide, ?_⟩
      exact absurd (by rw [t2]) c2
  · skip
    skip
    refine ⟨by exact hb 1 (by decide) (by decide), ?_⟩
    refine ⟨by exact hb 2 (by decide) (by decide), ?_⟩
    refine ⟨by exact ⟨rel_m hR, hx _, hx _⟩, ?_⟩
    intro G_1 B_1 g1
    have hR2 := rel_qd hR g1.1
    have t2 : G_1 25 0 = 1 := by
      have w := g1.2
      rw [e0] at w
      exact w.trans (if_neg c1)
    refine ⟨fun c2 => ?_, fun c2 => ?_⟩
    · skip
      skip
      refine ⟨fun q => absurd q (by decide), fun _ => ?_⟩
      exact ⟨rfl, rfl, rfl, rfl, rfl, hR2, by decide⟩
    · skip
      skip
      refine ⟨by decide, ?_⟩
      exact absurd (by rw [t2]) c2
def qkL_36 : Nat → Option CI := fun pc => cond (Nat.ble 3593 pc) none (cond (Nat.ble 2486 pc) (cond (Nat.ble 2509 pc) (cond (Nat.ble 2516 pc) (cond (Nat.ble 2521 pc) (cond (Nat.beq pc 2521) (some (.goto 1068, 2524, [3589])) (cond (Nat.beq pc 3589) (some (.iinc 4 6, 3592, [])) (cond (Nat.beq pc 3592) (some (.goto (-3569), 3595, [23])) (none)))) (cond (Nat.beq pc 2516) (some (.ifCond .eq 5, 2519, [2521])) (cond (Nat.beq pc 2519) (some (.iconst 0, 2520, [])) (cond (Nat.beq pc 2520) (some (.ireturn, 2521, [])) (none))))) (cond (Nat.ble 2512 pc) (cond (Nat.beq pc 2512) (some (.iload 6, 2514, [])) (cond (Nat.beq pc 2514) (some (.i2l, 2515, [])) (cond (Nat.beq pc 2515) (some (.lcmp, 2516, [])) (none)))) (cond (Nat.beq pc 2509) (some (.aload_n 3, 2510, [])) (cond (Nat.beq pc 2510) (some (.iconst 0, 2511, [])) (cond (Nat.beq pc 2511) (some (.laload, 2512, [])) (none)))))) (cond (Nat.ble 2497 pc) (cond (Nat.ble 2503 pc) (cond (Nat.beq pc 2503) (some (.ireturn, 2504, [])) (cond (Nat.beq pc 2504) (some (.iload 5, 2506, [])) (cond (Nat.beq pc 2506) (some (.ifCond .ne 15, 2509, [2521])) (none)))) (cond (Nat.beq pc 2497) (some (.iload 5, 2499, [])) (cond (Nat.beq pc 2499) (some (.if_icmp .eq 5, 2502, [2504])) (cond (Nat.beq pc 2502) (some (.iconst 0, 2503, [])) (none))))) (cond (Nat.ble 2491 pc) (cond (Nat.beq pc 2491) (some (.istore 6, 2493, [])) (cond (Nat.beq pc 2493) (some (.aload_n 2, 2494, [])) (cond (Nat.beq pc 2494) (some (.invokevirtual 175, 2497, [])) (none)))) (cond (Nat.beq pc 2486) (some (.iadd, 2487, [])) (cond (Nat.beq pc 2487) (some (.iaload, 2488, [])) (cond (Nat.beq pc 2488) (some (.invokevirtual 263, 2491, [])) (none))))))) (cond (Nat.ble 2469 pc) (cond (Nat.ble 2479 pc) (cond (Nat.ble 2482 pc) (cond (Nat.beq pc 2482) (some (.aload_n 0, 2483, [])) (cond (Nat.beq pc 2483) (some (.iload 4, 2485, [])) (cond (Nat.beq pc 2485) (some (.iconst 2, 2486, [])) (none)))) (cond (Nat.beq pc 2479) (some (.iconst 1, 2480, [])) (cond (Nat.beq pc 2480) (some (.iadd, 2481, [])) (cond (Nat.beq pc 2481) (some (.iaload, 2482, [])) (none))))) (cond (Nat.ble 2475 pc) (cond (Nat.beq pc 2475) (some (.aload_n 2, 2476, [])) (cond (Nat.beq pc 2476) (some (.aload_n 0, 2477, [])) (cond (Nat.beq pc 2477) (some (.iload 4, 2479, [])) (none)))) (cond (Nat.beq pc 2469) (some (.aload_n 3, 2470, [])) (cond (Nat.beq pc 2470) (some (.invokestatic 261, 2473, [])) (cond (Nat.beq pc 2473) (some (.istore 5, 2475, [])) (none)))))) (cond (Nat.ble 2462 pc) (cond (Nat.ble 2466 pc) (cond (Nat.beq pc 2466) (some (.iconst 2, 2467, [])) (cond (Nat.beq pc 2467) (some (.iadd, 2468, [])) (cond (Nat.beq pc 2468) (some (.iaload, 2469, [])) (none)))) (cond (Nat.beq pc 2462) (some (.iaload, 2463, [])) (cond (Nat.beq pc 2463) (some (.aload_n 0, 2464, [])) (cond (Nat.beq pc 2464) (some (.iload 4, 2466, [])) (none))))) (cond (Nat.ble 2458 pc) (cond (Nat.beq pc 2458) (some (.iload 4, 2460, [])) (cond (Nat.beq pc 2460) (some (.iconst 1, 2461, [])) (cond (Nat.beq pc 2461) (some (.iadd, 2462, [])) (none)))) (cond (Nat.beq pc 2456) (some (.aload_n 1, 2457, [])) (cond (Nat.beq pc 2457) (some (.aload_n 0, 2458, [])) (none)))))))
theorem qkL_36_ok : ∀ pc i nx ts, qkL_36 pc = some (i, nx, ts) → am_cok cL_law pc (i, nx, ts) = true := fun pc i nx ts h => am_tok_ok (n := 3593) (by decide +kernel) (fun pc h => by show cond (Nat.ble 3593 pc) _ _ = _; rw [Nat.ble_eq_true_of_le h]; rfl) h
def qaL_36 : Nat → Option CE := fun k => cond (Nat.beq k 261) (some qeL_lastLeft) (cond (Nat.beq k 263) (some qeX9_lastLeft) (cond (Nat.beq k 175) (some qeX9_thrown) (none)))
theorem qyL_36 (l : Launch) (hst : l.stackTraces = false) : ∀ k e1, qaL_36 k = some e1 → am_cal l layL RL 40 k e1 ∧ True := q_cons ⟨am_calS (qtL_lastLeft l hst) qbL_lastLeft (by decide) rfl (by decide) (am_tb_at 1236 (by decide +kernel) rfl), trivial⟩ (q_cons ⟨am_calV (ci := 9) (am_CT_mono layM_L (qtX9_lastLeft l)) qbX9_lastLeft (by decide) rfl (am_tb_at 1941 (by decide +kernel) rfl), trivial⟩ (q_cons ⟨am_calV (ci := 9) (am_CT_mono layM_L (qtX9_thrown l)) qbX9_thrown (by decide) rfl (am_tb_at 1481 (by decide +kernel) rfl), trivial⟩ (q_nil)))
def qxL_36 (Ls : Int) (xs : Int → Int) : CX := (qkL_36, layL, qfL, qaL_36, qcL, qlL, qmL, some .boolean, false, none, 2, some (Ls, xs), fun _ => none)
theorem qzL_36 (l : Launch) (hst : l.stackTraces = false) (Ls : Int) (xs : Int → Int) : am_sta l (qxL_36 Ls xs) RL 40 cL_law := ⟨qkL_36_ok, layL_ok, qfL_ok, qcL_ok, qlL_ok, am_mthP qmL_ok (by decide), fun k e1 h => (qyL_36 l hst k e1 h).1⟩
set_option maxRecDepth 20000 in
theorem qvL_36 (Ls : Int) (xs : Int → Int) (F : FF) (A : AA) (i : Int) (hx : ∀ j, -2147483648 ≤ xs j ∧ xs j < 2147483648) (hL : Ls ≤ 3072) (i0 : 0 ≤ i) (i1 : i + 6 ≤ Ls) (hR : REL F A) : am_stp (qxL_36 Ls xs) (am_run (qxL_36 Ls xs) lawC (lawI i) lawK 46) lawK 2456 [some (vR 999), some (vR 0), some (vR 25), some (vR 43), some (vI i), none, none, none] [] F A 0 := by
  have hb : ∀ k : Int, 0 ≤ k → k ≤ 5 → 0 ≤ w32 (i + k) ∧ w32 (i + k) < Ls := fun k k0 k1 => by rw [w32_id (by omega) (by omega)]; omega
  have e0 : mF A = A 2 := hR.1.1.symm
  show (0 ≤ w32 (i + 1) ∧ w32 (i + 1) < Ls) ∧ ((0 ≤ w32 (i + 2) ∧ w32 (i + 2) < Ls) ∧ ((fgOK (A 2) ∧ (-2147483648 ≤ (xs (w32 (i + 1))) ∧ (xs (w32 (i + 1))) < 2147483648) ∧ (-2147483648 ≤ (xs (w32 (i + 2))) ∧ (xs (w32 (i + 2))) < 2147483648) ∧ caAll A) ∧ (((0 ≤ (xs (w32 (i + 1))) ∧ (xs (w32 (i + 1))) < A 2 0) ∧ 0 ≤ (xs (w32 (i + 2))) ∧ (xs (w32 (i + 2))) < A 2 0 → (∀ (G_1 : FF) (B_1 : AA), (qrP F G_1 A B_1 ∧ bnP G_1 (A 2) (xs (w32 (i + 2))) ∧ grQ A B_1 (xs (w32 (i + 1))) (A 2 3)) → ((0 ≤ w32 (i + 1) ∧ w32 (i + 1) < Ls) ∧ ((0 ≤ w32 (i + 2) ∧ w32 (i + 2) < Ls) ∧ ((fgOK (mF (upA B_1 43 (w32 0) (w32 (lasI (fun jj => ¬ clP G_1 B_1 (xs (w32 (i + 1))) (p2 (A 2 3) - 1 + jj) (B_1 12 (xs (w32 (i + 1))))) (Int.toNat (p2 (A 2 3))))))) ∧ (-2147483648 ≤ (xs (w32 (i + 1))) ∧ (xs (w32 (i + 1))) < 2147483648) ∧ (-2147483648 ≤ (xs (w32 (i + 2))) ∧ (xs (w32 (i + 2))) < 2147483648)) ∧ (∀ (G_2 : FF) (B_2 : AA), (qdP G_1 G_2 (upA B_1 43 (w32 0) (w32 (lasI (fun jj => ¬ clP G_1 B_1 (xs (w32 (i + 1))) (p2 (A 2 3) - 1 + jj) (B_1 12 (xs (w32 (i + 1))))) (Int.toNat (p2 (A 2 3)))))) B_2 ∧ G_2 25 0 = (if (0 ≤ (xs (w32 (i + 1))) ∧ (xs (w32 (i + 1))) < mF (upA B_1 43 (w32 0) (w32 (lasI (fun jj => ¬ clP G_1 B_1 (xs (w32 (i + 1))) (p2 (A 2 3) - 1 + jj) (B_1 12 (xs (w32 (i + 1))))) (Int.toNat (p2 (A 2 3)))))) 0) ∧ 0 ≤ (xs (w32 (i + 2))) ∧ (xs (w32 (i + 2))) < mF (upA B_1 43 (w32 0) (w32 (lasI (fun jj => ¬ clP G_1 B_1 (xs (w32 (i + 1))) (p2 (A 2 3) - 1 + jj) (B_1 12 (xs (w32 (i + 1))))) (Int.toNat (p2 (A 2 3)))))) 0 then 0 else 1)) → ((w32 (G_2 25 0) = w32 0 → ((w32 0 = w32 0 → ((0 ≤ w32 0 ∧ w32 0 < 1) ∧ ((w32 (y_cmp (B_2 43 (w32 0)) (w32 (if (0 ≤ (xs (w32 (i + 1))) ∧ (xs (w32 (i + 1))) < mF (upA B_1 43 (w32 0) (w32 (lasI (fun jj => ¬ clP G_1 B_1 (xs (w32 (i + 1))) (p2 (A 2 3) - 1 + jj) (B_1 12 (xs (w32 (i + 1))))) (Int.toNat (p2 (A 2 3)))))) 0) ∧ 0 ≤ (xs (w32 (i + 2))) ∧ (xs (w32 (i + 2))) < mF (upA B_1 43 (w32 0) (w32 (lasI (fun jj => ¬ clP G_1 B_1 (xs (w32 (i + 1))) (p2 (A 2 3) - 1 + jj) (B_1 12 (xs (w32 (i + 1))))) (Int.toNat (p2 (A 2 3)))))) 0 then lasI (fun jj => ¬ clM (mF (upA B_1 43 (w32 0) (w32 (lasI (fun jj => ¬ clP G_1 B_1 (xs (w32 (i + 1))) (p2 (A 2 3) - 1 + jj) (B_1 12 (xs (w32 (i + 1))))) (Int.toNat (p2 (A 2 3))))))) (xs (w32 (i + 1))) (xs (w32 (i + 2))) jj) (Int.toNat (p2 (mF (upA B_1 43 (w32 0) (w32 (lasI (fun jj => ¬ clP G_1 B_1 (xs (w32 (i + 1))) (p2 (A 2 3) - 1 + jj) (B_1 12 (xs (w32 (i + 1))))) (Int.toNat (p2 (A 2 3)))))) 3))) else 0))) = w32 0 → ((999 : Nat) = 999 ∧ (0 : Nat) = 0 ∧ (25 : Nat) = 25 ∧ (43 : Nat) = 43 ∧ i + 6 = i + 6 ∧ REL G_2 B_2 ∧ (2 : Nat) ≤ 2)) ∧ (¬ (w32 (y_cmp (B_2 43 (w32 0)) (w32 (if (0 ≤ (xs (w32 (i + 1))) ∧ (xs (w32 (i + 1))) < mF (upA B_1 43 (w32 0) (w32 (lasI (fun jj => ¬ clP G_1 B_1 (xs (w32 (i + 1))) (p2 (A 2 3) - 1 + jj) (B_1 12 (xs (w32 (i + 1))))) (Int.toNat (p2 (A 2 3)))))) 0) ∧ 0 ≤ (xs (w32 (i + 2))) ∧ (xs (w32 (i + 2))) < mF (upA B_1 43 (w32 0) (w32 (lasI (fun jj => ¬ clP G_1 B_1 (xs (w32 (i + 1))) (p2 (A 2 3) - 1 + jj) (B_1 12 (xs (w32 (i + 1))))) (Int.toNat (p2 (A 2 3)))))) 0 then lasI (fun jj => ¬ clM (mF (upA B_1 43 (w32 0) (w32 (lasI (fun jj => ¬ clP G_1 B_1 (xs (w32 (i + 1))) (p2 (A 2 3) - 1 + jj) (B_1 12 (xs (w32 (i + 1))))) (Int.toNat (p2 (A 2 3))))))) (xs (w32 (i + 1))) (xs (w32 (i + 2))) jj) (Int.toNat (p2 (mF (upA B_1 43 (w32 0) (w32 (lasI (fun jj => ¬ clP G_1 B_1 (xs (w32 (i + 1))) (p2 (A 2 3) - 1 + jj) (B_1 12 (xs (w32 (i + 1))))) (Int.toNat (p2 (A 2 3)))))) 3))) else 0))) = w32 0) → (((0 : Int) = 0 ∨ (0 : Int) = 1) ∧ (lawK (some (some (vI 0))) G_2 B_2)))))) ∧ (¬ w32 0 = w32 0 → _))) ∧ (¬ w32 (G_2 25 0) = w32 0 → (((0 : Int) = 0 ∨ (0 : Int) = 1) ∧ (lawK (some (some (vI 0))) G_2 B_2)))))))))) ∧ (¬ ((0 ≤ (xs (w32 (i + 1))) ∧ (xs (w32 (i + 1))) < A 2 0) ∧ 0 ≤ (xs (w32 (i + 2))) ∧ (xs (w32 (i + 2))) < A 2 0) → ((0 ≤ w32 (i + 1) ∧ w32 (i + 1) < Ls) ∧ ((0 ≤ w32 (i + 2) ∧ w32 (i + 2) < Ls) ∧ ((fgOK (mF A) ∧ (-2147483648 ≤ (xs (w32 (i + 1))) ∧ (xs (w32 (i + 1))) < 2147483648) ∧ (-2147483648 ≤ (xs (w32 (i + 2))) ∧ (xs (w32 (i + 2))) < 2147483648)) ∧ (∀ (G_1 : FF) (B_1 : AA), (qdP F G_1 A B_1 ∧ G_1 25 0 = (if (0 ≤ (xs (w32 (i + 1))) ∧ (xs (w32 (i + 1))) < mF A 0) ∧ 0 ≤ (xs (w32 (i + 2))) ∧ (xs (w32 (i + 2))) < mF A 0 then 0 else 1)) → ((w32 (G_1 25 0) = w32 1 → ((w32 1 = w32 0 → _) ∧ (¬ w32 1 = w32 0 → ((999 : Nat) = 999 ∧ (0 : Nat) = 0 ∧ (25 : Nat) = 25 ∧ (43 : Nat) = 43 ∧ i + 6 = i + 6 ∧ REL G_1 B_1 ∧ (2 : Nat) ≤ 2)))) ∧ (¬ w32 (G_1 25 0) = w32 1 → (((0 : Int) = 0 ∨ (0 : Int) = 1) ∧ (lawK (some (some (vI 0))) G_1 B_1))))))))))))
  refine ⟨by exact hb 1 (by decide) (by decide), ?_⟩
  refine ⟨by exact hb 2 (by decide) (by decide), ?_⟩
  refine ⟨by exact ⟨rel_f hR, hx _, hx _, (hR).2.2.2.2.1.1⟩, ?_⟩
  refine ⟨fun c1 => ?_, fun c1 => ?_⟩
  · skip
    skip
    intro G_1 B_1 g1
    have hR1 : ∀ v, REL G_1 (upA B_1 43 (w32 0) v) := fun v => rel_up (rel_qr hR g1.1)
    have em : ∀ v, mF (upA B_1 43 (w32 0) v) = A 2 := fun v => (hR1 v).1.1.symm.trans ((upA_r (by decide)).trans (funext fun i => (g1.1).2.1 2 i (by decide)))
    refine ⟨by exact hb 1 (by decide) (by decide), ?_⟩
    refine ⟨by exact hb 2 (by decide) (by decide), ?_⟩
    refine ⟨by exact ⟨rel_m (hR1 _), hx _, hx _⟩, ?_⟩
    intro G_2 B_2 g2
    have hR2 := rel_qd (hR1 _) g2.1
    have t2 : G_2 25 0 = 0 := by
      have w := g2.2
      rw [em] at w
      exact w.trans (if_pos c1)
    have v2 := (g2.1.2 43 (w32 0) (by decide)).trans upA_s
    refine ⟨fun c2 => ?_, fun c2 => ?_⟩
    · skip
      skip
      refine ⟨fun _ => ?_, fun q => absurd (by decide) q⟩
      refine ⟨by decide, ?_⟩
      refine ⟨fun c3 => ?_, fun c3 => ?_⟩
      · skip
        skip
        exact ⟨rfl, rfl, rfl, rfl, rfl, hR2, by decide⟩
      · skip
        skip
        refine ⟨by decide, ?_⟩
        exact absurd (law_e v2 (by rw [em, if_pos c1]; exact le_la (rel_f hR) hR.2.2.2.2.1.1 c1.1.1 c1.1.2 g1)) c3
    · skip
      skip
      refine ⟨by decide, ?_⟩
      exact absurd (by rw [t2]) c2
  · skip
    skip
    refine ⟨by exact hb 1 (by decide) (by decide), ?_⟩
    refine ⟨by exact hb 2 (by decide) (by decide), ?_⟩
    refine ⟨by exact ⟨rel_m hR, hx _, hx _⟩, ?_⟩
    intro G_1 B_1 g1
    have hR2 := rel_qd hR g1.1
    have t2 : G_1 25 0 = 1 := by
      have w := g1.2
      rw [e0] at w
      exact w.trans (if_neg c1)
    refine ⟨fun c2 => ?_, fun c2 => ?_⟩
    · skip
      skip
      refine ⟨fun q => absurd q (by decide), fun _ => ?_⟩
      exact ⟨rfl, rfl, rfl, rfl, rfl, hR2, by decide⟩
    · skip
      skip
      refine ⟨by decide, ?_⟩
      exact absurd (by rw [t2]) c2
def qkL_37 : Nat → Option CI := fun pc => cond (Nat.ble 3593 pc) none (cond (Nat.ble 2554 pc) (cond (Nat.ble 2577 pc) (cond (Nat.ble 2584 pc) (cond (Nat.ble 2589 pc) (cond (Nat.beq pc 2589) (some (.goto 1000, 2592, [3589])) (cond (Nat.beq pc 3589) (some (.iinc 4 6, 3592, [])) (cond (Nat.beq pc 3592) (some (.goto (-3569), 3595, [23])) (none)))) (cond (Nat.beq pc 2584) (some (.ifCond .eq 5, 2587, [2589])) (cond (Nat.beq pc 2587) (some (.iconst 0, 2588, [])) (cond (Nat.beq pc 2588) (some (.ireturn, 2589, [])) (none))))) (cond (Nat.ble 2580 pc) (cond (Nat.beq pc 2580) (some (.iload 6, 2582, [])) (cond (Nat.beq pc 2582) (some (.i2l, 2583, [])) (cond (Nat.beq pc 2583) (some (.lcmp, 2584, [])) (none)))) (cond (Nat.beq pc 2577) (some (.aload_n 3, 2578, [])) (cond (Nat.beq pc 2578) (some (.iconst 0, 2579, [])) (cond (Nat.beq pc 2579) (some (.laload, 2580, [])) (none)))))) (cond (Nat.ble 2565 pc) (cond (Nat.ble 2571 pc) (cond (Nat.beq pc 2571) (some (.ireturn, 2572, [])) (cond (Nat.beq pc 2572) (some (.iload 5, 2574, [])) (cond (Nat.beq pc 2574) (some (.ifCond .ne 15, 2577, [2589])) (none)))) (cond (Nat.beq pc 2565) (some (.iload 5, 2567, [])) (cond (Nat.beq pc 2567) (some (.if_icmp .eq 5, 2570, [2572])) (cond (Nat.beq pc 2570) (some (.iconst 0, 2571, [])) (none))))) (cond (Nat.ble 2559 pc) (cond (Nat.beq pc 2559) (some (.istore 6, 2561, [])) (cond (Nat.beq pc 2561) (some (.aload_n 2, 2562, [])) (cond (Nat.beq pc 2562) (some (.invokevirtual 175, 2565, [])) (none)))) (cond (Nat.beq pc 2554) (some (.iadd, 2555, [])) (cond (Nat.beq pc 2555) (some (.iaload, 2556, [])) (cond (Nat.beq pc 2556) (some (.invokevirtual 266, 2559, [])) (none))))))) (cond (Nat.ble 2537 pc) (cond (Nat.ble 2547 pc) (cond (Nat.ble 2550 pc) (cond (Nat.beq pc 2550) (some (.aload_n 0, 2551, [])) (cond (Nat.beq pc 2551) (some (.iload 4, 2553, [])) (cond (Nat.beq pc 2553) (some (.iconst 2, 2554, [])) (none)))) (cond (Nat.beq pc 2547) (some (.iconst 1, 2548, [])) (cond (Nat.beq pc 2548) (some (.iadd, 2549, [])) (cond (Nat.beq pc 2549) (some (.iaload, 2550, [])) (none))))) (cond (Nat.ble 2543 pc) (cond (Nat.beq pc 2543) (some (.aload_n 2, 2544, [])) (cond (Nat.beq pc 2544) (some (.aload_n 0, 2545, [])) (cond (Nat.beq pc 2545) (some (.iload 4, 2547, [])) (none)))) (cond (Nat.beq pc 2537) (some (.aload_n 3, 2538, [])) (cond (Nat.beq pc 2538) (some (.invokestatic 264, 2541, [])) (cond (Nat.beq pc 2541) (some (.istore 5, 2543, [])) (none)))))) (cond (Nat.ble 2530 pc) (cond (Nat.ble 2534 pc) (cond (Nat.beq pc 2534) (some (.iconst 2, 2535, [])) (cond (Nat.beq pc 2535) (some (.iadd, 2536, [])) (cond (Nat.beq pc 2536) (some (.iaload, 2537, [])) (none)))) (cond (Nat.beq pc 2530) (some (.iaload, 2531, [])) (cond (Nat.beq pc 2531) (some (.aload_n 0, 2532, [])) (cond (Nat.beq pc 2532) (some (.iload 4, 2534, [])) (none))))) (cond (Nat.ble 2526 pc) (cond (Nat.beq pc 2526) (some (.iload 4, 2528, [])) (cond (Nat.beq pc 2528) (some (.iconst 1, 2529, [])) (cond (Nat.beq pc 2529) (some (.iadd, 2530, [])) (none)))) (cond (Nat.beq pc 2524) (some (.aload_n 1, 2525, [])) (cond (Nat.beq pc 2525) (some (.aload_n 0, 2526, [])) (none)))))))
theorem qkL_37_ok : ∀ pc i nx ts, qkL_37 pc = some (i, nx, ts) → am_cok cL_law pc (i, nx, ts) = true := fun pc i nx ts h => am_tok_ok (n := 3593) (by decide +kernel) (fun pc h => by show cond (Nat.ble 3593 pc) _ _ = _; rw [Nat.ble_eq_true_of_le h]; rfl) h
def qaL_37 : Nat → Option CE := fun k => cond (Nat.beq k 264) (some qeL_pairCount) (cond (Nat.beq k 266) (some qeX9_pairCount) (cond (Nat.beq k 175) (some qeX9_thrown) (none)))
theorem qyL_37 (l : Launch) (hst : l.stackTraces = false) : ∀ k e1, qaL_37 k = some e1 → am_cal l layL RL 40 k e1 ∧ True := q_cons ⟨am_calS (qtL_pairCount l hst) qbL_pairCount (by decide) rfl (by decide) (am_tb_at 1243 (by decide +kernel) rfl), trivial⟩ (q_cons ⟨am_calV (ci := 9) (am_CT_mono layM_L (qtX9_pairCount l)) qbX9_pairCount (by decide) rfl (am_tb_at 1945 (by decide +kernel) rfl), trivial⟩ (q_cons ⟨am_calV (ci := 9) (am_CT_mono layM_L (qtX9_thrown l)) qbX9_thrown (by decide) rfl (am_tb_at 1481 (by decide +kernel) rfl), trivial⟩ (q_nil)))
def qxL_37 (Ls : Int) (xs : Int → Int) : CX := (qkL_37, layL, qfL, qaL_37, qcL, qlL, qmL, some .boolean, false, none, 2, some (Ls, xs), fun _ => none)
theorem qzL_37 (l : Launch) (hst : l.stackTraces = false) (Ls : Int) (xs : Int → Int) : am_sta l (qxL_37 Ls xs) RL 40 cL_law := ⟨qkL_37_ok, layL_ok, qfL_ok, qcL_ok, qlL_ok, am_mthP qmL_ok (by decide), fun k e1 h => (qyL_37 l hst k e1 h).1⟩
set_option maxRecDepth 20000 in
theorem qvL_37 (Ls : Int) (xs : Int → Int) (F : FF) (A : AA) (i : Int) (hx : ∀ j, -2147483648 ≤ xs j ∧ xs j < 2147483648) (hL : Ls ≤ 3072) (i0 : 0 ≤ i) (i1 : i + 6 ≤ Ls) (hR : REL F A) : am_stp (qxL_37 Ls xs) (am_run (qxL_37 Ls xs) lawC (lawI i) lawK 46) lawK 2524 [some (vR 999), some (vR 0), some (vR 25), some (vR 43), some (vI i), none, none, none] [] F A 0 := by
  have hb : ∀ k : Int, 0 ≤ k → k ≤ 5 → 0 ≤ w32 (i + k) ∧ w32 (i + k) < Ls := fun k k0 k1 => by rw [w32_id (by omega) (by omega)]; omega
  have e0 : mF A = A 2 := hR.1.1.symm
  show (0 ≤ w32 (i + 1) ∧ w32 (i + 1) < Ls) ∧ ((0 ≤ w32 (i + 2) ∧ w32 (i + 2) < Ls) ∧ ((fgOK (A 2) ∧ (-2147483648 ≤ (xs (w32 (i + 1))) ∧ (xs (w32 (i + 1))) < 2147483648) ∧ (-2147483648 ≤ (xs (w32 (i + 2))) ∧ (xs (w32 (i + 2))) < 2147483648) ∧ caAll A ∧ (∀ jj, -2 ≤ A 20 jj ∧ A 20 jj < 5000)) ∧ (((0 ≤ (xs (w32 (i + 1))) ∧ (xs (w32 (i + 1))) < A 2 0) ∧ 0 ≤ (xs (w32 (i + 2))) ∧ (xs (w32 (i + 2))) < A 2 0 → (∀ (G_1 : FF) (B_1 : AA), (mkP F G_1 A B_1 (xs (w32 (i + 1))) (xs (w32 (i + 2))) (A 2 3)) → ((0 ≤ w32 (i + 1) ∧ w32 (i + 1) < Ls) ∧ ((0 ≤ w32 (i + 2) ∧ w32 (i + 2) < Ls) ∧ ((fgOK (mF (upA B_1 43 (w32 0) (w32 (cntP (B_1 20) (Int.toNat (p2 (A 2 3) * p2 (A 2 3))))))) ∧ (-2147483648 ≤ (xs (w32 (i + 1))) ∧ (xs (w32 (i + 1))) < 2147483648) ∧ (-2147483648 ≤ (xs (w32 (i + 2))) ∧ (xs (w32 (i + 2))) < 2147483648)) ∧ (∀ (G_2 : FF) (B_2 : AA), (qdP G_1 G_2 (upA B_1 43 (w32 0) (w32 (cntP (B_1 20) (Int.toNat (p2 (A 2 3) * p2 (A 2 3)))))) B_2 ∧ G_2 25 0 = (if (0 ≤ (xs (w32 (i + 1))) ∧ (xs (w32 (i + 1))) < mF (upA B_1 43 (w32 0) (w32 (cntP (B_1 20) (Int.toNat (p2 (A 2 3) * p2 (A 2 3)))))) 0) ∧ 0 ≤ (xs (w32 (i + 2))) ∧ (xs (w32 (i + 2))) < mF (upA B_1 43 (w32 0) (w32 (cntP (B_1 20) (Int.toNat (p2 (A 2 3) * p2 (A 2 3)))))) 0 then 0 else 1)) → ((w32 (G_2 25 0) = w32 0 → ((w32 0 = w32 0 → ((0 ≤ w32 0 ∧ w32 0 < 1) ∧ ((w32 (y_cmp (B_2 43 (w32 0)) (w32 (if (0 ≤ (xs (w32 (i + 1))) ∧ (xs (w32 (i + 1))) < mF (upA B_1 43 (w32 0) (w32 (cntP (B_1 20) (Int.toNat (p2 (A 2 3) * p2 (A 2 3)))))) 0) ∧ 0 ≤ (xs (w32 (i + 2))) ∧ (xs (w32 (i + 2))) < mF (upA B_1 43 (w32 0) (w32 (cntP (B_1 20) (Int.toNat (p2 (A 2 3) * p2 (A 2 3)))))) 0 then cntQ (prK (mF (upA B_1 43 (w32 0) (w32 (cntP (B_1 20) (Int.toNat (p2 (A 2 3) * p2 (A 2 3))))))) (xs (w32 (i + 1))) (xs (w32 (i + 2)))) (Int.toNat (p2 (mF (upA B_1 43 (w32 0) (w32 (cntP (B_1 20) (Int.toNat (p2 (A 2 3) * p2 (A 2 3)))))) 3) * p2 (mF (upA B_1 43 (w32 0) (w32 (cntP (B_1 20) (Int.toNat (p2 (A 2 3) * p2 (A 2 3)))))) 3))) else 0))) = w32 0 → ((999 : Nat) = 999 ∧ (0 : Nat) = 0 ∧ (25 : Nat) = 25 ∧ (43 : Nat) = 43 ∧ i + 6 = i + 6 ∧ REL G_2 B_2 ∧ (2 : Nat) ≤ 2)) ∧ (¬ (w32 (y_cmp (B_2 43 (w32 0)) (w32 (if (0 ≤ (xs (w32 (i + 1))) ∧ (xs (w32 (i + 1))) < mF (upA B_1 43 (w32 0) (w32 (cntP (B_1 20) (Int.toNat (p2 (A 2 3) * p2 (A 2 3)))))) 0) ∧ 0 ≤ (xs (w32 (i + 2))) ∧ (xs (w32 (i + 2))) < mF (upA B_1 43 (w32 0) (w32 (cntP (B_1 20) (Int.toNat (p2 (A 2 3) * p2 (A 2 3)))))) 0 then cntQ (prK (mF (upA B_1 43 (w32 0) (w32 (cntP (B_1 20) (Int.toNat (p2 (A 2 3) * p2 (A 2 3))))))) (xs (w32 (i + 1))) (xs (w32 (i + 2)))) (Int.toNat (p2 (mF (upA B_1 43 (w32 0) (w32 (cntP (B_1 20) (Int.toNat (p2 (A 2 3) * p2 (A 2 3)))))) 3) * p2 (mF (upA B_1 43 (w32 0) (w32 (cntP (B_1 20) (Int.toNat (p2 (A 2 3) * p2 (A 2 3)))))) 3))) else 0))) = w32 0) → (((0 : Int) = 0 ∨ (0 : Int) = 1) ∧ (lawK (some (some (vI 0))) G_2 B_2)))))) ∧ (¬ w32 0 = w32 0 → _))) ∧ (¬ w32 (G_2 25 0) = w32 0 → (((0 : Int) = 0 ∨ (0 : Int) = 1) ∧ (lawK (some (some (vI 0))) G_2 B_2)))))))))) ∧ (¬ ((0 ≤ (xs (w32 (i + 1))) ∧ (xs (w32 (i + 1))) < A 2 0) ∧ 0 ≤ (xs (w32 (i + 2))) ∧ (xs (w32 (i + 2))) < A 2 0) → ((0 ≤ w32 (i + 1) ∧ w32 (i + 1) < Ls) ∧ ((0 ≤ w32 (i + 2) ∧ w32 (i + 2) < Ls) ∧ ((fgOK (mF A) ∧ (-2147483648 ≤ (xs (w32 (i + 1))) ∧ (xs (w32 (i + 1))) < 2147483648) ∧ (-2147483648 ≤ (xs (w32 (i + 2))) ∧ (xs (w32 (i + 2))) < 2147483648)) ∧ (∀ (G_1 : FF) (B_1 : AA), (qdP F G_1 A B_1 ∧ G_1 25 0 = (if (0 ≤ (xs (w32 (i + 1))) ∧ (xs (w32 (i + 1))) < mF A 0) ∧ 0 ≤ (xs (w32 (i + 2))) ∧ (xs (w32 (i + 2))) < mF A 0 then 0 else 1)) → ((w32 (G_1 25 0) = w32 1 → ((w32 1 = w32 0 → _) ∧ (¬ w32 1 = w32 0 → ((999 : Nat) = 999 ∧ (0 : Nat) = 0 ∧ (25 : Nat) = 25 ∧ (43 : Nat) = 43 ∧ i + 6 = i + 6 ∧ REL G_1 B_1 ∧ (2 : Nat) ≤ 2)))) ∧ (¬ w32 (G_1 25 0) = w32 1 → (((0 : Int) = 0 ∨ (0 : Int) = 1) ∧ (lawK (some (some (vI 0))) G_1 B_1))))))))))))
  refine ⟨by exact hb 1 (by decide) (by decide), ?_⟩
  refine ⟨by exact hb 2 (by decide) (by decide), ?_⟩
  refine ⟨by exact ⟨rel_f hR, hx _, hx _, (hR).2.2.2.2.1.1, (hR).2.2.2.2.1.2⟩, ?_⟩
  refine ⟨fun c1 => ?_, fun c1 => ?_⟩
  · skip
    skip
    intro G_1 B_1 g1
    have hR1 : ∀ v, REL G_1 (upA B_1 43 (w32 0) v) := fun v => rel_up (rel_qr hR g1.1)
    have em : ∀ v, mF (upA B_1 43 (w32 0) v) = A 2 := fun v => (hR1 v).1.1.symm.trans ((upA_r (by decide)).trans (funext fun i => (g1.1).2.1 2 i (by decide)))
    refine ⟨by exact hb 1 (by decide) (by decide), ?_⟩
    refine ⟨by exact hb 2 (by decide) (by decide), ?_⟩
    refine ⟨by exact ⟨rel_m (hR1 _), hx _, hx _⟩, ?_⟩
    intro G_2 B_2 g2
    have hR2 := rel_qd (hR1 _) g2.1
    have t2 : G_2 25 0 = 0 := by
      have w := g2.2
      rw [em] at w
      exact w.trans (if_pos c1)
    have v2 := (g2.1.2 43 (w32 0) (by decide)).trans upA_s
    refine ⟨fun c2 => ?_, fun c2 => ?_⟩
    · skip
      skip
      refine ⟨fun _ => ?_, fun q => absurd (by decide) q⟩
      refine ⟨by decide, ?_⟩
      refine ⟨fun c3 => ?_, fun c3 => ?_⟩
      · skip
        skip
        exact ⟨rfl, rfl, rfl, rfl, rfl, hR2, by decide⟩
      · skip
        skip
        refine ⟨by decide, ?_⟩
        exact absurd (law_e v2 (by rw [em, if_pos c1]; exact pc_eq (rel_f hR) c1.1.1 c1.1.2 c1.2.1 c1.2.2 hR.2.2.2.2.1.1 g1)) c3
    · skip
      skip
      refine ⟨by decide, ?_⟩
      exact absurd (by rw [t2]) c2
  · skip
    skip
    refine ⟨by exact hb 1 (by decide) (by decide), ?_⟩
    refine ⟨by exact hb 2 (by decide) (by decide), ?_⟩
    refine ⟨by exact ⟨rel_m hR, hx _, hx _⟩, ?_⟩
    intro G_1 B_1 g1
    have hR2 := rel_qd hR g1.1
    have t2 : G_1 25 0 = 1 := by
      have w := g1.2
      rw [e0] at w
      exact w.trans (if_neg c1)
    refine ⟨fun c2 => ?_, fun c2 => ?_⟩
    · skip
      skip
      refine ⟨fun q => absurd q (by decide), fun _ => ?_⟩
      exact ⟨rfl, rfl, rfl, rfl, rfl, hR2, by decide⟩
    · skip
      skip
      refine ⟨by decide, ?_⟩
      exact absurd (by rw [t2]) c2
def qkL_38 : Nat → Option CI := fun pc => cond (Nat.ble 3593 pc) none (cond (Nat.ble 2628 pc) (cond (Nat.ble 2651 pc) (cond (Nat.ble 2662 pc) (cond (Nat.ble 2668 pc) (cond (Nat.ble 3589 pc) (cond (Nat.beq pc 3589) (some (.iinc 4 6, 3592, [])) (cond (Nat.beq pc 3592) (some (.goto (-3569), 3595, [23])) (none))) (cond (Nat.beq pc 2668) (some (.ireturn, 2669, [])) (cond (Nat.beq pc 2669) (some (.goto 920, 2672, [3589])) (none)))) (cond (Nat.ble 2664 pc) (cond (Nat.beq pc 2664) (some (.ifCond .eq 5, 2667, [2669])) (cond (Nat.beq pc 2667) (some (.iconst 0, 2668, [])) (none))) (cond (Nat.beq pc 2662) (some (.i2l, 2663, [])) (cond (Nat.beq pc 2663) (some (.lcmp, 2664, [])) (none))))) (cond (Nat.ble 2657 pc) (cond (Nat.ble 2659 pc) (cond (Nat.beq pc 2659) (some (.laload, 2660, [])) (cond (Nat.beq pc 2660) (some (.iload 6, 2662, [])) (none))) (cond (Nat.beq pc 2657) (some (.aload_n 3, 2658, [])) (cond (Nat.beq pc 2658) (some (.iconst 0, 2659, [])) (none)))) (cond (Nat.beq pc 2651) (some (.ireturn, 2652, [])) (cond (Nat.beq pc 2652) (some (.iload 5, 2654, [])) (cond (Nat.beq pc 2654) (some (.ifCond .ne 15, 2657, [2669])) (none)))))) (cond (Nat.ble 2636 pc) (cond (Nat.ble 2642 pc) (cond (Nat.ble 2647 pc) (cond (Nat.beq pc 2647) (some (.if_icmp .eq 5, 2650, [2652])) (cond (Nat.beq pc 2650) (some (.iconst 0, 2651, [])) (none))) (cond (Nat.beq pc 2642) (some (.invokevirtual 175, 2645, [])) (cond (Nat.beq pc 2645) (some (.iload 5, 2647, [])) (none)))) (cond (Nat.beq pc 2636) (some (.invokevirtual 269, 2639, [])) (cond (Nat.beq pc 2639) (some (.istore 6, 2641, [])) (cond (Nat.beq pc 2641) (some (.aload_n 2, 2642, [])) (none))))) (cond (Nat.ble 2631 pc) (cond (Nat.ble 2634 pc) (cond (Nat.beq pc 2634) (some (.iadd, 2635, [])) (cond (Nat.beq pc 2635) (some (.iaload, 2636, [])) (none))) (cond (Nat.beq pc 2631) (some (.iload 4, 2633, [])) (cond (Nat.beq pc 2633) (some (.iconst 3, 2634, [])) (none)))) (cond (Nat.beq pc 2628) (some (.iadd, 2629, [])) (cond (Nat.beq pc 2629) (some (.iaload, 2630, [])) (cond (Nat.beq pc 2630) (some (.aload_n 0, 2631, [])) (none))))))) (cond (Nat.ble 2609 pc) (cond (Nat.ble 2619 pc) (cond (Nat.ble 2623 pc) (cond (Nat.ble 2625 pc) (cond (Nat.beq pc 2625) (some (.iload 4, 2627, [])) (cond (Nat.beq pc 2627) (some (.iconst 2, 2628, [])) (none))) (cond (Nat.beq pc 2623) (some (.iaload, 2624, [])) (cond (Nat.beq pc 2624) (some (.aload_n 0, 2625, [])) (none)))) (cond (Nat.beq pc 2619) (some (.iload 4, 2621, [])) (cond (Nat.beq pc 2621) (some (.iconst 1, 2622, [])) (cond (Nat.beq pc 2622) (some (.iadd, 2623, [])) (none))))) (cond (Nat.ble 2612 pc) (cond (Nat.ble 2617 pc) (cond (Nat.beq pc 2617) (some (.aload_n 2, 2618, [])) (cond (Nat.beq pc 2618) (some (.aload_n 0, 2619, [])) (none))) (cond (Nat.beq pc 2612) (some (.invokestatic 267, 2615, [])) (cond (Nat.beq pc 2615) (some (.istore 5, 2617, [])) (none)))) (cond (Nat.beq pc 2609) (some (.iadd, 2610, [])) (cond (Nat.beq pc 2610) (some (.iaload, 2611, [])) (cond (Nat.beq pc 2611) (some (.aload_n 3, 2612, [])) (none)))))) (cond (Nat.ble 2600 pc) (cond (Nat.ble 2604 pc) (cond (Nat.ble 2606 pc) (cond (Nat.beq pc 2606) (some (.iload 4, 2608, [])) (cond (Nat.beq pc 2608) (some (.iconst 3, 2609, [])) (none))) (cond (Nat.beq pc 2604) (some (.iaload, 2605, [])) (cond (Nat.beq pc 2605) (some (.aload_n 0, 2606, [])) (none)))) (cond (Nat.beq pc 2600) (some (.iload 4, 2602, [])) (cond (Nat.beq pc 2602) (some (.iconst 2, 2603, [])) (cond (Nat.beq pc 2603) (some (.iadd, 2604, [])) (none))))) (cond (Nat.ble 2596 pc) (cond (Nat.ble 2598 pc) (cond (Nat.beq pc 2598) (some (.iaload, 2599, [])) (cond (Nat.beq pc 2599) (some (.aload_n 0, 2600, [])) (none))) (cond (Nat.beq pc 2596) (some (.iconst 1, 2597, [])) (cond (Nat.beq pc 2597) (some (.iadd, 2598, [])) (none)))) (cond (Nat.beq pc 2592) (some (.aload_n 1, 2593, [])) (cond (Nat.beq pc 2593) (some (.aload_n 0, 2594, [])) (cond (Nat.beq pc 2594) (some (.iload 4, 2596, [])) (none))))))))
theorem qkL_38_ok : ∀ pc i nx ts, qkL_38 pc = some (i, nx, ts) → am_cok cL_law pc (i, nx, ts) = true := fun pc i nx ts h => am_tok_ok (n := 3593) (by decide +kernel) (fun pc h => by show cond (Nat.ble 3593 pc) _ _ = _; rw [Nat.ble_eq_true_of_le h]; rfl) h
def qaL_38 : Nat → Option CE := fun k => cond (Nat.beq k 267) (some qeL_pair) (cond (Nat.beq k 269) (some qeX9_pair) (cond (Nat.beq k 175) (some qeX9_thrown) (none)))
theorem qyL_38 (l : Launch) (hst : l.stackTraces = false) : ∀ k e1, qaL_38 k = some e1 → am_cal l layL RL 40 k e1 ∧ True := q_cons ⟨am_calS (qtL_pair l hst) qbL_pair (by decide) rfl (by decide) (am_tb_at 1278 (by decide +kernel) rfl), trivial⟩ (q_cons ⟨am_calV (ci := 9) (am_CT_mono layM_L (qtX9_pair l)) qbX9_pair (by decide) rfl (am_tb_at 1968 (by decide +kernel) rfl), trivial⟩ (q_cons ⟨am_calV (ci := 9) (am_CT_mono layM_L (qtX9_thrown l)) qbX9_thrown (by decide) rfl (am_tb_at 1481 (by decide +kernel) rfl), trivial⟩ (q_nil)))
def qxL_38 (Ls : Int) (xs : Int → Int) : CX := (qkL_38, layL, qfL, qaL_38, qcL, qlL, qmL, some .boolean, false, none, 2, some (Ls, xs), fun _ => none)
theorem qzL_38 (l : Launch) (hst : l.stackTraces = false) (Ls : Int) (xs : Int → Int) : am_sta l (qxL_38 Ls xs) RL 40 cL_law := ⟨qkL_38_ok, layL_ok, qfL_ok, qcL_ok, qlL_ok, am_mthP qmL_ok (by decide), fun k e1 h => (qyL_38 l hst k e1 h).1⟩
set_option maxRecDepth 20000 in
theorem qvL_38 (Ls : Int) (xs : Int → Int) (F : FF) (A : AA) (i : Int) (hx : ∀ j, -2147483648 ≤ xs j ∧ xs j < 2147483648) (hL : Ls ≤ 3072) (i0 : 0 ≤ i) (i1 : i + 6 ≤ Ls) (hR : REL F A) : am_stp (qxL_38 Ls xs) (am_run (qxL_38 Ls xs) lawC (lawI i) lawK 56) lawK 2592 [some (vR 999), some (vR 0), some (vR 25), some (vR 43), some (vI i), none, none, none] [] F A 0 := by
  have hb : ∀ k : Int, 0 ≤ k → k ≤ 5 → 0 ≤ w32 (i + k) ∧ w32 (i + k) < Ls := fun k k0 k1 => by rw [w32_id (by omega) (by omega)]; omega
  have e0 : mF A = A 2 := hR.1.1.symm
  show (0 ≤ w32 (i + 1) ∧ w32 (i + 1) < Ls) ∧ ((0 ≤ w32 (i + 2) ∧ w32 (i + 2) < Ls) ∧ ((0 ≤ w32 (i + 3) ∧ w32 (i + 3) < Ls) ∧ ((fgOK (A 2) ∧ (-2147483648 ≤ (xs (w32 (i + 1))) ∧ (xs (w32 (i + 1))) < 2147483648) ∧ (-2147483648 ≤ (xs (w32 (i + 2))) ∧ (xs (w32 (i + 2))) < 2147483648) ∧ (-2147483648 ≤ (xs (w32 (i + 3))) ∧ (xs (w32 (i + 3))) < 2147483648) ∧ caAll A ∧ (∀ jj, -2 ≤ A 20 jj ∧ A 20 jj < 5000)) ∧ (((0 ≤ (xs (w32 (i + 1))) ∧ (xs (w32 (i + 1))) < A 2 0) ∧ 0 ≤ (xs (w32 (i + 2))) ∧ (xs (w32 (i + 2))) < A 2 0 → (∀ (G_1 : FF) (B_1 : AA), (mkP F G_1 A B_1 (xs (w32 (i + 1))) (xs (w32 (i + 2))) (A 2 3)) → ((0 ≤ w32 (i + 1) ∧ w32 (i + 1) < Ls) ∧ ((0 ≤ w32 (i + 2) ∧ w32 (i + 2) < Ls) ∧ ((0 ≤ w32 (i + 3) ∧ w32 (i + 3) < Ls) ∧ ((fgOK (mF (upA B_1 43 (w32 0) (w32 (pkR (B_1 20) (p2 (A 2 3)) (xs (w32 (i + 3))))))) ∧ (-2147483648 ≤ (xs (w32 (i + 1))) ∧ (xs (w32 (i + 1))) < 2147483648) ∧ (-2147483648 ≤ (xs (w32 (i + 2))) ∧ (xs (w32 (i + 2))) < 2147483648) ∧ (-2147483648 ≤ (xs (w32 (i + 3))) ∧ (xs (w32 (i + 3))) < 2147483648)) ∧ (∀ (G_2 : FF) (B_2 : AA), (qdP G_1 G_2 (upA B_1 43 (w32 0) (w32 (pkR (B_1 20) (p2 (A 2 3)) (xs (w32 (i + 3)))))) B_2 ∧ G_2 25 0 = (if (0 ≤ (xs (w32 (i + 1))) ∧ (xs (w32 (i + 1))) < mF (upA B_1 43 (w32 0) (w32 (pkR (B_1 20) (p2 (A 2 3)) (xs (w32 (i + 3)))))) 0) ∧ 0 ≤ (xs (w32 (i + 2))) ∧ (xs (w32 (i + 2))) < mF (upA B_1 43 (w32 0) (w32 (pkR (B_1 20) (p2 (A 2 3)) (xs (w32 (i + 3)))))) 0 then 0 else 1)) → ((w32 (G_2 25 0) = w32 0 → ((w32 0 = w32 0 → ((0 ≤ w32 0 ∧ w32 0 < 1) ∧ ((w32 (y_cmp (B_2 43 (w32 0)) (w32 (if (0 ≤ (xs (w32 (i + 1))) ∧ (xs (w32 (i + 1))) < mF (upA B_1 43 (w32 0) (w32 (pkR (B_1 20) (p2 (A 2 3)) (xs (w32 (i + 3)))))) 0) ∧ 0 ≤ (xs (w32 (i + 2))) ∧ (xs (w32 (i + 2))) < mF (upA B_1 43 (w32 0) (w32 (pkR (B_1 20) (p2 (A 2 3)) (xs (w32 (i + 3)))))) 0 then pkX (mF (upA B_1 43 (w32 0) (w32 (pkR (B_1 20) (p2 (A 2 3)) (xs (w32 (i + 3))))))) (xs (w32 (i + 1))) (xs (w32 (i + 2))) (xs (w32 (i + 3))) else 0))) = w32 0 → ((999 : Nat) = 999 ∧ (0 : Nat) = 0 ∧ (25 : Nat) = 25 ∧ (43 : Nat) = 43 ∧ i + 6 = i + 6 ∧ REL G_2 B_2 ∧ (2 : Nat) ≤ 2)) ∧ (¬ (w32 (y_cmp (B_2 43 (w32 0)) (w32 (if (0 ≤ (xs (w32 (i + 1))) ∧ (xs (w32 (i + 1))) < mF (upA B_1 43 (w32 0) (w32 (pkR (B_1 20) (p2 (A 2 3)) (xs (w32 (i + 3)))))) 0) ∧ 0 ≤ (xs (w32 (i + 2))) ∧ (xs (w32 (i + 2))) < mF (upA B_1 43 (w32 0) (w32 (pkR (B_1 20) (p2 (A 2 3)) (xs (w32 (i + 3)))))) 0 then pkX (mF (upA B_1 43 (w32 0) (w32 (pkR (B_1 20) (p2 (A 2 3)) (xs (w32 (i + 3))))))) (xs (w32 (i + 1))) (xs (w32 (i + 2))) (xs (w32 (i + 3))) else 0))) = w32 0) → (((0 : Int) = 0 ∨ (0 : Int) = 1) ∧ (lawK (some (some (vI 0))) G_2 B_2)))))) ∧ (¬ w32 0 = w32 0 → _))) ∧ (¬ w32 (G_2 25 0) = w32 0 → (((0 : Int) = 0 ∨ (0 : Int) = 1) ∧ (lawK (some (some (vI 0))) G_2 B_2))))))))))) ∧ (¬ ((0 ≤ (xs (w32 (i + 1))) ∧ (xs (w32 (i + 1))) < A 2 0) ∧ 0 ≤ (xs (w32 (i + 2))) ∧ (xs (w32 (i + 2))) < A 2 0) → ((0 ≤ w32 (i + 1) ∧ w32 (i + 1) < Ls) ∧ ((0 ≤ w32 (i + 2) ∧ w32 (i + 2) < Ls) ∧ ((0 ≤ w32 (i + 3) ∧ w32 (i + 3) < Ls) ∧ ((fgOK (mF A) ∧ (-2147483648 ≤ (xs (w32 (i + 1))) ∧ (xs (w32 (i + 1))) < 2147483648) ∧ (-2147483648 ≤ (xs (w32 (i + 2))) ∧ (xs (w32 (i + 2))) < 2147483648) ∧ (-2147483648 ≤ (xs (w32 (i + 3))) ∧ (xs (w32 (i + 3))) < 2147483648)) ∧ (∀ (G_1 : FF) (B_1 : AA), (qdP F G_1 A B_1 ∧ G_1 25 0 = (if (0 ≤ (xs (w32 (i + 1))) ∧ (xs (w32 (i + 1))) < mF A 0) ∧ 0 ≤ (xs (w32 (i + 2))) ∧ (xs (w32 (i + 2))) < mF A 0 then 0 else 1)) → ((w32 (G_1 25 0) = w32 1 → ((w32 1 = w32 0 → _) ∧ (¬ w32 1 = w32 0 → ((999 : Nat) = 999 ∧ (0 : Nat) = 0 ∧ (25 : Nat) = 25 ∧ (43 : Nat) = 43 ∧ i + 6 = i + 6 ∧ REL G_1 B_1 ∧ (2 : Nat) ≤ 2)))) ∧ (¬ w32 (G_1 25 0) = w32 1 → (((0 : Int) = 0 ∨ (0 : Int) = 1) ∧ (lawK (some (some (vI 0))) G_1 B_1))))))))))))))
  refine ⟨by exact hb 1 (by decide) (by decide), ?_⟩
  refine ⟨by exact hb 2 (by decide) (by decide), ?_⟩
  refine ⟨by exact hb 3 (by decide) (by decide), ?_⟩
  refine ⟨by exact ⟨rel_f hR, hx _, hx _, hx _, (hR).2.2.2.2.1.1, (hR).2.2.2.2.1.2⟩, ?_⟩
  refine ⟨fun c1 => ?_, fun c1 => ?_⟩
  · skip
    skip
    intro G_1 B_1 g1
    have hR1 : ∀ v, REL G_1 (upA B_1 43 (w32 0) v) := fun v => rel_up (rel_qr hR g1.1)
    have em : ∀ v, mF (upA B_1 43 (w32 0) v) = A 2 := fun v => (hR1 v).1.1.symm.trans ((upA_r (by decide)).trans (funext fun i => (g1.1).2.1 2 i (by decide)))
    refine ⟨by exact hb 1 (by decide) (by decide), ?_⟩
    refine ⟨by exact hb 2 (by decide) (by decide), ?_⟩
    refine ⟨by exact hb 3 (by decide) (by decide), ?_⟩
    refine ⟨by exact ⟨rel_m (hR1 _), hx _, hx _, hx _⟩, ?_⟩
    intro G_2 B_2 g2
    have hR2 := rel_qd (hR1 _) g2.1
    have t2 : G_2 25 0 = 0 := by
      have w := g2.2
      rw [em] at w
      exact w.trans (if_pos c1)
    have v2 := (g2.1.2 43 (w32 0) (by decide)).trans upA_s
    refine ⟨fun c2 => ?_, fun c2 => ?_⟩
    · skip
      skip
      refine ⟨fun _ => ?_, fun q => absurd (by decide) q⟩
      refine ⟨by decide, ?_⟩
      refine ⟨fun c3 => ?_, fun c3 => ?_⟩
      · skip
        skip
        exact ⟨rfl, rfl, rfl, rfl, rfl, hR2, by decide⟩
      · skip
        skip
        refine ⟨by decide, ?_⟩
        exact absurd (law_e v2 (by rw [em, if_pos c1]; exact pr_pk (rel_f hR) c1.1.1 c1.1.2 c1.2.1 c1.2.2 hR.2.2.2.2.1.1 g1)) c3
    · skip
      skip
      refine ⟨by decide, ?_⟩
      exact absurd (by rw [t2]) c2
  · skip
    skip
    refine ⟨by exact hb 1 (by decide) (by decide), ?_⟩
    refine ⟨by exact hb 2 (by decide) (by decide), ?_⟩
    refine ⟨by exact hb 3 (by decide) (by decide), ?_⟩
    refine ⟨by exact ⟨rel_m hR, hx _, hx _, hx _⟩, ?_⟩
    intro G_1 B_1 g1
    have hR2 := rel_qd hR g1.1
    have t2 : G_1 25 0 = 1 := by
      have w := g1.2
      rw [e0] at w
      exact w.trans (if_neg c1)
    refine ⟨fun c2 => ?_, fun c2 => ?_⟩
    · skip
      skip
      refine ⟨fun q => absurd q (by decide), fun _ => ?_⟩
      exact ⟨rfl, rfl, rfl, rfl, rfl, hR2, by decide⟩
    · skip
      skip
      refine ⟨by decide, ?_⟩
      exact absurd (by rw [t2]) c2
def qkL_39 : Nat → Option CI := fun pc => cond (Nat.ble 3593 pc) none (cond (Nat.ble 2702 pc) (cond (Nat.ble 2725 pc) (cond (Nat.ble 2732 pc) (cond (Nat.ble 2737 pc) (cond (Nat.beq pc 2737) (some (.goto 852, 2740, [3589])) (cond (Nat.beq pc 3589) (some (.iinc 4 6, 3592, [])) (cond (Nat.beq pc 3592) (some (.goto (-3569), 3595, [23])) (none)))) (cond (Nat.beq pc 2732) (some (.ifCond .eq 5, 2735, [2737])) (cond (Nat.beq pc 2735) (some (.iconst 0, 2736, [])) (cond (Nat.beq pc 2736) (some (.ireturn, 2737, [])) (none))))) (cond (Nat.ble 2728 pc) (cond (Nat.beq pc 2728) (some (.iload 6, 2730, [])) (cond (Nat.beq pc 2730) (some (.i2l, 2731, [])) (cond (Nat.beq pc 2731) (some (.lcmp, 2732, [])) (none)))) (cond (Nat.beq pc 2725) (some (.aload_n 3, 2726, [])) (cond (Nat.beq pc 2726) (some (.iconst 0, 2727, [])) (cond (Nat.beq pc 2727) (some (.laload, 2728, [])) (none)))))) (cond (Nat.ble 2713 pc) (cond (Nat.ble 2719 pc) (cond (Nat.beq pc 2719) (some (.ireturn, 2720, [])) (cond (Nat.beq pc 2720) (some (.iload 5, 2722, [])) (cond (Nat.beq pc 2722) (some (.ifCond .ne 15, 2725, [2737])) (none)))) (cond (Nat.beq pc 2713) (some (.iload 5, 2715, [])) (cond (Nat.beq pc 2715) (some (.if_icmp .eq 5, 2718, [2720])) (cond (Nat.beq pc 2718) (some (.iconst 0, 2719, [])) (none))))) (cond (Nat.ble 2707 pc) (cond (Nat.beq pc 2707) (some (.istore 6, 2709, [])) (cond (Nat.beq pc 2709) (some (.aload_n 2, 2710, [])) (cond (Nat.beq pc 2710) (some (.invokevirtual 175, 2713, [])) (none)))) (cond (Nat.beq pc 2702) (some (.iadd, 2703, [])) (cond (Nat.beq pc 2703) (some (.iaload, 2704, [])) (cond (Nat.beq pc 2704) (some (.invokevirtual 272, 2707, [])) (none))))))) (cond (Nat.ble 2685 pc) (cond (Nat.ble 2695 pc) (cond (Nat.ble 2698 pc) (cond (Nat.beq pc 2698) (some (.aload_n 0, 2699, [])) (cond (Nat.beq pc 2699) (some (.iload 4, 2701, [])) (cond (Nat.beq pc 2701) (some (.iconst 2, 2702, [])) (none)))) (cond (Nat.beq pc 2695) (some (.iconst 1, 2696, [])) (cond (Nat.beq pc 2696) (some (.iadd, 2697, [])) (cond (Nat.beq pc 2697) (some (.iaload, 2698, [])) (none))))) (cond (Nat.ble 2691 pc) (cond (Nat.beq pc 2691) (some (.aload_n 2, 2692, [])) (cond (Nat.beq pc 2692) (some (.aload_n 0, 2693, [])) (cond (Nat.beq pc 2693) (some (.iload 4, 2695, [])) (none)))) (cond (Nat.beq pc 2685) (some (.aload_n 3, 2686, [])) (cond (Nat.beq pc 2686) (some (.invokestatic 270, 2689, [])) (cond (Nat.beq pc 2689) (some (.istore 5, 2691, [])) (none)))))) (cond (Nat.ble 2678 pc) (cond (Nat.ble 2682 pc) (cond (Nat.beq pc 2682) (some (.iconst 2, 2683, [])) (cond (Nat.beq pc 2683) (some (.iadd, 2684, [])) (cond (Nat.beq pc 2684) (some (.iaload, 2685, [])) (none)))) (cond (Nat.beq pc 2678) (some (.iaload, 2679, [])) (cond (Nat.beq pc 2679) (some (.aload_n 0, 2680, [])) (cond (Nat.beq pc 2680) (some (.iload 4, 2682, [])) (none))))) (cond (Nat.ble 2674 pc) (cond (Nat.beq pc 2674) (some (.iload 4, 2676, [])) (cond (Nat.beq pc 2676) (some (.iconst 1, 2677, [])) (cond (Nat.beq pc 2677) (some (.iadd, 2678, [])) (none)))) (cond (Nat.beq pc 2672) (some (.aload_n 1, 2673, [])) (cond (Nat.beq pc 2673) (some (.aload_n 0, 2674, [])) (none)))))))
theorem qkL_39_ok : ∀ pc i nx ts, qkL_39 pc = some (i, nx, ts) → am_cok cL_law pc (i, nx, ts) = true := fun pc i nx ts h => am_tok_ok (n := 3593) (by decide +kernel) (fun pc h => by show cond (Nat.ble 3593 pc) _ _ = _; rw [Nat.ble_eq_true_of_le h]; rfl) h
def qaL_39 : Nat → Option CE := fun k => cond (Nat.beq k 270) (some qeL_meetingCount) (cond (Nat.beq k 272) (some qeX9_meetingCount) (cond (Nat.beq k 175) (some qeX9_thrown) (none)))
theorem qyL_39 (l : Launch) (hst : l.stackTraces = false) : ∀ k e1, qaL_39 k = some e1 → am_cal l layL RL 40 k e1 ∧ True := q_cons ⟨am_calS (qtL_meetingCount l hst) qbL_meetingCount (by decide) rfl (by decide) (am_tb_at 1289 (by decide +kernel) rfl), trivial⟩ (q_cons ⟨am_calV (ci := 9) (am_CT_mono layM_L (qtX9_meetingCount l)) qbX9_meetingCount (by decide) rfl (am_tb_at 1972 (by decide +kernel) rfl), trivial⟩ (q_cons ⟨am_calV (ci := 9) (am_CT_mono layM_L (qtX9_thrown l)) qbX9_thrown (by decide) rfl (am_tb_at 1481 (by decide +kernel) rfl), trivial⟩ (q_nil)))
def qxL_39 (Ls : Int) (xs : Int → Int) : CX := (qkL_39, layL, qfL, qaL_39, qcL, qlL, qmL, some .boolean, false, none, 2, some (Ls, xs), fun _ => none)
theorem qzL_39 (l : Launch) (hst : l.stackTraces = false) (Ls : Int) (xs : Int → Int) : am_sta l (qxL_39 Ls xs) RL 40 cL_law := ⟨qkL_39_ok, layL_ok, qfL_ok, qcL_ok, qlL_ok, am_mthP qmL_ok (by decide), fun k e1 h => (qyL_39 l hst k e1 h).1⟩
set_option maxRecDepth 20000 in
theorem qvL_39 (Ls : Int) (xs : Int → Int) (F : FF) (A : AA) (i : Int) (hx : ∀ j, -2147483648 ≤ xs j ∧ xs j < 2147483648) (hL : Ls ≤ 3072) (i0 : 0 ≤ i) (i1 : i + 6 ≤ Ls) (hR : REL F A) : am_stp (qxL_39 Ls xs) (am_run (qxL_39 Ls xs) lawC (lawI i) lawK 46) lawK 2672 [some (vR 999), some (vR 0), some (vR 25), some (vR 43), some (vI i), none, none, none] [] F A 0 := by
  have hb : ∀ k : Int, 0 ≤ k → k ≤ 5 → 0 ≤ w32 (i + k) ∧ w32 (i + k) < Ls := fun k k0 k1 => by rw [w32_id (by omega) (by omega)]; omega
  have e0 : mF A = A 2 := hR.1.1.symm
  show (0 ≤ w32 (i + 1) ∧ w32 (i + 1) < Ls) ∧ ((0 ≤ w32 (i + 2) ∧ w32 (i + 2) < Ls) ∧ ((fgOK (A 2) ∧ (-2147483648 ≤ (xs (w32 (i + 1))) ∧ (xs (w32 (i + 1))) < 2147483648) ∧ (-2147483648 ≤ (xs (w32 (i + 2))) ∧ (xs (w32 (i + 2))) < 2147483648) ∧ caAll A ∧ (∀ jj, -2 ≤ A 20 jj ∧ A 20 jj < 5000)) ∧ (((0 ≤ (xs (w32 (i + 1))) ∧ (xs (w32 (i + 1))) < A 2 0) ∧ 0 ≤ (xs (w32 (i + 2))) ∧ (xs (w32 (i + 2))) < A 2 0 → (∀ (H_1 : FF) (C_1 : AA) (G_1 : FF) (B_1 : AA), (gqP F G_1 H_1 A B_1 C_1 (xs (w32 (i + 1))) (xs (w32 (i + 2)))) → ((0 ≤ w32 (i + 1) ∧ w32 (i + 1) < Ls) ∧ ((0 ≤ w32 (i + 2) ∧ w32 (i + 2) < Ls) ∧ ((fgOK (mF (upA B_1 43 (w32 0) (w32 (gqN H_1 C_1 (A 2 3))))) ∧ (-2147483648 ≤ (xs (w32 (i + 1))) ∧ (xs (w32 (i + 1))) < 2147483648) ∧ (-2147483648 ≤ (xs (w32 (i + 2))) ∧ (xs (w32 (i + 2))) < 2147483648)) ∧ (∀ (G_2 : FF) (B_2 : AA), (qdP G_1 G_2 (upA B_1 43 (w32 0) (w32 (gqN H_1 C_1 (A 2 3)))) B_2 ∧ G_2 25 0 = (if (0 ≤ (xs (w32 (i + 1))) ∧ (xs (w32 (i + 1))) < mF (upA B_1 43 (w32 0) (w32 (gqN H_1 C_1 (A 2 3)))) 0) ∧ 0 ≤ (xs (w32 (i + 2))) ∧ (xs (w32 (i + 2))) < mF (upA B_1 43 (w32 0) (w32 (gqN H_1 C_1 (A 2 3)))) 0 then 0 else 1)) → ((w32 (G_2 25 0) = w32 0 → ((w32 0 = w32 0 → ((0 ≤ w32 0 ∧ w32 0 < 1) ∧ ((w32 (y_cmp (B_2 43 (w32 0)) (w32 (if (0 ≤ (xs (w32 (i + 1))) ∧ (xs (w32 (i + 1))) < mF (upA B_1 43 (w32 0) (w32 (gqN H_1 C_1 (A 2 3)))) 0) ∧ 0 ≤ (xs (w32 (i + 2))) ∧ (xs (w32 (i + 2))) < mF (upA B_1 43 (w32 0) (w32 (gqN H_1 C_1 (A 2 3)))) 0 then gnX (mF (upA B_1 43 (w32 0) (w32 (gqN H_1 C_1 (A 2 3))))) (xs (w32 (i + 1))) (xs (w32 (i + 2))) else 0))) = w32 0 → ((999 : Nat) = 999 ∧ (0 : Nat) = 0 ∧ (25 : Nat) = 25 ∧ (43 : Nat) = 43 ∧ i + 6 = i + 6 ∧ REL G_2 B_2 ∧ (2 : Nat) ≤ 2)) ∧ (¬ (w32 (y_cmp (B_2 43 (w32 0)) (w32 (if (0 ≤ (xs (w32 (i + 1))) ∧ (xs (w32 (i + 1))) < mF (upA B_1 43 (w32 0) (w32 (gqN H_1 C_1 (A 2 3)))) 0) ∧ 0 ≤ (xs (w32 (i + 2))) ∧ (xs (w32 (i + 2))) < mF (upA B_1 43 (w32 0) (w32 (gqN H_1 C_1 (A 2 3)))) 0 then gnX (mF (upA B_1 43 (w32 0) (w32 (gqN H_1 C_1 (A 2 3))))) (xs (w32 (i + 1))) (xs (w32 (i + 2))) else 0))) = w32 0) → (((0 : Int) = 0 ∨ (0 : Int) = 1) ∧ (lawK (some (some (vI 0))) G_2 B_2)))))) ∧ (¬ w32 0 = w32 0 → _))) ∧ (¬ w32 (G_2 25 0) = w32 0 → (((0 : Int) = 0 ∨ (0 : Int) = 1) ∧ (lawK (some (some (vI 0))) G_2 B_2)))))))))) ∧ (¬ ((0 ≤ (xs (w32 (i + 1))) ∧ (xs (w32 (i + 1))) < A 2 0) ∧ 0 ≤ (xs (w32 (i + 2))) ∧ (xs (w32 (i + 2))) < A 2 0) → ((0 ≤ w32 (i + 1) ∧ w32 (i + 1) < Ls) ∧ ((0 ≤ w32 (i + 2) ∧ w32 (i + 2) < Ls) ∧ ((fgOK (mF A) ∧ (-2147483648 ≤ (xs (w32 (i + 1))) ∧ (xs (w32 (i + 1))) < 2147483648) ∧ (-2147483648 ≤ (xs (w32 (i + 2))) ∧ (xs (w32 (i + 2))) < 2147483648)) ∧ (∀ (G_1 : FF) (B_1 : AA), (qdP F G_1 A B_1 ∧ G_1 25 0 = (if (0 ≤ (xs (w32 (i + 1))) ∧ (xs (w32 (i + 1))) < mF A 0) ∧ 0 ≤ (xs (w32 (i + 2))) ∧ (xs (w32 (i + 2))) < mF A 0 then 0 else 1)) → ((w32 (G_1 25 0) = w32 1 → ((w32 1 = w32 0 → _) ∧ (¬ w32 1 = w32 0 → ((999 : Nat) = 999 ∧ (0 : Nat) = 0 ∧ (25 : Nat) = 25 ∧ (43 : Nat) = 43 ∧ i + 6 = i + 6 ∧ REL G_1 B_1 ∧ (2 : Nat) ≤ 2)))) ∧ (¬ w32 (G_1 25 0) = w32 1 → (((0 : Int) = 0 ∨ (0 : Int) = 1) ∧ (lawK (some (some (vI 0))) G_1 B_1))))))))))))
  refine ⟨by exact hb 1 (by decide) (by decide), ?_⟩
  refine ⟨by exact hb 2 (by decide) (by decide), ?_⟩
  refine ⟨by exact ⟨rel_f hR, hx _, hx _, (hR).2.2.2.2.1.1, (hR).2.2.2.2.1.2⟩, ?_⟩
  refine ⟨fun c1 => ?_, fun c1 => ?_⟩
  · skip
    skip
    intro H_1 C_1 G_1 B_1 g1
    have hR1 : ∀ v, REL G_1 (upA B_1 43 (w32 0) v) := fun v => rel_up (rel_qr hR g1.1)
    have em : ∀ v, mF (upA B_1 43 (w32 0) v) = A 2 := fun v => (hR1 v).1.1.symm.trans ((upA_r (by decide)).trans (funext fun i => (g1.1).2.1 2 i (by decide)))
    refine ⟨by exact hb 1 (by decide) (by decide), ?_⟩
    refine ⟨by exact hb 2 (by decide) (by decide), ?_⟩
    refine ⟨by exact ⟨rel_m (hR1 _), hx _, hx _⟩, ?_⟩
    intro G_2 B_2 g2
    have hR2 := rel_qd (hR1 _) g2.1
    have t2 : G_2 25 0 = 0 := by
      have w := g2.2
      rw [em] at w
      exact w.trans (if_pos c1)
    have v2 := (g2.1.2 43 (w32 0) (by decide)).trans upA_s
    refine ⟨fun c2 => ?_, fun c2 => ?_⟩
    · skip
      skip
      refine ⟨fun _ => ?_, fun q => absurd (by decide) q⟩
      refine ⟨by decide, ?_⟩
      refine ⟨fun c3 => ?_, fun c3 => ?_⟩
      · skip
        skip
        exact ⟨rfl, rfl, rfl, rfl, rfl, hR2, by decide⟩
      · skip
        skip
        refine ⟨by decide, ?_⟩
        exact absurd (law_e v2 (by rw [em, if_pos c1]; exact le_mc (rel_f hR) hR.2.2.2.2.1.1 c1.1.1 c1.1.2 c1.2.1 c1.2.2 g1)) c3
    · skip
      skip
      refine ⟨by decide, ?_⟩
      exact absurd (by rw [t2]) c2
  · skip
    skip
    refine ⟨by exact hb 1 (by decide) (by decide), ?_⟩
    refine ⟨by exact hb 2 (by decide) (by decide), ?_⟩
    refine ⟨by exact ⟨rel_m hR, hx _, hx _⟩, ?_⟩
    intro G_1 B_1 g1
    have hR2 := rel_qd hR g1.1
    have t2 : G_1 25 0 = 1 := by
      have w := g1.2
      rw [e0] at w
      exact w.trans (if_neg c1)
    refine ⟨fun c2 => ?_, fun c2 => ?_⟩
    · skip
      skip
      refine ⟨fun q => absurd q (by decide), fun _ => ?_⟩
      exact ⟨rfl, rfl, rfl, rfl, rfl, hR2, by decide⟩
    · skip
      skip
      refine ⟨by decide, ?_⟩
      exact absurd (by rw [t2]) c2
def qkL_40 : Nat → Option CI := fun pc => cond (Nat.ble 3593 pc) none (cond (Nat.ble 2782 pc) (cond (Nat.ble 2807 pc) (cond (Nat.ble 2820 pc) (cond (Nat.ble 2827 pc) (cond (Nat.ble 2829 pc) (cond (Nat.beq pc 2829) (some (.goto 760, 2832, [3589])) (cond (Nat.beq pc 3589) (some (.iinc 4 6, 3592, [])) (cond (Nat.beq pc 3592) (some (.goto (-3569), 3595, [23])) (none)))) (cond (Nat.beq pc 2827) (some (.iconst 0, 2828, [])) (cond (Nat.beq pc 2828) (some (.ireturn, 2829, [])) (none)))) (cond (Nat.ble 2823 pc) (cond (Nat.beq pc 2823) (some (.lcmp, 2824, [])) (cond (Nat.beq pc 2824) (some (.ifCond .eq 5, 2827, [2829])) (none))) (cond (Nat.beq pc 2820) (some (.iload 6, 2822, [])) (cond (Nat.beq pc 2822) (some (.i2l, 2823, [])) (none))))) (cond (Nat.ble 2814 pc) (cond (Nat.ble 2818 pc) (cond (Nat.beq pc 2818) (some (.iconst 0, 2819, [])) (cond (Nat.beq pc 2819) (some (.laload, 2820, [])) (none))) (cond (Nat.beq pc 2814) (some (.ifCond .ne 15, 2817, [2829])) (cond (Nat.beq pc 2817) (some (.aload_n 3, 2818, [])) (none)))) (cond (Nat.ble 2811 pc) (cond (Nat.beq pc 2811) (some (.ireturn, 2812, [])) (cond (Nat.beq pc 2812) (some (.iload 5, 2814, [])) (none))) (cond (Nat.beq pc 2807) (some (.if_icmp .eq 5, 2810, [2812])) (cond (Nat.beq pc 2810) (some (.iconst 0, 2811, [])) (none)))))) (cond (Nat.ble 2791 pc) (cond (Nat.ble 2796 pc) (cond (Nat.ble 2801 pc) (cond (Nat.beq pc 2801) (some (.aload_n 2, 2802, [])) (cond (Nat.beq pc 2802) (some (.invokevirtual 175, 2805, [])) (cond (Nat.beq pc 2805) (some (.iload 5, 2807, [])) (none)))) (cond (Nat.beq pc 2796) (some (.invokevirtual 275, 2799, [])) (cond (Nat.beq pc 2799) (some (.istore 6, 2801, [])) (none)))) (cond (Nat.ble 2794 pc) (cond (Nat.beq pc 2794) (some (.iadd, 2795, [])) (cond (Nat.beq pc 2795) (some (.iaload, 2796, [])) (none))) (cond (Nat.beq pc 2791) (some (.iload 4, 2793, [])) (cond (Nat.beq pc 2793) (some (.iconst 4, 2794, [])) (none))))) (cond (Nat.ble 2787 pc) (cond (Nat.ble 2789 pc) (cond (Nat.beq pc 2789) (some (.iaload, 2790, [])) (cond (Nat.beq pc 2790) (some (.aload_n 0, 2791, [])) (none))) (cond (Nat.beq pc 2787) (some (.iconst 3, 2788, [])) (cond (Nat.beq pc 2788) (some (.iadd, 2789, [])) (none)))) (cond (Nat.ble 2784 pc) (cond (Nat.beq pc 2784) (some (.aload_n 0, 2785, [])) (cond (Nat.beq pc 2785) (some (.iload 4, 2787, [])) (none))) (cond (Nat.beq pc 2782) (some (.iadd, 2783, [])) (cond (Nat.beq pc 2783) (some (.iaload, 2784, [])) (none))))))) (cond (Nat.ble 2759 pc) (cond (Nat.ble 2771 pc) (cond (Nat.ble 2776 pc) (cond (Nat.ble 2778 pc) (cond (Nat.beq pc 2778) (some (.aload_n 0, 2779, [])) (cond (Nat.beq pc 2779) (some (.iload 4, 2781, [])) (cond (Nat.beq pc 2781) (some (.iconst 2, 2782, [])) (none)))) (cond (Nat.beq pc 2776) (some (.iadd, 2777, [])) (cond (Nat.beq pc 2777) (some (.iaload, 2778, [])) (none)))) (cond (Nat.ble 2773 pc) (cond (Nat.beq pc 2773) (some (.iload 4, 2775, [])) (cond (Nat.beq pc 2775) (some (.iconst 1, 2776, [])) (none))) (cond (Nat.beq pc 2771) (some (.aload_n 2, 2772, [])) (cond (Nat.beq pc 2772) (some (.aload_n 0, 2773, [])) (none))))) (cond (Nat.ble 2764 pc) (cond (Nat.ble 2766 pc) (cond (Nat.beq pc 2766) (some (.invokestatic 273, 2769, [])) (cond (Nat.beq pc 2769) (some (.istore 5, 2771, [])) (none))) (cond (Nat.beq pc 2764) (some (.iaload, 2765, [])) (cond (Nat.beq pc 2765) (some (.aload_n 3, 2766, [])) (none)))) (cond (Nat.ble 2762 pc) (cond (Nat.beq pc 2762) (some (.iconst 4, 2763, [])) (cond (Nat.beq pc 2763) (some (.iadd, 2764, [])) (none))) (cond (Nat.beq pc 2759) (some (.aload_n 0, 2760, [])) (cond (Nat.beq pc 2760) (some (.iload 4, 2762, [])) (none)))))) (cond (Nat.ble 2750 pc) (cond (Nat.ble 2754 pc) (cond (Nat.ble 2757 pc) (cond (Nat.beq pc 2757) (some (.iadd, 2758, [])) (cond (Nat.beq pc 2758) (some (.iaload, 2759, [])) (none))) (cond (Nat.beq pc 2754) (some (.iload 4, 2756, [])) (cond (Nat.beq pc 2756) (some (.iconst 3, 2757, [])) (none)))) (cond (Nat.ble 2752 pc) (cond (Nat.beq pc 2752) (some (.iaload, 2753, [])) (cond (Nat.beq pc 2753) (some (.aload_n 0, 2754, [])) (none))) (cond (Nat.beq pc 2750) (some (.iconst 2, 2751, [])) (cond (Nat.beq pc 2751) (some (.iadd, 2752, [])) (none))))) (cond (Nat.ble 2745 pc) (cond (Nat.ble 2747 pc) (cond (Nat.beq pc 2747) (some (.aload_n 0, 2748, [])) (cond (Nat.beq pc 2748) (some (.iload 4, 2750, [])) (none))) (cond (Nat.beq pc 2745) (some (.iadd, 2746, [])) (cond (Nat.beq pc 2746) (some (.iaload, 2747, [])) (none)))) (cond (Nat.ble 2742 pc) (cond (Nat.beq pc 2742) (some (.iload 4, 2744, [])) (cond (Nat.beq pc 2744) (some (.iconst 1, 2745, [])) (none))) (cond (Nat.beq pc 2740) (some (.aload_n 1, 2741, [])) (cond (Nat.beq pc 2741) (some (.aload_n 0, 2742, [])) (none))))))))
theorem qkL_40_ok : ∀ pc i nx ts, qkL_40 pc = some (i, nx, ts) → am_cok cL_law pc (i, nx, ts) = true := fun pc i nx ts h => am_tok_ok (n := 3593) (by decide +kernel) (fun pc h => by show cond (Nat.ble 3593 pc) _ _ = _; rw [Nat.ble_eq_true_of_le h]; rfl) h
def qaL_40 : Nat → Option CE := fun k => cond (Nat.beq k 273) (some qeL_meetingOf) (cond (Nat.beq k 275) (some qeX9_meetingOf) (cond (Nat.beq k 175) (some qeX9_thrown) (none)))
theorem qyL_40 (l : Launch) (hst : l.stackTraces = false) : ∀ k e1, qaL_40 k = some e1 → am_cal l layL RL 40 k e1 ∧ True := q_cons ⟨am_calS (qtL_meetingOf l hst) qbL_meetingOf (by decide) rfl (by decide) (am_tb_at 1308 (by decide +kernel) rfl), trivial⟩ (q_cons ⟨am_calV (ci := 9) (am_CT_mono layM_L (qtX9_meetingOf l)) qbX9_meetingOf (by decide) rfl (am_tb_at 1984 (by decide +kernel) rfl), trivial⟩ (q_cons ⟨am_calV (ci := 9) (am_CT_mono layM_L (qtX9_thrown l)) qbX9_thrown (by decide) rfl (am_tb_at 1481 (by decide +kernel) rfl), trivial⟩ (q_nil)))
def qxL_40 (Ls : Int) (xs : Int → Int) : CX := (qkL_40, layL, qfL, qaL_40, qcL, qlL, qmL, some .boolean, false, none, 2, some (Ls, xs), fun _ => none)
theorem qzL_40 (l : Launch) (hst : l.stackTraces = false) (Ls : Int) (xs : Int → Int) : am_sta l (qxL_40 Ls xs) RL 40 cL_law := ⟨qkL_40_ok, layL_ok, qfL_ok, qcL_ok, qlL_ok, am_mthP qmL_ok (by decide), fun k e1 h => (qyL_40 l hst k e1 h).1⟩
set_option maxRecDepth 20000 in
theorem qvL_40 (Ls : Int) (xs : Int → Int) (F : FF) (A : AA) (i : Int) (hx : ∀ j, -2147483648 ≤ xs j ∧ xs j < 2147483648) (hL : Ls ≤ 3072) (i0 : 0 ≤ i) (i1 : i + 6 ≤ Ls) (hR : REL F A) : am_stp (qxL_40 Ls xs) (am_run (qxL_40 Ls xs) lawC (lawI i) lawK 66) lawK 2740 [some (vR 999), some (vR 0), some (vR 25), some (vR 43), some (vI i), none, none, none] [] F A 0 := by
  have hb : ∀ k : Int, 0 ≤ k → k ≤ 5 → 0 ≤ w32 (i + k) ∧ w32 (i + k) < Ls := fun k k0 k1 => by rw [w32_id (by omega) (by omega)]; omega
  have e0 : mF A = A 2 := hR.1.1.symm
  show (0 ≤ w32 (i + 1) ∧ w32 (i + 1) < Ls) ∧ ((0 ≤ w32 (i + 2) ∧ w32 (i + 2) < Ls) ∧ ((0 ≤ w32 (i + 3) ∧ w32 (i + 3) < Ls) ∧ ((0 ≤ w32 (i + 4) ∧ w32 (i + 4) < Ls) ∧ ((fgOK (A 2) ∧ (-2147483648 ≤ (xs (w32 (i + 1))) ∧ (xs (w32 (i + 1))) < 2147483648) ∧ (-2147483648 ≤ (xs (w32 (i + 2))) ∧ (xs (w32 (i + 2))) < 2147483648) ∧ (-2147483648 ≤ (xs (w32 (i + 3))) ∧ (xs (w32 (i + 3))) < 2147483648) ∧ (-2147483648 ≤ (xs (w32 (i + 4))) ∧ (xs (w32 (i + 4))) < 2147483648) ∧ caAll A ∧ (∀ jj, -2 ≤ A 20 jj ∧ A 20 jj < 5000)) ∧ (((0 ≤ (xs (w32 (i + 1))) ∧ (xs (w32 (i + 1))) < A 2 0) ∧ 0 ≤ (xs (w32 (i + 2))) ∧ (xs (w32 (i + 2))) < A 2 0 → (∀ (H_1 : FF) (C_1 : AA) (G_1 : FF) (B_1 : AA), (gqP F G_1 H_1 A B_1 C_1 (xs (w32 (i + 1))) (xs (w32 (i + 2)))) → ((0 ≤ w32 (i + 1) ∧ w32 (i + 1) < Ls) ∧ ((0 ≤ w32 (i + 2) ∧ w32 (i + 2) < Ls) ∧ ((0 ≤ w32 (i + 3) ∧ w32 (i + 3) < Ls) ∧ ((0 ≤ w32 (i + 4) ∧ w32 (i + 4) < Ls) ∧ ((fgOK (mF (upA B_1 43 (w32 0) (w32 (mtA (B_1 20) (p2 (A 2 3)) (xs (w32 (i + 3))) (xs (w32 (i + 4))))))) ∧ (-2147483648 ≤ (xs (w32 (i + 1))) ∧ (xs (w32 (i + 1))) < 2147483648) ∧ (-2147483648 ≤ (xs (w32 (i + 2))) ∧ (xs (w32 (i + 2))) < 2147483648) ∧ (-2147483648 ≤ (xs (w32 (i + 3))) ∧ (xs (w32 (i + 3))) < 2147483648) ∧ (-2147483648 ≤ (xs (w32 (i + 4))) ∧ (xs (w32 (i + 4))) < 2147483648)) ∧ (∀ (G_2 : FF) (B_2 : AA), (qdP G_1 G_2 (upA B_1 43 (w32 0) (w32 (mtA (B_1 20) (p2 (A 2 3)) (xs (w32 (i + 3))) (xs (w32 (i + 4)))))) B_2 ∧ G_2 25 0 = (if (0 ≤ (xs (w32 (i + 1))) ∧ (xs (w32 (i + 1))) < mF (upA B_1 43 (w32 0) (w32 (mtA (B_1 20) (p2 (A 2 3)) (xs (w32 (i + 3))) (xs (w32 (i + 4)))))) 0) ∧ 0 ≤ (xs (w32 (i + 2))) ∧ (xs (w32 (i + 2))) < mF (upA B_1 43 (w32 0) (w32 (mtA (B_1 20) (p2 (A 2 3)) (xs (w32 (i + 3))) (xs (w32 (i + 4)))))) 0 then 0 else 1)) → ((w32 (G_2 25 0) = w32 0 → ((w32 0 = w32 0 → ((0 ≤ w32 0 ∧ w32 0 < 1) ∧ ((w32 (y_cmp (B_2 43 (w32 0)) (w32 (if (0 ≤ (xs (w32 (i + 1))) ∧ (xs (w32 (i + 1))) < mF (upA B_1 43 (w32 0) (w32 (mtA (B_1 20) (p2 (A 2 3)) (xs (w32 (i + 3))) (xs (w32 (i + 4)))))) 0) ∧ 0 ≤ (xs (w32 (i + 2))) ∧ (xs (w32 (i + 2))) < mF (upA B_1 43 (w32 0) (w32 (mtA (B_1 20) (p2 (A 2 3)) (xs (w32 (i + 3))) (xs (w32 (i + 4)))))) 0 then mtA (gmX (mF (upA B_1 43 (w32 0) (w32 (mtA (B_1 20) (p2 (A 2 3)) (xs (w32 (i + 3))) (xs (w32 (i + 4))))))) (xs (w32 (i + 1))) (xs (w32 (i + 2)))) (p2 (mF (upA B_1 43 (w32 0) (w32 (mtA (B_1 20) (p2 (A 2 3)) (xs (w32 (i + 3))) (xs (w32 (i + 4)))))) 3)) (xs (w32 (i + 3))) (xs (w32 (i + 4))) else 0))) = w32 0 → ((999 : Nat) = 999 ∧ (0 : Nat) = 0 ∧ (25 : Nat) = 25 ∧ (43 : Nat) = 43 ∧ i + 6 = i + 6 ∧ REL G_2 B_2 ∧ (2 : Nat) ≤ 2)) ∧ (¬ (w32 (y_cmp (B_2 43 (w32 0)) (w32 (if (0 ≤ (xs (w32 (i + 1))) ∧ (xs (w32 (i + 1))) < mF (upA B_1 43 (w32 0) (w32 (mtA (B_1 20) (p2 (A 2 3)) (xs (w32 (i + 3))) (xs (w32 (i + 4)))))) 0) ∧ 0 ≤ (xs (w32 (i + 2))) ∧ (xs (w32 (i + 2))) < mF (upA B_1 43 (w32 0) (w32 (mtA (B_1 20) (p2 (A 2 3)) (xs (w32 (i + 3))) (xs (w32 (i + 4)))))) 0 then mtA (gmX (mF (upA B_1 43 (w32 0) (w32 (mtA (B_1 20) (p2 (A 2 3)) (xs (w32 (i + 3))) (xs (w32 (i + 4))))))) (xs (w32 (i + 1))) (xs (w32 (i + 2)))) (p2 (mF (upA B_1 43 (w32 0) (w32 (mtA (B_1 20) (p2 (A 2 3)) (xs (w32 (i + 3))) (xs (w32 (i + 4)))))) 3)) (xs (w32 (i + 3))) (xs (w32 (i + 4))) else 0))) = w32 0) → (((0 : Int) = 0 ∨ (0 : Int) = 1) ∧ (lawK (some (some (vI 0))) G_2 B_2)))))) ∧ (¬ w32 0 = w32 0 → _))) ∧ (¬ w32 (G_2 25 0) = w32 0 → (((0 : Int) = 0 ∨ (0 : Int) = 1) ∧ (lawK (some (some (vI 0))) G_2 B_2)))))))))))) ∧ (¬ ((0 ≤ (xs (w32 (i + 1))) ∧ (xs (w32 (i + 1))) < A 2 0) ∧ 0 ≤ (xs (w32 (i + 2))) ∧ (xs (w32 (i + 2))) < A 2 0) → ((0 ≤ w32 (i + 1) ∧ w32 (i + 1) < Ls) ∧ ((0 ≤ w32 (i + 2) ∧ w32 (i + 2) < Ls) ∧ ((0 ≤ w32 (i + 3) ∧ w32 (i + 3) < Ls) ∧ ((0 ≤ w32 (i + 4) ∧ w32 (i + 4) < Ls) ∧ ((fgOK (mF A) ∧ (-2147483648 ≤ (xs (w32 (i + 1))) ∧ (xs (w32 (i + 1))) < 2147483648) ∧ (-2147483648 ≤ (xs (w32 (i + 2))) ∧ (xs (w32 (i + 2))) < 2147483648) ∧ (-2147483648 ≤ (xs (w32 (i + 3))) ∧ (xs (w32 (i + 3))) < 2147483648) ∧ (-2147483648 ≤ (xs (w32 (i + 4))) ∧ (xs (w32 (i + 4))) < 2147483648)) ∧ (∀ (G_1 : FF) (B_1 : AA), (qdP F G_1 A B_1 ∧ G_1 25 0 = (if (0 ≤ (xs (w32 (i + 1))) ∧ (xs (w32 (i + 1))) < mF A 0) ∧ 0 ≤ (xs (w32 (i + 2))) ∧ (xs (w32 (i + 2))) < mF A 0 then 0 else 1)) → ((w32 (G_1 25 0) = w32 1 → ((w32 1 = w32 0 → _) ∧ (¬ w32 1 = w32 0 → ((999 : Nat) = 999 ∧ (0 : Nat) = 0 ∧ (25 : Nat) = 25 ∧ (43 : Nat) = 43 ∧ i + 6 = i + 6 ∧ REL G_1 B_1 ∧ (2 : Nat) ≤ 2)))) ∧ (¬ w32 (G_1 25 0) = w32 1 → (((0 : Int) = 0 ∨ (0 : Int) = 1) ∧ (lawK (some (some (vI 0))) G_1 B_1))))))))))))))))
  refine ⟨by exact hb 1 (by decide) (by decide), ?_⟩
  refine ⟨by exact hb 2 (by decide) (by decide), ?_⟩
  refine ⟨by exact hb 3 (by decide) (by decide), ?_⟩
  refine ⟨by exact hb 4 (by decide) (by decide), ?_⟩
  refine ⟨by exact ⟨rel_f hR, hx _, hx _, hx _, hx _, (hR).2.2.2.2.1.1, (hR).2.2.2.2.1.2⟩, ?_⟩
  refine ⟨fun c1 => ?_, fun c1 => ?_⟩
  · skip
    skip
    intro H_1 C_1 G_1 B_1 g1
    have hR1 : ∀ v, REL G_1 (upA B_1 43 (w32 0) v) := fun v => rel_up (rel_qr hR g1.1)
    have em : ∀ v, mF (upA B_1 43 (w32 0) v) = A 2 := fun v => (hR1 v).1.1.symm.trans ((upA_r (by decide)).trans (funext fun i => (g1.1).2.1 2 i (by decide)))
    refine ⟨by exact hb 1 (by decide) (by decide), ?_⟩
    refine ⟨by exact hb 2 (by decide) (by decide), ?_⟩
    refine ⟨by exact hb 3 (by decide) (by decide), ?_⟩
    refine ⟨by exact hb 4 (by decide) (by decide), ?_⟩
    refine ⟨by exact ⟨rel_m (hR1 _), hx _, hx _, hx _, hx _⟩, ?_⟩
    intro G_2 B_2 g2
    have hR2 := rel_qd (hR1 _) g2.1
    have t2 : G_2 25 0 = 0 := by
      have w := g2.2
      rw [em] at w
      exact w.trans (if_pos c1)
    have v2 := (g2.1.2 43 (w32 0) (by decide)).trans upA_s
    refine ⟨fun c2 => ?_, fun c2 => ?_⟩
    · skip
      skip
      refine ⟨fun _ => ?_, fun q => absurd (by decide) q⟩
      refine ⟨by decide, ?_⟩
      refine ⟨fun c3 => ?_, fun c3 => ?_⟩
      · skip
        skip
        exact ⟨rfl, rfl, rfl, rfl, rfl, hR2, by decide⟩
      · skip
        skip
        refine ⟨by decide, ?_⟩
        exact absurd (law_e v2 (by rw [em, if_pos c1]; exact le_mo (rel_f hR) hR.2.2.2.2.1.1 c1.1.1 c1.1.2 c1.2.1 c1.2.2 g1)) c3
    · skip
      skip
      refine ⟨by decide, ?_⟩
      exact absurd (by rw [t2]) c2
  · skip
    skip
    refine ⟨by exact hb 1 (by decide) (by decide), ?_⟩
    refine ⟨by exact hb 2 (by decide) (by decide), ?_⟩
    refine ⟨by exact hb 3 (by decide) (by decide), ?_⟩
    refine ⟨by exact hb 4 (by decide) (by decide), ?_⟩
    refine ⟨by exact ⟨rel_m hR, hx _, hx _, hx _, hx _⟩, ?_⟩
    intro G_1 B_1 g1
    have hR2 := rel_qd hR g1.1
    have t2 : G_1 25 0 = 1 := by
      have w := g1.2
      rw [e0] at w
      exact w.trans (if_neg c1)
    refine ⟨fun c2 => ?_, fun c2 => ?_⟩
    · skip
      skip
      refine ⟨fun q => absurd q (by decide), fun _ => ?_⟩
      exact ⟨rfl, rfl, rfl, rfl, rfl, hR2, by decide⟩
    · skip
      skip
      refine ⟨by decide, ?_⟩
      exact absurd (by rw [t2]) c2
def qkL_41 : Nat → Option CI := fun pc => cond (Nat.ble 3593 pc) none (cond (Nat.ble 2874 pc) (cond (Nat.ble 2899 pc) (cond (Nat.ble 2912 pc) (cond (Nat.ble 2919 pc) (cond (Nat.ble 2921 pc) (cond (Nat.beq pc 2921) (some (.goto 668, 2924, [3589])) (cond (Nat.beq pc 3589) (some (.iinc 4 6, 3592, [])) (cond (Nat.beq pc 3592) (some (.goto (-3569), 3595, [23])) (none)))) (cond (Nat.beq pc 2919) (some (.iconst 0, 2920, [])) (cond (Nat.beq pc 2920) (some (.ireturn, 2921, [])) (none)))) (cond (Nat.ble 2915 pc) (cond (Nat.beq pc 2915) (some (.lcmp, 2916, [])) (cond (Nat.beq pc 2916) (some (.ifCond .eq 5, 2919, [2921])) (none))) (cond (Nat.beq pc 2912) (some (.iload 6, 2914, [])) (cond (Nat.beq pc 2914) (some (.i2l, 2915, [])) (none))))) (cond (Nat.ble 2906 pc) (cond (Nat.ble 2910 pc) (cond (Nat.beq pc 2910) (some (.iconst 0, 2911, [])) (cond (Nat.beq pc 2911) (some (.laload, 2912, [])) (none))) (cond (Nat.beq pc 2906) (some (.ifCond .ne 15, 2909, [2921])) (cond (Nat.beq pc 2909) (some (.aload_n 3, 2910, [])) (none)))) (cond (Nat.ble 2903 pc) (cond (Nat.beq pc 2903) (some (.ireturn, 2904, [])) (cond (Nat.beq pc 2904) (some (.iload 5, 2906, [])) (none))) (cond (Nat.beq pc 2899) (some (.if_icmp .eq 5, 2902, [2904])) (cond (Nat.beq pc 2902) (some (.iconst 0, 2903, [])) (none)))))) (cond (Nat.ble 2883 pc) (cond (Nat.ble 2888 pc) (cond (Nat.ble 2893 pc) (cond (Nat.beq pc 2893) (some (.aload_n 2, 2894, [])) (cond (Nat.beq pc 2894) (some (.invokevirtual 175, 2897, [])) (cond (Nat.beq pc 2897) (some (.iload 5, 2899, [])) (none)))) (cond (Nat.beq pc 2888) (some (.invokevirtual 278, 2891, [])) (cond (Nat.beq pc 2891) (some (.istore 6, 2893, [])) (none)))) (cond (Nat.ble 2886 pc) (cond (Nat.beq pc 2886) (some (.iadd, 2887, [])) (cond (Nat.beq pc 2887) (some (.iaload, 2888, [])) (none))) (cond (Nat.beq pc 2883) (some (.iload 4, 2885, [])) (cond (Nat.beq pc 2885) (some (.iconst 4, 2886, [])) (none))))) (cond (Nat.ble 2879 pc) (cond (Nat.ble 2881 pc) (cond (Nat.beq pc 2881) (some (.iaload, 2882, [])) (cond (Nat.beq pc 2882) (some (.aload_n 0, 2883, [])) (none))) (cond (Nat.beq pc 2879) (some (.iconst 3, 2880, [])) (cond (Nat.beq pc 2880) (some (.iadd, 2881, [])) (none)))) (cond (Nat.ble 2876 pc) (cond (Nat.beq pc 2876) (some (.aload_n 0, 2877, [])) (cond (Nat.beq pc 2877) (some (.iload 4, 2879, [])) (none))) (cond (Nat.beq pc 2874) (some (.iadd, 2875, [])) (cond (Nat.beq pc 2875) (some (.iaload, 2876, [])) (none))))))) (cond (Nat.ble 2851 pc) (cond (Nat.ble 2863 pc) (cond (Nat.ble 2868 pc) (cond (Nat.ble 2870 pc) (cond (Nat.beq pc 2870) (some (.aload_n 0, 2871, [])) (cond (Nat.beq pc 2871) (some (.iload 4, 2873, [])) (cond (Nat.beq pc 2873) (some (.iconst 2, 2874, [])) (none)))) (cond (Nat.beq pc 2868) (some (.iadd, 2869, [])) (cond (Nat.beq pc 2869) (some (.iaload, 2870, [])) (none)))) (cond (Nat.ble 2865 pc) (cond (Nat.beq pc 2865) (some (.iload 4, 2867, [])) (cond (Nat.beq pc 2867) (some (.iconst 1, 2868, [])) (none))) (cond (Nat.beq pc 2863) (some (.aload_n 2, 2864, [])) (cond (Nat.beq pc 2864) (some (.aload_n 0, 2865, [])) (none))))) (cond (Nat.ble 2856 pc) (cond (Nat.ble 2858 pc) (cond (Nat.beq pc 2858) (some (.invokestatic 276, 2861, [])) (cond (Nat.beq pc 2861) (some (.istore 5, 2863, [])) (none))) (cond (Nat.beq pc 2856) (some (.iaload, 2857, [])) (cond (Nat.beq pc 2857) (some (.aload_n 3, 2858, [])) (none)))) (cond (Nat.ble 2854 pc) (cond (Nat.beq pc 2854) (some (.iconst 4, 2855, [])) (cond (Nat.beq pc 2855) (some (.iadd, 2856, [])) (none))) (cond (Nat.beq pc 2851) (some (.aload_n 0, 2852, [])) (cond (Nat.beq pc 2852) (some (.iload 4, 2854, [])) (none)))))) (cond (Nat.ble 2842 pc) (cond (Nat.ble 2846 pc) (cond (Nat.ble 2849 pc) (cond (Nat.beq pc 2849) (some (.iadd, 2850, [])) (cond (Nat.beq pc 2850) (some (.iaload, 2851, [])) (none))) (cond (Nat.beq pc 2846) (some (.iload 4, 2848, [])) (cond (Nat.beq pc 2848) (some (.iconst 3, 2849, [])) (none)))) (cond (Nat.ble 2844 pc) (cond (Nat.beq pc 2844) (some (.iaload, 2845, [])) (cond (Nat.beq pc 2845) (some (.aload_n 0, 2846, [])) (none))) (cond (Nat.beq pc 2842) (some (.iconst 2, 2843, [])) (cond (Nat.beq pc 2843) (some (.iadd, 2844, [])) (none))))) (cond (Nat.ble 2837 pc) (cond (Nat.ble 2839 pc) (cond (Nat.beq pc 2839) (some (.aload_n 0, 2840, [])) (cond (Nat.beq pc 2840) (some (.iload 4, 2842, [])) (none))) (cond (Nat.beq pc 2837) (some (.iadd, 2838, [])) (cond (Nat.beq pc 2838) (some (.iaload, 2839, [])) (none)))) (cond (Nat.ble 2834 pc) (cond (Nat.beq pc 2834) (some (.iload 4, 2836, [])) (cond (Nat.beq pc 2836) (some (.iconst 1, 2837, [])) (none))) (cond (Nat.beq pc 2832) (some (.aload_n 1, 2833, [])) (cond (Nat.beq pc 2833) (some (.aload_n 0, 2834, [])) (none))))))))
theorem qkL_41_ok : ∀ pc i nx ts, qkL_41 pc = some (i, nx, ts) → am_cok cL_law pc (i, nx, ts) = true := fun pc i nx ts h => am_tok_ok (n := 3593) (by decide +kernel) (fun pc h => by show cond (Nat.ble 3593 pc) _ _ = _; rw [Nat.ble_eq_true_of_le h]; rfl) h
def qaL_41 : Nat → Option CE := fun k => cond (Nat.beq k 276) (some qeL_meetingNumber) (cond (Nat.beq k 278) (some qeX9_meetingNumber) (cond (Nat.beq k 175) (some qeX9_thrown) (none)))
theorem qyL_41 (l : Launch) (hst : l.stackTraces = false) : ∀ k e1, qaL_41 k = some e1 → am_cal l layL RL 40 k e1 ∧ True := q_cons ⟨am_calS (qtL_meetingNumber l hst) qbL_meetingNumber (by decide) rfl (by decide) (am_tb_at 1319 (by decide +kernel) rfl), trivial⟩ (q_cons ⟨am_calV (ci := 9) (am_CT_mono layM_L (qtX9_meetingNumber l)) qbX9_meetingNumber (by decide) rfl (am_tb_at 1988 (by decide +kernel) rfl), trivial⟩ (q_cons ⟨am_calV (ci := 9) (am_CT_mono layM_L (qtX9_thrown l)) qbX9_thrown (by decide) rfl (am_tb_at 1481 (by decide +kernel) rfl), trivial⟩ (q_nil)))
def qxL_41 (Ls : Int) (xs : Int → Int) : CX := (qkL_41, layL, qfL, qaL_41, qcL, qlL, qmL, some .boolean, false, none, 2, some (Ls, xs), fun _ => none)
theorem qzL_41 (l : Launch) (hst : l.stackTraces = false) (Ls : Int) (xs : Int → Int) : am_sta l (qxL_41 Ls xs) RL 40 cL_law := ⟨qkL_41_ok, layL_ok, qfL_ok, qcL_ok, qlL_ok, am_mthP qmL_ok (by decide), fun k e1 h => (qyL_41 l hst k e1 h).1⟩
set_option maxRecDepth 20000 in
theorem qvL_41 (Ls : Int) (xs : Int → Int) (F : FF) (A : AA) (i : Int) (hx : ∀ j, -2147483648 ≤ xs j ∧ xs j < 2147483648) (hL : Ls ≤ 3072) (i0 : 0 ≤ i) (i1 : i + 6 ≤ Ls) (hR : REL F A) : am_stp (qxL_41 Ls xs) (am_run (qxL_41 Ls xs) lawC (lawI i) lawK 66) lawK 2832 [some (vR 999), some (vR 0), some (vR 25), some (vR 43), some (vI i), none, none, none] [] F A 0 := by
  have hb : ∀ k : Int, 0 ≤ k → k ≤ 5 → 0 ≤ w32 (i + k) ∧ w32 (i + k) < Ls := fun k k0 k1 => by rw [w32_id (by omega) (by omega)]; omega
  have e0 : mF A = A 2 := hR.1.1.symm
  show (0 ≤ w32 (i + 1) ∧ w32 (i + 1) < Ls) ∧ ((0 ≤ w32 (i + 2) ∧ w32 (i + 2) < Ls) ∧ ((0 ≤ w32 (i + 3) ∧ w32 (i + 3) < Ls) ∧ ((0 ≤ w32 (i + 4) ∧ w32 (i + 4) < Ls) ∧ ((fgOK (A 2) ∧ (-2147483648 ≤ (xs (w32 (i + 1))) ∧ (xs (w32 (i + 1))) < 2147483648) ∧ (-2147483648 ≤ (xs (w32 (i + 2))) ∧ (xs (w32 (i + 2))) < 2147483648) ∧ (-2147483648 ≤ (xs (w32 (i + 3))) ∧ (xs (w32 (i + 3))) < 2147483648) ∧ (-2147483648 ≤ (xs (w32 (i + 4))) ∧ (xs (w32 (i + 4))) < 2147483648) ∧ caAll A ∧ (∀ jj, -2 ≤ A 20 jj ∧ A 20 jj < 5000)) ∧ (((0 ≤ (xs (w32 (i + 1))) ∧ (xs (w32 (i + 1))) < A 2 0) ∧ 0 ≤ (xs (w32 (i + 2))) ∧ (xs (w32 (i + 2))) < A 2 0 → (∀ (H_1 : FF) (C_1 : AA) (G_1 : FF) (B_1 : AA), (gqP F G_1 H_1 A B_1 C_1 (xs (w32 (i + 1))) (xs (w32 (i + 2)))) → ((0 ≤ w32 (i + 1) ∧ w32 (i + 1) < Ls) ∧ ((0 ≤ w32 (i + 2) ∧ w32 (i + 2) < Ls) ∧ ((0 ≤ w32 (i + 3) ∧ w32 (i + 3) < Ls) ∧ ((0 ≤ w32 (i + 4) ∧ w32 (i + 4) < Ls) ∧ ((fgOK (mF (upA B_1 43 (w32 0) (w32 (if 0 ≤ (xs (w32 (i + 3))) ∧ (xs (w32 (i + 3))) < gqN H_1 C_1 (A 2 3) then (if 0 ≤ (xs (w32 (i + 4))) ∧ (xs (w32 (i + 4))) ≤ 4 then mvR (B_1 20) (xs (w32 (i + 3))) (p2 (A 2 3)) (xs (w32 (i + 4))) else -2) else -1)))) ∧ (-2147483648 ≤ (xs (w32 (i + 1))) ∧ (xs (w32 (i + 1))) < 2147483648) ∧ (-2147483648 ≤ (xs (w32 (i + 2))) ∧ (xs (w32 (i + 2))) < 2147483648) ∧ (-2147483648 ≤ (xs (w32 (i + 3))) ∧ (xs (w32 (i + 3))) < 2147483648) ∧ (-2147483648 ≤ (xs (w32 (i + 4))) ∧ (xs (w32 (i + 4))) < 2147483648)) ∧ (∀ (G_2 : FF) (B_2 : AA), (qdP G_1 G_2 (upA B_1 43 (w32 0) (w32 (if 0 ≤ (xs (w32 (i + 3))) ∧ (xs (w32 (i + 3))) < gqN H_1 C_1 (A 2 3) then (if 0 ≤ (xs (w32 (i + 4))) ∧ (xs (w32 (i + 4))) ≤ 4 then mvR (B_1 20) (xs (w32 (i + 3))) (p2 (A 2 3)) (xs (w32 (i + 4))) else -2) else -1))) B_2 ∧ G_2 25 0 = (if (0 ≤ (xs (w32 (i + 1))) ∧ (xs (w32 (i + 1))) < mF (upA B_1 43 (w32 0) (w32 (if 0 ≤ (xs (w32 (i + 3))) ∧ (xs (w32 (i + 3))) < gqN H_1 C_1 (A 2 3) then (if 0 ≤ (xs (w32 (i + 4))) ∧ (xs (w32 (i + 4))) ≤ 4 then mvR (B_1 20) (xs (w32 (i + 3))) (p2 (A 2 3)) (xs (w32 (i + 4))) else -2) else -1))) 0) ∧ 0 ≤ (xs (w32 (i + 2))) ∧ (xs (w32 (i + 2))) < mF (upA B_1 43 (w32 0) (w32 (if 0 ≤ (xs (w32 (i + 3))) ∧ (xs (w32 (i + 3))) < gqN H_1 C_1 (A 2 3) then (if 0 ≤ (xs (w32 (i + 4))) ∧ (xs (w32 (i + 4))) ≤ 4 then mvR (B_1 20) (xs (w32 (i + 3))) (p2 (A 2 3)) (xs (w32 (i + 4))) else -2) else -1))) 0 then 0 else 1)) → ((w32 (G_2 25 0) = w32 0 → ((w32 0 = w32 0 → ((0 ≤ w32 0 ∧ w32 0 < 1) ∧ ((w32 (y_cmp (B_2 43 (w32 0)) (w32 (if (0 ≤ (xs (w32 (i + 1))) ∧ (xs (w32 (i + 1))) < mF (upA B_1 43 (w32 0) (w32 (if 0 ≤ (xs (w32 (i + 3))) ∧ (xs (w32 (i + 3))) < gqN H_1 C_1 (A 2 3) then (if 0 ≤ (xs (w32 (i + 4))) ∧ (xs (w32 (i + 4))) ≤ 4 then mvR (B_1 20) (xs (w32 (i + 3))) (p2 (A 2 3)) (xs (w32 (i + 4))) else -2) else -1))) 0) ∧ 0 ≤ (xs (w32 (i + 2))) ∧ (xs (w32 (i + 2))) < mF (upA B_1 43 (w32 0) (w32 (if 0 ≤ (xs (w32 (i + 3))) ∧ (xs (w32 (i + 3))) < gqN H_1 C_1 (A 2 3) then (if 0 ≤ (xs (w32 (i + 4))) ∧ (xs (w32 (i + 4))) ≤ 4 then mvR (B_1 20) (xs (w32 (i + 3))) (p2 (A 2 3)) (xs (w32 (i + 4))) else -2) else -1))) 0 then (if 0 ≤ (xs (w32 (i + 3))) ∧ (xs (w32 (i + 3))) < gnX (mF (upA B_1 43 (w32 0) (w32 (if 0 ≤ (xs (w32 (i + 3))) ∧ (xs (w32 (i + 3))) < gqN H_1 C_1 (A 2 3) then (if 0 ≤ (xs (w32 (i + 4))) ∧ (xs (w32 (i + 4))) ≤ 4 then mvR (B_1 20) (xs (w32 (i + 3))) (p2 (A 2 3)) (xs (w32 (i + 4))) else -2) else -1)))) (xs (w32 (i + 1))) (xs (w32 (i + 2))) then (if 0 ≤ (xs (w32 (i + 4))) ∧ (xs (w32 (i + 4))) ≤ 4 then mvR (gmX (mF (upA B_1 43 (w32 0) (w32 (if 0 ≤ (xs (w32 (i + 3))) ∧ (xs (w32 (i + 3))) < gqN H_1 C_1 (A 2 3) then (if 0 ≤ (xs (w32 (i + 4))) ∧ (xs (w32 (i + 4))) ≤ 4 then mvR (B_1 20) (xs (w32 (i + 3))) (p2 (A 2 3)) (xs (w32 (i + 4))) else -2) else -1)))) (xs (w32 (i + 1))) (xs (w32 (i + 2)))) (xs (w32 (i + 3))) (p2 (mF (upA B_1 43 (w32 0) (w32 (if 0 ≤ (xs (w32 (i + 3))) ∧ (xs (w32 (i + 3))) < gqN H_1 C_1 (A 2 3) then (if 0 ≤ (xs (w32 (i + 4))) ∧ (xs (w32 (i + 4))) ≤ 4 then mvR (B_1 20) (xs (w32 (i + 3))) (p2 (A 2 3)) (xs (w32 (i + 4))) else -2) else -1))) 3)) (xs (w32 (i + 4))) else -2) else -1) else 0))) = w32 0 → ((999 : Nat) = 999 ∧ (0 : Nat) = 0 ∧ (25 : Nat) = 25 ∧ (43 : Nat) = 43 ∧ i + 6 = i + 6 ∧ REL G_2 B_2 ∧ (2 : Nat) ≤ 2)) ∧ (¬ (w32 (y_cmp (B_2 43 (w32 0)) (w32 (if (0 ≤ (xs (w32 (i + 1))) ∧ (xs (w32 (i + 1))) < mF (upA B_1 43 (w32 0) (w32 (if 0 ≤ (xs (w32 (i + 3))) ∧ (xs (w32 (i + 3))) < gqN H_1 C_1 (A 2 3) then (if 0 ≤ (xs (w32 (i + 4))) ∧ (xs (w32 (i + 4))) ≤ 4 then mvR (B_1 20) (xs (w32 (i + 3))) (p2 (A 2 3)) (xs (w32 (i + 4))) else -2) else -1))) 0) ∧ 0 ≤ (xs (w32 (i + 2))) ∧ (xs (w32 (i + 2))) < mF (upA B_1 43 (w32 0) (w32 (if 0 ≤ (xs (w32 (i + 3))) ∧ (xs (w32 (i + 3))) < gqN H_1 C_1 (A 2 3) then (if 0 ≤ (xs (w32 (i + 4))) ∧ (xs (w32 (i + 4))) ≤ 4 then mvR (B_1 20) (xs (w32 (i + 3))) (p2 (A 2 3)) (xs (w32 (i + 4))) else -2) else -1))) 0 then (if 0 ≤ (xs (w32 (i + 3))) ∧ (xs (w32 (i + 3))) < gnX (mF (upA B_1 43 (w32 0) (w32 (if 0 ≤ (xs (w32 (i + 3))) ∧ (xs (w32 (i + 3))) < gqN H_1 C_1 (A 2 3) then (if 0 ≤ (xs (w32 (i + 4))) ∧ (xs (w32 (i + 4))) ≤ 4 then mvR (B_1 20) (xs (w32 (i + 3))) (p2 (A 2 3)) (xs (w32 (i + 4))) else -2) else -1)))) (xs (w32 (i + 1))) (xs (w32 (i + 2))) then (if 0 ≤ (xs (w32 (i + 4))) ∧ (xs (w32 (i + 4))) ≤ 4 then mvR (gmX (mF (upA B_1 43 (w32 0) (w32 (if 0 ≤ (xs (w32 (i + 3))) ∧ (xs (w32 (i + 3))) < gqN H_1 C_1 (A 2 3) then (if 0 ≤ (xs (w32 (i + 4))) ∧ (xs (w32 (i + 4))) ≤ 4 then mvR (B_1 20) (xs (w32 (i + 3))) (p2 (A 2 3)) (xs (w32 (i + 4))) else -2) else -1)))) (xs (w32 (i + 1))) (xs (w32 (i + 2)))) (xs (w32 (i + 3))) (p2 (mF (upA B_1 43 (w32 0) (w32 (if 0 ≤ (xs (w32 (i + 3))) ∧ (xs (w32 (i + 3))) < gqN H_1 C_1 (A 2 3) then (if 0 ≤ (xs (w32 (i + 4))) ∧ (xs (w32 (i + 4))) ≤ 4 then mvR (B_1 20) (xs (w32 (i + 3))) (p2 (A 2 3)) (xs (w32 (i + 4))) else -2) else -1))) 3)) (xs (w32 (i + 4))) else -2) else -1) else 0))) = w32 0) → (((0 : Int) = 0 ∨ (0 : Int) = 1) ∧ (lawK (some (some (vI 0))) G_2 B_2)))))) ∧ (¬ w32 0 = w32 0 → _))) ∧ (¬ w32 (G_2 25 0) = w32 0 → (((0 : Int) = 0 ∨ (0 : Int) = 1) ∧ (lawK (some (some (vI 0))) G_2 B_2)))))))))))) ∧ (¬ ((0 ≤ (xs (w32 (i + 1))) ∧ (xs (w32 (i + 1))) < A 2 0) ∧ 0 ≤ (xs (w32 (i + 2))) ∧ (xs (w32 (i + 2))) < A 2 0) → ((0 ≤ w32 (i + 1) ∧ w32 (i + 1) < Ls) ∧ ((0 ≤ w32 (i + 2) ∧ w32 (i + 2) < Ls) ∧ ((0 ≤ w32 (i + 3) ∧ w32 (i + 3) < Ls) ∧ ((0 ≤ w32 (i + 4) ∧ w32 (i + 4) < Ls) ∧ ((fgOK (mF A) ∧ (-2147483648 ≤ (xs (w32 (i + 1))) ∧ (xs (w32 (i + 1))) < 2147483648) ∧ (-2147483648 ≤ (xs (w32 (i + 2))) ∧ (xs (w32 (i + 2))) < 2147483648) ∧ (-2147483648 ≤ (xs (w32 (i + 3))) ∧ (xs (w32 (i + 3))) < 2147483648) ∧ (-2147483648 ≤ (xs (w32 (i + 4))) ∧ (xs (w32 (i + 4))) < 2147483648)) ∧ (∀ (G_1 : FF) (B_1 : AA), (qdP F G_1 A B_1 ∧ G_1 25 0 = (if (0 ≤ (xs (w32 (i + 1))) ∧ (xs (w32 (i + 1))) < mF A 0) ∧ 0 ≤ (xs (w32 (i + 2))) ∧ (xs (w32 (i + 2))) < mF A 0 then 0 else 1)) → ((w32 (G_1 25 0) = w32 1 → ((w32 1 = w32 0 → _) ∧ (¬ w32 1 = w32 0 → ((999 : Nat) = 999 ∧ (0 : Nat) = 0 ∧ (25 : Nat) = 25 ∧ (43 : Nat) = 43 ∧ i + 6 = i + 6 ∧ REL G_1 B_1 ∧ (2 : Nat) ≤ 2)))) ∧ (¬ w32 (G_1 25 0) = w32 1 → (((0 : Int) = 0 ∨ (0 : Int) = 1) ∧ (lawK (some (some (vI 0))) G_1 B_1))))))))))))))))
  refine ⟨by exact hb 1 (by decide) (by decide), ?_⟩
  refine ⟨by exact hb 2 (by decide) (by decide), ?_⟩
  refine ⟨by exact hb 3 (by decide) (by decide), ?_⟩
  refine ⟨by exact hb 4 (by decide) (by decide), ?_⟩
  refine ⟨by exact ⟨rel_f hR, hx _, hx _, hx _, hx _, (hR).2.2.2.2.1.1, (hR).2.2.2.2.1.2⟩, ?_⟩
  refine ⟨fun c1 => ?_, fun c1 => ?_⟩
  · skip
    skip
    intro H_1 C_1 G_1 B_1 g1
    have hR1 : ∀ v, REL G_1 (upA B_1 43 (w32 0) v) := fun v => rel_up (rel_qr hR g1.1)
    have em : ∀ v, mF (upA B_1 43 (w32 0) v) = A 2 := fun v => (hR1 v).1.1.symm.trans ((upA_r (by decide)).trans (funext fun i => (g1.1).2.1 2 i (by decide)))
    refine ⟨by exact hb 1 (by decide) (by decide), ?_⟩
    refine ⟨by exact hb 2 (by decide) (by decide), ?_⟩
    refine ⟨by exact hb 3 (by decide) (by decide), ?_⟩
    refine ⟨by exact hb 4 (by decide) (by decide), ?_⟩
    refine ⟨by exact ⟨rel_m (hR1 _), hx _, hx _, hx _, hx _⟩, ?_⟩
    intro G_2 B_2 g2
    have hR2 := rel_qd (hR1 _) g2.1
    have t2 : G_2 25 0 = 0 := by
      have w := g2.2
      rw [em] at w
      exact w.trans (if_pos c1)
    have v2 := (g2.1.2 43 (w32 0) (by decide)).trans upA_s
    refine ⟨fun c2 => ?_, fun c2 => ?_⟩
    · skip
      skip
      refine ⟨fun _ => ?_, fun q => absurd (by decide) q⟩
      refine ⟨by decide, ?_⟩
      refine ⟨fun c3 => ?_, fun c3 => ?_⟩
      · skip
        skip
        exact ⟨rfl, rfl, rfl, rfl, rfl, hR2, by decide⟩
      · skip
        skip
        refine ⟨by decide, ?_⟩
        exact absurd (law_e v2 (by rw [em, if_pos c1]; exact le_mn (rel_f hR) hR.2.2.2.2.1.1 c1.1.1 c1.1.2 c1.2.1 c1.2.2 g1)) c3
    · skip
      skip
      refine ⟨by decide, ?_⟩
      exact absurd (by rw [t2]) c2
  · skip
    skip
    refine ⟨by exact hb 1 (by decide) (by decide), ?_⟩
    refine ⟨by exact hb 2 (by decide) (by decide), ?_⟩
    refine ⟨by exact hb 3 (by decide) (by decide), ?_⟩
    refine ⟨by exact hb 4 (by decide) (by decide), ?_⟩
    refine ⟨by exact ⟨rel_m hR, hx _, hx _, hx _, hx _⟩, ?_⟩
    intro G_1 B_1 g1
    have hR2 := rel_qd hR g1.1
    have t2 : G_1 25 0 = 1 := by
      have w := g1.2
      rw [e0] at w
      exact w.trans (if_neg c1)
    refine ⟨fun c2 => ?_, fun c2 => ?_⟩
    · skip
      skip
      refine ⟨fun q => absurd q (by decide), fun _ => ?_⟩
      exact ⟨rfl, rfl, rfl, rfl, rfl, hR2, by decide⟩
    · skip
      skip
      refine ⟨by decide, ?_⟩
      exact absurd (by rw [t2]) c2
