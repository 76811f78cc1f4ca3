def qkL_21 : Nat → Option CI := fun pc => cond (Nat.ble 3593 pc) none (cond (Nat.ble 1473 pc) (cond (Nat.ble 1496 pc) (cond (Nat.ble 1507 pc) (cond (Nat.ble 1512 pc) (cond (Nat.ble 3589 pc) (cond (Nat.beq pc 3589) (some (.iinc 4 6, 3592, [])) (cond (Nat.beq pc 3592) (some (.goto (-3569), 3595, [23])) (none))) (cond (Nat.beq pc 1512) (some (.ireturn, 1513, [])) (cond (Nat.beq pc 1513) (some (.goto 2076, 1516, [3589])) (none)))) (cond (Nat.beq pc 1507) (some (.lcmp, 1508, [])) (cond (Nat.beq pc 1508) (some (.ifCond .eq 5, 1511, [1513])) (cond (Nat.beq pc 1511) (some (.iconst 0, 1512, [])) (none))))) (cond (Nat.ble 1502 pc) (cond (Nat.beq pc 1502) (some (.lconst 1, 1503, [])) (cond (Nat.beq pc 1503) (some (.goto 4, 1506, [1507])) (cond (Nat.beq pc 1506) (some (.lconst 0, 1507, [])) (none)))) (cond (Nat.beq pc 1496) (some (.laload, 1497, [])) (cond (Nat.beq pc 1497) (some (.iload 6, 1499, [])) (cond (Nat.beq pc 1499) (some (.ifCond .eq 7, 1502, [1506])) (none)))))) (cond (Nat.ble 1487 pc) (cond (Nat.ble 1491 pc) (cond (Nat.beq pc 1491) (some (.ifCond .ne 22, 1494, [1513])) (cond (Nat.beq pc 1494) (some (.aload_n 3, 1495, [])) (cond (Nat.beq pc 1495) (some (.iconst 0, 1496, [])) (none)))) (cond (Nat.beq pc 1487) (some (.iconst 0, 1488, [])) (cond (Nat.beq pc 1488) (some (.ireturn, 1489, [])) (cond (Nat.beq pc 1489) (some (.iload 5, 1491, [])) (none))))) (cond (Nat.ble 1479 pc) (cond (Nat.beq pc 1479) (some (.invokevirtual 175, 1482, [])) (cond (Nat.beq pc 1482) (some (.iload 5, 1484, [])) (cond (Nat.beq pc 1484) (some (.if_icmp .eq 5, 1487, [1489])) (none)))) (cond (Nat.beq pc 1473) (some (.invokevirtual 217, 1476, [])) (cond (Nat.beq pc 1476) (some (.istore 6, 1478, [])) (cond (Nat.beq pc 1478) (some (.aload_n 2, 1479, [])) (none))))))) (cond (Nat.ble 1455 pc) (cond (Nat.ble 1465 pc) (cond (Nat.ble 1468 pc) (cond (Nat.ble 1471 pc) (cond (Nat.beq pc 1471) (some (.iadd, 1472, [])) (cond (Nat.beq pc 1472) (some (.iaload, 1473, [])) (none))) (cond (Nat.beq pc 1468) (some (.iload 4, 1470, [])) (cond (Nat.beq pc 1470) (some (.iconst 2, 1471, [])) (none)))) (cond (Nat.beq pc 1465) (some (.iadd, 1466, [])) (cond (Nat.beq pc 1466) (some (.iaload, 1467, [])) (cond (Nat.beq pc 1467) (some (.aload_n 0, 1468, [])) (none))))) (cond (Nat.ble 1461 pc) (cond (Nat.beq pc 1461) (some (.aload_n 0, 1462, [])) (cond (Nat.beq pc 1462) (some (.iload 4, 1464, [])) (cond (Nat.beq pc 1464) (some (.iconst 1, 1465, [])) (none)))) (cond (Nat.beq pc 1455) (some (.invokestatic 215, 1458, [])) (cond (Nat.beq pc 1458) (some (.istore 5, 1460, [])) (cond (Nat.beq pc 1460) (some (.aload_n 2, 1461, [])) (none)))))) (cond (Nat.ble 1448 pc) (cond (Nat.ble 1452 pc) (cond (Nat.beq pc 1452) (some (.iadd, 1453, [])) (cond (Nat.beq pc 1453) (some (.iaload, 1454, [])) (cond (Nat.beq pc 1454) (some (.aload_n 3, 1455, [])) (none)))) (cond (Nat.beq pc 1448) (some (.aload_n 0, 1449, [])) (cond (Nat.beq pc 1449) (some (.iload 4, 1451, [])) (cond (Nat.beq pc 1451) (some (.iconst 2, 1452, [])) (none))))) (cond (Nat.ble 1445 pc) (cond (Nat.beq pc 1445) (some (.iconst 1, 1446, [])) (cond (Nat.beq pc 1446) (some (.iadd, 1447, [])) (cond (Nat.beq pc 1447) (some (.iaload, 1448, [])) (none)))) (cond (Nat.beq pc 1441) (some (.aload_n 1, 1442, [])) (cond (Nat.beq pc 1442) (some (.aload_n 0, 1443, [])) (cond (Nat.beq pc 1443) (some (.iload 4, 1445, [])) (none))))))))
theorem qkL_21_ok : ∀ pc i nx ts, qkL_21 pc = some (i, nx, ts) → am_cok cL_law pc (i, nx, ts) = true := fun pc i nx ts h => am_tok_ok (n := 3593) (by decide +kernel) (fun pc h => by show cond (Nat.ble 3593 pc) _ _ = _; rw [Nat.ble_eq_true_of_le h]; rfl) h
def qaL_21 : Nat → Option CE := fun k => cond (Nat.beq k 215) (some qeL_isOn) (cond (Nat.beq k 217) (some qeX9_isOn) (cond (Nat.beq k 175) (some qeX9_thrown) (none)))
theorem qyL_21 (l : Launch) (hst : l.stackTraces = false) : ∀ k e1, qaL_21 k = some e1 → am_cal l layL RL 40 k e1 ∧ True := q_cons ⟨am_calS (qtL_isOn l hst) qbL_isOn (by decide) rfl (by decide) (am_tb_at 1056 (by decide +kernel) rfl), trivial⟩ (q_cons ⟨am_calV (ci := 9) (am_CT_mono layM_L (qtX9_isOn l)) qbX9_isOn (by decide) rfl (am_tb_at 1798 (by decide +kernel) rfl), trivial⟩ (q_cons ⟨am_calV (ci := 9) (am_CT_mono layM_L (qtX9_thrown l)) qbX9_thrown (by decide) rfl (am_tb_at 1481 (by decide +kernel) rfl), trivial⟩ (q_nil)))
def qxL_21 (Ls : Int) (xs : Int → Int) : CX := (qkL_21, layL, qfL, qaL_21, qcL, qlL, qmL, some .boolean, false, none, 2, some (Ls, xs), fun _ => none)
theorem qzL_21 (l : Launch) (hst : l.stackTraces = false) (Ls : Int) (xs : Int → Int) : am_sta l (qxL_21 Ls xs) RL 40 cL_law := ⟨qkL_21_ok, layL_ok, qfL_ok, qcL_ok, qlL_ok, am_mthP qmL_ok (by decide), fun k e1 h => (qyL_21 l hst k e1 h).1⟩
set_option maxRecDepth 20000 in
theorem qvL_21 (Ls : Int) (xs : Int → Int) (F : FF) (A : AA) (i : Int) (hx : ∀ j, -2147483648 ≤ xs j ∧ xs j < 2147483648) (hL : Ls ≤ 3072) (i0 : 0 ≤ i) (i1 : i + 6 ≤ Ls) (hR : REL F A) : am_stp (qxL_21 Ls xs) (am_run (qxL_21 Ls xs) lawC (lawI i) lawK 48) lawK 1441 [some (vR 999), some (vR 0), some (vR 25), some (vR 43), some (vI i), none, none, none] [] F A 0 := by
  have hb : ∀ k : Int, 0 ≤ k → k ≤ 5 → 0 ≤ w32 (i + k) ∧ w32 (i + k) < Ls := fun k k0 k1 => by rw [w32_id (by omega) (by omega)]; omega
  have e0 : mF A = A 2 := hR.1.1.symm
  show (0 ≤ w32 (i + 1) ∧ w32 (i + 1) < Ls) ∧ ((0 ≤ w32 (i + 2) ∧ w32 (i + 2) < Ls) ∧ ((fgOK (A 2) ∧ (-2147483648 ≤ (xs (w32 (i + 1))) ∧ (xs (w32 (i + 1))) < 2147483648) ∧ (-2147483648 ≤ (xs (w32 (i + 2))) ∧ (xs (w32 (i + 2))) < 2147483648)) ∧ (((0 ≤ (xs (w32 (i + 1))) ∧ (xs (w32 (i + 1))) < A 2 0) ∧ 0 ≤ (xs (w32 (i + 2))) ∧ (xs (w32 (i + 2))) < A 2 1 → (∀ (G_1 : FF) (B_1 : AA), (qrP F G_1 A B_1) → ((0 ≤ w32 (i + 1) ∧ w32 (i + 1) < Ls) ∧ ((0 ≤ w32 (i + 2) ∧ w32 (i + 2) < Ls) ∧ ((fgOK (mF (upA B_1 43 (w32 0) (w32 (bi (azP (cfL (A 2) (xs (w32 (i + 1))) (xs (w32 (i + 2)))) (Int.toNat (A 2 (18 + (xs (w32 (i + 1))))))))))) ∧ (-2147483648 ≤ (xs (w32 (i + 1))) ∧ (xs (w32 (i + 1))) < 2147483648) ∧ (-2147483648 ≤ (xs (w32 (i + 2))) ∧ (xs (w32 (i + 2))) < 2147483648)) ∧ (∀ (G_2 : FF) (B_2 : AA), (qdP G_1 G_2 (upA B_1 43 (w32 0) (w32 (bi (azP (cfL (A 2) (xs (w32 (i + 1))) (xs (w32 (i + 2)))) (Int.toNat (A 2 (18 + (xs (w32 (i + 1)))))))))) B_2 ∧ G_2 25 0 = (if (0 ≤ (xs (w32 (i + 1))) ∧ (xs (w32 (i + 1))) < mF (upA B_1 43 (w32 0) (w32 (bi (azP (cfL (A 2) (xs (w32 (i + 1))) (xs (w32 (i + 2)))) (Int.toNat (A 2 (18 + (xs (w32 (i + 1)))))))))) 0) ∧ 0 ≤ (xs (w32 (i + 2))) ∧ (xs (w32 (i + 2))) < mF (upA B_1 43 (w32 0) (w32 (bi (azP (cfL (A 2) (xs (w32 (i + 1))) (xs (w32 (i + 2)))) (Int.toNat (A 2 (18 + (xs (w32 (i + 1)))))))))) 1 then 0 else 1)) → ((w32 (G_2 25 0) = w32 0 → ((w32 0 = w32 0 → ((0 ≤ w32 0 ∧ w32 0 < 1) ∧ ((w32 (if (0 ≤ (xs (w32 (i + 1))) ∧ (xs (w32 (i + 1))) < mF (upA B_1 43 (w32 0) (w32 (bi (azP (cfL (A 2) (xs (w32 (i + 1))) (xs (w32 (i + 2)))) (Int.toNat (A 2 (18 + (xs (w32 (i + 1)))))))))) 0) ∧ 0 ≤ (xs (w32 (i + 2))) ∧ (xs (w32 (i + 2))) < mF (upA B_1 43 (w32 0) (w32 (bi (azP (cfL (A 2) (xs (w32 (i + 1))) (xs (w32 (i + 2)))) (Int.toNat (A 2 (18 + (xs (w32 (i + 1)))))))))) 1 then bi (azP (cfL (mF (upA B_1 43 (w32 0) (w32 (bi (azP (cfL (A 2) (xs (w32 (i + 1))) (xs (w32 (i + 2)))) (Int.toNat (A 2 (18 + (xs (w32 (i + 1))))))))))) (xs (w32 (i + 1))) (xs (w32 (i + 2)))) (Int.toNat (mF (upA B_1 43 (w32 0) (w32 (bi (azP (cfL (A 2) (xs (w32 (i + 1))) (xs (w32 (i + 2)))) (Int.toNat (A 2 (18 + (xs (w32 (i + 1)))))))))) (18 + (xs (w32 (i + 1))))))) else 0) = w32 0 → ((w32 (y_cmp (B_2 43 (w32 0)) 0) = w32 0 → ((999 : Nat) = 999 ∧ (0 : Nat) = 0 ∧ (25 : Nat) = 25 ∧ (43 : Nat) = 43 ∧ i + 6 = i + 6 ∧ REL G_2 B_2 ∧ (2 : Nat) ≤ 2)) ∧ (¬ w32 (y_cmp (B_2 43 (w32 0)) 0) = w32 0 → (((0 : Int) = 0 ∨ (0 : Int) = 1) ∧ (lawK (some (some (vI 0))) G_2 B_2))))) ∧ (¬ (w32 (if (0 ≤ (xs (w32 (i + 1))) ∧ (xs (w32 (i + 1))) < mF (upA B_1 43 (w32 0) (w32 (bi (azP (cfL (A 2) (xs (w32 (i + 1))) (xs (w32 (i + 2)))) (Int.toNat (A 2 (18 + (xs (w32 (i + 1)))))))))) 0) ∧ 0 ≤ (xs (w32 (i + 2))) ∧ (xs (w32 (i + 2))) < mF (upA B_1 43 (w32 0) (w32 (bi (azP (cfL (A 2) (xs (w32 (i + 1))) (xs (w32 (i + 2)))) (Int.toNat (A 2 (18 + (xs (w32 (i + 1)))))))))) 1 then bi (azP (cfL (mF (upA B_1 43 (w32 0) (w32 (bi (azP (cfL (A 2) (xs (w32 (i + 1))) (xs (w32 (i + 2)))) (Int.toNat (A 2 (18 + (xs (w32 (i + 1))))))))))) (xs (w32 (i + 1))) (xs (w32 (i + 2)))) (Int.toNat (mF (upA B_1 43 (w32 0) (w32 (bi (azP (cfL (A 2) (xs (w32 (i + 1))) (xs (w32 (i + 2)))) (Int.toNat (A 2 (18 + (xs (w32 (i + 1)))))))))) (18 + (xs (w32 (i + 1))))))) else 0) = w32 0) → ((w32 (y_cmp (B_2 43 (w32 0)) 1) = w32 0 → ((999 : Nat) = 999 ∧ (0 : Nat) = 0 ∧ (25 : Nat) = 25 ∧ (43 : Nat) = 43 ∧ i + 6 = i + 6 ∧ REL G_2 B_2 ∧ (2 : Nat) ≤ 2)) ∧ (¬ w32 (y_cmp (B_2 43 (w32 0)) 1) = w32 0 → (((0 : Int) = 0 ∨ (0 : Int) = 1) ∧ (lawK (some (some (vI 0))) G_2 B_2)))))))) ∧ (¬ w32 0 = w32 0 → _))) ∧ (¬ w32 (G_2 25 0) = w32 0 → (((0 : Int) = 0 ∨ (0 : Int) = 1) ∧ (lawK (some (some (vI 0))) G_2 B_2)))))))))) ∧ (¬ ((0 ≤ (xs (w32 (i + 1))) ∧ (xs (w32 (i + 1))) < A 2 0) ∧ 0 ≤ (xs (w32 (i + 2))) ∧ (xs (w32 (i + 2))) < A 2 1) → ((0 ≤ w32 (i + 1) ∧ w32 (i + 1) < Ls) ∧ ((0 ≤ w32 (i + 2) ∧ w32 (i + 2) < Ls) ∧ ((fgOK (mF A) ∧ (-2147483648 ≤ (xs (w32 (i + 1))) ∧ (xs (w32 (i + 1))) < 2147483648) ∧ (-2147483648 ≤ (xs (w32 (i + 2))) ∧ (xs (w32 (i + 2))) < 2147483648)) ∧ (∀ (G_1 : FF) (B_1 : AA), (qdP F G_1 A B_1 ∧ G_1 25 0 = (if (0 ≤ (xs (w32 (i + 1))) ∧ (xs (w32 (i + 1))) < mF A 0) ∧ 0 ≤ (xs (w32 (i + 2))) ∧ (xs (w32 (i + 2))) < mF A 1 then 0 else 1)) → ((w32 (G_1 25 0) = w32 1 → ((w32 1 = w32 0 → _) ∧ (¬ w32 1 = w32 0 → ((999 : Nat) = 999 ∧ (0 : Nat) = 0 ∧ (25 : Nat) = 25 ∧ (43 : Nat) = 43 ∧ i + 6 = i + 6 ∧ REL G_1 B_1 ∧ (2 : Nat) ≤ 2)))) ∧ (¬ w32 (G_1 25 0) = w32 1 → (((0 : Int) = 0 ∨ (0 : Int) = 1) ∧ (lawK (some (some (vI 0))) G_1 B_1))))))))))))
  refine ⟨by exact hb 1 (by decide) (by decide), ?_⟩
  refine ⟨by exact hb 2 (by decide) (by decide), ?_⟩
  refine ⟨by exact ⟨rel_f hR, hx _, hx _⟩, ?_⟩
  refine ⟨fun c1 => ?_, fun c1 => ?_⟩
  · skip
    skip
    intro G_1 B_1 g1
    have hR1 : ∀ v, REL G_1 (upA B_1 43 (w32 0) v) := fun v => rel_up (rel_qr hR g1)
    have em : ∀ v, mF (upA B_1 43 (w32 0) v) = A 2 := fun v => (hR1 v).1.1.symm.trans ((upA_r (by decide)).trans (funext fun i => (g1).2.1 2 i (by decide)))
    refine ⟨by exact hb 1 (by decide) (by decide), ?_⟩
    refine ⟨by exact hb 2 (by decide) (by decide), ?_⟩
    refine ⟨by exact ⟨rel_m (hR1 _), hx _, hx _⟩, ?_⟩
    intro G_2 B_2 g2
    have hR2 := rel_qd (hR1 _) g2.1
    have t2 : G_2 25 0 = 0 := by
      have w := g2.2
      rw [em] at w
      exact w.trans (if_pos c1)
    have v2 := (g2.1.2 43 (w32 0) (by decide)).trans upA_s
    refine ⟨fun c2 => ?_, fun c2 => ?_⟩
    · skip
      skip
      refine ⟨fun _ => ?_, fun q => absurd (by decide) q⟩
      refine ⟨by decide, ?_⟩
      refine ⟨fun c3 => ?_, fun c3 => ?_⟩
      · skip
        skip
        refine ⟨fun c4 => ?_, fun c4 => ?_⟩
        · skip
          skip
          exact ⟨rfl, rfl, rfl, rfl, rfl, hR2, by decide⟩
        · skip
          skip
          refine ⟨by decide, ?_⟩
          exact absurd (law_z v2 (by rw [em, if_pos c1]) c3) c4
      · skip
        skip
        refine ⟨fun c4 => ?_, fun c4 => ?_⟩
        · skip
          skip
          exact ⟨rfl, rfl, rfl, rfl, rfl, hR2, by decide⟩
        · skip
          skip
          refine ⟨by decide, ?_⟩
          exact absurd (law_o v2 (by rw [em, if_pos c1]) bi_01 c3) c4
    · skip
      skip
      refine ⟨by decide, ?_⟩
      exact absurd (by rw [t2]) c2
  · skip
    skip
    refine ⟨by exact hb 1 (by decide) (by decide), ?_⟩
    refine ⟨by exact hb 2 (by decide) (by decide), ?_⟩
    refine ⟨by exact ⟨rel_m hR, hx _, hx _⟩, ?_⟩
    intro G_1 B_1 g1
    have hR2 := rel_qd hR g1.1
    have t2 : G_1 25 0 = 1 := by
      have w := g1.2
      rw [e0] at w
      exact w.trans (if_neg c1)
    refine ⟨fun c2 => ?_, fun c2 => ?_⟩
    · skip
      skip
      refine ⟨fun q => absurd q (by decide), fun _ => ?_⟩
      exact ⟨rfl, rfl, rfl, rfl, rfl, hR2, by decide⟩
    · skip
      skip
      refine ⟨by decide, ?_⟩
      exact absurd (by rw [t2]) c2
def qkL_22 : Nat → Option CI := fun pc => cond (Nat.ble 3593 pc) none (cond (Nat.ble 1552 pc) (cond (Nat.ble 1575 pc) (cond (Nat.ble 1586 pc) (cond (Nat.ble 1592 pc) (cond (Nat.ble 3589 pc) (cond (Nat.beq pc 3589) (some (.iinc 4 6, 3592, [])) (cond (Nat.beq pc 3592) (some (.goto (-3569), 3595, [23])) (none))) (cond (Nat.beq pc 1592) (some (.ireturn, 1593, [])) (cond (Nat.beq pc 1593) (some (.goto 1996, 1596, [3589])) (none)))) (cond (Nat.ble 1588 pc) (cond (Nat.beq pc 1588) (some (.ifCond .eq 5, 1591, [1593])) (cond (Nat.beq pc 1591) (some (.iconst 0, 1592, [])) (none))) (cond (Nat.beq pc 1586) (some (.i2l, 1587, [])) (cond (Nat.beq pc 1587) (some (.lcmp, 1588, [])) (none))))) (cond (Nat.ble 1581 pc) (cond (Nat.ble 1583 pc) (cond (Nat.beq pc 1583) (some (.laload, 1584, [])) (cond (Nat.beq pc 1584) (some (.iload 6, 1586, [])) (none))) (cond (Nat.beq pc 1581) (some (.aload_n 3, 1582, [])) (cond (Nat.beq pc 1582) (some (.iconst 0, 1583, [])) (none)))) (cond (Nat.beq pc 1575) (some (.ireturn, 1576, [])) (cond (Nat.beq pc 1576) (some (.iload 5, 1578, [])) (cond (Nat.beq pc 1578) (some (.ifCond .ne 15, 1581, [1593])) (none)))))) (cond (Nat.ble 1560 pc) (cond (Nat.ble 1566 pc) (cond (Nat.ble 1571 pc) (cond (Nat.beq pc 1571) (some (.if_icmp .eq 5, 1574, [1576])) (cond (Nat.beq pc 1574) (some (.iconst 0, 1575, [])) (none))) (cond (Nat.beq pc 1566) (some (.invokevirtual 175, 1569, [])) (cond (Nat.beq pc 1569) (some (.iload 5, 1571, [])) (none)))) (cond (Nat.beq pc 1560) (some (.invokevirtual 220, 1563, [])) (cond (Nat.beq pc 1563) (some (.istore 6, 1565, [])) (cond (Nat.beq pc 1565) (some (.aload_n 2, 1566, [])) (none))))) (cond (Nat.ble 1555 pc) (cond (Nat.ble 1558 pc) (cond (Nat.beq pc 1558) (some (.iadd, 1559, [])) (cond (Nat.beq pc 1559) (some (.iaload, 1560, [])) (none))) (cond (Nat.beq pc 1555) (some (.iload 4, 1557, [])) (cond (Nat.beq pc 1557) (some (.iconst 3, 1558, [])) (none)))) (cond (Nat.beq pc 1552) (some (.iadd, 1553, [])) (cond (Nat.beq pc 1553) (some (.iaload, 1554, [])) (cond (Nat.beq pc 1554) (some (.aload_n 0, 1555, [])) (none))))))) (cond (Nat.ble 1533 pc) (cond (Nat.ble 1543 pc) (cond (Nat.ble 1547 pc) (cond (Nat.ble 1549 pc) (cond (Nat.beq pc 1549) (some (.iload 4, 1551, [])) (cond (Nat.beq pc 1551) (some (.iconst 2, 1552, [])) (none))) (cond (Nat.beq pc 1547) (some (.iaload, 1548, [])) (cond (Nat.beq pc 1548) (some (.aload_n 0, 1549, [])) (none)))) (cond (Nat.beq pc 1543) (some (.iload 4, 1545, [])) (cond (Nat.beq pc 1545) (some (.iconst 1, 1546, [])) (cond (Nat.beq pc 1546) (some (.iadd, 1547, [])) (none))))) (cond (Nat.ble 1536 pc) (cond (Nat.ble 1541 pc) (cond (Nat.beq pc 1541) (some (.aload_n 2, 1542, [])) (cond (Nat.beq pc 1542) (some (.aload_n 0, 1543, [])) (none))) (cond (Nat.beq pc 1536) (some (.invokestatic 218, 1539, [])) (cond (Nat.beq pc 1539) (some (.istore 5, 1541, [])) (none)))) (cond (Nat.beq pc 1533) (some (.iadd, 1534, [])) (cond (Nat.beq pc 1534) (some (.iaload, 1535, [])) (cond (Nat.beq pc 1535) (some (.aload_n 3, 1536, [])) (none)))))) (cond (Nat.ble 1524 pc) (cond (Nat.ble 1528 pc) (cond (Nat.ble 1530 pc) (cond (Nat.beq pc 1530) (some (.iload 4, 1532, [])) (cond (Nat.beq pc 1532) (some (.iconst 3, 1533, [])) (none))) (cond (Nat.beq pc 1528) (some (.iaload, 1529, [])) (cond (Nat.beq pc 1529) (some (.aload_n 0, 1530, [])) (none)))) (cond (Nat.beq pc 1524) (some (.iload 4, 1526, [])) (cond (Nat.beq pc 1526) (some (.iconst 2, 1527, [])) (cond (Nat.beq pc 1527) (some (.iadd, 1528, [])) (none))))) (cond (Nat.ble 1520 pc) (cond (Nat.ble 1522 pc) (cond (Nat.beq pc 1522) (some (.iaload, 1523, [])) (cond (Nat.beq pc 1523) (some (.aload_n 0, 1524, [])) (none))) (cond (Nat.beq pc 1520) (some (.iconst 1, 1521, [])) (cond (Nat.beq pc 1521) (some (.iadd, 1522, [])) (none)))) (cond (Nat.beq pc 1516) (some (.aload_n 1, 1517, [])) (cond (Nat.beq pc 1517) (some (.aload_n 0, 1518, [])) (cond (Nat.beq pc 1518) (some (.iload 4, 1520, [])) (none))))))))
theorem qkL_22_ok : ∀ pc i nx ts, qkL_22 pc = some (i, nx, ts) → am_cok cL_law pc (i, nx, ts) = true := fun pc i nx ts h => am_tok_ok (n := 3593) (by decide +kernel) (fun pc h => by show cond (Nat.ble 3593 pc) _ _ = _; rw [Nat.ble_eq_true_of_le h]; rfl) h
def qaL_22 : Nat → Option CE := fun k => cond (Nat.beq k 218) (some qeL_sideOf) (cond (Nat.beq k 220) (some qeX9_sideOf) (cond (Nat.beq k 175) (some qeX9_thrown) (none)))
theorem qyL_22 (l : Launch) (hst : l.stackTraces = false) : ∀ k e1, qaL_22 k = some e1 → am_cal l layL RL 40 k e1 ∧ True := q_cons ⟨am_calS (qtL_sideOf l hst) qbL_sideOf (by decide) rfl (by decide) (am_tb_at 1063 (by decide +kernel) rfl), trivial⟩ (q_cons ⟨am_calV (ci := 9) (am_CT_mono layM_L (qtX9_sideOf l)) qbX9_sideOf (by decide) rfl (am_tb_at 1806 (by decide +kernel) rfl), trivial⟩ (q_cons ⟨am_calV (ci := 9) (am_CT_mono layM_L (qtX9_thrown l)) qbX9_thrown (by decide) rfl (am_tb_at 1481 (by decide +kernel) rfl), trivial⟩ (q_nil)))
def qxL_22 (Ls : Int) (xs : Int → Int) : CX := (qkL_22, layL, qfL, qaL_22, qcL, qlL, qmL, some .boolean, false, none, 2, some (Ls, xs), fun _ => none)
theorem qzL_22 (l : Launch) (hst : l.stackTraces = false) (Ls : Int) (xs : Int → Int) : am_sta l (qxL_22 Ls xs) RL 40 cL_law := ⟨qkL_22_ok, layL_ok, qfL_ok, qcL_ok, qlL_ok, am_mthP qmL_ok (by decide), fun k e1 h => (qyL_22 l hst k e1 h).1⟩
set_option maxRecDepth 20000 in
theorem qvL_22 (Ls : Int) (xs : Int → Int) (F : FF) (A : AA) (i : Int) (hx : ∀ j, -2147483648 ≤ xs j ∧ xs j < 2147483648) (hL : Ls ≤ 3072) (i0 : 0 ≤ i) (i1 : i + 6 ≤ Ls) (hR : REL F A) : am_stp (qxL_22 Ls xs) (am_run (qxL_22 Ls xs) lawC (lawI i) lawK 56) lawK 1516 [some (vR 999), some (vR 0), some (vR 25), some (vR 43), some (vI i), none, none, none] [] F A 0 := by
  have hb : ∀ k : Int, 0 ≤ k → k ≤ 5 → 0 ≤ w32 (i + k) ∧ w32 (i + k) < Ls := fun k k0 k1 => by rw [w32_id (by omega) (by omega)]; omega
  have hR1 : ∀ v, REL F (upA A 43 (w32 0) v) := fun v => rel_up hR
  have em : ∀ v, mF (upA A 43 (w32 0) v) = A 2 := fun v => (hR1 v).1.1.symm.trans (upA_r (by decide))
  have e0 : mF A = A 2 := hR.1.1.symm
  show (0 ≤ w32 (i + 1) ∧ w32 (i + 1) < Ls) ∧ ((0 ≤ w32 (i + 2) ∧ w32 (i + 2) < Ls) ∧ ((0 ≤ w32 (i + 3) ∧ w32 (i + 3) < Ls) ∧ ((fgOK (A 2) ∧ (-2147483648 ≤ (xs (w32 (i + 1))) ∧ (xs (w32 (i + 1))) < 2147483648) ∧ (-2147483648 ≤ (xs (w32 (i + 2))) ∧ (xs (w32 (i + 2))) < 2147483648) ∧ (-2147483648 ≤ (xs (w32 (i + 3))) ∧ (xs (w32 (i + 3))) < 2147483648)) ∧ (((0 ≤ (xs (w32 (i + 1))) ∧ (xs (w32 (i + 1))) < A 2 0) ∧ 0 ≤ (xs (w32 (i + 2))) ∧ (xs (w32 (i + 2))) < A 2 1 → ((0 ≤ w32 (i + 1) ∧ w32 (i + 1) < Ls) ∧ ((0 ≤ w32 (i + 2) ∧ w32 (i + 2) < Ls) ∧ ((0 ≤ w32 (i + 3) ∧ w32 (i + 3) < Ls) ∧ ((fgOK (mF (upA A 43 (w32 0) (w32 (sg (w64 (w32 (cfR (A 2) (xs (w32 (i + 1))) (xs (w32 (i + 2))) (if (xs (w32 (i + 3))) = 0 then 0 else A 2 (18 + (xs (w32 (i + 1)))) - 1)))))))) ∧ (-2147483648 ≤ (xs (w32 (i + 1))) ∧ (xs (w32 (i + 1))) < 2147483648) ∧ (-2147483648 ≤ (xs (w32 (i + 2))) ∧ (xs (w32 (i + 2))) < 2147483648) ∧ (-2147483648 ≤ (xs (w32 (i + 3))) ∧ (xs (w32 (i + 3))) < 2147483648)) ∧ (∀ (G_1 : FF) (B_1 : AA), (qdP F G_1 (upA A 43 (w32 0) (w32 (sg (w64 (w32 (cfR (A 2) (xs (w32 (i + 1))) (xs (w32 (i + 2))) (if (xs (w32 (i + 3))) = 0 then 0 else A 2 (18 + (xs (w32 (i + 1)))) - 1))))))) B_1 ∧ G_1 25 0 = (if (0 ≤ (xs (w32 (i + 1))) ∧ (xs (w32 (i + 1))) < mF (upA A 43 (w32 0) (w32 (sg (w64 (w32 (cfR (A 2) (xs (w32 (i + 1))) (xs (w32 (i + 2))) (if (xs (w32 (i + 3))) = 0 then 0 else A 2 (18 + (xs (w32 (i + 1)))) - 1))))))) 0) ∧ 0 ≤ (xs (w32 (i + 2))) ∧ (xs (w32 (i + 2))) < mF (upA A 43 (w32 0) (w32 (sg (w64 (w32 (cfR (A 2) (xs (w32 (i + 1))) (xs (w32 (i + 2))) (if (xs (w32 (i + 3))) = 0 then 0 else A 2 (18 + (xs (w32 (i + 1)))) - 1))))))) 1 then 0 else 1)) → ((w32 (G_1 25 0) = w32 0 → ((w32 0 = w32 0 → ((0 ≤ w32 0 ∧ w32 0 < 1) ∧ ((w32 (y_cmp (B_1 43 (w32 0)) (w32 (if (0 ≤ (xs (w32 (i + 1))) ∧ (xs (w32 (i + 1))) < mF (upA A 43 (w32 0) (w32 (sg (w64 (w32 (cfR (A 2) (xs (w32 (i + 1))) (xs (w32 (i + 2))) (if (xs (w32 (i + 3))) = 0 then 0 else A 2 (18 + (xs (w32 (i + 1)))) - 1))))))) 0) ∧ 0 ≤ (xs (w32 (i + 2))) ∧ (xs (w32 (i + 2))) < mF (upA A 43 (w32 0) (w32 (sg (w64 (w32 (cfR (A 2) (xs (w32 (i + 1))) (xs (w32 (i + 2))) (if (xs (w32 (i + 3))) = 0 then 0 else A 2 (18 + (xs (w32 (i + 1)))) - 1))))))) 1 then sg (w64 (w32 (cfR (mF (upA A 43 (w32 0) (w32 (sg (w64 (w32 (cfR (A 2) (xs (w32 (i + 1))) (xs (w32 (i + 2))) (if (xs (w32 (i + 3))) = 0 then 0 else A 2 (18 + (xs (w32 (i + 1)))) - 1)))))))) (xs (w32 (i + 1))) (xs (w32 (i + 2))) (if (xs (w32 (i + 3))) = 0 then 0 else mF (upA A 43 (w32 0) (w32 (sg (w64 (w32 (cfR (A 2) (xs (w32 (i + 1))) (xs (w32 (i + 2))) (if (xs (w32 (i + 3))) = 0 then 0 else A 2 (18 + (xs (w32 (i + 1)))) - 1))))))) (18 + (xs (w32 (i + 1)))) - 1)))) else 0))) = w32 0 → ((999 : Nat) = 999 ∧ (0 : Nat) = 0 ∧ (25 : Nat) = 25 ∧ (43 : Nat) = 43 ∧ i + 6 = i + 6 ∧ REL G_1 B_1 ∧ (2 : Nat) ≤ 2)) ∧ (¬ (w32 (y_cmp (B_1 43 (w32 0)) (w32 (if (0 ≤ (xs (w32 (i + 1))) ∧ (xs (w32 (i + 1))) < mF (upA A 43 (w32 0) (w32 (sg (w64 (w32 (cfR (A 2) (xs (w32 (i + 1))) (xs (w32 (i + 2))) (if (xs (w32 (i + 3))) = 0 then 0 else A 2 (18 + (xs (w32 (i + 1)))) - 1))))))) 0) ∧ 0 ≤ (xs (w32 (i + 2))) ∧ (xs (w32 (i + 2))) < mF (upA A 43 (w32 0) (w32 (sg (w64 (w32 (cfR (A 2) (xs (w32 (i + 1))) (xs (w32 (i + 2))) (if (xs (w32 (i + 3))) = 0 then 0 else A 2 (18 + (xs (w32 (i + 1)))) - 1))))))) 1 then sg (w64 (w32 (cfR (mF (upA A 43 (w32 0) (w32 (sg (w64 (w32 (cfR (A 2) (xs (w32 (i + 1))) (xs (w32 (i + 2))) (if (xs (w32 (i + 3))) = 0 then 0 else A 2 (18 + (xs (w32 (i + 1)))) - 1)))))))) (xs (w32 (i + 1))) (xs (w32 (i + 2))) (if (xs (w32 (i + 3))) = 0 then 0 else mF (upA A 43 (w32 0) (w32 (sg (w64 (w32 (cfR (A 2) (xs (w32 (i + 1))) (xs (w32 (i + 2))) (if (xs (w32 (i + 3))) = 0 then 0 else A 2 (18 + (xs (w32 (i + 1)))) - 1))))))) (18 + (xs (w32 (i + 1)))) - 1)))) else 0))) = w32 0) → (((0 : Int) = 0 ∨ (0 : Int) = 1) ∧ (lawK (some (some (vI 0))) G_1 B_1)))))) ∧ (¬ w32 0 = w32 0 → _))) ∧ (¬ w32 (G_1 25 0) = w32 0 → (((0 : Int) = 0 ∨ (0 : Int) = 1) ∧ (lawK (some (some (vI 0))) G_1 B_1)))))))))) ∧ (¬ ((0 ≤ (xs (w32 (i + 1))) ∧ (xs (w32 (i + 1))) < A 2 0) ∧ 0 ≤ (xs (w32 (i + 2))) ∧ (xs (w32 (i + 2))) < A 2 1) → ((0 ≤ w32 (i + 1) ∧ w32 (i + 1) < Ls) ∧ ((0 ≤ w32 (i + 2) ∧ w32 (i + 2) < Ls) ∧ ((0 ≤ w32 (i + 3) ∧ w32 (i + 3) < Ls) ∧ ((fgOK (mF A) ∧ (-2147483648 ≤ (xs (w32 (i + 1))) ∧ (xs (w32 (i + 1))) < 2147483648) ∧ (-2147483648 ≤ (xs (w32 (i + 2))) ∧ (xs (w32 (i + 2))) < 2147483648) ∧ (-2147483648 ≤ (xs (w32 (i + 3))) ∧ (xs (w32 (i + 3))) < 2147483648)) ∧ (∀ (G_1 : FF) (B_1 : AA), (qdP F G_1 A B_1 ∧ G_1 25 0 = (if (0 ≤ (xs (w32 (i + 1))) ∧ (xs (w32 (i + 1))) < mF A 0) ∧ 0 ≤ (xs (w32 (i + 2))) ∧ (xs (w32 (i + 2))) < mF A 1 then 0 else 1)) → ((w32 (G_1 25 0) = w32 1 → ((w32 1 = w32 0 → _) ∧ (¬ w32 1 = w32 0 → ((999 : Nat) = 999 ∧ (0 : Nat) = 0 ∧ (25 : Nat) = 25 ∧ (43 : Nat) = 43 ∧ i + 6 = i + 6 ∧ REL G_1 B_1 ∧ (2 : Nat) ≤ 2)))) ∧ (¬ w32 (G_1 25 0) = w32 1 → (((0 : Int) = 0 ∨ (0 : Int) = 1) ∧ (lawK (some (some (vI 0))) G_1 B_1))))))))))))))
  refine ⟨by exact hb 1 (by decide) (by decide), ?_⟩
  refine ⟨by exact hb 2 (by decide) (by decide), ?_⟩
  refine ⟨by exact hb 3 (by decide) (by decide), ?_⟩
  refine ⟨by exact ⟨rel_f hR, hx _, hx _, hx _⟩, ?_⟩
  refine ⟨fun c1 => ?_, fun c1 => ?_⟩
  · skip
    skip
    refine ⟨by exact hb 1 (by decide) (by decide), ?_⟩
    refine ⟨by exact hb 2 (by decide) (by decide), ?_⟩
    refine ⟨by exact hb 3 (by decide) (by decide), ?_⟩
    refine ⟨by exact ⟨rel_m (hR1 _), hx _, hx _, hx _⟩, ?_⟩
    intro G_1 B_1 g1
    have hR2 := rel_qd (hR1 _) g1.1
    have t2 : G_1 25 0 = 0 := by
      have w := g1.2
      rw [em] at w
      exact w.trans (if_pos c1)
    have v2 := (g1.1.2 43 (w32 0) (by decide)).trans upA_s
    refine ⟨fun c2 => ?_, fun c2 => ?_⟩
    · skip
      skip
      refine ⟨fun _ => ?_, fun q => absurd (by decide) q⟩
      refine ⟨by decide, ?_⟩
      refine ⟨fun c3 => ?_, fun c3 => ?_⟩
      · skip
        skip
        exact ⟨rfl, rfl, rfl, rfl, rfl, hR2, by decide⟩
      · skip
        skip
        refine ⟨by decide, ?_⟩
        exact absurd (law_e v2 (by rw [em, if_pos c1])) c3
    · skip
      skip
      refine ⟨by decide, ?_⟩
      exact absurd (by rw [t2]) c2
  · skip
    skip
    refine ⟨by exact hb 1 (by decide) (by decide), ?_⟩
    refine ⟨by exact hb 2 (by decide) (by decide), ?_⟩
    refine ⟨by exact hb 3 (by decide) (by decide), ?_⟩
    refine ⟨by exact ⟨rel_m hR, hx _, hx _, hx _⟩, ?_⟩
    intro G_1 B_1 g1
    have hR2 := rel_qd hR g1.1
    have t2 : G_1 25 0 = 1 := by
      have w := g1.2
      rw [e0] at w
      exact w.trans (if_neg c1)
    refine ⟨fun c2 => ?_, fun c2 => ?_⟩
    · skip
      skip
      refine ⟨fun q => absurd q (by decide), fun _ => ?_⟩
      exact ⟨rfl, rfl, rfl, rfl, rfl, hR2, by decide⟩
    · skip
      skip
      refine ⟨by decide, ?_⟩
      exact absurd (by rw [t2]) c2
def qkL_23 : Nat → Option CI := fun pc => cond (Nat.ble 3593 pc) none (cond (Nat.ble 1626 pc) (cond (Nat.ble 1649 pc) (cond (Nat.ble 1656 pc) (cond (Nat.ble 1661 pc) (cond (Nat.beq pc 1661) (some (.goto 1928, 1664, [3589])) (cond (Nat.beq pc 3589) (some (.iinc 4 6, 3592, [])) (cond (Nat.beq pc 3592) (some (.goto (-3569), 3595, [23])) (none)))) (cond (Nat.beq pc 1656) (some (.ifCond .eq 5, 1659, [1661])) (cond (Nat.beq pc 1659) (some (.iconst 0, 1660, [])) (cond (Nat.beq pc 1660) (some (.ireturn, 1661, [])) (none))))) (cond (Nat.ble 1652 pc) (cond (Nat.beq pc 1652) (some (.iload 6, 1654, [])) (cond (Nat.beq pc 1654) (some (.i2l, 1655, [])) (cond (Nat.beq pc 1655) (some (.lcmp, 1656, [])) (none)))) (cond (Nat.beq pc 1649) (some (.aload_n 3, 1650, [])) (cond (Nat.beq pc 1650) (some (.iconst 0, 1651, [])) (cond (Nat.beq pc 1651) (some (.laload, 1652, [])) (none)))))) (cond (Nat.ble 1637 pc) (cond (Nat.ble 1643 pc) (cond (Nat.beq pc 1643) (some (.ireturn, 1644, [])) (cond (Nat.beq pc 1644) (some (.iload 5, 1646, [])) (cond (Nat.beq pc 1646) (some (.ifCond .ne 15, 1649, [1661])) (none)))) (cond (Nat.beq pc 1637) (some (.iload 5, 1639, [])) (cond (Nat.beq pc 1639) (some (.if_icmp .eq 5, 1642, [1644])) (cond (Nat.beq pc 1642) (some (.iconst 0, 1643, [])) (none))))) (cond (Nat.ble 1631 pc) (cond (Nat.beq pc 1631) (some (.istore 6, 1633, [])) (cond (Nat.beq pc 1633) (some (.aload_n 2, 1634, [])) (cond (Nat.beq pc 1634) (some (.invokevirtual 175, 1637, [])) (none)))) (cond (Nat.beq pc 1626) (some (.iadd, 1627, [])) (cond (Nat.beq pc 1627) (some (.iaload, 1628, [])) (cond (Nat.beq pc 1628) (some (.invokevirtual 223, 1631, [])) (none))))))) (cond (Nat.ble 1609 pc) (cond (Nat.ble 1619 pc) (cond (Nat.ble 1622 pc) (cond (Nat.beq pc 1622) (some (.aload_n 0, 1623, [])) (cond (Nat.beq pc 1623) (some (.iload 4, 1625, [])) (cond (Nat.beq pc 1625) (some (.iconst 2, 1626, [])) (none)))) (cond (Nat.beq pc 1619) (some (.iconst 1, 1620, [])) (cond (Nat.beq pc 1620) (some (.iadd, 1621, [])) (cond (Nat.beq pc 1621) (some (.iaload, 1622, [])) (none))))) (cond (Nat.ble 1615 pc) (cond (Nat.beq pc 1615) (some (.aload_n 2, 1616, [])) (cond (Nat.beq pc 1616) (some (.aload_n 0, 1617, [])) (cond (Nat.beq pc 1617) (some (.iload 4, 1619, [])) (none)))) (cond (Nat.beq pc 1609) (some (.aload_n 3, 1610, [])) (cond (Nat.beq pc 1610) (some (.invokestatic 221, 1613, [])) (cond (Nat.beq pc 1613) (some (.istore 5, 1615, [])) (none)))))) (cond (Nat.ble 1602 pc) (cond (Nat.ble 1606 pc) (cond (Nat.beq pc 1606) (some (.iconst 2, 1607, [])) (cond (Nat.beq pc 1607) (some (.iadd, 1608, [])) (cond (Nat.beq pc 1608) (some (.iaload, 1609, [])) (none)))) (cond (Nat.beq pc 1602) (some (.iaload, 1603, [])) (cond (Nat.beq pc 1603) (some (.aload_n 0, 1604, [])) (cond (Nat.beq pc 1604) (some (.iload 4, 1606, [])) (none))))) (cond (Nat.ble 1598 pc) (cond (Nat.beq pc 1598) (some (.iload 4, 1600, [])) (cond (Nat.beq pc 1600) (some (.iconst 1, 1601, [])) (cond (Nat.beq pc 1601) (some (.iadd, 1602, [])) (none)))) (cond (Nat.beq pc 1596) (some (.aload_n 1, 1597, [])) (cond (Nat.beq pc 1597) (some (.aload_n 0, 1598, [])) (none)))))))
theorem qkL_23_ok : ∀ pc i nx ts, qkL_23 pc = some (i, nx, ts) → am_cok cL_law pc (i, nx, ts) = true := fun pc i nx ts h => am_tok_ok (n := 3593) (by decide +kernel) (fun pc h => by show cond (Nat.ble 3593 pc) _ _ = _; rw [Nat.ble_eq_true_of_le h]; rfl) h
def qaL_23 : Nat → Option CE := fun k => cond (Nat.beq k 221) (some qeL_rootCount) (cond (Nat.beq k 223) (some qeX9_rootCount) (cond (Nat.beq k 175) (some qeX9_thrown) (none)))
theorem qyL_23 (l : Launch) (hst : l.stackTraces = false) : ∀ k e1, qaL_23 k = some e1 → am_cal l layL RL 40 k e1 ∧ True := q_cons ⟨am_calS (qtL_rootCount l hst) qbL_rootCount (by decide) rfl (by decide) (am_tb_at 1071 (by decide +kernel) rfl), trivial⟩ (q_cons ⟨am_calV (ci := 9) (am_CT_mono layM_L (qtX9_rootCount l)) qbX9_rootCount (by decide) rfl (am_tb_at 1813 (by decide +kernel) rfl), trivial⟩ (q_cons ⟨am_calV (ci := 9) (am_CT_mono layM_L (qtX9_thrown l)) qbX9_thrown (by decide) rfl (am_tb_at 1481 (by decide +kernel) rfl), trivial⟩ (q_nil)))
def qxL_23 (Ls : Int) (xs : Int → Int) : CX := (qkL_23, layL, qfL, qaL_23, qcL, qlL, qmL, some .boolean, false, none, 2, some (Ls, xs), fun _ => none)
theorem qzL_23 (l : Launch) (hst : l.stackTraces = false) (Ls : Int) (xs : Int → Int) : am_sta l (qxL_23 Ls xs) RL 40 cL_law := ⟨qkL_23_ok, layL_ok, qfL_ok, qcL_ok, qlL_ok, am_mthP qmL_ok (by decide), fun k e1 h => (qyL_23 l hst k e1 h).1⟩
set_option maxRecDepth 20000 in
theorem qvL_23 (Ls : Int) (xs : Int → Int) (F : FF) (A : AA) (i : Int) (hx : ∀ j, -2147483648 ≤ xs j ∧ xs j < 2147483648) (hL : Ls ≤ 3072) (i0 : 0 ≤ i) (i1 : i + 6 ≤ Ls) (hR : REL F A) : am_stp (qxL_23 Ls xs) (am_run (qxL_23 Ls xs) lawC (lawI i) lawK 46) lawK 1596 [some (vR 999), some (vR 0), some (vR 25), some (vR 43), some (vI i), none, none, none] [] F A 0 := by
  have hb : ∀ k : Int, 0 ≤ k → k ≤ 5 → 0 ≤ w32 (i + k) ∧ w32 (i + k) < Ls := fun k k0 k1 => by rw [w32_id (by omega) (by omega)]; omega
  have e0 : mF A = A 2 := hR.1.1.symm
  show (0 ≤ w32 (i + 1) ∧ w32 (i + 1) < Ls) ∧ ((0 ≤ w32 (i + 2) ∧ w32 (i + 2) < Ls) ∧ ((fgOK (A 2) ∧ (-2147483648 ≤ (xs (w32 (i + 1))) ∧ (xs (w32 (i + 1))) < 2147483648) ∧ (-2147483648 ≤ (xs (w32 (i + 2))) ∧ (xs (w32 (i + 2))) < 2147483648) ∧ rtB (A 2)) ∧ (((0 ≤ (xs (w32 (i + 1))) ∧ (xs (w32 (i + 1))) < A 2 0) ∧ 0 ≤ (xs (w32 (i + 2))) ∧ (xs (w32 (i + 2))) < A 2 1 → (∀ (G_1 : FF) (B_1 : AA), (qrP F G_1 A B_1) → ((0 ≤ w32 (i + 1) ∧ w32 (i + 1) < Ls) ∧ ((0 ≤ w32 (i + 2) ∧ w32 (i + 2) < Ls) ∧ ((fgOK (mF (upA B_1 43 (w32 0) (w32 (if azP (cfL (A 2) (xs (w32 (i + 1))) (xs (w32 (i + 2)))) (Int.toNat (A 2 (18 + (xs (w32 (i + 1)))))) then -1 else ((rtsX (A 2) (xs (w32 (i + 1))) (xs (w32 (i + 2)))).length : Int))))) ∧ (-2147483648 ≤ (xs (w32 (i + 1))) ∧ (xs (w32 (i + 1))) < 2147483648) ∧ (-2147483648 ≤ (xs (w32 (i + 2))) ∧ (xs (w32 (i + 2))) < 2147483648) ∧ RTB) ∧ (∀ (G_2 : FF) (B_2 : AA), (qdP G_1 G_2 (upA B_1 43 (w32 0) (w32 (if azP (cfL (A 2) (xs (w32 (i + 1))) (xs (w32 (i + 2)))) (Int.toNat (A 2 (18 + (xs (w32 (i + 1)))))) then -1 else ((rtsX (A 2) (xs (w32 (i + 1))) (xs (w32 (i + 2)))).length : Int)))) B_2 ∧ G_2 25 0 = (if (0 ≤ (xs (w32 (i + 1))) ∧ (xs (w32 (i + 1))) < mF (upA B_1 43 (w32 0) (w32 (if azP (cfL (A 2) (xs (w32 (i + 1))) (xs (w32 (i + 2)))) (Int.toNat (A 2 (18 + (xs (w32 (i + 1)))))) then -1 else ((rtsX (A 2) (xs (w32 (i + 1))) (xs (w32 (i + 2)))).length : Int)))) 0) ∧ 0 ≤ (xs (w32 (i + 2))) ∧ (xs (w32 (i + 2))) < mF (upA B_1 43 (w32 0) (w32 (if azP (cfL (A 2) (xs (w32 (i + 1))) (xs (w32 (i + 2)))) (Int.toNat (A 2 (18 + (xs (w32 (i + 1)))))) then -1 else ((rtsX (A 2) (xs (w32 (i + 1))) (xs (w32 (i + 2)))).length : Int)))) 1 then 0 else 1)) → ((w32 (G_2 25 0) = w32 0 → ((w32 0 = w32 0 → ((0 ≤ w32 0 ∧ w32 0 < 1) ∧ ((w32 (y_cmp (B_2 43 (w32 0)) (w32 (if (0 ≤ (xs (w32 (i + 1))) ∧ (xs (w32 (i + 1))) < mF (upA B_1 43 (w32 0) (w32 (if azP (cfL (A 2) (xs (w32 (i + 1))) (xs (w32 (i + 2)))) (Int.toNat (A 2 (18 + (xs (w32 (i + 1)))))) then -1 else ((rtsX (A 2) (xs (w32 (i + 1))) (xs (w32 (i + 2)))).length : Int)))) 0) ∧ 0 ≤ (xs (w32 (i + 2))) ∧ (xs (w32 (i + 2))) < mF (upA B_1 43 (w32 0) (w32 (if azP (cfL (A 2) (xs (w32 (i + 1))) (xs (w32 (i + 2)))) (Int.toNat (A 2 (18 + (xs (w32 (i + 1)))))) then -1 else ((rtsX (A 2) (xs (w32 (i + 1))) (xs (w32 (i + 2)))).length : Int)))) 1 then (if azP (cfL (mF (upA B_1 43 (w32 0) (w32 (if azP (cfL (A 2) (xs (w32 (i + 1))) (xs (w32 (i + 2)))) (Int.toNat (A 2 (18 + (xs (w32 (i + 1)))))) then -1 else ((rtsX (A 2) (xs (w32 (i + 1))) (xs (w32 (i + 2)))).length : Int))))) (xs (w32 (i + 1))) (xs (w32 (i + 2)))) (Int.toNat (mF (upA B_1 43 (w32 0) (w32 (if azP (cfL (A 2) (xs (w32 (i + 1))) (xs (w32 (i + 2)))) (Int.toNat (A 2 (18 + (xs (w32 (i + 1)))))) then -1 else ((rtsX (A 2) (xs (w32 (i + 1))) (xs (w32 (i + 2)))).length : Int)))) (18 + (xs (w32 (i + 1)))))) then -1 else ((rtsX (mF (upA B_1 43 (w32 0) (w32 (if azP (cfL (A 2) (xs (w32 (i + 1))) (xs (w32 (i + 2)))) (Int.toNat (A 2 (18 + (xs (w32 (i + 1)))))) then -1 else ((rtsX (A 2) (xs (w32 (i + 1))) (xs (w32 (i + 2)))).length : Int))))) (xs (w32 (i + 1))) (xs (w32 (i + 2)))).length : Int)) else 0))) = w32 0 → ((999 : Nat) = 999 ∧ (0 : Nat) = 0 ∧ (25 : Nat) = 25 ∧ (43 : Nat) = 43 ∧ i + 6 = i + 6 ∧ REL G_2 B_2 ∧ (2 : Nat) ≤ 2)) ∧ (¬ (w32 (y_cmp (B_2 43 (w32 0)) (w32 (if (0 ≤ (xs (w32 (i + 1))) ∧ (xs (w32 (i + 1))) < mF (upA B_1 43 (w32 0) (w32 (if azP (cfL (A 2) (xs (w32 (i + 1))) (xs (w32 (i + 2)))) (Int.toNat (A 2 (18 + (xs (w32 (i + 1)))))) then -1 else ((rtsX (A 2) (xs (w32 (i + 1))) (xs (w32 (i + 2)))).length : Int)))) 0) ∧ 0 ≤ (xs (w32 (i + 2))) ∧ (xs (w32 (i + 2))) < mF (upA B_1 43 (w32 0) (w32 (if azP (cfL (A 2) (xs (w32 (i + 1))) (xs (w32 (i + 2)))) (Int.toNat (A 2 (18 + (xs (w32 (i + 1)))))) then -1 else ((rtsX (A 2) (xs (w32 (i + 1))) (xs (w32 (i + 2)))).length : Int)))) 1 then (if azP (cfL (mF (upA B_1 43 (w32 0) (w32 (if azP (cfL (A 2) (xs (w32 (i + 1))) (xs (w32 (i + 2)))) (Int.toNat (A 2 (18 + (xs (w32 (i + 1)))))) then -1 else ((rtsX (A 2) (xs (w32 (i + 1))) (xs (w32 (i + 2)))).length : Int))))) (xs (w32 (i + 1))) (xs (w32 (i + 2)))) (Int.toNat (mF (upA B_1 43 (w32 0) (w32 (if azP (cfL (A 2) (xs (w32 (i + 1))) (xs (w32 (i + 2)))) (Int.toNat (A 2 (18 + (xs (w32 (i + 1)))))) then -1 else ((rtsX (A 2) (xs (w32 (i + 1))) (xs (w32 (i + 2)))).length : Int)))) (18 + (xs (w32 (i + 1)))))) then -1 else ((rtsX (mF (upA B_1 43 (w32 0) (w32 (if azP (cfL (A 2) (xs (w32 (i + 1))) (xs (w32 (i + 2)))) (Int.toNat (A 2 (18 + (xs (w32 (i + 1)))))) then -1 else ((rtsX (A 2) (xs (w32 (i + 1))) (xs (w32 (i + 2)))).length : Int))))) (xs (w32 (i + 1))) (xs (w32 (i + 2)))).length : Int)) else 0))) = w32 0) → (((0 : Int) = 0 ∨ (0 : Int) = 1) ∧ (lawK (some (some (vI 0))) G_2 B_2)))))) ∧ (¬ w32 0 = w32 0 → _))) ∧ (¬ w32 (G_2 25 0) = w32 0 → (((0 : Int) = 0 ∨ (0 : Int) = 1) ∧ (lawK (some (some (vI 0))) G_2 B_2)))))))))) ∧ (¬ ((0 ≤ (xs (w32 (i + 1))) ∧ (xs (w32 (i + 1))) < A 2 0) ∧ 0 ≤ (xs (w32 (i + 2))) ∧ (xs (w32 (i + 2))) < A 2 1) → ((0 ≤ w32 (i + 1) ∧ w32 (i + 1) < Ls) ∧ ((0 ≤ w32 (i + 2) ∧ w32 (i + 2) < Ls) ∧ ((fgOK (mF A) ∧ (-2147483648 ≤ (xs (w32 (i + 1))) ∧ (xs (w32 (i + 1))) < 2147483648) ∧ (-2147483648 ≤ (xs (w32 (i + 2))) ∧ (xs (w32 (i + 2))) < 2147483648) ∧ RTB) ∧ (∀ (G_1 : FF) (B_1 : AA), (qdP F G_1 A B_1 ∧ G_1 25 0 = (if (0 ≤ (xs (w32 (i + 1))) ∧ (xs (w32 (i + 1))) < mF A 0) ∧ 0 ≤ (xs (w32 (i + 2))) ∧ (xs (w32 (i + 2))) < mF A 1 then 0 else 1)) → ((w32 (G_1 25 0) = w32 1 → ((w32 1 = w32 0 → _) ∧ (¬ w32 1 = w32 0 → ((999 : Nat) = 999 ∧ (0 : Nat) = 0 ∧ (25 : Nat) = 25 ∧ (43 : Nat) = 43 ∧ i + 6 = i + 6 ∧ REL G_1 B_1 ∧ (2 : Nat) ≤ 2)))) ∧ (¬ w32 (G_1 25 0) = w32 1 → (((0 : Int) = 0 ∨ (0 : Int) = 1) ∧ (lawK (some (some (vI 0))) G_1 B_1))))))))))))
  refine ⟨by exact hb 1 (by decide) (by decide), ?_⟩
  refine ⟨by exact hb 2 (by decide) (by decide), ?_⟩
  refine ⟨by exact ⟨rel_f hR, hx _, hx _, RTB_T _ (rel_f hR)⟩, ?_⟩
  refine ⟨fun c1 => ?_, fun c1 => ?_⟩
  · skip
    skip
    intro G_1 B_1 g1
    have hR1 : ∀ v, REL G_1 (upA B_1 43 (w32 0) v) := fun v => rel_up (rel_qr hR g1)
    have em : ∀ v, mF (upA B_1 43 (w32 0) v) = A 2 := fun v => (hR1 v).1.1.symm.trans ((upA_r (by decide)).trans (funext fun i => (g1).2.1 2 i (by decide)))
    refine ⟨by exact hb 1 (by decide) (by decide), ?_⟩
    refine ⟨by exact hb 2 (by decide) (by decide), ?_⟩
    refine ⟨by exact ⟨rel_m (hR1 _), hx _, hx _, RTB_T⟩, ?_⟩
    intro G_2 B_2 g2
    have hR2 := rel_qd (hR1 _) g2.1
    have t2 : G_2 25 0 = 0 := by
      have w := g2.2
      rw [em] at w
      exact w.trans (if_pos c1)
    have v2 := (g2.1.2 43 (w32 0) (by decide)).trans upA_s
    refine ⟨fun c2 => ?_, fun c2 => ?_⟩
    · skip
      skip
      refine ⟨fun _ => ?_, fun q => absurd (by decide) q⟩
      refine ⟨by decide, ?_⟩
      refine ⟨fun c3 => ?_, fun c3 => ?_⟩
      · skip
        skip
        exact ⟨rfl, rfl, rfl, rfl, rfl, hR2, by decide⟩
      · skip
        skip
        refine ⟨by decide, ?_⟩
        exact absurd (law_e v2 (by rw [em, if_pos c1])) c3
    · skip
      skip
      refine ⟨by decide, ?_⟩
      exact absurd (by rw [t2]) c2
  · skip
    skip
    refine ⟨by exact hb 1 (by decide) (by decide), ?_⟩
    refine ⟨by exact hb 2 (by decide) (by decide), ?_⟩
    refine ⟨by exact ⟨rel_m hR, hx _, hx _, RTB_T⟩, ?_⟩
    intro G_1 B_1 g1
    have hR2 := rel_qd hR g1.1
    have t2 : G_1 25 0 = 1 := by
      have w := g1.2
      rw [e0] at w
      exact w.trans (if_neg c1)
    refine ⟨fun c2 => ?_, fun c2 => ?_⟩
    · skip
      skip
      refine ⟨fun q => absurd q (by decide), fun _ => ?_⟩
      exact ⟨rfl, rfl, rfl, rfl, rfl, hR2, by decide⟩
    · skip
      skip
      refine ⟨by decide, ?_⟩
      exact absurd (by rw [t2]) c2
def qkL_24 : Nat → Option CI := fun pc => cond (Nat.ble 3593 pc) none (cond (Nat.ble 1700 pc) (cond (Nat.ble 1723 pc) (cond (Nat.ble 1734 pc) (cond (Nat.ble 1740 pc) (cond (Nat.ble 3589 pc) (cond (Nat.beq pc 3589) (some (.iinc 4 6, 3592, [])) (cond (Nat.beq pc 3592) (some (.goto (-3569), 3595, [23])) (none))) (cond (Nat.beq pc 1740) (some (.ireturn, 1741, [])) (cond (Nat.beq pc 1741) (some (.goto 1848, 1744, [3589])) (none)))) (cond (Nat.ble 1736 pc) (cond (Nat.beq pc 1736) (some (.ifCond .eq 5, 1739, [1741])) (cond (Nat.beq pc 1739) (some (.iconst 0, 1740, [])) (none))) (cond (Nat.beq pc 1734) (some (.i2l, 1735, [])) (cond (Nat.beq pc 1735) (some (.lcmp, 1736, [])) (none))))) (cond (Nat.ble 1729 pc) (cond (Nat.ble 1731 pc) (cond (Nat.beq pc 1731) (some (.laload, 1732, [])) (cond (Nat.beq pc 1732) (some (.iload 6, 1734, [])) (none))) (cond (Nat.beq pc 1729) (some (.aload_n 3, 1730, [])) (cond (Nat.beq pc 1730) (some (.iconst 0, 1731, [])) (none)))) (cond (Nat.beq pc 1723) (some (.ireturn, 1724, [])) (cond (Nat.beq pc 1724) (some (.iload 5, 1726, [])) (cond (Nat.beq pc 1726) (some (.ifCond .ne 15, 1729, [1741])) (none)))))) (cond (Nat.ble 1708 pc) (cond (Nat.ble 1714 pc) (cond (Nat.ble 1719 pc) (cond (Nat.beq pc 1719) (some (.if_icmp .eq 5, 1722, [1724])) (cond (Nat.beq pc 1722) (some (.iconst 0, 1723, [])) (none))) (cond (Nat.beq pc 1714) (some (.invokevirtual 175, 1717, [])) (cond (Nat.beq pc 1717) (some (.iload 5, 1719, [])) (none)))) (cond (Nat.beq pc 1708) (some (.invokevirtual 226, 1711, [])) (cond (Nat.beq pc 1711) (some (.istore 6, 1713, [])) (cond (Nat.beq pc 1713) (some (.aload_n 2, 1714, [])) (none))))) (cond (Nat.ble 1703 pc) (cond (Nat.ble 1706 pc) (cond (Nat.beq pc 1706) (some (.iadd, 1707, [])) (cond (Nat.beq pc 1707) (some (.iaload, 1708, [])) (none))) (cond (Nat.beq pc 1703) (some (.iload 4, 1705, [])) (cond (Nat.beq pc 1705) (some (.iconst 3, 1706, [])) (none)))) (cond (Nat.beq pc 1700) (some (.iadd, 1701, [])) (cond (Nat.beq pc 1701) (some (.iaload, 1702, [])) (cond (Nat.beq pc 1702) (some (.aload_n 0, 1703, [])) (none))))))) (cond (Nat.ble 1681 pc) (cond (Nat.ble 1691 pc) (cond (Nat.ble 1695 pc) (cond (Nat.ble 1697 pc) (cond (Nat.beq pc 1697) (some (.iload 4, 1699, [])) (cond (Nat.beq pc 1699) (some (.iconst 2, 1700, [])) (none))) (cond (Nat.beq pc 1695) (some (.iaload, 1696, [])) (cond (Nat.beq pc 1696) (some (.aload_n 0, 1697, [])) (none)))) (cond (Nat.beq pc 1691) (some (.iload 4, 1693, [])) (cond (Nat.beq pc 1693) (some (.iconst 1, 1694, [])) (cond (Nat.beq pc 1694) (some (.iadd, 1695, [])) (none))))) (cond (Nat.ble 1684 pc) (cond (Nat.ble 1689 pc) (cond (Nat.beq pc 1689) (some (.aload_n 2, 1690, [])) (cond (Nat.beq pc 1690) (some (.aload_n 0, 1691, [])) (none))) (cond (Nat.beq pc 1684) (some (.invokestatic 224, 1687, [])) (cond (Nat.beq pc 1687) (some (.istore 5, 1689, [])) (none)))) (cond (Nat.beq pc 1681) (some (.iadd, 1682, [])) (cond (Nat.beq pc 1682) (some (.iaload, 1683, [])) (cond (Nat.beq pc 1683) (some (.aload_n 3, 1684, [])) (none)))))) (cond (Nat.ble 1672 pc) (cond (Nat.ble 1676 pc) (cond (Nat.ble 1678 pc) (cond (Nat.beq pc 1678) (some (.iload 4, 1680, [])) (cond (Nat.beq pc 1680) (some (.iconst 3, 1681, [])) (none))) (cond (Nat.beq pc 1676) (some (.iaload, 1677, [])) (cond (Nat.beq pc 1677) (some (.aload_n 0, 1678, [])) (none)))) (cond (Nat.beq pc 1672) (some (.iload 4, 1674, [])) (cond (Nat.beq pc 1674) (some (.iconst 2, 1675, [])) (cond (Nat.beq pc 1675) (some (.iadd, 1676, [])) (none))))) (cond (Nat.ble 1668 pc) (cond (Nat.ble 1670 pc) (cond (Nat.beq pc 1670) (some (.iaload, 1671, [])) (cond (Nat.beq pc 1671) (some (.aload_n 0, 1672, [])) (none))) (cond (Nat.beq pc 1668) (some (.iconst 1, 1669, [])) (cond (Nat.beq pc 1669) (some (.iadd, 1670, [])) (none)))) (cond (Nat.beq pc 1664) (some (.aload_n 1, 1665, [])) (cond (Nat.beq pc 1665) (some (.aload_n 0, 1666, [])) (cond (Nat.beq pc 1666) (some (.iload 4, 1668, [])) (none))))))))
theorem qkL_24_ok : ∀ pc i nx ts, qkL_24 pc = some (i, nx, ts) → am_cok cL_law pc (i, nx, ts) = true := fun pc i nx ts h => am_tok_ok (n := 3593) (by decide +kernel) (fun pc h => by show cond (Nat.ble 3593 pc) _ _ = _; rw [Nat.ble_eq_true_of_le h]; rfl) h
def qaL_24 : Nat → Option CE := fun k => cond (Nat.beq k 224) (some qeL_rootsOf) (cond (Nat.beq k 226) (some qeX9_rootsOf) (cond (Nat.beq k 175) (some qeX9_thrown) (none)))
theorem qyL_24 (l : Launch) (hst : l.stackTraces = false) : ∀ k e1, qaL_24 k = some e1 → am_cal l layL RL 40 k e1 ∧ True := q_cons ⟨am_calS (qtL_rootsOf l hst) qbL_rootsOf (by decide) rfl (by decide) (am_tb_at 1082 (by decide +kernel) rfl), trivial⟩ (q_cons ⟨am_calV (ci := 9) (am_CT_mono layM_L (qtX9_rootsOf l)) qbX9_rootsOf (by decide) rfl (am_tb_at 1829 (by decide +kernel) rfl), trivial⟩ (q_cons ⟨am_calV (ci := 9) (am_CT_mono layM_L (qtX9_thrown l)) qbX9_thrown (by decide) rfl (am_tb_at 1481 (by decide +kernel) rfl), trivial⟩ (q_nil)))
def qxL_24 (Ls : Int) (xs : Int → Int) : CX := (qkL_24, layL, qfL, qaL_24, qcL, qlL, qmL, some .boolean, false, none, 2, some (Ls, xs), fun _ => none)
theorem qzL_24 (l : Launch) (hst : l.stackTraces = false) (Ls : Int) (xs : Int → Int) : am_sta l (qxL_24 Ls xs) RL 40 cL_law := ⟨qkL_24_ok, layL_ok, qfL_ok, qcL_ok, qlL_ok, am_mthP qmL_ok (by decide), fun k e1 h => (qyL_24 l hst k e1 h).1⟩
set_option maxRecDepth 20000 in
theorem qvL_24 (Ls : Int) (xs : Int → Int) (F : FF) (A : AA) (i : Int) (hx : ∀ j, -2147483648 ≤ xs j ∧ xs j < 2147483648) (hL : Ls ≤ 3072) (i0 : 0 ≤ i) (i1 : i + 6 ≤ Ls) (hR : REL F A) : am_stp (qxL_24 Ls xs) (am_run (qxL_24 Ls xs) lawC (lawI i) lawK 56) lawK 1664 [some (vR 999), some (vR 0), some (vR 25), some (vR 43), some (vI i), none, none, none] [] F A 0 := by
  have hb : ∀ k : Int, 0 ≤ k → k ≤ 5 → 0 ≤ w32 (i + k) ∧ w32 (i + k) < Ls := fun k k0 k1 => by rw [w32_id (by omega) (by omega)]; omega
  have e0 : mF A = A 2 := hR.1.1.symm
  show (0 ≤ w32 (i + 1) ∧ w32 (i + 1) < Ls) ∧ ((0 ≤ w32 (i + 2) ∧ w32 (i + 2) < Ls) ∧ ((0 ≤ w32 (i + 3) ∧ w32 (i + 3) < Ls) ∧ ((fgOK (A 2) ∧ (-2147483648 ≤ (xs (w32 (i + 1))) ∧ (xs (w32 (i + 1))) < 2147483648) ∧ (-2147483648 ≤ (xs (w32 (i + 2))) ∧ (xs (w32 (i + 2))) < 2147483648) ∧ (-2147483648 ≤ (xs (w32 (i + 3))) ∧ (xs (w32 (i + 3))) < 2147483648) ∧ rtB (A 2)) ∧ (((0 ≤ (xs (w32 (i + 1))) ∧ (xs (w32 (i + 1))) < A 2 0) ∧ 0 ≤ (xs (w32 (i + 2))) ∧ (xs (w32 (i + 2))) < A 2 1 → (∀ (G_1 : FF) (B_1 : AA), (qrP F G_1 A B_1) → ((0 ≤ w32 (i + 1) ∧ w32 (i + 1) < Ls) ∧ ((0 ≤ w32 (i + 2) ∧ w32 (i + 2) < Ls) ∧ ((0 ≤ w32 (i + 3) ∧ w32 (i + 3) < Ls) ∧ ((fgOK (mF (upA B_1 43 (w32 0) (w32 (if 0 ≤ (xs (w32 (i + 3))) ∧ (xs (w32 (i + 3))) ≤ 2 then (if azP (cfL (A 2) (xs (w32 (i + 1))) (xs (w32 (i + 2)))) (Int.toNat (A 2 (18 + (xs (w32 (i + 1)))))) then -1 else cntK (ktF (rtsX (A 2) (xs (w32 (i + 1))) (xs (w32 (i + 2))))) (xs (w32 (i + 3))) (rtsX (A 2) (xs (w32 (i + 1))) (xs (w32 (i + 2)))).length) else -2)))) ∧ (-2147483648 ≤ (xs (w32 (i + 1))) ∧ (xs (w32 (i + 1))) < 2147483648) ∧ (-2147483648 ≤ (xs (w32 (i + 2))) ∧ (xs (w32 (i + 2))) < 2147483648) ∧ (-2147483648 ≤ (xs (w32 (i + 3))) ∧ (xs (w32 (i + 3))) < 2147483648) ∧ RTB) ∧ (∀ (G_2 : FF) (B_2 : AA), (qdP G_1 G_2 (upA B_1 43 (w32 0) (w32 (if 0 ≤ (xs (w32 (i + 3))) ∧ (xs (w32 (i + 3))) ≤ 2 then (if azP (cfL (A 2) (xs (w32 (i + 1))) (xs (w32 (i + 2)))) (Int.toNat (A 2 (18 + (xs (w32 (i + 1)))))) then -1 else cntK (ktF (rtsX (A 2) (xs (w32 (i + 1))) (xs (w32 (i + 2))))) (xs (w32 (i + 3))) (rtsX (A 2) (xs (w32 (i + 1))) (xs (w32 (i + 2)))).length) else -2))) B_2 ∧ G_2 25 0 = (if (0 ≤ (xs (w32 (i + 1))) ∧ (xs (w32 (i + 1))) < mF (upA B_1 43 (w32 0) (w32 (if 0 ≤ (xs (w32 (i + 3))) ∧ (xs (w32 (i + 3))) ≤ 2 then (if azP (cfL (A 2) (xs (w32 (i + 1))) (xs (w32 (i + 2)))) (Int.toNat (A 2 (18 + (xs (w32 (i + 1)))))) then -1 else cntK (ktF (rtsX (A 2) (xs (w32 (i + 1))) (xs (w32 (i + 2))))) (xs (w32 (i + 3))) (rtsX (A 2) (xs (w32 (i + 1))) (xs (w32 (i + 2)))).length) else -2))) 0) ∧ 0 ≤ (xs (w32 (i + 2))) ∧ (xs (w32 (i + 2))) < mF (upA B_1 43 (w32 0) (w32 (if 0 ≤ (xs (w32 (i + 3))) ∧ (xs (w32 (i + 3))) ≤ 2 then (if azP (cfL (A 2) (xs (w32 (i + 1))) (xs (w32 (i + 2)))) (Int.toNat (A 2 (18 + (xs (w32 (i + 1)))))) then -1 else cntK (ktF (rtsX (A 2) (xs (w32 (i + 1))) (xs (w32 (i + 2))))) (xs (w32 (i + 3))) (rtsX (A 2) (xs (w32 (i + 1))) (xs (w32 (i + 2)))).length) else -2))) 1 then 0 else 1)) → ((w32 (G_2 25 0) = w32 0 → ((w32 0 = w32 0 → ((0 ≤ w32 0 ∧ w32 0 < 1) ∧ ((w32 (y_cmp (B_2 43 (w32 0)) (w32 (if (0 ≤ (xs (w32 (i + 1))) ∧ (xs (w32 (i + 1))) < mF (upA B_1 43 (w32 0) (w32 (if 0 ≤ (xs (w32 (i + 3))) ∧ (xs (w32 (i + 3))) ≤ 2 then (if azP (cfL (A 2) (xs (w32 (i + 1))) (xs (w32 (i + 2)))) (Int.toNat (A 2 (18 + (xs (w32 (i + 1)))))) then -1 else cntK (ktF (rtsX (A 2) (xs (w32 (i + 1))) (xs (w32 (i + 2))))) (xs (w32 (i + 3))) (rtsX (A 2) (xs (w32 (i + 1))) (xs (w32 (i + 2)))).length) else -2))) 0) ∧ 0 ≤ (xs (w32 (i + 2))) ∧ (xs (w32 (i + 2))) < mF (upA B_1 43 (w32 0) (w32 (if 0 ≤ (xs (w32 (i + 3))) ∧ (xs (w32 (i + 3))) ≤ 2 then (if azP (cfL (A 2) (xs (w32 (i + 1))) (xs (w32 (i + 2)))) (Int.toNat (A 2 (18 + (xs (w32 (i + 1)))))) then -1 else cntK (ktF (rtsX (A 2) (xs (w32 (i + 1))) (xs (w32 (i + 2))))) (xs (w32 (i + 3))) (rtsX (A 2) (xs (w32 (i + 1))) (xs (w32 (i + 2)))).length) else -2))) 1 then (if 0 ≤ (xs (w32 (i + 3))) ∧ (xs (w32 (i + 3))) ≤ 2 then (if azP (cfL (mF (upA B_1 43 (w32 0) (w32 (if 0 ≤ (xs (w32 (i + 3))) ∧ (xs (w32 (i + 3))) ≤ 2 then (if azP (cfL (A 2) (xs (w32 (i + 1))) (xs (w32 (i + 2)))) (Int.toNat (A 2 (18 + (xs (w32 (i + 1)))))) then -1 else cntK (ktF (rtsX (A 2) (xs (w32 (i + 1))) (xs (w32 (i + 2))))) (xs (w32 (i + 3))) (rtsX (A 2) (xs (w32 (i + 1))) (xs (w32 (i + 2)))).length) else -2)))) (xs (w32 (i + 1))) (xs (w32 (i + 2)))) (Int.toNat (mF (upA B_1 43 (w32 0) (w32 (if 0 ≤ (xs (w32 (i + 3))) ∧ (xs (w32 (i + 3))) ≤ 2 then (if azP (cfL (A 2) (xs (w32 (i + 1))) (xs (w32 (i + 2)))) (Int.toNat (A 2 (18 + (xs (w32 (i + 1)))))) then -1 else cntK (ktF (rtsX (A 2) (xs (w32 (i + 1))) (xs (w32 (i + 2))))) (xs (w32 (i + 3))) (rtsX (A 2) (xs (w32 (i + 1))) (xs (w32 (i + 2)))).length) else -2))) (18 + (xs (w32 (i + 1)))))) then -1 else cntK (ktF (rtsX (mF (upA B_1 43 (w32 0) (w32 (if 0 ≤ (xs (w32 (i + 3))) ∧ (xs (w32 (i + 3))) ≤ 2 then (if azP (cfL (A 2) (xs (w32 (i + 1))) (xs (w32 (i + 2)))) (Int.toNat (A 2 (18 + (xs (w32 (i + 1)))))) then -1 else cntK (ktF (rtsX (A 2) (xs (w32 (i + 1))) (xs (w32 (i + 2))))) (xs (w32 (i + 3))) (rtsX (A 2) (xs (w32 (i + 1))) (xs (w32 (i + 2)))).length) else -2)))) (xs (w32 (i + 1))) (xs (w32 (i + 2))))) (xs (w32 (i + 3))) (rtsX (mF (upA B_1 43 (w32 0) (w32 (if 0 ≤ (xs (w32 (i + 3))) ∧ (xs (w32 (i + 3))) ≤ 2 then (if azP (cfL (A 2) (xs (w32 (i + 1))) (xs (w32 (i + 2)))) (Int.toNat (A 2 (18 + (xs (w32 (i + 1)))))) then -1 else cntK (ktF (rtsX (A 2) (xs (w32 (i + 1))) (xs (w32 (i + 2))))) (xs (w32 (i + 3))) (rtsX (A 2) (xs (w32 (i + 1))) (xs (w32 (i + 2)))).length) else -2)))) (xs (w32 (i + 1))) (xs (w32 (i + 2)))).length) else -2) else 0))) = w32 0 → ((999 : Nat) = 999 ∧ (0 : Nat) = 0 ∧ (25 : Nat) = 25 ∧ (43 : Nat) = 43 ∧ i + 6 = i + 6 ∧ REL G_2 B_2 ∧ (2 : Nat) ≤ 2)) ∧ (¬ (w32 (y_cmp (B_2 43 (w32 0)) (w32 (if (0 ≤ (xs (w32 (i + 1))) ∧ (xs (w32 (i + 1))) < mF (upA B_1 43 (w32 0) (w32 (if 0 ≤ (xs (w32 (i + 3))) ∧ (xs (w32 (i + 3))) ≤ 2 then (if azP (cfL (A 2) (xs (w32 (i + 1))) (xs (w32 (i + 2)))) (Int.toNat (A 2 (18 + (xs (w32 (i + 1)))))) then -1 else cntK (ktF (rtsX (A 2) (xs (w32 (i + 1))) (xs (w32 (i + 2))))) (xs (w32 (i + 3))) (rtsX (A 2) (xs (w32 (i + 1))) (xs (w32 (i + 2)))).length) else -2))) 0) ∧ 0 ≤ (xs (w32 (i + 2))) ∧ (xs (w32 (i + 2))) < mF (upA B_1 43 (w32 0) (w32 (if 0 ≤ (xs (w32 (i + 3))) ∧ (xs (w32 (i + 3))) ≤ 2 then (if azP (cfL (A 2) (xs (w32 (i + 1))) (xs (w32 (i + 2)))) (Int.toNat (A 2 (18 + (xs (w32 (i + 1)))))) then -1 else cntK (ktF (rtsX (A 2) (xs (w32 (i + 1))) (xs (w32 (i + 2))))) (xs (w32 (i + 3))) (rtsX (A 2) (xs (w32 (i + 1))) (xs (w32 (i + 2)))).length) else -2))) 1 then (if 0 ≤ (xs (w32 (i + 3))) ∧ (xs (w32 (i + 3))) ≤ 2 then (if azP (cfL (mF (upA B_1 43 (w32 0) (w32 (if 0 ≤ (xs (w32 (i + 3))) ∧ (xs (w32 (i + 3))) ≤ 2 then (if azP (cfL (A 2) (xs (w32 (i + 1))) (xs (w32 (i + 2)))) (Int.toNat (A 2 (18 + (xs (w32 (i + 1)))))) then -1 else cntK (ktF (rtsX (A 2) (xs (w32 (i + 1))) (xs (w32 (i + 2))))) (xs (w32 (i + 3))) (rtsX (A 2) (xs (w32 (i + 1))) (xs (w32 (i + 2)))).length) else -2)))) (xs (w32 (i + 1))) (xs (w32 (i + 2)))) (Int.toNat (mF (upA B_1 43 (w32 0) (w32 (if 0 ≤ (xs (w32 (i + 3))) ∧ (xs (w32 (i + 3))) ≤ 2 then (if azP (cfL (A 2) (xs (w32 (i + 1))) (xs (w32 (i + 2)))) (Int.toNat (A 2 (18 + (xs (w32 (i + 1)))))) then -1 else cntK (ktF (rtsX (A 2) (xs (w32 (i + 1))) (xs (w32 (i + 2))))) (xs (w32 (i + 3))) (rtsX (A 2) (xs (w32 (i + 1))) (xs (w32 (i + 2)))).length) else -2))) (18 + (xs (w32 (i + 1)))))) then -1 else cntK (ktF (rtsX (mF (upA B_1 43 (w32 0) (w32 (if 0 ≤ (xs (w32 (i + 3))) ∧ (xs (w32 (i + 3))) ≤ 2 then (if azP (cfL (A 2) (xs (w32 (i + 1))) (xs (w32 (i + 2)))) (Int.toNat (A 2 (18 + (xs (w32 (i + 1)))))) then -1 else cntK (ktF (rtsX (A 2) (xs (w32 (i + 1))) (xs (w32 (i + 2))))) (xs (w32 (i + 3))) (rtsX (A 2) (xs (w32 (i + 1))) (xs (w32 (i + 2)))).length) else -2)))) (xs (w32 (i + 1))) (xs (w32 (i + 2))))) (xs (w32 (i + 3))) (rtsX (mF (upA B_1 43 (w32 0) (w32 (if 0 ≤ (xs (w32 (i + 3))) ∧ (xs (w32 (i + 3))) ≤ 2 then (if azP (cfL (A 2) (xs (w32 (i + 1))) (xs (w32 (i + 2)))) (Int.toNat (A 2 (18 + (xs (w32 (i + 1)))))) then -1 else cntK (ktF (rtsX (A 2) (xs (w32 (i + 1))) (xs (w32 (i + 2))))) (xs (w32 (i + 3))) (rtsX (A 2) (xs (w32 (i + 1))) (xs (w32 (i + 2)))).length) else -2)))) (xs (w32 (i + 1))) (xs (w32 (i + 2)))).length) else -2) else 0))) = w32 0) → (((0 : Int) = 0 ∨ (0 : Int) = 1) ∧ (lawK (some (some (vI 0))) G_2 B_2)))))) ∧ (¬ w32 0 = w32 0 → _))) ∧ (¬ w32 (G_2 25 0) = w32 0 → (((0 : Int) = 0 ∨ (0 : Int) = 1) ∧ (lawK (some (some (vI 0))) G_2 B_2))))))))))) ∧ (¬ ((0 ≤ (xs (w32 (i + 1))) ∧ (xs (w32 (i + 1))) < A 2 0) ∧ 0 ≤ (xs (w32 (i + 2))) ∧ (xs (w32 (i + 2))) < A 2 1) → ((0 ≤ w32 (i + 1) ∧ w32 (i + 1) < Ls) ∧ ((0 ≤ w32 (i + 2) ∧ w32 (i + 2) < Ls) ∧ ((0 ≤ w32 (i + 3) ∧ w32 (i + 3) < Ls) ∧ ((fgOK (mF A) ∧ (-2147483648 ≤ (xs (w32 (i + 1))) ∧ (xs (w32 (i + 1))) < 2147483648) ∧ (-2147483648 ≤ (xs (w32 (i + 2))) ∧ (xs (w32 (i + 2))) < 2147483648) ∧ (-2147483648 ≤ (xs (w32 (i + 3))) ∧ (xs (w32 (i + 3))) < 2147483648) ∧ RTB) ∧ (∀ (G_1 : FF) (B_1 : AA), (qdP F G_1 A B_1 ∧ G_1 25 0 = (if (0 ≤ (xs (w32 (i + 1))) ∧ (xs (w32 (i + 1))) < mF A 0) ∧ 0 ≤ (xs (w32 (i + 2))) ∧ (xs (w32 (i + 2))) < mF A 1 then 0 else 1)) → ((w32 (G_1 25 0) = w32 1 → ((w32 1 = w32 0 → _) ∧ (¬ w32 1 = w32 0 → ((999 : Nat) = 999 ∧ (0 : Nat) = 0 ∧ (25 : Nat) = 25 ∧ (43 : Nat) = 43 ∧ i + 6 = i + 6 ∧ REL G_1 B_1 ∧ (2 : Nat) ≤ 2)))) ∧ (¬ w32 (G_1 25 0) = w32 1 → (((0 : Int) = 0 ∨ (0 : Int) = 1) ∧ (lawK (some (some (vI 0))) G_1 B_1))))))))))))))
  refine ⟨by exact hb 1 (by decide) (by decide), ?_⟩
  refine ⟨by exact hb 2 (by decide) (by decide), ?_⟩
  refine ⟨by exact hb 3 (by decide) (by decide), ?_⟩
  refine ⟨by exact ⟨rel_f hR, hx _, hx _, hx _, RTB_T _ (rel_f hR)⟩, ?_⟩
  refine ⟨fun c1 => ?_, fun c1 => ?_⟩
  · skip
    skip
    intro G_1 B_1 g1
    have hR1 : ∀ v, REL G_1 (upA B_1 43 (w32 0) v) := fun v => rel_up (rel_qr hR g1)
    have em : ∀ v, mF (upA B_1 43 (w32 0) v) = A 2 := fun v => (hR1 v).1.1.symm.trans ((upA_r (by decide)).trans (funext fun i => (g1).2.1 2 i (by decide)))
    refine ⟨by exact hb 1 (by decide) (by decide), ?_⟩
    refine ⟨by exact hb 2 (by decide) (by decide), ?_⟩
    refine ⟨by exact hb 3 (by decide) (by decide), ?_⟩
    refine ⟨by exact ⟨rel_m (hR1 _), hx _, hx _, hx _, RTB_T⟩, ?_⟩
    intro G_2 B_2 g2
    have hR2 := rel_qd (hR1 _) g2.1
    have t2 : G_2 25 0 = 0 := by
      have w := g2.2
      rw [em] at w
      exact w.trans (if_pos c1)
    have v2 := (g2.1.2 43 (w32 0) (by decide)).trans upA_s
    refine ⟨fun c2 => ?_, fun c2 => ?_⟩
    · skip
      skip
      refine ⟨fun _ => ?_, fun q => absurd (by decide) q⟩
      refine ⟨by decide, ?_⟩
      refine ⟨fun c3 => ?_, fun c3 => ?_⟩
      · skip
        skip
        exact ⟨rfl, rfl, rfl, rfl, rfl, hR2, by decide⟩
      · skip
        skip
        refine ⟨by decide, ?_⟩
        exact absurd (law_e v2 (by rw [em, if_pos c1])) c3
    · skip
      skip
      refine ⟨by decide, ?_⟩
      exact absurd (by rw [t2]) c2
  · skip
    skip
    refine ⟨by exact hb 1 (by decide) (by decide), ?_⟩
    refine ⟨by exact hb 2 (by decide) (by decide), ?_⟩
    refine ⟨by exact hb 3 (by decide) (by decide), ?_⟩
    refine ⟨by exact ⟨rel_m hR, hx _, hx _, hx _, RTB_T⟩, ?_⟩
    intro G_1 B_1 g1
    have hR2 := rel_qd hR g1.1
    have t2 : G_1 25 0 = 1 := by
      have w := g1.2
      rw [e0] at w
      exact w.trans (if_neg c1)
    refine ⟨fun c2 => ?_, fun c2 => ?_⟩
    · skip
      skip
      refine ⟨fun q => absurd q (by decide), fun _ => ?_⟩
      exact ⟨rfl, rfl, rfl, rfl, rfl, hR2, by decide⟩
    · skip
      skip
      refine ⟨by decide, ?_⟩
      exact absurd (by rw [t2]) c2
def qkL_25 : Nat → Option CI := fun pc => cond (Nat.ble 3593 pc) none (cond (Nat.ble 1780 pc) (cond (Nat.ble 1803 pc) (cond (Nat.ble 1814 pc) (cond (Nat.ble 1820 pc) (cond (Nat.ble 3589 pc) (cond (Nat.beq pc 3589) (some (.iinc 4 6, 3592, [])) (cond (Nat.beq pc 3592) (some (.goto (-3569), 3595, [23])) (none))) (cond (Nat.beq pc 1820) (some (.ireturn, 1821, [])) (cond (Nat.beq pc 1821) (some (.goto 1768, 1824, [3589])) (none)))) (cond (Nat.ble 1816 pc) (cond (Nat.beq pc 1816) (some (.ifCond .eq 5, 1819, [1821])) (cond (Nat.beq pc 1819) (some (.iconst 0, 1820, [])) (none))) (cond (Nat.beq pc 1814) (some (.i2l, 1815, [])) (cond (Nat.beq pc 1815) (some (.lcmp, 1816, [])) (none))))) (cond (Nat.ble 1809 pc) (cond (Nat.ble 1811 pc) (cond (Nat.beq pc 1811) (some (.laload, 1812, [])) (cond (Nat.beq pc 1812) (some (.iload 6, 1814, [])) (none))) (cond (Nat.beq pc 1809) (some (.aload_n 3, 1810, [])) (cond (Nat.beq pc 1810) (some (.iconst 0, 1811, [])) (none)))) (cond (Nat.beq pc 1803) (some (.ireturn, 1804, [])) (cond (Nat.beq pc 1804) (some (.iload 5, 1806, [])) (cond (Nat.beq pc 1806) (some (.ifCond .ne 15, 1809, [1821])) (none)))))) (cond (Nat.ble 1788 pc) (cond (Nat.ble 1794 pc) (cond (Nat.ble 1799 pc) (cond (Nat.beq pc 1799) (some (.if_icmp .eq 5, 1802, [1804])) (cond (Nat.beq pc 1802) (some (.iconst 0, 1803, [])) (none))) (cond (Nat.beq pc 1794) (some (.invokevirtual 175, 1797, [])) (cond (Nat.beq pc 1797) (some (.iload 5, 1799, [])) (none)))) (cond (Nat.beq pc 1788) (some (.invokevirtual 229, 1791, [])) (cond (Nat.beq pc 1791) (some (.istore 6, 1793, [])) (cond (Nat.beq pc 1793) (some (.aload_n 2, 1794, [])) (none))))) (cond (Nat.ble 1783 pc) (cond (Nat.ble 1786 pc) (cond (Nat.beq pc 1786) (some (.iadd, 1787, [])) (cond (Nat.beq pc 1787) (some (.iaload, 1788, [])) (none))) (cond (Nat.beq pc 1783) (some (.iload 4, 1785, [])) (cond (Nat.beq pc 1785) (some (.iconst 3, 1786, [])) (none)))) (cond (Nat.beq pc 1780) (some (.iadd, 1781, [])) (cond (Nat.beq pc 1781) (some (.iaload, 1782, [])) (cond (Nat.beq pc 1782) (some (.aload_n 0, 1783, [])) (none))))))) (cond (Nat.ble 1761 pc) (cond (Nat.ble 1771 pc) (cond (Nat.ble 1775 pc) (cond (Nat.ble 1777 pc) (cond (Nat.beq pc 1777) (some (.iload 4, 1779, [])) (cond (Nat.beq pc 1779) (some (.iconst 2, 1780, [])) (none))) (cond (Nat.beq pc 1775) (some (.iaload, 1776, [])) (cond (Nat.beq pc 1776) (some (.aload_n 0, 1777, [])) (none)))) (cond (Nat.beq pc 1771) (some (.iload 4, 1773, [])) (cond (Nat.beq pc 1773) (some (.iconst 1, 1774, [])) (cond (Nat.beq pc 1774) (some (.iadd, 1775, [])) (none))))) (cond (Nat.ble 1764 pc) (cond (Nat.ble 1769 pc) (cond (Nat.beq pc 1769) (some (.aload_n 2, 1770, [])) (cond (Nat.beq pc 1770) (some (.aload_n 0, 1771, [])) (none))) (cond (Nat.beq pc 1764) (some (.invokestatic 227, 1767, [])) (cond (Nat.beq pc 1767) (some (.istore 5, 1769, [])) (none)))) (cond (Nat.beq pc 1761) (some (.iadd, 1762, [])) (cond (Nat.beq pc 1762) (some (.iaload, 1763, [])) (cond (Nat.beq pc 1763) (some (.aload_n 3, 1764, [])) (none)))))) (cond (Nat.ble 1752 pc) (cond (Nat.ble 1756 pc) (cond (Nat.ble 1758 pc) (cond (Nat.beq pc 1758) (some (.iload 4, 1760, [])) (cond (Nat.beq pc 1760) (some (.iconst 3, 1761, [])) (none))) (cond (Nat.beq pc 1756) (some (.iaload, 1757, [])) (cond (Nat.beq pc 1757) (some (.aload_n 0, 1758, [])) (none)))) (cond (Nat.beq pc 1752) (some (.iload 4, 1754, [])) (cond (Nat.beq pc 1754) (some (.iconst 2, 1755, [])) (cond (Nat.beq pc 1755) (some (.iadd, 1756, [])) (none))))) (cond (Nat.ble 1748 pc) (cond (Nat.ble 1750 pc) (cond (Nat.beq pc 1750) (some (.iaload, 1751, [])) (cond (Nat.beq pc 1751) (some (.aload_n 0, 1752, [])) (none))) (cond (Nat.beq pc 1748) (some (.iconst 1, 1749, [])) (cond (Nat.beq pc 1749) (some (.iadd, 1750, [])) (none)))) (cond (Nat.beq pc 1744) (some (.aload_n 1, 1745, [])) (cond (Nat.beq pc 1745) (some (.aload_n 0, 1746, [])) (cond (Nat.beq pc 1746) (some (.iload 4, 1748, [])) (none))))))))
theorem qkL_25_ok : ∀ pc i nx ts, qkL_25 pc = some (i, nx, ts) → am_cok cL_law pc (i, nx, ts) = true := fun pc i nx ts h => am_tok_ok (n := 3593) (by decide +kernel) (fun pc h => by show cond (Nat.ble 3593 pc) _ _ = _; rw [Nat.ble_eq_true_of_le h]; rfl) h
def qaL_25 : Nat → Option CE := fun k => cond (Nat.beq k 227) (some qeL_rootKind) (cond (Nat.beq k 229) (some qeX9_rootKind) (cond (Nat.beq k 175) (some qeX9_thrown) (none)))
theorem qyL_25 (l : Launch) (hst : l.stackTraces = false) : ∀ k e1, qaL_25 k = some e1 → am_cal l layL RL 40 k e1 ∧ True := q_cons ⟨am_calS (qtL_rootKind l hst) qbL_rootKind (by decide) rfl (by decide) (am_tb_at 1089 (by decide +kernel) rfl), trivial⟩ (q_cons ⟨am_calV (ci := 9) (am_CT_mono layM_L (qtX9_rootKind l)) qbX9_rootKind (by decide) rfl (am_tb_at 1837 (by decide +kernel) rfl), trivial⟩ (q_cons ⟨am_calV (ci := 9) (am_CT_mono layM_L (qtX9_thrown l)) qbX9_thrown (by decide) rfl (am_tb_at 1481 (by decide +kernel) rfl), trivial⟩ (q_nil)))
def qxL_25 (Ls : Int) (xs : Int → Int) : CX := (qkL_25, layL, qfL, qaL_25, qcL, qlL, qmL, some .boolean, false, none, 2, some (Ls, xs), fun _ => none)
theorem qzL_25 (l : Launch) (hst : l.stackTraces = false) (Ls : Int) (xs : Int → Int) : am_sta l (qxL_25 Ls xs) RL 40 cL_law := ⟨qkL_25_ok, layL_ok, qfL_ok, qcL_ok, qlL_ok, am_mthP qmL_ok (by decide), fun k e1 h => (qyL_25 l hst k e1 h).1⟩
set_option maxRecDepth 20000 in
theorem qvL_25 (Ls : Int) (xs : Int → Int) (F : FF) (A : AA) (i : Int) (hx : ∀ j, -2147483648 ≤ xs j ∧ xs j < 2147483648) (hL : Ls ≤ 3072) (i0 : 0 ≤ i) (i1 : i + 6 ≤ Ls) (hR : REL F A) : am_stp (qxL_25 Ls xs) (am_run (qxL_25 Ls xs) lawC (lawI i) lawK 56) lawK 1744 [some (vR 999), some (vR 0), some (vR 25), some (vR 43), some (vI i), none, none, none] [] F A 0 := by
  have hb : ∀ k : Int, 0 ≤ k → k ≤ 5 → 0 ≤ w32 (i + k) ∧ w32 (i + k) < Ls := fun k k0 k1 => by rw [w32_id (by omega) (by omega)]; omega
  have e0 : mF A = A 2 := hR.1.1.symm
  show (0 ≤ w32 (i + 1) ∧ w32 (i + 1) < Ls) ∧ ((0 ≤ w32 (i + 2) ∧ w32 (i + 2) < Ls) ∧ ((0 ≤ w32 (i + 3) ∧ w32 (i + 3) < Ls) ∧ ((fgOK (A 2) ∧ (-2147483648 ≤ (xs (w32 (i + 1))) ∧ (xs (w32 (i + 1))) < 2147483648) ∧ (-2147483648 ≤ (xs (w32 (i + 2))) ∧ (xs (w32 (i + 2))) < 2147483648) ∧ (-2147483648 ≤ (xs (w32 (i + 3))) ∧ (xs (w32 (i + 3))) < 2147483648) ∧ rtB (A 2)) ∧ (((0 ≤ (xs (w32 (i + 1))) ∧ (xs (w32 (i + 1))) < A 2 0) ∧ 0 ≤ (xs (w32 (i + 2))) ∧ (xs (w32 (i + 2))) < A 2 1 → (∀ (G_1 : FF) (B_1 : AA), (qrP F G_1 A B_1) → ((0 ≤ w32 (i + 1) ∧ w32 (i + 1) < Ls) ∧ ((0 ≤ w32 (i + 2) ∧ w32 (i + 2) < Ls) ∧ ((0 ≤ w32 (i + 3) ∧ w32 (i + 3) < Ls) ∧ ((fgOK (mF (upA B_1 43 (w32 0) (w32 (if 0 ≤ (xs (w32 (i + 3))) ∧ (xs (w32 (i + 3))) < ((rtsX (A 2) (xs (w32 (i + 1))) (xs (w32 (i + 2)))).length : Int) then ((rtsX (A 2) (xs (w32 (i + 1))) (xs (w32 (i + 2)))).getD (Int.toNat (xs (w32 (i + 3)))) (0, 0, 0)).1 else -1)))) ∧ (-2147483648 ≤ (xs (w32 (i + 1))) ∧ (xs (w32 (i + 1))) < 2147483648) ∧ (-2147483648 ≤ (xs (w32 (i + 2))) ∧ (xs (w32 (i + 2))) < 2147483648) ∧ (-2147483648 ≤ (xs (w32 (i + 3))) ∧ (xs (w32 (i + 3))) < 2147483648) ∧ RTB) ∧ (∀ (G_2 : FF) (B_2 : AA), (qdP G_1 G_2 (upA B_1 43 (w32 0) (w32 (if 0 ≤ (xs (w32 (i + 3))) ∧ (xs (w32 (i + 3))) < ((rtsX (A 2) (xs (w32 (i + 1))) (xs (w32 (i + 2)))).length : Int) then ((rtsX (A 2) (xs (w32 (i + 1))) (xs (w32 (i + 2)))).getD (Int.toNat (xs (w32 (i + 3)))) (0, 0, 0)).1 else -1))) B_2 ∧ G_2 25 0 = (if (0 ≤ (xs (w32 (i + 1))) ∧ (xs (w32 (i + 1))) < mF (upA B_1 43 (w32 0) (w32 (if 0 ≤ (xs (w32 (i + 3))) ∧ (xs (w32 (i + 3))) < ((rtsX (A 2) (xs (w32 (i + 1))) (xs (w32 (i + 2)))).length : Int) then ((rtsX (A 2) (xs (w32 (i + 1))) (xs (w32 (i + 2)))).getD (Int.toNat (xs (w32 (i + 3)))) (0, 0, 0)).1 else -1))) 0) ∧ 0 ≤ (xs (w32 (i + 2))) ∧ (xs (w32 (i + 2))) < mF (upA B_1 43 (w32 0) (w32 (if 0 ≤ (xs (w32 (i + 3))) ∧ (xs (w32 (i + 3))) < ((rtsX (A 2) (xs (w32 (i + 1))) (xs (w32 (i + 2)))).length : Int) then ((rtsX (A 2) (xs (w32 (i + 1))) (xs (w32 (i + 2)))).getD (Int.toNat (xs (w32 (i + 3)))) (0, 0, 0)).1 else -1))) 1 then 0 else 1)) → ((w32 (G_2 25 0) = w32 0 → ((w32 0 = w32 0 → ((0 ≤ w32 0 ∧ w32 0 < 1) ∧ ((w32 (y_cmp (B_2 43 (w32 0)) (w32 (if (0 ≤ (xs (w32 (i + 1))) ∧ (xs (w32 (i + 1))) < mF (upA B_1 43 (w32 0) (w32 (if 0 ≤ (xs (w32 (i + 3))) ∧ (xs (w32 (i + 3))) < ((rtsX (A 2) (xs (w32 (i + 1))) (xs (w32 (i + 2)))).length : Int) then ((rtsX (A 2) (xs (w32 (i + 1))) (xs (w32 (i + 2)))).getD (Int.toNat (xs (w32 (i + 3)))) (0, 0, 0)).1 else -1))) 0) ∧ 0 ≤ (xs (w32 (i + 2))) ∧ (xs (w32 (i + 2))) < mF (upA B_1 43 (w32 0) (w32 (if 0 ≤ (xs (w32 (i + 3))) ∧ (xs (w32 (i + 3))) < ((rtsX (A 2) (xs (w32 (i + 1))) (xs (w32 (i + 2)))).length : Int) then ((rtsX (A 2) (xs (w32 (i + 1))) (xs (w32 (i + 2)))).getD (Int.toNat (xs (w32 (i + 3)))) (0, 0, 0)).1 else -1))) 1 then (if 0 ≤ (xs (w32 (i + 3))) ∧ (xs (w32 (i + 3))) < ((rtsX (mF (upA B_1 43 (w32 0) (w32 (if 0 ≤ (xs (w32 (i + 3))) ∧ (xs (w32 (i + 3))) < ((rtsX (A 2) (xs (w32 (i + 1))) (xs (w32 (i + 2)))).length : Int) then ((rtsX (A 2) (xs (w32 (i + 1))) (xs (w32 (i + 2)))).getD (Int.toNat (xs (w32 (i + 3)))) (0, 0, 0)).1 else -1)))) (xs (w32 (i + 1))) (xs (w32 (i + 2)))).length : Int) then ((rtsX (mF (upA B_1 43 (w32 0) (w32 (if 0 ≤ (xs (w32 (i + 3))) ∧ (xs (w32 (i + 3))) < ((rtsX (A 2) (xs (w32 (i + 1))) (xs (w32 (i + 2)))).length : Int) then ((rtsX (A 2) (xs (w32 (i + 1))) (xs (w32 (i + 2)))).getD (Int.toNat (xs (w32 (i + 3)))) (0, 0, 0)).1 else -1)))) (xs (w32 (i + 1))) (xs (w32 (i + 2)))).getD (Int.toNat (xs (w32 (i + 3)))) (0, 0, 0)).1 else -1) else 0))) = w32 0 → ((999 : Nat) = 999 ∧ (0 : Nat) = 0 ∧ (25 : Nat) = 25 ∧ (43 : Nat) = 43 ∧ i + 6 = i + 6 ∧ REL G_2 B_2 ∧ (2 : Nat) ≤ 2)) ∧ (¬ (w32 (y_cmp (B_2 43 (w32 0)) (w32 (if (0 ≤ (xs (w32 (i + 1))) ∧ (xs (w32 (i + 1))) < mF (upA B_1 43 (w32 0) (w32 (if 0 ≤ (xs (w32 (i + 3))) ∧ (xs (w32 (i + 3))) < ((rtsX (A 2) (xs (w32 (i + 1))) (xs (w32 (i + 2)))).length : Int) then ((rtsX (A 2) (xs (w32 (i + 1))) (xs (w32 (i + 2)))).getD (Int.toNat (xs (w32 (i + 3)))) (0, 0, 0)).1 else -1))) 0) ∧ 0 ≤ (xs (w32 (i + 2))) ∧ (xs (w32 (i + 2))) < mF (upA B_1 43 (w32 0) (w32 (if 0 ≤ (xs (w32 (i + 3))) ∧ (xs (w32 (i + 3))) < ((rtsX (A 2) (xs (w32 (i + 1))) (xs (w32 (i + 2)))).length : Int) then ((rtsX (A 2) (xs (w32 (i + 1))) (xs (w32 (i + 2)))).getD (Int.toNat (xs (w32 (i + 3)))) (0, 0, 0)).1 else -1))) 1 then (if 0 ≤ (xs (w32 (i + 3))) ∧ (xs (w32 (i + 3))) < ((rtsX (mF (upA B_1 43 (w32 0) (w32 (if 0 ≤ (xs (w32 (i + 3))) ∧ (xs (w32 (i + 3))) < ((rtsX (A 2) (xs (w32 (i + 1))) (xs (w32 (i + 2)))).length : Int) then ((rtsX (A 2) (xs (w32 (i + 1))) (xs (w32 (i + 2)))).getD (Int.toNat (xs (w32 (i + 3)))) (0, 0, 0)).1 else -1)))) (xs (w32 (i + 1))) (xs (w32 (i + 2)))).length : Int) then ((rtsX (mF (upA B_1 43 (w32 0) (w32 (if 0 ≤ (xs (w32 (i + 3))) ∧ (xs (w32 (i + 3))) < ((rtsX (A 2) (xs (w32 (i + 1))) (xs (w32 (i + 2)))).length : Int) then ((rtsX (A 2) (xs (w32 (i + 1))) (xs (w32 (i + 2)))).getD (Int.toNat (xs (w32 (i + 3)))) (0, 0, 0)).1 else -1)))) (xs (w32 (i + 1))) (xs (w32 (i + 2)))).getD (Int.toNat (xs (w32 (i + 3)))) (0, 0, 0)).1 else -1) else 0))) = w32 0) → (((0 : Int) = 0 ∨ (0 : Int) = 1) ∧ (lawK (some (some (vI 0))) G_2 B_2)))))) ∧ (¬ w32 0 = w32 0 → _))) ∧ (¬ w32 (G_2 25 0) = w32 0 → (((0 : Int) = 0 ∨ (0 : Int) = 1) ∧ (lawK (some (some (vI 0))) G_2 B_2))))))))))) ∧ (¬ ((0 ≤ (xs (w32 (i + 1))) ∧ (xs (w32 (i + 1))) < A 2 0) ∧ 0 ≤ (xs (w32 (i + 2))) ∧ (xs (w32 (i + 2))) < A 2 1) → ((0 ≤ w32 (i + 1) ∧ w32 (i + 1) < Ls) ∧ ((0 ≤ w32 (i + 2) ∧ w32 (i + 2) < Ls) ∧ ((0 ≤ w32 (i + 3) ∧ w32 (i + 3) < Ls) ∧ ((fgOK (mF A) ∧ (-2147483648 ≤ (xs (w32 (i + 1))) ∧ (xs (w32 (i + 1))) < 2147483648) ∧ (-2147483648 ≤ (xs (w32 (i + 2))) ∧ (xs (w32 (i + 2))) < 2147483648) ∧ (-2147483648 ≤ (xs (w32 (i + 3))) ∧ (xs (w32 (i + 3))) < 2147483648) ∧ RTB) ∧ (∀ (G_1 : FF) (B_1 : AA), (qdP F G_1 A B_1 ∧ G_1 25 0 = (if (0 ≤ (xs (w32 (i + 1))) ∧ (xs (w32 (i + 1))) < mF A 0) ∧ 0 ≤ (xs (w32 (i + 2))) ∧ (xs (w32 (i + 2))) < mF A 1 then 0 else 1)) → ((w32 (G_1 25 0) = w32 1 → ((w32 1 = w32 0 → _) ∧ (¬ w32 1 = w32 0 → ((999 : Nat) = 999 ∧ (0 : Nat) = 0 ∧ (25 : Nat) = 25 ∧ (43 : Nat) = 43 ∧ i + 6 = i + 6 ∧ REL G_1 B_1 ∧ (2 : Nat) ≤ 2)))) ∧ (¬ w32 (G_1 25 0) = w32 1 → (((0 : Int) = 0 ∨ (0 : Int) = 1) ∧ (lawK (some (some (vI 0))) G_1 B_1))))))))))))))
  refine ⟨by exact hb 1 (by decide) (by decide), ?_⟩
  refine ⟨by exact hb 2 (by decide) (by decide), ?_⟩
  refine ⟨by exact hb 3 (by decide) (by decide), ?_⟩
  refine ⟨by exact ⟨rel_f hR, hx _, hx _, hx _, RTB_T _ (rel_f hR)⟩, ?_⟩
  refine ⟨fun c1 => ?_, fun c1 => ?_⟩
  · skip
    skip
    intro G_1 B_1 g1
    have hR1 : ∀ v, REL G_1 (upA B_1 43 (w32 0) v) := fun v => rel_up (rel_qr hR g1)
    have em : ∀ v, mF (upA B_1 43 (w32 0) v) = A 2 := fun v => (hR1 v).1.1.symm.trans ((upA_r (by decide)).trans (funext fun i => (g1).2.1 2 i (by decide)))
    refine ⟨by exact hb 1 (by decide) (by decide), ?_⟩
    refine ⟨by exact hb 2 (by decide) (by decide), ?_⟩
    refine ⟨by exact hb 3 (by decide) (by decide), ?_⟩
    refine ⟨by exact ⟨rel_m (hR1 _), hx _, hx _, hx _, RTB_T⟩, ?_⟩
    intro G_2 B_2 g2
    have hR2 := rel_qd (hR1 _) g2.1
    have t2 : G_2 25 0 = 0 := by
      have w := g2.2
      rw [em] at w
      exact w.trans (if_pos c1)
    have v2 := (g2.1.2 43 (w32 0) (by decide)).trans upA_s
    refine ⟨fun c2 => ?_, fun c2 => ?_⟩
    · skip
      skip
      refine ⟨fun _ => ?_, fun q => absurd (by decide) q⟩
      refine ⟨by decide, ?_⟩
      refine ⟨fun c3 => ?_, fun c3 => ?_⟩
      · skip
        skip
        exact ⟨rfl, rfl, rfl, rfl, rfl, hR2, by decide⟩
      · skip
        skip
        refine ⟨by decide, ?_⟩
        exact absurd (law_e v2 (by rw [em, if_pos c1])) c3
    · skip
      skip
      refine ⟨by decide, ?_⟩
      exact absurd (by rw [t2]) c2
  · skip
    skip
    refine ⟨by exact hb 1 (by decide) (by decide), ?_⟩
    refine ⟨by exact hb 2 (by decide) (by decide), ?_⟩
    refine ⟨by exact hb 3 (by decide) (by decide), ?_⟩
    refine ⟨by exact ⟨rel_m hR, hx _, hx _, hx _, RTB_T⟩, ?_⟩
    intro G_1 B_1 g1
    have hR2 := rel_qd hR g1.1
    have t2 : G_1 25 0 = 1 := by
      have w := g1.2
      rw [e0] at w
      exact w.trans (if_neg c1)
    refine ⟨fun c2 => ?_, fun c2 => ?_⟩
    · skip
      skip
      refine ⟨fun q => absurd q (by decide), fun _ => ?_⟩
      exact ⟨rfl, rfl, rfl, rfl, rfl, hR2, by decide⟩
    · skip
      skip
      refine ⟨by decide, ?_⟩
      exact absurd (by rw [t2]) c2
def qkL_26 : Nat → Option CI := fun pc => cond (Nat.ble 3593 pc) none (cond (Nat.ble 1860 pc) (cond (Nat.ble 1883 pc) (cond (Nat.ble 1894 pc) (cond (Nat.ble 1900 pc) (cond (Nat.ble 3589 pc) (cond (Nat.beq pc 3589) (some (.iinc 4 6, 3592, [])) (cond (Nat.beq pc 3592) (some (.goto (-3569), 3595, [23])) (none))) (cond (Nat.beq pc 1900) (some (.ireturn, 1901, [])) (cond (Nat.beq pc 1901) (some (.goto 1688, 1904, [3589])) (none)))) (cond (Nat.ble 1896 pc) (cond (Nat.beq pc 1896) (some (.ifCond .eq 5, 1899, [1901])) (cond (Nat.beq pc 1899) (some (.iconst 0, 1900, [])) (none))) (cond (Nat.beq pc 1894) (some (.i2l, 1895, [])) (cond (Nat.beq pc 1895) (some (.lcmp, 1896, [])) (none))))) (cond (Nat.ble 1889 pc) (cond (Nat.ble 1891 pc) (cond (Nat.beq pc 1891) (some (.laload, 1892, [])) (cond (Nat.beq pc 1892) (some (.iload 6, 1894, [])) (none))) (cond (Nat.beq pc 1889) (some (.aload_n 3, 1890, [])) (cond (Nat.beq pc 1890) (some (.iconst 0, 1891, [])) (none)))) (cond (Nat.beq pc 1883) (some (.ireturn, 1884, [])) (cond (Nat.beq pc 1884) (some (.iload 5, 1886, [])) (cond (Nat.beq pc 1886) (some (.ifCond .ne 15, 1889, [1901])) (none)))))) (cond (Nat.ble 1868 pc) (cond (Nat.ble 1874 pc) (cond (Nat.ble 1879 pc) (cond (Nat.beq pc 1879) (some (.if_icmp .eq 5, 1882, [1884])) (cond (Nat.beq pc 1882) (some (.iconst 0, 1883, [])) (none))) (cond (Nat.beq pc 1874) (some (.invokevirtual 175, 1877, [])) (cond (Nat.beq pc 1877) (some (.iload 5, 1879, [])) (none)))) (cond (Nat.beq pc 1868) (some (.invokevirtual 232, 1871, [])) (cond (Nat.beq pc 1871) (some (.istore 6, 1873, [])) (cond (Nat.beq pc 1873) (some (.aload_n 2, 1874, [])) (none))))) (cond (Nat.ble 1863 pc) (cond (Nat.ble 1866 pc) (cond (Nat.beq pc 1866) (some (.iadd, 1867, [])) (cond (Nat.beq pc 1867) (some (.iaload, 1868, [])) (none))) (cond (Nat.beq pc 1863) (some (.iload 4, 1865, [])) (cond (Nat.beq pc 1865) (some (.iconst 3, 1866, [])) (none)))) (cond (Nat.beq pc 1860) (some (.iadd, 1861, [])) (cond (Nat.beq pc 1861) (some (.iaload, 1862, [])) (cond (Nat.beq pc 1862) (some (.aload_n 0, 1863, [])) (none))))))) (cond (Nat.ble 1841 pc) (cond (Nat.ble 1851 pc) (cond (Nat.ble 1855 pc) (cond (Nat.ble 1857 pc) (cond (Nat.beq pc 1857) (some (.iload 4, 1859, [])) (cond (Nat.beq pc 1859) (some (.iconst 2, 1860, [])) (none))) (cond (Nat.beq pc 1855) (some (.iaload, 1856, [])) (cond (Nat.beq pc 1856) (some (.aload_n 0, 1857, [])) (none)))) (cond (Nat.beq pc 1851) (some (.iload 4, 1853, [])) (cond (Nat.beq pc 1853) (some (.iconst 1, 1854, [])) (cond (Nat.beq pc 1854) (some (.iadd, 1855, [])) (none))))) (cond (Nat.ble 1844 pc) (cond (Nat.ble 1849 pc) (cond (Nat.beq pc 1849) (some (.aload_n 2, 1850, [])) (cond (Nat.beq pc 1850) (some (.aload_n 0, 1851, [])) (none))) (cond (Nat.beq pc 1844) (some (.invokestatic 230, 1847, [])) (cond (Nat.beq pc 1847) (some (.istore 5, 1849, [])) (none)))) (cond (Nat.beq pc 1841) (some (.iadd, 1842, [])) (cond (Nat.beq pc 1842) (some (.iaload, 1843, [])) (cond (Nat.beq pc 1843) (some (.aload_n 3, 1844, [])) (none)))))) (cond (Nat.ble 1832 pc) (cond (Nat.ble 1836 pc) (cond (Nat.ble 1838 pc) (cond (Nat.beq pc 1838) (some (.iload 4, 1840, [])) (cond (Nat.beq pc 1840) (some (.iconst 3, 1841, [])) (none))) (cond (Nat.beq pc 1836) (some (.iaload, 1837, [])) (cond (Nat.beq pc 1837) (some (.aload_n 0, 1838, [])) (none)))) (cond (Nat.beq pc 1832) (some (.iload 4, 1834, [])) (cond (Nat.beq pc 1834) (some (.iconst 2, 1835, [])) (cond (Nat.beq pc 1835) (some (.iadd, 1836, [])) (none))))) (cond (Nat.ble 1828 pc) (cond (Nat.ble 1830 pc) (cond (Nat.beq pc 1830) (some (.iaload, 1831, [])) (cond (Nat.beq pc 1831) (some (.aload_n 0, 1832, [])) (none))) (cond (Nat.beq pc 1828) (some (.iconst 1, 1829, [])) (cond (Nat.beq pc 1829) (some (.iadd, 1830, [])) (none)))) (cond (Nat.beq pc 1824) (some (.aload_n 1, 1825, [])) (cond (Nat.beq pc 1825) (some (.aload_n 0, 1826, [])) (cond (Nat.beq pc 1826) (some (.iload 4, 1828, [])) (none))))))))
theorem qkL_26_ok : ∀ pc i nx ts, qkL_26 pc = some (i, nx, ts) → am_cok cL_law pc (i, nx, ts) = true := fun pc i nx ts h => am_tok_ok (n := 3593) (by decide +kernel) (fun pc h => by show cond (Nat.ble 3593 pc) _ _ = _; rw [Nat.ble_eq_true_of_le h]; rfl) h
def qaL_26 : Nat → Option CE := fun k => cond (Nat.beq k 230) (some qeL_rootDepth) (cond (Nat.beq k 232) (some qeX9_rootDepth) (cond (Nat.beq k 175) (some qeX9_thrown) (none)))
theorem qyL_26 (l : Launch) (hst : l.stackTraces = false) : ∀ k e1, qaL_26 k = some e1 → am_cal l layL RL 40 k e1 ∧ True := q_cons ⟨am_calS (qtL_rootDepth l hst) qbL_rootDepth (by decide) rfl (by decide) (am_tb_at 1097 (by decide +kernel) rfl), trivial⟩ (q_cons ⟨am_calV (ci := 9) (am_CT_mono layM_L (qtX9_rootDepth l)) qbX9_rootDepth (by decide) rfl (am_tb_at 1845 (by decide +kernel) rfl), trivial⟩ (q_cons ⟨am_calV (ci := 9) (am_CT_mono layM_L (qtX9_thrown l)) qbX9_thrown (by decide) rfl (am_tb_at 1481 (by decide +kernel) rfl), trivial⟩ (q_nil)))
def qxL_26 (Ls : Int) (xs : Int → Int) : CX := (qkL_26, layL, qfL, qaL_26, qcL, qlL, qmL, some .boolean, false, none, 2, some (Ls, xs), fun _ => none)
theorem qzL_26 (l : Launch) (hst : l.stackTraces = false) (Ls : Int) (xs : Int → Int) : am_sta l (qxL_26 Ls xs) RL 40 cL_law := ⟨qkL_26_ok, layL_ok, qfL_ok, qcL_ok, qlL_ok, am_mthP qmL_ok (by decide), fun k e1 h => (qyL_26 l hst k e1 h).1⟩
set_option maxRecDepth 20000 in
theorem qvL_26 (Ls : Int) (xs : Int → Int) (F : FF) (A : AA) (i : Int) (hx : ∀ j, -2147483648 ≤ xs j ∧ xs j < 2147483648) (hL : Ls ≤ 3072) (i0 : 0 ≤ i) (i1 : i + 6 ≤ Ls) (hR : REL F A) : am_stp (qxL_26 Ls xs) (am_run (qxL_26 Ls xs) lawC (lawI i) lawK 56) lawK 1824 [some (vR 999), some (vR 0), some (vR 25), some (vR 43), some (vI i), none, none, none] [] F A 0 := by
  have hb : ∀ k : Int, 0 ≤ k → k ≤ 5 → 0 ≤ w32 (i + k) ∧ w32 (i + k) < Ls := fun k k0 k1 => by rw [w32_id (by omega) (by omega)]; omega
  have e0 : mF A = A 2 := hR.1.1.symm
  show (0 ≤ w32 (i + 1) ∧ w32 (i + 1) < Ls) ∧ ((0 ≤ w32 (i + 2) ∧ w32 (i + 2) < Ls) ∧ ((0 ≤ w32 (i + 3) ∧ w32 (i + 3) < Ls) ∧ ((fgOK (A 2) ∧ (-2147483648 ≤ (xs (w32 (i + 1))) ∧ (xs (w32 (i + 1))) < 2147483648) ∧ (-2147483648 ≤ (xs (w32 (i + 2))) ∧ (xs (w32 (i + 2))) < 2147483648) ∧ (-2147483648 ≤ (xs (w32 (i + 3))) ∧ (xs (w32 (i + 3))) < 2147483648) ∧ rtB (A 2)) ∧ (((0 ≤ (xs (w32 (i + 1))) ∧ (xs (w32 (i + 1))) < A 2 0) ∧ 0 ≤ (xs (w32 (i + 2))) ∧ (xs (w32 (i + 2))) < A 2 1 → (∀ (G_1 : FF) (B_1 : AA), (qrP F G_1 A B_1) → ((0 ≤ w32 (i + 1) ∧ w32 (i + 1) < Ls) ∧ ((0 ≤ w32 (i + 2) ∧ w32 (i + 2) < Ls) ∧ ((0 ≤ w32 (i + 3) ∧ w32 (i + 3) < Ls) ∧ ((fgOK (mF (upA B_1 43 (w32 0) (w32 (if 0 ≤ (xs (w32 (i + 3))) ∧ (xs (w32 (i + 3))) < ((rtsX (A 2) (xs (w32 (i + 1))) (xs (w32 (i + 2)))).length : Int) then ((rtsX (A 2) (xs (w32 (i + 1))) (xs (w32 (i + 2)))).getD (Int.toNat (xs (w32 (i + 3)))) (0, 0, 0)).2.1 else -1)))) ∧ (-2147483648 ≤ (xs (w32 (i + 1))) ∧ (xs (w32 (i + 1))) < 2147483648) ∧ (-2147483648 ≤ (xs (w32 (i + 2))) ∧ (xs (w32 (i + 2))) < 2147483648) ∧ (-2147483648 ≤ (xs (w32 (i + 3))) ∧ (xs (w32 (i + 3))) < 2147483648) ∧ RTB) ∧ (∀ (G_2 : FF) (B_2 : AA), (qdP G_1 G_2 (upA B_1 43 (w32 0) (w32 (if 0 ≤ (xs (w32 (i + 3))) ∧ (xs (w32 (i + 3))) < ((rtsX (A 2) (xs (w32 (i + 1))) (xs (w32 (i + 2)))).length : Int) then ((rtsX (A 2) (xs (w32 (i + 1))) (xs (w32 (i + 2)))).getD (Int.toNat (xs (w32 (i + 3)))) (0, 0, 0)).2.1 else -1))) B_2 ∧ G_2 25 0 = (if (0 ≤ (xs (w32 (i + 1))) ∧ (xs (w32 (i + 1))) < mF (upA B_1 43 (w32 0) (w32 (if 0 ≤ (xs (w32 (i + 3))) ∧ (xs (w32 (i + 3))) < ((rtsX (A 2) (xs (w32 (i + 1))) (xs (w32 (i + 2)))).length : Int) then ((rtsX (A 2) (xs (w32 (i + 1))) (xs (w32 (i + 2)))).getD (Int.toNat (xs (w32 (i + 3)))) (0, 0, 0)).2.1 else -1))) 0) ∧ 0 ≤ (xs (w32 (i + 2))) ∧ (xs (w32 (i + 2))) < mF (upA B_1 43 (w32 0) (w32 (if 0 ≤ (xs (w32 (i + 3))) ∧ (xs (w32 (i + 3))) < ((rtsX (A 2) (xs (w32 (i + 1))) (xs (w32 (i + 2)))).length : Int) then ((rtsX (A 2) (xs (w32 (i + 1))) (xs (w32 (i + 2)))).getD (Int.toNat (xs (w32 (i + 3)))) (0, 0, 0)).2.1 else -1))) 1 then 0 else 1)) → ((w32 (G_2 25 0) = w32 0 → ((w32 0 = w32 0 → ((0 ≤ w32 0 ∧ w32 0 < 1) ∧ ((w32 (y_cmp (B_2 43 (w32 0)) (w32 (if (0 ≤ (xs (w32 (i + 1))) ∧ (xs (w32 (i + 1))) < mF (upA B_1 43 (w32 0) (w32 (if 0 ≤ (xs (w32 (i + 3))) ∧ (xs (w32 (i + 3))) < ((rtsX (A 2) (xs (w32 (i + 1))) (xs (w32 (i + 2)))).length : Int) then ((rtsX (A 2) (xs (w32 (i + 1))) (xs (w32 (i + 2)))).getD (Int.toNat (xs (w32 (i + 3)))) (0, 0, 0)).2.1 else -1))) 0) ∧ 0 ≤ (xs (w32 (i + 2))) ∧ (xs (w32 (i + 2))) < mF (upA B_1 43 (w32 0) (w32 (if 0 ≤ (xs (w32 (i + 3))) ∧ (xs (w32 (i + 3))) < ((rtsX (A 2) (xs (w32 (i + 1))) (xs (w32 (i + 2)))).length : Int) then ((rtsX (A 2) (xs (w32 (i + 1))) (xs (w32 (i + 2)))).getD (Int.toNat (xs (w32 (i + 3)))) (0, 0, 0)).2.1 else -1))) 1 then (if 0 ≤ (xs (w32 (i + 3))) ∧ (xs (w32 (i + 3))) < ((rtsX (mF (upA B_1 43 (w32 0) (w32 (if 0 ≤ (xs (w32 (i + 3))) ∧ (xs (w32 (i + 3))) < ((rtsX (A 2) (xs (w32 (i + 1))) (xs (w32 (i + 2)))).length : Int) then ((rtsX (A 2) (xs (w32 (i + 1))) (xs (w32 (i + 2)))).getD (Int.toNat (xs (w32 (i + 3)))) (0, 0, 0)).2.1 else -1)))) (xs (w32 (i + 1))) (xs (w32 (i + 2)))).length : Int) then ((rtsX (mF (upA B_1 43 (w32 0) (w32 (if 0 ≤ (xs (w32 (i + 3))) ∧ (xs (w32 (i + 3))) < ((rtsX (A 2) (xs (w32 (i + 1))) (xs (w32 (i + 2)))).length : Int) then ((rtsX (A 2) (xs (w32 (i + 1))) (xs (w32 (i + 2)))).getD (Int.toNat (xs (w32 (i + 3)))) (0, 0, 0)).2.1 else -1)))) (xs (w32 (i + 1))) (xs (w32 (i + 2)))).getD (Int.toNat (xs (w32 (i + 3)))) (0, 0, 0)).2.1 else -1) else 0))) = w32 0 → ((999 : Nat) = 999 ∧ (0 : Nat) = 0 ∧ (25 : Nat) = 25 ∧ (43 : Nat) = 43 ∧ i + 6 = i + 6 ∧ REL G_2 B_2 ∧ (2 : Nat) ≤ 2)) ∧ (¬ (w32 (y_cmp (B_2 43 (w32 0)) (w32 (if (0 ≤ (xs (w32 (i + 1))) ∧ (xs (w32 (i + 1))) < mF (upA B_1 43 (w32 0) (w32 (if 0 ≤ (xs (w32 (i + 3))) ∧ (xs (w32 (i + 3))) < ((rtsX (A 2) (xs (w32 (i + 1))) (xs (w32 (i + 2)))).length : Int) then ((rtsX (A 2) (xs (w32 (i + 1))) (xs (w32 (i + 2)))).getD (Int.toNat (xs (w32 (i + 3)))) (0, 0, 0)).2.1 else -1))) 0) ∧ 0 ≤ (xs (w32 (i + 2))) ∧ (xs (w32 (i + 2))) < mF (upA B_1 43 (w32 0) (w32 (if 0 ≤ (xs (w32 (i + 3))) ∧ (xs (w32 (i + 3))) < ((rtsX (A 2) (xs (w32 (i + 1))) (xs (w32 (i + 2)))).length : Int) then ((rtsX (A 2) (xs (w32 (i + 1))) (xs (w32 (i + 2)))).getD (Int.toNat (xs (w32 (i + 3)))) (0, 0, 0)).2.1 else -1))) 1 then (if 0 ≤ (xs (w32 (i + 3))) ∧ (xs (w32 (i + 3))) < ((rtsX (mF (upA B_1 43 (w32 0) (w32 (if 0 ≤ (xs (w32 (i + 3))) ∧ (xs (w32 (i + 3))) < ((rtsX (A 2) (xs (w32 (i + 1))) (xs (w32 (i + 2)))).length : Int) then ((rtsX (A 2) (xs (w32 (i + 1))) (xs (w32 (i + 2)))).getD (Int.toNat (xs (w32 (i + 3)))) (0, 0, 0)).2.1 else -1)))) (xs (w32 (i + 1))) (xs (w32 (i + 2)))).length : Int) then ((rtsX (mF (upA B_1 43 (w32 0) (w32 (if 0 ≤ (xs (w32 (i + 3))) ∧ (xs (w32 (i + 3))) < ((rtsX (A 2) (xs (w32 (i + 1))) (xs (w32 (i + 2)))).length : Int) then ((rtsX (A 2) (xs (w32 (i + 1))) (xs (w32 (i + 2)))).getD (Int.toNat (xs (w32 (i + 3)))) (0, 0, 0)).2.1 else -1)))) (xs (w32 (i + 1))) (xs (w32 (i + 2)))).getD (Int.toNat (xs (w32 (i + 3)))) (0, 0, 0)).2.1 else -1) else 0))) = w32 0) → (((0 : Int) = 0 ∨ (0 : Int) = 1) ∧ (lawK (some (some (vI 0))) G_2 B_2)))))) ∧ (¬ w32 0 = w32 0 → _))) ∧ (¬ w32 (G_2 25 0) = w32 0 → (((0 : Int) = 0 ∨ (0 : Int) = 1) ∧ (lawK (some (some (vI 0))) G_2 B_2))))))))))) ∧ (¬ ((0 ≤ (xs (w32 (i + 1))) ∧ (xs (w32 (i + 1))) < A 2 0) ∧ 0 ≤ (xs (w32 (i + 2))) ∧ (xs (w32 (i + 2))) < A 2 1) → ((0 ≤ w32 (i + 1) ∧ w32 (i + 1) < Ls) ∧ ((0 ≤ w32 (i + 2) ∧ w32 (i + 2) < Ls) ∧ ((0 ≤ w32 (i + 3) ∧ w32 (i + 3) < Ls) ∧ ((fgOK (mF A) ∧ (-2147483648 ≤ (xs (w32 (i + 1))) ∧ (xs (w32 (i + 1))) < 2147483648) ∧ (-2147483648 ≤ (xs (w32 (i + 2))) ∧ (xs (w32 (i + 2))) < 2147483648) ∧ (-2147483648 ≤ (xs (w32 (i + 3))) ∧ (xs (w32 (i + 3))) < 2147483648) ∧ RTB) ∧ (∀ (G_1 : FF) (B_1 : AA), (qdP F G_1 A B_1 ∧ G_1 25 0 = (if (0 ≤ (xs (w32 (i + 1))) ∧ (xs (w32 (i + 1))) < mF A 0) ∧ 0 ≤ (xs (w32 (i + 2))) ∧ (xs (w32 (i + 2))) < mF A 1 then 0 else 1)) → ((w32 (G_1 25 0) = w32 1 → ((w32 1 = w32 0 → _) ∧ (¬ w32 1 = w32 0 → ((999 : Nat) = 999 ∧ (0 : Nat) = 0 ∧ (25 : Nat) = 25 ∧ (43 : Nat) = 43 ∧ i + 6 = i + 6 ∧ REL G_1 B_1 ∧ (2 : Nat) ≤ 2)))) ∧ (¬ w32 (G_1 25 0) = w32 1 → (((0 : Int) = 0 ∨ (0 : Int) = 1) ∧ (lawK (some (some (vI 0))) G_1 B_1))))))))))))))
  refine ⟨by exact hb 1 (by decide) (by decide), ?_⟩
  refine ⟨by exact hb 2 (by decide) (by decide), ?_⟩
  refine ⟨by exact hb 3 (by decide) (by decide), ?_⟩
  refine ⟨by exact ⟨rel_f hR, hx _, hx _, hx _, RTB_T _ (rel_f hR)⟩, ?_⟩
  refine ⟨fun c1 => ?_, fun c1 => ?_⟩
  · skip
    skip
    intro G_1 B_1 g1
    have hR1 : ∀ v, REL G_1 (upA B_1 43 (w32 0) v) := fun v => rel_up (rel_qr hR g1)
    have em : ∀ v, mF (upA B_1 43 (w32 0) v) = A 2 := fun v => (hR1 v).1.1.symm.trans ((upA_r (by decide)).trans (funext fun i => (g1).2.1 2 i (by decide)))
    refine ⟨by exact hb 1 (by decide) (by decide), ?_⟩
    refine ⟨by exact hb 2 (by decide) (by decide), ?_⟩
    refine ⟨by exact hb 3 (by decide) (by decide), ?_⟩
    refine ⟨by exact ⟨rel_m (hR1 _), hx _, hx _, hx _, RTB_T⟩, ?_⟩
    intro G_2 B_2 g2
    have hR2 := rel_qd (hR1 _) g2.1
    have t2 : G_2 25 0 = 0 := by
      have w := g2.2
      rw [em] at w
      exact w.trans (if_pos c1)
    have v2 := (g2.1.2 43 (w32 0) (by decide)).trans upA_s
    refine ⟨fun c2 => ?_, fun c2 => ?_⟩
    · skip
      skip
      refine ⟨fun _ => ?_, fun q => absurd (by decide) q⟩
      refine ⟨by decide, ?_⟩
      refine ⟨fun c3 => ?_, fun c3 => ?_⟩
      · skip
        skip
        exact ⟨rfl, rfl, rfl, rfl, rfl, hR2, by decide⟩
      · skip
        skip
        refine ⟨by decide, ?_⟩
        exact absurd (law_e v2 (by rw [em, if_pos c1])) c3
    · skip
      skip
      refine ⟨by decide, ?_⟩
      exact absurd (by rw [t2]) c2
  · skip
    skip
    refine ⟨by exact hb 1 (by decide) (by decide), ?_⟩
    refine ⟨by exact hb 2 (by decide) (by decide), ?_⟩
    refine ⟨by exact hb 3 (by decide) (by decide), ?_⟩
    refine ⟨by exact ⟨rel_m hR, hx _, hx _, hx _, RTB_T⟩, ?_⟩
    intro G_1 B_1 g1
    have hR2 := rel_qd hR g1.1
    have t2 : G_1 25 0 = 1 := by
      have w := g1.2
      rw [e0] at w
      exact w.trans (if_neg c1)
    refine ⟨fun c2 => ?_, fun c2 => ?_⟩
    · skip
      skip
      refine ⟨fun q => absurd q (by decide), fun _ => ?_⟩
      exact ⟨rfl, rfl, rfl, rfl, rfl, hR2, by decide⟩
    · skip
      skip
      refine ⟨by decide, ?_⟩
      exact absurd (by rw [t2]) c2
def qkL_27 : Nat → Option CI := fun pc => cond (Nat.ble 3593 pc) none (cond (Nat.ble 1940 pc) (cond (Nat.ble 1963 pc) (cond (Nat.ble 1974 pc) (cond (Nat.ble 1980 pc) (cond (Nat.ble 3589 pc) (cond (Nat.beq pc 3589) (some (.iinc 4 6, 3592, [])) (cond (Nat.beq pc 3592) (some (.goto (-3569), 3595, [23])) (none))) (cond (Nat.beq pc 1980) (some (.ireturn, 1981, [])) (cond (Nat.beq pc 1981) (some (.goto 1608, 1984, [3589])) (none)))) (cond (Nat.ble 1976 pc) (cond (Nat.beq pc 1976) (some (.ifCond .eq 5, 1979, [1981])) (cond (Nat.beq pc 1979) (some (.iconst 0, 1980, [])) (none))) (cond (Nat.beq pc 1974) (some (.i2l, 1975, [])) (cond (Nat.beq pc 1975) (some (.lcmp, 1976, [])) (none))))) (cond (Nat.ble 1969 pc) (cond (Nat.ble 1971 pc) (cond (Nat.beq pc 1971) (some (.laload, 1972, [])) (cond (Nat.beq pc 1972) (some (.iload 6, 1974, [])) (none))) (cond (Nat.beq pc 1969) (some (.aload_n 3, 1970, [])) (cond (Nat.beq pc 1970) (some (.iconst 0, 1971, [])) (none)))) (cond (Nat.beq pc 1963) (some (.ireturn, 1964, [])) (cond (Nat.beq pc 1964) (some (.iload 5, 1966, [])) (cond (Nat.beq pc 1966) (some (.ifCond .ne 15, 1969, [1981])) (none)))))) (cond (Nat.ble 1948 pc) (cond (Nat.ble 1954 pc) (cond (Nat.ble 1959 pc) (cond (Nat.beq pc 1959) (some (.if_icmp .eq 5, 1962, [1964])) (cond (Nat.beq pc 1962) (some (.iconst 0, 1963, [])) (none))) (cond (Nat.beq pc 1954) (some (.invokevirtual 175, 1957, [])) (cond (Nat.beq pc 1957) (some (.iload 5, 1959, [])) (none)))) (cond (Nat.beq pc 1948) (some (.invokevirtual 235, 1951, [])) (cond (Nat.beq pc 1951) (some (.istore 6, 1953, [])) (cond (Nat.beq pc 1953) (some (.aload_n 2, 1954, [])) (none))))) (cond (Nat.ble 1943 pc) (cond (Nat.ble 1946 pc) (cond (Nat.beq pc 1946) (some (.iadd, 1947, [])) (cond (Nat.beq pc 1947) (some (.iaload, 1948, [])) (none))) (cond (Nat.beq pc 1943) (some (.iload 4, 1945, [])) (cond (Nat.beq pc 1945) (some (.iconst 3, 1946, [])) (none)))) (cond (Nat.beq pc 1940) (some (.iadd, 1941, [])) (cond (Nat.beq pc 1941) (some (.iaload, 1942, [])) (cond (Nat.beq pc 1942) (some (.aload_n 0, 1943, [])) (none))))))) (cond (Nat.ble 1921 pc) (cond (Nat.ble 1931 pc) (cond (Nat.ble 1935 pc) (cond (Nat.ble 1937 pc) (cond (Nat.beq pc 1937) (some (.iload 4, 1939, [])) (cond (Nat.beq pc 1939) (some (.iconst 2, 1940, [])) (none))) (cond (Nat.beq pc 1935) (some (.iaload, 1936, [])) (cond (Nat.beq pc 1936) (some (.aload_n 0, 1937, [])) (none)))) (cond (Nat.beq pc 1931) (some (.iload 4, 1933, [])) (cond (Nat.beq pc 1933) (some (.iconst 1, 1934, [])) (cond (Nat.beq pc 1934) (some (.iadd, 1935, [])) (none))))) (cond (Nat.ble 1924 pc) (cond (Nat.ble 1929 pc) (cond (Nat.beq pc 1929) (some (.aload_n 2, 1930, [])) (cond (Nat.beq pc 1930) (some (.aload_n 0, 1931, [])) (none))) (cond (Nat.beq pc 1924) (some (.invokestatic 233, 1927, [])) (cond (Nat.beq pc 1927) (some (.istore 5, 1929, [])) (none)))) (cond (Nat.beq pc 1921) (some (.iadd, 1922, [])) (cond (Nat.beq pc 1922) (some (.iaload, 1923, [])) (cond (Nat.beq pc 1923) (some (.aload_n 3, 1924, [])) (none)))))) (cond (Nat.ble 1912 pc) (cond (Nat.ble 1916 pc) (cond (Nat.ble 1918 pc) (cond (Nat.beq pc 1918) (some (.iload 4, 1920, [])) (cond (Nat.beq pc 1920) (some (.iconst 3, 1921, [])) (none))) (cond (Nat.beq pc 1916) (some (.iaload, 1917, [])) (cond (Nat.beq pc 1917) (some (.aload_n 0, 1918, [])) (none)))) (cond (Nat.beq pc 1912) (some (.iload 4, 1914, [])) (cond (Nat.beq pc 1914) (some (.iconst 2, 1915, [])) (cond (Nat.beq pc 1915) (some (.iadd, 1916, [])) (none))))) (cond (Nat.ble 1908 pc) (cond (Nat.ble 1910 pc) (cond (Nat.beq pc 1910) (some (.iaload, 1911, [])) (cond (Nat.beq pc 1911) (some (.aload_n 0, 1912, [])) (none))) (cond (Nat.beq pc 1908) (some (.iconst 1, 1909, [])) (cond (Nat.beq pc 1909) (some (.iadd, 1910, [])) (none)))) (cond (Nat.beq pc 1904) (some (.aload_n 1, 1905, [])) (cond (Nat.beq pc 1905) (some (.aload_n 0, 1906, [])) (cond (Nat.beq pc 1906) (some (.iload 4, 1908, [])) (none))))))))
theorem qkL_27_ok : ∀ pc i nx ts, qkL_27 pc = some (i, nx, ts) → am_cok cL_law pc (i, nx, ts) = true := fun pc i nx ts h => am_tok_ok (n := 3593) (by decide +kernel) (fun pc h => by show cond (Nat.ble 3593 pc) _ _ = _; rw [Nat.ble_eq_true_of_le h]; rfl) h
def qaL_27 : Nat → Option CE := fun k => cond (Nat.beq k 233) (some qeL_rootCell) (cond (Nat.beq k 235) (some qeX9_rootCell) (cond (Nat.beq k 175) (some qeX9_thrown) (none)))
theorem qyL_27 (l : Launch) (hst : l.stackTraces = false) : ∀ k e1, qaL_27 k = some e1 → am_cal l layL RL 40 k e1 ∧ True := q_cons ⟨am_calS (qtL_rootCell l hst) qbL_rootCell (by decide) rfl (by decide) (am_tb_at 1108 (by decide +kernel) rfl), trivial⟩ (q_cons ⟨am_calV (ci := 9) (am_CT_mono layM_L (qtX9_rootCell l)) qbX9_rootCell (by decide) rfl (am_tb_at 1849 (by decide +kernel) rfl), trivial⟩ (q_cons ⟨am_calV (ci := 9) (am_CT_mono layM_L (qtX9_thrown l)) qbX9_thrown (by decide) rfl (am_tb_at 1481 (by decide +kernel) rfl), trivial⟩ (q_nil)))
def qxL_27 (Ls : Int) (xs : Int → Int) : CX := (qkL_27, layL, qfL, qaL_27, qcL, qlL, qmL, some .boolean, false, none, 2, some (Ls, xs), fun _ => none)
theorem qzL_27 (l : Launch) (hst : l.stackTraces = false) (Ls : Int) (xs : Int → Int) : am_sta l (qxL_27 Ls xs) RL 40 cL_law := ⟨qkL_27_ok, layL_ok, qfL_ok, qcL_ok, qlL_ok, am_mthP qmL_ok (by decide), fun k e1 h => (qyL_27 l hst k e1 h).1⟩
set_option maxRecDepth 20000 in
theorem qvL_27 (Ls : Int) (xs : Int → Int) (F : FF) (A : AA) (i : Int) (hx : ∀ j, -2147483648 ≤ xs j ∧ xs j < 2147483648) (hL : Ls ≤ 3072) (i0 : 0 ≤ i) (i1 : i + 6 ≤ Ls) (hR : REL F A) : am_stp (qxL_27 Ls xs) (am_run (qxL_27 Ls xs) lawC (lawI i) lawK 56) lawK 1904 [some (vR 999), some (vR 0), some (vR 25), some (vR 43), some (vI i), none, none, none] [] F A 0 := by
  have hb : ∀ k : Int, 0 ≤ k → k ≤ 5 → 0 ≤ w32 (i + k) ∧ w32 (i + k) < Ls := fun k k0 k1 => by rw [w32_id (by omega) (by omega)]; omega
  have e0 : mF A = A 2 := hR.1.1.symm
  show (0 ≤ w32 (i + 1) ∧ w32 (i + 1) < Ls) ∧ ((0 ≤ w32 (i + 2) ∧ w32 (i + 2) < Ls) ∧ ((0 ≤ w32 (i + 3) ∧ w32 (i + 3) < Ls) ∧ ((fgOK (A 2) ∧ (-2147483648 ≤ (xs (w32 (i + 1))) ∧ (xs (w32 (i + 1))) < 2147483648) ∧ (-2147483648 ≤ (xs (w32 (i + 2))) ∧ (xs (w32 (i + 2))) < 2147483648) ∧ (-2147483648 ≤ (xs (w32 (i + 3))) ∧ (xs (w32 (i + 3))) < 2147483648) ∧ rtB (A 2)) ∧ (((0 ≤ (xs (w32 (i + 1))) ∧ (xs (w32 (i + 1))) < A 2 0) ∧ 0 ≤ (xs (w32 (i + 2))) ∧ (xs (w32 (i + 2))) < A 2 1 → (∀ (G_1 : FF) (B_1 : AA), (qrP F G_1 A B_1) → ((0 ≤ w32 (i + 1) ∧ w32 (i + 1) < Ls) ∧ ((0 ≤ w32 (i + 2) ∧ w32 (i + 2) < Ls) ∧ ((0 ≤ w32 (i + 3) ∧ w32 (i + 3) < Ls) ∧ ((fgOK (mF (upA B_1 43 (w32 0) (w32 (if 0 ≤ (xs (w32 (i + 3))) ∧ (xs (w32 (i + 3))) < ((rtsX (A 2) (xs (w32 (i + 1))) (xs (w32 (i + 2)))).length : Int) then ((rtsX (A 2) (xs (w32 (i + 1))) (xs (w32 (i + 2)))).getD (Int.toNat (xs (w32 (i + 3)))) (0, 0, 0)).2.2 else -1)))) ∧ (-2147483648 ≤ (xs (w32 (i + 1))) ∧ (xs (w32 (i + 1))) < 2147483648) ∧ (-2147483648 ≤ (xs (w32 (i + 2))) ∧ (xs (w32 (i + 2))) < 2147483648) ∧ (-2147483648 ≤ (xs (w32 (i + 3))) ∧ (xs (w32 (i + 3))) < 2147483648) ∧ RTB) ∧ (∀ (G_2 : FF) (B_2 : AA), (qdP G_1 G_2 (upA B_1 43 (w32 0) (w32 (if 0 ≤ (xs (w32 (i + 3))) ∧ (xs (w32 (i + 3))) < ((rtsX (A 2) (xs (w32 (i + 1))) (xs (w32 (i + 2)))).length : Int) then ((rtsX (A 2) (xs (w32 (i + 1))) (xs (w32 (i + 2)))).getD (Int.toNat (xs (w32 (i + 3)))) (0, 0, 0)).2.2 else -1))) B_2 ∧ G_2 25 0 = (if (0 ≤ (xs (w32 (i + 1))) ∧ (xs (w32 (i + 1))) < mF (upA B_1 43 (w32 0) (w32 (if 0 ≤ (xs (w32 (i + 3))) ∧ (xs (w32 (i + 3))) < ((rtsX (A 2) (xs (w32 (i + 1))) (xs (w32 (i + 2)))).length : Int) then ((rtsX (A 2) (xs (w32 (i + 1))) (xs (w32 (i + 2)))).getD (Int.toNat (xs (w32 (i + 3)))) (0, 0, 0)).2.2 else -1))) 0) ∧ 0 ≤ (xs (w32 (i + 2))) ∧ (xs (w32 (i + 2))) < mF (upA B_1 43 (w32 0) (w32 (if 0 ≤ (xs (w32 (i + 3))) ∧ (xs (w32 (i + 3))) < ((rtsX (A 2) (xs (w32 (i + 1))) (xs (w32 (i + 2)))).length : Int) then ((rtsX (A 2) (xs (w32 (i + 1))) (xs (w32 (i + 2)))).getD (Int.toNat (xs (w32 (i + 3)))) (0, 0, 0)).2.2 else -1))) 1 then 0 else 1)) → ((w32 (G_2 25 0) = w32 0 → ((w32 0 = w32 0 → ((0 ≤ w32 0 ∧ w32 0 < 1) ∧ ((w32 (y_cmp (B_2 43 (w32 0)) (w32 (if (0 ≤ (xs (w32 (i + 1))) ∧ (xs (w32 (i + 1))) < mF (upA B_1 43 (w32 0) (w32 (if 0 ≤ (xs (w32 (i + 3))) ∧ (xs (w32 (i + 3))) < ((rtsX (A 2) (xs (w32 (i + 1))) (xs (w32 (i + 2)))).length : Int) then ((rtsX (A 2) (xs (w32 (i + 1))) (xs (w32 (i + 2)))).getD (Int.toNat (xs (w32 (i + 3)))) (0, 0, 0)).2.2 else -1))) 0) ∧ 0 ≤ (xs (w32 (i + 2))) ∧ (xs (w32 (i + 2))) < mF (upA B_1 43 (w32 0) (w32 (if 0 ≤ (xs (w32 (i + 3))) ∧ (xs (w32 (i + 3))) < ((rtsX (A 2) (xs (w32 (i + 1))) (xs (w32 (i + 2)))).length : Int) then ((rtsX (A 2) (xs (w32 (i + 1))) (xs (w32 (i + 2)))).getD (Int.toNat (xs (w32 (i + 3)))) (0, 0, 0)).2.2 else -1))) 1 then (if 0 ≤ (xs (w32 (i + 3))) ∧ (xs (w32 (i + 3))) < ((rtsX (mF (upA B_1 43 (w32 0) (w32 (if 0 ≤ (xs (w32 (i + 3))) ∧ (xs (w32 (i + 3))) < ((rtsX (A 2) (xs (w32 (i + 1))) (xs (w32 (i + 2)))).length : Int) then ((rtsX (A 2) (xs (w32 (i + 1))) (xs (w32 (i + 2)))).getD (Int.toNat (xs (w32 (i + 3)))) (0, 0, 0)).2.2 else -1)))) (xs (w32 (i + 1))) (xs (w32 (i + 2)))).length : Int) then ((rtsX (mF (upA B_1 43 (w32 0) (w32 (if 0 ≤ (xs (w32 (i + 3))) ∧ (xs (w32 (i + 3))) < ((rtsX (A 2) (xs (w32 (i + 1))) (xs (w32 (i + 2)))).length : Int) then ((rtsX (A 2) (xs (w32 (i + 1))) (xs (w32 (i + 2)))).getD (Int.toNat (xs (w32 (i + 3)))) (0, 0, 0)).2.2 else -1)))) (xs (w32 (i + 1))) (xs (w32 (i + 2)))).getD (Int.toNat (xs (w32 (i + 3)))) (0, 0, 0)).2.2 else -1) else 0))) = w32 0 → ((999 : Nat) = 999 ∧ (0 : Nat) = 0 ∧ (25 : Nat) = 25 ∧ (43 : Nat) = 43 ∧ i + 6 = i + 6 ∧ REL G_2 B_2 ∧ (2 : Nat) ≤ 2)) ∧ (¬ (w32 (y_cmp (B_2 43 (w32 0)) (w32 (if (0 ≤ (xs (w32 (i + 1))) ∧ (xs (w32 (i + 1))) < mF (upA B_1 43 (w32 0) (w32 (if 0 ≤ (xs (w32 (i + 3))) ∧ (xs (w32 (i + 3))) < ((rtsX (A 2) (xs (w32 (i + 1))) (xs (w32 (i + 2)))).length : Int) then ((rtsX (A 2) (xs (w32 (i + 1))) (xs (w32 (i + 2)))).getD (Int.toNat (xs (w32 (i + 3)))) (0, 0, 0)).2.2 else -1))) 0) ∧ 0 ≤ (xs (w32 (i + 2))) ∧ (xs (w32 (i + 2))) < mF (upA B_1 43 (w32 0) (w32 (if 0 ≤ (xs (w32 (i + 3))) ∧ (xs (w32 (i + 3))) < ((rtsX (A 2) (xs (w32 (i + 1))) (xs (w32 (i + 2)))).length : Int) then ((rtsX (A 2) (xs (w32 (i + 1))) (xs (w32 (i + 2)))).getD (Int.toNat (xs (w32 (i + 3)))) (0, 0, 0)).2.2 else -1))) 1 then (if 0 ≤ (xs (w32 (i + 3))) ∧ (xs (w32 (i + 3))) < ((rtsX (mF (upA B_1 43 (w32 0) (w32 (if 0 ≤ (xs (w32 (i + 3))) ∧ (xs (w32 (i + 3))) < ((rtsX (A 2) (xs (w32 (i + 1))) (xs (w32 (i + 2)))).length : Int) then ((rtsX (A 2) (xs (w32 (i + 1))) (xs (w32 (i + 2)))).getD (Int.toNat (xs (w32 (i + 3)))) (0, 0, 0)).2.2 else -1)))) (xs (w32 (i + 1))) (xs (w32 (i + 2)))).length : Int) then ((rtsX (mF (upA B_1 43 (w32 0) (w32 (if 0 ≤ (xs (w32 (i + 3))) ∧ (xs (w32 (i + 3))) < ((rtsX (A 2) (xs (w32 (i + 1))) (xs (w32 (i + 2)))).length : Int) then ((rtsX (A 2) (xs (w32 (i + 1))) (xs (w32 (i + 2)))).getD (Int.toNat (xs (w32 (i + 3)))) (0, 0, 0)).2.2 else -1)))) (xs (w32 (i + 1))) (xs (w32 (i + 2)))).getD (Int.toNat (xs (w32 (i + 3)))) (0, 0, 0)).2.2 else -1) else 0))) = w32 0) → (((0 : Int) = 0 ∨ (0 : Int) = 1) ∧ (lawK (some (some (vI 0))) G_2 B_2)))))) ∧ (¬ w32 0 = w32 0 → _))) ∧ (¬ w32 (G_2 25 0) = w32 0 → (((0 : Int) = 0 ∨ (0 : Int) = 1) ∧ (lawK (some (some (vI 0))) G_2 B_2))))))))))) ∧ (¬ ((0 ≤ (xs (w32 (i + 1))) ∧ (xs (w32 (i + 1))) < A 2 0) ∧ 0 ≤ (xs (w32 (i + 2))) ∧ (xs (w32 (i + 2))) < A 2 1) → ((0 ≤ w32 (i + 1) ∧ w32 (i + 1) < Ls) ∧ ((0 ≤ w32 (i + 2) ∧ w32 (i + 2) < Ls) ∧ ((0 ≤ w32 (i + 3) ∧ w32 (i + 3) < Ls) ∧ ((fgOK (mF A) ∧ (-2147483648 ≤ (xs (w32 (i + 1))) ∧ (xs (w32 (i + 1))) < 2147483648) ∧ (-2147483648 ≤ (xs (w32 (i + 2))) ∧ (xs (w32 (i + 2))) < 2147483648) ∧ (-2147483648 ≤ (xs (w32 (i + 3))) ∧ (xs (w32 (i + 3))) < 2147483648) ∧ RTB) ∧ (∀ (G_1 : FF) (B_1 : AA), (qdP F G_1 A B_1 ∧ G_1 25 0 = (if (0 ≤ (xs (w32 (i + 1))) ∧ (xs (w32 (i + 1))) < mF A 0) ∧ 0 ≤ (xs (w32 (i + 2))) ∧ (xs (w32 (i + 2))) < mF A 1 then 0 else 1)) → ((w32 (G_1 25 0) = w32 1 → ((w32 1 = w32 0 → _) ∧ (¬ w32 1 = w32 0 → ((999 : Nat) = 999 ∧ (0 : Nat) = 0 ∧ (25 : Nat) = 25 ∧ (43 : Nat) = 43 ∧ i + 6 = i + 6 ∧ REL G_1 B_1 ∧ (2 : Nat) ≤ 2)))) ∧ (¬ w32 (G_1 25 0) = w32 1 → (((0 : Int) = 0 ∨ (0 : Int) = 1) ∧ (lawK (some (some (vI 0))) G_1 B_1))))))))))))))
  refine ⟨by exact hb 1 (by decide) (by decide), ?_⟩
  refine ⟨by exact hb 2 (by decide) (by decide), ?_⟩
  refine ⟨by exact hb 3 (by decide) (by decide), ?_⟩
  refine ⟨by exact ⟨rel_f hR, hx _, hx _, hx _, RTB_T _ (rel_f hR)⟩, ?_⟩
  refine ⟨fun c1 => ?_, fun c1 => ?_⟩
  · skip
    skip
    intro G_1 B_1 g1
    have hR1 : ∀ v, REL G_1 (upA B_1 43 (w32 0) v) := fun v => rel_up (rel_qr hR g1)
    have em : ∀ v, mF (upA B_1 43 (w32 0) v) = A 2 := fun v => (hR1 v).1.1.symm.trans ((upA_r (by decide)).trans (funext fun i => (g1).2.1 2 i (by decide)))
    refine ⟨by exact hb 1 (by decide) (by decide), ?_⟩
    refine ⟨by exact hb 2 (by decide) (by decide), ?_⟩
    refine ⟨by exact hb 3 (by decide) (by decide), ?_⟩
    refine ⟨by exact ⟨rel_m (hR1 _), hx _, hx _, hx _, RTB_T⟩, ?_⟩
    intro G_2 B_2 g2
    have hR2 := rel_qd (hR1 _) g2.1
    have t2 : G_2 25 0 = 0 := by
      have w := g2.2
      rw [em] at w
      exact w.trans (if_pos c1)
    have v2 := (g2.1.2 43 (w32 0) (by decide)).trans upA_s
    refine ⟨fun c2 => ?_, fun c2 => ?_⟩
    · skip
      skip
      refine ⟨fun _ => ?_, fun q => absurd (by decide) q⟩
      refine ⟨by decide, ?_⟩
      refine ⟨fun c3 => ?_, fun c3 => ?_⟩
      · skip
        skip
        exact ⟨rfl, rfl, rfl, rfl, rfl, hR2, by decide⟩
      · skip
        skip
        refine ⟨by decide, ?_⟩
        exact absurd (law_e v2 (by rw [em, if_pos c1])) c3
    · skip
      skip
      refine ⟨by decide, ?_⟩
      exact absurd (by rw [t2]) c2
  · skip
    skip
    refine ⟨by exact hb 1 (by decide) (by decide), ?_⟩
    refine ⟨by exact hb 2 (by decide) (by decide), ?_⟩
    refine ⟨by exact hb 3 (by decide) (by decide), ?_⟩
    refine ⟨by exact ⟨rel_m hR, hx _, hx _, hx _, RTB_T⟩, ?_⟩
    intro G_1 B_1 g1
    have hR2 := rel_qd hR g1.1
    have t2 : G_1 25 0 = 1 := by
      have w := g1.2
      rw [e0] at w
      exact w.trans (if_neg c1)
    refine ⟨fun c2 => ?_, fun c2 => ?_⟩
    · skip
      skip
      refine ⟨fun q => absurd q (by decide), fun _ => ?_⟩
      exact ⟨rfl, rfl, rfl, rfl, rfl, hR2, by decide⟩
    · skip
      skip
      refine ⟨by decide, ?_⟩
      exact absurd (by rw [t2]) c2
