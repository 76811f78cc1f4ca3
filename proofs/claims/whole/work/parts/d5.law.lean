def qkL_28 : Nat → Option CI := fun pc => cond (Nat.ble 3593 pc) none (cond (Nat.ble 2026 pc) (cond (Nat.ble 2051 pc) (cond (Nat.ble 2064 pc) (cond (Nat.ble 2071 pc) (cond (Nat.ble 2073 pc) (cond (Nat.beq pc 2073) (some (.goto 1516, 2076, [3589])) (cond (Nat.beq pc 3589) (some (.iinc 4 6, 3592, [])) (cond (Nat.beq pc 3592) (some (.goto (-3569), 3595, [23])) (none)))) (cond (Nat.beq pc 2071) (some (.iconst 0, 2072, [])) (cond (Nat.beq pc 2072) (some (.ireturn, 2073, [])) (none)))) (cond (Nat.ble 2067 pc) (cond (Nat.beq pc 2067) (some (.lcmp, 2068, [])) (cond (Nat.beq pc 2068) (some (.ifCond .eq 5, 2071, [2073])) (none))) (cond (Nat.beq pc 2064) (some (.iload 6, 2066, [])) (cond (Nat.beq pc 2066) (some (.i2l, 2067, [])) (none))))) (cond (Nat.ble 2058 pc) (cond (Nat.ble 2062 pc) (cond (Nat.beq pc 2062) (some (.iconst 0, 2063, [])) (cond (Nat.beq pc 2063) (some (.laload, 2064, [])) (none))) (cond (Nat.beq pc 2058) (some (.ifCond .ne 15, 2061, [2073])) (cond (Nat.beq pc 2061) (some (.aload_n 3, 2062, [])) (none)))) (cond (Nat.ble 2055 pc) (cond (Nat.beq pc 2055) (some (.ireturn, 2056, [])) (cond (Nat.beq pc 2056) (some (.iload 5, 2058, [])) (none))) (cond (Nat.beq pc 2051) (some (.if_icmp .eq 5, 2054, [2056])) (cond (Nat.beq pc 2054) (some (.iconst 0, 2055, [])) (none)))))) (cond (Nat.ble 2035 pc) (cond (Nat.ble 2040 pc) (cond (Nat.ble 2045 pc) (cond (Nat.beq pc 2045) (some (.aload_n 2, 2046, [])) (cond (Nat.beq pc 2046) (some (.invokevirtual 175, 2049, [])) (cond (Nat.beq pc 2049) (some (.iload 5, 2051, [])) (none)))) (cond (Nat.beq pc 2040) (some (.invokevirtual 238, 2043, [])) (cond (Nat.beq pc 2043) (some (.istore 6, 2045, [])) (none)))) (cond (Nat.ble 2038 pc) (cond (Nat.beq pc 2038) (some (.iadd, 2039, [])) (cond (Nat.beq pc 2039) (some (.iaload, 2040, [])) (none))) (cond (Nat.beq pc 2035) (some (.iload 4, 2037, [])) (cond (Nat.beq pc 2037) (some (.iconst 4, 2038, [])) (none))))) (cond (Nat.ble 2031 pc) (cond (Nat.ble 2033 pc) (cond (Nat.beq pc 2033) (some (.iaload, 2034, [])) (cond (Nat.beq pc 2034) (some (.aload_n 0, 2035, [])) (none))) (cond (Nat.beq pc 2031) (some (.iconst 3, 2032, [])) (cond (Nat.beq pc 2032) (some (.iadd, 2033, [])) (none)))) (cond (Nat.ble 2028 pc) (cond (Nat.beq pc 2028) (some (.aload_n 0, 2029, [])) (cond (Nat.beq pc 2029) (some (.iload 4, 2031, [])) (none))) (cond (Nat.beq pc 2026) (some (.iadd, 2027, [])) (cond (Nat.beq pc 2027) (some (.iaload, 2028, [])) (none))))))) (cond (Nat.ble 2003 pc) (cond (Nat.ble 2015 pc) (cond (Nat.ble 2020 pc) (cond (Nat.ble 2022 pc) (cond (Nat.beq pc 2022) (some (.aload_n 0, 2023, [])) (cond (Nat.beq pc 2023) (some (.iload 4, 2025, [])) (cond (Nat.beq pc 2025) (some (.iconst 2, 2026, [])) (none)))) (cond (Nat.beq pc 2020) (some (.iadd, 2021, [])) (cond (Nat.beq pc 2021) (some (.iaload, 2022, [])) (none)))) (cond (Nat.ble 2017 pc) (cond (Nat.beq pc 2017) (some (.iload 4, 2019, [])) (cond (Nat.beq pc 2019) (some (.iconst 1, 2020, [])) (none))) (cond (Nat.beq pc 2015) (some (.aload_n 2, 2016, [])) (cond (Nat.beq pc 2016) (some (.aload_n 0, 2017, [])) (none))))) (cond (Nat.ble 2008 pc) (cond (Nat.ble 2010 pc) (cond (Nat.beq pc 2010) (some (.invokestatic 236, 2013, [])) (cond (Nat.beq pc 2013) (some (.istore 5, 2015, [])) (none))) (cond (Nat.beq pc 2008) (some (.iaload, 2009, [])) (cond (Nat.beq pc 2009) (some (.aload_n 3, 2010, [])) (none)))) (cond (Nat.ble 2006 pc) (cond (Nat.beq pc 2006) (some (.iconst 4, 2007, [])) (cond (Nat.beq pc 2007) (some (.iadd, 2008, [])) (none))) (cond (Nat.beq pc 2003) (some (.aload_n 0, 2004, [])) (cond (Nat.beq pc 2004) (some (.iload 4, 2006, [])) (none)))))) (cond (Nat.ble 1994 pc) (cond (Nat.ble 1998 pc) (cond (Nat.ble 2001 pc) (cond (Nat.beq pc 2001) (some (.iadd, 2002, [])) (cond (Nat.beq pc 2002) (some (.iaload, 2003, [])) (none))) (cond (Nat.beq pc 1998) (some (.iload 4, 2000, [])) (cond (Nat.beq pc 2000) (some (.iconst 3, 2001, [])) (none)))) (cond (Nat.ble 1996 pc) (cond (Nat.beq pc 1996) (some (.iaload, 1997, [])) (cond (Nat.beq pc 1997) (some (.aload_n 0, 1998, [])) (none))) (cond (Nat.beq pc 1994) (some (.iconst 2, 1995, [])) (cond (Nat.beq pc 1995) (some (.iadd, 1996, [])) (none))))) (cond (Nat.ble 1989 pc) (cond (Nat.ble 1991 pc) (cond (Nat.beq pc 1991) (some (.aload_n 0, 1992, [])) (cond (Nat.beq pc 1992) (some (.iload 4, 1994, [])) (none))) (cond (Nat.beq pc 1989) (some (.iadd, 1990, [])) (cond (Nat.beq pc 1990) (some (.iaload, 1991, [])) (none)))) (cond (Nat.ble 1986 pc) (cond (Nat.beq pc 1986) (some (.iload 4, 1988, [])) (cond (Nat.beq pc 1988) (some (.iconst 1, 1989, [])) (none))) (cond (Nat.beq pc 1984) (some (.aload_n 1, 1985, [])) (cond (Nat.beq pc 1985) (some (.aload_n 0, 1986, [])) (none))))))))
theorem qkL_28_ok : ∀ pc i nx ts, qkL_28 pc = some (i, nx, ts) → am_cok cL_law pc (i, nx, ts) = true := fun pc i nx ts h => am_tok_ok (n := 3593) (by decide +kernel) (fun pc h => by show cond (Nat.ble 3593 pc) _ _ = _; rw [Nat.ble_eq_true_of_le h]; rfl) h
def qaL_28 : Nat → Option CE := fun k => cond (Nat.beq k 236) (some qeL_refined) (cond (Nat.beq k 238) (some qeX9_refined) (cond (Nat.beq k 175) (some qeX9_thrown) (none)))
theorem qyL_28 (l : Launch) (hst : l.stackTraces = false) : ∀ k e1, qaL_28 k = some e1 → am_cal l layL RL 40 k e1 ∧ True := q_cons ⟨am_calS (qtL_refined l hst) qbL_refined (by decide) rfl (by decide) (am_tb_at 1119 (by decide +kernel) rfl), trivial⟩ (q_cons ⟨am_calV (ci := 9) (am_CT_mono layM_L (qtX9_refined l)) qbX9_refined (by decide) rfl (am_tb_at 1853 (by decide +kernel) rfl), trivial⟩ (q_cons ⟨am_calV (ci := 9) (am_CT_mono layM_L (qtX9_thrown l)) qbX9_thrown (by decide) rfl (am_tb_at 1481 (by decide +kernel) rfl), trivial⟩ (q_nil)))
def qxL_28 (Ls : Int) (xs : Int → Int) : CX := (qkL_28, layL, qfL, qaL_28, qcL, qlL, qmL, some .boolean, false, none, 2, some (Ls, xs), fun _ => none)
theorem qzL_28 (l : Launch) (hst : l.stackTraces = false) (Ls : Int) (xs : Int → Int) : am_sta l (qxL_28 Ls xs) RL 40 cL_law := ⟨qkL_28_ok, layL_ok, qfL_ok, qcL_ok, qlL_ok, am_mthP qmL_ok (by decide), fun k e1 h => (qyL_28 l hst k e1 h).1⟩
set_option maxRecDepth 20000 in
theorem qvL_28 (Ls : Int) (xs : Int → Int) (F : FF) (A : AA) (i : Int) (hx : ∀ j, -2147483648 ≤ xs j ∧ xs j < 2147483648) (hL : Ls ≤ 3072) (i0 : 0 ≤ i) (i1 : i + 6 ≤ Ls) (hR : REL F A) : am_stp (qxL_28 Ls xs) (am_run (qxL_28 Ls xs) lawC (lawI i) lawK 66) lawK 1984 [some (vR 999), some (vR 0), some (vR 25), some (vR 43), some (vI i), none, none, none] [] F A 0 := by
  have hb : ∀ k : Int, 0 ≤ k → k ≤ 5 → 0 ≤ w32 (i + k) ∧ w32 (i + k) < Ls := fun k k0 k1 => by rw [w32_id (by omega) (by omega)]; omega
  have e0 : mF A = A 2 := hR.1.1.symm
  show (0 ≤ w32 (i + 1) ∧ w32 (i + 1) < Ls) ∧ ((0 ≤ w32 (i + 2) ∧ w32 (i + 2) < Ls) ∧ ((0 ≤ w32 (i + 3) ∧ w32 (i + 3) < Ls) ∧ ((0 ≤ w32 (i + 4) ∧ w32 (i + 4) < Ls) ∧ ((fgOK (A 2) ∧ (-2147483648 ≤ (xs (w32 (i + 1))) ∧ (xs (w32 (i + 1))) < 2147483648) ∧ (-2147483648 ≤ (xs (w32 (i + 2))) ∧ (xs (w32 (i + 2))) < 2147483648) ∧ (-2147483648 ≤ (xs (w32 (i + 3))) ∧ (xs (w32 (i + 3))) < 2147483648) ∧ (-2147483648 ≤ (xs (w32 (i + 4))) ∧ (xs (w32 (i + 4))) < 2147483648) ∧ rtB (A 2)) ∧ (((0 ≤ (xs (w32 (i + 1))) ∧ (xs (w32 (i + 1))) < A 2 0) ∧ 0 ≤ (xs (w32 (i + 2))) ∧ (xs (w32 (i + 2))) < A 2 1 → (∀ (G_1 : FF) (B_1 : AA), (qrP F G_1 A B_1) → ((0 ≤ w32 (i + 1) ∧ w32 (i + 1) < Ls) ∧ ((0 ≤ w32 (i + 2) ∧ w32 (i + 2) < Ls) ∧ ((0 ≤ w32 (i + 3) ∧ w32 (i + 3) < Ls) ∧ ((0 ≤ w32 (i + 4) ∧ w32 (i + 4) < Ls) ∧ ((fgOK (mF (upA B_1 43 (w32 0) (w32 (if (0 ≤ (xs (w32 (i + 3))) ∧ (xs (w32 (i + 3))) < ((rtsX (A 2) (xs (w32 (i + 1))) (xs (w32 (i + 2)))).length : Int)) ∧ ¬ (rtN (rtsX (A 2) (xs (w32 (i + 1))) (xs (w32 (i + 2)))) (xs (w32 (i + 3)))).1 = 2 then (if 0 ≤ (xs (w32 (i + 4))) ∧ (xs (w32 (i + 4))) ≤ 12 then refP (A 2) (xs (w32 (i + 1))) (xs (w32 (i + 2))) (rtN (rtsX (A 2) (xs (w32 (i + 1))) (xs (w32 (i + 2)))) (xs (w32 (i + 3)))) (xs (w32 (i + 4))) else -2) else -1)))) ∧ (-2147483648 ≤ (xs (w32 (i + 1))) ∧ (xs (w32 (i + 1))) < 2147483648) ∧ (-2147483648 ≤ (xs (w32 (i + 2))) ∧ (xs (w32 (i + 2))) < 2147483648) ∧ (-2147483648 ≤ (xs (w32 (i + 3))) ∧ (xs (w32 (i + 3))) < 2147483648) ∧ (-2147483648 ≤ (xs (w32 (i + 4))) ∧ (xs (w32 (i + 4))) < 2147483648) ∧ RTB) ∧ (∀ (G_2 : FF) (B_2 : AA), (qdP G_1 G_2 (upA B_1 43 (w32 0) (w32 (if (0 ≤ (xs (w32 (i + 3))) ∧ (xs (w32 (i + 3))) < ((rtsX (A 2) (xs (w32 (i + 1))) (xs (w32 (i + 2)))).length : Int)) ∧ ¬ (rtN (rtsX (A 2) (xs (w32 (i + 1))) (xs (w32 (i + 2)))) (xs (w32 (i + 3)))).1 = 2 then (if 0 ≤ (xs (w32 (i + 4))) ∧ (xs (w32 (i + 4))) ≤ 12 then refP (A 2) (xs (w32 (i + 1))) (xs (w32 (i + 2))) (rtN (rtsX (A 2) (xs (w32 (i + 1))) (xs (w32 (i + 2)))) (xs (w32 (i + 3)))) (xs (w32 (i + 4))) else -2) else -1))) B_2 ∧ G_2 25 0 = (if (0 ≤ (xs (w32 (i + 1))) ∧ (xs (w32 (i + 1))) < mF (upA B_1 43 (w32 0) (w32 (if (0 ≤ (xs (w32 (i + 3))) ∧ (xs (w32 (i + 3))) < ((rtsX (A 2) (xs (w32 (i + 1))) (xs (w32 (i + 2)))).length : Int)) ∧ ¬ (rtN (rtsX (A 2) (xs (w32 (i + 1))) (xs (w32 (i + 2)))) (xs (w32 (i + 3)))).1 = 2 then (if 0 ≤ (xs (w32 (i + 4))) ∧ (xs (w32 (i + 4))) ≤ 12 then refP (A 2) (xs (w32 (i + 1))) (xs (w32 (i + 2))) (rtN (rtsX (A 2) (xs (w32 (i + 1))) (xs (w32 (i + 2)))) (xs (w32 (i + 3)))) (xs (w32 (i + 4))) else -2) else -1))) 0) ∧ 0 ≤ (xs (w32 (i + 2))) ∧ (xs (w32 (i + 2))) < mF (upA B_1 43 (w32 0) (w32 (if (0 ≤ (xs (w32 (i + 3))) ∧ (xs (w32 (i + 3))) < ((rtsX (A 2) (xs (w32 (i + 1))) (xs (w32 (i + 2)))).length : Int)) ∧ ¬ (rtN (rtsX (A 2) (xs (w32 (i + 1))) (xs (w32 (i + 2)))) (xs (w32 (i + 3)))).1 = 2 then (if 0 ≤ (xs (w32 (i + 4))) ∧ (xs (w32 (i + 4))) ≤ 12 then refP (A 2) (xs (w32 (i + 1))) (xs (w32 (i + 2))) (rtN (rtsX (A 2) (xs (w32 (i + 1))) (xs (w32 (i + 2)))) (xs (w32 (i + 3)))) (xs (w32 (i + 4))) else -2) else -1))) 1 then 0 else 1)) → ((w32 (G_2 25 0) = w32 0 → ((w32 0 = w32 0 → ((0 ≤ w32 0 ∧ w32 0 < 1) ∧ ((w32 (y_cmp (B_2 43 (w32 0)) (w32 (if (0 ≤ (xs (w32 (i + 1))) ∧ (xs (w32 (i + 1))) < mF (upA B_1 43 (w32 0) (w32 (if (0 ≤ (xs (w32 (i + 3))) ∧ (xs (w32 (i + 3))) < ((rtsX (A 2) (xs (w32 (i + 1))) (xs (w32 (i + 2)))).length : Int)) ∧ ¬ (rtN (rtsX (A 2) (xs (w32 (i + 1))) (xs (w32 (i + 2)))) (xs (w32 (i + 3)))).1 = 2 then (if 0 ≤ (xs (w32 (i + 4))) ∧ (xs (w32 (i + 4))) ≤ 12 then refP (A 2) (xs (w32 (i + 1))) (xs (w32 (i + 2))) (rtN (rtsX (A 2) (xs (w32 (i + 1))) (xs (w32 (i + 2)))) (xs (w32 (i + 3)))) (xs (w32 (i + 4))) else -2) else -1))) 0) ∧ 0 ≤ (xs (w32 (i + 2))) ∧ (xs (w32 (i + 2))) < mF (upA B_1 43 (w32 0) (w32 (if (0 ≤ (xs (w32 (i + 3))) ∧ (xs (w32 (i + 3))) < ((rtsX (A 2) (xs (w32 (i + 1))) (xs (w32 (i + 2)))).length : Int)) ∧ ¬ (rtN (rtsX (A 2) (xs (w32 (i + 1))) (xs (w32 (i + 2)))) (xs (w32 (i + 3)))).1 = 2 then (if 0 ≤ (xs (w32 (i + 4))) ∧ (xs (w32 (i + 4))) ≤ 12 then refP (A 2) (xs (w32 (i + 1))) (xs (w32 (i + 2))) (rtN (rtsX (A 2) (xs (w32 (i + 1))) (xs (w32 (i + 2)))) (xs (w32 (i + 3)))) (xs (w32 (i + 4))) else -2) else -1))) 1 then (if (0 ≤ (xs (w32 (i + 3))) ∧ (xs (w32 (i + 3))) < ((rtsX (mF (upA B_1 43 (w32 0) (w32 (if (0 ≤ (xs (w32 (i + 3))) ∧ (xs (w32 (i + 3))) < ((rtsX (A 2) (xs (w32 (i + 1))) (xs (w32 (i + 2)))).length : Int)) ∧ ¬ (rtN (rtsX (A 2) (xs (w32 (i + 1))) (xs (w32 (i + 2)))) (xs (w32 (i + 3)))).1 = 2 then (if 0 ≤ (xs (w32 (i + 4))) ∧ (xs (w32 (i + 4))) ≤ 12 then refP (A 2) (xs (w32 (i + 1))) (xs (w32 (i + 2))) (rtN (rtsX (A 2) (xs (w32 (i + 1))) (xs (w32 (i + 2)))) (xs (w32 (i + 3)))) (xs (w32 (i + 4))) else -2) else -1)))) (xs (w32 (i + 1))) (xs (w32 (i + 2)))).length : Int)) ∧ ¬ (rtN (rtsX (mF (upA B_1 43 (w32 0) (w32 (if (0 ≤ (xs (w32 (i + 3))) ∧ (xs (w32 (i + 3))) < ((rtsX (A 2) (xs (w32 (i + 1))) (xs (w32 (i + 2)))).length : Int)) ∧ ¬ (rtN (rtsX (A 2) (xs (w32 (i + 1))) (xs (w32 (i + 2)))) (xs (w32 (i + 3)))).1 = 2 then (if 0 ≤ (xs (w32 (i + 4))) ∧ (xs (w32 (i + 4))) ≤ 12 then refP (A 2) (xs (w32 (i + 1))) (xs (w32 (i + 2))) (rtN (rtsX (A 2) (xs (w32 (i + 1))) (xs (w32 (i + 2)))) (xs (w32 (i + 3)))) (xs (w32 (i + 4))) else -2) else -1)))) (xs (w32 (i + 1))) (xs (w32 (i + 2)))) (xs (w32 (i + 3)))).1 = 2 then (if 0 ≤ (xs (w32 (i + 4))) ∧ (xs (w32 (i + 4))) ≤ 12 then rfP (mF (upA B_1 43 (w32 0) (w32 (if (0 ≤ (xs (w32 (i + 3))) ∧ (xs (w32 (i + 3))) < ((rtsX (A 2) (xs (w32 (i + 1))) (xs (w32 (i + 2)))).length : Int)) ∧ ¬ (rtN (rtsX (A 2) (xs (w32 (i + 1))) (xs (w32 (i + 2)))) (xs (w32 (i + 3)))).1 = 2 then (if 0 ≤ (xs (w32 (i + 4))) ∧ (xs (w32 (i + 4))) ≤ 12 then refP (A 2) (xs (w32 (i + 1))) (xs (w32 (i + 2))) (rtN (rtsX (A 2) (xs (w32 (i + 1))) (xs (w32 (i + 2)))) (xs (w32 (i + 3)))) (xs (w32 (i + 4))) else -2) else -1)))) (xs (w32 (i + 1))) (xs (w32 (i + 2))) (rtN (rtsX (mF (upA B_1 43 (w32 0) (w32 (if (0 ≤ (xs (w32 (i + 3))) ∧ (xs (w32 (i + 3))) < ((rtsX (A 2) (xs (w32 (i + 1))) (xs (w32 (i + 2)))).length : Int)) ∧ ¬ (rtN (rtsX (A 2) (xs (w32 (i + 1))) (xs (w32 (i + 2)))) (xs (w32 (i + 3)))).1 = 2 then (if 0 ≤ (xs (w32 (i + 4))) ∧ (xs (w32 (i + 4))) ≤ 12 then refP (A 2) (xs (w32 (i + 1))) (xs (w32 (i + 2))) (rtN (rtsX (A 2) (xs (w32 (i + 1))) (xs (w32 (i + 2)))) (xs (w32 (i + 3)))) (xs (w32 (i + 4))) else -2) else -1)))) (xs (w32 (i + 1))) (xs (w32 (i + 2)))) (xs (w32 (i + 3)))) (xs (w32 (i + 4))) else -2) else -1) else 0))) = w32 0 → ((999 : Nat) = 999 ∧ (0 : Nat) = 0 ∧ (25 : Nat) = 25 ∧ (43 : Nat) = 43 ∧ i + 6 = i + 6 ∧ REL G_2 B_2 ∧ (2 : Nat) ≤ 2)) ∧ (¬ (w32 (y_cmp (B_2 43 (w32 0)) (w32 (if (0 ≤ (xs (w32 (i + 1))) ∧ (xs (w32 (i + 1))) < mF (upA B_1 43 (w32 0) (w32 (if (0 ≤ (xs (w32 (i + 3))) ∧ (xs (w32 (i + 3))) < ((rtsX (A 2) (xs (w32 (i + 1))) (xs (w32 (i + 2)))).length : Int)) ∧ ¬ (rtN (rtsX (A 2) (xs (w32 (i + 1))) (xs (w32 (i + 2)))) (xs (w32 (i + 3)))).1 = 2 then (if 0 ≤ (xs (w32 (i + 4))) ∧ (xs (w32 (i + 4))) ≤ 12 then refP (A 2) (xs (w32 (i + 1))) (xs (w32 (i + 2))) (rtN (rtsX (A 2) (xs (w32 (i + 1))) (xs (w32 (i + 2)))) (xs (w32 (i + 3)))) (xs (w32 (i + 4))) else -2) else -1))) 0) ∧ 0 ≤ (xs (w32 (i + 2))) ∧ (xs (w32 (i + 2))) < mF (upA B_1 43 (w32 0) (w32 (if (0 ≤ (xs (w32 (i + 3))) ∧ (xs (w32 (i + 3))) < ((rtsX (A 2) (xs (w32 (i + 1))) (xs (w32 (i + 2)))).length : Int)) ∧ ¬ (rtN (rtsX (A 2) (xs (w32 (i + 1))) (xs (w32 (i + 2)))) (xs (w32 (i + 3)))).1 = 2 then (if 0 ≤ (xs (w32 (i + 4))) ∧ (xs (w32 (i + 4))) ≤ 12 then refP (A 2) (xs (w32 (i + 1))) (xs (w32 (i + 2))) (rtN (rtsX (A 2) (xs (w32 (i + 1))) (xs (w32 (i + 2)))) (xs (w32 (i + 3)))) (xs (w32 (i + 4))) else -2) else -1))) 1 then (if (0 ≤ (xs (w32 (i + 3))) ∧ (xs (w32 (i + 3))) < ((rtsX (mF (upA B_1 43 (w32 0) (w32 (if (0 ≤ (xs (w32 (i + 3))) ∧ (xs (w32 (i + 3))) < ((rtsX (A 2) (xs (w32 (i + 1))) (xs (w32 (i + 2)))).length : Int)) ∧ ¬ (rtN (rtsX (A 2) (xs (w32 (i + 1))) (xs (w32 (i + 2)))) (xs (w32 (i + 3)))).1 = 2 then (if 0 ≤ (xs (w32 (i + 4))) ∧ (xs (w32 (i + 4))) ≤ 12 then refP (A 2) (xs (w32 (i + 1))) (xs (w32 (i + 2))) (rtN (rtsX (A 2) (xs (w32 (i + 1))) (xs (w32 (i + 2)))) (xs (w32 (i + 3)))) (xs (w32 (i + 4))) else -2) else -1)))) (xs (w32 (i + 1))) (xs (w32 (i + 2)))).length : Int)) ∧ ¬ (rtN (rtsX (mF (upA B_1 43 (w32 0) (w32 (if (0 ≤ (xs (w32 (i + 3))) ∧ (xs (w32 (i + 3))) < ((rtsX (A 2) (xs (w32 (i + 1))) (xs (w32 (i + 2)))).length : Int)) ∧ ¬ (rtN (rtsX (A 2) (xs (w32 (i + 1))) (xs (w32 (i + 2)))) (xs (w32 (i + 3)))).1 = 2 then (if 0 ≤ (xs (w32 (i + 4))) ∧ (xs (w32 (i + 4))) ≤ 12 then refP (A 2) (xs (w32 (i + 1))) (xs (w32 (i + 2))) (rtN (rtsX (A 2) (xs (w32 (i + 1))) (xs (w32 (i + 2)))) (xs (w32 (i + 3)))) (xs (w32 (i + 4))) else -2) else -1)))) (xs (w32 (i + 1))) (xs (w32 (i + 2)))) (xs (w32 (i + 3)))).1 = 2 then (if 0 ≤ (xs (w32 (i + 4))) ∧ (xs (w32 (i + 4))) ≤ 12 then rfP (mF (upA B_1 43 (w32 0) (w32 (if (0 ≤ (xs (w32 (i + 3))) ∧ (xs (w32 (i + 3))) < ((rtsX (A 2) (xs (w32 (i + 1))) (xs (w32 (i + 2)))).length : Int)) ∧ ¬ (rtN (rtsX (A 2) (xs (w32 (i + 1))) (xs (w32 (i + 2)))) (xs (w32 (i + 3)))).1 = 2 then (if 0 ≤ (xs (w32 (i + 4))) ∧ (xs (w32 (i + 4))) ≤ 12 then refP (A 2) (xs (w32 (i + 1))) (xs (w32 (i + 2))) (rtN (rtsX (A 2) (xs (w32 (i + 1))) (xs (w32 (i + 2)))) (xs (w32 (i + 3)))) (xs (w32 (i + 4))) else -2) else -1)))) (xs (w32 (i + 1))) (xs (w32 (i + 2))) (rtN (rtsX (mF (upA B_1 43 (w32 0) (w32 (if (0 ≤ (xs (w32 (i + 3))) ∧ (xs (w32 (i + 3))) < ((rtsX (A 2) (xs (w32 (i + 1))) (xs (w32 (i + 2)))).length : Int)) ∧ ¬ (rtN (rtsX (A 2) (xs (w32 (i + 1))) (xs (w32 (i + 2)))) (xs (w32 (i + 3)))).1 = 2 then (if 0 ≤ (xs (w32 (i + 4))) ∧ (xs (w32 (i + 4))) ≤ 12 then refP (A 2) (xs (w32 (i + 1))) (xs (w32 (i + 2))) (rtN (rtsX (A 2) (xs (w32 (i + 1))) (xs (w32 (i + 2)))) (xs (w32 (i + 3)))) (xs (w32 (i + 4))) else -2) else -1)))) (xs (w32 (i + 1))) (xs (w32 (i + 2)))) (xs (w32 (i + 3)))) (xs (w32 (i + 4))) else -2) else -1) else 0))) = w32 0) → (((0 : Int) = 0 ∨ (0 : Int) = 1) ∧ (lawK (some (some (vI 0))) G_2 B_2)))))) ∧ (¬ w32 0 = w32 0 → _))) ∧ (¬ w32 (G_2 25 0) = w32 0 → (((0 : Int) = 0 ∨ (0 : Int) = 1) ∧ (lawK (some (some (vI 0))) G_2 B_2)))))))))))) ∧ (¬ ((0 ≤ (xs (w32 (i + 1))) ∧ (xs (w32 (i + 1))) < A 2 0) ∧ 0 ≤ (xs (w32 (i + 2))) ∧ (xs (w32 (i + 2))) < A 2 1) → ((0 ≤ w32 (i + 1) ∧ w32 (i + 1) < Ls) ∧ ((0 ≤ w32 (i + 2) ∧ w32 (i + 2) < Ls) ∧ ((0 ≤ w32 (i + 3) ∧ w32 (i + 3) < Ls) ∧ ((0 ≤ w32 (i + 4) ∧ w32 (i + 4) < Ls) ∧ ((fgOK (mF A) ∧ (-2147483648 ≤ (xs (w32 (i + 1))) ∧ (xs (w32 (i + 1))) < 2147483648) ∧ (-2147483648 ≤ (xs (w32 (i + 2))) ∧ (xs (w32 (i + 2))) < 2147483648) ∧ (-2147483648 ≤ (xs (w32 (i + 3))) ∧ (xs (w32 (i + 3))) < 2147483648) ∧ (-2147483648 ≤ (xs (w32 (i + 4))) ∧ (xs (w32 (i + 4))) < 2147483648) ∧ RTB) ∧ (∀ (G_1 : FF) (B_1 : AA), (qdP F G_1 A B_1 ∧ G_1 25 0 = (if (0 ≤ (xs (w32 (i + 1))) ∧ (xs (w32 (i + 1))) < mF A 0) ∧ 0 ≤ (xs (w32 (i + 2))) ∧ (xs (w32 (i + 2))) < mF A 1 then 0 else 1)) → ((w32 (G_1 25 0) = w32 1 → ((w32 1 = w32 0 → _) ∧ (¬ w32 1 = w32 0 → ((999 : Nat) = 999 ∧ (0 : Nat) = 0 ∧ (25 : Nat) = 25 ∧ (43 : Nat) = 43 ∧ i + 6 = i + 6 ∧ REL G_1 B_1 ∧ (2 : Nat) ≤ 2)))) ∧ (¬ w32 (G_1 25 0) = w32 1 → (((0 : Int) = 0 ∨ (0 : Int) = 1) ∧ (lawK (some (some (vI 0))) G_1 B_1))))))))))))))))
  refine ⟨by exact hb 1 (by decide) (by decide), ?_⟩
  refine ⟨by exact hb 2 (by decide) (by decide), ?_⟩
  refine ⟨by exact hb 3 (by decide) (by decide), ?_⟩
  refine ⟨by exact hb 4 (by decide) (by decide), ?_⟩
  refine ⟨by exact ⟨rel_f hR, hx _, hx _, hx _, hx _, RTB_T _ (rel_f hR)⟩, ?_⟩
  refine ⟨fun c1 => ?_, fun c1 => ?_⟩
  · skip
    skip
    intro G_1 B_1 g1
    have hR1 : ∀ v, REL G_1 (upA B_1 43 (w32 0) v) := fun v => rel_up (rel_qr hR g1)
    have em : ∀ v, mF (upA B_1 43 (w32 0) v) = A 2 := fun v => (hR1 v).1.1.symm.trans ((upA_r (by decide)).trans (funext fun i => (g1).2.1 2 i (by decide)))
    refine ⟨by exact hb 1 (by decide) (by decide), ?_⟩
    refine ⟨by exact hb 2 (by decide) (by decide), ?_⟩
    refine ⟨by exact hb 3 (by decide) (by decide), ?_⟩
    refine ⟨by exact hb 4 (by decide) (by decide), ?_⟩
    refine ⟨by exact ⟨rel_m (hR1 _), hx _, hx _, hx _, hx _, RTB_T⟩, ?_⟩
    intro G_2 B_2 g2
    have hR2 := rel_qd (hR1 _) g2.1
    have t2 : G_2 25 0 = 0 := by
      have w := g2.2
      rw [em] at w
      exact w.trans (if_pos c1)
    have v2 := (g2.1.2 43 (w32 0) (by decide)).trans upA_s
    refine ⟨fun c2 => ?_, fun c2 => ?_⟩
    · skip
      skip
      refine ⟨fun _ => ?_, fun q => absurd (by decide) q⟩
      refine ⟨by decide, ?_⟩
      refine ⟨fun c3 => ?_, fun c3 => ?_⟩
      · skip
        skip
        exact ⟨rfl, rfl, rfl, rfl, rfl, hR2, by decide⟩
      · skip
        skip
        refine ⟨by decide, ?_⟩
        exact absurd (law_e v2 (by rw [em, if_pos c1]; exact le_rf (rel_f hR) c1.1.1 c1.1.2 c1.2.1 c1.2.2)) c3
    · skip
      skip
      refine ⟨by decide, ?_⟩
      exact absurd (by rw [t2]) c2
  · skip
    skip
    refine ⟨by exact hb 1 (by decide) (by decide), ?_⟩
    refine ⟨by exact hb 2 (by decide) (by decide), ?_⟩
    refine ⟨by exact hb 3 (by decide) (by decide), ?_⟩
    refine ⟨by exact hb 4 (by decide) (by decide), ?_⟩
    refine ⟨by exact ⟨rel_m hR, hx _, hx _, hx _, hx _, RTB_T⟩, ?_⟩
    intro G_1 B_1 g1
    have hR2 := rel_qd hR g1.1
    have t2 : G_1 25 0 = 1 := by
      have w := g1.2
      rw [e0] at w
      exact w.trans (if_neg c1)
    refine ⟨fun c2 => ?_, fun c2 => ?_⟩
    · skip
      skip
      refine ⟨fun q => absurd q (by decide), fun _ => ?_⟩
      exact ⟨rfl, rfl, rfl, rfl, rfl, hR2, by decide⟩
    · skip
      skip
      refine ⟨by decide, ?_⟩
      exact absurd (by rw [t2]) c2
def tgV (f : Int → Int) (c l : Int) : Int := bi (dblP (cfL f c l) (f (18 + c) - 1))
theorem tgV_01 {f : Int → Int} {c l : Int} : tgV f c l = 0 ∨ tgV f c l = 1 := bi_01
def qsL_isTangentV : SP := fun as F A K => match as with
  | [.inr (.inr x), .inl c, .inl l, .inr (.inr o)] => cond (Nat.beq x 0 && Nat.beq o 43) ((fgOK (A 2) ∧ (-2147483648 ≤ c ∧ c < 2147483648) ∧ (-2147483648 ≤ l ∧ l < 2147483648)) ∧ (((0 ≤ c ∧ c < A 2 0) ∧ 0 ≤ l ∧ l < A 2 1 → (∀ (G_1 : FF) (B_1 : AA), (qrP F G_1 A B_1) → (K (some (some (vI 0))) G_1 (upA B_1 43 (w32 0) (w32 (tgV (A 2) c l)))))) ∧ (¬ ((0 ≤ c ∧ c < A 2 0) ∧ 0 ≤ l ∧ l < A 2 1) → (K (some (some (vI 1))) F A)))) (False)
  | _ => False
def qeL_isTangentV : CE := (yL_isTangent, cL_isTangent, 5, (some .int), 4, none, 2, [(0, 17, 20, 13)], 2, 12, qsL_isTangentV)
theorem qbL_isTangentV : am_mb qeL_isTangentV := ⟨am_tb_at 1139 (by decide +kernel) rfl, am_tb_at 113 (by decide +kernel) rfl, ⟨by decide, by decide, by decide +kernel⟩, by decide, am_tb_at 1138 (by decide +kernel) rfl⟩
theorem qtL_isTangentV (l : Launch) (hst : l.stackTraces = false) : am_CT l layL qeL_isTangentV := fun layW hp D al kC as F A K sz h => qtL_isTangent l hst layW hp D al kC as F A K sz h
def qsX9_isTangentV : SP := fun as F A K => match as with
  | [.inr (.inr o), .inl c, .inl l] => cond (Nat.beq o 25) ((fgOK (mF A) ∧ (-2147483648 ≤ c ∧ c < 2147483648) ∧ (-2147483648 ≤ l ∧ l < 2147483648) ∧ lnOK (mF A)) ∧ (∀ (G_1 : FF) (B_1 : AA), (qdP F G_1 A B_1 ∧ G_1 25 0 = (if (0 ≤ c ∧ c < mF A 0) ∧ 0 ≤ l ∧ l < mF A 1 then 0 else 1)) → (K (some (some (vI (if (0 ≤ c ∧ c < mF A 0) ∧ 0 ≤ l ∧ l < mF A 1 then tgV (mF A) c l else 0)))) G_1 B_1))) (False)
  | _ => False
def qeX9_isTangentV : CE := (yX9_isTangent, cX9_isTangent, 3, (some .boolean), 2, some 9, 0, [], 0, 6, qsX9_isTangentV)
theorem qbX9_isTangentV : am_mb qeX9_isTangentV := ⟨am_tb_at 1864 (by decide +kernel) rfl, am_tb_at 124 (by decide +kernel) rfl, ⟨by decide, by decide, by decide +kernel⟩, by decide, by decide, am_tb_at 1862 (by decide +kernel) rfl, am_tb_at 1863 (by decide +kernel) rfl, _, _, rfl⟩
theorem qtX9_isTangentV (l : Launch) : am_CT l layM qeX9_isTangentV := fun layW hp D al kC as F A K sz h => qtX9_isTangent l layW hp D al kC as F A K sz h
def qkL_29 : Nat → Option CI := fun pc => cond (Nat.ble 3593 pc) none (cond (Nat.ble 2108 pc) (cond (Nat.ble 2131 pc) (cond (Nat.ble 2142 pc) (cond (Nat.ble 2147 pc) (cond (Nat.ble 3589 pc) (cond (Nat.beq pc 3589) (some (.iinc 4 6, 3592, [])) (cond (Nat.beq pc 3592) (some (.goto (-3569), 3595, [23])) (none))) (cond (Nat.beq pc 2147) (some (.ireturn, 2148, [])) (cond (Nat.beq pc 2148) (some (.goto 1441, 2151, [3589])) (none)))) (cond (Nat.beq pc 2142) (some (.lcmp, 2143, [])) (cond (Nat.beq pc 2143) (some (.ifCond .eq 5, 2146, [2148])) (cond (Nat.beq pc 2146) (some (.iconst 0, 2147, [])) (none))))) (cond (Nat.ble 2137 pc) (cond (Nat.beq pc 2137) (some (.lconst 1, 2138, [])) (cond (Nat.beq pc 2138) (some (.goto 4, 2141, [2142])) (cond (Nat.beq pc 2141) (some (.lconst 0, 2142, [])) (none)))) (cond (Nat.beq pc 2131) (some (.laload, 2132, [])) (cond (Nat.beq pc 2132) (some (.iload 6, 2134, [])) (cond (Nat.beq pc 2134) (some (.ifCond .eq 7, 2137, [2141])) (none)))))) (cond (Nat.ble 2122 pc) (cond (Nat.ble 2126 pc) (cond (Nat.beq pc 2126) (some (.ifCond .ne 22, 2129, [2148])) (cond (Nat.beq pc 2129) (some (.aload_n 3, 2130, [])) (cond (Nat.beq pc 2130) (some (.iconst 0, 2131, [])) (none)))) (cond (Nat.beq pc 2122) (some (.iconst 0, 2123, [])) (cond (Nat.beq pc 2123) (some (.ireturn, 2124, [])) (cond (Nat.beq pc 2124) (some (.iload 5, 2126, [])) (none))))) (cond (Nat.ble 2114 pc) (cond (Nat.beq pc 2114) (some (.invokevirtual 175, 2117, [])) (cond (Nat.beq pc 2117) (some (.iload 5, 2119, [])) (cond (Nat.beq pc 2119) (some (.if_icmp .eq 5, 2122, [2124])) (none)))) (cond (Nat.beq pc 2108) (some (.invokevirtual 241, 2111, [])) (cond (Nat.beq pc 2111) (some (.istore 6, 2113, [])) (cond (Nat.beq pc 2113) (some (.aload_n 2, 2114, [])) (none))))))) (cond (Nat.ble 2090 pc) (cond (Nat.ble 2100 pc) (cond (Nat.ble 2103 pc) (cond (Nat.ble 2106 pc) (cond (Nat.beq pc 2106) (some (.iadd, 2107, [])) (cond (Nat.beq pc 2107) (some (.iaload, 2108, [])) (none))) (cond (Nat.beq pc 2103) (some (.iload 4, 2105, [])) (cond (Nat.beq pc 2105) (some (.iconst 2, 2106, [])) (none)))) (cond (Nat.beq pc 2100) (some (.iadd, 2101, [])) (cond (Nat.beq pc 2101) (some (.iaload, 2102, [])) (cond (Nat.beq pc 2102) (some (.aload_n 0, 2103, [])) (none))))) (cond (Nat.ble 2096 pc) (cond (Nat.beq pc 2096) (some (.aload_n 0, 2097, [])) (cond (Nat.beq pc 2097) (some (.iload 4, 2099, [])) (cond (Nat.beq pc 2099) (some (.iconst 1, 2100, [])) (none)))) (cond (Nat.beq pc 2090) (some (.invokestatic 239, 2093, [])) (cond (Nat.beq pc 2093) (some (.istore 5, 2095, [])) (cond (Nat.beq pc 2095) (some (.aload_n 2, 2096, [])) (none)))))) (cond (Nat.ble 2083 pc) (cond (Nat.ble 2087 pc) (cond (Nat.beq pc 2087) (some (.iadd, 2088, [])) (cond (Nat.beq pc 2088) (some (.iaload, 2089, [])) (cond (Nat.beq pc 2089) (some (.aload_n 3, 2090, [])) (none)))) (cond (Nat.beq pc 2083) (some (.aload_n 0, 2084, [])) (cond (Nat.beq pc 2084) (some (.iload 4, 2086, [])) (cond (Nat.beq pc 2086) (some (.iconst 2, 2087, [])) (none))))) (cond (Nat.ble 2080 pc) (cond (Nat.beq pc 2080) (some (.iconst 1, 2081, [])) (cond (Nat.beq pc 2081) (some (.iadd, 2082, [])) (cond (Nat.beq pc 2082) (some (.iaload, 2083, [])) (none)))) (cond (Nat.beq pc 2076) (some (.aload_n 1, 2077, [])) (cond (Nat.beq pc 2077) (some (.aload_n 0, 2078, [])) (cond (Nat.beq pc 2078) (some (.iload 4, 2080, [])) (none))))))))
theorem qkL_29_ok : ∀ pc i nx ts, qkL_29 pc = some (i, nx, ts) → am_cok cL_law pc (i, nx, ts) = true := fun pc i nx ts h => am_tok_ok (n := 3593) (by decide +kernel) (fun pc h => by show cond (Nat.ble 3593 pc) _ _ = _; rw [Nat.ble_eq_true_of_le h]; rfl) h
def qaL_29 : Nat → Option CE := fun k => cond (Nat.beq k 239) (some qeL_isTangentV) (cond (Nat.beq k 241) (some qeX9_isTangentV) (cond (Nat.beq k 175) (some qeX9_thrown) (none)))
theorem qyL_29 (l : Launch) (hst : l.stackTraces = false) : ∀ k e1, qaL_29 k = some e1 → am_cal l layL RL 40 k e1 ∧ True := q_cons ⟨am_calS (qtL_isTangentV l hst) qbL_isTangentV (by decide) rfl (by decide) (am_tb_at 1137 (by decide +kernel) rfl), trivial⟩ (q_cons ⟨am_calV (ci := 9) (am_CT_mono layM_L (qtX9_isTangentV l)) qbX9_isTangentV (by decide) rfl (am_tb_at 1861 (by decide +kernel) rfl), trivial⟩ (q_cons ⟨am_calV (ci := 9) (am_CT_mono layM_L (qtX9_thrown l)) qbX9_thrown (by decide) rfl (am_tb_at 1481 (by decide +kernel) rfl), trivial⟩ (q_nil)))
def qxL_29 (Ls : Int) (xs : Int → Int) : CX := (qkL_29, layL, qfL, qaL_29, qcL, qlL, qmL, some .boolean, false, none, 2, some (Ls, xs), fun _ => none)
theorem qzL_29 (l : Launch) (hst : l.stackTraces = false) (Ls : Int) (xs : Int → Int) : am_sta l (qxL_29 Ls xs) RL 40 cL_law := ⟨qkL_29_ok, layL_ok, qfL_ok, qcL_ok, qlL_ok, am_mthP qmL_ok (by decide), fun k e1 h => (qyL_29 l hst k e1 h).1⟩
set_option maxRecDepth 20000 in
theorem qvL_29 (Ls : Int) (xs : Int → Int) (F : FF) (A : AA) (i : Int) (hx : ∀ j, -2147483648 ≤ xs j ∧ xs j < 2147483648) (hL : Ls ≤ 3072) (i0 : 0 ≤ i) (i1 : i + 6 ≤ Ls) (hR : REL F A) : am_stp (qxL_29 Ls xs) (am_run (qxL_29 Ls xs) lawC (lawI i) lawK 48) lawK 2076 [some (vR 999), some (vR 0), some (vR 25), some (vR 43), some (vI i), none, none, none] [] F A 0 := by
  have hb : ∀ k : Int, 0 ≤ k → k ≤ 5 → 0 ≤ w32 (i + k) ∧ w32 (i + k) < Ls := fun k k0 k1 => by rw [w32_id (by omega) (by omega)]; omega
  have e0 : mF A = A 2 := hR.1.1.symm
  show (0 ≤ w32 (i + 1) ∧ w32 (i + 1) < Ls) ∧ ((0 ≤ w32 (i + 2) ∧ w32 (i + 2) < Ls) ∧ ((fgOK (A 2) ∧ (-2147483648 ≤ (xs (w32 (i + 1))) ∧ (xs (w32 (i + 1))) < 2147483648) ∧ (-2147483648 ≤ (xs (w32 (i + 2))) ∧ (xs (w32 (i + 2))) < 2147483648)) ∧ (((0 ≤ (xs (w32 (i + 1))) ∧ (xs (w32 (i + 1))) < A 2 0) ∧ 0 ≤ (xs (w32 (i + 2))) ∧ (xs (w32 (i + 2))) < A 2 1 → (∀ (G_1 : FF) (B_1 : AA), (qrP F G_1 A B_1) → ((0 ≤ w32 (i + 1) ∧ w32 (i + 1) < Ls) ∧ ((0 ≤ w32 (i + 2) ∧ w32 (i + 2) < Ls) ∧ ((fgOK (mF (upA B_1 43 (w32 0) (w32 (tgV (A 2) (xs (w32 (i + 1))) (xs (w32 (i + 2))))))) ∧ (-2147483648 ≤ (xs (w32 (i + 1))) ∧ (xs (w32 (i + 1))) < 2147483648) ∧ (-2147483648 ≤ (xs (w32 (i + 2))) ∧ (xs (w32 (i + 2))) < 2147483648) ∧ lnOK (mF (upA B_1 43 (w32 0) (w32 (tgV (A 2) (xs (w32 (i + 1))) (xs (w32 (i + 2)))))))) ∧ (∀ (G_2 : FF) (B_2 : AA), (qdP G_1 G_2 (upA B_1 43 (w32 0) (w32 (tgV (A 2) (xs (w32 (i + 1))) (xs (w32 (i + 2)))))) B_2 ∧ G_2 25 0 = (if (0 ≤ (xs (w32 (i + 1))) ∧ (xs (w32 (i + 1))) < mF (upA B_1 43 (w32 0) (w32 (tgV (A 2) (xs (w32 (i + 1))) (xs (w32 (i + 2)))))) 0) ∧ 0 ≤ (xs (w32 (i + 2))) ∧ (xs (w32 (i + 2))) < mF (upA B_1 43 (w32 0) (w32 (tgV (A 2) (xs (w32 (i + 1))) (xs (w32 (i + 2)))))) 1 then 0 else 1)) → ((w32 (G_2 25 0) = w32 0 → ((w32 0 = w32 0 → ((0 ≤ w32 0 ∧ w32 0 < 1) ∧ ((w32 (if (0 ≤ (xs (w32 (i + 1))) ∧ (xs (w32 (i + 1))) < mF (upA B_1 43 (w32 0) (w32 (tgV (A 2) (xs (w32 (i + 1))) (xs (w32 (i + 2)))))) 0) ∧ 0 ≤ (xs (w32 (i + 2))) ∧ (xs (w32 (i + 2))) < mF (upA B_1 43 (w32 0) (w32 (tgV (A 2) (xs (w32 (i + 1))) (xs (w32 (i + 2)))))) 1 then tgV (mF (upA B_1 43 (w32 0) (w32 (tgV (A 2) (xs (w32 (i + 1))) (xs (w32 (i + 2))))))) (xs (w32 (i + 1))) (xs (w32 (i + 2))) else 0) = w32 0 → ((w32 (y_cmp (B_2 43 (w32 0)) 0) = w32 0 → ((999 : Nat) = 999 ∧ (0 : Nat) = 0 ∧ (25 : Nat) = 25 ∧ (43 : Nat) = 43 ∧ i + 6 = i + 6 ∧ REL G_2 B_2 ∧ (2 : Nat) ≤ 2)) ∧ (¬ w32 (y_cmp (B_2 43 (w32 0)) 0) = w32 0 → (((0 : Int) = 0 ∨ (0 : Int) = 1) ∧ (lawK (some (some (vI 0))) G_2 B_2))))) ∧ (¬ (w32 (if (0 ≤ (xs (w32 (i + 1))) ∧ (xs (w32 (i + 1))) < mF (upA B_1 43 (w32 0) (w32 (tgV (A 2) (xs (w32 (i + 1))) (xs (w32 (i + 2)))))) 0) ∧ 0 ≤ (xs (w32 (i + 2))) ∧ (xs (w32 (i + 2))) < mF (upA B_1 43 (w32 0) (w32 (tgV (A 2) (xs (w32 (i + 1))) (xs (w32 (i + 2)))))) 1 then tgV (mF (upA B_1 43 (w32 0) (w32 (tgV (A 2) (xs (w32 (i + 1))) (xs (w32 (i + 2))))))) (xs (w32 (i + 1))) (xs (w32 (i + 2))) else 0) = w32 0) → ((w32 (y_cmp (B_2 43 (w32 0)) 1) = w32 0 → ((999 : Nat) = 999 ∧ (0 : Nat) = 0 ∧ (25 : Nat) = 25 ∧ (43 : Nat) = 43 ∧ i + 6 = i + 6 ∧ REL G_2 B_2 ∧ (2 : Nat) ≤ 2)) ∧ (¬ w32 (y_cmp (B_2 43 (w32 0)) 1) = w32 0 → (((0 : Int) = 0 ∨ (0 : Int) = 1) ∧ (lawK (some (some (vI 0))) G_2 B_2)))))))) ∧ (¬ w32 0 = w32 0 → _))) ∧ (¬ w32 (G_2 25 0) = w32 0 → (((0 : Int) = 0 ∨ (0 : Int) = 1) ∧ (lawK (some (some (vI 0))) G_2 B_2)))))))))) ∧ (¬ ((0 ≤ (xs (w32 (i + 1))) ∧ (xs (w32 (i + 1))) < A 2 0) ∧ 0 ≤ (xs (w32 (i + 2))) ∧ (xs (w32 (i + 2))) < A 2 1) → ((0 ≤ w32 (i + 1) ∧ w32 (i + 1) < Ls) ∧ ((0 ≤ w32 (i + 2) ∧ w32 (i + 2) < Ls) ∧ ((fgOK (mF A) ∧ (-2147483648 ≤ (xs (w32 (i + 1))) ∧ (xs (w32 (i + 1))) < 2147483648) ∧ (-2147483648 ≤ (xs (w32 (i + 2))) ∧ (xs (w32 (i + 2))) < 2147483648) ∧ lnOK (mF A)) ∧ (∀ (G_1 : FF) (B_1 : AA), (qdP F G_1 A B_1 ∧ G_1 25 0 = (if (0 ≤ (xs (w32 (i + 1))) ∧ (xs (w32 (i + 1))) < mF A 0) ∧ 0 ≤ (xs (w32 (i + 2))) ∧ (xs (w32 (i + 2))) < mF A 1 then 0 else 1)) → ((w32 (G_1 25 0) = w32 1 → ((w32 1 = w32 0 → _) ∧ (¬ w32 1 = w32 0 → ((999 : Nat) = 999 ∧ (0 : Nat) = 0 ∧ (25 : Nat) = 25 ∧ (43 : Nat) = 43 ∧ i + 6 = i + 6 ∧ REL G_1 B_1 ∧ (2 : Nat) ≤ 2)))) ∧ (¬ w32 (G_1 25 0) = w32 1 → (((0 : Int) = 0 ∨ (0 : Int) = 1) ∧ (lawK (some (some (vI 0))) G_1 B_1))))))))))))
  refine ⟨by exact hb 1 (by decide) (by decide), ?_⟩
  refine ⟨by exact hb 2 (by decide) (by decide), ?_⟩
  refine ⟨by exact ⟨rel_f hR, hx _, hx _⟩, ?_⟩
  refine ⟨fun c1 => ?_, fun c1 => ?_⟩
  · skip
    skip
    intro G_1 B_1 g1
    have hR1 : ∀ v, REL G_1 (upA B_1 43 (w32 0) v) := fun v => rel_up (rel_qr hR g1)
    have em : ∀ v, mF (upA B_1 43 (w32 0) v) = A 2 := fun v => (hR1 v).1.1.symm.trans ((upA_r (by decide)).trans (funext fun i => (g1).2.1 2 i (by decide)))
    refine ⟨by exact hb 1 (by decide) (by decide), ?_⟩
    refine ⟨by exact hb 2 (by decide) (by decide), ?_⟩
    refine ⟨by exact ⟨rel_m (hR1 _), hx _, hx _, rel_l (hR1 _)⟩, ?_⟩
    intro G_2 B_2 g2
    have hR2 := rel_qd (hR1 _) g2.1
    have t2 : G_2 25 0 = 0 := by
      have w := g2.2
      rw [em] at w
      exact w.trans (if_pos c1)
    have v2 := (g2.1.2 43 (w32 0) (by decide)).trans upA_s
    refine ⟨fun c2 => ?_, fun c2 => ?_⟩
    · skip
      skip
      refine ⟨fun _ => ?_, fun q => absurd (by decide) q⟩
      refine ⟨by decide, ?_⟩
      refine ⟨fun c3 => ?_, fun c3 => ?_⟩
      · skip
        skip
        refine ⟨fun c4 => ?_, fun c4 => ?_⟩
        · skip
          skip
          exact ⟨rfl, rfl, rfl, rfl, rfl, hR2, by decide⟩
        · skip
          skip
          refine ⟨by decide, ?_⟩
          exact absurd (law_z v2 (by rw [em, if_pos c1]) c3) c4
      · skip
        skip
        refine ⟨fun c4 => ?_, fun c4 => ?_⟩
        · skip
          skip
          exact ⟨rfl, rfl, rfl, rfl, rfl, hR2, by decide⟩
        · skip
          skip
          refine ⟨by decide, ?_⟩
          exact absurd (law_o v2 (by rw [em, if_pos c1]) tgV_01 c3) c4
    · skip
      skip
      refine ⟨by decide, ?_⟩
      exact absurd (by rw [t2]) c2
  · skip
    skip
    refine ⟨by exact hb 1 (by decide) (by decide), ?_⟩
    refine ⟨by exact hb 2 (by decide) (by decide), ?_⟩
    refine ⟨by exact ⟨rel_m hR, hx _, hx _, rel_l hR⟩, ?_⟩
    intro G_1 B_1 g1
    have hR2 := rel_qd hR g1.1
    have t2 : G_1 25 0 = 1 := by
      have w := g1.2
      rw [e0] at w
      exact w.trans (if_neg c1)
    refine ⟨fun c2 => ?_, fun c2 => ?_⟩
    · skip
      skip
      refine ⟨fun q => absurd q (by decide), fun _ => ?_⟩
      exact ⟨rfl, rfl, rfl, rfl, rfl, hR2, by decide⟩
    · skip
      skip
      refine ⟨by decide, ?_⟩
      exact absurd (by rw [t2]) c2
def qkL_30 : Nat → Option CI := fun pc => cond (Nat.ble 3593 pc) none (cond (Nat.ble 2177 pc) (cond (Nat.ble 2194 pc) (cond (Nat.ble 2202 pc) (cond (Nat.ble 2204 pc) (cond (Nat.beq pc 2204) (some (.goto 1385, 2207, [3589])) (cond (Nat.beq pc 3589) (some (.iinc 4 6, 3592, [])) (cond (Nat.beq pc 3592) (some (.goto (-3569), 3595, [23])) (none)))) (cond (Nat.beq pc 2202) (some (.iconst 0, 2203, [])) (cond (Nat.beq pc 2203) (some (.ireturn, 2204, [])) (none)))) (cond (Nat.ble 2197 pc) (cond (Nat.beq pc 2197) (some (.i2l, 2198, [])) (cond (Nat.beq pc 2198) (some (.lcmp, 2199, [])) (cond (Nat.beq pc 2199) (some (.ifCond .eq 5, 2202, [2204])) (none)))) (cond (Nat.beq pc 2194) (some (.laload, 2195, [])) (cond (Nat.beq pc 2195) (some (.iload 6, 2197, [])) (none))))) (cond (Nat.ble 2186 pc) (cond (Nat.ble 2189 pc) (cond (Nat.beq pc 2189) (some (.ifCond .ne 15, 2192, [2204])) (cond (Nat.beq pc 2192) (some (.aload_n 3, 2193, [])) (cond (Nat.beq pc 2193) (some (.iconst 0, 2194, [])) (none)))) (cond (Nat.beq pc 2186) (some (.ireturn, 2187, [])) (cond (Nat.beq pc 2187) (some (.iload 5, 2189, [])) (none)))) (cond (Nat.ble 2182 pc) (cond (Nat.beq pc 2182) (some (.if_icmp .eq 5, 2185, [2187])) (cond (Nat.beq pc 2185) (some (.iconst 0, 2186, [])) (none))) (cond (Nat.beq pc 2177) (some (.invokevirtual 175, 2180, [])) (cond (Nat.beq pc 2180) (some (.iload 5, 2182, [])) (none)))))) (cond (Nat.ble 2164 pc) (cond (Nat.ble 2169 pc) (cond (Nat.ble 2171 pc) (cond (Nat.beq pc 2171) (some (.invokevirtual 244, 2174, [])) (cond (Nat.beq pc 2174) (some (.istore 6, 2176, [])) (cond (Nat.beq pc 2176) (some (.aload_n 2, 2177, [])) (none)))) (cond (Nat.beq pc 2169) (some (.iadd, 2170, [])) (cond (Nat.beq pc 2170) (some (.iaload, 2171, [])) (none)))) (cond (Nat.ble 2166 pc) (cond (Nat.beq pc 2166) (some (.iload 4, 2168, [])) (cond (Nat.beq pc 2168) (some (.iconst 1, 2169, [])) (none))) (cond (Nat.beq pc 2164) (some (.aload_n 2, 2165, [])) (cond (Nat.beq pc 2165) (some (.aload_n 0, 2166, [])) (none))))) (cond (Nat.ble 2156 pc) (cond (Nat.ble 2158 pc) (cond (Nat.beq pc 2158) (some (.aload_n 3, 2159, [])) (cond (Nat.beq pc 2159) (some (.invokestatic 242, 2162, [])) (cond (Nat.beq pc 2162) (some (.istore 5, 2164, [])) (none)))) (cond (Nat.beq pc 2156) (some (.iadd, 2157, [])) (cond (Nat.beq pc 2157) (some (.iaload, 2158, [])) (none)))) (cond (Nat.ble 2153 pc) (cond (Nat.beq pc 2153) (some (.iload 4, 2155, [])) (cond (Nat.beq pc 2155) (some (.iconst 1, 2156, [])) (none))) (cond (Nat.beq pc 2151) (some (.aload_n 1, 2152, [])) (cond (Nat.beq pc 2152) (some (.aload_n 0, 2153, [])) (none)))))))
theorem qkL_30_ok : ∀ pc i nx ts, qkL_30 pc = some (i, nx, ts) → am_cok cL_law pc (i, nx, ts) = true := fun pc i nx ts h => am_tok_ok (n := 3593) (by decide +kernel) (fun pc h => by show cond (Nat.ble 3593 pc) _ _ = _; rw [Nat.ble_eq_true_of_le h]; rfl) h
def qaL_30 : Nat → Option CE := fun k => cond (Nat.beq k 242) (some qeL_linesMet) (cond (Nat.beq k 244) (some qeX9_linesMet) (cond (Nat.beq k 175) (some qeX9_thrown) (none)))
theorem qyL_30 (l : Launch) (hst : l.stackTraces = false) : ∀ k e1, qaL_30 k = some e1 → am_cal l layL RL 40 k e1 ∧ True := q_cons ⟨am_calS (qtL_linesMet l hst) qbL_linesMet (by decide) rfl (by decide) (am_tb_at 1167 (by decide +kernel) rfl), trivial⟩ (q_cons ⟨am_calV (ci := 9) (am_CT_mono layM_L (qtX9_linesMet l)) qbX9_linesMet (by decide) rfl (am_tb_at 1883 (by decide +kernel) rfl), trivial⟩ (q_cons ⟨am_calV (ci := 9) (am_CT_mono layM_L (qtX9_thrown l)) qbX9_thrown (by decide) rfl (am_tb_at 1481 (by decide +kernel) rfl), trivial⟩ (q_nil)))
def qxL_30 (Ls : Int) (xs : Int → Int) : CX := (qkL_30, layL, qfL, qaL_30, qcL, qlL, qmL, some .boolean, false, none, 2, some (Ls, xs), fun _ => none)
theorem qzL_30 (l : Launch) (hst : l.stackTraces = false) (Ls : Int) (xs : Int → Int) : am_sta l (qxL_30 Ls xs) RL 40 cL_law := ⟨qkL_30_ok, layL_ok, qfL_ok, qcL_ok, qlL_ok, am_mthP qmL_ok (by decide), fun k e1 h => (qyL_30 l hst k e1 h).1⟩
set_option maxRecDepth 20000 in
theorem qvL_30 (Ls : Int) (xs : Int → Int) (F : FF) (A : AA) (i : Int) (hx : ∀ j, -2147483648 ≤ xs j ∧ xs j < 2147483648) (hL : Ls ≤ 3072) (i0 : 0 ≤ i) (i1 : i + 6 ≤ Ls) (hR : REL F A) : am_stp (qxL_30 Ls xs) (am_run (qxL_30 Ls xs) lawC (lawI i) lawK 36) lawK 2151 [some (vR 999), some (vR 0), some (vR 25), some (vR 43), some (vI i), none, none, none] [] F A 0 := by
  have hb : ∀ k : Int, 0 ≤ k → k ≤ 5 → 0 ≤ w32 (i + k) ∧ w32 (i + k) < Ls := fun k k0 k1 => by rw [w32_id (by omega) (by omega)]; omega
  have e0 : mF A = A 2 := hR.1.1.symm
  show (0 ≤ w32 (i + 1) ∧ w32 (i + 1) < Ls) ∧ ((fgOK (A 2) ∧ (-2147483648 ≤ (xs (w32 (i + 1))) ∧ (xs (w32 (i + 1))) < 2147483648) ∧ rtB (A 2)) ∧ ((0 ≤ (xs (w32 (i + 1))) ∧ (xs (w32 (i + 1))) < A 2 0 → (∀ (G_1 : FF) (B_1 : AA), (qrP F G_1 A B_1) → ((0 ≤ w32 (i + 1) ∧ w32 (i + 1) < Ls) ∧ ((fgOK (mF (upA B_1 43 (w32 0) (w32 (bitP (fun ii => 0 < sureF (A 2) (xs (w32 (i + 1))) ii) (Int.toNat (A 2 1)))))) ∧ (-2147483648 ≤ (xs (w32 (i + 1))) ∧ (xs (w32 (i + 1))) < 2147483648) ∧ RTB) ∧ (∀ (G_2 : FF) (B_2 : AA), (qdP G_1 G_2 (upA B_1 43 (w32 0) (w32 (bitP (fun ii => 0 < sureF (A 2) (xs (w32 (i + 1))) ii) (Int.toNat (A 2 1))))) B_2 ∧ G_2 25 0 = (if 0 ≤ (xs (w32 (i + 1))) ∧ (xs (w32 (i + 1))) < mF (upA B_1 43 (w32 0) (w32 (bitP (fun ii => 0 < sureF (A 2) (xs (w32 (i + 1))) ii) (Int.toNat (A 2 1))))) 0 then 0 else 1)) → ((w32 (G_2 25 0) = w32 0 → ((w32 0 = w32 0 → ((0 ≤ w32 0 ∧ w32 0 < 1) ∧ ((w32 (y_cmp (B_2 43 (w32 0)) (w32 (if 0 ≤ (xs (w32 (i + 1))) ∧ (xs (w32 (i + 1))) < mF (upA B_1 43 (w32 0) (w32 (bitP (fun ii => 0 < sureF (A 2) (xs (w32 (i + 1))) ii) (Int.toNat (A 2 1))))) 0 then bitP (fun ii => 0 < sureF (mF (upA B_1 43 (w32 0) (w32 (bitP (fun ii => 0 < sureF (A 2) (xs (w32 (i + 1))) ii) (Int.toNat (A 2 1)))))) (xs (w32 (i + 1))) ii) (Int.toNat (mF (upA B_1 43 (w32 0) (w32 (bitP (fun ii => 0 < sureF (A 2) (xs (w32 (i + 1))) ii) (Int.toNat (A 2 1))))) 1)) else 0))) = w32 0 → ((999 : Nat) = 999 ∧ (0 : Nat) = 0 ∧ (25 : Nat) = 25 ∧ (43 : Nat) = 43 ∧ i + 6 = i + 6 ∧ REL G_2 B_2 ∧ (1 : Nat) ≤ 2)) ∧ (¬ (w32 (y_cmp (B_2 43 (w32 0)) (w32 (if 0 ≤ (xs (w32 (i + 1))) ∧ (xs (w32 (i + 1))) < mF (upA B_1 43 (w32 0) (w32 (bitP (fun ii => 0 < sureF (A 2) (xs (w32 (i + 1))) ii) (Int.toNat (A 2 1))))) 0 then bitP (fun ii => 0 < sureF (mF (upA B_1 43 (w32 0) (w32 (bitP (fun ii => 0 < sureF (A 2) (xs (w32 (i + 1))) ii) (Int.toNat (A 2 1)))))) (xs (w32 (i + 1))) ii) (Int.toNat (mF (upA B_1 43 (w32 0) (w32 (bitP (fun ii => 0 < sureF (A 2) (xs (w32 (i + 1))) ii) (Int.toNat (A 2 1))))) 1)) else 0))) = w32 0) → (((0 : Int) = 0 ∨ (0 : Int) = 1) ∧ (lawK (some (some (vI 0))) G_2 B_2)))))) ∧ (¬ w32 0 = w32 0 → _))) ∧ (¬ w32 (G_2 25 0) = w32 0 → (((0 : Int) = 0 ∨ (0 : Int) = 1) ∧ (lawK (some (some (vI 0))) G_2 B_2))))))))) ∧ (¬ (0 ≤ (xs (w32 (i + 1))) ∧ (xs (w32 (i + 1))) < A 2 0) → ((0 ≤ w32 (i + 1) ∧ w32 (i + 1) < Ls) ∧ ((fgOK (mF A) ∧ (-2147483648 ≤ (xs (w32 (i + 1))) ∧ (xs (w32 (i + 1))) < 2147483648) ∧ RTB) ∧ (∀ (G_1 : FF) (B_1 : AA), (qdP F G_1 A B_1 ∧ G_1 25 0 = (if 0 ≤ (xs (w32 (i + 1))) ∧ (xs (w32 (i + 1))) < mF A 0 then 0 else 1)) → ((w32 (G_1 25 0) = w32 1 → ((w32 1 = w32 0 → _) ∧ (¬ w32 1 = w32 0 → ((999 : Nat) = 999 ∧ (0 : Nat) = 0 ∧ (25 : Nat) = 25 ∧ (43 : Nat) = 43 ∧ i + 6 = i + 6 ∧ REL G_1 B_1 ∧ (1 : Nat) ≤ 2)))) ∧ (¬ w32 (G_1 25 0) = w32 1 → (((0 : Int) = 0 ∨ (0 : Int) = 1) ∧ (lawK (some (some (vI 0))) G_1 B_1))))))))))
  refine ⟨by exact hb 1 (by decide) (by decide), ?_⟩
  refine ⟨by exact ⟨rel_f hR, hx _, RTB_T _ (rel_f hR)⟩, ?_⟩
  refine ⟨fun c1 => ?_, fun c1 => ?_⟩
  · skip
    skip
    intro G_1 B_1 g1
    have hR1 : ∀ v, REL G_1 (upA B_1 43 (w32 0) v) := fun v => rel_up (rel_qr hR g1)
    have em : ∀ v, mF (upA B_1 43 (w32 0) v) = A 2 := fun v => (hR1 v).1.1.symm.trans ((upA_r (by decide)).trans (funext fun i => (g1).2.1 2 i (by decide)))
    refine ⟨by exact hb 1 (by decide) (by decide), ?_⟩
    refine ⟨by exact ⟨rel_m (hR1 _), hx _, RTB_T⟩, ?_⟩
    intro G_2 B_2 g2
    have hR2 := rel_qd (hR1 _) g2.1
    have t2 : G_2 25 0 = 0 := by
      have w := g2.2
      rw [em] at w
      exact w.trans (if_pos c1)
    have v2 := (g2.1.2 43 (w32 0) (by decide)).trans upA_s
    refine ⟨fun c2 => ?_, fun c2 => ?_⟩
    · skip
      skip
      refine ⟨fun _ => ?_, fun q => absurd (by decide) q⟩
      refine ⟨by decide, ?_⟩
      refine ⟨fun c3 => ?_, fun c3 => ?_⟩
      · skip
        skip
        exact ⟨rfl, rfl, rfl, rfl, rfl, hR2, by decide⟩
      · skip
        skip
        refine ⟨by decide, ?_⟩
        exact absurd (law_e v2 (by rw [em, if_pos c1])) c3
    · skip
      skip
      refine ⟨by decide, ?_⟩
      exact absurd (by rw [t2]) c2
  · skip
    skip
    refine ⟨by exact hb 1 (by decide) (by decide), ?_⟩
    refine ⟨by exact ⟨rel_m hR, hx _, RTB_T⟩, ?_⟩
    intro G_1 B_1 g1
    have hR2 := rel_qd hR g1.1
    have t2 : G_1 25 0 = 1 := by
      have w := g1.2
      rw [e0] at w
      exact w.trans (if_neg c1)
    refine ⟨fun c2 => ?_, fun c2 => ?_⟩
    · skip
      skip
      refine ⟨fun q => absurd q (by decide), fun _ => ?_⟩
      exact ⟨rfl, rfl, rfl, rfl, rfl, hR2, by decide⟩
    · skip
      skip
      refine ⟨by decide, ?_⟩
      exact absurd (by rw [t2]) c2
def qkL_31 : Nat → Option CI := fun pc => cond (Nat.ble 3593 pc) none (cond (Nat.ble 2233 pc) (cond (Nat.ble 2250 pc) (cond (Nat.ble 2258 pc) (cond (Nat.ble 2260 pc) (cond (Nat.beq pc 2260) (some (.goto 1329, 2263, [3589])) (cond (Nat.beq pc 3589) (some (.iinc 4 6, 3592, [])) (cond (Nat.beq pc 3592) (some (.goto (-3569), 3595, [23])) (none)))) (cond (Nat.beq pc 2258) (some (.iconst 0, 2259, [])) (cond (Nat.beq pc 2259) (some (.ireturn, 2260, [])) (none)))) (cond (Nat.ble 2253 pc) (cond (Nat.beq pc 2253) (some (.i2l, 2254, [])) (cond (Nat.beq pc 2254) (some (.lcmp, 2255, [])) (cond (Nat.beq pc 2255) (some (.ifCond .eq 5, 2258, [2260])) (none)))) (cond (Nat.beq pc 2250) (some (.laload, 2251, [])) (cond (Nat.beq pc 2251) (some (.iload 6, 2253, [])) (none))))) (cond (Nat.ble 2242 pc) (cond (Nat.ble 2245 pc) (cond (Nat.beq pc 2245) (some (.ifCond .ne 15, 2248, [2260])) (cond (Nat.beq pc 2248) (some (.aload_n 3, 2249, [])) (cond (Nat.beq pc 2249) (some (.iconst 0, 2250, [])) (none)))) (cond (Nat.beq pc 2242) (some (.ireturn, 2243, [])) (cond (Nat.beq pc 2243) (some (.iload 5, 2245, [])) (none)))) (cond (Nat.ble 2238 pc) (cond (Nat.beq pc 2238) (some (.if_icmp .eq 5, 2241, [2243])) (cond (Nat.beq pc 2241) (some (.iconst 0, 2242, [])) (none))) (cond (Nat.beq pc 2233) (some (.invokevirtual 175, 2236, [])) (cond (Nat.beq pc 2236) (some (.iload 5, 2238, [])) (none)))))) (cond (Nat.ble 2220 pc) (cond (Nat.ble 2225 pc) (cond (Nat.ble 2227 pc) (cond (Nat.beq pc 2227) (some (.invokevirtual 247, 2230, [])) (cond (Nat.beq pc 2230) (some (.istore 6, 2232, [])) (cond (Nat.beq pc 2232) (some (.aload_n 2, 2233, [])) (none)))) (cond (Nat.beq pc 2225) (some (.iadd, 2226, [])) (cond (Nat.beq pc 2226) (some (.iaload, 2227, [])) (none)))) (cond (Nat.ble 2222 pc) (cond (Nat.beq pc 2222) (some (.iload 4, 2224, [])) (cond (Nat.beq pc 2224) (some (.iconst 1, 2225, [])) (none))) (cond (Nat.beq pc 2220) (some (.aload_n 2, 2221, [])) (cond (Nat.beq pc 2221) (some (.aload_n 0, 2222, [])) (none))))) (cond (Nat.ble 2212 pc) (cond (Nat.ble 2214 pc) (cond (Nat.beq pc 2214) (some (.aload_n 3, 2215, [])) (cond (Nat.beq pc 2215) (some (.invokestatic 245, 2218, [])) (cond (Nat.beq pc 2218) (some (.istore 5, 2220, [])) (none)))) (cond (Nat.beq pc 2212) (some (.iadd, 2213, [])) (cond (Nat.beq pc 2213) (some (.iaload, 2214, [])) (none)))) (cond (Nat.ble 2209 pc) (cond (Nat.beq pc 2209) (some (.iload 4, 2211, [])) (cond (Nat.beq pc 2211) (some (.iconst 1, 2212, [])) (none))) (cond (Nat.beq pc 2207) (some (.aload_n 1, 2208, [])) (cond (Nat.beq pc 2208) (some (.aload_n 0, 2209, [])) (none)))))))
theorem qkL_31_ok : ∀ pc i nx ts, qkL_31 pc = some (i, nx, ts) → am_cok cL_law pc (i, nx, ts) = true := fun pc i nx ts h => am_tok_ok (n := 3593) (by decide +kernel) (fun pc h => by show cond (Nat.ble 3593 pc) _ _ = _; rw [Nat.ble_eq_true_of_le h]; rfl) h
def qaL_31 : Nat → Option CE := fun k => cond (Nat.beq k 245) (some qeL_curvesMet) (cond (Nat.beq k 247) (some qeX9_curvesMet) (cond (Nat.beq k 175) (some qeX9_thrown) (none)))
theorem qyL_31 (l : Launch) (hst : l.stackTraces = false) : ∀ k e1, qaL_31 k = some e1 → am_cal l layL RL 40 k e1 ∧ True := q_cons ⟨am_calS (qtL_curvesMet l hst) qbL_curvesMet (by decide) rfl (by decide) (am_tb_at 1174 (by decide +kernel) rfl), trivial⟩ (q_cons ⟨am_calV (ci := 9) (am_CT_mono layM_L (qtX9_curvesMet l)) qbX9_curvesMet (by decide) rfl (am_tb_at 1891 (by decide +kernel) rfl), trivial⟩ (q_cons ⟨am_calV (ci := 9) (am_CT_mono layM_L (qtX9_thrown l)) qbX9_thrown (by decide) rfl (am_tb_at 1481 (by decide +kernel) rfl), trivial⟩ (q_nil)))
def qxL_31 (Ls : Int) (xs : Int → Int) : CX := (qkL_31, layL, qfL, qaL_31, qcL, qlL, qmL, some .boolean, false, none, 2, some (Ls, xs), fun _ => none)
theorem qzL_31 (l : Launch) (hst : l.stackTraces = false) (Ls : Int) (xs : Int → Int) : am_sta l (qxL_31 Ls xs) RL 40 cL_law := ⟨qkL_31_ok, layL_ok, qfL_ok, qcL_ok, qlL_ok, am_mthP qmL_ok (by decide), fun k e1 h => (qyL_31 l hst k e1 h).1⟩
set_option maxRecDepth 20000 in
theorem qvL_31 (Ls : Int) (xs : Int → Int) (F : FF) (A : AA) (i : Int) (hx : ∀ j, -2147483648 ≤ xs j ∧ xs j < 2147483648) (hL : Ls ≤ 3072) (i0 : 0 ≤ i) (i1 : i + 6 ≤ Ls) (hR : REL F A) : am_stp (qxL_31 Ls xs) (am_run (qxL_31 Ls xs) lawC (lawI i) lawK 36) lawK 2207 [some (vR 999), some (vR 0), some (vR 25), some (vR 43), some (vI i), none, none, none] [] F A 0 := by
  have hb : ∀ k : Int, 0 ≤ k → k ≤ 5 → 0 ≤ w32 (i + k) ∧ w32 (i + k) < Ls := fun k k0 k1 => by rw [w32_id (by omega) (by omega)]; omega
  have e0 : mF A = A 2 := hR.1.1.symm
  show (0 ≤ w32 (i + 1) ∧ w32 (i + 1) < Ls) ∧ ((fgOK (A 2) ∧ (-2147483648 ≤ (xs (w32 (i + 1))) ∧ (xs (w32 (i + 1))) < 2147483648) ∧ rtB (A 2)) ∧ ((0 ≤ (xs (w32 (i + 1))) ∧ (xs (w32 (i + 1))) < A 2 1 → (∀ (G_1 : FF) (B_1 : AA), (qrP F G_1 A B_1) → ((0 ≤ w32 (i + 1) ∧ w32 (i + 1) < Ls) ∧ ((fgOK (mF (upA B_1 43 (w32 0) (w32 (bitP (fun ii => 0 < sureF (A 2) ii (xs (w32 (i + 1)))) (Int.toNat (A 2 0)))))) ∧ (-2147483648 ≤ (xs (w32 (i + 1))) ∧ (xs (w32 (i + 1))) < 2147483648) ∧ RTB) ∧ (∀ (G_2 : FF) (B_2 : AA), (qdP G_1 G_2 (upA B_1 43 (w32 0) (w32 (bitP (fun ii => 0 < sureF (A 2) ii (xs (w32 (i + 1)))) (Int.toNat (A 2 0))))) B_2 ∧ G_2 25 0 = (if 0 ≤ (xs (w32 (i + 1))) ∧ (xs (w32 (i + 1))) < mF (upA B_1 43 (w32 0) (w32 (bitP (fun ii => 0 < sureF (A 2) ii (xs (w32 (i + 1)))) (Int.toNat (A 2 0))))) 1 then 0 else 1)) → ((w32 (G_2 25 0) = w32 0 → ((w32 0 = w32 0 → ((0 ≤ w32 0 ∧ w32 0 < 1) ∧ ((w32 (y_cmp (B_2 43 (w32 0)) (w32 (if 0 ≤ (xs (w32 (i + 1))) ∧ (xs (w32 (i + 1))) < mF (upA B_1 43 (w32 0) (w32 (bitP (fun ii => 0 < sureF (A 2) ii (xs (w32 (i + 1)))) (Int.toNat (A 2 0))))) 1 then bitP (fun ii => 0 < sureF (mF (upA B_1 43 (w32 0) (w32 (bitP (fun ii => 0 < sureF (A 2) ii (xs (w32 (i + 1)))) (Int.toNat (A 2 0)))))) ii (xs (w32 (i + 1)))) (Int.toNat (mF (upA B_1 43 (w32 0) (w32 (bitP (fun ii => 0 < sureF (A 2) ii (xs (w32 (i + 1)))) (Int.toNat (A 2 0))))) 0)) else 0))) = w32 0 → ((999 : Nat) = 999 ∧ (0 : Nat) = 0 ∧ (25 : Nat) = 25 ∧ (43 : Nat) = 43 ∧ i + 6 = i + 6 ∧ REL G_2 B_2 ∧ (1 : Nat) ≤ 2)) ∧ (¬ (w32 (y_cmp (B_2 43 (w32 0)) (w32 (if 0 ≤ (xs (w32 (i + 1))) ∧ (xs (w32 (i + 1))) < mF (upA B_1 43 (w32 0) (w32 (bitP (fun ii => 0 < sureF (A 2) ii (xs (w32 (i + 1)))) (Int.toNat (A 2 0))))) 1 then bitP (fun ii => 0 < sureF (mF (upA B_1 43 (w32 0) (w32 (bitP (fun ii => 0 < sureF (A 2) ii (xs (w32 (i + 1)))) (Int.toNat (A 2 0)))))) ii (xs (w32 (i + 1)))) (Int.toNat (mF (upA B_1 43 (w32 0) (w32 (bitP (fun ii => 0 < sureF (A 2) ii (xs (w32 (i + 1)))) (Int.toNat (A 2 0))))) 0)) else 0))) = w32 0) → (((0 : Int) = 0 ∨ (0 : Int) = 1) ∧ (lawK (some (some (vI 0))) G_2 B_2)))))) ∧ (¬ w32 0 = w32 0 → _))) ∧ (¬ w32 (G_2 25 0) = w32 0 → (((0 : Int) = 0 ∨ (0 : Int) = 1) ∧ (lawK (some (some (vI 0))) G_2 B_2))))))))) ∧ (¬ (0 ≤ (xs (w32 (i + 1))) ∧ (xs (w32 (i + 1))) < A 2 1) → ((0 ≤ w32 (i + 1) ∧ w32 (i + 1) < Ls) ∧ ((fgOK (mF A) ∧ (-2147483648 ≤ (xs (w32 (i + 1))) ∧ (xs (w32 (i + 1))) < 2147483648) ∧ RTB) ∧ (∀ (G_1 : FF) (B_1 : AA), (qdP F G_1 A B_1 ∧ G_1 25 0 = (if 0 ≤ (xs (w32 (i + 1))) ∧ (xs (w32 (i + 1))) < mF A 1 then 0 else 1)) → ((w32 (G_1 25 0) = w32 1 → ((w32 1 = w32 0 → _) ∧ (¬ w32 1 = w32 0 → ((999 : Nat) = 999 ∧ (0 : Nat) = 0 ∧ (25 : Nat) = 25 ∧ (43 : Nat) = 43 ∧ i + 6 = i + 6 ∧ REL G_1 B_1 ∧ (1 : Nat) ≤ 2)))) ∧ (¬ w32 (G_1 25 0) = w32 1 → (((0 : Int) = 0 ∨ (0 : Int) = 1) ∧ (lawK (some (some (vI 0))) G_1 B_1))))))))))
  refine ⟨by exact hb 1 (by decide) (by decide), ?_⟩
  refine ⟨by exact ⟨rel_f hR, hx _, RTB_T _ (rel_f hR)⟩, ?_⟩
  refine ⟨fun c1 => ?_, fun c1 => ?_⟩
  · skip
    skip
    intro G_1 B_1 g1
    have hR1 : ∀ v, REL G_1 (upA B_1 43 (w32 0) v) := fun v => rel_up (rel_qr hR g1)
    have em : ∀ v, mF (upA B_1 43 (w32 0) v) = A 2 := fun v => (hR1 v).1.1.symm.trans ((upA_r (by decide)).trans (funext fun i => (g1).2.1 2 i (by decide)))
    refine ⟨by exact hb 1 (by decide) (by decide), ?_⟩
    refine ⟨by exact ⟨rel_m (hR1 _), hx _, RTB_T⟩, ?_⟩
    intro G_2 B_2 g2
    have hR2 := rel_qd (hR1 _) g2.1
    have t2 : G_2 25 0 = 0 := by
      have w := g2.2
      rw [em] at w
      exact w.trans (if_pos c1)
    have v2 := (g2.1.2 43 (w32 0) (by decide)).trans upA_s
    refine ⟨fun c2 => ?_, fun c2 => ?_⟩
    · skip
      skip
      refine ⟨fun _ => ?_, fun q => absurd (by decide) q⟩
      refine ⟨by decide, ?_⟩
      refine ⟨fun c3 => ?_, fun c3 => ?_⟩
      · skip
        skip
        exact ⟨rfl, rfl, rfl, rfl, rfl, hR2, by decide⟩
      · skip
        skip
        refine ⟨by decide, ?_⟩
        exact absurd (law_e v2 (by rw [em, if_pos c1])) c3
    · skip
      skip
      refine ⟨by decide, ?_⟩
      exact absurd (by rw [t2]) c2
  · skip
    skip
    refine ⟨by exact hb 1 (by decide) (by decide), ?_⟩
    refine ⟨by exact ⟨rel_m hR, hx _, RTB_T⟩, ?_⟩
    intro G_1 B_1 g1
    have hR2 := rel_qd hR g1.1
    have t2 : G_1 25 0 = 1 := by
      have w := g1.2
      rw [e0] at w
      exact w.trans (if_neg c1)
    refine ⟨fun c2 => ?_, fun c2 => ?_⟩
    · skip
      skip
      refine ⟨fun q => absurd q (by decide), fun _ => ?_⟩
      exact ⟨rfl, rfl, rfl, rfl, rfl, hR2, by decide⟩
    · skip
      skip
      refine ⟨by decide, ?_⟩
      exact absurd (by rw [t2]) c2
def qkL_32 : Nat → Option CI := fun pc => cond (Nat.ble 3593 pc) none (cond (Nat.ble 2271 pc) (cond (Nat.ble 2275 pc) (cond (Nat.beq pc 2275) (some (.ireturn, 2276, [])) (cond (Nat.beq pc 3589) (some (.iinc 4 6, 3592, [])) (cond (Nat.beq pc 3592) (some (.goto (-3569), 3595, [23])) (none)))) (cond (Nat.beq pc 2271) (some (.if_icmp .eq 1318, 2274, [3589])) (cond (Nat.beq pc 2274) (some (.iconst 0, 2275, [])) (none)))) (cond (Nat.ble 2267 pc) (cond (Nat.beq pc 2267) (some (.aload_n 2, 2268, [])) (cond (Nat.beq pc 2268) (some (.invokevirtual 251, 2271, [])) (none))) (cond (Nat.beq pc 2263) (some (.aload_n 1, 2264, [])) (cond (Nat.beq pc 2264) (some (.invokevirtual 248, 2267, [])) (none)))))
theorem qkL_32_ok : ∀ pc i nx ts, qkL_32 pc = some (i, nx, ts) → am_cok cL_law pc (i, nx, ts) = true := fun pc i nx ts h => am_tok_ok (n := 3593) (by decide +kernel) (fun pc h => by show cond (Nat.ble 3593 pc) _ _ = _; rw [Nat.ble_eq_true_of_le h]; rfl) h
def qaL_32 : Nat → Option CE := fun k => cond (Nat.beq k 248) (some qeX8_busiestLine) (cond (Nat.beq k 251) (some qeX9_busiestLine) (none))
theorem qyL_32 (l : Launch) (hst : l.stackTraces = false) : ∀ k e1, qaL_32 k = some e1 → am_cal l layL RL 40 k e1 ∧ True := q_cons ⟨am_calV (ci := 8) (am_CT_mono layX_L (qtX8_busiestLine l)) qbX8_busiestLine (by decide) rfl (am_tb_at 569 (by decide +kernel) rfl), trivial⟩ (q_cons ⟨am_calV (ci := 9) (am_CT_mono layM_L (qtX9_busiestLine l)) qbX9_busiestLine (by decide) rfl (am_tb_at 1895 (by decide +kernel) rfl), trivial⟩ (q_nil))
def qxL_32 (Ls : Int) (xs : Int → Int) : CX := (qkL_32, layL, qfL, qaL_32, qcL, qlL, qmL, some .boolean, false, none, 2, some (Ls, xs), fun _ => none)
theorem qzL_32 (l : Launch) (hst : l.stackTraces = false) (Ls : Int) (xs : Int → Int) : am_sta l (qxL_32 Ls xs) RL 40 cL_law := ⟨qkL_32_ok, layL_ok, qfL_ok, qcL_ok, qlL_ok, am_mthP qmL_ok (by decide), fun k e1 h => (qyL_32 l hst k e1 h).1⟩
set_option maxRecDepth 20000 in
theorem qvL_32 (Ls : Int) (xs : Int → Int) (F : FF) (A : AA) (i : Int) (hx : ∀ j, -2147483648 ≤ xs j ∧ xs j < 2147483648) (hL : Ls ≤ 3072) (i0 : 0 ≤ i) (i1 : i + 6 ≤ Ls) (hR : REL F A) : am_stp (qxL_32 Ls xs) (am_run (qxL_32 Ls xs) lawC (lawI i) lawK 10) lawK 2263 [some (vR 999), some (vR 0), some (vR 25), some (vR 43), some (vI i), none, none, none] [] F A 0 := by
  have hb : ∀ k : Int, 0 ≤ k → k ≤ 5 → 0 ≤ w32 (i + k) ∧ w32 (i + k) < Ls := fun k k0 k1 => by rw [w32_id (by omega) (by omega)]; omega
  have e0 : mF A = A 2 := hR.1.1.symm
  show (fgOK (A 2) ∧ rtB (A 2)) ∧ (∀ (G_1 : FF) (B_1 : AA), (qrP F G_1 A B_1) → ((fgOK (mF B_1) ∧ RTB) ∧ (∀ (G_2 : FF) (B_2 : AA), (qdP G_1 G_2 B_1 B_2 ∧ G_2 25 0 = 0) → ((w32 ((bestI (fun ll => sumI (fun jj => sureF (A 2) jj ll) (Int.toNat (A 2 0))) (Int.toNat (A 2 1))).1) = w32 ((bestI (fun ll => sumI (fun jj => sureF (mF B_1) jj ll) (Int.toNat (mF B_1 0))) (Int.toNat (mF B_1 1))).1) → ((999 : Nat) = 999 ∧ (0 : Nat) = 0 ∧ (25 : Nat) = 25 ∧ (43 : Nat) = 43 ∧ i + 6 = i + 6 ∧ REL G_2 B_2 ∧ (0 : Nat) ≤ 2)) ∧ (¬ w32 ((bestI (fun ll => sumI (fun jj => sureF (A 2) jj ll) (Int.toNat (A 2 0))) (Int.toNat (A 2 1))).1) = w32 ((bestI (fun ll => sumI (fun jj => sureF (mF B_1) jj ll) (Int.toNat (mF B_1 0))) (Int.toNat (mF B_1 1))).1) → (((0 : Int) = 0 ∨ (0 : Int) = 1) ∧ (lawK (some (some (vI 0))) G_2 B_2)))))))
  refine ⟨by exact ⟨rel_f hR, RTB_T _ (rel_f hR)⟩, ?_⟩
  intro G_1 B_1 g1
  have hR1 := rel_qr hR g1
  have em : mF B_1 = A 2 := hR1.1.1.symm.trans (funext fun i => (g1).2.1 2 i (by decide))
  refine ⟨by exact ⟨rel_m hR1, RTB_T⟩, ?_⟩
  intro G_2 B_2 g2
  have hR2 := rel_qd hR1 g2.1
  refine ⟨fun c1 => ?_, fun c1 => ?_⟩
  · skip
    skip
    exact ⟨rfl, rfl, rfl, rfl, rfl, hR2, by decide⟩
  · skip
    skip
    refine ⟨by decide, ?_⟩
    exact absurd (by rw [em]) c1
def qkL_33 : Nat → Option CI := fun pc => cond (Nat.ble 3593 pc) none (cond (Nat.ble 2302 pc) (cond (Nat.ble 2319 pc) (cond (Nat.ble 2327 pc) (cond (Nat.ble 2329 pc) (cond (Nat.beq pc 2329) (some (.goto 1260, 2332, [3589])) (cond (Nat.beq pc 3589) (some (.iinc 4 6, 3592, [])) (cond (Nat.beq pc 3592) (some (.goto (-3569), 3595, [23])) (none)))) (cond (Nat.beq pc 2327) (some (.iconst 0, 2328, [])) (cond (Nat.beq pc 2328) (some (.ireturn, 2329, [])) (none)))) (cond (Nat.ble 2322 pc) (cond (Nat.beq pc 2322) (some (.i2l, 2323, [])) (cond (Nat.beq pc 2323) (some (.lcmp, 2324, [])) (cond (Nat.beq pc 2324) (some (.ifCond .eq 5, 2327, [2329])) (none)))) (cond (Nat.beq pc 2319) (some (.laload, 2320, [])) (cond (Nat.beq pc 2320) (some (.iload 6, 2322, [])) (none))))) (cond (Nat.ble 2311 pc) (cond (Nat.ble 2314 pc) (cond (Nat.beq pc 2314) (some (.ifCond .ne 15, 2317, [2329])) (cond (Nat.beq pc 2317) (some (.aload_n 3, 2318, [])) (cond (Nat.beq pc 2318) (some (.iconst 0, 2319, [])) (none)))) (cond (Nat.beq pc 2311) (some (.ireturn, 2312, [])) (cond (Nat.beq pc 2312) (some (.iload 5, 2314, [])) (none)))) (cond (Nat.ble 2307 pc) (cond (Nat.beq pc 2307) (some (.if_icmp .eq 5, 2310, [2312])) (cond (Nat.beq pc 2310) (some (.iconst 0, 2311, [])) (none))) (cond (Nat.beq pc 2302) (some (.invokevirtual 175, 2305, [])) (cond (Nat.beq pc 2305) (some (.iload 5, 2307, [])) (none)))))) (cond (Nat.ble 2289 pc) (cond (Nat.ble 2294 pc) (cond (Nat.ble 2296 pc) (cond (Nat.beq pc 2296) (some (.invokevirtual 254, 2299, [])) (cond (Nat.beq pc 2299) (some (.istore 6, 2301, [])) (cond (Nat.beq pc 2301) (some (.aload_n 2, 2302, [])) (none)))) (cond (Nat.beq pc 2294) (some (.iadd, 2295, [])) (cond (Nat.beq pc 2295) (some (.iaload, 2296, [])) (none)))) (cond (Nat.ble 2291 pc) (cond (Nat.beq pc 2291) (some (.iload 4, 2293, [])) (cond (Nat.beq pc 2293) (some (.iconst 1, 2294, [])) (none))) (cond (Nat.beq pc 2289) (some (.aload_n 2, 2290, [])) (cond (Nat.beq pc 2290) (some (.aload_n 0, 2291, [])) (none))))) (cond (Nat.ble 2281 pc) (cond (Nat.ble 2283 pc) (cond (Nat.beq pc 2283) (some (.aload_n 3, 2284, [])) (cond (Nat.beq pc 2284) (some (.invokestatic 252, 2287, [])) (cond (Nat.beq pc 2287) (some (.istore 5, 2289, [])) (none)))) (cond (Nat.beq pc 2281) (some (.iadd, 2282, [])) (cond (Nat.beq pc 2282) (some (.iaload, 2283, [])) (none)))) (cond (Nat.ble 2278 pc) (cond (Nat.beq pc 2278) (some (.iload 4, 2280, [])) (cond (Nat.beq pc 2280) (some (.iconst 1, 2281, [])) (none))) (cond (Nat.beq pc 2276) (some (.aload_n 1, 2277, [])) (cond (Nat.beq pc 2277) (some (.aload_n 0, 2278, [])) (none)))))))
theorem qkL_33_ok : ∀ pc i nx ts, qkL_33 pc = some (i, nx, ts) → am_cok cL_law pc (i, nx, ts) = true := fun pc i nx ts h => am_tok_ok (n := 3593) (by decide +kernel) (fun pc h => by show cond (Nat.ble 3593 pc) _ _ = _; rw [Nat.ble_eq_true_of_le h]; rfl) h
def qaL_33 : Nat → Option CE := fun k => cond (Nat.beq k 252) (some qeL_bandLow) (cond (Nat.beq k 254) (some qeX9_bandLow) (cond (Nat.beq k 175) (some qeX9_thrown) (none)))
theorem qyL_33 (l : Launch) (hst : l.stackTraces = false) : ∀ k e1, qaL_33 k = some e1 → am_cal l layL RL 40 k e1 ∧ True := q_cons ⟨am_calS (qtL_bandLow l hst) qbL_bandLow (by decide) rfl (by decide) (am_tb_at 1181 (by decide +kernel) rfl), trivial⟩ (q_cons ⟨am_calV (ci := 9) (am_CT_mono layM_L (qtX9_bandLow l)) qbX9_bandLow (by decide) rfl (am_tb_at 1899 (by decide +kernel) rfl), trivial⟩ (q_cons ⟨am_calV (ci := 9) (am_CT_mono layM_L (qtX9_thrown l)) qbX9_thrown (by decide) rfl (am_tb_at 1481 (by decide +kernel) rfl), trivial⟩ (q_nil)))
def qxL_33 (Ls : Int) (xs : Int → Int) : CX := (qkL_33, layL, qfL, qaL_33, qcL, qlL, qmL, some .boolean, false, none, 2, some (Ls, xs), fun _ => none)
theorem qzL_33 (l : Launch) (hst : l.stackTraces = false) (Ls : Int) (xs : Int → Int) : am_sta l (qxL_33 Ls xs) RL 40 cL_law := ⟨qkL_33_ok, layL_ok, qfL_ok, qcL_ok, qlL_ok, am_mthP qmL_ok (by decide), fun k e1 h => (qyL_33 l hst k e1 h).1⟩
set_option maxRecDepth 20000 in
theorem qvL_33 (Ls : Int) (xs : Int → Int) (F : FF) (A : AA) (i : Int) (hx : ∀ j, -2147483648 ≤ xs j ∧ xs j < 2147483648) (hL : Ls ≤ 3072) (i0 : 0 ≤ i) (i1 : i + 6 ≤ Ls) (hR : REL F A) : am_stp (qxL_33 Ls xs) (am_run (qxL_33 Ls xs) lawC (lawI i) lawK 36) lawK 2276 [some (vR 999), some (vR 0), some (vR 25), some (vR 43), some (vI i), none, none, none] [] F A 0 := by
  have hb : ∀ k : Int, 0 ≤ k → k ≤ 5 → 0 ≤ w32 (i + k) ∧ w32 (i + k) < Ls := fun k k0 k1 => by rw [w32_id (by omega) (by omega)]; omega
  have e0 : mF A = A 2 := hR.1.1.symm
  show (0 ≤ w32 (i + 1) ∧ w32 (i + 1) < Ls) ∧ ((fgOK (A 2) ∧ (-2147483648 ≤ (xs (w32 (i + 1))) ∧ (xs (w32 (i + 1))) < 2147483648)) ∧ ((0 ≤ (xs (w32 (i + 1))) ∧ (xs (w32 (i + 1))) < A 2 0 → (∀ (G_1 : FF), (qrP F G_1 A A) → ((0 ≤ w32 (i + 1) ∧ w32 (i + 1) < Ls) ∧ ((fgOK (mF (upA A 43 (w32 0) (w32 (bLow (A 2) (xs (w32 (i + 1))) (Int.toNat (A 2 (18 + (xs (w32 (i + 1)))) - 1)))))) ∧ (-2147483648 ≤ (xs (w32 (i + 1))) ∧ (xs (w32 (i + 1))) < 2147483648)) ∧ (∀ (G_2 : FF) (B_2 : AA), (qdP G_1 G_2 (upA A 43 (w32 0) (w32 (bLow (A 2) (xs (w32 (i + 1))) (Int.toNat (A 2 (18 + (xs (w32 (i + 1)))) - 1))))) B_2 ∧ G_2 25 0 = (if 0 ≤ (xs (w32 (i + 1))) ∧ (xs (w32 (i + 1))) < mF (upA A 43 (w32 0) (w32 (bLow (A 2) (xs (w32 (i + 1))) (Int.toNat (A 2 (18 + (xs (w32 (i + 1)))) - 1))))) 0 then 0 else 1)) → ((w32 (G_2 25 0) = w32 0 → ((w32 0 = w32 0 → ((0 ≤ w32 0 ∧ w32 0 < 1) ∧ ((w32 (y_cmp (B_2 43 (w32 0)) (w32 (if 0 ≤ (xs (w32 (i + 1))) ∧ (xs (w32 (i + 1))) < mF (upA A 43 (w32 0) (w32 (bLow (A 2) (xs (w32 (i + 1))) (Int.toNat (A 2 (18 + (xs (w32 (i + 1)))) - 1))))) 0 then bLow (mF (upA A 43 (w32 0) (w32 (bLow (A 2) (xs (w32 (i + 1))) (Int.toNat (A 2 (18 + (xs (w32 (i + 1)))) - 1)))))) (xs (w32 (i + 1))) (Int.toNat (mF (upA A 43 (w32 0) (w32 (bLow (A 2) (xs (w32 (i + 1))) (Int.toNat (A 2 (18 + (xs (w32 (i + 1)))) - 1))))) (18 + (xs (w32 (i + 1)))) - 1)) else 0))) = w32 0 → ((999 : Nat) = 999 ∧ (0 : Nat) = 0 ∧ (25 : Nat) = 25 ∧ (43 : Nat) = 43 ∧ i + 6 = i + 6 ∧ REL G_2 B_2 ∧ (1 : Nat) ≤ 2)) ∧ (¬ (w32 (y_cmp (B_2 43 (w32 0)) (w32 (if 0 ≤ (xs (w32 (i + 1))) ∧ (xs (w32 (i + 1))) < mF (upA A 43 (w32 0) (w32 (bLow (A 2) (xs (w32 (i + 1))) (Int.toNat (A 2 (18 + (xs (w32 (i + 1)))) - 1))))) 0 then bLow (mF (upA A 43 (w32 0) (w32 (bLow (A 2) (xs (w32 (i + 1))) (Int.toNat (A 2 (18 + (xs (w32 (i + 1)))) - 1)))))) (xs (w32 (i + 1))) (Int.toNat (mF (upA A 43 (w32 0) (w32 (bLow (A 2) (xs (w32 (i + 1))) (Int.toNat (A 2 (18 + (xs (w32 (i + 1)))) - 1))))) (18 + (xs (w32 (i + 1)))) - 1)) else 0))) = w32 0) → (((0 : Int) = 0 ∨ (0 : Int) = 1) ∧ (lawK (some (some (vI 0))) G_2 B_2)))))) ∧ (¬ w32 0 = w32 0 → _))) ∧ (¬ w32 (G_2 25 0) = w32 0 → (((0 : Int) = 0 ∨ (0 : Int) = 1) ∧ (lawK (some (some (vI 0))) G_2 B_2))))))))) ∧ (¬ (0 ≤ (xs (w32 (i + 1))) ∧ (xs (w32 (i + 1))) < A 2 0) → ((0 ≤ w32 (i + 1) ∧ w32 (i + 1) < Ls) ∧ ((fgOK (mF A) ∧ (-2147483648 ≤ (xs (w32 (i + 1))) ∧ (xs (w32 (i + 1))) < 2147483648)) ∧ (∀ (G_1 : FF) (B_1 : AA), (qdP F G_1 A B_1 ∧ G_1 25 0 = (if 0 ≤ (xs (w32 (i + 1))) ∧ (xs (w32 (i + 1))) < mF A 0 then 0 else 1)) → ((w32 (G_1 25 0) = w32 1 → ((w32 1 = w32 0 → _) ∧ (¬ w32 1 = w32 0 → ((999 : Nat) = 999 ∧ (0 : Nat) = 0 ∧ (25 : Nat) = 25 ∧ (43 : Nat) = 43 ∧ i + 6 = i + 6 ∧ REL G_1 B_1 ∧ (1 : Nat) ≤ 2)))) ∧ (¬ w32 (G_1 25 0) = w32 1 → (((0 : Int) = 0 ∨ (0 : Int) = 1) ∧ (lawK (some (some (vI 0))) G_1 B_1))))))))))
  refine ⟨by exact hb 1 (by decide) (by decide), ?_⟩
  refine ⟨by exact ⟨rel_f hR, hx _⟩, ?_⟩
  refine ⟨fun c1 => ?_, fun c1 => ?_⟩
  · skip
    skip
    intro G_1 g1
    have hR1 : ∀ v, REL G_1 (upA A 43 (w32 0) v) := fun v => rel_up (rel_qr hR g1)
    have em : ∀ v, mF (upA A 43 (w32 0) v) = A 2 := fun v => (hR1 v).1.1.symm.trans ((upA_r (by decide)).trans (funext fun i => (g1).2.1 2 i (by decide)))
    refine ⟨by exact hb 1 (by decide) (by decide), ?_⟩
    refine ⟨by exact ⟨rel_m (hR1 _), hx _⟩, ?_⟩
    intro G_2 B_2 g2
    have hR2 := rel_qd (hR1 _) g2.1
    have t2 : G_2 25 0 = 0 := by
      have w := g2.2
      rw [em] at w
      exact w.trans (if_pos c1)
    have v2 := (g2.1.2 43 (w32 0) (by decide)).trans upA_s
    refine ⟨fun c2 => ?_, fun c2 => ?_⟩
    · skip
      skip
      refine ⟨fun _ => ?_, fun q => absurd (by decide) q⟩
      refine ⟨by decide, ?_⟩
      refine ⟨fun c3 => ?_, fun c3 => ?_⟩
      · skip
        skip
        exact ⟨rfl, rfl, rfl, rfl, rfl, hR2, by decide⟩
      · skip
        skip
        refine ⟨by decide, ?_⟩
        exact absurd (law_e v2 (by rw [em, if_pos c1])) c3
    · skip
      skip
      refine ⟨by decide, ?_⟩
      exact absurd (by rw [t2]) c2
  · skip
    skip
    refine ⟨by exact hb 1 (by decide) (by decide), ?_⟩
    refine ⟨by exact ⟨rel_m hR, hx _⟩, ?_⟩
    intro G_1 B_1 g1
    have hR2 := rel_qd hR g1.1
    have t2 : G_1 25 0 = 1 := by
      have w := g1.2
      rw [e0] at w
      exact w.trans (if_neg c1)
    refine ⟨fun c2 => ?_, fun c2 => ?_⟩
    · skip
      skip
      refine ⟨fun q => absurd q (by decide), fun _ => ?_⟩
      exact ⟨rfl, rfl, rfl, rfl, rfl, hR2, by decide⟩
    · skip
      skip
      refine ⟨by decide, ?_⟩
      exact absurd (by rw [t2]) c2
def qkL_34 : Nat → Option CI := fun pc => cond (Nat.ble 3593 pc) none (cond (Nat.ble 2358 pc) (cond (Nat.ble 2375 pc) (cond (Nat.ble 2383 pc) (cond (Nat.ble 2385 pc) (cond (Nat.beq pc 2385) (some (.goto 1204, 2388, [3589])) (cond (Nat.beq pc 3589) (some (.iinc 4 6, 3592, [])) (cond (Nat.beq pc 3592) (some (.goto (-3569), 3595, [23])) (none)))) (cond (Nat.beq pc 2383) (some (.iconst 0, 2384, [])) (cond (Nat.beq pc 2384) (some (.ireturn, 2385, [])) (none)))) (cond (Nat.ble 2378 pc) (cond (Nat.beq pc 2378) (some (.i2l, 2379, [])) (cond (Nat.beq pc 2379) (some (.lcmp, 2380, [])) (cond (Nat.beq pc 2380) (some (.ifCond .eq 5, 2383, [2385])) (none)))) (cond (Nat.beq pc 2375) (some (.laload, 2376, [])) (cond (Nat.beq pc 2376) (some (.iload 6, 2378, [])) (none))))) (cond (Nat.ble 2367 pc) (cond (Nat.ble 2370 pc) (cond (Nat.beq pc 2370) (some (.ifCond .ne 15, 2373, [2385])) (cond (Nat.beq pc 2373) (some (.aload_n 3, 2374, [])) (cond (Nat.beq pc 2374) (some (.iconst 0, 2375, [])) (none)))) (cond (Nat.beq pc 2367) (some (.ireturn, 2368, [])) (cond (Nat.beq pc 2368) (some (.iload 5, 2370, [])) (none)))) (cond (Nat.ble 2363 pc) (cond (Nat.beq pc 2363) (some (.if_icmp .eq 5, 2366, [2368])) (cond (Nat.beq pc 2366) (some (.iconst 0, 2367, [])) (none))) (cond (Nat.beq pc 2358) (some (.invokevirtual 175, 2361, [])) (cond (Nat.beq pc 2361) (some (.iload 5, 2363, [])) (none)))))) (cond (Nat.ble 2345 pc) (cond (Nat.ble 2350 pc) (cond (Nat.ble 2352 pc) (cond (Nat.beq pc 2352) (some (.invokevirtual 257, 2355, [])) (cond (Nat.beq pc 2355) (some (.istore 6, 2357, [])) (cond (Nat.beq pc 2357) (some (.aload_n 2, 2358, [])) (none)))) (cond (Nat.beq pc 2350) (some (.iadd, 2351, [])) (cond (Nat.beq pc 2351) (some (.iaload, 2352, [])) (none)))) (cond (Nat.ble 2347 pc) (cond (Nat.beq pc 2347) (some (.iload 4, 2349, [])) (cond (Nat.beq pc 2349) (some (.iconst 1, 2350, [])) (none))) (cond (Nat.beq pc 2345) (some (.aload_n 2, 2346, [])) (cond (Nat.beq pc 2346) (some (.aload_n 0, 2347, [])) (none))))) (cond (Nat.ble 2337 pc) (cond (Nat.ble 2339 pc) (cond (Nat.beq pc 2339) (some (.aload_n 3, 2340, [])) (cond (Nat.beq pc 2340) (some (.invokestatic 255, 2343, [])) (cond (Nat.beq pc 2343) (some (.istore 5, 2345, [])) (none)))) (cond (Nat.beq pc 2337) (some (.iadd, 2338, [])) (cond (Nat.beq pc 2338) (some (.iaload, 2339, [])) (none)))) (cond (Nat.ble 2334 pc) (cond (Nat.beq pc 2334) (some (.iload 4, 2336, [])) (cond (Nat.beq pc 2336) (some (.iconst 1, 2337, [])) (none))) (cond (Nat.beq pc 2332) (some (.aload_n 1, 2333, [])) (cond (Nat.beq pc 2333) (some (.aload_n 0, 2334, [])) (none)))))))
theorem qkL_34_ok : ∀ pc i nx ts, qkL_34 pc = some (i, nx, ts) → am_cok cL_law pc (i, nx, ts) = true := fun pc i nx ts h => am_tok_ok (n := 3593) (by decide +kernel) (fun pc h => by show cond (Nat.ble 3593 pc) _ _ = _; rw [Nat.ble_eq_true_of_le h]; rfl) h
def qaL_34 : Nat → Option CE := fun k => cond (Nat.beq k 255) (some qeL_bandHigh) (cond (Nat.beq k 257) (some qeX9_bandHigh) (cond (Nat.beq k 175) (some qeX9_thrown) (none)))
theorem qyL_34 (l : Launch) (hst : l.stackTraces = false) : ∀ k e1, qaL_34 k = some e1 → am_cal l layL RL 40 k e1 ∧ True := q_cons ⟨am_calS (qtL_bandHigh l hst) qbL_bandHigh (by decide) rfl (by decide) (am_tb_at 1204 (by decide +kernel) rfl), trivial⟩ (q_cons ⟨am_calV (ci := 9) (am_CT_mono layM_L (qtX9_bandHigh l)) qbX9_bandHigh (by decide) rfl (am_tb_at 1916 (by decide +kernel) rfl), trivial⟩ (q_cons ⟨am_calV (ci := 9) (am_CT_mono layM_L (qtX9_thrown l)) qbX9_thrown (by decide) rfl (am_tb_at 1481 (by decide +kernel) rfl), trivial⟩ (q_nil)))
def qxL_34 (Ls : Int) (xs : Int → Int) : CX := (qkL_34, layL, qfL, qaL_34, qcL, qlL, qmL, some .boolean, false, none, 2, some (Ls, xs), fun _ => none)
theorem qzL_34 (l : Launch) (hst : l.stackTraces = false) (Ls : Int) (xs : Int → Int) : am_sta l (qxL_34 Ls xs) RL 40 cL_law := ⟨qkL_34_ok, layL_ok, qfL_ok, qcL_ok, qlL_ok, am_mthP qmL_ok (by decide), fun k e1 h => (qyL_34 l hst k e1 h).1⟩
set_option maxRecDepth 20000 in
theorem qvL_34 (Ls : Int) (xs : Int → Int) (F : FF) (A : AA) (i : Int) (hx : ∀ j, -2147483648 ≤ xs j ∧ xs j < 2147483648) (hL : Ls ≤ 3072) (i0 : 0 ≤ i) (i1 : i + 6 ≤ Ls) (hR : REL F A) : am_stp (qxL_34 Ls xs) (am_run (qxL_34 Ls xs) lawC (lawI i) lawK 36) lawK 2332 [some (vR 999), some (vR 0), some (vR 25), some (vR 43), some (vI i), none, none, none] [] F A 0 := by
  have hb : ∀ k : Int, 0 ≤ k → k ≤ 5 → 0 ≤ w32 (i + k) ∧ w32 (i + k) < Ls := fun k k0 k1 => by rw [w32_id (by omega) (by omega)]; omega
  have e0 : mF A = A 2 := hR.1.1.symm
  show (0 ≤ w32 (i + 1) ∧ w32 (i + 1) < Ls) ∧ ((fgOK (A 2) ∧ (-2147483648 ≤ (xs (w32 (i + 1))) ∧ (xs (w32 (i + 1))) < 2147483648)) ∧ ((0 ≤ (xs (w32 (i + 1))) ∧ (xs (w32 (i + 1))) < A 2 0 → (∀ (G_1 : FF), (qrP F G_1 A A) → ((0 ≤ w32 (i + 1) ∧ w32 (i + 1) < Ls) ∧ ((fgOK (mF (upA A 43 (w32 0) (w32 (bHigh (A 2) (xs (w32 (i + 1))) (Int.toNat (A 2 (18 + (xs (w32 (i + 1)))) - 1)))))) ∧ (-2147483648 ≤ (xs (w32 (i + 1))) ∧ (xs (w32 (i + 1))) < 2147483648)) ∧ (∀ (G_2 : FF) (B_2 : AA), (qdP G_1 G_2 (upA A 43 (w32 0) (w32 (bHigh (A 2) (xs (w32 (i + 1))) (Int.toNat (A 2 (18 + (xs (w32 (i + 1)))) - 1))))) B_2 ∧ G_2 25 0 = (if 0 ≤ (xs (w32 (i + 1))) ∧ (xs (w32 (i + 1))) < mF (upA A 43 (w32 0) (w32 (bHigh (A 2) (xs (w32 (i + 1))) (Int.toNat (A 2 (18 + (xs (w32 (i + 1)))) - 1))))) 0 then 0 else 1)) → ((w32 (G_2 25 0) = w32 0 → ((w32 0 = w32 0 → ((0 ≤ w32 0 ∧ w32 0 < 1) ∧ ((w32 (y_cmp (B_2 43 (w32 0)) (w32 (if 0 ≤ (xs (w32 (i + 1))) ∧ (xs (w32 (i + 1))) < mF (upA A 43 (w32 0) (w32 (bHigh (A 2) (xs (w32 (i + 1))) (Int.toNat (A 2 (18 + (xs (w32 (i + 1)))) - 1))))) 0 then bHigh (mF (upA A 43 (w32 0) (w32 (bHigh (A 2) (xs (w32 (i + 1))) (Int.toNat (A 2 (18 + (xs (w32 (i + 1)))) - 1)))))) (xs (w32 (i + 1))) (Int.toNat (mF (upA A 43 (w32 0) (w32 (bHigh (A 2) (xs (w32 (i + 1))) (Int.toNat (A 2 (18 + (xs (w32 (i + 1)))) - 1))))) (18 + (xs (w32 (i + 1)))) - 1)) else 0))) = w32 0 → ((999 : Nat) = 999 ∧ (0 : Nat) = 0 ∧ (25 : Nat) = 25 ∧ (43 : Nat) = 43 ∧ i + 6 = i + 6 ∧ REL G_2 B_2 ∧ (1 : Nat) ≤ 2)) ∧ (¬ (w32 (y_cmp (B_2 43 (w32 0)) (w32 (if 0 ≤ (xs (w32 (i + 1))) ∧ (xs (w32 (i + 1))) < mF (upA A 43 (w32 0) (w32 (bHigh (A 2) (xs (w32 (i + 1))) (Int.toNat (A 2 (18 + (xs (w32 (i + 1)))) - 1))))) 0 then bHigh (mF (upA A 43 (w32 0) (w32 (bHigh (A 2) (xs (w32 (i + 1))) (Int.toNat (A 2 (18 + (xs (w32 (i + 1)))) - 1)))))) (xs (w32 (i + 1))) (Int.toNat (mF (upA A 43 (w32 0) (w32 (bHigh (A 2) (xs (w32 (i + 1))) (Int.toNat (A 2 (18 + (xs (w32 (i + 1)))) - 1))))) (18 + (xs (w32 (i + 1)))) - 1)) else 0))) = w32 0) → (((0 : Int) = 0 ∨ (0 : Int) = 1) ∧ (lawK (some (some (vI 0))) G_2 B_2)))))) ∧ (¬ w32 0 = w32 0 → _))) ∧ (¬ w32 (G_2 25 0) = w32 0 → (((0 : Int) = 0 ∨ (0 : Int) = 1) ∧ (lawK (some (some (vI 0))) G_2 B_2))))))))) ∧ (¬ (0 ≤ (xs (w32 (i + 1))) ∧ (xs (w32 (i + 1))) < A 2 0) → ((0 ≤ w32 (i + 1) ∧ w32 (i + 1) < Ls) ∧ ((fgOK (mF A) ∧ (-2147483648 ≤ (xs (w32 (i + 1))) ∧ (xs (w32 (i + 1))) < 2147483648)) ∧ (∀ (G_1 : FF) (B_1 : AA), (qdP F G_1 A B_1 ∧ G_1 25 0 = (if 0 ≤ (xs (w32 (i + 1))) ∧ (xs (w32 (i + 1))) < mF A 0 then 0 else 1)) → ((w32 (G_1 25 0) = w32 1 → ((w32 1 = w32 0 → _) ∧ (¬ w32 1 = w32 0 → ((999 : Nat) = 999 ∧ (0 : Nat) = 0 ∧ (25 : Nat) = 25 ∧ (43 : Nat) = 43 ∧ i + 6 = i + 6 ∧ REL G_1 B_1 ∧ (1 : Nat) ≤ 2)))) ∧ (¬ w32 (G_1 25 0) = w32 1 → (((0 : Int) = 0 ∨ (0 : Int) = 1) ∧ (lawK (some (some (vI 0))) G_1 B_1))))))))))
  refine ⟨by exact hb 1 (by decide) (by decide), ?_⟩
  refine ⟨by exact ⟨rel_f hR, hx _⟩, ?_⟩
  refine ⟨fun c1 => ?_, fun c1 => ?_⟩
  · skip
    skip
    intro G_1 g1
    have hR1 : ∀ v, REL G_1 (upA A 43 (w32 0) v) := fun v => rel_up (rel_qr hR g1)
    have em : ∀ v, mF (upA A 43 (w32 0) v) = A 2 := fun v => (hR1 v).1.1.symm.trans ((upA_r (by decide)).trans (funext fun i => (g1).2.1 2 i (by decide)))
    refine ⟨by exact hb 1 (by decide) (by decide), ?_⟩
    refine ⟨by exact ⟨rel_m (hR1 _), hx _⟩, ?_⟩
    intro G_2 B_2 g2
    have hR2 := rel_qd (hR1 _) g2.1
    have t2 : G_2 25 0 = 0 := by
      have w := g2.2
      rw [em] at w
      exact w.trans (if_pos c1)
    have v2 := (g2.1.2 43 (w32 0) (by decide)).trans upA_s
    refine ⟨fun c2 => ?_, fun c2 => ?_⟩
    · skip
      skip
      refine ⟨fun _ => ?_, fun q => absurd (by decide) q⟩
      refine ⟨by decide, ?_⟩
      refine ⟨fun c3 => ?_, fun c3 => ?_⟩
      · skip
        skip
        exact ⟨rfl, rfl, rfl, rfl, rfl, hR2, by decide⟩
      · skip
        skip
        refine ⟨by decide, ?_⟩
        exact absurd (law_e v2 (by rw [em, if_pos c1])) c3
    · skip
      skip
      refine ⟨by decide, ?_⟩
      exact absurd (by rw [t2]) c2
  · skip
    skip
    refine ⟨by exact hb 1 (by decide) (by decide), ?_⟩
    refine ⟨by exact ⟨rel_m hR, hx _⟩, ?_⟩
    intro G_1 B_1 g1
    have hR2 := rel_qd hR g1.1
    have t2 : G_1 25 0 = 1 := by
      have w := g1.2
      rw [e0] at w
      exact w.trans (if_neg c1)
    refine ⟨fun c2 => ?_, fun c2 => ?_⟩
    · skip
      skip
      refine ⟨fun q => absurd q (by decide), fun _ => ?_⟩
      exact ⟨rfl, rfl, rfl, rfl, rfl, hR2, by decide⟩
    · skip
      skip
      refine ⟨by decide, ?_⟩
      exact absurd (by rw [t2]) c2
