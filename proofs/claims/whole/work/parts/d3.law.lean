def qkL_14 : Nat → Option CI := fun pc => cond (Nat.ble 3593 pc) none (cond (Nat.ble 941 pc) (cond (Nat.ble 964 pc) (cond (Nat.ble 978 pc) (cond (Nat.ble 985 pc) (cond (Nat.ble 987 pc) (cond (Nat.beq pc 987) (some (.goto 2602, 990, [3589])) (cond (Nat.beq pc 3589) (some (.iinc 4 6, 3592, [])) (cond (Nat.beq pc 3592) (some (.goto (-3569), 3595, [23])) (none)))) (cond (Nat.beq pc 985) (some (.iconst 0, 986, [])) (cond (Nat.beq pc 986) (some (.ireturn, 987, [])) (none)))) (cond (Nat.ble 981 pc) (cond (Nat.beq pc 981) (some (.lcmp, 982, [])) (cond (Nat.beq pc 982) (some (.ifCond .eq 5, 985, [987])) (none))) (cond (Nat.beq pc 978) (some (.laload, 979, [])) (cond (Nat.beq pc 979) (some (.lload 6, 981, [])) (none))))) (cond (Nat.ble 971 pc) (cond (Nat.ble 976 pc) (cond (Nat.beq pc 976) (some (.aload_n 3, 977, [])) (cond (Nat.beq pc 977) (some (.iconst 0, 978, [])) (none))) (cond (Nat.beq pc 971) (some (.iload 5, 973, [])) (cond (Nat.beq pc 973) (some (.ifCond .ne 14, 976, [987])) (none)))) (cond (Nat.ble 969 pc) (cond (Nat.beq pc 969) (some (.iconst 0, 970, [])) (cond (Nat.beq pc 970) (some (.ireturn, 971, [])) (none))) (cond (Nat.beq pc 964) (some (.iload 5, 966, [])) (cond (Nat.beq pc 966) (some (.if_icmp .eq 5, 969, [971])) (none)))))) (cond (Nat.ble 950 pc) (cond (Nat.ble 955 pc) (cond (Nat.ble 960 pc) (cond (Nat.beq pc 960) (some (.aload_n 2, 961, [])) (cond (Nat.beq pc 961) (some (.invokevirtual 175, 964, [])) (none))) (cond (Nat.beq pc 955) (some (.invokevirtual 196, 958, [])) (cond (Nat.beq pc 958) (some (.lstore 6, 960, [])) (none)))) (cond (Nat.ble 953 pc) (cond (Nat.beq pc 953) (some (.iadd, 954, [])) (cond (Nat.beq pc 954) (some (.iaload, 955, [])) (none))) (cond (Nat.beq pc 950) (some (.iload 4, 952, [])) (cond (Nat.beq pc 952) (some (.iconst 4, 953, [])) (none))))) (cond (Nat.ble 946 pc) (cond (Nat.ble 948 pc) (cond (Nat.beq pc 948) (some (.iaload, 949, [])) (cond (Nat.beq pc 949) (some (.aload_n 0, 950, [])) (none))) (cond (Nat.beq pc 946) (some (.iconst 3, 947, [])) (cond (Nat.beq pc 947) (some (.iadd, 948, [])) (none)))) (cond (Nat.ble 943 pc) (cond (Nat.beq pc 943) (some (.aload_n 0, 944, [])) (cond (Nat.beq pc 944) (some (.iload 4, 946, [])) (none))) (cond (Nat.beq pc 941) (some (.iadd, 942, [])) (cond (Nat.beq pc 942) (some (.iaload, 943, [])) (none))))))) (cond (Nat.ble 918 pc) (cond (Nat.ble 930 pc) (cond (Nat.ble 935 pc) (cond (Nat.ble 937 pc) (cond (Nat.beq pc 937) (some (.aload_n 0, 938, [])) (cond (Nat.beq pc 938) (some (.iload 4, 940, [])) (cond (Nat.beq pc 940) (some (.iconst 2, 941, [])) (none)))) (cond (Nat.beq pc 935) (some (.iadd, 936, [])) (cond (Nat.beq pc 936) (some (.iaload, 937, [])) (none)))) (cond (Nat.ble 932 pc) (cond (Nat.beq pc 932) (some (.iload 4, 934, [])) (cond (Nat.beq pc 934) (some (.iconst 1, 935, [])) (none))) (cond (Nat.beq pc 930) (some (.aload_n 2, 931, [])) (cond (Nat.beq pc 931) (some (.aload_n 0, 932, [])) (none))))) (cond (Nat.ble 923 pc) (cond (Nat.ble 925 pc) (cond (Nat.beq pc 925) (some (.invokestatic 194, 928, [])) (cond (Nat.beq pc 928) (some (.istore 5, 930, [])) (none))) (cond (Nat.beq pc 923) (some (.iaload, 924, [])) (cond (Nat.beq pc 924) (some (.aload_n 3, 925, [])) (none)))) (cond (Nat.ble 921 pc) (cond (Nat.beq pc 921) (some (.iconst 4, 922, [])) (cond (Nat.beq pc 922) (some (.iadd, 923, [])) (none))) (cond (Nat.beq pc 918) (some (.aload_n 0, 919, [])) (cond (Nat.beq pc 919) (some (.iload 4, 921, [])) (none)))))) (cond (Nat.ble 909 pc) (cond (Nat.ble 913 pc) (cond (Nat.ble 916 pc) (cond (Nat.beq pc 916) (some (.iadd, 917, [])) (cond (Nat.beq pc 917) (some (.iaload, 918, [])) (none))) (cond (Nat.beq pc 913) (some (.iload 4, 915, [])) (cond (Nat.beq pc 915) (some (.iconst 3, 916, [])) (none)))) (cond (Nat.ble 911 pc) (cond (Nat.beq pc 911) (some (.iaload, 912, [])) (cond (Nat.beq pc 912) (some (.aload_n 0, 913, [])) (none))) (cond (Nat.beq pc 909) (some (.iconst 2, 910, [])) (cond (Nat.beq pc 910) (some (.iadd, 911, [])) (none))))) (cond (Nat.ble 904 pc) (cond (Nat.ble 906 pc) (cond (Nat.beq pc 906) (some (.aload_n 0, 907, [])) (cond (Nat.beq pc 907) (some (.iload 4, 909, [])) (none))) (cond (Nat.beq pc 904) (some (.iadd, 905, [])) (cond (Nat.beq pc 905) (some (.iaload, 906, [])) (none)))) (cond (Nat.ble 901 pc) (cond (Nat.beq pc 901) (some (.iload 4, 903, [])) (cond (Nat.beq pc 903) (some (.iconst 1, 904, [])) (none))) (cond (Nat.beq pc 899) (some (.aload_n 1, 900, [])) (cond (Nat.beq pc 900) (some (.aload_n 0, 901, [])) (none))))))))
theorem qkL_14_ok : ∀ pc i nx ts, qkL_14 pc = some (i, nx, ts) → am_cok cL_law pc (i, nx, ts) = true := fun pc i nx ts h => am_tok_ok (n := 3593) (by decide +kernel) (fun pc h => by show cond (Nat.ble 3593 pc) _ _ = _; rw [Nat.ble_eq_true_of_le h]; rfl) h
def qaL_14 : Nat → Option CE := fun k => cond (Nat.beq k 194) (some qeL_placeDenominator) (cond (Nat.beq k 196) (some qeX9_placeDenominator) (cond (Nat.beq k 175) (some qeX9_thrown) (none)))
theorem qyL_14 (l : Launch) (hst : l.stackTraces = false) : ∀ k e1, qaL_14 k = some e1 → am_cal l layL RL 40 k e1 ∧ True := q_cons ⟨am_calS (qtL_placeDenominator l hst) qbL_placeDenominator (by decide) rfl (by decide) (am_tb_at 957 (by decide +kernel) rfl), trivial⟩ (q_cons ⟨am_calV (ci := 9) (am_CT_mono layM_L (qtX9_placeDenominator l)) qbX9_placeDenominator (by decide) rfl (am_tb_at 1722 (by decide +kernel) rfl), trivial⟩ (q_cons ⟨am_calV (ci := 9) (am_CT_mono layM_L (qtX9_thrown l)) qbX9_thrown (by decide) rfl (am_tb_at 1481 (by decide +kernel) rfl), trivial⟩ (q_nil)))
def qxL_14 (Ls : Int) (xs : Int → Int) : CX := (qkL_14, layL, qfL, qaL_14, qcL, qlL, qmL, some .boolean, false, none, 2, some (Ls, xs), fun _ => none)
theorem qzL_14 (l : Launch) (hst : l.stackTraces = false) (Ls : Int) (xs : Int → Int) : am_sta l (qxL_14 Ls xs) RL 40 cL_law := ⟨qkL_14_ok, layL_ok, qfL_ok, qcL_ok, qlL_ok, am_mthP qmL_ok (by decide), fun k e1 h => (qyL_14 l hst k e1 h).1⟩
set_option maxRecDepth 20000 in
theorem qvL_14 (Ls : Int) (xs : Int → Int) (F : FF) (A : AA) (i : Int) (hx : ∀ j, -2147483648 ≤ xs j ∧ xs j < 2147483648) (hL : Ls ≤ 3072) (i0 : 0 ≤ i) (i1 : i + 6 ≤ Ls) (hR : REL F A) : am_stp (qxL_14 Ls xs) (am_run (qxL_14 Ls xs) lawC (lawI i) lawK 65) lawK 899 [some (vR 999), some (vR 0), some (vR 25), some (vR 43), some (vI i), none, none, none] [] F A 0 := by
  have hb : ∀ k : Int, 0 ≤ k → k ≤ 5 → 0 ≤ w32 (i + k) ∧ w32 (i + k) < Ls := fun k k0 k1 => by rw [w32_id (by omega) (by omega)]; omega
  have e0 : mF A = A 2 := hR.1.1.symm
  show (0 ≤ w32 (i + 1) ∧ w32 (i + 1) < Ls) ∧ ((0 ≤ w32 (i + 2) ∧ w32 (i + 2) < Ls) ∧ ((0 ≤ w32 (i + 3) ∧ w32 (i + 3) < Ls) ∧ ((0 ≤ w32 (i + 4) ∧ w32 (i + 4) < Ls) ∧ ((fgOK (A 2) ∧ (-2147483648 ≤ (xs (w32 (i + 1))) ∧ (xs (w32 (i + 1))) < 2147483648) ∧ (-2147483648 ≤ (xs (w32 (i + 2))) ∧ (xs (w32 (i + 2))) < 2147483648) ∧ (-2147483648 ≤ (xs (w32 (i + 3))) ∧ (xs (w32 (i + 3))) < 2147483648) ∧ (-2147483648 ≤ (xs (w32 (i + 4))) ∧ (xs (w32 (i + 4))) < 2147483648) ∧ caAll A) ∧ ((0 ≤ (xs (w32 (i + 1))) ∧ (xs (w32 (i + 1))) < A 2 0 → (∀ (G_1 : FF) (B_1 : AA), (qrP F G_1 A B_1) → ((0 ≤ w32 (i + 1) ∧ w32 (i + 1) < Ls) ∧ ((0 ≤ w32 (i + 2) ∧ w32 (i + 2) < Ls) ∧ ((0 ≤ w32 (i + 3) ∧ w32 (i + 3) < Ls) ∧ ((0 ≤ w32 (i + 4) ∧ w32 (i + 4) < Ls) ∧ ((fgOK (mF (upA B_1 43 (w32 0) (if 0 ≤ (xs (w32 (i + 2))) ∧ (xs (w32 (i + 2))) ≤ 6 ∧ 0 ≤ (xs (w32 (i + 3))) ∧ (xs (w32 (i + 3))) ≤ p2 (xs (w32 (i + 2))) then plF (A 2) (xs (w32 (i + 1))) (xs (w32 (i + 2))) (xs (w32 (i + 3))) (if (xs (w32 (i + 4))) = 0 then 0 else 1) 1 else -1))) ∧ (-2147483648 ≤ (xs (w32 (i + 1))) ∧ (xs (w32 (i + 1))) < 2147483648) ∧ (-2147483648 ≤ (xs (w32 (i + 2))) ∧ (xs (w32 (i + 2))) < 2147483648) ∧ (-2147483648 ≤ (xs (w32 (i + 3))) ∧ (xs (w32 (i + 3))) < 2147483648) ∧ (-2147483648 ≤ (xs (w32 (i + 4))) ∧ (xs (w32 (i + 4))) < 2147483648)) ∧ (∀ (G_2 : FF) (B_2 : AA), (qdP G_1 G_2 (upA B_1 43 (w32 0) (if 0 ≤ (xs (w32 (i + 2))) ∧ (xs (w32 (i + 2))) ≤ 6 ∧ 0 ≤ (xs (w32 (i + 3))) ∧ (xs (w32 (i + 3))) ≤ p2 (xs (w32 (i + 2))) then plF (A 2) (xs (w32 (i + 1))) (xs (w32 (i + 2))) (xs (w32 (i + 3))) (if (xs (w32 (i + 4))) = 0 then 0 else 1) 1 else -1)) B_2 ∧ G_2 25 0 = (if 0 ≤ (xs (w32 (i + 1))) ∧ (xs (w32 (i + 1))) < mF (upA B_1 43 (w32 0) (if 0 ≤ (xs (w32 (i + 2))) ∧ (xs (w32 (i + 2))) ≤ 6 ∧ 0 ≤ (xs (w32 (i + 3))) ∧ (xs (w32 (i + 3))) ≤ p2 (xs (w32 (i + 2))) then plF (A 2) (xs (w32 (i + 1))) (xs (w32 (i + 2))) (xs (w32 (i + 3))) (if (xs (w32 (i + 4))) = 0 then 0 else 1) 1 else -1)) 0 then 0 else 1)) → ((w32 (G_2 25 0) = w32 0 → ((w32 0 = w32 0 → ((0 ≤ w32 0 ∧ w32 0 < 1) ∧ ((w32 (y_cmp (B_2 43 (w32 0)) (if 0 ≤ (xs (w32 (i + 1))) ∧ (xs (w32 (i + 1))) < mF (upA B_1 43 (w32 0) (if 0 ≤ (xs (w32 (i + 2))) ∧ (xs (w32 (i + 2))) ≤ 6 ∧ 0 ≤ (xs (w32 (i + 3))) ∧ (xs (w32 (i + 3))) ≤ p2 (xs (w32 (i + 2))) then plF (A 2) (xs (w32 (i + 1))) (xs (w32 (i + 2))) (xs (w32 (i + 3))) (if (xs (w32 (i + 4))) = 0 then 0 else 1) 1 else -1)) 0 then (if 0 ≤ (xs (w32 (i + 2))) ∧ (xs (w32 (i + 2))) ≤ 6 ∧ 0 ≤ (xs (w32 (i + 3))) ∧ (xs (w32 (i + 3))) ≤ p2 (xs (w32 (i + 2))) then plF (mF (upA B_1 43 (w32 0) (if 0 ≤ (xs (w32 (i + 2))) ∧ (xs (w32 (i + 2))) ≤ 6 ∧ 0 ≤ (xs (w32 (i + 3))) ∧ (xs (w32 (i + 3))) ≤ p2 (xs (w32 (i + 2))) then plF (A 2) (xs (w32 (i + 1))) (xs (w32 (i + 2))) (xs (w32 (i + 3))) (if (xs (w32 (i + 4))) = 0 then 0 else 1) 1 else -1))) (xs (w32 (i + 1))) (xs (w32 (i + 2))) (xs (w32 (i + 3))) (if (xs (w32 (i + 4))) = 0 then 0 else 1) 1 else -1) else 0)) = w32 0 → ((999 : Nat) = 999 ∧ (0 : Nat) = 0 ∧ (25 : Nat) = 25 ∧ (43 : Nat) = 43 ∧ i + 6 = i + 6 ∧ REL G_2 B_2 ∧ (1 : Nat) ≤ 2)) ∧ (¬ (w32 (y_cmp (B_2 43 (w32 0)) (if 0 ≤ (xs (w32 (i + 1))) ∧ (xs (w32 (i + 1))) < mF (upA B_1 43 (w32 0) (if 0 ≤ (xs (w32 (i + 2))) ∧ (xs (w32 (i + 2))) ≤ 6 ∧ 0 ≤ (xs (w32 (i + 3))) ∧ (xs (w32 (i + 3))) ≤ p2 (xs (w32 (i + 2))) then plF (A 2) (xs (w32 (i + 1))) (xs (w32 (i + 2))) (xs (w32 (i + 3))) (if (xs (w32 (i + 4))) = 0 then 0 else 1) 1 else -1)) 0 then (if 0 ≤ (xs (w32 (i + 2))) ∧ (xs (w32 (i + 2))) ≤ 6 ∧ 0 ≤ (xs (w32 (i + 3))) ∧ (xs (w32 (i + 3))) ≤ p2 (xs (w32 (i + 2))) then plF (mF (upA B_1 43 (w32 0) (if 0 ≤ (xs (w32 (i + 2))) ∧ (xs (w32 (i + 2))) ≤ 6 ∧ 0 ≤ (xs (w32 (i + 3))) ∧ (xs (w32 (i + 3))) ≤ p2 (xs (w32 (i + 2))) then plF (A 2) (xs (w32 (i + 1))) (xs (w32 (i + 2))) (xs (w32 (i + 3))) (if (xs (w32 (i + 4))) = 0 then 0 else 1) 1 else -1))) (xs (w32 (i + 1))) (xs (w32 (i + 2))) (xs (w32 (i + 3))) (if (xs (w32 (i + 4))) = 0 then 0 else 1) 1 else -1) else 0)) = w32 0) → (((0 : Int) = 0 ∨ (0 : Int) = 1) ∧ (lawK (some (some (vI 0))) G_2 B_2)))))) ∧ (¬ w32 0 = w32 0 → _))) ∧ (¬ w32 (G_2 25 0) = w32 0 → (((0 : Int) = 0 ∨ (0 : Int) = 1) ∧ (lawK (some (some (vI 0))) G_2 B_2)))))))))))) ∧ (¬ (0 ≤ (xs (w32 (i + 1))) ∧ (xs (w32 (i + 1))) < A 2 0) → ((0 ≤ w32 (i + 1) ∧ w32 (i + 1) < Ls) ∧ ((0 ≤ w32 (i + 2) ∧ w32 (i + 2) < Ls) ∧ ((0 ≤ w32 (i + 3) ∧ w32 (i + 3) < Ls) ∧ ((0 ≤ w32 (i + 4) ∧ w32 (i + 4) < Ls) ∧ ((fgOK (mF A) ∧ (-2147483648 ≤ (xs (w32 (i + 1))) ∧ (xs (w32 (i + 1))) < 2147483648) ∧ (-2147483648 ≤ (xs (w32 (i + 2))) ∧ (xs (w32 (i + 2))) < 2147483648) ∧ (-2147483648 ≤ (xs (w32 (i + 3))) ∧ (xs (w32 (i + 3))) < 2147483648) ∧ (-2147483648 ≤ (xs (w32 (i + 4))) ∧ (xs (w32 (i + 4))) < 2147483648)) ∧ (∀ (G_1 : FF) (B_1 : AA), (qdP F G_1 A B_1 ∧ G_1 25 0 = (if 0 ≤ (xs (w32 (i + 1))) ∧ (xs (w32 (i + 1))) < mF A 0 then 0 else 1)) → ((w32 (G_1 25 0) = w32 1 → ((w32 1 = w32 0 → _) ∧ (¬ w32 1 = w32 0 → ((999 : Nat) = 999 ∧ (0 : Nat) = 0 ∧ (25 : Nat) = 25 ∧ (43 : Nat) = 43 ∧ i + 6 = i + 6 ∧ REL G_1 B_1 ∧ (1 : Nat) ≤ 2)))) ∧ (¬ w32 (G_1 25 0) = w32 1 → (((0 : Int) = 0 ∨ (0 : Int) = 1) ∧ (lawK (some (some (vI 0))) G_1 B_1))))))))))))))))
  refine ⟨by exact hb 1 (by decide) (by decide), ?_⟩
  refine ⟨by exact hb 2 (by decide) (by decide), ?_⟩
  refine ⟨by exact hb 3 (by decide) (by decide), ?_⟩
  refine ⟨by exact hb 4 (by decide) (by decide), ?_⟩
  refine ⟨by exact ⟨rel_f hR, hx _, hx _, hx _, hx _, (hR).2.2.2.2.1.1⟩, ?_⟩
  refine ⟨fun c1 => ?_, fun c1 => ?_⟩
  · skip
    skip
    intro G_1 B_1 g1
    have hR1 : ∀ v, REL G_1 (upA B_1 43 (w32 0) v) := fun v => rel_up (rel_qr hR g1)
    have em : ∀ v, mF (upA B_1 43 (w32 0) v) = A 2 := fun v => (hR1 v).1.1.symm.trans ((upA_r (by decide)).trans (funext fun i => (g1).2.1 2 i (by decide)))
    refine ⟨by exact hb 1 (by decide) (by decide), ?_⟩
    refine ⟨by exact hb 2 (by decide) (by decide), ?_⟩
    refine ⟨by exact hb 3 (by decide) (by decide), ?_⟩
    refine ⟨by exact hb 4 (by decide) (by decide), ?_⟩
    refine ⟨by exact ⟨rel_m (hR1 _), hx _, hx _, hx _, hx _⟩, ?_⟩
    intro G_2 B_2 g2
    have hR2 := rel_qd (hR1 _) g2.1
    have t2 : G_2 25 0 = 0 := by
      have w := g2.2
      rw [em] at w
      exact w.trans (if_pos c1)
    have v2 := (g2.1.2 43 (w32 0) (by decide)).trans upA_s
    refine ⟨fun c2 => ?_, fun c2 => ?_⟩
    · skip
      skip
      refine ⟨fun _ => ?_, fun q => absurd (by decide) q⟩
      refine ⟨by decide, ?_⟩
      refine ⟨fun c3 => ?_, fun c3 => ?_⟩
      · skip
        skip
        exact ⟨rfl, rfl, rfl, rfl, rfl, hR2, by decide⟩
      · skip
        skip
        refine ⟨by decide, ?_⟩
        exact absurd (law_l v2 (by rw [em, if_pos c1])) c3
    · skip
      skip
      refine ⟨by decide, ?_⟩
      exact absurd (by rw [t2]) c2
  · skip
    skip
    refine ⟨by exact hb 1 (by decide) (by decide), ?_⟩
    refine ⟨by exact hb 2 (by decide) (by decide), ?_⟩
    refine ⟨by exact hb 3 (by decide) (by decide), ?_⟩
    refine ⟨by exact hb 4 (by decide) (by decide), ?_⟩
    refine ⟨by exact ⟨rel_m hR, hx _, hx _, hx _, hx _⟩, ?_⟩
    intro G_1 B_1 g1
    have hR2 := rel_qd hR g1.1
    have t2 : G_1 25 0 = 1 := by
      have w := g1.2
      rw [e0] at w
      exact w.trans (if_neg c1)
    refine ⟨fun c2 => ?_, fun c2 => ?_⟩
    · skip
      skip
      refine ⟨fun q => absurd q (by decide), fun _ => ?_⟩
      exact ⟨rfl, rfl, rfl, rfl, rfl, hR2, by decide⟩
    · skip
      skip
      refine ⟨by decide, ?_⟩
      exact absurd (by rw [t2]) c2
def qkL_15 : Nat → Option CI := fun pc => cond (Nat.ble 3593 pc) none (cond (Nat.ble 1032 pc) (cond (Nat.ble 1057 pc) (cond (Nat.ble 1070 pc) (cond (Nat.ble 1077 pc) (cond (Nat.ble 1079 pc) (cond (Nat.beq pc 1079) (some (.goto 2510, 1082, [3589])) (cond (Nat.beq pc 3589) (some (.iinc 4 6, 3592, [])) (cond (Nat.beq pc 3592) (some (.goto (-3569), 3595, [23])) (none)))) (cond (Nat.beq pc 1077) (some (.iconst 0, 1078, [])) (cond (Nat.beq pc 1078) (some (.ireturn, 1079, [])) (none)))) (cond (Nat.ble 1073 pc) (cond (Nat.beq pc 1073) (some (.lcmp, 1074, [])) (cond (Nat.beq pc 1074) (some (.ifCond .eq 5, 1077, [1079])) (none))) (cond (Nat.beq pc 1070) (some (.iload 6, 1072, [])) (cond (Nat.beq pc 1072) (some (.i2l, 1073, [])) (none))))) (cond (Nat.ble 1064 pc) (cond (Nat.ble 1068 pc) (cond (Nat.beq pc 1068) (some (.iconst 0, 1069, [])) (cond (Nat.beq pc 1069) (some (.laload, 1070, [])) (none))) (cond (Nat.beq pc 1064) (some (.ifCond .ne 15, 1067, [1079])) (cond (Nat.beq pc 1067) (some (.aload_n 3, 1068, [])) (none)))) (cond (Nat.ble 1061 pc) (cond (Nat.beq pc 1061) (some (.ireturn, 1062, [])) (cond (Nat.beq pc 1062) (some (.iload 5, 1064, [])) (none))) (cond (Nat.beq pc 1057) (some (.if_icmp .eq 5, 1060, [1062])) (cond (Nat.beq pc 1060) (some (.iconst 0, 1061, [])) (none)))))) (cond (Nat.ble 1041 pc) (cond (Nat.ble 1046 pc) (cond (Nat.ble 1051 pc) (cond (Nat.beq pc 1051) (some (.aload_n 2, 1052, [])) (cond (Nat.beq pc 1052) (some (.invokevirtual 175, 1055, [])) (cond (Nat.beq pc 1055) (some (.iload 5, 1057, [])) (none)))) (cond (Nat.beq pc 1046) (some (.invokevirtual 199, 1049, [])) (cond (Nat.beq pc 1049) (some (.istore 6, 1051, [])) (none)))) (cond (Nat.ble 1044 pc) (cond (Nat.beq pc 1044) (some (.iadd, 1045, [])) (cond (Nat.beq pc 1045) (some (.iaload, 1046, [])) (none))) (cond (Nat.beq pc 1041) (some (.iload 4, 1043, [])) (cond (Nat.beq pc 1043) (some (.iconst 4, 1044, [])) (none))))) (cond (Nat.ble 1037 pc) (cond (Nat.ble 1039 pc) (cond (Nat.beq pc 1039) (some (.iaload, 1040, [])) (cond (Nat.beq pc 1040) (some (.aload_n 0, 1041, [])) (none))) (cond (Nat.beq pc 1037) (some (.iconst 3, 1038, [])) (cond (Nat.beq pc 1038) (some (.iadd, 1039, [])) (none)))) (cond (Nat.ble 1034 pc) (cond (Nat.beq pc 1034) (some (.aload_n 0, 1035, [])) (cond (Nat.beq pc 1035) (some (.iload 4, 1037, [])) (none))) (cond (Nat.beq pc 1032) (some (.iadd, 1033, [])) (cond (Nat.beq pc 1033) (some (.iaload, 1034, [])) (none))))))) (cond (Nat.ble 1009 pc) (cond (Nat.ble 1021 pc) (cond (Nat.ble 1026 pc) (cond (Nat.ble 1028 pc) (cond (Nat.beq pc 1028) (some (.aload_n 0, 1029, [])) (cond (Nat.beq pc 1029) (some (.iload 4, 1031, [])) (cond (Nat.beq pc 1031) (some (.iconst 2, 1032, [])) (none)))) (cond (Nat.beq pc 1026) (some (.iadd, 1027, [])) (cond (Nat.beq pc 1027) (some (.iaload, 1028, [])) (none)))) (cond (Nat.ble 1023 pc) (cond (Nat.beq pc 1023) (some (.iload 4, 1025, [])) (cond (Nat.beq pc 1025) (some (.iconst 1, 1026, [])) (none))) (cond (Nat.beq pc 1021) (some (.aload_n 2, 1022, [])) (cond (Nat.beq pc 1022) (some (.aload_n 0, 1023, [])) (none))))) (cond (Nat.ble 1014 pc) (cond (Nat.ble 1016 pc) (cond (Nat.beq pc 1016) (some (.invokestatic 197, 1019, [])) (cond (Nat.beq pc 1019) (some (.istore 5, 1021, [])) (none))) (cond (Nat.beq pc 1014) (some (.iaload, 1015, [])) (cond (Nat.beq pc 1015) (some (.aload_n 3, 1016, [])) (none)))) (cond (Nat.ble 1012 pc) (cond (Nat.beq pc 1012) (some (.iconst 4, 1013, [])) (cond (Nat.beq pc 1013) (some (.iadd, 1014, [])) (none))) (cond (Nat.beq pc 1009) (some (.aload_n 0, 1010, [])) (cond (Nat.beq pc 1010) (some (.iload 4, 1012, [])) (none)))))) (cond (Nat.ble 1000 pc) (cond (Nat.ble 1004 pc) (cond (Nat.ble 1007 pc) (cond (Nat.beq pc 1007) (some (.iadd, 1008, [])) (cond (Nat.beq pc 1008) (some (.iaload, 1009, [])) (none))) (cond (Nat.beq pc 1004) (some (.iload 4, 1006, [])) (cond (Nat.beq pc 1006) (some (.iconst 3, 1007, [])) (none)))) (cond (Nat.ble 1002 pc) (cond (Nat.beq pc 1002) (some (.iaload, 1003, [])) (cond (Nat.beq pc 1003) (some (.aload_n 0, 1004, [])) (none))) (cond (Nat.beq pc 1000) (some (.iconst 2, 1001, [])) (cond (Nat.beq pc 1001) (some (.iadd, 1002, [])) (none))))) (cond (Nat.ble 995 pc) (cond (Nat.ble 997 pc) (cond (Nat.beq pc 997) (some (.aload_n 0, 998, [])) (cond (Nat.beq pc 998) (some (.iload 4, 1000, [])) (none))) (cond (Nat.beq pc 995) (some (.iadd, 996, [])) (cond (Nat.beq pc 996) (some (.iaload, 997, [])) (none)))) (cond (Nat.ble 992 pc) (cond (Nat.beq pc 992) (some (.iload 4, 994, [])) (cond (Nat.beq pc 994) (some (.iconst 1, 995, [])) (none))) (cond (Nat.beq pc 990) (some (.aload_n 1, 991, [])) (cond (Nat.beq pc 991) (some (.aload_n 0, 992, [])) (none))))))))
theorem qkL_15_ok : ∀ pc i nx ts, qkL_15 pc = some (i, nx, ts) → am_cok cL_law pc (i, nx, ts) = true := fun pc i nx ts h => am_tok_ok (n := 3593) (by decide +kernel) (fun pc h => by show cond (Nat.ble 3593 pc) _ _ = _; rw [Nat.ble_eq_true_of_le h]; rfl) h
def qaL_15 : Nat → Option CE := fun k => cond (Nat.beq k 197) (some qeL_boxSide) (cond (Nat.beq k 199) (some qeX9_boxSide) (cond (Nat.beq k 175) (some qeX9_thrown) (none)))
theorem qyL_15 (l : Launch) (hst : l.stackTraces = false) : ∀ k e1, qaL_15 k = some e1 → am_cal l layL RL 40 k e1 ∧ True := q_cons ⟨am_calS (qtL_boxSide l hst) qbL_boxSide (by decide) rfl (by decide) (am_tb_at 964 (by decide +kernel) rfl), trivial⟩ (q_cons ⟨am_calV (ci := 9) (am_CT_mono layM_L (qtX9_boxSide l)) qbX9_boxSide (by decide) rfl (am_tb_at 1726 (by decide +kernel) rfl), trivial⟩ (q_cons ⟨am_calV (ci := 9) (am_CT_mono layM_L (qtX9_thrown l)) qbX9_thrown (by decide) rfl (am_tb_at 1481 (by decide +kernel) rfl), trivial⟩ (q_nil)))
def qxL_15 (Ls : Int) (xs : Int → Int) : CX := (qkL_15, layL, qfL, qaL_15, qcL, qlL, qmL, some .boolean, false, none, 2, some (Ls, xs), fun _ => none)
theorem qzL_15 (l : Launch) (hst : l.stackTraces = false) (Ls : Int) (xs : Int → Int) : am_sta l (qxL_15 Ls xs) RL 40 cL_law := ⟨qkL_15_ok, layL_ok, qfL_ok, qcL_ok, qlL_ok, am_mthP qmL_ok (by decide), fun k e1 h => (qyL_15 l hst k e1 h).1⟩
set_option maxRecDepth 20000 in
theorem qvL_15 (Ls : Int) (xs : Int → Int) (F : FF) (A : AA) (i : Int) (hx : ∀ j, -2147483648 ≤ xs j ∧ xs j < 2147483648) (hL : Ls ≤ 3072) (i0 : 0 ≤ i) (i1 : i + 6 ≤ Ls) (hR : REL F A) : am_stp (qxL_15 Ls xs) (am_run (qxL_15 Ls xs) lawC (lawI i) lawK 66) lawK 990 [some (vR 999), some (vR 0), some (vR 25), some (vR 43), some (vI i), none, none, none] [] F A 0 := by
  have hb : ∀ k : Int, 0 ≤ k → k ≤ 5 → 0 ≤ w32 (i + k) ∧ w32 (i + k) < Ls := fun k k0 k1 => by rw [w32_id (by omega) (by omega)]; omega
  have e0 : mF A = A 2 := hR.1.1.symm
  show (0 ≤ w32 (i + 1) ∧ w32 (i + 1) < Ls) ∧ ((0 ≤ w32 (i + 2) ∧ w32 (i + 2) < Ls) ∧ ((0 ≤ w32 (i + 3) ∧ w32 (i + 3) < Ls) ∧ ((0 ≤ w32 (i + 4) ∧ w32 (i + 4) < Ls) ∧ ((fgOK (A 2) ∧ (-2147483648 ≤ (xs (w32 (i + 1))) ∧ (xs (w32 (i + 1))) < 2147483648) ∧ (-2147483648 ≤ (xs (w32 (i + 2))) ∧ (xs (w32 (i + 2))) < 2147483648) ∧ (-2147483648 ≤ (xs (w32 (i + 3))) ∧ (xs (w32 (i + 3))) < 2147483648) ∧ (-2147483648 ≤ (xs (w32 (i + 4))) ∧ (xs (w32 (i + 4))) < 2147483648) ∧ caAll A) ∧ ((0 ≤ (xs (w32 (i + 1))) ∧ (xs (w32 (i + 1))) < A 2 0 → (∀ (G_1 : FF) (B_1 : AA), (qrP F G_1 A B_1) → ((0 ≤ w32 (i + 1) ∧ w32 (i + 1) < Ls) ∧ ((0 ≤ w32 (i + 2) ∧ w32 (i + 2) < Ls) ∧ ((0 ≤ w32 (i + 3) ∧ w32 (i + 3) < Ls) ∧ ((0 ≤ w32 (i + 4) ∧ w32 (i + 4) < Ls) ∧ ((fgOK (mF (upA B_1 43 (w32 0) (w32 (if (0 ≤ (xs (w32 (i + 2))) ∧ (xs (w32 (i + 2))) ≤ 6 ∧ 0 ≤ (xs (w32 (i + 3))) ∧ (xs (w32 (i + 3))) < p2 (xs (w32 (i + 2)))) ∧ 0 ≤ (xs (w32 (i + 4))) ∧ (xs (w32 (i + 4))) ≤ 3 then bxF (A 2) (xs (w32 (i + 1))) (xs (w32 (i + 2))) (xs (w32 (i + 3))) (xs (w32 (i + 4))) else -1)))) ∧ (-2147483648 ≤ (xs (w32 (i + 1))) ∧ (xs (w32 (i + 1))) < 2147483648) ∧ (-2147483648 ≤ (xs (w32 (i + 2))) ∧ (xs (w32 (i + 2))) < 2147483648) ∧ (-2147483648 ≤ (xs (w32 (i + 3))) ∧ (xs (w32 (i + 3))) < 2147483648) ∧ (-2147483648 ≤ (xs (w32 (i + 4))) ∧ (xs (w32 (i + 4))) < 2147483648)) ∧ (∀ (G_2 : FF) (B_2 : AA), (qdP G_1 G_2 (upA B_1 43 (w32 0) (w32 (if (0 ≤ (xs (w32 (i + 2))) ∧ (xs (w32 (i + 2))) ≤ 6 ∧ 0 ≤ (xs (w32 (i + 3))) ∧ (xs (w32 (i + 3))) < p2 (xs (w32 (i + 2)))) ∧ 0 ≤ (xs (w32 (i + 4))) ∧ (xs (w32 (i + 4))) ≤ 3 then bxF (A 2) (xs (w32 (i + 1))) (xs (w32 (i + 2))) (xs (w32 (i + 3))) (xs (w32 (i + 4))) else -1))) B_2 ∧ G_2 25 0 = (if 0 ≤ (xs (w32 (i + 1))) ∧ (xs (w32 (i + 1))) < mF (upA B_1 43 (w32 0) (w32 (if (0 ≤ (xs (w32 (i + 2))) ∧ (xs (w32 (i + 2))) ≤ 6 ∧ 0 ≤ (xs (w32 (i + 3))) ∧ (xs (w32 (i + 3))) < p2 (xs (w32 (i + 2)))) ∧ 0 ≤ (xs (w32 (i + 4))) ∧ (xs (w32 (i + 4))) ≤ 3 then bxF (A 2) (xs (w32 (i + 1))) (xs (w32 (i + 2))) (xs (w32 (i + 3))) (xs (w32 (i + 4))) else -1))) 0 then 0 else 1)) → ((w32 (G_2 25 0) = w32 0 → ((w32 0 = w32 0 → ((0 ≤ w32 0 ∧ w32 0 < 1) ∧ ((w32 (y_cmp (B_2 43 (w32 0)) (w32 (if 0 ≤ (xs (w32 (i + 1))) ∧ (xs (w32 (i + 1))) < mF (upA B_1 43 (w32 0) (w32 (if (0 ≤ (xs (w32 (i + 2))) ∧ (xs (w32 (i + 2))) ≤ 6 ∧ 0 ≤ (xs (w32 (i + 3))) ∧ (xs (w32 (i + 3))) < p2 (xs (w32 (i + 2)))) ∧ 0 ≤ (xs (w32 (i + 4))) ∧ (xs (w32 (i + 4))) ≤ 3 then bxF (A 2) (xs (w32 (i + 1))) (xs (w32 (i + 2))) (xs (w32 (i + 3))) (xs (w32 (i + 4))) else -1))) 0 then (if (0 ≤ (xs (w32 (i + 2))) ∧ (xs (w32 (i + 2))) ≤ 6 ∧ 0 ≤ (xs (w32 (i + 3))) ∧ (xs (w32 (i + 3))) < p2 (xs (w32 (i + 2)))) ∧ 0 ≤ (xs (w32 (i + 4))) ∧ (xs (w32 (i + 4))) ≤ 3 then bxF (mF (upA B_1 43 (w32 0) (w32 (if (0 ≤ (xs (w32 (i + 2))) ∧ (xs (w32 (i + 2))) ≤ 6 ∧ 0 ≤ (xs (w32 (i + 3))) ∧ (xs (w32 (i + 3))) < p2 (xs (w32 (i + 2)))) ∧ 0 ≤ (xs (w32 (i + 4))) ∧ (xs (w32 (i + 4))) ≤ 3 then bxF (A 2) (xs (w32 (i + 1))) (xs (w32 (i + 2))) (xs (w32 (i + 3))) (xs (w32 (i + 4))) else -1)))) (xs (w32 (i + 1))) (xs (w32 (i + 2))) (xs (w32 (i + 3))) (xs (w32 (i + 4))) else -1) else 0))) = w32 0 → ((999 : Nat) = 999 ∧ (0 : Nat) = 0 ∧ (25 : Nat) = 25 ∧ (43 : Nat) = 43 ∧ i + 6 = i + 6 ∧ REL G_2 B_2 ∧ (1 : Nat) ≤ 2)) ∧ (¬ (w32 (y_cmp (B_2 43 (w32 0)) (w32 (if 0 ≤ (xs (w32 (i + 1))) ∧ (xs (w32 (i + 1))) < mF (upA B_1 43 (w32 0) (w32 (if (0 ≤ (xs (w32 (i + 2))) ∧ (xs (w32 (i + 2))) ≤ 6 ∧ 0 ≤ (xs (w32 (i + 3))) ∧ (xs (w32 (i + 3))) < p2 (xs (w32 (i + 2)))) ∧ 0 ≤ (xs (w32 (i + 4))) ∧ (xs (w32 (i + 4))) ≤ 3 then bxF (A 2) (xs (w32 (i + 1))) (xs (w32 (i + 2))) (xs (w32 (i + 3))) (xs (w32 (i + 4))) else -1))) 0 then (if (0 ≤ (xs (w32 (i + 2))) ∧ (xs (w32 (i + 2))) ≤ 6 ∧ 0 ≤ (xs (w32 (i + 3))) ∧ (xs (w32 (i + 3))) < p2 (xs (w32 (i + 2)))) ∧ 0 ≤ (xs (w32 (i + 4))) ∧ (xs (w32 (i + 4))) ≤ 3 then bxF (mF (upA B_1 43 (w32 0) (w32 (if (0 ≤ (xs (w32 (i + 2))) ∧ (xs (w32 (i + 2))) ≤ 6 ∧ 0 ≤ (xs (w32 (i + 3))) ∧ (xs (w32 (i + 3))) < p2 (xs (w32 (i + 2)))) ∧ 0 ≤ (xs (w32 (i + 4))) ∧ (xs (w32 (i + 4))) ≤ 3 then bxF (A 2) (xs (w32 (i + 1))) (xs (w32 (i + 2))) (xs (w32 (i + 3))) (xs (w32 (i + 4))) else -1)))) (xs (w32 (i + 1))) (xs (w32 (i + 2))) (xs (w32 (i + 3))) (xs (w32 (i + 4))) else -1) else 0))) = w32 0) → (((0 : Int) = 0 ∨ (0 : Int) = 1) ∧ (lawK (some (some (vI 0))) G_2 B_2)))))) ∧ (¬ w32 0 = w32 0 → _))) ∧ (¬ w32 (G_2 25 0) = w32 0 → (((0 : Int) = 0 ∨ (0 : Int) = 1) ∧ (lawK (some (some (vI 0))) G_2 B_2)))))))))))) ∧ (¬ (0 ≤ (xs (w32 (i + 1))) ∧ (xs (w32 (i + 1))) < A 2 0) → ((0 ≤ w32 (i + 1) ∧ w32 (i + 1) < Ls) ∧ ((0 ≤ w32 (i + 2) ∧ w32 (i + 2) < Ls) ∧ ((0 ≤ w32 (i + 3) ∧ w32 (i + 3) < Ls) ∧ ((0 ≤ w32 (i + 4) ∧ w32 (i + 4) < Ls) ∧ ((fgOK (mF A) ∧ (-2147483648 ≤ (xs (w32 (i + 1))) ∧ (xs (w32 (i + 1))) < 2147483648) ∧ (-2147483648 ≤ (xs (w32 (i + 2))) ∧ (xs (w32 (i + 2))) < 2147483648) ∧ (-2147483648 ≤ (xs (w32 (i + 3))) ∧ (xs (w32 (i + 3))) < 2147483648) ∧ (-2147483648 ≤ (xs (w32 (i + 4))) ∧ (xs (w32 (i + 4))) < 2147483648)) ∧ (∀ (G_1 : FF) (B_1 : AA), (qdP F G_1 A B_1 ∧ G_1 25 0 = (if 0 ≤ (xs (w32 (i + 1))) ∧ (xs (w32 (i + 1))) < mF A 0 then 0 else 1)) → ((w32 (G_1 25 0) = w32 1 → ((w32 1 = w32 0 → _) ∧ (¬ w32 1 = w32 0 → ((999 : Nat) = 999 ∧ (0 : Nat) = 0 ∧ (25 : Nat) = 25 ∧ (43 : Nat) = 43 ∧ i + 6 = i + 6 ∧ REL G_1 B_1 ∧ (1 : Nat) ≤ 2)))) ∧ (¬ w32 (G_1 25 0) = w32 1 → (((0 : Int) = 0 ∨ (0 : Int) = 1) ∧ (lawK (some (some (vI 0))) G_1 B_1))))))))))))))))
  refine ⟨by exact hb 1 (by decide) (by decide), ?_⟩
  refine ⟨by exact hb 2 (by decide) (by decide), ?_⟩
  refine ⟨by exact hb 3 (by decide) (by decide), ?_⟩
  refine ⟨by exact hb 4 (by decide) (by decide), ?_⟩
  refine ⟨by exact ⟨rel_f hR, hx _, hx _, hx _, hx _, (hR).2.2.2.2.1.1⟩, ?_⟩
  refine ⟨fun c1 => ?_, fun c1 => ?_⟩
  · skip
    skip
    intro G_1 B_1 g1
    have hR1 : ∀ v, REL G_1 (upA B_1 43 (w32 0) v) := fun v => rel_up (rel_qr hR g1)
    have em : ∀ v, mF (upA B_1 43 (w32 0) v) = A 2 := fun v => (hR1 v).1.1.symm.trans ((upA_r (by decide)).trans (funext fun i => (g1).2.1 2 i (by decide)))
    refine ⟨by exact hb 1 (by decide) (by decide), ?_⟩
    refine ⟨by exact hb 2 (by decide) (by decide), ?_⟩
    refine ⟨by exact hb 3 (by decide) (by decide), ?_⟩
    refine ⟨by exact hb 4 (by decide) (by decide), ?_⟩
    refine ⟨by exact ⟨rel_m (hR1 _), hx _, hx _, hx _, hx _⟩, ?_⟩
    intro G_2 B_2 g2
    have hR2 := rel_qd (hR1 _) g2.1
    have t2 : G_2 25 0 = 0 := by
      have w := g2.2
      rw [em] at w
      exact w.trans (if_pos c1)
    have v2 := (g2.1.2 43 (w32 0) (by decide)).trans upA_s
    refine ⟨fun c2 => ?_, fun c2 => ?_⟩
    · skip
      skip
      refine ⟨fun _ => ?_, fun q => absurd (by decide) q⟩
      refine ⟨by decide, ?_⟩
      refine ⟨fun c3 => ?_, fun c3 => ?_⟩
      · skip
        skip
        exact ⟨rfl, rfl, rfl, rfl, rfl, hR2, by decide⟩
      · skip
        skip
        refine ⟨by decide, ?_⟩
        exact absurd (law_e v2 (by rw [em, if_pos c1])) c3
    · skip
      skip
      refine ⟨by decide, ?_⟩
      exact absurd (by rw [t2]) c2
  · skip
    skip
    refine ⟨by exact hb 1 (by decide) (by decide), ?_⟩
    refine ⟨by exact hb 2 (by decide) (by decide), ?_⟩
    refine ⟨by exact hb 3 (by decide) (by decide), ?_⟩
    refine ⟨by exact hb 4 (by decide) (by decide), ?_⟩
    refine ⟨by exact ⟨rel_m hR, hx _, hx _, hx _, hx _⟩, ?_⟩
    intro G_1 B_1 g1
    have hR2 := rel_qd hR g1.1
    have t2 : G_1 25 0 = 1 := by
      have w := g1.2
      rw [e0] at w
      exact w.trans (if_neg c1)
    refine ⟨fun c2 => ?_, fun c2 => ?_⟩
    · skip
      skip
      refine ⟨fun q => absurd q (by decide), fun _ => ?_⟩
      exact ⟨rfl, rfl, rfl, rfl, rfl, hR2, by decide⟩
    · skip
      skip
      refine ⟨by decide, ?_⟩
      exact absurd (by rw [t2]) c2
def qkL_16 : Nat → Option CI := fun pc => cond (Nat.ble 3593 pc) none (cond (Nat.ble 1113 pc) (cond (Nat.ble 1131 pc) (cond (Nat.ble 1140 pc) (cond (Nat.ble 1142 pc) (cond (Nat.beq pc 1142) (some (.goto 2447, 1145, [3589])) (cond (Nat.beq pc 3589) (some (.iinc 4 6, 3592, [])) (cond (Nat.beq pc 3592) (some (.goto (-3569), 3595, [23])) (none)))) (cond (Nat.beq pc 1140) (some (.iconst 0, 1141, [])) (cond (Nat.beq pc 1141) (some (.ireturn, 1142, [])) (none)))) (cond (Nat.ble 1135 pc) (cond (Nat.beq pc 1135) (some (.lconst 0, 1136, [])) (cond (Nat.beq pc 1136) (some (.lcmp, 1137, [])) (cond (Nat.beq pc 1137) (some (.ifCond .eq 5, 1140, [1142])) (none)))) (cond (Nat.beq pc 1131) (some (.lconst 1, 1132, [])) (cond (Nat.beq pc 1132) (some (.goto 4, 1135, [1136])) (none))))) (cond (Nat.ble 1123 pc) (cond (Nat.ble 1125 pc) (cond (Nat.beq pc 1125) (some (.laload, 1126, [])) (cond (Nat.beq pc 1126) (some (.iload 6, 1128, [])) (cond (Nat.beq pc 1128) (some (.ifCond .eq 7, 1131, [1135])) (none)))) (cond (Nat.beq pc 1123) (some (.aload_n 3, 1124, [])) (cond (Nat.beq pc 1124) (some (.iconst 0, 1125, [])) (none)))) (cond (Nat.ble 1117 pc) (cond (Nat.beq pc 1117) (some (.ireturn, 1118, [])) (cond (Nat.beq pc 1118) (some (.iload 5, 1120, [])) (cond (Nat.beq pc 1120) (some (.ifCond .ne 22, 1123, [1142])) (none)))) (cond (Nat.beq pc 1113) (some (.if_icmp .eq 5, 1116, [1118])) (cond (Nat.beq pc 1116) (some (.iconst 0, 1117, [])) (none)))))) (cond (Nat.ble 1096 pc) (cond (Nat.ble 1102 pc) (cond (Nat.ble 1107 pc) (cond (Nat.beq pc 1107) (some (.aload_n 2, 1108, [])) (cond (Nat.beq pc 1108) (some (.invokevirtual 175, 1111, [])) (cond (Nat.beq pc 1111) (some (.iload 5, 1113, [])) (none)))) (cond (Nat.beq pc 1102) (some (.invokevirtual 202, 1105, [])) (cond (Nat.beq pc 1105) (some (.istore 6, 1107, [])) (none)))) (cond (Nat.ble 1099 pc) (cond (Nat.beq pc 1099) (some (.iconst 1, 1100, [])) (cond (Nat.beq pc 1100) (some (.iadd, 1101, [])) (cond (Nat.beq pc 1101) (some (.iaload, 1102, [])) (none)))) (cond (Nat.beq pc 1096) (some (.aload_n 0, 1097, [])) (cond (Nat.beq pc 1097) (some (.iload 4, 1099, [])) (none))))) (cond (Nat.ble 1088 pc) (cond (Nat.ble 1090 pc) (cond (Nat.beq pc 1090) (some (.invokestatic 200, 1093, [])) (cond (Nat.beq pc 1093) (some (.istore 5, 1095, [])) (cond (Nat.beq pc 1095) (some (.aload_n 2, 1096, [])) (none)))) (cond (Nat.beq pc 1088) (some (.iaload, 1089, [])) (cond (Nat.beq pc 1089) (some (.aload_n 3, 1090, [])) (none)))) (cond (Nat.ble 1084 pc) (cond (Nat.beq pc 1084) (some (.iload 4, 1086, [])) (cond (Nat.beq pc 1086) (some (.iconst 1, 1087, [])) (cond (Nat.beq pc 1087) (some (.iadd, 1088, [])) (none)))) (cond (Nat.beq pc 1082) (some (.aload_n 1, 1083, [])) (cond (Nat.beq pc 1083) (some (.aload_n 0, 1084, [])) (none)))))))
theorem qkL_16_ok : ∀ pc i nx ts, qkL_16 pc = some (i, nx, ts) → am_cok cL_law pc (i, nx, ts) = true := fun pc i nx ts h => am_tok_ok (n := 3593) (by decide +kernel) (fun pc h => by show cond (Nat.ble 3593 pc) _ _ = _; rw [Nat.ble_eq_true_of_le h]; rfl) h
def qaL_16 : Nat → Option CE := fun k => cond (Nat.beq k 200) (some qeL_isStraight) (cond (Nat.beq k 202) (some qeX9_isStraight) (cond (Nat.beq k 175) (some qeX9_thrown) (none)))
theorem qyL_16 (l : Launch) (hst : l.stackTraces = false) : ∀ k e1, qaL_16 k = some e1 → am_cal l layL RL 40 k e1 ∧ True := q_cons ⟨am_calS (qtL_isStraight l hst) qbL_isStraight (by decide) rfl (by decide) (am_tb_at 973 (by decide +kernel) rfl), trivial⟩ (q_cons ⟨am_calV (ci := 9) (am_CT_mono layM_L (qtX9_isStraight l)) qbX9_isStraight (by decide) rfl (am_tb_at 1738 (by decide +kernel) rfl), trivial⟩ (q_cons ⟨am_calV (ci := 9) (am_CT_mono layM_L (qtX9_thrown l)) qbX9_thrown (by decide) rfl (am_tb_at 1481 (by decide +kernel) rfl), trivial⟩ (q_nil)))
def qxL_16 (Ls : Int) (xs : Int → Int) : CX := (qkL_16, layL, qfL, qaL_16, qcL, qlL, qmL, some .boolean, false, none, 2, some (Ls, xs), fun _ => none)
theorem qzL_16 (l : Launch) (hst : l.stackTraces = false) (Ls : Int) (xs : Int → Int) : am_sta l (qxL_16 Ls xs) RL 40 cL_law := ⟨qkL_16_ok, layL_ok, qfL_ok, qcL_ok, qlL_ok, am_mthP qmL_ok (by decide), fun k e1 h => (qyL_16 l hst k e1 h).1⟩
set_option maxRecDepth 20000 in
theorem qvL_16 (Ls : Int) (xs : Int → Int) (F : FF) (A : AA) (i : Int) (hx : ∀ j, -2147483648 ≤ xs j ∧ xs j < 2147483648) (hL : Ls ≤ 3072) (i0 : 0 ≤ i) (i1 : i + 6 ≤ Ls) (hR : REL F A) : am_stp (qxL_16 Ls xs) (am_run (qxL_16 Ls xs) lawC (lawI i) lawK 38) lawK 1082 [some (vR 999), some (vR 0), some (vR 25), some (vR 43), some (vI i), none, none, none] [] F A 0 := by
  have hb : ∀ k : Int, 0 ≤ k → k ≤ 5 → 0 ≤ w32 (i + k) ∧ w32 (i + k) < Ls := fun k k0 k1 => by rw [w32_id (by omega) (by omega)]; omega
  have hR1 : ∀ v, REL F (upA A 43 (w32 0) v) := fun v => rel_up hR
  have em : ∀ v, mF (upA A 43 (w32 0) v) = A 2 := fun v => (hR1 v).1.1.symm.trans (upA_r (by decide))
  have e0 : mF A = A 2 := hR.1.1.symm
  show (0 ≤ w32 (i + 1) ∧ w32 (i + 1) < Ls) ∧ ((fgOK (A 2) ∧ (-2147483648 ≤ (xs (w32 (i + 1))) ∧ (xs (w32 (i + 1))) < 2147483648)) ∧ ((0 ≤ (xs (w32 (i + 1))) ∧ (xs (w32 (i + 1))) < A 2 0 → ((0 ≤ w32 (i + 1) ∧ w32 (i + 1) < Ls) ∧ ((fgOK (mF (upA A 43 (w32 0) (w32 (bc (stP (A 2) (xs (w32 (i + 1))) (A 2 (18 + (xs (w32 (i + 1)))))))))) ∧ (-2147483648 ≤ (xs (w32 (i + 1))) ∧ (xs (w32 (i + 1))) < 2147483648) ∧ HUT) ∧ (∀ (G_1 : FF) (B_1 : AA), (qdP F G_1 (upA A 43 (w32 0) (w32 (bc (stP (A 2) (xs (w32 (i + 1))) (A 2 (18 + (xs (w32 (i + 1))))))))) B_1 ∧ G_1 25 0 = (if 0 ≤ (xs (w32 (i + 1))) ∧ (xs (w32 (i + 1))) < mF (upA A 43 (w32 0) (w32 (bc (stP (A 2) (xs (w32 (i + 1))) (A 2 (18 + (xs (w32 (i + 1))))))))) 0 then 0 else 1)) → ((w32 (G_1 25 0) = w32 0 → ((w32 0 = w32 0 → ((0 ≤ w32 0 ∧ w32 0 < 1) ∧ ((w32 (if 0 ≤ (xs (w32 (i + 1))) ∧ (xs (w32 (i + 1))) < mF (upA A 43 (w32 0) (w32 (bc (stP (A 2) (xs (w32 (i + 1))) (A 2 (18 + (xs (w32 (i + 1))))))))) 0 then bi (((huL (mF (upA A 43 (w32 0) (w32 (bc (stP (A 2) (xs (w32 (i + 1))) (A 2 (18 + (xs (w32 (i + 1)))))))))) (xs (w32 (i + 1)))).length : Int) < 3) else 0) = w32 0 → ((w32 (y_cmp (B_1 43 (w32 0)) 0) = w32 0 → ((999 : Nat) = 999 ∧ (0 : Nat) = 0 ∧ (25 : Nat) = 25 ∧ (43 : Nat) = 43 ∧ i + 6 = i + 6 ∧ REL G_1 B_1 ∧ (1 : Nat) ≤ 2)) ∧ (¬ w32 (y_cmp (B_1 43 (w32 0)) 0) = w32 0 → (((0 : Int) = 0 ∨ (0 : Int) = 1) ∧ (lawK (some (some (vI 0))) G_1 B_1))))) ∧ (¬ (w32 (if 0 ≤ (xs (w32 (i + 1))) ∧ (xs (w32 (i + 1))) < mF (upA A 43 (w32 0) (w32 (bc (stP (A 2) (xs (w32 (i + 1))) (A 2 (18 + (xs (w32 (i + 1))))))))) 0 then bi (((huL (mF (upA A 43 (w32 0) (w32 (bc (stP (A 2) (xs (w32 (i + 1))) (A 2 (18 + (xs (w32 (i + 1)))))))))) (xs (w32 (i + 1)))).length : Int) < 3) else 0) = w32 0) → ((w32 (y_cmp (B_1 43 (w32 0)) 1) = w32 0 → ((999 : Nat) = 999 ∧ (0 : Nat) = 0 ∧ (25 : Nat) = 25 ∧ (43 : Nat) = 43 ∧ i + 6 = i + 6 ∧ REL G_1 B_1 ∧ (1 : Nat) ≤ 2)) ∧ (¬ w32 (y_cmp (B_1 43 (w32 0)) 1) = w32 0 → (((0 : Int) = 0 ∨ (0 : Int) = 1) ∧ (lawK (some (some (vI 0))) G_1 B_1)))))))) ∧ (¬ w32 0 = w32 0 → _))) ∧ (¬ w32 (G_1 25 0) = w32 0 → (((0 : Int) = 0 ∨ (0 : Int) = 1) ∧ (lawK (some (some (vI 0))) G_1 B_1)))))))) ∧ (¬ (0 ≤ (xs (w32 (i + 1))) ∧ (xs (w32 (i + 1))) < A 2 0) → ((0 ≤ w32 (i + 1) ∧ w32 (i + 1) < Ls) ∧ ((fgOK (mF A) ∧ (-2147483648 ≤ (xs (w32 (i + 1))) ∧ (xs (w32 (i + 1))) < 2147483648) ∧ HUT) ∧ (∀ (G_1 : FF) (B_1 : AA), (qdP F G_1 A B_1 ∧ G_1 25 0 = (if 0 ≤ (xs (w32 (i + 1))) ∧ (xs (w32 (i + 1))) < mF A 0 then 0 else 1)) → ((w32 (G_1 25 0) = w32 1 → ((w32 1 = w32 0 → _) ∧ (¬ w32 1 = w32 0 → ((999 : Nat) = 999 ∧ (0 : Nat) = 0 ∧ (25 : Nat) = 25 ∧ (43 : Nat) = 43 ∧ i + 6 = i + 6 ∧ REL G_1 B_1 ∧ (1 : Nat) ≤ 2)))) ∧ (¬ w32 (G_1 25 0) = w32 1 → (((0 : Int) = 0 ∨ (0 : Int) = 1) ∧ (lawK (some (some (vI 0))) G_1 B_1))))))))))
  refine ⟨by exact hb 1 (by decide) (by decide), ?_⟩
  refine ⟨by exact ⟨rel_f hR, hx _⟩, ?_⟩
  refine ⟨fun c1 => ?_, fun c1 => ?_⟩
  · skip
    skip
    refine ⟨by exact hb 1 (by decide) (by decide), ?_⟩
    refine ⟨by exact ⟨rel_m (hR1 _), hx _, hut⟩, ?_⟩
    intro G_1 B_1 g1
    have hR2 := rel_qd (hR1 _) g1.1
    have t2 : G_1 25 0 = 0 := by
      have w := g1.2
      rw [em] at w
      exact w.trans (if_pos c1)
    have v2 := (g1.1.2 43 (w32 0) (by decide)).trans upA_s
    refine ⟨fun c2 => ?_, fun c2 => ?_⟩
    · skip
      skip
      refine ⟨fun _ => ?_, fun q => absurd (by decide) q⟩
      refine ⟨by decide, ?_⟩
      refine ⟨fun c3 => ?_, fun c3 => ?_⟩
      · skip
        skip
        refine ⟨fun c4 => ?_, fun c4 => ?_⟩
        · skip
          skip
          exact ⟨rfl, rfl, rfl, rfl, rfl, hR2, by decide⟩
        · skip
          skip
          refine ⟨by decide, ?_⟩
          exact absurd (law_z v2 (by rw [em, if_pos c1]; exact le_st (rel_f hR) c1.1 c1.2) c3) c4
      · skip
        skip
        refine ⟨fun c4 => ?_, fun c4 => ?_⟩
        · skip
          skip
          exact ⟨rfl, rfl, rfl, rfl, rfl, hR2, by decide⟩
        · skip
          skip
          refine ⟨by decide, ?_⟩
          exact absurd (law_o v2 (by rw [em, if_pos c1]; exact le_st (rel_f hR) c1.1 c1.2) bc_01 c3) c4
    · skip
      skip
      refine ⟨by decide, ?_⟩
      exact absurd (by rw [t2]) c2
  · skip
    skip
    refine ⟨by exact hb 1 (by decide) (by decide), ?_⟩
    refine ⟨by exact ⟨rel_m hR, hx _, hut⟩, ?_⟩
    intro G_1 B_1 g1
    have hR2 := rel_qd hR g1.1
    have t2 : G_1 25 0 = 1 := by
      have w := g1.2
      rw [e0] at w
      exact w.trans (if_neg c1)
    refine ⟨fun c2 => ?_, fun c2 => ?_⟩
    · skip
      skip
      refine ⟨fun q => absurd q (by decide), fun _ => ?_⟩
      exact ⟨rfl, rfl, rfl, rfl, rfl, hR2, by decide⟩
    · skip
      skip
      refine ⟨by decide, ?_⟩
      exact absurd (by rw [t2]) c2
def qkL_17 : Nat → Option CI := fun pc => cond (Nat.ble 3593 pc) none (cond (Nat.ble 1171 pc) (cond (Nat.ble 1188 pc) (cond (Nat.ble 1196 pc) (cond (Nat.ble 1198 pc) (cond (Nat.beq pc 1198) (some (.goto 2391, 1201, [3589])) (cond (Nat.beq pc 3589) (some (.iinc 4 6, 3592, [])) (cond (Nat.beq pc 3592) (some (.goto (-3569), 3595, [23])) (none)))) (cond (Nat.beq pc 1196) (some (.iconst 0, 1197, [])) (cond (Nat.beq pc 1197) (some (.ireturn, 1198, [])) (none)))) (cond (Nat.ble 1191 pc) (cond (Nat.beq pc 1191) (some (.i2l, 1192, [])) (cond (Nat.beq pc 1192) (some (.lcmp, 1193, [])) (cond (Nat.beq pc 1193) (some (.ifCond .eq 5, 1196, [1198])) (none)))) (cond (Nat.beq pc 1188) (some (.laload, 1189, [])) (cond (Nat.beq pc 1189) (some (.iload 6, 1191, [])) (none))))) (cond (Nat.ble 1180 pc) (cond (Nat.ble 1183 pc) (cond (Nat.beq pc 1183) (some (.ifCond .ne 15, 1186, [1198])) (cond (Nat.beq pc 1186) (some (.aload_n 3, 1187, [])) (cond (Nat.beq pc 1187) (some (.iconst 0, 1188, [])) (none)))) (cond (Nat.beq pc 1180) (some (.ireturn, 1181, [])) (cond (Nat.beq pc 1181) (some (.iload 5, 1183, [])) (none)))) (cond (Nat.ble 1176 pc) (cond (Nat.beq pc 1176) (some (.if_icmp .eq 5, 1179, [1181])) (cond (Nat.beq pc 1179) (some (.iconst 0, 1180, [])) (none))) (cond (Nat.beq pc 1171) (some (.invokevirtual 175, 1174, [])) (cond (Nat.beq pc 1174) (some (.iload 5, 1176, [])) (none)))))) (cond (Nat.ble 1158 pc) (cond (Nat.ble 1163 pc) (cond (Nat.ble 1165 pc) (cond (Nat.beq pc 1165) (some (.invokevirtual 205, 1168, [])) (cond (Nat.beq pc 1168) (some (.istore 6, 1170, [])) (cond (Nat.beq pc 1170) (some (.aload_n 2, 1171, [])) (none)))) (cond (Nat.beq pc 1163) (some (.iadd, 1164, [])) (cond (Nat.beq pc 1164) (some (.iaload, 1165, [])) (none)))) (cond (Nat.ble 1160 pc) (cond (Nat.beq pc 1160) (some (.iload 4, 1162, [])) (cond (Nat.beq pc 1162) (some (.iconst 1, 1163, [])) (none))) (cond (Nat.beq pc 1158) (some (.aload_n 2, 1159, [])) (cond (Nat.beq pc 1159) (some (.aload_n 0, 1160, [])) (none))))) (cond (Nat.ble 1150 pc) (cond (Nat.ble 1152 pc) (cond (Nat.beq pc 1152) (some (.aload_n 3, 1153, [])) (cond (Nat.beq pc 1153) (some (.invokestatic 203, 1156, [])) (cond (Nat.beq pc 1156) (some (.istore 5, 1158, [])) (none)))) (cond (Nat.beq pc 1150) (some (.iadd, 1151, [])) (cond (Nat.beq pc 1151) (some (.iaload, 1152, [])) (none)))) (cond (Nat.ble 1147 pc) (cond (Nat.beq pc 1147) (some (.iload 4, 1149, [])) (cond (Nat.beq pc 1149) (some (.iconst 1, 1150, [])) (none))) (cond (Nat.beq pc 1145) (some (.aload_n 1, 1146, [])) (cond (Nat.beq pc 1146) (some (.aload_n 0, 1147, [])) (none)))))))
theorem qkL_17_ok : ∀ pc i nx ts, qkL_17 pc = some (i, nx, ts) → am_cok cL_law pc (i, nx, ts) = true := fun pc i nx ts h => am_tok_ok (n := 3593) (by decide +kernel) (fun pc h => by show cond (Nat.ble 3593 pc) _ _ = _; rw [Nat.ble_eq_true_of_le h]; rfl) h
def qaL_17 : Nat → Option CE := fun k => cond (Nat.beq k 203) (some qeL_hullSize) (cond (Nat.beq k 205) (some qeX9_hullSize) (cond (Nat.beq k 175) (some qeX9_thrown) (none)))
theorem qyL_17 (l : Launch) (hst : l.stackTraces = false) : ∀ k e1, qaL_17 k = some e1 → am_cal l layL RL 40 k e1 ∧ True := q_cons ⟨am_calS (qtL_hullSize l hst) qbL_hullSize (by decide) rfl (by decide) (am_tb_at 984 (by decide +kernel) rfl), trivial⟩ (q_cons ⟨am_calV (ci := 9) (am_CT_mono layM_L (qtX9_hullSize l)) qbX9_hullSize (by decide) rfl (am_tb_at 1762 (by decide +kernel) rfl), trivial⟩ (q_cons ⟨am_calV (ci := 9) (am_CT_mono layM_L (qtX9_thrown l)) qbX9_thrown (by decide) rfl (am_tb_at 1481 (by decide +kernel) rfl), trivial⟩ (q_nil)))
def qxL_17 (Ls : Int) (xs : Int → Int) : CX := (qkL_17, layL, qfL, qaL_17, qcL, qlL, qmL, some .boolean, false, none, 2, some (Ls, xs), fun _ => none)
theorem qzL_17 (l : Launch) (hst : l.stackTraces = false) (Ls : Int) (xs : Int → Int) : am_sta l (qxL_17 Ls xs) RL 40 cL_law := ⟨qkL_17_ok, layL_ok, qfL_ok, qcL_ok, qlL_ok, am_mthP qmL_ok (by decide), fun k e1 h => (qyL_17 l hst k e1 h).1⟩
set_option maxRecDepth 20000 in
theorem qvL_17 (Ls : Int) (xs : Int → Int) (F : FF) (A : AA) (i : Int) (hx : ∀ j, -2147483648 ≤ xs j ∧ xs j < 2147483648) (hL : Ls ≤ 3072) (i0 : 0 ≤ i) (i1 : i + 6 ≤ Ls) (hR : REL F A) : am_stp (qxL_17 Ls xs) (am_run (qxL_17 Ls xs) lawC (lawI i) lawK 36) lawK 1145 [some (vR 999), some (vR 0), some (vR 25), some (vR 43), some (vI i), none, none, none] [] F A 0 := by
  have hb : ∀ k : Int, 0 ≤ k → k ≤ 5 → 0 ≤ w32 (i + k) ∧ w32 (i + k) < Ls := fun k k0 k1 => by rw [w32_id (by omega) (by omega)]; omega
  have e0 : mF A = A 2 := hR.1.1.symm
  show (0 ≤ w32 (i + 1) ∧ w32 (i + 1) < Ls) ∧ ((fgOK (A 2) ∧ (-2147483648 ≤ (xs (w32 (i + 1))) ∧ (xs (w32 (i + 1))) < 2147483648)) ∧ ((0 ≤ (xs (w32 (i + 1))) ∧ (xs (w32 (i + 1))) < A 2 0 → (∀ (G_1 : FF) (B_1 : AA), (qrP F G_1 A B_1) → ((0 ≤ w32 (i + 1) ∧ w32 (i + 1) < Ls) ∧ ((fgOK (mF (upA B_1 43 (w32 0) (w32 ((huL (A 2) (xs (w32 (i + 1)))).length : Int)))) ∧ (-2147483648 ≤ (xs (w32 (i + 1))) ∧ (xs (w32 (i + 1))) < 2147483648) ∧ HUT) ∧ (∀ (G_2 : FF) (B_2 : AA), (qdP G_1 G_2 (upA B_1 43 (w32 0) (w32 ((huL (A 2) (xs (w32 (i + 1)))).length : Int))) B_2 ∧ G_2 25 0 = (if 0 ≤ (xs (w32 (i + 1))) ∧ (xs (w32 (i + 1))) < mF (upA B_1 43 (w32 0) (w32 ((huL (A 2) (xs (w32 (i + 1)))).length : Int))) 0 then 0 else 1)) → ((w32 (G_2 25 0) = w32 0 → ((w32 0 = w32 0 → ((0 ≤ w32 0 ∧ w32 0 < 1) ∧ ((w32 (y_cmp (B_2 43 (w32 0)) (w32 (if 0 ≤ (xs (w32 (i + 1))) ∧ (xs (w32 (i + 1))) < mF (upA B_1 43 (w32 0) (w32 ((huL (A 2) (xs (w32 (i + 1)))).length : Int))) 0 then ((huL (mF (upA B_1 43 (w32 0) (w32 ((huL (A 2) (xs (w32 (i + 1)))).length : Int)))) (xs (w32 (i + 1)))).length : Int) else 0))) = w32 0 → ((999 : Nat) = 999 ∧ (0 : Nat) = 0 ∧ (25 : Nat) = 25 ∧ (43 : Nat) = 43 ∧ i + 6 = i + 6 ∧ REL G_2 B_2 ∧ (1 : Nat) ≤ 2)) ∧ (¬ (w32 (y_cmp (B_2 43 (w32 0)) (w32 (if 0 ≤ (xs (w32 (i + 1))) ∧ (xs (w32 (i + 1))) < mF (upA B_1 43 (w32 0) (w32 ((huL (A 2) (xs (w32 (i + 1)))).length : Int))) 0 then ((huL (mF (upA B_1 43 (w32 0) (w32 ((huL (A 2) (xs (w32 (i + 1)))).length : Int)))) (xs (w32 (i + 1)))).length : Int) else 0))) = w32 0) → (((0 : Int) = 0 ∨ (0 : Int) = 1) ∧ (lawK (some (some (vI 0))) G_2 B_2)))))) ∧ (¬ w32 0 = w32 0 → _))) ∧ (¬ w32 (G_2 25 0) = w32 0 → (((0 : Int) = 0 ∨ (0 : Int) = 1) ∧ (lawK (some (some (vI 0))) G_2 B_2))))))))) ∧ (¬ (0 ≤ (xs (w32 (i + 1))) ∧ (xs (w32 (i + 1))) < A 2 0) → ((0 ≤ w32 (i + 1) ∧ w32 (i + 1) < Ls) ∧ ((fgOK (mF A) ∧ (-2147483648 ≤ (xs (w32 (i + 1))) ∧ (xs (w32 (i + 1))) < 2147483648) ∧ HUT) ∧ (∀ (G_1 : FF) (B_1 : AA), (qdP F G_1 A B_1 ∧ G_1 25 0 = (if 0 ≤ (xs (w32 (i + 1))) ∧ (xs (w32 (i + 1))) < mF A 0 then 0 else 1)) → ((w32 (G_1 25 0) = w32 1 → ((w32 1 = w32 0 → _) ∧ (¬ w32 1 = w32 0 → ((999 : Nat) = 999 ∧ (0 : Nat) = 0 ∧ (25 : Nat) = 25 ∧ (43 : Nat) = 43 ∧ i + 6 = i + 6 ∧ REL G_1 B_1 ∧ (1 : Nat) ≤ 2)))) ∧ (¬ w32 (G_1 25 0) = w32 1 → (((0 : Int) = 0 ∨ (0 : Int) = 1) ∧ (lawK (some (some (vI 0))) G_1 B_1))))))))))
  refine ⟨by exact hb 1 (by decide) (by decide), ?_⟩
  refine ⟨by exact ⟨rel_f hR, hx _⟩, ?_⟩
  refine ⟨fun c1 => ?_, fun c1 => ?_⟩
  · skip
    skip
    intro G_1 B_1 g1
    have hR1 : ∀ v, REL G_1 (upA B_1 43 (w32 0) v) := fun v => rel_up (rel_qr hR g1)
    have em : ∀ v, mF (upA B_1 43 (w32 0) v) = A 2 := fun v => (hR1 v).1.1.symm.trans ((upA_r (by decide)).trans (funext fun i => (g1).2.1 2 i (by decide)))
    refine ⟨by exact hb 1 (by decide) (by decide), ?_⟩
    refine ⟨by exact ⟨rel_m (hR1 _), hx _, hut⟩, ?_⟩
    intro G_2 B_2 g2
    have hR2 := rel_qd (hR1 _) g2.1
    have t2 : G_2 25 0 = 0 := by
      have w := g2.2
      rw [em] at w
      exact w.trans (if_pos c1)
    have v2 := (g2.1.2 43 (w32 0) (by decide)).trans upA_s
    refine ⟨fun c2 => ?_, fun c2 => ?_⟩
    · skip
      skip
      refine ⟨fun _ => ?_, fun q => absurd (by decide) q⟩
      refine ⟨by decide, ?_⟩
      refine ⟨fun c3 => ?_, fun c3 => ?_⟩
      · skip
        skip
        exact ⟨rfl, rfl, rfl, rfl, rfl, hR2, by decide⟩
      · skip
        skip
        refine ⟨by decide, ?_⟩
        exact absurd (law_e v2 (by rw [em, if_pos c1])) c3
    · skip
      skip
      refine ⟨by decide, ?_⟩
      exact absurd (by rw [t2]) c2
  · skip
    skip
    refine ⟨by exact hb 1 (by decide) (by decide), ?_⟩
    refine ⟨by exact ⟨rel_m hR, hx _, hut⟩, ?_⟩
    intro G_1 B_1 g1
    have hR2 := rel_qd hR g1.1
    have t2 : G_1 25 0 = 1 := by
      have w := g1.2
      rw [e0] at w
      exact w.trans (if_neg c1)
    refine ⟨fun c2 => ?_, fun c2 => ?_⟩
    · skip
      skip
      refine ⟨fun q => absurd q (by decide), fun _ => ?_⟩
      exact ⟨rfl, rfl, rfl, rfl, rfl, hR2, by decide⟩
    · skip
      skip
      refine ⟨by decide, ?_⟩
      exact absurd (by rw [t2]) c2
def qkL_18 : Nat → Option CI := fun pc => cond (Nat.ble 3593 pc) none (cond (Nat.ble 1231 pc) (cond (Nat.ble 1254 pc) (cond (Nat.ble 1261 pc) (cond (Nat.ble 1266 pc) (cond (Nat.beq pc 1266) (some (.goto 2323, 1269, [3589])) (cond (Nat.beq pc 3589) (some (.iinc 4 6, 3592, [])) (cond (Nat.beq pc 3592) (some (.goto (-3569), 3595, [23])) (none)))) (cond (Nat.beq pc 1261) (some (.ifCond .eq 5, 1264, [1266])) (cond (Nat.beq pc 1264) (some (.iconst 0, 1265, [])) (cond (Nat.beq pc 1265) (some (.ireturn, 1266, [])) (none))))) (cond (Nat.ble 1257 pc) (cond (Nat.beq pc 1257) (some (.iload 6, 1259, [])) (cond (Nat.beq pc 1259) (some (.i2l, 1260, [])) (cond (Nat.beq pc 1260) (some (.lcmp, 1261, [])) (none)))) (cond (Nat.beq pc 1254) (some (.aload_n 3, 1255, [])) (cond (Nat.beq pc 1255) (some (.iconst 0, 1256, [])) (cond (Nat.beq pc 1256) (some (.laload, 1257, [])) (none)))))) (cond (Nat.ble 1242 pc) (cond (Nat.ble 1248 pc) (cond (Nat.beq pc 1248) (some (.ireturn, 1249, [])) (cond (Nat.beq pc 1249) (some (.iload 5, 1251, [])) (cond (Nat.beq pc 1251) (some (.ifCond .ne 15, 1254, [1266])) (none)))) (cond (Nat.beq pc 1242) (some (.iload 5, 1244, [])) (cond (Nat.beq pc 1244) (some (.if_icmp .eq 5, 1247, [1249])) (cond (Nat.beq pc 1247) (some (.iconst 0, 1248, [])) (none))))) (cond (Nat.ble 1236 pc) (cond (Nat.beq pc 1236) (some (.istore 6, 1238, [])) (cond (Nat.beq pc 1238) (some (.aload_n 2, 1239, [])) (cond (Nat.beq pc 1239) (some (.invokevirtual 175, 1242, [])) (none)))) (cond (Nat.beq pc 1231) (some (.iadd, 1232, [])) (cond (Nat.beq pc 1232) (some (.iaload, 1233, [])) (cond (Nat.beq pc 1233) (some (.invokevirtual 208, 1236, [])) (none))))))) (cond (Nat.ble 1214 pc) (cond (Nat.ble 1224 pc) (cond (Nat.ble 1227 pc) (cond (Nat.beq pc 1227) (some (.aload_n 0, 1228, [])) (cond (Nat.beq pc 1228) (some (.iload 4, 1230, [])) (cond (Nat.beq pc 1230) (some (.iconst 2, 1231, [])) (none)))) (cond (Nat.beq pc 1224) (some (.iconst 1, 1225, [])) (cond (Nat.beq pc 1225) (some (.iadd, 1226, [])) (cond (Nat.beq pc 1226) (some (.iaload, 1227, [])) (none))))) (cond (Nat.ble 1220 pc) (cond (Nat.beq pc 1220) (some (.aload_n 2, 1221, [])) (cond (Nat.beq pc 1221) (some (.aload_n 0, 1222, [])) (cond (Nat.beq pc 1222) (some (.iload 4, 1224, [])) (none)))) (cond (Nat.beq pc 1214) (some (.aload_n 3, 1215, [])) (cond (Nat.beq pc 1215) (some (.invokestatic 206, 1218, [])) (cond (Nat.beq pc 1218) (some (.istore 5, 1220, [])) (none)))))) (cond (Nat.ble 1207 pc) (cond (Nat.ble 1211 pc) (cond (Nat.beq pc 1211) (some (.iconst 2, 1212, [])) (cond (Nat.beq pc 1212) (some (.iadd, 1213, [])) (cond (Nat.beq pc 1213) (some (.iaload, 1214, [])) (none)))) (cond (Nat.beq pc 1207) (some (.iaload, 1208, [])) (cond (Nat.beq pc 1208) (some (.aload_n 0, 1209, [])) (cond (Nat.beq pc 1209) (some (.iload 4, 1211, [])) (none))))) (cond (Nat.ble 1203 pc) (cond (Nat.beq pc 1203) (some (.iload 4, 1205, [])) (cond (Nat.beq pc 1205) (some (.iconst 1, 1206, [])) (cond (Nat.beq pc 1206) (some (.iadd, 1207, [])) (none)))) (cond (Nat.beq pc 1201) (some (.aload_n 1, 1202, [])) (cond (Nat.beq pc 1202) (some (.aload_n 0, 1203, [])) (none)))))))
theorem qkL_18_ok : ∀ pc i nx ts, qkL_18 pc = some (i, nx, ts) → am_cok cL_law pc (i, nx, ts) = true := fun pc i nx ts h => am_tok_ok (n := 3593) (by decide +kernel) (fun pc h => by show cond (Nat.ble 3593 pc) _ _ = _; rw [Nat.ble_eq_true_of_le h]; rfl) h
def qaL_18 : Nat → Option CE := fun k => cond (Nat.beq k 206) (some qeL_hullCorner) (cond (Nat.beq k 208) (some qeX9_hullCorner) (cond (Nat.beq k 175) (some qeX9_thrown) (none)))
theorem qyL_18 (l : Launch) (hst : l.stackTraces = false) : ∀ k e1, qaL_18 k = some e1 → am_cal l layL RL 40 k e1 ∧ True := q_cons ⟨am_calS (qtL_hullCorner l hst) qbL_hullCorner (by decide) rfl (by decide) (am_tb_at 1017 (by decide +kernel) rfl), trivial⟩ (q_cons ⟨am_calV (ci := 9) (am_CT_mono layM_L (qtX9_hullCorner l)) qbX9_hullCorner (by decide) rfl (am_tb_at 1766 (by decide +kernel) rfl), trivial⟩ (q_cons ⟨am_calV (ci := 9) (am_CT_mono layM_L (qtX9_thrown l)) qbX9_thrown (by decide) rfl (am_tb_at 1481 (by decide +kernel) rfl), trivial⟩ (q_nil)))
def qxL_18 (Ls : Int) (xs : Int → Int) : CX := (qkL_18, layL, qfL, qaL_18, qcL, qlL, qmL, some .boolean, false, none, 2, some (Ls, xs), fun _ => none)
theorem qzL_18 (l : Launch) (hst : l.stackTraces = false) (Ls : Int) (xs : Int → Int) : am_sta l (qxL_18 Ls xs) RL 40 cL_law := ⟨qkL_18_ok, layL_ok, qfL_ok, qcL_ok, qlL_ok, am_mthP qmL_ok (by decide), fun k e1 h => (qyL_18 l hst k e1 h).1⟩
set_option maxRecDepth 20000 in
theorem qvL_18 (Ls : Int) (xs : Int → Int) (F : FF) (A : AA) (i : Int) (hx : ∀ j, -2147483648 ≤ xs j ∧ xs j < 2147483648) (hL : Ls ≤ 3072) (i0 : 0 ≤ i) (i1 : i + 6 ≤ Ls) (hR : REL F A) : am_stp (qxL_18 Ls xs) (am_run (qxL_18 Ls xs) lawC (lawI i) lawK 46) lawK 1201 [some (vR 999), some (vR 0), some (vR 25), some (vR 43), some (vI i), none, none, none] [] F A 0 := by
  have hb : ∀ k : Int, 0 ≤ k → k ≤ 5 → 0 ≤ w32 (i + k) ∧ w32 (i + k) < Ls := fun k k0 k1 => by rw [w32_id (by omega) (by omega)]; omega
  have e0 : mF A = A 2 := hR.1.1.symm
  show (0 ≤ w32 (i + 1) ∧ w32 (i + 1) < Ls) ∧ ((0 ≤ w32 (i + 2) ∧ w32 (i + 2) < Ls) ∧ ((fgOK (A 2) ∧ (-2147483648 ≤ (xs (w32 (i + 1))) ∧ (xs (w32 (i + 1))) < 2147483648) ∧ (-2147483648 ≤ (xs (w32 (i + 2))) ∧ (xs (w32 (i + 2))) < 2147483648)) ∧ ((0 ≤ (xs (w32 (i + 1))) ∧ (xs (w32 (i + 1))) < A 2 0 → (∀ (G_1 : FF) (B_1 : AA), (qrP F G_1 A B_1) → ((0 ≤ w32 (i + 1) ∧ w32 (i + 1) < Ls) ∧ ((0 ≤ w32 (i + 2) ∧ w32 (i + 2) < Ls) ∧ ((fgOK (mF (upA B_1 43 (w32 0) (w32 (if 0 ≤ (xs (w32 (i + 2))) ∧ (xs (w32 (i + 2))) < ((huL (A 2) (xs (w32 (i + 1)))).length : Int) then (huL (A 2) (xs (w32 (i + 1)))).getD (Int.toNat (xs (w32 (i + 2)))) 0 else -1)))) ∧ (-2147483648 ≤ (xs (w32 (i + 1))) ∧ (xs (w32 (i + 1))) < 2147483648) ∧ (-2147483648 ≤ (xs (w32 (i + 2))) ∧ (xs (w32 (i + 2))) < 2147483648) ∧ HUT) ∧ (∀ (G_2 : FF) (B_2 : AA), (qdP G_1 G_2 (upA B_1 43 (w32 0) (w32 (if 0 ≤ (xs (w32 (i + 2))) ∧ (xs (w32 (i + 2))) < ((huL (A 2) (xs (w32 (i + 1)))).length : Int) then (huL (A 2) (xs (w32 (i + 1)))).getD (Int.toNat (xs (w32 (i + 2)))) 0 else -1))) B_2 ∧ G_2 25 0 = (if 0 ≤ (xs (w32 (i + 1))) ∧ (xs (w32 (i + 1))) < mF (upA B_1 43 (w32 0) (w32 (if 0 ≤ (xs (w32 (i + 2))) ∧ (xs (w32 (i + 2))) < ((huL (A 2) (xs (w32 (i + 1)))).length : Int) then (huL (A 2) (xs (w32 (i + 1)))).getD (Int.toNat (xs (w32 (i + 2)))) 0 else -1))) 0 then 0 else 1)) → ((w32 (G_2 25 0) = w32 0 → ((w32 0 = w32 0 → ((0 ≤ w32 0 ∧ w32 0 < 1) ∧ ((w32 (y_cmp (B_2 43 (w32 0)) (w32 (if 0 ≤ (xs (w32 (i + 1))) ∧ (xs (w32 (i + 1))) < mF (upA B_1 43 (w32 0) (w32 (if 0 ≤ (xs (w32 (i + 2))) ∧ (xs (w32 (i + 2))) < ((huL (A 2) (xs (w32 (i + 1)))).length : Int) then (huL (A 2) (xs (w32 (i + 1)))).getD (Int.toNat (xs (w32 (i + 2)))) 0 else -1))) 0 then (if 0 ≤ (xs (w32 (i + 2))) ∧ (xs (w32 (i + 2))) < ((huL (mF (upA B_1 43 (w32 0) (w32 (if 0 ≤ (xs (w32 (i + 2))) ∧ (xs (w32 (i + 2))) < ((huL (A 2) (xs (w32 (i + 1)))).length : Int) then (huL (A 2) (xs (w32 (i + 1)))).getD (Int.toNat (xs (w32 (i + 2)))) 0 else -1)))) (xs (w32 (i + 1)))).length : Int) then (huL (mF (upA B_1 43 (w32 0) (w32 (if 0 ≤ (xs (w32 (i + 2))) ∧ (xs (w32 (i + 2))) < ((huL (A 2) (xs (w32 (i + 1)))).length : Int) then (huL (A 2) (xs (w32 (i + 1)))).getD (Int.toNat (xs (w32 (i + 2)))) 0 else -1)))) (xs (w32 (i + 1)))).getD (Int.toNat (xs (w32 (i + 2)))) 0 else -1) else 0))) = w32 0 → ((999 : Nat) = 999 ∧ (0 : Nat) = 0 ∧ (25 : Nat) = 25 ∧ (43 : Nat) = 43 ∧ i + 6 = i + 6 ∧ REL G_2 B_2 ∧ (1 : Nat) ≤ 2)) ∧ (¬ (w32 (y_cmp (B_2 43 (w32 0)) (w32 (if 0 ≤ (xs (w32 (i + 1))) ∧ (xs (w32 (i + 1))) < mF (upA B_1 43 (w32 0) (w32 (if 0 ≤ (xs (w32 (i + 2))) ∧ (xs (w32 (i + 2))) < ((huL (A 2) (xs (w32 (i + 1)))).length : Int) then (huL (A 2) (xs (w32 (i + 1)))).getD (Int.toNat (xs (w32 (i + 2)))) 0 else -1))) 0 then (if 0 ≤ (xs (w32 (i + 2))) ∧ (xs (w32 (i + 2))) < ((huL (mF (upA B_1 43 (w32 0) (w32 (if 0 ≤ (xs (w32 (i + 2))) ∧ (xs (w32 (i + 2))) < ((huL (A 2) (xs (w32 (i + 1)))).length : Int) then (huL (A 2) (xs (w32 (i + 1)))).getD (Int.toNat (xs (w32 (i + 2)))) 0 else -1)))) (xs (w32 (i + 1)))).length : Int) then (huL (mF (upA B_1 43 (w32 0) (w32 (if 0 ≤ (xs (w32 (i + 2))) ∧ (xs (w32 (i + 2))) < ((huL (A 2) (xs (w32 (i + 1)))).length : Int) then (huL (A 2) (xs (w32 (i + 1)))).getD (Int.toNat (xs (w32 (i + 2)))) 0 else -1)))) (xs (w32 (i + 1)))).getD (Int.toNat (xs (w32 (i + 2)))) 0 else -1) else 0))) = w32 0) → (((0 : Int) = 0 ∨ (0 : Int) = 1) ∧ (lawK (some (some (vI 0))) G_2 B_2)))))) ∧ (¬ w32 0 = w32 0 → _))) ∧ (¬ w32 (G_2 25 0) = w32 0 → (((0 : Int) = 0 ∨ (0 : Int) = 1) ∧ (lawK (some (some (vI 0))) G_2 B_2)))))))))) ∧ (¬ (0 ≤ (xs (w32 (i + 1))) ∧ (xs (w32 (i + 1))) < A 2 0) → ((0 ≤ w32 (i + 1) ∧ w32 (i + 1) < Ls) ∧ ((0 ≤ w32 (i + 2) ∧ w32 (i + 2) < Ls) ∧ ((fgOK (mF A) ∧ (-2147483648 ≤ (xs (w32 (i + 1))) ∧ (xs (w32 (i + 1))) < 2147483648) ∧ (-2147483648 ≤ (xs (w32 (i + 2))) ∧ (xs (w32 (i + 2))) < 2147483648) ∧ HUT) ∧ (∀ (G_1 : FF) (B_1 : AA), (qdP F G_1 A B_1 ∧ G_1 25 0 = (if 0 ≤ (xs (w32 (i + 1))) ∧ (xs (w32 (i + 1))) < mF A 0 then 0 else 1)) → ((w32 (G_1 25 0) = w32 1 → ((w32 1 = w32 0 → _) ∧ (¬ w32 1 = w32 0 → ((999 : Nat) = 999 ∧ (0 : Nat) = 0 ∧ (25 : Nat) = 25 ∧ (43 : Nat) = 43 ∧ i + 6 = i + 6 ∧ REL G_1 B_1 ∧ (1 : Nat) ≤ 2)))) ∧ (¬ w32 (G_1 25 0) = w32 1 → (((0 : Int) = 0 ∨ (0 : Int) = 1) ∧ (lawK (some (some (vI 0))) G_1 B_1))))))))))))
  refine ⟨by exact hb 1 (by decide) (by decide), ?_⟩
  refine ⟨by exact hb 2 (by decide) (by decide), ?_⟩
  refine ⟨by exact ⟨rel_f hR, hx _, hx _⟩, ?_⟩
  refine ⟨fun c1 => ?_, fun c1 => ?_⟩
  · skip
    skip
    intro G_1 B_1 g1
    have hR1 : ∀ v, REL G_1 (upA B_1 43 (w32 0) v) := fun v => rel_up (rel_qr hR g1)
    have em : ∀ v, mF (upA B_1 43 (w32 0) v) = A 2 := fun v => (hR1 v).1.1.symm.trans ((upA_r (by decide)).trans (funext fun i => (g1).2.1 2 i (by decide)))
    refine ⟨by exact hb 1 (by decide) (by decide), ?_⟩
    refine ⟨by exact hb 2 (by decide) (by decide), ?_⟩
    refine ⟨by exact ⟨rel_m (hR1 _), hx _, hx _, hut⟩, ?_⟩
    intro G_2 B_2 g2
    have hR2 := rel_qd (hR1 _) g2.1
    have t2 : G_2 25 0 = 0 := by
      have w := g2.2
      rw [em] at w
      exact w.trans (if_pos c1)
    have v2 := (g2.1.2 43 (w32 0) (by decide)).trans upA_s
    refine ⟨fun c2 => ?_, fun c2 => ?_⟩
    · skip
      skip
      refine ⟨fun _ => ?_, fun q => absurd (by decide) q⟩
      refine ⟨by decide, ?_⟩
      refine ⟨fun c3 => ?_, fun c3 => ?_⟩
      · skip
        skip
        exact ⟨rfl, rfl, rfl, rfl, rfl, hR2, by decide⟩
      · skip
        skip
        refine ⟨by decide, ?_⟩
        exact absurd (law_e v2 (by rw [em, if_pos c1])) c3
    · skip
      skip
      refine ⟨by decide, ?_⟩
      exact absurd (by rw [t2]) c2
  · skip
    skip
    refine ⟨by exact hb 1 (by decide) (by decide), ?_⟩
    refine ⟨by exact hb 2 (by decide) (by decide), ?_⟩
    refine ⟨by exact ⟨rel_m hR, hx _, hx _, hut⟩, ?_⟩
    intro G_1 B_1 g1
    have hR2 := rel_qd hR g1.1
    have t2 : G_1 25 0 = 1 := by
      have w := g1.2
      rw [e0] at w
      exact w.trans (if_neg c1)
    refine ⟨fun c2 => ?_, fun c2 => ?_⟩
    · skip
      skip
      refine ⟨fun q => absurd q (by decide), fun _ => ?_⟩
      exact ⟨rfl, rfl, rfl, rfl, rfl, hR2, by decide⟩
    · skip
      skip
      refine ⟨by decide, ?_⟩
      exact absurd (by rw [t2]) c2
def qkL_19 : Nat → Option CI := fun pc => cond (Nat.ble 3593 pc) none (cond (Nat.ble 1305 pc) (cond (Nat.ble 1328 pc) (cond (Nat.ble 1339 pc) (cond (Nat.ble 1345 pc) (cond (Nat.ble 3589 pc) (cond (Nat.beq pc 3589) (some (.iinc 4 6, 3592, [])) (cond (Nat.beq pc 3592) (some (.goto (-3569), 3595, [23])) (none))) (cond (Nat.beq pc 1345) (some (.ireturn, 1346, [])) (cond (Nat.beq pc 1346) (some (.goto 2243, 1349, [3589])) (none)))) (cond (Nat.ble 1341 pc) (cond (Nat.beq pc 1341) (some (.ifCond .eq 5, 1344, [1346])) (cond (Nat.beq pc 1344) (some (.iconst 0, 1345, [])) (none))) (cond (Nat.beq pc 1339) (some (.i2l, 1340, [])) (cond (Nat.beq pc 1340) (some (.lcmp, 1341, [])) (none))))) (cond (Nat.ble 1334 pc) (cond (Nat.ble 1336 pc) (cond (Nat.beq pc 1336) (some (.laload, 1337, [])) (cond (Nat.beq pc 1337) (some (.iload 6, 1339, [])) (none))) (cond (Nat.beq pc 1334) (some (.aload_n 3, 1335, [])) (cond (Nat.beq pc 1335) (some (.iconst 0, 1336, [])) (none)))) (cond (Nat.beq pc 1328) (some (.ireturn, 1329, [])) (cond (Nat.beq pc 1329) (some (.iload 5, 1331, [])) (cond (Nat.beq pc 1331) (some (.ifCond .ne 15, 1334, [1346])) (none)))))) (cond (Nat.ble 1313 pc) (cond (Nat.ble 1319 pc) (cond (Nat.ble 1324 pc) (cond (Nat.beq pc 1324) (some (.if_icmp .eq 5, 1327, [1329])) (cond (Nat.beq pc 1327) (some (.iconst 0, 1328, [])) (none))) (cond (Nat.beq pc 1319) (some (.invokevirtual 175, 1322, [])) (cond (Nat.beq pc 1322) (some (.iload 5, 1324, [])) (none)))) (cond (Nat.beq pc 1313) (some (.invokevirtual 211, 1316, [])) (cond (Nat.beq pc 1316) (some (.istore 6, 1318, [])) (cond (Nat.beq pc 1318) (some (.aload_n 2, 1319, [])) (none))))) (cond (Nat.ble 1308 pc) (cond (Nat.ble 1311 pc) (cond (Nat.beq pc 1311) (some (.iadd, 1312, [])) (cond (Nat.beq pc 1312) (some (.iaload, 1313, [])) (none))) (cond (Nat.beq pc 1308) (some (.iload 4, 1310, [])) (cond (Nat.beq pc 1310) (some (.iconst 3, 1311, [])) (none)))) (cond (Nat.beq pc 1305) (some (.iadd, 1306, [])) (cond (Nat.beq pc 1306) (some (.iaload, 1307, [])) (cond (Nat.beq pc 1307) (some (.aload_n 0, 1308, [])) (none))))))) (cond (Nat.ble 1286 pc) (cond (Nat.ble 1296 pc) (cond (Nat.ble 1300 pc) (cond (Nat.ble 1302 pc) (cond (Nat.beq pc 1302) (some (.iload 4, 1304, [])) (cond (Nat.beq pc 1304) (some (.iconst 2, 1305, [])) (none))) (cond (Nat.beq pc 1300) (some (.iaload, 1301, [])) (cond (Nat.beq pc 1301) (some (.aload_n 0, 1302, [])) (none)))) (cond (Nat.beq pc 1296) (some (.iload 4, 1298, [])) (cond (Nat.beq pc 1298) (some (.iconst 1, 1299, [])) (cond (Nat.beq pc 1299) (some (.iadd, 1300, [])) (none))))) (cond (Nat.ble 1289 pc) (cond (Nat.ble 1294 pc) (cond (Nat.beq pc 1294) (some (.aload_n 2, 1295, [])) (cond (Nat.beq pc 1295) (some (.aload_n 0, 1296, [])) (none))) (cond (Nat.beq pc 1289) (some (.invokestatic 209, 1292, [])) (cond (Nat.beq pc 1292) (some (.istore 5, 1294, [])) (none)))) (cond (Nat.beq pc 1286) (some (.iadd, 1287, [])) (cond (Nat.beq pc 1287) (some (.iaload, 1288, [])) (cond (Nat.beq pc 1288) (some (.aload_n 3, 1289, [])) (none)))))) (cond (Nat.ble 1277 pc) (cond (Nat.ble 1281 pc) (cond (Nat.ble 1283 pc) (cond (Nat.beq pc 1283) (some (.iload 4, 1285, [])) (cond (Nat.beq pc 1285) (some (.iconst 3, 1286, [])) (none))) (cond (Nat.beq pc 1281) (some (.iaload, 1282, [])) (cond (Nat.beq pc 1282) (some (.aload_n 0, 1283, [])) (none)))) (cond (Nat.beq pc 1277) (some (.iload 4, 1279, [])) (cond (Nat.beq pc 1279) (some (.iconst 2, 1280, [])) (cond (Nat.beq pc 1280) (some (.iadd, 1281, [])) (none))))) (cond (Nat.ble 1273 pc) (cond (Nat.ble 1275 pc) (cond (Nat.beq pc 1275) (some (.iaload, 1276, [])) (cond (Nat.beq pc 1276) (some (.aload_n 0, 1277, [])) (none))) (cond (Nat.beq pc 1273) (some (.iconst 1, 1274, [])) (cond (Nat.beq pc 1274) (some (.iadd, 1275, [])) (none)))) (cond (Nat.beq pc 1269) (some (.aload_n 1, 1270, [])) (cond (Nat.beq pc 1270) (some (.aload_n 0, 1271, [])) (cond (Nat.beq pc 1271) (some (.iload 4, 1273, [])) (none))))))))
theorem qkL_19_ok : ∀ pc i nx ts, qkL_19 pc = some (i, nx, ts) → am_cok cL_law pc (i, nx, ts) = true := fun pc i nx ts h => am_tok_ok (n := 3593) (by decide +kernel) (fun pc h => by show cond (Nat.ble 3593 pc) _ _ = _; rw [Nat.ble_eq_true_of_le h]; rfl) h
def qaL_19 : Nat → Option CE := fun k => cond (Nat.beq k 209) (some qeL_coefficient) (cond (Nat.beq k 211) (some qeX9_coefficient) (cond (Nat.beq k 175) (some qeX9_thrown) (none)))
theorem qyL_19 (l : Launch) (hst : l.stackTraces = false) : ∀ k e1, qaL_19 k = some e1 → am_cal l layL RL 40 k e1 ∧ True := q_cons ⟨am_calS (qtL_coefficient l hst) qbL_coefficient (by decide) rfl (by decide) (am_tb_at 1028 (by decide +kernel) rfl), trivial⟩ (q_cons ⟨am_calV (ci := 9) (am_CT_mono layM_L (qtX9_coefficient l)) qbX9_coefficient (by decide) rfl (am_tb_at 1770 (by decide +kernel) rfl), trivial⟩ (q_cons ⟨am_calV (ci := 9) (am_CT_mono layM_L (qtX9_thrown l)) qbX9_thrown (by decide) rfl (am_tb_at 1481 (by decide +kernel) rfl), trivial⟩ (q_nil)))
def qxL_19 (Ls : Int) (xs : Int → Int) : CX := (qkL_19, layL, qfL, qaL_19, qcL, qlL, qmL, some .boolean, false, none, 2, some (Ls, xs), fun _ => none)
theorem qzL_19 (l : Launch) (hst : l.stackTraces = false) (Ls : Int) (xs : Int → Int) : am_sta l (qxL_19 Ls xs) RL 40 cL_law := ⟨qkL_19_ok, layL_ok, qfL_ok, qcL_ok, qlL_ok, am_mthP qmL_ok (by decide), fun k e1 h => (qyL_19 l hst k e1 h).1⟩
set_option maxRecDepth 20000 in
theorem qvL_19 (Ls : Int) (xs : Int → Int) (F : FF) (A : AA) (i : Int) (hx : ∀ j, -2147483648 ≤ xs j ∧ xs j < 2147483648) (hL : Ls ≤ 3072) (i0 : 0 ≤ i) (i1 : i + 6 ≤ Ls) (hR : REL F A) : am_stp (qxL_19 Ls xs) (am_run (qxL_19 Ls xs) lawC (lawI i) lawK 56) lawK 1269 [some (vR 999), some (vR 0), some (vR 25), some (vR 43), some (vI i), none, none, none] [] F A 0 := by
  have hb : ∀ k : Int, 0 ≤ k → k ≤ 5 → 0 ≤ w32 (i + k) ∧ w32 (i + k) < Ls := fun k k0 k1 => by rw [w32_id (by omega) (by omega)]; omega
  have hR1 : ∀ v, REL F (upA A 43 (w32 0) v) := fun v => rel_up hR
  have em : ∀ v, mF (upA A 43 (w32 0) v) = A 2 := fun v => (hR1 v).1.1.symm.trans (upA_r (by decide))
  have e0 : mF A = A 2 := hR.1.1.symm
  show (0 ≤ w32 (i + 1) ∧ w32 (i + 1) < Ls) ∧ ((0 ≤ w32 (i + 2) ∧ w32 (i + 2) < Ls) ∧ ((0 ≤ w32 (i + 3) ∧ w32 (i + 3) < Ls) ∧ ((fgOK (A 2) ∧ (-2147483648 ≤ (xs (w32 (i + 1))) ∧ (xs (w32 (i + 1))) < 2147483648) ∧ (-2147483648 ≤ (xs (w32 (i + 2))) ∧ (xs (w32 (i + 2))) < 2147483648) ∧ (-2147483648 ≤ (xs (w32 (i + 3))) ∧ (xs (w32 (i + 3))) < 2147483648)) ∧ (((0 ≤ (xs (w32 (i + 1))) ∧ (xs (w32 (i + 1))) < A 2 0) ∧ 0 ≤ (xs (w32 (i + 2))) ∧ (xs (w32 (i + 2))) < A 2 1 → ((0 ≤ w32 (i + 1) ∧ w32 (i + 1) < Ls) ∧ ((0 ≤ w32 (i + 2) ∧ w32 (i + 2) < Ls) ∧ ((0 ≤ w32 (i + 3) ∧ w32 (i + 3) < Ls) ∧ ((fgOK (mF (upA A 43 (w32 0) (w32 (if 0 ≤ (xs (w32 (i + 3))) ∧ (xs (w32 (i + 3))) < A 2 (18 + (xs (w32 (i + 1)))) then cfR (A 2) (xs (w32 (i + 1))) (xs (w32 (i + 2))) (xs (w32 (i + 3))) else -100000)))) ∧ (-2147483648 ≤ (xs (w32 (i + 1))) ∧ (xs (w32 (i + 1))) < 2147483648) ∧ (-2147483648 ≤ (xs (w32 (i + 2))) ∧ (xs (w32 (i + 2))) < 2147483648) ∧ (-2147483648 ≤ (xs (w32 (i + 3))) ∧ (xs (w32 (i + 3))) < 2147483648)) ∧ (∀ (G_1 : FF) (B_1 : AA), (qdP F G_1 (upA A 43 (w32 0) (w32 (if 0 ≤ (xs (w32 (i + 3))) ∧ (xs (w32 (i + 3))) < A 2 (18 + (xs (w32 (i + 1)))) then cfR (A 2) (xs (w32 (i + 1))) (xs (w32 (i + 2))) (xs (w32 (i + 3))) else -100000))) B_1 ∧ G_1 25 0 = (if (0 ≤ (xs (w32 (i + 1))) ∧ (xs (w32 (i + 1))) < mF (upA A 43 (w32 0) (w32 (if 0 ≤ (xs (w32 (i + 3))) ∧ (xs (w32 (i + 3))) < A 2 (18 + (xs (w32 (i + 1)))) then cfR (A 2) (xs (w32 (i + 1))) (xs (w32 (i + 2))) (xs (w32 (i + 3))) else -100000))) 0) ∧ 0 ≤ (xs (w32 (i + 2))) ∧ (xs (w32 (i + 2))) < mF (upA A 43 (w32 0) (w32 (if 0 ≤ (xs (w32 (i + 3))) ∧ (xs (w32 (i + 3))) < A 2 (18 + (xs (w32 (i + 1)))) then cfR (A 2) (xs (w32 (i + 1))) (xs (w32 (i + 2))) (xs (w32 (i + 3))) else -100000))) 1 then 0 else 1)) → ((w32 (G_1 25 0) = w32 0 → ((w32 0 = w32 0 → ((0 ≤ w32 0 ∧ w32 0 < 1) ∧ ((w32 (y_cmp (B_1 43 (w32 0)) (w32 (if (0 ≤ (xs (w32 (i + 1))) ∧ (xs (w32 (i + 1))) < mF (upA A 43 (w32 0) (w32 (if 0 ≤ (xs (w32 (i + 3))) ∧ (xs (w32 (i + 3))) < A 2 (18 + (xs (w32 (i + 1)))) then cfR (A 2) (xs (w32 (i + 1))) (xs (w32 (i + 2))) (xs (w32 (i + 3))) else -100000))) 0) ∧ 0 ≤ (xs (w32 (i + 2))) ∧ (xs (w32 (i + 2))) < mF (upA A 43 (w32 0) (w32 (if 0 ≤ (xs (w32 (i + 3))) ∧ (xs (w32 (i + 3))) < A 2 (18 + (xs (w32 (i + 1)))) then cfR (A 2) (xs (w32 (i + 1))) (xs (w32 (i + 2))) (xs (w32 (i + 3))) else -100000))) 1 then (if 0 ≤ (xs (w32 (i + 3))) ∧ (xs (w32 (i + 3))) < mF (upA A 43 (w32 0) (w32 (if 0 ≤ (xs (w32 (i + 3))) ∧ (xs (w32 (i + 3))) < A 2 (18 + (xs (w32 (i + 1)))) then cfR (A 2) (xs (w32 (i + 1))) (xs (w32 (i + 2))) (xs (w32 (i + 3))) else -100000))) (18 + (xs (w32 (i + 1)))) then cfR (mF (upA A 43 (w32 0) (w32 (if 0 ≤ (xs (w32 (i + 3))) ∧ (xs (w32 (i + 3))) < A 2 (18 + (xs (w32 (i + 1)))) then cfR (A 2) (xs (w32 (i + 1))) (xs (w32 (i + 2))) (xs (w32 (i + 3))) else -100000)))) (xs (w32 (i + 1))) (xs (w32 (i + 2))) (xs (w32 (i + 3))) else -100000) else 0))) = w32 0 → ((999 : Nat) = 999 ∧ (0 : Nat) = 0 ∧ (25 : Nat) = 25 ∧ (43 : Nat) = 43 ∧ i + 6 = i + 6 ∧ REL G_1 B_1 ∧ (2 : Nat) ≤ 2)) ∧ (¬ (w32 (y_cmp (B_1 43 (w32 0)) (w32 (if (0 ≤ (xs (w32 (i + 1))) ∧ (xs (w32 (i + 1))) < mF (upA A 43 (w32 0) (w32 (if 0 ≤ (xs (w32 (i + 3))) ∧ (xs (w32 (i + 3))) < A 2 (18 + (xs (w32 (i + 1)))) then cfR (A 2) (xs (w32 (i + 1))) (xs (w32 (i + 2))) (xs (w32 (i + 3))) else -100000))) 0) ∧ 0 ≤ (xs (w32 (i + 2))) ∧ (xs (w32 (i + 2))) < mF (upA A 43 (w32 0) (w32 (if 0 ≤ (xs (w32 (i + 3))) ∧ (xs (w32 (i + 3))) < A 2 (18 + (xs (w32 (i + 1)))) then cfR (A 2) (xs (w32 (i + 1))) (xs (w32 (i + 2))) (xs (w32 (i + 3))) else -100000))) 1 then (if 0 ≤ (xs (w32 (i + 3))) ∧ (xs (w32 (i + 3))) < mF (upA A 43 (w32 0) (w32 (if 0 ≤ (xs (w32 (i + 3))) ∧ (xs (w32 (i + 3))) < A 2 (18 + (xs (w32 (i + 1)))) then cfR (A 2) (xs (w32 (i + 1))) (xs (w32 (i + 2))) (xs (w32 (i + 3))) else -100000))) (18 + (xs (w32 (i + 1)))) then cfR (mF (upA A 43 (w32 0) (w32 (if 0 ≤ (xs (w32 (i + 3))) ∧ (xs (w32 (i + 3))) < A 2 (18 + (xs (w32 (i + 1)))) then cfR (A 2) (xs (w32 (i + 1))) (xs (w32 (i + 2))) (xs (w32 (i + 3))) else -100000)))) (xs (w32 (i + 1))) (xs (w32 (i + 2))) (xs (w32 (i + 3))) else -100000) else 0))) = w32 0) → (((0 : Int) = 0 ∨ (0 : Int) = 1) ∧ (lawK (some (some (vI 0))) G_1 B_1)))))) ∧ (¬ w32 0 = w32 0 → _))) ∧ (¬ w32 (G_1 25 0) = w32 0 → (((0 : Int) = 0 ∨ (0 : Int) = 1) ∧ (lawK (some (some (vI 0))) G_1 B_1)))))))))) ∧ (¬ ((0 ≤ (xs (w32 (i + 1))) ∧ (xs (w32 (i + 1))) < A 2 0) ∧ 0 ≤ (xs (w32 (i + 2))) ∧ (xs (w32 (i + 2))) < A 2 1) → ((0 ≤ w32 (i + 1) ∧ w32 (i + 1) < Ls) ∧ ((0 ≤ w32 (i + 2) ∧ w32 (i + 2) < Ls) ∧ ((0 ≤ w32 (i + 3) ∧ w32 (i + 3) < Ls) ∧ ((fgOK (mF A) ∧ (-2147483648 ≤ (xs (w32 (i + 1))) ∧ (xs (w32 (i + 1))) < 2147483648) ∧ (-2147483648 ≤ (xs (w32 (i + 2))) ∧ (xs (w32 (i + 2))) < 2147483648) ∧ (-2147483648 ≤ (xs (w32 (i + 3))) ∧ (xs (w32 (i + 3))) < 2147483648)) ∧ (∀ (G_1 : FF) (B_1 : AA), (qdP F G_1 A B_1 ∧ G_1 25 0 = (if (0 ≤ (xs (w32 (i + 1))) ∧ (xs (w32 (i + 1))) < mF A 0) ∧ 0 ≤ (xs (w32 (i + 2))) ∧ (xs (w32 (i + 2))) < mF A 1 then 0 else 1)) → ((w32 (G_1 25 0) = w32 1 → ((w32 1 = w32 0 → _) ∧ (¬ w32 1 = w32 0 → ((999 : Nat) = 999 ∧ (0 : Nat) = 0 ∧ (25 : Nat) = 25 ∧ (43 : Nat) = 43 ∧ i + 6 = i + 6 ∧ REL G_1 B_1 ∧ (2 : Nat) ≤ 2)))) ∧ (¬ w32 (G_1 25 0) = w32 1 → (((0 : Int) = 0 ∨ (0 : Int) = 1) ∧ (lawK (some (some (vI 0))) G_1 B_1))))))))))))))
  refine ⟨by exact hb 1 (by decide) (by decide), ?_⟩
  refine ⟨by exact hb 2 (by decide) (by decide), ?_⟩
  refine ⟨by exact hb 3 (by decide) (by decide), ?_⟩
  refine ⟨by exact ⟨rel_f hR, hx _, hx _, hx _⟩, ?_⟩
  refine ⟨fun c1 => ?_, fun c1 => ?_⟩
  · skip
    skip
    refine ⟨by exact hb 1 (by decide) (by decide), ?_⟩
    refine ⟨by exact hb 2 (by decide) (by decide), ?_⟩
    refine ⟨by exact hb 3 (by decide) (by decide), ?_⟩
    refine ⟨by exact ⟨rel_m (hR1 _), hx _, hx _, hx _⟩, ?_⟩
    intro G_1 B_1 g1
    have hR2 := rel_qd (hR1 _) g1.1
    have t2 : G_1 25 0 = 0 := by
      have w := g1.2
      rw [em] at w
      exact w.trans (if_pos c1)
    have v2 := (g1.1.2 43 (w32 0) (by decide)).trans upA_s
    refine ⟨fun c2 => ?_, fun c2 => ?_⟩
    · skip
      skip
      refine ⟨fun _ => ?_, fun q => absurd (by decide) q⟩
      refine ⟨by decide, ?_⟩
      refine ⟨fun c3 => ?_, fun c3 => ?_⟩
      · skip
        skip
        exact ⟨rfl, rfl, rfl, rfl, rfl, hR2, by decide⟩
      · skip
        skip
        refine ⟨by decide, ?_⟩
        exact absurd (law_e v2 (by rw [em, if_pos c1])) c3
    · skip
      skip
      refine ⟨by decide, ?_⟩
      exact absurd (by rw [t2]) c2
  · skip
    skip
    refine ⟨by exact hb 1 (by decide) (by decide), ?_⟩
    refine ⟨by exact hb 2 (by decide) (by decide), ?_⟩
    refine ⟨by exact hb 3 (by decide) (by decide), ?_⟩
    refine ⟨by exact ⟨rel_m hR, hx _, hx _, hx _⟩, ?_⟩
    intro G_1 B_1 g1
    have hR2 := rel_qd hR g1.1
    have t2 : G_1 25 0 = 1 := by
      have w := g1.2
      rw [e0] at w
      exact w.trans (if_neg c1)
    refine ⟨fun c2 => ?_, fun c2 => ?_⟩
    · skip
      skip
      refine ⟨fun q => absurd q (by decide), fun _ => ?_⟩
      exact ⟨rfl, rfl, rfl, rfl, rfl, hR2, by decide⟩
    · skip
      skip
      refine ⟨by decide, ?_⟩
      exact absurd (by rw [t2]) c2
def qkL_20 : Nat → Option CI := fun pc => cond (Nat.ble 3593 pc) none (cond (Nat.ble 1391 pc) (cond (Nat.ble 1416 pc) (cond (Nat.ble 1429 pc) (cond (Nat.ble 1436 pc) (cond (Nat.ble 1438 pc) (cond (Nat.beq pc 1438) (some (.goto 2151, 1441, [3589])) (cond (Nat.beq pc 3589) (some (.iinc 4 6, 3592, [])) (cond (Nat.beq pc 3592) (some (.goto (-3569), 3595, [23])) (none)))) (cond (Nat.beq pc 1436) (some (.iconst 0, 1437, [])) (cond (Nat.beq pc 1437) (some (.ireturn, 1438, [])) (none)))) (cond (Nat.ble 1432 pc) (cond (Nat.beq pc 1432) (some (.lcmp, 1433, [])) (cond (Nat.beq pc 1433) (some (.ifCond .eq 5, 1436, [1438])) (none))) (cond (Nat.beq pc 1429) (some (.iload 6, 1431, [])) (cond (Nat.beq pc 1431) (some (.i2l, 1432, [])) (none))))) (cond (Nat.ble 1423 pc) (cond (Nat.ble 1427 pc) (cond (Nat.beq pc 1427) (some (.iconst 0, 1428, [])) (cond (Nat.beq pc 1428) (some (.laload, 1429, [])) (none))) (cond (Nat.beq pc 1423) (some (.ifCond .ne 15, 1426, [1438])) (cond (Nat.beq pc 1426) (some (.aload_n 3, 1427, [])) (none)))) (cond (Nat.ble 1420 pc) (cond (Nat.beq pc 1420) (some (.ireturn, 1421, [])) (cond (Nat.beq pc 1421) (some (.iload 5, 1423, [])) (none))) (cond (Nat.beq pc 1416) (some (.if_icmp .eq 5, 1419, [1421])) (cond (Nat.beq pc 1419) (some (.iconst 0, 1420, [])) (none)))))) (cond (Nat.ble 1400 pc) (cond (Nat.ble 1405 pc) (cond (Nat.ble 1410 pc) (cond (Nat.beq pc 1410) (some (.aload_n 2, 1411, [])) (cond (Nat.beq pc 1411) (some (.invokevirtual 175, 1414, [])) (cond (Nat.beq pc 1414) (some (.iload 5, 1416, [])) (none)))) (cond (Nat.beq pc 1405) (some (.invokevirtual 214, 1408, [])) (cond (Nat.beq pc 1408) (some (.istore 6, 1410, [])) (none)))) (cond (Nat.ble 1403 pc) (cond (Nat.beq pc 1403) (some (.iadd, 1404, [])) (cond (Nat.beq pc 1404) (some (.iaload, 1405, [])) (none))) (cond (Nat.beq pc 1400) (some (.iload 4, 1402, [])) (cond (Nat.beq pc 1402) (some (.iconst 4, 1403, [])) (none))))) (cond (Nat.ble 1396 pc) (cond (Nat.ble 1398 pc) (cond (Nat.beq pc 1398) (some (.iaload, 1399, [])) (cond (Nat.beq pc 1399) (some (.aload_n 0, 1400, [])) (none))) (cond (Nat.beq pc 1396) (some (.iconst 3, 1397, [])) (cond (Nat.beq pc 1397) (some (.iadd, 1398, [])) (none)))) (cond (Nat.ble 1393 pc) (cond (Nat.beq pc 1393) (some (.aload_n 0, 1394, [])) (cond (Nat.beq pc 1394) (some (.iload 4, 1396, [])) (none))) (cond (Nat.beq pc 1391) (some (.iadd, 1392, [])) (cond (Nat.beq pc 1392) (some (.iaload, 1393, [])) (none))))))) (cond (Nat.ble 1368 pc) (cond (Nat.ble 1380 pc) (cond (Nat.ble 1385 pc) (cond (Nat.ble 1387 pc) (cond (Nat.beq pc 1387) (some (.aload_n 0, 1388, [])) (cond (Nat.beq pc 1388) (some (.iload 4, 1390, [])) (cond (Nat.beq pc 1390) (some (.iconst 2, 1391, [])) (none)))) (cond (Nat.beq pc 1385) (some (.iadd, 1386, [])) (cond (Nat.beq pc 1386) (some (.iaload, 1387, [])) (none)))) (cond (Nat.ble 1382 pc) (cond (Nat.beq pc 1382) (some (.iload 4, 1384, [])) (cond (Nat.beq pc 1384) (some (.iconst 1, 1385, [])) (none))) (cond (Nat.beq pc 1380) (some (.aload_n 2, 1381, [])) (cond (Nat.beq pc 1381) (some (.aload_n 0, 1382, [])) (none))))) (cond (Nat.ble 1373 pc) (cond (Nat.ble 1375 pc) (cond (Nat.beq pc 1375) (some (.invokestatic 212, 1378, [])) (cond (Nat.beq pc 1378) (some (.istore 5, 1380, [])) (none))) (cond (Nat.beq pc 1373) (some (.iaload, 1374, [])) (cond (Nat.beq pc 1374) (some (.aload_n 3, 1375, [])) (none)))) (cond (Nat.ble 1371 pc) (cond (Nat.beq pc 1371) (some (.iconst 4, 1372, [])) (cond (Nat.beq pc 1372) (some (.iadd, 1373, [])) (none))) (cond (Nat.beq pc 1368) (some (.aload_n 0, 1369, [])) (cond (Nat.beq pc 1369) (some (.iload 4, 1371, [])) (none)))))) (cond (Nat.ble 1359 pc) (cond (Nat.ble 1363 pc) (cond (Nat.ble 1366 pc) (cond (Nat.beq pc 1366) (some (.iadd, 1367, [])) (cond (Nat.beq pc 1367) (some (.iaload, 1368, [])) (none))) (cond (Nat.beq pc 1363) (some (.iload 4, 1365, [])) (cond (Nat.beq pc 1365) (some (.iconst 3, 1366, [])) (none)))) (cond (Nat.ble 1361 pc) (cond (Nat.beq pc 1361) (some (.iaload, 1362, [])) (cond (Nat.beq pc 1362) (some (.aload_n 0, 1363, [])) (none))) (cond (Nat.beq pc 1359) (some (.iconst 2, 1360, [])) (cond (Nat.beq pc 1360) (some (.iadd, 1361, [])) (none))))) (cond (Nat.ble 1354 pc) (cond (Nat.ble 1356 pc) (cond (Nat.beq pc 1356) (some (.aload_n 0, 1357, [])) (cond (Nat.beq pc 1357) (some (.iload 4, 1359, [])) (none))) (cond (Nat.beq pc 1354) (some (.iadd, 1355, [])) (cond (Nat.beq pc 1355) (some (.iaload, 1356, [])) (none)))) (cond (Nat.ble 1351 pc) (cond (Nat.beq pc 1351) (some (.iload 4, 1353, [])) (cond (Nat.beq pc 1353) (some (.iconst 1, 1354, [])) (none))) (cond (Nat.beq pc 1349) (some (.aload_n 1, 1350, [])) (cond (Nat.beq pc 1350) (some (.aload_n 0, 1351, [])) (none))))))))
theorem qkL_20_ok : ∀ pc i nx ts, qkL_20 pc = some (i, nx, ts) → am_cok cL_law pc (i, nx, ts) = true := fun pc i nx ts h => am_tok_ok (n := 3593) (by decide +kernel) (fun pc h => by show cond (Nat.ble 3593 pc) _ _ = _; rw [Nat.ble_eq_true_of_le h]; rfl) h
def qaL_20 : Nat → Option CE := fun k => cond (Nat.beq k 212) (some qeL_signChanges) (cond (Nat.beq k 214) (some qeX9_signChanges) (cond (Nat.beq k 175) (some qeX9_thrown) (none)))
theorem qyL_20 (l : Launch) (hst : l.stackTraces = false) : ∀ k e1, qaL_20 k = some e1 → am_cal l layL RL 40 k e1 ∧ True := q_cons ⟨am_calS (qtL_signChanges l hst) qbL_signChanges (by decide) rfl (by decide) (am_tb_at 1041 (by decide +kernel) rfl), trivial⟩ (q_cons ⟨am_calV (ci := 9) (am_CT_mono layM_L (qtX9_signChanges l)) qbX9_signChanges (by decide) rfl (am_tb_at 1783 (by decide +kernel) rfl), trivial⟩ (q_cons ⟨am_calV (ci := 9) (am_CT_mono layM_L (qtX9_thrown l)) qbX9_thrown (by decide) rfl (am_tb_at 1481 (by decide +kernel) rfl), trivial⟩ (q_nil)))
def qxL_20 (Ls : Int) (xs : Int → Int) : CX := (qkL_20, layL, qfL, qaL_20, qcL, qlL, qmL, some .boolean, false, none, 2, some (Ls, xs), fun _ => none)
theorem qzL_20 (l : Launch) (hst : l.stackTraces = false) (Ls : Int) (xs : Int → Int) : am_sta l (qxL_20 Ls xs) RL 40 cL_law := ⟨qkL_20_ok, layL_ok, qfL_ok, qcL_ok, qlL_ok, am_mthP qmL_ok (by decide), fun k e1 h => (qyL_20 l hst k e1 h).1⟩
set_option maxRecDepth 20000 in
theorem qvL_20 (Ls : Int) (xs : Int → Int) (F : FF) (A : AA) (i : Int) (hx : ∀ j, -2147483648 ≤ xs j ∧ xs j < 2147483648) (hL : Ls ≤ 3072) (i0 : 0 ≤ i) (i1 : i + 6 ≤ Ls) (hR : REL F A) : am_stp (qxL_20 Ls xs) (am_run (qxL_20 Ls xs) lawC (lawI i) lawK 66) lawK 1349 [some (vR 999), some (vR 0), some (vR 25), some (vR 43), some (vI i), none, none, none] [] F A 0 := by
  have hb : ∀ k : Int, 0 ≤ k → k ≤ 5 → 0 ≤ w32 (i + k) ∧ w32 (i + k) < Ls := fun k k0 k1 => by rw [w32_id (by omega) (by omega)]; omega
  have e0 : mF A = A 2 := hR.1.1.symm
  show (0 ≤ w32 (i + 1) ∧ w32 (i + 1) < Ls) ∧ ((0 ≤ w32 (i + 2) ∧ w32 (i + 2) < Ls) ∧ ((0 ≤ w32 (i + 3) ∧ w32 (i + 3) < Ls) ∧ ((0 ≤ w32 (i + 4) ∧ w32 (i + 4) < Ls) ∧ ((fgOK (A 2) ∧ (-2147483648 ≤ (xs (w32 (i + 1))) ∧ (xs (w32 (i + 1))) < 2147483648) ∧ (-2147483648 ≤ (xs (w32 (i + 2))) ∧ (xs (w32 (i + 2))) < 2147483648) ∧ (-2147483648 ≤ (xs (w32 (i + 3))) ∧ (xs (w32 (i + 3))) < 2147483648) ∧ (-2147483648 ≤ (xs (w32 (i + 4))) ∧ (xs (w32 (i + 4))) < 2147483648)) ∧ (((0 ≤ (xs (w32 (i + 1))) ∧ (xs (w32 (i + 1))) < A 2 0) ∧ 0 ≤ (xs (w32 (i + 2))) ∧ (xs (w32 (i + 2))) < A 2 1 → (∀ (G_1 : FF) (B_1 : AA), (qrP F G_1 A B_1) → ((0 ≤ w32 (i + 1) ∧ w32 (i + 1) < Ls) ∧ ((0 ≤ w32 (i + 2) ∧ w32 (i + 2) < Ls) ∧ ((0 ≤ w32 (i + 3) ∧ w32 (i + 3) < Ls) ∧ ((0 ≤ w32 (i + 4) ∧ w32 (i + 4) < Ls) ∧ ((fgOK (mF (upA B_1 43 (w32 0) (w32 (if 0 ≤ (xs (w32 (i + 3))) ∧ (xs (w32 (i + 3))) ≤ 12 ∧ 0 ≤ (xs (w32 (i + 4))) ∧ (xs (w32 (i + 4))) < p2 (xs (w32 (i + 3))) then chg (cellF (cfL (A 2) (xs (w32 (i + 1))) (xs (w32 (i + 2)))) (A 2 (18 + (xs (w32 (i + 1)))) - 1) (Int.toNat (xs (w32 (i + 3)))) (xs (w32 (i + 4)))) (Int.toNat (A 2 (18 + (xs (w32 (i + 1)))))) else -1)))) ∧ (-2147483648 ≤ (xs (w32 (i + 1))) ∧ (xs (w32 (i + 1))) < 2147483648) ∧ (-2147483648 ≤ (xs (w32 (i + 2))) ∧ (xs (w32 (i + 2))) < 2147483648) ∧ (-2147483648 ≤ (xs (w32 (i + 3))) ∧ (xs (w32 (i + 3))) < 2147483648) ∧ (-2147483648 ≤ (xs (w32 (i + 4))) ∧ (xs (w32 (i + 4))) < 2147483648)) ∧ (∀ (G_2 : FF) (B_2 : AA), (qdP G_1 G_2 (upA B_1 43 (w32 0) (w32 (if 0 ≤ (xs (w32 (i + 3))) ∧ (xs (w32 (i + 3))) ≤ 12 ∧ 0 ≤ (xs (w32 (i + 4))) ∧ (xs (w32 (i + 4))) < p2 (xs (w32 (i + 3))) then chg (cellF (cfL (A 2) (xs (w32 (i + 1))) (xs (w32 (i + 2)))) (A 2 (18 + (xs (w32 (i + 1)))) - 1) (Int.toNat (xs (w32 (i + 3)))) (xs (w32 (i + 4)))) (Int.toNat (A 2 (18 + (xs (w32 (i + 1)))))) else -1))) B_2 ∧ G_2 25 0 = (if (0 ≤ (xs (w32 (i + 1))) ∧ (xs (w32 (i + 1))) < mF (upA B_1 43 (w32 0) (w32 (if 0 ≤ (xs (w32 (i + 3))) ∧ (xs (w32 (i + 3))) ≤ 12 ∧ 0 ≤ (xs (w32 (i + 4))) ∧ (xs (w32 (i + 4))) < p2 (xs (w32 (i + 3))) then chg (cellF (cfL (A 2) (xs (w32 (i + 1))) (xs (w32 (i + 2)))) (A 2 (18 + (xs (w32 (i + 1)))) - 1) (Int.toNat (xs (w32 (i + 3)))) (xs (w32 (i + 4)))) (Int.toNat (A 2 (18 + (xs (w32 (i + 1)))))) else -1))) 0) ∧ 0 ≤ (xs (w32 (i + 2))) ∧ (xs (w32 (i + 2))) < mF (upA B_1 43 (w32 0) (w32 (if 0 ≤ (xs (w32 (i + 3))) ∧ (xs (w32 (i + 3))) ≤ 12 ∧ 0 ≤ (xs (w32 (i + 4))) ∧ (xs (w32 (i + 4))) < p2 (xs (w32 (i + 3))) then chg (cellF (cfL (A 2) (xs (w32 (i + 1))) (xs (w32 (i + 2)))) (A 2 (18 + (xs (w32 (i + 1)))) - 1) (Int.toNat (xs (w32 (i + 3)))) (xs (w32 (i + 4)))) (Int.toNat (A 2 (18 + (xs (w32 (i + 1)))))) else -1))) 1 then 0 else 1)) → ((w32 (G_2 25 0) = w32 0 → ((w32 0 = w32 0 → ((0 ≤ w32 0 ∧ w32 0 < 1) ∧ ((w32 (y_cmp (B_2 43 (w32 0)) (w32 (if (0 ≤ (xs (w32 (i + 1))) ∧ (xs (w32 (i + 1))) < mF (upA B_1 43 (w32 0) (w32 (if 0 ≤ (xs (w32 (i + 3))) ∧ (xs (w32 (i + 3))) ≤ 12 ∧ 0 ≤ (xs (w32 (i + 4))) ∧ (xs (w32 (i + 4))) < p2 (xs (w32 (i + 3))) then chg (cellF (cfL (A 2) (xs (w32 (i + 1))) (xs (w32 (i + 2)))) (A 2 (18 + (xs (w32 (i + 1)))) - 1) (Int.toNat (xs (w32 (i + 3)))) (xs (w32 (i + 4)))) (Int.toNat (A 2 (18 + (xs (w32 (i + 1)))))) else -1))) 0) ∧ 0 ≤ (xs (w32 (i + 2))) ∧ (xs (w32 (i + 2))) < mF (upA B_1 43 (w32 0) (w32 (if 0 ≤ (xs (w32 (i + 3))) ∧ (xs (w32 (i + 3))) ≤ 12 ∧ 0 ≤ (xs (w32 (i + 4))) ∧ (xs (w32 (i + 4))) < p2 (xs (w32 (i + 3))) then chg (cellF (cfL (A 2) (xs (w32 (i + 1))) (xs (w32 (i + 2)))) (A 2 (18 + (xs (w32 (i + 1)))) - 1) (Int.toNat (xs (w32 (i + 3)))) (xs (w32 (i + 4)))) (Int.toNat (A 2 (18 + (xs (w32 (i + 1)))))) else -1))) 1 then (if 0 ≤ (xs (w32 (i + 3))) ∧ (xs (w32 (i + 3))) ≤ 12 ∧ 0 ≤ (xs (w32 (i + 4))) ∧ (xs (w32 (i + 4))) < p2 (xs (w32 (i + 3))) then chg (cellF (cfL (mF (upA B_1 43 (w32 0) (w32 (if 0 ≤ (xs (w32 (i + 3))) ∧ (xs (w32 (i + 3))) ≤ 12 ∧ 0 ≤ (xs (w32 (i + 4))) ∧ (xs (w32 (i + 4))) < p2 (xs (w32 (i + 3))) then chg (cellF (cfL (A 2) (xs (w32 (i + 1))) (xs (w32 (i + 2)))) (A 2 (18 + (xs (w32 (i + 1)))) - 1) (Int.toNat (xs (w32 (i + 3)))) (xs (w32 (i + 4)))) (Int.toNat (A 2 (18 + (xs (w32 (i + 1)))))) else -1)))) (xs (w32 (i + 1))) (xs (w32 (i + 2)))) (mF (upA B_1 43 (w32 0) (w32 (if 0 ≤ (xs (w32 (i + 3))) ∧ (xs (w32 (i + 3))) ≤ 12 ∧ 0 ≤ (xs (w32 (i + 4))) ∧ (xs (w32 (i + 4))) < p2 (xs (w32 (i + 3))) then chg (cellF (cfL (A 2) (xs (w32 (i + 1))) (xs (w32 (i + 2)))) (A 2 (18 + (xs (w32 (i + 1)))) - 1) (Int.toNat (xs (w32 (i + 3)))) (xs (w32 (i + 4)))) (Int.toNat (A 2 (18 + (xs (w32 (i + 1)))))) else -1))) (18 + (xs (w32 (i + 1)))) - 1) (Int.toNat (xs (w32 (i + 3)))) (xs (w32 (i + 4)))) (Int.toNat (mF (upA B_1 43 (w32 0) (w32 (if 0 ≤ (xs (w32 (i + 3))) ∧ (xs (w32 (i + 3))) ≤ 12 ∧ 0 ≤ (xs (w32 (i + 4))) ∧ (xs (w32 (i + 4))) < p2 (xs (w32 (i + 3))) then chg (cellF (cfL (A 2) (xs (w32 (i + 1))) (xs (w32 (i + 2)))) (A 2 (18 + (xs (w32 (i + 1)))) - 1) (Int.toNat (xs (w32 (i + 3)))) (xs (w32 (i + 4)))) (Int.toNat (A 2 (18 + (xs (w32 (i + 1)))))) else -1))) (18 + (xs (w32 (i + 1)))))) else -1) else 0))) = w32 0 → ((999 : Nat) = 999 ∧ (0 : Nat) = 0 ∧ (25 : Nat) = 25 ∧ (43 : Nat) = 43 ∧ i + 6 = i + 6 ∧ REL G_2 B_2 ∧ (2 : Nat) ≤ 2)) ∧ (¬ (w32 (y_cmp (B_2 43 (w32 0)) (w32 (if (0 ≤ (xs (w32 (i + 1))) ∧ (xs (w32 (i + 1))) < mF (upA B_1 43 (w32 0) (w32 (if 0 ≤ (xs (w32 (i + 3))) ∧ (xs (w32 (i + 3))) ≤ 12 ∧ 0 ≤ (xs (w32 (i + 4))) ∧ (xs (w32 (i + 4))) < p2 (xs (w32 (i + 3))) then chg (cellF (cfL (A 2) (xs (w32 (i + 1))) (xs (w32 (i + 2)))) (A 2 (18 + (xs (w32 (i + 1)))) - 1) (Int.toNat (xs (w32 (i + 3)))) (xs (w32 (i + 4)))) (Int.toNat (A 2 (18 + (xs (w32 (i + 1)))))) else -1))) 0) ∧ 0 ≤ (xs (w32 (i + 2))) ∧ (xs (w32 (i + 2))) < mF (upA B_1 43 (w32 0) (w32 (if 0 ≤ (xs (w32 (i + 3))) ∧ (xs (w32 (i + 3))) ≤ 12 ∧ 0 ≤ (xs (w32 (i + 4))) ∧ (xs (w32 (i + 4))) < p2 (xs (w32 (i + 3))) then chg (cellF (cfL (A 2) (xs (w32 (i + 1))) (xs (w32 (i + 2)))) (A 2 (18 + (xs (w32 (i + 1)))) - 1) (Int.toNat (xs (w32 (i + 3)))) (xs (w32 (i + 4)))) (Int.toNat (A 2 (18 + (xs (w32 (i + 1)))))) else -1))) 1 then (if 0 ≤ (xs (w32 (i + 3))) ∧ (xs (w32 (i + 3))) ≤ 12 ∧ 0 ≤ (xs (w32 (i + 4))) ∧ (xs (w32 (i + 4))) < p2 (xs (w32 (i + 3))) then chg (cellF (cfL (mF (upA B_1 43 (w32 0) (w32 (if 0 ≤ (xs (w32 (i + 3))) ∧ (xs (w32 (i + 3))) ≤ 12 ∧ 0 ≤ (xs (w32 (i + 4))) ∧ (xs (w32 (i + 4))) < p2 (xs (w32 (i + 3))) then chg (cellF (cfL (A 2) (xs (w32 (i + 1))) (xs (w32 (i + 2)))) (A 2 (18 + (xs (w32 (i + 1)))) - 1) (Int.toNat (xs (w32 (i + 3)))) (xs (w32 (i + 4)))) (Int.toNat (A 2 (18 + (xs (w32 (i + 1)))))) else -1)))) (xs (w32 (i + 1))) (xs (w32 (i + 2)))) (mF (upA B_1 43 (w32 0) (w32 (if 0 ≤ (xs (w32 (i + 3))) ∧ (xs (w32 (i + 3))) ≤ 12 ∧ 0 ≤ (xs (w32 (i + 4))) ∧ (xs (w32 (i + 4))) < p2 (xs (w32 (i + 3))) then chg (cellF (cfL (A 2) (xs (w32 (i + 1))) (xs (w32 (i + 2)))) (A 2 (18 + (xs (w32 (i + 1)))) - 1) (Int.toNat (xs (w32 (i + 3)))) (xs (w32 (i + 4)))) (Int.toNat (A 2 (18 + (xs (w32 (i + 1)))))) else -1))) (18 + (xs (w32 (i + 1)))) - 1) (Int.toNat (xs (w32 (i + 3)))) (xs (w32 (i + 4)))) (Int.toNat (mF (upA B_1 43 (w32 0) (w32 (if 0 ≤ (xs (w32 (i + 3))) ∧ (xs (w32 (i + 3))) ≤ 12 ∧ 0 ≤ (xs (w32 (i + 4))) ∧ (xs (w32 (i + 4))) < p2 (xs (w32 (i + 3))) then chg (cellF (cfL (A 2) (xs (w32 (i + 1))) (xs (w32 (i + 2)))) (A 2 (18 + (xs (w32 (i + 1)))) - 1) (Int.toNat (xs (w32 (i + 3)))) (xs (w32 (i + 4)))) (Int.toNat (A 2 (18 + (xs (w32 (i + 1)))))) else -1))) (18 + (xs (w32 (i + 1)))))) else -1) else 0))) = w32 0) → (((0 : Int) = 0 ∨ (0 : Int) = 1) ∧ (lawK (some (some (vI 0))) G_2 B_2)))))) ∧ (¬ w32 0 = w32 0 → _))) ∧ (¬ w32 (G_2 25 0) = w32 0 → (((0 : Int) = 0 ∨ (0 : Int) = 1) ∧ (lawK (some (some (vI 0))) G_2 B_2)))))))))))) ∧ (¬ ((0 ≤ (xs (w32 (i + 1))) ∧ (xs (w32 (i + 1))) < A 2 0) ∧ 0 ≤ (xs (w32 (i + 2))) ∧ (xs (w32 (i + 2))) < A 2 1) → ((0 ≤ w32 (i + 1) ∧ w32 (i + 1) < Ls) ∧ ((0 ≤ w32 (i + 2) ∧ w32 (i + 2) < Ls) ∧ ((0 ≤ w32 (i + 3) ∧ w32 (i + 3) < Ls) ∧ ((0 ≤ w32 (i + 4) ∧ w32 (i + 4) < Ls) ∧ ((fgOK (mF A) ∧ (-2147483648 ≤ (xs (w32 (i + 1))) ∧ (xs (w32 (i + 1))) < 2147483648) ∧ (-2147483648 ≤ (xs (w32 (i + 2))) ∧ (xs (w32 (i + 2))) < 2147483648) ∧ (-2147483648 ≤ (xs (w32 (i + 3))) ∧ (xs (w32 (i + 3))) < 2147483648) ∧ (-2147483648 ≤ (xs (w32 (i + 4))) ∧ (xs (w32 (i + 4))) < 2147483648)) ∧ (∀ (G_1 : FF) (B_1 : AA), (qdP F G_1 A B_1 ∧ G_1 25 0 = (if (0 ≤ (xs (w32 (i + 1))) ∧ (xs (w32 (i + 1))) < mF A 0) ∧ 0 ≤ (xs (w32 (i + 2))) ∧ (xs (w32 (i + 2))) < mF A 1 then 0 else 1)) → ((w32 (G_1 25 0) = w32 1 → ((w32 1 = w32 0 → _) ∧ (¬ w32 1 = w32 0 → ((999 : Nat) = 999 ∧ (0 : Nat) = 0 ∧ (25 : Nat) = 25 ∧ (43 : Nat) = 43 ∧ i + 6 = i + 6 ∧ REL G_1 B_1 ∧ (2 : Nat) ≤ 2)))) ∧ (¬ w32 (G_1 25 0) = w32 1 → (((0 : Int) = 0 ∨ (0 : Int) = 1) ∧ (lawK (some (some (vI 0))) G_1 B_1))))))))))))))))
  refine ⟨by exact hb 1 (by decide) (by decide), ?_⟩
  refine ⟨by exact hb 2 (by decide) (by decide), ?_⟩
  refine ⟨by exact hb 3 (by decide) (by decide), ?_⟩
  refine ⟨by exact hb 4 (by decide) (by decide), ?_⟩
  refine ⟨by exact ⟨rel_f hR, hx _, hx _, hx _, hx _⟩, ?_⟩
  refine ⟨fun c1 => ?_, fun c1 => ?_⟩
  · skip
    skip
    intro G_1 B_1 g1
    have hR1 : ∀ v, REL G_1 (upA B_1 43 (w32 0) v) := fun v => rel_up (rel_qr hR g1)
    have em : ∀ v, mF (upA B_1 43 (w32 0) v) = A 2 := fun v => (hR1 v).1.1.symm.trans ((upA_r (by decide)).trans (funext fun i => (g1).2.1 2 i (by decide)))
    refine ⟨by exact hb 1 (by decide) (by decide), ?_⟩
    refine ⟨by exact hb 2 (by decide) (by decide), ?_⟩
    refine ⟨by exact hb 3 (by decide) (by decide), ?_⟩
    refine ⟨by exact hb 4 (by decide) (by decide), ?_⟩
    refine ⟨by exact ⟨rel_m (hR1 _), hx _, hx _, hx _, hx _⟩, ?_⟩
    intro G_2 B_2 g2
    have hR2 := rel_qd (hR1 _) g2.1
    have t2 : G_2 25 0 = 0 := by
      have w := g2.2
      rw [em] at w
      exact w.trans (if_pos c1)
    have v2 := (g2.1.2 43 (w32 0) (by decide)).trans upA_s
    refine ⟨fun c2 => ?_, fun c2 => ?_⟩
    · skip
      skip
      refine ⟨fun _ => ?_, fun q => absurd (by decide) q⟩
      refine ⟨by decide, ?_⟩
      refine ⟨fun c3 => ?_, fun c3 => ?_⟩
      · skip
        skip
        exact ⟨rfl, rfl, rfl, rfl, rfl, hR2, by decide⟩
      · skip
        skip
        refine ⟨by decide, ?_⟩
        exact absurd (law_e v2 (by rw [em, if_pos c1])) c3
    · skip
      skip
      refine ⟨by decide, ?_⟩
      exact absurd (by rw [t2]) c2
  · skip
    skip
    refine ⟨by exact hb 1 (by decide) (by decide), ?_⟩
    refine ⟨by exact hb 2 (by decide) (by decide), ?_⟩
    refine ⟨by exact hb 3 (by decide) (by decide), ?_⟩
    refine ⟨by exact hb 4 (by decide) (by decide), ?_⟩
    refine ⟨by exact ⟨rel_m hR, hx _, hx _, hx _, hx _⟩, ?_⟩
    intro G_1 B_1 g1
    have hR2 := rel_qd hR g1.1
    have t2 : G_1 25 0 = 1 := by
      have w := g1.2
      rw [e0] at w
      exact w.trans (if_neg c1)
    refine ⟨fun c2 => ?_, fun c2 => ?_⟩
    · skip
      skip
      refine ⟨fun q => absurd q (by decide), fun _ => ?_⟩
      exact ⟨rfl, rfl, rfl, rfl, rfl, hR2, by decide⟩
    · skip
      skip
      refine ⟨by decide, ?_⟩
      exact absurd (by rw [t2]) c2
