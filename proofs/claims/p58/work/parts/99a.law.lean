/-! the law: its segments -/
def lawK : KK := fun o _ _ => o = some (some (vI 1))
def lw_cellB (nx : Nat) : BLK := fun rec _ ls st F A u => match st with
  | .inl k :: .inr (.inr o) :: r => cond (Nat.beq o 999 && Nat.ble (am_sum r) 8) ((0 ≤ k ∧ k < 1000) ∧ ∀ v : Int, (-2147483648 ≤ v ∧ v < 2147483648) → rec nx ls (vI v :: r) F A u) False
  | _ => False
def lw_cntB (v : Int) (nx : Nat) : BLK := fun rec _ ls st F A u => match st with
  | .inr (.inr o) :: r => cond (Nat.beq o 999 && Nat.ble (am_sum r) 8) (rec nx ls (vI v :: r) F A u) False
  | _ => False
/-- a call of a method with a contract over this world alone -/
def lw_cxB (e1 : CE) (mc nx : Nat) : BLK := fun rec _ ls st F A u => cond (Nat.ble (u + ceK e1) mc && Nat.ble (am_sum (st.drop (ceN e1))) 8 && Nat.ble (ceN e1) st.length) (ceS e1 (st.take (ceN e1)).reverse F A (fun o F' A' => match o with
    | some (some v) => rec nx ls (v :: st.drop (ceN e1)) F' A' (u + ceK e1)
    | _ => False)) False
theorem lwI_q {F G : FF} {A B : AA} {nC nL : Int} (h : lwI F A nC nL) (q : qW F G A B) : lwI G B nC nL := by
  obtain ⟨h1, h2, h3, h4, h5⟩ := h
  have e := qW_2 q
  refine ⟨by rw [e]; exact h1, ?_, q.2.2.1 h3, by rw [e]; exact h4, by rw [e]; exact h5⟩
  unfold hsOK at h2 ⊢
  rw [q.1 5 1 (by decide), q.1 5 2 (by decide)]; exact h2
def qkL_law : Nat → Option CI := fun pc => cond (Nat.ble 131 pc) none (cond (Nat.ble 58 pc) (cond (Nat.ble 93 pc) (cond (Nat.ble 112 pc) (cond (Nat.ble 120 pc) (cond (Nat.ble 126 pc) (cond (Nat.beq pc 126) (some (.goto (-113), 129, [13])) (cond (Nat.beq pc 129) (some (.iconst 1, 130, [])) (cond (Nat.beq pc 130) (some (.ireturn, 131, [])) (none)))) (cond (Nat.beq pc 120) (some (.invokestatic 247, 123, [])) (cond (Nat.beq pc 123) (some (.iinc 2 1, 126, [])) (none)))) (cond (Nat.ble 118 pc) (cond (Nat.beq pc 118) (some (.aload_n 1, 119, [])) (cond (Nat.beq pc 119) (some (.iload_n 3, 120, [])) (none))) (cond (Nat.beq pc 112) (some (.iinc 5 1, 115, [])) (cond (Nat.beq pc 115) (some (.goto (-43), 118, [72])) (none))))) (cond (Nat.ble 101 pc) (cond (Nat.ble 105 pc) (cond (Nat.beq pc 105) (some (.ireturn, 106, [])) (cond (Nat.beq pc 106) (some (.iinc 6 1, 109, [])) (cond (Nat.beq pc 109) (some (.goto (-25), 112, [84])) (none)))) (cond (Nat.beq pc 101) (some (.ifCond .ne 5, 104, [106])) (cond (Nat.beq pc 104) (some (.iconst 0, 105, [])) (none)))) (cond (Nat.ble 96 pc) (cond (Nat.beq pc 96) (some (.iload 6, 98, [])) (cond (Nat.beq pc 98) (some (.invokestatic 243, 101, [])) (none))) (cond (Nat.beq pc 93) (some (.aload_n 1, 94, [])) (cond (Nat.beq pc 94) (some (.iload 5, 96, [])) (none)))))) (cond (Nat.ble 74 pc) (cond (Nat.ble 82 pc) (cond (Nat.ble 86 pc) (cond (Nat.beq pc 86) (some (.aload_n 0, 87, [])) (cond (Nat.beq pc 87) (some (.invokestatic 86, 90, [])) (cond (Nat.beq pc 90) (some (.if_icmp .ge 22, 93, [112])) (none)))) (cond (Nat.beq pc 82) (some (.istore 6, 84, [])) (cond (Nat.beq pc 84) (some (.iload 6, 86, [])) (none)))) (cond (Nat.ble 78 pc) (cond (Nat.beq pc 78) (some (.if_icmp .ge 40, 81, [118])) (cond (Nat.beq pc 81) (some (.iconst 0, 82, [])) (none))) (cond (Nat.beq pc 74) (some (.aload_n 0, 75, [])) (cond (Nat.beq pc 75) (some (.invokestatic 68, 78, [])) (none))))) (cond (Nat.ble 68 pc) (cond (Nat.ble 70 pc) (cond (Nat.beq pc 70) (some (.istore 5, 72, [])) (cond (Nat.beq pc 72) (some (.iload 5, 74, [])) (none))) (cond (Nat.beq pc 68) (some (.ireturn, 69, [])) (cond (Nat.beq pc 69) (some (.iconst 0, 70, [])) (none)))) (cond (Nat.ble 64 pc) (cond (Nat.beq pc 64) (some (.ifCond .ne 5, 67, [69])) (cond (Nat.beq pc 67) (some (.iconst 0, 68, [])) (none))) (cond (Nat.beq pc 58) (some (.invokestatic 43, 61, [])) (cond (Nat.beq pc 61) (some (.invokestatic 239, 64, [])) (none))))))) (cond (Nat.ble 28 pc) (cond (Nat.ble 42 pc) (cond (Nat.ble 51 pc) (cond (Nat.ble 54 pc) (cond (Nat.beq pc 54) (some (.iconst 1, 55, [])) (cond (Nat.beq pc 55) (some (.iload 4, 57, [])) (cond (Nat.beq pc 57) (some (.ishl, 58, [])) (none)))) (cond (Nat.beq pc 51) (some (.bipush 64, 53, [])) (cond (Nat.beq pc 53) (some (.idiv, 54, [])) (none)))) (cond (Nat.ble 48 pc) (cond (Nat.beq pc 48) (some (.iload 4, 50, [])) (cond (Nat.beq pc 50) (some (.iload_n 3, 51, [])) (none))) (cond (Nat.beq pc 42) (some (.invokestatic 68, 45, [])) (cond (Nat.beq pc 45) (some (.invokestatic 43, 48, [])) (none))))) (cond (Nat.ble 34 pc) (cond (Nat.ble 39 pc) (cond (Nat.beq pc 39) (some (.aload_n 1, 40, [])) (cond (Nat.beq pc 40) (some (.iload_n 3, 41, [])) (cond (Nat.beq pc 41) (some (.aload_n 0, 42, [])) (none)))) (cond (Nat.beq pc 34) (some (.invokestatic 43, 37, [])) (cond (Nat.beq pc 37) (some (.istore 4, 39, [])) (none)))) (cond (Nat.ble 31 pc) (cond (Nat.beq pc 31) (some (.idiv, 32, [])) (cond (Nat.beq pc 32) (some (.bipush 6, 34, [])) (none))) (cond (Nat.beq pc 28) (some (.iload_n 3, 29, [])) (cond (Nat.beq pc 29) (some (.bipush 8, 31, [])) (none)))))) (cond (Nat.ble 13 pc) (cond (Nat.ble 20 pc) (cond (Nat.ble 23 pc) (cond (Nat.beq pc 23) (some (.iadd, 24, [])) (cond (Nat.beq pc 24) (some (.invokestatic 37, 27, [])) (cond (Nat.beq pc 27) (some (.istore_n 3, 28, [])) (none)))) (cond (Nat.beq pc 20) (some (.bipush 10, 22, [])) (cond (Nat.beq pc 22) (some (.iload_n 2, 23, [])) (none)))) (cond (Nat.ble 16 pc) (cond (Nat.beq pc 16) (some (.if_icmp .ge 113, 19, [129])) (cond (Nat.beq pc 19) (some (.aload_n 0, 20, [])) (none))) (cond (Nat.beq pc 13) (some (.iload_n 2, 14, [])) (cond (Nat.beq pc 14) (some (.bipush 12, 16, [])) (none))))) (cond (Nat.ble 9 pc) (cond (Nat.ble 11 pc) (cond (Nat.beq pc 11) (some (.iconst 0, 12, [])) (cond (Nat.beq pc 12) (some (.istore_n 2, 13, [])) (none))) (cond (Nat.beq pc 9) (some (.iconst 0, 10, [])) (cond (Nat.beq pc 10) (some (.ireturn, 11, [])) (none)))) (cond (Nat.ble 4 pc) (cond (Nat.beq pc 4) (some (.astore_n 1, 5, [])) (cond (Nat.beq pc 5) (some (.aload_n 1, 6, [])) (none))) (cond (Nat.beq pc 0) (some (.aload_n 0, 1, [])) (cond (Nat.beq pc 1) (some (.invokestatic 235, 4, [])) (none))))))))
theorem qkL_law_ok : ∀ pc i nx ts, qkL_law pc = some (i, nx, ts) → am_cok cL_law pc (i, nx, ts) = true := fun pc i nx ts h => am_tok_ok (n := 131) (by decide +kernel) (fun pc h => by show cond (Nat.ble 131 pc) _ _ = _; rw [Nat.ble_eq_true_of_le h]; rfl) h
def qaL_law : Nat → Option CE := fun k => cond (Nat.beq k 43) (some qeL_in) (cond (Nat.beq k 247) (some qeL_changes) (none))
theorem qyL_law (l : Launch) : ∀ k e1, qaL_law k = some e1 → am_cal l layX RL 40 k e1 ∧ ceT e1 = 0 := q_cons ⟨am_calS (qtL_in l) qbL_in (by decide) rfl (by decide) (am_tb_at 64 (by decide +kernel) rfl), rfl⟩ (q_cons ⟨am_calS (qtL_changes l) qbL_changes (by decide) rfl (by decide) (am_tb_at 765 (by decide +kernel) rfl), rfl⟩ (q_nil))
def qxL_law (nC nL : Int) : CX := (qkL_law, layX, qfL, qaL_law, qcL, qlL, qmL, (some .boolean), false, none, 8, none, fun pc => cond (Nat.beq pc 24) (some (lw_cellB 27)) (cond (Nat.beq pc 42) (some (lw_cntB nC 45)) (cond (Nat.beq pc 61) (some (lw_cxB qeL_isCut 8 64)) (cond (Nat.beq pc 75) (some (lw_cntB nC 78)) (cond (Nat.beq pc 87) (some (lw_cntB nL 90)) (cond (Nat.beq pc 98) (some (lw_cxB qeL_isRooted 8 101)) (none)))))))
theorem qzL_law (l : Launch) (nC nL : Int) : am_sta l (qxL_law nC nL) RL 40 cL_law := ⟨qkL_law_ok, layX_ok, qfL_ok, qcL_ok, qlL_ok, am_mthP qmL_ok (by decide), fun k e1 h => (qyL_law l k e1 h).1⟩
set_option maxRecDepth 20000 in
theorem lws_84 {F : FF} {A : AA} {nC nL stp xx cc ll : Int} {V : REC} (hg : am_good (qxL_law nC nL) lawK V) (hI : lwI F A nC nL) (bC : 1 ≤ nC ∧ nC ≤ 5) (bL : 1 ≤ nL ∧ nL ≤ 4) (hs : 0 ≤ stp ∧ stp ≤ 12) (hl : 0 ≤ ll ∧ ll ≤ nL) (hc : 0 ≤ cc ∧ cc < nC) (k72 : ll = nL → V 72 [some (vR 999), some (vR 0), some (vI stp), some (vI xx), none, some (vI (cc + 1)), none] [] F A 0) (k84 : ll < nL → ∀ G Bb, lwI G Bb nC nL → V 84 [some (vR 999), some (vR 0), some (vI stp), some (vI xx), none, some (vI cc), some (vI (ll + 1))] [] G Bb 2) : V 84 [some (vR 999), some (vR 0), some (vI stp), some (vI xx), none, some (vI cc), some (vI ll)] [] F A 0 := by
  obtain ⟨h1, h2, h3, h4, h5⟩ := id hI
  refine hg.1 _ (am_runs (cut := (fun pc => cond (Nat.beq pc 72) (some [true, true, true, true, false, true, false]) (cond (Nat.beq pc 84) (some [true, true, true, true, false, true, true]) (none)))) (Kc := V) (fun _ _ _ _ _ _ h => h) hg 14) 84 [some (vR 999), some (vR 0), some (vI stp), some (vI xx), none, some (vI cc), some (vI ll)] [] _ _ 0 ?_
  show (w32 ll < w32 nL → ((coH A cc ll) ∧ (∀ (G_1 : FF) (B_1 : AA), (qW F G_1 A B_1) → ((w32 1 = w32 0 → _) ∧ (¬ w32 1 = w32 0 → (V 84 [some (vR 999), some (vR 0), some (vI stp), some (vI xx), none, some (vI cc), some (vI (ll + 1))] [] G_1 B_1 2)))))) ∧ (¬ w32 ll < w32 nL → (V 72 [some (vR 999), some (vR 0), some (vI stp), some (vI xx), none, some (vI (cc + 1)), none] [] F A 0))
  refine ⟨fun c1 => ?_, fun c1 => ?_⟩
  · skip
    (try simp (disch := omega) only [w32_0, w32_id] at c1)
    refine ⟨by exact ⟨h1.1, by rw [h4]; omega, by rw [h5]; omega⟩, ?_⟩
    intro G_1 B_1 g1
    refine ⟨fun q => absurd q (by decide), fun _ => ?_⟩
    exact k84 (by omega) _ _ (lwI_q hI g1)
  · skip
    (try simp (disch := omega) only [w32_0, w32_id] at c1)
    exact k72 (by omega)
set_option maxRecDepth 20000 in
theorem lws_72 {F : FF} {A : AA} {nC nL stp xx cc : Int} {V : REC} (hg : am_good (qxL_law nC nL) lawK V) (hI : lwI F A nC nL) (bC : 1 ≤ nC ∧ nC ≤ 5) (bL : 1 ≤ nL ∧ nL ≤ 4) (hs : 0 ≤ stp ∧ stp ≤ 12) (hx : -2147483648 ≤ xx ∧ xx < 2147483648) (hc : 0 ≤ cc ∧ cc ≤ nC) (k13 : cc = nC → ∀ G Bb, lwI G Bb nC nL → V 13 [some (vR 999), some (vR 0), some (vI (stp + 1)), none, none, none, none] [] G Bb 0) (k84 : cc < nC → V 84 [some (vR 999), some (vR 0), some (vI stp), some (vI xx), none, some (vI cc), some (vI 0)] [] F A 0) : V 72 [some (vR 999), some (vR 0), some (vI stp), some (vI xx), none, some (vI cc), none] [] F A 0 := by
  obtain ⟨h1, h2, h3, h4, h5⟩ := id hI
  refine hg.1 _ (am_runs (cut := (fun pc => cond (Nat.beq pc 13) (some [true, true, true, false, false, false, false]) (cond (Nat.beq pc 84) (some [true, true, true, true, false, true, true]) (none)))) (Kc := V) (fun _ _ _ _ _ _ h => h) hg 12) 72 [some (vR 999), some (vR 0), some (vI stp), some (vI xx), none, some (vI cc), none] [] _ _ 0 ?_
  show (w32 cc < w32 nC → (V 84 [some (vR 999), some (vR 0), some (vI stp), some (vI xx), none, some (vI cc), some (vI 0)] [] F A 0)) ∧ (¬ w32 cc < w32 nC → ((figR (A 2) ∧ hsOK F ∧ caAll A ∧ 1 ≤ A 2 0 ∧ 1 ≤ A 2 1) ∧ (∀ (G_1 : FF) (B_1 : AA), (lwI G_1 B_1 (A 2 0) (A 2 1)) → (V 13 [some (vR 999), some (vR 0), some (vI (stp + 1)), none, none, none, none] [] G_1 B_1 0))))
  refine ⟨fun c1 => ?_, fun c1 => ?_⟩
  · skip
    (try simp (disch := omega) only [w32_0, w32_id] at c1)
    exact k84 (by omega)
  · skip
    (try simp (disch := omega) only [w32_0, w32_id] at c1)
    refine ⟨by exact ⟨h1, h2, h3, by rw [h4]; omega, by rw [h5]; omega⟩, ?_⟩
    intro G_1 B_1 g1
    exact k13 (by omega) _ _ (by rw [h4, h5] at g1; exact g1)
set_option maxRecDepth 20000 in
theorem lws_13 {F : FF} {A : AA} {nC nL stp : Int} {V : REC} (hg : am_good (qxL_law nC nL) lawK V) (hI : lwI F A nC nL) (bC : 1 ≤ nC ∧ nC ≤ 5) (bL : 1 ≤ nL ∧ nL ≤ 4) (hs : 0 ≤ stp ∧ stp ≤ 12) (k72 : stp < 12 → ∀ xx G Bb, (-2147483648 ≤ xx ∧ xx < 2147483648) → lwI G Bb nC nL → V 72 [some (vR 999), some (vR 0), some (vI stp), some (vI xx), none, some (vI 0), none] [] G Bb 6) : V 13 [some (vR 999), some (vR 0), some (vI stp), none, none, none, none] [] F A 0 := by
  obtain ⟨h1, h2, h3, h4, h5⟩ := id hI
  refine hg.1 _ (am_runs (cut := (fun pc => cond (Nat.beq pc 72) (some [true, true, true, true, false, true, false]) (none))) (Kc := V) (fun _ _ _ _ _ _ h => h) hg 35) 13 [some (vR 999), some (vR 0), some (vI stp), none, none, none, none] [] _ _ 0 ?_
  show (w32 stp < w32 12 → ((0 ≤ (10 + stp) ∧ (10 + stp) < 1000) ∧ (∀ (v_1 : Int), (-2147483648 ≤ v_1 ∧ v_1 < 2147483648) → ((w32 8 ≠ 0) ∧ ((1 ≤ 6 ∧ 6 < 2147483648) ∧ (∀ (r_2 : Int), (0 ≤ r_2 ∧ r_2 < 6) → ((1 ≤ nC ∧ nC < 2147483648) ∧ (∀ (r_3 : Int), (0 ≤ r_3 ∧ r_3 < nC) → ((w32 64 ≠ 0) ∧ ((1 ≤ (x_shl 1 r_2) ∧ (x_shl 1 r_2) < 2147483648) ∧ (∀ (r_4 : Int), (0 ≤ r_4 ∧ r_4 < (x_shl 1 r_2)) → ((cuP F A r_3 r_2 r_4) ∧ (∀ (G_5 : FF) (B_5 : AA), (qW F G_5 A B_5) → ((w32 1 = w32 0 → _) ∧ (¬ w32 1 = w32 0 → (V 72 [some (vR 999), some (vR 0), some (vI stp), some (vI v_1), none, some (vI 0), none] [] G_5 B_5 6)))))))))))))))) ∧ (¬ w32 stp < w32 12 → ((1 = 0 ∨ 1 = 1) ∧ (lawK (some (some (vI 1))) F A)))
  refine ⟨fun c1 => ?_, fun c1 => ?_⟩
  · skip
    (try simp (disch := omega) only [w32_0, w32_id] at c1)
    refine ⟨by omega, ?_⟩
    intro v_1 g1
    refine ⟨by decide, ?_⟩
    refine ⟨by omega, ?_⟩
    intro r_2 g2
    refine ⟨by omega, ?_⟩
    intro r_3 g3
    refine ⟨by decide, ?_⟩
    refine ⟨by have := @p2_pos r_2; have := p2_le (j := r_2) (k := 12) (by omega); rw [p2_12] at this; rw [x_shl1 g2.1 (by omega)]; omega, ?_⟩
    intro r_4 g4
    refine ⟨by exact ⟨h1.1, h3, by rw [h4]; exact g3, ⟨g2.1, by omega⟩, by rw [x_shl1 g2.1 (by omega)] at g4; exact g4⟩, ?_⟩
    intro G_5 B_5 g5
    refine ⟨fun q => absurd q (by decide), fun _ => ?_⟩
    exact k72 (by omega) _ _ _ g1 (lwI_q hI g5)
  · skip
    (try simp (disch := omega) only [w32_0, w32_id] at c1)
    refine ⟨by first | exact Or.inl rfl | exact Or.inr rfl, ?_⟩
    exact rfl
