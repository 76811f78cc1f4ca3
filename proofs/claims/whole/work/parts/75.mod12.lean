def qkX9_busiestLine : Nat → Option CI := fun pc => cond (Nat.ble 80 pc) none (cond (Nat.ble 36 pc) (cond (Nat.ble 58 pc) (cond (Nat.ble 69 pc) (cond (Nat.ble 75 pc) (cond (Nat.beq pc 75) (some (.goto (-64), 78, [11])) (cond (Nat.beq pc 78) (some (.iload_n 1, 79, [])) (cond (Nat.beq pc 79) (some (.ireturn, 80, [])) (none)))) (cond (Nat.beq pc 69) (some (.iload 4, 71, [])) (cond (Nat.beq pc 71) (some (.istore_n 2, 72, [])) (cond (Nat.beq pc 72) (some (.iinc 3 1, 75, [])) (none))))) (cond (Nat.ble 64 pc) (cond (Nat.beq pc 64) (some (.goto 8, 67, [72])) (cond (Nat.beq pc 67) (some (.iload_n 3, 68, [])) (cond (Nat.beq pc 68) (some (.istore_n 1, 69, [])) (none)))) (cond (Nat.beq pc 58) (some (.iload 4, 60, [])) (cond (Nat.beq pc 60) (some (.iload_n 2, 61, [])) (cond (Nat.beq pc 61) (some (.if_icmp .gt 6, 64, [67])) (none)))))) (cond (Nat.ble 45 pc) (cond (Nat.ble 50 pc) (cond (Nat.beq pc 50) (some (.istore 4, 52, [])) (cond (Nat.beq pc 52) (some (.iinc 5 1, 55, [])) (cond (Nat.beq pc 55) (some (.goto (-27), 58, [28])) (none)))) (cond (Nat.beq pc 45) (some (.iload_n 3, 46, [])) (cond (Nat.beq pc 46) (some (.invokevirtual 363, 49, [])) (cond (Nat.beq pc 49) (some (.iadd, 50, [])) (none))))) (cond (Nat.ble 40 pc) (cond (Nat.beq pc 40) (some (.iload 4, 42, [])) (cond (Nat.beq pc 42) (some (.aload_n 0, 43, [])) (cond (Nat.beq pc 43) (some (.iload 5, 45, [])) (none)))) (cond (Nat.beq pc 36) (some (.iaload, 37, [])) (cond (Nat.beq pc 37) (some (.if_icmp .ge 21, 40, [58])) (none)))))) (cond (Nat.ble 13 pc) (cond (Nat.ble 25 pc) (cond (Nat.ble 30 pc) (cond (Nat.beq pc 30) (some (.aload_n 0, 31, [])) (cond (Nat.beq pc 31) (some (.getfield 13, 34, [])) (cond (Nat.beq pc 34) (some (.bipush 14, 36, [])) (none)))) (cond (Nat.beq pc 25) (some (.iconst 0, 26, [])) (cond (Nat.beq pc 26) (some (.istore 5, 28, [])) (cond (Nat.beq pc 28) (some (.iload 5, 30, [])) (none))))) (cond (Nat.ble 19 pc) (cond (Nat.beq pc 19) (some (.if_icmp .ge 59, 22, [78])) (cond (Nat.beq pc 22) (some (.iconst 0, 23, [])) (cond (Nat.beq pc 23) (some (.istore 4, 25, [])) (none)))) (cond (Nat.beq pc 13) (some (.getfield 13, 16, [])) (cond (Nat.beq pc 16) (some (.bipush 15, 18, [])) (cond (Nat.beq pc 18) (some (.iaload, 19, [])) (none)))))) (cond (Nat.ble 7 pc) (cond (Nat.ble 10 pc) (cond (Nat.beq pc 10) (some (.istore_n 3, 11, [])) (cond (Nat.beq pc 11) (some (.iload_n 3, 12, [])) (cond (Nat.beq pc 12) (some (.aload_n 0, 13, [])) (none)))) (cond (Nat.beq pc 7) (some (.iconst (-1), 8, [])) (cond (Nat.beq pc 8) (some (.istore_n 2, 9, [])) (cond (Nat.beq pc 9) (some (.iconst 0, 10, [])) (none))))) (cond (Nat.ble 2 pc) (cond (Nat.beq pc 2) (some (.putfield 70, 5, [])) (cond (Nat.beq pc 5) (some (.iconst (-1), 6, [])) (cond (Nat.beq pc 6) (some (.istore_n 1, 7, [])) (none)))) (cond (Nat.beq pc 0) (some (.aload_n 0, 1, [])) (cond (Nat.beq pc 1) (some (.iconst 0, 2, [])) (none)))))))
theorem qkX9_busiestLine_ok : ∀ pc i nx ts, qkX9_busiestLine pc = some (i, nx, ts) → am_cok cX9_busiestLine pc (i, nx, ts) = true := fun pc i nx ts h => am_tok_ok (n := 80) (by decide +kernel) (fun pc h => by show cond (Nat.ble 80 pc) _ _ = _; rw [Nat.ble_eq_true_of_le h]; rfl) h
def qaX9_busiestLine : Nat → Option CE := fun k => cond (Nat.beq k 363) (some qeX9_sure) (none)
theorem qyX9_busiestLine (l : Launch) : ∀ k e1, qaX9_busiestLine k = some e1 → am_cal l layM RX9 22 k e1 ∧ ceT e1 = 0 := q_cons ⟨am_calV (ci := 9) (qtX9_sure l) qbX9_sure (by decide) rfl (am_tb_at 1887 (by decide +kernel) rfl), rfl⟩ (q_nil)
def qxX9_busiestLine : CX := (qkX9_busiestLine, layM, qfX9, qaX9_busiestLine, qcX9, qlX9, qmX9, (some .int), false, none, 0, none, fun _ => none)
theorem qzX9_busiestLine (l : Launch) : am_sta l qxX9_busiestLine RX9 22 cX9_busiestLine := ⟨qkX9_busiestLine_ok, layM_ok, qfX9_ok, qcX9_ok, qlX9_ok, am_mthP qmX9_ok (by decide), fun k e1 h => (qyX9_busiestLine l k e1 h).1⟩
def qsX9_busiestLine : SP := fun as F A K => match as with
  | [.inr (.inr o)] => cond (Nat.beq o 25) ((fgOK (mF A) ∧ RTB) ∧ (∀ (G_1 : FF) (B_1 : AA), (qdP F G_1 A B_1 ∧ G_1 25 0 = 0) → (K (some (some (vI ((bestI (fun ll => sumI (fun jj => sureF (mF A) jj ll) (Int.toNat (mF A 0))) (Int.toNat (mF A 1))).1)))) G_1 B_1))) (False)
  | _ => False
def qeX9_busiestLine : CE := (yX9_busiestLine, cX9_busiestLine, 6, (some .int), 0, some 9, 0, [], 0, 22, qsX9_busiestLine)
theorem qbX9_busiestLine : am_mb qeX9_busiestLine := ⟨am_tb_at 1898 (by decide +kernel) rfl, am_tb_at 124 (by decide +kernel) rfl, ⟨by decide, by decide, by decide +kernel⟩, by decide, by decide, am_tb_at 1896 (by decide +kernel) rfl, am_tb_at 1897 (by decide +kernel) rfl, _, _, rfl⟩
def qnX9_busiestLine_25 : CUT := fun pc => cond (Nat.beq pc 11) (some [true, true, true, true, false, false]) (cond (Nat.beq pc 28) (some [true, true, true, true, true, true]) (none))
def qiX9_busiestLine_25  (F0 : FF) (A0 : AA) : REC := fun pc ls st F A u => cond (Nat.beq pc 11) (match ls, st, u with
    | [some (.inr (.inr s0)), some (.inl w), some (.inl v), some (.inl k), none, none], [], 0 => s0 = 25 ∧ ((0 ≤ k ∧ k ≤ mF A0 1) ∧ (-1 ≤ v ∧ v ≤ 128) ∧ (qdP F0 F A0 A ∧ F 25 0 = 0) ∧ (w, v) = bestI (fun ll => sumI (fun jj => sureF (mF A0) jj ll) (Int.toNat (mF A0 0))) (Int.toNat k))
    | _, _, _ => False) (cond (Nat.beq pc 28) (match ls, st, u with
    | [some (.inr (.inr s0)), some (.inl w), some (.inl v), some (.inl k), some (.inl s), some (.inl j)], [], 0 => s0 = 25 ∧ ((0 ≤ k ∧ k < mF A0 1) ∧ (-1 ≤ v ∧ v ≤ 128) ∧ (0 ≤ j ∧ j ≤ mF A0 0) ∧ (0 ≤ s ∧ s ≤ 128) ∧ s = sumI (fun jj => sureF (mF A0) jj k) (Int.toNat j) ∧ (qdP F0 F A0 A ∧ F 25 0 = 0) ∧ (w, v) = bestI (fun ll => sumI (fun jj => sureF (mF A0) jj ll) (Int.toNat (mF A0 0))) (Int.toNat k))
    | _, _, _ => False) (False))
def quX9_busiestLine_25 : Nat → LVs → List AV → FF → AA → Nat := fun pc ls _ F A => cond (Nat.beq pc 11) (match ls with
    | [some (.inr (.inr s0)), some (.inl w), some (.inl v), some (.inl k), none, none] => Int.toNat (20 - k) * 100 + 50
    | _ => 0) (cond (Nat.beq pc 28) (match ls with
    | [some (.inr (.inr s0)), some (.inl w), some (.inl v), some (.inl k), some (.inl s), some (.inl j)] => Int.toNat (20 - k) * 100 + Int.toNat (20 - j)
    | _ => 0) (0))
set_option maxRecDepth 20000 in
theorem qvX9_busiestLine_25_0  (F0 : FF) (A0 : AA) (K : KK) (h : (fgOK (mF A0) ∧ RTB) ∧ (∀ (G_1 : FF) (B_1 : AA), (qdP F0 G_1 A0 B_1 ∧ G_1 25 0 = 0) → (K (some (some (vI ((bestI (fun ll => sumI (fun jj => sureF (mF A0) jj ll) (Int.toNat (mF A0 0))) (Int.toNat (mF A0 1))).1)))) G_1 B_1))) : am_stp qxX9_busiestLine (am_run qxX9_busiestLine qnX9_busiestLine_25 (qiX9_busiestLine_25  F0 A0) K 18) K 0 (am_ent [vR 25] 6) [] F0 A0 0 := by
  show am_stp qxX9_busiestLine (am_run qxX9_busiestLine qnX9_busiestLine_25 (qiX9_busiestLine_25  F0 A0) K 18) K 0 [some (vR 25), none, none, none, none, none] [] F0 A0 0
  obtain ⟨hp, h⟩ := h
  have p1 := hp.1
  have q1 := p1.1.1
  have q2 := p1.1.2
  have rb := hp.2
  show 25 = 25 ∧ ((0 ≤ 0 ∧ 0 ≤ mF A0 1) ∧ (-1 ≤ (-1) ∧ (-1) ≤ 128) ∧ (qdP F0 (upF F0 25 0 0) A0 A0 ∧ (upF F0 25 0 0) 25 0 = 0) ∧ ((-1), (-1)) = bestI (fun ll => sumI (fun jj => sureF (mF A0) jj ll) (Int.toNat (mF A0 0))) (Int.toNat 0))
  refine ⟨rfl, ?_⟩
  exact ⟨⟨by omega, by omega⟩, by omega, ⟨qdP_F (by decide), upF_s⟩, rfl⟩
set_option maxRecDepth 20000 in
theorem qvX9_busiestLine_25_11  (F0 : FF) (A0 : AA) (K : KK) (h : (fgOK (mF A0) ∧ RTB) ∧ (∀ (G_1 : FF) (B_1 : AA), (qdP F0 G_1 A0 B_1 ∧ G_1 25 0 = 0) → (K (some (some (vI ((bestI (fun ll => sumI (fun jj => sureF (mF A0) jj ll) (Int.toNat (mF A0 0))) (Int.toNat (mF A0 1))).1)))) G_1 B_1))) (w : Int) (v : Int) (k : Int) (F : FF) (A : AA) (hi : (0 ≤ k ∧ k ≤ mF A0 1) ∧ (-1 ≤ v ∧ v ≤ 128) ∧ (qdP F0 F A0 A ∧ F 25 0 = 0) ∧ (w, v) = bestI (fun ll => sumI (fun jj => sureF (mF A0) jj ll) (Int.toNat (mF A0 0))) (Int.toNat k)) : am_stp qxX9_busiestLine (am_run qxX9_busiestLine qnX9_busiestLine_25 (fun pc ls st F9 A9 u => qiX9_busiestLine_25  F0 A0 pc ls st F9 A9 u ∧ quX9_busiestLine_25 pc ls st F9 A9 < quX9_busiestLine_25 11 [some (vR 25), some (vI w), some (vI v), some (vI k), none, none] [] F A) K 18) K 11 [some (vR 25), some (vI w), some (vI v), some (vI k), none, none] [] F A 0 := by
  obtain ⟨hp, h⟩ := h
  have p1 := hp.1
  have q1 := p1.1.1
  have q2 := p1.1.2
  have rb := hp.2
  obtain ⟨h1, h2, ⟨hQ, hT⟩, h4⟩ := hi
  have eF := qdP_f hQ
  have n0 : A 27 14 = mF A0 0 := by rw [← eF]; rfl
  have n1 : A 27 15 = mF A0 1 := by rw [← eF]; rfl
  show (0 ≤ w32 15 ∧ w32 15 < 16) ∧ ((w32 k < w32 (A 27 (w32 15)) → ((25 = 25 ∧ ((0 ≤ k ∧ k < mF A0 1) ∧ (-1 ≤ v ∧ v ≤ 128) ∧ (0 ≤ 0 ∧ 0 ≤ mF A0 0) ∧ (0 ≤ 0 ∧ 0 ≤ 128) ∧ 0 = sumI (fun jj => sureF (mF A0) jj k) (Int.toNat 0) ∧ (qdP F0 F A0 A ∧ F 25 0 = 0) ∧ (w, v) = bestI (fun ll => sumI (fun jj => sureF (mF A0) jj ll) (Int.toNat (mF A0 0))) (Int.toNat k))) ∧ (Int.toNat (20 - k) * 100 + Int.toNat (20 - 0)) < (Int.toNat (20 - k) * 100 + 50))) ∧ (¬ w32 k < w32 (A 27 (w32 15)) → (K (some (some (vI w))) F A)))
  refine ⟨by first | decide | omega, ?_⟩
  refine ⟨fun c1 => ?_, fun c1 => ?_⟩
  · skip
    (try simp (disch := omega) only [fat_in, w32_0, w32_id] at c1); (try rw [n0] at c1); (try rw [n1] at c1); (try rw [eF] at c1); (try simp (disch := omega) only [fat_in, w32_0, w32_id] at c1)
    refine ⟨⟨rfl, ?_⟩, by omega⟩
    exact ⟨⟨h1.1, c1⟩, h2, by omega, by omega, rfl, ⟨hQ, hT⟩, h4⟩
  · skip
    (try simp (disch := omega) only [fat_in, w32_0, w32_id] at c1); (try rw [n0] at c1); (try rw [n1] at c1); (try rw [eF] at c1); (try simp (disch := omega) only [fat_in, w32_0, w32_id] at c1)
    exact K_eq (h _ _ ⟨hQ, hT⟩) (by rw [show mF A0 1 = k by omega, ← h4])
set_option maxRecDepth 20000 in
theorem qvX9_busiestLine_25_28  (F0 : FF) (A0 : AA) (K : KK) (h : (fgOK (mF A0) ∧ RTB) ∧ (∀ (G_1 : FF) (B_1 : AA), (qdP F0 G_1 A0 B_1 ∧ G_1 25 0 = 0) → (K (some (some (vI ((bestI (fun ll => sumI (fun jj => sureF (mF A0) jj ll) (Int.toNat (mF A0 0))) (Int.toNat (mF A0 1))).1)))) G_1 B_1))) (w : Int) (v : Int) (k : Int) (s : Int) (j : Int) (F : FF) (A : AA) (hi : (0 ≤ k ∧ k < mF A0 1) ∧ (-1 ≤ v ∧ v ≤ 128) ∧ (0 ≤ j ∧ j ≤ mF A0 0) ∧ (0 ≤ s ∧ s ≤ 128) ∧ s = sumI (fun jj => sureF (mF A0) jj k) (Int.toNat j) ∧ (qdP F0 F A0 A ∧ F 25 0 = 0) ∧ (w, v) = bestI (fun ll => sumI (fun jj => sureF (mF A0) jj ll) (Int.toNat (mF A0 0))) (Int.toNat k)) : am_stp qxX9_busiestLine (am_run qxX9_busiestLine qnX9_busiestLine_25 (fun pc ls st F9 A9 u => qiX9_busiestLine_25  F0 A0 pc ls st F9 A9 u ∧ quX9_busiestLine_25 pc ls st F9 A9 < quX9_busiestLine_25 28 [some (vR 25), some (vI w), some (vI v), some (vI k), some (vI s), some (vI j)] [] F A) K 18) K 28 [some (vR 25), some (vI w), some (vI v), some (vI k), some (vI s), some (vI j)] [] F A 0 := by
  obtain ⟨hp, h⟩ := h
  have p1 := hp.1
  have q1 := p1.1.1
  have q2 := p1.1.2
  have rb := hp.2
  obtain ⟨h1, h2, h3, h5, h6, ⟨hQ, hT⟩, h4⟩ := hi
  have eF := qdP_f hQ
  have n0 : A 27 14 = mF A0 0 := by rw [← eF]; rfl
  have n1 : A 27 15 = mF A0 1 := by rw [← eF]; rfl
  show (0 ≤ w32 14 ∧ w32 14 < 16) ∧ ((w32 j < w32 (A 27 (w32 14)) → ((fgOK (mF A) ∧ (0 ≤ j ∧ j < mF A 0) ∧ (0 ≤ k ∧ k < mF A 1) ∧ ((rtsX (mF A) j k).length : Int) ≤ 8) ∧ (∀ (G_1 : FF) (B_1 : AA), (qdP F G_1 A B_1 ∧ G_1 25 0 = (F 25 0)) → ((25 = 25 ∧ ((0 ≤ k ∧ k < mF A0 1) ∧ (-1 ≤ v ∧ v ≤ 128) ∧ (0 ≤ (j + 1) ∧ (j + 1) ≤ mF A0 0) ∧ (0 ≤ (s + (sureF (mF A) j k)) ∧ (s + (sureF (mF A) j k)) ≤ 128) ∧ (s + (sureF (mF A) j k)) = sumI (fun jj => sureF (mF A0) jj k) (Int.toNat (j + 1)) ∧ (qdP F0 G_1 A0 B_1 ∧ G_1 25 0 = 0) ∧ (w, v) = bestI (fun ll => sumI (fun jj => sureF (mF A0) jj ll) (Int.toNat (mF A0 0))) (Int.toNat k))) ∧ (Int.toNat (20 - k) * 100 + Int.toNat (20 - (j + 1))) < (Int.toNat (20 - k) * 100 + Int.toNat (20 - j)))))) ∧ (¬ w32 j < w32 (A 27 (w32 14)) → ((w32 v < w32 s → ((25 = 25 ∧ ((0 ≤ (k + 1) ∧ (k + 1) ≤ mF A0 1) ∧ (-1 ≤ s ∧ s ≤ 128) ∧ (qdP F0 F A0 A ∧ F 25 0 = 0) ∧ (k, s) = bestI (fun ll => sumI (fun jj => sureF (mF A0) jj ll) (Int.toNat (mF A0 0))) (Int.toNat (k + 1)))) ∧ (Int.toNat (20 - (k + 1)) * 100 + 50) < (Int.toNat (20 - k) * 100 + Int.toNat (20 - j)))) ∧ (¬ w32 v < w32 s → ((25 = 25 ∧ ((0 ≤ (k + 1) ∧ (k + 1) ≤ mF A0 1) ∧ (-1 ≤ v ∧ v ≤ 128) ∧ (qdP F0 F A0 A ∧ F 25 0 = 0) ∧ (w, v) = bestI (fun ll => sumI (fun jj => sureF (mF A0) jj ll) (Int.toNat (mF A0 0))) (Int.toNat (k + 1)))) ∧ (Int.toNat (20 - (k + 1)) * 100 + 50) < (Int.toNat (20 - k) * 100 + Int.toNat (20 - j)))))))
  refine ⟨by first | decide | omega | (rw [eF]; exact ⟨p1, by omega, by omega, rb (mF A0) p1 j k (by omega) (by omega) (by omega) (by omega)⟩), ?_⟩
  refine ⟨fun c1 => ?_, fun c1 => ?_⟩
  · skip
    (try simp (disch := omega) only [fat_in, w32_0, w32_id] at c1); (try rw [n0] at c1); (try rw [n1] at c1); (try rw [eF] at c1); (try simp (disch := omega) only [fat_in, w32_0, w32_id] at c1)
    refine ⟨by first | decide | omega | (rw [eF]; exact ⟨p1, by omega, by omega, rb (mF A0) p1 j k (by omega) (by omega) (by omega) (by omega)⟩), ?_⟩
    intro G_1 B_1 g1
    refine ⟨⟨rfl, ?_⟩, by omega⟩
    have q5 := sureF_b (rb (mF A0) p1 j k (by omega) (by omega) (by omega) (by omega))
    rw [eF]
    have q6 := sumI_b (b := 16) (g := fun jj => sureF (mF A0) jj k) (Int.toNat (j + 1)) (fun jj j0 j1 => sureF_b (rb (mF A0) p1 jj k (by omega) (by omega) (by omega) (by omega)))
    rw [sumI_s h3.1, ← h6] at q6
    refine ⟨h1, h2, by omega, ?_, ?_, ⟨qdP_trans hQ g1.1, g1.2.trans hT⟩, h4⟩
    · show 0 ≤ s + sureF (mF A0) j k ∧ s + sureF (mF A0) j k ≤ 128
      have q7 : s + sureF (mF A0) j k ≤ 16 * ((Int.toNat (j + 1) : Nat) : Int) := q6.2
      have q8 : 0 ≤ s + sureF (mF A0) j k := q6.1
      omega
    · rw [sumI_s h3.1, ← h6]
  · skip
    (try simp (disch := omega) only [fat_in, w32_0, w32_id] at c1); (try rw [n0] at c1); (try rw [n1] at c1); (try rw [eF] at c1); (try simp (disch := omega) only [fat_in, w32_0, w32_id] at c1)
    refine ⟨fun c2 => ?_, fun c2 => ?_⟩
    · skip
      (try simp (disch := omega) only [fat_in, w32_0, w32_id] at c2); (try rw [n0] at c2); (try rw [n1] at c2); (try rw [eF] at c2); (try simp (disch := omega) only [fat_in, w32_0, w32_id] at c2)
      refine ⟨⟨rfl, ?_⟩, by omega⟩
      have ej : j = mF A0 0 := by omega
      subst ej
      refine ⟨by omega, by omega, ⟨hQ, hT⟩, ?_⟩
      rw [h6]
      exact bestI_t h1.1 h4 (by rw [← h6]; exact c2)
    · skip
      (try simp (disch := omega) only [fat_in, w32_0, w32_id] at c2); (try rw [n0] at c2); (try rw [n1] at c2); (try rw [eF] at c2); (try simp (disch := omega) only [fat_in, w32_0, w32_id] at c2)
      refine ⟨⟨rfl, ?_⟩, by omega⟩
      have ej : j = mF A0 0 := by omega
      subst ej
      exact ⟨by omega, h2, ⟨hQ, hT⟩, bestI_f h1.1 h4 (by rw [← h6]; exact c2)⟩
set_option maxRecDepth 20000 in
theorem qvX9_busiestLine_25  (F0 : FF) (A0 : AA) (K : KK) (h : (fgOK (mF A0) ∧ RTB) ∧ (∀ (G_1 : FF) (B_1 : AA), (qdP F0 G_1 A0 B_1 ∧ G_1 25 0 = 0) → (K (some (some (vI ((bestI (fun ll => sumI (fun jj => sureF (mF A0) jj ll) (Int.toNat (mF A0 0))) (Int.toNat (mF A0 1))).1)))) G_1 B_1))) : am_body qxX9_busiestLine qnX9_busiestLine_25 18 (qiX9_busiestLine_25  F0 A0) quX9_busiestLine_25 [vR 25] 6 F0 A0 K := by
  refine ⟨qvX9_busiestLine_25_0  F0 A0 K h, fun pc ls st F A u hI => ?_⟩
  unfold qiX9_busiestLine_25 at hI
  replace hI := am_cond2 hI
  rcases hI with ⟨hb, hI⟩ | hI
  · have hb := am_bq hb
    subst hb
    split at hI
    · rename_i s0 w v k
      obtain ⟨e0, hI⟩ := hI
      subst e0
      exact qvX9_busiestLine_25_11  _ _ K h _ _ _ _ _ hI
    · exact hI.elim
  replace hI := am_cond2 hI
  rcases hI with ⟨hb, hI⟩ | hI
  · have hb := am_bq hb
    subst hb
    split at hI
    · rename_i s0 w v k s j
      obtain ⟨e0, hI⟩ := hI
      subst e0
      exact qvX9_busiestLine_25_28  _ _ K h _ _ _ _ _ _ _ hI
    · exact hI.elim
  exact hI.elim
theorem qtX9_busiestLine (l : Launch) : am_CT l layM qeX9_busiestLine := am_met0 rfl (by decide +kernel) rfl rfl rfl rfl rfl (fun _ => rfl) rfl (qzX9_busiestLine l) (fun k e1 h => (qyX9_busiestLine l k e1 h).2) (fun as F A K h => by
  replace h : qsX9_busiestLine as F A K := h
  unfold qsX9_busiestLine at h
  split at h
  · rename_i o
    refine ⟨by first | exact Nat.le_of_ble_eq_true rfl | simp [am_fl, am_cat], ?_⟩
    replace h := am_cond2 h
    rcases h with ⟨hb, h⟩ | h
    · skip
      have hb0 := hb
      have hb0 := am_bq hb0
      subst hb0
      exact am_way_body (qvX9_busiestLine_25  F A K h)
    exact h.elim
  · exact h.elim)
def qkX9_across : Nat → Option CI := fun pc => cond (Nat.ble 8 pc) none (cond (Nat.ble 3 pc) (cond (Nat.beq pc 3) (some (.invokevirtual 114, 6, [])) (cond (Nat.beq pc 6) (some (.ishl, 7, [])) (cond (Nat.beq pc 7) (some (.ireturn, 8, [])) (none)))) (cond (Nat.beq pc 0) (some (.iconst 1, 1, [])) (cond (Nat.beq pc 1) (some (.aload_n 0, 2, [])) (cond (Nat.beq pc 2) (some (.iconst 1, 3, [])) (none)))))
theorem qkX9_across_ok : ∀ pc i nx ts, qkX9_across pc = some (i, nx, ts) → am_cok cX9_across pc (i, nx, ts) = true := fun pc i nx ts h => am_tok_ok (n := 8) (by decide +kernel) (fun pc h => by show cond (Nat.ble 8 pc) _ _ = _; rw [Nat.ble_eq_true_of_le h]; rfl) h
def qaX9_across : Nat → Option CE := fun k => cond (Nat.beq k 114) (some qeX9_set) (none)
theorem qyX9_across (l : Launch) : ∀ k e1, qaX9_across k = some e1 → am_cal l layM RX9 4 k e1 ∧ ceT e1 = 0 := q_cons ⟨am_calV (ci := 9) (qtX9_set l) qbX9_set (by decide) rfl (am_tb_at 1643 (by decide +kernel) rfl), rfl⟩ (q_nil)
def qxX9_across : CX := (qkX9_across, layM, qfX9, qaX9_across, qcX9, qlX9, qmX9, (some .int), false, none, 0, none, fun _ => none)
theorem qzX9_across (l : Launch) : am_sta l qxX9_across RX9 4 cX9_across := ⟨qkX9_across_ok, layM_ok, qfX9_ok, qcX9_ok, qlX9_ok, am_mthP qmX9_ok (by decide), fun k e1 h => (qyX9_across l k e1 h).1⟩
def qsX9_across : SP := fun as F A K => match as with
  | [.inr (.inr o)] => cond (Nat.beq o 25) ((True) ∧ (K (some (some (vI (x_shl 1 (mF A (2 + 1)))))) F A)) (False)
  | _ => False
def qeX9_across : CE := (yX9_across, cX9_across, 1, (some .int), 0, some 9, 0, [], 0, 4, qsX9_across)
theorem qbX9_across : am_mb qeX9_across := ⟨am_tb_at 1936 (by decide +kernel) rfl, am_tb_at 124 (by decide +kernel) rfl, ⟨by decide, by decide, by decide +kernel⟩, by decide, by decide, am_tb_at 1935 (by decide +kernel) rfl, am_tb_at 101 (by decide +kernel) rfl, _, _, rfl⟩
set_option maxRecDepth 20000 in
theorem qvX9_across_25  (F : FF) (A : AA) (K : KK) (h : (True) ∧ (K (some (some (vI (x_shl 1 (mF A (2 + 1)))))) F A)) : am_line qxX9_across 7 [vR 25] 1 F A K := by
  show am_stp qxX9_across (am_run qxX9_across (fun _ => none) (fun _ _ _ _ _ _ => False) K 7) K 0 [some (vR 25)] [] F A 0
  obtain ⟨hp, h⟩ := h
  show (0 ≤ 1 ∧ 1 ≤ 1) ∧ (K (some (some (vI (x_shl 1 (mF A (2 + 1)))))) F A)
  refine ⟨by first | decide | omega, ?_⟩
  exact h
theorem qtX9_across (l : Launch) : am_CT l layM qeX9_across := am_met0 rfl (by decide +kernel) rfl rfl rfl rfl rfl (fun _ => rfl) rfl (qzX9_across l) (fun k e1 h => (qyX9_across l k e1 h).2) (fun as F A K h => by
  replace h : qsX9_across as F A K := h
  unfold qsX9_across at h
  split at h
  · rename_i o
    refine ⟨by first | exact Nat.le_of_ble_eq_true rfl | simp [am_fl, am_cat], ?_⟩
    replace h := am_cond2 h
    rcases h with ⟨hb, h⟩ | h
    · skip
      have hb0 := hb
      have hb0 := am_bq hb0
      subst hb0
      exact am_way_line (qvX9_across_25  F A K h)
    exact h.elim
  · exact h.elim)
def qkX9_across_ : Nat → Option CI := fun pc => cond (Nat.ble 20 pc) none (cond (Nat.ble 11 pc) (cond (Nat.ble 14 pc) (cond (Nat.ble 18 pc) (cond (Nat.beq pc 18) (some (.isub, 19, [])) (cond (Nat.beq pc 19) (some (.ireturn, 20, [])) (none))) (cond (Nat.beq pc 14) (some (.iload_n 2, 15, [])) (cond (Nat.beq pc 15) (some (.invokevirtual 83, 18, [])) (none)))) (cond (Nat.beq pc 11) (some (.aload_n 0, 12, [])) (cond (Nat.beq pc 12) (some (.iload_n 1, 13, [])) (cond (Nat.beq pc 13) (some (.iconst 0, 14, [])) (none))))) (cond (Nat.ble 3 pc) (cond (Nat.ble 7 pc) (cond (Nat.beq pc 7) (some (.iload_n 2, 8, [])) (cond (Nat.beq pc 8) (some (.invokevirtual 83, 11, [])) (none))) (cond (Nat.beq pc 3) (some (.iload_n 1, 4, [])) (cond (Nat.beq pc 4) (some (.invokevirtual 80, 7, [])) (none)))) (cond (Nat.beq pc 0) (some (.aload_n 0, 1, [])) (cond (Nat.beq pc 1) (some (.iload_n 1, 2, [])) (cond (Nat.beq pc 2) (some (.aload_n 0, 3, [])) (none))))))
theorem qkX9_across__ok : ∀ pc i nx ts, qkX9_across_ pc = some (i, nx, ts) → am_cok cX9_across_ pc (i, nx, ts) = true := fun pc i nx ts h => am_tok_ok (n := 20) (by decide +kernel) (fun pc h => by show cond (Nat.ble 20 pc) _ _ = _; rw [Nat.ble_eq_true_of_le h]; rfl) h
def qaX9_across_ : Nat → Option CE := fun k => cond (Nat.beq k 80) (some qeX9_order) (cond (Nat.beq k 83) (some qeX9_point) (none))
theorem qyX9_across_ (l : Launch) : ∀ k e1, qaX9_across_ k = some e1 → am_cal l layM RX9 5 k e1 ∧ ceT e1 = 0 := q_cons ⟨am_calV (ci := 9) (qtX9_order l) qbX9_order (by decide) rfl (am_tb_at 1659 (by decide +kernel) rfl), rfl⟩ (q_cons ⟨am_calV (ci := 9) (qtX9_point l) qbX9_point (by decide) rfl (am_tb_at 1675 (by decide +kernel) rfl), rfl⟩ (q_nil))
def qxX9_across_ : CX := (qkX9_across_, layM, qfX9, qaX9_across_, qcX9, qlX9, qmX9, (some .int), false, none, 0, none, fun _ => none)
theorem qzX9_across_ (l : Launch) : am_sta l qxX9_across_ RX9 5 cX9_across_ := ⟨qkX9_across__ok, layM_ok, qfX9_ok, qcX9_ok, qlX9_ok, am_mthP qmX9_ok (by decide), fun k e1 h => (qyX9_across_ l k e1 h).1⟩
def qsX9_across_ : SP := fun as F A K => match as with
  | [.inr (.inr o), .inl c, .inl a] => cond (Nat.beq o 25) ((fgOK (mF A) ∧ (0 ≤ c ∧ c < mF A 0) ∧ (0 ≤ a ∧ a ≤ 1)) ∧ (K (some (some (vI (pxF (mF A) c (mF A (18 + c) - 1) a - pxF (mF A) c 0 a)))) F A)) (False)
  | _ => False
def qeX9_across_ : CE := (yX9_across_, cX9_across_, 3, (some .int), 2, some 9, 0, [], 0, 5, qsX9_across_)
theorem qbX9_across_ : am_mb qeX9_across_ := ⟨am_tb_at 1914 (by decide +kernel) rfl, am_tb_at 124 (by decide +kernel) rfl, ⟨by decide, by decide, by decide +kernel⟩, by decide, by decide, am_tb_at 1913 (by decide +kernel) rfl, am_tb_at 98 (by decide +kernel) rfl, _, _, rfl⟩
set_option maxRecDepth 20000 in
theorem qvX9_across__25 (c : Int) (a : Int) (F : FF) (A : AA) (K : KK) (h : (fgOK (mF A) ∧ (0 ≤ c ∧ c < mF A 0) ∧ (0 ≤ a ∧ a ≤ 1)) ∧ (K (some (some (vI (pxF (mF A) c (mF A (18 + c) - 1) a - pxF (mF A) c 0 a)))) F A)) : am_line qxX9_across_ 15 [vR 25, vI c, vI a] 3 F A K := by
  show am_stp qxX9_across_ (am_run qxX9_across_ (fun _ => none) (fun _ _ _ _ _ _ => False) K 15) K 0 [some (vR 25), some (vI c), some (vI a)] [] F A 0
  obtain ⟨hp, h⟩ := h
  obtain ⟨p1, p2', p3⟩ := hp
  have q1 := p1.1.1
  have q3 := (p1.2.2.1 c p2'.1 p2'.2).1

  show (0 ≤ c ∧ c < 8) ∧ (((0 ≤ c ∧ c < 8) ∧ (0 ≤ (mF A (18 + c) - 1) ∧ (mF A (18 + c) - 1) < 4) ∧ 0 ≤ a ∧ a ≤ 2) ∧ (((0 ≤ c ∧ c < 8) ∧ (0 ≤ 0 ∧ 0 < 4) ∧ 0 ≤ a ∧ a ≤ 2) ∧ (K (some (some (vI ((pxF (mF A) c (mF A (18 + c) - 1) a) - (pxF (mF A) c 0 a))))) F A)))
  refine ⟨by first | omega | exact ⟨by omega, by omega, by omega⟩, ?_⟩
  refine ⟨by first | omega | exact ⟨by omega, by omega, by omega⟩, ?_⟩
  refine ⟨by first | omega | exact ⟨by omega, by omega, by omega⟩, ?_⟩
  exact h
theorem qtX9_across_ (l : Launch) : am_CT l layM qeX9_across_ := am_met0 rfl (by decide +kernel) rfl rfl rfl rfl rfl (fun _ => rfl) rfl (qzX9_across_ l) (fun k e1 h => (qyX9_across_ l k e1 h).2) (fun as F A K h => by
  replace h : qsX9_across_ as F A K := h
  unfold qsX9_across_ at h
  split at h
  · rename_i o c a
    refine ⟨by first | exact Nat.le_of_ble_eq_true rfl | simp [am_fl, am_cat], ?_⟩
    replace h := am_cond2 h
    rcases h with ⟨hb, h⟩ | h
    · skip
      have hb0 := hb
      have hb0 := am_bq hb0
      subst hb0
      exact am_way_line (qvX9_across__25 c a F A K h)
    exact h.elim
  · exact h.elim)
def qkX9_numberOf : Nat → Option CI := fun pc => cond (Nat.ble 46 pc) none (cond (Nat.ble 23 pc) (cond (Nat.ble 35 pc) (cond (Nat.ble 39 pc) (cond (Nat.ble 43 pc) (cond (Nat.beq pc 43) (some (.imul, 44, [])) (cond (Nat.beq pc 44) (some (.isub, 45, [])) (cond (Nat.beq pc 45) (some (.ireturn, 46, [])) (none)))) (cond (Nat.beq pc 39) (some (.invokevirtual 83, 42, [])) (cond (Nat.beq pc 42) (some (.isub, 43, [])) (none)))) (cond (Nat.ble 37 pc) (cond (Nat.beq pc 37) (some (.iconst 0, 38, [])) (cond (Nat.beq pc 38) (some (.iconst 0, 39, [])) (none))) (cond (Nat.beq pc 35) (some (.aload_n 0, 36, [])) (cond (Nat.beq pc 36) (some (.iload_n 1, 37, [])) (none))))) (cond (Nat.ble 29 pc) (cond (Nat.ble 31 pc) (cond (Nat.beq pc 31) (some (.iconst 0, 32, [])) (cond (Nat.beq pc 32) (some (.invokevirtual 83, 35, [])) (none))) (cond (Nat.beq pc 29) (some (.iload_n 1, 30, [])) (cond (Nat.beq pc 30) (some (.iload_n 2, 31, [])) (none)))) (cond (Nat.ble 25 pc) (cond (Nat.beq pc 25) (some (.invokevirtual 366, 28, [])) (cond (Nat.beq pc 28) (some (.aload_n 0, 29, [])) (none))) (cond (Nat.beq pc 23) (some (.iload_n 1, 24, [])) (cond (Nat.beq pc 24) (some (.iconst 1, 25, [])) (none)))))) (cond (Nat.ble 10 pc) (cond (Nat.ble 16 pc) (cond (Nat.ble 20 pc) (cond (Nat.beq pc 20) (some (.isub, 21, [])) (cond (Nat.beq pc 21) (some (.imul, 22, [])) (cond (Nat.beq pc 22) (some (.aload_n 0, 23, [])) (none)))) (cond (Nat.beq pc 16) (some (.iconst 1, 17, [])) (cond (Nat.beq pc 17) (some (.invokevirtual 83, 20, [])) (none)))) (cond (Nat.ble 14 pc) (cond (Nat.beq pc 14) (some (.iload_n 1, 15, [])) (cond (Nat.beq pc 15) (some (.iconst 0, 16, [])) (none))) (cond (Nat.beq pc 10) (some (.invokevirtual 83, 13, [])) (cond (Nat.beq pc 13) (some (.aload_n 0, 14, [])) (none))))) (cond (Nat.ble 6 pc) (cond (Nat.ble 8 pc) (cond (Nat.beq pc 8) (some (.iload_n 2, 9, [])) (cond (Nat.beq pc 9) (some (.iconst 1, 10, [])) (none))) (cond (Nat.beq pc 6) (some (.aload_n 0, 7, [])) (cond (Nat.beq pc 7) (some (.iload_n 1, 8, [])) (none)))) (cond (Nat.ble 2 pc) (cond (Nat.beq pc 2) (some (.iconst 0, 3, [])) (cond (Nat.beq pc 3) (some (.invokevirtual 366, 6, [])) (none))) (cond (Nat.beq pc 0) (some (.aload_n 0, 1, [])) (cond (Nat.beq pc 1) (some (.iload_n 1, 2, [])) (none)))))))
theorem qkX9_numberOf_ok : ∀ pc i nx ts, qkX9_numberOf pc = some (i, nx, ts) → am_cok cX9_numberOf pc (i, nx, ts) = true := fun pc i nx ts h => am_tok_ok (n := 46) (by decide +kernel) (fun pc h => by show cond (Nat.ble 46 pc) _ _ = _; rw [Nat.ble_eq_true_of_le h]; rfl) h
def qaX9_numberOf : Nat → Option CE := fun k => cond (Nat.beq k 366) (some qeX9_across_) (cond (Nat.beq k 83) (some qeX9_point) (none))
theorem qyX9_numberOf (l : Launch) : ∀ k e1, qaX9_numberOf k = some e1 → am_cal l layM RX9 6 k e1 ∧ ceT e1 = 0 := q_cons ⟨am_calV (ci := 9) (qtX9_across_ l) qbX9_across_ (by decide) rfl (am_tb_at 1911 (by decide +kernel) rfl), rfl⟩ (q_cons ⟨am_calV (ci := 9) (qtX9_point l) qbX9_point (by decide) rfl (am_tb_at 1675 (by decide +kernel) rfl), rfl⟩ (q_nil))
def qxX9_numberOf : CX := (qkX9_numberOf, layM, qfX9, qaX9_numberOf, qcX9, qlX9, qmX9, (some .int), false, none, 0, none, fun _ => none)
theorem qzX9_numberOf (l : Launch) : am_sta l qxX9_numberOf RX9 6 cX9_numberOf := ⟨qkX9_numberOf_ok, layM_ok, qfX9_ok, qcX9_ok, qlX9_ok, am_mthP qmX9_ok (by decide), fun k e1 h => (qyX9_numberOf l k e1 h).1⟩
def qsX9_numberOf : SP := fun as F A K => match as with
  | [.inr (.inr o), .inl c, .inl k] => cond (Nat.beq o 25) ((fgOK (mF A) ∧ (0 ≤ c ∧ c < mF A 0) ∧ (0 ≤ k ∧ k < 4)) ∧ (K (some (some (vI (bnN (mF A) c k)))) F A)) (False)
  | _ => False
def qeX9_numberOf : CE := (yX9_numberOf, cX9_numberOf, 3, (some .int), 2, some 9, 0, [], 0, 6, qsX9_numberOf)
theorem qbX9_numberOf : am_mb qeX9_numberOf := ⟨am_tb_at 1910 (by decide +kernel) rfl, am_tb_at 124 (by decide +kernel) rfl, ⟨by decide, by decide, by decide +kernel⟩, by decide, by decide, am_tb_at 1909 (by decide +kernel) rfl, am_tb_at 97 (by decide +kernel) rfl, _, _, rfl⟩
set_option maxRecDepth 20000 in
theorem qvX9_numberOf_25 (c : Int) (k : Int) (F : FF) (A : AA) (K : KK) (h : (fgOK (mF A) ∧ (0 ≤ c ∧ c < mF A 0) ∧ (0 ≤ k ∧ k < 4)) ∧ (K (some (some (vI (bnN (mF A) c k)))) F A)) : am_line qxX9_numberOf 35 [vR 25, vI c, vI k] 3 F A K := by
  show am_stp qxX9_numberOf (am_run qxX9_numberOf (fun _ => none) (fun _ _ _ _ _ _ => False) K 35) K 0 [some (vR 25), some (vI c), some (vI k)] [] F A 0
  obtain ⟨hp, h⟩ := h
  obtain ⟨p1, p2', p3⟩ := hp
  have q1 := p1.1.1
  have q3 := (p1.2.2.1 c p2'.1 p2'.2).1

  show (fgOK (mF A) ∧ (0 ≤ c ∧ c < mF A 0) ∧ (0 ≤ 0 ∧ 0 ≤ 1)) ∧ (((0 ≤ c ∧ c < 8) ∧ (0 ≤ k ∧ k < 4) ∧ 0 ≤ 1 ∧ 1 ≤ 2) ∧ (((0 ≤ c ∧ c < 8) ∧ (0 ≤ 0 ∧ 0 < 4) ∧ 0 ≤ 1 ∧ 1 ≤ 2) ∧ ((fgOK (mF A) ∧ (0 ≤ c ∧ c < mF A 0) ∧ (0 ≤ 1 ∧ 1 ≤ 1)) ∧ (((0 ≤ c ∧ c < 8) ∧ (0 ≤ k ∧ k < 4) ∧ 0 ≤ 0 ∧ 0 ≤ 2) ∧ (((0 ≤ c ∧ c < 8) ∧ (0 ≤ 0 ∧ 0 < 4) ∧ 0 ≤ 0 ∧ 0 ≤ 2) ∧ (K (some (some (vI (((pxF (mF A) c (mF A (18 + c) - 1) 0 - pxF (mF A) c 0 0) * ((pxF (mF A) c k 1) - (pxF (mF A) c 0 1))) - ((pxF (mF A) c (mF A (18 + c) - 1) 1 - pxF (mF A) c 0 1) * ((pxF (mF A) c k 0) - (pxF (mF A) c 0 0))))))) F A))))))
  refine ⟨by first | decide | omega | exact ⟨by omega, by omega, by omega⟩ | exact ⟨p1, p2', by omega⟩, ?_⟩
  refine ⟨by first | decide | omega | exact ⟨by omega, by omega, by omega⟩ | exact ⟨p1, p2', by omega⟩, ?_⟩
  refine ⟨by first | decide | omega | exact ⟨by omega, by omega, by omega⟩ | exact ⟨p1, p2', by omega⟩, ?_⟩
  refine ⟨by first | decide | omega | exact ⟨by omega, by omega, by omega⟩ | exact ⟨p1, p2', by omega⟩, ?_⟩
  refine ⟨by first | decide | omega | exact ⟨by omega, by omega, by omega⟩ | exact ⟨p1, p2', by omega⟩, ?_⟩
  refine ⟨by first | decide | omega | exact ⟨by omega, by omega, by omega⟩ | exact ⟨p1, p2', by omega⟩, ?_⟩
  exact h
theorem qtX9_numberOf (l : Launch) : am_CT l layM qeX9_numberOf := am_met0 rfl (by decide +kernel) rfl rfl rfl rfl rfl (fun _ => rfl) rfl (qzX9_numberOf l) (fun k e1 h => (qyX9_numberOf l k e1 h).2) (fun as F A K h => by
  replace h : qsX9_numberOf as F A K := h
  unfold qsX9_numberOf at h
  split at h
  · rename_i o c k
    refine ⟨by first | exact Nat.le_of_ble_eq_true rfl | simp [am_fl, am_cat], ?_⟩
    replace h := am_cond2 h
    rcases h with ⟨hb, h⟩ | h
    · skip
      have hb0 := hb
      have hb0 := am_bq hb0
      subst hb0
      exact am_way_line (qvX9_numberOf_25 c k F A K h)
    exact h.elim
  · exact h.elim)
def qkX9_low : Nat → Option CI := fun pc => cond (Nat.ble 37 pc) none (cond (Nat.ble 15 pc) (cond (Nat.ble 25 pc) (cond (Nat.ble 32 pc) (cond (Nat.beq pc 32) (some (.goto (-23), 35, [9])) (cond (Nat.beq pc 35) (some (.iload_n 2, 36, [])) (cond (Nat.beq pc 36) (some (.ireturn, 37, [])) (none)))) (cond (Nat.beq pc 25) (some (.invokestatic 371, 28, [])) (cond (Nat.beq pc 28) (some (.istore_n 2, 29, [])) (cond (Nat.beq pc 29) (some (.iinc 3 1, 32, [])) (none))))) (cond (Nat.ble 20 pc) (cond (Nat.beq pc 20) (some (.iload_n 1, 21, [])) (cond (Nat.beq pc 21) (some (.iload_n 3, 22, [])) (cond (Nat.beq pc 22) (some (.invokevirtual 368, 25, [])) (none)))) (cond (Nat.beq pc 15) (some (.if_icmp .ge 20, 18, [35])) (cond (Nat.beq pc 18) (some (.iload_n 2, 19, [])) (cond (Nat.beq pc 19) (some (.aload_n 0, 20, [])) (none)))))) (cond (Nat.ble 7 pc) (cond (Nat.ble 10 pc) (cond (Nat.beq pc 10) (some (.aload_n 0, 11, [])) (cond (Nat.beq pc 11) (some (.iload_n 1, 12, [])) (cond (Nat.beq pc 12) (some (.invokevirtual 76, 15, [])) (none)))) (cond (Nat.beq pc 7) (some (.iconst 1, 8, [])) (cond (Nat.beq pc 8) (some (.istore_n 3, 9, [])) (cond (Nat.beq pc 9) (some (.iload_n 3, 10, [])) (none))))) (cond (Nat.ble 2 pc) (cond (Nat.beq pc 2) (some (.iconst 0, 3, [])) (cond (Nat.beq pc 3) (some (.invokevirtual 368, 6, [])) (cond (Nat.beq pc 6) (some (.istore_n 2, 7, [])) (none)))) (cond (Nat.beq pc 0) (some (.aload_n 0, 1, [])) (cond (Nat.beq pc 1) (some (.iload_n 1, 2, [])) (none))))))
theorem qkX9_low_ok : ∀ pc i nx ts, qkX9_low pc = some (i, nx, ts) → am_cok cX9_low pc (i, nx, ts) = true := fun pc i nx ts h => am_tok_ok (n := 37) (by decide +kernel) (fun pc h => by show cond (Nat.ble 37 pc) _ _ = _; rw [Nat.ble_eq_true_of_le h]; rfl) h
def qaX9_low : Nat → Option CE := fun k => cond (Nat.beq k 368) (some qeX9_numberOf) (cond (Nat.beq k 76) (some qeX9_points) (none))
theorem qyX9_low (l : Launch) : ∀ k e1, qaX9_low k = some e1 → am_cal l layM RX9 7 k e1 ∧ ceT e1 = 0 := q_cons ⟨am_calV (ci := 9) (qtX9_numberOf l) qbX9_numberOf (by decide) rfl (am_tb_at 1907 (by decide +kernel) rfl), rfl⟩ (q_cons ⟨am_calV (ci := 9) (qtX9_points l) qbX9_points (by decide) rfl (am_tb_at 1663 (by decide +kernel) rfl), rfl⟩ (q_nil))
def qxX9_low : CX := (qkX9_low, layM, qfX9, qaX9_low, qcX9, qlX9, qmX9, (some .int), false, none, 0, none, fun _ => none)
theorem qzX9_low (l : Launch) : am_sta l qxX9_low RX9 7 cX9_low := ⟨qkX9_low_ok, layM_ok, qfX9_ok, qcX9_ok, qlX9_ok, am_mthP qmX9_ok (by decide), fun k e1 h => (qyX9_low l k e1 h).1⟩
def qsX9_low : SP := fun as F A K => match as with
  | [.inr (.inr o), .inl c] => cond (Nat.beq o 25) ((fgOK (mF A) ∧ (0 ≤ c ∧ c < mF A 0)) ∧ (K (some (some (vI (bLow (mF A) c (Int.toNat (mF A (18 + c) - 1)))))) F A)) (False)
  | _ => False
def qeX9_low : CE := (yX9_low, cX9_low, 4, (some .int), 1, some 9, 0, [], 0, 7, qsX9_low)
theorem qbX9_low : am_mb qeX9_low := ⟨am_tb_at 1906 (by decide +kernel) rfl, am_tb_at 124 (by decide +kernel) rfl, ⟨by decide, by decide, by decide +kernel⟩, by decide, by decide, am_tb_at 1905 (by decide +kernel) rfl, am_tb_at 96 (by decide +kernel) rfl, _, _, rfl⟩
def qnX9_low_25 : CUT := fun pc => cond (Nat.beq pc 9) (some [true, true, true, true]) (none)
def qiX9_low_25 (c : Int) (F0 : FF) (A0 : AA) : REC := fun pc ls st F A u => cond (Nat.beq pc 9) (match ls, st, u with
    | [some (.inr (.inr s0)), some (.inl s1), some (.inl v), some (.inl k)], [], 0 => s0 = 25 ∧ s1 = c ∧ F = F0 ∧ A = A0 ∧ ((1 ≤ k ∧ k ≤ mF A0 (18 + c)) ∧ v = bLow (mF A0) c (Int.toNat (k - 1)))
    | _, _, _ => False) (False)
def quX9_low_25 : Nat → LVs → List AV → FF → AA → Nat := fun pc ls _ F A => cond (Nat.beq pc 9) (match ls with
    | [some (.inr (.inr s0)), some (.inl s1), some (.inl v), some (.inl k)] => Int.toNat (20 - k)
    | _ => 0) (0)
set_option maxRecDepth 20000 in
theorem qvX9_low_25_0 (c : Int) (F0 : FF) (A0 : AA) (K : KK) (h : (fgOK (mF A0) ∧ (0 ≤ c ∧ c < mF A0 0)) ∧ (K (some (some (vI (bLow (mF A0) c (Int.toNat (mF A0 (18 + c) - 1)))))) F0 A0)) : am_stp qxX9_low (am_run qxX9_low qnX9_low_25 (qiX9_low_25 c F0 A0) K 17) K 0 (am_ent [vR 25, vI c] 4) [] F0 A0 0 := by
  show am_stp qxX9_low (am_run qxX9_low qnX9_low_25 (qiX9_low_25 c F0 A0) K 17) K 0 [some (vR 25), some (vI c), none, none] [] F0 A0 0
  obtain ⟨hp, h⟩ := h
  obtain ⟨p1, p2'⟩ := hp
  have q1 := p1.1.1
  have q3 := (p1.2.2.1 c p2'.1 p2'.2).1
  show (fgOK (mF A0) ∧ (0 ≤ c ∧ c < mF A0 0) ∧ (0 ≤ 0 ∧ 0 < 4)) ∧ (25 = 25 ∧ c = c ∧ F0 = F0 ∧ A0 = A0 ∧ ((1 ≤ 1 ∧ 1 ≤ mF A0 (18 + c)) ∧ (bnN (mF A0) c 0) = bLow (mF A0) c (Int.toNat (1 - 1))))
  refine ⟨by first | decide | omega | exact ⟨p1, p2', by omega⟩, ?_⟩
  refine ⟨rfl, rfl, rfl, rfl, ?_⟩
  exact ⟨by omega, bnN_0⟩
set_option maxRecDepth 20000 in
theorem qvX9_low_25_9 (c : Int) (F0 : FF) (A0 : AA) (K : KK) (h : (fgOK (mF A0) ∧ (0 ≤ c ∧ c < mF A0 0)) ∧ (K (some (some (vI (bLow (mF A0) c (Int.toNat (mF A0 (18 + c) - 1)))))) F0 A0)) (v : Int) (k : Int) (hi : (1 ≤ k ∧ k ≤ mF A0 (18 + c)) ∧ v = bLow (mF A0) c (Int.toNat (k - 1))) : am_stp qxX9_low (am_run qxX9_low qnX9_low_25 (fun pc ls st F9 A9 u => qiX9_low_25 c F0 A0 pc ls st F9 A9 u ∧ quX9_low_25 pc ls st F9 A9 < quX9_low_25 9 [some (vR 25), some (vI c), some (vI v), some (vI k)] [] F0 A0) K 17) K 9 [some (vR 25), some (vI c), some (vI v), some (vI k)] [] F0 A0 0 := by
  obtain ⟨hp, h⟩ := h
  obtain ⟨p1, p2'⟩ := hp
  have q1 := p1.1.1
  have q3 := (p1.2.2.1 c p2'.1 p2'.2).1
  obtain ⟨h1, h2⟩ := hi
  show (0 ≤ c ∧ c < 8) ∧ ((w32 k < w32 (mF A0 (18 + c)) → ((fgOK (mF A0) ∧ (0 ≤ c ∧ c < mF A0 0) ∧ (0 ≤ k ∧ k < 4)) ∧ ((25 = 25 ∧ c = c ∧ F0 = F0 ∧ A0 = A0 ∧ ((1 ≤ (k + 1) ∧ (k + 1) ≤ mF A0 (18 + c)) ∧ (x_min v (bnN (mF A0) c k)) = bLow (mF A0) c (Int.toNat ((k + 1) - 1)))) ∧ (Int.toNat (20 - (k + 1))) < (Int.toNat (20 - k))))) ∧ (¬ w32 k < w32 (mF A0 (18 + c)) → (K (some (some (vI v))) F0 A0)))
  refine ⟨by first | omega | exact ⟨p1, p2', by omega⟩, ?_⟩
  refine ⟨fun c1 => ?_, fun c1 => ?_⟩
  · skip
    (try simp (disch := omega) only [fat_in, w32_0, wbi0, Classical.not_not, w32_id] at c1)
    refine ⟨by first | omega | exact ⟨p1, p2', by omega⟩, ?_⟩
    refine ⟨⟨rfl, rfl, rfl, rfl, ?_⟩, by omega⟩
    refine ⟨by omega, ?_⟩
    rw [h2, show k + 1 - 1 = k by omega, bLow_s h1.1]
  · skip
    (try simp (disch := omega) only [fat_in, w32_0, wbi0, Classical.not_not, w32_id] at c1)
    refine K_eq h ?_
    rw [h2, show k = mF A0 (18 + c) by omega]
set_option maxRecDepth 20000 in
theorem qvX9_low_25 (c : Int) (F0 : FF) (A0 : AA) (K : KK) (h : (fgOK (mF A0) ∧ (0 ≤ c ∧ c < mF A0 0)) ∧ (K (some (some (vI (bLow (mF A0) c (Int.toNat (mF A0 (18 + c) - 1)))))) F0 A0)) : am_body qxX9_low qnX9_low_25 17 (qiX9_low_25 c F0 A0) quX9_low_25 [vR 25, vI c] 4 F0 A0 K := by
  refine ⟨qvX9_low_25_0 c F0 A0 K h, fun pc ls st F A u hI => ?_⟩
  unfold qiX9_low_25 at hI
  replace hI := am_cond2 hI
  rcases hI with ⟨hb, hI⟩ | hI
  · have hb := am_bq hb
    subst hb
    split at hI
    · rename_i s0 s1 v k
      obtain ⟨e0, e1, e2, e3, hI⟩ := hI
      subst e0
      subst e1
      subst e2
      subst e3
      exact qvX9_low_25_9 _ _ _ K h _ _ hI
    · exact hI.elim
  exact hI.elim
theorem qtX9_low (l : Launch) : am_CT l layM qeX9_low := am_met0 rfl (by decide +kernel) rfl rfl rfl rfl rfl (fun _ => rfl) rfl (qzX9_low l) (fun k e1 h => (qyX9_low l k e1 h).2) (fun as F A K h => by
  replace h : qsX9_low as F A K := h
  unfold qsX9_low at h
  split at h
  · rename_i o c
    refine ⟨by first | exact Nat.le_of_ble_eq_true rfl | simp [am_fl, am_cat], ?_⟩
    replace h := am_cond2 h
    rcases h with ⟨hb, h⟩ | h
    · skip
      have hb0 := hb
      have hb0 := am_bq hb0
      subst hb0
      exact am_way_body (qvX9_low_25 c F A K h)
    exact h.elim
  · exact h.elim)
def qkX9_high : Nat → Option CI := fun pc => cond (Nat.ble 37 pc) none (cond (Nat.ble 15 pc) (cond (Nat.ble 25 pc) (cond (Nat.ble 32 pc) (cond (Nat.beq pc 32) (some (.goto (-23), 35, [9])) (cond (Nat.beq pc 35) (some (.iload_n 2, 36, [])) (cond (Nat.beq pc 36) (some (.ireturn, 37, [])) (none)))) (cond (Nat.beq pc 25) (some (.invokestatic 376, 28, [])) (cond (Nat.beq pc 28) (some (.istore_n 2, 29, [])) (cond (Nat.beq pc 29) (some (.iinc 3 1, 32, [])) (none))))) (cond (Nat.ble 20 pc) (cond (Nat.beq pc 20) (some (.iload_n 1, 21, [])) (cond (Nat.beq pc 21) (some (.iload_n 3, 22, [])) (cond (Nat.beq pc 22) (some (.invokevirtual 368, 25, [])) (none)))) (cond (Nat.beq pc 15) (some (.if_icmp .ge 20, 18, [35])) (cond (Nat.beq pc 18) (some (.iload_n 2, 19, [])) (cond (Nat.beq pc 19) (some (.aload_n 0, 20, [])) (none)))))) (cond (Nat.ble 7 pc) (cond (Nat.ble 10 pc) (cond (Nat.beq pc 10) (some (.aload_n 0, 11, [])) (cond (Nat.beq pc 11) (some (.iload_n 1, 12, [])) (cond (Nat.beq pc 12) (some (.invokevirtual 76, 15, [])) (none)))) (cond (Nat.beq pc 7) (some (.iconst 1, 8, [])) (cond (Nat.beq pc 8) (some (.istore_n 3, 9, [])) (cond (Nat.beq pc 9) (some (.iload_n 3, 10, [])) (none))))) (cond (Nat.ble 2 pc) (cond (Nat.beq pc 2) (some (.iconst 0, 3, [])) (cond (Nat.beq pc 3) (some (.invokevirtual 368, 6, [])) (cond (Nat.beq pc 6) (some (.istore_n 2, 7, [])) (none)))) (cond (Nat.beq pc 0) (some (.aload_n 0, 1, [])) (cond (Nat.beq pc 1) (some (.iload_n 1, 2, [])) (none))))))
theorem qkX9_high_ok : ∀ pc i nx ts, qkX9_high pc = some (i, nx, ts) → am_cok cX9_high pc (i, nx, ts) = true := fun pc i nx ts h => am_tok_ok (n := 37) (by decide +kernel) (fun pc h => by show cond (Nat.ble 37 pc) _ _ = _; rw [Nat.ble_eq_true_of_le h]; rfl) h
def qaX9_high : Nat → Option CE := fun k => cond (Nat.beq k 368) (some qeX9_numberOf) (cond (Nat.beq k 76) (some qeX9_points) (none))
theorem qyX9_high (l : Launch) : ∀ k e1, qaX9_high k = some e1 → am_cal l layM RX9 7 k e1 ∧ ceT e1 = 0 := q_cons ⟨am_calV (ci := 9) (qtX9_numberOf l) qbX9_numberOf (by decide) rfl (am_tb_at 1907 (by decide +kernel) rfl), rfl⟩ (q_cons ⟨am_calV (ci := 9) (qtX9_points l) qbX9_points (by decide) rfl (am_tb_at 1663 (by decide +kernel) rfl), rfl⟩ (q_nil))
def qxX9_high : CX := (qkX9_high, layM, qfX9, qaX9_high, qcX9, qlX9, qmX9, (some .int), false, none, 0, none, fun _ => none)
theorem qzX9_high (l : Launch) : am_sta l qxX9_high RX9 7 cX9_high := ⟨qkX9_high_ok, layM_ok, qfX9_ok, qcX9_ok, qlX9_ok, am_mthP qmX9_ok (by decide), fun k e1 h => (qyX9_high l k e1 h).1⟩
def qsX9_high : SP := fun as F A K => match as with
  | [.inr (.inr o), .inl c] => cond (Nat.beq o 25) ((fgOK (mF A) ∧ (0 ≤ c ∧ c < mF A 0)) ∧ (K (some (some (vI (bHigh (mF A) c (Int.toNat (mF A (18 + c) - 1)))))) F A)) (False)
  | _ => False
def qeX9_high : CE := (yX9_high, cX9_high, 4, (some .int), 1, some 9, 0, [], 0, 7, qsX9_high)
theorem qbX9_high : am_mb qeX9_high := ⟨am_tb_at 1923 (by decide +kernel) rfl, am_tb_at 124 (by decide +kernel) rfl, ⟨by decide, by decide, by decide +kernel⟩, by decide, by decide, am_tb_at 1922 (by decide +kernel) rfl, am_tb_at 99 (by decide +kernel) rfl, _, _, rfl⟩
def qnX9_high_25 : CUT := fun pc => cond (Nat.beq pc 9) (some [true, true, true, true]) (none)
def qiX9_high_25 (c : Int) (F0 : FF) (A0 : AA) : REC := fun pc ls st F A u => cond (Nat.beq pc 9) (match ls, st, u with
    | [some (.inr (.inr s0)), some (.inl s1), some (.inl v), some (.inl k)], [], 0 => s0 = 25 ∧ s1 = c ∧ F = F0 ∧ A = A0 ∧ ((1 ≤ k ∧ k ≤ mF A0 (18 + c)) ∧ v = bHigh (mF A0) c (Int.toNat (k - 1)))
    | _, _, _ => False) (False)
def quX9_high_25 : Nat → LVs → List AV → FF → AA → Nat := fun pc ls _ F A => cond (Nat.beq pc 9) (match ls with
    | [some (.inr (.inr s0)), some (.inl s1), some (.inl v), some (.inl k)] => Int.toNat (20 - k)
    | _ => 0) (0)
set_option maxRecDepth 20000 in
theorem qvX9_high_25_0 (c : Int) (F0 : FF) (A0 : AA) (K : KK) (h : (fgOK (mF A0) ∧ (0 ≤ c ∧ c < mF A0 0)) ∧ (K (some (some (vI (bHigh (mF A0) c (Int.toNat (mF A0 (18 + c) - 1)))))) F0 A0)) : am_stp qxX9_high (am_run qxX9_high qnX9_high_25 (qiX9_high_25 c F0 A0) K 17) K 0 (am_ent [vR 25, vI c] 4) [] F0 A0 0 := by
  show am_stp qxX9_high (am_run qxX9_high qnX9_high_25 (qiX9_high_25 c F0 A0) K 17) K 0 [some (vR 25), some (vI c), none, none] [] F0 A0 0
  obtain ⟨hp, h⟩ := h
  obtain ⟨p1, p2'⟩ := hp
  have q1 := p1.1.1
  have q3 := (p1.2.2.1 c p2'.1 p2'.2).1
  show (fgOK (mF A0) ∧ (0 ≤ c ∧ c < mF A0 0) ∧ (0 ≤ 0 ∧ 0 < 4)) ∧ (25 = 25 ∧ c = c ∧ F0 = F0 ∧ A0 = A0 ∧ ((1 ≤ 1 ∧ 1 ≤ mF A0 (18 + c)) ∧ (bnN (mF A0) c 0) = bHigh (mF A0) c (Int.toNat (1 - 1))))
  refine ⟨by first | decide | omega | exact ⟨p1, p2', by omega⟩, ?_⟩
  refine ⟨rfl, rfl, rfl, rfl, ?_⟩
  exact ⟨by omega, bnN_0⟩
set_option maxRecDepth 20000 in
theorem qvX9_high_25_9 (c : Int) (F0 : FF) (A0 : AA) (K : KK) (h : (fgOK (mF A0) ∧ (0 ≤ c ∧ c < mF A0 0)) ∧ (K (some (some (vI (bHigh (mF A0) c (Int.toNat (mF A0 (18 + c) - 1)))))) F0 A0)) (v : Int) (k : Int) (hi : (1 ≤ k ∧ k ≤ mF A0 (18 + c)) ∧ v = bHigh (mF A0) c (Int.toNat (k - 1))) : am_stp qxX9_high (am_run qxX9_high qnX9_high_25 (fun pc ls st F9 A9 u => qiX9_high_25 c F0 A0 pc ls st F9 A9 u ∧ quX9_high_25 pc ls st F9 A9 < quX9_high_25 9 [some (vR 25), some (vI c), some (vI v), some (vI k)] [] F0 A0) K 17) K 9 [some (vR 25), some (vI c), some (vI v), some (vI k)] [] F0 A0 0 := by
  obtain ⟨hp, h⟩ := h
  obtain ⟨p1, p2'⟩ := hp
  have q1 := p1.1.1
  have q3 := (p1.2.2.1 c p2'.1 p2'.2).1
  obtain ⟨h1, h2⟩ := hi
  show (0 ≤ c ∧ c < 8) ∧ ((w32 k < w32 (mF A0 (18 + c)) → ((fgOK (mF A0) ∧ (0 ≤ c ∧ c < mF A0 0) ∧ (0 ≤ k ∧ k < 4)) ∧ ((25 = 25 ∧ c = c ∧ F0 = F0 ∧ A0 = A0 ∧ ((1 ≤ (k + 1) ∧ (k + 1) ≤ mF A0 (18 + c)) ∧ (x_max v (bnN (mF A0) c k)) = bHigh (mF A0) c (Int.toNat ((k + 1) - 1)))) ∧ (Int.toNat (20 - (k + 1))) < (Int.toNat (20 - k))))) ∧ (¬ w32 k < w32 (mF A0 (18 + c)) → (K (some (some (vI v))) F0 A0)))
  refine ⟨by first | omega | exact ⟨p1, p2', by omega⟩, ?_⟩
  refine ⟨fun c1 => ?_, fun c1 => ?_⟩
  · skip
    (try simp (disch := omega) only [fat_in, w32_0, wbi0, Classical.not_not, w32_id] at c1)
    refine ⟨by first | omega | exact ⟨p1, p2', by omega⟩, ?_⟩
    refine ⟨⟨rfl, rfl, rfl, rfl, ?_⟩, by omega⟩
    refine ⟨by omega, ?_⟩
    rw [h2, show k + 1 - 1 = k by omega, bHigh_s h1.1]
  · skip
    (try simp (disch := omega) only [fat_in, w32_0, wbi0, Classical.not_not, w32_id] at c1)
    refine K_eq h ?_
    rw [h2, show k = mF A0 (18 + c) by omega]
set_option maxRecDepth 20000 in
theorem qvX9_high_25 (c : Int) (F0 : FF) (A0 : AA) (K : KK) (h : (fgOK (mF A0) ∧ (0 ≤ c ∧ c < mF A0 0)) ∧ (K (some (some (vI (bHigh (mF A0) c (Int.toNat (mF A0 (18 + c) - 1)))))) F0 A0)) : am_body qxX9_high qnX9_high_25 17 (qiX9_high_25 c F0 A0) quX9_high_25 [vR 25, vI c] 4 F0 A0 K := by
  refine ⟨qvX9_high_25_0 c F0 A0 K h, fun pc ls st F A u hI => ?_⟩
  unfold qiX9_high_25 at hI
  replace hI := am_cond2 hI
  rcases hI with ⟨hb, hI⟩ | hI
  · have hb := am_bq hb
    subst hb
    split at hI
    · rename_i s0 s1 v k
      obtain ⟨e0, e1, e2, e3, hI⟩ := hI
      subst e0
      subst e1
      subst e2
      subst e3
      exact qvX9_high_25_9 _ _ _ K h _ _ hI
    · exact hI.elim
  exact hI.elim
theorem qtX9_high (l : Launch) : am_CT l layM qeX9_high := am_met0 rfl (by decide +kernel) rfl rfl rfl rfl rfl (fun _ => rfl) rfl (qzX9_high l) (fun k e1 h => (qyX9_high l k e1 h).2) (fun as F A K h => by
  replace h : qsX9_high as F A K := h
  unfold qsX9_high at h
  split at h
  · rename_i o c
    refine ⟨by first | exact Nat.le_of_ble_eq_true rfl | simp [am_fl, am_cat], ?_⟩
    replace h := am_cond2 h
    rcases h with ⟨hb, h⟩ | h
    · skip
      have hb0 := hb
      have hb0 := am_bq hb0
      subst hb0
      exact am_way_body (qvX9_high_25 c F A K h)
    exact h.elim
  · exact h.elim)
def qkX9_bandLow : Nat → Option CI := fun pc => cond (Nat.ble 22 pc) none (cond (Nat.ble 12 pc) (cond (Nat.ble 17 pc) (cond (Nat.beq pc 17) (some (.goto 4, 20, [21])) (cond (Nat.beq pc 20) (some (.iconst 0, 21, [])) (cond (Nat.beq pc 21) (some (.ireturn, 22, [])) (none)))) (cond (Nat.beq pc 12) (some (.aload_n 0, 13, [])) (cond (Nat.beq pc 13) (some (.iload_n 1, 14, [])) (cond (Nat.beq pc 14) (some (.invokevirtual 379, 17, [])) (none))))) (cond (Nat.ble 3 pc) (cond (Nat.beq pc 3) (some (.invokevirtual 298, 6, [])) (cond (Nat.beq pc 6) (some (.invokevirtual 301, 9, [])) (cond (Nat.beq pc 9) (some (.ifCond .eq 11, 12, [20])) (none)))) (cond (Nat.beq pc 0) (some (.aload_n 0, 1, [])) (cond (Nat.beq pc 1) (some (.aload_n 0, 2, [])) (cond (Nat.beq pc 2) (some (.iload_n 1, 3, [])) (none))))))
theorem qkX9_bandLow_ok : ∀ pc i nx ts, qkX9_bandLow pc = some (i, nx, ts) → am_cok cX9_bandLow pc (i, nx, ts) = true := fun pc i nx ts h => am_tok_ok (n := 22) (by decide +kernel) (fun pc h => by show cond (Nat.ble 22 pc) _ _ = _; rw [Nat.ble_eq_true_of_le h]; rfl) h
def qaX9_bandLow : Nat → Option CE := fun k => cond (Nat.beq k 298) (some qeX9_isCurve) (cond (Nat.beq k 301) (some qeX9_checks) (cond (Nat.beq k 379) (some qeX9_low) (none)))
theorem qyX9_bandLow (l : Launch) : ∀ k e1, qaX9_bandLow k = some e1 → am_cal l layM RX9 8 k e1 ∧ ceT e1 = 0 := q_cons ⟨am_calV (ci := 9) (qtX9_isCurve l) qbX9_isCurve (by decide) rfl (am_tb_at 1651 (by decide +kernel) rfl), rfl⟩ (q_cons ⟨am_calV (ci := 9) (qtX9_checks l) qbX9_checks (by decide) rfl (am_tb_at 1655 (by decide +kernel) rfl), rfl⟩ (q_cons ⟨am_calV (ci := 9) (qtX9_low l) qbX9_low (by decide) rfl (am_tb_at 1903 (by decide +kernel) rfl), rfl⟩ (q_nil)))
def qxX9_bandLow : CX := (qkX9_bandLow, layM, qfX9, qaX9_bandLow, qcX9, qlX9, qmX9, (some .int), false, none, 0, none, fun _ => none)
theorem qzX9_bandLow (l : Launch) : am_sta l qxX9_bandLow RX9 8 cX9_bandLow := ⟨qkX9_bandLow_ok, layM_ok, qfX9_ok, qcX9_ok, qlX9_ok, am_mthP qmX9_ok (by decide), fun k e1 h => (qyX9_bandLow l k e1 h).1⟩
def qsX9_bandLow : SP := fun as F A K => match as with
  | [.inr (.inr o), .inl c] => cond (Nat.beq o 25) ((fgOK (mF A) ∧ (-2147483648 ≤ c ∧ c < 2147483648)) ∧ (∀ (G_1 : FF) (B_1 : AA), (qdP F G_1 A B_1 ∧ G_1 25 0 = (if 0 ≤ c ∧ c < mF A 0 then 0 else 1)) → (K (some (some (vI (if 0 ≤ c ∧ c < mF A 0 then bLow (mF A) c (Int.toNat (mF A (18 + c) - 1)) else 0)))) G_1 B_1))) (False)
  | _ => False
def qeX9_bandLow : CE := (yX9_bandLow, cX9_bandLow, 2, (some .int), 1, some 9, 0, [], 0, 8, qsX9_bandLow)
theorem qbX9_bandLow : am_mb qeX9_bandLow := ⟨am_tb_at 1902 (by decide +kernel) rfl, am_tb_at 124 (by decide +kernel) rfl, ⟨by decide, by decide, by decide +kernel⟩, by decide, by decide, am_tb_at 1900 (by decide +kernel) rfl, am_tb_at 1901 (by decide +kernel) rfl, _, _, rfl⟩
set_option maxRecDepth 20000 in
theorem qvX9_bandLow_25 (c : Int) (F : FF) (A : AA) (K : KK) (h : (fgOK (mF A) ∧ (-2147483648 ≤ c ∧ c < 2147483648)) ∧ (∀ (G_1 : FF) (B_1 : AA), (qdP F G_1 A B_1 ∧ G_1 25 0 = (if 0 ≤ c ∧ c < mF A 0 then 0 else 1)) → (K (some (some (vI (if 0 ≤ c ∧ c < mF A 0 then bLow (mF A) c (Int.toNat (mF A (18 + c) - 1)) else 0)))) G_1 B_1))) : am_line qxX9_bandLow 12 [vR 25, vI c] 2 F A K := by
  show am_stp qxX9_bandLow (am_run qxX9_bandLow (fun _ => none) (fun _ _ _ _ _ _ => False) K 12) K 0 [some (vR 25), some (vI c)] [] F A 0
  obtain ⟨hp, h⟩ := h
  have p1 := hp.1
  have q1 := p1.1.1
  have q2 := p1.1.2
  have q4 := p1.2.1

  show ((0 ≤ mF A 0 ∧ mF A 0 ≤ 8) ∧ (0 ≤ mF A 1 ∧ mF A 1 ≤ 6) ∧ (-2147483648 ≤ c ∧ c < 2147483648)) ∧ (((bi (0 ≤ c ∧ c < mF A 0)) = 0 ∨ (bi (0 ≤ c ∧ c < mF A 0)) = 1) ∧ ((w32 (bi (0 ≤ c ∧ c < mF A 0)) = w32 0 → (K (some (some (vI 0))) (upF F 25 0 (1 - (bi (0 ≤ c ∧ c < mF A 0)))) A)) ∧ (¬ (w32 (bi (0 ≤ c ∧ c < mF A 0)) = w32 0) → ((fgOK (mF A) ∧ (0 ≤ c ∧ c < mF A 0)) ∧ (K (some (some (vI (bLow (mF A) c (Int.toNat (mF A (18 + c) - 1)))))) (upF F 25 0 (1 - (bi (0 ≤ c ∧ c < mF A 0)))) A)))))
  refine ⟨by omega, ?_⟩
  refine ⟨by first | exact bi_01 | omega | exact ⟨p1, c1⟩, ?_⟩
  refine ⟨fun c1 => ?_, fun c1 => ?_⟩
  · skip
    (try simp (disch := omega) only [fat_in, w32_0, wbi0, Classical.not_not, w32_id] at c1)
    first
    | exact K_eq (h _ _ ⟨qdP_F (by decide), by rw [upF_s, bi_f c1, if_neg c1]; rfl⟩) (if_neg c1)
    | exact K_eq (h _ _ ⟨qdP_F (by decide), by rw [upF_s, bi_t c1, if_pos c1]; rfl⟩) (by rw [if_pos c1])
  · skip
    (try simp (disch := omega) only [fat_in, w32_0, wbi0, Classical.not_not, w32_id] at c1)
    refine ⟨by first | exact bi_01 | omega | exact ⟨p1, c1⟩, ?_⟩
    first
    | exact K_eq (h _ _ ⟨qdP_F (by decide), by rw [upF_s, bi_f c1, if_neg c1]; rfl⟩) (if_neg c1)
    | exact K_eq (h _ _ ⟨qdP_F (by decide), by rw [upF_s, bi_t c1, if_pos c1]; rfl⟩) (by rw [if_pos c1])
theorem qtX9_bandLow (l : Launch) : am_CT l layM qeX9_bandLow := am_met0 rfl (by decide +kernel) rfl rfl rfl rfl rfl (fun _ => rfl) rfl (qzX9_bandLow l) (fun k e1 h => (qyX9_bandLow l k e1 h).2) (fun as F A K h => by
  replace h : qsX9_bandLow as F A K := h
  unfold qsX9_bandLow at h
  split at h
  · rename_i o c
    refine ⟨by first | exact Nat.le_of_ble_eq_true rfl | simp [am_fl, am_cat], ?_⟩
    replace h := am_cond2 h
    rcases h with ⟨hb, h⟩ | h
    · skip
      have hb0 := hb
      have hb0 := am_bq hb0
      subst hb0
      exact am_way_line (qvX9_bandLow_25 c F A K h)
    exact h.elim
  · exact h.elim)
def qkX9_bandHigh : Nat → Option CI := fun pc => cond (Nat.ble 22 pc) none (cond (Nat.ble 12 pc) (cond (Nat.ble 17 pc) (cond (Nat.beq pc 17) (some (.goto 4, 20, [21])) (cond (Nat.beq pc 20) (some (.iconst 0, 21, [])) (cond (Nat.beq pc 21) (some (.ireturn, 22, [])) (none)))) (cond (Nat.beq pc 12) (some (.aload_n 0, 13, [])) (cond (Nat.beq pc 13) (some (.iload_n 1, 14, [])) (cond (Nat.beq pc 14) (some (.invokevirtual 382, 17, [])) (none))))) (cond (Nat.ble 3 pc) (cond (Nat.beq pc 3) (some (.invokevirtual 298, 6, [])) (cond (Nat.beq pc 6) (some (.invokevirtual 301, 9, [])) (cond (Nat.beq pc 9) (some (.ifCond .eq 11, 12, [20])) (none)))) (cond (Nat.beq pc 0) (some (.aload_n 0, 1, [])) (cond (Nat.beq pc 1) (some (.aload_n 0, 2, [])) (cond (Nat.beq pc 2) (some (.iload_n 1, 3, [])) (none))))))
theorem qkX9_bandHigh_ok : ∀ pc i nx ts, qkX9_bandHigh pc = some (i, nx, ts) → am_cok cX9_bandHigh pc (i, nx, ts) = true := fun pc i nx ts h => am_tok_ok (n := 22) (by decide +kernel) (fun pc h => by show cond (Nat.ble 22 pc) _ _ = _; rw [Nat.ble_eq_true_of_le h]; rfl) h
def qaX9_bandHigh : Nat → Option CE := fun k => cond (Nat.beq k 298) (some qeX9_isCurve) (cond (Nat.beq k 301) (some qeX9_checks) (cond (Nat.beq k 382) (some qeX9_high) (none)))
theorem qyX9_bandHigh (l : Launch) : ∀ k e1, qaX9_bandHigh k = some e1 → am_cal l layM RX9 8 k e1 ∧ ceT e1 = 0 := q_cons ⟨am_calV (ci := 9) (qtX9_isCurve l) qbX9_isCurve (by decide) rfl (am_tb_at 1651 (by decide +kernel) rfl), rfl⟩ (q_cons ⟨am_calV (ci := 9) (qtX9_checks l) qbX9_checks (by decide) rfl (am_tb_at 1655 (by decide +kernel) rfl), rfl⟩ (q_cons ⟨am_calV (ci := 9) (qtX9_high l) qbX9_high (by decide) rfl (am_tb_at 1920 (by decide +kernel) rfl), rfl⟩ (q_nil)))
def qxX9_bandHigh : CX := (qkX9_bandHigh, layM, qfX9, qaX9_bandHigh, qcX9, qlX9, qmX9, (some .int), false, none, 0, none, fun _ => none)
theorem qzX9_bandHigh (l : Launch) : am_sta l qxX9_bandHigh RX9 8 cX9_bandHigh := ⟨qkX9_bandHigh_ok, layM_ok, qfX9_ok, qcX9_ok, qlX9_ok, am_mthP qmX9_ok (by decide), fun k e1 h => (qyX9_bandHigh l k e1 h).1⟩
def qsX9_bandHigh : SP := fun as F A K => match as with
  | [.inr (.inr o), .inl c] => cond (Nat.beq o 25) ((fgOK (mF A) ∧ (-2147483648 ≤ c ∧ c < 2147483648)) ∧ (∀ (G_1 : FF) (B_1 : AA), (qdP F G_1 A B_1 ∧ G_1 25 0 = (if 0 ≤ c ∧ c < mF A 0 then 0 else 1)) → (K (some (some (vI (if 0 ≤ c ∧ c < mF A 0 then bHigh (mF A) c (Int.toNat (mF A (18 + c) - 1)) else 0)))) G_1 B_1))) (False)
  | _ => False
def qeX9_bandHigh : CE := (yX9_bandHigh, cX9_bandHigh, 2, (some .int), 1, some 9, 0, [], 0, 8, qsX9_bandHigh)
theorem qbX9_bandHigh : am_mb qeX9_bandHigh := ⟨am_tb_at 1919 (by decide +kernel) rfl, am_tb_at 124 (by decide +kernel) rfl, ⟨by decide, by decide, by decide +kernel⟩, by decide, by decide, am_tb_at 1917 (by decide +kernel) rfl, am_tb_at 1918 (by decide +kernel) rfl, _, _, rfl⟩
set_option maxRecDepth 20000 in
theorem qvX9_bandHigh_25 (c : Int) (F : FF) (A : AA) (K : KK) (h : (fgOK (mF A) ∧ (-2147483648 ≤ c ∧ c < 2147483648)) ∧ (∀ (G_1 : FF) (B_1 : AA), (qdP F G_1 A B_1 ∧ G_1 25 0 = (if 0 ≤ c ∧ c < mF A 0 then 0 else 1)) → (K (some (some (vI (if 0 ≤ c ∧ c < mF A 0 then bHigh (mF A) c (Int.toNat (mF A (18 + c) - 1)) else 0)))) G_1 B_1))) : am_line qxX9_bandHigh 12 [vR 25, vI c] 2 F A K := by
  show am_stp qxX9_bandHigh (am_run qxX9_bandHigh (fun _ => none) (fun _ _ _ _ _ _ => False) K 12) K 0 [some (vR 25), some (vI c)] [] F A 0
  obtain ⟨hp, h⟩ := h
  have p1 := hp.1
  have q1 := p1.1.1
  have q2 := p1.1.2
  have q4 := p1.2.1

  show ((0 ≤ mF A 0 ∧ mF A 0 ≤ 8) ∧ (0 ≤ mF A 1 ∧ mF A 1 ≤ 6) ∧ (-2147483648 ≤ c ∧ c < 2147483648)) ∧ (((bi (0 ≤ c ∧ c < mF A 0)) = 0 ∨ (bi (0 ≤ c ∧ c < mF A 0)) = 1) ∧ ((w32 (bi (0 ≤ c ∧ c < mF A 0)) = w32 0 → (K (some (some (vI 0))) (upF F 25 0 (1 - (bi (0 ≤ c ∧ c < mF A 0)))) A)) ∧ (¬ (w32 (bi (0 ≤ c ∧ c < mF A 0)) = w32 0) → ((fgOK (mF A) ∧ (0 ≤ c ∧ c < mF A 0)) ∧ (K (some (some (vI (bHigh (mF A) c (Int.toNat (mF A (18 + c) - 1)))))) (upF F 25 0 (1 - (bi (0 ≤ c ∧ c < mF A 0)))) A)))))
  refine ⟨by omega, ?_⟩
  refine ⟨by first | exact bi_01 | omega | exact ⟨p1, c1⟩, ?_⟩
  refine ⟨fun c1 => ?_, fun c1 => ?_⟩
  · skip
    (try simp (disch := omega) only [fat_in, w32_0, wbi0, Classical.not_not, w32_id] at c1)
    first
    | exact K_eq (h _ _ ⟨qdP_F (by decide), by rw [upF_s, bi_f c1, if_neg c1]; rfl⟩) (if_neg c1)
    | exact K_eq (h _ _ ⟨qdP_F (by decide), by rw [upF_s, bi_t c1, if_pos c1]; rfl⟩) (by rw [if_pos c1])
  · skip
    (try simp (disch := omega) only [fat_in, w32_0, wbi0, Classical.not_not, w32_id] at c1)
    refine ⟨by first | exact bi_01 | omega | exact ⟨p1, c1⟩, ?_⟩
    first
    | exact K_eq (h _ _ ⟨qdP_F (by decide), by rw [upF_s, bi_f c1, if_neg c1]; rfl⟩) (if_neg c1)
    | exact K_eq (h _ _ ⟨qdP_F (by decide), by rw [upF_s, bi_t c1, if_pos c1]; rfl⟩) (by rw [if_pos c1])
theorem qtX9_bandHigh (l : Launch) : am_CT l layM qeX9_bandHigh := am_met0 rfl (by decide +kernel) rfl rfl rfl rfl rfl (fun _ => rfl) rfl (qzX9_bandHigh l) (fun k e1 h => (qyX9_bandHigh l k e1 h).2) (fun as F A K h => by
  replace h : qsX9_bandHigh as F A K := h
  unfold qsX9_bandHigh at h
  split at h
  · rename_i o c
    refine ⟨by first | exact Nat.le_of_ble_eq_true rfl | simp [am_fl, am_cat], ?_⟩
    replace h := am_cond2 h
    rcases h with ⟨hb, h⟩ | h
    · skip
      have hb0 := hb
      have hb0 := am_bq hb0
      subst hb0
      exact am_way_line (qvX9_bandHigh_25 c F A K h)
    exact h.elim
  · exact h.elim)
