def qkX8_busiestLine : Nat → Option CI := fun pc => cond (Nat.ble 72 pc) none (cond (Nat.ble 35 pc) (cond (Nat.ble 55 pc) (cond (Nat.ble 63 pc) (cond (Nat.ble 67 pc) (cond (Nat.beq pc 67) (some (.goto (-61), 70, [6])) (cond (Nat.beq pc 70) (some (.iload_n 1, 71, [])) (cond (Nat.beq pc 71) (some (.ireturn, 72, [])) (none)))) (cond (Nat.beq pc 63) (some (.istore_n 1, 64, [])) (cond (Nat.beq pc 64) (some (.iinc 3 1, 67, [])) (none)))) (cond (Nat.ble 59 pc) (cond (Nat.beq pc 59) (some (.iload 4, 61, [])) (cond (Nat.beq pc 61) (some (.istore_n 2, 62, [])) (cond (Nat.beq pc 62) (some (.iload_n 3, 63, [])) (none)))) (cond (Nat.beq pc 55) (some (.iload_n 2, 56, [])) (cond (Nat.beq pc 56) (some (.if_icmp .le 8, 59, [64])) (none))))) (cond (Nat.ble 44 pc) (cond (Nat.ble 47 pc) (cond (Nat.beq pc 47) (some (.iinc 5 1, 50, [])) (cond (Nat.beq pc 50) (some (.goto (-27), 53, [23])) (cond (Nat.beq pc 53) (some (.iload 4, 55, [])) (none)))) (cond (Nat.beq pc 44) (some (.iadd, 45, [])) (cond (Nat.beq pc 45) (some (.istore 4, 47, [])) (none)))) (cond (Nat.ble 38 pc) (cond (Nat.beq pc 38) (some (.iload 5, 40, [])) (cond (Nat.beq pc 40) (some (.iload_n 3, 41, [])) (cond (Nat.beq pc 41) (some (.invokevirtual 241, 44, [])) (none)))) (cond (Nat.beq pc 35) (some (.iload 4, 37, [])) (cond (Nat.beq pc 37) (some (.aload_n 0, 38, [])) (none)))))) (cond (Nat.ble 14 pc) (cond (Nat.ble 23 pc) (cond (Nat.ble 26 pc) (cond (Nat.beq pc 26) (some (.getfield 10, 29, [])) (cond (Nat.beq pc 29) (some (.invokevirtual 100, 32, [])) (cond (Nat.beq pc 32) (some (.if_icmp .ge 21, 35, [53])) (none)))) (cond (Nat.beq pc 23) (some (.iload 5, 25, [])) (cond (Nat.beq pc 25) (some (.aload_n 0, 26, [])) (none)))) (cond (Nat.ble 18 pc) (cond (Nat.beq pc 18) (some (.istore 4, 20, [])) (cond (Nat.beq pc 20) (some (.iconst 0, 21, [])) (cond (Nat.beq pc 21) (some (.istore 5, 23, [])) (none)))) (cond (Nat.beq pc 14) (some (.if_icmp .ge 56, 17, [70])) (cond (Nat.beq pc 17) (some (.iconst 0, 18, [])) (none))))) (cond (Nat.ble 5 pc) (cond (Nat.ble 7 pc) (cond (Nat.beq pc 7) (some (.aload_n 0, 8, [])) (cond (Nat.beq pc 8) (some (.getfield 10, 11, [])) (cond (Nat.beq pc 11) (some (.invokevirtual 103, 14, [])) (none)))) (cond (Nat.beq pc 5) (some (.istore_n 3, 6, [])) (cond (Nat.beq pc 6) (some (.iload_n 3, 7, [])) (none)))) (cond (Nat.ble 2 pc) (cond (Nat.beq pc 2) (some (.iconst (-1), 3, [])) (cond (Nat.beq pc 3) (some (.istore_n 2, 4, [])) (cond (Nat.beq pc 4) (some (.iconst 0, 5, [])) (none)))) (cond (Nat.beq pc 0) (some (.iconst (-1), 1, [])) (cond (Nat.beq pc 1) (some (.istore_n 1, 2, [])) (none)))))))
theorem qkX8_busiestLine_ok : ∀ pc i nx ts, qkX8_busiestLine pc = some (i, nx, ts) → am_cok cX8_busiestLine pc (i, nx, ts) = true := fun pc i nx ts h => am_tok_ok (n := 72) (by decide +kernel) (fun pc h => by show cond (Nat.ble 72 pc) _ _ = _; rw [Nat.ble_eq_true_of_le h]; rfl) h
def qaX8_busiestLine : Nat → Option CE := fun k => cond (Nat.beq k 103) (some qeX2_lines) (cond (Nat.beq k 100) (some qeX2_curves) (cond (Nat.beq k 241) (some qeX8_sureRoots) (none)))
theorem qyX8_busiestLine (l : Launch) : ∀ k e1, qaX8_busiestLine k = some e1 → am_cal l layX RX8 22 k e1 ∧ ceT e1 = 0 := q_cons ⟨am_calV (ci := 2) (qtX2_lines l) qbX2_lines (by decide) rfl (am_tb_at 539 (by decide +kernel) rfl), rfl⟩ (q_cons ⟨am_calV (ci := 2) (qtX2_curves l) qbX2_curves (by decide) rfl (am_tb_at 534 (by decide +kernel) rfl), rfl⟩ (q_cons ⟨am_calV (ci := 8) (qtX8_sureRoots l) qbX8_sureRoots (by decide) rfl (am_tb_at 573 (by decide +kernel) rfl), rfl⟩ (q_nil)))
def qxX8_busiestLine : CX := (qkX8_busiestLine, layX, qfX8, qaX8_busiestLine, qcX8, qlX8, qmX8, (some .int), false, none, 0, none, fun _ => none)
theorem qzX8_busiestLine (l : Launch) : am_sta l qxX8_busiestLine RX8 22 cX8_busiestLine := ⟨qkX8_busiestLine_ok, layX_ok, qfX8_ok, qcX8_ok, qlX8_ok, am_mthP qmX8_ok (by decide), fun k e1 h => (qyX8_busiestLine l k e1 h).1⟩
def qsX8_busiestLine : SP := fun as F A K => match as with
  | [.inr (.inr o)] => cond (Nat.beq o 0) ((fgOK (A 2) ∧ rtB (A 2)) ∧ (∀ (G_1 : FF) (B_1 : AA), (qrP F G_1 A B_1) → (K (some (some (vI ((bestI (fun ll => sumI (fun jj => sureF (A 2) jj ll) (Int.toNat (A 2 0))) (Int.toNat (A 2 1))).1)))) G_1 B_1))) (False)
  | _ => False
def qeX8_busiestLine : CE := (yX8_busiestLine, cX8_busiestLine, 6, (some .int), 0, some 8, 0, [], 0, 22, qsX8_busiestLine)
theorem qbX8_busiestLine : am_mb qeX8_busiestLine := ⟨am_tb_at 572 (by decide +kernel) rfl, am_tb_at 114 (by decide +kernel) rfl, ⟨by decide, by decide, by decide +kernel⟩, by decide, by decide, am_tb_at 570 (by decide +kernel) rfl, am_tb_at 571 (by decide +kernel) rfl, _, _, rfl⟩
def qnX8_busiestLine_0 : CUT := fun pc => cond (Nat.beq pc 6) (some [true, true, true, true, false, false]) (cond (Nat.beq pc 23) (some [true, true, true, true, true, true]) (none))
def qiX8_busiestLine_0  (F0 : FF) (A0 : AA) : REC := fun pc ls st F A u => cond (Nat.beq pc 6) (match ls, st, u with
    | [some (.inr (.inr s0)), some (.inl w), some (.inl v), some (.inl k), none, none], [], 0 => s0 = 0 ∧ ((0 ≤ k ∧ k ≤ A0 2 1) ∧ (-1 ≤ v ∧ v ≤ 128) ∧ qrP F0 F A0 A ∧ (w, v) = bestI (fun ll => sumI (fun jj => sureF (A0 2) jj ll) (Int.toNat (A0 2 0))) (Int.toNat k))
    | _, _, _ => False) (cond (Nat.beq pc 23) (match ls, st, u with
    | [some (.inr (.inr s0)), some (.inl w), some (.inl v), some (.inl k), some (.inl s), some (.inl j)], [], 0 => s0 = 0 ∧ ((0 ≤ k ∧ k < A0 2 1) ∧ (-1 ≤ v ∧ v ≤ 128) ∧ (0 ≤ j ∧ j ≤ A0 2 0) ∧ (0 ≤ s ∧ s ≤ 128) ∧ s = sumI (fun jj => sureF (A0 2) jj k) (Int.toNat j) ∧ qrP F0 F A0 A ∧ (w, v) = bestI (fun ll => sumI (fun jj => sureF (A0 2) jj ll) (Int.toNat (A0 2 0))) (Int.toNat k))
    | _, _, _ => False) (False))
def quX8_busiestLine_0 : Nat → LVs → List AV → FF → AA → Nat := fun pc ls _ F A => cond (Nat.beq pc 6) (match ls with
    | [some (.inr (.inr s0)), some (.inl w), some (.inl v), some (.inl k), none, none] => Int.toNat (20 - k) * 100 + 50
    | _ => 0) (cond (Nat.beq pc 23) (match ls with
    | [some (.inr (.inr s0)), some (.inl w), some (.inl v), some (.inl k), some (.inl s), some (.inl j)] => Int.toNat (20 - k) * 100 + Int.toNat (20 - j)
    | _ => 0) (0))
set_option maxRecDepth 20000 in
theorem qvX8_busiestLine_0_0  (F0 : FF) (A0 : AA) (K : KK) (h : (fgOK (A0 2) ∧ rtB (A0 2)) ∧ (∀ (G_1 : FF) (B_1 : AA), (qrP F0 G_1 A0 B_1) → (K (some (some (vI ((bestI (fun ll => sumI (fun jj => sureF (A0 2) jj ll) (Int.toNat (A0 2 0))) (Int.toNat (A0 2 1))).1)))) G_1 B_1))) : am_stp qxX8_busiestLine (am_run qxX8_busiestLine qnX8_busiestLine_0 (qiX8_busiestLine_0  F0 A0) K 17) K 0 (am_ent [vR 0] 6) [] F0 A0 0 := by
  show am_stp qxX8_busiestLine (am_run qxX8_busiestLine qnX8_busiestLine_0 (qiX8_busiestLine_0  F0 A0) K 17) K 0 [some (vR 0), none, none, none, none, none] [] F0 A0 0
  obtain ⟨hp, h⟩ := h
  have p1 := hp.1
  have q1 := p1.1.1
  have q2 := p1.1.2
  have rb := hp.2
  show 0 = 0 ∧ ((0 ≤ 0 ∧ 0 ≤ A0 2 1) ∧ (-1 ≤ (-1) ∧ (-1) ≤ 128) ∧ qrP F0 F0 A0 A0 ∧ ((-1), (-1)) = bestI (fun ll => sumI (fun jj => sureF (A0 2) jj ll) (Int.toNat (A0 2 0))) (Int.toNat 0))
  refine ⟨rfl, ?_⟩
  exact ⟨⟨by omega, by omega⟩, by omega, qrP_id, rfl⟩
set_option maxRecDepth 20000 in
theorem qvX8_busiestLine_0_6  (F0 : FF) (A0 : AA) (K : KK) (h : (fgOK (A0 2) ∧ rtB (A0 2)) ∧ (∀ (G_1 : FF) (B_1 : AA), (qrP F0 G_1 A0 B_1) → (K (some (some (vI ((bestI (fun ll => sumI (fun jj => sureF (A0 2) jj ll) (Int.toNat (A0 2 0))) (Int.toNat (A0 2 1))).1)))) G_1 B_1))) (w : Int) (v : Int) (k : Int) (F : FF) (A : AA) (hi : (0 ≤ k ∧ k ≤ A0 2 1) ∧ (-1 ≤ v ∧ v ≤ 128) ∧ qrP F0 F A0 A ∧ (w, v) = bestI (fun ll => sumI (fun jj => sureF (A0 2) jj ll) (Int.toNat (A0 2 0))) (Int.toNat k)) : am_stp qxX8_busiestLine (am_run qxX8_busiestLine qnX8_busiestLine_0 (fun pc ls st F A u => qiX8_busiestLine_0  F0 A0 pc ls st F A u ∧ quX8_busiestLine_0 pc ls st F A < quX8_busiestLine_0 6 [some (vR 0), some (vI w), some (vI v), some (vI k), none, none] [] F A) K 17) K 6 [some (vR 0), some (vI w), some (vI v), some (vI k), none, none] [] F A 0 := by
  obtain ⟨hp, h⟩ := h
  have p1 := hp.1
  have q1 := p1.1.1
  have q2 := p1.1.2
  have rb := hp.2
  obtain ⟨h1, h2, hQ, h4⟩ := hi
  have e2 : A 2 = A0 2 := funext fun i => hQ.2.1 2 i (by omega)
  show (w32 k < w32 (fat (A 2) 1) → ((0 = 0 ∧ ((0 ≤ k ∧ k < A0 2 1) ∧ (-1 ≤ v ∧ v ≤ 128) ∧ (0 ≤ 0 ∧ 0 ≤ A0 2 0) ∧ (0 ≤ 0 ∧ 0 ≤ 128) ∧ 0 = sumI (fun jj => sureF (A0 2) jj k) (Int.toNat 0) ∧ qrP F0 F A0 A ∧ (w, v) = bestI (fun ll => sumI (fun jj => sureF (A0 2) jj ll) (Int.toNat (A0 2 0))) (Int.toNat k))) ∧ (Int.toNat (20 - k) * 100 + Int.toNat (20 - 0)) < (Int.toNat (20 - k) * 100 + 50))) ∧ (¬ w32 k < w32 (fat (A 2) 1) → (K (some (some (vI w))) F A))
  refine ⟨fun c1 => ?_, fun c1 => ?_⟩
  · skip
    (try rw [e2] at c1); (try simp (disch := omega) only [fat_in, w32_0, w32_id] at c1)
    refine ⟨⟨rfl, ?_⟩, by omega⟩
    exact ⟨⟨h1.1, c1⟩, h2, by omega, by omega, rfl, hQ, h4⟩
  · skip
    (try rw [e2] at c1); (try simp (disch := omega) only [fat_in, w32_0, w32_id] at c1)
    exact K_eq (h _ _ hQ) (by rw [show A0 2 1 = k by omega, ← h4])
set_option maxRecDepth 20000 in
theorem qvX8_busiestLine_0_23  (F0 : FF) (A0 : AA) (K : KK) (h : (fgOK (A0 2) ∧ rtB (A0 2)) ∧ (∀ (G_1 : FF) (B_1 : AA), (qrP F0 G_1 A0 B_1) → (K (some (some (vI ((bestI (fun ll => sumI (fun jj => sureF (A0 2) jj ll) (Int.toNat (A0 2 0))) (Int.toNat (A0 2 1))).1)))) G_1 B_1))) (w : Int) (v : Int) (k : Int) (s : Int) (j : Int) (F : FF) (A : AA) (hi : (0 ≤ k ∧ k < A0 2 1) ∧ (-1 ≤ v ∧ v ≤ 128) ∧ (0 ≤ j ∧ j ≤ A0 2 0) ∧ (0 ≤ s ∧ s ≤ 128) ∧ s = sumI (fun jj => sureF (A0 2) jj k) (Int.toNat j) ∧ qrP F0 F A0 A ∧ (w, v) = bestI (fun ll => sumI (fun jj => sureF (A0 2) jj ll) (Int.toNat (A0 2 0))) (Int.toNat k)) : am_stp qxX8_busiestLine (am_run qxX8_busiestLine qnX8_busiestLine_0 (fun pc ls st F A u => qiX8_busiestLine_0  F0 A0 pc ls st F A u ∧ quX8_busiestLine_0 pc ls st F A < quX8_busiestLine_0 23 [some (vR 0), some (vI w), some (vI v), some (vI k), some (vI s), some (vI j)] [] F A) K 17) K 23 [some (vR 0), some (vI w), some (vI v), some (vI k), some (vI s), some (vI j)] [] F A 0 := by
  obtain ⟨hp, h⟩ := h
  have p1 := hp.1
  have q1 := p1.1.1
  have q2 := p1.1.2
  have rb := hp.2
  obtain ⟨h1, h2, h3, h5, h6, hQ, h4⟩ := hi
  have e2 : A 2 = A0 2 := funext fun i => hQ.2.1 2 i (by omega)
  show (w32 j < w32 (fat (A 2) 0) → ((fgOK (A 2) ∧ (0 ≤ j ∧ j < A 2 0) ∧ (0 ≤ k ∧ k < A 2 1) ∧ ((rtsX (A 2) j k).length : Int) ≤ 8) ∧ (∀ (G_1 : FF) (B_1 : AA), (qrP F G_1 A B_1) → ((0 = 0 ∧ ((0 ≤ k ∧ k < A0 2 1) ∧ (-1 ≤ v ∧ v ≤ 128) ∧ (0 ≤ (j + 1) ∧ (j + 1) ≤ A0 2 0) ∧ (0 ≤ (s + (cntK (ktF (rtsX (A 2) j k)) 0 (rtsX (A 2) j k).length + cntK (ktF (rtsX (A 2) j k)) 1 (rtsX (A 2) j k).length)) ∧ (s + (cntK (ktF (rtsX (A 2) j k)) 0 (rtsX (A 2) j k).length + cntK (ktF (rtsX (A 2) j k)) 1 (rtsX (A 2) j k).length)) ≤ 128) ∧ (s + (cntK (ktF (rtsX (A 2) j k)) 0 (rtsX (A 2) j k).length + cntK (ktF (rtsX (A 2) j k)) 1 (rtsX (A 2) j k).length)) = sumI (fun jj => sureF (A0 2) jj k) (Int.toNat (j + 1)) ∧ qrP F0 G_1 A0 B_1 ∧ (w, v) = bestI (fun ll => sumI (fun jj => sureF (A0 2) jj ll) (Int.toNat (A0 2 0))) (Int.toNat k))) ∧ (Int.toNat (20 - k) * 100 + Int.toNat (20 - (j + 1))) < (Int.toNat (20 - k) * 100 + Int.toNat (20 - j)))))) ∧ (¬ w32 j < w32 (fat (A 2) 0) → ((w32 v < w32 s → ((0 = 0 ∧ ((0 ≤ (k + 1) ∧ (k + 1) ≤ A0 2 1) ∧ (-1 ≤ s ∧ s ≤ 128) ∧ qrP F0 F A0 A ∧ (k, s) = bestI (fun ll => sumI (fun jj => sureF (A0 2) jj ll) (Int.toNat (A0 2 0))) (Int.toNat (k + 1)))) ∧ (Int.toNat (20 - (k + 1)) * 100 + 50) < (Int.toNat (20 - k) * 100 + Int.toNat (20 - j)))) ∧ (¬ w32 v < w32 s → ((0 = 0 ∧ ((0 ≤ (k + 1) ∧ (k + 1) ≤ A0 2 1) ∧ (-1 ≤ v ∧ v ≤ 128) ∧ qrP F0 F A0 A ∧ (w, v) = bestI (fun ll => sumI (fun jj => sureF (A0 2) jj ll) (Int.toNat (A0 2 0))) (Int.toNat (k + 1)))) ∧ (Int.toNat (20 - (k + 1)) * 100 + 50) < (Int.toNat (20 - k) * 100 + Int.toNat (20 - j))))))
  refine ⟨fun c1 => ?_, fun c1 => ?_⟩
  · skip
    (try rw [e2] at c1); (try simp (disch := omega) only [fat_in, w32_0, w32_id] at c1)
    refine ⟨by (rw [e2]; exact ⟨p1, by omega, by omega, rb j k (by omega) (by omega) (by omega) (by omega)⟩), ?_⟩
    intro G_1 B_1 g1
    refine ⟨⟨rfl, ?_⟩, by omega⟩
    have q5 := sureF_b (rb j k (by omega) (by omega) (by omega) (by omega))
    rw [e2]
    have q6 := sumI_b (b := 16) (g := fun jj => sureF (A0 2) jj k) (Int.toNat (j + 1)) (fun jj j0 j1 => sureF_b (rb jj k (by omega) (by omega) (by omega) (by omega)))
    rw [sumI_s h3.1, ← h6] at q6
    refine ⟨h1, h2, by omega, ?_, ?_, qrP_trans hQ g1, h4⟩
    · show 0 ≤ s + sureF (A0 2) j k ∧ s + sureF (A0 2) j k ≤ 128
      have q7 : s + sureF (A0 2) j k ≤ 16 * ((Int.toNat (j + 1) : Nat) : Int) := q6.2
      have q8 : 0 ≤ s + sureF (A0 2) j k := q6.1
      omega
    · rw [sumI_s h3.1, ← h6]; rfl
  · skip
    (try rw [e2] at c1); (try simp (disch := omega) only [fat_in, w32_0, w32_id] at c1)
    refine ⟨fun c2 => ?_, fun c2 => ?_⟩
    · skip
      (try rw [e2] at c2); (try simp (disch := omega) only [fat_in, w32_0, w32_id] at c2)
      refine ⟨⟨rfl, ?_⟩, by omega⟩
      have ej : j = A0 2 0 := by omega
      subst ej
      refine ⟨by omega, by omega, hQ, ?_⟩
      rw [h6]
      exact bestI_t h1.1 h4 (by rw [← h6]; exact c2)
    · skip
      (try rw [e2] at c2); (try simp (disch := omega) only [fat_in, w32_0, w32_id] at c2)
      refine ⟨⟨rfl, ?_⟩, by omega⟩
      have ej : j = A0 2 0 := by omega
      subst ej
      exact ⟨by omega, h2, hQ, bestI_f h1.1 h4 (by rw [← h6]; exact c2)⟩
set_option maxRecDepth 20000 in
theorem qvX8_busiestLine_0  (F0 : FF) (A0 : AA) (K : KK) (h : (fgOK (A0 2) ∧ rtB (A0 2)) ∧ (∀ (G_1 : FF) (B_1 : AA), (qrP F0 G_1 A0 B_1) → (K (some (some (vI ((bestI (fun ll => sumI (fun jj => sureF (A0 2) jj ll) (Int.toNat (A0 2 0))) (Int.toNat (A0 2 1))).1)))) G_1 B_1))) : am_body qxX8_busiestLine qnX8_busiestLine_0 17 (qiX8_busiestLine_0  F0 A0) quX8_busiestLine_0 [vR 0] 6 F0 A0 K := by
  refine ⟨qvX8_busiestLine_0_0  F0 A0 K h, fun pc ls st F A u hI => ?_⟩
  unfold qiX8_busiestLine_0 at hI
  replace hI := am_cond2 hI
  rcases hI with ⟨hb, hI⟩ | hI
  · have hb := am_bq hb
    subst hb
    split at hI
    · rename_i s0 w v k
      obtain ⟨e0, hI⟩ := hI
      subst e0
      exact qvX8_busiestLine_0_6  _ _ K h _ _ _ _ _ hI
    · exact hI.elim
  replace hI := am_cond2 hI
  rcases hI with ⟨hb, hI⟩ | hI
  · have hb := am_bq hb
    subst hb
    split at hI
    · rename_i s0 w v k s j
      obtain ⟨e0, hI⟩ := hI
      subst e0
      exact qvX8_busiestLine_0_23  _ _ K h _ _ _ _ _ _ _ hI
    · exact hI.elim
  exact hI.elim
theorem qtX8_busiestLine (l : Launch) : am_CT l layX qeX8_busiestLine := am_met0 rfl (by decide +kernel) rfl rfl rfl rfl rfl (fun _ => rfl) rfl (qzX8_busiestLine l) (fun k e1 h => (qyX8_busiestLine l k e1 h).2) (fun as F A K h => by
  replace h : qsX8_busiestLine as F A K := h
  unfold qsX8_busiestLine at h
  split at h
  · rename_i o
    refine ⟨by first | exact Nat.le_of_ble_eq_true rfl | simp [am_fl, am_cat], ?_⟩
    replace h := am_cond2 h
    rcases h with ⟨hb, h⟩ | h
    · skip
      have hb0 := hb
      have hb0 := am_bq hb0
      subst hb0
      exact am_way_body (qvX8_busiestLine_0  F A K h)
    exact h.elim
  · exact h.elim)
