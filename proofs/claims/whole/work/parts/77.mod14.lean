def qkX9_keeps : Nat → Option CI := fun pc => cond (Nat.ble 95 pc) none (cond (Nat.ble 50 pc) (cond (Nat.ble 71 pc) (cond (Nat.ble 84 pc) (cond (Nat.ble 89 pc) (cond (Nat.ble 91 pc) (cond (Nat.beq pc 91) (some (.putfield 295, 94, [])) (cond (Nat.beq pc 94) (some (.return_, 95, [])) (none))) (cond (Nat.beq pc 89) (some (.iconst 1, 90, [])) (cond (Nat.beq pc 90) (some (.iadd, 91, [])) (none)))) (cond (Nat.beq pc 84) (some (.aload_n 0, 85, [])) (cond (Nat.beq pc 85) (some (.dup, 86, [])) (cond (Nat.beq pc 86) (some (.getfield 295, 89, [])) (none))))) (cond (Nat.ble 76 pc) (cond (Nat.ble 78 pc) (cond (Nat.beq pc 78) (some (.iinc 1 1, 81, [])) (cond (Nat.beq pc 81) (some (.goto (-29), 84, [52])) (none))) (cond (Nat.beq pc 76) (some (.iaload, 77, [])) (cond (Nat.beq pc 77) (some (.iastore, 78, [])) (none)))) (cond (Nat.beq pc 71) (some (.aload_n 0, 72, [])) (cond (Nat.beq pc 72) (some (.getfield 19, 75, [])) (cond (Nat.beq pc 75) (some (.iload_n 1, 76, [])) (none)))))) (cond (Nat.ble 59 pc) (cond (Nat.ble 65 pc) (cond (Nat.ble 69 pc) (cond (Nat.beq pc 69) (some (.iload_n 1, 70, [])) (cond (Nat.beq pc 70) (some (.iadd, 71, [])) (none))) (cond (Nat.beq pc 65) (some (.getfield 295, 68, [])) (cond (Nat.beq pc 68) (some (.imul, 69, [])) (none)))) (cond (Nat.beq pc 59) (some (.getfield 25, 62, [])) (cond (Nat.beq pc 62) (some (.bipush 124, 64, [])) (cond (Nat.beq pc 64) (some (.aload_n 0, 65, [])) (none))))) (cond (Nat.ble 53 pc) (cond (Nat.beq pc 53) (some (.bipush 124, 55, [])) (cond (Nat.beq pc 55) (some (.if_icmp .ge 29, 58, [84])) (cond (Nat.beq pc 58) (some (.aload_n 0, 59, [])) (none)))) (cond (Nat.beq pc 50) (some (.iconst 0, 51, [])) (cond (Nat.beq pc 51) (some (.istore_n 1, 52, [])) (cond (Nat.beq pc 52) (some (.iload_n 1, 53, [])) (none))))))) (cond (Nat.ble 26 pc) (cond (Nat.ble 37 pc) (cond (Nat.ble 42 pc) (cond (Nat.ble 46 pc) (cond (Nat.beq pc 46) (some (.isub, 47, [])) (cond (Nat.beq pc 47) (some (.putfield 295, 50, [])) (none))) (cond (Nat.beq pc 42) (some (.getfield 295, 45, [])) (cond (Nat.beq pc 45) (some (.iconst 1, 46, [])) (none)))) (cond (Nat.beq pc 37) (some (.goto (-25), 40, [12])) (cond (Nat.beq pc 40) (some (.aload_n 0, 41, [])) (cond (Nat.beq pc 41) (some (.dup, 42, [])) (none))))) (cond (Nat.ble 31 pc) (cond (Nat.ble 33 pc) (cond (Nat.beq pc 33) (some (.iastore, 34, [])) (cond (Nat.beq pc 34) (some (.iinc 1 1, 37, [])) (none))) (cond (Nat.beq pc 31) (some (.iload_n 1, 32, [])) (cond (Nat.beq pc 32) (some (.iaload, 33, [])) (none)))) (cond (Nat.beq pc 26) (some (.isub, 27, [])) (cond (Nat.beq pc 27) (some (.aload_n 0, 28, [])) (cond (Nat.beq pc 28) (some (.getfield 25, 31, [])) (none)))))) (cond (Nat.ble 12 pc) (cond (Nat.ble 19 pc) (cond (Nat.ble 23 pc) (cond (Nat.beq pc 23) (some (.iload_n 1, 24, [])) (cond (Nat.beq pc 24) (some (.bipush 124, 26, [])) (none))) (cond (Nat.beq pc 19) (some (.aload_n 0, 20, [])) (cond (Nat.beq pc 20) (some (.getfield 25, 23, [])) (none)))) (cond (Nat.beq pc 12) (some (.iload_n 1, 13, [])) (cond (Nat.beq pc 13) (some (.sipush 1240, 16, [])) (cond (Nat.beq pc 16) (some (.if_icmp .ge 24, 19, [40])) (none))))) (cond (Nat.ble 6 pc) (cond (Nat.beq pc 6) (some (.if_icmp .ne 44, 9, [50])) (cond (Nat.beq pc 9) (some (.bipush 124, 11, [])) (cond (Nat.beq pc 11) (some (.istore_n 1, 12, [])) (none)))) (cond (Nat.beq pc 0) (some (.aload_n 0, 1, [])) (cond (Nat.beq pc 1) (some (.getfield 295, 4, [])) (cond (Nat.beq pc 4) (some (.bipush 10, 6, [])) (none))))))))
theorem qkX9_keeps_ok : ∀ pc i nx ts, qkX9_keeps pc = some (i, nx, ts) → am_cok cX9_keeps pc (i, nx, ts) = true := fun pc i nx ts h => am_tok_ok (n := 95) (by decide +kernel) (fun pc h => by show cond (Nat.ble 95 pc) _ _ = _; rw [Nat.ble_eq_true_of_le h]; rfl) h
def qaX9_keeps : Nat → Option CE := fun k => none
theorem qyX9_keeps (l : Launch) : ∀ k e1, qaX9_keeps k = some e1 → am_cal l layM RX9 3 k e1 ∧ ceT e1 = 0 := q_nil
def qxX9_keeps : CX := (qkX9_keeps, layM, qfX9, qaX9_keeps, qcX9, qlX9, qmX9, none, false, none, 0, none, fun _ => none)
theorem qzX9_keeps (l : Launch) : am_sta l qxX9_keeps RX9 3 cX9_keeps := ⟨qkX9_keeps_ok, layM_ok, qfX9_ok, qcX9_ok, qlX9_ok, am_mthP qmX9_ok (by decide), fun k e1 h => (qyX9_keeps l k e1 h).1⟩
def qsX9_keeps : SP := fun as F A K => match as with
  | [.inr (.inr o)] => cond (Nat.beq o 25) ((0 ≤ (F 25 8) ∧ (F 25 8) ≤ 10) ∧ (∀ (G_1 : FF) (B_1 : AA), (keP F G_1 A B_1) → (K (some none) G_1 B_1))) (False)
  | _ => False
def qeX9_keeps : CE := (yX9_keeps, cX9_keeps, 2, none, 0, some 9, 0, [], 0, 3, qsX9_keeps)
theorem qbX9_keeps : am_mb qeX9_keeps := ⟨am_tb_at 2041 (by decide +kernel) rfl, am_tb_at 124 (by decide +kernel) rfl, ⟨by decide, by decide, by decide +kernel⟩, by decide, by decide, am_tb_at 2040 (by decide +kernel) rfl, am_tb_at 112 (by decide +kernel) rfl, _, _, rfl⟩
def qnX9_keeps_25 : CUT := fun pc => cond (Nat.beq pc 12) (some [true, true]) (cond (Nat.beq pc 52) (some [true, true]) (none))
def qiX9_keeps_25  (F0 : FF) (A0 : AA) : REC := fun pc ls st F A u => cond (Nat.beq pc 12) (match ls, st, u with
    | [some (.inr (.inr s0)), some (.inl k)], [], 0 => s0 = 25 ∧ F = F0 ∧ (F0 25 8 = 10 ∧ (124 ≤ k ∧ k ≤ 1240) ∧ (∀ bb ii, bb ≠ 31 → A bb ii = A0 bb ii) ∧ (∀ jj, 0 ≤ jj → jj < k - 124 → A 31 jj = A0 31 (jj + 124)) ∧ (∀ jj, k - 124 ≤ jj → A 31 jj = A0 31 jj))
    | _, _, _ => False) (cond (Nat.beq pc 52) (match ls, st, u with
    | [some (.inr (.inr s0)), some (.inl k)], [], 0 => s0 = 25 ∧ ((∀ aa bb, aa ≠ 25 ∨ bb ≠ 8 → F aa bb = F0 aa bb) ∧ F 25 8 = kpU (F0 25 8) ∧ (0 ≤ k ∧ k ≤ 124) ∧ (∀ bb ii, bb ≠ 31 → A bb ii = A0 bb ii) ∧ (∀ jj, 0 ≤ jj → jj < 124 * kpU (F0 25 8) → A 31 jj = A0 31 (if F0 25 8 = 10 then jj + 124 else jj)) ∧ (∀ kk, 0 ≤ kk → kk < k → A 31 (124 * kpU (F0 25 8) + kk) = A0 29 kk))
    | _, _, _ => False) (False))
def quX9_keeps_25 : Nat → LVs → List AV → FF → AA → Nat := fun pc ls _ F A => cond (Nat.beq pc 12) (match ls with
    | [some (.inr (.inr s0)), some (.inl k)] => Int.toNat (2000 - k)
    | _ => 0) (cond (Nat.beq pc 52) (match ls with
    | [some (.inr (.inr s0)), some (.inl k)] => Int.toNat (200 - k)
    | _ => 0) (0))
set_option maxRecDepth 20000 in
theorem qvX9_keeps_25_0  (F0 : FF) (A0 : AA) (K : KK) (h : (0 ≤ (F0 25 8) ∧ (F0 25 8) ≤ 10) ∧ (∀ (G_1 : FF) (B_1 : AA), (keP F0 G_1 A0 B_1) → (K (some none) G_1 B_1))) : am_stp qxX9_keeps (am_run qxX9_keeps qnX9_keeps_25 (qiX9_keeps_25  F0 A0) K 21) K 0 (am_ent [vR 25] 2) [] F0 A0 0 := by
  show am_stp qxX9_keeps (am_run qxX9_keeps qnX9_keeps_25 (qiX9_keeps_25  F0 A0) K 21) K 0 [some (vR 25), none] [] F0 A0 0
  obtain ⟨hp, h⟩ := h
  have kb := kpU_b hp
  show (w32 (F0 25 8) = w32 10 → (25 = 25 ∧ F0 = F0 ∧ (F0 25 8 = 10 ∧ (124 ≤ 124 ∧ 124 ≤ 1240) ∧ (∀ bb ii, bb ≠ 31 → A0 bb ii = A0 bb ii) ∧ (∀ jj, 0 ≤ jj → jj < 124 - 124 → A0 31 jj = A0 31 (jj + 124)) ∧ (∀ jj, 124 - 124 ≤ jj → A0 31 jj = A0 31 jj)))) ∧ (¬ w32 (F0 25 8) = w32 10 → (25 = 25 ∧ ((∀ aa bb, aa ≠ 25 ∨ bb ≠ 8 → F0 aa bb = F0 aa bb) ∧ F0 25 8 = kpU (F0 25 8) ∧ (0 ≤ 0 ∧ 0 ≤ 124) ∧ (∀ bb ii, bb ≠ 31 → A0 bb ii = A0 bb ii) ∧ (∀ jj, 0 ≤ jj → jj < 124 * kpU (F0 25 8) → A0 31 jj = A0 31 (if F0 25 8 = 10 then jj + 124 else jj)) ∧ (∀ kk, 0 ≤ kk → kk < 0 → A0 31 (124 * kpU (F0 25 8) + kk) = A0 29 kk))))
  refine ⟨fun c1 => ?_, fun c1 => ?_⟩
  · skip
    (try simp (disch := omega) only [w32_id] at c1)
    refine ⟨rfl, rfl, ?_⟩
    exact ⟨c1, by omega, fun _ _ _ => rfl, fun jj j0 j1 => by omega, fun _ _ => rfl⟩
  · skip
    (try simp (disch := omega) only [w32_id] at c1)
    refine ⟨rfl, ?_⟩
    refine ⟨fun _ _ _ => rfl, (if_neg c1).symm, by omega, fun _ _ _ => rfl, fun jj j0 j1 => by rw [if_neg c1], fun kk k0 k1 => by omega⟩
set_option maxRecDepth 20000 in
theorem qvX9_keeps_25_12  (F0 : FF) (A0 : AA) (K : KK) (h : (0 ≤ (F0 25 8) ∧ (F0 25 8) ≤ 10) ∧ (∀ (G_1 : FF) (B_1 : AA), (keP F0 G_1 A0 B_1) → (K (some none) G_1 B_1))) (k : Int) (A : AA) (hi : F0 25 8 = 10 ∧ (124 ≤ k ∧ k ≤ 1240) ∧ (∀ bb ii, bb ≠ 31 → A bb ii = A0 bb ii) ∧ (∀ jj, 0 ≤ jj → jj < k - 124 → A 31 jj = A0 31 (jj + 124)) ∧ (∀ jj, k - 124 ≤ jj → A 31 jj = A0 31 jj)) : am_stp qxX9_keeps (am_run qxX9_keeps qnX9_keeps_25 (fun pc ls st F9 A9 u => qiX9_keeps_25  F0 A0 pc ls st F9 A9 u ∧ quX9_keeps_25 pc ls st F9 A9 < quX9_keeps_25 12 [some (vR 25), some (vI k)] [] F0 A) K 21) K 12 [some (vR 25), some (vI k)] [] F0 A 0 := by
  obtain ⟨hp, h⟩ := h
  have kb := kpU_b hp
  obtain ⟨h0, h1, h2, h3, h4⟩ := hi
  show (w32 k < w32 1240 → ((0 ≤ w32 k ∧ w32 k < 1240) ∧ ((0 ≤ w32 (k - 124) ∧ w32 (k - 124) < 1240) ∧ ((25 = 25 ∧ F0 = F0 ∧ (F0 25 8 = 10 ∧ (124 ≤ (k + 1) ∧ (k + 1) ≤ 1240) ∧ (∀ bb ii, bb ≠ 31 → (upA A 31 (w32 (k - 124)) (A 31 (w32 k))) bb ii = A0 bb ii) ∧ (∀ jj, 0 ≤ jj → jj < (k + 1) - 124 → (upA A 31 (w32 (k - 124)) (A 31 (w32 k))) 31 jj = A0 31 (jj + 124)) ∧ (∀ jj, (k + 1) - 124 ≤ jj → (upA A 31 (w32 (k - 124)) (A 31 (w32 k))) 31 jj = A0 31 jj))) ∧ (Int.toNat (2000 - (k + 1))) < (Int.toNat (2000 - k)))))) ∧ (¬ w32 k < w32 1240 → ((25 = 25 ∧ ((∀ aa bb, aa ≠ 25 ∨ bb ≠ 8 → (upF F0 25 8 ((F0 25 8) - 1)) aa bb = F0 aa bb) ∧ (upF F0 25 8 ((F0 25 8) - 1)) 25 8 = kpU (F0 25 8) ∧ (0 ≤ 0 ∧ 0 ≤ 124) ∧ (∀ bb ii, bb ≠ 31 → A bb ii = A0 bb ii) ∧ (∀ jj, 0 ≤ jj → jj < 124 * kpU (F0 25 8) → A 31 jj = A0 31 (if F0 25 8 = 10 then jj + 124 else jj)) ∧ (∀ kk, 0 ≤ kk → kk < 0 → A 31 (124 * kpU (F0 25 8) + kk) = A0 29 kk))) ∧ (Int.toNat (200 - 0)) < (Int.toNat (2000 - k))))
  refine ⟨fun c1 => ?_, fun c1 => ?_⟩
  · skip
    (try simp (disch := omega) only [w32_id] at c1)
    refine ⟨by first | omega | (simp (disch := omega) only [w32_0, w64_0, wbi0, wbi1, yc_eq0, yc_lt0, yc_gt0, Classical.not_not, w32_id, w64_id]; omega) | (simp (disch := omega) only [w32_0, w64_0, wbi0, wbi1, yc_eq0, yc_lt0, yc_gt0, Classical.not_not, w32_id, w64_id]; done), ?_⟩
    refine ⟨by first | omega | (simp (disch := omega) only [w32_0, w64_0, wbi0, wbi1, yc_eq0, yc_lt0, yc_gt0, Classical.not_not, w32_id, w64_id]; omega) | (simp (disch := omega) only [w32_0, w64_0, wbi0, wbi1, yc_eq0, yc_lt0, yc_gt0, Classical.not_not, w32_id, w64_id]; done), ?_⟩
    refine ⟨⟨rfl, rfl, ?_⟩, by omega⟩
    simp (disch := omega) only [w32_id]
    refine ⟨h0, by omega, fun bb ii hb => (upA_k hb).trans (h2 bb ii hb), fun jj j0 j1 => ?_, fun jj j0 => ?_⟩
    · by_cases e : jj = k - 124
      · rw [e, upA_s, h4 k (by omega), show k - 124 + 124 = k by omega]
      · rw [upA_o e]; exact h3 jj j0 (by omega)
    · rw [upA_o (by omega)]; exact h4 jj (by omega)
  · skip
    (try simp (disch := omega) only [w32_id] at c1)
    refine ⟨⟨rfl, ?_⟩, by omega⟩
    refine ⟨fun aa bb hab => upF_o hab, ?_, by omega, h2, fun jj j0 j1 => ?_, fun kk k0 k1 => by omega⟩
    · rw [upF_s, h0]; rfl
    · rw [if_pos h0]; exact h3 jj j0 (by unfold kpU at j1; rw [if_pos h0] at j1; omega)
set_option maxRecDepth 20000 in
theorem qvX9_keeps_25_52  (F0 : FF) (A0 : AA) (K : KK) (h : (0 ≤ (F0 25 8) ∧ (F0 25 8) ≤ 10) ∧ (∀ (G_1 : FF) (B_1 : AA), (keP F0 G_1 A0 B_1) → (K (some none) G_1 B_1))) (k : Int) (F : FF) (A : AA) (hi : (∀ aa bb, aa ≠ 25 ∨ bb ≠ 8 → F aa bb = F0 aa bb) ∧ F 25 8 = kpU (F0 25 8) ∧ (0 ≤ k ∧ k ≤ 124) ∧ (∀ bb ii, bb ≠ 31 → A bb ii = A0 bb ii) ∧ (∀ jj, 0 ≤ jj → jj < 124 * kpU (F0 25 8) → A 31 jj = A0 31 (if F0 25 8 = 10 then jj + 124 else jj)) ∧ (∀ kk, 0 ≤ kk → kk < k → A 31 (124 * kpU (F0 25 8) + kk) = A0 29 kk)) : am_stp qxX9_keeps (am_run qxX9_keeps qnX9_keeps_25 (fun pc ls st F9 A9 u => qiX9_keeps_25  F0 A0 pc ls st F9 A9 u ∧ quX9_keeps_25 pc ls st F9 A9 < quX9_keeps_25 52 [some (vR 25), some (vI k)] [] F A) K 21) K 52 [some (vR 25), some (vI k)] [] F A 0 := by
  obtain ⟨hp, h⟩ := h
  have kb := kpU_b hp
  obtain ⟨hF, hU, h1, h2, h3, h4⟩ := hi
  show (w32 k < w32 124 → ((0 ≤ w32 k ∧ w32 k < 124) ∧ ((0 ≤ w32 ((124 * (F 25 8)) + k) ∧ w32 ((124 * (F 25 8)) + k) < 1240) ∧ ((25 = 25 ∧ ((∀ aa bb, aa ≠ 25 ∨ bb ≠ 8 → F aa bb = F0 aa bb) ∧ F 25 8 = kpU (F0 25 8) ∧ (0 ≤ (k + 1) ∧ (k + 1) ≤ 124) ∧ (∀ bb ii, bb ≠ 31 → (upA A 31 (w32 ((124 * (F 25 8)) + k)) (A 29 (w32 k))) bb ii = A0 bb ii) ∧ (∀ jj, 0 ≤ jj → jj < 124 * kpU (F0 25 8) → (upA A 31 (w32 ((124 * (F 25 8)) + k)) (A 29 (w32 k))) 31 jj = A0 31 (if F0 25 8 = 10 then jj + 124 else jj)) ∧ (∀ kk, 0 ≤ kk → kk < (k + 1) → (upA A 31 (w32 ((124 * (F 25 8)) + k)) (A 29 (w32 k))) 31 (124 * kpU (F0 25 8) + kk) = A0 29 kk))) ∧ (Int.toNat (200 - (k + 1))) < (Int.toNat (200 - k)))))) ∧ (¬ w32 k < w32 124 → (K (some none) (upF F 25 8 ((F 25 8) + 1)) A))
  refine ⟨fun c1 => ?_, fun c1 => ?_⟩
  · skip
    (try simp (disch := omega) only [w32_id] at c1)
    refine ⟨by first | omega | (rw [w32_id (by omega) (by omega)]; omega) | (rw [hU]; simp (disch := omega) only [w32_id]; omega), ?_⟩
    refine ⟨by first | omega | (rw [w32_id (by omega) (by omega)]; omega) | (rw [hU]; simp (disch := omega) only [w32_id]; omega), ?_⟩
    refine ⟨⟨rfl, ?_⟩, by omega⟩
    rw [show w32 (124 * F 25 8 + k) = 124 * kpU (F0 25 8) + k by rw [hU, w32_id (by omega) (by omega)]]
    simp (disch := omega) only [w32_id]
    refine ⟨hF, hU, by omega, fun bb ii hb => (upA_k hb).trans (h2 bb ii hb), fun jj j0 j1 => ?_, fun kk k0 k1 => ?_⟩
    · rw [upA_o (by omega)]; exact h3 jj j0 j1
    · by_cases e : kk = k
      · rw [e, upA_s]; exact h2 29 k (by decide)
      · rw [upA_o (by omega)]; exact h4 kk k0 (by omega)
  · skip
    (try simp (disch := omega) only [w32_id] at c1)
    have ek : k = 124 := by omega
    refine h _ _ ⟨fun aa bb hab => (upF_o hab).trans (hF aa bb hab), by rw [upF_s, hU], h2, h3, fun kk k0 k1 => h4 kk k0 (by omega)⟩
set_option maxRecDepth 20000 in
theorem qvX9_keeps_25  (F0 : FF) (A0 : AA) (K : KK) (h : (0 ≤ (F0 25 8) ∧ (F0 25 8) ≤ 10) ∧ (∀ (G_1 : FF) (B_1 : AA), (keP F0 G_1 A0 B_1) → (K (some none) G_1 B_1))) : am_body qxX9_keeps qnX9_keeps_25 21 (qiX9_keeps_25  F0 A0) quX9_keeps_25 [vR 25] 2 F0 A0 K := by
  refine ⟨qvX9_keeps_25_0  F0 A0 K h, fun pc ls st F A u hI => ?_⟩
  unfold qiX9_keeps_25 at hI
  replace hI := am_cond2 hI
  rcases hI with ⟨hb, hI⟩ | hI
  · have hb := am_bq hb
    subst hb
    split at hI
    · rename_i s0 k
      obtain ⟨e0, e1, hI⟩ := hI
      subst e0
      subst e1
      exact qvX9_keeps_25_12  _ _ K h _ _ hI
    · exact hI.elim
  replace hI := am_cond2 hI
  rcases hI with ⟨hb, hI⟩ | hI
  · have hb := am_bq hb
    subst hb
    split at hI
    · rename_i s0 k
      obtain ⟨e0, hI⟩ := hI
      subst e0
      exact qvX9_keeps_25_52  _ _ K h _ _ _ hI
    · exact hI.elim
  exact hI.elim
theorem qtX9_keeps (l : Launch) : am_CT l layM qeX9_keeps := am_met0 rfl (by decide +kernel) rfl rfl rfl rfl rfl (fun _ => rfl) rfl (qzX9_keeps l) (fun k e1 h => (qyX9_keeps l k e1 h).2) (fun as F A K h => by
  replace h : qsX9_keeps as F A K := h
  unfold qsX9_keeps at h
  split at h
  · rename_i o
    refine ⟨by first | exact Nat.le_of_ble_eq_true rfl | simp [am_fl, am_cat], ?_⟩
    replace h := am_cond2 h
    rcases h with ⟨hb, h⟩ | h
    · skip
      have hb0 := hb
      have hb0 := am_bq hb0
      subst hb0
      exact am_way_body (qvX9_keeps_25  F A K h)
    exact h.elim
  · exact h.elim)
def qkX9_undo : Nat → Option CI := fun pc => cond (Nat.ble 63 pc) none (cond (Nat.ble 29 pc) (cond (Nat.ble 47 pc) (cond (Nat.ble 52 pc) (cond (Nat.ble 58 pc) (cond (Nat.beq pc 58) (some (.aload_n 0, 59, [])) (cond (Nat.beq pc 59) (some (.getfield 295, 62, [])) (cond (Nat.beq pc 62) (some (.ireturn, 63, [])) (none)))) (cond (Nat.beq pc 52) (some (.iinc 1 1, 55, [])) (cond (Nat.beq pc 55) (some (.goto (-29), 58, [26])) (none)))) (cond (Nat.ble 49 pc) (cond (Nat.beq pc 49) (some (.iadd, 50, [])) (cond (Nat.beq pc 50) (some (.iaload, 51, [])) (cond (Nat.beq pc 51) (some (.iastore, 52, [])) (none)))) (cond (Nat.beq pc 47) (some (.imul, 48, [])) (cond (Nat.beq pc 48) (some (.iload_n 1, 49, [])) (none))))) (cond (Nat.ble 37 pc) (cond (Nat.ble 41 pc) (cond (Nat.beq pc 41) (some (.bipush 124, 43, [])) (cond (Nat.beq pc 43) (some (.aload_n 0, 44, [])) (cond (Nat.beq pc 44) (some (.getfield 295, 47, [])) (none)))) (cond (Nat.beq pc 37) (some (.aload_n 0, 38, [])) (cond (Nat.beq pc 38) (some (.getfield 25, 41, [])) (none)))) (cond (Nat.ble 33 pc) (cond (Nat.beq pc 33) (some (.getfield 19, 36, [])) (cond (Nat.beq pc 36) (some (.iload_n 1, 37, [])) (none))) (cond (Nat.beq pc 29) (some (.if_icmp .ge 29, 32, [58])) (cond (Nat.beq pc 32) (some (.aload_n 0, 33, [])) (none)))))) (cond (Nat.ble 15 pc) (cond (Nat.ble 21 pc) (cond (Nat.ble 25 pc) (cond (Nat.beq pc 25) (some (.istore_n 1, 26, [])) (cond (Nat.beq pc 26) (some (.iload_n 1, 27, [])) (cond (Nat.beq pc 27) (some (.bipush 124, 29, [])) (none)))) (cond (Nat.beq pc 21) (some (.putfield 295, 24, [])) (cond (Nat.beq pc 24) (some (.iconst 0, 25, [])) (none)))) (cond (Nat.ble 19 pc) (cond (Nat.beq pc 19) (some (.iconst 1, 20, [])) (cond (Nat.beq pc 20) (some (.isub, 21, [])) (none))) (cond (Nat.beq pc 15) (some (.dup, 16, [])) (cond (Nat.beq pc 16) (some (.getfield 295, 19, [])) (none))))) (cond (Nat.ble 6 pc) (cond (Nat.ble 12 pc) (cond (Nat.beq pc 12) (some (.iconst (-1), 13, [])) (cond (Nat.beq pc 13) (some (.ireturn, 14, [])) (cond (Nat.beq pc 14) (some (.aload_n 0, 15, [])) (none)))) (cond (Nat.beq pc 6) (some (.getfield 295, 9, [])) (cond (Nat.beq pc 9) (some (.ifCond .ne 5, 12, [14])) (none)))) (cond (Nat.ble 2 pc) (cond (Nat.beq pc 2) (some (.putfield 70, 5, [])) (cond (Nat.beq pc 5) (some (.aload_n 0, 6, [])) (none))) (cond (Nat.beq pc 0) (some (.aload_n 0, 1, [])) (cond (Nat.beq pc 1) (some (.iconst 0, 2, [])) (none)))))))
theorem qkX9_undo_ok : ∀ pc i nx ts, qkX9_undo pc = some (i, nx, ts) → am_cok cX9_undo pc (i, nx, ts) = true := fun pc i nx ts h => am_tok_ok (n := 63) (by decide +kernel) (fun pc h => by show cond (Nat.ble 63 pc) _ _ = _; rw [Nat.ble_eq_true_of_le h]; rfl) h
def qaX9_undo : Nat → Option CE := fun k => none
theorem qyX9_undo (l : Launch) : ∀ k e1, qaX9_undo k = some e1 → am_cal l layM RX9 3 k e1 ∧ ceT e1 = 0 := q_nil
def qxX9_undo : CX := (qkX9_undo, layM, qfX9, qaX9_undo, qcX9, qlX9, qmX9, (some .int), false, none, 0, none, fun _ => none)
theorem qzX9_undo (l : Launch) : am_sta l qxX9_undo RX9 3 cX9_undo := ⟨qkX9_undo_ok, layM_ok, qfX9_ok, qcX9_ok, qlX9_ok, am_mthP qmX9_ok (by decide), fun k e1 h => (qyX9_undo l k e1 h).1⟩
def qsX9_undo : SP := fun as F A K => match as with
  | [.inr (.inr o)] => cond (Nat.beq o 25) ((0 ≤ (F 25 8) ∧ (F 25 8) ≤ 10) ∧ (∀ (G_1 : FF) (B_1 : AA), (((F 25 8) = 0 → ms0 F G_1 A B_1) ∧ (¬ (F 25 8) = 0 → (∀ aa bb, aa ≠ 25 ∨ (bb ≠ 0 ∧ bb ≠ 8) → G_1 aa bb = F aa bb) ∧ G_1 25 0 = 0 ∧ G_1 25 8 = (F 25 8) - 1 ∧ (∀ bb ii, bb ≠ 29 → B_1 bb ii = A bb ii) ∧ ∀ kk, 0 ≤ kk → kk < 124 → B_1 29 kk = A 31 (124 * ((F 25 8) - 1) + kk))) → (K (some (some (vI (if (F 25 8) = 0 then -1 else (F 25 8) - 1)))) G_1 B_1))) (False)
  | _ => False
def qeX9_undo : CE := (yX9_undo, cX9_undo, 2, (some .int), 0, some 9, 0, [], 0, 3, qsX9_undo)
theorem qbX9_undo : am_mb qeX9_undo := ⟨am_tb_at 2033 (by decide +kernel) rfl, am_tb_at 124 (by decide +kernel) rfl, ⟨by decide, by decide, by decide +kernel⟩, by decide, by decide, am_tb_at 2031 (by decide +kernel) rfl, am_tb_at 2032 (by decide +kernel) rfl, _, _, rfl⟩
def qnX9_undo_25 : CUT := fun pc => cond (Nat.beq pc 26) (some [true, true]) (none)
def qiX9_undo_25  (F0 : FF) (A0 : AA) : REC := fun pc ls st F A u => cond (Nat.beq pc 26) (match ls, st, u with
    | [some (.inr (.inr s0)), some (.inl k)], [], 0 => s0 = 25 ∧ (¬ F0 25 8 = 0 ∧ (∀ aa bb, aa ≠ 25 ∨ (bb ≠ 0 ∧ bb ≠ 8) → F aa bb = F0 aa bb) ∧ F 25 0 = 0 ∧ F 25 8 = F0 25 8 - 1 ∧ (0 ≤ k ∧ k ≤ 124) ∧ (∀ bb ii, bb ≠ 29 → A bb ii = A0 bb ii) ∧ ∀ kk, 0 ≤ kk → kk < k → A 29 kk = A0 31 (124 * (F0 25 8 - 1) + kk))
    | _, _, _ => False) (False)
def quX9_undo_25 : Nat → LVs → List AV → FF → AA → Nat := fun pc ls _ F A => cond (Nat.beq pc 26) (match ls with
    | [some (.inr (.inr s0)), some (.inl k)] => Int.toNat (200 - k)
    | _ => 0) (0)
set_option maxRecDepth 20000 in
theorem qvX9_undo_25_0  (F0 : FF) (A0 : AA) (K : KK) (h : (0 ≤ (F0 25 8) ∧ (F0 25 8) ≤ 10) ∧ (∀ (G_1 : FF) (B_1 : AA), (((F0 25 8) = 0 → ms0 F0 G_1 A0 B_1) ∧ (¬ (F0 25 8) = 0 → (∀ aa bb, aa ≠ 25 ∨ (bb ≠ 0 ∧ bb ≠ 8) → G_1 aa bb = F0 aa bb) ∧ G_1 25 0 = 0 ∧ G_1 25 8 = (F0 25 8) - 1 ∧ (∀ bb ii, bb ≠ 29 → B_1 bb ii = A0 bb ii) ∧ ∀ kk, 0 ≤ kk → kk < 124 → B_1 29 kk = A0 31 (124 * ((F0 25 8) - 1) + kk))) → (K (some (some (vI (if (F0 25 8) = 0 then -1 else (F0 25 8) - 1)))) G_1 B_1))) : am_stp qxX9_undo (am_run qxX9_undo qnX9_undo_25 (qiX9_undo_25  F0 A0) K 21) K 0 (am_ent [vR 25] 2) [] F0 A0 0 := by
  show am_stp qxX9_undo (am_run qxX9_undo qnX9_undo_25 (qiX9_undo_25  F0 A0) K 21) K 0 [some (vR 25), none] [] F0 A0 0
  obtain ⟨hp, h⟩ := h
  show (w32 (F0 25 8) = w32 0 → (K (some (some (vI (-1)))) (upF F0 25 0 0) A0)) ∧ (¬ w32 (F0 25 8) = w32 0 → (25 = 25 ∧ (¬ F0 25 8 = 0 ∧ (∀ aa bb, aa ≠ 25 ∨ (bb ≠ 0 ∧ bb ≠ 8) → (upF (upF F0 25 0 0) 25 8 ((F0 25 8) - 1)) aa bb = F0 aa bb) ∧ (upF (upF F0 25 0 0) 25 8 ((F0 25 8) - 1)) 25 0 = 0 ∧ (upF (upF F0 25 0 0) 25 8 ((F0 25 8) - 1)) 25 8 = F0 25 8 - 1 ∧ (0 ≤ 0 ∧ 0 ≤ 124) ∧ (∀ bb ii, bb ≠ 29 → A0 bb ii = A0 bb ii) ∧ ∀ kk, 0 ≤ kk → kk < 0 → A0 29 kk = A0 31 (124 * (F0 25 8 - 1) + kk))))
  refine ⟨fun c1 => ?_, fun c1 => ?_⟩
  · skip
    (try rw [upF_o (show (25 : Nat) ≠ 25 ∨ (8 : Nat) ≠ 0 by decide)] at c1); (try simp (disch := omega) only [w32_id, w32_0] at c1)
    exact K_eq (h _ _ ⟨fun _ => ⟨rfl, rfl⟩, fun z => absurd c1 z⟩) (if_pos c1)
  · skip
    (try rw [upF_o (show (25 : Nat) ≠ 25 ∨ (8 : Nat) ≠ 0 by decide)] at c1); (try simp (disch := omega) only [w32_id, w32_0] at c1)
    refine ⟨rfl, ?_⟩
    refine ⟨c1, fun aa bb hab => (upF_o (by omega)).trans (upF_o (by omega)), (upF_o (by decide)).trans upF_s, by rw [upF_s], by omega, fun _ _ _ => rfl, fun kk k0 k1 => by omega⟩
set_option maxRecDepth 20000 in
theorem qvX9_undo_25_26  (F0 : FF) (A0 : AA) (K : KK) (h : (0 ≤ (F0 25 8) ∧ (F0 25 8) ≤ 10) ∧ (∀ (G_1 : FF) (B_1 : AA), (((F0 25 8) = 0 → ms0 F0 G_1 A0 B_1) ∧ (¬ (F0 25 8) = 0 → (∀ aa bb, aa ≠ 25 ∨ (bb ≠ 0 ∧ bb ≠ 8) → G_1 aa bb = F0 aa bb) ∧ G_1 25 0 = 0 ∧ G_1 25 8 = (F0 25 8) - 1 ∧ (∀ bb ii, bb ≠ 29 → B_1 bb ii = A0 bb ii) ∧ ∀ kk, 0 ≤ kk → kk < 124 → B_1 29 kk = A0 31 (124 * ((F0 25 8) - 1) + kk))) → (K (some (some (vI (if (F0 25 8) = 0 then -1 else (F0 25 8) - 1)))) G_1 B_1))) (k : Int) (F : FF) (A : AA) (hi : ¬ F0 25 8 = 0 ∧ (∀ aa bb, aa ≠ 25 ∨ (bb ≠ 0 ∧ bb ≠ 8) → F aa bb = F0 aa bb) ∧ F 25 0 = 0 ∧ F 25 8 = F0 25 8 - 1 ∧ (0 ≤ k ∧ k ≤ 124) ∧ (∀ bb ii, bb ≠ 29 → A bb ii = A0 bb ii) ∧ ∀ kk, 0 ≤ kk → kk < k → A 29 kk = A0 31 (124 * (F0 25 8 - 1) + kk)) : am_stp qxX9_undo (am_run qxX9_undo qnX9_undo_25 (fun pc ls st F9 A9 u => qiX9_undo_25  F0 A0 pc ls st F9 A9 u ∧ quX9_undo_25 pc ls st F9 A9 < quX9_undo_25 26 [some (vR 25), some (vI k)] [] F A) K 21) K 26 [some (vR 25), some (vI k)] [] F A 0 := by
  obtain ⟨hp, h⟩ := h
  obtain ⟨h0, hF, hT, hU, h1, h2, h3⟩ := hi
  show (w32 k < w32 124 → ((0 ≤ w32 ((124 * (F 25 8)) + k) ∧ w32 ((124 * (F 25 8)) + k) < 1240) ∧ ((0 ≤ w32 k ∧ w32 k < 124) ∧ ((25 = 25 ∧ (¬ F0 25 8 = 0 ∧ (∀ aa bb, aa ≠ 25 ∨ (bb ≠ 0 ∧ bb ≠ 8) → F aa bb = F0 aa bb) ∧ F 25 0 = 0 ∧ F 25 8 = F0 25 8 - 1 ∧ (0 ≤ (k + 1) ∧ (k + 1) ≤ 124) ∧ (∀ bb ii, bb ≠ 29 → (upA A 29 (w32 k) (A 31 (w32 ((124 * (F 25 8)) + k)))) bb ii = A0 bb ii) ∧ ∀ kk, 0 ≤ kk → kk < (k + 1) → (upA A 29 (w32 k) (A 31 (w32 ((124 * (F 25 8)) + k)))) 29 kk = A0 31 (124 * (F0 25 8 - 1) + kk))) ∧ (Int.toNat (200 - (k + 1))) < (Int.toNat (200 - k)))))) ∧ (¬ w32 k < w32 124 → (K (some (some (vI (F 25 8)))) F A))
  refine ⟨fun c1 => ?_, fun c1 => ?_⟩
  · skip
    (try simp (disch := omega) only [w32_id] at c1)
    refine ⟨by first | omega | (rw [w32_id (by omega) (by omega)]; omega) | (rw [hU]; simp (disch := omega) only [w32_id]; omega), ?_⟩
    refine ⟨by first | omega | (rw [w32_id (by omega) (by omega)]; omega) | (rw [hU]; simp (disch := omega) only [w32_id]; omega), ?_⟩
    refine ⟨⟨rfl, ?_⟩, by omega⟩
    rw [show w32 (124 * F 25 8 + k) = 124 * (F0 25 8 - 1) + k by rw [hU, w32_id (by omega) (by omega)]]
    simp (disch := omega) only [w32_id]
    refine ⟨h0, hF, hT, hU, by omega, fun bb ii hb => (upA_k hb).trans (h2 bb ii hb), fun kk k0 k1 => ?_⟩
    by_cases e : kk = k
    · rw [e, upA_s]; exact h2 31 _ (by decide)
    · rw [upA_o e]; exact h3 kk k0 (by omega)
  · skip
    (try simp (disch := omega) only [w32_id] at c1)
    refine K_eq (h _ _ ⟨fun z => absurd z h0, fun _ => ⟨hF, hT, hU, h2, fun kk k0 k1 => h3 kk k0 (by omega)⟩⟩) ?_
    rw [if_neg h0, hU]
set_option maxRecDepth 20000 in
theorem qvX9_undo_25  (F0 : FF) (A0 : AA) (K : KK) (h : (0 ≤ (F0 25 8) ∧ (F0 25 8) ≤ 10) ∧ (∀ (G_1 : FF) (B_1 : AA), (((F0 25 8) = 0 → ms0 F0 G_1 A0 B_1) ∧ (¬ (F0 25 8) = 0 → (∀ aa bb, aa ≠ 25 ∨ (bb ≠ 0 ∧ bb ≠ 8) → G_1 aa bb = F0 aa bb) ∧ G_1 25 0 = 0 ∧ G_1 25 8 = (F0 25 8) - 1 ∧ (∀ bb ii, bb ≠ 29 → B_1 bb ii = A0 bb ii) ∧ ∀ kk, 0 ≤ kk → kk < 124 → B_1 29 kk = A0 31 (124 * ((F0 25 8) - 1) + kk))) → (K (some (some (vI (if (F0 25 8) = 0 then -1 else (F0 25 8) - 1)))) G_1 B_1))) : am_body qxX9_undo qnX9_undo_25 21 (qiX9_undo_25  F0 A0) quX9_undo_25 [vR 25] 2 F0 A0 K := by
  refine ⟨qvX9_undo_25_0  F0 A0 K h, fun pc ls st F A u hI => ?_⟩
  unfold qiX9_undo_25 at hI
  replace hI := am_cond2 hI
  rcases hI with ⟨hb, hI⟩ | hI
  · have hb := am_bq hb
    subst hb
    split at hI
    · rename_i s0 k
      obtain ⟨e0, hI⟩ := hI
      subst e0
      exact qvX9_undo_25_26  _ _ K h _ _ _ hI
    · exact hI.elim
  exact hI.elim
theorem qtX9_undo (l : Launch) : am_CT l layM qeX9_undo := am_met0 rfl (by decide +kernel) rfl rfl rfl rfl rfl (fun _ => rfl) rfl (qzX9_undo l) (fun k e1 h => (qyX9_undo l k e1 h).2) (fun as F A K h => by
  replace h : qsX9_undo as F A K := h
  unfold qsX9_undo at h
  split at h
  · rename_i o
    refine ⟨by first | exact Nat.le_of_ble_eq_true rfl | simp [am_fl, am_cat], ?_⟩
    replace h := am_cond2 h
    rcases h with ⟨hb, h⟩ | h
    · skip
      have hb0 := hb
      have hb0 := am_bq hb0
      subst hb0
      exact am_way_body (qvX9_undo_25  F A K h)
    exact h.elim
  · exact h.elim)
