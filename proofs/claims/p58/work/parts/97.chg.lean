/-! the law's changes keep a figure and its counts -/
def lwI (F : FF) (A : AA) (nC nL : Int) : Prop := figR (A 2) ∧ hsOK F ∧ caAll A ∧ A 2 0 = nC ∧ A 2 1 = nL
theorem hsOK_k {F : FF} (h : hsOK F) : hsOK (kF F) := by
  obtain ⟨⟨a, b⟩, c, d⟩ := h
  have e1 : kF F 5 1 = if F 5 2 = 10 then (F 5 1 + 1) % 10 else F 5 1 := by unfold kF; rw [upF_o (by decide), upF_s]
  have e2 : kF F 5 2 = if F 5 2 = 10 then 10 else F 5 2 + 1 := by unfold kF; rw [upF_s]
  unfold hsOK
  rw [e1, e2]
  split <;> omega
theorem lwc {F G : FF} {A B : AA} {p : Prop} {g : Int → Int} (h1 : figR (A 2)) (h2 : hsOK F) (h3 : caAll A) (q : chQ p F G A B g) (hp : p → figR g ∧ g 0 = A 2 0 ∧ g 1 = A 2 1) : lwI G B (A 2 0) (A 2 1) := by
  by_cases z : p
  · obtain ⟨e, f, r⟩ := q.1 z
    obtain ⟨a, b, c⟩ := hp z
    refine ⟨fig_c a r, by rw [e]; exact hsOK_k h2, caAll_c (A := kA F A) (funext fun i => f 10 i (by decide)) (funext fun i => f 11 i (by decide)) (funext fun i => f 12 i (by decide)) (funext fun i => f 13 i (by decide)) (caAll_k h3), by rw [r 0 (by decide) (by decide), b], by rw [r 1 (by decide) (by decide), c]⟩
  · obtain ⟨rfl, rfl⟩ := q.2 z
    exact ⟨h1, h2, h3, rfl, rfl⟩
section CH
variable {F G : FF} {A B : AA}
theorem lwc_mv {c k x y : Int} (h1 : figR (A 2)) (h2 : hsOK F) (h3 : caAll A) (q : chQ ((0 ≤ c ∧ c < A 2 0 ∧ 0 ≤ k ∧ k < A 2 (18 + c)) ∧ (0 ≤ x ∧ x ≤ 20 ∧ 0 ≤ y ∧ y ≤ 20)) F G A B (movR (A 2) c k x y)) : lwI G B (A 2 0) (A 2 1) :=
  lwc h1 h2 h3 q (fun ⟨⟨a, b, c1, d⟩, e1, e2, e3, e4⟩ => ⟨movR_F h1 a b c1 d ⟨e1, e2⟩ ⟨e3, e4⟩, by unfold movR; rw [if_neg (by omega), if_neg (by omega)], by unfold movR; rw [if_neg (by omega), if_neg (by omega)]⟩)
theorem lwc_wg {c k w : Int} (h1 : figR (A 2)) (h2 : hsOK F) (h3 : caAll A) (q : chQ ((0 ≤ c ∧ c < A 2 0 ∧ 0 ≤ k ∧ k < A 2 (18 + c)) ∧ (1 ≤ w ∧ w ≤ 3)) F G A B (wgR (A 2) c k w)) : lwI G B (A 2 0) (A 2 1) :=
  lwc h1 h2 h3 q (fun ⟨⟨a, b, c1, d⟩, e⟩ => ⟨wgR_F h1 a b c1 d e, by unfold wgR; rw [if_neg (by omega)], by unfold wgR; rw [if_neg (by omega)]⟩)
theorem lwc_in {c k x y w : Int} (h1 : figR (A 2)) (h2 : hsOK F) (h3 : caAll A) (q : chQ ((0 ≤ c ∧ c < A 2 0) ∧ ((0 ≤ k ∧ k ≤ A 2 (18 + c)) ∧ (0 ≤ x ∧ x ≤ 20 ∧ 0 ≤ y ∧ y ≤ 20) ∧ (1 ≤ w ∧ w ≤ 3)) ∧ ¬ A 2 (18 + c) = 4) F G A B (insR (A 2) c k x y w)) : lwI G B (A 2 0) (A 2 1) :=
  lwc h1 h2 h3 q (fun ⟨⟨a, b⟩, ⟨⟨k0, k1⟩, ⟨x0, x1, y0, y1⟩, hw⟩, n4⟩ => by
    have hs := (h1.1.2.2.1 c a b).1
    refine ⟨insR_F h1 a b k0 k1 (by omega) ⟨x0, x1⟩ ⟨y0, y1⟩ hw, ?_, ?_⟩
    · unfold insR upR; rw [if_neg (by omega), if_neg (by omega), if_neg (by omega), if_neg (by omega), if_neg (by omega)]
    · unfold insR upR; rw [if_neg (by omega), if_neg (by omega), if_neg (by omega), if_neg (by omega), if_neg (by omega)])
theorem lwc_dr {c k : Int} (h1 : figR (A 2)) (h2 : hsOK F) (h3 : caAll A) (q : chQ ((0 ≤ c ∧ c < A 2 0 ∧ 0 ≤ k ∧ k < A 2 (18 + c)) ∧ ¬ A 2 (18 + c) = 2) F G A B (drpR (A 2) c k)) : lwI G B (A 2 0) (A 2 1) :=
  lwc h1 h2 h3 q (fun ⟨⟨a, b, c1, d⟩, e⟩ => ⟨drpR_F h1 a b c1 d e, by unfold drpR dnR; rw [if_neg (by omega), if_neg (by omega)], by unfold drpR dnR; rw [if_neg (by omega), if_neg (by omega)]⟩)
theorem lwc_rv {c : Int} (h1 : figR (A 2)) (h2 : hsOK F) (h3 : caAll A) (q : chQ (0 ≤ c ∧ c < A 2 0) F G A B (revR (A 2) c)) : lwI G B (A 2 0) (A 2 1) :=
  lwc h1 h2 h3 q (fun ⟨a, b⟩ => ⟨revR_F h1 a b, by unfold revR; rw [if_neg (by omega)], by unfold revR; rw [if_neg (by omega)]⟩)
theorem lwc_st {s v : Int} (h1 : figR (A 2)) (h2 : hsOK F) (h3 : caAll A) (q : chQ ((s = 0 ∨ s = 1) ∧ 1 ≤ v ∧ v ≤ (if s = 0 then 12 else 6)) F G A B (stR (A 2) s v)) : lwI G B (A 2 0) (A 2 1) :=
  lwc h1 h2 h3 q (fun ⟨a, b⟩ => ⟨stR_F h1 a b, by unfold stR; rw [if_neg (by omega)], by unfold stR; rw [if_neg (by omega)]⟩)
theorem lwc_ln {l a b c : Int} (h1 : figR (A 2)) (h2 : hsOK F) (h3 : caAll A) (q : ((0 ≤ l ∧ l < A 2 1) ∧ ((-5 ≤ a ∧ a ≤ 5) ∧ (-5 ≤ b ∧ b ≤ 5) ∧ (-200 ≤ c ∧ c ≤ 200) ∧ ¬ (a = 0 ∧ b = 0)) → chR F G A B (lnR (A 2) l a b c)) ∧ (¬ ((0 ≤ l ∧ l < A 2 1) ∧ ((-5 ≤ a ∧ a ≤ 5) ∧ (-5 ≤ b ∧ b ≤ 5) ∧ (-200 ≤ c ∧ c ≤ 200) ∧ ¬ (a = 0 ∧ b = 0))) → ch0 F G A B)) : lwI G B (A 2 0) (A 2 1) := by
  by_cases z : (0 ≤ l ∧ l < A 2 1) ∧ ((-5 ≤ a ∧ a ≤ 5) ∧ (-5 ≤ b ∧ b ≤ 5) ∧ (-200 ≤ c ∧ c ≤ 200) ∧ ¬ (a = 0 ∧ b = 0))
  · obtain ⟨e, f, r, ca, -⟩ := q.1 z
    obtain ⟨⟨l0, l1⟩, ha, hb, hc, -⟩ := z
    have hk := hsOK_k h2
    refine ⟨fig_c (lnR_F h1 l0 l1 ha hb hc) r, ?_, ca h3, ?_, ?_⟩
    · unfold hsOK at hk ⊢
      rw [e 5 1 (by decide), e 5 2 (by decide)]; exact hk
    · rw [r 0 (by decide) (by decide)]; unfold lnR; rw [if_neg (by omega), if_neg (by omega), if_neg (by omega)]
    · rw [r 1 (by decide) (by decide)]; unfold lnR; rw [if_neg (by omega), if_neg (by omega), if_neg (by omega)]
  · obtain ⟨rfl, rfl⟩ := q.2 z
    exact ⟨h1, h2, h3, rfl, rfl⟩
end CH
def qkL_changes : Nat → Option CI := fun pc => cond (Nat.ble 294 pc) none (cond (Nat.ble 174 pc) (cond (Nat.ble 236 pc) (cond (Nat.ble 264 pc) (cond (Nat.ble 280 pc) (cond (Nat.ble 285 pc) (cond (Nat.ble 289 pc) (cond (Nat.beq pc 289) (some (.invokevirtual 148, 292, [])) (cond (Nat.beq pc 292) (some (.pop, 293, [])) (cond (Nat.beq pc 293) (some (.return_, 294, [])) (none)))) (cond (Nat.beq pc 285) (some (.invokestatic 43, 288, [])) (cond (Nat.beq pc 288) (some (.iadd, 289, [])) (none)))) (cond (Nat.ble 283 pc) (cond (Nat.beq pc 283) (some (.idiv, 284, [])) (cond (Nat.beq pc 284) (some (.iconst 4, 285, [])) (none))) (cond (Nat.beq pc 280) (some (.iload_n 1, 281, [])) (cond (Nat.beq pc 281) (some (.bipush 16, 283, [])) (none))))) (cond (Nat.ble 273 pc) (cond (Nat.ble 277 pc) (cond (Nat.beq pc 277) (some (.aload_n 0, 278, [])) (cond (Nat.beq pc 278) (some (.iconst 1, 279, [])) (cond (Nat.beq pc 279) (some (.iconst 1, 280, [])) (none)))) (cond (Nat.beq pc 273) (some (.pop, 274, [])) (cond (Nat.beq pc 274) (some (.goto 19, 277, [293])) (none)))) (cond (Nat.ble 269 pc) (cond (Nat.beq pc 269) (some (.iadd, 270, [])) (cond (Nat.beq pc 270) (some (.invokevirtual 148, 273, [])) (none))) (cond (Nat.beq pc 264) (some (.bipush 12, 266, [])) (cond (Nat.beq pc 266) (some (.invokestatic 43, 269, [])) (none)))))) (cond (Nat.ble 250 pc) (cond (Nat.ble 258 pc) (cond (Nat.ble 260 pc) (cond (Nat.beq pc 260) (some (.iload_n 1, 261, [])) (cond (Nat.beq pc 261) (some (.bipush 16, 263, [])) (cond (Nat.beq pc 263) (some (.idiv, 264, [])) (none)))) (cond (Nat.beq pc 258) (some (.iconst 0, 259, [])) (cond (Nat.beq pc 259) (some (.iconst 1, 260, [])) (none)))) (cond (Nat.ble 254 pc) (cond (Nat.beq pc 254) (some (.goto 39, 257, [293])) (cond (Nat.beq pc 257) (some (.aload_n 0, 258, [])) (none))) (cond (Nat.beq pc 250) (some (.invokevirtual 145, 253, [])) (cond (Nat.beq pc 253) (some (.pop, 254, [])) (none))))) (cond (Nat.ble 241 pc) (cond (Nat.ble 244 pc) (cond (Nat.beq pc 244) (some (.invokestatic 43, 247, [])) (cond (Nat.beq pc 247) (some (.bipush 50, 249, [])) (cond (Nat.beq pc 249) (some (.isub, 250, [])) (none)))) (cond (Nat.beq pc 241) (some (.idiv, 242, [])) (cond (Nat.beq pc 242) (some (.bipush 101, 244, [])) (none)))) (cond (Nat.ble 238 pc) (cond (Nat.beq pc 238) (some (.iload_n 1, 239, [])) (cond (Nat.beq pc 239) (some (.ldc 144, 241, [])) (none))) (cond (Nat.beq pc 236) (some (.iconst 5, 237, [])) (cond (Nat.beq pc 237) (some (.isub, 238, [])) (none))))))) (cond (Nat.ble 203 pc) (cond (Nat.ble 219 pc) (cond (Nat.ble 226 pc) (cond (Nat.ble 230 pc) (cond (Nat.beq pc 230) (some (.idiv, 231, [])) (cond (Nat.beq pc 231) (some (.bipush 11, 233, [])) (cond (Nat.beq pc 233) (some (.invokestatic 43, 236, [])) (none)))) (cond (Nat.beq pc 226) (some (.iload_n 1, 227, [])) (cond (Nat.beq pc 227) (some (.sipush 2048, 230, [])) (none)))) (cond (Nat.ble 224 pc) (cond (Nat.beq pc 224) (some (.iconst 5, 225, [])) (cond (Nat.beq pc 225) (some (.isub, 226, [])) (none))) (cond (Nat.beq pc 219) (some (.bipush 11, 221, [])) (cond (Nat.beq pc 221) (some (.invokestatic 43, 224, [])) (none))))) (cond (Nat.ble 211 pc) (cond (Nat.ble 214 pc) (cond (Nat.beq pc 214) (some (.iload_n 1, 215, [])) (cond (Nat.beq pc 215) (some (.sipush 128, 218, [])) (cond (Nat.beq pc 218) (some (.idiv, 219, [])) (none)))) (cond (Nat.beq pc 211) (some (.aload_n 0, 212, [])) (cond (Nat.beq pc 212) (some (.iload 4, 214, [])) (none)))) (cond (Nat.ble 207 pc) (cond (Nat.beq pc 207) (some (.pop, 208, [])) (cond (Nat.beq pc 208) (some (.goto 85, 211, [293])) (none))) (cond (Nat.beq pc 203) (some (.iload_n 2, 204, [])) (cond (Nat.beq pc 204) (some (.invokevirtual 141, 207, [])) (none)))))) (cond (Nat.ble 188 pc) (cond (Nat.ble 194 pc) (cond (Nat.ble 198 pc) (cond (Nat.beq pc 198) (some (.pop, 199, [])) (cond (Nat.beq pc 199) (some (.goto 94, 202, [293])) (cond (Nat.beq pc 202) (some (.aload_n 0, 203, [])) (none)))) (cond (Nat.beq pc 194) (some (.iload_n 3, 195, [])) (cond (Nat.beq pc 195) (some (.invokevirtual 138, 198, [])) (none)))) (cond (Nat.ble 192 pc) (cond (Nat.beq pc 192) (some (.aload_n 0, 193, [])) (cond (Nat.beq pc 193) (some (.iload_n 2, 194, [])) (none))) (cond (Nat.beq pc 188) (some (.pop, 189, [])) (cond (Nat.beq pc 189) (some (.goto 104, 192, [293])) (none))))) (cond (Nat.ble 180 pc) (cond (Nat.ble 184 pc) (cond (Nat.beq pc 184) (some (.iadd, 185, [])) (cond (Nat.beq pc 185) (some (.invokevirtual 135, 188, [])) (none))) (cond (Nat.beq pc 180) (some (.iconst 3, 181, [])) (cond (Nat.beq pc 181) (some (.invokestatic 43, 184, [])) (none)))) (cond (Nat.ble 176 pc) (cond (Nat.beq pc 176) (some (.sipush 1024, 179, [])) (cond (Nat.beq pc 179) (some (.idiv, 180, [])) (none))) (cond (Nat.beq pc 174) (some (.iconst 1, 175, [])) (cond (Nat.beq pc 175) (some (.iload_n 1, 176, [])) (none)))))))) (cond (Nat.ble 110 pc) (cond (Nat.ble 140 pc) (cond (Nat.ble 155 pc) (cond (Nat.ble 164 pc) (cond (Nat.ble 168 pc) (cond (Nat.beq pc 168) (some (.idiv, 169, [])) (cond (Nat.beq pc 169) (some (.bipush 21, 171, [])) (cond (Nat.beq pc 171) (some (.invokestatic 43, 174, [])) (none)))) (cond (Nat.beq pc 164) (some (.iload_n 1, 165, [])) (cond (Nat.beq pc 165) (some (.sipush 16384, 168, [])) (none)))) (cond (Nat.ble 159 pc) (cond (Nat.beq pc 159) (some (.bipush 21, 161, [])) (cond (Nat.beq pc 161) (some (.invokestatic 43, 164, [])) (none))) (cond (Nat.beq pc 155) (some (.sipush 512, 158, [])) (cond (Nat.beq pc 158) (some (.idiv, 159, [])) (none))))) (cond (Nat.ble 148 pc) (cond (Nat.ble 152 pc) (cond (Nat.beq pc 152) (some (.iload_n 2, 153, [])) (cond (Nat.beq pc 153) (some (.iload_n 3, 154, [])) (cond (Nat.beq pc 154) (some (.iload_n 1, 155, [])) (none)))) (cond (Nat.beq pc 148) (some (.goto 145, 151, [293])) (cond (Nat.beq pc 151) (some (.aload_n 0, 152, [])) (none)))) (cond (Nat.ble 144 pc) (cond (Nat.beq pc 144) (some (.invokevirtual 131, 147, [])) (cond (Nat.beq pc 147) (some (.pop, 148, [])) (none))) (cond (Nat.beq pc 140) (some (.invokestatic 43, 143, [])) (cond (Nat.beq pc 143) (some (.iadd, 144, [])) (none)))))) (cond (Nat.ble 127 pc) (cond (Nat.ble 133 pc) (cond (Nat.ble 135 pc) (cond (Nat.beq pc 135) (some (.sipush 512, 138, [])) (cond (Nat.beq pc 138) (some (.idiv, 139, [])) (cond (Nat.beq pc 139) (some (.iconst 3, 140, [])) (none)))) (cond (Nat.beq pc 133) (some (.iconst 1, 134, [])) (cond (Nat.beq pc 134) (some (.iload_n 1, 135, [])) (none)))) (cond (Nat.ble 131 pc) (cond (Nat.beq pc 131) (some (.iload_n 2, 132, [])) (cond (Nat.beq pc 132) (some (.iload_n 3, 133, [])) (none))) (cond (Nat.beq pc 127) (some (.goto 166, 130, [293])) (cond (Nat.beq pc 130) (some (.aload_n 0, 131, [])) (none))))) (cond (Nat.ble 118 pc) (cond (Nat.ble 123 pc) (cond (Nat.beq pc 123) (some (.invokevirtual 127, 126, [])) (cond (Nat.beq pc 126) (some (.pop, 127, [])) (none))) (cond (Nat.beq pc 118) (some (.bipush 21, 120, [])) (cond (Nat.beq pc 120) (some (.invokestatic 43, 123, [])) (none)))) (cond (Nat.ble 114 pc) (cond (Nat.beq pc 114) (some (.sipush 16384, 117, [])) (cond (Nat.beq pc 117) (some (.idiv, 118, [])) (none))) (cond (Nat.beq pc 110) (some (.invokestatic 43, 113, [])) (cond (Nat.beq pc 113) (some (.iload_n 1, 114, [])) (none))))))) (cond (Nat.ble 28 pc) (cond (Nat.ble 44 pc) (cond (Nat.ble 102 pc) (cond (Nat.ble 104 pc) (cond (Nat.beq pc 104) (some (.sipush 512, 107, [])) (cond (Nat.beq pc 107) (some (.idiv, 108, [])) (cond (Nat.beq pc 108) (some (.bipush 21, 110, [])) (none)))) (cond (Nat.beq pc 102) (some (.iload_n 3, 103, [])) (cond (Nat.beq pc 103) (some (.iload_n 1, 104, [])) (none)))) (cond (Nat.ble 100 pc) (cond (Nat.beq pc 100) (some (.aload_n 0, 101, [])) (cond (Nat.beq pc 101) (some (.iload_n 2, 102, [])) (none))) (cond (Nat.beq pc 44) (some (.invokestatic 43, 47, [])) (cond (Nat.beq pc 47) (some (.tableswitch 230 0 9 #[53, 53, 53, 83, 104, 145, 155, 164, 164, 210], 100, [277, 100, 100, 100, 130, 151, 192, 202, 211, 211, 257])) (none))))) (cond (Nat.ble 33 pc) (cond (Nat.ble 39 pc) (cond (Nat.beq pc 39) (some (.istore 4, 41, [])) (cond (Nat.beq pc 41) (some (.iload_n 1, 42, [])) (cond (Nat.beq pc 42) (some (.bipush 11, 44, [])) (none)))) (cond (Nat.beq pc 33) (some (.invokevirtual 124, 36, [])) (cond (Nat.beq pc 36) (some (.invokestatic 43, 39, [])) (none)))) (cond (Nat.ble 31 pc) (cond (Nat.beq pc 31) (some (.idiv, 32, [])) (cond (Nat.beq pc 32) (some (.aload_n 0, 33, [])) (none))) (cond (Nat.beq pc 28) (some (.iload_n 1, 29, [])) (cond (Nat.beq pc 29) (some (.bipush 16, 31, [])) (none)))))) (cond (Nat.ble 13 pc) (cond (Nat.ble 19 pc) (cond (Nat.ble 23 pc) (cond (Nat.beq pc 23) (some (.iadd, 24, [])) (cond (Nat.beq pc 24) (some (.invokestatic 43, 27, [])) (cond (Nat.beq pc 27) (some (.istore_n 3, 28, [])) (none)))) (cond (Nat.beq pc 19) (some (.invokevirtual 121, 22, [])) (cond (Nat.beq pc 22) (some (.iconst 1, 23, [])) (none)))) (cond (Nat.ble 17 pc) (cond (Nat.beq pc 17) (some (.aload_n 0, 18, [])) (cond (Nat.beq pc 18) (some (.iload_n 2, 19, [])) (none))) (cond (Nat.beq pc 13) (some (.sipush 128, 16, [])) (cond (Nat.beq pc 16) (some (.idiv, 17, [])) (none))))) (cond (Nat.ble 5 pc) (cond (Nat.ble 11 pc) (cond (Nat.beq pc 11) (some (.istore_n 2, 12, [])) (cond (Nat.beq pc 12) (some (.iload_n 1, 13, [])) (none))) (cond (Nat.beq pc 5) (some (.invokevirtual 118, 8, [])) (cond (Nat.beq pc 8) (some (.invokestatic 43, 11, [])) (none)))) (cond (Nat.ble 3 pc) (cond (Nat.beq pc 3) (some (.idiv, 4, [])) (cond (Nat.beq pc 4) (some (.aload_n 0, 5, [])) (none))) (cond (Nat.beq pc 0) (some (.iload_n 1, 1, [])) (cond (Nat.beq pc 1) (some (.bipush 16, 3, [])) (none)))))))))
theorem qkL_changes_ok : ∀ pc i nx ts, qkL_changes pc = some (i, nx, ts) → am_cok cL_changes pc (i, nx, ts) = true := fun pc i nx ts h => am_tok_ok (n := 294) (by decide +kernel) (fun pc h => by show cond (Nat.ble 294 pc) _ _ = _; rw [Nat.ble_eq_true_of_le h]; rfl) h
def qaL_changes : Nat → Option CE := fun k => cond (Nat.beq k 118) (some qeX8_curveCount) (cond (Nat.beq k 43) (some qeL_in) (cond (Nat.beq k 121) (some qeZ8_degree) (cond (Nat.beq k 124) (some qeX8_lineCount) (cond (Nat.beq k 127) (some qeX8_movePoint) (cond (Nat.beq k 131) (some qeX8_setWeight) (cond (Nat.beq k 135) (some qeX8_insertPoint) (cond (Nat.beq k 138) (some qeX8_dropPoint) (cond (Nat.beq k 141) (some qeX8_reverse) (cond (Nat.beq k 145) (some qeX8_setLine) (cond (Nat.beq k 148) (some qeX8_setSetting) (none)))))))))))
theorem qyL_changes (l : Launch) : ∀ k e1, qaL_changes k = some e1 → am_cal l layX RL 11 k e1 ∧ ceT e1 = 0 := q_cons ⟨am_calV (ci := 8) (qtX8_curveCount l) qbX8_curveCount (by decide) rfl (am_tb_at 768 (by decide +kernel) rfl), rfl⟩ (q_cons ⟨am_calS (qtL_in l) qbL_in (by decide) rfl (by decide) (am_tb_at 64 (by decide +kernel) rfl), rfl⟩ (q_cons ⟨am_calV (ci := 8) (qtZ8_degree l) qbZ8_degree (by decide) rfl (am_tb_at 773 (by decide +kernel) rfl), rfl⟩ (q_cons ⟨am_calV (ci := 8) (qtX8_lineCount l) qbX8_lineCount (by decide) rfl (am_tb_at 858 (by decide +kernel) rfl), rfl⟩ (q_cons ⟨am_calV (ci := 8) (qtX8_movePoint l) qbX8_movePoint (by decide) rfl (am_tb_at 863 (by decide +kernel) rfl), rfl⟩ (q_cons ⟨am_calV (ci := 8) (qtX8_setWeight l) qbX8_setWeight (by decide) rfl (am_tb_at 896 (by decide +kernel) rfl), rfl⟩ (q_cons ⟨am_calV (ci := 8) (qtX8_insertPoint l) qbX8_insertPoint (by decide) rfl (am_tb_at 900 (by decide +kernel) rfl), rfl⟩ (q_cons ⟨am_calV (ci := 8) (qtX8_dropPoint l) qbX8_dropPoint (by decide) rfl (am_tb_at 912 (by decide +kernel) rfl), rfl⟩ (q_cons ⟨am_calV (ci := 8) (qtX8_reverse l) qbX8_reverse (by decide) rfl (am_tb_at 916 (by decide +kernel) rfl), rfl⟩ (q_cons ⟨am_calV (ci := 8) (qtX8_setLine l) qbX8_setLine (by decide) rfl (am_tb_at 926 (by decide +kernel) rfl), rfl⟩ (q_cons ⟨am_calV (ci := 8) (qtX8_setSetting l) qbX8_setSetting (by decide) rfl (am_tb_at 968 (by decide +kernel) rfl), rfl⟩ (q_nil)))))))))))
def qxL_changes : CX := (qkL_changes, layX, qfL, qaL_changes, qcL, qlL, qmL, none, false, none, 0, none, fun _ => none)
theorem qzL_changes (l : Launch) : am_sta l qxL_changes RL 11 cL_changes := ⟨qkL_changes_ok, layX_ok, qfL_ok, qcL_ok, qlL_ok, am_mthP qmL_ok (by decide), fun k e1 h => (qyL_changes l k e1 h).1⟩
def qsL_changes : SP := fun as F A K => match as with
  | [.inr (.inr o), .inl x] => cond (Nat.beq o 0) ((figR (A 2) ∧ hsOK F ∧ caAll A ∧ 1 ≤ A 2 0 ∧ 1 ≤ A 2 1) ∧ (∀ (G_1 : FF) (B_1 : AA), (lwI G_1 B_1 (A 2 0) (A 2 1)) → (K (some none) G_1 B_1))) (False)
  | _ => False
def qeL_changes : CE := (yL_changes, cL_changes, 5, none, 2, none, 0, none, 0, 11, qsL_changes)
theorem qbL_changes : am_mb qeL_changes := ⟨am_tb_at 767 (by decide +kernel) rfl, am_tb_at 34 (by decide +kernel) rfl, ⟨by decide, by decide, by decide +kernel⟩, by decide, am_tb_at 766 (by decide +kernel) rfl⟩
set_option maxRecDepth 20000 in
theorem qvL_changes_0 (x : Int) (F : FF) (A : AA) (K : KK) (h : (figR (A 2) ∧ hsOK F ∧ caAll A ∧ 1 ≤ A 2 0 ∧ 1 ≤ A 2 1) ∧ (∀ (G_1 : FF) (B_1 : AA), (lwI G_1 B_1 (A 2 0) (A 2 1)) → (K (some none) G_1 B_1))) : am_line qxL_changes 56 [vR 0, vI x] 5 F A K := by
  show am_stp qxL_changes (am_run qxL_changes (fun _ => none) (fun _ _ _ _ _ _ => False) K 56) K 0 [some (vR 0), some (vI x), none, none, none] [] F A 0
  obtain ⟨hp, h⟩ := h
  have hf := hp.1.1
  have b0 := hf.1.1
  have b1 := hf.1.2
  show (w32 16 ≠ 0) ∧ ((1 ≤ (A 2 0) ∧ (A 2 0) < 2147483648) ∧ (∀ (r_1 : Int), (0 ≤ r_1 ∧ r_1 < (A 2 0)) → ((w32 128 ≠ 0) ∧ (((0 ≤ r_1 ∧ r_1 < A 2 0) ∧ (0 ≤ A 2 0 ∧ A 2 0 ≤ 8) ∧ (0 ≤ A 2 1 ∧ A 2 1 ≤ 6) ∧ (-2147483648 ≤ r_1 ∧ r_1 < 2147483648)) ∧ ((1 ≤ ((A 2 (18 + r_1) - 1) + 1) ∧ ((A 2 (18 + r_1) - 1) + 1) < 2147483648) ∧ (∀ (r_2 : Int), (0 ≤ r_2 ∧ r_2 < ((A 2 (18 + r_1) - 1) + 1)) → ((w32 16 ≠ 0) ∧ ((1 ≤ (A 2 1) ∧ (A 2 1) < 2147483648) ∧ (∀ (r_3 : Int), (0 ≤ r_3 ∧ r_3 < (A 2 1)) → ((1 ≤ 11 ∧ 11 < 2147483648) ∧ (∀ (r_4 : Int), (0 ≤ r_4 ∧ r_4 < 11) → (((w32 r_4 = 0 → ((w32 512 ≠ 0) ∧ ((1 ≤ 21 ∧ 21 < 2147483648) ∧ (∀ (r_5 : Int), (0 ≤ r_5 ∧ r_5 < 21) → ((w32 16384 ≠ 0) ∧ ((1 ≤ 21 ∧ 21 < 2147483648) ∧ (∀ (r_6 : Int), (0 ≤ r_6 ∧ r_6 < 21) → ((fgOK (A 2) ∧ hsOK F ∧ (-2147483648 ≤ r_1 ∧ r_1 < 2147483648) ∧ (-2147483648 ≤ r_2 ∧ r_2 < 2147483648) ∧ (-2147483648 ≤ r_5 ∧ r_5 < 2147483648) ∧ (-2147483648 ≤ r_6 ∧ r_6 < 2147483648)) ∧ (∀ (G_7 : FF) (B_7 : AA), (chQ ((0 ≤ r_1 ∧ r_1 < A 2 0 ∧ 0 ≤ r_2 ∧ r_2 < A 2 (18 + r_1)) ∧ (0 ≤ r_5 ∧ r_5 ≤ 20 ∧ 0 ≤ r_6 ∧ r_6 ≤ 20)) F G_7 A B_7 (movR (A 2) r_1 r_2 r_5 r_6)) → (K (some none) G_7 B_7)))))))))) ∧ (w32 r_4 = 0 + 1 → ((w32 512 ≠ 0) ∧ ((1 ≤ 21 ∧ 21 < 2147483648) ∧ (∀ (r_5 : Int), (0 ≤ r_5 ∧ r_5 < 21) → ((w32 16384 ≠ 0) ∧ ((1 ≤ 21 ∧ 21 < 2147483648) ∧ (∀ (r_6 : Int), (0 ≤ r_6 ∧ r_6 < 21) → ((fgOK (A 2) ∧ hsOK F ∧ (-2147483648 ≤ r_1 ∧ r_1 < 2147483648) ∧ (-2147483648 ≤ r_2 ∧ r_2 < 2147483648) ∧ (-2147483648 ≤ r_5 ∧ r_5 < 2147483648) ∧ (-2147483648 ≤ r_6 ∧ r_6 < 2147483648)) ∧ (∀ (G_7 : FF) (B_7 : AA), (chQ ((0 ≤ r_1 ∧ r_1 < A 2 0 ∧ 0 ≤ r_2 ∧ r_2 < A 2 (18 + r_1)) ∧ (0 ≤ r_5 ∧ r_5 ≤ 20 ∧ 0 ≤ r_6 ∧ r_6 ≤ 20)) F G_7 A B_7 (movR (A 2) r_1 r_2 r_5 r_6)) → (K (some none) G_7 B_7)))))))))) ∧ (w32 r_4 = 0 + 1 + 1 → ((w32 512 ≠ 0) ∧ ((1 ≤ 21 ∧ 21 < 2147483648) ∧ (∀ (r_5 : Int), (0 ≤ r_5 ∧ r_5 < 21) → ((w32 16384 ≠ 0) ∧ ((1 ≤ 21 ∧ 21 < 2147483648) ∧ (∀ (r_6 : Int), (0 ≤ r_6 ∧ r_6 < 21) → ((fgOK (A 2) ∧ hsOK F ∧ (-2147483648 ≤ r_1 ∧ r_1 < 2147483648) ∧ (-2147483648 ≤ r_2 ∧ r_2 < 2147483648) ∧ (-2147483648 ≤ r_5 ∧ r_5 < 2147483648) ∧ (-2147483648 ≤ r_6 ∧ r_6 < 2147483648)) ∧ (∀ (G_7 : FF) (B_7 : AA), (chQ ((0 ≤ r_1 ∧ r_1 < A 2 0 ∧ 0 ≤ r_2 ∧ r_2 < A 2 (18 + r_1)) ∧ (0 ≤ r_5 ∧ r_5 ≤ 20 ∧ 0 ≤ r_6 ∧ r_6 ≤ 20)) F G_7 A B_7 (movR (A 2) r_1 r_2 r_5 r_6)) → (K (some none) G_7 B_7)))))))))) ∧ (w32 r_4 = 0 + 1 + 1 + 1 → ((w32 512 ≠ 0) ∧ ((1 ≤ 3 ∧ 3 < 2147483648) ∧ (∀ (r_5 : Int), (0 ≤ r_5 ∧ r_5 < 3) → ((fgOK (A 2) ∧ hsOK F ∧ (-2147483648 ≤ r_1 ∧ r_1 < 2147483648) ∧ (-2147483648 ≤ r_2 ∧ r_2 < 2147483648) ∧ (-2147483648 ≤ (1 + r_5) ∧ (1 + r_5) < 2147483648)) ∧ (∀ (G_6 : FF) (B_6 : AA), (chQ ((0 ≤ r_1 ∧ r_1 < A 2 0 ∧ 0 ≤ r_2 ∧ r_2 < A 2 (18 + r_1)) ∧ (1 ≤ (1 + r_5) ∧ (1 + r_5) ≤ 3)) F G_6 A B_6 (wgR (A 2) r_1 r_2 (1 + r_5))) → (K (some none) G_6 B_6))))))) ∧ (w32 r_4 = 0 + 1 + 1 + 1 + 1 → ((w32 512 ≠ 0) ∧ ((1 ≤ 21 ∧ 21 < 2147483648) ∧ (∀ (r_5 : Int), (0 ≤ r_5 ∧ r_5 < 21) → ((w32 16384 ≠ 0) ∧ ((1 ≤ 21 ∧ 21 < 2147483648) ∧ (∀ (r_6 : Int), (0 ≤ r_6 ∧ r_6 < 21) → ((w32 1024 ≠ 0) ∧ ((1 ≤ 3 ∧ 3 < 2147483648) ∧ (∀ (r_7 : Int), (0 ≤ r_7 ∧ r_7 < 3) → ((fgOK (A 2) ∧ hsOK F ∧ (-2147483648 ≤ r_1 ∧ r_1 < 2147483648) ∧ (-2147483648 ≤ r_2 ∧ r_2 < 2147483648) ∧ (-2147483648 ≤ r_5 ∧ r_5 < 2147483648) ∧ (-2147483648 ≤ r_6 ∧ r_6 < 2147483648) ∧ (-2147483648 ≤ (1 + r_7) ∧ (1 + r_7) < 2147483648)) ∧ (∀ (G_8 : FF) (B_8 : AA), (chQ ((0 ≤ r_1 ∧ r_1 < A 2 0) ∧ ((0 ≤ r_2 ∧ r_2 ≤ A 2 (18 + r_1)) ∧ (0 ≤ r_5 ∧ r_5 ≤ 20 ∧ 0 ≤ r_6 ∧ r_6 ≤ 20) ∧ (1 ≤ (1 + r_7) ∧ (1 + r_7) ≤ 3)) ∧ ¬ A 2 (18 + r_1) = 4) F G_8 A B_8 (insR (A 2) r_1 r_2 r_5 r_6 (1 + r_7))) → (K (some none) G_8 B_8))))))))))))) ∧ (w32 r_4 = 0 + 1 + 1 + 1 + 1 + 1 → ((fgOK (A 2) ∧ hsOK F ∧ (-2147483648 ≤ r_1 ∧ r_1 < 2147483648) ∧ (-2147483648 ≤ r_2 ∧ r_2 < 2147483648)) ∧ (∀ (G_5 : FF) (B_5 : AA), (chQ ((0 ≤ r_1 ∧ r_1 < A 2 0 ∧ 0 ≤ r_2 ∧ r_2 < A 2 (18 + r_1)) ∧ ¬ A 2 (18 + r_1) = 2) F G_5 A B_5 (drpR (A 2) r_1 r_2)) → (K (some none) G_5 B_5)))) ∧ (w32 r_4 = 0 + 1 + 1 + 1 + 1 + 1 + 1 → ((fgOK (A 2) ∧ hsOK F ∧ (-2147483648 ≤ r_1 ∧ r_1 < 2147483648)) ∧ (∀ (G_5 : FF) (B_5 : AA), (chQ ((0 ≤ r_1 ∧ r_1 < A 2 0)) F G_5 A B_5 (revR (A 2) r_1)) → (K (some none) G_5 B_5)))) ∧ (w32 r_4 = 0 + 1 + 1 + 1 + 1 + 1 + 1 + 1 → ((w32 128 ≠ 0) ∧ ((1 ≤ 11 ∧ 11 < 2147483648) ∧ (∀ (r_5 : Int), (0 ≤ r_5 ∧ r_5 < 11) → ((w32 2048 ≠ 0) ∧ ((1 ≤ 11 ∧ 11 < 2147483648) ∧ (∀ (r_6 : Int), (0 ≤ r_6 ∧ r_6 < 11) → ((w32 32768 ≠ 0) ∧ ((1 ≤ 101 ∧ 101 < 2147483648) ∧ (∀ (r_7 : Int), (0 ≤ r_7 ∧ r_7 < 101) → ((fgOK (A 2) ∧ hsOK F ∧ (-2147483648 ≤ r_3 ∧ r_3 < 2147483648) ∧ (-2147483648 ≤ (r_5 - 5) ∧ (r_5 - 5) < 2147483648) ∧ (-2147483648 ≤ (r_6 - 5) ∧ (r_6 - 5) < 2147483648) ∧ (-2147483648 ≤ (r_7 - 50) ∧ (r_7 - 50) < 2147483648)) ∧ (∀ (G_8 : FF) (B_8 : AA), (((0 ≤ r_3 ∧ r_3 < A 2 1) ∧ ((-5 ≤ (r_5 - 5) ∧ (r_5 - 5) ≤ 5) ∧ (-5 ≤ (r_6 - 5) ∧ (r_6 - 5) ≤ 5) ∧ (-200 ≤ (r_7 - 50) ∧ (r_7 - 50) ≤ 200) ∧ ¬ ((r_5 - 5) = 0 ∧ (r_6 - 5) = 0)) → chR F G_8 A B_8 (lnR (A 2) r_3 (r_5 - 5) (r_6 - 5) (r_7 - 50))) ∧ (¬ ((0 ≤ r_3 ∧ r_3 < A 2 1) ∧ ((-5 ≤ (r_5 - 5) ∧ (r_5 - 5) ≤ 5) ∧ (-5 ≤ (r_6 - 5) ∧ (r_6 - 5) ≤ 5) ∧ (-200 ≤ (r_7 - 50) ∧ (r_7 - 50) ≤ 200) ∧ ¬ ((r_5 - 5) = 0 ∧ (r_6 - 5) = 0))) → ch0 F G_8 A B_8)) → (K (some none) G_8 B_8))))))))))))) ∧ (w32 r_4 = 0 + 1 + 1 + 1 + 1 + 1 + 1 + 1 + 1 → ((w32 128 ≠ 0) ∧ ((1 ≤ 11 ∧ 11 < 2147483648) ∧ (∀ (r_5 : Int), (0 ≤ r_5 ∧ r_5 < 11) → ((w32 2048 ≠ 0) ∧ ((1 ≤ 11 ∧ 11 < 2147483648) ∧ (∀ (r_6 : Int), (0 ≤ r_6 ∧ r_6 < 11) → ((w32 32768 ≠ 0) ∧ ((1 ≤ 101 ∧ 101 < 2147483648) ∧ (∀ (r_7 : Int), (0 ≤ r_7 ∧ r_7 < 101) → ((fgOK (A 2) ∧ hsOK F ∧ (-2147483648 ≤ r_3 ∧ r_3 < 2147483648) ∧ (-2147483648 ≤ (r_5 - 5) ∧ (r_5 - 5) < 2147483648) ∧ (-2147483648 ≤ (r_6 - 5) ∧ (r_6 - 5) < 2147483648) ∧ (-2147483648 ≤ (r_7 - 50) ∧ (r_7 - 50) < 2147483648)) ∧ (∀ (G_8 : FF) (B_8 : AA), (((0 ≤ r_3 ∧ r_3 < A 2 1) ∧ ((-5 ≤ (r_5 - 5) ∧ (r_5 - 5) ≤ 5) ∧ (-5 ≤ (r_6 - 5) ∧ (r_6 - 5) ≤ 5) ∧ (-200 ≤ (r_7 - 50) ∧ (r_7 - 50) ≤ 200) ∧ ¬ ((r_5 - 5) = 0 ∧ (r_6 - 5) = 0)) → chR F G_8 A B_8 (lnR (A 2) r_3 (r_5 - 5) (r_6 - 5) (r_7 - 50))) ∧ (¬ ((0 ≤ r_3 ∧ r_3 < A 2 1) ∧ ((-5 ≤ (r_5 - 5) ∧ (r_5 - 5) ≤ 5) ∧ (-5 ≤ (r_6 - 5) ∧ (r_6 - 5) ≤ 5) ∧ (-200 ≤ (r_7 - 50) ∧ (r_7 - 50) ≤ 200) ∧ ¬ ((r_5 - 5) = 0 ∧ (r_6 - 5) = 0))) → ch0 F G_8 A B_8)) → (K (some none) G_8 B_8))))))))))))) ∧ (w32 r_4 = 0 + 1 + 1 + 1 + 1 + 1 + 1 + 1 + 1 + 1 → ((w32 16 ≠ 0) ∧ ((1 ≤ 12 ∧ 12 < 2147483648) ∧ (∀ (r_5 : Int), (0 ≤ r_5 ∧ r_5 < 12) → ((fgOK (A 2) ∧ hsOK F ∧ (-2147483648 ≤ 0 ∧ 0 < 2147483648) ∧ (-2147483648 ≤ (1 + r_5) ∧ (1 + r_5) < 2147483648)) ∧ (∀ (G_6 : FF) (B_6 : AA), (chQ (((0 = 0 ∨ 0 = 1) ∧ 1 ≤ (1 + r_5) ∧ (1 + r_5) ≤ (if 0 = 0 then 12 else 6))) F G_6 A B_6 (stR (A 2) 0 (1 + r_5))) → (K (some none) G_6 B_6))))))) ∧ True) ∧ (w32 r_4 < 0 ∨ 9 < w32 r_4 → ((w32 16 ≠ 0) ∧ ((1 ≤ 4 ∧ 4 < 2147483648) ∧ (∀ (r_5 : Int), (0 ≤ r_5 ∧ r_5 < 4) → ((fgOK (A 2) ∧ hsOK F ∧ (-2147483648 ≤ 1 ∧ 1 < 2147483648) ∧ (-2147483648 ≤ (1 + r_5) ∧ (1 + r_5) < 2147483648)) ∧ (∀ (G_6 : FF) (B_6 : AA), (chQ (((1 = 0 ∨ 1 = 1) ∧ 1 ≤ (1 + r_5) ∧ (1 + r_5) ≤ (if 1 = 0 then 12 else 6))) F G_6 A B_6 (stR (A 2) 1 (1 + r_5))) → (K (some none) G_6 B_6)))))))))))))))))))
  refine ⟨by decide, ?_⟩
  refine ⟨by omega, ?_⟩
  intro r_1 g1
  have hk4 := (hf.2.2.1 r_1 g1.1 g1.2).1
  refine ⟨by decide, ?_⟩
  refine ⟨by exact ⟨g1, hf.1.1, hf.1.2, by omega⟩, ?_⟩
  refine ⟨by have := (hf.2.2.1 _ g1.1 g1.2).1; omega, ?_⟩
  intro r_2 g2
  refine ⟨by decide, ?_⟩
  refine ⟨by omega, ?_⟩
  intro r_3 g3
  refine ⟨by omega, ?_⟩
  intro r_4 g4
  refine ⟨⟨fun c1 => ?_, fun c1 => ?_, fun c1 => ?_, fun c1 => ?_, fun c1 => ?_, fun c1 => ?_, fun c1 => ?_, fun c1 => ?_, fun c1 => ?_, fun c1 => ?_, trivial⟩, fun c1 => ?_⟩
  · skip
    skip
    refine ⟨by decide, ?_⟩
    refine ⟨by omega, ?_⟩
    intro r_5 g5
    refine ⟨by decide, ?_⟩
    refine ⟨by omega, ?_⟩
    intro r_6 g6
    refine ⟨by exact ⟨hp.1.1, hp.2.1, by omega, by omega, by omega, by omega⟩, ?_⟩
    intro G_7 B_7 g7
    exact h _ _ (lwc_mv hp.1 hp.2.1 hp.2.2.1 g7)
  · skip
    skip
    refine ⟨by decide, ?_⟩
    refine ⟨by omega, ?_⟩
    intro r_5 g5
    refine ⟨by decide, ?_⟩
    refine ⟨by omega, ?_⟩
    intro r_6 g6
    refine ⟨by exact ⟨hp.1.1, hp.2.1, by omega, by omega, by omega, by omega⟩, ?_⟩
    intro G_7 B_7 g7
    exact h _ _ (lwc_mv hp.1 hp.2.1 hp.2.2.1 g7)
  · skip
    skip
    refine ⟨by decide, ?_⟩
    refine ⟨by omega, ?_⟩
    intro r_5 g5
    refine ⟨by decide, ?_⟩
    refine ⟨by omega, ?_⟩
    intro r_6 g6
    refine ⟨by exact ⟨hp.1.1, hp.2.1, by omega, by omega, by omega, by omega⟩, ?_⟩
    intro G_7 B_7 g7
    exact h _ _ (lwc_mv hp.1 hp.2.1 hp.2.2.1 g7)
  · skip
    skip
    refine ⟨by decide, ?_⟩
    refine ⟨by omega, ?_⟩
    intro r_5 g5
    refine ⟨by exact ⟨hp.1.1, hp.2.1, by omega, by omega, by omega⟩, ?_⟩
    intro G_6 B_6 g6
    exact h _ _ (lwc_wg hp.1 hp.2.1 hp.2.2.1 g6)
  · skip
    skip
    refine ⟨by decide, ?_⟩
    refine ⟨by omega, ?_⟩
    intro r_5 g5
    refine ⟨by decide, ?_⟩
    refine ⟨by omega, ?_⟩
    intro r_6 g6
    refine ⟨by decide, ?_⟩
    refine ⟨by omega, ?_⟩
    intro r_7 g7
    refine ⟨by exact ⟨hp.1.1, hp.2.1, by omega, by omega, by omega, by omega, by omega⟩, ?_⟩
    intro G_8 B_8 g8
    exact h _ _ (lwc_in hp.1 hp.2.1 hp.2.2.1 g8)
  · skip
    skip
    refine ⟨by exact ⟨hp.1.1, hp.2.1, by omega, by omega⟩, ?_⟩
    intro G_5 B_5 g5
    exact h _ _ (lwc_dr hp.1 hp.2.1 hp.2.2.1 g5)
  · skip
    skip
    refine ⟨by exact ⟨hp.1.1, hp.2.1, by omega⟩, ?_⟩
    intro G_5 B_5 g5
    exact h _ _ (lwc_rv hp.1 hp.2.1 hp.2.2.1 g5)
  · skip
    skip
    refine ⟨by decide, ?_⟩
    refine ⟨by omega, ?_⟩
    intro r_5 g5
    refine ⟨by decide, ?_⟩
    refine ⟨by omega, ?_⟩
    intro r_6 g6
    refine ⟨by decide, ?_⟩
    refine ⟨by omega, ?_⟩
    intro r_7 g7
    refine ⟨by exact ⟨hp.1.1, hp.2.1, by omega, by omega, by omega, by omega⟩, ?_⟩
    intro G_8 B_8 g8
    exact h _ _ (lwc_ln hp.1 hp.2.1 hp.2.2.1 g8)
  · skip
    skip
    refine ⟨by decide, ?_⟩
    refine ⟨by omega, ?_⟩
    intro r_5 g5
    refine ⟨by decide, ?_⟩
    refine ⟨by omega, ?_⟩
    intro r_6 g6
    refine ⟨by decide, ?_⟩
    refine ⟨by omega, ?_⟩
    intro r_7 g7
    refine ⟨by exact ⟨hp.1.1, hp.2.1, by omega, by omega, by omega, by omega⟩, ?_⟩
    intro G_8 B_8 g8
    exact h _ _ (lwc_ln hp.1 hp.2.1 hp.2.2.1 g8)
  · skip
    skip
    refine ⟨by decide, ?_⟩
    refine ⟨by omega, ?_⟩
    intro r_5 g5
    refine ⟨by exact ⟨hp.1.1, hp.2.1, by omega, by omega⟩, ?_⟩
    intro G_6 B_6 g6
    exact h _ _ (lwc_st hp.1 hp.2.1 hp.2.2.1 g6)
  · skip
    skip
    refine ⟨by decide, ?_⟩
    refine ⟨by omega, ?_⟩
    intro r_5 g5
    refine ⟨by exact ⟨hp.1.1, hp.2.1, by omega, by omega⟩, ?_⟩
    intro G_6 B_6 g6
    exact h _ _ (lwc_st hp.1 hp.2.1 hp.2.2.1 g6)
theorem qtL_changes (l : Launch) : am_CT l layX qeL_changes := am_met0 rfl (by decide +kernel) rfl rfl rfl rfl rfl (fun _ => rfl) rfl (qzL_changes l) (fun k e1 h => (qyL_changes l k e1 h).2) (fun as F A K h => by
  replace h : qsL_changes as F A K := h
  unfold qsL_changes at h
  split at h
  · rename_i o x
    refine ⟨by first | exact Nat.le_of_ble_eq_true rfl | simp [am_fl, am_cat], ?_⟩
    replace h := am_cond2 h
    rcases h with ⟨hb, h⟩ | h
    · skip
      have hb0 := hb
      have hb0 := am_bq hb0
      subst hb0
      exact am_way_line (qvL_changes_0 x F A K h)
    exact h.elim
  · exact h.elim)
