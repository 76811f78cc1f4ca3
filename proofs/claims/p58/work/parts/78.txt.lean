theorem room_ok {a K d C X M : Nat} (hc : a + (C + X) ≤ M) (h : Nat.ble (K + d) X = true) : a + K + d ≤ M := by
  have := Nat.le_of_ble_eq_true h
  omega
theorem room_end {a K C X M : Nat} (hc : a + (C + X) ≤ M) (h : Nat.ble K X = true) : a + K + C ≤ M := by
  have := Nat.le_of_ble_eq_true h
  omega
theorem room_le {a C X M : Nat} (hc : a + (C + X) ≤ M) : a + 0 ≤ M := by omega
def txW (L : Nat) (xs : Nat → Int32) (c k : Nat) : Nat → List Nat
  | 0 => []
  | w + 1 => txW L xs c k w ++ txN L xs c k w
theorem txW_3 (L : Nat) (xs : Nat → Int32) (c k : Nat) : txW L xs c k 3 = txP L xs c k := by
  simp [txW, txP]
theorem txW_len (L : Nat) (xs : Nat → Int32) (c k : Nat) : ∀ w, (txW L xs c k w).length ≤ 3 * w
  | 0 => Nat.le_refl 0
  | w + 1 => by
    have h0 := txW_len L xs c k w
    have h1 := txN_len L xs c k w
    unfold txW
    rw [List.length_append]
    omega
abbrev tC (L : Nat) (xs : Nat → Int32) (c : Nat) : List Nat := tx0 L xs ++ txCs L xs c
abbrev tK (L : Nat) (xs : Nat → Int32) (c k : Nat) : List Nat := tC L xs c ++ txH c ++ txPs L xs c k
abbrev tW (L : Nat) (xs : Nat → Int32) (c k w : Nat) : List Nat := tK L xs c k ++ txW L xs c k w
abbrev tL (L : Nat) (xs : Nat → Int32) (j : Nat) : List Nat := tC L xs (cvN L xs) ++ txLs L xs j
theorem tC_len (L : Nat) (xs : Nat → Int32) {c : Nat} (h : c ≤ 5) : (tC L xs c).length ≤ 253 := by
  have h1 := tx0_len L xs
  have h2 := txCs_len L xs c
  rw [List.length_append]
  omega
theorem tK_len (L : Nat) (xs : Nat → Int32) {c k : Nat} (h : c ≤ 5) (hk : k ≤ 4) : (tK L xs c k).length ≤ 297 := by
  have h1 := tC_len L xs h
  have h2 := txPs_len L xs c k
  rw [List.length_append, List.length_append]
  have : (txH c).length = 8 := rfl
  omega
theorem tW_len (L : Nat) (xs : Nat → Int32) {c k w : Nat} (h : c ≤ 5) (hk : k ≤ 4) (hw : w ≤ 3) : (tW L xs c k w).length ≤ 306 := by
  have h1 := tK_len L xs h hk
  have h2 := txW_len L xs c k w
  rw [List.length_append]
  omega
theorem tL_len (L : Nat) (xs : Nat → Int32) {j : Nat} (h : j ≤ 4) : (tL L xs j).length ≤ 333 := by
  have h1 := tC_len L xs (c := cvN L xs) cvN_b.2
  have h2 := txLs_len L xs j
  rw [List.length_append]
  omega
theorem tC_s (L : Nat) (xs : Nat → Int32) (c : Nat) : tK L xs c (ptC L xs c) ++ [59] = tC L xs (c + 1) := by
  simp [txCs, txC]
theorem tK_s (L : Nat) (xs : Nat → Int32) (c k : Nat) : tW L xs c k 3 = tK L xs c (k + 1) := by
  rw [show tW L xs c k 3 = tK L xs c k ++ txW L xs c k 3 from rfl, txW_3]
  simp [txPs]
theorem tW_s (L : Nat) (xs : Nat → Int32) (c k w : Nat) : tW L xs c k w ++ [32] ++ decL (ptN L xs c k w) = tW L xs c k (w + 1) := by
  simp [txW, txN]
theorem tL_s (L : Nat) (xs : Nat → Int32) (j : Nat) : tL L xs j ++ kLine ++ [108, 97 + j] ++ sgL (lnV L xs j 0) ++ sgL (lnV L xs j 1) ++ sgL (lnV L xs j 2) ++ [59] = tL L xs (j + 1) := by
  simp [txLs, txL]
theorem dk_L_text_0 : decode cL_text 0 = .ok (.new 14, 3) := by decide +kernel
theorem dk_L_text_3 : decode cL_text 3 = .ok (.dup, 1) := by decide +kernel
theorem dk_L_text_4 : decode cL_text 4 = .ok (.invokespecial 16, 3) := by decide +kernel
theorem dk_L_text_7 : decode cL_text 7 = .ok (.ldc 55, 2) := by decide +kernel
theorem dk_L_text_9 : decode cL_text 9 = .ok (.invokevirtual 17, 3) := by decide +kernel
theorem dk_L_text_12 : decode cL_text 12 = .ok (.aload_n 0, 1) := by decide +kernel
theorem dk_L_text_13 : decode cL_text 13 = .ok (.invokestatic 57, 3) := by decide +kernel
theorem dk_L_text_16 : decode cL_text 16 = .ok (.invokevirtual 52, 3) := by decide +kernel
theorem dk_L_text_19 : decode cL_text 19 = .ok (.ldc 61, 2) := by decide +kernel
theorem dk_L_text_21 : decode cL_text 21 = .ok (.invokevirtual 17, 3) := by decide +kernel
theorem dk_L_text_24 : decode cL_text 24 = .ok (.aload_n 0, 1) := by decide +kernel
theorem dk_L_text_25 : decode cL_text 25 = .ok (.invokestatic 63, 3) := by decide +kernel
theorem dk_L_text_28 : decode cL_text 28 = .ok (.invokevirtual 52, 3) := by decide +kernel
theorem dk_L_text_31 : decode cL_text 31 = .ok (.ldc 66, 2) := by decide +kernel
theorem dk_L_text_33 : decode cL_text 33 = .ok (.invokevirtual 17, 3) := by decide +kernel
theorem dk_L_text_36 : decode cL_text 36 = .ok (.invokevirtual 23, 3) := by decide +kernel
theorem dk_L_text_39 : decode cL_text 39 = .ok (.astore_n 1, 1) := by decide +kernel
theorem dk_L_text_40 : decode cL_text 40 = .ok (.iconst 0, 1) := by decide +kernel
theorem dk_L_text_41 : decode cL_text 41 = .ok (.istore_n 2, 1) := by decide +kernel
theorem dk_L_text_42 : decode cL_text 42 = .ok (.iload_n 2, 1) := by decide +kernel
theorem dk_L_text_43 : decode cL_text 43 = .ok (.aload_n 0, 1) := by decide +kernel
theorem dk_L_text_44 : decode cL_text 44 = .ok (.invokestatic 68, 3) := by decide +kernel
theorem dk_L_text_47 : decode cL_text 47 = .ok (.if_icmp .ge 121, 3) := by decide +kernel
theorem dk_L_text_50 : decode cL_text 50 = .ok (.new 14, 3) := by decide +kernel
theorem dk_L_text_53 : decode cL_text 53 = .ok (.dup, 1) := by decide +kernel
theorem dk_L_text_54 : decode cL_text 54 = .ok (.invokespecial 16, 3) := by decide +kernel
theorem dk_L_text_57 : decode cL_text 57 = .ok (.aload_n 1, 1) := by decide +kernel
theorem dk_L_text_58 : decode cL_text 58 = .ok (.invokevirtual 17, 3) := by decide +kernel
theorem dk_L_text_61 : decode cL_text 61 = .ok (.ldc 71, 2) := by decide +kernel
theorem dk_L_text_63 : decode cL_text 63 = .ok (.invokevirtual 17, 3) := by decide +kernel
theorem dk_L_text_66 : decode cL_text 66 = .ok (.ldc 73, 2) := by decide +kernel
theorem dk_L_text_68 : decode cL_text 68 = .ok (.iload_n 2, 1) := by decide +kernel
theorem dk_L_text_69 : decode cL_text 69 = .ok (.invokestatic 75, 3) := by decide +kernel
theorem dk_L_text_72 : decode cL_text 72 = .ok (.invokevirtual 17, 3) := by decide +kernel
theorem dk_L_text_75 : decode cL_text 75 = .ok (.invokevirtual 23, 3) := by decide +kernel
theorem dk_L_text_78 : decode cL_text 78 = .ok (.astore_n 1, 1) := by decide +kernel
theorem dk_L_text_79 : decode cL_text 79 = .ok (.iconst 0, 1) := by decide +kernel
theorem dk_L_text_80 : decode cL_text 80 = .ok (.istore_n 3, 1) := by decide +kernel
theorem dk_L_text_81 : decode cL_text 81 = .ok (.iload_n 3, 1) := by decide +kernel
theorem dk_L_text_82 : decode cL_text 82 = .ok (.aload_n 0, 1) := by decide +kernel
theorem dk_L_text_83 : decode cL_text 83 = .ok (.iload_n 2, 1) := by decide +kernel
theorem dk_L_text_84 : decode cL_text 84 = .ok (.invokestatic 79, 3) := by decide +kernel
theorem dk_L_text_87 : decode cL_text 87 = .ok (.if_icmp .ge 55, 3) := by decide +kernel
theorem dk_L_text_90 : decode cL_text 90 = .ok (.iconst 0, 1) := by decide +kernel
theorem dk_L_text_91 : decode cL_text 91 = .ok (.istore 4, 2) := by decide +kernel
theorem dk_L_text_93 : decode cL_text 93 = .ok (.iload 4, 2) := by decide +kernel
theorem dk_L_text_95 : decode cL_text 95 = .ok (.iconst 3, 1) := by decide +kernel
theorem dk_L_text_96 : decode cL_text 96 = .ok (.if_icmp .ge 40, 3) := by decide +kernel
theorem dk_L_text_99 : decode cL_text 99 = .ok (.new 14, 3) := by decide +kernel
theorem dk_L_text_102 : decode cL_text 102 = .ok (.dup, 1) := by decide +kernel
theorem dk_L_text_103 : decode cL_text 103 = .ok (.invokespecial 16, 3) := by decide +kernel
theorem dk_L_text_106 : decode cL_text 106 = .ok (.aload_n 1, 1) := by decide +kernel
theorem dk_L_text_107 : decode cL_text 107 = .ok (.invokevirtual 17, 3) := by decide +kernel
theorem dk_L_text_110 : decode cL_text 110 = .ok (.ldc 21, 2) := by decide +kernel
theorem dk_L_text_112 : decode cL_text 112 = .ok (.invokevirtual 17, 3) := by decide +kernel
theorem dk_L_text_115 : decode cL_text 115 = .ok (.aload_n 0, 1) := by decide +kernel
theorem dk_L_text_116 : decode cL_text 116 = .ok (.iload_n 2, 1) := by decide +kernel
theorem dk_L_text_117 : decode cL_text 117 = .ok (.iload_n 3, 1) := by decide +kernel
theorem dk_L_text_118 : decode cL_text 118 = .ok (.iload 4, 2) := by decide +kernel
theorem dk_L_text_120 : decode cL_text 120 = .ok (.invokestatic 82, 3) := by decide +kernel
theorem dk_L_text_123 : decode cL_text 123 = .ok (.invokevirtual 52, 3) := by decide +kernel
theorem dk_L_text_126 : decode cL_text 126 = .ok (.invokevirtual 23, 3) := by decide +kernel
theorem dk_L_text_129 : decode cL_text 129 = .ok (.astore_n 1, 1) := by decide +kernel
theorem dk_L_text_130 : decode cL_text 130 = .ok (.iinc 4 1, 3) := by decide +kernel
theorem dk_L_text_133 : decode cL_text 133 = .ok (.goto (-40), 3) := by decide +kernel
theorem dk_L_text_136 : decode cL_text 136 = .ok (.iinc 3 1, 3) := by decide +kernel
theorem dk_L_text_139 : decode cL_text 139 = .ok (.goto (-58), 3) := by decide +kernel
theorem dk_L_text_142 : decode cL_text 142 = .ok (.new 14, 3) := by decide +kernel
theorem dk_L_text_145 : decode cL_text 145 = .ok (.dup, 1) := by decide +kernel
theorem dk_L_text_146 : decode cL_text 146 = .ok (.invokespecial 16, 3) := by decide +kernel
theorem dk_L_text_149 : decode cL_text 149 = .ok (.aload_n 1, 1) := by decide +kernel
theorem dk_L_text_150 : decode cL_text 150 = .ok (.invokevirtual 17, 3) := by decide +kernel
theorem dk_L_text_153 : decode cL_text 153 = .ok (.ldc 66, 2) := by decide +kernel
theorem dk_L_text_155 : decode cL_text 155 = .ok (.invokevirtual 17, 3) := by decide +kernel
theorem dk_L_text_158 : decode cL_text 158 = .ok (.invokevirtual 23, 3) := by decide +kernel
theorem dk_L_text_161 : decode cL_text 161 = .ok (.astore_n 1, 1) := by decide +kernel
theorem dk_L_text_162 : decode cL_text 162 = .ok (.iinc 2 1, 3) := by decide +kernel
theorem dk_L_text_165 : decode cL_text 165 = .ok (.goto (-123), 3) := by decide +kernel
theorem dk_L_text_168 : decode cL_text 168 = .ok (.iconst 0, 1) := by decide +kernel
theorem dk_L_text_169 : decode cL_text 169 = .ok (.istore_n 2, 1) := by decide +kernel
theorem dk_L_text_170 : decode cL_text 170 = .ok (.iload_n 2, 1) := by decide +kernel
theorem dk_L_text_171 : decode cL_text 171 = .ok (.aload_n 0, 1) := by decide +kernel
theorem dk_L_text_172 : decode cL_text 172 = .ok (.invokestatic 86, 3) := by decide +kernel
theorem dk_L_text_175 : decode cL_text 175 = .ok (.if_icmp .ge 79, 3) := by decide +kernel
theorem dk_L_text_178 : decode cL_text 178 = .ok (.new 14, 3) := by decide +kernel
theorem dk_L_text_181 : decode cL_text 181 = .ok (.dup, 1) := by decide +kernel
theorem dk_L_text_182 : decode cL_text 182 = .ok (.invokespecial 16, 3) := by decide +kernel
theorem dk_L_text_185 : decode cL_text 185 = .ok (.aload_n 1, 1) := by decide +kernel
theorem dk_L_text_186 : decode cL_text 186 = .ok (.invokevirtual 17, 3) := by decide +kernel
theorem dk_L_text_189 : decode cL_text 189 = .ok (.ldc 89, 2) := by decide +kernel
theorem dk_L_text_191 : decode cL_text 191 = .ok (.invokevirtual 17, 3) := by decide +kernel
theorem dk_L_text_194 : decode cL_text 194 = .ok (.ldc 91, 2) := by decide +kernel
theorem dk_L_text_196 : decode cL_text 196 = .ok (.iload_n 2, 1) := by decide +kernel
theorem dk_L_text_197 : decode cL_text 197 = .ok (.invokestatic 75, 3) := by decide +kernel
theorem dk_L_text_200 : decode cL_text 200 = .ok (.invokevirtual 17, 3) := by decide +kernel
theorem dk_L_text_203 : decode cL_text 203 = .ok (.aload_n 0, 1) := by decide +kernel
theorem dk_L_text_204 : decode cL_text 204 = .ok (.iload_n 2, 1) := by decide +kernel
theorem dk_L_text_205 : decode cL_text 205 = .ok (.iconst 0, 1) := by decide +kernel
theorem dk_L_text_206 : decode cL_text 206 = .ok (.invokestatic 93, 3) := by decide +kernel
theorem dk_L_text_209 : decode cL_text 209 = .ok (.invokestatic 97, 3) := by decide +kernel
theorem dk_L_text_212 : decode cL_text 212 = .ok (.invokevirtual 17, 3) := by decide +kernel
theorem dk_L_text_215 : decode cL_text 215 = .ok (.aload_n 0, 1) := by decide +kernel
theorem dk_L_text_216 : decode cL_text 216 = .ok (.iload_n 2, 1) := by decide +kernel
theorem dk_L_text_217 : decode cL_text 217 = .ok (.iconst 1, 1) := by decide +kernel
theorem dk_L_text_218 : decode cL_text 218 = .ok (.invokestatic 93, 3) := by decide +kernel
theorem dk_L_text_221 : decode cL_text 221 = .ok (.invokestatic 97, 3) := by decide +kernel
theorem dk_L_text_224 : decode cL_text 224 = .ok (.invokevirtual 17, 3) := by decide +kernel
theorem dk_L_text_227 : decode cL_text 227 = .ok (.aload_n 0, 1) := by decide +kernel
theorem dk_L_text_228 : decode cL_text 228 = .ok (.iload_n 2, 1) := by decide +kernel
theorem dk_L_text_229 : decode cL_text 229 = .ok (.iconst 2, 1) := by decide +kernel
theorem dk_L_text_230 : decode cL_text 230 = .ok (.invokestatic 93, 3) := by decide +kernel
theorem dk_L_text_233 : decode cL_text 233 = .ok (.invokestatic 97, 3) := by decide +kernel
theorem dk_L_text_236 : decode cL_text 236 = .ok (.invokevirtual 17, 3) := by decide +kernel
theorem dk_L_text_239 : decode cL_text 239 = .ok (.ldc 66, 2) := by decide +kernel
theorem dk_L_text_241 : decode cL_text 241 = .ok (.invokevirtual 17, 3) := by decide +kernel
theorem dk_L_text_244 : decode cL_text 244 = .ok (.invokevirtual 23, 3) := by decide +kernel
theorem dk_L_text_247 : decode cL_text 247 = .ok (.astore_n 1, 1) := by decide +kernel
theorem dk_L_text_248 : decode cL_text 248 = .ok (.iinc 2 1, 3) := by decide +kernel
theorem dk_L_text_251 : decode cL_text 251 = .ok (.goto (-81), 3) := by decide +kernel
theorem dk_L_text_254 : decode cL_text 254 = .ok (.aload_n 1, 1) := by decide +kernel
theorem dk_L_text_255 : decode cL_text 255 = .ok (.areturn, 1) := by decide +kernel
def txE (p : Program) (l : Launch) (e : Env) (s : State) (m : MethodId) (below : List Frame) (meth : Method) (c : Code) (bs L : Nat) (xs : Nat → Int32) (D : va_G) (kC : Nat → ClassId) (A : Nat → Prop) : Prop :=
  L < 1000 ∧ p.tables.exec = Jvm.exec ∧ c.code = cL_text ∧ meth.sig.returnType = some (.object "java/lang/String") ∧ meth.locks = false ∧ c.maxLocals = 5 ∧ (∀ w ∈ jk_tb, w.before (#[Value.ref bs] : Array Value) s = true) ∧ s.vm.findClass yL_text.cls = some m.cls ∧ va_K D vwCl (am_tys kC) s ∧ (∀ q : Nat, s.heap.size ≤ q → A q) ∧ (fun B U H => (js_G B U H ∧ scX bs L xs B U H) ∧ js_C B U H) A s s.heap
def txG (p : Program) (l : Launch) (e : Env) (s : State) (m : MethodId) (below : List Frame) (meth : Method) (c : Code) (bs L : Nat) (xs : Nat → Int32) (D : va_G) (kC : Nat → ClassId) (A : Nat → Prop) (pc : Nat) (lo : Nat → List (Nat × Value)) (T : List Nat) (C1 C2 : Nat) : Prop :=
  ∀ (a d n : Nat) (g : Nat → Int32) (H : Heap) (locs : List Loc) (ls : Array Slot) (cells slots : Nat), lv_has ls 5 (lo a) → va_P D vwCl [(a, .inr (9, [.ref d, .int 0, .int 0, .int 0])), (d, .inl (kC 2, n, .inl g))] H → va_D A [(a, .inr (9, [.ref d, .int 0, .int 0, .int 0])), (d, .inl (kC 2, n, .inl g))] → va_S A s.heap H locs → sb_Fit g → sb_Lat (lt T) n g → T.length = n → cells + C1 ≤ 800 → slots + C2 ≤ 2100000 →
  W p l e (jr 20 800 2100000) s m #[Value.ref bs] below meth c H locs cells slots (MQ below (va_Qr (S := Nat × (Nat → Int32)) (fun u => sb_Fit u.2 ∧ sb_Lat (lt (txT L xs)) ((txT L xs).length) u.2) (fun u ra t => va_P D vwCl [(ra, .inr (9, [.ref u.1, .int 0, .int 0, .int 0])), (u.1, .inl (kC 2, (txT L xs).length, .inl (u.2)))] t.heap ∧ va_D A [(ra, .inr (9, [.ref u.1, .int 0, .int 0, .int 0])), (u.1, .inl (kC 2, (txT L xs).length, .inl (u.2)))]) A) #[Value.ref bs] s 800 2100000 A) (F0 m pc ls [])
set_option maxHeartbeats 4000000 in
set_option maxRecDepth 100000 in
theorem tx_L0 {p : Program} {l : Launch} {e : Env} {s : State} {m : MethodId} {below : List Frame} {meth : Method} {c : Code} {bs L : Nat} {xs : Nat → Int32} {D : va_G} {kC : Nat → ClassId} {A : Nat → Prop} (hEnv : txE p l e s m below meth c bs L xs D kC A) {j : Nat} (hj : j = lnN L xs) {C1 C2 : Nat}  : txG p l e s m below meth c bs L xs D kC A 170 (fun a => [(1, .ref a), (2, .int (nI j)), (0, .ref bs)]) (tL L xs j) (C1 + 0) (C2 + 0) := by
  obtain ⟨hLb, hx, hb, hr, hlocks, hml, htj, hown, hK, hA, hE⟩ := hEnv
  have hts := fun w (hw : w ∈ am_tb) => htj w (jk_in hw)
  obtain ⟨⟨a1, d1, hR1, hS1⟩, ⟨a2, d2, hR2, hS2⟩, ⟨a3, d3, hR3, hS3⟩, ⟨a4, d4, hR4, hS4⟩, ⟨a5, d5, hR5, hS5⟩, ⟨a6, d6, hR6, hS6⟩, ⟨a7, d7, hR7, hS7⟩, ⟨a8, d8, hR8, hS8⟩, ⟨a9, d9, hR9, hS9⟩⟩ := id hE.2
  have bC := cvN_b (L := L) (xs := xs)
  have bL := lnN_b (L := L) (xs := xs)
  have bT := ltN_b (L := L) (xs := xs)
  have bD := dpN_b (L := L) (xs := xs)
  intro a d n g H locs ls cells slots hl hP hD hS hf hL hn hc1 hc2
  refine W.widen (k := cells + 0) (n := slots + 0) (Nat.le_refl _) (Nat.le_refl _) ?_
  refine lv_iload_n hx hb dk_L_text_170 rfl (lv_at hl 1 rfl) ?_
  refine lv_aload_n hx hb dk_L_text_171 rfl (lv_at hl 2 rfl) ?_
  have hPc : va_P D vwCl [] H := ws_nP
  have hDc : va_D A [] := ws_nD
  have hFc : ∀ q, va_A [] H.size q → A q := fun q h => hA q (Nat.le_trans hS.1 (ws_nA h))
  refine va_calli (va_runS (As := [.ref bs]) (rest := [.int (nI j)]) ⟨hx, hb, hml, hown, hts⟩ (sk_lines l D kC bs L xs hLb H.size) ⟨am_callB (R := jr 20 800 2100000) (index := 86) 1 (jk_pay htj (am_tb_at 73 (by decide +kernel) rfl)) (hts _ (am_tb_at 73 (by decide +kernel) rfl)) rfl rfl rfl (hts _ (am_tb_at 34 (by decide +kernel) rfl)) (hts _ (am_tb_at 71 (by decide +kernel) rfl)) ⟨by decide, by decide, by decide +kernel⟩ ⟨(by show 2 + 1 ≤ 20; decide), (by show 8 + (1 + 11) + 48 * 2 ≤ 48 * 20; decide)⟩, (hts _ (am_tb_at 72 (by decide +kernel) rfl))⟩ (ws_S (Stb_and Stb_G (Stb_X bs L xs)) hPc hK hDc (fun U hU hW => ws_E (Stb_and Stb_G (Stb_X bs L xs)) hE.1 hS hU hW hFc)) rfl rfl hl.1 rfl (lv_room (Nat.le_of_ble_eq_true rfl)) dk_L_text_172 ⟨(room_ok hc1 rfl), (room_ok hc2 rfl)⟩) hS (fun q _ h => hFc q h) hFc (fun r0 u t H1 locs hte hvm hz hB hsz hkp hS => ?_)
  have hP := ws_kept hP hkp
  generalize H1 = H at hP hS ⊢
  have hP : va_P D vwCl [(a, .inr (9, [.ref d, .int 0, .int 0, .int 0])), (d, .inl (kC 2, n, .inl g))] H := hP
  have hD : va_D A [(a, .inr (9, [.ref d, .int 0, .int 0, .int 0])), (d, .inl (kC 2, n, .inl g))] := hD
  refine W.widen (k := cells + 0) (n := slots + 0) (Nat.le_of_eq (Nat.add_assoc _ _ _)) (Nat.le_of_eq (Nat.add_assoc _ _ _)) ?_
  subst hz
  refine lv_icmp_ge (tgt := 254) hx hb dk_L_text_175 rfl (fun _ => ?_) (fun q => absurd ((nI_leI (by omega) (by omega)).mpr (by omega)) q)
  refine lv_aload_n hx hb dk_L_text_254 rfl (lv_at hl 0 rfl) ?_
  have hT : tL L xs j = txT L xs := by rw [hj]; rfl
  rw [hT] at hL hn
  rw [← hn] at hP hD hL
  refine W.widen (k := 800) (n := 2100000) (room_le hc1) (room_le hc2) ?_
  exact W.aret (v := .ref a) hx hb hr (Or.inl ⟨_, rfl⟩) (Or.inr ⟨_, rfl⟩) (fun t ht hW => ⟨⟨(d, g), a, rfl, ⟨hf, hL⟩, by rw [ht]; exact hP, hD⟩, hS.F ht⟩) hS.2.2 dk_L_text_255
set_option maxHeartbeats 4000000 in
set_option maxRecDepth 100000 in
theorem tx_L1 {p : Program} {l : Launch} {e : Env} {s : State} {m : MethodId} {below : List Frame} {meth : Method} {c : Code} {bs L : Nat} {xs : Nat → Int32} {D : va_G} {kC : Nat → ClassId} {A : Nat → Prop} (hEnv : txE p l e s m below meth c bs L xs D kC A) {j : Nat} (hj : j < lnN L xs) {C1 C2 : Nat} (hk : txG p l e s m below meth c bs L xs D kC A 170 (fun a => [(1, .ref a), (2, .int (nI (j + 1))), (0, .ref bs)]) (tL L xs (j + 1)) (C1) (C2)) : txG p l e s m below meth c bs L xs D kC A 170 (fun a => [(1, .ref a), (2, .int (nI j)), (0, .ref bs)]) (tL L xs j) (C1 + 50) (C2 + 132500) := by
  obtain ⟨hLb, hx, hb, hr, hlocks, hml, htj, hown, hK, hA, hE⟩ := hEnv
  have hts := fun w (hw : w ∈ am_tb) => htj w (jk_in hw)
  obtain ⟨⟨a1, d1, hR1, hS1⟩, ⟨a2, d2, hR2, hS2⟩, ⟨a3, d3, hR3, hS3⟩, ⟨a4, d4, hR4, hS4⟩, ⟨a5, d5, hR5, hS5⟩, ⟨a6, d6, hR6, hS6⟩, ⟨a7, d7, hR7, hS7⟩, ⟨a8, d8, hR8, hS8⟩, ⟨a9, d9, hR9, hS9⟩⟩ := id hE.2
  have bC := cvN_b (L := L) (xs := xs)
  have bL := lnN_b (L := L) (xs := xs)
  have bT := ltN_b (L := L) (xs := xs)
  have bD := dpN_b (L := L) (xs := xs)
  intro a d n g H locs ls cells slots hl hP hD hS hf hL hn hc1 hc2
  refine W.widen (k := cells + 0) (n := slots + 0) (Nat.le_refl _) (Nat.le_refl _) ?_
  have hbn : n ≤ 333 := by rw [← hn]; exact tL_len L xs (by omega)
  have b0 := lnV_b (L := L) (xs := xs) (j := j) (w := 0)
  have b1 := lnV_b (L := L) (xs := xs) (j := j) (w := 1)
  have b2 := lnV_b (L := L) (xs := xs) (j := j) (w := 2)
  have s0 := sgL_len b0.1 b0.2.1
  have s1 := sgL_len b1.1 b1.2.1
  have s2 := sgL_len b2.1 b2.2.1
  refine lv_iload_n hx hb dk_L_text_170 rfl (lv_at hl 1 rfl) ?_
  refine lv_aload_n hx hb dk_L_text_171 rfl (lv_at hl 2 rfl) ?_
  have hPc : va_P D vwCl [] H := ws_nP
  have hDc : va_D A [] := ws_nD
  have hFc : ∀ q, va_A [] H.size q → A q := fun q h => hA q (Nat.le_trans hS.1 (ws_nA h))
  refine va_calli (va_runS (As := [.ref bs]) (rest := [.int (nI j)]) ⟨hx, hb, hml, hown, hts⟩ (sk_lines l D kC bs L xs hLb H.size) ⟨am_callB (R := jr 20 800 2100000) (index := 86) 1 (jk_pay htj (am_tb_at 73 (by decide +kernel) rfl)) (hts _ (am_tb_at 73 (by decide +kernel) rfl)) rfl rfl rfl (hts _ (am_tb_at 34 (by decide +kernel) rfl)) (hts _ (am_tb_at 71 (by decide +kernel) rfl)) ⟨by decide, by decide, by decide +kernel⟩ ⟨(by show 2 + 1 ≤ 20; decide), (by show 8 + (1 + 11) + 48 * 2 ≤ 48 * 20; decide)⟩, (hts _ (am_tb_at 72 (by decide +kernel) rfl))⟩ (ws_S (Stb_and Stb_G (Stb_X bs L xs)) hPc hK hDc (fun U hU hW => ws_E (Stb_and Stb_G (Stb_X bs L xs)) hE.1 hS hU hW hFc)) rfl rfl hl.1 rfl (lv_room (Nat.le_of_ble_eq_true rfl)) dk_L_text_172 ⟨(room_ok hc1 rfl), (room_ok hc2 rfl)⟩) hS (fun q _ h => hFc q h) hFc (fun r0 u t H1 locs hte hvm hz hB hsz hkp hS => ?_)
  have hP := ws_kept hP hkp
  generalize H1 = H at hP hS ⊢
  have hP : va_P D vwCl [(a, .inr (9, [.ref d, .int 0, .int 0, .int 0])), (d, .inl (kC 2, n, .inl g))] H := hP
  have hD : va_D A [(a, .inr (9, [.ref d, .int 0, .int 0, .int 0])), (d, .inl (kC 2, n, .inl g))] := hD
  refine W.widen (k := cells + 0) (n := slots + 0) (Nat.le_of_eq (Nat.add_assoc _ _ _)) (Nat.le_of_eq (Nat.add_assoc _ _ _)) ?_
  subst hz
  refine lv_icmp_ge (tgt := 254) hx hb dk_L_text_175 rfl (fun q => absurd q (fun z => absurd ((nI_leI (by omega) (by omega)).mp z) (by omega))) (fun _ => ?_)
  refine va_new (ci := 10) (fs := [.null, .int 0, .int 0, .int 0]) (C := RJ4) (T := TJ4) (N := 4) hx hb hts qwJ4 tyJ4 tyJ4_ok hown (hts _ (am_tb_at 288 (by decide +kernel) rfl)) (hts _ (am_tb_at 289 (by decide +kernel) rfl)) (hts _ (am_tb_at 46 (by decide +kernel) rfl)) hK hP hD hS hA rfl (fun j hj => by rcases (show j = 0 ∨ j = 1 ∨ j = 2 ∨ j = 3 by omega) with rfl | rfl | rfl | rfl <;> rfl) (room_ok hc1 rfl) (room_ok hc2 rfl) dk_L_text_178 (fun q1 H hP hD hS => ?_)
  refine W.widen (k := cells + 1) (n := slots + 4) (Nat.le_of_eq (Nat.add_assoc _ _ _)) (Nat.le_of_eq (Nat.add_assoc _ _ _)) ?_
  have hP : va_P D vwCl [(a, .inr (9, [.ref d, .int 0, .int 0, .int 0])), (d, .inl (kC 2, n, .inl g)), (q1, .inr (10, [.null, .int 0, .int 0, .int 0]))] H := hP
  have hD : va_D A [(a, .inr (9, [.ref d, .int 0, .int 0, .int 0])), (d, .inl (kC 2, n, .inl g)), (q1, .inr (10, [.null, .int 0, .int 0, .int 0]))] := hD
  refine lv_dup hx hb dk_L_text_181 rfl ?_
  have hPc := hP.sub (ws' := [(q1, .inr (10, [.null, .int 0, .int 0, .int 0]))]) [2] rfl
  have hDc := hD.sub (ws' := [(q1, .inr (10, [.null, .int 0, .int 0, .int 0]))]) [2] (by decide) rfl
  have hFc := va_free (wc := [(q1, .inr (10, [.null, .int 0, .int 0, .int 0]))]) hD hS hA [2] rfl
  refine va_callv (va_runI (As := []) (rest := [.ref q1]) ⟨hx, hb, hml, hown, hts⟩ (sk_sbN l D kC q1 H.size) ⟨am_callB (R := jr 20 800 2100000) (index := 16) 0 (jk_pay htj (am_tb_at 292 (by decide +kernel) rfl)) (hts _ (am_tb_at 292 (by decide +kernel) rfl)) rfl rfl rfl (hts _ (am_tb_at 46 (by decide +kernel) rfl)) (hts _ (am_tb_at 290 (by decide +kernel) rfl)) ⟨by decide, by decide, by decide +kernel⟩ ⟨(by show 4 + 1 ≤ 20; decide), (by show 8 + (1 + 11) + 48 * 4 ≤ 48 * 20; decide)⟩, rfl, (hts _ (am_tb_at 291 (by decide +kernel) rfl))⟩ (ws_S Stb_G hPc hK hDc (fun U hU hW => ws_E Stb_G hE.1.1 hS hU hW hFc)) rfl rfl hl.1 rfl (lv_room (Nat.le_of_ble_eq_true rfl)) dk_L_text_182 ⟨(room_ok hc1 rfl), (room_ok hc2 rfl)⟩) hS (fun q _ h => hFc q h) hFc (fun b1_0 t H1 locs hte hvm hz hB hsz hkp hS => ?_)
  obtain ⟨hP1, hD1⟩ := hB
  rw [hte] at hP1
  obtain ⟨hP, hD⟩ := va_join (wr := [(a, .inr (9, [.ref d, .int 0, .int 0, .int 0])), (d, .inl (kC 2, n, .inl g))]) (w1 := [(q1, .inr (10, [.ref b1_0, .int 0, .int 0, .int (nI 0)])), (b1_0, .inl (kC 2, 16, .inl (fun _ => 0)))]) hP hD [2] [0, 1] rfl rfl (by decide) (by decide) hkp hFc hP1 hD1
  generalize H1 = H at hP hS ⊢
  have hP : va_P D vwCl [(a, .inr (9, [.ref d, .int 0, .int 0, .int 0])), (d, .inl (kC 2, n, .inl g)), (q1, .inr (10, [.ref b1_0, .int 0, .int 0, .int (nI 0)])), (b1_0, .inl (kC 2, 16, .inl (fun _ => 0)))] H := hP
  have hD : va_D A [(a, .inr (9, [.ref d, .int 0, .int 0, .int 0])), (d, .inl (kC 2, n, .inl g)), (q1, .inr (10, [.ref b1_0, .int 0, .int 0, .int (nI 0)])), (b1_0, .inl (kC 2, 16, .inl (fun _ => 0)))] := hD
  refine W.widen (k := cells + 2) (n := slots + 4004) (Nat.le_of_eq (Nat.add_assoc _ _ _)) (Nat.le_of_eq (Nat.add_assoc _ _ _)) ?_
  have hw1_0 : 0 ≤ 16 ∧ 16 ≤ 1700 := ⟨by decide, by decide⟩
  have hf1_0 : sb_Fit (fun _ => 0) := sb_fit0
  have hL1_0 : sb_Lat (lt []) 0 (fun _ => 0) := fun j h => absurd h (Nat.not_lt_zero _)
  have hn1_0 : ([] : List Nat).length = 0 := rfl
  refine lv_aload_n hx hb dk_L_text_185 rfl (lv_at hl 0 rfl) ?_
  have hPc := hP.sub (ws' := [(q1, .inr (10, [.ref b1_0, .int 0, .int 0, .int (nI 0)])), (b1_0, .inl (kC 2, 16, .inl (fun _ => 0)))]) [2, 3] rfl
  have hDc := hD.sub (ws' := [(q1, .inr (10, [.ref b1_0, .int 0, .int 0, .int (nI 0)])), (b1_0, .inl (kC 2, 16, .inl (fun _ => 0)))]) [2, 3] (by decide) rfl
  have hFc := va_free (wc := [(q1, .inr (10, [.ref b1_0, .int 0, .int 0, .int (nI 0)])), (b1_0, .inl (kC 2, 16, .inl (fun _ => 0)))]) hD hS hA [2, 3] rfl
  refine va_callr (va_runV (As := [.ref a]) (rest := []) ⟨hx, hb, hml, hown, hts⟩ (sk_sbS l D kC q1 b1_0 16 0 0 (fun _ => 0) a d n (lt (tL L xs j)) (lt ([] : List Nat)) hw1_0.1 hw1_0.2 hf1_0 hL1_0 (by omega) H.size) ⟨am_callB (R := jr 20 800 2100000) (index := 17) 1 (jk_pay htj (am_tb_at 323 (by decide +kernel) rfl)) (hts _ (am_tb_at 323 (by decide +kernel) rfl)) rfl rfl rfl (hts _ (am_tb_at 46 (by decide +kernel) rfl)) (hts _ (am_tb_at 320 (by decide +kernel) rfl)) ⟨by decide, by decide, by decide +kernel⟩ ⟨(by show 13 + 1 ≤ 20; decide), (by show 8 + (2 + 11) + 48 * 13 ≤ 48 * 20; decide)⟩, (hts _ (am_tb_at 321 (by decide +kernel) rfl)), (hts _ (am_tb_at 322 (by decide +kernel) rfl))⟩ (ws_V (Stb_and Stb_G (Stb_S a d n (lt (tL L xs j)))) (va_recv (q := (RJ4, TJ4, 4)) (q0 := 2) hK hP rfl rfl) hPc hK hDc (fun U hU hW => ⟨ws_E Stb_G hE.1.1 hS hU hW hFc, ws_N (Stb_S a d n (lt (tL L xs j))) (ro_S hts hK hP 0 1 rfl rfl hL hf (ws_out hP hD [2, 3] rfl (k := 0) rfl (by decide)) (ws_out hP hD [2, 3] rfl (k := 1) rfl (by decide))) hU hW⟩)) rfl rfl hl.1 rfl (lv_room (Nat.le_of_ble_eq_true rfl)) dk_L_text_186 ⟨(room_ok hc1 rfl), (room_ok hc2 rfl)⟩) hS (fun q _ h => hFc q h) hFc (fun u ra t H1 locs hte hvm hz hB hsz hkp hS => ?_)
  obtain ⟨b1_1, w1_1, g1_1⟩ := u
  obtain ⟨hra, hP1, hD1⟩ := hB
  rw [hte] at hP1
  obtain ⟨hP, hD⟩ := va_join (wr := [(a, .inr (9, [.ref d, .int 0, .int 0, .int 0])), (d, .inl (kC 2, n, .inl g))]) (w1 := [(q1, .inr (10, [.ref b1_1, .int 0, .int 0, .int (nI ((0 + n)))])), (b1_1, .inl (kC 2, w1_1, .inl g1_1))]) hP hD [2, 3] [0, 1] rfl rfl (by decide) (by decide) hkp hFc hP1 hD1
  generalize H1 = H at hP hS ⊢
  have hP : va_P D vwCl [(a, .inr (9, [.ref d, .int 0, .int 0, .int 0])), (d, .inl (kC 2, n, .inl g)), (q1, .inr (10, [.ref b1_1, .int 0, .int 0, .int (nI ((0 + n)))])), (b1_1, .inl (kC 2, w1_1, .inl g1_1))] H := hP
  have hD : va_D A [(a, .inr (9, [.ref d, .int 0, .int 0, .int 0])), (d, .inl (kC 2, n, .inl g)), (q1, .inr (10, [.ref b1_1, .int 0, .int 0, .int (nI ((0 + n)))])), (b1_1, .inl (kC 2, w1_1, .inl g1_1))] := hD
  refine W.widen (k := cells + 3) (n := slots + 8004) (Nat.le_of_eq (Nat.add_assoc _ _ _)) (Nat.le_of_eq (Nat.add_assoc _ _ _)) ?_
  dsimp only at hz
  obtain ⟨hw1_1, hf1_1, hL0⟩ := hz
  have hy1_1 : (tL L xs j : List Nat).length = n := hn
  have hL1_1 := ll_cat hn1_0 hy1_1 hL0
  have hn1_1 := ll_len hn1_0 hy1_1
  rw [hra]
  refine va_ldcS hx hb hown hR7 dk_L_text_189 ?_
  have hPc := hP.sub (ws' := [(q1, .inr (10, [.ref b1_1, .int 0, .int 0, .int (nI ((0 + n)))])), (b1_1, .inl (kC 2, w1_1, .inl g1_1))]) [2, 3] rfl
  have hDc := hD.sub (ws' := [(q1, .inr (10, [.ref b1_1, .int 0, .int 0, .int (nI ((0 + n)))])), (b1_1, .inl (kC 2, w1_1, .inl g1_1))]) [2, 3] (by decide) rfl
  have hFc := va_free (wc := [(q1, .inr (10, [.ref b1_1, .int 0, .int 0, .int (nI ((0 + n)))])), (b1_1, .inl (kC 2, w1_1, .inl g1_1))]) hD hS hA [2, 3] rfl
  refine va_callr (va_runV (As := [.ref a7]) (rest := []) ⟨hx, hb, hml, hown, hts⟩ (sk_sbS l D kC q1 b1_1 w1_1 (0 + n) 0 g1_1 a7 d7 5 (lt kLine) (lt (([] : List Nat) ++ tL L xs j)) hw1_1.1 hw1_1.2 hf1_1 hL1_1 (by omega) H.size) ⟨am_callB (R := jr 20 800 2100000) (index := 17) 1 (jk_pay htj (am_tb_at 323 (by decide +kernel) rfl)) (hts _ (am_tb_at 323 (by decide +kernel) rfl)) rfl rfl rfl (hts _ (am_tb_at 46 (by decide +kernel) rfl)) (hts _ (am_tb_at 320 (by decide +kernel) rfl)) ⟨by decide, by decide, by decide +kernel⟩ ⟨(by show 13 + 1 ≤ 20; decide), (by show 8 + (2 + 11) + 48 * 13 ≤ 48 * 20; decide)⟩, (hts _ (am_tb_at 321 (by decide +kernel) rfl)), (hts _ (am_tb_at 322 (by decide +kernel) rfl))⟩ (ws_V (Stb_and Stb_G (Stb_S a7 d7 5 (lt kLine))) (va_recv (q := (RJ4, TJ4, 4)) (q0 := 2) hK hP rfl rfl) hPc hK hDc (fun U hU hW => ⟨ws_E Stb_G hE.1.1 hS hU hW hFc, ws_E (Stb_S a7 d7 5 (lt kLine)) hS7 hS hU hW hFc⟩)) rfl rfl hl.1 rfl (lv_room (Nat.le_of_ble_eq_true rfl)) dk_L_text_191 ⟨(room_ok hc1 rfl), (room_ok hc2 rfl)⟩) hS (fun q _ h => hFc q h) hFc (fun u ra t H1 locs hte hvm hz hB hsz hkp hS => ?_)
  obtain ⟨b1_2, w1_2, g1_2⟩ := u
  obtain ⟨hra, hP1, hD1⟩ := hB
  rw [hte] at hP1
  obtain ⟨hP, hD⟩ := va_join (wr := [(a, .inr (9, [.ref d, .int 0, .int 0, .int 0])), (d, .inl (kC 2, n, .inl g))]) (w1 := [(q1, .inr (10, [.ref b1_2, .int 0, .int 0, .int (nI (((0 + n) + 5)))])), (b1_2, .inl (kC 2, w1_2, .inl g1_2))]) hP hD [2, 3] [0, 1] rfl rfl (by decide) (by decide) hkp hFc hP1 hD1
  generalize H1 = H at hP hS ⊢
  have hP : va_P D vwCl [(a, .inr (9, [.ref d, .int 0, .int 0, .int 0])), (d, .inl (kC 2, n, .inl g)), (q1, .inr (10, [.ref b1_2, .int 0, .int 0, .int (nI (((0 + n) + 5)))])), (b1_2, .inl (kC 2, w1_2, .inl g1_2))] H := hP
  have hD : va_D A [(a, .inr (9, [.ref d, .int 0, .int 0, .int 0])), (d, .inl (kC 2, n, .inl g)), (q1, .inr (10, [.ref b1_2, .int 0, .int 0, .int (nI (((0 + n) + 5)))])), (b1_2, .inl (kC 2, w1_2, .inl g1_2))] := hD
  refine W.widen (k := cells + 4) (n := slots + 12004) (Nat.le_of_eq (Nat.add_assoc _ _ _)) (Nat.le_of_eq (Nat.add_assoc _ _ _)) ?_
  dsimp only at hz
  obtain ⟨hw1_2, hf1_2, hL0⟩ := hz
  have hy1_2 : (kLine : List Nat).length = 5 := rfl
  have hL1_2 := ll_cat hn1_1 hy1_2 hL0
  have hn1_2 := ll_len hn1_1 hy1_2
  rw [hra]
  refine va_ldcS hx hb hown hR8 dk_L_text_194 ?_
  refine lv_iload_n hx hb dk_L_text_196 rfl (lv_at hl 1 rfl) ?_
  have hPc : va_P D vwCl [] H := ws_nP
  have hDc : va_D A [] := ws_nD
  have hFc : ∀ q, va_A [] H.size q → A q := fun q h => hA q (Nat.le_trans hS.1 (ws_nA h))
  refine va_callr (va_runS (As := [.ref a8, .int (nI j)]) (rest := [.ref q1]) ⟨hx, hb, hml, hown, hts⟩ (sk_name l D kC a8 d8 1 [108] rfl (by omega) j (by omega) H.size) ⟨am_callB (R := jr 20 800 2100000) (index := 75) 2 (jk_pay htj (am_tb_at 537 (by decide +kernel) rfl)) (hts _ (am_tb_at 537 (by decide +kernel) rfl)) rfl rfl rfl (hts _ (am_tb_at 34 (by decide +kernel) rfl)) (hts _ (am_tb_at 535 (by decide +kernel) rfl)) ⟨by decide, by decide, by decide +kernel⟩ ⟨(by show 16 + 1 ≤ 20; decide), (by show 8 + (2 + 11) + 48 * 16 ≤ 48 * 20; decide)⟩, (hts _ (am_tb_at 536 (by decide +kernel) rfl))⟩ (ws_S (Stb_and Stb_G (Stb_S a8 d8 1 (lt [108]))) hPc hK hDc (fun U hU hW => ⟨ws_E Stb_G hE.1.1 hS hU hW hFc, ws_E (Stb_S a8 d8 1 (lt [108])) hS8 hS hU hW hFc⟩)) rfl rfl hl.1 rfl (lv_room (Nat.le_of_ble_eq_true rfl)) dk_L_text_197 ⟨(room_ok hc1 rfl), (room_ok hc2 rfl)⟩) hS (fun q _ h => hFc q h) hFc (fun u nm t H1 locs hte hvm hz hB hsz hkp hS => ?_)
  obtain ⟨dnm, gnm⟩ := u
  obtain ⟨hP1, hD1⟩ := hB
  rw [hte] at hP1
  obtain ⟨hP, hD⟩ := va_join (wr := [(a, .inr (9, [.ref d, .int 0, .int 0, .int 0])), (d, .inl (kC 2, n, .inl g)), (q1, .inr (10, [.ref b1_2, .int 0, .int 0, .int (nI (((0 + n) + 5)))])), (b1_2, .inl (kC 2, w1_2, .inl g1_2))]) (w1 := [(nm, .inr (9, [.ref dnm, .int 0, .int 0, .int 0])), (dnm, .inl (kC 2, (1 + 1), .inl gnm))]) hP hD [] [0, 1, 2, 3] rfl rfl (by decide) (by decide) hkp hFc hP1 hD1
  generalize H1 = H at hP hS ⊢
  have hP : va_P D vwCl [(a, .inr (9, [.ref d, .int 0, .int 0, .int 0])), (d, .inl (kC 2, n, .inl g)), (q1, .inr (10, [.ref b1_2, .int 0, .int 0, .int (nI (((0 + n) + 5)))])), (b1_2, .inl (kC 2, w1_2, .inl g1_2)), (nm, .inr (9, [.ref dnm, .int 0, .int 0, .int 0])), (dnm, .inl (kC 2, (1 + 1), .inl gnm))] H := hP
  have hD : va_D A [(a, .inr (9, [.ref d, .int 0, .int 0, .int 0])), (d, .inl (kC 2, n, .inl g)), (q1, .inr (10, [.ref b1_2, .int 0, .int 0, .int (nI (((0 + n) + 5)))])), (b1_2, .inl (kC 2, w1_2, .inl g1_2)), (nm, .inr (9, [.ref dnm, .int 0, .int 0, .int 0])), (dnm, .inl (kC 2, (1 + 1), .inl gnm))] := hD
  refine W.widen (k := cells + 14) (n := slots + 36104) (Nat.le_of_eq (Nat.add_assoc _ _ _)) (Nat.le_of_eq (Nat.add_assoc _ _ _)) ?_
  dsimp only at hz
  obtain ⟨hfnm, hLnm⟩ := hz
  have hnnm : (([108] ++ [97 + j]) : List Nat).length = (1 + 1) := rfl
  have hPc := hP.sub (ws' := [(q1, .inr (10, [.ref b1_2, .int 0, .int 0, .int (nI (((0 + n) + 5)))])), (b1_2, .inl (kC 2, w1_2, .inl g1_2))]) [2, 3] rfl
  have hDc := hD.sub (ws' := [(q1, .inr (10, [.ref b1_2, .int 0, .int 0, .int (nI (((0 + n) + 5)))])), (b1_2, .inl (kC 2, w1_2, .inl g1_2))]) [2, 3] (by decide) rfl
  have hFc := va_free (wc := [(q1, .inr (10, [.ref b1_2, .int 0, .int 0, .int (nI (((0 + n) + 5)))])), (b1_2, .inl (kC 2, w1_2, .inl g1_2))]) hD hS hA [2, 3] rfl
  refine va_callr (va_runV (As := [.ref nm]) (rest := []) ⟨hx, hb, hml, hown, hts⟩ (sk_sbS l D kC q1 b1_2 w1_2 ((0 + n) + 5) 0 g1_2 nm dnm ((1 + 1)) (lt (([108] ++ [97 + j]))) (lt ((([] : List Nat) ++ tL L xs j) ++ kLine)) hw1_2.1 hw1_2.2 hf1_2 hL1_2 (by omega) H.size) ⟨am_callB (R := jr 20 800 2100000) (index := 17) 1 (jk_pay htj (am_tb_at 323 (by decide +kernel) rfl)) (hts _ (am_tb_at 323 (by decide +kernel) rfl)) rfl rfl rfl (hts _ (am_tb_at 46 (by decide +kernel) rfl)) (hts _ (am_tb_at 320 (by decide +kernel) rfl)) ⟨by decide, by decide, by decide +kernel⟩ ⟨(by show 13 + 1 ≤ 20; decide), (by show 8 + (2 + 11) + 48 * 13 ≤ 48 * 20; decide)⟩, (hts _ (am_tb_at 321 (by decide +kernel) rfl)), (hts _ (am_tb_at 322 (by decide +kernel) rfl))⟩ (ws_V (Stb_and Stb_G (Stb_S nm dnm ((1 + 1)) (lt (([108] ++ [97 + j]))))) (va_recv (q := (RJ4, TJ4, 4)) (q0 := 2) hK hP rfl rfl) hPc hK hDc (fun U hU hW => ⟨ws_E Stb_G hE.1.1 hS hU hW hFc, ws_N (Stb_S nm dnm ((1 + 1)) (lt (([108] ++ [97 + j])))) (ro_S hts hK hP 4 5 rfl rfl hLnm hfnm (ws_out hP hD [2, 3] rfl (k := 4) rfl (by decide)) (ws_out hP hD [2, 3] rfl (k := 5) rfl (by decide))) hU hW⟩)) rfl rfl hl.1 rfl (lv_room (Nat.le_of_ble_eq_true rfl)) dk_L_text_200 ⟨(room_ok hc1 rfl), (room_ok hc2 rfl)⟩) hS (fun q _ h => hFc q h) hFc (fun u ra t H1 locs hte hvm hz hB hsz hkp hS => ?_)
  obtain ⟨b1_3, w1_3, g1_3⟩ := u
  obtain ⟨hra, hP1, hD1⟩ := hB
  rw [hte] at hP1
  obtain ⟨hP, hD⟩ := va_join (wr := [(a, .inr (9, [.ref d, .int 0, .int 0, .int 0])), (d, .inl (kC 2, n, .inl g)), (nm, .inr (9, [.ref dnm, .int 0, .int 0, .int 0])), (dnm, .inl (kC 2, (1 + 1), .inl gnm))]) (w1 := [(q1, .inr (10, [.ref b1_3, .int 0, .int 0, .int (nI ((((0 + n) + 5) + ((1 + 1)))))])), (b1_3, .inl (kC 2, w1_3, .inl g1_3))]) hP hD [2, 3] [0, 1, 4, 5] rfl rfl (by decide) (by decide) hkp hFc hP1 hD1
  generalize H1 = H at hP hS ⊢
  have hP : va_P D vwCl [(a, .inr (9, [.ref d, .int 0, .int 0, .int 0])), (d, .inl (kC 2, n, .inl g)), (nm, .inr (9, [.ref dnm, .int 0, .int 0, .int 0])), (dnm, .inl (kC 2, (1 + 1), .inl gnm)), (q1, .inr (10, [.ref b1_3, .int 0, .int 0, .int (nI ((((0 + n) + 5) + ((1 + 1)))))])), (b1_3, .inl (kC 2, w1_3, .inl g1_3))] H := hP
  have hD : va_D A [(a, .inr (9, [.ref d, .int 0, .int 0, .int 0])), (d, .inl (kC 2, n, .inl g)), (nm, .inr (9, [.ref dnm, .int 0, .int 0, .int 0])), (dnm, .inl (kC 2, (1 + 1), .inl gnm)), (q1, .inr (10, [.ref b1_3, .int 0, .int 0, .int (nI ((((0 + n) + 5) + ((1 + 1)))))])), (b1_3, .inl (kC 2, w1_3, .inl g1_3))] := hD
  refine W.widen (k := cells + 15) (n := slots + 40104) (Nat.le_of_eq (Nat.add_assoc _ _ _)) (Nat.le_of_eq (Nat.add_assoc _ _ _)) ?_
  dsimp only at hz
  obtain ⟨hw1_3, hf1_3, hL0⟩ := hz
  have hy1_3 : (([108] ++ [97 + j]) : List Nat).length = (1 + 1) := hnnm
  have hL1_3 := ll_cat hn1_2 hy1_3 hL0
  have hn1_3 := ll_len hn1_2 hy1_3
  rw [hra]
  have hP := hP.sub (ws' := [(a, .inr (9, [.ref d, .int 0, .int 0, .int 0])), (d, .inl (kC 2, n, .inl g)), (q1, .inr (10, [.ref b1_3, .int 0, .int 0, .int (nI ((((0 + n) + 5) + ((1 + 1)))))])), (b1_3, .inl (kC 2, w1_3, .inl g1_3))]) [0, 1, 4, 5] rfl
  have hD := hD.sub (ws' := [(a, .inr (9, [.ref d, .int 0, .int 0, .int 0])), (d, .inl (kC 2, n, .inl g)), (q1, .inr (10, [.ref b1_3, .int 0, .int 0, .int (nI ((((0 + n) + 5) + ((1 + 1)))))])), (b1_3, .inl (kC 2, w1_3, .inl g1_3))]) [0, 1, 4, 5] (by decide) rfl
  refine lv_aload_n hx hb dk_L_text_203 rfl (lv_at hl 2 rfl) ?_
  refine lv_iload_n hx hb dk_L_text_204 rfl (lv_at hl 1 rfl) ?_
  refine lv_iconst (v := 0) hx hb dk_L_text_205 (by decide) ?_
  have hPc : va_P D vwCl [] H := ws_nP
  have hDc : va_D A [] := ws_nD
  have hFc : ∀ q, va_A [] H.size q → A q := fun q h => hA q (Nat.le_trans hS.1 (ws_nA h))
  refine va_calli (va_runS (As := [.ref bs, .int (nI j), .int 0]) (rest := [.ref q1]) ⟨hx, hb, hml, hown, hts⟩ (sk_line0 l D kC bs L xs hLb j (by omega) H.size) ⟨am_callB (R := jr 20 800 2100000) (index := 93) 3 (jk_pay htj (am_tb_at 571 (by decide +kernel) rfl)) (hts _ (am_tb_at 571 (by decide +kernel) rfl)) rfl rfl rfl (hts _ (am_tb_at 34 (by decide +kernel) rfl)) (hts _ (am_tb_at 569 (by decide +kernel) rfl)) ⟨by decide, by decide, by decide +kernel⟩ ⟨(by show 2 + 1 ≤ 20; decide), (by show 8 + (6 + 11) + 48 * 2 ≤ 48 * 20; decide)⟩, (hts _ (am_tb_at 570 (by decide +kernel) rfl))⟩ (ws_S (Stb_and Stb_G (Stb_X bs L xs)) hPc hK hDc (fun U hU hW => ws_E (Stb_and Stb_G (Stb_X bs L xs)) hE.1 hS hU hW hFc)) rfl rfl hl.1 rfl (lv_room (Nat.le_of_ble_eq_true rfl)) dk_L_text_206 ⟨(room_ok hc1 rfl), (room_ok hc2 rfl)⟩) hS (fun q _ h => hFc q h) hFc (fun r0 u t H1 locs hte hvm hz hB hsz hkp hS => ?_)
  have hP := ws_kept hP hkp
  generalize H1 = H at hP hS ⊢
  have hP : va_P D vwCl [(a, .inr (9, [.ref d, .int 0, .int 0, .int 0])), (d, .inl (kC 2, n, .inl g)), (q1, .inr (10, [.ref b1_3, .int 0, .int 0, .int (nI ((((0 + n) + 5) + ((1 + 1)))))])), (b1_3, .inl (kC 2, w1_3, .inl g1_3))] H := hP
  have hD : va_D A [(a, .inr (9, [.ref d, .int 0, .int 0, .int 0])), (d, .inl (kC 2, n, .inl g)), (q1, .inr (10, [.ref b1_3, .int 0, .int 0, .int (nI ((((0 + n) + 5) + ((1 + 1)))))])), (b1_3, .inl (kC 2, w1_3, .inl g1_3))] := hD
  refine W.widen (k := cells + 15) (n := slots + 40104) (Nat.le_of_eq (Nat.add_assoc _ _ _)) (Nat.le_of_eq (Nat.add_assoc _ _ _)) ?_
  subst hz
  have hPc : va_P D vwCl [] H := ws_nP
  have hDc : va_D A [] := ws_nD
  have hFc : ∀ q, va_A [] H.size q → A q := fun q h => hA q (Nat.le_trans hS.1 (ws_nA h))
  refine va_callr (va_runS (As := [.int (Int32.ofInt (lnV L xs j 0))]) (rest := [.ref q1]) ⟨hx, hb, hml, hown, hts⟩ (sk_signed l D kC (lnV L xs j 0) b0.1 b0.2.1 H.size) ⟨am_callB (R := jr 20 800 2100000) (index := 97) 1 (jk_pay htj (am_tb_at 574 (by decide +kernel) rfl)) (hts _ (am_tb_at 574 (by decide +kernel) rfl)) rfl rfl rfl (hts _ (am_tb_at 34 (by decide +kernel) rfl)) (hts _ (am_tb_at 572 (by decide +kernel) rfl)) ⟨by decide, by decide, by decide +kernel⟩ ⟨(by show 14 + 1 ≤ 20; decide), (by show 8 + (1 + 11) + 48 * 14 ≤ 48 * 20; decide)⟩, (hts _ (am_tb_at 573 (by decide +kernel) rfl))⟩ (ws_S (Stb_and Stb_G (Stb_and (Stb_K 50 " -" [32, 45]) (Stb_K 21 " " [32]))) hPc hK hDc (fun U hU hW => ⟨ws_E Stb_G hE.1.1 hS hU hW hFc, ws_E (Stb_K 50 " -" [32, 45]) hE.2.2.2.2.2.2.2.2.2 hS hU hW hFc, ws_E (Stb_K 21 " " [32]) hE.2.2.2.2.2.2.1 hS hU hW hFc⟩)) rfl rfl hl.1 rfl (lv_room (Nat.le_of_ble_eq_true rfl)) dk_L_text_209 ⟨(room_ok hc1 rfl), (room_ok hc2 rfl)⟩) hS (fun q _ h => hFc q h) hFc (fun u sg0 t H1 locs hte hvm hz hB hsz hkp hS => ?_)
  obtain ⟨dsg0, gsg0⟩ := u
  obtain ⟨hP1, hD1⟩ := hB
  rw [hte] at hP1
  obtain ⟨hP, hD⟩ := va_join (wr := [(a, .inr (9, [.ref d, .int 0, .int 0, .int 0])), (d, .inl (kC 2, n, .inl g)), (q1, .inr (10, [.ref b1_3, .int 0, .int 0, .int (nI ((((0 + n) + 5) + ((1 + 1)))))])), (b1_3, .inl (kC 2, w1_3, .inl g1_3))]) (w1 := [(sg0, .inr (9, [.ref dsg0, .int 0, .int 0, .int 0])), (dsg0, .inl (kC 2, (sgL (lnV L xs j 0)).length, .inl gsg0))]) hP hD [] [0, 1, 2, 3] rfl rfl (by decide) (by decide) hkp hFc hP1 hD1
  generalize H1 = H at hP hS ⊢
  have hP : va_P D vwCl [(a, .inr (9, [.ref d, .int 0, .int 0, .int 0])), (d, .inl (kC 2, n, .inl g)), (q1, .inr (10, [.ref b1_3, .int 0, .int 0, .int (nI ((((0 + n) + 5) + ((1 + 1)))))])), (b1_3, .inl (kC 2, w1_3, .inl g1_3)), (sg0, .inr (9, [.ref dsg0, .int 0, .int 0, .int 0])), (dsg0, .inl (kC 2, (sgL (lnV L xs j 0)).length, .inl gsg0))] H := hP
  have hD : va_D A [(a, .inr (9, [.ref d, .int 0, .int 0, .int 0])), (d, .inl (kC 2, n, .inl g)), (q1, .inr (10, [.ref b1_3, .int 0, .int 0, .int (nI ((((0 + n) + 5) + ((1 + 1)))))])), (b1_3, .inl (kC 2, w1_3, .inl g1_3)), (sg0, .inr (9, [.ref dsg0, .int 0, .int 0, .int 0])), (dsg0, .inl (kC 2, (sgL (lnV L xs j 0)).length, .inl gsg0))] := hD
  refine W.widen (k := cells + 23) (n := slots + 64204) (Nat.le_of_eq (Nat.add_assoc _ _ _)) (Nat.le_of_eq (Nat.add_assoc _ _ _)) ?_
  dsimp only at hz
  obtain ⟨hfsg0, hLsg0⟩ := hz
  have hnsg0 : ((sgL (lnV L xs j 0)) : List Nat).length = (sgL (lnV L xs j 0)).length := rfl
  have hPc := hP.sub (ws' := [(q1, .inr (10, [.ref b1_3, .int 0, .int 0, .int (nI ((((0 + n) + 5) + ((1 + 1)))))])), (b1_3, .inl (kC 2, w1_3, .inl g1_3))]) [2, 3] rfl
  have hDc := hD.sub (ws' := [(q1, .inr (10, [.ref b1_3, .int 0, .int 0, .int (nI ((((0 + n) + 5) + ((1 + 1)))))])), (b1_3, .inl (kC 2, w1_3, .inl g1_3))]) [2, 3] (by decide) rfl
  have hFc := va_free (wc := [(q1, .inr (10, [.ref b1_3, .int 0, .int 0, .int (nI ((((0 + n) + 5) + ((1 + 1)))))])), (b1_3, .inl (kC 2, w1_3, .inl g1_3))]) hD hS hA [2, 3] rfl
  refine va_callr (va_runV (As := [.ref sg0]) (rest := []) ⟨hx, hb, hml, hown, hts⟩ (sk_sbS l D kC q1 b1_3 w1_3 (((0 + n) + 5) + ((1 + 1))) 0 g1_3 sg0 dsg0 ((sgL (lnV L xs j 0)).length) (lt ((sgL (lnV L xs j 0)))) (lt (((([] : List Nat) ++ tL L xs j) ++ kLine) ++ ([108] ++ [97 + j]))) hw1_3.1 hw1_3.2 hf1_3 hL1_3 (by omega) H.size) ⟨am_callB (R := jr 20 800 2100000) (index := 17) 1 (jk_pay htj (am_tb_at 323 (by decide +kernel) rfl)) (hts _ (am_tb_at 323 (by decide +kernel) rfl)) rfl rfl rfl (hts _ (am_tb_at 46 (by decide +kernel) rfl)) (hts _ (am_tb_at 320 (by decide +kernel) rfl)) ⟨by decide, by decide, by decide +kernel⟩ ⟨(by show 13 + 1 ≤ 20; decide), (by show 8 + (2 + 11) + 48 * 13 ≤ 48 * 20; decide)⟩, (hts _ (am_tb_at 321 (by decide +kernel) rfl)), (hts _ (am_tb_at 322 (by decide +kernel) rfl))⟩ (ws_V (Stb_and Stb_G (Stb_S sg0 dsg0 ((sgL (lnV L xs j 0)).length) (lt ((sgL (lnV L xs j 0)))))) (va_recv (q := (RJ4, TJ4, 4)) (q0 := 2) hK hP rfl rfl) hPc hK hDc (fun U hU hW => ⟨ws_E Stb_G hE.1.1 hS hU hW hFc, ws_N (Stb_S sg0 dsg0 ((sgL (lnV L xs j 0)).length) (lt ((sgL (lnV L xs j 0))))) (ro_S hts hK hP 4 5 rfl rfl hLsg0 hfsg0 (ws_out hP hD [2, 3] rfl (k := 4) rfl (by decide)) (ws_out hP hD [2, 3] rfl (k := 5) rfl (by decide))) hU hW⟩)) rfl rfl hl.1 rfl (lv_room (Nat.le_of_ble_eq_true rfl)) dk_L_text_212 ⟨(room_ok hc1 rfl), (room_ok hc2 rfl)⟩) hS (fun q _ h => hFc q h) hFc (fun u ra t H1 locs hte hvm hz hB hsz hkp hS => ?_)
  obtain ⟨b1_4, w1_4, g1_4⟩ := u
  obtain ⟨hra, hP1, hD1⟩ := hB
  rw [hte] at hP1
  obtain ⟨hP, hD⟩ := va_join (wr := [(a, .inr (9, [.ref d, .int 0, .int 0, .int 0])), (d, .inl (kC 2, n, .inl g)), (sg0, .inr (9, [.ref dsg0, .int 0, .int 0, .int 0])), (dsg0, .inl (kC 2, (sgL (lnV L xs j 0)).length, .inl gsg0))]) (w1 := [(q1, .inr (10, [.ref b1_4, .int 0, .int 0, .int (nI (((((0 + n) + 5) + ((1 + 1))) + ((sgL (lnV L xs j 0)).length))))])), (b1_4, .inl (kC 2, w1_4, .inl g1_4))]) hP hD [2, 3] [0, 1, 4, 5] rfl rfl (by decide) (by decide) hkp hFc hP1 hD1
  generalize H1 = H at hP hS ⊢
  have hP : va_P D vwCl [(a, .inr (9, [.ref d, .int 0, .int 0, .int 0])), (d, .inl (kC 2, n, .inl g)), (sg0, .inr (9, [.ref dsg0, .int 0, .int 0, .int 0])), (dsg0, .inl (kC 2, (sgL (lnV L xs j 0)).length, .inl gsg0)), (q1, .inr (10, [.ref b1_4, .int 0, .int 0, .int (nI (((((0 + n) + 5) + ((1 + 1))) + ((sgL (lnV L xs j 0)).length))))])), (b1_4, .inl (kC 2, w1_4, .inl g1_4))] H := hP
  have hD : va_D A [(a, .inr (9, [.ref d, .int 0, .int 0, .int 0])), (d, .inl (kC 2, n, .inl g)), (sg0, .inr (9, [.ref dsg0, .int 0, .int 0, .int 0])), (dsg0, .inl (kC 2, (sgL (lnV L xs j 0)).length, .inl gsg0)), (q1, .inr (10, [.ref b1_4, .int 0, .int 0, .int (nI (((((0 + n) + 5) + ((1 + 1))) + ((sgL (lnV L xs j 0)).length))))])), (b1_4, .inl (kC 2, w1_4, .inl g1_4))] := hD
  refine W.widen (k := cells + 24) (n := slots + 68204) (Nat.le_of_eq (Nat.add_assoc _ _ _)) (Nat.le_of_eq (Nat.add_assoc _ _ _)) ?_
  dsimp only at hz
  obtain ⟨hw1_4, hf1_4, hL0⟩ := hz
  have hy1_4 : ((sgL (lnV L xs j 0)) : List Nat).length = (sgL (lnV L xs j 0)).length := hnsg0
  have hL1_4 := ll_cat hn1_3 hy1_4 hL0
  have hn1_4 := ll_len hn1_3 hy1_4
  rw [hra]
  have hP := hP.sub (ws' := [(a, .inr (9, [.ref d, .int 0, .int 0, .int 0])), (d, .inl (kC 2, n, .inl g)), (q1, .inr (10, [.ref b1_4, .int 0, .int 0, .int (nI (((((0 + n) + 5) + ((1 + 1))) + ((sgL (lnV L xs j 0)).length))))])), (b1_4, .inl (kC 2, w1_4, .inl g1_4))]) [0, 1, 4, 5] rfl
  have hD := hD.sub (ws' := [(a, .inr (9, [.ref d, .int 0, .int 0, .int 0])), (d, .inl (kC 2, n, .inl g)), (q1, .inr (10, [.ref b1_4, .int 0, .int 0, .int (nI (((((0 + n) + 5) + ((1 + 1))) + ((sgL (lnV L xs j 0)).length))))])), (b1_4, .inl (kC 2, w1_4, .inl g1_4))]) [0, 1, 4, 5] (by decide) rfl
  refine lv_aload_n hx hb dk_L_text_215 rfl (lv_at hl 2 rfl) ?_
  refine lv_iload_n hx hb dk_L_text_216 rfl (lv_at hl 1 rfl) ?_
  refine lv_iconst (v := 1) hx hb dk_L_text_217 (by decide) ?_
  have hPc : va_P D vwCl [] H := ws_nP
  have hDc : va_D A [] := ws_nD
  have hFc : ∀ q, va_A [] H.size q → A q := fun q h => hA q (Nat.le_trans hS.1 (ws_nA h))
  refine va_calli (va_runS (As := [.ref bs, .int (nI j), .int 1]) (rest := [.ref q1]) ⟨hx, hb, hml, hown, hts⟩ (sk_line1 l D kC bs L xs hLb j (by omega) H.size) ⟨am_callB (R := jr 20 800 2100000) (index := 93) 3 (jk_pay htj (am_tb_at 571 (by decide +kernel) rfl)) (hts _ (am_tb_at 571 (by decide +kernel) rfl)) rfl rfl rfl (hts _ (am_tb_at 34 (by decide +kernel) rfl)) (hts _ (am_tb_at 569 (by decide +kernel) rfl)) ⟨by decide, by decide, by decide +kernel⟩ ⟨(by show 2 + 1 ≤ 20; decide), (by show 8 + (6 + 11) + 48 * 2 ≤ 48 * 20; decide)⟩, (hts _ (am_tb_at 570 (by decide +kernel) rfl))⟩ (ws_S (Stb_and Stb_G (Stb_X bs L xs)) hPc hK hDc (fun U hU hW => ws_E (Stb_and Stb_G (Stb_X bs L xs)) hE.1 hS hU hW hFc)) rfl rfl hl.1 rfl (lv_room (Nat.le_of_ble_eq_true rfl)) dk_L_text_218 ⟨(room_ok hc1 rfl), (room_ok hc2 rfl)⟩) hS (fun q _ h => hFc q h) hFc (fun r0 u t H1 locs hte hvm hz hB hsz hkp hS => ?_)
  have hP := ws_kept hP hkp
  generalize H1 = H at hP hS ⊢
  have hP : va_P D vwCl [(a, .inr (9, [.ref d, .int 0, .int 0, .int 0])), (d, .inl (kC 2, n, .inl g)), (q1, .inr (10, [.ref b1_4, .int 0, .int 0, .int (nI (((((0 + n) + 5) + ((1 + 1))) + ((sgL (lnV L xs j 0)).length))))])), (b1_4, .inl (kC 2, w1_4, .inl g1_4))] H := hP
  have hD : va_D A [(a, .inr (9, [.ref d, .int 0, .int 0, .int 0])), (d, .inl (kC 2, n, .inl g)), (q1, .inr (10, [.ref b1_4, .int 0, .int 0, .int (nI (((((0 + n) + 5) + ((1 + 1))) + ((sgL (lnV L xs j 0)).length))))])), (b1_4, .inl (kC 2, w1_4, .inl g1_4))] := hD
  refine W.widen (k := cells + 24) (n := slots + 68204) (Nat.le_of_eq (Nat.add_assoc _ _ _)) (Nat.le_of_eq (Nat.add_assoc _ _ _)) ?_
  subst hz
  have hPc : va_P D vwCl [] H := ws_nP
  have hDc : va_D A [] := ws_nD
  have hFc : ∀ q, va_A [] H.size q → A q := fun q h => hA q (Nat.le_trans hS.1 (ws_nA h))
  refine va_callr (va_runS (As := [.int (Int32.ofInt (lnV L xs j 1))]) (rest := [.ref q1]) ⟨hx, hb, hml, hown, hts⟩ (sk_signed l D kC (lnV L xs j 1) b1.1 b1.2.1 H.size) ⟨am_callB (R := jr 20 800 2100000) (index := 97) 1 (jk_pay htj (am_tb_at 574 (by decide +kernel) rfl)) (hts _ (am_tb_at 574 (by decide +kernel) rfl)) rfl rfl rfl (hts _ (am_tb_at 34 (by decide +kernel) rfl)) (hts _ (am_tb_at 572 (by decide +kernel) rfl)) ⟨by decide, by decide, by decide +kernel⟩ ⟨(by show 14 + 1 ≤ 20; decide), (by show 8 + (1 + 11) + 48 * 14 ≤ 48 * 20; decide)⟩, (hts _ (am_tb_at 573 (by decide +kernel) rfl))⟩ (ws_S (Stb_and Stb_G (Stb_and (Stb_K 50 " -" [32, 45]) (Stb_K 21 " " [32]))) hPc hK hDc (fun U hU hW => ⟨ws_E Stb_G hE.1.1 hS hU hW hFc, ws_E (Stb_K 50 " -" [32, 45]) hE.2.2.2.2.2.2.2.2.2 hS hU hW hFc, ws_E (Stb_K 21 " " [32]) hE.2.2.2.2.2.2.1 hS hU hW hFc⟩)) rfl rfl hl.1 rfl (lv_room (Nat.le_of_ble_eq_true rfl)) dk_L_text_221 ⟨(room_ok hc1 rfl), (room_ok hc2 rfl)⟩) hS (fun q _ h => hFc q h) hFc (fun u sg1 t H1 locs hte hvm hz hB hsz hkp hS => ?_)
  obtain ⟨dsg1, gsg1⟩ := u
  obtain ⟨hP1, hD1⟩ := hB
  rw [hte] at hP1
  obtain ⟨hP, hD⟩ := va_join (wr := [(a, .inr (9, [.ref d, .int 0, .int 0, .int 0])), (d, .inl (kC 2, n, .inl g)), (q1, .inr (10, [.ref b1_4, .int 0, .int 0, .int (nI (((((0 + n) + 5) + ((1 + 1))) + ((sgL (lnV L xs j 0)).length))))])), (b1_4, .inl (kC 2, w1_4, .inl g1_4))]) (w1 := [(sg1, .inr (9, [.ref dsg1, .int 0, .int 0, .int 0])), (dsg1, .inl (kC 2, (sgL (lnV L xs j 1)).length, .inl gsg1))]) hP hD [] [0, 1, 2, 3] rfl rfl (by decide) (by decide) hkp hFc hP1 hD1
  generalize H1 = H at hP hS ⊢
  have hP : va_P D vwCl [(a, .inr (9, [.ref d, .int 0, .int 0, .int 0])), (d, .inl (kC 2, n, .inl g)), (q1, .inr (10, [.ref b1_4, .int 0, .int 0, .int (nI (((((0 + n) + 5) + ((1 + 1))) + ((sgL (lnV L xs j 0)).length))))])), (b1_4, .inl (kC 2, w1_4, .inl g1_4)), (sg1, .inr (9, [.ref dsg1, .int 0, .int 0, .int 0])), (dsg1, .inl (kC 2, (sgL (lnV L xs j 1)).length, .inl gsg1))] H := hP
  have hD : va_D A [(a, .inr (9, [.ref d, .int 0, .int 0, .int 0])), (d, .inl (kC 2, n, .inl g)), (q1, .inr (10, [.ref b1_4, .int 0, .int 0, .int (nI (((((0 + n) + 5) + ((1 + 1))) + ((sgL (lnV L xs j 0)).length))))])), (b1_4, .inl (kC 2, w1_4, .inl g1_4)), (sg1, .inr (9, [.ref dsg1, .int 0, .int 0, .int 0])), (dsg1, .inl (kC 2, (sgL (lnV L xs j 1)).length, .inl gsg1))] := hD
  refine W.widen (k := cells + 32) (n := slots + 92304) (Nat.le_of_eq (Nat.add_assoc _ _ _)) (Nat.le_of_eq (Nat.add_assoc _ _ _)) ?_
  dsimp only at hz
  obtain ⟨hfsg1, hLsg1⟩ := hz
  have hnsg1 : ((sgL (lnV L xs j 1)) : List Nat).length = (sgL (lnV L xs j 1)).length := rfl
  have hPc := hP.sub (ws' := [(q1, .inr (10, [.ref b1_4, .int 0, .int 0, .int (nI (((((0 + n) + 5) + ((1 + 1))) + ((sgL (lnV L xs j 0)).length))))])), (b1_4, .inl (kC 2, w1_4, .inl g1_4))]) [2, 3] rfl
  have hDc := hD.sub (ws' := [(q1, .inr (10, [.ref b1_4, .int 0, .int 0, .int (nI (((((0 + n) + 5) + ((1 + 1))) + ((sgL (lnV L xs j 0)).length))))])), (b1_4, .inl (kC 2, w1_4, .inl g1_4))]) [2, 3] (by decide) rfl
  have hFc := va_free (wc := [(q1, .inr (10, [.ref b1_4, .int 0, .int 0, .int (nI (((((0 + n) + 5) + ((1 + 1))) + ((sgL (lnV L xs j 0)).length))))])), (b1_4, .inl (kC 2, w1_4, .inl g1_4))]) hD hS hA [2, 3] rfl
  refine va_callr (va_runV (As := [.ref sg1]) (rest := []) ⟨hx, hb, hml, hown, hts⟩ (sk_sbS l D kC q1 b1_4 w1_4 ((((0 + n) + 5) + ((1 + 1))) + ((sgL (lnV L xs j 0)).length)) 0 g1_4 sg1 dsg1 ((sgL (lnV L xs j 1)).length) (lt ((sgL (lnV L xs j 1)))) (lt ((((([] : List Nat) ++ tL L xs j) ++ kLine) ++ ([108] ++ [97 + j])) ++ (sgL (lnV L xs j 0)))) hw1_4.1 hw1_4.2 hf1_4 hL1_4 (by omega) H.size) ⟨am_callB (R := jr 20 800 2100000) (index := 17) 1 (jk_pay htj (am_tb_at 323 (by decide +kernel) rfl)) (hts _ (am_tb_at 323 (by decide +kernel) rfl)) rfl rfl rfl (hts _ (am_tb_at 46 (by decide +kernel) rfl)) (hts _ (am_tb_at 320 (by decide +kernel) rfl)) ⟨by decide, by decide, by decide +kernel⟩ ⟨(by show 13 + 1 ≤ 20; decide), (by show 8 + (2 + 11) + 48 * 13 ≤ 48 * 20; decide)⟩, (hts _ (am_tb_at 321 (by decide +kernel) rfl)), (hts _ (am_tb_at 322 (by decide +kernel) rfl))⟩ (ws_V (Stb_and Stb_G (Stb_S sg1 dsg1 ((sgL (lnV L xs j 1)).length) (lt ((sgL (lnV L xs j 1)))))) (va_recv (q := (RJ4, TJ4, 4)) (q0 := 2) hK hP rfl rfl) hPc hK hDc (fun U hU hW => ⟨ws_E Stb_G hE.1.1 hS hU hW hFc, ws_N (Stb_S sg1 dsg1 ((sgL (lnV L xs j 1)).length) (lt ((sgL (lnV L xs j 1))))) (ro_S hts hK hP 4 5 rfl rfl hLsg1 hfsg1 (ws_out hP hD [2, 3] rfl (k := 4) rfl (by decide)) (ws_out hP hD [2, 3] rfl (k := 5) rfl (by decide))) hU hW⟩)) rfl rfl hl.1 rfl (lv_room (Nat.le_of_ble_eq_true rfl)) dk_L_text_224 ⟨(room_ok hc1 rfl), (room_ok hc2 rfl)⟩) hS (fun q _ h => hFc q h) hFc (fun u ra t H1 locs hte hvm hz hB hsz hkp hS => ?_)
  obtain ⟨b1_5, w1_5, g1_5⟩ := u
  obtain ⟨hra, hP1, hD1⟩ := hB
  rw [hte] at hP1
  obtain ⟨hP, hD⟩ := va_join (wr := [(a, .inr (9, [.ref d, .int 0, .int 0, .int 0])), (d, .inl (kC 2, n, .inl g)), (sg1, .inr (9, [.ref dsg1, .int 0, .int 0, .int 0])), (dsg1, .inl (kC 2, (sgL (lnV L xs j 1)).length, .inl gsg1))]) (w1 := [(q1, .inr (10, [.ref b1_5, .int 0, .int 0, .int (nI ((((((0 + n) + 5) + ((1 + 1))) + ((sgL (lnV L xs j 0)).length)) + ((sgL (lnV L xs j 1)).length))))])), (b1_5, .inl (kC 2, w1_5, .inl g1_5))]) hP hD [2, 3] [0, 1, 4, 5] rfl rfl (by decide) (by decide) hkp hFc hP1 hD1
  generalize H1 = H at hP hS ⊢
  have hP : va_P D vwCl [(a, .inr (9, [.ref d, .int 0, .int 0, .int 0])), (d, .inl (kC 2, n, .inl g)), (sg1, .inr (9, [.ref dsg1, .int 0, .int 0, .int 0])), (dsg1, .inl (kC 2, (sgL (lnV L xs j 1)).length, .inl gsg1)), (q1, .inr (10, [.ref b1_5, .int 0, .int 0, .int (nI ((((((0 + n) + 5) + ((1 + 1))) + ((sgL (lnV L xs j 0)).length)) + ((sgL (lnV L xs j 1)).length))))])), (b1_5, .inl (kC 2, w1_5, .inl g1_5))] H := hP
  have hD : va_D A [(a, .inr (9, [.ref d, .int 0, .int 0, .int 0])), (d, .inl (kC 2, n, .inl g)), (sg1, .inr (9, [.ref dsg1, .int 0, .int 0, .int 0])), (dsg1, .inl (kC 2, (sgL (lnV L xs j 1)).length, .inl gsg1)), (q1, .inr (10, [.ref b1_5, .int 0, .int 0, .int (nI ((((((0 + n) + 5) + ((1 + 1))) + ((sgL (lnV L xs j 0)).length)) + ((sgL (lnV L xs j 1)).length))))])), (b1_5, .inl (kC 2, w1_5, .inl g1_5))] := hD
  refine W.widen (k := cells + 33) (n := slots + 96304) (Nat.le_of_eq (Nat.add_assoc _ _ _)) (Nat.le_of_eq (Nat.add_assoc _ _ _)) ?_
  dsimp only at hz
  obtain ⟨hw1_5, hf1_5, hL0⟩ := hz
  have hy1_5 : ((sgL (lnV L xs j 1)) : List Nat).length = (sgL (lnV L xs j 1)).length := hnsg1
  have hL1_5 := ll_cat hn1_4 hy1_5 hL0
  have hn1_5 := ll_len hn1_4 hy1_5
  rw [hra]
  have hP := hP.sub (ws' := [(a, .inr (9, [.ref d, .int 0, .int 0, .int 0])), (d, .inl (kC 2, n, .inl g)), (q1, .inr (10, [.ref b1_5, .int 0, .int 0, .int (nI ((((((0 + n) + 5) + ((1 + 1))) + ((sgL (lnV L xs j 0)).length)) + ((sgL (lnV L xs j 1)).length))))])), (b1_5, .inl (kC 2, w1_5, .inl g1_5))]) [0, 1, 4, 5] rfl
  have hD := hD.sub (ws' := [(a, .inr (9, [.ref d, .int 0, .int 0, .int 0])), (d, .inl (kC 2, n, .inl g)), (q1, .inr (10, [.ref b1_5, .int 0, .int 0, .int (nI ((((((0 + n) + 5) + ((1 + 1))) + ((sgL (lnV L xs j 0)).length)) + ((sgL (lnV L xs j 1)).length))))])), (b1_5, .inl (kC 2, w1_5, .inl g1_5))]) [0, 1, 4, 5] (by decide) rfl
  refine lv_aload_n hx hb dk_L_text_227 rfl (lv_at hl 2 rfl) ?_
  refine lv_iload_n hx hb dk_L_text_228 rfl (lv_at hl 1 rfl) ?_
  refine lv_iconst (v := 2) hx hb dk_L_text_229 (by decide) ?_
  have hPc : va_P D vwCl [] H := ws_nP
  have hDc : va_D A [] := ws_nD
  have hFc : ∀ q, va_A [] H.size q → A q := fun q h => hA q (Nat.le_trans hS.1 (ws_nA h))
  refine va_calli (va_runS (As := [.ref bs, .int (nI j), .int 2]) (rest := [.ref q1]) ⟨hx, hb, hml, hown, hts⟩ (sk_line2 l D kC bs L xs hLb j (by omega) H.size) ⟨am_callB (R := jr 20 800 2100000) (index := 93) 3 (jk_pay htj (am_tb_at 571 (by decide +kernel) rfl)) (hts _ (am_tb_at 571 (by decide +kernel) rfl)) rfl rfl rfl (hts _ (am_tb_at 34 (by decide +kernel) rfl)) (hts _ (am_tb_at 569 (by decide +kernel) rfl)) ⟨by decide, by decide, by decide +kernel⟩ ⟨(by show 2 + 1 ≤ 20; decide), (by show 8 + (6 + 11) + 48 * 2 ≤ 48 * 20; decide)⟩, (hts _ (am_tb_at 570 (by decide +kernel) rfl))⟩ (ws_S (Stb_and Stb_G (Stb_X bs L xs)) hPc hK hDc (fun U hU hW => ws_E (Stb_and Stb_G (Stb_X bs L xs)) hE.1 hS hU hW hFc)) rfl rfl hl.1 rfl (lv_room (Nat.le_of_ble_eq_true rfl)) dk_L_text_230 ⟨(room_ok hc1 rfl), (room_ok hc2 rfl)⟩) hS (fun q _ h => hFc q h) hFc (fun r0 u t H1 locs hte hvm hz hB hsz hkp hS => ?_)
  have hP := ws_kept hP hkp
  generalize H1 = H at hP hS ⊢
  have hP : va_P D vwCl [(a, .inr (9, [.ref d, .int 0, .int 0, .int 0])), (d, .inl (kC 2, n, .inl g)), (q1, .inr (10, [.ref b1_5, .int 0, .int 0, .int (nI ((((((0 + n) + 5) + ((1 + 1))) + ((sgL (lnV L xs j 0)).length)) + ((sgL (lnV L xs j 1)).length))))])), (b1_5, .inl (kC 2, w1_5, .inl g1_5))] H := hP
  have hD : va_D A [(a, .inr (9, [.ref d, .int 0, .int 0, .int 0])), (d, .inl (kC 2, n, .inl g)), (q1, .inr (10, [.ref b1_5, .int 0, .int 0, .int (nI ((((((0 + n) + 5) + ((1 + 1))) + ((sgL (lnV L xs j 0)).length)) + ((sgL (lnV L xs j 1)).length))))])), (b1_5, .inl (kC 2, w1_5, .inl g1_5))] := hD
  refine W.widen (k := cells + 33) (n := slots + 96304) (Nat.le_of_eq (Nat.add_assoc _ _ _)) (Nat.le_of_eq (Nat.add_assoc _ _ _)) ?_
  subst hz
  have hPc : va_P D vwCl [] H := ws_nP
  have hDc : va_D A [] := ws_nD
  have hFc : ∀ q, va_A [] H.size q → A q := fun q h => hA q (Nat.le_trans hS.1 (ws_nA h))
  refine va_callr (va_runS (As := [.int (Int32.ofInt (lnV L xs j 2))]) (rest := [.ref q1]) ⟨hx, hb, hml, hown, hts⟩ (sk_signed l D kC (lnV L xs j 2) b2.1 b2.2.1 H.size) ⟨am_callB (R := jr 20 800 2100000) (index := 97) 1 (jk_pay htj (am_tb_at 574 (by decide +kernel) rfl)) (hts _ (am_tb_at 574 (by decide +kernel) rfl)) rfl rfl rfl (hts _ (am_tb_at 34 (by decide +kernel) rfl)) (hts _ (am_tb_at 572 (by decide +kernel) rfl)) ⟨by decide, by decide, by decide +kernel⟩ ⟨(by show 14 + 1 ≤ 20; decide), (by show 8 + (1 + 11) + 48 * 14 ≤ 48 * 20; decide)⟩, (hts _ (am_tb_at 573 (by decide +kernel) rfl))⟩ (ws_S (Stb_and Stb_G (Stb_and (Stb_K 50 " -" [32, 45]) (Stb_K 21 " " [32]))) hPc hK hDc (fun U hU hW => ⟨ws_E Stb_G hE.1.1 hS hU hW hFc, ws_E (Stb_K 50 " -" [32, 45]) hE.2.2.2.2.2.2.2.2.2 hS hU hW hFc, ws_E (Stb_K 21 " " [32]) hE.2.2.2.2.2.2.1 hS hU hW hFc⟩)) rfl rfl hl.1 rfl (lv_room (Nat.le_of_ble_eq_true rfl)) dk_L_text_233 ⟨(room_ok hc1 rfl), (room_ok hc2 rfl)⟩) hS (fun q _ h => hFc q h) hFc (fun u sg2 t H1 locs hte hvm hz hB hsz hkp hS => ?_)
  obtain ⟨dsg2, gsg2⟩ := u
  obtain ⟨hP1, hD1⟩ := hB
  rw [hte] at hP1
  obtain ⟨hP, hD⟩ := va_join (wr := [(a, .inr (9, [.ref d, .int 0, .int 0, .int 0])), (d, .inl (kC 2, n, .inl g)), (q1, .inr (10, [.ref b1_5, .int 0, .int 0, .int (nI ((((((0 + n) + 5) + ((1 + 1))) + ((sgL (lnV L xs j 0)).length)) + ((sgL (lnV L xs j 1)).length))))])), (b1_5, .inl (kC 2, w1_5, .inl g1_5))]) (w1 := [(sg2, .inr (9, [.ref dsg2, .int 0, .int 0, .int 0])), (dsg2, .inl (kC 2, (sgL (lnV L xs j 2)).length, .inl gsg2))]) hP hD [] [0, 1, 2, 3] rfl rfl (by decide) (by decide) hkp hFc hP1 hD1
  generalize H1 = H at hP hS ⊢
  have hP : va_P D vwCl [(a, .inr (9, [.ref d, .int 0, .int 0, .int 0])), (d, .inl (kC 2, n, .inl g)), (q1, .inr (10, [.ref b1_5, .int 0, .int 0, .int (nI ((((((0 + n) + 5) + ((1 + 1))) + ((sgL (lnV L xs j 0)).length)) + ((sgL (lnV L xs j 1)).length))))])), (b1_5, .inl (kC 2, w1_5, .inl g1_5)), (sg2, .inr (9, [.ref dsg2, .int 0, .int 0, .int 0])), (dsg2, .inl (kC 2, (sgL (lnV L xs j 2)).length, .inl gsg2))] H := hP
  have hD : va_D A [(a, .inr (9, [.ref d, .int 0, .int 0, .int 0])), (d, .inl (kC 2, n, .inl g)), (q1, .inr (10, [.ref b1_5, .int 0, .int 0, .int (nI ((((((0 + n) + 5) + ((1 + 1))) + ((sgL (lnV L xs j 0)).length)) + ((sgL (lnV L xs j 1)).length))))])), (b1_5, .inl (kC 2, w1_5, .inl g1_5)), (sg2, .inr (9, [.ref dsg2, .int 0, .int 0, .int 0])), (dsg2, .inl (kC 2, (sgL (lnV L xs j 2)).length, .inl gsg2))] := hD
  refine W.widen (k := cells + 41) (n := slots + 120404) (Nat.le_of_eq (Nat.add_assoc _ _ _)) (Nat.le_of_eq (Nat.add_assoc _ _ _)) ?_
  dsimp only at hz
  obtain ⟨hfsg2, hLsg2⟩ := hz
  have hnsg2 : ((sgL (lnV L xs j 2)) : List Nat).length = (sgL (lnV L xs j 2)).length := rfl
  have hPc := hP.sub (ws' := [(q1, .inr (10, [.ref b1_5, .int 0, .int 0, .int (nI ((((((0 + n) + 5) + ((1 + 1))) + ((sgL (lnV L xs j 0)).length)) + ((sgL (lnV L xs j 1)).length))))])), (b1_5, .inl (kC 2, w1_5, .inl g1_5))]) [2, 3] rfl
  have hDc := hD.sub (ws' := [(q1, .inr (10, [.ref b1_5, .int 0, .int 0, .int (nI ((((((0 + n) + 5) + ((1 + 1))) + ((sgL (lnV L xs j 0)).length)) + ((sgL (lnV L xs j 1)).length))))])), (b1_5, .inl (kC 2, w1_5, .inl g1_5))]) [2, 3] (by decide) rfl
  have hFc := va_free (wc := [(q1, .inr (10, [.ref b1_5, .int 0, .int 0, .int (nI ((((((0 + n) + 5) + ((1 + 1))) + ((sgL (lnV L xs j 0)).length)) + ((sgL (lnV L xs j 1)).length))))])), (b1_5, .inl (kC 2, w1_5, .inl g1_5))]) hD hS hA [2, 3] rfl
  refine va_callr (va_runV (As := [.ref sg2]) (rest := []) ⟨hx, hb, hml, hown, hts⟩ (sk_sbS l D kC q1 b1_5 w1_5 (((((0 + n) + 5) + ((1 + 1))) + ((sgL (lnV L xs j 0)).length)) + ((sgL (lnV L xs j 1)).length)) 0 g1_5 sg2 dsg2 ((sgL (lnV L xs j 2)).length) (lt ((sgL (lnV L xs j 2)))) (lt (((((([] : List Nat) ++ tL L xs j) ++ kLine) ++ ([108] ++ [97 + j])) ++ (sgL (lnV L xs j 0))) ++ (sgL (lnV L xs j 1)))) hw1_5.1 hw1_5.2 hf1_5 hL1_5 (by omega) H.size) ⟨am_callB (R := jr 20 800 2100000) (index := 17) 1 (jk_pay htj (am_tb_at 323 (by decide +kernel) rfl)) (hts _ (am_tb_at 323 (by decide +kernel) rfl)) rfl rfl rfl (hts _ (am_tb_at 46 (by decide +kernel) rfl)) (hts _ (am_tb_at 320 (by decide +kernel) rfl)) ⟨by decide, by decide, by decide +kernel⟩ ⟨(by show 13 + 1 ≤ 20; decide), (by show 8 + (2 + 11) + 48 * 13 ≤ 48 * 20; decide)⟩, (hts _ (am_tb_at 321 (by decide +kernel) rfl)), (hts _ (am_tb_at 322 (by decide +kernel) rfl))⟩ (ws_V (Stb_and Stb_G (Stb_S sg2 dsg2 ((sgL (lnV L xs j 2)).length) (lt ((sgL (lnV L xs j 2)))))) (va_recv (q := (RJ4, TJ4, 4)) (q0 := 2) hK hP rfl rfl) hPc hK hDc (fun U hU hW => ⟨ws_E Stb_G hE.1.1 hS hU hW hFc, ws_N (Stb_S sg2 dsg2 ((sgL (lnV L xs j 2)).length) (lt ((sgL (lnV L xs j 2))))) (ro_S hts hK hP 4 5 rfl rfl hLsg2 hfsg2 (ws_out hP hD [2, 3] rfl (k := 4) rfl (by decide)) (ws_out hP hD [2, 3] rfl (k := 5) rfl (by decide))) hU hW⟩)) rfl rfl hl.1 rfl (lv_room (Nat.le_of_ble_eq_true rfl)) dk_L_text_236 ⟨(room_ok hc1 rfl), (room_ok hc2 rfl)⟩) hS (fun q _ h => hFc q h) hFc (fun u ra t H1 locs hte hvm hz hB hsz hkp hS => ?_)
  obtain ⟨b1_6, w1_6, g1_6⟩ := u
  obtain ⟨hra, hP1, hD1⟩ := hB
  rw [hte] at hP1
  obtain ⟨hP, hD⟩ := va_join (wr := [(a, .inr (9, [.ref d, .int 0, .int 0, .int 0])), (d, .inl (kC 2, n, .inl g)), (sg2, .inr (9, [.ref dsg2, .int 0, .int 0, .int 0])), (dsg2, .inl (kC 2, (sgL (lnV L xs j 2)).length, .inl gsg2))]) (w1 := [(q1, .inr (10, [.ref b1_6, .int 0, .int 0, .int (nI (((((((0 + n) + 5) + ((1 + 1))) + ((sgL (lnV L xs j 0)).length)) + ((sgL (lnV L xs j 1)).length)) + ((sgL (lnV L xs j 2)).length))))])), (b1_6, .inl (kC 2, w1_6, .inl g1_6))]) hP hD [2, 3] [0, 1, 4, 5] rfl rfl (by decide) (by decide) hkp hFc hP1 hD1
  generalize H1 = H at hP hS ⊢
  have hP : va_P D vwCl [(a, .inr (9, [.ref d, .int 0, .int 0, .int 0])), (d, .inl (kC 2, n, .inl g)), (sg2, .inr (9, [.ref dsg2, .int 0, .int 0, .int 0])), (dsg2, .inl (kC 2, (sgL (lnV L xs j 2)).length, .inl gsg2)), (q1, .inr (10, [.ref b1_6, .int 0, .int 0, .int (nI (((((((0 + n) + 5) + ((1 + 1))) + ((sgL (lnV L xs j 0)).length)) + ((sgL (lnV L xs j 1)).length)) + ((sgL (lnV L xs j 2)).length))))])), (b1_6, .inl (kC 2, w1_6, .inl g1_6))] H := hP
  have hD : va_D A [(a, .inr (9, [.ref d, .int 0, .int 0, .int 0])), (d, .inl (kC 2, n, .inl g)), (sg2, .inr (9, [.ref dsg2, .int 0, .int 0, .int 0])), (dsg2, .inl (kC 2, (sgL (lnV L xs j 2)).length, .inl gsg2)), (q1, .inr (10, [.ref b1_6, .int 0, .int 0, .int (nI (((((((0 + n) + 5) + ((1 + 1))) + ((sgL (lnV L xs j 0)).length)) + ((sgL (lnV L xs j 1)).length)) + ((sgL (lnV L xs j 2)).length))))])), (b1_6, .inl (kC 2, w1_6, .inl g1_6))] := hD
  refine W.widen (k := cells + 42) (n := slots + 124404) (Nat.le_of_eq (Nat.add_assoc _ _ _)) (Nat.le_of_eq (Nat.add_assoc _ _ _)) ?_
  dsimp only at hz
  obtain ⟨hw1_6, hf1_6, hL0⟩ := hz
  have hy1_6 : ((sgL (lnV L xs j 2)) : List Nat).length = (sgL (lnV L xs j 2)).length := hnsg2
  have hL1_6 := ll_cat hn1_5 hy1_6 hL0
  have hn1_6 := ll_len hn1_5 hy1_6
  rw [hra]
  have hP := hP.sub (ws' := [(a, .inr (9, [.ref d, .int 0, .int 0, .int 0])), (d, .inl (kC 2, n, .inl g)), (q1, .inr (10, [.ref b1_6, .int 0, .int 0, .int (nI (((((((0 + n) + 5) + ((1 + 1))) + ((sgL (lnV L xs j 0)).length)) + ((sgL (lnV L xs j 1)).length)) + ((sgL (lnV L xs j 2)).length))))])), (b1_6, .inl (kC 2, w1_6, .inl g1_6))]) [0, 1, 4, 5] rfl
  have hD := hD.sub (ws' := [(a, .inr (9, [.ref d, .int 0, .int 0, .int 0])), (d, .inl (kC 2, n, .inl g)), (q1, .inr (10, [.ref b1_6, .int 0, .int 0, .int (nI (((((((0 + n) + 5) + ((1 + 1))) + ((sgL (lnV L xs j 0)).length)) + ((sgL (lnV L xs j 1)).length)) + ((sgL (lnV L xs j 2)).length))))])), (b1_6, .inl (kC 2, w1_6, .inl g1_6))]) [0, 1, 4, 5] (by decide) rfl
  refine va_ldcS hx hb hown hR3 dk_L_text_239 ?_
  have hPc := hP.sub (ws' := [(q1, .inr (10, [.ref b1_6, .int 0, .int 0, .int (nI (((((((0 + n) + 5) + ((1 + 1))) + ((sgL (lnV L xs j 0)).length)) + ((sgL (lnV L xs j 1)).length)) + ((sgL (lnV L xs j 2)).length))))])), (b1_6, .inl (kC 2, w1_6, .inl g1_6))]) [2, 3] rfl
  have hDc := hD.sub (ws' := [(q1, .inr (10, [.ref b1_6, .int 0, .int 0, .int (nI (((((((0 + n) + 5) + ((1 + 1))) + ((sgL (lnV L xs j 0)).length)) + ((sgL (lnV L xs j 1)).length)) + ((sgL (lnV L xs j 2)).length))))])), (b1_6, .inl (kC 2, w1_6, .inl g1_6))]) [2, 3] (by decide) rfl
  have hFc := va_free (wc := [(q1, .inr (10, [.ref b1_6, .int 0, .int 0, .int (nI (((((((0 + n) + 5) + ((1 + 1))) + ((sgL (lnV L xs j 0)).length)) + ((sgL (lnV L xs j 1)).length)) + ((sgL (lnV L xs j 2)).length))))])), (b1_6, .inl (kC 2, w1_6, .inl g1_6))]) hD hS hA [2, 3] rfl
  refine va_callr (va_runV (As := [.ref a3]) (rest := []) ⟨hx, hb, hml, hown, hts⟩ (sk_sbS l D kC q1 b1_6 w1_6 ((((((0 + n) + 5) + ((1 + 1))) + ((sgL (lnV L xs j 0)).length)) + ((sgL (lnV L xs j 1)).length)) + ((sgL (lnV L xs j 2)).length)) 0 g1_6 a3 d3 1 (lt ([59])) (lt ((((((([] : List Nat) ++ tL L xs j) ++ kLine) ++ ([108] ++ [97 + j])) ++ (sgL (lnV L xs j 0))) ++ (sgL (lnV L xs j 1))) ++ (sgL (lnV L xs j 2)))) hw1_6.1 hw1_6.2 hf1_6 hL1_6 (by omega) H.size) ⟨am_callB (R := jr 20 800 2100000) (index := 17) 1 (jk_pay htj (am_tb_at 323 (by decide +kernel) rfl)) (hts _ (am_tb_at 323 (by decide +kernel) rfl)) rfl rfl rfl (hts _ (am_tb_at 46 (by decide +kernel) rfl)) (hts _ (am_tb_at 320 (by decide +kernel) rfl)) ⟨by decide, by decide, by decide +kernel⟩ ⟨(by show 13 + 1 ≤ 20; decide), (by show 8 + (2 + 11) + 48 * 13 ≤ 48 * 20; decide)⟩, (hts _ (am_tb_at 321 (by decide +kernel) rfl)), (hts _ (am_tb_at 322 (by decide +kernel) rfl))⟩ (ws_V (Stb_and Stb_G (Stb_S a3 d3 1 (lt ([59])))) (va_recv (q := (RJ4, TJ4, 4)) (q0 := 2) hK hP rfl rfl) hPc hK hDc (fun U hU hW => ⟨ws_E Stb_G hE.1.1 hS hU hW hFc, ws_E (Stb_S a3 d3 1 (lt [59])) hS3 hS hU hW hFc⟩)) rfl rfl hl.1 rfl (lv_room (Nat.le_of_ble_eq_true rfl)) dk_L_text_241 ⟨(room_ok hc1 rfl), (room_ok hc2 rfl)⟩) hS (fun q _ h => hFc q h) hFc (fun u ra t H1 locs hte hvm hz hB hsz hkp hS => ?_)
  obtain ⟨b1_7, w1_7, g1_7⟩ := u
  obtain ⟨hra, hP1, hD1⟩ := hB
  rw [hte] at hP1
  obtain ⟨hP, hD⟩ := va_join (wr := [(a, .inr (9, [.ref d, .int 0, .int 0, .int 0])), (d, .inl (kC 2, n, .inl g))]) (w1 := [(q1, .inr (10, [.ref b1_7, .int 0, .int 0, .int (nI ((((((((0 + n) + 5) + ((1 + 1))) + ((sgL (lnV L xs j 0)).length)) + ((sgL (lnV L xs j 1)).length)) + ((sgL (lnV L xs j 2)).length)) + 1)))])), (b1_7, .inl (kC 2, w1_7, .inl g1_7))]) hP hD [2, 3] [0, 1] rfl rfl (by decide) (by decide) hkp hFc hP1 hD1
  generalize H1 = H at hP hS ⊢
  have hP : va_P D vwCl [(a, .inr (9, [.ref d, .int 0, .int 0, .int 0])), (d, .inl (kC 2, n, .inl g)), (q1, .inr (10, [.ref b1_7, .int 0, .int 0, .int (nI ((((((((0 + n) + 5) + ((1 + 1))) + ((sgL (lnV L xs j 0)).length)) + ((sgL (lnV L xs j 1)).length)) + ((sgL (lnV L xs j 2)).length)) + 1)))])), (b1_7, .inl (kC 2, w1_7, .inl g1_7))] H := hP
  have hD : va_D A [(a, .inr (9, [.ref d, .int 0, .int 0, .int 0])), (d, .inl (kC 2, n, .inl g)), (q1, .inr (10, [.ref b1_7, .int 0, .int 0, .int (nI ((((((((0 + n) + 5) + ((1 + 1))) + ((sgL (lnV L xs j 0)).length)) + ((sgL (lnV L xs j 1)).length)) + ((sgL (lnV L xs j 2)).length)) + 1)))])), (b1_7, .inl (kC 2, w1_7, .inl g1_7))] := hD
  refine W.widen (k := cells + 43) (n := slots + 128404) (Nat.le_of_eq (Nat.add_assoc _ _ _)) (Nat.le_of_eq (Nat.add_assoc _ _ _)) ?_
  dsimp only at hz
  obtain ⟨hw1_7, hf1_7, hL0⟩ := hz
  have hy1_7 : ([59] : List Nat).length = 1 := rfl
  have hL1_7 := ll_cat hn1_6 hy1_7 hL0
  have hn1_7 := ll_len hn1_6 hy1_7
  rw [hra]
  have hPc : va_P D vwCl [] H := ws_nP
  have hDc : va_D A [] := ws_nD
  have hFc : ∀ q, va_A [] H.size q → A q := fun q h => hA q (Nat.le_trans hS.1 (ws_nA h))
  refine va_callr (va_runV (As := []) (rest := []) ⟨hx, hb, hml, hown, hts⟩ (sk_toS l D kC q1 b1_7 w1_7 ((((((((0 + n) + 5) + ((1 + 1))) + ((sgL (lnV L xs j 0)).length)) + ((sgL (lnV L xs j 1)).length)) + ((sgL (lnV L xs j 2)).length)) + 1)) g1_7 (lt (((((((([] : List Nat) ++ tL L xs j) ++ kLine) ++ ([108] ++ [97 + j])) ++ (sgL (lnV L xs j 0))) ++ (sgL (lnV L xs j 1))) ++ (sgL (lnV L xs j 2))) ++ [59])) hw1_7.1 (by omega) hf1_7 hL1_7 H.size) ⟨am_callB (R := jr 20 800 2100000) (index := 23) 0 (jk_pay htj (am_tb_at 476 (by decide +kernel) rfl)) (hts _ (am_tb_at 476 (by decide +kernel) rfl)) rfl rfl rfl (hts _ (am_tb_at 46 (by decide +kernel) rfl)) (hts _ (am_tb_at 473 (by decide +kernel) rfl)) ⟨by decide, by decide, by decide +kernel⟩ ⟨(by show 10 + 1 ≤ 20; decide), (by show 8 + (1 + 11) + 48 * 10 ≤ 48 * 20; decide)⟩, (hts _ (am_tb_at 474 (by decide +kernel) rfl)), (hts _ (am_tb_at 475 (by decide +kernel) rfl))⟩ (ws_V (Stb_and Stb_G (Stb_B kC q1 b1_7 w1_7 ((((((((0 + n) + 5) + ((1 + 1))) + ((sgL (lnV L xs j 0)).length)) + ((sgL (lnV L xs j 1)).length)) + ((sgL (lnV L xs j 2)).length)) + 1)) g1_7)) (va_recv (q := (RJ4, TJ4, 4)) (q0 := 2) hK hP rfl rfl) hPc hK hDc (fun U hU hW => ⟨ws_E Stb_G hE.1.1 hS hU hW hFc, ws_N (Stb_B kC q1 b1_7 w1_7 ((((((((0 + n) + 5) + ((1 + 1))) + ((sgL (lnV L xs j 0)).length)) + ((sgL (lnV L xs j 1)).length)) + ((sgL (lnV L xs j 2)).length)) + 1)) g1_7) (ro_B hts hK hP 2 3 rfl rfl (ws_n0 hP 2 rfl) (ws_n0 hP 3 rfl)) hU hW⟩)) rfl rfl hl.1 rfl (lv_room (Nat.le_of_ble_eq_true rfl)) dk_L_text_244 ⟨(room_ok hc1 rfl), (room_ok hc2 rfl)⟩) hS (fun q _ h => hFc q h) hFc (fun u s1 t H1 locs hte hvm hz hB hsz hkp hS => ?_)
  obtain ⟨ds1, gs1⟩ := u
  obtain ⟨hP1, hD1⟩ := hB
  rw [hte] at hP1
  obtain ⟨hP, hD⟩ := va_join (wr := [(a, .inr (9, [.ref d, .int 0, .int 0, .int 0])), (d, .inl (kC 2, n, .inl g)), (q1, .inr (10, [.ref b1_7, .int 0, .int 0, .int (nI ((((((((0 + n) + 5) + ((1 + 1))) + ((sgL (lnV L xs j 0)).length)) + ((sgL (lnV L xs j 1)).length)) + ((sgL (lnV L xs j 2)).length)) + 1)))])), (b1_7, .inl (kC 2, w1_7, .inl g1_7))]) (w1 := [(s1, .inr (9, [.ref ds1, .int 0, .int 0, .int 0])), (ds1, .inl (kC 2, (((((((0 + n) + 5) + ((1 + 1))) + ((sgL (lnV L xs j 0)).length)) + ((sgL (lnV L xs j 1)).length)) + ((sgL (lnV L xs j 2)).length)) + 1), .inl gs1))]) hP hD [] [0, 1, 2, 3] rfl rfl (by decide) (by decide) hkp hFc hP1 hD1
  generalize H1 = H at hP hS ⊢
  have hP : va_P D vwCl [(a, .inr (9, [.ref d, .int 0, .int 0, .int 0])), (d, .inl (kC 2, n, .inl g)), (q1, .inr (10, [.ref b1_7, .int 0, .int 0, .int (nI ((((((((0 + n) + 5) + ((1 + 1))) + ((sgL (lnV L xs j 0)).length)) + ((sgL (lnV L xs j 1)).length)) + ((sgL (lnV L xs j 2)).length)) + 1)))])), (b1_7, .inl (kC 2, w1_7, .inl g1_7)), (s1, .inr (9, [.ref ds1, .int 0, .int 0, .int 0])), (ds1, .inl (kC 2, (((((((0 + n) + 5) + ((1 + 1))) + ((sgL (lnV L xs j 0)).length)) + ((sgL (lnV L xs j 1)).length)) + ((sgL (lnV L xs j 2)).length)) + 1), .inl gs1))] H := hP
  have hD : va_D A [(a, .inr (9, [.ref d, .int 0, .int 0, .int 0])), (d, .inl (kC 2, n, .inl g)), (q1, .inr (10, [.ref b1_7, .int 0, .int 0, .int (nI ((((((((0 + n) + 5) + ((1 + 1))) + ((sgL (lnV L xs j 0)).length)) + ((sgL (lnV L xs j 1)).length)) + ((sgL (lnV L xs j 2)).length)) + 1)))])), (b1_7, .inl (kC 2, w1_7, .inl g1_7)), (s1, .inr (9, [.ref ds1, .int 0, .int 0, .int 0])), (ds1, .inl (kC 2, (((((((0 + n) + 5) + ((1 + 1))) + ((sgL (lnV L xs j 0)).length)) + ((sgL (lnV L xs j 1)).length)) + ((sgL (lnV L xs j 2)).length)) + 1), .inl gs1))] := hD
  refine W.widen (k := cells + 45) (n := slots + 132414) (Nat.le_of_eq (Nat.add_assoc _ _ _)) (Nat.le_of_eq (Nat.add_assoc _ _ _)) ?_
  dsimp only at hz
  obtain ⟨hfs1, hLs1⟩ := hz
  have hP := hP.sub (ws' := [(a, .inr (9, [.ref d, .int 0, .int 0, .int 0])), (d, .inl (kC 2, n, .inl g)), (s1, .inr (9, [.ref ds1, .int 0, .int 0, .int 0])), (ds1, .inl (kC 2, (((((((0 + n) + 5) + ((1 + 1))) + ((sgL (lnV L xs j 0)).length)) + ((sgL (lnV L xs j 1)).length)) + ((sgL (lnV L xs j 2)).length)) + 1), .inl gs1))]) [0, 1, 4, 5] rfl
  have hD := hD.sub (ws' := [(a, .inr (9, [.ref d, .int 0, .int 0, .int 0])), (d, .inl (kC 2, n, .inl g)), (s1, .inr (9, [.ref ds1, .int 0, .int 0, .int 0])), (ds1, .inl (kC 2, (((((((0 + n) + 5) + ((1 + 1))) + ((sgL (lnV L xs j 0)).length)) + ((sgL (lnV L xs j 1)).length)) + ((sgL (lnV L xs j 2)).length)) + 1), .inl gs1))]) [0, 1, 4, 5] (by decide) rfl
  have hP := hP.sub (ws' := [(s1, .inr (9, [.ref ds1, .int 0, .int 0, .int 0])), (ds1, .inl (kC 2, (((((((0 + n) + 5) + ((1 + 1))) + ((sgL (lnV L xs j 0)).length)) + ((sgL (lnV L xs j 1)).length)) + ((sgL (lnV L xs j 2)).length)) + 1), .inl gs1))]) [2, 3] rfl
  have hD := hD.sub (ws' := [(s1, .inr (9, [.ref ds1, .int 0, .int 0, .int 0])), (ds1, .inl (kC 2, (((((((0 + n) + 5) + ((1 + 1))) + ((sgL (lnV L xs j 0)).length)) + ((sgL (lnV L xs j 1)).length)) + ((sgL (lnV L xs j 2)).length)) + 1), .inl gs1))]) [2, 3] (by decide) rfl
  refine lv_astore_n (lv' := [(1, .ref s1), (2, .int (nI j)), (0, .ref bs)]) hx hb dk_L_text_247 rfl hl (by decide) rfl (fun ls hl => ?_)
  refine lv_iinc (k := 1) (v := nI (j + 1)) (lv' := [(2, .int (nI (j + 1))), (1, .ref s1), (0, .ref bs)]) hx hb dk_L_text_248 hl rfl (nI_1 j) (by decide) rfl (fun ls hl => ?_)
  refine lv_goto (tgt := 170) hx hb dk_L_text_251 rfl ?_
  have hl : lv_has ls 5 [(1, .ref s1), (2, .int (nI (j + 1))), (0, .ref bs)] := lv_sub hl [1, 0, 2] rfl
  have hT : (((((((([] : List Nat) ++ tL L xs j) ++ kLine) ++ ([108] ++ [97 + j])) ++ (sgL (lnV L xs j 0))) ++ (sgL (lnV L xs j 1))) ++ (sgL (lnV L xs j 2))) ++ [59]) = tL L xs (j + 1) := by rw [← tL_s]; simp
  rw [hT] at hLs1 hn1_7
  exact hk _ _ _ _ _ _ _ _ _ hl hP hD hS hfs1 hLs1 hn1_7 (room_end hc1 rfl) (room_end hc2 rfl)
set_option maxHeartbeats 4000000 in
set_option maxRecDepth 100000 in
theorem tx_C0 {p : Program} {l : Launch} {e : Env} {s : State} {m : MethodId} {below : List Frame} {meth : Method} {c : Code} {bs L : Nat} {xs : Nat → Int32} {D : va_G} {kC : Nat → ClassId} {A : Nat → Prop} (hEnv : txE p l e s m below meth c bs L xs D kC A) {ci : Nat} (hci : ci = cvN L xs) {C1 C2 : Nat} (hk : txG p l e s m below meth c bs L xs D kC A 170 (fun a => [(1, .ref a), (2, .int (nI 0)), (0, .ref bs)]) (tL L xs 0) (C1) (C2)) : txG p l e s m below meth c bs L xs D kC A 42 (fun a => [(1, .ref a), (2, .int (nI ci)), (0, .ref bs)]) (tC L xs ci) (C1 + 0) (C2 + 0) := by
  obtain ⟨hLb, hx, hb, hr, hlocks, hml, htj, hown, hK, hA, hE⟩ := hEnv
  have hts := fun w (hw : w ∈ am_tb) => htj w (jk_in hw)
  obtain ⟨⟨a1, d1, hR1, hS1⟩, ⟨a2, d2, hR2, hS2⟩, ⟨a3, d3, hR3, hS3⟩, ⟨a4, d4, hR4, hS4⟩, ⟨a5, d5, hR5, hS5⟩, ⟨a6, d6, hR6, hS6⟩, ⟨a7, d7, hR7, hS7⟩, ⟨a8, d8, hR8, hS8⟩, ⟨a9, d9, hR9, hS9⟩⟩ := id hE.2
  have bC := cvN_b (L := L) (xs := xs)
  have bL := lnN_b (L := L) (xs := xs)
  have bT := ltN_b (L := L) (xs := xs)
  have bD := dpN_b (L := L) (xs := xs)
  intro a d n g H locs ls cells slots hl hP hD hS hf hL hn hc1 hc2
  refine W.widen (k := cells + 0) (n := slots + 0) (Nat.le_refl _) (Nat.le_refl _) ?_
  refine lv_iload_n hx hb dk_L_text_42 rfl (lv_at hl 1 rfl) ?_
  refine lv_aload_n hx hb dk_L_text_43 rfl (lv_at hl 2 rfl) ?_
  have hPc : va_P D vwCl [] H := ws_nP
  have hDc : va_D A [] := ws_nD
  have hFc : ∀ q, va_A [] H.size q → A q := fun q h => hA q (Nat.le_trans hS.1 (ws_nA h))
  refine va_calli (va_runS (As := [.ref bs]) (rest := [.int (nI ci)]) ⟨hx, hb, hml, hown, hts⟩ (sk_curves l D kC bs L xs hLb H.size) ⟨am_callB (R := jr 20 800 2100000) (index := 68) 1 (jk_pay htj (am_tb_at 70 (by decide +kernel) rfl)) (hts _ (am_tb_at 70 (by decide +kernel) rfl)) rfl rfl rfl (hts _ (am_tb_at 34 (by decide +kernel) rfl)) (hts _ (am_tb_at 68 (by decide +kernel) rfl)) ⟨by decide, by decide, by decide +kernel⟩ ⟨(by show 2 + 1 ≤ 20; decide), (by show 8 + (1 + 11) + 48 * 2 ≤ 48 * 20; decide)⟩, (hts _ (am_tb_at 69 (by decide +kernel) rfl))⟩ (ws_S (Stb_and Stb_G (Stb_X bs L xs)) hPc hK hDc (fun U hU hW => ws_E (Stb_and Stb_G (Stb_X bs L xs)) hE.1 hS hU hW hFc)) rfl rfl hl.1 rfl (lv_room (Nat.le_of_ble_eq_true rfl)) dk_L_text_44 ⟨(room_ok hc1 rfl), (room_ok hc2 rfl)⟩) hS (fun q _ h => hFc q h) hFc (fun r0 u t H1 locs hte hvm hz hB hsz hkp hS => ?_)
  have hP := ws_kept hP hkp
  generalize H1 = H at hP hS ⊢
  have hP : va_P D vwCl [(a, .inr (9, [.ref d, .int 0, .int 0, .int 0])), (d, .inl (kC 2, n, .inl g))] H := hP
  have hD : va_D A [(a, .inr (9, [.ref d, .int 0, .int 0, .int 0])), (d, .inl (kC 2, n, .inl g))] := hD
  refine W.widen (k := cells + 0) (n := slots + 0) (Nat.le_of_eq (Nat.add_assoc _ _ _)) (Nat.le_of_eq (Nat.add_assoc _ _ _)) ?_
  subst hz
  refine lv_icmp_ge (tgt := 168) hx hb dk_L_text_47 rfl (fun _ => ?_) (fun q => absurd ((nI_leI (by omega) (by omega)).mpr (by omega)) q)
  refine lv_iconst (v := 0) hx hb dk_L_text_168 (by decide) ?_
  refine lv_istore_n (lv' := [(2, .int 0), (1, .ref a), (0, .ref bs)]) hx hb dk_L_text_169 rfl hl (by decide) rfl (fun ls hl => ?_)
  have hT : tL L xs 0 = tC L xs ci := by rw [hci]; exact List.append_nil _
  rw [← hT] at hL hn
  have hl : lv_has ls 5 [(1, .ref a), (2, .int (nI 0)), (0, .ref bs)] := lv_sub hl [1, 0, 2] rfl
  exact hk _ _ _ _ _ _ _ _ _ hl hP hD hS hf hL hn (room_end hc1 rfl) (room_end hc2 rfl)
set_option maxHeartbeats 4000000 in
set_option maxRecDepth 100000 in
theorem tx_C1 {p : Program} {l : Launch} {e : Env} {s : State} {m : MethodId} {below : List Frame} {meth : Method} {c : Code} {bs L : Nat} {xs : Nat → Int32} {D : va_G} {kC : Nat → ClassId} {A : Nat → Prop} (hEnv : txE p l e s m below meth c bs L xs D kC A) {ci : Nat} (hci : ci < cvN L xs) {C1 C2 : Nat} (hk : txG p l e s m below meth c bs L xs D kC A 81 (fun a => [(1, .ref a), (2, .int (nI ci)), (3, .int (nI 0)), (0, .ref bs)]) (tK L xs ci 0) (C1) (C2)) : txG p l e s m below meth c bs L xs D kC A 42 (fun a => [(1, .ref a), (2, .int (nI ci)), (0, .ref bs)]) (tC L xs ci) (C1 + 20) (C2 + 44200) := by
  obtain ⟨hLb, hx, hb, hr, hlocks, hml, htj, hown, hK, hA, hE⟩ := hEnv
  have hts := fun w (hw : w ∈ am_tb) => htj w (jk_in hw)
  obtain ⟨⟨a1, d1, hR1, hS1⟩, ⟨a2, d2, hR2, hS2⟩, ⟨a3, d3, hR3, hS3⟩, ⟨a4, d4, hR4, hS4⟩, ⟨a5, d5, hR5, hS5⟩, ⟨a6, d6, hR6, hS6⟩, ⟨a7, d7, hR7, hS7⟩, ⟨a8, d8, hR8, hS8⟩, ⟨a9, d9, hR9, hS9⟩⟩ := id hE.2
  have bC := cvN_b (L := L) (xs := xs)
  have bL := lnN_b (L := L) (xs := xs)
  have bT := ltN_b (L := L) (xs := xs)
  have bD := dpN_b (L := L) (xs := xs)
  intro a d n g H locs ls cells slots hl hP hD hS hf hL hn hc1 hc2
  refine W.widen (k := cells + 0) (n := slots + 0) (Nat.le_refl _) (Nat.le_refl _) ?_
  have hbn : n ≤ 253 := by rw [← hn]; exact tC_len L xs (by omega)
  refine lv_iload_n hx hb dk_L_text_42 rfl (lv_at hl 1 rfl) ?_
  refine lv_aload_n hx hb dk_L_text_43 rfl (lv_at hl 2 rfl) ?_
  have hPc : va_P D vwCl [] H := ws_nP
  have hDc : va_D A [] := ws_nD
  have hFc : ∀ q, va_A [] H.size q → A q := fun q h => hA q (Nat.le_trans hS.1 (ws_nA h))
  refine va_calli (va_runS (As := [.ref bs]) (rest := [.int (nI ci)]) ⟨hx, hb, hml, hown, hts⟩ (sk_curves l D kC bs L xs hLb H.size) ⟨am_callB (R := jr 20 800 2100000) (index := 68) 1 (jk_pay htj (am_tb_at 70 (by decide +kernel) rfl)) (hts _ (am_tb_at 70 (by decide +kernel) rfl)) rfl rfl rfl (hts _ (am_tb_at 34 (by decide +kernel) rfl)) (hts _ (am_tb_at 68 (by decide +kernel) rfl)) ⟨by decide, by decide, by decide +kernel⟩ ⟨(by show 2 + 1 ≤ 20; decide), (by show 8 + (1 + 11) + 48 * 2 ≤ 48 * 20; decide)⟩, (hts _ (am_tb_at 69 (by decide +kernel) rfl))⟩ (ws_S (Stb_and Stb_G (Stb_X bs L xs)) hPc hK hDc (fun U hU hW => ws_E (Stb_and Stb_G (Stb_X bs L xs)) hE.1 hS hU hW hFc)) rfl rfl hl.1 rfl (lv_room (Nat.le_of_ble_eq_true rfl)) dk_L_text_44 ⟨(room_ok hc1 rfl), (room_ok hc2 rfl)⟩) hS (fun q _ h => hFc q h) hFc (fun r0 u t H1 locs hte hvm hz hB hsz hkp hS => ?_)
  have hP := ws_kept hP hkp
  generalize H1 = H at hP hS ⊢
  have hP : va_P D vwCl [(a, .inr (9, [.ref d, .int 0, .int 0, .int 0])), (d, .inl (kC 2, n, .inl g))] H := hP
  have hD : va_D A [(a, .inr (9, [.ref d, .int 0, .int 0, .int 0])), (d, .inl (kC 2, n, .inl g))] := hD
  refine W.widen (k := cells + 0) (n := slots + 0) (Nat.le_of_eq (Nat.add_assoc _ _ _)) (Nat.le_of_eq (Nat.add_assoc _ _ _)) ?_
  subst hz
  refine lv_icmp_ge (tgt := 168) hx hb dk_L_text_47 rfl (fun q => absurd q (fun z => absurd ((nI_leI (by omega) (by omega)).mp z) (by omega))) (fun _ => ?_)
  refine va_new (ci := 10) (fs := [.null, .int 0, .int 0, .int 0]) (C := RJ4) (T := TJ4) (N := 4) hx hb hts qwJ4 tyJ4 tyJ4_ok hown (hts _ (am_tb_at 288 (by decide +kernel) rfl)) (hts _ (am_tb_at 289 (by decide +kernel) rfl)) (hts _ (am_tb_at 46 (by decide +kernel) rfl)) hK hP hD hS hA rfl (fun j hj => by rcases (show j = 0 ∨ j = 1 ∨ j = 2 ∨ j = 3 by omega) with rfl | rfl | rfl | rfl <;> rfl) (room_ok hc1 rfl) (room_ok hc2 rfl) dk_L_text_50 (fun q1 H hP hD hS => ?_)
  refine W.widen (k := cells + 1) (n := slots + 4) (Nat.le_of_eq (Nat.add_assoc _ _ _)) (Nat.le_of_eq (Nat.add_assoc _ _ _)) ?_
  have hP : va_P D vwCl [(a, .inr (9, [.ref d, .int 0, .int 0, .int 0])), (d, .inl (kC 2, n, .inl g)), (q1, .inr (10, [.null, .int 0, .int 0, .int 0]))] H := hP
  have hD : va_D A [(a, .inr (9, [.ref d, .int 0, .int 0, .int 0])), (d, .inl (kC 2, n, .inl g)), (q1, .inr (10, [.null, .int 0, .int 0, .int 0]))] := hD
  refine lv_dup hx hb dk_L_text_53 rfl ?_
  have hPc := hP.sub (ws' := [(q1, .inr (10, [.null, .int 0, .int 0, .int 0]))]) [2] rfl
  have hDc := hD.sub (ws' := [(q1, .inr (10, [.null, .int 0, .int 0, .int 0]))]) [2] (by decide) rfl
  have hFc := va_free (wc := [(q1, .inr (10, [.null, .int 0, .int 0, .int 0]))]) hD hS hA [2] rfl
  refine va_callv (va_runI (As := []) (rest := [.ref q1]) ⟨hx, hb, hml, hown, hts⟩ (sk_sbN l D kC q1 H.size) ⟨am_callB (R := jr 20 800 2100000) (index := 16) 0 (jk_pay htj (am_tb_at 292 (by decide +kernel) rfl)) (hts _ (am_tb_at 292 (by decide +kernel) rfl)) rfl rfl rfl (hts _ (am_tb_at 46 (by decide +kernel) rfl)) (hts _ (am_tb_at 290 (by decide +kernel) rfl)) ⟨by decide, by decide, by decide +kernel⟩ ⟨(by show 4 + 1 ≤ 20; decide), (by show 8 + (1 + 11) + 48 * 4 ≤ 48 * 20; decide)⟩, rfl, (hts _ (am_tb_at 291 (by decide +kernel) rfl))⟩ (ws_S Stb_G hPc hK hDc (fun U hU hW => ws_E Stb_G hE.1.1 hS hU hW hFc)) rfl rfl hl.1 rfl (lv_room (Nat.le_of_ble_eq_true rfl)) dk_L_text_54 ⟨(room_ok hc1 rfl), (room_ok hc2 rfl)⟩) hS (fun q _ h => hFc q h) hFc (fun b1_0 t H1 locs hte hvm hz hB hsz hkp hS => ?_)
  obtain ⟨hP1, hD1⟩ := hB
  rw [hte] at hP1
  obtain ⟨hP, hD⟩ := va_join (wr := [(a, .inr (9, [.ref d, .int 0, .int 0, .int 0])), (d, .inl (kC 2, n, .inl g))]) (w1 := [(q1, .inr (10, [.ref b1_0, .int 0, .int 0, .int (nI 0)])), (b1_0, .inl (kC 2, 16, .inl (fun _ => 0)))]) hP hD [2] [0, 1] rfl rfl (by decide) (by decide) hkp hFc hP1 hD1
  generalize H1 = H at hP hS ⊢
  have hP : va_P D vwCl [(a, .inr (9, [.ref d, .int 0, .int 0, .int 0])), (d, .inl (kC 2, n, .inl g)), (q1, .inr (10, [.ref b1_0, .int 0, .int 0, .int (nI 0)])), (b1_0, .inl (kC 2, 16, .inl (fun _ => 0)))] H := hP
  have hD : va_D A [(a, .inr (9, [.ref d, .int 0, .int 0, .int 0])), (d, .inl (kC 2, n, .inl g)), (q1, .inr (10, [.ref b1_0, .int 0, .int 0, .int (nI 0)])), (b1_0, .inl (kC 2, 16, .inl (fun _ => 0)))] := hD
  refine W.widen (k := cells + 2) (n := slots + 4004) (Nat.le_of_eq (Nat.add_assoc _ _ _)) (Nat.le_of_eq (Nat.add_assoc _ _ _)) ?_
  have hw1_0 : 0 ≤ 16 ∧ 16 ≤ 1700 := ⟨by decide, by decide⟩
  have hf1_0 : sb_Fit (fun _ => 0) := sb_fit0
  have hL1_0 : sb_Lat (lt []) 0 (fun _ => 0) := fun j h => absurd h (Nat.not_lt_zero _)
  have hn1_0 : ([] : List Nat).length = 0 := rfl
  refine lv_aload_n hx hb dk_L_text_57 rfl (lv_at hl 0 rfl) ?_
  have hPc := hP.sub (ws' := [(q1, .inr (10, [.ref b1_0, .int 0, .int 0, .int (nI 0)])), (b1_0, .inl (kC 2, 16, .inl (fun _ => 0)))]) [2, 3] rfl
  have hDc := hD.sub (ws' := [(q1, .inr (10, [.ref b1_0, .int 0, .int 0, .int (nI 0)])), (b1_0, .inl (kC 2, 16, .inl (fun _ => 0)))]) [2, 3] (by decide) rfl
  have hFc := va_free (wc := [(q1, .inr (10, [.ref b1_0, .int 0, .int 0, .int (nI 0)])), (b1_0, .inl (kC 2, 16, .inl (fun _ => 0)))]) hD hS hA [2, 3] rfl
  refine va_callr (va_runV (As := [.ref a]) (rest := []) ⟨hx, hb, hml, hown, hts⟩ (sk_sbS l D kC q1 b1_0 16 0 0 (fun _ => 0) a d n (lt (tC L xs ci)) (lt ([] : List Nat)) hw1_0.1 hw1_0.2 hf1_0 hL1_0 (by omega) H.size) ⟨am_callB (R := jr 20 800 2100000) (index := 17) 1 (jk_pay htj (am_tb_at 323 (by decide +kernel) rfl)) (hts _ (am_tb_at 323 (by decide +kernel) rfl)) rfl rfl rfl (hts _ (am_tb_at 46 (by decide +kernel) rfl)) (hts _ (am_tb_at 320 (by decide +kernel) rfl)) ⟨by decide, by decide, by decide +kernel⟩ ⟨(by show 13 + 1 ≤ 20; decide), (by show 8 + (2 + 11) + 48 * 13 ≤ 48 * 20; decide)⟩, (hts _ (am_tb_at 321 (by decide +kernel) rfl)), (hts _ (am_tb_at 322 (by decide +kernel) rfl))⟩ (ws_V (Stb_and Stb_G (Stb_S a d n (lt (tC L xs ci)))) (va_recv (q := (RJ4, TJ4, 4)) (q0 := 2) hK hP rfl rfl) hPc hK hDc (fun U hU hW => ⟨ws_E Stb_G hE.1.1 hS hU hW hFc, ws_N (Stb_S a d n (lt (tC L xs ci))) (ro_S hts hK hP 0 1 rfl rfl hL hf (ws_out hP hD [2, 3] rfl (k := 0) rfl (by decide)) (ws_out hP hD [2, 3] rfl (k := 1) rfl (by decide))) hU hW⟩)) rfl rfl hl.1 rfl (lv_room (Nat.le_of_ble_eq_true rfl)) dk_L_text_58 ⟨(room_ok hc1 rfl), (room_ok hc2 rfl)⟩) hS (fun q _ h => hFc q h) hFc (fun u ra t H1 locs hte hvm hz hB hsz hkp hS => ?_)
  obtain ⟨b1_1, w1_1, g1_1⟩ := u
  obtain ⟨hra, hP1, hD1⟩ := hB
  rw [hte] at hP1
  obtain ⟨hP, hD⟩ := va_join (wr := [(a, .inr (9, [.ref d, .int 0, .int 0, .int 0])), (d, .inl (kC 2, n, .inl g))]) (w1 := [(q1, .inr (10, [.ref b1_1, .int 0, .int 0, .int (nI ((0 + n)))])), (b1_1, .inl (kC 2, w1_1, .inl g1_1))]) hP hD [2, 3] [0, 1] rfl rfl (by decide) (by decide) hkp hFc hP1 hD1
  generalize H1 = H at hP hS ⊢
  have hP : va_P D vwCl [(a, .inr (9, [.ref d, .int 0, .int 0, .int 0])), (d, .inl (kC 2, n, .inl g)), (q1, .inr (10, [.ref b1_1, .int 0, .int 0, .int (nI ((0 + n)))])), (b1_1, .inl (kC 2, w1_1, .inl g1_1))] H := hP
  have hD : va_D A [(a, .inr (9, [.ref d, .int 0, .int 0, .int 0])), (d, .inl (kC 2, n, .inl g)), (q1, .inr (10, [.ref b1_1, .int 0, .int 0, .int (nI ((0 + n)))])), (b1_1, .inl (kC 2, w1_1, .inl g1_1))] := hD
  refine W.widen (k := cells + 3) (n := slots + 8004) (Nat.le_of_eq (Nat.add_assoc _ _ _)) (Nat.le_of_eq (Nat.add_assoc _ _ _)) ?_
  dsimp only at hz
  obtain ⟨hw1_1, hf1_1, hL0⟩ := hz
  have hy1_1 : (tC L xs ci : List Nat).length = n := hn
  have hL1_1 := ll_cat hn1_0 hy1_1 hL0
  have hn1_1 := ll_len hn1_0 hy1_1
  rw [hra]
  refine va_ldcS hx hb hown hR4 dk_L_text_61 ?_
  have hPc := hP.sub (ws' := [(q1, .inr (10, [.ref b1_1, .int 0, .int 0, .int (nI ((0 + n)))])), (b1_1, .inl (kC 2, w1_1, .inl g1_1))]) [2, 3] rfl
  have hDc := hD.sub (ws' := [(q1, .inr (10, [.ref b1_1, .int 0, .int 0, .int (nI ((0 + n)))])), (b1_1, .inl (kC 2, w1_1, .inl g1_1))]) [2, 3] (by decide) rfl
  have hFc := va_free (wc := [(q1, .inr (10, [.ref b1_1, .int 0, .int 0, .int (nI ((0 + n)))])), (b1_1, .inl (kC 2, w1_1, .inl g1_1))]) hD hS hA [2, 3] rfl
  refine va_callr (va_runV (As := [.ref a4]) (rest := []) ⟨hx, hb, hml, hown, hts⟩ (sk_sbS l D kC q1 b1_1 w1_1 (0 + n) 0 g1_1 a4 d4 6 (lt kCurve) (lt (([] : List Nat) ++ tC L xs ci)) hw1_1.1 hw1_1.2 hf1_1 hL1_1 (by omega) H.size) ⟨am_callB (R := jr 20 800 2100000) (index := 17) 1 (jk_pay htj (am_tb_at 323 (by decide +kernel) rfl)) (hts _ (am_tb_at 323 (by decide +kernel) rfl)) rfl rfl rfl (hts _ (am_tb_at 46 (by decide +kernel) rfl)) (hts _ (am_tb_at 320 (by decide +kernel) rfl)) ⟨by decide, by decide, by decide +kernel⟩ ⟨(by show 13 + 1 ≤ 20; decide), (by show 8 + (2 + 11) + 48 * 13 ≤ 48 * 20; decide)⟩, (hts _ (am_tb_at 321 (by decide +kernel) rfl)), (hts _ (am_tb_at 322 (by decide +kernel) rfl))⟩ (ws_V (Stb_and Stb_G (Stb_S a4 d4 6 (lt kCurve))) (va_recv (q := (RJ4, TJ4, 4)) (q0 := 2) hK hP rfl rfl) hPc hK hDc (fun U hU hW => ⟨ws_E Stb_G hE.1.1 hS hU hW hFc, ws_E (Stb_S a4 d4 6 (lt kCurve)) hS4 hS hU hW hFc⟩)) rfl rfl hl.1 rfl (lv_room (Nat.le_of_ble_eq_true rfl)) dk_L_text_63 ⟨(room_ok hc1 rfl), (room_ok hc2 rfl)⟩) hS (fun q _ h => hFc q h) hFc (fun u ra t H1 locs hte hvm hz hB hsz hkp hS => ?_)
  obtain ⟨b1_2, w1_2, g1_2⟩ := u
  obtain ⟨hra, hP1, hD1⟩ := hB
  rw [hte] at hP1
  obtain ⟨hP, hD⟩ := va_join (wr := [(a, .inr (9, [.ref d, .int 0, .int 0, .int 0])), (d, .inl (kC 2, n, .inl g))]) (w1 := [(q1, .inr (10, [.ref b1_2, .int 0, .int 0, .int (nI (((0 + n) + 6)))])), (b1_2, .inl (kC 2, w1_2, .inl g1_2))]) hP hD [2, 3] [0, 1] rfl rfl (by decide) (by decide) hkp hFc hP1 hD1
  generalize H1 = H at hP hS ⊢
  have hP : va_P D vwCl [(a, .inr (9, [.ref d, .int 0, .int 0, .int 0])), (d, .inl (kC 2, n, .inl g)), (q1, .inr (10, [.ref b1_2, .int 0, .int 0, .int (nI (((0 + n) + 6)))])), (b1_2, .inl (kC 2, w1_2, .inl g1_2))] H := hP
  have hD : va_D A [(a, .inr (9, [.ref d, .int 0, .int 0, .int 0])), (d, .inl (kC 2, n, .inl g)), (q1, .inr (10, [.ref b1_2, .int 0, .int 0, .int (nI (((0 + n) + 6)))])), (b1_2, .inl (kC 2, w1_2, .inl g1_2))] := hD
  refine W.widen (k := cells + 4) (n := slots + 12004) (Nat.le_of_eq (Nat.add_assoc _ _ _)) (Nat.le_of_eq (Nat.add_assoc _ _ _)) ?_
  dsimp only at hz
  obtain ⟨hw1_2, hf1_2, hL0⟩ := hz
  have hy1_2 : (kCurve : List Nat).length = 6 := rfl
  have hL1_2 := ll_cat hn1_1 hy1_2 hL0
  have hn1_2 := ll_len hn1_1 hy1_2
  rw [hra]
  refine va_ldcS hx hb hown hR5 dk_L_text_66 ?_
  refine lv_iload_n hx hb dk_L_text_68 rfl (lv_at hl 1 rfl) ?_
  have hPc : va_P D vwCl [] H := ws_nP
  have hDc : va_D A [] := ws_nD
  have hFc : ∀ q, va_A [] H.size q → A q := fun q h => hA q (Nat.le_trans hS.1 (ws_nA h))
  refine va_callr (va_runS (As := [.ref a5, .int (nI ci)]) (rest := [.ref q1]) ⟨hx, hb, hml, hown, hts⟩ (sk_name l D kC a5 d5 1 [99] rfl (by omega) ci (by omega) H.size) ⟨am_callB (R := jr 20 800 2100000) (index := 75) 2 (jk_pay htj (am_tb_at 537 (by decide +kernel) rfl)) (hts _ (am_tb_at 537 (by decide +kernel) rfl)) rfl rfl rfl (hts _ (am_tb_at 34 (by decide +kernel) rfl)) (hts _ (am_tb_at 535 (by decide +kernel) rfl)) ⟨by decide, by decide, by decide +kernel⟩ ⟨(by show 16 + 1 ≤ 20; decide), (by show 8 + (2 + 11) + 48 * 16 ≤ 48 * 20; decide)⟩, (hts _ (am_tb_at 536 (by decide +kernel) rfl))⟩ (ws_S (Stb_and Stb_G (Stb_S a5 d5 1 (lt [99]))) hPc hK hDc (fun U hU hW => ⟨ws_E Stb_G hE.1.1 hS hU hW hFc, ws_E (Stb_S a5 d5 1 (lt [99])) hS5 hS hU hW hFc⟩)) rfl rfl hl.1 rfl (lv_room (Nat.le_of_ble_eq_true rfl)) dk_L_text_69 ⟨(room_ok hc1 rfl), (room_ok hc2 rfl)⟩) hS (fun q _ h => hFc q h) hFc (fun u nm t H1 locs hte hvm hz hB hsz hkp hS => ?_)
  obtain ⟨dnm, gnm⟩ := u
  obtain ⟨hP1, hD1⟩ := hB
  rw [hte] at hP1
  obtain ⟨hP, hD⟩ := va_join (wr := [(a, .inr (9, [.ref d, .int 0, .int 0, .int 0])), (d, .inl (kC 2, n, .inl g)), (q1, .inr (10, [.ref b1_2, .int 0, .int 0, .int (nI (((0 + n) + 6)))])), (b1_2, .inl (kC 2, w1_2, .inl g1_2))]) (w1 := [(nm, .inr (9, [.ref dnm, .int 0, .int 0, .int 0])), (dnm, .inl (kC 2, (1 + 1), .inl gnm))]) hP hD [] [0, 1, 2, 3] rfl rfl (by decide) (by decide) hkp hFc hP1 hD1
  generalize H1 = H at hP hS ⊢
  have hP : va_P D vwCl [(a, .inr (9, [.ref d, .int 0, .int 0, .int 0])), (d, .inl (kC 2, n, .inl g)), (q1, .inr (10, [.ref b1_2, .int 0, .int 0, .int (nI (((0 + n) + 6)))])), (b1_2, .inl (kC 2, w1_2, .inl g1_2)), (nm, .inr (9, [.ref dnm, .int 0, .int 0, .int 0])), (dnm, .inl (kC 2, (1 + 1), .inl gnm))] H := hP
  have hD : va_D A [(a, .inr (9, [.ref d, .int 0, .int 0, .int 0])), (d, .inl (kC 2, n, .inl g)), (q1, .inr (10, [.ref b1_2, .int 0, .int 0, .int (nI (((0 + n) + 6)))])), (b1_2, .inl (kC 2, w1_2, .inl g1_2)), (nm, .inr (9, [.ref dnm, .int 0, .int 0, .int 0])), (dnm, .inl (kC 2, (1 + 1), .inl gnm))] := hD
  refine W.widen (k := cells + 14) (n := slots + 36104) (Nat.le_of_eq (Nat.add_assoc _ _ _)) (Nat.le_of_eq (Nat.add_assoc _ _ _)) ?_
  dsimp only at hz
  obtain ⟨hfnm, hLnm⟩ := hz
  have hnnm : (([99] ++ [97 + ci]) : List Nat).length = (1 + 1) := rfl
  have hPc := hP.sub (ws' := [(q1, .inr (10, [.ref b1_2, .int 0, .int 0, .int (nI (((0 + n) + 6)))])), (b1_2, .inl (kC 2, w1_2, .inl g1_2))]) [2, 3] rfl
  have hDc := hD.sub (ws' := [(q1, .inr (10, [.ref b1_2, .int 0, .int 0, .int (nI (((0 + n) + 6)))])), (b1_2, .inl (kC 2, w1_2, .inl g1_2))]) [2, 3] (by decide) rfl
  have hFc := va_free (wc := [(q1, .inr (10, [.ref b1_2, .int 0, .int 0, .int (nI (((0 + n) + 6)))])), (b1_2, .inl (kC 2, w1_2, .inl g1_2))]) hD hS hA [2, 3] rfl
  refine va_callr (va_runV (As := [.ref nm]) (rest := []) ⟨hx, hb, hml, hown, hts⟩ (sk_sbS l D kC q1 b1_2 w1_2 ((0 + n) + 6) 0 g1_2 nm dnm ((1 + 1)) (lt (([99] ++ [97 + ci]))) (lt ((([] : List Nat) ++ tC L xs ci) ++ kCurve)) hw1_2.1 hw1_2.2 hf1_2 hL1_2 (by omega) H.size) ⟨am_callB (R := jr 20 800 2100000) (index := 17) 1 (jk_pay htj (am_tb_at 323 (by decide +kernel) rfl)) (hts _ (am_tb_at 323 (by decide +kernel) rfl)) rfl rfl rfl (hts _ (am_tb_at 46 (by decide +kernel) rfl)) (hts _ (am_tb_at 320 (by decide +kernel) rfl)) ⟨by decide, by decide, by decide +kernel⟩ ⟨(by show 13 + 1 ≤ 20; decide), (by show 8 + (2 + 11) + 48 * 13 ≤ 48 * 20; decide)⟩, (hts _ (am_tb_at 321 (by decide +kernel) rfl)), (hts _ (am_tb_at 322 (by decide +kernel) rfl))⟩ (ws_V (Stb_and Stb_G (Stb_S nm dnm ((1 + 1)) (lt (([99] ++ [97 + ci]))))) (va_recv (q := (RJ4, TJ4, 4)) (q0 := 2) hK hP rfl rfl) hPc hK hDc (fun U hU hW => ⟨ws_E Stb_G hE.1.1 hS hU hW hFc, ws_N (Stb_S nm dnm ((1 + 1)) (lt (([99] ++ [97 + ci])))) (ro_S hts hK hP 4 5 rfl rfl hLnm hfnm (ws_out hP hD [2, 3] rfl (k := 4) rfl (by decide)) (ws_out hP hD [2, 3] rfl (k := 5) rfl (by decide))) hU hW⟩)) rfl rfl hl.1 rfl (lv_room (Nat.le_of_ble_eq_true rfl)) dk_L_text_72 ⟨(room_ok hc1 rfl), (room_ok hc2 rfl)⟩) hS (fun q _ h => hFc q h) hFc (fun u ra t H1 locs hte hvm hz hB hsz hkp hS => ?_)
  obtain ⟨b1_3, w1_3, g1_3⟩ := u
  obtain ⟨hra, hP1, hD1⟩ := hB
  rw [hte] at hP1
  obtain ⟨hP, hD⟩ := va_join (wr := [(a, .inr (9, [.ref d, .int 0, .int 0, .int 0])), (d, .inl (kC 2, n, .inl g)), (nm, .inr (9, [.ref dnm, .int 0, .int 0, .int 0])), (dnm, .inl (kC 2, (1 + 1), .inl gnm))]) (w1 := [(q1, .inr (10, [.ref b1_3, .int 0, .int 0, .int (nI ((((0 + n) + 6) + ((1 + 1)))))])), (b1_3, .inl (kC 2, w1_3, .inl g1_3))]) hP hD [2, 3] [0, 1, 4, 5] rfl rfl (by decide) (by decide) hkp hFc hP1 hD1
  generalize H1 = H at hP hS ⊢
  have hP : va_P D vwCl [(a, .inr (9, [.ref d, .int 0, .int 0, .int 0])), (d, .inl (kC 2, n, .inl g)), (nm, .inr (9, [.ref dnm, .int 0, .int 0, .int 0])), (dnm, .inl (kC 2, (1 + 1), .inl gnm)), (q1, .inr (10, [.ref b1_3, .int 0, .int 0, .int (nI ((((0 + n) + 6) + ((1 + 1)))))])), (b1_3, .inl (kC 2, w1_3, .inl g1_3))] H := hP
  have hD : va_D A [(a, .inr (9, [.ref d, .int 0, .int 0, .int 0])), (d, .inl (kC 2, n, .inl g)), (nm, .inr (9, [.ref dnm, .int 0, .int 0, .int 0])), (dnm, .inl (kC 2, (1 + 1), .inl gnm)), (q1, .inr (10, [.ref b1_3, .int 0, .int 0, .int (nI ((((0 + n) + 6) + ((1 + 1)))))])), (b1_3, .inl (kC 2, w1_3, .inl g1_3))] := hD
  refine W.widen (k := cells + 15) (n := slots + 40104) (Nat.le_of_eq (Nat.add_assoc _ _ _)) (Nat.le_of_eq (Nat.add_assoc _ _ _)) ?_
  dsimp only at hz
  obtain ⟨hw1_3, hf1_3, hL0⟩ := hz
  have hy1_3 : (([99] ++ [97 + ci]) : List Nat).length = (1 + 1) := hnnm
  have hL1_3 := ll_cat hn1_2 hy1_3 hL0
  have hn1_3 := ll_len hn1_2 hy1_3
  rw [hra]
  have hP := hP.sub (ws' := [(a, .inr (9, [.ref d, .int 0, .int 0, .int 0])), (d, .inl (kC 2, n, .inl g)), (q1, .inr (10, [.ref b1_3, .int 0, .int 0, .int (nI ((((0 + n) + 6) + ((1 + 1)))))])), (b1_3, .inl (kC 2, w1_3, .inl g1_3))]) [0, 1, 4, 5] rfl
  have hD := hD.sub (ws' := [(a, .inr (9, [.ref d, .int 0, .int 0, .int 0])), (d, .inl (kC 2, n, .inl g)), (q1, .inr (10, [.ref b1_3, .int 0, .int 0, .int (nI ((((0 + n) + 6) + ((1 + 1)))))])), (b1_3, .inl (kC 2, w1_3, .inl g1_3))]) [0, 1, 4, 5] (by decide) rfl
  have hPc : va_P D vwCl [] H := ws_nP
  have hDc : va_D A [] := ws_nD
  have hFc : ∀ q, va_A [] H.size q → A q := fun q h => hA q (Nat.le_trans hS.1 (ws_nA h))
  refine va_callr (va_runV (As := []) (rest := []) ⟨hx, hb, hml, hown, hts⟩ (sk_toS l D kC q1 b1_3 w1_3 ((((0 + n) + 6) + ((1 + 1)))) g1_3 (lt (((([] : List Nat) ++ tC L xs ci) ++ kCurve) ++ ([99] ++ [97 + ci]))) hw1_3.1 (by omega) hf1_3 hL1_3 H.size) ⟨am_callB (R := jr 20 800 2100000) (index := 23) 0 (jk_pay htj (am_tb_at 476 (by decide +kernel) rfl)) (hts _ (am_tb_at 476 (by decide +kernel) rfl)) rfl rfl rfl (hts _ (am_tb_at 46 (by decide +kernel) rfl)) (hts _ (am_tb_at 473 (by decide +kernel) rfl)) ⟨by decide, by decide, by decide +kernel⟩ ⟨(by show 10 + 1 ≤ 20; decide), (by show 8 + (1 + 11) + 48 * 10 ≤ 48 * 20; decide)⟩, (hts _ (am_tb_at 474 (by decide +kernel) rfl)), (hts _ (am_tb_at 475 (by decide +kernel) rfl))⟩ (ws_V (Stb_and Stb_G (Stb_B kC q1 b1_3 w1_3 ((((0 + n) + 6) + ((1 + 1)))) g1_3)) (va_recv (q := (RJ4, TJ4, 4)) (q0 := 2) hK hP rfl rfl) hPc hK hDc (fun U hU hW => ⟨ws_E Stb_G hE.1.1 hS hU hW hFc, ws_N (Stb_B kC q1 b1_3 w1_3 ((((0 + n) + 6) + ((1 + 1)))) g1_3) (ro_B hts hK hP 2 3 rfl rfl (ws_n0 hP 2 rfl) (ws_n0 hP 3 rfl)) hU hW⟩)) rfl rfl hl.1 rfl (lv_room (Nat.le_of_ble_eq_true rfl)) dk_L_text_75 ⟨(room_ok hc1 rfl), (room_ok hc2 rfl)⟩) hS (fun q _ h => hFc q h) hFc (fun u s1 t H1 locs hte hvm hz hB hsz hkp hS => ?_)
  obtain ⟨ds1, gs1⟩ := u
  obtain ⟨hP1, hD1⟩ := hB
  rw [hte] at hP1
  obtain ⟨hP, hD⟩ := va_join (wr := [(a, .inr (9, [.ref d, .int 0, .int 0, .int 0])), (d, .inl (kC 2, n, .inl g)), (q1, .inr (10, [.ref b1_3, .int 0, .int 0, .int (nI ((((0 + n) + 6) + ((1 + 1)))))])), (b1_3, .inl (kC 2, w1_3, .inl g1_3))]) (w1 := [(s1, .inr (9, [.ref ds1, .int 0, .int 0, .int 0])), (ds1, .inl (kC 2, (((0 + n) + 6) + ((1 + 1))), .inl gs1))]) hP hD [] [0, 1, 2, 3] rfl rfl (by decide) (by decide) hkp hFc hP1 hD1
  generalize H1 = H at hP hS ⊢
  have hP : va_P D vwCl [(a, .inr (9, [.ref d, .int 0, .int 0, .int 0])), (d, .inl (kC 2, n, .inl g)), (q1, .inr (10, [.ref b1_3, .int 0, .int 0, .int (nI ((((0 + n) + 6) + ((1 + 1)))))])), (b1_3, .inl (kC 2, w1_3, .inl g1_3)), (s1, .inr (9, [.ref ds1, .int 0, .int 0, .int 0])), (ds1, .inl (kC 2, (((0 + n) + 6) + ((1 + 1))), .inl gs1))] H := hP
  have hD : va_D A [(a, .inr (9, [.ref d, .int 0, .int 0, .int 0])), (d, .inl (kC 2, n, .inl g)), (q1, .inr (10, [.ref b1_3, .int 0, .int 0, .int (nI ((((0 + n) + 6) + ((1 + 1)))))])), (b1_3, .inl (kC 2, w1_3, .inl g1_3)), (s1, .inr (9, [.ref ds1, .int 0, .int 0, .int 0])), (ds1, .inl (kC 2, (((0 + n) + 6) + ((1 + 1))), .inl gs1))] := hD
  refine W.widen (k := cells + 17) (n := slots + 44114) (Nat.le_of_eq (Nat.add_assoc _ _ _)) (Nat.le_of_eq (Nat.add_assoc _ _ _)) ?_
  dsimp only at hz
  obtain ⟨hfs1, hLs1⟩ := hz
  have hP := hP.sub (ws' := [(a, .inr (9, [.ref d, .int 0, .int 0, .int 0])), (d, .inl (kC 2, n, .inl g)), (s1, .inr (9, [.ref ds1, .int 0, .int 0, .int 0])), (ds1, .inl (kC 2, (((0 + n) + 6) + ((1 + 1))), .inl gs1))]) [0, 1, 4, 5] rfl
  have hD := hD.sub (ws' := [(a, .inr (9, [.ref d, .int 0, .int 0, .int 0])), (d, .inl (kC 2, n, .inl g)), (s1, .inr (9, [.ref ds1, .int 0, .int 0, .int 0])), (ds1, .inl (kC 2, (((0 + n) + 6) + ((1 + 1))), .inl gs1))]) [0, 1, 4, 5] (by decide) rfl
  have hP := hP.sub (ws' := [(s1, .inr (9, [.ref ds1, .int 0, .int 0, .int 0])), (ds1, .inl (kC 2, (((0 + n) + 6) + ((1 + 1))), .inl gs1))]) [2, 3] rfl
  have hD := hD.sub (ws' := [(s1, .inr (9, [.ref ds1, .int 0, .int 0, .int 0])), (ds1, .inl (kC 2, (((0 + n) + 6) + ((1 + 1))), .inl gs1))]) [2, 3] (by decide) rfl
  refine lv_astore_n (lv' := [(1, .ref s1), (2, .int (nI ci)), (0, .ref bs)]) hx hb dk_L_text_78 rfl hl (by decide) rfl (fun ls hl => ?_)
  refine lv_iconst (v := 0) hx hb dk_L_text_79 (by decide) ?_
  refine lv_istore_n (lv' := [(3, .int 0), (1, .ref s1), (2, .int (nI ci)), (0, .ref bs)]) hx hb dk_L_text_80 rfl hl (by decide) rfl (fun ls hl => ?_)
  have hl : lv_has ls 5 [(1, .ref s1), (2, .int (nI ci)), (3, .int (nI 0)), (0, .ref bs)] := lv_sub hl [1, 2, 0, 3] rfl
  have hT : (((([] : List Nat) ++ tC L xs ci) ++ kCurve) ++ ([99] ++ [97 + ci])) = tK L xs ci 0 := by simp [txH, txPs]
  rw [hT] at hLs1 hn1_3
  exact hk _ _ _ _ _ _ _ _ _ hl hP hD hS hfs1 hLs1 hn1_3 (room_end hc1 rfl) (room_end hc2 rfl)
set_option maxHeartbeats 4000000 in
set_option maxRecDepth 100000 in
theorem tx_K0 {p : Program} {l : Launch} {e : Env} {s : State} {m : MethodId} {below : List Frame} {meth : Method} {c : Code} {bs L : Nat} {xs : Nat → Int32} {D : va_G} {kC : Nat → ClassId} {A : Nat → Prop} (hEnv : txE p l e s m below meth c bs L xs D kC A) {ci ki : Nat} (hci : ci < cvN L xs) (hki : ki = ptC L xs ci) {C1 C2 : Nat} (hk : txG p l e s m below meth c bs L xs D kC A 42 (fun a => [(1, .ref a), (2, .int (nI (ci + 1))), (0, .ref bs)]) (tC L xs (ci + 1)) (C1) (C2)) : txG p l e s m below meth c bs L xs D kC A 81 (fun a => [(1, .ref a), (2, .int (nI ci)), (3, .int (nI ki)), (0, .ref bs)]) (tK L xs ci ki) (C1 + 6) (C2 + 16100) := by
  obtain ⟨hLb, hx, hb, hr, hlocks, hml, htj, hown, hK, hA, hE⟩ := hEnv
  have hts := fun w (hw : w ∈ am_tb) => htj w (jk_in hw)
  obtain ⟨⟨a1, d1, hR1, hS1⟩, ⟨a2, d2, hR2, hS2⟩, ⟨a3, d3, hR3, hS3⟩, ⟨a4, d4, hR4, hS4⟩, ⟨a5, d5, hR5, hS5⟩, ⟨a6, d6, hR6, hS6⟩, ⟨a7, d7, hR7, hS7⟩, ⟨a8, d8, hR8, hS8⟩, ⟨a9, d9, hR9, hS9⟩⟩ := id hE.2
  have bC := cvN_b (L := L) (xs := xs)
  have bL := lnN_b (L := L) (xs := xs)
  have bT := ltN_b (L := L) (xs := xs)
  have bD := dpN_b (L := L) (xs := xs)
  intro a d n g H locs ls cells slots hl hP hD hS hf hL hn hc1 hc2
  refine W.widen (k := cells + 0) (n := slots + 0) (Nat.le_refl _) (Nat.le_refl _) ?_
  have bP := ptC_b (L := L) (xs := xs) (c := ci)
  have hbn : n ≤ 297 := by rw [← hn]; exact tK_len L xs (by omega) (by omega)
  refine lv_iload_n hx hb dk_L_text_81 rfl (lv_at hl 2 rfl) ?_
  refine lv_aload_n hx hb dk_L_text_82 rfl (lv_at hl 3 rfl) ?_
  refine lv_iload_n hx hb dk_L_text_83 rfl (lv_at hl 1 rfl) ?_
  have hPc : va_P D vwCl [] H := ws_nP
  have hDc : va_D A [] := ws_nD
  have hFc : ∀ q, va_A [] H.size q → A q := fun q h => hA q (Nat.le_trans hS.1 (ws_nA h))
  refine va_calli (va_runS (As := [.ref bs, .int (nI ci)]) (rest := [.int (nI ki)]) ⟨hx, hb, hml, hown, hts⟩ (sk_points l D kC bs L xs hLb ci (by omega) H.size) ⟨am_callB (R := jr 20 800 2100000) (index := 79) 2 (jk_pay htj (am_tb_at 562 (by decide +kernel) rfl)) (hts _ (am_tb_at 562 (by decide +kernel) rfl)) rfl rfl rfl (hts _ (am_tb_at 34 (by decide +kernel) rfl)) (hts _ (am_tb_at 560 (by decide +kernel) rfl)) ⟨by decide, by decide, by decide +kernel⟩ ⟨(by show 2 + 1 ≤ 20; decide), (by show 8 + (2 + 11) + 48 * 2 ≤ 48 * 20; decide)⟩, (hts _ (am_tb_at 561 (by decide +kernel) rfl))⟩ (ws_S (Stb_and Stb_G (Stb_X bs L xs)) hPc hK hDc (fun U hU hW => ws_E (Stb_and Stb_G (Stb_X bs L xs)) hE.1 hS hU hW hFc)) rfl rfl hl.1 rfl (lv_room (Nat.le_of_ble_eq_true rfl)) dk_L_text_84 ⟨(room_ok hc1 rfl), (room_ok hc2 rfl)⟩) hS (fun q _ h => hFc q h) hFc (fun r0 u t H1 locs hte hvm hz hB hsz hkp hS => ?_)
  have hP := ws_kept hP hkp
  generalize H1 = H at hP hS ⊢
  have hP : va_P D vwCl [(a, .inr (9, [.ref d, .int 0, .int 0, .int 0])), (d, .inl (kC 2, n, .inl g))] H := hP
  have hD : va_D A [(a, .inr (9, [.ref d, .int 0, .int 0, .int 0])), (d, .inl (kC 2, n, .inl g))] := hD
  refine W.widen (k := cells + 0) (n := slots + 0) (Nat.le_of_eq (Nat.add_assoc _ _ _)) (Nat.le_of_eq (Nat.add_assoc _ _ _)) ?_
  subst hz
  refine lv_icmp_ge (tgt := 142) hx hb dk_L_text_87 rfl (fun _ => ?_) (fun q => absurd ((nI_leI (by omega) (by omega)).mpr (by omega)) q)
  refine va_new (ci := 10) (fs := [.null, .int 0, .int 0, .int 0]) (C := RJ4) (T := TJ4) (N := 4) hx hb hts qwJ4 tyJ4 tyJ4_ok hown (hts _ (am_tb_at 288 (by decide +kernel) rfl)) (hts _ (am_tb_at 289 (by decide +kernel) rfl)) (hts _ (am_tb_at 46 (by decide +kernel) rfl)) hK hP hD hS hA rfl (fun j hj => by rcases (show j = 0 ∨ j = 1 ∨ j = 2 ∨ j = 3 by omega) with rfl | rfl | rfl | rfl <;> rfl) (room_ok hc1 rfl) (room_ok hc2 rfl) dk_L_text_142 (fun q1 H hP hD hS => ?_)
  refine W.widen (k := cells + 1) (n := slots + 4) (Nat.le_of_eq (Nat.add_assoc _ _ _)) (Nat.le_of_eq (Nat.add_assoc _ _ _)) ?_
  have hP : va_P D vwCl [(a, .inr (9, [.ref d, .int 0, .int 0, .int 0])), (d, .inl (kC 2, n, .inl g)), (q1, .inr (10, [.null, .int 0, .int 0, .int 0]))] H := hP
  have hD : va_D A [(a, .inr (9, [.ref d, .int 0, .int 0, .int 0])), (d, .inl (kC 2, n, .inl g)), (q1, .inr (10, [.null, .int 0, .int 0, .int 0]))] := hD
  refine lv_dup hx hb dk_L_text_145 rfl ?_
  have hPc := hP.sub (ws' := [(q1, .inr (10, [.null, .int 0, .int 0, .int 0]))]) [2] rfl
  have hDc := hD.sub (ws' := [(q1, .inr (10, [.null, .int 0, .int 0, .int 0]))]) [2] (by decide) rfl
  have hFc := va_free (wc := [(q1, .inr (10, [.null, .int 0, .int 0, .int 0]))]) hD hS hA [2] rfl
  refine va_callv (va_runI (As := []) (rest := [.ref q1]) ⟨hx, hb, hml, hown, hts⟩ (sk_sbN l D kC q1 H.size) ⟨am_callB (R := jr 20 800 2100000) (index := 16) 0 (jk_pay htj (am_tb_at 292 (by decide +kernel) rfl)) (hts _ (am_tb_at 292 (by decide +kernel) rfl)) rfl rfl rfl (hts _ (am_tb_at 46 (by decide +kernel) rfl)) (hts _ (am_tb_at 290 (by decide +kernel) rfl)) ⟨by decide, by decide, by decide +kernel⟩ ⟨(by show 4 + 1 ≤ 20; decide), (by show 8 + (1 + 11) + 48 * 4 ≤ 48 * 20; decide)⟩, rfl, (hts _ (am_tb_at 291 (by decide +kernel) rfl))⟩ (ws_S Stb_G hPc hK hDc (fun U hU hW => ws_E Stb_G hE.1.1 hS hU hW hFc)) rfl rfl hl.1 rfl (lv_room (Nat.le_of_ble_eq_true rfl)) dk_L_text_146 ⟨(room_ok hc1 rfl), (room_ok hc2 rfl)⟩) hS (fun q _ h => hFc q h) hFc (fun b1_0 t H1 locs hte hvm hz hB hsz hkp hS => ?_)
  obtain ⟨hP1, hD1⟩ := hB
  rw [hte] at hP1
  obtain ⟨hP, hD⟩ := va_join (wr := [(a, .inr (9, [.ref d, .int 0, .int 0, .int 0])), (d, .inl (kC 2, n, .inl g))]) (w1 := [(q1, .inr (10, [.ref b1_0, .int 0, .int 0, .int (nI 0)])), (b1_0, .inl (kC 2, 16, .inl (fun _ => 0)))]) hP hD [2] [0, 1] rfl rfl (by decide) (by decide) hkp hFc hP1 hD1
  generalize H1 = H at hP hS ⊢
  have hP : va_P D vwCl [(a, .inr (9, [.ref d, .int 0, .int 0, .int 0])), (d, .inl (kC 2, n, .inl g)), (q1, .inr (10, [.ref b1_0, .int 0, .int 0, .int (nI 0)])), (b1_0, .inl (kC 2, 16, .inl (fun _ => 0)))] H := hP
  have hD : va_D A [(a, .inr (9, [.ref d, .int 0, .int 0, .int 0])), (d, .inl (kC 2, n, .inl g)), (q1, .inr (10, [.ref b1_0, .int 0, .int 0, .int (nI 0)])), (b1_0, .inl (kC 2, 16, .inl (fun _ => 0)))] := hD
  refine W.widen (k := cells + 2) (n := slots + 4004) (Nat.le_of_eq (Nat.add_assoc _ _ _)) (Nat.le_of_eq (Nat.add_assoc _ _ _)) ?_
  have hw1_0 : 0 ≤ 16 ∧ 16 ≤ 1700 := ⟨by decide, by decide⟩
  have hf1_0 : sb_Fit (fun _ => 0) := sb_fit0
  have hL1_0 : sb_Lat (lt []) 0 (fun _ => 0) := fun j h => absurd h (Nat.not_lt_zero _)
  have hn1_0 : ([] : List Nat).length = 0 := rfl
  refine lv_aload_n hx hb dk_L_text_149 rfl (lv_at hl 0 rfl) ?_
  have hPc := hP.sub (ws' := [(q1, .inr (10, [.ref b1_0, .int 0, .int 0, .int (nI 0)])), (b1_0, .inl (kC 2, 16, .inl (fun _ => 0)))]) [2, 3] rfl
  have hDc := hD.sub (ws' := [(q1, .inr (10, [.ref b1_0, .int 0, .int 0, .int (nI 0)])), (b1_0, .inl (kC 2, 16, .inl (fun _ => 0)))]) [2, 3] (by decide) rfl
  have hFc := va_free (wc := [(q1, .inr (10, [.ref b1_0, .int 0, .int 0, .int (nI 0)])), (b1_0, .inl (kC 2, 16, .inl (fun _ => 0)))]) hD hS hA [2, 3] rfl
  refine va_callr (va_runV (As := [.ref a]) (rest := []) ⟨hx, hb, hml, hown, hts⟩ (sk_sbS l D kC q1 b1_0 16 0 0 (fun _ => 0) a d n (lt (tK L xs ci ki)) (lt ([] : List Nat)) hw1_0.1 hw1_0.2 hf1_0 hL1_0 (by omega) H.size) ⟨am_callB (R := jr 20 800 2100000) (index := 17) 1 (jk_pay htj (am_tb_at 323 (by decide +kernel) rfl)) (hts _ (am_tb_at 323 (by decide +kernel) rfl)) rfl rfl rfl (hts _ (am_tb_at 46 (by decide +kernel) rfl)) (hts _ (am_tb_at 320 (by decide +kernel) rfl)) ⟨by decide, by decide, by decide +kernel⟩ ⟨(by show 13 + 1 ≤ 20; decide), (by show 8 + (2 + 11) + 48 * 13 ≤ 48 * 20; decide)⟩, (hts _ (am_tb_at 321 (by decide +kernel) rfl)), (hts _ (am_tb_at 322 (by decide +kernel) rfl))⟩ (ws_V (Stb_and Stb_G (Stb_S a d n (lt (tK L xs ci ki)))) (va_recv (q := (RJ4, TJ4, 4)) (q0 := 2) hK hP rfl rfl) hPc hK hDc (fun U hU hW => ⟨ws_E Stb_G hE.1.1 hS hU hW hFc, ws_N (Stb_S a d n (lt (tK L xs ci ki))) (ro_S hts hK hP 0 1 rfl rfl hL hf (ws_out hP hD [2, 3] rfl (k := 0) rfl (by decide)) (ws_out hP hD [2, 3] rfl (k := 1) rfl (by decide))) hU hW⟩)) rfl rfl hl.1 rfl (lv_room (Nat.le_of_ble_eq_true rfl)) dk_L_text_150 ⟨(room_ok hc1 rfl), (room_ok hc2 rfl)⟩) hS (fun q _ h => hFc q h) hFc (fun u ra t H1 locs hte hvm hz hB hsz hkp hS => ?_)
  obtain ⟨b1_1, w1_1, g1_1⟩ := u
  obtain ⟨hra, hP1, hD1⟩ := hB
  rw [hte] at hP1
  obtain ⟨hP, hD⟩ := va_join (wr := [(a, .inr (9, [.ref d, .int 0, .int 0, .int 0])), (d, .inl (kC 2, n, .inl g))]) (w1 := [(q1, .inr (10, [.ref b1_1, .int 0, .int 0, .int (nI ((0 + n)))])), (b1_1, .inl (kC 2, w1_1, .inl g1_1))]) hP hD [2, 3] [0, 1] rfl rfl (by decide) (by decide) hkp hFc hP1 hD1
  generalize H1 = H at hP hS ⊢
  have hP : va_P D vwCl [(a, .inr (9, [.ref d, .int 0, .int 0, .int 0])), (d, .inl (kC 2, n, .inl g)), (q1, .inr (10, [.ref b1_1, .int 0, .int 0, .int (nI ((0 + n)))])), (b1_1, .inl (kC 2, w1_1, .inl g1_1))] H := hP
  have hD : va_D A [(a, .inr (9, [.ref d, .int 0, .int 0, .int 0])), (d, .inl (kC 2, n, .inl g)), (q1, .inr (10, [.ref b1_1, .int 0, .int 0, .int (nI ((0 + n)))])), (b1_1, .inl (kC 2, w1_1, .inl g1_1))] := hD
  refine W.widen (k := cells + 3) (n := slots + 8004) (Nat.le_of_eq (Nat.add_assoc _ _ _)) (Nat.le_of_eq (Nat.add_assoc _ _ _)) ?_
  dsimp only at hz
  obtain ⟨hw1_1, hf1_1, hL0⟩ := hz
  have hy1_1 : (tK L xs ci ki : List Nat).length = n := hn
  have hL1_1 := ll_cat hn1_0 hy1_1 hL0
  have hn1_1 := ll_len hn1_0 hy1_1
  rw [hra]
  refine va_ldcS hx hb hown hR3 dk_L_text_153 ?_
  have hPc := hP.sub (ws' := [(q1, .inr (10, [.ref b1_1, .int 0, .int 0, .int (nI ((0 + n)))])), (b1_1, .inl (kC 2, w1_1, .inl g1_1))]) [2, 3] rfl
  have hDc := hD.sub (ws' := [(q1, .inr (10, [.ref b1_1, .int 0, .int 0, .int (nI ((0 + n)))])), (b1_1, .inl (kC 2, w1_1, .inl g1_1))]) [2, 3] (by decide) rfl
  have hFc := va_free (wc := [(q1, .inr (10, [.ref b1_1, .int 0, .int 0, .int (nI ((0 + n)))])), (b1_1, .inl (kC 2, w1_1, .inl g1_1))]) hD hS hA [2, 3] rfl
  refine va_callr (va_runV (As := [.ref a3]) (rest := []) ⟨hx, hb, hml, hown, hts⟩ (sk_sbS l D kC q1 b1_1 w1_1 (0 + n) 0 g1_1 a3 d3 1 (lt ([59])) (lt (([] : List Nat) ++ tK L xs ci ki)) hw1_1.1 hw1_1.2 hf1_1 hL1_1 (by omega) H.size) ⟨am_callB (R := jr 20 800 2100000) (index := 17) 1 (jk_pay htj (am_tb_at 323 (by decide +kernel) rfl)) (hts _ (am_tb_at 323 (by decide +kernel) rfl)) rfl rfl rfl (hts _ (am_tb_at 46 (by decide +kernel) rfl)) (hts _ (am_tb_at 320 (by decide +kernel) rfl)) ⟨by decide, by decide, by decide +kernel⟩ ⟨(by show 13 + 1 ≤ 20; decide), (by show 8 + (2 + 11) + 48 * 13 ≤ 48 * 20; decide)⟩, (hts _ (am_tb_at 321 (by decide +kernel) rfl)), (hts _ (am_tb_at 322 (by decide +kernel) rfl))⟩ (ws_V (Stb_and Stb_G (Stb_S a3 d3 1 (lt ([59])))) (va_recv (q := (RJ4, TJ4, 4)) (q0 := 2) hK hP rfl rfl) hPc hK hDc (fun U hU hW => ⟨ws_E Stb_G hE.1.1 hS hU hW hFc, ws_E (Stb_S a3 d3 1 (lt [59])) hS3 hS hU hW hFc⟩)) rfl rfl hl.1 rfl (lv_room (Nat.le_of_ble_eq_true rfl)) dk_L_text_155 ⟨(room_ok hc1 rfl), (room_ok hc2 rfl)⟩) hS (fun q _ h => hFc q h) hFc (fun u ra t H1 locs hte hvm hz hB hsz hkp hS => ?_)
  obtain ⟨b1_2, w1_2, g1_2⟩ := u
  obtain ⟨hra, hP1, hD1⟩ := hB
  rw [hte] at hP1
  obtain ⟨hP, hD⟩ := va_join (wr := [(a, .inr (9, [.ref d, .int 0, .int 0, .int 0])), (d, .inl (kC 2, n, .inl g))]) (w1 := [(q1, .inr (10, [.ref b1_2, .int 0, .int 0, .int (nI (((0 + n) + 1)))])), (b1_2, .inl (kC 2, w1_2, .inl g1_2))]) hP hD [2, 3] [0, 1] rfl rfl (by decide) (by decide) hkp hFc hP1 hD1
  generalize H1 = H at hP hS ⊢
  have hP : va_P D vwCl [(a, .inr (9, [.ref d, .int 0, .int 0, .int 0])), (d, .inl (kC 2, n, .inl g)), (q1, .inr (10, [.ref b1_2, .int 0, .int 0, .int (nI (((0 + n) + 1)))])), (b1_2, .inl (kC 2, w1_2, .inl g1_2))] H := hP
  have hD : va_D A [(a, .inr (9, [.ref d, .int 0, .int 0, .int 0])), (d, .inl (kC 2, n, .inl g)), (q1, .inr (10, [.ref b1_2, .int 0, .int 0, .int (nI (((0 + n) + 1)))])), (b1_2, .inl (kC 2, w1_2, .inl g1_2))] := hD
  refine W.widen (k := cells + 4) (n := slots + 12004) (Nat.le_of_eq (Nat.add_assoc _ _ _)) (Nat.le_of_eq (Nat.add_assoc _ _ _)) ?_
  dsimp only at hz
  obtain ⟨hw1_2, hf1_2, hL0⟩ := hz
  have hy1_2 : ([59] : List Nat).length = 1 := rfl
  have hL1_2 := ll_cat hn1_1 hy1_2 hL0
  have hn1_2 := ll_len hn1_1 hy1_2
  rw [hra]
  have hPc : va_P D vwCl [] H := ws_nP
  have hDc : va_D A [] := ws_nD
  have hFc : ∀ q, va_A [] H.size q → A q := fun q h => hA q (Nat.le_trans hS.1 (ws_nA h))
  refine va_callr (va_runV (As := []) (rest := []) ⟨hx, hb, hml, hown, hts⟩ (sk_toS l D kC q1 b1_2 w1_2 (((0 + n) + 1)) g1_2 (lt ((([] : List Nat) ++ tK L xs ci ki) ++ [59])) hw1_2.1 (by omega) hf1_2 hL1_2 H.size) ⟨am_callB (R := jr 20 800 2100000) (index := 23) 0 (jk_pay htj (am_tb_at 476 (by decide +kernel) rfl)) (hts _ (am_tb_at 476 (by decide +kernel) rfl)) rfl rfl rfl (hts _ (am_tb_at 46 (by decide +kernel) rfl)) (hts _ (am_tb_at 473 (by decide +kernel) rfl)) ⟨by decide, by decide, by decide +kernel⟩ ⟨(by show 10 + 1 ≤ 20; decide), (by show 8 + (1 + 11) + 48 * 10 ≤ 48 * 20; decide)⟩, (hts _ (am_tb_at 474 (by decide +kernel) rfl)), (hts _ (am_tb_at 475 (by decide +kernel) rfl))⟩ (ws_V (Stb_and Stb_G (Stb_B kC q1 b1_2 w1_2 (((0 + n) + 1)) g1_2)) (va_recv (q := (RJ4, TJ4, 4)) (q0 := 2) hK hP rfl rfl) hPc hK hDc (fun U hU hW => ⟨ws_E Stb_G hE.1.1 hS hU hW hFc, ws_N (Stb_B kC q1 b1_2 w1_2 (((0 + n) + 1)) g1_2) (ro_B hts hK hP 2 3 rfl rfl (ws_n0 hP 2 rfl) (ws_n0 hP 3 rfl)) hU hW⟩)) rfl rfl hl.1 rfl (lv_room (Nat.le_of_ble_eq_true rfl)) dk_L_text_158 ⟨(room_ok hc1 rfl), (room_ok hc2 rfl)⟩) hS (fun q _ h => hFc q h) hFc (fun u s1 t H1 locs hte hvm hz hB hsz hkp hS => ?_)
  obtain ⟨ds1, gs1⟩ := u
  obtain ⟨hP1, hD1⟩ := hB
  rw [hte] at hP1
  obtain ⟨hP, hD⟩ := va_join (wr := [(a, .inr (9, [.ref d, .int 0, .int 0, .int 0])), (d, .inl (kC 2, n, .inl g)), (q1, .inr (10, [.ref b1_2, .int 0, .int 0, .int (nI (((0 + n) + 1)))])), (b1_2, .inl (kC 2, w1_2, .inl g1_2))]) (w1 := [(s1, .inr (9, [.ref ds1, .int 0, .int 0, .int 0])), (ds1, .inl (kC 2, ((0 + n) + 1), .inl gs1))]) hP hD [] [0, 1, 2, 3] rfl rfl (by decide) (by decide) hkp hFc hP1 hD1
  generalize H1 = H at hP hS ⊢
  have hP : va_P D vwCl [(a, .inr (9, [.ref d, .int 0, .int 0, .int 0])), (d, .inl (kC 2, n, .inl g)), (q1, .inr (10, [.ref b1_2, .int 0, .int 0, .int (nI (((0 + n) + 1)))])), (b1_2, .inl (kC 2, w1_2, .inl g1_2)), (s1, .inr (9, [.ref ds1, .int 0, .int 0, .int 0])), (ds1, .inl (kC 2, ((0 + n) + 1), .inl gs1))] H := hP
  have hD : va_D A [(a, .inr (9, [.ref d, .int 0, .int 0, .int 0])), (d, .inl (kC 2, n, .inl g)), (q1, .inr (10, [.ref b1_2, .int 0, .int 0, .int (nI (((0 + n) + 1)))])), (b1_2, .inl (kC 2, w1_2, .inl g1_2)), (s1, .inr (9, [.ref ds1, .int 0, .int 0, .int 0])), (ds1, .inl (kC 2, ((0 + n) + 1), .inl gs1))] := hD
  refine W.widen (k := cells + 6) (n := slots + 16014) (Nat.le_of_eq (Nat.add_assoc _ _ _)) (Nat.le_of_eq (Nat.add_assoc _ _ _)) ?_
  dsimp only at hz
  obtain ⟨hfs1, hLs1⟩ := hz
  have hP := hP.sub (ws' := [(a, .inr (9, [.ref d, .int 0, .int 0, .int 0])), (d, .inl (kC 2, n, .inl g)), (s1, .inr (9, [.ref ds1, .int 0, .int 0, .int 0])), (ds1, .inl (kC 2, ((0 + n) + 1), .inl gs1))]) [0, 1, 4, 5] rfl
  have hD := hD.sub (ws' := [(a, .inr (9, [.ref d, .int 0, .int 0, .int 0])), (d, .inl (kC 2, n, .inl g)), (s1, .inr (9, [.ref ds1, .int 0, .int 0, .int 0])), (ds1, .inl (kC 2, ((0 + n) + 1), .inl gs1))]) [0, 1, 4, 5] (by decide) rfl
  have hP := hP.sub (ws' := [(s1, .inr (9, [.ref ds1, .int 0, .int 0, .int 0])), (ds1, .inl (kC 2, ((0 + n) + 1), .inl gs1))]) [2, 3] rfl
  have hD := hD.sub (ws' := [(s1, .inr (9, [.ref ds1, .int 0, .int 0, .int 0])), (ds1, .inl (kC 2, ((0 + n) + 1), .inl gs1))]) [2, 3] (by decide) rfl
  refine lv_astore_n (lv' := [(1, .ref s1), (2, .int (nI ci)), (3, .int (nI ki)), (0, .ref bs)]) hx hb dk_L_text_161 rfl hl (by decide) rfl (fun ls hl => ?_)
  refine lv_iinc (k := 1) (v := nI (ci + 1)) (lv' := [(2, .int (nI (ci + 1))), (1, .ref s1), (3, .int (nI ki)), (0, .ref bs)]) hx hb dk_L_text_162 hl rfl (nI_1 ci) (by decide) rfl (fun ls hl => ?_)
  refine lv_goto (tgt := 42) hx hb dk_L_text_165 rfl ?_
  have hl : lv_has ls 5 [(1, .ref s1), (2, .int (nI (ci + 1))), (0, .ref bs)] := lv_sub hl [1, 0, 3] rfl
  have hT : ((([] : List Nat) ++ tK L xs ci ki) ++ [59]) = tC L xs (ci + 1) := by rw [← tC_s, ← hki]; simp
  rw [hT] at hLs1 hn1_2
  exact hk _ _ _ _ _ _ _ _ _ hl hP hD hS hfs1 hLs1 hn1_2 (room_end hc1 rfl) (room_end hc2 rfl)
set_option maxHeartbeats 4000000 in
set_option maxRecDepth 100000 in
theorem tx_K1 {p : Program} {l : Launch} {e : Env} {s : State} {m : MethodId} {below : List Frame} {meth : Method} {c : Code} {bs L : Nat} {xs : Nat → Int32} {D : va_G} {kC : Nat → ClassId} {A : Nat → Prop} (hEnv : txE p l e s m below meth c bs L xs D kC A) {ci ki : Nat} (hci : ci < cvN L xs) (hki : ki < ptC L xs ci) {C1 C2 : Nat} (hk : txG p l e s m below meth c bs L xs D kC A 93 (fun a => [(1, .ref a), (2, .int (nI ci)), (3, .int (nI ki)), (4, .int (nI 0)), (0, .ref bs)]) (tW L xs ci ki 0) (C1) (C2)) : txG p l e s m below meth c bs L xs D kC A 81 (fun a => [(1, .ref a), (2, .int (nI ci)), (3, .int (nI ki)), (0, .ref bs)]) (tK L xs ci ki) (C1 + 0) (C2 + 0) := by
  obtain ⟨hLb, hx, hb, hr, hlocks, hml, htj, hown, hK, hA, hE⟩ := hEnv
  have hts := fun w (hw : w ∈ am_tb) => htj w (jk_in hw)
  obtain ⟨⟨a1, d1, hR1, hS1⟩, ⟨a2, d2, hR2, hS2⟩, ⟨a3, d3, hR3, hS3⟩, ⟨a4, d4, hR4, hS4⟩, ⟨a5, d5, hR5, hS5⟩, ⟨a6, d6, hR6, hS6⟩, ⟨a7, d7, hR7, hS7⟩, ⟨a8, d8, hR8, hS8⟩, ⟨a9, d9, hR9, hS9⟩⟩ := id hE.2
  have bC := cvN_b (L := L) (xs := xs)
  have bL := lnN_b (L := L) (xs := xs)
  have bT := ltN_b (L := L) (xs := xs)
  have bD := dpN_b (L := L) (xs := xs)
  intro a d n g H locs ls cells slots hl hP hD hS hf hL hn hc1 hc2
  refine W.widen (k := cells + 0) (n := slots + 0) (Nat.le_refl _) (Nat.le_refl _) ?_
  have bP := ptC_b (L := L) (xs := xs) (c := ci)
  refine lv_iload_n hx hb dk_L_text_81 rfl (lv_at hl 2 rfl) ?_
  refine lv_aload_n hx hb dk_L_text_82 rfl (lv_at hl 3 rfl) ?_
  refine lv_iload_n hx hb dk_L_text_83 rfl (lv_at hl 1 rfl) ?_
  have hPc : va_P D vwCl [] H := ws_nP
  have hDc : va_D A [] := ws_nD
  have hFc : ∀ q, va_A [] H.size q → A q := fun q h => hA q (Nat.le_trans hS.1 (ws_nA h))
  refine va_calli (va_runS (As := [.ref bs, .int (nI ci)]) (rest := [.int (nI ki)]) ⟨hx, hb, hml, hown, hts⟩ (sk_points l D kC bs L xs hLb ci (by omega) H.size) ⟨am_callB (R := jr 20 800 2100000) (index := 79) 2 (jk_pay htj (am_tb_at 562 (by decide +kernel) rfl)) (hts _ (am_tb_at 562 (by decide +kernel) rfl)) rfl rfl rfl (hts _ (am_tb_at 34 (by decide +kernel) rfl)) (hts _ (am_tb_at 560 (by decide +kernel) rfl)) ⟨by decide, by decide, by decide +kernel⟩ ⟨(by show 2 + 1 ≤ 20; decide), (by show 8 + (2 + 11) + 48 * 2 ≤ 48 * 20; decide)⟩, (hts _ (am_tb_at 561 (by decide +kernel) rfl))⟩ (ws_S (Stb_and Stb_G (Stb_X bs L xs)) hPc hK hDc (fun U hU hW => ws_E (Stb_and Stb_G (Stb_X bs L xs)) hE.1 hS hU hW hFc)) rfl rfl hl.1 rfl (lv_room (Nat.le_of_ble_eq_true rfl)) dk_L_text_84 ⟨(room_ok hc1 rfl), (room_ok hc2 rfl)⟩) hS (fun q _ h => hFc q h) hFc (fun r0 u t H1 locs hte hvm hz hB hsz hkp hS => ?_)
  have hP := ws_kept hP hkp
  generalize H1 = H at hP hS ⊢
  have hP : va_P D vwCl [(a, .inr (9, [.ref d, .int 0, .int 0, .int 0])), (d, .inl (kC 2, n, .inl g))] H := hP
  have hD : va_D A [(a, .inr (9, [.ref d, .int 0, .int 0, .int 0])), (d, .inl (kC 2, n, .inl g))] := hD
  refine W.widen (k := cells + 0) (n := slots + 0) (Nat.le_of_eq (Nat.add_assoc _ _ _)) (Nat.le_of_eq (Nat.add_assoc _ _ _)) ?_
  subst hz
  refine lv_icmp_ge (tgt := 142) hx hb dk_L_text_87 rfl (fun q => absurd q (fun z => absurd ((nI_leI (by omega) (by omega)).mp z) (by omega))) (fun _ => ?_)
  refine lv_iconst (v := 0) hx hb dk_L_text_90 (by decide) ?_
  refine lv_istore (lv' := [(4, .int 0), (1, .ref a), (2, .int (nI ci)), (3, .int (nI ki)), (0, .ref bs)]) hx hb dk_L_text_91 hl (by decide) rfl (fun ls hl => ?_)
  have hT : tW L xs ci ki 0 = tK L xs ci ki := List.append_nil _
  rw [← hT] at hL hn
  have hl : lv_has ls 5 [(1, .ref a), (2, .int (nI ci)), (3, .int (nI ki)), (4, .int (nI 0)), (0, .ref bs)] := lv_sub hl [1, 2, 3, 0, 4] rfl
  exact hk _ _ _ _ _ _ _ _ _ hl hP hD hS hf hL hn (room_end hc1 rfl) (room_end hc2 rfl)
set_option maxHeartbeats 4000000 in
set_option maxRecDepth 100000 in
theorem tx_W0 {p : Program} {l : Launch} {e : Env} {s : State} {m : MethodId} {below : List Frame} {meth : Method} {c : Code} {bs L : Nat} {xs : Nat → Int32} {D : va_G} {kC : Nat → ClassId} {A : Nat → Prop} (hEnv : txE p l e s m below meth c bs L xs D kC A) {ci ki : Nat} (hki : ki ≤ 10) {C1 C2 : Nat} (hk : txG p l e s m below meth c bs L xs D kC A 81 (fun a => [(1, .ref a), (2, .int (nI ci)), (3, .int (nI (ki + 1))), (0, .ref bs)]) (tK L xs ci (ki + 1)) (C1) (C2)) : txG p l e s m below meth c bs L xs D kC A 93 (fun a => [(1, .ref a), (2, .int (nI ci)), (3, .int (nI ki)), (4, .int (nI 3)), (0, .ref bs)]) (tW L xs ci ki 3) (C1 + 0) (C2 + 0) := by
  obtain ⟨hLb, hx, hb, hr, hlocks, hml, htj, hown, hK, hA, hE⟩ := hEnv
  have hts := fun w (hw : w ∈ am_tb) => htj w (jk_in hw)
  obtain ⟨⟨a1, d1, hR1, hS1⟩, ⟨a2, d2, hR2, hS2⟩, ⟨a3, d3, hR3, hS3⟩, ⟨a4, d4, hR4, hS4⟩, ⟨a5, d5, hR5, hS5⟩, ⟨a6, d6, hR6, hS6⟩, ⟨a7, d7, hR7, hS7⟩, ⟨a8, d8, hR8, hS8⟩, ⟨a9, d9, hR9, hS9⟩⟩ := id hE.2
  have bC := cvN_b (L := L) (xs := xs)
  have bL := lnN_b (L := L) (xs := xs)
  have bT := ltN_b (L := L) (xs := xs)
  have bD := dpN_b (L := L) (xs := xs)
  intro a d n g H locs ls cells slots hl hP hD hS hf hL hn hc1 hc2
  refine W.widen (k := cells + 0) (n := slots + 0) (Nat.le_refl _) (Nat.le_refl _) ?_
  refine lv_iload hx hb dk_L_text_93 (lv_at hl 3 rfl) ?_
  refine lv_iconst (v := 3) hx hb dk_L_text_95 (by decide) ?_
  refine lv_icmp_ge (tgt := 136) hx hb dk_L_text_96 rfl (fun _ => ?_) (fun q => absurd (by decide) q)
  refine lv_iinc (k := 2) (v := nI (ki + 1)) (lv' := [(3, .int (nI (ki + 1))), (1, .ref a), (2, .int (nI ci)), (4, .int (nI 3)), (0, .ref bs)]) hx hb dk_L_text_136 hl rfl (nI_1 ki) (by decide) rfl (fun ls hl => ?_)
  refine lv_goto (tgt := 81) hx hb dk_L_text_139 rfl ?_
  rw [tK_s] at hL hn
  have hl : lv_has ls 5 [(1, .ref a), (2, .int (nI ci)), (3, .int (nI (ki + 1))), (0, .ref bs)] := lv_sub hl [1, 2, 0, 4] rfl
  exact hk _ _ _ _ _ _ _ _ _ hl hP hD hS hf hL hn (room_end hc1 rfl) (room_end hc2 rfl)
set_option maxHeartbeats 4000000 in
set_option maxRecDepth 100000 in
theorem tx_W1 {p : Program} {l : Launch} {e : Env} {s : State} {m : MethodId} {below : List Frame} {meth : Method} {c : Code} {bs L : Nat} {xs : Nat → Int32} {D : va_G} {kC : Nat → ClassId} {A : Nat → Prop} (hEnv : txE p l e s m below meth c bs L xs D kC A) {ci ki wi : Nat} (hci : ci < cvN L xs) (hki : ki < ptC L xs ci) (hwi : wi < 3) {C1 C2 : Nat} (hk : txG p l e s m below meth c bs L xs D kC A 93 (fun a => [(1, .ref a), (2, .int (nI ci)), (3, .int (nI ki)), (4, .int (nI (wi + 1))), (0, .ref bs)]) (tW L xs ci ki (wi + 1)) (C1) (C2)) : txG p l e s m below meth c bs L xs D kC A 93 (fun a => [(1, .ref a), (2, .int (nI ci)), (3, .int (nI ki)), (4, .int (nI wi)), (0, .ref bs)]) (tW L xs ci ki wi) (C1 + 7) (C2 + 20020) := by
  obtain ⟨hLb, hx, hb, hr, hlocks, hml, htj, hown, hK, hA, hE⟩ := hEnv
  have hts := fun w (hw : w ∈ am_tb) => htj w (jk_in hw)
  obtain ⟨⟨a1, d1, hR1, hS1⟩, ⟨a2, d2, hR2, hS2⟩, ⟨a3, d3, hR3, hS3⟩, ⟨a4, d4, hR4, hS4⟩, ⟨a5, d5, hR5, hS5⟩, ⟨a6, d6, hR6, hS6⟩, ⟨a7, d7, hR7, hS7⟩, ⟨a8, d8, hR8, hS8⟩, ⟨a9, d9, hR9, hS9⟩⟩ := id hE.2
  have bC := cvN_b (L := L) (xs := xs)
  have bL := lnN_b (L := L) (xs := xs)
  have bT := ltN_b (L := L) (xs := xs)
  have bD := dpN_b (L := L) (xs := xs)
  intro a d n g H locs ls cells slots hl hP hD hS hf hL hn hc1 hc2
  refine W.widen (k := cells + 0) (n := slots + 0) (Nat.le_refl _) (Nat.le_refl _) ?_
  have bP := ptC_b (L := L) (xs := xs) (c := ci)
  have hbn : n ≤ 306 := by rw [← hn]; exact tW_len L xs (by omega) (by omega) (by omega)
  have bN := (ptN_b (L := L) (xs := xs) (c := ci) (k := ki) (w := wi)).1
  have bS := (sb_dg_b (v := ptN L xs ci ki wi) (by omega)).1
  refine lv_iload hx hb dk_L_text_93 (lv_at hl 3 rfl) ?_
  refine lv_iconst (v := 3) hx hb dk_L_text_95 (by decide) ?_
  refine lv_icmp_ge (tgt := 136) hx hb dk_L_text_96 rfl (fun q => absurd q (fun z => absurd ((nI_leI (a := 3) (by decide) (by omega)).mp z) (by omega))) (fun _ => ?_)
  refine va_new (ci := 10) (fs := [.null, .int 0, .int 0, .int 0]) (C := RJ4) (T := TJ4) (N := 4) hx hb hts qwJ4 tyJ4 tyJ4_ok hown (hts _ (am_tb_at 288 (by decide +kernel) rfl)) (hts _ (am_tb_at 289 (by decide +kernel) rfl)) (hts _ (am_tb_at 46 (by decide +kernel) rfl)) hK hP hD hS hA rfl (fun j hj => by rcases (show j = 0 ∨ j = 1 ∨ j = 2 ∨ j = 3 by omega) with rfl | rfl | rfl | rfl <;> rfl) (room_ok hc1 rfl) (room_ok hc2 rfl) dk_L_text_99 (fun q1 H hP hD hS => ?_)
  refine W.widen (k := cells + 1) (n := slots + 4) (Nat.le_of_eq (Nat.add_assoc _ _ _)) (Nat.le_of_eq (Nat.add_assoc _ _ _)) ?_
  have hP : va_P D vwCl [(a, .inr (9, [.ref d, .int 0, .int 0, .int 0])), (d, .inl (kC 2, n, .inl g)), (q1, .inr (10, [.null, .int 0, .int 0, .int 0]))] H := hP
  have hD : va_D A [(a, .inr (9, [.ref d, .int 0, .int 0, .int 0])), (d, .inl (kC 2, n, .inl g)), (q1, .inr (10, [.null, .int 0, .int 0, .int 0]))] := hD
  refine lv_dup hx hb dk_L_text_102 rfl ?_
  have hPc := hP.sub (ws' := [(q1, .inr (10, [.null, .int 0, .int 0, .int 0]))]) [2] rfl
  have hDc := hD.sub (ws' := [(q1, .inr (10, [.null, .int 0, .int 0, .int 0]))]) [2] (by decide) rfl
  have hFc := va_free (wc := [(q1, .inr (10, [.null, .int 0, .int 0, .int 0]))]) hD hS hA [2] rfl
  refine va_callv (va_runI (As := []) (rest := [.ref q1]) ⟨hx, hb, hml, hown, hts⟩ (sk_sbN l D kC q1 H.size) ⟨am_callB (R := jr 20 800 2100000) (index := 16) 0 (jk_pay htj (am_tb_at 292 (by decide +kernel) rfl)) (hts _ (am_tb_at 292 (by decide +kernel) rfl)) rfl rfl rfl (hts _ (am_tb_at 46 (by decide +kernel) rfl)) (hts _ (am_tb_at 290 (by decide +kernel) rfl)) ⟨by decide, by decide, by decide +kernel⟩ ⟨(by show 4 + 1 ≤ 20; decide), (by show 8 + (1 + 11) + 48 * 4 ≤ 48 * 20; decide)⟩, rfl, (hts _ (am_tb_at 291 (by decide +kernel) rfl))⟩ (ws_S Stb_G hPc hK hDc (fun U hU hW => ws_E Stb_G hE.1.1 hS hU hW hFc)) rfl rfl hl.1 rfl (lv_room (Nat.le_of_ble_eq_true rfl)) dk_L_text_103 ⟨(room_ok hc1 rfl), (room_ok hc2 rfl)⟩) hS (fun q _ h => hFc q h) hFc (fun b1_0 t H1 locs hte hvm hz hB hsz hkp hS => ?_)
  obtain ⟨hP1, hD1⟩ := hB
  rw [hte] at hP1
  obtain ⟨hP, hD⟩ := va_join (wr := [(a, .inr (9, [.ref d, .int 0, .int 0, .int 0])), (d, .inl (kC 2, n, .inl g))]) (w1 := [(q1, .inr (10, [.ref b1_0, .int 0, .int 0, .int (nI 0)])), (b1_0, .inl (kC 2, 16, .inl (fun _ => 0)))]) hP hD [2] [0, 1] rfl rfl (by decide) (by decide) hkp hFc hP1 hD1
  generalize H1 = H at hP hS ⊢
  have hP : va_P D vwCl [(a, .inr (9, [.ref d, .int 0, .int 0, .int 0])), (d, .inl (kC 2, n, .inl g)), (q1, .inr (10, [.ref b1_0, .int 0, .int 0, .int (nI 0)])), (b1_0, .inl (kC 2, 16, .inl (fun _ => 0)))] H := hP
  have hD : va_D A [(a, .inr (9, [.ref d, .int 0, .int 0, .int 0])), (d, .inl (kC 2, n, .inl g)), (q1, .inr (10, [.ref b1_0, .int 0, .int 0, .int (nI 0)])), (b1_0, .inl (kC 2, 16, .inl (fun _ => 0)))] := hD
  refine W.widen (k := cells + 2) (n := slots + 4004) (Nat.le_of_eq (Nat.add_assoc _ _ _)) (Nat.le_of_eq (Nat.add_assoc _ _ _)) ?_
  have hw1_0 : 0 ≤ 16 ∧ 16 ≤ 1700 := ⟨by decide, by decide⟩
  have hf1_0 : sb_Fit (fun _ => 0) := sb_fit0
  have hL1_0 : sb_Lat (lt []) 0 (fun _ => 0) := fun j h => absurd h (Nat.not_lt_zero _)
  have hn1_0 : ([] : List Nat).length = 0 := rfl
  refine lv_aload_n hx hb dk_L_text_106 rfl (lv_at hl 0 rfl) ?_
  have hPc := hP.sub (ws' := [(q1, .inr (10, [.ref b1_0, .int 0, .int 0, .int (nI 0)])), (b1_0, .inl (kC 2, 16, .inl (fun _ => 0)))]) [2, 3] rfl
  have hDc := hD.sub (ws' := [(q1, .inr (10, [.ref b1_0, .int 0, .int 0, .int (nI 0)])), (b1_0, .inl (kC 2, 16, .inl (fun _ => 0)))]) [2, 3] (by decide) rfl
  have hFc := va_free (wc := [(q1, .inr (10, [.ref b1_0, .int 0, .int 0, .int (nI 0)])), (b1_0, .inl (kC 2, 16, .inl (fun _ => 0)))]) hD hS hA [2, 3] rfl
  refine va_callr (va_runV (As := [.ref a]) (rest := []) ⟨hx, hb, hml, hown, hts⟩ (sk_sbS l D kC q1 b1_0 16 0 0 (fun _ => 0) a d n (lt (tW L xs ci ki wi)) (lt ([] : List Nat)) hw1_0.1 hw1_0.2 hf1_0 hL1_0 (by omega) H.size) ⟨am_callB (R := jr 20 800 2100000) (index := 17) 1 (jk_pay htj (am_tb_at 323 (by decide +kernel) rfl)) (hts _ (am_tb_at 323 (by decide +kernel) rfl)) rfl rfl rfl (hts _ (am_tb_at 46 (by decide +kernel) rfl)) (hts _ (am_tb_at 320 (by decide +kernel) rfl)) ⟨by decide, by decide, by decide +kernel⟩ ⟨(by show 13 + 1 ≤ 20; decide), (by show 8 + (2 + 11) + 48 * 13 ≤ 48 * 20; decide)⟩, (hts _ (am_tb_at 321 (by decide +kernel) rfl)), (hts _ (am_tb_at 322 (by decide +kernel) rfl))⟩ (ws_V (Stb_and Stb_G (Stb_S a d n (lt (tW L xs ci ki wi)))) (va_recv (q := (RJ4, TJ4, 4)) (q0 := 2) hK hP rfl rfl) hPc hK hDc (fun U hU hW => ⟨ws_E Stb_G hE.1.1 hS hU hW hFc, ws_N (Stb_S a d n (lt (tW L xs ci ki wi))) (ro_S hts hK hP 0 1 rfl rfl hL hf (ws_out hP hD [2, 3] rfl (k := 0) rfl (by decide)) (ws_out hP hD [2, 3] rfl (k := 1) rfl (by decide))) hU hW⟩)) rfl rfl hl.1 rfl (lv_room (Nat.le_of_ble_eq_true rfl)) dk_L_text_107 ⟨(room_ok hc1 rfl), (room_ok hc2 rfl)⟩) hS (fun q _ h => hFc q h) hFc (fun u ra t H1 locs hte hvm hz hB hsz hkp hS => ?_)
  obtain ⟨b1_1, w1_1, g1_1⟩ := u
  obtain ⟨hra, hP1, hD1⟩ := hB
  rw [hte] at hP1
  obtain ⟨hP, hD⟩ := va_join (wr := [(a, .inr (9, [.ref d, .int 0, .int 0, .int 0])), (d, .inl (kC 2, n, .inl g))]) (w1 := [(q1, .inr (10, [.ref b1_1, .int 0, .int 0, .int (nI ((0 + n)))])), (b1_1, .inl (kC 2, w1_1, .inl g1_1))]) hP hD [2, 3] [0, 1] rfl rfl (by decide) (by decide) hkp hFc hP1 hD1
  generalize H1 = H at hP hS ⊢
  have hP : va_P D vwCl [(a, .inr (9, [.ref d, .int 0, .int 0, .int 0])), (d, .inl (kC 2, n, .inl g)), (q1, .inr (10, [.ref b1_1, .int 0, .int 0, .int (nI ((0 + n)))])), (b1_1, .inl (kC 2, w1_1, .inl g1_1))] H := hP
  have hD : va_D A [(a, .inr (9, [.ref d, .int 0, .int 0, .int 0])), (d, .inl (kC 2, n, .inl g)), (q1, .inr (10, [.ref b1_1, .int 0, .int 0, .int (nI ((0 + n)))])), (b1_1, .inl (kC 2, w1_1, .inl g1_1))] := hD
  refine W.widen (k := cells + 3) (n := slots + 8004) (Nat.le_of_eq (Nat.add_assoc _ _ _)) (Nat.le_of_eq (Nat.add_assoc _ _ _)) ?_
  dsimp only at hz
  obtain ⟨hw1_1, hf1_1, hL0⟩ := hz
  have hy1_1 : (tW L xs ci ki wi : List Nat).length = n := hn
  have hL1_1 := ll_cat hn1_0 hy1_1 hL0
  have hn1_1 := ll_len hn1_0 hy1_1
  rw [hra]
  refine va_ldcS hx hb hown hR6 dk_L_text_110 ?_
  have hPc := hP.sub (ws' := [(q1, .inr (10, [.ref b1_1, .int 0, .int 0, .int (nI ((0 + n)))])), (b1_1, .inl (kC 2, w1_1, .inl g1_1))]) [2, 3] rfl
  have hDc := hD.sub (ws' := [(q1, .inr (10, [.ref b1_1, .int 0, .int 0, .int (nI ((0 + n)))])), (b1_1, .inl (kC 2, w1_1, .inl g1_1))]) [2, 3] (by decide) rfl
  have hFc := va_free (wc := [(q1, .inr (10, [.ref b1_1, .int 0, .int 0, .int (nI ((0 + n)))])), (b1_1, .inl (kC 2, w1_1, .inl g1_1))]) hD hS hA [2, 3] rfl
  refine va_callr (va_runV (As := [.ref a6]) (rest := []) ⟨hx, hb, hml, hown, hts⟩ (sk_sbS l D kC q1 b1_1 w1_1 (0 + n) 0 g1_1 a6 d6 1 (lt ([32])) (lt (([] : List Nat) ++ tW L xs ci ki wi)) hw1_1.1 hw1_1.2 hf1_1 hL1_1 (by omega) H.size) ⟨am_callB (R := jr 20 800 2100000) (index := 17) 1 (jk_pay htj (am_tb_at 323 (by decide +kernel) rfl)) (hts _ (am_tb_at 323 (by decide +kernel) rfl)) rfl rfl rfl (hts _ (am_tb_at 46 (by decide +kernel) rfl)) (hts _ (am_tb_at 320 (by decide +kernel) rfl)) ⟨by decide, by decide, by decide +kernel⟩ ⟨(by show 13 + 1 ≤ 20; decide), (by show 8 + (2 + 11) + 48 * 13 ≤ 48 * 20; decide)⟩, (hts _ (am_tb_at 321 (by decide +kernel) rfl)), (hts _ (am_tb_at 322 (by decide +kernel) rfl))⟩ (ws_V (Stb_and Stb_G (Stb_S a6 d6 1 (lt ([32])))) (va_recv (q := (RJ4, TJ4, 4)) (q0 := 2) hK hP rfl rfl) hPc hK hDc (fun U hU hW => ⟨ws_E Stb_G hE.1.1 hS hU hW hFc, ws_E (Stb_S a6 d6 1 (lt [32])) hS6 hS hU hW hFc⟩)) rfl rfl hl.1 rfl (lv_room (Nat.le_of_ble_eq_true rfl)) dk_L_text_112 ⟨(room_ok hc1 rfl), (room_ok hc2 rfl)⟩) hS (fun q _ h => hFc q h) hFc (fun u ra t H1 locs hte hvm hz hB hsz hkp hS => ?_)
  obtain ⟨b1_2, w1_2, g1_2⟩ := u
  obtain ⟨hra, hP1, hD1⟩ := hB
  rw [hte] at hP1
  obtain ⟨hP, hD⟩ := va_join (wr := [(a, .inr (9, [.ref d, .int 0, .int 0, .int 0])), (d, .inl (kC 2, n, .inl g))]) (w1 := [(q1, .inr (10, [.ref b1_2, .int 0, .int 0, .int (nI (((0 + n) + 1)))])), (b1_2, .inl (kC 2, w1_2, .inl g1_2))]) hP hD [2, 3] [0, 1] rfl rfl (by decide) (by decide) hkp hFc hP1 hD1
  generalize H1 = H at hP hS ⊢
  have hP : va_P D vwCl [(a, .inr (9, [.ref d, .int 0, .int 0, .int 0])), (d, .inl (kC 2, n, .inl g)), (q1, .inr (10, [.ref b1_2, .int 0, .int 0, .int (nI (((0 + n) + 1)))])), (b1_2, .inl (kC 2, w1_2, .inl g1_2))] H := hP
  have hD : va_D A [(a, .inr (9, [.ref d, .int 0, .int 0, .int 0])), (d, .inl (kC 2, n, .inl g)), (q1, .inr (10, [.ref b1_2, .int 0, .int 0, .int (nI (((0 + n) + 1)))])), (b1_2, .inl (kC 2, w1_2, .inl g1_2))] := hD
  refine W.widen (k := cells + 4) (n := slots + 12004) (Nat.le_of_eq (Nat.add_assoc _ _ _)) (Nat.le_of_eq (Nat.add_assoc _ _ _)) ?_
  dsimp only at hz
  obtain ⟨hw1_2, hf1_2, hL0⟩ := hz
  have hy1_2 : ([32] : List Nat).length = 1 := rfl
  have hL1_2 := ll_cat hn1_1 hy1_2 hL0
  have hn1_2 := ll_len hn1_1 hy1_2
  rw [hra]
  refine lv_aload_n hx hb dk_L_text_115 rfl (lv_at hl 4 rfl) ?_
  refine lv_iload_n hx hb dk_L_text_116 rfl (lv_at hl 1 rfl) ?_
  refine lv_iload_n hx hb dk_L_text_117 rfl (lv_at hl 2 rfl) ?_
  refine lv_iload hx hb dk_L_text_118 (lv_at hl 3 rfl) ?_
  have hPc : va_P D vwCl [] H := ws_nP
  have hDc : va_D A [] := ws_nD
  have hFc : ∀ q, va_A [] H.size q → A q := fun q h => hA q (Nat.le_trans hS.1 (ws_nA h))
  refine va_calli (va_runS (As := [.ref bs, .int (nI ci), .int (nI ki), .int (nI wi)]) (rest := [.ref q1]) ⟨hx, hb, hml, hown, hts⟩ (sk_point l D kC bs L xs hLb ci ki wi (by omega) (by omega) (by omega) H.size) ⟨am_callB (R := jr 20 800 2100000) (index := 82) 4 (jk_pay htj (am_tb_at 566 (by decide +kernel) rfl)) (hts _ (am_tb_at 566 (by decide +kernel) rfl)) rfl rfl rfl (hts _ (am_tb_at 34 (by decide +kernel) rfl)) (hts _ (am_tb_at 564 (by decide +kernel) rfl)) ⟨by decide, by decide, by decide +kernel⟩ ⟨(by show 2 + 1 ≤ 20; decide), (by show 8 + (5 + 11) + 48 * 2 ≤ 48 * 20; decide)⟩, (hts _ (am_tb_at 565 (by decide +kernel) rfl))⟩ (ws_S (Stb_and Stb_G (Stb_X bs L xs)) hPc hK hDc (fun U hU hW => ws_E (Stb_and Stb_G (Stb_X bs L xs)) hE.1 hS hU hW hFc)) rfl rfl hl.1 rfl (lv_room (Nat.le_of_ble_eq_true rfl)) dk_L_text_120 ⟨(room_ok hc1 rfl), (room_ok hc2 rfl)⟩) hS (fun q _ h => hFc q h) hFc (fun r0 u t H1 locs hte hvm hz hB hsz hkp hS => ?_)
  have hP := ws_kept hP hkp
  generalize H1 = H at hP hS ⊢
  have hP : va_P D vwCl [(a, .inr (9, [.ref d, .int 0, .int 0, .int 0])), (d, .inl (kC 2, n, .inl g)), (q1, .inr (10, [.ref b1_2, .int 0, .int 0, .int (nI (((0 + n) + 1)))])), (b1_2, .inl (kC 2, w1_2, .inl g1_2))] H := hP
  have hD : va_D A [(a, .inr (9, [.ref d, .int 0, .int 0, .int 0])), (d, .inl (kC 2, n, .inl g)), (q1, .inr (10, [.ref b1_2, .int 0, .int 0, .int (nI (((0 + n) + 1)))])), (b1_2, .inl (kC 2, w1_2, .inl g1_2))] := hD
  refine W.widen (k := cells + 4) (n := slots + 12004) (Nat.le_of_eq (Nat.add_assoc _ _ _)) (Nat.le_of_eq (Nat.add_assoc _ _ _)) ?_
  subst hz
  have hPc := hP.sub (ws' := [(q1, .inr (10, [.ref b1_2, .int 0, .int 0, .int (nI (((0 + n) + 1)))])), (b1_2, .inl (kC 2, w1_2, .inl g1_2))]) [2, 3] rfl
  have hDc := hD.sub (ws' := [(q1, .inr (10, [.ref b1_2, .int 0, .int 0, .int (nI (((0 + n) + 1)))])), (b1_2, .inl (kC 2, w1_2, .inl g1_2))]) [2, 3] (by decide) rfl
  have hFc := va_free (wc := [(q1, .inr (10, [.ref b1_2, .int 0, .int 0, .int (nI (((0 + n) + 1)))])), (b1_2, .inl (kC 2, w1_2, .inl g1_2))]) hD hS hA [2, 3] rfl
  refine va_callr (va_runV (As := [.int (nI (ptN L xs ci ki wi))]) (rest := []) ⟨hx, hb, hml, hown, hts⟩ (sk_sbI l D kC q1 b1_2 w1_2 ((0 + n) + 1) 0 g1_2 (ptN L xs ci ki wi) (by omega) (lt ((([] : List Nat) ++ tW L xs ci ki wi) ++ [32])) hw1_2.1 hw1_2.2 hf1_2 hL1_2 (by omega) H.size) ⟨am_callB (R := jr 20 800 2100000) (index := 52) 1 (jk_pay htj (am_tb_at 446 (by decide +kernel) rfl)) (hts _ (am_tb_at 446 (by decide +kernel) rfl)) rfl rfl rfl (hts _ (am_tb_at 46 (by decide +kernel) rfl)) (hts _ (am_tb_at 443 (by decide +kernel) rfl)) ⟨by decide, by decide, by decide +kernel⟩ ⟨(by show 13 + 1 ≤ 20; decide), (by show 8 + (2 + 11) + 48 * 13 ≤ 48 * 20; decide)⟩, (hts _ (am_tb_at 444 (by decide +kernel) rfl)), (hts _ (am_tb_at 445 (by decide +kernel) rfl))⟩ (ws_V Stb_G (va_recv (q := (RJ4, TJ4, 4)) (q0 := 2) hK hP rfl rfl) hPc hK hDc (fun U hU hW => ws_E Stb_G hE.1.1 hS hU hW hFc)) rfl rfl hl.1 rfl (lv_room (Nat.le_of_ble_eq_true rfl)) dk_L_text_123 ⟨(room_ok hc1 rfl), (room_ok hc2 rfl)⟩) hS (fun q _ h => hFc q h) hFc (fun u ra t H1 locs hte hvm hz hB hsz hkp hS => ?_)
  obtain ⟨b1_3, w1_3, g1_3⟩ := u
  obtain ⟨hra, hP1, hD1⟩ := hB
  rw [hte] at hP1
  obtain ⟨hP, hD⟩ := va_join (wr := [(a, .inr (9, [.ref d, .int 0, .int 0, .int 0])), (d, .inl (kC 2, n, .inl g))]) (w1 := [(q1, .inr (10, [.ref b1_3, .int 0, .int 0, .int (nI ((((0 + n) + 1) + (sb_dg (ptN L xs ci ki wi)))))])), (b1_3, .inl (kC 2, w1_3, .inl g1_3))]) hP hD [2, 3] [0, 1] rfl rfl (by decide) (by decide) hkp hFc hP1 hD1
  generalize H1 = H at hP hS ⊢
  have hP : va_P D vwCl [(a, .inr (9, [.ref d, .int 0, .int 0, .int 0])), (d, .inl (kC 2, n, .inl g)), (q1, .inr (10, [.ref b1_3, .int 0, .int 0, .int (nI ((((0 + n) + 1) + (sb_dg (ptN L xs ci ki wi)))))])), (b1_3, .inl (kC 2, w1_3, .inl g1_3))] H := hP
  have hD : va_D A [(a, .inr (9, [.ref d, .int 0, .int 0, .int 0])), (d, .inl (kC 2, n, .inl g)), (q1, .inr (10, [.ref b1_3, .int 0, .int 0, .int (nI ((((0 + n) + 1) + (sb_dg (ptN L xs ci ki wi)))))])), (b1_3, .inl (kC 2, w1_3, .inl g1_3))] := hD
  refine W.widen (k := cells + 5) (n := slots + 16004) (Nat.le_of_eq (Nat.add_assoc _ _ _)) (Nat.le_of_eq (Nat.add_assoc _ _ _)) ?_
  dsimp only at hz
  obtain ⟨hw1_3, hf1_3, hL0⟩ := hz
  have hy1_3 : ((decL (ptN L xs ci ki wi)) : List Nat).length = sb_dg (ptN L xs ci ki wi) := decL_len _
  have hL1_3 := ll_catI hn1_2 hL0
  have hn1_3 := ll_len hn1_2 hy1_3
  rw [hra]
  have hPc : va_P D vwCl [] H := ws_nP
  have hDc : va_D A [] := ws_nD
  have hFc : ∀ q, va_A [] H.size q → A q := fun q h => hA q (Nat.le_trans hS.1 (ws_nA h))
  refine va_callr (va_runV (As := []) (rest := []) ⟨hx, hb, hml, hown, hts⟩ (sk_toS l D kC q1 b1_3 w1_3 ((((0 + n) + 1) + (sb_dg (ptN L xs ci ki wi)))) g1_3 (lt (((([] : List Nat) ++ tW L xs ci ki wi) ++ [32]) ++ (decL (ptN L xs ci ki wi)))) hw1_3.1 (by omega) hf1_3 hL1_3 H.size) ⟨am_callB (R := jr 20 800 2100000) (index := 23) 0 (jk_pay htj (am_tb_at 476 (by decide +kernel) rfl)) (hts _ (am_tb_at 476 (by decide +kernel) rfl)) rfl rfl rfl (hts _ (am_tb_at 46 (by decide +kernel) rfl)) (hts _ (am_tb_at 473 (by decide +kernel) rfl)) ⟨by decide, by decide, by decide +kernel⟩ ⟨(by show 10 + 1 ≤ 20; decide), (by show 8 + (1 + 11) + 48 * 10 ≤ 48 * 20; decide)⟩, (hts _ (am_tb_at 474 (by decide +kernel) rfl)), (hts _ (am_tb_at 475 (by decide +kernel) rfl))⟩ (ws_V (Stb_and Stb_G (Stb_B kC q1 b1_3 w1_3 ((((0 + n) + 1) + (sb_dg (ptN L xs ci ki wi)))) g1_3)) (va_recv (q := (RJ4, TJ4, 4)) (q0 := 2) hK hP rfl rfl) hPc hK hDc (fun U hU hW => ⟨ws_E Stb_G hE.1.1 hS hU hW hFc, ws_N (Stb_B kC q1 b1_3 w1_3 ((((0 + n) + 1) + (sb_dg (ptN L xs ci ki wi)))) g1_3) (ro_B hts hK hP 2 3 rfl rfl (ws_n0 hP 2 rfl) (ws_n0 hP 3 rfl)) hU hW⟩)) rfl rfl hl.1 rfl (lv_room (Nat.le_of_ble_eq_true rfl)) dk_L_text_126 ⟨(room_ok hc1 rfl), (room_ok hc2 rfl)⟩) hS (fun q _ h => hFc q h) hFc (fun u s1 t H1 locs hte hvm hz hB hsz hkp hS => ?_)
  obtain ⟨ds1, gs1⟩ := u
  obtain ⟨hP1, hD1⟩ := hB
  rw [hte] at hP1
  obtain ⟨hP, hD⟩ := va_join (wr := [(a, .inr (9, [.ref d, .int 0, .int 0, .int 0])), (d, .inl (kC 2, n, .inl g)), (q1, .inr (10, [.ref b1_3, .int 0, .int 0, .int (nI ((((0 + n) + 1) + (sb_dg (ptN L xs ci ki wi)))))])), (b1_3, .inl (kC 2, w1_3, .inl g1_3))]) (w1 := [(s1, .inr (9, [.ref ds1, .int 0, .int 0, .int 0])), (ds1, .inl (kC 2, (((0 + n) + 1) + (sb_dg (ptN L xs ci ki wi))), .inl gs1))]) hP hD [] [0, 1, 2, 3] rfl rfl (by decide) (by decide) hkp hFc hP1 hD1
  generalize H1 = H at hP hS ⊢
  have hP : va_P D vwCl [(a, .inr (9, [.ref d, .int 0, .int 0, .int 0])), (d, .inl (kC 2, n, .inl g)), (q1, .inr (10, [.ref b1_3, .int 0, .int 0, .int (nI ((((0 + n) + 1) + (sb_dg (ptN L xs ci ki wi)))))])), (b1_3, .inl (kC 2, w1_3, .inl g1_3)), (s1, .inr (9, [.ref ds1, .int 0, .int 0, .int 0])), (ds1, .inl (kC 2, (((0 + n) + 1) + (sb_dg (ptN L xs ci ki wi))), .inl gs1))] H := hP
  have hD : va_D A [(a, .inr (9, [.ref d, .int 0, .int 0, .int 0])), (d, .inl (kC 2, n, .inl g)), (q1, .inr (10, [.ref b1_3, .int 0, .int 0, .int (nI ((((0 + n) + 1) + (sb_dg (ptN L xs ci ki wi)))))])), (b1_3, .inl (kC 2, w1_3, .inl g1_3)), (s1, .inr (9, [.ref ds1, .int 0, .int 0, .int 0])), (ds1, .inl (kC 2, (((0 + n) + 1) + (sb_dg (ptN L xs ci ki wi))), .inl gs1))] := hD
  refine W.widen (k := cells + 7) (n := slots + 20014) (Nat.le_of_eq (Nat.add_assoc _ _ _)) (Nat.le_of_eq (Nat.add_assoc _ _ _)) ?_
  dsimp only at hz
  obtain ⟨hfs1, hLs1⟩ := hz
  have hP := hP.sub (ws' := [(a, .inr (9, [.ref d, .int 0, .int 0, .int 0])), (d, .inl (kC 2, n, .inl g)), (s1, .inr (9, [.ref ds1, .int 0, .int 0, .int 0])), (ds1, .inl (kC 2, (((0 + n) + 1) + (sb_dg (ptN L xs ci ki wi))), .inl gs1))]) [0, 1, 4, 5] rfl
  have hD := hD.sub (ws' := [(a, .inr (9, [.ref d, .int 0, .int 0, .int 0])), (d, .inl (kC 2, n, .inl g)), (s1, .inr (9, [.ref ds1, .int 0, .int 0, .int 0])), (ds1, .inl (kC 2, (((0 + n) + 1) + (sb_dg (ptN L xs ci ki wi))), .inl gs1))]) [0, 1, 4, 5] (by decide) rfl
  have hP := hP.sub (ws' := [(s1, .inr (9, [.ref ds1, .int 0, .int 0, .int 0])), (ds1, .inl (kC 2, (((0 + n) + 1) + (sb_dg (ptN L xs ci ki wi))), .inl gs1))]) [2, 3] rfl
  have hD := hD.sub (ws' := [(s1, .inr (9, [.ref ds1, .int 0, .int 0, .int 0])), (ds1, .inl (kC 2, (((0 + n) + 1) + (sb_dg (ptN L xs ci ki wi))), .inl gs1))]) [2, 3] (by decide) rfl
  refine lv_astore_n (lv' := [(1, .ref s1), (2, .int (nI ci)), (3, .int (nI ki)), (4, .int (nI wi)), (0, .ref bs)]) hx hb dk_L_text_129 rfl hl (by decide) rfl (fun ls hl => ?_)
  refine lv_iinc (k := 3) (v := nI (wi + 1)) (lv' := [(4, .int (nI (wi + 1))), (1, .ref s1), (2, .int (nI ci)), (3, .int (nI ki)), (0, .ref bs)]) hx hb dk_L_text_130 hl rfl (nI_1 wi) (by decide) rfl (fun ls hl => ?_)
  refine lv_goto (tgt := 93) hx hb dk_L_text_133 rfl ?_
  have hl : lv_has ls 5 [(1, .ref s1), (2, .int (nI ci)), (3, .int (nI ki)), (4, .int (nI (wi + 1))), (0, .ref bs)] := lv_sub hl [1, 2, 3, 0, 4] rfl
  have hT : (((([] : List Nat) ++ tW L xs ci ki wi) ++ [32]) ++ (decL (ptN L xs ci ki wi))) = tW L xs ci ki (wi + 1) := by rw [← tW_s]; simp
  rw [hT] at hLs1 hn1_3
  exact hk _ _ _ _ _ _ _ _ _ hl hP hD hS hfs1 hLs1 hn1_3 (room_end hc1 rfl) (room_end hc2 rfl)
theorem tx_mono {p : Program} {l : Launch} {e : Env} {s : State} {m : MethodId} {below : List Frame} {meth : Method} {c : Code} {bs L : Nat} {xs : Nat → Int32} {D : va_G} {kC : Nat → ClassId} {A : Nat → Prop} {pc : Nat} {lo : Nat → List (Nat × Value)} {T : List Nat} {C1 C2 E1 E2 : Nat} (h : txG p l e s m below meth c bs L xs D kC A pc lo T C1 C2) (h1 : C1 ≤ E1) (h2 : C2 ≤ E2) : txG p l e s m below meth c bs L xs D kC A pc lo T E1 E2 := fun a d n g H locs ls cells slots hl hP hD hS hf hL hn hc1 hc2 => h a d n g H locs ls cells slots hl hP hD hS hf hL hn (by omega) (by omega)
theorem tx_L {p : Program} {l : Launch} {e : Env} {s : State} {m : MethodId} {below : List Frame} {meth : Method} {c : Code} {bs L : Nat} {xs : Nat → Int32} {D : va_G} {kC : Nat → ClassId} {A : Nat → Prop} (hEnv : txE p l e s m below meth c bs L xs D kC A) : ∀ r j : Nat, j + r = lnN L xs → txG p l e s m below meth c bs L xs D kC A 170 (fun a => [(1, .ref a), (2, .int (nI j)), (0, .ref bs)]) (tL L xs j) (r * 50) (r * 132500)
  | 0, j, hj => tx_L0 (C1 := 0) (C2 := 0) hEnv (by omega) |> fun h => tx_mono h (by omega) (by omega)
  | r + 1, j, hj => tx_mono (tx_L1 hEnv (by omega) (tx_L hEnv r (j + 1) (by omega))) (by omega) (by omega)
theorem tx_W {p : Program} {l : Launch} {e : Env} {s : State} {m : MethodId} {below : List Frame} {meth : Method} {c : Code} {bs L : Nat} {xs : Nat → Int32} {D : va_G} {kC : Nat → ClassId} {A : Nat → Prop} (hEnv : txE p l e s m below meth c bs L xs D kC A) {ci ki : Nat} (hci : ci < cvN L xs) (hki : ki < ptC L xs ci) {C1 C2 : Nat} (hk : txG p l e s m below meth c bs L xs D kC A 81 (fun a => [(1, .ref a), (2, .int (nI ci)), (3, .int (nI (ki + 1))), (0, .ref bs)]) (tK L xs ci (ki + 1)) (C1) (C2)) : ∀ r wi : Nat, wi + r = 3 → txG p l e s m below meth c bs L xs D kC A 93 (fun a => [(1, .ref a), (2, .int (nI ci)), (3, .int (nI ki)), (4, .int (nI wi)), (0, .ref bs)]) (tW L xs ci ki wi) (C1 + r * 7) (C2 + r * 20020)
  | 0, wi, hw => by
    obtain rfl : wi = 3 := by omega
    have bP := ptC_b (L := L) (xs := xs) (c := ci)
    exact tx_mono (tx_W0 hEnv (by omega) hk) (by omega) (by omega)
  | r + 1, wi, hw => tx_mono (tx_W1 hEnv hci hki (by omega) (tx_W hEnv hci hki hk r (wi + 1) (by omega))) (by omega) (by omega)
theorem tx_K {p : Program} {l : Launch} {e : Env} {s : State} {m : MethodId} {below : List Frame} {meth : Method} {c : Code} {bs L : Nat} {xs : Nat → Int32} {D : va_G} {kC : Nat → ClassId} {A : Nat → Prop} (hEnv : txE p l e s m below meth c bs L xs D kC A) {ci : Nat} (hci : ci < cvN L xs) {C1 C2 : Nat} (hk : txG p l e s m below meth c bs L xs D kC A 42 (fun a => [(1, .ref a), (2, .int (nI (ci + 1))), (0, .ref bs)]) (tC L xs (ci + 1)) (C1) (C2)) : ∀ r ki : Nat, ki + r = ptC L xs ci → txG p l e s m below meth c bs L xs D kC A 81 (fun a => [(1, .ref a), (2, .int (nI ci)), (3, .int (nI ki)), (0, .ref bs)]) (tK L xs ci ki) (C1 + 6 + r * 21) (C2 + 16100 + r * 60060)
  | 0, ki, h => tx_mono (tx_K0 hEnv hci (by omega) hk) (by omega) (by omega)
  | r + 1, ki, h => tx_mono (tx_K1 hEnv hci (by omega) (tx_W hEnv hci (by omega) (tx_K hEnv hci hk r (ki + 1) (by omega)) 3 0 rfl)) (by omega) (by omega)
theorem tx_C {p : Program} {l : Launch} {e : Env} {s : State} {m : MethodId} {below : List Frame} {meth : Method} {c : Code} {bs L : Nat} {xs : Nat → Int32} {D : va_G} {kC : Nat → ClassId} {A : Nat → Prop} (hEnv : txE p l e s m below meth c bs L xs D kC A) : ∀ r ci : Nat, ci + r = cvN L xs → txG p l e s m below meth c bs L xs D kC A 42 (fun a => [(1, .ref a), (2, .int (nI ci)), (0, .ref bs)]) (tC L xs ci) (200 + r * 110) (530000 + r * 300700)
  | 0, ci, h => by
    have bL := lnN_b (L := L) (xs := xs)
    exact tx_mono (tx_C0 hEnv (by omega) (tx_L hEnv (lnN L xs) 0 (by omega))) (by omega) (by omega)
  | r + 1, ci, h => by
    have bP := ptC_b (L := L) (xs := xs) (c := ci)
    exact tx_mono (tx_C1 hEnv (by omega) (tx_K hEnv (by omega) (tx_C hEnv r (ci + 1) (by omega)) (ptC L xs ci) 0 (by omega))) (by omega) (by omega)
set_option maxHeartbeats 4000000 in
set_option maxRecDepth 100000 in
theorem sk_text (l : Launch) (D : va_G) (kC : Nat → ClassId) (bs L : Nat) (xs : Nat → Int32) (hLb : L < 1000) (sz : Nat) : Met l yL_text (.code yL_text cL_text 5 (some (.object "java/lang/String")) :: jk_tb) (jr 20 800 2100000) (va_Pc [.ref bs] (ws_B D kC (fun B U H => (js_G B U H ∧ scX bs L xs B U H) ∧ js_C B U H) [] sz)) (va_Qr (S := Nat × (Nat → Int32)) (fun u => sb_Fit u.2 ∧ sb_Lat (lt (txT L xs)) ((txT L xs).length) u.2) (fun u ra t => va_P D vwCl [(ra, .inr (9, [.ref u.1, .int 0, .int 0, .int 0])), (u.1, .inl (kC 2, (txT L xs).length, .inl (u.2)))] t.heap ∧ va_D (va_A [] sz) [(ra, .inr (9, [.ref u.1, .int 0, .int 0, .int 0])), (u.1, .inl (kC 2, (txT L xs).length, .inl (u.2)))]) (va_A [] sz)) 800 2100000 (va_A [] sz) := by
  refine Met.ofW (cc := cL_text) (maxL := 5) (ret := (some (.object "java/lang/String"))) (by decide +kernel) rfl ?_
  intro p e s m args below meth c s₁ B hml hv2
  obtain ⟨rfl, hsz, hP, hK, hD0, hE⟩ := hv2
  have hx := B.exec
  have hb := B.bytes
  have hr := B.returns
  have hlocks := B.notSynchronized
  have hts0 := atoms_spec (ws := (.code yL_text cL_text 5 (some (.object "java/lang/String")) :: jk_tb)) B.pre
  have htj := fun w (hw : w ∈ jk_tb) => hts0 w (List.mem_cons_of_mem _ hw)
  have hts := fun w (hw : w ∈ am_tb) => htj w (jk_in hw)
  have hown : s.vm.findClass yL_text.cls = some m.cls := findClass_of_methodNamed B.named
  subst hsz
  have hD := hD0.self (sz := s.heap.size)
  generalize hAe : va_A [] s.heap.size = A at hD hE ⊢
  have hA : ∀ q : Nat, s.heap.size ≤ q → A q := fun q h => by rw [← hAe]; exact Or.inr h
  have hP : va_P D vwCl [] s.heap := hP
  have hS : va_S A s.heap s.heap [] := va_S.rf
  have hl := lv_entry ([.ref bs]) (n := 5) (Nat.le_of_ble_eq_true rfl)
  rw [lg_entry_eq]
  generalize (lg_sl ([.ref bs]) ++ List.replicate (5 - (lg_sl ([.ref bs])).length) Slot.unset).toArray = ls at hl ⊢
  have hl : lv_has ls 5 [(0, .ref bs)] := hl
  refine W.widen (k := 0) (n := 0) (Nat.le_refl _) (Nat.le_refl _) ?_
  have hEnv : txE p l e s m below meth c bs L xs D kC A := ⟨hLb, hx, hb, hr, hlocks, hml, htj, hown, hK, hA, hE⟩
  obtain ⟨⟨a1, d1, hR1, hS1⟩, ⟨a2, d2, hR2, hS2⟩, ⟨a3, d3, hR3, hS3⟩, -⟩ := id hE.2
  have bC := cvN_b (L := L) (xs := xs)
  have bT := ltN_b (L := L) (xs := xs)
  have bD := dpN_b (L := L) (xs := xs)
  have bS1 := (sb_dg_b (v := ltN L xs) (by omega)).1
  have bS2 := (sb_dg_b (v := dpN L xs) (by omega)).1
  refine va_new (ci := 10) (fs := [.null, .int 0, .int 0, .int 0]) (C := RJ4) (T := TJ4) (N := 4) hx hb hts qwJ4 tyJ4 tyJ4_ok hown (hts _ (am_tb_at 288 (by decide +kernel) rfl)) (hts _ (am_tb_at 289 (by decide +kernel) rfl)) (hts _ (am_tb_at 46 (by decide +kernel) rfl)) hK hP hD hS hA rfl (fun j hj => by rcases (show j = 0 ∨ j = 1 ∨ j = 2 ∨ j = 3 by omega) with rfl | rfl | rfl | rfl <;> rfl) (Nat.le_of_ble_eq_true rfl) (Nat.le_of_ble_eq_true rfl) dk_L_text_0 (fun q1 H hP hD hS => ?_)
  refine W.widen (k := 1) (n := 4) (Nat.le_of_ble_eq_true rfl) (Nat.le_of_ble_eq_true rfl) ?_
  have hP : va_P D vwCl [(q1, .inr (10, [.null, .int 0, .int 0, .int 0]))] H := hP
  have hD : va_D A [(q1, .inr (10, [.null, .int 0, .int 0, .int 0]))] := hD
  refine lv_dup hx hb dk_L_text_3 rfl ?_
  have hPc := hP.sub (ws' := [(q1, .inr (10, [.null, .int 0, .int 0, .int 0]))]) [0] rfl
  have hDc := hD.sub (ws' := [(q1, .inr (10, [.null, .int 0, .int 0, .int 0]))]) [0] (by decide) rfl
  have hFc := va_free (wc := [(q1, .inr (10, [.null, .int 0, .int 0, .int 0]))]) hD hS hA [0] rfl
  refine va_callv (va_runI (As := []) (rest := [.ref q1]) ⟨hx, hb, hml, hown, hts⟩ (sk_sbN l D kC q1 H.size) ⟨am_callB (R := jr 20 800 2100000) (index := 16) 0 (jk_pay htj (am_tb_at 292 (by decide +kernel) rfl)) (hts _ (am_tb_at 292 (by decide +kernel) rfl)) rfl rfl rfl (hts _ (am_tb_at 46 (by decide +kernel) rfl)) (hts _ (am_tb_at 290 (by decide +kernel) rfl)) ⟨by decide, by decide, by decide +kernel⟩ ⟨(by show 4 + 1 ≤ 20; decide), (by show 8 + (1 + 11) + 48 * 4 ≤ 48 * 20; decide)⟩, rfl, (hts _ (am_tb_at 291 (by decide +kernel) rfl))⟩ (ws_S Stb_G hPc hK hDc (fun U hU hW => ws_E Stb_G hE.1.1 hS hU hW hFc)) rfl rfl hl.1 rfl (lv_room (Nat.le_of_ble_eq_true rfl)) dk_L_text_4 ⟨(Nat.le_of_ble_eq_true rfl), (Nat.le_of_ble_eq_true rfl)⟩) hS (fun q _ h => hFc q h) hFc (fun b1_0 t H1 locs hte hvm hz hB hsz hkp hS => ?_)
  obtain ⟨hP1, hD1⟩ := hB
  rw [hte] at hP1
  obtain ⟨hP, hD⟩ := va_join (wr := []) (w1 := [(q1, .inr (10, [.ref b1_0, .int 0, .int 0, .int (nI 0)])), (b1_0, .inl (kC 2, 16, .inl (fun _ => 0)))]) hP hD [0] [] rfl rfl (by decide) (by decide) hkp hFc hP1 hD1
  generalize H1 = H at hP hS ⊢
  have hP : va_P D vwCl [(q1, .inr (10, [.ref b1_0, .int 0, .int 0, .int (nI 0)])), (b1_0, .inl (kC 2, 16, .inl (fun _ => 0)))] H := hP
  have hD : va_D A [(q1, .inr (10, [.ref b1_0, .int 0, .int 0, .int (nI 0)])), (b1_0, .inl (kC 2, 16, .inl (fun _ => 0)))] := hD
  refine W.widen (k := 2) (n := 4004) (Nat.le_of_ble_eq_true rfl) (Nat.le_of_ble_eq_true rfl) ?_
  have hw1_0 : 0 ≤ 16 ∧ 16 ≤ 1700 := ⟨by decide, by decide⟩
  have hf1_0 : sb_Fit (fun _ => 0) := sb_fit0
  have hL1_0 : sb_Lat (lt []) 0 (fun _ => 0) := fun j h => absurd h (Nat.not_lt_zero _)
  have hn1_0 : ([] : List Nat).length = 0 := rfl
  refine va_ldcS hx hb hown hR1 dk_L_text_7 ?_
  have hPc := hP.sub (ws' := [(q1, .inr (10, [.ref b1_0, .int 0, .int 0, .int (nI 0)])), (b1_0, .inl (kC 2, 16, .inl (fun _ => 0)))]) [0, 1] rfl
  have hDc := hD.sub (ws' := [(q1, .inr (10, [.ref b1_0, .int 0, .int 0, .int (nI 0)])), (b1_0, .inl (kC 2, 16, .inl (fun _ => 0)))]) [0, 1] (by decide) rfl
  have hFc := va_free (wc := [(q1, .inr (10, [.ref b1_0, .int 0, .int 0, .int (nI 0)])), (b1_0, .inl (kC 2, 16, .inl (fun _ => 0)))]) hD hS hA [0, 1] rfl
  refine va_callr (va_runV (As := [.ref a1]) (rest := []) ⟨hx, hb, hml, hown, hts⟩ (sk_sbS l D kC q1 b1_0 16 0 0 (fun _ => 0) a1 d1 10 (lt kLimit) (lt ([] : List Nat)) hw1_0.1 hw1_0.2 hf1_0 hL1_0 (by omega) H.size) ⟨am_callB (R := jr 20 800 2100000) (index := 17) 1 (jk_pay htj (am_tb_at 323 (by decide +kernel) rfl)) (hts _ (am_tb_at 323 (by decide +kernel) rfl)) rfl rfl rfl (hts _ (am_tb_at 46 (by decide +kernel) rfl)) (hts _ (am_tb_at 320 (by decide +kernel) rfl)) ⟨by decide, by decide, by decide +kernel⟩ ⟨(by show 13 + 1 ≤ 20; decide), (by show 8 + (2 + 11) + 48 * 13 ≤ 48 * 20; decide)⟩, (hts _ (am_tb_at 321 (by decide +kernel) rfl)), (hts _ (am_tb_at 322 (by decide +kernel) rfl))⟩ (ws_V (Stb_and Stb_G (Stb_S a1 d1 10 (lt kLimit))) (va_recv (q := (RJ4, TJ4, 4)) (q0 := 0) hK hP rfl rfl) hPc hK hDc (fun U hU hW => ⟨ws_E Stb_G hE.1.1 hS hU hW hFc, ws_E (Stb_S a1 d1 10 (lt kLimit)) hS1 hS hU hW hFc⟩)) rfl rfl hl.1 rfl (lv_room (Nat.le_of_ble_eq_true rfl)) dk_L_text_9 ⟨(Nat.le_of_ble_eq_true rfl), (Nat.le_of_ble_eq_true rfl)⟩) hS (fun q _ h => hFc q h) hFc (fun u ra t H1 locs hte hvm hz hB hsz hkp hS => ?_)
  obtain ⟨b1_1, w1_1, g1_1⟩ := u
  obtain ⟨hra, hP1, hD1⟩ := hB
  rw [hte] at hP1
  obtain ⟨hP, hD⟩ := va_join (wr := []) (w1 := [(q1, .inr (10, [.ref b1_1, .int 0, .int 0, .int (nI ((0 + 10)))])), (b1_1, .inl (kC 2, w1_1, .inl g1_1))]) hP hD [0, 1] [] rfl rfl (by decide) (by decide) hkp hFc hP1 hD1
  generalize H1 = H at hP hS ⊢
  have hP : va_P D vwCl [(q1, .inr (10, [.ref b1_1, .int 0, .int 0, .int (nI ((0 + 10)))])), (b1_1, .inl (kC 2, w1_1, .inl g1_1))] H := hP
  have hD : va_D A [(q1, .inr (10, [.ref b1_1, .int 0, .int 0, .int (nI ((0 + 10)))])), (b1_1, .inl (kC 2, w1_1, .inl g1_1))] := hD
  refine W.widen (k := 3) (n := 8004) (Nat.le_of_ble_eq_true rfl) (Nat.le_of_ble_eq_true rfl) ?_
  dsimp only at hz
  obtain ⟨hw1_1, hf1_1, hL0⟩ := hz
  have hy1_1 : (kLimit : List Nat).length = 10 := rfl
  have hL1_1 := ll_cat hn1_0 hy1_1 hL0
  have hn1_1 := ll_len hn1_0 hy1_1
  rw [hra]
  refine lv_aload_n hx hb dk_L_text_12 rfl (lv_at hl 0 rfl) ?_
  have hPc : va_P D vwCl [] H := ws_nP
  have hDc : va_D A [] := ws_nD
  have hFc : ∀ q, va_A [] H.size q → A q := fun q h => hA q (Nat.le_trans hS.1 (ws_nA h))
  refine va_calli (va_runS (As := [.ref bs]) (rest := [.ref q1]) ⟨hx, hb, hml, hown, hts⟩ (sk_limit l D kC bs L xs hLb H.size) ⟨am_callB (R := jr 20 800 2100000) (index := 57) 1 (jk_pay htj (am_tb_at 442 (by decide +kernel) rfl)) (hts _ (am_tb_at 442 (by decide +kernel) rfl)) rfl rfl rfl (hts _ (am_tb_at 34 (by decide +kernel) rfl)) (hts _ (am_tb_at 440 (by decide +kernel) rfl)) ⟨by decide, by decide, by decide +kernel⟩ ⟨(by show 2 + 1 ≤ 20; decide), (by show 8 + (1 + 11) + 48 * 2 ≤ 48 * 20; decide)⟩, (hts _ (am_tb_at 441 (by decide +kernel) rfl))⟩ (ws_S (Stb_and Stb_G (Stb_X bs L xs)) hPc hK hDc (fun U hU hW => ws_E (Stb_and Stb_G (Stb_X bs L xs)) hE.1 hS hU hW hFc)) rfl rfl hl.1 rfl (lv_room (Nat.le_of_ble_eq_true rfl)) dk_L_text_13 ⟨(Nat.le_of_ble_eq_true rfl), (Nat.le_of_ble_eq_true rfl)⟩) hS (fun q _ h => hFc q h) hFc (fun r0 u t H1 locs hte hvm hz hB hsz hkp hS => ?_)
  have hP := ws_kept hP hkp
  generalize H1 = H at hP hS ⊢
  have hP : va_P D vwCl [(q1, .inr (10, [.ref b1_1, .int 0, .int 0, .int (nI ((0 + 10)))])), (b1_1, .inl (kC 2, w1_1, .inl g1_1))] H := hP
  have hD : va_D A [(q1, .inr (10, [.ref b1_1, .int 0, .int 0, .int (nI ((0 + 10)))])), (b1_1, .inl (kC 2, w1_1, .inl g1_1))] := hD
  refine W.widen (k := 3) (n := 8004) (Nat.le_of_ble_eq_true rfl) (Nat.le_of_ble_eq_true rfl) ?_
  subst hz
  have hPc := hP.sub (ws' := [(q1, .inr (10, [.ref b1_1, .int 0, .int 0, .int (nI ((0 + 10)))])), (b1_1, .inl (kC 2, w1_1, .inl g1_1))]) [0, 1] rfl
  have hDc := hD.sub (ws' := [(q1, .inr (10, [.ref b1_1, .int 0, .int 0, .int (nI ((0 + 10)))])), (b1_1, .inl (kC 2, w1_1, .inl g1_1))]) [0, 1] (by decide) rfl
  have hFc := va_free (wc := [(q1, .inr (10, [.ref b1_1, .int 0, .int 0, .int (nI ((0 + 10)))])), (b1_1, .inl (kC 2, w1_1, .inl g1_1))]) hD hS hA [0, 1] rfl
  refine va_callr (va_runV (As := [.int (nI (ltN L xs))]) (rest := []) ⟨hx, hb, hml, hown, hts⟩ (sk_sbI l D kC q1 b1_1 w1_1 (0 + 10) 0 g1_1 (ltN L xs) (by omega) (lt (([] : List Nat) ++ kLimit)) hw1_1.1 hw1_1.2 hf1_1 hL1_1 (by omega) H.size) ⟨am_callB (R := jr 20 800 2100000) (index := 52) 1 (jk_pay htj (am_tb_at 446 (by decide +kernel) rfl)) (hts _ (am_tb_at 446 (by decide +kernel) rfl)) rfl rfl rfl (hts _ (am_tb_at 46 (by decide +kernel) rfl)) (hts _ (am_tb_at 443 (by decide +kernel) rfl)) ⟨by decide, by decide, by decide +kernel⟩ ⟨(by show 13 + 1 ≤ 20; decide), (by show 8 + (2 + 11) + 48 * 13 ≤ 48 * 20; decide)⟩, (hts _ (am_tb_at 444 (by decide +kernel) rfl)), (hts _ (am_tb_at 445 (by decide +kernel) rfl))⟩ (ws_V Stb_G (va_recv (q := (RJ4, TJ4, 4)) (q0 := 0) hK hP rfl rfl) hPc hK hDc (fun U hU hW => ws_E Stb_G hE.1.1 hS hU hW hFc)) rfl rfl hl.1 rfl (lv_room (Nat.le_of_ble_eq_true rfl)) dk_L_text_16 ⟨(Nat.le_of_ble_eq_true rfl), (Nat.le_of_ble_eq_true rfl)⟩) hS (fun q _ h => hFc q h) hFc (fun u ra t H1 locs hte hvm hz hB hsz hkp hS => ?_)
  obtain ⟨b1_2, w1_2, g1_2⟩ := u
  obtain ⟨hra, hP1, hD1⟩ := hB
  rw [hte] at hP1
  obtain ⟨hP, hD⟩ := va_join (wr := []) (w1 := [(q1, .inr (10, [.ref b1_2, .int 0, .int 0, .int (nI (((0 + 10) + (sb_dg (ltN L xs)))))])), (b1_2, .inl (kC 2, w1_2, .inl g1_2))]) hP hD [0, 1] [] rfl rfl (by decide) (by decide) hkp hFc hP1 hD1
  generalize H1 = H at hP hS ⊢
  have hP : va_P D vwCl [(q1, .inr (10, [.ref b1_2, .int 0, .int 0, .int (nI (((0 + 10) + (sb_dg (ltN L xs)))))])), (b1_2, .inl (kC 2, w1_2, .inl g1_2))] H := hP
  have hD : va_D A [(q1, .inr (10, [.ref b1_2, .int 0, .int 0, .int (nI (((0 + 10) + (sb_dg (ltN L xs)))))])), (b1_2, .inl (kC 2, w1_2, .inl g1_2))] := hD
  refine W.widen (k := 4) (n := 12004) (Nat.le_of_ble_eq_true rfl) (Nat.le_of_ble_eq_true rfl) ?_
  dsimp only at hz
  obtain ⟨hw1_2, hf1_2, hL0⟩ := hz
  have hy1_2 : ((decL (ltN L xs)) : List Nat).length = sb_dg (ltN L xs) := decL_len _
  have hL1_2 := ll_catI hn1_1 hL0
  have hn1_2 := ll_len hn1_1 hy1_2
  rw [hra]
  refine va_ldcS hx hb hown hR2 dk_L_text_19 ?_
  have hPc := hP.sub (ws' := [(q1, .inr (10, [.ref b1_2, .int 0, .int 0, .int (nI (((0 + 10) + (sb_dg (ltN L xs)))))])), (b1_2, .inl (kC 2, w1_2, .inl g1_2))]) [0, 1] rfl
  have hDc := hD.sub (ws' := [(q1, .inr (10, [.ref b1_2, .int 0, .int 0, .int (nI (((0 + 10) + (sb_dg (ltN L xs)))))])), (b1_2, .inl (kC 2, w1_2, .inl g1_2))]) [0, 1] (by decide) rfl
  have hFc := va_free (wc := [(q1, .inr (10, [.ref b1_2, .int 0, .int 0, .int (nI (((0 + 10) + (sb_dg (ltN L xs)))))])), (b1_2, .inl (kC 2, w1_2, .inl g1_2))]) hD hS hA [0, 1] rfl
  refine va_callr (va_runV (As := [.ref a2]) (rest := []) ⟨hx, hb, hml, hown, hts⟩ (sk_sbS l D kC q1 b1_2 w1_2 ((0 + 10) + (sb_dg (ltN L xs))) 0 g1_2 a2 d2 11 (lt kDepth) (lt ((([] : List Nat) ++ kLimit) ++ (decL (ltN L xs)))) hw1_2.1 hw1_2.2 hf1_2 hL1_2 (by omega) H.size) ⟨am_callB (R := jr 20 800 2100000) (index := 17) 1 (jk_pay htj (am_tb_at 323 (by decide +kernel) rfl)) (hts _ (am_tb_at 323 (by decide +kernel) rfl)) rfl rfl rfl (hts _ (am_tb_at 46 (by decide +kernel) rfl)) (hts _ (am_tb_at 320 (by decide +kernel) rfl)) ⟨by decide, by decide, by decide +kernel⟩ ⟨(by show 13 + 1 ≤ 20; decide), (by show 8 + (2 + 11) + 48 * 13 ≤ 48 * 20; decide)⟩, (hts _ (am_tb_at 321 (by decide +kernel) rfl)), (hts _ (am_tb_at 322 (by decide +kernel) rfl))⟩ (ws_V (Stb_and Stb_G (Stb_S a2 d2 11 (lt kDepth))) (va_recv (q := (RJ4, TJ4, 4)) (q0 := 0) hK hP rfl rfl) hPc hK hDc (fun U hU hW => ⟨ws_E Stb_G hE.1.1 hS hU hW hFc, ws_E (Stb_S a2 d2 11 (lt kDepth)) hS2 hS hU hW hFc⟩)) rfl rfl hl.1 rfl (lv_room (Nat.le_of_ble_eq_true rfl)) dk_L_text_21 ⟨(Nat.le_of_ble_eq_true rfl), (Nat.le_of_ble_eq_true rfl)⟩) hS (fun q _ h => hFc q h) hFc (fun u ra t H1 locs hte hvm hz hB hsz hkp hS => ?_)
  obtain ⟨b1_3, w1_3, g1_3⟩ := u
  obtain ⟨hra, hP1, hD1⟩ := hB
  rw [hte] at hP1
  obtain ⟨hP, hD⟩ := va_join (wr := []) (w1 := [(q1, .inr (10, [.ref b1_3, .int 0, .int 0, .int (nI ((((0 + 10) + (sb_dg (ltN L xs))) + 11)))])), (b1_3, .inl (kC 2, w1_3, .inl g1_3))]) hP hD [0, 1] [] rfl rfl (by decide) (by decide) hkp hFc hP1 hD1
  generalize H1 = H at hP hS ⊢
  have hP : va_P D vwCl [(q1, .inr (10, [.ref b1_3, .int 0, .int 0, .int (nI ((((0 + 10) + (sb_dg (ltN L xs))) + 11)))])), (b1_3, .inl (kC 2, w1_3, .inl g1_3))] H := hP
  have hD : va_D A [(q1, .inr (10, [.ref b1_3, .int 0, .int 0, .int (nI ((((0 + 10) + (sb_dg (ltN L xs))) + 11)))])), (b1_3, .inl (kC 2, w1_3, .inl g1_3))] := hD
  refine W.widen (k := 5) (n := 16004) (Nat.le_of_ble_eq_true rfl) (Nat.le_of_ble_eq_true rfl) ?_
  dsimp only at hz
  obtain ⟨hw1_3, hf1_3, hL0⟩ := hz
  have hy1_3 : (kDepth : List Nat).length = 11 := rfl
  have hL1_3 := ll_cat hn1_2 hy1_3 hL0
  have hn1_3 := ll_len hn1_2 hy1_3
  rw [hra]
  refine lv_aload_n hx hb dk_L_text_24 rfl (lv_at hl 0 rfl) ?_
  have hPc : va_P D vwCl [] H := ws_nP
  have hDc : va_D A [] := ws_nD
  have hFc : ∀ q, va_A [] H.size q → A q := fun q h => hA q (Nat.le_trans hS.1 (ws_nA h))
  refine va_calli (va_runS (As := [.ref bs]) (rest := [.ref q1]) ⟨hx, hb, hml, hown, hts⟩ (sk_depth l D kC bs L xs hLb H.size) ⟨am_callB (R := jr 20 800 2100000) (index := 63) 1 (jk_pay htj (am_tb_at 471 (by decide +kernel) rfl)) (hts _ (am_tb_at 471 (by decide +kernel) rfl)) rfl rfl rfl (hts _ (am_tb_at 34 (by decide +kernel) rfl)) (hts _ (am_tb_at 469 (by decide +kernel) rfl)) ⟨by decide, by decide, by decide +kernel⟩ ⟨(by show 2 + 1 ≤ 20; decide), (by show 8 + (1 + 11) + 48 * 2 ≤ 48 * 20; decide)⟩, (hts _ (am_tb_at 470 (by decide +kernel) rfl))⟩ (ws_S (Stb_and Stb_G (Stb_X bs L xs)) hPc hK hDc (fun U hU hW => ws_E (Stb_and Stb_G (Stb_X bs L xs)) hE.1 hS hU hW hFc)) rfl rfl hl.1 rfl (lv_room (Nat.le_of_ble_eq_true rfl)) dk_L_text_25 ⟨(Nat.le_of_ble_eq_true rfl), (Nat.le_of_ble_eq_true rfl)⟩) hS (fun q _ h => hFc q h) hFc (fun r0 u t H1 locs hte hvm hz hB hsz hkp hS => ?_)
  have hP := ws_kept hP hkp
  generalize H1 = H at hP hS ⊢
  have hP : va_P D vwCl [(q1, .inr (10, [.ref b1_3, .int 0, .int 0, .int (nI ((((0 + 10) + (sb_dg (ltN L xs))) + 11)))])), (b1_3, .inl (kC 2, w1_3, .inl g1_3))] H := hP
  have hD : va_D A [(q1, .inr (10, [.ref b1_3, .int 0, .int 0, .int (nI ((((0 + 10) + (sb_dg (ltN L xs))) + 11)))])), (b1_3, .inl (kC 2, w1_3, .inl g1_3))] := hD
  refine W.widen (k := 5) (n := 16004) (Nat.le_of_ble_eq_true rfl) (Nat.le_of_ble_eq_true rfl) ?_
  subst hz
  have hPc := hP.sub (ws' := [(q1, .inr (10, [.ref b1_3, .int 0, .int 0, .int (nI ((((0 + 10) + (sb_dg (ltN L xs))) + 11)))])), (b1_3, .inl (kC 2, w1_3, .inl g1_3))]) [0, 1] rfl
  have hDc := hD.sub (ws' := [(q1, .inr (10, [.ref b1_3, .int 0, .int 0, .int (nI ((((0 + 10) + (sb_dg (ltN L xs))) + 11)))])), (b1_3, .inl (kC 2, w1_3, .inl g1_3))]) [0, 1] (by decide) rfl
  have hFc := va_free (wc := [(q1, .inr (10, [.ref b1_3, .int 0, .int 0, .int (nI ((((0 + 10) + (sb_dg (ltN L xs))) + 11)))])), (b1_3, .inl (kC 2, w1_3, .inl g1_3))]) hD hS hA [0, 1] rfl
  refine va_callr (va_runV (As := [.int (nI (dpN L xs))]) (rest := []) ⟨hx, hb, hml, hown, hts⟩ (sk_sbI l D kC q1 b1_3 w1_3 (((0 + 10) + (sb_dg (ltN L xs))) + 11) 0 g1_3 (dpN L xs) (by omega) (lt (((([] : List Nat) ++ kLimit) ++ (decL (ltN L xs))) ++ kDepth)) hw1_3.1 hw1_3.2 hf1_3 hL1_3 (by omega) H.size) ⟨am_callB (R := jr 20 800 2100000) (index := 52) 1 (jk_pay htj (am_tb_at 446 (by decide +kernel) rfl)) (hts _ (am_tb_at 446 (by decide +kernel) rfl)) rfl rfl rfl (hts _ (am_tb_at 46 (by decide +kernel) rfl)) (hts _ (am_tb_at 443 (by decide +kernel) rfl)) ⟨by decide, by decide, by decide +kernel⟩ ⟨(by show 13 + 1 ≤ 20; decide), (by show 8 + (2 + 11) + 48 * 13 ≤ 48 * 20; decide)⟩, (hts _ (am_tb_at 444 (by decide +kernel) rfl)), (hts _ (am_tb_at 445 (by decide +kernel) rfl))⟩ (ws_V Stb_G (va_recv (q := (RJ4, TJ4, 4)) (q0 := 0) hK hP rfl rfl) hPc hK hDc (fun U hU hW => ws_E Stb_G hE.1.1 hS hU hW hFc)) rfl rfl hl.1 rfl (lv_room (Nat.le_of_ble_eq_true rfl)) dk_L_text_28 ⟨(Nat.le_of_ble_eq_true rfl), (Nat.le_of_ble_eq_true rfl)⟩) hS (fun q _ h => hFc q h) hFc (fun u ra t H1 locs hte hvm hz hB hsz hkp hS => ?_)
  obtain ⟨b1_4, w1_4, g1_4⟩ := u
  obtain ⟨hra, hP1, hD1⟩ := hB
  rw [hte] at hP1
  obtain ⟨hP, hD⟩ := va_join (wr := []) (w1 := [(q1, .inr (10, [.ref b1_4, .int 0, .int 0, .int (nI (((((0 + 10) + (sb_dg (ltN L xs))) + 11) + (sb_dg (dpN L xs)))))])), (b1_4, .inl (kC 2, w1_4, .inl g1_4))]) hP hD [0, 1] [] rfl rfl (by decide) (by decide) hkp hFc hP1 hD1
  generalize H1 = H at hP hS ⊢
  have hP : va_P D vwCl [(q1, .inr (10, [.ref b1_4, .int 0, .int 0, .int (nI (((((0 + 10) + (sb_dg (ltN L xs))) + 11) + (sb_dg (dpN L xs)))))])), (b1_4, .inl (kC 2, w1_4, .inl g1_4))] H := hP
  have hD : va_D A [(q1, .inr (10, [.ref b1_4, .int 0, .int 0, .int (nI (((((0 + 10) + (sb_dg (ltN L xs))) + 11) + (sb_dg (dpN L xs)))))])), (b1_4, .inl (kC 2, w1_4, .inl g1_4))] := hD
  refine W.widen (k := 6) (n := 20004) (Nat.le_of_ble_eq_true rfl) (Nat.le_of_ble_eq_true rfl) ?_
  dsimp only at hz
  obtain ⟨hw1_4, hf1_4, hL0⟩ := hz
  have hy1_4 : ((decL (dpN L xs)) : List Nat).length = sb_dg (dpN L xs) := decL_len _
  have hL1_4 := ll_catI hn1_3 hL0
  have hn1_4 := ll_len hn1_3 hy1_4
  rw [hra]
  refine va_ldcS hx hb hown hR3 dk_L_text_31 ?_
  have hPc := hP.sub (ws' := [(q1, .inr (10, [.ref b1_4, .int 0, .int 0, .int (nI (((((0 + 10) + (sb_dg (ltN L xs))) + 11) + (sb_dg (dpN L xs)))))])), (b1_4, .inl (kC 2, w1_4, .inl g1_4))]) [0, 1] rfl
  have hDc := hD.sub (ws' := [(q1, .inr (10, [.ref b1_4, .int 0, .int 0, .int (nI (((((0 + 10) + (sb_dg (ltN L xs))) + 11) + (sb_dg (dpN L xs)))))])), (b1_4, .inl (kC 2, w1_4, .inl g1_4))]) [0, 1] (by decide) rfl
  have hFc := va_free (wc := [(q1, .inr (10, [.ref b1_4, .int 0, .int 0, .int (nI (((((0 + 10) + (sb_dg (ltN L xs))) + 11) + (sb_dg (dpN L xs)))))])), (b1_4, .inl (kC 2, w1_4, .inl g1_4))]) hD hS hA [0, 1] rfl
  refine va_callr (va_runV (As := [.ref a3]) (rest := []) ⟨hx, hb, hml, hown, hts⟩ (sk_sbS l D kC q1 b1_4 w1_4 ((((0 + 10) + (sb_dg (ltN L xs))) + 11) + (sb_dg (dpN L xs))) 0 g1_4 a3 d3 1 (lt ([59])) (lt ((((([] : List Nat) ++ kLimit) ++ (decL (ltN L xs))) ++ kDepth) ++ (decL (dpN L xs)))) hw1_4.1 hw1_4.2 hf1_4 hL1_4 (by omega) H.size) ⟨am_callB (R := jr 20 800 2100000) (index := 17) 1 (jk_pay htj (am_tb_at 323 (by decide +kernel) rfl)) (hts _ (am_tb_at 323 (by decide +kernel) rfl)) rfl rfl rfl (hts _ (am_tb_at 46 (by decide +kernel) rfl)) (hts _ (am_tb_at 320 (by decide +kernel) rfl)) ⟨by decide, by decide, by decide +kernel⟩ ⟨(by show 13 + 1 ≤ 20; decide), (by show 8 + (2 + 11) + 48 * 13 ≤ 48 * 20; decide)⟩, (hts _ (am_tb_at 321 (by decide +kernel) rfl)), (hts _ (am_tb_at 322 (by decide +kernel) rfl))⟩ (ws_V (Stb_and Stb_G (Stb_S a3 d3 1 (lt ([59])))) (va_recv (q := (RJ4, TJ4, 4)) (q0 := 0) hK hP rfl rfl) hPc hK hDc (fun U hU hW => ⟨ws_E Stb_G hE.1.1 hS hU hW hFc, ws_E (Stb_S a3 d3 1 (lt [59])) hS3 hS hU hW hFc⟩)) rfl rfl hl.1 rfl (lv_room (Nat.le_of_ble_eq_true rfl)) dk_L_text_33 ⟨(Nat.le_of_ble_eq_true rfl), (Nat.le_of_ble_eq_true rfl)⟩) hS (fun q _ h => hFc q h) hFc (fun u ra t H1 locs hte hvm hz hB hsz hkp hS => ?_)
  obtain ⟨b1_5, w1_5, g1_5⟩ := u
  obtain ⟨hra, hP1, hD1⟩ := hB
  rw [hte] at hP1
  obtain ⟨hP, hD⟩ := va_join (wr := []) (w1 := [(q1, .inr (10, [.ref b1_5, .int 0, .int 0, .int (nI ((((((0 + 10) + (sb_dg (ltN L xs))) + 11) + (sb_dg (dpN L xs))) + 1)))])), (b1_5, .inl (kC 2, w1_5, .inl g1_5))]) hP hD [0, 1] [] rfl rfl (by decide) (by decide) hkp hFc hP1 hD1
  generalize H1 = H at hP hS ⊢
  have hP : va_P D vwCl [(q1, .inr (10, [.ref b1_5, .int 0, .int 0, .int (nI ((((((0 + 10) + (sb_dg (ltN L xs))) + 11) + (sb_dg (dpN L xs))) + 1)))])), (b1_5, .inl (kC 2, w1_5, .inl g1_5))] H := hP
  have hD : va_D A [(q1, .inr (10, [.ref b1_5, .int 0, .int 0, .int (nI ((((((0 + 10) + (sb_dg (ltN L xs))) + 11) + (sb_dg (dpN L xs))) + 1)))])), (b1_5, .inl (kC 2, w1_5, .inl g1_5))] := hD
  refine W.widen (k := 7) (n := 24004) (Nat.le_of_ble_eq_true rfl) (Nat.le_of_ble_eq_true rfl) ?_
  dsimp only at hz
  obtain ⟨hw1_5, hf1_5, hL0⟩ := hz
  have hy1_5 : ([59] : List Nat).length = 1 := rfl
  have hL1_5 := ll_cat hn1_4 hy1_5 hL0
  have hn1_5 := ll_len hn1_4 hy1_5
  rw [hra]
  have hPc : va_P D vwCl [] H := ws_nP
  have hDc : va_D A [] := ws_nD
  have hFc : ∀ q, va_A [] H.size q → A q := fun q h => hA q (Nat.le_trans hS.1 (ws_nA h))
  refine va_callr (va_runV (As := []) (rest := []) ⟨hx, hb, hml, hown, hts⟩ (sk_toS l D kC q1 b1_5 w1_5 ((((((0 + 10) + (sb_dg (ltN L xs))) + 11) + (sb_dg (dpN L xs))) + 1)) g1_5 (lt (((((([] : List Nat) ++ kLimit) ++ (decL (ltN L xs))) ++ kDepth) ++ (decL (dpN L xs))) ++ [59])) hw1_5.1 (by omega) hf1_5 hL1_5 H.size) ⟨am_callB (R := jr 20 800 2100000) (index := 23) 0 (jk_pay htj (am_tb_at 476 (by decide +kernel) rfl)) (hts _ (am_tb_at 476 (by decide +kernel) rfl)) rfl rfl rfl (hts _ (am_tb_at 46 (by decide +kernel) rfl)) (hts _ (am_tb_at 473 (by decide +kernel) rfl)) ⟨by decide, by decide, by decide +kernel⟩ ⟨(by show 10 + 1 ≤ 20; decide), (by show 8 + (1 + 11) + 48 * 10 ≤ 48 * 20; decide)⟩, (hts _ (am_tb_at 474 (by decide +kernel) rfl)), (hts _ (am_tb_at 475 (by decide +kernel) rfl))⟩ (ws_V (Stb_and Stb_G (Stb_B kC q1 b1_5 w1_5 ((((((0 + 10) + (sb_dg (ltN L xs))) + 11) + (sb_dg (dpN L xs))) + 1)) g1_5)) (va_recv (q := (RJ4, TJ4, 4)) (q0 := 0) hK hP rfl rfl) hPc hK hDc (fun U hU hW => ⟨ws_E Stb_G hE.1.1 hS hU hW hFc, ws_N (Stb_B kC q1 b1_5 w1_5 ((((((0 + 10) + (sb_dg (ltN L xs))) + 11) + (sb_dg (dpN L xs))) + 1)) g1_5) (ro_B hts hK hP 0 1 rfl rfl (ws_n0 hP 0 rfl) (ws_n0 hP 1 rfl)) hU hW⟩)) rfl rfl hl.1 rfl (lv_room (Nat.le_of_ble_eq_true rfl)) dk_L_text_36 ⟨(Nat.le_of_ble_eq_true rfl), (Nat.le_of_ble_eq_true rfl)⟩) hS (fun q _ h => hFc q h) hFc (fun u s1 t H1 locs hte hvm hz hB hsz hkp hS => ?_)
  obtain ⟨ds1, gs1⟩ := u
  obtain ⟨hP1, hD1⟩ := hB
  rw [hte] at hP1
  obtain ⟨hP, hD⟩ := va_join (wr := [(q1, .inr (10, [.ref b1_5, .int 0, .int 0, .int (nI ((((((0 + 10) + (sb_dg (ltN L xs))) + 11) + (sb_dg (dpN L xs))) + 1)))])), (b1_5, .inl (kC 2, w1_5, .inl g1_5))]) (w1 := [(s1, .inr (9, [.ref ds1, .int 0, .int 0, .int 0])), (ds1, .inl (kC 2, (((((0 + 10) + (sb_dg (ltN L xs))) + 11) + (sb_dg (dpN L xs))) + 1), .inl gs1))]) hP hD [] [0, 1] rfl rfl (by decide) (by decide) hkp hFc hP1 hD1
  generalize H1 = H at hP hS ⊢
  have hP : va_P D vwCl [(q1, .inr (10, [.ref b1_5, .int 0, .int 0, .int (nI ((((((0 + 10) + (sb_dg (ltN L xs))) + 11) + (sb_dg (dpN L xs))) + 1)))])), (b1_5, .inl (kC 2, w1_5, .inl g1_5)), (s1, .inr (9, [.ref ds1, .int 0, .int 0, .int 0])), (ds1, .inl (kC 2, (((((0 + 10) + (sb_dg (ltN L xs))) + 11) + (sb_dg (dpN L xs))) + 1), .inl gs1))] H := hP
  have hD : va_D A [(q1, .inr (10, [.ref b1_5, .int 0, .int 0, .int (nI ((((((0 + 10) + (sb_dg (ltN L xs))) + 11) + (sb_dg (dpN L xs))) + 1)))])), (b1_5, .inl (kC 2, w1_5, .inl g1_5)), (s1, .inr (9, [.ref ds1, .int 0, .int 0, .int 0])), (ds1, .inl (kC 2, (((((0 + 10) + (sb_dg (ltN L xs))) + 11) + (sb_dg (dpN L xs))) + 1), .inl gs1))] := hD
  refine W.widen (k := 9) (n := 28014) (Nat.le_of_ble_eq_true rfl) (Nat.le_of_ble_eq_true rfl) ?_
  dsimp only at hz
  obtain ⟨hfs1, hLs1⟩ := hz
  have hP := hP.sub (ws' := [(s1, .inr (9, [.ref ds1, .int 0, .int 0, .int 0])), (ds1, .inl (kC 2, (((((0 + 10) + (sb_dg (ltN L xs))) + 11) + (sb_dg (dpN L xs))) + 1), .inl gs1))]) [2, 3] rfl
  have hD := hD.sub (ws' := [(s1, .inr (9, [.ref ds1, .int 0, .int 0, .int 0])), (ds1, .inl (kC 2, (((((0 + 10) + (sb_dg (ltN L xs))) + 11) + (sb_dg (dpN L xs))) + 1), .inl gs1))]) [2, 3] (by decide) rfl
  refine lv_astore_n (lv' := [(1, .ref s1), (0, .ref bs)]) hx hb dk_L_text_39 rfl hl (by decide) rfl (fun ls hl => ?_)
  refine lv_iconst (v := 0) hx hb dk_L_text_40 (by decide) ?_
  refine lv_istore_n (lv' := [(2, .int 0), (1, .ref s1), (0, .ref bs)]) hx hb dk_L_text_41 rfl hl (by decide) rfl (fun ls hl => ?_)
  have hl : lv_has ls 5 [(1, .ref s1), (2, .int (nI 0)), (0, .ref bs)] := lv_sub hl [1, 0, 2] rfl
  have hB1 : 200 + cvN L xs * 110 ≤ 750 := Nat.add_le_add_left (Nat.mul_le_mul_right 110 bC.2) 200
  have hB2 : 530000 + cvN L xs * 300700 ≤ 2033500 := Nat.add_le_add_left (Nat.mul_le_mul_right 300700 bC.2) 530000
  have hT : (((((([] : List Nat) ++ kLimit) ++ (decL (ltN L xs))) ++ kDepth) ++ (decL (dpN L xs))) ++ [59]) = tC L xs 0 := by show _ = tx0 L xs ++ []; rw [List.append_nil]; rfl
  rw [hT] at hLs1 hn1_5
  exact tx_C hEnv (cvN L xs) 0 (by omega) _ _ _ _ _ _ _ _ _ hl hP hD hS hfs1 hLs1 hn1_5 (Nat.le_trans (Nat.add_le_add_left hB1 _) (Nat.le_of_ble_eq_true rfl)) (Nat.le_trans (Nat.add_le_add_left hB2 _) (Nat.le_of_ble_eq_true rfl))
