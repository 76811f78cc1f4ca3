/-! the start -/
theorem lw_eqe {args : Array Value} {s : State} {t : Term} {z : Int32} (h : (Cond.eq t (.int z)).before args s = true) : t.eval args s none [] s = some (.int z) := by
  cases hv : t.eval args s none [] s with
  | none => simp [Cond.before, Cond.holds, Cond.value, hv] at h
  | some w =>
    have hz : (Term.int z).eval args s none [] s = some (.int z) := rfl
    simp only [Cond.before, Cond.holds, Cond.value, hv, hz] at h
    cases w <;> simp_all
theorem A8_o {b : Nat} {i : Int} (h : b ≠ 2) : A8 b i = 0 := by
  unfold A8
  rw [fput_r h, fput_r h]
  unfold fillA
  rw [if_neg (fun q => h q.1)]
theorem ptF_51 {k : Nat} : ptF F8 k 5 1 = 0 := by
  unfold ptF F8
  rw [upF_o (by decide), upF_o (by decide)]
/-- the figure stands -/
theorem ld_lwI {L : Nat} {xs : Nat → Int32} {G : FF} {B : AA} (h : ldQ (ptF F8 ((txT L xs).length + nd20 (txT L xs).length)) G (ptA (lt (pdL (txT L xs))) A8 ((txT L xs).length + nd20 (txT L xs).length)) B (txT L xs).length) : lwI G B (cvN L xs) (lnN L xs) := by
  obtain ⟨e1, e2⟩ := ld_txt L xs A8 (ptF F8 ((txT L xs).length + nd20 (txT L xs).length))
  obtain ⟨q1, q2, q3, q4, q5⟩ := h
  have hn : ¬ (ldR (ptA (lt (pdL (txT L xs))) A8 ((txT L xs).length + nd20 (txT L xs).length)) (ptF F8 ((txT L xs).length + nd20 (txT L xs).length)) (txT L xs).length).1 < 0 := by
    rw [e1]
    omega
  obtain ⟨g1, g2, g3, g4⟩ := q5 hn
  have hf := ld_F hn
  obtain ⟨n0, n1, -, -⟩ := e2
  have z : ∀ (b : Nat) (i : Int), b ≠ 2 → b ≠ 4 → b ≠ 8 → B b i = 0 := fun b i h2 h4 h8 => by
    rw [g3 b i ⟨h4, h2⟩]
    unfold ptA
    rw [setR_o h8]
    exact A8_o h2
  have a51 : G 5 1 = 0 := (q1 5 1 ⟨by decide, by decide, by decide⟩).trans ptF_51
  refine ⟨fig_c hf g4, ⟨⟨by omega, by omega⟩, by omega, by omega⟩, fun c c0 c1 => ?_, (g4 0 (by decide) (by decide)).trans n0, (g4 1 (by decide) (by decide)).trans n1⟩
  have z12 := z 12 c (by decide) (by decide) (by decide)
  have z13 := z 13 c (by decide) (by decide) (by decide)
  exact ⟨⟨by omega, by omega⟩, ⟨by omega, by omega⟩, fun q => absurd q (by omega)⟩
theorem wL_eq (al0 : Nat → Nat) (kC : Nat → ClassId) (b : Nat) (F : FF) (A : AA) : am_ws al0 kC layX F A = am_ws (fun k => if k = 999 then b else al0 k) kC layX F A := by
  rw [am_ws_wl, am_ws_wl]
  rfl
theorem start_k {args : Array Value} {s : State} {k : Nat} {tx : String} {S : List Nat} (h0 : (Cond.stringRef RL k tx).before args s = true) (hex : (Cond.exactly (.string RL k) "java/lang/String").before args s = true) (hco : (Cond.eq (.field (.string RL k) "java/lang/String" "coder" "B") (.int 0)).before args s = true) (har : (Cond.arrayOf (.field (.string RL k) "java/lang/String" "value" "[B") .byte).before args s = true) (hle : (Cond.eq (.length (.field (.string RL k) "java/lang/String" "value" "[B")) (.int (Int32.ofNat S.length))).before args s = true)
    (hel : ∀ j : Nat, j < S.length → (Cond.eq (.elem (.field (.string RL k) "java/lang/String" "value" "[B") (.int (Int32.ofNat j))) (.int ((S.map nI).getD j 0))).before args s = true) (hS : S.length < 2 ^ 31) (hb : ∀ a, a ∈ S → a < 128) : js_K k tx S (fun q => s.heap.size ≤ q) s s.heap := by
  have hA : ∀ a : Nat, a < s.heap.size → ¬ s.heap.size ≤ a := fun a h => Nat.not_le.mpr h
  have n0 : ∀ i : Nat, i < 1 → i = 0 := fun i h => by omega
  obtain ⟨adK, adV, ⟨h1, -⟩, h2⟩ := vk_Sof (args := args) (s := s) (N := 1) (tm := fun _ => .string RL k) (len := [S.length]) (byt := [S.map nI]) (A := fun q => s.heap.size ≤ q)
    (fun i hi => by rw [n0 i hi]; exact hS) (fun i hi => hex) (fun i hi => hco) (fun i hi => har) (fun i hi => by rw [n0 i hi]; exact hle)
    (fun i hi j hj => by rw [n0 i hi] at hj ⊢; exact hel j hj) (fun i j hi hj hij => absurd ((n0 i hi).trans (n0 j hj).symm) hij) hA
  obtain ⟨o1, o2, o3, o4⟩ := h1 0 (by decide)
  have h8 : ∀ j, lt S j < 128 := fun j => lt_mem hb
  have e9 : ∀ j, (S.map nI).getD j 0 = nI (lt S j) := fun j => by
    unfold lt
    rw [List.getD_eq_getElem?_getD, List.getD_eq_getElem?_getD, List.getElem?_map]
    cases S[j]? <;> rfl
  refine ⟨adK 0, adV 0, vk_R.of h0 (h2 0 (by decide)), o1, o2, o3, fun j => (S.map nI).getD j 0, o4, fun j hj => ⟨?_, ?_⟩, fun j => ?_⟩
  · have := h8 j; omega
  · show (S.map nI).getD j 0 = _
    rw [e9]
    exact (nib _ (h8 j)).2
  · show fits .byte (.int ((S.map nI).getD j 0)) = true
    rw [e9]
    exact nfit _ (h8 j)
theorem start_c55 {args : Array Value} {s : State} (hgv : (Jvm.Cond.and given_1 narrow_1).before args s = true) (hts : ∀ w ∈ lw_tbl, w.before args s = true) : js_K 55 "set limit " kLimit (fun q => s.heap.size ≤ q) s s.heap := by
  have hs := flat_of_before _ hgv
  have m0 : ∀ j : Nat, j < 10 → Cond.eq (.elem (.field (.string RL 55) "java/lang/String" "value" "[B") (.int (Int32.ofNat j))) (.int (((kLimit : List Nat).map nI).getD j 0)) ∈ flatC (Jvm.Cond.and given_1 narrow_1) := by decide +kernel
  exact start_k (hts _ (List.mem_of_getElem? (i := 319) (by decide +kernel))) (hs _ (by decide +kernel)) (hs _ (by decide +kernel)) (hs _ (by decide +kernel)) (hs _ (by decide +kernel)) (fun j hj => hs _ (m0 j hj)) (by decide) (by decide)
theorem start_c61 {args : Array Value} {s : State} (hgv : (Jvm.Cond.and given_1 narrow_1).before args s = true) (hts : ∀ w ∈ lw_tbl, w.before args s = true) : js_K 61 ";set depth " kDepth (fun q => s.heap.size ≤ q) s s.heap := by
  have hs := flat_of_before _ hgv
  have m0 : ∀ j : Nat, j < 11 → Cond.eq (.elem (.field (.string RL 61) "java/lang/String" "value" "[B") (.int (Int32.ofNat j))) (.int (((kDepth : List Nat).map nI).getD j 0)) ∈ flatC (Jvm.Cond.and given_1 narrow_1) := by decide +kernel
  exact start_k (hts _ (List.mem_of_getElem? (i := 468) (by decide +kernel))) (hs _ (by decide +kernel)) (hs _ (by decide +kernel)) (hs _ (by decide +kernel)) (hs _ (by decide +kernel)) (fun j hj => hs _ (m0 j hj)) (by decide) (by decide)
theorem start_c66 {args : Array Value} {s : State} (hgv : (Jvm.Cond.and given_1 narrow_1).before args s = true) (hts : ∀ w ∈ lw_tbl, w.before args s = true) : js_K 66 ";" [59] (fun q => s.heap.size ≤ q) s s.heap := by
  have hs := flat_of_before _ hgv
  have m0 : ∀ j : Nat, j < 1 → Cond.eq (.elem (.field (.string RL 66) "java/lang/String" "value" "[B") (.int (Int32.ofNat j))) (.int ((([59] : List Nat).map nI).getD j 0)) ∈ flatC (Jvm.Cond.and given_1 narrow_1) := by decide +kernel
  exact start_k (hts _ (List.mem_of_getElem? (i := 472) (by decide +kernel))) (hs _ (by decide +kernel)) (hs _ (by decide +kernel)) (hs _ (by decide +kernel)) (hs _ (by decide +kernel)) (fun j hj => hs _ (m0 j hj)) (by decide) (by decide)
theorem start_c71 {args : Array Value} {s : State} (hgv : (Jvm.Cond.and given_1 narrow_1).before args s = true) (hts : ∀ w ∈ lw_tbl, w.before args s = true) : js_K 71 "curve " kCurve (fun q => s.heap.size ≤ q) s s.heap := by
  have hs := flat_of_before _ hgv
  have m0 : ∀ j : Nat, j < 6 → Cond.eq (.elem (.field (.string RL 71) "java/lang/String" "value" "[B") (.int (Int32.ofNat j))) (.int (((kCurve : List Nat).map nI).getD j 0)) ∈ flatC (Jvm.Cond.and given_1 narrow_1) := by decide +kernel
  exact start_k (hts _ (List.mem_of_getElem? (i := 533) (by decide +kernel))) (hs _ (by decide +kernel)) (hs _ (by decide +kernel)) (hs _ (by decide +kernel)) (hs _ (by decide +kernel)) (fun j hj => hs _ (m0 j hj)) (by decide) (by decide)
theorem start_c73 {args : Array Value} {s : State} (hgv : (Jvm.Cond.and given_1 narrow_1).before args s = true) (hts : ∀ w ∈ lw_tbl, w.before args s = true) : js_K 73 "c" [99] (fun q => s.heap.size ≤ q) s s.heap := by
  have hs := flat_of_before _ hgv
  have m0 : ∀ j : Nat, j < 1 → Cond.eq (.elem (.field (.string RL 73) "java/lang/String" "value" "[B") (.int (Int32.ofNat j))) (.int ((([99] : List Nat).map nI).getD j 0)) ∈ flatC (Jvm.Cond.and given_1 narrow_1) := by decide +kernel
  exact start_k (hts _ (List.mem_of_getElem? (i := 534) (by decide +kernel))) (hs _ (by decide +kernel)) (hs _ (by decide +kernel)) (hs _ (by decide +kernel)) (hs _ (by decide +kernel)) (fun j hj => hs _ (m0 j hj)) (by decide) (by decide)
theorem start_c21 {args : Array Value} {s : State} (hgv : (Jvm.Cond.and given_1 narrow_1).before args s = true) (hts : ∀ w ∈ lw_tbl, w.before args s = true) : js_K 21 " " [32] (fun q => s.heap.size ≤ q) s s.heap := by
  have hs := flat_of_before _ hgv
  have m0 : ∀ j : Nat, j < 1 → Cond.eq (.elem (.field (.string RL 21) "java/lang/String" "value" "[B") (.int (Int32.ofNat j))) (.int ((([32] : List Nat).map nI).getD j 0)) ∈ flatC (Jvm.Cond.and given_1 narrow_1) := by decide +kernel
  exact start_k (hts _ (List.mem_of_getElem? (i := 563) (by decide +kernel))) (hs _ (by decide +kernel)) (hs _ (by decide +kernel)) (hs _ (by decide +kernel)) (hs _ (by decide +kernel)) (fun j hj => hs _ (m0 j hj)) (by decide) (by decide)
theorem start_c89 {args : Array Value} {s : State} (hgv : (Jvm.Cond.and given_1 narrow_1).before args s = true) (hts : ∀ w ∈ lw_tbl, w.before args s = true) : js_K 89 "line " kLine (fun q => s.heap.size ≤ q) s s.heap := by
  have hs := flat_of_before _ hgv
  have m0 : ∀ j : Nat, j < 5 → Cond.eq (.elem (.field (.string RL 89) "java/lang/String" "value" "[B") (.int (Int32.ofNat j))) (.int (((kLine : List Nat).map nI).getD j 0)) ∈ flatC (Jvm.Cond.and given_1 narrow_1) := by decide +kernel
  exact start_k (hts _ (List.mem_of_getElem? (i := 567) (by decide +kernel))) (hs _ (by decide +kernel)) (hs _ (by decide +kernel)) (hs _ (by decide +kernel)) (hs _ (by decide +kernel)) (fun j hj => hs _ (m0 j hj)) (by decide) (by decide)
theorem start_c91 {args : Array Value} {s : State} (hgv : (Jvm.Cond.and given_1 narrow_1).before args s = true) (hts : ∀ w ∈ lw_tbl, w.before args s = true) : js_K 91 "l" [108] (fun q => s.heap.size ≤ q) s s.heap := by
  have hs := flat_of_before _ hgv
  have m0 : ∀ j : Nat, j < 1 → Cond.eq (.elem (.field (.string RL 91) "java/lang/String" "value" "[B") (.int (Int32.ofNat j))) (.int ((([108] : List Nat).map nI).getD j 0)) ∈ flatC (Jvm.Cond.and given_1 narrow_1) := by decide +kernel
  exact start_k (hts _ (List.mem_of_getElem? (i := 568) (by decide +kernel))) (hs _ (by decide +kernel)) (hs _ (by decide +kernel)) (hs _ (by decide +kernel)) (hs _ (by decide +kernel)) (fun j hj => hs _ (m0 j hj)) (by decide) (by decide)
theorem start_c50 {args : Array Value} {s : State} (hgv : (Jvm.Cond.and given_1 narrow_1).before args s = true) (hts : ∀ w ∈ lw_tbl, w.before args s = true) : js_K 50 " -" [32, 45] (fun q => s.heap.size ≤ q) s s.heap := by
  have hs := flat_of_before _ hgv
  have m0 : ∀ j : Nat, j < 2 → Cond.eq (.elem (.field (.string RL 50) "java/lang/String" "value" "[B") (.int (Int32.ofNat j))) (.int ((([32, 45] : List Nat).map nI).getD j 0)) ∈ flatC (Jvm.Cond.and given_1 narrow_1) := by decide +kernel
  exact start_k (hts _ (List.mem_of_getElem? (i := 575) (by decide +kernel))) (hs _ (by decide +kernel)) (hs _ (by decide +kernel)) (hs _ (by decide +kernel)) (hs _ (by decide +kernel)) (fun j hj => hs _ (m0 j hj)) (by decide) (by decide)
theorem start_C {args : Array Value} {s : State} (hgv : (Jvm.Cond.and given_1 narrow_1).before args s = true) (hts : ∀ w ∈ lw_tbl, w.before args s = true) : js_C (fun q => s.heap.size ≤ q) s s.heap := ⟨start_c55 hgv hts, start_c61 hgv hts, start_c66 hgv hts, start_c71 hgv hts, start_c73 hgv hts, start_c21 hgv hts, start_c89 hgv hts, start_c91 hgv hts, start_c50 hgv hts⟩
theorem start_tb : ∀ j : Nat, j < 100 → (flatC (Jvm.Cond.and given_1 narrow_1))[12 + j]? = some (Cond.eq (.elem (.static "java/lang/Integer" "DigitOnes" "[B") (.int (Int32.ofNat j))) (.int (nI (48 + j % 10)))) ∧ (flatC (Jvm.Cond.and given_1 narrow_1))[115 + j]? = some (Cond.eq (.elem (.static "java/lang/Integer" "DigitTens" "[B") (.int (Int32.ofNat j))) (.int (nI (48 + j / 10)))) := by decide +kernel
theorem start_G {args : Array Value} {s : State} (hgv : (Jvm.Cond.and given_1 narrow_1).before args s = true) (hts : ∀ w ∈ lw_tbl, w.before args s = true) : js_G (fun q => s.heap.size ≤ q) s s.heap := by
  have hs := flat_of_before _ hgv
  have hA : ∀ a : Nat, a < s.heap.size → ¬ s.heap.size ≤ a := fun a h => Nat.not_le.mpr h
  refine ⟨va_Zof (hts _ (List.mem_of_getElem? (i := 298) (by decide +kernel))) (hts _ (List.mem_of_getElem? (i := 47) (by decide +kernel))) (va_eqi (hs _ (by decide +kernel))) hA, va_Zqof (hts _ (List.mem_of_getElem? (i := 384) (by decide +kernel))) (hts _ (List.mem_of_getElem? (i := 52) (by decide +kernel))) (hs _ (by decide +kernel)) hA, ?_, ?_⟩
  · obtain ⟨t, h1, h2⟩ := va_Tof (args := args) (s := s) (tm := .static "java/lang/Integer" "DigitOnes" "[B") (ty := .byte) (N := 100) (f := fun j => .int (nI (48 + j % 10))) (A := fun q => s.heap.size ≤ q) (by decide) (hs _ (by decide +kernel)) (lw_eqe (hs _ (by decide +kernel))) (fun j hj => lw_eqe (hs _ (List.mem_of_getElem? (start_tb j hj).1))) hA
    exact ⟨t, va_Zof (hts _ (List.mem_of_getElem? (i := 457) (by decide +kernel))) (hts _ (List.mem_of_getElem? (i := 55) (by decide +kernel))) h1 hA, h2⟩
  · obtain ⟨t, h1, h2⟩ := va_Tof (args := args) (s := s) (tm := .static "java/lang/Integer" "DigitTens" "[B") (ty := .byte) (N := 100) (f := fun j => .int (nI (48 + j / 10))) (A := fun q => s.heap.size ≤ q) (by decide) (hs _ (by decide +kernel)) (lw_eqe (hs _ (by decide +kernel))) (fun j hj => lw_eqe (hs _ (List.mem_of_getElem? (start_tb j hj).2))) hA
    exact ⟨t, va_Zof (hts _ (List.mem_of_getElem? (i := 459) (by decide +kernel))) (hts _ (List.mem_of_getElem? (i := 55) (by decide +kernel))) h1 hA, h2⟩
theorem start_K {args : Array Value} {s : State} (htb : ∀ w ∈ am_tb, w.before args s = true) : ∃ (D : va_G) (kC : Nat → ClassId), va_K D vwCl (am_tys kC) s := by
  obtain ⟨c0, iS0, hKn0⟩ := u_known (C := RX0) (T := TX0) (N := 6) (n := 6) htb qwX0 (htb _ (am_tb_at 225 (by decide +kernel) rfl))
  obtain ⟨c1, iS1, hKn1⟩ := u_known (C := RX1) (T := TX1) (N := 4) (n := 4) htb qwX1 (htb _ (am_tb_at 145 (by decide +kernel) rfl))
  obtain ⟨c2, iS2, hKn2⟩ := u_known (C := RX2) (T := TX2) (N := 1) (n := 1) htb qwX2 (htb _ (am_tb_at 86 (by decide +kernel) rfl))
  obtain ⟨c3, iS3, hKn3⟩ := u_known (C := RX3) (T := TX3) (N := 3) (n := 3) htb qwX3 (htb _ (am_tb_at 97 (by decide +kernel) rfl))
  obtain ⟨c4, iS4, hKn4⟩ := u_known (C := RX4) (T := TX4) (N := 2) (n := 2) htb qwX4 (htb _ (am_tb_at 213 (by decide +kernel) rfl))
  obtain ⟨c5, iS5, hKn5⟩ := u_known (C := RX5) (T := TX5) (N := 6) (n := 6) htb qwX5 (htb _ (am_tb_at 165 (by decide +kernel) rfl))
  obtain ⟨c6, iS6, hKn6⟩ := u_known (C := RX6) (T := TX6) (N := 7) (n := 7) htb qwX6 (htb _ (am_tb_at 190 (by decide +kernel) rfl))
  obtain ⟨c7, iS7, hKn7⟩ := u_known (C := RX7) (T := TX7) (N := 8) (n := 8) htb qwX7 (htb _ (am_tb_at 113 (by decide +kernel) rfl))
  obtain ⟨c8, iS8, hKn8⟩ := u_known (C := RX8) (T := TX8) (N := 10) (n := 10) htb qwX8 (htb _ (am_tb_at 78 (by decide +kernel) rfl))
  obtain ⟨c9, iS9, hKn9⟩ := u_known (C := RJ0) (T := TJ0) (N := 4) (n := 4) htb qwJ0 (htb _ (am_tb_at 478 (by decide +kernel) rfl))
  obtain ⟨c10, iS10, hKn10⟩ := u_known (C := RJ4) (T := TJ4) (N := 4) (n := 4) htb qwJ4 (htb _ (am_tb_at 289 (by decide +kernel) rfl))
  obtain ⟨a0, kA0, cm0, f0, g0, h0⟩ := Cond.arrayClass_spec (type := .int) (htb _ (am_tb_at 95 (by decide +kernel) rfl))
  obtain ⟨a1, kA1, cm1, f1, g1, h1⟩ := Cond.arrayClass_spec (type := .long) (htb _ (am_tb_at 163 (by decide +kernel) rfl))
  obtain ⟨a2, kA2, cm2, f2, g2, h2⟩ := Cond.arrayClass_spec (type := .byte) (htb _ (am_tb_at 143 (by decide +kernel) rfl))
  refine ⟨(fun k => match k with
    | 0 => c0
    | 1 => c1
    | 2 => c2
    | 3 => c3
    | 4 => c4
    | 5 => c5
    | 6 => c6
    | 7 => c7
    | 8 => c8
    | 9 => c9
    | _ => c10, fun k => match k with
    | 0 => iS0
    | 1 => iS1
    | 2 => iS2
    | 3 => iS3
    | 4 => iS4
    | 5 => iS5
    | 6 => iS6
    | 7 => iS7
    | 8 => iS8
    | 9 => iS9
    | _ => iS10), fun k => match k with
    | 0 => a0
    | 1 => a1
    | _ => a2, fun k q hq => ?_, fun k q hq => ?_⟩
  · match k, hq with
    | 0, hq => cases hq; exact hKn0
    | 1, hq => cases hq; exact hKn1
    | 2, hq => cases hq; exact hKn2
    | 3, hq => cases hq; exact hKn3
    | 4, hq => cases hq; exact hKn4
    | 5, hq => cases hq; exact hKn5
    | 6, hq => cases hq; exact hKn6
    | 7, hq => cases hq; exact hKn7
    | 8, hq => cases hq; exact hKn8
    | 9, hq => cases hq; exact hKn9
    | 10, hq => cases hq; exact hKn10
    | k + 11, hq => simp [vwCl] at hq
  · match k, hq with
    | 0, hq => cases hq; exact ⟨fun n z => ⟨fun k h => (by cases h), kA0, g0, cm0, h0⟩, f0⟩
    | 1, hq => cases hq; exact ⟨fun n z => ⟨fun k h => (by cases h), kA1, g1, cm1, h1⟩, f1⟩
    | 2, hq => cases hq; exact ⟨fun n z => ⟨fun k h => (by cases h), kA2, g2, cm2, h2⟩, f2⟩
    | k + 3, hq => simp [am_tys] at hq
set_option maxHeartbeats 4000000 in
set_option maxRecDepth 100000 in
theorem whole_start {p : Program} {e : Env} {s : State} {m : MethodId} {below : List Frame} {meth : Method} {c : Code} (l : Launch) (hflags : l.flags = flags0) {b L : Nat} {xs : Nat → Int32} (hL : L ≤ 260) (C0 : lw_At p s m meth c b L xs) : W p l e room_1 s m #[Value.ref b] below meth c s.heap [] 0 0 (lw_Z below #[Value.ref b] s) (entryFrame m ([Value.ref b] : List Value).toArray 7) := by
  obtain ⟨hx, hb, hr, hml, hown, hts0, hX, hbl, hlocks, hgv⟩ := id C0
  have hts : ∀ w ∈ am_tb, w.before #[Value.ref b] s = true := fun w hw => hts0 w (List.mem_filter.mp hw).1
  have htj : ∀ w ∈ jk_tb, w.before #[Value.ref b] s = true := jk_hts hts0
  obtain ⟨D, kC, hK⟩ := start_K hts
  have hG : js_G (lawA s) s s.heap := start_G hgv hts0
  have hC : js_C (lawA s) s s.heap := start_C hgv hts0
  have hE0 : (js_G (lawA s) s s.heap ∧ scX b L xs (lawA s) s s.heap) ∧ js_C (lawA s) s s.heap := ⟨⟨hG, hX, hbl, Nat.not_le.mpr hbl⟩, hC⟩
  have hS : va_S (lawA s) s.heap s.heap [] := va_S.rf
  have hl := lv_entry ([.ref b]) (n := 7) (Nat.le_of_ble_eq_true rfl)
  rw [lg_entry_eq]
  generalize (lg_sl ([.ref b]) ++ List.replicate (7 - (lg_sl ([.ref b])).length) Slot.unset).toArray = ls at hl ⊢
  have hl : lv_has ls 7 [(0, .ref b)] := hl
  refine lv_aload_n hx hb (show decode cL_law 0 = .ok (.aload_n 0, 1) by decide +kernel) rfl (lv_at hl 0 rfl) ?_
  have hPc : va_P D vwCl [] s.heap := ws_nP
  have hDc : va_D (lawA s) [] := ws_nD
  have hFc : ∀ q, va_A [] s.heap.size q → lawA s q := fun q h => ws_nA h
  refine va_callr (va_runS (As := [.ref b]) (rest := []) ⟨hx, hb, hml, hown, hts⟩ (sk_figure l D kC b L xs (by omega) (txT_len L xs) (txT_p L xs) (ld_txt L xs A8 (ptF F8 ((txT L xs).length + nd20 (txT L xs).length))).1 s.heap.size) ⟨am_callB (R := room_1) (index := 235) 1 (jk_pay htj (am_tb_at 76 (by decide +kernel) rfl)) (hts _ (am_tb_at 76 (by decide +kernel) rfl)) rfl rfl rfl (hts _ (am_tb_at 34 (by decide +kernel) rfl)) (hts _ (am_tb_at 74 (by decide +kernel) rfl)) ⟨by decide, by decide, by decide +kernel⟩ ⟨(by show 21 + 1 ≤ 2048; decide), (by show 8 + (3 + 11) + 48 * 21 ≤ 84000; decide)⟩, (hts _ (am_tb_at 75 (by decide +kernel) rfl))⟩ (ws_S (Stb_and (Stb_and Stb_G (Stb_X b L xs)) Stb_C) hPc hK hDc (fun U hU hW => ws_E (Stb_and (Stb_and Stb_G (Stb_X b L xs)) Stb_C) hE0 hS hU hW hFc)) rfl rfl hl.1 rfl (lv_room (Nat.le_of_ble_eq_true rfl)) (show decode cL_law 1 = .ok (.invokestatic 235, 3) by decide +kernel) ⟨(by show 0 + 1000 ≤ 600086; decide), (by show 0 + 2500000 ≤ 7301442; decide)⟩) hS (fun q _ h => hFc q h) hFc (fun u ra t H1 locs hte hvm hz hB hsz hkp hS => ?_)
  obtain ⟨al0, G, B⟩ := u
  obtain ⟨hra, hP, hD⟩ := hB
  rw [hte] at hP
  have hra : ra = al0 0 := hra
  have hP : va_P D vwCl (am_ws al0 kC layX G B) H1 := hP
  have hD : va_D (lawA s) (am_ws al0 kC layX G B) := va_D.weaken hD (fun k q _ h => hFc q.1 h)
  have hI : lwI G B (cvN L xs) (lnN L xs) := ld_lwI hz
  subst hra
  generalize H1 = H at hP hS ⊢
  refine lv_astore_n (lv' := [(1, .ref (al0 0)), (0, .ref b)]) hx hb (show decode cL_law 4 = .ok (.astore_n 1, 1) by decide +kernel) rfl hl (by decide) rfl (fun ls hl => ?_)
  refine lv_aload_n hx hb (show decode cL_law 5 = .ok (.aload_n 1, 1) by decide +kernel) rfl (lv_at hl 0 rfl) ?_
  refine lv_ifnonnull (tgt := 11) hx hb (show decode cL_law 6 = .ok (.ifnonnull 5, 3) by decide +kernel) rfl ?_
  refine lv_iconst (v := 0) hx hb (show decode cL_law 11 = .ok (.iconst 0, 1) by decide +kernel) (by decide) ?_
  refine lv_istore_n (lv' := [(2, .int 0), (1, .ref (al0 0)), (0, .ref b)]) hx hb (show decode cL_law 12 = .ok (.istore_n 2, 1) by decide +kernel) rfl hl (by decide) rfl (fun ls hl => ?_)
  rw [wL_eq al0 kC b G B] at hP hD
  obtain ⟨al, hal⟩ : ∃ al : Nat → Nat, al = (fun k => if k = 999 then b else al0 k) := ⟨_, rfl⟩
  rw [← hal] at hP hD
  have hdis := am_D_dis hD
  have a0 : al 0 = al0 0 := by rw [hal]; rfl
  have a9 : al 999 = b := by rw [hal]; rfl
  have hE : lawE p s m meth c b L xs D al kC := ⟨C0, hK, hdis, a9, hG⟩
  have hLR : am_LR al ls 7 [some (vR 999), some (vR 0), some (vI 0), none, none, none, none] := ⟨rfl, hl.1, hl.2.1, fun i v hi => by
    match i, hi with
    | 0, hi => cases hi; rw [lv_at hl 2 rfl]; show _ = some (Slot.val (Value.ref (al 999))); rw [a9]
    | 1, hi => cases hi; rw [lv_at hl 1 rfl]; show _ = some (Slot.val (Value.ref (al 0))); rw [a0]
    | 2, hi => cases hi; rw [lv_at hl 0 rfl]; rfl
    | 3, hi => cases hi
    | 4, hi => cases hi
    | 5, hi => cases hi
    | 6, hi => cases hi
    | n + 7, hi => simp at hi⟩
  refine W.widen (k := 1000) (n := 2500000) (Nat.le_of_ble_eq_true rfl) (Nat.le_of_ble_eq_true rfl) ?_
  exact law_13 l hE (by omega) 12 1000 2500000 0 G B (by omega) (by omega) (by omega) (by omega) (by omega) hI (Nat.zero_le _) H locs ls hLR hP hS
