/-! load, both sides -/
theorem ld_S2 {A B : AA} {F G : FF} {n : Int} (hn : 0 ≤ n) (h8 : n ≤ 800) (hU : byR (A 8) (B 26) n) (h3 : 0 ≤ G 25 27 ∧ G 25 27 ≤ 800) (h4 : -1 ≤ G 25 24 ∧ G 25 24 ≤ 2000000) :
    (0 ≤ (ldR A F n).1 → (ldT G B n).1.1 = 0 ∧ (ldT G B n).2.2.2.1 = (ldR A F n).1 ∧ ∀ i, 0 ≤ i → i < 140 → (ldR A F n).2.2.1 i = mF (ldT G B n).2.2.2.2 i) ∧
    ((ldR A F n).1 < 0 → (ldT G B n).1.1 = (ldR A F n).1 ∧ (ldT G B n).1.2.1 = (ldR A F n).2.1.1) := by
  have ok := ld0_ok (F := G) (A := B) hn h8 h3 h4
  have hr : tkR (B 26) (adF (A 8) n 0 (F 7 6)) (ld0 G B n).1.2.2 := nx_R (t := (0, 0, 0, F 7 6)) (u := (G 25 22, 0, G 25 23, G 25 24)) hU (Int.le_refl 0) rfl
  have e := hr.1.1
  have b := ok.2.2.1
  exact rdA_S hn h8 801 (Int.toNat (n + 3)) 0 (G 25 25) 0 _ _ (ld0 G B n).1 (ldA1 B) (by omega) (by omega) (by rw [ldA1_26]; exact hU) rfl (by rw [ldA1_26]; exact hr) ok em_ld ldA1_ct (by decide) (Int.le_refl 0)
theorem ldM_r {n : Int} {b : Nat} (h1 : b ≠ 27) (h2 : b ≠ 29) : ∀ (m : Nat) (q : LdS), (ldM n m q).2.2.2.2 b = q.2.2.2.2 b
  | 0, _ => rfl
  | m + 1, q => by
    unfold ldM
    split
    · rw [ldM_r h1 h2 m]
      exact stA_o h1 h2
    · rfl
theorem ldM_ps {n : Int} (hn : 0 ≤ n) (h8 : n ≤ 800) : ∀ (m : Nat) (q : LdS), psOK n q.1 → psOK n (ldM n m q).1
  | 0, _, h => h
  | m + 1, q, h => by
    unfold ldM
    split
    · exact ldM_ps hn h8 m _ (stS2_ok h hn h8)
    · exact h
theorem ldT_r {F : FF} {A : AA} {n : Int} {b : Nat} (h : b ≠ 27 ∧ b ≠ 28 ∧ b ≠ 29 ∧ b ≠ 30) : (ldT F A n).2.2.2.2 b = A b := by
  unfold ldT
  rw [ldM_r h.1 h.2.2.1]
  show ldA1 A b = A b
  unfold ldA1
  rw [setR_r h.2.2.1, setR_r h.1, setR_r h.2.2.2, setR_r h.2.1]
theorem ldT_28 {F : FF} {A : AA} {n j : Int} (j0 : 0 ≤ j) (j1 : j < 16) : (ldT F A n).2.2.2.2 28 j = A 27 j := by
  unfold ldT
  rw [ldM_r (by decide) (by decide)]
  show ldA1 A 28 j = A 27 j
  unfold ldA1
  rw [setR_o (by decide), setR_o (by decide), setR_o (by decide), setR_in j0 (by omega), Int.sub_zero]
theorem ldT_30 {F : FF} {A : AA} {n j : Int} (j0 : 0 ≤ j) (j1 : j < 124) : (ldT F A n).2.2.2.2 30 j = A 29 j := by
  unfold ldT
  rw [ldM_r (by decide) (by decide)]
  show ldA1 A 30 j = A 29 j
  unfold ldA1
  rw [setR_o (by decide), setR_o (by decide), setR_in j0 (by omega), Int.sub_zero]
theorem ldF_o {F : FF} {n : Int} {s : PS} {x g c : Int} {a b : Nat} (h : a ≠ 25 ∨ (b = 2 ∨ b = 8 ∨ b = 28)) : ldF F n s x g c a b = F a b := by
  unfold ldF
  rw [upF_o (by omega), upF_o (by omega), upF_o (by omega), psS_o (by omega), upF_o (by omega), upF_o (by omega)]
theorem ldF_27 {F : FF} {n : Int} {s : PS} {x g c : Int} : ldF F n s x g c 25 27 = s.2.1 := by
  unfold ldF
  rw [upF_o (by decide), upF_o (by decide), upF_o (by decide)]
  rfl
theorem ldF_24 {F : FF} {n : Int} {s : PS} {x g c : Int} : ldF F n s x g c 25 24 = s.2.2.2.2.2 := by
  unfold ldF
  rw [upF_o (by decide), upF_o (by decide), upF_o (by decide)]
  rfl
theorem lw_ld {F G : FF} {A B : AA} {n : Int} (h : REL F A) (g1 : ((0 ≤ n ∧ n ≤ F 7 1) → ldQ F G A B n) ∧ (¬ (0 ≤ n ∧ n ≤ F 7 1) → ch0 F G A B)) :
    (byO (B 26) ∧ (0 ≤ G 25 2 ∧ G 25 2 ≤ 800) ∧ (0 ≤ G 25 27 ∧ G 25 27 ≤ 800) ∧ (-1 ≤ G 25 24 ∧ G 25 24 ≤ 2000000)) ∧
    (if (0 ≤ n ∧ n ≤ F 7 1) then (ldR A F n).1 else -2) = (if (n < 0 ∨ G 25 2 < n) then -2 else if (ldT G B n).1.1 = 0 then (ldT G B n).2.2.2.1 else (ldT G B n).1.1) ∧
    ∀ H C, ((n < 0 ∨ G 25 2 < n) → H = upF G 25 0 0 ∧ C = B) ∧ (¬ (n < 0 ∨ G 25 2 < n) → H = ldG G n (ldT G B n) ∧ C = ldB (ldT G B n)) → REL H C := by
  have h' := h
  obtain ⟨⟨a1, a2⟩, ⟨b1, b2, b3, b4⟩, ⟨⟨c1, c2⟩, c3, c4⟩, d, ⟨ca, cr⟩, e, gg, ii⟩ := h
  by_cases z : 0 ≤ n ∧ n ≤ F 7 1
  · obtain ⟨q1, q2, q3, q4, q5⟩ := g1.1 z
    have G25 : ∀ b, G 25 b = F 25 b := fun b => q1 25 b (by omega)
    have zz : ¬ (n < 0 ∨ G 25 2 < n) := by rw [G25, b2]; omega
    have rB : ∀ b : Nat, b ≠ 4 → b ≠ 2 → B b = A b := fun b z1 z2 => funext fun i => by
      by_cases w : (ldR A F n).1 < 0
      · exact (q4 w).2.2 b i z1
      · exact (q5 w).2.2.1 b i ⟨z1, z2⟩
    have hU : byR (A 8) (B 26) n := fun i i0 i1 => by rw [rB 26 (by decide) (by decide)]; exact b3 i i0 (by omega)
    have S := ld_S2 (A := A) (B := B) (F := F) (G := G) z.1 (by omega) hU (by rw [G25]; exact gg) (by rw [G25]; exact ii)
    have PO : psOK n (ldT G B n).1 := ldM_ps z.1 (by omega) _ _ (ld0_ok (F := G) (A := B) z.1 (by omega) (by rw [G25]; exact gg) (by rw [G25]; exact ii))
    refine ⟨⟨by rw [rB 26 (by decide) (by decide)]; exact b4, by rw [G25, b2]; exact b1, by rw [G25]; exact gg, by rw [G25]; exact ii⟩, ?_, fun H C hm => ?_⟩
    · rw [if_pos z, if_neg zz]
      by_cases w : (ldR A F n).1 < 0
      · have s := S.2 w
        rw [if_neg (by omega), s.1]
      · have s := S.1 (by omega)
        rw [if_pos s.1, s.2.1]
    · obtain ⟨hH, hC⟩ := hm.2 zz
      unfold ldG at hH
      unfold ldB at hC
      by_cases w : (ldR A F n).1 < 0
      · have s := S.2 w
        obtain ⟨x1, x2, x3⟩ := q4 w
        rw [if_neg (by omega)] at hH hC
        have hF : ∀ a b, a ≠ 25 ∨ b = 8 → H a b = G a b := fun a b k => by rw [hH, upF_o (by omega), upF_o (by omega), ldF_o (by omega)]
        have rAB : ∀ b : Nat, b ≠ 4 → B b = A b := fun b k => funext fun i => x3 b i k
        have rC : ∀ b : Nat, (b ≠ 27 ∧ b ≠ 28 ∧ b ≠ 29 ∧ b ≠ 30) → C b = B b := fun b k => by rw [hC, setR_r k.2.2.1, setR_r k.1, ldT_r k]
        have r : ∀ b : Nat, (b ≠ 27 ∧ b ≠ 28 ∧ b ≠ 29 ∧ b ≠ 30) → b ≠ 4 → C b = A b := fun b k k2 => (rC b k).trans (rAB b k2)
        have C27 : ∀ j, 0 ≤ j → j < 16 → C 27 j = A 27 j := fun j j0 j1 => by
          rw [hC, setR_o (by decide), setR_in j0 (by omega), Int.sub_zero, ldT_28 j0 j1, rAB 27 (by decide)]
        have C29 : ∀ j, 0 ≤ j → j < 124 → C 29 j = A 29 j := fun j j0 j1 => by
          rw [hC, setR_in j0 (by omega), Int.sub_zero, ldT_30 j0 j1, rAB 29 (by decide)]
        have f1 : ∀ a b, (a ≠ 7 ∧ (a ≠ 0 ∨ b ≠ 9) ∧ (a ≠ 5 ∨ b ≠ 2)) → (a ≠ 25 ∨ b = 8) → H a b = F a b := fun a b k1 k2 => (hF a b k2).trans (q1 a b k1)
        have h52 : H 5 2 = F 5 2 := by rw [hF 5 2 (by decide), x2]
        refine ⟨⟨mF_eq fun i i0 i1 => ?_, ?_⟩, ⟨?_, ?_, ?_, ?_⟩, ⟨⟨?_, ?_⟩, ?_, hsE_c (f1 5 1 (by decide) (by decide)) h52 (r 6 (by decide) (by decide)) C27 (r 31 (by decide) (by decide)) c4⟩, ?_, ⟨caAll_c (r 10 (by decide) (by decide)) (r 11 (by decide) (by decide)) (r 12 (by decide) (by decide)) (r 13 (by decide) (by decide)) ca, r20_c (r 20 (by decide) (by decide)) cr⟩, ?_, ?_, ?_⟩
        · rw [r 2 (by decide) (by decide), mF_i C27 C29 i0 i1, a1]
        · rw [r 2 (by decide) (by decide)]; exact a2
        · rw [hF 7 1 (by decide), q2]; decide
        · rw [hF 7 1 (by decide), q2, hH, upF_o (by decide), upF_s]
        · rw [hF 7 1 (by decide), q2]; intro i i0 i1; omega
        · rw [r 26 (by decide) (by decide)]; exact b4
        · rw [f1 5 1 (by decide) (by decide)]; exact c1
        · rw [h52]; exact c2
        · rw [hF 25 8 (by decide), G25, h52, c3]
        · rw [hF 0 9 (by decide), x1, hH, upF_s, s.2]
        · rw [hF 7 6 (by decide)]; exact q3
        · rw [hH, upF_o (by decide), upF_o (by decide), ldF_27]; exact PO.2.1
        · rw [hH, upF_o (by decide), upF_o (by decide), ldF_24]; exact PO.2.2.2.2.2.2
      · have s := S.1 (by omega)
        obtain ⟨x1, x2, x3, x4⟩ := q5 w
        rw [if_pos s.1] at hH hC
        have hF : ∀ a b, a ≠ 25 → H a b = G a b := fun a b k => by rw [hH, upF_o (by omega), upF_o (by omega), upF_o (by omega), ldF_o (by omega)]
        have rC : ∀ b : Nat, (b ≠ 27 ∧ b ≠ 28 ∧ b ≠ 29 ∧ b ≠ 30) → C b = B b := fun b k => by rw [hC, ldT_r k]
        have r : ∀ b : Nat, (b ≠ 27 ∧ b ≠ 28 ∧ b ≠ 29 ∧ b ≠ 30) → b ≠ 4 → b ≠ 2 → C b = A b := fun b k k2 k3 => (rC b k).trans (rB b k2 k3)
        have e2 : ∀ i, 0 ≤ i → i < 140 → C 2 i = (ldR A F n).2.2.1 i := fun i i0 i1 => by rw [rC 2 (by decide), x4 i i0 i1]
        refine ⟨⟨mF_eq fun i i0 i1 => ?_, fig_c (ld_F w) e2⟩, ⟨?_, ?_, ?_, ?_⟩, ⟨⟨?_, ?_⟩, ?_, fun k k0 k1 => ?_⟩, ?_, ⟨caAll_c (r 10 (by decide) (by decide) (by decide)) (r 11 (by decide) (by decide) (by decide)) (r 12 (by decide) (by decide) (by decide)) (r 13 (by decide) (by decide) (by decide)) ca, r20_c (r 20 (by decide) (by decide) (by decide)) cr⟩, ?_, ?_, ?_⟩
        · rw [e2 i i0 i1, s.2.2 i i0 i1, hC]
        · rw [hF 7 1 (by decide), q2]; decide
        · rw [hF 7 1 (by decide), q2, hH, upF_o (by decide), upF_o (by decide), upF_s]
        · rw [hF 7 1 (by decide), q2]; intro i i0 i1; omega
        · rw [r 26 (by decide) (by decide) (by decide)]; exact b4
        · rw [hF 5 1 (by decide), q1 5 1 (by decide)]; exact c1
        · rw [hF 5 2 (by decide), x2]; decide
        · rw [hF 5 2 (by decide), x2, hH, upF_s]
        · rw [hF 5 2 (by decide), x2] at k1; omega
        · rw [hF 0 9 (by decide), x1, hH, upF_o (by decide), upF_s]
        · rw [hF 7 6 (by decide)]; exact q3
        · rw [hH, upF_o (by decide), upF_o (by decide), upF_o (by decide), ldF_27]; exact PO.2.1
        · rw [hH, upF_o (by decide), upF_o (by decide), upF_o (by decide), ldF_24]; exact PO.2.2.2.2.2.2
  · obtain ⟨rfl, rfl⟩ := g1.2 z
    have zz : n < 0 ∨ G 25 2 < n := by rw [b2]; omega
    refine ⟨⟨b4, by rw [b2]; exact b1, gg, ii⟩, by rw [if_neg z, if_pos zz], fun H C hm => ?_⟩
    obtain ⟨rfl, rfl⟩ := hm.1 zz
    exact rel_0 h'
