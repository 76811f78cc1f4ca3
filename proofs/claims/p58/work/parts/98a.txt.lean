/-! curves and lines read -/
def nmC (i : Nat) : Int := wkF [99, 97 + i] 2
def nmL (i : Nat) : Int := wkF [108, 97 + i] 2
theorem nm_cc : ∀ i k : Fin 5, w32 (nmC i) = w32 (nmC k) → i = k := by decide +kernel
theorem nm_ll : ∀ i k : Fin 4, w32 (nmL i) = w32 (nmL k) → i = k := by decide +kernel
theorem nm_cl : ∀ (i : Fin 5) (k : Fin 4), ¬ w32 (nmC i) = w32 (nmL k) := by decide +kernel
theorem nm_c0 : ∀ i : Fin 5, ¬ (nmC i = 0 ∨ rvP (nmC i)) := by decide +kernel
theorem nm_l0 : ∀ i : Fin 4, ¬ (nmL i = 0 ∨ rvP (nmL i)) := by decide +kernel
/-- the counts and names of a figure that is being read -/
def nmP (f : Int → Int) (c j : Nat) : Prop := f 0 = c ∧ f 1 = j ∧ (∀ i : Nat, i < c → f (4 + i) = nmC i) ∧ ∀ i : Nat, i < j → f (12 + i) = nmL i
theorem fnC_no {f : Int → Int} {c j : Nat} {v : Int} (h : nmP f c j) (hc : c ≤ 5) (hv : ∀ i : Nat, i < c → ¬ w32 (nmC i) = w32 v) : fnC f v = -1 := by
  unfold fnC
  refine firstk_none (fun i hi => ?_)
  have hi2 : i < c := by rw [h.1] at hi; omega
  apply decide_eq_false
  rw [fat_in (by omega) (by omega), h.2.2.1 i hi2]
  exact hv i hi2
theorem fnL_no {f : Int → Int} {c j : Nat} {v : Int} (h : nmP f c j) (hj : j ≤ 4) (hv : ∀ i : Nat, i < j → ¬ w32 (nmL i) = w32 v) : fnL f v = -1 := by
  unfold fnL
  refine firstk_none (fun i hi => ?_)
  have hi2 : i < j := by rw [h.2.1] at hi; omega
  apply decide_eq_false
  rw [fat_in (by omega) (by omega), h.2.2.2 i hi2]
  exact hv i hi2
theorem nmE_c {f : Int → Int} {c : Nat} {a b : Int} (h : nmP f c 0) (hc : c < 5) : nmE f (a, b, 0, nmC c) = 0 := by
  unfold nmE
  have h0 := nm_c0 ⟨c, hc⟩
  rw [if_neg (fun q => q.elim (fun z => z rfl) (fun z => h0 z)), fnC_no h (by omega) (fun i hi q => by have := nm_cc ⟨i, by omega⟩ ⟨c, hc⟩ q; injection this; omega), fnL_no h (by omega) (fun i hi => by omega)]
  exact if_neg (by decide)
theorem nmE_l {f : Int → Int} {c j : Nat} {a b : Int} (h : nmP f c j) (hc : c ≤ 5) (hj : j < 4) : nmE f (a, b, 0, nmL j) = 0 := by
  unfold nmE
  have h0 := nm_l0 ⟨j, hj⟩
  rw [if_neg (fun q => q.elim (fun z => z rfl) (fun z => h0 z)), fnC_no h hc (fun i hi q => nm_cl ⟨i, by omega⟩ ⟨j, hj⟩ q), fnL_no h (by omega) (fun i hi q => by have := nm_ll ⟨i, by omega⟩ ⟨j, hj⟩ q; injection this; omega)]
  exact if_neg (by decide)
theorem crv_1 {T : Int → Int} {n c i q x : Int} {m v : Nat} {f : Int → Int} {R : List Nat} (i0 : 0 ≤ i) (i1 : i < 12) (hv : v ≤ 20 ∧ (i % 3 = 2 → 1 ≤ v ∧ v ≤ 3)) (hR : nlD R) (h : Rm T n q ([32] ++ decL v ++ R)) :
    crv T n c (m + 1) i (adF T n q x) f = crv T n c m (i + 1) (adF T n (q + ([32] ++ decL v).length) v) (up1 (up1 f (26 + (c * 4 + i / 3) * 3 + i % 3) v) (18 + c) (i / 3 + 1)) := by
  rw [ad_bi (by omega) hR h]
  have pe : ptE (i / 3) (i % 3) (q + 1, q + (([32] ++ decL v).length : Int), 1, (v : Int)) = 0 := by
    have e : (if i % 3 = 2 then inE 1 3 (q + 1, q + (([32] ++ decL v).length : Int), 1, (v : Int)) else inE 0 20 (q + 1, q + (([32] ++ decL v).length : Int), 1, (v : Int))) = 0 := by
      unfold inE
      split
      · rename_i z
        have := hv.2 z
        rw [if_pos rfl, if_pos ⟨by show (1 : Int) ≤ v; omega, by show (v : Int) ≤ 3; omega⟩]
      · rw [if_pos rfl, if_pos ⟨by show (0 : Int) ≤ v; omega, by show (v : Int) ≤ 20; omega⟩]
    unfold ptE
    rw [e, if_neg (by omega)]
  conv => lhs; unfold crv
  rw [if_neg (fun z => absurd (show (1 : Int) = 2 from z.2.2) (by decide)), if_pos pe]
  rfl
theorem crv_1e {T : Int → Int} {n c i q x : Int} {m v : Nat} {f : Int → Int} {R : List Nat} (c0 : 0 ≤ c) (i0 : 0 ≤ i) (i1 : i < 12) (hv : v ≤ 20 ∧ (i % 3 = 2 → 1 ≤ v ∧ v ≤ 3)) (hR : nlD R) (h : Rm T n q ([32] ++ decL v ++ R)) :
    ∃ f', crv T n c (m + 1) i (adF T n q x) f = crv T n c m (i + 1) (adF T n (q + ([32] ++ decL v).length) v) f' ∧ ∀ i, i < 18 → f' i = f i :=
  ⟨_, crv_1 i0 i1 hv hR h, fun j hj => by rw [up1_o (by omega), up1_o (by omega)]⟩
theorem txP_e (L : Nat) (xs : Nat → Int32) (c k : Nat) : txP L xs c k = 32 :: (decL (ptN L xs c k 0) ++ (txN L xs c k 1 ++ txN L xs c k 2)) := by
  simp [txP, txN]
theorem txPs_s (L : Nat) (xs : Nat → Int32) (c k : Nat) : ∀ m, k ≤ m → ∃ S, txPs L xs c m = txPs L xs c k ++ S ∧ (S = [] ∨ ∃ Q, S = 32 :: Q)
  | 0, h => by
    have e : k = 0 := by omega
    subst e
    exact ⟨[], by simp, Or.inl rfl⟩
  | m + 1, h => by
    by_cases e : k = m + 1
    · exact ⟨[], by rw [e]; simp, Or.inl rfl⟩
    · obtain ⟨S, h1, h2⟩ := txPs_s L xs c k m (by omega)
      refine ⟨S ++ txP L xs c m, ?_, Or.inr ?_⟩
      · show txPs L xs c m ++ txP L xs c m = _
        rw [h1, List.append_assoc]
      · rw [txP_e]
        rcases h2 with rfl | ⟨Q, rfl⟩
        · exact ⟨_, rfl⟩
        · exact ⟨_, rfl⟩
theorem nl_S {S : List Nat} (h : S = [] ∨ ∃ Q, S = 32 :: Q) (R : List Nat) : nlD (S ++ 59 :: R) := by
  rcases h with rfl | ⟨Q, rfl⟩
  · exact nl_59 R
  · exact nl_32 _
theorem crv_ps {T : Int → Int} {n q x : Int} {L : Nat} {xs : Nat → Int32} {c : Nat} {f : Int → Int} {R : List Nat} (h : Rm T n q (txPs L xs c (ptC L xs c) ++ 59 :: R)) : ∀ k : Nat, k ≤ ptC L xs c → ∃ x' f', crv T n c 13 0 (adF T n q x) f = crv T n c (13 - 3 * k) (3 * k : Nat) (adF T n (q + (txPs L xs c k).length) x') f' ∧ ∀ i, i < 18 → f' i = f i
  | 0, _ => ⟨x, f, by simp [txPs], fun _ _ => rfl⟩
  | k + 1, hk => by
    obtain ⟨x1, f1, e1, k1⟩ := crv_ps h k (by omega)
    obtain ⟨S, s1, s2⟩ := txPs_s L xs c (k + 1) (ptC L xs c) hk
    have hb := (ptC_b (L := L) (xs := xs) (c := c)).2
    rw [s1] at h
    have h0 : Rm T n (q + (txPs L xs c k).length) ([32] ++ decL (ptN L xs c k 0) ++ (32 :: (decL (ptN L xs c k 1) ++ (32 :: (decL (ptN L xs c k 2) ++ (S ++ 59 :: R)))))) := by
      apply Rm_app
      have e : txPs L xs c (k + 1) = txPs L xs c k ++ txP L xs c k := rfl
      rw [e] at h
      simpa [txP, txN] using h
    have b0 := ptN_b (L := L) (xs := xs) (c := c) (k := k) (w := 0)
    have b1 := ptN_b (L := L) (xs := xs) (c := c) (k := k) (w := 1)
    have b2 := ptN_b (L := L) (xs := xs) (c := c) (k := k) (w := 2)
    have h1 := Rm_app ([32] ++ decL (ptN L xs c k 0)) _ h0
    have m0 : ((3 * k : Nat) : Int) % 3 = 0 := by omega
    have h1' : Rm T n (q + (txPs L xs c k).length + ([32] ++ decL (ptN L xs c k 0)).length) ([32] ++ decL (ptN L xs c k 1) ++ (32 :: (decL (ptN L xs c k 2) ++ (S ++ 59 :: R)))) := by simpa using h1
    have h2' : Rm T n (q + (txPs L xs c k).length + ([32] ++ decL (ptN L xs c k 0)).length + ([32] ++ decL (ptN L xs c k 1)).length) ([32] ++ decL (ptN L xs c k 2) ++ (S ++ 59 :: R)) := by
      have := Rm_app ([32] ++ decL (ptN L xs c k 1)) _ h1'
      simpa using this
    obtain ⟨g1, a1, d1⟩ := crv_1e (c := c) (i := (3 * k : Nat)) (x := x1) (m := 13 - 3 * (k + 1) + 2) (f := f1) (by omega) (by omega) (by omega) ⟨b0.1, fun z => by omega⟩ (nl_32 _) h0
    obtain ⟨g2, a2, d2⟩ := crv_1e (c := c) (i := (3 * k : Nat) + 1) (x := (ptN L xs c k 0 : Nat)) (m := 13 - 3 * (k + 1) + 1) (f := g1) (by omega) (by omega) (by omega) ⟨b1.1, fun z => by omega⟩ (nl_32 _) h1'
    obtain ⟨g3, a3, d3⟩ := crv_1e (c := c) (i := (3 * k : Nat) + 1 + 1) (x := (ptN L xs c k 1 : Nat)) (m := 13 - 3 * (k + 1)) (f := g2) (by omega) (by omega) (by omega) ⟨b2.1, fun z => b2.2 rfl⟩ (nl_S s2 R) h2'
    refine ⟨(ptN L xs c k 2 : Nat), g3, ?_, fun i hi => by rw [d3 i hi, d2 i hi, d1 i hi, k1 i hi]⟩
    rw [e1, show 13 - 3 * k = 13 - 3 * (k + 1) + 2 + 1 by omega, a1, a2, a3]
    have ei : ((3 * k : Nat) : Int) + 1 + 1 + 1 = ((3 * (k + 1) : Nat) : Int) := by omega
    have eq : q + (txPs L xs c k).length + (([32] ++ decL (ptN L xs c k 0)).length : Int) + (([32] ++ decL (ptN L xs c k 1)).length : Int) + (([32] ++ decL (ptN L xs c k 2)).length : Int) = q + (txPs L xs c (k + 1)).length := by
      simp [txPs, txP, txN]; omega
    rw [ei, eq]
theorem st_cur {T : Int → Int} {n p v g : Int} {L : Nat} {xs : Nat → Int32} {c : Nat} {R : List Nat} {f : Int → Int} (hc : c < 5) (hf : nmP f c 0) (h : Rm T n p (txC L xs c ++ R)) :
    ∃ v' f', Rd T n 1 (adF T n p v) f g (adF T n (p + (txC L xs c).length) v') f' g ∧ nmP f' (c + 1) 0 := by
  have hb := ptC_b (L := L) (xs := xs) (c := c)
  have h0 : Rm T n p (99 :: [117, 114, 118, 101] ++ (32 :: ([99, 97 + c] ++ (txPs L xs c (ptC L xs c) ++ 59 :: R)))) := by
    simpa [txC, txH, kCurve] using h
  have e0 := ad_wd (v := v) (nl_32 _) (by decide) (by decide) h0
  have h1 : Rm T n (p + 5) (32 :: ([99, 97 + c] ++ (txPs L xs c (ptC L xs c) ++ 59 :: R))) := Rm_app [99, 117, 114, 118, 101] p h0
  have h2 := (Rm_cons h1).2.2.2
  have nlp : nlD (txPs L xs c (ptC L xs c) ++ 59 :: R) := by
    obtain ⟨S, s1, s2⟩ := txPs_s L xs c 0 (ptC L xs c) (by omega)
    rw [s1]
    exact nl_S s2 R
  have e1 : ∀ v, adF T n (p + 5) v = (p + 5 + 1, p + 5 + 1 + (2 : Nat), 0, nmC c) := fun v => by
    rw [ad_bl h1, ad_wd (a := 99) (w := [97 + c]) nlp (by intro x hx; simp at hx; omega) (Nat.le_of_ble_eq_true rfl) h2]; rfl
  have h3 := Rm_app [99, 97 + c] _ h2
  replace h3 : Rm T n (p + 5 + 1 + (2 : Nat)) (txPs L xs c (ptC L xs c) ++ 59 :: R) := h3
  obtain ⟨x', f', e2, k2⟩ := crv_ps (x := nmC c) (f := up1 (up1 f (4 + f 0) (nmC c)) 0 (f 0 + 1)) h3 (ptC L xs c) (Nat.le_refl _)
  have h4 := Rm_app (txPs L xs c (ptC L xs c)) _ h3
  have e3 := fun v => ad_sc (v := v) h4
  rw [e3] at e2
  have e4 : crv T n c (13 - 3 * ptC L xs c) (3 * ptC L xs c : Nat) (p + 5 + 1 + (2 : Nat) + (txPs L xs c (ptC L xs c)).length, p + 5 + 1 + (2 : Nat) + (txPs L xs c (ptC L xs c)).length + 1, 2, x') f' = (0, (p + 5 + 1 + (2 : Nat) + (txPs L xs c (ptC L xs c)).length, p + 5 + 1 + (2 : Nat) + (txPs L xs c (ptC L xs c)).length + 1, 2, x'), f') := by
    rw [show 13 - 3 * ptC L xs c = (12 - 3 * ptC L xs c) + 1 by omega]
    unfold crv
    exact if_pos ⟨by omega, by omega, rfl⟩
  rw [e4] at e2
  have el : p + ((txC L xs c).length : Int) = p + 5 + 1 + (2 : Nat) + (txPs L xs c (ptC L xs c)).length + 1 := by
    simp [txC, txH, kCurve]; omega
  refine ⟨x', f', ?_, ?_⟩
  · have k0 : wkF (99 :: [117, 114, 118, 101]) (99 :: [117, 114, 118, 101] : List Nat).length = 123295904 := wk_w.2.2.2.1
    rw [e0, k0, el]
    refine Rd_1 (show (0 : Int) ≠ 5 by decide) ?_
    have n1 : nxT T n (p, p + ((99 :: [117, 114, 118, 101] : List Nat).length : Int), 0, 123295904) = (p + 5 + 1, p + 5 + 1 + (2 : Nat), 0, nmC c) := e1 _
    have eX : rdX T n (p, p + ((99 :: [117, 114, 118, 101] : List Nat).length : Int), 0, 123295904) f g = (0, (p + 5 + 1 + (2 : Nat) + (txPs L xs c (ptC L xs c)).length, p + 5 + 1 + (2 : Nat) + (txPs L xs c (ptC L xs c)).length + 1, 2, x'), f', g) := by
      have eC : rdC T n (p, p + ((99 :: [117, 114, 118, 101] : List Nat).length : Int), 0, 123295904) f = (0, (p + 5 + 1 + (2 : Nat) + (txPs L xs c (ptC L xs c)).length, p + 5 + 1 + (2 : Nat) + (txPs L xs c (ptC L xs c)).length + 1, 2, x'), f') := by
        unfold rdC
        rw [if_pos (by rw [hf.1]; omega), n1, if_pos (nmE_c hf hc), ← e2, hf.1]
        rfl
      unfold rdX
      rw [if_pos ⟨rfl, rfl⟩, eC]
    unfold rdT
    rw [eX]
    dsimp only
    rw [if_pos rfl, if_pos rfl]; rfl
  · obtain ⟨q0, q1, q2, q3⟩ := hf
    refine ⟨?_, ?_, fun i hi => ?_, fun i hi => by omega⟩
    · rw [k2 0 (by omega), up1_s, q0]; omega
    · rw [k2 1 (by omega), up1_o (by omega), up1_o (by omega), q1]
    · rw [k2 _ (by omega), up1_o (by omega), q0]
      by_cases e : i = c
      · rw [e, up1_s]
      · rw [up1_o (by omega)]; exact q2 i (by omega)
/-- a signed number -/
theorem sg_tok {T : Int → Int} {n q x : Int} {v : Int} {R : List Nat} (h1 : -100 ≤ v) (h2 : v ≤ 100) (hR : nlD R) (h : Rm T n q (sgL v ++ R)) :
    ∃ a, sgK T n (adF T n q x) = (a, q + (sgL v).length, 1, (v.natAbs : Int)) ∧ (if (adF T n q x).2.2.1 = 3 then -(sgK T n (adF T n q x)).2.2.2 else (sgK T n (adF T n q x)).2.2.2) = v := by
  unfold sgL at h ⊢
  by_cases z : v < 0
  · rw [if_pos z] at h ⊢
    have h0 : Rm T n q (32 :: 45 :: (decL (-v).toNat ++ R)) := by simpa using h
    have h3 := (Rm_cons h0).2.2.2
    have h4 := (Rm_cons h3).2.2.2
    have e0 : adF T n q x = (q + 1, q + 1 + 1, 3, x) := by rw [ad_bl h0, ad_mi h3]
    have e1 : sgK T n (q + 1, q + 1 + 1, 3, x) = (q + 1 + 1, q + 1 + 1 + (decL (-v).toNat).length, 1, ((-v).toNat : Int)) := by
      unfold sgK
      rw [if_pos rfl, nx_e, ad_in (by omega) hR h4]
    rw [e0, e1]
    refine ⟨q + 1 + 1, ?_, ?_⟩
    · have el : q + (([32, 45] ++ decL (-v).toNat).length : Int) = q + 1 + 1 + (decL (-v).toNat).length := by simp; omega
      rw [el, show ((-v).toNat : Int) = (v.natAbs : Int) by omega]
    · rw [if_pos rfl]; dsimp only; omega
  · rw [if_neg z] at h ⊢
    have e0 : adF T n q x = (q + 1, q + ([32] ++ decL v.toNat).length, 1, (v.toNat : Int)) := ad_bi (by omega) hR h
    have e1 : sgK T n (q + 1, q + (([32] ++ decL v.toNat).length : Int), 1, (v.toNat : Int)) = (q + 1, q + ([32] ++ decL v.toNat).length, 1, (v.toNat : Int)) := by
      unfold sgK
      rw [if_neg (show ¬ (1 : Int) = 3 by decide)]
    rw [e0, e1]
    refine ⟨q + 1, ?_, ?_⟩
    · rw [show (v.toNat : Int) = (v.natAbs : Int) by omega]
    · rw [if_neg (show ¬ (1 : Int) = 3 by decide)]; dsimp only; omega
theorem sgL_h (v : Int) : ∃ S, sgL v = 32 :: S := by
  unfold sgL
  split
  · exact ⟨_, rfl⟩
  · exact ⟨_, rfl⟩
theorem lin_1 {T : Int → Int} {n l w q x v : Int} {m : Nat} {f : Int → Int} {R : List Nat} (hw : 0 ≤ w ∧ w ≤ 2) (h1 : -100 ≤ v) (h2 : v ≤ 100) (h5 : w < 2 → -5 ≤ v ∧ v ≤ 5) (hz : w = 1 → ¬ (w32 (f (122 + l * 3 + 0)) = 0 ∧ v = 0)) (hR : nlD R) (h : Rm T n q (sgL v ++ R)) :
    lin T n l (m + 1) w (adF T n q x) f = lin T n l m (w + 1) (adF T n (q + (sgL v).length) v.natAbs) (up1 f (122 + l * 3 + w) v) := by
  obtain ⟨a, e1, e2⟩ := sg_tok (x := x) h1 h2 hR h
  have le : lnE w (f (122 + l * 3 + 0)) (sgK T n (adF T n q x)) = 0 := by
    rw [e1]
    unfold lnE
    have ie : inE 0 (if w < 2 then 5 else 200) (a, q + ((sgL v).length : Int), 1, (v.natAbs : Int)) = 0 := by
      unfold inE
      rw [if_pos rfl, if_pos ⟨by show (0 : Int) ≤ (v.natAbs : Int); omega, by
        show (v.natAbs : Int) ≤ _
        split
        · rename_i z
          have := h5 z; omega
        · omega⟩]
    rw [if_neg (by
      rintro ⟨-, z1, z2, z3⟩
      have z3 : (v.natAbs : Int) = 0 := z3
      exact hz z1 ⟨z2, by omega⟩)]
    exact ie
  conv => lhs; unfold lin
  rw [if_pos le, e2, e1]
  rfl
theorem st_lin {T : Int → Int} {n p v g : Int} {L : Nat} {xs : Nat → Int32} {c j : Nat} {R : List Nat} {f : Int → Int} (hc : c ≤ 5) (hj : j < 4) (hf : nmP f c j) (h : Rm T n p (txL L xs j ++ R)) :
    ∃ v' f', Rd T n 1 (adF T n p v) f g (adF T n (p + (txL L xs j).length) v') f' g ∧ nmP f' c (j + 1) := by
  have b0 := lnV_b (L := L) (xs := xs) (j := j) (w := 0)
  have b1 := lnV_b (L := L) (xs := xs) (j := j) (w := 1)
  have b2 := lnV_b (L := L) (xs := xs) (j := j) (w := 2)
  have h0 : Rm T n p (108 :: [105, 110, 101] ++ (32 :: ([108, 97 + j] ++ (sgL (lnV L xs j 0) ++ (sgL (lnV L xs j 1) ++ (sgL (lnV L xs j 2) ++ 59 :: R)))))) := by
    simpa [txL, kLine] using h
  have e0 := ad_wd (v := v) (nl_32 _) (by decide) (by decide) h0
  have h1 : Rm T n (p + 4) (32 :: ([108, 97 + j] ++ (sgL (lnV L xs j 0) ++ (sgL (lnV L xs j 1) ++ (sgL (lnV L xs j 2) ++ 59 :: R))))) := Rm_app [108, 105, 110, 101] p h0
  have h2 := (Rm_cons h1).2.2.2
  have nls : ∀ (y : Int) (Q : List Nat), nlD (sgL y ++ Q) := fun y Q => by
    obtain ⟨S, e⟩ := sgL_h y
    rw [e]; exact nl_32 _
  have e1 : ∀ v, adF T n (p + 4) v = (p + 4 + 1, p + 4 + 1 + (2 : Nat), 0, nmL j) := fun v => by
    rw [ad_bl h1, ad_wd (a := 108) (w := [97 + j]) (nls _ _) (by intro x hx; simp at hx; omega) (Nat.le_of_ble_eq_true rfl) h2]; rfl
  have h3 := Rm_app [108, 97 + j] _ h2
  replace h3 : Rm T n (p + 4 + 1 + (2 : Nat)) (sgL (lnV L xs j 0) ++ (sgL (lnV L xs j 1) ++ (sgL (lnV L xs j 2) ++ 59 :: R))) := h3
  have h4 := Rm_app _ _ h3
  have h5 := Rm_app _ _ h4
  have h6 := Rm_app _ _ h5
  obtain ⟨q0, q1, q2, q3⟩ := id hf
  generalize ef : up1 (up1 f (12 + f 1) (nmL j)) 1 (f 1 + 1) = f1
  have l1 := lin_1 (T := T) (n := n) (l := f 1) (w := 0) (m := 2) (x := nmL j) (f := f1) (by omega) b0.1 b0.2.1 (fun _ => b0.2.2.1 (by decide)) (fun z => by omega) (nls _ _) h3
  have l2 := lin_1 (T := T) (n := n) (l := f 1) (w := 0 + 1) (m := 1) (x := ((lnV L xs j 0).natAbs : Int)) (f := up1 f1 (122 + f 1 * 3 + 0) (lnV L xs j 0)) (by omega) b1.1 b1.2.1 (fun _ => b1.2.2.1 (by decide)) (fun _ => by
    rw [up1_s, w32_id (by omega) (by omega)]
    rintro ⟨z1, z2⟩
    rcases b0.2.2.2 with z | z
    · exact z z1
    · exact z z2) (nls _ _) h4
  have l3 := lin_1 (T := T) (n := n) (l := f 1) (w := 0 + 1 + 1) (m := 0) (x := ((lnV L xs j 1).natAbs : Int)) (f := up1 (up1 f1 (122 + f 1 * 3 + 0) (lnV L xs j 0)) (122 + f 1 * 3 + (0 + 1)) (lnV L xs j 1)) (by omega) b2.1 b2.2.1 (fun z => by omega) (fun z => by omega) (nl_59 _) h5
  have e3 := fun v => ad_sc (v := v) h6
  generalize hf' : up1 (up1 (up1 f1 (122 + f 1 * 3 + 0) (lnV L xs j 0)) (122 + f 1 * 3 + (0 + 1)) (lnV L xs j 1)) (122 + f 1 * 3 + (0 + 1 + 1)) (lnV L xs j 2) = f' at l3
  generalize hq : p + 4 + 1 + ((2 : Nat) : Int) + ((sgL (lnV L xs j 0)).length : Int) + ((sgL (lnV L xs j 1)).length : Int) + ((sgL (lnV L xs j 2)).length : Int) = q at l3 e3
  have e2 : lin T n (f 1) 3 0 (adF T n (p + 4 + 1 + (2 : Nat)) (nmL j)) f1 = (0, (q, q + 1, 2, ((lnV L xs j 2).natAbs : Int)), f') := by
    rw [l1, l2, l3, e3]; rfl
  have el : p + ((txL L xs j).length : Int) = q + 1 := by
    rw [← hq]
    simp [txL, kLine]; omega
  refine ⟨((lnV L xs j 2).natAbs : Int), f', ?_, ?_⟩
  · have k0 : wkF (108 :: [105, 110, 101]) (108 :: [105, 110, 101] : List Nat).length = 412554240 := wk_w.2.2.2.2
    rw [e0, k0, el]
    refine Rd_1 (show (0 : Int) ≠ 5 by decide) ?_
    have n1 : nxT T n (p, p + ((108 :: [105, 110, 101] : List Nat).length : Int), 0, 412554240) = (p + 4 + 1, p + 4 + 1 + (2 : Nat), 0, nmL j) := e1 _
    have eX : rdX T n (p, p + ((108 :: [105, 110, 101] : List Nat).length : Int), 0, 412554240) f g = (0, (q, q + 1, 2, ((lnV L xs j 2).natAbs : Int)), f', g) := by
      have eC : rdL T n (p, p + ((108 :: [105, 110, 101] : List Nat).length : Int), 0, 412554240) f = (0, (q, q + 1, 2, ((lnV L xs j 2).natAbs : Int)), f') := by
        unfold rdL
        rw [if_pos (by rw [q1]; omega), n1, if_pos (nmE_l hf hc hj), ← e2, ← ef]
        rfl
      unfold rdX
      rw [if_neg (show ¬ ((0 : Int) = 0 ∧ (412554240 : Int) = 123295904) by decide), if_pos ⟨rfl, rfl⟩, eC]
    unfold rdT
    rw [eX]
    dsimp only
    rw [if_pos rfl, if_pos rfl]; rfl
  · rw [← hf', ← ef]
    refine ⟨?_, ?_, fun i hi => ?_, fun i hi => ?_⟩
    · rw [up1_o (by omega), up1_o (by omega), up1_o (by omega), up1_o (by omega), up1_o (by omega), q0]
    · rw [up1_o (by omega), up1_o (by omega), up1_o (by omega), up1_s, q1]; omega
    · rw [up1_o (by omega), up1_o (by omega), up1_o (by omega), up1_o (by omega), up1_o (by omega)]; exact q2 i hi
    · rw [up1_o (by omega), up1_o (by omega), up1_o (by omega), up1_o (by omega), q1]
      by_cases e : i = j
      · rw [e, up1_s]
      · rw [up1_o (by omega)]; exact q3 i (by omega)
/-! the whole text -/
theorem txCs_s (L : Nat) (xs : Nat → Int32) (c : Nat) : ∀ m, c ≤ m → ∃ S, txCs L xs m = txCs L xs c ++ S
  | 0, h => by
    have e : c = 0 := by omega
    subst e
    exact ⟨[], by simp⟩
  | m + 1, h => by
    by_cases e : c = m + 1
    · exact ⟨[], by rw [e]; simp⟩
    · obtain ⟨S, h1⟩ := txCs_s L xs c m (by omega)
      exact ⟨S ++ txC L xs m, by show txCs L xs m ++ txC L xs m = _; rw [h1, List.append_assoc]⟩
theorem txLs_s (L : Nat) (xs : Nat → Int32) (c : Nat) : ∀ m, c ≤ m → ∃ S, txLs L xs m = txLs L xs c ++ S
  | 0, h => by
    have e : c = 0 := by omega
    subst e
    exact ⟨[], by simp⟩
  | m + 1, h => by
    by_cases e : c = m + 1
    · exact ⟨[], by rw [e]; simp⟩
    · obtain ⟨S, h1⟩ := txLs_s L xs c m (by omega)
      exact ⟨S ++ txL L xs m, by show txLs L xs m ++ txL L xs m = _; rw [h1, List.append_assoc]⟩
theorem rd_0 {T : Int → Int} {n v : Int} {L : Nat} {xs : Nat → Int32} {R : List Nat} {f : Int → Int} (hf : nmP f 0 0) (h : Rm T n 0 (tx0 L xs ++ R)) : ∃ v' f', Rd T n 2 (adF T n 0 v) f 0 (adF T n (tx0 L xs).length v') f' 3 ∧ nmP f' 0 0 := by
  have b1 := ltN_b (L := L) (xs := xs)
  have b2 := dpN_b (L := L) (xs := xs)
  have h0 : Rm T n 0 ([115, 101, 116, 32] ++ [108, 105, 109, 105, 116] ++ [32] ++ decL (ltN L xs) ++ [59] ++ ([115, 101, 116, 32] ++ [100, 101, 112, 116, 104] ++ [32] ++ decL (dpN L xs) ++ [59] ++ R)) := by
    simpa [tx0, kLimit, kDepth] using h
  obtain ⟨v1, r1⟩ := st_set (v := v) (g := 0) (f := f) (Or.inl ⟨rfl, rfl, rfl⟩) (by decide) ⟨b1.1, by show ((ltN L xs : Nat) : Int) ≤ 12; omega, by omega⟩ h0
  obtain ⟨v2, r2⟩ := st_set (v := v1) (g := x_or 0 (x_shl 1 0)) (f := up1 f (2 + 0) (ltN L xs)) (Or.inr ⟨rfl, rfl, rfl⟩) (by decide) ⟨b2.1, by show ((dpN L xs : Nat) : Int) ≤ 6; omega, by omega⟩ (Rm_app _ _ h0)
  refine ⟨v2, up1 (up1 f (2 + 0) (ltN L xs : Nat)) (2 + 1) (dpN L xs : Nat), ?_, ?_⟩
  rotate_left
  · obtain ⟨q0, q1, q2, q3⟩ := hf
    exact ⟨by rw [up1_o (by decide), up1_o (by decide), q0], by rw [up1_o (by decide), up1_o (by decide), q1], fun i hi => by omega, fun i hi => by omega⟩
  · have r := Rd_t r1 r2
    have el : ((tx0 L xs).length : Int) = 0 + (([115, 101, 116, 32] ++ [108, 105, 109, 105, 116] ++ [32] ++ decL (ltN L xs) ++ [59] : List Nat).length : Int) + (([115, 101, 116, 32] ++ [100, 101, 112, 116, 104] ++ [32] ++ decL (dpN L xs) ++ [59] : List Nat).length : Int) := by
      simp [tx0, kLimit, kDepth]; omega
    rw [el]
    exact r
theorem rd_c {T : Int → Int} {n v : Int} {L : Nat} {xs : Nat → Int32} {f : Int → Int} (hf : nmP f 0 0) (h : Rm T n 0 (txT L xs)) : ∀ c, c ≤ cvN L xs → ∃ v' f', Rd T n (2 + c) (adF T n 0 v) f 0 (adF T n (tC L xs c).length v') f' 3 ∧ nmP f' c 0
  | 0, _ => by
    have h0 : Rm T n 0 (tx0 L xs ++ (txCs L xs (cvN L xs) ++ txLs L xs (lnN L xs))) := by simpa [txT] using h
    obtain ⟨v', f', a, b⟩ := rd_0 (v := v) hf h0
    refine ⟨v', f', ?_, b⟩
    have e : tC L xs 0 = tx0 L xs := by simp [txCs]
    rw [e]; exact a
  | c + 1, hc => by
    obtain ⟨v1, f1, r1, n1⟩ := rd_c (v := v) hf h c (by omega)
    have hb := (cvN_b (L := L) (xs := xs)).2
    obtain ⟨S, s⟩ := txCs_s L xs (c + 1) (cvN L xs) hc
    have h1 : Rm T n (tC L xs c).length (txC L xs c ++ (S ++ txLs L xs (lnN L xs))) := by
      have := Rm_app (tC L xs c) 0 (R := txC L xs c ++ (S ++ txLs L xs (lnN L xs))) (by
        have e : txCs L xs (c + 1) = txCs L xs c ++ txC L xs c := rfl
        rw [e] at s
        unfold txT at h
        rw [s] at h
        simpa using h)
      rw [Int.zero_add] at this; exact this
    obtain ⟨v2, f2, r2, n2⟩ := st_cur (v := v1) (g := 3) (by omega) n1 h1
    refine ⟨v2, f2, ?_, n2⟩
    have r := Rd_t r1 r2
    have el : ((tC L xs (c + 1)).length : Int) = (tC L xs c).length + (txC L xs c).length := by
      simp [txCs]; omega
    rw [el]
    exact r
theorem rd_l {T : Int → Int} {n v : Int} {L : Nat} {xs : Nat → Int32} {f : Int → Int} (hf : nmP f 0 0) (h : Rm T n 0 (txT L xs)) : ∀ j, j ≤ lnN L xs → ∃ v' f', Rd T n (2 + cvN L xs + j) (adF T n 0 v) f 0 (adF T n (tL L xs j).length v') f' 3 ∧ nmP f' (cvN L xs) j
  | 0, _ => by
    obtain ⟨v', f', a, b⟩ := rd_c (v := v) hf h (cvN L xs) (Nat.le_refl _)
    refine ⟨v', f', ?_, b⟩
    have e : tL L xs 0 = tC L xs (cvN L xs) := by simp [txLs]
    rw [e]; exact a
  | j + 1, hj => by
    obtain ⟨v1, f1, r1, n1⟩ := rd_l (v := v) hf h j (by omega)
    have hb := (cvN_b (L := L) (xs := xs)).2
    have hb2 := (lnN_b (L := L) (xs := xs)).2
    obtain ⟨S, s⟩ := txLs_s L xs (j + 1) (lnN L xs) hj
    have h1 : Rm T n (tL L xs j).length (txL L xs j ++ S) := by
      have := Rm_app (tL L xs j) 0 (R := txL L xs j ++ S) (by
        have e : txLs L xs (j + 1) = txLs L xs j ++ txL L xs j := rfl
        rw [e] at s
        unfold txT at h
        rw [s] at h
        simpa using h)
      rw [Int.zero_add] at this; exact this
    obtain ⟨v2, f2, r2, n2⟩ := st_lin (v := v1) (g := 3) hb (by omega) n1 h1
    refine ⟨v2, f2, ?_, n2⟩
    have r := Rd_t r1 r2
    have el : ((tL L xs (j + 1)).length : Int) = (tL L xs j).length + (txL L xs j).length := by
      simp [txLs]; omega
    rw [el]
    exact r
theorem rd_T {T : Int → Int} {n v : Int} {L : Nat} {xs : Nat → Int32} {f : Int → Int} (hf : nmP f 0 0) (h : Rm T n 0 (txT L xs)) : ∃ t f' g, rdA T n 801 0 (adF T n 0 v) f 0 = (((2 + cvN L xs + lnN L xs : Nat) : Int), t, f', g) ∧ nmP f' (cvN L xs) (lnN L xs) := by
  obtain ⟨v', f', r, b⟩ := rd_l (v := v) hf h (lnN L xs) (Nat.le_refl _)
  have hb := (cvN_b (L := L) (xs := xs)).2
  have hb2 := (lnN_b (L := L) (xs := xs)).2
  have he : Rm T n (txT L xs).length [] := by
    have := Rm_app (R := []) (txT L xs) 0 (by simpa using h)
    rw [Int.zero_add] at this; exact this
  have k := r (801 - (2 + cvN L xs + lnN L xs)) 0
  rw [show 801 - (2 + cvN L xs + lnN L xs) + (2 + cvN L xs + lnN L xs) = 801 by omega] at k
  have eT : (tL L xs (lnN L xs)).length = (txT L xs).length := rfl
  rw [eT, ad_en he, show 801 - (2 + cvN L xs + lnN L xs) = (800 - (2 + cvN L xs + lnN L xs)) + 1 by omega] at k
  refine ⟨((txT L xs).length, (txT L xs).length, 5, v'), f', 3, ?_, b⟩
  rw [k]
  show (if (5 : Int) = 5 then _ else _) = _
  rw [if_pos rfl, Int.zero_add]
