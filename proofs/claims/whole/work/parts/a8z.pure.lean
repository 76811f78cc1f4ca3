def figR (f : Int → Int) : Prop := fgOK f ∧ lnOK f
theorem rdC_F {T : Int → Int} {n : Int} {t : TK} {f : Int → Int} (h : figR f) (z : (rdC T n t f).1 = 0) : figR (rdC T n t f).2.2 := by
  obtain ⟨⟨⟨hc, hl⟩, ⟨hs, hd⟩, hp, hv⟩, hln⟩ := h
  by_cases z8 : f 0 < 8
  · by_cases y : nmE f (nxT T n t) = 0
    · have eR : rdC T n t f = crv T n (f 0) (3 * 4 + 1) (3 * 0) (nxT T n (nxT T n t)) (up1 (up1 f (4 + f 0) (nxT T n t).2.2.2) 0 (f 0 + 1)) := by
        unfold rdC; rw [if_pos z8, if_pos y]; rfl
      have C := crv_F (T := T) (n := n) (c := f 0) hc.1 z8 4 0 (nxT T n (nxT T n t)) (up1 (up1 f (4 + f 0) (nxT T n t).2.2.2) 0 (f 0 + 1)) (by decide) (by decide) (fun j j0 j1 => by omega) (fun w => absurd w (by decide))
      rw [← eR] at C
      obtain ⟨⟨C1, C2⟩, C3⟩ := C z
      generalize (rdC T n t f).2.2 = r at *
      have keep : ∀ i, i ≠ 0 → i ≠ 4 + f 0 → i ≠ 18 + f 0 → (i < 26 + f 0 * 12 ∨ 38 + f 0 * 12 ≤ i) → r i = f i := fun i a b d e => by
        rw [C3 i d e, up1_o a, up1_o b]
      have r0 : r 0 = f 0 + 1 := by rw [C3 0 (by omega) (by omega), up1_s]
      have r1 : r 1 = f 1 := keep 1 (by omega) (by omega) (by omega) (by omega)
      have r2 : r 2 = f 2 := keep 2 (by omega) (by omega) (by omega) (by omega)
      have r3 : r 3 = f 3 := keep 3 (by omega) (by omega) (by omega) (by omega)
      refine ⟨⟨⟨by omega, by omega⟩, ⟨by omega, by omega⟩, fun e e0 e1 => ?_, fun l w l0 l1 w0 w1 => ?_⟩, fun l l0 l1 => ?_⟩
      · by_cases q : e = f 0
        · rw [q]; exact ⟨C1, C2⟩
        · have he := hp e e0 (by omega)
          have k18 : r (18 + e) = f (18 + e) := keep _ (by omega) (by omega) (by omega) (by omega)
          rw [k18]
          refine ⟨he.1, fun k k0 k1 => ?_⟩
          have hk := he.2 k k0 k1
          have kp : ∀ w, 0 ≤ w → w ≤ 2 → pxF r e k w = pxF f e k w := fun w w0 w1 => by
            unfold pxF
            exact keep _ (by omega) (by omega) (by omega) (by omega)
          rw [kp 0 (by decide) (by decide), kp 1 (by decide) (by decide), kp 2 (by decide) (by decide)]
          exact hk
      · rw [keep (122 + l * 3 + w) (by omega) (by omega) (by omega) (by omega)]
        exact hv l w l0 (by omega) w0 w1
      · have a := hln l l0 (by omega)
        rw [keep (122 + l * 3 + 0) (by omega) (by omega) (by omega) (by omega), keep (122 + l * 3 + 1) (by omega) (by omega) (by omega) (by omega)]
        exact a
    · have eR : rdC T n t f = (nmE f (nxT T n t), nxT T n t, f) := by unfold rdC; rw [if_pos z8, if_neg y]
      rw [eR] at z
      exact absurd z y
  · have eR : rdC T n t f = (-14, t, f) := by unfold rdC; rw [if_neg z8]
    rw [eR] at z
    exact absurd z (by show ¬ (-14 : Int) = 0; decide)
theorem lnE_r {w a : Int} {t : TK} (h : lnE w a t = 0) : 0 ≤ t.2.2.2 ∧ t.2.2.2 ≤ (if w < 2 then 5 else 200) := by
  unfold lnE at h
  by_cases z : inE 0 (if w < 2 then 5 else 200) t = 0 ∧ w = 1 ∧ w32 a = 0 ∧ t.2.2.2 = 0
  · rw [if_pos z] at h; exact absurd h (by decide)
  · rw [if_neg z] at h
    exact inE_r h
theorem lin_F {T : Int → Int} {n l : Int} {t : TK} {f : Int → Int} (z : (lin T n l 3 0 t f).1 = 0) : ∃ x y w, (-5 ≤ x ∧ x ≤ 5) ∧ (-5 ≤ y ∧ y ≤ 5) ∧ (-200 ≤ w ∧ w ≤ 200) ∧ (lin T n l 3 0 t f).2.2 = up1 (up1 (up1 f (122 + l * 3 + 0) x) (122 + l * 3 + 1) y) (122 + l * 3 + 2) w := by
  have vb : ∀ (m a v : Int), 0 ≤ v → v ≤ m → -m ≤ (if a = 3 then -v else v) ∧ (if a = 3 then -v else v) ≤ m := fun m a v v0 v1 => by split <;> omega
  rw [show (3 : Nat) = 2 + 1 from rfl, lin_u] at z ⊢
  by_cases q1 : lnE 0 (f (122 + l * 3 + 0)) (sgK T n t) = 0
  · rw [if_pos q1] at z ⊢
    rw [show (2 : Nat) = 1 + 1 from rfl, lin_u, show (0 : Int) + 1 = 1 from rfl] at z ⊢
    generalize ea : up1 f (122 + l * 3 + 0) (if t.2.2.1 = 3 then -(sgK T n t).2.2.2 else (sgK T n t).2.2.2) = f1 at z ⊢
    by_cases q2 : lnE 1 (f1 (122 + l * 3 + 0)) (sgK T n (nxT T n (sgK T n t))) = 0
    · rw [if_pos q2] at z ⊢
      rw [show (1 : Nat) = 0 + 1 from rfl, lin_u, show (1 : Int) + 1 = 2 from rfl] at z ⊢
      generalize eb : up1 f1 (122 + l * 3 + 1) (if (nxT T n (sgK T n t)).2.2.1 = 3 then -(sgK T n (nxT T n (sgK T n t))).2.2.2 else (sgK T n (nxT T n (sgK T n t))).2.2.2) = f2 at z ⊢
      by_cases q3 : lnE 2 (f2 (122 + l * 3 + 0)) (sgK T n (nxT T n (sgK T n (nxT T n (sgK T n t))))) = 0
      · rw [if_pos q3]
        have b1 := lnE_r q1; have b2 := lnE_r q2; have b3 := lnE_r q3
        rw [if_pos (by decide)] at b1 b2
        rw [if_neg (by decide)] at b3
        exact ⟨_, _, _, vb 5 _ _ b1.1 b1.2, vb 5 _ _ b2.1 b2.2, vb 200 _ _ b3.1 b3.2, by rw [ea, eb]; rfl⟩
      · rw [if_neg q3] at z; exact absurd z q3
    · rw [if_neg q2] at z; exact absurd z q2
  · rw [if_neg q1] at z; exact absurd z q1
