/-- lines with small slopes -/
def lnOK (f : Int → Int) : Prop := ∀ l, 0 ≤ l → l < f 1 → (-5 ≤ f (122 + l * 3 + 0) ∧ f (122 + l * 3 + 0) ≤ 5) ∧ -5 ≤ f (122 + l * 3 + 1) ∧ f (122 + l * 3 + 1) ≤ 5
theorem crv_u {T : Int → Int} {n c : Int} {m : Nat} {i : Int} {t : TK} {f : Int → Int} : crv T n c (m + 1) i t f = if i % 3 = 0 ∧ 2 ≤ i / 3 ∧ t.2.2.1 = 2 then (0, t, f) else if ptE (i / 3) (i % 3) t = 0 then crv T n c m (i + 1) (nxT T n t) (up1 (up1 f (26 + (c * 4 + i / 3) * 3 + i % 3) t.2.2.2) (18 + c) (i / 3 + 1)) else (ptE (i / 3) (i % 3) t, t, f) := rfl
theorem pt_0 {k w : Int} {t : TK} (hw : w = 0 ∨ w = 1) : ptE k w t = if inE 0 20 t = 0 ∧ 4 ≤ k then -14 else inE 0 20 t := by
  unfold ptE
  rw [if_neg (show ¬ w = 2 by omega)]
theorem pt_2 {k : Int} {t : TK} : ptE k 2 t = if inE 1 3 t = 0 ∧ 4 ≤ k then -14 else inE 1 3 t := by
  unfold ptE
  rw [if_pos (show (2 : Int) = 2 from rfl)]
theorem lin_u {T : Int → Int} {n l : Int} {m : Nat} {w : Int} {t : TK} {f : Int → Int} : lin T n l (m + 1) w t f = if lnE w (f (122 + l * 3 + 0)) (sgK T n t) = 0 then lin T n l m (w + 1) (nxT T n (sgK T n t)) (up1 f (122 + l * 3 + w) (if t.2.2.1 = 3 then -(sgK T n t).2.2.2 else (sgK T n t).2.2.2)) else (lnE w (f (122 + l * 3 + 0)) (sgK T n t), sgK T n t, f) := rfl
theorem inE_r {a b : Int} {t : TK} (h : inE a b t = 0) : a ≤ t.2.2.2 ∧ t.2.2.2 ≤ b := by
  unfold inE at h
  by_cases k : t.2.2.1 = 1
  · rw [if_pos k] at h
    by_cases v : a ≤ t.2.2.2 ∧ t.2.2.2 ≤ b
    · exact v
    · rw [if_neg v] at h; exact absurd h (by decide)
  · rw [if_neg k] at h; exact absurd h (by decide)
abbrev ptB (f : Int → Int) (c k : Int) : Prop := (0 ≤ pxF f c k 0 ∧ pxF f c k 0 ≤ 20) ∧ (0 ≤ pxF f c k 1 ∧ pxF f c k 1 ≤ 20) ∧ (1 ≤ pxF f c k 2 ∧ pxF f c k 2 ≤ 3)
theorem px_o {f : Int → Int} {c j w i v : Int} (h : i ≠ 26 + (c * 4 + j) * 3 + w) : pxF (up1 f i v) c j w = pxF f c j w := by
  unfold pxF; rw [up1_o (fun y => h y.symm)]
theorem px_s {f : Int → Int} {c j w v : Int} : pxF (up1 f (26 + (c * 4 + j) * 3 + w) v) c j w = v := by
  unfold pxF; rw [up1_s]
theorem crv_F {T : Int → Int} {n c : Int} (c0 : 0 ≤ c) (c8 : c < 8) : ∀ (d : Nat) (k : Int) (t : TK) (f : Int → Int), k = 4 - d → 0 ≤ k → (∀ j, 0 ≤ j → j < k → ptB f c j) → (0 < k → f (18 + c) = k) → (crv T n c (3 * d + 1) (3 * k) t f).1 = 0 →
    ((2 ≤ (crv T n c (3 * d + 1) (3 * k) t f).2.2 (18 + c) ∧ (crv T n c (3 * d + 1) (3 * k) t f).2.2 (18 + c) ≤ 4) ∧ ∀ j, 0 ≤ j → j < (crv T n c (3 * d + 1) (3 * k) t f).2.2 (18 + c) → ptB (crv T n c (3 * d + 1) (3 * k) t f).2.2 c j) ∧ ∀ i, i ≠ 18 + c → (i < 26 + c * 12 ∨ 38 + c * 12 ≤ i) → (crv T n c (3 * d + 1) (3 * k) t f).2.2 i = f i := by
  intro d
  induction d with
  | zero =>
    intro k t f hk k0 hp hc
    have hk4 : k = 4 := by omega
    subst hk4
    rw [show 3 * 0 + 1 = 0 + 1 from rfl, crv_u, show (3 * 4 : Int) % 3 = 0 by decide, show (3 * 4 : Int) / 3 = 4 by decide]
    by_cases z : t.2.2.1 = 2
    · rw [if_pos ⟨rfl, by decide, z⟩]
      intro _
      have e := hc (by decide)
      refine ⟨⟨by dsimp only; omega, fun j j0 j1 => ?_⟩, fun i _ _ => rfl⟩
      exact hp j j0 (by dsimp only at j1; omega)
    · rw [if_neg (fun y => z y.2.2)]
      have e1 : ¬ ptE 4 0 t = 0 := by
        rw [pt_0 (Or.inl rfl)]
        by_cases y : inE 0 20 t = 0
        · rw [if_pos ⟨y, by decide⟩]; decide
        · rw [if_neg (fun w => y w.1)]; exact y
      rw [if_neg e1]
      intro w
      exact absurd w e1
  | succ d ih =>
    intro k t f hk k0 hp hc
    have k3 : k ≤ 3 := by omega
    have m0 : (3 * k) % 3 = 0 ∧ (3 * k) / 3 = k := by omega
    have m1 : (3 * k + 1) % 3 = 1 ∧ (3 * k + 1) / 3 = k := by omega
    have m2 : (3 * k + 1 + 1) % 3 = 2 ∧ (3 * k + 1 + 1) / 3 = k := by omega
    rw [show 3 * (d + 1) + 1 = (3 * d + 1) + 1 + 1 + 1 by omega, crv_u, m0.1, m0.2]
    by_cases z : 2 ≤ k ∧ t.2.2.1 = 2
    · rw [if_pos ⟨rfl, z⟩]
      intro _
      have e := hc (by omega)
      refine ⟨⟨by dsimp only; omega, fun j j0 j1 => ?_⟩, fun i _ _ => rfl⟩
      exact hp j j0 (by dsimp only at j1; omega)
    · rw [if_neg (fun y => z y.2)]
      have eE : ptE k 0 t = inE 0 20 t := by
        rw [pt_0 (Or.inl rfl), if_neg (fun y => by have y2 := y.2; omega)]
      rw [eE]
      by_cases y : inE 0 20 t = 0
      · rw [if_pos y, crv_u, m1.1, m1.2, if_neg (show ¬ ((1 : Int) = 0 ∧ 2 ≤ k ∧ (nxT T n t).2.2.1 = 2) from fun y => absurd y.1 (by decide))]
        have eE1 : ptE k 1 (nxT T n t) = inE 0 20 (nxT T n t) := by
          rw [pt_0 (Or.inr rfl), if_neg (fun y => by have y2 := y.2; omega)]
        rw [eE1]
        by_cases y1 : inE 0 20 (nxT T n t) = 0
        · rw [if_pos y1, crv_u, m2.1, m2.2, if_neg (show ¬ ((2 : Int) = 0 ∧ 2 ≤ k ∧ (nxT T n (nxT T n t)).2.2.1 = 2) from fun y => absurd y.1 (by decide))]
          have eE2 : ptE k 2 (nxT T n (nxT T n t)) = inE 1 3 (nxT T n (nxT T n t)) := by
            rw [pt_2, if_neg (fun y => by have y2 := y.2; omega)]
          rw [eE2]
          by_cases y2 : inE 1 3 (nxT T n (nxT T n t)) = 0
          · rw [if_pos y2, show 3 * k + 1 + 1 + 1 = 3 * (k + 1) by omega]
            intro w
            have b0 := inE_r y; have b1 := inE_r y1; have b2 := inE_r y2
            have R := ih (k + 1) (nxT T n (nxT T n (nxT T n t))) (up1 (up1 (up1 (up1 (up1 (up1 f (26 + (c * 4 + k) * 3 + 0) t.2.2.2) (18 + c) (k + 1)) (26 + (c * 4 + k) * 3 + 1) (nxT T n t).2.2.2) (18 + c) (k + 1)) (26 + (c * 4 + k) * 3 + 2) (nxT T n (nxT T n t)).2.2.2) (18 + c) (k + 1)) (by omega) (by omega) (fun j j0 j1 => by
              by_cases e : j = k
              · subst e
                refine ⟨?_, ?_, ?_⟩
                · rw [px_o (by omega), px_o (by omega), px_o (by omega), px_o (by omega), px_o (by omega), px_s]; exact b0
                · rw [px_o (by omega), px_o (by omega), px_o (by omega), px_s]; exact b1
                · rw [px_o (by omega), px_s]; exact b2
              · have q := hp j j0 (by omega)
                refine ⟨?_, ?_, ?_⟩
                · rw [px_o (by omega), px_o (by omega), px_o (by omega), px_o (by omega), px_o (by omega), px_o (by omega)]; exact q.1
                · rw [px_o (by omega), px_o (by omega), px_o (by omega), px_o (by omega), px_o (by omega), px_o (by omega)]; exact q.2.1
                · rw [px_o (by omega), px_o (by omega), px_o (by omega), px_o (by omega), px_o (by omega), px_o (by omega)]; exact q.2.2) (fun _ => up1_s) w
            refine ⟨R.1, fun i i0 i1 => ?_⟩
            rw [R.2 i i0 i1, up1_o i0, up1_o (by omega), up1_o i0, up1_o (by omega), up1_o i0, up1_o (by omega)]
          · rw [if_neg y2]; intro w; exact absurd w y2
        · rw [if_neg y1]; intro w; exact absurd w y1
      · rw [if_neg y]; intro w; exact absurd w y
def figR (f : Int → Int) : Prop := fgOK f ∧ lnOK f
theorem rdC_F {T : Int → Int} {n : Int} {t : TK} {f : Int → Int} (h : figR f) (z : (rdC T n t f).1 = 0) : figR (rdC T n t f).2.2 := by
  obtain ⟨⟨⟨hc, hl⟩, ⟨hs, hd⟩, hp, hv⟩, hln⟩ := h
  by_cases z8 : f 0 < 8
  · by_cases y : nmE f (nxT T n t) = 0
    · have eR : rdC T n t f = crv T n (f 0) (3 * 4 + 1) (3 * 0) (nxT T n (nxT T n t)) (up1 (up1 f (4 + f 0) (nxT T n t).2.2.2) 0 (f 0 + 1)) := by
        unfold rdC; rw [if_pos z8, if_pos y]; rfl
      have C := crv_F (T := T) (n := n) (c := f 0) hc.1 z8 4 0 (nxT T n (nxT T n t)) (up1 (up1 f (4 + f 0) (nxT T n t).2.2.2) 0 (f 0 + 1)) (by decide) (by decide) (fun j j0 j1 => by omega) (fun w => absurd w (by decide))
      rw [← eR] at C
      obtain ⟨⟨C1, C2⟩, C3⟩ := C z
      generalize (rdC T n t f).2.2 = r at *
      have keep : ∀ i, i ≠ 0 → i ≠ 4 + f 0 → i ≠ 18 + f 0 → (i < 26 + f 0 * 12 ∨ 38 + f 0 * 12 ≤ i) → r i = f i := fun i a b d e => by
        rw [C3 i d e, up1_o a, up1_o b]
      have r0 : r 0 = f 0 + 1 := by rw [C3 0 (by omega) (by omega), up1_s]
      have r1 : r 1 = f 1 := keep 1 (by omega) (by omega) (by omega) (by omega)
      have r2 : r 2 = f 2 := keep 2 (by omega) (by omega) (by omega) (by omega)
      have r3 : r 3 = f 3 := keep 3 (by omega) (by omega) (by omega) (by omega)
      refine ⟨⟨⟨by omega, by omega⟩, ⟨by omega, by omega⟩, fun e e0 e1 => ?_, fun l w l0 l1 w0 w1 => ?_⟩, fun l l0 l1 => ?_⟩
      · by_cases q : e = f 0
        · rw [q]; exact ⟨C1, C2⟩
        · have he := hp e e0 (by omega)
          have k18 : r (18 + e) = f (18 + e) := keep _ (by omega) (by omega) (by omega) (by omega)
          rw [k18]
          refine ⟨he.1, fun k k0 k1 => ?_⟩
          have hk := he.2 k k0 k1
          have kp : ∀ w, 0 ≤ w → w ≤ 2 → pxF r e k w = pxF f e k w := fun w w0 w1 => by
            unfold pxF
            exact keep _ (by omega) (by omega) (by omega) (by omega)
          rw [kp 0 (by decide) (by decide), kp 1 (by decide) (by decide), kp 2 (by decide) (by decide)]
          exact hk
      · rw [keep (122 + l * 3 + w) (by omega) (by omega) (by omega) (by omega)]
        exact hv l w l0 (by omega) w0 w1
      · have a := hln l l0 (by omega)
        rw [keep (122 + l * 3 + 0) (by omega) (by omega) (by omega) (by omega), keep (122 + l * 3 + 1) (by omega) (by omega) (by omega) (by omega)]
        exact a
    · have eR : rdC T n t f = (nmE f (nxT T n t), nxT T n t, f) := by unfold rdC; rw [if_pos z8, if_neg y]
      rw [eR] at z
      exact absurd z y
  · have eR : rdC T n t f = (-14, t, f) := by unfold rdC; rw [if_neg z8]
    rw [eR] at z
    exact absurd z (by show ¬ (-14 : Int) = 0; decide)
theorem lnE_r {w a : Int} {t : TK} (h : lnE w a t = 0) : 0 ≤ t.2.2.2 ∧ t.2.2.2 ≤ (if w < 2 then 5 else 200) := by
  unfold lnE at h
  by_cases z : inE 0 (if w < 2 then 5 else 200) t = 0 ∧ w = 1 ∧ w32 a = 0 ∧ t.2.2.2 = 0
  · rw [if_pos z] at h; exact absurd h (by decide)
  · rw [if_neg z] at h
    exact inE_r h
theorem lin_F {T : Int → Int} {n l : Int} {t : TK} {f : Int → Int} (z : (lin T n l 3 0 t f).1 = 0) : ∃ x y w, (-5 ≤ x ∧ x ≤ 5) ∧ (-5 ≤ y ∧ y ≤ 5) ∧ (-200 ≤ w ∧ w ≤ 200) ∧ (lin T n l 3 0 t f).2.2 = up1 (up1 (up1 f (122 + l * 3 + 0) x) (122 + l * 3 + 1) y) (122 + l * 3 + 2) w := by
  have vb : ∀ (m a v : Int), 0 ≤ v → v ≤ m → -m ≤ (if a = 3 then -v else v) ∧ (if a = 3 then -v else v) ≤ m := fun m a v v0 v1 => by split <;> omega
  rw [show (3 : Nat) = 2 + 1 from rfl, lin_u] at z ⊢
  by_cases q1 : lnE 0 (f (122 + l * 3 + 0)) (sgK T n t) = 0
  · rw [if_pos q1] at z ⊢
    rw [show (2 : Nat) = 1 + 1 from rfl, lin_u, show (0 : Int) + 1 = 1 from rfl] at z ⊢
    generalize ea : up1 f (122 + l * 3 + 0) (if t.2.2.1 = 3 then -(sgK T n t).2.2.2 else (sgK T n t).2.2.2) = f1 at z ⊢
    by_cases q2 : lnE 1 (f1 (122 + l * 3 + 0)) (sgK T n (nxT T n (sgK T n t))) = 0
    · rw [if_pos q2] at z ⊢
      rw [show (1 : Nat) = 0 + 1 from rfl, lin_u, show (1 : Int) + 1 = 2 from rfl] at z ⊢
      generalize eb : up1 f1 (122 + l * 3 + 1) (if (nxT T n (sgK T n t)).2.2.1 = 3 then -(sgK T n (nxT T n (sgK T n t))).2.2.2 else (sgK T n (nxT T n (sgK T n t))).2.2.2) = f2 at z ⊢
      by_cases q3 : lnE 2 (f2 (122 + l * 3 + 0)) (sgK T n (nxT T n (sgK T n (nxT T n (sgK T n t))))) = 0
      · rw [if_pos q3]
        have b1 := lnE_r q1; have b2 := lnE_r q2; have b3 := lnE_r q3
        rw [if_pos (by decide)] at b1 b2
        rw [if_neg (by decide)] at b3
        exact ⟨_, _, _, vb 5 _ _ b1.1 b1.2, vb 5 _ _ b2.1 b2.2, vb 200 _ _ b3.1 b3.2, by rw [ea, eb]; rfl⟩
      · rw [if_neg q3] at z; exact absurd z q3
    · rw [if_neg q2] at z; exact absurd z q2
  · rw [if_neg q1] at z; exact absurd z q1
theorem rdL_F {T : Int → Int} {n : Int} {t : TK} {f : Int → Int} (h : figR f) (z : (rdL T n t f).1 = 0) : figR (rdL T n t f).2.2 := by
  obtain ⟨⟨⟨hc, hl⟩, ⟨hs, hd⟩, hp, hv⟩, hln⟩ := h
  by_cases z6 : f 1 < 6
  · by_cases y : nmE f (nxT T n t) = 0
    · have eR : rdL T n t f = lin T n (f 1) 3 0 (nxT T n (nxT T n t)) (up1 (up1 f (12 + f 1) (nxT T n t).2.2.2) 1 (f 1 + 1)) := by
        unfold rdL; rw [if_pos z6, if_pos y]
      rw [eR] at z ⊢
      obtain ⟨a, b, d, ha, hb, hd2, e⟩ := lin_F z
      rw [e]
      clear e z eR
      have keep : ∀ i, i ≠ 1 → i ≠ 12 + f 1 → i ≠ 122 + f 1 * 3 + 0 → i ≠ 122 + f 1 * 3 + 1 → i ≠ 122 + f 1 * 3 + 2 → up1 (up1 (up1 (up1 (up1 f (12 + f 1) (nxT T n t).2.2.2) 1 (f 1 + 1)) (122 + f 1 * 3 + 0) a) (122 + f 1 * 3 + 1) b) (122 + f 1 * 3 + 2) d i = f i := fun i q0 q1 q2 q3 q4 => by
        rw [up1_o q4, up1_o q3, up1_o q2, up1_o q0, up1_o q1]
      have v0 : up1 (up1 (up1 (up1 (up1 f (12 + f 1) (nxT T n t).2.2.2) 1 (f 1 + 1)) (122 + f 1 * 3 + 0) a) (122 + f 1 * 3 + 1) b) (122 + f 1 * 3 + 2) d (122 + f 1 * 3 + 0) = a := by rw [up1_o (by omega), up1_o (by omega), up1_s]
      have v1 : up1 (up1 (up1 (up1 (up1 f (12 + f 1) (nxT T n t).2.2.2) 1 (f 1 + 1)) (122 + f 1 * 3 + 0) a) (122 + f 1 * 3 + 1) b) (122 + f 1 * 3 + 2) d (122 + f 1 * 3 + 1) = b := by rw [up1_o (by omega), up1_s]
      have v2 : up1 (up1 (up1 (up1 (up1 f (12 + f 1) (nxT T n t).2.2.2) 1 (f 1 + 1)) (122 + f 1 * 3 + 0) a) (122 + f 1 * 3 + 1) b) (122 + f 1 * 3 + 2) d (122 + f 1 * 3 + 2) = d := up1_s
      have r1 : up1 (up1 (up1 (up1 (up1 f (12 + f 1) (nxT T n t).2.2.2) 1 (f 1 + 1)) (122 + f 1 * 3 + 0) a) (122 + f 1 * 3 + 1) b) (122 + f 1 * 3 + 2) d 1 = f 1 + 1 := by rw [up1_o (by omega), up1_o (by omega), up1_o (by omega), up1_s]
      generalize up1 (up1 (up1 (up1 (up1 f (12 + f 1) (nxT T n t).2.2.2) 1 (f 1 + 1)) (122 + f 1 * 3 + 0) a) (122 + f 1 * 3 + 1) b) (122 + f 1 * 3 + 2) d = r at *
      have r0 : r 0 = f 0 := keep 0 (by omega) (by omega) (by omega) (by omega) (by omega)
      have r2 : r 2 = f 2 := keep 2 (by omega) (by omega) (by omega) (by omega) (by omega)
      have r3 : r 3 = f 3 := keep 3 (by omega) (by omega) (by omega) (by omega) (by omega)
      refine ⟨⟨⟨by omega, by omega⟩, ⟨by omega, by omega⟩, fun e e0 e1 => ?_, fun l w l0 l1 w0 w1 => ?_⟩, fun l l0 l1 => ?_⟩
      · have he := hp e e0 (by omega)
        have k18 : r (18 + e) = f (18 + e) := keep _ (by omega) (by omega) (by omega) (by omega) (by omega)
        rw [k18]
        refine ⟨he.1, fun k k0 k1 => ?_⟩
        have hk := he.2 k k0 k1
        have kp : ∀ w, 0 ≤ w → w ≤ 2 → pxF r e k w = pxF f e k w := fun w w0 w1 => by
          unfold pxF
          exact keep _ (by omega) (by omega) (by omega) (by omega) (by omega)
        rw [kp 0 (by decide) (by decide), kp 1 (by decide) (by decide), kp 2 (by decide) (by decide)]
        exact hk
      · by_cases q : l = f 1
        · rw [q]
          rcases (show w = 0 ∨ w = 1 ∨ w = 2 by omega) with rfl | rfl | rfl
          · rw [v0]; omega
          · rw [v1]; omega
          · rw [v2]; omega
        · rw [keep (122 + l * 3 + w) (by omega) (by omega) (by omega) (by omega) (by omega)]
          exact hv l w l0 (by omega) w0 w1
      · by_cases q : l = f 1
        · rw [q, v0, v1]; exact ⟨ha, hb⟩
        · have a9 := hln l l0 (by omega)
          rw [keep (122 + l * 3 + 0) (by omega) (by omega) (by omega) (by omega) (by omega), keep (122 + l * 3 + 1) (by omega) (by omega) (by omega) (by omega) (by omega)]
          exact a9
    · have eR : rdL T n t f = (nmE f (nxT T n t), nxT T n t, f) := by unfold rdL; rw [if_pos z6, if_neg y]
      rw [eR] at z
      exact absurd z y
  · have eR : rdL T n t f = (-14, t, f) := by unfold rdL; rw [if_neg z6]
    rw [eR] at z
    exact absurd z (by show ¬ (-14 : Int) = 0; decide)
theorem set_F {f : Int → Int} {s v : Int} (h : figR f) (hs : s = 0 ∨ s = 1) (hv : 1 ≤ v ∧ v ≤ gtO s) : figR (up1 f (2 + s) v) := by
  obtain ⟨⟨⟨hc, hl⟩, ⟨hs2, hd⟩, hp, hv2⟩, hln⟩ := h
  have keep : ∀ i, i ≠ 2 + s → up1 f (2 + s) v i = f i := fun i q => up1_o q
  have e2 : (1 : Int) ≤ up1 f (2 + s) v 2 ∧ up1 f (2 + s) v 2 ≤ 12 := by
    rcases hs with rfl | rfl
    · rw [show (2 : Int) + 0 = 2 from rfl, up1_s]; exact ⟨hv.1, hv.2⟩
    · rw [keep 2 (by decide)]; exact hs2
  have e3 : (1 : Int) ≤ up1 f (2 + s) v 3 ∧ up1 f (2 + s) v 3 ≤ 6 := by
    rcases hs with rfl | rfl
    · rw [keep 3 (by decide)]; exact hd
    · rw [show (2 : Int) + 1 = 3 from rfl, up1_s]; exact ⟨hv.1, hv.2⟩
  refine ⟨⟨⟨?_, ?_⟩, ⟨e2, e3⟩, fun e e0 e1 => ?_, fun l w l0 l1 w0 w1 => ?_⟩, fun l l0 l1 => ?_⟩
  · rw [keep 0 (by omega)]; exact hc
  · rw [keep 1 (by omega)]; exact hl
  · rw [keep 0 (by omega)] at e1
    have he := hp e e0 e1
    rw [keep (18 + e) (by omega)]
    refine ⟨he.1, fun k k0 k1 => ?_⟩
    have hk := he.2 k k0 k1
    have kp : ∀ w, 0 ≤ w → w ≤ 2 → pxF (up1 f (2 + s) v) e k w = pxF f e k w := fun w w0 w1 => by
      unfold pxF
      exact keep _ (by omega)
    rw [kp 0 (by decide) (by decide), kp 1 (by decide) (by decide), kp 2 (by decide) (by decide)]
    exact hk
  · rw [keep 1 (by omega)] at l1
    rw [keep (122 + l * 3 + w) (by omega)]
    exact hv2 l w l0 l1 w0 w1
  · rw [keep 1 (by omega)] at l1
    rw [keep (122 + l * 3 + 0) (by omega), keep (122 + l * 3 + 1) (by omega)]
    exact hln l l0 l1
theorem rdS_F {T : Int → Int} {n g : Int} {t : TK} {f : Int → Int} (h : figR f) (z : (rdS T n t f g).1 = 0) : figR (rdS T n t f g).2.2.1 := by
  unfold rdS at z ⊢
  by_cases b : iwP (nxT T n t) 412526208 ∨ iwP (nxT T n t) 140005632
  · rw [if_pos b] at z ⊢
    by_cases y : x_and g (x_shl 1 (stI (nxT T n t))) = 0
    · rw [if_pos y] at z ⊢
      by_cases q : inE 1 (gtO (stI (nxT T n t))) (nxT T n (nxT T n t)) = 0
      · rw [if_pos q]
        exact set_F h (by unfold stI; split <;> omega) (inE_r q)
      · rw [if_neg q] at z; exact absurd z q
    · rw [if_neg y] at z; exact absurd z (by show ¬ (-13 : Int) = 0; decide)
  · rw [if_neg b] at z; exact absurd z (by show ¬ (-11 : Int) = 0; decide)
theorem rdT_F {T : Int → Int} {n g : Int} {t : TK} {f : Int → Int} (h : figR f) (z : (rdT T n t f g).1 = 0) : figR (rdT T n t f g).2.2.1 := by
  have X : (rdX T n t f g).1 = 0 → figR (rdX T n t f g).2.2.1 := by
    unfold rdX
    by_cases z0 : iwP t 123295904
    · rw [if_pos z0]; exact fun w => rdC_F h w
    · rw [if_neg z0]
      by_cases z1 : iwP t 412554240
      · rw [if_pos z1]; exact fun w => rdL_F h w
      · rw [if_neg z1]
        by_cases z2 : iwP t 643432448
        · rw [if_pos z2]; exact fun w => rdS_F h w
        · rw [if_neg z2]; exact fun w => absurd w (by show ¬ (-11 : Int) = 0; decide)
  unfold rdT at z ⊢
  by_cases y : (rdX T n t f g).1 = 0
  · rw [if_pos y] at z ⊢
    by_cases q : (rdX T n t f g).2.1.2.2.1 = 2
    · rw [if_pos q]; exact X y
    · rw [if_neg q] at z; exact absurd z (by show ¬ (-11 : Int) = 0; decide)
  · rw [if_neg y] at z; exact absurd z y
theorem rdT_0 {T : Int → Int} {n g : Int} {t : TK} {f : Int → Int} {m : Nat} {c : Int} (h : ¬ t.2.2.1 = 5) : rdA T n (m + 1) c t f g = if (rdT T n t f g).1 = 0 then rdA T n m (c + 1) (rdT T n t f g).2.1 (rdT T n t f g).2.2.1 (rdT T n t f g).2.2.2 else rdT T n t f g := if_neg h
theorem em_F {f : Int → Int} : figR (emR f) := by
  have k : ∀ i, 0 ≤ i → i < 140 → i ≠ 2 → i ≠ 3 → emR f i = 0 := fun i i0 i1 a b => by
    unfold emR
    rw [up1_o b, up1_o a]
    exact if_pos ⟨i0, i1⟩
  have e0 := k 0 (by decide) (by decide) (by decide) (by decide)
  have e1 := k 1 (by decide) (by decide) (by decide) (by decide)
  have e2 : emR f 2 = 10 := by unfold emR; rw [up1_o (by decide), up1_s]
  have e3 : emR f 3 = 4 := by unfold emR; rw [up1_s]
  refine ⟨⟨⟨?_, ?_⟩, ⟨?_, ?_⟩, fun e q0 q1 => ?_, fun l w l0 l1 w0 w1 => ?_⟩, fun l l0 l1 => ?_⟩
  · rw [e0]; decide
  · rw [e1]; decide
  · rw [e2]; decide
  · rw [e3]; decide
  · rw [e0] at q1; omega
  · rw [e1] at l1; omega
  · rw [e1] at l1; omega
theorem rdA_F {T : Int → Int} {n : Int} : ∀ (m : Nat) (c g : Int) (t : TK) (f : Int → Int), figR f → 0 ≤ c → (rdA T n m c t f g).1 < 0 ∨ figR (rdA T n m c t f g).2.2.1
  | 0, _, _, _, _, h, _ => Or.inr h
  | m + 1, c, g, t, f, h, c0 => by
    by_cases z : t.2.2.1 = 5
    · have e : rdA T n (m + 1) c t f g = (c, t, f, g) := if_pos z
      rw [e]; exact Or.inr h
    · rw [rdT_0 z]
      by_cases y : (rdT T n t f g).1 = 0
      · rw [if_pos y]
        exact rdA_F m _ _ _ _ (rdT_F h y) (by omega)
      · rw [if_neg y]
        have b := rdT_e (T := T) (n := n) (t := t) (f := f) (g := g)
        exact Or.inl (by omega)
theorem ld_F {A : AA} {F : FF} {n : Int} (h : ¬ (ldR A F n).1 < 0) : figR (ldR A F n).2.2.1 := (rdA_F 801 0 0 _ _ em_F (Int.le_refl 0)).resolve_left h
theorem fig_of {f r : Int → Int} (h : figR f) (e0 : r 0 = f 0) (e1 : r 1 = f 1) (e2 : 1 ≤ r 2 ∧ r 2 ≤ 12) (e3 : 1 ≤ r 3 ∧ r 3 ≤ 6) (hp : ∀ e, 0 ≤ e → e < f 0 → (2 ≤ r (18 + e) ∧ r (18 + e) ≤ 4) ∧ ∀ k, 0 ≤ k → k < r (18 + e) → ptB r e k) (hl : ∀ i, 122 ≤ i → i < 140 → r i = f i) : figR r := by
  obtain ⟨⟨⟨hc, hl1⟩, -, -, hv⟩, hln⟩ := h
  refine ⟨⟨⟨by omega, by omega⟩, ⟨e2, e3⟩, fun e q0 q1 => hp e q0 (by omega), fun l w l0 l1 w0 w1 => ?_⟩, fun l l0 l1 => ?_⟩
  · rw [hl (122 + l * 3 + w) (by omega) (by omega)]
    exact hv l w l0 (by omega) w0 w1
  · rw [hl (122 + l * 3 + 0) (by omega) (by omega), hl (122 + l * 3 + 1) (by omega) (by omega)]
    exact hln l l0 (by omega)
theorem px_i {f : Int → Int} {c k w : Int} : pxF f c k w = f (26 + (c * 4 + k) * 3 + w) := rfl
theorem wgR_F {f : Int → Int} (h : figR f) {c k w : Int} (c0 : 0 ≤ c) (c1 : c < f 0) (k0 : 0 ≤ k) (k1 : k < f (18 + c)) (hw : 1 ≤ w ∧ w ≤ 3) : figR (wgR f c k w) := by
  have hh := h
  obtain ⟨⟨⟨hc, hl⟩, ⟨hs, hd⟩, hp, hv⟩, hln⟩ := hh
  have n4 := (hp c c0 c1).1
  have keep : ∀ i, i ≠ 26 + (c * 4 + k) * 3 + 2 → wgR f c k w i = f i := fun i q => if_neg q
  refine fig_of h (keep 0 (by omega)) (keep 1 (by omega)) (by rw [keep 2 (by omega)]; exact hs) (by rw [keep 3 (by omega)]; exact hd) (fun e q0 q1 => ?_) (fun i i0 i1 => keep i (by omega))
  have he := hp e q0 q1
  rw [keep (18 + e) (by omega)]
  refine ⟨he.1, fun j j0 j1 => ?_⟩
  have hj := he.2 j j0 j1
  refine ⟨?_, ?_, ?_⟩
  · rw [px_i, keep _ (by omega)]; exact hj.1
  · rw [px_i, keep _ (by omega)]; exact hj.2.1
  · by_cases z : 26 + (e * 4 + j) * 3 + 2 = 26 + (c * 4 + k) * 3 + 2
    · have v : wgR f c k w (26 + (e * 4 + j) * 3 + 2) = w := if_pos z
      rw [px_i, v]; exact hw
    · rw [px_i, keep _ z]; exact hj.2.2
theorem stR_F {f : Int → Int} {s v : Int} (h : figR f) (hs : s = 0 ∨ s = 1) (hv : 1 ≤ v ∧ v ≤ (if s = 0 then 12 else 6)) : figR (stR f s v) := by
  have e : stR f s v = up1 f (2 + s) v := rfl
  rw [e]
  exact set_F h hs hv
theorem movR_F {f : Int → Int} (h : figR f) {c k x y : Int} (c0 : 0 ≤ c) (c1 : c < f 0) (k0 : 0 ≤ k) (k1 : k < f (18 + c)) (hx : 0 ≤ x ∧ x ≤ 20) (hy : 0 ≤ y ∧ y ≤ 20) : figR (movR f c k x y) := by
  refine ⟨movR_fg h.1 c0 c1 k0 k1 hx hy, fun l l0 l1 => ?_⟩
  have n4 := (h.1.2.2.1 c c0 c1).1
  have q1 := h.1.1
  have keep : ∀ i, 122 ≤ i ∨ i < 26 → movR f c k x y i = f i := fun i q => by
    unfold movR
    rw [if_neg (by omega), if_neg (by omega)]
  rw [keep 1 (by omega)] at l1
  rw [keep (122 + l * 3 + 0) (by omega), keep (122 + l * 3 + 1) (by omega)]
  exact h.2 l l0 l1
theorem insR_F {f : Int → Int} (h : figR f) {c k x y w : Int} (c0 : 0 ≤ c) (c1 : c < f 0) (k0 : 0 ≤ k) (k1 : k ≤ f (18 + c)) (n4 : f (18 + c) < 4) (hx : 0 ≤ x ∧ x ≤ 20) (hy : 0 ≤ y ∧ y ≤ 20) (hw : 1 ≤ w ∧ w ≤ 3) : figR (insR f c k x y w) := by
  have hh := h
  obtain ⟨⟨⟨hc, hl⟩, ⟨hs, hd⟩, hp, hv⟩, hln⟩ := hh
  have n2 := (hp c c0 c1).1
  have keep : ∀ i, i ≠ 18 + c → (i < 26 + c * 12 ∨ 38 + c * 12 ≤ i) → insR f c k x y w i = f i := fun i q0 q1 => by
    unfold insR upR
    rw [if_neg q0, if_neg (by omega), if_neg (by omega), if_neg (by omega), if_neg (by omega)]
  refine fig_of h (keep 0 (by omega) (by omega)) (keep 1 (by omega) (by omega)) (by rw [keep 2 (by omega) (by omega)]; exact hs) (by rw [keep 3 (by omega) (by omega)]; exact hd) (fun e q0 q1 => ?_) (fun i i0 i1 => keep i (by omega) (by omega))
  have he := hp e q0 q1
  by_cases z : e = c
  · subst z
    have e18 : insR f e k x y w (18 + e) = f (18 + e) + 1 := if_pos rfl
    rw [e18]
    refine ⟨by omega, fun j j0 j1 => ?_⟩
    by_cases zk : j = k
    · subst zk
      have v0 : insR f e j x y w (26 + (e * 4 + j) * 3 + 0) = x := by unfold insR; rw [if_neg (by omega), if_pos (by omega)]
      have v1 : insR f e j x y w (26 + (e * 4 + j) * 3 + 1) = y := by unfold insR; rw [if_neg (by omega), if_neg (by omega), if_pos (by omega)]
      have v2 : insR f e j x y w (26 + (e * 4 + j) * 3 + 2) = w := by unfold insR; rw [if_neg (by omega), if_neg (by omega), if_neg (by omega), if_pos (by omega)]
      refine ⟨?_, ?_, ?_⟩
      · rw [px_i, v0]; exact hx
      · rw [px_i, v1]; exact hy
      · rw [px_i, v2]; exact hw
    · have kp : ∀ u, 0 ≤ u → u ≤ 2 → pxF (insR f e k x y w) e j u = pxF f e (if j < k then j else j - 1) u := fun u u0 u1 => by
        unfold pxF insR upR
        rw [if_neg (by omega), if_neg (by omega), if_neg (by omega), if_neg (by omega)]
        by_cases zj : j < k
        · rw [if_neg (by omega), if_pos zj]
        · rw [if_pos (by omega), if_neg zj]; congr 1; omega
      have hj := he.2 (if j < k then j else j - 1) (by split <;> omega) (by split <;> omega)
      refine ⟨?_, ?_, ?_⟩
      · rw [kp 0 (by decide) (by decide)]; exact hj.1
      · rw [kp 1 (by decide) (by decide)]; exact hj.2.1
      · rw [kp 2 (by decide) (by decide)]; exact hj.2.2
  · rw [keep (18 + e) (by omega) (by omega)]
    refine ⟨he.1, fun j j0 j1 => ?_⟩
    have hj := he.2 j j0 j1
    refine ⟨?_, ?_, ?_⟩
    · rw [px_i, keep _ (by omega) (by omega)]; exact hj.1
    · rw [px_i, keep _ (by omega) (by omega)]; exact hj.2.1
    · rw [px_i, keep _ (by omega) (by omega)]; exact hj.2.2
theorem drpR_F {f : Int → Int} (h : figR f) {c k : Int} (c0 : 0 ≤ c) (c1 : c < f 0) (k0 : 0 ≤ k) (k1 : k < f (18 + c)) (n2 : ¬ f (18 + c) = 2) : figR (drpR f c k) := by
  have hh := h
  obtain ⟨⟨⟨hc, hl⟩, ⟨hs, hd⟩, hp, hv⟩, hln⟩ := hh
  have n4 := (hp c c0 c1).1
  have keep : ∀ i, i ≠ 18 + c → (i < 26 + c * 12 ∨ 38 + c * 12 ≤ i) → drpR f c k i = f i := fun i q0 q1 => by
    unfold drpR dnR
    rw [if_neg q0, if_neg (by omega)]
  refine fig_of h (keep 0 (by omega) (by omega)) (keep 1 (by omega) (by omega)) (by rw [keep 2 (by omega) (by omega)]; exact hs) (by rw [keep 3 (by omega) (by omega)]; exact hd) (fun e q0 q1 => ?_) (fun i i0 i1 => keep i (by omega) (by omega))
  have he := hp e q0 q1
  by_cases z : e = c
  · subst z
    have e18 : drpR f e k (18 + e) = f (18 + e) - 1 := if_pos rfl
    rw [e18]
    refine ⟨by omega, fun j j0 j1 => ?_⟩
    have kp : ∀ u, 0 ≤ u → u ≤ 2 → pxF (drpR f e k) e j u = pxF f e (if j < k then j else j + 1) u := fun u u0 u1 => by
      unfold pxF drpR dnR
      rw [if_neg (by omega)]
      by_cases zj : j < k
      · rw [if_neg (by omega), if_pos zj]
      · rw [if_pos (by omega), if_neg zj]; congr 1; omega
    have hj := he.2 (if j < k then j else j + 1) (by split <;> omega) (by split <;> omega)
    refine ⟨?_, ?_, ?_⟩
    · rw [kp 0 (by decide) (by decide)]; exact hj.1
    · rw [kp 1 (by decide) (by decide)]; exact hj.2.1
    · rw [kp 2 (by decide) (by decide)]; exact hj.2.2
  · rw [keep (18 + e) (by omega) (by omega)]
    refine ⟨he.1, fun j j0 j1 => ?_⟩
    have hj := he.2 j j0 j1
    refine ⟨?_, ?_, ?_⟩
    · rw [px_i, keep _ (by omega) (by omega)]; exact hj.1
    · rw [px_i, keep _ (by omega) (by omega)]; exact hj.2.1
    · rw [px_i, keep _ (by omega) (by omega)]; exact hj.2.2
theorem revR_F {f : Int → Int} (h : figR f) {c : Int} (c0 : 0 ≤ c) (c1 : c < f 0) : figR (revR f c) := by
  have hh := h
  obtain ⟨⟨⟨hc, hl⟩, ⟨hs, hd⟩, hp, hv⟩, hln⟩ := hh
  have n4 := (hp c c0 c1).1
  have keep : ∀ i, (i < 26 + c * 12 ∨ 38 + c * 12 ≤ i) → revR f c i = f i := fun i q1 => by
    unfold revR
    rw [if_neg (by omega)]
  refine fig_of h (keep 0 (by omega)) (keep 1 (by omega)) (by rw [keep 2 (by omega)]; exact hs) (by rw [keep 3 (by omega)]; exact hd) (fun e q0 q1 => ?_) (fun i i0 i1 => keep i (by omega))
  have he := hp e q0 q1
  rw [keep (18 + e) (by omega)]
  refine ⟨he.1, fun j j0 j1 => ?_⟩
  by_cases z : e = c
  · subst z
    have kp : ∀ u, 0 ≤ u → u ≤ 2 → pxF (revR f e) e j u = pxF f e (f (18 + e) - 1 - j) u := fun u u0 u1 => by
      unfold pxF revR
      rw [if_pos (by omega)]
      congr 1
      omega
    have hj := he.2 (f (18 + e) - 1 - j) (by omega) (by omega)
    refine ⟨?_, ?_, ?_⟩
    · rw [kp 0 (by decide) (by decide)]; exact hj.1
    · rw [kp 1 (by decide) (by decide)]; exact hj.2.1
    · rw [kp 2 (by decide) (by decide)]; exact hj.2.2
  · have hj := he.2 j j0 j1
    refine ⟨?_, ?_, ?_⟩
    · rw [px_i, keep _ (by omega)]; exact hj.1
    · rw [px_i, keep _ (by omega)]; exact hj.2.1
    · rw [px_i, keep _ (by omega)]; exact hj.2.2
theorem lnR_F {f : Int → Int} (h : figR f) {l a b c : Int} (l0 : 0 ≤ l) (l1 : l < f 1) (ha : -5 ≤ a ∧ a ≤ 5) (hb : -5 ≤ b ∧ b ≤ 5) (hc : -200 ≤ c ∧ c ≤ 200) : figR (lnR f l a b c) := by
  refine ⟨lnR_fg h.1 l0 l1 ha hb hc, fun m m0 m1 => ?_⟩
  have q1 := h.1.1
  have k1 : lnR f l a b c 1 = f 1 := by
    unfold lnR
    rw [if_neg (by omega), if_neg (by omega), if_neg (by omega)]
  rw [k1] at m1
  have hm := h.2 m m0 m1
  by_cases z : m = l
  · subst z
    have v0 : lnR f m a b c (122 + m * 3 + 0) = a := by unfold lnR; rw [if_pos (by omega)]
    have v1 : lnR f m a b c (122 + m * 3 + 1) = b := by unfold lnR; rw [if_neg (by omega), if_pos (by omega)]
    rw [v0, v1]; exact ⟨ha, hb⟩
  · have v0 : lnR f l a b c (122 + m * 3 + 0) = f (122 + m * 3 + 0) := by unfold lnR; rw [if_neg (by omega), if_neg (by omega), if_neg (by omega)]
    have v1 : lnR f l a b c (122 + m * 3 + 1) = f (122 + m * 3 + 1) := by unfold lnR; rw [if_neg (by omega), if_neg (by omega), if_neg (by omega)]
    rw [v0, v1]; exact hm
theorem fig_c {f r : Int → Int} (h : figR f) (hr : ∀ i, 0 ≤ i → i < 140 → r i = f i) : figR r := by
  have hh := h
  obtain ⟨⟨⟨hc, hl⟩, ⟨hs, hd⟩, hp, hv⟩, hln⟩ := hh
  refine fig_of h (hr 0 (by decide) (by decide)) (hr 1 (by decide) (by decide)) (by rw [hr 2 (by decide) (by decide)]; exact hs) (by rw [hr 3 (by decide) (by decide)]; exact hd) (fun e q0 q1 => ?_) (fun i i0 i1 => hr i (by omega) i1)
  have he := hp e q0 q1
  rw [hr (18 + e) (by omega) (by omega)]
  refine ⟨he.1, fun j j0 j1 => ?_⟩
  have hj := he.2 j j0 j1
  refine ⟨?_, ?_, ?_⟩
  · rw [px_i, hr _ (by omega) (by omega)]; exact hj.1
  · rw [px_i, hr _ (by omega) (by omega)]; exact hj.2.1
  · rw [px_i, hr _ (by omega) (by omega)]; exact hj.2.2
