theorem rdL_F {T : Int → Int} {n : Int} {t : TK} {f : Int → Int} (h : figR f) (z : (rdL T n t f).1 = 0) : figR (rdL T n t f).2.2 := by
  obtain ⟨⟨⟨hc, hl⟩, ⟨hs, hd⟩, hp, hv⟩, hln⟩ := h
  by_cases z6 : f 1 < 6
  · by_cases y : nmE f (nxT T n t) = 0
    · have eR : rdL T n t f = lin T n (f 1) 3 0 (nxT T n (nxT T n t)) (up1 (up1 f (12 + f 1) (nxT T n t).2.2.2) 1 (f 1 + 1)) := by
        unfold rdL; rw [if_pos z6, if_pos y]
      rw [eR] at z ⊢
      obtain ⟨a, b, d, ha, hb, hd2, e⟩ := lin_F z
      rw [e]
      clear e z eR
      have keep : ∀ i, i ≠ 1 → i ≠ 12 + f 1 → i ≠ 122 + f 1 * 3 + 0 → i ≠ 122 + f 1 * 3 + 1 → i ≠ 122 + f 1 * 3 + 2 → up1 (up1 (up1 (up1 (up1 f (12 + f 1) (nxT T n t).2.2.2) 1 (f 1 + 1)) (122 + f 1 * 3 + 0) a) (122 + f 1 * 3 + 1) b) (122 + f 1 * 3 + 2) d i = f i := fun i q0 q1 q2 q3 q4 => by
        rw [up1_o q4, up1_o q3, up1_o q2, up1_o q0, up1_o q1]
      have v0 : up1 (up1 (up1 (up1 (up1 f (12 + f 1) (nxT T n t).2.2.2) 1 (f 1 + 1)) (122 + f 1 * 3 + 0) a) (122 + f 1 * 3 + 1) b) (122 + f 1 * 3 + 2) d (122 + f 1 * 3 + 0) = a := by rw [up1_o (by omega), up1_o (by omega), up1_s]
      have v1 : up1 (up1 (up1 (up1 (up1 f (12 + f 1) (nxT T n t).2.2.2) 1 (f 1 + 1)) (122 + f 1 * 3 + 0) a) (122 + f 1 * 3 + 1) b) (122 + f 1 * 3 + 2) d (122 + f 1 * 3 + 1) = b := by rw [up1_o (by omega), up1_s]
      have v2 : up1 (up1 (up1 (up1 (up1 f (12 + f 1) (nxT T n t).2.2.2) 1 (f 1 + 1)) (122 + f 1 * 3 + 0) a) (122 + f 1 * 3 + 1) b) (122 + f 1 * 3 + 2) d (122 + f 1 * 3 + 2) = d := up1_s
      have r1 : up1 (up1 (up1 (up1 (up1 f (12 + f 1) (nxT T n t).2.2.2) 1 (f 1 + 1)) (122 + f 1 * 3 + 0) a) (122 + f 1 * 3 + 1) b) (122 + f 1 * 3 + 2) d 1 = f 1 + 1 := by rw [up1_o (by omega), up1_o (by omega), up1_o (by omega), up1_s]
      generalize up1 (up1 (up1 (up1 (up1 f (12 + f 1) (nxT T n t).2.2.2) 1 (f 1 + 1)) (122 + f 1 * 3 + 0) a) (122 + f 1 * 3 + 1) b) (122 + f 1 * 3 + 2) d = r at *
      have r0 : r 0 = f 0 := keep 0 (by omega) (by omega) (by omega) (by omega) (by omega)
      have r2 : r 2 = f 2 := keep 2 (by omega) (by omega) (by omega) (by omega) (by omega)
      have r3 : r 3 = f 3 := keep 3 (by omega) (by omega) (by omega) (by omega) (by omega)
      refine ⟨⟨⟨by omega, by omega⟩, ⟨by omega, by omega⟩, fun e e0 e1 => ?_, fun l w l0 l1 w0 w1 => ?_⟩, fun l l0 l1 => ?_⟩
      · have he := hp e e0 (by omega)
        have k18 : r (18 + e) = f (18 + e) := keep _ (by omega) (by omega) (by omega) (by omega) (by omega)
        rw [k18]
        refine ⟨he.1, fun k k0 k1 => ?_⟩
        have hk := he.2 k k0 k1
        have kp : ∀ w, 0 ≤ w → w ≤ 2 → pxF r e k w = pxF f e k w := fun w w0 w1 => by
          unfold pxF
          exact keep _ (by omega) (by omega) (by omega) (by omega) (by omega)
        rw [kp 0 (by decide) (by decide), kp 1 (by decide) (by decide), kp 2 (by decide) (by decide)]
        exact hk
      · by_cases q : l = f 1
        · rw [q]
          rcases (show w = 0 ∨ w = 1 ∨ w = 2 by omega) with rfl | rfl | rfl
          · rw [v0]; omega
          · rw [v1]; omega
          · rw [v2]; omega
        · rw [keep (122 + l * 3 + w) (by omega) (by omega) (by omega) (by omega) (by omega)]
          exact hv l w l0 (by omega) w0 w1
      · by_cases q : l = f 1
        · rw [q, v0, v1]; exact ⟨ha, hb⟩
        · have a9 := hln l l0 (by omega)
          rw [keep (122 + l * 3 + 0) (by omega) (by omega) (by omega) (by omega) (by omega), keep (122 + l * 3 + 1) (by omega) (by omega) (by omega) (by omega) (by omega)]
          exact a9
    · have eR : rdL T n t f = (nmE f (nxT T n t), nxT T n t, f) := by unfold rdL; rw [if_pos z6, if_neg y]
      rw [eR] at z
      exact absurd z y
  · have eR : rdL T n t f = (-14, t, f) := by unfold rdL; rw [if_neg z6]
    rw [eR] at z
    exact absurd z (by show ¬ (-14 : Int) = 0; decide)
theorem set_F {f : Int → Int} {s v : Int} (h : figR f) (hs : s = 0 ∨ s = 1) (hv : 1 ≤ v ∧ v ≤ gtO s) : figR (up1 f (2 + s) v) := by
  obtain ⟨⟨⟨hc, hl⟩, ⟨hs2, hd⟩, hp, hv2⟩, hln⟩ := h
  have keep : ∀ i, i ≠ 2 + s → up1 f (2 + s) v i = f i := fun i q => up1_o q
  have e2 : (1 : Int) ≤ up1 f (2 + s) v 2 ∧ up1 f (2 + s) v 2 ≤ 12 := by
    rcases hs with rfl | rfl
    · rw [show (2 : Int) + 0 = 2 from rfl, up1_s]; exact ⟨hv.1, hv.2⟩
    · rw [keep 2 (by decide)]; exact hs2
  have e3 : (1 : Int) ≤ up1 f (2 + s) v 3 ∧ up1 f (2 + s) v 3 ≤ 6 := by
    rcases hs with rfl | rfl
    · rw [keep 3 (by decide)]; exact hd
    · rw [show (2 : Int) + 1 = 3 from rfl, up1_s]; exact ⟨hv.1, hv.2⟩
  refine ⟨⟨⟨?_, ?_⟩, ⟨e2, e3⟩, fun e e0 e1 => ?_, fun l w l0 l1 w0 w1 => ?_⟩, fun l l0 l1 => ?_⟩
  · rw [keep 0 (by omega)]; exact hc
  · rw [keep 1 (by omega)]; exact hl
  · rw [keep 0 (by omega)] at e1
    have he := hp e e0 e1
    rw [keep (18 + e) (by omega)]
    refine ⟨he.1, fun k k0 k1 => ?_⟩
    have hk := he.2 k k0 k1
    have kp : ∀ w, 0 ≤ w → w ≤ 2 → pxF (up1 f (2 + s) v) e k w = pxF f e k w := fun w w0 w1 => by
      unfold pxF
      exact keep _ (by omega)
    rw [kp 0 (by decide) (by decide), kp 1 (by decide) (by decide), kp 2 (by decide) (by decide)]
    exact hk
  · rw [keep 1 (by omega)] at l1
    rw [keep (122 + l * 3 + w) (by omega)]
    exact hv2 l w l0 l1 w0 w1
  · rw [keep 1 (by omega)] at l1
    rw [keep (122 + l * 3 + 0) (by omega), keep (122 + l * 3 + 1) (by omega)]
    exact hln l l0 l1
theorem rdS_F {T : Int → Int} {n g : Int} {t : TK} {f : Int → Int} (h : figR f) (z : (rdS T n t f g).1 = 0) : figR (rdS T n t f g).2.2.1 := by
  unfold rdS at z ⊢
  by_cases b : iwP (nxT T n t) 412526208 ∨ iwP (nxT T n t) 140005632
  · rw [if_pos b] at z ⊢
    by_cases y : x_and g (x_shl 1 (stI (nxT T n t))) = 0
    · rw [if_pos y] at z ⊢
      by_cases q : inE 1 (gtO (stI (nxT T n t))) (nxT T n (nxT T n t)) = 0
      · rw [if_pos q]
        exact set_F h (by unfold stI; split <;> omega) (inE_r q)
      · rw [if_neg q] at z; exact absurd z q
    · rw [if_neg y] at z; exact absurd z (by show ¬ (-13 : Int) = 0; decide)
  · rw [if_neg b] at z; exact absurd z (by show ¬ (-11 : Int) = 0; decide)
theorem rdT_F {T : Int → Int} {n g : Int} {t : TK} {f : Int → Int} (h : figR f) (z : (rdT T n t f g).1 = 0) : figR (rdT T n t f g).2.2.1 := by
  have X : (rdX T n t f g).1 = 0 → figR (rdX T n t f g).2.2.1 := by
    unfold rdX
    by_cases z0 : iwP t 123295904
    · rw [if_pos z0]; exact fun w => rdC_F h w
    · rw [if_neg z0]
      by_cases z1 : iwP t 412554240
      · rw [if_pos z1]; exact fun w => rdL_F h w
      · rw [if_neg z1]
        by_cases z2 : iwP t 643432448
        · rw [if_pos z2]; exact fun w => rdS_F h w
        · rw [if_neg z2]; exact fun w => absurd w (by show ¬ (-11 : Int) = 0; decide)
  unfold rdT at z ⊢
  by_cases y : (rdX T n t f g).1 = 0
  · rw [if_pos y] at z ⊢
    by_cases q : (rdX T n t f g).2.1.2.2.1 = 2
    · rw [if_pos q]; exact X y
    · rw [if_neg q] at z; exact absurd z (by show ¬ (-11 : Int) = 0; decide)
  · rw [if_neg y] at z; exact absurd z y
theorem rdT_0 {T : Int → Int} {n g : Int} {t : TK} {f : Int → Int} {m : Nat} {c : Int} (h : ¬ t.2.2.1 = 5) : rdA T n (m + 1) c t f g = if (rdT T n t f g).1 = 0 then rdA T n m (c + 1) (rdT T n t f g).2.1 (rdT T n t f g).2.2.1 (rdT T n t f g).2.2.2 else rdT T n t f g := if_neg h
