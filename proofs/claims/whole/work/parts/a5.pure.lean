/-! curves read by both -/
def rowC (A1 : AA) (c : Int) (f g : Int → Int) : Prop := ∀ i, 0 ≤ i → i < 140 → i ≠ 18 + c → f i = mF (r29 A1 g) i
theorem crv_u {T : Int → Int} {n c : Int} {m : Nat} {i : Int} {t : TK} {f : Int → Int} : crv T n c (m + 1) i t f = if i % 3 = 0 ∧ 2 ≤ i / 3 ∧ t.2.2.1 = 2 then (0, t, f) else if ptE (i / 3) (i % 3) t = 0 then crv T n c m (i + 1) (nxT T n t) (up1 (up1 f (26 + (c * 4 + i / 3) * 3 + i % 3) t.2.2.2) (18 + c) (i / 3 + 1)) else (ptE (i / 3) (i % 3) t, t, f) := rfl
theorem rcM_u {T : Int → Int} {n c k : Int} {m : Nat} {s : PS} {g : Int → Int} : rcM T n c (m + 1) k s g = if s.1 = 0 ∧ (k < 2 ∨ s.2.2.2.2.1 = 1) then (if (peS T n k s).1 = 0 then rcM T n c m (k + 1) (peS T n k s) (ptG T n c k s g) else (peS T n k s, k, g)) else (s, k, g) := rfl
theorem pt_row {A1 : AA} {c k v0 v1 v2 : Int} {f g : Int → Int} (c0 : 0 ≤ c) (c8 : c < 8) (k0 : 0 ≤ k) (k4 : k < 4) (h : rowC A1 c f g) : rowC A1 c (up1 (up1 (up1 (up1 (up1 (up1 f (26 + (c * 4 + k) * 3 + 0) v0) (18 + c) (k + 1)) (26 + (c * 4 + k) * 3 + 1) v1) (18 + c) (k + 1)) (26 + (c * 4 + k) * 3 + 2) v2) (18 + c) (k + 1)) (up1 (up1 (up1 g (13 * c + 1 + 3 * k + 0) v0) (13 * c + 1 + 3 * k + 1) v1) (13 * c + 1 + 3 * k + 2) v2) := fun i i0 i1 iz => by
  have hi := h i i0 i1 iz
  rw [← upA_29, ← upA_29, ← upA_29, mF_pu c0 c8 k0 k4 (by decide) (by decide), mF_pu c0 c8 k0 k4 (by decide) (by decide), mF_pu c0 c8 k0 k4 (by decide) (by decide)]
  dsimp only
  rw [up1_o iz]
  by_cases z2 : i = 26 + (c * 4 + k) * 3 + 2
  · rw [if_pos z2, z2, up1_s]
  · rw [if_neg z2, up1_o z2, up1_o iz]
    by_cases z1 : i = 26 + (c * 4 + k) * 3 + 1
    · rw [if_pos z1, z1, up1_s]
    · rw [if_neg z1, up1_o z1, up1_o iz]
      by_cases z0 : i = 26 + (c * 4 + k) * 3 + 0
      · rw [if_pos z0, z0, up1_s]
      · rw [if_neg z0, up1_o z0, hi]
theorem pt_0 {k w : Int} {t : TK} (hw : w = 0 ∨ w = 1) : ptE k w t = if inE 0 20 t = 0 ∧ 4 ≤ k then -14 else inE 0 20 t := by
  unfold ptE
  rw [if_neg (show ¬ w = 2 by omega)]
theorem pt_2 {k : Int} {t : TK} : ptE k 2 t = if inE 1 3 t = 0 ∧ 4 ≤ k then -14 else inE 1 3 t := by
  unfold ptE
  rw [if_pos (show (2 : Int) = 2 from rfl)]
theorem in_11 {a b : Int} {t : TK} (h : ¬ t.2.2.1 = 1) : inE a b t = -11 := by unfold inE; rw [if_neg h]
theorem crv_S {T U : Int → Int} {n c : Int} {A1 : AA} (hU : byR T U n) (c0 : 0 ≤ c) (c8 : c < 8) : ∀ (d : Nat) (k : Int) (t : TK) (s : PS) (f g : Int → Int), k = 4 - d → 0 ≤ k → s.1 = 0 → tkR U t s.2.2 → 0 ≤ pO s → rowC A1 c f g → (0 < k → f (18 + c) = k) →
    ((crv T n c (3 * d + 1) (3 * k) t f).1 = 0 → (rcM U n c (d + 2) k s g).1.1 = 0 ∧ (rcM U n c (d + 2) k s g).1.2.2.2.2.1 = 2 ∧ tkR U (crv T n c (3 * d + 1) (3 * k) t f).2.1 (rcM U n c (d + 2) k s g).1.2.2 ∧ 0 ≤ pO (rcM U n c (d + 2) k s g).1 ∧ rowC A1 c (crv T n c (3 * d + 1) (3 * k) t f).2.2 (rcM U n c (d + 2) k s g).2.2 ∧ (crv T n c (3 * d + 1) (3 * k) t f).2.2 (18 + c) = (rcM U n c (d + 2) k s g).2.1) ∧
    (¬ (crv T n c (3 * d + 1) (3 * k) t f).1 = 0 → ((rcM U n c (d + 2) k s g).1.1 = (crv T n c (3 * d + 1) (3 * k) t f).1 ∧ (rcM U n c (d + 2) k s g).1.2.1 = (crv T n c (3 * d + 1) (3 * k) t f).2.1.1) ∨ ((rcM U n c (d + 2) k s g).1.1 = 0 ∧ ¬ (rcM U n c (d + 2) k s g).1.2.2.2.2.1 = 2 ∧ (crv T n c (3 * d + 1) (3 * k) t f).1 = -11 ∧ (rcM U n c (d + 2) k s g).1.2.2.1 = (crv T n c (3 * d + 1) (3 * k) t f).2.1.1)) := by
  intro d
  induction d with
  | zero =>
    intro k t s f g hk k0 h hr hp hf hc
    have hk4 : k = 4 := by omega
    subst hk4
    have kd := hr.2.2.1
    have kd2 := hr.2.2.2.1
    rw [show 3 * 0 + 1 = 0 + 1 from rfl, crv_u, show (0 : Nat) + 2 = 1 + 1 from rfl, rcM_u]
    rw [show (3 * 4 : Int) % 3 = 0 by decide, show (3 * 4 : Int) / 3 = 4 by decide]
    by_cases z : t.2.2.1 = 2
    · rw [if_pos ⟨rfl, by decide, z⟩, if_neg (fun y => by have y2 := y.2; omega)]
      exact ⟨fun _ => ⟨h, kd2.mp z, hr, hp, hf, hc (by decide)⟩, fun y => absurd rfl y⟩
    · rw [if_neg (fun y => z y.2.2)]
      have I := in_S (a := 0) (b := 20) h hr (by decide)
      by_cases z1 : t.2.2.1 = 1
      · have e1 : ¬ ptE 4 0 t = 0 := by
          rw [pt_0 (Or.inl rfl)]
          by_cases y : inE 0 20 t = 0
          · rw [if_pos ⟨y, by decide⟩]; decide
          · rw [if_neg (fun w => y w.1)]; exact y
        have eP : (peS U n 4 s).1 = ptE 4 0 t ∧ (peS U n 4 s).2.1 = t.1 := by
          unfold peS pdS pcS
          rw [pt_0 (Or.inl rfl), if_pos (show (4 : Int) = 4 from rfl)]
          by_cases y : inE 0 20 t = 0
          · rw [(I.1 y).1, fiP_1 h, if_pos ⟨y, by decide⟩]
            have nz : ¬ ((-14, s.2.2.1, s.2.2) : PS).1 = 0 := by show ¬ (-14 : Int) = 0; decide
            rw [goM_k nz, inS_k nz, goM_k nz, inS_k nz, goM_k nz]
            exact ⟨rfl, hr.1.1.symm⟩
          · rw [I.2 y, if_neg (fun w => y w.1)]
            have nz : ¬ ((inE 0 20 t, t.1, s.2.2) : PS).1 = 0 := y
            rw [fiP_k nz, goM_k nz, inS_k nz, goM_k nz, inS_k nz, goM_k nz]
            exact ⟨rfl, rfl⟩
        rw [if_neg e1, if_pos ⟨h, Or.inr (kd.mp z1)⟩, if_neg (by rw [eP.1]; exact e1)]
        exact ⟨fun y => absurd y e1, fun _ => Or.inl eP⟩
      · have e1 : ptE 4 0 t = -11 := by
          rw [pt_0 (Or.inl rfl), in_11 z1, if_neg (fun y => absurd y.1 (by decide))]
        rw [if_neg (by rw [e1]; decide), if_neg (fun y => by have y2 := y.2; omega), e1]
        exact ⟨fun y => absurd y (by show ¬ (-11 : Int) = 0; decide), fun _ => Or.inr ⟨h, fun y => z (kd2.mpr y), rfl, hr.1.1.symm⟩⟩
  | succ d ih =>
    intro k t s f g hk k0 h hr hp hf hc
    have k3 : k ≤ 3 := by omega
    have kd := hr.2.2.1
    have kd2 := hr.2.2.2.1
    have m0 : (3 * k) % 3 = 0 ∧ (3 * k) / 3 = k := by omega
    have m1 : (3 * k + 1) % 3 = 1 ∧ (3 * k + 1) / 3 = k := by omega
    have m2 : (3 * k + 1 + 1) % 3 = 2 ∧ (3 * k + 1 + 1) / 3 = k := by omega
    rw [show 3 * (d + 1) + 1 = (3 * d + 1) + 1 + 1 + 1 by omega, crv_u, show d + 1 + 2 = (d + 2) + 1 by omega, rcM_u, m0.1, m0.2]
    by_cases z : 2 ≤ k ∧ t.2.2.1 = 2
    · rw [if_pos ⟨rfl, z⟩, if_neg (fun y => by have y2 := y.2; omega)]
      exact ⟨fun _ => ⟨h, kd2.mp z.2, hr, hp, hf, hc (by omega)⟩, fun y => absurd rfl y⟩
    · rw [if_neg (fun y => z y.2)]
      have I := in_S (a := 0) (b := 20) h hr (by decide)
      have eE : ptE k 0 t = inE 0 20 t := by
        rw [pt_0 (Or.inl rfl), if_neg (fun y => by have y2 := y.2; omega)]
      rw [eE]
      by_cases q : k < 2 ∨ s.2.2.2.2.1 = 1
      · rw [if_pos (show s.1 = 0 ∧ (k < 2 ∨ s.2.2.2.2.1 = 1) from ⟨h, q⟩)]
        have kn : ¬ k = 4 := by omega
        by_cases y : inE 0 20 t = 0
        · rw [if_pos y]
          obtain ⟨i1, i2, i3, i4⟩ := I.1 y
          have eC : pcS U n k s = goM U n s := by unfold pcS; rw [i1, if_neg kn, fiP_0]
          obtain ⟨g1, g2, g3⟩ := go_S hU h hr hp
          rw [crv_u, m1.1, m1.2, if_neg (show ¬ ((1 : Int) = 0 ∧ 2 ≤ k ∧ (nxT T n t).2.2.1 = 2) from fun y => absurd y.1 (by decide))]
          have J := in_S (a := 0) (b := 20) g1 g2 (by decide)
          have eE1 : ptE k 1 (nxT T n t) = inE 0 20 (nxT T n t) := by
            rw [pt_0 (Or.inr rfl), if_neg (fun y => by have y2 := y.2; omega)]
          rw [eE1]
          by_cases y1 : inE 0 20 (nxT T n t) = 0
          · rw [if_pos y1]
            obtain ⟨j1, j2, j3, j4⟩ := J.1 y1
            have eD : pdS U n k s = goM U n (goM U n s) := by unfold pdS; rw [eC, j1]
            obtain ⟨l1, l2, l3⟩ := go_S hU g1 g2 g3
            rw [crv_u, m2.1, m2.2, if_neg (show ¬ ((2 : Int) = 0 ∧ 2 ≤ k ∧ (nxT T n (nxT T n t)).2.2.1 = 2) from fun y => absurd y.1 (by decide))]
            have L := in_S (a := 1) (b := 3) l1 l2 (by decide)
            have eE2 : ptE k 2 (nxT T n (nxT T n t)) = inE 1 3 (nxT T n (nxT T n t)) := by
              rw [pt_2, if_neg (fun y => by have y2 := y.2; omega)]
            rw [eE2]
            by_cases y2 : inE 1 3 (nxT T n (nxT T n t)) = 0
            · rw [if_pos y2]
              obtain ⟨o1, o2, o3, o4⟩ := L.1 y2
              have eP : peS U n k s = goM U n (goM U n (goM U n s)) := by unfold peS; rw [eD, o1]
              obtain ⟨r1, r2, r3⟩ := go_S hU l1 l2 l3
              rw [eP, if_pos r1]
              have eG : ptG U n c k s g = up1 (up1 (up1 g (13 * c + 1 + 3 * k + 0) t.2.2.2) (13 * c + 1 + 3 * k + 1) (nxT T n t).2.2.2) (13 * c + 1 + 3 * k + 2) (nxT T n (nxT T n t)).2.2.2 := by
                unfold ptG
                rw [i2, eC, j2, eD, o2]
              rw [eG, show 3 * k + 1 + 1 + 1 = 3 * (k + 1) by omega]
              exact ih (k + 1) _ _ _ _ (by omega) (by omega) r1 r2 r3 (pt_row c0 c8 k0 (by omega) hf) (fun _ => up1_s)
            · rw [if_neg y2]
              have nz : ¬ ((inE 1 3 (nxT T n (nxT T n t)), (nxT T n (nxT T n t)).1, (goM U n (goM U n s)).2.2) : PS).1 = 0 := y2
              have eP : peS U n k s = (inE 1 3 (nxT T n (nxT T n t)), (nxT T n (nxT T n t)).1, (goM U n (goM U n s)).2.2) := by unfold peS; rw [eD, L.2 y2, goM_k nz]
              rw [eP, if_neg nz]
              exact ⟨fun w => absurd w y2, fun _ => Or.inl ⟨rfl, rfl⟩⟩
          · rw [if_neg y1]
            have nz : ¬ ((inE 0 20 (nxT T n t), (nxT T n t).1, (goM U n s).2.2) : PS).1 = 0 := y1
            have eP : peS U n k s = (inE 0 20 (nxT T n t), (nxT T n t).1, (goM U n s).2.2) := by unfold peS pdS; rw [eC, J.2 y1, goM_k nz, inS_k nz, goM_k nz]
            rw [eP, if_neg nz]
            exact ⟨fun w => absurd w y1, fun _ => Or.inl ⟨rfl, rfl⟩⟩
        · rw [if_neg y]
          have nz : ¬ ((inE 0 20 t, t.1, s.2.2) : PS).1 = 0 := y
          have eP : peS U n k s = (inE 0 20 t, t.1, s.2.2) := by unfold peS pdS pcS; rw [I.2 y, fiP_k nz, goM_k nz, inS_k nz, goM_k nz, inS_k nz, goM_k nz]
          rw [eP, if_neg nz]
          exact ⟨fun w => absurd w y, fun _ => Or.inl ⟨rfl, rfl⟩⟩
      · rw [if_neg (show ¬ (s.1 = 0 ∧ (k < 2 ∨ s.2.2.2.2.1 = 1)) from fun y => q y.2)]
        have z1 : ¬ t.2.2.1 = 1 := fun y => q (Or.inr (kd.mp y))
        rw [in_11 z1, if_neg (show ¬ (-11 : Int) = 0 by decide)]
        exact ⟨fun y => absurd y (by show ¬ (-11 : Int) = 0; decide), fun _ => Or.inr ⟨h, fun y => by have := kd2.mpr y; omega, rfl, hr.1.1.symm⟩⟩
