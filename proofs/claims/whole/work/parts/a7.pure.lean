/-! settings, statements -/
theorem gt_tp {w : Int} : gtO w = tpM w := rfl
theorem bt_k : ∀ g : Fin 4, ∀ w : Fin 2, (x_and (g.val : Int) (x_shl 1 (w.val : Int)) = 0 ↔ ¬ x_and (x_shr (g.val : Int) (w.val : Int)) 1 = 1) := by decide +kernel
theorem bt_g {g w : Int} (hg : 0 ≤ g ∧ g ≤ 3) (hw : 0 ≤ w ∧ w ≤ 1) : x_and g (x_shl 1 w) = 0 ↔ ¬ x_and (x_shr g w) 1 = 1 := by
  have e := bt_k ⟨g.toNat, by omega⟩ ⟨w.toNat, by omega⟩
  rw [show (((⟨g.toNat, by omega⟩ : Fin 4).val : Nat) : Int) = g by show ((g.toNat : Nat) : Int) = g; omega, show (((⟨w.toNat, by omega⟩ : Fin 2).val : Nat) : Int) = w by show ((w.toNat : Nat) : Int) = w; omega] at e
  exact e
theorem rdS_S {T : Int → Int} {n g : Int} {A : AA} {t : TK} {s : PS} {f : Int → Int} (hU : byR T (A 26) n) (h : s.1 = 0) (hr : tkR (A 26) t s.2.2) (hp : 0 ≤ pO s) (hf : ∀ i, 0 ≤ i → i < 140 → f i = mF A i) (hg : 0 ≤ g ∧ g ≤ 3) :
    StS (A 26) (rdS T n t f g).1 (rdS T n t f g).2.1 (rsS5 (A 26) n g s) ∧ ((rdS T n t f g).1 = 0 → (∀ i, 0 ≤ i → i < 140 → (rdS T n t f g).2.2.1 i = mF (rsA A n g s) i) ∧ (rdS T n t f g).2.2.2 = x_or g (x_shl 1 (rsW (A 26) n s))) := by
  obtain ⟨g1, g2, g3⟩ := go_S hU h hr hp
  have k0 := g2.2.1
  have w := g2.2.2.2.2.2.2.2
  have key : (iwP (nxT T n t) 412526208 ∨ iwP (nxT T n t) 140005632) ↔ ¬ ((¬ (goM (A 26) n s).2.2.2.2.1 = 0) ∨ (goM (A 26) n s).2.2.2.2.2 < 3) := by
    unfold iwP
    by_cases z : (goM (A 26) n s).2.2.2.2.1 = 0
    · obtain ⟨w0, w1, w2, w3, w4, w5, w6, w7⟩ := w z
      clear w6 w7
      omega
    · omega
  by_cases b : iwP (nxT T n t) 412526208 ∨ iwP (nxT T n t) 140005632
  · have nb := key.mp b
    have z : (goM (A 26) n s).2.2.2.2.1 = 0 := by omega
    obtain ⟨w0, w1, w2, w3, w4, w5, w6, w7⟩ := w z
    have e2 : rsS2 (A 26) n s = goM (A 26) n s := by unfold rsS2; rw [if_neg nb, fiP_0]
    have eW : rsW (A 26) n s = (goM (A 26) n s).2.2.2.2.2 - 3 := by unfold rsW; rw [e2, if_pos g1]
    have eI : stI (nxT T n t) = rsW (A 26) n s := by
      rw [eW]
      unfold stI
      clear w6 w7
      by_cases q : (nxT T n t).2.2.2 = 412526208
      · rw [if_pos q]; omega
      · rw [if_neg q]; omega
    have wb := rsW_b (A 26) n s
    have bg := bt_g hg wb
    unfold rdS rsA rsV rsS5 rsS3
    rw [if_pos b, eI, gt_tp, e2]
    generalize rsW (A 26) n s = W at *
    by_cases y : x_and g (x_shl 1 W) = 0
    · rw [if_pos y, if_neg (bg.mp y), fiP_0]
      obtain ⟨l1, l2, l3⟩ := go_S hU g1 g2 g3
      have I := in_S (a := 1) (b := tpM W) l1 l2 (by unfold tpM; split <;> decide)
      by_cases q : inE 1 (tpM W) (nxT T n (nxT T n t)) = 0
      · rw [if_pos q]
        obtain ⟨i1, i2, i3, i4⟩ := I.1 q
        rw [i1, i2]
        obtain ⟨r1, r2, r3⟩ := go_S hU l1 l2 l3
        rw [if_pos r1]
        refine ⟨⟨fun _ => ⟨r1, r2, r3⟩, fun x => absurd rfl x⟩, fun _ => ⟨fun i i0 i1' => ?_, rfl⟩⟩
        rw [mF_su wb.1 wb.2]
        dsimp only
        by_cases v : i = 2 + W
        · rw [if_pos v, v, up1_s]
        · rw [if_neg v, up1_o v, hf i i0 i1']
      · rw [if_neg q]
        have nz : ¬ ((inE 1 (tpM W) (nxT T n (nxT T n t)), (nxT T n (nxT T n t)).1, (goM (A 26) n (goM (A 26) n s)).2.2) : PS).1 = 0 := q
        rw [I.2 q, goM_k nz]
        exact ⟨⟨fun x => absurd x q, fun _ => Or.inl ⟨rfl, rfl⟩⟩, fun x => absurd x q⟩
    · rw [if_neg y, if_pos (show x_and (x_shr g W) 1 = 1 by
        by_cases v : x_and (x_shr g W) 1 = 1
        · exact v
        · exact absurd (bg.mpr v) y), fiP_1 g1]
      have nz : ¬ ((-13, (goM (A 26) n s).2.2.1, (goM (A 26) n s).2.2) : PS).1 = 0 := by show ¬ (-13 : Int) = 0; decide
      rw [goM_k nz, inS_k nz, goM_k nz]
      exact ⟨⟨fun x => absurd x (by show ¬ (-13 : Int) = 0; decide), fun _ => Or.inl ⟨rfl, g2.1.1.symm⟩⟩, fun x => absurd x (by show ¬ (-13 : Int) = 0; decide)⟩
  · have nb : (¬ (goM (A 26) n s).2.2.2.2.1 = 0) ∨ (goM (A 26) n s).2.2.2.2.2 < 3 := by
      by_cases v : (¬ (goM (A 26) n s).2.2.2.2.1 = 0) ∨ (goM (A 26) n s).2.2.2.2.2 < 3
      · exact v
      · exact absurd (key.mpr v) b
    have nz : ¬ ((-11, (goM (A 26) n s).2.2.1, (goM (A 26) n s).2.2) : PS).1 = 0 := by show ¬ (-11 : Int) = 0; decide
    have e2 : rsS2 (A 26) n s = (-11, (goM (A 26) n s).2.2.1, (goM (A 26) n s).2.2) := by unfold rsS2; rw [if_pos nb, fiP_1 g1]
    have e5 : rsS5 (A 26) n g s = (-11, (goM (A 26) n s).2.2.1, (goM (A 26) n s).2.2) := by
      unfold rsS5 rsS3
      rw [e2, fiP_k nz, goM_k nz, inS_k nz, goM_k nz]
    have eR : rdS T n t f g = (-11, nxT T n t, f, g) := by unfold rdS; rw [if_neg b]
    rw [eR, e5]
    exact ⟨⟨fun x => absurd x (by show ¬ (-11 : Int) = 0; decide), fun _ => Or.inl ⟨rfl, g2.1.1.symm⟩⟩, fun x => absurd x (by show ¬ (-11 : Int) = 0; decide)⟩
theorem rdX_S {T : Int → Int} {n g : Int} {A : AA} {t : TK} {s : PS} {f : Int → Int} (hU : byR T (A 26) n) (h : s.1 = 0) (hr : tkR (A 26) t s.2.2) (hp : 0 ≤ pO s) (hf : ∀ i, 0 ≤ i → i < 140 → f i = mF A i) (ct : ctM A) (hg : 0 ≤ g ∧ g ≤ 3) :
    StS (A 26) (rdX T n t f g).1 (rdX T n t f g).2.1 (stS1 A n g s) ∧ ((rdX T n t f g).1 = 0 → (∀ i, 0 ≤ i → i < 140 → (rdX T n t f g).2.2.1 i = mF (stA A n g s) i) ∧ (rdX T n t f g).2.2.2 = stG A n g s) := by
  have k0 := hr.2.1
  have w := hr.2.2.2.2.2.2.2
  have key : (iwP t 123295904 ↔ stK s = 0) ∧ (iwP t 412554240 ↔ stK s = 1) ∧ (iwP t 643432448 ↔ stK s = 2) := by
    unfold iwP stK
    by_cases z : s.2.2.2.2.1 = 0
    · obtain ⟨w0, w1, w2, w3, w4, w5, w6, w7⟩ := w z
      clear w6 w7
      rw [if_pos z]
      omega
    · rw [if_neg z]; omega
  unfold rdX stS1 stA stG
  by_cases z0 : iwP t 123295904
  · have y := key.1.mp z0
    rw [if_pos z0, if_pos y, if_pos y, if_neg (show ¬ stK s = 2 by omega)]
    have C := rdC_S hU h hr hp hf ct
    exact ⟨C.1, fun x => ⟨C.2 x, rfl⟩⟩
  · have y0 : ¬ stK s = 0 := fun v => z0 (key.1.mpr v)
    rw [if_neg z0, if_neg y0, if_neg y0]
    by_cases z1 : iwP t 412554240
    · have y := key.2.1.mp z1
      rw [if_pos z1, if_pos y, if_pos y, if_neg (show ¬ stK s = 2 by omega)]
      have C := rdL_S hU h hr hp hf ct
      exact ⟨C.1, fun x => ⟨C.2 x, rfl⟩⟩
    · have y1 : ¬ stK s = 1 := fun v => z1 (key.2.1.mpr v)
      rw [if_neg z1, if_neg y1, if_neg y1]
      by_cases z2 : iwP t 643432448
      · have y := key.2.2.mp z2
        rw [if_pos z2, if_pos y, if_pos y, if_pos y]
        exact rdS_S hU h hr hp hf hg
      · have y2 : ¬ stK s = 2 := fun v => z2 (key.2.2.mpr v)
        rw [if_neg z2, if_neg y2, if_neg y2, if_neg y2, fiP_1 h]
        exact ⟨⟨fun x => absurd x (by show ¬ (-11 : Int) = 0; decide), fun _ => Or.inl ⟨rfl, hr.1.1.symm⟩⟩, fun x => absurd x (by show ¬ (-11 : Int) = 0; decide)⟩
theorem rdT_S {T : Int → Int} {n g : Int} {A : AA} {t : TK} {s : PS} {f : Int → Int} (hU : byR T (A 26) n) (h : s.1 = 0) (hr : tkR (A 26) t s.2.2) (hp : 0 ≤ pO s) (hf : ∀ i, 0 ≤ i → i < 140 → f i = mF A i) (ct : ctM A) (hg : 0 ≤ g ∧ g ≤ 3) :
    Sm (A 26) (rdT T n t f g).1 (rdT T n t f g).2.1 (stS2 A n g s) ∧ ((rdT T n t f g).1 = 0 → (∀ i, 0 ≤ i → i < 140 → (rdT T n t f g).2.2.1 i = mF (stA A n g s) i) ∧ (rdT T n t f g).2.2.2 = stG A n g s) := by
  obtain ⟨X, Y⟩ := rdX_S hU h hr hp hf ct hg
  unfold rdT stS2
  generalize stS1 A n g s = S at *
  by_cases z : (rdX T n t f g).1 = 0
  · obtain ⟨a1, a2, a3⟩ := X.1 z
    have k2 := a2.2.2.2.1
    rw [if_pos z]
    by_cases y : (rdX T n t f g).2.1.2.2.1 = 2
    · rw [if_pos y, if_pos (k2.mp y), fiP_0]
      exact ⟨⟨fun _ => go_S hU a1 a2 a3, fun x => absurd rfl x⟩, fun _ => Y z⟩
    · rw [if_neg y, if_neg (fun x => y (k2.mpr x)), fiP_1 a1, goM_k (show ¬ (-11 : Int) = 0 by decide)]
      exact ⟨⟨fun x => absurd x (by show ¬ (-11 : Int) = 0; decide), fun _ => ⟨rfl, a2.1.1.symm⟩⟩, fun x => absurd x (by show ¬ (-11 : Int) = 0; decide)⟩
  · rw [if_neg z]
    refine ⟨⟨fun x => absurd x z, fun _ => ?_⟩, fun x => absurd x z⟩
    rcases X.2 z with ⟨b1, b2⟩ | ⟨b1, b2, b3, b4⟩
    · have nz : ¬ S.1 = 0 := by rw [b1]; exact z
      rw [fiP_k nz, goM_k nz]
      exact ⟨b1, b2⟩
    · rw [if_neg b2, fiP_1 b1, goM_k (show ¬ (-11 : Int) = 0 by decide)]
      exact ⟨b3.symm, b4⟩
