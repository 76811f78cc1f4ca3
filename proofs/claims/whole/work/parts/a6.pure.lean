/-! lines read by both -/
def lnZ (m z : Int) (t : TK) : Int := if inE 0 m t = 0 ∧ z = 0 ∧ t.2.2.2 = 0 then -12 else inE 0 m t
theorem sg_S {T U : Int → Int} {n m z : Int} {t : TK} {s : PS} (hU : byR T U n) (h : s.1 = 0) (hr : tkR U t s.2.2) (hp : 0 ≤ pO s) (hm : m ≤ 1000) :
    (lnZ m z (sgK T n t) = 0 → (sgS U n m z s).1 = 0 ∧ tkR U (nxT T n (sgK T n t)) (sgS U n m z s).2.2 ∧ 0 ≤ pO (sgS U n m z s) ∧ sgR U n m s = (if t.2.2.1 = 3 then -(sgK T n t).2.2.2 else (sgK T n t).2.2.2) ∧ (0 ≤ (sgK T n t).2.2.2 ∧ (sgK T n t).2.2.2 ≤ m)) ∧ (¬ lnZ m z (sgK T n t) = 0 → (sgS U n m z s).1 = lnZ m z (sgK T n t) ∧ (sgS U n m z s).2.1 = (sgK T n t).1) := by
  have k3 := hr.2.2.2.2.2.1
  have hb : sgB U s ↔ t.2.2.1 = 3 := ⟨fun y => k3.mpr ⟨y.1, y.2.2⟩, fun y => ⟨(k3.mp y).1, h, (k3.mp y).2⟩⟩
  obtain ⟨q1, q2, q3⟩ : (sg1 U n s).1 = 0 ∧ tkR U (sgK T n t) (sg1 U n s).2.2 ∧ 0 ≤ pO (sg1 U n s) := by
    by_cases y : t.2.2.1 = 3
    · have e1 : sg1 U n s = goM U n s := if_pos (hb.mpr y)
      have e2 : sgK T n t = nxT T n t := if_pos y
      rw [e1, e2]
      exact go_S hU h hr hp
    · have e1 : sg1 U n s = s := if_neg (fun w => y (hb.mp w))
      have e2 : sgK T n t = t := if_neg y
      rw [e1, e2]
      exact ⟨h, hr, hp⟩
  have eR : sgR U n m s = (if t.2.2.1 = 3 then -(inV 0 m (sg1 U n s)) else inV 0 m (sg1 U n s)) := by
    unfold sgR
    by_cases y : t.2.2.1 = 3
    · rw [if_pos (hb.mpr y), if_pos y]
    · rw [if_neg (fun w => y (hb.mp w)), if_neg y]
  have I := in_S (a := 0) (b := m) q1 q2 hm
  rw [eR]
  unfold sgS lnZ
  generalize sg1 U n s = s1 at *
  generalize sgK T n t = t1 at *
  by_cases y : inE 0 m t1 = 0
  · obtain ⟨i1, i2, i3, i4⟩ := I.1 y
    rw [i1, i2]
    by_cases w : z = 0 ∧ t1.2.2.2 = 0
    · rw [if_pos ⟨y, w⟩, if_pos ⟨w.2, w.1⟩, fiP_1 q1, goM_k (show ¬ (-12 : Int) = 0 by decide)]
      exact ⟨fun x => absurd x (by decide), fun _ => ⟨rfl, q2.1.1.symm⟩⟩
    · rw [if_neg (fun x => w x.2), if_neg (show ¬ (t1.2.2.2 = 0 ∧ z = 0) from fun x => w ⟨x.2, x.1⟩), fiP_0, y]
      obtain ⟨g1, g2, g3⟩ := go_S hU q1 q2 q3
      exact ⟨fun _ => ⟨g1, g2, g3, rfl, i3, i4⟩, fun x => absurd rfl x⟩
  · have nz : ¬ ((inE 0 m t1, t1.1, s1.2.2) : PS).1 = 0 := y
    rw [I.2 y, if_neg (fun x => y x.1), fiP_k nz, goM_k nz]
    exact ⟨fun x => absurd x y, fun _ => ⟨rfl, rfl⟩⟩
theorem lin_u {T : Int → Int} {n l : Int} {m : Nat} {w : Int} {t : TK} {f : Int → Int} : lin T n l (m + 1) w t f = if lnE w (f (122 + l * 3 + 0)) (sgK T n t) = 0 then lin T n l m (w + 1) (nxT T n (sgK T n t)) (up1 f (122 + l * 3 + w) (if t.2.2.1 = 3 then -(sgK T n t).2.2.2 else (sgK T n t).2.2.2)) else (lnE w (f (122 + l * 3 + 0)) (sgK T n t), sgK T n t, f) := rfl
theorem ln_0 {a : Int} {t : TK} : lnE 0 a t = lnZ 5 1 t := by
  unfold lnE lnZ
  rw [if_pos (show (0 : Int) < 2 by decide), if_neg (show ¬ (inE 0 5 t = 0 ∧ (0 : Int) = 1 ∧ w32 a = 0 ∧ t.2.2.2 = 0) from fun y => absurd y.2.1 (by decide)), if_neg (show ¬ (inE 0 5 t = 0 ∧ (1 : Int) = 0 ∧ t.2.2.2 = 0) from fun y => absurd y.2.1 (by decide))]
theorem ln_1 {a : Int} {t : TK} (ha : -5 ≤ a ∧ a ≤ 5) : lnE 1 a t = lnZ 5 (if a = 0 then 0 else 1) t := by
  unfold lnE lnZ
  rw [if_pos (show (1 : Int) < 2 by decide), w32_id (x := a) (by omega) (by omega)]
  by_cases y : a = 0
  · rw [if_pos y]
    by_cases w : inE 0 5 t = 0 ∧ t.2.2.2 = 0
    · rw [if_pos ⟨w.1, rfl, y, w.2⟩, if_pos ⟨w.1, rfl, w.2⟩]
    · rw [if_neg (fun x => w ⟨x.1, x.2.2.2⟩), if_neg (fun x => w ⟨x.1, x.2.2⟩)]
  · rw [if_neg y, if_neg (fun x => y x.2.2.1), if_neg (fun x => absurd x.2.1 (by decide))]
theorem ln_2 {a : Int} {t : TK} : lnE 2 a t = lnZ 200 1 t := by
  unfold lnE lnZ
  rw [if_neg (show ¬ (2 : Int) < 2 by decide), if_neg (show ¬ (inE 0 200 t = 0 ∧ (2 : Int) = 1 ∧ w32 a = 0 ∧ t.2.2.2 = 0) from fun y => absurd y.2.1 (by decide)), if_neg (show ¬ (inE 0 200 t = 0 ∧ (1 : Int) = 0 ∧ t.2.2.2 = 0) from fun y => absurd y.2.1 (by decide))]
theorem lin_S {T U : Int → Int} {n l x y z : Int} {t : TK} {s s3 s4 s5 : PS} {f : Int → Int} (hU : byR T U n) (h : s.1 = 0) (hr : tkR U t s.2.2) (hp : 0 ≤ pO s) (e3 : s3 = sgS U n 5 1 s) (ex : x = sgR U n 5 s) (e4 : s4 = sgS U n 5 (if x = 0 then 0 else 1) s3) (ey : y = sgR U n 5 s3) (e5 : s5 = sgS U n 200 1 s4) (ez : z = sgR U n 200 s4) :
    ((lin T n l 3 0 t f).1 = 0 → (s5.1 = 0 ∧ tkR U (lin T n l 3 0 t f).2.1 s5.2.2 ∧ 0 ≤ pO s5) ∧ (lin T n l 3 0 t f).2.2 = up1 (up1 (up1 f (122 + l * 3 + 0) x) (122 + l * 3 + 1) y) (122 + l * 3 + 2) z) ∧ (¬ (lin T n l 3 0 t f).1 = 0 → s5.1 = (lin T n l 3 0 t f).1 ∧ s5.2.1 = (lin T n l 3 0 t f).2.1.1) := by
  have S1 := sg_S (m := 5) (z := 1) hU h hr hp (by decide)
  rw [← e3, ← ex] at S1
  rw [show (3 : Nat) = 2 + 1 from rfl, lin_u, ln_0]
  by_cases q1 : lnZ 5 1 (sgK T n t) = 0
  · obtain ⟨a1, a2, a3, a4, a5⟩ := S1.1 q1
    rw [if_pos q1, ← a4]
    have xb : -5 ≤ x ∧ x ≤ 5 := by rw [a4]; split <;> omega
    have S2 := sg_S (m := 5) (z := if x = 0 then 0 else 1) hU a1 a2 a3 (by decide)
    rw [← e4, ← ey] at S2
    rw [show (2 : Nat) = 1 + 1 from rfl, lin_u, up1_s, show (0 : Int) + 1 = 1 from rfl, ln_1 xb]
    by_cases q2 : lnZ 5 (if x = 0 then 0 else 1) (sgK T n (nxT T n (sgK T n t))) = 0
    · obtain ⟨b1, b2, b3, b4, b5⟩ := S2.1 q2
      rw [if_pos q2, ← b4]
      have S3 := sg_S (m := 200) (z := 1) hU b1 b2 b3 (by decide)
      rw [← e5, ← ez] at S3
      rw [show (1 : Nat) = 0 + 1 from rfl, lin_u, show (1 : Int) + 1 = 2 from rfl, ln_2]
      by_cases q3 : lnZ 200 1 (sgK T n (nxT T n (sgK T n (nxT T n (sgK T n t))))) = 0
      · obtain ⟨c1, c2, c3, c4, c5⟩ := S3.1 q3
        rw [if_pos q3, ← c4]
        exact ⟨fun _ => ⟨⟨c1, c2, c3⟩, rfl⟩, fun w => absurd rfl w⟩
      · rw [if_neg q3]
        exact ⟨fun w => absurd w q3, fun _ => S3.2 q3⟩
    · rw [if_neg q2]
      have b := S2.2 q2
      have nz : ¬ s4.1 = 0 := by rw [b.1]; exact q2
      have e : s5 = s4 := by rw [e5, sgS_k nz]
      rw [e]
      exact ⟨fun w => absurd w q2, fun _ => b⟩
  · rw [if_neg q1]
    have a := S1.2 q1
    have nz : ¬ s3.1 = 0 := by rw [a.1]; exact q1
    have e : s4 = s3 := by rw [e4, sgS_k nz]
    have e' : s5 = s3 := by rw [e5, e, sgS_k nz]
    rw [e']
    exact ⟨fun w => absurd w q1, fun _ => a⟩
