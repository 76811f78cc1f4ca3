/-! pairs of the model -/
def mbG (g : Int → Int) : Int → Int → Int → Prop := fun l q r => meB g (8 * (p2 l - 1 + q)) (1016 + 8 * (p2 l - 1 + r))
/-- all boxes of both halves hold numbers of a cell's size -/
def bxA (g : Int → Int) (D : Int) : Prop := ∀ l q, 0 ≤ l → l ≤ D → 0 ≤ q → q < p2 l → bxO g (8 * (p2 l - 1 + q)) ∧ bxO g (1016 + 8 * (p2 l - 1 + q))
def mk3 (A B : AA) (S : Int) (P : Int → Int → Prop) : Prop := (∀ b i, b ≠ 39 ∨ i < 0 ∨ S * S ≤ i → B b i = A b i) ∧ ∀ i j, 0 ≤ i → i < S → 0 ≤ j → j < S → (P i j → B 39 (i * S + j) = 1) ∧ (¬ P i j → B 39 (i * S + j) = A 39 (i * S + j))
theorem mk3_trans {A B C : AA} {S : Int} {P Q : Int → Int → Prop} (h1 : mk3 A B S P) (h2 : mk3 B C S Q) : mk3 A C S (fun i j => P i j ∨ Q i j) := by
  refine ⟨fun b i hb => (h2.1 b i hb).trans (h1.1 b i hb), fun i j i0 i1 j0 j1 => ⟨fun z => ?_, fun z => ?_⟩⟩
  · by_cases hq : Q i j
    · exact (h2.2 i j i0 i1 j0 j1).1 hq
    · rw [(h2.2 i j i0 i1 j0 j1).2 hq]
      exact (h1.2 i j i0 i1 j0 j1).1 (z.resolve_right hq)
  · rw [(h2.2 i j i0 i1 j0 j1).2 (fun y => z (Or.inr y)), (h1.2 i j i0 i1 j0 j1).2 (fun y => z (Or.inl y))]
theorem mk3_c {A B : AA} {S : Int} {P Q : Int → Int → Prop} (h : mk3 A B S P) (e : ∀ i j, P i j ↔ Q i j) : mk3 A B S Q := ⟨h.1, fun i j i0 i1 j0 j1 => ⟨fun z => (h.2 i j i0 i1 j0 j1).1 ((e i j).mpr z), fun z => (h.2 i j i0 i1 j0 j1).2 (fun y => z ((e i j).mp y))⟩⟩
theorem mk3_id {A : AA} {S : Int} {P : Int → Int → Prop} (h : ∀ i j, ¬ P i j) : mk3 A A S P := ⟨fun _ _ _ => rfl, fun i j _ _ _ _ => ⟨fun z => absurd z (h i j), fun _ => rfl⟩⟩
theorem mk3_put {A : AA} {S q r : Int} {P : Int → Int → Prop} (q0 : 0 ≤ q) (q1 : q < S) (r0 : 0 ≤ r) (r1 : r < S) (e : ∀ i j, P i j ↔ i = q ∧ j = r) : mk3 A (upA A 39 (q * S + r) 1) S P := by
  have hb := ix_b q0 q1 r0 r1
  refine ⟨fun b i h => ?_, fun i j i0 i1 j0 j1 => ⟨fun z => ?_, fun z => ?_⟩⟩
  · unfold upA; rw [if_neg (by omega)]
  · obtain ⟨rfl, rfl⟩ := (e i j).mp z
    exact upA_s
  · exact upA_o (fun y => z ((e i j).mpr (ix_inj j0 j1 r0 r1 y)))
theorem mk3_r {A B : AA} {S : Int} {P : Int → Int → Prop} (h : mk3 A B S P) : B 38 = A 38 ∧ mF B = mF A := ⟨funext fun i => h.1 38 i (Or.inl (by decide)), mF_c (funext fun i => h.1 2 i (Or.inl (by decide))) (funext fun i => h.1 27 i (Or.inl (by decide))) (funext fun i => h.1 29 i (Or.inl (by decide)))⟩
theorem xd02 : x_div 0 2 = 0 := by decide
theorem xd12 : x_div 1 2 = 0 := by decide
theorem xd22 : x_div 2 2 = 1 := by decide
theorem xd32 : x_div 3 2 = 1 := by decide
theorem xm02 : x_rem 0 2 = 0 := by decide
theorem xm12 : x_rem 1 2 = 1 := by decide
theorem xm22 : x_rem 2 2 = 0 := by decide
theorem xm32 : x_rem 3 2 = 1 := by decide
theorem xzb1 : x_zb 1 = 1 := by decide
theorem xzb0 : x_zb 0 = 0 := by decide
/-- how many of the first m numbers have a property -/
noncomputable def cntQ (p : Int → Prop) : Nat → Int
  | 0 => 0
  | m + 1 => @ite Int (p m) (Classical.propDecidable _) (cntQ p m + 1) (cntQ p m)
theorem cntQ_t {p : Int → Prop} {m : Int} (h : 0 ≤ m) (hp : p m) : cntQ p (Int.toNat (m + 1)) = cntQ p (Int.toNat m) + 1 := by
  obtain ⟨j, rfl⟩ : ∃ j : Nat, m = j := ⟨m.toNat, by omega⟩
  rw [show Int.toNat ((j : Int) + 1) = j + 1 by omega, show Int.toNat (j : Int) = j by omega]
  exact if_pos hp
theorem cntQ_f {p : Int → Prop} {m : Int} (h : 0 ≤ m) (hp : ¬ p m) : cntQ p (Int.toNat (m + 1)) = cntQ p (Int.toNat m) := by
  obtain ⟨j, rfl⟩ : ∃ j : Nat, m = j := ⟨m.toNat, by omega⟩
  rw [show Int.toNat ((j : Int) + 1) = j + 1 by omega, show Int.toNat (j : Int) = j by omega]
  exact if_neg hp
theorem cntQ_t0 {p : Int → Prop} {m : Nat} (hp : p m) : cntQ p (m + 1) = cntQ p m + 1 := if_pos hp
theorem cntQ_f0 {p : Int → Prop} {m : Nat} (hp : ¬ p m) : cntQ p (m + 1) = cntQ p m := if_neg hp
theorem cntQ_b (p : Int → Prop) : ∀ m : Nat, 0 ≤ cntQ p m ∧ cntQ p m ≤ m
  | 0 => ⟨Int.le_refl 0, Int.le_refl 0⟩
  | m + 1 => by
    have := cntQ_b p m
    by_cases h : p m
    · rw [cntQ_t0 h]; omega
    · rw [cntQ_f0 h]; omega
theorem cntQ_m (p : Int → Prop) (m : Nat) : ∀ d : Nat, cntQ p m ≤ cntQ p (m + d)
  | 0 => Int.le_refl _
  | d + 1 => by
    have := cntQ_m p m d
    show cntQ p m ≤ cntQ p (m + d + 1)
    by_cases h : p ((m + d : Nat) : Int)
    · rw [cntQ_t0 h]; omega
    · rw [cntQ_f0 h]; exact this
theorem cntQ_c {p q : Int → Prop} : ∀ m : Nat, (∀ j : Int, 0 ≤ j → j < m → (p j ↔ q j)) → cntQ p m = cntQ q m
  | 0, _ => rfl
  | m + 1, h => by
    have ih := cntQ_c m (fun j j0 j1 => h j j0 (by omega))
    have e := h m (by omega) (by omega)
    by_cases z : p m
    · rw [cntQ_t0 z, cntQ_t0 (e.mp z), ih]
    · rw [cntQ_f0 z, cntQ_f0 (fun y => z (e.mpr y)), ih]
/-- the place of the one number k among the first m; -1 -/
noncomputable def pkQ (p : Int → Prop) (k : Int) : Nat → Int
  | 0 => -1
  | m + 1 => if pkQ p k m = -1 then @ite Int (p m ∧ cntQ p m = k) (Classical.propDecidable _) m (-1) else pkQ p k m
theorem pkQ_no {p : Int → Prop} {k : Int} : ∀ m : Nat, k < 0 ∨ cntQ p m ≤ k → pkQ p k m = -1
  | 0, _ => rfl
  | m + 1, h => by
    have hm := cntQ_m p m 1
    have h9 := cntQ_b p m
    have ih := pkQ_no (p := p) (k := k) m (by omega)
    unfold pkQ
    rw [if_pos ih]
    refine if_neg (fun z => ?_)
    have := cntQ_t0 z.1
    omega
theorem pkQ_is {p : Int → Prop} {k : Int} {at_ : Nat} (h : p at_) (h2 : cntQ p at_ = k) : ∀ m : Nat, at_ < m → pkQ p k m = at_
  | 0, z => by omega
  | m + 1, z => by
    unfold pkQ
    by_cases e : at_ = m
    · subst e
      rw [pkQ_no at_ (Or.inr (by omega)), if_pos rfl]
      exact if_pos ⟨h, h2⟩
    · have ih := pkQ_is h h2 m (by omega)
      rw [ih, if_neg (by omega)]
/-- the boxes that the model lays are the class's -/
def bx2 (f : Int → Int) (c e D : Int) (g : Int → Int) : Prop := (∀ l q, 0 ≤ l → l ≤ D → 0 ≤ q → q < p2 l → bxC f c l q g (8 * (p2 l - 1 + q))) ∧ ∀ l q, 0 ≤ l → l ≤ D → 0 ≤ q → q < p2 l → bxC f e l q g (1016 + 8 * (p2 l - 1 + q))
theorem bxC_O {f g : Int → Int} {c l q p : Int} (h : fgOK f) (hd : l ≤ 6) (c0 : 0 ≤ c) (c1 : c < f 0) (z : bxC f c l q g p) : bxO g p := fun i i0 i1 => by
  have q3 := (h.2.2.1 c c0 c1).1
  have w := z ((i - p) / 2) (by omega) (by omega)
  have xb := exX_b (f := f) (c := c) (d := l.toNat) (q := q) (s := (i - p) / 2) q3.1
  have b1 := ceX_b h (q := q) (d := l.toNat) (by omega) c0 c1 xb.1 xb.2 (show 0 ≤ (i - p) / 2 % 2 by omega) (by omega)
  have b2 := ceX_b h (q := q) (d := l.toNat) (by omega) c0 c1 xb.1 xb.2 (show (0 : Int) ≤ 2 by decide) (by decide)
  by_cases ev : (i - p) % 2 = 0
  · rw [show p + 2 * ((i - p) / 2) = i by omega] at w
    rw [w.1]; omega
  · rw [show p + 2 * ((i - p) / 2) + 1 = i by omega] at w
    rw [w.2]; omega
theorem bx2_A {f g : Int → Int} {c e D : Int} (h : fgOK f) (hD : D ≤ 6) (c0 : 0 ≤ c) (c1 : c < f 0) (e0 : 0 ≤ e) (e1 : e < f 0) (z : bx2 f c e D g) : bxA g D := fun l q l0 l1 q0 q1 => ⟨bxC_O h (by omega) c0 c1 (z.1 l q l0 l1 q0 q1), bxC_O h (by omega) e0 e1 (z.2 l q l0 l1 q0 q1)⟩
theorem mb_me {f g : Int → Int} {c e l q r a b : Int} (h : fgOK f) (hd : l ≤ 6) (c0 : 0 ≤ c) (c1 : c < f 0) (e0 : 0 ≤ e) (e1 : e < f 0) (za : bxC f c l q g a) (zb : bxC f e l r g b) : meB g a b ↔ meF f c e l q r := by
  have q3 := (h.2.2.1 c c0 c1).1
  have q4 := (h.2.2.1 e e0 e1).1
  have a0 := za 0 (by decide) (by decide)
  have a1 := za 1 (by decide) (by decide)
  have a2 := za 2 (by decide) (by decide)
  have a3 := za 3 (by decide) (by decide)
  have b0 := zb 0 (by decide) (by decide)
  have b1 := zb 1 (by decide) (by decide)
  have b2 := zb 2 (by decide) (by decide)
  have b3 := zb 3 (by decide) (by decide)
  rw [show (0 : Int) % 2 = 0 by decide, show a + 2 * 0 = a by omega] at a0
  rw [show (0 : Int) % 2 = 0 by decide, show b + 2 * 0 = b by omega] at b0
  rw [show (1 : Int) % 2 = 1 by decide, show a + 2 * 1 = a + 2 by omega, show a + 2 + 1 = a + 3 by omega] at a1
  rw [show (1 : Int) % 2 = 1 by decide, show b + 2 * 1 = b + 2 by omega, show b + 2 + 1 = b + 3 by omega] at b1
  rw [show (2 : Int) % 2 = 0 by decide, show a + 2 * 2 = a + 4 by omega, show a + 4 + 1 = a + 5 by omega] at a2
  rw [show (2 : Int) % 2 = 0 by decide, show b + 2 * 2 = b + 4 by omega, show b + 4 + 1 = b + 5 by omega] at b2
  rw [show (3 : Int) % 2 = 1 by decide, show a + 2 * 3 = a + 6 by omega, show a + 6 + 1 = a + 7 by omega] at a3
  rw [show (3 : Int) % 2 = 1 by decide, show b + 2 * 3 = b + 6 by omega, show b + 6 + 1 = b + 7 by omega] at b3
  have B := fun (c k w s q : Int) (c0 : 0 ≤ c) (c1 : c < f 0) (w0 : 0 ≤ w) (w1 : w ≤ 2) => (show 0 ≤ ceX f c l.toNat q w (exX f c l.toNat q s) ∧ ceX f c l.toNat q w (exX f c l.toNat q s) ≤ 60 * 262144 from by
    have q5 := (h.2.2.1 c c0 c1).1
    have xb := exX_b (f := f) (c := c) (d := l.toNat) (q := q) (s := s) q5.1
    have := ceX_b h (q := q) (d := l.toNat) (w := w) (by omega) c0 c1 xb.1 xb.2 w0 w1
    exact ⟨this.1, this.2.1⟩)
  have W : ∀ (c w s q e w' s' r c2 w2 s2 q2 e2 w3 s3 r2 : Int), 0 ≤ c → c < f 0 → 0 ≤ w → w ≤ 2 → 0 ≤ e → e < f 0 → 0 ≤ w' → w' ≤ 2 → 0 ≤ c2 → c2 < f 0 → 0 ≤ w2 → w2 ≤ 2 → 0 ≤ e2 → e2 < f 0 → 0 ≤ w3 → w3 ≤ 2 → w64 (ceX f c l.toNat q w (exX f c l.toNat q s) * ceX f e l.toNat r w' (exX f e l.toNat r s') - ceX f c2 l.toNat q2 w2 (exX f c2 l.toNat q2 s2) * ceX f e2 l.toNat r2 w3 (exX f e2 l.toNat r2 s3)) = ceX f c l.toNat q w (exX f c l.toNat q s) * ceX f e l.toNat r w' (exX f e l.toNat r s') - ceX f c2 l.toNat q2 w2 (exX f c2 l.toNat q2 s2) * ceX f e2 l.toNat r2 w3 (exX f e2 l.toNat r2 s3) := fun c w s q e w' s' r c2 w2 s2 q2 e2 w3 s3 r2 h1 h2 h3 h4 h5 h6 h7 h8 h9 g1 g2 g3 g4 g5 g6 g7 => by
    have u1 := B c 0 w s q h1 h2 h3 h4
    have u2 := B e 0 w' s' r h5 h6 h7 h8
    have u3 := B c2 0 w2 s2 q2 h9 g1 g2 g3
    have u4 := B e2 0 w3 s3 r2 g4 g5 g6 g7
    have m1 := mu_b (M := 60 * 262144) (N := 60 * 262144) (a := ceX f c l.toNat q w (exX f c l.toNat q s)) (b := ceX f e l.toNat r w' (exX f e l.toNat r s')) (by omega) (by omega)
    have m2 := mu_b (M := 60 * 262144) (N := 60 * 262144) (a := ceX f c2 l.toNat q2 w2 (exX f c2 l.toNat q2 s2)) (b := ceX f e2 l.toNat r2 w3 (exX f e2 l.toNat r2 s3)) (by omega) (by omega)
    exact w64_id (by omega) (by omega)
  have X : ∀ w, 0 ≤ w → w ≤ 1 → ((¬ 0 < w64 (ceX f c l.toNat q w (exX f c l.toNat q w) * ceX f e l.toNat r 2 (exX f e l.toNat r (2 + w)) - ceX f e l.toNat r w (exX f e l.toNat r (2 + w)) * ceX f c l.toNat q 2 (exX f c l.toNat q w)) ∧ ¬ w64 (ceX f c l.toNat q w (exX f c l.toNat q (2 + w)) * ceX f e l.toNat r 2 (exX f e l.toNat r w) - ceX f e l.toNat r w (exX f e l.toNat r w) * ceX f c l.toNat q 2 (exX f c l.toNat q (2 + w))) < 0) ↔ (¬ ceX f c l.toNat q w (exX f c l.toNat q (2 + w)) * ceX f e l.toNat r 2 (exX f e l.toNat r w) < ceX f e l.toNat r w (exX f e l.toNat r w) * ceX f c l.toNat q 2 (exX f c l.toNat q (2 + w)) ∧ ¬ ceX f e l.toNat r w (exX f e l.toNat r (2 + w)) * ceX f c l.toNat q 2 (exX f c l.toNat q w) < ceX f c l.toNat q w (exX f c l.toNat q w) * ceX f e l.toNat r 2 (exX f e l.toNat r (2 + w)))) := fun w w0 w1 => by
    rw [W c w w q e 2 (2 + w) r e w (2 + w) r c 2 w q c0 c1 w0 (by omega) e0 e1 (by decide) (by decide) e0 e1 w0 (by omega) c0 c1 (by decide) (by decide), W c w (2 + w) q e 2 w r e w w r c 2 (2 + w) q c0 c1 w0 (by omega) e0 e1 (by decide) (by decide) e0 e1 w0 (by omega) c0 c1 (by decide) (by decide)]
    omega
  unfold meB meF
  rw [a0.1, a0.2, a1.1, a1.2, a2.1, a2.2, a3.1, a3.2, b0.1, b0.2, b1.1, b1.2, b2.1, b2.2, b3.1, b3.2]
  have X0 := X 0 (by decide) (by decide)
  have X1 := X 1 (by decide) (by decide)
  rw [show (2 : Int) + 0 = 2 by decide] at X0
  rw [show (2 : Int) + 1 = 3 by decide] at X1
  constructor
  · intro z w w0 w1
    rcases (show w = 0 ∨ w = 1 by omega) with rfl | rfl
    · exact X0.mpr z.1
    · exact X1.mpr z.2
  · intro z
    exact ⟨X0.mp (z 0 (by decide) (by decide)), X1.mp (z 1 (by decide) (by decide))⟩
theorem prF_mb {f g : Int → Int} {c e D i j : Int} (h : fgOK f) (D0 : 0 ≤ D) (hD : D ≤ 6) (c0 : 0 ≤ c) (c1 : c < f 0) (e0 : 0 ≤ e) (e1 : e < f 0) (z : bx2 f c e D g) : prF (mbG g) D 7 0 0 0 i j ↔ prX f c e D i j :=
  prF_c (fun l q r l0 l1 q0 q1 r0 r1 => mb_me h (by omega) c0 c1 e0 e1 (z.1 l q l0 l1 q0 q1) (z.2 l r l0 l1 r0 r1)) 7 0 0 0 (Int.le_refl 0) D0 (Int.le_refl 0) (by rw [p2_0]; decide) (Int.le_refl 0) (by rw [p2_0]; decide)
/-- whether a place of the square, told in one number, holds a pair of two curves -/
def prK (f : Int → Int) (c e : Int) : Int → Prop := fun kk => prX f c e (f 3) (kk / p2 (f 3)) (kk % p2 (f 3))
theorem bx2_of {f g1 g2 : Int → Int} {c e D : Int} (hD : D ≤ 6) (h1 : ∀ dd qq, 0 ≤ dd → dd ≤ D → 0 ≤ qq → qq < p2 dd → bxC f c dd qq g1 (0 + 8 * (p2 dd - 1 + qq))) (h2 : ∀ dd qq, 0 ≤ dd → dd ≤ D → 0 ≤ qq → qq < p2 dd → bxC f e dd qq g2 (1016 + 8 * (p2 dd - 1 + qq))) (hk : ∀ i, i < 1016 → g2 i = g1 i) : bx2 f c e D g2 := by
  refine ⟨fun l q l0 l1 q0 q1 => ?_, h2⟩
  have b := ndr (d := l) (q := q) (by omega) q0 q1
  have z := h1 l q l0 l1 q0 q1
  rw [Int.zero_add] at z
  exact bxC_c (fun i i0 i1 => hk i (by omega)) z
theorem sq_b {D : Int} (h0 : 1 ≤ D) (h : D ≤ 6) : (1 ≤ p2 D ∧ p2 D ≤ 64) ∧ 1 ≤ p2 D * p2 D ∧ p2 D * p2 D ≤ 4096 := by
  have a : 1 ≤ p2 D := p2_pos
  have b : p2 D ≤ 64 := p2_le h
  have c := sq64 (S := p2 D) (by omega) b
  have d : 1 * 1 ≤ p2 D * p2 D := Int.mul_le_mul a a (by decide) (by omega)
  omega
theorem sq_k {S k : Int} (hS : 1 ≤ S) (h0 : 0 ≤ k) (h1 : k < S * S) : (0 ≤ k / S ∧ k / S < S) ∧ (0 ≤ k % S ∧ k % S < S) ∧ k / S * S + k % S = k :=
  ⟨⟨Int.ediv_nonneg h0 (by omega), Int.ediv_lt_of_lt_mul (by omega) h1⟩, ⟨Int.emod_nonneg _ (by omega), Int.emod_lt_of_pos _ (by omega)⟩, by rw [Int.mul_comm]; exact Int.mul_ediv_add_emod k _⟩
/-- marks as the pairs of two curves -/
def pkH (f : Int → Int) (c e : Int) (g : Int → Int) : Prop := ∀ k, 0 ≤ k → k < p2 (f 3) * p2 (f 3) → (prK f c e k → g k = 1) ∧ (¬ prK f c e k → g k = 0)
theorem pk_of {f : Int → Int} {c e : Int} {A B : AA} (h : fgOK f) (c0 : 0 ≤ c) (c1 : c < f 0) (e0 : 0 ≤ e) (e1 : e < f 0) (z : bx2 f c e (f 3) (A 38)) (hz : ∀ j, 0 ≤ j → j < p2 (f 3) * p2 (f 3) → A 39 j = 0) (hm : mk3 A B (p2 (f 3)) (prF (mbG (A 38)) (f 3) 7 0 0 0)) : pkH f c e (B 39) := fun k k0 k1 => by
  have q4 := h.2.1.2
  have sb := sq_b q4.1 q4.2
  have sk := sq_k sb.1.1 k0 k1
  have m := hm.2 (k / p2 (f 3)) (k % p2 (f 3)) sk.1.1 sk.1.2 sk.2.1.1 sk.2.1.2
  rw [sk.2.2, hz k k0 k1] at m
  have e9 := prF_mb (i := k / p2 (f 3)) (j := k % p2 (f 3)) h (by omega) q4.2 c0 c1 e0 e1 z
  exact ⟨fun y => m.1 (e9.mpr y), fun y => m.2 (fun x => y (e9.mp x))⟩
theorem pk_w {f g : Int → Int} {c e k : Int} (h : pkH f c e g) (k0 : 0 ≤ k) (k1 : k < p2 (f 3) * p2 (f 3)) : w32 (g k) = 0 ↔ ¬ prK f c e k := by
  have := h k k0 k1
  constructor
  · intro z y
    rw [this.1 y] at z
    exact absurd z (by decide)
  · intro z
    rw [this.2 z]; rfl
def pqP (A B : AA) (c e : Int) : Prop := (∀ b i, b ≠ 32 ∧ b ≠ 33 ∧ b ≠ 38 ∧ b ≠ 39 → B b i = A b i) ∧ pkH (mF A) c e (B 39)
theorem fr_f {A B : AA} (h : ∀ b i, b ≠ 32 ∧ b ≠ 33 ∧ b ≠ 38 ∧ b ≠ 39 → B b i = A b i) : mF B = mF A := mF_c (funext fun i => h 2 i (by decide)) (funext fun i => h 27 i (by decide)) (funext fun i => h 29 i (by decide))
noncomputable def pkX (f : Int → Int) (c e k : Int) : Int := if pkQ (prK f c e) k (Int.toNat (p2 (f 3) * p2 (f 3))) = -1 then -1 else 100 * (pkQ (prK f c e) k (Int.toNat (p2 (f 3) * p2 (f 3))) / p2 (f 3)) + pkQ (prK f c e) k (Int.toNat (p2 (f 3) * p2 (f 3))) % p2 (f 3)
theorem pkX_no {f : Int → Int} {c e k : Int} (h : k < 0 ∨ cntQ (prK f c e) (Int.toNat (p2 (f 3) * p2 (f 3))) ≤ k) : pkX f c e k = -1 := if_pos (pkQ_no _ h)
theorem pkX_is {f : Int → Int} {c e k t : Int} (t0 : 0 ≤ t) (t1 : t < p2 (f 3) * p2 (f 3)) (h : prK f c e t) (h2 : cntQ (prK f c e) (Int.toNat (t + 1)) = k + 1) : pkX f c e k = 100 * (t / p2 (f 3)) + t % p2 (f 3) := by
  have e9 : pkQ (prK f c e) k (Int.toNat (p2 (f 3) * p2 (f 3))) = t := by
    have h3 := cntQ_t t0 h
    have a := pkQ_is (p := prK f c e) (k := k) (at_ := t.toNat) (by rw [show ((t.toNat : Nat) : Int) = t by omega]; exact h) (by omega) (Int.toNat (p2 (f 3) * p2 (f 3))) (by omega)
    omega
  unfold pkX
  rw [e9, if_neg (by omega)]
