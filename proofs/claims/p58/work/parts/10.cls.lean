/-! the constant pools as tables; the cells of the world; what the words say of each method (written by gencls.py) -/
theorem am_tb_r (ws : List Cond) (ps : List Nat) (hp : ws = ps.filterMap (fun i => lw_tbl[i]?)) (h : ws.all goodWord = true) : ∀ w ∈ ws, w ∈ am_tb := by
  intro w hw
  have h1 := List.all_eq_true.mp h w hw
  rw [hp] at hw
  obtain ⟨i, -, hi⟩ := List.mem_filterMap.mp hw
  exact am_tb_in (List.mem_of_getElem? hi) (by unfold am_gw; rw [h1]; rfl)
theorem q_cons {α : Type} {P : Nat → α → Prop} {k0 : Nat} {a0 : α} {rest : Nat → Option α} (h : P k0 a0) (hr : ∀ k a, rest k = some a → P k a) : ∀ k a, (cond (Nat.beq k k0) (some a0) (rest k)) = some a → P k a := by
  intro k a hk
  cases hb : Nat.beq k k0 with
  | true =>
    rw [hb] at hk
    have e := Nat.eq_of_beq_eq_true hb
    subst e
    cases hk
    exact h
  | false => rw [hb] at hk; exact hr k a hk
theorem q_nil {α : Type} {P : Nat → α → Prop} : ∀ k a, ((none : Option α)) = some a → P k a := fun _ _ h => by cases h
abbrev qmP (own : String) (k n : Nat) : Prop := (n = 1 → Cond.methodLink own k Lib.Math.min.name ∈ am_tb) ∧ (n = 2 → Cond.methodLink own k Lib.Math.max.name ∈ am_tb) ∧ (n = 3 → False) ∧ (n = 4 → Cond.methodLink own k arraycopyName ∈ am_tb)
theorem qm_nil {own : String} : ∀ k, qmP own k 0 := fun _ => ⟨(fun h => by cases h), (fun h => by cases h), (fun h => by cases h), (fun h => by cases h)⟩
theorem qm_cons {own : String} {k0 n0 : Nat} {rest : Nat → Nat} (h : qmP own k0 n0) (hr : ∀ k, qmP own k (rest k)) : ∀ k, qmP own k (cond (Nat.beq k k0) n0 (rest k)) := by
  intro k
  cases hb : Nat.beq k k0 with
  | true =>
    have e := Nat.eq_of_beq_eq_true hb
    subst e
    exact h
  | false => exact hr k
/-- what the words say of a method: its code, its class, its kind -/
def am_mb (e1 : CE) : Prop :=
  Cond.code (ceY e1) (ceB e1) (ceM e1) (ceR e1) ∈ am_tb ∧ Cond.initialized (ceY e1).cls ∈ am_tb ∧
  ((ceY e1).cls ≠ "java/lang/invoke/MethodHandle" ∧ (ceY e1).cls ≠ "java/lang/invoke/VarHandle" ∧ (parseMethodDescriptor (ceY e1).desc).map (fun d => d.parameters.length) = some (ceN e1)) ∧ ceM e1 ≤ 29 ∧
  match ceC e1 with
  | none => Cond.static (ceY e1) ∈ am_tb
  | some ci => Cond.instanceMethod (ceY e1) ∈ am_tb ∧ Cond.selects (ceY e1).cls (ceY e1) (ceY e1) ∈ am_tb ∧ ∃ T N, vwCl[ci]? = some ((ceY e1).cls, T, N)
theorem am_calV {l : Launch} {lay : List LC} {own : String} {lvO k : Nat} {e1 : CE} (hCT : am_CT l lay e1) (hb : am_mb e1) (hlv : ceL e1 + 1 ≤ lvO) {ci : Nat} (hC : ceC e1 = some ci) (hk : Cond.methodLink own k (ceY e1) ∈ am_tb) {Z : Option (Int × (Int → Int))} (hH : ceH e1 = none ∨ ceH e1 = Z := by first | exact Or.inl rfl | exact Or.inr rfl) : am_cal l lay own lvO k e1 Z := by
  obtain ⟨b1, b2, b3, b4, b5⟩ := hb
  unfold am_cal
  rw [hC] at b5 ⊢
  exact ⟨hCT, b1, b2, b3, b4, hlv, hH, b5.1, b5.2.1, hk, b5.2.2⟩
theorem am_calS {l : Launch} {lay : List LC} {own : String} {lvO k : Nat} {e1 : CE} (hCT : am_CT l lay e1) (hb : am_mb e1) (hlv : ceL e1 + 1 ≤ lvO) (hC : ceC e1 = none) (hT : ceT e1 ≠ 1) (hk : Cond.methodLink own k (ceY e1) ∈ am_tb) {Z : Option (Int × (Int → Int))} (hH : ceH e1 = none ∨ ceH e1 = Z := by first | exact Or.inl rfl | exact Or.inr rfl) : am_cal l lay own lvO k e1 Z := by
  obtain ⟨b1, b2, b3, b4, b5⟩ := hb
  unfold am_cal
  rw [hC] at b5 ⊢
  exact ⟨hCT, b1, b2, b3, b4, hlv, hH, b5, Or.inl ⟨hk, hT⟩⟩
theorem am_calN {l : Launch} {lay : List LC} {own host : String} {lvO k : Nat} {e1 : CE} (hCT : am_CT l lay e1) (hb : am_mb e1) (hlv : ceL e1 + 1 ≤ lvO) (hC : ceC e1 = none) (hT : ceT e1 = 0) (hk : Cond.methodLinkNest own k (ceY e1) host ∈ am_tb) {Z : Option (Int × (Int → Int))} (hH : ceH e1 = none ∨ ceH e1 = Z := by first | exact Or.inl rfl | exact Or.inr rfl) : am_cal l lay own lvO k e1 Z := by
  obtain ⟨b1, b2, b3, b4, b5⟩ := hb
  unfold am_cal
  rw [hC] at b5 ⊢
  exact ⟨hCT, b1, b2, b3, b4, hlv, hH, b5, Or.inr ⟨hT, host, hk⟩⟩
theorem am_CT_mono {l : Launch} {lay lay' : List LC} {e1 : CE} (h : lay <+: lay') (hc : am_CT l lay e1) : am_CT l lay' e1 := fun layW hp => hc layW (List.IsPrefix.trans h hp)
def layX : List LC := [.inl (8, [some 1, some 3, some 5, some 7, some 9, some 14, some 19, some 22, some 24, none]), .inl (2, [some 2]), .inr (0, 140), .inl (2, [some 4]), .inr (0, 140), .inl (3, [some 6, none, none]), .inr (0, 1400), .inl (7, [some 8, none, none, none, none, none, none, none]), .inr (2, 800), .inl (1, [some 10, some 11, some 12, some 13]), .inr (1, 12192), .inr (0, 4064), .inr (0, 8), .inr (0, 8), .inl (5, [some 15, some 16, some 17, some 18, none, none]), .inr (1, 52), .inr (0, 8), .inr (0, 8), .inr (0, 8), .inl (6, [some 20, some 21, none, none, none, none, none]), .inr (0, 4096), .inr (0, 4096), .inl (4, [some 23, none]), .inr (0, 4), .inl (0, [none, none, none, none, none, none])]
theorem layX_ok : am_lok layX = true := by decide +kernel
theorem qwX0 : ∀ w ∈ u_ws RX0 TX0 6, w ∈ am_tb := am_tb_r _ [230, 232, 234, 236, 238, 240] (by decide +kernel) (by decide +kernel)
theorem qwX1 : ∀ w ∈ u_ws RX1 TX1 4, w ∈ am_tb := am_tb_r _ [154, 156, 158, 160] (by decide +kernel) (by decide +kernel)
theorem qwX2 : ∀ w ∈ u_ws RX2 TX2 1, w ∈ am_tb := am_tb_r _ [92] (by decide +kernel) (by decide +kernel)
theorem qwX3 : ∀ w ∈ u_ws RX3 TX3 3, w ∈ am_tb := am_tb_r _ [105, 107, 109] (by decide +kernel) (by decide +kernel)
theorem qwX4 : ∀ w ∈ u_ws RX4 TX4 2, w ∈ am_tb := am_tb_r _ [219, 221] (by decide +kernel) (by decide +kernel)
theorem qwX5 : ∀ w ∈ u_ws RX5 TX5 6, w ∈ am_tb := am_tb_r _ [176, 178, 180, 182, 184, 186] (by decide +kernel) (by decide +kernel)
theorem qwX6 : ∀ w ∈ u_ws RX6 TX6 7, w ∈ am_tb := am_tb_r _ [197, 199, 201, 203, 205, 207, 209] (by decide +kernel) (by decide +kernel)
theorem qwX7 : ∀ w ∈ u_ws RX7 TX7 8, w ∈ am_tb := am_tb_r _ [126, 128, 130, 132, 134, 136, 138, 140] (by decide +kernel) (by decide +kernel)
theorem qwX8 : ∀ w ∈ u_ws RX8 TX8 10, w ∈ am_tb := am_tb_r _ [264, 266, 268, 270, 272, 274, 276, 278, 280, 282] (by decide +kernel) (by decide +kernel)
theorem qwJ0 : ∀ w ∈ u_ws RJ0 TJ0 4, w ∈ am_tb := am_tb_r _ [524, 526, 528, 530] (by decide +kernel) (by decide +kernel)
theorem qwJ4 : ∀ w ∈ u_ws RJ4 TJ4 4, w ∈ am_tb := am_tb_r _ [310, 312, 314, 316] (by decide +kernel) (by decide +kernel)
def qfX0 : Nat → Option (Nat × Nat × Bool) := fun k => none
theorem qfX0_ok : ∀ k ci j w, qfX0 k = some (ci, j, w) → am_fok RX0 am_tb k ci j w := fun k ci j w h => (q_nil : ∀ k (a : Nat × Nat × Bool), qfX0 k = some a → (fun k (a : Nat × Nat × Bool) => am_fok RX0 am_tb k a.1 a.2.1 a.2.2) k a) k (ci, j, w) h
def qcX0 : Nat → Option Int := fun k => none
theorem qcX0_ok : ∀ k v, qcX0 k = some v → Cond.constant RX0 k (Int32.ofInt v) ∈ am_tb := q_nil
def qlX0 : Nat → Option Int := fun k => none
theorem qlX0_ok : ∀ k v, qlX0 k = some v → Cond.constantLong RX0 k (Int64.ofInt v) ∈ am_tb := q_nil
def qmX0 : Nat → Nat := fun k => 0
theorem qmX0_ok : ∀ k, qmP RX0 k (qmX0 k) := qm_nil
def qfX1 : Nat → Option (Nat × Nat × Bool) := fun k => cond (Nat.beq k 11) (some (1, 0, false)) (cond (Nat.beq k 15) (some (1, 1, false)) (cond (Nat.beq k 19) (some (1, 2, false)) (cond (Nat.beq k 22) (some (1, 3, false)) (none))))
theorem qfX1_ok : ∀ k ci j w, qfX1 k = some (ci, j, w) → am_fok RX1 am_tb k ci j w := fun k ci j w h => (q_cons (⟨RX1, TX1, 4, tyX1, rfl, by decide, qwX1, am_tb_at 150 (by decide +kernel) rfl, tyX1_ok, nmX1, fun h => by cases h⟩) (q_cons (⟨RX1, TX1, 4, tyX1, rfl, by decide, qwX1, am_tb_at 151 (by decide +kernel) rfl, tyX1_ok, nmX1, fun h => by cases h⟩) (q_cons (⟨RX1, TX1, 4, tyX1, rfl, by decide, qwX1, am_tb_at 152 (by decide +kernel) rfl, tyX1_ok, nmX1, fun h => by cases h⟩) (q_cons (⟨RX1, TX1, 4, tyX1, rfl, by decide, qwX1, am_tb_at 153 (by decide +kernel) rfl, tyX1_ok, nmX1, fun h => by cases h⟩) (q_nil)))) : ∀ k (a : Nat × Nat × Bool), qfX1 k = some a → (fun k (a : Nat × Nat × Bool) => am_fok RX1 am_tb k a.1 a.2.1 a.2.2) k a) k (ci, j, w) h
def qcX1 : Nat → Option Int := fun k => none
theorem qcX1_ok : ∀ k v, qcX1 k = some v → Cond.constant RX1 k (Int32.ofInt v) ∈ am_tb := q_nil
def qlX1 : Nat → Option Int := fun k => none
theorem qlX1_ok : ∀ k v, qlX1 k = some v → Cond.constantLong RX1 k (Int64.ofInt v) ∈ am_tb := q_nil
def qmX1 : Nat → Nat := fun k => 0
theorem qmX1_ok : ∀ k, qmP RX1 k (qmX1 k) := qm_nil
def qfX2 : Nat → Option (Nat × Nat × Bool) := fun k => cond (Nat.beq k 11) (some (2, 0, false)) (none)
theorem qfX2_ok : ∀ k ci j w, qfX2 k = some (ci, j, w) → am_fok RX2 am_tb k ci j w := fun k ci j w h => (q_cons (⟨RX2, TX2, 1, tyX2, rfl, by decide, qwX2, am_tb_at 91 (by decide +kernel) rfl, tyX2_ok, nmX2, fun h => by cases h⟩) (q_nil) : ∀ k (a : Nat × Nat × Bool), qfX2 k = some a → (fun k (a : Nat × Nat × Bool) => am_fok RX2 am_tb k a.1 a.2.1 a.2.2) k a) k (ci, j, w) h
def qcX2 : Nat → Option Int := fun k => none
theorem qcX2_ok : ∀ k v, qcX2 k = some v → Cond.constant RX2 k (Int32.ofInt v) ∈ am_tb := q_nil
def qlX2 : Nat → Option Int := fun k => none
theorem qlX2_ok : ∀ k v, qlX2 k = some v → Cond.constantLong RX2 k (Int64.ofInt v) ∈ am_tb := q_nil
def qmX2 : Nat → Nat := fun k => cond (Nat.beq k 25) 4 (0)
theorem qmX2_ok : ∀ k, qmP RX2 k (qmX2 k) := qm_cons ⟨(fun h => by cases h), (fun h => by cases h), (fun h => by cases h), (fun _ => am_tb_at 757 (by decide +kernel) rfl)⟩ (qm_nil)
def qfX3 : Nat → Option (Nat × Nat × Bool) := fun k => cond (Nat.beq k 11) (some (3, 0, false)) (cond (Nat.beq k 17) (some (3, 2, true)) (cond (Nat.beq k 21) (some (3, 1, true)) (none)))
theorem qfX3_ok : ∀ k ci j w, qfX3 k = some (ci, j, w) → am_fok RX3 am_tb k ci j w := fun k ci j w h => (q_cons (⟨RX3, TX3, 3, tyX3, rfl, by decide, qwX3, am_tb_at 102 (by decide +kernel) rfl, tyX3_ok, nmX3, fun h => by cases h⟩) (q_cons (⟨RX3, TX3, 3, tyX3, rfl, by decide, qwX3, am_tb_at 104 (by decide +kernel) rfl, tyX3_ok, nmX3, fun _ => ⟨rfl, by decide +kernel⟩⟩) (q_cons (⟨RX3, TX3, 3, tyX3, rfl, by decide, qwX3, am_tb_at 103 (by decide +kernel) rfl, tyX3_ok, nmX3, fun _ => ⟨rfl, by decide +kernel⟩⟩) (q_nil))) : ∀ k (a : Nat × Nat × Bool), qfX3 k = some a → (fun k (a : Nat × Nat × Bool) => am_fok RX3 am_tb k a.1 a.2.1 a.2.2) k a) k (ci, j, w) h
def qcX3 : Nat → Option Int := fun k => none
theorem qcX3_ok : ∀ k v, qcX3 k = some v → Cond.constant RX3 k (Int32.ofInt v) ∈ am_tb := q_nil
def qlX3 : Nat → Option Int := fun k => none
theorem qlX3_ok : ∀ k v, qlX3 k = some v → Cond.constantLong RX3 k (Int64.ofInt v) ∈ am_tb := q_nil
def qmX3 : Nat → Nat := fun k => 0
theorem qmX3_ok : ∀ k, qmP RX3 k (qmX3 k) := qm_nil
def qfX4 : Nat → Option (Nat × Nat × Bool) := fun k => cond (Nat.beq k 9) (some (4, 0, false)) (none)
theorem qfX4_ok : ∀ k ci j w, qfX4 k = some (ci, j, w) → am_fok RX4 am_tb k ci j w := fun k ci j w h => (q_cons (⟨RX4, TX4, 2, tyX4, rfl, by decide, qwX4, am_tb_at 218 (by decide +kernel) rfl, tyX4_ok, nmX4, fun h => by cases h⟩) (q_nil) : ∀ k (a : Nat × Nat × Bool), qfX4 k = some a → (fun k (a : Nat × Nat × Bool) => am_fok RX4 am_tb k a.1 a.2.1 a.2.2) k a) k (ci, j, w) h
def qcX4 : Nat → Option Int := fun k => none
theorem qcX4_ok : ∀ k v, qcX4 k = some v → Cond.constant RX4 k (Int32.ofInt v) ∈ am_tb := q_nil
def qlX4 : Nat → Option Int := fun k => none
theorem qlX4_ok : ∀ k v, qlX4 k = some v → Cond.constantLong RX4 k (Int64.ofInt v) ∈ am_tb := q_nil
def qmX4 : Nat → Nat := fun k => 0
theorem qmX4_ok : ∀ k, qmP RX4 k (qmX4 k) := qm_nil
def qfX5 : Nat → Option (Nat × Nat × Bool) := fun k => cond (Nat.beq k 9) (some (5, 0, false)) (cond (Nat.beq k 15) (some (5, 1, false)) (cond (Nat.beq k 19) (some (5, 2, false)) (cond (Nat.beq k 22) (some (5, 3, false)) (cond (Nat.beq k 31) (some (5, 4, true)) (cond (Nat.beq k 66) (some (5, 5, true)) (none))))))
theorem qfX5_ok : ∀ k ci j w, qfX5 k = some (ci, j, w) → am_fok RX5 am_tb k ci j w := fun k ci j w h => (q_cons (⟨RX5, TX5, 6, tyX5, rfl, by decide, qwX5, am_tb_at 170 (by decide +kernel) rfl, tyX5_ok, nmX5, fun h => by cases h⟩) (q_cons (⟨RX5, TX5, 6, tyX5, rfl, by decide, qwX5, am_tb_at 171 (by decide +kernel) rfl, tyX5_ok, nmX5, fun h => by cases h⟩) (q_cons (⟨RX5, TX5, 6, tyX5, rfl, by decide, qwX5, am_tb_at 172 (by decide +kernel) rfl, tyX5_ok, nmX5, fun h => by cases h⟩) (q_cons (⟨RX5, TX5, 6, tyX5, rfl, by decide, qwX5, am_tb_at 173 (by decide +kernel) rfl, tyX5_ok, nmX5, fun h => by cases h⟩) (q_cons (⟨RX5, TX5, 6, tyX5, rfl, by decide, qwX5, am_tb_at 174 (by decide +kernel) rfl, tyX5_ok, nmX5, fun _ => ⟨rfl, by decide +kernel⟩⟩) (q_cons (⟨RX5, TX5, 6, tyX5, rfl, by decide, qwX5, am_tb_at 175 (by decide +kernel) rfl, tyX5_ok, nmX5, fun _ => ⟨rfl, by decide +kernel⟩⟩) (q_nil)))))) : ∀ k (a : Nat × Nat × Bool), qfX5 k = some a → (fun k (a : Nat × Nat × Bool) => am_fok RX5 am_tb k a.1 a.2.1 a.2.2) k a) k (ci, j, w) h
def qcX5 : Nat → Option Int := fun k => none
theorem qcX5_ok : ∀ k v, qcX5 k = some v → Cond.constant RX5 k (Int32.ofInt v) ∈ am_tb := q_nil
def qlX5 : Nat → Option Int := fun k => cond (Nat.beq k 113) (some (2)) (cond (Nat.beq k 115) (some (3)) (cond (Nat.beq k 117) (some (4)) (cond (Nat.beq k 123) (some (18)) (cond (Nat.beq k 125) (some (27)) (cond (Nat.beq k 127) (some (9)) (none))))))
theorem qlX5_ok : ∀ k v, qlX5 k = some v → Cond.constantLong RX5 k (Int64.ofInt v) ∈ am_tb := q_cons (am_tb_at 1186 (by decide +kernel) rfl) (q_cons (am_tb_at 1187 (by decide +kernel) rfl) (q_cons (am_tb_at 1192 (by decide +kernel) rfl) (q_cons (am_tb_at 1191 (by decide +kernel) rfl) (q_cons (am_tb_at 1193 (by decide +kernel) rfl) (q_cons (am_tb_at 1197 (by decide +kernel) rfl) (q_nil))))))
def qmX5 : Nat → Nat := fun k => 0
theorem qmX5_ok : ∀ k, qmP RX5 k (qmX5 k) := qm_nil
def qfX6 : Nat → Option (Nat × Nat × Bool) := fun k => cond (Nat.beq k 11) (some (6, 0, false)) (cond (Nat.beq k 15) (some (6, 1, false)) (none))
theorem qfX6_ok : ∀ k ci j w, qfX6 k = some (ci, j, w) → am_fok RX6 am_tb k ci j w := fun k ci j w h => (q_cons (⟨RX6, TX6, 7, tyX6, rfl, by decide, qwX6, am_tb_at 195 (by decide +kernel) rfl, tyX6_ok, nmX6, fun h => by cases h⟩) (q_cons (⟨RX6, TX6, 7, tyX6, rfl, by decide, qwX6, am_tb_at 196 (by decide +kernel) rfl, tyX6_ok, nmX6, fun h => by cases h⟩) (q_nil)) : ∀ k (a : Nat × Nat × Bool), qfX6 k = some a → (fun k (a : Nat × Nat × Bool) => am_fok RX6 am_tb k a.1 a.2.1 a.2.2) k a) k (ci, j, w) h
def qcX6 : Nat → Option Int := fun k => none
theorem qcX6_ok : ∀ k v, qcX6 k = some v → Cond.constant RX6 k (Int32.ofInt v) ∈ am_tb := q_nil
def qlX6 : Nat → Option Int := fun k => none
theorem qlX6_ok : ∀ k v, qlX6 k = some v → Cond.constantLong RX6 k (Int64.ofInt v) ∈ am_tb := q_nil
def qmX6 : Nat → Nat := fun k => 0
theorem qmX6_ok : ∀ k, qmP RX6 k (qmX6 k) := qm_nil
def qfX7 : Nat → Option (Nat × Nat × Bool) := fun k => cond (Nat.beq k 9) (some (7, 0, false)) (cond (Nat.beq k 15) (some (7, 1, true)) (cond (Nat.beq k 19) (some (7, 3, true)) (cond (Nat.beq k 22) (some (7, 2, true)) (cond (Nat.beq k 25) (some (7, 4, true)) (cond (Nat.beq k 28) (some (7, 7, true)) (cond (Nat.beq k 39) (some (7, 5, true)) (cond (Nat.beq k 69) (some (7, 6, true)) (none))))))))
theorem qfX7_ok : ∀ k ci j w, qfX7 k = some (ci, j, w) → am_fok RX7 am_tb k ci j w := fun k ci j w h => (q_cons (⟨RX7, TX7, 8, tyX7, rfl, by decide, qwX7, am_tb_at 118 (by decide +kernel) rfl, tyX7_ok, nmX7, fun h => by cases h⟩) (q_cons (⟨RX7, TX7, 8, tyX7, rfl, by decide, qwX7, am_tb_at 119 (by decide +kernel) rfl, tyX7_ok, nmX7, fun _ => ⟨rfl, by decide +kernel⟩⟩) (q_cons (⟨RX7, TX7, 8, tyX7, rfl, by decide, qwX7, am_tb_at 121 (by decide +kernel) rfl, tyX7_ok, nmX7, fun _ => ⟨rfl, by decide +kernel⟩⟩) (q_cons (⟨RX7, TX7, 8, tyX7, rfl, by decide, qwX7, am_tb_at 120 (by decide +kernel) rfl, tyX7_ok, nmX7, fun _ => ⟨rfl, by decide +kernel⟩⟩) (q_cons (⟨RX7, TX7, 8, tyX7, rfl, by decide, qwX7, am_tb_at 122 (by decide +kernel) rfl, tyX7_ok, nmX7, fun _ => ⟨rfl, by decide +kernel⟩⟩) (q_cons (⟨RX7, TX7, 8, tyX7, rfl, by decide, qwX7, am_tb_at 125 (by decide +kernel) rfl, tyX7_ok, nmX7, fun _ => ⟨rfl, by decide +kernel⟩⟩) (q_cons (⟨RX7, TX7, 8, tyX7, rfl, by decide, qwX7, am_tb_at 123 (by decide +kernel) rfl, tyX7_ok, nmX7, fun _ => ⟨rfl, by decide +kernel⟩⟩) (q_cons (⟨RX7, TX7, 8, tyX7, rfl, by decide, qwX7, am_tb_at 124 (by decide +kernel) rfl, tyX7_ok, nmX7, fun _ => ⟨rfl, by decide +kernel⟩⟩) (q_nil)))))))) : ∀ k (a : Nat × Nat × Bool), qfX7 k = some a → (fun k (a : Nat × Nat × Bool) => am_fok RX7 am_tb k a.1 a.2.1 a.2.2) k a) k (ci, j, w) h
def qcX7 : Nat → Option Int := fun k => cond (Nat.beq k 46) (some (123295904)) (cond (Nat.beq k 54) (some (412554240)) (cond (Nat.beq k 58) (some (643432448)) (cond (Nat.beq k 104) (some (412526208)) (cond (Nat.beq k 105) (some (140005632)) (cond (Nat.beq k 143) (some (100000)) (none))))))
theorem qcX7_ok : ∀ k v, qcX7 k = some v → Cond.constant RX7 k (Int32.ofInt v) ∈ am_tb := q_cons (am_tb_at 646 (by decide +kernel) rfl) (q_cons (am_tb_at 670 (by decide +kernel) rfl) (q_cons (am_tb_at 671 (by decide +kernel) rfl) (q_cons (am_tb_at 672 (by decide +kernel) rfl) (q_cons (am_tb_at 673 (by decide +kernel) rfl) (q_cons (am_tb_at 641 (by decide +kernel) rfl) (q_nil))))))
def qlX7 : Nat → Option Int := fun k => none
theorem qlX7_ok : ∀ k v, qlX7 k = some v → Cond.constantLong RX7 k (Int64.ofInt v) ∈ am_tb := q_nil
def qmX7 : Nat → Nat := fun k => 0
theorem qmX7_ok : ∀ k, qmP RX7 k (qmX7 k) := qm_nil
def qfX8 : Nat → Option (Nat × Nat × Bool) := fun k => cond (Nat.beq k 10) (some (8, 0, false)) (cond (Nat.beq k 16) (some (8, 1, false)) (cond (Nat.beq k 22) (some (8, 2, false)) (cond (Nat.beq k 29) (some (8, 3, false)) (cond (Nat.beq k 36) (some (8, 4, false)) (cond (Nat.beq k 43) (some (8, 5, false)) (cond (Nat.beq k 50) (some (8, 6, false)) (cond (Nat.beq k 57) (some (8, 7, false)) (cond (Nat.beq k 64) (some (8, 8, false)) (cond (Nat.beq k 68) (some (8, 9, true)) (none))))))))))
theorem qfX8_ok : ∀ k ci j w, qfX8 k = some (ci, j, w) → am_fok RX8 am_tb k ci j w := fun k ci j w h => (q_cons (⟨RX8, TX8, 10, tyX8, rfl, by decide, qwX8, am_tb_at 254 (by decide +kernel) rfl, tyX8_ok, nmX8, fun h => by cases h⟩) (q_cons (⟨RX8, TX8, 10, tyX8, rfl, by decide, qwX8, am_tb_at 255 (by decide +kernel) rfl, tyX8_ok, nmX8, fun h => by cases h⟩) (q_cons (⟨RX8, TX8, 10, tyX8, rfl, by decide, qwX8, am_tb_at 256 (by decide +kernel) rfl, tyX8_ok, nmX8, fun h => by cases h⟩) (q_cons (⟨RX8, TX8, 10, tyX8, rfl, by decide, qwX8, am_tb_at 257 (by decide +kernel) rfl, tyX8_ok, nmX8, fun h => by cases h⟩) (q_cons (⟨RX8, TX8, 10, tyX8, rfl, by decide, qwX8, am_tb_at 258 (by decide +kernel) rfl, tyX8_ok, nmX8, fun h => by cases h⟩) (q_cons (⟨RX8, TX8, 10, tyX8, rfl, by decide, qwX8, am_tb_at 259 (by decide +kernel) rfl, tyX8_ok, nmX8, fun h => by cases h⟩) (q_cons (⟨RX8, TX8, 10, tyX8, rfl, by decide, qwX8, am_tb_at 260 (by decide +kernel) rfl, tyX8_ok, nmX8, fun h => by cases h⟩) (q_cons (⟨RX8, TX8, 10, tyX8, rfl, by decide, qwX8, am_tb_at 261 (by decide +kernel) rfl, tyX8_ok, nmX8, fun h => by cases h⟩) (q_cons (⟨RX8, TX8, 10, tyX8, rfl, by decide, qwX8, am_tb_at 262 (by decide +kernel) rfl, tyX8_ok, nmX8, fun h => by cases h⟩) (q_cons (⟨RX8, TX8, 10, tyX8, rfl, by decide, qwX8, am_tb_at 263 (by decide +kernel) rfl, tyX8_ok, nmX8, fun _ => ⟨rfl, by decide +kernel⟩⟩) (q_nil)))))))))) : ∀ k (a : Nat × Nat × Bool), qfX8 k = some a → (fun k (a : Nat × Nat × Bool) => am_fok RX8 am_tb k a.1 a.2.1 a.2.2) k a) k (ci, j, w) h
def qcX8 : Nat → Option Int := fun k => cond (Nat.beq k 198) (some (-100000)) (none)
theorem qcX8_ok : ∀ k v, qcX8 k = some v → Cond.constant RX8 k (Int32.ofInt v) ∈ am_tb := q_cons (am_tb_at 1104 (by decide +kernel) rfl) (q_nil)
def qlX8 : Nat → Option Int := fun k => cond (Nat.beq k 151) (some (-1)) (cond (Nat.beq k 175) (some (100)) (none))
theorem qlX8_ok : ∀ k v, qlX8 k = some v → Cond.constantLong RX8 k (Int64.ofInt v) ∈ am_tb := q_cons (am_tb_at 995 (by decide +kernel) rfl) (q_cons (am_tb_at 1077 (by decide +kernel) rfl) (q_nil))
def qmX8 : Nat → Nat := fun k => 0
theorem qmX8_ok : ∀ k, qmP RX8 k (qmX8 k) := qm_nil
def qfL : Nat → Option (Nat × Nat × Bool) := fun k => none
theorem qfL_ok : ∀ k ci j w, qfL k = some (ci, j, w) → am_fok RL am_tb k ci j w := fun k ci j w h => (q_nil : ∀ k (a : Nat × Nat × Bool), qfL k = some a → (fun k (a : Nat × Nat × Bool) => am_fok RL am_tb k a.1 a.2.1 a.2.2) k a) k (ci, j, w) h
def qcL : Nat → Option Int := fun k => cond (Nat.beq k 7) (some (2147483647)) (cond (Nat.beq k 144) (some (32768)) (none))
theorem qcL_ok : ∀ k v, qcL k = some v → Cond.constant RL k (Int32.ofInt v) ∈ am_tb := q_cons (am_tb_at 67 (by decide +kernel) rfl) (q_cons (am_tb_at 925 (by decide +kernel) rfl) (q_nil))
def qlL : Nat → Option Int := fun k => cond (Nat.beq k 151) (some (2)) (cond (Nat.beq k 153) (some (3)) (cond (Nat.beq k 173) (some (4)) (cond (Nat.beq k 185) (some (100)) (cond (Nat.beq k 219) (some (-1)) (cond (Nat.beq k 233) (some (16)) (none))))))
theorem qlL_ok : ∀ k v, qlL k = some v → Cond.constantLong RL k (Int64.ofInt v) ∈ am_tb := q_cons (am_tb_at 1051 (by decide +kernel) rfl) (q_cons (am_tb_at 1052 (by decide +kernel) rfl) (q_cons (am_tb_at 1053 (by decide +kernel) rfl) (q_cons (am_tb_at 1078 (by decide +kernel) rfl) (q_cons (am_tb_at 1201 (by decide +kernel) rfl) (q_cons (am_tb_at 1234 (by decide +kernel) rfl) (q_nil))))))
def qmL : Nat → Nat := fun k => 0
theorem qmL_ok : ∀ k, qmP RL k (qmL k) := qm_nil
def qfJ0 : Nat → Option (Nat × Nat × Bool) := fun k => cond (Nat.beq k 9) (some (9, 0, false)) (cond (Nat.beq k 15) (some (9, 1, false)) (cond (Nat.beq k 1048) (some (10, 2, false)) (none)))
theorem qfJ0_ok : ∀ k ci j w, qfJ0 k = some (ci, j, w) → am_fok RJ0 am_tb k ci j w := fun k ci j w h => (q_cons (⟨RJ0, TJ0, 4, tyJ0, rfl, by decide, qwJ0, am_tb_at 522 (by decide +kernel) rfl, tyJ0_ok, nmJ0, fun h => by cases h⟩) (q_cons (⟨RJ0, TJ0, 4, tyJ0, rfl, by decide, qwJ0, am_tb_at 523 (by decide +kernel) rfl, tyJ0_ok, nmJ0, fun h => by cases h⟩) (q_cons (⟨RJ4, TJ4, 4, tyJ4, rfl, by decide, qwJ4, am_tb_at 308 (by decide +kernel) rfl, tyJ4_ok, nmJ4, fun h => by cases h⟩) (q_nil))) : ∀ k (a : Nat × Nat × Bool), qfJ0 k = some a → (fun k (a : Nat × Nat × Bool) => am_fok RJ0 am_tb k a.1 a.2.1 a.2.2) k a) k (ci, j, w) h
def qcJ0 : Nat → Option Int := fun k => none
theorem qcJ0_ok : ∀ k v, qcJ0 k = some v → Cond.constant RJ0 k (Int32.ofInt v) ∈ am_tb := q_nil
def qlJ0 : Nat → Option Int := fun k => none
theorem qlJ0_ok : ∀ k v, qlJ0 k = some v → Cond.constantLong RJ0 k (Int64.ofInt v) ∈ am_tb := q_nil
def qmJ0 : Nat → Nat := fun k => cond (Nat.beq k 212) 4 (0)
theorem qmJ0_ok : ∀ k, qmP RJ0 k (qmJ0 k) := qm_cons ⟨(fun h => by cases h), (fun h => by cases h), (fun h => by cases h), (fun _ => am_tb_at 438 (by decide +kernel) rfl)⟩ (qm_nil)
def qfJ1 : Nat → Option (Nat × Nat × Bool) := fun k => none
theorem qfJ1_ok : ∀ k ci j w, qfJ1 k = some (ci, j, w) → am_fok RJ1 am_tb k ci j w := fun k ci j w h => (q_nil : ∀ k (a : Nat × Nat × Bool), qfJ1 k = some a → (fun k (a : Nat × Nat × Bool) => am_fok RJ1 am_tb k a.1 a.2.1 a.2.2) k a) k (ci, j, w) h
def qcJ1 : Nat → Option Int := fun k => none
theorem qcJ1_ok : ∀ k v, qcJ1 k = some v → Cond.constant RJ1 k (Int32.ofInt v) ∈ am_tb := q_nil
def qlJ1 : Nat → Option Int := fun k => none
theorem qlJ1_ok : ∀ k v, qlJ1 k = some v → Cond.constantLong RJ1 k (Int64.ofInt v) ∈ am_tb := q_nil
def qmJ1 : Nat → Nat := fun k => 0
theorem qmJ1_ok : ∀ k, qmP RJ1 k (qmJ1 k) := qm_nil
def qfJ3 : Nat → Option (Nat × Nat × Bool) := fun k => none
theorem qfJ3_ok : ∀ k ci j w, qfJ3 k = some (ci, j, w) → am_fok RJ3 am_tb k ci j w := fun k ci j w h => (q_nil : ∀ k (a : Nat × Nat × Bool), qfJ3 k = some a → (fun k (a : Nat × Nat × Bool) => am_fok RJ3 am_tb k a.1 a.2.1 a.2.2) k a) k (ci, j, w) h
def qcJ3 : Nat → Option Int := fun k => none
theorem qcJ3_ok : ∀ k v, qcJ3 k = some v → Cond.constant RJ3 k (Int32.ofInt v) ∈ am_tb := q_nil
def qlJ3 : Nat → Option Int := fun k => none
theorem qlJ3_ok : ∀ k v, qlJ3 k = some v → Cond.constantLong RJ3 k (Int64.ofInt v) ∈ am_tb := q_nil
def qmJ3 : Nat → Nat := fun k => 0
theorem qmJ3_ok : ∀ k, qmP RJ3 k (qmJ3 k) := qm_nil
def qfJ4 : Nat → Option (Nat × Nat × Bool) := fun k => none
theorem qfJ4_ok : ∀ k ci j w, qfJ4 k = some (ci, j, w) → am_fok RJ4 am_tb k ci j w := fun k ci j w h => (q_nil : ∀ k (a : Nat × Nat × Bool), qfJ4 k = some a → (fun k (a : Nat × Nat × Bool) => am_fok RJ4 am_tb k a.1 a.2.1 a.2.2) k a) k (ci, j, w) h
def qcJ4 : Nat → Option Int := fun k => none
theorem qcJ4_ok : ∀ k v, qcJ4 k = some v → Cond.constant RJ4 k (Int32.ofInt v) ∈ am_tb := q_nil
def qlJ4 : Nat → Option Int := fun k => none
theorem qlJ4_ok : ∀ k v, qlJ4 k = some v → Cond.constantLong RJ4 k (Int64.ofInt v) ∈ am_tb := q_nil
def qmJ4 : Nat → Nat := fun k => 0
theorem qmJ4_ok : ∀ k, qmP RJ4 k (qmJ4 k) := qm_nil
def qfJ5 : Nat → Option (Nat × Nat × Bool) := fun k => cond (Nat.beq k 15) (some (10, 0, false)) (cond (Nat.beq k 22) (some (10, 1, false)) (cond (Nat.beq k 79) (some (10, 3, true)) (none)))
theorem qfJ5_ok : ∀ k ci j w, qfJ5 k = some (ci, j, w) → am_fok RJ5 am_tb k ci j w := fun k ci j w h => (q_cons (⟨RJ4, TJ4, 4, tyJ4, rfl, by decide, qwJ4, am_tb_at 306 (by decide +kernel) rfl, tyJ4_ok, nmJ4, fun h => by cases h⟩) (q_cons (⟨RJ4, TJ4, 4, tyJ4, rfl, by decide, qwJ4, am_tb_at 307 (by decide +kernel) rfl, tyJ4_ok, nmJ4, fun h => by cases h⟩) (q_cons (⟨RJ4, TJ4, 4, tyJ4, rfl, by decide, qwJ4, am_tb_at 309 (by decide +kernel) rfl, tyJ4_ok, nmJ4, fun _ => ⟨rfl, by decide +kernel⟩⟩) (q_nil))) : ∀ k (a : Nat × Nat × Bool), qfJ5 k = some a → (fun k (a : Nat × Nat × Bool) => am_fok RJ5 am_tb k a.1 a.2.1 a.2.2) k a) k (ci, j, w) h
def qcJ5 : Nat → Option Int := fun k => cond (Nat.beq k 39) (some (2147483647)) (none)
theorem qcJ5_ok : ∀ k v, qcJ5 k = some v → Cond.constant RJ5 k (Int32.ofInt v) ∈ am_tb := q_cons (am_tb_at 349 (by decide +kernel) rfl) (q_nil)
def qlJ5 : Nat → Option Int := fun k => none
theorem qlJ5_ok : ∀ k v, qlJ5 k = some v → Cond.constantLong RJ5 k (Int64.ofInt v) ∈ am_tb := q_nil
def qmJ5 : Nat → Nat := fun k => 0
theorem qmJ5_ok : ∀ k, qmP RJ5 k (qmJ5 k) := qm_nil
def qfJ6 : Nat → Option (Nat × Nat × Bool) := fun k => none
theorem qfJ6_ok : ∀ k ci j w, qfJ6 k = some (ci, j, w) → am_fok RJ6 am_tb k ci j w := fun k ci j w h => (q_nil : ∀ k (a : Nat × Nat × Bool), qfJ6 k = some a → (fun k (a : Nat × Nat × Bool) => am_fok RJ6 am_tb k a.1 a.2.1 a.2.2) k a) k (ci, j, w) h
def qcJ6 : Nat → Option Int := fun k => none
theorem qcJ6_ok : ∀ k v, qcJ6 k = some v → Cond.constant RJ6 k (Int32.ofInt v) ∈ am_tb := q_nil
def qlJ6 : Nat → Option Int := fun k => none
theorem qlJ6_ok : ∀ k v, qlJ6 k = some v → Cond.constantLong RJ6 k (Int64.ofInt v) ∈ am_tb := q_nil
def qmJ6 : Nat → Nat := fun k => 0
theorem qmJ6_ok : ∀ k, qmP RJ6 k (qmJ6 k) := qm_nil
def qfJ7 : Nat → Option (Nat × Nat × Bool) := fun k => none
theorem qfJ7_ok : ∀ k ci j w, qfJ7 k = some (ci, j, w) → am_fok RJ7 am_tb k ci j w := fun k ci j w h => (q_nil : ∀ k (a : Nat × Nat × Bool), qfJ7 k = some a → (fun k (a : Nat × Nat × Bool) => am_fok RJ7 am_tb k a.1 a.2.1 a.2.2) k a) k (ci, j, w) h
def qcJ7 : Nat → Option Int := fun k => none
theorem qcJ7_ok : ∀ k v, qcJ7 k = some v → Cond.constant RJ7 k (Int32.ofInt v) ∈ am_tb := q_nil
def qlJ7 : Nat → Option Int := fun k => none
theorem qlJ7_ok : ∀ k v, qlJ7 k = some v → Cond.constantLong RJ7 k (Int64.ofInt v) ∈ am_tb := q_nil
def qmJ7 : Nat → Nat := fun k => cond (Nat.beq k 150) 4 (cond (Nat.beq k 304) 1 (0))
theorem qmJ7_ok : ∀ k, qmP RJ7 k (qmJ7 k) := qm_cons ⟨(fun h => by cases h), (fun h => by cases h), (fun h => by cases h), (fun _ => am_tb_at 363 (by decide +kernel) rfl)⟩ (qm_cons ⟨(fun _ => am_tb_at 360 (by decide +kernel) rfl), (fun h => by cases h), (fun h => by cases h), (fun h => by cases h)⟩ (qm_nil))
def qfJ8 : Nat → Option (Nat × Nat × Bool) := fun k => none
theorem qfJ8_ok : ∀ k ci j w, qfJ8 k = some (ci, j, w) → am_fok RJ8 am_tb k ci j w := fun k ci j w h => (q_nil : ∀ k (a : Nat × Nat × Bool), qfJ8 k = some a → (fun k (a : Nat × Nat × Bool) => am_fok RJ8 am_tb k a.1 a.2.1 a.2.2) k a) k (ci, j, w) h
def qcJ8 : Nat → Option Int := fun k => cond (Nat.beq k 200) (some (2147483639)) (none)
theorem qcJ8_ok : ∀ k v, qcJ8 k = some v → Cond.constant RJ8 k (Int32.ofInt v) ∈ am_tb := q_cons (am_tb_at 345 (by decide +kernel) rfl) (q_nil)
def qlJ8 : Nat → Option Int := fun k => none
theorem qlJ8_ok : ∀ k v, qlJ8 k = some v → Cond.constantLong RJ8 k (Int64.ofInt v) ∈ am_tb := q_nil
def qmJ8 : Nat → Nat := fun k => cond (Nat.beq k 194) 2 (0)
theorem qmJ8_ok : ∀ k, qmP RJ8 k (qmJ8 k) := qm_cons ⟨(fun h => by cases h), (fun _ => am_tb_at 342 (by decide +kernel) rfl), (fun h => by cases h), (fun h => by cases h)⟩ (qm_nil)
def qfJ13 : Nat → Option (Nat × Nat × Bool) := fun k => none
theorem qfJ13_ok : ∀ k ci j w, qfJ13 k = some (ci, j, w) → am_fok RJ13 am_tb k ci j w := fun k ci j w h => (q_nil : ∀ k (a : Nat × Nat × Bool), qfJ13 k = some a → (fun k (a : Nat × Nat × Bool) => am_fok RJ13 am_tb k a.1 a.2.1 a.2.2) k a) k (ci, j, w) h
def qcJ13 : Nat → Option Int := fun k => none
theorem qcJ13_ok : ∀ k v, qcJ13 k = some v → Cond.constant RJ13 k (Int32.ofInt v) ∈ am_tb := q_nil
def qlJ13 : Nat → Option Int := fun k => none
theorem qlJ13_ok : ∀ k v, qlJ13 k = some v → Cond.constantLong RJ13 k (Int64.ofInt v) ∈ am_tb := q_nil
def qmJ13 : Nat → Nat := fun k => 0
theorem qmJ13_ok : ∀ k, qmP RJ13 k (qmJ13 k) := qm_nil
theorem qM_min : Cond.static Lib.Math.min.name ∈ am_tb ∧ Cond.initialized "java/lang/Math" ∈ am_tb ∧ Cond.code Lib.Math.min.name Lib.Math.min.code 2 (some .int) ∈ am_tb := ⟨am_tb_at 361 (by decide +kernel) rfl, am_tb_at 50 (by decide +kernel) rfl, am_tb_at 362 (by decide +kernel) rfl⟩
theorem qM_max : Cond.static Lib.Math.max.name ∈ am_tb ∧ Cond.initialized "java/lang/Math" ∈ am_tb ∧ Cond.code Lib.Math.max.name Lib.Math.max.code 2 (some .int) ∈ am_tb := ⟨am_tb_at 343 (by decide +kernel) rfl, am_tb_at 50 (by decide +kernel) rfl, am_tb_at 344 (by decide +kernel) rfl⟩
theorem qM_copy : Cond.native arraycopyName ∈ am_tb ∧ Cond.static arraycopyName ∈ am_tb ∧ Cond.initialized "java/lang/System" ∈ am_tb := ⟨am_tb_at 365 (by decide +kernel) rfl, am_tb_at 364 (by decide +kernel) rfl, am_tb_at 51 (by decide +kernel) rfl⟩
