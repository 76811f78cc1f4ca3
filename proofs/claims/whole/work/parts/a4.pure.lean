theorem leU {U : Int → Int} {p e k v : Int} (h : p + k < e) (z : leF U p e k = v) : U (p + k) = v + 96 := by
  unfold leF at z
  rw [if_pos h] at z
  omega
theorem leV {U : Int → Int} {p e k v : Int} (h : p + k < e) (z : U (p + k) = v) : leF U p e k = v - 96 := by
  unfold leF
  rw [if_pos h, z]
  omega
theorem le0 {U : Int → Int} {p e k : Int} (h : e ≤ p + k) : leF U p e k = 0 := by
  unfold leF
  rw [if_neg (by omega)]
theorem w_curve {U : Int → Int} {p e : Int} (hL : ∀ k, 0 ≤ k → k < 6 → 0 ≤ leF U p e k ∧ leF U p e k < 27 ∧ (leF U p e k = 0 ↔ e ≤ p + k)) : wdE U p e [99, 117, 114, 118, 101] ↔ pkS U p e = 123295904 := by
  have z0 := hL 0 (by decide) (by decide); have z1 := hL 1 (by decide) (by decide); have z2 := hL 2 (by decide) (by decide)
  have z3 := hL 3 (by decide) (by decide); have z4 := hL 4 (by decide) (by decide); have z5 := hL 5 (by decide) (by decide)
  unfold pkS
  constructor
  · rintro ⟨h1, h⟩
    have h1 : e - p = 5 := h1
    have a0 : leF U p e 0 = 99 - 96 := leV (by omega) (h 0 (by decide))
    have a1 : leF U p e 1 = 117 - 96 := leV (by omega) (h 1 (by decide))
    have a2 : leF U p e 2 = 114 - 96 := leV (by omega) (h 2 (by decide))
    have a3 : leF U p e 3 = 118 - 96 := leV (by omega) (h 3 (by decide))
    have a4 : leF U p e 4 = 101 - 96 := leV (by omega) (h 4 (by decide))
    have a5 : leF U p e 5 = 0 := le0 (by omega)
    rw [a0, a1, a2, a3, a4, a5]; decide
  · intro h
    have a0 : leF U p e 0 = 3 := by omega
    have a1 : leF U p e 1 = 21 := by omega
    have a2 : leF U p e 2 = 18 := by omega
    have a3 : leF U p e 3 = 22 := by omega
    have a4 : leF U p e 4 = 5 := by omega
    have a5 : leF U p e 5 = 0 := by omega
    have e9 : e - p = 5 := by omega
    refine ⟨e9, fun k hk => ?_⟩
    have hk : k < 5 := hk
    match k, hk with
    | 0, _ => exact leU (k := 0) (by omega) a0
    | 1, _ => exact leU (k := 1) (by omega) a1
    | 2, _ => exact leU (k := 2) (by omega) a2
    | 3, _ => exact leU (k := 3) (by omega) a3
    | 4, _ => exact leU (k := 4) (by omega) a4
theorem w_line {U : Int → Int} {p e : Int} (hL : ∀ k, 0 ≤ k → k < 6 → 0 ≤ leF U p e k ∧ leF U p e k < 27 ∧ (leF U p e k = 0 ↔ e ≤ p + k)) : wdE U p e [108, 105, 110, 101] ↔ pkS U p e = 412554240 := by
  have z0 := hL 0 (by decide) (by decide); have z1 := hL 1 (by decide) (by decide); have z2 := hL 2 (by decide) (by decide)
  have z3 := hL 3 (by decide) (by decide); have z4 := hL 4 (by decide) (by decide); have z5 := hL 5 (by decide) (by decide)
  unfold pkS
  constructor
  · rintro ⟨h1, h⟩
    have h1 : e - p = 4 := h1
    have a0 : leF U p e 0 = 108 - 96 := leV (by omega) (h 0 (by decide))
    have a1 : leF U p e 1 = 105 - 96 := leV (by omega) (h 1 (by decide))
    have a2 : leF U p e 2 = 110 - 96 := leV (by omega) (h 2 (by decide))
    have a3 : leF U p e 3 = 101 - 96 := leV (by omega) (h 3 (by decide))
    have a4 : leF U p e 4 = 0 := le0 (by omega)
    have a5 : leF U p e 5 = 0 := le0 (by omega)
    rw [a0, a1, a2, a3, a4, a5]; decide
  · intro h
    have a0 : leF U p e 0 = 12 := by omega
    have a1 : leF U p e 1 = 9 := by omega
    have a2 : leF U p e 2 = 14 := by omega
    have a3 : leF U p e 3 = 5 := by omega
    have a4 : leF U p e 4 = 0 := by omega
    have a5 : leF U p e 5 = 0 := by omega
    have e9 : e - p = 4 := by omega
    refine ⟨e9, fun k hk => ?_⟩
    have hk : k < 4 := hk
    match k, hk with
    | 0, _ => exact leU (k := 0) (by omega) a0
    | 1, _ => exact leU (k := 1) (by omega) a1
    | 2, _ => exact leU (k := 2) (by omega) a2
    | 3, _ => exact leU (k := 3) (by omega) a3
theorem w_set {U : Int → Int} {p e : Int} (hL : ∀ k, 0 ≤ k → k < 6 → 0 ≤ leF U p e k ∧ leF U p e k < 27 ∧ (leF U p e k = 0 ↔ e ≤ p + k)) : wdE U p e [115, 101, 116] ↔ pkS U p e = 643432448 := by
  have z0 := hL 0 (by decide) (by decide); have z1 := hL 1 (by decide) (by decide); have z2 := hL 2 (by decide) (by decide)
  have z3 := hL 3 (by decide) (by decide); have z4 := hL 4 (by decide) (by decide); have z5 := hL 5 (by decide) (by decide)
  unfold pkS
  constructor
  · rintro ⟨h1, h⟩
    have h1 : e - p = 3 := h1
    have a0 : leF U p e 0 = 115 - 96 := leV (by omega) (h 0 (by decide))
    have a1 : leF U p e 1 = 101 - 96 := leV (by omega) (h 1 (by decide))
    have a2 : leF U p e 2 = 116 - 96 := leV (by omega) (h 2 (by decide))
    have a3 : leF U p e 3 = 0 := le0 (by omega)
    have a4 : leF U p e 4 = 0 := le0 (by omega)
    have a5 : leF U p e 5 = 0 := le0 (by omega)
    rw [a0, a1, a2, a3, a4, a5]; decide
  · intro h
    have a0 : leF U p e 0 = 19 := by omega
    have a1 : leF U p e 1 = 5 := by omega
    have a2 : leF U p e 2 = 20 := by omega
    have a3 : leF U p e 3 = 0 := by omega
    have a4 : leF U p e 4 = 0 := by omega
    have a5 : leF U p e 5 = 0 := by omega
    have e9 : e - p = 3 := by omega
    refine ⟨e9, fun k hk => ?_⟩
    have hk : k < 3 := hk
    match k, hk with
    | 0, _ => exact leU (k := 0) (by omega) a0
    | 1, _ => exact leU (k := 1) (by omega) a1
    | 2, _ => exact leU (k := 2) (by omega) a2
theorem w_limit {U : Int → Int} {p e : Int} (hL : ∀ k, 0 ≤ k → k < 6 → 0 ≤ leF U p e k ∧ leF U p e k < 27 ∧ (leF U p e k = 0 ↔ e ≤ p + k)) : wdE U p e [108, 105, 109, 105, 116] ↔ pkS U p e = 412526208 := by
  have z0 := hL 0 (by decide) (by decide); have z1 := hL 1 (by decide) (by decide); have z2 := hL 2 (by decide) (by decide)
  have z3 := hL 3 (by decide) (by decide); have z4 := hL 4 (by decide) (by decide); have z5 := hL 5 (by decide) (by decide)
  unfold pkS
  constructor
  · rintro ⟨h1, h⟩
    have h1 : e - p = 5 := h1
    have a0 : leF U p e 0 = 108 - 96 := leV (by omega) (h 0 (by decide))
    have a1 : leF U p e 1 = 105 - 96 := leV (by omega) (h 1 (by decide))
    have a2 : leF U p e 2 = 109 - 96 := leV (by omega) (h 2 (by decide))
    have a3 : leF U p e 3 = 105 - 96 := leV (by omega) (h 3 (by decide))
    have a4 : leF U p e 4 = 116 - 96 := leV (by omega) (h 4 (by decide))
    have a5 : leF U p e 5 = 0 := le0 (by omega)
    rw [a0, a1, a2, a3, a4, a5]; decide
  · intro h
    have a0 : leF U p e 0 = 12 := by omega
    have a1 : leF U p e 1 = 9 := by omega
    have a2 : leF U p e 2 = 13 := by omega
    have a3 : leF U p e 3 = 9 := by omega
    have a4 : leF U p e 4 = 20 := by omega
    have a5 : leF U p e 5 = 0 := by omega
    have e9 : e - p = 5 := by omega
    refine ⟨e9, fun k hk => ?_⟩
    have hk : k < 5 := hk
    match k, hk with
    | 0, _ => exact leU (k := 0) (by omega) a0
    | 1, _ => exact leU (k := 1) (by omega) a1
    | 2, _ => exact leU (k := 2) (by omega) a2
    | 3, _ => exact leU (k := 3) (by omega) a3
    | 4, _ => exact leU (k := 4) (by omega) a4
theorem w_depth {U : Int → Int} {p e : Int} (hL : ∀ k, 0 ≤ k → k < 6 → 0 ≤ leF U p e k ∧ leF U p e k < 27 ∧ (leF U p e k = 0 ↔ e ≤ p + k)) : wdE U p e [100, 101, 112, 116, 104] ↔ pkS U p e = 140005632 := by
  have z0 := hL 0 (by decide) (by decide); have z1 := hL 1 (by decide) (by decide); have z2 := hL 2 (by decide) (by decide)
  have z3 := hL 3 (by decide) (by decide); have z4 := hL 4 (by decide) (by decide); have z5 := hL 5 (by decide) (by decide)
  unfold pkS
  constructor
  · rintro ⟨h1, h⟩
    have h1 : e - p = 5 := h1
    have a0 : leF U p e 0 = 100 - 96 := leV (by omega) (h 0 (by decide))
    have a1 : leF U p e 1 = 101 - 96 := leV (by omega) (h 1 (by decide))
    have a2 : leF U p e 2 = 112 - 96 := leV (by omega) (h 2 (by decide))
    have a3 : leF U p e 3 = 116 - 96 := leV (by omega) (h 3 (by decide))
    have a4 : leF U p e 4 = 104 - 96 := leV (by omega) (h 4 (by decide))
    have a5 : leF U p e 5 = 0 := le0 (by omega)
    rw [a0, a1, a2, a3, a4, a5]; decide
  · intro h
    have a0 : leF U p e 0 = 4 := by omega
    have a1 : leF U p e 1 = 5 := by omega
    have a2 : leF U p e 2 = 16 := by omega
    have a3 : leF U p e 3 = 20 := by omega
    have a4 : leF U p e 4 = 8 := by omega
    have a5 : leF U p e 5 = 0 := by omega
    have e9 : e - p = 5 := by omega
    refine ⟨e9, fun k hk => ?_⟩
    have hk : k < 5 := hk
    match k, hk with
    | 0, _ => exact leU (k := 0) (by omega) a0
    | 1, _ => exact leU (k := 1) (by omega) a1
    | 2, _ => exact leU (k := 2) (by omega) a2
    | 3, _ => exact leU (k := 3) (by omega) a3
    | 4, _ => exact leU (k := 4) (by omega) a4
/-- a word's two readings -/
def wdR (U : Int → Int) (p e tv uv : Int) : Prop := (tv = 123295904 ↔ uv = 0) ∧ (tv = 412554240 ↔ uv = 1) ∧ (tv = 643432448 ↔ uv = 2) ∧ (tv = 412526208 ↔ uv = 3) ∧ (tv = 140005632 ↔ uv = 4) ∧ (-1 ≤ uv ∧ uv ≤ 4) ∧ (e - p ≤ 6 → tv = nmP U p e 6 ∧ tv ≠ 0) ∧ (¬ e - p ≤ 6 → tv = 0)
theorem wd_R {T U : Int → Int} {n p e : Int} (hU : byR T U n) (he : e ≤ n) (p0 : 0 ≤ p) (pe : p < e) (hl : ∀ k : Nat, (k : Int) < e - p → ltP (sgT T n (p + k))) : wdR U p e (if e - p ≤ 6 then ltF T n p (Int.toNat (e - p)) else 0) (wdX U p e) := by
  have wb := wdX_b U p e
  by_cases h6 : e - p ≤ 6
  · rw [if_pos h6]
    obtain ⟨hL, hS⟩ := wd_S hU he p0 h6 (by omega) hl
    have hN := nmP_S (U := U) (p := p) (e := e) (fun k k0 k1 => ⟨(hL k k0 k1).1, (hL k k0 k1).2.1⟩)
    rw [hS]
    have q0 := w_curve hL; have q1 := w_line hL; have q2 := w_set hL; have q3 := w_limit hL; have q4 := w_depth hL
    have z0 := hL 0 (by decide) (by decide); have z1 := hL 1 (by decide) (by decide); have z2 := hL 2 (by decide) (by decide)
    have z3 := hL 3 (by decide) (by decide); have z4 := hL 4 (by decide) (by decide); have z5 := hL 5 (by decide) (by decide)
    have s0 : pkS U p e ≠ 0 := by unfold pkS; omega
    have ev : wdX U p e = if pkS U p e = 123295904 then 0 else if pkS U p e = 412554240 then 1 else if pkS U p e = 643432448 then 2 else if pkS U p e = 412526208 then 3 else if pkS U p e = 140005632 then 4 else -1 := by
      unfold wdX
      simp only [q0, q1, q2, q3, q4]
    rw [ev]
    refine ⟨?_, ?_, ?_, ?_, ?_, ?_, fun _ => ⟨hN.symm, s0⟩, fun y => absurd h6 y⟩ <;> (generalize pkS U p e = S; omega)
  · rw [if_neg h6]
    have ev : wdX U p e = -1 := by
      unfold wdX
      rw [if_neg (fun y => h6 (by have y1 : e - p = 5 := y.1; omega)), if_neg (fun y => h6 (by have y1 : e - p = 4 := y.1; omega)), if_neg (fun y => h6 (by have y1 : e - p = 3 := y.1; omega)), if_neg (fun y => h6 (by have y1 : e - p = 5 := y.1; omega)), if_neg (fun y => h6 (by have y1 : e - p = 5 := y.1; omega))]
    rw [ev]
    exact ⟨by omega, by omega, by omega, by omega, by omega, by omega, fun y => absurd y h6, fun _ => rfl⟩
/-- the class's token and the model's -/
def tkR (U : Int → Int) (t u : TK) : Prop := (t.1 = u.1 ∧ t.2.1 = u.2.1) ∧ (t.2.2.1 = 0 ↔ u.2.2.1 = 0) ∧ (t.2.2.1 = 1 ↔ u.2.2.1 = 1) ∧ (t.2.2.1 = 2 ↔ u.2.2.1 = 2) ∧ (t.2.2.1 = 5 ↔ u.2.2.1 = 3) ∧ (t.2.2.1 = 3 ↔ (u.2.2.1 = 4 ∧ U u.1 = 45)) ∧ (u.2.2.1 = 1 → ivR t.2.2.2 u.2.2.2) ∧ (u.2.2.1 = 0 → wdR U u.1 u.2.1 t.2.2.2 u.2.2.2)
theorem nx_R {T U : Int → Int} {n : Int} {t u : TK} (hU : byR T U n) (h0 : 0 ≤ t.2.1) (h : t.2.1 = u.2.1) : tkR U (nxT T n t) (nxK U n u) := by
  have a := runB_b T n (Int.toNat (n - u.2.1)) u.2.1
  unfold nxT nxK
  rw [adF_q, runB_e hU, h]
  generalize runB T n (Int.toNat (n - u.2.1)) u.2.1 = p at a ⊢
  have p0 : 0 ≤ p := by omega
  generalize t.2.2.2 = v
  generalize u.2.2.2 = v'
  unfold adQ nxQ
  rw [sgT_e hU, runL_e hU, runD_e hU]
  by_cases z : n ≤ p
  · rw [if_pos z, if_pos z]
    unfold tkR; dsimp only
    exact ⟨⟨rfl, rfl⟩, by omega, by omega, by omega, by omega, by omega, by omega, by omega⟩
  · rw [if_neg z, if_neg z]
    by_cases z1 : ltP (sgT T n p)
    · rw [if_pos z1, if_pos z1]
      have b := runL_b T n (Int.toNat (n - p)) p
      have c := runL_s (T := T) (n := n) (p := p) (by omega)
      rw [if_pos z1] at c
      have d := runL_b T n (Int.toNat (n - (p + 1))) (p + 1)
      have w := wd_R (p := p) (e := runL T n (Int.toNat (n - p)) p) hU (by omega) p0 (by omega) (fun k hk => runL_lt T n _ p k hk)
      unfold tkR; dsimp only
      exact ⟨⟨rfl, rfl⟩, by omega, by omega, by omega, by omega, by omega, by omega, fun _ => w⟩
    · rw [if_neg z1, if_neg z1]
      by_cases z2 : dgP (sgT T n p)
      · rw [if_pos z2, if_pos z2]
        have b := runD_b T n (Int.toNat (n - p)) p
        have iv := iv_R (s := p) hU (Int.toNat (runD T n (Int.toNat (n - p)) p - p)) (fun k hk => runD_dg T n (Int.toNat (n - p)) p k (by omega))
        unfold tkR; dsimp only
        exact ⟨⟨rfl, rfl⟩, by omega, by omega, by omega, by omega, by omega, fun _ => iv, by omega⟩
      · rw [if_neg z2, if_neg z2]
        have su : U p = sgT T n p := by
          rw [hU p p0 (by omega)]
          unfold sgT
          rw [if_pos ⟨p0, by omega⟩]
        unfold tkR; dsimp only
        rw [su]
        generalize sgT T n p = s at *
        exact ⟨⟨rfl, rfl⟩, by omega, by omega, by omega, by omega, by omega, by omega, by omega⟩
