theorem rts_get {K D C : Int → Int} {L : List RT} {k : Int} (h : rts K D C 0 L) (h0 : 0 ≤ k) (h1 : k < L.length) : K k = (L.getD k.toNat (0, 0, 0)).1 ∧ D k = (L.getD k.toNat (0, 0, 0)).2.1 ∧ C k = (L.getD k.toNat (0, 0, 0)).2.2 := by
  have hl : k.toNat < L.length := by omega
  have := rts_at L 0 h k.toNat (L[k.toNat]'hl) (List.getElem?_eq_getElem hl)
  rw [show (0 : Int) + (k.toNat : Nat) = k by omega] at this
  rw [List.getD_eq_getElem?_getD, List.getElem?_eq_getElem hl]
  exact this
/-- every curve and line have few roots -/
def rtB (f : Int → Int) : Prop := ∀ c l, 0 ≤ c → c < f 0 → 0 ≤ l → l < f 1 → ((rtsX f c l).length : Int) ≤ 8
theorem rc_az {G : FF} {B : AA} {f : Int → Int} {c l : Int} {L : List RT} (h : rcP G B f c l L) (hs : 2 ≤ f (18 + c)) : azP (B 15) (Int.toNat (G 14 4 + 1)) ↔ azP (cfL f c l) (Int.toNat (f (18 + c))) := by
  rw [h.1, show f (18 + c) - 1 + 1 = f (18 + c) by omega]
  exact azP_c (fun k hk => h.2.2.2 k (by omega) (by omega))
