/-- the token that begins at p -/
def adQ (T : Int → Int) (n v p : Int) : TK :=
  if n ≤ p then (p, p, 5, v)
  else if ltP (sgT T n p) then (p, runL T n (Int.toNat (n - p)) p, 0, if runL T n (Int.toNat (n - p)) p - p ≤ 6 then ltF T n p (Int.toNat (runL T n (Int.toNat (n - p)) p - p)) else 0)
  else if dgP (sgT T n p) then (p, runD T n (Int.toNat (n - p)) p, 1, ivF T n p (Int.toNat (runD T n (Int.toNat (n - p)) p - p)))
  else (p, p + 1, if sgT T n p = 59 then 2 else if sgT T n p = 45 then 3 else 4, v)
theorem adF_q {T : Int → Int} {n nx v : Int} : adF T n nx v = adQ T n v (runB T n (Int.toNat (n - nx)) nx) := rfl
/-- the reader's fields set to a token; the draft's row set -/
def tkS (F : FF) (t : TK) : FF := fun a b => if a = 7 ∧ b = 3 then t.1 else if a = 7 ∧ b = 4 then t.2.1 else if a = 7 ∧ b = 5 then t.2.2.1 else if a = 7 ∧ b = 6 then t.2.2.2 else F a b
def tkF (F : FF) : TK := (F 7 3, F 7 4, F 7 5, F 7 6)
theorem tkS_3 {F : FF} {t : TK} : tkS F t 7 3 = t.1 := rfl
theorem tkS_4 {F : FF} {t : TK} : tkS F t 7 4 = t.2.1 := rfl
theorem tkS_5 {F : FF} {t : TK} : tkS F t 7 5 = t.2.2.1 := rfl
theorem tkS_6 {F : FF} {t : TK} : tkS F t 7 6 = t.2.2.2 := rfl
theorem tkS_1 {F : FF} {t : TK} : tkS F t 7 1 = F 7 1 := rfl
theorem tkS_2 {F : FF} {t : TK} : tkS F t 7 2 = F 7 2 := rfl
theorem tkS_7 {F : FF} {t : TK} : tkS F t 7 7 = F 7 7 := rfl
theorem tkF_S {F : FF} {t : TK} : tkF (tkS F t) = t := rfl
theorem tkS_S {F : FF} {t u : TK} : tkS (tkS F t) u = tkS F u := by
  funext a b; unfold tkS
  by_cases h3 : a = 7 ∧ b = 3
  · rw [if_pos h3, if_pos h3]
  · by_cases h4 : a = 7 ∧ b = 4
    · rw [if_neg h3, if_pos h4, if_neg h3, if_pos h4]
    · by_cases h5 : a = 7 ∧ b = 5
      · rw [if_neg h3, if_neg h4, if_pos h5, if_neg h3, if_neg h4, if_pos h5]
      · by_cases h6 : a = 7 ∧ b = 6
        · rw [if_neg h3, if_neg h4, if_neg h5, if_pos h6, if_neg h3, if_neg h4, if_neg h5, if_pos h6]
        · rw [if_neg h3, if_neg h4, if_neg h5, if_neg h6, if_neg h3, if_neg h4, if_neg h5, if_neg h6, if_neg h3, if_neg h4, if_neg h5, if_neg h6]
theorem tkS_F {F : FF} : tkS F (tkF F) = F := by
  funext a b; unfold tkS tkF
  split
  · rename_i h; rw [h.1, h.2]
  · split
    · rename_i h; rw [h.1, h.2]
    · split
      · rename_i h; rw [h.1, h.2]
      · split
        · rename_i h; rw [h.1, h.2]
        · rfl
theorem tkP_S {F G : FF} {t : TK} (h : tkP F G t) : G = tkS F t := by
  obtain ⟨h0, h3, h4, h5, h6⟩ := h
  funext a b; unfold tkS
  split
  · rename_i q; rw [q.1, q.2]; exact h3
  · split
    · rename_i q; rw [q.1, q.2]; exact h4
    · split
      · rename_i q; rw [q.1, q.2]; exact h5
      · split
        · rename_i q; rw [q.1, q.2]; exact h6
        · exact h0 a b (by omega)
def nxT (T : Int → Int) (n : Int) (t : TK) : TK := adF T n t.2.1 t.2.2.2
