/-! isCut, whole -/
def cuP (F : FF) (A : AA) (c d q : Int) : Prop := fgOK (A 2) ∧ caAll A ∧ (0 ≤ c ∧ c < A 2 0) ∧ (0 ≤ d ∧ d ≤ 5) ∧ (0 ≤ q ∧ q < p2 d)
def qsL_isCut : SP := fun as F A K => match as with
  | [.inr (.inr o), .inl c, .inl d, .inl q] => cond (Nat.beq o 0) (cuP F A c d q ∧ ∀ G B, qW F G A B → K (some (some (vI 1))) G B) False
  | _ => False
def qeL_isCut : CE := (yL_isCut, cL_isCut, 21, (some .boolean), 4, none, 0, none, 6, 11, qsL_isCut)
theorem qbL_isCut : am_mb qeL_isCut := ⟨am_tb_at 983 (by decide +kernel) rfl, am_tb_at 34 (by decide +kernel) rfl, ⟨by decide, by decide, by decide +kernel⟩, by decide, am_tb_at 982 (by decide +kernel) rfl⟩
set_option maxRecDepth 20000 in
theorem isC_0 {F : FF} {A : AA} {c d q : Int} {K : KK} {V : REC} (hg : am_good qxL_isCutR0 K V) (hh : cuH F A c d q (A 2 (18 + c) - 1)) (hK : ∀ G B, qW F G A B → K (some (some (vI 1))) G B) : V 0 [some (vR 0), some (vI c), some (vI d), some (vI q), none, none, none, none, none, none, none, none, none, none, none, none, none, none, none, none, none] [] F A 0 := by
  obtain ⟨hf, hca, hc, hd, hq, hn⟩ := id hh
  have hc8 := hf.1.1
  have hs := (hf.2.2.1 c hc.1 hc.2).1
  have hp5 : p2 d ≤ 32 := p2_le (k := 5) hd.2
  refine hg.1 _ (am_runs (cut := (fun pc => cond (Nat.beq pc 15) (some [true, true, true, true, true, true, true, true, false, false, false, false, false, false, false, false, false, false, false, false, false]) (none))) (Kc := V) (fun _ _ _ _ _ _ h => h) hg 13) 0 [some (vR 0), some (vI c), some (vI d), some (vI q), none, none, none, none, none, none, none, none, none, none, none, none, none, none, none, none, none] [] _ _ 0 ?_
  show ((0 ≤ c ∧ c < A 2 0) ∧ (0 ≤ A 2 0 ∧ A 2 0 ≤ 8) ∧ (0 ≤ A 2 1 ∧ A 2 1 ≤ 6) ∧ (-2147483648 ≤ c ∧ c < 2147483648)) ∧ (V 15 [some (vR 0), some (vI c), some (vI d), some (vI q), some (vI (A 2 (18 + c) - 1)), some (vL (y_shl 1 d)), none, some (vI 0), none, none, none, none, none, none, none, none, none, none, none, none, none] [] F A 0)
  refine ⟨by exact ⟨hc, hf.1.1, hf.1.2, by omega⟩, ?_⟩
  rw [y_shlp hd.1 (by omega) (by decide) (by decide), Int.one_mul]
  exact isC_15_0 hg hh hK qW_id
theorem qtL_isCut (l : Launch) : am_CX l layX qeL_isCut := am_metX (x := qxL_isCutR0) (by decide +kernel) rfl rfl rfl (qwL_isCutR0 l) (fun as F A K h => by
  replace h : qsL_isCut as F A K := h
  unfold qsL_isCut at h
  split at h
  · rename_i o c d q
    refine ⟨by first | exact Nat.le_of_ble_eq_true rfl | simp [am_fl, am_cat], ?_⟩
    replace h := am_cond2 h
    rcases h with ⟨hb, h⟩ | h
    · have hb := am_bq hb
      subst hb
      obtain ⟨⟨h1, h2, h3, h4, h5⟩, hK⟩ := h
      exact fun V hg => isC_0 hg ⟨h1, h2, h3, h4, h5, rfl⟩ hK
    · exact h.elim
  · exact h.elim)
