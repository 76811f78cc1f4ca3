/-! the law's body: what its stretches keep -/
def lawK : KK := fun o _ _ => o = some (some (vI 1))
/-- back at the loop's head, six places on -/
def lawI (i : Int) : REC := fun pc ls st F A u => cond (Nat.beq pc 23) (match ls, st with
    | [some (.inr (.inr s0)), some (.inr (.inr s1)), some (.inr (.inr s2)), some (.inr (.inr s3)), some (.inl j), none, none, none], [] => s0 = 999 ∧ s1 = 0 ∧ s2 = 25 ∧ s3 = 43 ∧ j = i + 6 ∧ REL F A ∧ u ≤ 2
    | _, _ => False) False
def lawC : CUT := fun pc => cond (Nat.beq pc 23) (some [true, true, true, true, true, false, false, false]) none
/-- the switch's stretches -/
def lawL : List Nat := [276, 349, 374, 387, 400, 413, 426, 451, 476, 501, 557, 637, 705, 808, 899, 990, 1082, 1145, 1201, 1269, 1349, 1441, 1516, 1596, 1664, 1744, 1824, 1904, 1984, 2076, 2151, 2207, 2263, 2276, 2332, 2388, 2456, 2524, 2592, 2672, 2740, 2832, 2924, 2992, 3060, 3116, 3129, 3233, 3294, 3343, 3416, 3453, 3478, 3539, 3576, 3589]
def lawD : CUT := fun pc => cond (lawL.any (Nat.beq pc)) (some [true, true, true, true, true, false, false, false]) none
abbrev lawS (i : Int) : LVs := [some (vR 999), some (vR 0), some (vR 25), some (vR 43), some (vI i), none, none, none]
def lawJ (Ls i : Int) (F : FF) (A : AA) : REC := fun pc ls st F' A' u => F' = F ∧ A' = A ∧ u = 0 ∧ st = [] ∧ ls = lawS i ∧ i + 6 ≤ Ls ∧ pc ∈ lawL
def qkL_h : Nat → Option CI := fun pc => cond (Nat.ble 3597 pc) none (cond (Nat.ble 34 pc) (cond (Nat.ble 39 pc) (cond (Nat.ble 3595 pc) (cond (Nat.beq pc 3595) (some (.iconst 1, 3596, [])) (cond (Nat.beq pc 3596) (some (.ireturn, 3597, [])) (none))) (cond (Nat.beq pc 39) (some (.iand, 40, [])) (cond (Nat.beq pc 40) (some (.tableswitch 3549 0 54 #[236, 309, 334, 347, 360, 373, 386, 411, 436, 461, 517, 597, 665, 768, 859, 950, 1042, 1105, 1161, 1229, 1309, 1401, 1476, 1556, 1624, 1704, 1784, 1864, 1944, 2036, 2111, 2167, 2223, 2236, 2292, 2348, 2416, 2484, 2552, 2632, 2700, 2792, 2884, 2952, 3020, 3076, 3089, 3193, 3254, 3303, 3376, 3413, 3438, 3499, 3536], 276, [3589, 276, 349, 374, 387, 400, 413, 426, 451, 476, 501, 557, 637, 705, 808, 899, 990, 1082, 1145, 1201, 1269, 1349, 1441, 1516, 1596, 1664, 1744, 1824, 1904, 1984, 2076, 2151, 2207, 2263, 2276, 2332, 2388, 2456, 2524, 2592, 2672, 2740, 2832, 2924, 2992, 3060, 3116, 3129, 3233, 3294, 3343, 3416, 3453, 3478, 3539, 3576])) (none)))) (cond (Nat.beq pc 34) (some (.iload 4, 36, [])) (cond (Nat.beq pc 36) (some (.iaload, 37, [])) (cond (Nat.beq pc 37) (some (.bipush 63, 39, [])) (none))))) (cond (Nat.ble 27 pc) (cond (Nat.ble 30 pc) (cond (Nat.beq pc 30) (some (.if_icmp .gt 3565, 33, [3595])) (cond (Nat.beq pc 33) (some (.aload_n 0, 34, [])) (none))) (cond (Nat.beq pc 27) (some (.bipush 6, 29, [])) (cond (Nat.beq pc 29) (some (.isub, 30, [])) (none)))) (cond (Nat.beq pc 23) (some (.iload 4, 25, [])) (cond (Nat.beq pc 25) (some (.aload_n 0, 26, [])) (cond (Nat.beq pc 26) (some (.arraylength, 27, [])) (none))))))
theorem qkL_h_ok : ∀ pc i nx ts, qkL_h pc = some (i, nx, ts) → am_cok cL_law pc (i, nx, ts) = true := fun pc i nx ts h => am_tok_ok (n := 3597) (by decide +kernel) (fun pc h => by show cond (Nat.ble 3597 pc) _ _ = _; rw [Nat.ble_eq_true_of_le h]; rfl) h
def qaL_h : Nat → Option CE := fun k => none
theorem qyL_h (l : Launch) (hst : l.stackTraces = false) : ∀ k e1, qaL_h k = some e1 → am_cal l layL RL 40 k e1 ∧ True := q_nil
def qxL_h (Ls : Int) (xs : Int → Int) : CX := (qkL_h, layL, qfL, qaL_h, qcL, qlL, qmL, some .boolean, false, none, 2, some (Ls, xs), fun _ => none)
theorem qzL_h (l : Launch) (hst : l.stackTraces = false) (Ls : Int) (xs : Int → Int) : am_sta l (qxL_h Ls xs) RL 40 cL_law := ⟨qkL_h_ok, layL_ok, qfL_ok, qcL_ok, qlL_ok, am_mthP qmL_ok (by decide), fun k e1 h => (qyL_h l hst k e1 h).1⟩
set_option maxRecDepth 20000 in
theorem qvL_h (Ls : Int) (xs : Int → Int) (F : FF) (A : AA) (i : Int) (hL0 : 0 ≤ Ls) (hL : Ls ≤ 3072) (i0 : 0 ≤ i) (i1 : i ≤ Ls + 6) : am_stp (qxL_h Ls xs) (am_run (qxL_h Ls xs) lawD (lawJ Ls i F A) lawK 15) lawK 23 [some (vR 999), some (vR 0), some (vR 25), some (vR 43), some (vI i), none, none, none] [] F A 0 := by
  show (w32 (Ls - 6) < w32 i → (((1 : Int) = 0 ∨ (1 : Int) = 1) ∧ (lawK (some (some (vI 1))) F A))) ∧ (¬ w32 (Ls - 6) < w32 i → ((0 ≤ w32 i ∧ w32 i < Ls) ∧ (((w32 (x_and (xs (w32 i)) 63) = 0 → (lawJ Ls i F A 276 [some (vR 999), some (vR 0), some (vR 25), some (vR 43), some (vI i), none, none, none] [] F A 0)) ∧ (w32 (x_and (xs (w32 i)) 63) = 0 + 1 → (lawJ Ls i F A 349 [some (vR 999), some (vR 0), some (vR 25), some (vR 43), some (vI i), none, none, none] [] F A 0)) ∧ (w32 (x_and (xs (w32 i)) 63) = 0 + 1 + 1 → (lawJ Ls i F A 374 [some (vR 999), some (vR 0), some (vR 25), some (vR 43), some (vI i), none, none, none] [] F A 0)) ∧ (w32 (x_and (xs (w32 i)) 63) = 0 + 1 + 1 + 1 → (lawJ Ls i F A 387 [some (vR 999), some (vR 0), some (vR 25), some (vR 43), some (vI i), none, none, none] [] F A 0)) ∧ (w32 (x_and (xs (w32 i)) 63) = 0 + 1 + 1 + 1 + 1 → (lawJ Ls i F A 400 [some (vR 999), some (vR 0), some (vR 25), some (vR 43), some (vI i), none, none, none] [] F A 0)) ∧ (w32 (x_and (xs (w32 i)) 63) = 0 + 1 + 1 + 1 + 1 + 1 → (lawJ Ls i F A 413 [some (vR 999), some (vR 0), some (vR 25), some (vR 43), some (vI i), none, none, none] [] F A 0)) ∧ (w32 (x_and (xs (w32 i)) 63) = 0 + 1 + 1 + 1 + 1 + 1 + 1 → (lawJ Ls i F A 426 [some (vR 999), some (vR 0), some (vR 25), some (vR 43), some (vI i), none, none, none] [] F A 0)) ∧ (w32 (x_and (xs (w32 i)) 63) = 0 + 1 + 1 + 1 + 1 + 1 + 1 + 1 → (lawJ Ls i F A 451 [some (vR 999), some (vR 0), some (vR 25), some (vR 43), some (vI i), none, none, none] [] F A 0)) ∧ (w32 (x_and (xs (w32 i)) 63) = 0 + 1 + 1 + 1 + 1 + 1 + 1 + 1 + 1 → (lawJ Ls i F A 476 [some (vR 999), some (vR 0), some (vR 25), some (vR 43), some (vI i), none, none, none] [] F A 0)) ∧ (w32 (x_and (xs (w32 i)) 63) = 0 + 1 + 1 + 1 + 1 + 1 + 1 + 1 + 1 + 1 → (lawJ Ls i F A 501 [some (vR 999), some (vR 0), some (vR 25), some (vR 43), some (vI i), none, none, none] [] F A 0)) ∧ (w32 (x_and (xs (w32 i)) 63) = 0 + 1 + 1 + 1 + 1 + 1 + 1 + 1 + 1 + 1 + 1 → (lawJ Ls i F A 557 [some (vR 999), some (vR 0), some (vR 25), some (vR 43), some (vI i), none, none, none] [] F A 0)) ∧ (w32 (x_and (xs (w32 i)) 63) = 0 + 1 + 1 + 1 + 1 + 1 + 1 + 1 + 1 + 1 + 1 + 1 → (lawJ Ls i F A 637 [some (vR 999), some (vR 0), some (vR 25), some (vR 43), some (vI i), none, none, none] [] F A 0)) ∧ (w32 (x_and (xs (w32 i)) 63) = 0 + 1 + 1 + 1 + 1 + 1 + 1 + 1 + 1 + 1 + 1 + 1 + 1 → (lawJ Ls i F A 705 [some (vR 999), some (vR 0), some (vR 25), some (vR 43), some (vI i), none, none, none] [] F A 0)) ∧ (w32 (x_and (xs (w32 i)) 63) = 0 + 1 + 1 + 1 + 1 + 1 + 1 + 1 + 1 + 1 + 1 + 1 + 1 + 1 → (lawJ Ls i F A 808 [some (vR 999), some (vR 0), some (vR 25), some (vR 43), some (vI i), none, none, none] [] F A 0)) ∧ (w32 (x_and (xs (w32 i)) 63) = 0 + 1 + 1 + 1 + 1 + 1 + 1 + 1 + 1 + 1 + 1 + 1 + 1 + 1 + 1 → (lawJ Ls i F A 899 [some (vR 999), some (vR 0), some (vR 25), some (vR 43), some (vI i), none, none, none] [] F A 0)) ∧ (w32 (x_and (xs (w32 i)) 63) = 0 + 1 + 1 + 1 + 1 + 1 + 1 + 1 + 1 + 1 + 1 + 1 + 1 + 1 + 1 + 1 → (lawJ Ls i F A 990 [some (vR 999), some (vR 0), some (vR 25), some (vR 43), some (vI i), none, none, none] [] F A 0)) ∧ (w32 (x_and (xs (w32 i)) 63) = 0 + 1 + 1 + 1 + 1 + 1 + 1 + 1 + 1 + 1 + 1 + 1 + 1 + 1 + 1 + 1 + 1 → (lawJ Ls i F A 1082 [some (vR 999), some (vR 0), some (vR 25), some (vR 43), some (vI i), none, none, none] [] F A 0)) ∧ (w32 (x_and (xs (w32 i)) 63) = 0 + 1 + 1 + 1 + 1 + 1 + 1 + 1 + 1 + 1 + 1 + 1 + 1 + 1 + 1 + 1 + 1 + 1 → (lawJ Ls i F A 1145 [some (vR 999), some (vR 0), some (vR 25), some (vR 43), some (vI i), none, none, none] [] F A 0)) ∧ (w32 (x_and (xs (w32 i)) 63) = 0 + 1 + 1 + 1 + 1 + 1 + 1 + 1 + 1 + 1 + 1 + 1 + 1 + 1 + 1 + 1 + 1 + 1 + 1 → (lawJ Ls i F A 1201 [some (vR 999), some (vR 0), some (vR 25), some (vR 43), some (vI i), none, none, none] [] F A 0)) ∧ (w32 (x_and (xs (w32 i)) 63) = 0 + 1 + 1 + 1 + 1 + 1 + 1 + 1 + 1 + 1 + 1 + 1 + 1 + 1 + 1 + 1 + 1 + 1 + 1 + 1 → (lawJ Ls i F A 1269 [some (vR 999), some (vR 0), some (vR 25), some (vR 43), some (vI i), none, none, none] [] F A 0)) ∧ (w32 (x_and (xs (w32 i)) 63) = 0 + 1 + 1 + 1 + 1 + 1 + 1 + 1 + 1 + 1 + 1 + 1 + 1 + 1 + 1 + 1 + 1 + 1 + 1 + 1 + 1 → (lawJ Ls i F A 1349 [some (vR 999), some (vR 0), some (vR 25), some (vR 43), some (vI i), none, none, none] [] F A 0)) ∧ (w32 (x_and (xs (w32 i)) 63) = 0 + 1 + 1 + 1 + 1 + 1 + 1 + 1 + 1 + 1 + 1 + 1 + 1 + 1 + 1 + 1 + 1 + 1 + 1 + 1 + 1 + 1 → (lawJ Ls i F A 1441 [some (vR 999), some (vR 0), some (vR 25), some (vR 43), some (vI i), none, none, none] [] F A 0)) ∧ (w32 (x_and (xs (w32 i)) 63) = 0 + 1 + 1 + 1 + 1 + 1 + 1 + 1 + 1 + 1 + 1 + 1 + 1 + 1 + 1 + 1 + 1 + 1 + 1 + 1 + 1 + 1 + 1 → (lawJ Ls i F A 1516 [some (vR 999), some (vR 0), some (vR 25), some (vR 43), some (vI i), none, none, none] [] F A 0)) ∧ (w32 (x_and (xs (w32 i)) 63) = 0 + 1 + 1 + 1 + 1 + 1 + 1 + 1 + 1 + 1 + 1 + 1 + 1 + 1 + 1 + 1 + 1 + 1 + 1 + 1 + 1 + 1 + 1 + 1 → (lawJ Ls i F A 1596 [some (vR 999), some (vR 0), some (vR 25), some (vR 43), some (vI i), none, none, none] [] F A 0)) ∧ (w32 (x_and (xs (w32 i)) 63) = 0 + 1 + 1 + 1 + 1 + 1 + 1 + 1 + 1 + 1 + 1 + 1 + 1 + 1 + 1 + 1 + 1 + 1 + 1 + 1 + 1 + 1 + 1 + 1 + 1 → (lawJ Ls i F A 1664 [some (vR 999), some (vR 0), some (vR 25), some (vR 43), some (vI i), none, none, none] [] F A 0)) ∧ (w32 (x_and (xs (w32 i)) 63) = 0 + 1 + 1 + 1 + 1 + 1 + 1 + 1 + 1 + 1 + 1 + 1 + 1 + 1 + 1 + 1 + 1 + 1 + 1 + 1 + 1 + 1 + 1 + 1 + 1 + 1 → (lawJ Ls i F A 1744 [some (vR 999), some (vR 0), some (vR 25), some (vR 43), some (vI i), none, none, none] [] F A 0)) ∧ (w32 (x_and (xs (w32 i)) 63) = 0 + 1 + 1 + 1 + 1 + 1 + 1 + 1 + 1 + 1 + 1 + 1 + 1 + 1 + 1 + 1 + 1 + 1 + 1 + 1 + 1 + 1 + 1 + 1 + 1 + 1 + 1 → (lawJ Ls i F A 1824 [some (vR 999), some (vR 0), some (vR 25), some (vR 43), some (vI i), none, none, none] [] F A 0)) ∧ (w32 (x_and (xs (w32 i)) 63) = 0 + 1 + 1 + 1 + 1 + 1 + 1 + 1 + 1 + 1 + 1 + 1 + 1 + 1 + 1 + 1 + 1 + 1 + 1 + 1 + 1 + 1 + 1 + 1 + 1 + 1 + 1 + 1 → (lawJ Ls i F A 1904 [some (vR 999), some (vR 0), some (vR 25), some (vR 43), some (vI i), none, none, none] [] F A 0)) ∧ (w32 (x_and (xs (w32 i)) 63) = 0 + 1 + 1 + 1 + 1 + 1 + 1 + 1 + 1 + 1 + 1 + 1 + 1 + 1 + 1 + 1 + 1 + 1 + 1 + 1 + 1 + 1 + 1 + 1 + 1 + 1 + 1 + 1 + 1 → (lawJ Ls i F A 1984 [some (vR 999), some (vR 0), some (vR 25), some (vR 43), some (vI i), none, none, none] [] F A 0)) ∧ (w32 (x_and (xs (w32 i)) 63) = 0 + 1 + 1 + 1 + 1 + 1 + 1 + 1 + 1 + 1 + 1 + 1 + 1 + 1 + 1 + 1 + 1 + 1 + 1 + 1 + 1 + 1 + 1 + 1 + 1 + 1 + 1 + 1 + 1 + 1 → (lawJ Ls i F A 2076 [some (vR 999), some (vR 0), some (vR 25), some (vR 43), some (vI i), none, none, none] [] F A 0)) ∧ (w32 (x_and (xs (w32 i)) 63) = 0 + 1 + 1 + 1 + 1 + 1 + 1 + 1 + 1 + 1 + 1 + 1 + 1 + 1 + 1 + 1 + 1 + 1 + 1 + 1 + 1 + 1 + 1 + 1 + 1 + 1 + 1 + 1 + 1 + 1 + 1 → (lawJ Ls i F A 2151 [some (vR 999), some (vR 0), some (vR 25), some (vR 43), some (vI i), none, none, none] [] F A 0)) ∧ (w32 (x_and (xs (w32 i)) 63) = 0 + 1 + 1 + 1 + 1 + 1 + 1 + 1 + 1 + 1 + 1 + 1 + 1 + 1 + 1 + 1 + 1 + 1 + 1 + 1 + 1 + 1 + 1 + 1 + 1 + 1 + 1 + 1 + 1 + 1 + 1 + 1 → (lawJ Ls i F A 2207 [some (vR 999), some (vR 0), some (vR 25), some (vR 43), some (vI i), none, none, none] [] F A 0)) ∧ (w32 (x_and (xs (w32 i)) 63) = 0 + 1 + 1 + 1 + 1 + 1 + 1 + 1 + 1 + 1 + 1 + 1 + 1 + 1 + 1 + 1 + 1 + 1 + 1 + 1 + 1 + 1 + 1 + 1 + 1 + 1 + 1 + 1 + 1 + 1 + 1 + 1 + 1 → (lawJ Ls i F A 2263 [some (vR 999), some (vR 0), some (vR 25), some (vR 43), some (vI i), none, none, none] [] F A 0)) ∧ (w32 (x_and (xs (w32 i)) 63) = 0 + 1 + 1 + 1 + 1 + 1 + 1 + 1 + 1 + 1 + 1 + 1 + 1 + 1 + 1 + 1 + 1 + 1 + 1 + 1 + 1 + 1 + 1 + 1 + 1 + 1 + 1 + 1 + 1 + 1 + 1 + 1 + 1 + 1 → (lawJ Ls i F A 2276 [some (vR 999), some (vR 0), some (vR 25), some (vR 43), some (vI i), none, none, none] [] F A 0)) ∧ (w32 (x_and (xs (w32 i)) 63) = 0 + 1 + 1 + 1 + 1 + 1 + 1 + 1 + 1 + 1 + 1 + 1 + 1 + 1 + 1 + 1 + 1 + 1 + 1 + 1 + 1 + 1 + 1 + 1 + 1 + 1 + 1 + 1 + 1 + 1 + 1 + 1 + 1 + 1 + 1 → (lawJ Ls i F A 2332 [some (vR 999), some (vR 0), some (vR 25), some (vR 43), some (vI i), none, none, none] [] F A 0)) ∧ (w32 (x_and (xs (w32 i)) 63) = 0 + 1 + 1 + 1 + 1 + 1 + 1 + 1 + 1 + 1 + 1 + 1 + 1 + 1 + 1 + 1 + 1 + 1 + 1 + 1 + 1 + 1 + 1 + 1 + 1 + 1 + 1 + 1 + 1 + 1 + 1 + 1 + 1 + 1 + 1 + 1 → (lawJ Ls i F A 2388 [some (vR 999), some (vR 0), some (vR 25), some (vR 43), some (vI i), none, none, none] [] F A 0)) ∧ (w32 (x_and (xs (w32 i)) 63) = 0 + 1 + 1 + 1 + 1 + 1 + 1 + 1 + 1 + 1 + 1 + 1 + 1 + 1 + 1 + 1 + 1 + 1 + 1 + 1 + 1 + 1 + 1 + 1 + 1 + 1 + 1 + 1 + 1 + 1 + 1 + 1 + 1 + 1 + 1 + 1 + 1 → (lawJ Ls i F A 2456 [some (vR 999), some (vR 0), some (vR 25), some (vR 43), some (vI i), none, none, none] [] F A 0)) ∧ (w32 (x_and (xs (w32 i)) 63) = 0 + 1 + 1 + 1 + 1 + 1 + 1 + 1 + 1 + 1 + 1 + 1 + 1 + 1 + 1 + 1 + 1 + 1 + 1 + 1 + 1 + 1 + 1 + 1 + 1 + 1 + 1 + 1 + 1 + 1 + 1 + 1 + 1 + 1 + 1 + 1 + 1 + 1 → (lawJ Ls i F A 2524 [some (vR 999), some (vR 0), some (vR 25), some (vR 43), some (vI i), none, none, none] [] F A 0)) ∧ (w32 (x_and (xs (w32 i)) 63) = 0 + 1 + 1 + 1 + 1 + 1 + 1 + 1 + 1 + 1 + 1 + 1 + 1 + 1 + 1 + 1 + 1 + 1 + 1 + 1 + 1 + 1 + 1 + 1 + 1 + 1 + 1 + 1 + 1 + 1 + 1 + 1 + 1 + 1 + 1 + 1 + 1 + 1 + 1 → (lawJ Ls i F A 2592 [some (vR 999), some (vR 0), some (vR 25), some (vR 43), some (vI i), none, none, none] [] F A 0)) ∧ (w32 (x_and (xs (w32 i)) 63) = 0 + 1 + 1 + 1 + 1 + 1 + 1 + 1 + 1 + 1 + 1 + 1 + 1 + 1 + 1 + 1 + 1 + 1 + 1 + 1 + 1 + 1 + 1 + 1 + 1 + 1 + 1 + 1 + 1 + 1 + 1 + 1 + 1 + 1 + 1 + 1 + 1 + 1 + 1 + 1 → (lawJ Ls i F A 2672 [some (vR 999), some (vR 0), some (vR 25), some (vR 43), some (vI i), none, none, none] [] F A 0)) ∧ (w32 (x_and (xs (w32 i)) 63) = 0 + 1 + 1 + 1 + 1 + 1 + 1 + 1 + 1 + 1 + 1 + 1 + 1 + 1 + 1 + 1 + 1 + 1 + 1 + 1 + 1 + 1 + 1 + 1 + 1 + 1 + 1 + 1 + 1 + 1 + 1 + 1 + 1 + 1 + 1 + 1 + 1 + 1 + 1 + 1 + 1 → (lawJ Ls i F A 2740 [some (vR 999), some (vR 0), some (vR 25), some (vR 43), some (vI i), none, none, none] [] F A 0)) ∧ (w32 (x_and (xs (w32 i)) 63) = 0 + 1 + 1 + 1 + 1 + 1 + 1 + 1 + 1 + 1 + 1 + 1 + 1 + 1 + 1 + 1 + 1 + 1 + 1 + 1 + 1 + 1 + 1 + 1 + 1 + 1 + 1 + 1 + 1 + 1 + 1 + 1 + 1 + 1 + 1 + 1 + 1 + 1 + 1 + 1 + 1 + 1 → (lawJ Ls i F A 2832 [some (vR 999), some (vR 0), some (vR 25), some (vR 43), some (vI i), none, none, none] [] F A 0)) ∧ (w32 (x_and (xs (w32 i)) 63) = 0 + 1 + 1 + 1 + 1 + 1 + 1 + 1 + 1 + 1 + 1 + 1 + 1 + 1 + 1 + 1 + 1 + 1 + 1 + 1 + 1 + 1 + 1 + 1 + 1 + 1 + 1 + 1 + 1 + 1 + 1 + 1 + 1 + 1 + 1 + 1 + 1 + 1 + 1 + 1 + 1 + 1 + 1 → (lawJ Ls i F A 2924 [some (vR 999), some (vR 0), some (vR 25), some (vR 43), some (vI i), none, none, none] [] F A 0)) ∧ (w32 (x_and (xs (w32 i)) 63) = 0 + 1 + 1 + 1 + 1 + 1 + 1 + 1 + 1 + 1 + 1 + 1 + 1 + 1 + 1 + 1 + 1 + 1 + 1 + 1 + 1 + 1 + 1 + 1 + 1 + 1 + 1 + 1 + 1 + 1 + 1 + 1 + 1 + 1 + 1 + 1 + 1 + 1 + 1 + 1 + 1 + 1 + 1 + 1 → (lawJ Ls i F A 2992 [some (vR 999), some (vR 0), some (vR 25), some (vR 43), some (vI i), none, none, none] [] F A 0)) ∧ (w32 (x_and (xs (w32 i)) 63) = 0 + 1 + 1 + 1 + 1 + 1 + 1 + 1 + 1 + 1 + 1 + 1 + 1 + 1 + 1 + 1 + 1 + 1 + 1 + 1 + 1 + 1 + 1 + 1 + 1 + 1 + 1 + 1 + 1 + 1 + 1 + 1 + 1 + 1 + 1 + 1 + 1 + 1 + 1 + 1 + 1 + 1 + 1 + 1 + 1 → (lawJ Ls i F A 3060 [some (vR 999), some (vR 0), some (vR 25), some (vR 43), some (vI i), none, none, none] [] F A 0)) ∧ (w32 (x_and (xs (w32 i)) 63) = 0 + 1 + 1 + 1 + 1 + 1 + 1 + 1 + 1 + 1 + 1 + 1 + 1 + 1 + 1 + 1 + 1 + 1 + 1 + 1 + 1 + 1 + 1 + 1 + 1 + 1 + 1 + 1 + 1 + 1 + 1 + 1 + 1 + 1 + 1 + 1 + 1 + 1 + 1 + 1 + 1 + 1 + 1 + 1 + 1 + 1 → (lawJ Ls i F A 3116 [some (vR 999), some (vR 0), some (vR 25), some (vR 43), some (vI i), none, none, none] [] F A 0)) ∧ (w32 (x_and (xs (w32 i)) 63) = 0 + 1 + 1 + 1 + 1 + 1 + 1 + 1 + 1 + 1 + 1 + 1 + 1 + 1 + 1 + 1 + 1 + 1 + 1 + 1 + 1 + 1 + 1 + 1 + 1 + 1 + 1 + 1 + 1 + 1 + 1 + 1 + 1 + 1 + 1 + 1 + 1 + 1 + 1 + 1 + 1 + 1 + 1 + 1 + 1 + 1 + 1 → (lawJ Ls i F A 3129 [some (vR 999), some (vR 0), some (vR 25), some (vR 43), some (vI i), none, none, none] [] F A 0)) ∧ (w32 (x_and (xs (w32 i)) 63) = 0 + 1 + 1 + 1 + 1 + 1 + 1 + 1 + 1 + 1 + 1 + 1 + 1 + 1 + 1 + 1 + 1 + 1 + 1 + 1 + 1 + 1 + 1 + 1 + 1 + 1 + 1 + 1 + 1 + 1 + 1 + 1 + 1 + 1 + 1 + 1 + 1 + 1 + 1 + 1 + 1 + 1 + 1 + 1 + 1 + 1 + 1 + 1 → (lawJ Ls i F A 3233 [some (vR 999), some (vR 0), some (vR 25), some (vR 43), some (vI i), none, none, none] [] F A 0)) ∧ (w32 (x_and (xs (w32 i)) 63) = 0 + 1 + 1 + 1 + 1 + 1 + 1 + 1 + 1 + 1 + 1 + 1 + 1 + 1 + 1 + 1 + 1 + 1 + 1 + 1 + 1 + 1 + 1 + 1 + 1 + 1 + 1 + 1 + 1 + 1 + 1 + 1 + 1 + 1 + 1 + 1 + 1 + 1 + 1 + 1 + 1 + 1 + 1 + 1 + 1 + 1 + 1 + 1 + 1 → (lawJ Ls i F A 3294 [some (vR 999), some (vR 0), some (vR 25), some (vR 43), some (vI i), none, none, none] [] F A 0)) ∧ (w32 (x_and (xs (w32 i)) 63) = 0 + 1 + 1 + 1 + 1 + 1 + 1 + 1 + 1 + 1 + 1 + 1 + 1 + 1 + 1 + 1 + 1 + 1 + 1 + 1 + 1 + 1 + 1 + 1 + 1 + 1 + 1 + 1 + 1 + 1 + 1 + 1 + 1 + 1 + 1 + 1 + 1 + 1 + 1 + 1 + 1 + 1 + 1 + 1 + 1 + 1 + 1 + 1 + 1 + 1 → (lawJ Ls i F A 3343 [some (vR 999), some (vR 0), some (vR 25), some (vR 43), some (vI i), none, none, none] [] F A 0)) ∧ (w32 (x_and (xs (w32 i)) 63) = 0 + 1 + 1 + 1 + 1 + 1 + 1 + 1 + 1 + 1 + 1 + 1 + 1 + 1 + 1 + 1 + 1 + 1 + 1 + 1 + 1 + 1 + 1 + 1 + 1 + 1 + 1 + 1 + 1 + 1 + 1 + 1 + 1 + 1 + 1 + 1 + 1 + 1 + 1 + 1 + 1 + 1 + 1 + 1 + 1 + 1 + 1 + 1 + 1 + 1 + 1 → (lawJ Ls i F A 3416 [some (vR 999), some (vR 0), some (vR 25), some (vR 43), some (vI i), none, none, none] [] F A 0)) ∧ (w32 (x_and (xs (w32 i)) 63) = 0 + 1 + 1 + 1 + 1 + 1 + 1 + 1 + 1 + 1 + 1 + 1 + 1 + 1 + 1 + 1 + 1 + 1 + 1 + 1 + 1 + 1 + 1 + 1 + 1 + 1 + 1 + 1 + 1 + 1 + 1 + 1 + 1 + 1 + 1 + 1 + 1 + 1 + 1 + 1 + 1 + 1 + 1 + 1 + 1 + 1 + 1 + 1 + 1 + 1 + 1 + 1 → (lawJ Ls i F A 3453 [some (vR 999), some (vR 0), some (vR 25), some (vR 43), some (vI i), none, none, none] [] F A 0)) ∧ (w32 (x_and (xs (w32 i)) 63) = 0 + 1 + 1 + 1 + 1 + 1 + 1 + 1 + 1 + 1 + 1 + 1 + 1 + 1 + 1 + 1 + 1 + 1 + 1 + 1 + 1 + 1 + 1 + 1 + 1 + 1 + 1 + 1 + 1 + 1 + 1 + 1 + 1 + 1 + 1 + 1 + 1 + 1 + 1 + 1 + 1 + 1 + 1 + 1 + 1 + 1 + 1 + 1 + 1 + 1 + 1 + 1 + 1 → (lawJ Ls i F A 3478 [some (vR 999), some (vR 0), some (vR 25), some (vR 43), some (vI i), none, none, none] [] F A 0)) ∧ (w32 (x_and (xs (w32 i)) 63) = 0 + 1 + 1 + 1 + 1 + 1 + 1 + 1 + 1 + 1 + 1 + 1 + 1 + 1 + 1 + 1 + 1 + 1 + 1 + 1 + 1 + 1 + 1 + 1 + 1 + 1 + 1 + 1 + 1 + 1 + 1 + 1 + 1 + 1 + 1 + 1 + 1 + 1 + 1 + 1 + 1 + 1 + 1 + 1 + 1 + 1 + 1 + 1 + 1 + 1 + 1 + 1 + 1 + 1 → (lawJ Ls i F A 3539 [some (vR 999), some (vR 0), some (vR 25), some (vR 43), some (vI i), none, none, none] [] F A 0)) ∧ (w32 (x_and (xs (w32 i)) 63) = 0 + 1 + 1 + 1 + 1 + 1 + 1 + 1 + 1 + 1 + 1 + 1 + 1 + 1 + 1 + 1 + 1 + 1 + 1 + 1 + 1 + 1 + 1 + 1 + 1 + 1 + 1 + 1 + 1 + 1 + 1 + 1 + 1 + 1 + 1 + 1 + 1 + 1 + 1 + 1 + 1 + 1 + 1 + 1 + 1 + 1 + 1 + 1 + 1 + 1 + 1 + 1 + 1 + 1 + 1 → (lawJ Ls i F A 3576 [some (vR 999), some (vR 0), some (vR 25), some (vR 43), some (vI i), none, none, none] [] F A 0)) ∧ True) ∧ (w32 (x_and (xs (w32 i)) 63) < 0 ∨ 54 < w32 (x_and (xs (w32 i)) 63) → (lawJ Ls i F A 3589 [some (vR 999), some (vR 0), some (vR 25), some (vR 43), some (vI i), none, none, none] [] F A 0)))))
  refine ⟨fun c1 => ?_, fun c1 => ?_⟩
  · skip
    skip
    refine ⟨by decide, ?_⟩
    exact rfl
  · skip
    skip
    have hi : i + 6 ≤ Ls := by
      rw [w32_id (by omega) (by omega), w32_id (by omega) (by omega)] at c1
      omega
    refine ⟨by rw [w32_id (by omega) (by omega)]; omega, ?_⟩
    refine ⟨⟨fun c2 => ?_, fun c2 => ?_, fun c2 => ?_, fun c2 => ?_, fun c2 => ?_, fun c2 => ?_, fun c2 => ?_, fun c2 => ?_, fun c2 => ?_, fun c2 => ?_, fun c2 => ?_, fun c2 => ?_, fun c2 => ?_, fun c2 => ?_, fun c2 => ?_, fun c2 => ?_, fun c2 => ?_, fun c2 => ?_, fun c2 => ?_, fun c2 => ?_, fun c2 => ?_, fun c2 => ?_, fun c2 => ?_, fun c2 => ?_, fun c2 => ?_, fun c2 => ?_, fun c2 => ?_, fun c2 => ?_, fun c2 => ?_, fun c2 => ?_, fun c2 => ?_, fun c2 => ?_, fun c2 => ?_, fun c2 => ?_, fun c2 => ?_, fun c2 => ?_, fun c2 => ?_, fun c2 => ?_, fun c2 => ?_, fun c2 => ?_, fun c2 => ?_, fun c2 => ?_, fun c2 => ?_, fun c2 => ?_, fun c2 => ?_, fun c2 => ?_, fun c2 => ?_, fun c2 => ?_, fun c2 => ?_, fun c2 => ?_, fun c2 => ?_, fun c2 => ?_, fun c2 => ?_, fun c2 => ?_, fun c2 => ?_, trivial⟩, fun c2 => ?_⟩
    · skip
      skip
      exact ⟨rfl, rfl, rfl, rfl, rfl, hi, by decide⟩
    · skip
      skip
      exact ⟨rfl, rfl, rfl, rfl, rfl, hi, by decide⟩
    · skip
      skip
      exact ⟨rfl, rfl, rfl, rfl, rfl, hi, by decide⟩
    · skip
      skip
      exact ⟨rfl, rfl, rfl, rfl, rfl, hi, by decide⟩
    · skip
      skip
      exact ⟨rfl, rfl, rfl, rfl, rfl, hi, by decide⟩
    · skip
      skip
      exact ⟨rfl, rfl, rfl, rfl, rfl, hi, by decide⟩
    · skip
      skip
      exact ⟨rfl, rfl, rfl, rfl, rfl, hi, by decide⟩
    · skip
      skip
      exact ⟨rfl, rfl, rfl, rfl, rfl, hi, by decide⟩
    · skip
      skip
      exact ⟨rfl, rfl, rfl, rfl, rfl, hi, by decide⟩
    · skip
      skip
      exact ⟨rfl, rfl, rfl, rfl, rfl, hi, by decide⟩
    · skip
      skip
      exact ⟨rfl, rfl, rfl, rfl, rfl, hi, by decide⟩
    · skip
      skip
      exact ⟨rfl, rfl, rfl, rfl, rfl, hi, by decide⟩
    · skip
      skip
      exact ⟨rfl, rfl, rfl, rfl, rfl, hi, by decide⟩
    · skip
      skip
      exact ⟨rfl, rfl, rfl, rfl, rfl, hi, by decide⟩
    · skip
      skip
      exact ⟨rfl, rfl, rfl, rfl, rfl, hi, by decide⟩
    · skip
      skip
      exact ⟨rfl, rfl, rfl, rfl, rfl, hi, by decide⟩
    · skip
      skip
      exact ⟨rfl, rfl, rfl, rfl, rfl, hi, by decide⟩
    · skip
      skip
      exact ⟨rfl, rfl, rfl, rfl, rfl, hi, by decide⟩
    · skip
      skip
      exact ⟨rfl, rfl, rfl, rfl, rfl, hi, by decide⟩
    · skip
      skip
      exact ⟨rfl, rfl, rfl, rfl, rfl, hi, by decide⟩
    · skip
      skip
      exact ⟨rfl, rfl, rfl, rfl, rfl, hi, by decide⟩
    · skip
      skip
      exact ⟨rfl, rfl, rfl, rfl, rfl, hi, by decide⟩
    · skip
      skip
      exact ⟨rfl, rfl, rfl, rfl, rfl, hi, by decide⟩
    · skip
      skip
      exact ⟨rfl, rfl, rfl, rfl, rfl, hi, by decide⟩
    · skip
      skip
      exact ⟨rfl, rfl, rfl, rfl, rfl, hi, by decide⟩
    · skip
      skip
      exact ⟨rfl, rfl, rfl, rfl, rfl, hi, by decide⟩
    · skip
      skip
      exact ⟨rfl, rfl, rfl, rfl, rfl, hi, by decide⟩
    · skip
      skip
      exact ⟨rfl, rfl, rfl, rfl, rfl, hi, by decide⟩
    · skip
      skip
      exact ⟨rfl, rfl, rfl, rfl, rfl, hi, by decide⟩
    · skip
      skip
      exact ⟨rfl, rfl, rfl, rfl, rfl, hi, by decide⟩
    · skip
      skip
      exact ⟨rfl, rfl, rfl, rfl, rfl, hi, by decide⟩
    · skip
      skip
      exact ⟨rfl, rfl, rfl, rfl, rfl, hi, by decide⟩
    · skip
      skip
      exact ⟨rfl, rfl, rfl, rfl, rfl, hi, by decide⟩
    · skip
      skip
      exact ⟨rfl, rfl, rfl, rfl, rfl, hi, by decide⟩
    · skip
      skip
      exact ⟨rfl, rfl, rfl, rfl, rfl, hi, by decide⟩
    · skip
      skip
      exact ⟨rfl, rfl, rfl, rfl, rfl, hi, by decide⟩
    · skip
      skip
      exact ⟨rfl, rfl, rfl, rfl, rfl, hi, by decide⟩
    · skip
      skip
      exact ⟨rfl, rfl, rfl, rfl, rfl, hi, by decide⟩
    · skip
      skip
      exact ⟨rfl, rfl, rfl, rfl, rfl, hi, by decide⟩
    · skip
      skip
      exact ⟨rfl, rfl, rfl, rfl, rfl, hi, by decide⟩
    · skip
      skip
      exact ⟨rfl, rfl, rfl, rfl, rfl, hi, by decide⟩
    · skip
      skip
      exact ⟨rfl, rfl, rfl, rfl, rfl, hi, by decide⟩
    · skip
      skip
      exact ⟨rfl, rfl, rfl, rfl, rfl, hi, by decide⟩
    · skip
      skip
      exact ⟨rfl, rfl, rfl, rfl, rfl, hi, by decide⟩
    · skip
      skip
      exact ⟨rfl, rfl, rfl, rfl, rfl, hi, by decide⟩
    · skip
      skip
      exact ⟨rfl, rfl, rfl, rfl, rfl, hi, by decide⟩
    · skip
      skip
      exact ⟨rfl, rfl, rfl, rfl, rfl, hi, by decide⟩
    · skip
      skip
      exact ⟨rfl, rfl, rfl, rfl, rfl, hi, by decide⟩
    · skip
      skip
      exact ⟨rfl, rfl, rfl, rfl, rfl, hi, by decide⟩
    · skip
      skip
      exact ⟨rfl, rfl, rfl, rfl, rfl, hi, by decide⟩
    · skip
      skip
      exact ⟨rfl, rfl, rfl, rfl, rfl, hi, by decide⟩
    · skip
      skip
      exact ⟨rfl, rfl, rfl, rfl, rfl, hi, by decide⟩
    · skip
      skip
      exact ⟨rfl, rfl, rfl, rfl, rfl, hi, by decide⟩
    · skip
      skip
      exact ⟨rfl, rfl, rfl, rfl, rfl, hi, by decide⟩
    · skip
      skip
      exact ⟨rfl, rfl, rfl, rfl, rfl, hi, by decide⟩
    · skip
      skip
      exact ⟨rfl, rfl, rfl, rfl, rfl, hi, by decide⟩
def qkL_d : Nat → Option CI := fun pc => cond (Nat.ble 3593 pc) none (cond (Nat.beq pc 3589) (some (.iinc 4 6, 3592, [])) (cond (Nat.beq pc 3592) (some (.goto (-3569), 3595, [23])) (none)))
theorem qkL_d_ok : ∀ pc i nx ts, qkL_d pc = some (i, nx, ts) → am_cok cL_law pc (i, nx, ts) = true := fun pc i nx ts h => am_tok_ok (n := 3593) (by decide +kernel) (fun pc h => by show cond (Nat.ble 3593 pc) _ _ = _; rw [Nat.ble_eq_true_of_le h]; rfl) h
def qaL_d : Nat → Option CE := fun k => none
theorem qyL_d (l : Launch) (hst : l.stackTraces = false) : ∀ k e1, qaL_d k = some e1 → am_cal l layL RL 40 k e1 ∧ True := q_nil
def qxL_d (Ls : Int) (xs : Int → Int) : CX := (qkL_d, layL, qfL, qaL_d, qcL, qlL, qmL, some .boolean, false, none, 2, some (Ls, xs), fun _ => none)
theorem qzL_d (l : Launch) (hst : l.stackTraces = false) (Ls : Int) (xs : Int → Int) : am_sta l (qxL_d Ls xs) RL 40 cL_law := ⟨qkL_d_ok, layL_ok, qfL_ok, qcL_ok, qlL_ok, am_mthP qmL_ok (by decide), fun k e1 h => (qyL_d l hst k e1 h).1⟩
set_option maxRecDepth 20000 in
theorem qvL_d (Ls : Int) (xs : Int → Int) (F : FF) (A : AA) (i : Int) (hR : REL F A) : am_stp (qxL_d Ls xs) (am_run (qxL_d Ls xs) lawC (lawI i) lawK 5) lawK 3589 [some (vR 999), some (vR 0), some (vR 25), some (vR 43), some (vI i), none, none, none] [] F A 0 := by
  show (999 : Nat) = 999 ∧ (0 : Nat) = 0 ∧ (25 : Nat) = 25 ∧ (43 : Nat) = 43 ∧ i + 6 = i + 6 ∧ REL F A ∧ (0 : Nat) ≤ 2
  exact ⟨rfl, rfl, rfl, rfl, rfl, hR, by decide⟩
