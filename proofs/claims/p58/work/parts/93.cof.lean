/-! newarray, told of one frame; a method that hands its row back -/
section CHN
variable {p : Program} {l : Launch} {e : Env} {R : Room} {s : State} {m : MethodId} {args : Array Value} {below : List Frame} {meth : Method} {c : Code} {Q : State → Prop}
set_option maxHeartbeats 1000000 in
theorem am_nwc {cc : ByteArray} {own : String} {nL : Nat} {x x' : CX} {kd pc k0 : Nat} {len : Int} {atype : Jvm.ClassFile.ArrayType} {D : va_G} {al : Nat → Nat} {kC : Nat → ClassId} {As : Nat → Prop} {cb sb : Nat} {K : KK} {rec : REC} (hk0 : (cxLay x).length = k0) (hat : (kd = 0 ∧ atype = .int) ∨ (kd = 1 ∧ atype = .long)) (hlen : 0 ≤ len ∧ len ≤ 16) (hlay : cxLay x' = cxLay x ++ [.inr (kd, len)]) (hmc : cxMc x' = cxMc x) (hrok : (cxLay x).all (am_rok (cxLay x).length) = true) (hdec : decode cc pc = .ok (.newarray atype, 2)) (harr : Cond.arrayClass (newarray.typeOf atype) ∈ am_tb)
    (hE : am_env p l e R s m args c cc own nL D al kC (cxLay x) As cb sb (cxMc x) am_tb)
    (hg : ∀ al' : Nat → Nat, (∀ j, j < k0 → al' j = al j) → am_dis al' (cxLay x') As → am_good x' K (am_W p l e R s m args below meth c Q nL D al' kC (cxLay x') As cb sb (cxMc x'))) : ∀ ls st F A u, am_nwB x' k0 len (pc + 2) rec K ls st F A u → am_W p l e R s m args below meth c Q nL D al kC (cxLay x) As cb sb (cxMc x) pc ls st F A u := by
  subst hk0
  intro ls st F A u h hu H locs lsC hl hP hS
  unfold am_nwB at h
  split at h
  · rename_i v r
    obtain ⟨⟨hv, hn1, hn2, hu1⟩, h⟩ := h
    obtain ⟨hexec, hb, hml, hown, hts, hK, hdis, hA, hc1, hc2⟩ := id hE
    have hD := am_dis_D (kC := kC) hdis F A
    rw [hmc] at hu1
    have hv0 : ¬ Int32.ofInt v < 0 := fun q => by
      have := (w32_lt v 0).mp q
      rw [w32_0] at this
      omega
    have hvN : (Int32.ofInt v).toNatClampNeg = len.toNat := by
      show (Int32.ofInt v).toInt.toNat = _
      rw [show (Int32.ofInt v).toInt = len from hv]
    have key : ∀ (q : Nat) (H1 : Heap), va_P D vwCl (am_ws al kC (cxLay x) F A ++ [(q, .inl (kC kd, (len.toNat, if kd = 1 then .inr (.inl fun _ => 0) else .inl fun _ => 0)))]) H1 → va_D As (am_ws al kC (cxLay x) F A ++ [(q, .inl (kC kd, (len.toNat, if kd = 1 then .inr (.inl fun _ => 0) else .inl fun _ => 0)))]) → va_S As s.heap H1 locs →
        W p l e R s m args below meth c H1 locs (cb + u + 1) (sb + 16 * u + len.toNat) Q (F0 m (pc + 2) lsC (.ref q :: r.map (am_cv al))) := by
      intro q H1 hP1 hD1 hS1
      obtain ⟨hP2, hdis2⟩ := am_one_row hrok (by rcases hat with h | h <;> simp [h.1]) hP1 hD1
      have hal : ∀ j, j < (cxLay x).length → (fun k => if k = (cxLay x).length then q else al k) j = al j := fun j hj => if_neg (by omega)
      rw [← hlay] at hP2 hdis2
      have g := h _ (hg _ hal hdis2) (by rw [hmc]; exact hu1) H1 locs lsC (am_LR_ext hal hn1 hl) hP2 hS1
      have es : (vR (cxLay x).length :: r).map (am_cv fun k => if k = (cxLay x).length then q else al k) = .ref q :: r.map (am_cv al) := by
        rw [List.map_cons, am_map_ext hal hn2]
        show Value.ref (if (cxLay x).length = (cxLay x).length then q else al (cxLay x).length) :: _ = _
        rw [if_pos rfl]
      rw [es] at g
      refine W.widen (k := cb + (u + 1)) (n := sb + 16 * (u + 1)) (by omega) (by omega) g
    rcases hat with ⟨rfl, rfl⟩ | ⟨rfl, rfl⟩
    · exact cn_newa (atype := .int) (a0 := (len.toNat, .inl fun _ => 0)) hexec hb (hts _ harr) rfl hK 0 rfl hP hD hS hA (fun _ => rfl) hv0 hvN (by show len.toNat * 4 ≤ _; omega) (by omega) (by omega) hdec key
    · exact cn_newa (atype := .long) (a0 := (len.toNat, .inr (.inl fun _ => 0))) hexec hb (hts _ harr) rfl hK 1 rfl hP hD hS hA (fun _ => rfl) hv0 hvN (by show len.toNat * 8 ≤ _; omega) (by omega) (by omega) hdec key
  · exact h.elim
end CHN
def am_arB (KR : FF → AA → Prop) : BLK := fun _ _ _ st F A _ => match st with
  | [.inr (.inr k)] => k = 25 ∧ KR F A
  | _ => False
/-- what coefficients does: a row more -/
def coP (A B : AA) (c l : Int) : Prop := (∀ b, b < 25 → B b = A b) ∧ ∀ k, 0 ≤ k → k < A 2 (18 + c) → B 25 k = cfR (A 2) c l k
def coH (A : AA) (c l : Int) : Prop := fgOK (A 2) ∧ (0 ≤ c ∧ c < A 2 0) ∧ (0 ≤ l ∧ l < A 2 1)
theorem cfR_v {f : Int → Int} (h : fgOK f) {c l k : Int} (hc : 0 ≤ c ∧ c < f 0) (hl : 0 ≤ l ∧ l < f 1) (k0 : 0 ≤ k) (k1 : k < f (18 + c)) : w32 (f (26 + (c * 4 + k) * 3 + 2)) * w32 (f (122 + l * 3 + 0) * f (26 + (c * 4 + k) * 3 + 0) + f (122 + l * 3 + 1) * f (26 + (c * 4 + k) * 3 + 1) + f (122 + l * 3 + 2)) = cfR f c l k := by
  obtain ⟨a, b, d⟩ := (h.2.2.1 c hc.1 hc.2).2 k k0 k1
  have e0 := h.2.2.2 l 0 hl.1 hl.2 (by omega) (by omega)
  have e1 := h.2.2.2 l 1 hl.1 hl.2 (by omega) (by omega)
  have e2 := h.2.2.2 l 2 hl.1 hl.2 (by omega) (by omega)
  unfold pxF at a b d
  unfold cfR
  generalize f (26 + (c * 4 + k) * 3 + 0) = x at a ⊢
  generalize f (26 + (c * 4 + k) * 3 + 1) = y at b ⊢
  generalize f (26 + (c * 4 + k) * 3 + 2) = w at d ⊢
  generalize f (122 + l * 3 + 0) = u at e0 ⊢
  generalize f (122 + l * 3 + 1) = v at e1 ⊢
  generalize f (122 + l * 3 + 2) = z at e2 ⊢
  have m : ∀ s t : Int, -200 ≤ s → s ≤ 200 → 0 ≤ t → t ≤ 20 → -4000 ≤ s * t ∧ s * t ≤ 4000 := by
    intro s t s0 s1 t0 t1
    have p1 : s * t ≤ 200 * t := Int.mul_le_mul_of_nonneg_right s1 t0
    have p2 : -200 * t ≤ s * t := Int.mul_le_mul_of_nonneg_right s0 t0
    omega
  have m1 := m u x e0.1 e0.2 a.1 a.2
  have m2 := m v y e1.1 e1.2 b.1 b.2
  generalize u * x = s at m1 ⊢
  generalize v * y = t at m2 ⊢
  rw [w32_id (x := w) (by omega) (by omega), w32_id (x := s + t + z) (by omega) (by omega)]
def qkL_coefficients : Nat → Option CI := fun pc => cond (Nat.ble 78 pc) none (cond (Nat.ble 39 pc) (cond (Nat.ble 58 pc) (cond (Nat.ble 66 pc) (cond (Nat.ble 69 pc) (cond (Nat.ble 73 pc) (cond (Nat.beq pc 73) (some (.goto (-66), 76, [7])) (cond (Nat.beq pc 76) (some (.aload_n 3, 77, [])) (none))) (cond (Nat.beq pc 69) (some (.lastore, 70, [])) (cond (Nat.beq pc 70) (some (.iinc 4 1, 73, [])) (none)))) (cond (Nat.beq pc 66) (some (.iadd, 67, [])) (cond (Nat.beq pc 67) (some (.i2l, 68, [])) (cond (Nat.beq pc 68) (some (.lmul, 69, [])) (none))))) (cond (Nat.ble 61 pc) (cond (Nat.beq pc 61) (some (.iload_n 2, 62, [])) (cond (Nat.beq pc 62) (some (.iconst 2, 63, [])) (cond (Nat.beq pc 63) (some (.invokevirtual 162, 66, [])) (none)))) (cond (Nat.beq pc 58) (some (.imul, 59, [])) (cond (Nat.beq pc 59) (some (.iadd, 60, [])) (cond (Nat.beq pc 60) (some (.aload_n 0, 61, [])) (none)))))) (cond (Nat.ble 47 pc) (cond (Nat.ble 52 pc) (cond (Nat.beq pc 52) (some (.iload 4, 54, [])) (cond (Nat.beq pc 54) (some (.iconst 1, 55, [])) (cond (Nat.beq pc 55) (some (.invokevirtual 159, 58, [])) (none)))) (cond (Nat.beq pc 47) (some (.invokevirtual 162, 50, [])) (cond (Nat.beq pc 50) (some (.aload_n 0, 51, [])) (cond (Nat.beq pc 51) (some (.iload_n 1, 52, [])) (none))))) (cond (Nat.ble 44 pc) (cond (Nat.beq pc 44) (some (.aload_n 0, 45, [])) (cond (Nat.beq pc 45) (some (.iload_n 2, 46, [])) (cond (Nat.beq pc 46) (some (.iconst 1, 47, [])) (none)))) (cond (Nat.beq pc 39) (some (.iconst 0, 40, [])) (cond (Nat.beq pc 40) (some (.invokevirtual 159, 43, [])) (cond (Nat.beq pc 43) (some (.imul, 44, [])) (none))))))) (cond (Nat.ble 21 pc) (cond (Nat.ble 30 pc) (cond (Nat.ble 35 pc) (cond (Nat.beq pc 35) (some (.aload_n 0, 36, [])) (cond (Nat.beq pc 36) (some (.iload_n 1, 37, [])) (cond (Nat.beq pc 37) (some (.iload 4, 39, [])) (none)))) (cond (Nat.beq pc 30) (some (.iload_n 2, 31, [])) (cond (Nat.beq pc 31) (some (.iconst 0, 32, [])) (cond (Nat.beq pc 32) (some (.invokevirtual 162, 35, [])) (none))))) (cond (Nat.ble 25 pc) (cond (Nat.beq pc 25) (some (.invokevirtual 159, 28, [])) (cond (Nat.beq pc 28) (some (.i2l, 29, [])) (cond (Nat.beq pc 29) (some (.aload_n 0, 30, [])) (none)))) (cond (Nat.beq pc 21) (some (.iload_n 1, 22, [])) (cond (Nat.beq pc 22) (some (.iload 4, 24, [])) (cond (Nat.beq pc 24) (some (.iconst 2, 25, [])) (none)))))) (cond (Nat.ble 10 pc) (cond (Nat.ble 17 pc) (cond (Nat.beq pc 17) (some (.aload_n 3, 18, [])) (cond (Nat.beq pc 18) (some (.iload 4, 20, [])) (cond (Nat.beq pc 20) (some (.aload_n 0, 21, [])) (none)))) (cond (Nat.beq pc 10) (some (.iload_n 1, 11, [])) (cond (Nat.beq pc 11) (some (.invokevirtual 121, 14, [])) (cond (Nat.beq pc 14) (some (.if_icmp .gt 62, 17, [76])) (none))))) (cond (Nat.ble 5 pc) (cond (Nat.beq pc 5) (some (.istore 4, 7, [])) (cond (Nat.beq pc 7) (some (.iload 4, 9, [])) (cond (Nat.beq pc 9) (some (.aload_n 0, 10, [])) (none)))) (cond (Nat.beq pc 0) (some (.iconst 4, 1, [])) (cond (Nat.beq pc 3) (some (.astore_n 3, 4, [])) (cond (Nat.beq pc 4) (some (.iconst 0, 5, [])) (none))))))))
theorem qkL_coefficients_ok : ∀ pc i nx ts, qkL_coefficients pc = some (i, nx, ts) → am_cok cL_coefficients pc (i, nx, ts) = true := fun pc i nx ts h => am_tok_ok (n := 78) (by decide +kernel) (fun pc h => by show cond (Nat.ble 78 pc) _ _ = _; rw [Nat.ble_eq_true_of_le h]; rfl) h
theorem dk_L_coefficients_1 : decode cL_coefficients 1 = .ok (.newarray .long, 2) := by decide +kernel
theorem dk_L_coefficients_77 : decode cL_coefficients 77 = .ok (.areturn, 1) := by decide +kernel
def qaL_coefficientsR1 : Nat → Option CE := fun k => cond (Nat.beq k 121) (some qeZ8_degree) (cond (Nat.beq k 159) (some qeZ8_control) (cond (Nat.beq k 162) (some qeZ8_lineNumber) (none)))
theorem qyL_coefficientsR1 (l : Launch) : ∀ k e1, qaL_coefficientsR1 k = some e1 → am_cal l layR1 RL 11 k e1 ∧ ceT e1 = 0 := q_cons ⟨am_calV (ci := 8) (am_CT_mono layX_R1 (qtZ8_degree l)) qbZ8_degree (by decide) rfl (am_tb_at 773 (by decide +kernel) rfl), rfl⟩ (q_cons ⟨am_calV (ci := 8) (am_CT_mono layX_R1 (qtZ8_control l)) qbZ8_control (by decide) rfl (am_tb_at 984 (by decide +kernel) rfl), rfl⟩ (q_cons ⟨am_calV (ci := 8) (am_CT_mono layX_R1 (qtZ8_lineNumber l)) qbZ8_lineNumber (by decide) rfl (am_tb_at 1085 (by decide +kernel) rfl), rfl⟩ (q_nil)))
def qxL_coefficientsR1 (KR : FF → AA → Prop) : CX := (qkL_coefficients, layR1, qfL, qaL_coefficientsR1, qcL, qlL, qmL, (some (.array .long)), false, none, 1, none, fun pc => cond (Nat.beq pc 77) (some (am_arB KR)) (none))
theorem qzL_coefficientsR1 (l : Launch) (KR : FF → AA → Prop) : am_sta l (qxL_coefficientsR1 KR) RL 11 cL_coefficients := ⟨qkL_coefficients_ok, layR1_ok, qfL_ok, qcL_ok, qlL_ok, am_mthP qmL_ok (by decide), fun k e1 h => (qyL_coefficientsR1 l k e1 h).1⟩
def qaL_coefficientsR0 : Nat → Option CE := fun k => cond (Nat.beq k 121) (some qeZ8_degree) (cond (Nat.beq k 159) (some qeZ8_control) (cond (Nat.beq k 162) (some qeZ8_lineNumber) (none)))
theorem qyL_coefficientsR0 (l : Launch) : ∀ k e1, qaL_coefficientsR0 k = some e1 → am_cal l layX RL 11 k e1 ∧ ceT e1 = 0 := q_cons ⟨am_calV (ci := 8) (qtZ8_degree l) qbZ8_degree (by decide) rfl (am_tb_at 773 (by decide +kernel) rfl), rfl⟩ (q_cons ⟨am_calV (ci := 8) (qtZ8_control l) qbZ8_control (by decide) rfl (am_tb_at 984 (by decide +kernel) rfl), rfl⟩ (q_cons ⟨am_calV (ci := 8) (qtZ8_lineNumber l) qbZ8_lineNumber (by decide) rfl (am_tb_at 1085 (by decide +kernel) rfl), rfl⟩ (q_nil)))
def qxL_coefficientsR0 (KR : FF → AA → Prop) : CX := (qkL_coefficients, layX, qfL, qaL_coefficientsR0, qcL, qlL, qmL, (some (.array .long)), false, none, 1, none, fun pc => cond (Nat.beq pc 1) (some (am_nwB (qxL_coefficientsR1 KR) 25 4 3)) (none))
theorem qzL_coefficientsR0 (l : Launch) (KR : FF → AA → Prop) : am_sta l (qxL_coefficientsR0 KR) RL 11 cL_coefficients := ⟨qkL_coefficients_ok, layX_ok, qfL_ok, qcL_ok, qlL_ok, am_mthP qmL_ok (by decide), fun k e1 h => (qyL_coefficientsR0 l k e1 h).1⟩
set_option maxRecDepth 20000 in
theorem cof_7 {A0 : AA} {F : FF} {c l : Int} {KR : FF → AA → Prop} {K : KK} {V : REC} (hg : am_good (qxL_coefficientsR1 KR) K V) (hh : coH A0 c l) (hK : ∀ B, coP A0 B c l → KR F B) : ∀ (j : Nat) (k : Int) (A : AA), Int.toNat (5 - k) ≤ j → ((∀ b, b < 25 → A b = A0 b) ∧ (0 ≤ k ∧ k ≤ A0 2 (18 + c)) ∧ ∀ i, 0 ≤ i → i < k → A 25 i = cfR (A0 2) c l i) → V 7 [some (vR 0), some (vI c), some (vI l), some (vR 25), some (vI k)] [] F A 1
  | 0, k, A, hj, hi => by
    obtain ⟨hA, hk, hB⟩ := hi
    have hs := (hh.1.2.2.1 c hh.2.1.1 hh.2.1.2).1
    omega
  | j + 1, k, A, hj, hi => by
    obtain ⟨hA, hk, hB⟩ := hi
    obtain ⟨hf, hc, hl⟩ := id hh
    have hc8 := hf.1.1
    have hl6 := hf.1.2
    have hs := (hf.2.2.1 c hc.1 hc.2).1
    have h2 := hA 2 (by decide)
    refine hg.1 _ (am_runs (cut := (fun pc => cond (Nat.beq pc 7) (some [true, true, true, true, true]) (none))) (Kc := V) (fun _ _ _ _ _ _ h => h) hg 47) 7 [some (vR 0), some (vI c), some (vI l), some (vR 25), some (vI k)] [] _ _ 1 ?_
    show ((0 ≤ c ∧ c < A 2 0) ∧ (0 ≤ A 2 0 ∧ A 2 0 ≤ 8) ∧ (0 ≤ A 2 1 ∧ A 2 1 ≤ 6) ∧ (-2147483648 ≤ c ∧ c < 2147483648)) ∧ ((w32 (A 2 (18 + c) - 1) < w32 k → ((25 = 25) ∧ (KR F A))) ∧ (¬ w32 (A 2 (18 + c) - 1) < w32 k → (((0 ≤ c ∧ c < A 2 0) ∧ fgOK (A 2) ∧ (-2147483648 ≤ c ∧ c < 2147483648) ∧ (-2147483648 ≤ k ∧ k < 2147483648) ∧ (-2147483648 ≤ 2 ∧ 2 < 2147483648)) ∧ (((0 ≤ l ∧ l < A 2 1) ∧ fgOK (A 2) ∧ (-2147483648 ≤ l ∧ l < 2147483648) ∧ (-2147483648 ≤ 0 ∧ 0 < 2147483648)) ∧ (((0 ≤ c ∧ c < A 2 0) ∧ fgOK (A 2) ∧ (-2147483648 ≤ c ∧ c < 2147483648) ∧ (-2147483648 ≤ k ∧ k < 2147483648) ∧ (-2147483648 ≤ 0 ∧ 0 < 2147483648)) ∧ (((0 ≤ l ∧ l < A 2 1) ∧ fgOK (A 2) ∧ (-2147483648 ≤ l ∧ l < 2147483648) ∧ (-2147483648 ≤ 1 ∧ 1 < 2147483648)) ∧ (((0 ≤ c ∧ c < A 2 0) ∧ fgOK (A 2) ∧ (-2147483648 ≤ c ∧ c < 2147483648) ∧ (-2147483648 ≤ k ∧ k < 2147483648) ∧ (-2147483648 ≤ 1 ∧ 1 < 2147483648)) ∧ (((0 ≤ l ∧ l < A 2 1) ∧ fgOK (A 2) ∧ (-2147483648 ≤ l ∧ l < 2147483648) ∧ (-2147483648 ≤ 2 ∧ 2 < 2147483648)) ∧ ((0 ≤ w32 k ∧ w32 k < 4) ∧ (V 7 [some (vR 0), some (vI c), some (vI l), some (vR 25), some (vI (k + 1))] [] F (upA A 25 (w32 k) ((w32 (if 0 ≤ k ∧ k < A 2 (18 + c) then (if 0 ≤ 2 ∧ 2 ≤ 2 then A 2 (26 + (c * 4 + k) * 3 + 2) else -2) else -1)) * (w32 ((((if 0 ≤ 0 ∧ 0 ≤ 2 then A 2 (122 + l * 3 + 0) else 1000) * (if 0 ≤ k ∧ k < A 2 (18 + c) then (if 0 ≤ 0 ∧ 0 ≤ 2 then A 2 (26 + (c * 4 + k) * 3 + 0) else -2) else -1)) + ((if 0 ≤ 1 ∧ 1 ≤ 2 then A 2 (122 + l * 3 + 1) else 1000) * (if 0 ≤ k ∧ k < A 2 (18 + c) then (if 0 ≤ 1 ∧ 1 ≤ 2 then A 2 (26 + (c * 4 + k) * 3 + 1) else -2) else -1))) + (if 0 ≤ 2 ∧ 2 ≤ 2 then A 2 (122 + l * 3 + 2) else 1000))))) 1))))))))))
    refine ⟨by rw [hA _ (by decide)]; exact ⟨hc, hf.1.1, hf.1.2, by omega⟩, ?_⟩
    refine ⟨fun c1 => ?_, fun c1 => ?_⟩
    · skip
      (try rw [hA 2 (by decide)] at c1); (try simp (disch := omega) only [w32_0, w32_id] at c1)
      refine ⟨by rfl, ?_⟩
      exact hK A ⟨hA, fun i i0 i1 => hB i i0 (by omega)⟩
    · skip
      (try rw [hA 2 (by decide)] at c1); (try simp (disch := omega) only [w32_0, w32_id] at c1)
      refine ⟨by rw [hA _ (by decide)]; exact ⟨hc, hf, by omega, by omega, by omega⟩, ?_⟩
      refine ⟨by rw [hA _ (by decide)]; exact ⟨hl, hf, by omega, by omega⟩, ?_⟩
      refine ⟨by rw [hA _ (by decide)]; exact ⟨hc, hf, by omega, by omega, by omega⟩, ?_⟩
      refine ⟨by rw [hA _ (by decide)]; exact ⟨hl, hf, by omega, by omega⟩, ?_⟩
      refine ⟨by rw [hA _ (by decide)]; exact ⟨hc, hf, by omega, by omega, by omega⟩, ?_⟩
      refine ⟨by rw [hA _ (by decide)]; exact ⟨hl, hf, by omega, by omega⟩, ?_⟩
      refine ⟨by rw [w32_id (by omega) (by omega)]; omega, ?_⟩
      exact cof_7 hg hh hK j (k + 1) _ (by omega) ⟨fun b hb => (upA_r (by omega)).trans (hA b hb), by omega, rowS hB hk.1 (by omega) (by rw [ctV (hA 2 (by decide)) ⟨hk.1, by omega⟩ (by decide), ctV (hA 2 (by decide)) ⟨hk.1, by omega⟩ (by decide), ctV (hA 2 (by decide)) ⟨hk.1, by omega⟩ (by decide), lnV_ (hA 2 (by decide)) (by decide), lnV_ (hA 2 (by decide)) (by decide), lnV_ (hA 2 (by decide)) (by decide)]; exact cfR_v hf hc hl hk.1 (by omega))⟩
set_option maxRecDepth 20000 in
theorem cof_3 {A0 : AA} {F : FF} {c l : Int} {KR : FF → AA → Prop} {K : KK} {V : REC} (hg : am_good (qxL_coefficientsR1 KR) K V) (hh : coH A0 c l) (hK : ∀ B, coP A0 B c l → KR F B) : V 3 [some (vR 0), some (vI c), some (vI l), none, none] [vR 25] F (zrA A0 25) 1 := by
  obtain ⟨hf, hc, hl⟩ := id hh
  have hc8 := hf.1.1
  have hl6 := hf.1.2
  have hs := (hf.2.2.1 c hc.1 hc.2).1
  refine hg.1 _ (am_runs (cut := (fun pc => cond (Nat.beq pc 7) (some [true, true, true, true, true]) (none))) (Kc := V) (fun _ _ _ _ _ _ h => h) hg 6) 3 [some (vR 0), some (vI c), some (vI l), none, none] [vR 25] _ _ 1 ?_
  show V 7 [some (vR 0), some (vI c), some (vI l), some (vR 25), some (vI 0)] [] F (zrA A0 25) 1
  exact cof_7 hg hh hK _ 0 _ (Nat.le_refl _) ⟨fun b hb => funext fun i => zrA_o (by omega), by omega, fun i i0 i1 => by omega⟩
set_option maxRecDepth 20000 in
theorem cof_0 {A0 : AA} {F : FF} {c l : Int} {KR : FF → AA → Prop} {K : KK} {V : REC} (hg : am_good (qxL_coefficientsR0 KR) K V) (hh : coH A0 c l) (hK : ∀ B, coP A0 B c l → KR F B) : V 0 [some (vR 0), some (vI c), some (vI l), none, none] [] F A0 0 := by
  refine hg.1 _ (am_runs (cut := (fun pc => none)) (Kc := V) (fun _ _ _ _ _ _ h => h) hg 4) 0 [some (vR 0), some (vI c), some (vI l), none, none] [] _ _ 0 ?_
  show (w32 4 = 4 ∧ am_nr 25 [some (vR 0), some (vI c), some (vI l), none, none] = true ∧ am_nr 25 (List.map some []) = true ∧ 0 + 1 ≤ cxMc (qxL_coefficientsR1 KR)) ∧ (∀ W : REC, am_good (qxL_coefficientsR1 KR) K W → W 3 [some (vR 0), some (vI c), some (vI l), none, none] [vR 25] F (zrA A0 25) (0 + 1))
  refine ⟨by exact ⟨rfl, rfl, rfl, Nat.le_refl 1⟩, ?_⟩
  exact fun V hg => cof_3 hg hh hK
def coQ (D : va_G) (al : Nat → Nat) (kC : Nat → ClassId) (F : FF) (A : AA) (c l : Int) (As : Nat → Prop) : Array Value → State → Outcome → State → Prop := va_Qr (S := (Nat → Nat) × FF × AA) (fun u => (∀ j, j < 25 → u.1 j = al j) ∧ u.2.1 = F ∧ coP A u.2.2 c l) (fun u ra t => ra = u.1 25 ∧ va_P D vwCl (am_ws u.1 kC layR1 u.2.1 u.2.2) t.heap ∧ am_dis u.1 layR1 As) As
set_option maxHeartbeats 4000000 in
theorem sk_coefs (l : Launch) (D : va_G) (al : Nat → Nat) (kC : Nat → ClassId) (F : FF) (A : AA) (c1 l1 : Int) (hh : coH A c1 l1) (sz : Nat) : Met l yL_coefficients (.code yL_coefficients cL_coefficients 5 (some (.array .long)) :: am_tb) (am_rm 11 1) (va_Pc [.ref (al 0), .int (Int32.ofInt c1), .int (Int32.ofInt l1)] (am_B 0 none D al kC layX F A sz)) (coQ D al kC F A c1 l1 (va_A (am_ws al kC layX F A) sz)) 1 16 (va_A (am_ws al kC layX F A) sz) := by
  refine Met.ofW (cc := cL_coefficients) (maxL := 5) (ret := some (.array .long)) (by decide +kernel) rfl ?_
  intro p e s m args below meth c s₁ B hml hv
  obtain ⟨rfl, rfl, hP, hK, hdis0, -⟩ := hv
  have hts := atoms_spec (ws := .code yL_coefficients cL_coefficients 5 (some (.array .long)) :: am_tb) B.pre
  have hown : s.vm.findClass yL_coefficients.cls = some m.cls := findClass_of_methodNamed B.named
  have hlocks := B.notSynchronized
  rw [lg_entry_eq]
  have hLR := am_LR_ent (al := al) (as := [vR 0, vI c1, vI l1]) (n := 5) (Nat.le_of_ble_eq_true rfl)
  generalize hAe : va_A (am_ws al kC layX F A) s.heap.size = As
  have hdis : am_dis al layX As := by
    refine ⟨hdis0.1, fun i hi => ?_⟩
    rw [← hAe]
    exact Or.inl ⟨i, _, am_ws_get (F := F) (A := A) (kC := kC) (al := al) (List.getElem?_eq_getElem hi)⟩
  have hA : ∀ q, s.heap.size ≤ q → As q := fun q h => by rw [← hAe]; exact Or.inr h
  let args1 : List Value := [.ref (al 0), .int (Int32.ofInt c1), .int (Int32.ofInt l1)]
  let QQ : State → Prop := MQ below (coQ D al kC F A c1 l1 As) args1.toArray s 1 16 As
  let KR : FF → AA → Prop := fun G B => G = F ∧ coP A B c1 l1
  have hE0 : am_env p l e (am_rm 11 1) s m args1.toArray c cL_coefficients RL 5 D al kC layX As 0 0 1 am_tb :=
    ⟨B.exec, B.bytes, hml, hown, fun w hw => hts w (List.mem_cons_of_mem _ hw), hK, hdis, hA, Nat.le_of_eq (Nat.zero_add _), Nat.le_of_eq (Nat.zero_add _)⟩
  have hK0 : ∀ (al' : Nat → Nat) (lay' : List LC), am_rt p l e (am_rm 11 1) s m args1.toArray below meth c QQ cL_coefficients 5 D al' kC lay' As 0 0 1 (some (.array .long)) (fun _ _ _ => False) := by
    intro al' lay' pc o F A ls u i ho hd hk
    exact hk.elim
  have hg1 : ∀ al' : Nat → Nat, (∀ j, j < 25 → al' j = al j) → am_dis al' layR1 As → am_good (qxL_coefficientsR1 KR) (fun _ _ _ => False) (am_W p l e (am_rm 11 1) s m args1.toArray below meth c QQ 5 D al' kC layR1 As 0 0 1) := by
    intro al' hal hdis'
    have hE' : am_env p l e (am_rm 11 1) s m args1.toArray c cL_coefficients RL 5 D al' kC layR1 As 0 0 1 am_tb := ⟨hE0.1, hE0.2.1, hE0.2.2.1, hE0.2.2.2.1, hE0.2.2.2.2.1, hE0.2.2.2.2.2.1, hdis', hE0.2.2.2.2.2.2.2⟩
    refine am_gdW (x := qxL_coefficientsR1 KR) (qzL_coefficientsR1 l KR) (fun k e2 h => (qyL_coefficientsR1 l k e2 h).2) rfl hE' ⟨Nat.le_refl _, Nat.le_refl _⟩ (hK0 al' layR1) (fun rec hrec pc b hb ls st G B1 u hx => ?_)
    have q : pc = 77 ∧ b = am_arB KR := by
      have h := hb
      replace h : (cond (Nat.beq pc 77) (some (am_arB KR)) none) = some b := h
      cases hq : Nat.beq pc 77 with
      | true => rw [hq] at h; exact ⟨Nat.eq_of_beq_eq_true hq, (Option.some.inj h).symm⟩
      | false => rw [hq] at h; cases h
    obtain ⟨rfl, rfl⟩ := q
    unfold am_arB at hx
    split at hx
    · obtain ⟨rfl, rfl, hco⟩ := hx
      intro hu H locs lsC hl hP1 hS1
      refine W.widen (k := 1) (n := 16) (by have : u ≤ 1 := hu; omega) (by have : u ≤ 1 := hu; omega) ?_
      exact W.aret (v := .ref (al' 25)) B.exec B.bytes B.returns (Or.inr ⟨_, rfl⟩) (Or.inr ⟨_, rfl⟩) (fun t ht hW => ⟨⟨(al', G, B1), al' 25, rfl, ⟨hal, rfl, hco⟩, rfl, by rw [ht]; exact hP1, hdis'⟩, hS1.F ht⟩) hS1.2.2 dk_L_coefficients_77
    · exact hx.elim
  have hg0 : am_good (qxL_coefficientsR0 KR) (fun _ _ _ => False) (am_W p l e (am_rm 11 1) s m args1.toArray below meth c QQ 5 D al kC layX As 0 0 1) := by
    refine am_gdW (x := qxL_coefficientsR0 KR) (qzL_coefficientsR0 l KR) (fun k e2 h => (qyL_coefficientsR0 l k e2 h).2) rfl hE0 ⟨Nat.le_refl _, Nat.le_refl _⟩ (hK0 al layX) (fun rec hrec pc b hb ls st G B1 u hx => ?_)
    have q : pc = 1 ∧ b = am_nwB (qxL_coefficientsR1 KR) 25 4 3 := by
      have h := hb
      replace h : (cond (Nat.beq pc 1) (some (am_nwB (qxL_coefficientsR1 KR) 25 4 3)) none) = some b := h
      cases hq : Nat.beq pc 1 with
      | true => rw [hq] at h; exact ⟨Nat.eq_of_beq_eq_true hq, (Option.some.inj h).symm⟩
      | false => rw [hq] at h; cases h
    obtain ⟨rfl, rfl⟩ := q
    exact am_nwc (x := qxL_coefficientsR0 KR) (x' := qxL_coefficientsR1 KR) (kd := 1) (pc := 1) (k0 := 25) (len := 4) (atype := .long) layX_len (Or.inr ⟨rfl, rfl⟩) (by decide) (show layR1 = layX ++ [.inr (1, 4)] from rfl) (show (1 : Nat) = 1 from rfl) layX_rok dk_L_coefficients_1 (am_tb_at 163 (by decide +kernel) rfl) hE0 hg1 ls st G B1 u hx
  have key := cof_0 (A0 := A) (F := F) hg0 hh (fun B1 h => ⟨rfl, h⟩)
  exact key (Nat.zero_le _) s.heap [] _ hLR hP va_S.rf
