/-! calls: a callee's contract (am_CT), and the call of it -/
def am_isN : Cond → Bool
  | .methodLinkNest .. => true
  | .castable .. => true
  | .declares _ => true
  | _ => false
/-- what stays true on the way: the kit's good words, and links to a nest mate's private methods -/
def am_gw (w : Cond) : Bool := goodWord w || am_isN w
def am_tb : List Cond := lw_tbl.filter am_gw
theorem am_tb_in {w : Cond} (h : w ∈ lw_tbl) (hg : am_gw w = true) : w ∈ am_tb := List.mem_filter.mpr ⟨h, hg⟩
theorem am_tb_at {w : Cond} (i : Nat) (h : lw_tbl[i]? = some w) (hg : am_gw w = true) : w ∈ am_tb := am_tb_in (List.mem_of_getElem? h) hg
theorem am_pay1 {args : Array Value} {s : State} (hts : ∀ w ∈ am_tb, w.before args s = true) : ∀ w ∈ am_tb, ∀ (a' : Array Value) (U : State), s.WarmedH U.vm → w.before a' U = true := by
  intro w hw a' U hW
  have hg := (List.mem_filter.mp hw).2
  have hb := hts w hw
  unfold am_gw at hg
  rw [Bool.or_eq_true] at hg
  rcases hg with hg | hg
  · exact word_at hW (good_of_word hg) hb
  · cases w <;> first | (cases hg; done) | exact va_Nw.use rfl (va_Nw.warmM hW (va_Nw.of rfl hb)) | exact va_Nw.use rfl (va_Nw.warmC hW (va_Nw.of rfl hb)) | exact va_Nw.use rfl (va_Nw.warmD hW (va_Nw.of rfl hb))
theorem am_pay {args : Array Value} {s : State} (hts : ∀ w ∈ am_tb, w.before args s = true) {w0 : Cond} (h0 : w0 ∈ am_tb) : ∀ w ∈ w0 :: am_tb, ∀ (a' : Array Value) (U : State), s.WarmedH U.vm → w.before a' U = true := by
  intro w hw
  rcases List.mem_cons.mp hw with rfl | hw
  · exact am_pay1 hts w h0
  · exact am_pay1 hts w hw
theorem am_callB {R : Room} {s : State} {args : Array Value} {own : String} {index maxL mc ms : Nat} {y : MethodName} {bytes : ByteArray} {ret : Option FieldType} {ws ws' : List Cond} {rm : Room} (n : Nat) (hp : ∀ w ∈ ws, ∀ (a' : Array Value) (U : State), s.WarmedH U.vm → w.before a' U = true) (hcb : (Cond.code y bytes maxL ret).before args s = true) (hw : ws = Cond.code y bytes maxL ret :: ws') (hrc : rm.cells = mc) (hrs : rm.slots = ms) (hini : (Cond.initialized y.cls).before args s = true) (hl : (Cond.methodLink own index y).before args s = true)
    (hd : y.cls ≠ "java/lang/invoke/MethodHandle" ∧ y.cls ≠ "java/lang/invoke/VarHandle" ∧ (parseMethodDescriptor y.desc).map (fun d => d.parameters.length) = some n) (hR : rm.frames + 1 ≤ R.frames ∧ 8 + (maxL + 11) + rm.locals ≤ R.locals) :
    CallB R s args own index y bytes maxL ret ws rm mc ms n := by
  have hc : Cond.code y bytes maxL ret ∈ ws := by rw [hw]; exact List.mem_cons_self
  refine ⟨hrc, hrs, hR.1, hR.2, hp, hc, hcb, hini, ⟨hd.1, hd.2.1⟩, fun sig h => ?_, hl⟩
  have h2 := hd.2.2
  rw [h] at h2
  exact (Option.some.inj h2).symm
theorem am_cnB {R : Room} {s : State} {args : Array Value} {own host : String} {index maxL mc ms : Nat} {y : MethodName} {bytes : ByteArray} {ret : Option FieldType} {ws ws' : List Cond} {rm : Room} (n : Nat) (hp : ∀ w ∈ ws, ∀ (a' : Array Value) (U : State), s.WarmedH U.vm → w.before a' U = true) (hcb : (Cond.code y bytes maxL ret).before args s = true) (hw : ws = Cond.code y bytes maxL ret :: ws') (hrc : rm.cells = mc) (hrs : rm.slots = ms) (hl : (Cond.methodLinkNest own index y host).before args s = true) (hini : (Cond.initialized y.cls).before args s = true)
    (hd : y.cls ≠ "java/lang/invoke/MethodHandle" ∧ y.cls ≠ "java/lang/invoke/VarHandle" ∧ (parseMethodDescriptor y.desc).map (fun d => d.parameters.length) = some n) (hR : rm.frames + 1 ≤ R.frames ∧ 8 + (maxL + 11) + rm.locals ≤ R.locals) : va_CN R s args own index y host bytes maxL ret ws rm mc ms n := by
  have hc : Cond.code y bytes maxL ret ∈ ws := by rw [hw]; exact List.mem_cons_self
  refine ⟨⟨hrc, hrs, hR.1, hR.2, hp, hc⟩, hcb, hini, ⟨hd.1, hd.2.1⟩, fun sig h => ?_, hl⟩
  have h2 := hd.2.2
  rw [h] at h2
  exact (Option.some.inj h2).symm
def am_rm (lv mc : Nat) : Room := { frames := lv, cells := mc, slots := 16 * mc, locals := 48 * lv }
/-- the reader's words: "curve line set limit depth ", a constant of the model, and what String's own methods read -/
def am_Z (B : Nat → Prop) (U : State) (H : Heap) : Prop := vx_Zq Bundle.tN "UNASSIGNED_STACK" Bundle.steD B U H ∧ vx_Zq Bundle.tN "SUPPRESSED_SENTINEL" Bundle.listD B U H ∧ (∃ a, vk_R RX8 354 "no such curve" a U) ∧ (∃ a, vk_R RX8 359 "no such line" a U)
/-- the law's script, a row that nobody writes -/
def scrF (L : Int) (xs : Int → Int) (a : Nat) (B : Nat → Prop) (U : State) (H : Heap) : Prop := ∃ (Ln : Nat) (xn : Nat → Int32), L = Ln ∧ Ln < 2147483648 ∧ (∀ j : Nat, xs j = (xn j).toInt) ∧ va_X a Ln xn U H ∧ a < H.size ∧ ¬ B a
def am_B (kd : Nat) (Z : Option (Int × (Int → Int))) (D : va_G) (al : Nat → Nat) (kC : Nat → ClassId) (layW : List LC) (F : FF) (A : AA) (sz : Nat) (U : State) : Prop :=
  U.heap.size = sz ∧ va_P D vwCl (am_ws al kC layW F A) U.heap ∧ va_K D vwCl (am_tys kC) U ∧ am_dis al layW (fun _ => True) ∧ (kd ≠ 0 → am_Z (va_A (am_ws al kC layW F A) sz) U U.heap) ∧ (∀ L xs, Z = some (L, xs) → scrF L xs (al 999) (va_A (am_ws al kC layW F A) sz) U U.heap)
def am_Q (ret : Option FieldType) (K : KK) (D : va_G) (al : Nat → Nat) (kC : Nat → ClassId) (layW : List LC) (As : Nat → Prop) : Array Value → State → Outcome → State → Prop := match ret with
  | none => va_Qv (S := FF × AA) (fun u => K (some none) u.1 u.2) (fun u t => va_P D vwCl (am_ws al kC layW u.1 u.2) t.heap) As
  | some .long => va_Ql (S := Int × FF × AA) (fun r u => r = Int64.ofInt u.1 ∧ K (some (some (vL u.1))) u.2.1 u.2.2) (fun u t => va_P D vwCl (am_ws al kC layW u.2.1 u.2.2) t.heap) As
  | some _ => va_Qi (S := Int × FF × AA) (fun r u => r = Int32.ofInt u.1 ∧ K (some (some (vI u.1))) u.2.1 u.2.2) (fun u t => va_P D vwCl (am_ws al kC layW u.2.1 u.2.2) t.heap) As
def am_iob : String := "java/lang/IndexOutOfBoundsException"
def am_X (K : KK) (D : va_G) (al : Nat → Nat) (kC : Nat → ClassId) (layW : List LC) (As : Nat → Prop) : String → State → State → Prop := vx_X (S := FF × AA) (fun u => K none u.1 u.2) (fun E u t => E = am_iob ∧ va_P D vwCl (am_ws al kC layW u.1 u.2) t.heap) As
def am_Met (l : Launch) (e1 : CE) (Pc : Array Value → State → Prop) (Qc : Array Value → State → Outcome → State → Prop) (XC : String → State → State → Prop) (free : Addr → Prop) : Prop := match ceT e1 with
  | 0 => Met l (ceY e1) (.code (ceY e1) (ceB e1) (ceM e1) (ceR e1) :: am_tb) (am_rm (ceL e1) (ceK e1)) Pc Qc (ceK e1) (16 * ceK e1) free
  | 1 => vx_Met l (ceY e1) (.code (ceY e1) (ceB e1) (ceM e1) (ceR e1) :: am_tb) (am_rm (ceL e1) (ceK e1)) Pc Qc XC (ceK e1) (16 * ceK e1) free
  | _ => Met l (ceY e1) (.code (ceY e1) (ceB e1) (ceM e1) (ceR e1) :: am_tb) (am_rm (ceL e1) (ceK e1)) Pc Qc (ceK e1) (16 * ceK e1) free
/-- a contract: over any world that begins with the cells of 'lay', from any start that the meaning admits -/
def am_CT (l : Launch) (lay : List LC) (e1 : CE) : Prop := ∀ layW, lay <+: layW → ∀ (D : va_G) (al : Nat → Nat) (kC : Nat → ClassId) (as : List AV) (F : FF) (A : AA) (K : KK) (sz : Nat), ceS e1 as F A K →
  am_Met l e1 (va_Pc (as.map (am_cv al)) (am_B (ceT e1) (ceH e1) D al kC layW F A sz)) (am_Q (ceR e1) K D al kC layW (va_A (am_ws al kC layW F A) sz)) (am_X K D al kC layW (va_A (am_ws al kC layW F A) sz)) (va_A (am_ws al kC layW F A) sz)
/-- what a call's site needs -/
def am_cal (l : Launch) (lay : List LC) (own : String) (lvO : Nat) (k : Nat) (e1 : CE) (Z : Option (Int × (Int → Int)) := none) : Prop :=
  am_CT l lay e1 ∧ Cond.code (ceY e1) (ceB e1) (ceM e1) (ceR e1) ∈ am_tb ∧ Cond.initialized (ceY e1).cls ∈ am_tb ∧
  ((ceY e1).cls ≠ "java/lang/invoke/MethodHandle" ∧ (ceY e1).cls ≠ "java/lang/invoke/VarHandle" ∧ (parseMethodDescriptor (ceY e1).desc).map (fun d => d.parameters.length) = some (ceN e1)) ∧ ceM e1 ≤ 29 ∧ ceL e1 + 1 ≤ lvO ∧ (ceH e1 = none ∨ ceH e1 = Z) ∧
  match ceC e1 with
  | none => Cond.static (ceY e1) ∈ am_tb ∧ ((Cond.methodLink own k (ceY e1) ∈ am_tb ∧ ceT e1 ≠ 1) ∨ (ceT e1 = 0 ∧ ∃ host, Cond.methodLinkNest own k (ceY e1) host ∈ am_tb))
  | some ci => Cond.instanceMethod (ceY e1) ∈ am_tb ∧ Cond.selects (ceY e1).cls (ceY e1) (ceY e1) ∈ am_tb ∧ Cond.methodLink own k (ceY e1) ∈ am_tb ∧ ∃ T N, vwCl[ci]? = some ((ceY e1).cls, T, N)
theorem am_Z_moved {B : Nat → Prop} {u U : State} {H : Heap} (hW : u.WarmedH U.vm) (h : am_Z B u H) : am_Z B U H := by
  obtain ⟨h1, h2, ⟨a, h3⟩, ⟨b, h4⟩⟩ := h
  exact ⟨vx_Zq.moved hW.alike h1, vx_Zq.moved hW.alike h2, ⟨a, vk_R.warm hW h3⟩, ⟨b, vk_R.warm hW h4⟩⟩
theorem am_Z_same {B : Nat → Prop} {u U : State} {H : Heap} (hv : U.vm = u.vm) (h : am_Z B u H) : am_Z B U H := by
  obtain ⟨h1, h2, ⟨a, h3⟩, ⟨b, h4⟩⟩ := h
  have ha : u.vm.Alike U.vm := by rw [hv]; exact Vm.Alike.refl _
  exact ⟨vx_Zq.moved ha h1, vx_Zq.moved ha h2, ⟨a, vk_R.same hv h3⟩, ⟨b, vk_R.same hv h4⟩⟩
theorem am_Z_kept {B : Nat → Prop} {U : State} {H H1 : Heap} (h : am_Z B U H) (hq : ∀ a : Nat, a < H.size → ¬ B a → H1[a]? = H[a]?) : am_Z B U H1 := ⟨vx_Zq.kept h.1 hq, vx_Zq.kept h.2.1 hq, h.2.2.1, h.2.2.2⟩
theorem am_Z_narrow {B C : Nat → Prop} {U : State} {H : Heap} (h : am_Z B U H) (hBC : ∀ q, C q → B q) : am_Z C U H := ⟨vx_Zq.narrow h.1 hBC, vx_Zq.narrow h.2.1 hBC, h.2.2.1, h.2.2.2⟩
theorem am_blind {as : List Value} {kd : Nat} {Z : Option (Int × (Int → Int))} {D : va_G} {al : Nat → Nat} {kC : Nat → ClassId} {layW : List LC} {F : FF} {A : AA} {sz : Nat} : FrameBlind (va_Pc as (am_B kd Z D al kC layW F A sz)) := by
  intro a U g mk h
  obtain ⟨h0, h1, h2, h3, h4, h5, h6⟩ := h
  exact ⟨h0, h1, h2, va_K.moved (u := U) (U := U.calling g mk a) (Vm.Alike.refl U.vm) h3, h4, fun hk => am_Z_same (u := U) (U := U.calling g mk a) rfl (h5 hk), fun L xs e => by
    obtain ⟨Ln, xn, c1, c2, c3, c4, c5⟩ := h6 L xs e
    exact ⟨Ln, xn, c1, c2, c3, c4.moved (u := U) (U := U.calling g mk a) (Vm.Alike.refl U.vm), c5⟩⟩
section AMC
variable {p : Program} {l : Launch} {e : Env} {R : Room} {s : State} {m : MethodId} {args : Array Value} {below : List Frame} {meth : Method} {c : Code} {Q : State → Prop}
/-- behind a call that returns -/
theorem am_after {H : Heap} {locs : List Loc} {cells slots mc ms pc : Nat} {ls : Array Slot} {st0 rest : List Value} {a : Array Value} {ret : Option FieldType} {K2 : KK} {D : va_G} {al : Nat → Nat} {kC : Nat → ClassId} {layW : List LC} {As As1 : Nat → Prop}
    (hr : va_Run p l e R s m args below meth c H locs cells slots mc ms (F0 m pc ls st0) rest (am_Q ret K2 D al kC layW As1 a) As1) (hS : va_S As s.heap H locs) (hA : ∀ q, As1 q → As q)
    (kk : ∀ o F A, K2 (some o) F A → ∀ H1 locs1, va_P D vwCl (am_ws al kC layW F A) H1 → va_S As s.heap H1 locs1 → W p l e R s m args below meth c H1 locs1 (cells + mc) (slots + ms) Q (F0 m (pc + 3) ls ((o.toList.map (am_cv al)) ++ rest))) :
    W p l e R s m args below meth c H locs cells slots Q (F0 m pc ls st0) := by
  rcases ret with _ | t
  · refine va_callv (a := a) (S := FF × AA) hr hS (fun q _ h => hA q h) hA (fun u t H1 locs1 ht hvm hk hB hsz hkeep hS1 => ?_)
    rw [ht] at hB
    exact kk none _ _ hk _ _ hB hS1
  · by_cases hl : t = .long
    · subst hl
      refine va_calll (a := a) (S := Int × FF × AA) hr hS (fun q _ h => hA q h) hA (fun r u t H1 locs1 ht hvm hk hB hsz hkeep hS1 => ?_)
      rw [ht] at hB
      obtain ⟨rfl, hk⟩ := hk
      exact kk (some (vL u.1)) _ _ hk _ _ hB hS1
    · have e1 : am_Q (some t) K2 D al kC layW As1 = va_Qi (S := Int × FF × AA) (fun r u => r = Int32.ofInt u.1 ∧ K2 (some (some (vI u.1))) u.2.1 u.2.2) (fun u t => va_P D vwCl (am_ws al kC layW u.2.1 u.2.2) t.heap) As1 := by
        cases t <;> first | rfl | exact absurd rfl hl
      rw [e1] at hr
      refine va_calli (a := a) (S := Int × FF × AA) hr hS (fun q _ h => hA q h) hA (fun r u t H1 locs1 ht hvm hk hB hsz hkeep hS1 => ?_)
      rw [ht] at hB
      obtain ⟨rfl, hk⟩ := hk
      exact kk (some (vI u.1)) _ _ hk _ _ hB hS1
theorem am_afterX {H : Heap} {locs : List Loc} {cells slots mc ms pc : Nat} {ls : Array Slot} {st0 rest : List Value} {a : Array Value} {ret : Option FieldType} {K2 : KK} {D : va_G} {al : Nat → Nat} {kC : Nat → ClassId} {layW : List LC} {As As1 : Nat → Prop}
    (hr : vx_Run p l e R s m args below meth c H locs cells slots mc ms (F0 m pc ls st0) rest (am_Q ret K2 D al kC layW As1 a) (am_X K2 D al kC layW As1) As1) (hS : va_S As s.heap H locs) (hA : ∀ q, As1 q → As q)
    (kx : ∀ F A, K2 none F A → ∀ H1 locs1 ce q9, va_P D vwCl (am_ws al kC layW F A) H1 → va_S As s.heap H1 locs1 → H1[q9]? = some ce → ce.vm = .none → s.vm.findClass am_iob = some ce.cls → vx_W p l e R s m args below meth c H1 locs1 (cells + mc) (slots + ms) Q (F0 m pc ls rest) q9)
    (kk : ∀ o F A, K2 (some o) F A → ∀ H1 locs1, va_P D vwCl (am_ws al kC layW F A) H1 → va_S As s.heap H1 locs1 → W p l e R s m args below meth c H1 locs1 (cells + mc) (slots + ms) Q (F0 m (pc + 3) ls ((o.toList.map (am_cv al)) ++ rest))) :
    W p l e R s m args below meth c H locs cells slots Q (F0 m pc ls st0) := by
  have kx2 : ∀ (E : String) (ce : Cell) (q9 : Addr) (u : FF × AA) (t : State) (H1 : Heap) (locs1 : List Loc), t.heap = H1 → s.vm.Alike t.vm → K2 none u.1 u.2 → (E = am_iob ∧ va_P D vwCl (am_ws al kC layW u.1 u.2) t.heap) → H.size ≤ H1.size → (∀ q : Nat, q < H.size → ¬ As1 q → H1[q]? = H[q]?) → va_S As s.heap H1 locs1 → H1[q9]? = some ce → ce.vm = .none → s.vm.findClass E = some ce.cls → vx_W p l e R s m args below meth c H1 locs1 (cells + mc) (slots + ms) Q (F0 m pc ls rest) q9 := by
    intro E ce q9 u t H1 locs1 ht hvm hk hB hsz hkeep hS1 hce hcv hcl
    obtain ⟨rfl, hB⟩ := hB
    rw [ht] at hB
    exact kx _ _ hk _ _ _ _ hB hS1 hce hcv hcl
  rcases ret with _ | t
  · refine vx_callv (a := a) (S := FF × AA) (SX := FF × AA) hr hS (fun q _ h => hA q h) hA (fun q _ h => hA q h) kx2 (fun u t H1 locs1 ht hvm hk hB hsz hkeep hS1 => ?_)
    rw [ht] at hB
    exact kk none _ _ hk _ _ hB hS1
  · by_cases hl : t = .long
    · subst hl
      refine vx_calll (a := a) (S := Int × FF × AA) (SX := FF × AA) hr hS (fun q _ h => hA q h) hA (fun q _ h => hA q h) kx2 (fun r u t H1 locs1 ht hvm hk hB hsz hkeep hS1 => ?_)
      rw [ht] at hB
      obtain ⟨rfl, hk⟩ := hk
      exact kk (some (vL u.1)) _ _ hk _ _ hB hS1
    · have e1 : am_Q (some t) K2 D al kC layW As1 = va_Qi (S := Int × FF × AA) (fun r u => r = Int32.ofInt u.1 ∧ K2 (some (some (vI u.1))) u.2.1 u.2.2) (fun u t => va_P D vwCl (am_ws al kC layW u.2.1 u.2.2) t.heap) As1 := by
        cases t <;> first | rfl | exact absurd rfl hl
      rw [e1] at hr
      refine vx_calli (a := a) (S := Int × FF × AA) (SX := FF × AA) hr hS (fun q _ h => hA q h) hA (fun q _ h => hA q h) kx2 (fun r u t H1 locs1 ht hvm hk hB hsz hkeep hS1 => ?_)
      rw [ht] at hB
      obtain ⟨rfl, hk⟩ := hk
      exact kk (some (vI u.1)) _ _ hk _ _ hB hS1
set_option maxHeartbeats 4000000 in
theorem am_call_ok {cc : ByteArray} {own : String} {nL : Nat} {D : va_G} {al : Nat → Nat} {kC : Nat → ClassId} {layW : List LC} {As : Nat → Prop} {cb sb lvO : Nat} {x : CX} {K : KK} {rec : REC} {e1 : CE} {k pc : Nat} {i : Instr}
    (hE : am_env p l e R s m args c cc own nL D al kC layW As cb sb (cxMc x) am_tb)
    (hR : lvO ≤ R.frames ∧ 48 * lvO ≤ R.locals)
    (hrec : ∀ pc ls st F A u, rec pc ls st F A u → am_W p l e R s m args below meth c Q nL D al kC layW As cb sb (cxMc x) pc ls st F A u)
    (hpre : cxLay x <+: layW)
    (hZ : ceT e1 ≠ 0 → am_Z As s s.heap)
    (hscr : ∀ L xs, cxScr x = some (L, xs) → scrF L xs (al 999) As s s.heap)
    (hexc : ceT e1 = 1 → ∀ ls F A u, (match cxHnd x with
      | some h => rec h (ls.map fun _ => none) [] F A u
      | none => cond (cxThr x) (K none F A) False) → u ≤ cxMc x → ∀ H locs lsC rest q9 ce, am_LR al lsC nL ls → va_P D vwCl (am_ws al kC layW F A) H → va_S As s.heap H locs → H[q9]? = some ce → ce.vm = .none → s.vm.findClass am_iob = some ce.cls → vx_W p l e R s m args below meth c H locs (cb + u) (sb + 16 * u) Q (F0 m pc lsC rest) q9)
    (hcal : am_cal l (cxLay x) own lvO k e1 (cxScr x))
    (hd : decode cc pc = .ok (i, 3)) (hi : i = .invokevirtual k ∨ i = .invokestatic k) (hi2 : i = .invokestatic k ↔ ceC e1 = none)
    {ls : LVs} {st : List AV} {F : FF} {A : AA} {u : Nat} (h : am_call (cxLay x) (cxThr x) (cxHnd x) (cxMc x) rec K (pc + 3) ls st F A u e1) :
    am_W p l e R s m args below meth c Q nL D al kC layW As cb sb (cxMc x) pc ls st F A u := by
  obtain ⟨hx, hb, hml, hown, hts, hK, hdis, hA, hRc, hRs⟩ := id hE
  obtain ⟨hCT, hcode, hini, hdsc, hmx, hlv, hHH, hkind⟩ := hcal
  intro hu H locs lsC hl hP hS
  unfold am_call at h
  replace h := am_cond_ok h
  obtain ⟨hchk, h⟩ := h
  simp only [Bool.and_eq_true] at hchk
  obtain ⟨⟨⟨hc1, hc2⟩, hc3⟩, hc4⟩ := hchk
  have hc1 := Nat.le_of_ble_eq_true hc1
  have hc2 := Nat.le_of_ble_eq_true hc2
  have hc3 := Nat.le_of_ble_eq_true hc3
  have hM := hCT layW hpre D al kC _ F A _ H.size h
  have hAA : ∀ q, va_A (am_ws al kC layW F A) H.size q → As q := by
    intro q hq
    rcases hq with ⟨j, e9, hj⟩ | hq
    · exact (am_dis_D hdis F A).2 j _ hj
    · exact hA q (Nat.le_trans hS.1 hq)
  have hB : ∀ U : State, U.heap = H → s.WarmedH U.vm → am_B (ceT e1) (ceH e1) D al kC layW F A H.size U := by
    intro U hU hW
    refine ⟨by rw [hU], by rw [hU]; exact hP, va_K.moved hW.alike hK, ⟨hdis.1, fun _ _ => trivial⟩, fun hk => ?_, fun L xs e => ?_⟩
    · rw [hU]
      exact am_Z_narrow (am_Z_moved hW (am_Z_kept (hZ hk) (fun a h1 h2 => hS.2.1 a h1 h2))) hAA
    · rw [hU]
      rcases hHH with q | q
      · rw [q] at e; cases e
      · obtain ⟨Ln, xn, c1, c2, c3, c4, c5, c6⟩ := hscr L xs (q ▸ e)
        exact ⟨Ln, xn, c1, c2, c3, (c4.kept (hS.2.1 _ c5 c6)).moved hW.alike, Nat.lt_of_lt_of_le c5 hS.1, fun z => c6 (hAA _ z)⟩
  have hfit : cb + u + ceK e1 ≤ R.cells ∧ sb + 16 * u + 16 * ceK e1 ≤ R.slots := ⟨by omega, by omega⟩
  have hroom : (am_rm (ceL e1) (ceK e1)).frames + 1 ≤ R.frames ∧ 8 + (ceM e1 + 11) + (am_rm (ceL e1) (ceK e1)).locals ≤ R.locals := ⟨by show ceL e1 + 1 ≤ _; omega, by show _ + 48 * ceL e1 ≤ _; omega⟩
  have hcont : ∀ o F' A', (match (some o : AO) with
      | some (some v) => rec (pc + 3) ls (v :: st.drop (match ceC e1 with | none => ceN e1 | some _ => ceN e1 + 1)) F' A' (u + ceK e1)
      | some none => rec (pc + 3) ls (st.drop (match ceC e1 with | none => ceN e1 | some _ => ceN e1 + 1)) F' A' (u + ceK e1)
      | none => (match cxHnd x with
        | some h => rec h (ls.map fun _ => none) [] F' A' (u + ceK e1)
        | none => cond (cxThr x) (K none F' A') False)) → ∀ H1 locs1, va_P D vwCl (am_ws al kC layW F' A') H1 → va_S As s.heap H1 locs1 →
      W p l e R s m args below meth c H1 locs1 (cb + u + ceK e1) (sb + 16 * u + 16 * ceK e1) Q (F0 m (pc + 3) lsC ((o.toList.map (am_cv al)) ++ (st.drop (match ceC e1 with | none => ceN e1 | some _ => ceN e1 + 1)).map (am_cv al))) := by
    intro o F' A' ho H1 locs1 hP1 hS1
    rw [show cb + u + ceK e1 = cb + (u + ceK e1) by omega, show sb + 16 * u + 16 * ceK e1 = sb + 16 * (u + ceK e1) by omega]
    cases o with
    | none => exact hrec _ _ _ _ _ _ ho hc1 _ _ _ hl hP1 hS1
    | some v => exact hrec _ _ _ _ _ _ ho hc1 _ _ _ hl hP1 hS1
  have hfix : CallFix p m c cc nL s args am_tb own := ⟨hx, hb, hml, hown, hts⟩
  unfold am_Met at hM
  cases hC : ceC e1 with
  | none =>
    rw [hC] at hkind hM h hc2 hc3 hcont
    dsimp only at hkind hM h hc2 hc3 hcont
    obtain ⟨k1, k2⟩ := hkind
    have hdg : decode cc pc = .ok (.invokestatic k, 3) := by rw [hd, hi2.mpr hC]
    have hst : st.map (am_cv al) = ((st.take (ceN e1)).reverse.map (am_cv al)).reverse ++ (st.drop (ceN e1)).map (am_cv al) := by
      rw [List.map_reverse, List.reverse_reverse, ← List.map_append, List.take_append_drop]
    have hlen : ((st.take (ceN e1)).reverse.map (am_cv al)).length = ceN e1 := by simp; omega
    have hpS : PreS s H (va_Pc ((st.take (ceN e1)).reverse.map (am_cv al)) (am_B (ceT e1) (ceH e1) D al kC layW F A H.size)) ((st.take (ceN e1)).reverse.map (am_cv al)) := ⟨am_blind, fun U hU hW => ⟨rfl, hB U hU hW⟩⟩
    split at hM
    · rename_i hk0
      rcases k2 with ⟨k2, -⟩ | ⟨-, host, k2⟩
      · have hr := va_runS (meth := meth) (below := below) (e := e) (g := F0 m pc lsC (st.map (am_cv al))) (rest := (st.drop (ceN e1)).map (am_cv al)) (locs := locs) (cells := cb + u) (slots := sb + 16 * u) hfix hM ⟨am_callB (R := R) (args := args) (index := k) (ceN e1) (am_pay hts hcode) (hts _ hcode) rfl rfl rfl (hts _ hini) (hts _ k2) hdsc hroom, hts _ k1⟩ hpS rfl hlen (by rw [hl.2.1]) hst (lv_room (by rw [am_sum_eq]; exact hc2)) hdg hfit
        exact am_after hr hS hAA hcont
      · have hr := va_runSN (meth := meth) (below := below) (e := e) (g := F0 m pc lsC (st.map (am_cv al))) (rest := (st.drop (ceN e1)).map (am_cv al)) (locs := locs) (cells := cb + u) (slots := sb + 16 * u) hfix hM ⟨am_cnB (R := R) (args := args) (index := k) (host := host) (ceN e1) (am_pay hts hcode) (hts _ hcode) rfl rfl rfl (hts _ k2) (hts _ hini) hdsc hroom, hts _ k1, trivial⟩ hpS rfl hlen (by rw [hl.2.1]) hst (lv_room (by rw [am_sum_eq]; exact hc2)) hdg hfit
        exact am_after hr hS hAA hcont
    · rename_i hk1
      rcases k2 with ⟨-, k2⟩ | ⟨k2, -⟩ <;> omega
    · rename_i hk0 hk1
      rcases k2 with ⟨k2, -⟩ | ⟨k2, -⟩
      · have hr := va_runS (meth := meth) (below := below) (e := e) (g := F0 m pc lsC (st.map (am_cv al))) (rest := (st.drop (ceN e1)).map (am_cv al)) (locs := locs) (cells := cb + u) (slots := sb + 16 * u) hfix hM ⟨am_callB (R := R) (args := args) (index := k) (ceN e1) (am_pay hts hcode) (hts _ hcode) rfl rfl rfl (hts _ hini) (hts _ k2) hdsc hroom, hts _ k1⟩ hpS rfl hlen (by rw [hl.2.1]) hst (lv_room (by rw [am_sum_eq]; exact hc2)) hdg hfit
        exact am_after hr hS hAA hcont
      · exact absurd k2 hk0
  | some ci =>
    rw [hC] at hkind hM h hc2 hc3 hcont hc4
    dsimp only at hkind hM h hc2 hc3 hcont hc4
    obtain ⟨k1, k2, k3, T, N, k4⟩ := hkind
    have hdg : decode cc pc = .ok (.invokevirtual k, 3) := by
      rcases hi with hi | hi
      · rw [hd, hi]
      · rw [hi2.mp hi] at hC; cases hC
    split at hc4
    · rename_i hq; cases hq
    · rename_i ci' o hq1 hq2
      cases hq1
      split at hc4
      · rename_i cj fs hlay
        have hc4 := am_bq hc4
        subst hc4
        have hsp : st.take (ceN e1 + 1) = st.take (ceN e1) ++ [vR o] := by rw [List.take_add_one, hq2]; rfl
        have hrev : (st.take (ceN e1 + 1)).reverse.map (am_cv al) = .ref (al o) :: (st.take (ceN e1)).reverse.map (am_cv al) := by
          rw [hsp, List.reverse_append, List.map_append]; rfl
        rw [hrev] at hM
        have hst : st.map (am_cv al) = ((st.take (ceN e1)).reverse.map (am_cv al)).reverse ++ .ref (al o) :: (st.drop (ceN e1 + 1)).map (am_cv al) := by
          have e9 : st = st.take (ceN e1) ++ vR o :: st.drop (ceN e1 + 1) := by
            have e8 := (List.take_append_drop (ceN e1 + 1) st).symm
            rw [hsp, List.append_assoc] at e8
            exact e8
          conv => lhs; rw [e9]
          rw [List.map_reverse, List.reverse_reverse, List.map_append]
          rfl
        have hlen : ((st.take (ceN e1)).reverse.map (am_cv al)).length = ceN e1 := by simp; omega
        have hpV : PreV s H (ceY e1).cls (al o) (va_Pc (.ref (al o) :: (st.take (ceN e1)).reverse.map (am_cv al)) (am_B (ceT e1) (ceH e1) D al kC layW F A H.size)) ((st.take (ceN e1)).reverse.map (am_cv al)) :=
          ⟨am_blind, va_recv (q := ((ceY e1).cls, T, N)) hK hP k4 (am_ws_get (am_pre hpre hlay)), fun U hU hW => ⟨rfl, hB U hU hW⟩⟩
        have hcw : ∀ w, w ∈ am_tb → w.before args s = true := fun w hw => hts w hw
        split at hM
        · rename_i hk0
          have hr := va_runV (meth := meth) (below := below) (e := e) (g := F0 m pc lsC (st.map (am_cv al))) (rest := (st.drop (ceN e1 + 1)).map (am_cv al)) (locs := locs) (cells := cb + u) (slots := sb + 16 * u) hfix hM ⟨am_callB (R := R) (args := args) (index := k) (ceN e1) (am_pay hts hcode) (hts _ hcode) rfl rfl rfl (hts _ hini) (hts _ k3) hdsc hroom, hts _ k1, hts _ k2⟩ hpV rfl hlen (by rw [hl.2.1]) hst (lv_room (by rw [am_sum_eq]; exact hc2)) hdg hfit
          exact am_after hr hS hAA hcont
        · rename_i hk1
          have hr := vx_runV (meth := meth) (below := below) (e := e) (g := F0 m pc lsC (st.map (am_cv al))) (rest := (st.drop (ceN e1 + 1)).map (am_cv al)) (locs := locs) (cells := cb + u) (slots := sb + 16 * u) hfix hM ⟨am_callB (R := R) (args := args) (index := k) (ceN e1) (am_pay hts hcode) (hts _ hcode) rfl rfl rfl (hts _ hini) (hts _ k3) hdsc hroom, hts _ k1, hts _ k2⟩ hpV rfl hlen (by rw [hl.2.1]) hst (lv_room (by rw [am_sum_eq]; exact hc2)) hdg hfit
          refine am_afterX hr hS hAA (fun F' A' hn H1 locs1 ce q9 hP1 hS1 hce hcv hcl => ?_) hcont
          rw [show cb + u + ceK e1 = cb + (u + ceK e1) by omega, show sb + 16 * u + 16 * ceK e1 = sb + 16 * (u + ceK e1) by omega]
          exact hexc hk1 ls F' A' (u + ceK e1) hn hc1 H1 locs1 lsC _ q9 ce hl hP1 hS1 hce hcv hcl
        · rename_i hk0 hk1
          have hr := va_runV (meth := meth) (below := below) (e := e) (g := F0 m pc lsC (st.map (am_cv al))) (rest := (st.drop (ceN e1 + 1)).map (am_cv al)) (locs := locs) (cells := cb + u) (slots := sb + 16 * u) hfix hM ⟨am_callB (R := R) (args := args) (index := k) (ceN e1) (am_pay hts hcode) (hts _ hcode) rfl rfl rfl (hts _ hini) (hts _ k3) hdsc hroom, hts _ k1, hts _ k2⟩ hpV rfl hlen (by rw [hl.2.1]) hst (lv_room (by rw [am_sum_eq]; exact hc2)) hdg hfit
          exact am_after hr hS hAA hcont
      · cases hc4
    · cases hc4
end AMC
