section
-- ===== PART A: goes FIRST, ahead of the names: the tables' words, and 'selects' of the private methods out of them =====
/-- a private method of a class that the tables say can be made, by its rows of tables_1 -/
def lw_okq (q : MethodName × Nat) : Prop := (q.1.cls ≠ "java/lang/invoke/MethodHandle" ∧ q.1.cls ≠ "java/lang/invoke/VarHandle") ∧ Cond.instantiable q.1.cls q.2 ∈ tables_1 ∧ Cond.privateMethod q.1 ∈ tables_1 ∧ Cond.instanceMethod q.1 ∈ tables_1
theorem lw_p0 : lw_okq (⟨"CurveMeetings$Figure", "put", "(II)V"⟩, 1) := ⟨⟨by decide +kernel, by decide +kernel⟩, List.mem_of_getElem? (i := 52) (by decide +kernel), List.mem_of_getElem? (i := 217) (by decide +kernel), List.mem_of_getElem? (i := 218) (by decide +kernel)⟩
theorem lw_p1 : lw_okq (⟨"CurveMeetings$TextReader", "advance", "()V"⟩, 8) := ⟨⟨by decide +kernel, by decide +kernel⟩, List.mem_of_getElem? (i := 79) (by decide +kernel), List.mem_of_getElem? (i := 583) (by decide +kernel), List.mem_of_getElem? (i := 584) (by decide +kernel)⟩
theorem lw_p2 : lw_okq (⟨"CurveMeetings$TextReader", "signAt", "(I)I"⟩, 8) := ⟨⟨by decide +kernel, by decide +kernel⟩, List.mem_of_getElem? (i := 79) (by decide +kernel), List.mem_of_getElem? (i := 587) (by decide +kernel), List.mem_of_getElem? (i := 588) (by decide +kernel)⟩
theorem lw_p3 : lw_okq (⟨"CurveMeetings$TextReader", "takeWord", "()V"⟩, 8) := ⟨⟨by decide +kernel, by decide +kernel⟩, List.mem_of_getElem? (i := 79) (by decide +kernel), List.mem_of_getElem? (i := 597) (by decide +kernel), List.mem_of_getElem? (i := 598) (by decide +kernel)⟩
theorem lw_p4 : lw_okq (⟨"CurveMeetings$TextReader", "takeInteger", "()V"⟩, 8) := ⟨⟨by decide +kernel, by decide +kernel⟩, List.mem_of_getElem? (i := 79) (by decide +kernel), List.mem_of_getElem? (i := 604) (by decide +kernel), List.mem_of_getElem? (i := 605) (by decide +kernel)⟩
theorem lw_p5 : lw_okq (⟨"CurveMeetings$TextReader", "readStatement", "(LCurveMeetings$Figure;)I"⟩, 8) := ⟨⟨by decide +kernel, by decide +kernel⟩, List.mem_of_getElem? (i := 79) (by decide +kernel), List.mem_of_getElem? (i := 609) (by decide +kernel), List.mem_of_getElem? (i := 610) (by decide +kernel)⟩
theorem lw_p6 : lw_okq (⟨"CurveMeetings$TextReader", "isWord", "(I)Z"⟩, 8) := ⟨⟨by decide +kernel, by decide +kernel⟩, List.mem_of_getElem? (i := 79) (by decide +kernel), List.mem_of_getElem? (i := 614) (by decide +kernel), List.mem_of_getElem? (i := 615) (by decide +kernel)⟩
theorem lw_p7 : lw_okq (⟨"CurveMeetings$TextReader", "readCurve", "(LCurveMeetings$Figure;)I"⟩, 8) := ⟨⟨by decide +kernel, by decide +kernel⟩, List.mem_of_getElem? (i := 79) (by decide +kernel), List.mem_of_getElem? (i := 618) (by decide +kernel), List.mem_of_getElem? (i := 619) (by decide +kernel)⟩
theorem lw_p8 : lw_okq (⟨"CurveMeetings$Figure", "at", "(I)I"⟩, 1) := ⟨⟨by decide +kernel, by decide +kernel⟩, List.mem_of_getElem? (i := 52) (by decide +kernel), List.mem_of_getElem? (i := 626) (by decide +kernel), List.mem_of_getElem? (i := 627) (by decide +kernel)⟩
theorem lw_p9 : lw_okq (⟨"CurveMeetings$TextReader", "checkName", "(LCurveMeetings$Figure;)I"⟩, 8) := ⟨⟨by decide +kernel, by decide +kernel⟩, List.mem_of_getElem? (i := 79) (by decide +kernel), List.mem_of_getElem? (i := 630) (by decide +kernel), List.mem_of_getElem? (i := 631) (by decide +kernel)⟩
theorem lw_p10 : lw_okq (⟨"CurveMeetings$Figure", "find", "(III)I"⟩, 1) := ⟨⟨by decide +kernel, by decide +kernel⟩, List.mem_of_getElem? (i := 52) (by decide +kernel), List.mem_of_getElem? (i := 646) (by decide +kernel), List.mem_of_getElem? (i := 647) (by decide +kernel)⟩
theorem lw_p11 : lw_okq (⟨"CurveMeetings$TextReader", "checkPointNumber", "(II)I"⟩, 8) := ⟨⟨by decide +kernel, by decide +kernel⟩, List.mem_of_getElem? (i := 79) (by decide +kernel), List.mem_of_getElem? (i := 662) (by decide +kernel), List.mem_of_getElem? (i := 663) (by decide +kernel)⟩
theorem lw_p12 : lw_okq (⟨"CurveMeetings$TextReader", "checkInteger", "(II)I"⟩, 8) := ⟨⟨by decide +kernel, by decide +kernel⟩, List.mem_of_getElem? (i := 79) (by decide +kernel), List.mem_of_getElem? (i := 666) (by decide +kernel), List.mem_of_getElem? (i := 667) (by decide +kernel)⟩
theorem lw_p13 : lw_okq (⟨"CurveMeetings$TextReader", "readLine", "(LCurveMeetings$Figure;)I"⟩, 8) := ⟨⟨by decide +kernel, by decide +kernel⟩, List.mem_of_getElem? (i := 79) (by decide +kernel), List.mem_of_getElem? (i := 684) (by decide +kernel), List.mem_of_getElem? (i := 685) (by decide +kernel)⟩
theorem lw_p14 : lw_okq (⟨"CurveMeetings$TextReader", "readSetting", "(LCurveMeetings$Figure;)I"⟩, 8) := ⟨⟨by decide +kernel, by decide +kernel⟩, List.mem_of_getElem? (i := 79) (by decide +kernel), List.mem_of_getElem? (i := 701) (by decide +kernel), List.mem_of_getElem? (i := 702) (by decide +kernel)⟩
theorem lw_p15 : lw_okq (⟨"CurveMeetings", "requireCurve", "(I)V"⟩, 10) := ⟨⟨by decide +kernel, by decide +kernel⟩, List.mem_of_getElem? (i := 44) (by decide +kernel), List.mem_of_getElem? (i := 744) (by decide +kernel), List.mem_of_getElem? (i := 745) (by decide +kernel)⟩
def lw_privs_1 : List (MethodName × Nat) := [(⟨"CurveMeetings$Figure", "put", "(II)V"⟩, 1), (⟨"CurveMeetings$TextReader", "advance", "()V"⟩, 8), (⟨"CurveMeetings$TextReader", "signAt", "(I)I"⟩, 8), (⟨"CurveMeetings$TextReader", "takeWord", "()V"⟩, 8), (⟨"CurveMeetings$TextReader", "takeInteger", "()V"⟩, 8), (⟨"CurveMeetings$TextReader", "readStatement", "(LCurveMeetings$Figure;)I"⟩, 8), (⟨"CurveMeetings$TextReader", "isWord", "(I)Z"⟩, 8), (⟨"CurveMeetings$TextReader", "readCurve", "(LCurveMeetings$Figure;)I"⟩, 8), (⟨"CurveMeetings$Figure", "at", "(I)I"⟩, 1), (⟨"CurveMeetings$TextReader", "checkName", "(LCurveMeetings$Figure;)I"⟩, 8), (⟨"CurveMeetings$Figure", "find", "(III)I"⟩, 1), (⟨"CurveMeetings$TextReader", "checkPointNumber", "(II)I"⟩, 8), (⟨"CurveMeetings$TextReader", "checkInteger", "(II)I"⟩, 8), (⟨"CurveMeetings$TextReader", "readLine", "(LCurveMeetings$Figure;)I"⟩, 8), (⟨"CurveMeetings$TextReader", "readSetting", "(LCurveMeetings$Figure;)I"⟩, 8), (⟨"CurveMeetings", "requireCurve", "(I)V"⟩, 10)]
theorem lw_r1 : ∀ q ∈ lw_privs_1, lw_okq q := List.forall_mem_cons.mpr ⟨lw_p0, List.forall_mem_cons.mpr ⟨lw_p1, List.forall_mem_cons.mpr ⟨lw_p2, List.forall_mem_cons.mpr ⟨lw_p3, List.forall_mem_cons.mpr ⟨lw_p4, List.forall_mem_cons.mpr ⟨lw_p5, List.forall_mem_cons.mpr ⟨lw_p6, List.forall_mem_cons.mpr ⟨lw_p7, List.forall_mem_cons.mpr ⟨lw_p8, List.forall_mem_cons.mpr ⟨lw_p9, List.forall_mem_cons.mpr ⟨lw_p10, List.forall_mem_cons.mpr ⟨lw_p11, List.forall_mem_cons.mpr ⟨lw_p12, List.forall_mem_cons.mpr ⟨lw_p13, List.forall_mem_cons.mpr ⟨lw_p14, List.forall_mem_cons.mpr ⟨lw_p15, fun _ h => absurd h List.not_mem_nil⟩⟩⟩⟩⟩⟩⟩⟩⟩⟩⟩⟩⟩⟩⟩⟩
theorem lw_p16 : lw_okq (⟨"java/lang/Throwable", "fillInStackTrace", "(I)Ljava/lang/Throwable;"⟩, 6) := ⟨⟨by decide +kernel, by decide +kernel⟩, List.mem_of_getElem? (i := 788) (by decide +kernel), List.mem_of_getElem? (i := 786) (by decide +kernel), List.mem_of_getElem? (i := 787) (by decide +kernel)⟩
theorem lw_p17 : lw_okq (⟨"CurveMeetings", "liesOn", "(II)Z"⟩, 10) := ⟨⟨by decide +kernel, by decide +kernel⟩, List.mem_of_getElem? (i := 44) (by decide +kernel), List.mem_of_getElem? (i := 905) (by decide +kernel), List.mem_of_getElem? (i := 906) (by decide +kernel)⟩
theorem lw_p18 : lw_okq (⟨"CurveMeetings$LineCut", "number", "(II)J"⟩, 6) := ⟨⟨by decide +kernel, by decide +kernel⟩, List.mem_of_getElem? (i := 131) (by decide +kernel), List.mem_of_getElem? (i := 931) (by decide +kernel), List.mem_of_getElem? (i := 932) (by decide +kernel)⟩
theorem lw_p19 : lw_okq (⟨"CurveMeetings$Cells", "isPlanted", "(LCurveMeetings$Figure;I)Z"⟩, 4) := ⟨⟨by decide +kernel, by decide +kernel⟩, List.mem_of_getElem? (i := 111) (by decide +kernel), List.mem_of_getElem? (i := 967) (by decide +kernel), List.mem_of_getElem? (i := 968) (by decide +kernel)⟩
theorem lw_p20 : lw_okq (⟨"CurveMeetings$Cells", "plant", "(LCurveMeetings$Figure;I)V"⟩, 4) := ⟨⟨by decide +kernel, by decide +kernel⟩, List.mem_of_getElem? (i := 111) (by decide +kernel), List.mem_of_getElem? (i := 988) (by decide +kernel), List.mem_of_getElem? (i := 989) (by decide +kernel)⟩
theorem lw_p21 : lw_okq (⟨"CurveMeetings$Cells", "findExtremes", "(II)V"⟩, 4) := ⟨⟨by decide +kernel, by decide +kernel⟩, List.mem_of_getElem? (i := 111) (by decide +kernel), List.mem_of_getElem? (i := 992) (by decide +kernel), List.mem_of_getElem? (i := 993) (by decide +kernel)⟩
theorem lw_p22 : lw_okq (⟨"CurveMeetings$Cells", "compare", "(IIIIIII)J"⟩, 4) := ⟨⟨by decide +kernel, by decide +kernel⟩, List.mem_of_getElem? (i := 111) (by decide +kernel), List.mem_of_getElem? (i := 996) (by decide +kernel), List.mem_of_getElem? (i := 997) (by decide +kernel)⟩
theorem lw_p23 : lw_okq (⟨"CurveMeetings$Cells", "growLevel", "(II)V"⟩, 4) := ⟨⟨by decide +kernel, by decide +kernel⟩, List.mem_of_getElem? (i := 111) (by decide +kernel), List.mem_of_getElem? (i := 1000) (by decide +kernel), List.mem_of_getElem? (i := 1001) (by decide +kernel)⟩
theorem lw_p24 : lw_okq (⟨"CurveMeetings", "placePart", "(IIIIZ)J"⟩, 10) := ⟨⟨by decide +kernel, by decide +kernel⟩, List.mem_of_getElem? (i := 44) (by decide +kernel), List.mem_of_getElem? (i := 1025) (by decide +kernel), List.mem_of_getElem? (i := 1026) (by decide +kernel)⟩
theorem lw_p25 : lw_okq (⟨"CurveMeetings", "requireLine", "(I)V"⟩, 10) := ⟨⟨by decide +kernel, by decide +kernel⟩, List.mem_of_getElem? (i := 44) (by decide +kernel), List.mem_of_getElem? (i := 1056) (by decide +kernel), List.mem_of_getElem? (i := 1057) (by decide +kernel)⟩
theorem lw_p26 : lw_okq (⟨"CurveMeetings", "requireCurveAndLine", "(II)V"⟩, 10) := ⟨⟨by decide +kernel, by decide +kernel⟩, List.mem_of_getElem? (i := 44) (by decide +kernel), List.mem_of_getElem? (i := 1066) (by decide +kernel), List.mem_of_getElem? (i := 1067) (by decide +kernel)⟩
theorem lw_p27 : lw_okq (⟨"CurveMeetings", "findRoots", "(II)V"⟩, 10) := ⟨⟨by decide +kernel, by decide +kernel⟩, List.mem_of_getElem? (i := 44) (by decide +kernel), List.mem_of_getElem? (i := 1090) (by decide +kernel), List.mem_of_getElem? (i := 1091) (by decide +kernel)⟩
theorem lw_p28 : lw_okq (⟨"CurveMeetings$LineCut", "add", "(III)V"⟩, 6) := ⟨⟨by decide +kernel, by decide +kernel⟩, List.mem_of_getElem? (i := 131) (by decide +kernel), List.mem_of_getElem? (i := 1099) (by decide +kernel), List.mem_of_getElem? (i := 1100) (by decide +kernel)⟩
theorem lw_p29 : lw_okq (⟨"CurveMeetings$LineCut", "changesAt", "(I)I"⟩, 6) := ⟨⟨by decide +kernel, by decide +kernel⟩, List.mem_of_getElem? (i := 131) (by decide +kernel), List.mem_of_getElem? (i := 1106) (by decide +kernel), List.mem_of_getElem? (i := 1107) (by decide +kernel)⟩
theorem lw_p30 : lw_okq (⟨"CurveMeetings$LineCut", "goDown", "(IZ)V"⟩, 6) := ⟨⟨by decide +kernel, by decide +kernel⟩, List.mem_of_getElem? (i := 131) (by decide +kernel), List.mem_of_getElem? (i := 1111) (by decide +kernel), List.mem_of_getElem? (i := 1112) (by decide +kernel)⟩
theorem lw_p31 : lw_okq (⟨"CurveMeetings$LineCut", "hasRoot", "(I)Z"⟩, 6) := ⟨⟨by decide +kernel, by decide +kernel⟩, List.mem_of_getElem? (i := 131) (by decide +kernel), List.mem_of_getElem? (i := 1132) (by decide +kernel), List.mem_of_getElem? (i := 1133) (by decide +kernel)⟩
def lw_privs_2 : List (MethodName × Nat) := [(⟨"java/lang/Throwable", "fillInStackTrace", "(I)Ljava/lang/Throwable;"⟩, 6), (⟨"CurveMeetings", "liesOn", "(II)Z"⟩, 10), (⟨"CurveMeetings$LineCut", "number", "(II)J"⟩, 6), (⟨"CurveMeetings$Cells", "isPlanted", "(LCurveMeetings$Figure;I)Z"⟩, 4), (⟨"CurveMeetings$Cells", "plant", "(LCurveMeetings$Figure;I)V"⟩, 4), (⟨"CurveMeetings$Cells", "findExtremes", "(II)V"⟩, 4), (⟨"CurveMeetings$Cells", "compare", "(IIIIIII)J"⟩, 4), (⟨"CurveMeetings$Cells", "growLevel", "(II)V"⟩, 4), (⟨"CurveMeetings", "placePart", "(IIIIZ)J"⟩, 10), (⟨"CurveMeetings", "requireLine", "(I)V"⟩, 10), (⟨"CurveMeetings", "requireCurveAndLine", "(II)V"⟩, 10), (⟨"CurveMeetings", "findRoots", "(II)V"⟩, 10), (⟨"CurveMeetings$LineCut", "add", "(III)V"⟩, 6), (⟨"CurveMeetings$LineCut", "changesAt", "(I)I"⟩, 6), (⟨"CurveMeetings$LineCut", "goDown", "(IZ)V"⟩, 6), (⟨"CurveMeetings$LineCut", "hasRoot", "(I)Z"⟩, 6)]
theorem lw_r2 : ∀ q ∈ lw_privs_2, lw_okq q := List.forall_mem_cons.mpr ⟨lw_p16, List.forall_mem_cons.mpr ⟨lw_p17, List.forall_mem_cons.mpr ⟨lw_p18, List.forall_mem_cons.mpr ⟨lw_p19, List.forall_mem_cons.mpr ⟨lw_p20, List.forall_mem_cons.mpr ⟨lw_p21, List.forall_mem_cons.mpr ⟨lw_p22, List.forall_mem_cons.mpr ⟨lw_p23, List.forall_mem_cons.mpr ⟨lw_p24, List.forall_mem_cons.mpr ⟨lw_p25, List.forall_mem_cons.mpr ⟨lw_p26, List.forall_mem_cons.mpr ⟨lw_p27, List.forall_mem_cons.mpr ⟨lw_p28, List.forall_mem_cons.mpr ⟨lw_p29, List.forall_mem_cons.mpr ⟨lw_p30, List.forall_mem_cons.mpr ⟨lw_p31, fun _ h => absurd h List.not_mem_nil⟩⟩⟩⟩⟩⟩⟩⟩⟩⟩⟩⟩⟩⟩⟩⟩
theorem lw_p32 : lw_okq (⟨"CurveMeetings$LineCut", "power", "(I)J"⟩, 6) := ⟨⟨by decide +kernel, by decide +kernel⟩, List.mem_of_getElem? (i := 131) (by decide +kernel), List.mem_of_getElem? (i := 1149) (by decide +kernel), List.mem_of_getElem? (i := 1150) (by decide +kernel)⟩
theorem lw_p33 : lw_okq (⟨"CurveMeetings$LineCut", "goTo", "(II)V"⟩, 6) := ⟨⟨by decide +kernel, by decide +kernel⟩, List.mem_of_getElem? (i := 131) (by decide +kernel), List.mem_of_getElem? (i := 1197) (by decide +kernel), List.mem_of_getElem? (i := 1198) (by decide +kernel)⟩
def lw_privs_3 : List (MethodName × Nat) := [(⟨"CurveMeetings$LineCut", "power", "(I)J"⟩, 6), (⟨"CurveMeetings$LineCut", "goTo", "(II)V"⟩, 6)]
theorem lw_r3 : ∀ q ∈ lw_privs_3, lw_okq q := List.forall_mem_cons.mpr ⟨lw_p32, List.forall_mem_cons.mpr ⟨lw_p33, fun _ h => absurd h List.not_mem_nil⟩⟩
def lw_privs : List (MethodName × Nat) := lw_privs_1 ++ (lw_privs_2 ++ (lw_privs_3))
def lw_tbl : List Cond := k2_sels lw_privs ++ tables_1
theorem lw_privs_ok : ∀ q ∈ lw_privs, lw_okq q := by
  show ∀ q ∈ lw_privs_1 ++ (lw_privs_2 ++ (lw_privs_3)), lw_okq q
  exact List.forall_mem_append.mpr ⟨lw_r1, List.forall_mem_append.mpr ⟨lw_r2, lw_r3⟩⟩
end
section
/-! ===== BEGIN words of one list among another's, by their places ===== -/
theorem goodIn_r {big : List Cond} (ws : List Cond) (ps : List Nat) (hp : ws = ps.filterMap (fun i => big[i]?)) (h : ws.all goodWord = true) : GoodIn big ws := by
  intro w hw
  have h1 := List.all_eq_true.mp h w hw
  rw [hp] at hw
  obtain ⟨i, -, hi⟩ := List.mem_filterMap.mp hw
  have hm : w ∈ big := by first | exact List.mem_of_getElem? hi | exact List.getElem?_mem hi
  exact ⟨hm, good_of_word h1⟩
theorem goodIn_app {big a b : List Cond} (ha : GoodIn big a) (hb : GoodIn big b) : GoodIn big (a ++ b) := fun w h => (List.mem_append.mp h).elim (ha w) (hb w)
theorem goodIn_ca {big a b : List Cond} {c : Cond} (ha : GoodIn big (c :: a)) (hb : GoodIn big b) : GoodIn big (c :: (a ++ b)) := fun w h => (List.mem_cons.mp h).elim (fun e => ha w (List.mem_cons.mpr (Or.inl e))) (fun h => (List.mem_append.mp h).elim (fun h => ha w (List.mem_cons.mpr (Or.inr h))) (hb w))
theorem goodIn_sub {big ws : List Cond} (hm : ∀ w ∈ ws, w ∈ big) (h : ws.all goodWord = true) : GoodIn big ws := fun w hw => ⟨hm w hw, good_of_word (List.all_eq_true.mp h w hw)⟩
/-! ===== END ===== -/

/-! ===== BEGIN exceptions that leave a method, and their catching by the caller (launches without stack traces) ===== -/
section VXA
/-! The laws vx_back, vx_callV, vx_callS, vx_callSW, vx_throw0, vx_throwS follow proofs of the library, with one case more: JvmDerived/Free/Laws.lean (Back.of_free), Shelf42/LK1.lean (callV, callS), Shelf/KitTraced.lean (throwNew0V, throwNewS). -/
/-- where a method has thrown q: the class by its name, the cell, what was written, the world -/
def vx_T (XC : String → State → State → Prop) (st : State) (q : Addr) (t : State) (mc ms : Nat) (free : Addr → Prop) : Prop :=
  ∃ (E : String) (ce : Cell) (L : List Loc), XC E st t ∧ t.heap[q]? = some ce ∧ ce.vm = .none ∧ st.vm.findClass E = some ce.cls ∧ st.WarmedH t.vm ∧ st.sameButNew ({ t with vm := st.vm } : State) L mc ms ∧ ∀ z ∈ L, free z.base
def vx_Q (Qc : Array Value → State → Outcome → State → Prop) (XC : String → State → State → Prop) (mc ms : Nat) (free : Addr → Prop) : Array Value → State → Outcome → State → Prop := fun a st o t =>
  (Qc a st o t ∧ ∃ L, FrameEnd st o t L mc ms ∧ ∀ q ∈ L, free q.base) ∨ ∃ q, o = .threw q ∧ vx_T XC st q t mc ms free
/-- a callee that returns or throws -/
def vx_Met (l : Launch) (y : MethodName) (ws : List Cond) (rm : Room) (Pc : Array Value → State → Prop) (Qc : Array Value → State → Outcome → State → Prop) (XC : String → State → State → Prop) (mc ms : Nat) (free : Addr → Prop) : Prop :=
  MetFree l y (headSpec ws rm) Pc (fun _ _ _ _ _ => True) (vx_Q Qc XC mc ms free)
def vx_Post (XC : String → State → State → Prop) (mc ms : Nat) (free : Addr → Prop) : Pt → Array Value → Addr → Pt → Prop := fun A a q B =>
  ∃ (g : JFrame) (mk : MethodId) (t : State) (L : List Loc) (E : String) (ce : Cell), B.U.heap = t.heap ∧ B.U.vm = t.vm ∧ XC E (A.U.calling g mk a) t ∧ t.heap[q]? = some ce ∧ ce.vm = .none ∧ A.U.vm.findClass E = some ce.cls ∧ B.locs = A.locs ++ L ∧ (∀ z ∈ L, free z.base) ∧ B.cells = A.cells + mc ∧ B.slots = A.slots + ms
def vx_Back (l : Launch) (R : Room) (p : Program) (e : Env) (below : List Frame) (s : State) (sargs : Array Value) (y : MethodName) (len W9 : Nat)
    (Pre : Pt → Array Value → Prop) (Post : Pt → Array Value → Option Value → Pt → Prop) (PostX : Pt → Array Value → Addr → Pt → Prop) : Prop :=
  ∀ (m : MethodId) (meth : Method) (c : Code) (A : Pt) (g : JFrame) (ig : Instr) (mk : MethodId) (a : Array Value),
    Stand p l e R s m sargs below meth c A.U A.locs A.cells A.slots → g.method = m → g.locals.size = c.maxLocals → decode c.code g.pc = .ok (ig, len) →
    2 * g.monitorRoom + (g.stack.map fun v => v.category).sum ≤ W9 → A.U.methodNamed? y = some mk → Pre A a →
    (∃ (v : Option Value) (B : Pt), Stand p l e R s m sargs below meth c B.U B.locs B.cells B.slots ∧ Post A a v B ∧
      Steps p.tables e below (doInvoke e (A.U.setTop g) [] mk a).1 (B.U.setTop { g with pc := g.pc + len, stack := v.toList ++ g.stack })) ∨
    (∃ (q : Addr) (B : Pt), Stand p l e R s m sargs below meth c B.U B.locs B.cells B.slots ∧ PostX A a q B ∧
      Steps p.tables e below (doInvoke e (A.U.setTop g) [] mk a).1 ((B.U.setTop g).pushFrame (.throwing q)))
section Payer
variable {l : Launch} {R : Room} {p : Program} {e : Env} {below : List Frame} {s : State} {sargs : Array Value} {y : MethodName} {len W9 : Nat}
theorem vx_back {ws : List Cond} {rm : Room} {Pc : Array Value → State → Prop} {Qc : Array Value → State → Outcome → State → Prop} {XC : String → State → State → Prop} {mc ms : Nat} {free : Addr → Prop} {bytes : ByteArray} {maxL : Nat} {ret : Option FieldType}
    (hM : vx_Met l y ws rm Pc Qc XC mc ms free) (hblind : FrameBlind Pc) (hrc : rm.cells = mc) (hrs : rm.slots = ms)
    (hframes : rm.frames + 1 ≤ R.frames) (hlocals : W9 + (maxL + 11) + rm.locals ≤ R.locals)
    (hws : ∀ w ∈ ws, ∀ a' U, s.WarmedH U.vm → w.before a' U = true) (hcode : Cond.code y bytes maxL ret ∈ ws) (hinit : ∀ a' U, s.WarmedH U.vm → (Cond.initialized y.cls).before a' U = true) :
    vx_Back l R p e below s sargs y len W9 (PreOf R mc ms Pc) (PostOf Qc mc ms free) (vx_Post XC mc ms free) := by
  intro m meth c A g ig mk a X hg hsize hdg hW hn hp
  have h1 : (headSpec ws rm).pre.before a A.U = true := atoms_intro fun w hw => hws w hw _ _ X.warmed
  have h2 : (Cond.code y bytes maxL ret).before a A.U = true := hws _ hcode _ _ X.warmed
  have h3 : (Cond.initialized y.cls).before a A.U = true := hinit _ _ X.warmed
  have h4 : A.cells + (headSpec ws rm).room.cells ≤ R.cells := by rw [show (headSpec ws rm).room.cells = mc from hrc]; exact hp.1
  have h5 : A.slots + (headSpec ws rm).room.slots ≤ R.slots := by rw [show (headSpec ws rm).room.slots = ms from hrs]; exact hp.2.1
  have hPc : Pc a (A.U.calling g mk a) := hblind _ _ _ _ hp.2.2
  obtain ⟨U, Ls, c0, s0⟩ := A
  dsimp only [Pt.U, Pt.locs, Pt.cells, Pt.slots] at h1 h2 h3 h4 h5 X hn hPc ⊢
  obtain ⟨methY, cY, hmY, hcY, -, hlY, -, -, -, -⟩ := Cond.code_spec hn h2
  obtain ⟨kY, hkY, -⟩ := className_of_methodNamed hn
  have hinitY : kY.init = .initialized := Cond.initialized_spec (findClass_of_methodNamed hn) hkY h3
  have h : At U g.method c below := by rw [hg]; exact X.here
  have hlocals9 : W9 + (maxL + 11) + (headSpec ws rm).room.locals ≤ R.locals := hlocals
  have happ : (headSpec ws rm).appliesLoose y e.platform (U.calling g mk a) = true :=
    Spec.appliesLoose_calling (g := g) h hdg hn hkY hinitY
      (X.room_calling (g := g) (R' := (headSpec ws rm).room) hsize hmY hcY hframes (by rw [hlY]; omega) h4 h5) h1
  obtain ⟨mid, hmid⟩ := h.above
  have hfr : (U.setTop g).frames = (.java g :: mid) ++ below := by rw [State.frames_setTop' g h.top, hmid]; rfl
  obtain ⟨o, s₂, hsteps, -, hend, hq⟩ := Steps.callFree hM p X.admits X.cas X.clock (acts := []) hfr happ hPc trivial
  have hq' : vx_Q Qc XC mc ms free a (U.calling g mk a) o s₂ := hq
  rw [State.frames_setTop' g h.top] at hend
  obtain ⟨g₀, hg0⟩ := Option.isSome_iff_exists.mp h.top
  obtain ⟨r, hr⟩ := State.topJava?_eq_some.mp hg0
  have hr' : (({ U with heap := s₂.heap, slotsUsed := s₂.slotsUsed } : State).setVm s₂.vm).frames = .java g₀ :: r := hr
  rcases hq' with ⟨hqc, L, hfe, hL⟩ | ⟨q, rfl, E, ce, L, hx, hce, hcv, hcl, hW₂, hsm, hL⟩
  · obtain ⟨⟨v, rfl⟩, hW₂, e2, q2, q3, q4, q5, q6⟩ := id hfe
    have e3 : s₂ = ({ (U.calling g mk a).setFrames s₂.frames with heap := s₂.heap, slotsUsed := s₂.slotsUsed } : State).setVm s₂.vm := by
      have : s₂ = ({ s₂ with vm := (U.calling g mk a).vm } : State).setVm s₂.vm := rfl
      rw [e2] at this
      exact this
    obtain ⟨c₂, i₂, len₂, hc₂, hd₂, hf₂⟩ := hend
    have hW' : U.WarmedH s₂.vm := hW₂
    have hcc : c₂ = c := by
      have h1 : s₂.code? g.method = U.code? g.method := by
        rw [State.code?_eq, State.code?_eq, hW'.alike.method?]
      exact Option.some.inj (hc₂.symm.trans (h1.trans h.code))
    subst hcc
    have hlen : len₂ = len := by rw [hdg] at hd₂; cases hd₂; rfl
    subst hlen
    have hs₂ : s₂ = (({ U with heap := s₂.heap, slotsUsed := s₂.slotsUsed } : State).setVm s₂.vm).setTop { g with pc := g.pc + len₂, stack := v.toList ++ g.stack } := by
      refine e3.trans ?_
      rw [hf₂, State.calling_eq h.top, State.setFrames_setFrames, State.setTop_of_frames _ hr', hr]
      rfl
    have hsame : U.sameButNew ({ U with heap := s₂.heap, slotsUsed := s₂.slotsUsed } : State) L mc ms := by
      refine ⟨?_, q2, q3, q4, q5, q6⟩
      obtain ⟨t, ht, -⟩ := State.frames_cons hr
      show ({ U with heap := s₂.heap, slotsUsed := s₂.slotsUsed } : State) = { U.setFrames U.frames with heap := s₂.heap, slotsUsed := s₂.slotsUsed }
      rw [State.setFrames_self ht]
    subst hg
    refine Or.inl ⟨v, ⟨(({ U with heap := s₂.heap, slotsUsed := s₂.slotsUsed } : State).setVm s₂.vm), Ls ++ L, c0 + mc, s0 + ms⟩,
      ⟨X.admits, X.cas, X.clock, X.frames, X.room, X.hears, X.method, X.code, (X.here.setHeapUsed s₂.heap s₂.slotsUsed).setVm hW'.alike, X.tail, State.WarmedH.trans X.warmed hW', X.limits, X.bytes, X.same.trans (hsame.setVm s.vm)⟩,
      ⟨g, mk, s₂, L, rfl, rfl, hqc, rfl, hL, rfl, rfl⟩, ?_⟩
    show Steps p.tables e below _ ((({ U with heap := s₂.heap, slotsUsed := s₂.slotsUsed } : State).setVm s₂.vm).setTop { g with pc := g.pc + len₂, stack := v.toList ++ g.stack })
    rw [← hs₂]
    exact hsteps
  · obtain ⟨e2, q2, q3, q4, q5, q6⟩ := id hsm
    have e3 : s₂ = ({ (U.calling g mk a).setFrames s₂.frames with heap := s₂.heap, slotsUsed := s₂.slotsUsed } : State).setVm s₂.vm := by
      have : s₂ = ({ s₂ with vm := (U.calling g mk a).vm } : State).setVm s₂.vm := rfl
      rw [e2] at this
      exact this
    have hf₂ : s₂.frames = .throwing q :: .java g :: U.frames.tail := hend
    have hW' : U.WarmedH s₂.vm := hW₂
    have hs₂ : s₂ = ((({ U with heap := s₂.heap, slotsUsed := s₂.slotsUsed } : State).setVm s₂.vm).setTop g).pushFrame (.throwing q) := by
      refine e3.trans ?_
      rw [hf₂, State.calling_eq h.top, State.setFrames_setFrames, State.pushFrame, State.frames_setTop _ hr', State.setTop_of_frames _ hr', State.setFrames_setFrames, hr]
      rfl
    have hsame : U.sameButNew ({ U with heap := s₂.heap, slotsUsed := s₂.slotsUsed } : State) L mc ms := by
      refine ⟨?_, q2, q3, q4, q5, q6⟩
      obtain ⟨t, ht, -⟩ := State.frames_cons hr
      show ({ U with heap := s₂.heap, slotsUsed := s₂.slotsUsed } : State) = { U.setFrames U.frames with heap := s₂.heap, slotsUsed := s₂.slotsUsed }
      rw [State.setFrames_self ht]
    subst hg
    refine Or.inr ⟨q, ⟨(({ U with heap := s₂.heap, slotsUsed := s₂.slotsUsed } : State).setVm s₂.vm), Ls ++ L, c0 + mc, s0 + ms⟩,
      ⟨X.admits, X.cas, X.clock, X.frames, X.room, X.hears, X.method, X.code, (X.here.setHeapUsed s₂.heap s₂.slotsUsed).setVm hW'.alike, X.tail, State.WarmedH.trans X.warmed hW', X.limits, X.bytes, X.same.trans (hsame.setVm s.vm)⟩,
      ⟨g, mk, s₂, L, E, ce, rfl, rfl, hx, hce, hcv, hcl, rfl, hL, rfl, rfl⟩, ?_⟩
    show Steps p.tables e below _ (((({ U with heap := s₂.heap, slotsUsed := s₂.slotsUsed } : State).setVm s₂.vm).setTop g).pushFrame (.throwing q))
    rw [← hs₂]
    exact hsteps
end Payer
section Calls
variable {p : Program} {l : Launch} {e : Env} {R : Room} {s : State} {m : MethodId} {args : Array Value} {below : List Frame} {meth : Method} {c : Code} {T : State} {locs : List Loc} {cells slots : Nat}
theorem vx_callV (X : Stand p l e R s m args below meth c T locs cells slots) (hexec : p.tables.exec = Jvm.exec) {own C : String} {index : Nat} {y : MethodName} {bytes : ByteArray} {maxL : Nat} {ret : Option FieldType}
    (hown : s.vm.findClass own = some m.cls) (hlink : (Cond.methodLink own index y).before args s = true) (hinst : (Cond.instanceMethod y).before args s = true) (hsel : (Cond.selects C y y).before args s = true)
    (hcode : (Cond.code y bytes maxL ret).before args s = true) (hy : y.cls ≠ "java/lang/invoke/MethodHandle" ∧ y.cls ≠ "java/lang/invoke/VarHandle")
    {W9 : Nat} {Pre : Pt → Array Value → Prop} {Post : Pt → Array Value → Option Value → Pt → Prop} {PostX : Pt → Array Value → Addr → Pt → Prop} (hK : vx_Back l R p e below s args y 3 W9 Pre Post PostX)
    {b : Addr} {cellB : Cell} (hcell : T.heap[b]? = some cellB) (hobj : cellB.vm.isStatics = false) (hcls : s.vm.findClass C = some cellB.cls)
    {g : JFrame} (hg : g.method = m) (hsize : g.locals.size = c.maxLocals) {argsL rest : List Value} (hlen : ∀ sig, parseMethodDescriptor y.desc = some sig → argsL.length = sig.parameters.length)
    (hstack : g.stack = argsL.reverse ++ .ref b :: rest) (hW : 2 * g.monitorRoom + (rest.map fun v => v.category).sum ≤ W9) (hdg : decode c.code g.pc = .ok (.invokevirtual index, 3))
    (hpre : ∀ vm₁, s.WarmedH vm₁ → Pre ⟨T.setVm vm₁, locs, cells, slots⟩ (Value.ref b :: argsL).toArray) :
    (∃ (v : Option Value) (vm₁ : Vm) (B : Pt), s.WarmedH vm₁ ∧ Stand p l e R s m args below meth c B.U B.locs B.cells B.slots ∧ Post ⟨T.setVm vm₁, locs, cells, slots⟩ (Value.ref b :: argsL).toArray v B ∧
      ∀ target, Steps p.tables e below (B.U.setTop { g with pc := g.pc + 3, stack := v.toList ++ rest }) target → Steps p.tables e below (T.setTop g) target) ∨
    (∃ (q : Addr) (vm₁ : Vm) (B : Pt), s.WarmedH vm₁ ∧ Stand p l e R s m args below meth c B.U B.locs B.cells B.slots ∧ PostX ⟨T.setVm vm₁, locs, cells, slots⟩ (Value.ref b :: argsL).toArray q B ∧
      Steps p.tables e below (T.setTop g) ((B.U.setTop { g with stack := rest }).pushFrame (.throwing q))) := by
  obtain ⟨mk, methM, hnamed, hmethM, hstM, habM⟩ := Cond.instanceMethod_spec hinst
  obtain ⟨methM', cM, hmethM', -, -, -, -, -, -, hsigM⟩ := Cond.code_spec hnamed hcode
  cases hmethM.symm.trans hmethM'
  obtain ⟨c2, r2, m2, q1, q2, q3, q4, kP, hkP, hkPi⟩ := Cond.selects_spec hsel
  cases hcls.symm.trans q1
  cases (State.methodFound?_of_named hnamed hy).symm.trans q2
  cases hnamed.symm.trans q3
  have hselP : selectMethod e.platform s.vm cellB.cls mk = .method mk := by rw [Launch.admits_selectMethod X.admits]; exact q4
  obtain ⟨vm₁, X₁, hstep₁⟩ := X.invokevirtual hexec hown hlink hnamed hmethM hstM hkP hkPi hy (a := b) (cell := cellB) hcell
    (fun z h => by rw [h] at hobj; cases hobj) hselP hmethM habM hkP hkPi (g := g) hg (argsL := argsL) (rest := rest) (hlen _ hsigM) hstack hdg
  rcases hK m meth c ⟨T.setVm vm₁, locs, cells, slots⟩ { g with stack := rest } (.invokevirtual index) mk (Value.ref b :: argsL).toArray X₁ hg hsize hdg hW (X₁.named hnamed) (hpre vm₁ X₁.warmed) with ⟨v, B, X', hpost, hsteps⟩ | ⟨q, B, X', hpost, hsteps⟩
  · exact Or.inl ⟨v, vm₁, B, X₁.warmed, X', hpost, fun target h => hstep₁ _ fun acts => by rw [doInvoke_state]; exact hsteps.trans h⟩
  · exact Or.inr ⟨q, vm₁, B, X₁.warmed, X', hpost, hstep₁ _ fun acts => by rw [doInvoke_state]; exact hsteps⟩
theorem vx_callS (X : Stand p l e R s m args below meth c T locs cells slots) (hexec : p.tables.exec = Jvm.exec) {own : String} {index : Nat} {y : MethodName} {bytes : ByteArray} {maxL : Nat} {ret : Option FieldType}
    (hown : s.vm.findClass own = some m.cls) (hlink : (Cond.methodLink own index y).before args s = true) (hstat : (Cond.static y).before args s = true) (hinit : (Cond.initialized y.cls).before args s = true)
    (hcode : (Cond.code y bytes maxL ret).before args s = true) (hy : y.cls ≠ "java/lang/invoke/MethodHandle" ∧ y.cls ≠ "java/lang/invoke/VarHandle")
    {W9 : Nat} {Pre : Pt → Array Value → Prop} {Post : Pt → Array Value → Option Value → Pt → Prop} {PostX : Pt → Array Value → Addr → Pt → Prop} (hK : vx_Back l R p e below s args y 3 W9 Pre Post PostX)
    {g : JFrame} (hg : g.method = m) (hsize : g.locals.size = c.maxLocals) {argsL rest : List Value} (hlen : ∀ sig, parseMethodDescriptor y.desc = some sig → argsL.length = sig.parameters.length)
    (hstack : g.stack = argsL.reverse ++ rest) (hW : 2 * g.monitorRoom + (rest.map fun v => v.category).sum ≤ W9) (hdg : decode c.code g.pc = .ok (.invokestatic index, 3))
    (hpre : ∀ vm₁, s.WarmedH vm₁ → Pre ⟨T.setVm vm₁, locs, cells, slots⟩ argsL.toArray) :
    (∃ (v : Option Value) (vm₁ : Vm) (B : Pt), s.WarmedH vm₁ ∧ Stand p l e R s m args below meth c B.U B.locs B.cells B.slots ∧ Post ⟨T.setVm vm₁, locs, cells, slots⟩ argsL.toArray v B ∧
      ∀ target, Steps p.tables e below (B.U.setTop { g with pc := g.pc + 3, stack := v.toList ++ rest }) target → Steps p.tables e below (T.setTop g) target) ∨
    (∃ (q : Addr) (vm₁ : Vm) (B : Pt), s.WarmedH vm₁ ∧ Stand p l e R s m args below meth c B.U B.locs B.cells B.slots ∧ PostX ⟨T.setVm vm₁, locs, cells, slots⟩ argsL.toArray q B ∧
      Steps p.tables e below (T.setTop g) ((B.U.setTop { g with stack := rest }).pushFrame (.throwing q))) := by
  obtain ⟨mk, hnamed⟩ := Cond.code_named hcode
  obtain ⟨methM, cM, hmethM, -, -, -, -, -, -, hsigM⟩ := Cond.code_spec hnamed hcode
  have hstatic : methM.isStatic = true := Cond.static_spec hnamed hmethM hstat
  obtain ⟨kP, hkP, -⟩ := className_of_methodNamed hnamed
  have hinitP : kP.init = .initialized := Cond.initialized_spec (findClass_of_methodNamed hnamed) hkP hinit
  obtain ⟨vm₁, X₁, hstep₁⟩ := X.invokestatic hexec hown hlink hnamed hmethM hstatic hkP hinitP hy (g := g) hg (argsL := argsL) (rest := rest) (hlen _ hsigM) hstack hdg
  rcases hK m meth c ⟨T.setVm vm₁, locs, cells, slots⟩ { g with stack := rest } (.invokestatic index) mk argsL.toArray X₁ hg hsize hdg hW (X₁.named hnamed) (hpre vm₁ X₁.warmed) with ⟨v, B, X', hpost, hsteps⟩ | ⟨q, B, X', hpost, hsteps⟩
  · exact Or.inl ⟨v, vm₁, B, X₁.warmed, X', hpost, fun target h => hstep₁ _ fun acts => by rw [doInvoke_state]; exact hsteps.trans h⟩
  · exact Or.inr ⟨q, vm₁, B, X₁.warmed, X', hpost, hstep₁ _ fun acts => by rw [doInvoke_state]; exact hsteps⟩
end Calls
theorem vx_cls {s : State} {T : State} {vm₁ : Vm} {E : String} {k : ClassId} (hW : s.WarmedH vm₁) (h : (T.setVm vm₁).vm.findClass E = some k) : s.vm.findClass E = some k := by
  have h1 : vm₁.findClass E = some k := h
  rw [hW.alike.findClass] at h1
  exact h1
/-- the method's frame g, with q thrown over it -/
def vx_W (p : Program) (l : Launch) (e : Env) (R : Room) (s : State) (m : MethodId) (args : Array Value) (below : List Frame) (meth : Method) (c : Code) (H : Heap) (locs : List Loc) (cells slots : Nat) (Q : State → Prop) (g : JFrame) (q : Addr) : Prop :=
  ∀ T : State, T.heap = H → Stand p l e R s m args below meth c T locs cells slots → ∃ t, Steps p.tables e below ((T.setTop g).pushFrame (.throwing q)) t ∧ Q t
def vx_Run (p : Program) (l : Launch) (e : Env) (R : Room) (s : State) (m : MethodId) (args : Array Value) (below : List Frame) (meth : Method) (c : Code) (H : Heap) (locs : List Loc) (cells slots mc ms : Nat) (g : JFrame) (rest : List Value) (Qa : State → Outcome → State → Prop) (XC : String → State → State → Prop) (free : Addr → Prop) : Prop :=
  ∀ T : State, T.heap = H → Stand p l e R s m args below meth c T locs cells slots →
    (∃ (v : Option Value) (st₀ t T' : State) (L : List Loc), st₀.heap = H ∧ Stand p l e R s m args below meth c T' (locs ++ L) (cells + mc) (slots + ms) ∧ (∀ q ∈ L, free q.base) ∧ T'.heap = t.heap ∧ T'.vm = t.vm ∧ Qa st₀ (.returned v) t ∧
      Goes p e below T g T' { g with pc := g.pc + 3, stack := v.toList ++ rest }) ∨
    (∃ (q : Addr) (st₀ t T' : State) (L : List Loc) (E : String) (ce : Cell), st₀.heap = H ∧ Stand p l e R s m args below meth c T' (locs ++ L) (cells + mc) (slots + ms) ∧ (∀ z ∈ L, free z.base) ∧ T'.heap = t.heap ∧ T'.vm = t.vm ∧ XC E st₀ t ∧ t.heap[q]? = some ce ∧ ce.vm = .none ∧ s.vm.findClass E = some ce.cls ∧
      Steps p.tables e below (T.setTop g) ((T'.setTop { g with stack := rest }).pushFrame (.throwing q)))
def vx_X {S : Type} (px : S → Prop) (B : String → S → State → Prop) (A : Nat → Prop) : String → State → State → Prop := fun E st t => ∃ u : S, px u ∧ B E u t ∧ va_F A st t
section Runs
variable {p : Program} {l : Launch} {e : Env} {R : Room} {s : State} {m : MethodId} {args : Array Value} {below : List Frame} {meth : Method} {c : Code} {H : Heap} {locs : List Loc} {cells slots : Nat}
variable {y : MethodName} {bytes cc : ByteArray} {maxL nL mc ms n index : Nat} {ret : Option FieldType} {ws : List Cond} {rm : Room} {Pc : Array Value → State → Prop} {Qc : Array Value → State → Outcome → State → Prop} {XC : String → State → State → Prop} {free : Addr → Prop} {Ts : List Cond} {own C : String} {b : Addr} {As rest : List Value} {g : JFrame}
theorem vx_callBack (cb : CallB R s args own index y bytes maxL ret ws rm mc ms n) (hM : vx_Met l y ws rm Pc Qc XC mc ms free) (hbl : FrameBlind Pc) : vx_Back l R p e below s args y 3 8 (PreOf R mc ms Pc) (PostOf Qc mc ms free) (vx_Post XC mc ms free) := by
  obtain ⟨hrc, hrs, hfr, hlo, hws, hcw, -, hini, -⟩ := cb
  exact vx_back (bytes := bytes) (maxL := maxL) (ret := ret) hM hbl hrc hrs hfr hlo hws hcw (fun a' U hW => word_at hW (Or.inl (by first | rfl | simp [Cond.onTables, Cond.keeps, Cond.steady])) hini)
theorem vx_runV (S : CallFix p m c cc nL s args Ts own) (hM : vx_Met l y ws rm Pc Qc XC mc ms free) (cw : CallW R s args own C index y bytes maxL ret ws rm mc ms n) (hp : PreV s H C b Pc As)
    (hg : g.method = m) (hn : As.length = n) (hsize : g.locals.size = nL) (hstack : g.stack = As.reverse ++ .ref b :: rest) (hW : 2 * g.monitorRoom + (rest.map fun v => v.category).sum ≤ 8) (hdg : decode cc g.pc = .ok (.invokevirtual index, 3)) (hf : cells + mc ≤ R.cells ∧ slots + ms ≤ R.slots) :
    vx_Run p l e R s m args below meth c H locs cells slots mc ms g rest (Qc (Value.ref b :: As).toArray) XC free := by
  have hK : vx_Back l R p e below s args y 3 8 (PreOf R mc ms Pc) (PostOf Qc mc ms free) (vx_Post XC mc ms free) := vx_callBack cw.1 hM hp.1
  obtain ⟨⟨-, -, -, -, -, -, hcode, -, hy, hlen, hl⟩, hin, hse⟩ := cw
  obtain ⟨hx, hb, hml, ho, -⟩ := S
  obtain ⟨-, ⟨cellB, hcB, hoB, hclB⟩, hPc⟩ := hp
  intro T hT X
  rcases vx_callV X hx (C := C) (bytes := bytes) (maxL := maxL) (ret := ret) ho hl hin hse hcode hy hK (by rw [hT]; exact hcB) hoB hclB hg (hsize.trans hml.symm) (argsL := As) (rest := rest) (fun sig h => hn.trans (hlen sig h)) hstack hW (by rw [hb]; exact hdg)
    (fun vm₁ hW₁ => ⟨hf.1, hf.2, hPc (T.setVm vm₁) hT hW₁⟩) with ⟨v, vm₁, ⟨U', l2, c2, s2⟩, hW₁, X', ⟨g', mk, t, L, e1, e2, hq, h1, hL, h2, h3⟩, st⟩ | ⟨q, vm₁, ⟨U', l2, c2, s2⟩, hW₁, X', ⟨g', mk, t, L, E, ce, e1, e2, hq, hce, hcv, hcl, h1, hL, h2, h3⟩, st⟩
  · dsimp only [Pt.U, Pt.locs, Pt.cells, Pt.slots] at X' e1 e2 h1 h2 h3 st
    subst h1; subst h2; subst h3
    exact Or.inl ⟨v, (T.setVm vm₁).calling g' mk (Value.ref b :: As).toArray, t, U', L, hT, X', hL, e1, e2, hq, st⟩
  · dsimp only [Pt.U, Pt.locs, Pt.cells, Pt.slots] at X' e1 e2 h1 h2 h3 st hcl
    subst h1; subst h2; subst h3
    exact Or.inr ⟨q, (T.setVm vm₁).calling g' mk (Value.ref b :: As).toArray, t, U', L, E, ce, hT, X', hL, e1, e2, hq, hce, hcv, vx_cls hW₁ hcl, st⟩
theorem vx_runS (S : CallFix p m c cc nL s args Ts own) (hM : vx_Met l y ws rm Pc Qc XC mc ms free) (cw : CallB R s args own index y bytes maxL ret ws rm mc ms n ∧ (Cond.static y).before args s = true) (hp : PreS s H Pc As)
    (hg : g.method = m) (hn : As.length = n) (hsize : g.locals.size = nL) (hstack : g.stack = As.reverse ++ rest) (hW : 2 * g.monitorRoom + (rest.map fun v => v.category).sum ≤ 8) (hdg : decode cc g.pc = .ok (.invokestatic index, 3)) (hf : cells + mc ≤ R.cells ∧ slots + ms ≤ R.slots) :
    vx_Run p l e R s m args below meth c H locs cells slots mc ms g rest (Qc As.toArray) XC free := by
  have hK : vx_Back l R p e below s args y 3 8 (PreOf R mc ms Pc) (PostOf Qc mc ms free) (vx_Post XC mc ms free) := vx_callBack cw.1 hM hp.1
  obtain ⟨⟨-, -, -, -, -, -, hcode, hini, hy, hlen, hl⟩, hstt⟩ := cw
  obtain ⟨hx, hb, hml, ho, -⟩ := S
  intro T hT X
  rcases vx_callS X hx (bytes := bytes) (maxL := maxL) (ret := ret) ho hl hstt hini hcode hy hK hg (hsize.trans hml.symm) (argsL := As) (rest := rest) (fun sig h => hn.trans (hlen sig h)) hstack hW (by rw [hb]; exact hdg)
    (fun vm₁ hW₁ => ⟨hf.1, hf.2, hp.2 (T.setVm vm₁) hT hW₁⟩) with ⟨v, vm₁, ⟨U', l2, c2, s2⟩, hW₁, X', ⟨g', mk, t, L, e1, e2, hq, h1, hL, h2, h3⟩, st⟩ | ⟨q, vm₁, ⟨U', l2, c2, s2⟩, hW₁, X', ⟨g', mk, t, L, E, ce, e1, e2, hq, hce, hcv, hcl, h1, hL, h2, h3⟩, st⟩
  · dsimp only [Pt.U, Pt.locs, Pt.cells, Pt.slots] at X' e1 e2 h1 h2 h3 st
    subst h1; subst h2; subst h3
    exact Or.inl ⟨v, (T.setVm vm₁).calling g' mk As.toArray, t, U', L, hT, X', hL, e1, e2, hq, st⟩
  · dsimp only [Pt.U, Pt.locs, Pt.cells, Pt.slots] at X' e1 e2 h1 h2 h3 st hcl
    subst h1; subst h2; subst h3
    exact Or.inr ⟨q, (T.setVm vm₁).calling g' mk As.toArray, t, U', L, E, ce, hT, X', hL, e1, e2, hq, hce, hcv, vx_cls hW₁ hcl, st⟩
end Runs
section Rows
variable {p : Program} {l : Launch} {e : Env} {R : Room} {s : State} {m : MethodId} {args : Array Value} {below : List Frame} {meth : Method} {c : Code} {H : Heap} {locs : List Loc} {cells slots : Nat} {Q : State → Prop}
variable {mc ms : Nat} {free : Addr → Prop} {A0 A1 : Nat → Prop} {H0 : Heap} {a : Array Value} {pc : Nat} {ls : Array Slot} {st0 rest : List Value}
theorem vx_keep {st₀ t T' : State} {L : List Loc} (h0 : st₀.heap = H) (e1 : T'.heap = t.heap) (hS : va_S A0 H0 H locs) (hA : ∀ q, q < H.size → A1 q → A0 q) (hf : ∀ q, free q → A0 q) (hL : ∀ q ∈ L, free q.base) (hF : va_F A1 st₀ t) :
    H.size ≤ T'.heap.size ∧ (∀ q : Nat, q < H.size → ¬ A1 q → T'.heap[q]? = H[q]?) ∧ va_S A0 H0 T'.heap (locs ++ L) := by
  obtain ⟨hz, hk⟩ := hF
  rw [h0] at hz hk
  exact ⟨by rw [e1]; exact hz, fun q h1 h2 => by rw [e1]; exact hk q h1 h2,
    ⟨Nat.le_trans hS.1 (by rw [e1]; exact hz), fun q h1 h2 => by rw [e1, hk q (Nat.lt_of_lt_of_le h1 hS.1) (fun z => h2 (hA q (Nat.lt_of_lt_of_le h1 hS.1) z))]; exact hS.2.1 q h1 h2, fun q hq => by
      rcases List.mem_append.mp hq with h | h
      · exact hS.2.2 q h
      · exact hf _ (hL q h)⟩⟩
theorem vx_calli {S SX : Type} {post : Int32 → S → Prop} {px : SX → Prop} {B : S → State → Prop} {BX : String → SX → State → Prop} {AX : Nat → Prop} (hr : vx_Run p l e R s m args below meth c H locs cells slots mc ms (F0 m pc ls st0) rest (va_Qi post B A1 a) (vx_X px BX AX) free) (hS : va_S A0 H0 H locs) (hA : ∀ q, q < H.size → A1 q → A0 q) (hf : ∀ q, free q → A0 q) (hAX : ∀ q, q < H.size → AX q → A0 q)
    (kx : ∀ (E : String) (ce : Cell) (q9 : Addr) (u : SX) (t : State) (H1 : Heap) (locs1 : List Loc), t.heap = H1 → s.vm.Alike t.vm → px u → BX E u t → H.size ≤ H1.size → (∀ q : Nat, q < H.size → ¬ AX q → H1[q]? = H[q]?) → va_S A0 H0 H1 locs1 → H1[q9]? = some ce → ce.vm = .none → s.vm.findClass E = some ce.cls → vx_W p l e R s m args below meth c H1 locs1 (cells + mc) (slots + ms) Q (F0 m pc ls rest) q9)
    (kk : ∀ (r : Int32) (u : S) (t : State) (H1 : Heap) (locs1 : List Loc), t.heap = H1 → s.vm.Alike t.vm → post r u → B u t → H.size ≤ H1.size → (∀ q : Nat, q < H.size → ¬ A1 q → H1[q]? = H[q]?) → va_S A0 H0 H1 locs1 → W p l e R s m args below meth c H1 locs1 (cells + mc) (slots + ms) Q (F0 m (pc + 3) ls (.int r :: rest))) : W p l e R s m args below meth c H locs cells slots Q (F0 m pc ls st0) := by
  intro T hT X
  rcases hr T hT X with ⟨v, st₀, t, T', L, h0, X', hL, e1, e2, ⟨⟨r, u, hv, hp, hb⟩, hF⟩, st⟩ | ⟨q, st₀, t, T', L, E, ce, h0, X', hL, e1, e2, ⟨u, hp, hb, hF⟩, hce, hcv, hcl, st⟩
  · cases hv
    obtain ⟨k1, k2, k3⟩ := vx_keep h0 e1 hS hA hf hL hF
    obtain ⟨t2, a1, b1⟩ := kk r u t T'.heap (locs ++ L) e1.symm (by rw [← e2]; exact X'.warmed.alike) hp hb k1 k2 k3 T' rfl X'
    exact ⟨t2, st t2 a1, b1⟩
  · obtain ⟨k1, k2, k3⟩ := vx_keep h0 e1 hS hAX hf hL hF
    obtain ⟨t2, a1, b1⟩ := kx E ce q u t T'.heap (locs ++ L) e1.symm (by rw [← e2]; exact X'.warmed.alike) hp hb k1 k2 k3 (by rw [e1]; exact hce) hcv hcl T' rfl X'
    exact ⟨t2, st.trans a1, b1⟩
theorem vx_calll {S SX : Type} {post : Int64 → S → Prop} {px : SX → Prop} {B : S → State → Prop} {BX : String → SX → State → Prop} {AX : Nat → Prop} (hr : vx_Run p l e R s m args below meth c H locs cells slots mc ms (F0 m pc ls st0) rest (va_Ql post B A1 a) (vx_X px BX AX) free) (hS : va_S A0 H0 H locs) (hA : ∀ q, q < H.size → A1 q → A0 q) (hf : ∀ q, free q → A0 q) (hAX : ∀ q, q < H.size → AX q → A0 q)
    (kx : ∀ (E : String) (ce : Cell) (q9 : Addr) (u : SX) (t : State) (H1 : Heap) (locs1 : List Loc), t.heap = H1 → s.vm.Alike t.vm → px u → BX E u t → H.size ≤ H1.size → (∀ q : Nat, q < H.size → ¬ AX q → H1[q]? = H[q]?) → va_S A0 H0 H1 locs1 → H1[q9]? = some ce → ce.vm = .none → s.vm.findClass E = some ce.cls → vx_W p l e R s m args below meth c H1 locs1 (cells + mc) (slots + ms) Q (F0 m pc ls rest) q9)
    (kk : ∀ (r : Int64) (u : S) (t : State) (H1 : Heap) (locs1 : List Loc), t.heap = H1 → s.vm.Alike t.vm → post r u → B u t → H.size ≤ H1.size → (∀ q : Nat, q < H.size → ¬ A1 q → H1[q]? = H[q]?) → va_S A0 H0 H1 locs1 → W p l e R s m args below meth c H1 locs1 (cells + mc) (slots + ms) Q (F0 m (pc + 3) ls (.long r :: rest))) : W p l e R s m args below meth c H locs cells slots Q (F0 m pc ls st0) := by
  intro T hT X
  rcases hr T hT X with ⟨v, st₀, t, T', L, h0, X', hL, e1, e2, ⟨⟨r, u, hv, hp, hb⟩, hF⟩, st⟩ | ⟨q, st₀, t, T', L, E, ce, h0, X', hL, e1, e2, ⟨u, hp, hb, hF⟩, hce, hcv, hcl, st⟩
  · cases hv
    obtain ⟨k1, k2, k3⟩ := vx_keep h0 e1 hS hA hf hL hF
    obtain ⟨t2, a1, b1⟩ := kk r u t T'.heap (locs ++ L) e1.symm (by rw [← e2]; exact X'.warmed.alike) hp hb k1 k2 k3 T' rfl X'
    exact ⟨t2, st t2 a1, b1⟩
  · obtain ⟨k1, k2, k3⟩ := vx_keep h0 e1 hS hAX hf hL hF
    obtain ⟨t2, a1, b1⟩ := kx E ce q u t T'.heap (locs ++ L) e1.symm (by rw [← e2]; exact X'.warmed.alike) hp hb k1 k2 k3 (by rw [e1]; exact hce) hcv hcl T' rfl X'
    exact ⟨t2, st.trans a1, b1⟩
theorem vx_callf {S SX : Type} {post : UInt32 → S → Prop} {px : SX → Prop} {B : S → State → Prop} {BX : String → SX → State → Prop} {AX : Nat → Prop} (hr : vx_Run p l e R s m args below meth c H locs cells slots mc ms (F0 m pc ls st0) rest (va_Qf post B A1 a) (vx_X px BX AX) free) (hS : va_S A0 H0 H locs) (hA : ∀ q, q < H.size → A1 q → A0 q) (hf : ∀ q, free q → A0 q) (hAX : ∀ q, q < H.size → AX q → A0 q)
    (kx : ∀ (E : String) (ce : Cell) (q9 : Addr) (u : SX) (t : State) (H1 : Heap) (locs1 : List Loc), t.heap = H1 → s.vm.Alike t.vm → px u → BX E u t → H.size ≤ H1.size → (∀ q : Nat, q < H.size → ¬ AX q → H1[q]? = H[q]?) → va_S A0 H0 H1 locs1 → H1[q9]? = some ce → ce.vm = .none → s.vm.findClass E = some ce.cls → vx_W p l e R s m args below meth c H1 locs1 (cells + mc) (slots + ms) Q (F0 m pc ls rest) q9)
    (kk : ∀ (r : UInt32) (u : S) (t : State) (H1 : Heap) (locs1 : List Loc), t.heap = H1 → s.vm.Alike t.vm → post r u → B u t → H.size ≤ H1.size → (∀ q : Nat, q < H.size → ¬ A1 q → H1[q]? = H[q]?) → va_S A0 H0 H1 locs1 → W p l e R s m args below meth c H1 locs1 (cells + mc) (slots + ms) Q (F0 m (pc + 3) ls (.float r :: rest))) : W p l e R s m args below meth c H locs cells slots Q (F0 m pc ls st0) := by
  intro T hT X
  rcases hr T hT X with ⟨v, st₀, t, T', L, h0, X', hL, e1, e2, ⟨⟨r, u, hv, hp, hb⟩, hF⟩, st⟩ | ⟨q, st₀, t, T', L, E, ce, h0, X', hL, e1, e2, ⟨u, hp, hb, hF⟩, hce, hcv, hcl, st⟩
  · cases hv
    obtain ⟨k1, k2, k3⟩ := vx_keep h0 e1 hS hA hf hL hF
    obtain ⟨t2, a1, b1⟩ := kk r u t T'.heap (locs ++ L) e1.symm (by rw [← e2]; exact X'.warmed.alike) hp hb k1 k2 k3 T' rfl X'
    exact ⟨t2, st t2 a1, b1⟩
  · obtain ⟨k1, k2, k3⟩ := vx_keep h0 e1 hS hAX hf hL hF
    obtain ⟨t2, a1, b1⟩ := kx E ce q u t T'.heap (locs ++ L) e1.symm (by rw [← e2]; exact X'.warmed.alike) hp hb k1 k2 k3 (by rw [e1]; exact hce) hcv hcl T' rfl X'
    exact ⟨t2, st.trans a1, b1⟩
theorem vx_calld {S SX : Type} {post : UInt64 → S → Prop} {px : SX → Prop} {B : S → State → Prop} {BX : String → SX → State → Prop} {AX : Nat → Prop} (hr : vx_Run p l e R s m args below meth c H locs cells slots mc ms (F0 m pc ls st0) rest (va_Qd post B A1 a) (vx_X px BX AX) free) (hS : va_S A0 H0 H locs) (hA : ∀ q, q < H.size → A1 q → A0 q) (hf : ∀ q, free q → A0 q) (hAX : ∀ q, q < H.size → AX q → A0 q)
    (kx : ∀ (E : String) (ce : Cell) (q9 : Addr) (u : SX) (t : State) (H1 : Heap) (locs1 : List Loc), t.heap = H1 → s.vm.Alike t.vm → px u → BX E u t → H.size ≤ H1.size → (∀ q : Nat, q < H.size → ¬ AX q → H1[q]? = H[q]?) → va_S A0 H0 H1 locs1 → H1[q9]? = some ce → ce.vm = .none → s.vm.findClass E = some ce.cls → vx_W p l e R s m args below meth c H1 locs1 (cells + mc) (slots + ms) Q (F0 m pc ls rest) q9)
    (kk : ∀ (r : UInt64) (u : S) (t : State) (H1 : Heap) (locs1 : List Loc), t.heap = H1 → s.vm.Alike t.vm → post r u → B u t → H.size ≤ H1.size → (∀ q : Nat, q < H.size → ¬ A1 q → H1[q]? = H[q]?) → va_S A0 H0 H1 locs1 → W p l e R s m args below meth c H1 locs1 (cells + mc) (slots + ms) Q (F0 m (pc + 3) ls (.double r :: rest))) : W p l e R s m args below meth c H locs cells slots Q (F0 m pc ls st0) := by
  intro T hT X
  rcases hr T hT X with ⟨v, st₀, t, T', L, h0, X', hL, e1, e2, ⟨⟨r, u, hv, hp, hb⟩, hF⟩, st⟩ | ⟨q, st₀, t, T', L, E, ce, h0, X', hL, e1, e2, ⟨u, hp, hb, hF⟩, hce, hcv, hcl, st⟩
  · cases hv
    obtain ⟨k1, k2, k3⟩ := vx_keep h0 e1 hS hA hf hL hF
    obtain ⟨t2, a1, b1⟩ := kk r u t T'.heap (locs ++ L) e1.symm (by rw [← e2]; exact X'.warmed.alike) hp hb k1 k2 k3 T' rfl X'
    exact ⟨t2, st t2 a1, b1⟩
  · obtain ⟨k1, k2, k3⟩ := vx_keep h0 e1 hS hAX hf hL hF
    obtain ⟨t2, a1, b1⟩ := kx E ce q u t T'.heap (locs ++ L) e1.symm (by rw [← e2]; exact X'.warmed.alike) hp hb k1 k2 k3 (by rw [e1]; exact hce) hcv hcl T' rfl X'
    exact ⟨t2, st.trans a1, b1⟩
theorem vx_callv {S SX : Type} {post : S → Prop} {px : SX → Prop} {B : S → State → Prop} {BX : String → SX → State → Prop} {AX : Nat → Prop} (hr : vx_Run p l e R s m args below meth c H locs cells slots mc ms (F0 m pc ls st0) rest (va_Qv post B A1 a) (vx_X px BX AX) free) (hS : va_S A0 H0 H locs) (hA : ∀ q, q < H.size → A1 q → A0 q) (hf : ∀ q, free q → A0 q) (hAX : ∀ q, q < H.size → AX q → A0 q)
    (kx : ∀ (E : String) (ce : Cell) (q9 : Addr) (u : SX) (t : State) (H1 : Heap) (locs1 : List Loc), t.heap = H1 → s.vm.Alike t.vm → px u → BX E u t → H.size ≤ H1.size → (∀ q : Nat, q < H.size → ¬ AX q → H1[q]? = H[q]?) → va_S A0 H0 H1 locs1 → H1[q9]? = some ce → ce.vm = .none → s.vm.findClass E = some ce.cls → vx_W p l e R s m args below meth c H1 locs1 (cells + mc) (slots + ms) Q (F0 m pc ls rest) q9)
    (kk : ∀ (u : S) (t : State) (H1 : Heap) (locs1 : List Loc), t.heap = H1 → s.vm.Alike t.vm → post u → B u t → H.size ≤ H1.size → (∀ q : Nat, q < H.size → ¬ A1 q → H1[q]? = H[q]?) → va_S A0 H0 H1 locs1 → W p l e R s m args below meth c H1 locs1 (cells + mc) (slots + ms) Q (F0 m (pc + 3) ls (rest))) : W p l e R s m args below meth c H locs cells slots Q (F0 m pc ls st0) := by
  intro T hT X
  rcases hr T hT X with ⟨v, st₀, t, T', L, h0, X', hL, e1, e2, ⟨⟨u, hv, hp, hb⟩, hF⟩, st⟩ | ⟨q, st₀, t, T', L, E, ce, h0, X', hL, e1, e2, ⟨u, hp, hb, hF⟩, hce, hcv, hcl, st⟩
  · cases hv
    obtain ⟨k1, k2, k3⟩ := vx_keep h0 e1 hS hA hf hL hF
    obtain ⟨t2, a1, b1⟩ := kk u t T'.heap (locs ++ L) e1.symm (by rw [← e2]; exact X'.warmed.alike) hp hb k1 k2 k3 T' rfl X'
    exact ⟨t2, st t2 a1, b1⟩
  · obtain ⟨k1, k2, k3⟩ := vx_keep h0 e1 hS hAX hf hL hF
    obtain ⟨t2, a1, b1⟩ := kx E ce q u t T'.heap (locs ++ L) e1.symm (by rw [← e2]; exact X'.warmed.alike) hp hb k1 k2 k3 (by rw [e1]; exact hce) hcv hcl T' rfl X'
    exact ⟨t2, st.trans a1, b1⟩
/-- caught by the row x of this method's table; the rows ahead don't take it -/
theorem vx_catch {own name : String} {E : String} {ce : Cell} {q : Addr} (hown : s.vm.findClass own = some m.cls) (pre : List ExceptionTableEntry) (x : ExceptionTableEntry) (suf : List ExceptionTableEntry) (hsplit : c.exceptionTable.toList = pre ++ x :: suf)
    (hpass : ∀ z ∈ pre, covers z pc = false ∨ (z.catchType ≠ 0 ∧ ∃ nm : String, (Cond.classLink own z.catchType nm).before args s = true ∧ va_Nc E nm s)) (hx : covers x pc = true) (h0 : x.catchType ≠ 0)
    (hlink : (Cond.classLink own x.catchType name).before args s = true) (hcast : (Cond.castable E name).before args s = true) (hcell : H[q]? = some ce) (hv : ce.vm = .none) (hcl : s.vm.findClass E = some ce.cls)
    (kk : W p l e R s m args below meth c H locs cells slots Q (F0 m x.handlerPc ls [.ref q])) : vx_W p l e R s m args below meth c H locs cells slots Q (F0 m pc ls rest) q := by
  intro T hT X
  have hpl : e.platform.magicAccessors = ({} : Platform).magicAccessors := by rw [X.admits.platform]
  obtain ⟨c3, c4, hc3, hc4, hasg⟩ := Cond.castable_spec hcast
  cases Option.some.inj (hc3.symm.trans hcl)
  obtain ⟨c5, hc5, hcl5⟩ := Cond.classLink_spec hown hlink e.platform hpl
  cases Option.some.inj (hc4.symm.trans hc5)
  obtain ⟨vm', X', st⟩ := X.thenCaughtThrough q (g := F0 m pc ls rest) rfl (Steps.refl _) (by rw [hT]; exact hcell) (by rw [hv]; rfl) (by obtain ⟨k9, h9, -⟩ := Vm.findClass_spec hcl; exact ⟨k9, h9⟩) pre x suf hsplit
    (fun z hz => by
      rcases hpass z hz with h | ⟨hz0, nm, hl1, hn1⟩
      · exact Or.inl h
      · obtain ⟨c6, hc6, hcl6⟩ := Cond.classLink_spec hown hl1 e.platform hpl
        obtain ⟨a8, b8, h1, h2, h3⟩ := hn1
        cases Option.some.inj (h1.symm.trans hcl)
        cases Option.some.inj (h2.symm.trans hc6)
        exact Or.inr ⟨hz0, _, hcl6, h3⟩) hx (Or.inr ⟨h0, c4, hcl5, hasg⟩)
  obtain ⟨t, a1, b1⟩ := kk (T.setVm vm') hT X'
  exact ⟨t, st.trans a1, b1⟩
end Rows
section Ends
variable {p : Program} {l : Launch} {e : Env} {R : Room} {s : State} {m : MethodId} {args : Array Value} {below : List Frame} {meth : Method} {c : Code} {H : Heap} {locs : List Loc} {cells slots : Nat} {Q : State → Prop}
variable {mc ms : Nat} {free : Addr → Prop} {A0 A1 : Nat → Prop} {H0 : Heap} {a : Array Value} {ls : Array Slot} {st0 rest : List Value}
variable {Qc : Array Value → State → Outcome → State → Prop} {XC : String → State → State → Prop}
/-- what a body that may throw owes at its end -/
def vx_MQ (below : List Frame) (Qc : Array Value → State → Outcome → State → Prop) (XC : String → State → State → Prop) (a : Array Value) (s : State) (mc ms : Nat) (free : Addr → Prop) : State → Prop := fun t =>
  ∃ o, t.status = .running ∧ Ended t below o ∧ vx_Q Qc XC mc ms free a s o t
theorem vx_ret {g : JFrame} {mc ms : Nat} (k : W p l e R s m args below meth c H locs cells slots (MQ below Qc args s mc ms free) g) : W p l e R s m args below meth c H locs cells slots (vx_MQ below Qc XC args s mc ms free) g := by
  intro T hT X
  obtain ⟨t, a1, o, b1, b2, b3, b4⟩ := k T hT X
  exact ⟨t, a1, o, b1, b2, Or.inl ⟨b3, b4⟩⟩
/-- not caught here: it goes on to the caller -/
theorem vx_widen {g : JFrame} {q : Addr} {k n : Nat} (h1 : cells ≤ k) (h2 : slots ≤ n) (kk : vx_W p l e R s m args below meth c H locs k n Q g q) : vx_W p l e R s m args below meth c H locs cells slots Q g q := fun T hT X => kk T hT (stand_widen X h1 h2)
theorem vx_out {pc : Nat} {E : String} {ce : Cell} {q : Addr} {mc ms : Nat} (hout : ∀ x ∈ c.exceptionTable.toList, covers x pc = false) (hlocks : meth.locks = false) (hcell : H[q]? = some ce) (hv : ce.vm = .none) (hcl : s.vm.findClass E = some ce.cls)
    (hx : ∀ t : State, t.heap = H → s.vm.Alike t.vm → XC E s t) (hf : ∀ z ∈ locs, free z.base) (hc : cells ≤ mc) (hs : slots ≤ ms) :
    vx_W p l e R s m args below meth c H locs cells slots (vx_MQ below Qc XC args s mc ms free) (F0 m pc ls rest) q := by
  intro T hT X
  obtain ⟨st1, hrun, hend, hW, hsm⟩ := X.leaveThrown q (g := F0 m pc ls rest) rfl rfl rfl hout hlocks
  have hcell9 : (T.setFrames (.throwing q :: below)).heap[q]? = some ce := by
    show T.heap[q]? = some ce
    rw [hT]; exact hcell
  exact ⟨_, st1, .threw q, hrun, hend, Or.inr ⟨q, rfl, E, ce, locs, hx _ hT hW.alike, hcell9, hv, hcl, hW, hsm.mono hc hs, hf⟩⟩
theorem vx_frame {U : State} {k n : Nat} (h : s.sameButNew ({ U with vm := s.vm } : State) locs k n) : s.heap.size ≤ U.heap.size ∧ ∀ q : Nat, q < s.heap.size → (∀ z ∈ locs, z.base ≠ q) → U.heap[q]? = s.heap[q]? := by
  obtain ⟨-, h2, -, -, -, h6⟩ := h
  refine ⟨h2, fun q hq hz => ?_⟩
  obtain ⟨c9, e1, e2, e3, e4⟩ := h6 q _ (Array.getElem?_eq_getElem hq)
  have hs : c9.slots = (s.heap[q]).slots := Array.ext_getElem? fun i => e4 i fun hm => hz _ hm rfl
  have h9 : c9 = s.heap[q] := by
    rw [hs] at e2
    exact e2
  have e5 : U.heap[q]? = some c9 := e1
  rw [e5, h9, Array.getElem?_eq_getElem hq]
/-- the words of a throw but the four that speak of the heap -/
def vx_no (w : Cond) : Bool := decide (w ≠ .isRef (.static Bundle.tN "UNASSIGNED_STACK" Bundle.steD)) && decide (w ≠ .isRef (.static Bundle.tN "SUPPRESSED_SENTINEL" Bundle.listD)) && decide (w ≠ .laysStatic Bundle.tN "UNASSIGNED_STACK" Bundle.steD) && decide (w ≠ .laysStatic Bundle.tN "SUPPRESSED_SENTINEL" Bundle.listD)
def vx_at0 (own : String) (ic : Nat) (X : String) (names : List String) : List Cond := (Bundle.ownAtoms0 own ic X names).filter vx_no
def vx_atS (own : String) (ic : Nat) (X : String) (names : List String) : List Cond := (Bundle.ownAtoms own ic X names).filter vx_no
/-- a word that the tables alone decide, or a good one -/
def vx_ot (w : Cond) : Bool := w.onTables || goodWord w
theorem vx_ot_at {args a' : Array Value} {s U : State} {w : Cond} (hW : s.WarmedH U.vm) (hvm : s.vm = U.vm) (hg : vx_ot w = true) (h : w.before args s = true) : w.before a' U = true := by
  simp only [vx_ot, Bool.or_eq_true] at hg
  rcases hg with hg | hg
  · exact va_tabs hg hvm h
  · exact word_at hW (good_of_word hg) h
/-- a list's words: the good ones out of the method's own list, the others by premises of their own -/
theorem vx_hat {args : Array Value} {s : State} {L B : List Cond} (h1 : ∀ w ∈ L.filter goodWord, w.before args s = true) (h2 : ∀ w ∈ L.filter (fun w => !goodWord w), w ∈ B) (h3 : ∀ w ∈ B, w.before args s = true) : ∀ w ∈ L, w.before args s = true := by
  intro w hw
  by_cases g : goodWord w = true
  · exact h1 w (List.mem_filter.mpr ⟨hw, g⟩)
  · refine h3 w (h2 w (List.mem_filter.mpr ⟨hw, ?_⟩))
    show (!goodWord w) = true
    cases hgw : goodWord w
    · rfl
    · exact absurd hgw g
theorem vx_c {args : Array Value} {s : State} {w : Cond} {B : List Cond} (h : w.before args s = true) (t : ∀ w ∈ B, w.before args s = true) : ∀ w' ∈ w :: B, w'.before args s = true := fun w' h' => (List.mem_cons.mp h').elim (fun e => by rw [e]; exact h) (t w')
theorem vx_n {args : Array Value} {s : State} : ∀ w ∈ ([] : List Cond), w.before args s = true := fun _ h => nomatch h
theorem vx_own {args : Array Value} {s : State} {L : List Cond} (h1 : ∀ w ∈ L.filter vx_no, w.before args s = true)
    (hU : (Cond.isRef (.static Bundle.tN "UNASSIGNED_STACK" Bundle.steD)).before args s = true) (hN : (Cond.isRef (.static Bundle.tN "SUPPRESSED_SENTINEL" Bundle.listD)).before args s = true)
    (lU : (Cond.laysStatic Bundle.tN "UNASSIGNED_STACK" Bundle.steD).before args s = true) (lN : (Cond.laysStatic Bundle.tN "SUPPRESSED_SENTINEL" Bundle.listD).before args s = true) : ∀ w ∈ L, w.before args s = true := by
  intro w hw
  by_cases e1 : w = .isRef (.static Bundle.tN "UNASSIGNED_STACK" Bundle.steD)
  · rw [e1]; exact hU
  · by_cases e2 : w = .isRef (.static Bundle.tN "SUPPRESSED_SENTINEL" Bundle.listD)
    · rw [e2]; exact hN
    · by_cases e3 : w = .laysStatic Bundle.tN "UNASSIGNED_STACK" Bundle.steD
      · rw [e3]; exact lU
      · by_cases e4 : w = .laysStatic Bundle.tN "SUPPRESSED_SENTINEL" Bundle.listD
        · rw [e4]; exact lN
        · exact h1 w (List.mem_filter.mpr ⟨hw, by unfold vx_no; rw [decide_eq_true e1, decide_eq_true e2, decide_eq_true e3, decide_eq_true e4]; rfl⟩)
/-- where a static field lies, its class's statics cell in H -/
def vx_L (C n d : String) (A : Nat → Prop) (U : State) (H : Heap) : Prop := ∃ (c : ClassId) (k : Class) (i : Nat) (f : Field) (a : Nat) (cell : Cell), U.vm.findClass C = some c ∧ U.fieldFound? C n d = some (c, k, i, f) ∧ f.isStatic = true ∧ k.statics = some a ∧ H[a]? = some cell ∧ cell.vm.isStatics = true ∧ cell.cls = c ∧ f.slot < cell.slots.size ∧ k.staticTypes[f.slot]? = some f.type ∧ ¬ A a
theorem vx_L.moved {C n d : String} {A : Nat → Prop} {u U : State} {H : Heap} (hvm : u.vm.Alike U.vm) (h : vx_L C n d A u H) : vx_L C n d A U H := by
  obtain ⟨c, k, i, f, a, cell, h1, h2, h3, h4, h5, h6, h7, h8, h9, h10⟩ := h
  obtain ⟨k', hi', he⟩ := State.fieldFound?_setVm hvm h2
  exact ⟨c, k', i, f, a, cell, by rw [hvm.findClass]; exact h1, hi', h3, by rw [he]; exact h4, h5, h6, h7, h8, by rw [he]; exact h9, h10⟩
theorem vx_L.kept {C n d : String} {A : Nat → Prop} {U : State} {H H1 : Heap} (h : vx_L C n d A U H) (hq : ∀ a : Nat, a < H.size → ¬ A a → H1[a]? = H[a]?) : vx_L C n d A U H1 := by
  obtain ⟨c, k, i, f, a, cell, h1, h2, h3, h4, h5, h6, h7, h8, h9, h10⟩ := h
  exact ⟨c, k, i, f, a, cell, h1, h2, h3, h4, by rw [hq a (Array.getElem?_eq_some_iff.mp h5).1 h10]; exact h5, h6, h7, h8, h9, h10⟩
theorem vx_L.narrow {C n d : String} {A B : Nat → Prop} {U : State} {H : Heap} (h : vx_L C n d A U H) (hAB : ∀ q, B q → A q) : vx_L C n d B U H := by
  obtain ⟨c, k, i, f, a, cell, h1, h2, h3, h4, h5, h6, h7, h8, h9, h10⟩ := h
  exact ⟨c, k, i, f, a, cell, h1, h2, h3, h4, h5, h6, h7, h8, h9, fun z => h10 (hAB _ z)⟩
theorem vx_L.word {C n d : String} {A : Nat → Prop} {s : State} {args : Array Value} (h : vx_L C n d A s s.heap) : (Cond.laysStatic C n d).before args s = true := by
  obtain ⟨c, k, i, f, a, cell, h1, h2, h3, h4, h5, h6, h7, h8, h9, -⟩ := h
  show (Cond.laysStatic C n d).holds args s none s [] = true
  exact Cond.laysStatic_of h1 h2 h3 h4 h5 h6 h7 h8 h9
/-- .. and what it holds: null or some reference -/
def vx_Zq (C n d : String) (A : Nat → Prop) (U : State) (H : Heap) : Prop := va_Zq C n d A U H ∧ vx_L C n d A U H
theorem vx_Zq.moved {C n d : String} {A : Nat → Prop} {u U : State} {H : Heap} (hvm : u.vm.Alike U.vm) (h : vx_Zq C n d A u H) : vx_Zq C n d A U H := ⟨va_Zq.moved hvm h.1, vx_L.moved hvm h.2⟩
theorem vx_Zq.kept {C n d : String} {A : Nat → Prop} {U : State} {H H1 : Heap} (h : vx_Zq C n d A U H) (hq : ∀ a : Nat, a < H.size → ¬ A a → H1[a]? = H[a]?) : vx_Zq C n d A U H1 := ⟨va_Zq.kept h.1 hq, vx_L.kept h.2 hq⟩
theorem vx_Zq.narrow {C n d : String} {A B : Nat → Prop} {U : State} {H : Heap} (h : vx_Zq C n d A U H) (hAB : ∀ q, B q → A q) : vx_Zq C n d B U H := ⟨va_Zq.narrow h.1 hAB, vx_L.narrow h.2 hAB⟩
theorem vx_Zqof {args : Array Value} {s : State} {C n d : String} {A : Nat → Prop} (hl : (Cond.laysStatic C n d).before args s = true) (hini : (Cond.initialized C).before args s = true) (h : (Cond.isRef (.static C n d)).before args s = true) (hA : ∀ a : Nat, a < s.heap.size → ¬ A a) : vx_Zq C n d A s s.heap := by
  refine ⟨va_Zqof hl hini h hA, ?_⟩
  obtain ⟨c, k, i, f, a, cell, h1, h2, h3, h4, h5, h6, h7, h8, h9⟩ := Cond.laysStatic_spec hl
  exact ⟨c, k, i, f, a, cell, h1, h2, h3, h4, h5, h6, h7, h8, h9, hA a (Array.getElem?_eq_some_iff.mp h5).1⟩
theorem vx_isRef {C n d : String} {v : Value} {A : Nat → Prop} {s : State} {args : Array Value} (h : va_Z C n d v A s s.heap) (hv : v.isRef = true) : (Cond.isRef (.static C n d)).before args s = true := by
  obtain ⟨cf, kf, fi, f, a, cell, h1, h2, h3, h4, h5, h6, h7, -⟩ := h
  have he : (Term.static C n d).eval args s none [] s = some v := by
    simp [Term.eval, State.fieldNamed?, h1, h2, h4, h5, h6, h7]
  simp only [Cond.before, Cond.holds, Cond.value, he]
  cases v <;> simp_all [Value.isRef]
theorem vx_isRefq {C n d : String} {A : Nat → Prop} {s : State} {args : Array Value} (h : va_Zq C n d A s s.heap) : (Cond.isRef (.static C n d)).before args s = true := by
  rcases h with h | ⟨t, h⟩
  · exact vx_isRef h rfl
  · exact vx_isRef h rfl
/-- the same frame, seen from here: as if the method were called anew in this heap -/
theorem vx_rebase {T : State} (X : Stand p l e R s m args below meth c T locs cells slots) {R' : Room} (hf : R'.frames ≤ R.frames) (hl : R'.locals ≤ R.locals) (hc : cells + R'.cells ≤ R.cells) (hs : slots + R'.slots ≤ R.slots) :
    Stand p l e R' ((T.setVm s.vm).setFrames (.invoking m args :: below)) m args below meth c T [] 0 0 := by
  have htop : (T.setVm s.vm).topJava?.isSome := X.here.top
  have hF : ((T.setVm s.vm).setFrames (.invoking m args :: below)).frames = .invoking m args :: below := State.frames_setFrames _ (State.cur_lt_of_top htop)
  obtain ⟨g₀, hg0⟩ := Option.isSome_iff_exists.mp htop
  obtain ⟨r, hr⟩ := State.topJava?_eq_some.mp hg0
  have hl9 : e.platform.stackLimits (T.setVm s.vm).me = e.platform.stackLimits s.me := X.limits
  have hb9 : (T.setVm s.vm).me.stackBytes = s.me.stackBytes := X.bytes
  refine ⟨X.admits, X.cas, X.clock, hF, ?_, X.hears, X.method, X.code, X.here, X.tail, X.warmed, ?_, ?_, ?_⟩
  · have h := X.room
    have hU : ((T.setVm s.vm).setFrames (.invoking m args :: below)).localsInUse = s.localsInUse := by
      rw [State.localsInUse_invoking hF (meth := meth) (c := c) X.method X.code, State.localsInUse_invoking X.frames X.method X.code]
    simp only [State.hasRoom, Bool.and_eq_true, decide_eq_true_eq] at h ⊢
    obtain ⟨⟨⟨⟨h1, h2, h3, h4, h5, h6⟩, h7⟩, h8⟩, h9⟩ := h
    rw [X.frames, List.length_cons] at h2 h3
    have q1 := X.heapSize
    have q2 := X.used
    simp only [hF, hU, List.length_cons, State.stackLimits_setFrames, State.stackBytes_setFrames, hl9, hb9]
    refine ⟨⟨⟨⟨by omega, by omega, by omega, by omega, by omega, h6⟩, ?_⟩, ?_⟩, X.book⟩
    · show T.heap.size + R'.cells ≤ e.platform.maxCells
      omega
    · show T.slotsUsed + R'.slots ≤ e.platform.maxSlots
      omega
  · rw [State.stackLimits_setFrames]; rfl
  · rw [State.stackBytes_setFrames]; rfl
  · refine ⟨?_, Nat.le_refl _, Nat.le_refl _, ?_, ?_, fun a c9 h9 => ⟨c9, h9, rfl, rfl, fun _ _ => rfl⟩⟩
    · obtain ⟨t, ht, -⟩ := State.frames_cons hr
      show T.setVm s.vm = { ((T.setVm s.vm).setFrames (.invoking m args :: below)).setFrames (T.setVm s.vm).frames with heap := T.heap, slotsUsed := T.slotsUsed }
      rw [State.setFrames_setFrames, State.setFrames_self ht]
      rfl
    · show T.slotsUsed = T.slotsUsed + ((T.heap.toList.drop T.heap.size).map (·.slots.size)).sum
      rw [List.drop_eq_nil_of_le (Nat.le_of_eq Array.length_toList)]
      rfl
    · show ((T.heap.toList.drop T.heap.size).map (·.slots.size)).sum ≤ 0
      rw [List.drop_eq_nil_of_le (Nat.le_of_eq Array.length_toList)]
      exact Nat.le_refl _
/-- 'throw new E()': new; dup; invokespecial; athrow -/
theorem vx_throw0 {cc : ByteArray} {pc : Nat} (hexec : p.tables.exec = Jvm.exec) (hb : c.code = cc) (hl : l.stackTraces = false) {own cls : String} {names : List String} {ik ic mc ms : Nat} {A : Nat → Prop}
    (hown : s.vm.findClass own = some m.cls) (hcls : Bundle.fit cls = true) (hnames : ∀ n ∈ names, Bundle.fit n = true)
    (hk : (Cond.classLink own ik cls).before args s = true) (hini : (Cond.initialized cls).before args s = true) (hat : ∀ w ∈ vx_at0 own ic cls names, w.before args s = true)
    (hgood : ∀ w ∈ Cond.classLink own ik cls :: Cond.initialized cls :: vx_at0 own ic cls names, vx_ot w = true)
    (hU : vx_Zq Bundle.tN "UNASSIGNED_STACK" Bundle.steD A s s.heap) (hN : vx_Zq Bundle.tN "SUPPRESSED_SENTINEL" Bundle.listD A s s.heap) (hS : va_S A s.heap H locs) (hsize : ls.size = c.maxLocals)
    (d0 : decode cc pc = .ok (.new ik, 3)) (d3 : decode cc (pc + 3) = .ok (.dup, 1)) (d4 : decode cc (pc + 4) = .ok (.invokespecial ic, 3)) (d7 : decode cc (pc + 7) = .ok (.athrow, 1))
    (hout : ∀ x ∈ c.exceptionTable.toList, covers x (pc + 7) = false)
    (hRframes : names.length + 3 < R.frames) (hRlocals : (rest.map fun v => v.category).sum + (13 * (names.length + 1) + 42) ≤ R.locals) (hRcells : cells + 1 ≤ R.cells) (hRslots : slots + 6 ≤ R.slots) (hlocks : meth.locks = false)
    (hx : ∀ t : State, s.vm.Alike t.vm → H.size ≤ t.heap.size → (∀ q : Nat, q < H.size → t.heap[q]? = H[q]?) → XC cls s t)
    (hf : ∀ z ∈ locs, free z.base) (hc : cells + 1 ≤ mc) (hs : slots + 6 ≤ ms) :
    W p l e R s m args below meth c H locs cells slots (vx_MQ below Qc XC args s mc ms free) (F0 m pc ls rest) := by
  intro T hT X
  have htr : e.platform.stackTraces = false := (show e.platform.stackTraces = l.stackTraces by rw [X.admits.platform]).trans hl
  have Y := vx_rebase X (R' := { frames := R.frames, locals := R.locals, cells := 1, slots := 6 }) (Nat.le_refl _) (Nat.le_refl _) hRcells hRslots
  obtain ⟨s', hA⟩ : ∃ z, z = (T.setVm s.vm).setFrames (.invoking m args :: below) := ⟨_, rfl⟩
  rw [← hA] at Y
  have hvm : s'.vm = s.vm := by rw [hA]; rfl
  have hhp : s'.heap = H := by rw [hA]; exact hT
  have hW0 : s.WarmedH s'.vm := by rw [hvm]; exact State.WarmedH.refl s
  have hat' : ∀ w ∈ vx_at0 own ic cls names, w.before args s' = true := fun w hw => vx_ot_at hW0 hvm.symm (hgood w (List.mem_cons_of_mem _ (List.mem_cons_of_mem _ hw))) (hat w hw)
  have hk' : (Cond.classLink own ik cls).before args s' = true := vx_ot_at hW0 hvm.symm (hgood _ List.mem_cons_self) hk
  have hini' : (Cond.initialized cls).before args s' = true := vx_ot_at hW0 hvm.symm (hgood _ (List.mem_cons_of_mem _ List.mem_cons_self)) hini
  have hU' : vx_Zq Bundle.tN "UNASSIGNED_STACK" Bundle.steD A s' s'.heap := by rw [hhp]; exact vx_Zq.moved hW0.alike (hU.kept hS.2.1)
  have hN' : vx_Zq Bundle.tN "SUPPRESSED_SENTINEL" Bundle.listD A s' s'.heap := by rw [hhp]; exact vx_Zq.moved hW0.alike (hN.kept hS.2.1)
  have h : ∀ w ∈ Bundle.ownAtoms0 own ic cls names, w.before args s' = true := vx_own hat' (vx_isRefq hU'.1) (vx_isRefq hN'.1) hU'.2.word hN'.2.word
  have hown' : s'.vm.findClass own = some m.cls := by rw [hvm]; exact hown
  have hins : (Cond.instantiable cls 6).before args s' = true := h _ (by simp [Bundle.ownAtoms0])
  obtain ⟨vm₁, cX, kX, hfX, hkX, -, -, X₁, st1⟩ := Y.newCold hexec (own := own) (C := cls) (index := ik) (n := 6) hown' hk' hins hini'
    (g := F0 m pc ls rest) rfl (by rw [hb]; exact d0) (Nat.le_refl _) (Nat.le_refl _)
  generalize hT1 : (T.setVm vm₁).pushCell { cls := cX, slots := kX.instanceTypes.map defaultValue, vm := .none } = T1 at X₁ st1
  have hcat : (Value.ref T.heap.size).category = 1 := rfl
  have hcellA : T1.heap[T.heap.size]? = some (freshCell cX kX) := by rw [← hT1]; exact State.heap_pushCell_size _ _
  have d3' : decode c.code (pc + 3) = .ok (.dup, 1) := by rw [hb]; exact d3
  obtain ⟨U, hsteps, hrun, hend, hW, hsame, ce, hce, hO⟩ := X₁.ctorThrow0 hexec htr (own := own) (cls := cls) (names := names) (ic := ic) hown' hcls hnames h (fun x hx => nomatch hx) hfX hkX hcellA (by rw [hhp, hT]; exact Nat.le_refl _)
    (g := { method := m, pc := pc + 4, locals := ls, stack := .ref T.heap.size :: .ref T.heap.size :: rest, locked := none }) rfl hsize rfl rfl (rest := rest) rfl
    (by rw [hb]; exact d4) (by rw [hb]; exact d7) hout hRframes (by simp only [List.map_cons, List.sum_cons, hcat]; omega) hlocks
  obtain ⟨f1, f2⟩ := vx_frame hsame
  rw [hhp] at f1 f2
  have hWs : s.WarmedH U.vm := State.WarmedH.trans hW0 hW
  have hcl : s.vm.findClass cls = some ce.cls := by
    have h9 := hO.cls
    rw [hvm] at h9
    exact h9
  have hall : s.sameButNew ({ U with vm := s.vm } : State) locs mc ms := by
    subst hA
    obtain ⟨e1, e2⟩ := hsame
    rw [State.setFrames_setFrames] at e1
    have h2 : (T.setVm s.vm).sameButNew ({ U with vm := s.vm } : State) [] (0 + 1) (0 + 6) := ⟨e1, e2⟩
    have h3 := X.same.trans h2
    rw [List.append_nil] at h3
    exact h3.mono hc hs
  refine ⟨U, ?_, .threw T.heap.size, hrun, hend, Or.inr ⟨T.heap.size, rfl, cls, ce, locs, hx U hWs.alike f1 (fun q hq => f2 q hq (fun z hz => nomatch hz)), hce, hO.vm, hcl, hWs, hall, hf⟩⟩
  refine st1 _ ?_
  show Steps p.tables e below (T1.setTop { method := m, pc := pc + 3, locals := ls, stack := .ref T.heap.size :: rest, locked := none }) _
  jvm_step X₁.here [X₁.here.top, hexec, d3', Value.category]
  exact hsteps
/-- 'throw new E("text")': new; dup; ldc; invokespecial; athrow -/
theorem vx_throwS {cc : ByteArray} {pc : Nat} (hexec : p.tables.exec = Jvm.exec) (hb : c.code = cc) (hl : l.stackTraces = false) {own cls text : String} {names : List String} {ik is ic mc ms sa : Nat} {A : Nat → Prop}
    (hown : s.vm.findClass own = some m.cls) (hcls : Bundle.fit cls = true) (hnames : ∀ n ∈ names, Bundle.fit n = true)
    (hk : (Cond.classLink own ik cls).before args s = true) (hini : (Cond.initialized cls).before args s = true) (hstr : vk_R own is text sa s) (hat : ∀ w ∈ vx_atS own ic cls names, w.before args s = true)
    (hgood : ∀ w ∈ Cond.classLink own ik cls :: Cond.initialized cls :: vx_atS own ic cls names, vx_ot w = true)
    (hU : vx_Zq Bundle.tN "UNASSIGNED_STACK" Bundle.steD A s s.heap) (hN : vx_Zq Bundle.tN "SUPPRESSED_SENTINEL" Bundle.listD A s s.heap) (hS : va_S A s.heap H locs) (hsize : ls.size = c.maxLocals)
    (d0 : decode cc pc = .ok (.new ik, 3)) (d3 : decode cc (pc + 3) = .ok (.dup, 1)) (d4 : decode cc (pc + 4) = .ok (.ldc is, 2)) (d6 : decode cc (pc + 6) = .ok (.invokespecial ic, 3)) (d9 : decode cc (pc + 9) = .ok (.athrow, 1))
    (hout : ∀ x ∈ c.exceptionTable.toList, covers x (pc + 9) = false)
    (hRframes : names.length + 3 < R.frames) (hRlocals : (rest.map fun v => v.category).sum + (13 * (names.length + 1) + 43) ≤ R.locals) (hRcells : cells + 1 ≤ R.cells) (hRslots : slots + 6 ≤ R.slots) (hlocks : meth.locks = false)
    (hx : ∀ t : State, s.vm.Alike t.vm → H.size ≤ t.heap.size → (∀ q : Nat, q < H.size → t.heap[q]? = H[q]?) → XC cls s t)
    (hf : ∀ z ∈ locs, free z.base) (hc : cells + 1 ≤ mc) (hs : slots + 6 ≤ ms) :
    W p l e R s m args below meth c H locs cells slots (vx_MQ below Qc XC args s mc ms free) (F0 m pc ls rest) := by
  intro T hT X
  have htr : e.platform.stackTraces = false := (show e.platform.stackTraces = l.stackTraces by rw [X.admits.platform]).trans hl
  have Y := vx_rebase X (R' := { frames := R.frames, locals := R.locals, cells := 1, slots := 6 }) (Nat.le_refl _) (Nat.le_refl _) hRcells hRslots
  obtain ⟨s', hA⟩ : ∃ z, z = (T.setVm s.vm).setFrames (.invoking m args :: below) := ⟨_, rfl⟩
  rw [← hA] at Y
  have hvm : s'.vm = s.vm := by rw [hA]; rfl
  have hhp : s'.heap = H := by rw [hA]; exact hT
  have hW0 : s.WarmedH s'.vm := by rw [hvm]; exact State.WarmedH.refl s
  have hat' : ∀ w ∈ vx_atS own ic cls names, w.before args s' = true := fun w hw => vx_ot_at hW0 hvm.symm (hgood w (List.mem_cons_of_mem _ (List.mem_cons_of_mem _ hw))) (hat w hw)
  have hk' : (Cond.classLink own ik cls).before args s' = true := vx_ot_at hW0 hvm.symm (hgood _ List.mem_cons_self) hk
  have hini' : (Cond.initialized cls).before args s' = true := vx_ot_at hW0 hvm.symm (hgood _ (List.mem_cons_of_mem _ List.mem_cons_self)) hini
  have hU' : vx_Zq Bundle.tN "UNASSIGNED_STACK" Bundle.steD A s' s'.heap := by rw [hhp]; exact vx_Zq.moved hW0.alike (hU.kept hS.2.1)
  have hN' : vx_Zq Bundle.tN "SUPPRESSED_SENTINEL" Bundle.listD A s' s'.heap := by rw [hhp]; exact vx_Zq.moved hW0.alike (hN.kept hS.2.1)
  have h : ∀ w ∈ Bundle.ownAtoms own ic cls names, w.before args s' = true := vx_own hat' (vx_isRefq hU'.1) (vx_isRefq hN'.1) hU'.2.word hN'.2.word
  have hown' : s'.vm.findClass own = some m.cls := by rw [hvm]; exact hown
  have hins : (Cond.instantiable cls 6).before args s' = true := h _ (by simp [Bundle.ownAtoms])
  obtain ⟨vm₁, cX, kX, hfX, hkX, -, -, X₁, st1⟩ := Y.newCold hexec (own := own) (C := cls) (index := ik) (n := 6) hown' hk' hins hini'
    (g := F0 m pc ls rest) rfl (by rw [hb]; exact d0) (Nat.le_refl _) (Nat.le_refl _)
  generalize hT1 : (T.setVm vm₁).pushCell { cls := cX, slots := kX.instanceTypes.map defaultValue, vm := .none } = T1 at X₁ st1
  have hcat : (Value.ref T.heap.size).category = 1 := rfl
  have hcellA : T1.heap[T.heap.size]? = some (freshCell cX kX) := by rw [← hT1]; exact State.heap_pushCell_size _ _
  have d3' : decode c.code (pc + 3) = .ok (.dup, 1) := by rw [hb]; exact d3
  have d4' : decode c.code (pc + 4) = .ok (.ldc is, 2) := by rw [hb]; exact d4
  have hstr' : vk_R own is text sa s' := vk_R.warm hW0 hstr
  obtain ⟨U, hsteps, hrun, hend, hW, hsame, ce, hce, hO⟩ := X₁.ctorThrowS hexec htr (own := own) (cls := cls) (names := names) (ic := ic) hown' hcls hnames h (fun x hx => nomatch hx) hfX hkX hcellA (by rw [hhp, hT]; exact Nat.le_refl _) (msg := .ref sa) rfl
    (g := { method := m, pc := pc + 6, locals := ls, stack := .ref sa :: .ref T.heap.size :: .ref T.heap.size :: rest, locked := none }) rfl hsize rfl rfl (rest := rest) rfl
    (by rw [hb]; exact d6) (by rw [hb]; exact d9) hout hRframes (by simp only [List.map_cons, List.sum_cons, hcat]; omega) hlocks
  obtain ⟨f1, f2⟩ := vx_frame hsame
  rw [hhp] at f1 f2
  have hWs : s.WarmedH U.vm := State.WarmedH.trans hW0 hW
  have hcl : s.vm.findClass cls = some ce.cls := by
    have h9 := hO.cls
    rw [hvm] at h9
    exact h9
  have hall : s.sameButNew ({ U with vm := s.vm } : State) locs mc ms := by
    subst hA
    obtain ⟨e1, e2⟩ := hsame
    rw [State.setFrames_setFrames] at e1
    have h2 : (T.setVm s.vm).sameButNew ({ U with vm := s.vm } : State) [] (0 + 1) (0 + 6) := ⟨e1, e2⟩
    have h3 := X.same.trans h2
    rw [List.append_nil] at h3
    exact h3.mono hc hs
  refine ⟨U, ?_, .threw T.heap.size, hrun, hend, Or.inr ⟨T.heap.size, rfl, cls, ce, locs, hx U hWs.alike f1 (fun q hq => f2 q hq (fun z hz => nomatch hz)), hce, hO.vm, hcl, hWs, hall, hf⟩⟩
  refine st1 _ ?_
  show Steps p.tables e below (T1.setTop { method := m, pc := pc + 3, locals := ls, stack := .ref T.heap.size :: rest, locked := none }) _
  jvm_step X₁.here [X₁.here.top, hexec, d3', Value.category]
  exact X₁.ldcString hexec (own := own) (text := text) (index := is) (a := sa) hown' hstr'.1 hstr'.2
    (g := { method := m, pc := pc + 4, locals := ls, stack := .ref T.heap.size :: .ref T.heap.size :: rest, locked := none }) rfl d4' _ hsteps
/-- 'throw new E("text")', the text by a wide index -/
theorem vx_throwSW {cc : ByteArray} {pc : Nat} (hexec : p.tables.exec = Jvm.exec) (hb : c.code = cc) (hl : l.stackTraces = false) {own cls text : String} {names : List String} {ik is ic mc ms sa : Nat} {A : Nat → Prop}
    (hown : s.vm.findClass own = some m.cls) (hcls : Bundle.fit cls = true) (hnames : ∀ n ∈ names, Bundle.fit n = true)
    (hk : (Cond.classLink own ik cls).before args s = true) (hini : (Cond.initialized cls).before args s = true) (hstr : vk_R own is text sa s) (hat : ∀ w ∈ vx_atS own ic cls names, w.before args s = true)
    (hgood : ∀ w ∈ Cond.classLink own ik cls :: Cond.initialized cls :: vx_atS own ic cls names, vx_ot w = true)
    (hU : vx_Zq Bundle.tN "UNASSIGNED_STACK" Bundle.steD A s s.heap) (hN : vx_Zq Bundle.tN "SUPPRESSED_SENTINEL" Bundle.listD A s s.heap) (hS : va_S A s.heap H locs) (hsize : ls.size = c.maxLocals)
    (d0 : decode cc pc = .ok (.new ik, 3)) (d3 : decode cc (pc + 3) = .ok (.dup, 1)) (d4 : decode cc (pc + 4) = .ok (.ldc_w is, 3)) (d7 : decode cc (pc + 7) = .ok (.invokespecial ic, 3)) (d10 : decode cc (pc + 10) = .ok (.athrow, 1))
    (hout : ∀ x ∈ c.exceptionTable.toList, covers x (pc + 10) = false)
    (hRframes : names.length + 3 < R.frames) (hRlocals : (rest.map fun v => v.category).sum + (13 * (names.length + 1) + 43) ≤ R.locals) (hRcells : cells + 1 ≤ R.cells) (hRslots : slots + 6 ≤ R.slots) (hlocks : meth.locks = false)
    (hx : ∀ t : State, s.vm.Alike t.vm → H.size ≤ t.heap.size → (∀ q : Nat, q < H.size → t.heap[q]? = H[q]?) → XC cls s t)
    (hf : ∀ z ∈ locs, free z.base) (hc : cells + 1 ≤ mc) (hs : slots + 6 ≤ ms) :
    W p l e R s m args below meth c H locs cells slots (vx_MQ below Qc XC args s mc ms free) (F0 m pc ls rest) := by
  intro T hT X
  have htr : e.platform.stackTraces = false := (show e.platform.stackTraces = l.stackTraces by rw [X.admits.platform]).trans hl
  have Y := vx_rebase X (R' := { frames := R.frames, locals := R.locals, cells := 1, slots := 6 }) (Nat.le_refl _) (Nat.le_refl _) hRcells hRslots
  obtain ⟨s', hA⟩ : ∃ z, z = (T.setVm s.vm).setFrames (.invoking m args :: below) := ⟨_, rfl⟩
  rw [← hA] at Y
  have hvm : s'.vm = s.vm := by rw [hA]; rfl
  have hhp : s'.heap = H := by rw [hA]; exact hT
  have hW0 : s.WarmedH s'.vm := by rw [hvm]; exact State.WarmedH.refl s
  have hat' : ∀ w ∈ vx_atS own ic cls names, w.before args s' = true := fun w hw => vx_ot_at hW0 hvm.symm (hgood w (List.mem_cons_of_mem _ (List.mem_cons_of_mem _ hw))) (hat w hw)
  have hk' : (Cond.classLink own ik cls).before args s' = true := vx_ot_at hW0 hvm.symm (hgood _ List.mem_cons_self) hk
  have hini' : (Cond.initialized cls).before args s' = true := vx_ot_at hW0 hvm.symm (hgood _ (List.mem_cons_of_mem _ List.mem_cons_self)) hini
  have hU' : vx_Zq Bundle.tN "UNASSIGNED_STACK" Bundle.steD A s' s'.heap := by rw [hhp]; exact vx_Zq.moved hW0.alike (hU.kept hS.2.1)
  have hN' : vx_Zq Bundle.tN "SUPPRESSED_SENTINEL" Bundle.listD A s' s'.heap := by rw [hhp]; exact vx_Zq.moved hW0.alike (hN.kept hS.2.1)
  have h : ∀ w ∈ Bundle.ownAtoms own ic cls names, w.before args s' = true := vx_own hat' (vx_isRefq hU'.1) (vx_isRefq hN'.1) hU'.2.word hN'.2.word
  have hown' : s'.vm.findClass own = some m.cls := by rw [hvm]; exact hown
  have hins : (Cond.instantiable cls 6).before args s' = true := h _ (by simp [Bundle.ownAtoms])
  obtain ⟨vm₁, cX, kX, hfX, hkX, -, -, X₁, st1⟩ := Y.newCold hexec (own := own) (C := cls) (index := ik) (n := 6) hown' hk' hins hini'
    (g := F0 m pc ls rest) rfl (by rw [hb]; exact d0) (Nat.le_refl _) (Nat.le_refl _)
  generalize hT1 : (T.setVm vm₁).pushCell { cls := cX, slots := kX.instanceTypes.map defaultValue, vm := .none } = T1 at X₁ st1
  have hcat : (Value.ref T.heap.size).category = 1 := rfl
  have hcellA : T1.heap[T.heap.size]? = some (freshCell cX kX) := by rw [← hT1]; exact State.heap_pushCell_size _ _
  have d3' : decode c.code (pc + 3) = .ok (.dup, 1) := by rw [hb]; exact d3
  have d4' : decode c.code (pc + 4) = .ok (.ldc_w is, 3) := by rw [hb]; exact d4
  have hstr' : vk_R own is text sa s' := vk_R.warm hW0 hstr
  obtain ⟨U, hsteps, hrun, hend, hW, hsame, ce, hce, hO⟩ := X₁.ctorThrowS hexec htr (own := own) (cls := cls) (names := names) (ic := ic) hown' hcls hnames h (fun x hx => nomatch hx) hfX hkX hcellA (by rw [hhp, hT]; exact Nat.le_refl _) (msg := .ref sa) rfl
    (g := { method := m, pc := pc + 7, locals := ls, stack := .ref sa :: .ref T.heap.size :: .ref T.heap.size :: rest, locked := none }) rfl hsize rfl rfl (rest := rest) rfl
    (by rw [hb]; exact d7) (by rw [hb]; exact d10) hout hRframes (by simp only [List.map_cons, List.sum_cons, hcat]; omega) hlocks
  obtain ⟨f1, f2⟩ := vx_frame hsame
  rw [hhp] at f1 f2
  have hWs : s.WarmedH U.vm := State.WarmedH.trans hW0 hW
  have hcl : s.vm.findClass cls = some ce.cls := by
    have h9 := hO.cls
    rw [hvm] at h9
    exact h9
  have hall : s.sameButNew ({ U with vm := s.vm } : State) locs mc ms := by
    subst hA
    obtain ⟨e1, e2⟩ := hsame
    rw [State.setFrames_setFrames] at e1
    have h2 : (T.setVm s.vm).sameButNew ({ U with vm := s.vm } : State) [] (0 + 1) (0 + 6) := ⟨e1, e2⟩
    have h3 := X.same.trans h2
    rw [List.append_nil] at h3
    exact h3.mono hc hs
  refine ⟨U, ?_, .threw T.heap.size, hrun, hend, Or.inr ⟨T.heap.size, rfl, cls, ce, locs, hx U hWs.alike f1 (fun q hq => f2 q hq (fun z hz => nomatch hz)), hce, hO.vm, hcl, hWs, hall, hf⟩⟩
  refine st1 _ ?_
  show Steps p.tables e below (T1.setTop { method := m, pc := pc + 3, locals := ls, stack := .ref T.heap.size :: rest, locked := none }) _
  jvm_step X₁.here [X₁.here.top, hexec, d3', Value.category]
  exact X₁.ldcStringW hexec (own := own) (text := text) (index := is) (a := sa) hown' hstr'.1 hstr'.2
    (g := { method := m, pc := pc + 4, locals := ls, stack := .ref T.heap.size :: .ref T.heap.size :: rest, locked := none }) rfl d4' _ hsteps
end Ends
section Bodies
variable {l : Launch}
theorem vx_ofW {y : MethodName} {ws ws' : List Cond} {rm : Room} {Pc : Array Value → State → Prop} {Qc : Array Value → State → Outcome → State → Prop} {XC : String → State → State → Prop} {mc ms : Nat} {free : Addr → Prop} {cc : ByteArray} {maxL : Nat} {ret : Option FieldType}
    (hy : plainName y.cls = true) (hw : ws = Cond.code y cc maxL ret :: ws')
    (body : ∀ p e s m args below meth c s₁, BodyLoose p l y (headSpec ws rm) cc maxL ret e s m args below meth c s₁ → c.maxLocals = maxL → (∀ x ∈ c.exceptionTable.toList, False) → Pc args s →
      W p l e (headSpec ws rm).room s m args below meth c s.heap [] 0 0 (vx_MQ below Qc XC args s mc ms free) (entryFrame m args maxL)) : vx_Met l y ws rm Pc Qc XC mc ms free := by
  refine MetFree.of_bodyS (code := cc) (maxLocals := maxL) (ret := ret) hy ?_ ?_
  · intro args s m h hn
    obtain ⟨meth, c, h1, h2, h3, h4, h5, h6, -, -⟩ := Cond.code_spec hn (atoms_spec (ws := ws) h _ (by rw [hw]; exact List.mem_cons_self))
    exact ⟨meth, c, h1, h2, h3, h4, h5, h6⟩
  · intro p e s m args below meth c s₁ B hml hP _
    have hh0 : s₁.heap = s.heap := by rw [B.state]; rfl
    have ht : ∀ x ∈ c.exceptionTable.toList, False := by
      obtain ⟨meth9, c9, h1, h2, -, -, -, -, h7, -⟩ := Cond.code_spec B.named (atoms_spec (ws := ws) B.pre _ (by rw [hw]; exact List.mem_cons_self))
      cases Option.some.inj (h1.symm.trans B.method)
      cases Option.some.inj (h2.symm.trans (Stand.of_body B).code)
      intro x hx
      rw [Array.isEmpty_iff.mp h7] at hx
      cases hx
    obtain ⟨t, a1, o, b1, b2, b3⟩ := body p e s m args below meth c s₁ B hml ht hP s₁ hh0 (Stand.of_body B)
    exact ⟨t, o, a1, b1, b2, b3⟩
/-- the table of a body with handlers -/
theorem vx_table {p : Program} {x y : MethodName} {S : Spec} {cc bytes : ByteArray} {maxL maxL' : Nat} {ret ret' : Option FieldType} {e : Env} {s s₁ : State} {m : MethodId} {args : Array Value} {below : List Frame} {meth : Method} {c : Code} {hh : List (Nat × Nat × Nat × Nat)}
    (B : BodyLoose p l y S cc maxL ret e s m args below meth c s₁) (h : (Cond.codeWith y bytes maxL' ret' hh).before args s = true) : c.exceptionTable.toList = tableOf hh := by
  obtain ⟨m9, meth9, c9, hn9, h1, h2, -, -, h6, -⟩ := Cond.codeWith_spec h
  cases Option.some.inj (hn9.symm.trans B.named)
  cases Option.some.inj (h1.symm.trans B.method)
  cases Option.some.inj (h2.symm.trans (Stand.of_body B).code)
  rw [← h6, table_eq]
end Bodies
end VXA
/-! ===== END ===== -/
/-! ===== BEGIN a static call of a method with an exception table ===== -/
section VXS
variable {p : Program} {l : Launch} {e : Env} {R : Room} {s : State} {m : MethodId} {args : Array Value} {below : List Frame} {meth : Method} {c : Code} {T : State} {H : Heap} {locs : List Loc} {cells slots : Nat}
abbrev vx_CSW (R : Room) (s : State) (args : Array Value) (own : String) (index : Nat) (y : MethodName) (bytes : ByteArray) (maxL : Nat) (ret : Option FieldType) (hh : List (Nat × Nat × Nat × Nat)) (ws : List Cond) (rm : Room) (mc ms n : Nat) : Prop :=
  (rm.cells = mc ∧ rm.slots = ms ∧ rm.frames + 1 ≤ R.frames ∧ 8 + (maxL + 11) + rm.locals ≤ R.locals ∧ (∀ w ∈ ws, ∀ (a' : Array Value) (U : State), s.WarmedH U.vm → w.before a' U = true) ∧ Cond.codeWith y bytes maxL ret hh ∈ ws) ∧
  (Cond.codeWith y bytes maxL ret hh).before args s = true ∧ (Cond.initialized y.cls).before args s = true ∧ (y.cls ≠ "java/lang/invoke/MethodHandle" ∧ y.cls ≠ "java/lang/invoke/VarHandle") ∧
  (∀ sig, parseMethodDescriptor y.desc = some sig → n = sig.parameters.length) ∧ (Cond.methodLink own index y).before args s = true ∧ (Cond.static y).before args s = true
theorem vx_cwSW {own : String} {index maxL mc ms : Nat} {y : MethodName} {bytes : ByteArray} {ret : Option FieldType} {hh : List (Nat × Nat × Nat × Nat)} {Ts ws ws' : List Cond} {rm : Room} (n : Nat) (ht : ∀ w ∈ Ts, w.before args s = true) (hT : GoodIn Ts (va_wsS own index y ws)) (hw : ws = Cond.codeWith y bytes maxL ret hh :: ws') (hrc : rm.cells = mc) (hrs : rm.slots = ms)
    (hd : y.cls ≠ "java/lang/invoke/MethodHandle" ∧ y.cls ≠ "java/lang/invoke/VarHandle" ∧ (parseMethodDescriptor y.desc).map (fun d => d.parameters.length) = some n) (hR : rm.frames + 1 ≤ R.frames ∧ 8 + (maxL + 11) + rm.locals ≤ R.locals) :
    vx_CSW R s args own index y bytes maxL ret hh ws rm mc ms n := by
  have ok : ∀ w ∈ va_wsS own index y ws, w.before args s = true := fun w h => ht w (hT w h).1
  have hG : GoodIn Ts ws := fun w h => hT w (by unfold va_wsS; exact List.mem_append_right _ h)
  have hc : Cond.codeWith y bytes maxL ret hh ∈ ws := by rw [hw]; exact List.mem_cons_self
  refine ⟨⟨hrc, hrs, hR.1, hR.2, pay_in ht hG, hc⟩, ht _ (hG _ hc).1, ok _ (by simp [va_wsS]), ⟨hd.1, hd.2.1⟩, fun sig h => ?_, ok _ (by simp [va_wsS]), ok _ (by simp [va_wsS])⟩
  have h2 := hd.2.2
  rw [h] at h2
  exact (Option.some.inj h2).symm
theorem vx_callSW (X : Stand p l e R s m args below meth c T locs cells slots) (hexec : p.tables.exec = Jvm.exec) {own : String} {index : Nat} {y : MethodName} {bytes : ByteArray} {maxL : Nat} {ret : Option FieldType} {hh : List (Nat × Nat × Nat × Nat)}
    (hown : s.vm.findClass own = some m.cls) (hlink : (Cond.methodLink own index y).before args s = true) (hstat : (Cond.static y).before args s = true) (hinit : (Cond.initialized y.cls).before args s = true)
    (hcode : (Cond.codeWith y bytes maxL ret hh).before args s = true) (hy : y.cls ≠ "java/lang/invoke/MethodHandle" ∧ y.cls ≠ "java/lang/invoke/VarHandle")
    {W9 : Nat} {Pre : Pt → Array Value → Prop} {Post : Pt → Array Value → Option Value → Pt → Prop} (hK : Back l R p e below s args y 3 W9 Pre Post)
    {g : JFrame} (hg : g.method = m) (hsize : g.locals.size = c.maxLocals) {argsL rest : List Value} (hlen : ∀ sig, parseMethodDescriptor y.desc = some sig → argsL.length = sig.parameters.length)
    (hstack : g.stack = argsL.reverse ++ rest) (hW : 2 * g.monitorRoom + (rest.map fun v => v.category).sum ≤ W9) (hdg : decode c.code g.pc = .ok (.invokestatic index, 3))
    (hpre : ∀ vm₁, s.WarmedH vm₁ → Pre ⟨T.setVm vm₁, locs, cells, slots⟩ argsL.toArray) :
    ∃ (v : Option Value) (vm₁ : Vm) (B : Pt), s.WarmedH vm₁ ∧ Stand p l e R s m args below meth c B.U B.locs B.cells B.slots ∧ Post ⟨T.setVm vm₁, locs, cells, slots⟩ argsL.toArray v B ∧
      ∀ target, Steps p.tables e below (B.U.setTop { g with pc := g.pc + 3, stack := v.toList ++ rest }) target → Steps p.tables e below (T.setTop g) target := by
  obtain ⟨mk, methM, cM, hnamed, hmethM, -, -, -, -, -, -, hsigM⟩ := Cond.codeWith_spec hcode
  have hstatic : methM.isStatic = true := Cond.static_spec hnamed hmethM hstat
  obtain ⟨kP, hkP, -⟩ := className_of_methodNamed hnamed
  have hinitP : kP.init = .initialized := Cond.initialized_spec (findClass_of_methodNamed hnamed) hkP hinit
  obtain ⟨vm₁, X₁, hstep₁⟩ := X.invokestatic hexec hown hlink hnamed hmethM hstatic hkP hinitP hy (g := g) hg (argsL := argsL) (rest := rest) (hlen _ hsigM) hstack hdg
  obtain ⟨v, B, X', hpost, hsteps⟩ := hK m meth c ⟨T.setVm vm₁, locs, cells, slots⟩ { g with stack := rest } (.invokestatic index) mk argsL.toArray X₁ hg hsize hdg hW (X₁.named hnamed) (hpre vm₁ X₁.warmed)
  exact ⟨v, vm₁, B, X₁.warmed, X', hpost, fun target h => hstep₁ _ fun acts => by rw [doInvoke_state]; exact hsteps.trans h⟩
theorem vx_runSW {y : MethodName} {bytes cc : ByteArray} {maxL nL mc ms n index : Nat} {ret : Option FieldType} {hh : List (Nat × Nat × Nat × Nat)} {ws : List Cond} {rm : Room} {Pc : Array Value → State → Prop} {Qc : Array Value → State → Outcome → State → Prop} {free : Addr → Prop} {Ts : List Cond} {own : String} {As rest : List Value} {g : JFrame}
    (S : CallFix p m c cc nL s args Ts own) (hM : Met l y ws rm Pc Qc mc ms free) (cw : vx_CSW R s args own index y bytes maxL ret hh ws rm mc ms n) (hp : PreS s H Pc As)
    (hg : g.method = m) (hn : As.length = n) (hsize : g.locals.size = nL) (hstack : g.stack = As.reverse ++ rest) (hW : 2 * g.monitorRoom + (rest.map fun v => v.category).sum ≤ 8) (hdg : decode cc g.pc = .ok (.invokestatic index, 3)) (hf : cells + mc ≤ R.cells ∧ slots + ms ≤ R.slots) :
    va_Run p l e R s m args below meth c H locs cells slots mc ms g rest (Qc As.toArray) (free) := by
  obtain ⟨⟨hrc, hrs, hfr, hlo, hws, hcw⟩, hcode, hini, hy, hlen, hl, hstt⟩ := cw
  have hK : Back l R p e below s args y 3 8 (PreOf R mc ms Pc) (PostOf Qc mc ms free) := va_backW (hh := hh) (bytes := bytes) (maxL := maxL) (ret := ret) hM hp.1 hrc hrs hfr hlo hws hcw (fun a' U hW => word_at hW (Or.inl (by first | rfl | simp [Cond.onTables, Cond.keeps, Cond.steady])) hini)
  obtain ⟨hx, hb, hml, ho, -⟩ := S
  intro T hT X
  obtain ⟨v, vm₁, ⟨U', l2, c2, s2⟩, hW₁, X', ⟨g', mk, t, L, e1, e2, hq, h1, hL, h2, h3⟩, st⟩ := vx_callSW X hx (hh := hh) (bytes := bytes) (maxL := maxL) (ret := ret) ho hl hstt hini hcode hy hK hg (hsize.trans hml.symm) (argsL := As) (rest := rest) (fun sig h => hn.trans (hlen sig h)) hstack hW (by rw [hb]; exact hdg)
    (fun vm₁ hW₁ => ⟨hf.1, hf.2, hp.2 (T.setVm vm₁) hT hW₁⟩)
  dsimp only [Pt.U, Pt.locs, Pt.cells, Pt.slots] at X' e1 e2 h1 h2 h3 st
  subst h1; subst h2; subst h3
  exact ⟨v, (T.setVm vm₁).calling g' mk As.toArray, t, U', L, hT, X', hL, e1, e2, hq, st⟩
/-- not caught here, past rows that name other classes: it goes on to the caller -/
theorem vx_outP {p : Program} {l : Launch} {e : Env} {R : Room} {s : State} {m : MethodId} {args : Array Value} {below : List Frame} {meth : Method} {c : Code} {H : Heap} {locs : List Loc} {cells slots : Nat} {free : Addr → Prop} {ls : Array Slot} {rest : List Value} {Qc : Array Value → State → Outcome → State → Prop} {XC : String → State → State → Prop}
    {pc : Nat} {own E : String} {ce : Cell} {q : Addr} {mc ms : Nat} (hown : s.vm.findClass own = some m.cls) (hlocks : meth.locks = false)
    (hpass : ∀ z ∈ c.exceptionTable.toList, covers z pc = false ∨ (z.catchType ≠ 0 ∧ ∃ nm : String, (Cond.classLink own z.catchType nm).before args s = true ∧ va_Nc E nm s)) (hcell : H[q]? = some ce) (hv : ce.vm = .none) (hcl : s.vm.findClass E = some ce.cls)
    (hx : ∀ t : State, t.heap = H → s.vm.Alike t.vm → XC E s t) (hf : ∀ z ∈ locs, free z.base) (hc : cells ≤ mc) (hs : slots ≤ ms) :
    vx_W p l e R s m args below meth c H locs cells slots (vx_MQ below Qc XC args s mc ms free) (F0 m pc ls rest) q := by
  intro T hT X
  have hpl : e.platform.magicAccessors = ({} : Platform).magicAccessors := by rw [X.admits.platform]
  obtain ⟨vm', hW', X', st⟩ := X.outThrough hlocks q (g := F0 m pc ls rest) rfl rfl rfl (cell := ce) (by rw [hT]; exact hcell) (by rw [hv]; rfl)
    (by obtain ⟨k9, h9, -⟩ := Vm.findClass_spec hcl; exact ⟨k9, h9⟩) (fun z hz => by
      rcases hpass z hz with h | ⟨hz0, nm, hl1, hn1⟩
      · exact Or.inl h
      · obtain ⟨c6, hc6, hcl6⟩ := Cond.classLink_spec hown hl1 e.platform hpl
        obtain ⟨a8, b8, h1, h2, h3⟩ := hn1
        cases Option.some.inj (h1.symm.trans hcl)
        cases Option.some.inj (h2.symm.trans hc6)
        exact Or.inr ⟨hz0, _, hcl6, h3⟩)
  obtain ⟨g₀, hfr⟩ := X'.frames_eq
  have hcell9 : ((T.setVm vm').setFrames (.throwing q :: below)).heap[q]? = some ce := by
    show T.heap[q]? = some ce
    rw [hT]; exact hcell
  have hend : Ended ((T.setVm vm').setFrames (.throwing q :: below)) below (.threw q) := State.frames_setFrames _ (State.cur_lt_of_frames hfr)
  refine ⟨(T.setVm vm').setFrames (.throwing q :: below), ?_, .threw q, X'.here.running, hend, Or.inr ⟨q, rfl, E, ce, locs, hx _ hT (X'.ends _).1.alike, hcell9, hv, hcl, (X'.ends _).1, (X'.ends _).2.mono hc hs, hf⟩⟩
  rw [X.pushThrowing_eq]
  exact st
/-- a thing of a world lies in the heap -/
theorem vx_lt {D : va_G} {cl : List vw_C} {ws : va_W} {H1 : Heap} (h : va_P D cl ws H1) {k : Nat} {q : Nat × va_E} (hk : ws[k]? = some q) : q.1 < H1.size := (h k q hk).lt
end VXS
/-! ===== END ===== -/
/-! ===== BEGIN methods with a table of their own: called by a name, returning or throwing ===== -/
section VXH
/-! vx_backW, vx_callVX, vx_callSX, vx_callVW, vx_runVW, vx_runVX, vx_runSX, vx_ofWH follow the same proofs as their sisters above (Free/Laws.lean, Shelf42/LK1.lean); vx_outP calls Shelf42/NT130.lean (outThrough). -/
section
variable {l : Launch} {R : Room} {p : Program} {e : Env} {below : List Frame} {s : State} {sargs : Array Value} {y : MethodName} {len W9 : Nat}
theorem vx_backW {ws : List Cond} {rm : Room} {Pc : Array Value → State → Prop} {Qc : Array Value → State → Outcome → State → Prop} {XC : String → State → State → Prop} {mc ms : Nat} {free : Addr → Prop} {bytes : ByteArray} {maxL : Nat} {ret : Option FieldType} {hh : List (Nat × Nat × Nat × Nat)}
    (hM : vx_Met l y ws rm Pc Qc XC mc ms free) (hblind : FrameBlind Pc) (hrc : rm.cells = mc) (hrs : rm.slots = ms)
    (hframes : rm.frames + 1 ≤ R.frames) (hlocals : W9 + (maxL + 11) + rm.locals ≤ R.locals)
    (hws : ∀ w ∈ ws, ∀ a' U, s.WarmedH U.vm → w.before a' U = true) (hcode : Cond.codeWith y bytes maxL ret hh ∈ ws) (hinit : ∀ a' U, s.WarmedH U.vm → (Cond.initialized y.cls).before a' U = true) :
    vx_Back l R p e below s sargs y len W9 (PreOf R mc ms Pc) (PostOf Qc mc ms free) (vx_Post XC mc ms free) := by
  intro m meth c A g ig mk a X hg hsize hdg hW hn hp
  have h1 : (headSpec ws rm).pre.before a A.U = true := atoms_intro fun w hw => hws w hw _ _ X.warmed
  have h2 : (Cond.codeWith y bytes maxL ret hh).before a A.U = true := hws _ hcode _ _ X.warmed
  have h3 : (Cond.initialized y.cls).before a A.U = true := hinit _ _ X.warmed
  have h4 : A.cells + (headSpec ws rm).room.cells ≤ R.cells := by rw [show (headSpec ws rm).room.cells = mc from hrc]; exact hp.1
  have h5 : A.slots + (headSpec ws rm).room.slots ≤ R.slots := by rw [show (headSpec ws rm).room.slots = ms from hrs]; exact hp.2.1
  have hPc : Pc a (A.U.calling g mk a) := hblind _ _ _ _ hp.2.2
  obtain ⟨U, Ls, c0, s0⟩ := A
  dsimp only [Pt.U, Pt.locs, Pt.cells, Pt.slots] at h1 h2 h3 h4 h5 X hn hPc ⊢
  obtain ⟨m9, methY, cY, hn9, hmY, hcY, -, hlY, -⟩ := Cond.codeWith_spec h2
  cases Option.some.inj (hn9.symm.trans hn)
  obtain ⟨kY, hkY, -⟩ := className_of_methodNamed hn
  have hinitY : kY.init = .initialized := Cond.initialized_spec (findClass_of_methodNamed hn) hkY h3
  have h : At U g.method c below := by rw [hg]; exact X.here
  have hlocals9 : W9 + (maxL + 11) + (headSpec ws rm).room.locals ≤ R.locals := hlocals
  have happ : (headSpec ws rm).appliesLoose y e.platform (U.calling g mk a) = true :=
    Spec.appliesLoose_calling (g := g) h hdg hn hkY hinitY
      (X.room_calling (g := g) (R' := (headSpec ws rm).room) hsize hmY hcY hframes (by rw [hlY]; omega) h4 h5) h1
  obtain ⟨mid, hmid⟩ := h.above
  have hfr : (U.setTop g).frames = (.java g :: mid) ++ below := by rw [State.frames_setTop' g h.top, hmid]; rfl
  obtain ⟨o, s₂, hsteps, -, hend, hq⟩ := Steps.callFree hM p X.admits X.cas X.clock (acts := []) hfr happ hPc trivial
  have hq' : vx_Q Qc XC mc ms free a (U.calling g mk a) o s₂ := hq
  rw [State.frames_setTop' g h.top] at hend
  obtain ⟨g₀, hg0⟩ := Option.isSome_iff_exists.mp h.top
  obtain ⟨r, hr⟩ := State.topJava?_eq_some.mp hg0
  have hr' : (({ U with heap := s₂.heap, slotsUsed := s₂.slotsUsed } : State).setVm s₂.vm).frames = .java g₀ :: r := hr
  rcases hq' with ⟨hqc, L, hfe, hL⟩ | ⟨q, rfl, E, ce, L, hx, hce, hcv, hcl, hW₂, hsm, hL⟩
  · obtain ⟨⟨v, rfl⟩, hW₂, e2, q2, q3, q4, q5, q6⟩ := id hfe
    have e3 : s₂ = ({ (U.calling g mk a).setFrames s₂.frames with heap := s₂.heap, slotsUsed := s₂.slotsUsed } : State).setVm s₂.vm := by
      have : s₂ = ({ s₂ with vm := (U.calling g mk a).vm } : State).setVm s₂.vm := rfl
      rw [e2] at this
      exact this
    obtain ⟨c₂, i₂, len₂, hc₂, hd₂, hf₂⟩ := hend
    have hW' : U.WarmedH s₂.vm := hW₂
    have hcc : c₂ = c := by
      have h1 : s₂.code? g.method = U.code? g.method := by
        rw [State.code?_eq, State.code?_eq, hW'.alike.method?]
      exact Option.some.inj (hc₂.symm.trans (h1.trans h.code))
    subst hcc
    have hlen : len₂ = len := by rw [hdg] at hd₂; cases hd₂; rfl
    subst hlen
    have hs₂ : s₂ = (({ U with heap := s₂.heap, slotsUsed := s₂.slotsUsed } : State).setVm s₂.vm).setTop { g with pc := g.pc + len₂, stack := v.toList ++ g.stack } := by
      refine e3.trans ?_
      rw [hf₂, State.calling_eq h.top, State.setFrames_setFrames, State.setTop_of_frames _ hr', hr]
      rfl
    have hsame : U.sameButNew ({ U with heap := s₂.heap, slotsUsed := s₂.slotsUsed } : State) L mc ms := by
      refine ⟨?_, q2, q3, q4, q5, q6⟩
      obtain ⟨t, ht, -⟩ := State.frames_cons hr
      show ({ U with heap := s₂.heap, slotsUsed := s₂.slotsUsed } : State) = { U.setFrames U.frames with heap := s₂.heap, slotsUsed := s₂.slotsUsed }
      rw [State.setFrames_self ht]
    subst hg
    refine Or.inl ⟨v, ⟨(({ U with heap := s₂.heap, slotsUsed := s₂.slotsUsed } : State).setVm s₂.vm), Ls ++ L, c0 + mc, s0 + ms⟩,
      ⟨X.admits, X.cas, X.clock, X.frames, X.room, X.hears, X.method, X.code, (X.here.setHeapUsed s₂.heap s₂.slotsUsed).setVm hW'.alike, X.tail, State.WarmedH.trans X.warmed hW', X.limits, X.bytes, X.same.trans (hsame.setVm s.vm)⟩,
      ⟨g, mk, s₂, L, rfl, rfl, hqc, rfl, hL, rfl, rfl⟩, ?_⟩
    show Steps p.tables e below _ ((({ U with heap := s₂.heap, slotsUsed := s₂.slotsUsed } : State).setVm s₂.vm).setTop { g with pc := g.pc + len₂, stack := v.toList ++ g.stack })
    rw [← hs₂]
    exact hsteps
  · obtain ⟨e2, q2, q3, q4, q5, q6⟩ := id hsm
    have e3 : s₂ = ({ (U.calling g mk a).setFrames s₂.frames with heap := s₂.heap, slotsUsed := s₂.slotsUsed } : State).setVm s₂.vm := by
      have : s₂ = ({ s₂ with vm := (U.calling g mk a).vm } : State).setVm s₂.vm := rfl
      rw [e2] at this
      exact this
    have hf₂ : s₂.frames = .throwing q :: .java g :: U.frames.tail := hend
    have hW' : U.WarmedH s₂.vm := hW₂
    have hs₂ : s₂ = ((({ U with heap := s₂.heap, slotsUsed := s₂.slotsUsed } : State).setVm s₂.vm).setTop g).pushFrame (.throwing q) := by
      refine e3.trans ?_
      rw [hf₂, State.calling_eq h.top, State.setFrames_setFrames, State.pushFrame, State.frames_setTop _ hr', State.setTop_of_frames _ hr', State.setFrames_setFrames, hr]
      rfl
    have hsame : U.sameButNew ({ U with heap := s₂.heap, slotsUsed := s₂.slotsUsed } : State) L mc ms := by
      refine ⟨?_, q2, q3, q4, q5, q6⟩
      obtain ⟨t, ht, -⟩ := State.frames_cons hr
      show ({ U with heap := s₂.heap, slotsUsed := s₂.slotsUsed } : State) = { U.setFrames U.frames with heap := s₂.heap, slotsUsed := s₂.slotsUsed }
      rw [State.setFrames_self ht]
    subst hg
    refine Or.inr ⟨q, ⟨(({ U with heap := s₂.heap, slotsUsed := s₂.slotsUsed } : State).setVm s₂.vm), Ls ++ L, c0 + mc, s0 + ms⟩,
      ⟨X.admits, X.cas, X.clock, X.frames, X.room, X.hears, X.method, X.code, (X.here.setHeapUsed s₂.heap s₂.slotsUsed).setVm hW'.alike, X.tail, State.WarmedH.trans X.warmed hW', X.limits, X.bytes, X.same.trans (hsame.setVm s.vm)⟩,
      ⟨g, mk, s₂, L, E, ce, rfl, rfl, hx, hce, hcv, hcl, rfl, hL, rfl, rfl⟩, ?_⟩
    show Steps p.tables e below _ (((({ U with heap := s₂.heap, slotsUsed := s₂.slotsUsed } : State).setVm s₂.vm).setTop g).pushFrame (.throwing q))
    rw [← hs₂]
    exact hsteps
end
variable {p : Program} {l : Launch} {e : Env} {R : Room} {s : State} {m : MethodId} {args : Array Value} {below : List Frame} {meth : Method} {c : Code} {T : State} {H : Heap} {locs : List Loc} {cells slots : Nat}
theorem vx_callVX (X : Stand p l e R s m args below meth c T locs cells slots) (hexec : p.tables.exec = Jvm.exec) {own C : String} {index : Nat} {y : MethodName} {bytes : ByteArray} {maxL : Nat} {ret : Option FieldType} {hh : List (Nat × Nat × Nat × Nat)}
    (hown : s.vm.findClass own = some m.cls) (hlink : (Cond.methodLink own index y).before args s = true) (hinst : (Cond.instanceMethod y).before args s = true) (hsel : (Cond.selects C y y).before args s = true)
    (hcode : (Cond.codeWith y bytes maxL ret hh).before args s = true) (hy : y.cls ≠ "java/lang/invoke/MethodHandle" ∧ y.cls ≠ "java/lang/invoke/VarHandle")
    {W9 : Nat} {Pre : Pt → Array Value → Prop} {Post : Pt → Array Value → Option Value → Pt → Prop} {PostX : Pt → Array Value → Addr → Pt → Prop} (hK : vx_Back l R p e below s args y 3 W9 Pre Post PostX)
    {b : Addr} {cellB : Cell} (hcell : T.heap[b]? = some cellB) (hobj : cellB.vm.isStatics = false) (hcls : s.vm.findClass C = some cellB.cls)
    {g : JFrame} (hg : g.method = m) (hsize : g.locals.size = c.maxLocals) {argsL rest : List Value} (hlen : ∀ sig, parseMethodDescriptor y.desc = some sig → argsL.length = sig.parameters.length)
    (hstack : g.stack = argsL.reverse ++ .ref b :: rest) (hW : 2 * g.monitorRoom + (rest.map fun v => v.category).sum ≤ W9) (hdg : decode c.code g.pc = .ok (.invokevirtual index, 3))
    (hpre : ∀ vm₁, s.WarmedH vm₁ → Pre ⟨T.setVm vm₁, locs, cells, slots⟩ (Value.ref b :: argsL).toArray) :
    (∃ (v : Option Value) (vm₁ : Vm) (B : Pt), s.WarmedH vm₁ ∧ Stand p l e R s m args below meth c B.U B.locs B.cells B.slots ∧ Post ⟨T.setVm vm₁, locs, cells, slots⟩ (Value.ref b :: argsL).toArray v B ∧
      ∀ target, Steps p.tables e below (B.U.setTop { g with pc := g.pc + 3, stack := v.toList ++ rest }) target → Steps p.tables e below (T.setTop g) target) ∨
    (∃ (q : Addr) (vm₁ : Vm) (B : Pt), s.WarmedH vm₁ ∧ Stand p l e R s m args below meth c B.U B.locs B.cells B.slots ∧ PostX ⟨T.setVm vm₁, locs, cells, slots⟩ (Value.ref b :: argsL).toArray q B ∧
      Steps p.tables e below (T.setTop g) ((B.U.setTop { g with stack := rest }).pushFrame (.throwing q))) := by
  obtain ⟨mk, methM, hnamed, hmethM, hstM, habM⟩ := Cond.instanceMethod_spec hinst
  obtain ⟨m8, methM', cM, hn8, hmethM', -, -, -, -, -, -, hsigM⟩ := Cond.codeWith_spec hcode
  cases Option.some.inj (hn8.symm.trans hnamed)
  cases hmethM.symm.trans hmethM'
  obtain ⟨c2, r2, m2, q1, q2, q3, q4, kP, hkP, hkPi⟩ := Cond.selects_spec hsel
  cases hcls.symm.trans q1
  cases (State.methodFound?_of_named hnamed hy).symm.trans q2
  cases hnamed.symm.trans q3
  have hselP : selectMethod e.platform s.vm cellB.cls mk = .method mk := by rw [Launch.admits_selectMethod X.admits]; exact q4
  obtain ⟨vm₁, X₁, hstep₁⟩ := X.invokevirtual hexec hown hlink hnamed hmethM hstM hkP hkPi hy (a := b) (cell := cellB) hcell
    (fun z h => by rw [h] at hobj; cases hobj) hselP hmethM habM hkP hkPi (g := g) hg (argsL := argsL) (rest := rest) (hlen _ hsigM) hstack hdg
  rcases hK m meth c ⟨T.setVm vm₁, locs, cells, slots⟩ { g with stack := rest } (.invokevirtual index) mk (Value.ref b :: argsL).toArray X₁ hg hsize hdg hW (X₁.named hnamed) (hpre vm₁ X₁.warmed) with ⟨v, B, X', hpost, hsteps⟩ | ⟨q, B, X', hpost, hsteps⟩
  · exact Or.inl ⟨v, vm₁, B, X₁.warmed, X', hpost, fun target h => hstep₁ _ fun acts => by rw [doInvoke_state]; exact hsteps.trans h⟩
  · exact Or.inr ⟨q, vm₁, B, X₁.warmed, X', hpost, hstep₁ _ fun acts => by rw [doInvoke_state]; exact hsteps⟩
theorem vx_callSX (X : Stand p l e R s m args below meth c T locs cells slots) (hexec : p.tables.exec = Jvm.exec) {own : String} {index : Nat} {y : MethodName} {bytes : ByteArray} {maxL : Nat} {ret : Option FieldType} {hh : List (Nat × Nat × Nat × Nat)}
    (hown : s.vm.findClass own = some m.cls) (hlink : (Cond.methodLink own index y).before args s = true) (hstat : (Cond.static y).before args s = true) (hinit : (Cond.initialized y.cls).before args s = true)
    (hcode : (Cond.codeWith y bytes maxL ret hh).before args s = true) (hy : y.cls ≠ "java/lang/invoke/MethodHandle" ∧ y.cls ≠ "java/lang/invoke/VarHandle")
    {W9 : Nat} {Pre : Pt → Array Value → Prop} {Post : Pt → Array Value → Option Value → Pt → Prop} {PostX : Pt → Array Value → Addr → Pt → Prop} (hK : vx_Back l R p e below s args y 3 W9 Pre Post PostX)
    {g : JFrame} (hg : g.method = m) (hsize : g.locals.size = c.maxLocals) {argsL rest : List Value} (hlen : ∀ sig, parseMethodDescriptor y.desc = some sig → argsL.length = sig.parameters.length)
    (hstack : g.stack = argsL.reverse ++ rest) (hW : 2 * g.monitorRoom + (rest.map fun v => v.category).sum ≤ W9) (hdg : decode c.code g.pc = .ok (.invokestatic index, 3))
    (hpre : ∀ vm₁, s.WarmedH vm₁ → Pre ⟨T.setVm vm₁, locs, cells, slots⟩ argsL.toArray) :
    (∃ (v : Option Value) (vm₁ : Vm) (B : Pt), s.WarmedH vm₁ ∧ Stand p l e R s m args below meth c B.U B.locs B.cells B.slots ∧ Post ⟨T.setVm vm₁, locs, cells, slots⟩ argsL.toArray v B ∧
      ∀ target, Steps p.tables e below (B.U.setTop { g with pc := g.pc + 3, stack := v.toList ++ rest }) target → Steps p.tables e below (T.setTop g) target) ∨
    (∃ (q : Addr) (vm₁ : Vm) (B : Pt), s.WarmedH vm₁ ∧ Stand p l e R s m args below meth c B.U B.locs B.cells B.slots ∧ PostX ⟨T.setVm vm₁, locs, cells, slots⟩ argsL.toArray q B ∧
      Steps p.tables e below (T.setTop g) ((B.U.setTop { g with stack := rest }).pushFrame (.throwing q))) := by
  obtain ⟨mk, methM, cM, hnamed, hmethM, -, -, -, -, -, -, hsigM⟩ := Cond.codeWith_spec hcode
  have hstatic : methM.isStatic = true := Cond.static_spec hnamed hmethM hstat
  obtain ⟨kP, hkP, -⟩ := className_of_methodNamed hnamed
  have hinitP : kP.init = .initialized := Cond.initialized_spec (findClass_of_methodNamed hnamed) hkP hinit
  obtain ⟨vm₁, X₁, hstep₁⟩ := X.invokestatic hexec hown hlink hnamed hmethM hstatic hkP hinitP hy (g := g) hg (argsL := argsL) (rest := rest) (hlen _ hsigM) hstack hdg
  rcases hK m meth c ⟨T.setVm vm₁, locs, cells, slots⟩ { g with stack := rest } (.invokestatic index) mk argsL.toArray X₁ hg hsize hdg hW (X₁.named hnamed) (hpre vm₁ X₁.warmed) with ⟨v, B, X', hpost, hsteps⟩ | ⟨q, B, X', hpost, hsteps⟩
  · exact Or.inl ⟨v, vm₁, B, X₁.warmed, X', hpost, fun target h => hstep₁ _ fun acts => by rw [doInvoke_state]; exact hsteps.trans h⟩
  · exact Or.inr ⟨q, vm₁, B, X₁.warmed, X', hpost, hstep₁ _ fun acts => by rw [doInvoke_state]; exact hsteps⟩
theorem vx_callVW (X : Stand p l e R s m args below meth c T locs cells slots) (hexec : p.tables.exec = Jvm.exec) {own C : String} {index : Nat} {y : MethodName} {bytes : ByteArray} {maxL : Nat} {ret : Option FieldType} {hh : List (Nat × Nat × Nat × Nat)}
    (hown : s.vm.findClass own = some m.cls) (hlink : (Cond.methodLink own index y).before args s = true) (hinst : (Cond.instanceMethod y).before args s = true) (hsel : (Cond.selects C y y).before args s = true)
    (hcode : (Cond.codeWith y bytes maxL ret hh).before args s = true) (hy : y.cls ≠ "java/lang/invoke/MethodHandle" ∧ y.cls ≠ "java/lang/invoke/VarHandle")
    {W9 : Nat} {Pre : Pt → Array Value → Prop} {Post : Pt → Array Value → Option Value → Pt → Prop} (hK : Back l R p e below s args y 3 W9 Pre Post)
    {b : Addr} {cellB : Cell} (hcell : T.heap[b]? = some cellB) (hobj : cellB.vm.isStatics = false) (hcls : s.vm.findClass C = some cellB.cls)
    {g : JFrame} (hg : g.method = m) (hsize : g.locals.size = c.maxLocals) {argsL rest : List Value} (hlen : ∀ sig, parseMethodDescriptor y.desc = some sig → argsL.length = sig.parameters.length)
    (hstack : g.stack = argsL.reverse ++ .ref b :: rest) (hW : 2 * g.monitorRoom + (rest.map fun v => v.category).sum ≤ W9) (hdg : decode c.code g.pc = .ok (.invokevirtual index, 3))
    (hpre : ∀ vm₁, s.WarmedH vm₁ → Pre ⟨T.setVm vm₁, locs, cells, slots⟩ (Value.ref b :: argsL).toArray) :
    ∃ (v : Option Value) (vm₁ : Vm) (B : Pt), s.WarmedH vm₁ ∧ Stand p l e R s m args below meth c B.U B.locs B.cells B.slots ∧ Post ⟨T.setVm vm₁, locs, cells, slots⟩ (Value.ref b :: argsL).toArray v B ∧
      ∀ target, Steps p.tables e below (B.U.setTop { g with pc := g.pc + 3, stack := v.toList ++ rest }) target → Steps p.tables e below (T.setTop g) target := by
  obtain ⟨mk, methM, hnamed, hmethM, hstM, habM⟩ := Cond.instanceMethod_spec hinst
  obtain ⟨m8, methM', cM, hn8, hmethM', -, -, -, -, -, -, hsigM⟩ := Cond.codeWith_spec hcode
  cases Option.some.inj (hn8.symm.trans hnamed)
  cases hmethM.symm.trans hmethM'
  obtain ⟨c2, r2, m2, q1, q2, q3, q4, kP, hkP, hkPi⟩ := Cond.selects_spec hsel
  cases hcls.symm.trans q1
  cases (State.methodFound?_of_named hnamed hy).symm.trans q2
  cases hnamed.symm.trans q3
  have hselP : selectMethod e.platform s.vm cellB.cls mk = .method mk := by rw [Launch.admits_selectMethod X.admits]; exact q4
  obtain ⟨vm₁, X₁, hstep₁⟩ := X.invokevirtual hexec hown hlink hnamed hmethM hstM hkP hkPi hy (a := b) (cell := cellB) hcell
    (fun z h => by rw [h] at hobj; cases hobj) hselP hmethM habM hkP hkPi (g := g) hg (argsL := argsL) (rest := rest) (hlen _ hsigM) hstack hdg
  obtain ⟨v, B, X', hpost, hsteps⟩ := hK m meth c ⟨T.setVm vm₁, locs, cells, slots⟩ { g with stack := rest } (.invokevirtual index) mk (Value.ref b :: argsL).toArray X₁ hg hsize hdg hW (X₁.named hnamed) (hpre vm₁ X₁.warmed)
  exact ⟨v, vm₁, B, X₁.warmed, X', hpost, fun target h => hstep₁ _ fun acts => by rw [doInvoke_state]; exact hsteps.trans h⟩
abbrev vx_CVW (R : Room) (s : State) (args : Array Value) (own C : String) (index : Nat) (y : MethodName) (bytes : ByteArray) (maxL : Nat) (ret : Option FieldType) (hh : List (Nat × Nat × Nat × Nat)) (ws : List Cond) (rm : Room) (mc ms n : Nat) : Prop :=
  (rm.cells = mc ∧ rm.slots = ms ∧ rm.frames + 1 ≤ R.frames ∧ 8 + (maxL + 11) + rm.locals ≤ R.locals ∧ (∀ w ∈ ws, ∀ (a' : Array Value) (U : State), s.WarmedH U.vm → w.before a' U = true) ∧ Cond.codeWith y bytes maxL ret hh ∈ ws) ∧
  (Cond.codeWith y bytes maxL ret hh).before args s = true ∧ (Cond.initialized y.cls).before args s = true ∧ (y.cls ≠ "java/lang/invoke/MethodHandle" ∧ y.cls ≠ "java/lang/invoke/VarHandle") ∧
  (∀ sig, parseMethodDescriptor y.desc = some sig → n = sig.parameters.length) ∧ (Cond.methodLink own index y).before args s = true ∧ (Cond.instanceMethod y).before args s = true ∧ (Cond.selects C y y).before args s = true
theorem vx_cwVW {own C : String} {index maxL mc ms : Nat} {y : MethodName} {bytes : ByteArray} {ret : Option FieldType} {hh : List (Nat × Nat × Nat × Nat)} {Ts ws ws' : List Cond} {rm : Room} (n : Nat) (ht : ∀ w ∈ Ts, w.before args s = true) (hT : GoodIn Ts (wsV own index C y ws)) (hw : ws = Cond.codeWith y bytes maxL ret hh :: ws') (hrc : rm.cells = mc) (hrs : rm.slots = ms)
    (hd : y.cls = C ∧ y.cls ≠ "java/lang/invoke/MethodHandle" ∧ y.cls ≠ "java/lang/invoke/VarHandle" ∧ (parseMethodDescriptor y.desc).map (fun d => d.parameters.length) = some n) (hR : rm.frames + 1 ≤ R.frames ∧ 8 + (maxL + 11) + rm.locals ≤ R.locals) :
    vx_CVW R s args own C index y bytes maxL ret hh ws rm mc ms n := by
  obtain ⟨hC, hd⟩ := hd
  subst hC
  have ok : ∀ w ∈ wsV own index y.cls y ws, w.before args s = true := fun w h => ht w (hT w h).1
  have hG : GoodIn Ts ws := fun w h => hT w (by unfold wsV; exact List.mem_append_right _ h)
  have hc : Cond.codeWith y bytes maxL ret hh ∈ ws := by rw [hw]; exact List.mem_cons_self
  refine ⟨⟨hrc, hrs, hR.1, hR.2, pay_in ht hG, hc⟩, ht _ (hG _ hc).1, ok _ (by simp [wsV]), ⟨hd.1, hd.2.1⟩, fun sig h => ?_, ok _ (by simp [wsV]), ok _ (by simp [wsV]), ok _ (by simp [wsV])⟩
  have h2 := hd.2.2
  rw [h] at h2
  exact (Option.some.inj h2).symm
theorem vx_runVW {y : MethodName} {bytes cc : ByteArray} {maxL nL mc ms n index : Nat} {ret : Option FieldType} {hh : List (Nat × Nat × Nat × Nat)} {ws : List Cond} {rm : Room} {Pc : Array Value → State → Prop} {Qc : Array Value → State → Outcome → State → Prop} {free : Addr → Prop} {Ts : List Cond} {own C : String} {b : Addr} {As rest : List Value} {g : JFrame}
    (S : CallFix p m c cc nL s args Ts own) (hM : Met l y ws rm Pc Qc mc ms free) (cw : vx_CVW R s args own C index y bytes maxL ret hh ws rm mc ms n) (hp : PreV s H C b Pc As)
    (hg : g.method = m) (hn : As.length = n) (hsize : g.locals.size = nL) (hstack : g.stack = As.reverse ++ .ref b :: rest) (hW : 2 * g.monitorRoom + (rest.map fun v => v.category).sum ≤ 8) (hdg : decode cc g.pc = .ok (.invokevirtual index, 3)) (hf : cells + mc ≤ R.cells ∧ slots + ms ≤ R.slots) :
    va_Run p l e R s m args below meth c H locs cells slots mc ms g rest (Qc (Value.ref b :: As).toArray) free := by
  obtain ⟨⟨hrc, hrs, hfr, hlo, hws, hcw⟩, hcode, hini, hy, hlen, hl, hin, hse⟩ := cw
  have hK : Back l R p e below s args y 3 8 (PreOf R mc ms Pc) (PostOf Qc mc ms free) := va_backW (hh := hh) (bytes := bytes) (maxL := maxL) (ret := ret) hM hp.1 hrc hrs hfr hlo hws hcw (fun a' U hW => word_at hW (Or.inl (by first | rfl | simp [Cond.onTables, Cond.keeps, Cond.steady])) hini)
  obtain ⟨hx, hb, hml, ho, -⟩ := S
  obtain ⟨-, ⟨cellB, hcB, hoB, hclB⟩, hPc⟩ := hp
  intro T hT X
  obtain ⟨v, vm₁, ⟨U', l2, c2, s2⟩, hW₁, X', ⟨g', mk, t, L, e1, e2, hq, h1, hL, h2, h3⟩, st⟩ := vx_callVW X hx (C := C) (hh := hh) (bytes := bytes) (maxL := maxL) (ret := ret) ho hl hin hse hcode hy hK (by rw [hT]; exact hcB) hoB hclB hg (hsize.trans hml.symm) (argsL := As) (rest := rest) (fun sig h => hn.trans (hlen sig h)) hstack hW (by rw [hb]; exact hdg)
    (fun vm₁ hW₁ => ⟨hf.1, hf.2, hPc (T.setVm vm₁) hT hW₁⟩)
  dsimp only [Pt.U, Pt.locs, Pt.cells, Pt.slots] at X' e1 e2 h1 h2 h3 st
  subst h1; subst h2; subst h3
  exact ⟨v, (T.setVm vm₁).calling g' mk (Value.ref b :: As).toArray, t, U', L, hT, X', hL, e1, e2, hq, st⟩
section
variable {y : MethodName} {bytes cc : ByteArray} {maxL nL mc ms n index : Nat} {ret : Option FieldType} {ws : List Cond} {rm : Room} {Pc : Array Value → State → Prop} {Qc : Array Value → State → Outcome → State → Prop} {XC : String → State → State → Prop} {free : Addr → Prop} {Ts : List Cond} {own C : String} {b : Addr} {As rest : List Value} {g : JFrame}
theorem vx_runVX {hh : List (Nat × Nat × Nat × Nat)} (S : CallFix p m c cc nL s args Ts own) (hM : vx_Met l y ws rm Pc Qc XC mc ms free) (cw : vx_CVW R s args own C index y bytes maxL ret hh ws rm mc ms n) (hp : PreV s H C b Pc As)
    (hg : g.method = m) (hn : As.length = n) (hsize : g.locals.size = nL) (hstack : g.stack = As.reverse ++ .ref b :: rest) (hW : 2 * g.monitorRoom + (rest.map fun v => v.category).sum ≤ 8) (hdg : decode cc g.pc = .ok (.invokevirtual index, 3)) (hf : cells + mc ≤ R.cells ∧ slots + ms ≤ R.slots) :
    vx_Run p l e R s m args below meth c H locs cells slots mc ms g rest (Qc (Value.ref b :: As).toArray) XC free := by
  obtain ⟨⟨hrc, hrs, hfr, hlo, hws, hcw⟩, hcode, hini, hy, hlen, hl, hin, hse⟩ := cw
  have hK : vx_Back l R p e below s args y 3 8 (PreOf R mc ms Pc) (PostOf Qc mc ms free) (vx_Post XC mc ms free) := vx_backW (hh := hh) (bytes := bytes) (maxL := maxL) (ret := ret) hM hp.1 hrc hrs hfr hlo hws hcw (fun a' U hW => word_at hW (Or.inl (by first | rfl | simp [Cond.onTables, Cond.keeps, Cond.steady])) hini)
  obtain ⟨hx, hb, hml, ho, -⟩ := S
  obtain ⟨-, ⟨cellB, hcB, hoB, hclB⟩, hPc⟩ := hp
  intro T hT X
  rcases vx_callVX X hx (C := C) (hh := hh) (bytes := bytes) (maxL := maxL) (ret := ret) ho hl hin hse hcode hy hK (by rw [hT]; exact hcB) hoB hclB hg (hsize.trans hml.symm) (argsL := As) (rest := rest) (fun sig h => hn.trans (hlen sig h)) hstack hW (by rw [hb]; exact hdg)
    (fun vm₁ hW₁ => ⟨hf.1, hf.2, hPc (T.setVm vm₁) hT hW₁⟩) with ⟨v, vm₁, ⟨U', l2, c2, s2⟩, hW₁, X', ⟨g', mk, t, L, e1, e2, hq, h1, hL, h2, h3⟩, st⟩ | ⟨q, vm₁, ⟨U', l2, c2, s2⟩, hW₁, X', ⟨g', mk, t, L, E, ce, e1, e2, hq, hce, hcv, hcl, h1, hL, h2, h3⟩, st⟩
  · dsimp only [Pt.U, Pt.locs, Pt.cells, Pt.slots] at X' e1 e2 h1 h2 h3 st
    subst h1; subst h2; subst h3
    exact Or.inl ⟨v, (T.setVm vm₁).calling g' mk (Value.ref b :: As).toArray, t, U', L, hT, X', hL, e1, e2, hq, st⟩
  · dsimp only [Pt.U, Pt.locs, Pt.cells, Pt.slots] at X' e1 e2 h1 h2 h3 st hcl
    subst h1; subst h2; subst h3
    exact Or.inr ⟨q, (T.setVm vm₁).calling g' mk (Value.ref b :: As).toArray, t, U', L, E, ce, hT, X', hL, e1, e2, hq, hce, hcv, vx_cls hW₁ hcl, st⟩
theorem vx_runSX {hh : List (Nat × Nat × Nat × Nat)} (S : CallFix p m c cc nL s args Ts own) (hM : vx_Met l y ws rm Pc Qc XC mc ms free) (cw : vx_CSW R s args own index y bytes maxL ret hh ws rm mc ms n) (hp : PreS s H Pc As)
    (hg : g.method = m) (hn : As.length = n) (hsize : g.locals.size = nL) (hstack : g.stack = As.reverse ++ rest) (hW : 2 * g.monitorRoom + (rest.map fun v => v.category).sum ≤ 8) (hdg : decode cc g.pc = .ok (.invokestatic index, 3)) (hf : cells + mc ≤ R.cells ∧ slots + ms ≤ R.slots) :
    vx_Run p l e R s m args below meth c H locs cells slots mc ms g rest (Qc As.toArray) XC free := by
  obtain ⟨⟨hrc, hrs, hfr, hlo, hws, hcw⟩, hcode, hini, hy, hlen, hl, hstt⟩ := cw
  have hK : vx_Back l R p e below s args y 3 8 (PreOf R mc ms Pc) (PostOf Qc mc ms free) (vx_Post XC mc ms free) := vx_backW (hh := hh) (bytes := bytes) (maxL := maxL) (ret := ret) hM hp.1 hrc hrs hfr hlo hws hcw (fun a' U hW => word_at hW (Or.inl (by first | rfl | simp [Cond.onTables, Cond.keeps, Cond.steady])) hini)
  obtain ⟨hx, hb, hml, ho, -⟩ := S
  intro T hT X
  rcases vx_callSX X hx (hh := hh) (bytes := bytes) (maxL := maxL) (ret := ret) ho hl hstt hini hcode hy hK hg (hsize.trans hml.symm) (argsL := As) (rest := rest) (fun sig h => hn.trans (hlen sig h)) hstack hW (by rw [hb]; exact hdg)
    (fun vm₁ hW₁ => ⟨hf.1, hf.2, hp.2 (T.setVm vm₁) hT hW₁⟩) with ⟨v, vm₁, ⟨U', l2, c2, s2⟩, hW₁, X', ⟨g', mk, t, L, e1, e2, hq, h1, hL, h2, h3⟩, st⟩ | ⟨q, vm₁, ⟨U', l2, c2, s2⟩, hW₁, X', ⟨g', mk, t, L, E, ce, e1, e2, hq, hce, hcv, hcl, h1, hL, h2, h3⟩, st⟩
  · dsimp only [Pt.U, Pt.locs, Pt.cells, Pt.slots] at X' e1 e2 h1 h2 h3 st
    subst h1; subst h2; subst h3
    exact Or.inl ⟨v, (T.setVm vm₁).calling g' mk As.toArray, t, U', L, hT, X', hL, e1, e2, hq, st⟩
  · dsimp only [Pt.U, Pt.locs, Pt.cells, Pt.slots] at X' e1 e2 h1 h2 h3 st hcl
    subst h1; subst h2; subst h3
    exact Or.inr ⟨q, (T.setVm vm₁).calling g' mk As.toArray, t, U', L, E, ce, hT, X', hL, e1, e2, hq, hce, hcv, vx_cls hW₁ hcl, st⟩
end
end VXH
theorem vx_ofWH {l : Launch} {y : MethodName} {ws ws' : List Cond} {rm : Room} {Pc : Array Value → State → Prop} {Qc : Array Value → State → Outcome → State → Prop} {XC : String → State → State → Prop} {mc ms : Nat} {free : Addr → Prop} {cc : ByteArray} {maxL : Nat} {ret : Option FieldType} {hh : List (Nat × Nat × Nat × Nat)}
    (hy : plainName y.cls = true) (hw : ws = Cond.codeWith y cc maxL ret hh :: ws')
    (body : ∀ p e s m args below meth c s₁, BodyLoose p l y (headSpec ws rm) cc maxL ret e s m args below meth c s₁ → c.maxLocals = maxL → Pc args s →
      W p l e (headSpec ws rm).room s m args below meth c s.heap [] 0 0 (vx_MQ below Qc XC args s mc ms free) (entryFrame m args maxL)) : vx_Met l y ws rm Pc Qc XC mc ms free := by
  refine MetFree.of_bodyS (code := cc) (maxLocals := maxL) (ret := ret) hy ?_ ?_
  · intro args s m h hn
    obtain ⟨m9, meth, c, hn9, h1, h2, h3, h4, -, h5, h6, -⟩ := Cond.codeWith_spec (atoms_spec (ws := ws) h _ (by rw [hw]; exact List.mem_cons_self))
    cases hn.symm.trans hn9
    exact ⟨meth, c, h1, h2, h3, h4, h5, h6⟩
  · intro p e s m args below meth c s₁ B hml hP _
    have hh0 : s₁.heap = s.heap := by rw [B.state]; rfl
    obtain ⟨t, a1, o, b1, b2, b3⟩ := body p e s m args below meth c s₁ B hml hP s₁ hh0 (Stand.of_body B)
    exact ⟨t, o, a1, b1, b2, b3⟩
/-! ===== END ===== -/
end
section
/-! ===== BEGIN printed: names, fields, word lists, decode rows ===== -/
def RX0 : String := "CurveMeetings$Band"
def TX0 : u_T := fun k => match k with
  | 0 => ("CurveMeetings$Band", "x0", "I", false)
  | 1 => ("CurveMeetings$Band", "y0", "I", false)
  | 2 => ("CurveMeetings$Band", "width", "I", false)
  | 3 => ("CurveMeetings$Band", "height", "I", false)
  | 4 => ("CurveMeetings$Band", "low", "I", false)
  | _ => ("CurveMeetings$Band", "high", "I", false)
def tyX0 : Nat → FieldType := fun k => match k with
  | 0 => .int
  | 1 => .int
  | 2 => .int
  | 3 => .int
  | 4 => .int
  | _ => .int
abbrev wsX00 : List Cond := u_ws RX0 TX0 6
theorem nmX0 : ∀ a, a < 6 → ∀ b, b < 6 → a ≠ b → (TX0 a).2.1 ≠ (TX0 b).2.1 := by decide +kernel
theorem tyX0_ok : ∀ k, k < 6 → parseFieldDescriptor (TX0 k).2.2.1 = some (tyX0 k) := by decide +kernel
abbrev cX0_init : ByteArray := prog_2_method_1_code
def yX0_init : MethodName := ⟨RX0, "<init>", "()V"⟩
def RX1 : String := "CurveMeetings$Cells"
def TX1 : u_T := fun k => match k with
  | 0 => ("CurveMeetings$Cells", "numbers", "[J", true)
  | 1 => ("CurveMeetings$Cells", "extremes", "[I", true)
  | 2 => ("CurveMeetings$Cells", "degrees", "[I", true)
  | _ => ("CurveMeetings$Cells", "depths", "[I", true)
def tyX1 : Nat → FieldType := fun k => match k with
  | 0 => .array .long
  | 1 => .array .int
  | 2 => .array .int
  | _ => .array .int
abbrev wsX10 : List Cond := u_ws RX1 TX1 4
theorem nmX1 : ∀ a, a < 4 → ∀ b, b < 4 → a ≠ b → (TX1 a).2.1 ≠ (TX1 b).2.1 := by decide +kernel
theorem tyX1_ok : ∀ k, k < 4 → parseFieldDescriptor (TX1 k).2.2.1 = some (tyX1 k) := by decide +kernel
abbrev cX1_init : ByteArray := prog_3_method_1_code
def yX1_init : MethodName := ⟨RX1, "<init>", "()V"⟩
abbrev cX1_startOf : ByteArray := prog_3_method_2_code
def yX1_startOf : MethodName := ⟨RX1, "startOf", "(III)I"⟩
abbrev cX1_number : ByteArray := prog_3_method_3_code
def yX1_number : MethodName := ⟨RX1, "number", "(IIII)J"⟩
abbrev cX1_extreme : ByteArray := prog_3_method_4_code
def yX1_extreme : MethodName := ⟨RX1, "extreme", "(III)I"⟩
abbrev cX1_degreeOf : ByteArray := prog_3_method_5_code
def yX1_degreeOf : MethodName := ⟨RX1, "degreeOf", "(I)I"⟩
abbrev cX1_grow : ByteArray := prog_3_method_6_code
def yX1_grow : MethodName := ⟨RX1, "grow", "(LCurveMeetings$Figure;II)V"⟩
abbrev cX1_isPlanted : ByteArray := prog_3_method_7_code
def yX1_isPlanted : MethodName := ⟨RX1, "isPlanted", "(LCurveMeetings$Figure;I)Z"⟩
abbrev cX1_homogeneous : ByteArray := prog_3_method_8_code
def yX1_homogeneous : MethodName := ⟨RX1, "homogeneous", "(LCurveMeetings$Figure;III)J"⟩
abbrev cX1_plant : ByteArray := prog_3_method_9_code
def yX1_plant : MethodName := ⟨RX1, "plant", "(LCurveMeetings$Figure;I)V"⟩
abbrev cX1_growLevel : ByteArray := prog_3_method_10_code
def yX1_growLevel : MethodName := ⟨RX1, "growLevel", "(II)V"⟩
abbrev cX1_findExtremes : ByteArray := prog_3_method_11_code
def yX1_findExtremes : MethodName := ⟨RX1, "findExtremes", "(II)V"⟩
abbrev cX1_compare : ByteArray := prog_3_method_12_code
def yX1_compare : MethodName := ⟨RX1, "compare", "(IIIIIII)J"⟩
def RX2 : String := "CurveMeetings$Figure"
def TX2 : u_T := fun k => match k with
  | _ => ("CurveMeetings$Figure", "numbers", "[I", true)
def tyX2 : Nat → FieldType := fun k => match k with
  | _ => .array .int
abbrev wsX20 : List Cond := u_ws RX2 TX2 1
theorem nmX2 : ∀ a, a < 1 → ∀ b, b < 1 → a ≠ b → (TX2 a).2.1 ≠ (TX2 b).2.1 := by decide +kernel
theorem tyX2_ok : ∀ k, k < 1 → parseFieldDescriptor (TX2 k).2.2.1 = some (tyX2 k) := by decide +kernel
abbrev cX2_init : ByteArray := prog_4_method_1_code
def yX2_init : MethodName := ⟨RX2, "<init>", "()V"⟩
abbrev cX2_at : ByteArray := prog_4_method_2_code
def yX2_at : MethodName := ⟨RX2, "at", "(I)I"⟩
abbrev cX2_put : ByteArray := prog_4_method_3_code
def yX2_put : MethodName := ⟨RX2, "put", "(II)V"⟩
abbrev cX2_makeEmpty : ByteArray := prog_4_method_4_code
def yX2_makeEmpty : MethodName := ⟨RX2, "makeEmpty", "()V"⟩
abbrev cX2_copyFrom : ByteArray := prog_4_method_5_code
def yX2_copyFrom : MethodName := ⟨RX2, "copyFrom", "(LCurveMeetings$Figure;)V"⟩
abbrev cX2_saveTo : ByteArray := prog_4_method_6_code
def yX2_saveTo : MethodName := ⟨RX2, "saveTo", "([II)V"⟩
abbrev cX2_curves : ByteArray := prog_4_method_8_code
def yX2_curves : MethodName := ⟨RX2, "curves", "()I"⟩
abbrev cX2_lines : ByteArray := prog_4_method_9_code
def yX2_lines : MethodName := ⟨RX2, "lines", "()I"⟩
abbrev cX2_hasCurve : ByteArray := prog_4_method_10_code
def yX2_hasCurve : MethodName := ⟨RX2, "hasCurve", "(I)Z"⟩
abbrev cX2_hasLine : ByteArray := prog_4_method_11_code
def yX2_hasLine : MethodName := ⟨RX2, "hasLine", "(I)Z"⟩
abbrev cX2_hasPoint : ByteArray := prog_4_method_12_code
def yX2_hasPoint : MethodName := ⟨RX2, "hasPoint", "(II)Z"⟩
abbrev cX2_addCurve : ByteArray := prog_4_method_13_code
def yX2_addCurve : MethodName := ⟨RX2, "addCurve", "(I)I"⟩
abbrev cX2_addLine : ByteArray := prog_4_method_14_code
def yX2_addLine : MethodName := ⟨RX2, "addLine", "(I)I"⟩
abbrev cX2_findCurve : ByteArray := prog_4_method_15_code
def yX2_findCurve : MethodName := ⟨RX2, "findCurve", "(I)I"⟩
abbrev cX2_findLine : ByteArray := prog_4_method_16_code
def yX2_findLine : MethodName := ⟨RX2, "findLine", "(I)I"⟩
abbrev cX2_find : ByteArray := prog_4_method_17_code
def yX2_find : MethodName := ⟨RX2, "find", "(III)I"⟩
abbrev cX2_setting : ByteArray := prog_4_method_18_code
def yX2_setting : MethodName := ⟨RX2, "setting", "(I)I"⟩
abbrev cX2_putSetting : ByteArray := prog_4_method_19_code
def yX2_putSetting : MethodName := ⟨RX2, "putSetting", "(II)V"⟩
abbrev cX2_size : ByteArray := prog_4_method_20_code
def yX2_size : MethodName := ⟨RX2, "size", "(I)I"⟩
abbrev cX2_putSize : ByteArray := prog_4_method_21_code
def yX2_putSize : MethodName := ⟨RX2, "putSize", "(II)V"⟩
abbrev cX2_top : ByteArray := prog_4_method_22_code
def yX2_top : MethodName := ⟨RX2, "top", "(I)I"⟩
abbrev cX2_pointStart : ByteArray := prog_4_method_23_code
def yX2_pointStart : MethodName := ⟨RX2, "pointStart", "(II)I"⟩
abbrev cX2_point : ByteArray := prog_4_method_24_code
def yX2_point : MethodName := ⟨RX2, "point", "(III)I"⟩
abbrev cX2_putPoint : ByteArray := prog_4_method_25_code
def yX2_putPoint : MethodName := ⟨RX2, "putPoint", "(IIIII)V"⟩
abbrev cX2_putPointNumber : ByteArray := prog_4_method_26_code
def yX2_putPointNumber : MethodName := ⟨RX2, "putPointNumber", "(IIII)V"⟩
abbrev cX2_copyPoint : ByteArray := prog_4_method_27_code
def yX2_copyPoint : MethodName := ⟨RX2, "copyPoint", "(III)V"⟩
abbrev cX2_swapPoints : ByteArray := prog_4_method_28_code
def yX2_swapPoints : MethodName := ⟨RX2, "swapPoints", "(III)V"⟩
abbrev cX2_lineValue : ByteArray := prog_4_method_29_code
def yX2_lineValue : MethodName := ⟨RX2, "lineValue", "(II)I"⟩
abbrev cX2_putLineValue : ByteArray := prog_4_method_30_code
def yX2_putLineValue : MethodName := ⟨RX2, "putLineValue", "(III)V"⟩
abbrev cX2_lineAt : ByteArray := prog_4_method_31_code
def yX2_lineAt : MethodName := ⟨RX2, "lineAt", "(III)I"⟩
abbrev cX2_cutNumber : ByteArray := prog_4_method_32_code
def yX2_cutNumber : MethodName := ⟨RX2, "cutNumber", "(III)I"⟩
def RX3 : String := "CurveMeetings$History"
def TX3 : u_T := fun k => match k with
  | 0 => ("CurveMeetings$History", "kept", "[I", true)
  | 1 => ("CurveMeetings$History", "oldest", "I", false)
  | _ => ("CurveMeetings$History", "count", "I", false)
def tyX3 : Nat → FieldType := fun k => match k with
  | 0 => .array .int
  | 1 => .int
  | _ => .int
abbrev wsX30 : List Cond := u_ws RX3 TX3 3
theorem nmX3 : ∀ a, a < 3 → ∀ b, b < 3 → a ≠ b → (TX3 a).2.1 ≠ (TX3 b).2.1 := by decide +kernel
theorem tyX3_ok : ∀ k, k < 3 → parseFieldDescriptor (TX3 k).2.2.1 = some (tyX3 k) := by decide +kernel
abbrev cX3_init : ByteArray := prog_5_method_1_code
def yX3_init : MethodName := ⟨RX3, "<init>", "()V"⟩
abbrev cX3_forget : ByteArray := prog_5_method_3_code
def yX3_forget : MethodName := ⟨RX3, "forget", "()V"⟩
abbrev cX3_startOf : ByteArray := prog_5_method_4_code
def yX3_startOf : MethodName := ⟨RX3, "startOf", "(I)I"⟩
abbrev cX3_keep : ByteArray := prog_5_method_5_code
def yX3_keep : MethodName := ⟨RX3, "keep", "(LCurveMeetings$Figure;)V"⟩
def RX4 : String := "CurveMeetings$Hull"
def TX4 : u_T := fun k => match k with
  | 0 => ("CurveMeetings$Hull", "corners", "[I", true)
  | _ => ("CurveMeetings$Hull", "count", "I", false)
def tyX4 : Nat → FieldType := fun k => match k with
  | 0 => .array .int
  | _ => .int
abbrev wsX40 : List Cond := u_ws RX4 TX4 2
theorem nmX4 : ∀ a, a < 2 → ∀ b, b < 2 → a ≠ b → (TX4 a).2.1 ≠ (TX4 b).2.1 := by decide +kernel
theorem tyX4_ok : ∀ k, k < 2 → parseFieldDescriptor (TX4 k).2.2.1 = some (tyX4 k) := by decide +kernel
abbrev cX4_init : ByteArray := prog_6_method_1_code
def yX4_init : MethodName := ⟨RX4, "<init>", "()V"⟩
def RX5 : String := "CurveMeetings$LineCut"
def TX5 : u_T := fun k => match k with
  | 0 => ("CurveMeetings$LineCut", "rows", "[J", true)
  | 1 => ("CurveMeetings$LineCut", "kinds", "[I", true)
  | 2 => ("CurveMeetings$LineCut", "depths", "[I", true)
  | 3 => ("CurveMeetings$LineCut", "cells", "[I", true)
  | 4 => ("CurveMeetings$LineCut", "degree", "I", false)
  | _ => ("CurveMeetings$LineCut", "roots", "I", false)
def tyX5 : Nat → FieldType := fun k => match k with
  | 0 => .array .long
  | 1 => .array .int
  | 2 => .array .int
  | 3 => .array .int
  | 4 => .int
  | _ => .int
abbrev wsX50 : List Cond := u_ws RX5 TX5 6
theorem nmX5 : ∀ a, a < 6 → ∀ b, b < 6 → a ≠ b → (TX5 a).2.1 ≠ (TX5 b).2.1 := by decide +kernel
theorem tyX5_ok : ∀ k, k < 6 → parseFieldDescriptor (TX5 k).2.2.1 = some (tyX5 k) := by decide +kernel
abbrev cX5_init : ByteArray := prog_7_method_1_code
def yX5_init : MethodName := ⟨RX5, "<init>", "()V"⟩
abbrev cX5_begin : ByteArray := prog_7_method_2_code
def yX5_begin : MethodName := ⟨RX5, "begin", "(LCurveMeetings$Figure;II)V"⟩
abbrev cX5_replace : ByteArray := prog_7_method_3_code
def yX5_replace : MethodName := ⟨RX5, "replace", "(IJ)V"⟩
abbrev cX5_number : ByteArray := prog_7_method_4_code
def yX5_number : MethodName := ⟨RX5, "number", "(II)J"⟩
abbrev cX5_isAllZero : ByteArray := prog_7_method_5_code
def yX5_isAllZero : MethodName := ⟨RX5, "isAllZero", "()Z"⟩
abbrev cX5_goDown : ByteArray := prog_7_method_6_code
def yX5_goDown : MethodName := ⟨RX5, "goDown", "(IZ)V"⟩
abbrev cX5_goTo : ByteArray := prog_7_method_7_code
def yX5_goTo : MethodName := ⟨RX5, "goTo", "(II)V"⟩
abbrev cX5_changesOfCell : ByteArray := prog_7_method_8_code
def yX5_changesOfCell : MethodName := ⟨RX5, "changesOfCell", "(II)I"⟩
abbrev cX5_changesAt : ByteArray := prog_7_method_9_code
def yX5_changesAt : MethodName := ⟨RX5, "changesAt", "(I)I"⟩
abbrev cX5_findAll : ByteArray := prog_7_method_10_code
def yX5_findAll : MethodName := ⟨RX5, "findAll", "(I)V"⟩
abbrev cX5_search : ByteArray := prog_7_method_11_code
def yX5_search : MethodName := ⟨RX5, "search", "(LCurveMeetings$LineCut;III)V"⟩
abbrev cX5_add : ByteArray := prog_7_method_12_code
def yX5_add : MethodName := ⟨RX5, "add", "(III)V"⟩
abbrev cX5_size : ByteArray := prog_7_method_13_code
def yX5_size : MethodName := ⟨RX5, "size", "()I"⟩
abbrev cX5_sizeOfKind : ByteArray := prog_7_method_14_code
def yX5_sizeOfKind : MethodName := ⟨RX5, "sizeOfKind", "(I)I"⟩
abbrev cX5_hasRoot : ByteArray := prog_7_method_15_code
def yX5_hasRoot : MethodName := ⟨RX5, "hasRoot", "(I)Z"⟩
abbrev cX5_kindOf : ByteArray := prog_7_method_16_code
def yX5_kindOf : MethodName := ⟨RX5, "kindOf", "(I)I"⟩
abbrev cX5_depthOf : ByteArray := prog_7_method_17_code
def yX5_depthOf : MethodName := ⟨RX5, "depthOf", "(I)I"⟩
abbrev cX5_cellOf : ByteArray := prog_7_method_18_code
def yX5_cellOf : MethodName := ⟨RX5, "cellOf", "(I)I"⟩
abbrev cX5_hasDoubleRoot : ByteArray := prog_7_method_21_code
def yX5_hasDoubleRoot : MethodName := ⟨RX5, "hasDoubleRoot", "()Z"⟩
abbrev cX5_power : ByteArray := prog_7_method_22_code
def yX5_power : MethodName := ⟨RX5, "power", "(I)J"⟩
abbrev cX5_isQuadraticDouble : ByteArray := prog_7_method_23_code
def yX5_isQuadraticDouble : MethodName := ⟨RX5, "isQuadraticDouble", "(JJJ)Z"⟩
abbrev cX5_isCubicDouble : ByteArray := prog_7_method_24_code
def yX5_isCubicDouble : MethodName := ⟨RX5, "isCubicDouble", "(JJJJ)Z"⟩
abbrev cX5_isFraction : ByteArray := prog_7_method_25_code
def yX5_isFraction : MethodName := ⟨RX5, "isFraction", "(JJ)Z"⟩
def RX6 : String := "CurveMeetings$PairGrid"
def TX6 : u_T := fun k => match k with
  | 0 => ("CurveMeetings$PairGrid", "marks", "[I", true)
  | 1 => ("CurveMeetings$PairGrid", "waiting", "[I", true)
  | 2 => ("CurveMeetings$PairGrid", "waitingCount", "I", false)
  | 3 => ("CurveMeetings$PairGrid", "depth", "I", false)
  | 4 => ("CurveMeetings$PairGrid", "side", "I", false)
  | 5 => ("CurveMeetings$PairGrid", "curve", "I", false)
  | _ => ("CurveMeetings$PairGrid", "other", "I", false)
def tyX6 : Nat → FieldType := fun k => match k with
  | 0 => .array .int
  | 1 => .array .int
  | 2 => .int
  | 3 => .int
  | 4 => .int
  | 5 => .int
  | _ => .int
abbrev wsX60 : List Cond := u_ws RX6 TX6 7
theorem nmX6 : ∀ a, a < 7 → ∀ b, b < 7 → a ≠ b → (TX6 a).2.1 ≠ (TX6 b).2.1 := by decide +kernel
theorem tyX6_ok : ∀ k, k < 7 → parseFieldDescriptor (TX6 k).2.2.1 = some (tyX6 k) := by decide +kernel
abbrev cX6_init : ByteArray := prog_8_method_1_code
def yX6_init : MethodName := ⟨RX6, "<init>", "()V"⟩
def RX7 : String := "CurveMeetings$TextReader"
def TX7 : u_T := fun k => match k with
  | 0 => ("CurveMeetings$TextReader", "text", "[B", true)
  | 1 => ("CurveMeetings$TextReader", "filled", "I", false)
  | 2 => ("CurveMeetings$TextReader", "length", "I", false)
  | 3 => ("CurveMeetings$TextReader", "start", "I", false)
  | 4 => ("CurveMeetings$TextReader", "next", "I", false)
  | 5 => ("CurveMeetings$TextReader", "kind", "I", false)
  | 6 => ("CurveMeetings$TextReader", "value", "I", false)
  | _ => ("CurveMeetings$TextReader", "settingsGiven", "I", false)
def tyX7 : Nat → FieldType := fun k => match k with
  | 0 => .array .byte
  | 1 => .int
  | 2 => .int
  | 3 => .int
  | 4 => .int
  | 5 => .int
  | 6 => .int
  | _ => .int
abbrev wsX70 : List Cond := u_ws RX7 TX7 8
theorem nmX7 : ∀ a, a < 8 → ∀ b, b < 8 → a ≠ b → (TX7 a).2.1 ≠ (TX7 b).2.1 := by decide +kernel
theorem tyX7_ok : ∀ k, k < 8 → parseFieldDescriptor (TX7 k).2.2.1 = some (tyX7 k) := by decide +kernel
abbrev cX7_init : ByteArray := prog_9_method_1_code
def yX7_init : MethodName := ⟨RX7, "<init>", "()V"⟩
abbrev cX7_filled : ByteArray := prog_9_method_2_code
def yX7_filled : MethodName := ⟨RX7, "filled", "()I"⟩
abbrev cX7_empty : ByteArray := prog_9_method_3_code
def yX7_empty : MethodName := ⟨RX7, "empty", "()V"⟩
abbrev cX7_append : ByteArray := prog_9_method_4_code
def yX7_append : MethodName := ⟨RX7, "append", "(I)V"⟩
abbrev cX7_place : ByteArray := prog_9_method_5_code
def yX7_place : MethodName := ⟨RX7, "place", "()I"⟩
abbrev cX7_read : ByteArray := prog_9_method_6_code
def yX7_read : MethodName := ⟨RX7, "read", "(ILCurveMeetings$Figure;)I"⟩
abbrev cX7_readStatement : ByteArray := prog_9_method_7_code
def yX7_readStatement : MethodName := ⟨RX7, "readStatement", "(LCurveMeetings$Figure;)I"⟩
abbrev cX7_readCurve : ByteArray := prog_9_method_8_code
def yX7_readCurve : MethodName := ⟨RX7, "readCurve", "(LCurveMeetings$Figure;)I"⟩
abbrev cX7_checkPointNumber : ByteArray := prog_9_method_9_code
def yX7_checkPointNumber : MethodName := ⟨RX7, "checkPointNumber", "(II)I"⟩
abbrev cX7_readLine : ByteArray := prog_9_method_10_code
def yX7_readLine : MethodName := ⟨RX7, "readLine", "(LCurveMeetings$Figure;)I"⟩
abbrev cX7_readSetting : ByteArray := prog_9_method_11_code
def yX7_readSetting : MethodName := ⟨RX7, "readSetting", "(LCurveMeetings$Figure;)I"⟩
abbrev cX7_isWord : ByteArray := prog_9_method_12_code
def yX7_isWord : MethodName := ⟨RX7, "isWord", "(I)Z"⟩
abbrev cX7_checkName : ByteArray := prog_9_method_13_code
def yX7_checkName : MethodName := ⟨RX7, "checkName", "(LCurveMeetings$Figure;)I"⟩
abbrev cX7_isReserved : ByteArray := prog_9_method_14_code
def yX7_isReserved : MethodName := ⟨RX7, "isReserved", "(I)Z"⟩
abbrev cX7_checkInteger : ByteArray := prog_9_method_15_code
def yX7_checkInteger : MethodName := ⟨RX7, "checkInteger", "(II)I"⟩
abbrev cX7_signAt : ByteArray := prog_9_method_16_code
def yX7_signAt : MethodName := ⟨RX7, "signAt", "(I)I"⟩
abbrev cX7_isLetter : ByteArray := prog_9_method_17_code
def yX7_isLetter : MethodName := ⟨RX7, "isLetter", "(I)Z"⟩
abbrev cX7_isDigit : ByteArray := prog_9_method_18_code
def yX7_isDigit : MethodName := ⟨RX7, "isDigit", "(I)Z"⟩
abbrev cX7_isBlank : ByteArray := prog_9_method_19_code
def yX7_isBlank : MethodName := ⟨RX7, "isBlank", "(I)Z"⟩
abbrev cX7_advance : ByteArray := prog_9_method_20_code
def yX7_advance : MethodName := ⟨RX7, "advance", "()V"⟩
abbrev cX7_takeWord : ByteArray := prog_9_method_21_code
def yX7_takeWord : MethodName := ⟨RX7, "takeWord", "()V"⟩
abbrev cX7_takeInteger : ByteArray := prog_9_method_22_code
def yX7_takeInteger : MethodName := ⟨RX7, "takeInteger", "()V"⟩
def RX8 : String := "CurveMeetings"
def TX8 : u_T := fun k => match k with
  | 0 => ("CurveMeetings", "figure", "LCurveMeetings$Figure;", true)
  | 1 => ("CurveMeetings", "draft", "LCurveMeetings$Figure;", true)
  | 2 => ("CurveMeetings", "history", "LCurveMeetings$History;", true)
  | 3 => ("CurveMeetings", "reader", "LCurveMeetings$TextReader;", true)
  | 4 => ("CurveMeetings", "cells", "LCurveMeetings$Cells;", true)
  | 5 => ("CurveMeetings", "cut", "LCurveMeetings$LineCut;", true)
  | 6 => ("CurveMeetings", "grid", "LCurveMeetings$PairGrid;", true)
  | 7 => ("CurveMeetings", "hull", "LCurveMeetings$Hull;", true)
  | 8 => ("CurveMeetings", "band", "LCurveMeetings$Band;", true)
  | _ => ("CurveMeetings", "errorAt", "I", false)
def tyX8 : Nat → FieldType := fun k => match k with
  | 0 => .object "CurveMeetings$Figure"
  | 1 => .object "CurveMeetings$Figure"
  | 2 => .object "CurveMeetings$History"
  | 3 => .object "CurveMeetings$TextReader"
  | 4 => .object "CurveMeetings$Cells"
  | 5 => .object "CurveMeetings$LineCut"
  | 6 => .object "CurveMeetings$PairGrid"
  | 7 => .object "CurveMeetings$Hull"
  | 8 => .object "CurveMeetings$Band"
  | _ => .int
abbrev wsX80 : List Cond := u_ws RX8 TX8 10
theorem nmX8 : ∀ a, a < 10 → ∀ b, b < 10 → a ≠ b → (TX8 a).2.1 ≠ (TX8 b).2.1 := by decide +kernel
theorem tyX8_ok : ∀ k, k < 10 → parseFieldDescriptor (TX8 k).2.2.1 = some (tyX8 k) := by decide +kernel
abbrev cX8_init : ByteArray := prog_1_method_1_code
def yX8_init : MethodName := ⟨RX8, "<init>", "()V"⟩
abbrev cX8_feed : ByteArray := prog_1_method_2_code
def yX8_feed : MethodName := ⟨RX8, "feed", "(IIIII)I"⟩
abbrev cX8_load : ByteArray := prog_1_method_3_code
def yX8_load : MethodName := ⟨RX8, "load", "(I)I"⟩
abbrev cX8_curveCount : ByteArray := prog_1_method_5_code
def yX8_curveCount : MethodName := ⟨RX8, "curveCount", "()I"⟩
abbrev cX8_lineCount : ByteArray := prog_1_method_6_code
def yX8_lineCount : MethodName := ⟨RX8, "lineCount", "()I"⟩
abbrev cX8_getSetting : ByteArray := prog_1_method_10_code
def yX8_getSetting : MethodName := ⟨RX8, "getSetting", "(I)I"⟩
abbrev cX8_degree : ByteArray := prog_1_method_11_code
def yX8_degree : MethodName := ⟨RX8, "degree", "(I)I"⟩
abbrev cX8_control : ByteArray := prog_1_method_12_code
def yX8_control : MethodName := ⟨RX8, "control", "(III)I"⟩
abbrev cX8_lineNumber : ByteArray := prog_1_method_13_code
def yX8_lineNumber : MethodName := ⟨RX8, "lineNumber", "(II)I"⟩
abbrev cX8_cellControl : ByteArray := prog_1_method_14_code
def yX8_cellControl : MethodName := ⟨RX8, "cellControl", "(IIIII)J"⟩
abbrev cX8_placeNumerator : ByteArray := prog_1_method_15_code
def yX8_placeNumerator : MethodName := ⟨RX8, "placeNumerator", "(IIII)J"⟩
abbrev cX8_placeDenominator : ByteArray := prog_1_method_16_code
def yX8_placeDenominator : MethodName := ⟨RX8, "placeDenominator", "(IIII)J"⟩
abbrev cX8_placePart : ByteArray := prog_1_method_17_code
def yX8_placePart : MethodName := ⟨RX8, "placePart", "(IIIIZ)J"⟩
abbrev cX8_commonDivisor : ByteArray := prog_1_method_18_code
def yX8_commonDivisor : MethodName := ⟨RX8, "commonDivisor", "(JJ)J"⟩
abbrev cX8_boxSide : ByteArray := prog_1_method_19_code
def yX8_boxSide : MethodName := ⟨RX8, "boxSide", "(IIII)I"⟩
abbrev cX8_coefficient : ByteArray := prog_1_method_23_code
def yX8_coefficient : MethodName := ⟨RX8, "coefficient", "(III)I"⟩
abbrev cX8_signChanges : ByteArray := prog_1_method_24_code
def yX8_signChanges : MethodName := ⟨RX8, "signChanges", "(IIII)I"⟩
abbrev cX8_isOn : ByteArray := prog_1_method_25_code
def yX8_isOn : MethodName := ⟨RX8, "isOn", "(II)Z"⟩
abbrev cX8_liesOn : ByteArray := prog_1_method_26_code
def yX8_liesOn : MethodName := ⟨RX8, "liesOn", "(II)Z"⟩
abbrev cX8_sideOf : ByteArray := prog_1_method_27_code
def yX8_sideOf : MethodName := ⟨RX8, "sideOf", "(III)I"⟩
abbrev cX8_rootCount : ByteArray := prog_1_method_28_code
def yX8_rootCount : MethodName := ⟨RX8, "rootCount", "(II)I"⟩
abbrev cX8_findRoots : ByteArray := prog_1_method_29_code
def yX8_findRoots : MethodName := ⟨RX8, "findRoots", "(II)V"⟩
abbrev cX8_rootsOf : ByteArray := prog_1_method_30_code
def yX8_rootsOf : MethodName := ⟨RX8, "rootsOf", "(III)I"⟩
abbrev cX8_rootKind : ByteArray := prog_1_method_31_code
def yX8_rootKind : MethodName := ⟨RX8, "rootKind", "(III)I"⟩
abbrev cX8_rootDepth : ByteArray := prog_1_method_32_code
def yX8_rootDepth : MethodName := ⟨RX8, "rootDepth", "(III)I"⟩
abbrev cX8_rootCell : ByteArray := prog_1_method_33_code
def yX8_rootCell : MethodName := ⟨RX8, "rootCell", "(III)I"⟩
abbrev cX8_isTangent : ByteArray := prog_1_method_35_code
def yX8_isTangent : MethodName := ⟨RX8, "isTangent", "(II)Z"⟩
abbrev cX8_movePoint : ByteArray := prog_1_method_59_code
def yX8_movePoint : MethodName := ⟨RX8, "movePoint", "(IIII)I"⟩
abbrev cX8_setWeight : ByteArray := prog_1_method_60_code
def yX8_setWeight : MethodName := ⟨RX8, "setWeight", "(III)I"⟩
abbrev cX8_insertPoint : ByteArray := prog_1_method_61_code
def yX8_insertPoint : MethodName := ⟨RX8, "insertPoint", "(IIIII)I"⟩
abbrev cX8_dropPoint : ByteArray := prog_1_method_62_code
def yX8_dropPoint : MethodName := ⟨RX8, "dropPoint", "(II)I"⟩
abbrev cX8_reverse : ByteArray := prog_1_method_63_code
def yX8_reverse : MethodName := ⟨RX8, "reverse", "(I)I"⟩
abbrev cX8_setLine : ByteArray := prog_1_method_64_code
def yX8_setLine : MethodName := ⟨RX8, "setLine", "(IIII)I"⟩
abbrev cX8_setSetting : ByteArray := prog_1_method_65_code
def yX8_setSetting : MethodName := ⟨RX8, "setSetting", "(II)I"⟩
abbrev cX8_requireCurve : ByteArray := prog_1_method_67_code
def yX8_requireCurve : MethodName := ⟨RX8, "requireCurve", "(I)V"⟩
abbrev cX8_requireLine : ByteArray := prog_1_method_69_code
def yX8_requireLine : MethodName := ⟨RX8, "requireLine", "(I)V"⟩
abbrev cX8_requireCurveAndLine : ByteArray := prog_1_method_70_code
def yX8_requireCurveAndLine : MethodName := ⟨RX8, "requireCurveAndLine", "(II)V"⟩
abbrev cX8_isWithin : ByteArray := prog_1_method_71_code
def yX8_isWithin : MethodName := ⟨RX8, "isWithin", "(III)Z"⟩
abbrev cX8_isPlace : ByteArray := prog_1_method_72_code
def yX8_isPlace : MethodName := ⟨RX8, "isPlace", "(II)Z"⟩
abbrev cX8_isLine : ByteArray := prog_1_method_73_code
def yX8_isLine : MethodName := ⟨RX8, "isLine", "(III)Z"⟩
abbrev cX8_isSetting : ByteArray := prog_1_method_74_code
def yX8_isSetting : MethodName := ⟨RX8, "isSetting", "(I)Z"⟩
abbrev cX8_greatestOf : ByteArray := prog_1_method_75_code
def yX8_greatestOf : MethodName := ⟨RX8, "greatestOf", "(I)I"⟩
abbrev cX8_isCell : ByteArray := prog_1_method_76_code
def yX8_isCell : MethodName := ⟨RX8, "isCell", "(III)Z"⟩
abbrev cX8_signOf : ByteArray := prog_1_method_77_code
def yX8_signOf : MethodName := ⟨RX8, "signOf", "(J)I"⟩
abbrev cX8_nodeOf : ByteArray := prog_1_method_78_code
def yX8_nodeOf : MethodName := ⟨RX8, "nodeOf", "(II)I"⟩
abbrev cX8_halve : ByteArray := prog_1_method_79_code
def yX8_halve : MethodName := ⟨RX8, "halve", "([JIIIZ)V"⟩
def RX9 : String := "CurveMeetingsModel"
def TX9 : u_T := fun k => match k with
  | _ => ("", "", "", false)
def tyX9 : Nat → FieldType := fun k => match k with
  | _ => .int
abbrev wsX90 : List Cond := u_ws RX9 TX9 0
theorem nmX9 : ∀ a, a < 0 → ∀ b, b < 0 → a ≠ b → (TX9 a).2.1 ≠ (TX9 b).2.1 := by decide +kernel
theorem tyX9_ok : ∀ k, k < 0 → parseFieldDescriptor (TX9 k).2.2.1 = some (tyX9 k) := by decide +kernel
def RJx145de : String := "java/io/Serializable"
def TJx145de : u_T := fun k => match k with
  | _ => ("", "", "", false)
def tyJx145de : Nat → FieldType := fun k => match k with
  | _ => .int
abbrev wsJx145de0 : List Cond := u_ws RJx145de TJx145de 0
theorem nmJx145de : ∀ a, a < 0 → ∀ b, b < 0 → a ≠ b → (TJx145de a).2.1 ≠ (TJx145de b).2.1 := by decide +kernel
theorem tyJx145de_ok : ∀ k, k < 0 → parseFieldDescriptor (TJx145de k).2.2.1 = some (tyJx145de k) := by decide +kernel
def RJ5 : String := "java/lang/AbstractStringBuilder"
def TJ5 : u_T := fun k => match k with
  | _ => ("", "", "", false)
def tyJ5 : Nat → FieldType := fun k => match k with
  | _ => .int
abbrev wsJ50 : List Cond := u_ws RJ5 TJ5 0
theorem nmJ5 : ∀ a, a < 0 → ∀ b, b < 0 → a ≠ b → (TJ5 a).2.1 ≠ (TJ5 b).2.1 := by decide +kernel
theorem tyJ5_ok : ∀ k, k < 0 → parseFieldDescriptor (TJ5 k).2.2.1 = some (tyJ5 k) := by decide +kernel
abbrev cJ5_init_d00df : ByteArray := prog_12_method_2_code
def yJ5_init_d00df : MethodName := ⟨RJ5, "<init>", "(I)V"⟩
abbrev cJ5_length_8abf5 : ByteArray := prog_12_method_6_code
def yJ5_length_8abf5 : MethodName := ⟨RJ5, "length", "()I"⟩
abbrev cJ5_ensureCapacityInternal_d00df : ByteArray := prog_12_method_9_code
def yJ5_ensureCapacityInternal_d00df : MethodName := ⟨RJ5, "ensureCapacityInternal", "(I)V"⟩
abbrev cJ5_newCapacity_0f7a4 : ByteArray := prog_12_method_10_code
def yJ5_newCapacity_0f7a4 : MethodName := ⟨RJ5, "newCapacity", "(I)I"⟩
abbrev cJ5_inflate_da8c8 : ByteArray := prog_12_method_11_code
def yJ5_inflate_da8c8 : MethodName := ⟨RJ5, "inflate", "()V"⟩
abbrev cJ5_append_cf1ce : ByteArray := prog_12_method_22_code
def yJ5_append_cf1ce : MethodName := ⟨RJ5, "append", "(Ljava/lang/String;)Ljava/lang/AbstractStringBuilder;"⟩
abbrev cJ5_appendNull_278bc : ByteArray := prog_12_method_26_code
def yJ5_appendNull_278bc : MethodName := ⟨RJ5, "appendNull", "()Ljava/lang/AbstractStringBuilder;"⟩
abbrev cJ5_append_3fe6f : ByteArray := prog_12_method_31_code
def yJ5_append_3fe6f : MethodName := ⟨RJ5, "append", "(C)Ljava/lang/AbstractStringBuilder;"⟩
abbrev cJ5_append_c97b9 : ByteArray := prog_12_method_32_code
def yJ5_append_c97b9 : MethodName := ⟨RJ5, "append", "(I)Ljava/lang/AbstractStringBuilder;"⟩
abbrev cJ5_getValue_6d5f1 : ByteArray := prog_12_method_64_code
def yJ5_getValue_6d5f1 : MethodName := ⟨RJ5, "getValue", "()[B"⟩
abbrev cJ5_isLatin1_aae02 : ByteArray := prog_12_method_68_code
def yJ5_isLatin1_aae02 : MethodName := ⟨RJ5, "isLatin1", "()Z"⟩
abbrev cJ5_inflateIfNeededFor_a7421 : ByteArray := prog_12_method_71_code
def yJ5_inflateIfNeededFor_a7421 : MethodName := ⟨RJ5, "inflateIfNeededFor", "(Ljava/lang/String;)V"⟩
abbrev cJ5_putStringAt_47b60 : ByteArray := prog_12_method_73_code
def yJ5_putStringAt_47b60 : MethodName := ⟨RJ5, "putStringAt", "(ILjava/lang/String;)V"⟩
def RJx2cfe8 : String := "java/lang/Appendable"
def TJx2cfe8 : u_T := fun k => match k with
  | _ => ("", "", "", false)
def tyJx2cfe8 : Nat → FieldType := fun k => match k with
  | _ => .int
abbrev wsJx2cfe80 : List Cond := u_ws RJx2cfe8 TJx2cfe8 0
theorem nmJx2cfe8 : ∀ a, a < 0 → ∀ b, b < 0 → a ≠ b → (TJx2cfe8 a).2.1 ≠ (TJx2cfe8 b).2.1 := by decide +kernel
theorem tyJx2cfe8_ok : ∀ k, k < 0 → parseFieldDescriptor (TJx2cfe8 k).2.2.1 = some (tyJx2cfe8 k) := by decide +kernel
def RJx9f9b0 : String := "java/lang/CharSequence"
def TJx9f9b0 : u_T := fun k => match k with
  | _ => ("", "", "", false)
def tyJx9f9b0 : Nat → FieldType := fun k => match k with
  | _ => .int
abbrev wsJx9f9b00 : List Cond := u_ws RJx9f9b0 TJx9f9b0 0
theorem nmJx9f9b0 : ∀ a, a < 0 → ∀ b, b < 0 → a ≠ b → (TJx9f9b0 a).2.1 ≠ (TJx9f9b0 b).2.1 := by decide +kernel
theorem tyJx9f9b0_ok : ∀ k, k < 0 → parseFieldDescriptor (TJx9f9b0 k).2.2.1 = some (tyJx9f9b0 k) := by decide +kernel
def RJx8e188 : String := "java/lang/Cloneable"
def TJx8e188 : u_T := fun k => match k with
  | _ => ("", "", "", false)
def tyJx8e188 : Nat → FieldType := fun k => match k with
  | _ => .int
abbrev wsJx8e1880 : List Cond := u_ws RJx8e188 TJx8e188 0
theorem nmJx8e188 : ∀ a, a < 0 → ∀ b, b < 0 → a ≠ b → (TJx8e188 a).2.1 ≠ (TJx8e188 b).2.1 := by decide +kernel
theorem tyJx8e188_ok : ∀ k, k < 0 → parseFieldDescriptor (TJx8e188 k).2.2.1 = some (tyJx8e188 k) := by decide +kernel
def RJxb160c : String := "java/lang/Comparable"
def TJxb160c : u_T := fun k => match k with
  | _ => ("", "", "", false)
def tyJxb160c : Nat → FieldType := fun k => match k with
  | _ => .int
abbrev wsJxb160c0 : List Cond := u_ws RJxb160c TJxb160c 0
theorem nmJxb160c : ∀ a, a < 0 → ∀ b, b < 0 → a ≠ b → (TJxb160c a).2.1 ≠ (TJxb160c b).2.1 := by decide +kernel
theorem tyJxb160c_ok : ∀ k, k < 0 → parseFieldDescriptor (TJxb160c k).2.2.1 = some (tyJxb160c k) := by decide +kernel
def RJ6 : String := "java/lang/Integer"
def TJ6 : u_T := fun k => match k with
  | _ => ("", "", "", false)
def tyJ6 : Nat → FieldType := fun k => match k with
  | _ => .int
abbrev wsJ60 : List Cond := u_ws RJ6 TJ6 0
theorem nmJ6 : ∀ a, a < 0 → ∀ b, b < 0 → a ≠ b → (TJ6 a).2.1 ≠ (TJ6 b).2.1 := by decide +kernel
theorem tyJ6_ok : ∀ k, k < 0 → parseFieldDescriptor (TJ6 k).2.2.1 = some (tyJ6 k) := by decide +kernel
abbrev cJ6_getChars_ba4f3 : ByteArray := prog_16_method_12_code
def yJ6_getChars_ba4f3 : MethodName := ⟨RJ6, "getChars", "(II[B)I"⟩
abbrev cJ6_stringSize_0f7a4 : ByteArray := prog_16_method_13_code
def yJ6_stringSize_0f7a4 : MethodName := ⟨RJ6, "stringSize", "(I)I"⟩
def RJ13 : String := "java/lang/Long"
def TJ13 : u_T := fun k => match k with
  | _ => ("", "", "", false)
def tyJ13 : Nat → FieldType := fun k => match k with
  | _ => .int
abbrev wsJ130 : List Cond := u_ws RJ13 TJ13 0
theorem nmJ13 : ∀ a, a < 0 → ∀ b, b < 0 → a ≠ b → (TJ13 a).2.1 ≠ (TJ13 b).2.1 := by decide +kernel
theorem tyJ13_ok : ∀ k, k < 0 → parseFieldDescriptor (TJ13 k).2.2.1 = some (tyJ13 k) := by decide +kernel
abbrev cJ13_signum_95d88 : ByteArray := prog_17_method_57_code
def yJ13_signum_95d88 : MethodName := ⟨RJ13, "signum", "(J)I"⟩
def RJ9 : String := "java/lang/Math"
def TJ9 : u_T := fun k => match k with
  | _ => ("", "", "", false)
def tyJ9 : Nat → FieldType := fun k => match k with
  | _ => .int
abbrev wsJ90 : List Cond := u_ws RJ9 TJ9 0
theorem nmJ9 : ∀ a, a < 0 → ∀ b, b < 0 → a ≠ b → (TJ9 a).2.1 ≠ (TJ9 b).2.1 := by decide +kernel
theorem tyJ9_ok : ∀ k, k < 0 → parseFieldDescriptor (TJ9 k).2.2.1 = some (tyJ9 k) := by decide +kernel
abbrev cJ9_max_7cf53 : ByteArray := prog_18_method_65_code
def yJ9_max_7cf53 : MethodName := ⟨RJ9, "max", "(II)I"⟩
abbrev cJ9_min_7cf53 : ByteArray := prog_18_method_69_code
def yJ9_min_7cf53 : MethodName := ⟨RJ9, "min", "(II)I"⟩
def RJxd2413 : String := "java/lang/Number"
def TJxd2413 : u_T := fun k => match k with
  | _ => ("", "", "", false)
def tyJxd2413 : Nat → FieldType := fun k => match k with
  | _ => .int
abbrev wsJxd24130 : List Cond := u_ws RJxd2413 TJxd2413 0
theorem nmJxd2413 : ∀ a, a < 0 → ∀ b, b < 0 → a ≠ b → (TJxd2413 a).2.1 ≠ (TJxd2413 b).2.1 := by decide +kernel
theorem tyJxd2413_ok : ∀ k, k < 0 → parseFieldDescriptor (TJxd2413 k).2.2.1 = some (tyJxd2413 k) := by decide +kernel
def RJ0 : String := "java/lang/String"
def TJ0 : u_T := fun k => match k with
  | 0 => ("java/lang/String", "value", "[B", true)
  | 1 => ("java/lang/String", "coder", "B", true)
  | 2 => ("java/lang/String", "hash", "I", false)
  | _ => ("java/lang/String", "hashIsZero", "Z", false)
def tyJ0 : Nat → FieldType := fun k => match k with
  | 0 => .array .byte
  | 1 => .byte
  | 2 => .int
  | _ => .boolean
abbrev wsJ00 : List Cond := u_ws RJ0 TJ0 4
theorem nmJ0 : ∀ a, a < 4 → ∀ b, b < 4 → a ≠ b → (TJ0 a).2.1 ≠ (TJ0 b).2.1 := by decide +kernel
theorem tyJ0_ok : ∀ k, k < 4 → parseFieldDescriptor (TJ0 k).2.2.1 = some (tyJ0 k) := by decide +kernel
abbrev cJ0_init_81219 : ByteArray := prog_21_method_53_code
def yJ0_init_81219 : MethodName := ⟨RJ0, "<init>", "(Ljava/lang/StringBuilder;)V"⟩
abbrev cJ0_length_8abf5 : ByteArray := prog_21_method_54_code
def yJ0_length_8abf5 : MethodName := ⟨RJ0, "length", "()I"⟩
abbrev cJ0_charAt_5068e : ByteArray := prog_21_method_56_code
def yJ0_charAt_5068e : MethodName := ⟨RJ0, "charAt", "(I)C"⟩
abbrev cJ0_getBytes_840e7 : ByteArray := prog_21_method_147_code
def yJ0_getBytes_840e7 : MethodName := ⟨RJ0, "getBytes", "([BIB)V"⟩
abbrev cJ0_init_db425 : ByteArray := prog_21_method_150_code
def yJ0_init_db425 : MethodName := ⟨RJ0, "<init>", "(Ljava/lang/AbstractStringBuilder;Ljava/lang/Void;)V"⟩
abbrev cJ0_coder_7d493 : ByteArray := prog_21_method_152_code
def yJ0_coder_7d493 : MethodName := ⟨RJ0, "coder", "()B"⟩
abbrev cJ0_isLatin1_aae02 : ByteArray := prog_21_method_154_code
def yJ0_isLatin1_aae02 : MethodName := ⟨RJ0, "isLatin1", "()Z"⟩
abbrev cJ0_checkIndex_df160 : ByteArray := prog_21_method_155_code
def yJ0_checkIndex_df160 : MethodName := ⟨RJ0, "checkIndex", "(II)V"⟩
abbrev cJ0_checkBoundsOffCount_cabcc : ByteArray := prog_21_method_157_code
def yJ0_checkBoundsOffCount_cabcc : MethodName := ⟨RJ0, "checkBoundsOffCount", "(III)I"⟩
abbrev cJ0_checkBoundsBeginEnd_23922 : ByteArray := prog_21_method_158_code
def yJ0_checkBoundsBeginEnd_23922 : MethodName := ⟨RJ0, "checkBoundsBeginEnd", "(III)V"⟩
def RJ4 : String := "java/lang/StringBuilder"
def TJ4 : u_T := fun k => match k with
  | 0 => ("java/lang/AbstractStringBuilder", "value", "[B", false)
  | 1 => ("java/lang/AbstractStringBuilder", "coder", "B", false)
  | 2 => ("java/lang/AbstractStringBuilder", "maybeLatin1", "Z", false)
  | _ => ("java/lang/AbstractStringBuilder", "count", "I", false)
def tyJ4 : Nat → FieldType := fun k => match k with
  | 0 => .array .byte
  | 1 => .byte
  | 2 => .boolean
  | _ => .int
abbrev wsJ40 : List Cond := u_ws RJ4 TJ4 4
theorem nmJ4 : ∀ a, a < 4 → ∀ b, b < 4 → a ≠ b → (TJ4 a).2.1 ≠ (TJ4 b).2.1 := by decide +kernel
theorem tyJ4_ok : ∀ k, k < 4 → parseFieldDescriptor (TJ4 k).2.2.1 = some (tyJ4 k) := by decide +kernel
abbrev cJ4_init_da8c8 : ByteArray := prog_22_method_1_code
def yJ4_init_da8c8 : MethodName := ⟨RJ4, "<init>", "()V"⟩
abbrev cJ4_append_15ec4 : ByteArray := prog_22_method_7_code
def yJ4_append_15ec4 : MethodName := ⟨RJ4, "append", "(Ljava/lang/String;)Ljava/lang/StringBuilder;"⟩
abbrev cJ4_append_cf468 : ByteArray := prog_22_method_14_code
def yJ4_append_cf468 : MethodName := ⟨RJ4, "append", "(C)Ljava/lang/StringBuilder;"⟩
abbrev cJ4_append_bf812 : ByteArray := prog_22_method_15_code
def yJ4_append_bf812 : MethodName := ⟨RJ4, "append", "(I)Ljava/lang/StringBuilder;"⟩
abbrev cJ4_toString_0e30d : ByteArray := prog_22_method_42_code
def yJ4_toString_0e30d : MethodName := ⟨RJ4, "toString", "()Ljava/lang/String;"⟩
abbrev cJ4_length_8abf5 : ByteArray := prog_22_method_93_code
def yJ4_length_8abf5 : MethodName := ⟨RJ4, "length", "()I"⟩
def RJ1 : String := "java/lang/StringLatin1"
def TJ1 : u_T := fun k => match k with
  | _ => ("", "", "", false)
def tyJ1 : Nat → FieldType := fun k => match k with
  | _ => .int
abbrev wsJ10 : List Cond := u_ws RJ1 TJ1 0
theorem nmJ1 : ∀ a, a < 0 → ∀ b, b < 0 → a ≠ b → (TJ1 a).2.1 ≠ (TJ1 b).2.1 := by decide +kernel
theorem tyJ1_ok : ∀ k, k < 0 → parseFieldDescriptor (TJ1 k).2.2.1 = some (tyJ1 k) := by decide +kernel
abbrev cJ1_charAt_3b067 : ByteArray := prog_23_method_2_code
def yJ1_charAt_3b067 : MethodName := ⟨RJ1, "charAt", "([BI)C"⟩
abbrev cJ1_canEncode_fc78d : ByteArray := prog_23_method_3_code
def yJ1_canEncode_fc78d : MethodName := ⟨RJ1, "canEncode", "(C)Z"⟩
abbrev cJ1_inflate_0e8fd : ByteArray := prog_23_method_50_code
def yJ1_inflate_0e8fd : MethodName := ⟨RJ1, "inflate", "([BI[BII)V"⟩
def RJ2 : String := "java/lang/StringUTF16"
def TJ2 : u_T := fun k => match k with
  | _ => ("", "", "", false)
def tyJ2 : Nat → FieldType := fun k => match k with
  | _ => .int
abbrev wsJ20 : List Cond := u_ws RJ2 TJ2 0
theorem nmJ2 : ∀ a, a < 0 → ∀ b, b < 0 → a ≠ b → (TJ2 a).2.1 ≠ (TJ2 b).2.1 := by decide +kernel
theorem tyJ2_ok : ∀ k, k < 0 → parseFieldDescriptor (TJ2 k).2.2.1 = some (tyJ2 k) := by decide +kernel
abbrev cJ2_newBytesFor_77867 : ByteArray := prog_24_method_2_code
def yJ2_newBytesFor_77867 : MethodName := ⟨RJ2, "newBytesFor", "(I)[B"⟩
abbrev cJ2_newBytesLength_0f7a4 : ByteArray := prog_24_method_3_code
def yJ2_newBytesLength_0f7a4 : MethodName := ⟨RJ2, "newBytesLength", "(I)I"⟩
abbrev cJ2_putChar_b72d1 : ByteArray := prog_24_method_4_code
def yJ2_putChar_b72d1 : MethodName := ⟨RJ2, "putChar", "([BII)V"⟩
abbrev cJ2_getChar_3b067 : ByteArray := prog_24_method_5_code
def yJ2_getChar_3b067 : MethodName := ⟨RJ2, "getChar", "([BI)C"⟩
abbrev cJ2_length_9d52b : ByteArray := prog_24_method_6_code
def yJ2_length_9d52b : MethodName := ⟨RJ2, "length", "([B)I"⟩
abbrev cJ2_coderFromArrayLen_85cad : ByteArray := prog_24_method_15_code
def yJ2_coderFromArrayLen_85cad : MethodName := ⟨RJ2, "coderFromArrayLen", "([BI)B"⟩
abbrev cJ2_compress_39247 : ByteArray := prog_24_method_17_code
def yJ2_compress_39247 : MethodName := ⟨RJ2, "compress", "([BII)[B"⟩
abbrev cJ2_compress_5af95 : ByteArray := prog_24_method_22_code
def yJ2_compress_5af95 : MethodName := ⟨RJ2, "compress", "([BI[BII)I"⟩
abbrev cJ2_putCharSB_b72d1 : ByteArray := prog_24_method_71_code
def yJ2_putCharSB_b72d1 : MethodName := ⟨RJ2, "putCharSB", "([BII)V"⟩
abbrev cJ2_getChars_46870 : ByteArray := prog_24_method_77_code
def yJ2_getChars_46870 : MethodName := ⟨RJ2, "getChars", "(III[B)I"⟩
abbrev cJ2_putCharsAt_cd4e5 : ByteArray := prog_24_method_81_code
def yJ2_putCharsAt_cd4e5 : MethodName := ⟨RJ2, "putCharsAt", "([BICCCC)I"⟩
abbrev cJ2_charAt_3b067 : ByteArray := prog_24_method_83_code
def yJ2_charAt_3b067 : MethodName := ⟨RJ2, "charAt", "([BI)C"⟩
abbrev cJ2_inflate_0e8fd : ByteArray := prog_24_method_86_code
def yJ2_inflate_0e8fd : MethodName := ⟨RJ2, "inflate", "([BI[BII)V"⟩
abbrev cJ2_getChars_ba4f3 : ByteArray := prog_24_method_89_code
def yJ2_getChars_ba4f3 : MethodName := ⟨RJ2, "getChars", "(II[B)I"⟩
abbrev cJ2_checkIndex_2214a : ByteArray := prog_24_method_91_code
def yJ2_checkIndex_2214a : MethodName := ⟨RJ2, "checkIndex", "(I[B)V"⟩
abbrev cJ2_checkBoundsBeginEnd_d044e : ByteArray := prog_24_method_93_code
def yJ2_checkBoundsBeginEnd_d044e : MethodName := ⟨RJ2, "checkBoundsBeginEnd", "(II[B)V"⟩
abbrev cJ2_checkBoundsOffCount_d044e : ByteArray := prog_24_method_94_code
def yJ2_checkBoundsOffCount_d044e : MethodName := ⟨RJ2, "checkBoundsOffCount", "(II[B)V"⟩
def RJ10 : String := "java/lang/System"
def TJ10 : u_T := fun k => match k with
  | _ => ("", "", "", false)
def tyJ10 : Nat → FieldType := fun k => match k with
  | _ => .int
abbrev wsJ100 : List Cond := u_ws RJ10 TJ10 0
theorem nmJ10 : ∀ a, a < 0 → ∀ b, b < 0 → a ≠ b → (TJ10 a).2.1 ≠ (TJ10 b).2.1 := by decide +kernel
theorem tyJ10_ok : ∀ k, k < 0 → parseFieldDescriptor (TJ10 k).2.2.1 = some (tyJ10 k) := by decide +kernel
def RJxfd54e : String := "java/lang/constant/Constable"
def TJxfd54e : u_T := fun k => match k with
  | _ => ("", "", "", false)
def tyJxfd54e : Nat → FieldType := fun k => match k with
  | _ => .int
abbrev wsJxfd54e0 : List Cond := u_ws RJxfd54e TJxfd54e 0
theorem nmJxfd54e : ∀ a, a < 0 → ∀ b, b < 0 → a ≠ b → (TJxfd54e a).2.1 ≠ (TJxfd54e b).2.1 := by decide +kernel
theorem tyJxfd54e_ok : ∀ k, k < 0 → parseFieldDescriptor (TJxfd54e k).2.2.1 = some (tyJxfd54e k) := by decide +kernel
def RJx3cf43 : String := "java/lang/constant/ConstantDesc"
def TJx3cf43 : u_T := fun k => match k with
  | _ => ("", "", "", false)
def tyJx3cf43 : Nat → FieldType := fun k => match k with
  | _ => .int
abbrev wsJx3cf430 : List Cond := u_ws RJx3cf43 TJx3cf43 0
theorem nmJx3cf43 : ∀ a, a < 0 → ∀ b, b < 0 → a ≠ b → (TJx3cf43 a).2.1 ≠ (TJx3cf43 b).2.1 := by decide +kernel
theorem tyJx3cf43_ok : ∀ k, k < 0 → parseFieldDescriptor (TJx3cf43 k).2.2.1 = some (tyJx3cf43 k) := by decide +kernel
def RJ7 : String := "java/util/Arrays"
def TJ7 : u_T := fun k => match k with
  | _ => ("", "", "", false)
def tyJ7 : Nat → FieldType := fun k => match k with
  | _ => .int
abbrev wsJ70 : List Cond := u_ws RJ7 TJ7 0
theorem nmJ7 : ∀ a, a < 0 → ∀ b, b < 0 → a ≠ b → (TJ7 a).2.1 ≠ (TJ7 b).2.1 := by decide +kernel
theorem tyJ7_ok : ∀ k, k < 0 → parseFieldDescriptor (TJ7 k).2.2.1 = some (tyJ7 k) := by decide +kernel
abbrev cJ7_fill_53178 : ByteArray := prog_27_method_103_code
def yJ7_fill_53178 : MethodName := ⟨RJ7, "fill", "([II)V"⟩
abbrev cJ7_copyOf_9075b : ByteArray := prog_27_method_121_code
def yJ7_copyOf_9075b : MethodName := ⟨RJ7, "copyOf", "([BI)[B"⟩
abbrev cJ7_checkLength_df160 : ByteArray := prog_27_method_131_code
def yJ7_checkLength_df160 : MethodName := ⟨RJ7, "checkLength", "(II)V"⟩
abbrev cJ7_copyOfRange_39247 : ByteArray := prog_27_method_132_code
def yJ7_copyOfRange_39247 : MethodName := ⟨RJ7, "copyOfRange", "([BII)[B"⟩
abbrev cJ7_copyOfRangeByte_39247 : ByteArray := prog_27_method_133_code
def yJ7_copyOfRangeByte_39247 : MethodName := ⟨RJ7, "copyOfRangeByte", "([BII)[B"⟩
def RJ8 : String := "jdk/internal/util/ArraysSupport"
def TJ8 : u_T := fun k => match k with
  | _ => ("", "", "", false)
def tyJ8 : Nat → FieldType := fun k => match k with
  | _ => .int
abbrev wsJ80 : List Cond := u_ws RJ8 TJ8 0
theorem nmJ8 : ∀ a, a < 0 → ∀ b, b < 0 → a ≠ b → (TJ8 a).2.1 ≠ (TJ8 b).2.1 := by decide +kernel
theorem tyJ8_ok : ∀ k, k < 0 → parseFieldDescriptor (TJ8 k).2.2.1 = some (tyJ8 k) := by decide +kernel
abbrev cJ8_newLength_cabcc : ByteArray := prog_28_method_27_code
def yJ8_newLength_cabcc : MethodName := ⟨RJ8, "newLength", "(III)I"⟩
abbrev cJ8_hugeLength_7cf53 : ByteArray := prog_28_method_28_code
def yJ8_hugeLength_7cf53 : MethodName := ⟨RJ8, "hugeLength", "(II)I"⟩
def RJ3 : String := "jdk/internal/util/Preconditions"
def TJ3 : u_T := fun k => match k with
  | _ => ("", "", "", false)
def tyJ3 : Nat → FieldType := fun k => match k with
  | _ => .int
abbrev wsJ30 : List Cond := u_ws RJ3 TJ3 0
theorem nmJ3 : ∀ a, a < 0 → ∀ b, b < 0 → a ≠ b → (TJ3 a).2.1 ≠ (TJ3 b).2.1 := by decide +kernel
theorem tyJ3_ok : ∀ k, k < 0 → parseFieldDescriptor (TJ3 k).2.2.1 = some (tyJ3 k) := by decide +kernel
abbrev cJ3_checkIndex_8e157 : ByteArray := prog_29_method_11_code
def yJ3_checkIndex_8e157 : MethodName := ⟨RJ3, "checkIndex", "(IILjava/util/function/BiFunction;)I"⟩
abbrev cJ3_checkFromToIndex_8c36e : ByteArray := prog_29_method_12_code
def yJ3_checkFromToIndex_8c36e : MethodName := ⟨RJ3, "checkFromToIndex", "(IIILjava/util/function/BiFunction;)I"⟩
abbrev cJ3_checkFromIndexSize_8c36e : ByteArray := prog_29_method_13_code
def yJ3_checkFromIndexSize_8c36e : MethodName := ⟨RJ3, "checkFromIndexSize", "(IIILjava/util/function/BiFunction;)I"⟩
def RL : String := "CurveMeetingsLaw"
abbrev cL_cell : ByteArray := method_2_code
def yL_cell : MethodName := ⟨RL, "cell", "([II)I"⟩
abbrev cL_in : ByteArray := method_3_code
def yL_in : MethodName := ⟨RL, "in", "(II)I"⟩
abbrev cL_put : ByteArray := method_4_code
def yL_put : MethodName := ⟨RL, "put", "(LCurveMeetings;Ljava/lang/String;)V"⟩
abbrev cL_statements : ByteArray := method_5_code
def yL_statements : MethodName := ⟨RL, "statements", "(Ljava/lang/String;)I"⟩
abbrev cL_curves : ByteArray := method_6_code
def yL_curves : MethodName := ⟨RL, "curves", "([I)I"⟩
abbrev cL_lines : ByteArray := method_7_code
def yL_lines : MethodName := ⟨RL, "lines", "([I)I"⟩
abbrev cL_limit : ByteArray := method_8_code
def yL_limit : MethodName := ⟨RL, "limit", "([I)I"⟩
abbrev cL_depth : ByteArray := method_9_code
def yL_depth : MethodName := ⟨RL, "depth", "([I)I"⟩
abbrev cL_points : ByteArray := method_10_code
def yL_points : MethodName := ⟨RL, "points", "([II)I"⟩
abbrev cL_point : ByteArray := method_11_code
def yL_point : MethodName := ⟨RL, "point", "([IIII)I"⟩
abbrev cL_line : ByteArray := method_12_code
def yL_line : MethodName := ⟨RL, "line", "([III)I"⟩
abbrev cL_name : ByteArray := method_13_code
def yL_name : MethodName := ⟨RL, "name", "(Ljava/lang/String;I)Ljava/lang/String;"⟩
abbrev cL_signed : ByteArray := method_14_code
def yL_signed : MethodName := ⟨RL, "signed", "(I)Ljava/lang/String;"⟩
abbrev cL_text : ByteArray := method_15_code
def yL_text : MethodName := ⟨RL, "text", "([I)Ljava/lang/String;"⟩
abbrev cL_figure : ByteArray := method_16_code
def yL_figure : MethodName := ⟨RL, "figure", "([I)LCurveMeetings;"⟩
abbrev cL_changes : ByteArray := method_17_code
def yL_changes : MethodName := ⟨RL, "changes", "(LCurveMeetings;I)V"⟩
abbrev cL_binomial : ByteArray := method_19_code
def yL_binomial : MethodName := ⟨RL, "binomial", "(II)J"⟩
abbrev cL_at : ByteArray := method_20_code
def yL_at : MethodName := ⟨RL, "at", "([JIJJ)J"⟩
abbrev cL_coefficients : ByteArray := method_21_code
def yL_coefficients : MethodName := ⟨RL, "coefficients", "(LCurveMeetings;II)[J"⟩
abbrev cL_isCut : ByteArray := method_22_code
def yL_isCut : MethodName := ⟨RL, "isCut", "(LCurveMeetings;III)Z"⟩
abbrev cL_isRooted : ByteArray := method_23_code
def yL_isRooted : MethodName := ⟨RL, "isRooted", "(LCurveMeetings;II)Z"⟩
abbrev cL_law : ByteArray := code
def yL_law : MethodName := ⟨RL, "law", "([I)Z"⟩
abbrev vwCl : List vw_C := [(RX0, TX0, 6), (RX1, TX1, 4), (RX2, TX2, 1), (RX3, TX3, 3), (RX4, TX4, 2), (RX5, TX5, 6), (RX6, TX6, 7), (RX7, TX7, 8), (RX8, TX8, 10), (RJ0, TJ0, 4), (RJ4, TJ4, 4)]
end
section
/-! AN ABSTRACT MACHINE over the world of this claim: numbers as Int up to their word (a value is what Int32.ofInt or Int64.ofInt makes of it), fields F k j, rows A k i, places of cells by number. 'am_stp' says, for one instruction, what must hold so that the rest goes on well. -/
abbrev AV : Type := Int ⊕ Int ⊕ Nat
abbrev vI (x : Int) : AV := .inl x
abbrev vL (x : Int) : AV := .inr (.inl x)
abbrev vR (k : Nat) : AV := .inr (.inr k)
def am_cv (al : Nat → Nat) : AV → Value
  | .inl x => .int (Int32.ofInt x)
  | .inr (.inl x) => .long (Int64.ofInt x)
  | .inr (.inr k) => .ref (al k)
def am_cat : AV → Nat
  | .inr (.inl _) => 2
  | _ => 1
abbrev FF : Type := Nat → Nat → Int
abbrev AA : Type := Nat → Int → Int
abbrev LVs : Type := List (Option AV)
abbrev AO : Type := Option (Option AV)
abbrev KK : Type := AO → FF → AA → Prop
abbrev SP : Type := List AV → FF → AA → KK → Prop
abbrev LC : Type := (Nat × List (Option Nat)) ⊕ (Nat × Int)
/-- name, bytes, locals, return type, parameters, class number of the receiver (none: static), kind (0: returns; 1: returns or throws; 2: returns, its code has an exception table), that table, cells, level, meaning -/
abbrev CE : Type := MethodName × ByteArray × Nat × Option FieldType × Nat × Option Nat × Nat × List (Nat × Nat × Nat × Nat) × Nat × Nat × SP
abbrev ceY (e : CE) : MethodName := e.1
abbrev ceB (e : CE) : ByteArray := e.2.1
abbrev ceM (e : CE) : Nat := e.2.2.1
abbrev ceR (e : CE) : Option FieldType := e.2.2.2.1
abbrev ceN (e : CE) : Nat := e.2.2.2.2.1
abbrev ceC (e : CE) : Option Nat := e.2.2.2.2.2.1
abbrev ceT (e : CE) : Nat := e.2.2.2.2.2.2.1
abbrev ceH (e : CE) : List (Nat × Nat × Nat × Nat) := e.2.2.2.2.2.2.2.1
abbrev ceK (e : CE) : Nat := e.2.2.2.2.2.2.2.2.1
abbrev ceL (e : CE) : Nat := e.2.2.2.2.2.2.2.2.2.1
abbrev ceS (e : CE) : SP := e.2.2.2.2.2.2.2.2.2.2
abbrev CI : Type := Instr × Nat × List Nat
abbrev REC : Type := Nat → LVs → List AV → FF → AA → Nat → Prop
def w32 (x : Int) : Int := (Int32.ofInt x).toInt
def w64 (x : Int) : Int := (Int64.ofInt x).toInt
def x_and (a b : Int) : Int := (Int32.ofInt a &&& Int32.ofInt b).toInt
def x_or (a b : Int) : Int := (Int32.ofInt a ||| Int32.ofInt b).toInt
def x_shl (a b : Int) : Int := (Int32.ofInt a <<< (Int32.ofInt b &&& 31)).toInt
def x_shr (a b : Int) : Int := (Int32.ofInt a >>> (Int32.ofInt b &&& 31)).toInt
def x_ushr (a b : Int) : Int := ((Int32.ofInt a).toUInt32 >>> ((Int32.ofInt b).toUInt32 &&& Int32.toUInt32 31)).toInt32.toInt
def x_div (a b : Int) : Int := (Int32.ofInt a / Int32.ofInt b).toInt
def x_rem (a b : Int) : Int := (Int32.ofInt a - Int32.ofInt a / Int32.ofInt b * Int32.ofInt b).toInt
def y_div (a b : Int) : Int := (Int64.ofInt a / Int64.ofInt b).toInt
def y_rem (a b : Int) : Int := (Int64.ofInt a - Int64.ofInt a / Int64.ofInt b * Int64.ofInt b).toInt
def y_shl (a b : Int) : Int := (Int64.ofInt a <<< ((Int32.ofInt b).toInt64 &&& 63)).toInt
def y_shr (a b : Int) : Int := (Int64.ofInt a >>> ((Int32.ofInt b).toInt64 &&& 63)).toInt
def y_ushr (a b : Int) : Int := ((Int64.ofInt a).toUInt64 >>> ((Int32.ofInt b).toInt64.toUInt64 &&& Int64.toUInt64 63)).toInt64.toInt
def y_or (a b : Int) : Int := (Int64.ofInt a ||| Int64.ofInt b).toInt
def y_cmp (a b : Int) : Int := if w64 b < w64 a then 1 else if w64 a = w64 b then 0 else -1
def x_i2b (a : Int) : Int := (Int32.ofInt a).toInt8.toInt32.toInt
def x_i2c (a : Int) : Int := ((Int32.ofInt a).toUInt32 % 65536).toInt32.toInt
def x_zb (a : Int) : Int := (vp_nar .boolean (Int32.ofInt a)).toInt
def x_bb (a : Int) : Int := (vp_nar .byte (Int32.ofInt a)).toInt
def x_min (a b : Int) : Int := if w32 b < w32 a then b else a
def x_max (a b : Int) : Int := if w32 a < w32 b then b else a
def x_abs (a : Int) : Int := if 0 ≤ w32 a then a else -a
def upF (F : FF) (k j : Nat) (v : Int) : FF := fun a b => if a = k ∧ b = j then v else F a b
def upA (A : AA) (k : Nat) (i v : Int) : AA := fun a b => if a = k ∧ b = i then v else A a b
def cpA (A : AA) (k0 : Nat) (sp : Int) (k dp n : Int) (kk : Nat) : AA := fun a b => if a = kk ∧ dp ≤ b ∧ b < dp + n then A k0 (sp + (b - dp)) else A a b
def am_nth : LVs → Nat → Option AV
  | [], _ => none
  | a :: _, 0 => a
  | _ :: l, i + 1 => am_nth l i
def am_gI (ls : LVs) (i : Nat) (k : Int → Prop) : Prop := match am_nth ls i with
  | some (.inl x) => k x
  | _ => False
def am_gL (ls : LVs) (i : Nat) (k : Int → Prop) : Prop := match am_nth ls i with
  | some (.inr (.inl x)) => k x
  | _ => False
def am_gR (ls : LVs) (i : Nat) (k : Nat → Prop) : Prop := match am_nth ls i with
  | some (.inr (.inr x)) => k x
  | _ => False
def am_p1 (st : List AV) (k : Int → List AV → Prop) : Prop := match st with
  | .inl a :: r => k a r
  | _ => False
def am_p2 (st : List AV) (k : Int → Int → List AV → Prop) : Prop := match st with
  | .inl b :: .inl a :: r => k a b r
  | _ => False
def am_q1 (st : List AV) (k : Int → List AV → Prop) : Prop := match st with
  | .inr (.inl a) :: r => k a r
  | _ => False
def am_q2 (st : List AV) (k : Int → Int → List AV → Prop) : Prop := match st with
  | .inr (.inl b) :: .inr (.inl a) :: r => k a b r
  | _ => False
def am_pR (st : List AV) (k : Nat → List AV → Prop) : Prop := match st with
  | .inr (.inr a) :: r => k a r
  | _ => False
def am_kill (ls : LVs) (i : Nat) : LVs := match i with
  | 0 => ls
  | j + 1 => match ls[j]? with
    | some (some (.inr (.inl _))) => ls.set j none
    | _ => ls
/-- the same by continuations, so that what goes on is a written list again -/
def am_killk : LVs → Nat → (LVs → Prop) → Prop
  | l, 0, k => k l
  | [], _ + 1, k => k []
  | a :: l, 1, k => match a with
    | some (.inr (.inl _)) => k (none :: l)
    | _ => k (a :: l)
  | a :: l, i + 2, k => am_killk l (i + 1) (fun l' => k (a :: l'))
def am_setk : LVs → Nat → Option AV → (LVs → Prop) → Prop
  | [], _, _, _ => False
  | _ :: l, 0, v, k => k (v :: l)
  | a :: l, i + 1, v, k => am_setk l i v (fun l' => k (a :: l'))
def am_st1 (ls : LVs) (i : Nat) (v : AV) (k : LVs → Prop) : Prop := am_killk ls i fun l => am_setk l i (some v) k
def am_st2 (ls : LVs) (i : Nat) (v : AV) (k : LVs → Prop) : Prop := am_killk ls i fun l => am_setk l i (some v) fun l2 => am_setk l2 (i + 1) none k
def am_tgt (ts : List Nat) (k : Nat → Prop) : Prop := match ts with
  | [t] => k t
  | _ => False
def am_br (c : Prop) (a b : Prop) : Prop := (c → a) ∧ (¬ c → b)
def am_obj (lay : List LC) (o : Nat) (k : Nat → List (Option Nat) → Prop) : Prop := match lay[o]? with
  | some (.inl (ci, fs)) => k ci fs
  | _ => False
def am_arr (lay : List LC) (o : Nat) (k : Nat → Int → Prop) : Prop := match lay[o]? with
  | some (.inr (kd, n)) => k kd n
  | _ => False
def am_sw (x : Int) (rec : Nat → Prop) : Int → List Nat → Prop
  | _, [] => True
  | lo, t :: ts => (w32 x = lo → rec t) ∧ am_sw x rec (lo + 1) ts
def am_sum (st : List AV) : Nat := (st.map am_cat).foldr (· + ·) 0
/-- a call: the callee's meaning, with what goes on behind it -/
def am_call (lay : List LC) (thr : Bool) (hnd : Option Nat) (mcO : Nat) (rec : REC) (K : KK) (nx : Nat) (ls : LVs) (st : List AV) (F : FF) (A : AA) (u : Nat) (e : CE) : Prop :=
  cond (Nat.ble (u + ceK e) mcO && Nat.ble (am_sum (st.drop (match ceC e with | none => ceN e | some _ => ceN e + 1))) 8 && Nat.ble (match ceC e with | none => ceN e | some _ => ceN e + 1) st.length && (match ceC e, st[ceN e]? with
    | none, _ => true
    | some ci, some (.inr (.inr o)) => (match lay[o]? with | some (.inl (cj, _)) => Nat.beq ci cj | _ => false)
    | _, _ => false))
  (ceS e (st.take (match ceC e with | none => ceN e | some _ => ceN e + 1)).reverse F A (fun o F' A' => match o with
    | some (some v) => rec nx ls (v :: st.drop (match ceC e with | none => ceN e | some _ => ceN e + 1)) F' A' (u + ceK e)
    | some none => rec nx ls (st.drop (match ceC e with | none => ceN e | some _ => ceN e + 1)) F' A' (u + ceK e)
    | none => match hnd with
      | some h => rec h (ls.map fun _ => none) [] F' A' (u + ceK e)
      | none => cond thr (K none F' A') False)) False
/-- Math's own and arraycopy: by the number that 'mth' has -/
def am_mth (lay : List LC) (nx : Nat) (rec : REC) (ls : LVs) (st : List AV) (F : FF) (A : AA) (u : Nat) (n : Nat) (other : Prop) : Prop := match n with
  | 1 => am_p2 st fun a b r => cond (Nat.ble (am_sum r) 8) (rec nx ls (vI (x_min a b) :: r) F A u) False
  | 2 => am_p2 st fun a b r => cond (Nat.ble (am_sum r) 8) (rec nx ls (vI (x_max a b) :: r) F A u) False
  | 3 => am_p1 st fun a r => cond (Nat.ble (am_sum r) 8) (rec nx ls (vI (x_abs a) :: r) F A u) False
  | 4 => am_p2 st fun dp n r => am_pR r fun a r => am_p1 r fun sp r => am_pR r fun a0 r => am_arr lay a fun kd m => am_arr lay a0 fun kd0 m0 => cond (Nat.beq kd 0 && (Nat.beq kd0 0 && Nat.ble (am_sum r) 8)) ((0 ≤ w32 n ∧ 0 ≤ w32 sp ∧ w32 sp + w32 n ≤ m0 ∧ 0 ≤ w32 dp ∧ w32 dp + w32 n ≤ m) ∧ rec nx ls r F (cpA A a0 (w32 sp) 0 (w32 dp) (w32 n) a) u) False
  | _ => other
def am_ldA (lay : List LC) (scr : Option (Int × (Int → Int))) (A : AA) (o : Nat) (i : Int) (k : Int → Prop) : Prop := match lay[o]? with
  | some (.inr (0, n)) => (0 ≤ w32 i ∧ w32 i < n) ∧ k (A o (w32 i))
  | some _ => False
  | none => match scr with
    | some (L, xs) => cond (Nat.beq o 999) ((0 ≤ w32 i ∧ w32 i < L) ∧ k (xs (w32 i))) False
    | none => False
def am_len (lay : List LC) (scr : Option (Int × (Int → Int))) (o : Nat) (k : Int → Prop) : Prop := match lay[o]? with
  | some (.inr (_, n)) => k n
  | some _ => False
  | none => match scr with
    | some (L, _) => cond (Nat.beq o 999) (k L) False
    | none => False
def am_ldB (lay : List LC) (A : AA) (o : Nat) (i : Int) (k : Int → Prop) : Prop := match lay[o]? with
  | some (.inr (2, n)) => (0 ≤ w32 i ∧ w32 i < n) ∧ k (A o (w32 i))
  | some (.inr (3, n)) => (0 ≤ w32 i ∧ w32 i < n) ∧ k (A o (w32 i))
  | _ => False
def am_stB (lay : List LC) (A : AA) (o : Nat) (i v : Int) (k : AA → Prop) : Prop := match lay[o]? with
  | some (.inr (2, n)) => (0 ≤ w32 i ∧ w32 i < n) ∧ k (upA A o (w32 i) (x_bb v))
  | some (.inr (3, n)) => (0 ≤ w32 i ∧ w32 i < n) ∧ k (upA A o (w32 i) (x_zb v))
  | _ => False
def am_ldL (lay : List LC) (A : AA) (o : Nat) (i : Int) (k : Int → Prop) : Prop := match lay[o]? with
  | some (.inr (1, n)) => (0 ≤ w32 i ∧ w32 i < n) ∧ k (A o (w32 i))
  | _ => False
def am_stk (lay : List LC) (kd : Nat) (A : AA) (o : Nat) (i v : Int) (k : AA → Prop) : Prop := am_arr lay o fun kd' n => cond (Nat.beq kd kd') ((0 ≤ w32 i ∧ w32 i < n) ∧ k (upA A o (w32 i) v)) False
def am_ret (ret : Option FieldType) (x : Int) (p : Prop) : Prop := match ret with
  | some .int => p
  | some .boolean => (x = 0 ∨ x = 1) ∧ p
  | _ => False
def am_isL (ret : Option FieldType) : Bool := match ret with
  | some .long => true
  | _ => false
def am_icmp (cd : Jvm.ClassFile.Cond) (a b : Int) (p q : Prop) : Prop := match cd with
  | .eq => am_br (w32 a = w32 b) p q
  | .ne => am_br (w32 a = w32 b) q p
  | .lt => am_br (w32 a < w32 b) p q
  | .ge => am_br (w32 a < w32 b) q p
  | .gt => am_br (w32 b < w32 a) p q
  | .le => am_br (w32 b < w32 a) q p
abbrev BLK : Type := REC → KK → LVs → List AV → FF → AA → Nat → Prop
abbrev CX : Type := (Nat → Option CI) × List LC × (Nat → Option (Nat × Nat × Bool)) × (Nat → Option CE) × (Nat → Option Int) × (Nat → Option Int) × (Nat → Nat) × Option FieldType × Bool × Option Nat × Nat × Option (Int × (Int → Int)) × (Nat → Option BLK)
abbrev cxCode (x : CX) : Nat → Option CI := x.1
abbrev cxLay (x : CX) : List LC := x.2.1
abbrev cxFld (x : CX) : Nat → Option (Nat × Nat × Bool) := x.2.2.1
abbrev cxCal (x : CX) : Nat → Option CE := x.2.2.2.1
abbrev cxCst (x : CX) : Nat → Option Int := x.2.2.2.2.1
abbrev cxCsL (x : CX) : Nat → Option Int := x.2.2.2.2.2.1
abbrev cxMth (x : CX) : Nat → Nat := x.2.2.2.2.2.2.1
abbrev cxRet (x : CX) : Option FieldType := x.2.2.2.2.2.2.2.1
abbrev cxThr (x : CX) : Bool := x.2.2.2.2.2.2.2.2.1
abbrev cxHnd (x : CX) : Option Nat := x.2.2.2.2.2.2.2.2.2.1
abbrev cxMc (x : CX) : Nat := x.2.2.2.2.2.2.2.2.2.2.1
abbrev cxScr (x : CX) : Option (Int × (Int → Int)) := x.2.2.2.2.2.2.2.2.2.2.2.1
abbrev cxSpc (x : CX) : Nat → Option BLK := x.2.2.2.2.2.2.2.2.2.2.2.2
def am_spc (x : CX) (rec : REC) (K : KK) (pc : Nat) (ls : LVs) (st : List AV) (F : FF) (A : AA) (u : Nat) : Prop := match cxSpc x pc with
  | some b => b rec K ls st F A u
  | none => False
def am_ins (x : CX) (rec : REC) (K : KK) (pc : Nat) (ls : LVs) (st : List AV) (F : FF) (A : AA) (u : Nat) (i : Instr) (nx : Nat) (ts : List Nat) : Prop := match i with
  | .iconst n => rec nx ls (vI n :: st) F A u
  | .bipush n => rec nx ls (vI n :: st) F A u
  | .sipush n => rec nx ls (vI n :: st) F A u
  | .lconst n => rec nx ls (vL (n.val : Nat) :: st) F A u
  | .ldc k => match cxCst x k with
    | some v => rec nx ls (vI v :: st) F A u
    | none => am_spc x rec K pc ls st F A u
  | .ldc_w k => match cxCst x k with
    | some v => rec nx ls (vI v :: st) F A u
    | none => am_spc x rec K pc ls st F A u
  | .ldc2_w k => match cxCsL x k with
    | some v => rec nx ls (vL v :: st) F A u
    | none => False
  | .new _ => am_spc x rec K pc ls st F A u
  | .iload i => am_gI ls i fun a => rec nx ls (vI a :: st) F A u
  | .iload_n i => am_gI ls i.val fun a => rec nx ls (vI a :: st) F A u
  | .lload i => am_gL ls i fun a => rec nx ls (vL a :: st) F A u
  | .lload_n i => am_gL ls i.val fun a => rec nx ls (vL a :: st) F A u
  | .aload i => am_gR ls i fun a => rec nx ls (vR a :: st) F A u
  | .aload_n i => am_gR ls i.val fun a => rec nx ls (vR a :: st) F A u
  | .istore i => am_p1 st fun a r => am_st1 ls i (vI a) fun l => rec nx l r F A u
  | .istore_n i => am_p1 st fun a r => am_st1 ls i.val (vI a) fun l => rec nx l r F A u
  | .lstore i => am_q1 st fun a r => am_st2 ls i (vL a) fun l => rec nx l r F A u
  | .lstore_n i => am_q1 st fun a r => am_st2 ls i.val (vL a) fun l => rec nx l r F A u
  | .astore i => am_pR st fun a r => am_st1 ls i (vR a) fun l => rec nx l r F A u
  | .astore_n i => am_pR st fun a r => am_st1 ls i.val (vR a) fun l => rec nx l r F A u
  | .iinc i n => am_gI ls i fun a => am_st1 ls i (vI (a + n)) fun l => rec nx l st F A u
  | .iadd => am_p2 st fun a b r => rec nx ls (vI (a + b) :: r) F A u
  | .isub => am_p2 st fun a b r => rec nx ls (vI (a - b) :: r) F A u
  | .imul => am_p2 st fun a b r => rec nx ls (vI (a * b) :: r) F A u
  | .ineg => am_p1 st fun a r => rec nx ls (vI (-a) :: r) F A u
  | .idiv => am_p2 st fun a b r => (w32 b ≠ 0) ∧ rec nx ls (vI (x_div a b) :: r) F A u
  | .irem => am_p2 st fun a b r => (w32 b ≠ 0) ∧ rec nx ls (vI (x_rem a b) :: r) F A u
  | .iand => am_p2 st fun a b r => rec nx ls (vI (x_and a b) :: r) F A u
  | .ior => am_p2 st fun a b r => rec nx ls (vI (x_or a b) :: r) F A u
  | .ishl => am_p2 st fun a b r => rec nx ls (vI (x_shl a b) :: r) F A u
  | .ishr => am_p2 st fun a b r => rec nx ls (vI (x_shr a b) :: r) F A u
  | .iushr => am_p2 st fun a b r => rec nx ls (vI (x_ushr a b) :: r) F A u
  | .ladd => am_q2 st fun a b r => rec nx ls (vL (a + b) :: r) F A u
  | .lsub => am_q2 st fun a b r => rec nx ls (vL (a - b) :: r) F A u
  | .lmul => am_q2 st fun a b r => rec nx ls (vL (a * b) :: r) F A u
  | .lneg => am_q1 st fun a r => rec nx ls (vL (-a) :: r) F A u
  | .ldiv => am_q2 st fun a b r => (w64 b ≠ 0) ∧ rec nx ls (vL (y_div a b) :: r) F A u
  | .lrem => am_q2 st fun a b r => (w64 b ≠ 0) ∧ rec nx ls (vL (y_rem a b) :: r) F A u
  | .lor => am_q2 st fun a b r => rec nx ls (vL (y_or a b) :: r) F A u
  | .lshl => am_p1 st fun b r => am_q1 r fun a r => rec nx ls (vL (y_shl a b) :: r) F A u
  | .lshr => am_p1 st fun b r => am_q1 r fun a r => rec nx ls (vL (y_shr a b) :: r) F A u
  | .lushr => am_p1 st fun b r => am_q1 r fun a r => rec nx ls (vL (y_ushr a b) :: r) F A u
  | .lcmp => am_q2 st fun a b r => rec nx ls (vI (y_cmp a b) :: r) F A u
  | .i2l => am_p1 st fun a r => rec nx ls (vL (w32 a) :: r) F A u
  | .l2i => am_q1 st fun a r => rec nx ls (vI a :: r) F A u
  | .i2b => am_p1 st fun a r => rec nx ls (vI (x_i2b a) :: r) F A u
  | .i2c => am_p1 st fun a r => rec nx ls (vI (x_i2c a) :: r) F A u
  | .pop => match st with
    | .inl _ :: r => rec nx ls r F A u
    | _ => False
  | .dup => match st with
    | .inl a :: r => rec nx ls (vI a :: vI a :: r) F A u
    | .inr (.inr a) :: r => rec nx ls (vR a :: vR a :: r) F A u
    | _ => False
  | .dup2 => match st with
    | .inl a :: .inr (.inr b) :: r => rec nx ls (vI a :: vR b :: vI a :: vR b :: r) F A u
    | .inl a :: .inl b :: r => rec nx ls (vI a :: vI b :: vI a :: vI b :: r) F A u
    | .inr (.inl a) :: r => rec nx ls (vL a :: vL a :: r) F A u
    | _ => False
  | .goto _ => am_tgt ts fun t => rec t ls st F A u
  | .if_icmp cd _ => am_p2 st fun a b r => am_tgt ts fun t => am_icmp cd a b (rec t ls r F A u) (rec nx ls r F A u)
  | .ifCond cd _ => am_p1 st fun a r => am_tgt ts fun t => am_icmp cd a 0 (rec t ls r F A u) (rec nx ls r F A u)
  | .tableswitch _ lo hi _ => am_p1 st fun a r => match ts with
    | d :: l => am_sw a (fun t => rec t ls r F A u) lo l ∧ (w32 a < lo ∨ hi < w32 a → rec d ls r F A u)
    | [] => False
  | .getfield k => am_pR st fun o r => match cxFld x k with
    | some (ci, j, _) => am_obj (cxLay x) o fun cj fs => cond (Nat.beq ci cj) (match fs[j]? with
      | some none => rec nx ls (vI (F o j) :: r) F A u
      | some (some t) => rec nx ls (vR t :: r) F A u
      | none => False) False
    | none => False
  | .putfield k => am_p1 st fun v r => am_pR r fun o r => match cxFld x k with
    | some (ci, j, true) => am_obj (cxLay x) o fun cj fs => cond (Nat.beq ci cj) (match fs[j]? with
      | some none => rec nx ls r (upF F o j v) A u
      | _ => False) False
    | _ => False
  | .arraylength => am_pR st fun o r => am_len (cxLay x) (cxScr x) o fun n => rec nx ls (vI n :: r) F A u
  | .iaload => am_p1 st fun i r => am_pR r fun o r => am_ldA (cxLay x) (cxScr x) A o i fun v => rec nx ls (vI v :: r) F A u
  | .baload => am_p1 st fun i r => am_pR r fun o r => am_ldB (cxLay x) A o i fun v => rec nx ls (vI v :: r) F A u
  | .laload => am_p1 st fun i r => am_pR r fun o r => am_ldL (cxLay x) A o i fun v => rec nx ls (vL v :: r) F A u
  | .iastore => am_p1 st fun v r => am_p1 r fun i r => am_pR r fun o r => am_stk (cxLay x) 0 A o i v fun A' => rec nx ls r F A' u
  | .lastore => am_q1 st fun v r => am_p1 r fun i r => am_pR r fun o r => am_stk (cxLay x) 1 A o i v fun A' => rec nx ls r F A' u
  | .bastore => am_p1 st fun v r => am_p1 r fun i r => am_pR r fun o r => am_stB (cxLay x) A o i v fun A' => rec nx ls r F A' u
  | .invokevirtual k => match cxCal x k with
    | some e => match ceC e with
      | some _ => am_call (cxLay x) (cxThr x) (cxHnd x) (cxMc x) rec K nx ls st F A u e
      | none => False
    | none => am_spc x rec K pc ls st F A u
  | .invokestatic k => am_mth (cxLay x) nx rec ls st F A u (cxMth x k) (match cxCal x k with
    | some e => match ceC e with
      | none => am_call (cxLay x) (cxThr x) (cxHnd x) (cxMc x) rec K nx ls st F A u e
      | some _ => False
    | none => False)
  | .ireturn => am_p1 st fun a r => match r with
    | [] => am_ret (cxRet x) a (K (some (some (vI a))) F A)
    | _ => False
  | .lreturn => am_q1 st fun a r => match r with
    | [] => cond (am_isL (cxRet x)) (K (some (some (vL a))) F A) False
    | _ => False
  | .return_ => match st, cxRet x with
    | [], none => K (some none) F A
    | _, _ => False
  | _ => False
def am_stp (x : CX) (rec : REC) (K : KK) (pc : Nat) (ls : LVs) (st : List AV) (F : FF) (A : AA) (u : Nat) : Prop := match cxSpc x pc with
  | some b => b rec K ls st F A u
  | none => match cxCode x pc with
    | some (i, nx, ts) => am_ins x rec K pc ls st F A u i nx ts
    | none => False
def am_mask : List Bool → LVs → LVs
  | b :: bs, v :: ls => cond b v none :: am_mask bs ls
  | [], ls => ls.map fun _ => none
  | _, [] => []
abbrev CUT : Type := Nat → Option (List Bool)
def am_run (x : CX) (cut : CUT) (Kc : REC) (K : KK) : Nat → REC
  | 0 => fun _ _ _ _ _ _ => False
  | n + 1 => fun pc ls st F A u => match cut pc with
    | some b => Kc pc (am_mask b ls) st F A u
    | none => am_stp x (am_run x cut Kc K n) K pc ls st F A u
end
section
/-! what the abstract machine's values, rows and cells are in the machine -/
def am_LR (al : Nat → Nat) (ls : Array Slot) (nL : Nat) (l : LVs) : Prop := l.length = nL ∧ ls.size = nL ∧ lv_wf ls ∧ ∀ (i : Nat) (v : AV), l[i]? = some (some v) → ls[i]? = some (.val (am_cv al v))
def am_lv (al : Nat → Nat) (l : LVs) : List (Nat × Value) := (List.range l.length).filterMap (fun i => match l[i]? with
  | some (some v) => some (i, am_cv al v)
  | _ => none)
theorem am_lv_mem {al : Nat → Nat} {l : LVs} {q : Nat × Value} : q ∈ am_lv al l ↔ ∃ v, l[q.1]? = some (some v) ∧ q.2 = am_cv al v := by
  unfold am_lv
  rw [List.mem_filterMap]
  constructor
  · rintro ⟨i, hi, h⟩
    split at h
    · rename_i v hv
      cases h
      exact ⟨v, hv, rfl⟩
    · cases h
  · rintro ⟨v, hv, h2⟩
    obtain ⟨i, w⟩ := q
    refine ⟨i, ?_, ?_⟩
    · rw [List.mem_range]
      exact (List.getElem?_eq_some_iff.mp hv).1
    · dsimp only at hv h2 ⊢
      rw [hv, h2]
theorem am_LR_has {al : Nat → Nat} {ls : Array Slot} {nL : Nat} {l : LVs} (h : am_LR al ls nL l) : lv_has ls nL (am_lv al l) := ⟨h.2.1, h.2.2.1, fun q hq => by
  obtain ⟨v, hv, h2⟩ := am_lv_mem.mp hq
  rw [h2]
  exact h.2.2.2 q.1 v hv⟩
theorem am_cv_cat (al : Nat → Nat) (v : AV) : (am_cv al v).category = am_cat v := by
  rcases v with x | x | k <;> rfl
theorem am_kill_len (l : LVs) (i : Nat) : (am_kill l i).length = l.length := by
  unfold am_kill
  split
  · rfl
  · split <;> simp
theorem am_kill_get {l : LVs} {i j : Nat} {v : AV} (h : (am_kill l i)[j]? = some (some v)) : l[j]? = some (some v) ∧ ¬ (j + 1 = i ∧ am_cat v = 2) := by
  unfold am_kill at h
  split at h
  · exact ⟨h, fun q => by omega⟩
  · rename_i k
    split at h
    · rename_i x hx
      rw [List.getElem?_set] at h
      by_cases hk : k = j
      · subst hk
        simp only [if_true] at h
        split at h <;> simp at h
      · rw [if_neg hk] at h
        exact ⟨h, fun q => by omega⟩
    · rename_i hn
      refine ⟨h, fun q => ?_⟩
      obtain ⟨q1, q2⟩ := q
      have e : j = k := by omega
      subst e
      rcases v with x | x | y
      · cases q2
      · exact hn x h
      · cases q2
theorem am_LR_set1 {al : Nat → Nat} {ls ls' : Array Slot} {nL i : Nat} {l : LVs} {v : AV} (h : am_LR al ls nL l)
    (h' : lv_has ls' nL ((i, am_cv al v) :: (am_lv al l).filter (fun q => !(q.1 == i) && !(q.1 + 1 == i && q.2.category == 2)))) : am_LR al ls' nL ((am_kill l i).set i (some v)) := by
  refine ⟨by rw [List.length_set, am_kill_len]; exact h.1, h'.1, h'.2.1, fun j w hj => ?_⟩
  rw [List.getElem?_set] at hj
  by_cases hi : i = j
  · subst hi
    rw [if_pos rfl] at hj
    split at hj
    · cases hj
      exact h'.2.2 _ List.mem_cons_self
    · cases hj
  · rw [if_neg hi] at hj
    obtain ⟨h1, h2⟩ := am_kill_get hj
    refine h'.2.2 (j, am_cv al w) (List.mem_cons_of_mem _ (List.mem_filter.mpr ⟨am_lv_mem.mpr ⟨w, h1, rfl⟩, ?_⟩))
    have e1 : (j == i) = false := by simp; omega
    simp only [e1, Bool.not_false, Bool.true_and, am_cv_cat]
    by_cases h3 : j + 1 = i
    · have : am_cat w ≠ 2 := fun q => h2 ⟨h3, q⟩
      simp [this]
    · simp [h3]
theorem am_LR_set2 {al : Nat → Nat} {ls ls' : Array Slot} {nL i : Nat} {l : LVs} {v : AV} (h : am_LR al ls nL l)
    (h' : lv_has ls' nL ((i, am_cv al v) :: (am_lv al l).filter (fun q => !(q.1 == i) && (!(q.1 == i + 1) && !(q.1 + 1 == i && q.2.category == 2))))) : am_LR al ls' nL (((am_kill l i).set i (some v)).set (i + 1) none) := by
  refine ⟨by rw [List.length_set, List.length_set, am_kill_len]; exact h.1, h'.1, h'.2.1, fun j w hj => ?_⟩
  rw [List.getElem?_set] at hj
  by_cases hi1 : i + 1 = j
  · rw [if_pos hi1] at hj
    split at hj <;> simp at hj
  rw [if_neg hi1, List.getElem?_set] at hj
  by_cases hi : i = j
  · subst hi
    rw [if_pos rfl] at hj
    split at hj
    · cases hj
      exact h'.2.2 _ List.mem_cons_self
    · cases hj
  · rw [if_neg hi] at hj
    obtain ⟨h1, h2⟩ := am_kill_get hj
    refine h'.2.2 (j, am_cv al w) (List.mem_cons_of_mem _ (List.mem_filter.mpr ⟨am_lv_mem.mpr ⟨w, h1, rfl⟩, ?_⟩))
    have e1 : (j == i) = false := by simp; omega
    have e2 : (j == i + 1) = false := by simp; omega
    simp only [e1, e2, Bool.not_false, Bool.true_and, am_cv_cat]
    by_cases h3 : j + 1 = i
    · have : am_cat w ≠ 2 := fun q => h2 ⟨h3, q⟩
      simp [this]
    · simp [h3]
def am_wc (al : Nat → Nat) (kC : Nat → ClassId) (F : FF) (A : AA) (k : Nat) (c : LC) : Nat × va_E := (al k, match c with
  | .inl (ci, fs) => .inr (ci, fs.mapIdx (fun j t => match t with
    | none => Value.int (Int32.ofInt (F k j))
    | some r => Value.ref (al r)))
  | .inr (1, n) => .inl (kC 1, n.toNat, .inr (.inl (fun j => Int64.ofInt (A k j))))
  | .inr (kd, n) => .inl (kC kd, n.toNat, .inl (fun j => Int32.ofInt (A k j))))
def am_ws (al : Nat → Nat) (kC : Nat → ClassId) (lay : List LC) (F : FF) (A : AA) : va_W := lay.mapIdx (am_wc al kC F A)
def am_tys (kC : Nat → ClassId) : List (ClassId × FieldType) := [(kC 0, .int), (kC 1, .long), (kC 2, .byte), (kC 3, .boolean)]
theorem am_ws_get {al : Nat → Nat} {kC : Nat → ClassId} {lay : List LC} {F : FF} {A : AA} {o : Nat} {c : LC} (h : lay[o]? = some c) : (am_ws al kC lay F A)[o]? = some (am_wc al kC F A o c) := by
  unfold am_ws
  rw [List.getElem?_mapIdx, h]
  rfl
theorem am_ws_set {al : Nat → Nat} {kC : Nat → ClassId} {lay : List LC} {F F' : FF} {A A' : AA} {o : Nat} {c : LC} {e : Nat × va_E} (h : lay[o]? = some c) (he : e = am_wc al kC F' A' o c)
    (hk : ∀ k, k ≠ o → ∀ d, am_wc al kC F A k d = am_wc al kC F' A' k d) : (am_ws al kC lay F A).set o e = am_ws al kC lay F' A' := by
  apply List.ext_getElem?
  intro k
  unfold am_ws
  rw [List.getElem?_set, List.getElem?_mapIdx, List.getElem?_mapIdx]
  by_cases hko : o = k
  · subst hko
    have hlt : o < lay.length := (List.getElem?_eq_some_iff.mp h).1
    rw [if_pos rfl, h, if_pos (by rw [List.length_mapIdx]; exact hlt), he]
    rfl
  · rw [if_neg hko]
    cases hq : lay[k]? with
    | none => rfl
    | some d => simp only [Option.map_some]; rw [hk k (fun q => hko q.symm)]
theorem am_wc_F {al : Nat → Nat} {kC : Nat → ClassId} {F : FF} {A : AA} {o j : Nat} {v : Int} : ∀ k, k ≠ o → ∀ d, am_wc al kC F A k d = am_wc al kC (upF F o j v) A k d := by
  intro k hk d
  have e : ∀ b, upF F o j v k b = F k b := fun b => by simp [upF, hk]
  unfold am_wc
  simp only [e]
theorem am_wc_A {al : Nat → Nat} {kC : Nat → ClassId} {F : FF} {A : AA} {o : Nat} {i v : Int} : ∀ k, k ≠ o → ∀ d, am_wc al kC F A k d = am_wc al kC F (upA A o i v) k d := by
  intro k hk d
  have e : ∀ b, upA A o i v k b = A k b := fun b => by simp [upA, hk]
  unfold am_wc
  simp only [e]
/-- cells apart: by their places alone -/
def am_dis (al : Nat → Nat) (lay : List LC) (As : Nat → Prop) : Prop := (∀ i j, i < lay.length → j < lay.length → al i = al j → i = j) ∧ ∀ i, i < lay.length → As (al i)
theorem am_dis_D {al : Nat → Nat} {kC : Nat → ClassId} {lay : List LC} {As : Nat → Prop} (h : am_dis al lay As) (F : FF) (A : AA) : va_D As (am_ws al kC lay F A) := by
  have key : ∀ (k : Nat) (q : Nat × va_E), (am_ws al kC lay F A)[k]? = some q → k < lay.length ∧ q.1 = al k := by
    intro k q hq
    unfold am_ws at hq
    rw [List.getElem?_mapIdx] at hq
    cases hc : lay[k]? with
    | none => rw [hc] at hq; cases hq
    | some c =>
      rw [hc] at hq
      cases hq
      exact ⟨(List.getElem?_eq_some_iff.mp hc).1, rfl⟩
  refine ⟨fun i j p q hp hq e => ?_, fun k q hq => ?_⟩
  · obtain ⟨h1, h2⟩ := key i p hp
    obtain ⟨h3, h4⟩ := key j q hq
    exact h.1 i j h1 h3 (by rw [← h2, ← h4, e])
  · obtain ⟨h1, h2⟩ := key k q hq
    rw [h2]
    exact h.2 k h1
theorem am_D_dis {al : Nat → Nat} {kC : Nat → ClassId} {lay : List LC} {As : Nat → Prop} {F : FF} {A : AA} (h : va_D As (am_ws al kC lay F A)) : am_dis al lay As := by
  have key : ∀ k, k < lay.length → ∃ q, (am_ws al kC lay F A)[k]? = some q ∧ q.1 = al k := fun k hk => ⟨_, am_ws_get (List.getElem?_eq_getElem hk), rfl⟩
  refine ⟨fun i j hi hj e => ?_, fun i hi => ?_⟩
  · obtain ⟨p, h1, h2⟩ := key i hi
    obtain ⟨q, h3, h4⟩ := key j hj
    exact h.1 i j p q h1 h3 (by rw [h2, h4, e])
  · obtain ⟨p, h1, h2⟩ := key i hi
    rw [← h2]
    exact h.2 i p h1
theorem o32 (x : Int32) : x = Int32.ofInt x.toInt := (Int32.ofInt_toInt x).symm
theorem o64 (x : Int64) : x = Int64.ofInt x.toInt := (Int64.ofInt_toInt x).symm
theorem w32_lt (a b : Int) : Int32.ofInt a < Int32.ofInt b ↔ w32 a < w32 b := Int32.lt_iff_toInt_lt
theorem w32_le (a b : Int) : Int32.ofInt a ≤ Int32.ofInt b ↔ ¬ w32 b < w32 a := by
  rw [Int32.le_iff_toInt_le]; unfold w32; omega
theorem w32_inj (a b : Int) : Int32.ofInt a = Int32.ofInt b ↔ w32 a = w32 b := Int32.toInt_inj.symm
theorem w64_lt (a b : Int) : Int64.ofInt a < Int64.ofInt b ↔ w64 a < w64 b := Int64.lt_iff_toInt_lt
theorem w64_inj (a b : Int) : Int64.ofInt a = Int64.ofInt b ↔ w64 a = w64 b := Int64.toInt_inj.symm
theorem am_in {i n : Int} (h : 0 ≤ w32 i ∧ w32 i < n) : vp_in (Int32.ofInt i) n.toNat ∧ (((Int32.ofInt i).toNatClampNeg : Nat) : Int) = w32 i := by
  refine ⟨vp_in_iff.mpr ⟨h.1, ?_⟩, ?_⟩
  · have : (Int32.ofInt i).toInt = w32 i := rfl
    rw [this]; omega
  · have e : (Int32.ofInt i).toNatClampNeg = (w32 i).toNat := rfl
    rw [e]; omega
theorem am_updI {A : AA} {o : Nat} {i v : Int} {k : Nat} (hk : (k : Int) = i) : upd (fun j : Nat => Int32.ofInt (A o j)) k (Int32.ofInt v) = fun j : Nat => Int32.ofInt (upA A o i v o j) := by
  funext j
  unfold upd upA
  by_cases h : j = k
  · subst h; rw [if_pos rfl, if_pos ⟨rfl, hk⟩]
  · rw [if_neg h, if_neg (fun q => h (by have := q.2; omega))]
theorem am_updL {A : AA} {o : Nat} {i v : Int} {k : Nat} (hk : (k : Int) = i) : vp_updL (fun j : Nat => Int64.ofInt (A o j)) k (Int64.ofInt v) = fun j : Nat => Int64.ofInt (upA A o i v o j) := by
  funext j
  unfold vp_updL upA
  by_cases h : j = k
  · subst h; rw [if_pos rfl, if_pos ⟨rfl, hk⟩]
  · rw [if_neg h, if_neg (fun q => h (by have := q.2; omega))]
/-! what a decoded row must be -/
def am_one (pc : Nat) (off : Int) (ts : List Nat) : Bool := match ts with
  | [t] => decide ((pc : Int) + off = (t : Int))
  | _ => false
def am_swok (pc : Nat) : List Int → List Nat → Bool
  | [], [] => true
  | o :: os, t :: ts => decide ((pc : Int) + o = (t : Int)) && am_swok pc os ts
  | _, _ => false
def am_iok (pc : Nat) (i : Instr) (nx : Nat) (ts : List Nat) : Bool := match i with
  | .iconst _ | .lconst _ | .iload_n _ | .lload_n _ | .aload_n _ | .istore_n _ | .lstore_n _ | .astore_n _ => Nat.beq nx (pc + 1)
  | .iadd | .isub | .imul | .ineg | .idiv | .irem | .iand | .ior | .ishl | .ishr | .iushr => Nat.beq nx (pc + 1)
  | .ladd | .lsub | .lmul | .lneg | .ldiv | .lrem | .lor | .lshl | .lshr | .lushr | .lcmp => Nat.beq nx (pc + 1)
  | .i2l | .l2i | .i2b | .i2c | .pop | .dup | .dup2 | .arraylength | .iaload | .baload | .laload | .iastore | .lastore | .bastore | .ireturn | .lreturn | .return_ => Nat.beq nx (pc + 1)
  | .bipush n => Nat.beq nx (pc + 2) && decide ((Int8.ofInt n).toInt32 = Int32.ofInt n)
  | .sipush n => Nat.beq nx (pc + 3) && decide ((Int16.ofInt n).toInt32 = Int32.ofInt n)
  | .ldc _ | .iload _ | .lload _ | .aload _ | .istore _ | .lstore _ | .astore _ => Nat.beq nx (pc + 2)
  | .ldc_w _ | .ldc2_w _ | .new _ | .iinc _ _ | .getfield _ | .putfield _ | .invokevirtual _ | .invokestatic _ => Nat.beq nx (pc + 3)
  | .goto off | .if_icmp _ off | .ifCond _ off => Nat.beq nx (pc + 3) && am_one pc off ts
  | .tableswitch d lo hi offs => match ts with
    | t :: l => decide ((pc : Int) + d = (t : Int)) && am_swok pc offs.toList l && decide (hi = lo + offs.size - 1) && decide (-2147483648 ≤ lo) && decide (hi < 2147483648)
    | [] => false
  | _ => false
def am_cok (cc : ByteArray) (pc : Nat) (q : CI) : Bool := (match decode cc pc with
  | .ok (i, k) => decide (i = q.1) && Nat.beq q.2.1 (pc + k)
  | .error _ => false) && am_iok pc q.1 q.2.1 q.2.2
theorem am_cok_ok {cc : ByteArray} {pc : Nat} {i : Instr} {nx : Nat} {ts : List Nat} (h : am_cok cc pc (i, nx, ts) = true) : ∃ k, decode cc pc = .ok (i, k) ∧ nx = pc + k ∧ am_iok pc i nx ts = true := by
  unfold am_cok at h
  rw [Bool.and_eq_true] at h
  obtain ⟨h1, h2⟩ := h
  split at h1
  · rename_i i' k' hd
    rw [Bool.and_eq_true] at h1
    obtain ⟨a, b⟩ := h1
    have a := of_decide_eq_true a
    dsimp only at a b
    subst a
    exact ⟨k', hd, Nat.eq_of_beq_eq_true b, h2⟩
  · cases h1
/-- a table of rows: the bytes have them -/
def am_tok (cc : ByteArray) (code : Nat → Option CI) (n : Nat) : Bool := (List.range n).all fun pc => match code pc with
  | some q => am_cok cc pc q
  | none => true
theorem am_tok_ok {cc : ByteArray} {code : Nat → Option CI} {n : Nat} (h : am_tok cc code n = true) (hn : ∀ pc, n ≤ pc → code pc = none) {pc : Nat} {i : Instr} {nx : Nat} {ts : List Nat} (hc : code pc = some (i, nx, ts)) : am_cok cc pc (i, nx, ts) = true := by
  have hlt : pc < n := by
    rcases Nat.lt_or_ge pc n with q | q
    · exact q
    · rw [hn pc q] at hc; cases hc
  have h1 := List.all_eq_true.mp h pc (List.mem_range.mpr hlt)
  rw [hc] at h1
  exact h1
end
section
/-! one instruction of the abstract machine is sound -/
section AMO
variable {p : Program} {l : Launch} {e : Env} {R : Room} {s : State} {m : MethodId} {args : Array Value} {below : List Frame} {meth : Method} {c : Code} {Q : State → Prop}
def am_W (p : Program) (l : Launch) (e : Env) (R : Room) (s : State) (m : MethodId) (args : Array Value) (below : List Frame) (meth : Method) (c : Code) (Q : State → Prop) (nL : Nat) (D : va_G) (al : Nat → Nat) (kC : Nat → ClassId) (layW : List LC) (As : Nat → Prop) (cb sb mcO : Nat) : REC := fun pc ls st F A u =>
  u ≤ mcO → ∀ (H : Heap) (locs : List Loc) (lsC : Array Slot), am_LR al lsC nL ls → va_P D vwCl (am_ws al kC layW F A) H → va_S As s.heap H locs → W p l e R s m args below meth c H locs (cb + u) (sb + 16 * u) Q (F0 m pc lsC (st.map (am_cv al)))
theorem am_p1_ok {st : List AV} {k : Int → List AV → Prop} (h : am_p1 st k) : ∃ a r, st = vI a :: r ∧ k a r := by
  unfold am_p1 at h
  split at h
  · exact ⟨_, _, rfl, h⟩
  · exact h.elim
theorem am_p2_ok {st : List AV} {k : Int → Int → List AV → Prop} (h : am_p2 st k) : ∃ a b r, st = vI b :: vI a :: r ∧ k a b r := by
  unfold am_p2 at h
  split at h
  · exact ⟨_, _, _, rfl, h⟩
  · exact h.elim
theorem am_q1_ok {st : List AV} {k : Int → List AV → Prop} (h : am_q1 st k) : ∃ a r, st = vL a :: r ∧ k a r := by
  unfold am_q1 at h
  split at h
  · exact ⟨_, _, rfl, h⟩
  · exact h.elim
theorem am_q2_ok {st : List AV} {k : Int → Int → List AV → Prop} (h : am_q2 st k) : ∃ a b r, st = vL b :: vL a :: r ∧ k a b r := by
  unfold am_q2 at h
  split at h
  · exact ⟨_, _, _, rfl, h⟩
  · exact h.elim
theorem am_pR_ok {st : List AV} {k : Nat → List AV → Prop} (h : am_pR st k) : ∃ a r, st = vR a :: r ∧ k a r := by
  unfold am_pR at h
  split at h
  · exact ⟨_, _, rfl, h⟩
  · exact h.elim
theorem am_nth_get : ∀ (l : LVs) (i : Nat) (v : AV), am_nth l i = some v → l[i]? = some (some v)
  | [], _, _, h => by cases h
  | a :: _, 0, v, h => by
    have h : a = some v := h
    rw [h]; rfl
  | _ :: l, i + 1, v, h => by
    rw [List.getElem?_cons_succ]
    exact am_nth_get l i v h
theorem am_gI_ok {ls : LVs} {i : Nat} {k : Int → Prop} (h : am_gI ls i k) : ∃ x, ls[i]? = some (some (vI x)) ∧ k x := by
  unfold am_gI at h
  split at h
  · rename_i x hx; exact ⟨x, am_nth_get _ _ _ hx, h⟩
  · exact h.elim
theorem am_gL_ok {ls : LVs} {i : Nat} {k : Int → Prop} (h : am_gL ls i k) : ∃ x, ls[i]? = some (some (vL x)) ∧ k x := by
  unfold am_gL at h
  split at h
  · rename_i x hx; exact ⟨x, am_nth_get _ _ _ hx, h⟩
  · exact h.elim
theorem am_gR_ok {ls : LVs} {i : Nat} {k : Nat → Prop} (h : am_gR ls i k) : ∃ x, ls[i]? = some (some (vR x)) ∧ k x := by
  unfold am_gR at h
  split at h
  · rename_i x hx; exact ⟨x, am_nth_get _ _ _ hx, h⟩
  · exact h.elim
theorem am_cond_ok {b : Bool} {P : Prop} (h : cond b P False) : b = true ∧ P := by
  cases b
  · exact h.elim
  · exact ⟨rfl, h⟩
theorem am_killk_ok : ∀ (l : LVs) (i : Nat) (k : LVs → Prop), am_killk l i k → k (am_kill l i)
  | l, 0, k, h => by unfold am_killk at h; exact h
  | [], i + 1, k, h => by
    unfold am_killk at h
    exact h
  | a :: l, 1, k, h => by
    unfold am_killk at h
    unfold am_kill
    simp only [List.getElem?_cons_zero]
    split at h
    · exact h
    · rename_i hn
      split
      · rename_i x hx
        exact absurd (Option.some.inj hx) (hn x)
      · exact h
  | a :: l, i + 2, k, h => by
    unfold am_killk at h
    have := am_killk_ok l (i + 1) _ h
    have e : am_kill (a :: l) (i + 2) = a :: am_kill l (i + 1) := by
      unfold am_kill
      simp only [List.getElem?_cons_succ]
      split
      · rename_i x hx
        rw [hx]; rfl
      · rfl
    rw [e]; exact this
theorem am_setk_ok : ∀ (l : LVs) (i : Nat) (v : Option AV) (k : LVs → Prop), am_setk l i v k → i < l.length ∧ k (l.set i v)
  | [], _, _, _, h => by unfold am_setk at h; exact h.elim
  | a :: l, 0, v, k, h => by
    unfold am_setk at h
    exact ⟨Nat.zero_lt_succ _, h⟩
  | a :: l, i + 1, v, k, h => by
    unfold am_setk at h
    have := am_setk_ok l i v _ h
    exact ⟨Nat.succ_lt_succ this.1, this.2⟩
theorem am_st1_ok {ls : LVs} {i : Nat} {v : AV} {k : LVs → Prop} (h : am_st1 ls i v k) : i < ls.length ∧ k ((am_kill ls i).set i (some v)) := by
  have h1 := am_killk_ok _ _ _ h
  have h2 := am_setk_ok _ _ _ _ h1
  rw [am_kill_len] at h2
  exact h2
theorem am_st2_ok {ls : LVs} {i : Nat} {v : AV} {k : LVs → Prop} (h : am_st2 ls i v k) : i + 1 < ls.length ∧ k (((am_kill ls i).set i (some v)).set (i + 1) none) := by
  have h1 := am_killk_ok _ _ _ h
  have h2 := am_setk_ok _ _ _ _ h1
  have h3 := am_setk_ok _ _ _ _ h2.2
  rw [List.length_set, am_kill_len] at h3
  exact h3
theorem am_tgt_ok {ts : List Nat} {k : Nat → Prop} (h : am_tgt ts k) : ∃ t, ts = [t] ∧ k t := by
  unfold am_tgt at h
  split at h
  · exact ⟨_, rfl, h⟩
  · exact h.elim
theorem am_obj_ok {lay : List LC} {o : Nat} {k : Nat → List (Option Nat) → Prop} (h : am_obj lay o k) : ∃ ci fs, lay[o]? = some (.inl (ci, fs)) ∧ k ci fs := by
  unfold am_obj at h
  split at h
  · rename_i ci fs hx; exact ⟨ci, fs, hx, h⟩
  · exact h.elim
theorem am_arr_ok {lay : List LC} {o : Nat} {k : Nat → Int → Prop} (h : am_arr lay o k) : ∃ kd n, lay[o]? = some (.inr (kd, n)) ∧ k kd n := by
  unfold am_arr at h
  split at h
  · rename_i ci fs hx; exact ⟨ci, fs, hx, h⟩
  · exact h.elim
/-- a field's row of the constant pool -/
def am_fok (own : String) (Ts : List Cond) (k : Nat) (ci j : Nat) (w : Bool) : Prop := ∃ (C : String) (T : u_T) (N : Nat) (ty0 : Nat → FieldType), vwCl[ci]? = some (C, T, N) ∧ j < N ∧ (∀ w ∈ u_ws C T N, w ∈ Ts) ∧ Cond.fieldLink own k (T j).1 (T j).2.1 (T j).2.2.1 ∈ Ts ∧ (∀ k, k < N → parseFieldDescriptor (T k).2.2.1 = some (ty0 k)) ∧ (∀ a, a < N → ∀ b, b < N → a ≠ b → (T a).2.1 ≠ (T b).2.1) ∧ (w = true → (T j).2.2.2 = false ∧ parseFieldDescriptor (T j).2.2.1 = some .int)
/-- the fixed things of a frame -/
def am_env (p : Program) (l : Launch) (e : Env) (R : Room) (s : State) (m : MethodId) (args : Array Value) (c : Code) (cc : ByteArray) (own : String) (nL : Nat) (D : va_G) (al : Nat → Nat) (kC : Nat → ClassId) (layW : List LC) (As : Nat → Prop) (cb sb mcO : Nat) (Ts : List Cond) : Prop :=
  p.tables.exec = Jvm.exec ∧ c.code = cc ∧ c.maxLocals = nL ∧ s.vm.findClass own = some m.cls ∧ (∀ w ∈ Ts, w.before args s = true) ∧ va_K D vwCl (am_tys kC) s ∧ am_dis al layW As ∧ (∀ q, s.heap.size ≤ q → As q) ∧ cb + mcO ≤ R.cells ∧ sb + 16 * mcO ≤ R.slots
theorem am_pre {lay layW : List LC} (h : lay <+: layW) {o : Nat} {c : LC} (hc : lay[o]? = some c) : layW[o]? = some c := by
  obtain ⟨t, rfl⟩ := h
  rw [List.getElem?_append_left (List.getElem?_eq_some_iff.mp hc).1]
  exact hc
theorem am_sw_ok {x : Int} {rec : Nat → Prop} : ∀ (ts : List Nat) (lo : Int), am_sw x rec lo ts → ∀ (k : Nat) (t : Nat), ts[k]? = some t → w32 x = lo + k → rec t
  | [], _, _, _, _, h, _ => by cases h
  | a :: as, lo, h, 0, t, ht, hx => by
    cases ht
    exact h.1 (by rw [hx]; omega)
  | a :: as, lo, h, k + 1, t, ht, hx => am_sw_ok as (lo + 1) h.2 k t (by simpa using ht) (by rw [hx]; omega)
theorem am_swok_ok {pc : Nat} : ∀ (os : List Int) (ts : List Nat), am_swok pc os ts = true → ∀ (k : Nat) (o : Int), os[k]? = some o → ∃ t, ts[k]? = some t ∧ (pc : Int) + o = (t : Int)
  | [], _, _, _, _, h => by cases h
  | o :: os, [], h, _, _, _ => by cases h
  | o :: os, t :: ts, h, k, o', ho => by
    unfold am_swok at h
    rw [Bool.and_eq_true] at h
    match k, ho with
    | 0, ho => cases ho; exact ⟨t, rfl, of_decide_eq_true h.1⟩
    | k + 1, ho =>
      obtain ⟨t', h1, h2⟩ := am_swok_ok os ts h.2 k o' (by simpa using ho)
      exact ⟨t', by simpa using h1, h2⟩
theorem o_min (a b : Int) : (if Int32.ofInt b < Int32.ofInt a then Int32.ofInt b else Int32.ofInt a) = Int32.ofInt (x_min a b) := by
  unfold x_min
  by_cases h : w32 b < w32 a
  · rw [if_pos h, if_pos ((w32_lt b a).mpr h)]
  · rw [if_neg h, if_neg (fun q => h ((w32_lt b a).mp q))]
theorem o_max (a b : Int) : (if Int32.ofInt a < Int32.ofInt b then Int32.ofInt b else Int32.ofInt a) = Int32.ofInt (x_max a b) := by
  unfold x_max
  by_cases h : w32 a < w32 b
  · rw [if_pos h, if_pos ((w32_lt a b).mpr h)]
  · rw [if_neg h, if_neg (fun q => h ((w32_lt a b).mp q))]
theorem o_zero : (0 : Int32) = Int32.ofInt 0 := rfl
theorem w32_0 : w32 0 = 0 := rfl
theorem o_abs (a : Int) : (if 0 ≤ Int32.ofInt a then Int32.ofInt a else 0 - Int32.ofInt a) = Int32.ofInt (x_abs a) := by
  unfold x_abs
  by_cases h : 0 ≤ w32 a
  · rw [if_pos h, if_pos]
    rw [o_zero, w32_le, w32_0]; omega
  · rw [if_neg h, if_neg]
    · rw [o_zero, ← Int32.ofInt_sub, Int.zero_sub]
    · rw [o_zero, w32_le, w32_0]; omega
theorem o_cmp (a b : Int) : lg_cmp (Int64.ofInt a) (Int64.ofInt b) = Int32.ofInt (y_cmp a b) := by
  unfold y_cmp lg_cmp
  by_cases h : w64 b < w64 a
  · rw [if_pos h, if_pos ((w64_lt b a).mpr h)]; rfl
  · rw [if_neg h, if_neg (fun q => h ((w64_lt b a).mp q))]
    by_cases h2 : w64 a = w64 b
    · rw [if_pos h2, if_pos ((w64_inj a b).mpr h2)]; rfl
    · rw [if_neg h2, if_neg (fun q => h2 ((w64_inj a b).mp q))]; rfl
theorem w64_0 : w64 0 = 0 := rfl
theorem o64_ne {b : Int} (h : w64 b ≠ 0) : ¬ Int64.ofInt b = 0 := fun q => h (by rw [← w64_0]; exact (w64_inj b 0).mp q)
theorem o32_ne {b : Int} (h : w32 b ≠ 0) : ¬ Int32.ofInt b = 0 := fun q => h (by rw [← w32_0]; exact (w32_inj b 0).mp q)
theorem o_l2i (a : Int) : (Int64.ofInt a).toInt32 = Int32.ofInt a := by
  first | exact Int64.toInt32_ofInt a | simp
theorem o_i2l (a : Int) : (Int32.ofInt a).toInt64 = Int64.ofInt (w32 a) := by
  unfold w32
  first | exact (Int64.ofInt_int32ToInt _).symm | simp
def am_lok (lay : List LC) : Bool := lay.all fun c => match c with
  | .inr (kd, n) => Nat.ble kd 3 && decide (0 ≤ n)
  | .inl _ => true
theorem am_lok_ok {lay : List LC} (h : am_lok lay = true) {o kd : Nat} {n : Int} (hc : lay[o]? = some (.inr (kd, n))) : kd ≤ 3 ∧ 0 ≤ n := by
  have h1 := List.all_eq_true.mp h _ (List.mem_of_getElem? hc)
  dsimp only at h1
  rw [Bool.and_eq_true] at h1
  exact ⟨Nat.le_of_ble_eq_true h1.1, of_decide_eq_true h1.2⟩
theorem am_put_eq {al : Nat → Nat} {kC : Nat → ClassId} {F : FF} {A : AA} {o ci j : Nat} {fs : List (Option Nat)} {v : Int} (hj : fs[j]? = some none) :
    ((al o, .inr (ci, (fs.mapIdx (fun j t => match t with
      | none => Value.int (Int32.ofInt (F o j))
      | some r => Value.ref (al r))).set j (.int (Int32.ofInt v)))) : Nat × va_E) = am_wc al kC (upF F o j v) A o (.inl (ci, fs)) := by
  unfold am_wc
  congr 3
  apply List.ext_getElem?
  intro k
  rw [List.getElem?_set, List.getElem?_mapIdx, List.getElem?_mapIdx]
  have hlt := (List.getElem?_eq_some_iff.mp hj).1
  by_cases hk : j = k
  · subst hk
    rw [if_pos rfl, if_pos (by rw [List.length_mapIdx]; exact hlt), hj]
    simp [upF]
  · rw [if_neg hk]
    cases fs[k]? with
    | none => rfl
    | some t =>
      cases t with
      | none =>
        have hk' : ¬ k = j := fun q => hk q.symm
        simp [upF, hk']
      | some r => rfl
theorem am_ofN {n : Int} (h : 0 ≤ n) : Int32.ofNat n.toNat = Int32.ofInt n := by
  obtain ⟨k, rfl⟩ := Int.eq_ofNat_of_zero_le h
  first | rfl | simp
theorem am_sum_eq (al : Nat → Nat) (r : List AV) : ((r.map (am_cv al)).map fun v => v.category).sum = am_sum r := by
  unfold am_sum
  rw [List.map_map]
  have : ((fun v : Value => v.category) ∘ am_cv al) = am_cat := by funext v; exact am_cv_cat al v
  rw [this]
  rfl
theorem am_cpy {A : AA} {a0 a : Nat} {sp dp n : Int} {s' d' n' : Nat} (h1 : (s' : Int) = sp) (h2 : (d' : Int) = dp) (h3 : (n' : Int) = n) :
    va_cpy (fun j : Nat => Int32.ofInt (A a0 j)) (fun j : Nat => Int32.ofInt (A a j)) s' d' n' = fun j : Nat => Int32.ofInt (cpA A a0 sp 0 dp n a a j) := by
  funext j
  unfold va_cpy cpA
  by_cases h : d' ≤ j ∧ j < d' + n'
  · rw [if_pos h, if_pos ⟨rfl, by omega, by omega⟩]
    have e : ((s' + (j - d') : Nat) : Int) = sp + ((j : Int) - dp) := by omega
    show Int32.ofInt (A a0 ((s' + (j - d') : Nat) : Int)) = _
    rw [e]
  · rw [if_neg h, if_neg (fun q => h ⟨by omega, by omega⟩)]
theorem am_wc_C {al : Nat → Nat} {kC : Nat → ClassId} {F : FF} {A : AA} {a0 o : Nat} {sp dp n : Int} : ∀ k, k ≠ o → ∀ d, am_wc al kC F A k d = am_wc al kC F (cpA A a0 sp 0 dp n o) k d := by
  intro k hk d
  have e : ∀ b, cpA A a0 sp 0 dp n o k b = A k b := fun b => by simp [cpA, hk]
  unfold am_wc
  simp only [e]
theorem am_nf : nativeFrameWords "java/lang/System" "arraycopy" 5 ≤ 89 := by decide +kernel
theorem am_bq {a b : Nat} (h : Nat.beq a b = true) : a = b := Nat.eq_of_beq_eq_true h
set_option maxHeartbeats 4000000 in
theorem am_ins_ok {cc : ByteArray} {own : String} {nL : Nat} {D : va_G} {al : Nat → Nat} {kC : Nat → ClassId} {layW : List LC} {As : Nat → Prop} {cb sb : Nat} {Ts : List Cond} {x : CX} {K : KK} {rec : REC}
    (hE : am_env p l e R s m args c cc own nL D al kC layW As cb sb (cxMc x) Ts)
    (hrec : ∀ pc ls st F A u, rec pc ls st F A u → am_W p l e R s m args below meth c Q nL D al kC layW As cb sb (cxMc x) pc ls st F A u)
    (hpre : cxLay x <+: layW) (hlok : am_lok (cxLay x) = true)
    (hfld : ∀ k ci j w, cxFld x k = some (ci, j, w) → am_fok own Ts k ci j w)
    (hcst : ∀ k v, cxCst x k = some v → Cond.constant own k (Int32.ofInt v) ∈ Ts)
    (hcsl : ∀ k v, cxCsL x k = some v → Cond.constantLong own k (Int64.ofInt v) ∈ Ts)
    (hmth : ∀ k, (cxMth x k = 1 → Cond.methodLink own k Lib.Math.min.name ∈ Ts ∧ Cond.static Lib.Math.min.name ∈ Ts ∧ Cond.initialized "java/lang/Math" ∈ Ts ∧ Cond.code Lib.Math.min.name Lib.Math.min.code 2 (some .int) ∈ Ts) ∧
      (cxMth x k = 2 → Cond.methodLink own k Lib.Math.max.name ∈ Ts ∧ Cond.static Lib.Math.max.name ∈ Ts ∧ Cond.initialized "java/lang/Math" ∈ Ts ∧ Cond.code Lib.Math.max.name Lib.Math.max.code 2 (some .int) ∈ Ts) ∧
      (cxMth x k = 3 → Cond.methodLink own k Lib.Math.abs.name ∈ Ts ∧ Cond.static Lib.Math.abs.name ∈ Ts ∧ Cond.initialized "java/lang/Math" ∈ Ts ∧ Cond.code Lib.Math.abs.name Lib.Math.abs.code 1 (some .int) ∈ Ts) ∧
      (cxMth x k = 4 → Cond.methodLink own k arraycopyName ∈ Ts ∧ Cond.native arraycopyName ∈ Ts ∧ Cond.static arraycopyName ∈ Ts ∧ Cond.initialized "java/lang/System" ∈ Ts) ∧
      (cxMth x k ≠ 0 → 1 ≤ R.frames ∧ 8 + 100 ≤ R.locals))
    (hscr : ∀ L xs, cxScr x = some (L, xs) → ∃ (Ln : Nat) (xn : Nat → Int32), L = Ln ∧ Ln < 2147483648 ∧ (∀ j : Nat, xs j = (xn j).toInt) ∧ va_X (al 999) Ln xn s s.heap ∧ al 999 < s.heap.size ∧ ¬ As (al 999))
    (hspc : ∀ pc b, cxSpc x pc = some b → ∀ ls st F A u, b rec K ls st F A u → am_W p l e R s m args below meth c Q nL D al kC layW As cb sb (cxMc x) pc ls st F A u)
    (hcal : ∀ (k nx : Nat) (i : Instr) (pc : Nat) (e1 : CE), cxCal x k = some e1 → decode cc pc = .ok (i, 3) → (i = .invokevirtual k ∨ i = .invokestatic k) → (i = .invokestatic k ↔ ceC e1 = none) → ∀ ls st F A u, am_call (cxLay x) (cxThr x) (cxHnd x) (cxMc x) rec K (pc + 3) ls st F A u e1 → am_W p l e R s m args below meth c Q nL D al kC layW As cb sb (cxMc x) pc ls st F A u)
    (hret : ∀ pc o F A ls u i, (match o with | some (.inl a) => i = Instr.ireturn ∧ (cxRet x = some .int ∨ cxRet x = some .boolean ∧ (a = 0 ∨ a = 1)) | some (.inr (.inl _)) => i = Instr.lreturn ∧ cxRet x = some .long | some (.inr (.inr _)) => False | none => i = Instr.return_ ∧ cxRet x = none) → decode cc pc = .ok (i, 1) → K (some o) F A → am_W p l e R s m args below meth c Q nL D al kC layW As cb sb (cxMc x) pc ls o.toList F A u)
    {pc : Nat} {ls : LVs} {st : List AV} {F : FF} {A : AA} {u : Nat} {i : Instr} {nx : Nat} {ts : List Nat} (hc : am_cok cc pc (i, nx, ts) = true)
    (h : am_ins x rec K pc ls st F A u i nx ts) : am_W p l e R s m args below meth c Q nL D al kC layW As cb sb (cxMc x) pc ls st F A u := by
  obtain ⟨hx, hb, hml, hown, hts, hK, hdis, hA, hRc, hRs⟩ := id hE
  obtain ⟨k0, hd, rfl, hi⟩ := am_cok_ok hc
  intro hu H locs lsC hl hP hS
  have hD := am_dis_D (kC := kC) hdis F A
  cases i
  case iconst =>
    have hk : k0 = 1 := by have := am_bq hi; omega
    subst hk
    refine lv_iconst (v := Int32.ofInt _) hx hb hd rfl ?_
    exact hrec _ _ _ _ _ _ h hu _ _ _ hl hP hS
  case bipush =>
    have hi2 := (Bool.and_eq_true _ _).mp hi
    have hk : k0 = 2 := by have := am_bq hi2.1; omega
    subst hk
    refine lv_bipush (v := Int32.ofInt _) hx hb hd (of_decide_eq_true hi2.2) ?_
    exact hrec _ _ _ _ _ _ h hu _ _ _ hl hP hS
  case sipush =>
    have hi2 := (Bool.and_eq_true _ _).mp hi
    have hk : k0 = 3 := by have := am_bq hi2.1; omega
    subst hk
    refine lv_sipush (v := Int32.ofInt _) hx hb hd (of_decide_eq_true hi2.2) ?_
    exact hrec _ _ _ _ _ _ h hu _ _ _ hl hP hS
  case lconst =>
    have hk : k0 = 1 := by have := am_bq hi; omega
    subst hk
    rename_i n
    refine lv_lconst (v := Int64.ofInt (n.val : Nat)) hx hb hd rfl ?_
    exact hrec _ _ _ _ _ _ h hu _ _ _ hl hP hS
  case ldc =>
    unfold am_ins at h
    dsimp only at h
    split at h
    · rename_i v hv
      have hk : k0 = 2 := by have := am_bq hi; omega
      subst hk
      refine lv_ldc hx hb hown (hts _ (hcst _ _ hv)) hd ?_
      exact hrec _ _ _ _ _ _ h hu _ _ _ hl hP hS
    · unfold am_spc at h
      split at h
      · rename_i b hb2
        exact hspc _ _ hb2 _ _ _ _ _ h hu _ _ _ hl hP hS
      · exact h.elim
  case ldc_w =>
    unfold am_ins at h
    dsimp only at h
    split at h
    · rename_i v hv
      have hk : k0 = 3 := by have := am_bq hi; omega
      subst hk
      refine lv_ldcw hx hb hown (hts _ (hcst _ _ hv)) hd ?_
      exact hrec _ _ _ _ _ _ h hu _ _ _ hl hP hS
    · unfold am_spc at h
      split at h
      · rename_i b hb2
        exact hspc _ _ hb2 _ _ _ _ _ h hu _ _ _ hl hP hS
      · exact h.elim
  case new =>
    unfold am_ins at h
    dsimp only at h
    unfold am_spc at h
    split at h
    · rename_i b hb2
      exact hspc _ _ hb2 _ _ _ _ _ h hu _ _ _ hl hP hS
    · exact h.elim
  case ldc2_w =>
    unfold am_ins at h
    dsimp only at h
    split at h
    · rename_i v hv
      have hk : k0 = 3 := by have := am_bq hi; omega
      subst hk
      refine lv_ldc2 hx hb hown (hts _ (hcsl _ _ hv)) hd ?_
      exact hrec _ _ _ _ _ _ h hu _ _ _ hl hP hS
    · exact h.elim
  case iload =>
    have hk : k0 = 2 := by have := am_bq hi; omega
    subst hk
    replace h := am_gI_ok h
    obtain ⟨a, ha, h⟩ := h
    refine lv_iload hx hb hd (hl.2.2.2 _ _ ha) ?_
    exact hrec _ _ _ _ _ _ h hu _ _ _ hl hP hS
  case iload_n =>
    have hk : k0 = 1 := by have := am_bq hi; omega
    subst hk
    replace h := am_gI_ok h
    obtain ⟨a, ha, h⟩ := h
    refine lv_iload_n hx hb hd rfl (hl.2.2.2 _ _ ha) ?_
    exact hrec _ _ _ _ _ _ h hu _ _ _ hl hP hS
  case lload =>
    have hk : k0 = 2 := by have := am_bq hi; omega
    subst hk
    replace h := am_gL_ok h
    obtain ⟨a, ha, h⟩ := h
    refine lv_lload hx hb hd (hl.2.2.2 _ _ ha) ?_
    exact hrec _ _ _ _ _ _ h hu _ _ _ hl hP hS
  case lload_n =>
    have hk : k0 = 1 := by have := am_bq hi; omega
    subst hk
    replace h := am_gL_ok h
    obtain ⟨a, ha, h⟩ := h
    refine lv_lload_n hx hb hd rfl (hl.2.2.2 _ _ ha) ?_
    exact hrec _ _ _ _ _ _ h hu _ _ _ hl hP hS
  case aload =>
    have hk : k0 = 2 := by have := am_bq hi; omega
    subst hk
    replace h := am_gR_ok h
    obtain ⟨a, ha, h⟩ := h
    refine lv_aload hx hb hd (hl.2.2.2 _ _ ha) ?_
    exact hrec _ _ _ _ _ _ h hu _ _ _ hl hP hS
  case aload_n =>
    have hk : k0 = 1 := by have := am_bq hi; omega
    subst hk
    replace h := am_gR_ok h
    obtain ⟨a, ha, h⟩ := h
    refine lv_aload_n hx hb hd rfl (hl.2.2.2 _ _ ha) ?_
    exact hrec _ _ _ _ _ _ h hu _ _ _ hl hP hS
  case istore =>
    unfold am_ins at h
    dsimp only at h
    have hk : k0 = 2 := by have := am_bq hi; omega
    subst hk
    replace h := am_p1_ok h
    obtain ⟨a, r, rfl, h⟩ := h
    replace h := am_st1_ok h
    obtain ⟨h1, h⟩ := h
    refine lv_istore hx hb hd (am_LR_has hl) (by rw [← hl.1]; exact h1) rfl (fun ls' h' => ?_)
    exact hrec _ _ _ _ _ _ h hu _ _ _ (am_LR_set1 (v := .inl a) hl h') hP hS
  case istore_n =>
    unfold am_ins at h
    dsimp only at h
    have hk : k0 = 1 := by have := am_bq hi; omega
    subst hk
    replace h := am_p1_ok h
    obtain ⟨a, r, rfl, h⟩ := h
    replace h := am_st1_ok h
    obtain ⟨h1, h⟩ := h
    refine lv_istore_n hx hb hd rfl (am_LR_has hl) (by rw [← hl.1]; exact h1) rfl (fun ls' h' => ?_)
    exact hrec _ _ _ _ _ _ h hu _ _ _ (am_LR_set1 (v := .inl a) hl h') hP hS
  case astore =>
    unfold am_ins at h
    dsimp only at h
    have hk : k0 = 2 := by have := am_bq hi; omega
    subst hk
    replace h := am_pR_ok h
    obtain ⟨a, r, rfl, h⟩ := h
    replace h := am_st1_ok h
    obtain ⟨h1, h⟩ := h
    refine lv_astore hx hb hd (am_LR_has hl) (by rw [← hl.1]; exact h1) rfl (fun ls' h' => ?_)
    exact hrec _ _ _ _ _ _ h hu _ _ _ (am_LR_set1 (v := .inr (.inr a)) hl h') hP hS
  case astore_n =>
    unfold am_ins at h
    dsimp only at h
    have hk : k0 = 1 := by have := am_bq hi; omega
    subst hk
    replace h := am_pR_ok h
    obtain ⟨a, r, rfl, h⟩ := h
    replace h := am_st1_ok h
    obtain ⟨h1, h⟩ := h
    refine lv_astore_n hx hb hd rfl (am_LR_has hl) (by rw [← hl.1]; exact h1) rfl (fun ls' h' => ?_)
    exact hrec _ _ _ _ _ _ h hu _ _ _ (am_LR_set1 (v := .inr (.inr a)) hl h') hP hS
  case lstore =>
    unfold am_ins at h
    dsimp only at h
    have hk : k0 = 2 := by have := am_bq hi; omega
    subst hk
    replace h := am_q1_ok h
    obtain ⟨a, r, rfl, h⟩ := h
    replace h := am_st2_ok h
    obtain ⟨h1, h⟩ := h
    refine lv_lstore hx hb hd (am_LR_has hl) (by rw [← hl.1]; exact h1) rfl (fun ls' h' => ?_)
    exact hrec _ _ _ _ _ _ h hu _ _ _ (am_LR_set2 (v := .inr (.inl a)) hl h') hP hS
  case lstore_n =>
    unfold am_ins at h
    dsimp only at h
    have hk : k0 = 1 := by have := am_bq hi; omega
    subst hk
    replace h := am_q1_ok h
    obtain ⟨a, r, rfl, h⟩ := h
    replace h := am_st2_ok h
    obtain ⟨h1, h⟩ := h
    refine lv_lstore_n hx hb hd rfl (am_LR_has hl) (by rw [← hl.1]; exact h1) rfl (fun ls' h' => ?_)
    exact hrec _ _ _ _ _ _ h hu _ _ _ (am_LR_set2 (v := .inr (.inl a)) hl h') hP hS
  case iinc =>
    have hk : k0 = 3 := by have := am_bq hi; omega
    subst hk
    rename_i iv n
    replace h := am_gI_ok h
    obtain ⟨a, ha, h⟩ := h
    replace h := am_st1_ok h
    obtain ⟨h1, h⟩ := h
    have hm : (iv, Value.int (Int32.ofInt a)) ∈ am_lv al ls := am_lv_mem.mpr ⟨vI a, ha, rfl⟩
    obtain ⟨q, hq⟩ := List.getElem?_of_mem hm
    refine lv_iinc (k := q) (v := Int32.ofInt (a + n)) hx hb hd (am_LR_has hl) hq (by rw [Int32.ofInt_add]) (by rw [← hl.1]; exact h1) rfl (fun ls' h' => ?_)
    exact hrec _ _ _ _ _ _ h hu _ _ _ (am_LR_set1 (v := .inl (a + n)) hl h') hP hS
  case iadd =>
    have hk : k0 = 1 := by have := am_bq hi; omega
    subst hk
    replace h := am_p2_ok h
    obtain ⟨a, b, r, rfl, h⟩ := h
    refine lv_iadd hx hb hd ?_
    rw [← Int32.ofInt_add]
    exact hrec _ _ _ _ _ _ h hu _ _ _ hl hP hS
  case isub =>
    have hk : k0 = 1 := by have := am_bq hi; omega
    subst hk
    replace h := am_p2_ok h
    obtain ⟨a, b, r, rfl, h⟩ := h
    refine lv_isub hx hb hd ?_
    rw [← Int32.ofInt_sub]
    exact hrec _ _ _ _ _ _ h hu _ _ _ hl hP hS
  case imul =>
    have hk : k0 = 1 := by have := am_bq hi; omega
    subst hk
    replace h := am_p2_ok h
    obtain ⟨a, b, r, rfl, h⟩ := h
    refine lv_imul hx hb hd ?_
    rw [← Int32.ofInt_mul]
    exact hrec _ _ _ _ _ _ h hu _ _ _ hl hP hS
  case iand =>
    have hk : k0 = 1 := by have := am_bq hi; omega
    subst hk
    replace h := am_p2_ok h
    obtain ⟨a, b, r, rfl, h⟩ := h
    refine lv_iand hx hb hd ?_
    rw [o32 (_ &&& _)]
    exact hrec _ _ _ _ _ _ h hu _ _ _ hl hP hS
  case ior =>
    have hk : k0 = 1 := by have := am_bq hi; omega
    subst hk
    replace h := am_p2_ok h
    obtain ⟨a, b, r, rfl, h⟩ := h
    refine lv_ior hx hb hd ?_
    rw [o32 (_ ||| _)]
    exact hrec _ _ _ _ _ _ h hu _ _ _ hl hP hS
  case ishl =>
    have hk : k0 = 1 := by have := am_bq hi; omega
    subst hk
    replace h := am_p2_ok h
    obtain ⟨a, b, r, rfl, h⟩ := h
    refine lv_ishl hx hb hd ?_
    rw [o32 (_ <<< _)]
    exact hrec _ _ _ _ _ _ h hu _ _ _ hl hP hS
  case ishr =>
    have hk : k0 = 1 := by have := am_bq hi; omega
    subst hk
    replace h := am_p2_ok h
    obtain ⟨a, b, r, rfl, h⟩ := h
    refine lv_ishr hx hb hd ?_
    rw [o32 (_ >>> _)]
    exact hrec _ _ _ _ _ _ h hu _ _ _ hl hP hS
  case iushr =>
    have hk : k0 = 1 := by have := am_bq hi; omega
    subst hk
    replace h := am_p2_ok h
    obtain ⟨a, b, r, rfl, h⟩ := h
    refine lv_iushr (v := Int32.ofInt (x_ushr a b)) hx hb hd (o32 _) ?_
    exact hrec _ _ _ _ _ _ h hu _ _ _ hl hP hS
  case ineg =>
    have hk : k0 = 1 := by have := am_bq hi; omega
    subst hk
    replace h := am_p1_ok h
    obtain ⟨a, r, rfl, h⟩ := h
    refine lv_ineg hx hb hd ?_
    rw [← Int32.ofInt_neg]
    exact hrec _ _ _ _ _ _ h hu _ _ _ hl hP hS
  case idiv =>
    have hk : k0 = 1 := by have := am_bq hi; omega
    subst hk
    replace h := am_p2_ok h
    obtain ⟨a, b, r, rfl, h0, h⟩ := h
    refine lv_idiv hx hb hd (o32_ne h0) ?_
    rw [o32 (_ / _)]
    exact hrec _ _ _ _ _ _ h hu _ _ _ hl hP hS
  case irem =>
    have hk : k0 = 1 := by have := am_bq hi; omega
    subst hk
    replace h := am_p2_ok h
    obtain ⟨a, b, r, rfl, h0, h⟩ := h
    refine lv_irem hx hb hd (o32_ne h0) ?_
    rw [o32 (_ - _)]
    exact hrec _ _ _ _ _ _ h hu _ _ _ hl hP hS
  case ladd =>
    have hk : k0 = 1 := by have := am_bq hi; omega
    subst hk
    replace h := am_q2_ok h
    obtain ⟨a, b, r, rfl, h⟩ := h
    refine lv_ladd hx hb hd ?_
    rw [← Int64.ofInt_add]
    exact hrec _ _ _ _ _ _ h hu _ _ _ hl hP hS
  case lsub =>
    have hk : k0 = 1 := by have := am_bq hi; omega
    subst hk
    replace h := am_q2_ok h
    obtain ⟨a, b, r, rfl, h⟩ := h
    refine lv_lsub hx hb hd ?_
    rw [← Int64.ofInt_sub]
    exact hrec _ _ _ _ _ _ h hu _ _ _ hl hP hS
  case lmul =>
    have hk : k0 = 1 := by have := am_bq hi; omega
    subst hk
    replace h := am_q2_ok h
    obtain ⟨a, b, r, rfl, h⟩ := h
    refine lv_lmul hx hb hd ?_
    rw [← Int64.ofInt_mul]
    exact hrec _ _ _ _ _ _ h hu _ _ _ hl hP hS
  case lor =>
    have hk : k0 = 1 := by have := am_bq hi; omega
    subst hk
    replace h := am_q2_ok h
    obtain ⟨a, b, r, rfl, h⟩ := h
    refine lv_lor hx hb hd ?_
    rw [o64 (_ ||| _)]
    exact hrec _ _ _ _ _ _ h hu _ _ _ hl hP hS
  case lneg =>
    have hk : k0 = 1 := by have := am_bq hi; omega
    subst hk
    replace h := am_q1_ok h
    obtain ⟨a, r, rfl, h⟩ := h
    refine lv_lneg hx hb hd ?_
    rw [← Int64.ofInt_neg]
    exact hrec _ _ _ _ _ _ h hu _ _ _ hl hP hS
  case ldiv =>
    have hk : k0 = 1 := by have := am_bq hi; omega
    subst hk
    replace h := am_q2_ok h
    obtain ⟨a, b, r, rfl, h0, h⟩ := h
    refine lv_ldiv hx hb hd (o64_ne h0) ?_
    rw [o64 (_ / _)]
    exact hrec _ _ _ _ _ _ h hu _ _ _ hl hP hS
  case lrem =>
    have hk : k0 = 1 := by have := am_bq hi; omega
    subst hk
    replace h := am_q2_ok h
    obtain ⟨a, b, r, rfl, h0, h⟩ := h
    refine lv_lrem hx hb hd (o64_ne h0) ?_
    rw [o64 (_ - _)]
    exact hrec _ _ _ _ _ _ h hu _ _ _ hl hP hS
  case lshl =>
    unfold am_ins at h
    dsimp only at h
    have hk : k0 = 1 := by have := am_bq hi; omega
    subst hk
    replace h := am_p1_ok h
    obtain ⟨b, r, rfl, h⟩ := h
    replace h := am_q1_ok h
    obtain ⟨a, r, rfl, h⟩ := h
    refine lv_lshl (v := Int64.ofInt (y_shl a b)) hx hb hd (o64 _) ?_
    exact hrec _ _ _ _ _ _ h hu _ _ _ hl hP hS
  case lshr =>
    unfold am_ins at h
    dsimp only at h
    have hk : k0 = 1 := by have := am_bq hi; omega
    subst hk
    replace h := am_p1_ok h
    obtain ⟨b, r, rfl, h⟩ := h
    replace h := am_q1_ok h
    obtain ⟨a, r, rfl, h⟩ := h
    refine lv_lshr (v := Int64.ofInt (y_shr a b)) hx hb hd (o64 _) ?_
    exact hrec _ _ _ _ _ _ h hu _ _ _ hl hP hS
  case lushr =>
    unfold am_ins at h
    dsimp only at h
    have hk : k0 = 1 := by have := am_bq hi; omega
    subst hk
    replace h := am_p1_ok h
    obtain ⟨b, r, rfl, h⟩ := h
    replace h := am_q1_ok h
    obtain ⟨a, r, rfl, h⟩ := h
    refine lv_lushr (v := Int64.ofInt (y_ushr a b)) hx hb hd (o64 _) ?_
    exact hrec _ _ _ _ _ _ h hu _ _ _ hl hP hS
  case lcmp =>
    have hk : k0 = 1 := by have := am_bq hi; omega
    subst hk
    replace h := am_q2_ok h
    obtain ⟨a, b, r, rfl, h⟩ := h
    refine W.lcmp hx hb hd ?_
    rw [o_cmp]
    exact hrec _ _ _ _ _ _ h hu _ _ _ hl hP hS
  case i2l =>
    have hk : k0 = 1 := by have := am_bq hi; omega
    subst hk
    replace h := am_p1_ok h
    obtain ⟨a, r, rfl, h⟩ := h
    refine lv_i2l hx hb hd (o_i2l a) ?_
    exact hrec _ _ _ _ _ _ h hu _ _ _ hl hP hS
  case l2i =>
    have hk : k0 = 1 := by have := am_bq hi; omega
    subst hk
    replace h := am_q1_ok h
    obtain ⟨a, r, rfl, h⟩ := h
    refine lv_l2i hx hb hd (o_l2i a) ?_
    exact hrec _ _ _ _ _ _ h hu _ _ _ hl hP hS
  case i2b =>
    have hk : k0 = 1 := by have := am_bq hi; omega
    subst hk
    replace h := am_p1_ok h
    obtain ⟨a, r, rfl, h⟩ := h
    refine lv_i2b (v := Int32.ofInt (x_i2b a)) hx hb hd (o32 _) ?_
    exact hrec _ _ _ _ _ _ h hu _ _ _ hl hP hS
  case i2c =>
    have hk : k0 = 1 := by have := am_bq hi; omega
    subst hk
    replace h := am_p1_ok h
    obtain ⟨a, r, rfl, h⟩ := h
    refine lv_i2c (v := Int32.ofInt (x_i2c a)) hx hb hd (o32 _) ?_
    exact hrec _ _ _ _ _ _ h hu _ _ _ hl hP hS
  case pop =>
    have hk : k0 = 1 := by have := am_bq hi; omega
    subst hk
    unfold am_ins at h
    dsimp only at h
    split at h
    · refine lv_pop hx hb hd rfl ?_
      exact hrec _ _ _ _ _ _ h hu _ _ _ hl hP hS
    · exact h.elim
  case dup =>
    have hk : k0 = 1 := by have := am_bq hi; omega
    subst hk
    unfold am_ins at h
    dsimp only at h
    split at h
    · refine lv_dup hx hb hd rfl ?_
      exact hrec _ _ _ _ _ _ h hu _ _ _ hl hP hS
    · refine lv_dup hx hb hd rfl ?_
      exact hrec _ _ _ _ _ _ h hu _ _ _ hl hP hS
    · exact h.elim
  case dup2 =>
    have hk : k0 = 1 := by have := am_bq hi; omega
    subst hk
    unfold am_ins at h
    dsimp only at h
    split at h
    · refine lv_dup2_11 hx hb hd rfl rfl ?_
      exact hrec _ _ _ _ _ _ h hu _ _ _ hl hP hS
    · refine lv_dup2_11 hx hb hd rfl rfl ?_
      exact hrec _ _ _ _ _ _ h hu _ _ _ hl hP hS
    · refine lv_dup2_2 hx hb hd rfl ?_
      exact hrec _ _ _ _ _ _ h hu _ _ _ hl hP hS
    · exact h.elim
  case goto =>
    have hi2 := (Bool.and_eq_true _ _).mp hi
    have hk : k0 = 3 := by have := am_bq hi2.1; omega
    subst hk
    replace h := am_tgt_ok h
    obtain ⟨t, rfl, h⟩ := h
    refine lv_goto (tgt := t) hx hb hd (of_decide_eq_true hi2.2) ?_
    exact hrec _ _ _ _ _ _ h hu _ _ _ hl hP hS
  case if_icmp =>
    rename_i cd off
    have hi2 := (Bool.and_eq_true _ _).mp hi
    have hk : k0 = 3 := by have := am_bq hi2.1; omega
    subst hk
    replace h := am_p2_ok h
    obtain ⟨a, b, r, rfl, h⟩ := h
    replace h := am_tgt_ok h
    obtain ⟨t, rfl, h⟩ := h
    have ht := of_decide_eq_true hi2.2
    cases cd
    case eq =>
      refine lv_icmp_eq (tgt := t) hx hb hd ht (fun q => ?_) (fun q => ?_)
      · exact hrec _ _ _ _ _ _ (h.1 ((w32_inj a b).mp q)) hu _ _ _ hl hP hS
      · exact hrec _ _ _ _ _ _ (h.2 (fun z => q ((w32_inj a b).mpr z))) hu _ _ _ hl hP hS
    case ne =>
      refine lv_icmp_ne (tgt := t) hx hb hd ht (fun q => ?_) (fun q => ?_)
      · exact hrec _ _ _ _ _ _ (h.2 (fun z => q ((w32_inj a b).mpr z))) hu _ _ _ hl hP hS
      · exact hrec _ _ _ _ _ _ (h.1 ((w32_inj a b).mp q)) hu _ _ _ hl hP hS
    case lt =>
      refine lv_icmp_lt (tgt := t) hx hb hd ht (fun q => ?_) (fun q => ?_)
      · exact hrec _ _ _ _ _ _ (h.1 ((w32_lt a b).mp q)) hu _ _ _ hl hP hS
      · exact hrec _ _ _ _ _ _ (h.2 (fun z => q ((w32_lt a b).mpr z))) hu _ _ _ hl hP hS
    case ge =>
      refine lv_icmp_ge (tgt := t) hx hb hd ht (fun q => ?_) (fun q => ?_)
      · exact hrec _ _ _ _ _ _ (h.2 ((w32_le b a).mp q)) hu _ _ _ hl hP hS
      · exact hrec _ _ _ _ _ _ (h.1 (Classical.byContradiction fun z => q ((w32_le b a).mpr z))) hu _ _ _ hl hP hS
    case gt =>
      refine lv_icmp_gt (tgt := t) hx hb hd ht (fun q => ?_) (fun q => ?_)
      · exact hrec _ _ _ _ _ _ (h.1 ((w32_lt b a).mp q)) hu _ _ _ hl hP hS
      · exact hrec _ _ _ _ _ _ (h.2 (fun z => q ((w32_lt b a).mpr z))) hu _ _ _ hl hP hS
    case le =>
      refine lv_icmp_le (tgt := t) hx hb hd ht (fun q => ?_) (fun q => ?_)
      · exact hrec _ _ _ _ _ _ (h.2 ((w32_le a b).mp q)) hu _ _ _ hl hP hS
      · exact hrec _ _ _ _ _ _ (h.1 (Classical.byContradiction fun z => q ((w32_le a b).mpr z))) hu _ _ _ hl hP hS
  case ifCond =>
    rename_i cd off
    have hi2 := (Bool.and_eq_true _ _).mp hi
    have hk : k0 = 3 := by have := am_bq hi2.1; omega
    subst hk
    replace h := am_p1_ok h
    obtain ⟨a, r, rfl, h⟩ := h
    replace h := am_tgt_ok h
    obtain ⟨t, rfl, h⟩ := h
    have ht := of_decide_eq_true hi2.2
    cases cd
    case eq =>
      refine lv_if_eq (tgt := t) hx hb hd ht (fun q => ?_) (fun q => ?_)
      · exact hrec _ _ _ _ _ _ (h.1 ((w32_inj a 0).mp q)) hu _ _ _ hl hP hS
      · exact hrec _ _ _ _ _ _ (h.2 (fun z => q ((w32_inj a 0).mpr z))) hu _ _ _ hl hP hS
    case ne =>
      refine lv_if_ne (tgt := t) hx hb hd ht (fun q => ?_) (fun q => ?_)
      · exact hrec _ _ _ _ _ _ (h.2 (fun z => q ((w32_inj a 0).mpr z))) hu _ _ _ hl hP hS
      · exact hrec _ _ _ _ _ _ (h.1 ((w32_inj a 0).mp q)) hu _ _ _ hl hP hS
    case lt =>
      refine lv_if_lt (tgt := t) hx hb hd ht (fun q => ?_) (fun q => ?_)
      · exact hrec _ _ _ _ _ _ (h.1 ((w32_lt a 0).mp q)) hu _ _ _ hl hP hS
      · exact hrec _ _ _ _ _ _ (h.2 (fun z => q ((w32_lt a 0).mpr z))) hu _ _ _ hl hP hS
    case ge =>
      refine lv_if_ge (tgt := t) hx hb hd ht (fun q => ?_) (fun q => ?_)
      · exact hrec _ _ _ _ _ _ (h.2 ((w32_le 0 a).mp q)) hu _ _ _ hl hP hS
      · exact hrec _ _ _ _ _ _ (h.1 (Classical.byContradiction fun z => q ((w32_le 0 a).mpr z))) hu _ _ _ hl hP hS
    case gt =>
      refine lv_if_gt (tgt := t) hx hb hd ht (fun q => ?_) (fun q => ?_)
      · exact hrec _ _ _ _ _ _ (h.1 ((w32_lt 0 a).mp q)) hu _ _ _ hl hP hS
      · exact hrec _ _ _ _ _ _ (h.2 (fun z => q ((w32_lt 0 a).mpr z))) hu _ _ _ hl hP hS
    case le =>
      refine lv_if_le (tgt := t) hx hb hd ht (fun q => ?_) (fun q => ?_)
      · exact hrec _ _ _ _ _ _ (h.2 ((w32_le a 0).mp q)) hu _ _ _ hl hP hS
      · exact hrec _ _ _ _ _ _ (h.1 (Classical.byContradiction fun z => q ((w32_le a 0).mpr z))) hu _ _ _ hl hP hS
  case tableswitch =>
    unfold am_ins at h
    dsimp only at h
    rename_i dflt lo hi9 offs
    replace h := am_p1_ok h
    obtain ⟨a, r, rfl, h⟩ := h
    cases ts
    case nil => exact h.elim
    case cons d ll =>
      unfold am_iok at hi
      simp only [Bool.and_eq_true, decide_eq_true_eq] at hi
      obtain ⟨⟨⟨⟨i1, i2⟩, i3⟩, i4⟩, i5⟩ := hi
      by_cases hin : w32 a < lo ∨ hi9 < w32 a
      · refine lv_tableOut (tgt := d) hx hb hd hin i1 ?_
        exact hrec _ _ _ _ _ _ (h.2 hin) hu _ _ _ hl hP hS
      · have h1 : ¬ w32 a < lo := fun q => hin (Or.inl q)
        have h2 : ¬ hi9 < w32 a := fun q => hin (Or.inr q)
        have hlt : (w32 a - lo).toNat < offs.size := by omega
        obtain ⟨t, t1, t2⟩ := am_swok_ok _ _ i2 (w32 a - lo).toNat offs[(w32 a - lo).toNat] (by rw [Array.getElem?_toList, Array.getElem?_eq_getElem hlt])
        refine lv_tableIn (tgt := t) (off := offs[(w32 a - lo).toNat]) hx hb hd h1 h2 (Array.getElem?_eq_getElem hlt) t2 ?_
        exact hrec _ _ _ _ _ _ (am_sw_ok _ _ h.1 _ _ t1 (by omega)) hu _ _ _ hl hP hS
  case getfield =>
    have hk : k0 = 3 := by have := am_bq hi; omega
    subst hk
    replace h := am_pR_ok h
    obtain ⟨o, r, rfl, h⟩ := h
    split at h
    · rename_i ci j w hf
      replace h := am_obj_ok h
      obtain ⟨cj, fs, hlay, h⟩ := h
      replace h := am_cond_ok h
      obtain ⟨hcc, h⟩ := h
      have hcc := am_bq hcc
      subst hcc
      obtain ⟨C, T, N, ty0, f1, f2, f3, f4, f5, f6, f7⟩ := hfld _ _ _ _ hf
      have he := am_ws_get (al := al) (kC := kC) (F := F) (A := A) (am_pre hpre hlay)
      split at h
      · rename_i hj
        refine va_get (v := .int (Int32.ofInt (F o j))) hx hb hts f3 hown hK hP o he f1 j f2 (hts _ f4) (fun _ z => z) ?_ hd ?_
        · rw [List.getElem?_mapIdx, hj]; rfl
        exact hrec _ _ _ _ _ _ h hu _ _ _ hl hP hS
      · rename_i t hj
        refine va_get (v := .ref (al t)) hx hb hts f3 hown hK hP o he f1 j f2 (hts _ f4) (fun _ z => z) ?_ hd ?_
        · rw [List.getElem?_mapIdx, hj]; rfl
        exact hrec _ _ _ _ _ _ h hu _ _ _ hl hP hS
      · exact h.elim
    · exact h.elim
  case putfield =>
    unfold am_ins at h
    dsimp only at h
    have hk : k0 = 3 := by have := am_bq hi; omega
    subst hk
    replace h := am_p1_ok h
    obtain ⟨v, r, rfl, h⟩ := h
    replace h := am_pR_ok h
    obtain ⟨o, r, rfl, h⟩ := h
    split at h
    · rename_i ci j hf
      replace h := am_obj_ok h
      obtain ⟨cj, fs, hlay, h⟩ := h
      replace h := am_cond_ok h
      obtain ⟨hcc, h⟩ := h
      have hcc := am_bq hcc
      subst hcc
      obtain ⟨C, T, N, ty0, f1, f2, f3, f4, f5, f6, f7⟩ := hfld _ _ _ _ hf
      have he := am_ws_get (al := al) (kC := kC) (F := F) (A := A) (am_pre hpre hlay)
      split at h
      · rename_i hj
        refine va_put (v := .int (Int32.ofInt v)) (ty := .int) hx hb hts f3 ty0 f5 f6 hown hK hP hD hS o he f1 j f2 (hts _ f4) (fun _ z => z) (f7 rfl).1 (f7 rfl).2 rfl rfl ?_ hd (fun H1 locs1 hP1 hD1 hS1 => ?_)
        · rw [List.length_mapIdx]; exact (List.getElem?_eq_some_iff.mp hj).1
        · rw [am_ws_set (F' := upF F o j v) (A' := A) (am_pre hpre hlay) ?_ am_wc_F] at hP1
          · exact hrec _ _ _ _ _ _ h hu _ _ _ hl hP1 hS1
          · exact am_put_eq hj
      · exact h.elim
    · exact h.elim
  case arraylength =>
    have hk : k0 = 1 := by have := am_bq hi; omega
    subst hk
    unfold am_ins at h
    dsimp only at h
    replace h := am_pR_ok h
    obtain ⟨o, r, rfl, h⟩ := h
    unfold am_len at h
    split at h
    · rename_i kd n hlay
      have he := am_ws_get (al := al) (kC := kC) (F := F) (A := A) (am_pre hpre hlay)
      obtain ⟨hk3, hn⟩ := am_lok_ok hlok hlay
      match kd, hk3, he with
      | 0, _, he => exact va_alen (v := Int32.ofInt n) hx hb hK hP o 0 he rfl (am_ofN hn) hd (hrec _ _ _ _ _ _ h hu _ _ _ hl hP hS)
      | 1, _, he => exact va_alen (v := Int32.ofInt n) hx hb hK hP o 1 he rfl (am_ofN hn) hd (hrec _ _ _ _ _ _ h hu _ _ _ hl hP hS)
      | 2, _, he => exact va_alen (v := Int32.ofInt n) hx hb hK hP o 2 he rfl (am_ofN hn) hd (hrec _ _ _ _ _ _ h hu _ _ _ hl hP hS)
      | 3, _, he => exact va_alen (v := Int32.ofInt n) hx hb hK hP o 3 he rfl (am_ofN hn) hd (hrec _ _ _ _ _ _ h hu _ _ _ hl hP hS)
    · exact h.elim
    · split at h
      · rename_i L xs hsc
        replace h := am_cond_ok h
        obtain ⟨h9, h⟩ := h
        have h9 := am_bq h9
        subst h9
        obtain ⟨Ln, xn, rfl, hLs, hxs, hX, hbl, hbA⟩ := hscr _ _ hsc
        refine va_slen hx hb hX hbl hbA hS hd ?_
        rw [show Int32.ofNat Ln = Int32.ofInt (Ln : Int) from am_ofN (n := (Ln : Int)) (by omega)]
        exact hrec _ _ _ _ _ _ h hu _ _ _ hl hP hS
      · exact h.elim
  case iaload =>
    have hk : k0 = 1 := by have := am_bq hi; omega
    subst hk
    unfold am_ins at h
    dsimp only at h
    replace h := am_p1_ok h
    obtain ⟨i, r, rfl, h⟩ := h
    replace h := am_pR_ok h
    obtain ⟨o, r, rfl, h⟩ := h
    unfold am_ldA at h
    split at h
    · rename_i n hlay
      have he := am_ws_get (al := al) (kC := kC) (F := F) (A := A) (am_pre hpre hlay)
      obtain ⟨hin, h⟩ := h
      obtain ⟨hv, hq⟩ := am_in hin
      refine va_iald hx hb hK hP o 0 he rfl hv hd ?_
      rw [hq]
      exact hrec _ _ _ _ _ _ h hu _ _ _ hl hP hS
    · exact h.elim
    · split at h
      · rename_i L xs hsc
        replace h := am_cond_ok h
        obtain ⟨h9, h⟩ := h
        have h9 := am_bq h9
        subst h9
        obtain ⟨Ln, xn, rfl, hLs, hxs, hX, hbl, hbA⟩ := hscr _ _ hsc
        obtain ⟨hin, h⟩ := h
        obtain ⟨hv, hq⟩ := am_in hin
        refine va_sld hx hb hX hbl hbA hS (by simpa using hv) hd ?_
        have e9 : xn (Int32.ofInt i).toNatClampNeg = Int32.ofInt (xs (w32 i)) := by rw [← hq, hxs]; exact o32 _
        rw [e9]
        exact hrec _ _ _ _ _ _ h hu _ _ _ hl hP hS
      · exact h.elim
  case baload =>
    have hk : k0 = 1 := by have := am_bq hi; omega
    subst hk
    unfold am_ins at h
    dsimp only at h
    replace h := am_p1_ok h
    obtain ⟨i, r, rfl, h⟩ := h
    replace h := am_pR_ok h
    obtain ⟨o, r, rfl, h⟩ := h
    unfold am_ldB at h
    split at h
    · rename_i n hlay
      have he := am_ws_get (al := al) (kC := kC) (F := F) (A := A) (am_pre hpre hlay)
      obtain ⟨hin, h⟩ := h
      obtain ⟨hv, hq⟩ := am_in hin
      refine va_bald hx hb hK hP o 2 he rfl hv hd ?_
      rw [hq]
      exact hrec _ _ _ _ _ _ h hu _ _ _ hl hP hS
    · rename_i n hlay
      have he := am_ws_get (al := al) (kC := kC) (F := F) (A := A) (am_pre hpre hlay)
      obtain ⟨hin, h⟩ := h
      obtain ⟨hv, hq⟩ := am_in hin
      refine va_zald hx hb hK hP o 3 he rfl hv hd ?_
      rw [hq]
      exact hrec _ _ _ _ _ _ h hu _ _ _ hl hP hS
    · exact h.elim
  case laload =>
    have hk : k0 = 1 := by have := am_bq hi; omega
    subst hk
    unfold am_ins at h
    dsimp only at h
    replace h := am_p1_ok h
    obtain ⟨i, r, rfl, h⟩ := h
    replace h := am_pR_ok h
    obtain ⟨o, r, rfl, h⟩ := h
    unfold am_ldL at h
    split at h
    · rename_i n hlay
      have he := am_ws_get (al := al) (kC := kC) (F := F) (A := A) (am_pre hpre hlay)
      obtain ⟨hin, h⟩ := h
      obtain ⟨hv, hq⟩ := am_in hin
      refine va_lald hx hb hK hP o 1 he rfl hv hd ?_
      rw [hq]
      exact hrec _ _ _ _ _ _ h hu _ _ _ hl hP hS
    · exact h.elim
  case iastore =>
    have hk : k0 = 1 := by have := am_bq hi; omega
    subst hk
    unfold am_ins at h
    dsimp only at h
    replace h := am_p1_ok h
    obtain ⟨v, r, rfl, h⟩ := h
    replace h := am_p1_ok h
    obtain ⟨i, r, rfl, h⟩ := h
    replace h := am_pR_ok h
    obtain ⟨o, r, rfl, h⟩ := h
    unfold am_stk at h
    replace h := am_arr_ok h
    obtain ⟨kd, n, hlay, h⟩ := h
    replace h := am_cond_ok h
    obtain ⟨hkd, hin, h⟩ := h
    have hkd := am_bq hkd
    subst hkd
    have he := am_ws_get (al := al) (kC := kC) (F := F) (A := A) (am_pre hpre hlay)
    obtain ⟨hv, hq⟩ := am_in hin
    refine va_iast hx hb hK hP hD hS o 0 he rfl hv hd (fun H1 locs1 hP1 hD1 hS1 => ?_)
    rw [am_updI hq, am_ws_set (F' := F) (A' := upA A o (w32 i) v) (am_pre hpre hlay) (by rfl) am_wc_A] at hP1
    exact hrec _ _ _ _ _ _ h hu _ _ _ hl hP1 hS1
  case lastore =>
    have hk : k0 = 1 := by have := am_bq hi; omega
    subst hk
    unfold am_ins at h
    dsimp only at h
    replace h := am_q1_ok h
    obtain ⟨v, r, rfl, h⟩ := h
    replace h := am_p1_ok h
    obtain ⟨i, r, rfl, h⟩ := h
    replace h := am_pR_ok h
    obtain ⟨o, r, rfl, h⟩ := h
    unfold am_stk at h
    replace h := am_arr_ok h
    obtain ⟨kd, n, hlay, h⟩ := h
    replace h := am_cond_ok h
    obtain ⟨hkd, hin, h⟩ := h
    have hkd := am_bq hkd
    subst hkd
    have he := am_ws_get (al := al) (kC := kC) (F := F) (A := A) (am_pre hpre hlay)
    obtain ⟨hv, hq⟩ := am_in hin
    refine va_last hx hb hK hP hD hS o 1 he rfl hv hd (fun H1 locs1 hP1 hD1 hS1 => ?_)
    rw [am_updL hq, am_ws_set (F' := F) (A' := upA A o (w32 i) v) (am_pre hpre hlay) (by rfl) am_wc_A] at hP1
    exact hrec _ _ _ _ _ _ h hu _ _ _ hl hP1 hS1
  case bastore =>
    have hk : k0 = 1 := by have := am_bq hi; omega
    subst hk
    unfold am_ins at h
    dsimp only at h
    replace h := am_p1_ok h
    obtain ⟨v, r, rfl, h⟩ := h
    replace h := am_p1_ok h
    obtain ⟨i, r, rfl, h⟩ := h
    replace h := am_pR_ok h
    obtain ⟨o, r, rfl, h⟩ := h
    unfold am_stB at h
    split at h
    · rename_i n hlay
      obtain ⟨hin, h⟩ := h
      have he := am_ws_get (al := al) (kC := kC) (F := F) (A := A) (am_pre hpre hlay)
      obtain ⟨hv, hq⟩ := am_in hin
      refine va_bast hx hb hK hP hD hS o 2 he rfl hv hd (fun H1 locs1 hP1 hD1 hS1 => ?_)
      rw [o32 (vp_nar .byte (Int32.ofInt v)), am_updI hq, am_ws_set (F' := F) (A' := upA A o (w32 i) (x_bb v)) (am_pre hpre hlay) (by rfl) am_wc_A] at hP1
      exact hrec _ _ _ _ _ _ h hu _ _ _ hl hP1 hS1
    · rename_i n hlay
      obtain ⟨hin, h⟩ := h
      have he := am_ws_get (al := al) (kC := kC) (F := F) (A := A) (am_pre hpre hlay)
      obtain ⟨hv, hq⟩ := am_in hin
      refine va_zast hx hb hK hP hD hS o 3 he rfl hv hd (fun H1 locs1 hP1 hD1 hS1 => ?_)
      rw [o32 (vp_nar .boolean (Int32.ofInt v)), am_updI hq, am_ws_set (F' := F) (A' := upA A o (w32 i) (x_zb v)) (am_pre hpre hlay) (by rfl) am_wc_A] at hP1
      exact hrec _ _ _ _ _ _ h hu _ _ _ hl hP1 hS1
    · exact h.elim
  case invokevirtual =>
    have hk : k0 = 3 := by have := am_bq hi; omega
    subst hk
    unfold am_ins at h
    dsimp only at h
    split at h
    · rename_i k e1 hk1
      split at h
      · rename_i ci hci
        exact hcal _ pc _ _ _ hk1 hd (Or.inl rfl) ⟨fun q => (by cases q), fun q => (by rw [q] at hci; cases hci)⟩ _ _ _ _ _ h hu _ _ _ hl hP hS
      · exact h.elim
    · unfold am_spc at h
      split at h
      · rename_i b hb2
        exact hspc _ _ hb2 _ _ _ _ _ h hu _ _ _ hl hP hS
      · exact h.elim
  case invokestatic =>
    have hk : k0 = 3 := by have := am_bq hi; omega
    subst hk
    unfold am_ins at h
    dsimp only at h
    unfold am_mth at h
    rename_i k
    have hm := hmth k
    have hsz : c.maxLocals = lsC.size := by rw [hml, hl.2.1]
    split at h
    · rename_i hk1
      obtain ⟨m1, m2, m3, m4⟩ := hm.1 hk1
      obtain ⟨r1, r2⟩ := hm.2.2.2.2 (by rw [hk1]; decide)
      replace h := am_p2_ok h
      obtain ⟨a, b, r, rfl, h⟩ := h
      replace h := am_cond_ok h
      obtain ⟨h8, h⟩ := h
      have h8 := Nat.le_of_ble_eq_true h8
      refine va_mmin hx hb hsz hown (hts _ m1) (hts _ m2) (hts _ m3) (hts _ m4) r1 (by rw [am_sum_eq]; omega) (by omega) (by omega) hd ?_
      rw [o_min]
      exact hrec _ _ _ _ _ _ h hu _ _ _ hl hP hS
    · rename_i hk1
      obtain ⟨m1, m2, m3, m4⟩ := hm.2.1 hk1
      obtain ⟨r1, r2⟩ := hm.2.2.2.2 (by rw [hk1]; decide)
      replace h := am_p2_ok h
      obtain ⟨a, b, r, rfl, h⟩ := h
      replace h := am_cond_ok h
      obtain ⟨h8, h⟩ := h
      have h8 := Nat.le_of_ble_eq_true h8
      refine va_mmax hx hb hsz hown (hts _ m1) (hts _ m2) (hts _ m3) (hts _ m4) r1 (by rw [am_sum_eq]; omega) (by omega) (by omega) hd ?_
      rw [o_max]
      exact hrec _ _ _ _ _ _ h hu _ _ _ hl hP hS
    · rename_i hk1
      obtain ⟨m1, m2, m3, m4⟩ := hm.2.2.1 hk1
      obtain ⟨r1, r2⟩ := hm.2.2.2.2 (by rw [hk1]; decide)
      replace h := am_p1_ok h
      obtain ⟨a, r, rfl, h⟩ := h
      replace h := am_cond_ok h
      obtain ⟨h8, h⟩ := h
      have h8 := Nat.le_of_ble_eq_true h8
      refine va_mabs hx hb hsz hown (hts _ m1) (hts _ m2) (hts _ m3) (hts _ m4) r1 (by rw [am_sum_eq]; omega) (by omega) (by omega) hd ?_
      rw [o_abs]
      exact hrec _ _ _ _ _ _ h hu _ _ _ hl hP hS
    · rename_i hk1
      obtain ⟨m1, m2, m3, m4⟩ := hm.2.2.2.1 hk1
      obtain ⟨r1, r2⟩ := hm.2.2.2.2 (by rw [hk1]; decide)
      replace h := am_p2_ok h
      obtain ⟨dp, n, r, rfl, h⟩ := h
      replace h := am_pR_ok h
      obtain ⟨a, r, rfl, h⟩ := h
      replace h := am_p1_ok h
      obtain ⟨sp, r, rfl, h⟩ := h
      replace h := am_pR_ok h
      obtain ⟨a0, r, rfl, h⟩ := h
      replace h := am_arr_ok h
      obtain ⟨kd, mm, hla, h⟩ := h
      replace h := am_arr_ok h
      obtain ⟨kd0, mm0, hla0, h⟩ := h
      replace h := am_cond_ok h
      obtain ⟨h8, ⟨c1, c2, c3, c4, c5⟩, h⟩ := h
      simp only [Bool.and_eq_true] at h8
      obtain ⟨k1, k2, k3⟩ := h8
      have k1 := am_bq k1
      have k2 := am_bq k2
      have k3 := Nat.le_of_ble_eq_true k3
      subst k1
      subst k2
      have he := am_ws_get (al := al) (kC := kC) (F := F) (A := A) (am_pre hpre hla)
      have he0 := am_ws_get (al := al) (kC := kC) (F := F) (A := A) (am_pre hpre hla0)
      have z0 : ∀ y : Int, 0 ≤ w32 y → ¬ Int32.ofInt y < 0 := fun y q z => by rw [o_zero, w32_lt, w32_0] at z; omega
      have zc : ∀ y : Int, 0 ≤ w32 y → (((Int32.ofInt y).toNatClampNeg : Nat) : Int) = w32 y := fun y q => by have e : (Int32.ofInt y).toNatClampNeg = (w32 y).toNat := rfl; rw [e]; omega
      have e1 := zc sp c2
      have e2 := zc dp c4
      have e3 := zc n c1
      refine va_copyi hx hb hsz hown (hts _ m1) (hts _ m2) (hts _ m3) (hts _ m4) hK hP hD hS a0 a 0 0 he0 he rfl rfl rfl (z0 _ c2) (z0 _ c4) (z0 _ c1) (by omega) (by omega) (fun _ _ => rfl) r1 (by rw [am_sum_eq]; have := am_nf; omega) hd (fun H1 locs1 hP1 hD1 hS1 => ?_)
      rw [am_cpy e1 e2 e3, am_ws_set (F' := F) (A' := cpA A a0 (w32 sp) 0 (w32 dp) (w32 n) a) (am_pre hpre hla) (by rfl) am_wc_C] at hP1
      exact hrec _ _ _ _ _ _ h hu _ _ _ hl hP1 hS1
    · split at h
      · rename_i e1 hk1
        split at h
        · rename_i hci
          exact hcal _ pc _ _ _ hk1 hd (Or.inr rfl) ⟨fun _ => hci, fun _ => rfl⟩ _ _ _ _ _ h hu _ _ _ hl hP hS
        · exact h.elim
      · exact h.elim
  case ireturn =>
    have hk : k0 = 1 := by have := am_bq hi; omega
    subst hk
    unfold am_ins at h
    dsimp only at h
    replace h := am_p1_ok h
    obtain ⟨a, r, rfl, h⟩ := h
    split at h
    · unfold am_ret at h
      split at h
      · rename_i hr
        exact hret _ (some (vI a)) _ _ _ _ _ ⟨rfl, Or.inl hr⟩ hd h hu _ _ _ hl hP hS
      · rename_i hr
        exact hret _ (some (vI a)) _ _ _ _ _ ⟨rfl, Or.inr ⟨hr, h.1⟩⟩ hd h.2 hu _ _ _ hl hP hS
      · exact h.elim
    · exact h.elim
  case lreturn =>
    have hk : k0 = 1 := by have := am_bq hi; omega
    subst hk
    unfold am_ins at h
    dsimp only at h
    replace h := am_q1_ok h
    obtain ⟨a, r, rfl, h⟩ := h
    split at h
    · replace h := am_cond_ok h
      obtain ⟨h1, h⟩ := h
      have hr : cxRet x = some .long := by
        unfold am_isL at h1
        split at h1
        · assumption
        · cases h1
      exact hret _ (some (vL a)) _ _ _ _ _ ⟨rfl, hr⟩ hd h hu _ _ _ hl hP hS
    · exact h.elim
  case return_ =>
    have hk : k0 = 1 := by have := am_bq hi; omega
    subst hk
    unfold am_ins at h
    dsimp only at h
    split at h
    · rename_i hr
      exact hret _ none _ _ _ _ _ ⟨rfl, hr⟩ hd h hu _ _ _ hl hP hS
    · exact h.elim
  all_goals exact h.elim
end AMO
end
section
/-! calls: a callee's contract (am_CT), and the call of it -/
def am_isN : Cond → Bool
  | .methodLinkNest .. => true
  | .castable .. => true
  | .declares _ => true
  | _ => false
/-- what stays true on the way: the kit's good words, and links to a nest mate's private methods -/
def am_gw (w : Cond) : Bool := goodWord w || am_isN w
def am_tb : List Cond := lw_tbl.filter am_gw
theorem am_tb_in {w : Cond} (h : w ∈ lw_tbl) (hg : am_gw w = true) : w ∈ am_tb := List.mem_filter.mpr ⟨h, hg⟩
theorem am_tb_at {w : Cond} (i : Nat) (h : lw_tbl[i]? = some w) (hg : am_gw w = true) : w ∈ am_tb := am_tb_in (List.mem_of_getElem? h) hg
theorem am_pay1 {args : Array Value} {s : State} (hts : ∀ w ∈ am_tb, w.before args s = true) : ∀ w ∈ am_tb, ∀ (a' : Array Value) (U : State), s.WarmedH U.vm → w.before a' U = true := by
  intro w hw a' U hW
  have hg := (List.mem_filter.mp hw).2
  have hb := hts w hw
  unfold am_gw at hg
  rw [Bool.or_eq_true] at hg
  rcases hg with hg | hg
  · exact word_at hW (good_of_word hg) hb
  · cases w <;> first | (cases hg; done) | exact va_Nw.use rfl (va_Nw.warmM hW (va_Nw.of rfl hb)) | exact va_Nw.use rfl (va_Nw.warmC hW (va_Nw.of rfl hb)) | exact va_Nw.use rfl (va_Nw.warmD hW (va_Nw.of rfl hb))
theorem am_pay {args : Array Value} {s : State} (hts : ∀ w ∈ am_tb, w.before args s = true) {w0 : Cond} (h0 : w0 ∈ am_tb) : ∀ w ∈ w0 :: am_tb, ∀ (a' : Array Value) (U : State), s.WarmedH U.vm → w.before a' U = true := by
  intro w hw
  rcases List.mem_cons.mp hw with rfl | hw
  · exact am_pay1 hts w h0
  · exact am_pay1 hts w hw
theorem am_callB {R : Room} {s : State} {args : Array Value} {own : String} {index maxL mc ms : Nat} {y : MethodName} {bytes : ByteArray} {ret : Option FieldType} {ws ws' : List Cond} {rm : Room} (n : Nat) (hp : ∀ w ∈ ws, ∀ (a' : Array Value) (U : State), s.WarmedH U.vm → w.before a' U = true) (hcb : (Cond.code y bytes maxL ret).before args s = true) (hw : ws = Cond.code y bytes maxL ret :: ws') (hrc : rm.cells = mc) (hrs : rm.slots = ms) (hini : (Cond.initialized y.cls).before args s = true) (hl : (Cond.methodLink own index y).before args s = true)
    (hd : y.cls ≠ "java/lang/invoke/MethodHandle" ∧ y.cls ≠ "java/lang/invoke/VarHandle" ∧ (parseMethodDescriptor y.desc).map (fun d => d.parameters.length) = some n) (hR : rm.frames + 1 ≤ R.frames ∧ 8 + (maxL + 11) + rm.locals ≤ R.locals) :
    CallB R s args own index y bytes maxL ret ws rm mc ms n := by
  have hc : Cond.code y bytes maxL ret ∈ ws := by rw [hw]; exact List.mem_cons_self
  refine ⟨hrc, hrs, hR.1, hR.2, hp, hc, hcb, hini, ⟨hd.1, hd.2.1⟩, fun sig h => ?_, hl⟩
  have h2 := hd.2.2
  rw [h] at h2
  exact (Option.some.inj h2).symm
theorem am_cnB {R : Room} {s : State} {args : Array Value} {own host : String} {index maxL mc ms : Nat} {y : MethodName} {bytes : ByteArray} {ret : Option FieldType} {ws ws' : List Cond} {rm : Room} (n : Nat) (hp : ∀ w ∈ ws, ∀ (a' : Array Value) (U : State), s.WarmedH U.vm → w.before a' U = true) (hcb : (Cond.code y bytes maxL ret).before args s = true) (hw : ws = Cond.code y bytes maxL ret :: ws') (hrc : rm.cells = mc) (hrs : rm.slots = ms) (hl : (Cond.methodLinkNest own index y host).before args s = true) (hini : (Cond.initialized y.cls).before args s = true)
    (hd : y.cls ≠ "java/lang/invoke/MethodHandle" ∧ y.cls ≠ "java/lang/invoke/VarHandle" ∧ (parseMethodDescriptor y.desc).map (fun d => d.parameters.length) = some n) (hR : rm.frames + 1 ≤ R.frames ∧ 8 + (maxL + 11) + rm.locals ≤ R.locals) : va_CN R s args own index y host bytes maxL ret ws rm mc ms n := by
  have hc : Cond.code y bytes maxL ret ∈ ws := by rw [hw]; exact List.mem_cons_self
  refine ⟨⟨hrc, hrs, hR.1, hR.2, hp, hc⟩, hcb, hini, ⟨hd.1, hd.2.1⟩, fun sig h => ?_, hl⟩
  have h2 := hd.2.2
  rw [h] at h2
  exact (Option.some.inj h2).symm
def am_rm (lv mc : Nat) : Room := { frames := lv, cells := mc, slots := 16 * mc, locals := 48 * lv }
/-- the reader's words: "curve line set limit depth ", a constant of the model, and what String's own methods read -/
def am_Z (B : Nat → Prop) (U : State) (H : Heap) : Prop := vx_Zq Bundle.tN "UNASSIGNED_STACK" Bundle.steD B U H ∧ vx_Zq Bundle.tN "SUPPRESSED_SENTINEL" Bundle.listD B U H ∧ (∃ a, vk_R RX8 354 "no such curve" a U) ∧ (∃ a, vk_R RX8 359 "no such line" a U)
def am_B (kd : Nat) (D : va_G) (al : Nat → Nat) (kC : Nat → ClassId) (layW : List LC) (F : FF) (A : AA) (sz : Nat) (U : State) : Prop :=
  U.heap.size = sz ∧ va_P D vwCl (am_ws al kC layW F A) U.heap ∧ va_K D vwCl (am_tys kC) U ∧ am_dis al layW (fun _ => True) ∧ (kd ≠ 0 → am_Z (va_A (am_ws al kC layW F A) sz) U U.heap)
def am_Q (ret : Option FieldType) (K : KK) (D : va_G) (al : Nat → Nat) (kC : Nat → ClassId) (layW : List LC) (As : Nat → Prop) : Array Value → State → Outcome → State → Prop := match ret with
  | none => va_Qv (S := FF × AA) (fun u => K (some none) u.1 u.2) (fun u t => va_P D vwCl (am_ws al kC layW u.1 u.2) t.heap) As
  | some .long => va_Ql (S := Int × FF × AA) (fun r u => r = Int64.ofInt u.1 ∧ K (some (some (vL u.1))) u.2.1 u.2.2) (fun u t => va_P D vwCl (am_ws al kC layW u.2.1 u.2.2) t.heap) As
  | some _ => va_Qi (S := Int × FF × AA) (fun r u => r = Int32.ofInt u.1 ∧ K (some (some (vI u.1))) u.2.1 u.2.2) (fun u t => va_P D vwCl (am_ws al kC layW u.2.1 u.2.2) t.heap) As
def am_iob : String := "java/lang/IndexOutOfBoundsException"
def am_X (K : KK) (D : va_G) (al : Nat → Nat) (kC : Nat → ClassId) (layW : List LC) (As : Nat → Prop) : String → State → State → Prop := vx_X (S := FF × AA) (fun u => K none u.1 u.2) (fun E u t => E = am_iob ∧ va_P D vwCl (am_ws al kC layW u.1 u.2) t.heap) As
def am_Met (l : Launch) (e1 : CE) (Pc : Array Value → State → Prop) (Qc : Array Value → State → Outcome → State → Prop) (XC : String → State → State → Prop) (free : Addr → Prop) : Prop := match ceT e1 with
  | 0 => Met l (ceY e1) (.code (ceY e1) (ceB e1) (ceM e1) (ceR e1) :: am_tb) (am_rm (ceL e1) (ceK e1)) Pc Qc (ceK e1) (16 * ceK e1) free
  | 1 => vx_Met l (ceY e1) (.code (ceY e1) (ceB e1) (ceM e1) (ceR e1) :: am_tb) (am_rm (ceL e1) (ceK e1)) Pc Qc XC (ceK e1) (16 * ceK e1) free
  | _ => Met l (ceY e1) (.code (ceY e1) (ceB e1) (ceM e1) (ceR e1) :: am_tb) (am_rm (ceL e1) (ceK e1)) Pc Qc (ceK e1) (16 * ceK e1) free
/-- a contract: over any world that begins with the cells of 'lay', from any start that the meaning admits -/
def am_CT (l : Launch) (lay : List LC) (e1 : CE) : Prop := ∀ layW, lay <+: layW → ∀ (D : va_G) (al : Nat → Nat) (kC : Nat → ClassId) (as : List AV) (F : FF) (A : AA) (K : KK) (sz : Nat), ceS e1 as F A K →
  am_Met l e1 (va_Pc (as.map (am_cv al)) (am_B (ceT e1) D al kC layW F A sz)) (am_Q (ceR e1) K D al kC layW (va_A (am_ws al kC layW F A) sz)) (am_X K D al kC layW (va_A (am_ws al kC layW F A) sz)) (va_A (am_ws al kC layW F A) sz)
/-- what a call's site needs -/
def am_cal (l : Launch) (lay : List LC) (own : String) (lvO : Nat) (k : Nat) (e1 : CE) : Prop :=
  am_CT l lay e1 ∧ Cond.code (ceY e1) (ceB e1) (ceM e1) (ceR e1) ∈ am_tb ∧ Cond.initialized (ceY e1).cls ∈ am_tb ∧
  ((ceY e1).cls ≠ "java/lang/invoke/MethodHandle" ∧ (ceY e1).cls ≠ "java/lang/invoke/VarHandle" ∧ (parseMethodDescriptor (ceY e1).desc).map (fun d => d.parameters.length) = some (ceN e1)) ∧ ceM e1 ≤ 29 ∧ ceL e1 + 1 ≤ lvO ∧
  match ceC e1 with
  | none => Cond.static (ceY e1) ∈ am_tb ∧ ((Cond.methodLink own k (ceY e1) ∈ am_tb ∧ ceT e1 ≠ 1) ∨ (ceT e1 = 0 ∧ ∃ host, Cond.methodLinkNest own k (ceY e1) host ∈ am_tb))
  | some ci => Cond.instanceMethod (ceY e1) ∈ am_tb ∧ Cond.selects (ceY e1).cls (ceY e1) (ceY e1) ∈ am_tb ∧ Cond.methodLink own k (ceY e1) ∈ am_tb ∧ ∃ T N, vwCl[ci]? = some ((ceY e1).cls, T, N)
theorem am_Z_moved {B : Nat → Prop} {u U : State} {H : Heap} (hW : u.WarmedH U.vm) (h : am_Z B u H) : am_Z B U H := by
  obtain ⟨h1, h2, ⟨a, h3⟩, ⟨b, h4⟩⟩ := h
  exact ⟨vx_Zq.moved hW.alike h1, vx_Zq.moved hW.alike h2, ⟨a, vk_R.warm hW h3⟩, ⟨b, vk_R.warm hW h4⟩⟩
theorem am_Z_same {B : Nat → Prop} {u U : State} {H : Heap} (hv : U.vm = u.vm) (h : am_Z B u H) : am_Z B U H := by
  obtain ⟨h1, h2, ⟨a, h3⟩, ⟨b, h4⟩⟩ := h
  have ha : u.vm.Alike U.vm := by rw [hv]; exact Vm.Alike.refl _
  exact ⟨vx_Zq.moved ha h1, vx_Zq.moved ha h2, ⟨a, vk_R.same hv h3⟩, ⟨b, vk_R.same hv h4⟩⟩
theorem am_Z_kept {B : Nat → Prop} {U : State} {H H1 : Heap} (h : am_Z B U H) (hq : ∀ a : Nat, a < H.size → ¬ B a → H1[a]? = H[a]?) : am_Z B U H1 := ⟨vx_Zq.kept h.1 hq, vx_Zq.kept h.2.1 hq, h.2.2.1, h.2.2.2⟩
theorem am_Z_narrow {B C : Nat → Prop} {U : State} {H : Heap} (h : am_Z B U H) (hBC : ∀ q, C q → B q) : am_Z C U H := ⟨vx_Zq.narrow h.1 hBC, vx_Zq.narrow h.2.1 hBC, h.2.2.1, h.2.2.2⟩
theorem am_blind {as : List Value} {kd : Nat} {D : va_G} {al : Nat → Nat} {kC : Nat → ClassId} {layW : List LC} {F : FF} {A : AA} {sz : Nat} : FrameBlind (va_Pc as (am_B kd D al kC layW F A sz)) := by
  intro a U g mk h
  obtain ⟨h0, h1, h2, h3, h4, h5⟩ := h
  exact ⟨h0, h1, h2, va_K.moved (u := U) (U := U.calling g mk a) (Vm.Alike.refl U.vm) h3, h4, fun hk => am_Z_same (u := U) (U := U.calling g mk a) rfl (h5 hk)⟩
section AMC
variable {p : Program} {l : Launch} {e : Env} {R : Room} {s : State} {m : MethodId} {args : Array Value} {below : List Frame} {meth : Method} {c : Code} {Q : State → Prop}
/-- behind a call that returns -/
theorem am_after {H : Heap} {locs : List Loc} {cells slots mc ms pc : Nat} {ls : Array Slot} {st0 rest : List Value} {a : Array Value} {ret : Option FieldType} {K2 : KK} {D : va_G} {al : Nat → Nat} {kC : Nat → ClassId} {layW : List LC} {As As1 : Nat → Prop}
    (hr : va_Run p l e R s m args below meth c H locs cells slots mc ms (F0 m pc ls st0) rest (am_Q ret K2 D al kC layW As1 a) As1) (hS : va_S As s.heap H locs) (hA : ∀ q, As1 q → As q)
    (kk : ∀ o F A, K2 (some o) F A → ∀ H1 locs1, va_P D vwCl (am_ws al kC layW F A) H1 → va_S As s.heap H1 locs1 → W p l e R s m args below meth c H1 locs1 (cells + mc) (slots + ms) Q (F0 m (pc + 3) ls ((o.toList.map (am_cv al)) ++ rest))) :
    W p l e R s m args below meth c H locs cells slots Q (F0 m pc ls st0) := by
  rcases ret with _ | t
  · refine va_callv (a := a) (S := FF × AA) hr hS (fun q _ h => hA q h) hA (fun u t H1 locs1 ht hvm hk hB hsz hkeep hS1 => ?_)
    rw [ht] at hB
    exact kk none _ _ hk _ _ hB hS1
  · by_cases hl : t = .long
    · subst hl
      refine va_calll (a := a) (S := Int × FF × AA) hr hS (fun q _ h => hA q h) hA (fun r u t H1 locs1 ht hvm hk hB hsz hkeep hS1 => ?_)
      rw [ht] at hB
      obtain ⟨rfl, hk⟩ := hk
      exact kk (some (vL u.1)) _ _ hk _ _ hB hS1
    · have e1 : am_Q (some t) K2 D al kC layW As1 = va_Qi (S := Int × FF × AA) (fun r u => r = Int32.ofInt u.1 ∧ K2 (some (some (vI u.1))) u.2.1 u.2.2) (fun u t => va_P D vwCl (am_ws al kC layW u.2.1 u.2.2) t.heap) As1 := by
        cases t <;> first | rfl | exact absurd rfl hl
      rw [e1] at hr
      refine va_calli (a := a) (S := Int × FF × AA) hr hS (fun q _ h => hA q h) hA (fun r u t H1 locs1 ht hvm hk hB hsz hkeep hS1 => ?_)
      rw [ht] at hB
      obtain ⟨rfl, hk⟩ := hk
      exact kk (some (vI u.1)) _ _ hk _ _ hB hS1
theorem am_afterX {H : Heap} {locs : List Loc} {cells slots mc ms pc : Nat} {ls : Array Slot} {st0 rest : List Value} {a : Array Value} {ret : Option FieldType} {K2 : KK} {D : va_G} {al : Nat → Nat} {kC : Nat → ClassId} {layW : List LC} {As As1 : Nat → Prop}
    (hr : vx_Run p l e R s m args below meth c H locs cells slots mc ms (F0 m pc ls st0) rest (am_Q ret K2 D al kC layW As1 a) (am_X K2 D al kC layW As1) As1) (hS : va_S As s.heap H locs) (hA : ∀ q, As1 q → As q)
    (kx : ∀ F A, K2 none F A → ∀ H1 locs1 ce q9, va_P D vwCl (am_ws al kC layW F A) H1 → va_S As s.heap H1 locs1 → H1[q9]? = some ce → ce.vm = .none → s.vm.findClass am_iob = some ce.cls → vx_W p l e R s m args below meth c H1 locs1 (cells + mc) (slots + ms) Q (F0 m pc ls rest) q9)
    (kk : ∀ o F A, K2 (some o) F A → ∀ H1 locs1, va_P D vwCl (am_ws al kC layW F A) H1 → va_S As s.heap H1 locs1 → W p l e R s m args below meth c H1 locs1 (cells + mc) (slots + ms) Q (F0 m (pc + 3) ls ((o.toList.map (am_cv al)) ++ rest))) :
    W p l e R s m args below meth c H locs cells slots Q (F0 m pc ls st0) := by
  have kx2 : ∀ (E : String) (ce : Cell) (q9 : Addr) (u : FF × AA) (t : State) (H1 : Heap) (locs1 : List Loc), t.heap = H1 → s.vm.Alike t.vm → K2 none u.1 u.2 → (E = am_iob ∧ va_P D vwCl (am_ws al kC layW u.1 u.2) t.heap) → H.size ≤ H1.size → (∀ q : Nat, q < H.size → ¬ As1 q → H1[q]? = H[q]?) → va_S As s.heap H1 locs1 → H1[q9]? = some ce → ce.vm = .none → s.vm.findClass E = some ce.cls → vx_W p l e R s m args below meth c H1 locs1 (cells + mc) (slots + ms) Q (F0 m pc ls rest) q9 := by
    intro E ce q9 u t H1 locs1 ht hvm hk hB hsz hkeep hS1 hce hcv hcl
    obtain ⟨rfl, hB⟩ := hB
    rw [ht] at hB
    exact kx _ _ hk _ _ _ _ hB hS1 hce hcv hcl
  rcases ret with _ | t
  · refine vx_callv (a := a) (S := FF × AA) (SX := FF × AA) hr hS (fun q _ h => hA q h) hA (fun q _ h => hA q h) kx2 (fun u t H1 locs1 ht hvm hk hB hsz hkeep hS1 => ?_)
    rw [ht] at hB
    exact kk none _ _ hk _ _ hB hS1
  · by_cases hl : t = .long
    · subst hl
      refine vx_calll (a := a) (S := Int × FF × AA) (SX := FF × AA) hr hS (fun q _ h => hA q h) hA (fun q _ h => hA q h) kx2 (fun r u t H1 locs1 ht hvm hk hB hsz hkeep hS1 => ?_)
      rw [ht] at hB
      obtain ⟨rfl, hk⟩ := hk
      exact kk (some (vL u.1)) _ _ hk _ _ hB hS1
    · have e1 : am_Q (some t) K2 D al kC layW As1 = va_Qi (S := Int × FF × AA) (fun r u => r = Int32.ofInt u.1 ∧ K2 (some (some (vI u.1))) u.2.1 u.2.2) (fun u t => va_P D vwCl (am_ws al kC layW u.2.1 u.2.2) t.heap) As1 := by
        cases t <;> first | rfl | exact absurd rfl hl
      rw [e1] at hr
      refine vx_calli (a := a) (S := Int × FF × AA) (SX := FF × AA) hr hS (fun q _ h => hA q h) hA (fun q _ h => hA q h) kx2 (fun r u t H1 locs1 ht hvm hk hB hsz hkeep hS1 => ?_)
      rw [ht] at hB
      obtain ⟨rfl, hk⟩ := hk
      exact kk (some (vI u.1)) _ _ hk _ _ hB hS1
set_option maxHeartbeats 4000000 in
theorem am_call_ok {cc : ByteArray} {own : String} {nL : Nat} {D : va_G} {al : Nat → Nat} {kC : Nat → ClassId} {layW : List LC} {As : Nat → Prop} {cb sb lvO : Nat} {x : CX} {K : KK} {rec : REC} {e1 : CE} {k pc : Nat} {i : Instr}
    (hE : am_env p l e R s m args c cc own nL D al kC layW As cb sb (cxMc x) am_tb)
    (hR : lvO ≤ R.frames ∧ 48 * lvO ≤ R.locals)
    (hrec : ∀ pc ls st F A u, rec pc ls st F A u → am_W p l e R s m args below meth c Q nL D al kC layW As cb sb (cxMc x) pc ls st F A u)
    (hpre : cxLay x <+: layW)
    (hZ : ceT e1 ≠ 0 → am_Z As s s.heap)
    (hexc : ceT e1 = 1 → ∀ ls F A u, (match cxHnd x with
      | some h => rec h (ls.map fun _ => none) [] F A u
      | none => cond (cxThr x) (K none F A) False) → u ≤ cxMc x → ∀ H locs lsC rest q9 ce, am_LR al lsC nL ls → va_P D vwCl (am_ws al kC layW F A) H → va_S As s.heap H locs → H[q9]? = some ce → ce.vm = .none → s.vm.findClass am_iob = some ce.cls → vx_W p l e R s m args below meth c H locs (cb + u) (sb + 16 * u) Q (F0 m pc lsC rest) q9)
    (hcal : am_cal l (cxLay x) own lvO k e1)
    (hd : decode cc pc = .ok (i, 3)) (hi : i = .invokevirtual k ∨ i = .invokestatic k) (hi2 : i = .invokestatic k ↔ ceC e1 = none)
    {ls : LVs} {st : List AV} {F : FF} {A : AA} {u : Nat} (h : am_call (cxLay x) (cxThr x) (cxHnd x) (cxMc x) rec K (pc + 3) ls st F A u e1) :
    am_W p l e R s m args below meth c Q nL D al kC layW As cb sb (cxMc x) pc ls st F A u := by
  obtain ⟨hx, hb, hml, hown, hts, hK, hdis, hA, hRc, hRs⟩ := id hE
  obtain ⟨hCT, hcode, hini, hdsc, hmx, hlv, hkind⟩ := hcal
  intro hu H locs lsC hl hP hS
  unfold am_call at h
  replace h := am_cond_ok h
  obtain ⟨hchk, h⟩ := h
  simp only [Bool.and_eq_true] at hchk
  obtain ⟨⟨⟨hc1, hc2⟩, hc3⟩, hc4⟩ := hchk
  have hc1 := Nat.le_of_ble_eq_true hc1
  have hc2 := Nat.le_of_ble_eq_true hc2
  have hc3 := Nat.le_of_ble_eq_true hc3
  have hM := hCT layW hpre D al kC _ F A _ H.size h
  have hAA : ∀ q, va_A (am_ws al kC layW F A) H.size q → As q := by
    intro q hq
    rcases hq with ⟨j, e9, hj⟩ | hq
    · exact (am_dis_D hdis F A).2 j _ hj
    · exact hA q (Nat.le_trans hS.1 hq)
  have hB : ∀ U : State, U.heap = H → s.WarmedH U.vm → am_B (ceT e1) D al kC layW F A H.size U := by
    intro U hU hW
    refine ⟨by rw [hU], by rw [hU]; exact hP, va_K.moved hW.alike hK, ⟨hdis.1, fun _ _ => trivial⟩, fun hk => ?_⟩
    rw [hU]
    exact am_Z_narrow (am_Z_moved hW (am_Z_kept (hZ hk) (fun a h1 h2 => hS.2.1 a h1 h2))) hAA
  have hfit : cb + u + ceK e1 ≤ R.cells ∧ sb + 16 * u + 16 * ceK e1 ≤ R.slots := ⟨by omega, by omega⟩
  have hroom : (am_rm (ceL e1) (ceK e1)).frames + 1 ≤ R.frames ∧ 8 + (ceM e1 + 11) + (am_rm (ceL e1) (ceK e1)).locals ≤ R.locals := ⟨by show ceL e1 + 1 ≤ _; omega, by show _ + 48 * ceL e1 ≤ _; omega⟩
  have hcont : ∀ o F' A', (match (some o : AO) with
      | some (some v) => rec (pc + 3) ls (v :: st.drop (match ceC e1 with | none => ceN e1 | some _ => ceN e1 + 1)) F' A' (u + ceK e1)
      | some none => rec (pc + 3) ls (st.drop (match ceC e1 with | none => ceN e1 | some _ => ceN e1 + 1)) F' A' (u + ceK e1)
      | none => (match cxHnd x with
        | some h => rec h (ls.map fun _ => none) [] F' A' (u + ceK e1)
        | none => cond (cxThr x) (K none F' A') False)) → ∀ H1 locs1, va_P D vwCl (am_ws al kC layW F' A') H1 → va_S As s.heap H1 locs1 →
      W p l e R s m args below meth c H1 locs1 (cb + u + ceK e1) (sb + 16 * u + 16 * ceK e1) Q (F0 m (pc + 3) lsC ((o.toList.map (am_cv al)) ++ (st.drop (match ceC e1 with | none => ceN e1 | some _ => ceN e1 + 1)).map (am_cv al))) := by
    intro o F' A' ho H1 locs1 hP1 hS1
    rw [show cb + u + ceK e1 = cb + (u + ceK e1) by omega, show sb + 16 * u + 16 * ceK e1 = sb + 16 * (u + ceK e1) by omega]
    cases o with
    | none => exact hrec _ _ _ _ _ _ ho hc1 _ _ _ hl hP1 hS1
    | some v => exact hrec _ _ _ _ _ _ ho hc1 _ _ _ hl hP1 hS1
  have hfix : CallFix p m c cc nL s args am_tb own := ⟨hx, hb, hml, hown, hts⟩
  unfold am_Met at hM
  cases hC : ceC e1 with
  | none =>
    rw [hC] at hkind hM h hc2 hc3 hcont
    dsimp only at hkind hM h hc2 hc3 hcont
    obtain ⟨k1, k2⟩ := hkind
    have hdg : decode cc pc = .ok (.invokestatic k, 3) := by rw [hd, hi2.mpr hC]
    have hst : st.map (am_cv al) = ((st.take (ceN e1)).reverse.map (am_cv al)).reverse ++ (st.drop (ceN e1)).map (am_cv al) := by
      rw [List.map_reverse, List.reverse_reverse, ← List.map_append, List.take_append_drop]
    have hlen : ((st.take (ceN e1)).reverse.map (am_cv al)).length = ceN e1 := by simp; omega
    have hpS : PreS s H (va_Pc ((st.take (ceN e1)).reverse.map (am_cv al)) (am_B (ceT e1) D al kC layW F A H.size)) ((st.take (ceN e1)).reverse.map (am_cv al)) := ⟨am_blind, fun U hU hW => ⟨rfl, hB U hU hW⟩⟩
    split at hM
    · rename_i hk0
      rcases k2 with ⟨k2, -⟩ | ⟨-, host, k2⟩
      · have hr := va_runS (meth := meth) (below := below) (e := e) (g := F0 m pc lsC (st.map (am_cv al))) (rest := (st.drop (ceN e1)).map (am_cv al)) (locs := locs) (cells := cb + u) (slots := sb + 16 * u) hfix hM ⟨am_callB (R := R) (args := args) (index := k) (ceN e1) (am_pay hts hcode) (hts _ hcode) rfl rfl rfl (hts _ hini) (hts _ k2) hdsc hroom, hts _ k1⟩ hpS rfl hlen (by rw [hl.2.1]) hst (lv_room (by rw [am_sum_eq]; exact hc2)) hdg hfit
        exact am_after hr hS hAA hcont
      · have hr := va_runSN (meth := meth) (below := below) (e := e) (g := F0 m pc lsC (st.map (am_cv al))) (rest := (st.drop (ceN e1)).map (am_cv al)) (locs := locs) (cells := cb + u) (slots := sb + 16 * u) hfix hM ⟨am_cnB (R := R) (args := args) (index := k) (host := host) (ceN e1) (am_pay hts hcode) (hts _ hcode) rfl rfl rfl (hts _ k2) (hts _ hini) hdsc hroom, hts _ k1, trivial⟩ hpS rfl hlen (by rw [hl.2.1]) hst (lv_room (by rw [am_sum_eq]; exact hc2)) hdg hfit
        exact am_after hr hS hAA hcont
    · rename_i hk1
      rcases k2 with ⟨-, k2⟩ | ⟨k2, -⟩ <;> omega
    · rename_i hk0 hk1
      rcases k2 with ⟨k2, -⟩ | ⟨k2, -⟩
      · have hr := va_runS (meth := meth) (below := below) (e := e) (g := F0 m pc lsC (st.map (am_cv al))) (rest := (st.drop (ceN e1)).map (am_cv al)) (locs := locs) (cells := cb + u) (slots := sb + 16 * u) hfix hM ⟨am_callB (R := R) (args := args) (index := k) (ceN e1) (am_pay hts hcode) (hts _ hcode) rfl rfl rfl (hts _ hini) (hts _ k2) hdsc hroom, hts _ k1⟩ hpS rfl hlen (by rw [hl.2.1]) hst (lv_room (by rw [am_sum_eq]; exact hc2)) hdg hfit
        exact am_after hr hS hAA hcont
      · exact absurd k2 hk0
  | some ci =>
    rw [hC] at hkind hM h hc2 hc3 hcont hc4
    dsimp only at hkind hM h hc2 hc3 hcont hc4
    obtain ⟨k1, k2, k3, T, N, k4⟩ := hkind
    have hdg : decode cc pc = .ok (.invokevirtual k, 3) := by
      rcases hi with hi | hi
      · rw [hd, hi]
      · rw [hi2.mp hi] at hC; cases hC
    split at hc4
    · rename_i hq; cases hq
    · rename_i ci' o hq1 hq2
      cases hq1
      split at hc4
      · rename_i cj fs hlay
        have hc4 := am_bq hc4
        subst hc4
        have hsp : st.take (ceN e1 + 1) = st.take (ceN e1) ++ [vR o] := by rw [List.take_add_one, hq2]; rfl
        have hrev : (st.take (ceN e1 + 1)).reverse.map (am_cv al) = .ref (al o) :: (st.take (ceN e1)).reverse.map (am_cv al) := by
          rw [hsp, List.reverse_append, List.map_append]; rfl
        rw [hrev] at hM
        have hst : st.map (am_cv al) = ((st.take (ceN e1)).reverse.map (am_cv al)).reverse ++ .ref (al o) :: (st.drop (ceN e1 + 1)).map (am_cv al) := by
          have e9 : st = st.take (ceN e1) ++ vR o :: st.drop (ceN e1 + 1) := by
            have e8 := (List.take_append_drop (ceN e1 + 1) st).symm
            rw [hsp, List.append_assoc] at e8
            exact e8
          conv => lhs; rw [e9]
          rw [List.map_reverse, List.reverse_reverse, List.map_append]
          rfl
        have hlen : ((st.take (ceN e1)).reverse.map (am_cv al)).length = ceN e1 := by simp; omega
        have hpV : PreV s H (ceY e1).cls (al o) (va_Pc (.ref (al o) :: (st.take (ceN e1)).reverse.map (am_cv al)) (am_B (ceT e1) D al kC layW F A H.size)) ((st.take (ceN e1)).reverse.map (am_cv al)) :=
          ⟨am_blind, va_recv (q := ((ceY e1).cls, T, N)) hK hP k4 (am_ws_get (am_pre hpre hlay)), fun U hU hW => ⟨rfl, hB U hU hW⟩⟩
        have hcw : ∀ w, w ∈ am_tb → w.before args s = true := fun w hw => hts w hw
        split at hM
        · rename_i hk0
          have hr := va_runV (meth := meth) (below := below) (e := e) (g := F0 m pc lsC (st.map (am_cv al))) (rest := (st.drop (ceN e1 + 1)).map (am_cv al)) (locs := locs) (cells := cb + u) (slots := sb + 16 * u) hfix hM ⟨am_callB (R := R) (args := args) (index := k) (ceN e1) (am_pay hts hcode) (hts _ hcode) rfl rfl rfl (hts _ hini) (hts _ k3) hdsc hroom, hts _ k1, hts _ k2⟩ hpV rfl hlen (by rw [hl.2.1]) hst (lv_room (by rw [am_sum_eq]; exact hc2)) hdg hfit
          exact am_after hr hS hAA hcont
        · rename_i hk1
          have hr := vx_runV (meth := meth) (below := below) (e := e) (g := F0 m pc lsC (st.map (am_cv al))) (rest := (st.drop (ceN e1 + 1)).map (am_cv al)) (locs := locs) (cells := cb + u) (slots := sb + 16 * u) hfix hM ⟨am_callB (R := R) (args := args) (index := k) (ceN e1) (am_pay hts hcode) (hts _ hcode) rfl rfl rfl (hts _ hini) (hts _ k3) hdsc hroom, hts _ k1, hts _ k2⟩ hpV rfl hlen (by rw [hl.2.1]) hst (lv_room (by rw [am_sum_eq]; exact hc2)) hdg hfit
          refine am_afterX hr hS hAA (fun F' A' hn H1 locs1 ce q9 hP1 hS1 hce hcv hcl => ?_) hcont
          rw [show cb + u + ceK e1 = cb + (u + ceK e1) by omega, show sb + 16 * u + 16 * ceK e1 = sb + 16 * (u + ceK e1) by omega]
          exact hexc hk1 ls F' A' (u + ceK e1) hn hc1 H1 locs1 lsC _ q9 ce hl hP1 hS1 hce hcv hcl
        · rename_i hk0 hk1
          have hr := va_runV (meth := meth) (below := below) (e := e) (g := F0 m pc lsC (st.map (am_cv al))) (rest := (st.drop (ceN e1 + 1)).map (am_cv al)) (locs := locs) (cells := cb + u) (slots := sb + 16 * u) hfix hM ⟨am_callB (R := R) (args := args) (index := k) (ceN e1) (am_pay hts hcode) (hts _ hcode) rfl rfl rfl (hts _ hini) (hts _ k3) hdsc hroom, hts _ k1, hts _ k2⟩ hpV rfl hlen (by rw [hl.2.1]) hst (lv_room (by rw [am_sum_eq]; exact hc2)) hdg hfit
          exact am_after hr hS hAA hcont
      · cases hc4
    · cases hc4
end AMC
end
section
/-! from a verified body to a contract -/
def am_fl (as : List AV) : LVs := as.flatMap fun v => if am_cat v = 2 then [some v, none] else [some v]
def am_ent (as : List AV) (n : Nat) : LVs := am_fl as ++ List.replicate (n - (am_fl as).length) none
theorem am_fl_eq (al : Nat → Nat) (as : List AV) : lg_sl (as.map (am_cv al)) = (am_fl as).map (fun o => match o with
    | some v => Slot.val (am_cv al v)
    | none => Slot.second) := by
  induction as with
  | nil => rfl
  | cons a as ih =>
    have e1 : lg_sl ((a :: as).map (am_cv al)) = (if am_cat a = 2 then [Slot.val (am_cv al a), Slot.second] else [Slot.val (am_cv al a)]) ++ lg_sl (as.map (am_cv al)) := by
      simp only [lg_sl, List.map_cons, List.flatMap_cons, am_cv_cat]
    have e2 : am_fl (a :: as) = (if am_cat a = 2 then [some a, none] else [some a]) ++ am_fl as := rfl
    rw [e1, e2, ih, List.map_append]
    congr 1
    split <;> rfl
theorem am_LR_ent {al : Nat → Nat} {as : List AV} {n : Nat} (h : (am_fl as).length ≤ n) :
    am_LR al ((lg_sl (as.map (am_cv al)) ++ List.replicate (n - (lg_sl (as.map (am_cv al))).length) Slot.unset).toArray) n (am_ent as n) := by
  have hlen : (lg_sl (as.map (am_cv al))).length = (am_fl as).length := by rw [am_fl_eq, List.length_map]
  have hL := lv_entry (as.map (am_cv al)) (n := n) (by rw [hlen]; exact h)
  refine ⟨?_, hL.1, hL.2.1, fun i v hi => ?_⟩
  · unfold am_ent; rw [List.length_append, List.length_replicate]; omega
  · unfold am_ent at hi
    rw [List.getElem?_toArray, hlen, am_fl_eq]
    by_cases hlt : i < (am_fl as).length
    · rw [List.getElem?_append_left hlt] at hi
      rw [List.getElem?_append_left (by rw [List.length_map]; exact hlt), List.getElem?_map, hi]
      rfl
    · rw [List.getElem?_append_right (by omega), List.getElem?_replicate] at hi
      split at hi <;> cases hi
/-- the fixed tables of a frame are what the constant pool and the bytes have -/
def am_sta (l : Launch) (x : CX) (own : String) (lvO : Nat) (cc : ByteArray) : Prop :=
  (∀ pc i nx ts, cxCode x pc = some (i, nx, ts) → am_cok cc pc (i, nx, ts) = true) ∧ am_lok (cxLay x) = true ∧
  (∀ k ci j w, cxFld x k = some (ci, j, w) → am_fok own am_tb k ci j w) ∧
  (∀ k v, cxCst x k = some v → Cond.constant own k (Int32.ofInt v) ∈ am_tb) ∧
  (∀ k v, cxCsL x k = some v → Cond.constantLong own k (Int64.ofInt v) ∈ am_tb) ∧
  (∀ k, (cxMth x k = 1 → Cond.methodLink own k Lib.Math.min.name ∈ am_tb ∧ Cond.static Lib.Math.min.name ∈ am_tb ∧ Cond.initialized "java/lang/Math" ∈ am_tb ∧ Cond.code Lib.Math.min.name Lib.Math.min.code 2 (some .int) ∈ am_tb) ∧
      (cxMth x k = 2 → Cond.methodLink own k Lib.Math.max.name ∈ am_tb ∧ Cond.static Lib.Math.max.name ∈ am_tb ∧ Cond.initialized "java/lang/Math" ∈ am_tb ∧ Cond.code Lib.Math.max.name Lib.Math.max.code 2 (some .int) ∈ am_tb) ∧
      (cxMth x k = 3 → Cond.methodLink own k Lib.Math.abs.name ∈ am_tb ∧ Cond.static Lib.Math.abs.name ∈ am_tb ∧ Cond.initialized "java/lang/Math" ∈ am_tb ∧ Cond.code Lib.Math.abs.name Lib.Math.abs.code 1 (some .int) ∈ am_tb) ∧
      (cxMth x k = 4 → Cond.methodLink own k arraycopyName ∈ am_tb ∧ Cond.native arraycopyName ∈ am_tb ∧ Cond.static arraycopyName ∈ am_tb ∧ Cond.initialized "java/lang/System" ∈ am_tb) ∧
      (cxMth x k ≠ 0 → 3 ≤ lvO)) ∧
  (∀ k e1, cxCal x k = some e1 → am_cal l (cxLay x) own lvO k e1)
section AMM
variable {p : Program} {l : Launch} {e : Env} {R : Room} {s : State} {m : MethodId} {args : Array Value} {below : List Frame} {meth : Method} {c : Code} {Q : State → Prop}
theorem am_run_ok {cc : ByteArray} {own : String} {nL : Nat} {D : va_G} {al : Nat → Nat} {kC : Nat → ClassId} {layW : List LC} {As : Nat → Prop} {cb sb lvO : Nat} {x : CX} {K : KK}
    (hE : am_env p l e R s m args c cc own nL D al kC layW As cb sb (cxMc x) am_tb)
    (hR : lvO ≤ R.frames ∧ 48 * lvO ≤ R.locals) (hpre : cxLay x <+: layW) (hsta : am_sta l x own lvO cc)
    (hZ : (∃ k e1, cxCal x k = some e1 ∧ ceT e1 ≠ 0) → am_Z As s s.heap)
    (hscr : ∀ L xs, cxScr x = some (L, xs) → ∃ (Ln : Nat) (xn : Nat → Int32), L = Ln ∧ Ln < 2147483648 ∧ (∀ j : Nat, xs j = (xn j).toInt) ∧ va_X (al 999) Ln xn s s.heap ∧ al 999 < s.heap.size ∧ ¬ As (al 999))
    (hspc : ∀ rec : REC, (∀ pc ls st F A u, rec pc ls st F A u → am_W p l e R s m args below meth c Q nL D al kC layW As cb sb (cxMc x) pc ls st F A u) →
      ∀ pc b, cxSpc x pc = some b → ∀ ls st F A u, b rec K ls st F A u → am_W p l e R s m args below meth c Q nL D al kC layW As cb sb (cxMc x) pc ls st F A u)
    (hexc : ∀ rec : REC, (∀ pc ls st F A u, rec pc ls st F A u → am_W p l e R s m args below meth c Q nL D al kC layW As cb sb (cxMc x) pc ls st F A u) →
      ∀ pc k e1, decode cc pc = .ok (.invokevirtual k, 3) → cxCal x k = some e1 → ceT e1 ≠ 0 → ∀ ls F A u, (match cxHnd x with
      | some h => rec h (ls.map fun _ => none) [] F A u
      | none => cond (cxThr x) (K none F A) False) → u ≤ cxMc x → ∀ H locs lsC rest q9 ce, am_LR al lsC nL ls → va_P D vwCl (am_ws al kC layW F A) H → va_S As s.heap H locs → H[q9]? = some ce → ce.vm = .none → s.vm.findClass am_iob = some ce.cls → vx_W p l e R s m args below meth c H locs (cb + u) (sb + 16 * u) Q (F0 m pc lsC rest) q9)
    (hret : ∀ pc o F A ls u i, (match o with | some (.inl a) => i = Instr.ireturn ∧ (cxRet x = some .int ∨ cxRet x = some .boolean ∧ (a = 0 ∨ a = 1)) | some (.inr (.inl _)) => i = Instr.lreturn ∧ cxRet x = some .long | some (.inr (.inr _)) => False | none => i = Instr.return_ ∧ cxRet x = none) → decode cc pc = .ok (i, 1) → K (some o) F A → am_W p l e R s m args below meth c Q nL D al kC layW As cb sb (cxMc x) pc ls o.toList F A u)
    (rec : REC) (hrec : ∀ pc ls st F A u, rec pc ls st F A u → am_W p l e R s m args below meth c Q nL D al kC layW As cb sb (cxMc x) pc ls st F A u)
    {pc : Nat} {ls : LVs} {st : List AV} {F : FF} {A : AA} {u : Nat} (h : am_stp x rec K pc ls st F A u) : am_W p l e R s m args below meth c Q nL D al kC layW As cb sb (cxMc x) pc ls st F A u := by
  unfold am_stp at h
  split at h
  · rename_i b hb
    exact hspc rec hrec _ _ hb _ _ _ _ _ h
  split at h
  · rename_i i nx ts hc
    obtain ⟨h1, h2, h3, h4, h5, h6, h7⟩ := hsta
    refine am_ins_ok hE hrec hpre h2 h3 h4 h5 (fun k => ?_) hscr (hspc rec hrec) ?_ hret (h1 _ _ _ _ hc) h
    · obtain ⟨a1, a2, a3, a4, a5⟩ := h6 k
      exact ⟨a1, a2, a3, a4, fun q => by have := a5 q; omega⟩
    · intro k nx2 i2 pc2 e1 hk hd hi hi2 ls st F A u hcall
      refine am_call_ok hE hR hrec hpre (fun q => hZ ⟨k, e1, hk, q⟩) (K := K) (fun hT ls F A u hx => ?_) (h7 k e1 hk) hd hi hi2 hcall
      refine hexc rec hrec pc2 k e1 ?_ hk (by rw [hT]; decide) ls F A u hx
      have h8 := (h7 k e1 hk).2.2.2.2.2.2
      rcases hi with hi | hi
      · rw [hd, hi]
      · rw [hi2.mp hi] at h8
        dsimp only at h8
        rcases h8.2 with ⟨-, q⟩ | ⟨q, -⟩ <;> omega
  · exact h.elim
/-- fewer locals known -/
def am_sub (l' l : LVs) : Prop := l'.length = l.length ∧ ∀ (i : Nat) (v : AV), l'[i]? = some (some v) → l[i]? = some (some v)
theorem am_mask_sub : ∀ (b : List Bool) (l : LVs), am_sub (am_mask b l) l
  | [], l => by
    refine ⟨by simp [am_mask], fun i v h => ?_⟩
    simp [am_mask] at h
  | c :: bs, [] => ⟨rfl, fun i v h => h⟩
  | c :: bs, a :: l => by
    obtain ⟨h1, h2⟩ := am_mask_sub bs l
    refine ⟨by simp [am_mask, h1], fun i v h => ?_⟩
    match i, h with
    | 0, h =>
      cases c
      · simp [am_mask] at h
      · simpa [am_mask] using h
    | i + 1, h => simpa using h2 i v (by simpa [am_mask] using h)
theorem am_W_sub {nL : Nat} {D : va_G} {al : Nat → Nat} {kC : Nat → ClassId} {layW : List LC} {As : Nat → Prop} {cb sb mcO : Nat} {pc : Nat} {ls ls' : LVs} {st : List AV} {F : FF} {A : AA} {u : Nat} (hs : am_sub ls' ls)
    (h : am_W p l e R s m args below meth c Q nL D al kC layW As cb sb mcO pc ls' st F A u) : am_W p l e R s m args below meth c Q nL D al kC layW As cb sb mcO pc ls st F A u :=
  fun hu H locs lsC hl hP hS => h hu H locs lsC ⟨hs.1.trans hl.1, hl.2.1, hl.2.2.1, fun i v hv => hl.2.2.2 i v (hs.2 i v hv)⟩ hP hS
/-- what the machine gives: a step, and fewer locals -/
def am_good (x : CX) (K : KK) (V : REC) : Prop := (∀ (rec : REC), (∀ pc ls st F A u, rec pc ls st F A u → V pc ls st F A u) → ∀ pc ls st F A u, am_stp x rec K pc ls st F A u → V pc ls st F A u) ∧ ∀ pc ls ls' st F A u, am_sub ls' ls → V pc ls' st F A u → V pc ls st F A u
/-- a whole run up to the cuts -/
theorem am_runs {x : CX} {K : KK} {cut : CUT} {Kc V : REC} (hK : ∀ pc ls st F A u, Kc pc ls st F A u → V pc ls st F A u) (hg : am_good x K V) :
    ∀ n pc ls st F A u, am_run x cut Kc K n pc ls st F A u → V pc ls st F A u := by
  intro n
  induction n with
  | zero => intro pc ls st F A u h; exact h.elim
  | succ n ih =>
    intro pc ls st F A u h
    unfold am_run at h
    split at h
    · rename_i b hb
      exact hg.2 _ _ _ _ _ _ _ (am_mask_sub b ls) (hK _ _ _ _ _ _ h)
    · exact hg.1 _ ih _ _ _ _ _ _ h
/-- what is to be verified of a body, without the machine: an invariant I at the cuts and a number that falls -/
def am_ver (x : CX) (cut : CUT) (n : Nat) (I : REC) (mu : Nat → LVs → List AV → FF → AA → Nat) (K : KK) : Prop := ∀ pc ls st F A u, I pc ls st F A u →
  am_stp x (am_run x cut (fun pc' ls' st' F' A' u' => I pc' ls' st' F' A' u' ∧ mu pc' ls' st' F' A' < mu pc ls st F A) K n) K pc ls st F A u
theorem am_vers {x : CX} {K : KK} {cut : CUT} {n : Nat} {I V : REC} {mu : Nat → LVs → List AV → FF → AA → Nat} (hv : am_ver x cut n I mu K) (hg : am_good x K V) :
    ∀ k pc ls st F A u, I pc ls st F A u → mu pc ls st F A < k → V pc ls st F A u := by
  intro k
  induction k with
  | zero => intro pc ls st F A u _ h; omega
  | succ k ih =>
    intro pc ls st F A u hI hk
    exact hg.1 _ (am_runs (fun pc' ls' st' F' A' u' h => ih _ _ _ _ _ _ h.1 (by have := h.2; omega)) hg n) _ _ _ _ _ _ (hv _ _ _ _ _ _ hI)
end AMM
/-- a body that needs no cut -/
def am_line (x : CX) (n : Nat) (as : List AV) (nL : Nat) (F : FF) (A : AA) (K : KK) : Prop := am_stp x (am_run x (fun _ => none) (fun _ _ _ _ _ _ => False) K n) K 0 (am_ent as nL) [] F A 0
/-- a body with cuts, from its entry -/
def am_body (x : CX) (cut : CUT) (n : Nat) (I : REC) (mu : Nat → LVs → List AV → FF → AA → Nat) (as : List AV) (nL : Nat) (F : FF) (A : AA) (K : KK) : Prop :=
  am_stp x (am_run x cut I K n) K 0 (am_ent as nL) [] F A 0 ∧ am_ver x cut n I mu K
/-- the body of a method, verified or run: any way that gives the machine's own step its place -/
def am_way (x : CX) (as : List AV) (nL : Nat) (F : FF) (A : AA) (K : KK) : Prop := ∀ V : REC, am_good x K V → V 0 (am_ent as nL) [] F A 0
theorem am_way_line {x : CX} {n : Nat} {as : List AV} {nL : Nat} {F : FF} {A : AA} {K : KK} (h : am_line x n as nL F A K) : am_way x as nL F A K := fun _ hg =>
  hg.1 _ (am_runs (fun _ _ _ _ _ _ hI => hI.elim) hg n) _ _ _ _ _ _ h
theorem am_way_body {x : CX} {cut : CUT} {n : Nat} {I : REC} {mu : Nat → LVs → List AV → FF → AA → Nat} {as : List AV} {nL : Nat} {F : FF} {A : AA} {K : KK} (h : am_body x cut n I mu as nL F A K) : am_way x as nL F A K := fun _ hg =>
  hg.1 _ (am_runs (fun _ _ _ _ _ _ hI => am_vers h.2 hg _ _ _ _ _ _ _ hI (Nat.lt_succ_self _)) hg n) _ _ _ _ _ _ h.1
set_option maxHeartbeats 4000000 in
/-- a method that returns (kind 0) -/
theorem am_met0 {l : Launch} {lay : List LC} {x : CX} {e1 : CE} (hT : ceT e1 = 0) (hy : plainName (ceY e1).cls = true) (hlay : cxLay x = lay) (hret : cxRet x = ceR e1) (hmc : cxMc x = ceK e1) (hthr : cxThr x = false) (hhnd : cxHnd x = none) (hspc : ∀ pc, cxSpc x pc = none) (hscr : cxScr x = none)
    (hsta : am_sta l x (ceY e1).cls (ceL e1) (ceB e1)) (hcal : ∀ k e2, cxCal x k = some e2 → ceT e2 = 0)
    (hgo : ∀ as F A K, ceS e1 as F A K → (am_fl as).length ≤ ceM e1 ∧ am_way x as (ceM e1) F A K) : am_CT l lay e1 := by
  intro layW hpre D al kC as F A K sz hS
  obtain ⟨hlen, hway⟩ := hgo as F A K hS
  unfold am_Met
  rw [hT]
  refine Met.ofW (cc := ceB e1) (maxL := ceM e1) (ret := ceR e1) hy rfl ?_
  intro p e s m args below meth c s₁ B hml hv
  obtain ⟨rfl, rfl, hP, hK, hdis0, -⟩ := hv
  have hts := atoms_spec (ws := .code (ceY e1) (ceB e1) (ceM e1) (ceR e1) :: am_tb) B.pre
  have hown : s.vm.findClass (ceY e1).cls = some m.cls := findClass_of_methodNamed B.named
  have hlocks := B.notSynchronized
  rw [lg_entry_eq]
  have hLR := am_LR_ent (al := al) hlen
  generalize hAe : va_A (am_ws al kC layW F A) s.heap.size = As
  have hdis : am_dis al layW As := by
    refine ⟨hdis0.1, fun i hi => ?_⟩
    rw [← hAe]
    exact Or.inl ⟨i, _, am_ws_get (F := F) (A := A) (kC := kC) (al := al) (List.getElem?_eq_getElem hi)⟩
  have hA : ∀ q, s.heap.size ≤ q → As q := fun q h => by rw [← hAe]; exact Or.inr h
  have hE : am_env p l e (am_rm (ceL e1) (ceK e1)) s m (as.map (am_cv al)).toArray c (ceB e1) (ceY e1).cls (ceM e1) D al kC layW As 0 0 (cxMc x) am_tb :=
    ⟨B.exec, B.bytes, hml, hown, fun w hw => hts w (List.mem_cons_of_mem _ hw), hK, hdis, hA, by rw [hmc]; exact Nat.le_of_eq (Nat.zero_add _), by rw [hmc]; exact Nat.le_of_eq (Nat.zero_add _)⟩
  have hret1 : ∀ pc o F A ls u i, (match o with | some (.inl a) => i = Instr.ireturn ∧ (cxRet x = some .int ∨ cxRet x = some .boolean ∧ (a = 0 ∨ a = 1)) | some (.inr (.inl _)) => i = Instr.lreturn ∧ cxRet x = some .long | some (.inr (.inr _)) => False | none => i = Instr.return_ ∧ cxRet x = none) → decode (ceB e1) pc = .ok (i, 1) → K (some o) F A → am_W p l e (am_rm (ceL e1) (ceK e1)) s m (as.map (am_cv al)).toArray below meth c (MQ below (am_Q (ceR e1) K D al kC layW As) (as.map (am_cv al)).toArray s (ceK e1) (16 * ceK e1) As) (ceM e1) D al kC layW As 0 0 (cxMc x) pc ls o.toList F A u := by
    intro pc o F A ls u i ho hd hk hu H locs lsC hl hP1 hS1
    refine W.widen (k := ceK e1) (n := 16 * ceK e1) (by omega) (by omega) ?_
    rw [hret] at ho
    match o, ho with
    | none, ho =>
      obtain ⟨rfl, hr⟩ := ho
      exact W.vret B.exec B.bytes (by rw [B.returns]; exact hr) (fun t ht hW => by rw [hr]; exact ⟨⟨(F, A), rfl, hk, by dsimp only; rw [ht]; exact hP1⟩, hS1.F ht⟩) hS1.2.2 hd
    | some (.inl a), ho =>
      obtain ⟨rfl, hr | ⟨hr, h01⟩⟩ := ho
      · exact W.iret (v := Int32.ofInt a) B.exec B.bytes (by rw [B.returns]; exact hr) (fun t ht hW => by rw [hr]; exact ⟨⟨_, (a, F, A), rfl, ⟨rfl, hk⟩, by dsimp only; rw [ht]; exact hP1⟩, hS1.F ht⟩) hS1.2.2 hd
      · exact W.zret (v := Int32.ofInt a) (ty := .boolean) B.exec B.bytes (by rw [B.returns]; exact hr) (by rcases h01 with rfl | rfl <;> rfl) (fun t ht hW => by rw [hr]; exact ⟨⟨_, (a, F, A), rfl, ⟨rfl, hk⟩, by dsimp only; rw [ht]; exact hP1⟩, hS1.F ht⟩) hS1.2.2 hd
    | some (.inr (.inl a)), ho =>
      obtain ⟨rfl, hr⟩ := ho
      exact W.lret (v := Int64.ofInt a) B.exec B.bytes (by rw [B.returns]; exact hr) (fun t ht hW => by rw [hr]; exact ⟨⟨_, (a, F, A), rfl, ⟨rfl, hk⟩, by dsimp only; rw [ht]; exact hP1⟩, hS1.F ht⟩) hS1.2.2 hd
    | some (.inr (.inr _)), ho => exact ho.elim
  have key := hway (am_W p l e (am_rm (ceL e1) (ceK e1)) s m (as.map (am_cv al)).toArray below meth c (MQ below (am_Q (ceR e1) K D al kC layW As) (as.map (am_cv al)).toArray s (ceK e1) (16 * ceK e1) As) (ceM e1) D al kC layW As 0 0 (cxMc x)) ⟨fun rec hrec pc ls st F A u h =>
    am_run_ok hE ⟨Nat.le_refl _, Nat.le_refl _⟩ (by rw [hlay]; exact hpre) hsta (fun ⟨k, e2, h1, h2⟩ => absurd (hcal k e2 h1) h2) (fun L xs h => by rw [hscr] at h; cases h) (fun _ _ pc b h => by rw [hspc] at h; cases h)
      (fun _ _ pc k e2 _ h1 h2 => absurd (hcal k e2 h1) h2) hret1 rec hrec h, fun _ _ _ _ _ _ _ hs h => am_W_sub hs h⟩
  exact key (Nat.zero_le _) s.heap [] _ hLR hP va_S.rf
end
section
/-! the constant pools as tables; the cells of the world; what the words say of each method (written by gencls.py) -/
theorem am_tb_r (ws : List Cond) (ps : List Nat) (hp : ws = ps.filterMap (fun i => lw_tbl[i]?)) (h : ws.all goodWord = true) : ∀ w ∈ ws, w ∈ am_tb := by
  intro w hw
  have h1 := List.all_eq_true.mp h w hw
  rw [hp] at hw
  obtain ⟨i, -, hi⟩ := List.mem_filterMap.mp hw
  exact am_tb_in (List.mem_of_getElem? hi) (by unfold am_gw; rw [h1]; rfl)
theorem q_cons {α : Type} {P : Nat → α → Prop} {k0 : Nat} {a0 : α} {rest : Nat → Option α} (h : P k0 a0) (hr : ∀ k a, rest k = some a → P k a) : ∀ k a, (cond (Nat.beq k k0) (some a0) (rest k)) = some a → P k a := by
  intro k a hk
  cases hb : Nat.beq k k0 with
  | true =>
    rw [hb] at hk
    have e := Nat.eq_of_beq_eq_true hb
    subst e
    cases hk
    exact h
  | false => rw [hb] at hk; exact hr k a hk
theorem q_nil {α : Type} {P : Nat → α → Prop} : ∀ k a, ((none : Option α)) = some a → P k a := fun _ _ h => by cases h
abbrev qmP (own : String) (k n : Nat) : Prop := (n = 1 → Cond.methodLink own k Lib.Math.min.name ∈ am_tb) ∧ (n = 2 → Cond.methodLink own k Lib.Math.max.name ∈ am_tb) ∧ (n = 3 → False) ∧ (n = 4 → Cond.methodLink own k arraycopyName ∈ am_tb)
theorem qm_nil {own : String} : ∀ k, qmP own k 0 := fun _ => ⟨(fun h => by cases h), (fun h => by cases h), (fun h => by cases h), (fun h => by cases h)⟩
theorem qm_cons {own : String} {k0 n0 : Nat} {rest : Nat → Nat} (h : qmP own k0 n0) (hr : ∀ k, qmP own k (rest k)) : ∀ k, qmP own k (cond (Nat.beq k k0) n0 (rest k)) := by
  intro k
  cases hb : Nat.beq k k0 with
  | true =>
    have e := Nat.eq_of_beq_eq_true hb
    subst e
    exact h
  | false => exact hr k
/-- what the words say of a method: its code, its class, its kind -/
def am_mb (e1 : CE) : Prop :=
  Cond.code (ceY e1) (ceB e1) (ceM e1) (ceR e1) ∈ am_tb ∧ Cond.initialized (ceY e1).cls ∈ am_tb ∧
  ((ceY e1).cls ≠ "java/lang/invoke/MethodHandle" ∧ (ceY e1).cls ≠ "java/lang/invoke/VarHandle" ∧ (parseMethodDescriptor (ceY e1).desc).map (fun d => d.parameters.length) = some (ceN e1)) ∧ ceM e1 ≤ 29 ∧
  match ceC e1 with
  | none => Cond.static (ceY e1) ∈ am_tb
  | some ci => Cond.instanceMethod (ceY e1) ∈ am_tb ∧ Cond.selects (ceY e1).cls (ceY e1) (ceY e1) ∈ am_tb ∧ ∃ T N, vwCl[ci]? = some ((ceY e1).cls, T, N)
theorem am_calV {l : Launch} {lay : List LC} {own : String} {lvO k : Nat} {e1 : CE} (hCT : am_CT l lay e1) (hb : am_mb e1) (hlv : ceL e1 + 1 ≤ lvO) {ci : Nat} (hC : ceC e1 = some ci) (hk : Cond.methodLink own k (ceY e1) ∈ am_tb) : am_cal l lay own lvO k e1 := by
  obtain ⟨b1, b2, b3, b4, b5⟩ := hb
  unfold am_cal
  rw [hC] at b5 ⊢
  exact ⟨hCT, b1, b2, b3, b4, hlv, b5.1, b5.2.1, hk, b5.2.2⟩
theorem am_calS {l : Launch} {lay : List LC} {own : String} {lvO k : Nat} {e1 : CE} (hCT : am_CT l lay e1) (hb : am_mb e1) (hlv : ceL e1 + 1 ≤ lvO) (hC : ceC e1 = none) (hT : ceT e1 ≠ 1) (hk : Cond.methodLink own k (ceY e1) ∈ am_tb) : am_cal l lay own lvO k e1 := by
  obtain ⟨b1, b2, b3, b4, b5⟩ := hb
  unfold am_cal
  rw [hC] at b5 ⊢
  exact ⟨hCT, b1, b2, b3, b4, hlv, b5, Or.inl ⟨hk, hT⟩⟩
theorem am_calN {l : Launch} {lay : List LC} {own host : String} {lvO k : Nat} {e1 : CE} (hCT : am_CT l lay e1) (hb : am_mb e1) (hlv : ceL e1 + 1 ≤ lvO) (hC : ceC e1 = none) (hT : ceT e1 = 0) (hk : Cond.methodLinkNest own k (ceY e1) host ∈ am_tb) : am_cal l lay own lvO k e1 := by
  obtain ⟨b1, b2, b3, b4, b5⟩ := hb
  unfold am_cal
  rw [hC] at b5 ⊢
  exact ⟨hCT, b1, b2, b3, b4, hlv, b5, Or.inr ⟨hT, host, hk⟩⟩
theorem am_CT_mono {l : Launch} {lay lay' : List LC} {e1 : CE} (h : lay <+: lay') (hc : am_CT l lay e1) : am_CT l lay' e1 := fun layW hp => hc layW (List.IsPrefix.trans h hp)
def layX : List LC := [.inl (8, [some 1, some 3, some 5, some 7, some 9, some 14, some 19, some 22, some 24, none]), .inl (2, [some 2]), .inr (0, 140), .inl (2, [some 4]), .inr (0, 140), .inl (3, [some 6, none, none]), .inr (0, 1400), .inl (7, [some 8, none, none, none, none, none, none, none]), .inr (2, 800), .inl (1, [some 10, some 11, some 12, some 13]), .inr (1, 12192), .inr (0, 4064), .inr (0, 8), .inr (0, 8), .inl (5, [some 15, some 16, some 17, some 18, none, none]), .inr (1, 52), .inr (0, 8), .inr (0, 8), .inr (0, 8), .inl (6, [some 20, some 21, none, none, none, none, none]), .inr (0, 4096), .inr (0, 4096), .inl (4, [some 23, none]), .inr (0, 4), .inl (0, [none, none, none, none, none, none])]
theorem layX_ok : am_lok layX = true := by decide +kernel
theorem qwX0 : ∀ w ∈ u_ws RX0 TX0 6, w ∈ am_tb := am_tb_r _ [230, 232, 234, 236, 238, 240] (by decide +kernel) (by decide +kernel)
theorem qwX1 : ∀ w ∈ u_ws RX1 TX1 4, w ∈ am_tb := am_tb_r _ [154, 156, 158, 160] (by decide +kernel) (by decide +kernel)
theorem qwX2 : ∀ w ∈ u_ws RX2 TX2 1, w ∈ am_tb := am_tb_r _ [92] (by decide +kernel) (by decide +kernel)
theorem qwX3 : ∀ w ∈ u_ws RX3 TX3 3, w ∈ am_tb := am_tb_r _ [105, 107, 109] (by decide +kernel) (by decide +kernel)
theorem qwX4 : ∀ w ∈ u_ws RX4 TX4 2, w ∈ am_tb := am_tb_r _ [219, 221] (by decide +kernel) (by decide +kernel)
theorem qwX5 : ∀ w ∈ u_ws RX5 TX5 6, w ∈ am_tb := am_tb_r _ [176, 178, 180, 182, 184, 186] (by decide +kernel) (by decide +kernel)
theorem qwX6 : ∀ w ∈ u_ws RX6 TX6 7, w ∈ am_tb := am_tb_r _ [197, 199, 201, 203, 205, 207, 209] (by decide +kernel) (by decide +kernel)
theorem qwX7 : ∀ w ∈ u_ws RX7 TX7 8, w ∈ am_tb := am_tb_r _ [126, 128, 130, 132, 134, 136, 138, 140] (by decide +kernel) (by decide +kernel)
theorem qwX8 : ∀ w ∈ u_ws RX8 TX8 10, w ∈ am_tb := am_tb_r _ [264, 266, 268, 270, 272, 274, 276, 278, 280, 282] (by decide +kernel) (by decide +kernel)
theorem qwJ0 : ∀ w ∈ u_ws RJ0 TJ0 4, w ∈ am_tb := am_tb_r _ [524, 526, 528, 530] (by decide +kernel) (by decide +kernel)
theorem qwJ4 : ∀ w ∈ u_ws RJ4 TJ4 4, w ∈ am_tb := am_tb_r _ [310, 312, 314, 316] (by decide +kernel) (by decide +kernel)
def qfX0 : Nat → Option (Nat × Nat × Bool) := fun k => none
theorem qfX0_ok : ∀ k ci j w, qfX0 k = some (ci, j, w) → am_fok RX0 am_tb k ci j w := fun k ci j w h => (q_nil : ∀ k (a : Nat × Nat × Bool), qfX0 k = some a → (fun k (a : Nat × Nat × Bool) => am_fok RX0 am_tb k a.1 a.2.1 a.2.2) k a) k (ci, j, w) h
def qcX0 : Nat → Option Int := fun k => none
theorem qcX0_ok : ∀ k v, qcX0 k = some v → Cond.constant RX0 k (Int32.ofInt v) ∈ am_tb := q_nil
def qlX0 : Nat → Option Int := fun k => none
theorem qlX0_ok : ∀ k v, qlX0 k = some v → Cond.constantLong RX0 k (Int64.ofInt v) ∈ am_tb := q_nil
def qmX0 : Nat → Nat := fun k => 0
theorem qmX0_ok : ∀ k, qmP RX0 k (qmX0 k) := qm_nil
def qfX1 : Nat → Option (Nat × Nat × Bool) := fun k => cond (Nat.beq k 11) (some (1, 0, false)) (cond (Nat.beq k 15) (some (1, 1, false)) (cond (Nat.beq k 19) (some (1, 2, false)) (cond (Nat.beq k 22) (some (1, 3, false)) (none))))
theorem qfX1_ok : ∀ k ci j w, qfX1 k = some (ci, j, w) → am_fok RX1 am_tb k ci j w := fun k ci j w h => (q_cons (⟨RX1, TX1, 4, tyX1, rfl, by decide, qwX1, am_tb_at 150 (by decide +kernel) rfl, tyX1_ok, nmX1, fun h => by cases h⟩) (q_cons (⟨RX1, TX1, 4, tyX1, rfl, by decide, qwX1, am_tb_at 151 (by decide +kernel) rfl, tyX1_ok, nmX1, fun h => by cases h⟩) (q_cons (⟨RX1, TX1, 4, tyX1, rfl, by decide, qwX1, am_tb_at 152 (by decide +kernel) rfl, tyX1_ok, nmX1, fun h => by cases h⟩) (q_cons (⟨RX1, TX1, 4, tyX1, rfl, by decide, qwX1, am_tb_at 153 (by decide +kernel) rfl, tyX1_ok, nmX1, fun h => by cases h⟩) (q_nil)))) : ∀ k (a : Nat × Nat × Bool), qfX1 k = some a → (fun k (a : Nat × Nat × Bool) => am_fok RX1 am_tb k a.1 a.2.1 a.2.2) k a) k (ci, j, w) h
def qcX1 : Nat → Option Int := fun k => none
theorem qcX1_ok : ∀ k v, qcX1 k = some v → Cond.constant RX1 k (Int32.ofInt v) ∈ am_tb := q_nil
def qlX1 : Nat → Option Int := fun k => none
theorem qlX1_ok : ∀ k v, qlX1 k = some v → Cond.constantLong RX1 k (Int64.ofInt v) ∈ am_tb := q_nil
def qmX1 : Nat → Nat := fun k => 0
theorem qmX1_ok : ∀ k, qmP RX1 k (qmX1 k) := qm_nil
def qfX2 : Nat → Option (Nat × Nat × Bool) := fun k => cond (Nat.beq k 11) (some (2, 0, false)) (none)
theorem qfX2_ok : ∀ k ci j w, qfX2 k = some (ci, j, w) → am_fok RX2 am_tb k ci j w := fun k ci j w h => (q_cons (⟨RX2, TX2, 1, tyX2, rfl, by decide, qwX2, am_tb_at 91 (by decide +kernel) rfl, tyX2_ok, nmX2, fun h => by cases h⟩) (q_nil) : ∀ k (a : Nat × Nat × Bool), qfX2 k = some a → (fun k (a : Nat × Nat × Bool) => am_fok RX2 am_tb k a.1 a.2.1 a.2.2) k a) k (ci, j, w) h
def qcX2 : Nat → Option Int := fun k => none
theorem qcX2_ok : ∀ k v, qcX2 k = some v → Cond.constant RX2 k (Int32.ofInt v) ∈ am_tb := q_nil
def qlX2 : Nat → Option Int := fun k => none
theorem qlX2_ok : ∀ k v, qlX2 k = some v → Cond.constantLong RX2 k (Int64.ofInt v) ∈ am_tb := q_nil
def qmX2 : Nat → Nat := fun k => cond (Nat.beq k 25) 4 (0)
theorem qmX2_ok : ∀ k, qmP RX2 k (qmX2 k) := qm_cons ⟨(fun h => by cases h), (fun h => by cases h), (fun h => by cases h), (fun _ => am_tb_at 757 (by decide +kernel) rfl)⟩ (qm_nil)
def qfX3 : Nat → Option (Nat × Nat × Bool) := fun k => cond (Nat.beq k 11) (some (3, 0, false)) (cond (Nat.beq k 17) (some (3, 2, true)) (cond (Nat.beq k 21) (some (3, 1, true)) (none)))
theorem qfX3_ok : ∀ k ci j w, qfX3 k = some (ci, j, w) → am_fok RX3 am_tb k ci j w := fun k ci j w h => (q_cons (⟨RX3, TX3, 3, tyX3, rfl, by decide, qwX3, am_tb_at 102 (by decide +kernel) rfl, tyX3_ok, nmX3, fun h => by cases h⟩) (q_cons (⟨RX3, TX3, 3, tyX3, rfl, by decide, qwX3, am_tb_at 104 (by decide +kernel) rfl, tyX3_ok, nmX3, fun _ => ⟨rfl, by decide +kernel⟩⟩) (q_cons (⟨RX3, TX3, 3, tyX3, rfl, by decide, qwX3, am_tb_at 103 (by decide +kernel) rfl, tyX3_ok, nmX3, fun _ => ⟨rfl, by decide +kernel⟩⟩) (q_nil))) : ∀ k (a : Nat × Nat × Bool), qfX3 k = some a → (fun k (a : Nat × Nat × Bool) => am_fok RX3 am_tb k a.1 a.2.1 a.2.2) k a) k (ci, j, w) h
def qcX3 : Nat → Option Int := fun k => none
theorem qcX3_ok : ∀ k v, qcX3 k = some v → Cond.constant RX3 k (Int32.ofInt v) ∈ am_tb := q_nil
def qlX3 : Nat → Option Int := fun k => none
theorem qlX3_ok : ∀ k v, qlX3 k = some v → Cond.constantLong RX3 k (Int64.ofInt v) ∈ am_tb := q_nil
def qmX3 : Nat → Nat := fun k => 0
theorem qmX3_ok : ∀ k, qmP RX3 k (qmX3 k) := qm_nil
def qfX4 : Nat → Option (Nat × Nat × Bool) := fun k => cond (Nat.beq k 9) (some (4, 0, false)) (none)
theorem qfX4_ok : ∀ k ci j w, qfX4 k = some (ci, j, w) → am_fok RX4 am_tb k ci j w := fun k ci j w h => (q_cons (⟨RX4, TX4, 2, tyX4, rfl, by decide, qwX4, am_tb_at 218 (by decide +kernel) rfl, tyX4_ok, nmX4, fun h => by cases h⟩) (q_nil) : ∀ k (a : Nat × Nat × Bool), qfX4 k = some a → (fun k (a : Nat × Nat × Bool) => am_fok RX4 am_tb k a.1 a.2.1 a.2.2) k a) k (ci, j, w) h
def qcX4 : Nat → Option Int := fun k => none
theorem qcX4_ok : ∀ k v, qcX4 k = some v → Cond.constant RX4 k (Int32.ofInt v) ∈ am_tb := q_nil
def qlX4 : Nat → Option Int := fun k => none
theorem qlX4_ok : ∀ k v, qlX4 k = some v → Cond.constantLong RX4 k (Int64.ofInt v) ∈ am_tb := q_nil
def qmX4 : Nat → Nat := fun k => 0
theorem qmX4_ok : ∀ k, qmP RX4 k (qmX4 k) := qm_nil
def qfX5 : Nat → Option (Nat × Nat × Bool) := fun k => cond (Nat.beq k 9) (some (5, 0, false)) (cond (Nat.beq k 15) (some (5, 1, false)) (cond (Nat.beq k 19) (some (5, 2, false)) (cond (Nat.beq k 22) (some (5, 3, false)) (cond (Nat.beq k 31) (some (5, 4, true)) (cond (Nat.beq k 66) (some (5, 5, true)) (none))))))
theorem qfX5_ok : ∀ k ci j w, qfX5 k = some (ci, j, w) → am_fok RX5 am_tb k ci j w := fun k ci j w h => (q_cons (⟨RX5, TX5, 6, tyX5, rfl, by decide, qwX5, am_tb_at 170 (by decide +kernel) rfl, tyX5_ok, nmX5, fun h => by cases h⟩) (q_cons (⟨RX5, TX5, 6, tyX5, rfl, by decide, qwX5, am_tb_at 171 (by decide +kernel) rfl, tyX5_ok, nmX5, fun h => by cases h⟩) (q_cons (⟨RX5, TX5, 6, tyX5, rfl, by decide, qwX5, am_tb_at 172 (by decide +kernel) rfl, tyX5_ok, nmX5, fun h => by cases h⟩) (q_cons (⟨RX5, TX5, 6, tyX5, rfl, by decide, qwX5, am_tb_at 173 (by decide +kernel) rfl, tyX5_ok, nmX5, fun h => by cases h⟩) (q_cons (⟨RX5, TX5, 6, tyX5, rfl, by decide, qwX5, am_tb_at 174 (by decide +kernel) rfl, tyX5_ok, nmX5, fun _ => ⟨rfl, by decide +kernel⟩⟩) (q_cons (⟨RX5, TX5, 6, tyX5, rfl, by decide, qwX5, am_tb_at 175 (by decide +kernel) rfl, tyX5_ok, nmX5, fun _ => ⟨rfl, by decide +kernel⟩⟩) (q_nil)))))) : ∀ k (a : Nat × Nat × Bool), qfX5 k = some a → (fun k (a : Nat × Nat × Bool) => am_fok RX5 am_tb k a.1 a.2.1 a.2.2) k a) k (ci, j, w) h
def qcX5 : Nat → Option Int := fun k => none
theorem qcX5_ok : ∀ k v, qcX5 k = some v → Cond.constant RX5 k (Int32.ofInt v) ∈ am_tb := q_nil
def qlX5 : Nat → Option Int := fun k => cond (Nat.beq k 113) (some (2)) (cond (Nat.beq k 115) (some (3)) (cond (Nat.beq k 117) (some (4)) (cond (Nat.beq k 123) (some (18)) (cond (Nat.beq k 125) (some (27)) (cond (Nat.beq k 127) (some (9)) (none))))))
theorem qlX5_ok : ∀ k v, qlX5 k = some v → Cond.constantLong RX5 k (Int64.ofInt v) ∈ am_tb := q_cons (am_tb_at 1186 (by decide +kernel) rfl) (q_cons (am_tb_at 1187 (by decide +kernel) rfl) (q_cons (am_tb_at 1192 (by decide +kernel) rfl) (q_cons (am_tb_at 1191 (by decide +kernel) rfl) (q_cons (am_tb_at 1193 (by decide +kernel) rfl) (q_cons (am_tb_at 1197 (by decide +kernel) rfl) (q_nil))))))
def qmX5 : Nat → Nat := fun k => 0
theorem qmX5_ok : ∀ k, qmP RX5 k (qmX5 k) := qm_nil
def qfX6 : Nat → Option (Nat × Nat × Bool) := fun k => cond (Nat.beq k 11) (some (6, 0, false)) (cond (Nat.beq k 15) (some (6, 1, false)) (none))
theorem qfX6_ok : ∀ k ci j w, qfX6 k = some (ci, j, w) → am_fok RX6 am_tb k ci j w := fun k ci j w h => (q_cons (⟨RX6, TX6, 7, tyX6, rfl, by decide, qwX6, am_tb_at 195 (by decide +kernel) rfl, tyX6_ok, nmX6, fun h => by cases h⟩) (q_cons (⟨RX6, TX6, 7, tyX6, rfl, by decide, qwX6, am_tb_at 196 (by decide +kernel) rfl, tyX6_ok, nmX6, fun h => by cases h⟩) (q_nil)) : ∀ k (a : Nat × Nat × Bool), qfX6 k = some a → (fun k (a : Nat × Nat × Bool) => am_fok RX6 am_tb k a.1 a.2.1 a.2.2) k a) k (ci, j, w) h
def qcX6 : Nat → Option Int := fun k => none
theorem qcX6_ok : ∀ k v, qcX6 k = some v → Cond.constant RX6 k (Int32.ofInt v) ∈ am_tb := q_nil
def qlX6 : Nat → Option Int := fun k => none
theorem qlX6_ok : ∀ k v, qlX6 k = some v → Cond.constantLong RX6 k (Int64.ofInt v) ∈ am_tb := q_nil
def qmX6 : Nat → Nat := fun k => 0
theorem qmX6_ok : ∀ k, qmP RX6 k (qmX6 k) := qm_nil
def qfX7 : Nat → Option (Nat × Nat × Bool) := fun k => cond (Nat.beq k 9) (some (7, 0, false)) (cond (Nat.beq k 15) (some (7, 1, true)) (cond (Nat.beq k 19) (some (7, 3, true)) (cond (Nat.beq k 22) (some (7, 2, true)) (cond (Nat.beq k 25) (some (7, 4, true)) (cond (Nat.beq k 28) (some (7, 7, true)) (cond (Nat.beq k 39) (some (7, 5, true)) (cond (Nat.beq k 69) (some (7, 6, true)) (none))))))))
theorem qfX7_ok : ∀ k ci j w, qfX7 k = some (ci, j, w) → am_fok RX7 am_tb k ci j w := fun k ci j w h => (q_cons (⟨RX7, TX7, 8, tyX7, rfl, by decide, qwX7, am_tb_at 118 (by decide +kernel) rfl, tyX7_ok, nmX7, fun h => by cases h⟩) (q_cons (⟨RX7, TX7, 8, tyX7, rfl, by decide, qwX7, am_tb_at 119 (by decide +kernel) rfl, tyX7_ok, nmX7, fun _ => ⟨rfl, by decide +kernel⟩⟩) (q_cons (⟨RX7, TX7, 8, tyX7, rfl, by decide, qwX7, am_tb_at 121 (by decide +kernel) rfl, tyX7_ok, nmX7, fun _ => ⟨rfl, by decide +kernel⟩⟩) (q_cons (⟨RX7, TX7, 8, tyX7, rfl, by decide, qwX7, am_tb_at 120 (by decide +kernel) rfl, tyX7_ok, nmX7, fun _ => ⟨rfl, by decide +kernel⟩⟩) (q_cons (⟨RX7, TX7, 8, tyX7, rfl, by decide, qwX7, am_tb_at 122 (by decide +kernel) rfl, tyX7_ok, nmX7, fun _ => ⟨rfl, by decide +kernel⟩⟩) (q_cons (⟨RX7, TX7, 8, tyX7, rfl, by decide, qwX7, am_tb_at 125 (by decide +kernel) rfl, tyX7_ok, nmX7, fun _ => ⟨rfl, by decide +kernel⟩⟩) (q_cons (⟨RX7, TX7, 8, tyX7, rfl, by decide, qwX7, am_tb_at 123 (by decide +kernel) rfl, tyX7_ok, nmX7, fun _ => ⟨rfl, by decide +kernel⟩⟩) (q_cons (⟨RX7, TX7, 8, tyX7, rfl, by decide, qwX7, am_tb_at 124 (by decide +kernel) rfl, tyX7_ok, nmX7, fun _ => ⟨rfl, by decide +kernel⟩⟩) (q_nil)))))))) : ∀ k (a : Nat × Nat × Bool), qfX7 k = some a → (fun k (a : Nat × Nat × Bool) => am_fok RX7 am_tb k a.1 a.2.1 a.2.2) k a) k (ci, j, w) h
def qcX7 : Nat → Option Int := fun k => cond (Nat.beq k 46) (some (123295904)) (cond (Nat.beq k 54) (some (412554240)) (cond (Nat.beq k 58) (some (643432448)) (cond (Nat.beq k 104) (some (412526208)) (cond (Nat.beq k 105) (some (140005632)) (cond (Nat.beq k 143) (some (100000)) (none))))))
theorem qcX7_ok : ∀ k v, qcX7 k = some v → Cond.constant RX7 k (Int32.ofInt v) ∈ am_tb := q_cons (am_tb_at 646 (by decide +kernel) rfl) (q_cons (am_tb_at 670 (by decide +kernel) rfl) (q_cons (am_tb_at 671 (by decide +kernel) rfl) (q_cons (am_tb_at 672 (by decide +kernel) rfl) (q_cons (am_tb_at 673 (by decide +kernel) rfl) (q_cons (am_tb_at 641 (by decide +kernel) rfl) (q_nil))))))
def qlX7 : Nat → Option Int := fun k => none
theorem qlX7_ok : ∀ k v, qlX7 k = some v → Cond.constantLong RX7 k (Int64.ofInt v) ∈ am_tb := q_nil
def qmX7 : Nat → Nat := fun k => 0
theorem qmX7_ok : ∀ k, qmP RX7 k (qmX7 k) := qm_nil
def qfX8 : Nat → Option (Nat × Nat × Bool) := fun k => cond (Nat.beq k 10) (some (8, 0, false)) (cond (Nat.beq k 16) (some (8, 1, false)) (cond (Nat.beq k 22) (some (8, 2, false)) (cond (Nat.beq k 29) (some (8, 3, false)) (cond (Nat.beq k 36) (some (8, 4, false)) (cond (Nat.beq k 43) (some (8, 5, false)) (cond (Nat.beq k 50) (some (8, 6, false)) (cond (Nat.beq k 57) (some (8, 7, false)) (cond (Nat.beq k 64) (some (8, 8, false)) (cond (Nat.beq k 68) (some (8, 9, true)) (none))))))))))
theorem qfX8_ok : ∀ k ci j w, qfX8 k = some (ci, j, w) → am_fok RX8 am_tb k ci j w := fun k ci j w h => (q_cons (⟨RX8, TX8, 10, tyX8, rfl, by decide, qwX8, am_tb_at 254 (by decide +kernel) rfl, tyX8_ok, nmX8, fun h => by cases h⟩) (q_cons (⟨RX8, TX8, 10, tyX8, rfl, by decide, qwX8, am_tb_at 255 (by decide +kernel) rfl, tyX8_ok, nmX8, fun h => by cases h⟩) (q_cons (⟨RX8, TX8, 10, tyX8, rfl, by decide, qwX8, am_tb_at 256 (by decide +kernel) rfl, tyX8_ok, nmX8, fun h => by cases h⟩) (q_cons (⟨RX8, TX8, 10, tyX8, rfl, by decide, qwX8, am_tb_at 257 (by decide +kernel) rfl, tyX8_ok, nmX8, fun h => by cases h⟩) (q_cons (⟨RX8, TX8, 10, tyX8, rfl, by decide, qwX8, am_tb_at 258 (by decide +kernel) rfl, tyX8_ok, nmX8, fun h => by cases h⟩) (q_cons (⟨RX8, TX8, 10, tyX8, rfl, by decide, qwX8, am_tb_at 259 (by decide +kernel) rfl, tyX8_ok, nmX8, fun h => by cases h⟩) (q_cons (⟨RX8, TX8, 10, tyX8, rfl, by decide, qwX8, am_tb_at 260 (by decide +kernel) rfl, tyX8_ok, nmX8, fun h => by cases h⟩) (q_cons (⟨RX8, TX8, 10, tyX8, rfl, by decide, qwX8, am_tb_at 261 (by decide +kernel) rfl, tyX8_ok, nmX8, fun h => by cases h⟩) (q_cons (⟨RX8, TX8, 10, tyX8, rfl, by decide, qwX8, am_tb_at 262 (by decide +kernel) rfl, tyX8_ok, nmX8, fun h => by cases h⟩) (q_cons (⟨RX8, TX8, 10, tyX8, rfl, by decide, qwX8, am_tb_at 263 (by decide +kernel) rfl, tyX8_ok, nmX8, fun _ => ⟨rfl, by decide +kernel⟩⟩) (q_nil)))))))))) : ∀ k (a : Nat × Nat × Bool), qfX8 k = some a → (fun k (a : Nat × Nat × Bool) => am_fok RX8 am_tb k a.1 a.2.1 a.2.2) k a) k (ci, j, w) h
def qcX8 : Nat → Option Int := fun k => cond (Nat.beq k 198) (some (-100000)) (none)
theorem qcX8_ok : ∀ k v, qcX8 k = some v → Cond.constant RX8 k (Int32.ofInt v) ∈ am_tb := q_cons (am_tb_at 1104 (by decide +kernel) rfl) (q_nil)
def qlX8 : Nat → Option Int := fun k => cond (Nat.beq k 151) (some (-1)) (cond (Nat.beq k 175) (some (100)) (none))
theorem qlX8_ok : ∀ k v, qlX8 k = some v → Cond.constantLong RX8 k (Int64.ofInt v) ∈ am_tb := q_cons (am_tb_at 995 (by decide +kernel) rfl) (q_cons (am_tb_at 1077 (by decide +kernel) rfl) (q_nil))
def qmX8 : Nat → Nat := fun k => 0
theorem qmX8_ok : ∀ k, qmP RX8 k (qmX8 k) := qm_nil
def qfL : Nat → Option (Nat × Nat × Bool) := fun k => none
theorem qfL_ok : ∀ k ci j w, qfL k = some (ci, j, w) → am_fok RL am_tb k ci j w := fun k ci j w h => (q_nil : ∀ k (a : Nat × Nat × Bool), qfL k = some a → (fun k (a : Nat × Nat × Bool) => am_fok RL am_tb k a.1 a.2.1 a.2.2) k a) k (ci, j, w) h
def qcL : Nat → Option Int := fun k => cond (Nat.beq k 7) (some (2147483647)) (cond (Nat.beq k 144) (some (32768)) (none))
theorem qcL_ok : ∀ k v, qcL k = some v → Cond.constant RL k (Int32.ofInt v) ∈ am_tb := q_cons (am_tb_at 67 (by decide +kernel) rfl) (q_cons (am_tb_at 925 (by decide +kernel) rfl) (q_nil))
def qlL : Nat → Option Int := fun k => cond (Nat.beq k 151) (some (2)) (cond (Nat.beq k 153) (some (3)) (cond (Nat.beq k 173) (some (4)) (cond (Nat.beq k 185) (some (100)) (cond (Nat.beq k 219) (some (-1)) (cond (Nat.beq k 233) (some (16)) (none))))))
theorem qlL_ok : ∀ k v, qlL k = some v → Cond.constantLong RL k (Int64.ofInt v) ∈ am_tb := q_cons (am_tb_at 1051 (by decide +kernel) rfl) (q_cons (am_tb_at 1052 (by decide +kernel) rfl) (q_cons (am_tb_at 1053 (by decide +kernel) rfl) (q_cons (am_tb_at 1078 (by decide +kernel) rfl) (q_cons (am_tb_at 1201 (by decide +kernel) rfl) (q_cons (am_tb_at 1234 (by decide +kernel) rfl) (q_nil))))))
def qmL : Nat → Nat := fun k => 0
theorem qmL_ok : ∀ k, qmP RL k (qmL k) := qm_nil
def qfJ0 : Nat → Option (Nat × Nat × Bool) := fun k => cond (Nat.beq k 9) (some (9, 0, false)) (cond (Nat.beq k 15) (some (9, 1, false)) (cond (Nat.beq k 1048) (some (10, 2, false)) (none)))
theorem qfJ0_ok : ∀ k ci j w, qfJ0 k = some (ci, j, w) → am_fok RJ0 am_tb k ci j w := fun k ci j w h => (q_cons (⟨RJ0, TJ0, 4, tyJ0, rfl, by decide, qwJ0, am_tb_at 522 (by decide +kernel) rfl, tyJ0_ok, nmJ0, fun h => by cases h⟩) (q_cons (⟨RJ0, TJ0, 4, tyJ0, rfl, by decide, qwJ0, am_tb_at 523 (by decide +kernel) rfl, tyJ0_ok, nmJ0, fun h => by cases h⟩) (q_cons (⟨RJ4, TJ4, 4, tyJ4, rfl, by decide, qwJ4, am_tb_at 308 (by decide +kernel) rfl, tyJ4_ok, nmJ4, fun h => by cases h⟩) (q_nil))) : ∀ k (a : Nat × Nat × Bool), qfJ0 k = some a → (fun k (a : Nat × Nat × Bool) => am_fok RJ0 am_tb k a.1 a.2.1 a.2.2) k a) k (ci, j, w) h
def qcJ0 : Nat → Option Int := fun k => none
theorem qcJ0_ok : ∀ k v, qcJ0 k = some v → Cond.constant RJ0 k (Int32.ofInt v) ∈ am_tb := q_nil
def qlJ0 : Nat → Option Int := fun k => none
theorem qlJ0_ok : ∀ k v, qlJ0 k = some v → Cond.constantLong RJ0 k (Int64.ofInt v) ∈ am_tb := q_nil
def qmJ0 : Nat → Nat := fun k => cond (Nat.beq k 212) 4 (0)
theorem qmJ0_ok : ∀ k, qmP RJ0 k (qmJ0 k) := qm_cons ⟨(fun h => by cases h), (fun h => by cases h), (fun h => by cases h), (fun _ => am_tb_at 438 (by decide +kernel) rfl)⟩ (qm_nil)
def qfJ1 : Nat → Option (Nat × Nat × Bool) := fun k => none
theorem qfJ1_ok : ∀ k ci j w, qfJ1 k = some (ci, j, w) → am_fok RJ1 am_tb k ci j w := fun k ci j w h => (q_nil : ∀ k (a : Nat × Nat × Bool), qfJ1 k = some a → (fun k (a : Nat × Nat × Bool) => am_fok RJ1 am_tb k a.1 a.2.1 a.2.2) k a) k (ci, j, w) h
def qcJ1 : Nat → Option Int := fun k => none
theorem qcJ1_ok : ∀ k v, qcJ1 k = some v → Cond.constant RJ1 k (Int32.ofInt v) ∈ am_tb := q_nil
def qlJ1 : Nat → Option Int := fun k => none
theorem qlJ1_ok : ∀ k v, qlJ1 k = some v → Cond.constantLong RJ1 k (Int64.ofInt v) ∈ am_tb := q_nil
def qmJ1 : Nat → Nat := fun k => 0
theorem qmJ1_ok : ∀ k, qmP RJ1 k (qmJ1 k) := qm_nil
def qfJ3 : Nat → Option (Nat × Nat × Bool) := fun k => none
theorem qfJ3_ok : ∀ k ci j w, qfJ3 k = some (ci, j, w) → am_fok RJ3 am_tb k ci j w := fun k ci j w h => (q_nil : ∀ k (a : Nat × Nat × Bool), qfJ3 k = some a → (fun k (a : Nat × Nat × Bool) => am_fok RJ3 am_tb k a.1 a.2.1 a.2.2) k a) k (ci, j, w) h
def qcJ3 : Nat → Option Int := fun k => none
theorem qcJ3_ok : ∀ k v, qcJ3 k = some v → Cond.constant RJ3 k (Int32.ofInt v) ∈ am_tb := q_nil
def qlJ3 : Nat → Option Int := fun k => none
theorem qlJ3_ok : ∀ k v, qlJ3 k = some v → Cond.constantLong RJ3 k (Int64.ofInt v) ∈ am_tb := q_nil
def qmJ3 : Nat → Nat := fun k => 0
theorem qmJ3_ok : ∀ k, qmP RJ3 k (qmJ3 k) := qm_nil
def qfJ4 : Nat → Option (Nat × Nat × Bool) := fun k => none
theorem qfJ4_ok : ∀ k ci j w, qfJ4 k = some (ci, j, w) → am_fok RJ4 am_tb k ci j w := fun k ci j w h => (q_nil : ∀ k (a : Nat × Nat × Bool), qfJ4 k = some a → (fun k (a : Nat × Nat × Bool) => am_fok RJ4 am_tb k a.1 a.2.1 a.2.2) k a) k (ci, j, w) h
def qcJ4 : Nat → Option Int := fun k => none
theorem qcJ4_ok : ∀ k v, qcJ4 k = some v → Cond.constant RJ4 k (Int32.ofInt v) ∈ am_tb := q_nil
def qlJ4 : Nat → Option Int := fun k => none
theorem qlJ4_ok : ∀ k v, qlJ4 k = some v → Cond.constantLong RJ4 k (Int64.ofInt v) ∈ am_tb := q_nil
def qmJ4 : Nat → Nat := fun k => 0
theorem qmJ4_ok : ∀ k, qmP RJ4 k (qmJ4 k) := qm_nil
def qfJ5 : Nat → Option (Nat × Nat × Bool) := fun k => cond (Nat.beq k 15) (some (10, 0, false)) (cond (Nat.beq k 22) (some (10, 1, false)) (cond (Nat.beq k 79) (some (10, 3, true)) (none)))
theorem qfJ5_ok : ∀ k ci j w, qfJ5 k = some (ci, j, w) → am_fok RJ5 am_tb k ci j w := fun k ci j w h => (q_cons (⟨RJ4, TJ4, 4, tyJ4, rfl, by decide, qwJ4, am_tb_at 306 (by decide +kernel) rfl, tyJ4_ok, nmJ4, fun h => by cases h⟩) (q_cons (⟨RJ4, TJ4, 4, tyJ4, rfl, by decide, qwJ4, am_tb_at 307 (by decide +kernel) rfl, tyJ4_ok, nmJ4, fun h => by cases h⟩) (q_cons (⟨RJ4, TJ4, 4, tyJ4, rfl, by decide, qwJ4, am_tb_at 309 (by decide +kernel) rfl, tyJ4_ok, nmJ4, fun _ => ⟨rfl, by decide +kernel⟩⟩) (q_nil))) : ∀ k (a : Nat × Nat × Bool), qfJ5 k = some a → (fun k (a : Nat × Nat × Bool) => am_fok RJ5 am_tb k a.1 a.2.1 a.2.2) k a) k (ci, j, w) h
def qcJ5 : Nat → Option Int := fun k => cond (Nat.beq k 39) (some (2147483647)) (none)
theorem qcJ5_ok : ∀ k v, qcJ5 k = some v → Cond.constant RJ5 k (Int32.ofInt v) ∈ am_tb := q_cons (am_tb_at 349 (by decide +kernel) rfl) (q_nil)
def qlJ5 : Nat → Option Int := fun k => none
theorem qlJ5_ok : ∀ k v, qlJ5 k = some v → Cond.constantLong RJ5 k (Int64.ofInt v) ∈ am_tb := q_nil
def qmJ5 : Nat → Nat := fun k => 0
theorem qmJ5_ok : ∀ k, qmP RJ5 k (qmJ5 k) := qm_nil
def qfJ6 : Nat → Option (Nat × Nat × Bool) := fun k => none
theorem qfJ6_ok : ∀ k ci j w, qfJ6 k = some (ci, j, w) → am_fok RJ6 am_tb k ci j w := fun k ci j w h => (q_nil : ∀ k (a : Nat × Nat × Bool), qfJ6 k = some a → (fun k (a : Nat × Nat × Bool) => am_fok RJ6 am_tb k a.1 a.2.1 a.2.2) k a) k (ci, j, w) h
def qcJ6 : Nat → Option Int := fun k => none
theorem qcJ6_ok : ∀ k v, qcJ6 k = some v → Cond.constant RJ6 k (Int32.ofInt v) ∈ am_tb := q_nil
def qlJ6 : Nat → Option Int := fun k => none
theorem qlJ6_ok : ∀ k v, qlJ6 k = some v → Cond.constantLong RJ6 k (Int64.ofInt v) ∈ am_tb := q_nil
def qmJ6 : Nat → Nat := fun k => 0
theorem qmJ6_ok : ∀ k, qmP RJ6 k (qmJ6 k) := qm_nil
def qfJ7 : Nat → Option (Nat × Nat × Bool) := fun k => none
theorem qfJ7_ok : ∀ k ci j w, qfJ7 k = some (ci, j, w) → am_fok RJ7 am_tb k ci j w := fun k ci j w h => (q_nil : ∀ k (a : Nat × Nat × Bool), qfJ7 k = some a → (fun k (a : Nat × Nat × Bool) => am_fok RJ7 am_tb k a.1 a.2.1 a.2.2) k a) k (ci, j, w) h
def qcJ7 : Nat → Option Int := fun k => none
theorem qcJ7_ok : ∀ k v, qcJ7 k = some v → Cond.constant RJ7 k (Int32.ofInt v) ∈ am_tb := q_nil
def qlJ7 : Nat → Option Int := fun k => none
theorem qlJ7_ok : ∀ k v, qlJ7 k = some v → Cond.constantLong RJ7 k (Int64.ofInt v) ∈ am_tb := q_nil
def qmJ7 : Nat → Nat := fun k => cond (Nat.beq k 150) 4 (cond (Nat.beq k 304) 1 (0))
theorem qmJ7_ok : ∀ k, qmP RJ7 k (qmJ7 k) := qm_cons ⟨(fun h => by cases h), (fun h => by cases h), (fun h => by cases h), (fun _ => am_tb_at 363 (by decide +kernel) rfl)⟩ (qm_cons ⟨(fun _ => am_tb_at 360 (by decide +kernel) rfl), (fun h => by cases h), (fun h => by cases h), (fun h => by cases h)⟩ (qm_nil))
def qfJ8 : Nat → Option (Nat × Nat × Bool) := fun k => none
theorem qfJ8_ok : ∀ k ci j w, qfJ8 k = some (ci, j, w) → am_fok RJ8 am_tb k ci j w := fun k ci j w h => (q_nil : ∀ k (a : Nat × Nat × Bool), qfJ8 k = some a → (fun k (a : Nat × Nat × Bool) => am_fok RJ8 am_tb k a.1 a.2.1 a.2.2) k a) k (ci, j, w) h
def qcJ8 : Nat → Option Int := fun k => cond (Nat.beq k 200) (some (2147483639)) (none)
theorem qcJ8_ok : ∀ k v, qcJ8 k = some v → Cond.constant RJ8 k (Int32.ofInt v) ∈ am_tb := q_cons (am_tb_at 345 (by decide +kernel) rfl) (q_nil)
def qlJ8 : Nat → Option Int := fun k => none
theorem qlJ8_ok : ∀ k v, qlJ8 k = some v → Cond.constantLong RJ8 k (Int64.ofInt v) ∈ am_tb := q_nil
def qmJ8 : Nat → Nat := fun k => cond (Nat.beq k 194) 2 (0)
theorem qmJ8_ok : ∀ k, qmP RJ8 k (qmJ8 k) := qm_cons ⟨(fun h => by cases h), (fun _ => am_tb_at 342 (by decide +kernel) rfl), (fun h => by cases h), (fun h => by cases h)⟩ (qm_nil)
def qfJ13 : Nat → Option (Nat × Nat × Bool) := fun k => none
theorem qfJ13_ok : ∀ k ci j w, qfJ13 k = some (ci, j, w) → am_fok RJ13 am_tb k ci j w := fun k ci j w h => (q_nil : ∀ k (a : Nat × Nat × Bool), qfJ13 k = some a → (fun k (a : Nat × Nat × Bool) => am_fok RJ13 am_tb k a.1 a.2.1 a.2.2) k a) k (ci, j, w) h
def qcJ13 : Nat → Option Int := fun k => none
theorem qcJ13_ok : ∀ k v, qcJ13 k = some v → Cond.constant RJ13 k (Int32.ofInt v) ∈ am_tb := q_nil
def qlJ13 : Nat → Option Int := fun k => none
theorem qlJ13_ok : ∀ k v, qlJ13 k = some v → Cond.constantLong RJ13 k (Int64.ofInt v) ∈ am_tb := q_nil
def qmJ13 : Nat → Nat := fun k => 0
theorem qmJ13_ok : ∀ k, qmP RJ13 k (qmJ13 k) := qm_nil
theorem qM_min : Cond.static Lib.Math.min.name ∈ am_tb ∧ Cond.initialized "java/lang/Math" ∈ am_tb ∧ Cond.code Lib.Math.min.name Lib.Math.min.code 2 (some .int) ∈ am_tb := ⟨am_tb_at 361 (by decide +kernel) rfl, am_tb_at 50 (by decide +kernel) rfl, am_tb_at 362 (by decide +kernel) rfl⟩
theorem qM_max : Cond.static Lib.Math.max.name ∈ am_tb ∧ Cond.initialized "java/lang/Math" ∈ am_tb ∧ Cond.code Lib.Math.max.name Lib.Math.max.code 2 (some .int) ∈ am_tb := ⟨am_tb_at 343 (by decide +kernel) rfl, am_tb_at 50 (by decide +kernel) rfl, am_tb_at 344 (by decide +kernel) rfl⟩
theorem qM_copy : Cond.native arraycopyName ∈ am_tb ∧ Cond.static arraycopyName ∈ am_tb ∧ Cond.initialized "java/lang/System" ∈ am_tb := ⟨am_tb_at 365 (by decide +kernel) rfl, am_tb_at 364 (by decide +kernel) rfl, am_tb_at 51 (by decide +kernel) rfl⟩
end
section
theorem am_mthP {own : String} {f : Nat → Nat} {lv : Nat} (h : ∀ k, qmP own k (f k)) (hl : 3 ≤ lv) : ∀ k, (f k = 1 → Cond.methodLink own k Lib.Math.min.name ∈ am_tb ∧ Cond.static Lib.Math.min.name ∈ am_tb ∧ Cond.initialized "java/lang/Math" ∈ am_tb ∧ Cond.code Lib.Math.min.name Lib.Math.min.code 2 (some .int) ∈ am_tb) ∧
      (f k = 2 → Cond.methodLink own k Lib.Math.max.name ∈ am_tb ∧ Cond.static Lib.Math.max.name ∈ am_tb ∧ Cond.initialized "java/lang/Math" ∈ am_tb ∧ Cond.code Lib.Math.max.name Lib.Math.max.code 2 (some .int) ∈ am_tb) ∧
      (f k = 3 → Cond.methodLink own k Lib.Math.abs.name ∈ am_tb ∧ Cond.static Lib.Math.abs.name ∈ am_tb ∧ Cond.initialized "java/lang/Math" ∈ am_tb ∧ Cond.code Lib.Math.abs.name Lib.Math.abs.code 1 (some .int) ∈ am_tb) ∧
      (f k = 4 → Cond.methodLink own k arraycopyName ∈ am_tb ∧ Cond.native arraycopyName ∈ am_tb ∧ Cond.static arraycopyName ∈ am_tb ∧ Cond.initialized "java/lang/System" ∈ am_tb) ∧
      (f k ≠ 0 → 3 ≤ lv) := fun k => ⟨fun q => ⟨(h k).1 q, qM_min.1, qM_min.2.1, qM_min.2.2⟩, fun q => ⟨(h k).2.1 q, qM_max.1, qM_max.2.1, qM_max.2.2⟩, fun q => ((h k).2.2.1 q).elim, fun q => ⟨(h k).2.2.2 q, qM_copy.1, qM_copy.2.1, qM_copy.2.2⟩, fun _ => hl⟩
theorem am_cond2 {b : Bool} {P Q : Prop} (h : cond b P Q) : (b = true ∧ P) ∨ Q := by
  cases b
  · exact Or.inr h
  · exact Or.inl ⟨rfl, h⟩
/-- a truth value as a number -/
def bi (p : Prop) [Decidable p] : Int := if p then 1 else 0
theorem bi_t {p : Prop} [Decidable p] (h : p) : bi p = 1 := if_pos h
theorem bi_f {p : Prop} [Decidable p] (h : ¬ p) : bi p = 0 := if_neg h
theorem bi_01 {p : Prop} [Decidable p] : bi p = 0 ∨ bi p = 1 := by unfold bi; split <;> simp
theorem w32_bi {p : Prop} [Decidable p] : w32 (bi p) = bi p := by unfold bi; split <;> rfl
theorem bi_0 {p : Prop} [Decidable p] : bi p = 0 ↔ ¬ p := by unfold bi; split <;> simp_all
theorem bi_1 {p : Prop} [Decidable p] : bi p = 1 ↔ p := by unfold bi; split <;> simp_all
theorem w32_id {x : Int} (h1 : -2147483648 ≤ x) (h2 : x < 2147483648) : w32 x = x := Int32.toInt_ofInt_of_le h1 h2
theorem w64_id {x : Int} (h1 : -9223372036854775808 ≤ x) (h2 : x < 9223372036854775808) : w64 x = x := Int64.toInt_ofInt_of_le h1 h2
theorem w32_ge (x : Int) : -2147483648 ≤ w32 x := Int32.le_toInt _
theorem w32_lt2 (x : Int) : w32 x < 2147483648 := Int32.toInt_lt _
theorem w32_w32 (x : Int) : w32 (w32 x) = w32 x := w32_id (w32_ge x) (w32_lt2 x)
theorem K_eq {K : KK} {x y : Int} {F : FF} {A : AA} (h : K (some (some (vI x))) F A) (e : x = y) : K (some (some (vI y))) F A := e ▸ h
theorem L_eq {K : KK} {x y : Int} {F : FF} {A : AA} (h : K (some (some (vL x))) F A) (e : x = y) : K (some (some (vL y))) F A := e ▸ h
theorem A_eq {K : KK} {o : AO} {F : FF} {A B : AA} (h : K o F A) (e : A = B) : K o F B := e ▸ h
theorem FA_eq {K : KK} {o p : AO} {F G : FF} {A B : AA} (h : K o F A) (e : o = p) (e2 : F = G) (e3 : A = B) : K p G B := e ▸ e2 ▸ e3 ▸ h
/-- a row written from 0 to n -/
def fillA (A : AA) (a : Nat) (n v : Int) : AA := fun k j => if k = a ∧ 0 ≤ j ∧ j < n then v else A k j
def fat (f : Int → Int) (i : Int) : Int := if 0 ≤ w32 i ∧ w32 i < 140 then f (w32 i) else 0
def fput (A : AA) (n : Nat) (i v : Int) : AA := if 0 ≤ w32 i ∧ w32 i < 140 then upA A n (w32 i) v else A
theorem fat_in {f : Int → Int} {i : Int} (h : 0 ≤ i) (h2 : i < 140) : fat f i = f i := by unfold fat; rw [w32_id (by omega) (by omega), if_pos ⟨h, h2⟩]
theorem fput_in {A : AA} {n : Nat} {i v : Int} (h : 0 ≤ i) (h2 : i < 140) : fput A n i v = upA A n i v := by unfold fput; rw [w32_id (by omega) (by omega), if_pos ⟨h, h2⟩]
theorem upA_s {A : AA} {n : Nat} {i v : Int} : upA A n i v n i = v := if_pos ⟨rfl, rfl⟩
theorem upA_o {A : AA} {n : Nat} {i j v : Int} (h : j ≠ i) : upA A n i v n j = A n j := if_neg fun q => h q.2
theorem upA_k {A : AA} {n k : Nat} {i j v : Int} (h : k ≠ n) : upA A n i v k j = A k j := if_neg fun q => h q.1
theorem upA_r {A : AA} {n k : Nat} {i v : Int} (h : k ≠ n) : upA A n i v k = A k := funext fun _ => upA_k h
theorem fput_r {A : AA} {n k : Nat} {i v : Int} (h : k ≠ n) : fput A n i v k = A k := by
  by_cases hc : 0 ≤ w32 i ∧ w32 i < 140
  · unfold fput
    rw [if_pos hc]
    exact upA_r h
  · unfold fput
    rw [if_neg hc]
/-- the first number below n with p; -1 if there is none -/
def firstk (p : Nat → Bool) (n : Nat) : Int := match (List.range n).find? p with
  | some k => k
  | none => -1
theorem firstk_none {p : Nat → Bool} {n : Nat} (h : ∀ j, j < n → p j = false) : firstk p n = -1 := by
  unfold firstk
  rw [List.find?_eq_none.mpr (fun j hj => by rw [h j (List.mem_range.mp hj)]; decide)]
theorem firstk_some {p : Nat → Bool} {n k : Nat} (hk : k < n) (hp : p k = true) (h : ∀ j, j < k → p j = false) : firstk p n = k := by
  unfold firstk
  have e : (List.range n).find? p = some k := by
    rw [List.find?_range_eq_some]
    exact ⟨hp, List.mem_range.mpr hk, fun j hj => by rw [h j hj]; rfl⟩
  rw [e]
def putP (A : AA) (n : Nat) (c k x y w : Int) : AA := fput (fput (fput A n (26 + (c * 4 + k) * 3 + 0) x) n (26 + (c * 4 + k) * 3 + 1) y) n (26 + (c * 4 + k) * 3 + 2) w
def swP (A : AA) (n : Nat) (c i j : Int) : AA := putP (putP A n c i (fat (A n) (26 + (c * 4 + j) * 3 + 0)) (fat (A n) (26 + (c * 4 + j) * 3 + 1)) (fat (A n) (26 + (c * 4 + j) * 3 + 2))) n c j (fat (A n) (26 + (c * 4 + i) * 3 + 0)) (fat (A n) (26 + (c * 4 + i) * 3 + 1)) (fat (A n) (26 + (c * 4 + i) * 3 + 2))
end
section
/-! shifts, masks and signs as arithmetic -/
theorem zk32 : ∀ n : Fin 32, ((Int32.ofInt (n.val : Int) &&& 31).toBitVec.smod 32).toNat = n.val := by decide +kernel
theorem x_shr_eq {a k : Int} (h0 : 0 ≤ k) (h1 : k < 32) : x_shr a k = w32 a / 2 ^ k.toNat := by
  obtain ⟨n, rfl⟩ : ∃ n : Nat, k = n := ⟨k.toNat, by omega⟩
  unfold x_shr w32
  rw [pk_shr _ _ n (zk32 ⟨n, by omega⟩), Int.shiftRight_eq_div_pow]
  rfl
theorem zl_nat {a : Int} (h0 : 0 ≤ a) (h1 : a < 4294967296) : (Int32.ofInt a).toBitVec.toNat = a.toNat := by
  obtain ⟨n, rfl⟩ : ∃ n : Nat, a = n := ⟨a.toNat, by omega⟩
  show (BitVec.ofInt 32 (n : Int)).toNat = _
  rw [BitVec.toNat_ofInt]
  omega
theorem zl_int {x : Int32} {n : Nat} (h : x.toBitVec.toNat = n) (h1 : n < 2147483648) : x.toInt = n := by
  show x.toBitVec.toInt = _
  rw [BitVec.toInt_eq_toNat_of_lt (by omega), h]
theorem x_shl_eq {a k : Int} (h0 : 0 ≤ k) (h1 : k < 32) (ha : 0 ≤ a) (h2 : a * 2 ^ k.toNat < 2147483648) : x_shl a k = a * 2 ^ k.toNat := by
  obtain ⟨n, rfl⟩ : ∃ n : Nat, k = n := ⟨k.toNat, by omega⟩
  obtain ⟨b, rfl⟩ : ∃ b : Nat, a = b := ⟨a.toNat, by omega⟩
  have hp : (((b * 2 ^ n : Nat) : Int)) = (b : Int) * 2 ^ n := by
    rw [Int.natCast_mul, Int.natCast_pow]; rfl
  have e1 : ((n : Int)).toNat = n := by omega
  rw [e1] at h2 ⊢
  have h3 : b * 2 ^ n < 2147483648 := by omega
  have hb : b ≤ b * 2 ^ n := Nat.le_mul_of_pos_right _ (Nat.two_pow_pos n)
  unfold x_shl
  rw [← hp]
  refine zl_int ?_ h3
  rw [pk_shl _ _ n (zk32 ⟨n, by omega⟩), zl_nat (by omega) (by omega)]
  show b * 2 ^ n % 2 ^ 32 = _
  rw [Nat.mod_eq_of_lt (by omega)]
theorem zs_and {x y : Int32} : (x &&& y).toBitVec.toNat = x.toBitVec.toNat &&& y.toBitVec.toNat := by
  show (x.toBitVec &&& y.toBitVec).toNat = _
  rw [BitVec.toNat_and]
theorem zn_w {a : Int} : ((Int32.ofInt a).toBitVec.toNat : Int) = a % 4294967296 := by
  show ((BitVec.ofInt 32 a).toNat : Int) = _
  rw [BitVec.toNat_ofInt]
  omega
theorem x_and_mask {a : Int} (m : Nat) (h : m < 31) : x_and a ((2 ^ m - 1 : Nat) : Int) = a % (2 ^ m : Nat) := by
  have hp : 2 ^ m ≤ 2 ^ 30 := Nat.pow_le_pow_right (by decide) (by omega)
  have hp0 : 0 < 2 ^ m := Nat.two_pow_pos m
  unfold x_and
  have e : ((Int32.ofInt a &&& Int32.ofInt ((2 ^ m - 1 : Nat) : Int))).toBitVec.toNat = (a % (2 ^ m : Nat)).toNat := by
    rw [zs_and, zl_nat (a := ((2 ^ m - 1 : Nat) : Int)) (by omega) (by omega), Int.toNat_natCast, Nat.and_two_pow_sub_one_eq_mod]
    have h1 := zn_w (a := a)
    have h2 : (((Int32.ofInt a).toBitVec.toNat % 2 ^ m : Nat) : Int) = a % (2 ^ m : Nat) := by
      rw [Int.natCast_emod, h1]
      refine Int.emod_emod_of_dvd _ ?_
      have h3 : (4294967296 : Int) = ((2 ^ m * 2 ^ (32 - m) : Nat) : Int) := by
        rw [← Nat.pow_add, show m + (32 - m) = 32 by omega]; rfl
      rw [h3, Int.natCast_mul]
      exact Int.dvd_mul_right _ _
    omega
  have h4 := Int.emod_nonneg a (b := ((2 ^ m : Nat) : Int)) (by omega)
  have h5 := Int.emod_lt_of_pos a (b := ((2 ^ m : Nat) : Int)) (by omega)
  rw [zl_int e (by omega)]
  omega
theorem x_and1 {a : Int} : x_and a 1 = a % 2 := x_and_mask 1 (by omega)
theorem x_and3 {a : Int} : x_and a 3 = a % 4 := x_and_mask 2 (by omega)
theorem x_and63 {a : Int} : x_and a 63 = a % 64 := x_and_mask 6 (by omega)
theorem x_and255 {a : Int} : x_and a 255 = a % 256 := x_and_mask 8 (by omega)
theorem zbm8 (x : Int) : Int.bmod x (2 ^ 8) = (x + 128) % 256 - 128 := by
  show (if x % 256 < (256 + 1) / 2 then x % 256 else x % 256 - 256) = _
  split <;> omega
theorem zbm32 (x : Int) : Int.bmod x 4294967296 = (x + 2147483648) % 4294967296 - 2147483648 := by
  show (if x % 4294967296 < (4294967296 + 1) / 2 then x % 4294967296 else x % 4294967296 - 4294967296) = _
  split <;> omega
theorem zw_eq {a : Int} : w32 a = (a + 2147483648) % 4294967296 - 2147483648 := by
  have h : w32 a = Int.bmod a Int32.size := Int32.toInt_ofInt
  rw [h]
  exact zbm32 a
theorem zb_mod {x : Int32} : (x.toInt8.toInt32).toInt = (x.toInt + 128) % 256 - 128 := by
  rw [Int8.toInt_toInt32, Int32.toInt_toInt8]
  exact zbm8 _
theorem x_i2b_eq {a : Int} : x_i2b a = (a + 128) % 256 - 128 := by
  unfold x_i2b
  rw [zb_mod]
  have h : (Int32.ofInt a).toInt = (a + 2147483648) % 4294967296 - 2147483648 := zw_eq
  rw [h]
  omega
/-- powers of two, small -/
def p2 (k : Int) : Int := 2 ^ k.toNat
theorem p2_0 : p2 0 = 1 := rfl
theorem p2_s {k : Int} (h : 0 ≤ k) : p2 (k + 1) = 2 * p2 k := by
  unfold p2
  rw [show (k + 1).toNat = k.toNat + 1 by omega, Int.pow_succ, Int.mul_comm]
theorem p2_pos {k : Int} : 0 < p2 k := Int.pow_pos (by decide)
theorem p2_le {j k : Int} (h : j ≤ k) : p2 j ≤ p2 k := by
  obtain ⟨d, hd⟩ : ∃ d : Nat, k.toNat = j.toNat + d := ⟨k.toNat - j.toNat, by omega⟩
  unfold p2
  rw [hd, Int.pow_add]
  have h1 : (0 : Int) < 2 ^ j.toNat := Int.pow_pos (by decide)
  have h2 : (0 : Int) < 2 ^ d := Int.pow_pos (by decide)
  have h3 : (2 : Int) ^ j.toNat * 1 ≤ 2 ^ j.toNat * 2 ^ d := Int.mul_le_mul_of_nonneg_left (by omega) (by omega)
  omega
theorem p2_add {j k : Int} (h : 0 ≤ j) (h2 : 0 ≤ k) : p2 (j + k) = p2 j * p2 k := by
  unfold p2
  rw [show (j + k).toNat = j.toNat + k.toNat by omega, Int.pow_add]
theorem p2_6 : p2 6 = 64 := rfl
theorem p2_12 : p2 12 = 4096 := rfl
theorem x_shl1 {k : Int} (h0 : 0 ≤ k) (h1 : k ≤ 12) : x_shl 1 k = p2 k := by
  have h := p2_le h1
  rw [p2_12] at h
  unfold p2 at h
  rw [x_shl_eq h0 (by omega) (by omega) (by omega)]
  unfold p2; omega
theorem x_shlp {a k : Int} (h0 : 0 ≤ k) (h1 : k < 32) (ha : 0 ≤ a) (h2 : a * p2 k < 2147483648) : x_shl a k = a * p2 k := x_shl_eq h0 h1 ha h2
theorem x_shrp {a k : Int} (h0 : 0 ≤ k) (h1 : k < 32) (ha : -2147483648 ≤ a) (hb : a < 2147483648) : x_shr a k = a / p2 k := by
  rw [x_shr_eq h0 h1, w32_id ha hb]; rfl
/-- signs -/
def sg (x : Int) : Int := if 0 < x then 1 else if x < 0 then -1 else 0
theorem sg_p {x : Int} (h : 0 < x) : sg x = 1 := if_pos h
theorem sg_n {x : Int} (h : x < 0) : sg x = -1 := by unfold sg; rw [if_neg (by omega), if_pos h]
theorem sg_0 : sg 0 = 0 := rfl
theorem sg_cases (x : Int) : (0 < x ∧ sg x = 1) ∨ (x < 0 ∧ sg x = -1) ∨ (x = 0 ∧ sg x = 0) := by
  unfold sg
  split
  · exact Or.inl ⟨by assumption, rfl⟩
  · split
    · exact Or.inr (Or.inl ⟨by assumption, rfl⟩)
    · exact Or.inr (Or.inr ⟨by omega, rfl⟩)
theorem sg_eq0 {x : Int} : sg x = 0 ↔ x = 0 := by rcases sg_cases x with h | h | h <;> omega
theorem y_cmp_eq {a b : Int} : y_cmp a b = sg (w64 a - w64 b) := by
  unfold y_cmp sg
  split
  · rw [if_pos (by omega)]
  · split
    · rw [if_neg (by omega), if_neg (by omega)]
    · rw [if_neg (by omega), if_pos (by omega)]
/-- a stretch of a row written anew: g (i) at s + i, for i from 0 to n - 1 -/
def setR (A : AA) (a : Nat) (s n : Int) (g : Int → Int) : AA := fun b i => if b = a ∧ s ≤ i ∧ i < s + n then g (i - s) else A b i
theorem setR_in {A : AA} {a : Nat} {s n : Int} {g : Int → Int} {i : Int} (h : s ≤ i) (h2 : i < s + n) : setR A a s n g a i = g (i - s) := if_pos ⟨rfl, h, h2⟩
theorem setR_at {A : AA} {a : Nat} {s n : Int} {g : Int → Int} {k : Int} (h : 0 ≤ k) (h2 : k < n) : setR A a s n g a (s + k) = g k := by
  rw [setR_in (by omega) (by omega)]; congr 1; omega
theorem setR_o {A : AA} {a b : Nat} {s n : Int} {g : Int → Int} {i : Int} (h : b ≠ a) : setR A a s n g b i = A b i := if_neg (fun q => h q.1)
theorem setR_lt {A : AA} {a b : Nat} {s n : Int} {g : Int → Int} {i : Int} (h : i < s) : setR A a s n g b i = A b i := if_neg (fun q => by omega)
theorem setR_ge {A : AA} {a b : Nat} {s n : Int} {g : Int → Int} {i : Int} (h : s + n ≤ i) : setR A a s n g b i = A b i := if_neg (fun q => by omega)
theorem setR_r {A : AA} {a b : Nat} {s n : Int} {g : Int → Int} (h : b ≠ a) : setR A a s n g b = A b := funext fun _ => setR_o h
theorem setR_0 {A : AA} {a : Nat} {s : Int} {g : Int → Int} : setR A a s 0 g = A := funext fun b => funext fun i => if_neg (fun q => by omega)
theorem setR_put {A : AA} {a : Nat} {s n k v : Int} {g g' : Int → Int} (hk : 0 ≤ k) (h : k < n) (hg : ∀ i, 0 ≤ i → i < n → g' i = if i = k then v else g i) : upA (setR A a s n g) a (s + k) v = setR A a s n g' := by
  funext b i
  unfold upA setR
  by_cases hb : b = a ∧ s ≤ i ∧ i < s + n
  · simp only [if_pos hb]
    rw [hg _ (by omega) (by omega)]
    by_cases hi : i = s + k
    · rw [if_pos ⟨hb.1, hi⟩, if_pos (show i - s = k by omega)]
    · rw [if_neg (fun q => hi q.2), if_neg (show ¬ i - s = k by omega)]
  · rw [if_neg hb, if_neg hb, if_neg (by omega)]
theorem setR_push {A : AA} {a : Nat} {s n v : Int} {g g' : Int → Int} (h : 0 ≤ n) (hg : ∀ i, 0 ≤ i → i < n → g' i = g i) (hv : g' n = v) : upA (setR A a s n g) a (s + n) v = setR A a s (n + 1) g' := by
  funext b i
  unfold upA setR
  by_cases hi : b = a ∧ i = s + n
  · rw [if_pos hi, if_pos (by omega), ← hv, hi.2]; congr 1; omega
  · rw [if_neg hi]
    by_cases hb : b = a ∧ s ≤ i ∧ i < s + n
    · rw [if_pos hb, if_pos (by omega), hg _ (by omega) (by omega)]
    · rw [if_neg hb, if_neg (by omega)]
theorem setR_c {A : AA} {a : Nat} {s n : Int} {g g' : Int → Int} (hg : ∀ i, 0 ≤ i → i < n → g i = g' i) : setR A a s n g = setR A a s n g' := by
  funext b i
  unfold setR
  by_cases hb : b = a ∧ s ≤ i ∧ i < s + n
  · rw [if_pos hb, if_pos hb, hg _ (by omega) (by omega)]
  · rw [if_neg hb, if_neg hb]
theorem w32_ofI (b : Int) : Int32.ofInt (w32 b) = Int32.ofInt b := Int32.ofInt_toInt _
theorem x_shl_w {a b : Int} : x_shl a b = x_shl a (w32 b) := by unfold x_shl; rw [w32_ofI]
theorem xs_w {d : Int} (h : 0 ≤ w32 d) (h2 : w32 d ≤ 12) : x_shl 1 d = p2 (w32 d) := by rw [x_shl_w, x_shl1 h h2]
theorem p2_12' {k : Int} (h : k ≤ 12) : p2 k ≤ 4096 := p2_le h
theorem sg_w {x : Int} : w32 (sg x) = sg x := by rcases sg_cases x with ⟨-, h⟩ | ⟨-, h⟩ | ⟨-, h⟩ <;> rw [h] <;> rfl
theorem y_shl1 {k : Int} (h0 : 0 ≤ k) (h1 : k ≤ 3) : y_shl 1 k = p2 k := by
  have : k = 0 ∨ k = 1 ∨ k = 2 ∨ k = 3 := by omega
  rcases this with rfl | rfl | rfl | rfl <;> rfl
/-! halving: the sums of the first and of the second half -/
def hS (x : Int → Int) : Nat → Int → Int
  | 0, i => x i
  | s + 1, i => if (s : Int) + 1 ≤ i then hS x s i + hS x s (i - 1) else hS x s i
def hR (x : Int → Int) (n : Int) : Nat → Int → Int
  | 0, i => x i
  | s + 1, i => if i ≤ n - ((s : Int) + 1) then hR x n s i + hR x n s (i + 1) else hR x n s i
def hP (x : Int → Int) (n z : Int) (s : Nat) : Int → Int := if z = 0 then hS x s else hR x n s
def hv (x : Int → Int) (n z : Int) : Int → Int := fun k => if z = 0 then hS x n.toNat k * p2 (n - k) else hR x n n.toNat k * p2 k
theorem hR_step {x : Int → Int} {n i s : Int} (h : 1 ≤ s) (h2 : i ≤ n - s) : hR x n (Int.toNat s) i = hR x n (Int.toNat (s - 1)) i + hR x n (Int.toNat (s - 1)) (i + 1) := by
  obtain ⟨m, rfl⟩ : ∃ m : Nat, s = m + 1 := ⟨(s - 1).toNat, by omega⟩
  have e1 : Int.toNat ((m : Int) + 1) = m + 1 := by omega
  have e2 : Int.toNat ((m : Int) + 1 - 1) = m := by omega
  rw [e1, e2]; exact if_pos (by omega)
theorem hR_stay {x : Int → Int} {n i s : Int} (h : 1 ≤ s) (h2 : n - s < i) : hR x n (Int.toNat s) i = hR x n (Int.toNat (s - 1)) i := by
  obtain ⟨m, rfl⟩ : ∃ m : Nat, s = m + 1 := ⟨(s - 1).toNat, by omega⟩
  have e1 : Int.toNat ((m : Int) + 1) = m + 1 := by omega
  have e2 : Int.toNat ((m : Int) + 1 - 1) = m := by omega
  rw [e1, e2]; exact if_neg (by omega)
theorem hS_step {x : Int → Int} {i s : Int} (h : 1 ≤ s) (h2 : s ≤ i) : hS x (Int.toNat s) i = hS x (Int.toNat (s - 1)) i + hS x (Int.toNat (s - 1)) (i - 1) := by
  obtain ⟨m, rfl⟩ : ∃ m : Nat, s = m + 1 := ⟨(s - 1).toNat, by omega⟩
  have e1 : Int.toNat ((m : Int) + 1) = m + 1 := by omega
  have e2 : Int.toNat ((m : Int) + 1 - 1) = m := by omega
  rw [e1, e2]; exact if_pos (by omega)
theorem hS_stay {x : Int → Int} {i s : Int} (h : 1 ≤ s) (h2 : i < s) : hS x (Int.toNat s) i = hS x (Int.toNat (s - 1)) i := by
  obtain ⟨m, rfl⟩ : ∃ m : Nat, s = m + 1 := ⟨(s - 1).toNat, by omega⟩
  have e1 : Int.toNat ((m : Int) + 1) = m + 1 := by omega
  have e2 : Int.toNat ((m : Int) + 1 - 1) = m := by omega
  rw [e1, e2]; exact if_neg (by omega)
end
section
/-! pure pictures: signs of coefficients, cells, roots -/
theorem wbi0 {p : Prop} [Decidable p] : w32 (bi p) = 0 ↔ ¬ p := by rw [w32_bi]; exact bi_0
theorem wbi1 {p : Prop} [Decidable p] : w32 (bi p) = 1 ↔ p := by rw [w32_bi]; exact bi_1
theorem yc_eq0 {a b : Int} : w32 (y_cmp a b) = 0 ↔ w64 a = w64 b := by
  rw [y_cmp_eq, sg_w, sg_eq0]; omega
theorem yc_lt0 {a b : Int} : w32 (y_cmp a b) < 0 ↔ w64 a < w64 b := by
  rw [y_cmp_eq, sg_w]; rcases sg_cases (w64 a - w64 b) with h | h | h <;> omega
theorem yc_gt0 {a b : Int} : 0 < w32 (y_cmp a b) ↔ w64 b < w64 a := by
  rw [y_cmp_eq, sg_w]; rcases sg_cases (w64 a - w64 b) with h | h | h <;> omega
abbrev azP (g : Int → Int) (m : Nat) : Prop := ∀ k : Nat, k < m → w64 (g k) = 0
def chgF (g : Int → Int) : Nat → Int × Int
  | 0 => (0, 0)
  | k + 1 => if sg (w64 (g k)) = 0 then chgF g k else (if sg (w64 (g k)) = -(chgF g k).2 then (chgF g k).1 + 1 else (chgF g k).1, sg (w64 (g k)))
def chg (g : Int → Int) (m : Nat) : Int := (chgF g m).1
theorem chgF_b (g : Int → Int) : ∀ m : Nat, 0 ≤ (chgF g m).1 ∧ (chgF g m).1 ≤ m ∧ -1 ≤ (chgF g m).2 ∧ (chgF g m).2 ≤ 1
  | 0 => ⟨Int.le_refl 0, Int.le_refl 0, (by decide : (-1 : Int) ≤ 0), (by decide : (0 : Int) ≤ 1)⟩
  | k + 1 => by
    have ih := chgF_b g k
    unfold chgF
    split
    · omega
    · rcases sg_cases (w64 (g k)) with h | h | h <;> rw [h.2] <;> dsimp only <;> split <;> omega
theorem chg_b (g : Int → Int) (m : Nat) : 0 ≤ chg g m ∧ chg g m ≤ m := ⟨(chgF_b g m).1, (chgF_b g m).2.1⟩
theorem chgF_c {g g' : Int → Int} : ∀ m : Nat, (∀ k : Nat, k < m → g k = g' k) → chgF g m = chgF g' m
  | 0, _ => rfl
  | k + 1, h => by
    unfold chgF
    rw [chgF_c k (fun j hj => h j (by omega)), h k (by omega)]
theorem chg_c {g g' : Int → Int} {m : Nat} (h : ∀ k : Int, 0 ≤ k → k < m → g k = g' k) : chg g m = chg g' m := by
  unfold chg; rw [chgF_c m (fun k hk => h k (by omega) (by omega))]
def cellF (g : Int → Int) (n : Int) : Nat → Int → Int → Int
  | 0, _ => g
  | d + 1, q => hv (cellF g n d (q / 2)) n (q % 2)
theorem hS_c {x y : Int → Int} {n : Int} (h : ∀ i, 0 ≤ i → i ≤ n → x i = y i) : ∀ (s : Nat) (i : Int), 0 ≤ i → i ≤ n → hS x s i = hS y s i
  | 0, i, h0, h1 => h i h0 h1
  | s + 1, i, h0, h1 => by
    unfold hS
    rw [hS_c h s i h0 h1]
    split
    · rw [hS_c h s (i - 1) (by omega) (by omega)]
    · rfl
theorem hR_c {x y : Int → Int} {n : Int} (h : ∀ i, 0 ≤ i → i ≤ n → x i = y i) : ∀ (s : Nat) (i : Int), 0 ≤ i → i ≤ n → hR x n s i = hR y n s i
  | 0, i, h0, h1 => h i h0 h1
  | s + 1, i, h0, h1 => by
    unfold hR
    rw [hR_c h s i h0 h1]
    split
    · rw [hR_c h s (i + 1) (by omega) (by omega)]
    · rfl
theorem hv_c {x y : Int → Int} {n z : Int} (h : ∀ i, 0 ≤ i → i ≤ n → x i = y i) {k : Int} (h0 : 0 ≤ k) (h1 : k ≤ n) : hv x n z k = hv y n z k := by
  unfold hv
  rw [hS_c h _ k h0 h1, hR_c h _ k h0 h1]
theorem cellF_c {x y : Int → Int} {n : Int} (h : ∀ i, 0 ≤ i → i ≤ n → x i = y i) : ∀ (d : Nat) (q i : Int), 0 ≤ i → i ≤ n → cellF x n d q i = cellF y n d q i
  | 0, _, i, h0, h1 => h i h0 h1
  | d + 1, q, i, h0, h1 => hv_c (fun j j0 j1 => cellF_c h d (q / 2) j j0 j1) h0 h1
theorem cellF_s {g : Int → Int} {n d q : Int} (h : 0 ≤ d) : cellF g n (Int.toNat (d + 1)) q = hv (cellF g n (Int.toNat d) (q / 2)) n (q % 2) := by
  rw [show Int.toNat (d + 1) = Int.toNat d + 1 by omega]; rfl
abbrev RT : Type := Int × Int × Int
/-- the roots of a cell: kind, depth, cell -/
def srch (n lim : Int) : Nat → (Int → Int) → Int → Int → List RT
  | 0, _, _, _ => []
  | f + 1, g, d, q => if chg g (Int.toNat (n + 1)) = 0 then [] else if chg g (Int.toNat (n + 1)) = 1 then [(1, d, q)] else if lim ≤ d then [(2, d, q)] else
    srch n lim f (hv g n 0) (d + 1) (2 * q) ++ ((if w64 (hv g n 1 0) = 0 then [(0, d + 1, 2 * q + 1)] else []) ++ srch n lim f (hv g n 1) (d + 1) (2 * q + 1))
def rootsL (g : Int → Int) (n lim : Int) : List RT := if azP g (Int.toNat (n + 1)) then [] else
  (if w64 (g 0) = 0 then [(0, 0, 0)] else []) ++ (srch n lim 13 g 0 0 ++ (if w64 (g n) = 0 then [(0, 0, 1)] else []))
theorem srch_c {n lim : Int} (hn : 0 ≤ n) : ∀ (f : Nat) {x y : Int → Int} (d q : Int), (∀ i, 0 ≤ i → i ≤ n → x i = y i) → srch n lim f x d q = srch n lim f y d q
  | 0, _, _, _, _, _ => rfl
  | f + 1, x, y, d, q, h => by
    unfold srch
    rw [chg_c (g := x) (g' := y) (fun k k0 k1 => h k k0 (by omega)), srch_c hn f (d + 1) (2 * q) (fun i i0 i1 => hv_c h i0 i1), srch_c hn f (d + 1) (2 * q + 1) (fun i i0 i1 => hv_c h i0 i1), hv_c h (by omega) hn]
/-- a list of roots in three rows, from r on -/
def rts (K D C : Int → Int) : Int → List RT → Prop
  | _, [] => True
  | r, x :: L => K r = x.1 ∧ D r = x.2.1 ∧ C r = x.2.2 ∧ rts K D C (r + 1) L
theorem rts_app {K D C : Int → Int} : ∀ (L M : List RT) (r : Int), rts K D C r (L ++ M) ↔ rts K D C r L ∧ rts K D C (r + L.length) M
  | [], M, r => by simp [rts]
  | x :: L, M, r => by
    have ih := rts_app (K := K) (D := D) (C := C) L M (r + 1)
    simp only [List.cons_append, rts, ih, List.length_cons]
    rw [show r + 1 + (L.length : Int) = r + ((L.length + 1 : Nat) : Int) by omega]
    constructor
    · rintro ⟨a, b, c, d, e⟩; exact ⟨⟨a, b, c, d⟩, e⟩
    · rintro ⟨⟨a, b, c, d⟩, e⟩; exact ⟨a, b, c, d, e⟩
theorem rts_c {K D C K' D' C' : Int → Int} : ∀ (L : List RT) (r : Int), (∀ i, r ≤ i → i < r + L.length → K' i = K i ∧ D' i = D i ∧ C' i = C i) → rts K D C r L → rts K' D' C' r L
  | [], _, _, _ => trivial
  | x :: L, r, h, ⟨a, b, c, d⟩ => by
    have h0 := h r (by omega) (by simp only [List.length_cons]; omega)
    exact ⟨h0.1.trans a, h0.2.1.trans b, h0.2.2.trans c, rts_c L (r + 1) (fun i i0 i1 => h i (by omega) (by simp only [List.length_cons]; omega)) d⟩
theorem rts_at {K D C : Int → Int} : ∀ (L : List RT) (r : Int), rts K D C r L → ∀ (j : Nat) (x : RT), L[j]? = some x → K (r + j) = x.1 ∧ D (r + j) = x.2.1 ∧ C (r + j) = x.2.2
  | [], _, _, j, x, h => by simp at h
  | y :: L, r, ⟨a, b, c, d⟩, 0, x, h => by
    simp only [List.getElem?_cons_zero, Option.some.injEq] at h
    subst h
    simp only [Int.natCast_zero, Int.add_zero]
    exact ⟨a, b, c⟩
  | y :: L, r, ⟨a, b, c, d⟩, j + 1, x, h => by
    have := rts_at L (r + 1) d j x (by simpa using h)
    rw [show r + ((j + 1 : Nat) : Int) = r + 1 + j by omega]
    exact this
/-- how many of the first m are k -/
def cntK (g : Int → Int) (k : Int) : Nat → Int
  | 0 => 0
  | m + 1 => if g m = k then cntK g k m + 1 else cntK g k m
theorem cntK_b (g : Int → Int) (k : Int) : ∀ m : Nat, 0 ≤ cntK g k m ∧ cntK g k m ≤ m
  | 0 => ⟨Int.le_refl 0, Int.le_refl 0⟩
  | m + 1 => by
    have := cntK_b g k m
    unfold cntK
    split <;> omega
theorem cntK_s {g : Int → Int} {k m : Int} (h : 0 ≤ m) : cntK g k (Int.toNat (m + 1)) = if g m = k then cntK g k (Int.toNat m) + 1 else cntK g k (Int.toNat m) := by
  obtain ⟨j, rfl⟩ : ∃ j : Nat, m = j := ⟨m.toNat, by omega⟩
  rw [show Int.toNat ((j : Int) + 1) = j + 1 by omega, show Int.toNat (j : Int) = j by omega]; rfl
theorem chgF_s {g : Int → Int} {m : Int} (h : 0 ≤ m) : chgF g (Int.toNat (m + 1)) = if sg (w64 (g m)) = 0 then chgF g (Int.toNat m) else (if sg (w64 (g m)) = -(chgF g (Int.toNat m)).2 then (chgF g (Int.toNat m)).1 + 1 else (chgF g (Int.toNat m)).1, sg (w64 (g m))) := by
  obtain ⟨j, rfl⟩ : ∃ j : Nat, m = j := ⟨m.toNat, by omega⟩
  rw [show Int.toNat ((j : Int) + 1) = j + 1 by omega, show Int.toNat (j : Int) = j by omega]; rfl
/-- an isolated root's cell, m levels further down -/
def fol (n : Int) : Nat → (Int → Int) → Int → Int
  | 0, _, q => q
  | m + 1, g, q => if ¬ chg g (Int.toNat (n + 1)) = 0 ∧ chg (hv g n 0) (Int.toNat (n + 1)) = 0 then fol n m (hv g n 1) (2 * q + 1) else fol n m (hv g n 0) (2 * q)
theorem fol_c {n : Int} (hn : 0 ≤ n) : ∀ (m : Nat) {x y : Int → Int} (q : Int), (∀ i, 0 ≤ i → i ≤ n → x i = y i) → fol n m x q = fol n m y q
  | 0, _, _, _, _ => rfl
  | m + 1, x, y, q, h => by
    unfold fol
    rw [chg_c (g := x) (g' := y) (fun k k0 k1 => h k k0 (by omega)), chg_c (g := hv x n 0) (g' := hv y n 0) (fun k k0 k1 => hv_c h k0 (by omega)), fol_c hn m (2 * q + 1) (fun i i0 i1 => hv_c h i0 i1), fol_c hn m (2 * q) (fun i i0 i1 => hv_c h i0 i1)]
abbrev isFr (a b : Int) : Prop := if 0 < b then 0 ≤ a ∧ a ≤ b else a ≤ 0 ∧ b ≤ a
/-- the coefficient k of a curve and a line, by a figure's row -/
def cfX (f : Int → Int) (c l k : Int) : Int := w32 (f (26 + (c * 4 + k) * 3 + 2) * (f (122 + l * 3 + 0) * f (26 + (c * 4 + k) * 3 + 0) + f (122 + l * 3 + 1) * f (26 + (c * 4 + k) * 3 + 1) + f (122 + l * 3 + 2)))
/-- what going to a cell leaves: rows above the first alone, the cell's own at its depth -/
def gtP (A B : AA) (n depth q : Int) : Prop := (∀ b i, b ≠ 15 ∨ i < 4 → B b i = A b i) ∧ ∀ i, 0 ≤ i → i ≤ n → B 15 (depth * 4 + i) = cellF (A 15) n (Int.toNat depth) q i
/-- what a search leaves: roots from r on, all above its own row as it was -/
def srP (A B : AA) (r depth : Int) (L : List RT) : Prop := (∀ b i, (b ≠ 15 ∧ b ≠ 16 ∧ b ≠ 17 ∧ b ≠ 18) ∨ (b = 15 ∧ i < 4 * (depth + 1)) ∨ (b ≠ 15 ∧ i < r) → B b i = A b i) ∧ rts (B 16) (B 17) (B 18) r L
theorem upF_s {F : FF} {k j : Nat} {v : Int} : upF F k j v k j = v := if_pos ⟨rfl, rfl⟩
theorem upF_o {F : FF} {k j a b : Nat} {v : Int} (h : a ≠ k ∨ b ≠ j) : upF F k j v a b = F a b := if_neg (fun q => by omega)
theorem upF_2 {F : FF} {k j : Nat} {v w : Int} : upF (upF F k j v) k j w = upF F k j w := by
  funext a b
  unfold upF
  split <;> rfl
theorem upF_id {F : FF} {k j : Nat} {v : Int} (h : v = F k j) : upF F k j v = F := by
  funext a b
  unfold upF
  split
  · rename_i q; rw [h, q.1, q.2]
  · rfl
theorem srP_trans {A B C : AA} {r r' d : Int} {L M : List RT} (h1 : srP A B r d L) (h2 : srP B C r' d M) (hr : r' = r + L.length) : srP A C r d (L ++ M) := by
  subst hr
  refine ⟨fun b i hb => ?_, (rts_app L M r).mpr ⟨rts_c L r (fun i i0 i1 => ⟨h2.1 16 i (Or.inr (Or.inr ⟨by decide, i1⟩)), h2.1 17 i (Or.inr (Or.inr ⟨by decide, i1⟩)), h2.1 18 i (Or.inr (Or.inr ⟨by decide, i1⟩))⟩) h1.2, h2.2⟩⟩
  rw [h2.1 b i (by omega), h1.1 b i hb]
theorem srP_up {A B : AA} {r d : Int} {L : List RT} (h : srP A B r (d + 1) L) : srP A B r d L := ⟨fun b i hb => h.1 b i (by omega), h.2⟩
theorem srP_row {A : AA} {r d m : Int} {g : Int → Int} : srP A (setR A 15 ((d + 1) * 4) m g) r d [] := ⟨fun b i hb => by
  by_cases h : b = 15
  · subst h; exact setR_lt (by omega)
  · exact setR_o h, trivial⟩
theorem srP_add {A : AA} {r d k d' q : Int} : srP A (upA (upA (upA A 16 r k) 17 r d') 18 r q) r d [(k, d', q)] := by
  refine ⟨fun b i hb => ?_, ?_⟩
  · unfold upA
    rw [if_neg (by omega), if_neg (by omega), if_neg (by omega)]
  · refine ⟨?_, ?_, ?_, trivial⟩
    · rw [upA_k (by decide), upA_k (by decide), upA_s]
    · rw [upA_k (by decide), upA_s]
    · rw [upA_s]
theorem srP_id {A : AA} {r d : Int} : srP A A r d [] := ⟨fun _ _ _ => rfl, trivial⟩
theorem srch_s0 {n lim d q : Int} {f : Nat} {g : Int → Int} (h : chg g (Int.toNat (n + 1)) = 0) : srch n lim (f + 1) g d q = [] := by unfold srch; rw [if_pos h]
theorem srch_s1 {n lim d q : Int} {f : Nat} {g : Int → Int} (h : chg g (Int.toNat (n + 1)) = 1) : srch n lim (f + 1) g d q = [(1, d, q)] := by unfold srch; rw [if_neg (by omega), if_pos h]
theorem srch_s2 {n lim d q : Int} {f : Nat} {g : Int → Int} (h : ¬ chg g (Int.toNat (n + 1)) = 0) (h1 : ¬ chg g (Int.toNat (n + 1)) = 1) (h2 : lim ≤ d) : srch n lim (f + 1) g d q = [(2, d, q)] := by unfold srch; rw [if_neg h, if_neg h1, if_pos h2]
theorem srch_s3 {n lim d q : Int} {f : Nat} {g : Int → Int} (h : ¬ chg g (Int.toNat (n + 1)) = 0) (h1 : ¬ chg g (Int.toNat (n + 1)) = 1) (h2 : ¬ lim ≤ d) : srch n lim (f + 1) g d q = srch n lim f (hv g n 0) (d + 1) (2 * q) ++ ((if w64 (hv g n 1 0) = 0 then [(0, d + 1, 2 * q + 1)] else []) ++ srch n lim f (hv g n 1) (d + 1) (2 * q + 1)) := by
  conv => lhs; unfold srch
  rw [if_neg h, if_neg h1, if_neg h2]
end
section
/-! throwing: the two methods that throw, and methods that let through what they throw -/
def am_sup : List String := ["java/lang/RuntimeException", "java/lang/Exception"]
theorem am_thr1 : (vx_atS RX8 356 am_iob am_sup).all (fun w => decide (w ∈ lw_tbl) && am_gw w) = true := by decide +kernel
theorem am_thr2 : ∀ w ∈ vx_atS RX8 356 am_iob am_sup, w ∈ am_tb := by
  intro w hw
  have h := List.all_eq_true.mp am_thr1 w hw
  simp only [Bool.and_eq_true, decide_eq_true_eq] at h
  exact am_tb_in h.1 h.2
theorem am_thr3 : (Cond.classLink RX8 352 am_iob :: Cond.initialized am_iob :: vx_atS RX8 356 am_iob am_sup).all vx_ot = true := by decide +kernel
theorem am_thr4 : Cond.classLink RX8 352 am_iob ∈ am_tb ∧ Cond.initialized am_iob ∈ am_tb := ⟨am_tb_in (by decide +kernel) rfl, am_tb_in (by decide +kernel) rfl⟩
theorem am_thr5 : ∀ n ∈ am_sup, Bundle.fit n = true := by decide +kernel
theorem am_thr6 : Bundle.fit am_iob = true := by decide +kernel
/-- the block that makes and throws the exception: what its instructions are -/
def am_thrD (cc : ByteArray) (pc is : Nat) : Prop := decode cc pc = .ok (.new 352, 3) ∧ decode cc (pc + 3) = .ok (.dup, 1) ∧ decode cc (pc + 4) = .ok (.ldc_w is, 3) ∧ decode cc (pc + 7) = .ok (.invokespecial 356, 3) ∧ decode cc (pc + 10) = .ok (.athrow, 1)
def am_thrB (mc : Nat) : BLK := fun _ K _ st F A u => st = [] ∧ u + 1 ≤ mc ∧ K none F A
set_option maxHeartbeats 4000000 in
/-- a method that returns or throws (kind 1) -/
theorem am_met1 {l : Launch} {lay : List LC} {x : CX} {e1 : CE} (hst : l.stackTraces = false) (hT : ceT e1 = 1) (hy : plainName (ceY e1).cls = true) (hlay : cxLay x = lay) (hret : cxRet x = ceR e1) (hmc : cxMc x = ceK e1) (hthr : cxThr x = true) (hhnd : cxHnd x = none)
    (hspc : ∀ pc b, cxSpc x pc = some b → (ceY e1).cls = RX8 ∧ 6 ≤ ceL e1 ∧ b = am_thrB (ceK e1) ∧ (am_thrD (ceB e1) pc 354 ∨ am_thrD (ceB e1) pc 359)) (hscr : cxScr x = none)
    (hsta : am_sta l x (ceY e1).cls (ceL e1) (ceB e1))
    (hgo : ∀ as F A K, ceS e1 as F A K → (am_fl as).length ≤ ceM e1 ∧ am_way x as (ceM e1) F A K) : am_CT l lay e1 := by
  intro layW hpre D al kC as F A K sz hS
  obtain ⟨hlen, hway⟩ := hgo as F A K hS
  unfold am_Met
  rw [hT]
  refine vx_ofW (cc := ceB e1) (maxL := ceM e1) (ret := ceR e1) hy rfl ?_
  intro p e s m args below meth c s₁ B hml htab hv
  obtain ⟨rfl, rfl, hP, hK, hdis0, hZ0⟩ := hv
  have hZ0 := hZ0 (by decide)
  have hts := atoms_spec (ws := .code (ceY e1) (ceB e1) (ceM e1) (ceR e1) :: am_tb) B.pre
  have hown : s.vm.findClass (ceY e1).cls = some m.cls := findClass_of_methodNamed B.named
  have hlocks := B.notSynchronized
  rw [lg_entry_eq]
  have hLR := am_LR_ent (al := al) hlen
  generalize hAe : va_A (am_ws al kC layW F A) s.heap.size = As at hZ0 ⊢
  have hdis : am_dis al layW As := by
    refine ⟨hdis0.1, fun i hi => ?_⟩
    rw [← hAe]
    exact Or.inl ⟨i, _, am_ws_get (F := F) (A := A) (kC := kC) (al := al) (List.getElem?_eq_getElem hi)⟩
  have hA : ∀ q, s.heap.size ≤ q → As q := fun q h => by rw [← hAe]; exact Or.inr h
  have hE : am_env p l e (am_rm (ceL e1) (ceK e1)) s m (as.map (am_cv al)).toArray c (ceB e1) (ceY e1).cls (ceM e1) D al kC layW As 0 0 (cxMc x) am_tb :=
    ⟨B.exec, B.bytes, hml, hown, fun w hw => hts w (List.mem_cons_of_mem _ hw), hK, hdis, hA, by rw [hmc]; exact Nat.le_of_eq (Nat.zero_add _), by rw [hmc]; exact Nat.le_of_eq (Nat.zero_add _)⟩
  have hret1 : ∀ pc o F A ls u i, (match o with | some (.inl a) => i = Instr.ireturn ∧ (cxRet x = some .int ∨ cxRet x = some .boolean ∧ (a = 0 ∨ a = 1)) | some (.inr (.inl _)) => i = Instr.lreturn ∧ cxRet x = some .long | some (.inr (.inr _)) => False | none => i = Instr.return_ ∧ cxRet x = none) → decode (ceB e1) pc = .ok (i, 1) → K (some o) F A → am_W p l e (am_rm (ceL e1) (ceK e1)) s m (as.map (am_cv al)).toArray below meth c (vx_MQ below (am_Q (ceR e1) K D al kC layW As) (am_X K D al kC layW As) (as.map (am_cv al)).toArray s (ceK e1) (16 * ceK e1) As) (ceM e1) D al kC layW As 0 0 (cxMc x) pc ls o.toList F A u := by
    intro pc o F A ls u i ho hd hk hu H locs lsC hl hP1 hS1
    refine vx_ret ?_
    refine W.widen (k := ceK e1) (n := 16 * ceK e1) (by omega) (by omega) ?_
    rw [hret] at ho
    match o, ho with
    | none, ho =>
      obtain ⟨rfl, hr⟩ := ho
      exact W.vret B.exec B.bytes (by rw [B.returns]; exact hr) (fun t ht hW => by rw [hr]; exact ⟨⟨(F, A), rfl, hk, by dsimp only; rw [ht]; exact hP1⟩, hS1.F ht⟩) hS1.2.2 hd
    | some (.inl a), ho =>
      obtain ⟨rfl, hr | ⟨hr, h01⟩⟩ := ho
      · exact W.iret (v := Int32.ofInt a) B.exec B.bytes (by rw [B.returns]; exact hr) (fun t ht hW => by rw [hr]; exact ⟨⟨_, (a, F, A), rfl, ⟨rfl, hk⟩, by dsimp only; rw [ht]; exact hP1⟩, hS1.F ht⟩) hS1.2.2 hd
      · exact W.zret (v := Int32.ofInt a) (ty := .boolean) B.exec B.bytes (by rw [B.returns]; exact hr) (by rcases h01 with rfl | rfl <;> rfl) (fun t ht hW => by rw [hr]; exact ⟨⟨_, (a, F, A), rfl, ⟨rfl, hk⟩, by dsimp only; rw [ht]; exact hP1⟩, hS1.F ht⟩) hS1.2.2 hd
    | some (.inr (.inl a)), ho =>
      obtain ⟨rfl, hr⟩ := ho
      exact W.lret (v := Int64.ofInt a) B.exec B.bytes (by rw [B.returns]; exact hr) (fun t ht hW => by rw [hr]; exact ⟨⟨_, (a, F, A), rfl, ⟨rfl, hk⟩, by dsimp only; rw [ht]; exact hP1⟩, hS1.F ht⟩) hS1.2.2 hd
    | some (.inr (.inr _)), ho => exact ho.elim
  have hspc1 : ∀ rec : REC, ∀ pc b, cxSpc x pc = some b → ∀ ls st F A u, b rec K ls st F A u → am_W p l e (am_rm (ceL e1) (ceK e1)) s m (as.map (am_cv al)).toArray below meth c (vx_MQ below (am_Q (ceR e1) K D al kC layW As) (am_X K D al kC layW As) (as.map (am_cv al)).toArray s (ceK e1) (16 * ceK e1) As) (ceM e1) D al kC layW As 0 0 (cxMc x) pc ls st F A u := by
    intro rec pc b hb ls st F A u h hu H locs lsC hl hP1 hS1
    obtain ⟨hRX, hlv, rfl, hd⟩ := hspc pc b hb
    obtain ⟨rfl, hu1, hk⟩ := h
    obtain ⟨z1, z2, ⟨a3, z3⟩, ⟨a4, z4⟩⟩ := hZ0
    have hX : ∀ t : State, s.vm.Alike t.vm → H.size ≤ t.heap.size → (∀ q : Nat, q < H.size → t.heap[q]? = H[q]?) → am_X K D al kC layW As am_iob s t := fun t _ h1 h2 => ⟨(F, A), hk, ⟨rfl, hP1.kept (fun k q hkq => h2 q.1 (vx_lt hP1 hkq))⟩, Nat.le_trans hS1.1 h1, fun q hq1 hq2 => by rw [h2 q (Nat.lt_of_lt_of_le hq1 hS1.1)]; exact hS1.2.1 q hq1 hq2⟩
    have hown' : s.vm.findClass RX8 = some m.cls := by rw [← hRX]; exact hown
    have htw : ∀ w, w ∈ am_tb → w.before (as.map (am_cv al)).toArray s = true := fun w hw => hts w (List.mem_cons_of_mem _ hw)
    have hgood : ∀ w ∈ Cond.classLink RX8 352 am_iob :: Cond.initialized am_iob :: vx_atS RX8 356 am_iob am_sup, vx_ot w = true := List.all_eq_true.mp am_thr3
    have hfr : am_sup.length + 3 < (am_rm (ceL e1) (ceK e1)).frames := by show 2 + 3 < ceL e1; omega
    have hlo : (([] : List Value).map fun v => v.category).sum + (13 * (am_sup.length + 1) + 43) ≤ (am_rm (ceL e1) (ceK e1)).locals := by show 0 + (13 * (2 + 1) + 43) ≤ 48 * ceL e1; omega
    rcases hd with ⟨d0, d3, d4, d7, d10⟩ | ⟨d0, d3, d4, d7, d10⟩
    · exact vx_throwSW B.exec B.bytes hst (names := am_sup) hown' am_thr6 am_thr5 (htw _ am_thr4.1) (htw _ am_thr4.2) z3 (fun w hw => htw _ (am_thr2 w hw)) hgood z1 z2 hS1 (by rw [hl.2.1, hml]) d0 d3 d4 d7 d10 (fun x hx => (htab x hx).elim) hfr hlo (by show 0 + u + 1 ≤ ceK e1; omega) (by show 0 + 16 * u + 6 ≤ 16 * ceK e1; omega) hlocks hX hS1.2.2 (by omega) (by omega)
    · exact vx_throwSW B.exec B.bytes hst (names := am_sup) hown' am_thr6 am_thr5 (htw _ am_thr4.1) (htw _ am_thr4.2) z4 (fun w hw => htw _ (am_thr2 w hw)) hgood z1 z2 hS1 (by rw [hl.2.1, hml]) d0 d3 d4 d7 d10 (fun x hx => (htab x hx).elim) hfr hlo (by show 0 + u + 1 ≤ ceK e1; omega) (by show 0 + 16 * u + 6 ≤ 16 * ceK e1; omega) hlocks hX hS1.2.2 (by omega) (by omega)
  have key := hway (am_W p l e (am_rm (ceL e1) (ceK e1)) s m (as.map (am_cv al)).toArray below meth c (vx_MQ below (am_Q (ceR e1) K D al kC layW As) (am_X K D al kC layW As) (as.map (am_cv al)).toArray s (ceK e1) (16 * ceK e1) As) (ceM e1) D al kC layW As 0 0 (cxMc x)) ⟨fun rec hrec pc ls st F A u h =>
    am_run_ok hE ⟨Nat.le_refl _, Nat.le_refl _⟩ (by rw [hlay]; exact hpre) hsta (fun _ => hZ0) (fun L xs h => by rw [hscr] at h; cases h) (fun rec _ pc b h => hspc1 rec pc b h)
      (fun rec hrec pc k e2 hd hk hT2 ls F A u hx hu H locs lsC rest q9 ce hl hP1 hS1 hce hcv hcl => by
        rw [hhnd, hthr] at hx
        refine vx_widen (k := ceK e1) (n := 16 * ceK e1) (by omega) (by omega) ?_
        exact vx_out (E := am_iob) (fun x hx => (htab x hx).elim) hlocks hce hcv hcl (fun t ht _ => ⟨(F, A), hx, ⟨rfl, by dsimp only; rw [ht]; exact hP1⟩, hS1.F ht⟩) hS1.2.2 (Nat.le_refl _) (Nat.le_refl _)) hret1 rec hrec h, fun _ _ _ _ _ _ _ hs h => am_W_sub hs h⟩
  exact key (Nat.zero_le _) s.heap [] _ hLR hP va_S.rf
end
section
theorem dc_lt {cc : ByteArray} {pc : Nat} {r : Jvm.ClassFile.Instr × Nat} (h : decode cc pc = .ok r) : pc < cc.size := by
  by_cases hh : pc < cc.size
  · exact hh
  · exfalso
    unfold decode at h
    have e : ∀ f : Nat → Jvm.ClassFile.Decoder Jvm.ClassFile.Instr, ((Jvm.ClassFile.Reader.u1 : Jvm.ClassFile.Decoder Nat) >>= f).runAt cc pc = .error (Jvm.ClassFile.HasTruncated.truncated pc) := by
      intro f
      simp [Jvm.ClassFile.Reader.runAt, Jvm.ClassFile.Reader.u1, bind, ReaderT.bind, ReaderT.run, StateT.bind, StateT.run, Except.bind, MonadReader.read, readThe, MonadReaderOf.read, ReaderT.read, get, getThe, MonadStateOf.get, StateT.get, Pure.pure, Except.pure, liftM, monadLift, MonadLift.monadLift, StateT.pure, ReaderT.pure, throw, throwThe, MonadExceptOf.throw, StateT.lift, hh]
    rw [show Jvm.ClassFile.Decoder.instr pc = ((Jvm.ClassFile.Reader.u1 : Jvm.ClassFile.Decoder Nat) >>= _) from rfl, e] at h
    cases h
/-- no call of a method behind a place in a short code -/
theorem dc_cov {cc : ByteArray} {en n : Nat} (hn : cc.size = n) (h : (List.range n).all (fun pc => decide (pc < en) || (match decode cc pc with | .ok (.invokevirtual _, _) => false | _ => true)) = true) : ∀ pc k, decode cc pc = .ok (.invokevirtual k, 3) → pc < en := by
  intro pc k hd
  have h1 := List.all_eq_true.mp h pc (List.mem_range.mpr (by rw [← hn]; exact dc_lt hd))
  rw [hd] at h1
  simpa using h1
end
