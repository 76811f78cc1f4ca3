/-! AN ABSTRACT MACHINE over the world of this claim: numbers as Int up to their word (a value is what Int32.ofInt or Int64.ofInt makes of it), fields F k j, rows A k i, places of cells by number. 'am_stp' says, for one instruction, what must hold so that the rest goes on well. -/
abbrev AV : Type := Int ⊕ Int ⊕ Nat
abbrev vI (x : Int) : AV := .inl x
abbrev vL (x : Int) : AV := .inr (.inl x)
abbrev vR (k : Nat) : AV := .inr (.inr k)
def am_cv (al : Nat → Nat) : AV → Value
  | .inl x => .int (Int32.ofInt x)
  | .inr (.inl x) => .long (Int64.ofInt x)
  | .inr (.inr k) => .ref (al k)
def am_cat : AV → Nat
  | .inr (.inl _) => 2
  | _ => 1
abbrev FF : Type := Nat → Nat → Int
abbrev AA : Type := Nat → Int → Int
abbrev LVs : Type := List (Option AV)
abbrev AO : Type := Option (Option AV)
abbrev KK : Type := AO → FF → AA → Prop
abbrev SP : Type := List AV → FF → AA → KK → Prop
abbrev LC : Type := (Nat × List (Option Nat)) ⊕ (Nat × Int)
/-- name, bytes, locals, return type, parameters, class number of the receiver (none: static), kind (0: returns; 1: returns or throws; 2: returns, with the words of throwing), the script that it reads, cells, level, meaning -/
abbrev CE : Type := MethodName × ByteArray × Nat × Option FieldType × Nat × Option Nat × Nat × Option (Int × (Int → Int)) × Nat × Nat × SP
abbrev ceY (e : CE) : MethodName := e.1
abbrev ceB (e : CE) : ByteArray := e.2.1
abbrev ceM (e : CE) : Nat := e.2.2.1
abbrev ceR (e : CE) : Option FieldType := e.2.2.2.1
abbrev ceN (e : CE) : Nat := e.2.2.2.2.1
abbrev ceC (e : CE) : Option Nat := e.2.2.2.2.2.1
abbrev ceT (e : CE) : Nat := e.2.2.2.2.2.2.1
abbrev ceH (e : CE) : Option (Int × (Int → Int)) := e.2.2.2.2.2.2.2.1
abbrev ceK (e : CE) : Nat := e.2.2.2.2.2.2.2.2.1
abbrev ceL (e : CE) : Nat := e.2.2.2.2.2.2.2.2.2.1
abbrev ceS (e : CE) : SP := e.2.2.2.2.2.2.2.2.2.2
abbrev CI : Type := Instr × Nat × List Nat
abbrev REC : Type := Nat → LVs → List AV → FF → AA → Nat → Prop
def w32 (x : Int) : Int := (Int32.ofInt x).toInt
def w64 (x : Int) : Int := (Int64.ofInt x).toInt
def x_and (a b : Int) : Int := (Int32.ofInt a &&& Int32.ofInt b).toInt
def x_or (a b : Int) : Int := (Int32.ofInt a ||| Int32.ofInt b).toInt
def x_shl (a b : Int) : Int := (Int32.ofInt a <<< (Int32.ofInt b &&& 31)).toInt
def x_shr (a b : Int) : Int := (Int32.ofInt a >>> (Int32.ofInt b &&& 31)).toInt
def x_ushr (a b : Int) : Int := ((Int32.ofInt a).toUInt32 >>> ((Int32.ofInt b).toUInt32 &&& Int32.toUInt32 31)).toInt32.toInt
def x_div (a b : Int) : Int := (Int32.ofInt a / Int32.ofInt b).toInt
def x_rem (a b : Int) : Int := (Int32.ofInt a - Int32.ofInt a / Int32.ofInt b * Int32.ofInt b).toInt
def y_div (a b : Int) : Int := (Int64.ofInt a / Int64.ofInt b).toInt
def y_rem (a b : Int) : Int := (Int64.ofInt a - Int64.ofInt a / Int64.ofInt b * Int64.ofInt b).toInt
def y_shl (a b : Int) : Int := (Int64.ofInt a <<< ((Int32.ofInt b).toInt64 &&& 63)).toInt
def y_shr (a b : Int) : Int := (Int64.ofInt a >>> ((Int32.ofInt b).toInt64 &&& 63)).toInt
def y_ushr (a b : Int) : Int := ((Int64.ofInt a).toUInt64 >>> ((Int32.ofInt b).toInt64.toUInt64 &&& Int64.toUInt64 63)).toInt64.toInt
def y_or (a b : Int) : Int := (Int64.ofInt a ||| Int64.ofInt b).toInt
def y_cmp (a b : Int) : Int := if w64 b < w64 a then 1 else if w64 a = w64 b then 0 else -1
def x_i2b (a : Int) : Int := (Int32.ofInt a).toInt8.toInt32.toInt
def x_i2c (a : Int) : Int := ((Int32.ofInt a).toUInt32 % 65536).toInt32.toInt
def x_zb (a : Int) : Int := (vp_nar .boolean (Int32.ofInt a)).toInt
def x_bb (a : Int) : Int := (vp_nar .byte (Int32.ofInt a)).toInt
def x_min (a b : Int) : Int := if w32 b < w32 a then b else a
def x_max (a b : Int) : Int := if w32 a < w32 b then b else a
def x_abs (a : Int) : Int := if 0 ≤ w32 a then a else -a
def upF (F : FF) (k j : Nat) (v : Int) : FF := fun a b => if a = k ∧ b = j then v else F a b
def upA (A : AA) (k : Nat) (i v : Int) : AA := fun a b => if a = k ∧ b = i then v else A a b
def cpA (A : AA) (k0 : Nat) (sp : Int) (k dp n : Int) (kk : Nat) : AA := fun a b => if a = kk ∧ dp ≤ b ∧ b < dp + n then A k0 (sp + (b - dp)) else A a b
def am_nth : LVs → Nat → Option AV
  | [], _ => none
  | a :: _, 0 => a
  | _ :: l, i + 1 => am_nth l i
def am_gI (ls : LVs) (i : Nat) (k : Int → Prop) : Prop := match am_nth ls i with
  | some (.inl x) => k x
  | _ => False
def am_gL (ls : LVs) (i : Nat) (k : Int → Prop) : Prop := match am_nth ls i with
  | some (.inr (.inl x)) => k x
  | _ => False
def am_gR (ls : LVs) (i : Nat) (k : Nat → Prop) : Prop := match am_nth ls i with
  | some (.inr (.inr x)) => k x
  | _ => False
def am_p1 (st : List AV) (k : Int → List AV → Prop) : Prop := match st with
  | .inl a :: r => k a r
  | _ => False
def am_p2 (st : List AV) (k : Int → Int → List AV → Prop) : Prop := match st with
  | .inl b :: .inl a :: r => k a b r
  | _ => False
def am_q1 (st : List AV) (k : Int → List AV → Prop) : Prop := match st with
  | .inr (.inl a) :: r => k a r
  | _ => False
def am_q2 (st : List AV) (k : Int → Int → List AV → Prop) : Prop := match st with
  | .inr (.inl b) :: .inr (.inl a) :: r => k a b r
  | _ => False
def am_pR (st : List AV) (k : Nat → List AV → Prop) : Prop := match st with
  | .inr (.inr a) :: r => k a r
  | _ => False
def am_kill (ls : LVs) (i : Nat) : LVs := match i with
  | 0 => ls
  | j + 1 => match ls[j]? with
    | some (some (.inr (.inl _))) => ls.set j none
    | _ => ls
/-- the same by continuations, so that what goes on is a written list again -/
def am_killk : LVs → Nat → (LVs → Prop) → Prop
  | l, 0, k => k l
  | [], _ + 1, k => k []
  | a :: l, 1, k => match a with
    | some (.inr (.inl _)) => k (none :: l)
    | _ => k (a :: l)
  | a :: l, i + 2, k => am_killk l (i + 1) (fun l' => k (a :: l'))
def am_setk : LVs → Nat → Option AV → (LVs → Prop) → Prop
  | [], _, _, _ => False
  | _ :: l, 0, v, k => k (v :: l)
  | a :: l, i + 1, v, k => am_setk l i v (fun l' => k (a :: l'))
def am_st1 (ls : LVs) (i : Nat) (v : AV) (k : LVs → Prop) : Prop := am_killk ls i fun l => am_setk l i (some v) k
def am_st2 (ls : LVs) (i : Nat) (v : AV) (k : LVs → Prop) : Prop := am_killk ls i fun l => am_setk l i (some v) fun l2 => am_setk l2 (i + 1) none k
def am_tgt (ts : List Nat) (k : Nat → Prop) : Prop := match ts with
  | [t] => k t
  | _ => False
def am_br (c : Prop) (a b : Prop) : Prop := (c → a) ∧ (¬ c → b)
def am_obj (lay : List LC) (o : Nat) (k : Nat → List (Option Nat) → Prop) : Prop := match lay[o]? with
  | some (.inl (ci, fs)) => k ci fs
  | _ => False
def am_arr (lay : List LC) (o : Nat) (k : Nat → Int → Prop) : Prop := match lay[o]? with
  | some (.inr (kd, n)) => k kd n
  | _ => False
def am_sw (x : Int) (rec : Nat → Prop) : Int → List Nat → Prop
  | _, [] => True
  | lo, t :: ts => (w32 x = lo → rec t) ∧ am_sw x rec (lo + 1) ts
def am_sum (st : List AV) : Nat := (st.map am_cat).foldr (· + ·) 0
/-- a call: the callee's meaning, with what goes on behind it -/
def am_call (lay : List LC) (thr : Bool) (hnd : Option Nat) (mcO : Nat) (rec : REC) (K : KK) (nx : Nat) (ls : LVs) (st : List AV) (F : FF) (A : AA) (u : Nat) (e : CE) : Prop :=
  cond (Nat.ble (u + ceK e) mcO && Nat.ble (am_sum (st.drop (match ceC e with | none => ceN e | some _ => ceN e + 1))) 8 && Nat.ble (match ceC e with | none => ceN e | some _ => ceN e + 1) st.length && (match ceC e, st[ceN e]? with
    | none, _ => true
    | some ci, some (.inr (.inr o)) => (match lay[o]? with | some (.inl (cj, _)) => Nat.beq ci cj | _ => false)
    | _, _ => false))
  (ceS e (st.take (match ceC e with | none => ceN e | some _ => ceN e + 1)).reverse F A (fun o F' A' => match o with
    | some (some v) => rec nx ls (v :: st.drop (match ceC e with | none => ceN e | some _ => ceN e + 1)) F' A' (u + ceK e)
    | some none => rec nx ls (st.drop (match ceC e with | none => ceN e | some _ => ceN e + 1)) F' A' (u + ceK e)
    | none => match hnd with
      | some h => rec h (ls.map fun _ => none) [] F' A' (u + ceK e)
      | none => cond thr (K none F' A') False)) False
/-- Math's own and arraycopy: by the number that 'mth' has -/
def am_mth (lay : List LC) (nx : Nat) (rec : REC) (ls : LVs) (st : List AV) (F : FF) (A : AA) (u : Nat) (n : Nat) (other : Prop) : Prop := match n with
  | 1 => am_p2 st fun a b r => cond (Nat.ble (am_sum r) 8) (rec nx ls (vI (x_min a b) :: r) F A u) False
  | 2 => am_p2 st fun a b r => cond (Nat.ble (am_sum r) 8) (rec nx ls (vI (x_max a b) :: r) F A u) False
  | 3 => am_p1 st fun a r => cond (Nat.ble (am_sum r) 8) (rec nx ls (vI (x_abs a) :: r) F A u) False
  | 4 => am_p2 st fun dp n r => am_pR r fun a r => am_p1 r fun sp r => am_pR r fun a0 r => am_arr lay a fun kd m => am_arr lay a0 fun kd0 m0 => cond (Nat.beq kd 0 && (Nat.beq kd0 0 && Nat.ble (am_sum r) 8)) ((0 ≤ w32 n ∧ 0 ≤ w32 sp ∧ w32 sp + w32 n ≤ m0 ∧ 0 ≤ w32 dp ∧ w32 dp + w32 n ≤ m) ∧ rec nx ls r F (cpA A a0 (w32 sp) 0 (w32 dp) (w32 n) a) u) False
  | _ => other
def am_ldA (lay : List LC) (scr : Option (Int × (Int → Int))) (A : AA) (o : Nat) (i : Int) (k : Int → Prop) : Prop := match lay[o]? with
  | some (.inr (0, n)) => (0 ≤ w32 i ∧ w32 i < n) ∧ k (A o (w32 i))
  | some _ => False
  | none => match scr with
    | some (L, xs) => cond (Nat.beq o 999) ((0 ≤ w32 i ∧ w32 i < L) ∧ k (xs (w32 i))) False
    | none => False
def am_len (lay : List LC) (scr : Option (Int × (Int → Int))) (o : Nat) (k : Int → Prop) : Prop := match lay[o]? with
  | some (.inr (_, n)) => k n
  | some _ => False
  | none => match scr with
    | some (L, _) => cond (Nat.beq o 999) (k L) False
    | none => False
def am_ldB (lay : List LC) (A : AA) (o : Nat) (i : Int) (k : Int → Prop) : Prop := match lay[o]? with
  | some (.inr (2, n)) => (0 ≤ w32 i ∧ w32 i < n) ∧ k (A o (w32 i))
  | some (.inr (3, n)) => (0 ≤ w32 i ∧ w32 i < n) ∧ k (A o (w32 i))
  | _ => False
def am_stB (lay : List LC) (A : AA) (o : Nat) (i v : Int) (k : AA → Prop) : Prop := match lay[o]? with
  | some (.inr (2, n)) => (0 ≤ w32 i ∧ w32 i < n) ∧ k (upA A o (w32 i) (x_bb v))
  | some (.inr (3, n)) => (0 ≤ w32 i ∧ w32 i < n) ∧ k (upA A o (w32 i) (x_zb v))
  | _ => False
def am_ldL (lay : List LC) (A : AA) (o : Nat) (i : Int) (k : Int → Prop) : Prop := match lay[o]? with
  | some (.inr (1, n)) => (0 ≤ w32 i ∧ w32 i < n) ∧ k (A o (w32 i))
  | _ => False
def am_stk (lay : List LC) (kd : Nat) (A : AA) (o : Nat) (i v : Int) (k : AA → Prop) : Prop := am_arr lay o fun kd' n => cond (Nat.beq kd kd') ((0 ≤ w32 i ∧ w32 i < n) ∧ k (upA A o (w32 i) v)) False
def am_ret (ret : Option FieldType) (x : Int) (p : Prop) : Prop := match ret with
  | some .int => p
  | some .boolean => (x = 0 ∨ x = 1) ∧ p
  | _ => False
def am_isL (ret : Option FieldType) : Bool := match ret with
  | some .long => true
  | _ => false
def am_icmp (cd : Jvm.ClassFile.Cond) (a b : Int) (p q : Prop) : Prop := match cd with
  | .eq => am_br (w32 a = w32 b) p q
  | .ne => am_br (w32 a = w32 b) q p
  | .lt => am_br (w32 a < w32 b) p q
  | .ge => am_br (w32 a < w32 b) q p
  | .gt => am_br (w32 b < w32 a) p q
  | .le => am_br (w32 b < w32 a) q p
abbrev BLK : Type := REC → KK → LVs → List AV → FF → AA → Nat → Prop
abbrev CX : Type := (Nat → Option CI) × List LC × (Nat → Option (Nat × Nat × Bool)) × (Nat → Option CE) × (Nat → Option Int) × (Nat → Option Int) × (Nat → Nat) × Option FieldType × Bool × Option Nat × Nat × Option (Int × (Int → Int)) × (Nat → Option BLK)
abbrev cxCode (x : CX) : Nat → Option CI := x.1
abbrev cxLay (x : CX) : List LC := x.2.1
abbrev cxFld (x : CX) : Nat → Option (Nat × Nat × Bool) := x.2.2.1
abbrev cxCal (x : CX) : Nat → Option CE := x.2.2.2.1
abbrev cxCst (x : CX) : Nat → Option Int := x.2.2.2.2.1
abbrev cxCsL (x : CX) : Nat → Option Int := x.2.2.2.2.2.1
abbrev cxMth (x : CX) : Nat → Nat := x.2.2.2.2.2.2.1
abbrev cxRet (x : CX) : Option FieldType := x.2.2.2.2.2.2.2.1
abbrev cxThr (x : CX) : Bool := x.2.2.2.2.2.2.2.2.1
abbrev cxHnd (x : CX) : Option Nat := x.2.2.2.2.2.2.2.2.2.1
abbrev cxMc (x : CX) : Nat := x.2.2.2.2.2.2.2.2.2.2.1
abbrev cxScr (x : CX) : Option (Int × (Int → Int)) := x.2.2.2.2.2.2.2.2.2.2.2.1
abbrev cxSpc (x : CX) : Nat → Option BLK := x.2.2.2.2.2.2.2.2.2.2.2.2
def am_spc (x : CX) (rec : REC) (K : KK) (pc : Nat) (ls : LVs) (st : List AV) (F : FF) (A : AA) (u : Nat) : Prop := match cxSpc x pc with
  | some b => b rec K ls st F A u
  | none => False
def am_ins (x : CX) (rec : REC) (K : KK) (pc : Nat) (ls : LVs) (st : List AV) (F : FF) (A : AA) (u : Nat) (i : Instr) (nx : Nat) (ts : List Nat) : Prop := match i with
  | .iconst n => rec nx ls (vI n :: st) F A u
  | .bipush n => rec nx ls (vI n :: st) F A u
  | .sipush n => rec nx ls (vI n :: st) F A u
  | .lconst n => rec nx ls (vL (n.val : Nat) :: st) F A u
  | .ldc k => match cxCst x k with
    | some v => rec nx ls (vI v :: st) F A u
    | none => am_spc x rec K pc ls st F A u
  | .ldc_w k => match cxCst x k with
    | some v => rec nx ls (vI v :: st) F A u
    | none => am_spc x rec K pc ls st F A u
  | .ldc2_w k => match cxCsL x k with
    | some v => rec nx ls (vL v :: st) F A u
    | none => False
  | .new _ => am_spc x rec K pc ls st F A u
  | .iload i => am_gI ls i fun a => rec nx ls (vI a :: st) F A u
  | .iload_n i => am_gI ls i.val fun a => rec nx ls (vI a :: st) F A u
  | .lload i => am_gL ls i fun a => rec nx ls (vL a :: st) F A u
  | .lload_n i => am_gL ls i.val fun a => rec nx ls (vL a :: st) F A u
  | .aload i => am_gR ls i fun a => rec nx ls (vR a :: st) F A u
  | .aload_n i => am_gR ls i.val fun a => rec nx ls (vR a :: st) F A u
  | .istore i => am_p1 st fun a r => am_st1 ls i (vI a) fun l => rec nx l r F A u
  | .istore_n i => am_p1 st fun a r => am_st1 ls i.val (vI a) fun l => rec nx l r F A u
  | .lstore i => am_q1 st fun a r => am_st2 ls i (vL a) fun l => rec nx l r F A u
  | .lstore_n i => am_q1 st fun a r => am_st2 ls i.val (vL a) fun l => rec nx l r F A u
  | .astore i => am_pR st fun a r => am_st1 ls i (vR a) fun l => rec nx l r F A u
  | .astore_n i => am_pR st fun a r => am_st1 ls i.val (vR a) fun l => rec nx l r F A u
  | .iinc i n => am_gI ls i fun a => am_st1 ls i (vI (a + n)) fun l => rec nx l st F A u
  | .iadd => am_p2 st fun a b r => rec nx ls (vI (a + b) :: r) F A u
  | .isub => am_p2 st fun a b r => rec nx ls (vI (a - b) :: r) F A u
  | .imul => am_p2 st fun a b r => rec nx ls (vI (a * b) :: r) F A u
  | .ineg => am_p1 st fun a r => rec nx ls (vI (-a) :: r) F A u
  | .idiv => am_p2 st fun a b r => (w32 b ≠ 0) ∧ rec nx ls (vI (x_div a b) :: r) F A u
  | .irem => am_p2 st fun a b r => (w32 b ≠ 0) ∧ rec nx ls (vI (x_rem a b) :: r) F A u
  | .iand => am_p2 st fun a b r => rec nx ls (vI (x_and a b) :: r) F A u
  | .ior => am_p2 st fun a b r => rec nx ls (vI (x_or a b) :: r) F A u
  | .ishl => am_p2 st fun a b r => rec nx ls (vI (x_shl a b) :: r) F A u
  | .ishr => am_p2 st fun a b r => rec nx ls (vI (x_shr a b) :: r) F A u
  | .iushr => am_p2 st fun a b r => rec nx ls (vI (x_ushr a b) :: r) F A u
  | .ladd => am_q2 st fun a b r => rec nx ls (vL (a + b) :: r) F A u
  | .lsub => am_q2 st fun a b r => rec nx ls (vL (a - b) :: r) F A u
  | .lmul => am_q2 st fun a b r => rec nx ls (vL (a * b) :: r) F A u
  | .lneg => am_q1 st fun a r => rec nx ls (vL (-a) :: r) F A u
  | .ldiv => am_q2 st fun a b r => (w64 b ≠ 0) ∧ rec nx ls (vL (y_div a b) :: r) F A u
  | .lrem => am_q2 st fun a b r => (w64 b ≠ 0) ∧ rec nx ls (vL (y_rem a b) :: r) F A u
  | .lor => am_q2 st fun a b r => rec nx ls (vL (y_or a b) :: r) F A u
  | .lshl => am_p1 st fun b r => am_q1 r fun a r => rec nx ls (vL (y_shl a b) :: r) F A u
  | .lshr => am_p1 st fun b r => am_q1 r fun a r => rec nx ls (vL (y_shr a b) :: r) F A u
  | .lushr => am_p1 st fun b r => am_q1 r fun a r => rec nx ls (vL (y_ushr a b) :: r) F A u
  | .lcmp => am_q2 st fun a b r => rec nx ls (vI (y_cmp a b) :: r) F A u
  | .i2l => am_p1 st fun a r => rec nx ls (vL (w32 a) :: r) F A u
  | .l2i => am_q1 st fun a r => rec nx ls (vI a :: r) F A u
  | .i2b => am_p1 st fun a r => rec nx ls (vI (x_i2b a) :: r) F A u
  | .i2c => am_p1 st fun a r => rec nx ls (vI (x_i2c a) :: r) F A u
  | .pop => match st with
    | .inl _ :: r => rec nx ls r F A u
    | _ => False
  | .dup => match st with
    | .inl a :: r => rec nx ls (vI a :: vI a :: r) F A u
    | .inr (.inr a) :: r => rec nx ls (vR a :: vR a :: r) F A u
    | _ => False
  | .dup2 => match st with
    | .inl a :: .inr (.inr b) :: r => rec nx ls (vI a :: vR b :: vI a :: vR b :: r) F A u
    | .inl a :: .inl b :: r => rec nx ls (vI a :: vI b :: vI a :: vI b :: r) F A u
    | .inr (.inl a) :: r => rec nx ls (vL a :: vL a :: r) F A u
    | _ => False
  | .goto _ => am_tgt ts fun t => rec t ls st F A u
  | .if_icmp cd _ => am_p2 st fun a b r => am_tgt ts fun t => am_icmp cd a b (rec t ls r F A u) (rec nx ls r F A u)
  | .ifCond cd _ => am_p1 st fun a r => am_tgt ts fun t => am_icmp cd a 0 (rec t ls r F A u) (rec nx ls r F A u)
  | .tableswitch _ lo hi _ => am_p1 st fun a r => match ts with
    | d :: l => am_sw a (fun t => rec t ls r F A u) lo l ∧ (w32 a < lo ∨ hi < w32 a → rec d ls r F A u)
    | [] => False
  | .getfield k => am_pR st fun o r => match cxFld x k with
    | some (ci, j, _) => am_obj (cxLay x) o fun cj fs => cond (Nat.beq ci cj) (match fs[j]? with
      | some none => rec nx ls (vI (F o j) :: r) F A u
      | some (some t) => rec nx ls (vR t :: r) F A u
      | none => False) False
    | none => False
  | .putfield k => am_p1 st fun v r => am_pR r fun o r => match cxFld x k with
    | some (ci, j, true) => am_obj (cxLay x) o fun cj fs => cond (Nat.beq ci cj) (match fs[j]? with
      | some none => rec nx ls r (upF F o j v) A u
      | _ => False) False
    | _ => False
  | .arraylength => am_pR st fun o r => am_len (cxLay x) (cxScr x) o fun n => rec nx ls (vI n :: r) F A u
  | .iaload => am_p1 st fun i r => am_pR r fun o r => am_ldA (cxLay x) (cxScr x) A o i fun v => rec nx ls (vI v :: r) F A u
  | .baload => am_p1 st fun i r => am_pR r fun o r => am_ldB (cxLay x) A o i fun v => rec nx ls (vI v :: r) F A u
  | .laload => am_p1 st fun i r => am_pR r fun o r => am_ldL (cxLay x) A o i fun v => rec nx ls (vL v :: r) F A u
  | .iastore => am_p1 st fun v r => am_p1 r fun i r => am_pR r fun o r => am_stk (cxLay x) 0 A o i v fun A' => rec nx ls r F A' u
  | .lastore => am_q1 st fun v r => am_p1 r fun i r => am_pR r fun o r => am_stk (cxLay x) 1 A o i v fun A' => rec nx ls r F A' u
  | .bastore => am_p1 st fun v r => am_p1 r fun i r => am_pR r fun o r => am_stB (cxLay x) A o i v fun A' => rec nx ls r F A' u
  | .invokevirtual k => match cxCal x k with
    | some e => match ceC e with
      | some _ => am_call (cxLay x) (cxThr x) (cxHnd x) (cxMc x) rec K nx ls st F A u e
      | none => False
    | none => am_spc x rec K pc ls st F A u
  | .invokestatic k => am_mth (cxLay x) nx rec ls st F A u (cxMth x k) (match cxCal x k with
    | some e => match ceC e with
      | none => am_call (cxLay x) (cxThr x) (cxHnd x) (cxMc x) rec K nx ls st F A u e
      | some _ => False
    | none => False)
  | .ireturn => am_p1 st fun a r => match r with
    | [] => am_ret (cxRet x) a (K (some (some (vI a))) F A)
    | _ => False
  | .lreturn => am_q1 st fun a r => match r with
    | [] => cond (am_isL (cxRet x)) (K (some (some (vL a))) F A) False
    | _ => False
  | .return_ => match st, cxRet x with
    | [], none => K (some none) F A
    | _, _ => False
  | _ => False
def am_stp (x : CX) (rec : REC) (K : KK) (pc : Nat) (ls : LVs) (st : List AV) (F : FF) (A : AA) (u : Nat) : Prop := match cxSpc x pc with
  | some b => b rec K ls st F A u
  | none => match cxCode x pc with
    | some (i, nx, ts) => am_ins x rec K pc ls st F A u i nx ts
    | none => False
def am_mask : List Bool → LVs → LVs
  | b :: bs, v :: ls => cond b v none :: am_mask bs ls
  | [], ls => ls.map fun _ => none
  | _, [] => []
abbrev CUT : Type := Nat → Option (List Bool)
def am_run (x : CX) (cut : CUT) (Kc : REC) (K : KK) : Nat → REC
  | 0 => fun _ _ _ _ _ _ => False
  | n + 1 => fun pc ls st F A u => match cut pc with
    | some b => Kc pc (am_mask b ls) st F A u
    | none => am_stp x (am_run x cut Kc K n) K pc ls st F A u
