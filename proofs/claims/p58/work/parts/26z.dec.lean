theorem dc_lt {cc : ByteArray} {pc : Nat} {r : Jvm.ClassFile.Instr × Nat} (h : decode cc pc = .ok r) : pc < cc.size := by
  by_cases hh : pc < cc.size
  · exact hh
  · exfalso
    unfold decode at h
    have e : ∀ f : Nat → Jvm.ClassFile.Decoder Jvm.ClassFile.Instr, ((Jvm.ClassFile.Reader.u1 : Jvm.ClassFile.Decoder Nat) >>= f).runAt cc pc = .error (Jvm.ClassFile.HasTruncated.truncated pc) := by
      intro f
      simp [Jvm.ClassFile.Reader.runAt, Jvm.ClassFile.Reader.u1, bind, ReaderT.bind, ReaderT.run, StateT.bind, StateT.run, Except.bind, MonadReader.read, readThe, MonadReaderOf.read, ReaderT.read, get, getThe, MonadStateOf.get, StateT.get, Pure.pure, Except.pure, liftM, monadLift, MonadLift.monadLift, StateT.pure, ReaderT.pure, throw, throwThe, MonadExceptOf.throw, StateT.lift, hh]
    rw [show Jvm.ClassFile.Decoder.instr pc = ((Jvm.ClassFile.Reader.u1 : Jvm.ClassFile.Decoder Nat) >>= _) from rfl, e] at h
    cases h
/-- no call of a method behind a place in a short code -/
theorem dc_cov {cc : ByteArray} {en n : Nat} (hn : cc.size = n) (h : (List.range n).all (fun pc => decide (pc < en) || (match decode cc pc with | .ok (.invokevirtual _, _) => false | _ => true)) = true) : ∀ pc k, decode cc pc = .ok (.invokevirtual k, 3) → pc < en := by
  intro pc k hd
  have h1 := List.all_eq_true.mp h pc (List.mem_range.mpr (by rw [← hn]; exact dc_lt hd))
  rw [hd] at h1
  simpa using h1
