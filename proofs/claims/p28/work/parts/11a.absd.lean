/-! Math.abs of a double. The machine has an entry of its own for it, which comes before the method's bytecode; where the argument is no NaN, it draws nothing. -/
section GAB
def ga_N : MethodName := ⟨"java/lang/Math", "abs", "(D)D"⟩
def ga_C : ByteArray := ⟨#[0x26, 0xb8, 0x00, 0x4f, 0x14, 0x00, 0x87, 0x7f, 0xb8, 0x00, 0xa6, 0xaf]⟩
abbrev ga_no (b : UInt64) : Prop := b &&& 0x7fffffffffffffff ≤ 0x7ff0000000000000
def ga_E : NativeRow := (NativeRow.find? Native.java_lang_Math.nans.rows "java/lang/Math" "abs" "(D)D").get (by decide +kernel)
set_option maxRecDepth 100000 in
theorem ga_find (p : Program) : NativeRow.find? p.tables.natives "java/lang/Math" "abs" "(D)D" = some ga_E := by
  cases p <;> rfl
theorem ga_runs {b : UInt64} (h : ga_no b) (e : Env) (S : State) : ∃ acts, (ga_E.sem #[.double b]).run e S = .ok (some (.double (b &&& 0x7fffffffffffffff))) S acts := by
  have e1 : ga_E.sem #[.double b] = (do
      let r ← anyNaN64 (b &&& 0x7fffffffffffffff)
      mark "nat.java_lang_Math.abs"
      Pure.pure (some (.double r))) := rfl
  have h2 : (b &&& 0x7fffffffffffffff) &&& 0x7fffffffffffffff ≤ 0x7ff0000000000000 := by rw [UInt64.and_assoc, UInt64.and_self]; exact h
  have h3 : wpRun (ga_E.sem #[.double b]) (fun v s₂ _ => v = some (.double (b &&& 0x7fffffffffffffff)) ∧ s₂ = S) (fun _ _ _ => False) e S := by
    rw [e1]
    simp [jvm, wpRun, anyNaN64, h2]
  have h4 := (wpRun_iff_run _ _ _ _ _).mp h3
  cases hr : (ga_E.sem #[.double b]).run e S with
  | ok v s₂ acts₂ => rw [hr] at h4; obtain ⟨rfl, rfl⟩ := h4; exact ⟨_, rfl⟩
  | ctl x s₂ acts₂ => rw [hr] at h4; cases x <;> exact h4.elim
theorem ga_over {tb : Tables} {e : Env} {s : State} {f : JFrame} {k : Class} {x : Method} {row : NativeRow} (hpc : f.pc = 0) (hk : s.vm.classes[f.method.cls]? = some k)
    (hin : k.name ∈ overriddenIn) (hboot : k.loader = none) (hx : k.methods[f.method.idx]? = some x) (hrow : NativeRow.find? tb.natives k.name x.name x.desc = some row) :
    overridden tb e s f = some row := by
  unfold overridden
  simp [hpc, hk, hboot, hx, hrow]
  intro h
  exact absurd hin h
theorem ga_step (p : Program) {e : Env} {below : List Frame} {s target : State} {g : JFrame} {c : Code} (h : At s g.method c below) (acts : List Action)
    {m : MethodId} {meth : Method} {k : Class} {cm : Code} {b : UInt64}
    (hk : s.vm.classes[m.cls]? = some k) (hx : k.methods[m.idx]? = some meth) (hboot : k.loader = none)
    (hkn : k.name = "java/lang/Math") (hmn : meth.name = "abs") (hmd : meth.desc = "(D)D") (hsig : parseMethodDescriptor "(D)D" = some meth.sig)
    (hc : meth.code = some cm) (hml : cm.maxLocals = 2) (hl : meth.locks = false)
    (hfull : e.platform.stackFull (((s.setTop g).threads[(s.setTop g).cur]?).getD { frames := [] }) (s.setTop g).frames cm.maxLocals = false)
    (hb : ga_no b) {ig : Instr} {len : Nat} (hdg : decode c.code g.pc = .ok (ig, len))
    (hrest : Steps p.tables e below (s.setTop { g with pc := g.pc + len, stack := .double (b &&& 0x7fffffffffffffff) :: g.stack }) target) :
    Steps p.tables e below (doInvoke e (s.setTop g) acts m #[.double b]).1 target := by
  obtain ⟨g₀, hg⟩ := Option.isSome_iff_exists.mp h.top
  obtain ⟨r, hr⟩ := State.topJava?_eq_some.mp hg
  obtain ⟨mid, hmid⟩ := h.above
  have hcur : s.cur < s.threads.size := State.cur_lt_of_frames hr
  have hm : s.vm.method? m = some meth := by simp [Vm.method?, hk, hx]
  have htop : s.setTop g = s.setFrames (.java g :: r) := State.setTop_of_frames _ hr
  rw [(doInvoke_java (s := s.setTop g) (e := e) (acts := acts) (args := #[.double b]) (meth := meth) (code := cm) hm hc hl hfull).1, hml]
  have hU : (s.setTop g).pushFrame (.java { method := m, pc := 0, locals := argsToLocals #[.double b] 2, stack := [], locked := none }) = s.setFrames (.java (entryFrame m #[.double b] 2) :: .java g :: r) := by
    rw [State.pushFrame, State.frames_setTop _ hr, htop, State.setFrames_setFrames]
    rfl
  rw [hU]
  have hf1 : (s.setFrames (.java (entryFrame m #[.double b] 2) :: .java g :: r)).frames = .java (entryFrame m #[.double b] 2) :: .java g :: r := State.frames_setFrames _ hcur
  have hov : overridden p.tables e (s.setFrames (.java (entryFrame m #[.double b] 2) :: .java g :: r)) (entryFrame m #[.double b] 2) = some ga_E :=
    ga_over (k := k) (x := meth) rfl hk (by rw [hkn]; decide) hboot hx (by rw [hkn, hmn, hmd]; exact ga_find p)
  have hb2 : ∀ F : List Frame, ((s.setFrames F).vm.classes[m.cls]?.bind fun y => y.methods[m.idx]?) = some meth := by
    intro F
    show (s.vm.classes[m.cls]?.bind fun y => y.methods[m.idx]?) = some meth
    simp [hk, hx]
  have hsig2 : parseMethodDescriptor "(D)D" = some { parameters := [.double], returnType := some .double } := by decide +kernel
  have hparams : meth.sig.parameters.length = 1 := by
    have h3 := hsig
    rw [hsig2] at h3
    rw [← Option.some.inj h3]
    rfl
  have htake : ∀ n : Nat, List.take (1 + n) [Value.double b] = [Value.double b] := by
    intro n
    exact List.take_of_length_le (Nat.le_add_right 1 n)
  obtain ⟨acts₂, hr2⟩ := ga_runs hb e (s.setFrames (.native { method := m, args := #[.double b] } :: .java g :: r))
  have hcode : ∀ F : List Frame, (s.setFrames F).code? g.method = some c := by
    intro F
    have := h.code
    rw [State.code?_eq] at this ⊢
    simpa [State.setFrames] using this
  have hfs : handOver (s.setFrames (.native { method := m, args := #[.double b] } :: .java g :: r)) (some (.double (b &&& 0x7fffffffffffffff))) (.java g :: r)
      = some (.java { g with pc := g.pc + len, stack := .double (b &&& 0x7fffffffffffffff) :: g.stack } :: r) := by
    simp [handOver, hcode, hdg, Except.toOption]
  have hstep2 : (stepThread p.tables e (s.setFrames (.java (entryFrame m #[.double b] 2) :: .java g :: r))).1 = s.setTop { g with pc := g.pc + len, stack := .double (b &&& 0x7fffffffffffffff) :: g.stack } := by
    unfold stepThread
    simp only [hf1, hov]
    have hb3 : (s.vm.classes[m.cls]?.bind fun y => y.methods[m.idx]?) = some meth := by simp [hk, hx]
    simp [entryFrame, argsToLocals, Value.category, argCount, hb2, hb3, hparams, htake, hr2, afterNative]
    rw [doReturn_native (f := { method := m, args := #[.double b] }) (below := .java g :: r) (State.frames_setFrames _ hcur) rfl hfs, State.setFrames_setFrames, ← State.setTop_of_frames _ hr]
  refine Steps.head ⟨h.running, by simpa using h.runnable, by simpa using h.alone⟩ ⟨.java (entryFrame m #[.double b] 2) :: .java g :: mid, by rw [hf1]; rw [hr] at hmid; simp at hmid; simp [hmid], by simp, by simp⟩ ?_
  rw [hstep2]
  exact hrest
variable {p : Program} {l : Launch} {e : Env} {R : Room} {s : State} {m : MethodId} {args : Array Value} {below : List Frame} {meth : Method} {c : Code} {H : Heap} {locs : List Loc} {cells slots : Nat} {Q : State → Prop}
variable {pc : Nat} {ls : Array Slot} {rest : List Value}
theorem ga_abs0 {T : State} (X : Stand p l e R s m args below meth c T locs cells slots) (hexec : p.tables.exec = Jvm.exec) {own : String} {index : Nat} (hown : s.vm.findClass own = some m.cls) (hlink : (Cond.methodLink own index ga_N).before args s = true) (hstat : (Cond.static ga_N).before args s = true) (hinit : (Cond.initialized "java/lang/Math").before args s = true)
    (hcode : (Cond.code ga_N ga_C 2 (some .double)).before args s = true)
    {g : JFrame} (hg : g.method = m) (hsize : g.locals.size = c.maxLocals) {rest : List Value} {b : UInt64} (hb : ga_no b) (hstack : g.stack = .double b :: rest) (hdg : decode c.code g.pc = .ok (.invokestatic index, 3)) (hframes : 1 ≤ R.frames) (hlocals : 2 * g.monitorRoom + (rest.map fun v => v.category).sum + 13 ≤ R.locals) :
    ∃ vm', Stand p l e R s m args below meth c (T.setVm vm') locs cells slots ∧ ∀ target, Steps p.tables e below ((T.setVm vm').setTop { g with pc := g.pc + 3, stack := .double (b &&& 0x7fffffffffffffff) :: rest }) target → Steps p.tables e below (T.setTop g) target := by
  obtain ⟨mS, hnS⟩ : ∃ mS, s.methodNamed? ga_N = some mS := by
    cases hz : s.methodNamed? ga_N with
    | some mS => exact ⟨mS, rfl⟩
    | none => simp [Cond.before, Cond.holds, Cond.value, hz] at hstat
  obtain ⟨methS, cM, hmS, hcodeM, -, hlocalsM, -, hlocksM, -, hsigM⟩ := Cond.code_spec hnS hcode
  have hstS : methS.isStatic = true := Cond.static_spec hnS hmS hstat
  obtain ⟨kP, hkP, hkname⟩ := className_of_methodNamed hnS
  obtain ⟨hmnM, hmdM⟩ := name_of_methodNamed hnS hmS
  have hinitS : kP.init = .initialized := Cond.initialized_spec (findClass_of_methodNamed hnS) hkP hinit
  have hsig2 : parseMethodDescriptor "(D)D" = some { parameters := [.double], returnType := some .double } := by decide +kernel
  have hsg : methS.sig = { parameters := [.double], returnType := some .double } := by
    have h3 : parseMethodDescriptor "(D)D" = some methS.sig := hsigM
    rw [hsig2] at h3
    exact (Option.some.inj h3).symm
  have hbootP : kP.loader = none := Vm.bootOf_findClass (findClass_of_methodNamed hnS) hkP
  obtain ⟨vm', X', step⟩ := X.invokestatic hexec hown hlink hnS hmS hstS hkP hinitS (by decide) hg (argsL := [.double b]) (rest := rest) (by rw [hsg]; rfl) hstack hdg
  refine ⟨vm', X', fun target hrest => step target fun acts => ?_⟩
  subst hg
  obtain ⟨kQ, hkQ, hkQn, hkQl, hkQm⟩ : ∃ kQ : Class, (T.setVm vm').vm.classes[mS.cls]? = some kQ ∧ kQ.name = "java/lang/Math" ∧ kQ.loader = none ∧ kQ.methods[mS.idx]? = some methS := by
    have hxP : kP.methods[mS.idx]? = some methS := by simpa [Vm.method?, hkP] using hmS
    obtain ⟨k', hk', he⟩ := X'.warmed.alike.2.2 _ _ hkP
    exact ⟨k', hk', by rw [he]; exact hkname, by rw [he]; exact hbootP, by rw [he]; exact hxP⟩
  exact ga_step p X'.here acts (g := { g with stack := rest }) hkQ hkQm hkQl hkQn hmnM hmdM hsigM hcodeM hlocalsM hlocksM (X'.notFull (g := { g with stack := rest }) hsize (vars := cM.maxLocals) hframes (by rw [hlocalsM]; exact hlocals)) hb hdg hrest
theorem ga_abs {cc : ByteArray} (hexec : p.tables.exec = Jvm.exec) (hb : c.code = cc) (hml : c.maxLocals = ls.size) {own : String} {index : Nat} (hown : s.vm.findClass own = some m.cls) (hlink : (Cond.methodLink own index ga_N).before args s = true) (hstat : (Cond.static ga_N).before args s = true) (hini : (Cond.initialized "java/lang/Math").before args s = true) (hcode : (Cond.code ga_N ga_C 2 (some .double)).before args s = true)
    {b : UInt64} (hn : ga_no b) (hframes : 1 ≤ R.frames) (hlocals : (rest.map fun v => v.category).sum + 13 ≤ R.locals) (hdg : decode cc pc = .ok (.invokestatic index, 3))
    (kk : W p l e R s m args below meth c H locs cells slots Q (F0 m (pc + 3) ls (.double (b &&& 0x7fffffffffffffff) :: rest))) : W p l e R s m args below meth c H locs cells slots Q (F0 m pc ls (.double b :: rest)) := by
  intro T hT X
  obtain ⟨vm', X', st⟩ := ga_abs0 X hexec hown hlink hstat hini hcode (g := F0 m pc ls (.double b :: rest)) rfl (by rw [hml]) hn rfl (by rw [hb]; exact hdg) hframes (by show 2 * 0 + _ + 13 ≤ _; omega)
  obtain ⟨t, a1, b1⟩ := kk (T.setVm vm') hT X'
  exact ⟨t, st t a1, b1⟩
end GAB
