/-! ===== Math.abs OF A DOUBLE: run by its entry in the table of natives ===== -/
def xdabs (v : UInt64) : UInt64 := v &&& 0x7fffffffffffffff
theorem nn_vf {v : UInt64} (h : isNaN64 v = false) : vf_n64 v := by
  unfold isNaN64 at h
  exact UInt64.not_lt.mp (of_decide_eq_false h)
theorem xdabs_vf {v : UInt64} (h : vf_n64 v) : xdabs v &&& 0x7fffffffffffffff ≤ 0x7ff0000000000000 := by
  unfold xdabs
  rw [UInt64.and_assoc, UInt64.and_self]
  exact h
set_option maxRecDepth 100000 in
set_option maxHeartbeats 4000000 in
theorem xAbs_row (p : Program) {v : UInt64} (h : vf_n64 v) : ∃ row : NativeRow, NativeRow.find? p.tables.natives "java/lang/Math" "abs" "(D)D" = some row ∧ ∀ (Q : Option Value → State → List Action → Prop) (e : Env) (s : State), (∀ acts, Q (some (.double (xdabs v))) s acts) → wpRun (row.sem #[.double v]) Q (fun _ _ _ => False) e s := by
  have h2 := xdabs_vf h
  unfold xdabs at h2 ⊢
  cases p <;> refine ⟨_, rfl, fun Q e s hQ => ?_⟩ <;> change wpRun (anyNaN64 (v &&& 0x7fffffffffffffff) >>= fun r => _) _ _ _ _ <;> simp [wpRun, anyNaN64, h2, hQ]
theorem xAbs_loader {vm : Vm} {n : String} {c : ClassId} {k : Class} (h : vm.findClass n = some c) (hk : vm.classes[c]? = some k) : k.loader = none := by
  unfold Vm.findClass at h
  obtain ⟨hc, hp, -⟩ := Array.findIdx?_eq_some_iff_getElem.mp h
  have hk2 : vm.classes[c] = k := (Array.getElem?_eq_some_iff.mp hk).2
  rw [hk2] at hp
  simp only [Bool.and_eq_true, Option.isNone_iff_eq_none] at hp
  exact hp.2
set_option maxRecDepth 100000 in
set_option maxHeartbeats 4000000 in
theorem x_mabsd0 {p : Program} {l : Launch} {e : Env} {R : Room} {s : State} {m : MethodId} {args : Array Value} {below : List Frame} {meth : Method} {c : Code} {locs : List Loc} {cells slots : Nat} {T : State} (X : Stand p l e R s m args below meth c T locs cells slots) (hexec : p.tables.exec = Jvm.exec) {own : String} {index : Nat} (hown : s.vm.findClass own = some m.cls) (hlink : (Cond.methodLink own index yJ9_abs_294c1).before args s = true) (hstat : (Cond.static yJ9_abs_294c1).before args s = true) (hinit : (Cond.initialized "java/lang/Math").before args s = true) {bytes : ByteArray} (hcode : (Cond.code yJ9_abs_294c1 bytes 2 (some .double)).before args s = true)
    {g : JFrame} (hg : g.method = m) (hsize : g.locals.size = c.maxLocals) {rest : List Value} {v : UInt64} (hv : vf_n64 v) (hstack : g.stack = .double v :: rest) (hdg : decode c.code g.pc = .ok (.invokestatic index, 3)) (hframes : 1 ≤ R.frames) (hlocals : 2 * g.monitorRoom + (rest.map fun v => v.category).sum + (2 + 11) ≤ R.locals) :
    ∃ vm', Stand p l e R s m args below meth c (T.setVm vm') locs cells slots ∧ ∀ target, Steps p.tables e below ((T.setVm vm').setTop { g with pc := g.pc + 3, stack := .double (xdabs v) :: rest }) target → Steps p.tables e below (T.setTop g) target := by
  have hnS0 : ∃ mS, s.methodNamed? yJ9_abs_294c1 = some mS := by
    cases hn : s.methodNamed? yJ9_abs_294c1 with
    | none =>
      have q := hcode
      simp [Cond.before, Cond.holds, Cond.value, hn] at q
    | some mS => exact ⟨mS, rfl⟩
  obtain ⟨mS, hnS⟩ := hnS0
  obtain ⟨methS, cS, hmS, hcS, hbS, hmlS, hrS, hlS, -, hsig⟩ := Cond.code_spec hnS hcode
  have hstS : methS.isStatic = true := Cond.static_spec hnS hmS hstat
  obtain ⟨kS, hkS, hnameS⟩ := className_of_methodNamed hnS
  have hinitS : kS.init = .initialized := Cond.initialized_spec (findClass_of_methodNamed hnS) hkS hinit
  obtain ⟨hmn, hmd⟩ := name_of_methodNamed hnS hmS
  have hld : kS.loader = none := xAbs_loader (findClass_of_methodNamed hnS) hkS
  have hps : methS.sig.parameters.length = 1 := by
    have h9 : parseMethodDescriptor "(D)D" = some methS.sig := hsig
    have h8 : (parseMethodDescriptor "(D)D").map (fun d => d.parameters.length) = some 1 := by decide +kernel
    rw [h9] at h8
    exact Option.some.inj h8
  obtain ⟨vm', X', step⟩ := X.invokestatic hexec hown hlink hnS hmS hstS hkS hinitS (by decide) hg (argsL := [.double v]) (rest := rest) (by rw [hps]; rfl) hstack hdg
  refine ⟨vm', X', fun target hrest => step target fun acts => ?_⟩
  subst hg
  have hm' : (T.setVm vm').vm.method? mS = some methS := by rw [X'.warmed.alike.method?]; exact hmS
  obtain ⟨kS', hkS', hke⟩ := X'.warmed.alike.2.2 _ _ hkS
  have hn' : kS'.name = "java/lang/Math" := by rw [hke]; exact hnameS
  have hl' : kS'.loader = none := by rw [hke]; exact hld
  have hx' : kS'.methods[mS.idx]? = some methS := by
    have h9 := hm'
    have hk2 : vm'.classes[mS.cls]? = some kS' := hkS'
    simpa [Vm.method?, hk2] using h9
  obtain ⟨row, hrow, hsem⟩ := xAbs_row p hv
  have hroom := X'.notFull (g := { g with stack := rest }) hsize (vars := 2) hframes hlocals
  have hroom2 : e.platform.stackFull (((((T.setVm vm').setTop { g with stack := rest }).threads[((T.setVm vm').setTop { g with stack := rest }).cur]?).getD { frames := [] })) ((T.setVm vm').setTop { g with stack := rest }).frames cS.maxLocals = false := by rw [hmlS]; exact hroom
  have hms' : ((T.setVm vm').setTop { g with stack := rest }).vm.method? mS = some methS := hm'
  have hd := (doInvoke_java (s := (T.setVm vm').setTop { g with stack := rest }) (e := e) (acts := acts) (args := #[.double v]) hms' hcS hlS hroom2).1
  have hdd : (doInvoke e ((T.setVm vm').setTop { g with stack := rest }) acts mS ([Value.double v] : List Value).toArray).1 = ((T.setVm vm').setTop { g with stack := rest }).pushFrame (.java (entryFrame mS #[.double v] cS.maxLocals)) := hd
  rw [hdd, hmlS]
  have h := X'.here
  obtain ⟨mid, hmid⟩ := h.above
  have hfe := frames_entered (g := { g with stack := rest }) h.top (.java (entryFrame mS #[.double v] 2))
  refine Steps.head ⟨h.running, by simpa using h.runnable, by simpa using h.alone⟩ ⟨.java (entryFrame mS #[.double v] 2) :: .java { g with stack := rest } :: mid, by rw [hfe, hmid]; rfl, by simp, by simp⟩ ?_
  generalize hS : ((T.setVm vm').setTop { g with stack := rest }).pushFrame (.java (entryFrame mS #[.double v] 2)) = S at hfe
  have hSvm : S.vm = (T.setVm vm').vm := by rw [← hS]; rfl
  have hov : overridden p.tables e S (entryFrame mS #[.double v] 2) = some row := by
    unfold overridden
    rw [hSvm]
    have h1 : (T.setVm vm').vm.classes[(entryFrame mS #[.double v] 2).method.cls]? = some kS' := hkS'
    have h2 : kS'.methods[(entryFrame mS #[.double v] 2).method.idx]? = some methS := hx'
    rw [h1]
    simp only [h2, hn', hl']
    rw [hmn, hmd]
    simp [entryFrame, overriddenIn]
    exact hrow
  have hac : argCount S (entryFrame mS #[.double v] 2).method = 1 := by
    unfold argCount
    rw [hSvm]
    have h1 : (T.setVm vm').vm.classes[(entryFrame mS #[.double v] 2).method.cls]? = some kS' := hkS'
    have h2 : kS'.methods[(entryFrame mS #[.double v] 2).method.idx]? = some methS := hx'
    rw [h1]
    simp [h2, hps, hstS]
  have hgiven : ((entryFrame mS #[.double v] 2).locals.toList.filterMap fun | .val v => some v | _ => none).toArray.extract 0 1 = #[.double v] := by
    have hc2 : (Value.double v).category = 2 := rfl
    simp [entryFrame, argsToLocals, hc2]
  have hst : stepThread p.tables e S = afterNative e { method := mS, args := #[.double v], locked := none } (.java { g with stack := rest } :: (T.setVm vm').frames.tail) ((row.sem #[.double v]).run e (S.setFrames (.native { method := mS, args := #[.double v], locked := none } :: .java { g with stack := rest } :: (T.setVm vm').frames.tail))) := by
    unfold stepThread
    rw [hfe]
    simp only [hov, hac, hgiven]
    rfl
  rw [hst]
  obtain ⟨g0, hg0⟩ := Option.isSome_iff_exists.mp h.top
  obtain ⟨r, hr⟩ := State.topJava?_eq_some.mp hg0
  have hU : S.setFrames (.native { method := mS, args := #[.double v], locked := none } :: .java { g with stack := rest } :: (T.setVm vm').frames.tail) = (T.setVm vm').setFrames (.native { method := mS, args := #[.double v], locked := none } :: .java { g with stack := rest } :: r) := by
    rw [← hS, State.pushFrame, State.setTop_of_frames _ hr, State.setFrames_setFrames, State.setFrames_setFrames, hr]
    rfl
  have hcur : (T.setVm vm').cur < (T.setVm vm').threads.size := State.cur_lt_of_frames hr
  have hw := (wpRun_iff_run _ _ _ _ _).mp (hsem (fun a s1 _ => ∀ acts', Steps p.tables e below (doReturn e s1 acts' a).1 target) e (S.setFrames (.native { method := mS, args := #[.double v], locked := none } :: .java { g with stack := rest } :: (T.setVm vm').frames.tail)) (fun _ acts' => by
    rw [hU]
    have hfr3 : ((T.setVm vm').setFrames (.native { method := mS, args := #[.double v], locked := none } :: .java { g with stack := rest } :: r)).frames = .native { method := mS, args := #[.double v], locked := none } :: .java { g with stack := rest } :: r := State.frames_setFrames _ hcur
    have hTc : ((T.setVm vm').setFrames (.native { method := mS, args := #[.double v], locked := none } :: .java { g with stack := rest } :: r)).code? g.method = some c := h.code
    have hfs : handOver ((T.setVm vm').setFrames (.native { method := mS, args := #[.double v], locked := none } :: .java { g with stack := rest } :: r)) (some (.double (xdabs v))) (.java { g with stack := rest } :: r) = some (.java { g with pc := g.pc + 3, stack := .double (xdabs v) :: rest } :: r) := by
      simp [handOver, hTc, hdg, Except.toOption]
    rw [doReturn_native (f := { method := mS, args := #[.double v], locked := none }) hfr3 rfl hfs, State.setFrames_setFrames, ← State.setTop_of_frames (s := T.setVm vm') _ hr]
    exact hrest))
  cases hrr : (row.sem #[.double v]).run e (S.setFrames (.native { method := mS, args := #[.double v], locked := none } :: .java { g with stack := rest } :: (T.setVm vm').frames.tail)) with
  | ok a s1 acts1 => rw [hrr] at hw; exact hw acts1
  | ctl x s1 acts1 => rw [hrr] at hw; cases x <;> exact hw.elim
theorem x_mabsd {p : Program} {l : Launch} {e : Env} {R : Room} {s : State} {m : MethodId} {args : Array Value} {below : List Frame} {meth : Method} {c : Code} {H : Heap} {locs : List Loc} {cells slots : Nat} {Q : State → Prop} {cc : ByteArray} {pc : Nat} {ls : Array Slot} {rest : List Value} (hexec : p.tables.exec = Jvm.exec) (hb : c.code = cc) (hml : c.maxLocals = ls.size) {own : String} {index : Nat} (hown : s.vm.findClass own = some m.cls) (hlink : (Cond.methodLink own index yJ9_abs_294c1).before args s = true) (hstat : (Cond.static yJ9_abs_294c1).before args s = true) (hinit : (Cond.initialized "java/lang/Math").before args s = true) {bytes : ByteArray} (hcode : (Cond.code yJ9_abs_294c1 bytes 2 (some .double)).before args s = true) {v : UInt64} (hv : vf_n64 v)
    (hframes : 1 ≤ R.frames) (hlocals : (rest.map fun v => v.category).sum + 13 ≤ R.locals) (hdg : decode cc pc = .ok (.invokestatic index, 3))
    (k : W p l e R s m args below meth c H locs cells slots Q (F0 m (pc + 3) ls (.double (xdabs v) :: rest))) : W p l e R s m args below meth c H locs cells slots Q (F0 m pc ls (.double v :: rest)) := by
  intro T hT X
  obtain ⟨vm', X', st⟩ := x_mabsd0 X hexec hown hlink hstat hinit hcode (g := F0 m pc ls (.double v :: rest)) rfl (by rw [hml]) hv rfl (by rw [hb]; exact hdg) hframes (by show 2 * 0 + _ + _ ≤ _; omega)
  obtain ⟨t, a1, b1⟩ := k (T.setVm vm') hT X'
  exact ⟨t, st t a1, b1⟩
