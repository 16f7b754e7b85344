/-! ===== A THROW OF NoSuchElementException (its constructor's link is 13, not 7); follows the library's ctorThrowS and the kit's vx_throwSW ===== -/
def x13 : String := "java/util/NoSuchElementException"
def x13c : ByteArray := ⟨#[0x2a, 0x2b, 0xb7, 0x00, 0x0d, 0xb1]⟩
def x13own (own : String) (ic : Nat) : List Cond := Bundle.throwableAtoms ++ Bundle.throwableSAtoms ++ (Bundle.passSAtoms x13 "java/lang/RuntimeException" 13 x13c ++ Bundle.chainSAtoms "java/lang/RuntimeException" ["java/lang/Exception"]) ++
  ([.methodLink own ic (Bundle.initS x13), .instantiable x13 6, .castable x13 x13, .selects x13 Bundle.tFill0 Bundle.tFill0, .selects x13 Bundle.tFill Bundle.tFill,
   .lays x13 Bundle.tN "cause" "Ljava/lang/Throwable;", .lays x13 Bundle.tN "stackTrace" Bundle.steD, .lays x13 Bundle.tN "suppressedExceptions" Bundle.listD, .lays x13 Bundle.tN "detailMessage" "Ljava/lang/String;",
   .isRef (.static Bundle.tN "UNASSIGNED_STACK" Bundle.steD), .isRef (.static Bundle.tN "SUPPRESSED_SENTINEL" Bundle.listD),
   .fieldLink Bundle.tN 198 Bundle.tN "backtrace" "Ljava/lang/Object;", .lays Bundle.tN Bundle.tN "backtrace" "Ljava/lang/Object;", .lays x13 Bundle.tN "backtrace" "Ljava/lang/Object;"] : List Cond)
theorem xat13_eq (own : String) (ic : Nat) : xat13 own ic = (x13own own ic).filter vx_no := rfl
section X13
theorem x13_chain {args : Array Value} {s : State} {pl : Platform} (hpl : pl.magicAccessors = ({} : Platform).magicAccessors) {top : MethodId} (htop : s.methodNamed? (Bundle.initS Bundle.tN) = some top)
    (h : ∀ c ∈ Bundle.passSAtoms x13 "java/lang/RuntimeException" 13 x13c ++ Bundle.chainSAtoms "java/lang/RuntimeException" ["java/lang/Exception"], c.before args s = true) :
    ∃ (P1 : PassC) (Ps : List PassC), Ps.length = 2 ∧ P1.LinksS pl s ∧ (∀ P, P ∈ Ps → P.LinksS pl s) ∧ s.methodNamed? (Bundle.initS x13) = some P1.m ∧ P1.sup = firstOf top (Ps.map (·.toPassT)) ∧ PassesOn top (Ps.map (·.toPassT)) := by
  obtain ⟨P, L, hm, hs⟩ := PassC.ofS_atoms (args := args) (s := s) hpl (X := x13) (Y := "java/lang/RuntimeException") (bytes := x13c) (index := 13) (by decide) (by decide) (by decide +kernel) (by decide +kernel) (by decide +kernel) (by decide +kernel) (fun c hc => h c (List.mem_append.mpr (Or.inl hc)))
  obtain ⟨P', Ps, hlen, L', hL, hm', hsup, hpass⟩ := Bundle.chainS (args := args) hpl htop ["java/lang/Exception"] "java/lang/RuntimeException" (by decide) (by decide) (fun c hc => h c (List.mem_append.mpr (Or.inr hc)))
  refine ⟨P, P' :: Ps, by rw [List.length_cons, hlen]; rfl, L, ?_, hm, Option.some.inj (hs.symm.trans hm'), hsup, hpass⟩
  intro Q hQ
  rcases List.mem_cons.mp hQ with rfl | hQ
  · exact L'
  · exact hL Q hQ
set_option maxHeartbeats 1000000 in
theorem x13_ctor {p : Program} {l : Launch} {e : Env} {R : Room} {s : State} {m₀ : MethodId} {args : Array Value} {below : List Frame} {meth : Method} {c : Code} {W : State} {locs : List Loc} {cells slots : Nat}
    (X : Stand p l e R s m₀ args below meth c W locs cells slots) (hexec : p.tables.exec = Jvm.exec) (htr : e.platform.stackTraces = false) {own : String} {ic : Nat}
    (hown : s.vm.findClass own = some m₀.cls) (h : ∀ a ∈ x13own own ic, a.before args s = true)
    (hlocs : ∀ x ∈ locs, ∀ cell, s.heap[x.base]? = some cell → cell.vm.isStatics = false)
    {a : Addr} {cX : ClassId} {kX : Class} (hfoundX : s.vm.findClass x13 = some cX) (hkX : s.vm.classes[cX]? = some kX) (hcell : W.heap[a]? = some (freshCell cX kX)) (hnew : s.heap.size ≤ a)
    {msg : Value} (hmsg : msg.isRef = true)
    {g : JFrame} (hg : g.method = m₀) (hsize : g.locals.size = c.maxLocals) (hlocked : g.locked = none) (hentered : g.entered = []) {rest : List Value} (hstack : g.stack = msg :: .ref a :: .ref a :: rest)
    (hd6 : decode c.code g.pc = .ok (.invokespecial ic, 3)) (hd9 : decode c.code (g.pc + 3) = .ok (.athrow, 1)) (hout : ∀ x ∈ c.exceptionTable.toList, covers x (g.pc + 3) = false)
    (hRframes : 5 < R.frames) (hRlocals : 2 * g.monitorRoom + ((Value.ref a :: rest).map fun v => v.category).sum + 81 ≤ R.locals) (hlocks : meth.locks = false) :
    ∃ U : State, Steps p.tables e below (W.setTop g) U ∧ U.status = .running ∧ Ended U below (.threw a) ∧ s.WarmedH U.vm ∧ s.sameButNew ({ U with vm := s.vm } : State) locs cells slots ∧
      ∃ ce, U.heap[a]? = some ce ∧ s.vm.findClass x13 = some ce.cls ∧ ce.vm = .none := by
  have howns : e.platform.frameOwnsMonitors = true := by rw [X.admits.platform]
  have hfin : e.platform.finalization = false := by rw [X.admits.platform]
  have hpl : e.platform.magicAccessors = ({} : Platform).magicAccessors := by rw [X.admits.platform]
  have a' : ∀ x, x ∈ x13own own ic → x.holds args s none s [] = true := fun x hx => h x hx
  obtain ⟨T, Z0, L, -, Y⟩ := ThrowableC.of_atoms (args := args) howns hfin hpl (fun x hx => h x (by simp [x13own, hx]))
  obtain ⟨Z, M, LZ, LM, hnZ⟩ := Init0T.ofS_atoms (args := args) hpl L Y (fun x hx => h x (by simp [x13own, hx]))
  obtain ⟨P1, Ps, hlen, L1, hL, hP1m, hlink1, hlink⟩ := x13_chain (args := args) hpl hnZ (fun x hx => h x (by simp only [x13own, List.mem_append]; exact Or.inl (Or.inr (List.mem_append.mp hx))))
  have hfound : s.vm.findClass x13 = some P1.m.cls := findClass_of_methodNamed hP1m
  cases Option.some.inj (hfoundX.symm.trans hfound)
  obtain ⟨c1, kX', hc1, hk, hord, -, -, hn6⟩ := Cond.instantiable_spec (a' (.instantiable x13 6) (by simp [x13own]))
  cases Option.some.inj (hc1.symm.trans hfound)
  cases Option.some.inj (hkX.symm.trans hk)
  have hsel0 : selectMethod e.platform s.vm P1.m.cls T.fill0 = .method T.fill0 := by
    obtain ⟨c2, r2, m2, q1, q2, q3, q4, -⟩ := Cond.selects_spec (a' (.selects x13 Bundle.tFill0 Bundle.tFill0) (by simp [x13own]))
    cases Option.some.inj (q1.symm.trans hfound)
    cases Option.some.inj (q2.symm.trans (State.methodFound?_of_named Y.fill0 (by decide)))
    cases Option.some.inj (q3.symm.trans Y.fill0)
    rw [Launch.admits_selectMethod X.admits]; exact q4
  have hselF : selectMethod e.platform s.vm P1.m.cls T.fill = .method T.fill := by
    obtain ⟨c2, r2, m2, q1, q2, q3, q4, -⟩ := Cond.selects_spec (a' (.selects x13 Bundle.tFill Bundle.tFill) (by simp [x13own]))
    cases Option.some.inj (q1.symm.trans hfound)
    cases Option.some.inj (q2.symm.trans (State.methodFound?_of_named Y.fill (by decide)))
    cases Option.some.inj (q3.symm.trans Y.fill)
    rw [Launch.admits_selectMethod X.admits]; exact q4
  obtain ⟨cellS0, hcS0, hiss⟩ := Y.statics
  obtain ⟨u0, hu0⟩ := Cond.staticRefV Y.unassigned L.unassignedStatic L.statics hcS0 hiss (a' (.isRef (.static Bundle.tN "UNASSIGNED_STACK" Bundle.steD)) (by simp [x13own]))
  obtain ⟨sen, hsen⟩ := Cond.staticRefV Y.sentinel L.sentinelStatic L.statics hcS0 hiss (a' (.isRef (.static Bundle.tN "SUPPRESSED_SENTINEL" Bundle.listD)) (by simp [x13own]))
  obtain ⟨ci198, i198, fB, hk198, hg198, ha198, hsB, -, hnB, htB, hffB⟩ := Cond.ownField (t := .object "java/lang/Object") Y.found L.cls (by decide +kernel) (a' (.fieldLink Bundle.tN 198 Bundle.tN "backtrace" "Ljava/lang/Object;") (by simp [x13own])) (a' (.lays Bundle.tN Bundle.tN "backtrace" "Ljava/lang/Object;") (by simp [x13own])) e.platform hpl
  obtain ⟨cellS, hcS', heS, -, hkeep⟩ := X.same.2.2.2.2.2 T.aS cellS0 hcS0
  have hcellS : W.heap[T.aS]? = some cellS := hcS'
  have hout' : ∀ i, (⟨T.aS, i⟩ : Loc) ∉ locs := fun i hmem => by
    have := hlocs _ hmem cellS0 hcS0
    rw [hiss] at this; cases this
  have hknownS : cellS.vm ≠ .unknown := by
    rw [heS]; intro hu
    rw [show cellS0.vm = .unknown from hu] at hiss
    cases hiss
  have hneS : T.aS ≠ a := Nat.ne_of_lt (Nat.lt_of_lt_of_le (Array.getElem?_eq_some_iff.mp hcS0).1 hnew)
  obtain ⟨iM, hffM⟩ := Y.msg
  obtain ⟨tyC, dC, hdC, hdnC⟩ := Cond.laysAt hfound hk Y.cause (a' (.lays x13 Bundle.tN "cause" "Ljava/lang/Throwable;") (by simp [x13own]))
  obtain ⟨tyS, dS, hdS, hdnS⟩ := Cond.laysAt hfound hk Y.stack (a' (.lays x13 Bundle.tN "stackTrace" Bundle.steD) (by simp [x13own]))
  obtain ⟨tyP, dP, hdP, hdnP⟩ := Cond.laysAt hfound hk Y.supp (a' (.lays x13 Bundle.tN "suppressedExceptions" Bundle.listD) (by simp [x13own]))
  obtain ⟨tyM, dM, hdM, hdnM⟩ := Cond.laysAt hfound hk hffM (a' (.lays x13 Bundle.tN "detailMessage" "Ljava/lang/String;") (by simp [x13own]))
  obtain ⟨tyB, dB, hdB, hdnB⟩ := Cond.laysAt hfound hk hffB (a' (.lays x13 Bundle.tN "backtrace" "Ljava/lang/Object;") (by simp [x13own]))
  have bC := Cond.laysApart hdB hdC hdnB hdnC (by rw [hnB, Y.causeName]; decide)
  have bS := Cond.laysApart hdB hdS hdnB hdnS (by rw [hnB, Y.stackName]; decide)
  have bP := Cond.laysApart hdB hdP hdnB hdnP (by rw [hnB, Y.suppName]; decide)
  have hskip : SkipFacts T e.platform s (fun u => u) u0 ((preparedCellV T.toThrowableT (freshCell P1.m.cls kX) a u0 sen).withEntry W.cur) :=
    ⟨{ ci198 := ci198, i198 := i198, fBack := fB }, ⟨hk198, hg198, ha198, hsB⟩, by
      have := fresh_default (c := P1.m.cls) tyB
      rw [htB] at this
      simpa [preparedCellV, Cell.setSlot, Cell.withEntry, Array.getElem?_setIfInBounds, bC, bS, bP, bC.symm, bS.symm, bP.symm, defaultValue] using this, fun _ _ => rfl⟩
  obtain ⟨tm, methC, cdC, kC, vm₁, hnC, -, -, -, -, -, -, -, hW₁, st1⟩ := Steps.initColdS (tb := p.tables) (e := e) (below := below) (s := s) (U := W) X.here hexec X.warmed hpl hown (t := Bundle.initS x13) rfl rfl (by decide)
    (a' (.methodLink own ic (Bundle.initS x13)) (by simp [x13own])) (h (.instanceMethod (Bundle.initS x13)) (by simp [x13own, Bundle.passSAtoms])) (bytes := x13c) (maxL := 2) (h (.code (Bundle.initS x13) x13c 2 none) (by simp [x13own, Bundle.passSAtoms]))
    (f := g) hg (a := a) (msg := msg) (rest := .ref a :: rest) hstack hd6
  cases Option.some.inj (hnC.symm.trans hP1m)
  have X₁ := X.noted hW₁
  obtain ⟨vm₂, X₂, st2⟩ := X₁.ctorMessageOffV hexec (g := { g with stack := .ref a :: rest }) hg hsize T L Z LZ M LM (P1 :: Ps)
    (fun P hP => by rcases List.mem_cons.mp hP with rfl | hP; exact L1; exact hL P hP) ⟨hlink1, hlink⟩ (u0 := u0) (sen := sen) (self := a) hmsg (cell := freshCell P1.m.cls kX) (cellS := cellS)
    hcell (fun _ => by simp) (by simp) rfl rfl hsel0 hselF hcellS hneS hknownS (by rw [hkeep _ (hout' _)]; exact hu0) (by rw [hkeep _ (hout' _)]; exact hsen)
    (Takes.of_laid hk hord tyC (by rw [Y.causeType]; rfl)) (Takes.of_laid hk hord tyS (by rw [Y.stackType]; exact fits_refV_array _ u0)) (Takes.of_laid hk hord tyP (by rw [Y.suppType]; exact fits_refV_object _ sen))
    (Takes.of_laid hk hord tyM (by rw [Y.msgType]; exact fits_refV_object _ ⟨msg, hmsg⟩)) Y.objLocals hskip htr [] hd6
    (by simp only [List.length_cons, hlen]; omega) (by simp only [List.length_cons, hlen]; exact hRlocals)
  obtain ⟨hwalk, hrun, hended, hWU, hsame⟩ := X₂.athrowLeaves hexec (g := { g with stack := .ref a :: rest, pc := g.pc + 3 }) hg hlocked hentered hout (a := a) (rest := rest) rfl hd9
  have hlt : a < ((W.setVm vm₁).setVm vm₂).heap.size := (Array.getElem?_eq_some_iff.mp hcell).1
  have hU := heapAt_setCell_self (s := (W.setVm vm₁).setVm vm₂) (plainBareV T.toThrowableT (freshCell P1.m.cls kX) a u0 sen msg) hlt
  refine ⟨_, st1 _ (fun acts => ?_), hrun, hended, hWU, hsame.weaken (fun y hy hlt' => ?_) (Nat.le_refl _) (Nat.le_refl _), _, hU, hfound, rfl⟩
  · rw [doInvoke_state]
    exact st2 _ hwalk
  · rcases List.mem_append.mp hy with h1 | h1
    · exact h1
    · exfalso
      have hb : y.base = a := by
        simp only [List.mem_cons, List.not_mem_nil, or_false] at h1
        rcases h1 with rfl | rfl | rfl | rfl | rfl <;> rfl
      rw [hb] at hlt'
      exact Nat.not_lt.mpr hnew hlt'
end X13
section X13E
variable {p : Program} {l : Launch} {e : Env} {R : Room} {s : State} {m : MethodId} {args : Array Value} {below : List Frame} {meth : Method} {c : Code} {H : Heap} {locs : List Loc} {cells slots : Nat}
variable {rest : List Value} {ls : Array Slot} {free : Addr → Prop} {Qc : Array Value → State → Outcome → State → Prop} {XC : String → State → State → Prop}
theorem x13_throw {cc : ByteArray} {pc : Nat} (hexec : p.tables.exec = Jvm.exec) (hb : c.code = cc) (hl : l.stackTraces = false) {own text : String} {ik is ic mc ms sa : Nat} {A : Nat → Prop}
    (hown : s.vm.findClass own = some m.cls)
    (hk : (Cond.classLink own ik x13).before args s = true) (hini : (Cond.initialized x13).before args s = true) (hstr : vk_R own is text sa s) (hat : ∀ w ∈ xat13 own ic, w.before args s = true)
    (hgood : ∀ w ∈ Cond.classLink own ik x13 :: Cond.initialized x13 :: xat13 own ic, vx_ot w = true)
    (hU : vx_Zq Bundle.tN "UNASSIGNED_STACK" Bundle.steD A s s.heap) (hN : vx_Zq Bundle.tN "SUPPRESSED_SENTINEL" Bundle.listD A s s.heap) (hS : va_S A s.heap H locs) (hsize : ls.size = c.maxLocals)
    (d0 : decode cc pc = .ok (.new ik, 3)) (d3 : decode cc (pc + 3) = .ok (.dup, 1)) (d4 : decode cc (pc + 4) = .ok (.ldc_w is, 3)) (d7 : decode cc (pc + 7) = .ok (.invokespecial ic, 3)) (d10 : decode cc (pc + 10) = .ok (.athrow, 1))
    (hout : ∀ x ∈ c.exceptionTable.toList, covers x (pc + 10) = false)
    (hRframes : 5 < R.frames) (hRlocals : (rest.map fun v => v.category).sum + 82 ≤ R.locals) (hRcells : cells + 1 ≤ R.cells) (hRslots : slots + 6 ≤ R.slots) (hlocks : meth.locks = false)
    (hx : ∀ t : State, s.vm.Alike t.vm → H.size ≤ t.heap.size → (∀ q : Nat, q < H.size → t.heap[q]? = H[q]?) → XC x13 s t)
    (hf : ∀ z ∈ locs, free z.base) (hc : cells + 1 ≤ mc) (hs : slots + 6 ≤ ms) :
    W p l e R s m args below meth c H locs cells slots (vx_MQ below Qc XC args s mc ms free) (F0 m pc ls rest) := by
  intro T hT X
  have htr : e.platform.stackTraces = false := (show e.platform.stackTraces = l.stackTraces by rw [X.admits.platform]).trans hl
  have Y := vx_rebase X (R' := { frames := R.frames, locals := R.locals, cells := 1, slots := 6 }) (Nat.le_refl _) (Nat.le_refl _) hRcells hRslots
  obtain ⟨s', hA⟩ : ∃ z, z = (T.setVm s.vm).setFrames (.invoking m args :: below) := ⟨_, rfl⟩
  rw [← hA] at Y
  have hvm : s'.vm = s.vm := by rw [hA]; rfl
  have hhp : s'.heap = H := by rw [hA]; exact hT
  have hW0 : s.WarmedH s'.vm := by rw [hvm]; exact State.WarmedH.refl s
  have hat' : ∀ w ∈ xat13 own ic, w.before args s' = true := fun w hw => vx_ot_at hW0 hvm.symm (hgood w (List.mem_cons_of_mem _ (List.mem_cons_of_mem _ hw))) (hat w hw)
  have hk' : (Cond.classLink own ik x13).before args s' = true := vx_ot_at hW0 hvm.symm (hgood _ List.mem_cons_self) hk
  have hini' : (Cond.initialized x13).before args s' = true := vx_ot_at hW0 hvm.symm (hgood _ (List.mem_cons_of_mem _ List.mem_cons_self)) hini
  have hU' : vx_Zq Bundle.tN "UNASSIGNED_STACK" Bundle.steD A s' s'.heap := by rw [hhp]; exact vx_Zq.moved hW0.alike (hU.kept hS.2.1)
  have hN' : vx_Zq Bundle.tN "SUPPRESSED_SENTINEL" Bundle.listD A s' s'.heap := by rw [hhp]; exact vx_Zq.moved hW0.alike (hN.kept hS.2.1)
  have h : ∀ w ∈ x13own own ic, w.before args s' = true := vx_own (by rw [← xat13_eq]; exact hat') (vx_isRefq hU'.1) (vx_isRefq hN'.1) hU'.2.word hN'.2.word
  have hown' : s'.vm.findClass own = some m.cls := by rw [hvm]; exact hown
  have hins : (Cond.instantiable x13 6).before args s' = true := h _ (by simp [x13own])
  obtain ⟨vm₁, cX, kX, hfX, hkX, -, -, X₁, st1⟩ := Y.newCold hexec (own := own) (C := x13) (index := ik) (n := 6) hown' hk' hins hini'
    (g := F0 m pc ls rest) rfl (by rw [hb]; exact d0) (Nat.le_refl _) (Nat.le_refl _)
  generalize hT1 : (T.setVm vm₁).pushCell { cls := cX, slots := kX.instanceTypes.map defaultValue, vm := .none } = T1 at X₁ st1
  have hcat : (Value.ref T.heap.size).category = 1 := rfl
  have hcellA : T1.heap[T.heap.size]? = some (freshCell cX kX) := by rw [← hT1]; exact State.heap_pushCell_size _ _
  have d3' : decode c.code (pc + 3) = .ok (.dup, 1) := by rw [hb]; exact d3
  have d4' : decode c.code (pc + 4) = .ok (.ldc_w is, 3) := by rw [hb]; exact d4
  have hstr' : vk_R own is text sa s' := vk_R.warm hW0 hstr
  obtain ⟨U, hsteps, hrun, hend, hW, hsame, ce, hce, hOc, hOv⟩ := x13_ctor X₁ hexec htr (own := own) (ic := ic) hown' h (fun x hx => nomatch hx) hfX hkX hcellA (by rw [hhp, hT]; exact Nat.le_refl _) (msg := .ref sa) rfl
    (g := { method := m, pc := pc + 7, locals := ls, stack := .ref sa :: .ref T.heap.size :: .ref T.heap.size :: rest, locked := none }) rfl hsize rfl rfl (rest := rest) rfl
    (by rw [hb]; exact d7) (by rw [hb]; exact d10) hout hRframes (by simp only [List.map_cons, List.sum_cons, hcat]; show 2 * 0 + _ + 81 ≤ R.locals; omega) hlocks
  obtain ⟨f1, f2⟩ := vx_frame hsame
  rw [hhp] at f1 f2
  have hWs : s.WarmedH U.vm := State.WarmedH.trans hW0 hW
  have hcl : s.vm.findClass x13 = some ce.cls := by
    have h9 := hOc
    rw [hvm] at h9
    exact h9
  have hall : s.sameButNew ({ U with vm := s.vm } : State) locs mc ms := by
    subst hA
    obtain ⟨e1, e2⟩ := hsame
    rw [State.setFrames_setFrames] at e1
    have h2 : (T.setVm s.vm).sameButNew ({ U with vm := s.vm } : State) [] (0 + 1) (0 + 6) := ⟨e1, e2⟩
    have h3 := X.same.trans h2
    rw [List.append_nil] at h3
    exact h3.mono hc hs
  refine ⟨U, ?_, .threw T.heap.size, hrun, hend, Or.inr ⟨T.heap.size, rfl, x13, ce, locs, hx U hWs.alike f1 (fun q hq => f2 q hq (fun z hz => nomatch hz)), hce, hOv, hcl, hWs, hall, hf⟩⟩
  refine st1 _ ?_
  show Steps p.tables e below (T1.setTop { method := m, pc := pc + 3, locals := ls, stack := .ref T.heap.size :: rest, locked := none }) _
  jvm_step X₁.here [X₁.here.top, hexec, d3', Value.category]
  exact X₁.ldcStringW hexec (own := own) (text := text) (index := is) (a := sa) hown' hstr'.1 hstr'.2
    (g := { method := m, pc := pc + 4, locals := ls, stack := .ref T.heap.size :: .ref T.heap.size :: rest, locked := none }) rfl d4' _ hsteps
end X13E
/-! ===== METHODS THAT MAY THROW ===== -/
def xcls (k : Nat) : String := match k with | 0 => "java/lang/IndexOutOfBoundsException" | 1 => "java/lang/IllegalArgumentException" | 2 => "java/lang/IllegalStateException" | _ => x13
abbrev xO : Type := Int32 ⊕ Nat
def xct (f : Option (xO × xSt)) (K : Int32 → xSt → Option (xO × xSt)) : Option (xO × xSt) := match f with | none => none | some (.inl r, σ) => K r σ | some (.inr k, σ) => some (.inr k, σ)
theorem x_sw5 {x : Int32} (h0 : ¬ x = 0) (h1 : ¬ x = 1) (h2 : ¬ x = 2) (h3 : ¬ x = 3) (h4 : ¬ x = 4) (h5 : ¬ x = 5) : x.toInt < 0 ∨ 5 < x.toInt := by
  have e : ∀ k : Int32, ¬ x = k → x.toInt ≠ k.toInt := fun k h h' => h (Int32.toInt_inj.mp h')
  have e0 : x.toInt ≠ 0 := e 0 h0
  have e1 : x.toInt ≠ 1 := e 1 h1
  have e2 : x.toInt ≠ 2 := e 2 h2
  have e3 : x.toInt ≠ 3 := e 3 h3
  have e4 : x.toInt ≠ 4 := e 4 h4
  have e5 : x.toInt ≠ 5 := e 5 h5
  omega
theorem x_sw6 {x : Int32} (h0 : ¬ x = 0) (h1 : ¬ x = 1) (h2 : ¬ x = 2) (h3 : ¬ x = 3) (h4 : ¬ x = 4) (h5 : ¬ x = 5) (h6 : ¬ x = 6) : x.toInt < 0 ∨ 6 < x.toInt := by
  have e6 : x.toInt ≠ 6 := fun h => h6 (Int32.toInt_inj.mp h)
  have := x_sw5 h0 h1 h2 h3 h4 h5
  omega
theorem xct_e {f : Option (xO × xSt)} {K : Int32 → xSt → Option (xO × xSt)} {o : xO × xSt} (h : xct f K = some o) : (∃ k σ, f = some (.inr k, σ) ∧ some ((.inr k : xO), σ) = some o) ∨ (∃ r σ, f = some (.inl r, σ) ∧ K r σ = some o) := by
  unfold xct at h
  split at h
  · cases h
  · exact Or.inr ⟨_, _, rfl, h⟩
  · exact Or.inl ⟨_, _, rfl, h⟩
abbrev xQt (E : xE) (A : Nat → Prop) (o1 : xO) (σ1 : xSt) : Array Value → State → Outcome → State → Prop := va_Qi (S := xSt) (fun r u => o1 = .inl r ∧ u = σ1) (fun u t => xat E A u t) A
abbrev xQtv (E : xE) (A : Nat → Prop) (o1 : xO) (σ1 : xSt) : Array Value → State → Outcome → State → Prop := va_Qv (S := xSt) (fun u => o1 = .inl 0 ∧ u = σ1) (fun u t => xat E A u t) A
abbrev xXt (E : xE) (A : Nat → Prop) (o1 : xO) (σ1 : xSt) : String → State → State → Prop := vx_X (S := xSt × Nat) (fun u => o1 = .inr u.2 ∧ u.1 = σ1) (fun E9 u t => E9 = xcls u.2 ∧ xat E A u.1 t) A
def xMt (l : Launch) (y : MethodName) (ws : List Cond) (rm : Room) (E : xE) (av : List Value) (σ : xSt) (o1 : xO) (σ1 : xSt) (mc : Nat) : Prop := ∀ sz : Nat, vx_Met l y ws rm (xPre E av σ sz) (xQt E (va_A (E.W σ) sz) o1 σ1) (xXt E (va_A (E.W σ) sz) o1 σ1) mc (6 * mc) (va_A (E.W σ) sz)
def xMtv (l : Launch) (y : MethodName) (ws : List Cond) (rm : Room) (E : xE) (av : List Value) (σ : xSt) (o1 : xO) (σ1 : xSt) (mc : Nat) : Prop := ∀ sz : Nat, vx_Met l y ws rm (xPre E av σ sz) (xQtv E (va_A (E.W σ) sz) o1 σ1) (xXt E (va_A (E.W σ) sz) o1 σ1) mc (6 * mc) (va_A (E.W σ) sz)
theorem xP_kept {D : va_G} {cl : List vw_C} {w : va_W} {H H1 : Heap} (h : va_P D cl w H) (hq : ∀ q : Nat, q < H.size → H1[q]? = H[q]?) : va_P D cl w H1 := fun k q hk => (h k q hk).kept (hq _ (h k q hk).lt)
section XT
variable {p : Program} {l : Launch} {e : Env} {R : Room} {s : State} {m : MethodId} {args : Array Value} {below : List Frame} {meth : Method} {c : Code} {H : Heap} {locs : List Loc} {cells slots : Nat} {Q : State → Prop}
variable {cc : ByteArray} {pc : Nat} {ls : Array Slot} {rest : List Value} {E : xE} {A : Nat → Prop} {H0 : Heap} {σ : xSt}
theorem x_tcalli {av : Array Value} {o1 : xO} {σ1 : xSt} {st0 : List Value} {mc ms : Nat} (hr : vx_Run p l e R s m args below meth c H locs cells slots mc ms (F0 m pc ls st0) rest (xQt E (va_A (E.W σ) H.size) o1 σ1 av) (xXt E (va_A (E.W σ) H.size) o1 σ1) (va_A (E.W σ) H.size)) (hw : xw E A H0 s σ H locs) (hA : ∀ q, H0.size ≤ q → A q)
    (kx : ∀ (q9 : Addr) (ce : Cell) (H1 : Heap) (locs1 : List Loc), H1[q9]? = some ce → ce.vm = .none → (∃ k, o1 = .inr k ∧ s.vm.findClass (xcls k) = some ce.cls) → xw E A H0 s σ1 H1 locs1 → vx_W p l e R s m args below meth c H1 locs1 (cells + mc) (slots + ms) Q (F0 m pc ls rest) q9)
    (kk : ∀ (r : Int32) (H1 : Heap) (locs1 : List Loc), o1 = .inl r → xw E A H0 s σ1 H1 locs1 → W p l e R s m args below meth c H1 locs1 (cells + mc) (slots + ms) Q (F0 m (pc + 3) ls (.int r :: rest))) : W p l e R s m args below meth c H locs cells slots Q (F0 m pc ls st0) := by
  refine vx_calli hr hw.2.2.2 (fun q _ h => hw.free hA q h) (hw.free hA) (fun q _ h => hw.free hA q h) (fun E9 ce q9 u t H1 locs1 ht hvm hpx hBX hz1 hk1 hS1 hce hcv hcl => ?_) (fun r u t H1 locs1 ht hvm hpost hB hz1 hk1 hS1 => ?_)
  · obtain ⟨h1, h2⟩ := hpx
    obtain ⟨rfl, hP1, hK1, hD1⟩ := hBX
    rw [ht] at hP1
    rw [h2] at hP1
    exact kx q9 ce H1 locs1 hce hcv ⟨u.2, h1, hcl⟩ ⟨hw.1, hP1, xD_of (E.fst σ σ1) hw.2.2.1, hS1⟩
  · obtain ⟨h1, rfl⟩ := hpost
    obtain ⟨hP1, hK1, hD1⟩ := hB
    rw [ht] at hP1
    exact kk r H1 locs1 h1 ⟨hw.1, hP1, xD_of (E.fst σ u) hw.2.2.1, hS1⟩
theorem x_tcallv {av : Array Value} {o1 : xO} {σ1 : xSt} {st0 : List Value} {mc ms : Nat} (hr : vx_Run p l e R s m args below meth c H locs cells slots mc ms (F0 m pc ls st0) rest (xQtv E (va_A (E.W σ) H.size) o1 σ1 av) (xXt E (va_A (E.W σ) H.size) o1 σ1) (va_A (E.W σ) H.size)) (hw : xw E A H0 s σ H locs) (hA : ∀ q, H0.size ≤ q → A q)
    (kx : ∀ (q9 : Addr) (ce : Cell) (H1 : Heap) (locs1 : List Loc), H1[q9]? = some ce → ce.vm = .none → (∃ k, o1 = .inr k ∧ s.vm.findClass (xcls k) = some ce.cls) → xw E A H0 s σ1 H1 locs1 → vx_W p l e R s m args below meth c H1 locs1 (cells + mc) (slots + ms) Q (F0 m pc ls rest) q9)
    (kk : ∀ (H1 : Heap) (locs1 : List Loc), o1 = .inl 0 → xw E A H0 s σ1 H1 locs1 → W p l e R s m args below meth c H1 locs1 (cells + mc) (slots + ms) Q (F0 m (pc + 3) ls rest)) : W p l e R s m args below meth c H locs cells slots Q (F0 m pc ls st0) := by
  refine vx_callv hr hw.2.2.2 (fun q _ h => hw.free hA q h) (hw.free hA) (fun q _ h => hw.free hA q h) (fun E9 ce q9 u t H1 locs1 ht hvm hpx hBX hz1 hk1 hS1 hce hcv hcl => ?_) (fun u t H1 locs1 ht hvm hpost hB hz1 hk1 hS1 => ?_)
  · obtain ⟨h1, h2⟩ := hpx
    obtain ⟨rfl, hP1, hK1, hD1⟩ := hBX
    rw [ht] at hP1
    rw [h2] at hP1
    exact kx q9 ce H1 locs1 hce hcv ⟨u.2, h1, hcl⟩ ⟨hw.1, hP1, xD_of (E.fst σ σ1) hw.2.2.1, hS1⟩
  · obtain ⟨h1, rfl⟩ := hpost
    obtain ⟨hP1, hK1, hD1⟩ := hB
    rw [ht] at hP1
    exact kk H1 locs1 h1 ⟨hw.1, hP1, xD_of (E.fst σ u) hw.2.2.1, hS1⟩
theorem x_tout {o1 : xO} {σ1 : xSt} {mc ms k : Nat} {q9 : Addr} {ce : Cell} {Qc : Array Value → State → Outcome → State → Prop} (hlocks : meth.locks = false) (hex : ∀ x ∈ c.exceptionTable.toList, False) (h1 : H[q9]? = some ce) (h2 : ce.vm = .none) (h3 : ∃ k', (.inr k : xO) = .inr k' ∧ s.vm.findClass (xcls k') = some ce.cls) (hw : xw E A s.heap s σ H locs) (hf : some ((.inr k : xO), σ) = some (o1, σ1)) (hc : cells ≤ mc) (hs : slots ≤ ms) :
    vx_W p l e R s m args below meth c H locs cells slots (vx_MQ below Qc (xXt E A o1 σ1) args s mc ms A) (F0 m pc ls rest) q9 := by
  obtain ⟨k', hk, h3⟩ := h3
  obtain ⟨rfl, rfl⟩ := Prod.mk.inj (Option.some.inj hf)
  refine vx_out (E := xcls k') (fun x hx => (hex x hx).elim) hlocks h1 h2 h3 (fun t ht hW => ⟨(σ, k'), ⟨hk, rfl⟩, ⟨rfl, by rw [ht]; exact hw.2.1, va_K.moved hW hw.1, hw.2.2.1⟩, hw.2.2.2.F ht⟩) hw.2.2.2.2.2 hc hs
theorem x_tiret {v : Int32} {o1 : xO} {σ1 : xSt} {mc ms : Nat} {XC : String → State → State → Prop} (hexec : p.tables.exec = Jvm.exec) (hb : c.code = cc) (hr : meth.sig.returnType = some .int) (hlocks : meth.locks = false) (hw : xw E A s.heap s σ H locs) (hf : some ((.inl v : xO), σ) = some (o1, σ1)) (hc : cells ≤ mc) (hs : slots ≤ ms) (hdg : decode cc pc = .ok (.ireturn, 1)) : W p l e R s m args below meth c H locs cells slots (vx_MQ below (xQt E A o1 σ1) XC args s mc ms A) (F0 m pc ls [.int v]) := by
  obtain ⟨rfl, rfl⟩ := Prod.mk.inj (Option.some.inj hf)
  exact vx_ret (W.widen hc hs (W.iret hexec hb hr (fun t ht hW => ⟨⟨v, σ, rfl, ⟨rfl, rfl⟩, by rw [ht]; exact hw.2.1, va_K.moved hW.alike hw.1, hw.2.2.1⟩, hw.2.2.2.F ht⟩) hw.2.2.2.2.2 hdg hlocks))
theorem x_tvret {o1 : xO} {σ1 : xSt} {mc ms : Nat} {XC : String → State → State → Prop} (hexec : p.tables.exec = Jvm.exec) (hb : c.code = cc) (hr : meth.sig.returnType = none) (hlocks : meth.locks = false) (hw : xw E A s.heap s σ H locs) (hf : some ((.inl 0 : xO), σ) = some (o1, σ1)) (hc : cells ≤ mc) (hs : slots ≤ ms) (hdg : decode cc pc = .ok (.return_, 1)) : W p l e R s m args below meth c H locs cells slots (vx_MQ below (xQtv E A o1 σ1) XC args s mc ms A) (F0 m pc ls []) := by
  obtain ⟨rfl, rfl⟩ := Prod.mk.inj (Option.some.inj hf)
  exact vx_ret (W.widen hc hs (W.vret hexec hb hr (fun t ht hW => ⟨⟨σ, rfl, ⟨rfl, rfl⟩, by rw [ht]; exact hw.2.1, va_K.moved hW.alike hw.1, hw.2.2.1⟩, hw.2.2.2.F ht⟩) hw.2.2.2.2.2 hdg hlocks))
end XT
theorem xMt_of {l : Launch} {y : MethodName} {ws ws' : List Cond} {rm : Room} {E : xE} {av : List Value} {σ : xSt} {o1 : xO} {σ1 : xSt} {cc : ByteArray} {maxL mc : Nat} {ret : Option FieldType}
    (hy : plainName y.cls = true) (hws : ws = Cond.code y cc maxL ret :: ws') (hn : (lg_sl av).length ≤ maxL)
    (body : ∀ (p : Program) (e : Env) (s : State) (m : MethodId) (args : Array Value) (below : List Frame) (meth : Method) (c : Code) (A : Nat → Prop) (ls : Array Slot), xEn p s m args meth c cc maxL ret ws y → (∀ q, s.heap.size ≤ q → A q) → xG E.g A s s.heap → xw E A s.heap s σ s.heap [] → lv_has ls maxL (lv_args 0 av) → (∀ x ∈ c.exceptionTable.toList, False) →
      W p l e rm s m args below meth c s.heap [] 0 0 (vx_MQ below (xQt E A o1 σ1) (xXt E A o1 σ1) args s mc (6 * mc) A) (F0 m 0 ls [])) : xMt l y ws rm E av σ o1 σ1 mc := by
  intro sz
  refine vx_ofW (cc := cc) (maxL := maxL) (ret := ret) hy hws ?_
  intro p e s m args below meth c s₁ B hml hex hv
  obtain ⟨rfl, hsz, hP, hK, hD0, hG⟩ := hv
  subst hsz
  rw [lg_entry_eq]
  exact body p e s m _ below meth c _ _ ⟨B.exec, B.bytes, B.returns, hml, findClass_of_methodNamed B.named, atoms_spec (ws := ws) B.pre, B.notSynchronized⟩ (fun q h => Or.inr h) hG ⟨hK, hP, hD0.self, va_S.rf⟩ (lv_entry av hn) hex
theorem xMtv_of {l : Launch} {y : MethodName} {ws ws' : List Cond} {rm : Room} {E : xE} {av : List Value} {σ : xSt} {o1 : xO} {σ1 : xSt} {cc : ByteArray} {maxL mc : Nat} {ret : Option FieldType}
    (hy : plainName y.cls = true) (hws : ws = Cond.code y cc maxL ret :: ws') (hn : (lg_sl av).length ≤ maxL)
    (body : ∀ (p : Program) (e : Env) (s : State) (m : MethodId) (args : Array Value) (below : List Frame) (meth : Method) (c : Code) (A : Nat → Prop) (ls : Array Slot), xEn p s m args meth c cc maxL ret ws y → (∀ q, s.heap.size ≤ q → A q) → xG E.g A s s.heap → xw E A s.heap s σ s.heap [] → lv_has ls maxL (lv_args 0 av) → (∀ x ∈ c.exceptionTable.toList, False) →
      W p l e rm s m args below meth c s.heap [] 0 0 (vx_MQ below (xQtv E A o1 σ1) (xXt E A o1 σ1) args s mc (6 * mc) A) (F0 m 0 ls [])) : xMtv l y ws rm E av σ o1 σ1 mc := by
  intro sz
  refine vx_ofW (cc := cc) (maxL := maxL) (ret := ret) hy hws ?_
  intro p e s m args below meth c s₁ B hml hex hv
  obtain ⟨rfl, hsz, hP, hK, hD0, hG⟩ := hv
  subst hsz
  rw [lg_entry_eq]
  exact body p e s m _ below meth c _ _ ⟨B.exec, B.bytes, B.returns, hml, findClass_of_methodNamed B.named, atoms_spec (ws := ws) B.pre, B.notSynchronized⟩ (fun q h => Or.inr h) hG ⟨hK, hP, hD0.self, va_S.rf⟩ (lv_entry av hn) hex
def fX11_needIndex (p0 : Int32) (σ : xSt) : Option (xO × xSt) := if p0 = 0 then some (.inr 0, σ) else some (.inl 0, σ)
abbrev rmX11_needIndex : Room := { frames := 6, cells := 1, slots := 6, locals := 90 }
theorem hgX11_needIndex : ∀ w ∈ Cond.classLink RX11 404 "java/lang/IndexOutOfBoundsException" :: Cond.initialized "java/lang/IndexOutOfBoundsException" :: vx_atS RX11 408 "java/lang/IndexOutOfBoundsException" ["java/lang/RuntimeException", "java/lang/Exception"], vx_ot w = true := by decide +kernel
theorem hnX11_needIndex : ∀ w ∈ (vx_atS RX11 408 "java/lang/IndexOutOfBoundsException" ["java/lang/RuntimeException", "java/lang/Exception"]).filter (fun w => !goodWord w), w ∈ ([.castable "java/lang/IndexOutOfBoundsException" "java/lang/IndexOutOfBoundsException", .declares (Bundle.initS "java/lang/RuntimeException"), .declares (Bundle.initS "java/lang/Exception"), .declares (Bundle.initS Bundle.tN)] : List Cond) := by decide +kernel
theorem hsX11_needIndex : ∀ w ∈ (vx_atS RX11 408 "java/lang/IndexOutOfBoundsException" ["java/lang/RuntimeException", "java/lang/Exception"]).filter goodWord, w ∈ wsX11_needIndex := by decide +kernel
theorem mX11_needIndex {l : Launch} (hl0 : l.stackTraces = false) {E : xE} (p0 : Int32) (σ : xSt) (o1 : xO) (o2 : xSt) (hf : fX11_needIndex p0 σ = some (o1, o2)) : xMtv l yX11_needIndex wsX11_needIndex rmX11_needIndex E [.int p0] σ o1 o2 1 := by
  unfold fX11_needIndex at hf
  refine xMtv_of (cc := cX11_needIndex) (maxL := 1) (ret := none) (by decide) rfl (Nat.le_of_ble_eq_true rfl) ?_
  intro p e s m args below meth c A ls ⟨hx, hb, hr, hml, hown, hts, hlk⟩ hA hG hw hl hex
  have hown : s.vm.findClass RX11 = some m.cls := hown
  have hl : lv_has ls 1 [(0, .int p0)] := hl
  refine lv_iload_n hx hb dX11_needIndex_0 rfl (lv_at hl 0 rfl) ?_
  refine lv_if_ne (tgt := 15) hx hb dX11_needIndex_1 (by decide) (fun c1 => ?_) (fun c1 => ?_)
  · replace hf := xif_neg c1 hf
    exact x_tvret hx hb hr hlk hw hf (Nat.zero_le _) (Nat.zero_le _) dX11_needIndex_15
  · replace hf := xif_pos c1 hf
    obtain ⟨rfl, rfl⟩ := Prod.mk.inj (Option.some.inj hf)
    exact vx_throwSW hx hb hl0 (own := RX11) (cls := "java/lang/IndexOutOfBoundsException") (names := ["java/lang/RuntimeException", "java/lang/Exception"]) hown (by decide) (by decide) (hts (.classLink RX11 404 "java/lang/IndexOutOfBoundsException") (by decide +kernel)) (hts (.initialized "java/lang/IndexOutOfBoundsException") (by decide +kernel)) hG.2.2.2.2.1 (vx_hat (fun w h => hts w (hsX11_needIndex w h)) hnX11_needIndex (fun w h => by simp only [List.mem_cons, List.not_mem_nil, or_false] at h; rcases h with rfl | rfl | rfl | rfl <;> exact va_Nw.use (by decide +kernel) (hG.1 _ (by decide +kernel)))) hgX11_needIndex hG.2.2.2.1.1 hG.2.2.2.1.2 hw.2.2.2 (hl.1.trans hml.symm) dX11_needIndex_4 dX11_needIndex_7 dX11_needIndex_8 dX11_needIndex_11 dX11_needIndex_14 (fun x h => (hex x h).elim) (by decide) (by decide) (by decide) (by decide) hlk
      (fun t ht hz hq => ⟨(σ, 0), ⟨rfl, rfl⟩, ⟨rfl, xP_kept hw.2.1 hq, va_K.moved ht hw.1, hw.2.2.1⟩, ⟨hz, fun q h1 _ => hq q h1⟩⟩) (fun z hz => nomatch hz) (Nat.le_refl _) (Nat.le_refl _)
def fX11_needArgument (p0 : Int32) (σ : xSt) : Option (xO × xSt) := if p0 = 0 then some (.inr 1, σ) else some (.inl 0, σ)
abbrev rmX11_needArgument : Room := { frames := 6, cells := 1, slots := 6, locals := 90 }
theorem hgX11_needArgument : ∀ w ∈ Cond.classLink RX11 411 "java/lang/IllegalArgumentException" :: Cond.initialized "java/lang/IllegalArgumentException" :: vx_atS RX11 415 "java/lang/IllegalArgumentException" ["java/lang/RuntimeException", "java/lang/Exception"], vx_ot w = true := by decide +kernel
theorem hnX11_needArgument : ∀ w ∈ (vx_atS RX11 415 "java/lang/IllegalArgumentException" ["java/lang/RuntimeException", "java/lang/Exception"]).filter (fun w => !goodWord w), w ∈ ([.castable "java/lang/IllegalArgumentException" "java/lang/IllegalArgumentException", .declares (Bundle.initS "java/lang/RuntimeException"), .declares (Bundle.initS "java/lang/Exception"), .declares (Bundle.initS Bundle.tN)] : List Cond) := by decide +kernel
theorem hsX11_needArgument : ∀ w ∈ (vx_atS RX11 415 "java/lang/IllegalArgumentException" ["java/lang/RuntimeException", "java/lang/Exception"]).filter goodWord, w ∈ wsX11_needArgument := by decide +kernel
theorem mX11_needArgument {l : Launch} (hl0 : l.stackTraces = false) {E : xE} (p0 : Int32) (σ : xSt) (o1 : xO) (o2 : xSt) (hf : fX11_needArgument p0 σ = some (o1, o2)) : xMtv l yX11_needArgument wsX11_needArgument rmX11_needArgument E [.int p0] σ o1 o2 1 := by
  unfold fX11_needArgument at hf
  refine xMtv_of (cc := cX11_needArgument) (maxL := 1) (ret := none) (by decide) rfl (Nat.le_of_ble_eq_true rfl) ?_
  intro p e s m args below meth c A ls ⟨hx, hb, hr, hml, hown, hts, hlk⟩ hA hG hw hl hex
  have hown : s.vm.findClass RX11 = some m.cls := hown
  have hl : lv_has ls 1 [(0, .int p0)] := hl
  refine lv_iload_n hx hb dX11_needArgument_0 rfl (lv_at hl 0 rfl) ?_
  refine lv_if_ne (tgt := 15) hx hb dX11_needArgument_1 (by decide) (fun c1 => ?_) (fun c1 => ?_)
  · replace hf := xif_neg c1 hf
    exact x_tvret hx hb hr hlk hw hf (Nat.zero_le _) (Nat.zero_le _) dX11_needArgument_15
  · replace hf := xif_pos c1 hf
    obtain ⟨rfl, rfl⟩ := Prod.mk.inj (Option.some.inj hf)
    exact vx_throwSW hx hb hl0 (own := RX11) (cls := "java/lang/IllegalArgumentException") (names := ["java/lang/RuntimeException", "java/lang/Exception"]) hown (by decide) (by decide) (hts (.classLink RX11 411 "java/lang/IllegalArgumentException") (by decide +kernel)) (hts (.initialized "java/lang/IllegalArgumentException") (by decide +kernel)) hG.2.2.2.2.2.1 (vx_hat (fun w h => hts w (hsX11_needArgument w h)) hnX11_needArgument (fun w h => by simp only [List.mem_cons, List.not_mem_nil, or_false] at h; rcases h with rfl | rfl | rfl | rfl <;> exact va_Nw.use (by decide +kernel) (hG.1 _ (by decide +kernel)))) hgX11_needArgument hG.2.2.2.1.1 hG.2.2.2.1.2 hw.2.2.2 (hl.1.trans hml.symm) dX11_needArgument_4 dX11_needArgument_7 dX11_needArgument_8 dX11_needArgument_11 dX11_needArgument_14 (fun x h => (hex x h).elim) (by decide) (by decide) (by decide) (by decide) hlk
      (fun t ht hz hq => ⟨(σ, 1), ⟨rfl, rfl⟩, ⟨rfl, xP_kept hw.2.1 hq, va_K.moved ht hw.1, hw.2.2.1⟩, ⟨hz, fun q h1 _ => hq q h1⟩⟩) (fun z hz => nomatch hz) (Nat.le_refl _) (Nat.le_refl _)
def fX11_needState (p0 : Int32) (σ : xSt) : Option (xO × xSt) := if p0 = 0 then some (.inr 2, σ) else some (.inl 0, σ)
abbrev rmX11_needState : Room := { frames := 6, cells := 1, slots := 6, locals := 90 }
theorem hgX11_needState : ∀ w ∈ Cond.classLink RX11 416 "java/lang/IllegalStateException" :: Cond.initialized "java/lang/IllegalStateException" :: vx_atS RX11 420 "java/lang/IllegalStateException" ["java/lang/RuntimeException", "java/lang/Exception"], vx_ot w = true := by decide +kernel
theorem hnX11_needState : ∀ w ∈ (vx_atS RX11 420 "java/lang/IllegalStateException" ["java/lang/RuntimeException", "java/lang/Exception"]).filter (fun w => !goodWord w), w ∈ ([.castable "java/lang/IllegalStateException" "java/lang/IllegalStateException", .declares (Bundle.initS "java/lang/RuntimeException"), .declares (Bundle.initS "java/lang/Exception"), .declares (Bundle.initS Bundle.tN)] : List Cond) := by decide +kernel
theorem hsX11_needState : ∀ w ∈ (vx_atS RX11 420 "java/lang/IllegalStateException" ["java/lang/RuntimeException", "java/lang/Exception"]).filter goodWord, w ∈ wsX11_needState := by decide +kernel
theorem mX11_needState {l : Launch} (hl0 : l.stackTraces = false) {E : xE} (p0 : Int32) (σ : xSt) (o1 : xO) (o2 : xSt) (hf : fX11_needState p0 σ = some (o1, o2)) : xMtv l yX11_needState wsX11_needState rmX11_needState E [.int p0] σ o1 o2 1 := by
  unfold fX11_needState at hf
  refine xMtv_of (cc := cX11_needState) (maxL := 1) (ret := none) (by decide) rfl (Nat.le_of_ble_eq_true rfl) ?_
  intro p e s m args below meth c A ls ⟨hx, hb, hr, hml, hown, hts, hlk⟩ hA hG hw hl hex
  have hown : s.vm.findClass RX11 = some m.cls := hown
  have hl : lv_has ls 1 [(0, .int p0)] := hl
  refine lv_iload_n hx hb dX11_needState_0 rfl (lv_at hl 0 rfl) ?_
  refine lv_if_ne (tgt := 15) hx hb dX11_needState_1 (by decide) (fun c1 => ?_) (fun c1 => ?_)
  · replace hf := xif_neg c1 hf
    exact x_tvret hx hb hr hlk hw hf (Nat.zero_le _) (Nat.zero_le _) dX11_needState_15
  · replace hf := xif_pos c1 hf
    obtain ⟨rfl, rfl⟩ := Prod.mk.inj (Option.some.inj hf)
    exact vx_throwSW hx hb hl0 (own := RX11) (cls := "java/lang/IllegalStateException") (names := ["java/lang/RuntimeException", "java/lang/Exception"]) hown (by decide) (by decide) (hts (.classLink RX11 416 "java/lang/IllegalStateException") (by decide +kernel)) (hts (.initialized "java/lang/IllegalStateException") (by decide +kernel)) hG.2.2.2.2.2.2.1 (vx_hat (fun w h => hts w (hsX11_needState w h)) hnX11_needState (fun w h => by simp only [List.mem_cons, List.not_mem_nil, or_false] at h; rcases h with rfl | rfl | rfl | rfl <;> exact va_Nw.use (by decide +kernel) (hG.1 _ (by decide +kernel)))) hgX11_needState hG.2.2.2.1.1 hG.2.2.2.1.2 hw.2.2.2 (hl.1.trans hml.symm) dX11_needState_4 dX11_needState_7 dX11_needState_8 dX11_needState_11 dX11_needState_14 (fun x h => (hex x h).elim) (by decide) (by decide) (by decide) (by decide) hlk
      (fun t ht hz hq => ⟨(σ, 2), ⟨rfl, rfl⟩, ⟨rfl, xP_kept hw.2.1 hq, va_K.moved ht hw.1, hw.2.2.1⟩, ⟨hz, fun q h1 _ => hq q h1⟩⟩) (fun z hz => nomatch hz) (Nat.le_refl _) (Nat.le_refl _)
def fX11_needElement (p0 : Int32) (σ : xSt) : Option (xO × xSt) := if p0 = 0 then some (.inr 3, σ) else some (.inl 0, σ)
abbrev rmX11_needElement : Room := { frames := 6, cells := 1, slots := 6, locals := 90 }
theorem hgX11_needElement : ∀ w ∈ Cond.classLink RX11 421 "java/util/NoSuchElementException" :: Cond.initialized "java/util/NoSuchElementException" :: xat13 RX11 425, vx_ot w = true := by decide +kernel
theorem hnX11_needElement : ∀ w ∈ (xat13 RX11 425).filter (fun w => !goodWord w), w ∈ ([.castable "java/util/NoSuchElementException" "java/util/NoSuchElementException", .declares (Bundle.initS "java/lang/RuntimeException"), .declares (Bundle.initS "java/lang/Exception"), .declares (Bundle.initS Bundle.tN)] : List Cond) := by decide +kernel
theorem hsX11_needElement : ∀ w ∈ (xat13 RX11 425).filter goodWord, w ∈ wsX11_needElement := by decide +kernel
theorem mX11_needElement {l : Launch} (hl0 : l.stackTraces = false) {E : xE} (p0 : Int32) (σ : xSt) (o1 : xO) (o2 : xSt) (hf : fX11_needElement p0 σ = some (o1, o2)) : xMtv l yX11_needElement wsX11_needElement rmX11_needElement E [.int p0] σ o1 o2 1 := by
  unfold fX11_needElement at hf
  refine xMtv_of (cc := cX11_needElement) (maxL := 1) (ret := none) (by decide) rfl (Nat.le_of_ble_eq_true rfl) ?_
  intro p e s m args below meth c A ls ⟨hx, hb, hr, hml, hown, hts, hlk⟩ hA hG hw hl hex
  have hown : s.vm.findClass RX11 = some m.cls := hown
  have hl : lv_has ls 1 [(0, .int p0)] := hl
  refine lv_iload_n hx hb dX11_needElement_0 rfl (lv_at hl 0 rfl) ?_
  refine lv_if_ne (tgt := 15) hx hb dX11_needElement_1 (by decide) (fun c1 => ?_) (fun c1 => ?_)
  · replace hf := xif_neg c1 hf
    exact x_tvret hx hb hr hlk hw hf (Nat.zero_le _) (Nat.zero_le _) dX11_needElement_15
  · replace hf := xif_pos c1 hf
    obtain ⟨rfl, rfl⟩ := Prod.mk.inj (Option.some.inj hf)
    exact x13_throw hx hb hl0 (own := RX11) hown (hts (.classLink RX11 421 "java/util/NoSuchElementException") (by decide +kernel)) (hts (.initialized "java/util/NoSuchElementException") (by decide +kernel)) hG.2.2.2.2.2.2.2 (vx_hat (fun w h => hts w (hsX11_needElement w h)) hnX11_needElement (fun w h => by simp only [List.mem_cons, List.not_mem_nil, or_false] at h; rcases h with rfl | rfl | rfl | rfl <;> exact va_Nw.use (by decide +kernel) (hG.1 _ (by decide +kernel)))) hgX11_needElement hG.2.2.2.1.1 hG.2.2.2.1.2 hw.2.2.2 (hl.1.trans hml.symm) dX11_needElement_4 dX11_needElement_7 dX11_needElement_8 dX11_needElement_11 dX11_needElement_14 (fun x h => (hex x h).elim) (by decide) (by decide) (by decide) (by decide) hlk
      (fun t ht hz hq => ⟨(σ, 3), ⟨rfl, rfl⟩, ⟨rfl, xP_kept hw.2.1 hq, va_K.moved ht hw.1, hw.2.2.1⟩, ⟨hz, fun q h1 _ => hq q h1⟩⟩) (fun z hz => nomatch hz) (Nat.le_refl _) (Nat.le_refl _)
