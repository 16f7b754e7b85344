/-! ===== THE LAW'S WRAPPERS: out[0] gets the answer, or a code says what was thrown ===== -/
abbrev xEO (E : xE) (ao : Nat) (cL : ClassId) (fo : Nat → Int64) : xE := (E.D, E.a, E.cA, E.sh, (ao, .inl (cL, 1, .inr (.inl fo))) :: E.ex, E.g)
def xN (U : State) : Prop := ∀ i, i < 4 → ∀ j, j < 4 → i ≠ j → va_Nc (xcls i) (xcls j) U
theorem xN.moved {u U : State} (hvm : u.vm.Alike U.vm) (h : xN u) : xN U := fun i hi j hj hij => va_Nc.moved hvm (h i hi j hj hij)
/-- the wrapper's world in a walk -/
def xwW (E : xE) (ao : Nat) (cL : ClassId) (A : Nat → Prop) (H0 : Heap) (s : State) (σ : xSt) (fo : Nat → Int64) (H : Heap) (locs : List Loc) : Prop := va_K E.D vwCl [(E.cA, .int), (cL, .long)] s ∧ va_P E.D vwCl ((xEO E ao cL fo).W σ) H ∧ va_D A ((xEO E ao cL fo).W σ) ∧ va_S A H0 H locs
theorem xwW.in {E : xE} {ao : Nat} {cL : ClassId} {A : Nat → Prop} {H0 : Heap} {s : State} {σ : xSt} {fo : Nat → Int64} {H : Heap} {locs : List Loc} (h : xwW E ao cL A H0 s σ fo H locs) : xw (xEO E ao cL fo) A H0 s σ H locs := ⟨h.1.sub [0] rfl, h.2⟩
theorem xwW.of {E : xE} {ao : Nat} {cL : ClassId} {A : Nat → Prop} {H0 : Heap} {s : State} {σ : xSt} {fo : Nat → Int64} {H : Heap} {locs : List Loc} (hK : va_K E.D vwCl [(E.cA, .int), (cL, .long)] s) (h : xw (xEO E ao cL fo) A H0 s σ H locs) : xwW E ao cL A H0 s σ fo H locs := ⟨hK, h.2⟩
theorem xEO_at (E : xE) (ao : Nat) (cL : ClassId) (fo : Nat → Int64) (σ : xSt) : ((xEO E ao cL fo).W σ)[E.sh.length]? = some (ao, .inl (cL, 1, .inr (.inl fo))) := by
  show (xW E.a E.cA E.sh σ ((ao, .inl (cL, 1, .inr (.inl fo))) :: E.ex))[E.sh.length]? = _
  unfold xW
  rw [List.getElem?_append_right (by simp), List.length_mapIdx, Nat.sub_self]
  rfl
theorem xEO_set (E : xE) (ao : Nat) (cL : ClassId) (fo f1 : Nat → Int64) (σ : xSt) : ((xEO E ao cL fo).W σ).set E.sh.length (ao, .inl (cL, 1, .inr (.inl f1))) = (xEO E ao cL f1).W σ := by
  show (xW E.a E.cA E.sh σ ((ao, .inl (cL, 1, .inr (.inl fo))) :: E.ex)).set E.sh.length _ = xW E.a E.cA E.sh σ ((ao, .inl (cL, 1, .inr (.inl f1))) :: E.ex)
  unfold xW
  rw [List.set_append, if_neg (by simp), List.length_mapIdx, Nat.sub_self]
  rfl
def xPreW (E : xE) (ao : Nat) (cL : ClassId) (av : List Value) (σ : xSt) (fo : Nat → Int64) (sz : Nat) : Array Value → State → Prop := va_Pc av (fun U => U.heap.size = sz ∧ va_P E.D vwCl ((xEO E ao cL fo).W σ) U.heap ∧ va_K E.D vwCl [(E.cA, .int), (cL, .long)] U ∧ va_D (fun _ => True) ((xEO E ao cL fo).W σ) ∧ xG E.g (va_A ((xEO E ao cL fo).W σ) sz) U U.heap ∧ xN U)
def xatW (E : xE) (ao : Nat) (cL : ClassId) (A : Nat → Prop) (u : xSt × (Nat → Int64)) (t : State) : Prop := va_P E.D vwCl ((xEO E ao cL u.2).W u.1) t.heap ∧ va_K E.D vwCl [(E.cA, .int), (cL, .long)] t ∧ va_D A ((xEO E ao cL u.2).W u.1)
abbrev xQw (E : xE) (ao : Nat) (cL : ClassId) (A : Nat → Prop) (r0 : Int32) (σ1 : xSt) (fo1 : Nat → Int64) : Array Value → State → Outcome → State → Prop := va_Qi (S := xSt × (Nat → Int64)) (fun r u => r = r0 ∧ u = (σ1, fo1)) (fun u t => xatW E ao cL A u t) A
abbrev xXw (A : Nat → Prop) : String → State → State → Prop := vx_X (S := Unit) (fun _ => False) (fun _ _ _ => True) A
def xMw (l : Launch) (y : MethodName) (ws : List Cond) (rm : Room) (E : xE) (ao : Nat) (cL : ClassId) (av : List Value) (σ : xSt) (fo : Nat → Int64) (r0 : Int32) (σ1 : xSt) (fo1 : Nat → Int64) (mc : Nat) : Prop := ∀ sz : Nat, vx_Met l y ws rm (xPreW E ao cL av σ fo sz) (xQw E ao cL (va_A ((xEO E ao cL fo).W σ) sz) r0 σ1 fo1) (xXw (va_A ((xEO E ao cL fo).W σ) sz)) mc (6 * mc) (va_A ((xEO E ao cL fo).W σ) sz)
def xcd (k0 k1 k2 k3 : Int32) (o : xO) : Int32 := match o with | .inl _ => 0 | .inr 0 => k0 | .inr 1 => k1 | .inr 2 => k2 | .inr _ => k3
def xou (fo : Nat → Int64) (o : xO) : Nat → Int64 := match o with | .inl v => vp_updL fo 0 v.toInt64 | .inr _ => fo
theorem x_t1 {c : Code} {a : Nat × Nat × Nat × Nat} (h : c.exceptionTable.toList.map (fun h => (h.startPc, h.endPc, h.handlerPc, h.catchType)) = [a]) : ∃ x1, c.exceptionTable.toList = [x1] ∧ (x1.startPc, x1.endPc, x1.handlerPc, x1.catchType) = a := by
  obtain ⟨x1, t1, e1, h1, h2⟩ := List.map_eq_cons_iff.mp h
  have := List.map_eq_nil_iff.mp h2
  subst this
  exact ⟨x1, e1, h1⟩
theorem x_t2 {c : Code} {a b : Nat × Nat × Nat × Nat} (h : c.exceptionTable.toList.map (fun h => (h.startPc, h.endPc, h.handlerPc, h.catchType)) = [a, b]) : ∃ x1 x2, c.exceptionTable.toList = [x1, x2] ∧ (x1.startPc, x1.endPc, x1.handlerPc, x1.catchType) = a ∧ (x2.startPc, x2.endPc, x2.handlerPc, x2.catchType) = b := by
  obtain ⟨x1, t1, e1, h1, h2⟩ := List.map_eq_cons_iff.mp h
  obtain ⟨x2, t2, e2, h3, h4⟩ := List.map_eq_cons_iff.mp h2
  have := List.map_eq_nil_iff.mp h4
  subst this; subst e2
  exact ⟨x1, x2, e1, h1, h3⟩
theorem x_t3 {c : Code} {a b d : Nat × Nat × Nat × Nat} (h : c.exceptionTable.toList.map (fun h => (h.startPc, h.endPc, h.handlerPc, h.catchType)) = [a, b, d]) : ∃ x1 x2 x3, c.exceptionTable.toList = [x1, x2, x3] ∧ (x1.startPc, x1.endPc, x1.handlerPc, x1.catchType) = a ∧ (x2.startPc, x2.endPc, x2.handlerPc, x2.catchType) = b ∧ (x3.startPc, x3.endPc, x3.handlerPc, x3.catchType) = d := by
  obtain ⟨x1, t1, e1, h1, h2⟩ := List.map_eq_cons_iff.mp h
  obtain ⟨x2, t2, e2, h3, h4⟩ := List.map_eq_cons_iff.mp h2
  obtain ⟨x3, t3, e3, h5, h6⟩ := List.map_eq_cons_iff.mp h4
  have := List.map_eq_nil_iff.mp h6
  subst this; subst e3; subst e2
  exact ⟨x1, x2, x3, e1, h1, h3, h5⟩
section XWR
variable {p : Program} {l : Launch} {e : Env} {R : Room} {s : State} {m : MethodId} {args : Array Value} {below : List Frame} {meth : Method} {c : Code} {H : Heap} {locs : List Loc} {cells slots : Nat} {Q : State → Prop}
variable {cc : ByteArray} {pc : Nat} {ls : Array Slot} {rest : List Value} {E : xE} {ao : Nat} {cL : ClassId} {A : Nat → Prop} {H0 : Heap} {σ : xSt} {fo : Nat → Int64}
/-- out[0] = x -/
theorem x_wlast (hexec : p.tables.exec = Jvm.exec) (hb : c.code = cc) (hw : xwW E ao cL A H0 s σ fo H locs) {x : Int64} (hdg : decode cc pc = .ok (.lastore, 1))
    (kk : ∀ (H1 : Heap) (locs1 : List Loc), xwW E ao cL A H0 s σ (vp_updL fo 0 x) H1 locs1 → W p l e R s m args below meth c H1 locs1 cells slots Q (F0 m (pc + 1) ls rest)) : W p l e R s m args below meth c H locs cells slots Q (F0 m pc ls (.long x :: .int 0 :: .ref ao :: rest)) := by
  refine va_last hexec hb hw.1 hw.2.1 hw.2.2.1 hw.2.2.2 E.sh.length 1 (cA := cL) (n := 1) (f := fo) (xEO_at E ao cL fo σ) rfl (xin_vp (by decide)) hdg (fun H1 locs1 hP hD hS => ?_)
  rw [xEO_set] at hP hD
  exact kk H1 locs1 ⟨hw.1, hP, hD, hS⟩
theorem x_wiret {v r0 : Int32} {σ1 : xSt} {fo1 : Nat → Int64} {mc ms : Nat} {XC : String → State → State → Prop} (hexec : p.tables.exec = Jvm.exec) (hb : c.code = cc) (hr : meth.sig.returnType = some .int) (hlocks : meth.locks = false) (hw : xwW E ao cL A s.heap s σ1 fo1 H locs) (hv : v = r0) (hc : cells ≤ mc) (hs : slots ≤ ms) (hdg : decode cc pc = .ok (.ireturn, 1)) : W p l e R s m args below meth c H locs cells slots (vx_MQ below (xQw E ao cL A r0 σ1 fo1) XC args s mc ms A) (F0 m pc ls [.int v]) := by
  subst hv
  exact vx_ret (W.widen hc hs (W.iret hexec hb hr (fun t ht hW => ⟨⟨v, (σ1, fo1), rfl, ⟨rfl, rfl⟩, by rw [ht]; exact hw.2.1, va_K.moved hW.alike hw.1, hw.2.2.1⟩, hw.2.2.2.F ht⟩) hw.2.2.2.2.2 hdg hlocks))
end XWR
theorem xMw_of {l : Launch} {y : MethodName} {ws ws' : List Cond} {rm : Room} {E : xE} {ao : Nat} {cL : ClassId} {av : List Value} {σ : xSt} {fo : Nat → Int64} {r0 : Int32} {σ1 : xSt} {fo1 : Nat → Int64} {cc : ByteArray} {maxL mc : Nat} {ret : Option FieldType} {hh : List (Nat × Nat × Nat × Nat)}
    (hy : plainName y.cls = true) (hws : ws = Cond.codeWith y cc maxL ret hh :: ws') (hn : (lg_sl av).length ≤ maxL)
    (body : ∀ (p : Program) (e : Env) (s : State) (m : MethodId) (args : Array Value) (below : List Frame) (meth : Method) (c : Code) (A : Nat → Prop) (ls : Array Slot), xEn p s m args meth c cc maxL ret ws y → (∀ q, s.heap.size ≤ q → A q) → xG E.g A s s.heap → xN s → c.exceptionTable.toList.map (fun h => (h.startPc, h.endPc, h.handlerPc, h.catchType)) = hh → xwW E ao cL A s.heap s σ fo s.heap [] → lv_has ls maxL (lv_args 0 av) →
      W p l e rm s m args below meth c s.heap [] 0 0 (vx_MQ below (xQw E ao cL A r0 σ1 fo1) (xXw A) args s mc (6 * mc) A) (F0 m 0 ls [])) : xMw l y ws rm E ao cL av σ fo r0 σ1 fo1 mc := by
  intro sz
  refine vx_ofWH (cc := cc) (maxL := maxL) (ret := ret) hy hws ?_
  intro p e s m args below meth c s₁ B hml hv
  obtain ⟨rfl, hsz, hP, hK, hD0, hG, hN⟩ := hv
  subst hsz
  rw [lg_entry_eq]
  have hts := atoms_spec (ws := ws) B.pre
  obtain ⟨m9, meth9, c9, hn9, h1, h2, h3, h4, htab, -, -, -⟩ := Cond.codeWith_spec (hts _ (by rw [hws]; exact List.mem_cons_self))
  cases B.named.symm.trans hn9
  cases Option.some.inj (h1.symm.trans B.method)
  cases Option.some.inj (h2.symm.trans (Stand.of_body B).code)
  exact body p e s m _ below meth c _ _ ⟨B.exec, B.bytes, B.returns, hml, findClass_of_methodNamed B.named, hts, B.notSynchronized⟩ (fun q h => Or.inr h) hG hN htab ⟨hK, hP, hD0.self, va_S.rf⟩ (lv_entry av hn)
abbrev rmL_receive : Room := { frames := 9, cells := 3, slots := 18, locals := 161 }
set_option maxRecDepth 100000 in
set_option maxHeartbeats 4000000 in
theorem mL_receive {l : Launch} (hl0 : l.stackTraces = false) {E : xE} (hE : E.sh = shX) (ao : Nat) (cL : ClassId) (p1 : Int32) (p2 : Int32) (σ : xSt) (fo : Nat → Int64) (o : xO) (σ1 : xSt) (hf : fX11_receive p1 p2 σ = some (o, σ1)) (hk : ∀ k, o = .inr k → k = 0 ∨ k = 1 ∨ k = 2) : xMw l yL_receive wsL_receive rmL_receive E ao cL [.ref (E.a 0), .int p1, .int p2, .ref ao] σ fo (xcd 1 2 3 9 o) σ1 (xou fo o) 3 := by
  refine xMw_of (cc := cL_receive) (maxL := 5) (ret := some .int) (by decide) rfl (Nat.le_of_ble_eq_true rfl) ?_
  intro p e s m args below meth c A ls ⟨hx, hb, hr, hml, hown, hts, hlk⟩ hA hG hN htab hw hl
  have hown : s.vm.findClass RL = some m.cls := hown
  have hl : lv_has ls 5 [(0, .ref (E.a 0)), (1, .int p1), (2, .int p2), (3, .ref ao)] := hl
  refine lv_aload_n hx hb dL_receive_0 rfl (lv_at hl 3 rfl) ?_
  refine lv_iconst (v := 0) hx hb dL_receive_1 (by decide) ?_
  refine lv_aload_n hx hb dL_receive_2 rfl (lv_at hl 0 rfl) ?_
  refine lv_iload_n hx hb dL_receive_3 rfl (lv_at hl 1 rfl) ?_
  refine lv_iload_n hx hb dL_receive_4 rfl (lv_at hl 2 rfl) ?_
  cases o with
  | inl v =>
    refine x_tcalli (vx_runV (As := [.int p1, .int p2]) (rest := [.int 0, .ref ao]) ⟨hx, hb, hml, hown, hts⟩ (mX11_receive hl0 (E := xEO E ao cL fo) hE p1 p2 σ (.inl v) σ1 hf s.heap.size) (cwV 2 hts gL_receive_X11_receive rfl rfl rfl (by decide +kernel) ⟨Nat.le_of_ble_eq_true rfl, Nat.le_of_ble_eq_true rfl⟩) (x_preV _ hw.in hA hG (cX0 hE) rfl) rfl rfl hl.1 rfl (lv_room (Nat.le_of_ble_eq_true rfl)) dL_receive_5 ⟨Nat.le_of_ble_eq_true rfl, Nat.le_of_ble_eq_true rfl⟩) hw.in hA (fun q9 ce H locs h1 h2 h3 hw => by obtain ⟨_, h9, _⟩ := h3; cases h9) (fun r9 H locs h1 hw9 => ?_)
    obtain rfl := Sum.inl.inj h1
    have hw := xwW.of hw.1 hw9
    refine lv_i2l hx hb dL_receive_8 rfl ?_
    refine x_wlast hx hb hw dL_receive_9 (fun H locs hw => ?_)
    refine lv_goto (tgt := 25) hx hb dL_receive_10 (by decide) ?_
    refine lv_iconst (v := 0) hx hb dL_receive_25 (by decide) ?_
    exact x_wiret hx hb hr hlk hw rfl (Nat.le_of_ble_eq_true rfl) (Nat.le_of_ble_eq_true rfl) dL_receive_26
  | inr k =>
    obtain ⟨x1, x2, x3, het, e1, e2, e3⟩ := x_t3 htab
    simp only [Prod.mk.injEq] at e1 e2 e3
    rcases hk k rfl with rfl | rfl | rfl
    · refine x_tcalli (vx_runV (As := [.int p1, .int p2]) (rest := [.int 0, .ref ao]) ⟨hx, hb, hml, hown, hts⟩ (mX11_receive hl0 (E := xEO E ao cL fo) hE p1 p2 σ (.inr 0) σ1 hf s.heap.size) (cwV 2 hts gL_receive_X11_receive rfl rfl rfl (by decide +kernel) ⟨Nat.le_of_ble_eq_true rfl, Nat.le_of_ble_eq_true rfl⟩) (x_preV _ hw.in hA hG (cX0 hE) rfl) rfl rfl hl.1 rfl (lv_room (Nat.le_of_ble_eq_true rfl)) dL_receive_5 ⟨Nat.le_of_ble_eq_true rfl, Nat.le_of_ble_eq_true rfl⟩) hw.in hA (fun q9 ce H locs h1 h2 h3 hw9 => ?_) (fun r9 H locs h1 hw9 => nomatch h1)
      have hw := xwW.of hw.1 hw9
      obtain ⟨k9, h9, h3⟩ := h3
      obtain rfl := Sum.inr.inj h9
      refine vx_catch (E := xcls 0) (name := xcls 0) hown [] x1 [x2, x3] (by rw [het]; rfl) (fun z hz => by cases hz) (by rw [covers, e1.1, e1.2.1]; decide) (by rw [e1.2.2.2]; decide) (by rw [e1.2.2.2]; exact hts (.classLink RL 13 "java/lang/IndexOutOfBoundsException") (by decide +kernel)) (va_Nw.use (by decide +kernel) (hG.1 (.castable "java/lang/IndexOutOfBoundsException" "java/lang/IndexOutOfBoundsException") (by decide +kernel))) h1 h2 h3 ?_
      rw [e1.2.2.1]
      refine lv_astore (lv' := [(4, .ref q9), (0, .ref (E.a 0)), (1, .int p1), (2, .int p2), (3, .ref ao)]) hx hb dL_receive_13 hl (by decide) rfl (fun ls hl => ?_)
      refine lv_iconst (v := 1) hx hb dL_receive_15 (by decide) ?_
      exact x_wiret hx hb hr hlk hw rfl (Nat.le_of_ble_eq_true rfl) (Nat.le_of_ble_eq_true rfl) dL_receive_16
    · refine x_tcalli (vx_runV (As := [.int p1, .int p2]) (rest := [.int 0, .ref ao]) ⟨hx, hb, hml, hown, hts⟩ (mX11_receive hl0 (E := xEO E ao cL fo) hE p1 p2 σ (.inr 1) σ1 hf s.heap.size) (cwV 2 hts gL_receive_X11_receive rfl rfl rfl (by decide +kernel) ⟨Nat.le_of_ble_eq_true rfl, Nat.le_of_ble_eq_true rfl⟩) (x_preV _ hw.in hA hG (cX0 hE) rfl) rfl rfl hl.1 rfl (lv_room (Nat.le_of_ble_eq_true rfl)) dL_receive_5 ⟨Nat.le_of_ble_eq_true rfl, Nat.le_of_ble_eq_true rfl⟩) hw.in hA (fun q9 ce H locs h1 h2 h3 hw9 => ?_) (fun r9 H locs h1 hw9 => nomatch h1)
      have hw := xwW.of hw.1 hw9
      obtain ⟨k9, h9, h3⟩ := h3
      obtain rfl := Sum.inr.inj h9
      refine vx_catch (E := xcls 1) (name := xcls 1) hown [x1] x2 [x3] (by rw [het]; rfl) (fun z hz => by simp only [List.mem_cons, List.not_mem_nil, or_false] at hz; subst hz; exact Or.inr ⟨by rw [e1.2.2.2]; decide, xcls 0, by rw [e1.2.2.2]; exact hts (.classLink RL 13 "java/lang/IndexOutOfBoundsException") (by decide +kernel), hN 1 (by decide) 0 (by decide) (by decide)⟩) (by rw [covers, e2.1, e2.2.1]; decide) (by rw [e2.2.2.2]; decide) (by rw [e2.2.2.2]; exact hts (.classLink RL 15 "java/lang/IllegalArgumentException") (by decide +kernel)) (va_Nw.use (by decide +kernel) (hG.1 (.castable "java/lang/IllegalArgumentException" "java/lang/IllegalArgumentException") (by decide +kernel))) h1 h2 h3 ?_
      rw [e2.2.2.1]
      refine lv_astore (lv' := [(4, .ref q9), (0, .ref (E.a 0)), (1, .int p1), (2, .int p2), (3, .ref ao)]) hx hb dL_receive_17 hl (by decide) rfl (fun ls hl => ?_)
      refine lv_iconst (v := 2) hx hb dL_receive_19 (by decide) ?_
      exact x_wiret hx hb hr hlk hw rfl (Nat.le_of_ble_eq_true rfl) (Nat.le_of_ble_eq_true rfl) dL_receive_20
    · refine x_tcalli (vx_runV (As := [.int p1, .int p2]) (rest := [.int 0, .ref ao]) ⟨hx, hb, hml, hown, hts⟩ (mX11_receive hl0 (E := xEO E ao cL fo) hE p1 p2 σ (.inr 2) σ1 hf s.heap.size) (cwV 2 hts gL_receive_X11_receive rfl rfl rfl (by decide +kernel) ⟨Nat.le_of_ble_eq_true rfl, Nat.le_of_ble_eq_true rfl⟩) (x_preV _ hw.in hA hG (cX0 hE) rfl) rfl rfl hl.1 rfl (lv_room (Nat.le_of_ble_eq_true rfl)) dL_receive_5 ⟨Nat.le_of_ble_eq_true rfl, Nat.le_of_ble_eq_true rfl⟩) hw.in hA (fun q9 ce H locs h1 h2 h3 hw9 => ?_) (fun r9 H locs h1 hw9 => nomatch h1)
      have hw := xwW.of hw.1 hw9
      obtain ⟨k9, h9, h3⟩ := h3
      obtain rfl := Sum.inr.inj h9
      refine vx_catch (E := xcls 2) (name := xcls 2) hown [x1, x2] x3 [] (by rw [het]; rfl) (fun z hz => by simp only [List.mem_cons, List.not_mem_nil, or_false] at hz; rcases hz with rfl | rfl; exact Or.inr ⟨by rw [e1.2.2.2]; decide, xcls 0, by rw [e1.2.2.2]; exact hts (.classLink RL 13 "java/lang/IndexOutOfBoundsException") (by decide +kernel), hN 2 (by decide) 0 (by decide) (by decide)⟩; exact Or.inr ⟨by rw [e2.2.2.2]; decide, xcls 1, by rw [e2.2.2.2]; exact hts (.classLink RL 15 "java/lang/IllegalArgumentException") (by decide +kernel), hN 2 (by decide) 1 (by decide) (by decide)⟩) (by rw [covers, e3.1, e3.2.1]; decide) (by rw [e3.2.2.2]; decide) (by rw [e3.2.2.2]; exact hts (.classLink RL 17 "java/lang/IllegalStateException") (by decide +kernel)) (va_Nw.use (by decide +kernel) (hG.1 (.castable "java/lang/IllegalStateException" "java/lang/IllegalStateException") (by decide +kernel))) h1 h2 h3 ?_
      rw [e3.2.2.1]
      refine lv_astore (lv' := [(4, .ref q9), (0, .ref (E.a 0)), (1, .int p1), (2, .int p2), (3, .ref ao)]) hx hb dL_receive_21 hl (by decide) rfl (fun ls hl => ?_)
      refine lv_iconst (v := 3) hx hb dL_receive_23 (by decide) ?_
      exact x_wiret hx hb hr hlk hw rfl (Nat.le_of_ble_eq_true rfl) (Nat.le_of_ble_eq_true rfl) dL_receive_24

abbrev rmL_store : Room := { frames := 9, cells := 1, slots := 6, locals := 151 }
set_option maxRecDepth 100000 in
set_option maxHeartbeats 4000000 in
theorem mL_store {l : Launch} (hl0 : l.stackTraces = false) {E : xE} (hE : E.sh = shX) (ao : Nat) (cL : ClassId) (p1 : Int32) (σ : xSt) (fo : Nat → Int64) (o : xO) (σ1 : xSt) (hf : fX11_store p1 σ = some (o, σ1)) (hk : ∀ k, o = .inr k → k = 0) : xMw l yL_store wsL_store rmL_store E ao cL [.ref (E.a 0), .int p1, .ref ao] σ fo (xcd 1 9 9 9 o) σ1 (xou fo o) 1 := by
  refine xMw_of (cc := cL_store) (maxL := 4) (ret := some .int) (by decide) rfl (Nat.le_of_ble_eq_true rfl) ?_
  intro p e s m args below meth c A ls ⟨hx, hb, hr, hml, hown, hts, hlk⟩ hA hG hN htab hw hl
  have hown : s.vm.findClass RL = some m.cls := hown
  have hl : lv_has ls 4 [(0, .ref (E.a 0)), (1, .int p1), (2, .ref ao)] := hl
  refine lv_aload_n hx hb dL_store_0 rfl (lv_at hl 2 rfl) ?_
  refine lv_iconst (v := 0) hx hb dL_store_1 (by decide) ?_
  refine lv_aload_n hx hb dL_store_2 rfl (lv_at hl 0 rfl) ?_
  refine lv_iload_n hx hb dL_store_3 rfl (lv_at hl 1 rfl) ?_
  cases o with
  | inl v =>
    refine x_tcalli (vx_runV (As := [.int p1]) (rest := [.int 0, .ref ao]) ⟨hx, hb, hml, hown, hts⟩ (mX11_store hl0 (E := xEO E ao cL fo) hE p1 σ (.inl v) σ1 hf s.heap.size) (cwV 1 hts gL_store_X11_store rfl rfl rfl (by decide +kernel) ⟨Nat.le_of_ble_eq_true rfl, Nat.le_of_ble_eq_true rfl⟩) (x_preV _ hw.in hA hG (cX0 hE) rfl) rfl rfl hl.1 rfl (lv_room (Nat.le_of_ble_eq_true rfl)) dL_store_4 ⟨Nat.le_of_ble_eq_true rfl, Nat.le_of_ble_eq_true rfl⟩) hw.in hA (fun q9 ce H locs h1 h2 h3 hw => by obtain ⟨_, h9, _⟩ := h3; cases h9) (fun r9 H locs h1 hw9 => ?_)
    obtain rfl := Sum.inl.inj h1
    have hw := xwW.of hw.1 hw9
    refine lv_i2l hx hb dL_store_7 rfl ?_
    refine x_wlast hx hb hw dL_store_8 (fun H locs hw => ?_)
    refine lv_goto (tgt := 15) hx hb dL_store_9 (by decide) ?_
    refine lv_iconst (v := 0) hx hb dL_store_15 (by decide) ?_
    exact x_wiret hx hb hr hlk hw rfl (Nat.le_of_ble_eq_true rfl) (Nat.le_of_ble_eq_true rfl) dL_store_16
  | inr k =>
    obtain ⟨x1, het, e1⟩ := x_t1 htab
    simp only [Prod.mk.injEq] at e1
    rcases hk k rfl with rfl
    · refine x_tcalli (vx_runV (As := [.int p1]) (rest := [.int 0, .ref ao]) ⟨hx, hb, hml, hown, hts⟩ (mX11_store hl0 (E := xEO E ao cL fo) hE p1 σ (.inr 0) σ1 hf s.heap.size) (cwV 1 hts gL_store_X11_store rfl rfl rfl (by decide +kernel) ⟨Nat.le_of_ble_eq_true rfl, Nat.le_of_ble_eq_true rfl⟩) (x_preV _ hw.in hA hG (cX0 hE) rfl) rfl rfl hl.1 rfl (lv_room (Nat.le_of_ble_eq_true rfl)) dL_store_4 ⟨Nat.le_of_ble_eq_true rfl, Nat.le_of_ble_eq_true rfl⟩) hw.in hA (fun q9 ce H locs h1 h2 h3 hw9 => ?_) (fun r9 H locs h1 hw9 => nomatch h1)
      have hw := xwW.of hw.1 hw9
      obtain ⟨k9, h9, h3⟩ := h3
      obtain rfl := Sum.inr.inj h9
      refine vx_catch (E := xcls 0) (name := xcls 0) hown [] x1 [] (by rw [het]; rfl) (fun z hz => by cases hz) (by rw [covers, e1.1, e1.2.1]; decide) (by rw [e1.2.2.2]; decide) (by rw [e1.2.2.2]; exact hts (.classLink RL 13 "java/lang/IndexOutOfBoundsException") (by decide +kernel)) (va_Nw.use (by decide +kernel) (hG.1 (.castable "java/lang/IndexOutOfBoundsException" "java/lang/IndexOutOfBoundsException") (by decide +kernel))) h1 h2 h3 ?_
      rw [e1.2.2.1]
      refine lv_astore_n (lv' := [(3, .ref q9), (0, .ref (E.a 0)), (1, .int p1), (2, .ref ao)]) hx hb dL_store_12 rfl hl (by decide) rfl (fun ls hl => ?_)
      refine lv_iconst (v := 1) hx hb dL_store_13 (by decide) ?_
      exact x_wiret hx hb hr hlk hw rfl (Nat.le_of_ble_eq_true rfl) (Nat.le_of_ble_eq_true rfl) dL_store_14

abbrev rmL_addRecipe : Room := { frames := 8, cells := 2, slots := 12, locals := 165 }
set_option maxRecDepth 100000 in
set_option maxHeartbeats 4000000 in
theorem mL_addRecipe {l : Launch} (hl0 : l.stackTraces = false) {E : xE} (hE : E.sh = shX) (ao : Nat) (cL : ClassId) (p1 : Int32) (p2 : Int32) (p3 : Int32) (p4 : Int32) (p5 : Int32) (σ : xSt) (fo : Nat → Int64) (o : xO) (σ1 : xSt) (hf : fX11_addRecipe p1 p2 p3 p4 p5 σ = some (o, σ1)) (hk : ∀ k, o = .inr k → k = 1 ∨ k = 2) : xMw l yL_addRecipe wsL_addRecipe rmL_addRecipe E ao cL [.ref (E.a 0), .int p1, .int p2, .int p3, .int p4, .int p5, .ref ao] σ fo (xcd 9 1 2 9 o) σ1 (xou fo o) 2 := by
  refine xMw_of (cc := cL_addRecipe) (maxL := 8) (ret := some .int) (by decide) rfl (Nat.le_of_ble_eq_true rfl) ?_
  intro p e s m args below meth c A ls ⟨hx, hb, hr, hml, hown, hts, hlk⟩ hA hG hN htab hw hl
  have hown : s.vm.findClass RL = some m.cls := hown
  have hl : lv_has ls 8 [(0, .ref (E.a 0)), (1, .int p1), (2, .int p2), (3, .int p3), (4, .int p4), (5, .int p5), (6, .ref ao)] := hl
  refine lv_aload hx hb dL_addRecipe_0 (lv_at hl 6 rfl) ?_
  refine lv_iconst (v := 0) hx hb dL_addRecipe_2 (by decide) ?_
  refine lv_aload_n hx hb dL_addRecipe_3 rfl (lv_at hl 0 rfl) ?_
  refine lv_iload_n hx hb dL_addRecipe_4 rfl (lv_at hl 1 rfl) ?_
  refine lv_iload_n hx hb dL_addRecipe_5 rfl (lv_at hl 2 rfl) ?_
  refine lv_iload_n hx hb dL_addRecipe_6 rfl (lv_at hl 3 rfl) ?_
  refine lv_iload hx hb dL_addRecipe_7 (lv_at hl 4 rfl) ?_
  refine lv_iload hx hb dL_addRecipe_9 (lv_at hl 5 rfl) ?_
  cases o with
  | inl v =>
    refine x_tcalli (vx_runV (As := [.int p1, .int p2, .int p3, .int p4, .int p5]) (rest := [.int 0, .ref ao]) ⟨hx, hb, hml, hown, hts⟩ (mX11_addRecipe hl0 (E := xEO E ao cL fo) hE p1 p2 p3 p4 p5 σ (.inl v) σ1 hf s.heap.size) (cwV 5 hts gL_addRecipe_X11_addRecipe rfl rfl rfl (by decide +kernel) ⟨Nat.le_of_ble_eq_true rfl, Nat.le_of_ble_eq_true rfl⟩) (x_preV _ hw.in hA hG (cX0 hE) rfl) rfl rfl hl.1 rfl (lv_room (Nat.le_of_ble_eq_true rfl)) dL_addRecipe_11 ⟨Nat.le_of_ble_eq_true rfl, Nat.le_of_ble_eq_true rfl⟩) hw.in hA (fun q9 ce H locs h1 h2 h3 hw => by obtain ⟨_, h9, _⟩ := h3; cases h9) (fun r9 H locs h1 hw9 => ?_)
    obtain rfl := Sum.inl.inj h1
    have hw := xwW.of hw.1 hw9
    refine lv_i2l hx hb dL_addRecipe_14 rfl ?_
    refine x_wlast hx hb hw dL_addRecipe_15 (fun H locs hw => ?_)
    refine lv_goto (tgt := 27) hx hb dL_addRecipe_16 (by decide) ?_
    refine lv_iconst (v := 0) hx hb dL_addRecipe_27 (by decide) ?_
    exact x_wiret hx hb hr hlk hw rfl (Nat.le_of_ble_eq_true rfl) (Nat.le_of_ble_eq_true rfl) dL_addRecipe_28
  | inr k =>
    obtain ⟨x1, x2, het, e1, e2⟩ := x_t2 htab
    simp only [Prod.mk.injEq] at e1 e2
    rcases hk k rfl with rfl | rfl
    · refine x_tcalli (vx_runV (As := [.int p1, .int p2, .int p3, .int p4, .int p5]) (rest := [.int 0, .ref ao]) ⟨hx, hb, hml, hown, hts⟩ (mX11_addRecipe hl0 (E := xEO E ao cL fo) hE p1 p2 p3 p4 p5 σ (.inr 1) σ1 hf s.heap.size) (cwV 5 hts gL_addRecipe_X11_addRecipe rfl rfl rfl (by decide +kernel) ⟨Nat.le_of_ble_eq_true rfl, Nat.le_of_ble_eq_true rfl⟩) (x_preV _ hw.in hA hG (cX0 hE) rfl) rfl rfl hl.1 rfl (lv_room (Nat.le_of_ble_eq_true rfl)) dL_addRecipe_11 ⟨Nat.le_of_ble_eq_true rfl, Nat.le_of_ble_eq_true rfl⟩) hw.in hA (fun q9 ce H locs h1 h2 h3 hw9 => ?_) (fun r9 H locs h1 hw9 => nomatch h1)
      have hw := xwW.of hw.1 hw9
      obtain ⟨k9, h9, h3⟩ := h3
      obtain rfl := Sum.inr.inj h9
      refine vx_catch (E := xcls 1) (name := xcls 1) hown [] x1 [x2] (by rw [het]; rfl) (fun z hz => by cases hz) (by rw [covers, e1.1, e1.2.1]; decide) (by rw [e1.2.2.2]; decide) (by rw [e1.2.2.2]; exact hts (.classLink RL 15 "java/lang/IllegalArgumentException") (by decide +kernel)) (va_Nw.use (by decide +kernel) (hG.1 (.castable "java/lang/IllegalArgumentException" "java/lang/IllegalArgumentException") (by decide +kernel))) h1 h2 h3 ?_
      rw [e1.2.2.1]
      refine lv_astore (lv' := [(7, .ref q9), (0, .ref (E.a 0)), (1, .int p1), (2, .int p2), (3, .int p3), (4, .int p4), (5, .int p5), (6, .ref ao)]) hx hb dL_addRecipe_19 hl (by decide) rfl (fun ls hl => ?_)
      refine lv_iconst (v := 1) hx hb dL_addRecipe_21 (by decide) ?_
      exact x_wiret hx hb hr hlk hw rfl (Nat.le_of_ble_eq_true rfl) (Nat.le_of_ble_eq_true rfl) dL_addRecipe_22
    · refine x_tcalli (vx_runV (As := [.int p1, .int p2, .int p3, .int p4, .int p5]) (rest := [.int 0, .ref ao]) ⟨hx, hb, hml, hown, hts⟩ (mX11_addRecipe hl0 (E := xEO E ao cL fo) hE p1 p2 p3 p4 p5 σ (.inr 2) σ1 hf s.heap.size) (cwV 5 hts gL_addRecipe_X11_addRecipe rfl rfl rfl (by decide +kernel) ⟨Nat.le_of_ble_eq_true rfl, Nat.le_of_ble_eq_true rfl⟩) (x_preV _ hw.in hA hG (cX0 hE) rfl) rfl rfl hl.1 rfl (lv_room (Nat.le_of_ble_eq_true rfl)) dL_addRecipe_11 ⟨Nat.le_of_ble_eq_true rfl, Nat.le_of_ble_eq_true rfl⟩) hw.in hA (fun q9 ce H locs h1 h2 h3 hw9 => ?_) (fun r9 H locs h1 hw9 => nomatch h1)
      have hw := xwW.of hw.1 hw9
      obtain ⟨k9, h9, h3⟩ := h3
      obtain rfl := Sum.inr.inj h9
      refine vx_catch (E := xcls 2) (name := xcls 2) hown [x1] x2 [] (by rw [het]; rfl) (fun z hz => by simp only [List.mem_cons, List.not_mem_nil, or_false] at hz; subst hz; exact Or.inr ⟨by rw [e1.2.2.2]; decide, xcls 1, by rw [e1.2.2.2]; exact hts (.classLink RL 15 "java/lang/IllegalArgumentException") (by decide +kernel), hN 2 (by decide) 1 (by decide) (by decide)⟩) (by rw [covers, e2.1, e2.2.1]; decide) (by rw [e2.2.2.2]; decide) (by rw [e2.2.2.2]; exact hts (.classLink RL 17 "java/lang/IllegalStateException") (by decide +kernel)) (va_Nw.use (by decide +kernel) (hG.1 (.castable "java/lang/IllegalStateException" "java/lang/IllegalStateException") (by decide +kernel))) h1 h2 h3 ?_
      rw [e2.2.2.1]
      refine lv_astore (lv' := [(7, .ref q9), (0, .ref (E.a 0)), (1, .int p1), (2, .int p2), (3, .int p3), (4, .int p4), (5, .int p5), (6, .ref ao)]) hx hb dL_addRecipe_23 hl (by decide) rfl (fun ls hl => ?_)
      refine lv_iconst (v := 2) hx hb dL_addRecipe_25 (by decide) ?_
      exact x_wiret hx hb hr hlk hw rfl (Nat.le_of_ble_eq_true rfl) (Nat.le_of_ble_eq_true rfl) dL_addRecipe_26

abbrev rmL_setWait : Room := { frames := 9, cells := 2, slots := 12, locals := 162 }
set_option maxRecDepth 100000 in
set_option maxHeartbeats 4000000 in
theorem mL_setWait {l : Launch} (hl0 : l.stackTraces = false) {E : xE} (hE : E.sh = shX) (ao : Nat) (cL : ClassId) (p1 : Int32) (p2 : Int32) (σ : xSt) (fo : Nat → Int64) (o : xO) (σ1 : xSt) (hf : fX11_setWait p1 p2 σ = some (o, σ1)) (hk : ∀ k, o = .inr k → k = 0 ∨ k = 1) : xMw l yL_setWait wsL_setWait rmL_setWait E ao cL [.ref (E.a 0), .int p1, .int p2, .ref ao] σ fo (xcd 1 2 9 9 o) σ1 (xou fo o) 2 := by
  refine xMw_of (cc := cL_setWait) (maxL := 5) (ret := some .int) (by decide) rfl (Nat.le_of_ble_eq_true rfl) ?_
  intro p e s m args below meth c A ls ⟨hx, hb, hr, hml, hown, hts, hlk⟩ hA hG hN htab hw hl
  have hown : s.vm.findClass RL = some m.cls := hown
  have hl : lv_has ls 5 [(0, .ref (E.a 0)), (1, .int p1), (2, .int p2), (3, .ref ao)] := hl
  refine lv_aload_n hx hb dL_setWait_0 rfl (lv_at hl 3 rfl) ?_
  refine lv_iconst (v := 0) hx hb dL_setWait_1 (by decide) ?_
  refine lv_aload_n hx hb dL_setWait_2 rfl (lv_at hl 0 rfl) ?_
  refine lv_iload_n hx hb dL_setWait_3 rfl (lv_at hl 1 rfl) ?_
  refine lv_iload_n hx hb dL_setWait_4 rfl (lv_at hl 2 rfl) ?_
  cases o with
  | inl v =>
    refine x_tcalli (vx_runV (As := [.int p1, .int p2]) (rest := [.int 0, .ref ao]) ⟨hx, hb, hml, hown, hts⟩ (mX11_setWait hl0 (E := xEO E ao cL fo) hE p1 p2 σ (.inl v) σ1 hf s.heap.size) (cwV 2 hts gL_setWait_X11_setWait rfl rfl rfl (by decide +kernel) ⟨Nat.le_of_ble_eq_true rfl, Nat.le_of_ble_eq_true rfl⟩) (x_preV _ hw.in hA hG (cX0 hE) rfl) rfl rfl hl.1 rfl (lv_room (Nat.le_of_ble_eq_true rfl)) dL_setWait_5 ⟨Nat.le_of_ble_eq_true rfl, Nat.le_of_ble_eq_true rfl⟩) hw.in hA (fun q9 ce H locs h1 h2 h3 hw => by obtain ⟨_, h9, _⟩ := h3; cases h9) (fun r9 H locs h1 hw9 => ?_)
    obtain rfl := Sum.inl.inj h1
    have hw := xwW.of hw.1 hw9
    refine lv_i2l hx hb dL_setWait_8 rfl ?_
    refine x_wlast hx hb hw dL_setWait_9 (fun H locs hw => ?_)
    refine lv_goto (tgt := 21) hx hb dL_setWait_10 (by decide) ?_
    refine lv_iconst (v := 0) hx hb dL_setWait_21 (by decide) ?_
    exact x_wiret hx hb hr hlk hw rfl (Nat.le_of_ble_eq_true rfl) (Nat.le_of_ble_eq_true rfl) dL_setWait_22
  | inr k =>
    obtain ⟨x1, x2, het, e1, e2⟩ := x_t2 htab
    simp only [Prod.mk.injEq] at e1 e2
    rcases hk k rfl with rfl | rfl
    · refine x_tcalli (vx_runV (As := [.int p1, .int p2]) (rest := [.int 0, .ref ao]) ⟨hx, hb, hml, hown, hts⟩ (mX11_setWait hl0 (E := xEO E ao cL fo) hE p1 p2 σ (.inr 0) σ1 hf s.heap.size) (cwV 2 hts gL_setWait_X11_setWait rfl rfl rfl (by decide +kernel) ⟨Nat.le_of_ble_eq_true rfl, Nat.le_of_ble_eq_true rfl⟩) (x_preV _ hw.in hA hG (cX0 hE) rfl) rfl rfl hl.1 rfl (lv_room (Nat.le_of_ble_eq_true rfl)) dL_setWait_5 ⟨Nat.le_of_ble_eq_true rfl, Nat.le_of_ble_eq_true rfl⟩) hw.in hA (fun q9 ce H locs h1 h2 h3 hw9 => ?_) (fun r9 H locs h1 hw9 => nomatch h1)
      have hw := xwW.of hw.1 hw9
      obtain ⟨k9, h9, h3⟩ := h3
      obtain rfl := Sum.inr.inj h9
      refine vx_catch (E := xcls 0) (name := xcls 0) hown [] x1 [x2] (by rw [het]; rfl) (fun z hz => by cases hz) (by rw [covers, e1.1, e1.2.1]; decide) (by rw [e1.2.2.2]; decide) (by rw [e1.2.2.2]; exact hts (.classLink RL 13 "java/lang/IndexOutOfBoundsException") (by decide +kernel)) (va_Nw.use (by decide +kernel) (hG.1 (.castable "java/lang/IndexOutOfBoundsException" "java/lang/IndexOutOfBoundsException") (by decide +kernel))) h1 h2 h3 ?_
      rw [e1.2.2.1]
      refine lv_astore (lv' := [(4, .ref q9), (0, .ref (E.a 0)), (1, .int p1), (2, .int p2), (3, .ref ao)]) hx hb dL_setWait_13 hl (by decide) rfl (fun ls hl => ?_)
      refine lv_iconst (v := 1) hx hb dL_setWait_15 (by decide) ?_
      exact x_wiret hx hb hr hlk hw rfl (Nat.le_of_ble_eq_true rfl) (Nat.le_of_ble_eq_true rfl) dL_setWait_16
    · refine x_tcalli (vx_runV (As := [.int p1, .int p2]) (rest := [.int 0, .ref ao]) ⟨hx, hb, hml, hown, hts⟩ (mX11_setWait hl0 (E := xEO E ao cL fo) hE p1 p2 σ (.inr 1) σ1 hf s.heap.size) (cwV 2 hts gL_setWait_X11_setWait rfl rfl rfl (by decide +kernel) ⟨Nat.le_of_ble_eq_true rfl, Nat.le_of_ble_eq_true rfl⟩) (x_preV _ hw.in hA hG (cX0 hE) rfl) rfl rfl hl.1 rfl (lv_room (Nat.le_of_ble_eq_true rfl)) dL_setWait_5 ⟨Nat.le_of_ble_eq_true rfl, Nat.le_of_ble_eq_true rfl⟩) hw.in hA (fun q9 ce H locs h1 h2 h3 hw9 => ?_) (fun r9 H locs h1 hw9 => nomatch h1)
      have hw := xwW.of hw.1 hw9
      obtain ⟨k9, h9, h3⟩ := h3
      obtain rfl := Sum.inr.inj h9
      refine vx_catch (E := xcls 1) (name := xcls 1) hown [x1] x2 [] (by rw [het]; rfl) (fun z hz => by simp only [List.mem_cons, List.not_mem_nil, or_false] at hz; subst hz; exact Or.inr ⟨by rw [e1.2.2.2]; decide, xcls 0, by rw [e1.2.2.2]; exact hts (.classLink RL 13 "java/lang/IndexOutOfBoundsException") (by decide +kernel), hN 1 (by decide) 0 (by decide) (by decide)⟩) (by rw [covers, e2.1, e2.2.1]; decide) (by rw [e2.2.2.2]; decide) (by rw [e2.2.2.2]; exact hts (.classLink RL 15 "java/lang/IllegalArgumentException") (by decide +kernel)) (va_Nw.use (by decide +kernel) (hG.1 (.castable "java/lang/IllegalArgumentException" "java/lang/IllegalArgumentException") (by decide +kernel))) h1 h2 h3 ?_
      rw [e2.2.2.1]
      refine lv_astore (lv' := [(4, .ref q9), (0, .ref (E.a 0)), (1, .int p1), (2, .int p2), (3, .ref ao)]) hx hb dL_setWait_17 hl (by decide) rfl (fun ls hl => ?_)
      refine lv_iconst (v := 2) hx hb dL_setWait_19 (by decide) ?_
      exact x_wiret hx hb hr hlk hw rfl (Nat.le_of_ble_eq_true rfl) (Nat.le_of_ble_eq_true rfl) dL_setWait_20

abbrev rmL_setPart : Room := { frames := 9, cells := 3, slots := 18, locals := 164 }
set_option maxRecDepth 100000 in
set_option maxHeartbeats 4000000 in
theorem mL_setPart {l : Launch} (hl0 : l.stackTraces = false) {E : xE} (hE : E.sh = shX) (ao : Nat) (cL : ClassId) (p1 : Int32) (p2 : Int32) (p3 : Int32) (σ : xSt) (fo : Nat → Int64) (o : xO) (σ1 : xSt) (hf : fX11_setPart p1 p2 p3 σ = some (o, σ1)) (hk : ∀ k, o = .inr k → k = 0 ∨ k = 1) : xMw l yL_setPart wsL_setPart rmL_setPart E ao cL [.ref (E.a 0), .int p1, .int p2, .int p3, .ref ao] σ fo (xcd 1 2 9 9 o) σ1 (xou fo o) 3 := by
  refine xMw_of (cc := cL_setPart) (maxL := 6) (ret := some .int) (by decide) rfl (Nat.le_of_ble_eq_true rfl) ?_
  intro p e s m args below meth c A ls ⟨hx, hb, hr, hml, hown, hts, hlk⟩ hA hG hN htab hw hl
  have hown : s.vm.findClass RL = some m.cls := hown
  have hl : lv_has ls 6 [(0, .ref (E.a 0)), (1, .int p1), (2, .int p2), (3, .int p3), (4, .ref ao)] := hl
  refine lv_aload hx hb dL_setPart_0 (lv_at hl 4 rfl) ?_
  refine lv_iconst (v := 0) hx hb dL_setPart_2 (by decide) ?_
  refine lv_aload_n hx hb dL_setPart_3 rfl (lv_at hl 0 rfl) ?_
  refine lv_iload_n hx hb dL_setPart_4 rfl (lv_at hl 1 rfl) ?_
  refine lv_iload_n hx hb dL_setPart_5 rfl (lv_at hl 2 rfl) ?_
  refine lv_iload_n hx hb dL_setPart_6 rfl (lv_at hl 3 rfl) ?_
  cases o with
  | inl v =>
    refine x_tcalli (vx_runV (As := [.int p1, .int p2, .int p3]) (rest := [.int 0, .ref ao]) ⟨hx, hb, hml, hown, hts⟩ (mX11_setPart hl0 (E := xEO E ao cL fo) hE p1 p2 p3 σ (.inl v) σ1 hf s.heap.size) (cwV 3 hts gL_setPart_X11_setPart rfl rfl rfl (by decide +kernel) ⟨Nat.le_of_ble_eq_true rfl, Nat.le_of_ble_eq_true rfl⟩) (x_preV _ hw.in hA hG (cX0 hE) rfl) rfl rfl hl.1 rfl (lv_room (Nat.le_of_ble_eq_true rfl)) dL_setPart_7 ⟨Nat.le_of_ble_eq_true rfl, Nat.le_of_ble_eq_true rfl⟩) hw.in hA (fun q9 ce H locs h1 h2 h3 hw => by obtain ⟨_, h9, _⟩ := h3; cases h9) (fun r9 H locs h1 hw9 => ?_)
    obtain rfl := Sum.inl.inj h1
    have hw := xwW.of hw.1 hw9
    refine lv_i2l hx hb dL_setPart_10 rfl ?_
    refine x_wlast hx hb hw dL_setPart_11 (fun H locs hw => ?_)
    refine lv_goto (tgt := 23) hx hb dL_setPart_12 (by decide) ?_
    refine lv_iconst (v := 0) hx hb dL_setPart_23 (by decide) ?_
    exact x_wiret hx hb hr hlk hw rfl (Nat.le_of_ble_eq_true rfl) (Nat.le_of_ble_eq_true rfl) dL_setPart_24
  | inr k =>
    obtain ⟨x1, x2, het, e1, e2⟩ := x_t2 htab
    simp only [Prod.mk.injEq] at e1 e2
    rcases hk k rfl with rfl | rfl
    · refine x_tcalli (vx_runV (As := [.int p1, .int p2, .int p3]) (rest := [.int 0, .ref ao]) ⟨hx, hb, hml, hown, hts⟩ (mX11_setPart hl0 (E := xEO E ao cL fo) hE p1 p2 p3 σ (.inr 0) σ1 hf s.heap.size) (cwV 3 hts gL_setPart_X11_setPart rfl rfl rfl (by decide +kernel) ⟨Nat.le_of_ble_eq_true rfl, Nat.le_of_ble_eq_true rfl⟩) (x_preV _ hw.in hA hG (cX0 hE) rfl) rfl rfl hl.1 rfl (lv_room (Nat.le_of_ble_eq_true rfl)) dL_setPart_7 ⟨Nat.le_of_ble_eq_true rfl, Nat.le_of_ble_eq_true rfl⟩) hw.in hA (fun q9 ce H locs h1 h2 h3 hw9 => ?_) (fun r9 H locs h1 hw9 => nomatch h1)
      have hw := xwW.of hw.1 hw9
      obtain ⟨k9, h9, h3⟩ := h3
      obtain rfl := Sum.inr.inj h9
      refine vx_catch (E := xcls 0) (name := xcls 0) hown [] x1 [x2] (by rw [het]; rfl) (fun z hz => by cases hz) (by rw [covers, e1.1, e1.2.1]; decide) (by rw [e1.2.2.2]; decide) (by rw [e1.2.2.2]; exact hts (.classLink RL 13 "java/lang/IndexOutOfBoundsException") (by decide +kernel)) (va_Nw.use (by decide +kernel) (hG.1 (.castable "java/lang/IndexOutOfBoundsException" "java/lang/IndexOutOfBoundsException") (by decide +kernel))) h1 h2 h3 ?_
      rw [e1.2.2.1]
      refine lv_astore (lv' := [(5, .ref q9), (0, .ref (E.a 0)), (1, .int p1), (2, .int p2), (3, .int p3), (4, .ref ao)]) hx hb dL_setPart_15 hl (by decide) rfl (fun ls hl => ?_)
      refine lv_iconst (v := 1) hx hb dL_setPart_17 (by decide) ?_
      exact x_wiret hx hb hr hlk hw rfl (Nat.le_of_ble_eq_true rfl) (Nat.le_of_ble_eq_true rfl) dL_setPart_18
    · refine x_tcalli (vx_runV (As := [.int p1, .int p2, .int p3]) (rest := [.int 0, .ref ao]) ⟨hx, hb, hml, hown, hts⟩ (mX11_setPart hl0 (E := xEO E ao cL fo) hE p1 p2 p3 σ (.inr 1) σ1 hf s.heap.size) (cwV 3 hts gL_setPart_X11_setPart rfl rfl rfl (by decide +kernel) ⟨Nat.le_of_ble_eq_true rfl, Nat.le_of_ble_eq_true rfl⟩) (x_preV _ hw.in hA hG (cX0 hE) rfl) rfl rfl hl.1 rfl (lv_room (Nat.le_of_ble_eq_true rfl)) dL_setPart_7 ⟨Nat.le_of_ble_eq_true rfl, Nat.le_of_ble_eq_true rfl⟩) hw.in hA (fun q9 ce H locs h1 h2 h3 hw9 => ?_) (fun r9 H locs h1 hw9 => nomatch h1)
      have hw := xwW.of hw.1 hw9
      obtain ⟨k9, h9, h3⟩ := h3
      obtain rfl := Sum.inr.inj h9
      refine vx_catch (E := xcls 1) (name := xcls 1) hown [x1] x2 [] (by rw [het]; rfl) (fun z hz => by simp only [List.mem_cons, List.not_mem_nil, or_false] at hz; subst hz; exact Or.inr ⟨by rw [e1.2.2.2]; decide, xcls 0, by rw [e1.2.2.2]; exact hts (.classLink RL 13 "java/lang/IndexOutOfBoundsException") (by decide +kernel), hN 1 (by decide) 0 (by decide) (by decide)⟩) (by rw [covers, e2.1, e2.2.1]; decide) (by rw [e2.2.2.2]; decide) (by rw [e2.2.2.2]; exact hts (.classLink RL 15 "java/lang/IllegalArgumentException") (by decide +kernel)) (va_Nw.use (by decide +kernel) (hG.1 (.castable "java/lang/IllegalArgumentException" "java/lang/IllegalArgumentException") (by decide +kernel))) h1 h2 h3 ?_
      rw [e2.2.2.1]
      refine lv_astore (lv' := [(5, .ref q9), (0, .ref (E.a 0)), (1, .int p1), (2, .int p2), (3, .int p3), (4, .ref ao)]) hx hb dL_setPart_19 hl (by decide) rfl (fun ls hl => ?_)
      refine lv_iconst (v := 2) hx hb dL_setPart_21 (by decide) ?_
      exact x_wiret hx hb hr hlk hw rfl (Nat.le_of_ble_eq_true rfl) (Nat.le_of_ble_eq_true rfl) dL_setPart_22

abbrev rmL_readParts : Room := { frames := 9, cells := 2, slots := 12, locals := 161 }
set_option maxRecDepth 100000 in
set_option maxHeartbeats 4000000 in
theorem mL_readParts {l : Launch} (hl0 : l.stackTraces = false) {E : xE} (hE : E.sh = shX) (ao : Nat) (cL : ClassId) (p1 : Int32) (σ : xSt) (fo : Nat → Int64) (o : xO) (σ1 : xSt) (hf : fX11_readParts p1 σ = some (o, σ1)) (hk : ∀ k, o = .inr k → k = 0 ∨ k = 1) : xMw l yL_readParts wsL_readParts rmL_readParts E ao cL [.ref (E.a 0), .int p1, .ref ao] σ fo (xcd 1 2 9 9 o) σ1 (xou fo o) 2 := by
  refine xMw_of (cc := cL_readParts) (maxL := 4) (ret := some .int) (by decide) rfl (Nat.le_of_ble_eq_true rfl) ?_
  intro p e s m args below meth c A ls ⟨hx, hb, hr, hml, hown, hts, hlk⟩ hA hG hN htab hw hl
  have hown : s.vm.findClass RL = some m.cls := hown
  have hl : lv_has ls 4 [(0, .ref (E.a 0)), (1, .int p1), (2, .ref ao)] := hl
  refine lv_aload_n hx hb dL_readParts_0 rfl (lv_at hl 2 rfl) ?_
  refine lv_iconst (v := 0) hx hb dL_readParts_1 (by decide) ?_
  refine lv_aload_n hx hb dL_readParts_2 rfl (lv_at hl 0 rfl) ?_
  refine lv_iload_n hx hb dL_readParts_3 rfl (lv_at hl 1 rfl) ?_
  cases o with
  | inl v =>
    refine x_tcalli (vx_runV (As := [.int p1]) (rest := [.int 0, .ref ao]) ⟨hx, hb, hml, hown, hts⟩ (mX11_readParts hl0 (E := xEO E ao cL fo) hE p1 σ (.inl v) σ1 hf s.heap.size) (cwV 1 hts gL_readParts_X11_readParts rfl rfl rfl (by decide +kernel) ⟨Nat.le_of_ble_eq_true rfl, Nat.le_of_ble_eq_true rfl⟩) (x_preV _ hw.in hA hG (cX0 hE) rfl) rfl rfl hl.1 rfl (lv_room (Nat.le_of_ble_eq_true rfl)) dL_readParts_4 ⟨Nat.le_of_ble_eq_true rfl, Nat.le_of_ble_eq_true rfl⟩) hw.in hA (fun q9 ce H locs h1 h2 h3 hw => by obtain ⟨_, h9, _⟩ := h3; cases h9) (fun r9 H locs h1 hw9 => ?_)
    obtain rfl := Sum.inl.inj h1
    have hw := xwW.of hw.1 hw9
    refine lv_i2l hx hb dL_readParts_7 rfl ?_
    refine x_wlast hx hb hw dL_readParts_8 (fun H locs hw => ?_)
    refine lv_goto (tgt := 18) hx hb dL_readParts_9 (by decide) ?_
    refine lv_iconst (v := 0) hx hb dL_readParts_18 (by decide) ?_
    exact x_wiret hx hb hr hlk hw rfl (Nat.le_of_ble_eq_true rfl) (Nat.le_of_ble_eq_true rfl) dL_readParts_19
  | inr k =>
    obtain ⟨x1, x2, het, e1, e2⟩ := x_t2 htab
    simp only [Prod.mk.injEq] at e1 e2
    rcases hk k rfl with rfl | rfl
    · refine x_tcalli (vx_runV (As := [.int p1]) (rest := [.int 0, .ref ao]) ⟨hx, hb, hml, hown, hts⟩ (mX11_readParts hl0 (E := xEO E ao cL fo) hE p1 σ (.inr 0) σ1 hf s.heap.size) (cwV 1 hts gL_readParts_X11_readParts rfl rfl rfl (by decide +kernel) ⟨Nat.le_of_ble_eq_true rfl, Nat.le_of_ble_eq_true rfl⟩) (x_preV _ hw.in hA hG (cX0 hE) rfl) rfl rfl hl.1 rfl (lv_room (Nat.le_of_ble_eq_true rfl)) dL_readParts_4 ⟨Nat.le_of_ble_eq_true rfl, Nat.le_of_ble_eq_true rfl⟩) hw.in hA (fun q9 ce H locs h1 h2 h3 hw9 => ?_) (fun r9 H locs h1 hw9 => nomatch h1)
      have hw := xwW.of hw.1 hw9
      obtain ⟨k9, h9, h3⟩ := h3
      obtain rfl := Sum.inr.inj h9
      refine vx_catch (E := xcls 0) (name := xcls 0) hown [] x1 [x2] (by rw [het]; rfl) (fun z hz => by cases hz) (by rw [covers, e1.1, e1.2.1]; decide) (by rw [e1.2.2.2]; decide) (by rw [e1.2.2.2]; exact hts (.classLink RL 13 "java/lang/IndexOutOfBoundsException") (by decide +kernel)) (va_Nw.use (by decide +kernel) (hG.1 (.castable "java/lang/IndexOutOfBoundsException" "java/lang/IndexOutOfBoundsException") (by decide +kernel))) h1 h2 h3 ?_
      rw [e1.2.2.1]
      refine lv_astore_n (lv' := [(3, .ref q9), (0, .ref (E.a 0)), (1, .int p1), (2, .ref ao)]) hx hb dL_readParts_12 rfl hl (by decide) rfl (fun ls hl => ?_)
      refine lv_iconst (v := 1) hx hb dL_readParts_13 (by decide) ?_
      exact x_wiret hx hb hr hlk hw rfl (Nat.le_of_ble_eq_true rfl) (Nat.le_of_ble_eq_true rfl) dL_readParts_14
    · refine x_tcalli (vx_runV (As := [.int p1]) (rest := [.int 0, .ref ao]) ⟨hx, hb, hml, hown, hts⟩ (mX11_readParts hl0 (E := xEO E ao cL fo) hE p1 σ (.inr 1) σ1 hf s.heap.size) (cwV 1 hts gL_readParts_X11_readParts rfl rfl rfl (by decide +kernel) ⟨Nat.le_of_ble_eq_true rfl, Nat.le_of_ble_eq_true rfl⟩) (x_preV _ hw.in hA hG (cX0 hE) rfl) rfl rfl hl.1 rfl (lv_room (Nat.le_of_ble_eq_true rfl)) dL_readParts_4 ⟨Nat.le_of_ble_eq_true rfl, Nat.le_of_ble_eq_true rfl⟩) hw.in hA (fun q9 ce H locs h1 h2 h3 hw9 => ?_) (fun r9 H locs h1 hw9 => nomatch h1)
      have hw := xwW.of hw.1 hw9
      obtain ⟨k9, h9, h3⟩ := h3
      obtain rfl := Sum.inr.inj h9
      refine vx_catch (E := xcls 1) (name := xcls 1) hown [x1] x2 [] (by rw [het]; rfl) (fun z hz => by simp only [List.mem_cons, List.not_mem_nil, or_false] at hz; subst hz; exact Or.inr ⟨by rw [e1.2.2.2]; decide, xcls 0, by rw [e1.2.2.2]; exact hts (.classLink RL 13 "java/lang/IndexOutOfBoundsException") (by decide +kernel), hN 1 (by decide) 0 (by decide) (by decide)⟩) (by rw [covers, e2.1, e2.2.1]; decide) (by rw [e2.2.2.2]; decide) (by rw [e2.2.2.2]; exact hts (.classLink RL 15 "java/lang/IllegalArgumentException") (by decide +kernel)) (va_Nw.use (by decide +kernel) (hG.1 (.castable "java/lang/IllegalArgumentException" "java/lang/IllegalArgumentException") (by decide +kernel))) h1 h2 h3 ?_
      rw [e2.2.2.1]
      refine lv_astore_n (lv' := [(3, .ref q9), (0, .ref (E.a 0)), (1, .int p1), (2, .ref ao)]) hx hb dL_readParts_15 rfl hl (by decide) rfl (fun ls hl => ?_)
      refine lv_iconst (v := 2) hx hb dL_readParts_16 (by decide) ?_
      exact x_wiret hx hb hr hlk hw rfl (Nat.le_of_ble_eq_true rfl) (Nat.le_of_ble_eq_true rfl) dL_readParts_17

abbrev rmL_amount : Room := { frames := 9, cells := 4, slots := 24, locals := 154 }
set_option maxRecDepth 100000 in
set_option maxHeartbeats 4000000 in
theorem mL_amount {l : Launch} (hl0 : l.stackTraces = false) {E : xE} (hE : E.sh = shX) (ao : Nat) (cL : ClassId) (p1 : Int32) (p2 : Int32) (p3 : Int32) (σ : xSt) (fo : Nat → Int64) (o : xO) (σ1 : xSt) (hf : fX11_amount p1 p2 p3 σ = some (o, σ1)) (hk : ∀ k, o = .inr k → k = 0 ∨ k = 1 ∨ k = 2) : xMw l yL_amount wsL_amount rmL_amount E ao cL [.ref (E.a 0), .int p1, .int p2, .int p3, .ref ao] σ fo (xcd 1 2 3 9 o) σ1 (xou fo o) 4 := by
  refine xMw_of (cc := cL_amount) (maxL := 6) (ret := some .int) (by decide) rfl (Nat.le_of_ble_eq_true rfl) ?_
  intro p e s m args below meth c A ls ⟨hx, hb, hr, hml, hown, hts, hlk⟩ hA hG hN htab hw hl
  have hown : s.vm.findClass RL = some m.cls := hown
  have hl : lv_has ls 6 [(0, .ref (E.a 0)), (1, .int p1), (2, .int p2), (3, .int p3), (4, .ref ao)] := hl
  refine lv_aload hx hb dL_amount_0 (lv_at hl 4 rfl) ?_
  refine lv_iconst (v := 0) hx hb dL_amount_2 (by decide) ?_
  refine lv_aload_n hx hb dL_amount_3 rfl (lv_at hl 0 rfl) ?_
  refine lv_iload_n hx hb dL_amount_4 rfl (lv_at hl 1 rfl) ?_
  refine lv_iload_n hx hb dL_amount_5 rfl (lv_at hl 2 rfl) ?_
  refine lv_iload_n hx hb dL_amount_6 rfl (lv_at hl 3 rfl) ?_
  cases o with
  | inl v =>
    refine x_tcalli (vx_runV (As := [.int p1, .int p2, .int p3]) (rest := [.int 0, .ref ao]) ⟨hx, hb, hml, hown, hts⟩ (mX11_amount hl0 (E := xEO E ao cL fo) hE p1 p2 p3 σ (.inl v) σ1 hf s.heap.size) (cwV 3 hts gL_amount_X11_amount rfl rfl rfl (by decide +kernel) ⟨Nat.le_of_ble_eq_true rfl, Nat.le_of_ble_eq_true rfl⟩) (x_preV _ hw.in hA hG (cX0 hE) rfl) rfl rfl hl.1 rfl (lv_room (Nat.le_of_ble_eq_true rfl)) dL_amount_7 ⟨Nat.le_of_ble_eq_true rfl, Nat.le_of_ble_eq_true rfl⟩) hw.in hA (fun q9 ce H locs h1 h2 h3 hw => by obtain ⟨_, h9, _⟩ := h3; cases h9) (fun r9 H locs h1 hw9 => ?_)
    obtain rfl := Sum.inl.inj h1
    have hw := xwW.of hw.1 hw9
    refine lv_i2l hx hb dL_amount_10 rfl ?_
    refine x_wlast hx hb hw dL_amount_11 (fun H locs hw => ?_)
    refine lv_goto (tgt := 27) hx hb dL_amount_12 (by decide) ?_
    refine lv_iconst (v := 0) hx hb dL_amount_27 (by decide) ?_
    exact x_wiret hx hb hr hlk hw rfl (Nat.le_of_ble_eq_true rfl) (Nat.le_of_ble_eq_true rfl) dL_amount_28
  | inr k =>
    obtain ⟨x1, x2, x3, het, e1, e2, e3⟩ := x_t3 htab
    simp only [Prod.mk.injEq] at e1 e2 e3
    rcases hk k rfl with rfl | rfl | rfl
    · refine x_tcalli (vx_runV (As := [.int p1, .int p2, .int p3]) (rest := [.int 0, .ref ao]) ⟨hx, hb, hml, hown, hts⟩ (mX11_amount hl0 (E := xEO E ao cL fo) hE p1 p2 p3 σ (.inr 0) σ1 hf s.heap.size) (cwV 3 hts gL_amount_X11_amount rfl rfl rfl (by decide +kernel) ⟨Nat.le_of_ble_eq_true rfl, Nat.le_of_ble_eq_true rfl⟩) (x_preV _ hw.in hA hG (cX0 hE) rfl) rfl rfl hl.1 rfl (lv_room (Nat.le_of_ble_eq_true rfl)) dL_amount_7 ⟨Nat.le_of_ble_eq_true rfl, Nat.le_of_ble_eq_true rfl⟩) hw.in hA (fun q9 ce H locs h1 h2 h3 hw9 => ?_) (fun r9 H locs h1 hw9 => nomatch h1)
      have hw := xwW.of hw.1 hw9
      obtain ⟨k9, h9, h3⟩ := h3
      obtain rfl := Sum.inr.inj h9
      refine vx_catch (E := xcls 0) (name := xcls 0) hown [] x1 [x2, x3] (by rw [het]; rfl) (fun z hz => by cases hz) (by rw [covers, e1.1, e1.2.1]; decide) (by rw [e1.2.2.2]; decide) (by rw [e1.2.2.2]; exact hts (.classLink RL 13 "java/lang/IndexOutOfBoundsException") (by decide +kernel)) (va_Nw.use (by decide +kernel) (hG.1 (.castable "java/lang/IndexOutOfBoundsException" "java/lang/IndexOutOfBoundsException") (by decide +kernel))) h1 h2 h3 ?_
      rw [e1.2.2.1]
      refine lv_astore (lv' := [(5, .ref q9), (0, .ref (E.a 0)), (1, .int p1), (2, .int p2), (3, .int p3), (4, .ref ao)]) hx hb dL_amount_15 hl (by decide) rfl (fun ls hl => ?_)
      refine lv_iconst (v := 1) hx hb dL_amount_17 (by decide) ?_
      exact x_wiret hx hb hr hlk hw rfl (Nat.le_of_ble_eq_true rfl) (Nat.le_of_ble_eq_true rfl) dL_amount_18
    · refine x_tcalli (vx_runV (As := [.int p1, .int p2, .int p3]) (rest := [.int 0, .ref ao]) ⟨hx, hb, hml, hown, hts⟩ (mX11_amount hl0 (E := xEO E ao cL fo) hE p1 p2 p3 σ (.inr 1) σ1 hf s.heap.size) (cwV 3 hts gL_amount_X11_amount rfl rfl rfl (by decide +kernel) ⟨Nat.le_of_ble_eq_true rfl, Nat.le_of_ble_eq_true rfl⟩) (x_preV _ hw.in hA hG (cX0 hE) rfl) rfl rfl hl.1 rfl (lv_room (Nat.le_of_ble_eq_true rfl)) dL_amount_7 ⟨Nat.le_of_ble_eq_true rfl, Nat.le_of_ble_eq_true rfl⟩) hw.in hA (fun q9 ce H locs h1 h2 h3 hw9 => ?_) (fun r9 H locs h1 hw9 => nomatch h1)
      have hw := xwW.of hw.1 hw9
      obtain ⟨k9, h9, h3⟩ := h3
      obtain rfl := Sum.inr.inj h9
      refine vx_catch (E := xcls 1) (name := xcls 1) hown [x1] x2 [x3] (by rw [het]; rfl) (fun z hz => by simp only [List.mem_cons, List.not_mem_nil, or_false] at hz; subst hz; exact Or.inr ⟨by rw [e1.2.2.2]; decide, xcls 0, by rw [e1.2.2.2]; exact hts (.classLink RL 13 "java/lang/IndexOutOfBoundsException") (by decide +kernel), hN 1 (by decide) 0 (by decide) (by decide)⟩) (by rw [covers, e2.1, e2.2.1]; decide) (by rw [e2.2.2.2]; decide) (by rw [e2.2.2.2]; exact hts (.classLink RL 15 "java/lang/IllegalArgumentException") (by decide +kernel)) (va_Nw.use (by decide +kernel) (hG.1 (.castable "java/lang/IllegalArgumentException" "java/lang/IllegalArgumentException") (by decide +kernel))) h1 h2 h3 ?_
      rw [e2.2.2.1]
      refine lv_astore (lv' := [(5, .ref q9), (0, .ref (E.a 0)), (1, .int p1), (2, .int p2), (3, .int p3), (4, .ref ao)]) hx hb dL_amount_19 hl (by decide) rfl (fun ls hl => ?_)
      refine lv_iconst (v := 2) hx hb dL_amount_21 (by decide) ?_
      exact x_wiret hx hb hr hlk hw rfl (Nat.le_of_ble_eq_true rfl) (Nat.le_of_ble_eq_true rfl) dL_amount_22
    · refine x_tcalli (vx_runV (As := [.int p1, .int p2, .int p3]) (rest := [.int 0, .ref ao]) ⟨hx, hb, hml, hown, hts⟩ (mX11_amount hl0 (E := xEO E ao cL fo) hE p1 p2 p3 σ (.inr 2) σ1 hf s.heap.size) (cwV 3 hts gL_amount_X11_amount rfl rfl rfl (by decide +kernel) ⟨Nat.le_of_ble_eq_true rfl, Nat.le_of_ble_eq_true rfl⟩) (x_preV _ hw.in hA hG (cX0 hE) rfl) rfl rfl hl.1 rfl (lv_room (Nat.le_of_ble_eq_true rfl)) dL_amount_7 ⟨Nat.le_of_ble_eq_true rfl, Nat.le_of_ble_eq_true rfl⟩) hw.in hA (fun q9 ce H locs h1 h2 h3 hw9 => ?_) (fun r9 H locs h1 hw9 => nomatch h1)
      have hw := xwW.of hw.1 hw9
      obtain ⟨k9, h9, h3⟩ := h3
      obtain rfl := Sum.inr.inj h9
      refine vx_catch (E := xcls 2) (name := xcls 2) hown [x1, x2] x3 [] (by rw [het]; rfl) (fun z hz => by simp only [List.mem_cons, List.not_mem_nil, or_false] at hz; rcases hz with rfl | rfl; exact Or.inr ⟨by rw [e1.2.2.2]; decide, xcls 0, by rw [e1.2.2.2]; exact hts (.classLink RL 13 "java/lang/IndexOutOfBoundsException") (by decide +kernel), hN 2 (by decide) 0 (by decide) (by decide)⟩; exact Or.inr ⟨by rw [e2.2.2.2]; decide, xcls 1, by rw [e2.2.2.2]; exact hts (.classLink RL 15 "java/lang/IllegalArgumentException") (by decide +kernel), hN 2 (by decide) 1 (by decide) (by decide)⟩) (by rw [covers, e3.1, e3.2.1]; decide) (by rw [e3.2.2.2]; decide) (by rw [e3.2.2.2]; exact hts (.classLink RL 17 "java/lang/IllegalStateException") (by decide +kernel)) (va_Nw.use (by decide +kernel) (hG.1 (.castable "java/lang/IllegalStateException" "java/lang/IllegalStateException") (by decide +kernel))) h1 h2 h3 ?_
      rw [e3.2.2.1]
      refine lv_astore (lv' := [(5, .ref q9), (0, .ref (E.a 0)), (1, .int p1), (2, .int p2), (3, .int p3), (4, .ref ao)]) hx hb dL_amount_23 hl (by decide) rfl (fun ls hl => ?_)
      refine lv_iconst (v := 3) hx hb dL_amount_25 (by decide) ?_
      exact x_wiret hx hb hr hlk hw rfl (Nat.le_of_ble_eq_true rfl) (Nat.le_of_ble_eq_true rfl) dL_amount_26

abbrev rmL_mix : Room := { frames := 9, cells := 3, slots := 18, locals := 163 }
set_option maxRecDepth 100000 in
set_option maxHeartbeats 4000000 in
theorem mL_mix {l : Launch} (hl0 : l.stackTraces = false) {E : xE} (hE : E.sh = shX) (ao : Nat) (cL : ClassId) (p1 : Int32) (p2 : Int32) (σ : xSt) (fo : Nat → Int64) (o : xO) (σ1 : xSt) (hf : fX11_mix p1 p2 σ = some (o, σ1)) (hk : ∀ k, o = .inr k → k = 0 ∨ k = 1 ∨ k = 2) : xMw l yL_mix wsL_mix rmL_mix E ao cL [.ref (E.a 0), .int p1, .int p2, .ref ao] σ fo (xcd 1 2 3 9 o) σ1 (xou fo o) 3 := by
  refine xMw_of (cc := cL_mix) (maxL := 5) (ret := some .int) (by decide) rfl (Nat.le_of_ble_eq_true rfl) ?_
  intro p e s m args below meth c A ls ⟨hx, hb, hr, hml, hown, hts, hlk⟩ hA hG hN htab hw hl
  have hown : s.vm.findClass RL = some m.cls := hown
  have hl : lv_has ls 5 [(0, .ref (E.a 0)), (1, .int p1), (2, .int p2), (3, .ref ao)] := hl
  refine lv_aload_n hx hb dL_mix_0 rfl (lv_at hl 3 rfl) ?_
  refine lv_iconst (v := 0) hx hb dL_mix_1 (by decide) ?_
  refine lv_aload_n hx hb dL_mix_2 rfl (lv_at hl 0 rfl) ?_
  refine lv_iload_n hx hb dL_mix_3 rfl (lv_at hl 1 rfl) ?_
  refine lv_iload_n hx hb dL_mix_4 rfl (lv_at hl 2 rfl) ?_
  cases o with
  | inl v =>
    refine x_tcalli (vx_runV (As := [.int p1, .int p2]) (rest := [.int 0, .ref ao]) ⟨hx, hb, hml, hown, hts⟩ (mX11_mix hl0 (E := xEO E ao cL fo) hE p1 p2 σ (.inl v) σ1 hf s.heap.size) (cwV 2 hts gL_mix_X11_mix rfl rfl rfl (by decide +kernel) ⟨Nat.le_of_ble_eq_true rfl, Nat.le_of_ble_eq_true rfl⟩) (x_preV _ hw.in hA hG (cX0 hE) rfl) rfl rfl hl.1 rfl (lv_room (Nat.le_of_ble_eq_true rfl)) dL_mix_5 ⟨Nat.le_of_ble_eq_true rfl, Nat.le_of_ble_eq_true rfl⟩) hw.in hA (fun q9 ce H locs h1 h2 h3 hw => by obtain ⟨_, h9, _⟩ := h3; cases h9) (fun r9 H locs h1 hw9 => ?_)
    obtain rfl := Sum.inl.inj h1
    have hw := xwW.of hw.1 hw9
    refine lv_i2l hx hb dL_mix_8 rfl ?_
    refine x_wlast hx hb hw dL_mix_9 (fun H locs hw => ?_)
    refine lv_goto (tgt := 25) hx hb dL_mix_10 (by decide) ?_
    refine lv_iconst (v := 0) hx hb dL_mix_25 (by decide) ?_
    exact x_wiret hx hb hr hlk hw rfl (Nat.le_of_ble_eq_true rfl) (Nat.le_of_ble_eq_true rfl) dL_mix_26
  | inr k =>
    obtain ⟨x1, x2, x3, het, e1, e2, e3⟩ := x_t3 htab
    simp only [Prod.mk.injEq] at e1 e2 e3
    rcases hk k rfl with rfl | rfl | rfl
    · refine x_tcalli (vx_runV (As := [.int p1, .int p2]) (rest := [.int 0, .ref ao]) ⟨hx, hb, hml, hown, hts⟩ (mX11_mix hl0 (E := xEO E ao cL fo) hE p1 p2 σ (.inr 0) σ1 hf s.heap.size) (cwV 2 hts gL_mix_X11_mix rfl rfl rfl (by decide +kernel) ⟨Nat.le_of_ble_eq_true rfl, Nat.le_of_ble_eq_true rfl⟩) (x_preV _ hw.in hA hG (cX0 hE) rfl) rfl rfl hl.1 rfl (lv_room (Nat.le_of_ble_eq_true rfl)) dL_mix_5 ⟨Nat.le_of_ble_eq_true rfl, Nat.le_of_ble_eq_true rfl⟩) hw.in hA (fun q9 ce H locs h1 h2 h3 hw9 => ?_) (fun r9 H locs h1 hw9 => nomatch h1)
      have hw := xwW.of hw.1 hw9
      obtain ⟨k9, h9, h3⟩ := h3
      obtain rfl := Sum.inr.inj h9
      refine vx_catch (E := xcls 0) (name := xcls 0) hown [] x1 [x2, x3] (by rw [het]; rfl) (fun z hz => by cases hz) (by rw [covers, e1.1, e1.2.1]; decide) (by rw [e1.2.2.2]; decide) (by rw [e1.2.2.2]; exact hts (.classLink RL 13 "java/lang/IndexOutOfBoundsException") (by decide +kernel)) (va_Nw.use (by decide +kernel) (hG.1 (.castable "java/lang/IndexOutOfBoundsException" "java/lang/IndexOutOfBoundsException") (by decide +kernel))) h1 h2 h3 ?_
      rw [e1.2.2.1]
      refine lv_astore (lv' := [(4, .ref q9), (0, .ref (E.a 0)), (1, .int p1), (2, .int p2), (3, .ref ao)]) hx hb dL_mix_13 hl (by decide) rfl (fun ls hl => ?_)
      refine lv_iconst (v := 1) hx hb dL_mix_15 (by decide) ?_
      exact x_wiret hx hb hr hlk hw rfl (Nat.le_of_ble_eq_true rfl) (Nat.le_of_ble_eq_true rfl) dL_mix_16
    · refine x_tcalli (vx_runV (As := [.int p1, .int p2]) (rest := [.int 0, .ref ao]) ⟨hx, hb, hml, hown, hts⟩ (mX11_mix hl0 (E := xEO E ao cL fo) hE p1 p2 σ (.inr 1) σ1 hf s.heap.size) (cwV 2 hts gL_mix_X11_mix rfl rfl rfl (by decide +kernel) ⟨Nat.le_of_ble_eq_true rfl, Nat.le_of_ble_eq_true rfl⟩) (x_preV _ hw.in hA hG (cX0 hE) rfl) rfl rfl hl.1 rfl (lv_room (Nat.le_of_ble_eq_true rfl)) dL_mix_5 ⟨Nat.le_of_ble_eq_true rfl, Nat.le_of_ble_eq_true rfl⟩) hw.in hA (fun q9 ce H locs h1 h2 h3 hw9 => ?_) (fun r9 H locs h1 hw9 => nomatch h1)
      have hw := xwW.of hw.1 hw9
      obtain ⟨k9, h9, h3⟩ := h3
      obtain rfl := Sum.inr.inj h9
      refine vx_catch (E := xcls 1) (name := xcls 1) hown [x1] x2 [x3] (by rw [het]; rfl) (fun z hz => by simp only [List.mem_cons, List.not_mem_nil, or_false] at hz; subst hz; exact Or.inr ⟨by rw [e1.2.2.2]; decide, xcls 0, by rw [e1.2.2.2]; exact hts (.classLink RL 13 "java/lang/IndexOutOfBoundsException") (by decide +kernel), hN 1 (by decide) 0 (by decide) (by decide)⟩) (by rw [covers, e2.1, e2.2.1]; decide) (by rw [e2.2.2.2]; decide) (by rw [e2.2.2.2]; exact hts (.classLink RL 15 "java/lang/IllegalArgumentException") (by decide +kernel)) (va_Nw.use (by decide +kernel) (hG.1 (.castable "java/lang/IllegalArgumentException" "java/lang/IllegalArgumentException") (by decide +kernel))) h1 h2 h3 ?_
      rw [e2.2.2.1]
      refine lv_astore (lv' := [(4, .ref q9), (0, .ref (E.a 0)), (1, .int p1), (2, .int p2), (3, .ref ao)]) hx hb dL_mix_17 hl (by decide) rfl (fun ls hl => ?_)
      refine lv_iconst (v := 2) hx hb dL_mix_19 (by decide) ?_
      exact x_wiret hx hb hr hlk hw rfl (Nat.le_of_ble_eq_true rfl) (Nat.le_of_ble_eq_true rfl) dL_mix_20
    · refine x_tcalli (vx_runV (As := [.int p1, .int p2]) (rest := [.int 0, .ref ao]) ⟨hx, hb, hml, hown, hts⟩ (mX11_mix hl0 (E := xEO E ao cL fo) hE p1 p2 σ (.inr 2) σ1 hf s.heap.size) (cwV 2 hts gL_mix_X11_mix rfl rfl rfl (by decide +kernel) ⟨Nat.le_of_ble_eq_true rfl, Nat.le_of_ble_eq_true rfl⟩) (x_preV _ hw.in hA hG (cX0 hE) rfl) rfl rfl hl.1 rfl (lv_room (Nat.le_of_ble_eq_true rfl)) dL_mix_5 ⟨Nat.le_of_ble_eq_true rfl, Nat.le_of_ble_eq_true rfl⟩) hw.in hA (fun q9 ce H locs h1 h2 h3 hw9 => ?_) (fun r9 H locs h1 hw9 => nomatch h1)
      have hw := xwW.of hw.1 hw9
      obtain ⟨k9, h9, h3⟩ := h3
      obtain rfl := Sum.inr.inj h9
      refine vx_catch (E := xcls 2) (name := xcls 2) hown [x1, x2] x3 [] (by rw [het]; rfl) (fun z hz => by simp only [List.mem_cons, List.not_mem_nil, or_false] at hz; rcases hz with rfl | rfl; exact Or.inr ⟨by rw [e1.2.2.2]; decide, xcls 0, by rw [e1.2.2.2]; exact hts (.classLink RL 13 "java/lang/IndexOutOfBoundsException") (by decide +kernel), hN 2 (by decide) 0 (by decide) (by decide)⟩; exact Or.inr ⟨by rw [e2.2.2.2]; decide, xcls 1, by rw [e2.2.2.2]; exact hts (.classLink RL 15 "java/lang/IllegalArgumentException") (by decide +kernel), hN 2 (by decide) 1 (by decide) (by decide)⟩) (by rw [covers, e3.1, e3.2.1]; decide) (by rw [e3.2.2.2]; decide) (by rw [e3.2.2.2]; exact hts (.classLink RL 17 "java/lang/IllegalStateException") (by decide +kernel)) (va_Nw.use (by decide +kernel) (hG.1 (.castable "java/lang/IllegalStateException" "java/lang/IllegalStateException") (by decide +kernel))) h1 h2 h3 ?_
      rw [e3.2.2.1]
      refine lv_astore (lv' := [(4, .ref q9), (0, .ref (E.a 0)), (1, .int p1), (2, .int p2), (3, .ref ao)]) hx hb dL_mix_21 hl (by decide) rfl (fun ls hl => ?_)
      refine lv_iconst (v := 3) hx hb dL_mix_23 (by decide) ?_
      exact x_wiret hx hb hr hlk hw rfl (Nat.le_of_ble_eq_true rfl) (Nat.le_of_ble_eq_true rfl) dL_mix_24

abbrev rmL_setWarmth : Room := { frames := 8, cells := 1, slots := 6, locals := 161 }
set_option maxRecDepth 100000 in
set_option maxHeartbeats 4000000 in
theorem mL_setWarmth {l : Launch} (hl0 : l.stackTraces = false) {E : xE} (hE : E.sh = shX) (ao : Nat) (cL : ClassId) (p1 : Int32) (σ : xSt) (fo : Nat → Int64) (o : xO) (σ1 : xSt) (hf : fX11_setWarmth p1 σ = some (o, σ1)) (hk : ∀ k, o = .inr k → k = 1) : xMw l yL_setWarmth wsL_setWarmth rmL_setWarmth E ao cL [.ref (E.a 0), .int p1, .ref ao] σ fo (xcd 9 1 9 9 o) σ1 (xou fo o) 1 := by
  refine xMw_of (cc := cL_setWarmth) (maxL := 4) (ret := some .int) (by decide) rfl (Nat.le_of_ble_eq_true rfl) ?_
  intro p e s m args below meth c A ls ⟨hx, hb, hr, hml, hown, hts, hlk⟩ hA hG hN htab hw hl
  have hown : s.vm.findClass RL = some m.cls := hown
  have hl : lv_has ls 4 [(0, .ref (E.a 0)), (1, .int p1), (2, .ref ao)] := hl
  refine lv_aload_n hx hb dL_setWarmth_0 rfl (lv_at hl 2 rfl) ?_
  refine lv_iconst (v := 0) hx hb dL_setWarmth_1 (by decide) ?_
  refine lv_aload_n hx hb dL_setWarmth_2 rfl (lv_at hl 0 rfl) ?_
  refine lv_iload_n hx hb dL_setWarmth_3 rfl (lv_at hl 1 rfl) ?_
  cases o with
  | inl v =>
    refine x_tcalli (vx_runV (As := [.int p1]) (rest := [.int 0, .ref ao]) ⟨hx, hb, hml, hown, hts⟩ (mX11_setWarmth hl0 (E := xEO E ao cL fo) hE p1 σ (.inl v) σ1 hf s.heap.size) (cwV 1 hts gL_setWarmth_X11_setWarmth rfl rfl rfl (by decide +kernel) ⟨Nat.le_of_ble_eq_true rfl, Nat.le_of_ble_eq_true rfl⟩) (x_preV _ hw.in hA hG (cX0 hE) rfl) rfl rfl hl.1 rfl (lv_room (Nat.le_of_ble_eq_true rfl)) dL_setWarmth_4 ⟨Nat.le_of_ble_eq_true rfl, Nat.le_of_ble_eq_true rfl⟩) hw.in hA (fun q9 ce H locs h1 h2 h3 hw => by obtain ⟨_, h9, _⟩ := h3; cases h9) (fun r9 H locs h1 hw9 => ?_)
    obtain rfl := Sum.inl.inj h1
    have hw := xwW.of hw.1 hw9
    refine lv_i2l hx hb dL_setWarmth_7 rfl ?_
    refine x_wlast hx hb hw dL_setWarmth_8 (fun H locs hw => ?_)
    refine lv_goto (tgt := 15) hx hb dL_setWarmth_9 (by decide) ?_
    refine lv_iconst (v := 0) hx hb dL_setWarmth_15 (by decide) ?_
    exact x_wiret hx hb hr hlk hw rfl (Nat.le_of_ble_eq_true rfl) (Nat.le_of_ble_eq_true rfl) dL_setWarmth_16
  | inr k =>
    obtain ⟨x1, het, e1⟩ := x_t1 htab
    simp only [Prod.mk.injEq] at e1
    rcases hk k rfl with rfl
    · refine x_tcalli (vx_runV (As := [.int p1]) (rest := [.int 0, .ref ao]) ⟨hx, hb, hml, hown, hts⟩ (mX11_setWarmth hl0 (E := xEO E ao cL fo) hE p1 σ (.inr 1) σ1 hf s.heap.size) (cwV 1 hts gL_setWarmth_X11_setWarmth rfl rfl rfl (by decide +kernel) ⟨Nat.le_of_ble_eq_true rfl, Nat.le_of_ble_eq_true rfl⟩) (x_preV _ hw.in hA hG (cX0 hE) rfl) rfl rfl hl.1 rfl (lv_room (Nat.le_of_ble_eq_true rfl)) dL_setWarmth_4 ⟨Nat.le_of_ble_eq_true rfl, Nat.le_of_ble_eq_true rfl⟩) hw.in hA (fun q9 ce H locs h1 h2 h3 hw9 => ?_) (fun r9 H locs h1 hw9 => nomatch h1)
      have hw := xwW.of hw.1 hw9
      obtain ⟨k9, h9, h3⟩ := h3
      obtain rfl := Sum.inr.inj h9
      refine vx_catch (E := xcls 1) (name := xcls 1) hown [] x1 [] (by rw [het]; rfl) (fun z hz => by cases hz) (by rw [covers, e1.1, e1.2.1]; decide) (by rw [e1.2.2.2]; decide) (by rw [e1.2.2.2]; exact hts (.classLink RL 15 "java/lang/IllegalArgumentException") (by decide +kernel)) (va_Nw.use (by decide +kernel) (hG.1 (.castable "java/lang/IllegalArgumentException" "java/lang/IllegalArgumentException") (by decide +kernel))) h1 h2 h3 ?_
      rw [e1.2.2.1]
      refine lv_astore_n (lv' := [(3, .ref q9), (0, .ref (E.a 0)), (1, .int p1), (2, .ref ao)]) hx hb dL_setWarmth_12 rfl hl (by decide) rfl (fun ls hl => ?_)
      refine lv_iconst (v := 1) hx hb dL_setWarmth_13 (by decide) ?_
      exact x_wiret hx hb hr hlk hw rfl (Nat.le_of_ble_eq_true rfl) (Nat.le_of_ble_eq_true rfl) dL_setWarmth_14

abbrev rmL_pass : Room := { frames := 8, cells := 2, slots := 12, locals := 160 }
set_option maxRecDepth 100000 in
set_option maxHeartbeats 4000000 in
theorem mL_pass {l : Launch} (hl0 : l.stackTraces = false) {E : xE} (hE : E.sh = shX) (ao : Nat) (cL : ClassId) (p1 : Int32) (σ : xSt) (fo : Nat → Int64) (o : xO) (σ1 : xSt) (hf : fX11_pass p1 σ = some (o, σ1)) (hk : ∀ k, o = .inr k → k = 1 ∨ k = 2) : xMw l yL_pass wsL_pass rmL_pass E ao cL [.ref (E.a 0), .int p1, .ref ao] σ fo (xcd 9 1 2 9 o) σ1 (xou fo o) 2 := by
  refine xMw_of (cc := cL_pass) (maxL := 4) (ret := some .int) (by decide) rfl (Nat.le_of_ble_eq_true rfl) ?_
  intro p e s m args below meth c A ls ⟨hx, hb, hr, hml, hown, hts, hlk⟩ hA hG hN htab hw hl
  have hown : s.vm.findClass RL = some m.cls := hown
  have hl : lv_has ls 4 [(0, .ref (E.a 0)), (1, .int p1), (2, .ref ao)] := hl
  refine lv_aload_n hx hb dL_pass_0 rfl (lv_at hl 2 rfl) ?_
  refine lv_iconst (v := 0) hx hb dL_pass_1 (by decide) ?_
  refine lv_aload_n hx hb dL_pass_2 rfl (lv_at hl 0 rfl) ?_
  refine lv_iload_n hx hb dL_pass_3 rfl (lv_at hl 1 rfl) ?_
  cases o with
  | inl v =>
    refine x_tcalli (vx_runV (As := [.int p1]) (rest := [.int 0, .ref ao]) ⟨hx, hb, hml, hown, hts⟩ (mX11_pass hl0 (E := xEO E ao cL fo) hE p1 σ (.inl v) σ1 hf s.heap.size) (cwV 1 hts gL_pass_X11_pass rfl rfl rfl (by decide +kernel) ⟨Nat.le_of_ble_eq_true rfl, Nat.le_of_ble_eq_true rfl⟩) (x_preV _ hw.in hA hG (cX0 hE) rfl) rfl rfl hl.1 rfl (lv_room (Nat.le_of_ble_eq_true rfl)) dL_pass_4 ⟨Nat.le_of_ble_eq_true rfl, Nat.le_of_ble_eq_true rfl⟩) hw.in hA (fun q9 ce H locs h1 h2 h3 hw => by obtain ⟨_, h9, _⟩ := h3; cases h9) (fun r9 H locs h1 hw9 => ?_)
    obtain rfl := Sum.inl.inj h1
    have hw := xwW.of hw.1 hw9
    refine lv_i2l hx hb dL_pass_7 rfl ?_
    refine x_wlast hx hb hw dL_pass_8 (fun H locs hw => ?_)
    refine lv_goto (tgt := 18) hx hb dL_pass_9 (by decide) ?_
    refine lv_iconst (v := 0) hx hb dL_pass_18 (by decide) ?_
    exact x_wiret hx hb hr hlk hw rfl (Nat.le_of_ble_eq_true rfl) (Nat.le_of_ble_eq_true rfl) dL_pass_19
  | inr k =>
    obtain ⟨x1, x2, het, e1, e2⟩ := x_t2 htab
    simp only [Prod.mk.injEq] at e1 e2
    rcases hk k rfl with rfl | rfl
    · refine x_tcalli (vx_runV (As := [.int p1]) (rest := [.int 0, .ref ao]) ⟨hx, hb, hml, hown, hts⟩ (mX11_pass hl0 (E := xEO E ao cL fo) hE p1 σ (.inr 1) σ1 hf s.heap.size) (cwV 1 hts gL_pass_X11_pass rfl rfl rfl (by decide +kernel) ⟨Nat.le_of_ble_eq_true rfl, Nat.le_of_ble_eq_true rfl⟩) (x_preV _ hw.in hA hG (cX0 hE) rfl) rfl rfl hl.1 rfl (lv_room (Nat.le_of_ble_eq_true rfl)) dL_pass_4 ⟨Nat.le_of_ble_eq_true rfl, Nat.le_of_ble_eq_true rfl⟩) hw.in hA (fun q9 ce H locs h1 h2 h3 hw9 => ?_) (fun r9 H locs h1 hw9 => nomatch h1)
      have hw := xwW.of hw.1 hw9
      obtain ⟨k9, h9, h3⟩ := h3
      obtain rfl := Sum.inr.inj h9
      refine vx_catch (E := xcls 1) (name := xcls 1) hown [] x1 [x2] (by rw [het]; rfl) (fun z hz => by cases hz) (by rw [covers, e1.1, e1.2.1]; decide) (by rw [e1.2.2.2]; decide) (by rw [e1.2.2.2]; exact hts (.classLink RL 15 "java/lang/IllegalArgumentException") (by decide +kernel)) (va_Nw.use (by decide +kernel) (hG.1 (.castable "java/lang/IllegalArgumentException" "java/lang/IllegalArgumentException") (by decide +kernel))) h1 h2 h3 ?_
      rw [e1.2.2.1]
      refine lv_astore_n (lv' := [(3, .ref q9), (0, .ref (E.a 0)), (1, .int p1), (2, .ref ao)]) hx hb dL_pass_12 rfl hl (by decide) rfl (fun ls hl => ?_)
      refine lv_iconst (v := 1) hx hb dL_pass_13 (by decide) ?_
      exact x_wiret hx hb hr hlk hw rfl (Nat.le_of_ble_eq_true rfl) (Nat.le_of_ble_eq_true rfl) dL_pass_14
    · refine x_tcalli (vx_runV (As := [.int p1]) (rest := [.int 0, .ref ao]) ⟨hx, hb, hml, hown, hts⟩ (mX11_pass hl0 (E := xEO E ao cL fo) hE p1 σ (.inr 2) σ1 hf s.heap.size) (cwV 1 hts gL_pass_X11_pass rfl rfl rfl (by decide +kernel) ⟨Nat.le_of_ble_eq_true rfl, Nat.le_of_ble_eq_true rfl⟩) (x_preV _ hw.in hA hG (cX0 hE) rfl) rfl rfl hl.1 rfl (lv_room (Nat.le_of_ble_eq_true rfl)) dL_pass_4 ⟨Nat.le_of_ble_eq_true rfl, Nat.le_of_ble_eq_true rfl⟩) hw.in hA (fun q9 ce H locs h1 h2 h3 hw9 => ?_) (fun r9 H locs h1 hw9 => nomatch h1)
      have hw := xwW.of hw.1 hw9
      obtain ⟨k9, h9, h3⟩ := h3
      obtain rfl := Sum.inr.inj h9
      refine vx_catch (E := xcls 2) (name := xcls 2) hown [x1] x2 [] (by rw [het]; rfl) (fun z hz => by simp only [List.mem_cons, List.not_mem_nil, or_false] at hz; subst hz; exact Or.inr ⟨by rw [e1.2.2.2]; decide, xcls 1, by rw [e1.2.2.2]; exact hts (.classLink RL 15 "java/lang/IllegalArgumentException") (by decide +kernel), hN 2 (by decide) 1 (by decide) (by decide)⟩) (by rw [covers, e2.1, e2.2.1]; decide) (by rw [e2.2.2.2]; decide) (by rw [e2.2.2.2]; exact hts (.classLink RL 17 "java/lang/IllegalStateException") (by decide +kernel)) (va_Nw.use (by decide +kernel) (hG.1 (.castable "java/lang/IllegalStateException" "java/lang/IllegalStateException") (by decide +kernel))) h1 h2 h3 ?_
      rw [e2.2.2.1]
      refine lv_astore_n (lv' := [(3, .ref q9), (0, .ref (E.a 0)), (1, .int p1), (2, .ref ao)]) hx hb dL_pass_15 rfl hl (by decide) rfl (fun ls hl => ?_)
      refine lv_iconst (v := 2) hx hb dL_pass_16 (by decide) ?_
      exact x_wiret hx hb hr hlk hw rfl (Nat.le_of_ble_eq_true rfl) (Nat.le_of_ble_eq_true rfl) dL_pass_17

abbrev rmL_shape : Room := { frames := 9, cells := 2, slots := 12, locals := 160 }
set_option maxRecDepth 100000 in
set_option maxHeartbeats 4000000 in
theorem mL_shape {l : Launch} (hl0 : l.stackTraces = false) {E : xE} (hE : E.sh = shX) (ao : Nat) (cL : ClassId) (p1 : Int32) (σ : xSt) (fo : Nat → Int64) (o : xO) (σ1 : xSt) (hf : fX11_shape p1 σ = some (o, σ1)) (hk : ∀ k, o = .inr k → k = 0 ∨ k = 2) : xMw l yL_shape wsL_shape rmL_shape E ao cL [.ref (E.a 0), .int p1, .ref ao] σ fo (xcd 1 9 2 9 o) σ1 (xou fo o) 2 := by
  refine xMw_of (cc := cL_shape) (maxL := 4) (ret := some .int) (by decide) rfl (Nat.le_of_ble_eq_true rfl) ?_
  intro p e s m args below meth c A ls ⟨hx, hb, hr, hml, hown, hts, hlk⟩ hA hG hN htab hw hl
  have hown : s.vm.findClass RL = some m.cls := hown
  have hl : lv_has ls 4 [(0, .ref (E.a 0)), (1, .int p1), (2, .ref ao)] := hl
  refine lv_aload_n hx hb dL_shape_0 rfl (lv_at hl 2 rfl) ?_
  refine lv_iconst (v := 0) hx hb dL_shape_1 (by decide) ?_
  refine lv_aload_n hx hb dL_shape_2 rfl (lv_at hl 0 rfl) ?_
  refine lv_iload_n hx hb dL_shape_3 rfl (lv_at hl 1 rfl) ?_
  cases o with
  | inl v =>
    refine x_tcalli (vx_runV (As := [.int p1]) (rest := [.int 0, .ref ao]) ⟨hx, hb, hml, hown, hts⟩ (mX11_shape hl0 (E := xEO E ao cL fo) hE p1 σ (.inl v) σ1 hf s.heap.size) (cwV 1 hts gL_shape_X11_shape rfl rfl rfl (by decide +kernel) ⟨Nat.le_of_ble_eq_true rfl, Nat.le_of_ble_eq_true rfl⟩) (x_preV _ hw.in hA hG (cX0 hE) rfl) rfl rfl hl.1 rfl (lv_room (Nat.le_of_ble_eq_true rfl)) dL_shape_4 ⟨Nat.le_of_ble_eq_true rfl, Nat.le_of_ble_eq_true rfl⟩) hw.in hA (fun q9 ce H locs h1 h2 h3 hw => by obtain ⟨_, h9, _⟩ := h3; cases h9) (fun r9 H locs h1 hw9 => ?_)
    obtain rfl := Sum.inl.inj h1
    have hw := xwW.of hw.1 hw9
    refine lv_i2l hx hb dL_shape_7 rfl ?_
    refine x_wlast hx hb hw dL_shape_8 (fun H locs hw => ?_)
    refine lv_goto (tgt := 18) hx hb dL_shape_9 (by decide) ?_
    refine lv_iconst (v := 0) hx hb dL_shape_18 (by decide) ?_
    exact x_wiret hx hb hr hlk hw rfl (Nat.le_of_ble_eq_true rfl) (Nat.le_of_ble_eq_true rfl) dL_shape_19
  | inr k =>
    obtain ⟨x1, x2, het, e1, e2⟩ := x_t2 htab
    simp only [Prod.mk.injEq] at e1 e2
    rcases hk k rfl with rfl | rfl
    · refine x_tcalli (vx_runV (As := [.int p1]) (rest := [.int 0, .ref ao]) ⟨hx, hb, hml, hown, hts⟩ (mX11_shape hl0 (E := xEO E ao cL fo) hE p1 σ (.inr 0) σ1 hf s.heap.size) (cwV 1 hts gL_shape_X11_shape rfl rfl rfl (by decide +kernel) ⟨Nat.le_of_ble_eq_true rfl, Nat.le_of_ble_eq_true rfl⟩) (x_preV _ hw.in hA hG (cX0 hE) rfl) rfl rfl hl.1 rfl (lv_room (Nat.le_of_ble_eq_true rfl)) dL_shape_4 ⟨Nat.le_of_ble_eq_true rfl, Nat.le_of_ble_eq_true rfl⟩) hw.in hA (fun q9 ce H locs h1 h2 h3 hw9 => ?_) (fun r9 H locs h1 hw9 => nomatch h1)
      have hw := xwW.of hw.1 hw9
      obtain ⟨k9, h9, h3⟩ := h3
      obtain rfl := Sum.inr.inj h9
      refine vx_catch (E := xcls 0) (name := xcls 0) hown [] x1 [x2] (by rw [het]; rfl) (fun z hz => by cases hz) (by rw [covers, e1.1, e1.2.1]; decide) (by rw [e1.2.2.2]; decide) (by rw [e1.2.2.2]; exact hts (.classLink RL 13 "java/lang/IndexOutOfBoundsException") (by decide +kernel)) (va_Nw.use (by decide +kernel) (hG.1 (.castable "java/lang/IndexOutOfBoundsException" "java/lang/IndexOutOfBoundsException") (by decide +kernel))) h1 h2 h3 ?_
      rw [e1.2.2.1]
      refine lv_astore_n (lv' := [(3, .ref q9), (0, .ref (E.a 0)), (1, .int p1), (2, .ref ao)]) hx hb dL_shape_12 rfl hl (by decide) rfl (fun ls hl => ?_)
      refine lv_iconst (v := 1) hx hb dL_shape_13 (by decide) ?_
      exact x_wiret hx hb hr hlk hw rfl (Nat.le_of_ble_eq_true rfl) (Nat.le_of_ble_eq_true rfl) dL_shape_14
    · refine x_tcalli (vx_runV (As := [.int p1]) (rest := [.int 0, .ref ao]) ⟨hx, hb, hml, hown, hts⟩ (mX11_shape hl0 (E := xEO E ao cL fo) hE p1 σ (.inr 2) σ1 hf s.heap.size) (cwV 1 hts gL_shape_X11_shape rfl rfl rfl (by decide +kernel) ⟨Nat.le_of_ble_eq_true rfl, Nat.le_of_ble_eq_true rfl⟩) (x_preV _ hw.in hA hG (cX0 hE) rfl) rfl rfl hl.1 rfl (lv_room (Nat.le_of_ble_eq_true rfl)) dL_shape_4 ⟨Nat.le_of_ble_eq_true rfl, Nat.le_of_ble_eq_true rfl⟩) hw.in hA (fun q9 ce H locs h1 h2 h3 hw9 => ?_) (fun r9 H locs h1 hw9 => nomatch h1)
      have hw := xwW.of hw.1 hw9
      obtain ⟨k9, h9, h3⟩ := h3
      obtain rfl := Sum.inr.inj h9
      refine vx_catch (E := xcls 2) (name := xcls 2) hown [x1] x2 [] (by rw [het]; rfl) (fun z hz => by simp only [List.mem_cons, List.not_mem_nil, or_false] at hz; subst hz; exact Or.inr ⟨by rw [e1.2.2.2]; decide, xcls 0, by rw [e1.2.2.2]; exact hts (.classLink RL 13 "java/lang/IndexOutOfBoundsException") (by decide +kernel), hN 2 (by decide) 0 (by decide) (by decide)⟩) (by rw [covers, e2.1, e2.2.1]; decide) (by rw [e2.2.2.2]; decide) (by rw [e2.2.2.2]; exact hts (.classLink RL 17 "java/lang/IllegalStateException") (by decide +kernel)) (va_Nw.use (by decide +kernel) (hG.1 (.castable "java/lang/IllegalStateException" "java/lang/IllegalStateException") (by decide +kernel))) h1 h2 h3 ?_
      rw [e2.2.2.1]
      refine lv_astore_n (lv' := [(3, .ref q9), (0, .ref (E.a 0)), (1, .int p1), (2, .ref ao)]) hx hb dL_shape_15 rfl hl (by decide) rfl (fun ls hl => ?_)
      refine lv_iconst (v := 2) hx hb dL_shape_16 (by decide) ?_
      exact x_wiret hx hb hr hlk hw rfl (Nat.le_of_ble_eq_true rfl) (Nat.le_of_ble_eq_true rfl) dL_shape_17

abbrev rmL_doughAt : Room := { frames := 9, cells := 2, slots := 12, locals := 153 }
set_option maxRecDepth 100000 in
set_option maxHeartbeats 4000000 in
theorem mL_doughAt {l : Launch} (hl0 : l.stackTraces = false) {E : xE} (hE : E.sh = shX) (ao : Nat) (cL : ClassId) (p1 : Int32) (p2 : Int32) (σ : xSt) (fo : Nat → Int64) (o : xO) (σ1 : xSt) (hf : fX11_doughAt p1 p2 σ = some (o, σ1)) (hk : ∀ k, o = .inr k → k = 0 ∨ k = 1) : xMw l yL_doughAt wsL_doughAt rmL_doughAt E ao cL [.ref (E.a 0), .int p1, .int p2, .ref ao] σ fo (xcd 1 2 9 9 o) σ1 (xou fo o) 2 := by
  refine xMw_of (cc := cL_doughAt) (maxL := 5) (ret := some .int) (by decide) rfl (Nat.le_of_ble_eq_true rfl) ?_
  intro p e s m args below meth c A ls ⟨hx, hb, hr, hml, hown, hts, hlk⟩ hA hG hN htab hw hl
  have hown : s.vm.findClass RL = some m.cls := hown
  have hl : lv_has ls 5 [(0, .ref (E.a 0)), (1, .int p1), (2, .int p2), (3, .ref ao)] := hl
  refine lv_aload_n hx hb dL_doughAt_0 rfl (lv_at hl 3 rfl) ?_
  refine lv_iconst (v := 0) hx hb dL_doughAt_1 (by decide) ?_
  refine lv_aload_n hx hb dL_doughAt_2 rfl (lv_at hl 0 rfl) ?_
  refine lv_iload_n hx hb dL_doughAt_3 rfl (lv_at hl 1 rfl) ?_
  refine lv_iload_n hx hb dL_doughAt_4 rfl (lv_at hl 2 rfl) ?_
  cases o with
  | inl v =>
    refine x_tcalli (vx_runV (As := [.int p1, .int p2]) (rest := [.int 0, .ref ao]) ⟨hx, hb, hml, hown, hts⟩ (mX11_doughAt hl0 (E := xEO E ao cL fo) hE p1 p2 σ (.inl v) σ1 hf s.heap.size) (cwV 2 hts gL_doughAt_X11_doughAt rfl rfl rfl (by decide +kernel) ⟨Nat.le_of_ble_eq_true rfl, Nat.le_of_ble_eq_true rfl⟩) (x_preV _ hw.in hA hG (cX0 hE) rfl) rfl rfl hl.1 rfl (lv_room (Nat.le_of_ble_eq_true rfl)) dL_doughAt_5 ⟨Nat.le_of_ble_eq_true rfl, Nat.le_of_ble_eq_true rfl⟩) hw.in hA (fun q9 ce H locs h1 h2 h3 hw => by obtain ⟨_, h9, _⟩ := h3; cases h9) (fun r9 H locs h1 hw9 => ?_)
    obtain rfl := Sum.inl.inj h1
    have hw := xwW.of hw.1 hw9
    refine lv_i2l hx hb dL_doughAt_8 rfl ?_
    refine x_wlast hx hb hw dL_doughAt_9 (fun H locs hw => ?_)
    refine lv_goto (tgt := 21) hx hb dL_doughAt_10 (by decide) ?_
    refine lv_iconst (v := 0) hx hb dL_doughAt_21 (by decide) ?_
    exact x_wiret hx hb hr hlk hw rfl (Nat.le_of_ble_eq_true rfl) (Nat.le_of_ble_eq_true rfl) dL_doughAt_22
  | inr k =>
    obtain ⟨x1, x2, het, e1, e2⟩ := x_t2 htab
    simp only [Prod.mk.injEq] at e1 e2
    rcases hk k rfl with rfl | rfl
    · refine x_tcalli (vx_runV (As := [.int p1, .int p2]) (rest := [.int 0, .ref ao]) ⟨hx, hb, hml, hown, hts⟩ (mX11_doughAt hl0 (E := xEO E ao cL fo) hE p1 p2 σ (.inr 0) σ1 hf s.heap.size) (cwV 2 hts gL_doughAt_X11_doughAt rfl rfl rfl (by decide +kernel) ⟨Nat.le_of_ble_eq_true rfl, Nat.le_of_ble_eq_true rfl⟩) (x_preV _ hw.in hA hG (cX0 hE) rfl) rfl rfl hl.1 rfl (lv_room (Nat.le_of_ble_eq_true rfl)) dL_doughAt_5 ⟨Nat.le_of_ble_eq_true rfl, Nat.le_of_ble_eq_true rfl⟩) hw.in hA (fun q9 ce H locs h1 h2 h3 hw9 => ?_) (fun r9 H locs h1 hw9 => nomatch h1)
      have hw := xwW.of hw.1 hw9
      obtain ⟨k9, h9, h3⟩ := h3
      obtain rfl := Sum.inr.inj h9
      refine vx_catch (E := xcls 0) (name := xcls 0) hown [] x1 [x2] (by rw [het]; rfl) (fun z hz => by cases hz) (by rw [covers, e1.1, e1.2.1]; decide) (by rw [e1.2.2.2]; decide) (by rw [e1.2.2.2]; exact hts (.classLink RL 13 "java/lang/IndexOutOfBoundsException") (by decide +kernel)) (va_Nw.use (by decide +kernel) (hG.1 (.castable "java/lang/IndexOutOfBoundsException" "java/lang/IndexOutOfBoundsException") (by decide +kernel))) h1 h2 h3 ?_
      rw [e1.2.2.1]
      refine lv_astore (lv' := [(4, .ref q9), (0, .ref (E.a 0)), (1, .int p1), (2, .int p2), (3, .ref ao)]) hx hb dL_doughAt_13 hl (by decide) rfl (fun ls hl => ?_)
      refine lv_iconst (v := 1) hx hb dL_doughAt_15 (by decide) ?_
      exact x_wiret hx hb hr hlk hw rfl (Nat.le_of_ble_eq_true rfl) (Nat.le_of_ble_eq_true rfl) dL_doughAt_16
    · refine x_tcalli (vx_runV (As := [.int p1, .int p2]) (rest := [.int 0, .ref ao]) ⟨hx, hb, hml, hown, hts⟩ (mX11_doughAt hl0 (E := xEO E ao cL fo) hE p1 p2 σ (.inr 1) σ1 hf s.heap.size) (cwV 2 hts gL_doughAt_X11_doughAt rfl rfl rfl (by decide +kernel) ⟨Nat.le_of_ble_eq_true rfl, Nat.le_of_ble_eq_true rfl⟩) (x_preV _ hw.in hA hG (cX0 hE) rfl) rfl rfl hl.1 rfl (lv_room (Nat.le_of_ble_eq_true rfl)) dL_doughAt_5 ⟨Nat.le_of_ble_eq_true rfl, Nat.le_of_ble_eq_true rfl⟩) hw.in hA (fun q9 ce H locs h1 h2 h3 hw9 => ?_) (fun r9 H locs h1 hw9 => nomatch h1)
      have hw := xwW.of hw.1 hw9
      obtain ⟨k9, h9, h3⟩ := h3
      obtain rfl := Sum.inr.inj h9
      refine vx_catch (E := xcls 1) (name := xcls 1) hown [x1] x2 [] (by rw [het]; rfl) (fun z hz => by simp only [List.mem_cons, List.not_mem_nil, or_false] at hz; subst hz; exact Or.inr ⟨by rw [e1.2.2.2]; decide, xcls 0, by rw [e1.2.2.2]; exact hts (.classLink RL 13 "java/lang/IndexOutOfBoundsException") (by decide +kernel), hN 1 (by decide) 0 (by decide) (by decide)⟩) (by rw [covers, e2.1, e2.2.1]; decide) (by rw [e2.2.2.2]; decide) (by rw [e2.2.2.2]; exact hts (.classLink RL 15 "java/lang/IllegalArgumentException") (by decide +kernel)) (va_Nw.use (by decide +kernel) (hG.1 (.castable "java/lang/IllegalArgumentException" "java/lang/IllegalArgumentException") (by decide +kernel))) h1 h2 h3 ?_
      rw [e2.2.2.1]
      refine lv_astore (lv' := [(4, .ref q9), (0, .ref (E.a 0)), (1, .int p1), (2, .int p2), (3, .ref ao)]) hx hb dL_doughAt_17 hl (by decide) rfl (fun ls hl => ?_)
      refine lv_iconst (v := 2) hx hb dL_doughAt_19 (by decide) ?_
      exact x_wiret hx hb hr hlk hw rfl (Nat.le_of_ble_eq_true rfl) (Nat.le_of_ble_eq_true rfl) dL_doughAt_20

abbrev rmL_throwAway : Room := { frames := 9, cells := 2, slots := 12, locals := 160 }
set_option maxRecDepth 100000 in
set_option maxHeartbeats 4000000 in
theorem mL_throwAway {l : Launch} (hl0 : l.stackTraces = false) {E : xE} (hE : E.sh = shX) (ao : Nat) (cL : ClassId) (p1 : Int32) (σ : xSt) (fo : Nat → Int64) (o : xO) (σ1 : xSt) (hf : fX11_throwAway p1 σ = some (o, σ1)) (hk : ∀ k, o = .inr k → k = 0 ∨ k = 2) : xMw l yL_throwAway wsL_throwAway rmL_throwAway E ao cL [.ref (E.a 0), .int p1, .ref ao] σ fo (xcd 1 9 2 9 o) σ1 (xou fo o) 2 := by
  refine xMw_of (cc := cL_throwAway) (maxL := 4) (ret := some .int) (by decide) rfl (Nat.le_of_ble_eq_true rfl) ?_
  intro p e s m args below meth c A ls ⟨hx, hb, hr, hml, hown, hts, hlk⟩ hA hG hN htab hw hl
  have hown : s.vm.findClass RL = some m.cls := hown
  have hl : lv_has ls 4 [(0, .ref (E.a 0)), (1, .int p1), (2, .ref ao)] := hl
  refine lv_aload_n hx hb dL_throwAway_0 rfl (lv_at hl 2 rfl) ?_
  refine lv_iconst (v := 0) hx hb dL_throwAway_1 (by decide) ?_
  refine lv_aload_n hx hb dL_throwAway_2 rfl (lv_at hl 0 rfl) ?_
  refine lv_iload_n hx hb dL_throwAway_3 rfl (lv_at hl 1 rfl) ?_
  cases o with
  | inl v =>
    refine x_tcalli (vx_runV (As := [.int p1]) (rest := [.int 0, .ref ao]) ⟨hx, hb, hml, hown, hts⟩ (mX11_throwAway hl0 (E := xEO E ao cL fo) hE p1 σ (.inl v) σ1 hf s.heap.size) (cwV 1 hts gL_throwAway_X11_throwAway rfl rfl rfl (by decide +kernel) ⟨Nat.le_of_ble_eq_true rfl, Nat.le_of_ble_eq_true rfl⟩) (x_preV _ hw.in hA hG (cX0 hE) rfl) rfl rfl hl.1 rfl (lv_room (Nat.le_of_ble_eq_true rfl)) dL_throwAway_4 ⟨Nat.le_of_ble_eq_true rfl, Nat.le_of_ble_eq_true rfl⟩) hw.in hA (fun q9 ce H locs h1 h2 h3 hw => by obtain ⟨_, h9, _⟩ := h3; cases h9) (fun r9 H locs h1 hw9 => ?_)
    obtain rfl := Sum.inl.inj h1
    have hw := xwW.of hw.1 hw9
    refine lv_i2l hx hb dL_throwAway_7 rfl ?_
    refine x_wlast hx hb hw dL_throwAway_8 (fun H locs hw => ?_)
    refine lv_goto (tgt := 18) hx hb dL_throwAway_9 (by decide) ?_
    refine lv_iconst (v := 0) hx hb dL_throwAway_18 (by decide) ?_
    exact x_wiret hx hb hr hlk hw rfl (Nat.le_of_ble_eq_true rfl) (Nat.le_of_ble_eq_true rfl) dL_throwAway_19
  | inr k =>
    obtain ⟨x1, x2, het, e1, e2⟩ := x_t2 htab
    simp only [Prod.mk.injEq] at e1 e2
    rcases hk k rfl with rfl | rfl
    · refine x_tcalli (vx_runV (As := [.int p1]) (rest := [.int 0, .ref ao]) ⟨hx, hb, hml, hown, hts⟩ (mX11_throwAway hl0 (E := xEO E ao cL fo) hE p1 σ (.inr 0) σ1 hf s.heap.size) (cwV 1 hts gL_throwAway_X11_throwAway rfl rfl rfl (by decide +kernel) ⟨Nat.le_of_ble_eq_true rfl, Nat.le_of_ble_eq_true rfl⟩) (x_preV _ hw.in hA hG (cX0 hE) rfl) rfl rfl hl.1 rfl (lv_room (Nat.le_of_ble_eq_true rfl)) dL_throwAway_4 ⟨Nat.le_of_ble_eq_true rfl, Nat.le_of_ble_eq_true rfl⟩) hw.in hA (fun q9 ce H locs h1 h2 h3 hw9 => ?_) (fun r9 H locs h1 hw9 => nomatch h1)
      have hw := xwW.of hw.1 hw9
      obtain ⟨k9, h9, h3⟩ := h3
      obtain rfl := Sum.inr.inj h9
      refine vx_catch (E := xcls 0) (name := xcls 0) hown [] x1 [x2] (by rw [het]; rfl) (fun z hz => by cases hz) (by rw [covers, e1.1, e1.2.1]; decide) (by rw [e1.2.2.2]; decide) (by rw [e1.2.2.2]; exact hts (.classLink RL 13 "java/lang/IndexOutOfBoundsException") (by decide +kernel)) (va_Nw.use (by decide +kernel) (hG.1 (.castable "java/lang/IndexOutOfBoundsException" "java/lang/IndexOutOfBoundsException") (by decide +kernel))) h1 h2 h3 ?_
      rw [e1.2.2.1]
      refine lv_astore_n (lv' := [(3, .ref q9), (0, .ref (E.a 0)), (1, .int p1), (2, .ref ao)]) hx hb dL_throwAway_12 rfl hl (by decide) rfl (fun ls hl => ?_)
      refine lv_iconst (v := 1) hx hb dL_throwAway_13 (by decide) ?_
      exact x_wiret hx hb hr hlk hw rfl (Nat.le_of_ble_eq_true rfl) (Nat.le_of_ble_eq_true rfl) dL_throwAway_14
    · refine x_tcalli (vx_runV (As := [.int p1]) (rest := [.int 0, .ref ao]) ⟨hx, hb, hml, hown, hts⟩ (mX11_throwAway hl0 (E := xEO E ao cL fo) hE p1 σ (.inr 2) σ1 hf s.heap.size) (cwV 1 hts gL_throwAway_X11_throwAway rfl rfl rfl (by decide +kernel) ⟨Nat.le_of_ble_eq_true rfl, Nat.le_of_ble_eq_true rfl⟩) (x_preV _ hw.in hA hG (cX0 hE) rfl) rfl rfl hl.1 rfl (lv_room (Nat.le_of_ble_eq_true rfl)) dL_throwAway_4 ⟨Nat.le_of_ble_eq_true rfl, Nat.le_of_ble_eq_true rfl⟩) hw.in hA (fun q9 ce H locs h1 h2 h3 hw9 => ?_) (fun r9 H locs h1 hw9 => nomatch h1)
      have hw := xwW.of hw.1 hw9
      obtain ⟨k9, h9, h3⟩ := h3
      obtain rfl := Sum.inr.inj h9
      refine vx_catch (E := xcls 2) (name := xcls 2) hown [x1] x2 [] (by rw [het]; rfl) (fun z hz => by simp only [List.mem_cons, List.not_mem_nil, or_false] at hz; subst hz; exact Or.inr ⟨by rw [e1.2.2.2]; decide, xcls 0, by rw [e1.2.2.2]; exact hts (.classLink RL 13 "java/lang/IndexOutOfBoundsException") (by decide +kernel), hN 2 (by decide) 0 (by decide) (by decide)⟩) (by rw [covers, e2.1, e2.2.1]; decide) (by rw [e2.2.2.2]; decide) (by rw [e2.2.2.2]; exact hts (.classLink RL 17 "java/lang/IllegalStateException") (by decide +kernel)) (va_Nw.use (by decide +kernel) (hG.1 (.castable "java/lang/IllegalStateException" "java/lang/IllegalStateException") (by decide +kernel))) h1 h2 h3 ?_
      rw [e2.2.2.1]
      refine lv_astore_n (lv' := [(3, .ref q9), (0, .ref (E.a 0)), (1, .int p1), (2, .ref ao)]) hx hb dL_throwAway_15 rfl hl (by decide) rfl (fun ls hl => ?_)
      refine lv_iconst (v := 2) hx hb dL_throwAway_16 (by decide) ?_
      exact x_wiret hx hb hr hlk hw rfl (Nat.le_of_ble_eq_true rfl) (Nat.le_of_ble_eq_true rfl) dL_throwAway_17

abbrev rmL_setHeat : Room := { frames := 8, cells := 1, slots := 6, locals := 160 }
set_option maxRecDepth 100000 in
set_option maxHeartbeats 4000000 in
theorem mL_setHeat {l : Launch} (hl0 : l.stackTraces = false) {E : xE} (hE : E.sh = shX) (ao : Nat) (cL : ClassId) (p1 : Int32) (σ : xSt) (fo : Nat → Int64) (o : xO) (σ1 : xSt) (hf : fX11_setHeat p1 σ = some (o, σ1)) (hk : ∀ k, o = .inr k → k = 1) : xMw l yL_setHeat wsL_setHeat rmL_setHeat E ao cL [.ref (E.a 0), .int p1, .ref ao] σ fo (xcd 9 1 9 9 o) σ1 (xou fo o) 1 := by
  refine xMw_of (cc := cL_setHeat) (maxL := 4) (ret := some .int) (by decide) rfl (Nat.le_of_ble_eq_true rfl) ?_
  intro p e s m args below meth c A ls ⟨hx, hb, hr, hml, hown, hts, hlk⟩ hA hG hN htab hw hl
  have hown : s.vm.findClass RL = some m.cls := hown
  have hl : lv_has ls 4 [(0, .ref (E.a 0)), (1, .int p1), (2, .ref ao)] := hl
  refine lv_aload_n hx hb dL_setHeat_0 rfl (lv_at hl 2 rfl) ?_
  refine lv_iconst (v := 0) hx hb dL_setHeat_1 (by decide) ?_
  refine lv_aload_n hx hb dL_setHeat_2 rfl (lv_at hl 0 rfl) ?_
  refine lv_iload_n hx hb dL_setHeat_3 rfl (lv_at hl 1 rfl) ?_
  cases o with
  | inl v =>
    refine x_tcalli (vx_runV (As := [.int p1]) (rest := [.int 0, .ref ao]) ⟨hx, hb, hml, hown, hts⟩ (mX11_setHeat hl0 (E := xEO E ao cL fo) hE p1 σ (.inl v) σ1 hf s.heap.size) (cwV 1 hts gL_setHeat_X11_setHeat rfl rfl rfl (by decide +kernel) ⟨Nat.le_of_ble_eq_true rfl, Nat.le_of_ble_eq_true rfl⟩) (x_preV _ hw.in hA hG (cX0 hE) rfl) rfl rfl hl.1 rfl (lv_room (Nat.le_of_ble_eq_true rfl)) dL_setHeat_4 ⟨Nat.le_of_ble_eq_true rfl, Nat.le_of_ble_eq_true rfl⟩) hw.in hA (fun q9 ce H locs h1 h2 h3 hw => by obtain ⟨_, h9, _⟩ := h3; cases h9) (fun r9 H locs h1 hw9 => ?_)
    obtain rfl := Sum.inl.inj h1
    have hw := xwW.of hw.1 hw9
    refine lv_i2l hx hb dL_setHeat_7 rfl ?_
    refine x_wlast hx hb hw dL_setHeat_8 (fun H locs hw => ?_)
    refine lv_goto (tgt := 15) hx hb dL_setHeat_9 (by decide) ?_
    refine lv_iconst (v := 0) hx hb dL_setHeat_15 (by decide) ?_
    exact x_wiret hx hb hr hlk hw rfl (Nat.le_of_ble_eq_true rfl) (Nat.le_of_ble_eq_true rfl) dL_setHeat_16
  | inr k =>
    obtain ⟨x1, het, e1⟩ := x_t1 htab
    simp only [Prod.mk.injEq] at e1
    rcases hk k rfl with rfl
    · refine x_tcalli (vx_runV (As := [.int p1]) (rest := [.int 0, .ref ao]) ⟨hx, hb, hml, hown, hts⟩ (mX11_setHeat hl0 (E := xEO E ao cL fo) hE p1 σ (.inr 1) σ1 hf s.heap.size) (cwV 1 hts gL_setHeat_X11_setHeat rfl rfl rfl (by decide +kernel) ⟨Nat.le_of_ble_eq_true rfl, Nat.le_of_ble_eq_true rfl⟩) (x_preV _ hw.in hA hG (cX0 hE) rfl) rfl rfl hl.1 rfl (lv_room (Nat.le_of_ble_eq_true rfl)) dL_setHeat_4 ⟨Nat.le_of_ble_eq_true rfl, Nat.le_of_ble_eq_true rfl⟩) hw.in hA (fun q9 ce H locs h1 h2 h3 hw9 => ?_) (fun r9 H locs h1 hw9 => nomatch h1)
      have hw := xwW.of hw.1 hw9
      obtain ⟨k9, h9, h3⟩ := h3
      obtain rfl := Sum.inr.inj h9
      refine vx_catch (E := xcls 1) (name := xcls 1) hown [] x1 [] (by rw [het]; rfl) (fun z hz => by cases hz) (by rw [covers, e1.1, e1.2.1]; decide) (by rw [e1.2.2.2]; decide) (by rw [e1.2.2.2]; exact hts (.classLink RL 15 "java/lang/IllegalArgumentException") (by decide +kernel)) (va_Nw.use (by decide +kernel) (hG.1 (.castable "java/lang/IllegalArgumentException" "java/lang/IllegalArgumentException") (by decide +kernel))) h1 h2 h3 ?_
      rw [e1.2.2.1]
      refine lv_astore_n (lv' := [(3, .ref q9), (0, .ref (E.a 0)), (1, .int p1), (2, .ref ao)]) hx hb dL_setHeat_12 rfl hl (by decide) rfl (fun ls hl => ?_)
      refine lv_iconst (v := 1) hx hb dL_setHeat_13 (by decide) ?_
      exact x_wiret hx hb hr hlk hw rfl (Nat.le_of_ble_eq_true rfl) (Nat.le_of_ble_eq_true rfl) dL_setHeat_14

abbrev rmL_setDecks : Room := { frames := 8, cells := 1, slots := 6, locals := 161 }
set_option maxRecDepth 100000 in
set_option maxHeartbeats 4000000 in
theorem mL_setDecks {l : Launch} (hl0 : l.stackTraces = false) {E : xE} (hE : E.sh = shX) (ao : Nat) (cL : ClassId) (p1 : Int32) (σ : xSt) (fo : Nat → Int64) (o : xO) (σ1 : xSt) (hf : fX11_setDecks p1 σ = some (o, σ1)) (hk : ∀ k, o = .inr k → k = 1) : xMw l yL_setDecks wsL_setDecks rmL_setDecks E ao cL [.ref (E.a 0), .int p1, .ref ao] σ fo (xcd 9 1 9 9 o) σ1 (xou fo o) 1 := by
  refine xMw_of (cc := cL_setDecks) (maxL := 4) (ret := some .int) (by decide) rfl (Nat.le_of_ble_eq_true rfl) ?_
  intro p e s m args below meth c A ls ⟨hx, hb, hr, hml, hown, hts, hlk⟩ hA hG hN htab hw hl
  have hown : s.vm.findClass RL = some m.cls := hown
  have hl : lv_has ls 4 [(0, .ref (E.a 0)), (1, .int p1), (2, .ref ao)] := hl
  refine lv_aload_n hx hb dL_setDecks_0 rfl (lv_at hl 2 rfl) ?_
  refine lv_iconst (v := 0) hx hb dL_setDecks_1 (by decide) ?_
  refine lv_aload_n hx hb dL_setDecks_2 rfl (lv_at hl 0 rfl) ?_
  refine lv_iload_n hx hb dL_setDecks_3 rfl (lv_at hl 1 rfl) ?_
  cases o with
  | inl v =>
    refine x_tcalli (vx_runV (As := [.int p1]) (rest := [.int 0, .ref ao]) ⟨hx, hb, hml, hown, hts⟩ (mX11_setDecks hl0 (E := xEO E ao cL fo) hE p1 σ (.inl v) σ1 hf s.heap.size) (cwV 1 hts gL_setDecks_X11_setDecks rfl rfl rfl (by decide +kernel) ⟨Nat.le_of_ble_eq_true rfl, Nat.le_of_ble_eq_true rfl⟩) (x_preV _ hw.in hA hG (cX0 hE) rfl) rfl rfl hl.1 rfl (lv_room (Nat.le_of_ble_eq_true rfl)) dL_setDecks_4 ⟨Nat.le_of_ble_eq_true rfl, Nat.le_of_ble_eq_true rfl⟩) hw.in hA (fun q9 ce H locs h1 h2 h3 hw => by obtain ⟨_, h9, _⟩ := h3; cases h9) (fun r9 H locs h1 hw9 => ?_)
    obtain rfl := Sum.inl.inj h1
    have hw := xwW.of hw.1 hw9
    refine lv_i2l hx hb dL_setDecks_7 rfl ?_
    refine x_wlast hx hb hw dL_setDecks_8 (fun H locs hw => ?_)
    refine lv_goto (tgt := 15) hx hb dL_setDecks_9 (by decide) ?_
    refine lv_iconst (v := 0) hx hb dL_setDecks_15 (by decide) ?_
    exact x_wiret hx hb hr hlk hw rfl (Nat.le_of_ble_eq_true rfl) (Nat.le_of_ble_eq_true rfl) dL_setDecks_16
  | inr k =>
    obtain ⟨x1, het, e1⟩ := x_t1 htab
    simp only [Prod.mk.injEq] at e1
    rcases hk k rfl with rfl
    · refine x_tcalli (vx_runV (As := [.int p1]) (rest := [.int 0, .ref ao]) ⟨hx, hb, hml, hown, hts⟩ (mX11_setDecks hl0 (E := xEO E ao cL fo) hE p1 σ (.inr 1) σ1 hf s.heap.size) (cwV 1 hts gL_setDecks_X11_setDecks rfl rfl rfl (by decide +kernel) ⟨Nat.le_of_ble_eq_true rfl, Nat.le_of_ble_eq_true rfl⟩) (x_preV _ hw.in hA hG (cX0 hE) rfl) rfl rfl hl.1 rfl (lv_room (Nat.le_of_ble_eq_true rfl)) dL_setDecks_4 ⟨Nat.le_of_ble_eq_true rfl, Nat.le_of_ble_eq_true rfl⟩) hw.in hA (fun q9 ce H locs h1 h2 h3 hw9 => ?_) (fun r9 H locs h1 hw9 => nomatch h1)
      have hw := xwW.of hw.1 hw9
      obtain ⟨k9, h9, h3⟩ := h3
      obtain rfl := Sum.inr.inj h9
      refine vx_catch (E := xcls 1) (name := xcls 1) hown [] x1 [] (by rw [het]; rfl) (fun z hz => by cases hz) (by rw [covers, e1.1, e1.2.1]; decide) (by rw [e1.2.2.2]; decide) (by rw [e1.2.2.2]; exact hts (.classLink RL 15 "java/lang/IllegalArgumentException") (by decide +kernel)) (va_Nw.use (by decide +kernel) (hG.1 (.castable "java/lang/IllegalArgumentException" "java/lang/IllegalArgumentException") (by decide +kernel))) h1 h2 h3 ?_
      rw [e1.2.2.1]
      refine lv_astore_n (lv' := [(3, .ref q9), (0, .ref (E.a 0)), (1, .int p1), (2, .ref ao)]) hx hb dL_setDecks_12 rfl hl (by decide) rfl (fun ls hl => ?_)
      refine lv_iconst (v := 1) hx hb dL_setDecks_13 (by decide) ?_
      exact x_wiret hx hb hr hlk hw rfl (Nat.le_of_ble_eq_true rfl) (Nat.le_of_ble_eq_true rfl) dL_setDecks_14

abbrev rmL_bake : Room := { frames := 9, cells := 2, slots := 12, locals := 160 }
set_option maxRecDepth 100000 in
set_option maxHeartbeats 4000000 in
theorem mL_bake {l : Launch} (hl0 : l.stackTraces = false) {E : xE} (hE : E.sh = shX) (ao : Nat) (cL : ClassId) (p1 : Int32) (σ : xSt) (fo : Nat → Int64) (o : xO) (σ1 : xSt) (hf : fX11_bake p1 σ = some (o, σ1)) (hk : ∀ k, o = .inr k → k = 0 ∨ k = 2) : xMw l yL_bake wsL_bake rmL_bake E ao cL [.ref (E.a 0), .int p1, .ref ao] σ fo (xcd 1 9 2 9 o) σ1 (xou fo o) 2 := by
  refine xMw_of (cc := cL_bake) (maxL := 4) (ret := some .int) (by decide) rfl (Nat.le_of_ble_eq_true rfl) ?_
  intro p e s m args below meth c A ls ⟨hx, hb, hr, hml, hown, hts, hlk⟩ hA hG hN htab hw hl
  have hown : s.vm.findClass RL = some m.cls := hown
  have hl : lv_has ls 4 [(0, .ref (E.a 0)), (1, .int p1), (2, .ref ao)] := hl
  refine lv_aload_n hx hb dL_bake_0 rfl (lv_at hl 2 rfl) ?_
  refine lv_iconst (v := 0) hx hb dL_bake_1 (by decide) ?_
  refine lv_aload_n hx hb dL_bake_2 rfl (lv_at hl 0 rfl) ?_
  refine lv_iload_n hx hb dL_bake_3 rfl (lv_at hl 1 rfl) ?_
  cases o with
  | inl v =>
    refine x_tcalli (vx_runV (As := [.int p1]) (rest := [.int 0, .ref ao]) ⟨hx, hb, hml, hown, hts⟩ (mX11_bake hl0 (E := xEO E ao cL fo) hE p1 σ (.inl v) σ1 hf s.heap.size) (cwV 1 hts gL_bake_X11_bake rfl rfl rfl (by decide +kernel) ⟨Nat.le_of_ble_eq_true rfl, Nat.le_of_ble_eq_true rfl⟩) (x_preV _ hw.in hA hG (cX0 hE) rfl) rfl rfl hl.1 rfl (lv_room (Nat.le_of_ble_eq_true rfl)) dL_bake_4 ⟨Nat.le_of_ble_eq_true rfl, Nat.le_of_ble_eq_true rfl⟩) hw.in hA (fun q9 ce H locs h1 h2 h3 hw => by obtain ⟨_, h9, _⟩ := h3; cases h9) (fun r9 H locs h1 hw9 => ?_)
    obtain rfl := Sum.inl.inj h1
    have hw := xwW.of hw.1 hw9
    refine lv_i2l hx hb dL_bake_7 rfl ?_
    refine x_wlast hx hb hw dL_bake_8 (fun H locs hw => ?_)
    refine lv_goto (tgt := 18) hx hb dL_bake_9 (by decide) ?_
    refine lv_iconst (v := 0) hx hb dL_bake_18 (by decide) ?_
    exact x_wiret hx hb hr hlk hw rfl (Nat.le_of_ble_eq_true rfl) (Nat.le_of_ble_eq_true rfl) dL_bake_19
  | inr k =>
    obtain ⟨x1, x2, het, e1, e2⟩ := x_t2 htab
    simp only [Prod.mk.injEq] at e1 e2
    rcases hk k rfl with rfl | rfl
    · refine x_tcalli (vx_runV (As := [.int p1]) (rest := [.int 0, .ref ao]) ⟨hx, hb, hml, hown, hts⟩ (mX11_bake hl0 (E := xEO E ao cL fo) hE p1 σ (.inr 0) σ1 hf s.heap.size) (cwV 1 hts gL_bake_X11_bake rfl rfl rfl (by decide +kernel) ⟨Nat.le_of_ble_eq_true rfl, Nat.le_of_ble_eq_true rfl⟩) (x_preV _ hw.in hA hG (cX0 hE) rfl) rfl rfl hl.1 rfl (lv_room (Nat.le_of_ble_eq_true rfl)) dL_bake_4 ⟨Nat.le_of_ble_eq_true rfl, Nat.le_of_ble_eq_true rfl⟩) hw.in hA (fun q9 ce H locs h1 h2 h3 hw9 => ?_) (fun r9 H locs h1 hw9 => nomatch h1)
      have hw := xwW.of hw.1 hw9
      obtain ⟨k9, h9, h3⟩ := h3
      obtain rfl := Sum.inr.inj h9
      refine vx_catch (E := xcls 0) (name := xcls 0) hown [] x1 [x2] (by rw [het]; rfl) (fun z hz => by cases hz) (by rw [covers, e1.1, e1.2.1]; decide) (by rw [e1.2.2.2]; decide) (by rw [e1.2.2.2]; exact hts (.classLink RL 13 "java/lang/IndexOutOfBoundsException") (by decide +kernel)) (va_Nw.use (by decide +kernel) (hG.1 (.castable "java/lang/IndexOutOfBoundsException" "java/lang/IndexOutOfBoundsException") (by decide +kernel))) h1 h2 h3 ?_
      rw [e1.2.2.1]
      refine lv_astore_n (lv' := [(3, .ref q9), (0, .ref (E.a 0)), (1, .int p1), (2, .ref ao)]) hx hb dL_bake_12 rfl hl (by decide) rfl (fun ls hl => ?_)
      refine lv_iconst (v := 1) hx hb dL_bake_13 (by decide) ?_
      exact x_wiret hx hb hr hlk hw rfl (Nat.le_of_ble_eq_true rfl) (Nat.le_of_ble_eq_true rfl) dL_bake_14
    · refine x_tcalli (vx_runV (As := [.int p1]) (rest := [.int 0, .ref ao]) ⟨hx, hb, hml, hown, hts⟩ (mX11_bake hl0 (E := xEO E ao cL fo) hE p1 σ (.inr 2) σ1 hf s.heap.size) (cwV 1 hts gL_bake_X11_bake rfl rfl rfl (by decide +kernel) ⟨Nat.le_of_ble_eq_true rfl, Nat.le_of_ble_eq_true rfl⟩) (x_preV _ hw.in hA hG (cX0 hE) rfl) rfl rfl hl.1 rfl (lv_room (Nat.le_of_ble_eq_true rfl)) dL_bake_4 ⟨Nat.le_of_ble_eq_true rfl, Nat.le_of_ble_eq_true rfl⟩) hw.in hA (fun q9 ce H locs h1 h2 h3 hw9 => ?_) (fun r9 H locs h1 hw9 => nomatch h1)
      have hw := xwW.of hw.1 hw9
      obtain ⟨k9, h9, h3⟩ := h3
      obtain rfl := Sum.inr.inj h9
      refine vx_catch (E := xcls 2) (name := xcls 2) hown [x1] x2 [] (by rw [het]; rfl) (fun z hz => by simp only [List.mem_cons, List.not_mem_nil, or_false] at hz; subst hz; exact Or.inr ⟨by rw [e1.2.2.2]; decide, xcls 0, by rw [e1.2.2.2]; exact hts (.classLink RL 13 "java/lang/IndexOutOfBoundsException") (by decide +kernel), hN 2 (by decide) 0 (by decide) (by decide)⟩) (by rw [covers, e2.1, e2.2.1]; decide) (by rw [e2.2.2.2]; decide) (by rw [e2.2.2.2]; exact hts (.classLink RL 17 "java/lang/IllegalStateException") (by decide +kernel)) (va_Nw.use (by decide +kernel) (hG.1 (.castable "java/lang/IllegalStateException" "java/lang/IllegalStateException") (by decide +kernel))) h1 h2 h3 ?_
      rw [e2.2.2.1]
      refine lv_astore_n (lv' := [(3, .ref q9), (0, .ref (E.a 0)), (1, .int p1), (2, .ref ao)]) hx hb dL_bake_15 rfl hl (by decide) rfl (fun ls hl => ?_)
      refine lv_iconst (v := 2) hx hb dL_bake_16 (by decide) ?_
      exact x_wiret hx hb hr hlk hw rfl (Nat.le_of_ble_eq_true rfl) (Nat.le_of_ble_eq_true rfl) dL_bake_17

abbrev rmL_planned : Room := { frames := 9, cells := 1, slots := 6, locals := 152 }
set_option maxRecDepth 100000 in
set_option maxHeartbeats 4000000 in
theorem mL_planned {l : Launch} (hl0 : l.stackTraces = false) {E : xE} (hE : E.sh = shX) (ao : Nat) (cL : ClassId) (p1 : Int32) (σ : xSt) (fo : Nat → Int64) (o : xO) (σ1 : xSt) (hf : fX11_planned p1 σ = some (o, σ1)) (hk : ∀ k, o = .inr k → k = 0) : xMw l yL_planned wsL_planned rmL_planned E ao cL [.ref (E.a 0), .int p1, .ref ao] σ fo (xcd 1 9 9 9 o) σ1 (xou fo o) 1 := by
  refine xMw_of (cc := cL_planned) (maxL := 4) (ret := some .int) (by decide) rfl (Nat.le_of_ble_eq_true rfl) ?_
  intro p e s m args below meth c A ls ⟨hx, hb, hr, hml, hown, hts, hlk⟩ hA hG hN htab hw hl
  have hown : s.vm.findClass RL = some m.cls := hown
  have hl : lv_has ls 4 [(0, .ref (E.a 0)), (1, .int p1), (2, .ref ao)] := hl
  refine lv_aload_n hx hb dL_planned_0 rfl (lv_at hl 2 rfl) ?_
  refine lv_iconst (v := 0) hx hb dL_planned_1 (by decide) ?_
  refine lv_aload_n hx hb dL_planned_2 rfl (lv_at hl 0 rfl) ?_
  refine lv_iload_n hx hb dL_planned_3 rfl (lv_at hl 1 rfl) ?_
  cases o with
  | inl v =>
    refine x_tcalli (vx_runV (As := [.int p1]) (rest := [.int 0, .ref ao]) ⟨hx, hb, hml, hown, hts⟩ (mX11_planned hl0 (E := xEO E ao cL fo) hE p1 σ (.inl v) σ1 hf s.heap.size) (cwV 1 hts gL_planned_X11_planned rfl rfl rfl (by decide +kernel) ⟨Nat.le_of_ble_eq_true rfl, Nat.le_of_ble_eq_true rfl⟩) (x_preV _ hw.in hA hG (cX0 hE) rfl) rfl rfl hl.1 rfl (lv_room (Nat.le_of_ble_eq_true rfl)) dL_planned_4 ⟨Nat.le_of_ble_eq_true rfl, Nat.le_of_ble_eq_true rfl⟩) hw.in hA (fun q9 ce H locs h1 h2 h3 hw => by obtain ⟨_, h9, _⟩ := h3; cases h9) (fun r9 H locs h1 hw9 => ?_)
    obtain rfl := Sum.inl.inj h1
    have hw := xwW.of hw.1 hw9
    refine lv_i2l hx hb dL_planned_7 rfl ?_
    refine x_wlast hx hb hw dL_planned_8 (fun H locs hw => ?_)
    refine lv_goto (tgt := 15) hx hb dL_planned_9 (by decide) ?_
    refine lv_iconst (v := 0) hx hb dL_planned_15 (by decide) ?_
    exact x_wiret hx hb hr hlk hw rfl (Nat.le_of_ble_eq_true rfl) (Nat.le_of_ble_eq_true rfl) dL_planned_16
  | inr k =>
    obtain ⟨x1, het, e1⟩ := x_t1 htab
    simp only [Prod.mk.injEq] at e1
    rcases hk k rfl with rfl
    · refine x_tcalli (vx_runV (As := [.int p1]) (rest := [.int 0, .ref ao]) ⟨hx, hb, hml, hown, hts⟩ (mX11_planned hl0 (E := xEO E ao cL fo) hE p1 σ (.inr 0) σ1 hf s.heap.size) (cwV 1 hts gL_planned_X11_planned rfl rfl rfl (by decide +kernel) ⟨Nat.le_of_ble_eq_true rfl, Nat.le_of_ble_eq_true rfl⟩) (x_preV _ hw.in hA hG (cX0 hE) rfl) rfl rfl hl.1 rfl (lv_room (Nat.le_of_ble_eq_true rfl)) dL_planned_4 ⟨Nat.le_of_ble_eq_true rfl, Nat.le_of_ble_eq_true rfl⟩) hw.in hA (fun q9 ce H locs h1 h2 h3 hw9 => ?_) (fun r9 H locs h1 hw9 => nomatch h1)
      have hw := xwW.of hw.1 hw9
      obtain ⟨k9, h9, h3⟩ := h3
      obtain rfl := Sum.inr.inj h9
      refine vx_catch (E := xcls 0) (name := xcls 0) hown [] x1 [] (by rw [het]; rfl) (fun z hz => by cases hz) (by rw [covers, e1.1, e1.2.1]; decide) (by rw [e1.2.2.2]; decide) (by rw [e1.2.2.2]; exact hts (.classLink RL 13 "java/lang/IndexOutOfBoundsException") (by decide +kernel)) (va_Nw.use (by decide +kernel) (hG.1 (.castable "java/lang/IndexOutOfBoundsException" "java/lang/IndexOutOfBoundsException") (by decide +kernel))) h1 h2 h3 ?_
      rw [e1.2.2.1]
      refine lv_astore_n (lv' := [(3, .ref q9), (0, .ref (E.a 0)), (1, .int p1), (2, .ref ao)]) hx hb dL_planned_12 rfl hl (by decide) rfl (fun ls hl => ?_)
      refine lv_iconst (v := 1) hx hb dL_planned_13 (by decide) ?_
      exact x_wiret hx hb hr hlk hw rfl (Nat.le_of_ble_eq_true rfl) (Nat.le_of_ble_eq_true rfl) dL_planned_14
