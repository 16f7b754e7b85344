/-! ===== THE GIVEN THINGS OUTSIDE THE WORLD: nest links, two static rows, what a throw needs ===== -/
def xPts (j : Nat) : Int32 := ([0, 1, 2, 4, 6, 3] : List Int32).getD j 0
def xPri (j : Nat) : Int32 := ([3, 5, 2, 4] : List Int32).getD j 0
def xBW : List Cond := [.methodLinkNest RX1 67 yX11_isWithin RX11, .methodLinkNest RX1 78 yX11_makeNextOrder RX11, .methodLinkNest RX3 65 yX11_isWithin RX11, .methodLinkNest RX5 26 yX11_isWithin RX11, .methodLinkNest RX6 22 yX11_isWithin RX11, .methodLinkNest RX7 122 yX11_makeNextOrder RX11, .methodLinkNest RX8 33 yX11_isWithin RX11, .castable "java/lang/IndexOutOfBoundsException" "java/lang/IndexOutOfBoundsException", .castable "java/lang/IllegalArgumentException" "java/lang/IllegalArgumentException", .castable "java/lang/IllegalStateException" "java/lang/IllegalStateException", .castable "java/util/NoSuchElementException" "java/util/NoSuchElementException", .declares (Bundle.initS "java/lang/RuntimeException"), .declares (Bundle.initS "java/lang/Exception"), .declares (Bundle.initS Bundle.tN)]
theorem xBW_on : ∀ w ∈ xBW, w.onTables = true := by decide +kernel
theorem xBW_warm {s U : State} (hW : s.WarmedH U.vm) : ∀ w ∈ xBW, va_Nw w s → va_Nw w U := by
  intro w hw h
  simp only [xBW, List.mem_cons, List.not_mem_nil, or_false] at hw
  rcases hw with rfl | rfl | rfl | rfl | rfl | rfl | rfl | rfl | rfl | rfl | rfl | rfl | rfl | rfl
  all_goals first | exact va_Nw.warmM hW h | exact va_Nw.warmC hW h | exact va_Nw.warmD hW h
def xG (g : Nat × Nat × (Nat → Nat)) (A : Nat → Prop) (U : State) (H : Heap) : Prop :=
  (∀ w ∈ xBW, va_Nw w U) ∧ (va_Z RX5 "POINTS_OF_WARMTH" "[I" (.ref g.1) A U H ∧ va_T .int g.1 6 (fun j => .int (xPts j)) A U H) ∧ (va_Z RX9 "PRICES" "[I" (.ref g.2.1) A U H ∧ va_T .int g.2.1 4 (fun j => .int (xPri j)) A U H) ∧
  (vx_Zq Bundle.tN "UNASSIGNED_STACK" Bundle.steD A U H ∧ vx_Zq Bundle.tN "SUPPRESSED_SENTINEL" Bundle.listD A U H) ∧
  vk_R RX11 406 "there is no such thing" (g.2.2 0) U ∧ vk_R RX11 413 "a number is out of range" (g.2.2 1) U ∧ vk_R RX11 418 "this cannot be done now" (g.2.2 2) U ∧ vk_R RX11 423 "there is none" (g.2.2 3) U
theorem xG.same {g : Nat × Nat × (Nat → Nat)} {A : Nat → Prop} {u U : State} {H : Heap} (hv : U.vm = u.vm) (h : xG g A u H) : xG g A U H := by
  obtain ⟨h1, ⟨h2, h3⟩, ⟨h4, h5⟩, ⟨h6, h7⟩, k0, k1, k2, k3⟩ := h
  have ha : u.vm.Alike U.vm := by rw [hv]; exact Vm.Alike.refl _
  exact ⟨fun w hw => va_Nw.same (xBW_on w hw) hv.symm (h1 w hw), ⟨h2.moved ha, h3.moved ha⟩, ⟨h4.moved ha, h5.moved ha⟩, ⟨h6.moved ha, h7.moved ha⟩, k0.same hv, k1.same hv, k2.same hv, k3.same hv⟩
theorem xG.go {g : Nat × Nat × (Nat → Nat)} {A B : Nat → Prop} {u U : State} {H H1 : Heap} (hW : u.WarmedH U.vm) (hq : ∀ a : Nat, a < H.size → ¬ A a → H1[a]? = H[a]?) (hAB : ∀ q, B q → A q) (h : xG g A u H) : xG g B U H1 := by
  obtain ⟨h1, ⟨h2, h3⟩, ⟨h4, h5⟩, ⟨h6, h7⟩, k0, k1, k2, k3⟩ := h
  have ha : u.vm.Alike U.vm := hW.alike
  exact ⟨fun w hw => xBW_warm hW w hw (h1 w hw), ⟨((h2.moved ha).kept hq).narrow hAB, ((h3.moved ha).kept hq).narrow hAB⟩, ⟨((h4.moved ha).kept hq).narrow hAB, ((h5.moved ha).kept hq).narrow hAB⟩, ⟨((h6.moved ha).kept hq).narrow hAB, ((h7.moved ha).kept hq).narrow hAB⟩, k0.warm hW, k1.warm hW, k2.warm hW, k3.warm hW⟩
/-! the world in a walk, at a contract's start, at its end -/
abbrev xE : Type := va_G × (Nat → Nat) × ClassId × xSh × va_W × (Nat × Nat × (Nat → Nat))
abbrev xE.D (E : xE) : va_G := E.1
abbrev xE.a (E : xE) : Nat → Nat := E.2.1
abbrev xE.cA (E : xE) : ClassId := E.2.2.1
abbrev xE.sh (E : xE) : xSh := E.2.2.2.1
abbrev xE.ex (E : xE) : va_W := E.2.2.2.2.1
abbrev xE.g (E : xE) : Nat × Nat × (Nat → Nat) := E.2.2.2.2.2
def xE.W (E : xE) (σ : xSt) : va_W := xW E.a E.cA E.sh σ E.ex
def xw (E : xE) (A : Nat → Prop) (H0 : Heap) (s : State) (σ : xSt) (H : Heap) (locs : List Loc) : Prop := va_K E.D vwCl [(E.cA, .int)] s ∧ va_P E.D vwCl (E.W σ) H ∧ va_D A (E.W σ) ∧ va_S A H0 H locs
def xat (E : xE) (A : Nat → Prop) (u : xSt) (t : State) : Prop := va_P E.D vwCl (E.W u) t.heap ∧ va_K E.D vwCl [(E.cA, .int)] t ∧ va_D A (E.W u)
def xPre (E : xE) (av : List Value) (σ : xSt) (sz : Nat) : Array Value → State → Prop := va_Pc av (fun U => U.heap.size = sz ∧ va_P E.D vwCl (E.W σ) U.heap ∧ va_K E.D vwCl [(E.cA, .int)] U ∧ va_D (fun _ => True) (E.W σ) ∧ xG E.g (va_A (E.W σ) sz) U U.heap)
abbrev xQi (E : xE) (A : Nat → Prop) (r0 : Int32) (σ1 : xSt) : Array Value → State → Outcome → State → Prop := va_Qi (S := xSt) (fun r u => r = r0 ∧ u = σ1) (fun u t => xat E A u t) A
abbrev xQv (E : xE) (A : Nat → Prop) (σ1 : xSt) : Array Value → State → Outcome → State → Prop := va_Qv (S := xSt) (fun u => u = σ1) (fun u t => xat E A u t) A
abbrev xQl (E : xE) (A : Nat → Prop) (r0 : Int64) (σ1 : xSt) : Array Value → State → Outcome → State → Prop := va_Ql (S := xSt) (fun r u => r = r0 ∧ u = σ1) (fun u t => xat E A u t) A
/-- the contract of a method that answers an int (a boolean): from the world of σ it answers r0, and leaves the world of σ1 -/
def xMi (l : Launch) (y : MethodName) (ws : List Cond) (rm : Room) (E : xE) (av : List Value) (σ : xSt) (r0 : Int32) (σ1 : xSt) : Prop := ∀ sz : Nat, Met l y ws rm (xPre E av σ sz) (xQi E (va_A (E.W σ) sz) r0 σ1) 0 0 (va_A (E.W σ) sz)
def xMv (l : Launch) (y : MethodName) (ws : List Cond) (rm : Room) (E : xE) (av : List Value) (σ σ1 : xSt) : Prop := ∀ sz : Nat, Met l y ws rm (xPre E av σ sz) (xQv E (va_A (E.W σ) sz) σ1) 0 0 (va_A (E.W σ) sz)
theorem xE.fst (E : xE) (σ σ' : xSt) : (E.W σ).map Prod.fst = (E.W σ').map Prod.fst := xW_fst _ _ _ _ _ _
theorem xw.free {E : xE} {A : Nat → Prop} {H0 : Heap} {s : State} {σ : xSt} {H : Heap} {locs : List Loc} (hw : xw E A H0 s σ H locs) (hA : ∀ q, H0.size ≤ q → A q) : ∀ q, va_A (E.W σ) H.size q → A q := by
  rintro q (⟨k, e, hk⟩ | h)
  · exact hw.2.2.1.2 k _ hk
  · exact hA q (Nat.le_trans hw.2.2.2.1 h)
theorem xPre_blind {E : xE} {av : List Value} {σ : xSt} {sz : Nat} : FrameBlind (xPre E av σ sz) := fun v U fr mk h => by
  obtain ⟨q0, q1, qP, qK, qD, qG⟩ := h
  exact ⟨q0, q1, qP, va_K.moved (u := U) (U := U.calling fr mk v) (Vm.Alike.refl U.vm) qK, qD, xG.same (u := U) (U := U.calling fr mk v) rfl qG⟩
theorem xPre_of {E : xE} {A : Nat → Prop} {s : State} {σ : xSt} {H : Heap} {locs : List Loc} (av : List Value) (hw : xw E A s.heap s σ H locs) (hA : ∀ q, s.heap.size ≤ q → A q) (hG : xG E.g A s s.heap) : ∀ U : State, U.heap = H → s.WarmedH U.vm → xPre E av σ H.size av.toArray U := by
  intro U hU hW
  refine ⟨rfl, by rw [hU], by rw [hU]; exact hw.2.1, va_K.moved hW.alike hw.1, hw.2.2.1.weaken (fun _ _ _ _ => trivial), ?_⟩
  rw [hU]
  exact xG.go hW (fun q h1 h2 => hw.2.2.2.2.1 q h1 h2) (hw.free hA) hG
section XR
variable {p : Program} {l : Launch} {e : Env} {R : Room} {s : State} {m : MethodId} {args : Array Value} {below : List Frame} {meth : Method} {c : Code} {H : Heap} {locs : List Loc} {cells slots : Nat} {Q : State → Prop}
variable {cc : ByteArray} {pc : Nat} {ls : Array Slot} {rest : List Value} {E : xE} {A : Nat → Prop} {H0 : Heap} {σ : xSt}
theorem x_iald (hexec : p.tables.exec = Jvm.exec) (hb : c.code = cc) (hw : xw E A H0 s σ H locs) {q n : Nat} (hq : E.sh[q]? = some (.inl n)) {i : Int32} (hin : vp_in i n) (hdg : decode cc pc = .ok (.iaload, 1))
    (kk : W p l e R s m args below meth c H locs cells slots Q (F0 m (pc + 1) ls (.int (σ q i.toNatClampNeg) :: rest))) : W p l e R s m args below meth c H locs cells slots Q (F0 m pc ls (.int i :: .ref (E.a q) :: rest)) :=
  va_iald hexec hb hw.1 hw.2.1 q 0 (cA := E.cA) (n := n) (f := σ q) (xW_at hq) rfl hin hdg kk
theorem x_iast (hexec : p.tables.exec = Jvm.exec) (hb : c.code = cc) (hw : xw E A H0 s σ H locs) {q n : Nat} (hq : E.sh[q]? = some (.inl n)) {i v : Int32} (hin : vp_in i n) (hdg : decode cc pc = .ok (.iastore, 1))
    (kk : ∀ (σ1 : xSt) (H1 : Heap) (locs1 : List Loc), σ1 = xu σ q i.toNatClampNeg v → xw E A H0 s σ1 H1 locs1 → W p l e R s m args below meth c H1 locs1 cells slots Q (F0 m (pc + 1) ls rest)) : W p l e R s m args below meth c H locs cells slots Q (F0 m pc ls (.int v :: .int i :: .ref (E.a q) :: rest)) := by
  refine va_iast hexec hb hw.1 hw.2.1 hw.2.2.1 hw.2.2.2 q 0 (cA := E.cA) (n := n) (f := σ q) (xW_at hq) rfl hin hdg (fun H1 locs1 hP hD hS => ?_)
  have he : (E.W σ).set q (E.a q, .inl (E.cA, n, .inl (upd (σ q) i.toNatClampNeg v))) = E.W (xu σ q i.toNatClampNeg v) := xW_set hq (by show (Sum.inl (E.cA, n, Sum.inl (xu σ q i.toNatClampNeg v q)) : va_E) = _; unfold xu; rw [if_pos rfl]) (fun k hk => by unfold xu; rw [if_neg hk])
  rw [he] at hP hD
  exact kk _ H1 locs1 rfl ⟨hw.1, hP, hD, hS⟩
theorem x_geti (hexec : p.tables.exec = Jvm.exec) (hb : c.code = cc) (hw : xw E A H0 s σ H locs) {q ci : Nat} {fl : List (Option Nat)} (hq : E.sh[q]? = some (.inr (ci, fl))) {own ref C : String} {T : u_T} {N index : Nat} {Ts : List Cond} (hts : ∀ w ∈ Ts, w.before args s = true) (hin : ∀ w ∈ u_ws C T N, w ∈ Ts) (hown : s.vm.findClass own = some m.cls) (hc : vwCl[ci]? = some (C, T, N)) (k : Nat) (hk : k < N) (hlink : (Cond.fieldLink own index ref (T k).2.1 (T k).2.2.1).before args s = true) (hsame : ∀ x, s.fieldFound? (T k).1 (T k).2.1 (T k).2.2.1 = some x → s.fieldFound? ref (T k).2.1 (T k).2.2.1 = some x) (hf : fl[k]? = some none) (hdg : decode cc pc = .ok (.getfield index, 3))
    (kk : W p l e R s m args below meth c H locs cells slots Q (F0 m (pc + 3) ls (.int (σ q k) :: rest))) : W p l e R s m args below meth c H locs cells slots Q (F0 m pc ls (.ref (E.a q) :: rest)) :=
  va_get hexec hb hts hin hown hw.1 hw.2.1 q (xW_at hq) hc k hk hlink hsame (v := .int (σ q k)) (by rw [List.getElem?_mapIdx, hf]; rfl) hdg kk
theorem x_getr (hexec : p.tables.exec = Jvm.exec) (hb : c.code = cc) (hw : xw E A H0 s σ H locs) {q ci : Nat} {fl : List (Option Nat)} (hq : E.sh[q]? = some (.inr (ci, fl))) {own ref C : String} {T : u_T} {N index : Nat} {Ts : List Cond} (hts : ∀ w ∈ Ts, w.before args s = true) (hin : ∀ w ∈ u_ws C T N, w ∈ Ts) (hown : s.vm.findClass own = some m.cls) (hc : vwCl[ci]? = some (C, T, N)) (k : Nat) (hk : k < N) (hlink : (Cond.fieldLink own index ref (T k).2.1 (T k).2.2.1).before args s = true) (hsame : ∀ x, s.fieldFound? (T k).1 (T k).2.1 (T k).2.2.1 = some x → s.fieldFound? ref (T k).2.1 (T k).2.2.1 = some x) {r : Nat} (hf : fl[k]? = some (some r)) (hdg : decode cc pc = .ok (.getfield index, 3))
    (kk : W p l e R s m args below meth c H locs cells slots Q (F0 m (pc + 3) ls (.ref (E.a r) :: rest))) : W p l e R s m args below meth c H locs cells slots Q (F0 m pc ls (.ref (E.a q) :: rest)) :=
  va_get hexec hb hts hin hown hw.1 hw.2.1 q (xW_at hq) hc k hk hlink hsame (v := .ref (E.a r)) (by rw [List.getElem?_mapIdx, hf]; rfl) hdg kk
theorem x_puti (hexec : p.tables.exec = Jvm.exec) (hb : c.code = cc) (hw : xw E A H0 s σ H locs) {q ci : Nat} {fl : List (Option Nat)} (hq : E.sh[q]? = some (.inr (ci, fl))) {own ref C : String} {T : u_T} {N index : Nat} {Ts : List Cond} (hts : ∀ w ∈ Ts, w.before args s = true) (hin : ∀ w ∈ u_ws C T N, w ∈ Ts) (ty0 : Nat → FieldType) (hty : ∀ k, k < N → parseFieldDescriptor (T k).2.2.1 = some (ty0 k)) (hnm : ∀ a, a < N → ∀ b, b < N → a ≠ b → (T a).2.1 ≠ (T b).2.1) (hown : s.vm.findClass own = some m.cls) (hc : vwCl[ci]? = some (C, T, N)) (k : Nat) (hk : k < N) (hlink : (Cond.fieldLink own index ref (T k).2.1 (T k).2.2.1).before args s = true) (hsame : ∀ x, s.fieldFound? (T k).1 (T k).2.1 (T k).2.2.1 = some x → s.fieldFound? ref (T k).2.1 (T k).2.2.1 = some x) (hfin : (T k).2.2.2 = false) (hd : parseFieldDescriptor (T k).2.2.1 = some .int) (hf : fl[k]? = some none) {v : Int32} (hdg : decode cc pc = .ok (.putfield index, 3))
    (kk : ∀ (σ1 : xSt) (H1 : Heap) (locs1 : List Loc), σ1 = xu σ q k v → xw E A H0 s σ1 H1 locs1 → W p l e R s m args below meth c H1 locs1 cells slots Q (F0 m (pc + 3) ls rest)) : W p l e R s m args below meth c H locs cells slots Q (F0 m pc ls (.int v :: .ref (E.a q) :: rest)) := by
  have hlt : k < fl.length := (List.getElem?_eq_some_iff.mp hf).1
  refine va_put hexec hb hts hin ty0 hty hnm hown hw.1 hw.2.1 hw.2.2.1 hw.2.2.2 q (xW_at hq) hc k hk hlink hsame hfin hd (v := .int v) rfl rfl (by simpa using hlt) hdg (fun H1 locs1 hP hD hS => ?_)
  have he : (E.W σ).set q (E.a q, .inr (ci, (fl.mapIdx (fun j f => match f with | none => Value.int (σ q j) | some r => Value.ref (E.a r))).set k (.int v))) = E.W (xu σ q k v) := by
    refine xW_set hq ?_ (fun k hk => by unfold xu; rw [if_neg hk])
    show (Sum.inr (ci, fl.mapIdx (fun j f => match f with | none => Value.int (xu σ q k v q j) | some r => Value.ref (E.a r))) : va_E) = _
    congr 2
    apply List.ext_getElem?
    intro j
    rw [List.getElem?_set, List.getElem?_mapIdx]
    by_cases hj : k = j
    · subst hj
      rw [if_pos rfl, if_pos (by simpa using hlt), hf]
      show some (Value.int (xu σ q k v q k)) = _
      unfold xu upd
      rw [if_pos rfl, if_pos rfl]
    · rw [if_neg hj, List.getElem?_mapIdx]
      cases fl[j]? with
      | none => rfl
      | some f => cases f with
        | none =>
          show some (Value.int (xu σ q k v q j)) = some (Value.int (σ q j))
          unfold xu upd
          rw [if_pos rfl, if_neg (fun h => hj h.symm)]
        | some r => rfl
  have hP : va_P E.D vwCl (E.W (xu σ q k v)) H1 := by rw [← he]; exact hP
  have hD : va_D A (E.W (xu σ q k v)) := by rw [← he]; exact hD
  exact kk _ H1 locs1 rfl ⟨hw.1, hP, hD, hS⟩
theorem x_alen (hexec : p.tables.exec = Jvm.exec) (hb : c.code = cc) (hw : xw E A H0 s σ H locs) {q n : Nat} (hq : E.sh[q]? = some (.inl n)) {v : Int32} (hv : Int32.ofNat n = v) (hdg : decode cc pc = .ok (.arraylength, 1))
    (kk : W p l e R s m args below meth c H locs cells slots Q (F0 m (pc + 1) ls (.int v :: rest))) : W p l e R s m args below meth c H locs cells slots Q (F0 m pc ls (.ref (E.a q) :: rest)) :=
  va_alen hexec hb hw.1 hw.2.1 q 0 (cA := E.cA) (x := (n, .inl (σ q))) (xW_at hq) rfl hv hdg kk
theorem x_copy {q0 n0 q1 n1 : Nat} (hexec : p.tables.exec = Jvm.exec) (hb : c.code = cc) (hml : c.maxLocals = ls.size) (hw : xw E A H0 s σ H locs) {own : String} {index : Nat} (hown : s.vm.findClass own = some m.cls) (hlink : (Cond.methodLink own index arraycopyName).before args s = true) (hnat : (Cond.native arraycopyName).before args s = true) (hstat : (Cond.static arraycopyName).before args s = true) (hini : (Cond.initialized "java/lang/System").before args s = true)
    (hq0 : E.sh[q0]? = some (.inl n0)) (hq1 : E.sh[q1]? = some (.inl n1)) {sp dp n : Int32} (h : (¬ sp < 0 ∧ ¬ dp < 0 ∧ ¬ n < 0) ∧ sp.toNatClampNeg + n.toNatClampNeg ≤ n0 ∧ dp.toNatClampNeg + n.toNatClampNeg ≤ n1)
    (hframes : 1 ≤ R.frames) (hlocals : (rest.map fun v => v.category).sum + (nativeFrameWords "java/lang/System" "arraycopy" 5 + 11) ≤ R.locals) (hdg : decode cc pc = .ok (.invokestatic index, 3))
    (kk : ∀ (σ1 : xSt) (H1 : Heap) (locs1 : List Loc), σ1 = xcp σ q0 q1 sp.toNatClampNeg dp.toNatClampNeg n.toNatClampNeg → xw E A H0 s σ1 H1 locs1 → W p l e R s m args below meth c H1 locs1 cells slots Q (F0 m (pc + 3) ls rest)) : W p l e R s m args below meth c H locs cells slots Q (F0 m pc ls (.int n :: .int dp :: .ref (E.a q1) :: .int sp :: .ref (E.a q0) :: rest)) := by
  refine va_copyi hexec hb hml hown hlink hnat hstat hini hw.1 hw.2.1 hw.2.2.1 hw.2.2.2 q0 q1 0 0 (c0 := E.cA) (c1 := E.cA) (n0 := n0) (n1 := n1) (f := σ q0) (g := σ q1) (ty := .int) (xW_at hq0) (xW_at hq1) rfl rfl rfl h.1.1 h.1.2.1 h.1.2.2 h.2.1 h.2.2 (fun _ _ => rfl) hframes hlocals hdg (fun H1 locs1 hP hD hS => ?_)
  have he : (E.W σ).set q1 (E.a q1, .inl (E.cA, n1, .inl (va_cpy (σ q0) (σ q1) sp.toNatClampNeg dp.toNatClampNeg n.toNatClampNeg))) = E.W (xcp σ q0 q1 sp.toNatClampNeg dp.toNatClampNeg n.toNatClampNeg) := xW_set hq1 (by show (Sum.inl (E.cA, n1, Sum.inl (xcp σ q0 q1 sp.toNatClampNeg dp.toNatClampNeg n.toNatClampNeg q1)) : va_E) = _; unfold xcp; rw [if_pos rfl]) (fun k hk => by unfold xcp; rw [if_neg hk])
  rw [he] at hP hD
  exact kk _ H1 locs1 rfl ⟨hw.1, hP, hD, hS⟩
/-! calls -/
theorem x_preV (av : List Value) (hw : xw E A s.heap s σ H locs) (hA : ∀ q, s.heap.size ≤ q → A q) (hG : xG E.g A s s.heap) {q ci : Nat} {fl : List (Option Nat)} (hq : E.sh[q]? = some (.inr (ci, fl))) {C : String} {T : u_T} {N : Nat} (hc : vwCl[ci]? = some (C, T, N)) : PreV s H C (E.a q) (xPre E (.ref (E.a q) :: av) σ H.size) av :=
  ⟨xPre_blind, va_recv hw.1 hw.2.1 hc (xW_at hq), xPre_of _ hw hA hG⟩
theorem x_preS (av : List Value) (hw : xw E A s.heap s σ H locs) (hA : ∀ q, s.heap.size ≤ q → A q) (hG : xG E.g A s s.heap) : PreS s H (xPre E av σ H.size) av := ⟨xPre_blind, xPre_of _ hw hA hG⟩
theorem x_calli {av : Array Value} {r0 : Int32} {σ1 : xSt} {st0 : List Value} (hr : va_Run p l e R s m args below meth c H locs cells slots 0 0 (F0 m pc ls st0) rest (xQi E (va_A (E.W σ) H.size) r0 σ1 av) (va_A (E.W σ) H.size)) (hw : xw E A H0 s σ H locs) (hA : ∀ q, H0.size ≤ q → A q)
    (kk : ∀ (H1 : Heap) (locs1 : List Loc), xw E A H0 s σ1 H1 locs1 → W p l e R s m args below meth c H1 locs1 cells slots Q (F0 m (pc + 3) ls (.int r0 :: rest))) : W p l e R s m args below meth c H locs cells slots Q (F0 m pc ls st0) := by
  refine va_calli hr hw.2.2.2 (fun q _ h => hw.free hA q h) (hw.free hA) (fun r u t H1 locs1 ht hvm hpost hB hz1 hk1 hS1 => ?_)
  obtain ⟨rfl, rfl⟩ := hpost
  obtain ⟨hP1, hK1, hD1⟩ := hB
  rw [ht] at hP1
  exact kk H1 locs1 ⟨hw.1, hP1, xD_of (E.fst σ u) hw.2.2.1, hS1⟩
theorem x_callv {av : Array Value} {σ1 : xSt} {st0 : List Value} (hr : va_Run p l e R s m args below meth c H locs cells slots 0 0 (F0 m pc ls st0) rest (xQv E (va_A (E.W σ) H.size) σ1 av) (va_A (E.W σ) H.size)) (hw : xw E A H0 s σ H locs) (hA : ∀ q, H0.size ≤ q → A q)
    (kk : ∀ (H1 : Heap) (locs1 : List Loc), xw E A H0 s σ1 H1 locs1 → W p l e R s m args below meth c H1 locs1 cells slots Q (F0 m (pc + 3) ls rest)) : W p l e R s m args below meth c H locs cells slots Q (F0 m pc ls st0) := by
  refine va_callv hr hw.2.2.2 (fun q _ h => hw.free hA q h) (hw.free hA) (fun u t H1 locs1 ht hvm hpost hB hz1 hk1 hS1 => ?_)
  subst hpost
  obtain ⟨hP1, hK1, hD1⟩ := hB
  rw [ht] at hP1
  exact kk H1 locs1 ⟨hw.1, hP1, xD_of (E.fst σ u) hw.2.2.1, hS1⟩
/-! ends -/
theorem x_iret {v r0 : Int32} {σ1 : xSt} (hexec : p.tables.exec = Jvm.exec) (hb : c.code = cc) (hr : meth.sig.returnType = some .int) (hlocks : meth.locks = false) (hw : xw E A s.heap s σ H locs) (hf : some (v, σ) = some (r0, σ1)) (hdg : decode cc pc = .ok (.ireturn, 1)) : W p l e R s m args below meth c H locs cells slots (MQ below (xQi E A r0 σ1) args s cells slots A) (F0 m pc ls [.int v]) := by
  obtain ⟨rfl, rfl⟩ := Prod.mk.inj (Option.some.inj hf)
  exact W.iret hexec hb hr (fun t ht hW => ⟨⟨v, σ, rfl, ⟨rfl, rfl⟩, by rw [ht]; exact hw.2.1, va_K.moved hW.alike hw.1, hw.2.2.1⟩, hw.2.2.2.F ht⟩) hw.2.2.2.2.2 hdg hlocks
theorem x_zret {v r0 : Int32} {σ1 : xSt} (hexec : p.tables.exec = Jvm.exec) (hb : c.code = cc) (hr : meth.sig.returnType = some .boolean) (hlocks : meth.locks = false) (hw : xw E A s.heap s σ H locs) (hf : xb v (some (v, σ)) = some (r0, σ1)) (hdg : decode cc pc = .ok (.ireturn, 1)) : W p l e R s m args below meth c H locs cells slots (MQ below (xQi E A r0 σ1) args s cells slots A) (F0 m pc ls [.int v]) := by
  obtain ⟨h01, hf⟩ := xb_e hf
  obtain ⟨rfl, rfl⟩ := Prod.mk.inj (Option.some.inj hf)
  exact W.zret hexec hb hr (xnar h01) (fun t ht hW => ⟨⟨v, σ, rfl, ⟨rfl, rfl⟩, by rw [ht]; exact hw.2.1, va_K.moved hW.alike hw.1, hw.2.2.1⟩, hw.2.2.2.F ht⟩) hw.2.2.2.2.2 hdg hlocks
theorem x_zretc {v r0 : Int32} {σ1 : xSt} (hexec : p.tables.exec = Jvm.exec) (hb : c.code = cc) (hr : meth.sig.returnType = some .boolean) (hlocks : meth.locks = false) (hw : xw E A s.heap s σ H locs) (h01 : v = 0 ∨ v = 1) (hf : some (v, σ) = some (r0, σ1)) (hdg : decode cc pc = .ok (.ireturn, 1)) : W p l e R s m args below meth c H locs cells slots (MQ below (xQi E A r0 σ1) args s cells slots A) (F0 m pc ls [.int v]) :=
  x_zret hexec hb hr hlocks hw (by unfold xb; rw [if_pos h01]; exact hf) hdg
theorem x_vret {σ1 : xSt} (hexec : p.tables.exec = Jvm.exec) (hb : c.code = cc) (hr : meth.sig.returnType = none) (hlocks : meth.locks = false) (hw : xw E A s.heap s σ H locs) (hf : some σ = some σ1) (hdg : decode cc pc = .ok (.return_, 1)) : W p l e R s m args below meth c H locs cells slots (MQ below (xQv E A σ1) args s cells slots A) (F0 m pc ls []) := by
  obtain rfl := Option.some.inj hf
  exact W.vret hexec hb hr (fun t ht hW => ⟨⟨σ, rfl, rfl, by rw [ht]; exact hw.2.1, va_K.moved hW.alike hw.1, hw.2.2.1⟩, hw.2.2.2.F ht⟩) hw.2.2.2.2.2 hdg hlocks
/-! beginnings -/
end XR
/-- what a body of a method has at its entry -/
def xEn (p : Program) (s : State) (m : MethodId) (args : Array Value) (meth : Method) (c : Code) (cc : ByteArray) (maxL : Nat) (ret : Option FieldType) (ws : List Cond) (y : MethodName) : Prop :=
  p.tables.exec = Jvm.exec ∧ c.code = cc ∧ meth.sig.returnType = ret ∧ c.maxLocals = maxL ∧ s.vm.findClass y.cls = some m.cls ∧ (∀ w ∈ ws, w.before args s = true) ∧ meth.locks = false
theorem xMi_of {l : Launch} {y : MethodName} {ws ws' : List Cond} {rm : Room} {E : xE} {av : List Value} {σ : xSt} {r0 : Int32} {σ1 : xSt} {cc : ByteArray} {maxL : Nat} {ret : Option FieldType}
    (hy : plainName y.cls = true) (hws : ws = Cond.code y cc maxL ret :: ws') (hn : (lg_sl av).length ≤ maxL)
    (body : ∀ (p : Program) (e : Env) (s : State) (m : MethodId) (args : Array Value) (below : List Frame) (meth : Method) (c : Code) (A : Nat → Prop) (ls : Array Slot), xEn p s m args meth c cc maxL ret ws y → (∀ q, s.heap.size ≤ q → A q) → xG E.g A s s.heap → xw E A s.heap s σ s.heap [] → lv_has ls maxL (lv_args 0 av) →
      W p l e rm s m args below meth c s.heap [] 0 0 (MQ below (xQi E A r0 σ1) args s 0 0 A) (F0 m 0 ls [])) : xMi l y ws rm E av σ r0 σ1 := by
  intro sz
  refine Met.ofW (cc := cc) (maxL := maxL) (ret := ret) hy hws ?_
  intro p e s m args below meth c s₁ B hml hv
  obtain ⟨rfl, hsz, hP, hK, hD0, hG⟩ := hv
  subst hsz
  rw [lg_entry_eq]
  refine body p e s m _ below meth c _ _ ⟨B.exec, B.bytes, B.returns, hml, findClass_of_methodNamed B.named, atoms_spec (ws := ws) B.pre, B.notSynchronized⟩ (fun q h => Or.inr h) hG ⟨hK, hP, hD0.self, va_S.rf⟩ (lv_entry av hn)
theorem xMv_of {l : Launch} {y : MethodName} {ws ws' : List Cond} {rm : Room} {E : xE} {av : List Value} {σ : xSt} {σ1 : xSt} {cc : ByteArray} {maxL : Nat} {ret : Option FieldType}
    (hy : plainName y.cls = true) (hws : ws = Cond.code y cc maxL ret :: ws') (hn : (lg_sl av).length ≤ maxL)
    (body : ∀ (p : Program) (e : Env) (s : State) (m : MethodId) (args : Array Value) (below : List Frame) (meth : Method) (c : Code) (A : Nat → Prop) (ls : Array Slot), xEn p s m args meth c cc maxL ret ws y → (∀ q, s.heap.size ≤ q → A q) → xG E.g A s s.heap → xw E A s.heap s σ s.heap [] → lv_has ls maxL (lv_args 0 av) →
      W p l e rm s m args below meth c s.heap [] 0 0 (MQ below (xQv E A σ1) args s 0 0 A) (F0 m 0 ls [])) : xMv l y ws rm E av σ σ1 := by
  intro sz
  refine Met.ofW (cc := cc) (maxL := maxL) (ret := ret) hy hws ?_
  intro p e s m args below meth c s₁ B hml hv
  obtain ⟨rfl, hsz, hP, hK, hD0, hG⟩ := hv
  subst hsz
  rw [lg_entry_eq]
  refine body p e s m _ below meth c _ _ ⟨B.exec, B.bytes, B.returns, hml, findClass_of_methodNamed B.named, atoms_spec (ws := ws) B.pre, B.notSynchronized⟩ (fun q h => Or.inr h) hG ⟨hK, hP, hD0.self, va_S.rf⟩ (lv_entry av hn)
