/-! ===== ROWS FOR THE JDK'S TEXTS: objects and byte arrays behind the world ===== -/
abbrev xBytes (c : ClassId) (n : Nat) (f : Nat → Int32) : va_E := .inl (c, n, .inl f)
theorem xGL.kb {g : Nat × Nat × (Nat → Nat)} {A : Nat → Prop} {U : State} {H : Heap} (h : xGL g A U H) : ArrOfT U (g.2.2 21) .byte ∧ va_RA U (g.2.2 21) .byte := h.2.2.2.2.2.2.2.2.2.2.1
theorem xGL.kn {g : Nat × Nat × (Nat → Nat)} {A : Nat → Prop} {U : State} {H : Heap} (h : xGL g A U H) : va_Nw (.castable "[B" "java/lang/Cloneable") U := h.2.2.2.2.2.2.2.2.2.2.2
theorem xB_str : ("[" ++ (FieldType.byte).toString) = "[B" := by decide +kernel
theorem xw.kb {E : xE} {A : Nat → Prop} {H0 : Heap} {s : State} {σ : xSt} {H : Heap} {locs : List Loc} (hw : xw E A H0 s σ H locs) {cB : ClassId} (hB : ArrOfT s cB .byte ∧ va_RA s cB .byte) : va_K E.D vwCl [(cB, .byte)] s := ⟨hw.1.1, fun k q hk => by
  match k, hk with
  | 0, hk => cases hk; exact hB
  | j + 1, hk => exact absurd hk (by simp)⟩
section XJR
variable {p : Program} {l : Launch} {e : Env} {R : Room} {s : State} {m : MethodId} {args : Array Value} {below : List Frame} {meth : Method} {c : Code} {H : Heap} {locs : List Loc} {cells slots : Nat} {Q : State → Prop}
variable {cc : ByteArray} {pc : Nat} {ls : Array Slot} {rest : List Value} {E : xE} {A : Nat → Prop} {H0 : Heap} {σ : xSt} {X : va_W} {cB : ClassId}
theorem x_getX (hexec : p.tables.exec = Jvm.exec) (hb : c.code = cc) (hw : xw (xPlus E X) A H0 s σ H locs) (q : Nat) {a ci : Nat} {fs : List Value} (hq : X[q]? = some (a, .inr (ci, fs))) {own ref C : String} {T : u_T} {N index : Nat} {Ts : List Cond} (hts : ∀ w ∈ Ts, w.before args s = true) (hin : ∀ w ∈ u_ws C T N, w ∈ Ts) (hown : s.vm.findClass own = some m.cls) (hc : vwCl[ci]? = some (C, T, N)) (k : Nat) (hk : k < N) (hlink : (Cond.fieldLink own index ref (T k).2.1 (T k).2.2.1).before args s = true) (hsame : ∀ x, s.fieldFound? (T k).1 (T k).2.1 (T k).2.2.1 = some x → s.fieldFound? ref (T k).2.1 (T k).2.2.1 = some x) {v : Value} (hf : fs[k]? = some v) (hdg : decode cc pc = .ok (.getfield index, 3))
    (kk : W p l e R s m args below meth c H locs cells slots Q (F0 m (pc + 3) ls (v :: rest))) : W p l e R s m args below meth c H locs cells slots Q (F0 m pc ls (.ref a :: rest)) :=
  va_get hexec hb hts hin hown hw.1 hw.2.1 _ (xPlus_at hq) hc k hk hlink hsame hf hdg kk
theorem x_putX (hexec : p.tables.exec = Jvm.exec) (hb : c.code = cc) (hw : xw (xPlus E X) A H0 s σ H locs) (q : Nat) {a ci : Nat} {fs : List Value} (hq : X[q]? = some (a, .inr (ci, fs))) {own ref C : String} {T : u_T} {N index : Nat} {Ts : List Cond} (hts : ∀ w ∈ Ts, w.before args s = true) (hin : ∀ w ∈ u_ws C T N, w ∈ Ts) (ty0 : Nat → FieldType) (hty : ∀ k, k < N → parseFieldDescriptor (T k).2.2.1 = some (ty0 k)) (hnm : ∀ a, a < N → ∀ b, b < N → a ≠ b → (T a).2.1 ≠ (T b).2.1) (hown : s.vm.findClass own = some m.cls) (hc : vwCl[ci]? = some (C, T, N)) (k : Nat) (hk : k < N) (hlink : (Cond.fieldLink own index ref (T k).2.1 (T k).2.2.1).before args s = true) (hsame : ∀ x, s.fieldFound? (T k).1 (T k).2.1 (T k).2.2.1 = some x → s.fieldFound? ref (T k).2.1 (T k).2.2.1 = some x) (hfin : (T k).2.2.2 = false) {ty : FieldType} {v : Value} (hd : parseFieldDescriptor (T k).2.2.1 = some ty) (hn : narrow ty v = v) (hfit : fits ty v = true) (hl : k < fs.length) (hdg : decode cc pc = .ok (.putfield index, 3))
    (kk : ∀ (H1 : Heap) (locs1 : List Loc), xw (xPlus E (X.set q (a, .inr (ci, fs.set k v)))) A H0 s σ H1 locs1 → W p l e R s m args below meth c H1 locs1 cells slots Q (F0 m (pc + 3) ls rest)) : W p l e R s m args below meth c H locs cells slots Q (F0 m pc ls (v :: .ref a :: rest)) := by
  refine va_put hexec hb hts hin ty0 hty hnm hown hw.1 hw.2.1 hw.2.2.1 hw.2.2.2 _ (xPlus_at hq) hc k hk hlink hsame hfin hd hn hfit hl hdg (fun H1 locs1 hP hD hS => ?_)
  rw [xPlus_set] at hP hD
  exact kk H1 locs1 ⟨hw.1, hP, hD, hS⟩
theorem x_putFX (hexec : p.tables.exec = Jvm.exec) (hb : c.code = cc) (hw : xw (xPlus E X) A H0 s σ H locs) (q : Nat) {a ci : Nat} {fs : List Value} (hq : X[q]? = some (a, .inr (ci, fs))) {own ref C : String} {T : u_T} {N index : Nat} {Ts : List Cond} (hts : ∀ w ∈ Ts, w.before args s = true) (hin : ∀ w ∈ u_ws C T N, w ∈ Ts) (ty0 : Nat → FieldType) (hty : ∀ k, k < N → parseFieldDescriptor (T k).2.2.1 = some (ty0 k)) (hnm : ∀ a, a < N → ∀ b, b < N → a ≠ b → (T a).2.1 ≠ (T b).2.1) (hown : s.vm.findClass own = some m.cls) (hc : vwCl[ci]? = some (C, T, N)) (k : Nat) (hk : k < N) (hlink : (Cond.fieldLink own index ref (T k).2.1 (T k).2.2.1).before args s = true) (hsame : ∀ x, s.fieldFound? (T k).1 (T k).2.1 (T k).2.2.1 = some x → s.fieldFound? ref (T k).2.1 (T k).2.2.1 = some x) (hfin : (T k).2.2.2 = true) (hin2 : meth.name = "<init>") (hdecl : (T k).1 = own) {ty : FieldType} {v : Value} (hd : parseFieldDescriptor (T k).2.2.1 = some ty) (hn : narrow ty v = v) (hfit : fits ty v = true) (hl : k < fs.length) (hdg : decode cc pc = .ok (.putfield index, 3))
    (kk : ∀ (H1 : Heap) (locs1 : List Loc), xw (xPlus E (X.set q (a, .inr (ci, fs.set k v)))) A H0 s σ H1 locs1 → W p l e R s m args below meth c H1 locs1 cells slots Q (F0 m (pc + 3) ls rest)) : W p l e R s m args below meth c H locs cells slots Q (F0 m pc ls (v :: .ref a :: rest)) := by
  refine va_putF hexec hb hts hin ty0 hty hnm hown hw.1 hw.2.1 hw.2.2.1 hw.2.2.2 _ (xPlus_at hq) hc k hk hlink hsame hfin hin2 hdecl hd hn hfit hl hdg (fun H1 locs1 hP hD hS => ?_)
  rw [xPlus_set] at hP hD
  exact kk H1 locs1 ⟨hw.1, hP, hD, hS⟩
theorem x_alenB (hexec : p.tables.exec = Jvm.exec) (hb : c.code = cc) (hB : ArrOfT s cB .byte ∧ va_RA s cB .byte) (hw : xw (xPlus E X) A H0 s σ H locs) (q : Nat) {a n : Nat} {f : Nat → Int32} (hq : X[q]? = some (a, xBytes cB n f)) {v : Int32} (hv : Int32.ofNat n = v) (hdg : decode cc pc = .ok (.arraylength, 1))
    (kk : W p l e R s m args below meth c H locs cells slots Q (F0 m (pc + 1) ls (.int v :: rest))) : W p l e R s m args below meth c H locs cells slots Q (F0 m pc ls (.ref a :: rest)) :=
  va_alen hexec hb (hw.kb hB) hw.2.1 _ 0 (cA := cB) (x := (n, .inl f)) (xPlus_at hq) rfl hv hdg kk
theorem x_bld (hexec : p.tables.exec = Jvm.exec) (hb : c.code = cc) (hB : ArrOfT s cB .byte ∧ va_RA s cB .byte) (hw : xw (xPlus E X) A H0 s σ H locs) (q : Nat) {a n : Nat} {f : Nat → Int32} (hq : X[q]? = some (a, xBytes cB n f)) {i : Int32} (hin : vp_in i n) (hdg : decode cc pc = .ok (.baload, 1))
    (kk : W p l e R s m args below meth c H locs cells slots Q (F0 m (pc + 1) ls (.int (f i.toNatClampNeg) :: rest))) : W p l e R s m args below meth c H locs cells slots Q (F0 m pc ls (.int i :: .ref a :: rest)) :=
  va_bald hexec hb (hw.kb hB) hw.2.1 _ 0 (cA := cB) (n := n) (f := f) (xPlus_at hq) rfl hin hdg kk
theorem x_bst (hexec : p.tables.exec = Jvm.exec) (hb : c.code = cc) (hB : ArrOfT s cB .byte ∧ va_RA s cB .byte) (hw : xw (xPlus E X) A H0 s σ H locs) (q : Nat) {a n : Nat} {f : Nat → Int32} (hq : X[q]? = some (a, xBytes cB n f)) {i v : Int32} (hin : vp_in i n) (hdg : decode cc pc = .ok (.bastore, 1))
    (kk : ∀ (H1 : Heap) (locs1 : List Loc), xw (xPlus E (X.set q (a, xBytes cB n (upd f i.toNatClampNeg (vp_nar .byte v))))) A H0 s σ H1 locs1 → W p l e R s m args below meth c H1 locs1 cells slots Q (F0 m (pc + 1) ls rest)) : W p l e R s m args below meth c H locs cells slots Q (F0 m pc ls (.int v :: .int i :: .ref a :: rest)) := by
  refine va_bast hexec hb (hw.kb hB) hw.2.1 hw.2.2.1 hw.2.2.2 _ 0 (cA := cB) (n := n) (f := f) (xPlus_at hq) rfl hin hdg (fun H1 locs1 hP hD hS => ?_)
  rw [xPlus_set] at hP hD
  exact kk H1 locs1 ⟨hw.1, hP, hD, hS⟩
theorem x_newB (hexec : p.tables.exec = Jvm.exec) (hb : c.code = cc) (harr : (Cond.arrayClass .byte).before args s = true) (hB : ArrOfT s cB .byte ∧ va_RA s cB .byte) (hw : xw (xPlus E X) A H0 s σ H locs) (hA : ∀ q, H0.size ≤ q → A q) {n : Int32} {N' : Nat} (hn : ¬ n < 0) (hN : n.toNatClampNeg = N') (hbytes : N' * 1 ≤ 536870912) (hcells : cells + 1 ≤ R.cells) (hslots : slots + N' ≤ R.slots) (hdg : decode cc pc = .ok (.newarray .byte, 2))
    (kk : ∀ (q : Nat) (H1 : Heap), xw (xPlus E (X ++ [(q, xBytes cB N' (fun _ => 0))])) A H0 s σ H1 locs → W p l e R s m args below meth c H1 locs (cells + 1) (slots + N') Q (F0 m (pc + 2) ls (.ref q :: rest))) : W p l e R s m args below meth c H locs cells slots Q (F0 m pc ls (.int n :: rest)) := by
  refine va_newa (atype := .byte) (ty := .byte) (a0 := (N', .inl (fun _ => 0))) hexec hb harr rfl (hw.kb hB) hw.2.1 hw.2.2.1 hw.2.2.2 hA (fun _ => rfl) hn hN hbytes hcells hslots hdg (fun q cA' H1 hK1 hP1 hD1 hS1 => ?_)
  have e1 : s.vm.findClass ("[" ++ (FieldType.byte).toString) = some cB := hB.2
  have e2 : s.vm.findClass ("[" ++ (FieldType.byte).toString) = some cA' := (hK1.2 1 _ rfl).2
  obtain rfl : cB = cA' := Option.some.inj (e1.symm.trans e2)
  refine kk q H1 ⟨hw.1, ?_, ?_, hS1⟩
  · rw [xPlus_W2]; exact hP1
  · rw [xPlus_W2]; exact hD1
theorem x_copyB (hexec : p.tables.exec = Jvm.exec) (hb : c.code = cc) (hml : c.maxLocals = ls.size) (hB : ArrOfT s cB .byte ∧ va_RA s cB .byte) (hw : xw (xPlus E X) A H0 s σ H locs) {own : String} {index : Nat} (hown : s.vm.findClass own = some m.cls) (hlink : (Cond.methodLink own index arraycopyName).before args s = true) (hnat : (Cond.native arraycopyName).before args s = true) (hstat : (Cond.static arraycopyName).before args s = true) (hini : (Cond.initialized "java/lang/System").before args s = true)
    (q0 q1 : Nat) {a0 a1 n0 n1 : Nat} {f g : Nat → Int32} (hq0 : X[q0]? = some (a0, xBytes cB n0 f)) (hq1 : X[q1]? = some (a1, xBytes cB n1 g)) {sp dp n : Int32} (h1 : ¬ sp < 0) (h2 : ¬ dp < 0) (h3 : ¬ n < 0) (h4 : sp.toNatClampNeg + n.toNatClampNeg ≤ n0) (h5 : dp.toNatClampNeg + n.toNatClampNeg ≤ n1) (hfit : sb_Fit f)
    (hframes : 1 ≤ R.frames) (hlocals : (rest.map fun v => v.category).sum + (nativeFrameWords "java/lang/System" "arraycopy" 5 + 11) ≤ R.locals) (hdg : decode cc pc = .ok (.invokestatic index, 3))
    (kk : ∀ (H1 : Heap) (locs1 : List Loc), xw (xPlus E (X.set q1 (a1, xBytes cB n1 (va_cpy f g sp.toNatClampNeg dp.toNatClampNeg n.toNatClampNeg)))) A H0 s σ H1 locs1 → W p l e R s m args below meth c H1 locs1 cells slots Q (F0 m (pc + 3) ls rest)) : W p l e R s m args below meth c H locs cells slots Q (F0 m pc ls (.int n :: .int dp :: .ref a1 :: .int sp :: .ref a0 :: rest)) := by
  refine va_copyi hexec hb hml hown hlink hnat hstat hini (hw.kb hB) hw.2.1 hw.2.2.1 hw.2.2.2 _ _ 0 0 (c0 := cB) (c1 := cB) (n0 := n0) (n1 := n1) (f := f) (g := g) (ty := .byte) (xPlus_at hq0) (xPlus_at hq1) rfl rfl rfl h1 h2 h3 h4 h5 (fun i _ => hfit _) hframes hlocals hdg (fun H1 locs1 hP hD hS => ?_)
  rw [xPlus_set] at hP hD
  exact kk H1 locs1 ⟨hw.1, hP, hD, hS⟩
theorem x_copyK (hexec : p.tables.exec = Jvm.exec) (hb : c.code = cc) (hml : c.maxLocals = ls.size) (hB : ArrOfT s cB .byte ∧ va_RA s cB .byte) (hw : xw (xPlus E X) A s.heap s σ H locs) {own : String} {index : Nat} (hown : s.vm.findClass own = some m.cls) (hlink : (Cond.methodLink own index arraycopyName).before args s = true) (hnat : (Cond.native arraycopyName).before args s = true) (hstat : (Cond.static arraycopyName).before args s = true) (hini : (Cond.initialized "java/lang/System").before args s = true)
    {b0 n0 : Nat} {f : Nat → Int32} (hX : va_T .byte b0 n0 (fun j => .int (f j)) A s s.heap) (q1 : Nat) {a1 n1 : Nat} {g : Nat → Int32} (hq1 : X[q1]? = some (a1, xBytes cB n1 g)) {sp dp n : Int32} (h1 : ¬ sp < 0) (h2 : ¬ dp < 0) (h3 : ¬ n < 0) (h4 : sp.toNatClampNeg + n.toNatClampNeg ≤ n0) (h5 : dp.toNatClampNeg + n.toNatClampNeg ≤ n1) (hfit : sb_Fit f)
    (hframes : 1 ≤ R.frames) (hlocals : (rest.map fun v => v.category).sum + (nativeFrameWords "java/lang/System" "arraycopy" 5 + 11) ≤ R.locals) (hdg : decode cc pc = .ok (.invokestatic index, 3))
    (kk : ∀ (H1 : Heap) (locs1 : List Loc), xw (xPlus E (X.set q1 (a1, xBytes cB n1 (va_cpy f g sp.toNatClampNeg dp.toNatClampNeg n.toNatClampNeg)))) A s.heap s σ H1 locs1 → W p l e R s m args below meth c H1 locs1 cells slots Q (F0 m (pc + 3) ls rest)) : W p l e R s m args below meth c H locs cells slots Q (F0 m pc ls (.int n :: .int dp :: .ref a1 :: .int sp :: .ref b0 :: rest)) := by
  refine vk_copyt hexec hb hml hown hlink hnat hstat hini (hw.kb hB) hw.2.1 hw.2.2.1 hw.2.2.2 hX _ 0 (c1 := cB) (n1 := n1) (g := g) (xPlus_at hq1) rfl h1 h2 h3 h4 h5 (fun i _ => hfit _) hframes hlocals hdg (fun H1 locs1 hP hD hS => ?_)
  rw [xPlus_set] at hP hD
  exact kk H1 locs1 ⟨hw.1, hP, hD, hS⟩
/-! calls -/
theorem x_preLX (av : List Value) (hw : xw (xPlus E X) A s.heap s σ H locs) (hA : ∀ q, s.heap.size ≤ q → A q) (hG : xGL E.g A s s.heap) {q a ci : Nat} {fs : List Value} (hq : X[q]? = some (a, .inr (ci, fs))) {C : String} {T : u_T} {N : Nat} (hc : vwCl[ci]? = some (C, T, N)) : PreV s H C a (xPreL (xPlus E X) (.ref a :: av) σ H.size) av :=
  ⟨xPreL_blind, va_recv hw.1 hw.2.1 hc (xPlus_at hq), xPreL_of _ hw hA hG⟩
theorem x_preLK (av : List Value) (hw : xw E A s.heap s σ H locs) (hA : ∀ q, s.heap.size ≤ q → A q) (hG : xGL E.g A s s.heap) {i : Nat} (hi : i < 2) : PreV s H "java/lang/String" (E.g.2.2 (12 + i)) (xPreL E (.ref (E.g.2.2 (12 + i)) :: av) σ H.size) av :=
  ⟨xPreL_blind, vk_recv (adK := fun i => E.g.2.2 (12 + i)) hG.2.2.2.2.2.1 hi hw.2.2.2, xPreL_of _ hw hA hG⟩
/-- contracts that leave another world behind -/
abbrev xQv2 (E : xE) (A : Nat → Prop) (P : va_W → Prop) (σ1 : xSt) : Array Value → State → Outcome → State → Prop := va_Qv (S := va_W) P (fun X t => xat (xPlus E X) A σ1 t) A
abbrev xQr2 (E : xE) (A : Nat → Prop) (P : va_W → Nat → Prop) (σ1 : xSt) : Array Value → State → Outcome → State → Prop := va_Qr (S := va_W) (fun _ => True) (fun X r t => P X r ∧ xat (xPlus E X) A σ1 t) A
theorem x_callJv {av : Array Value} {P : va_W → Prop} {σ1 : xSt} {st0 : List Value} {mc ms : Nat} (hr : va_Run p l e R s m args below meth c H locs cells slots mc ms (F0 m pc ls st0) rest (xQv2 E (va_A ((xPlus E X).W σ) H.size) P σ1 av) (va_A ((xPlus E X).W σ) H.size)) (hw : xw (xPlus E X) A H0 s σ H locs) (hA : ∀ q, H0.size ≤ q → A q)
    (kk : ∀ (X1 : va_W) (H1 : Heap) (locs1 : List Loc), P X1 → xw (xPlus E X1) A H0 s σ1 H1 locs1 → W p l e R s m args below meth c H1 locs1 (cells + mc) (slots + ms) Q (F0 m (pc + 3) ls rest)) : W p l e R s m args below meth c H locs cells slots Q (F0 m pc ls st0) := by
  refine va_callv hr hw.2.2.2 (fun q _ h => hw.free hA q h) (hw.free hA) (fun u t H1 locs1 ht hvm hpost hB hz1 hk1 hS1 => ?_)
  obtain ⟨hP1, hK1, hD1⟩ := hB
  rw [ht] at hP1
  exact kk u H1 locs1 hpost ⟨hw.1, hP1, ⟨hD1.1, fun k z hk => hw.free hA _ (hD1.2 k z hk)⟩, hS1⟩
theorem x_callJr {av : Array Value} {P : va_W → Nat → Prop} {σ1 : xSt} {st0 : List Value} {mc ms : Nat} (hr : va_Run p l e R s m args below meth c H locs cells slots mc ms (F0 m pc ls st0) rest (xQr2 E (va_A ((xPlus E X).W σ) H.size) P σ1 av) (va_A ((xPlus E X).W σ) H.size)) (hw : xw (xPlus E X) A H0 s σ H locs) (hA : ∀ q, H0.size ≤ q → A q)
    (kk : ∀ (X1 : va_W) (r : Nat) (H1 : Heap) (locs1 : List Loc), P X1 r → xw (xPlus E X1) A H0 s σ1 H1 locs1 → W p l e R s m args below meth c H1 locs1 (cells + mc) (slots + ms) Q (F0 m (pc + 3) ls (.ref r :: rest))) : W p l e R s m args below meth c H locs cells slots Q (F0 m pc ls st0) := by
  refine va_callr hr hw.2.2.2 (fun q _ h => hw.free hA q h) (hw.free hA) (fun u ra t H1 locs1 ht hvm hpost hB hz1 hk1 hS1 => ?_)
  obtain ⟨hp, hP1, hK1, hD1⟩ := hB
  rw [ht] at hP1
  exact kk u ra H1 locs1 hp ⟨hw.1, hP1, ⟨hD1.1, fun k z hk => hw.free hA _ (hD1.2 k z hk)⟩, hS1⟩
/-! ends -/
theorem x_Jvret {P : va_W → Prop} {mc ms : Nat} (hexec : p.tables.exec = Jvm.exec) (hb : c.code = cc) (hr : meth.sig.returnType = none) (hlocks : meth.locks = false) (hw : xw (xPlus E X) A s.heap s σ H locs) (hp : P X) (hc : cells ≤ mc) (hs : slots ≤ ms) (hdg : decode cc pc = .ok (.return_, 1)) : W p l e R s m args below meth c H locs cells slots (MQ below (xQv2 E A P σ) args s mc ms A) (F0 m pc ls []) :=
  W.widen hc hs (W.vret hexec hb hr (fun t ht hW => ⟨⟨X, rfl, hp, by rw [ht]; exact hw.2.1, va_K.moved hW.alike hw.1, hw.2.2.1⟩, hw.2.2.2.F ht⟩) hw.2.2.2.2.2 hdg hlocks)
theorem x_Jaret {P : va_W → Nat → Prop} {rt : FieldType} {r : Nat} {mc ms : Nat} (hexec : p.tables.exec = Jvm.exec) (hb : c.code = cc) (hr : meth.sig.returnType = some rt) (hrt : (∃ n, rt = .object n) ∨ ∃ t, rt = .array t) (hlocks : meth.locks = false) (hw : xw (xPlus E X) A s.heap s σ H locs) (hp : P X r) (hc : cells ≤ mc) (hs : slots ≤ ms) (hdg : decode cc pc = .ok (.areturn, 1)) : W p l e R s m args below meth c H locs cells slots (MQ below (xQr2 E A P σ) args s mc ms A) (F0 m pc ls [.ref r]) :=
  W.widen hc hs (W.aret hexec hb hr hrt (Or.inr ⟨r, rfl⟩) (fun t ht hW => ⟨⟨X, r, rfl, trivial, hp, by rw [ht]; exact hw.2.1, va_K.moved hW.alike hw.1, hw.2.2.1⟩, hw.2.2.2.F ht⟩) hw.2.2.2.2.2 hdg hlocks)
theorem x_Jiret {ty : FieldType} {v : Int32} {mc ms : Nat} (hexec : p.tables.exec = Jvm.exec) (hb : c.code = cc) (hr : meth.sig.returnType = some ty) (hn : narrow ty (.int v) = .int v) (hlocks : meth.locks = false) (hw : xw E A s.heap s σ H locs) (hc : cells ≤ mc) (hs : slots ≤ ms) (hdg : decode cc pc = .ok (.ireturn, 1)) : W p l e R s m args below meth c H locs cells slots (MQ below (xQi E A v σ) args s mc ms A) (F0 m pc ls [.int v]) :=
  W.widen hc hs (W.zret hexec hb hr hn (fun t ht hW => ⟨⟨v, σ, rfl, ⟨rfl, rfl⟩, by rw [ht]; exact hw.2.1, va_K.moved hW.alike hw.1, hw.2.2.1⟩, hw.2.2.2.F ht⟩) hw.2.2.2.2.2 hdg hlocks)
end XJR
def xJv (l : Launch) (y : MethodName) (ws : List Cond) (rm : Room) (E : xE) (X : va_W) (av : List Value) (σ : xSt) (P : va_W → Prop) (mc ms : Nat) : Prop := ∀ sz : Nat, Met l y ws rm (xPreL (xPlus E X) av σ sz) (xQv2 E (va_A ((xPlus E X).W σ) sz) P σ) mc ms (va_A ((xPlus E X).W σ) sz)
def xJr (l : Launch) (y : MethodName) (ws : List Cond) (rm : Room) (E : xE) (X : va_W) (av : List Value) (σ : xSt) (P : va_W → Nat → Prop) (mc ms : Nat) : Prop := ∀ sz : Nat, Met l y ws rm (xPreL (xPlus E X) av σ sz) (xQr2 E (va_A ((xPlus E X).W σ) sz) P σ) mc ms (va_A ((xPlus E X).W σ) sz)
/-- any contract over the law's given things, from the walk of its body -/
theorem xJ_of {l : Launch} {y : MethodName} {ws ws' : List Cond} {rm : Room} {E : xE} {av : List Value} {σ : xSt} {cc : ByteArray} {maxL mc ms : Nat} {ret : Option FieldType} {QF : (Nat → Prop) → Array Value → State → Outcome → State → Prop} (sz : Nat)
    (hy : plainName y.cls = true) (hws : ws = Cond.code y cc maxL ret :: ws') (hn : (lg_sl av).length ≤ maxL)
    (body : ∀ (p : Program) (e : Env) (s : State) (m : MethodId) (args : Array Value) (below : List Frame) (meth : Method) (c : Code) (A : Nat → Prop) (ls : Array Slot), xEn p s m args meth c cc maxL ret ws y → meth.name = y.name → (∀ q, s.heap.size ≤ q → A q) → xGL E.g A s s.heap → xw E A s.heap s σ s.heap [] → lv_has ls maxL (lv_args 0 av) →
      W p l e rm s m args below meth c s.heap [] 0 0 (MQ below (QF A) args s mc ms A) (F0 m 0 ls [])) : Met l y ws rm (xPreL E av σ sz) (QF (va_A (E.W σ) sz)) mc ms (va_A (E.W σ) sz) := by
  refine Met.ofW (cc := cc) (maxL := maxL) (ret := ret) hy hws ?_
  intro p e s m args below meth c s₁ B hml hv
  obtain ⟨rfl, hsz, hP, hK, hD0, hG⟩ := hv
  subst hsz
  rw [lg_entry_eq]
  refine body p e s m _ below meth c _ _ ⟨B.exec, B.bytes, B.returns, hml, findClass_of_methodNamed B.named, atoms_spec (ws := ws) B.pre, B.notSynchronized⟩ (name_of_methodNamed B.named B.method).1 (fun q h => Or.inr h) hG ⟨hK, hP, hD0.self, va_S.rf⟩ (lv_entry av hn)
