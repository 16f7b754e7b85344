/-! ===== METHODS THAT MAY DRAW ===== -/
abbrev xQd (E : xE) (A : Nat → Prop) (v0 : UInt64) (σ1 : xSt) : Array Value → State → Outcome → State → Prop := va_Qd (S := xSt) (fun r u => alike64 r v0 = true ∧ u = σ1) (fun u t => xat E A u t) A
def xMd (l : Launch) (y : MethodName) (ws : List Cond) (rm : Room) (E : xE) (av : List Value) (σ : xSt) (v0 : UInt64) (σ1 : xSt) : Prop := ∀ sz : Nat, MetD lw_cs l y ws rm (xPre E av σ sz) (xQd E (va_A (E.W σ) sz) v0 σ1) 0 0 (va_A (E.W σ) sz)
theorem x_dretD {p : Program} {l : Launch} {e : Env} {R : Room} {s0 : State} {m : MethodId} {args : Array Value} {below : List Frame} {meth : Method} {c : Code} {H : Heap} {locs : List Loc} {cells slots : Nat} {cc : ByteArray} {pc : Nat} {ls : Array Slot} {E : xE} {A : Nat → Prop} {σ : xSt} {d0 d1 : Drawn} {r v v0 : UInt64} {σ1 : xSt}
    (hd : s0.drawn.sameBut d1 lw_cs) (hal : alike64 r v = true) (hexec : p.tables.exec = Jvm.exec) (hb : c.code = cc) (hr : meth.sig.returnType = some .double) (hlocks : meth.locks = false) (hw : xw E A (s0.setDrawn d0).heap (s0.setDrawn d0) σ H locs) (hf : some (v, σ) = some (v0, σ1)) (hdg : decode cc pc = .ok (.dreturn, 1)) :
    W p l e R (s0.setDrawn d1) m args below meth c H locs cells slots (MQD lw_cs below (xQd E A v0 σ1) args s0 cells slots A) (F0 m pc ls [.double r]) := by
  obtain ⟨rfl, rfl⟩ := Prod.mk.inj (Option.some.inj hf)
  refine W.endD hd ?_
  have hK : va_K E.D vwCl [(E.cA, .int)] (s0.setDrawn d1) := hw.1
  exact W.dret hexec hb hr (fun t ht hW => ⟨⟨r, σ, rfl, ⟨hal, rfl⟩, by rw [ht]; exact hw.2.1, va_K.moved hW.alike hK, hw.2.2.1⟩, hw.2.2.2.F ht⟩) hw.2.2.2.2.2 hdg hlocks
theorem xMd_of {l : Launch} {y : MethodName} {ws ws' : List Cond} {rm : Room} {E : xE} {av : List Value} {σ : xSt} {v0 : UInt64} {σ1 : xSt} {cc : ByteArray} {maxL : Nat} {ret : Option FieldType}
    (hy : plainName y.cls = true) (hws : ws = Cond.code y cc maxL ret :: ws') (hn : (lg_sl av).length ≤ maxL)
    (body : ∀ (p : Program) (e : Env) (s0 s : State) (m : MethodId) (args : Array Value) (below : List Frame) (meth : Method) (c : Code) (A : Nat → Prop) (ls : Array Slot) (d0 : Drawn), s = s0.setDrawn d0 → s0.drawn.sameBut d0 lw_cs → xEn p s m args meth c cc maxL ret ws y → (∀ q, s.heap.size ≤ q → A q) → xG E.g A s s.heap → xw E A s.heap s σ s.heap [] → lv_has ls maxL (lv_args 0 av) →
      W p l e rm s m args below meth c s.heap [] 0 0 (MQD lw_cs below (xQd E A v0 σ1) args s0 0 0 A) (F0 m 0 ls [])) : xMd l y ws rm E av σ v0 σ1 := by
  intro sz
  refine MetD.ofW (cc := cc) (maxL := maxL) (ret := ret) hy hws ?_
  intro p e s m args below meth c s₁ B hml hv hd0
  obtain ⟨rfl, hsz, hP, hK, hD0, hG⟩ := hv
  subst hsz
  rw [lg_entry_eq]
  have hG' : xG E.g (va_A (E.W σ) s.heap.size) (s.setDrawn s.drawn) (s.setDrawn s.drawn).heap := xG.same (u := s) rfl hG
  exact body p e s (s.setDrawn s.drawn) m _ below meth c (va_A (E.W σ) s.heap.size) _ s.drawn rfl hd0 ⟨B.exec, B.bytes, B.returns, hml, findClass_of_methodNamed B.named, dr_words (atoms_spec (ws := ws) B.pre) s.drawn, B.notSynchronized⟩ (fun q h => Or.inr h) hG' ⟨va_K.moved (u := s) (Vm.Alike.refl s.vm) hK, hP, hD0.self, va_S.rf⟩ (lv_entry av hn)
abbrev xQf (E : xE) (A : Nat → Prop) (v0 : UInt32) (σ1 : xSt) : Array Value → State → Outcome → State → Prop := va_Qf (S := xSt) (fun r u => alike32 r v0 = true ∧ u = σ1) (fun u t => xat E A u t) A
def xMf (l : Launch) (y : MethodName) (ws : List Cond) (rm : Room) (E : xE) (av : List Value) (σ : xSt) (v0 : UInt32) (σ1 : xSt) : Prop := ∀ sz : Nat, MetD lw_cs l y ws rm (xPre E av σ sz) (xQf E (va_A (E.W σ) sz) v0 σ1) 0 0 (va_A (E.W σ) sz)
theorem x_fretD {p : Program} {l : Launch} {e : Env} {R : Room} {s0 : State} {m : MethodId} {args : Array Value} {below : List Frame} {meth : Method} {c : Code} {H : Heap} {locs : List Loc} {cells slots : Nat} {cc : ByteArray} {pc : Nat} {ls : Array Slot} {E : xE} {A : Nat → Prop} {σ : xSt} {d0 d1 : Drawn} {r v v0 : UInt32} {σ1 : xSt}
    (hd : s0.drawn.sameBut d1 lw_cs) (hal : alike32 r v = true) (hexec : p.tables.exec = Jvm.exec) (hb : c.code = cc) (hr : meth.sig.returnType = some .float) (hlocks : meth.locks = false) (hw : xw E A (s0.setDrawn d0).heap (s0.setDrawn d0) σ H locs) (hf : some (v, σ) = some (v0, σ1)) (hdg : decode cc pc = .ok (.freturn, 1)) :
    W p l e R (s0.setDrawn d1) m args below meth c H locs cells slots (MQD lw_cs below (xQf E A v0 σ1) args s0 cells slots A) (F0 m pc ls [.float r]) := by
  obtain ⟨rfl, rfl⟩ := Prod.mk.inj (Option.some.inj hf)
  refine W.endD hd ?_
  have hK : va_K E.D vwCl [(E.cA, .int)] (s0.setDrawn d1) := hw.1
  exact W.fret hexec hb hr (fun t ht hW => ⟨⟨r, σ, rfl, ⟨hal, rfl⟩, by rw [ht]; exact hw.2.1, va_K.moved hW.alike hK, hw.2.2.1⟩, hw.2.2.2.F ht⟩) hw.2.2.2.2.2 hdg hlocks
theorem xMf_of {l : Launch} {y : MethodName} {ws ws' : List Cond} {rm : Room} {E : xE} {av : List Value} {σ : xSt} {v0 : UInt32} {σ1 : xSt} {cc : ByteArray} {maxL : Nat} {ret : Option FieldType}
    (hy : plainName y.cls = true) (hws : ws = Cond.code y cc maxL ret :: ws') (hn : (lg_sl av).length ≤ maxL)
    (body : ∀ (p : Program) (e : Env) (s0 s : State) (m : MethodId) (args : Array Value) (below : List Frame) (meth : Method) (c : Code) (A : Nat → Prop) (ls : Array Slot) (d0 : Drawn), s = s0.setDrawn d0 → s0.drawn.sameBut d0 lw_cs → xEn p s m args meth c cc maxL ret ws y → (∀ q, s.heap.size ≤ q → A q) → xG E.g A s s.heap → xw E A s.heap s σ s.heap [] → lv_has ls maxL (lv_args 0 av) →
      W p l e rm s m args below meth c s.heap [] 0 0 (MQD lw_cs below (xQf E A v0 σ1) args s0 0 0 A) (F0 m 0 ls [])) : xMf l y ws rm E av σ v0 σ1 := by
  intro sz
  refine MetD.ofW (cc := cc) (maxL := maxL) (ret := ret) hy hws ?_
  intro p e s m args below meth c s₁ B hml hv hd0
  obtain ⟨rfl, hsz, hP, hK, hD0, hG⟩ := hv
  subst hsz
  rw [lg_entry_eq]
  have hG' : xG E.g (va_A (E.W σ) s.heap.size) (s.setDrawn s.drawn) (s.setDrawn s.drawn).heap := xG.same (u := s) rfl hG
  exact body p e s (s.setDrawn s.drawn) m _ below meth c (va_A (E.W σ) s.heap.size) _ s.drawn rfl hd0 ⟨B.exec, B.bytes, B.returns, hml, findClass_of_methodNamed B.named, dr_words (atoms_spec (ws := ws) B.pre) s.drawn, B.notSynchronized⟩ (fun q h => Or.inr h) hG' ⟨va_K.moved (u := s) (Vm.Alike.refl s.vm) hK, hP, hD0.self, va_S.rf⟩ (lv_entry av hn)
def fX11_meanAge_c15 (k6 : (Int32 → Int32 → Int32 → xSt → Option (UInt64 × xSt))) : Nat → Int32 → Int32 → Int32 → Int32 → xSt → Option (UInt64 × xSt)
  | 0 => fun _ _ _ _ _ => none
  | n + 1 => fun a1 a2 a3 a4 σ => (if 4 ≤ a4 then (xl (a3 + 1) fun v1 => k6 a1 a2 v1 σ) else (xr σ 28 24 ((a3 * 4) + a4) fun v2 => (xl (a1 + v2) fun v3 => (xl (a2 + (v2 * a4)) fun v4 => (xl (a4 + 1) fun v5 => fX11_meanAge_c15 k6 n v3 v4 a3 v5 σ)))))
theorem fX11_meanAge_c15_s (k6 : (Int32 → Int32 → Int32 → xSt → Option (UInt64 × xSt))) (n : Nat) (a1 : Int32) (a2 : Int32) (a3 : Int32) (a4 : Int32) (σ : xSt) : fX11_meanAge_c15 k6 (n + 1) a1 a2 a3 a4 σ = ((if 4 ≤ a4 then (xl (a3 + 1) fun v1 => k6 a1 a2 v1 σ) else (xr σ 28 24 ((a3 * 4) + a4) fun v2 => (xl (a1 + v2) fun v3 => (xl (a2 + (v2 * a4)) fun v4 => (xl (a4 + 1) fun v5 => fX11_meanAge_c15 k6 n v3 v4 a3 v5 σ))))) : Option (UInt64 × xSt)) := rfl
def fX11_meanAge_c6 : Nat → Int32 → Int32 → Int32 → xSt → Option (UInt64 × xSt)
  | 0 => fun _ _ _ _ => none
  | n + 1 => fun a1 a2 a3 σ => (if 6 ≤ a3 then (if a1 ≤ 0 then some (FP.dconst0, σ) else some ((FP.ddiv (FP.i2d a2) (FP.i2d a1)), σ)) else fX11_meanAge_c15 (fX11_meanAge_c6 n) xFU a1 a2 a3 0 σ)
theorem fX11_meanAge_c6_s (n : Nat) (a1 : Int32) (a2 : Int32) (a3 : Int32) (σ : xSt) : fX11_meanAge_c6 (n + 1) a1 a2 a3 σ = ((if 6 ≤ a3 then (if a1 ≤ 0 then some (FP.dconst0, σ) else some ((FP.ddiv (FP.i2d a2) (FP.i2d a1)), σ)) else fX11_meanAge_c15 (fX11_meanAge_c6 n) xFU a1 a2 a3 0 σ) : Option (UInt64 × xSt)) := rfl
def fX11_meanAge (σ : xSt) : Option (UInt64 × xSt) := fX11_meanAge_c6 xFU 0 0 0 σ
abbrev rmX11_meanAge : Room := { frames := 0, cells := 0, slots := 0, locals := 0 }
set_option maxRecDepth 100000 in
set_option maxHeartbeats 4000000 in
theorem mX11_meanAge {l : Launch} {E : xE} (hE : E.sh = shX) (σ : xSt) (o1 : UInt64) (o2 : xSt) (hf : fX11_meanAge σ = some (o1, o2)) : xMd l yX11_meanAge wsX11_meanAge rmX11_meanAge E [.ref (E.a 0)] σ o1 o2 := by
  unfold fX11_meanAge at hf
  refine xMd_of (cc := cX11_meanAge) (maxL := 6) (ret := (some .double)) (by decide) rfl (Nat.le_of_ble_eq_true rfl) ?_
  intro p e s0 s m args below meth c A ls d0 hs hd0 ⟨hx, hb, hr, hml, hown, hts, hlk⟩ hA hG hw hl
  have hown : s.vm.findClass RX11 = some m.cls := hown
  have hl : lv_has ls 6 [(0, .ref (E.a 0))] := hl
  have hk55 := hts (.fieldLink RX11 55 "OvenRound" "breads" "LOvenRound$Breads;") (by decide +kernel)
  have hiX11 : ∀ w ∈ wsX110, w ∈ wsX11_meanAge := by decide +kernel
  have hk258 := hts (.fieldLink RX11 258 "OvenRound$Breads" "pieces" "[I") (by decide +kernel)
  have hiX0 : ∀ w ∈ wsX00, w ∈ wsX11_meanAge := by decide +kernel
  have h6 : ∀ (n : Nat) (a1 : Int32) (a2 : Int32) (a3 : Int32) (σ : xSt) (H : Heap) (locs : List Loc) (ls : Array Slot), xw E A s.heap s σ H locs → lv_has ls 6 [(0, .ref (E.a 0)), (1, .int a1), (2, .int a2), (3, .int a3)] → fX11_meanAge_c6 n a1 a2 a3 σ = some (o1, o2) → W p l e rmX11_meanAge s m args below meth c H locs 0 0 (MQD lw_cs below (xQd E A o1 o2) args s0 0 0 A) (F0 m 6 ls []) := by
    intro n6
    induction n6 with
    | zero => intro a1 a2 a3 σ H locs ls hw hl hf; exact nomatch hf
    | succ n6 ih6 =>
      have h15 : ∀ (n : Nat) (a1 : Int32) (a2 : Int32) (a3 : Int32) (a4 : Int32) (σ : xSt) (H : Heap) (locs : List Loc) (ls : Array Slot), xw E A s.heap s σ H locs → lv_has ls 6 [(0, .ref (E.a 0)), (1, .int a1), (2, .int a2), (3, .int a3), (4, .int a4)] → fX11_meanAge_c15 (fX11_meanAge_c6 n6) n a1 a2 a3 a4 σ = some (o1, o2) → W p l e rmX11_meanAge s m args below meth c H locs 0 0 (MQD lw_cs below (xQd E A o1 o2) args s0 0 0 A) (F0 m 15 ls []) := by
        intro n15
        induction n15 with
        | zero => intro a1 a2 a3 a4 σ H locs ls hw hl hf; exact nomatch hf
        | succ n15 ih15 =>
          intro a1 a2 a3 a4 σ H locs ls hw hl hf
          rw [fX11_meanAge_c15_s] at hf
          refine lv_iload hx hb dX11_meanAge_15 (lv_at hl 4 rfl) ?_
          refine lv_iconst (v := 4) hx hb dX11_meanAge_17 (by decide) ?_
          refine lv_icmp_ge (tgt := 56) hx hb dX11_meanAge_18 (by decide) (fun c18 => ?_) (fun c18 => ?_)
          · replace hf := xif_pos c18 hf
            obtain ⟨v1, ex⟩ : ∃ y : Int32, y = (a3 + 1) := ⟨_, rfl⟩
            replace hf := xl_f hf v1 ex
            refine lv_iinc (v := v1) (lv' := [(3, .int v1), (0, .ref (E.a 0)), (1, .int a1), (2, .int a2), (4, .int a4)]) hx hb dX11_meanAge_56 hl (k := 3) rfl (by rw [ex]; rfl) (by decide) rfl (fun ls hl => ?_)
            clear ex
            refine lv_goto (tgt := 6) hx hb dX11_meanAge_59 (by decide) ?_
            exact ih6 a1 a2 v1 σ _ _ _ hw (lv_sub hl [1, 2, 3, 0] rfl) hf
          · replace hf := xif_neg c18 hf
            refine lv_aload_n hx hb dX11_meanAge_21 rfl (lv_at hl 0 rfl) ?_
            refine x_getr hx hb hw (cX0 hE) (own := RX11) (ref := RX11) (C := RX11) (T := TX11) (N := 14) hts hiX11 hown rfl 5 (by decide) hk55 (fun _ h9 => h9) rfl dX11_meanAge_22 ?_
            refine x_getr hx hb hw (cX27 hE) (own := RX11) (ref := RX0) (C := RX0) (T := TX0) (N := 1) hts hiX0 hown rfl 0 (by decide) hk258 (fun _ h9 => h9) rfl dX11_meanAge_25 ?_
            refine lv_iload_n hx hb dX11_meanAge_28 rfl (lv_at hl 3 rfl) ?_
            refine lv_iconst (v := 4) hx hb dX11_meanAge_29 (by decide) ?_
            refine lv_imul hx hb dX11_meanAge_30 ?_
            refine lv_iload hx hb dX11_meanAge_31 (lv_at hl 4 rfl) ?_
            refine lv_iadd hx hb dX11_meanAge_33 ?_
            obtain ⟨hin, hf⟩ := xr_f hf
            refine x_iald hx hb hw (cX28 hE) hin dX11_meanAge_34 ?_
            refine lv_topi (fun v2 ex => ?_)
            replace hf := hf v2 ex
            clear ex hin
            refine lv_istore (lv' := [(5, .int v2), (0, .ref (E.a 0)), (1, .int a1), (2, .int a2), (3, .int a3), (4, .int a4)]) hx hb dX11_meanAge_35 hl (by decide) rfl (fun ls hl => ?_)
            refine lv_iload_n hx hb dX11_meanAge_37 rfl (lv_at hl 2 rfl) ?_
            refine lv_iload hx hb dX11_meanAge_38 (lv_at hl 0 rfl) ?_
            refine lv_iadd hx hb dX11_meanAge_40 ?_
            refine lv_topi (fun v3 ex => ?_)
            replace hf := xl_f hf v3 ex
            clear ex
            refine lv_istore_n (lv' := [(1, .int v3), (5, .int v2), (0, .ref (E.a 0)), (2, .int a2), (3, .int a3), (4, .int a4)]) hx hb dX11_meanAge_41 rfl hl (by decide) rfl (fun ls hl => ?_)
            refine lv_iload_n hx hb dX11_meanAge_42 rfl (lv_at hl 3 rfl) ?_
            refine lv_iload hx hb dX11_meanAge_43 (lv_at hl 1 rfl) ?_
            refine lv_iload hx hb dX11_meanAge_45 (lv_at hl 5 rfl) ?_
            refine lv_imul hx hb dX11_meanAge_47 ?_
            refine lv_iadd hx hb dX11_meanAge_48 ?_
            refine lv_topi (fun v4 ex => ?_)
            replace hf := xl_f hf v4 ex
            clear ex
            refine lv_istore_n (lv' := [(2, .int v4), (1, .int v3), (5, .int v2), (0, .ref (E.a 0)), (3, .int a3), (4, .int a4)]) hx hb dX11_meanAge_49 rfl hl (by decide) rfl (fun ls hl => ?_)
            obtain ⟨v5, ex⟩ : ∃ y : Int32, y = (a4 + 1) := ⟨_, rfl⟩
            replace hf := xl_f hf v5 ex
            refine lv_iinc (v := v5) (lv' := [(4, .int v5), (2, .int v4), (1, .int v3), (5, .int v2), (0, .ref (E.a 0)), (3, .int a3)]) hx hb dX11_meanAge_50 hl (k := 5) rfl (by rw [ex]; rfl) (by decide) rfl (fun ls hl => ?_)
            clear ex
            refine lv_goto (tgt := 15) hx hb dX11_meanAge_53 (by decide) ?_
            exact ih15 v3 v4 a3 v5 σ _ _ _ hw (lv_sub hl [4, 2, 1, 5, 0] rfl) hf
      intro a1 a2 a3 σ H locs ls hw hl hf
      rw [fX11_meanAge_c6_s] at hf
      refine lv_iload_n hx hb dX11_meanAge_6 rfl (lv_at hl 3 rfl) ?_
      refine lv_bipush (v := 6) hx hb dX11_meanAge_7 (by decide) ?_
      refine lv_icmp_ge (tgt := 62) hx hb dX11_meanAge_9 (by decide) (fun c9 => ?_) (fun c9 => ?_)
      · replace hf := xif_pos c9 hf
        refine lv_iload_n hx hb dX11_meanAge_62 rfl (lv_at hl 1 rfl) ?_
        refine lv_if_le (tgt := 74) hx hb dX11_meanAge_63 (by decide) (fun c63 => ?_) (fun c63 => ?_)
        · replace hf := xif_pos c63 hf
          refine lv_dconst0 hx hb dX11_meanAge_74 ?_
          subst hs
          exact x_dretD hd0 (alike64_refl _) hx hb hr hlk hw hf dX11_meanAge_75
        · replace hf := xif_neg c63 hf
          refine lv_iload_n hx hb dX11_meanAge_66 rfl (lv_at hl 2 rfl) ?_
          refine lv_i2d hx hb dX11_meanAge_67 ?_
          refine lv_iload_n hx hb dX11_meanAge_68 rfl (lv_at hl 1 rfl) ?_
          refine lv_i2d hx hb dX11_meanAge_69 ?_
          subst hs
          refine lv_ddiv_any hd0 lw_bits hx hb dX11_meanAge_70 (fun r d1 hal hd1 => ?_)
          refine lv_goto (tgt := 75) hx hb dX11_meanAge_71 (by decide) ?_
          exact x_dretD hd1 hal hx hb hr hlk hw hf dX11_meanAge_75
      · replace hf := xif_neg c9 hf
        refine lv_iconst (v := 0) hx hb dX11_meanAge_12 (by decide) ?_
        refine lv_istore (lv' := [(4, .int 0), (0, .ref (E.a 0)), (1, .int a1), (2, .int a2), (3, .int a3)]) hx hb dX11_meanAge_13 hl (by decide) rfl (fun ls hl => ?_)
        exact h15 xFU a1 a2 a3 0 σ _ _ _ hw (lv_sub hl [1, 2, 3, 4, 0] rfl) hf
  refine lv_iconst (v := 0) hx hb dX11_meanAge_0 (by decide) ?_
  refine lv_istore_n (lv' := [(1, .int 0), (0, .ref (E.a 0))]) hx hb dX11_meanAge_1 rfl hl (by decide) rfl (fun ls hl => ?_)
  refine lv_iconst (v := 0) hx hb dX11_meanAge_2 (by decide) ?_
  refine lv_istore_n (lv' := [(2, .int 0), (1, .int 0), (0, .ref (E.a 0))]) hx hb dX11_meanAge_3 rfl hl (by decide) rfl (fun ls hl => ?_)
  refine lv_iconst (v := 0) hx hb dX11_meanAge_4 (by decide) ?_
  refine lv_istore_n (lv' := [(3, .int 0), (2, .int 0), (1, .int 0), (0, .ref (E.a 0))]) hx hb dX11_meanAge_5 rfl hl (by decide) rfl (fun ls hl => ?_)
  exact h6 xFU 0 0 0 σ _ _ _ hw (lv_sub hl [3, 2, 1, 0] rfl) hf

def fX12_meanAge_c84 (a1 : Int32) (t0 : Int32) (σ : xSt) : Option (UInt64 × xSt) := some ((FP.ddiv (FP.i2d a1) (FP.i2d t0)), σ)
def fX12_meanAge_c24 (k11 : (Int32 → Int32 → Int32 → xSt → Option (UInt64 × xSt))) : Nat → Int32 → Int32 → Int32 → Int32 → xSt → Option (UInt64 × xSt)
  | 0 => fun _ _ _ _ _ => none
  | n + 1 => fun a1 a2 a3 a4 σ => (if 4 ≤ a4 then (xl (a3 + 1) fun v3 => k11 a1 a2 v3 σ) else (xc2 (fX12_breadAt a3 a4 σ) fun r4 σ5 => (xr σ5 1 680 r4 fun v6 => (xl (a1 + (a4 * v6)) fun v7 => (xc2 (fX12_breadAt a3 a4 σ5) fun r8 σ9 => (xr σ9 1 680 r8 fun v10 => (xl (a2 + v10) fun v11 => (xl (a4 + 1) fun v12 => fX12_meanAge_c24 k11 n v7 v11 a3 v12 σ9))))))))
theorem fX12_meanAge_c24_s (k11 : (Int32 → Int32 → Int32 → xSt → Option (UInt64 × xSt))) (n : Nat) (a1 : Int32) (a2 : Int32) (a3 : Int32) (a4 : Int32) (σ : xSt) : fX12_meanAge_c24 k11 (n + 1) a1 a2 a3 a4 σ = ((if 4 ≤ a4 then (xl (a3 + 1) fun v3 => k11 a1 a2 v3 σ) else (xc2 (fX12_breadAt a3 a4 σ) fun r4 σ5 => (xr σ5 1 680 r4 fun v6 => (xl (a1 + (a4 * v6)) fun v7 => (xc2 (fX12_breadAt a3 a4 σ5) fun r8 σ9 => (xr σ9 1 680 r8 fun v10 => (xl (a2 + v10) fun v11 => (xl (a4 + 1) fun v12 => fX12_meanAge_c24 k11 n v7 v11 a3 v12 σ9)))))))) : Option (UInt64 × xSt)) := rfl
def fX12_meanAge_c11 : Nat → Int32 → Int32 → Int32 → xSt → Option (UInt64 × xSt)
  | 0 => fun _ _ _ _ => none
  | n + 1 => fun a1 a2 a3 σ => (xr σ 1 680 5 fun v2 => (if v2 ≤ a3 then (if a2 = 0 then fX12_meanAge_c84 a1 1 σ else fX12_meanAge_c84 a1 a2 σ) else fX12_meanAge_c24 (fX12_meanAge_c11 n) xFU a1 a2 a3 0 σ))
theorem fX12_meanAge_c11_s (n : Nat) (a1 : Int32) (a2 : Int32) (a3 : Int32) (σ : xSt) : fX12_meanAge_c11 (n + 1) a1 a2 a3 σ = ((xr σ 1 680 5 fun v2 => (if v2 ≤ a3 then (if a2 = 0 then fX12_meanAge_c84 a1 1 σ else fX12_meanAge_c84 a1 a2 σ) else fX12_meanAge_c24 (fX12_meanAge_c11 n) xFU a1 a2 a3 0 σ)) : Option (UInt64 × xSt)) := rfl
def fX12_meanAge (σ : xSt) : Option (UInt64 × xSt) := (xp σ 0 0 0 fun σ1 => fX12_meanAge_c11 xFU 0 0 0 σ1)
abbrev rmX12_meanAge : Room := { frames := 1, cells := 0, slots := 0, locals := 22 }
set_option maxRecDepth 100000 in
set_option maxHeartbeats 4000000 in
theorem mX12_meanAge {l : Launch} {E : xE} (hE : E.sh = shM) (σ : xSt) (o1 : UInt64) (o2 : xSt) (hf : fX12_meanAge σ = some (o1, o2)) : xMd l yX12_meanAge wsX12_meanAge rmX12_meanAge E [.ref (E.a 0)] σ o1 o2 := by
  unfold fX12_meanAge at hf
  refine xMd_of (cc := cX12_meanAge) (maxL := 5) (ret := (some .double)) (by decide) rfl (Nat.le_of_ble_eq_true rfl) ?_
  intro p e s0 s m args below meth c A ls d0 hs hd0 ⟨hx, hb, hr, hml, hown, hts, hlk⟩ hA hG hw hl
  have hown : s.vm.findClass RX12 = some m.cls := hown
  have hl : lv_has ls 5 [(0, .ref (E.a 0))] := hl
  have hk46 := hts (.fieldLink RX12 46 "OvenRoundModel" "raised" "I") (by decide +kernel)
  have hiX12 : ∀ w ∈ wsX120, w ∈ wsX12_meanAge := by decide +kernel
  have hk9 := hts (.fieldLink RX12 9 "OvenRoundModel" "w" "[I") (by decide +kernel)
  have h84 : ∀ (a1 : Int32) (t0 : Int32) (σ : xSt) (H : Heap) (locs : List Loc) (ls : Array Slot), xw E A s.heap s σ H locs → lv_has ls 5 [(1, .int a1)] → fX12_meanAge_c84 a1 t0 σ = some (o1, o2) → W p l e rmX12_meanAge s m args below meth c H locs 0 0 (MQD lw_cs below (xQd E A o1 o2) args s0 0 0 A) (F0 m 84 ls [.int t0]) := by
    intro a1 t0 σ H locs ls hw hl hf
    unfold fX12_meanAge_c84 at hf
    refine lv_istore_n (lv' := [(3, .int t0), (1, .int a1)]) hx hb dX12_meanAge_84 rfl hl (by decide) rfl (fun ls hl => ?_)
    refine lv_iload_n hx hb dX12_meanAge_85 rfl (lv_at hl 1 rfl) ?_
    refine lv_i2d hx hb dX12_meanAge_86 ?_
    refine lv_iload_n hx hb dX12_meanAge_87 rfl (lv_at hl 0 rfl) ?_
    refine lv_i2d hx hb dX12_meanAge_88 ?_
    subst hs
    refine lv_ddiv_any hd0 lw_bits hx hb dX12_meanAge_89 (fun r d1 hal hd1 => ?_)
    exact x_dretD hd1 hal hx hb hr hlk hw hf dX12_meanAge_90
  have h11 : ∀ (n : Nat) (a1 : Int32) (a2 : Int32) (a3 : Int32) (σ : xSt) (H : Heap) (locs : List Loc) (ls : Array Slot), xw E A s.heap s σ H locs → lv_has ls 5 [(0, .ref (E.a 0)), (1, .int a1), (2, .int a2), (3, .int a3)] → fX12_meanAge_c11 n a1 a2 a3 σ = some (o1, o2) → W p l e rmX12_meanAge s m args below meth c H locs 0 0 (MQD lw_cs below (xQd E A o1 o2) args s0 0 0 A) (F0 m 11 ls []) := by
    intro n11
    induction n11 with
    | zero => intro a1 a2 a3 σ H locs ls hw hl hf; exact nomatch hf
    | succ n11 ih11 =>
      have h24 : ∀ (n : Nat) (a1 : Int32) (a2 : Int32) (a3 : Int32) (a4 : Int32) (σ : xSt) (H : Heap) (locs : List Loc) (ls : Array Slot), xw E A s.heap s σ H locs → lv_has ls 5 [(0, .ref (E.a 0)), (1, .int a1), (2, .int a2), (3, .int a3), (4, .int a4)] → fX12_meanAge_c24 (fX12_meanAge_c11 n11) n a1 a2 a3 a4 σ = some (o1, o2) → W p l e rmX12_meanAge s m args below meth c H locs 0 0 (MQD lw_cs below (xQd E A o1 o2) args s0 0 0 A) (F0 m 24 ls []) := by
        intro n24
        induction n24 with
        | zero => intro a1 a2 a3 a4 σ H locs ls hw hl hf; exact nomatch hf
        | succ n24 ih24 =>
          intro a1 a2 a3 a4 σ H locs ls hw hl hf
          rw [fX12_meanAge_c24_s] at hf
          refine lv_iload hx hb dX12_meanAge_24 (lv_at hl 4 rfl) ?_
          refine lv_iconst (v := 4) hx hb dX12_meanAge_26 (by decide) ?_
          refine lv_icmp_ge (tgt := 69) hx hb dX12_meanAge_27 (by decide) (fun c27 => ?_) (fun c27 => ?_)
          · replace hf := xif_pos c27 hf
            obtain ⟨v3, ex⟩ : ∃ y : Int32, y = (a3 + 1) := ⟨_, rfl⟩
            replace hf := xl_f hf v3 ex
            refine lv_iinc (v := v3) (lv' := [(3, .int v3), (0, .ref (E.a 0)), (1, .int a1), (2, .int a2), (4, .int a4)]) hx hb dX12_meanAge_69 hl (k := 3) rfl (by rw [ex]; rfl) (by decide) rfl (fun ls hl => ?_)
            clear ex
            refine lv_goto (tgt := 11) hx hb dX12_meanAge_72 (by decide) ?_
            exact ih11 a1 a2 v3 σ _ _ _ hw (lv_sub hl [1, 2, 3, 0] rfl) hf
          · replace hf := xif_neg c27 hf
            refine lv_iload_n hx hb dX12_meanAge_30 rfl (lv_at hl 1 rfl) ?_
            refine lv_iload hx hb dX12_meanAge_31 (lv_at hl 4 rfl) ?_
            refine lv_aload_n hx hb dX12_meanAge_33 rfl (lv_at hl 0 rfl) ?_
            refine x_getr hx hb hw (cM0 hE) (own := RX12) (ref := RX12) (C := RX12) (T := TX12) (N := 20) hts hiX12 hown rfl 1 (by decide) hk9 (fun _ h9 => h9) rfl dX12_meanAge_34 ?_
            refine lv_aload_n hx hb dX12_meanAge_37 rfl (lv_at hl 0 rfl) ?_
            refine lv_iload_n hx hb dX12_meanAge_38 rfl (lv_at hl 3 rfl) ?_
            refine lv_iload hx hb dX12_meanAge_39 (lv_at hl 4 rfl) ?_
            obtain ⟨r4, σ5, hcl, hf⟩ := xc2_f hf
            refine x_calli (va_runV (As := [.int a3, .int a4]) (rest := [.ref (E.a 1), .int a4, .int a1]) ⟨hx, hb, hml, hown, hts⟩ (mX12_breadAt hE a3 a4 σ r4 σ5 hcl H.size) (cwV 2 hts gX12_meanAge_X12_breadAt rfl rfl rfl (by decide +kernel) ⟨Nat.le_of_ble_eq_true rfl, Nat.le_of_ble_eq_true rfl⟩) (x_preV _ hw hA hG (cM0 hE) rfl) rfl rfl hl.1 rfl (lv_room (Nat.le_of_ble_eq_true rfl)) dX12_meanAge_41 ⟨Nat.le_of_ble_eq_true rfl, Nat.le_of_ble_eq_true rfl⟩) hw hA (fun H locs hw => ?_)
            clear hcl
            obtain ⟨hin, hf⟩ := xr_f hf
            refine x_iald hx hb hw (cM1 hE) hin dX12_meanAge_44 ?_
            refine lv_topi (fun v6 ex => ?_)
            replace hf := hf v6 ex
            clear ex hin
            refine lv_imul hx hb dX12_meanAge_45 ?_
            refine lv_iadd hx hb dX12_meanAge_46 ?_
            refine lv_topi (fun v7 ex => ?_)
            replace hf := xl_f hf v7 ex
            clear ex
            refine lv_istore_n (lv' := [(1, .int v7), (0, .ref (E.a 0)), (2, .int a2), (3, .int a3), (4, .int a4)]) hx hb dX12_meanAge_47 rfl hl (by decide) rfl (fun ls hl => ?_)
            refine lv_iload_n hx hb dX12_meanAge_48 rfl (lv_at hl 2 rfl) ?_
            refine lv_aload_n hx hb dX12_meanAge_49 rfl (lv_at hl 1 rfl) ?_
            refine x_getr hx hb hw (cM0 hE) (own := RX12) (ref := RX12) (C := RX12) (T := TX12) (N := 20) hts hiX12 hown rfl 1 (by decide) hk9 (fun _ h9 => h9) rfl dX12_meanAge_50 ?_
            refine lv_aload_n hx hb dX12_meanAge_53 rfl (lv_at hl 1 rfl) ?_
            refine lv_iload_n hx hb dX12_meanAge_54 rfl (lv_at hl 3 rfl) ?_
            refine lv_iload hx hb dX12_meanAge_55 (lv_at hl 4 rfl) ?_
            obtain ⟨r8, σ9, hcl, hf⟩ := xc2_f hf
            refine x_calli (va_runV (As := [.int a3, .int a4]) (rest := [.ref (E.a 1), .int a2]) ⟨hx, hb, hml, hown, hts⟩ (mX12_breadAt hE a3 a4 σ5 r8 σ9 hcl H.size) (cwV 2 hts gX12_meanAge_X12_breadAt rfl rfl rfl (by decide +kernel) ⟨Nat.le_of_ble_eq_true rfl, Nat.le_of_ble_eq_true rfl⟩) (x_preV _ hw hA hG (cM0 hE) rfl) rfl rfl hl.1 rfl (lv_room (Nat.le_of_ble_eq_true rfl)) dX12_meanAge_57 ⟨Nat.le_of_ble_eq_true rfl, Nat.le_of_ble_eq_true rfl⟩) hw hA (fun H locs hw => ?_)
            clear hcl
            obtain ⟨hin, hf⟩ := xr_f hf
            refine x_iald hx hb hw (cM1 hE) hin dX12_meanAge_60 ?_
            refine lv_topi (fun v10 ex => ?_)
            replace hf := hf v10 ex
            clear ex hin
            refine lv_iadd hx hb dX12_meanAge_61 ?_
            refine lv_topi (fun v11 ex => ?_)
            replace hf := xl_f hf v11 ex
            clear ex
            refine lv_istore_n (lv' := [(2, .int v11), (1, .int v7), (0, .ref (E.a 0)), (3, .int a3), (4, .int a4)]) hx hb dX12_meanAge_62 rfl hl (by decide) rfl (fun ls hl => ?_)
            obtain ⟨v12, ex⟩ : ∃ y : Int32, y = (a4 + 1) := ⟨_, rfl⟩
            replace hf := xl_f hf v12 ex
            refine lv_iinc (v := v12) (lv' := [(4, .int v12), (2, .int v11), (1, .int v7), (0, .ref (E.a 0)), (3, .int a3)]) hx hb dX12_meanAge_63 hl (k := 4) rfl (by rw [ex]; rfl) (by decide) rfl (fun ls hl => ?_)
            clear ex
            refine lv_goto (tgt := 24) hx hb dX12_meanAge_66 (by decide) ?_
            exact ih24 v7 v11 a3 v12 σ9 _ _ _ hw (lv_sub hl [3, 2, 1, 4, 0] rfl) hf
      intro a1 a2 a3 σ H locs ls hw hl hf
      rw [fX12_meanAge_c11_s] at hf
      refine lv_iload_n hx hb dX12_meanAge_11 rfl (lv_at hl 3 rfl) ?_
      refine lv_aload_n hx hb dX12_meanAge_12 rfl (lv_at hl 0 rfl) ?_
      refine x_getr hx hb hw (cM0 hE) (own := RX12) (ref := RX12) (C := RX12) (T := TX12) (N := 20) hts hiX12 hown rfl 1 (by decide) hk9 (fun _ h9 => h9) rfl dX12_meanAge_13 ?_
      refine lv_iconst (v := 5) hx hb dX12_meanAge_16 (by decide) ?_
      obtain ⟨hin, hf⟩ := xr_f hf
      refine x_iald hx hb hw (cM1 hE) hin dX12_meanAge_17 ?_
      refine lv_topi (fun v2 ex => ?_)
      replace hf := hf v2 ex
      clear ex hin
      refine lv_icmp_ge (tgt := 75) hx hb dX12_meanAge_18 (by decide) (fun c18 => ?_) (fun c18 => ?_)
      · replace hf := xif_pos c18 hf
        refine lv_iload_n hx hb dX12_meanAge_75 rfl (lv_at hl 2 rfl) ?_
        refine lv_if_ne (tgt := 83) hx hb dX12_meanAge_76 (by decide) (fun c76 => ?_) (fun c76 => ?_)
        · replace hf := xif_neg c76 hf
          refine lv_iload_n hx hb dX12_meanAge_83 rfl (lv_at hl 2 rfl) ?_
          exact h84 a1 a2 σ _ _ _ hw (lv_sub hl [1] rfl) hf
        · replace hf := xif_pos c76 hf
          refine lv_iconst (v := 1) hx hb dX12_meanAge_79 (by decide) ?_
          refine lv_goto (tgt := 84) hx hb dX12_meanAge_80 (by decide) ?_
          exact h84 a1 1 σ _ _ _ hw (lv_sub hl [1] rfl) hf
      · replace hf := xif_neg c18 hf
        refine lv_iconst (v := 0) hx hb dX12_meanAge_21 (by decide) ?_
        refine lv_istore (lv' := [(4, .int 0), (0, .ref (E.a 0)), (1, .int a1), (2, .int a2), (3, .int a3)]) hx hb dX12_meanAge_22 hl (by decide) rfl (fun ls hl => ?_)
        exact h24 xFU a1 a2 a3 0 σ _ _ _ hw (lv_sub hl [1, 2, 3, 4, 0] rfl) hf
  refine lv_aload_n hx hb dX12_meanAge_0 rfl (lv_at hl 0 rfl) ?_
  refine lv_iconst (v := 0) hx hb dX12_meanAge_1 (by decide) ?_
  refine x_puti hx hb hw (cM0 hE) (own := RX12) (ref := RX12) (C := RX12) (T := TX12) (N := 20) hts hiX12 tyX12 tyX12_ok nmX12 hown rfl 0 (by decide) hk46 (fun _ h9 => h9) rfl (by decide +kernel) rfl dX12_meanAge_2 (fun σ1 H locs ex hw => ?_)
  replace hf := xp_f hf σ1 ex
  clear ex
  refine lv_iconst (v := 0) hx hb dX12_meanAge_5 (by decide) ?_
  refine lv_istore_n (lv' := [(1, .int 0), (0, .ref (E.a 0))]) hx hb dX12_meanAge_6 rfl hl (by decide) rfl (fun ls hl => ?_)
  refine lv_iconst (v := 0) hx hb dX12_meanAge_7 (by decide) ?_
  refine lv_istore_n (lv' := [(2, .int 0), (1, .int 0), (0, .ref (E.a 0))]) hx hb dX12_meanAge_8 rfl hl (by decide) rfl (fun ls hl => ?_)
  refine lv_iconst (v := 0) hx hb dX12_meanAge_9 (by decide) ?_
  refine lv_istore_n (lv' := [(3, .int 0), (2, .int 0), (1, .int 0), (0, .ref (E.a 0))]) hx hb dX12_meanAge_10 rfl hl (by decide) rfl (fun ls hl => ?_)
  exact h11 xFU 0 0 0 σ1 _ _ _ hw (lv_sub hl [3, 2, 1, 0] rfl) hf

def fX11_thrownShare (σ : xSt) : Option (UInt32 × xSt) := (if (σ 2 1) ≤ 0 then some (FP.fconst0, σ) else some ((FP.fdiv (FP.i2f (σ 2 3)) (FP.i2f (σ 2 1))), σ))
abbrev rmX11_thrownShare : Room := { frames := 0, cells := 0, slots := 0, locals := 0 }
set_option maxRecDepth 100000 in
set_option maxHeartbeats 4000000 in
theorem mX11_thrownShare {l : Launch} {E : xE} (hE : E.sh = shX) (σ : xSt) (o1 : UInt32) (o2 : xSt) (hf : fX11_thrownShare σ = some (o1, o2)) : xMf l yX11_thrownShare wsX11_thrownShare rmX11_thrownShare E [.ref (E.a 0)] σ o1 o2 := by
  unfold fX11_thrownShare at hf
  refine xMf_of (cc := cX11_thrownShare) (maxL := 1) (ret := (some .float)) (by decide) rfl (Nat.le_of_ble_eq_true rfl) ?_
  intro p e s0 s m args below meth c A ls d0 hs hd0 ⟨hx, hb, hr, hml, hown, hts, hlk⟩ hA hG hw hl
  have hown : s.vm.findClass RX11 = some m.cls := hown
  have hl : lv_has ls 1 [(0, .ref (E.a 0))] := hl
  have hk24 := hts (.fieldLink RX11 24 "OvenRound" "store" "LOvenRound$Store;") (by decide +kernel)
  have hiX11 : ∀ w ∈ wsX110, w ∈ wsX11_thrownShare := by decide +kernel
  have hk117 := hts (.fieldLink RX11 117 "OvenRound$Store" "cameIn" "I") (by decide +kernel)
  have hiX10 : ∀ w ∈ wsX100, w ∈ wsX11_thrownShare := by decide +kernel
  have hk229 := hts (.fieldLink RX11 229 "OvenRound$Store" "thrown" "I") (by decide +kernel)
  refine lv_aload_n hx hb dX11_thrownShare_0 rfl (lv_at hl 0 rfl) ?_
  refine x_getr hx hb hw (cX0 hE) (own := RX11) (ref := RX11) (C := RX11) (T := TX11) (N := 14) hts hiX11 hown rfl 0 (by decide) hk24 (fun _ h9 => h9) rfl dX11_thrownShare_1 ?_
  refine x_geti hx hb hw (cX2 hE) (own := RX11) (ref := RX10) (C := RX10) (T := TX10) (N := 4) hts hiX10 hown rfl 1 (by decide) hk117 (fun _ h9 => h9) rfl dX11_thrownShare_4 ?_
  refine lv_if_le (tgt := 30) hx hb dX11_thrownShare_7 (by decide) (fun c7 => ?_) (fun c7 => ?_)
  · replace hf := xif_pos c7 hf
    refine lv_fconst0 hx hb dX11_thrownShare_30 ?_
    subst hs
    exact x_fretD hd0 (alike32_refl _) hx hb hr hlk hw hf dX11_thrownShare_31
  · replace hf := xif_neg c7 hf
    refine lv_aload_n hx hb dX11_thrownShare_10 rfl (lv_at hl 0 rfl) ?_
    refine x_getr hx hb hw (cX0 hE) (own := RX11) (ref := RX11) (C := RX11) (T := TX11) (N := 14) hts hiX11 hown rfl 0 (by decide) hk24 (fun _ h9 => h9) rfl dX11_thrownShare_11 ?_
    refine x_geti hx hb hw (cX2 hE) (own := RX11) (ref := RX10) (C := RX10) (T := TX10) (N := 4) hts hiX10 hown rfl 3 (by decide) hk229 (fun _ h9 => h9) rfl dX11_thrownShare_14 ?_
    refine lv_i2f hx hb dX11_thrownShare_17 ?_
    refine lv_aload_n hx hb dX11_thrownShare_18 rfl (lv_at hl 0 rfl) ?_
    refine x_getr hx hb hw (cX0 hE) (own := RX11) (ref := RX11) (C := RX11) (T := TX11) (N := 14) hts hiX11 hown rfl 0 (by decide) hk24 (fun _ h9 => h9) rfl dX11_thrownShare_19 ?_
    refine x_geti hx hb hw (cX2 hE) (own := RX11) (ref := RX10) (C := RX10) (T := TX10) (N := 4) hts hiX10 hown rfl 1 (by decide) hk117 (fun _ h9 => h9) rfl dX11_thrownShare_22 ?_
    refine lv_i2f hx hb dX11_thrownShare_25 ?_
    subst hs
    refine lv_fdiv_any hd0 lw_bits hx hb dX11_thrownShare_26 (fun r d1 hal hd1 => ?_)
    refine lv_goto (tgt := 31) hx hb dX11_thrownShare_27 (by decide) ?_
    exact x_fretD hd1 hal hx hb hr hlk hw hf dX11_thrownShare_31

def fX12_thrownShare (σ : xSt) : Option (UInt32 × xSt) := (xp σ 0 0 0 fun σ1 => (xr σ1 1 680 8 fun v2 => (if v2 = 0 then some (FP.fconst0, σ1) else (xr σ1 1 680 10 fun v3 => some ((FP.fdiv (FP.i2f v3) (FP.i2f v2)), σ1)))))
abbrev rmX12_thrownShare : Room := { frames := 0, cells := 0, slots := 0, locals := 0 }
set_option maxRecDepth 100000 in
set_option maxHeartbeats 4000000 in
theorem mX12_thrownShare {l : Launch} {E : xE} (hE : E.sh = shM) (σ : xSt) (o1 : UInt32) (o2 : xSt) (hf : fX12_thrownShare σ = some (o1, o2)) : xMf l yX12_thrownShare wsX12_thrownShare rmX12_thrownShare E [.ref (E.a 0)] σ o1 o2 := by
  unfold fX12_thrownShare at hf
  refine xMf_of (cc := cX12_thrownShare) (maxL := 2) (ret := (some .float)) (by decide) rfl (Nat.le_of_ble_eq_true rfl) ?_
  intro p e s0 s m args below meth c A ls d0 hs hd0 ⟨hx, hb, hr, hml, hown, hts, hlk⟩ hA hG hw hl
  have hown : s.vm.findClass RX12 = some m.cls := hown
  have hl : lv_has ls 2 [(0, .ref (E.a 0))] := hl
  have hk46 := hts (.fieldLink RX12 46 "OvenRoundModel" "raised" "I") (by decide +kernel)
  have hiX12 : ∀ w ∈ wsX120, w ∈ wsX12_thrownShare := by decide +kernel
  have hk9 := hts (.fieldLink RX12 9 "OvenRoundModel" "w" "[I") (by decide +kernel)
  refine lv_aload_n hx hb dX12_thrownShare_0 rfl (lv_at hl 0 rfl) ?_
  refine lv_iconst (v := 0) hx hb dX12_thrownShare_1 (by decide) ?_
  refine x_puti hx hb hw (cM0 hE) (own := RX12) (ref := RX12) (C := RX12) (T := TX12) (N := 20) hts hiX12 tyX12 tyX12_ok nmX12 hown rfl 0 (by decide) hk46 (fun _ h9 => h9) rfl (by decide +kernel) rfl dX12_thrownShare_2 (fun σ1 H locs ex hw => ?_)
  replace hf := xp_f hf σ1 ex
  clear ex
  refine lv_aload_n hx hb dX12_thrownShare_5 rfl (lv_at hl 0 rfl) ?_
  refine x_getr hx hb hw (cM0 hE) (own := RX12) (ref := RX12) (C := RX12) (T := TX12) (N := 20) hts hiX12 hown rfl 1 (by decide) hk9 (fun _ h9 => h9) rfl dX12_thrownShare_6 ?_
  refine lv_bipush (v := 8) hx hb dX12_thrownShare_9 (by decide) ?_
  obtain ⟨hin, hf⟩ := xr_f hf
  refine x_iald hx hb hw (cM1 hE) hin dX12_thrownShare_11 ?_
  refine lv_topi (fun v2 ex => ?_)
  replace hf := hf v2 ex
  clear ex hin
  refine lv_istore_n (lv' := [(1, .int v2), (0, .ref (E.a 0))]) hx hb dX12_thrownShare_12 rfl hl (by decide) rfl (fun ls hl => ?_)
  refine lv_iload_n hx hb dX12_thrownShare_13 rfl (lv_at hl 0 rfl) ?_
  refine lv_if_ne (tgt := 21) hx hb dX12_thrownShare_14 (by decide) (fun c14 => ?_) (fun c14 => ?_)
  · replace hf := xif_neg c14 hf
    refine lv_aload_n hx hb dX12_thrownShare_21 rfl (lv_at hl 1 rfl) ?_
    refine x_getr hx hb hw (cM0 hE) (own := RX12) (ref := RX12) (C := RX12) (T := TX12) (N := 20) hts hiX12 hown rfl 1 (by decide) hk9 (fun _ h9 => h9) rfl dX12_thrownShare_22 ?_
    refine lv_bipush (v := 10) hx hb dX12_thrownShare_25 (by decide) ?_
    obtain ⟨hin, hf⟩ := xr_f hf
    refine x_iald hx hb hw (cM1 hE) hin dX12_thrownShare_27 ?_
    refine lv_topi (fun v3 ex => ?_)
    replace hf := hf v3 ex
    clear ex hin
    refine lv_i2f hx hb dX12_thrownShare_28 ?_
    refine lv_iload_n hx hb dX12_thrownShare_29 rfl (lv_at hl 0 rfl) ?_
    refine lv_i2f hx hb dX12_thrownShare_30 ?_
    subst hs
    refine lv_fdiv_any hd0 lw_bits hx hb dX12_thrownShare_31 (fun r d1 hal hd1 => ?_)
    exact x_fretD hd1 hal hx hb hr hlk hw hf dX12_thrownShare_32
  · replace hf := xif_pos c14 hf
    refine lv_fconst0 hx hb dX12_thrownShare_17 ?_
    refine lv_goto (tgt := 32) hx hb dX12_thrownShare_18 (by decide) ?_
    subst hs
    exact x_fretD hd0 (alike32_refl _) hx hb hr hlk hw hf dX12_thrownShare_32
