/-! ===== CONSTRUCTORS ===== -/
theorem x_int_known {args : Array Value} {s : State} (h : (Cond.arrayClass .int).before args s = true) : ∃ cA : ClassId, ArrOfT s cA .int ∧ va_RA s cA .int := by
  obtain ⟨cA, kA, comp, h1, h2, h3⟩ := Cond.arrayClass_spec h
  exact ⟨cA, fun n z => ⟨fun k h => (by cases h), kA, h2, comp, h3⟩, h1⟩
section XNA
variable {p : Program} {l : Launch} {e : Env} {R : Room} {s : State} {m : MethodId} {args : Array Value} {below : List Frame} {meth : Method} {c : Code} {H : Heap} {locs : List Loc} {cells slots : Nat} {Q : State → Prop}
variable {cc : ByteArray} {pc : Nat} {ls : Array Slot} {rest : List Value} {A : Nat → Prop} {H0 : Heap} {D : va_G} {cl : List vw_C} {ws : va_W} {cA : ClassId}
theorem x_newi (hexec : p.tables.exec = Jvm.exec) (hb : c.code = cc) (harr : (Cond.arrayClass .int).before args s = true) (hK : va_K D cl [(cA, .int)] s) (hP : va_P D cl ws H) (hD : va_D A ws) (hS : va_S A H0 H locs) (hA : ∀ q, H0.size ≤ q → A q)
    {n : Int32} {N' : Nat} (hn : ¬ n < 0) (hN : n.toNatClampNeg = N') (hbytes : N' * 4 ≤ 536870912) (hcells : cells + 1 ≤ R.cells) (hslots : slots + N' ≤ R.slots) (hdg : decode cc pc = .ok (.newarray .int, 2))
    (kk : ∀ (q : Nat) (H1 : Heap), va_P D cl (ws ++ [(q, .inl (cA, N', .inl (fun _ => 0)))]) H1 → va_D A (ws ++ [(q, .inl (cA, N', .inl (fun _ => 0)))]) → va_S A H0 H1 locs →
      W p l e R s m args below meth c H1 locs (cells + 1) (slots + N') Q (F0 m (pc + 2) ls (.ref q :: rest))) : W p l e R s m args below meth c H locs cells slots Q (F0 m pc ls (.int n :: rest)) := by
  refine va_newa (atype := .int) (ty := .int) (a0 := (N', .inl (fun _ => 0))) hexec hb harr rfl hK hP hD hS hA (fun _ => rfl) hn hN hbytes hcells hslots hdg (fun q cA' H1 hK1 hP1 hD1 hS1 => ?_)
  have e1 : s.vm.findClass ("[" ++ (FieldType.int).toString) = some cA := (hK.2 0 _ rfl).2
  have e2 : s.vm.findClass ("[" ++ (FieldType.int).toString) = some cA' := (hK1.2 1 _ rfl).2
  obtain rfl : cA = cA' := Option.some.inj (e1.symm.trans e2)
  exact kk q H1 hP1 hD1 hS1
end XNA
def wX10_init (cA : ClassId) (h0 : Nat) (u : Nat → Nat) : va_W := [(h0, .inr (10, [.ref (u 0), .int 0, .int 0, .int 0])), (u 0, .inl (cA, 8, .inl (fun _ => 0)))]
abbrev rmX10_init : Room := { frames := 1, cells := 1, slots := 8, locals := 32 }
set_option maxRecDepth 100000 in
set_option maxHeartbeats 4000000 in
theorem mX10_init {l : Launch} {D : va_G} {cA : ClassId} (h0 sz : Nat) : Met l yX10_init wsX10_init rmX10_init (va_Pc [.ref h0] (fun U => U.heap.size = sz ∧ va_P D vwCl [(h0, .inr (10, [.null, .int 0, .int 0, .int 0]))] U.heap ∧ va_K D vwCl [(cA, .int)] U ∧ va_D (fun _ => True) [(h0, .inr (10, [.null, .int 0, .int 0, .int 0]))])) (va_Qv (S := Nat → Nat) (fun _ => True) (fun u t => va_P D vwCl (wX10_init cA h0 u) t.heap ∧ va_K D vwCl [(cA, .int)] t ∧ va_D (va_A [(h0, .inr (10, [.null, .int 0, .int 0, .int 0]))] sz) (wX10_init cA h0 u)) (va_A [(h0, .inr (10, [.null, .int 0, .int 0, .int 0]))] sz)) 1 8 (va_A [(h0, .inr (10, [.null, .int 0, .int 0, .int 0]))] sz) := by
  refine Met.ofW (cc := cX10_init) (maxL := 1) (ret := none) (by decide) rfl ?_
  intro p e s m args below meth c s₁ B hml hv
  obtain ⟨rfl, hsz, hP, hK, hD0⟩ := hv
  have hx := B.exec
  have hb := B.bytes
  have hr := B.returns
  have hts := atoms_spec (ws := wsX10_init) B.pre
  have hown : s.vm.findClass RX10 = some m.cls := findClass_of_methodNamed B.named
  have hlocks := B.notSynchronized
  have hin : meth.name = "<init>" := (name_of_methodNamed B.named B.method).1
  subst hsz
  have hD := hD0.self (sz := s.heap.size)
  generalize hAe : va_A [(h0, .inr (10, [.null, .int 0, .int 0, .int 0]))] s.heap.size = A at hD ⊢
  have hA : ∀ q : Nat, s.heap.size ≤ q → A q := fun q h => by rw [← hAe]; exact Or.inr h
  have hS : va_S A s.heap s.heap [] := va_S.rf
  have hl := lv_entry ([.ref h0]) (n := 1) (Nat.le_of_ble_eq_true rfl)
  rw [lg_entry_eq]
  generalize (lg_sl ([.ref h0]) ++ List.replicate (1 - (lg_sl ([.ref h0])).length) Slot.unset).toArray = ls at hl ⊢
  have hl : lv_has ls 1 [(0, .ref h0)] := hl
  have hP : va_P D vwCl [(h0, .inr (10, [.null, .int 0, .int 0, .int 0]))] s.heap := hP
  refine lv_aload_n hx hb dX10_init_0 rfl (lv_at hl 0 rfl) ?_
  refine W.objInit hx hb hown (hts (.methodLink RX10 3 objectInit) (by decide +kernel)) (hts (.instanceMethod objectInit) (by decide +kernel)) (hts (.code objectInit ⟨#[0xb1]⟩ 1 none) (by decide +kernel)) rfl (by rw [hml]; exact hl.1) rfl dX10_init_1 (Nat.le_of_ble_eq_true rfl) (Nat.le_of_ble_eq_true rfl) ?_
  refine W.eq (g2 := F0 m 4 ls []) rfl ?_
  refine lv_aload_n hx hb dX10_init_4 rfl (lv_at hl 0 rfl) ?_
  refine lv_bipush (v := 8) hx hb dX10_init_5 (by decide) ?_
  refine x_newi hx hb (hts (.arrayClass .int) (by decide +kernel)) hK hP hD hS hA (N' := 8) (by decide) (by decide) (Nat.le_of_ble_eq_true rfl) (Nat.le_of_ble_eq_true rfl) (Nat.le_of_ble_eq_true rfl) dX10_init_7 (fun q0 H hP hD hS => ?_)
  refine W.widen (k := 1) (n := 8) (Nat.le_of_ble_eq_true rfl) (Nat.le_of_ble_eq_true rfl) ?_
  have hP : va_P D vwCl [(h0, .inr (10, [.null, .int 0, .int 0, .int 0])), (q0, .inl (cA, 8, .inl (fun _ => 0)))] H := hP
  have hD : va_D A [(h0, .inr (10, [.null, .int 0, .int 0, .int 0])), (q0, .inl (cA, 8, .inl (fun _ => 0)))] := hD
  have hk9_9 := hts (.fieldLink RX10 9 "OvenRound$Store" "grams" "[I") (by decide +kernel)
  refine va_putF (D := D) (ci := 10) (v := .ref q0) (ty := .array .int) (own := RX10) (ref := RX10) (C := RX10) (T := TX10) (N := 4) hx hb hts (by decide +kernel) tyX10 tyX10_ok nmX10 hown hK hP hD hS 0 rfl rfl 0 (by decide) hk9_9 (fun _ h9 => h9) rfl hin rfl (by decide +kernel) rfl rfl (Nat.le_of_ble_eq_true rfl) dX10_init_9 (fun H locs hP hD hS => ?_)
  have hP : va_P D vwCl [(h0, .inr (10, [.ref q0, .int 0, .int 0, .int 0])), (q0, .inl (cA, 8, .inl (fun _ => 0)))] H := hP
  have hD : va_D A [(h0, .inr (10, [.ref q0, .int 0, .int 0, .int 0])), (q0, .inl (cA, 8, .inl (fun _ => 0)))] := hD
  refine W.vret hx hb hr (fun t ht hW => ⟨⟨fun k => ([q0] : List Nat).getD k 0, rfl, trivial, by rw [ht]; exact hP, va_K.moved hW.alike hK, hD⟩, hS.F ht⟩) hS.2.2 dX10_init_12

def wX8_init (cA : ClassId) (h0 : Nat) (u : Nat → Nat) : va_W := [(h0, .inr (8, [.ref (u 0), .ref (u 1), .ref (u 2), .ref (u 3), .ref (u 4), .ref (u 5), .ref (u 6), .int 0])), (u 0, .inl (cA, 6, .inl (fun _ => 0))), (u 1, .inl (cA, 6, .inl (fun _ => 0))), (u 2, .inl (cA, 6, .inl (fun _ => 0))), (u 3, .inl (cA, 6, .inl (fun _ => 0))), (u 4, .inl (cA, 6, .inl (fun _ => 0))), (u 5, .inl (cA, 6, .inl (upd (upd (upd (upd (upd (upd (fun _ => 0) 0 20) 1 20) 2 20) 3 20) 4 20) 5 20))), (u 6, .inl (cA, 48, .inl (fun _ => 0)))]
abbrev rmX8_init : Room := { frames := 1, cells := 7, slots := 84, locals := 32 }
set_option maxRecDepth 100000 in
set_option maxHeartbeats 4000000 in
theorem mX8_init {l : Launch} {D : va_G} {cA : ClassId} (h0 sz : Nat) : Met l yX8_init wsX8_init rmX8_init (va_Pc [.ref h0] (fun U => U.heap.size = sz ∧ va_P D vwCl [(h0, .inr (8, [.null, .null, .null, .null, .null, .null, .null, .int 0]))] U.heap ∧ va_K D vwCl [(cA, .int)] U ∧ va_D (fun _ => True) [(h0, .inr (8, [.null, .null, .null, .null, .null, .null, .null, .int 0]))])) (va_Qv (S := Nat → Nat) (fun _ => True) (fun u t => va_P D vwCl (wX8_init cA h0 u) t.heap ∧ va_K D vwCl [(cA, .int)] t ∧ va_D (va_A [(h0, .inr (8, [.null, .null, .null, .null, .null, .null, .null, .int 0]))] sz) (wX8_init cA h0 u)) (va_A [(h0, .inr (8, [.null, .null, .null, .null, .null, .null, .null, .int 0]))] sz)) 7 84 (va_A [(h0, .inr (8, [.null, .null, .null, .null, .null, .null, .null, .int 0]))] sz) := by
  refine Met.ofW (cc := cX8_init) (maxL := 2) (ret := none) (by decide) rfl ?_
  intro p e s m args below meth c s₁ B hml hv
  obtain ⟨rfl, hsz, hP, hK, hD0⟩ := hv
  have hx := B.exec
  have hb := B.bytes
  have hr := B.returns
  have hts := atoms_spec (ws := wsX8_init) B.pre
  have hown : s.vm.findClass RX8 = some m.cls := findClass_of_methodNamed B.named
  have hlocks := B.notSynchronized
  have hin : meth.name = "<init>" := (name_of_methodNamed B.named B.method).1
  subst hsz
  have hD := hD0.self (sz := s.heap.size)
  generalize hAe : va_A [(h0, .inr (8, [.null, .null, .null, .null, .null, .null, .null, .int 0]))] s.heap.size = A at hD ⊢
  have hA : ∀ q : Nat, s.heap.size ≤ q → A q := fun q h => by rw [← hAe]; exact Or.inr h
  have hS : va_S A s.heap s.heap [] := va_S.rf
  have hl := lv_entry ([.ref h0]) (n := 2) (Nat.le_of_ble_eq_true rfl)
  rw [lg_entry_eq]
  generalize (lg_sl ([.ref h0]) ++ List.replicate (2 - (lg_sl ([.ref h0])).length) Slot.unset).toArray = ls at hl ⊢
  have hl : lv_has ls 2 [(0, .ref h0)] := hl
  have hP : va_P D vwCl [(h0, .inr (8, [.null, .null, .null, .null, .null, .null, .null, .int 0]))] s.heap := hP
  refine lv_aload_n hx hb dX8_init_0 rfl (lv_at hl 0 rfl) ?_
  refine W.objInit hx hb hown (hts (.methodLink RX8 3 objectInit) (by decide +kernel)) (hts (.instanceMethod objectInit) (by decide +kernel)) (hts (.code objectInit ⟨#[0xb1]⟩ 1 none) (by decide +kernel)) rfl (by rw [hml]; exact hl.1) rfl dX8_init_1 (Nat.le_of_ble_eq_true rfl) (Nat.le_of_ble_eq_true rfl) ?_
  refine W.eq (g2 := F0 m 4 ls []) rfl ?_
  refine lv_aload_n hx hb dX8_init_4 rfl (lv_at hl 0 rfl) ?_
  refine lv_bipush (v := 6) hx hb dX8_init_5 (by decide) ?_
  refine x_newi hx hb (hts (.arrayClass .int) (by decide +kernel)) hK hP hD hS hA (N' := 6) (by decide) (by decide) (Nat.le_of_ble_eq_true rfl) (Nat.le_of_ble_eq_true rfl) (Nat.le_of_ble_eq_true rfl) dX8_init_7 (fun q0 H hP hD hS => ?_)
  refine W.widen (k := 1) (n := 6) (Nat.le_of_ble_eq_true rfl) (Nat.le_of_ble_eq_true rfl) ?_
  have hP : va_P D vwCl [(h0, .inr (8, [.null, .null, .null, .null, .null, .null, .null, .int 0])), (q0, .inl (cA, 6, .inl (fun _ => 0)))] H := hP
  have hD : va_D A [(h0, .inr (8, [.null, .null, .null, .null, .null, .null, .null, .int 0])), (q0, .inl (cA, 6, .inl (fun _ => 0)))] := hD
  have hk9_9 := hts (.fieldLink RX8 9 "OvenRound$Recipes" "piece" "[I") (by decide +kernel)
  refine va_putF (D := D) (ci := 8) (v := .ref q0) (ty := .array .int) (own := RX8) (ref := RX8) (C := RX8) (T := TX8) (N := 8) hx hb hts (by decide +kernel) tyX8 tyX8_ok nmX8 hown hK hP hD hS 0 rfl rfl 0 (by decide) hk9_9 (fun _ h9 => h9) rfl hin rfl (by decide +kernel) rfl rfl (Nat.le_of_ble_eq_true rfl) dX8_init_9 (fun H locs hP hD hS => ?_)
  have hP : va_P D vwCl [(h0, .inr (8, [.ref q0, .null, .null, .null, .null, .null, .null, .int 0])), (q0, .inl (cA, 6, .inl (fun _ => 0)))] H := hP
  have hD : va_D A [(h0, .inr (8, [.ref q0, .null, .null, .null, .null, .null, .null, .int 0])), (q0, .inl (cA, 6, .inl (fun _ => 0)))] := hD
  refine lv_aload_n hx hb dX8_init_12 rfl (lv_at hl 0 rfl) ?_
  refine lv_bipush (v := 6) hx hb dX8_init_13 (by decide) ?_
  refine x_newi hx hb (hts (.arrayClass .int) (by decide +kernel)) hK hP hD hS hA (N' := 6) (by decide) (by decide) (Nat.le_of_ble_eq_true rfl) (Nat.le_of_ble_eq_true rfl) (Nat.le_of_ble_eq_true rfl) dX8_init_15 (fun q1 H hP hD hS => ?_)
  refine W.widen (k := 2) (n := 12) (Nat.le_of_ble_eq_true rfl) (Nat.le_of_ble_eq_true rfl) ?_
  have hP : va_P D vwCl [(h0, .inr (8, [.ref q0, .null, .null, .null, .null, .null, .null, .int 0])), (q0, .inl (cA, 6, .inl (fun _ => 0))), (q1, .inl (cA, 6, .inl (fun _ => 0)))] H := hP
  have hD : va_D A [(h0, .inr (8, [.ref q0, .null, .null, .null, .null, .null, .null, .int 0])), (q0, .inl (cA, 6, .inl (fun _ => 0))), (q1, .inl (cA, 6, .inl (fun _ => 0)))] := hD
  have hk17_15 := hts (.fieldLink RX8 15 "OvenRound$Recipes" "low" "[I") (by decide +kernel)
  refine va_putF (D := D) (ci := 8) (v := .ref q1) (ty := .array .int) (own := RX8) (ref := RX8) (C := RX8) (T := TX8) (N := 8) hx hb hts (by decide +kernel) tyX8 tyX8_ok nmX8 hown hK hP hD hS 0 rfl rfl 1 (by decide) hk17_15 (fun _ h9 => h9) rfl hin rfl (by decide +kernel) rfl rfl (Nat.le_of_ble_eq_true rfl) dX8_init_17 (fun H locs hP hD hS => ?_)
  have hP : va_P D vwCl [(h0, .inr (8, [.ref q0, .ref q1, .null, .null, .null, .null, .null, .int 0])), (q0, .inl (cA, 6, .inl (fun _ => 0))), (q1, .inl (cA, 6, .inl (fun _ => 0)))] H := hP
  have hD : va_D A [(h0, .inr (8, [.ref q0, .ref q1, .null, .null, .null, .null, .null, .int 0])), (q0, .inl (cA, 6, .inl (fun _ => 0))), (q1, .inl (cA, 6, .inl (fun _ => 0)))] := hD
  refine lv_aload_n hx hb dX8_init_20 rfl (lv_at hl 0 rfl) ?_
  refine lv_bipush (v := 6) hx hb dX8_init_21 (by decide) ?_
  refine x_newi hx hb (hts (.arrayClass .int) (by decide +kernel)) hK hP hD hS hA (N' := 6) (by decide) (by decide) (Nat.le_of_ble_eq_true rfl) (Nat.le_of_ble_eq_true rfl) (Nat.le_of_ble_eq_true rfl) dX8_init_23 (fun q2 H hP hD hS => ?_)
  refine W.widen (k := 3) (n := 18) (Nat.le_of_ble_eq_true rfl) (Nat.le_of_ble_eq_true rfl) ?_
  have hP : va_P D vwCl [(h0, .inr (8, [.ref q0, .ref q1, .null, .null, .null, .null, .null, .int 0])), (q0, .inl (cA, 6, .inl (fun _ => 0))), (q1, .inl (cA, 6, .inl (fun _ => 0))), (q2, .inl (cA, 6, .inl (fun _ => 0)))] H := hP
  have hD : va_D A [(h0, .inr (8, [.ref q0, .ref q1, .null, .null, .null, .null, .null, .int 0])), (q0, .inl (cA, 6, .inl (fun _ => 0))), (q1, .inl (cA, 6, .inl (fun _ => 0))), (q2, .inl (cA, 6, .inl (fun _ => 0)))] := hD
  have hk25_18 := hts (.fieldLink RX8 18 "OvenRound$Recipes" "high" "[I") (by decide +kernel)
  refine va_putF (D := D) (ci := 8) (v := .ref q2) (ty := .array .int) (own := RX8) (ref := RX8) (C := RX8) (T := TX8) (N := 8) hx hb hts (by decide +kernel) tyX8 tyX8_ok nmX8 hown hK hP hD hS 0 rfl rfl 2 (by decide) hk25_18 (fun _ h9 => h9) rfl hin rfl (by decide +kernel) rfl rfl (Nat.le_of_ble_eq_true rfl) dX8_init_25 (fun H locs hP hD hS => ?_)
  have hP : va_P D vwCl [(h0, .inr (8, [.ref q0, .ref q1, .ref q2, .null, .null, .null, .null, .int 0])), (q0, .inl (cA, 6, .inl (fun _ => 0))), (q1, .inl (cA, 6, .inl (fun _ => 0))), (q2, .inl (cA, 6, .inl (fun _ => 0)))] H := hP
  have hD : va_D A [(h0, .inr (8, [.ref q0, .ref q1, .ref q2, .null, .null, .null, .null, .int 0])), (q0, .inl (cA, 6, .inl (fun _ => 0))), (q1, .inl (cA, 6, .inl (fun _ => 0))), (q2, .inl (cA, 6, .inl (fun _ => 0)))] := hD
  refine lv_aload_n hx hb dX8_init_28 rfl (lv_at hl 0 rfl) ?_
  refine lv_bipush (v := 6) hx hb dX8_init_29 (by decide) ?_
  refine x_newi hx hb (hts (.arrayClass .int) (by decide +kernel)) hK hP hD hS hA (N' := 6) (by decide) (by decide) (Nat.le_of_ble_eq_true rfl) (Nat.le_of_ble_eq_true rfl) (Nat.le_of_ble_eq_true rfl) dX8_init_31 (fun q3 H hP hD hS => ?_)
  refine W.widen (k := 4) (n := 24) (Nat.le_of_ble_eq_true rfl) (Nat.le_of_ble_eq_true rfl) ?_
  have hP : va_P D vwCl [(h0, .inr (8, [.ref q0, .ref q1, .ref q2, .null, .null, .null, .null, .int 0])), (q0, .inl (cA, 6, .inl (fun _ => 0))), (q1, .inl (cA, 6, .inl (fun _ => 0))), (q2, .inl (cA, 6, .inl (fun _ => 0))), (q3, .inl (cA, 6, .inl (fun _ => 0)))] H := hP
  have hD : va_D A [(h0, .inr (8, [.ref q0, .ref q1, .ref q2, .null, .null, .null, .null, .int 0])), (q0, .inl (cA, 6, .inl (fun _ => 0))), (q1, .inl (cA, 6, .inl (fun _ => 0))), (q2, .inl (cA, 6, .inl (fun _ => 0))), (q3, .inl (cA, 6, .inl (fun _ => 0)))] := hD
  have hk33_21 := hts (.fieldLink RX8 21 "OvenRound$Recipes" "heat" "[I") (by decide +kernel)
  refine va_putF (D := D) (ci := 8) (v := .ref q3) (ty := .array .int) (own := RX8) (ref := RX8) (C := RX8) (T := TX8) (N := 8) hx hb hts (by decide +kernel) tyX8 tyX8_ok nmX8 hown hK hP hD hS 0 rfl rfl 3 (by decide) hk33_21 (fun _ h9 => h9) rfl hin rfl (by decide +kernel) rfl rfl (Nat.le_of_ble_eq_true rfl) dX8_init_33 (fun H locs hP hD hS => ?_)
  have hP : va_P D vwCl [(h0, .inr (8, [.ref q0, .ref q1, .ref q2, .ref q3, .null, .null, .null, .int 0])), (q0, .inl (cA, 6, .inl (fun _ => 0))), (q1, .inl (cA, 6, .inl (fun _ => 0))), (q2, .inl (cA, 6, .inl (fun _ => 0))), (q3, .inl (cA, 6, .inl (fun _ => 0)))] H := hP
  have hD : va_D A [(h0, .inr (8, [.ref q0, .ref q1, .ref q2, .ref q3, .null, .null, .null, .int 0])), (q0, .inl (cA, 6, .inl (fun _ => 0))), (q1, .inl (cA, 6, .inl (fun _ => 0))), (q2, .inl (cA, 6, .inl (fun _ => 0))), (q3, .inl (cA, 6, .inl (fun _ => 0)))] := hD
  refine lv_aload_n hx hb dX8_init_36 rfl (lv_at hl 0 rfl) ?_
  refine lv_bipush (v := 6) hx hb dX8_init_37 (by decide) ?_
  refine x_newi hx hb (hts (.arrayClass .int) (by decide +kernel)) hK hP hD hS hA (N' := 6) (by decide) (by decide) (Nat.le_of_ble_eq_true rfl) (Nat.le_of_ble_eq_true rfl) (Nat.le_of_ble_eq_true rfl) dX8_init_39 (fun q4 H hP hD hS => ?_)
  refine W.widen (k := 5) (n := 30) (Nat.le_of_ble_eq_true rfl) (Nat.le_of_ble_eq_true rfl) ?_
  have hP : va_P D vwCl [(h0, .inr (8, [.ref q0, .ref q1, .ref q2, .ref q3, .null, .null, .null, .int 0])), (q0, .inl (cA, 6, .inl (fun _ => 0))), (q1, .inl (cA, 6, .inl (fun _ => 0))), (q2, .inl (cA, 6, .inl (fun _ => 0))), (q3, .inl (cA, 6, .inl (fun _ => 0))), (q4, .inl (cA, 6, .inl (fun _ => 0)))] H := hP
  have hD : va_D A [(h0, .inr (8, [.ref q0, .ref q1, .ref q2, .ref q3, .null, .null, .null, .int 0])), (q0, .inl (cA, 6, .inl (fun _ => 0))), (q1, .inl (cA, 6, .inl (fun _ => 0))), (q2, .inl (cA, 6, .inl (fun _ => 0))), (q3, .inl (cA, 6, .inl (fun _ => 0))), (q4, .inl (cA, 6, .inl (fun _ => 0)))] := hD
  have hk41_24 := hts (.fieldLink RX8 24 "OvenRound$Recipes" "allergens" "[I") (by decide +kernel)
  refine va_putF (D := D) (ci := 8) (v := .ref q4) (ty := .array .int) (own := RX8) (ref := RX8) (C := RX8) (T := TX8) (N := 8) hx hb hts (by decide +kernel) tyX8 tyX8_ok nmX8 hown hK hP hD hS 0 rfl rfl 4 (by decide) hk41_24 (fun _ h9 => h9) rfl hin rfl (by decide +kernel) rfl rfl (Nat.le_of_ble_eq_true rfl) dX8_init_41 (fun H locs hP hD hS => ?_)
  have hP : va_P D vwCl [(h0, .inr (8, [.ref q0, .ref q1, .ref q2, .ref q3, .ref q4, .null, .null, .int 0])), (q0, .inl (cA, 6, .inl (fun _ => 0))), (q1, .inl (cA, 6, .inl (fun _ => 0))), (q2, .inl (cA, 6, .inl (fun _ => 0))), (q3, .inl (cA, 6, .inl (fun _ => 0))), (q4, .inl (cA, 6, .inl (fun _ => 0)))] H := hP
  have hD : va_D A [(h0, .inr (8, [.ref q0, .ref q1, .ref q2, .ref q3, .ref q4, .null, .null, .int 0])), (q0, .inl (cA, 6, .inl (fun _ => 0))), (q1, .inl (cA, 6, .inl (fun _ => 0))), (q2, .inl (cA, 6, .inl (fun _ => 0))), (q3, .inl (cA, 6, .inl (fun _ => 0))), (q4, .inl (cA, 6, .inl (fun _ => 0)))] := hD
  refine lv_aload_n hx hb dX8_init_44 rfl (lv_at hl 0 rfl) ?_
  refine lv_bipush (v := 6) hx hb dX8_init_45 (by decide) ?_
  refine x_newi hx hb (hts (.arrayClass .int) (by decide +kernel)) hK hP hD hS hA (N' := 6) (by decide) (by decide) (Nat.le_of_ble_eq_true rfl) (Nat.le_of_ble_eq_true rfl) (Nat.le_of_ble_eq_true rfl) dX8_init_47 (fun q5 H hP hD hS => ?_)
  refine W.widen (k := 6) (n := 36) (Nat.le_of_ble_eq_true rfl) (Nat.le_of_ble_eq_true rfl) ?_
  have hP : va_P D vwCl [(h0, .inr (8, [.ref q0, .ref q1, .ref q2, .ref q3, .ref q4, .null, .null, .int 0])), (q0, .inl (cA, 6, .inl (fun _ => 0))), (q1, .inl (cA, 6, .inl (fun _ => 0))), (q2, .inl (cA, 6, .inl (fun _ => 0))), (q3, .inl (cA, 6, .inl (fun _ => 0))), (q4, .inl (cA, 6, .inl (fun _ => 0))), (q5, .inl (cA, 6, .inl (fun _ => 0)))] H := hP
  have hD : va_D A [(h0, .inr (8, [.ref q0, .ref q1, .ref q2, .ref q3, .ref q4, .null, .null, .int 0])), (q0, .inl (cA, 6, .inl (fun _ => 0))), (q1, .inl (cA, 6, .inl (fun _ => 0))), (q2, .inl (cA, 6, .inl (fun _ => 0))), (q3, .inl (cA, 6, .inl (fun _ => 0))), (q4, .inl (cA, 6, .inl (fun _ => 0))), (q5, .inl (cA, 6, .inl (fun _ => 0)))] := hD
  have hk49_27 := hts (.fieldLink RX8 27 "OvenRound$Recipes" "wait" "[I") (by decide +kernel)
  refine va_putF (D := D) (ci := 8) (v := .ref q5) (ty := .array .int) (own := RX8) (ref := RX8) (C := RX8) (T := TX8) (N := 8) hx hb hts (by decide +kernel) tyX8 tyX8_ok nmX8 hown hK hP hD hS 0 rfl rfl 5 (by decide) hk49_27 (fun _ h9 => h9) rfl hin rfl (by decide +kernel) rfl rfl (Nat.le_of_ble_eq_true rfl) dX8_init_49 (fun H locs hP hD hS => ?_)
  have hP : va_P D vwCl [(h0, .inr (8, [.ref q0, .ref q1, .ref q2, .ref q3, .ref q4, .ref q5, .null, .int 0])), (q0, .inl (cA, 6, .inl (fun _ => 0))), (q1, .inl (cA, 6, .inl (fun _ => 0))), (q2, .inl (cA, 6, .inl (fun _ => 0))), (q3, .inl (cA, 6, .inl (fun _ => 0))), (q4, .inl (cA, 6, .inl (fun _ => 0))), (q5, .inl (cA, 6, .inl (fun _ => 0)))] H := hP
  have hD : va_D A [(h0, .inr (8, [.ref q0, .ref q1, .ref q2, .ref q3, .ref q4, .ref q5, .null, .int 0])), (q0, .inl (cA, 6, .inl (fun _ => 0))), (q1, .inl (cA, 6, .inl (fun _ => 0))), (q2, .inl (cA, 6, .inl (fun _ => 0))), (q3, .inl (cA, 6, .inl (fun _ => 0))), (q4, .inl (cA, 6, .inl (fun _ => 0))), (q5, .inl (cA, 6, .inl (fun _ => 0)))] := hD
  refine lv_aload_n hx hb dX8_init_52 rfl (lv_at hl 0 rfl) ?_
  refine lv_bipush (v := 48) hx hb dX8_init_53 (by decide) ?_
  refine x_newi hx hb (hts (.arrayClass .int) (by decide +kernel)) hK hP hD hS hA (N' := 48) (by decide) (by decide) (Nat.le_of_ble_eq_true rfl) (Nat.le_of_ble_eq_true rfl) (Nat.le_of_ble_eq_true rfl) dX8_init_55 (fun q6 H hP hD hS => ?_)
  refine W.widen (k := 7) (n := 84) (Nat.le_of_ble_eq_true rfl) (Nat.le_of_ble_eq_true rfl) ?_
  have hP : va_P D vwCl [(h0, .inr (8, [.ref q0, .ref q1, .ref q2, .ref q3, .ref q4, .ref q5, .null, .int 0])), (q0, .inl (cA, 6, .inl (fun _ => 0))), (q1, .inl (cA, 6, .inl (fun _ => 0))), (q2, .inl (cA, 6, .inl (fun _ => 0))), (q3, .inl (cA, 6, .inl (fun _ => 0))), (q4, .inl (cA, 6, .inl (fun _ => 0))), (q5, .inl (cA, 6, .inl (fun _ => 0))), (q6, .inl (cA, 48, .inl (fun _ => 0)))] H := hP
  have hD : va_D A [(h0, .inr (8, [.ref q0, .ref q1, .ref q2, .ref q3, .ref q4, .ref q5, .null, .int 0])), (q0, .inl (cA, 6, .inl (fun _ => 0))), (q1, .inl (cA, 6, .inl (fun _ => 0))), (q2, .inl (cA, 6, .inl (fun _ => 0))), (q3, .inl (cA, 6, .inl (fun _ => 0))), (q4, .inl (cA, 6, .inl (fun _ => 0))), (q5, .inl (cA, 6, .inl (fun _ => 0))), (q6, .inl (cA, 48, .inl (fun _ => 0)))] := hD
  have hk57_30 := hts (.fieldLink RX8 30 "OvenRound$Recipes" "parts" "[I") (by decide +kernel)
  refine va_putF (D := D) (ci := 8) (v := .ref q6) (ty := .array .int) (own := RX8) (ref := RX8) (C := RX8) (T := TX8) (N := 8) hx hb hts (by decide +kernel) tyX8 tyX8_ok nmX8 hown hK hP hD hS 0 rfl rfl 6 (by decide) hk57_30 (fun _ h9 => h9) rfl hin rfl (by decide +kernel) rfl rfl (Nat.le_of_ble_eq_true rfl) dX8_init_57 (fun H locs hP hD hS => ?_)
  have hP : va_P D vwCl [(h0, .inr (8, [.ref q0, .ref q1, .ref q2, .ref q3, .ref q4, .ref q5, .ref q6, .int 0])), (q0, .inl (cA, 6, .inl (fun _ => 0))), (q1, .inl (cA, 6, .inl (fun _ => 0))), (q2, .inl (cA, 6, .inl (fun _ => 0))), (q3, .inl (cA, 6, .inl (fun _ => 0))), (q4, .inl (cA, 6, .inl (fun _ => 0))), (q5, .inl (cA, 6, .inl (fun _ => 0))), (q6, .inl (cA, 48, .inl (fun _ => 0)))] H := hP
  have hD : va_D A [(h0, .inr (8, [.ref q0, .ref q1, .ref q2, .ref q3, .ref q4, .ref q5, .ref q6, .int 0])), (q0, .inl (cA, 6, .inl (fun _ => 0))), (q1, .inl (cA, 6, .inl (fun _ => 0))), (q2, .inl (cA, 6, .inl (fun _ => 0))), (q3, .inl (cA, 6, .inl (fun _ => 0))), (q4, .inl (cA, 6, .inl (fun _ => 0))), (q5, .inl (cA, 6, .inl (fun _ => 0))), (q6, .inl (cA, 48, .inl (fun _ => 0)))] := hD
  refine lv_iconst (v := 0) hx hb dX8_init_60 (by decide) ?_
  refine lv_istore_n (lv' := [(1, .int 0), (0, .ref h0)]) hx hb dX8_init_61 rfl hl (by decide) rfl (fun ls hl => ?_)
  refine lv_iload_n hx hb dX8_init_62 rfl (lv_at hl 0 rfl) ?_
  refine lv_bipush (v := 6) hx hb dX8_init_63 (by decide) ?_
  refine lv_icmp_ge (tgt := 82) hx hb dX8_init_65 (by decide) (fun cx => absurd cx (by decide)) (fun _ => ?_)
  refine lv_aload_n hx hb dX8_init_68 rfl (lv_at hl 1 rfl) ?_
  have hk69_27 := hts (.fieldLink RX8 27 "OvenRound$Recipes" "wait" "[I") (by decide +kernel)
  refine va_get (D := D) (own := RX8) (ref := RX8) (C := RX8) (T := TX8) (N := 8) hx hb hts (by decide +kernel) hown hK hP 0 rfl rfl 5 (by decide) hk69_27 (fun _ h9 => h9) (v := .ref q5) rfl dX8_init_69 ?_
  refine lv_iload_n hx hb dX8_init_72 rfl (lv_at hl 0 rfl) ?_
  refine lv_bipush (v := 20) hx hb dX8_init_73 (by decide) ?_
  refine va_iast hx hb hK hP hD hS 6 0 (cA := cA) (n := 6) (f := (fun _ => 0)) rfl rfl (i := 0) (xin_vp (by decide)) dX8_init_75 (fun H locs hP hD hS => ?_)
  have hP : va_P D vwCl [(h0, .inr (8, [.ref q0, .ref q1, .ref q2, .ref q3, .ref q4, .ref q5, .ref q6, .int 0])), (q0, .inl (cA, 6, .inl (fun _ => 0))), (q1, .inl (cA, 6, .inl (fun _ => 0))), (q2, .inl (cA, 6, .inl (fun _ => 0))), (q3, .inl (cA, 6, .inl (fun _ => 0))), (q4, .inl (cA, 6, .inl (fun _ => 0))), (q5, .inl (cA, 6, .inl (upd (fun _ => 0) 0 20))), (q6, .inl (cA, 48, .inl (fun _ => 0)))] H := hP
  have hD : va_D A [(h0, .inr (8, [.ref q0, .ref q1, .ref q2, .ref q3, .ref q4, .ref q5, .ref q6, .int 0])), (q0, .inl (cA, 6, .inl (fun _ => 0))), (q1, .inl (cA, 6, .inl (fun _ => 0))), (q2, .inl (cA, 6, .inl (fun _ => 0))), (q3, .inl (cA, 6, .inl (fun _ => 0))), (q4, .inl (cA, 6, .inl (fun _ => 0))), (q5, .inl (cA, 6, .inl (upd (fun _ => 0) 0 20))), (q6, .inl (cA, 48, .inl (fun _ => 0)))] := hD
  refine lv_iinc (v := 1) (lv' := [(1, .int 1), (0, .ref h0)]) hx hb dX8_init_76 hl (k := 0) rfl (by decide) (by decide) rfl (fun ls hl => ?_)
  refine lv_goto (tgt := 62) hx hb dX8_init_79 (by decide) ?_
  refine lv_iload_n hx hb dX8_init_62 rfl (lv_at hl 0 rfl) ?_
  refine lv_bipush (v := 6) hx hb dX8_init_63 (by decide) ?_
  refine lv_icmp_ge (tgt := 82) hx hb dX8_init_65 (by decide) (fun cx => absurd cx (by decide)) (fun _ => ?_)
  refine lv_aload_n hx hb dX8_init_68 rfl (lv_at hl 1 rfl) ?_
  have hk69_27 := hts (.fieldLink RX8 27 "OvenRound$Recipes" "wait" "[I") (by decide +kernel)
  refine va_get (D := D) (own := RX8) (ref := RX8) (C := RX8) (T := TX8) (N := 8) hx hb hts (by decide +kernel) hown hK hP 0 rfl rfl 5 (by decide) hk69_27 (fun _ h9 => h9) (v := .ref q5) rfl dX8_init_69 ?_
  refine lv_iload_n hx hb dX8_init_72 rfl (lv_at hl 0 rfl) ?_
  refine lv_bipush (v := 20) hx hb dX8_init_73 (by decide) ?_
  refine va_iast hx hb hK hP hD hS 6 0 (cA := cA) (n := 6) (f := (upd (fun _ => 0) 0 20)) rfl rfl (i := 1) (xin_vp (by decide)) dX8_init_75 (fun H locs hP hD hS => ?_)
  have hP : va_P D vwCl [(h0, .inr (8, [.ref q0, .ref q1, .ref q2, .ref q3, .ref q4, .ref q5, .ref q6, .int 0])), (q0, .inl (cA, 6, .inl (fun _ => 0))), (q1, .inl (cA, 6, .inl (fun _ => 0))), (q2, .inl (cA, 6, .inl (fun _ => 0))), (q3, .inl (cA, 6, .inl (fun _ => 0))), (q4, .inl (cA, 6, .inl (fun _ => 0))), (q5, .inl (cA, 6, .inl (upd (upd (fun _ => 0) 0 20) 1 20))), (q6, .inl (cA, 48, .inl (fun _ => 0)))] H := hP
  have hD : va_D A [(h0, .inr (8, [.ref q0, .ref q1, .ref q2, .ref q3, .ref q4, .ref q5, .ref q6, .int 0])), (q0, .inl (cA, 6, .inl (fun _ => 0))), (q1, .inl (cA, 6, .inl (fun _ => 0))), (q2, .inl (cA, 6, .inl (fun _ => 0))), (q3, .inl (cA, 6, .inl (fun _ => 0))), (q4, .inl (cA, 6, .inl (fun _ => 0))), (q5, .inl (cA, 6, .inl (upd (upd (fun _ => 0) 0 20) 1 20))), (q6, .inl (cA, 48, .inl (fun _ => 0)))] := hD
  refine lv_iinc (v := 2) (lv' := [(1, .int 2), (0, .ref h0)]) hx hb dX8_init_76 hl (k := 0) rfl (by decide) (by decide) rfl (fun ls hl => ?_)
  refine lv_goto (tgt := 62) hx hb dX8_init_79 (by decide) ?_
  refine lv_iload_n hx hb dX8_init_62 rfl (lv_at hl 0 rfl) ?_
  refine lv_bipush (v := 6) hx hb dX8_init_63 (by decide) ?_
  refine lv_icmp_ge (tgt := 82) hx hb dX8_init_65 (by decide) (fun cx => absurd cx (by decide)) (fun _ => ?_)
  refine lv_aload_n hx hb dX8_init_68 rfl (lv_at hl 1 rfl) ?_
  have hk69_27 := hts (.fieldLink RX8 27 "OvenRound$Recipes" "wait" "[I") (by decide +kernel)
  refine va_get (D := D) (own := RX8) (ref := RX8) (C := RX8) (T := TX8) (N := 8) hx hb hts (by decide +kernel) hown hK hP 0 rfl rfl 5 (by decide) hk69_27 (fun _ h9 => h9) (v := .ref q5) rfl dX8_init_69 ?_
  refine lv_iload_n hx hb dX8_init_72 rfl (lv_at hl 0 rfl) ?_
  refine lv_bipush (v := 20) hx hb dX8_init_73 (by decide) ?_
  refine va_iast hx hb hK hP hD hS 6 0 (cA := cA) (n := 6) (f := (upd (upd (fun _ => 0) 0 20) 1 20)) rfl rfl (i := 2) (xin_vp (by decide)) dX8_init_75 (fun H locs hP hD hS => ?_)
  have hP : va_P D vwCl [(h0, .inr (8, [.ref q0, .ref q1, .ref q2, .ref q3, .ref q4, .ref q5, .ref q6, .int 0])), (q0, .inl (cA, 6, .inl (fun _ => 0))), (q1, .inl (cA, 6, .inl (fun _ => 0))), (q2, .inl (cA, 6, .inl (fun _ => 0))), (q3, .inl (cA, 6, .inl (fun _ => 0))), (q4, .inl (cA, 6, .inl (fun _ => 0))), (q5, .inl (cA, 6, .inl (upd (upd (upd (fun _ => 0) 0 20) 1 20) 2 20))), (q6, .inl (cA, 48, .inl (fun _ => 0)))] H := hP
  have hD : va_D A [(h0, .inr (8, [.ref q0, .ref q1, .ref q2, .ref q3, .ref q4, .ref q5, .ref q6, .int 0])), (q0, .inl (cA, 6, .inl (fun _ => 0))), (q1, .inl (cA, 6, .inl (fun _ => 0))), (q2, .inl (cA, 6, .inl (fun _ => 0))), (q3, .inl (cA, 6, .inl (fun _ => 0))), (q4, .inl (cA, 6, .inl (fun _ => 0))), (q5, .inl (cA, 6, .inl (upd (upd (upd (fun _ => 0) 0 20) 1 20) 2 20))), (q6, .inl (cA, 48, .inl (fun _ => 0)))] := hD
  refine lv_iinc (v := 3) (lv' := [(1, .int 3), (0, .ref h0)]) hx hb dX8_init_76 hl (k := 0) rfl (by decide) (by decide) rfl (fun ls hl => ?_)
  refine lv_goto (tgt := 62) hx hb dX8_init_79 (by decide) ?_
  refine lv_iload_n hx hb dX8_init_62 rfl (lv_at hl 0 rfl) ?_
  refine lv_bipush (v := 6) hx hb dX8_init_63 (by decide) ?_
  refine lv_icmp_ge (tgt := 82) hx hb dX8_init_65 (by decide) (fun cx => absurd cx (by decide)) (fun _ => ?_)
  refine lv_aload_n hx hb dX8_init_68 rfl (lv_at hl 1 rfl) ?_
  have hk69_27 := hts (.fieldLink RX8 27 "OvenRound$Recipes" "wait" "[I") (by decide +kernel)
  refine va_get (D := D) (own := RX8) (ref := RX8) (C := RX8) (T := TX8) (N := 8) hx hb hts (by decide +kernel) hown hK hP 0 rfl rfl 5 (by decide) hk69_27 (fun _ h9 => h9) (v := .ref q5) rfl dX8_init_69 ?_
  refine lv_iload_n hx hb dX8_init_72 rfl (lv_at hl 0 rfl) ?_
  refine lv_bipush (v := 20) hx hb dX8_init_73 (by decide) ?_
  refine va_iast hx hb hK hP hD hS 6 0 (cA := cA) (n := 6) (f := (upd (upd (upd (fun _ => 0) 0 20) 1 20) 2 20)) rfl rfl (i := 3) (xin_vp (by decide)) dX8_init_75 (fun H locs hP hD hS => ?_)
  have hP : va_P D vwCl [(h0, .inr (8, [.ref q0, .ref q1, .ref q2, .ref q3, .ref q4, .ref q5, .ref q6, .int 0])), (q0, .inl (cA, 6, .inl (fun _ => 0))), (q1, .inl (cA, 6, .inl (fun _ => 0))), (q2, .inl (cA, 6, .inl (fun _ => 0))), (q3, .inl (cA, 6, .inl (fun _ => 0))), (q4, .inl (cA, 6, .inl (fun _ => 0))), (q5, .inl (cA, 6, .inl (upd (upd (upd (upd (fun _ => 0) 0 20) 1 20) 2 20) 3 20))), (q6, .inl (cA, 48, .inl (fun _ => 0)))] H := hP
  have hD : va_D A [(h0, .inr (8, [.ref q0, .ref q1, .ref q2, .ref q3, .ref q4, .ref q5, .ref q6, .int 0])), (q0, .inl (cA, 6, .inl (fun _ => 0))), (q1, .inl (cA, 6, .inl (fun _ => 0))), (q2, .inl (cA, 6, .inl (fun _ => 0))), (q3, .inl (cA, 6, .inl (fun _ => 0))), (q4, .inl (cA, 6, .inl (fun _ => 0))), (q5, .inl (cA, 6, .inl (upd (upd (upd (upd (fun _ => 0) 0 20) 1 20) 2 20) 3 20))), (q6, .inl (cA, 48, .inl (fun _ => 0)))] := hD
  refine lv_iinc (v := 4) (lv' := [(1, .int 4), (0, .ref h0)]) hx hb dX8_init_76 hl (k := 0) rfl (by decide) (by decide) rfl (fun ls hl => ?_)
  refine lv_goto (tgt := 62) hx hb dX8_init_79 (by decide) ?_
  refine lv_iload_n hx hb dX8_init_62 rfl (lv_at hl 0 rfl) ?_
  refine lv_bipush (v := 6) hx hb dX8_init_63 (by decide) ?_
  refine lv_icmp_ge (tgt := 82) hx hb dX8_init_65 (by decide) (fun cx => absurd cx (by decide)) (fun _ => ?_)
  refine lv_aload_n hx hb dX8_init_68 rfl (lv_at hl 1 rfl) ?_
  have hk69_27 := hts (.fieldLink RX8 27 "OvenRound$Recipes" "wait" "[I") (by decide +kernel)
  refine va_get (D := D) (own := RX8) (ref := RX8) (C := RX8) (T := TX8) (N := 8) hx hb hts (by decide +kernel) hown hK hP 0 rfl rfl 5 (by decide) hk69_27 (fun _ h9 => h9) (v := .ref q5) rfl dX8_init_69 ?_
  refine lv_iload_n hx hb dX8_init_72 rfl (lv_at hl 0 rfl) ?_
  refine lv_bipush (v := 20) hx hb dX8_init_73 (by decide) ?_
  refine va_iast hx hb hK hP hD hS 6 0 (cA := cA) (n := 6) (f := (upd (upd (upd (upd (fun _ => 0) 0 20) 1 20) 2 20) 3 20)) rfl rfl (i := 4) (xin_vp (by decide)) dX8_init_75 (fun H locs hP hD hS => ?_)
  have hP : va_P D vwCl [(h0, .inr (8, [.ref q0, .ref q1, .ref q2, .ref q3, .ref q4, .ref q5, .ref q6, .int 0])), (q0, .inl (cA, 6, .inl (fun _ => 0))), (q1, .inl (cA, 6, .inl (fun _ => 0))), (q2, .inl (cA, 6, .inl (fun _ => 0))), (q3, .inl (cA, 6, .inl (fun _ => 0))), (q4, .inl (cA, 6, .inl (fun _ => 0))), (q5, .inl (cA, 6, .inl (upd (upd (upd (upd (upd (fun _ => 0) 0 20) 1 20) 2 20) 3 20) 4 20))), (q6, .inl (cA, 48, .inl (fun _ => 0)))] H := hP
  have hD : va_D A [(h0, .inr (8, [.ref q0, .ref q1, .ref q2, .ref q3, .ref q4, .ref q5, .ref q6, .int 0])), (q0, .inl (cA, 6, .inl (fun _ => 0))), (q1, .inl (cA, 6, .inl (fun _ => 0))), (q2, .inl (cA, 6, .inl (fun _ => 0))), (q3, .inl (cA, 6, .inl (fun _ => 0))), (q4, .inl (cA, 6, .inl (fun _ => 0))), (q5, .inl (cA, 6, .inl (upd (upd (upd (upd (upd (fun _ => 0) 0 20) 1 20) 2 20) 3 20) 4 20))), (q6, .inl (cA, 48, .inl (fun _ => 0)))] := hD
  refine lv_iinc (v := 5) (lv' := [(1, .int 5), (0, .ref h0)]) hx hb dX8_init_76 hl (k := 0) rfl (by decide) (by decide) rfl (fun ls hl => ?_)
  refine lv_goto (tgt := 62) hx hb dX8_init_79 (by decide) ?_
  refine lv_iload_n hx hb dX8_init_62 rfl (lv_at hl 0 rfl) ?_
  refine lv_bipush (v := 6) hx hb dX8_init_63 (by decide) ?_
  refine lv_icmp_ge (tgt := 82) hx hb dX8_init_65 (by decide) (fun cx => absurd cx (by decide)) (fun _ => ?_)
  refine lv_aload_n hx hb dX8_init_68 rfl (lv_at hl 1 rfl) ?_
  have hk69_27 := hts (.fieldLink RX8 27 "OvenRound$Recipes" "wait" "[I") (by decide +kernel)
  refine va_get (D := D) (own := RX8) (ref := RX8) (C := RX8) (T := TX8) (N := 8) hx hb hts (by decide +kernel) hown hK hP 0 rfl rfl 5 (by decide) hk69_27 (fun _ h9 => h9) (v := .ref q5) rfl dX8_init_69 ?_
  refine lv_iload_n hx hb dX8_init_72 rfl (lv_at hl 0 rfl) ?_
  refine lv_bipush (v := 20) hx hb dX8_init_73 (by decide) ?_
  refine va_iast hx hb hK hP hD hS 6 0 (cA := cA) (n := 6) (f := (upd (upd (upd (upd (upd (fun _ => 0) 0 20) 1 20) 2 20) 3 20) 4 20)) rfl rfl (i := 5) (xin_vp (by decide)) dX8_init_75 (fun H locs hP hD hS => ?_)
  have hP : va_P D vwCl [(h0, .inr (8, [.ref q0, .ref q1, .ref q2, .ref q3, .ref q4, .ref q5, .ref q6, .int 0])), (q0, .inl (cA, 6, .inl (fun _ => 0))), (q1, .inl (cA, 6, .inl (fun _ => 0))), (q2, .inl (cA, 6, .inl (fun _ => 0))), (q3, .inl (cA, 6, .inl (fun _ => 0))), (q4, .inl (cA, 6, .inl (fun _ => 0))), (q5, .inl (cA, 6, .inl (upd (upd (upd (upd (upd (upd (fun _ => 0) 0 20) 1 20) 2 20) 3 20) 4 20) 5 20))), (q6, .inl (cA, 48, .inl (fun _ => 0)))] H := hP
  have hD : va_D A [(h0, .inr (8, [.ref q0, .ref q1, .ref q2, .ref q3, .ref q4, .ref q5, .ref q6, .int 0])), (q0, .inl (cA, 6, .inl (fun _ => 0))), (q1, .inl (cA, 6, .inl (fun _ => 0))), (q2, .inl (cA, 6, .inl (fun _ => 0))), (q3, .inl (cA, 6, .inl (fun _ => 0))), (q4, .inl (cA, 6, .inl (fun _ => 0))), (q5, .inl (cA, 6, .inl (upd (upd (upd (upd (upd (upd (fun _ => 0) 0 20) 1 20) 2 20) 3 20) 4 20) 5 20))), (q6, .inl (cA, 48, .inl (fun _ => 0)))] := hD
  refine lv_iinc (v := 6) (lv' := [(1, .int 6), (0, .ref h0)]) hx hb dX8_init_76 hl (k := 0) rfl (by decide) (by decide) rfl (fun ls hl => ?_)
  refine lv_goto (tgt := 62) hx hb dX8_init_79 (by decide) ?_
  refine lv_iload_n hx hb dX8_init_62 rfl (lv_at hl 0 rfl) ?_
  refine lv_bipush (v := 6) hx hb dX8_init_63 (by decide) ?_
  refine lv_icmp_ge (tgt := 82) hx hb dX8_init_65 (by decide) (fun _ => ?_) (fun cx => absurd (by decide) cx)
  refine W.vret hx hb hr (fun t ht hW => ⟨⟨fun k => ([q0, q1, q2, q3, q4, q5, q6] : List Nat).getD k 0, rfl, trivial, by rw [ht]; exact hP, va_K.moved hW.alike hK, hD⟩, hS.F ht⟩) hS.2.2 dX8_init_82

def wX2_init (cA : ClassId) (h0 : Nat) (u : Nat → Nat) : va_W := [(h0, .inr (2, [.ref (u 0), .ref (u 1), .ref (u 2), .ref (u 3), .ref (u 4), .ref (u 5), .ref (u 6), .int 0])), (u 0, .inl (cA, 20, .inl (fun _ => 0))), (u 1, .inl (cA, 20, .inl (fun _ => 0))), (u 2, .inl (cA, 20, .inl (fun _ => 0))), (u 3, .inl (cA, 20, .inl (fun _ => 0))), (u 4, .inl (cA, 20, .inl (fun _ => 0))), (u 5, .inl (cA, 20, .inl (fun _ => 0))), (u 6, .inl (cA, 20, .inl (fun _ => 0)))]
abbrev rmX2_init : Room := { frames := 1, cells := 7, slots := 140, locals := 32 }
set_option maxRecDepth 100000 in
set_option maxHeartbeats 4000000 in
theorem mX2_init {l : Launch} {D : va_G} {cA : ClassId} (h0 sz : Nat) : Met l yX2_init wsX2_init rmX2_init (va_Pc [.ref h0] (fun U => U.heap.size = sz ∧ va_P D vwCl [(h0, .inr (2, [.null, .null, .null, .null, .null, .null, .null, .int 0]))] U.heap ∧ va_K D vwCl [(cA, .int)] U ∧ va_D (fun _ => True) [(h0, .inr (2, [.null, .null, .null, .null, .null, .null, .null, .int 0]))])) (va_Qv (S := Nat → Nat) (fun _ => True) (fun u t => va_P D vwCl (wX2_init cA h0 u) t.heap ∧ va_K D vwCl [(cA, .int)] t ∧ va_D (va_A [(h0, .inr (2, [.null, .null, .null, .null, .null, .null, .null, .int 0]))] sz) (wX2_init cA h0 u)) (va_A [(h0, .inr (2, [.null, .null, .null, .null, .null, .null, .null, .int 0]))] sz)) 7 140 (va_A [(h0, .inr (2, [.null, .null, .null, .null, .null, .null, .null, .int 0]))] sz) := by
  refine Met.ofW (cc := cX2_init) (maxL := 1) (ret := none) (by decide) rfl ?_
  intro p e s m args below meth c s₁ B hml hv
  obtain ⟨rfl, hsz, hP, hK, hD0⟩ := hv
  have hx := B.exec
  have hb := B.bytes
  have hr := B.returns
  have hts := atoms_spec (ws := wsX2_init) B.pre
  have hown : s.vm.findClass RX2 = some m.cls := findClass_of_methodNamed B.named
  have hlocks := B.notSynchronized
  have hin : meth.name = "<init>" := (name_of_methodNamed B.named B.method).1
  subst hsz
  have hD := hD0.self (sz := s.heap.size)
  generalize hAe : va_A [(h0, .inr (2, [.null, .null, .null, .null, .null, .null, .null, .int 0]))] s.heap.size = A at hD ⊢
  have hA : ∀ q : Nat, s.heap.size ≤ q → A q := fun q h => by rw [← hAe]; exact Or.inr h
  have hS : va_S A s.heap s.heap [] := va_S.rf
  have hl := lv_entry ([.ref h0]) (n := 1) (Nat.le_of_ble_eq_true rfl)
  rw [lg_entry_eq]
  generalize (lg_sl ([.ref h0]) ++ List.replicate (1 - (lg_sl ([.ref h0])).length) Slot.unset).toArray = ls at hl ⊢
  have hl : lv_has ls 1 [(0, .ref h0)] := hl
  have hP : va_P D vwCl [(h0, .inr (2, [.null, .null, .null, .null, .null, .null, .null, .int 0]))] s.heap := hP
  refine lv_aload_n hx hb dX2_init_0 rfl (lv_at hl 0 rfl) ?_
  refine W.objInit hx hb hown (hts (.methodLink RX2 3 objectInit) (by decide +kernel)) (hts (.instanceMethod objectInit) (by decide +kernel)) (hts (.code objectInit ⟨#[0xb1]⟩ 1 none) (by decide +kernel)) rfl (by rw [hml]; exact hl.1) rfl dX2_init_1 (Nat.le_of_ble_eq_true rfl) (Nat.le_of_ble_eq_true rfl) ?_
  refine W.eq (g2 := F0 m 4 ls []) rfl ?_
  refine lv_aload_n hx hb dX2_init_4 rfl (lv_at hl 0 rfl) ?_
  refine lv_bipush (v := 20) hx hb dX2_init_5 (by decide) ?_
  refine x_newi hx hb (hts (.arrayClass .int) (by decide +kernel)) hK hP hD hS hA (N' := 20) (by decide) (by decide) (Nat.le_of_ble_eq_true rfl) (Nat.le_of_ble_eq_true rfl) (Nat.le_of_ble_eq_true rfl) dX2_init_7 (fun q0 H hP hD hS => ?_)
  refine W.widen (k := 1) (n := 20) (Nat.le_of_ble_eq_true rfl) (Nat.le_of_ble_eq_true rfl) ?_
  have hP : va_P D vwCl [(h0, .inr (2, [.null, .null, .null, .null, .null, .null, .null, .int 0])), (q0, .inl (cA, 20, .inl (fun _ => 0)))] H := hP
  have hD : va_D A [(h0, .inr (2, [.null, .null, .null, .null, .null, .null, .null, .int 0])), (q0, .inl (cA, 20, .inl (fun _ => 0)))] := hD
  have hk9_9 := hts (.fieldLink RX2 9 "OvenRound$Doughs" "recipe" "[I") (by decide +kernel)
  refine va_putF (D := D) (ci := 2) (v := .ref q0) (ty := .array .int) (own := RX2) (ref := RX2) (C := RX2) (T := TX2) (N := 8) hx hb hts (by decide +kernel) tyX2 tyX2_ok nmX2 hown hK hP hD hS 0 rfl rfl 0 (by decide) hk9_9 (fun _ h9 => h9) rfl hin rfl (by decide +kernel) rfl rfl (Nat.le_of_ble_eq_true rfl) dX2_init_9 (fun H locs hP hD hS => ?_)
  have hP : va_P D vwCl [(h0, .inr (2, [.ref q0, .null, .null, .null, .null, .null, .null, .int 0])), (q0, .inl (cA, 20, .inl (fun _ => 0)))] H := hP
  have hD : va_D A [(h0, .inr (2, [.ref q0, .null, .null, .null, .null, .null, .null, .int 0])), (q0, .inl (cA, 20, .inl (fun _ => 0)))] := hD
  refine lv_aload_n hx hb dX2_init_12 rfl (lv_at hl 0 rfl) ?_
  refine lv_bipush (v := 20) hx hb dX2_init_13 (by decide) ?_
  refine x_newi hx hb (hts (.arrayClass .int) (by decide +kernel)) hK hP hD hS hA (N' := 20) (by decide) (by decide) (Nat.le_of_ble_eq_true rfl) (Nat.le_of_ble_eq_true rfl) (Nat.le_of_ble_eq_true rfl) dX2_init_15 (fun q1 H hP hD hS => ?_)
  refine W.widen (k := 2) (n := 40) (Nat.le_of_ble_eq_true rfl) (Nat.le_of_ble_eq_true rfl) ?_
  have hP : va_P D vwCl [(h0, .inr (2, [.ref q0, .null, .null, .null, .null, .null, .null, .int 0])), (q0, .inl (cA, 20, .inl (fun _ => 0))), (q1, .inl (cA, 20, .inl (fun _ => 0)))] H := hP
  have hD : va_D A [(h0, .inr (2, [.ref q0, .null, .null, .null, .null, .null, .null, .int 0])), (q0, .inl (cA, 20, .inl (fun _ => 0))), (q1, .inl (cA, 20, .inl (fun _ => 0)))] := hD
  have hk17_15 := hts (.fieldLink RX2 15 "OvenRound$Doughs" "pieces" "[I") (by decide +kernel)
  refine va_putF (D := D) (ci := 2) (v := .ref q1) (ty := .array .int) (own := RX2) (ref := RX2) (C := RX2) (T := TX2) (N := 8) hx hb hts (by decide +kernel) tyX2 tyX2_ok nmX2 hown hK hP hD hS 0 rfl rfl 1 (by decide) hk17_15 (fun _ h9 => h9) rfl hin rfl (by decide +kernel) rfl rfl (Nat.le_of_ble_eq_true rfl) dX2_init_17 (fun H locs hP hD hS => ?_)
  have hP : va_P D vwCl [(h0, .inr (2, [.ref q0, .ref q1, .null, .null, .null, .null, .null, .int 0])), (q0, .inl (cA, 20, .inl (fun _ => 0))), (q1, .inl (cA, 20, .inl (fun _ => 0)))] H := hP
  have hD : va_D A [(h0, .inr (2, [.ref q0, .ref q1, .null, .null, .null, .null, .null, .int 0])), (q0, .inl (cA, 20, .inl (fun _ => 0))), (q1, .inl (cA, 20, .inl (fun _ => 0)))] := hD
  refine lv_aload_n hx hb dX2_init_20 rfl (lv_at hl 0 rfl) ?_
  refine lv_bipush (v := 20) hx hb dX2_init_21 (by decide) ?_
  refine x_newi hx hb (hts (.arrayClass .int) (by decide +kernel)) hK hP hD hS hA (N' := 20) (by decide) (by decide) (Nat.le_of_ble_eq_true rfl) (Nat.le_of_ble_eq_true rfl) (Nat.le_of_ble_eq_true rfl) dX2_init_23 (fun q2 H hP hD hS => ?_)
  refine W.widen (k := 3) (n := 60) (Nat.le_of_ble_eq_true rfl) (Nat.le_of_ble_eq_true rfl) ?_
  have hP : va_P D vwCl [(h0, .inr (2, [.ref q0, .ref q1, .null, .null, .null, .null, .null, .int 0])), (q0, .inl (cA, 20, .inl (fun _ => 0))), (q1, .inl (cA, 20, .inl (fun _ => 0))), (q2, .inl (cA, 20, .inl (fun _ => 0)))] H := hP
  have hD : va_D A [(h0, .inr (2, [.ref q0, .ref q1, .null, .null, .null, .null, .null, .int 0])), (q0, .inl (cA, 20, .inl (fun _ => 0))), (q1, .inl (cA, 20, .inl (fun _ => 0))), (q2, .inl (cA, 20, .inl (fun _ => 0)))] := hD
  have hk25_18 := hts (.fieldLink RX2 18 "OvenRound$Doughs" "grams" "[I") (by decide +kernel)
  refine va_putF (D := D) (ci := 2) (v := .ref q2) (ty := .array .int) (own := RX2) (ref := RX2) (C := RX2) (T := TX2) (N := 8) hx hb hts (by decide +kernel) tyX2 tyX2_ok nmX2 hown hK hP hD hS 0 rfl rfl 2 (by decide) hk25_18 (fun _ h9 => h9) rfl hin rfl (by decide +kernel) rfl rfl (Nat.le_of_ble_eq_true rfl) dX2_init_25 (fun H locs hP hD hS => ?_)
  have hP : va_P D vwCl [(h0, .inr (2, [.ref q0, .ref q1, .ref q2, .null, .null, .null, .null, .int 0])), (q0, .inl (cA, 20, .inl (fun _ => 0))), (q1, .inl (cA, 20, .inl (fun _ => 0))), (q2, .inl (cA, 20, .inl (fun _ => 0)))] H := hP
  have hD : va_D A [(h0, .inr (2, [.ref q0, .ref q1, .ref q2, .null, .null, .null, .null, .int 0])), (q0, .inl (cA, 20, .inl (fun _ => 0))), (q1, .inl (cA, 20, .inl (fun _ => 0))), (q2, .inl (cA, 20, .inl (fun _ => 0)))] := hD
  refine lv_aload_n hx hb dX2_init_28 rfl (lv_at hl 0 rfl) ?_
  refine lv_bipush (v := 20) hx hb dX2_init_29 (by decide) ?_
  refine x_newi hx hb (hts (.arrayClass .int) (by decide +kernel)) hK hP hD hS hA (N' := 20) (by decide) (by decide) (Nat.le_of_ble_eq_true rfl) (Nat.le_of_ble_eq_true rfl) (Nat.le_of_ble_eq_true rfl) dX2_init_31 (fun q3 H hP hD hS => ?_)
  refine W.widen (k := 4) (n := 80) (Nat.le_of_ble_eq_true rfl) (Nat.le_of_ble_eq_true rfl) ?_
  have hP : va_P D vwCl [(h0, .inr (2, [.ref q0, .ref q1, .ref q2, .null, .null, .null, .null, .int 0])), (q0, .inl (cA, 20, .inl (fun _ => 0))), (q1, .inl (cA, 20, .inl (fun _ => 0))), (q2, .inl (cA, 20, .inl (fun _ => 0))), (q3, .inl (cA, 20, .inl (fun _ => 0)))] H := hP
  have hD : va_D A [(h0, .inr (2, [.ref q0, .ref q1, .ref q2, .null, .null, .null, .null, .int 0])), (q0, .inl (cA, 20, .inl (fun _ => 0))), (q1, .inl (cA, 20, .inl (fun _ => 0))), (q2, .inl (cA, 20, .inl (fun _ => 0))), (q3, .inl (cA, 20, .inl (fun _ => 0)))] := hD
  have hk33_21 := hts (.fieldLink RX2 21 "OvenRound$Doughs" "points" "[I") (by decide +kernel)
  refine va_putF (D := D) (ci := 2) (v := .ref q3) (ty := .array .int) (own := RX2) (ref := RX2) (C := RX2) (T := TX2) (N := 8) hx hb hts (by decide +kernel) tyX2 tyX2_ok nmX2 hown hK hP hD hS 0 rfl rfl 3 (by decide) hk33_21 (fun _ h9 => h9) rfl hin rfl (by decide +kernel) rfl rfl (Nat.le_of_ble_eq_true rfl) dX2_init_33 (fun H locs hP hD hS => ?_)
  have hP : va_P D vwCl [(h0, .inr (2, [.ref q0, .ref q1, .ref q2, .ref q3, .null, .null, .null, .int 0])), (q0, .inl (cA, 20, .inl (fun _ => 0))), (q1, .inl (cA, 20, .inl (fun _ => 0))), (q2, .inl (cA, 20, .inl (fun _ => 0))), (q3, .inl (cA, 20, .inl (fun _ => 0)))] H := hP
  have hD : va_D A [(h0, .inr (2, [.ref q0, .ref q1, .ref q2, .ref q3, .null, .null, .null, .int 0])), (q0, .inl (cA, 20, .inl (fun _ => 0))), (q1, .inl (cA, 20, .inl (fun _ => 0))), (q2, .inl (cA, 20, .inl (fun _ => 0))), (q3, .inl (cA, 20, .inl (fun _ => 0)))] := hD
  refine lv_aload_n hx hb dX2_init_36 rfl (lv_at hl 0 rfl) ?_
  refine lv_bipush (v := 20) hx hb dX2_init_37 (by decide) ?_
  refine x_newi hx hb (hts (.arrayClass .int) (by decide +kernel)) hK hP hD hS hA (N' := 20) (by decide) (by decide) (Nat.le_of_ble_eq_true rfl) (Nat.le_of_ble_eq_true rfl) (Nat.le_of_ble_eq_true rfl) dX2_init_39 (fun q4 H hP hD hS => ?_)
  refine W.widen (k := 5) (n := 100) (Nat.le_of_ble_eq_true rfl) (Nat.le_of_ble_eq_true rfl) ?_
  have hP : va_P D vwCl [(h0, .inr (2, [.ref q0, .ref q1, .ref q2, .ref q3, .null, .null, .null, .int 0])), (q0, .inl (cA, 20, .inl (fun _ => 0))), (q1, .inl (cA, 20, .inl (fun _ => 0))), (q2, .inl (cA, 20, .inl (fun _ => 0))), (q3, .inl (cA, 20, .inl (fun _ => 0))), (q4, .inl (cA, 20, .inl (fun _ => 0)))] H := hP
  have hD : va_D A [(h0, .inr (2, [.ref q0, .ref q1, .ref q2, .ref q3, .null, .null, .null, .int 0])), (q0, .inl (cA, 20, .inl (fun _ => 0))), (q1, .inl (cA, 20, .inl (fun _ => 0))), (q2, .inl (cA, 20, .inl (fun _ => 0))), (q3, .inl (cA, 20, .inl (fun _ => 0))), (q4, .inl (cA, 20, .inl (fun _ => 0)))] := hD
  have hk41_24 := hts (.fieldLink RX2 24 "OvenRound$Doughs" "state" "[I") (by decide +kernel)
  refine va_putF (D := D) (ci := 2) (v := .ref q4) (ty := .array .int) (own := RX2) (ref := RX2) (C := RX2) (T := TX2) (N := 8) hx hb hts (by decide +kernel) tyX2 tyX2_ok nmX2 hown hK hP hD hS 0 rfl rfl 4 (by decide) hk41_24 (fun _ h9 => h9) rfl hin rfl (by decide +kernel) rfl rfl (Nat.le_of_ble_eq_true rfl) dX2_init_41 (fun H locs hP hD hS => ?_)
  have hP : va_P D vwCl [(h0, .inr (2, [.ref q0, .ref q1, .ref q2, .ref q3, .ref q4, .null, .null, .int 0])), (q0, .inl (cA, 20, .inl (fun _ => 0))), (q1, .inl (cA, 20, .inl (fun _ => 0))), (q2, .inl (cA, 20, .inl (fun _ => 0))), (q3, .inl (cA, 20, .inl (fun _ => 0))), (q4, .inl (cA, 20, .inl (fun _ => 0)))] H := hP
  have hD : va_D A [(h0, .inr (2, [.ref q0, .ref q1, .ref q2, .ref q3, .ref q4, .null, .null, .int 0])), (q0, .inl (cA, 20, .inl (fun _ => 0))), (q1, .inl (cA, 20, .inl (fun _ => 0))), (q2, .inl (cA, 20, .inl (fun _ => 0))), (q3, .inl (cA, 20, .inl (fun _ => 0))), (q4, .inl (cA, 20, .inl (fun _ => 0)))] := hD
  refine lv_aload_n hx hb dX2_init_44 rfl (lv_at hl 0 rfl) ?_
  refine lv_bipush (v := 20) hx hb dX2_init_45 (by decide) ?_
  refine x_newi hx hb (hts (.arrayClass .int) (by decide +kernel)) hK hP hD hS hA (N' := 20) (by decide) (by decide) (Nat.le_of_ble_eq_true rfl) (Nat.le_of_ble_eq_true rfl) (Nat.le_of_ble_eq_true rfl) dX2_init_47 (fun q5 H hP hD hS => ?_)
  refine W.widen (k := 6) (n := 120) (Nat.le_of_ble_eq_true rfl) (Nat.le_of_ble_eq_true rfl) ?_
  have hP : va_P D vwCl [(h0, .inr (2, [.ref q0, .ref q1, .ref q2, .ref q3, .ref q4, .null, .null, .int 0])), (q0, .inl (cA, 20, .inl (fun _ => 0))), (q1, .inl (cA, 20, .inl (fun _ => 0))), (q2, .inl (cA, 20, .inl (fun _ => 0))), (q3, .inl (cA, 20, .inl (fun _ => 0))), (q4, .inl (cA, 20, .inl (fun _ => 0))), (q5, .inl (cA, 20, .inl (fun _ => 0)))] H := hP
  have hD : va_D A [(h0, .inr (2, [.ref q0, .ref q1, .ref q2, .ref q3, .ref q4, .null, .null, .int 0])), (q0, .inl (cA, 20, .inl (fun _ => 0))), (q1, .inl (cA, 20, .inl (fun _ => 0))), (q2, .inl (cA, 20, .inl (fun _ => 0))), (q3, .inl (cA, 20, .inl (fun _ => 0))), (q4, .inl (cA, 20, .inl (fun _ => 0))), (q5, .inl (cA, 20, .inl (fun _ => 0)))] := hD
  have hk49_27 := hts (.fieldLink RX2 27 "OvenRound$Doughs" "shapedAt" "[I") (by decide +kernel)
  refine va_putF (D := D) (ci := 2) (v := .ref q5) (ty := .array .int) (own := RX2) (ref := RX2) (C := RX2) (T := TX2) (N := 8) hx hb hts (by decide +kernel) tyX2 tyX2_ok nmX2 hown hK hP hD hS 0 rfl rfl 5 (by decide) hk49_27 (fun _ h9 => h9) rfl hin rfl (by decide +kernel) rfl rfl (Nat.le_of_ble_eq_true rfl) dX2_init_49 (fun H locs hP hD hS => ?_)
  have hP : va_P D vwCl [(h0, .inr (2, [.ref q0, .ref q1, .ref q2, .ref q3, .ref q4, .ref q5, .null, .int 0])), (q0, .inl (cA, 20, .inl (fun _ => 0))), (q1, .inl (cA, 20, .inl (fun _ => 0))), (q2, .inl (cA, 20, .inl (fun _ => 0))), (q3, .inl (cA, 20, .inl (fun _ => 0))), (q4, .inl (cA, 20, .inl (fun _ => 0))), (q5, .inl (cA, 20, .inl (fun _ => 0)))] H := hP
  have hD : va_D A [(h0, .inr (2, [.ref q0, .ref q1, .ref q2, .ref q3, .ref q4, .ref q5, .null, .int 0])), (q0, .inl (cA, 20, .inl (fun _ => 0))), (q1, .inl (cA, 20, .inl (fun _ => 0))), (q2, .inl (cA, 20, .inl (fun _ => 0))), (q3, .inl (cA, 20, .inl (fun _ => 0))), (q4, .inl (cA, 20, .inl (fun _ => 0))), (q5, .inl (cA, 20, .inl (fun _ => 0)))] := hD
  refine lv_aload_n hx hb dX2_init_52 rfl (lv_at hl 0 rfl) ?_
  refine lv_bipush (v := 20) hx hb dX2_init_53 (by decide) ?_
  refine x_newi hx hb (hts (.arrayClass .int) (by decide +kernel)) hK hP hD hS hA (N' := 20) (by decide) (by decide) (Nat.le_of_ble_eq_true rfl) (Nat.le_of_ble_eq_true rfl) (Nat.le_of_ble_eq_true rfl) dX2_init_55 (fun q6 H hP hD hS => ?_)
  refine W.widen (k := 7) (n := 140) (Nat.le_of_ble_eq_true rfl) (Nat.le_of_ble_eq_true rfl) ?_
  have hP : va_P D vwCl [(h0, .inr (2, [.ref q0, .ref q1, .ref q2, .ref q3, .ref q4, .ref q5, .null, .int 0])), (q0, .inl (cA, 20, .inl (fun _ => 0))), (q1, .inl (cA, 20, .inl (fun _ => 0))), (q2, .inl (cA, 20, .inl (fun _ => 0))), (q3, .inl (cA, 20, .inl (fun _ => 0))), (q4, .inl (cA, 20, .inl (fun _ => 0))), (q5, .inl (cA, 20, .inl (fun _ => 0))), (q6, .inl (cA, 20, .inl (fun _ => 0)))] H := hP
  have hD : va_D A [(h0, .inr (2, [.ref q0, .ref q1, .ref q2, .ref q3, .ref q4, .ref q5, .null, .int 0])), (q0, .inl (cA, 20, .inl (fun _ => 0))), (q1, .inl (cA, 20, .inl (fun _ => 0))), (q2, .inl (cA, 20, .inl (fun _ => 0))), (q3, .inl (cA, 20, .inl (fun _ => 0))), (q4, .inl (cA, 20, .inl (fun _ => 0))), (q5, .inl (cA, 20, .inl (fun _ => 0))), (q6, .inl (cA, 20, .inl (fun _ => 0)))] := hD
  have hk57_30 := hts (.fieldLink RX2 30 "OvenRound$Doughs" "ovenAt" "[I") (by decide +kernel)
  refine va_putF (D := D) (ci := 2) (v := .ref q6) (ty := .array .int) (own := RX2) (ref := RX2) (C := RX2) (T := TX2) (N := 8) hx hb hts (by decide +kernel) tyX2 tyX2_ok nmX2 hown hK hP hD hS 0 rfl rfl 6 (by decide) hk57_30 (fun _ h9 => h9) rfl hin rfl (by decide +kernel) rfl rfl (Nat.le_of_ble_eq_true rfl) dX2_init_57 (fun H locs hP hD hS => ?_)
  have hP : va_P D vwCl [(h0, .inr (2, [.ref q0, .ref q1, .ref q2, .ref q3, .ref q4, .ref q5, .ref q6, .int 0])), (q0, .inl (cA, 20, .inl (fun _ => 0))), (q1, .inl (cA, 20, .inl (fun _ => 0))), (q2, .inl (cA, 20, .inl (fun _ => 0))), (q3, .inl (cA, 20, .inl (fun _ => 0))), (q4, .inl (cA, 20, .inl (fun _ => 0))), (q5, .inl (cA, 20, .inl (fun _ => 0))), (q6, .inl (cA, 20, .inl (fun _ => 0)))] H := hP
  have hD : va_D A [(h0, .inr (2, [.ref q0, .ref q1, .ref q2, .ref q3, .ref q4, .ref q5, .ref q6, .int 0])), (q0, .inl (cA, 20, .inl (fun _ => 0))), (q1, .inl (cA, 20, .inl (fun _ => 0))), (q2, .inl (cA, 20, .inl (fun _ => 0))), (q3, .inl (cA, 20, .inl (fun _ => 0))), (q4, .inl (cA, 20, .inl (fun _ => 0))), (q5, .inl (cA, 20, .inl (fun _ => 0))), (q6, .inl (cA, 20, .inl (fun _ => 0)))] := hD
  refine W.vret hx hb hr (fun t ht hW => ⟨⟨fun k => ([q0, q1, q2, q3, q4, q5, q6] : List Nat).getD k 0, rfl, trivial, by rw [ht]; exact hP, va_K.moved hW.alike hK, hD⟩, hS.F ht⟩) hS.2.2 dX2_init_60

def wX5_init (cA : ClassId) (h0 : Nat) (u : Nat → Nat) : va_W := [(h0, .inr (5, [.int 0, .int 2, .int 2, .int 20, .int 20]))]
abbrev rmX5_init : Room := { frames := 1, cells := 0, slots := 0, locals := 32 }
set_option maxRecDepth 100000 in
set_option maxHeartbeats 4000000 in
theorem mX5_init {l : Launch} {D : va_G} {cA : ClassId} (h0 sz : Nat) : Met l yX5_init wsX5_init rmX5_init (va_Pc [.ref h0] (fun U => U.heap.size = sz ∧ va_P D vwCl [(h0, .inr (5, [.int 0, .int 0, .int 0, .int 0, .int 0]))] U.heap ∧ va_K D vwCl [(cA, .int)] U ∧ va_D (fun _ => True) [(h0, .inr (5, [.int 0, .int 0, .int 0, .int 0, .int 0]))])) (va_Qv (S := Nat → Nat) (fun _ => True) (fun u t => va_P D vwCl (wX5_init cA h0 u) t.heap ∧ va_K D vwCl [(cA, .int)] t ∧ va_D (va_A [(h0, .inr (5, [.int 0, .int 0, .int 0, .int 0, .int 0]))] sz) (wX5_init cA h0 u)) (va_A [(h0, .inr (5, [.int 0, .int 0, .int 0, .int 0, .int 0]))] sz)) 0 0 (va_A [(h0, .inr (5, [.int 0, .int 0, .int 0, .int 0, .int 0]))] sz) := by
  refine Met.ofW (cc := cX5_init) (maxL := 1) (ret := none) (by decide) rfl ?_
  intro p e s m args below meth c s₁ B hml hv
  obtain ⟨rfl, hsz, hP, hK, hD0⟩ := hv
  have hx := B.exec
  have hb := B.bytes
  have hr := B.returns
  have hts := atoms_spec (ws := wsX5_init) B.pre
  have hown : s.vm.findClass RX5 = some m.cls := findClass_of_methodNamed B.named
  have hlocks := B.notSynchronized
  have hin : meth.name = "<init>" := (name_of_methodNamed B.named B.method).1
  subst hsz
  have hD := hD0.self (sz := s.heap.size)
  generalize hAe : va_A [(h0, .inr (5, [.int 0, .int 0, .int 0, .int 0, .int 0]))] s.heap.size = A at hD ⊢
  have hA : ∀ q : Nat, s.heap.size ≤ q → A q := fun q h => by rw [← hAe]; exact Or.inr h
  have hS : va_S A s.heap s.heap [] := va_S.rf
  have hl := lv_entry ([.ref h0]) (n := 1) (Nat.le_of_ble_eq_true rfl)
  rw [lg_entry_eq]
  generalize (lg_sl ([.ref h0]) ++ List.replicate (1 - (lg_sl ([.ref h0])).length) Slot.unset).toArray = ls at hl ⊢
  have hl : lv_has ls 1 [(0, .ref h0)] := hl
  have hP : va_P D vwCl [(h0, .inr (5, [.int 0, .int 0, .int 0, .int 0, .int 0]))] s.heap := hP
  refine lv_aload_n hx hb dX5_init_0 rfl (lv_at hl 0 rfl) ?_
  refine W.objInit hx hb hown (hts (.methodLink RX5 1 objectInit) (by decide +kernel)) (hts (.instanceMethod objectInit) (by decide +kernel)) (hts (.code objectInit ⟨#[0xb1]⟩ 1 none) (by decide +kernel)) rfl (by rw [hml]; exact hl.1) rfl dX5_init_1 (Nat.le_of_ble_eq_true rfl) (Nat.le_of_ble_eq_true rfl) ?_
  refine W.eq (g2 := F0 m 4 ls []) rfl ?_
  refine lv_aload_n hx hb dX5_init_4 rfl (lv_at hl 0 rfl) ?_
  refine lv_iconst (v := 2) hx hb dX5_init_5 (by decide) ?_
  have hk6_7 := hts (.fieldLink RX5 7 "OvenRound$Oven" "warmth" "I") (by decide +kernel)
  refine va_put (D := D) (ci := 5) (v := .int 2) (ty := .int) (own := RX5) (ref := RX5) (C := RX5) (T := TX5) (N := 5) hx hb hts (by decide +kernel) tyX5 tyX5_ok nmX5 hown hK hP hD hS 0 rfl rfl 1 (by decide) hk6_7 (fun _ h9 => h9) rfl (by decide +kernel) rfl rfl (Nat.le_of_ble_eq_true rfl) dX5_init_6 (fun H locs hP hD hS => ?_)
  have hP : va_P D vwCl [(h0, .inr (5, [.int 0, .int 2, .int 0, .int 0, .int 0]))] H := hP
  have hD : va_D A [(h0, .inr (5, [.int 0, .int 2, .int 0, .int 0, .int 0]))] := hD
  refine lv_aload_n hx hb dX5_init_9 rfl (lv_at hl 0 rfl) ?_
  refine lv_iconst (v := 2) hx hb dX5_init_10 (by decide) ?_
  have hk11_13 := hts (.fieldLink RX5 13 "OvenRound$Oven" "decks" "I") (by decide +kernel)
  refine va_put (D := D) (ci := 5) (v := .int 2) (ty := .int) (own := RX5) (ref := RX5) (C := RX5) (T := TX5) (N := 5) hx hb hts (by decide +kernel) tyX5 tyX5_ok nmX5 hown hK hP hD hS 0 rfl rfl 2 (by decide) hk11_13 (fun _ h9 => h9) rfl (by decide +kernel) rfl rfl (Nat.le_of_ble_eq_true rfl) dX5_init_11 (fun H locs hP hD hS => ?_)
  have hP : va_P D vwCl [(h0, .inr (5, [.int 0, .int 2, .int 2, .int 0, .int 0]))] H := hP
  have hD : va_D A [(h0, .inr (5, [.int 0, .int 2, .int 2, .int 0, .int 0]))] := hD
  refine lv_aload_n hx hb dX5_init_14 rfl (lv_at hl 0 rfl) ?_
  refine lv_bipush (v := 20) hx hb dX5_init_15 (by decide) ?_
  have hk17_16 := hts (.fieldLink RX5 16 "OvenRound$Oven" "heat" "I") (by decide +kernel)
  refine va_put (D := D) (ci := 5) (v := .int 20) (ty := .int) (own := RX5) (ref := RX5) (C := RX5) (T := TX5) (N := 5) hx hb hts (by decide +kernel) tyX5 tyX5_ok nmX5 hown hK hP hD hS 0 rfl rfl 3 (by decide) hk17_16 (fun _ h9 => h9) rfl (by decide +kernel) rfl rfl (Nat.le_of_ble_eq_true rfl) dX5_init_17 (fun H locs hP hD hS => ?_)
  have hP : va_P D vwCl [(h0, .inr (5, [.int 0, .int 2, .int 2, .int 20, .int 0]))] H := hP
  have hD : va_D A [(h0, .inr (5, [.int 0, .int 2, .int 2, .int 20, .int 0]))] := hD
  refine lv_aload_n hx hb dX5_init_20 rfl (lv_at hl 0 rfl) ?_
  refine lv_bipush (v := 20) hx hb dX5_init_21 (by decide) ?_
  have hk23_19 := hts (.fieldLink RX5 19 "OvenRound$Oven" "setHeat" "I") (by decide +kernel)
  refine va_put (D := D) (ci := 5) (v := .int 20) (ty := .int) (own := RX5) (ref := RX5) (C := RX5) (T := TX5) (N := 5) hx hb hts (by decide +kernel) tyX5 tyX5_ok nmX5 hown hK hP hD hS 0 rfl rfl 4 (by decide) hk23_19 (fun _ h9 => h9) rfl (by decide +kernel) rfl rfl (Nat.le_of_ble_eq_true rfl) dX5_init_23 (fun H locs hP hD hS => ?_)
  have hP : va_P D vwCl [(h0, .inr (5, [.int 0, .int 2, .int 2, .int 20, .int 20]))] H := hP
  have hD : va_D A [(h0, .inr (5, [.int 0, .int 2, .int 2, .int 20, .int 20]))] := hD
  refine W.vret hx hb hr (fun t ht hW => ⟨⟨fun k => ([] : List Nat).getD k 0, rfl, trivial, by rw [ht]; exact hP, va_K.moved hW.alike hK, hD⟩, hS.F ht⟩) hS.2.2 dX5_init_26

def wX7_init (cA : ClassId) (h0 r1 r2 r3 : Nat) (u : Nat → Nat) : va_W := [(h0, .inr (7, [.ref r1, .ref r2, .ref r3, .ref (u 0), .ref (u 1), .ref (u 2), .ref (u 3), .ref (u 4)])), (u 0, .inl (cA, 20, .inl (fun _ => 0))), (u 1, .inl (cA, 20, .inl (fun _ => 0))), (u 2, .inl (cA, 20, .inl (fun _ => 0))), (u 3, .inl (cA, 20, .inl (fun _ => 0))), (u 4, .inl (cA, 40, .inl (fun _ => 0)))]
abbrev rmX7_init : Room := { frames := 1, cells := 5, slots := 120, locals := 32 }
set_option maxRecDepth 100000 in
set_option maxHeartbeats 4000000 in
theorem mX7_init {l : Launch} {D : va_G} {cA : ClassId} (h0 r1 r2 r3 sz : Nat) : Met l yX7_init wsX7_init rmX7_init (va_Pc [.ref h0, .ref r1, .ref r2, .ref r3] (fun U => U.heap.size = sz ∧ va_P D vwCl [(h0, .inr (7, [.null, .null, .null, .null, .null, .null, .null, .null]))] U.heap ∧ va_K D vwCl [(cA, .int)] U ∧ va_D (fun _ => True) [(h0, .inr (7, [.null, .null, .null, .null, .null, .null, .null, .null]))])) (va_Qv (S := Nat → Nat) (fun _ => True) (fun u t => va_P D vwCl (wX7_init cA h0 r1 r2 r3 u) t.heap ∧ va_K D vwCl [(cA, .int)] t ∧ va_D (va_A [(h0, .inr (7, [.null, .null, .null, .null, .null, .null, .null, .null]))] sz) (wX7_init cA h0 r1 r2 r3 u)) (va_A [(h0, .inr (7, [.null, .null, .null, .null, .null, .null, .null, .null]))] sz)) 5 120 (va_A [(h0, .inr (7, [.null, .null, .null, .null, .null, .null, .null, .null]))] sz) := by
  refine Met.ofW (cc := cX7_init) (maxL := 4) (ret := none) (by decide) rfl ?_
  intro p e s m args below meth c s₁ B hml hv
  obtain ⟨rfl, hsz, hP, hK, hD0⟩ := hv
  have hx := B.exec
  have hb := B.bytes
  have hr := B.returns
  have hts := atoms_spec (ws := wsX7_init) B.pre
  have hown : s.vm.findClass RX7 = some m.cls := findClass_of_methodNamed B.named
  have hlocks := B.notSynchronized
  have hin : meth.name = "<init>" := (name_of_methodNamed B.named B.method).1
  subst hsz
  have hD := hD0.self (sz := s.heap.size)
  generalize hAe : va_A [(h0, .inr (7, [.null, .null, .null, .null, .null, .null, .null, .null]))] s.heap.size = A at hD ⊢
  have hA : ∀ q : Nat, s.heap.size ≤ q → A q := fun q h => by rw [← hAe]; exact Or.inr h
  have hS : va_S A s.heap s.heap [] := va_S.rf
  have hl := lv_entry ([.ref h0, .ref r1, .ref r2, .ref r3]) (n := 4) (Nat.le_of_ble_eq_true rfl)
  rw [lg_entry_eq]
  generalize (lg_sl ([.ref h0, .ref r1, .ref r2, .ref r3]) ++ List.replicate (4 - (lg_sl ([.ref h0, .ref r1, .ref r2, .ref r3])).length) Slot.unset).toArray = ls at hl ⊢
  have hl : lv_has ls 4 [(0, .ref h0), (1, .ref r1), (2, .ref r2), (3, .ref r3)] := hl
  have hP : va_P D vwCl [(h0, .inr (7, [.null, .null, .null, .null, .null, .null, .null, .null]))] s.heap := hP
  refine lv_aload_n hx hb dX7_init_0 rfl (lv_at hl 0 rfl) ?_
  refine W.objInit hx hb hown (hts (.methodLink RX7 3 objectInit) (by decide +kernel)) (hts (.instanceMethod objectInit) (by decide +kernel)) (hts (.code objectInit ⟨#[0xb1]⟩ 1 none) (by decide +kernel)) rfl (by rw [hml]; exact hl.1) rfl dX7_init_1 (Nat.le_of_ble_eq_true rfl) (Nat.le_of_ble_eq_true rfl) ?_
  refine W.eq (g2 := F0 m 4 ls []) rfl ?_
  refine lv_aload_n hx hb dX7_init_4 rfl (lv_at hl 0 rfl) ?_
  refine lv_bipush (v := 20) hx hb dX7_init_5 (by decide) ?_
  refine x_newi hx hb (hts (.arrayClass .int) (by decide +kernel)) hK hP hD hS hA (N' := 20) (by decide) (by decide) (Nat.le_of_ble_eq_true rfl) (Nat.le_of_ble_eq_true rfl) (Nat.le_of_ble_eq_true rfl) dX7_init_7 (fun q0 H hP hD hS => ?_)
  refine W.widen (k := 1) (n := 20) (Nat.le_of_ble_eq_true rfl) (Nat.le_of_ble_eq_true rfl) ?_
  have hP : va_P D vwCl [(h0, .inr (7, [.null, .null, .null, .null, .null, .null, .null, .null])), (q0, .inl (cA, 20, .inl (fun _ => 0)))] H := hP
  have hD : va_D A [(h0, .inr (7, [.null, .null, .null, .null, .null, .null, .null, .null])), (q0, .inl (cA, 20, .inl (fun _ => 0)))] := hD
  have hk9_9 := hts (.fieldLink RX7 9 "OvenRound$Plan" "first" "[I") (by decide +kernel)
  refine va_putF (D := D) (ci := 7) (v := .ref q0) (ty := .array .int) (own := RX7) (ref := RX7) (C := RX7) (T := TX7) (N := 8) hx hb hts (by decide +kernel) tyX7 tyX7_ok nmX7 hown hK hP hD hS 0 rfl rfl 3 (by decide) hk9_9 (fun _ h9 => h9) rfl hin rfl (by decide +kernel) rfl rfl (Nat.le_of_ble_eq_true rfl) dX7_init_9 (fun H locs hP hD hS => ?_)
  have hP : va_P D vwCl [(h0, .inr (7, [.null, .null, .null, .ref q0, .null, .null, .null, .null])), (q0, .inl (cA, 20, .inl (fun _ => 0)))] H := hP
  have hD : va_D A [(h0, .inr (7, [.null, .null, .null, .ref q0, .null, .null, .null, .null])), (q0, .inl (cA, 20, .inl (fun _ => 0)))] := hD
  refine lv_aload_n hx hb dX7_init_12 rfl (lv_at hl 0 rfl) ?_
  refine lv_bipush (v := 20) hx hb dX7_init_13 (by decide) ?_
  refine x_newi hx hb (hts (.arrayClass .int) (by decide +kernel)) hK hP hD hS hA (N' := 20) (by decide) (by decide) (Nat.le_of_ble_eq_true rfl) (Nat.le_of_ble_eq_true rfl) (Nat.le_of_ble_eq_true rfl) dX7_init_15 (fun q1 H hP hD hS => ?_)
  refine W.widen (k := 2) (n := 40) (Nat.le_of_ble_eq_true rfl) (Nat.le_of_ble_eq_true rfl) ?_
  have hP : va_P D vwCl [(h0, .inr (7, [.null, .null, .null, .ref q0, .null, .null, .null, .null])), (q0, .inl (cA, 20, .inl (fun _ => 0))), (q1, .inl (cA, 20, .inl (fun _ => 0)))] H := hP
  have hD : va_D A [(h0, .inr (7, [.null, .null, .null, .ref q0, .null, .null, .null, .null])), (q0, .inl (cA, 20, .inl (fun _ => 0))), (q1, .inl (cA, 20, .inl (fun _ => 0)))] := hD
  have hk17_15 := hts (.fieldLink RX7 15 "OvenRound$Plan" "last" "[I") (by decide +kernel)
  refine va_putF (D := D) (ci := 7) (v := .ref q1) (ty := .array .int) (own := RX7) (ref := RX7) (C := RX7) (T := TX7) (N := 8) hx hb hts (by decide +kernel) tyX7 tyX7_ok nmX7 hown hK hP hD hS 0 rfl rfl 4 (by decide) hk17_15 (fun _ h9 => h9) rfl hin rfl (by decide +kernel) rfl rfl (Nat.le_of_ble_eq_true rfl) dX7_init_17 (fun H locs hP hD hS => ?_)
  have hP : va_P D vwCl [(h0, .inr (7, [.null, .null, .null, .ref q0, .ref q1, .null, .null, .null])), (q0, .inl (cA, 20, .inl (fun _ => 0))), (q1, .inl (cA, 20, .inl (fun _ => 0)))] H := hP
  have hD : va_D A [(h0, .inr (7, [.null, .null, .null, .ref q0, .ref q1, .null, .null, .null])), (q0, .inl (cA, 20, .inl (fun _ => 0))), (q1, .inl (cA, 20, .inl (fun _ => 0)))] := hD
  refine lv_aload_n hx hb dX7_init_20 rfl (lv_at hl 0 rfl) ?_
  refine lv_bipush (v := 20) hx hb dX7_init_21 (by decide) ?_
  refine x_newi hx hb (hts (.arrayClass .int) (by decide +kernel)) hK hP hD hS hA (N' := 20) (by decide) (by decide) (Nat.le_of_ble_eq_true rfl) (Nat.le_of_ble_eq_true rfl) (Nat.le_of_ble_eq_true rfl) dX7_init_23 (fun q2 H hP hD hS => ?_)
  refine W.widen (k := 3) (n := 60) (Nat.le_of_ble_eq_true rfl) (Nat.le_of_ble_eq_true rfl) ?_
  have hP : va_P D vwCl [(h0, .inr (7, [.null, .null, .null, .ref q0, .ref q1, .null, .null, .null])), (q0, .inl (cA, 20, .inl (fun _ => 0))), (q1, .inl (cA, 20, .inl (fun _ => 0))), (q2, .inl (cA, 20, .inl (fun _ => 0)))] H := hP
  have hD : va_D A [(h0, .inr (7, [.null, .null, .null, .ref q0, .ref q1, .null, .null, .null])), (q0, .inl (cA, 20, .inl (fun _ => 0))), (q1, .inl (cA, 20, .inl (fun _ => 0))), (q2, .inl (cA, 20, .inl (fun _ => 0)))] := hD
  have hk25_18 := hts (.fieldLink RX7 18 "OvenRound$Plan" "round" "[I") (by decide +kernel)
  refine va_putF (D := D) (ci := 7) (v := .ref q2) (ty := .array .int) (own := RX7) (ref := RX7) (C := RX7) (T := TX7) (N := 8) hx hb hts (by decide +kernel) tyX7 tyX7_ok nmX7 hown hK hP hD hS 0 rfl rfl 5 (by decide) hk25_18 (fun _ h9 => h9) rfl hin rfl (by decide +kernel) rfl rfl (Nat.le_of_ble_eq_true rfl) dX7_init_25 (fun H locs hP hD hS => ?_)
  have hP : va_P D vwCl [(h0, .inr (7, [.null, .null, .null, .ref q0, .ref q1, .ref q2, .null, .null])), (q0, .inl (cA, 20, .inl (fun _ => 0))), (q1, .inl (cA, 20, .inl (fun _ => 0))), (q2, .inl (cA, 20, .inl (fun _ => 0)))] H := hP
  have hD : va_D A [(h0, .inr (7, [.null, .null, .null, .ref q0, .ref q1, .ref q2, .null, .null])), (q0, .inl (cA, 20, .inl (fun _ => 0))), (q1, .inl (cA, 20, .inl (fun _ => 0))), (q2, .inl (cA, 20, .inl (fun _ => 0)))] := hD
  refine lv_aload_n hx hb dX7_init_28 rfl (lv_at hl 0 rfl) ?_
  refine lv_bipush (v := 20) hx hb dX7_init_29 (by decide) ?_
  refine x_newi hx hb (hts (.arrayClass .int) (by decide +kernel)) hK hP hD hS hA (N' := 20) (by decide) (by decide) (Nat.le_of_ble_eq_true rfl) (Nat.le_of_ble_eq_true rfl) (Nat.le_of_ble_eq_true rfl) dX7_init_31 (fun q3 H hP hD hS => ?_)
  refine W.widen (k := 4) (n := 80) (Nat.le_of_ble_eq_true rfl) (Nat.le_of_ble_eq_true rfl) ?_
  have hP : va_P D vwCl [(h0, .inr (7, [.null, .null, .null, .ref q0, .ref q1, .ref q2, .null, .null])), (q0, .inl (cA, 20, .inl (fun _ => 0))), (q1, .inl (cA, 20, .inl (fun _ => 0))), (q2, .inl (cA, 20, .inl (fun _ => 0))), (q3, .inl (cA, 20, .inl (fun _ => 0)))] H := hP
  have hD : va_D A [(h0, .inr (7, [.null, .null, .null, .ref q0, .ref q1, .ref q2, .null, .null])), (q0, .inl (cA, 20, .inl (fun _ => 0))), (q1, .inl (cA, 20, .inl (fun _ => 0))), (q2, .inl (cA, 20, .inl (fun _ => 0))), (q3, .inl (cA, 20, .inl (fun _ => 0)))] := hD
  have hk33_21 := hts (.fieldLink RX7 21 "OvenRound$Plan" "order" "[I") (by decide +kernel)
  refine va_putF (D := D) (ci := 7) (v := .ref q3) (ty := .array .int) (own := RX7) (ref := RX7) (C := RX7) (T := TX7) (N := 8) hx hb hts (by decide +kernel) tyX7 tyX7_ok nmX7 hown hK hP hD hS 0 rfl rfl 6 (by decide) hk33_21 (fun _ h9 => h9) rfl hin rfl (by decide +kernel) rfl rfl (Nat.le_of_ble_eq_true rfl) dX7_init_33 (fun H locs hP hD hS => ?_)
  have hP : va_P D vwCl [(h0, .inr (7, [.null, .null, .null, .ref q0, .ref q1, .ref q2, .ref q3, .null])), (q0, .inl (cA, 20, .inl (fun _ => 0))), (q1, .inl (cA, 20, .inl (fun _ => 0))), (q2, .inl (cA, 20, .inl (fun _ => 0))), (q3, .inl (cA, 20, .inl (fun _ => 0)))] H := hP
  have hD : va_D A [(h0, .inr (7, [.null, .null, .null, .ref q0, .ref q1, .ref q2, .ref q3, .null])), (q0, .inl (cA, 20, .inl (fun _ => 0))), (q1, .inl (cA, 20, .inl (fun _ => 0))), (q2, .inl (cA, 20, .inl (fun _ => 0))), (q3, .inl (cA, 20, .inl (fun _ => 0)))] := hD
  refine lv_aload_n hx hb dX7_init_36 rfl (lv_at hl 0 rfl) ?_
  refine lv_bipush (v := 40) hx hb dX7_init_37 (by decide) ?_
  refine x_newi hx hb (hts (.arrayClass .int) (by decide +kernel)) hK hP hD hS hA (N' := 40) (by decide) (by decide) (Nat.le_of_ble_eq_true rfl) (Nat.le_of_ble_eq_true rfl) (Nat.le_of_ble_eq_true rfl) dX7_init_39 (fun q4 H hP hD hS => ?_)
  refine W.widen (k := 5) (n := 120) (Nat.le_of_ble_eq_true rfl) (Nat.le_of_ble_eq_true rfl) ?_
  have hP : va_P D vwCl [(h0, .inr (7, [.null, .null, .null, .ref q0, .ref q1, .ref q2, .ref q3, .null])), (q0, .inl (cA, 20, .inl (fun _ => 0))), (q1, .inl (cA, 20, .inl (fun _ => 0))), (q2, .inl (cA, 20, .inl (fun _ => 0))), (q3, .inl (cA, 20, .inl (fun _ => 0))), (q4, .inl (cA, 40, .inl (fun _ => 0)))] H := hP
  have hD : va_D A [(h0, .inr (7, [.null, .null, .null, .ref q0, .ref q1, .ref q2, .ref q3, .null])), (q0, .inl (cA, 20, .inl (fun _ => 0))), (q1, .inl (cA, 20, .inl (fun _ => 0))), (q2, .inl (cA, 20, .inl (fun _ => 0))), (q3, .inl (cA, 20, .inl (fun _ => 0))), (q4, .inl (cA, 40, .inl (fun _ => 0)))] := hD
  have hk41_24 := hts (.fieldLink RX7 24 "OvenRound$Plan" "taken" "[I") (by decide +kernel)
  refine va_putF (D := D) (ci := 7) (v := .ref q4) (ty := .array .int) (own := RX7) (ref := RX7) (C := RX7) (T := TX7) (N := 8) hx hb hts (by decide +kernel) tyX7 tyX7_ok nmX7 hown hK hP hD hS 0 rfl rfl 7 (by decide) hk41_24 (fun _ h9 => h9) rfl hin rfl (by decide +kernel) rfl rfl (Nat.le_of_ble_eq_true rfl) dX7_init_41 (fun H locs hP hD hS => ?_)
  have hP : va_P D vwCl [(h0, .inr (7, [.null, .null, .null, .ref q0, .ref q1, .ref q2, .ref q3, .ref q4])), (q0, .inl (cA, 20, .inl (fun _ => 0))), (q1, .inl (cA, 20, .inl (fun _ => 0))), (q2, .inl (cA, 20, .inl (fun _ => 0))), (q3, .inl (cA, 20, .inl (fun _ => 0))), (q4, .inl (cA, 40, .inl (fun _ => 0)))] H := hP
  have hD : va_D A [(h0, .inr (7, [.null, .null, .null, .ref q0, .ref q1, .ref q2, .ref q3, .ref q4])), (q0, .inl (cA, 20, .inl (fun _ => 0))), (q1, .inl (cA, 20, .inl (fun _ => 0))), (q2, .inl (cA, 20, .inl (fun _ => 0))), (q3, .inl (cA, 20, .inl (fun _ => 0))), (q4, .inl (cA, 40, .inl (fun _ => 0)))] := hD
  refine lv_aload_n hx hb dX7_init_44 rfl (lv_at hl 0 rfl) ?_
  refine lv_aload_n hx hb dX7_init_45 rfl (lv_at hl 1 rfl) ?_
  have hk46_27 := hts (.fieldLink RX7 27 "OvenRound$Plan" "recipes" "LOvenRound$Recipes;") (by decide +kernel)
  refine va_putF (D := D) (ci := 7) (v := .ref r1) (ty := .object "OvenRound$Recipes") (own := RX7) (ref := RX7) (C := RX7) (T := TX7) (N := 8) hx hb hts (by decide +kernel) tyX7 tyX7_ok nmX7 hown hK hP hD hS 0 rfl rfl 0 (by decide) hk46_27 (fun _ h9 => h9) rfl hin rfl (by decide +kernel) rfl rfl (Nat.le_of_ble_eq_true rfl) dX7_init_46 (fun H locs hP hD hS => ?_)
  have hP : va_P D vwCl [(h0, .inr (7, [.ref r1, .null, .null, .ref q0, .ref q1, .ref q2, .ref q3, .ref q4])), (q0, .inl (cA, 20, .inl (fun _ => 0))), (q1, .inl (cA, 20, .inl (fun _ => 0))), (q2, .inl (cA, 20, .inl (fun _ => 0))), (q3, .inl (cA, 20, .inl (fun _ => 0))), (q4, .inl (cA, 40, .inl (fun _ => 0)))] H := hP
  have hD : va_D A [(h0, .inr (7, [.ref r1, .null, .null, .ref q0, .ref q1, .ref q2, .ref q3, .ref q4])), (q0, .inl (cA, 20, .inl (fun _ => 0))), (q1, .inl (cA, 20, .inl (fun _ => 0))), (q2, .inl (cA, 20, .inl (fun _ => 0))), (q3, .inl (cA, 20, .inl (fun _ => 0))), (q4, .inl (cA, 40, .inl (fun _ => 0)))] := hD
  refine lv_aload_n hx hb dX7_init_49 rfl (lv_at hl 0 rfl) ?_
  refine lv_aload_n hx hb dX7_init_50 rfl (lv_at hl 2 rfl) ?_
  have hk51_31 := hts (.fieldLink RX7 31 "OvenRound$Plan" "doughs" "LOvenRound$Doughs;") (by decide +kernel)
  refine va_putF (D := D) (ci := 7) (v := .ref r2) (ty := .object "OvenRound$Doughs") (own := RX7) (ref := RX7) (C := RX7) (T := TX7) (N := 8) hx hb hts (by decide +kernel) tyX7 tyX7_ok nmX7 hown hK hP hD hS 0 rfl rfl 1 (by decide) hk51_31 (fun _ h9 => h9) rfl hin rfl (by decide +kernel) rfl rfl (Nat.le_of_ble_eq_true rfl) dX7_init_51 (fun H locs hP hD hS => ?_)
  have hP : va_P D vwCl [(h0, .inr (7, [.ref r1, .ref r2, .null, .ref q0, .ref q1, .ref q2, .ref q3, .ref q4])), (q0, .inl (cA, 20, .inl (fun _ => 0))), (q1, .inl (cA, 20, .inl (fun _ => 0))), (q2, .inl (cA, 20, .inl (fun _ => 0))), (q3, .inl (cA, 20, .inl (fun _ => 0))), (q4, .inl (cA, 40, .inl (fun _ => 0)))] H := hP
  have hD : va_D A [(h0, .inr (7, [.ref r1, .ref r2, .null, .ref q0, .ref q1, .ref q2, .ref q3, .ref q4])), (q0, .inl (cA, 20, .inl (fun _ => 0))), (q1, .inl (cA, 20, .inl (fun _ => 0))), (q2, .inl (cA, 20, .inl (fun _ => 0))), (q3, .inl (cA, 20, .inl (fun _ => 0))), (q4, .inl (cA, 40, .inl (fun _ => 0)))] := hD
  refine lv_aload_n hx hb dX7_init_54 rfl (lv_at hl 0 rfl) ?_
  refine lv_aload_n hx hb dX7_init_55 rfl (lv_at hl 3 rfl) ?_
  have hk56_35 := hts (.fieldLink RX7 35 "OvenRound$Plan" "oven" "LOvenRound$Oven;") (by decide +kernel)
  refine va_putF (D := D) (ci := 7) (v := .ref r3) (ty := .object "OvenRound$Oven") (own := RX7) (ref := RX7) (C := RX7) (T := TX7) (N := 8) hx hb hts (by decide +kernel) tyX7 tyX7_ok nmX7 hown hK hP hD hS 0 rfl rfl 2 (by decide) hk56_35 (fun _ h9 => h9) rfl hin rfl (by decide +kernel) rfl rfl (Nat.le_of_ble_eq_true rfl) dX7_init_56 (fun H locs hP hD hS => ?_)
  have hP : va_P D vwCl [(h0, .inr (7, [.ref r1, .ref r2, .ref r3, .ref q0, .ref q1, .ref q2, .ref q3, .ref q4])), (q0, .inl (cA, 20, .inl (fun _ => 0))), (q1, .inl (cA, 20, .inl (fun _ => 0))), (q2, .inl (cA, 20, .inl (fun _ => 0))), (q3, .inl (cA, 20, .inl (fun _ => 0))), (q4, .inl (cA, 40, .inl (fun _ => 0)))] H := hP
  have hD : va_D A [(h0, .inr (7, [.ref r1, .ref r2, .ref r3, .ref q0, .ref q1, .ref q2, .ref q3, .ref q4])), (q0, .inl (cA, 20, .inl (fun _ => 0))), (q1, .inl (cA, 20, .inl (fun _ => 0))), (q2, .inl (cA, 20, .inl (fun _ => 0))), (q3, .inl (cA, 20, .inl (fun _ => 0))), (q4, .inl (cA, 40, .inl (fun _ => 0)))] := hD
  refine W.vret hx hb hr (fun t ht hW => ⟨⟨fun k => ([q0, q1, q2, q3, q4] : List Nat).getD k 0, rfl, trivial, by rw [ht]; exact hP, va_K.moved hW.alike hK, hD⟩, hS.F ht⟩) hS.2.2 dX7_init_59

def wX0_init (cA : ClassId) (h0 : Nat) (u : Nat → Nat) : va_W := [(h0, .inr (0, [.ref (u 0)])), (u 0, .inl (cA, 24, .inl (fun _ => 0)))]
abbrev rmX0_init : Room := { frames := 1, cells := 1, slots := 24, locals := 32 }
set_option maxRecDepth 100000 in
set_option maxHeartbeats 4000000 in
theorem mX0_init {l : Launch} {D : va_G} {cA : ClassId} (h0 sz : Nat) : Met l yX0_init wsX0_init rmX0_init (va_Pc [.ref h0] (fun U => U.heap.size = sz ∧ va_P D vwCl [(h0, .inr (0, [.null]))] U.heap ∧ va_K D vwCl [(cA, .int)] U ∧ va_D (fun _ => True) [(h0, .inr (0, [.null]))])) (va_Qv (S := Nat → Nat) (fun _ => True) (fun u t => va_P D vwCl (wX0_init cA h0 u) t.heap ∧ va_K D vwCl [(cA, .int)] t ∧ va_D (va_A [(h0, .inr (0, [.null]))] sz) (wX0_init cA h0 u)) (va_A [(h0, .inr (0, [.null]))] sz)) 1 24 (va_A [(h0, .inr (0, [.null]))] sz) := by
  refine Met.ofW (cc := cX0_init) (maxL := 1) (ret := none) (by decide) rfl ?_
  intro p e s m args below meth c s₁ B hml hv
  obtain ⟨rfl, hsz, hP, hK, hD0⟩ := hv
  have hx := B.exec
  have hb := B.bytes
  have hr := B.returns
  have hts := atoms_spec (ws := wsX0_init) B.pre
  have hown : s.vm.findClass RX0 = some m.cls := findClass_of_methodNamed B.named
  have hlocks := B.notSynchronized
  have hin : meth.name = "<init>" := (name_of_methodNamed B.named B.method).1
  subst hsz
  have hD := hD0.self (sz := s.heap.size)
  generalize hAe : va_A [(h0, .inr (0, [.null]))] s.heap.size = A at hD ⊢
  have hA : ∀ q : Nat, s.heap.size ≤ q → A q := fun q h => by rw [← hAe]; exact Or.inr h
  have hS : va_S A s.heap s.heap [] := va_S.rf
  have hl := lv_entry ([.ref h0]) (n := 1) (Nat.le_of_ble_eq_true rfl)
  rw [lg_entry_eq]
  generalize (lg_sl ([.ref h0]) ++ List.replicate (1 - (lg_sl ([.ref h0])).length) Slot.unset).toArray = ls at hl ⊢
  have hl : lv_has ls 1 [(0, .ref h0)] := hl
  have hP : va_P D vwCl [(h0, .inr (0, [.null]))] s.heap := hP
  refine lv_aload_n hx hb dX0_init_0 rfl (lv_at hl 0 rfl) ?_
  refine W.objInit hx hb hown (hts (.methodLink RX0 3 objectInit) (by decide +kernel)) (hts (.instanceMethod objectInit) (by decide +kernel)) (hts (.code objectInit ⟨#[0xb1]⟩ 1 none) (by decide +kernel)) rfl (by rw [hml]; exact hl.1) rfl dX0_init_1 (Nat.le_of_ble_eq_true rfl) (Nat.le_of_ble_eq_true rfl) ?_
  refine W.eq (g2 := F0 m 4 ls []) rfl ?_
  refine lv_aload_n hx hb dX0_init_4 rfl (lv_at hl 0 rfl) ?_
  refine lv_bipush (v := 24) hx hb dX0_init_5 (by decide) ?_
  refine x_newi hx hb (hts (.arrayClass .int) (by decide +kernel)) hK hP hD hS hA (N' := 24) (by decide) (by decide) (Nat.le_of_ble_eq_true rfl) (Nat.le_of_ble_eq_true rfl) (Nat.le_of_ble_eq_true rfl) dX0_init_7 (fun q0 H hP hD hS => ?_)
  refine W.widen (k := 1) (n := 24) (Nat.le_of_ble_eq_true rfl) (Nat.le_of_ble_eq_true rfl) ?_
  have hP : va_P D vwCl [(h0, .inr (0, [.null])), (q0, .inl (cA, 24, .inl (fun _ => 0)))] H := hP
  have hD : va_D A [(h0, .inr (0, [.null])), (q0, .inl (cA, 24, .inl (fun _ => 0)))] := hD
  have hk9_11 := hts (.fieldLink RX0 11 "OvenRound$Breads" "pieces" "[I") (by decide +kernel)
  refine va_putF (D := D) (ci := 0) (v := .ref q0) (ty := .array .int) (own := RX0) (ref := RX0) (C := RX0) (T := TX0) (N := 1) hx hb hts (by decide +kernel) tyX0 tyX0_ok nmX0 hown hK hP hD hS 0 rfl rfl 0 (by decide) hk9_11 (fun _ h9 => h9) rfl hin rfl (by decide +kernel) rfl rfl (Nat.le_of_ble_eq_true rfl) dX0_init_9 (fun H locs hP hD hS => ?_)
  have hP : va_P D vwCl [(h0, .inr (0, [.ref q0])), (q0, .inl (cA, 24, .inl (fun _ => 0)))] H := hP
  have hD : va_D A [(h0, .inr (0, [.ref q0])), (q0, .inl (cA, 24, .inl (fun _ => 0)))] := hD
  refine W.vret hx hb hr (fun t ht hW => ⟨⟨fun k => ([q0] : List Nat).getD k 0, rfl, trivial, by rw [ht]; exact hP, va_K.moved hW.alike hK, hD⟩, hS.F ht⟩) hS.2.2 dX0_init_12

def wX3_init (cA : ClassId) (h0 : Nat) (u : Nat → Nat) : va_W := [(h0, .inr (3, [.ref (u 0), .ref (u 1), .ref (u 2), .ref (u 3), .int 0, .ref (u 4), .int 0])), (u 0, .inl (cA, 4, .inl (upd (upd (upd (upd (fun _ => 0) 0 100) 1 100) 2 100) 3 100))), (u 1, .inl (cA, 4, .inl (upd (upd (upd (upd (fun _ => 0) 0 50) 1 50) 2 50) 3 50))), (u 2, .inl (cA, 4, .inl (upd (upd (upd (upd (fun _ => 0) 0 100) 1 100) 2 100) 3 100))), (u 3, .inl (cA, 4, .inl (fun _ => 0))), (u 4, .inl (cA, 4, .inl (fun _ => 0)))]
abbrev rmX3_init : Room := { frames := 1, cells := 5, slots := 20, locals := 32 }
set_option maxRecDepth 100000 in
set_option maxHeartbeats 4000000 in
theorem mX3_init {l : Launch} {D : va_G} {cA : ClassId} (h0 sz : Nat) : Met l yX3_init wsX3_init rmX3_init (va_Pc [.ref h0] (fun U => U.heap.size = sz ∧ va_P D vwCl [(h0, .inr (3, [.null, .null, .null, .null, .int 0, .null, .int 0]))] U.heap ∧ va_K D vwCl [(cA, .int)] U ∧ va_D (fun _ => True) [(h0, .inr (3, [.null, .null, .null, .null, .int 0, .null, .int 0]))])) (va_Qv (S := Nat → Nat) (fun _ => True) (fun u t => va_P D vwCl (wX3_init cA h0 u) t.heap ∧ va_K D vwCl [(cA, .int)] t ∧ va_D (va_A [(h0, .inr (3, [.null, .null, .null, .null, .int 0, .null, .int 0]))] sz) (wX3_init cA h0 u)) (va_A [(h0, .inr (3, [.null, .null, .null, .null, .int 0, .null, .int 0]))] sz)) 5 20 (va_A [(h0, .inr (3, [.null, .null, .null, .null, .int 0, .null, .int 0]))] sz) := by
  refine Met.ofW (cc := cX3_init) (maxL := 2) (ret := none) (by decide) rfl ?_
  intro p e s m args below meth c s₁ B hml hv
  obtain ⟨rfl, hsz, hP, hK, hD0⟩ := hv
  have hx := B.exec
  have hb := B.bytes
  have hr := B.returns
  have hts := atoms_spec (ws := wsX3_init) B.pre
  have hown : s.vm.findClass RX3 = some m.cls := findClass_of_methodNamed B.named
  have hlocks := B.notSynchronized
  have hin : meth.name = "<init>" := (name_of_methodNamed B.named B.method).1
  subst hsz
  have hD := hD0.self (sz := s.heap.size)
  generalize hAe : va_A [(h0, .inr (3, [.null, .null, .null, .null, .int 0, .null, .int 0]))] s.heap.size = A at hD ⊢
  have hA : ∀ q : Nat, s.heap.size ≤ q → A q := fun q h => by rw [← hAe]; exact Or.inr h
  have hS : va_S A s.heap s.heap [] := va_S.rf
  have hl := lv_entry ([.ref h0]) (n := 2) (Nat.le_of_ble_eq_true rfl)
  rw [lg_entry_eq]
  generalize (lg_sl ([.ref h0]) ++ List.replicate (2 - (lg_sl ([.ref h0])).length) Slot.unset).toArray = ls at hl ⊢
  have hl : lv_has ls 2 [(0, .ref h0)] := hl
  have hP : va_P D vwCl [(h0, .inr (3, [.null, .null, .null, .null, .int 0, .null, .int 0]))] s.heap := hP
  refine lv_aload_n hx hb dX3_init_0 rfl (lv_at hl 0 rfl) ?_
  refine W.objInit hx hb hown (hts (.methodLink RX3 3 objectInit) (by decide +kernel)) (hts (.instanceMethod objectInit) (by decide +kernel)) (hts (.code objectInit ⟨#[0xb1]⟩ 1 none) (by decide +kernel)) rfl (by rw [hml]; exact hl.1) rfl dX3_init_1 (Nat.le_of_ble_eq_true rfl) (Nat.le_of_ble_eq_true rfl) ?_
  refine W.eq (g2 := F0 m 4 ls []) rfl ?_
  refine lv_aload_n hx hb dX3_init_4 rfl (lv_at hl 0 rfl) ?_
  refine lv_iconst (v := 4) hx hb dX3_init_5 (by decide) ?_
  refine x_newi hx hb (hts (.arrayClass .int) (by decide +kernel)) hK hP hD hS hA (N' := 4) (by decide) (by decide) (Nat.le_of_ble_eq_true rfl) (Nat.le_of_ble_eq_true rfl) (Nat.le_of_ble_eq_true rfl) dX3_init_6 (fun q0 H hP hD hS => ?_)
  refine W.widen (k := 1) (n := 4) (Nat.le_of_ble_eq_true rfl) (Nat.le_of_ble_eq_true rfl) ?_
  have hP : va_P D vwCl [(h0, .inr (3, [.null, .null, .null, .null, .int 0, .null, .int 0])), (q0, .inl (cA, 4, .inl (fun _ => 0)))] H := hP
  have hD : va_D A [(h0, .inr (3, [.null, .null, .null, .null, .int 0, .null, .int 0])), (q0, .inl (cA, 4, .inl (fun _ => 0)))] := hD
  have hk8_9 := hts (.fieldLink RX3 9 "OvenRound$Flours" "strength" "[I") (by decide +kernel)
  refine va_putF (D := D) (ci := 3) (v := .ref q0) (ty := .array .int) (own := RX3) (ref := RX3) (C := RX3) (T := TX3) (N := 7) hx hb hts (by decide +kernel) tyX3 tyX3_ok nmX3 hown hK hP hD hS 0 rfl rfl 0 (by decide) hk8_9 (fun _ h9 => h9) rfl hin rfl (by decide +kernel) rfl rfl (Nat.le_of_ble_eq_true rfl) dX3_init_8 (fun H locs hP hD hS => ?_)
  have hP : va_P D vwCl [(h0, .inr (3, [.ref q0, .null, .null, .null, .int 0, .null, .int 0])), (q0, .inl (cA, 4, .inl (fun _ => 0)))] H := hP
  have hD : va_D A [(h0, .inr (3, [.ref q0, .null, .null, .null, .int 0, .null, .int 0])), (q0, .inl (cA, 4, .inl (fun _ => 0)))] := hD
  refine lv_aload_n hx hb dX3_init_11 rfl (lv_at hl 0 rfl) ?_
  refine lv_iconst (v := 4) hx hb dX3_init_12 (by decide) ?_
  refine x_newi hx hb (hts (.arrayClass .int) (by decide +kernel)) hK hP hD hS hA (N' := 4) (by decide) (by decide) (Nat.le_of_ble_eq_true rfl) (Nat.le_of_ble_eq_true rfl) (Nat.le_of_ble_eq_true rfl) dX3_init_13 (fun q1 H hP hD hS => ?_)
  refine W.widen (k := 2) (n := 8) (Nat.le_of_ble_eq_true rfl) (Nat.le_of_ble_eq_true rfl) ?_
  have hP : va_P D vwCl [(h0, .inr (3, [.ref q0, .null, .null, .null, .int 0, .null, .int 0])), (q0, .inl (cA, 4, .inl (fun _ => 0))), (q1, .inl (cA, 4, .inl (fun _ => 0)))] H := hP
  have hD : va_D A [(h0, .inr (3, [.ref q0, .null, .null, .null, .int 0, .null, .int 0])), (q0, .inl (cA, 4, .inl (fun _ => 0))), (q1, .inl (cA, 4, .inl (fun _ => 0)))] := hD
  have hk15_15 := hts (.fieldLink RX3 15 "OvenRound$Flours" "cost" "[I") (by decide +kernel)
  refine va_putF (D := D) (ci := 3) (v := .ref q1) (ty := .array .int) (own := RX3) (ref := RX3) (C := RX3) (T := TX3) (N := 7) hx hb hts (by decide +kernel) tyX3 tyX3_ok nmX3 hown hK hP hD hS 0 rfl rfl 1 (by decide) hk15_15 (fun _ h9 => h9) rfl hin rfl (by decide +kernel) rfl rfl (Nat.le_of_ble_eq_true rfl) dX3_init_15 (fun H locs hP hD hS => ?_)
  have hP : va_P D vwCl [(h0, .inr (3, [.ref q0, .ref q1, .null, .null, .int 0, .null, .int 0])), (q0, .inl (cA, 4, .inl (fun _ => 0))), (q1, .inl (cA, 4, .inl (fun _ => 0)))] H := hP
  have hD : va_D A [(h0, .inr (3, [.ref q0, .ref q1, .null, .null, .int 0, .null, .int 0])), (q0, .inl (cA, 4, .inl (fun _ => 0))), (q1, .inl (cA, 4, .inl (fun _ => 0)))] := hD
  refine lv_aload_n hx hb dX3_init_18 rfl (lv_at hl 0 rfl) ?_
  refine lv_iconst (v := 4) hx hb dX3_init_19 (by decide) ?_
  refine x_newi hx hb (hts (.arrayClass .int) (by decide +kernel)) hK hP hD hS hA (N' := 4) (by decide) (by decide) (Nat.le_of_ble_eq_true rfl) (Nat.le_of_ble_eq_true rfl) (Nat.le_of_ble_eq_true rfl) dX3_init_20 (fun q2 H hP hD hS => ?_)
  refine W.widen (k := 3) (n := 12) (Nat.le_of_ble_eq_true rfl) (Nat.le_of_ble_eq_true rfl) ?_
  have hP : va_P D vwCl [(h0, .inr (3, [.ref q0, .ref q1, .null, .null, .int 0, .null, .int 0])), (q0, .inl (cA, 4, .inl (fun _ => 0))), (q1, .inl (cA, 4, .inl (fun _ => 0))), (q2, .inl (cA, 4, .inl (fun _ => 0)))] H := hP
  have hD : va_D A [(h0, .inr (3, [.ref q0, .ref q1, .null, .null, .int 0, .null, .int 0])), (q0, .inl (cA, 4, .inl (fun _ => 0))), (q1, .inl (cA, 4, .inl (fun _ => 0))), (q2, .inl (cA, 4, .inl (fun _ => 0)))] := hD
  have hk22_18 := hts (.fieldLink RX3 18 "OvenRound$Flours" "cap" "[I") (by decide +kernel)
  refine va_putF (D := D) (ci := 3) (v := .ref q2) (ty := .array .int) (own := RX3) (ref := RX3) (C := RX3) (T := TX3) (N := 7) hx hb hts (by decide +kernel) tyX3 tyX3_ok nmX3 hown hK hP hD hS 0 rfl rfl 2 (by decide) hk22_18 (fun _ h9 => h9) rfl hin rfl (by decide +kernel) rfl rfl (Nat.le_of_ble_eq_true rfl) dX3_init_22 (fun H locs hP hD hS => ?_)
  have hP : va_P D vwCl [(h0, .inr (3, [.ref q0, .ref q1, .ref q2, .null, .int 0, .null, .int 0])), (q0, .inl (cA, 4, .inl (fun _ => 0))), (q1, .inl (cA, 4, .inl (fun _ => 0))), (q2, .inl (cA, 4, .inl (fun _ => 0)))] H := hP
  have hD : va_D A [(h0, .inr (3, [.ref q0, .ref q1, .ref q2, .null, .int 0, .null, .int 0])), (q0, .inl (cA, 4, .inl (fun _ => 0))), (q1, .inl (cA, 4, .inl (fun _ => 0))), (q2, .inl (cA, 4, .inl (fun _ => 0)))] := hD
  refine lv_aload_n hx hb dX3_init_25 rfl (lv_at hl 0 rfl) ?_
  refine lv_iconst (v := 4) hx hb dX3_init_26 (by decide) ?_
  refine x_newi hx hb (hts (.arrayClass .int) (by decide +kernel)) hK hP hD hS hA (N' := 4) (by decide) (by decide) (Nat.le_of_ble_eq_true rfl) (Nat.le_of_ble_eq_true rfl) (Nat.le_of_ble_eq_true rfl) dX3_init_27 (fun q3 H hP hD hS => ?_)
  refine W.widen (k := 4) (n := 16) (Nat.le_of_ble_eq_true rfl) (Nat.le_of_ble_eq_true rfl) ?_
  have hP : va_P D vwCl [(h0, .inr (3, [.ref q0, .ref q1, .ref q2, .null, .int 0, .null, .int 0])), (q0, .inl (cA, 4, .inl (fun _ => 0))), (q1, .inl (cA, 4, .inl (fun _ => 0))), (q2, .inl (cA, 4, .inl (fun _ => 0))), (q3, .inl (cA, 4, .inl (fun _ => 0)))] H := hP
  have hD : va_D A [(h0, .inr (3, [.ref q0, .ref q1, .ref q2, .null, .int 0, .null, .int 0])), (q0, .inl (cA, 4, .inl (fun _ => 0))), (q1, .inl (cA, 4, .inl (fun _ => 0))), (q2, .inl (cA, 4, .inl (fun _ => 0))), (q3, .inl (cA, 4, .inl (fun _ => 0)))] := hD
  have hk29_21 := hts (.fieldLink RX3 21 "OvenRound$Flours" "bestTops" "[I") (by decide +kernel)
  refine va_putF (D := D) (ci := 3) (v := .ref q3) (ty := .array .int) (own := RX3) (ref := RX3) (C := RX3) (T := TX3) (N := 7) hx hb hts (by decide +kernel) tyX3 tyX3_ok nmX3 hown hK hP hD hS 0 rfl rfl 3 (by decide) hk29_21 (fun _ h9 => h9) rfl hin rfl (by decide +kernel) rfl rfl (Nat.le_of_ble_eq_true rfl) dX3_init_29 (fun H locs hP hD hS => ?_)
  have hP : va_P D vwCl [(h0, .inr (3, [.ref q0, .ref q1, .ref q2, .ref q3, .int 0, .null, .int 0])), (q0, .inl (cA, 4, .inl (fun _ => 0))), (q1, .inl (cA, 4, .inl (fun _ => 0))), (q2, .inl (cA, 4, .inl (fun _ => 0))), (q3, .inl (cA, 4, .inl (fun _ => 0)))] H := hP
  have hD : va_D A [(h0, .inr (3, [.ref q0, .ref q1, .ref q2, .ref q3, .int 0, .null, .int 0])), (q0, .inl (cA, 4, .inl (fun _ => 0))), (q1, .inl (cA, 4, .inl (fun _ => 0))), (q2, .inl (cA, 4, .inl (fun _ => 0))), (q3, .inl (cA, 4, .inl (fun _ => 0)))] := hD
  refine lv_aload_n hx hb dX3_init_32 rfl (lv_at hl 0 rfl) ?_
  refine lv_iconst (v := 4) hx hb dX3_init_33 (by decide) ?_
  refine x_newi hx hb (hts (.arrayClass .int) (by decide +kernel)) hK hP hD hS hA (N' := 4) (by decide) (by decide) (Nat.le_of_ble_eq_true rfl) (Nat.le_of_ble_eq_true rfl) (Nat.le_of_ble_eq_true rfl) dX3_init_34 (fun q4 H hP hD hS => ?_)
  refine W.widen (k := 5) (n := 20) (Nat.le_of_ble_eq_true rfl) (Nat.le_of_ble_eq_true rfl) ?_
  have hP : va_P D vwCl [(h0, .inr (3, [.ref q0, .ref q1, .ref q2, .ref q3, .int 0, .null, .int 0])), (q0, .inl (cA, 4, .inl (fun _ => 0))), (q1, .inl (cA, 4, .inl (fun _ => 0))), (q2, .inl (cA, 4, .inl (fun _ => 0))), (q3, .inl (cA, 4, .inl (fun _ => 0))), (q4, .inl (cA, 4, .inl (fun _ => 0)))] H := hP
  have hD : va_D A [(h0, .inr (3, [.ref q0, .ref q1, .ref q2, .ref q3, .int 0, .null, .int 0])), (q0, .inl (cA, 4, .inl (fun _ => 0))), (q1, .inl (cA, 4, .inl (fun _ => 0))), (q2, .inl (cA, 4, .inl (fun _ => 0))), (q3, .inl (cA, 4, .inl (fun _ => 0))), (q4, .inl (cA, 4, .inl (fun _ => 0)))] := hD
  have hk36_24 := hts (.fieldLink RX3 24 "OvenRound$Flours" "tops" "[I") (by decide +kernel)
  refine va_putF (D := D) (ci := 3) (v := .ref q4) (ty := .array .int) (own := RX3) (ref := RX3) (C := RX3) (T := TX3) (N := 7) hx hb hts (by decide +kernel) tyX3 tyX3_ok nmX3 hown hK hP hD hS 0 rfl rfl 5 (by decide) hk36_24 (fun _ h9 => h9) rfl hin rfl (by decide +kernel) rfl rfl (Nat.le_of_ble_eq_true rfl) dX3_init_36 (fun H locs hP hD hS => ?_)
  have hP : va_P D vwCl [(h0, .inr (3, [.ref q0, .ref q1, .ref q2, .ref q3, .int 0, .ref q4, .int 0])), (q0, .inl (cA, 4, .inl (fun _ => 0))), (q1, .inl (cA, 4, .inl (fun _ => 0))), (q2, .inl (cA, 4, .inl (fun _ => 0))), (q3, .inl (cA, 4, .inl (fun _ => 0))), (q4, .inl (cA, 4, .inl (fun _ => 0)))] H := hP
  have hD : va_D A [(h0, .inr (3, [.ref q0, .ref q1, .ref q2, .ref q3, .int 0, .ref q4, .int 0])), (q0, .inl (cA, 4, .inl (fun _ => 0))), (q1, .inl (cA, 4, .inl (fun _ => 0))), (q2, .inl (cA, 4, .inl (fun _ => 0))), (q3, .inl (cA, 4, .inl (fun _ => 0))), (q4, .inl (cA, 4, .inl (fun _ => 0)))] := hD
  refine lv_iconst (v := 0) hx hb dX3_init_39 (by decide) ?_
  refine lv_istore_n (lv' := [(1, .int 0), (0, .ref h0)]) hx hb dX3_init_40 rfl hl (by decide) rfl (fun ls hl => ?_)
  refine lv_iload_n hx hb dX3_init_41 rfl (lv_at hl 0 rfl) ?_
  refine lv_iconst (v := 4) hx hb dX3_init_42 (by decide) ?_
  refine lv_icmp_ge (tgt := 76) hx hb dX3_init_43 (by decide) (fun cx => absurd cx (by decide)) (fun _ => ?_)
  refine lv_aload_n hx hb dX3_init_46 rfl (lv_at hl 1 rfl) ?_
  have hk47_9 := hts (.fieldLink RX3 9 "OvenRound$Flours" "strength" "[I") (by decide +kernel)
  refine va_get (D := D) (own := RX3) (ref := RX3) (C := RX3) (T := TX3) (N := 7) hx hb hts (by decide +kernel) hown hK hP 0 rfl rfl 0 (by decide) hk47_9 (fun _ h9 => h9) (v := .ref q0) rfl dX3_init_47 ?_
  refine lv_iload_n hx hb dX3_init_50 rfl (lv_at hl 0 rfl) ?_
  refine lv_bipush (v := 100) hx hb dX3_init_51 (by decide) ?_
  refine va_iast hx hb hK hP hD hS 1 0 (cA := cA) (n := 4) (f := (fun _ => 0)) rfl rfl (i := 0) (xin_vp (by decide)) dX3_init_53 (fun H locs hP hD hS => ?_)
  have hP : va_P D vwCl [(h0, .inr (3, [.ref q0, .ref q1, .ref q2, .ref q3, .int 0, .ref q4, .int 0])), (q0, .inl (cA, 4, .inl (upd (fun _ => 0) 0 100))), (q1, .inl (cA, 4, .inl (fun _ => 0))), (q2, .inl (cA, 4, .inl (fun _ => 0))), (q3, .inl (cA, 4, .inl (fun _ => 0))), (q4, .inl (cA, 4, .inl (fun _ => 0)))] H := hP
  have hD : va_D A [(h0, .inr (3, [.ref q0, .ref q1, .ref q2, .ref q3, .int 0, .ref q4, .int 0])), (q0, .inl (cA, 4, .inl (upd (fun _ => 0) 0 100))), (q1, .inl (cA, 4, .inl (fun _ => 0))), (q2, .inl (cA, 4, .inl (fun _ => 0))), (q3, .inl (cA, 4, .inl (fun _ => 0))), (q4, .inl (cA, 4, .inl (fun _ => 0)))] := hD
  refine lv_aload_n hx hb dX3_init_54 rfl (lv_at hl 1 rfl) ?_
  have hk55_15 := hts (.fieldLink RX3 15 "OvenRound$Flours" "cost" "[I") (by decide +kernel)
  refine va_get (D := D) (own := RX3) (ref := RX3) (C := RX3) (T := TX3) (N := 7) hx hb hts (by decide +kernel) hown hK hP 0 rfl rfl 1 (by decide) hk55_15 (fun _ h9 => h9) (v := .ref q1) rfl dX3_init_55 ?_
  refine lv_iload_n hx hb dX3_init_58 rfl (lv_at hl 0 rfl) ?_
  refine lv_bipush (v := 50) hx hb dX3_init_59 (by decide) ?_
  refine va_iast hx hb hK hP hD hS 2 0 (cA := cA) (n := 4) (f := (fun _ => 0)) rfl rfl (i := 0) (xin_vp (by decide)) dX3_init_61 (fun H locs hP hD hS => ?_)
  have hP : va_P D vwCl [(h0, .inr (3, [.ref q0, .ref q1, .ref q2, .ref q3, .int 0, .ref q4, .int 0])), (q0, .inl (cA, 4, .inl (upd (fun _ => 0) 0 100))), (q1, .inl (cA, 4, .inl (upd (fun _ => 0) 0 50))), (q2, .inl (cA, 4, .inl (fun _ => 0))), (q3, .inl (cA, 4, .inl (fun _ => 0))), (q4, .inl (cA, 4, .inl (fun _ => 0)))] H := hP
  have hD : va_D A [(h0, .inr (3, [.ref q0, .ref q1, .ref q2, .ref q3, .int 0, .ref q4, .int 0])), (q0, .inl (cA, 4, .inl (upd (fun _ => 0) 0 100))), (q1, .inl (cA, 4, .inl (upd (fun _ => 0) 0 50))), (q2, .inl (cA, 4, .inl (fun _ => 0))), (q3, .inl (cA, 4, .inl (fun _ => 0))), (q4, .inl (cA, 4, .inl (fun _ => 0)))] := hD
  refine lv_aload_n hx hb dX3_init_62 rfl (lv_at hl 1 rfl) ?_
  have hk63_18 := hts (.fieldLink RX3 18 "OvenRound$Flours" "cap" "[I") (by decide +kernel)
  refine va_get (D := D) (own := RX3) (ref := RX3) (C := RX3) (T := TX3) (N := 7) hx hb hts (by decide +kernel) hown hK hP 0 rfl rfl 2 (by decide) hk63_18 (fun _ h9 => h9) (v := .ref q2) rfl dX3_init_63 ?_
  refine lv_iload_n hx hb dX3_init_66 rfl (lv_at hl 0 rfl) ?_
  refine lv_bipush (v := 100) hx hb dX3_init_67 (by decide) ?_
  refine va_iast hx hb hK hP hD hS 3 0 (cA := cA) (n := 4) (f := (fun _ => 0)) rfl rfl (i := 0) (xin_vp (by decide)) dX3_init_69 (fun H locs hP hD hS => ?_)
  have hP : va_P D vwCl [(h0, .inr (3, [.ref q0, .ref q1, .ref q2, .ref q3, .int 0, .ref q4, .int 0])), (q0, .inl (cA, 4, .inl (upd (fun _ => 0) 0 100))), (q1, .inl (cA, 4, .inl (upd (fun _ => 0) 0 50))), (q2, .inl (cA, 4, .inl (upd (fun _ => 0) 0 100))), (q3, .inl (cA, 4, .inl (fun _ => 0))), (q4, .inl (cA, 4, .inl (fun _ => 0)))] H := hP
  have hD : va_D A [(h0, .inr (3, [.ref q0, .ref q1, .ref q2, .ref q3, .int 0, .ref q4, .int 0])), (q0, .inl (cA, 4, .inl (upd (fun _ => 0) 0 100))), (q1, .inl (cA, 4, .inl (upd (fun _ => 0) 0 50))), (q2, .inl (cA, 4, .inl (upd (fun _ => 0) 0 100))), (q3, .inl (cA, 4, .inl (fun _ => 0))), (q4, .inl (cA, 4, .inl (fun _ => 0)))] := hD
  refine lv_iinc (v := 1) (lv' := [(1, .int 1), (0, .ref h0)]) hx hb dX3_init_70 hl (k := 0) rfl (by decide) (by decide) rfl (fun ls hl => ?_)
  refine lv_goto (tgt := 41) hx hb dX3_init_73 (by decide) ?_
  refine lv_iload_n hx hb dX3_init_41 rfl (lv_at hl 0 rfl) ?_
  refine lv_iconst (v := 4) hx hb dX3_init_42 (by decide) ?_
  refine lv_icmp_ge (tgt := 76) hx hb dX3_init_43 (by decide) (fun cx => absurd cx (by decide)) (fun _ => ?_)
  refine lv_aload_n hx hb dX3_init_46 rfl (lv_at hl 1 rfl) ?_
  have hk47_9 := hts (.fieldLink RX3 9 "OvenRound$Flours" "strength" "[I") (by decide +kernel)
  refine va_get (D := D) (own := RX3) (ref := RX3) (C := RX3) (T := TX3) (N := 7) hx hb hts (by decide +kernel) hown hK hP 0 rfl rfl 0 (by decide) hk47_9 (fun _ h9 => h9) (v := .ref q0) rfl dX3_init_47 ?_
  refine lv_iload_n hx hb dX3_init_50 rfl (lv_at hl 0 rfl) ?_
  refine lv_bipush (v := 100) hx hb dX3_init_51 (by decide) ?_
  refine va_iast hx hb hK hP hD hS 1 0 (cA := cA) (n := 4) (f := (upd (fun _ => 0) 0 100)) rfl rfl (i := 1) (xin_vp (by decide)) dX3_init_53 (fun H locs hP hD hS => ?_)
  have hP : va_P D vwCl [(h0, .inr (3, [.ref q0, .ref q1, .ref q2, .ref q3, .int 0, .ref q4, .int 0])), (q0, .inl (cA, 4, .inl (upd (upd (fun _ => 0) 0 100) 1 100))), (q1, .inl (cA, 4, .inl (upd (fun _ => 0) 0 50))), (q2, .inl (cA, 4, .inl (upd (fun _ => 0) 0 100))), (q3, .inl (cA, 4, .inl (fun _ => 0))), (q4, .inl (cA, 4, .inl (fun _ => 0)))] H := hP
  have hD : va_D A [(h0, .inr (3, [.ref q0, .ref q1, .ref q2, .ref q3, .int 0, .ref q4, .int 0])), (q0, .inl (cA, 4, .inl (upd (upd (fun _ => 0) 0 100) 1 100))), (q1, .inl (cA, 4, .inl (upd (fun _ => 0) 0 50))), (q2, .inl (cA, 4, .inl (upd (fun _ => 0) 0 100))), (q3, .inl (cA, 4, .inl (fun _ => 0))), (q4, .inl (cA, 4, .inl (fun _ => 0)))] := hD
  refine lv_aload_n hx hb dX3_init_54 rfl (lv_at hl 1 rfl) ?_
  have hk55_15 := hts (.fieldLink RX3 15 "OvenRound$Flours" "cost" "[I") (by decide +kernel)
  refine va_get (D := D) (own := RX3) (ref := RX3) (C := RX3) (T := TX3) (N := 7) hx hb hts (by decide +kernel) hown hK hP 0 rfl rfl 1 (by decide) hk55_15 (fun _ h9 => h9) (v := .ref q1) rfl dX3_init_55 ?_
  refine lv_iload_n hx hb dX3_init_58 rfl (lv_at hl 0 rfl) ?_
  refine lv_bipush (v := 50) hx hb dX3_init_59 (by decide) ?_
  refine va_iast hx hb hK hP hD hS 2 0 (cA := cA) (n := 4) (f := (upd (fun _ => 0) 0 50)) rfl rfl (i := 1) (xin_vp (by decide)) dX3_init_61 (fun H locs hP hD hS => ?_)
  have hP : va_P D vwCl [(h0, .inr (3, [.ref q0, .ref q1, .ref q2, .ref q3, .int 0, .ref q4, .int 0])), (q0, .inl (cA, 4, .inl (upd (upd (fun _ => 0) 0 100) 1 100))), (q1, .inl (cA, 4, .inl (upd (upd (fun _ => 0) 0 50) 1 50))), (q2, .inl (cA, 4, .inl (upd (fun _ => 0) 0 100))), (q3, .inl (cA, 4, .inl (fun _ => 0))), (q4, .inl (cA, 4, .inl (fun _ => 0)))] H := hP
  have hD : va_D A [(h0, .inr (3, [.ref q0, .ref q1, .ref q2, .ref q3, .int 0, .ref q4, .int 0])), (q0, .inl (cA, 4, .inl (upd (upd (fun _ => 0) 0 100) 1 100))), (q1, .inl (cA, 4, .inl (upd (upd (fun _ => 0) 0 50) 1 50))), (q2, .inl (cA, 4, .inl (upd (fun _ => 0) 0 100))), (q3, .inl (cA, 4, .inl (fun _ => 0))), (q4, .inl (cA, 4, .inl (fun _ => 0)))] := hD
  refine lv_aload_n hx hb dX3_init_62 rfl (lv_at hl 1 rfl) ?_
  have hk63_18 := hts (.fieldLink RX3 18 "OvenRound$Flours" "cap" "[I") (by decide +kernel)
  refine va_get (D := D) (own := RX3) (ref := RX3) (C := RX3) (T := TX3) (N := 7) hx hb hts (by decide +kernel) hown hK hP 0 rfl rfl 2 (by decide) hk63_18 (fun _ h9 => h9) (v := .ref q2) rfl dX3_init_63 ?_
  refine lv_iload_n hx hb dX3_init_66 rfl (lv_at hl 0 rfl) ?_
  refine lv_bipush (v := 100) hx hb dX3_init_67 (by decide) ?_
  refine va_iast hx hb hK hP hD hS 3 0 (cA := cA) (n := 4) (f := (upd (fun _ => 0) 0 100)) rfl rfl (i := 1) (xin_vp (by decide)) dX3_init_69 (fun H locs hP hD hS => ?_)
  have hP : va_P D vwCl [(h0, .inr (3, [.ref q0, .ref q1, .ref q2, .ref q3, .int 0, .ref q4, .int 0])), (q0, .inl (cA, 4, .inl (upd (upd (fun _ => 0) 0 100) 1 100))), (q1, .inl (cA, 4, .inl (upd (upd (fun _ => 0) 0 50) 1 50))), (q2, .inl (cA, 4, .inl (upd (upd (fun _ => 0) 0 100) 1 100))), (q3, .inl (cA, 4, .inl (fun _ => 0))), (q4, .inl (cA, 4, .inl (fun _ => 0)))] H := hP
  have hD : va_D A [(h0, .inr (3, [.ref q0, .ref q1, .ref q2, .ref q3, .int 0, .ref q4, .int 0])), (q0, .inl (cA, 4, .inl (upd (upd (fun _ => 0) 0 100) 1 100))), (q1, .inl (cA, 4, .inl (upd (upd (fun _ => 0) 0 50) 1 50))), (q2, .inl (cA, 4, .inl (upd (upd (fun _ => 0) 0 100) 1 100))), (q3, .inl (cA, 4, .inl (fun _ => 0))), (q4, .inl (cA, 4, .inl (fun _ => 0)))] := hD
  refine lv_iinc (v := 2) (lv' := [(1, .int 2), (0, .ref h0)]) hx hb dX3_init_70 hl (k := 0) rfl (by decide) (by decide) rfl (fun ls hl => ?_)
  refine lv_goto (tgt := 41) hx hb dX3_init_73 (by decide) ?_
  refine lv_iload_n hx hb dX3_init_41 rfl (lv_at hl 0 rfl) ?_
  refine lv_iconst (v := 4) hx hb dX3_init_42 (by decide) ?_
  refine lv_icmp_ge (tgt := 76) hx hb dX3_init_43 (by decide) (fun cx => absurd cx (by decide)) (fun _ => ?_)
  refine lv_aload_n hx hb dX3_init_46 rfl (lv_at hl 1 rfl) ?_
  have hk47_9 := hts (.fieldLink RX3 9 "OvenRound$Flours" "strength" "[I") (by decide +kernel)
  refine va_get (D := D) (own := RX3) (ref := RX3) (C := RX3) (T := TX3) (N := 7) hx hb hts (by decide +kernel) hown hK hP 0 rfl rfl 0 (by decide) hk47_9 (fun _ h9 => h9) (v := .ref q0) rfl dX3_init_47 ?_
  refine lv_iload_n hx hb dX3_init_50 rfl (lv_at hl 0 rfl) ?_
  refine lv_bipush (v := 100) hx hb dX3_init_51 (by decide) ?_
  refine va_iast hx hb hK hP hD hS 1 0 (cA := cA) (n := 4) (f := (upd (upd (fun _ => 0) 0 100) 1 100)) rfl rfl (i := 2) (xin_vp (by decide)) dX3_init_53 (fun H locs hP hD hS => ?_)
  have hP : va_P D vwCl [(h0, .inr (3, [.ref q0, .ref q1, .ref q2, .ref q3, .int 0, .ref q4, .int 0])), (q0, .inl (cA, 4, .inl (upd (upd (upd (fun _ => 0) 0 100) 1 100) 2 100))), (q1, .inl (cA, 4, .inl (upd (upd (fun _ => 0) 0 50) 1 50))), (q2, .inl (cA, 4, .inl (upd (upd (fun _ => 0) 0 100) 1 100))), (q3, .inl (cA, 4, .inl (fun _ => 0))), (q4, .inl (cA, 4, .inl (fun _ => 0)))] H := hP
  have hD : va_D A [(h0, .inr (3, [.ref q0, .ref q1, .ref q2, .ref q3, .int 0, .ref q4, .int 0])), (q0, .inl (cA, 4, .inl (upd (upd (upd (fun _ => 0) 0 100) 1 100) 2 100))), (q1, .inl (cA, 4, .inl (upd (upd (fun _ => 0) 0 50) 1 50))), (q2, .inl (cA, 4, .inl (upd (upd (fun _ => 0) 0 100) 1 100))), (q3, .inl (cA, 4, .inl (fun _ => 0))), (q4, .inl (cA, 4, .inl (fun _ => 0)))] := hD
  refine lv_aload_n hx hb dX3_init_54 rfl (lv_at hl 1 rfl) ?_
  have hk55_15 := hts (.fieldLink RX3 15 "OvenRound$Flours" "cost" "[I") (by decide +kernel)
  refine va_get (D := D) (own := RX3) (ref := RX3) (C := RX3) (T := TX3) (N := 7) hx hb hts (by decide +kernel) hown hK hP 0 rfl rfl 1 (by decide) hk55_15 (fun _ h9 => h9) (v := .ref q1) rfl dX3_init_55 ?_
  refine lv_iload_n hx hb dX3_init_58 rfl (lv_at hl 0 rfl) ?_
  refine lv_bipush (v := 50) hx hb dX3_init_59 (by decide) ?_
  refine va_iast hx hb hK hP hD hS 2 0 (cA := cA) (n := 4) (f := (upd (upd (fun _ => 0) 0 50) 1 50)) rfl rfl (i := 2) (xin_vp (by decide)) dX3_init_61 (fun H locs hP hD hS => ?_)
  have hP : va_P D vwCl [(h0, .inr (3, [.ref q0, .ref q1, .ref q2, .ref q3, .int 0, .ref q4, .int 0])), (q0, .inl (cA, 4, .inl (upd (upd (upd (fun _ => 0) 0 100) 1 100) 2 100))), (q1, .inl (cA, 4, .inl (upd (upd (upd (fun _ => 0) 0 50) 1 50) 2 50))), (q2, .inl (cA, 4, .inl (upd (upd (fun _ => 0) 0 100) 1 100))), (q3, .inl (cA, 4, .inl (fun _ => 0))), (q4, .inl (cA, 4, .inl (fun _ => 0)))] H := hP
  have hD : va_D A [(h0, .inr (3, [.ref q0, .ref q1, .ref q2, .ref q3, .int 0, .ref q4, .int 0])), (q0, .inl (cA, 4, .inl (upd (upd (upd (fun _ => 0) 0 100) 1 100) 2 100))), (q1, .inl (cA, 4, .inl (upd (upd (upd (fun _ => 0) 0 50) 1 50) 2 50))), (q2, .inl (cA, 4, .inl (upd (upd (fun _ => 0) 0 100) 1 100))), (q3, .inl (cA, 4, .inl (fun _ => 0))), (q4, .inl (cA, 4, .inl (fun _ => 0)))] := hD
  refine lv_aload_n hx hb dX3_init_62 rfl (lv_at hl 1 rfl) ?_
  have hk63_18 := hts (.fieldLink RX3 18 "OvenRound$Flours" "cap" "[I") (by decide +kernel)
  refine va_get (D := D) (own := RX3) (ref := RX3) (C := RX3) (T := TX3) (N := 7) hx hb hts (by decide +kernel) hown hK hP 0 rfl rfl 2 (by decide) hk63_18 (fun _ h9 => h9) (v := .ref q2) rfl dX3_init_63 ?_
  refine lv_iload_n hx hb dX3_init_66 rfl (lv_at hl 0 rfl) ?_
  refine lv_bipush (v := 100) hx hb dX3_init_67 (by decide) ?_
  refine va_iast hx hb hK hP hD hS 3 0 (cA := cA) (n := 4) (f := (upd (upd (fun _ => 0) 0 100) 1 100)) rfl rfl (i := 2) (xin_vp (by decide)) dX3_init_69 (fun H locs hP hD hS => ?_)
  have hP : va_P D vwCl [(h0, .inr (3, [.ref q0, .ref q1, .ref q2, .ref q3, .int 0, .ref q4, .int 0])), (q0, .inl (cA, 4, .inl (upd (upd (upd (fun _ => 0) 0 100) 1 100) 2 100))), (q1, .inl (cA, 4, .inl (upd (upd (upd (fun _ => 0) 0 50) 1 50) 2 50))), (q2, .inl (cA, 4, .inl (upd (upd (upd (fun _ => 0) 0 100) 1 100) 2 100))), (q3, .inl (cA, 4, .inl (fun _ => 0))), (q4, .inl (cA, 4, .inl (fun _ => 0)))] H := hP
  have hD : va_D A [(h0, .inr (3, [.ref q0, .ref q1, .ref q2, .ref q3, .int 0, .ref q4, .int 0])), (q0, .inl (cA, 4, .inl (upd (upd (upd (fun _ => 0) 0 100) 1 100) 2 100))), (q1, .inl (cA, 4, .inl (upd (upd (upd (fun _ => 0) 0 50) 1 50) 2 50))), (q2, .inl (cA, 4, .inl (upd (upd (upd (fun _ => 0) 0 100) 1 100) 2 100))), (q3, .inl (cA, 4, .inl (fun _ => 0))), (q4, .inl (cA, 4, .inl (fun _ => 0)))] := hD
  refine lv_iinc (v := 3) (lv' := [(1, .int 3), (0, .ref h0)]) hx hb dX3_init_70 hl (k := 0) rfl (by decide) (by decide) rfl (fun ls hl => ?_)
  refine lv_goto (tgt := 41) hx hb dX3_init_73 (by decide) ?_
  refine lv_iload_n hx hb dX3_init_41 rfl (lv_at hl 0 rfl) ?_
  refine lv_iconst (v := 4) hx hb dX3_init_42 (by decide) ?_
  refine lv_icmp_ge (tgt := 76) hx hb dX3_init_43 (by decide) (fun cx => absurd cx (by decide)) (fun _ => ?_)
  refine lv_aload_n hx hb dX3_init_46 rfl (lv_at hl 1 rfl) ?_
  have hk47_9 := hts (.fieldLink RX3 9 "OvenRound$Flours" "strength" "[I") (by decide +kernel)
  refine va_get (D := D) (own := RX3) (ref := RX3) (C := RX3) (T := TX3) (N := 7) hx hb hts (by decide +kernel) hown hK hP 0 rfl rfl 0 (by decide) hk47_9 (fun _ h9 => h9) (v := .ref q0) rfl dX3_init_47 ?_
  refine lv_iload_n hx hb dX3_init_50 rfl (lv_at hl 0 rfl) ?_
  refine lv_bipush (v := 100) hx hb dX3_init_51 (by decide) ?_
  refine va_iast hx hb hK hP hD hS 1 0 (cA := cA) (n := 4) (f := (upd (upd (upd (fun _ => 0) 0 100) 1 100) 2 100)) rfl rfl (i := 3) (xin_vp (by decide)) dX3_init_53 (fun H locs hP hD hS => ?_)
  have hP : va_P D vwCl [(h0, .inr (3, [.ref q0, .ref q1, .ref q2, .ref q3, .int 0, .ref q4, .int 0])), (q0, .inl (cA, 4, .inl (upd (upd (upd (upd (fun _ => 0) 0 100) 1 100) 2 100) 3 100))), (q1, .inl (cA, 4, .inl (upd (upd (upd (fun _ => 0) 0 50) 1 50) 2 50))), (q2, .inl (cA, 4, .inl (upd (upd (upd (fun _ => 0) 0 100) 1 100) 2 100))), (q3, .inl (cA, 4, .inl (fun _ => 0))), (q4, .inl (cA, 4, .inl (fun _ => 0)))] H := hP
  have hD : va_D A [(h0, .inr (3, [.ref q0, .ref q1, .ref q2, .ref q3, .int 0, .ref q4, .int 0])), (q0, .inl (cA, 4, .inl (upd (upd (upd (upd (fun _ => 0) 0 100) 1 100) 2 100) 3 100))), (q1, .inl (cA, 4, .inl (upd (upd (upd (fun _ => 0) 0 50) 1 50) 2 50))), (q2, .inl (cA, 4, .inl (upd (upd (upd (fun _ => 0) 0 100) 1 100) 2 100))), (q3, .inl (cA, 4, .inl (fun _ => 0))), (q4, .inl (cA, 4, .inl (fun _ => 0)))] := hD
  refine lv_aload_n hx hb dX3_init_54 rfl (lv_at hl 1 rfl) ?_
  have hk55_15 := hts (.fieldLink RX3 15 "OvenRound$Flours" "cost" "[I") (by decide +kernel)
  refine va_get (D := D) (own := RX3) (ref := RX3) (C := RX3) (T := TX3) (N := 7) hx hb hts (by decide +kernel) hown hK hP 0 rfl rfl 1 (by decide) hk55_15 (fun _ h9 => h9) (v := .ref q1) rfl dX3_init_55 ?_
  refine lv_iload_n hx hb dX3_init_58 rfl (lv_at hl 0 rfl) ?_
  refine lv_bipush (v := 50) hx hb dX3_init_59 (by decide) ?_
  refine va_iast hx hb hK hP hD hS 2 0 (cA := cA) (n := 4) (f := (upd (upd (upd (fun _ => 0) 0 50) 1 50) 2 50)) rfl rfl (i := 3) (xin_vp (by decide)) dX3_init_61 (fun H locs hP hD hS => ?_)
  have hP : va_P D vwCl [(h0, .inr (3, [.ref q0, .ref q1, .ref q2, .ref q3, .int 0, .ref q4, .int 0])), (q0, .inl (cA, 4, .inl (upd (upd (upd (upd (fun _ => 0) 0 100) 1 100) 2 100) 3 100))), (q1, .inl (cA, 4, .inl (upd (upd (upd (upd (fun _ => 0) 0 50) 1 50) 2 50) 3 50))), (q2, .inl (cA, 4, .inl (upd (upd (upd (fun _ => 0) 0 100) 1 100) 2 100))), (q3, .inl (cA, 4, .inl (fun _ => 0))), (q4, .inl (cA, 4, .inl (fun _ => 0)))] H := hP
  have hD : va_D A [(h0, .inr (3, [.ref q0, .ref q1, .ref q2, .ref q3, .int 0, .ref q4, .int 0])), (q0, .inl (cA, 4, .inl (upd (upd (upd (upd (fun _ => 0) 0 100) 1 100) 2 100) 3 100))), (q1, .inl (cA, 4, .inl (upd (upd (upd (upd (fun _ => 0) 0 50) 1 50) 2 50) 3 50))), (q2, .inl (cA, 4, .inl (upd (upd (upd (fun _ => 0) 0 100) 1 100) 2 100))), (q3, .inl (cA, 4, .inl (fun _ => 0))), (q4, .inl (cA, 4, .inl (fun _ => 0)))] := hD
  refine lv_aload_n hx hb dX3_init_62 rfl (lv_at hl 1 rfl) ?_
  have hk63_18 := hts (.fieldLink RX3 18 "OvenRound$Flours" "cap" "[I") (by decide +kernel)
  refine va_get (D := D) (own := RX3) (ref := RX3) (C := RX3) (T := TX3) (N := 7) hx hb hts (by decide +kernel) hown hK hP 0 rfl rfl 2 (by decide) hk63_18 (fun _ h9 => h9) (v := .ref q2) rfl dX3_init_63 ?_
  refine lv_iload_n hx hb dX3_init_66 rfl (lv_at hl 0 rfl) ?_
  refine lv_bipush (v := 100) hx hb dX3_init_67 (by decide) ?_
  refine va_iast hx hb hK hP hD hS 3 0 (cA := cA) (n := 4) (f := (upd (upd (upd (fun _ => 0) 0 100) 1 100) 2 100)) rfl rfl (i := 3) (xin_vp (by decide)) dX3_init_69 (fun H locs hP hD hS => ?_)
  have hP : va_P D vwCl [(h0, .inr (3, [.ref q0, .ref q1, .ref q2, .ref q3, .int 0, .ref q4, .int 0])), (q0, .inl (cA, 4, .inl (upd (upd (upd (upd (fun _ => 0) 0 100) 1 100) 2 100) 3 100))), (q1, .inl (cA, 4, .inl (upd (upd (upd (upd (fun _ => 0) 0 50) 1 50) 2 50) 3 50))), (q2, .inl (cA, 4, .inl (upd (upd (upd (upd (fun _ => 0) 0 100) 1 100) 2 100) 3 100))), (q3, .inl (cA, 4, .inl (fun _ => 0))), (q4, .inl (cA, 4, .inl (fun _ => 0)))] H := hP
  have hD : va_D A [(h0, .inr (3, [.ref q0, .ref q1, .ref q2, .ref q3, .int 0, .ref q4, .int 0])), (q0, .inl (cA, 4, .inl (upd (upd (upd (upd (fun _ => 0) 0 100) 1 100) 2 100) 3 100))), (q1, .inl (cA, 4, .inl (upd (upd (upd (upd (fun _ => 0) 0 50) 1 50) 2 50) 3 50))), (q2, .inl (cA, 4, .inl (upd (upd (upd (upd (fun _ => 0) 0 100) 1 100) 2 100) 3 100))), (q3, .inl (cA, 4, .inl (fun _ => 0))), (q4, .inl (cA, 4, .inl (fun _ => 0)))] := hD
  refine lv_iinc (v := 4) (lv' := [(1, .int 4), (0, .ref h0)]) hx hb dX3_init_70 hl (k := 0) rfl (by decide) (by decide) rfl (fun ls hl => ?_)
  refine lv_goto (tgt := 41) hx hb dX3_init_73 (by decide) ?_
  refine lv_iload_n hx hb dX3_init_41 rfl (lv_at hl 0 rfl) ?_
  refine lv_iconst (v := 4) hx hb dX3_init_42 (by decide) ?_
  refine lv_icmp_ge (tgt := 76) hx hb dX3_init_43 (by decide) (fun _ => ?_) (fun cx => absurd (by decide) cx)
  refine W.vret hx hb hr (fun t ht hW => ⟨⟨fun k => ([q0, q1, q2, q3, q4] : List Nat).getD k 0, rfl, trivial, by rw [ht]; exact hP, va_K.moved hW.alike hK, hD⟩, hS.F ht⟩) hS.2.2 dX3_init_76

def wX4_init (cA : ClassId) (h0 : Nat) (u : Nat → Nat) : va_W := [(h0, .inr (4, [.ref (u 0), .ref (u 1)])), (u 0, .inl (cA, 360, .inl (fun _ => 0))), (u 1, .inl (cA, 6, .inl (fun _ => 0)))]
abbrev rmX4_init : Room := { frames := 1, cells := 2, slots := 366, locals := 32 }
set_option maxRecDepth 100000 in
set_option maxHeartbeats 4000000 in
theorem mX4_init {l : Launch} {D : va_G} {cA : ClassId} (h0 sz : Nat) : Met l yX4_init wsX4_init rmX4_init (va_Pc [.ref h0] (fun U => U.heap.size = sz ∧ va_P D vwCl [(h0, .inr (4, [.null, .null]))] U.heap ∧ va_K D vwCl [(cA, .int)] U ∧ va_D (fun _ => True) [(h0, .inr (4, [.null, .null]))])) (va_Qv (S := Nat → Nat) (fun _ => True) (fun u t => va_P D vwCl (wX4_init cA h0 u) t.heap ∧ va_K D vwCl [(cA, .int)] t ∧ va_D (va_A [(h0, .inr (4, [.null, .null]))] sz) (wX4_init cA h0 u)) (va_A [(h0, .inr (4, [.null, .null]))] sz)) 2 366 (va_A [(h0, .inr (4, [.null, .null]))] sz) := by
  refine Met.ofW (cc := cX4_init) (maxL := 1) (ret := none) (by decide) rfl ?_
  intro p e s m args below meth c s₁ B hml hv
  obtain ⟨rfl, hsz, hP, hK, hD0⟩ := hv
  have hx := B.exec
  have hb := B.bytes
  have hr := B.returns
  have hts := atoms_spec (ws := wsX4_init) B.pre
  have hown : s.vm.findClass RX4 = some m.cls := findClass_of_methodNamed B.named
  have hlocks := B.notSynchronized
  have hin : meth.name = "<init>" := (name_of_methodNamed B.named B.method).1
  subst hsz
  have hD := hD0.self (sz := s.heap.size)
  generalize hAe : va_A [(h0, .inr (4, [.null, .null]))] s.heap.size = A at hD ⊢
  have hA : ∀ q : Nat, s.heap.size ≤ q → A q := fun q h => by rw [← hAe]; exact Or.inr h
  have hS : va_S A s.heap s.heap [] := va_S.rf
  have hl := lv_entry ([.ref h0]) (n := 1) (Nat.le_of_ble_eq_true rfl)
  rw [lg_entry_eq]
  generalize (lg_sl ([.ref h0]) ++ List.replicate (1 - (lg_sl ([.ref h0])).length) Slot.unset).toArray = ls at hl ⊢
  have hl : lv_has ls 1 [(0, .ref h0)] := hl
  have hP : va_P D vwCl [(h0, .inr (4, [.null, .null]))] s.heap := hP
  refine lv_aload_n hx hb dX4_init_0 rfl (lv_at hl 0 rfl) ?_
  refine W.objInit hx hb hown (hts (.methodLink RX4 3 objectInit) (by decide +kernel)) (hts (.instanceMethod objectInit) (by decide +kernel)) (hts (.code objectInit ⟨#[0xb1]⟩ 1 none) (by decide +kernel)) rfl (by rw [hml]; exact hl.1) rfl dX4_init_1 (Nat.le_of_ble_eq_true rfl) (Nat.le_of_ble_eq_true rfl) ?_
  refine W.eq (g2 := F0 m 4 ls []) rfl ?_
  refine lv_aload_n hx hb dX4_init_4 rfl (lv_at hl 0 rfl) ?_
  refine lv_sipush (v := 360) hx hb dX4_init_5 (by decide) ?_
  refine x_newi hx hb (hts (.arrayClass .int) (by decide +kernel)) hK hP hD hS hA (N' := 360) (by decide) (by decide) (Nat.le_of_ble_eq_true rfl) (Nat.le_of_ble_eq_true rfl) (Nat.le_of_ble_eq_true rfl) dX4_init_8 (fun q0 H hP hD hS => ?_)
  refine W.widen (k := 1) (n := 360) (Nat.le_of_ble_eq_true rfl) (Nat.le_of_ble_eq_true rfl) ?_
  have hP : va_P D vwCl [(h0, .inr (4, [.null, .null])), (q0, .inl (cA, 360, .inl (fun _ => 0)))] H := hP
  have hD : va_D A [(h0, .inr (4, [.null, .null])), (q0, .inl (cA, 360, .inl (fun _ => 0)))] := hD
  have hk10_9 := hts (.fieldLink RX4 9 "OvenRound$Notes" "wanted" "[I") (by decide +kernel)
  refine va_putF (D := D) (ci := 4) (v := .ref q0) (ty := .array .int) (own := RX4) (ref := RX4) (C := RX4) (T := TX4) (N := 2) hx hb hts (by decide +kernel) tyX4 tyX4_ok nmX4 hown hK hP hD hS 0 rfl rfl 0 (by decide) hk10_9 (fun _ h9 => h9) rfl hin rfl (by decide +kernel) rfl rfl (Nat.le_of_ble_eq_true rfl) dX4_init_10 (fun H locs hP hD hS => ?_)
  have hP : va_P D vwCl [(h0, .inr (4, [.ref q0, .null])), (q0, .inl (cA, 360, .inl (fun _ => 0)))] H := hP
  have hD : va_D A [(h0, .inr (4, [.ref q0, .null])), (q0, .inl (cA, 360, .inl (fun _ => 0)))] := hD
  refine lv_aload_n hx hb dX4_init_13 rfl (lv_at hl 0 rfl) ?_
  refine lv_bipush (v := 6) hx hb dX4_init_14 (by decide) ?_
  refine x_newi hx hb (hts (.arrayClass .int) (by decide +kernel)) hK hP hD hS hA (N' := 6) (by decide) (by decide) (Nat.le_of_ble_eq_true rfl) (Nat.le_of_ble_eq_true rfl) (Nat.le_of_ble_eq_true rfl) dX4_init_16 (fun q1 H hP hD hS => ?_)
  refine W.widen (k := 2) (n := 366) (Nat.le_of_ble_eq_true rfl) (Nat.le_of_ble_eq_true rfl) ?_
  have hP : va_P D vwCl [(h0, .inr (4, [.ref q0, .null])), (q0, .inl (cA, 360, .inl (fun _ => 0))), (q1, .inl (cA, 6, .inl (fun _ => 0)))] H := hP
  have hD : va_D A [(h0, .inr (4, [.ref q0, .null])), (q0, .inl (cA, 360, .inl (fun _ => 0))), (q1, .inl (cA, 6, .inl (fun _ => 0)))] := hD
  have hk18_15 := hts (.fieldLink RX4 15 "OvenRound$Notes" "count" "[I") (by decide +kernel)
  refine va_putF (D := D) (ci := 4) (v := .ref q1) (ty := .array .int) (own := RX4) (ref := RX4) (C := RX4) (T := TX4) (N := 2) hx hb hts (by decide +kernel) tyX4 tyX4_ok nmX4 hown hK hP hD hS 0 rfl rfl 1 (by decide) hk18_15 (fun _ h9 => h9) rfl hin rfl (by decide +kernel) rfl rfl (Nat.le_of_ble_eq_true rfl) dX4_init_18 (fun H locs hP hD hS => ?_)
  have hP : va_P D vwCl [(h0, .inr (4, [.ref q0, .ref q1])), (q0, .inl (cA, 360, .inl (fun _ => 0))), (q1, .inl (cA, 6, .inl (fun _ => 0)))] H := hP
  have hD : va_D A [(h0, .inr (4, [.ref q0, .ref q1])), (q0, .inl (cA, 360, .inl (fun _ => 0))), (q1, .inl (cA, 6, .inl (fun _ => 0)))] := hD
  refine W.vret hx hb hr (fun t ht hW => ⟨⟨fun k => ([q0, q1] : List Nat).getD k 0, rfl, trivial, by rw [ht]; exact hP, va_K.moved hW.alike hK, hD⟩, hS.F ht⟩) hS.2.2 dX4_init_21

def wX1_init (cA : ClassId) (h0 : Nat) (u : Nat → Nat) : va_W := [(h0, .inr (1, [.ref (u 0), .ref (u 1), .ref (u 2), .ref (u 3), .ref (u 4), .int 0, .ref (u 5), .int 0, .ref (u 6)])), (u 0, .inl (cA, 8, .inl (fun _ => 0))), (u 1, .inl (cA, 8, .inl (fun _ => 0))), (u 2, .inl (cA, 7, .inl (fun _ => 0))), (u 3, .inl (cA, 7, .inl (fun _ => 0))), (u 4, .inl (cA, 7, .inl (fun _ => 0))), (u 5, .inl (cA, 7, .inl (fun _ => 0))), (u 6, .inl (cA, 7, .inl (fun _ => 0)))]
abbrev rmX1_init : Room := { frames := 1, cells := 7, slots := 51, locals := 32 }
set_option maxRecDepth 100000 in
set_option maxHeartbeats 4000000 in
theorem mX1_init {l : Launch} {D : va_G} {cA : ClassId} (h0 sz : Nat) : Met l yX1_init wsX1_init rmX1_init (va_Pc [.ref h0] (fun U => U.heap.size = sz ∧ va_P D vwCl [(h0, .inr (1, [.null, .null, .null, .null, .null, .int 0, .null, .int 0, .null]))] U.heap ∧ va_K D vwCl [(cA, .int)] U ∧ va_D (fun _ => True) [(h0, .inr (1, [.null, .null, .null, .null, .null, .int 0, .null, .int 0, .null]))])) (va_Qv (S := Nat → Nat) (fun _ => True) (fun u t => va_P D vwCl (wX1_init cA h0 u) t.heap ∧ va_K D vwCl [(cA, .int)] t ∧ va_D (va_A [(h0, .inr (1, [.null, .null, .null, .null, .null, .int 0, .null, .int 0, .null]))] sz) (wX1_init cA h0 u)) (va_A [(h0, .inr (1, [.null, .null, .null, .null, .null, .int 0, .null, .int 0, .null]))] sz)) 7 51 (va_A [(h0, .inr (1, [.null, .null, .null, .null, .null, .int 0, .null, .int 0, .null]))] sz) := by
  refine Met.ofW (cc := cX1_init) (maxL := 1) (ret := none) (by decide) rfl ?_
  intro p e s m args below meth c s₁ B hml hv
  obtain ⟨rfl, hsz, hP, hK, hD0⟩ := hv
  have hx := B.exec
  have hb := B.bytes
  have hr := B.returns
  have hts := atoms_spec (ws := wsX1_init) B.pre
  have hown : s.vm.findClass RX1 = some m.cls := findClass_of_methodNamed B.named
  have hlocks := B.notSynchronized
  have hin : meth.name = "<init>" := (name_of_methodNamed B.named B.method).1
  subst hsz
  have hD := hD0.self (sz := s.heap.size)
  generalize hAe : va_A [(h0, .inr (1, [.null, .null, .null, .null, .null, .int 0, .null, .int 0, .null]))] s.heap.size = A at hD ⊢
  have hA : ∀ q : Nat, s.heap.size ≤ q → A q := fun q h => by rw [← hAe]; exact Or.inr h
  have hS : va_S A s.heap s.heap [] := va_S.rf
  have hl := lv_entry ([.ref h0]) (n := 1) (Nat.le_of_ble_eq_true rfl)
  rw [lg_entry_eq]
  generalize (lg_sl ([.ref h0]) ++ List.replicate (1 - (lg_sl ([.ref h0])).length) Slot.unset).toArray = ls at hl ⊢
  have hl : lv_has ls 1 [(0, .ref h0)] := hl
  have hP : va_P D vwCl [(h0, .inr (1, [.null, .null, .null, .null, .null, .int 0, .null, .int 0, .null]))] s.heap := hP
  refine lv_aload_n hx hb dX1_init_0 rfl (lv_at hl 0 rfl) ?_
  refine W.objInit hx hb hown (hts (.methodLink RX1 3 objectInit) (by decide +kernel)) (hts (.instanceMethod objectInit) (by decide +kernel)) (hts (.code objectInit ⟨#[0xb1]⟩ 1 none) (by decide +kernel)) rfl (by rw [hml]; exact hl.1) rfl dX1_init_1 (Nat.le_of_ble_eq_true rfl) (Nat.le_of_ble_eq_true rfl) ?_
  refine W.eq (g2 := F0 m 4 ls []) rfl ?_
  refine lv_aload_n hx hb dX1_init_4 rfl (lv_at hl 0 rfl) ?_
  refine lv_bipush (v := 8) hx hb dX1_init_5 (by decide) ?_
  refine x_newi hx hb (hts (.arrayClass .int) (by decide +kernel)) hK hP hD hS hA (N' := 8) (by decide) (by decide) (Nat.le_of_ble_eq_true rfl) (Nat.le_of_ble_eq_true rfl) (Nat.le_of_ble_eq_true rfl) dX1_init_7 (fun q0 H hP hD hS => ?_)
  refine W.widen (k := 1) (n := 8) (Nat.le_of_ble_eq_true rfl) (Nat.le_of_ble_eq_true rfl) ?_
  have hP : va_P D vwCl [(h0, .inr (1, [.null, .null, .null, .null, .null, .int 0, .null, .int 0, .null])), (q0, .inl (cA, 8, .inl (fun _ => 0)))] H := hP
  have hD : va_D A [(h0, .inr (1, [.null, .null, .null, .null, .null, .int 0, .null, .int 0, .null])), (q0, .inl (cA, 8, .inl (fun _ => 0)))] := hD
  have hk9_9 := hts (.fieldLink RX1 9 "OvenRound$Cart" "x" "[I") (by decide +kernel)
  refine va_putF (D := D) (ci := 1) (v := .ref q0) (ty := .array .int) (own := RX1) (ref := RX1) (C := RX1) (T := TX1) (N := 9) hx hb hts (by decide +kernel) tyX1 tyX1_ok nmX1 hown hK hP hD hS 0 rfl rfl 0 (by decide) hk9_9 (fun _ h9 => h9) rfl hin rfl (by decide +kernel) rfl rfl (Nat.le_of_ble_eq_true rfl) dX1_init_9 (fun H locs hP hD hS => ?_)
  have hP : va_P D vwCl [(h0, .inr (1, [.ref q0, .null, .null, .null, .null, .int 0, .null, .int 0, .null])), (q0, .inl (cA, 8, .inl (fun _ => 0)))] H := hP
  have hD : va_D A [(h0, .inr (1, [.ref q0, .null, .null, .null, .null, .int 0, .null, .int 0, .null])), (q0, .inl (cA, 8, .inl (fun _ => 0)))] := hD
  refine lv_aload_n hx hb dX1_init_12 rfl (lv_at hl 0 rfl) ?_
  refine lv_bipush (v := 8) hx hb dX1_init_13 (by decide) ?_
  refine x_newi hx hb (hts (.arrayClass .int) (by decide +kernel)) hK hP hD hS hA (N' := 8) (by decide) (by decide) (Nat.le_of_ble_eq_true rfl) (Nat.le_of_ble_eq_true rfl) (Nat.le_of_ble_eq_true rfl) dX1_init_15 (fun q1 H hP hD hS => ?_)
  refine W.widen (k := 2) (n := 16) (Nat.le_of_ble_eq_true rfl) (Nat.le_of_ble_eq_true rfl) ?_
  have hP : va_P D vwCl [(h0, .inr (1, [.ref q0, .null, .null, .null, .null, .int 0, .null, .int 0, .null])), (q0, .inl (cA, 8, .inl (fun _ => 0))), (q1, .inl (cA, 8, .inl (fun _ => 0)))] H := hP
  have hD : va_D A [(h0, .inr (1, [.ref q0, .null, .null, .null, .null, .int 0, .null, .int 0, .null])), (q0, .inl (cA, 8, .inl (fun _ => 0))), (q1, .inl (cA, 8, .inl (fun _ => 0)))] := hD
  have hk17_15 := hts (.fieldLink RX1 15 "OvenRound$Cart" "y" "[I") (by decide +kernel)
  refine va_putF (D := D) (ci := 1) (v := .ref q1) (ty := .array .int) (own := RX1) (ref := RX1) (C := RX1) (T := TX1) (N := 9) hx hb hts (by decide +kernel) tyX1 tyX1_ok nmX1 hown hK hP hD hS 0 rfl rfl 1 (by decide) hk17_15 (fun _ h9 => h9) rfl hin rfl (by decide +kernel) rfl rfl (Nat.le_of_ble_eq_true rfl) dX1_init_17 (fun H locs hP hD hS => ?_)
  have hP : va_P D vwCl [(h0, .inr (1, [.ref q0, .ref q1, .null, .null, .null, .int 0, .null, .int 0, .null])), (q0, .inl (cA, 8, .inl (fun _ => 0))), (q1, .inl (cA, 8, .inl (fun _ => 0)))] H := hP
  have hD : va_D A [(h0, .inr (1, [.ref q0, .ref q1, .null, .null, .null, .int 0, .null, .int 0, .null])), (q0, .inl (cA, 8, .inl (fun _ => 0))), (q1, .inl (cA, 8, .inl (fun _ => 0)))] := hD
  refine lv_aload_n hx hb dX1_init_20 rfl (lv_at hl 0 rfl) ?_
  refine lv_bipush (v := 7) hx hb dX1_init_21 (by decide) ?_
  refine x_newi hx hb (hts (.arrayClass .int) (by decide +kernel)) hK hP hD hS hA (N' := 7) (by decide) (by decide) (Nat.le_of_ble_eq_true rfl) (Nat.le_of_ble_eq_true rfl) (Nat.le_of_ble_eq_true rfl) dX1_init_23 (fun q2 H hP hD hS => ?_)
  refine W.widen (k := 3) (n := 23) (Nat.le_of_ble_eq_true rfl) (Nat.le_of_ble_eq_true rfl) ?_
  have hP : va_P D vwCl [(h0, .inr (1, [.ref q0, .ref q1, .null, .null, .null, .int 0, .null, .int 0, .null])), (q0, .inl (cA, 8, .inl (fun _ => 0))), (q1, .inl (cA, 8, .inl (fun _ => 0))), (q2, .inl (cA, 7, .inl (fun _ => 0)))] H := hP
  have hD : va_D A [(h0, .inr (1, [.ref q0, .ref q1, .null, .null, .null, .int 0, .null, .int 0, .null])), (q0, .inl (cA, 8, .inl (fun _ => 0))), (q1, .inl (cA, 8, .inl (fun _ => 0))), (q2, .inl (cA, 7, .inl (fun _ => 0)))] := hD
  have hk25_18 := hts (.fieldLink RX1 18 "OvenRound$Cart" "opening" "[I") (by decide +kernel)
  refine va_putF (D := D) (ci := 1) (v := .ref q2) (ty := .array .int) (own := RX1) (ref := RX1) (C := RX1) (T := TX1) (N := 9) hx hb hts (by decide +kernel) tyX1 tyX1_ok nmX1 hown hK hP hD hS 0 rfl rfl 2 (by decide) hk25_18 (fun _ h9 => h9) rfl hin rfl (by decide +kernel) rfl rfl (Nat.le_of_ble_eq_true rfl) dX1_init_25 (fun H locs hP hD hS => ?_)
  have hP : va_P D vwCl [(h0, .inr (1, [.ref q0, .ref q1, .ref q2, .null, .null, .int 0, .null, .int 0, .null])), (q0, .inl (cA, 8, .inl (fun _ => 0))), (q1, .inl (cA, 8, .inl (fun _ => 0))), (q2, .inl (cA, 7, .inl (fun _ => 0)))] H := hP
  have hD : va_D A [(h0, .inr (1, [.ref q0, .ref q1, .ref q2, .null, .null, .int 0, .null, .int 0, .null])), (q0, .inl (cA, 8, .inl (fun _ => 0))), (q1, .inl (cA, 8, .inl (fun _ => 0))), (q2, .inl (cA, 7, .inl (fun _ => 0)))] := hD
  refine lv_aload_n hx hb dX1_init_28 rfl (lv_at hl 0 rfl) ?_
  refine lv_bipush (v := 7) hx hb dX1_init_29 (by decide) ?_
  refine x_newi hx hb (hts (.arrayClass .int) (by decide +kernel)) hK hP hD hS hA (N' := 7) (by decide) (by decide) (Nat.le_of_ble_eq_true rfl) (Nat.le_of_ble_eq_true rfl) (Nat.le_of_ble_eq_true rfl) dX1_init_31 (fun q3 H hP hD hS => ?_)
  refine W.widen (k := 4) (n := 30) (Nat.le_of_ble_eq_true rfl) (Nat.le_of_ble_eq_true rfl) ?_
  have hP : va_P D vwCl [(h0, .inr (1, [.ref q0, .ref q1, .ref q2, .null, .null, .int 0, .null, .int 0, .null])), (q0, .inl (cA, 8, .inl (fun _ => 0))), (q1, .inl (cA, 8, .inl (fun _ => 0))), (q2, .inl (cA, 7, .inl (fun _ => 0))), (q3, .inl (cA, 7, .inl (fun _ => 0)))] H := hP
  have hD : va_D A [(h0, .inr (1, [.ref q0, .ref q1, .ref q2, .null, .null, .int 0, .null, .int 0, .null])), (q0, .inl (cA, 8, .inl (fun _ => 0))), (q1, .inl (cA, 8, .inl (fun _ => 0))), (q2, .inl (cA, 7, .inl (fun _ => 0))), (q3, .inl (cA, 7, .inl (fun _ => 0)))] := hD
  have hk33_21 := hts (.fieldLink RX1 21 "OvenRound$Cart" "closing" "[I") (by decide +kernel)
  refine va_putF (D := D) (ci := 1) (v := .ref q3) (ty := .array .int) (own := RX1) (ref := RX1) (C := RX1) (T := TX1) (N := 9) hx hb hts (by decide +kernel) tyX1 tyX1_ok nmX1 hown hK hP hD hS 0 rfl rfl 3 (by decide) hk33_21 (fun _ h9 => h9) rfl hin rfl (by decide +kernel) rfl rfl (Nat.le_of_ble_eq_true rfl) dX1_init_33 (fun H locs hP hD hS => ?_)
  have hP : va_P D vwCl [(h0, .inr (1, [.ref q0, .ref q1, .ref q2, .ref q3, .null, .int 0, .null, .int 0, .null])), (q0, .inl (cA, 8, .inl (fun _ => 0))), (q1, .inl (cA, 8, .inl (fun _ => 0))), (q2, .inl (cA, 7, .inl (fun _ => 0))), (q3, .inl (cA, 7, .inl (fun _ => 0)))] H := hP
  have hD : va_D A [(h0, .inr (1, [.ref q0, .ref q1, .ref q2, .ref q3, .null, .int 0, .null, .int 0, .null])), (q0, .inl (cA, 8, .inl (fun _ => 0))), (q1, .inl (cA, 8, .inl (fun _ => 0))), (q2, .inl (cA, 7, .inl (fun _ => 0))), (q3, .inl (cA, 7, .inl (fun _ => 0)))] := hD
  refine lv_aload_n hx hb dX1_init_36 rfl (lv_at hl 0 rfl) ?_
  refine lv_bipush (v := 7) hx hb dX1_init_37 (by decide) ?_
  refine x_newi hx hb (hts (.arrayClass .int) (by decide +kernel)) hK hP hD hS hA (N' := 7) (by decide) (by decide) (Nat.le_of_ble_eq_true rfl) (Nat.le_of_ble_eq_true rfl) (Nat.le_of_ble_eq_true rfl) dX1_init_39 (fun q4 H hP hD hS => ?_)
  refine W.widen (k := 5) (n := 37) (Nat.le_of_ble_eq_true rfl) (Nat.le_of_ble_eq_true rfl) ?_
  have hP : va_P D vwCl [(h0, .inr (1, [.ref q0, .ref q1, .ref q2, .ref q3, .null, .int 0, .null, .int 0, .null])), (q0, .inl (cA, 8, .inl (fun _ => 0))), (q1, .inl (cA, 8, .inl (fun _ => 0))), (q2, .inl (cA, 7, .inl (fun _ => 0))), (q3, .inl (cA, 7, .inl (fun _ => 0))), (q4, .inl (cA, 7, .inl (fun _ => 0)))] H := hP
  have hD : va_D A [(h0, .inr (1, [.ref q0, .ref q1, .ref q2, .ref q3, .null, .int 0, .null, .int 0, .null])), (q0, .inl (cA, 8, .inl (fun _ => 0))), (q1, .inl (cA, 8, .inl (fun _ => 0))), (q2, .inl (cA, 7, .inl (fun _ => 0))), (q3, .inl (cA, 7, .inl (fun _ => 0))), (q4, .inl (cA, 7, .inl (fun _ => 0)))] := hD
  have hk41_24 := hts (.fieldLink RX1 24 "OvenRound$Cart" "stay" "[I") (by decide +kernel)
  refine va_putF (D := D) (ci := 1) (v := .ref q4) (ty := .array .int) (own := RX1) (ref := RX1) (C := RX1) (T := TX1) (N := 9) hx hb hts (by decide +kernel) tyX1 tyX1_ok nmX1 hown hK hP hD hS 0 rfl rfl 4 (by decide) hk41_24 (fun _ h9 => h9) rfl hin rfl (by decide +kernel) rfl rfl (Nat.le_of_ble_eq_true rfl) dX1_init_41 (fun H locs hP hD hS => ?_)
  have hP : va_P D vwCl [(h0, .inr (1, [.ref q0, .ref q1, .ref q2, .ref q3, .ref q4, .int 0, .null, .int 0, .null])), (q0, .inl (cA, 8, .inl (fun _ => 0))), (q1, .inl (cA, 8, .inl (fun _ => 0))), (q2, .inl (cA, 7, .inl (fun _ => 0))), (q3, .inl (cA, 7, .inl (fun _ => 0))), (q4, .inl (cA, 7, .inl (fun _ => 0)))] H := hP
  have hD : va_D A [(h0, .inr (1, [.ref q0, .ref q1, .ref q2, .ref q3, .ref q4, .int 0, .null, .int 0, .null])), (q0, .inl (cA, 8, .inl (fun _ => 0))), (q1, .inl (cA, 8, .inl (fun _ => 0))), (q2, .inl (cA, 7, .inl (fun _ => 0))), (q3, .inl (cA, 7, .inl (fun _ => 0))), (q4, .inl (cA, 7, .inl (fun _ => 0)))] := hD
  refine lv_aload_n hx hb dX1_init_44 rfl (lv_at hl 0 rfl) ?_
  refine lv_bipush (v := 7) hx hb dX1_init_45 (by decide) ?_
  refine x_newi hx hb (hts (.arrayClass .int) (by decide +kernel)) hK hP hD hS hA (N' := 7) (by decide) (by decide) (Nat.le_of_ble_eq_true rfl) (Nat.le_of_ble_eq_true rfl) (Nat.le_of_ble_eq_true rfl) dX1_init_47 (fun q5 H hP hD hS => ?_)
  refine W.widen (k := 6) (n := 44) (Nat.le_of_ble_eq_true rfl) (Nat.le_of_ble_eq_true rfl) ?_
  have hP : va_P D vwCl [(h0, .inr (1, [.ref q0, .ref q1, .ref q2, .ref q3, .ref q4, .int 0, .null, .int 0, .null])), (q0, .inl (cA, 8, .inl (fun _ => 0))), (q1, .inl (cA, 8, .inl (fun _ => 0))), (q2, .inl (cA, 7, .inl (fun _ => 0))), (q3, .inl (cA, 7, .inl (fun _ => 0))), (q4, .inl (cA, 7, .inl (fun _ => 0))), (q5, .inl (cA, 7, .inl (fun _ => 0)))] H := hP
  have hD : va_D A [(h0, .inr (1, [.ref q0, .ref q1, .ref q2, .ref q3, .ref q4, .int 0, .null, .int 0, .null])), (q0, .inl (cA, 8, .inl (fun _ => 0))), (q1, .inl (cA, 8, .inl (fun _ => 0))), (q2, .inl (cA, 7, .inl (fun _ => 0))), (q3, .inl (cA, 7, .inl (fun _ => 0))), (q4, .inl (cA, 7, .inl (fun _ => 0))), (q5, .inl (cA, 7, .inl (fun _ => 0)))] := hD
  have hk49_27 := hts (.fieldLink RX1 27 "OvenRound$Cart" "bestWay" "[I") (by decide +kernel)
  refine va_putF (D := D) (ci := 1) (v := .ref q5) (ty := .array .int) (own := RX1) (ref := RX1) (C := RX1) (T := TX1) (N := 9) hx hb hts (by decide +kernel) tyX1 tyX1_ok nmX1 hown hK hP hD hS 0 rfl rfl 6 (by decide) hk49_27 (fun _ h9 => h9) rfl hin rfl (by decide +kernel) rfl rfl (Nat.le_of_ble_eq_true rfl) dX1_init_49 (fun H locs hP hD hS => ?_)
  have hP : va_P D vwCl [(h0, .inr (1, [.ref q0, .ref q1, .ref q2, .ref q3, .ref q4, .int 0, .ref q5, .int 0, .null])), (q0, .inl (cA, 8, .inl (fun _ => 0))), (q1, .inl (cA, 8, .inl (fun _ => 0))), (q2, .inl (cA, 7, .inl (fun _ => 0))), (q3, .inl (cA, 7, .inl (fun _ => 0))), (q4, .inl (cA, 7, .inl (fun _ => 0))), (q5, .inl (cA, 7, .inl (fun _ => 0)))] H := hP
  have hD : va_D A [(h0, .inr (1, [.ref q0, .ref q1, .ref q2, .ref q3, .ref q4, .int 0, .ref q5, .int 0, .null])), (q0, .inl (cA, 8, .inl (fun _ => 0))), (q1, .inl (cA, 8, .inl (fun _ => 0))), (q2, .inl (cA, 7, .inl (fun _ => 0))), (q3, .inl (cA, 7, .inl (fun _ => 0))), (q4, .inl (cA, 7, .inl (fun _ => 0))), (q5, .inl (cA, 7, .inl (fun _ => 0)))] := hD
  refine lv_aload_n hx hb dX1_init_52 rfl (lv_at hl 0 rfl) ?_
  refine lv_bipush (v := 7) hx hb dX1_init_53 (by decide) ?_
  refine x_newi hx hb (hts (.arrayClass .int) (by decide +kernel)) hK hP hD hS hA (N' := 7) (by decide) (by decide) (Nat.le_of_ble_eq_true rfl) (Nat.le_of_ble_eq_true rfl) (Nat.le_of_ble_eq_true rfl) dX1_init_55 (fun q6 H hP hD hS => ?_)
  refine W.widen (k := 7) (n := 51) (Nat.le_of_ble_eq_true rfl) (Nat.le_of_ble_eq_true rfl) ?_
  have hP : va_P D vwCl [(h0, .inr (1, [.ref q0, .ref q1, .ref q2, .ref q3, .ref q4, .int 0, .ref q5, .int 0, .null])), (q0, .inl (cA, 8, .inl (fun _ => 0))), (q1, .inl (cA, 8, .inl (fun _ => 0))), (q2, .inl (cA, 7, .inl (fun _ => 0))), (q3, .inl (cA, 7, .inl (fun _ => 0))), (q4, .inl (cA, 7, .inl (fun _ => 0))), (q5, .inl (cA, 7, .inl (fun _ => 0))), (q6, .inl (cA, 7, .inl (fun _ => 0)))] H := hP
  have hD : va_D A [(h0, .inr (1, [.ref q0, .ref q1, .ref q2, .ref q3, .ref q4, .int 0, .ref q5, .int 0, .null])), (q0, .inl (cA, 8, .inl (fun _ => 0))), (q1, .inl (cA, 8, .inl (fun _ => 0))), (q2, .inl (cA, 7, .inl (fun _ => 0))), (q3, .inl (cA, 7, .inl (fun _ => 0))), (q4, .inl (cA, 7, .inl (fun _ => 0))), (q5, .inl (cA, 7, .inl (fun _ => 0))), (q6, .inl (cA, 7, .inl (fun _ => 0)))] := hD
  have hk57_30 := hts (.fieldLink RX1 30 "OvenRound$Cart" "way" "[I") (by decide +kernel)
  refine va_putF (D := D) (ci := 1) (v := .ref q6) (ty := .array .int) (own := RX1) (ref := RX1) (C := RX1) (T := TX1) (N := 9) hx hb hts (by decide +kernel) tyX1 tyX1_ok nmX1 hown hK hP hD hS 0 rfl rfl 8 (by decide) hk57_30 (fun _ h9 => h9) rfl hin rfl (by decide +kernel) rfl rfl (Nat.le_of_ble_eq_true rfl) dX1_init_57 (fun H locs hP hD hS => ?_)
  have hP : va_P D vwCl [(h0, .inr (1, [.ref q0, .ref q1, .ref q2, .ref q3, .ref q4, .int 0, .ref q5, .int 0, .ref q6])), (q0, .inl (cA, 8, .inl (fun _ => 0))), (q1, .inl (cA, 8, .inl (fun _ => 0))), (q2, .inl (cA, 7, .inl (fun _ => 0))), (q3, .inl (cA, 7, .inl (fun _ => 0))), (q4, .inl (cA, 7, .inl (fun _ => 0))), (q5, .inl (cA, 7, .inl (fun _ => 0))), (q6, .inl (cA, 7, .inl (fun _ => 0)))] H := hP
  have hD : va_D A [(h0, .inr (1, [.ref q0, .ref q1, .ref q2, .ref q3, .ref q4, .int 0, .ref q5, .int 0, .ref q6])), (q0, .inl (cA, 8, .inl (fun _ => 0))), (q1, .inl (cA, 8, .inl (fun _ => 0))), (q2, .inl (cA, 7, .inl (fun _ => 0))), (q3, .inl (cA, 7, .inl (fun _ => 0))), (q4, .inl (cA, 7, .inl (fun _ => 0))), (q5, .inl (cA, 7, .inl (fun _ => 0))), (q6, .inl (cA, 7, .inl (fun _ => 0)))] := hD
  refine W.vret hx hb hr (fun t ht hW => ⟨⟨fun k => ([q0, q1, q2, q3, q4, q5, q6] : List Nat).getD k 0, rfl, trivial, by rw [ht]; exact hP, va_K.moved hW.alike hK, hD⟩, hS.F ht⟩) hS.2.2 dX1_init_60

def wX9_init (cA : ClassId) (h0 r1 : Nat) (u : Nat → Nat) : va_W := [(h0, .inr (9, [.ref r1, .ref (u 0), .ref (u 1), .int 0])), (u 0, .inl (cA, 6, .inl (fun _ => 0))), (u 1, .inl (cA, 6, .inl (fun _ => 0)))]
abbrev rmX9_init : Room := { frames := 1, cells := 2, slots := 12, locals := 32 }
set_option maxRecDepth 100000 in
set_option maxHeartbeats 4000000 in
theorem mX9_init {l : Launch} {D : va_G} {cA : ClassId} (h0 r1 sz : Nat) : Met l yX9_init wsX9_init rmX9_init (va_Pc [.ref h0, .ref r1] (fun U => U.heap.size = sz ∧ va_P D vwCl [(h0, .inr (9, [.null, .null, .null, .int 0]))] U.heap ∧ va_K D vwCl [(cA, .int)] U ∧ va_D (fun _ => True) [(h0, .inr (9, [.null, .null, .null, .int 0]))])) (va_Qv (S := Nat → Nat) (fun _ => True) (fun u t => va_P D vwCl (wX9_init cA h0 r1 u) t.heap ∧ va_K D vwCl [(cA, .int)] t ∧ va_D (va_A [(h0, .inr (9, [.null, .null, .null, .int 0]))] sz) (wX9_init cA h0 r1 u)) (va_A [(h0, .inr (9, [.null, .null, .null, .int 0]))] sz)) 2 12 (va_A [(h0, .inr (9, [.null, .null, .null, .int 0]))] sz) := by
  refine Met.ofW (cc := cX9_init) (maxL := 2) (ret := none) (by decide) rfl ?_
  intro p e s m args below meth c s₁ B hml hv
  obtain ⟨rfl, hsz, hP, hK, hD0⟩ := hv
  have hx := B.exec
  have hb := B.bytes
  have hr := B.returns
  have hts := atoms_spec (ws := wsX9_init) B.pre
  have hown : s.vm.findClass RX9 = some m.cls := findClass_of_methodNamed B.named
  have hlocks := B.notSynchronized
  have hin : meth.name = "<init>" := (name_of_methodNamed B.named B.method).1
  subst hsz
  have hD := hD0.self (sz := s.heap.size)
  generalize hAe : va_A [(h0, .inr (9, [.null, .null, .null, .int 0]))] s.heap.size = A at hD ⊢
  have hA : ∀ q : Nat, s.heap.size ≤ q → A q := fun q h => by rw [← hAe]; exact Or.inr h
  have hS : va_S A s.heap s.heap [] := va_S.rf
  have hl := lv_entry ([.ref h0, .ref r1]) (n := 2) (Nat.le_of_ble_eq_true rfl)
  rw [lg_entry_eq]
  generalize (lg_sl ([.ref h0, .ref r1]) ++ List.replicate (2 - (lg_sl ([.ref h0, .ref r1])).length) Slot.unset).toArray = ls at hl ⊢
  have hl : lv_has ls 2 [(0, .ref h0), (1, .ref r1)] := hl
  have hP : va_P D vwCl [(h0, .inr (9, [.null, .null, .null, .int 0]))] s.heap := hP
  refine lv_aload_n hx hb dX9_init_0 rfl (lv_at hl 0 rfl) ?_
  refine W.objInit hx hb hown (hts (.methodLink RX9 3 objectInit) (by decide +kernel)) (hts (.instanceMethod objectInit) (by decide +kernel)) (hts (.code objectInit ⟨#[0xb1]⟩ 1 none) (by decide +kernel)) rfl (by rw [hml]; exact hl.1) rfl dX9_init_1 (Nat.le_of_ble_eq_true rfl) (Nat.le_of_ble_eq_true rfl) ?_
  refine W.eq (g2 := F0 m 4 ls []) rfl ?_
  refine lv_aload_n hx hb dX9_init_4 rfl (lv_at hl 0 rfl) ?_
  refine lv_bipush (v := 6) hx hb dX9_init_5 (by decide) ?_
  refine x_newi hx hb (hts (.arrayClass .int) (by decide +kernel)) hK hP hD hS hA (N' := 6) (by decide) (by decide) (Nat.le_of_ble_eq_true rfl) (Nat.le_of_ble_eq_true rfl) (Nat.le_of_ble_eq_true rfl) dX9_init_7 (fun q0 H hP hD hS => ?_)
  refine W.widen (k := 1) (n := 6) (Nat.le_of_ble_eq_true rfl) (Nat.le_of_ble_eq_true rfl) ?_
  have hP : va_P D vwCl [(h0, .inr (9, [.null, .null, .null, .int 0])), (q0, .inl (cA, 6, .inl (fun _ => 0)))] H := hP
  have hD : va_D A [(h0, .inr (9, [.null, .null, .null, .int 0])), (q0, .inl (cA, 6, .inl (fun _ => 0)))] := hD
  have hk9_9 := hts (.fieldLink RX9 9 "OvenRound$Row" "tried" "[I") (by decide +kernel)
  refine va_putF (D := D) (ci := 9) (v := .ref q0) (ty := .array .int) (own := RX9) (ref := RX9) (C := RX9) (T := TX9) (N := 4) hx hb hts (by decide +kernel) tyX9 tyX9_ok nmX9 hown hK hP hD hS 0 rfl rfl 1 (by decide) hk9_9 (fun _ h9 => h9) rfl hin rfl (by decide +kernel) rfl rfl (Nat.le_of_ble_eq_true rfl) dX9_init_9 (fun H locs hP hD hS => ?_)
  have hP : va_P D vwCl [(h0, .inr (9, [.null, .ref q0, .null, .int 0])), (q0, .inl (cA, 6, .inl (fun _ => 0)))] H := hP
  have hD : va_D A [(h0, .inr (9, [.null, .ref q0, .null, .int 0])), (q0, .inl (cA, 6, .inl (fun _ => 0)))] := hD
  refine lv_aload_n hx hb dX9_init_12 rfl (lv_at hl 0 rfl) ?_
  refine lv_bipush (v := 6) hx hb dX9_init_13 (by decide) ?_
  refine x_newi hx hb (hts (.arrayClass .int) (by decide +kernel)) hK hP hD hS hA (N' := 6) (by decide) (by decide) (Nat.le_of_ble_eq_true rfl) (Nat.le_of_ble_eq_true rfl) (Nat.le_of_ble_eq_true rfl) dX9_init_15 (fun q1 H hP hD hS => ?_)
  refine W.widen (k := 2) (n := 12) (Nat.le_of_ble_eq_true rfl) (Nat.le_of_ble_eq_true rfl) ?_
  have hP : va_P D vwCl [(h0, .inr (9, [.null, .ref q0, .null, .int 0])), (q0, .inl (cA, 6, .inl (fun _ => 0))), (q1, .inl (cA, 6, .inl (fun _ => 0)))] H := hP
  have hD : va_D A [(h0, .inr (9, [.null, .ref q0, .null, .int 0])), (q0, .inl (cA, 6, .inl (fun _ => 0))), (q1, .inl (cA, 6, .inl (fun _ => 0)))] := hD
  have hk17_15 := hts (.fieldLink RX9 15 "OvenRound$Row" "best" "[I") (by decide +kernel)
  refine va_putF (D := D) (ci := 9) (v := .ref q1) (ty := .array .int) (own := RX9) (ref := RX9) (C := RX9) (T := TX9) (N := 4) hx hb hts (by decide +kernel) tyX9 tyX9_ok nmX9 hown hK hP hD hS 0 rfl rfl 2 (by decide) hk17_15 (fun _ h9 => h9) rfl hin rfl (by decide +kernel) rfl rfl (Nat.le_of_ble_eq_true rfl) dX9_init_17 (fun H locs hP hD hS => ?_)
  have hP : va_P D vwCl [(h0, .inr (9, [.null, .ref q0, .ref q1, .int 0])), (q0, .inl (cA, 6, .inl (fun _ => 0))), (q1, .inl (cA, 6, .inl (fun _ => 0)))] H := hP
  have hD : va_D A [(h0, .inr (9, [.null, .ref q0, .ref q1, .int 0])), (q0, .inl (cA, 6, .inl (fun _ => 0))), (q1, .inl (cA, 6, .inl (fun _ => 0)))] := hD
  refine lv_aload_n hx hb dX9_init_20 rfl (lv_at hl 0 rfl) ?_
  refine lv_aload_n hx hb dX9_init_21 rfl (lv_at hl 1 rfl) ?_
  have hk22_18 := hts (.fieldLink RX9 18 "OvenRound$Row" "recipes" "LOvenRound$Recipes;") (by decide +kernel)
  refine va_putF (D := D) (ci := 9) (v := .ref r1) (ty := .object "OvenRound$Recipes") (own := RX9) (ref := RX9) (C := RX9) (T := TX9) (N := 4) hx hb hts (by decide +kernel) tyX9 tyX9_ok nmX9 hown hK hP hD hS 0 rfl rfl 0 (by decide) hk22_18 (fun _ h9 => h9) rfl hin rfl (by decide +kernel) rfl rfl (Nat.le_of_ble_eq_true rfl) dX9_init_22 (fun H locs hP hD hS => ?_)
  have hP : va_P D vwCl [(h0, .inr (9, [.ref r1, .ref q0, .ref q1, .int 0])), (q0, .inl (cA, 6, .inl (fun _ => 0))), (q1, .inl (cA, 6, .inl (fun _ => 0)))] H := hP
  have hD : va_D A [(h0, .inr (9, [.ref r1, .ref q0, .ref q1, .int 0])), (q0, .inl (cA, 6, .inl (fun _ => 0))), (q1, .inl (cA, 6, .inl (fun _ => 0)))] := hD
  refine W.vret hx hb hr (fun t ht hW => ⟨⟨fun k => ([q0, q1] : List Nat).getD k 0, rfl, trivial, by rw [ht]; exact hP, va_K.moved hW.alike hK, hD⟩, hS.F ht⟩) hS.2.2 dX9_init_25

def wX6_init (cA : ClassId) (h0 : Nat) (u : Nat → Nat) : va_W := [(h0, .inr (6, [.ref (u 0), .int 0, .ref (u 1)])), (u 0, .inl (cA, 80, .inl (fun _ => 0))), (u 1, .inl (cA, 8, .inl (fun _ => 0)))]
abbrev rmX6_init : Room := { frames := 1, cells := 2, slots := 88, locals := 32 }
set_option maxRecDepth 100000 in
set_option maxHeartbeats 4000000 in
theorem mX6_init {l : Launch} {D : va_G} {cA : ClassId} (h0 sz : Nat) : Met l yX6_init wsX6_init rmX6_init (va_Pc [.ref h0] (fun U => U.heap.size = sz ∧ va_P D vwCl [(h0, .inr (6, [.null, .int 0, .null]))] U.heap ∧ va_K D vwCl [(cA, .int)] U ∧ va_D (fun _ => True) [(h0, .inr (6, [.null, .int 0, .null]))])) (va_Qv (S := Nat → Nat) (fun _ => True) (fun u t => va_P D vwCl (wX6_init cA h0 u) t.heap ∧ va_K D vwCl [(cA, .int)] t ∧ va_D (va_A [(h0, .inr (6, [.null, .int 0, .null]))] sz) (wX6_init cA h0 u)) (va_A [(h0, .inr (6, [.null, .int 0, .null]))] sz)) 2 88 (va_A [(h0, .inr (6, [.null, .int 0, .null]))] sz) := by
  refine Met.ofW (cc := cX6_init) (maxL := 1) (ret := none) (by decide) rfl ?_
  intro p e s m args below meth c s₁ B hml hv
  obtain ⟨rfl, hsz, hP, hK, hD0⟩ := hv
  have hx := B.exec
  have hb := B.bytes
  have hr := B.returns
  have hts := atoms_spec (ws := wsX6_init) B.pre
  have hown : s.vm.findClass RX6 = some m.cls := findClass_of_methodNamed B.named
  have hlocks := B.notSynchronized
  have hin : meth.name = "<init>" := (name_of_methodNamed B.named B.method).1
  subst hsz
  have hD := hD0.self (sz := s.heap.size)
  generalize hAe : va_A [(h0, .inr (6, [.null, .int 0, .null]))] s.heap.size = A at hD ⊢
  have hA : ∀ q : Nat, s.heap.size ≤ q → A q := fun q h => by rw [← hAe]; exact Or.inr h
  have hS : va_S A s.heap s.heap [] := va_S.rf
  have hl := lv_entry ([.ref h0]) (n := 1) (Nat.le_of_ble_eq_true rfl)
  rw [lg_entry_eq]
  generalize (lg_sl ([.ref h0]) ++ List.replicate (1 - (lg_sl ([.ref h0])).length) Slot.unset).toArray = ls at hl ⊢
  have hl : lv_has ls 1 [(0, .ref h0)] := hl
  have hP : va_P D vwCl [(h0, .inr (6, [.null, .int 0, .null]))] s.heap := hP
  refine lv_aload_n hx hb dX6_init_0 rfl (lv_at hl 0 rfl) ?_
  refine W.objInit hx hb hown (hts (.methodLink RX6 3 objectInit) (by decide +kernel)) (hts (.instanceMethod objectInit) (by decide +kernel)) (hts (.code objectInit ⟨#[0xb1]⟩ 1 none) (by decide +kernel)) rfl (by rw [hml]; exact hl.1) rfl dX6_init_1 (Nat.le_of_ble_eq_true rfl) (Nat.le_of_ble_eq_true rfl) ?_
  refine W.eq (g2 := F0 m 4 ls []) rfl ?_
  refine lv_aload_n hx hb dX6_init_4 rfl (lv_at hl 0 rfl) ?_
  refine lv_bipush (v := 80) hx hb dX6_init_5 (by decide) ?_
  refine x_newi hx hb (hts (.arrayClass .int) (by decide +kernel)) hK hP hD hS hA (N' := 80) (by decide) (by decide) (Nat.le_of_ble_eq_true rfl) (Nat.le_of_ble_eq_true rfl) (Nat.le_of_ble_eq_true rfl) dX6_init_7 (fun q0 H hP hD hS => ?_)
  refine W.widen (k := 1) (n := 80) (Nat.le_of_ble_eq_true rfl) (Nat.le_of_ble_eq_true rfl) ?_
  have hP : va_P D vwCl [(h0, .inr (6, [.null, .int 0, .null])), (q0, .inl (cA, 80, .inl (fun _ => 0)))] H := hP
  have hD : va_D A [(h0, .inr (6, [.null, .int 0, .null])), (q0, .inl (cA, 80, .inl (fun _ => 0)))] := hD
  have hk9_11 := hts (.fieldLink RX6 11 "OvenRound$PartsText" "bytes" "[I") (by decide +kernel)
  refine va_putF (D := D) (ci := 6) (v := .ref q0) (ty := .array .int) (own := RX6) (ref := RX6) (C := RX6) (T := TX6) (N := 3) hx hb hts (by decide +kernel) tyX6 tyX6_ok nmX6 hown hK hP hD hS 0 rfl rfl 0 (by decide) hk9_11 (fun _ h9 => h9) rfl hin rfl (by decide +kernel) rfl rfl (Nat.le_of_ble_eq_true rfl) dX6_init_9 (fun H locs hP hD hS => ?_)
  have hP : va_P D vwCl [(h0, .inr (6, [.ref q0, .int 0, .null])), (q0, .inl (cA, 80, .inl (fun _ => 0)))] H := hP
  have hD : va_D A [(h0, .inr (6, [.ref q0, .int 0, .null])), (q0, .inl (cA, 80, .inl (fun _ => 0)))] := hD
  refine lv_aload_n hx hb dX6_init_12 rfl (lv_at hl 0 rfl) ?_
  refine lv_bipush (v := 8) hx hb dX6_init_13 (by decide) ?_
  refine x_newi hx hb (hts (.arrayClass .int) (by decide +kernel)) hK hP hD hS hA (N' := 8) (by decide) (by decide) (Nat.le_of_ble_eq_true rfl) (Nat.le_of_ble_eq_true rfl) (Nat.le_of_ble_eq_true rfl) dX6_init_15 (fun q1 H hP hD hS => ?_)
  refine W.widen (k := 2) (n := 88) (Nat.le_of_ble_eq_true rfl) (Nat.le_of_ble_eq_true rfl) ?_
  have hP : va_P D vwCl [(h0, .inr (6, [.ref q0, .int 0, .null])), (q0, .inl (cA, 80, .inl (fun _ => 0))), (q1, .inl (cA, 8, .inl (fun _ => 0)))] H := hP
  have hD : va_D A [(h0, .inr (6, [.ref q0, .int 0, .null])), (q0, .inl (cA, 80, .inl (fun _ => 0))), (q1, .inl (cA, 8, .inl (fun _ => 0)))] := hD
  have hk17_15 := hts (.fieldLink RX6 15 "OvenRound$PartsText" "parts" "[I") (by decide +kernel)
  refine va_putF (D := D) (ci := 6) (v := .ref q1) (ty := .array .int) (own := RX6) (ref := RX6) (C := RX6) (T := TX6) (N := 3) hx hb hts (by decide +kernel) tyX6 tyX6_ok nmX6 hown hK hP hD hS 0 rfl rfl 2 (by decide) hk17_15 (fun _ h9 => h9) rfl hin rfl (by decide +kernel) rfl rfl (Nat.le_of_ble_eq_true rfl) dX6_init_17 (fun H locs hP hD hS => ?_)
  have hP : va_P D vwCl [(h0, .inr (6, [.ref q0, .int 0, .ref q1])), (q0, .inl (cA, 80, .inl (fun _ => 0))), (q1, .inl (cA, 8, .inl (fun _ => 0)))] H := hP
  have hD : va_D A [(h0, .inr (6, [.ref q0, .int 0, .ref q1])), (q0, .inl (cA, 80, .inl (fun _ => 0))), (q1, .inl (cA, 8, .inl (fun _ => 0)))] := hD
  refine W.vret hx hb hr (fun t ht hW => ⟨⟨fun k => ([q0, q1] : List Nat).getD k 0, rfl, trivial, by rw [ht]; exact hP, va_K.moved hW.alike hK, hD⟩, hS.F ht⟩) hS.2.2 dX6_init_20
