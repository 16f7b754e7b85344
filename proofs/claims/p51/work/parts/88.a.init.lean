/-! ===== THE LAW'S CONSTRUCTORS ===== -/
theorem ini_range {α : Type} (L M : List α) : (List.range L.length).map (fun i => (L ++ M)[i]?) = L.map some := by
  apply List.ext_getElem?
  intro k
  rw [List.getElem?_map, List.getElem?_map]
  by_cases h : k < L.length
  · rw [List.getElem?_range h]
    show some ((L ++ M)[k]?) = _
    rw [List.getElem?_append_left h, List.getElem?_eq_getElem h]
    rfl
  · rw [List.getElem?_eq_none (by rw [List.length_range]; omega), List.getElem?_eq_none (by omega)]
    rfl
theorem x_perm_P {D : va_G} {cl : List vw_C} {H : Heap} {a b : va_W} (h : va_P D cl a H) (hm : ∀ q ∈ b, q ∈ a) : va_P D cl b H := fun k q hk => by
  obtain ⟨j, hj⟩ := List.getElem?_of_mem (hm q (List.mem_of_getElem? hk))
  exact h j q hj
abbrev rmX12_init : Room := { frames := 1, cells := 0, slots := 0, locals := 40 }
set_option maxRecDepth 100000 in
set_option maxHeartbeats 4000000 in
theorem mX12_init {l : Launch} {D : va_G} {cA : ClassId} {b L : Nat} {xs : Nat → Int32} (h0 sz : Nat) (hbl : b < sz) (hne : b ≠ h0) (hL : L ≤ 260) : Met l yX12_init wsX12_init rmX12_init (va_Pc [.ref h0, .ref b] (fun U => U.heap.size = sz ∧ va_P D vwCl [(h0, .inr (12, [.int 0]))] U.heap ∧ va_K D vwCl [(cA, .int)] U ∧ va_D (fun _ => True) [(h0, .inr (12, [.int 0]))] ∧ va_X b L xs U U.heap)) (va_Qv (S := Int32) (fun _ => True) (fun x t => va_P D vwCl [(h0, .inr (12, [.int x]))] t.heap ∧ va_K D vwCl [(cA, .int)] t ∧ va_D (va_A [(h0, .inr (12, [.int 0]))] sz) [(h0, .inr (12, [.int x]))]) (va_A [(h0, .inr (12, [.int 0]))] sz)) 0 0 (va_A [(h0, .inr (12, [.int 0]))] sz) := by
  refine Met.ofW (cc := cX12_init) (maxL := 6) (ret := none) (by decide) rfl ?_
  intro p e s m args below meth c s₁ B hml hv
  obtain ⟨rfl, hsz, hP, hK, hD0, hXs⟩ := hv
  have hx := B.exec
  have hb := B.bytes
  have hr := B.returns
  have hts := atoms_spec (ws := wsX12_init) B.pre
  have hown : s.vm.findClass RX12 = some m.cls := findClass_of_methodNamed B.named
  have hlocks := B.notSynchronized
  subst hsz
  have hD := hD0.self (sz := s.heap.size)
  have hbA : ¬ va_A [(h0, (.inr (12, [.int 0]) : va_E))] s.heap.size b := by
    intro h
    rcases h with ⟨k, e9, hk⟩ | h
    · match k, hk with
      | 0, hk => exact hne (Prod.mk.inj (Option.some.inj hk)).1.symm
      | j + 1, hk => simp at hk
    · omega
  generalize hAe : va_A [(h0, (.inr (12, [.int 0]) : va_E))] s.heap.size = A at hD hbA ⊢
  have hA : ∀ q : Nat, s.heap.size ≤ q → A q := fun q h => by rw [← hAe]; exact Or.inr h
  have hS : va_S A s.heap s.heap [] := va_S.rf
  have hl := lv_entry ([.ref h0, .ref b]) (n := 6) (Nat.le_of_ble_eq_true rfl)
  rw [lg_entry_eq]
  generalize (lg_sl ([.ref h0, .ref b]) ++ List.replicate (6 - (lg_sl ([.ref h0, .ref b])).length) Slot.unset).toArray = ls at hl ⊢
  have hl : lv_has ls 6 [(0, .ref h0), (1, .ref b)] := hl
  have hP : va_P D vwCl [(h0, .inr (12, [.int 0]))] s.heap := hP
  have hk7 := hts (.fieldLink RX12 7 "OvenRoundLaw$Draws" "x" "I") (by decide +kernel)
  have hiX12 : ∀ w ∈ wsX120, w ∈ wsX12_init := by decide +kernel
  have loop : ∀ (n i : Nat) (x : Int32) (H : Heap) (locs : List Loc) (ls : Array Slot), i + n = L → va_P D vwCl [(h0, .inr (12, [.int x]))] H → va_D A [(h0, .inr (12, [.int x]))] → va_S A s.heap H locs → lv_has ls 6 [(4, .int (nI i)), (3, .int (nI L)), (2, .ref b), (0, .ref h0), (1, .ref b)] → W p l e rmX12_init s m [.ref h0, .ref b].toArray below meth c H locs 0 0 (MQ below (va_Qv (S := Int32) (fun _ => True) (fun x t => va_P D vwCl [(h0, .inr (12, [.int x]))] t.heap ∧ va_K D vwCl [(cA, .int)] t ∧ va_D A [(h0, .inr (12, [.int x]))]) A) [.ref h0, .ref b].toArray s 0 0 A) (F0 m 18 ls []) := by
    intro n
    induction n with
    | zero =>
      intro i x H locs ls hi hP hD hS hl
      obtain rfl : i = L := by omega
      refine lv_iload hx hb dX12_init_18 (lv_at hl 0 rfl) ?_
      refine lv_iload_n hx hb dX12_init_20 rfl (lv_at hl 1 rfl) ?_
      refine lv_icmp_ge (tgt := 52) hx hb dX12_init_21 (by decide) (fun _ => ?_) (fun c1 => absurd (nI_le (Nat.le_refl i) (by omega)) c1)
      exact W.vret hx hb hr (fun t ht hW => ⟨⟨x, rfl, trivial, by rw [ht]; exact hP, va_K.moved hW.alike hK, hD⟩, hS.F ht⟩) hS.2.2 dX12_init_52
    | succ n ih =>
      intro i x H locs ls hi hP hD hS hl
      refine lv_iload hx hb dX12_init_18 (lv_at hl 0 rfl) ?_
      refine lv_iload_n hx hb dX12_init_20 rfl (lv_at hl 1 rfl) ?_
      refine lv_icmp_ge (tgt := 52) hx hb dX12_init_21 (by decide) (fun c1 => absurd c1 (nI_ge (by omega) (by omega))) (fun _ => ?_)
      refine lv_aload_n hx hb dX12_init_24 rfl (lv_at hl 2 rfl) ?_
      refine lv_iload hx hb dX12_init_25 (lv_at hl 0 rfl) ?_
      refine va_sld hx hb hXs hbl hbA hS (nI_in (by omega) (by omega)) dX12_init_27 ?_
      refine lv_topi (fun v ex => ?_)
      refine lv_istore (lv' := [(5, .int v), (4, .int (nI i)), (3, .int (nI L)), (2, .ref b), (0, .ref h0), (1, .ref b)]) hx hb dX12_init_28 hl (by decide) rfl (fun ls hl => ?_)
      refine lv_aload_n hx hb dX12_init_30 rfl (lv_at hl 4 rfl) ?_
      refine lv_aload_n hx hb dX12_init_31 rfl (lv_at hl 4 rfl) ?_
      refine va_get (own := RX12) (ref := RX12) (C := RX12) (T := TX12) (N := 1) hx hb hts hiX12 hown hK hP 0 rfl rfl 0 (by decide) hk7 (fun _ h9 => h9) rfl dX12_init_32 ?_
      refine lv_iload hx hb dX12_init_35 (lv_at hl 0 rfl) ?_
      refine lv_ixor hx hb dX12_init_37 ?_
      refine lv_ldc hx hb hown (hts (.constant RX12 13 (16777619)) (by decide +kernel)) dX12_init_38 ?_
      refine lv_imul hx hb dX12_init_40 ?_
      refine lv_iconst (v := 1) hx hb dX12_init_41 (by decide) ?_
      refine lv_iadd hx hb dX12_init_42 ?_
      refine lv_topi (fun y ey => ?_)
      refine va_put (D := D) (ci := 12) (v := .int y) (ty := .int) (own := RX12) (ref := RX12) (C := RX12) (T := TX12) (N := 1) hx hb hts hiX12 tyX12 tyX12_ok nmX12 hown hK hP hD hS 0 rfl rfl 0 (by decide) hk7 (fun _ h9 => h9) rfl (by decide +kernel) rfl rfl (Nat.le_of_ble_eq_true rfl) dX12_init_43 (fun H locs hP hD hS => ?_)
      refine lv_iinc (v := nI (i + 1)) (lv' := [(4, .int (nI (i + 1))), (5, .int v), (3, .int (nI L)), (2, .ref b), (0, .ref h0), (1, .ref b)]) hx hb dX12_init_46 hl (k := 1) rfl (by rw [nI_succ]; rfl) (by decide) rfl (fun ls hl => ?_)
      refine lv_goto (tgt := 18) hx hb dX12_init_49 (by decide) ?_
      exact ih (i + 1) y H locs ls (by omega) hP hD hS (lv_sub hl [0, 2, 3, 4, 5] rfl)
  refine lv_aload_n hx hb dX12_init_0 rfl (lv_at hl 0 rfl) ?_
  refine W.objInit hx hb hown (hts (.methodLink RX12 1 objectInit) (by decide +kernel)) (hts (.instanceMethod objectInit) (by decide +kernel)) (hts (.code objectInit ⟨#[0xb1]⟩ 1 none) (by decide +kernel)) rfl (by rw [hml]; exact hl.1) rfl dX12_init_1 (Nat.le_of_ble_eq_true rfl) (Nat.le_of_ble_eq_true rfl) ?_
  refine W.eq (g2 := F0 m 4 ls []) rfl ?_
  refine lv_aload_n hx hb dX12_init_4 rfl (lv_at hl 0 rfl) ?_
  refine lv_bipush (v := 17) hx hb dX12_init_5 (by decide) ?_
  refine va_put (D := D) (ci := 12) (v := .int 17) (ty := .int) (own := RX12) (ref := RX12) (C := RX12) (T := TX12) (N := 1) hx hb hts hiX12 tyX12 tyX12_ok nmX12 hown hK hP hD hS 0 rfl rfl 0 (by decide) hk7 (fun _ h9 => h9) rfl (by decide +kernel) rfl rfl (Nat.le_of_ble_eq_true rfl) dX12_init_7 (fun H locs hP hD hS => ?_)
  refine lv_aload_n hx hb dX12_init_10 rfl (lv_at hl 1 rfl) ?_
  refine lv_astore_n (lv' := [(2, .ref b), (0, .ref h0), (1, .ref b)]) hx hb dX12_init_11 rfl hl (by decide) rfl (fun ls hl => ?_)
  refine lv_aload_n hx hb dX12_init_12 rfl (lv_at hl 0 rfl) ?_
  refine va_slen hx hb hXs hbl hbA hS dX12_init_13 ?_
  refine lv_istore_n (lv' := [(3, .int (nI L)), (2, .ref b), (0, .ref h0), (1, .ref b)]) hx hb dX12_init_14 rfl hl (by decide) rfl (fun ls hl => ?_)
  refine lv_iconst (v := 0) hx hb dX12_init_15 (by decide) ?_
  refine lv_istore (lv' := [(4, .int 0), (3, .int (nI L)), (2, .ref b), (0, .ref h0), (1, .ref b)]) hx hb dX12_init_16 hl (by decide) rfl (fun ls hl => ?_)
  exact loop L 0 17 H locs ls (by omega) hP hD hS hl

theorem xBJ_warm {s U : State} (hW : s.WarmedH U.vm) : ∀ w ∈ xBJ, va_Nw w s → va_Nw w U := by
  intro w hw h
  simp only [xBJ, List.mem_cons, List.not_mem_nil, or_false] at hw
  rcases hw with rfl | rfl | rfl | rfl | rfl | rfl | rfl
  all_goals exact va_Nw.warmM hW h
def wL_init (cA : ClassId) (h0 : Nat) (u v : Nat → Nat) (x : Int32) : va_W := (h0, .inr (13, [.ref (v 0), .ref (v 5), .int 0, .int 0, .int 0, .int 0, .ref (v 1), .ref (v 2), .ref (v 3), .ref (v 4)])) :: (((((wX11_init cA (v 0) u ++ [(v 1, .inl (cA, 4, .inl (fun _ => 0)))]) ++ [(v 2, .inl (cA, 4, .inl (fun _ => 0)))]) ++ [(v 3, .inl (cA, 4, .inl (fun _ => 0)))]) ++ [(v 4, .inl (cA, 4, .inl (fun _ => 0)))]) ++ [(v 5, .inr (12, [.int x]))])
abbrev rmL_init : Room := { frames := 3, cells := 57, slots := 2563, locals := 90 }
abbrev lawN : va_E := .inr (13, [.null, .null, .int 0, .int 0, .int 0, .int 0, .null, .null, .null, .null])
set_option maxRecDepth 100000 in
set_option maxHeartbeats 8000000 in
theorem mL_init {l : Launch} {D : va_G} {cA : ClassId} {b L : Nat} {xs : Nat → Int32} (h0 sz : Nat) (hbl : b < sz) (hne : b ≠ h0) (hL : L ≤ 260) : Met l yL_init wsL_init rmL_init (va_Pc [.ref h0, .ref b] (fun U => U.heap.size = sz ∧ va_P D vwCl [(h0, lawN)] U.heap ∧ va_K D vwCl [(cA, .int)] U ∧ va_D (fun _ => True) [(h0, lawN)] ∧ (∀ w ∈ xBJ, va_Nw w U) ∧ va_X b L xs U U.heap)) (va_Qv (S := (Nat → Nat) × (Nat → Nat) × Int32) (fun _ => True) (fun u t => va_P D vwCl (wL_init cA h0 u.1 u.2.1 u.2.2) t.heap ∧ va_K D vwCl [(cA, .int)] t ∧ va_D (va_A [(h0, lawN)] sz) (wL_init cA h0 u.1 u.2.1 u.2.2)) (va_A [(h0, lawN)] sz)) 57 2563 (va_A [(h0, lawN)] sz) := by
  refine Met.ofW (cc := cL_init) (maxL := 2) (ret := none) (by decide) rfl ?_
  intro p e s m args below meth c s₁ B hml hv
  obtain ⟨rfl, hsz, hP, hK, hD0, hBI, hXs⟩ := hv
  have hx := B.exec
  have hb := B.bytes
  have hr := B.returns
  have hts := atoms_spec (ws := wsL_init) B.pre
  have hown : s.vm.findClass RL = some m.cls := findClass_of_methodNamed B.named
  have hlocks := B.notSynchronized
  have hin : meth.name = "<init>" := (name_of_methodNamed B.named B.method).1
  subst hsz
  have hD := hD0.self (sz := s.heap.size)
  have hbA : ¬ va_A [(h0, lawN)] s.heap.size b := by
    intro h
    rcases h with ⟨k, e9, hk⟩ | h
    · match k, hk with
      | 0, hk => exact hne (Prod.mk.inj (Option.some.inj hk)).1.symm
      | j + 1, hk => simp at hk
    · omega
  generalize hAe : va_A [(h0, lawN)] s.heap.size = A at hD hbA ⊢
  have hA : ∀ q : Nat, s.heap.size ≤ q → A q := fun q h => by rw [← hAe]; exact Or.inr h
  have hS : va_S A s.heap s.heap [] := va_S.rf
  have hl := lv_entry ([.ref h0, .ref b]) (n := 2) (Nat.le_of_ble_eq_true rfl)
  rw [lg_entry_eq]
  generalize (lg_sl ([.ref h0, .ref b]) ++ List.replicate (2 - (lg_sl ([.ref h0, .ref b])).length) Slot.unset).toArray = ls at hl ⊢
  have hl : lv_has ls 2 [(0, .ref h0), (1, .ref b)] := hl
  have hP : va_P D vwCl [(h0, lawN)] s.heap := hP
  have hiL : ∀ w ∈ wsL0, w ∈ wsL_init := by decide +kernel
  refine lv_aload_n hx hb dL_init_0 rfl (lv_at hl 0 rfl) ?_
  refine W.objInit hx hb hown (hts (.methodLink RL 1 objectInit) (by decide +kernel)) (hts (.instanceMethod objectInit) (by decide +kernel)) (hts (.code objectInit ⟨#[0xb1]⟩ 1 none) (by decide +kernel)) rfl (by rw [hml]; exact hl.1) rfl dL_init_1 (Nat.le_of_ble_eq_true rfl) (Nat.le_of_ble_eq_true rfl) ?_
  refine W.eq (g2 := F0 m 4 ls []) rfl ?_
  refine lv_aload_n hx hb dL_init_4 rfl (lv_at hl 0 rfl) ?_
  refine va_new (ci := 11) (fs := [.null, .null, .null, .null, .null, .null, .null, .null, .null, .null, .null, .null, .int 0, .int 0]) (C := RX11) (T := TX11) (N := 14) hx hb hts (by decide +kernel) tyX11 tyX11_ok hown (hts (.classLink RL 7 RX11) (by decide +kernel)) (hts (.instantiable RX11 14) (by decide +kernel)) (hts (.initialized RX11) (by decide +kernel)) hK hP hD hS hA rfl (fun j hj => by rcases (show j = 0 ∨ j = 1 ∨ j = 2 ∨ j = 3 ∨ j = 4 ∨ j = 5 ∨ j = 6 ∨ j = 7 ∨ j = 8 ∨ j = 9 ∨ j = 10 ∨ j = 11 ∨ j = 12 ∨ j = 13 by omega) with rfl | rfl | rfl | rfl | rfl | rfl | rfl | rfl | rfl | rfl | rfl | rfl | rfl | rfl <;> rfl) (Nat.le_of_ble_eq_true rfl) (Nat.le_of_ble_eq_true rfl) dL_init_5 (fun q0 H hP hD hS => ?_)
  refine W.widen (k := 1) (n := 14) (Nat.le_of_ble_eq_true rfl) (Nat.le_of_ble_eq_true rfl) ?_
  have hP : va_P D vwCl [(h0, lawN), (q0, .inr (11, [.null, .null, .null, .null, .null, .null, .null, .null, .null, .null, .null, .null, .int 0, .int 0]))] H := hP
  have hD : va_D A [(h0, lawN), (q0, .inr (11, [.null, .null, .null, .null, .null, .null, .null, .null, .null, .null, .null, .null, .int 0, .int 0]))] := hD
  refine lv_dup hx hb dL_init_8 rfl ?_
  have hFc := va_free (wc := [(q0, .inr (11, [.null, .null, .null, .null, .null, .null, .null, .null, .null, .null, .null, .null, .int 0, .int 0]))]) hD hS hA [1] rfl
  have hPc : va_P D vwCl [(q0, .inr (11, [.null, .null, .null, .null, .null, .null, .null, .null, .null, .null, .null, .null, .int 0, .int 0]))] H := hP.sub [1] rfl
  have hDc : va_D A [(q0, .inr (11, [.null, .null, .null, .null, .null, .null, .null, .null, .null, .null, .null, .null, .int 0, .int 0]))] := hD.sub [1] (by decide) rfl
  refine va_callv (va_runI (As := []) (rest := [.ref q0, .ref h0]) ⟨hx, hb, hml, hown, hts⟩ (mX11_initJ (l := l) (D := D) (cA := cA) q0 H.size) (cwI 0 hts gL_init_X11_init rfl rfl rfl (hts (.initialized RX11) (by decide +kernel)) (hts (.methodLink RL 9 yX11_init) (by decide +kernel)) (hts (.instanceMethod yX11_init) (by decide +kernel)) rfl (by decide +kernel) ⟨(Nat.le_of_ble_eq_true rfl), (Nat.le_of_ble_eq_true rfl)⟩) ⟨fun a U g9 mk q => by obtain ⟨q0, q1, qP, qK, qD, qB⟩ := q; exact ⟨q0, q1, qP, va_K.moved (u := U) (U := U.calling g9 mk a) (Vm.Alike.refl U.vm) qK, qD, fun w hw => va_Nw.same (u := U) (U := U.calling g9 mk a) (xBJ_on w hw) rfl (qB w hw)⟩, fun U hU hW => ⟨rfl, by rw [hU], by rw [hU]; exact hPc, va_K.moved hW.alike hK, hDc.weaken (fun _ _ _ _ => trivial), fun w hw => xBJ_warm hW w hw (hBI w hw)⟩⟩ rfl rfl hl.1 rfl (lv_room (Nat.le_of_ble_eq_true rfl)) dL_init_9 ⟨(Nat.le_of_ble_eq_true rfl), (Nat.le_of_ble_eq_true rfl)⟩) hS (fun q _ h => hFc q h) hFc (fun u1 t H1 locs ht hvm hpost hB9 hz1 hk1 hS => ?_)
  obtain ⟨hP1, hK1, hD1⟩ := hB9
  rw [ht] at hP1
  obtain ⟨hP, hD⟩ := va_join (wr := [(h0, lawN)]) (w1 := wX11_init cA q0 u1) hP hD [1] [0] rfl rfl (by decide) (by decide) hk1 hFc hP1 hD1
  generalize H1 = H at hP hS ⊢
  refine W.widen (k := 52) (n := 2546) (Nat.le_of_ble_eq_true rfl) (Nat.le_of_ble_eq_true rfl) ?_
  have z1 : (wX11_init cA q0 u1).length = 52 := rfl
  generalize hW1 : wX11_init cA q0 u1 = W1 at hP hD z1
  have hP : va_P D vwCl ((h0, lawN) :: W1) H := hP
  have hD : va_D A ((h0, lawN) :: W1) := hD
  refine va_putF (D := D) (ci := 13) (v := .ref q0) (ty := .object "OvenRound") (own := RL) (ref := RL) (C := RL) (T := TL) (N := 10) hx hb hts hiL tyL tyL_ok nmL hown hK hP hD hS 0 rfl rfl 0 (by decide) (hts (.fieldLink RL 10 "OvenRoundLaw" "o" "LOvenRound;") (by decide +kernel)) (fun _ h9 => h9) rfl hin rfl (by decide +kernel) rfl rfl (Nat.le_of_ble_eq_true rfl) dL_init_12 (fun H locs hP hD hS => ?_)
  have hP : va_P D vwCl ((h0, .inr (13, [.ref q0, .null, .int 0, .int 0, .int 0, .int 0, .null, .null, .null, .null])) :: W1) H := hP
  have hD : va_D A ((h0, .inr (13, [.ref q0, .null, .int 0, .int 0, .int 0, .int 0, .null, .null, .null, .null])) :: W1) := hD
  refine lv_aload_n hx hb dL_init_15 rfl (lv_at hl 0 rfl) ?_
  refine lv_iconst (v := 4) hx hb dL_init_16 (by decide) ?_
  refine x_newi hx hb (hts (.arrayClass .int) (by decide +kernel)) hK hP hD hS hA (N' := 4) (by decide) (by decide) (Nat.le_of_ble_eq_true rfl) (Nat.le_of_ble_eq_true rfl) (Nat.le_of_ble_eq_true rfl) dL_init_17 (fun a1 H hP hD hS => ?_)
  refine W.widen (k := 53) (n := 2550) (Nat.le_of_ble_eq_true rfl) (Nat.le_of_ble_eq_true rfl) ?_
  have hP : va_P D vwCl ((h0, .inr (13, [.ref q0, .null, .int 0, .int 0, .int 0, .int 0, .null, .null, .null, .null])) :: (W1 ++ [(a1, .inl (cA, 4, .inl (fun _ => 0)))])) H := hP
  have hD : va_D A ((h0, .inr (13, [.ref q0, .null, .int 0, .int 0, .int 0, .int 0, .null, .null, .null, .null])) :: (W1 ++ [(a1, .inl (cA, 4, .inl (fun _ => 0)))])) := hD
  refine va_putF (D := D) (ci := 13) (v := .ref a1) (ty := .array .int) (own := RL) (ref := RL) (C := RL) (T := TL) (N := 10) hx hb hts hiL tyL tyL_ok nmL hown hK hP hD hS 0 rfl rfl 6 (by decide) (hts (.fieldLink RL 16 "OvenRoundLaw" "low" "[I") (by decide +kernel)) (fun _ h9 => h9) rfl hin rfl (by decide +kernel) rfl rfl (Nat.le_of_ble_eq_true rfl) dL_init_19 (fun H locs hP hD hS => ?_)
  have hP : va_P D vwCl ((h0, .inr (13, [.ref q0, .null, .int 0, .int 0, .int 0, .int 0, .ref a1, .null, .null, .null])) :: (W1 ++ [(a1, .inl (cA, 4, .inl (fun _ => 0)))])) H := hP
  have hD : va_D A ((h0, .inr (13, [.ref q0, .null, .int 0, .int 0, .int 0, .int 0, .ref a1, .null, .null, .null])) :: (W1 ++ [(a1, .inl (cA, 4, .inl (fun _ => 0)))])) := hD
  refine lv_aload_n hx hb dL_init_22 rfl (lv_at hl 0 rfl) ?_
  refine lv_iconst (v := 4) hx hb dL_init_23 (by decide) ?_
  refine x_newi hx hb (hts (.arrayClass .int) (by decide +kernel)) hK hP hD hS hA (N' := 4) (by decide) (by decide) (Nat.le_of_ble_eq_true rfl) (Nat.le_of_ble_eq_true rfl) (Nat.le_of_ble_eq_true rfl) dL_init_24 (fun a2 H hP hD hS => ?_)
  refine W.widen (k := 54) (n := 2554) (Nat.le_of_ble_eq_true rfl) (Nat.le_of_ble_eq_true rfl) ?_
  have hP : va_P D vwCl ((h0, .inr (13, [.ref q0, .null, .int 0, .int 0, .int 0, .int 0, .ref a1, .null, .null, .null])) :: ((W1 ++ [(a1, .inl (cA, 4, .inl (fun _ => 0)))]) ++ [(a2, .inl (cA, 4, .inl (fun _ => 0)))])) H := hP
  have hD : va_D A ((h0, .inr (13, [.ref q0, .null, .int 0, .int 0, .int 0, .int 0, .ref a1, .null, .null, .null])) :: ((W1 ++ [(a1, .inl (cA, 4, .inl (fun _ => 0)))]) ++ [(a2, .inl (cA, 4, .inl (fun _ => 0)))])) := hD
  refine va_putF (D := D) (ci := 13) (v := .ref a2) (ty := .array .int) (own := RL) (ref := RL) (C := RL) (T := TL) (N := 10) hx hb hts hiL tyL tyL_ok nmL hown hK hP hD hS 0 rfl rfl 7 (by decide) (hts (.fieldLink RL 20 "OvenRoundLaw" "high" "[I") (by decide +kernel)) (fun _ h9 => h9) rfl hin rfl (by decide +kernel) rfl rfl (Nat.le_of_ble_eq_true rfl) dL_init_26 (fun H locs hP hD hS => ?_)
  have hP : va_P D vwCl ((h0, .inr (13, [.ref q0, .null, .int 0, .int 0, .int 0, .int 0, .ref a1, .ref a2, .null, .null])) :: ((W1 ++ [(a1, .inl (cA, 4, .inl (fun _ => 0)))]) ++ [(a2, .inl (cA, 4, .inl (fun _ => 0)))])) H := hP
  have hD : va_D A ((h0, .inr (13, [.ref q0, .null, .int 0, .int 0, .int 0, .int 0, .ref a1, .ref a2, .null, .null])) :: ((W1 ++ [(a1, .inl (cA, 4, .inl (fun _ => 0)))]) ++ [(a2, .inl (cA, 4, .inl (fun _ => 0)))])) := hD
  refine lv_aload_n hx hb dL_init_29 rfl (lv_at hl 0 rfl) ?_
  refine lv_iconst (v := 4) hx hb dL_init_30 (by decide) ?_
  refine x_newi hx hb (hts (.arrayClass .int) (by decide +kernel)) hK hP hD hS hA (N' := 4) (by decide) (by decide) (Nat.le_of_ble_eq_true rfl) (Nat.le_of_ble_eq_true rfl) (Nat.le_of_ble_eq_true rfl) dL_init_31 (fun a3 H hP hD hS => ?_)
  refine W.widen (k := 55) (n := 2558) (Nat.le_of_ble_eq_true rfl) (Nat.le_of_ble_eq_true rfl) ?_
  have hP : va_P D vwCl ((h0, .inr (13, [.ref q0, .null, .int 0, .int 0, .int 0, .int 0, .ref a1, .ref a2, .null, .null])) :: (((W1 ++ [(a1, .inl (cA, 4, .inl (fun _ => 0)))]) ++ [(a2, .inl (cA, 4, .inl (fun _ => 0)))]) ++ [(a3, .inl (cA, 4, .inl (fun _ => 0)))])) H := hP
  have hD : va_D A ((h0, .inr (13, [.ref q0, .null, .int 0, .int 0, .int 0, .int 0, .ref a1, .ref a2, .null, .null])) :: (((W1 ++ [(a1, .inl (cA, 4, .inl (fun _ => 0)))]) ++ [(a2, .inl (cA, 4, .inl (fun _ => 0)))]) ++ [(a3, .inl (cA, 4, .inl (fun _ => 0)))])) := hD
  refine va_putF (D := D) (ci := 13) (v := .ref a3) (ty := .array .int) (own := RL) (ref := RL) (C := RL) (T := TL) (N := 10) hx hb hts hiL tyL tyL_ok nmL hown hK hP hD hS 0 rfl rfl 8 (by decide) (hts (.fieldLink RL 23 "OvenRoundLaw" "wait" "[I") (by decide +kernel)) (fun _ h9 => h9) rfl hin rfl (by decide +kernel) rfl rfl (Nat.le_of_ble_eq_true rfl) dL_init_33 (fun H locs hP hD hS => ?_)
  have hP : va_P D vwCl ((h0, .inr (13, [.ref q0, .null, .int 0, .int 0, .int 0, .int 0, .ref a1, .ref a2, .ref a3, .null])) :: (((W1 ++ [(a1, .inl (cA, 4, .inl (fun _ => 0)))]) ++ [(a2, .inl (cA, 4, .inl (fun _ => 0)))]) ++ [(a3, .inl (cA, 4, .inl (fun _ => 0)))])) H := hP
  have hD : va_D A ((h0, .inr (13, [.ref q0, .null, .int 0, .int 0, .int 0, .int 0, .ref a1, .ref a2, .ref a3, .null])) :: (((W1 ++ [(a1, .inl (cA, 4, .inl (fun _ => 0)))]) ++ [(a2, .inl (cA, 4, .inl (fun _ => 0)))]) ++ [(a3, .inl (cA, 4, .inl (fun _ => 0)))])) := hD
  refine lv_aload_n hx hb dL_init_36 rfl (lv_at hl 0 rfl) ?_
  refine lv_iconst (v := 4) hx hb dL_init_37 (by decide) ?_
  refine x_newi hx hb (hts (.arrayClass .int) (by decide +kernel)) hK hP hD hS hA (N' := 4) (by decide) (by decide) (Nat.le_of_ble_eq_true rfl) (Nat.le_of_ble_eq_true rfl) (Nat.le_of_ble_eq_true rfl) dL_init_38 (fun a4 H hP hD hS => ?_)
  refine W.widen (k := 56) (n := 2562) (Nat.le_of_ble_eq_true rfl) (Nat.le_of_ble_eq_true rfl) ?_
  have hP : va_P D vwCl ((h0, .inr (13, [.ref q0, .null, .int 0, .int 0, .int 0, .int 0, .ref a1, .ref a2, .ref a3, .null])) :: ((((W1 ++ [(a1, .inl (cA, 4, .inl (fun _ => 0)))]) ++ [(a2, .inl (cA, 4, .inl (fun _ => 0)))]) ++ [(a3, .inl (cA, 4, .inl (fun _ => 0)))]) ++ [(a4, .inl (cA, 4, .inl (fun _ => 0)))])) H := hP
  have hD : va_D A ((h0, .inr (13, [.ref q0, .null, .int 0, .int 0, .int 0, .int 0, .ref a1, .ref a2, .ref a3, .null])) :: ((((W1 ++ [(a1, .inl (cA, 4, .inl (fun _ => 0)))]) ++ [(a2, .inl (cA, 4, .inl (fun _ => 0)))]) ++ [(a3, .inl (cA, 4, .inl (fun _ => 0)))]) ++ [(a4, .inl (cA, 4, .inl (fun _ => 0)))])) := hD
  refine va_putF (D := D) (ci := 13) (v := .ref a4) (ty := .array .int) (own := RL) (ref := RL) (C := RL) (T := TL) (N := 10) hx hb hts hiL tyL tyL_ok nmL hown hK hP hD hS 0 rfl rfl 9 (by decide) (hts (.fieldLink RL 26 "OvenRoundLaw" "allergens" "[I") (by decide +kernel)) (fun _ h9 => h9) rfl hin rfl (by decide +kernel) rfl rfl (Nat.le_of_ble_eq_true rfl) dL_init_40 (fun H locs hP hD hS => ?_)
  have hP : va_P D vwCl ((h0, .inr (13, [.ref q0, .null, .int 0, .int 0, .int 0, .int 0, .ref a1, .ref a2, .ref a3, .ref a4])) :: ((((W1 ++ [(a1, .inl (cA, 4, .inl (fun _ => 0)))]) ++ [(a2, .inl (cA, 4, .inl (fun _ => 0)))]) ++ [(a3, .inl (cA, 4, .inl (fun _ => 0)))]) ++ [(a4, .inl (cA, 4, .inl (fun _ => 0)))])) H := hP
  have hD : va_D A ((h0, .inr (13, [.ref q0, .null, .int 0, .int 0, .int 0, .int 0, .ref a1, .ref a2, .ref a3, .ref a4])) :: ((((W1 ++ [(a1, .inl (cA, 4, .inl (fun _ => 0)))]) ++ [(a2, .inl (cA, 4, .inl (fun _ => 0)))]) ++ [(a3, .inl (cA, 4, .inl (fun _ => 0)))]) ++ [(a4, .inl (cA, 4, .inl (fun _ => 0)))])) := hD
  refine lv_aload_n hx hb dL_init_43 rfl (lv_at hl 0 rfl) ?_
  refine va_new (ci := 12) (fs := [.int 0]) (C := RX12) (T := TX12) (N := 1) hx hb hts (by decide +kernel) tyX12 tyX12_ok hown (hts (.classLink RL 29 RX12) (by decide +kernel)) (hts (.instantiable RX12 1) (by decide +kernel)) (hts (.initialized RX12) (by decide +kernel)) hK hP hD hS hA rfl (fun j hj => by rcases (show j = 0 by omega) with rfl; rfl) (Nat.le_of_ble_eq_true rfl) (Nat.le_of_ble_eq_true rfl) dL_init_44 (fun d H hP hD hS => ?_)
  refine W.widen (k := 57) (n := 2563) (Nat.le_of_ble_eq_true rfl) (Nat.le_of_ble_eq_true rfl) ?_
  refine lv_dup hx hb dL_init_47 rfl ?_
  refine lv_aload_n hx hb dL_init_48 rfl (lv_at hl 1 rfl) ?_
  have z2 : ((h0, .inr (13, [.ref q0, .null, .int 0, .int 0, .int 0, .int 0, .ref a1, .ref a2, .ref a3, .ref a4])) :: ((((W1 ++ [(a1, .inl (cA, 4, .inl (fun _ => 0)))]) ++ [(a2, .inl (cA, 4, .inl (fun _ => 0)))]) ++ [(a3, .inl (cA, 4, .inl (fun _ => 0)))]) ++ [(a4, .inl (cA, 4, .inl (fun _ => 0)))])).length = 57 := by simp [z1]
  generalize hW2 : ((h0, .inr (13, [.ref q0, .null, .int 0, .int 0, .int 0, .int 0, .ref a1, .ref a2, .ref a3, .ref a4])) :: ((((W1 ++ [(a1, .inl (cA, 4, .inl (fun _ => 0)))]) ++ [(a2, .inl (cA, 4, .inl (fun _ => 0)))]) ++ [(a3, .inl (cA, 4, .inl (fun _ => 0)))]) ++ [(a4, .inl (cA, 4, .inl (fun _ => 0)))])) = W2 at hP hD z2
  have e1 : [W2.length].map (fun i => (W2 ++ [(d, (.inr (12, [.int 0]) : va_E))])[i]?) = [(d, (.inr (12, [.int 0]) : va_E))].map some := by simp
  have e2 : (List.range W2.length).map (fun i => (W2 ++ [(d, (.inr (12, [.int 0]) : va_E))])[i]?) = W2.map some := ini_range W2 _
  have e3 : [W2.length].filterMap (fun i => (W2 ++ [(d, (.inr (12, [.int 0]) : va_E))])[i]?) = [(d, (.inr (12, [.int 0]) : va_E))] := by simp
  have hPc := hP.sub [W2.length] e3
  have hDc := hD.sub [W2.length] (by rw [z2]; decide) e1
  have hFc := va_free (wc := [(d, (.inr (12, [.int 0]) : va_E))]) hD hS hA [W2.length] e1
  have hdA : A d := hD.2 W2.length (d, (.inr (12, [.int 0]) : va_E)) (by simp)
  have hbd : b ≠ d := fun h => hbA (by rw [h]; exact hdA)
  have hbH : b < H.size := Nat.lt_of_lt_of_le hbl hS.1
  refine va_callv (va_runI (As := [.ref b]) (rest := [.ref d, .ref h0]) ⟨hx, hb, hml, hown, hts⟩ (mX12_init (l := l) (D := D) (cA := cA) (b := b) (L := L) (xs := xs) d H.size hbH hbd hL) (cwI 1 hts gL_init_X12_init rfl rfl rfl (hts (.initialized RX12) (by decide +kernel)) (hts (.methodLink RL 31 yX12_init) (by decide +kernel)) (hts (.instanceMethod yX12_init) (by decide +kernel)) rfl (by decide +kernel) ⟨(Nat.le_of_ble_eq_true rfl), (Nat.le_of_ble_eq_true rfl)⟩) ⟨fun a U g9 mk q => by obtain ⟨q0, q1, qP, qK, qD, qX⟩ := q; exact ⟨q0, q1, qP, va_K.moved (u := U) (U := U.calling g9 mk a) (Vm.Alike.refl U.vm) qK, qD, va_X.moved (u := U) (U := U.calling g9 mk a) (Vm.Alike.refl U.vm) qX⟩, fun U hU hW => ⟨rfl, by rw [hU], by rw [hU]; exact hPc, va_K.moved hW.alike hK, hDc.weaken (fun _ _ _ _ => trivial), by rw [hU]; exact va_X.moved hW.alike (hXs.kept (hS.2.1 b hbl hbA))⟩⟩ rfl rfl hl.1 rfl (lv_room (Nat.le_of_ble_eq_true rfl)) dL_init_49 ⟨(Nat.le_of_ble_eq_true rfl), (Nat.le_of_ble_eq_true rfl)⟩) hS (fun q _ h => hFc q h) hFc (fun x1 t H1 locs ht hvm hpost hB9 hz1 hk1 hS => ?_)
  obtain ⟨hP1, hK1, hD1⟩ := hB9
  rw [ht] at hP1
  obtain ⟨hP, hD⟩ := va_join (wr := W2) (w1 := [(d, .inr (12, [.int x1]))]) hP hD [W2.length] (List.range W2.length) e1 e2 (by rw [z2]; decide +kernel) (fun i hi h9 => by rw [List.mem_singleton] at h9; rw [List.mem_range] at hi; omega) hk1 hFc hP1 hD1
  generalize H1 = H at hP hS ⊢
  rw [← hW2] at hP hD
  have hP : va_P D vwCl ((h0, .inr (13, [.ref q0, .null, .int 0, .int 0, .int 0, .int 0, .ref a1, .ref a2, .ref a3, .ref a4])) :: (((((W1 ++ [(a1, .inl (cA, 4, .inl (fun _ => 0)))]) ++ [(a2, .inl (cA, 4, .inl (fun _ => 0)))]) ++ [(a3, .inl (cA, 4, .inl (fun _ => 0)))]) ++ [(a4, .inl (cA, 4, .inl (fun _ => 0)))]) ++ [(d, .inr (12, [.int x1]))])) H := hP
  have hD : va_D A ((h0, .inr (13, [.ref q0, .null, .int 0, .int 0, .int 0, .int 0, .ref a1, .ref a2, .ref a3, .ref a4])) :: (((((W1 ++ [(a1, .inl (cA, 4, .inl (fun _ => 0)))]) ++ [(a2, .inl (cA, 4, .inl (fun _ => 0)))]) ++ [(a3, .inl (cA, 4, .inl (fun _ => 0)))]) ++ [(a4, .inl (cA, 4, .inl (fun _ => 0)))]) ++ [(d, .inr (12, [.int x1]))])) := hD
  refine va_putF (D := D) (ci := 13) (v := .ref d) (ty := .object "OvenRoundLaw$Draws") (own := RL) (ref := RL) (C := RL) (T := TL) (N := 10) hx hb hts hiL tyL tyL_ok nmL hown hK hP hD hS 0 rfl rfl 1 (by decide) (hts (.fieldLink RL 34 "OvenRoundLaw" "d" "LOvenRoundLaw$Draws;") (by decide +kernel)) (fun _ h9 => h9) rfl hin rfl (by decide +kernel) rfl rfl (Nat.le_of_ble_eq_true rfl) dL_init_52 (fun H locs hP hD hS => ?_)
  have hP : va_P D vwCl ((h0, .inr (13, [.ref q0, .ref d, .int 0, .int 0, .int 0, .int 0, .ref a1, .ref a2, .ref a3, .ref a4])) :: (((((W1 ++ [(a1, .inl (cA, 4, .inl (fun _ => 0)))]) ++ [(a2, .inl (cA, 4, .inl (fun _ => 0)))]) ++ [(a3, .inl (cA, 4, .inl (fun _ => 0)))]) ++ [(a4, .inl (cA, 4, .inl (fun _ => 0)))]) ++ [(d, .inr (12, [.int x1]))])) H := hP
  have hD : va_D A ((h0, .inr (13, [.ref q0, .ref d, .int 0, .int 0, .int 0, .int 0, .ref a1, .ref a2, .ref a3, .ref a4])) :: (((((W1 ++ [(a1, .inl (cA, 4, .inl (fun _ => 0)))]) ++ [(a2, .inl (cA, 4, .inl (fun _ => 0)))]) ++ [(a3, .inl (cA, 4, .inl (fun _ => 0)))]) ++ [(a4, .inl (cA, 4, .inl (fun _ => 0)))]) ++ [(d, .inr (12, [.int x1]))])) := hD
  rw [← hW1] at hP hD
  refine W.widen (k := 57) (n := 2563) (Nat.le_of_ble_eq_true rfl) (Nat.le_of_ble_eq_true rfl) ?_
  refine W.vret hx hb hr (fun t ht hW => ⟨⟨(u1, (fun k => ([q0, a1, a2, a3, a4, d] : List Nat).getD k 0), x1), rfl, trivial, by rw [ht]; exact hP, va_K.moved hW.alike hK, hD⟩, hS.F ht⟩) hS.2.2 dL_init_55
