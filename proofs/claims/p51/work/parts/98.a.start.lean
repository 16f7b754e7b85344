/-! ===== THE LAW, FROM ITS ENTRY ===== -/
set_option maxRecDepth 100000 in
set_option maxHeartbeats 8000000 in
theorem law_start {p : Program} {l : Launch} {e : Env} {s : State} {m : MethodId} {below : List Frame} {meth : Method} {c : Code} {b L : Nat} {xs : Nat → Int32} (hl0 : l.stackTraces = false) (hx : p.tables.exec = Jvm.exec) (hb : c.code = cL_law) (hr : meth.sig.returnType = ret) (hlocks : meth.locks = false) (hml : c.maxLocals = 1) (hown : s.vm.findClass RL = some m.cls) (htb : ∀ w ∈ lw_tbl, w.before #[Value.ref b] s = true) (hXs : va_X b L xs s s.heap) (hbl : b < s.heap.size) (hL : L ≤ 260) (hgv : (Jvm.Cond.and given_1 narrow_1).before #[Value.ref b] s = true) (hpure : ∀ x : Int32, ∃ σ', fL_holds (iniL x) = some (1, σ')) : W p l e room_1 s m #[Value.ref b] below meth c s.heap [] 0 0 (lw_Z below #[Value.ref b] s) (entryFrame m ([Value.ref b] : List Value).toArray 1) := by
  have ht2 := lw_tbl2_ok htb
  obtain ⟨g, hG⟩ := ini_GL htb hgv
  obtain ⟨D, cA, hK⟩ := ini_K htb
  have hBI : ∀ w ∈ xBJ, va_Nw w s := fun w hw => va_Nw.of (xBJ_on w hw) (htb w (ini_bw w (List.mem_append.mpr (Or.inr hw))))
  have hA : ∀ q : Nat, s.heap.size ≤ q → (fun q : Nat => s.heap.size ≤ q) q := fun _ h => h
  have hS : va_S (fun q : Nat => s.heap.size ≤ q) s.heap s.heap [] := va_S.rf
  have hP : va_P D vwCl [] s.heap := fun k q h => by simp at h
  have hD : va_D (fun q : Nat => s.heap.size ≤ q) [] := ⟨fun i j p q h => by simp at h, fun k q h => by simp at h⟩
  have hl := lv_entry ([.ref b]) (n := 1) (Nat.le_of_ble_eq_true rfl)
  rw [lg_entry_eq]
  generalize (lg_sl ([.ref b]) ++ List.replicate (1 - (lg_sl ([.ref b])).length) Slot.unset).toArray = ls at hl ⊢
  have hl : lv_has ls 1 [(0, .ref b)] := hl
  refine va_new (ci := 13) (fs := [.null, .null, .int 0, .int 0, .int 0, .int 0, .null, .null, .null, .null]) (C := RL) (T := TL) (N := 10) hx hb htb inL tyL tyL_ok hown (htb (.classLink RL 11 RL) (by decide +kernel)) (htb (.instantiable RL 10) (by decide +kernel)) (htb (.initialized RL) (by decide +kernel)) hK hP hD hS hA rfl (fun j hj => by rcases (show j = 0 ∨ j = 1 ∨ j = 2 ∨ j = 3 ∨ j = 4 ∨ j = 5 ∨ j = 6 ∨ j = 7 ∨ j = 8 ∨ j = 9 by omega) with rfl | rfl | rfl | rfl | rfl | rfl | rfl | rfl | rfl | rfl <;> rfl) (Nat.le_of_ble_eq_true rfl) (Nat.le_of_ble_eq_true rfl) dL_law_0 (fun h0 H hP hD hS => ?_)
  have hP : va_P D vwCl [(h0, lawN)] H := hP
  have hD : va_D (fun q : Nat => s.heap.size ≤ q) [(h0, lawN)] := hD
  refine W.widen (k := 1) (n := 10) (Nat.le_of_ble_eq_true rfl) (Nat.le_of_ble_eq_true rfl) ?_
  refine lv_dup hx hb dL_law_3 rfl ?_
  refine lv_aload_n hx hb dL_law_4 rfl (lv_at hl 0 rfl) ?_
  have hFc := va_free (wc := [(h0, lawN)]) hD hS hA [0] rfl
  have hbA : ¬ (fun q : Nat => s.heap.size ≤ q) b := Nat.not_le.mpr hbl
  have hbH : b < H.size := Nat.lt_of_lt_of_le hbl hS.1
  have hne : b ≠ h0 := fun h => hbA (by rw [h]; exact hD.2 0 (h0, lawN) rfl)
  refine va_callv (va_runI (As := [.ref b]) (rest := [.ref h0]) ⟨hx, hb, hml, hown, ht2⟩ (mL_init (l := l) (D := D) (cA := cA) (b := b) (L := L) (xs := xs) h0 H.size hbH hne hL) (cwI 1 ht2 lt_wsL_init rfl rfl rfl (htb (.initialized RL) (by decide +kernel)) (htb (.methodLink RL 325 yL_init) (by decide +kernel)) (htb (.instanceMethod yL_init) (by decide +kernel)) rfl (by decide +kernel) ⟨(Nat.le_of_ble_eq_true rfl), (Nat.le_of_ble_eq_true rfl)⟩) ⟨fun a U g9 mk q => by obtain ⟨q0, q1, qP, qK, qD, qB, qX⟩ := q; exact ⟨q0, q1, qP, va_K.moved (u := U) (U := U.calling g9 mk a) (Vm.Alike.refl U.vm) qK, qD, fun w hw => va_Nw.same (u := U) (U := U.calling g9 mk a) (xBJ_on w hw) rfl (qB w hw), va_X.moved (u := U) (U := U.calling g9 mk a) (Vm.Alike.refl U.vm) qX⟩, fun U hU hW => ⟨rfl, by rw [hU], by rw [hU]; exact hP, va_K.moved hW.alike hK, hD.weaken (fun _ _ _ _ => trivial), fun w hw => xBJ_warm hW w hw (hBI w hw), by rw [hU]; exact va_X.moved hW.alike (hXs.kept (hS.2.1 b hbl hbA))⟩⟩ rfl rfl hl.1 rfl (lv_room (Nat.le_of_ble_eq_true rfl)) dL_law_5 ⟨(Nat.le_of_ble_eq_true rfl), (Nat.le_of_ble_eq_true rfl)⟩) hS (fun q _ h => hFc q h) hFc (fun u t H1 locs ht hvm hpost hB9 hz1 hk1 hS => ?_)
  obtain ⟨hP1, hK1, hD1⟩ := hB9
  rw [ht] at hP1
  obtain ⟨hP, hD⟩ := va_join (wr := []) (w1 := wL_init cA h0 u.1 u.2.1 u.2.2) hP hD [0] [] rfl rfl (by decide) (by decide) hk1 hFc hP1 hD1
  generalize H1 = H at hP hS ⊢
  have hP : va_P D vwCl (wL_init cA h0 u.1 u.2.1 u.2.2) H := hP
  have hD : va_D (fun q : Nat => s.heap.size ≤ q) (wL_init cA h0 u.1 u.2.1 u.2.2) := hD
  have pm := iniL_perm cA h0 u.1 u.2.1 u.2.2
  have hw : xw (D, aLaw h0 u.1 u.2.1, cA, shX ++ shLw, [], g) (fun q : Nat => s.heap.size ≤ q) s.heap s (iniL u.2.2) H locs := ⟨hK, x_perm_P hP (fun q hq => pm.mem_iff.mpr hq), x_perm_D hD pm, hS⟩
  have hE : xLE (D, aLaw h0 u.1 u.2.1, cA, shX ++ shLw, [], g) := ⟨[], (List.append_nil _).symm⟩
  obtain ⟨σ', hp⟩ := hpure u.2.2
  refine W.widen (k := 58) (n := 2573) (Nat.le_of_ble_eq_true rfl) (Nat.le_of_ble_eq_true rfl) ?_
  refine x_callLi (va_runV (As := []) (rest := []) ⟨hx, hb, hml, hown, ht2⟩ (mL_holds hl0 hE (iniL u.2.2) 1 σ' hp H.size) (cwV 0 ht2 (goodIn_app (goodIn_up (goodIn_of _ (by decide +kernel))) lt_wsL_holds) rfl rfl rfl (by decide +kernel) ⟨(Nat.le_of_ble_eq_true rfl), (Nat.le_of_ble_eq_true rfl)⟩) (x_preLV _ hw hA hG (cL52 hE) rfl) rfl rfl hl.1 rfl (lv_room (Nat.le_of_ble_eq_true rfl)) dL_law_8 ⟨(Nat.le_of_ble_eq_true rfl), (Nat.le_of_ble_eq_true rfl)⟩) hw hA (fun H locs hw => ?_)
  refine W.widen (k := room_1.cells) (n := room_1.slots) (Nat.le_of_ble_eq_true rfl) (Nat.le_of_ble_eq_true rfl) ?_
  exact W.base (va_forget (fun q hq => hw.2.2.2.2.2 q hq) (lw_ret (Drawn.sameBut.refl s.drawn lw_cs) hx hb hr hlocks dL_law_11))
