/-! ===== THE LAW'S CASES WITH DRAWS ===== -/
theorem nan_dec {x : UInt64} (h : isNaN64 x = true) : FP.Core.decode FP.Core.b64 x.toNat = FP.Core.Datum.nan := by
  rw [isNaN64_iff, show (0x7fffffffffffffff : Nat) = 2 ^ 63 - 1 from rfl, Nat.and_two_pow_sub_one_eq_mod] at h
  have e : FP.Core.fieldE FP.Core.b64 x.toNat = x.toNat / 4503599627370496 % 2048 := rfl
  have f : FP.Core.fieldT FP.Core.b64 x.toNat = x.toNat % 4503599627370496 := rfl
  unfold FP.Core.decode
  rw [if_pos (by rw [e]; show _ = 2047; omega), if_neg (by rw [f]; omega)]
theorem nan_dec32 {x : UInt32} (h : isNaN32 x = true) : FP.Core.decode FP.Core.b32 x.toNat = FP.Core.Datum.nan := by
  rw [isNaN32_iff, show (0x7fffffff : Nat) = 2 ^ 31 - 1 from rfl, Nat.and_two_pow_sub_one_eq_mod] at h
  have e : FP.Core.fieldE FP.Core.b32 x.toNat = x.toNat / 8388608 % 256 := rfl
  have f : FP.Core.fieldT FP.Core.b32 x.toNat = x.toNat % 8388608 := rfl
  unfold FP.Core.decode
  rw [if_pos (by rw [e]; show _ = 255; omega), if_neg (by rw [f]; omega)]
theorem nan_cmp {x : UInt64} (h : isNaN64 x = true) : Op.cmpValue (FP.dcmp x x) CmpOp.l ≠ 0 := by
  have e : FP.dcmp x x = none := by
    show FP.Core.order (FP.Core.decode FP.Core.b64 x.toNat) (FP.Core.decode FP.Core.b64 x.toNat) = none
    rw [nan_dec h]
    rfl
  rw [e]
  decide
theorem nan_f2d {x : UInt32} (h : isNaN32 x = true) : isNaN64 (FP.f2d x) = true := by
  have e : FP.Core.fIsNaN x = true := by
    unfold FP.Core.fIsNaN FP.Core.isNaN
    rw [nan_dec32 h]
    rfl
  unfold FP.f2d
  rw [if_pos e]
  unfold FP.nanF2D
  exact isNaN64_or_left (isNaN64_or_right (by decide))
theorem alike_or {x y : UInt64} (h : alike64 x y = true) : x = y ∨ (isNaN64 x = true ∧ isNaN64 y = true) := by
  unfold alike64 at h
  rw [Bool.or_eq_true, Bool.and_eq_true] at h
  rcases h with h | h
  · exact Or.inl (of_decide_eq_true h)
  · exact Or.inr h
theorem alike_or32 {x y : UInt32} (h : alike32 x y = true) : x = y ∨ (isNaN32 x = true ∧ isNaN32 y = true) := by
  unfold alike32 at h
  rw [Bool.or_eq_true, Bool.and_eq_true] at h
  rcases h with h | h
  · exact Or.inl (of_decide_eq_true h)
  · exact Or.inr h
theorem alike_two {x y v : UInt64} (h1 : alike64 x v = true) (h2 : alike64 y v = true) : x = y ∨ (isNaN64 x = true ∧ isNaN64 y = true) := by
  rcases alike_or h1 with a | ⟨a1, a2⟩
  · rcases alike_or h2 with b | ⟨b1, b2⟩
    · exact Or.inl (a.trans b.symm)
    · exact Or.inr ⟨by rw [a]; exact b2, b1⟩
  · rcases alike_or h2 with b | ⟨b1, b2⟩
    · exact Or.inr ⟨a1, by rw [b]; exact a2⟩
    · exact Or.inr ⟨a1, b1⟩
theorem alike_f2d {x y v : UInt32} {r q : UInt64} (h1 : alike32 x v = true) (h2 : alike32 y v = true) (h3 : alike64 r (FP.f2d x) = true) (h4 : alike64 q (FP.f2d y) = true) : r = q ∨ (isNaN64 r = true ∧ isNaN64 q = true) := by
  have two : x = y ∨ (isNaN32 x = true ∧ isNaN32 y = true) := by
    rcases alike_or32 h1 with a | ⟨a1, a2⟩
    · rcases alike_or32 h2 with b | ⟨b1, b2⟩
      · exact Or.inl (a.trans b.symm)
      · exact Or.inr ⟨by rw [a]; exact b2, b1⟩
    · rcases alike_or32 h2 with b | ⟨b1, b2⟩
      · exact Or.inr ⟨a1, by rw [b]; exact a2⟩
      · exact Or.inr ⟨a1, b1⟩
  rcases two with e | ⟨n1, n2⟩
  · rw [e] at h3
    exact alike_two h3 h4
  · refine Or.inr ⟨?_, ?_⟩
    · rcases alike_or h3 with a | a
      · rw [a]; exact nan_f2d n1
      · exact a.1
    · rcases alike_or h4 with a | a
      · rw [a]; exact nan_f2d n2
      · exact a.1
section XDR
variable {p : Program} {l : Launch} {e : Env} {R : Room} {s : State} {m : MethodId} {args : Array Value} {below : List Frame} {meth : Method} {c : Code} {H : Heap} {locs : List Loc} {cells slots : Nat} {Q : State → Prop} {pc : Nat} {ls : Array Slot} {rest : List Value} {A : Nat → Prop} {H0 : Heap} {E : xE} {σ σ1 : xSt}
theorem x_calldD {av : Array Value} {v0 : UInt64} {st0 : List Value} (hr : va_RunD lw_cs p l e R s m args below meth c H locs cells slots 0 0 (F0 m pc ls st0) rest (xQd E (va_A (E.W σ) H.size) v0 σ1 av) (va_A (E.W σ) H.size)) (hw : xw E A H0 s σ H locs) (hA : ∀ q, H0.size ≤ q → A q)
    (kk : ∀ (r : UInt64) (H1 : Heap) (locs1 : List Loc) (d1 : Drawn), alike64 r v0 = true → s.drawn.sameBut d1 lw_cs → xw E A H0 (s.setDrawn d1) σ1 H1 locs1 → W p l e R (s.setDrawn d1) m args below meth c H1 locs1 cells slots Q (F0 m (pc + 3) ls (.double r :: rest))) : W p l e R s m args below meth c H locs cells slots Q (F0 m pc ls st0) := by
  refine va_calld_D hr hw.2.2.2 (fun q _ h => hw.free hA q h) (hw.free hA) (fun r u t H1 locs1 ht hvm hpost hB hz1 hk1 hS1 d1 hd1 => ?_)
  obtain ⟨hal, rfl⟩ := hpost
  obtain ⟨hP1, hK1, hD1⟩ := hB
  rw [ht] at hP1
  exact kk r H1 locs1 d1 hal hd1 ⟨va_K.moved (u := s) (Vm.Alike.refl s.vm) hw.1, hP1, xD_of (E.fst σ u) hw.2.2.1, hS1⟩
theorem x_callfD {av : Array Value} {v0 : UInt32} {st0 : List Value} (hr : va_RunD lw_cs p l e R s m args below meth c H locs cells slots 0 0 (F0 m pc ls st0) rest (xQf E (va_A (E.W σ) H.size) v0 σ1 av) (va_A (E.W σ) H.size)) (hw : xw E A H0 s σ H locs) (hA : ∀ q, H0.size ≤ q → A q)
    (kk : ∀ (r : UInt32) (H1 : Heap) (locs1 : List Loc) (d1 : Drawn), alike32 r v0 = true → s.drawn.sameBut d1 lw_cs → xw E A H0 (s.setDrawn d1) σ1 H1 locs1 → W p l e R (s.setDrawn d1) m args below meth c H1 locs1 cells slots Q (F0 m (pc + 3) ls (.float r :: rest))) : W p l e R s m args below meth c H locs cells slots Q (F0 m pc ls st0) := by
  refine va_callf_D hr hw.2.2.2 (fun q _ h => hw.free hA q h) (hw.free hA) (fun r u t H1 locs1 ht hvm hpost hB hz1 hk1 hS1 d1 hd1 => ?_)
  obtain ⟨hal, rfl⟩ := hpost
  obtain ⟨hP1, hK1, hD1⟩ := hB
  rw [ht] at hP1
  exact kk r H1 locs1 d1 hal hd1 ⟨va_K.moved (u := s) (Vm.Alike.refl s.vm) hw.1, hP1, xD_of (E.fst σ u) hw.2.2.1, hS1⟩
end XDR
set_option maxRecDepth 100000 in
set_option maxHeartbeats 4000000 in
theorem lawc_44 {p : Program} {l : Launch} {e : Env} {t : State} {m : MethodId} {args : Array Value} {below : List Frame} {meth : Method} {c : Code} {Q : State → Prop} {H : Heap} {locs : List Loc} {cells slots b L n : Nat} {xs : Nat → Int32} {A : Nat → Prop} {D : va_G} {aX aM : Nat → Nat} {cA cL : ClassId} {ao : Nat} {g : Nat × Nat × (Nat → Nat)} {σX σM : xSt} {fo : Nat → Int64} {ls : Array Slot} (Cx : xLC p t m args c b L n xs A g) (hw : xwW (xEX D aX aM cA g σM) ao cL A t.heap t σX fo H locs) (hl : lv_has ls 9 (xLl b (aX 0) (aM 0) ao (nI (6 * n)))) (hcs : cells + 20 ≤ 601024 ∧ slots + 120 ≤ 7293034) (v9 b9 : UInt64) (σX1 σM1 : xSt) (hfX : fX11_meanAge σX = some (v9, σX1)) (hfM : fX12_meanAge σM = some (b9, σM1)) (heq : v9 = b9) (kk : ∀ (H : Heap) (locs : List Loc) (ls : Array Slot) (d1 : Drawn), t.drawn.sameBut d1 lw_cs → xwW (xEX D aX aM cA g σM1) ao cL A t.heap (t.setDrawn d1) σX1 fo H locs → lv_has ls 9 (xLl b (aX 0) (aM 0) ao (nI (6 * n))) → W p l e room_1 (t.setDrawn d1) m args below meth c H locs (cells + 20) (slots + 120) Q (F0 m 2908 ls [])) : W p l e room_1 t m args below meth c H locs cells slots Q (F0 m 2797 ls []) := by
  obtain ⟨hx, hb, hml, hown, hts, hXs, hbl, hn, hA, hbA, hG, hN⟩ := id Cx
  refine lv_aload_n hx hb dL_law_2797 rfl (lv_at hl 1 rfl) ?_
  refine x_calldD (va_runV_D (As := []) (rest := []) ⟨hx, hb, hml, hown, hts⟩ (mX11_meanAge (E := xEO (xEX D aX aM cA g σM) ao cL fo) rfl σX v9 σX1 hfX H.size) (cwV 0 hts gL_law_X11_meanAge rfl rfl rfl (by decide +kernel) ⟨Nat.le_of_ble_eq_true rfl, Nat.le_of_ble_eq_true rfl⟩) (x_preV _ hw.in hA hG (cX0 rfl) rfl) rfl rfl hl.1 rfl (lv_room (Nat.le_of_ble_eq_true rfl)) dL_law_2798 ⟨by show cells + 0 ≤ 601024; omega, by show slots + 0 ≤ 7293034; omega⟩) hw.in hA (fun r1 H locs d1 hal1 hd1 hw9 => ?_)
  have hw : xwW (xEX D aX aM cA g σM) ao cL A t.heap (t.setDrawn d1) σX1 fo H locs := xwW.of (va_K.moved (u := t) (Vm.Alike.refl t.vm) hw.1) hw9
  have hts1 := dr_words hts d1
  have hG1 : xG g A (t.setDrawn d1) (t.setDrawn d1).heap := xG.same (u := t) rfl hG
  refine lv_dstore (lv' := (5, .double r1) :: xLl b (aX 0) (aM 0) ao (nI (6 * n))) hx hb dL_law_2801 hl (by decide) rfl (fun ls hl => ?_)
  refine lv_aload_n hx hb dL_law_2803 rfl (lv_at hl 3 rfl) ?_
  have hwm := xwM hw
  refine x_calldD (s := t.setDrawn d1) (va_runV_D (As := []) (rest := []) ⟨hx, hb, hml, hown, hts1⟩ (mX12_meanAge (E := xEM D aX aM cA g ao cL σX1 fo) rfl σM b9 σM1 hfM H.size) (cwV 0 hts1 gL_law_X12_meanAge rfl rfl rfl (by decide +kernel) ⟨Nat.le_of_ble_eq_true rfl, Nat.le_of_ble_eq_true rfl⟩) (x_preV _ hwm hA hG1 (cM0 rfl) rfl) rfl rfl hl.1 rfl (lv_room (Nat.le_of_ble_eq_true rfl)) dL_law_2804 ⟨by show cells + 0 ≤ 601024; omega, by show slots + 0 ≤ 7293034; omega⟩) hwm hA (fun r2 H locs d2 hal2 hd2' hwm => ?_)
  have hd2 : t.drawn.sameBut d2 lw_cs := hd1.trans hd2'
  have hw : xwW (xEX D aX aM cA g σM1) ao cL A t.heap (t.setDrawn d2) σX1 fo H locs := xwX (va_K.moved (u := t.setDrawn d1) (Vm.Alike.refl t.vm) hw.1) hwm
  show W p l e room_1 (t.setDrawn d2) m args below meth c H locs cells slots Q (F0 m 2807 ls [.double r2])
  refine lv_dstore (lv' := (7, .double r2) :: (5, .double r1) :: xLl b (aX 0) (aM 0) ao (nI (6 * n))) hx hb dL_law_2807 hl (by decide) rfl (fun ls hl => ?_)
  have two : r1 = r2 ∨ (isNaN64 r1 = true ∧ isNaN64 r2 = true) := alike_two hal1 (by rw [heq]; exact hal2)
  have go : W p l e room_1 (t.setDrawn d2) m args below meth c H locs cells slots Q (F0 m 2835 ls []) := by
    refine lv_goto (tgt := 2908) hx hb dL_law_2835 (by decide) ?_
    refine W.widen (k := cells + 20) (n := slots + 120) (by omega) (by omega) ?_
    exact kk _ _ _ d2 hd2 hw (lv_sub hl [2, 3, 4, 5, 6] rfl)
  refine lv_dload hx hb dL_law_2809 (lv_at hl 1 rfl) ?_
  refine lv_dload hx hb dL_law_2811 (lv_at hl 0 rfl) ?_
  refine lv_dcmp hx hb dL_law_2813 ?_
  refine lv_if_eq (tgt := 2835) hx hb dL_law_2814 (by decide) (fun _ => go) (fun h1 => ?_)
  refine lv_dload hx hb dL_law_2817 (lv_at hl 1 rfl) ?_
  refine lv_dload hx hb dL_law_2819 (lv_at hl 1 rfl) ?_
  refine lv_dcmp hx hb dL_law_2821 ?_
  have n1 : Op.cmpValue (FP.dcmp r1 r1) CmpOp.l ≠ 0 := by
    rcases two with h9 | h9
    · rw [← h9] at h1; exact h1
    · exact nan_cmp h9.1
  have n2 : Op.cmpValue (FP.dcmp r2 r2) CmpOp.l ≠ 0 := by
    rcases two with h9 | h9
    · rw [h9] at h1; exact h1
    · exact nan_cmp h9.2
  refine lv_if_eq (tgt := 2833) hx hb dL_law_2822 (by decide) (fun h9 => absurd h9 n1) (fun _ => ?_)
  refine lv_dload hx hb dL_law_2825 (lv_at hl 0 rfl) ?_
  refine lv_dload hx hb dL_law_2827 (lv_at hl 0 rfl) ?_
  refine lv_dcmp hx hb dL_law_2829 ?_
  exact lv_if_ne (tgt := 2835) hx hb dL_law_2830 (by decide) (fun _ => go) (fun h9 => absurd h9 n2)
set_option maxRecDepth 100000 in
set_option maxHeartbeats 4000000 in
theorem lawc_45 {p : Program} {l : Launch} {e : Env} {t : State} {m : MethodId} {args : Array Value} {below : List Frame} {meth : Method} {c : Code} {Q : State → Prop} {H : Heap} {locs : List Loc} {cells slots b L n : Nat} {xs : Nat → Int32} {A : Nat → Prop} {D : va_G} {aX aM : Nat → Nat} {cA cL : ClassId} {ao : Nat} {g : Nat × Nat × (Nat → Nat)} {σX σM : xSt} {fo : Nat → Int64} {ls : Array Slot} (Cx : xLC p t m args c b L n xs A g) (hw : xwW (xEX D aX aM cA g σM) ao cL A t.heap t σX fo H locs) (hl : lv_has ls 9 (xLl b (aX 0) (aM 0) ao (nI (6 * n)))) (hcs : cells + 20 ≤ 601024 ∧ slots + 120 ≤ 7293034) (v9 b9 : UInt32) (σX1 σM1 : xSt) (hfX : fX11_thrownShare σX = some (v9, σX1)) (hfM : fX12_thrownShare σM = some (b9, σM1)) (heq : v9 = b9) (kk : ∀ (H : Heap) (locs : List Loc) (ls : Array Slot) (d1 : Drawn), t.drawn.sameBut d1 lw_cs → xwW (xEX D aX aM cA g σM1) ao cL A t.heap (t.setDrawn d1) σX1 fo H locs → lv_has ls 9 (xLl b (aX 0) (aM 0) ao (nI (6 * n))) → W p l e room_1 (t.setDrawn d1) m args below meth c H locs (cells + 20) (slots + 120) Q (F0 m 2908 ls [])) : W p l e room_1 t m args below meth c H locs cells slots Q (F0 m 2838 ls []) := by
  obtain ⟨hx, hb, hml, hown, hts, hXs, hbl, hn, hA, hbA, hG, hN⟩ := id Cx
  refine lv_aload_n hx hb dL_law_2838 rfl (lv_at hl 1 rfl) ?_
  refine x_callfD (va_runV_D (As := []) (rest := []) ⟨hx, hb, hml, hown, hts⟩ (mX11_thrownShare (E := xEO (xEX D aX aM cA g σM) ao cL fo) rfl σX v9 σX1 hfX H.size) (cwV 0 hts gL_law_X11_thrownShare rfl rfl rfl (by decide +kernel) ⟨Nat.le_of_ble_eq_true rfl, Nat.le_of_ble_eq_true rfl⟩) (x_preV _ hw.in hA hG (cX0 rfl) rfl) rfl rfl hl.1 rfl (lv_room (Nat.le_of_ble_eq_true rfl)) dL_law_2839 ⟨by show cells + 0 ≤ 601024; omega, by show slots + 0 ≤ 7293034; omega⟩) hw.in hA (fun f1 H locs e1 hal1 he1 hw9 => ?_)
  refine lv_f2d_any (s := t) he1 lw_bits hx hb dL_law_2842 (fun r1 d1 har1 hd1 => ?_)
  have hw : xwW (xEX D aX aM cA g σM) ao cL A t.heap (t.setDrawn d1) σX1 fo H locs := xwW.of (va_K.moved (u := t) (Vm.Alike.refl t.vm) hw.1) ⟨va_K.moved (u := t.setDrawn e1) (Vm.Alike.refl t.vm) hw9.1, hw9.2⟩
  have hts1 := dr_words hts d1
  have hG1 : xG g A (t.setDrawn d1) (t.setDrawn d1).heap := xG.same (u := t) rfl hG
  refine lv_dstore (lv' := (5, .double r1) :: xLl b (aX 0) (aM 0) ao (nI (6 * n))) hx hb dL_law_2843 hl (by decide) rfl (fun ls hl => ?_)
  refine lv_aload_n hx hb dL_law_2845 rfl (lv_at hl 3 rfl) ?_
  have hwm := xwM hw
  refine x_callfD (s := t.setDrawn d1) (va_runV_D (As := []) (rest := []) ⟨hx, hb, hml, hown, hts1⟩ (mX12_thrownShare (E := xEM D aX aM cA g ao cL σX1 fo) rfl σM b9 σM1 hfM H.size) (cwV 0 hts1 gL_law_X12_thrownShare rfl rfl rfl (by decide +kernel) ⟨Nat.le_of_ble_eq_true rfl, Nat.le_of_ble_eq_true rfl⟩) (x_preV _ hwm hA hG1 (cM0 rfl) rfl) rfl rfl hl.1 rfl (lv_room (Nat.le_of_ble_eq_true rfl)) dL_law_2846 ⟨by show cells + 0 ≤ 601024; omega, by show slots + 0 ≤ 7293034; omega⟩) hwm hA (fun f2 H locs e2 hal2 he2' hwm => ?_)
  have he2 : t.drawn.sameBut e2 lw_cs := hd1.trans he2'
  refine lv_f2d_any (s := t) he2 lw_bits hx hb dL_law_2849 (fun r2 d2 har2 hd2 => ?_)
  have hw : xwW (xEX D aX aM cA g σM1) ao cL A t.heap (t.setDrawn d2) σX1 fo H locs := xwX (va_K.moved (u := t.setDrawn d1) (Vm.Alike.refl t.vm) hw.1) ⟨va_K.moved (u := t.setDrawn e2) (Vm.Alike.refl t.vm) hwm.1, hwm.2⟩
  show W p l e room_1 (t.setDrawn d2) m args below meth c H locs cells slots Q (F0 m 2850 ls [.double r2])
  refine lv_dstore (lv' := (7, .double r2) :: (5, .double r1) :: xLl b (aX 0) (aM 0) ao (nI (6 * n))) hx hb dL_law_2850 hl (by decide) rfl (fun ls hl => ?_)
  have two : r1 = r2 ∨ (isNaN64 r1 = true ∧ isNaN64 r2 = true) := alike_f2d hal1 (by rw [heq]; exact hal2) har1 har2
  have go : W p l e room_1 (t.setDrawn d2) m args below meth c H locs cells slots Q (F0 m 2878 ls []) := by
    refine lv_goto (tgt := 2908) hx hb dL_law_2878 (by decide) ?_
    refine W.widen (k := cells + 20) (n := slots + 120) (by omega) (by omega) ?_
    exact kk _ _ _ d2 hd2 hw (lv_sub hl [2, 3, 4, 5, 6] rfl)
  refine lv_dload hx hb dL_law_2852 (lv_at hl 1 rfl) ?_
  refine lv_dload hx hb dL_law_2854 (lv_at hl 0 rfl) ?_
  refine lv_dcmp hx hb dL_law_2856 ?_
  refine lv_if_eq (tgt := 2878) hx hb dL_law_2857 (by decide) (fun _ => go) (fun h1 => ?_)
  refine lv_dload hx hb dL_law_2860 (lv_at hl 1 rfl) ?_
  refine lv_dload hx hb dL_law_2862 (lv_at hl 1 rfl) ?_
  refine lv_dcmp hx hb dL_law_2864 ?_
  have n1 : Op.cmpValue (FP.dcmp r1 r1) CmpOp.l ≠ 0 := by
    rcases two with h9 | h9
    · rw [← h9] at h1; exact h1
    · exact nan_cmp h9.1
  have n2 : Op.cmpValue (FP.dcmp r2 r2) CmpOp.l ≠ 0 := by
    rcases two with h9 | h9
    · rw [h9] at h1; exact h1
    · exact nan_cmp h9.2
  refine lv_if_eq (tgt := 2876) hx hb dL_law_2865 (by decide) (fun h9 => absurd h9 n1) (fun _ => ?_)
  refine lv_dload hx hb dL_law_2868 (lv_at hl 0 rfl) ?_
  refine lv_dload hx hb dL_law_2870 (lv_at hl 0 rfl) ?_
  refine lv_dcmp hx hb dL_law_2872 ?_
  exact lv_if_ne (tgt := 2878) hx hb dL_law_2873 (by decide) (fun _ => go) (fun h9 => absurd h9 n2)
