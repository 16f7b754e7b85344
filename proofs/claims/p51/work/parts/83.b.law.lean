def fL_mixed (p1 : Int32) (p2 : Int32) (σ : xSt) : Option (Int32 × xSt) := xch (fX11_mix p1 p2 σ) σ 2 ((-1))
abbrev rmL_mixed : Room := { frames := 9, cells := 3, slots := 18, locals := 163 }
set_option maxRecDepth 100000 in
set_option maxHeartbeats 4000000 in
theorem mL_mixed {l : Launch} (hl0 : l.stackTraces = false) {E : xE} (hE : xLE E) (p1 : Int32) (p2 : Int32) (σ : xSt) (o1 : Int32) (o2 : xSt) (hf : fL_mixed p1 p2 σ = some (o1, o2)) : xLx l yL_mixed wsL_mixed rmL_mixed E [.ref (E.a 0), .int p1, .int p2] σ o1 o2 3 18 := by
  unfold fL_mixed at hf
  refine xLx_of (cc := cL_mixed) (maxL := 4) (ret := (some .int)) (by decide) rfl (Nat.le_of_ble_eq_true rfl) ?_
  intro p e s m args below meth c A ls ⟨hx, hb, hr, hml, hown, hts, hlk⟩ hA hGL htab hw hl
  have hG := hGL.1
  have hown : s.vm.findClass RL = some m.cls := hown
  have hl : lv_has ls 4 [(0, .ref (E.a 0)), (1, .int p1), (2, .int p2)] := hl
  refine lv_aload_n hx hb dL_mixed_0 rfl (lv_at hl 0 rfl) ?_
  refine lv_iload_n hx hb dL_mixed_1 rfl (lv_at hl 1 rfl) ?_
  refine lv_iload_n hx hb dL_mixed_2 rfl (lv_at hl 2 rfl) ?_
  obtain ⟨x1, het, e1⟩ := x_tab1 htab
  simp only [Prod.mk.injEq] at e1
  rcases xch_f hf with ⟨σ9, hcl, rfl⟩ | ⟨σ9, hcl, rfl, rfl⟩
  · refine x_tcallo (vx_runV (As := [.int p1, .int p2]) (rest := []) ⟨hx, hb, hml, hown, hts⟩ (mX11_mix hl0 (E := xCut E σ) rfl p1 p2 σ (.inl o1) σ9 hcl s.heap.size) (cwV 2 hts gL_mixed_X11_mix rfl rfl rfl (by decide +kernel) ⟨Nat.le_of_ble_eq_true rfl, Nat.le_of_ble_eq_true rfl⟩) (x_preV _ (xw_cut hE hw) hA hG (cX0 (E := xCut E σ) rfl) rfl) rfl rfl hl.1 rfl (lv_room (Nat.le_of_ble_eq_true rfl)) dL_mixed_3 ⟨Nat.le_of_ble_eq_true rfl, Nat.le_of_ble_eq_true rfl⟩) (xw_cut hE hw) hA (fun H locs hw => ?_)
    have hw := xw_unc hE hw
    exact x_Xiret hx hb hr hlk hw rfl (Nat.le_of_ble_eq_true rfl) (Nat.le_of_ble_eq_true rfl) dL_mixed_6
  · refine x_tcalli (vx_runV (As := [.int p1, .int p2]) (rest := []) ⟨hx, hb, hml, hown, hts⟩ (mX11_mix hl0 (E := xCut E σ) rfl p1 p2 σ (.inr 2) σ9 hcl s.heap.size) (cwV 2 hts gL_mixed_X11_mix rfl rfl rfl (by decide +kernel) ⟨Nat.le_of_ble_eq_true rfl, Nat.le_of_ble_eq_true rfl⟩) (x_preV _ (xw_cut hE hw) hA hG (cX0 (E := xCut E σ) rfl) rfl) rfl rfl hl.1 rfl (lv_room (Nat.le_of_ble_eq_true rfl)) dL_mixed_3 ⟨Nat.le_of_ble_eq_true rfl, Nat.le_of_ble_eq_true rfl⟩) (xw_cut hE hw) hA (fun q9 ce H locs h1 h2 h3 hw => ?_) (fun r9 H locs h1 hw => nomatch h1)
    have hw := xw_unc hE hw
    obtain ⟨k9, h9, h3⟩ := h3
    obtain rfl := Sum.inr.inj h9
    refine vx_catch (E := xcls 2) (name := xcls 2) hown [] x1 [] (by rw [het]; rfl) (fun z hz => by cases hz) (by rw [covers, e1.1, e1.2.1]; decide) (by rw [e1.2.2.2]; decide) (by rw [e1.2.2.2]; exact hts (.classLink RL 125 "java/lang/IllegalStateException") (by decide +kernel)) (va_Nw.use (by decide +kernel) (hG.1 (.castable "java/lang/IllegalStateException" "java/lang/IllegalStateException") (by decide +kernel))) h1 h2 h3 ?_
    rw [e1.2.2.1]
    refine lv_astore_n (lv' := [(3, .ref q9), (0, .ref (E.a 0)), (1, .int p1), (2, .int p2)]) hx hb dL_mixed_7 rfl hl (by decide) rfl (fun ls hl => ?_)
    refine lv_iconst (v := (-1)) hx hb dL_mixed_8 (by decide) ?_
    exact x_Xiret hx hb hr hlk hw rfl (Nat.le_of_ble_eq_true rfl) (Nat.le_of_ble_eq_true rfl) dL_mixed_9

def fL_baked (p1 : Int32) (σ : xSt) : Option (Int32 × xSt) := xch (fX11_bake p1 σ) σ 2 ((-1))
abbrev rmL_baked : Room := { frames := 9, cells := 2, slots := 12, locals := 160 }
set_option maxRecDepth 100000 in
set_option maxHeartbeats 4000000 in
theorem mL_baked {l : Launch} (hl0 : l.stackTraces = false) {E : xE} (hE : xLE E) (p1 : Int32) (σ : xSt) (o1 : Int32) (o2 : xSt) (hf : fL_baked p1 σ = some (o1, o2)) : xLx l yL_baked wsL_baked rmL_baked E [.ref (E.a 0), .int p1] σ o1 o2 2 12 := by
  unfold fL_baked at hf
  refine xLx_of (cc := cL_baked) (maxL := 3) (ret := (some .int)) (by decide) rfl (Nat.le_of_ble_eq_true rfl) ?_
  intro p e s m args below meth c A ls ⟨hx, hb, hr, hml, hown, hts, hlk⟩ hA hGL htab hw hl
  have hG := hGL.1
  have hown : s.vm.findClass RL = some m.cls := hown
  have hl : lv_has ls 3 [(0, .ref (E.a 0)), (1, .int p1)] := hl
  refine lv_aload_n hx hb dL_baked_0 rfl (lv_at hl 0 rfl) ?_
  refine lv_iload_n hx hb dL_baked_1 rfl (lv_at hl 1 rfl) ?_
  obtain ⟨x1, het, e1⟩ := x_tab1 htab
  simp only [Prod.mk.injEq] at e1
  rcases xch_f hf with ⟨σ9, hcl, rfl⟩ | ⟨σ9, hcl, rfl, rfl⟩
  · refine x_tcallo (vx_runV (As := [.int p1]) (rest := []) ⟨hx, hb, hml, hown, hts⟩ (mX11_bake hl0 (E := xCut E σ) rfl p1 σ (.inl o1) σ9 hcl s.heap.size) (cwV 1 hts gL_baked_X11_bake rfl rfl rfl (by decide +kernel) ⟨Nat.le_of_ble_eq_true rfl, Nat.le_of_ble_eq_true rfl⟩) (x_preV _ (xw_cut hE hw) hA hG (cX0 (E := xCut E σ) rfl) rfl) rfl rfl hl.1 rfl (lv_room (Nat.le_of_ble_eq_true rfl)) dL_baked_2 ⟨Nat.le_of_ble_eq_true rfl, Nat.le_of_ble_eq_true rfl⟩) (xw_cut hE hw) hA (fun H locs hw => ?_)
    have hw := xw_unc hE hw
    exact x_Xiret hx hb hr hlk hw rfl (Nat.le_of_ble_eq_true rfl) (Nat.le_of_ble_eq_true rfl) dL_baked_5
  · refine x_tcalli (vx_runV (As := [.int p1]) (rest := []) ⟨hx, hb, hml, hown, hts⟩ (mX11_bake hl0 (E := xCut E σ) rfl p1 σ (.inr 2) σ9 hcl s.heap.size) (cwV 1 hts gL_baked_X11_bake rfl rfl rfl (by decide +kernel) ⟨Nat.le_of_ble_eq_true rfl, Nat.le_of_ble_eq_true rfl⟩) (x_preV _ (xw_cut hE hw) hA hG (cX0 (E := xCut E σ) rfl) rfl) rfl rfl hl.1 rfl (lv_room (Nat.le_of_ble_eq_true rfl)) dL_baked_2 ⟨Nat.le_of_ble_eq_true rfl, Nat.le_of_ble_eq_true rfl⟩) (xw_cut hE hw) hA (fun q9 ce H locs h1 h2 h3 hw => ?_) (fun r9 H locs h1 hw => nomatch h1)
    have hw := xw_unc hE hw
    obtain ⟨k9, h9, h3⟩ := h3
    obtain rfl := Sum.inr.inj h9
    refine vx_catch (E := xcls 2) (name := xcls 2) hown [] x1 [] (by rw [het]; rfl) (fun z hz => by cases hz) (by rw [covers, e1.1, e1.2.1]; decide) (by rw [e1.2.2.2]; decide) (by rw [e1.2.2.2]; exact hts (.classLink RL 125 "java/lang/IllegalStateException") (by decide +kernel)) (va_Nw.use (by decide +kernel) (hG.1 (.castable "java/lang/IllegalStateException" "java/lang/IllegalStateException") (by decide +kernel))) h1 h2 h3 ?_
    rw [e1.2.2.1]
    refine lv_astore_n (lv' := [(2, .ref q9), (0, .ref (E.a 0)), (1, .int p1)]) hx hb dL_baked_6 rfl hl (by decide) rfl (fun ls hl => ?_)
    refine lv_iconst (v := (-1)) hx hb dL_baked_7 (by decide) ?_
    exact x_Xiret hx hb hr hlk hw rfl (Nat.le_of_ble_eq_true rfl) (Nat.le_of_ble_eq_true rfl) dL_baked_8

def fL_hasNoWay (p1 : Int32) (σ : xSt) : Option (Int32 × xSt) := xc2 (xch (fX11_comesBack p1 σ) σ 3 (-1)) fun r σ1 => some (if 0 ≤ r then 0 else 1, σ1)
abbrev rmL_hasNoWay : Room := { frames := 16, cells := 2, slots := 12, locals := 446 }
set_option maxRecDepth 100000 in
set_option maxHeartbeats 4000000 in
theorem mL_hasNoWay {l : Launch} (hl0 : l.stackTraces = false) {E : xE} (hE : xLE E) (p1 : Int32) (σ : xSt) (o1 : Int32) (o2 : xSt) (hf : fL_hasNoWay p1 σ = some (o1, o2)) : xLx l yL_hasNoWay wsL_hasNoWay rmL_hasNoWay E [.ref (E.a 0), .int p1] σ o1 o2 2 12 := by
  unfold fL_hasNoWay at hf
  refine xLx_of (cc := cL_hasNoWay) (maxL := 3) (ret := (some .boolean)) (by decide) rfl (Nat.le_of_ble_eq_true rfl) ?_
  intro p e s m args below meth c A ls ⟨hx, hb, hr, hml, hown, hts, hlk⟩ hA hGL htab hw hl
  have hG := hGL.1
  have hown : s.vm.findClass RL = some m.cls := hown
  have hl : lv_has ls 3 [(0, .ref (E.a 0)), (1, .int p1)] := hl
  refine lv_aload_n hx hb dL_hasNoWay_0 rfl (lv_at hl 0 rfl) ?_
  refine lv_iload_n hx hb dL_hasNoWay_1 rfl (lv_at hl 1 rfl) ?_
  obtain ⟨x1, het, e1⟩ := x_tab1 htab
  simp only [Prod.mk.injEq] at e1
  obtain ⟨r, σ1, hc, hf⟩ := xc2_f hf
  obtain ⟨rfl, rfl⟩ := Prod.mk.inj (Option.some.inj hf)
  rcases xch_f hc with ⟨σ9, hcl, rfl⟩ | ⟨σ9, hcl, rfl, rfl⟩
  · refine x_tcallo (vx_runV (As := [.int p1]) (rest := []) ⟨hx, hb, hml, hown, hts⟩ (mX11_comesBack hl0 (E := xCut E σ) rfl p1 σ (.inl r) σ9 hcl s.heap.size) (cwV 1 hts gL_hasNoWay_X11_comesBack rfl rfl rfl (by decide +kernel) ⟨Nat.le_of_ble_eq_true rfl, Nat.le_of_ble_eq_true rfl⟩) (x_preV _ (xw_cut hE hw) hA hG (cX0 (E := xCut E σ) rfl) rfl) rfl rfl hl.1 rfl (lv_room (Nat.le_of_ble_eq_true rfl)) dL_hasNoWay_2 ⟨Nat.le_of_ble_eq_true rfl, Nat.le_of_ble_eq_true rfl⟩) (xw_cut hE hw) hA (fun H locs hw => ?_)
    have hw := xw_unc hE hw
    refine lv_if_ge (tgt := 12) hx hb dL_hasNoWay_5 (by decide) (fun c5 => ?_) (fun c5 => ?_)
    · refine lv_iconst (v := 0) hx hb dL_hasNoWay_12 (by decide) ?_
      exact x_Xzretc hx hb hr hlk hw (by decide) (by rw [if_pos c5]) (Nat.le_of_ble_eq_true rfl) (Nat.le_of_ble_eq_true rfl) dL_hasNoWay_13
    · refine lv_iconst (v := 1) hx hb dL_hasNoWay_8 (by decide) ?_
      refine lv_goto (tgt := 13) hx hb dL_hasNoWay_9 (by decide) ?_
      exact x_Xzretc hx hb hr hlk hw (by decide) (by rw [if_neg c5]) (Nat.le_of_ble_eq_true rfl) (Nat.le_of_ble_eq_true rfl) dL_hasNoWay_13
  · refine x_tcalli (vx_runV (As := [.int p1]) (rest := []) ⟨hx, hb, hml, hown, hts⟩ (mX11_comesBack hl0 (E := xCut E σ) rfl p1 σ (.inr 3) σ9 hcl s.heap.size) (cwV 1 hts gL_hasNoWay_X11_comesBack rfl rfl rfl (by decide +kernel) ⟨Nat.le_of_ble_eq_true rfl, Nat.le_of_ble_eq_true rfl⟩) (x_preV _ (xw_cut hE hw) hA hG (cX0 (E := xCut E σ) rfl) rfl) rfl rfl hl.1 rfl (lv_room (Nat.le_of_ble_eq_true rfl)) dL_hasNoWay_2 ⟨Nat.le_of_ble_eq_true rfl, Nat.le_of_ble_eq_true rfl⟩) (xw_cut hE hw) hA (fun q9 ce H locs h1 h2 h3 hw => ?_) (fun r9 H locs h1 hw => nomatch h1)
    have hw := xw_unc hE hw
    obtain ⟨k9, h9, h3⟩ := h3
    obtain rfl := Sum.inr.inj h9
    refine vx_catch (E := xcls 3) (name := xcls 3) hown [] x1 [] (by rw [het]; rfl) (fun z hz => by cases hz) (by rw [covers, e1.1, e1.2.1]; decide) (by rw [e1.2.2.2]; decide) (by rw [e1.2.2.2]; exact hts (.classLink RL 229 "java/util/NoSuchElementException") (by decide +kernel)) (va_Nw.use (by decide +kernel) (hG.1 (.castable "java/util/NoSuchElementException" "java/util/NoSuchElementException") (by decide +kernel))) h1 h2 h3 ?_
    rw [e1.2.2.1]
    refine lv_astore_n (lv' := [(2, .ref q9), (0, .ref (E.a 0)), (1, .int p1)]) hx hb dL_hasNoWay_14 rfl hl (by decide) rfl (fun ls hl => ?_)
    refine lv_iconst (v := 1) hx hb dL_hasNoWay_15 (by decide) ?_
    exact x_Xzretc hx hb hr hlk hw (by decide) (by rw [if_neg (by decide)]) (Nat.le_of_ble_eq_true rfl) (Nat.le_of_ble_eq_true rfl) dL_hasNoWay_16
