def fX11_setWait (p0 : Int32) (p1 : Int32) (σ : xSt) : Option (xO × xSt) := (xct (fX11_needRecipe p0 σ) fun r1 σ2 => (xc2 (fX11_isWithin p1 0 99 σ2) fun r3 σ4 => (xct (fX11_needArgument r3 σ4) fun r5 σ6 => (xc (fX11_remember σ6) fun σ8 => (xr σ8 10 6 p0 fun v9 => (xs σ8 10 6 p0 p1 fun σ10 => some ((.inl v9 : xO), σ10)))))))
abbrev rmX11_setWait : Room := { frames := 8, cells := 2, slots := 12, locals := 139 }
set_option maxRecDepth 100000 in
set_option maxHeartbeats 4000000 in
theorem mX11_setWait {l : Launch} (hl0 : l.stackTraces = false) {E : xE} (hE : E.sh = shX) (p0 : Int32) (p1 : Int32) (σ : xSt) (o1 : xO) (o2 : xSt) (hf : fX11_setWait p0 p1 σ = some (o1, o2)) : xMt l yX11_setWait wsX11_setWait rmX11_setWait E [.ref (E.a 0), .int p0, .int p1] σ o1 o2 2 := by
  unfold fX11_setWait at hf
  refine xMt_of (cc := cX11_setWait) (maxL := 4) (ret := (some .int)) (by decide) rfl (Nat.le_of_ble_eq_true rfl) ?_
  intro p e s m args below meth c A ls ⟨hx, hb, hr, hml, hown, hts, hlk⟩ hA hG hw hl hex
  have hown : s.vm.findClass RX11 = some m.cls := hown
  have hl : lv_has ls 4 [(0, .ref (E.a 0)), (1, .int p0), (2, .int p1)] := hl
  have hk31 := hts (.fieldLink RX11 31 "OvenRound" "recipes" "LOvenRound$Recipes;") (by decide +kernel)
  have hiX11 : ∀ w ∈ wsX110, w ∈ wsX11_setWait := by decide +kernel
  have hk142 := hts (.fieldLink RX11 142 "OvenRound$Recipes" "wait" "[I") (by decide +kernel)
  have hiX8 : ∀ w ∈ wsX80, w ∈ wsX11_setWait := by decide +kernel
  refine lv_aload_n hx hb dX11_setWait_0 rfl (lv_at hl 0 rfl) ?_
  refine lv_iload_n hx hb dX11_setWait_1 rfl (lv_at hl 1 rfl) ?_
  rcases xct_e hf with ⟨k2, σ2, hcl, hf⟩ | ⟨r1, σ2, hcl, hf⟩
  · refine x_tcallv (vx_runV (As := [.int p0]) (rest := []) ⟨hx, hb, hml, hown, hts⟩ (mX11_needRecipe hl0 hE p0 σ (.inr k2) σ2 hcl s.heap.size) (cwV 1 hts gX11_setWait_X11_needRecipe rfl rfl rfl (by decide +kernel) ⟨Nat.le_of_ble_eq_true rfl, Nat.le_of_ble_eq_true rfl⟩) (x_preV _ hw hA hG (cX0 hE) rfl) rfl rfl hl.1 rfl (lv_room (Nat.le_of_ble_eq_true rfl)) dX11_setWait_2 ⟨Nat.le_of_ble_eq_true rfl, Nat.le_of_ble_eq_true rfl⟩) hw hA (fun q9 ce H locs h1 h2 h3 hw => ?_) (fun H locs h1 hw => nomatch h1)
    exact x_tout hlk hex h1 h2 h3 hw hf (Nat.le_of_ble_eq_true rfl) (Nat.le_of_ble_eq_true rfl)
  refine x_tcallv (vx_runV (As := [.int p0]) (rest := []) ⟨hx, hb, hml, hown, hts⟩ (mX11_needRecipe hl0 hE p0 σ (.inl r1) σ2 hcl s.heap.size) (cwV 1 hts gX11_setWait_X11_needRecipe rfl rfl rfl (by decide +kernel) ⟨Nat.le_of_ble_eq_true rfl, Nat.le_of_ble_eq_true rfl⟩) (x_preV _ hw hA hG (cX0 hE) rfl) rfl rfl hl.1 rfl (lv_room (Nat.le_of_ble_eq_true rfl)) dX11_setWait_2 ⟨Nat.le_of_ble_eq_true rfl, Nat.le_of_ble_eq_true rfl⟩) hw hA (fun q9 ce H locs h1 h2 h3 hw => by obtain ⟨_, h9, _⟩ := h3; cases h9) (fun H locs h1 hw => ?_)
  clear hcl h1
  refine lv_iload_n hx hb dX11_setWait_5 rfl (lv_at hl 2 rfl) ?_
  refine lv_iconst (v := 0) hx hb dX11_setWait_6 (by decide) ?_
  refine lv_bipush (v := 99) hx hb dX11_setWait_7 (by decide) ?_
  obtain ⟨r3, σ4, hcl, hf⟩ := xc2_f hf
  refine x_calli (va_runS (As := [.int p1, .int 0, .int 99]) (rest := []) ⟨hx, hb, hml, hown, hts⟩ (mX11_isWithin hE p1 0 99 σ2 r3 σ4 hcl H.size) (va_cwS 3 hts gX11_setWait_X11_isWithin rfl rfl rfl (by decide +kernel) ⟨Nat.le_of_ble_eq_true rfl, Nat.le_of_ble_eq_true rfl⟩) (x_preS _ hw hA hG) rfl rfl hl.1 rfl (lv_room (Nat.le_of_ble_eq_true rfl)) dX11_setWait_9 ⟨Nat.le_of_ble_eq_true rfl, Nat.le_of_ble_eq_true rfl⟩) hw hA (fun H locs hw => ?_)
  clear hcl
  rcases xct_e hf with ⟨k12, σ6, hcl, hf⟩ | ⟨r5, σ6, hcl, hf⟩
  · refine x_tcallv (vx_runS (As := [.int r3]) (rest := []) ⟨hx, hb, hml, hown, hts⟩ (mX11_needArgument hl0 r3 σ4 (.inr k12) σ6 hcl H.size) (va_cwS 1 hts gX11_setWait_X11_needArgument rfl rfl rfl (by decide +kernel) ⟨Nat.le_of_ble_eq_true rfl, Nat.le_of_ble_eq_true rfl⟩) (x_preS _ hw hA hG) rfl rfl hl.1 rfl (lv_room (Nat.le_of_ble_eq_true rfl)) dX11_setWait_12 ⟨Nat.le_of_ble_eq_true rfl, Nat.le_of_ble_eq_true rfl⟩) hw hA (fun q9 ce H locs h1 h2 h3 hw => ?_) (fun H locs h1 hw => nomatch h1)
    exact x_tout hlk hex h1 h2 h3 hw hf (Nat.le_of_ble_eq_true rfl) (Nat.le_of_ble_eq_true rfl)
  refine x_tcallv (vx_runS (As := [.int r3]) (rest := []) ⟨hx, hb, hml, hown, hts⟩ (mX11_needArgument hl0 r3 σ4 (.inl r5) σ6 hcl H.size) (va_cwS 1 hts gX11_setWait_X11_needArgument rfl rfl rfl (by decide +kernel) ⟨Nat.le_of_ble_eq_true rfl, Nat.le_of_ble_eq_true rfl⟩) (x_preS _ hw hA hG) rfl rfl hl.1 rfl (lv_room (Nat.le_of_ble_eq_true rfl)) dX11_setWait_12 ⟨Nat.le_of_ble_eq_true rfl, Nat.le_of_ble_eq_true rfl⟩) hw hA (fun q9 ce H locs h1 h2 h3 hw => by obtain ⟨_, h9, _⟩ := h3; cases h9) (fun H locs h1 hw => ?_)
  clear hcl h1
  refine lv_aload_n hx hb dX11_setWait_15 rfl (lv_at hl 0 rfl) ?_
  obtain ⟨σ8, hcl, hf⟩ := xc_e hf
  refine x_callv (va_runV (As := []) (rest := []) ⟨hx, hb, hml, hown, hts⟩ (mX11_remember hE σ6 σ8 hcl H.size) (cwV 0 hts gX11_setWait_X11_remember rfl rfl rfl (by decide +kernel) ⟨Nat.le_of_ble_eq_true rfl, Nat.le_of_ble_eq_true rfl⟩) (x_preV _ hw hA hG (cX0 hE) rfl) rfl rfl hl.1 rfl (lv_room (Nat.le_of_ble_eq_true rfl)) dX11_setWait_16 ⟨Nat.le_of_ble_eq_true rfl, Nat.le_of_ble_eq_true rfl⟩) hw hA (fun H locs hw => ?_)
  clear hcl
  refine lv_aload_n hx hb dX11_setWait_19 rfl (lv_at hl 0 rfl) ?_
  refine x_getr hx hb hw (cX0 hE) (own := RX11) (ref := RX11) (C := RX11) (T := TX11) (N := 14) hts hiX11 hown rfl 1 (by decide) hk31 (fun _ h9 => h9) rfl dX11_setWait_20 ?_
  refine x_getr hx hb hw (cX4 hE) (own := RX11) (ref := RX8) (C := RX8) (T := TX8) (N := 8) hts hiX8 hown rfl 5 (by decide) hk142 (fun _ h9 => h9) rfl dX11_setWait_23 ?_
  refine lv_iload_n hx hb dX11_setWait_26 rfl (lv_at hl 1 rfl) ?_
  obtain ⟨hin, hf⟩ := xr_f hf
  refine x_iald hx hb hw (cX10 hE) hin dX11_setWait_27 ?_
  refine lv_topi (fun v9 ex => ?_)
  replace hf := hf v9 ex
  clear ex hin
  refine lv_istore_n (lv' := [(3, .int v9), (0, .ref (E.a 0)), (1, .int p0), (2, .int p1)]) hx hb dX11_setWait_28 rfl hl (by decide) rfl (fun ls hl => ?_)
  refine lv_aload_n hx hb dX11_setWait_29 rfl (lv_at hl 1 rfl) ?_
  refine x_getr hx hb hw (cX0 hE) (own := RX11) (ref := RX11) (C := RX11) (T := TX11) (N := 14) hts hiX11 hown rfl 1 (by decide) hk31 (fun _ h9 => h9) rfl dX11_setWait_30 ?_
  refine x_getr hx hb hw (cX4 hE) (own := RX11) (ref := RX8) (C := RX8) (T := TX8) (N := 8) hts hiX8 hown rfl 5 (by decide) hk142 (fun _ h9 => h9) rfl dX11_setWait_33 ?_
  refine lv_iload_n hx hb dX11_setWait_36 rfl (lv_at hl 2 rfl) ?_
  refine lv_iload_n hx hb dX11_setWait_37 rfl (lv_at hl 3 rfl) ?_
  obtain ⟨hin, hf⟩ := xs_f hf
  refine x_iast hx hb hw (cX10 hE) hin dX11_setWait_38 (fun σ10 H locs ex hw => ?_)
  replace hf := hf σ10 ex
  clear ex hin
  refine lv_iload_n hx hb dX11_setWait_39 rfl (lv_at hl 0 rfl) ?_
  exact x_tiret hx hb hr hlk hw hf (Nat.le_of_ble_eq_true rfl) (Nat.le_of_ble_eq_true rfl) dX11_setWait_40

def fX11_readParts_c31 (a1 : Int32) (t0 : Int32) (σ : xSt) : Option (xO × xSt) := (xct (fX11_needArgument t0 σ) fun r6 σ7 => (xc (fX11_remember σ7) fun σ9 => (xcpy σ9 51 8 0 11 48 (a1 * 8) 8 fun σ10 => (xc2 (fX8_partsUpTo a1 7 σ10) fun r11 σ12 => some ((.inl r11 : xO), σ12)))))
def fX11_readParts (p0 : Int32) (σ : xSt) : Option (xO × xSt) := (xc2 (fX6_read σ) fun r1 σ2 => (xp σ2 49 1 0 fun σ3 => (xct (fX11_needRecipe p0 σ3) fun r4 σ5 => (if r1 = (-1) then fX11_readParts_c31 p0 1 σ5 else fX11_readParts_c31 p0 0 σ5))))
abbrev rmX11_readParts : Room := { frames := 8, cells := 2, slots := 12, locals := 139 }
set_option maxRecDepth 100000 in
set_option maxHeartbeats 4000000 in
theorem mX11_readParts {l : Launch} (hl0 : l.stackTraces = false) {E : xE} (hE : E.sh = shX) (p0 : Int32) (σ : xSt) (o1 : xO) (o2 : xSt) (hf : fX11_readParts p0 σ = some (o1, o2)) : xMt l yX11_readParts wsX11_readParts rmX11_readParts E [.ref (E.a 0), .int p0] σ o1 o2 2 := by
  unfold fX11_readParts at hf
  refine xMt_of (cc := cX11_readParts) (maxL := 3) (ret := (some .int)) (by decide) rfl (Nat.le_of_ble_eq_true rfl) ?_
  intro p e s m args below meth c A ls ⟨hx, hb, hr, hml, hown, hts, hlk⟩ hA hG hw hl hex
  have hown : s.vm.findClass RX11 = some m.cls := hown
  have hl : lv_has ls 3 [(0, .ref (E.a 0)), (1, .int p0)] := hl
  have hk86 := hts (.fieldLink RX11 86 "OvenRound" "text" "LOvenRound$PartsText;") (by decide +kernel)
  have hiX11 : ∀ w ∈ wsX110, w ∈ wsX11_readParts := by decide +kernel
  have hk152 := hts (.fieldLink RX11 152 "OvenRound$PartsText" "length" "I") (by decide +kernel)
  have hiX6 : ∀ w ∈ wsX60, w ∈ wsX11_readParts := by decide +kernel
  have hk155 := hts (.fieldLink RX11 155 "OvenRound$PartsText" "parts" "[I") (by decide +kernel)
  have hk31 := hts (.fieldLink RX11 31 "OvenRound" "recipes" "LOvenRound$Recipes;") (by decide +kernel)
  have hk145 := hts (.fieldLink RX11 145 "OvenRound$Recipes" "parts" "[I") (by decide +kernel)
  have hiX8 : ∀ w ∈ wsX80, w ∈ wsX11_readParts := by decide +kernel
  have h31 : ∀ (a1 : Int32) (t0 : Int32) (σ : xSt) (H : Heap) (locs : List Loc) (ls : Array Slot), xw E A s.heap s σ H locs → lv_has ls 3 [(0, .ref (E.a 0)), (1, .int a1)] → fX11_readParts_c31 a1 t0 σ = some (o1, o2) → W p l e rmX11_readParts s m args below meth c H locs 1 6 (vx_MQ below (xQt E A o1 o2) (xXt E A o1 o2) args s 2 12 A) (F0 m 31 ls [.int t0]) := by
    intro a1 t0 σ H locs ls hw hl hf
    unfold fX11_readParts_c31 at hf
    rcases xct_e hf with ⟨k31, σ7, hcl, hf⟩ | ⟨r6, σ7, hcl, hf⟩
    · refine x_tcallv (vx_runS (As := [.int t0]) (rest := []) ⟨hx, hb, hml, hown, hts⟩ (mX11_needArgument hl0 t0 σ (.inr k31) σ7 hcl H.size) (va_cwS 1 hts gX11_readParts_X11_needArgument rfl rfl rfl (by decide +kernel) ⟨Nat.le_of_ble_eq_true rfl, Nat.le_of_ble_eq_true rfl⟩) (x_preS _ hw hA hG) rfl rfl hl.1 rfl (lv_room (Nat.le_of_ble_eq_true rfl)) dX11_readParts_31 ⟨Nat.le_of_ble_eq_true rfl, Nat.le_of_ble_eq_true rfl⟩) hw hA (fun q9 ce H locs h1 h2 h3 hw => ?_) (fun H locs h1 hw => nomatch h1)
      exact x_tout hlk hex h1 h2 h3 hw hf (Nat.le_of_ble_eq_true rfl) (Nat.le_of_ble_eq_true rfl)
    refine x_tcallv (vx_runS (As := [.int t0]) (rest := []) ⟨hx, hb, hml, hown, hts⟩ (mX11_needArgument hl0 t0 σ (.inl r6) σ7 hcl H.size) (va_cwS 1 hts gX11_readParts_X11_needArgument rfl rfl rfl (by decide +kernel) ⟨Nat.le_of_ble_eq_true rfl, Nat.le_of_ble_eq_true rfl⟩) (x_preS _ hw hA hG) rfl rfl hl.1 rfl (lv_room (Nat.le_of_ble_eq_true rfl)) dX11_readParts_31 ⟨Nat.le_of_ble_eq_true rfl, Nat.le_of_ble_eq_true rfl⟩) hw hA (fun q9 ce H locs h1 h2 h3 hw => by obtain ⟨_, h9, _⟩ := h3; cases h9) (fun H locs h1 hw => ?_)
    clear hcl h1
    refine lv_aload_n hx hb dX11_readParts_34 rfl (lv_at hl 0 rfl) ?_
    obtain ⟨σ9, hcl, hf⟩ := xc_e hf
    refine x_callv (va_runV (As := []) (rest := []) ⟨hx, hb, hml, hown, hts⟩ (mX11_remember hE σ7 σ9 hcl H.size) (cwV 0 hts gX11_readParts_X11_remember rfl rfl rfl (by decide +kernel) ⟨Nat.le_of_ble_eq_true rfl, Nat.le_of_ble_eq_true rfl⟩) (x_preV _ hw hA hG (cX0 hE) rfl) rfl rfl hl.1 rfl (lv_room (Nat.le_of_ble_eq_true rfl)) dX11_readParts_35 ⟨Nat.le_of_ble_eq_true rfl, Nat.le_of_ble_eq_true rfl⟩) hw hA (fun H locs hw => ?_)
    clear hcl
    refine lv_aload_n hx hb dX11_readParts_38 rfl (lv_at hl 0 rfl) ?_
    refine x_getr hx hb hw (cX0 hE) (own := RX11) (ref := RX11) (C := RX11) (T := TX11) (N := 14) hts hiX11 hown rfl 10 (by decide) hk86 (fun _ h9 => h9) rfl dX11_readParts_39 ?_
    refine x_getr hx hb hw (cX49 hE) (own := RX11) (ref := RX6) (C := RX6) (T := TX6) (N := 3) hts hiX6 hown rfl 2 (by decide) hk155 (fun _ h9 => h9) rfl dX11_readParts_42 ?_
    refine lv_iconst (v := 0) hx hb dX11_readParts_45 (by decide) ?_
    refine lv_aload_n hx hb dX11_readParts_46 rfl (lv_at hl 0 rfl) ?_
    refine x_getr hx hb hw (cX0 hE) (own := RX11) (ref := RX11) (C := RX11) (T := TX11) (N := 14) hts hiX11 hown rfl 1 (by decide) hk31 (fun _ h9 => h9) rfl dX11_readParts_47 ?_
    refine x_getr hx hb hw (cX4 hE) (own := RX11) (ref := RX8) (C := RX8) (T := TX8) (N := 8) hts hiX8 hown rfl 6 (by decide) hk145 (fun _ h9 => h9) rfl dX11_readParts_50 ?_
    refine lv_iload_n hx hb dX11_readParts_53 rfl (lv_at hl 1 rfl) ?_
    refine lv_bipush (v := 8) hx hb dX11_readParts_54 (by decide) ?_
    refine lv_imul hx hb dX11_readParts_56 ?_
    refine lv_bipush (v := 8) hx hb dX11_readParts_57 (by decide) ?_
    obtain ⟨hin, hf⟩ := xcpy_f hf
    refine x_copy hx hb (hml.trans hl.1.symm) hw hown (hts (.methodLink RX11 156 arraycopyName) (by decide +kernel)) (hts (.native arraycopyName) (by decide +kernel)) (hts (.static arraycopyName) (by decide +kernel)) (hts (.initialized "java/lang/System") (by decide +kernel)) (cX51 hE) (cX11 hE) hin (Nat.le_of_ble_eq_true rfl) (Nat.le_of_ble_eq_true rfl) dX11_readParts_59 (fun σ10 H locs ex hw => ?_)
    replace hf := hf σ10 ex
    clear ex hin
    refine lv_aload_n hx hb dX11_readParts_62 rfl (lv_at hl 0 rfl) ?_
    refine x_getr hx hb hw (cX0 hE) (own := RX11) (ref := RX11) (C := RX11) (T := TX11) (N := 14) hts hiX11 hown rfl 1 (by decide) hk31 (fun _ h9 => h9) rfl dX11_readParts_63 ?_
    refine lv_iload_n hx hb dX11_readParts_66 rfl (lv_at hl 1 rfl) ?_
    refine lv_bipush (v := 7) hx hb dX11_readParts_67 (by decide) ?_
    obtain ⟨r11, σ12, hcl, hf⟩ := xc2_f hf
    refine x_calli (va_runV (As := [.int a1, .int 7]) (rest := []) ⟨hx, hb, hml, hown, hts⟩ (mX8_partsUpTo hE a1 7 σ10 r11 σ12 hcl H.size) (cwV 2 hts gX11_readParts_X8_partsUpTo rfl rfl rfl (by decide +kernel) ⟨Nat.le_of_ble_eq_true rfl, Nat.le_of_ble_eq_true rfl⟩) (x_preV _ hw hA hG (cX4 hE) rfl) rfl rfl hl.1 rfl (lv_room (Nat.le_of_ble_eq_true rfl)) dX11_readParts_69 ⟨Nat.le_of_ble_eq_true rfl, Nat.le_of_ble_eq_true rfl⟩) hw hA (fun H locs hw => ?_)
    clear hcl
    exact x_tiret hx hb hr hlk hw hf (Nat.le_of_ble_eq_true rfl) (Nat.le_of_ble_eq_true rfl) dX11_readParts_72
  refine lv_aload_n hx hb dX11_readParts_0 rfl (lv_at hl 0 rfl) ?_
  refine x_getr hx hb hw (cX0 hE) (own := RX11) (ref := RX11) (C := RX11) (T := TX11) (N := 14) hts hiX11 hown rfl 10 (by decide) hk86 (fun _ h9 => h9) rfl dX11_readParts_1 ?_
  obtain ⟨r1, σ2, hcl, hf⟩ := xc2_f hf
  refine x_calli (va_runV (As := []) (rest := []) ⟨hx, hb, hml, hown, hts⟩ (mX6_read hE σ r1 σ2 hcl s.heap.size) (cwV 0 hts gX11_readParts_X6_read rfl rfl rfl (by decide +kernel) ⟨Nat.le_of_ble_eq_true rfl, Nat.le_of_ble_eq_true rfl⟩) (x_preV _ hw hA hG (cX49 hE) rfl) rfl rfl hl.1 rfl (lv_room (Nat.le_of_ble_eq_true rfl)) dX11_readParts_4 ⟨Nat.le_of_ble_eq_true rfl, Nat.le_of_ble_eq_true rfl⟩) hw hA (fun H locs hw => ?_)
  clear hcl
  refine lv_istore_n (lv' := [(2, .int r1), (0, .ref (E.a 0)), (1, .int p0)]) hx hb dX11_readParts_7 rfl hl (by decide) rfl (fun ls hl => ?_)
  refine lv_aload_n hx hb dX11_readParts_8 rfl (lv_at hl 1 rfl) ?_
  refine x_getr hx hb hw (cX0 hE) (own := RX11) (ref := RX11) (C := RX11) (T := TX11) (N := 14) hts hiX11 hown rfl 10 (by decide) hk86 (fun _ h9 => h9) rfl dX11_readParts_9 ?_
  refine lv_iconst (v := 0) hx hb dX11_readParts_12 (by decide) ?_
  refine x_puti hx hb hw (cX49 hE) (own := RX11) (ref := RX6) (C := RX6) (T := TX6) (N := 3) hts hiX6 tyX6 tyX6_ok nmX6 hown rfl 1 (by decide) hk152 (fun _ h9 => h9) rfl (by decide +kernel) rfl dX11_readParts_13 (fun σ3 H locs ex hw => ?_)
  replace hf := xp_f hf σ3 ex
  clear ex
  refine lv_aload_n hx hb dX11_readParts_16 rfl (lv_at hl 1 rfl) ?_
  refine lv_iload_n hx hb dX11_readParts_17 rfl (lv_at hl 2 rfl) ?_
  rcases xct_e hf with ⟨k18, σ5, hcl, hf⟩ | ⟨r4, σ5, hcl, hf⟩
  · refine x_tcallv (vx_runV (As := [.int p0]) (rest := []) ⟨hx, hb, hml, hown, hts⟩ (mX11_needRecipe hl0 hE p0 σ3 (.inr k18) σ5 hcl H.size) (cwV 1 hts gX11_readParts_X11_needRecipe rfl rfl rfl (by decide +kernel) ⟨Nat.le_of_ble_eq_true rfl, Nat.le_of_ble_eq_true rfl⟩) (x_preV _ hw hA hG (cX0 hE) rfl) rfl rfl hl.1 rfl (lv_room (Nat.le_of_ble_eq_true rfl)) dX11_readParts_18 ⟨Nat.le_of_ble_eq_true rfl, Nat.le_of_ble_eq_true rfl⟩) hw hA (fun q9 ce H locs h1 h2 h3 hw => ?_) (fun H locs h1 hw => nomatch h1)
    exact x_tout hlk hex h1 h2 h3 hw hf (Nat.le_of_ble_eq_true rfl) (Nat.le_of_ble_eq_true rfl)
  refine x_tcallv (vx_runV (As := [.int p0]) (rest := []) ⟨hx, hb, hml, hown, hts⟩ (mX11_needRecipe hl0 hE p0 σ3 (.inl r4) σ5 hcl H.size) (cwV 1 hts gX11_readParts_X11_needRecipe rfl rfl rfl (by decide +kernel) ⟨Nat.le_of_ble_eq_true rfl, Nat.le_of_ble_eq_true rfl⟩) (x_preV _ hw hA hG (cX0 hE) rfl) rfl rfl hl.1 rfl (lv_room (Nat.le_of_ble_eq_true rfl)) dX11_readParts_18 ⟨Nat.le_of_ble_eq_true rfl, Nat.le_of_ble_eq_true rfl⟩) hw hA (fun q9 ce H locs h1 h2 h3 hw => by obtain ⟨_, h9, _⟩ := h3; cases h9) (fun H locs h1 hw => ?_)
  clear hcl h1
  refine lv_iload_n hx hb dX11_readParts_21 rfl (lv_at hl 0 rfl) ?_
  refine lv_iconst (v := (-1)) hx hb dX11_readParts_22 (by decide) ?_
  refine lv_icmp_ne (tgt := 30) hx hb dX11_readParts_23 (by decide) (fun c23 => ?_) (fun c23 => ?_)
  · replace hf := xif_neg c23 hf
    refine lv_iconst (v := 0) hx hb dX11_readParts_30 (by decide) ?_
    exact h31 p0 0 σ5 _ _ _ hw (lv_sub hl [1, 2] rfl) hf
  · replace hf := xif_pos c23 hf
    refine lv_iconst (v := 1) hx hb dX11_readParts_26 (by decide) ?_
    refine lv_goto (tgt := 31) hx hb dX11_readParts_27 (by decide) ?_
    exact h31 p0 1 σ5 _ _ _ hw (lv_sub hl [1, 2] rfl) hf

def fX11_amount (p0 : Int32) (p1 : Int32) (p2 : Int32) (σ : xSt) : Option (xO × xSt) := (xct (fX11_needRecipe p0 σ) fun r1 σ2 => (xct (fX11_needGood p2 σ2) fun r3 σ4 => (xc2 (fX11_isWithin p1 1 100000 σ4) fun r5 σ6 => (xct (fX11_needArgument r5 σ6) fun r7 σ8 => (xc2 (fX8_hasParts p0 σ8) fun r9 σ10 => (xct (fX11_needState r9 σ10) fun r11 σ12 => (xc2 (fX8_scaled p0 p1 p2 σ12) fun r13 σ14 => some ((.inl r13 : xO), σ14))))))))
abbrev rmX11_amount : Room := { frames := 8, cells := 4, slots := 24, locals := 131 }
set_option maxRecDepth 100000 in
set_option maxHeartbeats 4000000 in
theorem mX11_amount {l : Launch} (hl0 : l.stackTraces = false) {E : xE} (hE : E.sh = shX) (p0 : Int32) (p1 : Int32) (p2 : Int32) (σ : xSt) (o1 : xO) (o2 : xSt) (hf : fX11_amount p0 p1 p2 σ = some (o1, o2)) : xMt l yX11_amount wsX11_amount rmX11_amount E [.ref (E.a 0), .int p0, .int p1, .int p2] σ o1 o2 4 := by
  unfold fX11_amount at hf
  refine xMt_of (cc := cX11_amount) (maxL := 4) (ret := (some .int)) (by decide) rfl (Nat.le_of_ble_eq_true rfl) ?_
  intro p e s m args below meth c A ls ⟨hx, hb, hr, hml, hown, hts, hlk⟩ hA hG hw hl hex
  have hown : s.vm.findClass RX11 = some m.cls := hown
  have hl : lv_has ls 4 [(0, .ref (E.a 0)), (1, .int p0), (2, .int p1), (3, .int p2)] := hl
  have hk31 := hts (.fieldLink RX11 31 "OvenRound" "recipes" "LOvenRound$Recipes;") (by decide +kernel)
  have hiX11 : ∀ w ∈ wsX110, w ∈ wsX11_amount := by decide +kernel
  refine lv_aload_n hx hb dX11_amount_0 rfl (lv_at hl 0 rfl) ?_
  refine lv_iload_n hx hb dX11_amount_1 rfl (lv_at hl 1 rfl) ?_
  rcases xct_e hf with ⟨k2, σ2, hcl, hf⟩ | ⟨r1, σ2, hcl, hf⟩
  · refine x_tcallv (vx_runV (As := [.int p0]) (rest := []) ⟨hx, hb, hml, hown, hts⟩ (mX11_needRecipe hl0 hE p0 σ (.inr k2) σ2 hcl s.heap.size) (cwV 1 hts gX11_amount_X11_needRecipe rfl rfl rfl (by decide +kernel) ⟨Nat.le_of_ble_eq_true rfl, Nat.le_of_ble_eq_true rfl⟩) (x_preV _ hw hA hG (cX0 hE) rfl) rfl rfl hl.1 rfl (lv_room (Nat.le_of_ble_eq_true rfl)) dX11_amount_2 ⟨Nat.le_of_ble_eq_true rfl, Nat.le_of_ble_eq_true rfl⟩) hw hA (fun q9 ce H locs h1 h2 h3 hw => ?_) (fun H locs h1 hw => nomatch h1)
    exact x_tout hlk hex h1 h2 h3 hw hf (Nat.le_of_ble_eq_true rfl) (Nat.le_of_ble_eq_true rfl)
  refine x_tcallv (vx_runV (As := [.int p0]) (rest := []) ⟨hx, hb, hml, hown, hts⟩ (mX11_needRecipe hl0 hE p0 σ (.inl r1) σ2 hcl s.heap.size) (cwV 1 hts gX11_amount_X11_needRecipe rfl rfl rfl (by decide +kernel) ⟨Nat.le_of_ble_eq_true rfl, Nat.le_of_ble_eq_true rfl⟩) (x_preV _ hw hA hG (cX0 hE) rfl) rfl rfl hl.1 rfl (lv_room (Nat.le_of_ble_eq_true rfl)) dX11_amount_2 ⟨Nat.le_of_ble_eq_true rfl, Nat.le_of_ble_eq_true rfl⟩) hw hA (fun q9 ce H locs h1 h2 h3 hw => by obtain ⟨_, h9, _⟩ := h3; cases h9) (fun H locs h1 hw => ?_)
  clear hcl h1
  refine lv_iload_n hx hb dX11_amount_5 rfl (lv_at hl 3 rfl) ?_
  rcases xct_e hf with ⟨k6, σ4, hcl, hf⟩ | ⟨r3, σ4, hcl, hf⟩
  · refine x_tcallv (vx_runS (As := [.int p2]) (rest := []) ⟨hx, hb, hml, hown, hts⟩ (mX11_needGood hl0 hE p2 σ2 (.inr k6) σ4 hcl H.size) (va_cwS 1 hts gX11_amount_X11_needGood rfl rfl rfl (by decide +kernel) ⟨Nat.le_of_ble_eq_true rfl, Nat.le_of_ble_eq_true rfl⟩) (x_preS _ hw hA hG) rfl rfl hl.1 rfl (lv_room (Nat.le_of_ble_eq_true rfl)) dX11_amount_6 ⟨Nat.le_of_ble_eq_true rfl, Nat.le_of_ble_eq_true rfl⟩) hw hA (fun q9 ce H locs h1 h2 h3 hw => ?_) (fun H locs h1 hw => nomatch h1)
    exact x_tout hlk hex h1 h2 h3 hw hf (Nat.le_of_ble_eq_true rfl) (Nat.le_of_ble_eq_true rfl)
  refine x_tcallv (vx_runS (As := [.int p2]) (rest := []) ⟨hx, hb, hml, hown, hts⟩ (mX11_needGood hl0 hE p2 σ2 (.inl r3) σ4 hcl H.size) (va_cwS 1 hts gX11_amount_X11_needGood rfl rfl rfl (by decide +kernel) ⟨Nat.le_of_ble_eq_true rfl, Nat.le_of_ble_eq_true rfl⟩) (x_preS _ hw hA hG) rfl rfl hl.1 rfl (lv_room (Nat.le_of_ble_eq_true rfl)) dX11_amount_6 ⟨Nat.le_of_ble_eq_true rfl, Nat.le_of_ble_eq_true rfl⟩) hw hA (fun q9 ce H locs h1 h2 h3 hw => by obtain ⟨_, h9, _⟩ := h3; cases h9) (fun H locs h1 hw => ?_)
  clear hcl h1
  refine lv_iload_n hx hb dX11_amount_9 rfl (lv_at hl 2 rfl) ?_
  refine lv_iconst (v := 1) hx hb dX11_amount_10 (by decide) ?_
  refine lv_ldc hx hb hown (hts (.constant RX11 166 (100000)) (by decide +kernel)) dX11_amount_11 ?_
  obtain ⟨r5, σ6, hcl, hf⟩ := xc2_f hf
  refine x_calli (va_runS (As := [.int p1, .int 1, .int 100000]) (rest := []) ⟨hx, hb, hml, hown, hts⟩ (mX11_isWithin hE p1 1 100000 σ4 r5 σ6 hcl H.size) (va_cwS 3 hts gX11_amount_X11_isWithin rfl rfl rfl (by decide +kernel) ⟨Nat.le_of_ble_eq_true rfl, Nat.le_of_ble_eq_true rfl⟩) (x_preS _ hw hA hG) rfl rfl hl.1 rfl (lv_room (Nat.le_of_ble_eq_true rfl)) dX11_amount_13 ⟨Nat.le_of_ble_eq_true rfl, Nat.le_of_ble_eq_true rfl⟩) hw hA (fun H locs hw => ?_)
  clear hcl
  rcases xct_e hf with ⟨k16, σ8, hcl, hf⟩ | ⟨r7, σ8, hcl, hf⟩
  · refine x_tcallv (vx_runS (As := [.int r5]) (rest := []) ⟨hx, hb, hml, hown, hts⟩ (mX11_needArgument hl0 r5 σ6 (.inr k16) σ8 hcl H.size) (va_cwS 1 hts gX11_amount_X11_needArgument rfl rfl rfl (by decide +kernel) ⟨Nat.le_of_ble_eq_true rfl, Nat.le_of_ble_eq_true rfl⟩) (x_preS _ hw hA hG) rfl rfl hl.1 rfl (lv_room (Nat.le_of_ble_eq_true rfl)) dX11_amount_16 ⟨Nat.le_of_ble_eq_true rfl, Nat.le_of_ble_eq_true rfl⟩) hw hA (fun q9 ce H locs h1 h2 h3 hw => ?_) (fun H locs h1 hw => nomatch h1)
    exact x_tout hlk hex h1 h2 h3 hw hf (Nat.le_of_ble_eq_true rfl) (Nat.le_of_ble_eq_true rfl)
  refine x_tcallv (vx_runS (As := [.int r5]) (rest := []) ⟨hx, hb, hml, hown, hts⟩ (mX11_needArgument hl0 r5 σ6 (.inl r7) σ8 hcl H.size) (va_cwS 1 hts gX11_amount_X11_needArgument rfl rfl rfl (by decide +kernel) ⟨Nat.le_of_ble_eq_true rfl, Nat.le_of_ble_eq_true rfl⟩) (x_preS _ hw hA hG) rfl rfl hl.1 rfl (lv_room (Nat.le_of_ble_eq_true rfl)) dX11_amount_16 ⟨Nat.le_of_ble_eq_true rfl, Nat.le_of_ble_eq_true rfl⟩) hw hA (fun q9 ce H locs h1 h2 h3 hw => by obtain ⟨_, h9, _⟩ := h3; cases h9) (fun H locs h1 hw => ?_)
  clear hcl h1
  refine lv_aload_n hx hb dX11_amount_19 rfl (lv_at hl 0 rfl) ?_
  refine x_getr hx hb hw (cX0 hE) (own := RX11) (ref := RX11) (C := RX11) (T := TX11) (N := 14) hts hiX11 hown rfl 1 (by decide) hk31 (fun _ h9 => h9) rfl dX11_amount_20 ?_
  refine lv_iload_n hx hb dX11_amount_23 rfl (lv_at hl 1 rfl) ?_
  obtain ⟨r9, σ10, hcl, hf⟩ := xc2_f hf
  refine x_calli (va_runV (As := [.int p0]) (rest := []) ⟨hx, hb, hml, hown, hts⟩ (mX8_hasParts hE p0 σ8 r9 σ10 hcl H.size) (cwV 1 hts gX11_amount_X8_hasParts rfl rfl rfl (by decide +kernel) ⟨Nat.le_of_ble_eq_true rfl, Nat.le_of_ble_eq_true rfl⟩) (x_preV _ hw hA hG (cX4 hE) rfl) rfl rfl hl.1 rfl (lv_room (Nat.le_of_ble_eq_true rfl)) dX11_amount_24 ⟨Nat.le_of_ble_eq_true rfl, Nat.le_of_ble_eq_true rfl⟩) hw hA (fun H locs hw => ?_)
  clear hcl
  rcases xct_e hf with ⟨k27, σ12, hcl, hf⟩ | ⟨r11, σ12, hcl, hf⟩
  · refine x_tcallv (vx_runS (As := [.int r9]) (rest := []) ⟨hx, hb, hml, hown, hts⟩ (mX11_needState hl0 r9 σ10 (.inr k27) σ12 hcl H.size) (va_cwS 1 hts gX11_amount_X11_needState rfl rfl rfl (by decide +kernel) ⟨Nat.le_of_ble_eq_true rfl, Nat.le_of_ble_eq_true rfl⟩) (x_preS _ hw hA hG) rfl rfl hl.1 rfl (lv_room (Nat.le_of_ble_eq_true rfl)) dX11_amount_27 ⟨Nat.le_of_ble_eq_true rfl, Nat.le_of_ble_eq_true rfl⟩) hw hA (fun q9 ce H locs h1 h2 h3 hw => ?_) (fun H locs h1 hw => nomatch h1)
    exact x_tout hlk hex h1 h2 h3 hw hf (Nat.le_of_ble_eq_true rfl) (Nat.le_of_ble_eq_true rfl)
  refine x_tcallv (vx_runS (As := [.int r9]) (rest := []) ⟨hx, hb, hml, hown, hts⟩ (mX11_needState hl0 r9 σ10 (.inl r11) σ12 hcl H.size) (va_cwS 1 hts gX11_amount_X11_needState rfl rfl rfl (by decide +kernel) ⟨Nat.le_of_ble_eq_true rfl, Nat.le_of_ble_eq_true rfl⟩) (x_preS _ hw hA hG) rfl rfl hl.1 rfl (lv_room (Nat.le_of_ble_eq_true rfl)) dX11_amount_27 ⟨Nat.le_of_ble_eq_true rfl, Nat.le_of_ble_eq_true rfl⟩) hw hA (fun q9 ce H locs h1 h2 h3 hw => by obtain ⟨_, h9, _⟩ := h3; cases h9) (fun H locs h1 hw => ?_)
  clear hcl h1
  refine lv_aload_n hx hb dX11_amount_30 rfl (lv_at hl 0 rfl) ?_
  refine x_getr hx hb hw (cX0 hE) (own := RX11) (ref := RX11) (C := RX11) (T := TX11) (N := 14) hts hiX11 hown rfl 1 (by decide) hk31 (fun _ h9 => h9) rfl dX11_amount_31 ?_
  refine lv_iload_n hx hb dX11_amount_34 rfl (lv_at hl 1 rfl) ?_
  refine lv_iload_n hx hb dX11_amount_35 rfl (lv_at hl 2 rfl) ?_
  refine lv_iload_n hx hb dX11_amount_36 rfl (lv_at hl 3 rfl) ?_
  obtain ⟨r13, σ14, hcl, hf⟩ := xc2_f hf
  refine x_calli (va_runV (As := [.int p0, .int p1, .int p2]) (rest := []) ⟨hx, hb, hml, hown, hts⟩ (mX8_scaled hE p0 p1 p2 σ12 r13 σ14 hcl H.size) (cwV 3 hts gX11_amount_X8_scaled rfl rfl rfl (by decide +kernel) ⟨Nat.le_of_ble_eq_true rfl, Nat.le_of_ble_eq_true rfl⟩) (x_preV _ hw hA hG (cX4 hE) rfl) rfl rfl hl.1 rfl (lv_room (Nat.le_of_ble_eq_true rfl)) dX11_amount_37 ⟨Nat.le_of_ble_eq_true rfl, Nat.le_of_ble_eq_true rfl⟩) hw hA (fun H locs hw => ?_)
  clear hcl
  exact x_tiret hx hb hr hlk hw hf (Nat.le_of_ble_eq_true rfl) (Nat.le_of_ble_eq_true rfl) dX11_amount_40

def fX11_isEnoughFor_c2 : Nat → Int32 → Int32 → Int32 → xSt → Option (Int32 × xSt)
  | 0 => fun _ _ _ _ => none
  | n + 1 => fun a1 a2 a3 σ => (if 8 ≤ a3 then some (1, σ) else (xr σ 3 8 a3 fun v1 => (xc2 (fX8_scaled a1 a2 a3 σ) fun r2 σ3 => (if r2 ≤ v1 then (xl (a3 + 1) fun v4 => fX11_isEnoughFor_c2 n a1 a2 v4 σ3) else some (0, σ3)))))
theorem fX11_isEnoughFor_c2_s (n : Nat) (a1 : Int32) (a2 : Int32) (a3 : Int32) (σ : xSt) : fX11_isEnoughFor_c2 (n + 1) a1 a2 a3 σ = ((if 8 ≤ a3 then some (1, σ) else (xr σ 3 8 a3 fun v1 => (xc2 (fX8_scaled a1 a2 a3 σ) fun r2 σ3 => (if r2 ≤ v1 then (xl (a3 + 1) fun v4 => fX11_isEnoughFor_c2 n a1 a2 v4 σ3) else some (0, σ3))))) : Option (Int32 × xSt)) := rfl
def fX11_isEnoughFor (p0 : Int32) (p1 : Int32) (σ : xSt) : Option (Int32 × xSt) := fX11_isEnoughFor_c2 xFU p0 p1 0 σ
abbrev rmX11_isEnoughFor : Room := { frames := 3, cells := 0, slots := 0, locals := 71 }
set_option maxRecDepth 100000 in
set_option maxHeartbeats 4000000 in
theorem mX11_isEnoughFor {l : Launch} {E : xE} (hE : E.sh = shX) (p0 : Int32) (p1 : Int32) (σ : xSt) (o1 : Int32) (o2 : xSt) (hf : fX11_isEnoughFor p0 p1 σ = some (o1, o2)) : xMi l yX11_isEnoughFor wsX11_isEnoughFor rmX11_isEnoughFor E [.ref (E.a 0), .int p0, .int p1] σ o1 o2 := by
  unfold fX11_isEnoughFor at hf
  refine xMi_of (cc := cX11_isEnoughFor) (maxL := 4) (ret := (some .boolean)) (by decide) rfl (Nat.le_of_ble_eq_true rfl) ?_
  intro p e s m args below meth c A ls ⟨hx, hb, hr, hml, hown, hts, hlk⟩ hA hG hw hl
  have hown : s.vm.findClass RX11 = some m.cls := hown
  have hl : lv_has ls 4 [(0, .ref (E.a 0)), (1, .int p0), (2, .int p1)] := hl
  have hk24 := hts (.fieldLink RX11 24 "OvenRound" "store" "LOvenRound$Store;") (by decide +kernel)
  have hiX11 : ∀ w ∈ wsX110, w ∈ wsX11_isEnoughFor := by decide +kernel
  have hk107 := hts (.fieldLink RX11 107 "OvenRound$Store" "grams" "[I") (by decide +kernel)
  have hiX10 : ∀ w ∈ wsX100, w ∈ wsX11_isEnoughFor := by decide +kernel
  have hk31 := hts (.fieldLink RX11 31 "OvenRound" "recipes" "LOvenRound$Recipes;") (by decide +kernel)
  have h2 : ∀ (n : Nat) (a1 : Int32) (a2 : Int32) (a3 : Int32) (σ : xSt) (H : Heap) (locs : List Loc) (ls : Array Slot), xw E A s.heap s σ H locs → lv_has ls 4 [(0, .ref (E.a 0)), (1, .int a1), (2, .int a2), (3, .int a3)] → fX11_isEnoughFor_c2 n a1 a2 a3 σ = some (o1, o2) → W p l e rmX11_isEnoughFor s m args below meth c H locs 0 0 (MQ below (xQi E A o1 o2) args s 0 0 A) (F0 m 2 ls []) := by
    intro n2
    induction n2 with
    | zero => intro a1 a2 a3 σ H locs ls hw hl hf; exact nomatch hf
    | succ n2 ih2 =>
      intro a1 a2 a3 σ H locs ls hw hl hf
      rw [fX11_isEnoughFor_c2_s] at hf
      refine lv_iload_n hx hb dX11_isEnoughFor_2 rfl (lv_at hl 3 rfl) ?_
      refine lv_bipush (v := 8) hx hb dX11_isEnoughFor_3 (by decide) ?_
      refine lv_icmp_ge (tgt := 38) hx hb dX11_isEnoughFor_5 (by decide) (fun c5 => ?_) (fun c5 => ?_)
      · replace hf := xif_pos c5 hf
        refine lv_iconst (v := 1) hx hb dX11_isEnoughFor_38 (by decide) ?_
        exact x_zretc hx hb hr hlk hw (by decide) hf dX11_isEnoughFor_39
      · replace hf := xif_neg c5 hf
        refine lv_aload_n hx hb dX11_isEnoughFor_8 rfl (lv_at hl 0 rfl) ?_
        refine x_getr hx hb hw (cX0 hE) (own := RX11) (ref := RX11) (C := RX11) (T := TX11) (N := 14) hts hiX11 hown rfl 0 (by decide) hk24 (fun _ h9 => h9) rfl dX11_isEnoughFor_9 ?_
        refine x_getr hx hb hw (cX2 hE) (own := RX11) (ref := RX10) (C := RX10) (T := TX10) (N := 4) hts hiX10 hown rfl 0 (by decide) hk107 (fun _ h9 => h9) rfl dX11_isEnoughFor_12 ?_
        refine lv_iload_n hx hb dX11_isEnoughFor_15 rfl (lv_at hl 3 rfl) ?_
        obtain ⟨hin, hf⟩ := xr_f hf
        refine x_iald hx hb hw (cX3 hE) hin dX11_isEnoughFor_16 ?_
        refine lv_topi (fun v1 ex => ?_)
        replace hf := hf v1 ex
        clear ex hin
        refine lv_aload_n hx hb dX11_isEnoughFor_17 rfl (lv_at hl 0 rfl) ?_
        refine x_getr hx hb hw (cX0 hE) (own := RX11) (ref := RX11) (C := RX11) (T := TX11) (N := 14) hts hiX11 hown rfl 1 (by decide) hk31 (fun _ h9 => h9) rfl dX11_isEnoughFor_18 ?_
        refine lv_iload_n hx hb dX11_isEnoughFor_21 rfl (lv_at hl 1 rfl) ?_
        refine lv_iload_n hx hb dX11_isEnoughFor_22 rfl (lv_at hl 2 rfl) ?_
        refine lv_iload_n hx hb dX11_isEnoughFor_23 rfl (lv_at hl 3 rfl) ?_
        obtain ⟨r2, σ3, hcl, hf⟩ := xc2_f hf
        refine x_calli (va_runV (As := [.int a1, .int a2, .int a3]) (rest := [.int v1]) ⟨hx, hb, hml, hown, hts⟩ (mX8_scaled hE a1 a2 a3 σ r2 σ3 hcl H.size) (cwV 3 hts gX11_isEnoughFor_X8_scaled rfl rfl rfl (by decide +kernel) ⟨Nat.le_of_ble_eq_true rfl, Nat.le_of_ble_eq_true rfl⟩) (x_preV _ hw hA hG (cX4 hE) rfl) rfl rfl hl.1 rfl (lv_room (Nat.le_of_ble_eq_true rfl)) dX11_isEnoughFor_24 ⟨Nat.le_of_ble_eq_true rfl, Nat.le_of_ble_eq_true rfl⟩) hw hA (fun H locs hw => ?_)
        clear hcl
        refine lv_icmp_ge (tgt := 32) hx hb dX11_isEnoughFor_27 (by decide) (fun c27 => ?_) (fun c27 => ?_)
        · replace hf := xif_pos c27 hf
          obtain ⟨v4, ex⟩ : ∃ y : Int32, y = (a3 + 1) := ⟨_, rfl⟩
          replace hf := xl_f hf v4 ex
          refine lv_iinc (v := v4) (lv' := [(3, .int v4), (0, .ref (E.a 0)), (1, .int a1), (2, .int a2)]) hx hb dX11_isEnoughFor_32 hl (k := 3) rfl (by rw [ex]; rfl) (by decide) rfl (fun ls hl => ?_)
          clear ex
          refine lv_goto (tgt := 2) hx hb dX11_isEnoughFor_35 (by decide) ?_
          exact ih2 a1 a2 v4 σ3 _ _ _ hw (lv_sub hl [1, 2, 3, 0] rfl) hf
        · replace hf := xif_neg c27 hf
          refine lv_iconst (v := 0) hx hb dX11_isEnoughFor_30 (by decide) ?_
          exact x_zretc hx hb hr hlk hw (by decide) hf dX11_isEnoughFor_31
  refine lv_iconst (v := 0) hx hb dX11_isEnoughFor_0 (by decide) ?_
  refine lv_istore_n (lv' := [(3, .int 0), (0, .ref (E.a 0)), (1, .int p0), (2, .int p1)]) hx hb dX11_isEnoughFor_1 rfl hl (by decide) rfl (fun ls hl => ?_)
  exact h2 xFU p0 p1 0 σ _ _ _ hw (lv_sub hl [1, 2, 3, 0] rfl) hf

def fX11_mix_c74 : Nat → Int32 → Int32 → Int32 → Int32 → xSt → Option (xO × xSt)
  | 0 => fun _ _ _ _ _ => none
  | n + 1 => fun a1 a2 a3 a4 σ => (if 8 ≤ a4 then (xc2 (fX2_add a1 a2 a3 σ) fun r17 σ18 => some ((.inl r17 : xO), σ18)) else (xr σ 3 8 a4 fun v19 => (xc2 (fX8_scaled a1 a3 a4 σ) fun r20 σ21 => (xs σ21 3 8 a4 (v19 - r20) fun σ22 => (xl (a4 + 1) fun v23 => fX11_mix_c74 n a1 a2 a3 v23 σ22)))))
theorem fX11_mix_c74_s (n : Nat) (a1 : Int32) (a2 : Int32) (a3 : Int32) (a4 : Int32) (σ : xSt) : fX11_mix_c74 (n + 1) a1 a2 a3 a4 σ = ((if 8 ≤ a4 then (xc2 (fX2_add a1 a2 a3 σ) fun r17 σ18 => some ((.inl r17 : xO), σ18)) else (xr σ 3 8 a4 fun v19 => (xc2 (fX8_scaled a1 a3 a4 σ) fun r20 σ21 => (xs σ21 3 8 a4 (v19 - r20) fun σ22 => (xl (a4 + 1) fun v23 => fX11_mix_c74 n a1 a2 a3 v23 σ22))))) : Option (xO × xSt)) := rfl
def fX11_mix_c64 (a1 : Int32) (a2 : Int32) (a3 : Int32) (t0 : Int32) (σ : xSt) : Option (xO × xSt) := (xct (fX11_needState t0 σ) fun r13 σ14 => (xc (fX11_remember σ14) fun σ16 => fX11_mix_c74 xFU a1 a2 a3 0 σ16))
def fX11_mix_c63 (a1 : Int32) (a2 : Int32) (a3 : Int32) (σ : xSt) : Option (xO × xSt) := fX11_mix_c64 a1 a2 a3 0 σ
def fX11_mix (p0 : Int32) (p1 : Int32) (σ : xSt) : Option (xO × xSt) := (xct (fX11_needRecipe p0 σ) fun r1 σ2 => (xc2 (fX11_isWithin p1 1 40 σ2) fun r3 σ4 => (xct (fX11_needArgument r3 σ4) fun r5 σ6 => (xr σ6 5 6 p0 fun v7 => (xl (p1 * v7) fun v8 => (if 20 ≤ (σ6 12 7) then fX11_mix_c63 p0 p1 v8 σ6 else (xc2 (fX8_hasParts p0 σ6) fun r9 σ10 => (if r9 = 0 then fX11_mix_c63 p0 p1 v8 σ10 else (xc2 (fX11_isEnoughFor p0 v8 σ10) fun r11 σ12 => (if r11 = 0 then fX11_mix_c63 p0 p1 v8 σ12 else fX11_mix_c64 p0 p1 v8 1 σ12))))))))))
abbrev rmX11_mix : Room := { frames := 8, cells := 3, slots := 18, locals := 139 }
set_option maxRecDepth 100000 in
set_option maxHeartbeats 4000000 in
theorem mX11_mix {l : Launch} (hl0 : l.stackTraces = false) {E : xE} (hE : E.sh = shX) (p0 : Int32) (p1 : Int32) (σ : xSt) (o1 : xO) (o2 : xSt) (hf : fX11_mix p0 p1 σ = some (o1, o2)) : xMt l yX11_mix wsX11_mix rmX11_mix E [.ref (E.a 0), .int p0, .int p1] σ o1 o2 3 := by
  unfold fX11_mix at hf
  refine xMt_of (cc := cX11_mix) (maxL := 5) (ret := (some .int)) (by decide) rfl (Nat.le_of_ble_eq_true rfl) ?_
  intro p e s m args below meth c A ls ⟨hx, hb, hr, hml, hown, hts, hlk⟩ hA hG hw hl hex
  have hown : s.vm.findClass RX11 = some m.cls := hown
  have hl : lv_has ls 5 [(0, .ref (E.a 0)), (1, .int p0), (2, .int p1)] := hl
  have hk31 := hts (.fieldLink RX11 31 "OvenRound" "recipes" "LOvenRound$Recipes;") (by decide +kernel)
  have hiX11 : ∀ w ∈ wsX110, w ∈ wsX11_mix := by decide +kernel
  have hk124 := hts (.fieldLink RX11 124 "OvenRound$Recipes" "piece" "[I") (by decide +kernel)
  have hiX8 : ∀ w ∈ wsX80, w ∈ wsX11_mix := by decide +kernel
  have hk36 := hts (.fieldLink RX11 36 "OvenRound" "doughs" "LOvenRound$Doughs;") (by decide +kernel)
  have hk175 := hts (.fieldLink RX11 175 "OvenRound$Doughs" "count" "I") (by decide +kernel)
  have hiX2 : ∀ w ∈ wsX20, w ∈ wsX11_mix := by decide +kernel
  have hk24 := hts (.fieldLink RX11 24 "OvenRound" "store" "LOvenRound$Store;") (by decide +kernel)
  have hk107 := hts (.fieldLink RX11 107 "OvenRound$Store" "grams" "[I") (by decide +kernel)
  have hiX10 : ∀ w ∈ wsX100, w ∈ wsX11_mix := by decide +kernel
  have h74 : ∀ (n : Nat) (a1 : Int32) (a2 : Int32) (a3 : Int32) (a4 : Int32) (σ : xSt) (H : Heap) (locs : List Loc) (ls : Array Slot), xw E A s.heap s σ H locs → lv_has ls 5 [(0, .ref (E.a 0)), (1, .int a1), (2, .int a2), (3, .int a3), (4, .int a4)] → fX11_mix_c74 n a1 a2 a3 a4 σ = some (o1, o2) → W p l e rmX11_mix s m args below meth c H locs 3 18 (vx_MQ below (xQt E A o1 o2) (xXt E A o1 o2) args s 3 18 A) (F0 m 74 ls []) := by
    intro n74
    induction n74 with
    | zero => intro a1 a2 a3 a4 σ H locs ls hw hl hf; exact nomatch hf
    | succ n74 ih74 =>
      intro a1 a2 a3 a4 σ H locs ls hw hl hf
      rw [fX11_mix_c74_s] at hf
      refine lv_iload hx hb dX11_mix_74 (lv_at hl 4 rfl) ?_
      refine lv_bipush (v := 8) hx hb dX11_mix_76 (by decide) ?_
      refine lv_icmp_ge (tgt := 111) hx hb dX11_mix_78 (by decide) (fun c78 => ?_) (fun c78 => ?_)
      · replace hf := xif_pos c78 hf
        refine lv_aload_n hx hb dX11_mix_111 rfl (lv_at hl 0 rfl) ?_
        refine x_getr hx hb hw (cX0 hE) (own := RX11) (ref := RX11) (C := RX11) (T := TX11) (N := 14) hts hiX11 hown rfl 2 (by decide) hk36 (fun _ h9 => h9) rfl dX11_mix_112 ?_
        refine lv_iload_n hx hb dX11_mix_115 rfl (lv_at hl 1 rfl) ?_
        refine lv_iload_n hx hb dX11_mix_116 rfl (lv_at hl 2 rfl) ?_
        refine lv_iload_n hx hb dX11_mix_117 rfl (lv_at hl 3 rfl) ?_
        obtain ⟨r17, σ18, hcl, hf⟩ := xc2_f hf
        refine x_calli (va_runV (As := [.int a1, .int a2, .int a3]) (rest := []) ⟨hx, hb, hml, hown, hts⟩ (mX2_add hE a1 a2 a3 σ r17 σ18 hcl H.size) (cwV 3 hts gX11_mix_X2_add rfl rfl rfl (by decide +kernel) ⟨Nat.le_of_ble_eq_true rfl, Nat.le_of_ble_eq_true rfl⟩) (x_preV _ hw hA hG (cX12 hE) rfl) rfl rfl hl.1 rfl (lv_room (Nat.le_of_ble_eq_true rfl)) dX11_mix_118 ⟨Nat.le_of_ble_eq_true rfl, Nat.le_of_ble_eq_true rfl⟩) hw hA (fun H locs hw => ?_)
        clear hcl
        exact x_tiret hx hb hr hlk hw hf (Nat.le_of_ble_eq_true rfl) (Nat.le_of_ble_eq_true rfl) dX11_mix_121
      · replace hf := xif_neg c78 hf
        refine lv_aload_n hx hb dX11_mix_81 rfl (lv_at hl 0 rfl) ?_
        refine x_getr hx hb hw (cX0 hE) (own := RX11) (ref := RX11) (C := RX11) (T := TX11) (N := 14) hts hiX11 hown rfl 0 (by decide) hk24 (fun _ h9 => h9) rfl dX11_mix_82 ?_
        refine x_getr hx hb hw (cX2 hE) (own := RX11) (ref := RX10) (C := RX10) (T := TX10) (N := 4) hts hiX10 hown rfl 0 (by decide) hk107 (fun _ h9 => h9) rfl dX11_mix_85 ?_
        refine lv_iload hx hb dX11_mix_88 (lv_at hl 4 rfl) ?_
        refine lv_dup2_11 hx hb dX11_mix_90 rfl rfl ?_
        obtain ⟨hin, hf⟩ := xr_f hf
        refine x_iald hx hb hw (cX3 hE) hin dX11_mix_91 ?_
        refine lv_topi (fun v19 ex => ?_)
        replace hf := hf v19 ex
        clear ex hin
        refine lv_aload_n hx hb dX11_mix_92 rfl (lv_at hl 0 rfl) ?_
        refine x_getr hx hb hw (cX0 hE) (own := RX11) (ref := RX11) (C := RX11) (T := TX11) (N := 14) hts hiX11 hown rfl 1 (by decide) hk31 (fun _ h9 => h9) rfl dX11_mix_93 ?_
        refine lv_iload_n hx hb dX11_mix_96 rfl (lv_at hl 1 rfl) ?_
        refine lv_iload_n hx hb dX11_mix_97 rfl (lv_at hl 3 rfl) ?_
        refine lv_iload hx hb dX11_mix_98 (lv_at hl 4 rfl) ?_
        obtain ⟨r20, σ21, hcl, hf⟩ := xc2_f hf
        refine x_calli (va_runV (As := [.int a1, .int a3, .int a4]) (rest := [.int v19, .int a4, .ref (E.a 3)]) ⟨hx, hb, hml, hown, hts⟩ (mX8_scaled hE a1 a3 a4 σ r20 σ21 hcl H.size) (cwV 3 hts gX11_mix_X8_scaled rfl rfl rfl (by decide +kernel) ⟨Nat.le_of_ble_eq_true rfl, Nat.le_of_ble_eq_true rfl⟩) (x_preV _ hw hA hG (cX4 hE) rfl) rfl rfl hl.1 rfl (lv_room (Nat.le_of_ble_eq_true rfl)) dX11_mix_100 ⟨Nat.le_of_ble_eq_true rfl, Nat.le_of_ble_eq_true rfl⟩) hw hA (fun H locs hw => ?_)
        clear hcl
        refine lv_isub hx hb dX11_mix_103 ?_
        obtain ⟨hin, hf⟩ := xs_f hf
        refine x_iast hx hb hw (cX3 hE) hin dX11_mix_104 (fun σ22 H locs ex hw => ?_)
        replace hf := hf σ22 ex
        clear ex hin
        obtain ⟨v23, ex⟩ : ∃ y : Int32, y = (a4 + 1) := ⟨_, rfl⟩
        replace hf := xl_f hf v23 ex
        refine lv_iinc (v := v23) (lv' := [(4, .int v23), (0, .ref (E.a 0)), (1, .int a1), (2, .int a2), (3, .int a3)]) hx hb dX11_mix_105 hl (k := 4) rfl (by rw [ex]; rfl) (by decide) rfl (fun ls hl => ?_)
        clear ex
        refine lv_goto (tgt := 74) hx hb dX11_mix_108 (by decide) ?_
        exact ih74 a1 a2 a3 v23 σ22 _ _ _ hw (lv_sub hl [1, 2, 3, 4, 0] rfl) hf
  have h64 : ∀ (a1 : Int32) (a2 : Int32) (a3 : Int32) (t0 : Int32) (σ : xSt) (H : Heap) (locs : List Loc) (ls : Array Slot), xw E A s.heap s σ H locs → lv_has ls 5 [(0, .ref (E.a 0)), (1, .int a1), (2, .int a2), (3, .int a3)] → fX11_mix_c64 a1 a2 a3 t0 σ = some (o1, o2) → W p l e rmX11_mix s m args below meth c H locs 2 12 (vx_MQ below (xQt E A o1 o2) (xXt E A o1 o2) args s 3 18 A) (F0 m 64 ls [.int t0]) := by
    intro a1 a2 a3 t0 σ H locs ls hw hl hf
    unfold fX11_mix_c64 at hf
    rcases xct_e hf with ⟨k64, σ14, hcl, hf⟩ | ⟨r13, σ14, hcl, hf⟩
    · refine x_tcallv (vx_runS (As := [.int t0]) (rest := []) ⟨hx, hb, hml, hown, hts⟩ (mX11_needState hl0 t0 σ (.inr k64) σ14 hcl H.size) (va_cwS 1 hts gX11_mix_X11_needState rfl rfl rfl (by decide +kernel) ⟨Nat.le_of_ble_eq_true rfl, Nat.le_of_ble_eq_true rfl⟩) (x_preS _ hw hA hG) rfl rfl hl.1 rfl (lv_room (Nat.le_of_ble_eq_true rfl)) dX11_mix_64 ⟨Nat.le_of_ble_eq_true rfl, Nat.le_of_ble_eq_true rfl⟩) hw hA (fun q9 ce H locs h1 h2 h3 hw => ?_) (fun H locs h1 hw => nomatch h1)
      exact x_tout hlk hex h1 h2 h3 hw hf (Nat.le_of_ble_eq_true rfl) (Nat.le_of_ble_eq_true rfl)
    refine x_tcallv (vx_runS (As := [.int t0]) (rest := []) ⟨hx, hb, hml, hown, hts⟩ (mX11_needState hl0 t0 σ (.inl r13) σ14 hcl H.size) (va_cwS 1 hts gX11_mix_X11_needState rfl rfl rfl (by decide +kernel) ⟨Nat.le_of_ble_eq_true rfl, Nat.le_of_ble_eq_true rfl⟩) (x_preS _ hw hA hG) rfl rfl hl.1 rfl (lv_room (Nat.le_of_ble_eq_true rfl)) dX11_mix_64 ⟨Nat.le_of_ble_eq_true rfl, Nat.le_of_ble_eq_true rfl⟩) hw hA (fun q9 ce H locs h1 h2 h3 hw => by obtain ⟨_, h9, _⟩ := h3; cases h9) (fun H locs h1 hw => ?_)
    clear hcl h1
    refine lv_aload_n hx hb dX11_mix_67 rfl (lv_at hl 0 rfl) ?_
    obtain ⟨σ16, hcl, hf⟩ := xc_e hf
    refine x_callv (va_runV (As := []) (rest := []) ⟨hx, hb, hml, hown, hts⟩ (mX11_remember hE σ14 σ16 hcl H.size) (cwV 0 hts gX11_mix_X11_remember rfl rfl rfl (by decide +kernel) ⟨Nat.le_of_ble_eq_true rfl, Nat.le_of_ble_eq_true rfl⟩) (x_preV _ hw hA hG (cX0 hE) rfl) rfl rfl hl.1 rfl (lv_room (Nat.le_of_ble_eq_true rfl)) dX11_mix_68 ⟨Nat.le_of_ble_eq_true rfl, Nat.le_of_ble_eq_true rfl⟩) hw hA (fun H locs hw => ?_)
    clear hcl
    refine lv_iconst (v := 0) hx hb dX11_mix_71 (by decide) ?_
    refine lv_istore (lv' := [(4, .int 0), (0, .ref (E.a 0)), (1, .int a1), (2, .int a2), (3, .int a3)]) hx hb dX11_mix_72 hl (by decide) rfl (fun ls hl => ?_)
    exact h74 xFU a1 a2 a3 0 σ16 _ _ _ hw (lv_sub hl [1, 2, 3, 4, 0] rfl) hf
  have h63 : ∀ (a1 : Int32) (a2 : Int32) (a3 : Int32) (σ : xSt) (H : Heap) (locs : List Loc) (ls : Array Slot), xw E A s.heap s σ H locs → lv_has ls 5 [(0, .ref (E.a 0)), (1, .int a1), (2, .int a2), (3, .int a3)] → fX11_mix_c63 a1 a2 a3 σ = some (o1, o2) → W p l e rmX11_mix s m args below meth c H locs 2 12 (vx_MQ below (xQt E A o1 o2) (xXt E A o1 o2) args s 3 18 A) (F0 m 63 ls []) := by
    intro a1 a2 a3 σ H locs ls hw hl hf
    unfold fX11_mix_c63 at hf
    refine lv_iconst (v := 0) hx hb dX11_mix_63 (by decide) ?_
    exact h64 a1 a2 a3 0 σ _ _ _ hw (lv_sub hl [0, 1, 2, 3] rfl) hf
  refine lv_aload_n hx hb dX11_mix_0 rfl (lv_at hl 0 rfl) ?_
  refine lv_iload_n hx hb dX11_mix_1 rfl (lv_at hl 1 rfl) ?_
  rcases xct_e hf with ⟨k2, σ2, hcl, hf⟩ | ⟨r1, σ2, hcl, hf⟩
  · refine x_tcallv (vx_runV (As := [.int p0]) (rest := []) ⟨hx, hb, hml, hown, hts⟩ (mX11_needRecipe hl0 hE p0 σ (.inr k2) σ2 hcl s.heap.size) (cwV 1 hts gX11_mix_X11_needRecipe rfl rfl rfl (by decide +kernel) ⟨Nat.le_of_ble_eq_true rfl, Nat.le_of_ble_eq_true rfl⟩) (x_preV _ hw hA hG (cX0 hE) rfl) rfl rfl hl.1 rfl (lv_room (Nat.le_of_ble_eq_true rfl)) dX11_mix_2 ⟨Nat.le_of_ble_eq_true rfl, Nat.le_of_ble_eq_true rfl⟩) hw hA (fun q9 ce H locs h1 h2 h3 hw => ?_) (fun H locs h1 hw => nomatch h1)
    exact x_tout hlk hex h1 h2 h3 hw hf (Nat.le_of_ble_eq_true rfl) (Nat.le_of_ble_eq_true rfl)
  refine x_tcallv (vx_runV (As := [.int p0]) (rest := []) ⟨hx, hb, hml, hown, hts⟩ (mX11_needRecipe hl0 hE p0 σ (.inl r1) σ2 hcl s.heap.size) (cwV 1 hts gX11_mix_X11_needRecipe rfl rfl rfl (by decide +kernel) ⟨Nat.le_of_ble_eq_true rfl, Nat.le_of_ble_eq_true rfl⟩) (x_preV _ hw hA hG (cX0 hE) rfl) rfl rfl hl.1 rfl (lv_room (Nat.le_of_ble_eq_true rfl)) dX11_mix_2 ⟨Nat.le_of_ble_eq_true rfl, Nat.le_of_ble_eq_true rfl⟩) hw hA (fun q9 ce H locs h1 h2 h3 hw => by obtain ⟨_, h9, _⟩ := h3; cases h9) (fun H locs h1 hw => ?_)
  clear hcl h1
  refine lv_iload_n hx hb dX11_mix_5 rfl (lv_at hl 2 rfl) ?_
  refine lv_iconst (v := 1) hx hb dX11_mix_6 (by decide) ?_
  refine lv_bipush (v := 40) hx hb dX11_mix_7 (by decide) ?_
  obtain ⟨r3, σ4, hcl, hf⟩ := xc2_f hf
  refine x_calli (va_runS (As := [.int p1, .int 1, .int 40]) (rest := []) ⟨hx, hb, hml, hown, hts⟩ (mX11_isWithin hE p1 1 40 σ2 r3 σ4 hcl H.size) (va_cwS 3 hts gX11_mix_X11_isWithin rfl rfl rfl (by decide +kernel) ⟨Nat.le_of_ble_eq_true rfl, Nat.le_of_ble_eq_true rfl⟩) (x_preS _ hw hA hG) rfl rfl hl.1 rfl (lv_room (Nat.le_of_ble_eq_true rfl)) dX11_mix_9 ⟨Nat.le_of_ble_eq_true rfl, Nat.le_of_ble_eq_true rfl⟩) hw hA (fun H locs hw => ?_)
  clear hcl
  rcases xct_e hf with ⟨k12, σ6, hcl, hf⟩ | ⟨r5, σ6, hcl, hf⟩
  · refine x_tcallv (vx_runS (As := [.int r3]) (rest := []) ⟨hx, hb, hml, hown, hts⟩ (mX11_needArgument hl0 r3 σ4 (.inr k12) σ6 hcl H.size) (va_cwS 1 hts gX11_mix_X11_needArgument rfl rfl rfl (by decide +kernel) ⟨Nat.le_of_ble_eq_true rfl, Nat.le_of_ble_eq_true rfl⟩) (x_preS _ hw hA hG) rfl rfl hl.1 rfl (lv_room (Nat.le_of_ble_eq_true rfl)) dX11_mix_12 ⟨Nat.le_of_ble_eq_true rfl, Nat.le_of_ble_eq_true rfl⟩) hw hA (fun q9 ce H locs h1 h2 h3 hw => ?_) (fun H locs h1 hw => nomatch h1)
    exact x_tout hlk hex h1 h2 h3 hw hf (Nat.le_of_ble_eq_true rfl) (Nat.le_of_ble_eq_true rfl)
  refine x_tcallv (vx_runS (As := [.int r3]) (rest := []) ⟨hx, hb, hml, hown, hts⟩ (mX11_needArgument hl0 r3 σ4 (.inl r5) σ6 hcl H.size) (va_cwS 1 hts gX11_mix_X11_needArgument rfl rfl rfl (by decide +kernel) ⟨Nat.le_of_ble_eq_true rfl, Nat.le_of_ble_eq_true rfl⟩) (x_preS _ hw hA hG) rfl rfl hl.1 rfl (lv_room (Nat.le_of_ble_eq_true rfl)) dX11_mix_12 ⟨Nat.le_of_ble_eq_true rfl, Nat.le_of_ble_eq_true rfl⟩) hw hA (fun q9 ce H locs h1 h2 h3 hw => by obtain ⟨_, h9, _⟩ := h3; cases h9) (fun H locs h1 hw => ?_)
  clear hcl h1
  refine lv_iload_n hx hb dX11_mix_15 rfl (lv_at hl 2 rfl) ?_
  refine lv_aload_n hx hb dX11_mix_16 rfl (lv_at hl 0 rfl) ?_
  refine x_getr hx hb hw (cX0 hE) (own := RX11) (ref := RX11) (C := RX11) (T := TX11) (N := 14) hts hiX11 hown rfl 1 (by decide) hk31 (fun _ h9 => h9) rfl dX11_mix_17 ?_
  refine x_getr hx hb hw (cX4 hE) (own := RX11) (ref := RX8) (C := RX8) (T := TX8) (N := 8) hts hiX8 hown rfl 0 (by decide) hk124 (fun _ h9 => h9) rfl dX11_mix_20 ?_
  refine lv_iload_n hx hb dX11_mix_23 rfl (lv_at hl 1 rfl) ?_
  obtain ⟨hin, hf⟩ := xr_f hf
  refine x_iald hx hb hw (cX5 hE) hin dX11_mix_24 ?_
  refine lv_topi (fun v7 ex => ?_)
  replace hf := hf v7 ex
  clear ex hin
  refine lv_imul hx hb dX11_mix_25 ?_
  refine lv_topi (fun v8 ex => ?_)
  replace hf := xl_f hf v8 ex
  clear ex
  refine lv_istore_n (lv' := [(3, .int v8), (0, .ref (E.a 0)), (1, .int p0), (2, .int p1)]) hx hb dX11_mix_26 rfl hl (by decide) rfl (fun ls hl => ?_)
  refine lv_aload_n hx hb dX11_mix_27 rfl (lv_at hl 1 rfl) ?_
  refine x_getr hx hb hw (cX0 hE) (own := RX11) (ref := RX11) (C := RX11) (T := TX11) (N := 14) hts hiX11 hown rfl 2 (by decide) hk36 (fun _ h9 => h9) rfl dX11_mix_28 ?_
  refine x_geti hx hb hw (cX12 hE) (own := RX11) (ref := RX2) (C := RX2) (T := TX2) (N := 8) hts hiX2 hown rfl 7 (by decide) hk175 (fun _ h9 => h9) rfl dX11_mix_31 ?_
  refine lv_bipush (v := 20) hx hb dX11_mix_34 (by decide) ?_
  refine lv_icmp_ge (tgt := 63) hx hb dX11_mix_36 (by decide) (fun c36 => ?_) (fun c36 => ?_)
  · replace hf := xif_pos c36 hf
    exact h63 p0 p1 v8 σ6 _ _ _ hw (lv_sub hl [1, 2, 3, 0] rfl) hf
  · replace hf := xif_neg c36 hf
    refine lv_aload_n hx hb dX11_mix_39 rfl (lv_at hl 1 rfl) ?_
    refine x_getr hx hb hw (cX0 hE) (own := RX11) (ref := RX11) (C := RX11) (T := TX11) (N := 14) hts hiX11 hown rfl 1 (by decide) hk31 (fun _ h9 => h9) rfl dX11_mix_40 ?_
    refine lv_iload_n hx hb dX11_mix_43 rfl (lv_at hl 2 rfl) ?_
    obtain ⟨r9, σ10, hcl, hf⟩ := xc2_f hf
    refine x_calli (va_runV (As := [.int p0]) (rest := []) ⟨hx, hb, hml, hown, hts⟩ (mX8_hasParts hE p0 σ6 r9 σ10 hcl H.size) (cwV 1 hts gX11_mix_X8_hasParts rfl rfl rfl (by decide +kernel) ⟨Nat.le_of_ble_eq_true rfl, Nat.le_of_ble_eq_true rfl⟩) (x_preV _ hw hA hG (cX4 hE) rfl) rfl rfl hl.1 rfl (lv_room (Nat.le_of_ble_eq_true rfl)) dX11_mix_44 ⟨Nat.le_of_ble_eq_true rfl, Nat.le_of_ble_eq_true rfl⟩) hw hA (fun H locs hw => ?_)
    clear hcl
    refine lv_if_eq (tgt := 63) hx hb dX11_mix_47 (by decide) (fun c47 => ?_) (fun c47 => ?_)
    · replace hf := xif_pos c47 hf
      exact h63 p0 p1 v8 σ10 _ _ _ hw (lv_sub hl [1, 2, 3, 0] rfl) hf
    · replace hf := xif_neg c47 hf
      refine lv_aload_n hx hb dX11_mix_50 rfl (lv_at hl 1 rfl) ?_
      refine lv_iload_n hx hb dX11_mix_51 rfl (lv_at hl 2 rfl) ?_
      refine lv_iload_n hx hb dX11_mix_52 rfl (lv_at hl 0 rfl) ?_
      obtain ⟨r11, σ12, hcl, hf⟩ := xc2_f hf
      refine x_calli (va_runV (As := [.int p0, .int v8]) (rest := []) ⟨hx, hb, hml, hown, hts⟩ (mX11_isEnoughFor hE p0 v8 σ10 r11 σ12 hcl H.size) (cwV 2 hts gX11_mix_X11_isEnoughFor rfl rfl rfl (by decide +kernel) ⟨Nat.le_of_ble_eq_true rfl, Nat.le_of_ble_eq_true rfl⟩) (x_preV _ hw hA hG (cX0 hE) rfl) rfl rfl hl.1 rfl (lv_room (Nat.le_of_ble_eq_true rfl)) dX11_mix_53 ⟨Nat.le_of_ble_eq_true rfl, Nat.le_of_ble_eq_true rfl⟩) hw hA (fun H locs hw => ?_)
      clear hcl
      refine lv_if_eq (tgt := 63) hx hb dX11_mix_56 (by decide) (fun c56 => ?_) (fun c56 => ?_)
      · replace hf := xif_pos c56 hf
        exact h63 p0 p1 v8 σ12 _ _ _ hw (lv_sub hl [1, 2, 3, 0] rfl) hf
      · replace hf := xif_neg c56 hf
        refine lv_iconst (v := 1) hx hb dX11_mix_59 (by decide) ?_
        refine lv_goto (tgt := 64) hx hb dX11_mix_60 (by decide) ?_
        exact h64 p0 p1 v8 1 σ12 _ _ _ hw (lv_sub hl [1, 2, 3, 0] rfl) hf

def fX11_setWarmth (p0 : Int32) (σ : xSt) : Option (xO × xSt) := (xc2 (fX11_isWithin p0 0 5 σ) fun r1 σ2 => (xct (fX11_needArgument r1 σ2) fun r3 σ4 => (xc (fX11_remember σ4) fun σ6 => (xl (σ6 20 1) fun v7 => (xp σ6 20 1 p0 fun σ8 => some ((.inl v7 : xO), σ8))))))
abbrev rmX11_setWarmth : Room := { frames := 7, cells := 1, slots := 6, locals := 139 }
set_option maxRecDepth 100000 in
set_option maxHeartbeats 4000000 in
theorem mX11_setWarmth {l : Launch} (hl0 : l.stackTraces = false) {E : xE} (hE : E.sh = shX) (p0 : Int32) (σ : xSt) (o1 : xO) (o2 : xSt) (hf : fX11_setWarmth p0 σ = some (o1, o2)) : xMt l yX11_setWarmth wsX11_setWarmth rmX11_setWarmth E [.ref (E.a 0), .int p0] σ o1 o2 1 := by
  unfold fX11_setWarmth at hf
  refine xMt_of (cc := cX11_setWarmth) (maxL := 3) (ret := (some .int)) (by decide) rfl (Nat.le_of_ble_eq_true rfl) ?_
  intro p e s m args below meth c A ls ⟨hx, hb, hr, hml, hown, hts, hlk⟩ hA hG hw hl hex
  have hown : s.vm.findClass RX11 = some m.cls := hown
  have hl : lv_has ls 3 [(0, .ref (E.a 0)), (1, .int p0)] := hl
  have hk41 := hts (.fieldLink RX11 41 "OvenRound" "oven" "LOvenRound$Oven;") (by decide +kernel)
  have hiX11 : ∀ w ∈ wsX110, w ∈ wsX11_setWarmth := by decide +kernel
  have hk183 := hts (.fieldLink RX11 183 "OvenRound$Oven" "warmth" "I") (by decide +kernel)
  have hiX5 : ∀ w ∈ wsX50, w ∈ wsX11_setWarmth := by decide +kernel
  refine lv_iload_n hx hb dX11_setWarmth_0 rfl (lv_at hl 1 rfl) ?_
  refine lv_iconst (v := 0) hx hb dX11_setWarmth_1 (by decide) ?_
  refine lv_iconst (v := 5) hx hb dX11_setWarmth_2 (by decide) ?_
  obtain ⟨r1, σ2, hcl, hf⟩ := xc2_f hf
  refine x_calli (va_runS (As := [.int p0, .int 0, .int 5]) (rest := []) ⟨hx, hb, hml, hown, hts⟩ (mX11_isWithin hE p0 0 5 σ r1 σ2 hcl s.heap.size) (va_cwS 3 hts gX11_setWarmth_X11_isWithin rfl rfl rfl (by decide +kernel) ⟨Nat.le_of_ble_eq_true rfl, Nat.le_of_ble_eq_true rfl⟩) (x_preS _ hw hA hG) rfl rfl hl.1 rfl (lv_room (Nat.le_of_ble_eq_true rfl)) dX11_setWarmth_3 ⟨Nat.le_of_ble_eq_true rfl, Nat.le_of_ble_eq_true rfl⟩) hw hA (fun H locs hw => ?_)
  clear hcl
  rcases xct_e hf with ⟨k6, σ4, hcl, hf⟩ | ⟨r3, σ4, hcl, hf⟩
  · refine x_tcallv (vx_runS (As := [.int r1]) (rest := []) ⟨hx, hb, hml, hown, hts⟩ (mX11_needArgument hl0 r1 σ2 (.inr k6) σ4 hcl H.size) (va_cwS 1 hts gX11_setWarmth_X11_needArgument rfl rfl rfl (by decide +kernel) ⟨Nat.le_of_ble_eq_true rfl, Nat.le_of_ble_eq_true rfl⟩) (x_preS _ hw hA hG) rfl rfl hl.1 rfl (lv_room (Nat.le_of_ble_eq_true rfl)) dX11_setWarmth_6 ⟨Nat.le_of_ble_eq_true rfl, Nat.le_of_ble_eq_true rfl⟩) hw hA (fun q9 ce H locs h1 h2 h3 hw => ?_) (fun H locs h1 hw => nomatch h1)
    exact x_tout hlk hex h1 h2 h3 hw hf (Nat.le_of_ble_eq_true rfl) (Nat.le_of_ble_eq_true rfl)
  refine x_tcallv (vx_runS (As := [.int r1]) (rest := []) ⟨hx, hb, hml, hown, hts⟩ (mX11_needArgument hl0 r1 σ2 (.inl r3) σ4 hcl H.size) (va_cwS 1 hts gX11_setWarmth_X11_needArgument rfl rfl rfl (by decide +kernel) ⟨Nat.le_of_ble_eq_true rfl, Nat.le_of_ble_eq_true rfl⟩) (x_preS _ hw hA hG) rfl rfl hl.1 rfl (lv_room (Nat.le_of_ble_eq_true rfl)) dX11_setWarmth_6 ⟨Nat.le_of_ble_eq_true rfl, Nat.le_of_ble_eq_true rfl⟩) hw hA (fun q9 ce H locs h1 h2 h3 hw => by obtain ⟨_, h9, _⟩ := h3; cases h9) (fun H locs h1 hw => ?_)
  clear hcl h1
  refine lv_aload_n hx hb dX11_setWarmth_9 rfl (lv_at hl 0 rfl) ?_
  obtain ⟨σ6, hcl, hf⟩ := xc_e hf
  refine x_callv (va_runV (As := []) (rest := []) ⟨hx, hb, hml, hown, hts⟩ (mX11_remember hE σ4 σ6 hcl H.size) (cwV 0 hts gX11_setWarmth_X11_remember rfl rfl rfl (by decide +kernel) ⟨Nat.le_of_ble_eq_true rfl, Nat.le_of_ble_eq_true rfl⟩) (x_preV _ hw hA hG (cX0 hE) rfl) rfl rfl hl.1 rfl (lv_room (Nat.le_of_ble_eq_true rfl)) dX11_setWarmth_10 ⟨Nat.le_of_ble_eq_true rfl, Nat.le_of_ble_eq_true rfl⟩) hw hA (fun H locs hw => ?_)
  clear hcl
  refine lv_aload_n hx hb dX11_setWarmth_13 rfl (lv_at hl 0 rfl) ?_
  refine x_getr hx hb hw (cX0 hE) (own := RX11) (ref := RX11) (C := RX11) (T := TX11) (N := 14) hts hiX11 hown rfl 3 (by decide) hk41 (fun _ h9 => h9) rfl dX11_setWarmth_14 ?_
  refine x_geti hx hb hw (cX20 hE) (own := RX11) (ref := RX5) (C := RX5) (T := TX5) (N := 5) hts hiX5 hown rfl 1 (by decide) hk183 (fun _ h9 => h9) rfl dX11_setWarmth_17 ?_
  refine lv_topi (fun v7 ex => ?_)
  replace hf := xl_f hf v7 ex
  clear ex
  refine lv_istore_n (lv' := [(2, .int v7), (0, .ref (E.a 0)), (1, .int p0)]) hx hb dX11_setWarmth_20 rfl hl (by decide) rfl (fun ls hl => ?_)
  refine lv_aload_n hx hb dX11_setWarmth_21 rfl (lv_at hl 1 rfl) ?_
  refine x_getr hx hb hw (cX0 hE) (own := RX11) (ref := RX11) (C := RX11) (T := TX11) (N := 14) hts hiX11 hown rfl 3 (by decide) hk41 (fun _ h9 => h9) rfl dX11_setWarmth_22 ?_
  refine lv_iload_n hx hb dX11_setWarmth_25 rfl (lv_at hl 2 rfl) ?_
  refine x_puti hx hb hw (cX20 hE) (own := RX11) (ref := RX5) (C := RX5) (T := TX5) (N := 5) hts hiX5 tyX5 tyX5_ok nmX5 hown rfl 1 (by decide) hk183 (fun _ h9 => h9) rfl (by decide +kernel) rfl dX11_setWarmth_26 (fun σ8 H locs ex hw => ?_)
  replace hf := xp_f hf σ8 ex
  clear ex
  refine lv_iload_n hx hb dX11_setWarmth_29 rfl (lv_at hl 0 rfl) ?_
  exact x_tiret hx hb hr hlk hw hf (Nat.le_of_ble_eq_true rfl) (Nat.le_of_ble_eq_true rfl) dX11_setWarmth_30

def fX11_takeOutOfOven_c2 : Nat → Int32 → xSt → Option xSt
  | 0 => fun _ _ => none
  | n + 1 => fun a1 σ => (if (σ 12 7) ≤ a1 then some σ else (xr σ 17 20 a1 fun v1 => (if v1 = 2 then (xr σ 19 20 a1 fun v3 => (if (σ 20 0) < (v3 + 10) then (xl (a1 + 1) fun v4 => fX11_takeOutOfOven_c2 n v4 σ) else (xs σ 17 20 a1 3 fun σ5 => (xr σ5 13 20 a1 fun v6 => (xl (v6 * 4) fun v7 => (xr σ5 28 24 v7 fun v8 => (xr σ5 14 20 a1 fun v9 => (xs σ5 28 24 v7 (v8 + v9) fun σ10 => (xl (a1 + 1) fun v11 => fX11_takeOutOfOven_c2 n v11 σ10))))))))) else (xl (a1 + 1) fun v2 => fX11_takeOutOfOven_c2 n v2 σ))))
theorem fX11_takeOutOfOven_c2_s (n : Nat) (a1 : Int32) (σ : xSt) : fX11_takeOutOfOven_c2 (n + 1) a1 σ = ((if (σ 12 7) ≤ a1 then some σ else (xr σ 17 20 a1 fun v1 => (if v1 = 2 then (xr σ 19 20 a1 fun v3 => (if (σ 20 0) < (v3 + 10) then (xl (a1 + 1) fun v4 => fX11_takeOutOfOven_c2 n v4 σ) else (xs σ 17 20 a1 3 fun σ5 => (xr σ5 13 20 a1 fun v6 => (xl (v6 * 4) fun v7 => (xr σ5 28 24 v7 fun v8 => (xr σ5 14 20 a1 fun v9 => (xs σ5 28 24 v7 (v8 + v9) fun σ10 => (xl (a1 + 1) fun v11 => fX11_takeOutOfOven_c2 n v11 σ10))))))))) else (xl (a1 + 1) fun v2 => fX11_takeOutOfOven_c2 n v2 σ)))) : Option xSt) := rfl
def fX11_takeOutOfOven (σ : xSt) : Option xSt := fX11_takeOutOfOven_c2 xFU 0 σ
abbrev rmX11_takeOutOfOven : Room := { frames := 0, cells := 0, slots := 0, locals := 0 }
set_option maxRecDepth 100000 in
set_option maxHeartbeats 4000000 in
theorem mX11_takeOutOfOven {l : Launch} {E : xE} (hE : E.sh = shX) (σ : xSt) (o1 : xSt) (hf : fX11_takeOutOfOven σ = some o1) : xMv l yX11_takeOutOfOven wsX11_takeOutOfOven rmX11_takeOutOfOven E [.ref (E.a 0)] σ o1 := by
  unfold fX11_takeOutOfOven at hf
  refine xMv_of (cc := cX11_takeOutOfOven) (maxL := 2) (ret := none) (by decide) rfl (Nat.le_of_ble_eq_true rfl) ?_
  intro p e s m args below meth c A ls ⟨hx, hb, hr, hml, hown, hts, hlk⟩ hA hG hw hl
  have hown : s.vm.findClass RX11 = some m.cls := hown
  have hl : lv_has ls 2 [(0, .ref (E.a 0))] := hl
  have hk36 := hts (.fieldLink RX11 36 "OvenRound" "doughs" "LOvenRound$Doughs;") (by decide +kernel)
  have hiX11 : ∀ w ∈ wsX110, w ∈ wsX11_takeOutOfOven := by decide +kernel
  have hk175 := hts (.fieldLink RX11 175 "OvenRound$Doughs" "count" "I") (by decide +kernel)
  have hiX2 : ∀ w ∈ wsX20, w ∈ wsX11_takeOutOfOven := by decide +kernel
  have hk207 := hts (.fieldLink RX11 207 "OvenRound$Doughs" "state" "[I") (by decide +kernel)
  have hk223 := hts (.fieldLink RX11 223 "OvenRound$Doughs" "ovenAt" "[I") (by decide +kernel)
  have hk41 := hts (.fieldLink RX11 41 "OvenRound" "oven" "LOvenRound$Oven;") (by decide +kernel)
  have hk186 := hts (.fieldLink RX11 186 "OvenRound$Oven" "tick" "I") (by decide +kernel)
  have hiX5 : ∀ w ∈ wsX50, w ∈ wsX11_takeOutOfOven := by decide +kernel
  have hk55 := hts (.fieldLink RX11 55 "OvenRound" "breads" "LOvenRound$Breads;") (by decide +kernel)
  have hk258 := hts (.fieldLink RX11 258 "OvenRound$Breads" "pieces" "[I") (by decide +kernel)
  have hiX0 : ∀ w ∈ wsX00, w ∈ wsX11_takeOutOfOven := by decide +kernel
  have hk216 := hts (.fieldLink RX11 216 "OvenRound$Doughs" "recipe" "[I") (by decide +kernel)
  have hk219 := hts (.fieldLink RX11 219 "OvenRound$Doughs" "pieces" "[I") (by decide +kernel)
  have h2 : ∀ (n : Nat) (a1 : Int32) (σ : xSt) (H : Heap) (locs : List Loc) (ls : Array Slot), xw E A s.heap s σ H locs → lv_has ls 2 [(0, .ref (E.a 0)), (1, .int a1)] → fX11_takeOutOfOven_c2 n a1 σ = some o1 → W p l e rmX11_takeOutOfOven s m args below meth c H locs 0 0 (MQ below (xQv E A o1) args s 0 0 A) (F0 m 2 ls []) := by
    intro n2
    induction n2 with
    | zero => intro a1 σ H locs ls hw hl hf; exact nomatch hf
    | succ n2 ih2 =>
      intro a1 σ H locs ls hw hl hf
      rw [fX11_takeOutOfOven_c2_s] at hf
      refine lv_iload_n hx hb dX11_takeOutOfOven_2 rfl (lv_at hl 1 rfl) ?_
      refine lv_aload_n hx hb dX11_takeOutOfOven_3 rfl (lv_at hl 0 rfl) ?_
      refine x_getr hx hb hw (cX0 hE) (own := RX11) (ref := RX11) (C := RX11) (T := TX11) (N := 14) hts hiX11 hown rfl 2 (by decide) hk36 (fun _ h9 => h9) rfl dX11_takeOutOfOven_4 ?_
      refine x_geti hx hb hw (cX12 hE) (own := RX11) (ref := RX2) (C := RX2) (T := TX2) (N := 8) hts hiX2 hown rfl 7 (by decide) hk175 (fun _ h9 => h9) rfl dX11_takeOutOfOven_7 ?_
      refine lv_icmp_ge (tgt := 95) hx hb dX11_takeOutOfOven_10 (by decide) (fun c10 => ?_) (fun c10 => ?_)
      · replace hf := xif_pos c10 hf
        exact x_vret hx hb hr hlk hw hf dX11_takeOutOfOven_95
      · replace hf := xif_neg c10 hf
        refine lv_aload_n hx hb dX11_takeOutOfOven_13 rfl (lv_at hl 0 rfl) ?_
        refine x_getr hx hb hw (cX0 hE) (own := RX11) (ref := RX11) (C := RX11) (T := TX11) (N := 14) hts hiX11 hown rfl 2 (by decide) hk36 (fun _ h9 => h9) rfl dX11_takeOutOfOven_14 ?_
        refine x_getr hx hb hw (cX12 hE) (own := RX11) (ref := RX2) (C := RX2) (T := TX2) (N := 8) hts hiX2 hown rfl 4 (by decide) hk207 (fun _ h9 => h9) rfl dX11_takeOutOfOven_17 ?_
        refine lv_iload_n hx hb dX11_takeOutOfOven_20 rfl (lv_at hl 1 rfl) ?_
        obtain ⟨hin, hf⟩ := xr_f hf
        refine x_iald hx hb hw (cX17 hE) hin dX11_takeOutOfOven_21 ?_
        refine lv_topi (fun v1 ex => ?_)
        replace hf := hf v1 ex
        clear ex hin
        refine lv_iconst (v := 2) hx hb dX11_takeOutOfOven_22 (by decide) ?_
        refine lv_icmp_ne (tgt := 89) hx hb dX11_takeOutOfOven_23 (by decide) (fun c23 => ?_) (fun c23 => ?_)
        · replace hf := xif_neg c23 hf
          obtain ⟨v2, ex⟩ : ∃ y : Int32, y = (a1 + 1) := ⟨_, rfl⟩
          replace hf := xl_f hf v2 ex
          refine lv_iinc (v := v2) (lv' := [(1, .int v2), (0, .ref (E.a 0))]) hx hb dX11_takeOutOfOven_89 hl (k := 1) rfl (by rw [ex]; rfl) (by decide) rfl (fun ls hl => ?_)
          clear ex
          refine lv_goto (tgt := 2) hx hb dX11_takeOutOfOven_92 (by decide) ?_
          exact ih2 v2 σ _ _ _ hw (lv_sub hl [1, 0] rfl) hf
        · replace hf := xif_pos c23 hf
          refine lv_aload_n hx hb dX11_takeOutOfOven_26 rfl (lv_at hl 0 rfl) ?_
          refine x_getr hx hb hw (cX0 hE) (own := RX11) (ref := RX11) (C := RX11) (T := TX11) (N := 14) hts hiX11 hown rfl 2 (by decide) hk36 (fun _ h9 => h9) rfl dX11_takeOutOfOven_27 ?_
          refine x_getr hx hb hw (cX12 hE) (own := RX11) (ref := RX2) (C := RX2) (T := TX2) (N := 8) hts hiX2 hown rfl 6 (by decide) hk223 (fun _ h9 => h9) rfl dX11_takeOutOfOven_30 ?_
          refine lv_iload_n hx hb dX11_takeOutOfOven_33 rfl (lv_at hl 1 rfl) ?_
          obtain ⟨hin, hf⟩ := xr_f hf
          refine x_iald hx hb hw (cX19 hE) hin dX11_takeOutOfOven_34 ?_
          refine lv_topi (fun v3 ex => ?_)
          replace hf := hf v3 ex
          clear ex hin
          refine lv_bipush (v := 10) hx hb dX11_takeOutOfOven_35 (by decide) ?_
          refine lv_iadd hx hb dX11_takeOutOfOven_37 ?_
          refine lv_aload_n hx hb dX11_takeOutOfOven_38 rfl (lv_at hl 0 rfl) ?_
          refine x_getr hx hb hw (cX0 hE) (own := RX11) (ref := RX11) (C := RX11) (T := TX11) (N := 14) hts hiX11 hown rfl 3 (by decide) hk41 (fun _ h9 => h9) rfl dX11_takeOutOfOven_39 ?_
          refine x_geti hx hb hw (cX20 hE) (own := RX11) (ref := RX5) (C := RX5) (T := TX5) (N := 5) hts hiX5 hown rfl 0 (by decide) hk186 (fun _ h9 => h9) rfl dX11_takeOutOfOven_42 ?_
          refine lv_icmp_gt (tgt := 89) hx hb dX11_takeOutOfOven_45 (by decide) (fun c45 => ?_) (fun c45 => ?_)
          · replace hf := xif_pos c45 hf
            obtain ⟨v4, ex⟩ : ∃ y : Int32, y = (a1 + 1) := ⟨_, rfl⟩
            replace hf := xl_f hf v4 ex
            refine lv_iinc (v := v4) (lv' := [(1, .int v4), (0, .ref (E.a 0))]) hx hb dX11_takeOutOfOven_89 hl (k := 1) rfl (by rw [ex]; rfl) (by decide) rfl (fun ls hl => ?_)
            clear ex
            refine lv_goto (tgt := 2) hx hb dX11_takeOutOfOven_92 (by decide) ?_
            exact ih2 v4 σ _ _ _ hw (lv_sub hl [1, 0] rfl) hf
          · replace hf := xif_neg c45 hf
            refine lv_aload_n hx hb dX11_takeOutOfOven_48 rfl (lv_at hl 0 rfl) ?_
            refine x_getr hx hb hw (cX0 hE) (own := RX11) (ref := RX11) (C := RX11) (T := TX11) (N := 14) hts hiX11 hown rfl 2 (by decide) hk36 (fun _ h9 => h9) rfl dX11_takeOutOfOven_49 ?_
            refine x_getr hx hb hw (cX12 hE) (own := RX11) (ref := RX2) (C := RX2) (T := TX2) (N := 8) hts hiX2 hown rfl 4 (by decide) hk207 (fun _ h9 => h9) rfl dX11_takeOutOfOven_52 ?_
            refine lv_iload_n hx hb dX11_takeOutOfOven_55 rfl (lv_at hl 1 rfl) ?_
            refine lv_iconst (v := 3) hx hb dX11_takeOutOfOven_56 (by decide) ?_
            obtain ⟨hin, hf⟩ := xs_f hf
            refine x_iast hx hb hw (cX17 hE) hin dX11_takeOutOfOven_57 (fun σ5 H locs ex hw => ?_)
            replace hf := hf σ5 ex
            clear ex hin
            refine lv_aload_n hx hb dX11_takeOutOfOven_58 rfl (lv_at hl 0 rfl) ?_
            refine x_getr hx hb hw (cX0 hE) (own := RX11) (ref := RX11) (C := RX11) (T := TX11) (N := 14) hts hiX11 hown rfl 5 (by decide) hk55 (fun _ h9 => h9) rfl dX11_takeOutOfOven_59 ?_
            refine x_getr hx hb hw (cX27 hE) (own := RX11) (ref := RX0) (C := RX0) (T := TX0) (N := 1) hts hiX0 hown rfl 0 (by decide) hk258 (fun _ h9 => h9) rfl dX11_takeOutOfOven_62 ?_
            refine lv_aload_n hx hb dX11_takeOutOfOven_65 rfl (lv_at hl 0 rfl) ?_
            refine x_getr hx hb hw (cX0 hE) (own := RX11) (ref := RX11) (C := RX11) (T := TX11) (N := 14) hts hiX11 hown rfl 2 (by decide) hk36 (fun _ h9 => h9) rfl dX11_takeOutOfOven_66 ?_
            refine x_getr hx hb hw (cX12 hE) (own := RX11) (ref := RX2) (C := RX2) (T := TX2) (N := 8) hts hiX2 hown rfl 0 (by decide) hk216 (fun _ h9 => h9) rfl dX11_takeOutOfOven_69 ?_
            refine lv_iload_n hx hb dX11_takeOutOfOven_72 rfl (lv_at hl 1 rfl) ?_
            obtain ⟨hin, hf⟩ := xr_f hf
            refine x_iald hx hb hw (cX13 hE) hin dX11_takeOutOfOven_73 ?_
            refine lv_topi (fun v6 ex => ?_)
            replace hf := hf v6 ex
            clear ex hin
            refine lv_iconst (v := 4) hx hb dX11_takeOutOfOven_74 (by decide) ?_
            refine lv_imul hx hb dX11_takeOutOfOven_75 ?_
            refine lv_topi (fun v7 ex => ?_)
            replace hf := xl_f hf v7 ex
            clear ex
            refine lv_dup2_11 hx hb dX11_takeOutOfOven_76 rfl rfl ?_
            obtain ⟨hin, hf⟩ := xr_f hf
            refine x_iald hx hb hw (cX28 hE) hin dX11_takeOutOfOven_77 ?_
            refine lv_topi (fun v8 ex => ?_)
            replace hf := hf v8 ex
            clear ex hin
            refine lv_aload_n hx hb dX11_takeOutOfOven_78 rfl (lv_at hl 0 rfl) ?_
            refine x_getr hx hb hw (cX0 hE) (own := RX11) (ref := RX11) (C := RX11) (T := TX11) (N := 14) hts hiX11 hown rfl 2 (by decide) hk36 (fun _ h9 => h9) rfl dX11_takeOutOfOven_79 ?_
            refine x_getr hx hb hw (cX12 hE) (own := RX11) (ref := RX2) (C := RX2) (T := TX2) (N := 8) hts hiX2 hown rfl 1 (by decide) hk219 (fun _ h9 => h9) rfl dX11_takeOutOfOven_82 ?_
            refine lv_iload_n hx hb dX11_takeOutOfOven_85 rfl (lv_at hl 1 rfl) ?_
            obtain ⟨hin, hf⟩ := xr_f hf
            refine x_iald hx hb hw (cX14 hE) hin dX11_takeOutOfOven_86 ?_
            refine lv_topi (fun v9 ex => ?_)
            replace hf := hf v9 ex
            clear ex hin
            refine lv_iadd hx hb dX11_takeOutOfOven_87 ?_
            obtain ⟨hin, hf⟩ := xs_f hf
            refine x_iast hx hb hw (cX28 hE) hin dX11_takeOutOfOven_88 (fun σ10 H locs ex hw => ?_)
            replace hf := hf σ10 ex
            clear ex hin
            obtain ⟨v11, ex⟩ : ∃ y : Int32, y = (a1 + 1) := ⟨_, rfl⟩
            replace hf := xl_f hf v11 ex
            refine lv_iinc (v := v11) (lv' := [(1, .int v11), (0, .ref (E.a 0))]) hx hb dX11_takeOutOfOven_89 hl (k := 1) rfl (by rw [ex]; rfl) (by decide) rfl (fun ls hl => ?_)
            clear ex
            refine lv_goto (tgt := 2) hx hb dX11_takeOutOfOven_92 (by decide) ?_
            exact ih2 v11 σ10 _ _ _ hw (lv_sub hl [1, 0] rfl) hf
  refine lv_iconst (v := 0) hx hb dX11_takeOutOfOven_0 (by decide) ?_
  refine lv_istore_n (lv' := [(1, .int 0), (0, .ref (E.a 0))]) hx hb dX11_takeOutOfOven_1 rfl hl (by decide) rfl (fun ls hl => ?_)
  exact h2 xFU 0 σ _ _ _ hw (lv_sub hl [1, 0] rfl) hf

def fX11_pass_c30 (a1 : Int32) (t0 : Int32) (σ : xSt) : Option (xO × xSt) := (xct (fX11_needState t0 σ) fun r5 σ6 => (xc (fX11_remember σ6) fun σ8 => (xc (fX5_letPass a1 σ8) fun σ10 => (xc2 (fX5_pointsOfATick σ10) fun r11 σ12 => (xc (fX2_rise (a1 * r11) σ12) fun σ14 => (xc (fX11_takeOutOfOven σ14) fun σ16 => some ((.inl (σ16 20 0) : xO), σ16)))))))
def fX11_pass (p0 : Int32) (σ : xSt) : Option (xO × xSt) := (xc2 (fX11_isWithin p0 1 200 σ) fun r1 σ2 => (xct (fX11_needArgument r1 σ2) fun r3 σ4 => (if 100000 < ((σ4 20 0) + p0) then fX11_pass_c30 p0 0 σ4 else fX11_pass_c30 p0 1 σ4)))
abbrev rmX11_pass : Room := { frames := 7, cells := 2, slots := 12, locals := 139 }
set_option maxRecDepth 100000 in
set_option maxHeartbeats 4000000 in
theorem mX11_pass {l : Launch} (hl0 : l.stackTraces = false) {E : xE} (hE : E.sh = shX) (p0 : Int32) (σ : xSt) (o1 : xO) (o2 : xSt) (hf : fX11_pass p0 σ = some (o1, o2)) : xMt l yX11_pass wsX11_pass rmX11_pass E [.ref (E.a 0), .int p0] σ o1 o2 2 := by
  unfold fX11_pass at hf
  refine xMt_of (cc := cX11_pass) (maxL := 2) (ret := (some .int)) (by decide) rfl (Nat.le_of_ble_eq_true rfl) ?_
  intro p e s m args below meth c A ls ⟨hx, hb, hr, hml, hown, hts, hlk⟩ hA hG hw hl hex
  have hown : s.vm.findClass RX11 = some m.cls := hown
  have hl : lv_has ls 2 [(0, .ref (E.a 0)), (1, .int p0)] := hl
  have hk41 := hts (.fieldLink RX11 41 "OvenRound" "oven" "LOvenRound$Oven;") (by decide +kernel)
  have hiX11 : ∀ w ∈ wsX110, w ∈ wsX11_pass := by decide +kernel
  have hk186 := hts (.fieldLink RX11 186 "OvenRound$Oven" "tick" "I") (by decide +kernel)
  have hiX5 : ∀ w ∈ wsX50, w ∈ wsX11_pass := by decide +kernel
  have hk36 := hts (.fieldLink RX11 36 "OvenRound" "doughs" "LOvenRound$Doughs;") (by decide +kernel)
  have h30 : ∀ (a1 : Int32) (t0 : Int32) (σ : xSt) (H : Heap) (locs : List Loc) (ls : Array Slot), xw E A s.heap s σ H locs → lv_has ls 2 [(0, .ref (E.a 0)), (1, .int a1)] → fX11_pass_c30 a1 t0 σ = some (o1, o2) → W p l e rmX11_pass s m args below meth c H locs 1 6 (vx_MQ below (xQt E A o1 o2) (xXt E A o1 o2) args s 2 12 A) (F0 m 30 ls [.int t0]) := by
    intro a1 t0 σ H locs ls hw hl hf
    unfold fX11_pass_c30 at hf
    rcases xct_e hf with ⟨k30, σ6, hcl, hf⟩ | ⟨r5, σ6, hcl, hf⟩
    · refine x_tcallv (vx_runS (As := [.int t0]) (rest := []) ⟨hx, hb, hml, hown, hts⟩ (mX11_needState hl0 t0 σ (.inr k30) σ6 hcl H.size) (va_cwS 1 hts gX11_pass_X11_needState rfl rfl rfl (by decide +kernel) ⟨Nat.le_of_ble_eq_true rfl, Nat.le_of_ble_eq_true rfl⟩) (x_preS _ hw hA hG) rfl rfl hl.1 rfl (lv_room (Nat.le_of_ble_eq_true rfl)) dX11_pass_30 ⟨Nat.le_of_ble_eq_true rfl, Nat.le_of_ble_eq_true rfl⟩) hw hA (fun q9 ce H locs h1 h2 h3 hw => ?_) (fun H locs h1 hw => nomatch h1)
      exact x_tout hlk hex h1 h2 h3 hw hf (Nat.le_of_ble_eq_true rfl) (Nat.le_of_ble_eq_true rfl)
    refine x_tcallv (vx_runS (As := [.int t0]) (rest := []) ⟨hx, hb, hml, hown, hts⟩ (mX11_needState hl0 t0 σ (.inl r5) σ6 hcl H.size) (va_cwS 1 hts gX11_pass_X11_needState rfl rfl rfl (by decide +kernel) ⟨Nat.le_of_ble_eq_true rfl, Nat.le_of_ble_eq_true rfl⟩) (x_preS _ hw hA hG) rfl rfl hl.1 rfl (lv_room (Nat.le_of_ble_eq_true rfl)) dX11_pass_30 ⟨Nat.le_of_ble_eq_true rfl, Nat.le_of_ble_eq_true rfl⟩) hw hA (fun q9 ce H locs h1 h2 h3 hw => by obtain ⟨_, h9, _⟩ := h3; cases h9) (fun H locs h1 hw => ?_)
    clear hcl h1
    refine lv_aload_n hx hb dX11_pass_33 rfl (lv_at hl 0 rfl) ?_
    obtain ⟨σ8, hcl, hf⟩ := xc_e hf
    refine x_callv (va_runV (As := []) (rest := []) ⟨hx, hb, hml, hown, hts⟩ (mX11_remember hE σ6 σ8 hcl H.size) (cwV 0 hts gX11_pass_X11_remember rfl rfl rfl (by decide +kernel) ⟨Nat.le_of_ble_eq_true rfl, Nat.le_of_ble_eq_true rfl⟩) (x_preV _ hw hA hG (cX0 hE) rfl) rfl rfl hl.1 rfl (lv_room (Nat.le_of_ble_eq_true rfl)) dX11_pass_34 ⟨Nat.le_of_ble_eq_true rfl, Nat.le_of_ble_eq_true rfl⟩) hw hA (fun H locs hw => ?_)
    clear hcl
    refine lv_aload_n hx hb dX11_pass_37 rfl (lv_at hl 0 rfl) ?_
    refine x_getr hx hb hw (cX0 hE) (own := RX11) (ref := RX11) (C := RX11) (T := TX11) (N := 14) hts hiX11 hown rfl 3 (by decide) hk41 (fun _ h9 => h9) rfl dX11_pass_38 ?_
    refine lv_iload_n hx hb dX11_pass_41 rfl (lv_at hl 1 rfl) ?_
    obtain ⟨σ10, hcl, hf⟩ := xc_e hf
    refine x_callv (va_runV (As := [.int a1]) (rest := []) ⟨hx, hb, hml, hown, hts⟩ (mX5_letPass hE a1 σ8 σ10 hcl H.size) (cwV 1 hts gX11_pass_X5_letPass rfl rfl rfl (by decide +kernel) ⟨Nat.le_of_ble_eq_true rfl, Nat.le_of_ble_eq_true rfl⟩) (x_preV _ hw hA hG (cX20 hE) rfl) rfl rfl hl.1 rfl (lv_room (Nat.le_of_ble_eq_true rfl)) dX11_pass_42 ⟨Nat.le_of_ble_eq_true rfl, Nat.le_of_ble_eq_true rfl⟩) hw hA (fun H locs hw => ?_)
    clear hcl
    refine lv_aload_n hx hb dX11_pass_45 rfl (lv_at hl 0 rfl) ?_
    refine x_getr hx hb hw (cX0 hE) (own := RX11) (ref := RX11) (C := RX11) (T := TX11) (N := 14) hts hiX11 hown rfl 2 (by decide) hk36 (fun _ h9 => h9) rfl dX11_pass_46 ?_
    refine lv_iload_n hx hb dX11_pass_49 rfl (lv_at hl 1 rfl) ?_
    refine lv_aload_n hx hb dX11_pass_50 rfl (lv_at hl 0 rfl) ?_
    refine x_getr hx hb hw (cX0 hE) (own := RX11) (ref := RX11) (C := RX11) (T := TX11) (N := 14) hts hiX11 hown rfl 3 (by decide) hk41 (fun _ h9 => h9) rfl dX11_pass_51 ?_
    obtain ⟨r11, σ12, hcl, hf⟩ := xc2_f hf
    refine x_calli (va_runV (As := []) (rest := [.int a1, .ref (E.a 12)]) ⟨hx, hb, hml, hown, hts⟩ (mX5_pointsOfATick hE σ10 r11 σ12 hcl H.size) (cwV 0 hts gX11_pass_X5_pointsOfATick rfl rfl rfl (by decide +kernel) ⟨Nat.le_of_ble_eq_true rfl, Nat.le_of_ble_eq_true rfl⟩) (x_preV _ hw hA hG (cX20 hE) rfl) rfl rfl hl.1 rfl (lv_room (Nat.le_of_ble_eq_true rfl)) dX11_pass_54 ⟨Nat.le_of_ble_eq_true rfl, Nat.le_of_ble_eq_true rfl⟩) hw hA (fun H locs hw => ?_)
    clear hcl
    refine lv_imul hx hb dX11_pass_57 ?_
    obtain ⟨σ14, hcl, hf⟩ := xc_e hf
    refine x_callv (va_runV (As := [.int (a1 * r11)]) (rest := []) ⟨hx, hb, hml, hown, hts⟩ (mX2_rise hE (a1 * r11) σ12 σ14 hcl H.size) (cwV 1 hts gX11_pass_X2_rise rfl rfl rfl (by decide +kernel) ⟨Nat.le_of_ble_eq_true rfl, Nat.le_of_ble_eq_true rfl⟩) (x_preV _ hw hA hG (cX12 hE) rfl) rfl rfl hl.1 rfl (lv_room (Nat.le_of_ble_eq_true rfl)) dX11_pass_58 ⟨Nat.le_of_ble_eq_true rfl, Nat.le_of_ble_eq_true rfl⟩) hw hA (fun H locs hw => ?_)
    clear hcl
    refine lv_aload_n hx hb dX11_pass_61 rfl (lv_at hl 0 rfl) ?_
    obtain ⟨σ16, hcl, hf⟩ := xc_e hf
    refine x_callv (va_runV (As := []) (rest := []) ⟨hx, hb, hml, hown, hts⟩ (mX11_takeOutOfOven hE σ14 σ16 hcl H.size) (cwV 0 hts gX11_pass_X11_takeOutOfOven rfl rfl rfl (by decide +kernel) ⟨Nat.le_of_ble_eq_true rfl, Nat.le_of_ble_eq_true rfl⟩) (x_preV _ hw hA hG (cX0 hE) rfl) rfl rfl hl.1 rfl (lv_room (Nat.le_of_ble_eq_true rfl)) dX11_pass_62 ⟨Nat.le_of_ble_eq_true rfl, Nat.le_of_ble_eq_true rfl⟩) hw hA (fun H locs hw => ?_)
    clear hcl
    refine lv_aload_n hx hb dX11_pass_65 rfl (lv_at hl 0 rfl) ?_
    refine x_getr hx hb hw (cX0 hE) (own := RX11) (ref := RX11) (C := RX11) (T := TX11) (N := 14) hts hiX11 hown rfl 3 (by decide) hk41 (fun _ h9 => h9) rfl dX11_pass_66 ?_
    refine x_geti hx hb hw (cX20 hE) (own := RX11) (ref := RX5) (C := RX5) (T := TX5) (N := 5) hts hiX5 hown rfl 0 (by decide) hk186 (fun _ h9 => h9) rfl dX11_pass_69 ?_
    exact x_tiret hx hb hr hlk hw hf (Nat.le_of_ble_eq_true rfl) (Nat.le_of_ble_eq_true rfl) dX11_pass_72
  refine lv_iload_n hx hb dX11_pass_0 rfl (lv_at hl 1 rfl) ?_
  refine lv_iconst (v := 1) hx hb dX11_pass_1 (by decide) ?_
  refine lv_sipush (v := 200) hx hb dX11_pass_2 (by decide) ?_
  obtain ⟨r1, σ2, hcl, hf⟩ := xc2_f hf
  refine x_calli (va_runS (As := [.int p0, .int 1, .int 200]) (rest := []) ⟨hx, hb, hml, hown, hts⟩ (mX11_isWithin hE p0 1 200 σ r1 σ2 hcl s.heap.size) (va_cwS 3 hts gX11_pass_X11_isWithin rfl rfl rfl (by decide +kernel) ⟨Nat.le_of_ble_eq_true rfl, Nat.le_of_ble_eq_true rfl⟩) (x_preS _ hw hA hG) rfl rfl hl.1 rfl (lv_room (Nat.le_of_ble_eq_true rfl)) dX11_pass_5 ⟨Nat.le_of_ble_eq_true rfl, Nat.le_of_ble_eq_true rfl⟩) hw hA (fun H locs hw => ?_)
  clear hcl
  rcases xct_e hf with ⟨k8, σ4, hcl, hf⟩ | ⟨r3, σ4, hcl, hf⟩
  · refine x_tcallv (vx_runS (As := [.int r1]) (rest := []) ⟨hx, hb, hml, hown, hts⟩ (mX11_needArgument hl0 r1 σ2 (.inr k8) σ4 hcl H.size) (va_cwS 1 hts gX11_pass_X11_needArgument rfl rfl rfl (by decide +kernel) ⟨Nat.le_of_ble_eq_true rfl, Nat.le_of_ble_eq_true rfl⟩) (x_preS _ hw hA hG) rfl rfl hl.1 rfl (lv_room (Nat.le_of_ble_eq_true rfl)) dX11_pass_8 ⟨Nat.le_of_ble_eq_true rfl, Nat.le_of_ble_eq_true rfl⟩) hw hA (fun q9 ce H locs h1 h2 h3 hw => ?_) (fun H locs h1 hw => nomatch h1)
    exact x_tout hlk hex h1 h2 h3 hw hf (Nat.le_of_ble_eq_true rfl) (Nat.le_of_ble_eq_true rfl)
  refine x_tcallv (vx_runS (As := [.int r1]) (rest := []) ⟨hx, hb, hml, hown, hts⟩ (mX11_needArgument hl0 r1 σ2 (.inl r3) σ4 hcl H.size) (va_cwS 1 hts gX11_pass_X11_needArgument rfl rfl rfl (by decide +kernel) ⟨Nat.le_of_ble_eq_true rfl, Nat.le_of_ble_eq_true rfl⟩) (x_preS _ hw hA hG) rfl rfl hl.1 rfl (lv_room (Nat.le_of_ble_eq_true rfl)) dX11_pass_8 ⟨Nat.le_of_ble_eq_true rfl, Nat.le_of_ble_eq_true rfl⟩) hw hA (fun q9 ce H locs h1 h2 h3 hw => by obtain ⟨_, h9, _⟩ := h3; cases h9) (fun H locs h1 hw => ?_)
  clear hcl h1
  refine lv_aload_n hx hb dX11_pass_11 rfl (lv_at hl 0 rfl) ?_
  refine x_getr hx hb hw (cX0 hE) (own := RX11) (ref := RX11) (C := RX11) (T := TX11) (N := 14) hts hiX11 hown rfl 3 (by decide) hk41 (fun _ h9 => h9) rfl dX11_pass_12 ?_
  refine x_geti hx hb hw (cX20 hE) (own := RX11) (ref := RX5) (C := RX5) (T := TX5) (N := 5) hts hiX5 hown rfl 0 (by decide) hk186 (fun _ h9 => h9) rfl dX11_pass_15 ?_
  refine lv_iload_n hx hb dX11_pass_18 rfl (lv_at hl 1 rfl) ?_
  refine lv_iadd hx hb dX11_pass_19 ?_
  refine lv_ldc hx hb hown (hts (.constant RX11 166 (100000)) (by decide +kernel)) dX11_pass_20 ?_
  refine lv_icmp_gt (tgt := 29) hx hb dX11_pass_22 (by decide) (fun c22 => ?_) (fun c22 => ?_)
  · replace hf := xif_pos c22 hf
    refine lv_iconst (v := 0) hx hb dX11_pass_29 (by decide) ?_
    exact h30 p0 0 σ4 _ _ _ hw (lv_sub hl [0, 1] rfl) hf
  · replace hf := xif_neg c22 hf
    refine lv_iconst (v := 1) hx hb dX11_pass_25 (by decide) ?_
    refine lv_goto (tgt := 30) hx hb dX11_pass_26 (by decide) ?_
    exact h30 p0 1 σ4 _ _ _ hw (lv_sub hl [0, 1] rfl) hf

def fX11_now (σ : xSt) : Option (Int32 × xSt) := some ((σ 20 0), σ)
abbrev rmX11_now : Room := { frames := 0, cells := 0, slots := 0, locals := 0 }
set_option maxRecDepth 100000 in
set_option maxHeartbeats 4000000 in
theorem mX11_now {l : Launch} {E : xE} (hE : E.sh = shX) (σ : xSt) (o1 : Int32) (o2 : xSt) (hf : fX11_now σ = some (o1, o2)) : xMi l yX11_now wsX11_now rmX11_now E [.ref (E.a 0)] σ o1 o2 := by
  unfold fX11_now at hf
  refine xMi_of (cc := cX11_now) (maxL := 1) (ret := (some .int)) (by decide) rfl (Nat.le_of_ble_eq_true rfl) ?_
  intro p e s m args below meth c A ls ⟨hx, hb, hr, hml, hown, hts, hlk⟩ hA hG hw hl
  have hown : s.vm.findClass RX11 = some m.cls := hown
  have hl : lv_has ls 1 [(0, .ref (E.a 0))] := hl
  have hk41 := hts (.fieldLink RX11 41 "OvenRound" "oven" "LOvenRound$Oven;") (by decide +kernel)
  have hiX11 : ∀ w ∈ wsX110, w ∈ wsX11_now := by decide +kernel
  have hk186 := hts (.fieldLink RX11 186 "OvenRound$Oven" "tick" "I") (by decide +kernel)
  have hiX5 : ∀ w ∈ wsX50, w ∈ wsX11_now := by decide +kernel
  refine lv_aload_n hx hb dX11_now_0 rfl (lv_at hl 0 rfl) ?_
  refine x_getr hx hb hw (cX0 hE) (own := RX11) (ref := RX11) (C := RX11) (T := TX11) (N := 14) hts hiX11 hown rfl 3 (by decide) hk41 (fun _ h9 => h9) rfl dX11_now_1 ?_
  refine x_geti hx hb hw (cX20 hE) (own := RX11) (ref := RX5) (C := RX5) (T := TX5) (N := 5) hts hiX5 hown rfl 0 (by decide) hk186 (fun _ h9 => h9) rfl dX11_now_4 ?_
  exact x_iret hx hb hr hlk hw hf dX11_now_7

def fX11_needDough (p0 : Int32) (σ : xSt) : Option (xO × xSt) := (xc2 (fX11_isWithin p0 0 ((σ 12 7) - 1) σ) fun r1 σ2 => (xct (fX11_needIndex r1 σ2) fun r3 σ4 => some ((.inl 0 : xO), σ4)))
abbrev rmX11_needDough : Room := { frames := 7, cells := 1, slots := 6, locals := 110 }
set_option maxRecDepth 100000 in
set_option maxHeartbeats 4000000 in
theorem mX11_needDough {l : Launch} (hl0 : l.stackTraces = false) {E : xE} (hE : E.sh = shX) (p0 : Int32) (σ : xSt) (o1 : xO) (o2 : xSt) (hf : fX11_needDough p0 σ = some (o1, o2)) : xMtv l yX11_needDough wsX11_needDough rmX11_needDough E [.ref (E.a 0), .int p0] σ o1 o2 1 := by
  unfold fX11_needDough at hf
  refine xMtv_of (cc := cX11_needDough) (maxL := 2) (ret := none) (by decide) rfl (Nat.le_of_ble_eq_true rfl) ?_
  intro p e s m args below meth c A ls ⟨hx, hb, hr, hml, hown, hts, hlk⟩ hA hG hw hl hex
  have hown : s.vm.findClass RX11 = some m.cls := hown
  have hl : lv_has ls 2 [(0, .ref (E.a 0)), (1, .int p0)] := hl
  have hk36 := hts (.fieldLink RX11 36 "OvenRound" "doughs" "LOvenRound$Doughs;") (by decide +kernel)
  have hiX11 : ∀ w ∈ wsX110, w ∈ wsX11_needDough := by decide +kernel
  have hk175 := hts (.fieldLink RX11 175 "OvenRound$Doughs" "count" "I") (by decide +kernel)
  have hiX2 : ∀ w ∈ wsX20, w ∈ wsX11_needDough := by decide +kernel
  refine lv_iload_n hx hb dX11_needDough_0 rfl (lv_at hl 1 rfl) ?_
  refine lv_iconst (v := 0) hx hb dX11_needDough_1 (by decide) ?_
  refine lv_aload_n hx hb dX11_needDough_2 rfl (lv_at hl 0 rfl) ?_
  refine x_getr hx hb hw (cX0 hE) (own := RX11) (ref := RX11) (C := RX11) (T := TX11) (N := 14) hts hiX11 hown rfl 2 (by decide) hk36 (fun _ h9 => h9) rfl dX11_needDough_3 ?_
  refine x_geti hx hb hw (cX12 hE) (own := RX11) (ref := RX2) (C := RX2) (T := TX2) (N := 8) hts hiX2 hown rfl 7 (by decide) hk175 (fun _ h9 => h9) rfl dX11_needDough_6 ?_
  refine lv_iconst (v := 1) hx hb dX11_needDough_9 (by decide) ?_
  refine lv_isub hx hb dX11_needDough_10 ?_
  obtain ⟨r1, σ2, hcl, hf⟩ := xc2_f hf
  refine x_calli (va_runS (As := [.int p0, .int 0, .int ((σ 12 7) - 1)]) (rest := []) ⟨hx, hb, hml, hown, hts⟩ (mX11_isWithin hE p0 0 ((σ 12 7) - 1) σ r1 σ2 hcl s.heap.size) (va_cwS 3 hts gX11_needDough_X11_isWithin rfl rfl rfl (by decide +kernel) ⟨Nat.le_of_ble_eq_true rfl, Nat.le_of_ble_eq_true rfl⟩) (x_preS _ hw hA hG) rfl rfl hl.1 rfl (lv_room (Nat.le_of_ble_eq_true rfl)) dX11_needDough_11 ⟨Nat.le_of_ble_eq_true rfl, Nat.le_of_ble_eq_true rfl⟩) hw hA (fun H locs hw => ?_)
  clear hcl
  rcases xct_e hf with ⟨k14, σ4, hcl, hf⟩ | ⟨r3, σ4, hcl, hf⟩
  · refine x_tcallv (vx_runS (As := [.int r1]) (rest := []) ⟨hx, hb, hml, hown, hts⟩ (mX11_needIndex hl0 r1 σ2 (.inr k14) σ4 hcl H.size) (va_cwS 1 hts gX11_needDough_X11_needIndex rfl rfl rfl (by decide +kernel) ⟨Nat.le_of_ble_eq_true rfl, Nat.le_of_ble_eq_true rfl⟩) (x_preS _ hw hA hG) rfl rfl hl.1 rfl (lv_room (Nat.le_of_ble_eq_true rfl)) dX11_needDough_14 ⟨Nat.le_of_ble_eq_true rfl, Nat.le_of_ble_eq_true rfl⟩) hw hA (fun q9 ce H locs h1 h2 h3 hw => ?_) (fun H locs h1 hw => nomatch h1)
    exact x_tout hlk hex h1 h2 h3 hw hf (Nat.le_of_ble_eq_true rfl) (Nat.le_of_ble_eq_true rfl)
  refine x_tcallv (vx_runS (As := [.int r1]) (rest := []) ⟨hx, hb, hml, hown, hts⟩ (mX11_needIndex hl0 r1 σ2 (.inl r3) σ4 hcl H.size) (va_cwS 1 hts gX11_needDough_X11_needIndex rfl rfl rfl (by decide +kernel) ⟨Nat.le_of_ble_eq_true rfl, Nat.le_of_ble_eq_true rfl⟩) (x_preS _ hw hA hG) rfl rfl hl.1 rfl (lv_room (Nat.le_of_ble_eq_true rfl)) dX11_needDough_14 ⟨Nat.le_of_ble_eq_true rfl, Nat.le_of_ble_eq_true rfl⟩) hw hA (fun q9 ce H locs h1 h2 h3 hw => by obtain ⟨_, h9, _⟩ := h3; cases h9) (fun H locs h1 hw => ?_)
  clear hcl h1
  exact x_tvret hx hb hr hlk hw hf (Nat.le_of_ble_eq_true rfl) (Nat.le_of_ble_eq_true rfl) dX11_needDough_17

def fX11_isRipe (p0 : Int32) (σ : xSt) : Option (Int32 × xSt) := (xr σ 17 20 p0 fun v1 => (if v1 = 0 then (xr σ 13 20 p0 fun v2 => (xr σ 16 20 p0 fun v3 => (xc2 (fX8_isRipeWith v2 v3 σ) fun r4 σ5 => (if r4 = 0 then some (0, σ5) else some (1, σ5))))) else some (0, σ)))
abbrev rmX11_isRipe : Room := { frames := 2, cells := 0, slots := 0, locals := 44 }
set_option maxRecDepth 100000 in
set_option maxHeartbeats 4000000 in
theorem mX11_isRipe {l : Launch} {E : xE} (hE : E.sh = shX) (p0 : Int32) (σ : xSt) (o1 : Int32) (o2 : xSt) (hf : fX11_isRipe p0 σ = some (o1, o2)) : xMi l yX11_isRipe wsX11_isRipe rmX11_isRipe E [.ref (E.a 0), .int p0] σ o1 o2 := by
  unfold fX11_isRipe at hf
  refine xMi_of (cc := cX11_isRipe) (maxL := 2) (ret := (some .boolean)) (by decide) rfl (Nat.le_of_ble_eq_true rfl) ?_
  intro p e s m args below meth c A ls ⟨hx, hb, hr, hml, hown, hts, hlk⟩ hA hG hw hl
  have hown : s.vm.findClass RX11 = some m.cls := hown
  have hl : lv_has ls 2 [(0, .ref (E.a 0)), (1, .int p0)] := hl
  have hk36 := hts (.fieldLink RX11 36 "OvenRound" "doughs" "LOvenRound$Doughs;") (by decide +kernel)
  have hiX11 : ∀ w ∈ wsX110, w ∈ wsX11_isRipe := by decide +kernel
  have hk207 := hts (.fieldLink RX11 207 "OvenRound$Doughs" "state" "[I") (by decide +kernel)
  have hiX2 : ∀ w ∈ wsX20, w ∈ wsX11_isRipe := by decide +kernel
  have hk31 := hts (.fieldLink RX11 31 "OvenRound" "recipes" "LOvenRound$Recipes;") (by decide +kernel)
  have hk216 := hts (.fieldLink RX11 216 "OvenRound$Doughs" "recipe" "[I") (by decide +kernel)
  have hk213 := hts (.fieldLink RX11 213 "OvenRound$Doughs" "points" "[I") (by decide +kernel)
  refine lv_aload_n hx hb dX11_isRipe_0 rfl (lv_at hl 0 rfl) ?_
  refine x_getr hx hb hw (cX0 hE) (own := RX11) (ref := RX11) (C := RX11) (T := TX11) (N := 14) hts hiX11 hown rfl 2 (by decide) hk36 (fun _ h9 => h9) rfl dX11_isRipe_1 ?_
  refine x_getr hx hb hw (cX12 hE) (own := RX11) (ref := RX2) (C := RX2) (T := TX2) (N := 8) hts hiX2 hown rfl 4 (by decide) hk207 (fun _ h9 => h9) rfl dX11_isRipe_4 ?_
  refine lv_iload_n hx hb dX11_isRipe_7 rfl (lv_at hl 1 rfl) ?_
  obtain ⟨hin, hf⟩ := xr_f hf
  refine x_iald hx hb hw (cX17 hE) hin dX11_isRipe_8 ?_
  refine lv_topi (fun v1 ex => ?_)
  replace hf := hf v1 ex
  clear ex hin
  refine lv_if_ne (tgt := 44) hx hb dX11_isRipe_9 (by decide) (fun c9 => ?_) (fun c9 => ?_)
  · replace hf := xif_neg c9 hf
    refine lv_iconst (v := 0) hx hb dX11_isRipe_44 (by decide) ?_
    exact x_zretc hx hb hr hlk hw (by decide) hf dX11_isRipe_45
  · replace hf := xif_pos c9 hf
    refine lv_aload_n hx hb dX11_isRipe_12 rfl (lv_at hl 0 rfl) ?_
    refine x_getr hx hb hw (cX0 hE) (own := RX11) (ref := RX11) (C := RX11) (T := TX11) (N := 14) hts hiX11 hown rfl 1 (by decide) hk31 (fun _ h9 => h9) rfl dX11_isRipe_13 ?_
    refine lv_aload_n hx hb dX11_isRipe_16 rfl (lv_at hl 0 rfl) ?_
    refine x_getr hx hb hw (cX0 hE) (own := RX11) (ref := RX11) (C := RX11) (T := TX11) (N := 14) hts hiX11 hown rfl 2 (by decide) hk36 (fun _ h9 => h9) rfl dX11_isRipe_17 ?_
    refine x_getr hx hb hw (cX12 hE) (own := RX11) (ref := RX2) (C := RX2) (T := TX2) (N := 8) hts hiX2 hown rfl 0 (by decide) hk216 (fun _ h9 => h9) rfl dX11_isRipe_20 ?_
    refine lv_iload_n hx hb dX11_isRipe_23 rfl (lv_at hl 1 rfl) ?_
    obtain ⟨hin, hf⟩ := xr_f hf
    refine x_iald hx hb hw (cX13 hE) hin dX11_isRipe_24 ?_
    refine lv_topi (fun v2 ex => ?_)
    replace hf := hf v2 ex
    clear ex hin
    refine lv_aload_n hx hb dX11_isRipe_25 rfl (lv_at hl 0 rfl) ?_
    refine x_getr hx hb hw (cX0 hE) (own := RX11) (ref := RX11) (C := RX11) (T := TX11) (N := 14) hts hiX11 hown rfl 2 (by decide) hk36 (fun _ h9 => h9) rfl dX11_isRipe_26 ?_
    refine x_getr hx hb hw (cX12 hE) (own := RX11) (ref := RX2) (C := RX2) (T := TX2) (N := 8) hts hiX2 hown rfl 3 (by decide) hk213 (fun _ h9 => h9) rfl dX11_isRipe_29 ?_
    refine lv_iload_n hx hb dX11_isRipe_32 rfl (lv_at hl 1 rfl) ?_
    obtain ⟨hin, hf⟩ := xr_f hf
    refine x_iald hx hb hw (cX16 hE) hin dX11_isRipe_33 ?_
    refine lv_topi (fun v3 ex => ?_)
    replace hf := hf v3 ex
    clear ex hin
    obtain ⟨r4, σ5, hcl, hf⟩ := xc2_f hf
    refine x_calli (va_runV (As := [.int v2, .int v3]) (rest := []) ⟨hx, hb, hml, hown, hts⟩ (mX8_isRipeWith hE v2 v3 σ r4 σ5 hcl s.heap.size) (cwV 2 hts gX11_isRipe_X8_isRipeWith rfl rfl rfl (by decide +kernel) ⟨Nat.le_of_ble_eq_true rfl, Nat.le_of_ble_eq_true rfl⟩) (x_preV _ hw hA hG (cX4 hE) rfl) rfl rfl hl.1 rfl (lv_room (Nat.le_of_ble_eq_true rfl)) dX11_isRipe_34 ⟨Nat.le_of_ble_eq_true rfl, Nat.le_of_ble_eq_true rfl⟩) hw hA (fun H locs hw => ?_)
    clear hcl
    refine lv_if_eq (tgt := 44) hx hb dX11_isRipe_37 (by decide) (fun c37 => ?_) (fun c37 => ?_)
    · replace hf := xif_pos c37 hf
      refine lv_iconst (v := 0) hx hb dX11_isRipe_44 (by decide) ?_
      exact x_zretc hx hb hr hlk hw (by decide) hf dX11_isRipe_45
    · replace hf := xif_neg c37 hf
      refine lv_iconst (v := 1) hx hb dX11_isRipe_40 (by decide) ?_
      refine lv_goto (tgt := 45) hx hb dX11_isRipe_41 (by decide) ?_
      exact x_zretc hx hb hr hlk hw (by decide) hf dX11_isRipe_45

def fX11_shape (p0 : Int32) (σ : xSt) : Option (xO × xSt) := (xct (fX11_needDough p0 σ) fun r1 σ2 => (xc2 (fX11_isRipe p0 σ2) fun r3 σ4 => (xct (fX11_needState r3 σ4) fun r5 σ6 => (xc (fX11_remember σ6) fun σ8 => (xs σ8 17 20 p0 1 fun σ9 => (xs σ9 18 20 p0 (σ9 20 0) fun σ10 => (xr σ10 16 20 p0 fun v11 => some ((.inl v11 : xO), σ10))))))))
abbrev rmX11_shape : Room := { frames := 8, cells := 2, slots := 12, locals := 139 }
set_option maxRecDepth 100000 in
set_option maxHeartbeats 4000000 in
theorem mX11_shape {l : Launch} (hl0 : l.stackTraces = false) {E : xE} (hE : E.sh = shX) (p0 : Int32) (σ : xSt) (o1 : xO) (o2 : xSt) (hf : fX11_shape p0 σ = some (o1, o2)) : xMt l yX11_shape wsX11_shape rmX11_shape E [.ref (E.a 0), .int p0] σ o1 o2 2 := by
  unfold fX11_shape at hf
  refine xMt_of (cc := cX11_shape) (maxL := 2) (ret := (some .int)) (by decide) rfl (Nat.le_of_ble_eq_true rfl) ?_
  intro p e s m args below meth c A ls ⟨hx, hb, hr, hml, hown, hts, hlk⟩ hA hG hw hl hex
  have hown : s.vm.findClass RX11 = some m.cls := hown
  have hl : lv_has ls 2 [(0, .ref (E.a 0)), (1, .int p0)] := hl
  have hk36 := hts (.fieldLink RX11 36 "OvenRound" "doughs" "LOvenRound$Doughs;") (by decide +kernel)
  have hiX11 : ∀ w ∈ wsX110, w ∈ wsX11_shape := by decide +kernel
  have hk207 := hts (.fieldLink RX11 207 "OvenRound$Doughs" "state" "[I") (by decide +kernel)
  have hiX2 : ∀ w ∈ wsX20, w ∈ wsX11_shape := by decide +kernel
  have hk210 := hts (.fieldLink RX11 210 "OvenRound$Doughs" "shapedAt" "[I") (by decide +kernel)
  have hk41 := hts (.fieldLink RX11 41 "OvenRound" "oven" "LOvenRound$Oven;") (by decide +kernel)
  have hk186 := hts (.fieldLink RX11 186 "OvenRound$Oven" "tick" "I") (by decide +kernel)
  have hiX5 : ∀ w ∈ wsX50, w ∈ wsX11_shape := by decide +kernel
  have hk213 := hts (.fieldLink RX11 213 "OvenRound$Doughs" "points" "[I") (by decide +kernel)
  refine lv_aload_n hx hb dX11_shape_0 rfl (lv_at hl 0 rfl) ?_
  refine lv_iload_n hx hb dX11_shape_1 rfl (lv_at hl 1 rfl) ?_
  rcases xct_e hf with ⟨k2, σ2, hcl, hf⟩ | ⟨r1, σ2, hcl, hf⟩
  · refine x_tcallv (vx_runV (As := [.int p0]) (rest := []) ⟨hx, hb, hml, hown, hts⟩ (mX11_needDough hl0 hE p0 σ (.inr k2) σ2 hcl s.heap.size) (cwV 1 hts gX11_shape_X11_needDough rfl rfl rfl (by decide +kernel) ⟨Nat.le_of_ble_eq_true rfl, Nat.le_of_ble_eq_true rfl⟩) (x_preV _ hw hA hG (cX0 hE) rfl) rfl rfl hl.1 rfl (lv_room (Nat.le_of_ble_eq_true rfl)) dX11_shape_2 ⟨Nat.le_of_ble_eq_true rfl, Nat.le_of_ble_eq_true rfl⟩) hw hA (fun q9 ce H locs h1 h2 h3 hw => ?_) (fun H locs h1 hw => nomatch h1)
    exact x_tout hlk hex h1 h2 h3 hw hf (Nat.le_of_ble_eq_true rfl) (Nat.le_of_ble_eq_true rfl)
  refine x_tcallv (vx_runV (As := [.int p0]) (rest := []) ⟨hx, hb, hml, hown, hts⟩ (mX11_needDough hl0 hE p0 σ (.inl r1) σ2 hcl s.heap.size) (cwV 1 hts gX11_shape_X11_needDough rfl rfl rfl (by decide +kernel) ⟨Nat.le_of_ble_eq_true rfl, Nat.le_of_ble_eq_true rfl⟩) (x_preV _ hw hA hG (cX0 hE) rfl) rfl rfl hl.1 rfl (lv_room (Nat.le_of_ble_eq_true rfl)) dX11_shape_2 ⟨Nat.le_of_ble_eq_true rfl, Nat.le_of_ble_eq_true rfl⟩) hw hA (fun q9 ce H locs h1 h2 h3 hw => by obtain ⟨_, h9, _⟩ := h3; cases h9) (fun H locs h1 hw => ?_)
  clear hcl h1
  refine lv_aload_n hx hb dX11_shape_5 rfl (lv_at hl 0 rfl) ?_
  refine lv_iload_n hx hb dX11_shape_6 rfl (lv_at hl 1 rfl) ?_
  obtain ⟨r3, σ4, hcl, hf⟩ := xc2_f hf
  refine x_calli (va_runV (As := [.int p0]) (rest := []) ⟨hx, hb, hml, hown, hts⟩ (mX11_isRipe hE p0 σ2 r3 σ4 hcl H.size) (cwV 1 hts gX11_shape_X11_isRipe rfl rfl rfl (by decide +kernel) ⟨Nat.le_of_ble_eq_true rfl, Nat.le_of_ble_eq_true rfl⟩) (x_preV _ hw hA hG (cX0 hE) rfl) rfl rfl hl.1 rfl (lv_room (Nat.le_of_ble_eq_true rfl)) dX11_shape_7 ⟨Nat.le_of_ble_eq_true rfl, Nat.le_of_ble_eq_true rfl⟩) hw hA (fun H locs hw => ?_)
  clear hcl
  rcases xct_e hf with ⟨k10, σ6, hcl, hf⟩ | ⟨r5, σ6, hcl, hf⟩
  · refine x_tcallv (vx_runS (As := [.int r3]) (rest := []) ⟨hx, hb, hml, hown, hts⟩ (mX11_needState hl0 r3 σ4 (.inr k10) σ6 hcl H.size) (va_cwS 1 hts gX11_shape_X11_needState rfl rfl rfl (by decide +kernel) ⟨Nat.le_of_ble_eq_true rfl, Nat.le_of_ble_eq_true rfl⟩) (x_preS _ hw hA hG) rfl rfl hl.1 rfl (lv_room (Nat.le_of_ble_eq_true rfl)) dX11_shape_10 ⟨Nat.le_of_ble_eq_true rfl, Nat.le_of_ble_eq_true rfl⟩) hw hA (fun q9 ce H locs h1 h2 h3 hw => ?_) (fun H locs h1 hw => nomatch h1)
    exact x_tout hlk hex h1 h2 h3 hw hf (Nat.le_of_ble_eq_true rfl) (Nat.le_of_ble_eq_true rfl)
  refine x_tcallv (vx_runS (As := [.int r3]) (rest := []) ⟨hx, hb, hml, hown, hts⟩ (mX11_needState hl0 r3 σ4 (.inl r5) σ6 hcl H.size) (va_cwS 1 hts gX11_shape_X11_needState rfl rfl rfl (by decide +kernel) ⟨Nat.le_of_ble_eq_true rfl, Nat.le_of_ble_eq_true rfl⟩) (x_preS _ hw hA hG) rfl rfl hl.1 rfl (lv_room (Nat.le_of_ble_eq_true rfl)) dX11_shape_10 ⟨Nat.le_of_ble_eq_true rfl, Nat.le_of_ble_eq_true rfl⟩) hw hA (fun q9 ce H locs h1 h2 h3 hw => by obtain ⟨_, h9, _⟩ := h3; cases h9) (fun H locs h1 hw => ?_)
  clear hcl h1
  refine lv_aload_n hx hb dX11_shape_13 rfl (lv_at hl 0 rfl) ?_
  obtain ⟨σ8, hcl, hf⟩ := xc_e hf
  refine x_callv (va_runV (As := []) (rest := []) ⟨hx, hb, hml, hown, hts⟩ (mX11_remember hE σ6 σ8 hcl H.size) (cwV 0 hts gX11_shape_X11_remember rfl rfl rfl (by decide +kernel) ⟨Nat.le_of_ble_eq_true rfl, Nat.le_of_ble_eq_true rfl⟩) (x_preV _ hw hA hG (cX0 hE) rfl) rfl rfl hl.1 rfl (lv_room (Nat.le_of_ble_eq_true rfl)) dX11_shape_14 ⟨Nat.le_of_ble_eq_true rfl, Nat.le_of_ble_eq_true rfl⟩) hw hA (fun H locs hw => ?_)
  clear hcl
  refine lv_aload_n hx hb dX11_shape_17 rfl (lv_at hl 0 rfl) ?_
  refine x_getr hx hb hw (cX0 hE) (own := RX11) (ref := RX11) (C := RX11) (T := TX11) (N := 14) hts hiX11 hown rfl 2 (by decide) hk36 (fun _ h9 => h9) rfl dX11_shape_18 ?_
  refine x_getr hx hb hw (cX12 hE) (own := RX11) (ref := RX2) (C := RX2) (T := TX2) (N := 8) hts hiX2 hown rfl 4 (by decide) hk207 (fun _ h9 => h9) rfl dX11_shape_21 ?_
  refine lv_iload_n hx hb dX11_shape_24 rfl (lv_at hl 1 rfl) ?_
  refine lv_iconst (v := 1) hx hb dX11_shape_25 (by decide) ?_
  obtain ⟨hin, hf⟩ := xs_f hf
  refine x_iast hx hb hw (cX17 hE) hin dX11_shape_26 (fun σ9 H locs ex hw => ?_)
  replace hf := hf σ9 ex
  clear ex hin
  refine lv_aload_n hx hb dX11_shape_27 rfl (lv_at hl 0 rfl) ?_
  refine x_getr hx hb hw (cX0 hE) (own := RX11) (ref := RX11) (C := RX11) (T := TX11) (N := 14) hts hiX11 hown rfl 2 (by decide) hk36 (fun _ h9 => h9) rfl dX11_shape_28 ?_
  refine x_getr hx hb hw (cX12 hE) (own := RX11) (ref := RX2) (C := RX2) (T := TX2) (N := 8) hts hiX2 hown rfl 5 (by decide) hk210 (fun _ h9 => h9) rfl dX11_shape_31 ?_
  refine lv_iload_n hx hb dX11_shape_34 rfl (lv_at hl 1 rfl) ?_
  refine lv_aload_n hx hb dX11_shape_35 rfl (lv_at hl 0 rfl) ?_
  refine x_getr hx hb hw (cX0 hE) (own := RX11) (ref := RX11) (C := RX11) (T := TX11) (N := 14) hts hiX11 hown rfl 3 (by decide) hk41 (fun _ h9 => h9) rfl dX11_shape_36 ?_
  refine x_geti hx hb hw (cX20 hE) (own := RX11) (ref := RX5) (C := RX5) (T := TX5) (N := 5) hts hiX5 hown rfl 0 (by decide) hk186 (fun _ h9 => h9) rfl dX11_shape_39 ?_
  obtain ⟨hin, hf⟩ := xs_f hf
  refine x_iast hx hb hw (cX18 hE) hin dX11_shape_42 (fun σ10 H locs ex hw => ?_)
  replace hf := hf σ10 ex
  clear ex hin
  refine lv_aload_n hx hb dX11_shape_43 rfl (lv_at hl 0 rfl) ?_
  refine x_getr hx hb hw (cX0 hE) (own := RX11) (ref := RX11) (C := RX11) (T := TX11) (N := 14) hts hiX11 hown rfl 2 (by decide) hk36 (fun _ h9 => h9) rfl dX11_shape_44 ?_
  refine x_getr hx hb hw (cX12 hE) (own := RX11) (ref := RX2) (C := RX2) (T := TX2) (N := 8) hts hiX2 hown rfl 3 (by decide) hk213 (fun _ h9 => h9) rfl dX11_shape_47 ?_
  refine lv_iload_n hx hb dX11_shape_50 rfl (lv_at hl 1 rfl) ?_
  obtain ⟨hin, hf⟩ := xr_f hf
  refine x_iald hx hb hw (cX16 hE) hin dX11_shape_51 ?_
  refine lv_topi (fun v11 ex => ?_)
  replace hf := hf v11 ex
  clear ex hin
  exact x_tiret hx hb hr hlk hw hf (Nat.le_of_ble_eq_true rfl) (Nat.le_of_ble_eq_true rfl) dX11_shape_52

def fX11_doughAt (p0 : Int32) (p1 : Int32) (σ : xSt) : Option (xO × xSt) := (xct (fX11_needDough p0 σ) fun r1 σ2 => (xc2 (fX11_isWithin p1 0 6 σ2) fun r3 σ4 => (xct (fX11_needArgument r3 σ4) fun r5 σ6 => (if p1 = 0 then (xr σ6 13 20 p0 fun v7 => some ((.inl v7 : xO), σ6)) else (if p1 = 1 then (xr σ6 14 20 p0 fun v8 => some ((.inl v8 : xO), σ6)) else (if p1 = 2 then (xr σ6 16 20 p0 fun v9 => some ((.inl v9 : xO), σ6)) else (if p1 = 3 then (xr σ6 17 20 p0 fun v10 => some ((.inl v10 : xO), σ6)) else (if p1 = 4 then (xr σ6 15 20 p0 fun v11 => some ((.inl v11 : xO), σ6)) else (if p1 = 5 then (xr σ6 18 20 p0 fun v12 => some ((.inl v12 : xO), σ6)) else (xr σ6 19 20 p0 fun v13 => some ((.inl v13 : xO), σ6)))))))))))
abbrev rmX11_doughAt : Room := { frames := 8, cells := 2, slots := 12, locals := 131 }
set_option maxRecDepth 100000 in
set_option maxHeartbeats 4000000 in
theorem mX11_doughAt {l : Launch} (hl0 : l.stackTraces = false) {E : xE} (hE : E.sh = shX) (p0 : Int32) (p1 : Int32) (σ : xSt) (o1 : xO) (o2 : xSt) (hf : fX11_doughAt p0 p1 σ = some (o1, o2)) : xMt l yX11_doughAt wsX11_doughAt rmX11_doughAt E [.ref (E.a 0), .int p0, .int p1] σ o1 o2 2 := by
  unfold fX11_doughAt at hf
  refine xMt_of (cc := cX11_doughAt) (maxL := 3) (ret := (some .int)) (by decide) rfl (Nat.le_of_ble_eq_true rfl) ?_
  intro p e s m args below meth c A ls ⟨hx, hb, hr, hml, hown, hts, hlk⟩ hA hG hw hl hex
  have hown : s.vm.findClass RX11 = some m.cls := hown
  have hl : lv_has ls 3 [(0, .ref (E.a 0)), (1, .int p0), (2, .int p1)] := hl
  have hk36 := hts (.fieldLink RX11 36 "OvenRound" "doughs" "LOvenRound$Doughs;") (by decide +kernel)
  have hiX11 : ∀ w ∈ wsX110, w ∈ wsX11_doughAt := by decide +kernel
  have hk216 := hts (.fieldLink RX11 216 "OvenRound$Doughs" "recipe" "[I") (by decide +kernel)
  have hiX2 : ∀ w ∈ wsX20, w ∈ wsX11_doughAt := by decide +kernel
  have hk219 := hts (.fieldLink RX11 219 "OvenRound$Doughs" "pieces" "[I") (by decide +kernel)
  have hk213 := hts (.fieldLink RX11 213 "OvenRound$Doughs" "points" "[I") (by decide +kernel)
  have hk207 := hts (.fieldLink RX11 207 "OvenRound$Doughs" "state" "[I") (by decide +kernel)
  have hk222 := hts (.fieldLink RX11 222 "OvenRound$Doughs" "grams" "[I") (by decide +kernel)
  have hk210 := hts (.fieldLink RX11 210 "OvenRound$Doughs" "shapedAt" "[I") (by decide +kernel)
  have hk223 := hts (.fieldLink RX11 223 "OvenRound$Doughs" "ovenAt" "[I") (by decide +kernel)
  refine lv_aload_n hx hb dX11_doughAt_0 rfl (lv_at hl 0 rfl) ?_
  refine lv_iload_n hx hb dX11_doughAt_1 rfl (lv_at hl 1 rfl) ?_
  rcases xct_e hf with ⟨k2, σ2, hcl, hf⟩ | ⟨r1, σ2, hcl, hf⟩
  · refine x_tcallv (vx_runV (As := [.int p0]) (rest := []) ⟨hx, hb, hml, hown, hts⟩ (mX11_needDough hl0 hE p0 σ (.inr k2) σ2 hcl s.heap.size) (cwV 1 hts gX11_doughAt_X11_needDough rfl rfl rfl (by decide +kernel) ⟨Nat.le_of_ble_eq_true rfl, Nat.le_of_ble_eq_true rfl⟩) (x_preV _ hw hA hG (cX0 hE) rfl) rfl rfl hl.1 rfl (lv_room (Nat.le_of_ble_eq_true rfl)) dX11_doughAt_2 ⟨Nat.le_of_ble_eq_true rfl, Nat.le_of_ble_eq_true rfl⟩) hw hA (fun q9 ce H locs h1 h2 h3 hw => ?_) (fun H locs h1 hw => nomatch h1)
    exact x_tout hlk hex h1 h2 h3 hw hf (Nat.le_of_ble_eq_true rfl) (Nat.le_of_ble_eq_true rfl)
  refine x_tcallv (vx_runV (As := [.int p0]) (rest := []) ⟨hx, hb, hml, hown, hts⟩ (mX11_needDough hl0 hE p0 σ (.inl r1) σ2 hcl s.heap.size) (cwV 1 hts gX11_doughAt_X11_needDough rfl rfl rfl (by decide +kernel) ⟨Nat.le_of_ble_eq_true rfl, Nat.le_of_ble_eq_true rfl⟩) (x_preV _ hw hA hG (cX0 hE) rfl) rfl rfl hl.1 rfl (lv_room (Nat.le_of_ble_eq_true rfl)) dX11_doughAt_2 ⟨Nat.le_of_ble_eq_true rfl, Nat.le_of_ble_eq_true rfl⟩) hw hA (fun q9 ce H locs h1 h2 h3 hw => by obtain ⟨_, h9, _⟩ := h3; cases h9) (fun H locs h1 hw => ?_)
  clear hcl h1
  refine lv_iload_n hx hb dX11_doughAt_5 rfl (lv_at hl 2 rfl) ?_
  refine lv_iconst (v := 0) hx hb dX11_doughAt_6 (by decide) ?_
  refine lv_bipush (v := 6) hx hb dX11_doughAt_7 (by decide) ?_
  obtain ⟨r3, σ4, hcl, hf⟩ := xc2_f hf
  refine x_calli (va_runS (As := [.int p1, .int 0, .int 6]) (rest := []) ⟨hx, hb, hml, hown, hts⟩ (mX11_isWithin hE p1 0 6 σ2 r3 σ4 hcl H.size) (va_cwS 3 hts gX11_doughAt_X11_isWithin rfl rfl rfl (by decide +kernel) ⟨Nat.le_of_ble_eq_true rfl, Nat.le_of_ble_eq_true rfl⟩) (x_preS _ hw hA hG) rfl rfl hl.1 rfl (lv_room (Nat.le_of_ble_eq_true rfl)) dX11_doughAt_9 ⟨Nat.le_of_ble_eq_true rfl, Nat.le_of_ble_eq_true rfl⟩) hw hA (fun H locs hw => ?_)
  clear hcl
  rcases xct_e hf with ⟨k12, σ6, hcl, hf⟩ | ⟨r5, σ6, hcl, hf⟩
  · refine x_tcallv (vx_runS (As := [.int r3]) (rest := []) ⟨hx, hb, hml, hown, hts⟩ (mX11_needArgument hl0 r3 σ4 (.inr k12) σ6 hcl H.size) (va_cwS 1 hts gX11_doughAt_X11_needArgument rfl rfl rfl (by decide +kernel) ⟨Nat.le_of_ble_eq_true rfl, Nat.le_of_ble_eq_true rfl⟩) (x_preS _ hw hA hG) rfl rfl hl.1 rfl (lv_room (Nat.le_of_ble_eq_true rfl)) dX11_doughAt_12 ⟨Nat.le_of_ble_eq_true rfl, Nat.le_of_ble_eq_true rfl⟩) hw hA (fun q9 ce H locs h1 h2 h3 hw => ?_) (fun H locs h1 hw => nomatch h1)
    exact x_tout hlk hex h1 h2 h3 hw hf (Nat.le_of_ble_eq_true rfl) (Nat.le_of_ble_eq_true rfl)
  refine x_tcallv (vx_runS (As := [.int r3]) (rest := []) ⟨hx, hb, hml, hown, hts⟩ (mX11_needArgument hl0 r3 σ4 (.inl r5) σ6 hcl H.size) (va_cwS 1 hts gX11_doughAt_X11_needArgument rfl rfl rfl (by decide +kernel) ⟨Nat.le_of_ble_eq_true rfl, Nat.le_of_ble_eq_true rfl⟩) (x_preS _ hw hA hG) rfl rfl hl.1 rfl (lv_room (Nat.le_of_ble_eq_true rfl)) dX11_doughAt_12 ⟨Nat.le_of_ble_eq_true rfl, Nat.le_of_ble_eq_true rfl⟩) hw hA (fun q9 ce H locs h1 h2 h3 hw => by obtain ⟨_, h9, _⟩ := h3; cases h9) (fun H locs h1 hw => ?_)
  clear hcl h1
  refine lv_iload_n hx hb dX11_doughAt_15 rfl (lv_at hl 2 rfl) ?_
  by_cases c16_0 : p1 = 0
  · replace hf := xif_pos c16_0 hf
    refine lv_tableIn (off := 40) (tgt := 56) hx hb dX11_doughAt_16 (by rw [c16_0]; decide) (by rw [c16_0]; decide) (by rw [c16_0]; rfl) (by decide) ?_
    refine lv_aload_n hx hb dX11_doughAt_56 rfl (lv_at hl 0 rfl) ?_
    refine x_getr hx hb hw (cX0 hE) (own := RX11) (ref := RX11) (C := RX11) (T := TX11) (N := 14) hts hiX11 hown rfl 2 (by decide) hk36 (fun _ h9 => h9) rfl dX11_doughAt_57 ?_
    refine x_getr hx hb hw (cX12 hE) (own := RX11) (ref := RX2) (C := RX2) (T := TX2) (N := 8) hts hiX2 hown rfl 0 (by decide) hk216 (fun _ h9 => h9) rfl dX11_doughAt_60 ?_
    refine lv_iload_n hx hb dX11_doughAt_63 rfl (lv_at hl 1 rfl) ?_
    obtain ⟨hin, hf⟩ := xr_f hf
    refine x_iald hx hb hw (cX13 hE) hin dX11_doughAt_64 ?_
    refine lv_topi (fun v7 ex => ?_)
    replace hf := hf v7 ex
    clear ex hin
    exact x_tiret hx hb hr hlk hw hf (Nat.le_of_ble_eq_true rfl) (Nat.le_of_ble_eq_true rfl) dX11_doughAt_65
  · replace hf := xif_neg c16_0 hf
    by_cases c16_1 : p1 = 1
    · replace hf := xif_pos c16_1 hf
      refine lv_tableIn (off := 50) (tgt := 66) hx hb dX11_doughAt_16 (by rw [c16_1]; decide) (by rw [c16_1]; decide) (by rw [c16_1]; rfl) (by decide) ?_
      refine lv_aload_n hx hb dX11_doughAt_66 rfl (lv_at hl 0 rfl) ?_
      refine x_getr hx hb hw (cX0 hE) (own := RX11) (ref := RX11) (C := RX11) (T := TX11) (N := 14) hts hiX11 hown rfl 2 (by decide) hk36 (fun _ h9 => h9) rfl dX11_doughAt_67 ?_
      refine x_getr hx hb hw (cX12 hE) (own := RX11) (ref := RX2) (C := RX2) (T := TX2) (N := 8) hts hiX2 hown rfl 1 (by decide) hk219 (fun _ h9 => h9) rfl dX11_doughAt_70 ?_
      refine lv_iload_n hx hb dX11_doughAt_73 rfl (lv_at hl 1 rfl) ?_
      obtain ⟨hin, hf⟩ := xr_f hf
      refine x_iald hx hb hw (cX14 hE) hin dX11_doughAt_74 ?_
      refine lv_topi (fun v8 ex => ?_)
      replace hf := hf v8 ex
      clear ex hin
      exact x_tiret hx hb hr hlk hw hf (Nat.le_of_ble_eq_true rfl) (Nat.le_of_ble_eq_true rfl) dX11_doughAt_75
    · replace hf := xif_neg c16_1 hf
      by_cases c16_2 : p1 = 2
      · replace hf := xif_pos c16_2 hf
        refine lv_tableIn (off := 60) (tgt := 76) hx hb dX11_doughAt_16 (by rw [c16_2]; decide) (by rw [c16_2]; decide) (by rw [c16_2]; rfl) (by decide) ?_
        refine lv_aload_n hx hb dX11_doughAt_76 rfl (lv_at hl 0 rfl) ?_
        refine x_getr hx hb hw (cX0 hE) (own := RX11) (ref := RX11) (C := RX11) (T := TX11) (N := 14) hts hiX11 hown rfl 2 (by decide) hk36 (fun _ h9 => h9) rfl dX11_doughAt_77 ?_
        refine x_getr hx hb hw (cX12 hE) (own := RX11) (ref := RX2) (C := RX2) (T := TX2) (N := 8) hts hiX2 hown rfl 3 (by decide) hk213 (fun _ h9 => h9) rfl dX11_doughAt_80 ?_
        refine lv_iload_n hx hb dX11_doughAt_83 rfl (lv_at hl 1 rfl) ?_
        obtain ⟨hin, hf⟩ := xr_f hf
        refine x_iald hx hb hw (cX16 hE) hin dX11_doughAt_84 ?_
        refine lv_topi (fun v9 ex => ?_)
        replace hf := hf v9 ex
        clear ex hin
        exact x_tiret hx hb hr hlk hw hf (Nat.le_of_ble_eq_true rfl) (Nat.le_of_ble_eq_true rfl) dX11_doughAt_85
      · replace hf := xif_neg c16_2 hf
        by_cases c16_3 : p1 = 3
        · replace hf := xif_pos c16_3 hf
          refine lv_tableIn (off := 70) (tgt := 86) hx hb dX11_doughAt_16 (by rw [c16_3]; decide) (by rw [c16_3]; decide) (by rw [c16_3]; rfl) (by decide) ?_
          refine lv_aload_n hx hb dX11_doughAt_86 rfl (lv_at hl 0 rfl) ?_
          refine x_getr hx hb hw (cX0 hE) (own := RX11) (ref := RX11) (C := RX11) (T := TX11) (N := 14) hts hiX11 hown rfl 2 (by decide) hk36 (fun _ h9 => h9) rfl dX11_doughAt_87 ?_
          refine x_getr hx hb hw (cX12 hE) (own := RX11) (ref := RX2) (C := RX2) (T := TX2) (N := 8) hts hiX2 hown rfl 4 (by decide) hk207 (fun _ h9 => h9) rfl dX11_doughAt_90 ?_
          refine lv_iload_n hx hb dX11_doughAt_93 rfl (lv_at hl 1 rfl) ?_
          obtain ⟨hin, hf⟩ := xr_f hf
          refine x_iald hx hb hw (cX17 hE) hin dX11_doughAt_94 ?_
          refine lv_topi (fun v10 ex => ?_)
          replace hf := hf v10 ex
          clear ex hin
          exact x_tiret hx hb hr hlk hw hf (Nat.le_of_ble_eq_true rfl) (Nat.le_of_ble_eq_true rfl) dX11_doughAt_95
        · replace hf := xif_neg c16_3 hf
          by_cases c16_4 : p1 = 4
          · replace hf := xif_pos c16_4 hf
            refine lv_tableIn (off := 80) (tgt := 96) hx hb dX11_doughAt_16 (by rw [c16_4]; decide) (by rw [c16_4]; decide) (by rw [c16_4]; rfl) (by decide) ?_
            refine lv_aload_n hx hb dX11_doughAt_96 rfl (lv_at hl 0 rfl) ?_
            refine x_getr hx hb hw (cX0 hE) (own := RX11) (ref := RX11) (C := RX11) (T := TX11) (N := 14) hts hiX11 hown rfl 2 (by decide) hk36 (fun _ h9 => h9) rfl dX11_doughAt_97 ?_
            refine x_getr hx hb hw (cX12 hE) (own := RX11) (ref := RX2) (C := RX2) (T := TX2) (N := 8) hts hiX2 hown rfl 2 (by decide) hk222 (fun _ h9 => h9) rfl dX11_doughAt_100 ?_
            refine lv_iload_n hx hb dX11_doughAt_103 rfl (lv_at hl 1 rfl) ?_
            obtain ⟨hin, hf⟩ := xr_f hf
            refine x_iald hx hb hw (cX15 hE) hin dX11_doughAt_104 ?_
            refine lv_topi (fun v11 ex => ?_)
            replace hf := hf v11 ex
            clear ex hin
            exact x_tiret hx hb hr hlk hw hf (Nat.le_of_ble_eq_true rfl) (Nat.le_of_ble_eq_true rfl) dX11_doughAt_105
          · replace hf := xif_neg c16_4 hf
            by_cases c16_5 : p1 = 5
            · replace hf := xif_pos c16_5 hf
              refine lv_tableIn (off := 90) (tgt := 106) hx hb dX11_doughAt_16 (by rw [c16_5]; decide) (by rw [c16_5]; decide) (by rw [c16_5]; rfl) (by decide) ?_
              refine lv_aload_n hx hb dX11_doughAt_106 rfl (lv_at hl 0 rfl) ?_
              refine x_getr hx hb hw (cX0 hE) (own := RX11) (ref := RX11) (C := RX11) (T := TX11) (N := 14) hts hiX11 hown rfl 2 (by decide) hk36 (fun _ h9 => h9) rfl dX11_doughAt_107 ?_
              refine x_getr hx hb hw (cX12 hE) (own := RX11) (ref := RX2) (C := RX2) (T := TX2) (N := 8) hts hiX2 hown rfl 5 (by decide) hk210 (fun _ h9 => h9) rfl dX11_doughAt_110 ?_
              refine lv_iload_n hx hb dX11_doughAt_113 rfl (lv_at hl 1 rfl) ?_
              obtain ⟨hin, hf⟩ := xr_f hf
              refine x_iald hx hb hw (cX18 hE) hin dX11_doughAt_114 ?_
              refine lv_topi (fun v12 ex => ?_)
              replace hf := hf v12 ex
              clear ex hin
              exact x_tiret hx hb hr hlk hw hf (Nat.le_of_ble_eq_true rfl) (Nat.le_of_ble_eq_true rfl) dX11_doughAt_115
            · replace hf := xif_neg c16_5 hf
              refine lv_tableOut (tgt := 116) hx hb dX11_doughAt_16 (x_sw5 c16_0 c16_1 c16_2 c16_3 c16_4 c16_5) (by decide) ?_
              refine lv_aload_n hx hb dX11_doughAt_116 rfl (lv_at hl 0 rfl) ?_
              refine x_getr hx hb hw (cX0 hE) (own := RX11) (ref := RX11) (C := RX11) (T := TX11) (N := 14) hts hiX11 hown rfl 2 (by decide) hk36 (fun _ h9 => h9) rfl dX11_doughAt_117 ?_
              refine x_getr hx hb hw (cX12 hE) (own := RX11) (ref := RX2) (C := RX2) (T := TX2) (N := 8) hts hiX2 hown rfl 6 (by decide) hk223 (fun _ h9 => h9) rfl dX11_doughAt_120 ?_
              refine lv_iload_n hx hb dX11_doughAt_123 rfl (lv_at hl 1 rfl) ?_
              obtain ⟨hin, hf⟩ := xr_f hf
              refine x_iald hx hb hw (cX19 hE) hin dX11_doughAt_124 ?_
              refine lv_topi (fun v13 ex => ?_)
              replace hf := hf v13 ex
              clear ex hin
              exact x_tiret hx hb hr hlk hw hf (Nat.le_of_ble_eq_true rfl) (Nat.le_of_ble_eq_true rfl) dX11_doughAt_125

def fX11_doughCount (σ : xSt) : Option (Int32 × xSt) := some ((σ 12 7), σ)
abbrev rmX11_doughCount : Room := { frames := 0, cells := 0, slots := 0, locals := 0 }
set_option maxRecDepth 100000 in
set_option maxHeartbeats 4000000 in
theorem mX11_doughCount {l : Launch} {E : xE} (hE : E.sh = shX) (σ : xSt) (o1 : Int32) (o2 : xSt) (hf : fX11_doughCount σ = some (o1, o2)) : xMi l yX11_doughCount wsX11_doughCount rmX11_doughCount E [.ref (E.a 0)] σ o1 o2 := by
  unfold fX11_doughCount at hf
  refine xMi_of (cc := cX11_doughCount) (maxL := 1) (ret := (some .int)) (by decide) rfl (Nat.le_of_ble_eq_true rfl) ?_
  intro p e s m args below meth c A ls ⟨hx, hb, hr, hml, hown, hts, hlk⟩ hA hG hw hl
  have hown : s.vm.findClass RX11 = some m.cls := hown
  have hl : lv_has ls 1 [(0, .ref (E.a 0))] := hl
  have hk36 := hts (.fieldLink RX11 36 "OvenRound" "doughs" "LOvenRound$Doughs;") (by decide +kernel)
  have hiX11 : ∀ w ∈ wsX110, w ∈ wsX11_doughCount := by decide +kernel
  have hk175 := hts (.fieldLink RX11 175 "OvenRound$Doughs" "count" "I") (by decide +kernel)
  have hiX2 : ∀ w ∈ wsX20, w ∈ wsX11_doughCount := by decide +kernel
  refine lv_aload_n hx hb dX11_doughCount_0 rfl (lv_at hl 0 rfl) ?_
  refine x_getr hx hb hw (cX0 hE) (own := RX11) (ref := RX11) (C := RX11) (T := TX11) (N := 14) hts hiX11 hown rfl 2 (by decide) hk36 (fun _ h9 => h9) rfl dX11_doughCount_1 ?_
  refine x_geti hx hb hw (cX12 hE) (own := RX11) (ref := RX2) (C := RX2) (T := TX2) (N := 8) hts hiX2 hown rfl 7 (by decide) hk175 (fun _ h9 => h9) rfl dX11_doughCount_4 ?_
  exact x_iret hx hb hr hlk hw hf dX11_doughCount_7

def fX11_setHeat (p0 : Int32) (σ : xSt) : Option (xO × xSt) := (xc2 (fX11_isWithin p0 20 320 σ) fun r1 σ2 => (xct (fX11_needArgument r1 σ2) fun r3 σ4 => (xc (fX11_remember σ4) fun σ6 => (xp σ6 20 4 p0 fun σ7 => some ((.inl (σ7 20 3) : xO), σ7)))))
abbrev rmX11_setHeat : Room := { frames := 7, cells := 1, slots := 6, locals := 139 }
set_option maxRecDepth 100000 in
set_option maxHeartbeats 4000000 in
theorem mX11_setHeat {l : Launch} (hl0 : l.stackTraces = false) {E : xE} (hE : E.sh = shX) (p0 : Int32) (σ : xSt) (o1 : xO) (o2 : xSt) (hf : fX11_setHeat p0 σ = some (o1, o2)) : xMt l yX11_setHeat wsX11_setHeat rmX11_setHeat E [.ref (E.a 0), .int p0] σ o1 o2 1 := by
  unfold fX11_setHeat at hf
  refine xMt_of (cc := cX11_setHeat) (maxL := 2) (ret := (some .int)) (by decide) rfl (Nat.le_of_ble_eq_true rfl) ?_
  intro p e s m args below meth c A ls ⟨hx, hb, hr, hml, hown, hts, hlk⟩ hA hG hw hl hex
  have hown : s.vm.findClass RX11 = some m.cls := hown
  have hl : lv_has ls 2 [(0, .ref (E.a 0)), (1, .int p0)] := hl
  have hk41 := hts (.fieldLink RX11 41 "OvenRound" "oven" "LOvenRound$Oven;") (by decide +kernel)
  have hiX11 : ∀ w ∈ wsX110, w ∈ wsX11_setHeat := by decide +kernel
  have hk232 := hts (.fieldLink RX11 232 "OvenRound$Oven" "setHeat" "I") (by decide +kernel)
  have hiX5 : ∀ w ∈ wsX50, w ∈ wsX11_setHeat := by decide +kernel
  have hk235 := hts (.fieldLink RX11 235 "OvenRound$Oven" "heat" "I") (by decide +kernel)
  refine lv_iload_n hx hb dX11_setHeat_0 rfl (lv_at hl 1 rfl) ?_
  refine lv_bipush (v := 20) hx hb dX11_setHeat_1 (by decide) ?_
  refine lv_sipush (v := 320) hx hb dX11_setHeat_3 (by decide) ?_
  obtain ⟨r1, σ2, hcl, hf⟩ := xc2_f hf
  refine x_calli (va_runS (As := [.int p0, .int 20, .int 320]) (rest := []) ⟨hx, hb, hml, hown, hts⟩ (mX11_isWithin hE p0 20 320 σ r1 σ2 hcl s.heap.size) (va_cwS 3 hts gX11_setHeat_X11_isWithin rfl rfl rfl (by decide +kernel) ⟨Nat.le_of_ble_eq_true rfl, Nat.le_of_ble_eq_true rfl⟩) (x_preS _ hw hA hG) rfl rfl hl.1 rfl (lv_room (Nat.le_of_ble_eq_true rfl)) dX11_setHeat_6 ⟨Nat.le_of_ble_eq_true rfl, Nat.le_of_ble_eq_true rfl⟩) hw hA (fun H locs hw => ?_)
  clear hcl
  rcases xct_e hf with ⟨k9, σ4, hcl, hf⟩ | ⟨r3, σ4, hcl, hf⟩
  · refine x_tcallv (vx_runS (As := [.int r1]) (rest := []) ⟨hx, hb, hml, hown, hts⟩ (mX11_needArgument hl0 r1 σ2 (.inr k9) σ4 hcl H.size) (va_cwS 1 hts gX11_setHeat_X11_needArgument rfl rfl rfl (by decide +kernel) ⟨Nat.le_of_ble_eq_true rfl, Nat.le_of_ble_eq_true rfl⟩) (x_preS _ hw hA hG) rfl rfl hl.1 rfl (lv_room (Nat.le_of_ble_eq_true rfl)) dX11_setHeat_9 ⟨Nat.le_of_ble_eq_true rfl, Nat.le_of_ble_eq_true rfl⟩) hw hA (fun q9 ce H locs h1 h2 h3 hw => ?_) (fun H locs h1 hw => nomatch h1)
    exact x_tout hlk hex h1 h2 h3 hw hf (Nat.le_of_ble_eq_true rfl) (Nat.le_of_ble_eq_true rfl)
  refine x_tcallv (vx_runS (As := [.int r1]) (rest := []) ⟨hx, hb, hml, hown, hts⟩ (mX11_needArgument hl0 r1 σ2 (.inl r3) σ4 hcl H.size) (va_cwS 1 hts gX11_setHeat_X11_needArgument rfl rfl rfl (by decide +kernel) ⟨Nat.le_of_ble_eq_true rfl, Nat.le_of_ble_eq_true rfl⟩) (x_preS _ hw hA hG) rfl rfl hl.1 rfl (lv_room (Nat.le_of_ble_eq_true rfl)) dX11_setHeat_9 ⟨Nat.le_of_ble_eq_true rfl, Nat.le_of_ble_eq_true rfl⟩) hw hA (fun q9 ce H locs h1 h2 h3 hw => by obtain ⟨_, h9, _⟩ := h3; cases h9) (fun H locs h1 hw => ?_)
  clear hcl h1
  refine lv_aload_n hx hb dX11_setHeat_12 rfl (lv_at hl 0 rfl) ?_
  obtain ⟨σ6, hcl, hf⟩ := xc_e hf
  refine x_callv (va_runV (As := []) (rest := []) ⟨hx, hb, hml, hown, hts⟩ (mX11_remember hE σ4 σ6 hcl H.size) (cwV 0 hts gX11_setHeat_X11_remember rfl rfl rfl (by decide +kernel) ⟨Nat.le_of_ble_eq_true rfl, Nat.le_of_ble_eq_true rfl⟩) (x_preV _ hw hA hG (cX0 hE) rfl) rfl rfl hl.1 rfl (lv_room (Nat.le_of_ble_eq_true rfl)) dX11_setHeat_13 ⟨Nat.le_of_ble_eq_true rfl, Nat.le_of_ble_eq_true rfl⟩) hw hA (fun H locs hw => ?_)
  clear hcl
  refine lv_aload_n hx hb dX11_setHeat_16 rfl (lv_at hl 0 rfl) ?_
  refine x_getr hx hb hw (cX0 hE) (own := RX11) (ref := RX11) (C := RX11) (T := TX11) (N := 14) hts hiX11 hown rfl 3 (by decide) hk41 (fun _ h9 => h9) rfl dX11_setHeat_17 ?_
  refine lv_iload_n hx hb dX11_setHeat_20 rfl (lv_at hl 1 rfl) ?_
  refine x_puti hx hb hw (cX20 hE) (own := RX11) (ref := RX5) (C := RX5) (T := TX5) (N := 5) hts hiX5 tyX5 tyX5_ok nmX5 hown rfl 4 (by decide) hk232 (fun _ h9 => h9) rfl (by decide +kernel) rfl dX11_setHeat_21 (fun σ7 H locs ex hw => ?_)
  replace hf := xp_f hf σ7 ex
  clear ex
  refine lv_aload_n hx hb dX11_setHeat_24 rfl (lv_at hl 0 rfl) ?_
  refine x_getr hx hb hw (cX0 hE) (own := RX11) (ref := RX11) (C := RX11) (T := TX11) (N := 14) hts hiX11 hown rfl 3 (by decide) hk41 (fun _ h9 => h9) rfl dX11_setHeat_25 ?_
  refine x_geti hx hb hw (cX20 hE) (own := RX11) (ref := RX5) (C := RX5) (T := TX5) (N := 5) hts hiX5 hown rfl 3 (by decide) hk235 (fun _ h9 => h9) rfl dX11_setHeat_28 ?_
  exact x_tiret hx hb hr hlk hw hf (Nat.le_of_ble_eq_true rfl) (Nat.le_of_ble_eq_true rfl) dX11_setHeat_31
