def fX11_isRipe (p0 : Int32) (σ : xSt) : Option (Int32 × xSt) := (xr σ 17 20 p0 fun v1 => (if v1 = 0 then (xr σ 13 20 p0 fun v2 => (xr σ 16 20 p0 fun v3 => (xc2 (fX8_isRipeWith v2 v3 σ) fun r4 σ5 => (if r4 = 0 then some (0, σ5) else some (1, σ5))))) else some (0, σ)))
abbrev rmX11_isRipe : Room := { frames := 2, cells := 0, slots := 0, locals := 44 }
set_option maxRecDepth 100000 in
set_option maxHeartbeats 4000000 in
theorem mX11_isRipe {l : Launch} {E : xE} (hE : E.sh = shX) (p0 : Int32) (σ : xSt) (o1 : Int32) (o2 : xSt) (hf : fX11_isRipe p0 σ = some (o1, o2)) : xMi l yX11_isRipe wsX11_isRipe rmX11_isRipe E [.ref (E.a 0), .int p0] σ o1 o2 := by
  unfold fX11_isRipe at hf
  refine xMi_of (cc := cX11_isRipe) (maxL := 2) (ret := (some .boolean)) (by decide) rfl (Nat.le_of_ble_eq_true rfl) ?_
  intro p e s m args below meth c A ls ⟨hx, hb, hr, hml, hown, hts, hlk⟩ hA hG hw hl
  have hown : s.vm.findClass RX11 = some m.cls := hown
  have hl : lv_has ls 2 [(0, .ref (E.a 0)), (1, .int p0)] := hl
  have hk36 := hts (.fieldLink RX11 36 "OvenRound" "doughs" "LOvenRound$Doughs;") (by decide +kernel)
  have hiX11 : ∀ w ∈ wsX110, w ∈ wsX11_isRipe := by decide +kernel
  have hk207 := hts (.fieldLink RX11 207 "OvenRound$Doughs" "state" "[I") (by decide +kernel)
  have hiX2 : ∀ w ∈ wsX20, w ∈ wsX11_isRipe := by decide +kernel
  have hk31 := hts (.fieldLink RX11 31 "OvenRound" "recipes" "LOvenRound$Recipes;") (by decide +kernel)
  have hk216 := hts (.fieldLink RX11 216 "OvenRound$Doughs" "recipe" "[I") (by decide +kernel)
  have hk213 := hts (.fieldLink RX11 213 "OvenRound$Doughs" "points" "[I") (by decide +kernel)
  refine lv_aload_n hx hb dX11_isRipe_0 rfl (lv_at hl 0 rfl) ?_
  refine x_getr hx hb hw (cX0 hE) (own := RX11) (ref := RX11) (C := RX11) (T := TX11) (N := 14) hts hiX11 hown rfl 2 (by decide) hk36 (fun _ h9 => h9) rfl dX11_isRipe_1 ?_
  refine x_getr hx hb hw (cX12 hE) (own := RX11) (ref := RX2) (C := RX2) (T := TX2) (N := 8) hts hiX2 hown rfl 4 (by decide) hk207 (fun _ h9 => h9) rfl dX11_isRipe_4 ?_
  refine lv_iload_n hx hb dX11_isRipe_7 rfl (lv_at hl 1 rfl) ?_
  obtain ⟨hin, hf⟩ := xr_f hf
  refine x_iald hx hb hw (cX17 hE) hin dX11_isRipe_8 ?_
  refine lv_topi (fun v1 ex => ?_)
  replace hf := hf v1 ex
  clear ex hin
  refine lv_if_ne (tgt := 44) hx hb dX11_isRipe_9 (by decide) (fun c9 => ?_) (fun c9 => ?_)
  · replace hf := xif_neg c9 hf
    refine lv_iconst (v := 0) hx hb dX11_isRipe_44 (by decide) ?_
    exact x_zretc hx hb hr hlk hw (by decide) hf dX11_isRipe_45
  · replace hf := xif_pos c9 hf
    refine lv_aload_n hx hb dX11_isRipe_12 rfl (lv_at hl 0 rfl) ?_
    refine x_getr hx hb hw (cX0 hE) (own := RX11) (ref := RX11) (C := RX11) (T := TX11) (N := 14) hts hiX11 hown rfl 1 (by decide) hk31 (fun _ h9 => h9) rfl dX11_isRipe_13 ?_
    refine lv_aload_n hx hb dX11_isRipe_16 rfl (lv_at hl 0 rfl) ?_
    refine x_getr hx hb hw (cX0 hE) (own := RX11) (ref := RX11) (C := RX11) (T := TX11) (N := 14) hts hiX11 hown rfl 2 (by decide) hk36 (fun _ h9 => h9) rfl dX11_isRipe_17 ?_
    refine x_getr hx hb hw (cX12 hE) (own := RX11) (ref := RX2) (C := RX2) (T := TX2) (N := 8) hts hiX2 hown rfl 0 (by decide) hk216 (fun _ h9 => h9) rfl dX11_isRipe_20 ?_
    refine lv_iload_n hx hb dX11_isRipe_23 rfl (lv_at hl 1 rfl) ?_
    obtain ⟨hin, hf⟩ := xr_f hf
    refine x_iald hx hb hw (cX13 hE) hin dX11_isRipe_24 ?_
    refine lv_topi (fun v2 ex => ?_)
    replace hf := hf v2 ex
    clear ex hin
    refine lv_aload_n hx hb dX11_isRipe_25 rfl (lv_at hl 0 rfl) ?_
    refine x_getr hx hb hw (cX0 hE) (own := RX11) (ref := RX11) (C := RX11) (T := TX11) (N := 14) hts hiX11 hown rfl 2 (by decide) hk36 (fun _ h9 => h9) rfl dX11_isRipe_26 ?_
    refine x_getr hx hb hw (cX12 hE) (own := RX11) (ref := RX2) (C := RX2) (T := TX2) (N := 8) hts hiX2 hown rfl 3 (by decide) hk213 (fun _ h9 => h9) rfl dX11_isRipe_29 ?_
    refine lv_iload_n hx hb dX11_isRipe_32 rfl (lv_at hl 1 rfl) ?_
    obtain ⟨hin, hf⟩ := xr_f hf
    refine x_iald hx hb hw (cX16 hE) hin dX11_isRipe_33 ?_
    refine lv_topi (fun v3 ex => ?_)
    replace hf := hf v3 ex
    clear ex hin
    obtain ⟨r4, σ5, hcl, hf⟩ := xc2_f hf
    refine x_calli (va_runV (As := [.int v2, .int v3]) (rest := []) ⟨hx, hb, hml, hown, hts⟩ (mX8_isRipeWith hE v2 v3 σ r4 σ5 hcl s.heap.size) (cwV 2 hts gX11_isRipe_X8_isRipeWith rfl rfl rfl (by decide +kernel) ⟨Nat.le_of_ble_eq_true rfl, Nat.le_of_ble_eq_true rfl⟩) (x_preV _ hw hA hG (cX4 hE) rfl) rfl rfl hl.1 rfl (lv_room (Nat.le_of_ble_eq_true rfl)) dX11_isRipe_34 ⟨Nat.le_of_ble_eq_true rfl, Nat.le_of_ble_eq_true rfl⟩) hw hA (fun H locs hw => ?_)
    clear hcl
    refine lv_if_eq (tgt := 44) hx hb dX11_isRipe_37 (by decide) (fun c37 => ?_) (fun c37 => ?_)
    · replace hf := xif_pos c37 hf
      refine lv_iconst (v := 0) hx hb dX11_isRipe_44 (by decide) ?_
      exact x_zretc hx hb hr hlk hw (by decide) hf dX11_isRipe_45
    · replace hf := xif_neg c37 hf
      refine lv_iconst (v := 1) hx hb dX11_isRipe_40 (by decide) ?_
      refine lv_goto (tgt := 45) hx hb dX11_isRipe_41 (by decide) ?_
      exact x_zretc hx hb hr hlk hw (by decide) hf dX11_isRipe_45

def fX11_shape (p0 : Int32) (σ : xSt) : Option (xO × xSt) := (xct (fX11_needDough p0 σ) fun r1 σ2 => (xc2 (fX11_isRipe p0 σ2) fun r3 σ4 => (xct (fX11_needState r3 σ4) fun r5 σ6 => (xc (fX11_remember σ6) fun σ8 => (xs σ8 17 20 p0 1 fun σ9 => (xs σ9 18 20 p0 (σ9 20 0) fun σ10 => (xr σ10 16 20 p0 fun v11 => some ((.inl v11 : xO), σ10))))))))
abbrev rmX11_shape : Room := { frames := 8, cells := 2, slots := 12, locals := 139 }
set_option maxRecDepth 100000 in
set_option maxHeartbeats 4000000 in
theorem mX11_shape {l : Launch} (hl0 : l.stackTraces = false) {E : xE} (hE : E.sh = shX) (p0 : Int32) (σ : xSt) (o1 : xO) (o2 : xSt) (hf : fX11_shape p0 σ = some (o1, o2)) : xMt l yX11_shape wsX11_shape rmX11_shape E [.ref (E.a 0), .int p0] σ o1 o2 2 := by
  unfold fX11_shape at hf
  refine xMt_of (cc := cX11_shape) (maxL := 2) (ret := (some .int)) (by decide) rfl (Nat.le_of_ble_eq_true rfl) ?_
  intro p e s m args below meth c A ls ⟨hx, hb, hr, hml, hown, hts, hlk⟩ hA hG hw hl hex
  have hown : s.vm.findClass RX11 = some m.cls := hown
  have hl : lv_has ls 2 [(0, .ref (E.a 0)), (1, .int p0)] := hl
  have hk36 := hts (.fieldLink RX11 36 "OvenRound" "doughs" "LOvenRound$Doughs;") (by decide +kernel)
  have hiX11 : ∀ w ∈ wsX110, w ∈ wsX11_shape := by decide +kernel
  have hk207 := hts (.fieldLink RX11 207 "OvenRound$Doughs" "state" "[I") (by decide +kernel)
  have hiX2 : ∀ w ∈ wsX20, w ∈ wsX11_shape := by decide +kernel
  have hk210 := hts (.fieldLink RX11 210 "OvenRound$Doughs" "shapedAt" "[I") (by decide +kernel)
  have hk41 := hts (.fieldLink RX11 41 "OvenRound" "oven" "LOvenRound$Oven;") (by decide +kernel)
  have hk186 := hts (.fieldLink RX11 186 "OvenRound$Oven" "tick" "I") (by decide +kernel)
  have hiX5 : ∀ w ∈ wsX50, w ∈ wsX11_shape := by decide +kernel
  have hk213 := hts (.fieldLink RX11 213 "OvenRound$Doughs" "points" "[I") (by decide +kernel)
  refine lv_aload_n hx hb dX11_shape_0 rfl (lv_at hl 0 rfl) ?_
  refine lv_iload_n hx hb dX11_shape_1 rfl (lv_at hl 1 rfl) ?_
  rcases xct_e hf with ⟨k2, σ2, hcl, hf⟩ | ⟨r1, σ2, hcl, hf⟩
  · refine x_tcallv (vx_runV (As := [.int p0]) (rest := []) ⟨hx, hb, hml, hown, hts⟩ (mX11_needDough hl0 hE p0 σ (.inr k2) σ2 hcl s.heap.size) (cwV 1 hts gX11_shape_X11_needDough rfl rfl rfl (by decide +kernel) ⟨Nat.le_of_ble_eq_true rfl, Nat.le_of_ble_eq_true rfl⟩) (x_preV _ hw hA hG (cX0 hE) rfl) rfl rfl hl.1 rfl (lv_room (Nat.le_of_ble_eq_true rfl)) dX11_shape_2 ⟨Nat.le_of_ble_eq_true rfl, Nat.le_of_ble_eq_true rfl⟩) hw hA (fun q9 ce H locs h1 h2 h3 hw => ?_) (fun H locs h1 hw => nomatch h1)
    exact x_tout hlk hex h1 h2 h3 hw hf (Nat.le_of_ble_eq_true rfl) (Nat.le_of_ble_eq_true rfl)
  refine x_tcallv (vx_runV (As := [.int p0]) (rest := []) ⟨hx, hb, hml, hown, hts⟩ (mX11_needDough hl0 hE p0 σ (.inl r1) σ2 hcl s.heap.size) (cwV 1 hts gX11_shape_X11_needDough rfl rfl rfl (by decide +kernel) ⟨Nat.le_of_ble_eq_true rfl, Nat.le_of_ble_eq_true rfl⟩) (x_preV _ hw hA hG (cX0 hE) rfl) rfl rfl hl.1 rfl (lv_room (Nat.le_of_ble_eq_true rfl)) dX11_shape_2 ⟨Nat.le_of_ble_eq_true rfl, Nat.le_of_ble_eq_true rfl⟩) hw hA (fun q9 ce H locs h1 h2 h3 hw => by obtain ⟨_, h9, _⟩ := h3; cases h9) (fun H locs h1 hw => ?_)
  clear hcl h1
  refine lv_aload_n hx hb dX11_shape_5 rfl (lv_at hl 0 rfl) ?_
  refine lv_iload_n hx hb dX11_shape_6 rfl (lv_at hl 1 rfl) ?_
  obtain ⟨r3, σ4, hcl, hf⟩ := xc2_f hf
  refine x_calli (va_runV (As := [.int p0]) (rest := []) ⟨hx, hb, hml, hown, hts⟩ (mX11_isRipe hE p0 σ2 r3 σ4 hcl H.size) (cwV 1 hts gX11_shape_X11_isRipe rfl rfl rfl (by decide +kernel) ⟨Nat.le_of_ble_eq_true rfl, Nat.le_of_ble_eq_true rfl⟩) (x_preV _ hw hA hG (cX0 hE) rfl) rfl rfl hl.1 rfl (lv_room (Nat.le_of_ble_eq_true rfl)) dX11_shape_7 ⟨Nat.le_of_ble_eq_true rfl, Nat.le_of_ble_eq_true rfl⟩) hw hA (fun H locs hw => ?_)
  clear hcl
  rcases xct_e hf with ⟨k10, σ6, hcl, hf⟩ | ⟨r5, σ6, hcl, hf⟩
  · refine x_tcallv (vx_runS (As := [.int r3]) (rest := []) ⟨hx, hb, hml, hown, hts⟩ (mX11_needState hl0 r3 σ4 (.inr k10) σ6 hcl H.size) (va_cwS 1 hts gX11_shape_X11_needState rfl rfl rfl (by decide +kernel) ⟨Nat.le_of_ble_eq_true rfl, Nat.le_of_ble_eq_true rfl⟩) (x_preS _ hw hA hG) rfl rfl hl.1 rfl (lv_room (Nat.le_of_ble_eq_true rfl)) dX11_shape_10 ⟨Nat.le_of_ble_eq_true rfl, Nat.le_of_ble_eq_true rfl⟩) hw hA (fun q9 ce H locs h1 h2 h3 hw => ?_) (fun H locs h1 hw => nomatch h1)
    exact x_tout hlk hex h1 h2 h3 hw hf (Nat.le_of_ble_eq_true rfl) (Nat.le_of_ble_eq_true rfl)
  refine x_tcallv (vx_runS (As := [.int r3]) (rest := []) ⟨hx, hb, hml, hown, hts⟩ (mX11_needState hl0 r3 σ4 (.inl r5) σ6 hcl H.size) (va_cwS 1 hts gX11_shape_X11_needState rfl rfl rfl (by decide +kernel) ⟨Nat.le_of_ble_eq_true rfl, Nat.le_of_ble_eq_true rfl⟩) (x_preS _ hw hA hG) rfl rfl hl.1 rfl (lv_room (Nat.le_of_ble_eq_true rfl)) dX11_shape_10 ⟨Nat.le_of_ble_eq_true rfl, Nat.le_of_ble_eq_true rfl⟩) hw hA (fun q9 ce H locs h1 h2 h3 hw => by obtain ⟨_, h9, _⟩ := h3; cases h9) (fun H locs h1 hw => ?_)
  clear hcl h1
  refine lv_aload_n hx hb dX11_shape_13 rfl (lv_at hl 0 rfl) ?_
  obtain ⟨σ8, hcl, hf⟩ := xc_e hf
  refine x_callv (va_runV (As := []) (rest := []) ⟨hx, hb, hml, hown, hts⟩ (mX11_remember hE σ6 σ8 hcl H.size) (cwV 0 hts gX11_shape_X11_remember rfl rfl rfl (by decide +kernel) ⟨Nat.le_of_ble_eq_true rfl, Nat.le_of_ble_eq_true rfl⟩) (x_preV _ hw hA hG (cX0 hE) rfl) rfl rfl hl.1 rfl (lv_room (Nat.le_of_ble_eq_true rfl)) dX11_shape_14 ⟨Nat.le_of_ble_eq_true rfl, Nat.le_of_ble_eq_true rfl⟩) hw hA (fun H locs hw => ?_)
  clear hcl
  refine lv_aload_n hx hb dX11_shape_17 rfl (lv_at hl 0 rfl) ?_
  refine x_getr hx hb hw (cX0 hE) (own := RX11) (ref := RX11) (C := RX11) (T := TX11) (N := 14) hts hiX11 hown rfl 2 (by decide) hk36 (fun _ h9 => h9) rfl dX11_shape_18 ?_
  refine x_getr hx hb hw (cX12 hE) (own := RX11) (ref := RX2) (C := RX2) (T := TX2) (N := 8) hts hiX2 hown rfl 4 (by decide) hk207 (fun _ h9 => h9) rfl dX11_shape_21 ?_
  refine lv_iload_n hx hb dX11_shape_24 rfl (lv_at hl 1 rfl) ?_
  refine lv_iconst (v := 1) hx hb dX11_shape_25 (by decide) ?_
  obtain ⟨hin, hf⟩ := xs_f hf
  refine x_iast hx hb hw (cX17 hE) hin dX11_shape_26 (fun σ9 H locs ex hw => ?_)
  replace hf := hf σ9 ex
  clear ex hin
  refine lv_aload_n hx hb dX11_shape_27 rfl (lv_at hl 0 rfl) ?_
  refine x_getr hx hb hw (cX0 hE) (own := RX11) (ref := RX11) (C := RX11) (T := TX11) (N := 14) hts hiX11 hown rfl 2 (by decide) hk36 (fun _ h9 => h9) rfl dX11_shape_28 ?_
  refine x_getr hx hb hw (cX12 hE) (own := RX11) (ref := RX2) (C := RX2) (T := TX2) (N := 8) hts hiX2 hown rfl 5 (by decide) hk210 (fun _ h9 => h9) rfl dX11_shape_31 ?_
  refine lv_iload_n hx hb dX11_shape_34 rfl (lv_at hl 1 rfl) ?_
  refine lv_aload_n hx hb dX11_shape_35 rfl (lv_at hl 0 rfl) ?_
  refine x_getr hx hb hw (cX0 hE) (own := RX11) (ref := RX11) (C := RX11) (T := TX11) (N := 14) hts hiX11 hown rfl 3 (by decide) hk41 (fun _ h9 => h9) rfl dX11_shape_36 ?_
  refine x_geti hx hb hw (cX20 hE) (own := RX11) (ref := RX5) (C := RX5) (T := TX5) (N := 5) hts hiX5 hown rfl 0 (by decide) hk186 (fun _ h9 => h9) rfl dX11_shape_39 ?_
  obtain ⟨hin, hf⟩ := xs_f hf
  refine x_iast hx hb hw (cX18 hE) hin dX11_shape_42 (fun σ10 H locs ex hw => ?_)
  replace hf := hf σ10 ex
  clear ex hin
  refine lv_aload_n hx hb dX11_shape_43 rfl (lv_at hl 0 rfl) ?_
  refine x_getr hx hb hw (cX0 hE) (own := RX11) (ref := RX11) (C := RX11) (T := TX11) (N := 14) hts hiX11 hown rfl 2 (by decide) hk36 (fun _ h9 => h9) rfl dX11_shape_44 ?_
  refine x_getr hx hb hw (cX12 hE) (own := RX11) (ref := RX2) (C := RX2) (T := TX2) (N := 8) hts hiX2 hown rfl 3 (by decide) hk213 (fun _ h9 => h9) rfl dX11_shape_47 ?_
  refine lv_iload_n hx hb dX11_shape_50 rfl (lv_at hl 1 rfl) ?_
  obtain ⟨hin, hf⟩ := xr_f hf
  refine x_iald hx hb hw (cX16 hE) hin dX11_shape_51 ?_
  refine lv_topi (fun v11 ex => ?_)
  replace hf := hf v11 ex
  clear ex hin
  exact x_tiret hx hb hr hlk hw hf (Nat.le_of_ble_eq_true rfl) (Nat.le_of_ble_eq_true rfl) dX11_shape_52

def fX11_doughAt (p0 : Int32) (p1 : Int32) (σ : xSt) : Option (xO × xSt) := (xct (fX11_needDough p0 σ) fun r1 σ2 => (xc2 (fX11_isWithin p1 0 6 σ2) fun r3 σ4 => (xct (fX11_needArgument r3 σ4) fun r5 σ6 => (if p1 = 0 then (xr σ6 13 20 p0 fun v7 => some ((.inl v7 : xO), σ6)) else (if p1 = 1 then (xr σ6 14 20 p0 fun v8 => some ((.inl v8 : xO), σ6)) else (if p1 = 2 then (xr σ6 16 20 p0 fun v9 => some ((.inl v9 : xO), σ6)) else (if p1 = 3 then (xr σ6 17 20 p0 fun v10 => some ((.inl v10 : xO), σ6)) else (if p1 = 4 then (xr σ6 15 20 p0 fun v11 => some ((.inl v11 : xO), σ6)) else (if p1 = 5 then (xr σ6 18 20 p0 fun v12 => some ((.inl v12 : xO), σ6)) else (xr σ6 19 20 p0 fun v13 => some ((.inl v13 : xO), σ6)))))))))))
abbrev rmX11_doughAt : Room := { frames := 8, cells := 2, slots := 12, locals := 131 }
set_option maxRecDepth 100000 in
set_option maxHeartbeats 4000000 in
theorem mX11_doughAt {l : Launch} (hl0 : l.stackTraces = false) {E : xE} (hE : E.sh = shX) (p0 : Int32) (p1 : Int32) (σ : xSt) (o1 : xO) (o2 : xSt) (hf : fX11_doughAt p0 p1 σ = some (o1, o2)) : xMt l yX11_doughAt wsX11_doughAt rmX11_doughAt E [.ref (E.a 0), .int p0, .int p1] σ o1 o2 2 := by
  unfold fX11_doughAt at hf
  refine xMt_of (cc := cX11_doughAt) (maxL := 3) (ret := (some .int)) (by decide) rfl (Nat.le_of_ble_eq_true rfl) ?_
  intro p e s m args below meth c A ls ⟨hx, hb, hr, hml, hown, hts, hlk⟩ hA hG hw hl hex
  have hown : s.vm.findClass RX11 = some m.cls := hown
  have hl : lv_has ls 3 [(0, .ref (E.a 0)), (1, .int p0), (2, .int p1)] := hl
  have hk36 := hts (.fieldLink RX11 36 "OvenRound" "doughs" "LOvenRound$Doughs;") (by decide +kernel)
  have hiX11 : ∀ w ∈ wsX110, w ∈ wsX11_doughAt := by decide +kernel
  have hk216 := hts (.fieldLink RX11 216 "OvenRound$Doughs" "recipe" "[I") (by decide +kernel)
  have hiX2 : ∀ w ∈ wsX20, w ∈ wsX11_doughAt := by decide +kernel
  have hk219 := hts (.fieldLink RX11 219 "OvenRound$Doughs" "pieces" "[I") (by decide +kernel)
  have hk213 := hts (.fieldLink RX11 213 "OvenRound$Doughs" "points" "[I") (by decide +kernel)
  have hk207 := hts (.fieldLink RX11 207 "OvenRound$Doughs" "state" "[I") (by decide +kernel)
  have hk222 := hts (.fieldLink RX11 222 "OvenRound$Doughs" "grams" "[I") (by decide +kernel)
  have hk210 := hts (.fieldLink RX11 210 "OvenRound$Doughs" "shapedAt" "[I") (by decide +kernel)
  have hk223 := hts (.fieldLink RX11 223 "OvenRound$Doughs" "ovenAt" "[I") (by decide +kernel)
  refine lv_aload_n hx hb dX11_doughAt_0 rfl (lv_at hl 0 rfl) ?_
  refine lv_iload_n hx hb dX11_doughAt_1 rfl (lv_at hl 1 rfl) ?_
  rcases xct_e hf with ⟨k2, σ2, hcl, hf⟩ | ⟨r1, σ2, hcl, hf⟩
  · refine x_tcallv (vx_runV (As := [.int p0]) (rest := []) ⟨hx, hb, hml, hown, hts⟩ (mX11_needDough hl0 hE p0 σ (.inr k2) σ2 hcl s.heap.size) (cwV 1 hts gX11_doughAt_X11_needDough rfl rfl rfl (by decide +kernel) ⟨Nat.le_of_ble_eq_true rfl, Nat.le_of_ble_eq_true rfl⟩) (x_preV _ hw hA hG (cX0 hE) rfl) rfl rfl hl.1 rfl (lv_room (Nat.le_of_ble_eq_true rfl)) dX11_doughAt_2 ⟨Nat.le_of_ble_eq_true rfl, Nat.le_of_ble_eq_true rfl⟩) hw hA (fun q9 ce H locs h1 h2 h3 hw => ?_) (fun H locs h1 hw => nomatch h1)
    exact x_tout hlk hex h1 h2 h3 hw hf (Nat.le_of_ble_eq_true rfl) (Nat.le_of_ble_eq_true rfl)
  refine x_tcallv (vx_runV (As := [.int p0]) (rest := []) ⟨hx, hb, hml, hown, hts⟩ (mX11_needDough hl0 hE p0 σ (.inl r1) σ2 hcl s.heap.size) (cwV 1 hts gX11_doughAt_X11_needDough rfl rfl rfl (by decide +kernel) ⟨Nat.le_of_ble_eq_true rfl, Nat.le_of_ble_eq_true rfl⟩) (x_preV _ hw hA hG (cX0 hE) rfl) rfl rfl hl.1 rfl (lv_room (Nat.le_of_ble_eq_true rfl)) dX11_doughAt_2 ⟨Nat.le_of_ble_eq_true rfl, Nat.le_of_ble_eq_true rfl⟩) hw hA (fun q9 ce H locs h1 h2 h3 hw => by obtain ⟨_, h9, _⟩ := h3; cases h9) (fun H locs h1 hw => ?_)
  clear hcl h1
  refine lv_iload_n hx hb dX11_doughAt_5 rfl (lv_at hl 2 rfl) ?_
  refine lv_iconst (v := 0) hx hb dX11_doughAt_6 (by decide) ?_
  refine lv_bipush (v := 6) hx hb dX11_doughAt_7 (by decide) ?_
  obtain ⟨r3, σ4, hcl, hf⟩ := xc2_f hf
  refine x_calli (va_runS (As := [.int p1, .int 0, .int 6]) (rest := []) ⟨hx, hb, hml, hown, hts⟩ (mX11_isWithin hE p1 0 6 σ2 r3 σ4 hcl H.size) (va_cwS 3 hts gX11_doughAt_X11_isWithin rfl rfl rfl (by decide +kernel) ⟨Nat.le_of_ble_eq_true rfl, Nat.le_of_ble_eq_true rfl⟩) (x_preS _ hw hA hG) rfl rfl hl.1 rfl (lv_room (Nat.le_of_ble_eq_true rfl)) dX11_doughAt_9 ⟨Nat.le_of_ble_eq_true rfl, Nat.le_of_ble_eq_true rfl⟩) hw hA (fun H locs hw => ?_)
  clear hcl
  rcases xct_e hf with ⟨k12, σ6, hcl, hf⟩ | ⟨r5, σ6, hcl, hf⟩
  · refine x_tcallv (vx_runS (As := [.int r3]) (rest := []) ⟨hx, hb, hml, hown, hts⟩ (mX11_needArgument hl0 r3 σ4 (.inr k12) σ6 hcl H.size) (va_cwS 1 hts gX11_doughAt_X11_needArgument rfl rfl rfl (by decide +kernel) ⟨Nat.le_of_ble_eq_true rfl, Nat.le_of_ble_eq_true rfl⟩) (x_preS _ hw hA hG) rfl rfl hl.1 rfl (lv_room (Nat.le_of_ble_eq_true rfl)) dX11_doughAt_12 ⟨Nat.le_of_ble_eq_true rfl, Nat.le_of_ble_eq_true rfl⟩) hw hA (fun q9 ce H locs h1 h2 h3 hw => ?_) (fun H locs h1 hw => nomatch h1)
    exact x_tout hlk hex h1 h2 h3 hw hf (Nat.le_of_ble_eq_true rfl) (Nat.le_of_ble_eq_true rfl)
  refine x_tcallv (vx_runS (As := [.int r3]) (rest := []) ⟨hx, hb, hml, hown, hts⟩ (mX11_needArgument hl0 r3 σ4 (.inl r5) σ6 hcl H.size) (va_cwS 1 hts gX11_doughAt_X11_needArgument rfl rfl rfl (by decide +kernel) ⟨Nat.le_of_ble_eq_true rfl, Nat.le_of_ble_eq_true rfl⟩) (x_preS _ hw hA hG) rfl rfl hl.1 rfl (lv_room (Nat.le_of_ble_eq_true rfl)) dX11_doughAt_12 ⟨Nat.le_of_ble_eq_true rfl, Nat.le_of_ble_eq_true rfl⟩) hw hA (fun q9 ce H locs h1 h2 h3 hw => by obtain ⟨_, h9, _⟩ := h3; cases h9) (fun H locs h1 hw => ?_)
  clear hcl h1
  refine lv_iload_n hx hb dX11_doughAt_15 rfl (lv_at hl 2 rfl) ?_
  by_cases c16_0 : p1 = 0
  · replace hf := xif_pos c16_0 hf
    refine lv_tableIn (off := 40) (tgt := 56) hx hb dX11_doughAt_16 (by rw [c16_0]; decide) (by rw [c16_0]; decide) (by rw [c16_0]; rfl) (by decide) ?_
    refine lv_aload_n hx hb dX11_doughAt_56 rfl (lv_at hl 0 rfl) ?_
    refine x_getr hx hb hw (cX0 hE) (own := RX11) (ref := RX11) (C := RX11) (T := TX11) (N := 14) hts hiX11 hown rfl 2 (by decide) hk36 (fun _ h9 => h9) rfl dX11_doughAt_57 ?_
    refine x_getr hx hb hw (cX12 hE) (own := RX11) (ref := RX2) (C := RX2) (T := TX2) (N := 8) hts hiX2 hown rfl 0 (by decide) hk216 (fun _ h9 => h9) rfl dX11_doughAt_60 ?_
    refine lv_iload_n hx hb dX11_doughAt_63 rfl (lv_at hl 1 rfl) ?_
    obtain ⟨hin, hf⟩ := xr_f hf
    refine x_iald hx hb hw (cX13 hE) hin dX11_doughAt_64 ?_
    refine lv_topi (fun v7 ex => ?_)
    replace hf := hf v7 ex
    clear ex hin
    exact x_tiret hx hb hr hlk hw hf (Nat.le_of_ble_eq_true rfl) (Nat.le_of_ble_eq_true rfl) dX11_doughAt_65
  · replace hf := xif_neg c16_0 hf
    by_cases c16_1 : p1 = 1
    · replace hf := xif_pos c16_1 hf
      refine lv_tableIn (off := 50) (tgt := 66) hx hb dX11_doughAt_16 (by rw [c16_1]; decide) (by rw [c16_1]; decide) (by rw [c16_1]; rfl) (by decide) ?_
      refine lv_aload_n hx hb dX11_doughAt_66 rfl (lv_at hl 0 rfl) ?_
      refine x_getr hx hb hw (cX0 hE) (own := RX11) (ref := RX11) (C := RX11) (T := TX11) (N := 14) hts hiX11 hown rfl 2 (by decide) hk36 (fun _ h9 => h9) rfl dX11_doughAt_67 ?_
      refine x_getr hx hb hw (cX12 hE) (own := RX11) (ref := RX2) (C := RX2) (T := TX2) (N := 8) hts hiX2 hown rfl 1 (by decide) hk219 (fun _ h9 => h9) rfl dX11_doughAt_70 ?_
      refine lv_iload_n hx hb dX11_doughAt_73 rfl (lv_at hl 1 rfl) ?_
      obtain ⟨hin, hf⟩ := xr_f hf
      refine x_iald hx hb hw (cX14 hE) hin dX11_doughAt_74 ?_
      refine lv_topi (fun v8 ex => ?_)
      replace hf := hf v8 ex
      clear ex hin
      exact x_tiret hx hb hr hlk hw hf (Nat.le_of_ble_eq_true rfl) (Nat.le_of_ble_eq_true rfl) dX11_doughAt_75
    · replace hf := xif_neg c16_1 hf
      by_cases c16_2 : p1 = 2
      · replace hf := xif_pos c16_2 hf
        refine lv_tableIn (off := 60) (tgt := 76) hx hb dX11_doughAt_16 (by rw [c16_2]; decide) (by rw [c16_2]; decide) (by rw [c16_2]; rfl) (by decide) ?_
        refine lv_aload_n hx hb dX11_doughAt_76 rfl (lv_at hl 0 rfl) ?_
        refine x_getr hx hb hw (cX0 hE) (own := RX11) (ref := RX11) (C := RX11) (T := TX11) (N := 14) hts hiX11 hown rfl 2 (by decide) hk36 (fun _ h9 => h9) rfl dX11_doughAt_77 ?_
        refine x_getr hx hb hw (cX12 hE) (own := RX11) (ref := RX2) (C := RX2) (T := TX2) (N := 8) hts hiX2 hown rfl 3 (by decide) hk213 (fun _ h9 => h9) rfl dX11_doughAt_80 ?_
        refine lv_iload_n hx hb dX11_doughAt_83 rfl (lv_at hl 1 rfl) ?_
        obtain ⟨hin, hf⟩ := xr_f hf
        refine x_iald hx hb hw (cX16 hE) hin dX11_doughAt_84 ?_
        refine lv_topi (fun v9 ex => ?_)
        replace hf := hf v9 ex
        clear ex hin
        exact x_tiret hx hb hr hlk hw hf (Nat.le_of_ble_eq_true rfl) (Nat.le_of_ble_eq_true rfl) dX11_doughAt_85
      · replace hf := xif_neg c16_2 hf
        by_cases c16_3 : p1 = 3
        · replace hf := xif_pos c16_3 hf
          refine lv_tableIn (off := 70) (tgt := 86) hx hb dX11_doughAt_16 (by rw [c16_3]; decide) (by rw [c16_3]; decide) (by rw [c16_3]; rfl) (by decide) ?_
          refine lv_aload_n hx hb dX11_doughAt_86 rfl (lv_at hl 0 rfl) ?_
          refine x_getr hx hb hw (cX0 hE) (own := RX11) (ref := RX11) (C := RX11) (T := TX11) (N := 14) hts hiX11 hown rfl 2 (by decide) hk36 (fun _ h9 => h9) rfl dX11_doughAt_87 ?_
          refine x_getr hx hb hw (cX12 hE) (own := RX11) (ref := RX2) (C := RX2) (T := TX2) (N := 8) hts hiX2 hown rfl 4 (by decide) hk207 (fun _ h9 => h9) rfl dX11_doughAt_90 ?_
          refine lv_iload_n hx hb dX11_doughAt_93 rfl (lv_at hl 1 rfl) ?_
          obtain ⟨hin, hf⟩ := xr_f hf
          refine x_iald hx hb hw (cX17 hE) hin dX11_doughAt_94 ?_
          refine lv_topi (fun v10 ex => ?_)
          replace hf := hf v10 ex
          clear ex hin
          exact x_tiret hx hb hr hlk hw hf (Nat.le_of_ble_eq_true rfl) (Nat.le_of_ble_eq_true rfl) dX11_doughAt_95
        · replace hf := xif_neg c16_3 hf
          by_cases c16_4 : p1 = 4
          · replace hf := xif_pos c16_4 hf
            refine lv_tableIn (off := 80) (tgt := 96) hx hb dX11_doughAt_16 (by rw [c16_4]; decide) (by rw [c16_4]; decide) (by rw [c16_4]; rfl) (by decide) ?_
            refine lv_aload_n hx hb dX11_doughAt_96 rfl (lv_at hl 0 rfl) ?_
            refine x_getr hx hb hw (cX0 hE) (own := RX11) (ref := RX11) (C := RX11) (T := TX11) (N := 14) hts hiX11 hown rfl 2 (by decide) hk36 (fun _ h9 => h9) rfl dX11_doughAt_97 ?_
            refine x_getr hx hb hw (cX12 hE) (own := RX11) (ref := RX2) (C := RX2) (T := TX2) (N := 8) hts hiX2 hown rfl 2 (by decide) hk222 (fun _ h9 => h9) rfl dX11_doughAt_100 ?_
            refine lv_iload_n hx hb dX11_doughAt_103 rfl (lv_at hl 1 rfl) ?_
            obtain ⟨hin, hf⟩ := xr_f hf
            refine x_iald hx hb hw (cX15 hE) hin dX11_doughAt_104 ?_
            refine lv_topi (fun v11 ex => ?_)
            replace hf := hf v11 ex
            clear ex hin
            exact x_tiret hx hb hr hlk hw hf (Nat.le_of_ble_eq_true rfl) (Nat.le_of_ble_eq_true rfl) dX11_doughAt_105
          · replace hf := xif_neg c16_4 hf
            by_cases c16_5 : p1 = 5
            · replace hf := xif_pos c16_5 hf
              refine lv_tableIn (off := 90) (tgt := 106) hx hb dX11_doughAt_16 (by rw [c16_5]; decide) (by rw [c16_5]; decide) (by rw [c16_5]; rfl) (by decide) ?_
              refine lv_aload_n hx hb dX11_doughAt_106 rfl (lv_at hl 0 rfl) ?_
              refine x_getr hx hb hw (cX0 hE) (own := RX11) (ref := RX11) (C := RX11) (T := TX11) (N := 14) hts hiX11 hown rfl 2 (by decide) hk36 (fun _ h9 => h9) rfl dX11_doughAt_107 ?_
              refine x_getr hx hb hw (cX12 hE) (own := RX11) (ref := RX2) (C := RX2) (T := TX2) (N := 8) hts hiX2 hown rfl 5 (by decide) hk210 (fun _ h9 => h9) rfl dX11_doughAt_110 ?_
              refine lv_iload_n hx hb dX11_doughAt_113 rfl (lv_at hl 1 rfl) ?_
              obtain ⟨hin, hf⟩ := xr_f hf
              refine x_iald hx hb hw (cX18 hE) hin dX11_doughAt_114 ?_
              refine lv_topi (fun v12 ex => ?_)
              replace hf := hf v12 ex
              clear ex hin
              exact x_tiret hx hb hr hlk hw hf (Nat.le_of_ble_eq_true rfl) (Nat.le_of_ble_eq_true rfl) dX11_doughAt_115
            · replace hf := xif_neg c16_5 hf
              refine lv_tableOut (tgt := 116) hx hb dX11_doughAt_16 (x_sw5 c16_0 c16_1 c16_2 c16_3 c16_4 c16_5) (by decide) ?_
              refine lv_aload_n hx hb dX11_doughAt_116 rfl (lv_at hl 0 rfl) ?_
              refine x_getr hx hb hw (cX0 hE) (own := RX11) (ref := RX11) (C := RX11) (T := TX11) (N := 14) hts hiX11 hown rfl 2 (by decide) hk36 (fun _ h9 => h9) rfl dX11_doughAt_117 ?_
              refine x_getr hx hb hw (cX12 hE) (own := RX11) (ref := RX2) (C := RX2) (T := TX2) (N := 8) hts hiX2 hown rfl 6 (by decide) hk223 (fun _ h9 => h9) rfl dX11_doughAt_120 ?_
              refine lv_iload_n hx hb dX11_doughAt_123 rfl (lv_at hl 1 rfl) ?_
              obtain ⟨hin, hf⟩ := xr_f hf
              refine x_iald hx hb hw (cX19 hE) hin dX11_doughAt_124 ?_
              refine lv_topi (fun v13 ex => ?_)
              replace hf := hf v13 ex
              clear ex hin
              exact x_tiret hx hb hr hlk hw hf (Nat.le_of_ble_eq_true rfl) (Nat.le_of_ble_eq_true rfl) dX11_doughAt_125

def fX11_throwAway (p0 : Int32) (σ : xSt) : Option (xO × xSt) := (xct (fX11_needDough p0 σ) fun r1 σ2 => (xc2 (fX2_isOnTable p0 σ2) fun r3 σ4 => (xct (fX11_needState r3 σ4) fun r5 σ6 => (xc (fX11_remember σ6) fun σ8 => (xs σ8 17 20 p0 4 fun σ9 => (xr σ9 15 20 p0 fun v10 => (xp σ9 2 3 ((σ9 2 3) + v10) fun σ11 => (xr σ11 15 20 p0 fun v12 => some ((.inl v12 : xO), σ11)))))))))
abbrev rmX11_throwAway : Room := { frames := 8, cells := 2, slots := 12, locals := 139 }
set_option maxRecDepth 100000 in
set_option maxHeartbeats 4000000 in
theorem mX11_throwAway {l : Launch} (hl0 : l.stackTraces = false) {E : xE} (hE : E.sh = shX) (p0 : Int32) (σ : xSt) (o1 : xO) (o2 : xSt) (hf : fX11_throwAway p0 σ = some (o1, o2)) : xMt l yX11_throwAway wsX11_throwAway rmX11_throwAway E [.ref (E.a 0), .int p0] σ o1 o2 2 := by
  unfold fX11_throwAway at hf
  refine xMt_of (cc := cX11_throwAway) (maxL := 2) (ret := (some .int)) (by decide) rfl (Nat.le_of_ble_eq_true rfl) ?_
  intro p e s m args below meth c A ls ⟨hx, hb, hr, hml, hown, hts, hlk⟩ hA hG hw hl hex
  have hown : s.vm.findClass RX11 = some m.cls := hown
  have hl : lv_has ls 2 [(0, .ref (E.a 0)), (1, .int p0)] := hl
  have hk36 := hts (.fieldLink RX11 36 "OvenRound" "doughs" "LOvenRound$Doughs;") (by decide +kernel)
  have hiX11 : ∀ w ∈ wsX110, w ∈ wsX11_throwAway := by decide +kernel
  have hk207 := hts (.fieldLink RX11 207 "OvenRound$Doughs" "state" "[I") (by decide +kernel)
  have hiX2 : ∀ w ∈ wsX20, w ∈ wsX11_throwAway := by decide +kernel
  have hk24 := hts (.fieldLink RX11 24 "OvenRound" "store" "LOvenRound$Store;") (by decide +kernel)
  have hk229 := hts (.fieldLink RX11 229 "OvenRound$Store" "thrown" "I") (by decide +kernel)
  have hiX10 : ∀ w ∈ wsX100, w ∈ wsX11_throwAway := by decide +kernel
  have hk222 := hts (.fieldLink RX11 222 "OvenRound$Doughs" "grams" "[I") (by decide +kernel)
  refine lv_aload_n hx hb dX11_throwAway_0 rfl (lv_at hl 0 rfl) ?_
  refine lv_iload_n hx hb dX11_throwAway_1 rfl (lv_at hl 1 rfl) ?_
  rcases xct_e hf with ⟨k2, σ2, hcl, hf⟩ | ⟨r1, σ2, hcl, hf⟩
  · refine x_tcallv (vx_runV (As := [.int p0]) (rest := []) ⟨hx, hb, hml, hown, hts⟩ (mX11_needDough hl0 hE p0 σ (.inr k2) σ2 hcl s.heap.size) (cwV 1 hts gX11_throwAway_X11_needDough rfl rfl rfl (by decide +kernel) ⟨Nat.le_of_ble_eq_true rfl, Nat.le_of_ble_eq_true rfl⟩) (x_preV _ hw hA hG (cX0 hE) rfl) rfl rfl hl.1 rfl (lv_room (Nat.le_of_ble_eq_true rfl)) dX11_throwAway_2 ⟨Nat.le_of_ble_eq_true rfl, Nat.le_of_ble_eq_true rfl⟩) hw hA (fun q9 ce H locs h1 h2 h3 hw => ?_) (fun H locs h1 hw => nomatch h1)
    exact x_tout hlk hex h1 h2 h3 hw hf (Nat.le_of_ble_eq_true rfl) (Nat.le_of_ble_eq_true rfl)
  refine x_tcallv (vx_runV (As := [.int p0]) (rest := []) ⟨hx, hb, hml, hown, hts⟩ (mX11_needDough hl0 hE p0 σ (.inl r1) σ2 hcl s.heap.size) (cwV 1 hts gX11_throwAway_X11_needDough rfl rfl rfl (by decide +kernel) ⟨Nat.le_of_ble_eq_true rfl, Nat.le_of_ble_eq_true rfl⟩) (x_preV _ hw hA hG (cX0 hE) rfl) rfl rfl hl.1 rfl (lv_room (Nat.le_of_ble_eq_true rfl)) dX11_throwAway_2 ⟨Nat.le_of_ble_eq_true rfl, Nat.le_of_ble_eq_true rfl⟩) hw hA (fun q9 ce H locs h1 h2 h3 hw => by obtain ⟨_, h9, _⟩ := h3; cases h9) (fun H locs h1 hw => ?_)
  clear hcl h1
  refine lv_aload_n hx hb dX11_throwAway_5 rfl (lv_at hl 0 rfl) ?_
  refine x_getr hx hb hw (cX0 hE) (own := RX11) (ref := RX11) (C := RX11) (T := TX11) (N := 14) hts hiX11 hown rfl 2 (by decide) hk36 (fun _ h9 => h9) rfl dX11_throwAway_6 ?_
  refine lv_iload_n hx hb dX11_throwAway_9 rfl (lv_at hl 1 rfl) ?_
  obtain ⟨r3, σ4, hcl, hf⟩ := xc2_f hf
  refine x_calli (va_runV (As := [.int p0]) (rest := []) ⟨hx, hb, hml, hown, hts⟩ (mX2_isOnTable hE p0 σ2 r3 σ4 hcl H.size) (cwV 1 hts gX11_throwAway_X2_isOnTable rfl rfl rfl (by decide +kernel) ⟨Nat.le_of_ble_eq_true rfl, Nat.le_of_ble_eq_true rfl⟩) (x_preV _ hw hA hG (cX12 hE) rfl) rfl rfl hl.1 rfl (lv_room (Nat.le_of_ble_eq_true rfl)) dX11_throwAway_10 ⟨Nat.le_of_ble_eq_true rfl, Nat.le_of_ble_eq_true rfl⟩) hw hA (fun H locs hw => ?_)
  clear hcl
  rcases xct_e hf with ⟨k13, σ6, hcl, hf⟩ | ⟨r5, σ6, hcl, hf⟩
  · refine x_tcallv (vx_runS (As := [.int r3]) (rest := []) ⟨hx, hb, hml, hown, hts⟩ (mX11_needState hl0 r3 σ4 (.inr k13) σ6 hcl H.size) (va_cwS 1 hts gX11_throwAway_X11_needState rfl rfl rfl (by decide +kernel) ⟨Nat.le_of_ble_eq_true rfl, Nat.le_of_ble_eq_true rfl⟩) (x_preS _ hw hA hG) rfl rfl hl.1 rfl (lv_room (Nat.le_of_ble_eq_true rfl)) dX11_throwAway_13 ⟨Nat.le_of_ble_eq_true rfl, Nat.le_of_ble_eq_true rfl⟩) hw hA (fun q9 ce H locs h1 h2 h3 hw => ?_) (fun H locs h1 hw => nomatch h1)
    exact x_tout hlk hex h1 h2 h3 hw hf (Nat.le_of_ble_eq_true rfl) (Nat.le_of_ble_eq_true rfl)
  refine x_tcallv (vx_runS (As := [.int r3]) (rest := []) ⟨hx, hb, hml, hown, hts⟩ (mX11_needState hl0 r3 σ4 (.inl r5) σ6 hcl H.size) (va_cwS 1 hts gX11_throwAway_X11_needState rfl rfl rfl (by decide +kernel) ⟨Nat.le_of_ble_eq_true rfl, Nat.le_of_ble_eq_true rfl⟩) (x_preS _ hw hA hG) rfl rfl hl.1 rfl (lv_room (Nat.le_of_ble_eq_true rfl)) dX11_throwAway_13 ⟨Nat.le_of_ble_eq_true rfl, Nat.le_of_ble_eq_true rfl⟩) hw hA (fun q9 ce H locs h1 h2 h3 hw => by obtain ⟨_, h9, _⟩ := h3; cases h9) (fun H locs h1 hw => ?_)
  clear hcl h1
  refine lv_aload_n hx hb dX11_throwAway_16 rfl (lv_at hl 0 rfl) ?_
  obtain ⟨σ8, hcl, hf⟩ := xc_e hf
  refine x_callv (va_runV (As := []) (rest := []) ⟨hx, hb, hml, hown, hts⟩ (mX11_remember hE σ6 σ8 hcl H.size) (cwV 0 hts gX11_throwAway_X11_remember rfl rfl rfl (by decide +kernel) ⟨Nat.le_of_ble_eq_true rfl, Nat.le_of_ble_eq_true rfl⟩) (x_preV _ hw hA hG (cX0 hE) rfl) rfl rfl hl.1 rfl (lv_room (Nat.le_of_ble_eq_true rfl)) dX11_throwAway_17 ⟨Nat.le_of_ble_eq_true rfl, Nat.le_of_ble_eq_true rfl⟩) hw hA (fun H locs hw => ?_)
  clear hcl
  refine lv_aload_n hx hb dX11_throwAway_20 rfl (lv_at hl 0 rfl) ?_
  refine x_getr hx hb hw (cX0 hE) (own := RX11) (ref := RX11) (C := RX11) (T := TX11) (N := 14) hts hiX11 hown rfl 2 (by decide) hk36 (fun _ h9 => h9) rfl dX11_throwAway_21 ?_
  refine x_getr hx hb hw (cX12 hE) (own := RX11) (ref := RX2) (C := RX2) (T := TX2) (N := 8) hts hiX2 hown rfl 4 (by decide) hk207 (fun _ h9 => h9) rfl dX11_throwAway_24 ?_
  refine lv_iload_n hx hb dX11_throwAway_27 rfl (lv_at hl 1 rfl) ?_
  refine lv_iconst (v := 4) hx hb dX11_throwAway_28 (by decide) ?_
  obtain ⟨hin, hf⟩ := xs_f hf
  refine x_iast hx hb hw (cX17 hE) hin dX11_throwAway_29 (fun σ9 H locs ex hw => ?_)
  replace hf := hf σ9 ex
  clear ex hin
  refine lv_aload_n hx hb dX11_throwAway_30 rfl (lv_at hl 0 rfl) ?_
  refine x_getr hx hb hw (cX0 hE) (own := RX11) (ref := RX11) (C := RX11) (T := TX11) (N := 14) hts hiX11 hown rfl 0 (by decide) hk24 (fun _ h9 => h9) rfl dX11_throwAway_31 ?_
  refine lv_dup hx hb dX11_throwAway_34 rfl ?_
  refine x_geti hx hb hw (cX2 hE) (own := RX11) (ref := RX10) (C := RX10) (T := TX10) (N := 4) hts hiX10 hown rfl 3 (by decide) hk229 (fun _ h9 => h9) rfl dX11_throwAway_35 ?_
  refine lv_aload_n hx hb dX11_throwAway_38 rfl (lv_at hl 0 rfl) ?_
  refine x_getr hx hb hw (cX0 hE) (own := RX11) (ref := RX11) (C := RX11) (T := TX11) (N := 14) hts hiX11 hown rfl 2 (by decide) hk36 (fun _ h9 => h9) rfl dX11_throwAway_39 ?_
  refine x_getr hx hb hw (cX12 hE) (own := RX11) (ref := RX2) (C := RX2) (T := TX2) (N := 8) hts hiX2 hown rfl 2 (by decide) hk222 (fun _ h9 => h9) rfl dX11_throwAway_42 ?_
  refine lv_iload_n hx hb dX11_throwAway_45 rfl (lv_at hl 1 rfl) ?_
  obtain ⟨hin, hf⟩ := xr_f hf
  refine x_iald hx hb hw (cX15 hE) hin dX11_throwAway_46 ?_
  refine lv_topi (fun v10 ex => ?_)
  replace hf := hf v10 ex
  clear ex hin
  refine lv_iadd hx hb dX11_throwAway_47 ?_
  refine x_puti hx hb hw (cX2 hE) (own := RX11) (ref := RX10) (C := RX10) (T := TX10) (N := 4) hts hiX10 tyX10 tyX10_ok nmX10 hown rfl 3 (by decide) hk229 (fun _ h9 => h9) rfl (by decide +kernel) rfl dX11_throwAway_48 (fun σ11 H locs ex hw => ?_)
  replace hf := xp_f hf σ11 ex
  clear ex
  refine lv_aload_n hx hb dX11_throwAway_51 rfl (lv_at hl 0 rfl) ?_
  refine x_getr hx hb hw (cX0 hE) (own := RX11) (ref := RX11) (C := RX11) (T := TX11) (N := 14) hts hiX11 hown rfl 2 (by decide) hk36 (fun _ h9 => h9) rfl dX11_throwAway_52 ?_
  refine x_getr hx hb hw (cX12 hE) (own := RX11) (ref := RX2) (C := RX2) (T := TX2) (N := 8) hts hiX2 hown rfl 2 (by decide) hk222 (fun _ h9 => h9) rfl dX11_throwAway_55 ?_
  refine lv_iload_n hx hb dX11_throwAway_58 rfl (lv_at hl 1 rfl) ?_
  obtain ⟨hin, hf⟩ := xr_f hf
  refine x_iald hx hb hw (cX15 hE) hin dX11_throwAway_59 ?_
  refine lv_topi (fun v12 ex => ?_)
  replace hf := hf v12 ex
  clear ex hin
  exact x_tiret hx hb hr hlk hw hf (Nat.le_of_ble_eq_true rfl) (Nat.le_of_ble_eq_true rfl) dX11_throwAway_60

def fX11_doughCount (σ : xSt) : Option (Int32 × xSt) := some ((σ 12 7), σ)
abbrev rmX11_doughCount : Room := { frames := 0, cells := 0, slots := 0, locals := 0 }
set_option maxRecDepth 100000 in
set_option maxHeartbeats 4000000 in
theorem mX11_doughCount {l : Launch} {E : xE} (hE : E.sh = shX) (σ : xSt) (o1 : Int32) (o2 : xSt) (hf : fX11_doughCount σ = some (o1, o2)) : xMi l yX11_doughCount wsX11_doughCount rmX11_doughCount E [.ref (E.a 0)] σ o1 o2 := by
  unfold fX11_doughCount at hf
  refine xMi_of (cc := cX11_doughCount) (maxL := 1) (ret := (some .int)) (by decide) rfl (Nat.le_of_ble_eq_true rfl) ?_
  intro p e s m args below meth c A ls ⟨hx, hb, hr, hml, hown, hts, hlk⟩ hA hG hw hl
  have hown : s.vm.findClass RX11 = some m.cls := hown
  have hl : lv_has ls 1 [(0, .ref (E.a 0))] := hl
  have hk36 := hts (.fieldLink RX11 36 "OvenRound" "doughs" "LOvenRound$Doughs;") (by decide +kernel)
  have hiX11 : ∀ w ∈ wsX110, w ∈ wsX11_doughCount := by decide +kernel
  have hk175 := hts (.fieldLink RX11 175 "OvenRound$Doughs" "count" "I") (by decide +kernel)
  have hiX2 : ∀ w ∈ wsX20, w ∈ wsX11_doughCount := by decide +kernel
  refine lv_aload_n hx hb dX11_doughCount_0 rfl (lv_at hl 0 rfl) ?_
  refine x_getr hx hb hw (cX0 hE) (own := RX11) (ref := RX11) (C := RX11) (T := TX11) (N := 14) hts hiX11 hown rfl 2 (by decide) hk36 (fun _ h9 => h9) rfl dX11_doughCount_1 ?_
  refine x_geti hx hb hw (cX12 hE) (own := RX11) (ref := RX2) (C := RX2) (T := TX2) (N := 8) hts hiX2 hown rfl 7 (by decide) hk175 (fun _ h9 => h9) rfl dX11_doughCount_4 ?_
  exact x_iret hx hb hr hlk hw hf dX11_doughCount_7

def fX11_setHeat (p0 : Int32) (σ : xSt) : Option (xO × xSt) := (xc2 (fX11_isWithin p0 20 320 σ) fun r1 σ2 => (xct (fX11_needArgument r1 σ2) fun r3 σ4 => (xc (fX11_remember σ4) fun σ6 => (xp σ6 20 4 p0 fun σ7 => some ((.inl (σ7 20 3) : xO), σ7)))))
abbrev rmX11_setHeat : Room := { frames := 7, cells := 1, slots := 6, locals := 139 }
set_option maxRecDepth 100000 in
set_option maxHeartbeats 4000000 in
theorem mX11_setHeat {l : Launch} (hl0 : l.stackTraces = false) {E : xE} (hE : E.sh = shX) (p0 : Int32) (σ : xSt) (o1 : xO) (o2 : xSt) (hf : fX11_setHeat p0 σ = some (o1, o2)) : xMt l yX11_setHeat wsX11_setHeat rmX11_setHeat E [.ref (E.a 0), .int p0] σ o1 o2 1 := by
  unfold fX11_setHeat at hf
  refine xMt_of (cc := cX11_setHeat) (maxL := 2) (ret := (some .int)) (by decide) rfl (Nat.le_of_ble_eq_true rfl) ?_
  intro p e s m args below meth c A ls ⟨hx, hb, hr, hml, hown, hts, hlk⟩ hA hG hw hl hex
  have hown : s.vm.findClass RX11 = some m.cls := hown
  have hl : lv_has ls 2 [(0, .ref (E.a 0)), (1, .int p0)] := hl
  have hk41 := hts (.fieldLink RX11 41 "OvenRound" "oven" "LOvenRound$Oven;") (by decide +kernel)
  have hiX11 : ∀ w ∈ wsX110, w ∈ wsX11_setHeat := by decide +kernel
  have hk232 := hts (.fieldLink RX11 232 "OvenRound$Oven" "setHeat" "I") (by decide +kernel)
  have hiX5 : ∀ w ∈ wsX50, w ∈ wsX11_setHeat := by decide +kernel
  have hk235 := hts (.fieldLink RX11 235 "OvenRound$Oven" "heat" "I") (by decide +kernel)
  refine lv_iload_n hx hb dX11_setHeat_0 rfl (lv_at hl 1 rfl) ?_
  refine lv_bipush (v := 20) hx hb dX11_setHeat_1 (by decide) ?_
  refine lv_sipush (v := 320) hx hb dX11_setHeat_3 (by decide) ?_
  obtain ⟨r1, σ2, hcl, hf⟩ := xc2_f hf
  refine x_calli (va_runS (As := [.int p0, .int 20, .int 320]) (rest := []) ⟨hx, hb, hml, hown, hts⟩ (mX11_isWithin hE p0 20 320 σ r1 σ2 hcl s.heap.size) (va_cwS 3 hts gX11_setHeat_X11_isWithin rfl rfl rfl (by decide +kernel) ⟨Nat.le_of_ble_eq_true rfl, Nat.le_of_ble_eq_true rfl⟩) (x_preS _ hw hA hG) rfl rfl hl.1 rfl (lv_room (Nat.le_of_ble_eq_true rfl)) dX11_setHeat_6 ⟨Nat.le_of_ble_eq_true rfl, Nat.le_of_ble_eq_true rfl⟩) hw hA (fun H locs hw => ?_)
  clear hcl
  rcases xct_e hf with ⟨k9, σ4, hcl, hf⟩ | ⟨r3, σ4, hcl, hf⟩
  · refine x_tcallv (vx_runS (As := [.int r1]) (rest := []) ⟨hx, hb, hml, hown, hts⟩ (mX11_needArgument hl0 r1 σ2 (.inr k9) σ4 hcl H.size) (va_cwS 1 hts gX11_setHeat_X11_needArgument rfl rfl rfl (by decide +kernel) ⟨Nat.le_of_ble_eq_true rfl, Nat.le_of_ble_eq_true rfl⟩) (x_preS _ hw hA hG) rfl rfl hl.1 rfl (lv_room (Nat.le_of_ble_eq_true rfl)) dX11_setHeat_9 ⟨Nat.le_of_ble_eq_true rfl, Nat.le_of_ble_eq_true rfl⟩) hw hA (fun q9 ce H locs h1 h2 h3 hw => ?_) (fun H locs h1 hw => nomatch h1)
    exact x_tout hlk hex h1 h2 h3 hw hf (Nat.le_of_ble_eq_true rfl) (Nat.le_of_ble_eq_true rfl)
  refine x_tcallv (vx_runS (As := [.int r1]) (rest := []) ⟨hx, hb, hml, hown, hts⟩ (mX11_needArgument hl0 r1 σ2 (.inl r3) σ4 hcl H.size) (va_cwS 1 hts gX11_setHeat_X11_needArgument rfl rfl rfl (by decide +kernel) ⟨Nat.le_of_ble_eq_true rfl, Nat.le_of_ble_eq_true rfl⟩) (x_preS _ hw hA hG) rfl rfl hl.1 rfl (lv_room (Nat.le_of_ble_eq_true rfl)) dX11_setHeat_9 ⟨Nat.le_of_ble_eq_true rfl, Nat.le_of_ble_eq_true rfl⟩) hw hA (fun q9 ce H locs h1 h2 h3 hw => by obtain ⟨_, h9, _⟩ := h3; cases h9) (fun H locs h1 hw => ?_)
  clear hcl h1
  refine lv_aload_n hx hb dX11_setHeat_12 rfl (lv_at hl 0 rfl) ?_
  obtain ⟨σ6, hcl, hf⟩ := xc_e hf
  refine x_callv (va_runV (As := []) (rest := []) ⟨hx, hb, hml, hown, hts⟩ (mX11_remember hE σ4 σ6 hcl H.size) (cwV 0 hts gX11_setHeat_X11_remember rfl rfl rfl (by decide +kernel) ⟨Nat.le_of_ble_eq_true rfl, Nat.le_of_ble_eq_true rfl⟩) (x_preV _ hw hA hG (cX0 hE) rfl) rfl rfl hl.1 rfl (lv_room (Nat.le_of_ble_eq_true rfl)) dX11_setHeat_13 ⟨Nat.le_of_ble_eq_true rfl, Nat.le_of_ble_eq_true rfl⟩) hw hA (fun H locs hw => ?_)
  clear hcl
  refine lv_aload_n hx hb dX11_setHeat_16 rfl (lv_at hl 0 rfl) ?_
  refine x_getr hx hb hw (cX0 hE) (own := RX11) (ref := RX11) (C := RX11) (T := TX11) (N := 14) hts hiX11 hown rfl 3 (by decide) hk41 (fun _ h9 => h9) rfl dX11_setHeat_17 ?_
  refine lv_iload_n hx hb dX11_setHeat_20 rfl (lv_at hl 1 rfl) ?_
  refine x_puti hx hb hw (cX20 hE) (own := RX11) (ref := RX5) (C := RX5) (T := TX5) (N := 5) hts hiX5 tyX5 tyX5_ok nmX5 hown rfl 4 (by decide) hk232 (fun _ h9 => h9) rfl (by decide +kernel) rfl dX11_setHeat_21 (fun σ7 H locs ex hw => ?_)
  replace hf := xp_f hf σ7 ex
  clear ex
  refine lv_aload_n hx hb dX11_setHeat_24 rfl (lv_at hl 0 rfl) ?_
  refine x_getr hx hb hw (cX0 hE) (own := RX11) (ref := RX11) (C := RX11) (T := TX11) (N := 14) hts hiX11 hown rfl 3 (by decide) hk41 (fun _ h9 => h9) rfl dX11_setHeat_25 ?_
  refine x_geti hx hb hw (cX20 hE) (own := RX11) (ref := RX5) (C := RX5) (T := TX5) (N := 5) hts hiX5 hown rfl 3 (by decide) hk235 (fun _ h9 => h9) rfl dX11_setHeat_28 ?_
  exact x_tiret hx hb hr hlk hw hf (Nat.le_of_ble_eq_true rfl) (Nat.le_of_ble_eq_true rfl) dX11_setHeat_31

def fX11_heat (σ : xSt) : Option (Int32 × xSt) := some ((σ 20 3), σ)
abbrev rmX11_heat : Room := { frames := 0, cells := 0, slots := 0, locals := 0 }
set_option maxRecDepth 100000 in
set_option maxHeartbeats 4000000 in
theorem mX11_heat {l : Launch} {E : xE} (hE : E.sh = shX) (σ : xSt) (o1 : Int32) (o2 : xSt) (hf : fX11_heat σ = some (o1, o2)) : xMi l yX11_heat wsX11_heat rmX11_heat E [.ref (E.a 0)] σ o1 o2 := by
  unfold fX11_heat at hf
  refine xMi_of (cc := cX11_heat) (maxL := 1) (ret := (some .int)) (by decide) rfl (Nat.le_of_ble_eq_true rfl) ?_
  intro p e s m args below meth c A ls ⟨hx, hb, hr, hml, hown, hts, hlk⟩ hA hG hw hl
  have hown : s.vm.findClass RX11 = some m.cls := hown
  have hl : lv_has ls 1 [(0, .ref (E.a 0))] := hl
  have hk41 := hts (.fieldLink RX11 41 "OvenRound" "oven" "LOvenRound$Oven;") (by decide +kernel)
  have hiX11 : ∀ w ∈ wsX110, w ∈ wsX11_heat := by decide +kernel
  have hk235 := hts (.fieldLink RX11 235 "OvenRound$Oven" "heat" "I") (by decide +kernel)
  have hiX5 : ∀ w ∈ wsX50, w ∈ wsX11_heat := by decide +kernel
  refine lv_aload_n hx hb dX11_heat_0 rfl (lv_at hl 0 rfl) ?_
  refine x_getr hx hb hw (cX0 hE) (own := RX11) (ref := RX11) (C := RX11) (T := TX11) (N := 14) hts hiX11 hown rfl 3 (by decide) hk41 (fun _ h9 => h9) rfl dX11_heat_1 ?_
  refine x_geti hx hb hw (cX20 hE) (own := RX11) (ref := RX5) (C := RX5) (T := TX5) (N := 5) hts hiX5 hown rfl 3 (by decide) hk235 (fun _ h9 => h9) rfl dX11_heat_4 ?_
  exact x_iret hx hb hr hlk hw hf dX11_heat_7

def fX11_setDecks (p0 : Int32) (σ : xSt) : Option (xO × xSt) := (xc2 (fX11_isWithin p0 1 4 σ) fun r1 σ2 => (xct (fX11_needArgument r1 σ2) fun r3 σ4 => (xc (fX11_remember σ4) fun σ6 => (xl (σ6 20 2) fun v7 => (xp σ6 20 2 p0 fun σ8 => some ((.inl v7 : xO), σ8))))))
abbrev rmX11_setDecks : Room := { frames := 7, cells := 1, slots := 6, locals := 139 }
set_option maxRecDepth 100000 in
set_option maxHeartbeats 4000000 in
theorem mX11_setDecks {l : Launch} (hl0 : l.stackTraces = false) {E : xE} (hE : E.sh = shX) (p0 : Int32) (σ : xSt) (o1 : xO) (o2 : xSt) (hf : fX11_setDecks p0 σ = some (o1, o2)) : xMt l yX11_setDecks wsX11_setDecks rmX11_setDecks E [.ref (E.a 0), .int p0] σ o1 o2 1 := by
  unfold fX11_setDecks at hf
  refine xMt_of (cc := cX11_setDecks) (maxL := 3) (ret := (some .int)) (by decide) rfl (Nat.le_of_ble_eq_true rfl) ?_
  intro p e s m args below meth c A ls ⟨hx, hb, hr, hml, hown, hts, hlk⟩ hA hG hw hl hex
  have hown : s.vm.findClass RX11 = some m.cls := hown
  have hl : lv_has ls 3 [(0, .ref (E.a 0)), (1, .int p0)] := hl
  have hk41 := hts (.fieldLink RX11 41 "OvenRound" "oven" "LOvenRound$Oven;") (by decide +kernel)
  have hiX11 : ∀ w ∈ wsX110, w ∈ wsX11_setDecks := by decide +kernel
  have hk237 := hts (.fieldLink RX11 237 "OvenRound$Oven" "decks" "I") (by decide +kernel)
  have hiX5 : ∀ w ∈ wsX50, w ∈ wsX11_setDecks := by decide +kernel
  refine lv_iload_n hx hb dX11_setDecks_0 rfl (lv_at hl 1 rfl) ?_
  refine lv_iconst (v := 1) hx hb dX11_setDecks_1 (by decide) ?_
  refine lv_iconst (v := 4) hx hb dX11_setDecks_2 (by decide) ?_
  obtain ⟨r1, σ2, hcl, hf⟩ := xc2_f hf
  refine x_calli (va_runS (As := [.int p0, .int 1, .int 4]) (rest := []) ⟨hx, hb, hml, hown, hts⟩ (mX11_isWithin hE p0 1 4 σ r1 σ2 hcl s.heap.size) (va_cwS 3 hts gX11_setDecks_X11_isWithin rfl rfl rfl (by decide +kernel) ⟨Nat.le_of_ble_eq_true rfl, Nat.le_of_ble_eq_true rfl⟩) (x_preS _ hw hA hG) rfl rfl hl.1 rfl (lv_room (Nat.le_of_ble_eq_true rfl)) dX11_setDecks_3 ⟨Nat.le_of_ble_eq_true rfl, Nat.le_of_ble_eq_true rfl⟩) hw hA (fun H locs hw => ?_)
  clear hcl
  rcases xct_e hf with ⟨k6, σ4, hcl, hf⟩ | ⟨r3, σ4, hcl, hf⟩
  · refine x_tcallv (vx_runS (As := [.int r1]) (rest := []) ⟨hx, hb, hml, hown, hts⟩ (mX11_needArgument hl0 r1 σ2 (.inr k6) σ4 hcl H.size) (va_cwS 1 hts gX11_setDecks_X11_needArgument rfl rfl rfl (by decide +kernel) ⟨Nat.le_of_ble_eq_true rfl, Nat.le_of_ble_eq_true rfl⟩) (x_preS _ hw hA hG) rfl rfl hl.1 rfl (lv_room (Nat.le_of_ble_eq_true rfl)) dX11_setDecks_6 ⟨Nat.le_of_ble_eq_true rfl, Nat.le_of_ble_eq_true rfl⟩) hw hA (fun q9 ce H locs h1 h2 h3 hw => ?_) (fun H locs h1 hw => nomatch h1)
    exact x_tout hlk hex h1 h2 h3 hw hf (Nat.le_of_ble_eq_true rfl) (Nat.le_of_ble_eq_true rfl)
  refine x_tcallv (vx_runS (As := [.int r1]) (rest := []) ⟨hx, hb, hml, hown, hts⟩ (mX11_needArgument hl0 r1 σ2 (.inl r3) σ4 hcl H.size) (va_cwS 1 hts gX11_setDecks_X11_needArgument rfl rfl rfl (by decide +kernel) ⟨Nat.le_of_ble_eq_true rfl, Nat.le_of_ble_eq_true rfl⟩) (x_preS _ hw hA hG) rfl rfl hl.1 rfl (lv_room (Nat.le_of_ble_eq_true rfl)) dX11_setDecks_6 ⟨Nat.le_of_ble_eq_true rfl, Nat.le_of_ble_eq_true rfl⟩) hw hA (fun q9 ce H locs h1 h2 h3 hw => by obtain ⟨_, h9, _⟩ := h3; cases h9) (fun H locs h1 hw => ?_)
  clear hcl h1
  refine lv_aload_n hx hb dX11_setDecks_9 rfl (lv_at hl 0 rfl) ?_
  obtain ⟨σ6, hcl, hf⟩ := xc_e hf
  refine x_callv (va_runV (As := []) (rest := []) ⟨hx, hb, hml, hown, hts⟩ (mX11_remember hE σ4 σ6 hcl H.size) (cwV 0 hts gX11_setDecks_X11_remember rfl rfl rfl (by decide +kernel) ⟨Nat.le_of_ble_eq_true rfl, Nat.le_of_ble_eq_true rfl⟩) (x_preV _ hw hA hG (cX0 hE) rfl) rfl rfl hl.1 rfl (lv_room (Nat.le_of_ble_eq_true rfl)) dX11_setDecks_10 ⟨Nat.le_of_ble_eq_true rfl, Nat.le_of_ble_eq_true rfl⟩) hw hA (fun H locs hw => ?_)
  clear hcl
  refine lv_aload_n hx hb dX11_setDecks_13 rfl (lv_at hl 0 rfl) ?_
  refine x_getr hx hb hw (cX0 hE) (own := RX11) (ref := RX11) (C := RX11) (T := TX11) (N := 14) hts hiX11 hown rfl 3 (by decide) hk41 (fun _ h9 => h9) rfl dX11_setDecks_14 ?_
  refine x_geti hx hb hw (cX20 hE) (own := RX11) (ref := RX5) (C := RX5) (T := TX5) (N := 5) hts hiX5 hown rfl 2 (by decide) hk237 (fun _ h9 => h9) rfl dX11_setDecks_17 ?_
  refine lv_topi (fun v7 ex => ?_)
  replace hf := xl_f hf v7 ex
  clear ex
  refine lv_istore_n (lv' := [(2, .int v7), (0, .ref (E.a 0)), (1, .int p0)]) hx hb dX11_setDecks_20 rfl hl (by decide) rfl (fun ls hl => ?_)
  refine lv_aload_n hx hb dX11_setDecks_21 rfl (lv_at hl 1 rfl) ?_
  refine x_getr hx hb hw (cX0 hE) (own := RX11) (ref := RX11) (C := RX11) (T := TX11) (N := 14) hts hiX11 hown rfl 3 (by decide) hk41 (fun _ h9 => h9) rfl dX11_setDecks_22 ?_
  refine lv_iload_n hx hb dX11_setDecks_25 rfl (lv_at hl 2 rfl) ?_
  refine x_puti hx hb hw (cX20 hE) (own := RX11) (ref := RX5) (C := RX5) (T := TX5) (N := 5) hts hiX5 tyX5 tyX5_ok nmX5 hown rfl 2 (by decide) hk237 (fun _ h9 => h9) rfl (by decide +kernel) rfl dX11_setDecks_26 (fun σ8 H locs ex hw => ?_)
  replace hf := xp_f hf σ8 ex
  clear ex
  refine lv_iload_n hx hb dX11_setDecks_29 rfl (lv_at hl 0 rfl) ?_
  exact x_tiret hx hb hr hlk hw hf (Nat.le_of_ble_eq_true rfl) (Nat.le_of_ble_eq_true rfl) dX11_setDecks_30

def fX11_isForOven_c55 (a1 : Int32) (t0 : Int32) (σ : xSt) : Option (Int32 × xSt) := (if t0 = 0 then (xc2 (fX11_isRipe a1 σ) fun r5 σ6 => (if r5 = 0 then some (0, σ6) else some (1, σ6))) else some (1, σ))
def fX11_isForOven_c54 (a1 : Int32) (σ : xSt) : Option (Int32 × xSt) := fX11_isForOven_c55 a1 0 σ
def fX11_isForOven (p0 : Int32) (σ : xSt) : Option (Int32 × xSt) := (xr σ 17 20 p0 fun v1 => (if v1 = 1 then (xr σ 18 20 p0 fun v2 => (xr σ 13 20 p0 fun v3 => (xr σ 10 6 v3 fun v4 => (if v4 < ((σ 20 0) - v2) then fX11_isForOven_c54 p0 σ else fX11_isForOven_c55 p0 1 σ)))) else fX11_isForOven_c54 p0 σ))
abbrev rmX11_isForOven : Room := { frames := 3, cells := 0, slots := 0, locals := 65 }
set_option maxRecDepth 100000 in
set_option maxHeartbeats 4000000 in
theorem mX11_isForOven {l : Launch} {E : xE} (hE : E.sh = shX) (p0 : Int32) (σ : xSt) (o1 : Int32) (o2 : xSt) (hf : fX11_isForOven p0 σ = some (o1, o2)) : xMi l yX11_isForOven wsX11_isForOven rmX11_isForOven E [.ref (E.a 0), .int p0] σ o1 o2 := by
  unfold fX11_isForOven at hf
  refine xMi_of (cc := cX11_isForOven) (maxL := 3) (ret := (some .boolean)) (by decide) rfl (Nat.le_of_ble_eq_true rfl) ?_
  intro p e s m args below meth c A ls ⟨hx, hb, hr, hml, hown, hts, hlk⟩ hA hG hw hl
  have hown : s.vm.findClass RX11 = some m.cls := hown
  have hl : lv_has ls 3 [(0, .ref (E.a 0)), (1, .int p0)] := hl
  have hk36 := hts (.fieldLink RX11 36 "OvenRound" "doughs" "LOvenRound$Doughs;") (by decide +kernel)
  have hiX11 : ∀ w ∈ wsX110, w ∈ wsX11_isForOven := by decide +kernel
  have hk207 := hts (.fieldLink RX11 207 "OvenRound$Doughs" "state" "[I") (by decide +kernel)
  have hiX2 : ∀ w ∈ wsX20, w ∈ wsX11_isForOven := by decide +kernel
  have hk41 := hts (.fieldLink RX11 41 "OvenRound" "oven" "LOvenRound$Oven;") (by decide +kernel)
  have hk186 := hts (.fieldLink RX11 186 "OvenRound$Oven" "tick" "I") (by decide +kernel)
  have hiX5 : ∀ w ∈ wsX50, w ∈ wsX11_isForOven := by decide +kernel
  have hk210 := hts (.fieldLink RX11 210 "OvenRound$Doughs" "shapedAt" "[I") (by decide +kernel)
  have hk31 := hts (.fieldLink RX11 31 "OvenRound" "recipes" "LOvenRound$Recipes;") (by decide +kernel)
  have hk142 := hts (.fieldLink RX11 142 "OvenRound$Recipes" "wait" "[I") (by decide +kernel)
  have hiX8 : ∀ w ∈ wsX80, w ∈ wsX11_isForOven := by decide +kernel
  have hk216 := hts (.fieldLink RX11 216 "OvenRound$Doughs" "recipe" "[I") (by decide +kernel)
  have h55 : ∀ (a1 : Int32) (t0 : Int32) (σ : xSt) (H : Heap) (locs : List Loc) (ls : Array Slot), xw E A s.heap s σ H locs → lv_has ls 3 [(0, .ref (E.a 0)), (1, .int a1)] → fX11_isForOven_c55 a1 t0 σ = some (o1, o2) → W p l e rmX11_isForOven s m args below meth c H locs 0 0 (MQ below (xQi E A o1 o2) args s 0 0 A) (F0 m 55 ls [.int t0]) := by
    intro a1 t0 σ H locs ls hw hl hf
    unfold fX11_isForOven_c55 at hf
    refine lv_istore_n (lv' := [(2, .int t0), (0, .ref (E.a 0)), (1, .int a1)]) hx hb dX11_isForOven_55 rfl hl (by decide) rfl (fun ls hl => ?_)
    refine lv_iload_n hx hb dX11_isForOven_56 rfl (lv_at hl 0 rfl) ?_
    refine lv_if_ne (tgt := 68) hx hb dX11_isForOven_57 (by decide) (fun c57 => ?_) (fun c57 => ?_)
    · replace hf := xif_neg c57 hf
      refine lv_iconst (v := 1) hx hb dX11_isForOven_68 (by decide) ?_
      refine lv_goto (tgt := 73) hx hb dX11_isForOven_69 (by decide) ?_
      exact x_zretc hx hb hr hlk hw (by decide) hf dX11_isForOven_73
    · replace hf := xif_pos c57 hf
      refine lv_aload_n hx hb dX11_isForOven_60 rfl (lv_at hl 1 rfl) ?_
      refine lv_iload_n hx hb dX11_isForOven_61 rfl (lv_at hl 2 rfl) ?_
      obtain ⟨r5, σ6, hcl, hf⟩ := xc2_f hf
      refine x_calli (va_runV (As := [.int a1]) (rest := []) ⟨hx, hb, hml, hown, hts⟩ (mX11_isRipe hE a1 σ r5 σ6 hcl H.size) (cwV 1 hts gX11_isForOven_X11_isRipe rfl rfl rfl (by decide +kernel) ⟨Nat.le_of_ble_eq_true rfl, Nat.le_of_ble_eq_true rfl⟩) (x_preV _ hw hA hG (cX0 hE) rfl) rfl rfl hl.1 rfl (lv_room (Nat.le_of_ble_eq_true rfl)) dX11_isForOven_62 ⟨Nat.le_of_ble_eq_true rfl, Nat.le_of_ble_eq_true rfl⟩) hw hA (fun H locs hw => ?_)
      clear hcl
      refine lv_if_eq (tgt := 72) hx hb dX11_isForOven_65 (by decide) (fun c65 => ?_) (fun c65 => ?_)
      · replace hf := xif_pos c65 hf
        refine lv_iconst (v := 0) hx hb dX11_isForOven_72 (by decide) ?_
        exact x_zretc hx hb hr hlk hw (by decide) hf dX11_isForOven_73
      · replace hf := xif_neg c65 hf
        refine lv_iconst (v := 1) hx hb dX11_isForOven_68 (by decide) ?_
        refine lv_goto (tgt := 73) hx hb dX11_isForOven_69 (by decide) ?_
        exact x_zretc hx hb hr hlk hw (by decide) hf dX11_isForOven_73
  have h54 : ∀ (a1 : Int32) (σ : xSt) (H : Heap) (locs : List Loc) (ls : Array Slot), xw E A s.heap s σ H locs → lv_has ls 3 [(0, .ref (E.a 0)), (1, .int a1)] → fX11_isForOven_c54 a1 σ = some (o1, o2) → W p l e rmX11_isForOven s m args below meth c H locs 0 0 (MQ below (xQi E A o1 o2) args s 0 0 A) (F0 m 54 ls []) := by
    intro a1 σ H locs ls hw hl hf
    unfold fX11_isForOven_c54 at hf
    refine lv_iconst (v := 0) hx hb dX11_isForOven_54 (by decide) ?_
    exact h55 a1 0 σ _ _ _ hw (lv_sub hl [0, 1] rfl) hf
  refine lv_aload_n hx hb dX11_isForOven_0 rfl (lv_at hl 0 rfl) ?_
  refine x_getr hx hb hw (cX0 hE) (own := RX11) (ref := RX11) (C := RX11) (T := TX11) (N := 14) hts hiX11 hown rfl 2 (by decide) hk36 (fun _ h9 => h9) rfl dX11_isForOven_1 ?_
  refine x_getr hx hb hw (cX12 hE) (own := RX11) (ref := RX2) (C := RX2) (T := TX2) (N := 8) hts hiX2 hown rfl 4 (by decide) hk207 (fun _ h9 => h9) rfl dX11_isForOven_4 ?_
  refine lv_iload_n hx hb dX11_isForOven_7 rfl (lv_at hl 1 rfl) ?_
  obtain ⟨hin, hf⟩ := xr_f hf
  refine x_iald hx hb hw (cX17 hE) hin dX11_isForOven_8 ?_
  refine lv_topi (fun v1 ex => ?_)
  replace hf := hf v1 ex
  clear ex hin
  refine lv_iconst (v := 1) hx hb dX11_isForOven_9 (by decide) ?_
  refine lv_icmp_ne (tgt := 54) hx hb dX11_isForOven_10 (by decide) (fun c10 => ?_) (fun c10 => ?_)
  · replace hf := xif_neg c10 hf
    exact h54 p0 σ _ _ _ hw (lv_sub hl [0, 1] rfl) hf
  · replace hf := xif_pos c10 hf
    refine lv_aload_n hx hb dX11_isForOven_13 rfl (lv_at hl 0 rfl) ?_
    refine x_getr hx hb hw (cX0 hE) (own := RX11) (ref := RX11) (C := RX11) (T := TX11) (N := 14) hts hiX11 hown rfl 3 (by decide) hk41 (fun _ h9 => h9) rfl dX11_isForOven_14 ?_
    refine x_geti hx hb hw (cX20 hE) (own := RX11) (ref := RX5) (C := RX5) (T := TX5) (N := 5) hts hiX5 hown rfl 0 (by decide) hk186 (fun _ h9 => h9) rfl dX11_isForOven_17 ?_
    refine lv_aload_n hx hb dX11_isForOven_20 rfl (lv_at hl 0 rfl) ?_
    refine x_getr hx hb hw (cX0 hE) (own := RX11) (ref := RX11) (C := RX11) (T := TX11) (N := 14) hts hiX11 hown rfl 2 (by decide) hk36 (fun _ h9 => h9) rfl dX11_isForOven_21 ?_
    refine x_getr hx hb hw (cX12 hE) (own := RX11) (ref := RX2) (C := RX2) (T := TX2) (N := 8) hts hiX2 hown rfl 5 (by decide) hk210 (fun _ h9 => h9) rfl dX11_isForOven_24 ?_
    refine lv_iload_n hx hb dX11_isForOven_27 rfl (lv_at hl 1 rfl) ?_
    obtain ⟨hin, hf⟩ := xr_f hf
    refine x_iald hx hb hw (cX18 hE) hin dX11_isForOven_28 ?_
    refine lv_topi (fun v2 ex => ?_)
    replace hf := hf v2 ex
    clear ex hin
    refine lv_isub hx hb dX11_isForOven_29 ?_
    refine lv_aload_n hx hb dX11_isForOven_30 rfl (lv_at hl 0 rfl) ?_
    refine x_getr hx hb hw (cX0 hE) (own := RX11) (ref := RX11) (C := RX11) (T := TX11) (N := 14) hts hiX11 hown rfl 1 (by decide) hk31 (fun _ h9 => h9) rfl dX11_isForOven_31 ?_
    refine x_getr hx hb hw (cX4 hE) (own := RX11) (ref := RX8) (C := RX8) (T := TX8) (N := 8) hts hiX8 hown rfl 5 (by decide) hk142 (fun _ h9 => h9) rfl dX11_isForOven_34 ?_
    refine lv_aload_n hx hb dX11_isForOven_37 rfl (lv_at hl 0 rfl) ?_
    refine x_getr hx hb hw (cX0 hE) (own := RX11) (ref := RX11) (C := RX11) (T := TX11) (N := 14) hts hiX11 hown rfl 2 (by decide) hk36 (fun _ h9 => h9) rfl dX11_isForOven_38 ?_
    refine x_getr hx hb hw (cX12 hE) (own := RX11) (ref := RX2) (C := RX2) (T := TX2) (N := 8) hts hiX2 hown rfl 0 (by decide) hk216 (fun _ h9 => h9) rfl dX11_isForOven_41 ?_
    refine lv_iload_n hx hb dX11_isForOven_44 rfl (lv_at hl 1 rfl) ?_
    obtain ⟨hin, hf⟩ := xr_f hf
    refine x_iald hx hb hw (cX13 hE) hin dX11_isForOven_45 ?_
    refine lv_topi (fun v3 ex => ?_)
    replace hf := hf v3 ex
    clear ex hin
    obtain ⟨hin, hf⟩ := xr_f hf
    refine x_iald hx hb hw (cX10 hE) hin dX11_isForOven_46 ?_
    refine lv_topi (fun v4 ex => ?_)
    replace hf := hf v4 ex
    clear ex hin
    refine lv_icmp_gt (tgt := 54) hx hb dX11_isForOven_47 (by decide) (fun c47 => ?_) (fun c47 => ?_)
    · replace hf := xif_pos c47 hf
      exact h54 p0 σ _ _ _ hw (lv_sub hl [0, 1] rfl) hf
    · replace hf := xif_neg c47 hf
      refine lv_iconst (v := 1) hx hb dX11_isForOven_50 (by decide) ?_
      refine lv_goto (tgt := 55) hx hb dX11_isForOven_51 (by decide) ?_
      exact h55 p0 1 σ _ _ _ hw (lv_sub hl [0, 1] rfl) hf

def fX11_isOvenFor (p0 : Int32) (σ : xSt) : Option (Int32 × xSt) := (if ((σ 20 0) - (σ 20 0) / 10 * 10) = 0 then (xc2 (fX2_wentIntoOvenAt (σ 20 0) σ) fun r1 σ2 => (if (σ2 20 2) ≤ r1 then some (0, σ2) else (xr σ2 8 6 p0 fun v3 => (xr σ2 8 6 p0 fun v4 => (xc2 (fX11_isWithin (σ2 20 3) v3 (v4 + 40) σ2) fun r5 σ6 => (if r5 = 0 then some (0, σ6) else some (1, σ6))))))) else some (0, σ))
abbrev rmX11_isOvenFor : Room := { frames := 1, cells := 0, slots := 0, locals := 23 }
set_option maxRecDepth 100000 in
set_option maxHeartbeats 4000000 in
theorem mX11_isOvenFor {l : Launch} {E : xE} (hE : E.sh = shX) (p0 : Int32) (σ : xSt) (o1 : Int32) (o2 : xSt) (hf : fX11_isOvenFor p0 σ = some (o1, o2)) : xMi l yX11_isOvenFor wsX11_isOvenFor rmX11_isOvenFor E [.ref (E.a 0), .int p0] σ o1 o2 := by
  unfold fX11_isOvenFor at hf
  refine xMi_of (cc := cX11_isOvenFor) (maxL := 2) (ret := (some .boolean)) (by decide) rfl (Nat.le_of_ble_eq_true rfl) ?_
  intro p e s m args below meth c A ls ⟨hx, hb, hr, hml, hown, hts, hlk⟩ hA hG hw hl
  have hown : s.vm.findClass RX11 = some m.cls := hown
  have hl : lv_has ls 2 [(0, .ref (E.a 0)), (1, .int p0)] := hl
  have hk41 := hts (.fieldLink RX11 41 "OvenRound" "oven" "LOvenRound$Oven;") (by decide +kernel)
  have hiX11 : ∀ w ∈ wsX110, w ∈ wsX11_isOvenFor := by decide +kernel
  have hk186 := hts (.fieldLink RX11 186 "OvenRound$Oven" "tick" "I") (by decide +kernel)
  have hiX5 : ∀ w ∈ wsX50, w ∈ wsX11_isOvenFor := by decide +kernel
  have hk36 := hts (.fieldLink RX11 36 "OvenRound" "doughs" "LOvenRound$Doughs;") (by decide +kernel)
  have hk237 := hts (.fieldLink RX11 237 "OvenRound$Oven" "decks" "I") (by decide +kernel)
  have hk235 := hts (.fieldLink RX11 235 "OvenRound$Oven" "heat" "I") (by decide +kernel)
  have hk31 := hts (.fieldLink RX11 31 "OvenRound" "recipes" "LOvenRound$Recipes;") (by decide +kernel)
  have hk133 := hts (.fieldLink RX11 133 "OvenRound$Recipes" "heat" "[I") (by decide +kernel)
  have hiX8 : ∀ w ∈ wsX80, w ∈ wsX11_isOvenFor := by decide +kernel
  refine lv_aload_n hx hb dX11_isOvenFor_0 rfl (lv_at hl 0 rfl) ?_
  refine x_getr hx hb hw (cX0 hE) (own := RX11) (ref := RX11) (C := RX11) (T := TX11) (N := 14) hts hiX11 hown rfl 3 (by decide) hk41 (fun _ h9 => h9) rfl dX11_isOvenFor_1 ?_
  refine x_geti hx hb hw (cX20 hE) (own := RX11) (ref := RX5) (C := RX5) (T := TX5) (N := 5) hts hiX5 hown rfl 0 (by decide) hk186 (fun _ h9 => h9) rfl dX11_isOvenFor_4 ?_
  refine lv_bipush (v := 10) hx hb dX11_isOvenFor_7 (by decide) ?_
  refine lv_irem hx hb dX11_isOvenFor_9 (by decide) ?_
  refine lv_if_ne (tgt := 75) hx hb dX11_isOvenFor_10 (by decide) (fun c10 => ?_) (fun c10 => ?_)
  · replace hf := xif_neg c10 hf
    refine lv_iconst (v := 0) hx hb dX11_isOvenFor_75 (by decide) ?_
    exact x_zretc hx hb hr hlk hw (by decide) hf dX11_isOvenFor_76
  · replace hf := xif_pos c10 hf
    refine lv_aload_n hx hb dX11_isOvenFor_13 rfl (lv_at hl 0 rfl) ?_
    refine x_getr hx hb hw (cX0 hE) (own := RX11) (ref := RX11) (C := RX11) (T := TX11) (N := 14) hts hiX11 hown rfl 2 (by decide) hk36 (fun _ h9 => h9) rfl dX11_isOvenFor_14 ?_
    refine lv_aload_n hx hb dX11_isOvenFor_17 rfl (lv_at hl 0 rfl) ?_
    refine x_getr hx hb hw (cX0 hE) (own := RX11) (ref := RX11) (C := RX11) (T := TX11) (N := 14) hts hiX11 hown rfl 3 (by decide) hk41 (fun _ h9 => h9) rfl dX11_isOvenFor_18 ?_
    refine x_geti hx hb hw (cX20 hE) (own := RX11) (ref := RX5) (C := RX5) (T := TX5) (N := 5) hts hiX5 hown rfl 0 (by decide) hk186 (fun _ h9 => h9) rfl dX11_isOvenFor_21 ?_
    obtain ⟨r1, σ2, hcl, hf⟩ := xc2_f hf
    refine x_calli (va_runV (As := [.int (σ 20 0)]) (rest := []) ⟨hx, hb, hml, hown, hts⟩ (mX2_wentIntoOvenAt hE (σ 20 0) σ r1 σ2 hcl s.heap.size) (cwV 1 hts gX11_isOvenFor_X2_wentIntoOvenAt rfl rfl rfl (by decide +kernel) ⟨Nat.le_of_ble_eq_true rfl, Nat.le_of_ble_eq_true rfl⟩) (x_preV _ hw hA hG (cX12 hE) rfl) rfl rfl hl.1 rfl (lv_room (Nat.le_of_ble_eq_true rfl)) dX11_isOvenFor_24 ⟨Nat.le_of_ble_eq_true rfl, Nat.le_of_ble_eq_true rfl⟩) hw hA (fun H locs hw => ?_)
    clear hcl
    refine lv_aload_n hx hb dX11_isOvenFor_27 rfl (lv_at hl 0 rfl) ?_
    refine x_getr hx hb hw (cX0 hE) (own := RX11) (ref := RX11) (C := RX11) (T := TX11) (N := 14) hts hiX11 hown rfl 3 (by decide) hk41 (fun _ h9 => h9) rfl dX11_isOvenFor_28 ?_
    refine x_geti hx hb hw (cX20 hE) (own := RX11) (ref := RX5) (C := RX5) (T := TX5) (N := 5) hts hiX5 hown rfl 2 (by decide) hk237 (fun _ h9 => h9) rfl dX11_isOvenFor_31 ?_
    refine lv_icmp_ge (tgt := 75) hx hb dX11_isOvenFor_34 (by decide) (fun c34 => ?_) (fun c34 => ?_)
    · replace hf := xif_pos c34 hf
      refine lv_iconst (v := 0) hx hb dX11_isOvenFor_75 (by decide) ?_
      exact x_zretc hx hb hr hlk hw (by decide) hf dX11_isOvenFor_76
    · replace hf := xif_neg c34 hf
      refine lv_aload_n hx hb dX11_isOvenFor_37 rfl (lv_at hl 0 rfl) ?_
      refine x_getr hx hb hw (cX0 hE) (own := RX11) (ref := RX11) (C := RX11) (T := TX11) (N := 14) hts hiX11 hown rfl 3 (by decide) hk41 (fun _ h9 => h9) rfl dX11_isOvenFor_38 ?_
      refine x_geti hx hb hw (cX20 hE) (own := RX11) (ref := RX5) (C := RX5) (T := TX5) (N := 5) hts hiX5 hown rfl 3 (by decide) hk235 (fun _ h9 => h9) rfl dX11_isOvenFor_41 ?_
      refine lv_aload_n hx hb dX11_isOvenFor_44 rfl (lv_at hl 0 rfl) ?_
      refine x_getr hx hb hw (cX0 hE) (own := RX11) (ref := RX11) (C := RX11) (T := TX11) (N := 14) hts hiX11 hown rfl 1 (by decide) hk31 (fun _ h9 => h9) rfl dX11_isOvenFor_45 ?_
      refine x_getr hx hb hw (cX4 hE) (own := RX11) (ref := RX8) (C := RX8) (T := TX8) (N := 8) hts hiX8 hown rfl 3 (by decide) hk133 (fun _ h9 => h9) rfl dX11_isOvenFor_48 ?_
      refine lv_iload_n hx hb dX11_isOvenFor_51 rfl (lv_at hl 1 rfl) ?_
      obtain ⟨hin, hf⟩ := xr_f hf
      refine x_iald hx hb hw (cX8 hE) hin dX11_isOvenFor_52 ?_
      refine lv_topi (fun v3 ex => ?_)
      replace hf := hf v3 ex
      clear ex hin
      refine lv_aload_n hx hb dX11_isOvenFor_53 rfl (lv_at hl 0 rfl) ?_
      refine x_getr hx hb hw (cX0 hE) (own := RX11) (ref := RX11) (C := RX11) (T := TX11) (N := 14) hts hiX11 hown rfl 1 (by decide) hk31 (fun _ h9 => h9) rfl dX11_isOvenFor_54 ?_
      refine x_getr hx hb hw (cX4 hE) (own := RX11) (ref := RX8) (C := RX8) (T := TX8) (N := 8) hts hiX8 hown rfl 3 (by decide) hk133 (fun _ h9 => h9) rfl dX11_isOvenFor_57 ?_
      refine lv_iload_n hx hb dX11_isOvenFor_60 rfl (lv_at hl 1 rfl) ?_
      obtain ⟨hin, hf⟩ := xr_f hf
      refine x_iald hx hb hw (cX8 hE) hin dX11_isOvenFor_61 ?_
      refine lv_topi (fun v4 ex => ?_)
      replace hf := hf v4 ex
      clear ex hin
      refine lv_bipush (v := 40) hx hb dX11_isOvenFor_62 (by decide) ?_
      refine lv_iadd hx hb dX11_isOvenFor_64 ?_
      obtain ⟨r5, σ6, hcl, hf⟩ := xc2_f hf
      refine x_calli (va_runS (As := [.int (σ2 20 3), .int v3, .int (v4 + 40)]) (rest := []) ⟨hx, hb, hml, hown, hts⟩ (mX11_isWithin hE (σ2 20 3) v3 (v4 + 40) σ2 r5 σ6 hcl H.size) (va_cwS 3 hts gX11_isOvenFor_X11_isWithin rfl rfl rfl (by decide +kernel) ⟨Nat.le_of_ble_eq_true rfl, Nat.le_of_ble_eq_true rfl⟩) (x_preS _ hw hA hG) rfl rfl hl.1 rfl (lv_room (Nat.le_of_ble_eq_true rfl)) dX11_isOvenFor_65 ⟨Nat.le_of_ble_eq_true rfl, Nat.le_of_ble_eq_true rfl⟩) hw hA (fun H locs hw => ?_)
      clear hcl
      refine lv_if_eq (tgt := 75) hx hb dX11_isOvenFor_68 (by decide) (fun c68 => ?_) (fun c68 => ?_)
      · replace hf := xif_pos c68 hf
        refine lv_iconst (v := 0) hx hb dX11_isOvenFor_75 (by decide) ?_
        exact x_zretc hx hb hr hlk hw (by decide) hf dX11_isOvenFor_76
      · replace hf := xif_neg c68 hf
        refine lv_iconst (v := 1) hx hb dX11_isOvenFor_71 (by decide) ?_
        refine lv_goto (tgt := 76) hx hb dX11_isOvenFor_72 (by decide) ?_
        exact x_zretc hx hb hr hlk hw (by decide) hf dX11_isOvenFor_76

def fX11_bake_c34 (a1 : Int32) (t0 : Int32) (σ : xSt) : Option (xO × xSt) := (xct (fX11_needState t0 σ) fun r8 σ9 => (xc (fX11_remember σ9) fun σ11 => (xs σ11 17 20 a1 2 fun σ12 => (xs σ12 19 20 a1 (σ12 20 0) fun σ13 => some ((.inl ((σ13 20 0) + 10) : xO), σ13)))))
def fX11_bake_c33 (a1 : Int32) (σ : xSt) : Option (xO × xSt) := fX11_bake_c34 a1 0 σ
def fX11_bake (p0 : Int32) (σ : xSt) : Option (xO × xSt) := (xct (fX11_needDough p0 σ) fun r1 σ2 => (xc2 (fX11_isForOven p0 σ2) fun r3 σ4 => (if r3 = 0 then fX11_bake_c33 p0 σ4 else (xr σ4 13 20 p0 fun v5 => (xc2 (fX11_isOvenFor v5 σ4) fun r6 σ7 => (if r6 = 0 then fX11_bake_c33 p0 σ7 else fX11_bake_c34 p0 1 σ7))))))
abbrev rmX11_bake : Room := { frames := 8, cells := 2, slots := 12, locals := 139 }
set_option maxRecDepth 100000 in
set_option maxHeartbeats 4000000 in
theorem mX11_bake {l : Launch} (hl0 : l.stackTraces = false) {E : xE} (hE : E.sh = shX) (p0 : Int32) (σ : xSt) (o1 : xO) (o2 : xSt) (hf : fX11_bake p0 σ = some (o1, o2)) : xMt l yX11_bake wsX11_bake rmX11_bake E [.ref (E.a 0), .int p0] σ o1 o2 2 := by
  unfold fX11_bake at hf
  refine xMt_of (cc := cX11_bake) (maxL := 2) (ret := (some .int)) (by decide) rfl (Nat.le_of_ble_eq_true rfl) ?_
  intro p e s m args below meth c A ls ⟨hx, hb, hr, hml, hown, hts, hlk⟩ hA hG hw hl hex
  have hown : s.vm.findClass RX11 = some m.cls := hown
  have hl : lv_has ls 2 [(0, .ref (E.a 0)), (1, .int p0)] := hl
  have hk36 := hts (.fieldLink RX11 36 "OvenRound" "doughs" "LOvenRound$Doughs;") (by decide +kernel)
  have hiX11 : ∀ w ∈ wsX110, w ∈ wsX11_bake := by decide +kernel
  have hk216 := hts (.fieldLink RX11 216 "OvenRound$Doughs" "recipe" "[I") (by decide +kernel)
  have hiX2 : ∀ w ∈ wsX20, w ∈ wsX11_bake := by decide +kernel
  have hk207 := hts (.fieldLink RX11 207 "OvenRound$Doughs" "state" "[I") (by decide +kernel)
  have hk223 := hts (.fieldLink RX11 223 "OvenRound$Doughs" "ovenAt" "[I") (by decide +kernel)
  have hk41 := hts (.fieldLink RX11 41 "OvenRound" "oven" "LOvenRound$Oven;") (by decide +kernel)
  have hk186 := hts (.fieldLink RX11 186 "OvenRound$Oven" "tick" "I") (by decide +kernel)
  have hiX5 : ∀ w ∈ wsX50, w ∈ wsX11_bake := by decide +kernel
  have h34 : ∀ (a1 : Int32) (t0 : Int32) (σ : xSt) (H : Heap) (locs : List Loc) (ls : Array Slot), xw E A s.heap s σ H locs → lv_has ls 2 [(0, .ref (E.a 0)), (1, .int a1)] → fX11_bake_c34 a1 t0 σ = some (o1, o2) → W p l e rmX11_bake s m args below meth c H locs 1 6 (vx_MQ below (xQt E A o1 o2) (xXt E A o1 o2) args s 2 12 A) (F0 m 34 ls [.int t0]) := by
    intro a1 t0 σ H locs ls hw hl hf
    unfold fX11_bake_c34 at hf
    rcases xct_e hf with ⟨k34, σ9, hcl, hf⟩ | ⟨r8, σ9, hcl, hf⟩
    · refine x_tcallv (vx_runS (As := [.int t0]) (rest := []) ⟨hx, hb, hml, hown, hts⟩ (mX11_needState hl0 t0 σ (.inr k34) σ9 hcl H.size) (va_cwS 1 hts gX11_bake_X11_needState rfl rfl rfl (by decide +kernel) ⟨Nat.le_of_ble_eq_true rfl, Nat.le_of_ble_eq_true rfl⟩) (x_preS _ hw hA hG) rfl rfl hl.1 rfl (lv_room (Nat.le_of_ble_eq_true rfl)) dX11_bake_34 ⟨Nat.le_of_ble_eq_true rfl, Nat.le_of_ble_eq_true rfl⟩) hw hA (fun q9 ce H locs h1 h2 h3 hw => ?_) (fun H locs h1 hw => nomatch h1)
      exact x_tout hlk hex h1 h2 h3 hw hf (Nat.le_of_ble_eq_true rfl) (Nat.le_of_ble_eq_true rfl)
    refine x_tcallv (vx_runS (As := [.int t0]) (rest := []) ⟨hx, hb, hml, hown, hts⟩ (mX11_needState hl0 t0 σ (.inl r8) σ9 hcl H.size) (va_cwS 1 hts gX11_bake_X11_needState rfl rfl rfl (by decide +kernel) ⟨Nat.le_of_ble_eq_true rfl, Nat.le_of_ble_eq_true rfl⟩) (x_preS _ hw hA hG) rfl rfl hl.1 rfl (lv_room (Nat.le_of_ble_eq_true rfl)) dX11_bake_34 ⟨Nat.le_of_ble_eq_true rfl, Nat.le_of_ble_eq_true rfl⟩) hw hA (fun q9 ce H locs h1 h2 h3 hw => by obtain ⟨_, h9, _⟩ := h3; cases h9) (fun H locs h1 hw => ?_)
    clear hcl h1
    refine lv_aload_n hx hb dX11_bake_37 rfl (lv_at hl 0 rfl) ?_
    obtain ⟨σ11, hcl, hf⟩ := xc_e hf
    refine x_callv (va_runV (As := []) (rest := []) ⟨hx, hb, hml, hown, hts⟩ (mX11_remember hE σ9 σ11 hcl H.size) (cwV 0 hts gX11_bake_X11_remember rfl rfl rfl (by decide +kernel) ⟨Nat.le_of_ble_eq_true rfl, Nat.le_of_ble_eq_true rfl⟩) (x_preV _ hw hA hG (cX0 hE) rfl) rfl rfl hl.1 rfl (lv_room (Nat.le_of_ble_eq_true rfl)) dX11_bake_38 ⟨Nat.le_of_ble_eq_true rfl, Nat.le_of_ble_eq_true rfl⟩) hw hA (fun H locs hw => ?_)
    clear hcl
    refine lv_aload_n hx hb dX11_bake_41 rfl (lv_at hl 0 rfl) ?_
    refine x_getr hx hb hw (cX0 hE) (own := RX11) (ref := RX11) (C := RX11) (T := TX11) (N := 14) hts hiX11 hown rfl 2 (by decide) hk36 (fun _ h9 => h9) rfl dX11_bake_42 ?_
    refine x_getr hx hb hw (cX12 hE) (own := RX11) (ref := RX2) (C := RX2) (T := TX2) (N := 8) hts hiX2 hown rfl 4 (by decide) hk207 (fun _ h9 => h9) rfl dX11_bake_45 ?_
    refine lv_iload_n hx hb dX11_bake_48 rfl (lv_at hl 1 rfl) ?_
    refine lv_iconst (v := 2) hx hb dX11_bake_49 (by decide) ?_
    obtain ⟨hin, hf⟩ := xs_f hf
    refine x_iast hx hb hw (cX17 hE) hin dX11_bake_50 (fun σ12 H locs ex hw => ?_)
    replace hf := hf σ12 ex
    clear ex hin
    refine lv_aload_n hx hb dX11_bake_51 rfl (lv_at hl 0 rfl) ?_
    refine x_getr hx hb hw (cX0 hE) (own := RX11) (ref := RX11) (C := RX11) (T := TX11) (N := 14) hts hiX11 hown rfl 2 (by decide) hk36 (fun _ h9 => h9) rfl dX11_bake_52 ?_
    refine x_getr hx hb hw (cX12 hE) (own := RX11) (ref := RX2) (C := RX2) (T := TX2) (N := 8) hts hiX2 hown rfl 6 (by decide) hk223 (fun _ h9 => h9) rfl dX11_bake_55 ?_
    refine lv_iload_n hx hb dX11_bake_58 rfl (lv_at hl 1 rfl) ?_
    refine lv_aload_n hx hb dX11_bake_59 rfl (lv_at hl 0 rfl) ?_
    refine x_getr hx hb hw (cX0 hE) (own := RX11) (ref := RX11) (C := RX11) (T := TX11) (N := 14) hts hiX11 hown rfl 3 (by decide) hk41 (fun _ h9 => h9) rfl dX11_bake_60 ?_
    refine x_geti hx hb hw (cX20 hE) (own := RX11) (ref := RX5) (C := RX5) (T := TX5) (N := 5) hts hiX5 hown rfl 0 (by decide) hk186 (fun _ h9 => h9) rfl dX11_bake_63 ?_
    obtain ⟨hin, hf⟩ := xs_f hf
    refine x_iast hx hb hw (cX19 hE) hin dX11_bake_66 (fun σ13 H locs ex hw => ?_)
    replace hf := hf σ13 ex
    clear ex hin
    refine lv_aload_n hx hb dX11_bake_67 rfl (lv_at hl 0 rfl) ?_
    refine x_getr hx hb hw (cX0 hE) (own := RX11) (ref := RX11) (C := RX11) (T := TX11) (N := 14) hts hiX11 hown rfl 3 (by decide) hk41 (fun _ h9 => h9) rfl dX11_bake_68 ?_
    refine x_geti hx hb hw (cX20 hE) (own := RX11) (ref := RX5) (C := RX5) (T := TX5) (N := 5) hts hiX5 hown rfl 0 (by decide) hk186 (fun _ h9 => h9) rfl dX11_bake_71 ?_
    refine lv_bipush (v := 10) hx hb dX11_bake_74 (by decide) ?_
    refine lv_iadd hx hb dX11_bake_76 ?_
    exact x_tiret hx hb hr hlk hw hf (Nat.le_of_ble_eq_true rfl) (Nat.le_of_ble_eq_true rfl) dX11_bake_77
  have h33 : ∀ (a1 : Int32) (σ : xSt) (H : Heap) (locs : List Loc) (ls : Array Slot), xw E A s.heap s σ H locs → lv_has ls 2 [(0, .ref (E.a 0)), (1, .int a1)] → fX11_bake_c33 a1 σ = some (o1, o2) → W p l e rmX11_bake s m args below meth c H locs 1 6 (vx_MQ below (xQt E A o1 o2) (xXt E A o1 o2) args s 2 12 A) (F0 m 33 ls []) := by
    intro a1 σ H locs ls hw hl hf
    unfold fX11_bake_c33 at hf
    refine lv_iconst (v := 0) hx hb dX11_bake_33 (by decide) ?_
    exact h34 a1 0 σ _ _ _ hw (lv_sub hl [0, 1] rfl) hf
  refine lv_aload_n hx hb dX11_bake_0 rfl (lv_at hl 0 rfl) ?_
  refine lv_iload_n hx hb dX11_bake_1 rfl (lv_at hl 1 rfl) ?_
  rcases xct_e hf with ⟨k2, σ2, hcl, hf⟩ | ⟨r1, σ2, hcl, hf⟩
  · refine x_tcallv (vx_runV (As := [.int p0]) (rest := []) ⟨hx, hb, hml, hown, hts⟩ (mX11_needDough hl0 hE p0 σ (.inr k2) σ2 hcl s.heap.size) (cwV 1 hts gX11_bake_X11_needDough rfl rfl rfl (by decide +kernel) ⟨Nat.le_of_ble_eq_true rfl, Nat.le_of_ble_eq_true rfl⟩) (x_preV _ hw hA hG (cX0 hE) rfl) rfl rfl hl.1 rfl (lv_room (Nat.le_of_ble_eq_true rfl)) dX11_bake_2 ⟨Nat.le_of_ble_eq_true rfl, Nat.le_of_ble_eq_true rfl⟩) hw hA (fun q9 ce H locs h1 h2 h3 hw => ?_) (fun H locs h1 hw => nomatch h1)
    exact x_tout hlk hex h1 h2 h3 hw hf (Nat.le_of_ble_eq_true rfl) (Nat.le_of_ble_eq_true rfl)
  refine x_tcallv (vx_runV (As := [.int p0]) (rest := []) ⟨hx, hb, hml, hown, hts⟩ (mX11_needDough hl0 hE p0 σ (.inl r1) σ2 hcl s.heap.size) (cwV 1 hts gX11_bake_X11_needDough rfl rfl rfl (by decide +kernel) ⟨Nat.le_of_ble_eq_true rfl, Nat.le_of_ble_eq_true rfl⟩) (x_preV _ hw hA hG (cX0 hE) rfl) rfl rfl hl.1 rfl (lv_room (Nat.le_of_ble_eq_true rfl)) dX11_bake_2 ⟨Nat.le_of_ble_eq_true rfl, Nat.le_of_ble_eq_true rfl⟩) hw hA (fun q9 ce H locs h1 h2 h3 hw => by obtain ⟨_, h9, _⟩ := h3; cases h9) (fun H locs h1 hw => ?_)
  clear hcl h1
  refine lv_aload_n hx hb dX11_bake_5 rfl (lv_at hl 0 rfl) ?_
  refine lv_iload_n hx hb dX11_bake_6 rfl (lv_at hl 1 rfl) ?_
  obtain ⟨r3, σ4, hcl, hf⟩ := xc2_f hf
  refine x_calli (va_runV (As := [.int p0]) (rest := []) ⟨hx, hb, hml, hown, hts⟩ (mX11_isForOven hE p0 σ2 r3 σ4 hcl H.size) (cwV 1 hts gX11_bake_X11_isForOven rfl rfl rfl (by decide +kernel) ⟨Nat.le_of_ble_eq_true rfl, Nat.le_of_ble_eq_true rfl⟩) (x_preV _ hw hA hG (cX0 hE) rfl) rfl rfl hl.1 rfl (lv_room (Nat.le_of_ble_eq_true rfl)) dX11_bake_7 ⟨Nat.le_of_ble_eq_true rfl, Nat.le_of_ble_eq_true rfl⟩) hw hA (fun H locs hw => ?_)
  clear hcl
  refine lv_if_eq (tgt := 33) hx hb dX11_bake_10 (by decide) (fun c10 => ?_) (fun c10 => ?_)
  · replace hf := xif_pos c10 hf
    exact h33 p0 σ4 _ _ _ hw (lv_sub hl [0, 1] rfl) hf
  · replace hf := xif_neg c10 hf
    refine lv_aload_n hx hb dX11_bake_13 rfl (lv_at hl 0 rfl) ?_
    refine lv_aload_n hx hb dX11_bake_14 rfl (lv_at hl 0 rfl) ?_
    refine x_getr hx hb hw (cX0 hE) (own := RX11) (ref := RX11) (C := RX11) (T := TX11) (N := 14) hts hiX11 hown rfl 2 (by decide) hk36 (fun _ h9 => h9) rfl dX11_bake_15 ?_
    refine x_getr hx hb hw (cX12 hE) (own := RX11) (ref := RX2) (C := RX2) (T := TX2) (N := 8) hts hiX2 hown rfl 0 (by decide) hk216 (fun _ h9 => h9) rfl dX11_bake_18 ?_
    refine lv_iload_n hx hb dX11_bake_21 rfl (lv_at hl 1 rfl) ?_
    obtain ⟨hin, hf⟩ := xr_f hf
    refine x_iald hx hb hw (cX13 hE) hin dX11_bake_22 ?_
    refine lv_topi (fun v5 ex => ?_)
    replace hf := hf v5 ex
    clear ex hin
    obtain ⟨r6, σ7, hcl, hf⟩ := xc2_f hf
    refine x_calli (va_runV (As := [.int v5]) (rest := []) ⟨hx, hb, hml, hown, hts⟩ (mX11_isOvenFor hE v5 σ4 r6 σ7 hcl H.size) (cwV 1 hts gX11_bake_X11_isOvenFor rfl rfl rfl (by decide +kernel) ⟨Nat.le_of_ble_eq_true rfl, Nat.le_of_ble_eq_true rfl⟩) (x_preV _ hw hA hG (cX0 hE) rfl) rfl rfl hl.1 rfl (lv_room (Nat.le_of_ble_eq_true rfl)) dX11_bake_23 ⟨Nat.le_of_ble_eq_true rfl, Nat.le_of_ble_eq_true rfl⟩) hw hA (fun H locs hw => ?_)
    clear hcl
    refine lv_if_eq (tgt := 33) hx hb dX11_bake_26 (by decide) (fun c26 => ?_) (fun c26 => ?_)
    · replace hf := xif_pos c26 hf
      exact h33 p0 σ7 _ _ _ hw (lv_sub hl [0, 1] rfl) hf
    · replace hf := xif_neg c26 hf
      refine lv_iconst (v := 1) hx hb dX11_bake_29 (by decide) ?_
      refine lv_goto (tgt := 34) hx hb dX11_bake_30 (by decide) ?_
      exact h34 p0 1 σ7 _ _ _ hw (lv_sub hl [0, 1] rfl) hf

def fX11_planned (p0 : Int32) (σ : xSt) : Option (xO × xSt) := (xct (fX11_needDough p0 σ) fun r1 σ2 => (xc (fX7_make σ2) fun σ4 => (xr σ4 24 20 p0 fun v5 => some ((.inl v5 : xO), σ4))))
abbrev rmX11_planned : Room := { frames := 8, cells := 1, slots := 6, locals := 131 }
set_option maxRecDepth 100000 in
set_option maxHeartbeats 4000000 in
theorem mX11_planned {l : Launch} (hl0 : l.stackTraces = false) {E : xE} (hE : E.sh = shX) (p0 : Int32) (σ : xSt) (o1 : xO) (o2 : xSt) (hf : fX11_planned p0 σ = some (o1, o2)) : xMt l yX11_planned wsX11_planned rmX11_planned E [.ref (E.a 0), .int p0] σ o1 o2 1 := by
  unfold fX11_planned at hf
  refine xMt_of (cc := cX11_planned) (maxL := 2) (ret := (some .int)) (by decide) rfl (Nat.le_of_ble_eq_true rfl) ?_
  intro p e s m args below meth c A ls ⟨hx, hb, hr, hml, hown, hts, hlk⟩ hA hG hw hl hex
  have hown : s.vm.findClass RX11 = some m.cls := hown
  have hl : lv_has ls 2 [(0, .ref (E.a 0)), (1, .int p0)] := hl
  have hk50 := hts (.fieldLink RX11 50 "OvenRound" "plan" "LOvenRound$Plan;") (by decide +kernel)
  have hiX11 : ∀ w ∈ wsX110, w ∈ wsX11_planned := by decide +kernel
  have hk249 := hts (.fieldLink RX11 249 "OvenRound$Plan" "round" "[I") (by decide +kernel)
  have hiX7 : ∀ w ∈ wsX70, w ∈ wsX11_planned := by decide +kernel
  refine lv_aload_n hx hb dX11_planned_0 rfl (lv_at hl 0 rfl) ?_
  refine lv_iload_n hx hb dX11_planned_1 rfl (lv_at hl 1 rfl) ?_
  rcases xct_e hf with ⟨k2, σ2, hcl, hf⟩ | ⟨r1, σ2, hcl, hf⟩
  · refine x_tcallv (vx_runV (As := [.int p0]) (rest := []) ⟨hx, hb, hml, hown, hts⟩ (mX11_needDough hl0 hE p0 σ (.inr k2) σ2 hcl s.heap.size) (cwV 1 hts gX11_planned_X11_needDough rfl rfl rfl (by decide +kernel) ⟨Nat.le_of_ble_eq_true rfl, Nat.le_of_ble_eq_true rfl⟩) (x_preV _ hw hA hG (cX0 hE) rfl) rfl rfl hl.1 rfl (lv_room (Nat.le_of_ble_eq_true rfl)) dX11_planned_2 ⟨Nat.le_of_ble_eq_true rfl, Nat.le_of_ble_eq_true rfl⟩) hw hA (fun q9 ce H locs h1 h2 h3 hw => ?_) (fun H locs h1 hw => nomatch h1)
    exact x_tout hlk hex h1 h2 h3 hw hf (Nat.le_of_ble_eq_true rfl) (Nat.le_of_ble_eq_true rfl)
  refine x_tcallv (vx_runV (As := [.int p0]) (rest := []) ⟨hx, hb, hml, hown, hts⟩ (mX11_needDough hl0 hE p0 σ (.inl r1) σ2 hcl s.heap.size) (cwV 1 hts gX11_planned_X11_needDough rfl rfl rfl (by decide +kernel) ⟨Nat.le_of_ble_eq_true rfl, Nat.le_of_ble_eq_true rfl⟩) (x_preV _ hw hA hG (cX0 hE) rfl) rfl rfl hl.1 rfl (lv_room (Nat.le_of_ble_eq_true rfl)) dX11_planned_2 ⟨Nat.le_of_ble_eq_true rfl, Nat.le_of_ble_eq_true rfl⟩) hw hA (fun q9 ce H locs h1 h2 h3 hw => by obtain ⟨_, h9, _⟩ := h3; cases h9) (fun H locs h1 hw => ?_)
  clear hcl h1
  refine lv_aload_n hx hb dX11_planned_5 rfl (lv_at hl 0 rfl) ?_
  refine x_getr hx hb hw (cX0 hE) (own := RX11) (ref := RX11) (C := RX11) (T := TX11) (N := 14) hts hiX11 hown rfl 4 (by decide) hk50 (fun _ h9 => h9) rfl dX11_planned_6 ?_
  obtain ⟨σ4, hcl, hf⟩ := xc_e hf
  refine x_callv (va_runV (As := []) (rest := []) ⟨hx, hb, hml, hown, hts⟩ (mX7_make hE σ2 σ4 hcl H.size) (cwV 0 hts gX11_planned_X7_make rfl rfl rfl (by decide +kernel) ⟨Nat.le_of_ble_eq_true rfl, Nat.le_of_ble_eq_true rfl⟩) (x_preV _ hw hA hG (cX21 hE) rfl) rfl rfl hl.1 rfl (lv_room (Nat.le_of_ble_eq_true rfl)) dX11_planned_9 ⟨Nat.le_of_ble_eq_true rfl, Nat.le_of_ble_eq_true rfl⟩) hw hA (fun H locs hw => ?_)
  clear hcl
  refine lv_aload_n hx hb dX11_planned_12 rfl (lv_at hl 0 rfl) ?_
  refine x_getr hx hb hw (cX0 hE) (own := RX11) (ref := RX11) (C := RX11) (T := TX11) (N := 14) hts hiX11 hown rfl 4 (by decide) hk50 (fun _ h9 => h9) rfl dX11_planned_13 ?_
  refine x_getr hx hb hw (cX21 hE) (own := RX11) (ref := RX7) (C := RX7) (T := TX7) (N := 8) hts hiX7 hown rfl 5 (by decide) hk249 (fun _ h9 => h9) rfl dX11_planned_16 ?_
  refine lv_iload_n hx hb dX11_planned_19 rfl (lv_at hl 1 rfl) ?_
  obtain ⟨hin, hf⟩ := xr_f hf
  refine x_iald hx hb hw (cX24 hE) hin dX11_planned_20 ?_
  refine lv_topi (fun v5 ex => ?_)
  replace hf := hf v5 ex
  clear ex hin
  exact x_tiret hx hb hr hlk hw hf (Nat.le_of_ble_eq_true rfl) (Nat.le_of_ble_eq_true rfl) dX11_planned_21

def fX11_inPlan (σ : xSt) : Option (Int32 × xSt) := (xc (fX7_make σ) fun σ2 => (xc2 (fX7_doughsInPlan σ2) fun r3 σ4 => some (r3, σ4)))
abbrev rmX11_inPlan : Room := { frames := 5, cells := 0, slots := 0, locals := 109 }
set_option maxRecDepth 100000 in
set_option maxHeartbeats 4000000 in
theorem mX11_inPlan {l : Launch} {E : xE} (hE : E.sh = shX) (σ : xSt) (o1 : Int32) (o2 : xSt) (hf : fX11_inPlan σ = some (o1, o2)) : xMi l yX11_inPlan wsX11_inPlan rmX11_inPlan E [.ref (E.a 0)] σ o1 o2 := by
  unfold fX11_inPlan at hf
  refine xMi_of (cc := cX11_inPlan) (maxL := 1) (ret := (some .int)) (by decide) rfl (Nat.le_of_ble_eq_true rfl) ?_
  intro p e s m args below meth c A ls ⟨hx, hb, hr, hml, hown, hts, hlk⟩ hA hG hw hl
  have hown : s.vm.findClass RX11 = some m.cls := hown
  have hl : lv_has ls 1 [(0, .ref (E.a 0))] := hl
  have hk50 := hts (.fieldLink RX11 50 "OvenRound" "plan" "LOvenRound$Plan;") (by decide +kernel)
  have hiX11 : ∀ w ∈ wsX110, w ∈ wsX11_inPlan := by decide +kernel
  refine lv_aload_n hx hb dX11_inPlan_0 rfl (lv_at hl 0 rfl) ?_
  refine x_getr hx hb hw (cX0 hE) (own := RX11) (ref := RX11) (C := RX11) (T := TX11) (N := 14) hts hiX11 hown rfl 4 (by decide) hk50 (fun _ h9 => h9) rfl dX11_inPlan_1 ?_
  obtain ⟨σ2, hcl, hf⟩ := xc_e hf
  refine x_callv (va_runV (As := []) (rest := []) ⟨hx, hb, hml, hown, hts⟩ (mX7_make hE σ σ2 hcl s.heap.size) (cwV 0 hts gX11_inPlan_X7_make rfl rfl rfl (by decide +kernel) ⟨Nat.le_of_ble_eq_true rfl, Nat.le_of_ble_eq_true rfl⟩) (x_preV _ hw hA hG (cX21 hE) rfl) rfl rfl hl.1 rfl (lv_room (Nat.le_of_ble_eq_true rfl)) dX11_inPlan_4 ⟨Nat.le_of_ble_eq_true rfl, Nat.le_of_ble_eq_true rfl⟩) hw hA (fun H locs hw => ?_)
  clear hcl
  refine lv_aload_n hx hb dX11_inPlan_7 rfl (lv_at hl 0 rfl) ?_
  refine x_getr hx hb hw (cX0 hE) (own := RX11) (ref := RX11) (C := RX11) (T := TX11) (N := 14) hts hiX11 hown rfl 4 (by decide) hk50 (fun _ h9 => h9) rfl dX11_inPlan_8 ?_
  obtain ⟨r3, σ4, hcl, hf⟩ := xc2_f hf
  refine x_calli (va_runV (As := []) (rest := []) ⟨hx, hb, hml, hown, hts⟩ (mX7_doughsInPlan hE σ2 r3 σ4 hcl H.size) (cwV 0 hts gX11_inPlan_X7_doughsInPlan rfl rfl rfl (by decide +kernel) ⟨Nat.le_of_ble_eq_true rfl, Nat.le_of_ble_eq_true rfl⟩) (x_preV _ hw hA hG (cX21 hE) rfl) rfl rfl hl.1 rfl (lv_room (Nat.le_of_ble_eq_true rfl)) dX11_inPlan_11 ⟨Nat.le_of_ble_eq_true rfl, Nat.le_of_ble_eq_true rfl⟩) hw hA (fun H locs hw => ?_)
  clear hcl
  exact x_iret hx hb hr hlk hw hf dX11_inPlan_14

def fX11_late (σ : xSt) : Option (Int32 × xSt) := (xc (fX7_make σ) fun σ2 => (xc2 (fX7_doughsWithoutRound σ2) fun r3 σ4 => some (r3, σ4)))
abbrev rmX11_late : Room := { frames := 5, cells := 0, slots := 0, locals := 109 }
set_option maxRecDepth 100000 in
set_option maxHeartbeats 4000000 in
theorem mX11_late {l : Launch} {E : xE} (hE : E.sh = shX) (σ : xSt) (o1 : Int32) (o2 : xSt) (hf : fX11_late σ = some (o1, o2)) : xMi l yX11_late wsX11_late rmX11_late E [.ref (E.a 0)] σ o1 o2 := by
  unfold fX11_late at hf
  refine xMi_of (cc := cX11_late) (maxL := 1) (ret := (some .int)) (by decide) rfl (Nat.le_of_ble_eq_true rfl) ?_
  intro p e s m args below meth c A ls ⟨hx, hb, hr, hml, hown, hts, hlk⟩ hA hG hw hl
  have hown : s.vm.findClass RX11 = some m.cls := hown
  have hl : lv_has ls 1 [(0, .ref (E.a 0))] := hl
  have hk50 := hts (.fieldLink RX11 50 "OvenRound" "plan" "LOvenRound$Plan;") (by decide +kernel)
  have hiX11 : ∀ w ∈ wsX110, w ∈ wsX11_late := by decide +kernel
  refine lv_aload_n hx hb dX11_late_0 rfl (lv_at hl 0 rfl) ?_
  refine x_getr hx hb hw (cX0 hE) (own := RX11) (ref := RX11) (C := RX11) (T := TX11) (N := 14) hts hiX11 hown rfl 4 (by decide) hk50 (fun _ h9 => h9) rfl dX11_late_1 ?_
  obtain ⟨σ2, hcl, hf⟩ := xc_e hf
  refine x_callv (va_runV (As := []) (rest := []) ⟨hx, hb, hml, hown, hts⟩ (mX7_make hE σ σ2 hcl s.heap.size) (cwV 0 hts gX11_late_X7_make rfl rfl rfl (by decide +kernel) ⟨Nat.le_of_ble_eq_true rfl, Nat.le_of_ble_eq_true rfl⟩) (x_preV _ hw hA hG (cX21 hE) rfl) rfl rfl hl.1 rfl (lv_room (Nat.le_of_ble_eq_true rfl)) dX11_late_4 ⟨Nat.le_of_ble_eq_true rfl, Nat.le_of_ble_eq_true rfl⟩) hw hA (fun H locs hw => ?_)
  clear hcl
  refine lv_aload_n hx hb dX11_late_7 rfl (lv_at hl 0 rfl) ?_
  refine x_getr hx hb hw (cX0 hE) (own := RX11) (ref := RX11) (C := RX11) (T := TX11) (N := 14) hts hiX11 hown rfl 4 (by decide) hk50 (fun _ h9 => h9) rfl dX11_late_8 ?_
  obtain ⟨r3, σ4, hcl, hf⟩ := xc2_f hf
  refine x_calli (va_runV (As := []) (rest := []) ⟨hx, hb, hml, hown, hts⟩ (mX7_doughsWithoutRound hE σ2 r3 σ4 hcl H.size) (cwV 0 hts gX11_late_X7_doughsWithoutRound rfl rfl rfl (by decide +kernel) ⟨Nat.le_of_ble_eq_true rfl, Nat.le_of_ble_eq_true rfl⟩) (x_preV _ hw hA hG (cX21 hE) rfl) rfl rfl hl.1 rfl (lv_room (Nat.le_of_ble_eq_true rfl)) dX11_late_11 ⟨Nat.le_of_ble_eq_true rfl, Nat.le_of_ble_eq_true rfl⟩) hw hA (fun H locs hw => ?_)
  clear hcl
  exact x_iret hx hb hr hlk hw hf dX11_late_14

def fX11_breads (p0 : Int32) (p1 : Int32) (σ : xSt) : Option (xO × xSt) := (xct (fX11_needRecipe p0 σ) fun r1 σ2 => (xc2 (fX11_isWithin p1 0 3 σ2) fun r3 σ4 => (xct (fX11_needArgument r3 σ4) fun r5 σ6 => (xr σ6 28 24 ((p0 * 4) + p1) fun v7 => some ((.inl v7 : xO), σ6)))))
abbrev rmX11_breads : Room := { frames := 8, cells := 2, slots := 12, locals := 131 }
set_option maxRecDepth 100000 in
set_option maxHeartbeats 4000000 in
theorem mX11_breads {l : Launch} (hl0 : l.stackTraces = false) {E : xE} (hE : E.sh = shX) (p0 : Int32) (p1 : Int32) (σ : xSt) (o1 : xO) (o2 : xSt) (hf : fX11_breads p0 p1 σ = some (o1, o2)) : xMt l yX11_breads wsX11_breads rmX11_breads E [.ref (E.a 0), .int p0, .int p1] σ o1 o2 2 := by
  unfold fX11_breads at hf
  refine xMt_of (cc := cX11_breads) (maxL := 3) (ret := (some .int)) (by decide) rfl (Nat.le_of_ble_eq_true rfl) ?_
  intro p e s m args below meth c A ls ⟨hx, hb, hr, hml, hown, hts, hlk⟩ hA hG hw hl hex
  have hown : s.vm.findClass RX11 = some m.cls := hown
  have hl : lv_has ls 3 [(0, .ref (E.a 0)), (1, .int p0), (2, .int p1)] := hl
  have hk55 := hts (.fieldLink RX11 55 "OvenRound" "breads" "LOvenRound$Breads;") (by decide +kernel)
  have hiX11 : ∀ w ∈ wsX110, w ∈ wsX11_breads := by decide +kernel
  have hk258 := hts (.fieldLink RX11 258 "OvenRound$Breads" "pieces" "[I") (by decide +kernel)
  have hiX0 : ∀ w ∈ wsX00, w ∈ wsX11_breads := by decide +kernel
  refine lv_aload_n hx hb dX11_breads_0 rfl (lv_at hl 0 rfl) ?_
  refine lv_iload_n hx hb dX11_breads_1 rfl (lv_at hl 1 rfl) ?_
  rcases xct_e hf with ⟨k2, σ2, hcl, hf⟩ | ⟨r1, σ2, hcl, hf⟩
  · refine x_tcallv (vx_runV (As := [.int p0]) (rest := []) ⟨hx, hb, hml, hown, hts⟩ (mX11_needRecipe hl0 hE p0 σ (.inr k2) σ2 hcl s.heap.size) (cwV 1 hts gX11_breads_X11_needRecipe rfl rfl rfl (by decide +kernel) ⟨Nat.le_of_ble_eq_true rfl, Nat.le_of_ble_eq_true rfl⟩) (x_preV _ hw hA hG (cX0 hE) rfl) rfl rfl hl.1 rfl (lv_room (Nat.le_of_ble_eq_true rfl)) dX11_breads_2 ⟨Nat.le_of_ble_eq_true rfl, Nat.le_of_ble_eq_true rfl⟩) hw hA (fun q9 ce H locs h1 h2 h3 hw => ?_) (fun H locs h1 hw => nomatch h1)
    exact x_tout hlk hex h1 h2 h3 hw hf (Nat.le_of_ble_eq_true rfl) (Nat.le_of_ble_eq_true rfl)
  refine x_tcallv (vx_runV (As := [.int p0]) (rest := []) ⟨hx, hb, hml, hown, hts⟩ (mX11_needRecipe hl0 hE p0 σ (.inl r1) σ2 hcl s.heap.size) (cwV 1 hts gX11_breads_X11_needRecipe rfl rfl rfl (by decide +kernel) ⟨Nat.le_of_ble_eq_true rfl, Nat.le_of_ble_eq_true rfl⟩) (x_preV _ hw hA hG (cX0 hE) rfl) rfl rfl hl.1 rfl (lv_room (Nat.le_of_ble_eq_true rfl)) dX11_breads_2 ⟨Nat.le_of_ble_eq_true rfl, Nat.le_of_ble_eq_true rfl⟩) hw hA (fun q9 ce H locs h1 h2 h3 hw => by obtain ⟨_, h9, _⟩ := h3; cases h9) (fun H locs h1 hw => ?_)
  clear hcl h1
  refine lv_iload_n hx hb dX11_breads_5 rfl (lv_at hl 2 rfl) ?_
  refine lv_iconst (v := 0) hx hb dX11_breads_6 (by decide) ?_
  refine lv_iconst (v := 3) hx hb dX11_breads_7 (by decide) ?_
  obtain ⟨r3, σ4, hcl, hf⟩ := xc2_f hf
  refine x_calli (va_runS (As := [.int p1, .int 0, .int 3]) (rest := []) ⟨hx, hb, hml, hown, hts⟩ (mX11_isWithin hE p1 0 3 σ2 r3 σ4 hcl H.size) (va_cwS 3 hts gX11_breads_X11_isWithin rfl rfl rfl (by decide +kernel) ⟨Nat.le_of_ble_eq_true rfl, Nat.le_of_ble_eq_true rfl⟩) (x_preS _ hw hA hG) rfl rfl hl.1 rfl (lv_room (Nat.le_of_ble_eq_true rfl)) dX11_breads_8 ⟨Nat.le_of_ble_eq_true rfl, Nat.le_of_ble_eq_true rfl⟩) hw hA (fun H locs hw => ?_)
  clear hcl
  rcases xct_e hf with ⟨k11, σ6, hcl, hf⟩ | ⟨r5, σ6, hcl, hf⟩
  · refine x_tcallv (vx_runS (As := [.int r3]) (rest := []) ⟨hx, hb, hml, hown, hts⟩ (mX11_needArgument hl0 r3 σ4 (.inr k11) σ6 hcl H.size) (va_cwS 1 hts gX11_breads_X11_needArgument rfl rfl rfl (by decide +kernel) ⟨Nat.le_of_ble_eq_true rfl, Nat.le_of_ble_eq_true rfl⟩) (x_preS _ hw hA hG) rfl rfl hl.1 rfl (lv_room (Nat.le_of_ble_eq_true rfl)) dX11_breads_11 ⟨Nat.le_of_ble_eq_true rfl, Nat.le_of_ble_eq_true rfl⟩) hw hA (fun q9 ce H locs h1 h2 h3 hw => ?_) (fun H locs h1 hw => nomatch h1)
    exact x_tout hlk hex h1 h2 h3 hw hf (Nat.le_of_ble_eq_true rfl) (Nat.le_of_ble_eq_true rfl)
  refine x_tcallv (vx_runS (As := [.int r3]) (rest := []) ⟨hx, hb, hml, hown, hts⟩ (mX11_needArgument hl0 r3 σ4 (.inl r5) σ6 hcl H.size) (va_cwS 1 hts gX11_breads_X11_needArgument rfl rfl rfl (by decide +kernel) ⟨Nat.le_of_ble_eq_true rfl, Nat.le_of_ble_eq_true rfl⟩) (x_preS _ hw hA hG) rfl rfl hl.1 rfl (lv_room (Nat.le_of_ble_eq_true rfl)) dX11_breads_11 ⟨Nat.le_of_ble_eq_true rfl, Nat.le_of_ble_eq_true rfl⟩) hw hA (fun q9 ce H locs h1 h2 h3 hw => by obtain ⟨_, h9, _⟩ := h3; cases h9) (fun H locs h1 hw => ?_)
  clear hcl h1
  refine lv_aload_n hx hb dX11_breads_14 rfl (lv_at hl 0 rfl) ?_
  refine x_getr hx hb hw (cX0 hE) (own := RX11) (ref := RX11) (C := RX11) (T := TX11) (N := 14) hts hiX11 hown rfl 5 (by decide) hk55 (fun _ h9 => h9) rfl dX11_breads_15 ?_
  refine x_getr hx hb hw (cX27 hE) (own := RX11) (ref := RX0) (C := RX0) (T := TX0) (N := 1) hts hiX0 hown rfl 0 (by decide) hk258 (fun _ h9 => h9) rfl dX11_breads_18 ?_
  refine lv_iload_n hx hb dX11_breads_21 rfl (lv_at hl 1 rfl) ?_
  refine lv_iconst (v := 4) hx hb dX11_breads_22 (by decide) ?_
  refine lv_imul hx hb dX11_breads_23 ?_
  refine lv_iload_n hx hb dX11_breads_24 rfl (lv_at hl 2 rfl) ?_
  refine lv_iadd hx hb dX11_breads_25 ?_
  obtain ⟨hin, hf⟩ := xr_f hf
  refine x_iald hx hb hw (cX28 hE) hin dX11_breads_26 ?_
  refine lv_topi (fun v7 ex => ?_)
  replace hf := hf v7 ex
  clear ex hin
  exact x_tiret hx hb hr hlk hw hf (Nat.le_of_ble_eq_true rfl) (Nat.le_of_ble_eq_true rfl) dX11_breads_27

def fX11_endDay_c8 : Nat → Int32 → Int32 → xSt → Option (Int32 × xSt)
  | 0 => fun _ _ _ => none
  | n + 1 => fun a1 a2 σ => (if (σ 4 7) ≤ a2 then some (a1, σ) else (xc2 (fX0_growOlder a2 σ) fun r3 σ4 => (xl (a1 + r3) fun v5 => (xr σ4 5 6 a2 fun v6 => (xp σ4 2 3 ((σ4 2 3) + (r3 * v6)) fun σ7 => (xl (a2 + 1) fun v8 => fX11_endDay_c8 n v5 v8 σ7))))))
theorem fX11_endDay_c8_s (n : Nat) (a1 : Int32) (a2 : Int32) (σ : xSt) : fX11_endDay_c8 (n + 1) a1 a2 σ = ((if (σ 4 7) ≤ a2 then some (a1, σ) else (xc2 (fX0_growOlder a2 σ) fun r3 σ4 => (xl (a1 + r3) fun v5 => (xr σ4 5 6 a2 fun v6 => (xp σ4 2 3 ((σ4 2 3) + (r3 * v6)) fun σ7 => (xl (a2 + 1) fun v8 => fX11_endDay_c8 n v5 v8 σ7)))))) : Option (Int32 × xSt)) := rfl
def fX11_endDay (σ : xSt) : Option (Int32 × xSt) := (xc (fX11_remember σ) fun σ2 => fX11_endDay_c8 xFU 0 0 σ2)
abbrev rmX11_endDay : Room := { frames := 3, cells := 0, slots := 0, locals := 139 }
set_option maxRecDepth 100000 in
set_option maxHeartbeats 4000000 in
theorem mX11_endDay {l : Launch} {E : xE} (hE : E.sh = shX) (σ : xSt) (o1 : Int32) (o2 : xSt) (hf : fX11_endDay σ = some (o1, o2)) : xMi l yX11_endDay wsX11_endDay rmX11_endDay E [.ref (E.a 0)] σ o1 o2 := by
  unfold fX11_endDay at hf
  refine xMi_of (cc := cX11_endDay) (maxL := 4) (ret := (some .int)) (by decide) rfl (Nat.le_of_ble_eq_true rfl) ?_
  intro p e s m args below meth c A ls ⟨hx, hb, hr, hml, hown, hts, hlk⟩ hA hG hw hl
  have hown : s.vm.findClass RX11 = some m.cls := hown
  have hl : lv_has ls 4 [(0, .ref (E.a 0))] := hl
  have hk31 := hts (.fieldLink RX11 31 "OvenRound" "recipes" "LOvenRound$Recipes;") (by decide +kernel)
  have hiX11 : ∀ w ∈ wsX110, w ∈ wsX11_endDay := by decide +kernel
  have hk121 := hts (.fieldLink RX11 121 "OvenRound$Recipes" "count" "I") (by decide +kernel)
  have hiX8 : ∀ w ∈ wsX80, w ∈ wsX11_endDay := by decide +kernel
  have hk55 := hts (.fieldLink RX11 55 "OvenRound" "breads" "LOvenRound$Breads;") (by decide +kernel)
  have hk24 := hts (.fieldLink RX11 24 "OvenRound" "store" "LOvenRound$Store;") (by decide +kernel)
  have hk229 := hts (.fieldLink RX11 229 "OvenRound$Store" "thrown" "I") (by decide +kernel)
  have hiX10 : ∀ w ∈ wsX100, w ∈ wsX11_endDay := by decide +kernel
  have hk124 := hts (.fieldLink RX11 124 "OvenRound$Recipes" "piece" "[I") (by decide +kernel)
  have h8 : ∀ (n : Nat) (a1 : Int32) (a2 : Int32) (σ : xSt) (H : Heap) (locs : List Loc) (ls : Array Slot), xw E A s.heap s σ H locs → lv_has ls 4 [(0, .ref (E.a 0)), (1, .int a1), (2, .int a2)] → fX11_endDay_c8 n a1 a2 σ = some (o1, o2) → W p l e rmX11_endDay s m args below meth c H locs 0 0 (MQ below (xQi E A o1 o2) args s 0 0 A) (F0 m 8 ls []) := by
    intro n8
    induction n8 with
    | zero => intro a1 a2 σ H locs ls hw hl hf; exact nomatch hf
    | succ n8 ih8 =>
      intro a1 a2 σ H locs ls hw hl hf
      rw [fX11_endDay_c8_s] at hf
      refine lv_iload_n hx hb dX11_endDay_8 rfl (lv_at hl 2 rfl) ?_
      refine lv_aload_n hx hb dX11_endDay_9 rfl (lv_at hl 0 rfl) ?_
      refine x_getr hx hb hw (cX0 hE) (own := RX11) (ref := RX11) (C := RX11) (T := TX11) (N := 14) hts hiX11 hown rfl 1 (by decide) hk31 (fun _ h9 => h9) rfl dX11_endDay_10 ?_
      refine x_geti hx hb hw (cX4 hE) (own := RX11) (ref := RX8) (C := RX8) (T := TX8) (N := 8) hts hiX8 hown rfl 7 (by decide) hk121 (fun _ h9 => h9) rfl dX11_endDay_13 ?_
      refine lv_icmp_ge (tgt := 61) hx hb dX11_endDay_16 (by decide) (fun c16 => ?_) (fun c16 => ?_)
      · replace hf := xif_pos c16 hf
        refine lv_iload_n hx hb dX11_endDay_61 rfl (lv_at hl 1 rfl) ?_
        exact x_iret hx hb hr hlk hw hf dX11_endDay_62
      · replace hf := xif_neg c16 hf
        refine lv_aload_n hx hb dX11_endDay_19 rfl (lv_at hl 0 rfl) ?_
        refine x_getr hx hb hw (cX0 hE) (own := RX11) (ref := RX11) (C := RX11) (T := TX11) (N := 14) hts hiX11 hown rfl 5 (by decide) hk55 (fun _ h9 => h9) rfl dX11_endDay_20 ?_
        refine lv_iload_n hx hb dX11_endDay_23 rfl (lv_at hl 2 rfl) ?_
        obtain ⟨r3, σ4, hcl, hf⟩ := xc2_f hf
        refine x_calli (va_runV (As := [.int a2]) (rest := []) ⟨hx, hb, hml, hown, hts⟩ (mX0_growOlder hE a2 σ r3 σ4 hcl H.size) (cwV 1 hts gX11_endDay_X0_growOlder rfl rfl rfl (by decide +kernel) ⟨Nat.le_of_ble_eq_true rfl, Nat.le_of_ble_eq_true rfl⟩) (x_preV _ hw hA hG (cX27 hE) rfl) rfl rfl hl.1 rfl (lv_room (Nat.le_of_ble_eq_true rfl)) dX11_endDay_24 ⟨Nat.le_of_ble_eq_true rfl, Nat.le_of_ble_eq_true rfl⟩) hw hA (fun H locs hw => ?_)
        clear hcl
        refine lv_istore_n (lv' := [(3, .int r3), (0, .ref (E.a 0)), (1, .int a1), (2, .int a2)]) hx hb dX11_endDay_27 rfl hl (by decide) rfl (fun ls hl => ?_)
        refine lv_iload_n hx hb dX11_endDay_28 rfl (lv_at hl 2 rfl) ?_
        refine lv_iload_n hx hb dX11_endDay_29 rfl (lv_at hl 0 rfl) ?_
        refine lv_iadd hx hb dX11_endDay_30 ?_
        refine lv_topi (fun v5 ex => ?_)
        replace hf := xl_f hf v5 ex
        clear ex
        refine lv_istore_n (lv' := [(1, .int v5), (3, .int r3), (0, .ref (E.a 0)), (2, .int a2)]) hx hb dX11_endDay_31 rfl hl (by decide) rfl (fun ls hl => ?_)
        refine lv_aload_n hx hb dX11_endDay_32 rfl (lv_at hl 2 rfl) ?_
        refine x_getr hx hb hw (cX0 hE) (own := RX11) (ref := RX11) (C := RX11) (T := TX11) (N := 14) hts hiX11 hown rfl 0 (by decide) hk24 (fun _ h9 => h9) rfl dX11_endDay_33 ?_
        refine lv_dup hx hb dX11_endDay_36 rfl ?_
        refine x_geti hx hb hw (cX2 hE) (own := RX11) (ref := RX10) (C := RX10) (T := TX10) (N := 4) hts hiX10 hown rfl 3 (by decide) hk229 (fun _ h9 => h9) rfl dX11_endDay_37 ?_
        refine lv_iload_n hx hb dX11_endDay_40 rfl (lv_at hl 1 rfl) ?_
        refine lv_aload_n hx hb dX11_endDay_41 rfl (lv_at hl 2 rfl) ?_
        refine x_getr hx hb hw (cX0 hE) (own := RX11) (ref := RX11) (C := RX11) (T := TX11) (N := 14) hts hiX11 hown rfl 1 (by decide) hk31 (fun _ h9 => h9) rfl dX11_endDay_42 ?_
        refine x_getr hx hb hw (cX4 hE) (own := RX11) (ref := RX8) (C := RX8) (T := TX8) (N := 8) hts hiX8 hown rfl 0 (by decide) hk124 (fun _ h9 => h9) rfl dX11_endDay_45 ?_
        refine lv_iload_n hx hb dX11_endDay_48 rfl (lv_at hl 3 rfl) ?_
        obtain ⟨hin, hf⟩ := xr_f hf
        refine x_iald hx hb hw (cX5 hE) hin dX11_endDay_49 ?_
        refine lv_topi (fun v6 ex => ?_)
        replace hf := hf v6 ex
        clear ex hin
        refine lv_imul hx hb dX11_endDay_50 ?_
        refine lv_iadd hx hb dX11_endDay_51 ?_
        refine x_puti hx hb hw (cX2 hE) (own := RX11) (ref := RX10) (C := RX10) (T := TX10) (N := 4) hts hiX10 tyX10 tyX10_ok nmX10 hown rfl 3 (by decide) hk229 (fun _ h9 => h9) rfl (by decide +kernel) rfl dX11_endDay_52 (fun σ7 H locs ex hw => ?_)
        replace hf := xp_f hf σ7 ex
        clear ex
        obtain ⟨v8, ex⟩ : ∃ y : Int32, y = (a2 + 1) := ⟨_, rfl⟩
        replace hf := xl_f hf v8 ex
        refine lv_iinc (v := v8) (lv' := [(2, .int v8), (1, .int v5), (3, .int r3), (0, .ref (E.a 0))]) hx hb dX11_endDay_55 hl (k := 3) rfl (by rw [ex]; rfl) (by decide) rfl (fun ls hl => ?_)
        clear ex
        refine lv_goto (tgt := 8) hx hb dX11_endDay_58 (by decide) ?_
        exact ih8 v5 v8 σ7 _ _ _ hw (lv_sub hl [3, 1, 0] rfl) hf
  refine lv_aload_n hx hb dX11_endDay_0 rfl (lv_at hl 0 rfl) ?_
  obtain ⟨σ2, hcl, hf⟩ := xc_e hf
  refine x_callv (va_runV (As := []) (rest := []) ⟨hx, hb, hml, hown, hts⟩ (mX11_remember hE σ σ2 hcl s.heap.size) (cwV 0 hts gX11_endDay_X11_remember rfl rfl rfl (by decide +kernel) ⟨Nat.le_of_ble_eq_true rfl, Nat.le_of_ble_eq_true rfl⟩) (x_preV _ hw hA hG (cX0 hE) rfl) rfl rfl hl.1 rfl (lv_room (Nat.le_of_ble_eq_true rfl)) dX11_endDay_1 ⟨Nat.le_of_ble_eq_true rfl, Nat.le_of_ble_eq_true rfl⟩) hw hA (fun H locs hw => ?_)
  clear hcl
  refine lv_iconst (v := 0) hx hb dX11_endDay_4 (by decide) ?_
  refine lv_istore_n (lv' := [(1, .int 0), (0, .ref (E.a 0))]) hx hb dX11_endDay_5 rfl hl (by decide) rfl (fun ls hl => ?_)
  refine lv_iconst (v := 0) hx hb dX11_endDay_6 (by decide) ?_
  refine lv_istore_n (lv' := [(2, .int 0), (1, .int 0), (0, .ref (E.a 0))]) hx hb dX11_endDay_7 rfl hl (by decide) rfl (fun ls hl => ?_)
  exact h8 xFU 0 0 σ2 _ _ _ hw (lv_sub hl [2, 1, 0] rfl) hf

def fX11_sell_c33 (a1 : Int32) (a2 : Int32) (t0 : Int32) (σ : xSt) : Option (xO × xSt) := (xct (fX11_needState t0 σ) fun r9 σ10 => (xc (fX11_remember σ10) fun σ12 => (xr σ12 5 6 a1 fun v13 => (xp σ12 2 2 ((σ12 2 2) + (a2 * v13)) fun σ14 => (xc2 (fX0_takeOldest a1 a2 σ14) fun r15 σ16 => some ((.inl r15 : xO), σ16))))))
def fX11_sell (p0 : Int32) (p1 : Int32) (σ : xSt) : Option (xO × xSt) := (xct (fX11_needRecipe p0 σ) fun r1 σ2 => (xc2 (fX11_isWithin p1 1 99 σ2) fun r3 σ4 => (xct (fX11_needArgument r3 σ4) fun r5 σ6 => (xc2 (fX0_from p0 0 σ6) fun r7 σ8 => (if r7 < p1 then fX11_sell_c33 p0 p1 0 σ8 else fX11_sell_c33 p0 p1 1 σ8)))))
abbrev rmX11_sell : Room := { frames := 8, cells := 3, slots := 18, locals := 139 }
set_option maxRecDepth 100000 in
set_option maxHeartbeats 4000000 in
theorem mX11_sell {l : Launch} (hl0 : l.stackTraces = false) {E : xE} (hE : E.sh = shX) (p0 : Int32) (p1 : Int32) (σ : xSt) (o1 : xO) (o2 : xSt) (hf : fX11_sell p0 p1 σ = some (o1, o2)) : xMt l yX11_sell wsX11_sell rmX11_sell E [.ref (E.a 0), .int p0, .int p1] σ o1 o2 3 := by
  unfold fX11_sell at hf
  refine xMt_of (cc := cX11_sell) (maxL := 3) (ret := (some .int)) (by decide) rfl (Nat.le_of_ble_eq_true rfl) ?_
  intro p e s m args below meth c A ls ⟨hx, hb, hr, hml, hown, hts, hlk⟩ hA hG hw hl hex
  have hown : s.vm.findClass RX11 = some m.cls := hown
  have hl : lv_has ls 3 [(0, .ref (E.a 0)), (1, .int p0), (2, .int p1)] := hl
  have hk55 := hts (.fieldLink RX11 55 "OvenRound" "breads" "LOvenRound$Breads;") (by decide +kernel)
  have hiX11 : ∀ w ∈ wsX110, w ∈ wsX11_sell := by decide +kernel
  have hk24 := hts (.fieldLink RX11 24 "OvenRound" "store" "LOvenRound$Store;") (by decide +kernel)
  have hk266 := hts (.fieldLink RX11 266 "OvenRound$Store" "sold" "I") (by decide +kernel)
  have hiX10 : ∀ w ∈ wsX100, w ∈ wsX11_sell := by decide +kernel
  have hk31 := hts (.fieldLink RX11 31 "OvenRound" "recipes" "LOvenRound$Recipes;") (by decide +kernel)
  have hk124 := hts (.fieldLink RX11 124 "OvenRound$Recipes" "piece" "[I") (by decide +kernel)
  have hiX8 : ∀ w ∈ wsX80, w ∈ wsX11_sell := by decide +kernel
  have h33 : ∀ (a1 : Int32) (a2 : Int32) (t0 : Int32) (σ : xSt) (H : Heap) (locs : List Loc) (ls : Array Slot), xw E A s.heap s σ H locs → lv_has ls 3 [(0, .ref (E.a 0)), (1, .int a1), (2, .int a2)] → fX11_sell_c33 a1 a2 t0 σ = some (o1, o2) → W p l e rmX11_sell s m args below meth c H locs 2 12 (vx_MQ below (xQt E A o1 o2) (xXt E A o1 o2) args s 3 18 A) (F0 m 33 ls [.int t0]) := by
    intro a1 a2 t0 σ H locs ls hw hl hf
    unfold fX11_sell_c33 at hf
    rcases xct_e hf with ⟨k33, σ10, hcl, hf⟩ | ⟨r9, σ10, hcl, hf⟩
    · refine x_tcallv (vx_runS (As := [.int t0]) (rest := []) ⟨hx, hb, hml, hown, hts⟩ (mX11_needState hl0 t0 σ (.inr k33) σ10 hcl H.size) (va_cwS 1 hts gX11_sell_X11_needState rfl rfl rfl (by decide +kernel) ⟨Nat.le_of_ble_eq_true rfl, Nat.le_of_ble_eq_true rfl⟩) (x_preS _ hw hA hG) rfl rfl hl.1 rfl (lv_room (Nat.le_of_ble_eq_true rfl)) dX11_sell_33 ⟨Nat.le_of_ble_eq_true rfl, Nat.le_of_ble_eq_true rfl⟩) hw hA (fun q9 ce H locs h1 h2 h3 hw => ?_) (fun H locs h1 hw => nomatch h1)
      exact x_tout hlk hex h1 h2 h3 hw hf (Nat.le_of_ble_eq_true rfl) (Nat.le_of_ble_eq_true rfl)
    refine x_tcallv (vx_runS (As := [.int t0]) (rest := []) ⟨hx, hb, hml, hown, hts⟩ (mX11_needState hl0 t0 σ (.inl r9) σ10 hcl H.size) (va_cwS 1 hts gX11_sell_X11_needState rfl rfl rfl (by decide +kernel) ⟨Nat.le_of_ble_eq_true rfl, Nat.le_of_ble_eq_true rfl⟩) (x_preS _ hw hA hG) rfl rfl hl.1 rfl (lv_room (Nat.le_of_ble_eq_true rfl)) dX11_sell_33 ⟨Nat.le_of_ble_eq_true rfl, Nat.le_of_ble_eq_true rfl⟩) hw hA (fun q9 ce H locs h1 h2 h3 hw => by obtain ⟨_, h9, _⟩ := h3; cases h9) (fun H locs h1 hw => ?_)
    clear hcl h1
    refine lv_aload_n hx hb dX11_sell_36 rfl (lv_at hl 0 rfl) ?_
    obtain ⟨σ12, hcl, hf⟩ := xc_e hf
    refine x_callv (va_runV (As := []) (rest := []) ⟨hx, hb, hml, hown, hts⟩ (mX11_remember hE σ10 σ12 hcl H.size) (cwV 0 hts gX11_sell_X11_remember rfl rfl rfl (by decide +kernel) ⟨Nat.le_of_ble_eq_true rfl, Nat.le_of_ble_eq_true rfl⟩) (x_preV _ hw hA hG (cX0 hE) rfl) rfl rfl hl.1 rfl (lv_room (Nat.le_of_ble_eq_true rfl)) dX11_sell_37 ⟨Nat.le_of_ble_eq_true rfl, Nat.le_of_ble_eq_true rfl⟩) hw hA (fun H locs hw => ?_)
    clear hcl
    refine lv_aload_n hx hb dX11_sell_40 rfl (lv_at hl 0 rfl) ?_
    refine x_getr hx hb hw (cX0 hE) (own := RX11) (ref := RX11) (C := RX11) (T := TX11) (N := 14) hts hiX11 hown rfl 0 (by decide) hk24 (fun _ h9 => h9) rfl dX11_sell_41 ?_
    refine lv_dup hx hb dX11_sell_44 rfl ?_
    refine x_geti hx hb hw (cX2 hE) (own := RX11) (ref := RX10) (C := RX10) (T := TX10) (N := 4) hts hiX10 hown rfl 2 (by decide) hk266 (fun _ h9 => h9) rfl dX11_sell_45 ?_
    refine lv_iload_n hx hb dX11_sell_48 rfl (lv_at hl 2 rfl) ?_
    refine lv_aload_n hx hb dX11_sell_49 rfl (lv_at hl 0 rfl) ?_
    refine x_getr hx hb hw (cX0 hE) (own := RX11) (ref := RX11) (C := RX11) (T := TX11) (N := 14) hts hiX11 hown rfl 1 (by decide) hk31 (fun _ h9 => h9) rfl dX11_sell_50 ?_
    refine x_getr hx hb hw (cX4 hE) (own := RX11) (ref := RX8) (C := RX8) (T := TX8) (N := 8) hts hiX8 hown rfl 0 (by decide) hk124 (fun _ h9 => h9) rfl dX11_sell_53 ?_
    refine lv_iload_n hx hb dX11_sell_56 rfl (lv_at hl 1 rfl) ?_
    obtain ⟨hin, hf⟩ := xr_f hf
    refine x_iald hx hb hw (cX5 hE) hin dX11_sell_57 ?_
    refine lv_topi (fun v13 ex => ?_)
    replace hf := hf v13 ex
    clear ex hin
    refine lv_imul hx hb dX11_sell_58 ?_
    refine lv_iadd hx hb dX11_sell_59 ?_
    refine x_puti hx hb hw (cX2 hE) (own := RX11) (ref := RX10) (C := RX10) (T := TX10) (N := 4) hts hiX10 tyX10 tyX10_ok nmX10 hown rfl 2 (by decide) hk266 (fun _ h9 => h9) rfl (by decide +kernel) rfl dX11_sell_60 (fun σ14 H locs ex hw => ?_)
    replace hf := xp_f hf σ14 ex
    clear ex
    refine lv_aload_n hx hb dX11_sell_63 rfl (lv_at hl 0 rfl) ?_
    refine x_getr hx hb hw (cX0 hE) (own := RX11) (ref := RX11) (C := RX11) (T := TX11) (N := 14) hts hiX11 hown rfl 5 (by decide) hk55 (fun _ h9 => h9) rfl dX11_sell_64 ?_
    refine lv_iload_n hx hb dX11_sell_67 rfl (lv_at hl 1 rfl) ?_
    refine lv_iload_n hx hb dX11_sell_68 rfl (lv_at hl 2 rfl) ?_
    obtain ⟨r15, σ16, hcl, hf⟩ := xc2_f hf
    refine x_calli (va_runV (As := [.int a1, .int a2]) (rest := []) ⟨hx, hb, hml, hown, hts⟩ (mX0_takeOldest hE a1 a2 σ14 r15 σ16 hcl H.size) (cwV 2 hts gX11_sell_X0_takeOldest rfl rfl rfl (by decide +kernel) ⟨Nat.le_of_ble_eq_true rfl, Nat.le_of_ble_eq_true rfl⟩) (x_preV _ hw hA hG (cX27 hE) rfl) rfl rfl hl.1 rfl (lv_room (Nat.le_of_ble_eq_true rfl)) dX11_sell_69 ⟨Nat.le_of_ble_eq_true rfl, Nat.le_of_ble_eq_true rfl⟩) hw hA (fun H locs hw => ?_)
    clear hcl
    exact x_tiret hx hb hr hlk hw hf (Nat.le_of_ble_eq_true rfl) (Nat.le_of_ble_eq_true rfl) dX11_sell_72
  refine lv_aload_n hx hb dX11_sell_0 rfl (lv_at hl 0 rfl) ?_
  refine lv_iload_n hx hb dX11_sell_1 rfl (lv_at hl 1 rfl) ?_
  rcases xct_e hf with ⟨k2, σ2, hcl, hf⟩ | ⟨r1, σ2, hcl, hf⟩
  · refine x_tcallv (vx_runV (As := [.int p0]) (rest := []) ⟨hx, hb, hml, hown, hts⟩ (mX11_needRecipe hl0 hE p0 σ (.inr k2) σ2 hcl s.heap.size) (cwV 1 hts gX11_sell_X11_needRecipe rfl rfl rfl (by decide +kernel) ⟨Nat.le_of_ble_eq_true rfl, Nat.le_of_ble_eq_true rfl⟩) (x_preV _ hw hA hG (cX0 hE) rfl) rfl rfl hl.1 rfl (lv_room (Nat.le_of_ble_eq_true rfl)) dX11_sell_2 ⟨Nat.le_of_ble_eq_true rfl, Nat.le_of_ble_eq_true rfl⟩) hw hA (fun q9 ce H locs h1 h2 h3 hw => ?_) (fun H locs h1 hw => nomatch h1)
    exact x_tout hlk hex h1 h2 h3 hw hf (Nat.le_of_ble_eq_true rfl) (Nat.le_of_ble_eq_true rfl)
  refine x_tcallv (vx_runV (As := [.int p0]) (rest := []) ⟨hx, hb, hml, hown, hts⟩ (mX11_needRecipe hl0 hE p0 σ (.inl r1) σ2 hcl s.heap.size) (cwV 1 hts gX11_sell_X11_needRecipe rfl rfl rfl (by decide +kernel) ⟨Nat.le_of_ble_eq_true rfl, Nat.le_of_ble_eq_true rfl⟩) (x_preV _ hw hA hG (cX0 hE) rfl) rfl rfl hl.1 rfl (lv_room (Nat.le_of_ble_eq_true rfl)) dX11_sell_2 ⟨Nat.le_of_ble_eq_true rfl, Nat.le_of_ble_eq_true rfl⟩) hw hA (fun q9 ce H locs h1 h2 h3 hw => by obtain ⟨_, h9, _⟩ := h3; cases h9) (fun H locs h1 hw => ?_)
  clear hcl h1
  refine lv_iload_n hx hb dX11_sell_5 rfl (lv_at hl 2 rfl) ?_
  refine lv_iconst (v := 1) hx hb dX11_sell_6 (by decide) ?_
  refine lv_bipush (v := 99) hx hb dX11_sell_7 (by decide) ?_
  obtain ⟨r3, σ4, hcl, hf⟩ := xc2_f hf
  refine x_calli (va_runS (As := [.int p1, .int 1, .int 99]) (rest := []) ⟨hx, hb, hml, hown, hts⟩ (mX11_isWithin hE p1 1 99 σ2 r3 σ4 hcl H.size) (va_cwS 3 hts gX11_sell_X11_isWithin rfl rfl rfl (by decide +kernel) ⟨Nat.le_of_ble_eq_true rfl, Nat.le_of_ble_eq_true rfl⟩) (x_preS _ hw hA hG) rfl rfl hl.1 rfl (lv_room (Nat.le_of_ble_eq_true rfl)) dX11_sell_9 ⟨Nat.le_of_ble_eq_true rfl, Nat.le_of_ble_eq_true rfl⟩) hw hA (fun H locs hw => ?_)
  clear hcl
  rcases xct_e hf with ⟨k12, σ6, hcl, hf⟩ | ⟨r5, σ6, hcl, hf⟩
  · refine x_tcallv (vx_runS (As := [.int r3]) (rest := []) ⟨hx, hb, hml, hown, hts⟩ (mX11_needArgument hl0 r3 σ4 (.inr k12) σ6 hcl H.size) (va_cwS 1 hts gX11_sell_X11_needArgument rfl rfl rfl (by decide +kernel) ⟨Nat.le_of_ble_eq_true rfl, Nat.le_of_ble_eq_true rfl⟩) (x_preS _ hw hA hG) rfl rfl hl.1 rfl (lv_room (Nat.le_of_ble_eq_true rfl)) dX11_sell_12 ⟨Nat.le_of_ble_eq_true rfl, Nat.le_of_ble_eq_true rfl⟩) hw hA (fun q9 ce H locs h1 h2 h3 hw => ?_) (fun H locs h1 hw => nomatch h1)
    exact x_tout hlk hex h1 h2 h3 hw hf (Nat.le_of_ble_eq_true rfl) (Nat.le_of_ble_eq_true rfl)
  refine x_tcallv (vx_runS (As := [.int r3]) (rest := []) ⟨hx, hb, hml, hown, hts⟩ (mX11_needArgument hl0 r3 σ4 (.inl r5) σ6 hcl H.size) (va_cwS 1 hts gX11_sell_X11_needArgument rfl rfl rfl (by decide +kernel) ⟨Nat.le_of_ble_eq_true rfl, Nat.le_of_ble_eq_true rfl⟩) (x_preS _ hw hA hG) rfl rfl hl.1 rfl (lv_room (Nat.le_of_ble_eq_true rfl)) dX11_sell_12 ⟨Nat.le_of_ble_eq_true rfl, Nat.le_of_ble_eq_true rfl⟩) hw hA (fun q9 ce H locs h1 h2 h3 hw => by obtain ⟨_, h9, _⟩ := h3; cases h9) (fun H locs h1 hw => ?_)
  clear hcl h1
  refine lv_aload_n hx hb dX11_sell_15 rfl (lv_at hl 0 rfl) ?_
  refine x_getr hx hb hw (cX0 hE) (own := RX11) (ref := RX11) (C := RX11) (T := TX11) (N := 14) hts hiX11 hown rfl 5 (by decide) hk55 (fun _ h9 => h9) rfl dX11_sell_16 ?_
  refine lv_iload_n hx hb dX11_sell_19 rfl (lv_at hl 1 rfl) ?_
  refine lv_iconst (v := 0) hx hb dX11_sell_20 (by decide) ?_
  obtain ⟨r7, σ8, hcl, hf⟩ := xc2_f hf
  refine x_calli (va_runV (As := [.int p0, .int 0]) (rest := []) ⟨hx, hb, hml, hown, hts⟩ (mX0_from hE p0 0 σ6 r7 σ8 hcl H.size) (cwV 2 hts gX11_sell_X0_from rfl rfl rfl (by decide +kernel) ⟨Nat.le_of_ble_eq_true rfl, Nat.le_of_ble_eq_true rfl⟩) (x_preV _ hw hA hG (cX27 hE) rfl) rfl rfl hl.1 rfl (lv_room (Nat.le_of_ble_eq_true rfl)) dX11_sell_21 ⟨Nat.le_of_ble_eq_true rfl, Nat.le_of_ble_eq_true rfl⟩) hw hA (fun H locs hw => ?_)
  clear hcl
  refine lv_iload_n hx hb dX11_sell_24 rfl (lv_at hl 2 rfl) ?_
  refine lv_icmp_lt (tgt := 32) hx hb dX11_sell_25 (by decide) (fun c25 => ?_) (fun c25 => ?_)
  · replace hf := xif_pos c25 hf
    refine lv_iconst (v := 0) hx hb dX11_sell_32 (by decide) ?_
    exact h33 p0 p1 0 σ8 _ _ _ hw (lv_sub hl [0, 1, 2] rfl) hf
  · replace hf := xif_neg c25 hf
    refine lv_iconst (v := 1) hx hb dX11_sell_28 (by decide) ?_
    refine lv_goto (tgt := 33) hx hb dX11_sell_29 (by decide) ?_
    exact h33 p0 p1 1 σ8 _ _ _ hw (lv_sub hl [0, 1, 2] rfl) hf
