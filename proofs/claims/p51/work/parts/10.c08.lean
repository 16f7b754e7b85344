def fX11_setDecks (p0 : Int32) (σ : xSt) : Option (xO × xSt) := (xc2 (fX11_isWithin p0 1 4 σ) fun r1 σ2 => (xct (fX11_needArgument r1 σ2) fun r3 σ4 => (xc (fX11_remember σ4) fun σ6 => (xl (σ6 20 2) fun v7 => (xp σ6 20 2 p0 fun σ8 => some ((.inl v7 : xO), σ8))))))
abbrev rmX11_setDecks : Room := { frames := 7, cells := 1, slots := 6, locals := 139 }
set_option maxRecDepth 100000 in
set_option maxHeartbeats 4000000 in
theorem mX11_setDecks {l : Launch} (hl0 : l.stackTraces = false) {E : xE} (hE : E.sh = shX) (p0 : Int32) (σ : xSt) (o1 : xO) (o2 : xSt) (hf : fX11_setDecks p0 σ = some (o1, o2)) : xMt l yX11_setDecks wsX11_setDecks rmX11_setDecks E [.ref (E.a 0), .int p0] σ o1 o2 1 := by
  unfold fX11_setDecks at hf
  refine xMt_of (cc := cX11_setDecks) (maxL := 3) (ret := (some .int)) (by decide) rfl (Nat.le_of_ble_eq_true rfl) ?_
  intro p e s m args below meth c A ls ⟨hx, hb, hr, hml, hown, hts, hlk⟩ hA hG hw hl hex
  have hown : s.vm.findClass RX11 = some m.cls := hown
  have hl : lv_has ls 3 [(0, .ref (E.a 0)), (1, .int p0)] := hl
  have hk41 := hts (.fieldLink RX11 41 "OvenRound" "oven" "LOvenRound$Oven;") (by decide +kernel)
  have hiX11 : ∀ w ∈ wsX110, w ∈ wsX11_setDecks := by decide +kernel
  have hk237 := hts (.fieldLink RX11 237 "OvenRound$Oven" "decks" "I") (by decide +kernel)
  have hiX5 : ∀ w ∈ wsX50, w ∈ wsX11_setDecks := by decide +kernel
  refine lv_iload_n hx hb dX11_setDecks_0 rfl (lv_at hl 1 rfl) ?_
  refine lv_iconst (v := 1) hx hb dX11_setDecks_1 (by decide) ?_
  refine lv_iconst (v := 4) hx hb dX11_setDecks_2 (by decide) ?_
  obtain ⟨r1, σ2, hcl, hf⟩ := xc2_f hf
  refine x_calli (va_runS (As := [.int p0, .int 1, .int 4]) (rest := []) ⟨hx, hb, hml, hown, hts⟩ (mX11_isWithin hE p0 1 4 σ r1 σ2 hcl s.heap.size) (va_cwS 3 hts gX11_setDecks_X11_isWithin rfl rfl rfl (by decide +kernel) ⟨Nat.le_of_ble_eq_true rfl, Nat.le_of_ble_eq_true rfl⟩) (x_preS _ hw hA hG) rfl rfl hl.1 rfl (lv_room (Nat.le_of_ble_eq_true rfl)) dX11_setDecks_3 ⟨Nat.le_of_ble_eq_true rfl, Nat.le_of_ble_eq_true rfl⟩) hw hA (fun H locs hw => ?_)
  clear hcl
  rcases xct_e hf with ⟨k6, σ4, hcl, hf⟩ | ⟨r3, σ4, hcl, hf⟩
  · refine x_tcallv (vx_runS (As := [.int r1]) (rest := []) ⟨hx, hb, hml, hown, hts⟩ (mX11_needArgument hl0 r1 σ2 (.inr k6) σ4 hcl H.size) (va_cwS 1 hts gX11_setDecks_X11_needArgument rfl rfl rfl (by decide +kernel) ⟨Nat.le_of_ble_eq_true rfl, Nat.le_of_ble_eq_true rfl⟩) (x_preS _ hw hA hG) rfl rfl hl.1 rfl (lv_room (Nat.le_of_ble_eq_true rfl)) dX11_setDecks_6 ⟨Nat.le_of_ble_eq_true rfl, Nat.le_of_ble_eq_true rfl⟩) hw hA (fun q9 ce H locs h1 h2 h3 hw => ?_) (fun H locs h1 hw => nomatch h1)
    exact x_tout hlk hex h1 h2 h3 hw hf (Nat.le_of_ble_eq_true rfl) (Nat.le_of_ble_eq_true rfl)
  refine x_tcallv (vx_runS (As := [.int r1]) (rest := []) ⟨hx, hb, hml, hown, hts⟩ (mX11_needArgument hl0 r1 σ2 (.inl r3) σ4 hcl H.size) (va_cwS 1 hts gX11_setDecks_X11_needArgument rfl rfl rfl (by decide +kernel) ⟨Nat.le_of_ble_eq_true rfl, Nat.le_of_ble_eq_true rfl⟩) (x_preS _ hw hA hG) rfl rfl hl.1 rfl (lv_room (Nat.le_of_ble_eq_true rfl)) dX11_setDecks_6 ⟨Nat.le_of_ble_eq_true rfl, Nat.le_of_ble_eq_true rfl⟩) hw hA (fun q9 ce H locs h1 h2 h3 hw => by obtain ⟨_, h9, _⟩ := h3; cases h9) (fun H locs h1 hw => ?_)
  clear hcl h1
  refine lv_aload_n hx hb dX11_setDecks_9 rfl (lv_at hl 0 rfl) ?_
  obtain ⟨σ6, hcl, hf⟩ := xc_e hf
  refine x_callv (va_runV (As := []) (rest := []) ⟨hx, hb, hml, hown, hts⟩ (mX11_remember hE σ4 σ6 hcl H.size) (cwV 0 hts gX11_setDecks_X11_remember rfl rfl rfl (by decide +kernel) ⟨Nat.le_of_ble_eq_true rfl, Nat.le_of_ble_eq_true rfl⟩) (x_preV _ hw hA hG (cX0 hE) rfl) rfl rfl hl.1 rfl (lv_room (Nat.le_of_ble_eq_true rfl)) dX11_setDecks_10 ⟨Nat.le_of_ble_eq_true rfl, Nat.le_of_ble_eq_true rfl⟩) hw hA (fun H locs hw => ?_)
  clear hcl
  refine lv_aload_n hx hb dX11_setDecks_13 rfl (lv_at hl 0 rfl) ?_
  refine x_getr hx hb hw (cX0 hE) (own := RX11) (ref := RX11) (C := RX11) (T := TX11) (N := 14) hts hiX11 hown rfl 3 (by decide) hk41 (fun _ h9 => h9) rfl dX11_setDecks_14 ?_
  refine x_geti hx hb hw (cX20 hE) (own := RX11) (ref := RX5) (C := RX5) (T := TX5) (N := 5) hts hiX5 hown rfl 2 (by decide) hk237 (fun _ h9 => h9) rfl dX11_setDecks_17 ?_
  refine lv_topi (fun v7 ex => ?_)
  replace hf := xl_f hf v7 ex
  clear ex
  refine lv_istore_n (lv' := [(2, .int v7), (0, .ref (E.a 0)), (1, .int p0)]) hx hb dX11_setDecks_20 rfl hl (by decide) rfl (fun ls hl => ?_)
  refine lv_aload_n hx hb dX11_setDecks_21 rfl (lv_at hl 1 rfl) ?_
  refine x_getr hx hb hw (cX0 hE) (own := RX11) (ref := RX11) (C := RX11) (T := TX11) (N := 14) hts hiX11 hown rfl 3 (by decide) hk41 (fun _ h9 => h9) rfl dX11_setDecks_22 ?_
  refine lv_iload_n hx hb dX11_setDecks_25 rfl (lv_at hl 2 rfl) ?_
  refine x_puti hx hb hw (cX20 hE) (own := RX11) (ref := RX5) (C := RX5) (T := TX5) (N := 5) hts hiX5 tyX5 tyX5_ok nmX5 hown rfl 2 (by decide) hk237 (fun _ h9 => h9) rfl (by decide +kernel) rfl dX11_setDecks_26 (fun σ8 H locs ex hw => ?_)
  replace hf := xp_f hf σ8 ex
  clear ex
  refine lv_iload_n hx hb dX11_setDecks_29 rfl (lv_at hl 0 rfl) ?_
  exact x_tiret hx hb hr hlk hw hf (Nat.le_of_ble_eq_true rfl) (Nat.le_of_ble_eq_true rfl) dX11_setDecks_30

def fX11_isForOven_c55 (a1 : Int32) (t0 : Int32) (σ : xSt) : Option (Int32 × xSt) := (if t0 = 0 then (xc2 (fX11_isRipe a1 σ) fun r5 σ6 => (if r5 = 0 then some (0, σ6) else some (1, σ6))) else some (1, σ))
def fX11_isForOven_c54 (a1 : Int32) (σ : xSt) : Option (Int32 × xSt) := fX11_isForOven_c55 a1 0 σ
def fX11_isForOven (p0 : Int32) (σ : xSt) : Option (Int32 × xSt) := (xr σ 17 20 p0 fun v1 => (if v1 = 1 then (xr σ 18 20 p0 fun v2 => (xr σ 13 20 p0 fun v3 => (xr σ 10 6 v3 fun v4 => (if v4 < ((σ 20 0) - v2) then fX11_isForOven_c54 p0 σ else fX11_isForOven_c55 p0 1 σ)))) else fX11_isForOven_c54 p0 σ))
abbrev rmX11_isForOven : Room := { frames := 3, cells := 0, slots := 0, locals := 65 }
set_option maxRecDepth 100000 in
set_option maxHeartbeats 4000000 in
theorem mX11_isForOven {l : Launch} {E : xE} (hE : E.sh = shX) (p0 : Int32) (σ : xSt) (o1 : Int32) (o2 : xSt) (hf : fX11_isForOven p0 σ = some (o1, o2)) : xMi l yX11_isForOven wsX11_isForOven rmX11_isForOven E [.ref (E.a 0), .int p0] σ o1 o2 := by
  unfold fX11_isForOven at hf
  refine xMi_of (cc := cX11_isForOven) (maxL := 3) (ret := (some .boolean)) (by decide) rfl (Nat.le_of_ble_eq_true rfl) ?_
  intro p e s m args below meth c A ls ⟨hx, hb, hr, hml, hown, hts, hlk⟩ hA hG hw hl
  have hown : s.vm.findClass RX11 = some m.cls := hown
  have hl : lv_has ls 3 [(0, .ref (E.a 0)), (1, .int p0)] := hl
  have hk36 := hts (.fieldLink RX11 36 "OvenRound" "doughs" "LOvenRound$Doughs;") (by decide +kernel)
  have hiX11 : ∀ w ∈ wsX110, w ∈ wsX11_isForOven := by decide +kernel
  have hk207 := hts (.fieldLink RX11 207 "OvenRound$Doughs" "state" "[I") (by decide +kernel)
  have hiX2 : ∀ w ∈ wsX20, w ∈ wsX11_isForOven := by decide +kernel
  have hk41 := hts (.fieldLink RX11 41 "OvenRound" "oven" "LOvenRound$Oven;") (by decide +kernel)
  have hk186 := hts (.fieldLink RX11 186 "OvenRound$Oven" "tick" "I") (by decide +kernel)
  have hiX5 : ∀ w ∈ wsX50, w ∈ wsX11_isForOven := by decide +kernel
  have hk210 := hts (.fieldLink RX11 210 "OvenRound$Doughs" "shapedAt" "[I") (by decide +kernel)
  have hk31 := hts (.fieldLink RX11 31 "OvenRound" "recipes" "LOvenRound$Recipes;") (by decide +kernel)
  have hk142 := hts (.fieldLink RX11 142 "OvenRound$Recipes" "wait" "[I") (by decide +kernel)
  have hiX8 : ∀ w ∈ wsX80, w ∈ wsX11_isForOven := by decide +kernel
  have hk216 := hts (.fieldLink RX11 216 "OvenRound$Doughs" "recipe" "[I") (by decide +kernel)
  have h55 : ∀ (a1 : Int32) (t0 : Int32) (σ : xSt) (H : Heap) (locs : List Loc) (ls : Array Slot), xw E A s.heap s σ H locs → lv_has ls 3 [(0, .ref (E.a 0)), (1, .int a1)] → fX11_isForOven_c55 a1 t0 σ = some (o1, o2) → W p l e rmX11_isForOven s m args below meth c H locs 0 0 (MQ below (xQi E A o1 o2) args s 0 0 A) (F0 m 55 ls [.int t0]) := by
    intro a1 t0 σ H locs ls hw hl hf
    unfold fX11_isForOven_c55 at hf
    refine lv_istore_n (lv' := [(2, .int t0), (0, .ref (E.a 0)), (1, .int a1)]) hx hb dX11_isForOven_55 rfl hl (by decide) rfl (fun ls hl => ?_)
    refine lv_iload_n hx hb dX11_isForOven_56 rfl (lv_at hl 0 rfl) ?_
    refine lv_if_ne (tgt := 68) hx hb dX11_isForOven_57 (by decide) (fun c57 => ?_) (fun c57 => ?_)
    · replace hf := xif_neg c57 hf
      refine lv_iconst (v := 1) hx hb dX11_isForOven_68 (by decide) ?_
      refine lv_goto (tgt := 73) hx hb dX11_isForOven_69 (by decide) ?_
      exact x_zretc hx hb hr hlk hw (by decide) hf dX11_isForOven_73
    · replace hf := xif_pos c57 hf
      refine lv_aload_n hx hb dX11_isForOven_60 rfl (lv_at hl 1 rfl) ?_
      refine lv_iload_n hx hb dX11_isForOven_61 rfl (lv_at hl 2 rfl) ?_
      obtain ⟨r5, σ6, hcl, hf⟩ := xc2_f hf
      refine x_calli (va_runV (As := [.int a1]) (rest := []) ⟨hx, hb, hml, hown, hts⟩ (mX11_isRipe hE a1 σ r5 σ6 hcl H.size) (cwV 1 hts gX11_isForOven_X11_isRipe rfl rfl rfl (by decide +kernel) ⟨Nat.le_of_ble_eq_true rfl, Nat.le_of_ble_eq_true rfl⟩) (x_preV _ hw hA hG (cX0 hE) rfl) rfl rfl hl.1 rfl (lv_room (Nat.le_of_ble_eq_true rfl)) dX11_isForOven_62 ⟨Nat.le_of_ble_eq_true rfl, Nat.le_of_ble_eq_true rfl⟩) hw hA (fun H locs hw => ?_)
      clear hcl
      refine lv_if_eq (tgt := 72) hx hb dX11_isForOven_65 (by decide) (fun c65 => ?_) (fun c65 => ?_)
      · replace hf := xif_pos c65 hf
        refine lv_iconst (v := 0) hx hb dX11_isForOven_72 (by decide) ?_
        exact x_zretc hx hb hr hlk hw (by decide) hf dX11_isForOven_73
      · replace hf := xif_neg c65 hf
        refine lv_iconst (v := 1) hx hb dX11_isForOven_68 (by decide) ?_
        refine lv_goto (tgt := 73) hx hb dX11_isForOven_69 (by decide) ?_
        exact x_zretc hx hb hr hlk hw (by decide) hf dX11_isForOven_73
  have h54 : ∀ (a1 : Int32) (σ : xSt) (H : Heap) (locs : List Loc) (ls : Array Slot), xw E A s.heap s σ H locs → lv_has ls 3 [(0, .ref (E.a 0)), (1, .int a1)] → fX11_isForOven_c54 a1 σ = some (o1, o2) → W p l e rmX11_isForOven s m args below meth c H locs 0 0 (MQ below (xQi E A o1 o2) args s 0 0 A) (F0 m 54 ls []) := by
    intro a1 σ H locs ls hw hl hf
    unfold fX11_isForOven_c54 at hf
    refine lv_iconst (v := 0) hx hb dX11_isForOven_54 (by decide) ?_
    exact h55 a1 0 σ _ _ _ hw (lv_sub hl [0, 1] rfl) hf
  refine lv_aload_n hx hb dX11_isForOven_0 rfl (lv_at hl 0 rfl) ?_
  refine x_getr hx hb hw (cX0 hE) (own := RX11) (ref := RX11) (C := RX11) (T := TX11) (N := 14) hts hiX11 hown rfl 2 (by decide) hk36 (fun _ h9 => h9) rfl dX11_isForOven_1 ?_
  refine x_getr hx hb hw (cX12 hE) (own := RX11) (ref := RX2) (C := RX2) (T := TX2) (N := 8) hts hiX2 hown rfl 4 (by decide) hk207 (fun _ h9 => h9) rfl dX11_isForOven_4 ?_
  refine lv_iload_n hx hb dX11_isForOven_7 rfl (lv_at hl 1 rfl) ?_
  obtain ⟨hin, hf⟩ := xr_f hf
  refine x_iald hx hb hw (cX17 hE) hin dX11_isForOven_8 ?_
  refine lv_topi (fun v1 ex => ?_)
  replace hf := hf v1 ex
  clear ex hin
  refine lv_iconst (v := 1) hx hb dX11_isForOven_9 (by decide) ?_
  refine lv_icmp_ne (tgt := 54) hx hb dX11_isForOven_10 (by decide) (fun c10 => ?_) (fun c10 => ?_)
  · replace hf := xif_neg c10 hf
    exact h54 p0 σ _ _ _ hw (lv_sub hl [0, 1] rfl) hf
  · replace hf := xif_pos c10 hf
    refine lv_aload_n hx hb dX11_isForOven_13 rfl (lv_at hl 0 rfl) ?_
    refine x_getr hx hb hw (cX0 hE) (own := RX11) (ref := RX11) (C := RX11) (T := TX11) (N := 14) hts hiX11 hown rfl 3 (by decide) hk41 (fun _ h9 => h9) rfl dX11_isForOven_14 ?_
    refine x_geti hx hb hw (cX20 hE) (own := RX11) (ref := RX5) (C := RX5) (T := TX5) (N := 5) hts hiX5 hown rfl 0 (by decide) hk186 (fun _ h9 => h9) rfl dX11_isForOven_17 ?_
    refine lv_aload_n hx hb dX11_isForOven_20 rfl (lv_at hl 0 rfl) ?_
    refine x_getr hx hb hw (cX0 hE) (own := RX11) (ref := RX11) (C := RX11) (T := TX11) (N := 14) hts hiX11 hown rfl 2 (by decide) hk36 (fun _ h9 => h9) rfl dX11_isForOven_21 ?_
    refine x_getr hx hb hw (cX12 hE) (own := RX11) (ref := RX2) (C := RX2) (T := TX2) (N := 8) hts hiX2 hown rfl 5 (by decide) hk210 (fun _ h9 => h9) rfl dX11_isForOven_24 ?_
    refine lv_iload_n hx hb dX11_isForOven_27 rfl (lv_at hl 1 rfl) ?_
    obtain ⟨hin, hf⟩ := xr_f hf
    refine x_iald hx hb hw (cX18 hE) hin dX11_isForOven_28 ?_
    refine lv_topi (fun v2 ex => ?_)
    replace hf := hf v2 ex
    clear ex hin
    refine lv_isub hx hb dX11_isForOven_29 ?_
    refine lv_aload_n hx hb dX11_isForOven_30 rfl (lv_at hl 0 rfl) ?_
    refine x_getr hx hb hw (cX0 hE) (own := RX11) (ref := RX11) (C := RX11) (T := TX11) (N := 14) hts hiX11 hown rfl 1 (by decide) hk31 (fun _ h9 => h9) rfl dX11_isForOven_31 ?_
    refine x_getr hx hb hw (cX4 hE) (own := RX11) (ref := RX8) (C := RX8) (T := TX8) (N := 8) hts hiX8 hown rfl 5 (by decide) hk142 (fun _ h9 => h9) rfl dX11_isForOven_34 ?_
    refine lv_aload_n hx hb dX11_isForOven_37 rfl (lv_at hl 0 rfl) ?_
    refine x_getr hx hb hw (cX0 hE) (own := RX11) (ref := RX11) (C := RX11) (T := TX11) (N := 14) hts hiX11 hown rfl 2 (by decide) hk36 (fun _ h9 => h9) rfl dX11_isForOven_38 ?_
    refine x_getr hx hb hw (cX12 hE) (own := RX11) (ref := RX2) (C := RX2) (T := TX2) (N := 8) hts hiX2 hown rfl 0 (by decide) hk216 (fun _ h9 => h9) rfl dX11_isForOven_41 ?_
    refine lv_iload_n hx hb dX11_isForOven_44 rfl (lv_at hl 1 rfl) ?_
    obtain ⟨hin, hf⟩ := xr_f hf
    refine x_iald hx hb hw (cX13 hE) hin dX11_isForOven_45 ?_
    refine lv_topi (fun v3 ex => ?_)
    replace hf := hf v3 ex
    clear ex hin
    obtain ⟨hin, hf⟩ := xr_f hf
    refine x_iald hx hb hw (cX10 hE) hin dX11_isForOven_46 ?_
    refine lv_topi (fun v4 ex => ?_)
    replace hf := hf v4 ex
    clear ex hin
    refine lv_icmp_gt (tgt := 54) hx hb dX11_isForOven_47 (by decide) (fun c47 => ?_) (fun c47 => ?_)
    · replace hf := xif_pos c47 hf
      exact h54 p0 σ _ _ _ hw (lv_sub hl [0, 1] rfl) hf
    · replace hf := xif_neg c47 hf
      refine lv_iconst (v := 1) hx hb dX11_isForOven_50 (by decide) ?_
      refine lv_goto (tgt := 55) hx hb dX11_isForOven_51 (by decide) ?_
      exact h55 p0 1 σ _ _ _ hw (lv_sub hl [0, 1] rfl) hf

def fX11_isOvenFor (p0 : Int32) (σ : xSt) : Option (Int32 × xSt) := (if ((σ 20 0) - (σ 20 0) / 10 * 10) = 0 then (xc2 (fX2_wentIntoOvenAt (σ 20 0) σ) fun r1 σ2 => (if (σ2 20 2) ≤ r1 then some (0, σ2) else (xr σ2 8 6 p0 fun v3 => (xr σ2 8 6 p0 fun v4 => (xc2 (fX11_isWithin (σ2 20 3) v3 (v4 + 40) σ2) fun r5 σ6 => (if r5 = 0 then some (0, σ6) else some (1, σ6))))))) else some (0, σ))
abbrev rmX11_isOvenFor : Room := { frames := 1, cells := 0, slots := 0, locals := 23 }
set_option maxRecDepth 100000 in
set_option maxHeartbeats 4000000 in
theorem mX11_isOvenFor {l : Launch} {E : xE} (hE : E.sh = shX) (p0 : Int32) (σ : xSt) (o1 : Int32) (o2 : xSt) (hf : fX11_isOvenFor p0 σ = some (o1, o2)) : xMi l yX11_isOvenFor wsX11_isOvenFor rmX11_isOvenFor E [.ref (E.a 0), .int p0] σ o1 o2 := by
  unfold fX11_isOvenFor at hf
  refine xMi_of (cc := cX11_isOvenFor) (maxL := 2) (ret := (some .boolean)) (by decide) rfl (Nat.le_of_ble_eq_true rfl) ?_
  intro p e s m args below meth c A ls ⟨hx, hb, hr, hml, hown, hts, hlk⟩ hA hG hw hl
  have hown : s.vm.findClass RX11 = some m.cls := hown
  have hl : lv_has ls 2 [(0, .ref (E.a 0)), (1, .int p0)] := hl
  have hk41 := hts (.fieldLink RX11 41 "OvenRound" "oven" "LOvenRound$Oven;") (by decide +kernel)
  have hiX11 : ∀ w ∈ wsX110, w ∈ wsX11_isOvenFor := by decide +kernel
  have hk186 := hts (.fieldLink RX11 186 "OvenRound$Oven" "tick" "I") (by decide +kernel)
  have hiX5 : ∀ w ∈ wsX50, w ∈ wsX11_isOvenFor := by decide +kernel
  have hk36 := hts (.fieldLink RX11 36 "OvenRound" "doughs" "LOvenRound$Doughs;") (by decide +kernel)
  have hk237 := hts (.fieldLink RX11 237 "OvenRound$Oven" "decks" "I") (by decide +kernel)
  have hk235 := hts (.fieldLink RX11 235 "OvenRound$Oven" "heat" "I") (by decide +kernel)
  have hk31 := hts (.fieldLink RX11 31 "OvenRound" "recipes" "LOvenRound$Recipes;") (by decide +kernel)
  have hk133 := hts (.fieldLink RX11 133 "OvenRound$Recipes" "heat" "[I") (by decide +kernel)
  have hiX8 : ∀ w ∈ wsX80, w ∈ wsX11_isOvenFor := by decide +kernel
  refine lv_aload_n hx hb dX11_isOvenFor_0 rfl (lv_at hl 0 rfl) ?_
  refine x_getr hx hb hw (cX0 hE) (own := RX11) (ref := RX11) (C := RX11) (T := TX11) (N := 14) hts hiX11 hown rfl 3 (by decide) hk41 (fun _ h9 => h9) rfl dX11_isOvenFor_1 ?_
  refine x_geti hx hb hw (cX20 hE) (own := RX11) (ref := RX5) (C := RX5) (T := TX5) (N := 5) hts hiX5 hown rfl 0 (by decide) hk186 (fun _ h9 => h9) rfl dX11_isOvenFor_4 ?_
  refine lv_bipush (v := 10) hx hb dX11_isOvenFor_7 (by decide) ?_
  refine lv_irem hx hb dX11_isOvenFor_9 (by decide) ?_
  refine lv_if_ne (tgt := 75) hx hb dX11_isOvenFor_10 (by decide) (fun c10 => ?_) (fun c10 => ?_)
  · replace hf := xif_neg c10 hf
    refine lv_iconst (v := 0) hx hb dX11_isOvenFor_75 (by decide) ?_
    exact x_zretc hx hb hr hlk hw (by decide) hf dX11_isOvenFor_76
  · replace hf := xif_pos c10 hf
    refine lv_aload_n hx hb dX11_isOvenFor_13 rfl (lv_at hl 0 rfl) ?_
    refine x_getr hx hb hw (cX0 hE) (own := RX11) (ref := RX11) (C := RX11) (T := TX11) (N := 14) hts hiX11 hown rfl 2 (by decide) hk36 (fun _ h9 => h9) rfl dX11_isOvenFor_14 ?_
    refine lv_aload_n hx hb dX11_isOvenFor_17 rfl (lv_at hl 0 rfl) ?_
    refine x_getr hx hb hw (cX0 hE) (own := RX11) (ref := RX11) (C := RX11) (T := TX11) (N := 14) hts hiX11 hown rfl 3 (by decide) hk41 (fun _ h9 => h9) rfl dX11_isOvenFor_18 ?_
    refine x_geti hx hb hw (cX20 hE) (own := RX11) (ref := RX5) (C := RX5) (T := TX5) (N := 5) hts hiX5 hown rfl 0 (by decide) hk186 (fun _ h9 => h9) rfl dX11_isOvenFor_21 ?_
    obtain ⟨r1, σ2, hcl, hf⟩ := xc2_f hf
    refine x_calli (va_runV (As := [.int (σ 20 0)]) (rest := []) ⟨hx, hb, hml, hown, hts⟩ (mX2_wentIntoOvenAt hE (σ 20 0) σ r1 σ2 hcl s.heap.size) (cwV 1 hts gX11_isOvenFor_X2_wentIntoOvenAt rfl rfl rfl (by decide +kernel) ⟨Nat.le_of_ble_eq_true rfl, Nat.le_of_ble_eq_true rfl⟩) (x_preV _ hw hA hG (cX12 hE) rfl) rfl rfl hl.1 rfl (lv_room (Nat.le_of_ble_eq_true rfl)) dX11_isOvenFor_24 ⟨Nat.le_of_ble_eq_true rfl, Nat.le_of_ble_eq_true rfl⟩) hw hA (fun H locs hw => ?_)
    clear hcl
    refine lv_aload_n hx hb dX11_isOvenFor_27 rfl (lv_at hl 0 rfl) ?_
    refine x_getr hx hb hw (cX0 hE) (own := RX11) (ref := RX11) (C := RX11) (T := TX11) (N := 14) hts hiX11 hown rfl 3 (by decide) hk41 (fun _ h9 => h9) rfl dX11_isOvenFor_28 ?_
    refine x_geti hx hb hw (cX20 hE) (own := RX11) (ref := RX5) (C := RX5) (T := TX5) (N := 5) hts hiX5 hown rfl 2 (by decide) hk237 (fun _ h9 => h9) rfl dX11_isOvenFor_31 ?_
    refine lv_icmp_ge (tgt := 75) hx hb dX11_isOvenFor_34 (by decide) (fun c34 => ?_) (fun c34 => ?_)
    · replace hf := xif_pos c34 hf
      refine lv_iconst (v := 0) hx hb dX11_isOvenFor_75 (by decide) ?_
      exact x_zretc hx hb hr hlk hw (by decide) hf dX11_isOvenFor_76
    · replace hf := xif_neg c34 hf
      refine lv_aload_n hx hb dX11_isOvenFor_37 rfl (lv_at hl 0 rfl) ?_
      refine x_getr hx hb hw (cX0 hE) (own := RX11) (ref := RX11) (C := RX11) (T := TX11) (N := 14) hts hiX11 hown rfl 3 (by decide) hk41 (fun _ h9 => h9) rfl dX11_isOvenFor_38 ?_
      refine x_geti hx hb hw (cX20 hE) (own := RX11) (ref := RX5) (C := RX5) (T := TX5) (N := 5) hts hiX5 hown rfl 3 (by decide) hk235 (fun _ h9 => h9) rfl dX11_isOvenFor_41 ?_
      refine lv_aload_n hx hb dX11_isOvenFor_44 rfl (lv_at hl 0 rfl) ?_
      refine x_getr hx hb hw (cX0 hE) (own := RX11) (ref := RX11) (C := RX11) (T := TX11) (N := 14) hts hiX11 hown rfl 1 (by decide) hk31 (fun _ h9 => h9) rfl dX11_isOvenFor_45 ?_
      refine x_getr hx hb hw (cX4 hE) (own := RX11) (ref := RX8) (C := RX8) (T := TX8) (N := 8) hts hiX8 hown rfl 3 (by decide) hk133 (fun _ h9 => h9) rfl dX11_isOvenFor_48 ?_
      refine lv_iload_n hx hb dX11_isOvenFor_51 rfl (lv_at hl 1 rfl) ?_
      obtain ⟨hin, hf⟩ := xr_f hf
      refine x_iald hx hb hw (cX8 hE) hin dX11_isOvenFor_52 ?_
      refine lv_topi (fun v3 ex => ?_)
      replace hf := hf v3 ex
      clear ex hin
      refine lv_aload_n hx hb dX11_isOvenFor_53 rfl (lv_at hl 0 rfl) ?_
      refine x_getr hx hb hw (cX0 hE) (own := RX11) (ref := RX11) (C := RX11) (T := TX11) (N := 14) hts hiX11 hown rfl 1 (by decide) hk31 (fun _ h9 => h9) rfl dX11_isOvenFor_54 ?_
      refine x_getr hx hb hw (cX4 hE) (own := RX11) (ref := RX8) (C := RX8) (T := TX8) (N := 8) hts hiX8 hown rfl 3 (by decide) hk133 (fun _ h9 => h9) rfl dX11_isOvenFor_57 ?_
      refine lv_iload_n hx hb dX11_isOvenFor_60 rfl (lv_at hl 1 rfl) ?_
      obtain ⟨hin, hf⟩ := xr_f hf
      refine x_iald hx hb hw (cX8 hE) hin dX11_isOvenFor_61 ?_
      refine lv_topi (fun v4 ex => ?_)
      replace hf := hf v4 ex
      clear ex hin
      refine lv_bipush (v := 40) hx hb dX11_isOvenFor_62 (by decide) ?_
      refine lv_iadd hx hb dX11_isOvenFor_64 ?_
      obtain ⟨r5, σ6, hcl, hf⟩ := xc2_f hf
      refine x_calli (va_runS (As := [.int (σ2 20 3), .int v3, .int (v4 + 40)]) (rest := []) ⟨hx, hb, hml, hown, hts⟩ (mX11_isWithin hE (σ2 20 3) v3 (v4 + 40) σ2 r5 σ6 hcl H.size) (va_cwS 3 hts gX11_isOvenFor_X11_isWithin rfl rfl rfl (by decide +kernel) ⟨Nat.le_of_ble_eq_true rfl, Nat.le_of_ble_eq_true rfl⟩) (x_preS _ hw hA hG) rfl rfl hl.1 rfl (lv_room (Nat.le_of_ble_eq_true rfl)) dX11_isOvenFor_65 ⟨Nat.le_of_ble_eq_true rfl, Nat.le_of_ble_eq_true rfl⟩) hw hA (fun H locs hw => ?_)
      clear hcl
      refine lv_if_eq (tgt := 75) hx hb dX11_isOvenFor_68 (by decide) (fun c68 => ?_) (fun c68 => ?_)
      · replace hf := xif_pos c68 hf
        refine lv_iconst (v := 0) hx hb dX11_isOvenFor_75 (by decide) ?_
        exact x_zretc hx hb hr hlk hw (by decide) hf dX11_isOvenFor_76
      · replace hf := xif_neg c68 hf
        refine lv_iconst (v := 1) hx hb dX11_isOvenFor_71 (by decide) ?_
        refine lv_goto (tgt := 76) hx hb dX11_isOvenFor_72 (by decide) ?_
        exact x_zretc hx hb hr hlk hw (by decide) hf dX11_isOvenFor_76

def fX11_bake_c34 (a1 : Int32) (t0 : Int32) (σ : xSt) : Option (xO × xSt) := (xct (fX11_needState t0 σ) fun r8 σ9 => (xc (fX11_remember σ9) fun σ11 => (xs σ11 17 20 a1 2 fun σ12 => (xs σ12 19 20 a1 (σ12 20 0) fun σ13 => some ((.inl ((σ13 20 0) + 10) : xO), σ13)))))
def fX11_bake_c33 (a1 : Int32) (σ : xSt) : Option (xO × xSt) := fX11_bake_c34 a1 0 σ
def fX11_bake (p0 : Int32) (σ : xSt) : Option (xO × xSt) := (xct (fX11_needDough p0 σ) fun r1 σ2 => (xc2 (fX11_isForOven p0 σ2) fun r3 σ4 => (if r3 = 0 then fX11_bake_c33 p0 σ4 else (xr σ4 13 20 p0 fun v5 => (xc2 (fX11_isOvenFor v5 σ4) fun r6 σ7 => (if r6 = 0 then fX11_bake_c33 p0 σ7 else fX11_bake_c34 p0 1 σ7))))))
abbrev rmX11_bake : Room := { frames := 8, cells := 2, slots := 12, locals := 139 }
set_option maxRecDepth 100000 in
set_option maxHeartbeats 4000000 in
theorem mX11_bake {l : Launch} (hl0 : l.stackTraces = false) {E : xE} (hE : E.sh = shX) (p0 : Int32) (σ : xSt) (o1 : xO) (o2 : xSt) (hf : fX11_bake p0 σ = some (o1, o2)) : xMt l yX11_bake wsX11_bake rmX11_bake E [.ref (E.a 0), .int p0] σ o1 o2 2 := by
  unfold fX11_bake at hf
  refine xMt_of (cc := cX11_bake) (maxL := 2) (ret := (some .int)) (by decide) rfl (Nat.le_of_ble_eq_true rfl) ?_
  intro p e s m args below meth c A ls ⟨hx, hb, hr, hml, hown, hts, hlk⟩ hA hG hw hl hex
  have hown : s.vm.findClass RX11 = some m.cls := hown
  have hl : lv_has ls 2 [(0, .ref (E.a 0)), (1, .int p0)] := hl
  have hk36 := hts (.fieldLink RX11 36 "OvenRound" "doughs" "LOvenRound$Doughs;") (by decide +kernel)
  have hiX11 : ∀ w ∈ wsX110, w ∈ wsX11_bake := by decide +kernel
  have hk216 := hts (.fieldLink RX11 216 "OvenRound$Doughs" "recipe" "[I") (by decide +kernel)
  have hiX2 : ∀ w ∈ wsX20, w ∈ wsX11_bake := by decide +kernel
  have hk207 := hts (.fieldLink RX11 207 "OvenRound$Doughs" "state" "[I") (by decide +kernel)
  have hk223 := hts (.fieldLink RX11 223 "OvenRound$Doughs" "ovenAt" "[I") (by decide +kernel)
  have hk41 := hts (.fieldLink RX11 41 "OvenRound" "oven" "LOvenRound$Oven;") (by decide +kernel)
  have hk186 := hts (.fieldLink RX11 186 "OvenRound$Oven" "tick" "I") (by decide +kernel)
  have hiX5 : ∀ w ∈ wsX50, w ∈ wsX11_bake := by decide +kernel
  have h34 : ∀ (a1 : Int32) (t0 : Int32) (σ : xSt) (H : Heap) (locs : List Loc) (ls : Array Slot), xw E A s.heap s σ H locs → lv_has ls 2 [(0, .ref (E.a 0)), (1, .int a1)] → fX11_bake_c34 a1 t0 σ = some (o1, o2) → W p l e rmX11_bake s m args below meth c H locs 1 6 (vx_MQ below (xQt E A o1 o2) (xXt E A o1 o2) args s 2 12 A) (F0 m 34 ls [.int t0]) := by
    intro a1 t0 σ H locs ls hw hl hf
    unfold fX11_bake_c34 at hf
    rcases xct_e hf with ⟨k34, σ9, hcl, hf⟩ | ⟨r8, σ9, hcl, hf⟩
    · refine x_tcallv (vx_runS (As := [.int t0]) (rest := []) ⟨hx, hb, hml, hown, hts⟩ (mX11_needState hl0 t0 σ (.inr k34) σ9 hcl H.size) (va_cwS 1 hts gX11_bake_X11_needState rfl rfl rfl (by decide +kernel) ⟨Nat.le_of_ble_eq_true rfl, Nat.le_of_ble_eq_true rfl⟩) (x_preS _ hw hA hG) rfl rfl hl.1 rfl (lv_room (Nat.le_of_ble_eq_true rfl)) dX11_bake_34 ⟨Nat.le_of_ble_eq_true rfl, Nat.le_of_ble_eq_true rfl⟩) hw hA (fun q9 ce H locs h1 h2 h3 hw => ?_) (fun H locs h1 hw => nomatch h1)
      exact x_tout hlk hex h1 h2 h3 hw hf (Nat.le_of_ble_eq_true rfl) (Nat.le_of_ble_eq_true rfl)
    refine x_tcallv (vx_runS (As := [.int t0]) (rest := []) ⟨hx, hb, hml, hown, hts⟩ (mX11_needState hl0 t0 σ (.inl r8) σ9 hcl H.size) (va_cwS 1 hts gX11_bake_X11_needState rfl rfl rfl (by decide +kernel) ⟨Nat.le_of_ble_eq_true rfl, Nat.le_of_ble_eq_true rfl⟩) (x_preS _ hw hA hG) rfl rfl hl.1 rfl (lv_room (Nat.le_of_ble_eq_true rfl)) dX11_bake_34 ⟨Nat.le_of_ble_eq_true rfl, Nat.le_of_ble_eq_true rfl⟩) hw hA (fun q9 ce H locs h1 h2 h3 hw => by obtain ⟨_, h9, _⟩ := h3; cases h9) (fun H locs h1 hw => ?_)
    clear hcl h1
    refine lv_aload_n hx hb dX11_bake_37 rfl (lv_at hl 0 rfl) ?_
    obtain ⟨σ11, hcl, hf⟩ := xc_e hf
    refine x_callv (va_runV (As := []) (rest := []) ⟨hx, hb, hml, hown, hts⟩ (mX11_remember hE σ9 σ11 hcl H.size) (cwV 0 hts gX11_bake_X11_remember rfl rfl rfl (by decide +kernel) ⟨Nat.le_of_ble_eq_true rfl, Nat.le_of_ble_eq_true rfl⟩) (x_preV _ hw hA hG (cX0 hE) rfl) rfl rfl hl.1 rfl (lv_room (Nat.le_of_ble_eq_true rfl)) dX11_bake_38 ⟨Nat.le_of_ble_eq_true rfl, Nat.le_of_ble_eq_true rfl⟩) hw hA (fun H locs hw => ?_)
    clear hcl
    refine lv_aload_n hx hb dX11_bake_41 rfl (lv_at hl 0 rfl) ?_
    refine x_getr hx hb hw (cX0 hE) (own := RX11) (ref := RX11) (C := RX11) (T := TX11) (N := 14) hts hiX11 hown rfl 2 (by decide) hk36 (fun _ h9 => h9) rfl dX11_bake_42 ?_
    refine x_getr hx hb hw (cX12 hE) (own := RX11) (ref := RX2) (C := RX2) (T := TX2) (N := 8) hts hiX2 hown rfl 4 (by decide) hk207 (fun _ h9 => h9) rfl dX11_bake_45 ?_
    refine lv_iload_n hx hb dX11_bake_48 rfl (lv_at hl 1 rfl) ?_
    refine lv_iconst (v := 2) hx hb dX11_bake_49 (by decide) ?_
    obtain ⟨hin, hf⟩ := xs_f hf
    refine x_iast hx hb hw (cX17 hE) hin dX11_bake_50 (fun σ12 H locs ex hw => ?_)
    replace hf := hf σ12 ex
    clear ex hin
    refine lv_aload_n hx hb dX11_bake_51 rfl (lv_at hl 0 rfl) ?_
    refine x_getr hx hb hw (cX0 hE) (own := RX11) (ref := RX11) (C := RX11) (T := TX11) (N := 14) hts hiX11 hown rfl 2 (by decide) hk36 (fun _ h9 => h9) rfl dX11_bake_52 ?_
    refine x_getr hx hb hw (cX12 hE) (own := RX11) (ref := RX2) (C := RX2) (T := TX2) (N := 8) hts hiX2 hown rfl 6 (by decide) hk223 (fun _ h9 => h9) rfl dX11_bake_55 ?_
    refine lv_iload_n hx hb dX11_bake_58 rfl (lv_at hl 1 rfl) ?_
    refine lv_aload_n hx hb dX11_bake_59 rfl (lv_at hl 0 rfl) ?_
    refine x_getr hx hb hw (cX0 hE) (own := RX11) (ref := RX11) (C := RX11) (T := TX11) (N := 14) hts hiX11 hown rfl 3 (by decide) hk41 (fun _ h9 => h9) rfl dX11_bake_60 ?_
    refine x_geti hx hb hw (cX20 hE) (own := RX11) (ref := RX5) (C := RX5) (T := TX5) (N := 5) hts hiX5 hown rfl 0 (by decide) hk186 (fun _ h9 => h9) rfl dX11_bake_63 ?_
    obtain ⟨hin, hf⟩ := xs_f hf
    refine x_iast hx hb hw (cX19 hE) hin dX11_bake_66 (fun σ13 H locs ex hw => ?_)
    replace hf := hf σ13 ex
    clear ex hin
    refine lv_aload_n hx hb dX11_bake_67 rfl (lv_at hl 0 rfl) ?_
    refine x_getr hx hb hw (cX0 hE) (own := RX11) (ref := RX11) (C := RX11) (T := TX11) (N := 14) hts hiX11 hown rfl 3 (by decide) hk41 (fun _ h9 => h9) rfl dX11_bake_68 ?_
    refine x_geti hx hb hw (cX20 hE) (own := RX11) (ref := RX5) (C := RX5) (T := TX5) (N := 5) hts hiX5 hown rfl 0 (by decide) hk186 (fun _ h9 => h9) rfl dX11_bake_71 ?_
    refine lv_bipush (v := 10) hx hb dX11_bake_74 (by decide) ?_
    refine lv_iadd hx hb dX11_bake_76 ?_
    exact x_tiret hx hb hr hlk hw hf (Nat.le_of_ble_eq_true rfl) (Nat.le_of_ble_eq_true rfl) dX11_bake_77
  have h33 : ∀ (a1 : Int32) (σ : xSt) (H : Heap) (locs : List Loc) (ls : Array Slot), xw E A s.heap s σ H locs → lv_has ls 2 [(0, .ref (E.a 0)), (1, .int a1)] → fX11_bake_c33 a1 σ = some (o1, o2) → W p l e rmX11_bake s m args below meth c H locs 1 6 (vx_MQ below (xQt E A o1 o2) (xXt E A o1 o2) args s 2 12 A) (F0 m 33 ls []) := by
    intro a1 σ H locs ls hw hl hf
    unfold fX11_bake_c33 at hf
    refine lv_iconst (v := 0) hx hb dX11_bake_33 (by decide) ?_
    exact h34 a1 0 σ _ _ _ hw (lv_sub hl [0, 1] rfl) hf
  refine lv_aload_n hx hb dX11_bake_0 rfl (lv_at hl 0 rfl) ?_
  refine lv_iload_n hx hb dX11_bake_1 rfl (lv_at hl 1 rfl) ?_
  rcases xct_e hf with ⟨k2, σ2, hcl, hf⟩ | ⟨r1, σ2, hcl, hf⟩
  · refine x_tcallv (vx_runV (As := [.int p0]) (rest := []) ⟨hx, hb, hml, hown, hts⟩ (mX11_needDough hl0 hE p0 σ (.inr k2) σ2 hcl s.heap.size) (cwV 1 hts gX11_bake_X11_needDough rfl rfl rfl (by decide +kernel) ⟨Nat.le_of_ble_eq_true rfl, Nat.le_of_ble_eq_true rfl⟩) (x_preV _ hw hA hG (cX0 hE) rfl) rfl rfl hl.1 rfl (lv_room (Nat.le_of_ble_eq_true rfl)) dX11_bake_2 ⟨Nat.le_of_ble_eq_true rfl, Nat.le_of_ble_eq_true rfl⟩) hw hA (fun q9 ce H locs h1 h2 h3 hw => ?_) (fun H locs h1 hw => nomatch h1)
    exact x_tout hlk hex h1 h2 h3 hw hf (Nat.le_of_ble_eq_true rfl) (Nat.le_of_ble_eq_true rfl)
  refine x_tcallv (vx_runV (As := [.int p0]) (rest := []) ⟨hx, hb, hml, hown, hts⟩ (mX11_needDough hl0 hE p0 σ (.inl r1) σ2 hcl s.heap.size) (cwV 1 hts gX11_bake_X11_needDough rfl rfl rfl (by decide +kernel) ⟨Nat.le_of_ble_eq_true rfl, Nat.le_of_ble_eq_true rfl⟩) (x_preV _ hw hA hG (cX0 hE) rfl) rfl rfl hl.1 rfl (lv_room (Nat.le_of_ble_eq_true rfl)) dX11_bake_2 ⟨Nat.le_of_ble_eq_true rfl, Nat.le_of_ble_eq_true rfl⟩) hw hA (fun q9 ce H locs h1 h2 h3 hw => by obtain ⟨_, h9, _⟩ := h3; cases h9) (fun H locs h1 hw => ?_)
  clear hcl h1
  refine lv_aload_n hx hb dX11_bake_5 rfl (lv_at hl 0 rfl) ?_
  refine lv_iload_n hx hb dX11_bake_6 rfl (lv_at hl 1 rfl) ?_
  obtain ⟨r3, σ4, hcl, hf⟩ := xc2_f hf
  refine x_calli (va_runV (As := [.int p0]) (rest := []) ⟨hx, hb, hml, hown, hts⟩ (mX11_isForOven hE p0 σ2 r3 σ4 hcl H.size) (cwV 1 hts gX11_bake_X11_isForOven rfl rfl rfl (by decide +kernel) ⟨Nat.le_of_ble_eq_true rfl, Nat.le_of_ble_eq_true rfl⟩) (x_preV _ hw hA hG (cX0 hE) rfl) rfl rfl hl.1 rfl (lv_room (Nat.le_of_ble_eq_true rfl)) dX11_bake_7 ⟨Nat.le_of_ble_eq_true rfl, Nat.le_of_ble_eq_true rfl⟩) hw hA (fun H locs hw => ?_)
  clear hcl
  refine lv_if_eq (tgt := 33) hx hb dX11_bake_10 (by decide) (fun c10 => ?_) (fun c10 => ?_)
  · replace hf := xif_pos c10 hf
    exact h33 p0 σ4 _ _ _ hw (lv_sub hl [0, 1] rfl) hf
  · replace hf := xif_neg c10 hf
    refine lv_aload_n hx hb dX11_bake_13 rfl (lv_at hl 0 rfl) ?_
    refine lv_aload_n hx hb dX11_bake_14 rfl (lv_at hl 0 rfl) ?_
    refine x_getr hx hb hw (cX0 hE) (own := RX11) (ref := RX11) (C := RX11) (T := TX11) (N := 14) hts hiX11 hown rfl 2 (by decide) hk36 (fun _ h9 => h9) rfl dX11_bake_15 ?_
    refine x_getr hx hb hw (cX12 hE) (own := RX11) (ref := RX2) (C := RX2) (T := TX2) (N := 8) hts hiX2 hown rfl 0 (by decide) hk216 (fun _ h9 => h9) rfl dX11_bake_18 ?_
    refine lv_iload_n hx hb dX11_bake_21 rfl (lv_at hl 1 rfl) ?_
    obtain ⟨hin, hf⟩ := xr_f hf
    refine x_iald hx hb hw (cX13 hE) hin dX11_bake_22 ?_
    refine lv_topi (fun v5 ex => ?_)
    replace hf := hf v5 ex
    clear ex hin
    obtain ⟨r6, σ7, hcl, hf⟩ := xc2_f hf
    refine x_calli (va_runV (As := [.int v5]) (rest := []) ⟨hx, hb, hml, hown, hts⟩ (mX11_isOvenFor hE v5 σ4 r6 σ7 hcl H.size) (cwV 1 hts gX11_bake_X11_isOvenFor rfl rfl rfl (by decide +kernel) ⟨Nat.le_of_ble_eq_true rfl, Nat.le_of_ble_eq_true rfl⟩) (x_preV _ hw hA hG (cX0 hE) rfl) rfl rfl hl.1 rfl (lv_room (Nat.le_of_ble_eq_true rfl)) dX11_bake_23 ⟨Nat.le_of_ble_eq_true rfl, Nat.le_of_ble_eq_true rfl⟩) hw hA (fun H locs hw => ?_)
    clear hcl
    refine lv_if_eq (tgt := 33) hx hb dX11_bake_26 (by decide) (fun c26 => ?_) (fun c26 => ?_)
    · replace hf := xif_pos c26 hf
      exact h33 p0 σ7 _ _ _ hw (lv_sub hl [0, 1] rfl) hf
    · replace hf := xif_neg c26 hf
      refine lv_iconst (v := 1) hx hb dX11_bake_29 (by decide) ?_
      refine lv_goto (tgt := 34) hx hb dX11_bake_30 (by decide) ?_
      exact h34 p0 1 σ7 _ _ _ hw (lv_sub hl [0, 1] rfl) hf

def fX11_planned (p0 : Int32) (σ : xSt) : Option (xO × xSt) := (xct (fX11_needDough p0 σ) fun r1 σ2 => (xc (fX7_make σ2) fun σ4 => (xr σ4 24 20 p0 fun v5 => some ((.inl v5 : xO), σ4))))
abbrev rmX11_planned : Room := { frames := 8, cells := 1, slots := 6, locals := 131 }
set_option maxRecDepth 100000 in
set_option maxHeartbeats 4000000 in
theorem mX11_planned {l : Launch} (hl0 : l.stackTraces = false) {E : xE} (hE : E.sh = shX) (p0 : Int32) (σ : xSt) (o1 : xO) (o2 : xSt) (hf : fX11_planned p0 σ = some (o1, o2)) : xMt l yX11_planned wsX11_planned rmX11_planned E [.ref (E.a 0), .int p0] σ o1 o2 1 := by
  unfold fX11_planned at hf
  refine xMt_of (cc := cX11_planned) (maxL := 2) (ret := (some .int)) (by decide) rfl (Nat.le_of_ble_eq_true rfl) ?_
  intro p e s m args below meth c A ls ⟨hx, hb, hr, hml, hown, hts, hlk⟩ hA hG hw hl hex
  have hown : s.vm.findClass RX11 = some m.cls := hown
  have hl : lv_has ls 2 [(0, .ref (E.a 0)), (1, .int p0)] := hl
  have hk50 := hts (.fieldLink RX11 50 "OvenRound" "plan" "LOvenRound$Plan;") (by decide +kernel)
  have hiX11 : ∀ w ∈ wsX110, w ∈ wsX11_planned := by decide +kernel
  have hk249 := hts (.fieldLink RX11 249 "OvenRound$Plan" "round" "[I") (by decide +kernel)
  have hiX7 : ∀ w ∈ wsX70, w ∈ wsX11_planned := by decide +kernel
  refine lv_aload_n hx hb dX11_planned_0 rfl (lv_at hl 0 rfl) ?_
  refine lv_iload_n hx hb dX11_planned_1 rfl (lv_at hl 1 rfl) ?_
  rcases xct_e hf with ⟨k2, σ2, hcl, hf⟩ | ⟨r1, σ2, hcl, hf⟩
  · refine x_tcallv (vx_runV (As := [.int p0]) (rest := []) ⟨hx, hb, hml, hown, hts⟩ (mX11_needDough hl0 hE p0 σ (.inr k2) σ2 hcl s.heap.size) (cwV 1 hts gX11_planned_X11_needDough rfl rfl rfl (by decide +kernel) ⟨Nat.le_of_ble_eq_true rfl, Nat.le_of_ble_eq_true rfl⟩) (x_preV _ hw hA hG (cX0 hE) rfl) rfl rfl hl.1 rfl (lv_room (Nat.le_of_ble_eq_true rfl)) dX11_planned_2 ⟨Nat.le_of_ble_eq_true rfl, Nat.le_of_ble_eq_true rfl⟩) hw hA (fun q9 ce H locs h1 h2 h3 hw => ?_) (fun H locs h1 hw => nomatch h1)
    exact x_tout hlk hex h1 h2 h3 hw hf (Nat.le_of_ble_eq_true rfl) (Nat.le_of_ble_eq_true rfl)
  refine x_tcallv (vx_runV (As := [.int p0]) (rest := []) ⟨hx, hb, hml, hown, hts⟩ (mX11_needDough hl0 hE p0 σ (.inl r1) σ2 hcl s.heap.size) (cwV 1 hts gX11_planned_X11_needDough rfl rfl rfl (by decide +kernel) ⟨Nat.le_of_ble_eq_true rfl, Nat.le_of_ble_eq_true rfl⟩) (x_preV _ hw hA hG (cX0 hE) rfl) rfl rfl hl.1 rfl (lv_room (Nat.le_of_ble_eq_true rfl)) dX11_planned_2 ⟨Nat.le_of_ble_eq_true rfl, Nat.le_of_ble_eq_true rfl⟩) hw hA (fun q9 ce H locs h1 h2 h3 hw => by obtain ⟨_, h9, _⟩ := h3; cases h9) (fun H locs h1 hw => ?_)
  clear hcl h1
  refine lv_aload_n hx hb dX11_planned_5 rfl (lv_at hl 0 rfl) ?_
  refine x_getr hx hb hw (cX0 hE) (own := RX11) (ref := RX11) (C := RX11) (T := TX11) (N := 14) hts hiX11 hown rfl 4 (by decide) hk50 (fun _ h9 => h9) rfl dX11_planned_6 ?_
  obtain ⟨σ4, hcl, hf⟩ := xc_e hf
  refine x_callv (va_runV (As := []) (rest := []) ⟨hx, hb, hml, hown, hts⟩ (mX7_make hE σ2 σ4 hcl H.size) (cwV 0 hts gX11_planned_X7_make rfl rfl rfl (by decide +kernel) ⟨Nat.le_of_ble_eq_true rfl, Nat.le_of_ble_eq_true rfl⟩) (x_preV _ hw hA hG (cX21 hE) rfl) rfl rfl hl.1 rfl (lv_room (Nat.le_of_ble_eq_true rfl)) dX11_planned_9 ⟨Nat.le_of_ble_eq_true rfl, Nat.le_of_ble_eq_true rfl⟩) hw hA (fun H locs hw => ?_)
  clear hcl
  refine lv_aload_n hx hb dX11_planned_12 rfl (lv_at hl 0 rfl) ?_
  refine x_getr hx hb hw (cX0 hE) (own := RX11) (ref := RX11) (C := RX11) (T := TX11) (N := 14) hts hiX11 hown rfl 4 (by decide) hk50 (fun _ h9 => h9) rfl dX11_planned_13 ?_
  refine x_getr hx hb hw (cX21 hE) (own := RX11) (ref := RX7) (C := RX7) (T := TX7) (N := 8) hts hiX7 hown rfl 5 (by decide) hk249 (fun _ h9 => h9) rfl dX11_planned_16 ?_
  refine lv_iload_n hx hb dX11_planned_19 rfl (lv_at hl 1 rfl) ?_
  obtain ⟨hin, hf⟩ := xr_f hf
  refine x_iald hx hb hw (cX24 hE) hin dX11_planned_20 ?_
  refine lv_topi (fun v5 ex => ?_)
  replace hf := hf v5 ex
  clear ex hin
  exact x_tiret hx hb hr hlk hw hf (Nat.le_of_ble_eq_true rfl) (Nat.le_of_ble_eq_true rfl) dX11_planned_21

def fX11_inPlan (σ : xSt) : Option (Int32 × xSt) := (xc (fX7_make σ) fun σ2 => (xc2 (fX7_doughsInPlan σ2) fun r3 σ4 => some (r3, σ4)))
abbrev rmX11_inPlan : Room := { frames := 5, cells := 0, slots := 0, locals := 109 }
set_option maxRecDepth 100000 in
set_option maxHeartbeats 4000000 in
theorem mX11_inPlan {l : Launch} {E : xE} (hE : E.sh = shX) (σ : xSt) (o1 : Int32) (o2 : xSt) (hf : fX11_inPlan σ = some (o1, o2)) : xMi l yX11_inPlan wsX11_inPlan rmX11_inPlan E [.ref (E.a 0)] σ o1 o2 := by
  unfold fX11_inPlan at hf
  refine xMi_of (cc := cX11_inPlan) (maxL := 1) (ret := (some .int)) (by decide) rfl (Nat.le_of_ble_eq_true rfl) ?_
  intro p e s m args below meth c A ls ⟨hx, hb, hr, hml, hown, hts, hlk⟩ hA hG hw hl
  have hown : s.vm.findClass RX11 = some m.cls := hown
  have hl : lv_has ls 1 [(0, .ref (E.a 0))] := hl
  have hk50 := hts (.fieldLink RX11 50 "OvenRound" "plan" "LOvenRound$Plan;") (by decide +kernel)
  have hiX11 : ∀ w ∈ wsX110, w ∈ wsX11_inPlan := by decide +kernel
  refine lv_aload_n hx hb dX11_inPlan_0 rfl (lv_at hl 0 rfl) ?_
  refine x_getr hx hb hw (cX0 hE) (own := RX11) (ref := RX11) (C := RX11) (T := TX11) (N := 14) hts hiX11 hown rfl 4 (by decide) hk50 (fun _ h9 => h9) rfl dX11_inPlan_1 ?_
  obtain ⟨σ2, hcl, hf⟩ := xc_e hf
  refine x_callv (va_runV (As := []) (rest := []) ⟨hx, hb, hml, hown, hts⟩ (mX7_make hE σ σ2 hcl s.heap.size) (cwV 0 hts gX11_inPlan_X7_make rfl rfl rfl (by decide +kernel) ⟨Nat.le_of_ble_eq_true rfl, Nat.le_of_ble_eq_true rfl⟩) (x_preV _ hw hA hG (cX21 hE) rfl) rfl rfl hl.1 rfl (lv_room (Nat.le_of_ble_eq_true rfl)) dX11_inPlan_4 ⟨Nat.le_of_ble_eq_true rfl, Nat.le_of_ble_eq_true rfl⟩) hw hA (fun H locs hw => ?_)
  clear hcl
  refine lv_aload_n hx hb dX11_inPlan_7 rfl (lv_at hl 0 rfl) ?_
  refine x_getr hx hb hw (cX0 hE) (own := RX11) (ref := RX11) (C := RX11) (T := TX11) (N := 14) hts hiX11 hown rfl 4 (by decide) hk50 (fun _ h9 => h9) rfl dX11_inPlan_8 ?_
  obtain ⟨r3, σ4, hcl, hf⟩ := xc2_f hf
  refine x_calli (va_runV (As := []) (rest := []) ⟨hx, hb, hml, hown, hts⟩ (mX7_doughsInPlan hE σ2 r3 σ4 hcl H.size) (cwV 0 hts gX11_inPlan_X7_doughsInPlan rfl rfl rfl (by decide +kernel) ⟨Nat.le_of_ble_eq_true rfl, Nat.le_of_ble_eq_true rfl⟩) (x_preV _ hw hA hG (cX21 hE) rfl) rfl rfl hl.1 rfl (lv_room (Nat.le_of_ble_eq_true rfl)) dX11_inPlan_11 ⟨Nat.le_of_ble_eq_true rfl, Nat.le_of_ble_eq_true rfl⟩) hw hA (fun H locs hw => ?_)
  clear hcl
  exact x_iret hx hb hr hlk hw hf dX11_inPlan_14

def fX11_late (σ : xSt) : Option (Int32 × xSt) := (xc (fX7_make σ) fun σ2 => (xc2 (fX7_doughsWithoutRound σ2) fun r3 σ4 => some (r3, σ4)))
abbrev rmX11_late : Room := { frames := 5, cells := 0, slots := 0, locals := 109 }
set_option maxRecDepth 100000 in
set_option maxHeartbeats 4000000 in
theorem mX11_late {l : Launch} {E : xE} (hE : E.sh = shX) (σ : xSt) (o1 : Int32) (o2 : xSt) (hf : fX11_late σ = some (o1, o2)) : xMi l yX11_late wsX11_late rmX11_late E [.ref (E.a 0)] σ o1 o2 := by
  unfold fX11_late at hf
  refine xMi_of (cc := cX11_late) (maxL := 1) (ret := (some .int)) (by decide) rfl (Nat.le_of_ble_eq_true rfl) ?_
  intro p e s m args below meth c A ls ⟨hx, hb, hr, hml, hown, hts, hlk⟩ hA hG hw hl
  have hown : s.vm.findClass RX11 = some m.cls := hown
  have hl : lv_has ls 1 [(0, .ref (E.a 0))] := hl
  have hk50 := hts (.fieldLink RX11 50 "OvenRound" "plan" "LOvenRound$Plan;") (by decide +kernel)
  have hiX11 : ∀ w ∈ wsX110, w ∈ wsX11_late := by decide +kernel
  refine lv_aload_n hx hb dX11_late_0 rfl (lv_at hl 0 rfl) ?_
  refine x_getr hx hb hw (cX0 hE) (own := RX11) (ref := RX11) (C := RX11) (T := TX11) (N := 14) hts hiX11 hown rfl 4 (by decide) hk50 (fun _ h9 => h9) rfl dX11_late_1 ?_
  obtain ⟨σ2, hcl, hf⟩ := xc_e hf
  refine x_callv (va_runV (As := []) (rest := []) ⟨hx, hb, hml, hown, hts⟩ (mX7_make hE σ σ2 hcl s.heap.size) (cwV 0 hts gX11_late_X7_make rfl rfl rfl (by decide +kernel) ⟨Nat.le_of_ble_eq_true rfl, Nat.le_of_ble_eq_true rfl⟩) (x_preV _ hw hA hG (cX21 hE) rfl) rfl rfl hl.1 rfl (lv_room (Nat.le_of_ble_eq_true rfl)) dX11_late_4 ⟨Nat.le_of_ble_eq_true rfl, Nat.le_of_ble_eq_true rfl⟩) hw hA (fun H locs hw => ?_)
  clear hcl
  refine lv_aload_n hx hb dX11_late_7 rfl (lv_at hl 0 rfl) ?_
  refine x_getr hx hb hw (cX0 hE) (own := RX11) (ref := RX11) (C := RX11) (T := TX11) (N := 14) hts hiX11 hown rfl 4 (by decide) hk50 (fun _ h9 => h9) rfl dX11_late_8 ?_
  obtain ⟨r3, σ4, hcl, hf⟩ := xc2_f hf
  refine x_calli (va_runV (As := []) (rest := []) ⟨hx, hb, hml, hown, hts⟩ (mX7_doughsWithoutRound hE σ2 r3 σ4 hcl H.size) (cwV 0 hts gX11_late_X7_doughsWithoutRound rfl rfl rfl (by decide +kernel) ⟨Nat.le_of_ble_eq_true rfl, Nat.le_of_ble_eq_true rfl⟩) (x_preV _ hw hA hG (cX21 hE) rfl) rfl rfl hl.1 rfl (lv_room (Nat.le_of_ble_eq_true rfl)) dX11_late_11 ⟨Nat.le_of_ble_eq_true rfl, Nat.le_of_ble_eq_true rfl⟩) hw hA (fun H locs hw => ?_)
  clear hcl
  exact x_iret hx hb hr hlk hw hf dX11_late_14

def fX11_breads (p0 : Int32) (p1 : Int32) (σ : xSt) : Option (xO × xSt) := (xct (fX11_needRecipe p0 σ) fun r1 σ2 => (xc2 (fX11_isWithin p1 0 3 σ2) fun r3 σ4 => (xct (fX11_needArgument r3 σ4) fun r5 σ6 => (xr σ6 28 24 ((p0 * 4) + p1) fun v7 => some ((.inl v7 : xO), σ6)))))
abbrev rmX11_breads : Room := { frames := 8, cells := 2, slots := 12, locals := 131 }
set_option maxRecDepth 100000 in
set_option maxHeartbeats 4000000 in
theorem mX11_breads {l : Launch} (hl0 : l.stackTraces = false) {E : xE} (hE : E.sh = shX) (p0 : Int32) (p1 : Int32) (σ : xSt) (o1 : xO) (o2 : xSt) (hf : fX11_breads p0 p1 σ = some (o1, o2)) : xMt l yX11_breads wsX11_breads rmX11_breads E [.ref (E.a 0), .int p0, .int p1] σ o1 o2 2 := by
  unfold fX11_breads at hf
  refine xMt_of (cc := cX11_breads) (maxL := 3) (ret := (some .int)) (by decide) rfl (Nat.le_of_ble_eq_true rfl) ?_
  intro p e s m args below meth c A ls ⟨hx, hb, hr, hml, hown, hts, hlk⟩ hA hG hw hl hex
  have hown : s.vm.findClass RX11 = some m.cls := hown
  have hl : lv_has ls 3 [(0, .ref (E.a 0)), (1, .int p0), (2, .int p1)] := hl
  have hk55 := hts (.fieldLink RX11 55 "OvenRound" "breads" "LOvenRound$Breads;") (by decide +kernel)
  have hiX11 : ∀ w ∈ wsX110, w ∈ wsX11_breads := by decide +kernel
  have hk258 := hts (.fieldLink RX11 258 "OvenRound$Breads" "pieces" "[I") (by decide +kernel)
  have hiX0 : ∀ w ∈ wsX00, w ∈ wsX11_breads := by decide +kernel
  refine lv_aload_n hx hb dX11_breads_0 rfl (lv_at hl 0 rfl) ?_
  refine lv_iload_n hx hb dX11_breads_1 rfl (lv_at hl 1 rfl) ?_
  rcases xct_e hf with ⟨k2, σ2, hcl, hf⟩ | ⟨r1, σ2, hcl, hf⟩
  · refine x_tcallv (vx_runV (As := [.int p0]) (rest := []) ⟨hx, hb, hml, hown, hts⟩ (mX11_needRecipe hl0 hE p0 σ (.inr k2) σ2 hcl s.heap.size) (cwV 1 hts gX11_breads_X11_needRecipe rfl rfl rfl (by decide +kernel) ⟨Nat.le_of_ble_eq_true rfl, Nat.le_of_ble_eq_true rfl⟩) (x_preV _ hw hA hG (cX0 hE) rfl) rfl rfl hl.1 rfl (lv_room (Nat.le_of_ble_eq_true rfl)) dX11_breads_2 ⟨Nat.le_of_ble_eq_true rfl, Nat.le_of_ble_eq_true rfl⟩) hw hA (fun q9 ce H locs h1 h2 h3 hw => ?_) (fun H locs h1 hw => nomatch h1)
    exact x_tout hlk hex h1 h2 h3 hw hf (Nat.le_of_ble_eq_true rfl) (Nat.le_of_ble_eq_true rfl)
  refine x_tcallv (vx_runV (As := [.int p0]) (rest := []) ⟨hx, hb, hml, hown, hts⟩ (mX11_needRecipe hl0 hE p0 σ (.inl r1) σ2 hcl s.heap.size) (cwV 1 hts gX11_breads_X11_needRecipe rfl rfl rfl (by decide +kernel) ⟨Nat.le_of_ble_eq_true rfl, Nat.le_of_ble_eq_true rfl⟩) (x_preV _ hw hA hG (cX0 hE) rfl) rfl rfl hl.1 rfl (lv_room (Nat.le_of_ble_eq_true rfl)) dX11_breads_2 ⟨Nat.le_of_ble_eq_true rfl, Nat.le_of_ble_eq_true rfl⟩) hw hA (fun q9 ce H locs h1 h2 h3 hw => by obtain ⟨_, h9, _⟩ := h3; cases h9) (fun H locs h1 hw => ?_)
  clear hcl h1
  refine lv_iload_n hx hb dX11_breads_5 rfl (lv_at hl 2 rfl) ?_
  refine lv_iconst (v := 0) hx hb dX11_breads_6 (by decide) ?_
  refine lv_iconst (v := 3) hx hb dX11_breads_7 (by decide) ?_
  obtain ⟨r3, σ4, hcl, hf⟩ := xc2_f hf
  refine x_calli (va_runS (As := [.int p1, .int 0, .int 3]) (rest := []) ⟨hx, hb, hml, hown, hts⟩ (mX11_isWithin hE p1 0 3 σ2 r3 σ4 hcl H.size) (va_cwS 3 hts gX11_breads_X11_isWithin rfl rfl rfl (by decide +kernel) ⟨Nat.le_of_ble_eq_true rfl, Nat.le_of_ble_eq_true rfl⟩) (x_preS _ hw hA hG) rfl rfl hl.1 rfl (lv_room (Nat.le_of_ble_eq_true rfl)) dX11_breads_8 ⟨Nat.le_of_ble_eq_true rfl, Nat.le_of_ble_eq_true rfl⟩) hw hA (fun H locs hw => ?_)
  clear hcl
  rcases xct_e hf with ⟨k11, σ6, hcl, hf⟩ | ⟨r5, σ6, hcl, hf⟩
  · refine x_tcallv (vx_runS (As := [.int r3]) (rest := []) ⟨hx, hb, hml, hown, hts⟩ (mX11_needArgument hl0 r3 σ4 (.inr k11) σ6 hcl H.size) (va_cwS 1 hts gX11_breads_X11_needArgument rfl rfl rfl (by decide +kernel) ⟨Nat.le_of_ble_eq_true rfl, Nat.le_of_ble_eq_true rfl⟩) (x_preS _ hw hA hG) rfl rfl hl.1 rfl (lv_room (Nat.le_of_ble_eq_true rfl)) dX11_breads_11 ⟨Nat.le_of_ble_eq_true rfl, Nat.le_of_ble_eq_true rfl⟩) hw hA (fun q9 ce H locs h1 h2 h3 hw => ?_) (fun H locs h1 hw => nomatch h1)
    exact x_tout hlk hex h1 h2 h3 hw hf (Nat.le_of_ble_eq_true rfl) (Nat.le_of_ble_eq_true rfl)
  refine x_tcallv (vx_runS (As := [.int r3]) (rest := []) ⟨hx, hb, hml, hown, hts⟩ (mX11_needArgument hl0 r3 σ4 (.inl r5) σ6 hcl H.size) (va_cwS 1 hts gX11_breads_X11_needArgument rfl rfl rfl (by decide +kernel) ⟨Nat.le_of_ble_eq_true rfl, Nat.le_of_ble_eq_true rfl⟩) (x_preS _ hw hA hG) rfl rfl hl.1 rfl (lv_room (Nat.le_of_ble_eq_true rfl)) dX11_breads_11 ⟨Nat.le_of_ble_eq_true rfl, Nat.le_of_ble_eq_true rfl⟩) hw hA (fun q9 ce H locs h1 h2 h3 hw => by obtain ⟨_, h9, _⟩ := h3; cases h9) (fun H locs h1 hw => ?_)
  clear hcl h1
  refine lv_aload_n hx hb dX11_breads_14 rfl (lv_at hl 0 rfl) ?_
  refine x_getr hx hb hw (cX0 hE) (own := RX11) (ref := RX11) (C := RX11) (T := TX11) (N := 14) hts hiX11 hown rfl 5 (by decide) hk55 (fun _ h9 => h9) rfl dX11_breads_15 ?_
  refine x_getr hx hb hw (cX27 hE) (own := RX11) (ref := RX0) (C := RX0) (T := TX0) (N := 1) hts hiX0 hown rfl 0 (by decide) hk258 (fun _ h9 => h9) rfl dX11_breads_18 ?_
  refine lv_iload_n hx hb dX11_breads_21 rfl (lv_at hl 1 rfl) ?_
  refine lv_iconst (v := 4) hx hb dX11_breads_22 (by decide) ?_
  refine lv_imul hx hb dX11_breads_23 ?_
  refine lv_iload_n hx hb dX11_breads_24 rfl (lv_at hl 2 rfl) ?_
  refine lv_iadd hx hb dX11_breads_25 ?_
  obtain ⟨hin, hf⟩ := xr_f hf
  refine x_iald hx hb hw (cX28 hE) hin dX11_breads_26 ?_
  refine lv_topi (fun v7 ex => ?_)
  replace hf := hf v7 ex
  clear ex hin
  exact x_tiret hx hb hr hlk hw hf (Nat.le_of_ble_eq_true rfl) (Nat.le_of_ble_eq_true rfl) dX11_breads_27

def fX11_endDay_c8 : Nat → Int32 → Int32 → xSt → Option (Int32 × xSt)
  | 0 => fun _ _ _ => none
  | n + 1 => fun a1 a2 σ => (if (σ 4 7) ≤ a2 then some (a1, σ) else (xc2 (fX0_growOlder a2 σ) fun r3 σ4 => (xl (a1 + r3) fun v5 => (xr σ4 5 6 a2 fun v6 => (xp σ4 2 3 ((σ4 2 3) + (r3 * v6)) fun σ7 => (xl (a2 + 1) fun v8 => fX11_endDay_c8 n v5 v8 σ7))))))
theorem fX11_endDay_c8_s (n : Nat) (a1 : Int32) (a2 : Int32) (σ : xSt) : fX11_endDay_c8 (n + 1) a1 a2 σ = ((if (σ 4 7) ≤ a2 then some (a1, σ) else (xc2 (fX0_growOlder a2 σ) fun r3 σ4 => (xl (a1 + r3) fun v5 => (xr σ4 5 6 a2 fun v6 => (xp σ4 2 3 ((σ4 2 3) + (r3 * v6)) fun σ7 => (xl (a2 + 1) fun v8 => fX11_endDay_c8 n v5 v8 σ7)))))) : Option (Int32 × xSt)) := rfl
def fX11_endDay (σ : xSt) : Option (Int32 × xSt) := (xc (fX11_remember σ) fun σ2 => fX11_endDay_c8 xFU 0 0 σ2)
abbrev rmX11_endDay : Room := { frames := 3, cells := 0, slots := 0, locals := 139 }
set_option maxRecDepth 100000 in
set_option maxHeartbeats 4000000 in
theorem mX11_endDay {l : Launch} {E : xE} (hE : E.sh = shX) (σ : xSt) (o1 : Int32) (o2 : xSt) (hf : fX11_endDay σ = some (o1, o2)) : xMi l yX11_endDay wsX11_endDay rmX11_endDay E [.ref (E.a 0)] σ o1 o2 := by
  unfold fX11_endDay at hf
  refine xMi_of (cc := cX11_endDay) (maxL := 4) (ret := (some .int)) (by decide) rfl (Nat.le_of_ble_eq_true rfl) ?_
  intro p e s m args below meth c A ls ⟨hx, hb, hr, hml, hown, hts, hlk⟩ hA hG hw hl
  have hown : s.vm.findClass RX11 = some m.cls := hown
  have hl : lv_has ls 4 [(0, .ref (E.a 0))] := hl
  have hk31 := hts (.fieldLink RX11 31 "OvenRound" "recipes" "LOvenRound$Recipes;") (by decide +kernel)
  have hiX11 : ∀ w ∈ wsX110, w ∈ wsX11_endDay := by decide +kernel
  have hk121 := hts (.fieldLink RX11 121 "OvenRound$Recipes" "count" "I") (by decide +kernel)
  have hiX8 : ∀ w ∈ wsX80, w ∈ wsX11_endDay := by decide +kernel
  have hk55 := hts (.fieldLink RX11 55 "OvenRound" "breads" "LOvenRound$Breads;") (by decide +kernel)
  have hk24 := hts (.fieldLink RX11 24 "OvenRound" "store" "LOvenRound$Store;") (by decide +kernel)
  have hk229 := hts (.fieldLink RX11 229 "OvenRound$Store" "thrown" "I") (by decide +kernel)
  have hiX10 : ∀ w ∈ wsX100, w ∈ wsX11_endDay := by decide +kernel
  have hk124 := hts (.fieldLink RX11 124 "OvenRound$Recipes" "piece" "[I") (by decide +kernel)
  have h8 : ∀ (n : Nat) (a1 : Int32) (a2 : Int32) (σ : xSt) (H : Heap) (locs : List Loc) (ls : Array Slot), xw E A s.heap s σ H locs → lv_has ls 4 [(0, .ref (E.a 0)), (1, .int a1), (2, .int a2)] → fX11_endDay_c8 n a1 a2 σ = some (o1, o2) → W p l e rmX11_endDay s m args below meth c H locs 0 0 (MQ below (xQi E A o1 o2) args s 0 0 A) (F0 m 8 ls []) := by
    intro n8
    induction n8 with
    | zero => intro a1 a2 σ H locs ls hw hl hf; exact nomatch hf
    | succ n8 ih8 =>
      intro a1 a2 σ H locs ls hw hl hf
      rw [fX11_endDay_c8_s] at hf
      refine lv_iload_n hx hb dX11_endDay_8 rfl (lv_at hl 2 rfl) ?_
      refine lv_aload_n hx hb dX11_endDay_9 rfl (lv_at hl 0 rfl) ?_
      refine x_getr hx hb hw (cX0 hE) (own := RX11) (ref := RX11) (C := RX11) (T := TX11) (N := 14) hts hiX11 hown rfl 1 (by decide) hk31 (fun _ h9 => h9) rfl dX11_endDay_10 ?_
      refine x_geti hx hb hw (cX4 hE) (own := RX11) (ref := RX8) (C := RX8) (T := TX8) (N := 8) hts hiX8 hown rfl 7 (by decide) hk121 (fun _ h9 => h9) rfl dX11_endDay_13 ?_
      refine lv_icmp_ge (tgt := 61) hx hb dX11_endDay_16 (by decide) (fun c16 => ?_) (fun c16 => ?_)
      · replace hf := xif_pos c16 hf
        refine lv_iload_n hx hb dX11_endDay_61 rfl (lv_at hl 1 rfl) ?_
        exact x_iret hx hb hr hlk hw hf dX11_endDay_62
      · replace hf := xif_neg c16 hf
        refine lv_aload_n hx hb dX11_endDay_19 rfl (lv_at hl 0 rfl) ?_
        refine x_getr hx hb hw (cX0 hE) (own := RX11) (ref := RX11) (C := RX11) (T := TX11) (N := 14) hts hiX11 hown rfl 5 (by decide) hk55 (fun _ h9 => h9) rfl dX11_endDay_20 ?_
        refine lv_iload_n hx hb dX11_endDay_23 rfl (lv_at hl 2 rfl) ?_
        obtain ⟨r3, σ4, hcl, hf⟩ := xc2_f hf
        refine x_calli (va_runV (As := [.int a2]) (rest := []) ⟨hx, hb, hml, hown, hts⟩ (mX0_growOlder hE a2 σ r3 σ4 hcl H.size) (cwV 1 hts gX11_endDay_X0_growOlder rfl rfl rfl (by decide +kernel) ⟨Nat.le_of_ble_eq_true rfl, Nat.le_of_ble_eq_true rfl⟩) (x_preV _ hw hA hG (cX27 hE) rfl) rfl rfl hl.1 rfl (lv_room (Nat.le_of_ble_eq_true rfl)) dX11_endDay_24 ⟨Nat.le_of_ble_eq_true rfl, Nat.le_of_ble_eq_true rfl⟩) hw hA (fun H locs hw => ?_)
        clear hcl
        refine lv_istore_n (lv' := [(3, .int r3), (0, .ref (E.a 0)), (1, .int a1), (2, .int a2)]) hx hb dX11_endDay_27 rfl hl (by decide) rfl (fun ls hl => ?_)
        refine lv_iload_n hx hb dX11_endDay_28 rfl (lv_at hl 2 rfl) ?_
        refine lv_iload_n hx hb dX11_endDay_29 rfl (lv_at hl 0 rfl) ?_
        refine lv_iadd hx hb dX11_endDay_30 ?_
        refine lv_topi (fun v5 ex => ?_)
        replace hf := xl_f hf v5 ex
        clear ex
        refine lv_istore_n (lv' := [(1, .int v5), (3, .int r3), (0, .ref (E.a 0)), (2, .int a2)]) hx hb dX11_endDay_31 rfl hl (by decide) rfl (fun ls hl => ?_)
        refine lv_aload_n hx hb dX11_endDay_32 rfl (lv_at hl 2 rfl) ?_
        refine x_getr hx hb hw (cX0 hE) (own := RX11) (ref := RX11) (C := RX11) (T := TX11) (N := 14) hts hiX11 hown rfl 0 (by decide) hk24 (fun _ h9 => h9) rfl dX11_endDay_33 ?_
        refine lv_dup hx hb dX11_endDay_36 rfl ?_
        refine x_geti hx hb hw (cX2 hE) (own := RX11) (ref := RX10) (C := RX10) (T := TX10) (N := 4) hts hiX10 hown rfl 3 (by decide) hk229 (fun _ h9 => h9) rfl dX11_endDay_37 ?_
        refine lv_iload_n hx hb dX11_endDay_40 rfl (lv_at hl 1 rfl) ?_
        refine lv_aload_n hx hb dX11_endDay_41 rfl (lv_at hl 2 rfl) ?_
        refine x_getr hx hb hw (cX0 hE) (own := RX11) (ref := RX11) (C := RX11) (T := TX11) (N := 14) hts hiX11 hown rfl 1 (by decide) hk31 (fun _ h9 => h9) rfl dX11_endDay_42 ?_
        refine x_getr hx hb hw (cX4 hE) (own := RX11) (ref := RX8) (C := RX8) (T := TX8) (N := 8) hts hiX8 hown rfl 0 (by decide) hk124 (fun _ h9 => h9) rfl dX11_endDay_45 ?_
        refine lv_iload_n hx hb dX11_endDay_48 rfl (lv_at hl 3 rfl) ?_
        obtain ⟨hin, hf⟩ := xr_f hf
        refine x_iald hx hb hw (cX5 hE) hin dX11_endDay_49 ?_
        refine lv_topi (fun v6 ex => ?_)
        replace hf := hf v6 ex
        clear ex hin
        refine lv_imul hx hb dX11_endDay_50 ?_
        refine lv_iadd hx hb dX11_endDay_51 ?_
        refine x_puti hx hb hw (cX2 hE) (own := RX11) (ref := RX10) (C := RX10) (T := TX10) (N := 4) hts hiX10 tyX10 tyX10_ok nmX10 hown rfl 3 (by decide) hk229 (fun _ h9 => h9) rfl (by decide +kernel) rfl dX11_endDay_52 (fun σ7 H locs ex hw => ?_)
        replace hf := xp_f hf σ7 ex
        clear ex
        obtain ⟨v8, ex⟩ : ∃ y : Int32, y = (a2 + 1) := ⟨_, rfl⟩
        replace hf := xl_f hf v8 ex
        refine lv_iinc (v := v8) (lv' := [(2, .int v8), (1, .int v5), (3, .int r3), (0, .ref (E.a 0))]) hx hb dX11_endDay_55 hl (k := 3) rfl (by rw [ex]; rfl) (by decide) rfl (fun ls hl => ?_)
        clear ex
        refine lv_goto (tgt := 8) hx hb dX11_endDay_58 (by decide) ?_
        exact ih8 v5 v8 σ7 _ _ _ hw (lv_sub hl [3, 1, 0] rfl) hf
  refine lv_aload_n hx hb dX11_endDay_0 rfl (lv_at hl 0 rfl) ?_
  obtain ⟨σ2, hcl, hf⟩ := xc_e hf
  refine x_callv (va_runV (As := []) (rest := []) ⟨hx, hb, hml, hown, hts⟩ (mX11_remember hE σ σ2 hcl s.heap.size) (cwV 0 hts gX11_endDay_X11_remember rfl rfl rfl (by decide +kernel) ⟨Nat.le_of_ble_eq_true rfl, Nat.le_of_ble_eq_true rfl⟩) (x_preV _ hw hA hG (cX0 hE) rfl) rfl rfl hl.1 rfl (lv_room (Nat.le_of_ble_eq_true rfl)) dX11_endDay_1 ⟨Nat.le_of_ble_eq_true rfl, Nat.le_of_ble_eq_true rfl⟩) hw hA (fun H locs hw => ?_)
  clear hcl
  refine lv_iconst (v := 0) hx hb dX11_endDay_4 (by decide) ?_
  refine lv_istore_n (lv' := [(1, .int 0), (0, .ref (E.a 0))]) hx hb dX11_endDay_5 rfl hl (by decide) rfl (fun ls hl => ?_)
  refine lv_iconst (v := 0) hx hb dX11_endDay_6 (by decide) ?_
  refine lv_istore_n (lv' := [(2, .int 0), (1, .int 0), (0, .ref (E.a 0))]) hx hb dX11_endDay_7 rfl hl (by decide) rfl (fun ls hl => ?_)
  exact h8 xFU 0 0 σ2 _ _ _ hw (lv_sub hl [2, 1, 0] rfl) hf

def fX11_sell_c33 (a1 : Int32) (a2 : Int32) (t0 : Int32) (σ : xSt) : Option (xO × xSt) := (xct (fX11_needState t0 σ) fun r9 σ10 => (xc (fX11_remember σ10) fun σ12 => (xr σ12 5 6 a1 fun v13 => (xp σ12 2 2 ((σ12 2 2) + (a2 * v13)) fun σ14 => (xc2 (fX0_takeOldest a1 a2 σ14) fun r15 σ16 => some ((.inl r15 : xO), σ16))))))
def fX11_sell (p0 : Int32) (p1 : Int32) (σ : xSt) : Option (xO × xSt) := (xct (fX11_needRecipe p0 σ) fun r1 σ2 => (xc2 (fX11_isWithin p1 1 99 σ2) fun r3 σ4 => (xct (fX11_needArgument r3 σ4) fun r5 σ6 => (xc2 (fX0_from p0 0 σ6) fun r7 σ8 => (if r7 < p1 then fX11_sell_c33 p0 p1 0 σ8 else fX11_sell_c33 p0 p1 1 σ8)))))
abbrev rmX11_sell : Room := { frames := 8, cells := 3, slots := 18, locals := 139 }
set_option maxRecDepth 100000 in
set_option maxHeartbeats 4000000 in
theorem mX11_sell {l : Launch} (hl0 : l.stackTraces = false) {E : xE} (hE : E.sh = shX) (p0 : Int32) (p1 : Int32) (σ : xSt) (o1 : xO) (o2 : xSt) (hf : fX11_sell p0 p1 σ = some (o1, o2)) : xMt l yX11_sell wsX11_sell rmX11_sell E [.ref (E.a 0), .int p0, .int p1] σ o1 o2 3 := by
  unfold fX11_sell at hf
  refine xMt_of (cc := cX11_sell) (maxL := 3) (ret := (some .int)) (by decide) rfl (Nat.le_of_ble_eq_true rfl) ?_
  intro p e s m args below meth c A ls ⟨hx, hb, hr, hml, hown, hts, hlk⟩ hA hG hw hl hex
  have hown : s.vm.findClass RX11 = some m.cls := hown
  have hl : lv_has ls 3 [(0, .ref (E.a 0)), (1, .int p0), (2, .int p1)] := hl
  have hk55 := hts (.fieldLink RX11 55 "OvenRound" "breads" "LOvenRound$Breads;") (by decide +kernel)
  have hiX11 : ∀ w ∈ wsX110, w ∈ wsX11_sell := by decide +kernel
  have hk24 := hts (.fieldLink RX11 24 "OvenRound" "store" "LOvenRound$Store;") (by decide +kernel)
  have hk266 := hts (.fieldLink RX11 266 "OvenRound$Store" "sold" "I") (by decide +kernel)
  have hiX10 : ∀ w ∈ wsX100, w ∈ wsX11_sell := by decide +kernel
  have hk31 := hts (.fieldLink RX11 31 "OvenRound" "recipes" "LOvenRound$Recipes;") (by decide +kernel)
  have hk124 := hts (.fieldLink RX11 124 "OvenRound$Recipes" "piece" "[I") (by decide +kernel)
  have hiX8 : ∀ w ∈ wsX80, w ∈ wsX11_sell := by decide +kernel
  have h33 : ∀ (a1 : Int32) (a2 : Int32) (t0 : Int32) (σ : xSt) (H : Heap) (locs : List Loc) (ls : Array Slot), xw E A s.heap s σ H locs → lv_has ls 3 [(0, .ref (E.a 0)), (1, .int a1), (2, .int a2)] → fX11_sell_c33 a1 a2 t0 σ = some (o1, o2) → W p l e rmX11_sell s m args below meth c H locs 2 12 (vx_MQ below (xQt E A o1 o2) (xXt E A o1 o2) args s 3 18 A) (F0 m 33 ls [.int t0]) := by
    intro a1 a2 t0 σ H locs ls hw hl hf
    unfold fX11_sell_c33 at hf
    rcases xct_e hf with ⟨k33, σ10, hcl, hf⟩ | ⟨r9, σ10, hcl, hf⟩
    · refine x_tcallv (vx_runS (As := [.int t0]) (rest := []) ⟨hx, hb, hml, hown, hts⟩ (mX11_needState hl0 t0 σ (.inr k33) σ10 hcl H.size) (va_cwS 1 hts gX11_sell_X11_needState rfl rfl rfl (by decide +kernel) ⟨Nat.le_of_ble_eq_true rfl, Nat.le_of_ble_eq_true rfl⟩) (x_preS _ hw hA hG) rfl rfl hl.1 rfl (lv_room (Nat.le_of_ble_eq_true rfl)) dX11_sell_33 ⟨Nat.le_of_ble_eq_true rfl, Nat.le_of_ble_eq_true rfl⟩) hw hA (fun q9 ce H locs h1 h2 h3 hw => ?_) (fun H locs h1 hw => nomatch h1)
      exact x_tout hlk hex h1 h2 h3 hw hf (Nat.le_of_ble_eq_true rfl) (Nat.le_of_ble_eq_true rfl)
    refine x_tcallv (vx_runS (As := [.int t0]) (rest := []) ⟨hx, hb, hml, hown, hts⟩ (mX11_needState hl0 t0 σ (.inl r9) σ10 hcl H.size) (va_cwS 1 hts gX11_sell_X11_needState rfl rfl rfl (by decide +kernel) ⟨Nat.le_of_ble_eq_true rfl, Nat.le_of_ble_eq_true rfl⟩) (x_preS _ hw hA hG) rfl rfl hl.1 rfl (lv_room (Nat.le_of_ble_eq_true rfl)) dX11_sell_33 ⟨Nat.le_of_ble_eq_true rfl, Nat.le_of_ble_eq_true rfl⟩) hw hA (fun q9 ce H locs h1 h2 h3 hw => by obtain ⟨_, h9, _⟩ := h3; cases h9) (fun H locs h1 hw => ?_)
    clear hcl h1
    refine lv_aload_n hx hb dX11_sell_36 rfl (lv_at hl 0 rfl) ?_
    obtain ⟨σ12, hcl, hf⟩ := xc_e hf
    refine x_callv (va_runV (As := []) (rest := []) ⟨hx, hb, hml, hown, hts⟩ (mX11_remember hE σ10 σ12 hcl H.size) (cwV 0 hts gX11_sell_X11_remember rfl rfl rfl (by decide +kernel) ⟨Nat.le_of_ble_eq_true rfl, Nat.le_of_ble_eq_true rfl⟩) (x_preV _ hw hA hG (cX0 hE) rfl) rfl rfl hl.1 rfl (lv_room (Nat.le_of_ble_eq_true rfl)) dX11_sell_37 ⟨Nat.le_of_ble_eq_true rfl, Nat.le_of_ble_eq_true rfl⟩) hw hA (fun H locs hw => ?_)
    clear hcl
    refine lv_aload_n hx hb dX11_sell_40 rfl (lv_at hl 0 rfl) ?_
    refine x_getr hx hb hw (cX0 hE) (own := RX11) (ref := RX11) (C := RX11) (T := TX11) (N := 14) hts hiX11 hown rfl 0 (by decide) hk24 (fun _ h9 => h9) rfl dX11_sell_41 ?_
    refine lv_dup hx hb dX11_sell_44 rfl ?_
    refine x_geti hx hb hw (cX2 hE) (own := RX11) (ref := RX10) (C := RX10) (T := TX10) (N := 4) hts hiX10 hown rfl 2 (by decide) hk266 (fun _ h9 => h9) rfl dX11_sell_45 ?_
    refine lv_iload_n hx hb dX11_sell_48 rfl (lv_at hl 2 rfl) ?_
    refine lv_aload_n hx hb dX11_sell_49 rfl (lv_at hl 0 rfl) ?_
    refine x_getr hx hb hw (cX0 hE) (own := RX11) (ref := RX11) (C := RX11) (T := TX11) (N := 14) hts hiX11 hown rfl 1 (by decide) hk31 (fun _ h9 => h9) rfl dX11_sell_50 ?_
    refine x_getr hx hb hw (cX4 hE) (own := RX11) (ref := RX8) (C := RX8) (T := TX8) (N := 8) hts hiX8 hown rfl 0 (by decide) hk124 (fun _ h9 => h9) rfl dX11_sell_53 ?_
    refine lv_iload_n hx hb dX11_sell_56 rfl (lv_at hl 1 rfl) ?_
    obtain ⟨hin, hf⟩ := xr_f hf
    refine x_iald hx hb hw (cX5 hE) hin dX11_sell_57 ?_
    refine lv_topi (fun v13 ex => ?_)
    replace hf := hf v13 ex
    clear ex hin
    refine lv_imul hx hb dX11_sell_58 ?_
    refine lv_iadd hx hb dX11_sell_59 ?_
    refine x_puti hx hb hw (cX2 hE) (own := RX11) (ref := RX10) (C := RX10) (T := TX10) (N := 4) hts hiX10 tyX10 tyX10_ok nmX10 hown rfl 2 (by decide) hk266 (fun _ h9 => h9) rfl (by decide +kernel) rfl dX11_sell_60 (fun σ14 H locs ex hw => ?_)
    replace hf := xp_f hf σ14 ex
    clear ex
    refine lv_aload_n hx hb dX11_sell_63 rfl (lv_at hl 0 rfl) ?_
    refine x_getr hx hb hw (cX0 hE) (own := RX11) (ref := RX11) (C := RX11) (T := TX11) (N := 14) hts hiX11 hown rfl 5 (by decide) hk55 (fun _ h9 => h9) rfl dX11_sell_64 ?_
    refine lv_iload_n hx hb dX11_sell_67 rfl (lv_at hl 1 rfl) ?_
    refine lv_iload_n hx hb dX11_sell_68 rfl (lv_at hl 2 rfl) ?_
    obtain ⟨r15, σ16, hcl, hf⟩ := xc2_f hf
    refine x_calli (va_runV (As := [.int a1, .int a2]) (rest := []) ⟨hx, hb, hml, hown, hts⟩ (mX0_takeOldest hE a1 a2 σ14 r15 σ16 hcl H.size) (cwV 2 hts gX11_sell_X0_takeOldest rfl rfl rfl (by decide +kernel) ⟨Nat.le_of_ble_eq_true rfl, Nat.le_of_ble_eq_true rfl⟩) (x_preV _ hw hA hG (cX27 hE) rfl) rfl rfl hl.1 rfl (lv_room (Nat.le_of_ble_eq_true rfl)) dX11_sell_69 ⟨Nat.le_of_ble_eq_true rfl, Nat.le_of_ble_eq_true rfl⟩) hw hA (fun H locs hw => ?_)
    clear hcl
    exact x_tiret hx hb hr hlk hw hf (Nat.le_of_ble_eq_true rfl) (Nat.le_of_ble_eq_true rfl) dX11_sell_72
  refine lv_aload_n hx hb dX11_sell_0 rfl (lv_at hl 0 rfl) ?_
  refine lv_iload_n hx hb dX11_sell_1 rfl (lv_at hl 1 rfl) ?_
  rcases xct_e hf with ⟨k2, σ2, hcl, hf⟩ | ⟨r1, σ2, hcl, hf⟩
  · refine x_tcallv (vx_runV (As := [.int p0]) (rest := []) ⟨hx, hb, hml, hown, hts⟩ (mX11_needRecipe hl0 hE p0 σ (.inr k2) σ2 hcl s.heap.size) (cwV 1 hts gX11_sell_X11_needRecipe rfl rfl rfl (by decide +kernel) ⟨Nat.le_of_ble_eq_true rfl, Nat.le_of_ble_eq_true rfl⟩) (x_preV _ hw hA hG (cX0 hE) rfl) rfl rfl hl.1 rfl (lv_room (Nat.le_of_ble_eq_true rfl)) dX11_sell_2 ⟨Nat.le_of_ble_eq_true rfl, Nat.le_of_ble_eq_true rfl⟩) hw hA (fun q9 ce H locs h1 h2 h3 hw => ?_) (fun H locs h1 hw => nomatch h1)
    exact x_tout hlk hex h1 h2 h3 hw hf (Nat.le_of_ble_eq_true rfl) (Nat.le_of_ble_eq_true rfl)
  refine x_tcallv (vx_runV (As := [.int p0]) (rest := []) ⟨hx, hb, hml, hown, hts⟩ (mX11_needRecipe hl0 hE p0 σ (.inl r1) σ2 hcl s.heap.size) (cwV 1 hts gX11_sell_X11_needRecipe rfl rfl rfl (by decide +kernel) ⟨Nat.le_of_ble_eq_true rfl, Nat.le_of_ble_eq_true rfl⟩) (x_preV _ hw hA hG (cX0 hE) rfl) rfl rfl hl.1 rfl (lv_room (Nat.le_of_ble_eq_true rfl)) dX11_sell_2 ⟨Nat.le_of_ble_eq_true rfl, Nat.le_of_ble_eq_true rfl⟩) hw hA (fun q9 ce H locs h1 h2 h3 hw => by obtain ⟨_, h9, _⟩ := h3; cases h9) (fun H locs h1 hw => ?_)
  clear hcl h1
  refine lv_iload_n hx hb dX11_sell_5 rfl (lv_at hl 2 rfl) ?_
  refine lv_iconst (v := 1) hx hb dX11_sell_6 (by decide) ?_
  refine lv_bipush (v := 99) hx hb dX11_sell_7 (by decide) ?_
  obtain ⟨r3, σ4, hcl, hf⟩ := xc2_f hf
  refine x_calli (va_runS (As := [.int p1, .int 1, .int 99]) (rest := []) ⟨hx, hb, hml, hown, hts⟩ (mX11_isWithin hE p1 1 99 σ2 r3 σ4 hcl H.size) (va_cwS 3 hts gX11_sell_X11_isWithin rfl rfl rfl (by decide +kernel) ⟨Nat.le_of_ble_eq_true rfl, Nat.le_of_ble_eq_true rfl⟩) (x_preS _ hw hA hG) rfl rfl hl.1 rfl (lv_room (Nat.le_of_ble_eq_true rfl)) dX11_sell_9 ⟨Nat.le_of_ble_eq_true rfl, Nat.le_of_ble_eq_true rfl⟩) hw hA (fun H locs hw => ?_)
  clear hcl
  rcases xct_e hf with ⟨k12, σ6, hcl, hf⟩ | ⟨r5, σ6, hcl, hf⟩
  · refine x_tcallv (vx_runS (As := [.int r3]) (rest := []) ⟨hx, hb, hml, hown, hts⟩ (mX11_needArgument hl0 r3 σ4 (.inr k12) σ6 hcl H.size) (va_cwS 1 hts gX11_sell_X11_needArgument rfl rfl rfl (by decide +kernel) ⟨Nat.le_of_ble_eq_true rfl, Nat.le_of_ble_eq_true rfl⟩) (x_preS _ hw hA hG) rfl rfl hl.1 rfl (lv_room (Nat.le_of_ble_eq_true rfl)) dX11_sell_12 ⟨Nat.le_of_ble_eq_true rfl, Nat.le_of_ble_eq_true rfl⟩) hw hA (fun q9 ce H locs h1 h2 h3 hw => ?_) (fun H locs h1 hw => nomatch h1)
    exact x_tout hlk hex h1 h2 h3 hw hf (Nat.le_of_ble_eq_true rfl) (Nat.le_of_ble_eq_true rfl)
  refine x_tcallv (vx_runS (As := [.int r3]) (rest := []) ⟨hx, hb, hml, hown, hts⟩ (mX11_needArgument hl0 r3 σ4 (.inl r5) σ6 hcl H.size) (va_cwS 1 hts gX11_sell_X11_needArgument rfl rfl rfl (by decide +kernel) ⟨Nat.le_of_ble_eq_true rfl, Nat.le_of_ble_eq_true rfl⟩) (x_preS _ hw hA hG) rfl rfl hl.1 rfl (lv_room (Nat.le_of_ble_eq_true rfl)) dX11_sell_12 ⟨Nat.le_of_ble_eq_true rfl, Nat.le_of_ble_eq_true rfl⟩) hw hA (fun q9 ce H locs h1 h2 h3 hw => by obtain ⟨_, h9, _⟩ := h3; cases h9) (fun H locs h1 hw => ?_)
  clear hcl h1
  refine lv_aload_n hx hb dX11_sell_15 rfl (lv_at hl 0 rfl) ?_
  refine x_getr hx hb hw (cX0 hE) (own := RX11) (ref := RX11) (C := RX11) (T := TX11) (N := 14) hts hiX11 hown rfl 5 (by decide) hk55 (fun _ h9 => h9) rfl dX11_sell_16 ?_
  refine lv_iload_n hx hb dX11_sell_19 rfl (lv_at hl 1 rfl) ?_
  refine lv_iconst (v := 0) hx hb dX11_sell_20 (by decide) ?_
  obtain ⟨r7, σ8, hcl, hf⟩ := xc2_f hf
  refine x_calli (va_runV (As := [.int p0, .int 0]) (rest := []) ⟨hx, hb, hml, hown, hts⟩ (mX0_from hE p0 0 σ6 r7 σ8 hcl H.size) (cwV 2 hts gX11_sell_X0_from rfl rfl rfl (by decide +kernel) ⟨Nat.le_of_ble_eq_true rfl, Nat.le_of_ble_eq_true rfl⟩) (x_preV _ hw hA hG (cX27 hE) rfl) rfl rfl hl.1 rfl (lv_room (Nat.le_of_ble_eq_true rfl)) dX11_sell_21 ⟨Nat.le_of_ble_eq_true rfl, Nat.le_of_ble_eq_true rfl⟩) hw hA (fun H locs hw => ?_)
  clear hcl
  refine lv_iload_n hx hb dX11_sell_24 rfl (lv_at hl 2 rfl) ?_
  refine lv_icmp_lt (tgt := 32) hx hb dX11_sell_25 (by decide) (fun c25 => ?_) (fun c25 => ?_)
  · replace hf := xif_pos c25 hf
    refine lv_iconst (v := 0) hx hb dX11_sell_32 (by decide) ?_
    exact h33 p0 p1 0 σ8 _ _ _ hw (lv_sub hl [0, 1, 2] rfl) hf
  · replace hf := xif_neg c25 hf
    refine lv_iconst (v := 1) hx hb dX11_sell_28 (by decide) ?_
    refine lv_goto (tgt := 33) hx hb dX11_sell_29 (by decide) ?_
    exact h33 p0 p1 1 σ8 _ _ _ hw (lv_sub hl [0, 1, 2] rfl) hf

def fX11_crumble_c31 : Nat → Int32 → Int32 → Int32 → xSt → Option (xO × xSt)
  | 0 => fun _ _ _ _ => none
  | n + 1 => fun a1 a2 a3 σ => (if 4 ≤ a3 then (xr σ 3 8 7 fun v9 => (xs σ 3 8 7 (v9 + a2) fun σ10 => some ((.inl a2 : xO), σ10))) else (xs σ 28 24 ((a1 * 4) + a3) 0 fun σ11 => (xl (a3 + 1) fun v12 => fX11_crumble_c31 n a1 a2 v12 σ11)))
theorem fX11_crumble_c31_s (n : Nat) (a1 : Int32) (a2 : Int32) (a3 : Int32) (σ : xSt) : fX11_crumble_c31 (n + 1) a1 a2 a3 σ = ((if 4 ≤ a3 then (xr σ 3 8 7 fun v9 => (xs σ 3 8 7 (v9 + a2) fun σ10 => some ((.inl a2 : xO), σ10))) else (xs σ 28 24 ((a1 * 4) + a3) 0 fun σ11 => (xl (a3 + 1) fun v12 => fX11_crumble_c31 n a1 a2 v12 σ11))) : Option (xO × xSt)) := rfl
def fX11_crumble (p0 : Int32) (σ : xSt) : Option (xO × xSt) := (xct (fX11_needRecipe p0 σ) fun r1 σ2 => (xc (fX11_remember σ2) fun σ4 => (xc2 (fX0_from p0 1 σ4) fun r5 σ6 => (xr σ6 5 6 p0 fun v7 => (xl (r5 * v7) fun v8 => fX11_crumble_c31 xFU p0 v8 1 σ6)))))
abbrev rmX11_crumble : Room := { frames := 8, cells := 1, slots := 6, locals := 139 }
set_option maxRecDepth 100000 in
set_option maxHeartbeats 4000000 in
theorem mX11_crumble {l : Launch} (hl0 : l.stackTraces = false) {E : xE} (hE : E.sh = shX) (p0 : Int32) (σ : xSt) (o1 : xO) (o2 : xSt) (hf : fX11_crumble p0 σ = some (o1, o2)) : xMt l yX11_crumble wsX11_crumble rmX11_crumble E [.ref (E.a 0), .int p0] σ o1 o2 1 := by
  unfold fX11_crumble at hf
  refine xMt_of (cc := cX11_crumble) (maxL := 4) (ret := (some .int)) (by decide) rfl (Nat.le_of_ble_eq_true rfl) ?_
  intro p e s m args below meth c A ls ⟨hx, hb, hr, hml, hown, hts, hlk⟩ hA hG hw hl hex
  have hown : s.vm.findClass RX11 = some m.cls := hown
  have hl : lv_has ls 4 [(0, .ref (E.a 0)), (1, .int p0)] := hl
  have hk55 := hts (.fieldLink RX11 55 "OvenRound" "breads" "LOvenRound$Breads;") (by decide +kernel)
  have hiX11 : ∀ w ∈ wsX110, w ∈ wsX11_crumble := by decide +kernel
  have hk31 := hts (.fieldLink RX11 31 "OvenRound" "recipes" "LOvenRound$Recipes;") (by decide +kernel)
  have hk124 := hts (.fieldLink RX11 124 "OvenRound$Recipes" "piece" "[I") (by decide +kernel)
  have hiX8 : ∀ w ∈ wsX80, w ∈ wsX11_crumble := by decide +kernel
  have hk24 := hts (.fieldLink RX11 24 "OvenRound" "store" "LOvenRound$Store;") (by decide +kernel)
  have hk107 := hts (.fieldLink RX11 107 "OvenRound$Store" "grams" "[I") (by decide +kernel)
  have hiX10 : ∀ w ∈ wsX100, w ∈ wsX11_crumble := by decide +kernel
  have hk258 := hts (.fieldLink RX11 258 "OvenRound$Breads" "pieces" "[I") (by decide +kernel)
  have hiX0 : ∀ w ∈ wsX00, w ∈ wsX11_crumble := by decide +kernel
  have h31 : ∀ (n : Nat) (a1 : Int32) (a2 : Int32) (a3 : Int32) (σ : xSt) (H : Heap) (locs : List Loc) (ls : Array Slot), xw E A s.heap s σ H locs → lv_has ls 4 [(0, .ref (E.a 0)), (1, .int a1), (2, .int a2), (3, .int a3)] → fX11_crumble_c31 n a1 a2 a3 σ = some (o1, o2) → W p l e rmX11_crumble s m args below meth c H locs 1 6 (vx_MQ below (xQt E A o1 o2) (xXt E A o1 o2) args s 1 6 A) (F0 m 31 ls []) := by
    intro n31
    induction n31 with
    | zero => intro a1 a2 a3 σ H locs ls hw hl hf; exact nomatch hf
    | succ n31 ih31 =>
      intro a1 a2 a3 σ H locs ls hw hl hf
      rw [fX11_crumble_c31_s] at hf
      refine lv_iload_n hx hb dX11_crumble_31 rfl (lv_at hl 3 rfl) ?_
      refine lv_iconst (v := 4) hx hb dX11_crumble_32 (by decide) ?_
      refine lv_icmp_ge (tgt := 56) hx hb dX11_crumble_33 (by decide) (fun c33 => ?_) (fun c33 => ?_)
      · replace hf := xif_pos c33 hf
        refine lv_aload_n hx hb dX11_crumble_56 rfl (lv_at hl 0 rfl) ?_
        refine x_getr hx hb hw (cX0 hE) (own := RX11) (ref := RX11) (C := RX11) (T := TX11) (N := 14) hts hiX11 hown rfl 0 (by decide) hk24 (fun _ h9 => h9) rfl dX11_crumble_57 ?_
        refine x_getr hx hb hw (cX2 hE) (own := RX11) (ref := RX10) (C := RX10) (T := TX10) (N := 4) hts hiX10 hown rfl 0 (by decide) hk107 (fun _ h9 => h9) rfl dX11_crumble_60 ?_
        refine lv_bipush (v := 7) hx hb dX11_crumble_63 (by decide) ?_
        refine lv_dup2_11 hx hb dX11_crumble_65 rfl rfl ?_
        obtain ⟨hin, hf⟩ := xr_f hf
        refine x_iald hx hb hw (cX3 hE) hin dX11_crumble_66 ?_
        refine lv_topi (fun v9 ex => ?_)
        replace hf := hf v9 ex
        clear ex hin
        refine lv_iload_n hx hb dX11_crumble_67 rfl (lv_at hl 2 rfl) ?_
        refine lv_iadd hx hb dX11_crumble_68 ?_
        obtain ⟨hin, hf⟩ := xs_f hf
        refine x_iast hx hb hw (cX3 hE) hin dX11_crumble_69 (fun σ10 H locs ex hw => ?_)
        replace hf := hf σ10 ex
        clear ex hin
        refine lv_iload_n hx hb dX11_crumble_70 rfl (lv_at hl 2 rfl) ?_
        exact x_tiret hx hb hr hlk hw hf (Nat.le_of_ble_eq_true rfl) (Nat.le_of_ble_eq_true rfl) dX11_crumble_71
      · replace hf := xif_neg c33 hf
        refine lv_aload_n hx hb dX11_crumble_36 rfl (lv_at hl 0 rfl) ?_
        refine x_getr hx hb hw (cX0 hE) (own := RX11) (ref := RX11) (C := RX11) (T := TX11) (N := 14) hts hiX11 hown rfl 5 (by decide) hk55 (fun _ h9 => h9) rfl dX11_crumble_37 ?_
        refine x_getr hx hb hw (cX27 hE) (own := RX11) (ref := RX0) (C := RX0) (T := TX0) (N := 1) hts hiX0 hown rfl 0 (by decide) hk258 (fun _ h9 => h9) rfl dX11_crumble_40 ?_
        refine lv_iload_n hx hb dX11_crumble_43 rfl (lv_at hl 1 rfl) ?_
        refine lv_iconst (v := 4) hx hb dX11_crumble_44 (by decide) ?_
        refine lv_imul hx hb dX11_crumble_45 ?_
        refine lv_iload_n hx hb dX11_crumble_46 rfl (lv_at hl 3 rfl) ?_
        refine lv_iadd hx hb dX11_crumble_47 ?_
        refine lv_iconst (v := 0) hx hb dX11_crumble_48 (by decide) ?_
        obtain ⟨hin, hf⟩ := xs_f hf
        refine x_iast hx hb hw (cX28 hE) hin dX11_crumble_49 (fun σ11 H locs ex hw => ?_)
        replace hf := hf σ11 ex
        clear ex hin
        obtain ⟨v12, ex⟩ : ∃ y : Int32, y = (a3 + 1) := ⟨_, rfl⟩
        replace hf := xl_f hf v12 ex
        refine lv_iinc (v := v12) (lv' := [(3, .int v12), (0, .ref (E.a 0)), (1, .int a1), (2, .int a2)]) hx hb dX11_crumble_50 hl (k := 3) rfl (by rw [ex]; rfl) (by decide) rfl (fun ls hl => ?_)
        clear ex
        refine lv_goto (tgt := 31) hx hb dX11_crumble_53 (by decide) ?_
        exact ih31 a1 a2 v12 σ11 _ _ _ hw (lv_sub hl [1, 2, 3, 0] rfl) hf
  refine lv_aload_n hx hb dX11_crumble_0 rfl (lv_at hl 0 rfl) ?_
  refine lv_iload_n hx hb dX11_crumble_1 rfl (lv_at hl 1 rfl) ?_
  rcases xct_e hf with ⟨k2, σ2, hcl, hf⟩ | ⟨r1, σ2, hcl, hf⟩
  · refine x_tcallv (vx_runV (As := [.int p0]) (rest := []) ⟨hx, hb, hml, hown, hts⟩ (mX11_needRecipe hl0 hE p0 σ (.inr k2) σ2 hcl s.heap.size) (cwV 1 hts gX11_crumble_X11_needRecipe rfl rfl rfl (by decide +kernel) ⟨Nat.le_of_ble_eq_true rfl, Nat.le_of_ble_eq_true rfl⟩) (x_preV _ hw hA hG (cX0 hE) rfl) rfl rfl hl.1 rfl (lv_room (Nat.le_of_ble_eq_true rfl)) dX11_crumble_2 ⟨Nat.le_of_ble_eq_true rfl, Nat.le_of_ble_eq_true rfl⟩) hw hA (fun q9 ce H locs h1 h2 h3 hw => ?_) (fun H locs h1 hw => nomatch h1)
    exact x_tout hlk hex h1 h2 h3 hw hf (Nat.le_of_ble_eq_true rfl) (Nat.le_of_ble_eq_true rfl)
  refine x_tcallv (vx_runV (As := [.int p0]) (rest := []) ⟨hx, hb, hml, hown, hts⟩ (mX11_needRecipe hl0 hE p0 σ (.inl r1) σ2 hcl s.heap.size) (cwV 1 hts gX11_crumble_X11_needRecipe rfl rfl rfl (by decide +kernel) ⟨Nat.le_of_ble_eq_true rfl, Nat.le_of_ble_eq_true rfl⟩) (x_preV _ hw hA hG (cX0 hE) rfl) rfl rfl hl.1 rfl (lv_room (Nat.le_of_ble_eq_true rfl)) dX11_crumble_2 ⟨Nat.le_of_ble_eq_true rfl, Nat.le_of_ble_eq_true rfl⟩) hw hA (fun q9 ce H locs h1 h2 h3 hw => by obtain ⟨_, h9, _⟩ := h3; cases h9) (fun H locs h1 hw => ?_)
  clear hcl h1
  refine lv_aload_n hx hb dX11_crumble_5 rfl (lv_at hl 0 rfl) ?_
  obtain ⟨σ4, hcl, hf⟩ := xc_e hf
  refine x_callv (va_runV (As := []) (rest := []) ⟨hx, hb, hml, hown, hts⟩ (mX11_remember hE σ2 σ4 hcl H.size) (cwV 0 hts gX11_crumble_X11_remember rfl rfl rfl (by decide +kernel) ⟨Nat.le_of_ble_eq_true rfl, Nat.le_of_ble_eq_true rfl⟩) (x_preV _ hw hA hG (cX0 hE) rfl) rfl rfl hl.1 rfl (lv_room (Nat.le_of_ble_eq_true rfl)) dX11_crumble_6 ⟨Nat.le_of_ble_eq_true rfl, Nat.le_of_ble_eq_true rfl⟩) hw hA (fun H locs hw => ?_)
  clear hcl
  refine lv_aload_n hx hb dX11_crumble_9 rfl (lv_at hl 0 rfl) ?_
  refine x_getr hx hb hw (cX0 hE) (own := RX11) (ref := RX11) (C := RX11) (T := TX11) (N := 14) hts hiX11 hown rfl 5 (by decide) hk55 (fun _ h9 => h9) rfl dX11_crumble_10 ?_
  refine lv_iload_n hx hb dX11_crumble_13 rfl (lv_at hl 1 rfl) ?_
  refine lv_iconst (v := 1) hx hb dX11_crumble_14 (by decide) ?_
  obtain ⟨r5, σ6, hcl, hf⟩ := xc2_f hf
  refine x_calli (va_runV (As := [.int p0, .int 1]) (rest := []) ⟨hx, hb, hml, hown, hts⟩ (mX0_from hE p0 1 σ4 r5 σ6 hcl H.size) (cwV 2 hts gX11_crumble_X0_from rfl rfl rfl (by decide +kernel) ⟨Nat.le_of_ble_eq_true rfl, Nat.le_of_ble_eq_true rfl⟩) (x_preV _ hw hA hG (cX27 hE) rfl) rfl rfl hl.1 rfl (lv_room (Nat.le_of_ble_eq_true rfl)) dX11_crumble_15 ⟨Nat.le_of_ble_eq_true rfl, Nat.le_of_ble_eq_true rfl⟩) hw hA (fun H locs hw => ?_)
  clear hcl
  refine lv_aload_n hx hb dX11_crumble_18 rfl (lv_at hl 0 rfl) ?_
  refine x_getr hx hb hw (cX0 hE) (own := RX11) (ref := RX11) (C := RX11) (T := TX11) (N := 14) hts hiX11 hown rfl 1 (by decide) hk31 (fun _ h9 => h9) rfl dX11_crumble_19 ?_
  refine x_getr hx hb hw (cX4 hE) (own := RX11) (ref := RX8) (C := RX8) (T := TX8) (N := 8) hts hiX8 hown rfl 0 (by decide) hk124 (fun _ h9 => h9) rfl dX11_crumble_22 ?_
  refine lv_iload_n hx hb dX11_crumble_25 rfl (lv_at hl 1 rfl) ?_
  obtain ⟨hin, hf⟩ := xr_f hf
  refine x_iald hx hb hw (cX5 hE) hin dX11_crumble_26 ?_
  refine lv_topi (fun v7 ex => ?_)
  replace hf := hf v7 ex
  clear ex hin
  refine lv_imul hx hb dX11_crumble_27 ?_
  refine lv_topi (fun v8 ex => ?_)
  replace hf := xl_f hf v8 ex
  clear ex
  refine lv_istore_n (lv' := [(2, .int v8), (0, .ref (E.a 0)), (1, .int p0)]) hx hb dX11_crumble_28 rfl hl (by decide) rfl (fun ls hl => ?_)
  refine lv_iconst (v := 1) hx hb dX11_crumble_29 (by decide) ?_
  refine lv_istore_n (lv' := [(3, .int 1), (2, .int v8), (0, .ref (E.a 0)), (1, .int p0)]) hx hb dX11_crumble_30 rfl hl (by decide) rfl (fun ls hl => ?_)
  exact h31 xFU p0 v8 1 σ6 _ _ _ hw (lv_sub hl [2, 3, 1, 0] rfl) hf

def fX11_setFlour_c47 (a1 : Int32) (a2 : Int32) (a3 : Int32) (a4 : Int32) (t0 : Int32) (σ : xSt) : Option (xO × xSt) := (xct (fX11_needArgument t0 σ) fun r11 σ12 => (xc (fX11_remember σ12) fun σ14 => (xr σ14 31 4 a1 fun v15 => (xs σ14 30 4 a1 a2 fun σ16 => (xs σ16 31 4 a1 a3 fun σ17 => (xs σ17 32 4 a1 a4 fun σ18 => some ((.inl v15 : xO), σ18)))))))
def fX11_setFlour_c46 (a1 : Int32) (a2 : Int32) (a3 : Int32) (a4 : Int32) (σ : xSt) : Option (xO × xSt) := fX11_setFlour_c47 a1 a2 a3 a4 0 σ
def fX11_setFlour (p0 : Int32) (p1 : Int32) (p2 : Int32) (p3 : Int32) (σ : xSt) : Option (xO × xSt) := (xc2 (fX11_isWithin p0 0 3 σ) fun r1 σ2 => (xct (fX11_needIndex r1 σ2) fun r3 σ4 => (xc2 (fX11_isWithin p1 0 200 σ4) fun r5 σ6 => (if r5 = 0 then fX11_setFlour_c46 p0 p1 p2 p3 σ6 else (xc2 (fX11_isWithin p2 0 999 σ6) fun r7 σ8 => (if r7 = 0 then fX11_setFlour_c46 p0 p1 p2 p3 σ8 else (xc2 (fX11_isWithin p3 0 100 σ8) fun r9 σ10 => (if r9 = 0 then fX11_setFlour_c46 p0 p1 p2 p3 σ10 else fX11_setFlour_c47 p0 p1 p2 p3 1 σ10))))))))
abbrev rmX11_setFlour : Room := { frames := 7, cells := 2, slots := 12, locals := 139 }
set_option maxRecDepth 100000 in
set_option maxHeartbeats 4000000 in
theorem mX11_setFlour {l : Launch} (hl0 : l.stackTraces = false) {E : xE} (hE : E.sh = shX) (p0 : Int32) (p1 : Int32) (p2 : Int32) (p3 : Int32) (σ : xSt) (o1 : xO) (o2 : xSt) (hf : fX11_setFlour p0 p1 p2 p3 σ = some (o1, o2)) : xMt l yX11_setFlour wsX11_setFlour rmX11_setFlour E [.ref (E.a 0), .int p0, .int p1, .int p2, .int p3] σ o1 o2 2 := by
  unfold fX11_setFlour at hf
  refine xMt_of (cc := cX11_setFlour) (maxL := 6) (ret := (some .int)) (by decide) rfl (Nat.le_of_ble_eq_true rfl) ?_
  intro p e s m args below meth c A ls ⟨hx, hb, hr, hml, hown, hts, hlk⟩ hA hG hw hl hex
  have hown : s.vm.findClass RX11 = some m.cls := hown
  have hl : lv_has ls 6 [(0, .ref (E.a 0)), (1, .int p0), (2, .int p1), (3, .int p2), (4, .int p3)] := hl
  have hk60 := hts (.fieldLink RX11 60 "OvenRound" "flours" "LOvenRound$Flours;") (by decide +kernel)
  have hiX11 : ∀ w ∈ wsX110, w ∈ wsX11_setFlour := by decide +kernel
  have hk275 := hts (.fieldLink RX11 275 "OvenRound$Flours" "cost" "[I") (by decide +kernel)
  have hiX3 : ∀ w ∈ wsX30, w ∈ wsX11_setFlour := by decide +kernel
  have hk278 := hts (.fieldLink RX11 278 "OvenRound$Flours" "strength" "[I") (by decide +kernel)
  have hk281 := hts (.fieldLink RX11 281 "OvenRound$Flours" "cap" "[I") (by decide +kernel)
  have h47 : ∀ (a1 : Int32) (a2 : Int32) (a3 : Int32) (a4 : Int32) (t0 : Int32) (σ : xSt) (H : Heap) (locs : List Loc) (ls : Array Slot), xw E A s.heap s σ H locs → lv_has ls 6 [(0, .ref (E.a 0)), (1, .int a1), (2, .int a2), (3, .int a3), (4, .int a4)] → fX11_setFlour_c47 a1 a2 a3 a4 t0 σ = some (o1, o2) → W p l e rmX11_setFlour s m args below meth c H locs 1 6 (vx_MQ below (xQt E A o1 o2) (xXt E A o1 o2) args s 2 12 A) (F0 m 47 ls [.int t0]) := by
    intro a1 a2 a3 a4 t0 σ H locs ls hw hl hf
    unfold fX11_setFlour_c47 at hf
    rcases xct_e hf with ⟨k47, σ12, hcl, hf⟩ | ⟨r11, σ12, hcl, hf⟩
    · refine x_tcallv (vx_runS (As := [.int t0]) (rest := []) ⟨hx, hb, hml, hown, hts⟩ (mX11_needArgument hl0 t0 σ (.inr k47) σ12 hcl H.size) (va_cwS 1 hts gX11_setFlour_X11_needArgument rfl rfl rfl (by decide +kernel) ⟨Nat.le_of_ble_eq_true rfl, Nat.le_of_ble_eq_true rfl⟩) (x_preS _ hw hA hG) rfl rfl hl.1 rfl (lv_room (Nat.le_of_ble_eq_true rfl)) dX11_setFlour_47 ⟨Nat.le_of_ble_eq_true rfl, Nat.le_of_ble_eq_true rfl⟩) hw hA (fun q9 ce H locs h1 h2 h3 hw => ?_) (fun H locs h1 hw => nomatch h1)
      exact x_tout hlk hex h1 h2 h3 hw hf (Nat.le_of_ble_eq_true rfl) (Nat.le_of_ble_eq_true rfl)
    refine x_tcallv (vx_runS (As := [.int t0]) (rest := []) ⟨hx, hb, hml, hown, hts⟩ (mX11_needArgument hl0 t0 σ (.inl r11) σ12 hcl H.size) (va_cwS 1 hts gX11_setFlour_X11_needArgument rfl rfl rfl (by decide +kernel) ⟨Nat.le_of_ble_eq_true rfl, Nat.le_of_ble_eq_true rfl⟩) (x_preS _ hw hA hG) rfl rfl hl.1 rfl (lv_room (Nat.le_of_ble_eq_true rfl)) dX11_setFlour_47 ⟨Nat.le_of_ble_eq_true rfl, Nat.le_of_ble_eq_true rfl⟩) hw hA (fun q9 ce H locs h1 h2 h3 hw => by obtain ⟨_, h9, _⟩ := h3; cases h9) (fun H locs h1 hw => ?_)
    clear hcl h1
    refine lv_aload_n hx hb dX11_setFlour_50 rfl (lv_at hl 0 rfl) ?_
    obtain ⟨σ14, hcl, hf⟩ := xc_e hf
    refine x_callv (va_runV (As := []) (rest := []) ⟨hx, hb, hml, hown, hts⟩ (mX11_remember hE σ12 σ14 hcl H.size) (cwV 0 hts gX11_setFlour_X11_remember rfl rfl rfl (by decide +kernel) ⟨Nat.le_of_ble_eq_true rfl, Nat.le_of_ble_eq_true rfl⟩) (x_preV _ hw hA hG (cX0 hE) rfl) rfl rfl hl.1 rfl (lv_room (Nat.le_of_ble_eq_true rfl)) dX11_setFlour_51 ⟨Nat.le_of_ble_eq_true rfl, Nat.le_of_ble_eq_true rfl⟩) hw hA (fun H locs hw => ?_)
    clear hcl
    refine lv_aload_n hx hb dX11_setFlour_54 rfl (lv_at hl 0 rfl) ?_
    refine x_getr hx hb hw (cX0 hE) (own := RX11) (ref := RX11) (C := RX11) (T := TX11) (N := 14) hts hiX11 hown rfl 6 (by decide) hk60 (fun _ h9 => h9) rfl dX11_setFlour_55 ?_
    refine x_getr hx hb hw (cX29 hE) (own := RX11) (ref := RX3) (C := RX3) (T := TX3) (N := 7) hts hiX3 hown rfl 1 (by decide) hk275 (fun _ h9 => h9) rfl dX11_setFlour_58 ?_
    refine lv_iload_n hx hb dX11_setFlour_61 rfl (lv_at hl 1 rfl) ?_
    obtain ⟨hin, hf⟩ := xr_f hf
    refine x_iald hx hb hw (cX31 hE) hin dX11_setFlour_62 ?_
    refine lv_topi (fun v15 ex => ?_)
    replace hf := hf v15 ex
    clear ex hin
    refine lv_istore (lv' := [(5, .int v15), (0, .ref (E.a 0)), (1, .int a1), (2, .int a2), (3, .int a3), (4, .int a4)]) hx hb dX11_setFlour_63 hl (by decide) rfl (fun ls hl => ?_)
    refine lv_aload_n hx hb dX11_setFlour_65 rfl (lv_at hl 1 rfl) ?_
    refine x_getr hx hb hw (cX0 hE) (own := RX11) (ref := RX11) (C := RX11) (T := TX11) (N := 14) hts hiX11 hown rfl 6 (by decide) hk60 (fun _ h9 => h9) rfl dX11_setFlour_66 ?_
    refine x_getr hx hb hw (cX29 hE) (own := RX11) (ref := RX3) (C := RX3) (T := TX3) (N := 7) hts hiX3 hown rfl 0 (by decide) hk278 (fun _ h9 => h9) rfl dX11_setFlour_69 ?_
    refine lv_iload_n hx hb dX11_setFlour_72 rfl (lv_at hl 2 rfl) ?_
    refine lv_iload_n hx hb dX11_setFlour_73 rfl (lv_at hl 3 rfl) ?_
    obtain ⟨hin, hf⟩ := xs_f hf
    refine x_iast hx hb hw (cX30 hE) hin dX11_setFlour_74 (fun σ16 H locs ex hw => ?_)
    replace hf := hf σ16 ex
    clear ex hin
    refine lv_aload_n hx hb dX11_setFlour_75 rfl (lv_at hl 1 rfl) ?_
    refine x_getr hx hb hw (cX0 hE) (own := RX11) (ref := RX11) (C := RX11) (T := TX11) (N := 14) hts hiX11 hown rfl 6 (by decide) hk60 (fun _ h9 => h9) rfl dX11_setFlour_76 ?_
    refine x_getr hx hb hw (cX29 hE) (own := RX11) (ref := RX3) (C := RX3) (T := TX3) (N := 7) hts hiX3 hown rfl 1 (by decide) hk275 (fun _ h9 => h9) rfl dX11_setFlour_79 ?_
    refine lv_iload_n hx hb dX11_setFlour_82 rfl (lv_at hl 2 rfl) ?_
    refine lv_iload_n hx hb dX11_setFlour_83 rfl (lv_at hl 4 rfl) ?_
    obtain ⟨hin, hf⟩ := xs_f hf
    refine x_iast hx hb hw (cX31 hE) hin dX11_setFlour_84 (fun σ17 H locs ex hw => ?_)
    replace hf := hf σ17 ex
    clear ex hin
    refine lv_aload_n hx hb dX11_setFlour_85 rfl (lv_at hl 1 rfl) ?_
    refine x_getr hx hb hw (cX0 hE) (own := RX11) (ref := RX11) (C := RX11) (T := TX11) (N := 14) hts hiX11 hown rfl 6 (by decide) hk60 (fun _ h9 => h9) rfl dX11_setFlour_86 ?_
    refine x_getr hx hb hw (cX29 hE) (own := RX11) (ref := RX3) (C := RX3) (T := TX3) (N := 7) hts hiX3 hown rfl 2 (by decide) hk281 (fun _ h9 => h9) rfl dX11_setFlour_89 ?_
    refine lv_iload_n hx hb dX11_setFlour_92 rfl (lv_at hl 2 rfl) ?_
    refine lv_iload hx hb dX11_setFlour_93 (lv_at hl 5 rfl) ?_
    obtain ⟨hin, hf⟩ := xs_f hf
    refine x_iast hx hb hw (cX32 hE) hin dX11_setFlour_95 (fun σ18 H locs ex hw => ?_)
    replace hf := hf σ18 ex
    clear ex hin
    refine lv_iload hx hb dX11_setFlour_96 (lv_at hl 0 rfl) ?_
    exact x_tiret hx hb hr hlk hw hf (Nat.le_of_ble_eq_true rfl) (Nat.le_of_ble_eq_true rfl) dX11_setFlour_98
  have h46 : ∀ (a1 : Int32) (a2 : Int32) (a3 : Int32) (a4 : Int32) (σ : xSt) (H : Heap) (locs : List Loc) (ls : Array Slot), xw E A s.heap s σ H locs → lv_has ls 6 [(0, .ref (E.a 0)), (1, .int a1), (2, .int a2), (3, .int a3), (4, .int a4)] → fX11_setFlour_c46 a1 a2 a3 a4 σ = some (o1, o2) → W p l e rmX11_setFlour s m args below meth c H locs 1 6 (vx_MQ below (xQt E A o1 o2) (xXt E A o1 o2) args s 2 12 A) (F0 m 46 ls []) := by
    intro a1 a2 a3 a4 σ H locs ls hw hl hf
    unfold fX11_setFlour_c46 at hf
    refine lv_iconst (v := 0) hx hb dX11_setFlour_46 (by decide) ?_
    exact h47 a1 a2 a3 a4 0 σ _ _ _ hw (lv_sub hl [0, 1, 2, 3, 4] rfl) hf
  refine lv_iload_n hx hb dX11_setFlour_0 rfl (lv_at hl 1 rfl) ?_
  refine lv_iconst (v := 0) hx hb dX11_setFlour_1 (by decide) ?_
  refine lv_iconst (v := 3) hx hb dX11_setFlour_2 (by decide) ?_
  obtain ⟨r1, σ2, hcl, hf⟩ := xc2_f hf
  refine x_calli (va_runS (As := [.int p0, .int 0, .int 3]) (rest := []) ⟨hx, hb, hml, hown, hts⟩ (mX11_isWithin hE p0 0 3 σ r1 σ2 hcl s.heap.size) (va_cwS 3 hts gX11_setFlour_X11_isWithin rfl rfl rfl (by decide +kernel) ⟨Nat.le_of_ble_eq_true rfl, Nat.le_of_ble_eq_true rfl⟩) (x_preS _ hw hA hG) rfl rfl hl.1 rfl (lv_room (Nat.le_of_ble_eq_true rfl)) dX11_setFlour_3 ⟨Nat.le_of_ble_eq_true rfl, Nat.le_of_ble_eq_true rfl⟩) hw hA (fun H locs hw => ?_)
  clear hcl
  rcases xct_e hf with ⟨k6, σ4, hcl, hf⟩ | ⟨r3, σ4, hcl, hf⟩
  · refine x_tcallv (vx_runS (As := [.int r1]) (rest := []) ⟨hx, hb, hml, hown, hts⟩ (mX11_needIndex hl0 r1 σ2 (.inr k6) σ4 hcl H.size) (va_cwS 1 hts gX11_setFlour_X11_needIndex rfl rfl rfl (by decide +kernel) ⟨Nat.le_of_ble_eq_true rfl, Nat.le_of_ble_eq_true rfl⟩) (x_preS _ hw hA hG) rfl rfl hl.1 rfl (lv_room (Nat.le_of_ble_eq_true rfl)) dX11_setFlour_6 ⟨Nat.le_of_ble_eq_true rfl, Nat.le_of_ble_eq_true rfl⟩) hw hA (fun q9 ce H locs h1 h2 h3 hw => ?_) (fun H locs h1 hw => nomatch h1)
    exact x_tout hlk hex h1 h2 h3 hw hf (Nat.le_of_ble_eq_true rfl) (Nat.le_of_ble_eq_true rfl)
  refine x_tcallv (vx_runS (As := [.int r1]) (rest := []) ⟨hx, hb, hml, hown, hts⟩ (mX11_needIndex hl0 r1 σ2 (.inl r3) σ4 hcl H.size) (va_cwS 1 hts gX11_setFlour_X11_needIndex rfl rfl rfl (by decide +kernel) ⟨Nat.le_of_ble_eq_true rfl, Nat.le_of_ble_eq_true rfl⟩) (x_preS _ hw hA hG) rfl rfl hl.1 rfl (lv_room (Nat.le_of_ble_eq_true rfl)) dX11_setFlour_6 ⟨Nat.le_of_ble_eq_true rfl, Nat.le_of_ble_eq_true rfl⟩) hw hA (fun q9 ce H locs h1 h2 h3 hw => by obtain ⟨_, h9, _⟩ := h3; cases h9) (fun H locs h1 hw => ?_)
  clear hcl h1
  refine lv_iload_n hx hb dX11_setFlour_9 rfl (lv_at hl 2 rfl) ?_
  refine lv_iconst (v := 0) hx hb dX11_setFlour_10 (by decide) ?_
  refine lv_sipush (v := 200) hx hb dX11_setFlour_11 (by decide) ?_
  obtain ⟨r5, σ6, hcl, hf⟩ := xc2_f hf
  refine x_calli (va_runS (As := [.int p1, .int 0, .int 200]) (rest := []) ⟨hx, hb, hml, hown, hts⟩ (mX11_isWithin hE p1 0 200 σ4 r5 σ6 hcl H.size) (va_cwS 3 hts gX11_setFlour_X11_isWithin rfl rfl rfl (by decide +kernel) ⟨Nat.le_of_ble_eq_true rfl, Nat.le_of_ble_eq_true rfl⟩) (x_preS _ hw hA hG) rfl rfl hl.1 rfl (lv_room (Nat.le_of_ble_eq_true rfl)) dX11_setFlour_14 ⟨Nat.le_of_ble_eq_true rfl, Nat.le_of_ble_eq_true rfl⟩) hw hA (fun H locs hw => ?_)
  clear hcl
  refine lv_if_eq (tgt := 46) hx hb dX11_setFlour_17 (by decide) (fun c17 => ?_) (fun c17 => ?_)
  · replace hf := xif_pos c17 hf
    exact h46 p0 p1 p2 p3 σ6 _ _ _ hw (lv_sub hl [0, 1, 2, 3, 4] rfl) hf
  · replace hf := xif_neg c17 hf
    refine lv_iload_n hx hb dX11_setFlour_20 rfl (lv_at hl 3 rfl) ?_
    refine lv_iconst (v := 0) hx hb dX11_setFlour_21 (by decide) ?_
    refine lv_sipush (v := 999) hx hb dX11_setFlour_22 (by decide) ?_
    obtain ⟨r7, σ8, hcl, hf⟩ := xc2_f hf
    refine x_calli (va_runS (As := [.int p2, .int 0, .int 999]) (rest := []) ⟨hx, hb, hml, hown, hts⟩ (mX11_isWithin hE p2 0 999 σ6 r7 σ8 hcl H.size) (va_cwS 3 hts gX11_setFlour_X11_isWithin rfl rfl rfl (by decide +kernel) ⟨Nat.le_of_ble_eq_true rfl, Nat.le_of_ble_eq_true rfl⟩) (x_preS _ hw hA hG) rfl rfl hl.1 rfl (lv_room (Nat.le_of_ble_eq_true rfl)) dX11_setFlour_25 ⟨Nat.le_of_ble_eq_true rfl, Nat.le_of_ble_eq_true rfl⟩) hw hA (fun H locs hw => ?_)
    clear hcl
    refine lv_if_eq (tgt := 46) hx hb dX11_setFlour_28 (by decide) (fun c28 => ?_) (fun c28 => ?_)
    · replace hf := xif_pos c28 hf
      exact h46 p0 p1 p2 p3 σ8 _ _ _ hw (lv_sub hl [0, 1, 2, 3, 4] rfl) hf
    · replace hf := xif_neg c28 hf
      refine lv_iload hx hb dX11_setFlour_31 (lv_at hl 4 rfl) ?_
      refine lv_iconst (v := 0) hx hb dX11_setFlour_33 (by decide) ?_
      refine lv_bipush (v := 100) hx hb dX11_setFlour_34 (by decide) ?_
      obtain ⟨r9, σ10, hcl, hf⟩ := xc2_f hf
      refine x_calli (va_runS (As := [.int p3, .int 0, .int 100]) (rest := []) ⟨hx, hb, hml, hown, hts⟩ (mX11_isWithin hE p3 0 100 σ8 r9 σ10 hcl H.size) (va_cwS 3 hts gX11_setFlour_X11_isWithin rfl rfl rfl (by decide +kernel) ⟨Nat.le_of_ble_eq_true rfl, Nat.le_of_ble_eq_true rfl⟩) (x_preS _ hw hA hG) rfl rfl hl.1 rfl (lv_room (Nat.le_of_ble_eq_true rfl)) dX11_setFlour_36 ⟨Nat.le_of_ble_eq_true rfl, Nat.le_of_ble_eq_true rfl⟩) hw hA (fun H locs hw => ?_)
      clear hcl
      refine lv_if_eq (tgt := 46) hx hb dX11_setFlour_39 (by decide) (fun c39 => ?_) (fun c39 => ?_)
      · replace hf := xif_pos c39 hf
        exact h46 p0 p1 p2 p3 σ10 _ _ _ hw (lv_sub hl [0, 1, 2, 3, 4] rfl) hf
      · replace hf := xif_neg c39 hf
        refine lv_iconst (v := 1) hx hb dX11_setFlour_42 (by decide) ?_
        refine lv_goto (tgt := 47) hx hb dX11_setFlour_43 (by decide) ?_
        exact h47 p0 p1 p2 p3 1 σ10 _ _ _ hw (lv_sub hl [0, 1, 2, 3, 4] rfl) hf

def fX11_lowestTerm_c39 (a0 : Int32) (a1 : Int32) (a2 : Int32) (a3 : Int32) (σ : xSt) : Option (Int32 × xSt) := (if a3 = 0 then some (0, σ) else (if a2 = 0 then (xnz a3 (some ((a0 / a3), σ))) else (xnz a3 (some ((a1 / a3), σ)))))
def fX11_lowestTerm_c8 : Nat → Int32 → Int32 → Int32 → Int32 → Int32 → Int32 → xSt → Option (Int32 × xSt)
  | 0 => fun _ _ _ _ _ _ _ => none
  | n + 1 => fun a0 a1 a2 a3 a4 a5 σ => (if 64 ≤ a5 then fX11_lowestTerm_c39 a0 a1 a2 a3 σ else (if a4 = 0 then fX11_lowestTerm_c39 a0 a1 a2 a3 σ else (xnz a4 ((xl (a3 - a3 / a4 * a4) fun v1 => (xl (a5 + 1) fun v2 => fX11_lowestTerm_c8 n a0 a1 a2 a4 v1 v2 σ))))))
theorem fX11_lowestTerm_c8_s (n : Nat) (a0 : Int32) (a1 : Int32) (a2 : Int32) (a3 : Int32) (a4 : Int32) (a5 : Int32) (σ : xSt) : fX11_lowestTerm_c8 (n + 1) a0 a1 a2 a3 a4 a5 σ = ((if 64 ≤ a5 then fX11_lowestTerm_c39 a0 a1 a2 a3 σ else (if a4 = 0 then fX11_lowestTerm_c39 a0 a1 a2 a3 σ else (xnz a4 ((xl (a3 - a3 / a4 * a4) fun v1 => (xl (a5 + 1) fun v2 => fX11_lowestTerm_c8 n a0 a1 a2 a4 v1 v2 σ)))))) : Option (Int32 × xSt)) := rfl
def fX11_lowestTerm (p0 : Int32) (p1 : Int32) (p2 : Int32) (σ : xSt) : Option (Int32 × xSt) := fX11_lowestTerm_c8 xFU p0 p1 p2 p1 p0 0 σ
abbrev rmX11_lowestTerm : Room := { frames := 0, cells := 0, slots := 0, locals := 0 }
set_option maxRecDepth 100000 in
set_option maxHeartbeats 4000000 in
theorem mX11_lowestTerm {l : Launch} {E : xE} (hE : E.sh = shX) (p0 : Int32) (p1 : Int32) (p2 : Int32) (σ : xSt) (o1 : Int32) (o2 : xSt) (hf : fX11_lowestTerm p0 p1 p2 σ = some (o1, o2)) : xMi l yX11_lowestTerm wsX11_lowestTerm rmX11_lowestTerm E [.int p0, .int p1, .int p2] σ o1 o2 := by
  unfold fX11_lowestTerm at hf
  refine xMi_of (cc := cX11_lowestTerm) (maxL := 7) (ret := (some .int)) (by decide) rfl (Nat.le_of_ble_eq_true rfl) ?_
  intro p e s m args below meth c A ls ⟨hx, hb, hr, hml, hown, hts, hlk⟩ hA hG hw hl
  have hown : s.vm.findClass RX11 = some m.cls := hown
  have hl : lv_has ls 7 [(0, .int p0), (1, .int p1), (2, .int p2)] := hl
  have h39 : ∀ (a0 : Int32) (a1 : Int32) (a2 : Int32) (a3 : Int32) (σ : xSt) (H : Heap) (locs : List Loc) (ls : Array Slot), xw E A s.heap s σ H locs → lv_has ls 7 [(0, .int a0), (1, .int a1), (2, .int a2), (3, .int a3)] → fX11_lowestTerm_c39 a0 a1 a2 a3 σ = some (o1, o2) → W p l e rmX11_lowestTerm s m args below meth c H locs 0 0 (MQ below (xQi E A o1 o2) args s 0 0 A) (F0 m 39 ls []) := by
    intro a0 a1 a2 a3 σ H locs ls hw hl hf
    unfold fX11_lowestTerm_c39 at hf
    refine lv_iload_n hx hb dX11_lowestTerm_39 rfl (lv_at hl 3 rfl) ?_
    refine lv_if_ne (tgt := 45) hx hb dX11_lowestTerm_40 (by decide) (fun c40 => ?_) (fun c40 => ?_)
    · replace hf := xif_neg c40 hf
      refine lv_iload_n hx hb dX11_lowestTerm_45 rfl (lv_at hl 2 rfl) ?_
      refine lv_if_eq (tgt := 53) hx hb dX11_lowestTerm_46 (by decide) (fun c46 => ?_) (fun c46 => ?_)
      · replace hf := xif_pos c46 hf
        refine lv_iload_n hx hb dX11_lowestTerm_53 rfl (lv_at hl 0 rfl) ?_
        refine lv_iload_n hx hb dX11_lowestTerm_54 rfl (lv_at hl 3 rfl) ?_
        obtain ⟨hne, hf⟩ := xnz_e hf
        refine lv_idiv hx hb dX11_lowestTerm_55 hne ?_
        exact x_iret hx hb hr hlk hw hf dX11_lowestTerm_56
      · replace hf := xif_neg c46 hf
        refine lv_iload_n hx hb dX11_lowestTerm_49 rfl (lv_at hl 1 rfl) ?_
        refine lv_goto (tgt := 54) hx hb dX11_lowestTerm_50 (by decide) ?_
        refine lv_iload_n hx hb dX11_lowestTerm_54 rfl (lv_at hl 3 rfl) ?_
        obtain ⟨hne, hf⟩ := xnz_e hf
        refine lv_idiv hx hb dX11_lowestTerm_55 hne ?_
        exact x_iret hx hb hr hlk hw hf dX11_lowestTerm_56
    · replace hf := xif_pos c40 hf
      refine lv_iconst (v := 0) hx hb dX11_lowestTerm_43 (by decide) ?_
      exact x_iret hx hb hr hlk hw hf dX11_lowestTerm_44
  have h8 : ∀ (n : Nat) (a0 : Int32) (a1 : Int32) (a2 : Int32) (a3 : Int32) (a4 : Int32) (a5 : Int32) (σ : xSt) (H : Heap) (locs : List Loc) (ls : Array Slot), xw E A s.heap s σ H locs → lv_has ls 7 [(0, .int a0), (1, .int a1), (2, .int a2), (3, .int a3), (4, .int a4), (5, .int a5)] → fX11_lowestTerm_c8 n a0 a1 a2 a3 a4 a5 σ = some (o1, o2) → W p l e rmX11_lowestTerm s m args below meth c H locs 0 0 (MQ below (xQi E A o1 o2) args s 0 0 A) (F0 m 8 ls []) := by
    intro n8
    induction n8 with
    | zero => intro a0 a1 a2 a3 a4 a5 σ H locs ls hw hl hf; exact nomatch hf
    | succ n8 ih8 =>
      intro a0 a1 a2 a3 a4 a5 σ H locs ls hw hl hf
      rw [fX11_lowestTerm_c8_s] at hf
      refine lv_iload hx hb dX11_lowestTerm_8 (lv_at hl 5 rfl) ?_
      refine lv_bipush (v := 64) hx hb dX11_lowestTerm_10 (by decide) ?_
      refine lv_icmp_ge (tgt := 39) hx hb dX11_lowestTerm_12 (by decide) (fun c12 => ?_) (fun c12 => ?_)
      · replace hf := xif_pos c12 hf
        exact h39 a0 a1 a2 a3 σ _ _ _ hw (lv_sub hl [0, 1, 2, 3] rfl) hf
      · replace hf := xif_neg c12 hf
        refine lv_iload hx hb dX11_lowestTerm_15 (lv_at hl 4 rfl) ?_
        refine lv_if_eq (tgt := 39) hx hb dX11_lowestTerm_17 (by decide) (fun c17 => ?_) (fun c17 => ?_)
        · replace hf := xif_pos c17 hf
          exact h39 a0 a1 a2 a3 σ _ _ _ hw (lv_sub hl [0, 1, 2, 3] rfl) hf
        · replace hf := xif_neg c17 hf
          refine lv_iload_n hx hb dX11_lowestTerm_20 rfl (lv_at hl 3 rfl) ?_
          refine lv_iload hx hb dX11_lowestTerm_21 (lv_at hl 4 rfl) ?_
          obtain ⟨hne, hf⟩ := xnz_e hf
          refine lv_irem hx hb dX11_lowestTerm_23 hne ?_
          refine lv_topi (fun v1 ex => ?_)
          replace hf := xl_f hf v1 ex
          clear ex
          refine lv_istore (lv' := [(6, .int v1), (0, .int a0), (1, .int a1), (2, .int a2), (3, .int a3), (4, .int a4), (5, .int a5)]) hx hb dX11_lowestTerm_24 hl (by decide) rfl (fun ls hl => ?_)
          refine lv_iload hx hb dX11_lowestTerm_26 (lv_at hl 5 rfl) ?_
          refine lv_istore_n (lv' := [(3, .int a4), (6, .int v1), (0, .int a0), (1, .int a1), (2, .int a2), (4, .int a4), (5, .int a5)]) hx hb dX11_lowestTerm_28 rfl hl (by decide) rfl (fun ls hl => ?_)
          refine lv_iload hx hb dX11_lowestTerm_29 (lv_at hl 1 rfl) ?_
          refine lv_istore (lv' := [(4, .int v1), (3, .int a4), (6, .int v1), (0, .int a0), (1, .int a1), (2, .int a2), (5, .int a5)]) hx hb dX11_lowestTerm_31 hl (by decide) rfl (fun ls hl => ?_)
          obtain ⟨v2, ex⟩ : ∃ y : Int32, y = (a5 + 1) := ⟨_, rfl⟩
          replace hf := xl_f hf v2 ex
          refine lv_iinc (v := v2) (lv' := [(5, .int v2), (4, .int v1), (3, .int a4), (6, .int v1), (0, .int a0), (1, .int a1), (2, .int a2)]) hx hb dX11_lowestTerm_33 hl (k := 6) rfl (by rw [ex]; rfl) (by decide) rfl (fun ls hl => ?_)
          clear ex
          refine lv_goto (tgt := 8) hx hb dX11_lowestTerm_36 (by decide) ?_
          exact ih8 a0 a1 a2 a4 v1 v2 σ _ _ _ hw (lv_sub hl [4, 5, 6, 2, 1, 0] rfl) hf
  refine lv_iload_n hx hb dX11_lowestTerm_0 rfl (lv_at hl 1 rfl) ?_
  refine lv_istore_n (lv' := [(3, .int p1), (0, .int p0), (1, .int p1), (2, .int p2)]) hx hb dX11_lowestTerm_1 rfl hl (by decide) rfl (fun ls hl => ?_)
  refine lv_iload_n hx hb dX11_lowestTerm_2 rfl (lv_at hl 1 rfl) ?_
  refine lv_istore (lv' := [(4, .int p0), (3, .int p1), (0, .int p0), (1, .int p1), (2, .int p2)]) hx hb dX11_lowestTerm_3 hl (by decide) rfl (fun ls hl => ?_)
  refine lv_iconst (v := 0) hx hb dX11_lowestTerm_5 (by decide) ?_
  refine lv_istore (lv' := [(5, .int 0), (4, .int p0), (3, .int p1), (0, .int p0), (1, .int p1), (2, .int p2)]) hx hb dX11_lowestTerm_6 hl (by decide) rfl (fun ls hl => ?_)
  exact h8 xFU p0 p1 p2 p1 p0 0 σ _ _ _ hw (lv_sub hl [3, 4, 5, 2, 1, 0] rfl) hf

def fX11_mixCost_c27 (a1 : Int32) (a2 : Int32) (a3 : Int32) (t0 : Int32) (σ : xSt) : Option (xO × xSt) := (xct (fX11_needArgument t0 σ) fun r5 σ6 => (xc2 (fX3_findMix a1 a2 σ6) fun r7 σ8 => (xct (fX11_needElement r7 σ8) fun r9 σ10 => (xc2 (fX3_costOf 33 σ10) fun r11 σ12 => (xc2 (fX11_lowestTerm r11 (σ12 29 4) a3 σ12) fun r13 σ14 => some ((.inl r13 : xO), σ14))))))
def fX11_mixCost_c26 (a1 : Int32) (a2 : Int32) (a3 : Int32) (σ : xSt) : Option (xO × xSt) := fX11_mixCost_c27 a1 a2 a3 0 σ
def fX11_mixCost (p0 : Int32) (p1 : Int32) (p2 : Int32) (σ : xSt) : Option (xO × xSt) := (xc2 (fX11_isWithin p0 0 200 σ) fun r1 σ2 => (if r1 = 0 then fX11_mixCost_c26 p0 p1 p2 σ2 else (xc2 (fX11_isWithin p1 p0 200 σ2) fun r3 σ4 => (if r3 = 0 then fX11_mixCost_c26 p0 p1 p2 σ4 else fX11_mixCost_c27 p0 p1 p2 1 σ4))))
abbrev rmX11_mixCost : Room := { frames := 7, cells := 2, slots := 12, locals := 167 }
set_option maxRecDepth 100000 in
set_option maxHeartbeats 4000000 in
theorem mX11_mixCost {l : Launch} (hl0 : l.stackTraces = false) {E : xE} (hE : E.sh = shX) (p0 : Int32) (p1 : Int32) (p2 : Int32) (σ : xSt) (o1 : xO) (o2 : xSt) (hf : fX11_mixCost p0 p1 p2 σ = some (o1, o2)) : xMt l yX11_mixCost wsX11_mixCost rmX11_mixCost E [.ref (E.a 0), .int p0, .int p1, .int p2] σ o1 o2 2 := by
  unfold fX11_mixCost at hf
  refine xMt_of (cc := cX11_mixCost) (maxL := 4) (ret := (some .int)) (by decide) rfl (Nat.le_of_ble_eq_true rfl) ?_
  intro p e s m args below meth c A ls ⟨hx, hb, hr, hml, hown, hts, hlk⟩ hA hG hw hl hex
  have hown : s.vm.findClass RX11 = some m.cls := hown
  have hl : lv_has ls 4 [(0, .ref (E.a 0)), (1, .int p0), (2, .int p1), (3, .int p2)] := hl
  have hk60 := hts (.fieldLink RX11 60 "OvenRound" "flours" "LOvenRound$Flours;") (by decide +kernel)
  have hiX11 : ∀ w ∈ wsX110, w ∈ wsX11_mixCost := by decide +kernel
  have hk290 := hts (.fieldLink RX11 290 "OvenRound$Flours" "bestTops" "[I") (by decide +kernel)
  have hiX3 : ∀ w ∈ wsX30, w ∈ wsX11_mixCost := by decide +kernel
  have hk297 := hts (.fieldLink RX11 297 "OvenRound$Flours" "bestBottom" "I") (by decide +kernel)
  have h27 : ∀ (a1 : Int32) (a2 : Int32) (a3 : Int32) (t0 : Int32) (σ : xSt) (H : Heap) (locs : List Loc) (ls : Array Slot), xw E A s.heap s σ H locs → lv_has ls 4 [(0, .ref (E.a 0)), (1, .int a1), (2, .int a2), (3, .int a3)] → fX11_mixCost_c27 a1 a2 a3 t0 σ = some (o1, o2) → W p l e rmX11_mixCost s m args below meth c H locs 0 0 (vx_MQ below (xQt E A o1 o2) (xXt E A o1 o2) args s 2 12 A) (F0 m 27 ls [.int t0]) := by
    intro a1 a2 a3 t0 σ H locs ls hw hl hf
    unfold fX11_mixCost_c27 at hf
    rcases xct_e hf with ⟨k27, σ6, hcl, hf⟩ | ⟨r5, σ6, hcl, hf⟩
    · refine x_tcallv (vx_runS (As := [.int t0]) (rest := []) ⟨hx, hb, hml, hown, hts⟩ (mX11_needArgument hl0 t0 σ (.inr k27) σ6 hcl H.size) (va_cwS 1 hts gX11_mixCost_X11_needArgument rfl rfl rfl (by decide +kernel) ⟨Nat.le_of_ble_eq_true rfl, Nat.le_of_ble_eq_true rfl⟩) (x_preS _ hw hA hG) rfl rfl hl.1 rfl (lv_room (Nat.le_of_ble_eq_true rfl)) dX11_mixCost_27 ⟨Nat.le_of_ble_eq_true rfl, Nat.le_of_ble_eq_true rfl⟩) hw hA (fun q9 ce H locs h1 h2 h3 hw => ?_) (fun H locs h1 hw => nomatch h1)
      exact x_tout hlk hex h1 h2 h3 hw hf (Nat.le_of_ble_eq_true rfl) (Nat.le_of_ble_eq_true rfl)
    refine x_tcallv (vx_runS (As := [.int t0]) (rest := []) ⟨hx, hb, hml, hown, hts⟩ (mX11_needArgument hl0 t0 σ (.inl r5) σ6 hcl H.size) (va_cwS 1 hts gX11_mixCost_X11_needArgument rfl rfl rfl (by decide +kernel) ⟨Nat.le_of_ble_eq_true rfl, Nat.le_of_ble_eq_true rfl⟩) (x_preS _ hw hA hG) rfl rfl hl.1 rfl (lv_room (Nat.le_of_ble_eq_true rfl)) dX11_mixCost_27 ⟨Nat.le_of_ble_eq_true rfl, Nat.le_of_ble_eq_true rfl⟩) hw hA (fun q9 ce H locs h1 h2 h3 hw => by obtain ⟨_, h9, _⟩ := h3; cases h9) (fun H locs h1 hw => ?_)
    clear hcl h1
    refine lv_aload_n hx hb dX11_mixCost_30 rfl (lv_at hl 0 rfl) ?_
    refine x_getr hx hb hw (cX0 hE) (own := RX11) (ref := RX11) (C := RX11) (T := TX11) (N := 14) hts hiX11 hown rfl 6 (by decide) hk60 (fun _ h9 => h9) rfl dX11_mixCost_31 ?_
    refine lv_iload_n hx hb dX11_mixCost_34 rfl (lv_at hl 1 rfl) ?_
    refine lv_iload_n hx hb dX11_mixCost_35 rfl (lv_at hl 2 rfl) ?_
    obtain ⟨r7, σ8, hcl, hf⟩ := xc2_f hf
    refine x_calli (va_runV (As := [.int a1, .int a2]) (rest := []) ⟨hx, hb, hml, hown, hts⟩ (mX3_findMix hE a1 a2 σ6 r7 σ8 hcl H.size) (cwV 2 hts gX11_mixCost_X3_findMix rfl rfl rfl (by decide +kernel) ⟨Nat.le_of_ble_eq_true rfl, Nat.le_of_ble_eq_true rfl⟩) (x_preV _ hw hA hG (cX29 hE) rfl) rfl rfl hl.1 rfl (lv_room (Nat.le_of_ble_eq_true rfl)) dX11_mixCost_36 ⟨Nat.le_of_ble_eq_true rfl, Nat.le_of_ble_eq_true rfl⟩) hw hA (fun H locs hw => ?_)
    clear hcl
    rcases xct_e hf with ⟨k39, σ10, hcl, hf⟩ | ⟨r9, σ10, hcl, hf⟩
    · refine x_tcallv (vx_runS (As := [.int r7]) (rest := []) ⟨hx, hb, hml, hown, hts⟩ (mX11_needElement hl0 r7 σ8 (.inr k39) σ10 hcl H.size) (va_cwS 1 hts gX11_mixCost_X11_needElement rfl rfl rfl (by decide +kernel) ⟨Nat.le_of_ble_eq_true rfl, Nat.le_of_ble_eq_true rfl⟩) (x_preS _ hw hA hG) rfl rfl hl.1 rfl (lv_room (Nat.le_of_ble_eq_true rfl)) dX11_mixCost_39 ⟨Nat.le_of_ble_eq_true rfl, Nat.le_of_ble_eq_true rfl⟩) hw hA (fun q9 ce H locs h1 h2 h3 hw => ?_) (fun H locs h1 hw => nomatch h1)
      exact x_tout hlk hex h1 h2 h3 hw hf (Nat.le_of_ble_eq_true rfl) (Nat.le_of_ble_eq_true rfl)
    refine x_tcallv (vx_runS (As := [.int r7]) (rest := []) ⟨hx, hb, hml, hown, hts⟩ (mX11_needElement hl0 r7 σ8 (.inl r9) σ10 hcl H.size) (va_cwS 1 hts gX11_mixCost_X11_needElement rfl rfl rfl (by decide +kernel) ⟨Nat.le_of_ble_eq_true rfl, Nat.le_of_ble_eq_true rfl⟩) (x_preS _ hw hA hG) rfl rfl hl.1 rfl (lv_room (Nat.le_of_ble_eq_true rfl)) dX11_mixCost_39 ⟨Nat.le_of_ble_eq_true rfl, Nat.le_of_ble_eq_true rfl⟩) hw hA (fun q9 ce H locs h1 h2 h3 hw => by obtain ⟨_, h9, _⟩ := h3; cases h9) (fun H locs h1 hw => ?_)
    clear hcl h1
    refine lv_aload_n hx hb dX11_mixCost_42 rfl (lv_at hl 0 rfl) ?_
    refine x_getr hx hb hw (cX0 hE) (own := RX11) (ref := RX11) (C := RX11) (T := TX11) (N := 14) hts hiX11 hown rfl 6 (by decide) hk60 (fun _ h9 => h9) rfl dX11_mixCost_43 ?_
    refine lv_aload_n hx hb dX11_mixCost_46 rfl (lv_at hl 0 rfl) ?_
    refine x_getr hx hb hw (cX0 hE) (own := RX11) (ref := RX11) (C := RX11) (T := TX11) (N := 14) hts hiX11 hown rfl 6 (by decide) hk60 (fun _ h9 => h9) rfl dX11_mixCost_47 ?_
    refine x_getr hx hb hw (cX29 hE) (own := RX11) (ref := RX3) (C := RX3) (T := TX3) (N := 7) hts hiX3 hown rfl 3 (by decide) hk290 (fun _ h9 => h9) rfl dX11_mixCost_50 ?_
    obtain ⟨r11, σ12, hcl, hf⟩ := xc2_f hf
    refine x_calli (va_runV (As := [.ref (E.a 33)]) (rest := []) ⟨hx, hb, hml, hown, hts⟩ (mX3_costOf hE 33 (cX33 hE) σ10 r11 σ12 hcl H.size) (cwV 1 hts gX11_mixCost_X3_costOf rfl rfl rfl (by decide +kernel) ⟨Nat.le_of_ble_eq_true rfl, Nat.le_of_ble_eq_true rfl⟩) (x_preV _ hw hA hG (cX29 hE) rfl) rfl rfl hl.1 rfl (lv_room (Nat.le_of_ble_eq_true rfl)) dX11_mixCost_53 ⟨Nat.le_of_ble_eq_true rfl, Nat.le_of_ble_eq_true rfl⟩) hw hA (fun H locs hw => ?_)
    clear hcl
    refine lv_aload_n hx hb dX11_mixCost_56 rfl (lv_at hl 0 rfl) ?_
    refine x_getr hx hb hw (cX0 hE) (own := RX11) (ref := RX11) (C := RX11) (T := TX11) (N := 14) hts hiX11 hown rfl 6 (by decide) hk60 (fun _ h9 => h9) rfl dX11_mixCost_57 ?_
    refine x_geti hx hb hw (cX29 hE) (own := RX11) (ref := RX3) (C := RX3) (T := TX3) (N := 7) hts hiX3 hown rfl 4 (by decide) hk297 (fun _ h9 => h9) rfl dX11_mixCost_60 ?_
    refine lv_iload_n hx hb dX11_mixCost_63 rfl (lv_at hl 3 rfl) ?_
    obtain ⟨r13, σ14, hcl, hf⟩ := xc2_f hf
    refine x_calli (va_runS (As := [.int r11, .int (σ12 29 4), .int a3]) (rest := []) ⟨hx, hb, hml, hown, hts⟩ (mX11_lowestTerm hE r11 (σ12 29 4) a3 σ12 r13 σ14 hcl H.size) (va_cwS 3 hts gX11_mixCost_X11_lowestTerm rfl rfl rfl (by decide +kernel) ⟨Nat.le_of_ble_eq_true rfl, Nat.le_of_ble_eq_true rfl⟩) (x_preS _ hw hA hG) rfl rfl hl.1 rfl (lv_room (Nat.le_of_ble_eq_true rfl)) dX11_mixCost_64 ⟨Nat.le_of_ble_eq_true rfl, Nat.le_of_ble_eq_true rfl⟩) hw hA (fun H locs hw => ?_)
    clear hcl
    exact x_tiret hx hb hr hlk hw hf (Nat.le_of_ble_eq_true rfl) (Nat.le_of_ble_eq_true rfl) dX11_mixCost_67
  have h26 : ∀ (a1 : Int32) (a2 : Int32) (a3 : Int32) (σ : xSt) (H : Heap) (locs : List Loc) (ls : Array Slot), xw E A s.heap s σ H locs → lv_has ls 4 [(0, .ref (E.a 0)), (1, .int a1), (2, .int a2), (3, .int a3)] → fX11_mixCost_c26 a1 a2 a3 σ = some (o1, o2) → W p l e rmX11_mixCost s m args below meth c H locs 0 0 (vx_MQ below (xQt E A o1 o2) (xXt E A o1 o2) args s 2 12 A) (F0 m 26 ls []) := by
    intro a1 a2 a3 σ H locs ls hw hl hf
    unfold fX11_mixCost_c26 at hf
    refine lv_iconst (v := 0) hx hb dX11_mixCost_26 (by decide) ?_
    exact h27 a1 a2 a3 0 σ _ _ _ hw (lv_sub hl [0, 1, 2, 3] rfl) hf
  refine lv_iload_n hx hb dX11_mixCost_0 rfl (lv_at hl 1 rfl) ?_
  refine lv_iconst (v := 0) hx hb dX11_mixCost_1 (by decide) ?_
  refine lv_sipush (v := 200) hx hb dX11_mixCost_2 (by decide) ?_
  obtain ⟨r1, σ2, hcl, hf⟩ := xc2_f hf
  refine x_calli (va_runS (As := [.int p0, .int 0, .int 200]) (rest := []) ⟨hx, hb, hml, hown, hts⟩ (mX11_isWithin hE p0 0 200 σ r1 σ2 hcl s.heap.size) (va_cwS 3 hts gX11_mixCost_X11_isWithin rfl rfl rfl (by decide +kernel) ⟨Nat.le_of_ble_eq_true rfl, Nat.le_of_ble_eq_true rfl⟩) (x_preS _ hw hA hG) rfl rfl hl.1 rfl (lv_room (Nat.le_of_ble_eq_true rfl)) dX11_mixCost_5 ⟨Nat.le_of_ble_eq_true rfl, Nat.le_of_ble_eq_true rfl⟩) hw hA (fun H locs hw => ?_)
  clear hcl
  refine lv_if_eq (tgt := 26) hx hb dX11_mixCost_8 (by decide) (fun c8 => ?_) (fun c8 => ?_)
  · replace hf := xif_pos c8 hf
    exact h26 p0 p1 p2 σ2 _ _ _ hw (lv_sub hl [0, 1, 2, 3] rfl) hf
  · replace hf := xif_neg c8 hf
    refine lv_iload_n hx hb dX11_mixCost_11 rfl (lv_at hl 2 rfl) ?_
    refine lv_iload_n hx hb dX11_mixCost_12 rfl (lv_at hl 1 rfl) ?_
    refine lv_sipush (v := 200) hx hb dX11_mixCost_13 (by decide) ?_
    obtain ⟨r3, σ4, hcl, hf⟩ := xc2_f hf
    refine x_calli (va_runS (As := [.int p1, .int p0, .int 200]) (rest := []) ⟨hx, hb, hml, hown, hts⟩ (mX11_isWithin hE p1 p0 200 σ2 r3 σ4 hcl H.size) (va_cwS 3 hts gX11_mixCost_X11_isWithin rfl rfl rfl (by decide +kernel) ⟨Nat.le_of_ble_eq_true rfl, Nat.le_of_ble_eq_true rfl⟩) (x_preS _ hw hA hG) rfl rfl hl.1 rfl (lv_room (Nat.le_of_ble_eq_true rfl)) dX11_mixCost_16 ⟨Nat.le_of_ble_eq_true rfl, Nat.le_of_ble_eq_true rfl⟩) hw hA (fun H locs hw => ?_)
    clear hcl
    refine lv_if_eq (tgt := 26) hx hb dX11_mixCost_19 (by decide) (fun c19 => ?_) (fun c19 => ?_)
    · replace hf := xif_pos c19 hf
      exact h26 p0 p1 p2 σ4 _ _ _ hw (lv_sub hl [0, 1, 2, 3] rfl) hf
    · replace hf := xif_neg c19 hf
      refine lv_iconst (v := 1) hx hb dX11_mixCost_22 (by decide) ?_
      refine lv_goto (tgt := 27) hx hb dX11_mixCost_23 (by decide) ?_
      exact h27 p0 p1 p2 1 σ4 _ _ _ hw (lv_sub hl [0, 1, 2, 3] rfl) hf
