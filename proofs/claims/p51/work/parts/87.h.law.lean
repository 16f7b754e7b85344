def fL_holds (σ : xSt) : Option (Int32 × xSt) := (xc2 (fX12_next 3 σ) fun r1 σ2 => (xp σ2 52 4 (1 + r1) fun σ3 => (xc2 (fX12_next 6 σ3) fun r4 σ5 => (xp σ5 52 5 r4 fun σ6 => (xc2 (fL_areMade σ6) fun r7 σ8 => (if r7 = 0 then some (0, σ8) else (xc2 (fL_isDay σ8) fun r9 σ10 => (if r9 = 0 then some (0, σ10) else (xc2 (fL_isEvening σ10) fun r11 σ12 => (if r11 = 0 then some (0, σ12) else (xc2 (fL_isMixed σ12) fun r13 σ14 => (if r13 = 0 then some (0, σ14) else (xc2 (fL_isBest σ14) fun r15 σ16 => (if r15 = 0 then some (0, σ16) else (xc2 (fL_isDriven σ16) fun r17 σ18 => (if r17 = 0 then some (0, σ18) else (xc2 (fL_isClean σ18) fun r19 σ20 => (if r19 = 0 then some (0, σ20) else (xcm (fX11_errors σ20) σ20 fun r21 σ22 => (if r21 = 0 then some (1, σ22) else some (0, σ22)))))))))))))))))))))
abbrev rmL_holds : Room := { frames := 18, cells := 16902, slots := 112266, locals := 495 }
set_option maxRecDepth 100000 in
set_option maxHeartbeats 8000000 in
theorem mL_holds {l : Launch} (hl0 : l.stackTraces = false) {E : xE} (hE : xLE E) (σ : xSt) (o1 : Int32) (o2 : xSt) (hf : fL_holds σ = some (o1, o2)) : xLi l yL_holds wsL_holds rmL_holds E [.ref (E.a 52)] σ o1 o2 16902 112266 := by
  unfold fL_holds at hf
  refine xLi_of (cc := cL_holds) (maxL := 1) (ret := (some .boolean)) (by decide) rfl (Nat.le_of_ble_eq_true rfl) ?_
  intro p e s m args below meth c A ls ⟨hx, hb, hr, hml, hown, hts, hlk⟩ hA hGL hw hl
  have hG := hGL.1
  have hown : s.vm.findClass RL = some m.cls := hown
  have hl : lv_has ls 1 [(0, .ref (E.a 52))] := hl
  have hk34 := hts (.fieldLink RL 34 "OvenRoundLaw" "d" "LOvenRoundLaw$Draws;") (by decide +kernel)
  have hiL : ∀ w ∈ wsL0, w ∈ wsL_holds := by decide +kernel
  have hk160 := hts (.fieldLink RL 160 "OvenRoundLaw" "decks" "I") (by decide +kernel)
  have hk139 := hts (.fieldLink RL 139 "OvenRoundLaw" "warmth" "I") (by decide +kernel)
  have hk10 := hts (.fieldLink RL 10 "OvenRoundLaw" "o" "LOvenRound;") (by decide +kernel)
  refine lv_aload_n hx hb dL_holds_0 rfl (lv_at hl 0 rfl) ?_
  refine lv_iconst (v := 1) hx hb dL_holds_1 (by decide) ?_
  refine lv_aload_n hx hb dL_holds_2 rfl (lv_at hl 0 rfl) ?_
  refine x_getr hx hb hw (cL52 hE) (own := RL) (ref := RL) (C := RL) (T := TL) (N := 10) hts hiL hown rfl 1 (by decide) hk34 (fun _ h9 => h9) rfl dL_holds_3 ?_
  refine lv_iconst (v := 3) hx hb dL_holds_6 (by decide) ?_
  obtain ⟨r1, σ2, hcl, hf⟩ := xc2_f hf
  refine x_callLi (va_runV (As := [.int 3]) (rest := [.int 1, .ref (E.a 52)]) ⟨hx, hb, hml, hown, hts⟩ (mX12_next hl0 hE 3 σ r1 σ2 hcl s.heap.size) (cwV 1 hts gL_holds_X12_next rfl rfl rfl (by decide +kernel) ⟨Nat.le_of_ble_eq_true rfl, Nat.le_of_ble_eq_true rfl⟩) (x_preLV _ hw hA hGL (cL53 hE) rfl) rfl rfl hl.1 rfl (lv_room (Nat.le_of_ble_eq_true rfl)) dL_holds_7 ⟨show 0 + 0 ≤ 16902 by omega, show 0 + 0 ≤ 112266 by omega⟩) hw hA (fun H locs hw => ?_)
  clear hcl
  refine lv_iadd hx hb dL_holds_10 ?_
  refine x_puti hx hb hw (cL52 hE) (own := RL) (ref := RL) (C := RL) (T := TL) (N := 10) hts hiL tyL tyL_ok nmL hown rfl 4 (by decide) hk160 (fun _ h9 => h9) rfl (by decide +kernel) rfl dL_holds_11 (fun σ3 H locs ex hw => ?_)
  replace hf := xp_f hf σ3 ex
  clear ex
  refine lv_aload_n hx hb dL_holds_14 rfl (lv_at hl 0 rfl) ?_
  refine lv_aload_n hx hb dL_holds_15 rfl (lv_at hl 0 rfl) ?_
  refine x_getr hx hb hw (cL52 hE) (own := RL) (ref := RL) (C := RL) (T := TL) (N := 10) hts hiL hown rfl 1 (by decide) hk34 (fun _ h9 => h9) rfl dL_holds_16 ?_
  refine lv_bipush (v := 6) hx hb dL_holds_19 (by decide) ?_
  obtain ⟨r4, σ5, hcl, hf⟩ := xc2_f hf
  refine x_callLi (va_runV (As := [.int 6]) (rest := [.ref (E.a 52)]) ⟨hx, hb, hml, hown, hts⟩ (mX12_next hl0 hE 6 σ3 r4 σ5 hcl H.size) (cwV 1 hts gL_holds_X12_next rfl rfl rfl (by decide +kernel) ⟨Nat.le_of_ble_eq_true rfl, Nat.le_of_ble_eq_true rfl⟩) (x_preLV _ hw hA hGL (cL53 hE) rfl) rfl rfl hl.1 rfl (lv_room (Nat.le_of_ble_eq_true rfl)) dL_holds_21 ⟨show (0 + 0) + 0 ≤ 16902 by omega, show (0 + 0) + 0 ≤ 112266 by omega⟩) hw hA (fun H locs hw => ?_)
  clear hcl
  refine x_puti hx hb hw (cL52 hE) (own := RL) (ref := RL) (C := RL) (T := TL) (N := 10) hts hiL tyL tyL_ok nmL hown rfl 5 (by decide) hk139 (fun _ h9 => h9) rfl (by decide +kernel) rfl dL_holds_24 (fun σ6 H locs ex hw => ?_)
  replace hf := xp_f hf σ6 ex
  clear ex
  refine lv_aload_n hx hb dL_holds_27 rfl (lv_at hl 0 rfl) ?_
  obtain ⟨r7, σ8, hcl, hf⟩ := xc2_f hf
  refine x_callLi (va_runV (As := []) (rest := []) ⟨hx, hb, hml, hown, hts⟩ (mL_areMade hl0 hE σ6 r7 σ8 hcl H.size) (cwV 0 hts gL_holds_L_areMade rfl rfl rfl (by decide +kernel) ⟨Nat.le_of_ble_eq_true rfl, Nat.le_of_ble_eq_true rfl⟩) (x_preLV _ hw hA hGL (cL52 hE) rfl) rfl rfl hl.1 rfl (lv_room (Nat.le_of_ble_eq_true rfl)) dL_holds_28 ⟨show ((0 + 0) + 0) + 536 ≤ 16902 by omega, show ((0 + 0) + 0) + 15096 ≤ 112266 by omega⟩) hw hA (fun H locs hw => ?_)
  clear hcl
  refine lv_if_eq (tgt := 48) hx hb dL_holds_31 (by decide) (fun c31 => ?_) (fun c31 => ?_)
  · replace hf := xif_pos c31 hf
    refine lv_iconst (v := 0) hx hb dL_holds_48 (by decide) ?_
    exact x_Lzretc hx hb hr hlk hw (by decide) hf (show (((0 + 0) + 0) + 536) ≤ 16902 by omega) (show (((0 + 0) + 0) + 15096) ≤ 112266 by omega) dL_holds_49
  · replace hf := xif_neg c31 hf
    refine lv_aload_n hx hb dL_holds_34 rfl (lv_at hl 0 rfl) ?_
    obtain ⟨r9, σ10, hcl, hf⟩ := xc2_f hf
    refine x_callLi (va_runV (As := []) (rest := []) ⟨hx, hb, hml, hown, hts⟩ (mL_isDay hl0 hE σ8 r9 σ10 hcl H.size) (cwV 0 hts gL_holds_L_isDay rfl rfl rfl (by decide +kernel) ⟨Nat.le_of_ble_eq_true rfl, Nat.le_of_ble_eq_true rfl⟩) (x_preLV _ hw hA hGL (cL52 hE) rfl) rfl rfl hl.1 rfl (lv_room (Nat.le_of_ble_eq_true rfl)) dL_holds_35 ⟨show (((0 + 0) + 0) + 536) + 5800 ≤ 16902 by omega, show (((0 + 0) + 0) + 15096) + 33780 ≤ 112266 by omega⟩) hw hA (fun H locs hw => ?_)
    clear hcl
    refine lv_if_eq (tgt := 48) hx hb dL_holds_38 (by decide) (fun c38 => ?_) (fun c38 => ?_)
    · replace hf := xif_pos c38 hf
      refine lv_iconst (v := 0) hx hb dL_holds_48 (by decide) ?_
      exact x_Lzretc hx hb hr hlk hw (by decide) hf (show ((((0 + 0) + 0) + 536) + 5800) ≤ 16902 by omega) (show ((((0 + 0) + 0) + 15096) + 33780) ≤ 112266 by omega) dL_holds_49
    · replace hf := xif_neg c38 hf
      refine lv_aload_n hx hb dL_holds_41 rfl (lv_at hl 0 rfl) ?_
      obtain ⟨r11, σ12, hcl, hf⟩ := xc2_f hf
      refine x_callLi (va_runV (As := []) (rest := []) ⟨hx, hb, hml, hown, hts⟩ (mL_isEvening hl0 hE σ10 r11 σ12 hcl H.size) (cwV 0 hts gL_holds_L_isEvening rfl rfl rfl (by decide +kernel) ⟨Nat.le_of_ble_eq_true rfl, Nat.le_of_ble_eq_true rfl⟩) (x_preLV _ hw hA hGL (cL52 hE) rfl) rfl rfl hl.1 rfl (lv_room (Nat.le_of_ble_eq_true rfl)) dL_holds_42 ⟨show ((((0 + 0) + 0) + 536) + 5800) + 240 ≤ 16902 by omega, show ((((0 + 0) + 0) + 15096) + 33780) + 1440 ≤ 112266 by omega⟩) hw hA (fun H locs hw => ?_)
      clear hcl
      refine lv_if_ne (tgt := 50) hx hb dL_holds_45 (by decide) (fun c45 => ?_) (fun c45 => ?_)
      · replace hf := xif_neg c45 hf
        refine lv_aload_n hx hb dL_holds_50 rfl (lv_at hl 0 rfl) ?_
        obtain ⟨r13, σ14, hcl, hf⟩ := xc2_f hf
        refine x_callLx (vx_runVX (hh := [(140, 155, 158, 229)]) (As := []) (rest := []) ⟨hx, hb, hml, hown, hts⟩ (mL_isMixed hl0 hE σ12 r13 σ14 hcl H.size) (vx_cwVW 0 hts gL_holds_L_isMixed rfl rfl rfl (by decide +kernel) ⟨Nat.le_of_ble_eq_true rfl, Nat.le_of_ble_eq_true rfl⟩) (x_preLV _ hw hA hGL (cL52 hE) rfl) rfl rfl hl.1 rfl (lv_room (Nat.le_of_ble_eq_true rfl)) dL_holds_51 ⟨show (((((0 + 0) + 0) + 536) + 5800) + 240) + 47 ≤ 16902 by omega, show (((((0 + 0) + 0) + 15096) + 33780) + 1440) + 276 ≤ 112266 by omega⟩) hw hA (fun H locs hw => ?_)
        clear hcl
        refine lv_if_eq (tgt := 92) hx hb dL_holds_54 (by decide) (fun c54 => ?_) (fun c54 => ?_)
        · replace hf := xif_pos c54 hf
          refine lv_iconst (v := 0) hx hb dL_holds_92 (by decide) ?_
          exact x_Lzretc hx hb hr hlk hw (by decide) hf (show ((((((0 + 0) + 0) + 536) + 5800) + 240) + 47) ≤ 16902 by omega) (show ((((((0 + 0) + 0) + 15096) + 33780) + 1440) + 276) ≤ 112266 by omega) dL_holds_93
        · replace hf := xif_neg c54 hf
          refine lv_aload_n hx hb dL_holds_57 rfl (lv_at hl 0 rfl) ?_
          obtain ⟨r15, σ16, hcl, hf⟩ := xc2_f hf
          refine x_callLi (va_runV (As := []) (rest := []) ⟨hx, hb, hml, hown, hts⟩ (mL_isBest hl0 hE σ14 r15 σ16 hcl H.size) (cwV 0 hts gL_holds_L_isBest rfl rfl rfl (by decide +kernel) ⟨Nat.le_of_ble_eq_true rfl, Nat.le_of_ble_eq_true rfl⟩) (x_preLV _ hw hA hGL (cL52 hE) rfl) rfl rfl hl.1 rfl (lv_room (Nat.le_of_ble_eq_true rfl)) dL_holds_58 ⟨show ((((((0 + 0) + 0) + 536) + 5800) + 240) + 47) + 231 ≤ 16902 by omega, show ((((((0 + 0) + 0) + 15096) + 33780) + 1440) + 276) + 1386 ≤ 112266 by omega⟩) hw hA (fun H locs hw => ?_)
          clear hcl
          refine lv_if_eq (tgt := 92) hx hb dL_holds_61 (by decide) (fun c61 => ?_) (fun c61 => ?_)
          · replace hf := xif_pos c61 hf
            refine lv_iconst (v := 0) hx hb dL_holds_92 (by decide) ?_
            exact x_Lzretc hx hb hr hlk hw (by decide) hf (show (((((((0 + 0) + 0) + 536) + 5800) + 240) + 47) + 231) ≤ 16902 by omega) (show (((((((0 + 0) + 0) + 15096) + 33780) + 1440) + 276) + 1386) ≤ 112266 by omega) dL_holds_93
          · replace hf := xif_neg c61 hf
            refine lv_aload_n hx hb dL_holds_64 rfl (lv_at hl 0 rfl) ?_
            obtain ⟨r17, σ18, hcl, hf⟩ := xc2_f hf
            refine x_callLi (va_runV (As := []) (rest := []) ⟨hx, hb, hml, hown, hts⟩ (mL_isDriven hl0 hE σ16 r17 σ18 hcl H.size) (cwV 0 hts gL_holds_L_isDriven rfl rfl rfl (by decide +kernel) ⟨Nat.le_of_ble_eq_true rfl, Nat.le_of_ble_eq_true rfl⟩) (x_preLV _ hw hA hGL (cL52 hE) rfl) rfl rfl hl.1 rfl (lv_room (Nat.le_of_ble_eq_true rfl)) dL_holds_65 ⟨show (((((((0 + 0) + 0) + 536) + 5800) + 240) + 47) + 231) + 10034 ≤ 16902 by omega, show (((((((0 + 0) + 0) + 15096) + 33780) + 1440) + 276) + 1386) + 60204 ≤ 112266 by omega⟩) hw hA (fun H locs hw => ?_)
            clear hcl
            refine lv_if_eq (tgt := 92) hx hb dL_holds_68 (by decide) (fun c68 => ?_) (fun c68 => ?_)
            · replace hf := xif_pos c68 hf
              refine lv_iconst (v := 0) hx hb dL_holds_92 (by decide) ?_
              exact x_Lzretc hx hb hr hlk hw (by decide) hf (show ((((((((0 + 0) + 0) + 536) + 5800) + 240) + 47) + 231) + 10034) ≤ 16902 by omega) (show ((((((((0 + 0) + 0) + 15096) + 33780) + 1440) + 276) + 1386) + 60204) ≤ 112266 by omega) dL_holds_93
            · replace hf := xif_neg c68 hf
              refine lv_aload_n hx hb dL_holds_71 rfl (lv_at hl 0 rfl) ?_
              obtain ⟨r19, σ20, hcl, hf⟩ := xc2_f hf
              refine x_callLi (va_runV (As := []) (rest := []) ⟨hx, hb, hml, hown, hts⟩ (mL_isClean hl0 hE σ18 r19 σ20 hcl H.size) (cwV 0 hts gL_holds_L_isClean rfl rfl rfl (by decide +kernel) ⟨Nat.le_of_ble_eq_true rfl, Nat.le_of_ble_eq_true rfl⟩) (x_preLV _ hw hA hGL (cL52 hE) rfl) rfl rfl hl.1 rfl (lv_room (Nat.le_of_ble_eq_true rfl)) dL_holds_72 ⟨show ((((((((0 + 0) + 0) + 536) + 5800) + 240) + 47) + 231) + 10034) + 14 ≤ 16902 by omega, show ((((((((0 + 0) + 0) + 15096) + 33780) + 1440) + 276) + 1386) + 60204) + 84 ≤ 112266 by omega⟩) hw hA (fun H locs hw => ?_)
              clear hcl
              refine lv_if_eq (tgt := 92) hx hb dL_holds_75 (by decide) (fun c75 => ?_) (fun c75 => ?_)
              · replace hf := xif_pos c75 hf
                refine lv_iconst (v := 0) hx hb dL_holds_92 (by decide) ?_
                exact x_Lzretc hx hb hr hlk hw (by decide) hf (show (((((((((0 + 0) + 0) + 536) + 5800) + 240) + 47) + 231) + 10034) + 14) ≤ 16902 by omega) (show (((((((((0 + 0) + 0) + 15096) + 33780) + 1440) + 276) + 1386) + 60204) + 84) ≤ 112266 by omega) dL_holds_93
              · replace hf := xif_neg c75 hf
                refine lv_aload_n hx hb dL_holds_78 rfl (lv_at hl 0 rfl) ?_
                refine x_getr hx hb hw (cL52 hE) (own := RL) (ref := RL) (C := RL) (T := TL) (N := 10) hts hiL hown rfl 0 (by decide) hk10 (fun _ h9 => h9) rfl dL_holds_79 ?_
                obtain ⟨r21, τ9, hcl, hf⟩ := xcm_g hf
                refine x_calli (va_runV (As := []) (rest := []) ⟨hx, hb, hml, hown, hts⟩ (mX11_errors (E := xCut E σ20) rfl  σ20 r21 τ9 hcl H.size) (cwV 0 hts gL_holds_X11_errors rfl rfl rfl (by decide +kernel) ⟨Nat.le_of_ble_eq_true rfl, Nat.le_of_ble_eq_true rfl⟩) (x_preV _ (xw_cut hE hw) hA hG (cX0 (E := xCut E σ20) rfl) rfl) rfl rfl hl.1 rfl (lv_room (Nat.le_of_ble_eq_true rfl)) dL_holds_82 ⟨show (((((((((0 + 0) + 0) + 536) + 5800) + 240) + 47) + 231) + 10034) + 14) + 0 ≤ 16902 by omega, show (((((((((0 + 0) + 0) + 15096) + 33780) + 1440) + 276) + 1386) + 60204) + 84) + 0 ≤ 112266 by omega⟩) (xw_cut hE hw) hA (fun H locs hw => ?_)
                obtain ⟨σ22, eρ, hw⟩ := xw_unc2 hE hw
                replace hf := hf σ22 eρ
                clear eρ hcl
                refine lv_if_ne (tgt := 92) hx hb dL_holds_85 (by decide) (fun c85 => ?_) (fun c85 => ?_)
                · replace hf := xif_neg c85 hf
                  refine lv_iconst (v := 0) hx hb dL_holds_92 (by decide) ?_
                  exact x_Lzretc hx hb hr hlk hw (by decide) hf (show (((((((((0 + 0) + 0) + 536) + 5800) + 240) + 47) + 231) + 10034) + 14) ≤ 16902 by omega) (show (((((((((0 + 0) + 0) + 15096) + 33780) + 1440) + 276) + 1386) + 60204) + 84) ≤ 112266 by omega) dL_holds_93
                · replace hf := xif_pos c85 hf
                  refine lv_iconst (v := 1) hx hb dL_holds_88 (by decide) ?_
                  refine lv_goto (tgt := 93) hx hb dL_holds_89 (by decide) ?_
                  exact x_Lzretc hx hb hr hlk hw (by decide) hf (show (((((((((0 + 0) + 0) + 536) + 5800) + 240) + 47) + 231) + 10034) + 14) ≤ 16902 by omega) (show (((((((((0 + 0) + 0) + 15096) + 33780) + 1440) + 276) + 1386) + 60204) + 84) ≤ 112266 by omega) dL_holds_93
      · replace hf := xif_pos c45 hf
        refine lv_iconst (v := 0) hx hb dL_holds_48 (by decide) ?_
        exact x_Lzretc hx hb hr hlk hw (by decide) hf (show (((((0 + 0) + 0) + 536) + 5800) + 240) ≤ 16902 by omega) (show (((((0 + 0) + 0) + 15096) + 33780) + 1440) ≤ 112266 by omega) dL_holds_49
