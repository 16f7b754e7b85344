def fX12_doughAt (p0 : Int32) (p1 : Int32) (σ : xSt) : Option (Int32 × xSt) := (xc2 (fX12_isDough p0 σ) fun r1 σ2 => (xc2 (fX12_can r1 1 σ2) fun r3 σ4 => (if r3 = 0 then some (0, σ4) else (xc2 (fX12_in p1 0 6 σ4) fun r5 σ6 => (xc2 (fX12_can r5 2 σ6) fun r7 σ8 => (if r7 = 0 then some (0, σ8) else (if p1 = 0 then (xr σ8 1 680 (103 + p0) fun v9 => some (v9, σ8)) else (if p1 = 1 then (xr σ8 1 680 (123 + p0) fun v10 => some (v10, σ8)) else (if p1 = 2 then (xr σ8 1 680 (143 + p0) fun v11 => some (v11, σ8)) else (if p1 = 3 then (xr σ8 1 680 (163 + p0) fun v12 => some (v12, σ8)) else (if p1 = 4 then (xc2 (fX12_gramsOf p0 σ8) fun r13 σ14 => some (r13, σ14)) else (if p1 = 5 then (xr σ8 1 680 (183 + p0) fun v15 => some (v15, σ8)) else (xr σ8 1 680 (203 + p0) fun v16 => some (v16, σ8))))))))))))))
abbrev rmX12_doughAt : Room := { frames := 2, cells := 0, slots := 0, locals := 43 }
set_option maxRecDepth 100000 in
set_option maxHeartbeats 4000000 in
theorem mX12_doughAt {l : Launch} {E : xE} (hE : E.sh = shM) (p0 : Int32) (p1 : Int32) (σ : xSt) (o1 : Int32) (o2 : xSt) (hf : fX12_doughAt p0 p1 σ = some (o1, o2)) : xMi l yX12_doughAt wsX12_doughAt rmX12_doughAt E [.ref (E.a 0), .int p0, .int p1] σ o1 o2 := by
  unfold fX12_doughAt at hf
  refine xMi_of (cc := cX12_doughAt) (maxL := 3) (ret := (some .int)) (by decide) rfl (Nat.le_of_ble_eq_true rfl) ?_
  intro p e s m args below meth c A ls ⟨hx, hb, hr, hml, hown, hts, hlk⟩ hA hG hw hl
  have hown : s.vm.findClass RX12 = some m.cls := hown
  have hl : lv_has ls 3 [(0, .ref (E.a 0)), (1, .int p0), (2, .int p1)] := hl
  have hk9 := hts (.fieldLink RX12 9 "OvenRoundModel" "w" "[I") (by decide +kernel)
  have hiX12 : ∀ w ∈ wsX120, w ∈ wsX12_doughAt := by decide +kernel
  refine lv_aload_n hx hb dX12_doughAt_0 rfl (lv_at hl 0 rfl) ?_
  refine lv_aload_n hx hb dX12_doughAt_1 rfl (lv_at hl 0 rfl) ?_
  refine lv_iload_n hx hb dX12_doughAt_2 rfl (lv_at hl 1 rfl) ?_
  obtain ⟨r1, σ2, hcl, hf⟩ := xc2_f hf
  refine x_calli (va_runV (As := [.int p0]) (rest := [.ref (E.a 0)]) ⟨hx, hb, hml, hown, hts⟩ (mX12_isDough hE p0 σ r1 σ2 hcl s.heap.size) (cwV 1 hts gX12_doughAt_X12_isDough rfl rfl rfl (by decide +kernel) ⟨Nat.le_of_ble_eq_true rfl, Nat.le_of_ble_eq_true rfl⟩) (x_preV _ hw hA hG (cM0 hE) rfl) rfl rfl hl.1 rfl (lv_room (Nat.le_of_ble_eq_true rfl)) dX12_doughAt_3 ⟨Nat.le_of_ble_eq_true rfl, Nat.le_of_ble_eq_true rfl⟩) hw hA (fun H locs hw => ?_)
  clear hcl
  refine lv_iconst (v := 1) hx hb dX12_doughAt_6 (by decide) ?_
  obtain ⟨r3, σ4, hcl, hf⟩ := xc2_f hf
  refine x_calli (va_runV (As := [.int r1, .int 1]) (rest := []) ⟨hx, hb, hml, hown, hts⟩ (mX12_can hE r1 1 σ2 r3 σ4 hcl H.size) (cwV 2 hts gX12_doughAt_X12_can rfl rfl rfl (by decide +kernel) ⟨Nat.le_of_ble_eq_true rfl, Nat.le_of_ble_eq_true rfl⟩) (x_preV _ hw hA hG (cM0 hE) rfl) rfl rfl hl.1 rfl (lv_room (Nat.le_of_ble_eq_true rfl)) dX12_doughAt_7 ⟨Nat.le_of_ble_eq_true rfl, Nat.le_of_ble_eq_true rfl⟩) hw hA (fun H locs hw => ?_)
  clear hcl
  refine lv_if_eq (tgt := 28) hx hb dX12_doughAt_10 (by decide) (fun c10 => ?_) (fun c10 => ?_)
  · replace hf := xif_pos c10 hf
    refine lv_iconst (v := 0) hx hb dX12_doughAt_28 (by decide) ?_
    exact x_iret hx hb hr hlk hw hf dX12_doughAt_29
  · replace hf := xif_neg c10 hf
    refine lv_aload_n hx hb dX12_doughAt_13 rfl (lv_at hl 0 rfl) ?_
    refine lv_iload_n hx hb dX12_doughAt_14 rfl (lv_at hl 2 rfl) ?_
    refine lv_iconst (v := 0) hx hb dX12_doughAt_15 (by decide) ?_
    refine lv_bipush (v := 6) hx hb dX12_doughAt_16 (by decide) ?_
    obtain ⟨r5, σ6, hcl, hf⟩ := xc2_f hf
    refine x_calli (va_runS (As := [.int p1, .int 0, .int 6]) (rest := [.ref (E.a 0)]) ⟨hx, hb, hml, hown, hts⟩ (mX12_in hE p1 0 6 σ4 r5 σ6 hcl H.size) (va_cwS 3 hts gX12_doughAt_X12_in rfl rfl rfl (by decide +kernel) ⟨Nat.le_of_ble_eq_true rfl, Nat.le_of_ble_eq_true rfl⟩) (x_preS _ hw hA hG) rfl rfl hl.1 rfl (lv_room (Nat.le_of_ble_eq_true rfl)) dX12_doughAt_18 ⟨Nat.le_of_ble_eq_true rfl, Nat.le_of_ble_eq_true rfl⟩) hw hA (fun H locs hw => ?_)
    clear hcl
    refine lv_iconst (v := 2) hx hb dX12_doughAt_21 (by decide) ?_
    obtain ⟨r7, σ8, hcl, hf⟩ := xc2_f hf
    refine x_calli (va_runV (As := [.int r5, .int 2]) (rest := []) ⟨hx, hb, hml, hown, hts⟩ (mX12_can hE r5 2 σ6 r7 σ8 hcl H.size) (cwV 2 hts gX12_doughAt_X12_can rfl rfl rfl (by decide +kernel) ⟨Nat.le_of_ble_eq_true rfl, Nat.le_of_ble_eq_true rfl⟩) (x_preV _ hw hA hG (cM0 hE) rfl) rfl rfl hl.1 rfl (lv_room (Nat.le_of_ble_eq_true rfl)) dX12_doughAt_22 ⟨Nat.le_of_ble_eq_true rfl, Nat.le_of_ble_eq_true rfl⟩) hw hA (fun H locs hw => ?_)
    clear hcl
    refine lv_if_ne (tgt := 30) hx hb dX12_doughAt_25 (by decide) (fun c25 => ?_) (fun c25 => ?_)
    · replace hf := xif_neg c25 hf
      refine lv_iload_n hx hb dX12_doughAt_30 rfl (lv_at hl 2 rfl) ?_
      by_cases c31_0 : p1 = 0
      · replace hf := xif_pos c31_0 hf
        refine lv_tableIn (off := 37) (tgt := 68) hx hb dX12_doughAt_31 (by rw [c31_0]; decide) (by rw [c31_0]; decide) (by rw [c31_0]; rfl) (by decide) ?_
        refine lv_aload_n hx hb dX12_doughAt_68 rfl (lv_at hl 0 rfl) ?_
        refine x_getr hx hb hw (cM0 hE) (own := RX12) (ref := RX12) (C := RX12) (T := TX12) (N := 20) hts hiX12 hown rfl 1 (by decide) hk9 (fun _ h9 => h9) rfl dX12_doughAt_69 ?_
        refine lv_bipush (v := 103) hx hb dX12_doughAt_72 (by decide) ?_
        refine lv_iload_n hx hb dX12_doughAt_74 rfl (lv_at hl 1 rfl) ?_
        refine lv_iadd hx hb dX12_doughAt_75 ?_
        obtain ⟨hin, hf⟩ := xr_f hf
        refine x_iald hx hb hw (cM1 hE) hin dX12_doughAt_76 ?_
        refine lv_topi (fun v9 ex => ?_)
        replace hf := hf v9 ex
        clear ex hin
        exact x_iret hx hb hr hlk hw hf dX12_doughAt_77
      · replace hf := xif_neg c31_0 hf
        by_cases c31_1 : p1 = 1
        · replace hf := xif_pos c31_1 hf
          refine lv_tableIn (off := 47) (tgt := 78) hx hb dX12_doughAt_31 (by rw [c31_1]; decide) (by rw [c31_1]; decide) (by rw [c31_1]; rfl) (by decide) ?_
          refine lv_aload_n hx hb dX12_doughAt_78 rfl (lv_at hl 0 rfl) ?_
          refine x_getr hx hb hw (cM0 hE) (own := RX12) (ref := RX12) (C := RX12) (T := TX12) (N := 20) hts hiX12 hown rfl 1 (by decide) hk9 (fun _ h9 => h9) rfl dX12_doughAt_79 ?_
          refine lv_bipush (v := 123) hx hb dX12_doughAt_82 (by decide) ?_
          refine lv_iload_n hx hb dX12_doughAt_84 rfl (lv_at hl 1 rfl) ?_
          refine lv_iadd hx hb dX12_doughAt_85 ?_
          obtain ⟨hin, hf⟩ := xr_f hf
          refine x_iald hx hb hw (cM1 hE) hin dX12_doughAt_86 ?_
          refine lv_topi (fun v10 ex => ?_)
          replace hf := hf v10 ex
          clear ex hin
          exact x_iret hx hb hr hlk hw hf dX12_doughAt_87
        · replace hf := xif_neg c31_1 hf
          by_cases c31_2 : p1 = 2
          · replace hf := xif_pos c31_2 hf
            refine lv_tableIn (off := 57) (tgt := 88) hx hb dX12_doughAt_31 (by rw [c31_2]; decide) (by rw [c31_2]; decide) (by rw [c31_2]; rfl) (by decide) ?_
            refine lv_aload_n hx hb dX12_doughAt_88 rfl (lv_at hl 0 rfl) ?_
            refine x_getr hx hb hw (cM0 hE) (own := RX12) (ref := RX12) (C := RX12) (T := TX12) (N := 20) hts hiX12 hown rfl 1 (by decide) hk9 (fun _ h9 => h9) rfl dX12_doughAt_89 ?_
            refine lv_sipush (v := 143) hx hb dX12_doughAt_92 (by decide) ?_
            refine lv_iload_n hx hb dX12_doughAt_95 rfl (lv_at hl 1 rfl) ?_
            refine lv_iadd hx hb dX12_doughAt_96 ?_
            obtain ⟨hin, hf⟩ := xr_f hf
            refine x_iald hx hb hw (cM1 hE) hin dX12_doughAt_97 ?_
            refine lv_topi (fun v11 ex => ?_)
            replace hf := hf v11 ex
            clear ex hin
            exact x_iret hx hb hr hlk hw hf dX12_doughAt_98
          · replace hf := xif_neg c31_2 hf
            by_cases c31_3 : p1 = 3
            · replace hf := xif_pos c31_3 hf
              refine lv_tableIn (off := 68) (tgt := 99) hx hb dX12_doughAt_31 (by rw [c31_3]; decide) (by rw [c31_3]; decide) (by rw [c31_3]; rfl) (by decide) ?_
              refine lv_aload_n hx hb dX12_doughAt_99 rfl (lv_at hl 0 rfl) ?_
              refine x_getr hx hb hw (cM0 hE) (own := RX12) (ref := RX12) (C := RX12) (T := TX12) (N := 20) hts hiX12 hown rfl 1 (by decide) hk9 (fun _ h9 => h9) rfl dX12_doughAt_100 ?_
              refine lv_sipush (v := 163) hx hb dX12_doughAt_103 (by decide) ?_
              refine lv_iload_n hx hb dX12_doughAt_106 rfl (lv_at hl 1 rfl) ?_
              refine lv_iadd hx hb dX12_doughAt_107 ?_
              obtain ⟨hin, hf⟩ := xr_f hf
              refine x_iald hx hb hw (cM1 hE) hin dX12_doughAt_108 ?_
              refine lv_topi (fun v12 ex => ?_)
              replace hf := hf v12 ex
              clear ex hin
              exact x_iret hx hb hr hlk hw hf dX12_doughAt_109
            · replace hf := xif_neg c31_3 hf
              by_cases c31_4 : p1 = 4
              · replace hf := xif_pos c31_4 hf
                refine lv_tableIn (off := 79) (tgt := 110) hx hb dX12_doughAt_31 (by rw [c31_4]; decide) (by rw [c31_4]; decide) (by rw [c31_4]; rfl) (by decide) ?_
                refine lv_aload_n hx hb dX12_doughAt_110 rfl (lv_at hl 0 rfl) ?_
                refine lv_iload_n hx hb dX12_doughAt_111 rfl (lv_at hl 1 rfl) ?_
                obtain ⟨r13, σ14, hcl, hf⟩ := xc2_f hf
                refine x_calli (va_runV (As := [.int p0]) (rest := []) ⟨hx, hb, hml, hown, hts⟩ (mX12_gramsOf hE p0 σ8 r13 σ14 hcl H.size) (cwV 1 hts gX12_doughAt_X12_gramsOf rfl rfl rfl (by decide +kernel) ⟨Nat.le_of_ble_eq_true rfl, Nat.le_of_ble_eq_true rfl⟩) (x_preV _ hw hA hG (cM0 hE) rfl) rfl rfl hl.1 rfl (lv_room (Nat.le_of_ble_eq_true rfl)) dX12_doughAt_112 ⟨Nat.le_of_ble_eq_true rfl, Nat.le_of_ble_eq_true rfl⟩) hw hA (fun H locs hw => ?_)
                clear hcl
                exact x_iret hx hb hr hlk hw hf dX12_doughAt_115
              · replace hf := xif_neg c31_4 hf
                by_cases c31_5 : p1 = 5
                · replace hf := xif_pos c31_5 hf
                  refine lv_tableIn (off := 85) (tgt := 116) hx hb dX12_doughAt_31 (by rw [c31_5]; decide) (by rw [c31_5]; decide) (by rw [c31_5]; rfl) (by decide) ?_
                  refine lv_aload_n hx hb dX12_doughAt_116 rfl (lv_at hl 0 rfl) ?_
                  refine x_getr hx hb hw (cM0 hE) (own := RX12) (ref := RX12) (C := RX12) (T := TX12) (N := 20) hts hiX12 hown rfl 1 (by decide) hk9 (fun _ h9 => h9) rfl dX12_doughAt_117 ?_
                  refine lv_sipush (v := 183) hx hb dX12_doughAt_120 (by decide) ?_
                  refine lv_iload_n hx hb dX12_doughAt_123 rfl (lv_at hl 1 rfl) ?_
                  refine lv_iadd hx hb dX12_doughAt_124 ?_
                  obtain ⟨hin, hf⟩ := xr_f hf
                  refine x_iald hx hb hw (cM1 hE) hin dX12_doughAt_125 ?_
                  refine lv_topi (fun v15 ex => ?_)
                  replace hf := hf v15 ex
                  clear ex hin
                  exact x_iret hx hb hr hlk hw hf dX12_doughAt_126
                · replace hf := xif_neg c31_5 hf
                  refine lv_tableOut (tgt := 127) hx hb dX12_doughAt_31 (x_sw5 c31_0 c31_1 c31_2 c31_3 c31_4 c31_5) (by decide) ?_
                  refine lv_aload_n hx hb dX12_doughAt_127 rfl (lv_at hl 0 rfl) ?_
                  refine x_getr hx hb hw (cM0 hE) (own := RX12) (ref := RX12) (C := RX12) (T := TX12) (N := 20) hts hiX12 hown rfl 1 (by decide) hk9 (fun _ h9 => h9) rfl dX12_doughAt_128 ?_
                  refine lv_sipush (v := 203) hx hb dX12_doughAt_131 (by decide) ?_
                  refine lv_iload_n hx hb dX12_doughAt_134 rfl (lv_at hl 1 rfl) ?_
                  refine lv_iadd hx hb dX12_doughAt_135 ?_
                  obtain ⟨hin, hf⟩ := xr_f hf
                  refine x_iald hx hb hw (cM1 hE) hin dX12_doughAt_136 ?_
                  refine lv_topi (fun v16 ex => ?_)
                  replace hf := hf v16 ex
                  clear ex hin
                  exact x_iret hx hb hr hlk hw hf dX12_doughAt_137
    · replace hf := xif_pos c25 hf
      refine lv_iconst (v := 0) hx hb dX12_doughAt_28 (by decide) ?_
      exact x_iret hx hb hr hlk hw hf dX12_doughAt_29

def fX12_isAtHand (p0 : Int32) (σ : xSt) : Option (Int32 × xSt) := (xr σ 1 680 (163 + p0) fun v1 => (if v1 = 0 then some (1, σ) else (xr σ 1 680 (163 + p0) fun v2 => (if v2 = 1 then some (1, σ) else some (0, σ)))))
abbrev rmX12_isAtHand : Room := { frames := 0, cells := 0, slots := 0, locals := 0 }
set_option maxRecDepth 100000 in
set_option maxHeartbeats 4000000 in
theorem mX12_isAtHand {l : Launch} {E : xE} (hE : E.sh = shM) (p0 : Int32) (σ : xSt) (o1 : Int32) (o2 : xSt) (hf : fX12_isAtHand p0 σ = some (o1, o2)) : xMi l yX12_isAtHand wsX12_isAtHand rmX12_isAtHand E [.ref (E.a 0), .int p0] σ o1 o2 := by
  unfold fX12_isAtHand at hf
  refine xMi_of (cc := cX12_isAtHand) (maxL := 2) (ret := (some .boolean)) (by decide) rfl (Nat.le_of_ble_eq_true rfl) ?_
  intro p e s m args below meth c A ls ⟨hx, hb, hr, hml, hown, hts, hlk⟩ hA hG hw hl
  have hown : s.vm.findClass RX12 = some m.cls := hown
  have hl : lv_has ls 2 [(0, .ref (E.a 0)), (1, .int p0)] := hl
  have hk9 := hts (.fieldLink RX12 9 "OvenRoundModel" "w" "[I") (by decide +kernel)
  have hiX12 : ∀ w ∈ wsX120, w ∈ wsX12_isAtHand := by decide +kernel
  refine lv_aload_n hx hb dX12_isAtHand_0 rfl (lv_at hl 0 rfl) ?_
  refine x_getr hx hb hw (cM0 hE) (own := RX12) (ref := RX12) (C := RX12) (T := TX12) (N := 20) hts hiX12 hown rfl 1 (by decide) hk9 (fun _ h9 => h9) rfl dX12_isAtHand_1 ?_
  refine lv_sipush (v := 163) hx hb dX12_isAtHand_4 (by decide) ?_
  refine lv_iload_n hx hb dX12_isAtHand_7 rfl (lv_at hl 1 rfl) ?_
  refine lv_iadd hx hb dX12_isAtHand_8 ?_
  obtain ⟨hin, hf⟩ := xr_f hf
  refine x_iald hx hb hw (cM1 hE) hin dX12_isAtHand_9 ?_
  refine lv_topi (fun v1 ex => ?_)
  replace hf := hf v1 ex
  clear ex hin
  refine lv_if_eq (tgt := 27) hx hb dX12_isAtHand_10 (by decide) (fun c10 => ?_) (fun c10 => ?_)
  · replace hf := xif_pos c10 hf
    refine lv_iconst (v := 1) hx hb dX12_isAtHand_27 (by decide) ?_
    refine lv_goto (tgt := 32) hx hb dX12_isAtHand_28 (by decide) ?_
    exact x_zretc hx hb hr hlk hw (by decide) hf dX12_isAtHand_32
  · replace hf := xif_neg c10 hf
    refine lv_aload_n hx hb dX12_isAtHand_13 rfl (lv_at hl 0 rfl) ?_
    refine x_getr hx hb hw (cM0 hE) (own := RX12) (ref := RX12) (C := RX12) (T := TX12) (N := 20) hts hiX12 hown rfl 1 (by decide) hk9 (fun _ h9 => h9) rfl dX12_isAtHand_14 ?_
    refine lv_sipush (v := 163) hx hb dX12_isAtHand_17 (by decide) ?_
    refine lv_iload_n hx hb dX12_isAtHand_20 rfl (lv_at hl 1 rfl) ?_
    refine lv_iadd hx hb dX12_isAtHand_21 ?_
    obtain ⟨hin, hf⟩ := xr_f hf
    refine x_iald hx hb hw (cM1 hE) hin dX12_isAtHand_22 ?_
    refine lv_topi (fun v2 ex => ?_)
    replace hf := hf v2 ex
    clear ex hin
    refine lv_iconst (v := 1) hx hb dX12_isAtHand_23 (by decide) ?_
    refine lv_icmp_ne (tgt := 31) hx hb dX12_isAtHand_24 (by decide) (fun c24 => ?_) (fun c24 => ?_)
    · replace hf := xif_neg c24 hf
      refine lv_iconst (v := 0) hx hb dX12_isAtHand_31 (by decide) ?_
      exact x_zretc hx hb hr hlk hw (by decide) hf dX12_isAtHand_32
    · replace hf := xif_pos c24 hf
      refine lv_iconst (v := 1) hx hb dX12_isAtHand_27 (by decide) ?_
      refine lv_goto (tgt := 32) hx hb dX12_isAtHand_28 (by decide) ?_
      exact x_zretc hx hb hr hlk hw (by decide) hf dX12_isAtHand_32

def fX12_throwAway (p0 : Int32) (σ : xSt) : Option (Int32 × xSt) := (xc2 (fX12_isDough p0 σ) fun r1 σ2 => (xc2 (fX12_can r1 1 σ2) fun r3 σ4 => (if r3 = 0 then some (0, σ4) else (xc2 (fX12_isAtHand p0 σ4) fun r5 σ6 => (xc2 (fX12_can r5 2 σ6) fun r7 σ8 => (if r7 = 0 then some (0, σ8) else (xc (fX12_keep σ8) fun σ10 => (xs σ10 1 680 (163 + p0) 4 fun σ11 => (xr σ11 1 680 10 fun v12 => (xc2 (fX12_gramsOf p0 σ11) fun r13 σ14 => (xs σ14 1 680 10 (v12 + r13) fun σ15 => (xc2 (fX12_gramsOf p0 σ15) fun r16 σ17 => some (r16, σ17)))))))))))))
abbrev rmX12_throwAway : Room := { frames := 2, cells := 0, slots := 0, locals := 43 }
set_option maxRecDepth 100000 in
set_option maxHeartbeats 4000000 in
theorem mX12_throwAway {l : Launch} {E : xE} (hE : E.sh = shM) (p0 : Int32) (σ : xSt) (o1 : Int32) (o2 : xSt) (hf : fX12_throwAway p0 σ = some (o1, o2)) : xMi l yX12_throwAway wsX12_throwAway rmX12_throwAway E [.ref (E.a 0), .int p0] σ o1 o2 := by
  unfold fX12_throwAway at hf
  refine xMi_of (cc := cX12_throwAway) (maxL := 2) (ret := (some .int)) (by decide) rfl (Nat.le_of_ble_eq_true rfl) ?_
  intro p e s m args below meth c A ls ⟨hx, hb, hr, hml, hown, hts, hlk⟩ hA hG hw hl
  have hown : s.vm.findClass RX12 = some m.cls := hown
  have hl : lv_has ls 2 [(0, .ref (E.a 0)), (1, .int p0)] := hl
  have hk9 := hts (.fieldLink RX12 9 "OvenRoundModel" "w" "[I") (by decide +kernel)
  have hiX12 : ∀ w ∈ wsX120, w ∈ wsX12_throwAway := by decide +kernel
  refine lv_aload_n hx hb dX12_throwAway_0 rfl (lv_at hl 0 rfl) ?_
  refine lv_aload_n hx hb dX12_throwAway_1 rfl (lv_at hl 0 rfl) ?_
  refine lv_iload_n hx hb dX12_throwAway_2 rfl (lv_at hl 1 rfl) ?_
  obtain ⟨r1, σ2, hcl, hf⟩ := xc2_f hf
  refine x_calli (va_runV (As := [.int p0]) (rest := [.ref (E.a 0)]) ⟨hx, hb, hml, hown, hts⟩ (mX12_isDough hE p0 σ r1 σ2 hcl s.heap.size) (cwV 1 hts gX12_throwAway_X12_isDough rfl rfl rfl (by decide +kernel) ⟨Nat.le_of_ble_eq_true rfl, Nat.le_of_ble_eq_true rfl⟩) (x_preV _ hw hA hG (cM0 hE) rfl) rfl rfl hl.1 rfl (lv_room (Nat.le_of_ble_eq_true rfl)) dX12_throwAway_3 ⟨Nat.le_of_ble_eq_true rfl, Nat.le_of_ble_eq_true rfl⟩) hw hA (fun H locs hw => ?_)
  clear hcl
  refine lv_iconst (v := 1) hx hb dX12_throwAway_6 (by decide) ?_
  obtain ⟨r3, σ4, hcl, hf⟩ := xc2_f hf
  refine x_calli (va_runV (As := [.int r1, .int 1]) (rest := []) ⟨hx, hb, hml, hown, hts⟩ (mX12_can hE r1 1 σ2 r3 σ4 hcl H.size) (cwV 2 hts gX12_throwAway_X12_can rfl rfl rfl (by decide +kernel) ⟨Nat.le_of_ble_eq_true rfl, Nat.le_of_ble_eq_true rfl⟩) (x_preV _ hw hA hG (cM0 hE) rfl) rfl rfl hl.1 rfl (lv_room (Nat.le_of_ble_eq_true rfl)) dX12_throwAway_7 ⟨Nat.le_of_ble_eq_true rfl, Nat.le_of_ble_eq_true rfl⟩) hw hA (fun H locs hw => ?_)
  clear hcl
  refine lv_if_eq (tgt := 26) hx hb dX12_throwAway_10 (by decide) (fun c10 => ?_) (fun c10 => ?_)
  · replace hf := xif_pos c10 hf
    refine lv_iconst (v := 0) hx hb dX12_throwAway_26 (by decide) ?_
    exact x_iret hx hb hr hlk hw hf dX12_throwAway_27
  · replace hf := xif_neg c10 hf
    refine lv_aload_n hx hb dX12_throwAway_13 rfl (lv_at hl 0 rfl) ?_
    refine lv_aload_n hx hb dX12_throwAway_14 rfl (lv_at hl 0 rfl) ?_
    refine lv_iload_n hx hb dX12_throwAway_15 rfl (lv_at hl 1 rfl) ?_
    obtain ⟨r5, σ6, hcl, hf⟩ := xc2_f hf
    refine x_calli (va_runV (As := [.int p0]) (rest := [.ref (E.a 0)]) ⟨hx, hb, hml, hown, hts⟩ (mX12_isAtHand hE p0 σ4 r5 σ6 hcl H.size) (cwV 1 hts gX12_throwAway_X12_isAtHand rfl rfl rfl (by decide +kernel) ⟨Nat.le_of_ble_eq_true rfl, Nat.le_of_ble_eq_true rfl⟩) (x_preV _ hw hA hG (cM0 hE) rfl) rfl rfl hl.1 rfl (lv_room (Nat.le_of_ble_eq_true rfl)) dX12_throwAway_16 ⟨Nat.le_of_ble_eq_true rfl, Nat.le_of_ble_eq_true rfl⟩) hw hA (fun H locs hw => ?_)
    clear hcl
    refine lv_iconst (v := 2) hx hb dX12_throwAway_19 (by decide) ?_
    obtain ⟨r7, σ8, hcl, hf⟩ := xc2_f hf
    refine x_calli (va_runV (As := [.int r5, .int 2]) (rest := []) ⟨hx, hb, hml, hown, hts⟩ (mX12_can hE r5 2 σ6 r7 σ8 hcl H.size) (cwV 2 hts gX12_throwAway_X12_can rfl rfl rfl (by decide +kernel) ⟨Nat.le_of_ble_eq_true rfl, Nat.le_of_ble_eq_true rfl⟩) (x_preV _ hw hA hG (cM0 hE) rfl) rfl rfl hl.1 rfl (lv_room (Nat.le_of_ble_eq_true rfl)) dX12_throwAway_20 ⟨Nat.le_of_ble_eq_true rfl, Nat.le_of_ble_eq_true rfl⟩) hw hA (fun H locs hw => ?_)
    clear hcl
    refine lv_if_ne (tgt := 28) hx hb dX12_throwAway_23 (by decide) (fun c23 => ?_) (fun c23 => ?_)
    · replace hf := xif_neg c23 hf
      refine lv_aload_n hx hb dX12_throwAway_28 rfl (lv_at hl 0 rfl) ?_
      obtain ⟨σ10, hcl, hf⟩ := xc_e hf
      refine x_callv (va_runV (As := []) (rest := []) ⟨hx, hb, hml, hown, hts⟩ (mX12_keep hE σ8 σ10 hcl H.size) (cwV 0 hts gX12_throwAway_X12_keep rfl rfl rfl (by decide +kernel) ⟨Nat.le_of_ble_eq_true rfl, Nat.le_of_ble_eq_true rfl⟩) (x_preV _ hw hA hG (cM0 hE) rfl) rfl rfl hl.1 rfl (lv_room (Nat.le_of_ble_eq_true rfl)) dX12_throwAway_29 ⟨Nat.le_of_ble_eq_true rfl, Nat.le_of_ble_eq_true rfl⟩) hw hA (fun H locs hw => ?_)
      clear hcl
      refine lv_aload_n hx hb dX12_throwAway_32 rfl (lv_at hl 0 rfl) ?_
      refine x_getr hx hb hw (cM0 hE) (own := RX12) (ref := RX12) (C := RX12) (T := TX12) (N := 20) hts hiX12 hown rfl 1 (by decide) hk9 (fun _ h9 => h9) rfl dX12_throwAway_33 ?_
      refine lv_sipush (v := 163) hx hb dX12_throwAway_36 (by decide) ?_
      refine lv_iload_n hx hb dX12_throwAway_39 rfl (lv_at hl 1 rfl) ?_
      refine lv_iadd hx hb dX12_throwAway_40 ?_
      refine lv_iconst (v := 4) hx hb dX12_throwAway_41 (by decide) ?_
      obtain ⟨hin, hf⟩ := xs_f hf
      refine x_iast hx hb hw (cM1 hE) hin dX12_throwAway_42 (fun σ11 H locs ex hw => ?_)
      replace hf := hf σ11 ex
      clear ex hin
      refine lv_aload_n hx hb dX12_throwAway_43 rfl (lv_at hl 0 rfl) ?_
      refine x_getr hx hb hw (cM0 hE) (own := RX12) (ref := RX12) (C := RX12) (T := TX12) (N := 20) hts hiX12 hown rfl 1 (by decide) hk9 (fun _ h9 => h9) rfl dX12_throwAway_44 ?_
      refine lv_bipush (v := 10) hx hb dX12_throwAway_47 (by decide) ?_
      refine lv_dup2_11 hx hb dX12_throwAway_49 rfl rfl ?_
      obtain ⟨hin, hf⟩ := xr_f hf
      refine x_iald hx hb hw (cM1 hE) hin dX12_throwAway_50 ?_
      refine lv_topi (fun v12 ex => ?_)
      replace hf := hf v12 ex
      clear ex hin
      refine lv_aload_n hx hb dX12_throwAway_51 rfl (lv_at hl 0 rfl) ?_
      refine lv_iload_n hx hb dX12_throwAway_52 rfl (lv_at hl 1 rfl) ?_
      obtain ⟨r13, σ14, hcl, hf⟩ := xc2_f hf
      refine x_calli (va_runV (As := [.int p0]) (rest := [.int v12, .int 10, .ref (E.a 1)]) ⟨hx, hb, hml, hown, hts⟩ (mX12_gramsOf hE p0 σ11 r13 σ14 hcl H.size) (cwV 1 hts gX12_throwAway_X12_gramsOf rfl rfl rfl (by decide +kernel) ⟨Nat.le_of_ble_eq_true rfl, Nat.le_of_ble_eq_true rfl⟩) (x_preV _ hw hA hG (cM0 hE) rfl) rfl rfl hl.1 rfl (lv_room (Nat.le_of_ble_eq_true rfl)) dX12_throwAway_53 ⟨Nat.le_of_ble_eq_true rfl, Nat.le_of_ble_eq_true rfl⟩) hw hA (fun H locs hw => ?_)
      clear hcl
      refine lv_iadd hx hb dX12_throwAway_56 ?_
      obtain ⟨hin, hf⟩ := xs_f hf
      refine x_iast hx hb hw (cM1 hE) hin dX12_throwAway_57 (fun σ15 H locs ex hw => ?_)
      replace hf := hf σ15 ex
      clear ex hin
      refine lv_aload_n hx hb dX12_throwAway_58 rfl (lv_at hl 0 rfl) ?_
      refine lv_iload_n hx hb dX12_throwAway_59 rfl (lv_at hl 1 rfl) ?_
      obtain ⟨r16, σ17, hcl, hf⟩ := xc2_f hf
      refine x_calli (va_runV (As := [.int p0]) (rest := []) ⟨hx, hb, hml, hown, hts⟩ (mX12_gramsOf hE p0 σ15 r16 σ17 hcl H.size) (cwV 1 hts gX12_throwAway_X12_gramsOf rfl rfl rfl (by decide +kernel) ⟨Nat.le_of_ble_eq_true rfl, Nat.le_of_ble_eq_true rfl⟩) (x_preV _ hw hA hG (cM0 hE) rfl) rfl rfl hl.1 rfl (lv_room (Nat.le_of_ble_eq_true rfl)) dX12_throwAway_60 ⟨Nat.le_of_ble_eq_true rfl, Nat.le_of_ble_eq_true rfl⟩) hw hA (fun H locs hw => ?_)
      clear hcl
      exact x_iret hx hb hr hlk hw hf dX12_throwAway_63
    · replace hf := xif_pos c23 hf
      refine lv_iconst (v := 0) hx hb dX12_throwAway_26 (by decide) ?_
      exact x_iret hx hb hr hlk hw hf dX12_throwAway_27

def fX12_doughCount (σ : xSt) : Option (Int32 × xSt) := (xp σ 0 0 0 fun σ1 => (xr σ1 1 680 6 fun v2 => some (v2, σ1)))
abbrev rmX12_doughCount : Room := { frames := 0, cells := 0, slots := 0, locals := 0 }
set_option maxRecDepth 100000 in
set_option maxHeartbeats 4000000 in
theorem mX12_doughCount {l : Launch} {E : xE} (hE : E.sh = shM) (σ : xSt) (o1 : Int32) (o2 : xSt) (hf : fX12_doughCount σ = some (o1, o2)) : xMi l yX12_doughCount wsX12_doughCount rmX12_doughCount E [.ref (E.a 0)] σ o1 o2 := by
  unfold fX12_doughCount at hf
  refine xMi_of (cc := cX12_doughCount) (maxL := 1) (ret := (some .int)) (by decide) rfl (Nat.le_of_ble_eq_true rfl) ?_
  intro p e s m args below meth c A ls ⟨hx, hb, hr, hml, hown, hts, hlk⟩ hA hG hw hl
  have hown : s.vm.findClass RX12 = some m.cls := hown
  have hl : lv_has ls 1 [(0, .ref (E.a 0))] := hl
  have hk46 := hts (.fieldLink RX12 46 "OvenRoundModel" "raised" "I") (by decide +kernel)
  have hiX12 : ∀ w ∈ wsX120, w ∈ wsX12_doughCount := by decide +kernel
  have hk9 := hts (.fieldLink RX12 9 "OvenRoundModel" "w" "[I") (by decide +kernel)
  refine lv_aload_n hx hb dX12_doughCount_0 rfl (lv_at hl 0 rfl) ?_
  refine lv_iconst (v := 0) hx hb dX12_doughCount_1 (by decide) ?_
  refine x_puti hx hb hw (cM0 hE) (own := RX12) (ref := RX12) (C := RX12) (T := TX12) (N := 20) hts hiX12 tyX12 tyX12_ok nmX12 hown rfl 0 (by decide) hk46 (fun _ h9 => h9) rfl (by decide +kernel) rfl dX12_doughCount_2 (fun σ1 H locs ex hw => ?_)
  replace hf := xp_f hf σ1 ex
  clear ex
  refine lv_aload_n hx hb dX12_doughCount_5 rfl (lv_at hl 0 rfl) ?_
  refine x_getr hx hb hw (cM0 hE) (own := RX12) (ref := RX12) (C := RX12) (T := TX12) (N := 20) hts hiX12 hown rfl 1 (by decide) hk9 (fun _ h9 => h9) rfl dX12_doughCount_6 ?_
  refine lv_bipush (v := 6) hx hb dX12_doughCount_9 (by decide) ?_
  obtain ⟨hin, hf⟩ := xr_f hf
  refine x_iald hx hb hw (cM1 hE) hin dX12_doughCount_11 ?_
  refine lv_topi (fun v2 ex => ?_)
  replace hf := hf v2 ex
  clear ex hin
  exact x_iret hx hb hr hlk hw hf dX12_doughCount_12

def fX12_setHeat (p0 : Int32) (σ : xSt) : Option (Int32 × xSt) := (xc2 (fX12_in p0 20 320 σ) fun r1 σ2 => (xc2 (fX12_can r1 1 σ2) fun r3 σ4 => (if r3 = 0 then some (0, σ4) else (xc (fX12_keep σ4) fun σ6 => (xs σ6 1 680 3 p0 fun σ7 => (xr σ7 1 680 2 fun v8 => some (v8, σ7)))))))
abbrev rmX12_setHeat : Room := { frames := 2, cells := 0, slots := 0, locals := 42 }
set_option maxRecDepth 100000 in
set_option maxHeartbeats 4000000 in
theorem mX12_setHeat {l : Launch} {E : xE} (hE : E.sh = shM) (p0 : Int32) (σ : xSt) (o1 : Int32) (o2 : xSt) (hf : fX12_setHeat p0 σ = some (o1, o2)) : xMi l yX12_setHeat wsX12_setHeat rmX12_setHeat E [.ref (E.a 0), .int p0] σ o1 o2 := by
  unfold fX12_setHeat at hf
  refine xMi_of (cc := cX12_setHeat) (maxL := 2) (ret := (some .int)) (by decide) rfl (Nat.le_of_ble_eq_true rfl) ?_
  intro p e s m args below meth c A ls ⟨hx, hb, hr, hml, hown, hts, hlk⟩ hA hG hw hl
  have hown : s.vm.findClass RX12 = some m.cls := hown
  have hl : lv_has ls 2 [(0, .ref (E.a 0)), (1, .int p0)] := hl
  have hk9 := hts (.fieldLink RX12 9 "OvenRoundModel" "w" "[I") (by decide +kernel)
  have hiX12 : ∀ w ∈ wsX120, w ∈ wsX12_setHeat := by decide +kernel
  refine lv_aload_n hx hb dX12_setHeat_0 rfl (lv_at hl 0 rfl) ?_
  refine lv_iload_n hx hb dX12_setHeat_1 rfl (lv_at hl 1 rfl) ?_
  refine lv_bipush (v := 20) hx hb dX12_setHeat_2 (by decide) ?_
  refine lv_sipush (v := 320) hx hb dX12_setHeat_4 (by decide) ?_
  obtain ⟨r1, σ2, hcl, hf⟩ := xc2_f hf
  refine x_calli (va_runS (As := [.int p0, .int 20, .int 320]) (rest := [.ref (E.a 0)]) ⟨hx, hb, hml, hown, hts⟩ (mX12_in hE p0 20 320 σ r1 σ2 hcl s.heap.size) (va_cwS 3 hts gX12_setHeat_X12_in rfl rfl rfl (by decide +kernel) ⟨Nat.le_of_ble_eq_true rfl, Nat.le_of_ble_eq_true rfl⟩) (x_preS _ hw hA hG) rfl rfl hl.1 rfl (lv_room (Nat.le_of_ble_eq_true rfl)) dX12_setHeat_7 ⟨Nat.le_of_ble_eq_true rfl, Nat.le_of_ble_eq_true rfl⟩) hw hA (fun H locs hw => ?_)
  clear hcl
  refine lv_iconst (v := 1) hx hb dX12_setHeat_10 (by decide) ?_
  obtain ⟨r3, σ4, hcl, hf⟩ := xc2_f hf
  refine x_calli (va_runV (As := [.int r1, .int 1]) (rest := []) ⟨hx, hb, hml, hown, hts⟩ (mX12_can hE r1 1 σ2 r3 σ4 hcl H.size) (cwV 2 hts gX12_setHeat_X12_can rfl rfl rfl (by decide +kernel) ⟨Nat.le_of_ble_eq_true rfl, Nat.le_of_ble_eq_true rfl⟩) (x_preV _ hw hA hG (cM0 hE) rfl) rfl rfl hl.1 rfl (lv_room (Nat.le_of_ble_eq_true rfl)) dX12_setHeat_11 ⟨Nat.le_of_ble_eq_true rfl, Nat.le_of_ble_eq_true rfl⟩) hw hA (fun H locs hw => ?_)
  clear hcl
  refine lv_if_ne (tgt := 19) hx hb dX12_setHeat_14 (by decide) (fun c14 => ?_) (fun c14 => ?_)
  · replace hf := xif_neg c14 hf
    refine lv_aload_n hx hb dX12_setHeat_19 rfl (lv_at hl 0 rfl) ?_
    obtain ⟨σ6, hcl, hf⟩ := xc_e hf
    refine x_callv (va_runV (As := []) (rest := []) ⟨hx, hb, hml, hown, hts⟩ (mX12_keep hE σ4 σ6 hcl H.size) (cwV 0 hts gX12_setHeat_X12_keep rfl rfl rfl (by decide +kernel) ⟨Nat.le_of_ble_eq_true rfl, Nat.le_of_ble_eq_true rfl⟩) (x_preV _ hw hA hG (cM0 hE) rfl) rfl rfl hl.1 rfl (lv_room (Nat.le_of_ble_eq_true rfl)) dX12_setHeat_20 ⟨Nat.le_of_ble_eq_true rfl, Nat.le_of_ble_eq_true rfl⟩) hw hA (fun H locs hw => ?_)
    clear hcl
    refine lv_aload_n hx hb dX12_setHeat_23 rfl (lv_at hl 0 rfl) ?_
    refine x_getr hx hb hw (cM0 hE) (own := RX12) (ref := RX12) (C := RX12) (T := TX12) (N := 20) hts hiX12 hown rfl 1 (by decide) hk9 (fun _ h9 => h9) rfl dX12_setHeat_24 ?_
    refine lv_iconst (v := 3) hx hb dX12_setHeat_27 (by decide) ?_
    refine lv_iload_n hx hb dX12_setHeat_28 rfl (lv_at hl 1 rfl) ?_
    obtain ⟨hin, hf⟩ := xs_f hf
    refine x_iast hx hb hw (cM1 hE) hin dX12_setHeat_29 (fun σ7 H locs ex hw => ?_)
    replace hf := hf σ7 ex
    clear ex hin
    refine lv_aload_n hx hb dX12_setHeat_30 rfl (lv_at hl 0 rfl) ?_
    refine x_getr hx hb hw (cM0 hE) (own := RX12) (ref := RX12) (C := RX12) (T := TX12) (N := 20) hts hiX12 hown rfl 1 (by decide) hk9 (fun _ h9 => h9) rfl dX12_setHeat_31 ?_
    refine lv_iconst (v := 2) hx hb dX12_setHeat_34 (by decide) ?_
    obtain ⟨hin, hf⟩ := xr_f hf
    refine x_iald hx hb hw (cM1 hE) hin dX12_setHeat_35 ?_
    refine lv_topi (fun v8 ex => ?_)
    replace hf := hf v8 ex
    clear ex hin
    exact x_iret hx hb hr hlk hw hf dX12_setHeat_36
  · replace hf := xif_pos c14 hf
    refine lv_iconst (v := 0) hx hb dX12_setHeat_17 (by decide) ?_
    exact x_iret hx hb hr hlk hw hf dX12_setHeat_18

def fX12_heat (σ : xSt) : Option (Int32 × xSt) := (xp σ 0 0 0 fun σ1 => (xr σ1 1 680 2 fun v2 => some (v2, σ1)))
abbrev rmX12_heat : Room := { frames := 0, cells := 0, slots := 0, locals := 0 }
set_option maxRecDepth 100000 in
set_option maxHeartbeats 4000000 in
theorem mX12_heat {l : Launch} {E : xE} (hE : E.sh = shM) (σ : xSt) (o1 : Int32) (o2 : xSt) (hf : fX12_heat σ = some (o1, o2)) : xMi l yX12_heat wsX12_heat rmX12_heat E [.ref (E.a 0)] σ o1 o2 := by
  unfold fX12_heat at hf
  refine xMi_of (cc := cX12_heat) (maxL := 1) (ret := (some .int)) (by decide) rfl (Nat.le_of_ble_eq_true rfl) ?_
  intro p e s m args below meth c A ls ⟨hx, hb, hr, hml, hown, hts, hlk⟩ hA hG hw hl
  have hown : s.vm.findClass RX12 = some m.cls := hown
  have hl : lv_has ls 1 [(0, .ref (E.a 0))] := hl
  have hk46 := hts (.fieldLink RX12 46 "OvenRoundModel" "raised" "I") (by decide +kernel)
  have hiX12 : ∀ w ∈ wsX120, w ∈ wsX12_heat := by decide +kernel
  have hk9 := hts (.fieldLink RX12 9 "OvenRoundModel" "w" "[I") (by decide +kernel)
  refine lv_aload_n hx hb dX12_heat_0 rfl (lv_at hl 0 rfl) ?_
  refine lv_iconst (v := 0) hx hb dX12_heat_1 (by decide) ?_
  refine x_puti hx hb hw (cM0 hE) (own := RX12) (ref := RX12) (C := RX12) (T := TX12) (N := 20) hts hiX12 tyX12 tyX12_ok nmX12 hown rfl 0 (by decide) hk46 (fun _ h9 => h9) rfl (by decide +kernel) rfl dX12_heat_2 (fun σ1 H locs ex hw => ?_)
  replace hf := xp_f hf σ1 ex
  clear ex
  refine lv_aload_n hx hb dX12_heat_5 rfl (lv_at hl 0 rfl) ?_
  refine x_getr hx hb hw (cM0 hE) (own := RX12) (ref := RX12) (C := RX12) (T := TX12) (N := 20) hts hiX12 hown rfl 1 (by decide) hk9 (fun _ h9 => h9) rfl dX12_heat_6 ?_
  refine lv_iconst (v := 2) hx hb dX12_heat_9 (by decide) ?_
  obtain ⟨hin, hf⟩ := xr_f hf
  refine x_iald hx hb hw (cM1 hE) hin dX12_heat_10 ?_
  refine lv_topi (fun v2 ex => ?_)
  replace hf := hf v2 ex
  clear ex hin
  exact x_iret hx hb hr hlk hw hf dX12_heat_11

def fX12_setDecks (p0 : Int32) (σ : xSt) : Option (Int32 × xSt) := (xc2 (fX12_in p0 1 4 σ) fun r1 σ2 => (xc2 (fX12_can r1 1 σ2) fun r3 σ4 => (if r3 = 0 then some (0, σ4) else (xc (fX12_keep σ4) fun σ6 => (xr σ6 1 680 4 fun v7 => (xs σ6 1 680 4 p0 fun σ8 => some (v7, σ8)))))))
abbrev rmX12_setDecks : Room := { frames := 2, cells := 0, slots := 0, locals := 42 }
set_option maxRecDepth 100000 in
set_option maxHeartbeats 4000000 in
theorem mX12_setDecks {l : Launch} {E : xE} (hE : E.sh = shM) (p0 : Int32) (σ : xSt) (o1 : Int32) (o2 : xSt) (hf : fX12_setDecks p0 σ = some (o1, o2)) : xMi l yX12_setDecks wsX12_setDecks rmX12_setDecks E [.ref (E.a 0), .int p0] σ o1 o2 := by
  unfold fX12_setDecks at hf
  refine xMi_of (cc := cX12_setDecks) (maxL := 3) (ret := (some .int)) (by decide) rfl (Nat.le_of_ble_eq_true rfl) ?_
  intro p e s m args below meth c A ls ⟨hx, hb, hr, hml, hown, hts, hlk⟩ hA hG hw hl
  have hown : s.vm.findClass RX12 = some m.cls := hown
  have hl : lv_has ls 3 [(0, .ref (E.a 0)), (1, .int p0)] := hl
  have hk9 := hts (.fieldLink RX12 9 "OvenRoundModel" "w" "[I") (by decide +kernel)
  have hiX12 : ∀ w ∈ wsX120, w ∈ wsX12_setDecks := by decide +kernel
  refine lv_aload_n hx hb dX12_setDecks_0 rfl (lv_at hl 0 rfl) ?_
  refine lv_iload_n hx hb dX12_setDecks_1 rfl (lv_at hl 1 rfl) ?_
  refine lv_iconst (v := 1) hx hb dX12_setDecks_2 (by decide) ?_
  refine lv_iconst (v := 4) hx hb dX12_setDecks_3 (by decide) ?_
  obtain ⟨r1, σ2, hcl, hf⟩ := xc2_f hf
  refine x_calli (va_runS (As := [.int p0, .int 1, .int 4]) (rest := [.ref (E.a 0)]) ⟨hx, hb, hml, hown, hts⟩ (mX12_in hE p0 1 4 σ r1 σ2 hcl s.heap.size) (va_cwS 3 hts gX12_setDecks_X12_in rfl rfl rfl (by decide +kernel) ⟨Nat.le_of_ble_eq_true rfl, Nat.le_of_ble_eq_true rfl⟩) (x_preS _ hw hA hG) rfl rfl hl.1 rfl (lv_room (Nat.le_of_ble_eq_true rfl)) dX12_setDecks_4 ⟨Nat.le_of_ble_eq_true rfl, Nat.le_of_ble_eq_true rfl⟩) hw hA (fun H locs hw => ?_)
  clear hcl
  refine lv_iconst (v := 1) hx hb dX12_setDecks_7 (by decide) ?_
  obtain ⟨r3, σ4, hcl, hf⟩ := xc2_f hf
  refine x_calli (va_runV (As := [.int r1, .int 1]) (rest := []) ⟨hx, hb, hml, hown, hts⟩ (mX12_can hE r1 1 σ2 r3 σ4 hcl H.size) (cwV 2 hts gX12_setDecks_X12_can rfl rfl rfl (by decide +kernel) ⟨Nat.le_of_ble_eq_true rfl, Nat.le_of_ble_eq_true rfl⟩) (x_preV _ hw hA hG (cM0 hE) rfl) rfl rfl hl.1 rfl (lv_room (Nat.le_of_ble_eq_true rfl)) dX12_setDecks_8 ⟨Nat.le_of_ble_eq_true rfl, Nat.le_of_ble_eq_true rfl⟩) hw hA (fun H locs hw => ?_)
  clear hcl
  refine lv_if_ne (tgt := 16) hx hb dX12_setDecks_11 (by decide) (fun c11 => ?_) (fun c11 => ?_)
  · replace hf := xif_neg c11 hf
    refine lv_aload_n hx hb dX12_setDecks_16 rfl (lv_at hl 0 rfl) ?_
    obtain ⟨σ6, hcl, hf⟩ := xc_e hf
    refine x_callv (va_runV (As := []) (rest := []) ⟨hx, hb, hml, hown, hts⟩ (mX12_keep hE σ4 σ6 hcl H.size) (cwV 0 hts gX12_setDecks_X12_keep rfl rfl rfl (by decide +kernel) ⟨Nat.le_of_ble_eq_true rfl, Nat.le_of_ble_eq_true rfl⟩) (x_preV _ hw hA hG (cM0 hE) rfl) rfl rfl hl.1 rfl (lv_room (Nat.le_of_ble_eq_true rfl)) dX12_setDecks_17 ⟨Nat.le_of_ble_eq_true rfl, Nat.le_of_ble_eq_true rfl⟩) hw hA (fun H locs hw => ?_)
    clear hcl
    refine lv_aload_n hx hb dX12_setDecks_20 rfl (lv_at hl 0 rfl) ?_
    refine x_getr hx hb hw (cM0 hE) (own := RX12) (ref := RX12) (C := RX12) (T := TX12) (N := 20) hts hiX12 hown rfl 1 (by decide) hk9 (fun _ h9 => h9) rfl dX12_setDecks_21 ?_
    refine lv_iconst (v := 4) hx hb dX12_setDecks_24 (by decide) ?_
    obtain ⟨hin, hf⟩ := xr_f hf
    refine x_iald hx hb hw (cM1 hE) hin dX12_setDecks_25 ?_
    refine lv_topi (fun v7 ex => ?_)
    replace hf := hf v7 ex
    clear ex hin
    refine lv_istore_n (lv' := [(2, .int v7), (0, .ref (E.a 0)), (1, .int p0)]) hx hb dX12_setDecks_26 rfl hl (by decide) rfl (fun ls hl => ?_)
    refine lv_aload_n hx hb dX12_setDecks_27 rfl (lv_at hl 1 rfl) ?_
    refine x_getr hx hb hw (cM0 hE) (own := RX12) (ref := RX12) (C := RX12) (T := TX12) (N := 20) hts hiX12 hown rfl 1 (by decide) hk9 (fun _ h9 => h9) rfl dX12_setDecks_28 ?_
    refine lv_iconst (v := 4) hx hb dX12_setDecks_31 (by decide) ?_
    refine lv_iload_n hx hb dX12_setDecks_32 rfl (lv_at hl 2 rfl) ?_
    obtain ⟨hin, hf⟩ := xs_f hf
    refine x_iast hx hb hw (cM1 hE) hin dX12_setDecks_33 (fun σ8 H locs ex hw => ?_)
    replace hf := hf σ8 ex
    clear ex hin
    refine lv_iload_n hx hb dX12_setDecks_34 rfl (lv_at hl 0 rfl) ?_
    exact x_iret hx hb hr hlk hw hf dX12_setDecks_35
  · replace hf := xif_pos c11 hf
    refine lv_iconst (v := 0) hx hb dX12_setDecks_14 (by decide) ?_
    exact x_iret hx hb hr hlk hw hf dX12_setDecks_15

def fX12_wentInNow_c4 : Nat → Int32 → Int32 → xSt → Option (Int32 × xSt)
  | 0 => fun _ _ _ => none
  | n + 1 => fun a1 a2 σ => (xr σ 1 680 6 fun v1 => (if v1 ≤ a2 then some (a1, σ) else (xr σ 1 680 (203 + a2) fun v2 => (xr σ 1 680 0 fun v3 => (if v2 = v3 then (xl (a1 + 1) fun v6 => (xl (a2 + 1) fun v7 => fX12_wentInNow_c4 n v6 v7 σ)) else (xl (a1 + 0) fun v4 => (xl (a2 + 1) fun v5 => fX12_wentInNow_c4 n v4 v5 σ)))))))
theorem fX12_wentInNow_c4_s (n : Nat) (a1 : Int32) (a2 : Int32) (σ : xSt) : fX12_wentInNow_c4 (n + 1) a1 a2 σ = ((xr σ 1 680 6 fun v1 => (if v1 ≤ a2 then some (a1, σ) else (xr σ 1 680 (203 + a2) fun v2 => (xr σ 1 680 0 fun v3 => (if v2 = v3 then (xl (a1 + 1) fun v6 => (xl (a2 + 1) fun v7 => fX12_wentInNow_c4 n v6 v7 σ)) else (xl (a1 + 0) fun v4 => (xl (a2 + 1) fun v5 => fX12_wentInNow_c4 n v4 v5 σ))))))) : Option (Int32 × xSt)) := rfl
def fX12_wentInNow (σ : xSt) : Option (Int32 × xSt) := fX12_wentInNow_c4 xFU 0 0 σ
abbrev rmX12_wentInNow : Room := { frames := 0, cells := 0, slots := 0, locals := 0 }
set_option maxRecDepth 100000 in
set_option maxHeartbeats 4000000 in
theorem mX12_wentInNow {l : Launch} {E : xE} (hE : E.sh = shM) (σ : xSt) (o1 : Int32) (o2 : xSt) (hf : fX12_wentInNow σ = some (o1, o2)) : xMi l yX12_wentInNow wsX12_wentInNow rmX12_wentInNow E [.ref (E.a 0)] σ o1 o2 := by
  unfold fX12_wentInNow at hf
  refine xMi_of (cc := cX12_wentInNow) (maxL := 3) (ret := (some .int)) (by decide) rfl (Nat.le_of_ble_eq_true rfl) ?_
  intro p e s m args below meth c A ls ⟨hx, hb, hr, hml, hown, hts, hlk⟩ hA hG hw hl
  have hown : s.vm.findClass RX12 = some m.cls := hown
  have hl : lv_has ls 3 [(0, .ref (E.a 0))] := hl
  have hk9 := hts (.fieldLink RX12 9 "OvenRoundModel" "w" "[I") (by decide +kernel)
  have hiX12 : ∀ w ∈ wsX120, w ∈ wsX12_wentInNow := by decide +kernel
  have h4 : ∀ (n : Nat) (a1 : Int32) (a2 : Int32) (σ : xSt) (H : Heap) (locs : List Loc) (ls : Array Slot), xw E A s.heap s σ H locs → lv_has ls 3 [(0, .ref (E.a 0)), (1, .int a1), (2, .int a2)] → fX12_wentInNow_c4 n a1 a2 σ = some (o1, o2) → W p l e rmX12_wentInNow s m args below meth c H locs 0 0 (MQ below (xQi E A o1 o2) args s 0 0 A) (F0 m 4 ls []) := by
    intro n4
    induction n4 with
    | zero => intro a1 a2 σ H locs ls hw hl hf; exact nomatch hf
    | succ n4 ih4 =>
      intro a1 a2 σ H locs ls hw hl hf
      rw [fX12_wentInNow_c4_s] at hf
      refine lv_iload_n hx hb dX12_wentInNow_4 rfl (lv_at hl 2 rfl) ?_
      refine lv_aload_n hx hb dX12_wentInNow_5 rfl (lv_at hl 0 rfl) ?_
      refine x_getr hx hb hw (cM0 hE) (own := RX12) (ref := RX12) (C := RX12) (T := TX12) (N := 20) hts hiX12 hown rfl 1 (by decide) hk9 (fun _ h9 => h9) rfl dX12_wentInNow_6 ?_
      refine lv_bipush (v := 6) hx hb dX12_wentInNow_9 (by decide) ?_
      obtain ⟨hin, hf⟩ := xr_f hf
      refine x_iald hx hb hw (cM1 hE) hin dX12_wentInNow_11 ?_
      refine lv_topi (fun v1 ex => ?_)
      replace hf := hf v1 ex
      clear ex hin
      refine lv_icmp_ge (tgt := 48) hx hb dX12_wentInNow_12 (by decide) (fun c12 => ?_) (fun c12 => ?_)
      · replace hf := xif_pos c12 hf
        refine lv_iload_n hx hb dX12_wentInNow_48 rfl (lv_at hl 1 rfl) ?_
        exact x_iret hx hb hr hlk hw hf dX12_wentInNow_49
      · replace hf := xif_neg c12 hf
        refine lv_iload_n hx hb dX12_wentInNow_15 rfl (lv_at hl 1 rfl) ?_
        refine lv_aload_n hx hb dX12_wentInNow_16 rfl (lv_at hl 0 rfl) ?_
        refine x_getr hx hb hw (cM0 hE) (own := RX12) (ref := RX12) (C := RX12) (T := TX12) (N := 20) hts hiX12 hown rfl 1 (by decide) hk9 (fun _ h9 => h9) rfl dX12_wentInNow_17 ?_
        refine lv_sipush (v := 203) hx hb dX12_wentInNow_20 (by decide) ?_
        refine lv_iload_n hx hb dX12_wentInNow_23 rfl (lv_at hl 2 rfl) ?_
        refine lv_iadd hx hb dX12_wentInNow_24 ?_
        obtain ⟨hin, hf⟩ := xr_f hf
        refine x_iald hx hb hw (cM1 hE) hin dX12_wentInNow_25 ?_
        refine lv_topi (fun v2 ex => ?_)
        replace hf := hf v2 ex
        clear ex hin
        refine lv_aload_n hx hb dX12_wentInNow_26 rfl (lv_at hl 0 rfl) ?_
        refine x_getr hx hb hw (cM0 hE) (own := RX12) (ref := RX12) (C := RX12) (T := TX12) (N := 20) hts hiX12 hown rfl 1 (by decide) hk9 (fun _ h9 => h9) rfl dX12_wentInNow_27 ?_
        refine lv_iconst (v := 0) hx hb dX12_wentInNow_30 (by decide) ?_
        obtain ⟨hin, hf⟩ := xr_f hf
        refine x_iald hx hb hw (cM1 hE) hin dX12_wentInNow_31 ?_
        refine lv_topi (fun v3 ex => ?_)
        replace hf := hf v3 ex
        clear ex hin
        refine lv_icmp_ne (tgt := 39) hx hb dX12_wentInNow_32 (by decide) (fun c32 => ?_) (fun c32 => ?_)
        · replace hf := xif_neg c32 hf
          refine lv_iconst (v := 0) hx hb dX12_wentInNow_39 (by decide) ?_
          refine lv_iadd hx hb dX12_wentInNow_40 ?_
          refine lv_topi (fun v4 ex => ?_)
          replace hf := xl_f hf v4 ex
          clear ex
          refine lv_istore_n (lv' := [(1, .int v4), (0, .ref (E.a 0)), (2, .int a2)]) hx hb dX12_wentInNow_41 rfl hl (by decide) rfl (fun ls hl => ?_)
          obtain ⟨v5, ex⟩ : ∃ y : Int32, y = (a2 + 1) := ⟨_, rfl⟩
          replace hf := xl_f hf v5 ex
          refine lv_iinc (v := v5) (lv' := [(2, .int v5), (1, .int v4), (0, .ref (E.a 0))]) hx hb dX12_wentInNow_42 hl (k := 2) rfl (by rw [ex]; rfl) (by decide) rfl (fun ls hl => ?_)
          clear ex
          refine lv_goto (tgt := 4) hx hb dX12_wentInNow_45 (by decide) ?_
          exact ih4 v4 v5 σ _ _ _ hw (lv_sub hl [2, 1, 0] rfl) hf
        · replace hf := xif_pos c32 hf
          refine lv_iconst (v := 1) hx hb dX12_wentInNow_35 (by decide) ?_
          refine lv_goto (tgt := 40) hx hb dX12_wentInNow_36 (by decide) ?_
          refine lv_iadd hx hb dX12_wentInNow_40 ?_
          refine lv_topi (fun v6 ex => ?_)
          replace hf := xl_f hf v6 ex
          clear ex
          refine lv_istore_n (lv' := [(1, .int v6), (0, .ref (E.a 0)), (2, .int a2)]) hx hb dX12_wentInNow_41 rfl hl (by decide) rfl (fun ls hl => ?_)
          obtain ⟨v7, ex⟩ : ∃ y : Int32, y = (a2 + 1) := ⟨_, rfl⟩
          replace hf := xl_f hf v7 ex
          refine lv_iinc (v := v7) (lv' := [(2, .int v7), (1, .int v6), (0, .ref (E.a 0))]) hx hb dX12_wentInNow_42 hl (k := 2) rfl (by rw [ex]; rfl) (by decide) rfl (fun ls hl => ?_)
          clear ex
          refine lv_goto (tgt := 4) hx hb dX12_wentInNow_45 (by decide) ?_
          exact ih4 v6 v7 σ _ _ _ hw (lv_sub hl [2, 1, 0] rfl) hf
  refine lv_iconst (v := 0) hx hb dX12_wentInNow_0 (by decide) ?_
  refine lv_istore_n (lv' := [(1, .int 0), (0, .ref (E.a 0))]) hx hb dX12_wentInNow_1 rfl hl (by decide) rfl (fun ls hl => ?_)
  refine lv_iconst (v := 0) hx hb dX12_wentInNow_2 (by decide) ?_
  refine lv_istore_n (lv' := [(2, .int 0), (1, .int 0), (0, .ref (E.a 0))]) hx hb dX12_wentInNow_3 rfl hl (by decide) rfl (fun ls hl => ?_)
  exact h4 xFU 0 0 σ _ _ _ hw (lv_sub hl [2, 1, 0] rfl) hf

def fX12_canBake_c87 (a2 : Int32) (t0 : Int32) (σ : xSt) : Option (Int32 × xSt) := (if t0 = 0 then some (0, σ) else (xr σ 1 680 0 fun v9 => (if (v9 - v9 / 10 * 10) = 0 then (xc2 (fX12_wentInNow σ) fun r10 σ11 => (xr σ11 1 680 4 fun v12 => (if v12 ≤ r10 then some (0, σ11) else (xr σ11 1 680 2 fun v13 => (xr σ11 1 680 (37 + a2) fun v14 => (xr σ11 1 680 (37 + a2) fun v15 => (xc2 (fX12_in v13 v14 (v15 + 40) σ11) fun r16 σ17 => (if r16 = 0 then some (0, σ17) else some (1, σ17))))))))) else some (0, σ))))
def fX12_canBake_c86 (a2 : Int32) (σ : xSt) : Option (Int32 × xSt) := fX12_canBake_c87 a2 0 σ
def fX12_canBake (p0 : Int32) (σ : xSt) : Option (Int32 × xSt) := (xr σ 1 680 (103 + p0) fun v1 => (xr σ 1 680 (163 + p0) fun v2 => (if v2 = 1 then (xr σ 1 680 0 fun v6 => (xr σ 1 680 (183 + p0) fun v7 => (xr σ 1 680 (49 + v1) fun v8 => (if v8 < (v6 - v7) then fX12_canBake_c87 v1 0 σ else fX12_canBake_c87 v1 1 σ)))) else (xr σ 1 680 (163 + p0) fun v3 => (if v3 = 0 then (xc2 (fX12_isRipe p0 σ) fun r4 σ5 => (if r4 = 0 then fX12_canBake_c86 v1 σ5 else fX12_canBake_c87 v1 1 σ5)) else fX12_canBake_c86 v1 σ)))))
abbrev rmX12_canBake : Room := { frames := 2, cells := 0, slots := 0, locals := 44 }
set_option maxRecDepth 100000 in
set_option maxHeartbeats 4000000 in
theorem mX12_canBake {l : Launch} {E : xE} (hE : E.sh = shM) (p0 : Int32) (σ : xSt) (o1 : Int32) (o2 : xSt) (hf : fX12_canBake p0 σ = some (o1, o2)) : xMi l yX12_canBake wsX12_canBake rmX12_canBake E [.ref (E.a 0), .int p0] σ o1 o2 := by
  unfold fX12_canBake at hf
  refine xMi_of (cc := cX12_canBake) (maxL := 4) (ret := (some .boolean)) (by decide) rfl (Nat.le_of_ble_eq_true rfl) ?_
  intro p e s m args below meth c A ls ⟨hx, hb, hr, hml, hown, hts, hlk⟩ hA hG hw hl
  have hown : s.vm.findClass RX12 = some m.cls := hown
  have hl : lv_has ls 4 [(0, .ref (E.a 0)), (1, .int p0)] := hl
  have hk9 := hts (.fieldLink RX12 9 "OvenRoundModel" "w" "[I") (by decide +kernel)
  have hiX12 : ∀ w ∈ wsX120, w ∈ wsX12_canBake := by decide +kernel
  have h87 : ∀ (a2 : Int32) (t0 : Int32) (σ : xSt) (H : Heap) (locs : List Loc) (ls : Array Slot), xw E A s.heap s σ H locs → lv_has ls 4 [(0, .ref (E.a 0)), (2, .int a2)] → fX12_canBake_c87 a2 t0 σ = some (o1, o2) → W p l e rmX12_canBake s m args below meth c H locs 0 0 (MQ below (xQi E A o1 o2) args s 0 0 A) (F0 m 87 ls [.int t0]) := by
    intro a2 t0 σ H locs ls hw hl hf
    unfold fX12_canBake_c87 at hf
    refine lv_istore_n (lv' := [(3, .int t0), (0, .ref (E.a 0)), (2, .int a2)]) hx hb dX12_canBake_87 rfl hl (by decide) rfl (fun ls hl => ?_)
    refine lv_iload_n hx hb dX12_canBake_88 rfl (lv_at hl 0 rfl) ?_
    refine lv_if_eq (tgt := 154) hx hb dX12_canBake_89 (by decide) (fun c89 => ?_) (fun c89 => ?_)
    · replace hf := xif_pos c89 hf
      refine lv_iconst (v := 0) hx hb dX12_canBake_154 (by decide) ?_
      exact x_zretc hx hb hr hlk hw (by decide) hf dX12_canBake_155
    · replace hf := xif_neg c89 hf
      refine lv_aload_n hx hb dX12_canBake_92 rfl (lv_at hl 1 rfl) ?_
      refine x_getr hx hb hw (cM0 hE) (own := RX12) (ref := RX12) (C := RX12) (T := TX12) (N := 20) hts hiX12 hown rfl 1 (by decide) hk9 (fun _ h9 => h9) rfl dX12_canBake_93 ?_
      refine lv_iconst (v := 0) hx hb dX12_canBake_96 (by decide) ?_
      obtain ⟨hin, hf⟩ := xr_f hf
      refine x_iald hx hb hw (cM1 hE) hin dX12_canBake_97 ?_
      refine lv_topi (fun v9 ex => ?_)
      replace hf := hf v9 ex
      clear ex hin
      refine lv_bipush (v := 10) hx hb dX12_canBake_98 (by decide) ?_
      refine lv_irem hx hb dX12_canBake_100 (by decide) ?_
      refine lv_if_ne (tgt := 154) hx hb dX12_canBake_101 (by decide) (fun c101 => ?_) (fun c101 => ?_)
      · replace hf := xif_neg c101 hf
        refine lv_iconst (v := 0) hx hb dX12_canBake_154 (by decide) ?_
        exact x_zretc hx hb hr hlk hw (by decide) hf dX12_canBake_155
      · replace hf := xif_pos c101 hf
        refine lv_aload_n hx hb dX12_canBake_104 rfl (lv_at hl 1 rfl) ?_
        obtain ⟨r10, σ11, hcl, hf⟩ := xc2_f hf
        refine x_calli (va_runV (As := []) (rest := []) ⟨hx, hb, hml, hown, hts⟩ (mX12_wentInNow hE σ r10 σ11 hcl H.size) (cwV 0 hts gX12_canBake_X12_wentInNow rfl rfl rfl (by decide +kernel) ⟨Nat.le_of_ble_eq_true rfl, Nat.le_of_ble_eq_true rfl⟩) (x_preV _ hw hA hG (cM0 hE) rfl) rfl rfl hl.1 rfl (lv_room (Nat.le_of_ble_eq_true rfl)) dX12_canBake_105 ⟨Nat.le_of_ble_eq_true rfl, Nat.le_of_ble_eq_true rfl⟩) hw hA (fun H locs hw => ?_)
        clear hcl
        refine lv_aload_n hx hb dX12_canBake_108 rfl (lv_at hl 1 rfl) ?_
        refine x_getr hx hb hw (cM0 hE) (own := RX12) (ref := RX12) (C := RX12) (T := TX12) (N := 20) hts hiX12 hown rfl 1 (by decide) hk9 (fun _ h9 => h9) rfl dX12_canBake_109 ?_
        refine lv_iconst (v := 4) hx hb dX12_canBake_112 (by decide) ?_
        obtain ⟨hin, hf⟩ := xr_f hf
        refine x_iald hx hb hw (cM1 hE) hin dX12_canBake_113 ?_
        refine lv_topi (fun v12 ex => ?_)
        replace hf := hf v12 ex
        clear ex hin
        refine lv_icmp_ge (tgt := 154) hx hb dX12_canBake_114 (by decide) (fun c114 => ?_) (fun c114 => ?_)
        · replace hf := xif_pos c114 hf
          refine lv_iconst (v := 0) hx hb dX12_canBake_154 (by decide) ?_
          exact x_zretc hx hb hr hlk hw (by decide) hf dX12_canBake_155
        · replace hf := xif_neg c114 hf
          refine lv_aload_n hx hb dX12_canBake_117 rfl (lv_at hl 1 rfl) ?_
          refine x_getr hx hb hw (cM0 hE) (own := RX12) (ref := RX12) (C := RX12) (T := TX12) (N := 20) hts hiX12 hown rfl 1 (by decide) hk9 (fun _ h9 => h9) rfl dX12_canBake_118 ?_
          refine lv_iconst (v := 2) hx hb dX12_canBake_121 (by decide) ?_
          obtain ⟨hin, hf⟩ := xr_f hf
          refine x_iald hx hb hw (cM1 hE) hin dX12_canBake_122 ?_
          refine lv_topi (fun v13 ex => ?_)
          replace hf := hf v13 ex
          clear ex hin
          refine lv_aload_n hx hb dX12_canBake_123 rfl (lv_at hl 1 rfl) ?_
          refine x_getr hx hb hw (cM0 hE) (own := RX12) (ref := RX12) (C := RX12) (T := TX12) (N := 20) hts hiX12 hown rfl 1 (by decide) hk9 (fun _ h9 => h9) rfl dX12_canBake_124 ?_
          refine lv_bipush (v := 37) hx hb dX12_canBake_127 (by decide) ?_
          refine lv_iload_n hx hb dX12_canBake_129 rfl (lv_at hl 2 rfl) ?_
          refine lv_iadd hx hb dX12_canBake_130 ?_
          obtain ⟨hin, hf⟩ := xr_f hf
          refine x_iald hx hb hw (cM1 hE) hin dX12_canBake_131 ?_
          refine lv_topi (fun v14 ex => ?_)
          replace hf := hf v14 ex
          clear ex hin
          refine lv_aload_n hx hb dX12_canBake_132 rfl (lv_at hl 1 rfl) ?_
          refine x_getr hx hb hw (cM0 hE) (own := RX12) (ref := RX12) (C := RX12) (T := TX12) (N := 20) hts hiX12 hown rfl 1 (by decide) hk9 (fun _ h9 => h9) rfl dX12_canBake_133 ?_
          refine lv_bipush (v := 37) hx hb dX12_canBake_136 (by decide) ?_
          refine lv_iload_n hx hb dX12_canBake_138 rfl (lv_at hl 2 rfl) ?_
          refine lv_iadd hx hb dX12_canBake_139 ?_
          obtain ⟨hin, hf⟩ := xr_f hf
          refine x_iald hx hb hw (cM1 hE) hin dX12_canBake_140 ?_
          refine lv_topi (fun v15 ex => ?_)
          replace hf := hf v15 ex
          clear ex hin
          refine lv_bipush (v := 40) hx hb dX12_canBake_141 (by decide) ?_
          refine lv_iadd hx hb dX12_canBake_143 ?_
          obtain ⟨r16, σ17, hcl, hf⟩ := xc2_f hf
          refine x_calli (va_runS (As := [.int v13, .int v14, .int (v15 + 40)]) (rest := []) ⟨hx, hb, hml, hown, hts⟩ (mX12_in hE v13 v14 (v15 + 40) σ11 r16 σ17 hcl H.size) (va_cwS 3 hts gX12_canBake_X12_in rfl rfl rfl (by decide +kernel) ⟨Nat.le_of_ble_eq_true rfl, Nat.le_of_ble_eq_true rfl⟩) (x_preS _ hw hA hG) rfl rfl hl.1 rfl (lv_room (Nat.le_of_ble_eq_true rfl)) dX12_canBake_144 ⟨Nat.le_of_ble_eq_true rfl, Nat.le_of_ble_eq_true rfl⟩) hw hA (fun H locs hw => ?_)
          clear hcl
          refine lv_if_eq (tgt := 154) hx hb dX12_canBake_147 (by decide) (fun c147 => ?_) (fun c147 => ?_)
          · replace hf := xif_pos c147 hf
            refine lv_iconst (v := 0) hx hb dX12_canBake_154 (by decide) ?_
            exact x_zretc hx hb hr hlk hw (by decide) hf dX12_canBake_155
          · replace hf := xif_neg c147 hf
            refine lv_iconst (v := 1) hx hb dX12_canBake_150 (by decide) ?_
            refine lv_goto (tgt := 155) hx hb dX12_canBake_151 (by decide) ?_
            exact x_zretc hx hb hr hlk hw (by decide) hf dX12_canBake_155
  have h86 : ∀ (a2 : Int32) (σ : xSt) (H : Heap) (locs : List Loc) (ls : Array Slot), xw E A s.heap s σ H locs → lv_has ls 4 [(0, .ref (E.a 0)), (2, .int a2)] → fX12_canBake_c86 a2 σ = some (o1, o2) → W p l e rmX12_canBake s m args below meth c H locs 0 0 (MQ below (xQi E A o1 o2) args s 0 0 A) (F0 m 86 ls []) := by
    intro a2 σ H locs ls hw hl hf
    unfold fX12_canBake_c86 at hf
    refine lv_iconst (v := 0) hx hb dX12_canBake_86 (by decide) ?_
    exact h87 a2 0 σ _ _ _ hw (lv_sub hl [0, 1] rfl) hf
  refine lv_aload_n hx hb dX12_canBake_0 rfl (lv_at hl 0 rfl) ?_
  refine x_getr hx hb hw (cM0 hE) (own := RX12) (ref := RX12) (C := RX12) (T := TX12) (N := 20) hts hiX12 hown rfl 1 (by decide) hk9 (fun _ h9 => h9) rfl dX12_canBake_1 ?_
  refine lv_bipush (v := 103) hx hb dX12_canBake_4 (by decide) ?_
  refine lv_iload_n hx hb dX12_canBake_6 rfl (lv_at hl 1 rfl) ?_
  refine lv_iadd hx hb dX12_canBake_7 ?_
  obtain ⟨hin, hf⟩ := xr_f hf
  refine x_iald hx hb hw (cM1 hE) hin dX12_canBake_8 ?_
  refine lv_topi (fun v1 ex => ?_)
  replace hf := hf v1 ex
  clear ex hin
  refine lv_istore_n (lv' := [(2, .int v1), (0, .ref (E.a 0)), (1, .int p0)]) hx hb dX12_canBake_9 rfl hl (by decide) rfl (fun ls hl => ?_)
  refine lv_aload_n hx hb dX12_canBake_10 rfl (lv_at hl 1 rfl) ?_
  refine x_getr hx hb hw (cM0 hE) (own := RX12) (ref := RX12) (C := RX12) (T := TX12) (N := 20) hts hiX12 hown rfl 1 (by decide) hk9 (fun _ h9 => h9) rfl dX12_canBake_11 ?_
  refine lv_sipush (v := 163) hx hb dX12_canBake_14 (by decide) ?_
  refine lv_iload_n hx hb dX12_canBake_17 rfl (lv_at hl 2 rfl) ?_
  refine lv_iadd hx hb dX12_canBake_18 ?_
  obtain ⟨hin, hf⟩ := xr_f hf
  refine x_iald hx hb hw (cM1 hE) hin dX12_canBake_19 ?_
  refine lv_topi (fun v2 ex => ?_)
  replace hf := hf v2 ex
  clear ex hin
  refine lv_iconst (v := 1) hx hb dX12_canBake_20 (by decide) ?_
  refine lv_icmp_ne (tgt := 61) hx hb dX12_canBake_21 (by decide) (fun c21 => ?_) (fun c21 => ?_)
  · replace hf := xif_neg c21 hf
    refine lv_aload_n hx hb dX12_canBake_61 rfl (lv_at hl 1 rfl) ?_
    refine x_getr hx hb hw (cM0 hE) (own := RX12) (ref := RX12) (C := RX12) (T := TX12) (N := 20) hts hiX12 hown rfl 1 (by decide) hk9 (fun _ h9 => h9) rfl dX12_canBake_62 ?_
    refine lv_sipush (v := 163) hx hb dX12_canBake_65 (by decide) ?_
    refine lv_iload_n hx hb dX12_canBake_68 rfl (lv_at hl 2 rfl) ?_
    refine lv_iadd hx hb dX12_canBake_69 ?_
    obtain ⟨hin, hf⟩ := xr_f hf
    refine x_iald hx hb hw (cM1 hE) hin dX12_canBake_70 ?_
    refine lv_topi (fun v3 ex => ?_)
    replace hf := hf v3 ex
    clear ex hin
    refine lv_if_ne (tgt := 86) hx hb dX12_canBake_71 (by decide) (fun c71 => ?_) (fun c71 => ?_)
    · replace hf := xif_neg c71 hf
      exact h86 v1 σ _ _ _ hw (lv_sub hl [1, 0] rfl) hf
    · replace hf := xif_pos c71 hf
      refine lv_aload_n hx hb dX12_canBake_74 rfl (lv_at hl 1 rfl) ?_
      refine lv_iload_n hx hb dX12_canBake_75 rfl (lv_at hl 2 rfl) ?_
      obtain ⟨r4, σ5, hcl, hf⟩ := xc2_f hf
      refine x_calli (va_runV (As := [.int p0]) (rest := []) ⟨hx, hb, hml, hown, hts⟩ (mX12_isRipe hE p0 σ r4 σ5 hcl s.heap.size) (cwV 1 hts gX12_canBake_X12_isRipe rfl rfl rfl (by decide +kernel) ⟨Nat.le_of_ble_eq_true rfl, Nat.le_of_ble_eq_true rfl⟩) (x_preV _ hw hA hG (cM0 hE) rfl) rfl rfl hl.1 rfl (lv_room (Nat.le_of_ble_eq_true rfl)) dX12_canBake_76 ⟨Nat.le_of_ble_eq_true rfl, Nat.le_of_ble_eq_true rfl⟩) hw hA (fun H locs hw => ?_)
      clear hcl
      refine lv_if_eq (tgt := 86) hx hb dX12_canBake_79 (by decide) (fun c79 => ?_) (fun c79 => ?_)
      · replace hf := xif_pos c79 hf
        exact h86 v1 σ5 _ _ _ hw (lv_sub hl [1, 0] rfl) hf
      · replace hf := xif_neg c79 hf
        refine lv_iconst (v := 1) hx hb dX12_canBake_82 (by decide) ?_
        refine lv_goto (tgt := 87) hx hb dX12_canBake_83 (by decide) ?_
        exact h87 v1 1 σ5 _ _ _ hw (lv_sub hl [1, 0] rfl) hf
  · replace hf := xif_pos c21 hf
    refine lv_aload_n hx hb dX12_canBake_24 rfl (lv_at hl 1 rfl) ?_
    refine x_getr hx hb hw (cM0 hE) (own := RX12) (ref := RX12) (C := RX12) (T := TX12) (N := 20) hts hiX12 hown rfl 1 (by decide) hk9 (fun _ h9 => h9) rfl dX12_canBake_25 ?_
    refine lv_iconst (v := 0) hx hb dX12_canBake_28 (by decide) ?_
    obtain ⟨hin, hf⟩ := xr_f hf
    refine x_iald hx hb hw (cM1 hE) hin dX12_canBake_29 ?_
    refine lv_topi (fun v6 ex => ?_)
    replace hf := hf v6 ex
    clear ex hin
    refine lv_aload_n hx hb dX12_canBake_30 rfl (lv_at hl 1 rfl) ?_
    refine x_getr hx hb hw (cM0 hE) (own := RX12) (ref := RX12) (C := RX12) (T := TX12) (N := 20) hts hiX12 hown rfl 1 (by decide) hk9 (fun _ h9 => h9) rfl dX12_canBake_31 ?_
    refine lv_sipush (v := 183) hx hb dX12_canBake_34 (by decide) ?_
    refine lv_iload_n hx hb dX12_canBake_37 rfl (lv_at hl 2 rfl) ?_
    refine lv_iadd hx hb dX12_canBake_38 ?_
    obtain ⟨hin, hf⟩ := xr_f hf
    refine x_iald hx hb hw (cM1 hE) hin dX12_canBake_39 ?_
    refine lv_topi (fun v7 ex => ?_)
    replace hf := hf v7 ex
    clear ex hin
    refine lv_isub hx hb dX12_canBake_40 ?_
    refine lv_aload_n hx hb dX12_canBake_41 rfl (lv_at hl 1 rfl) ?_
    refine x_getr hx hb hw (cM0 hE) (own := RX12) (ref := RX12) (C := RX12) (T := TX12) (N := 20) hts hiX12 hown rfl 1 (by decide) hk9 (fun _ h9 => h9) rfl dX12_canBake_42 ?_
    refine lv_bipush (v := 49) hx hb dX12_canBake_45 (by decide) ?_
    refine lv_iload_n hx hb dX12_canBake_47 rfl (lv_at hl 0 rfl) ?_
    refine lv_iadd hx hb dX12_canBake_48 ?_
    obtain ⟨hin, hf⟩ := xr_f hf
    refine x_iald hx hb hw (cM1 hE) hin dX12_canBake_49 ?_
    refine lv_topi (fun v8 ex => ?_)
    replace hf := hf v8 ex
    clear ex hin
    refine lv_icmp_gt (tgt := 57) hx hb dX12_canBake_50 (by decide) (fun c50 => ?_) (fun c50 => ?_)
    · replace hf := xif_pos c50 hf
      refine lv_iconst (v := 0) hx hb dX12_canBake_57 (by decide) ?_
      refine lv_goto (tgt := 87) hx hb dX12_canBake_58 (by decide) ?_
      exact h87 v1 0 σ _ _ _ hw (lv_sub hl [1, 0] rfl) hf
    · replace hf := xif_neg c50 hf
      refine lv_iconst (v := 1) hx hb dX12_canBake_53 (by decide) ?_
      refine lv_goto (tgt := 87) hx hb dX12_canBake_54 (by decide) ?_
      exact h87 v1 1 σ _ _ _ hw (lv_sub hl [1, 0] rfl) hf

def fX12_bake (p0 : Int32) (σ : xSt) : Option (Int32 × xSt) := (xc2 (fX12_isDough p0 σ) fun r1 σ2 => (xc2 (fX12_can r1 1 σ2) fun r3 σ4 => (if r3 = 0 then some (0, σ4) else (xc2 (fX12_canBake p0 σ4) fun r5 σ6 => (xc2 (fX12_can r5 2 σ6) fun r7 σ8 => (if r7 = 0 then some (0, σ8) else (xc (fX12_keep σ8) fun σ10 => (xs σ10 1 680 (163 + p0) 2 fun σ11 => (xr σ11 1 680 0 fun v12 => (xs σ11 1 680 (203 + p0) v12 fun σ13 => (xr σ13 1 680 0 fun v14 => some ((v14 + 10), σ13))))))))))))
abbrev rmX12_bake : Room := { frames := 3, cells := 0, slots := 0, locals := 67 }
set_option maxRecDepth 100000 in
set_option maxHeartbeats 4000000 in
theorem mX12_bake {l : Launch} {E : xE} (hE : E.sh = shM) (p0 : Int32) (σ : xSt) (o1 : Int32) (o2 : xSt) (hf : fX12_bake p0 σ = some (o1, o2)) : xMi l yX12_bake wsX12_bake rmX12_bake E [.ref (E.a 0), .int p0] σ o1 o2 := by
  unfold fX12_bake at hf
  refine xMi_of (cc := cX12_bake) (maxL := 2) (ret := (some .int)) (by decide) rfl (Nat.le_of_ble_eq_true rfl) ?_
  intro p e s m args below meth c A ls ⟨hx, hb, hr, hml, hown, hts, hlk⟩ hA hG hw hl
  have hown : s.vm.findClass RX12 = some m.cls := hown
  have hl : lv_has ls 2 [(0, .ref (E.a 0)), (1, .int p0)] := hl
  have hk9 := hts (.fieldLink RX12 9 "OvenRoundModel" "w" "[I") (by decide +kernel)
  have hiX12 : ∀ w ∈ wsX120, w ∈ wsX12_bake := by decide +kernel
  refine lv_aload_n hx hb dX12_bake_0 rfl (lv_at hl 0 rfl) ?_
  refine lv_aload_n hx hb dX12_bake_1 rfl (lv_at hl 0 rfl) ?_
  refine lv_iload_n hx hb dX12_bake_2 rfl (lv_at hl 1 rfl) ?_
  obtain ⟨r1, σ2, hcl, hf⟩ := xc2_f hf
  refine x_calli (va_runV (As := [.int p0]) (rest := [.ref (E.a 0)]) ⟨hx, hb, hml, hown, hts⟩ (mX12_isDough hE p0 σ r1 σ2 hcl s.heap.size) (cwV 1 hts gX12_bake_X12_isDough rfl rfl rfl (by decide +kernel) ⟨Nat.le_of_ble_eq_true rfl, Nat.le_of_ble_eq_true rfl⟩) (x_preV _ hw hA hG (cM0 hE) rfl) rfl rfl hl.1 rfl (lv_room (Nat.le_of_ble_eq_true rfl)) dX12_bake_3 ⟨Nat.le_of_ble_eq_true rfl, Nat.le_of_ble_eq_true rfl⟩) hw hA (fun H locs hw => ?_)
  clear hcl
  refine lv_iconst (v := 1) hx hb dX12_bake_6 (by decide) ?_
  obtain ⟨r3, σ4, hcl, hf⟩ := xc2_f hf
  refine x_calli (va_runV (As := [.int r1, .int 1]) (rest := []) ⟨hx, hb, hml, hown, hts⟩ (mX12_can hE r1 1 σ2 r3 σ4 hcl H.size) (cwV 2 hts gX12_bake_X12_can rfl rfl rfl (by decide +kernel) ⟨Nat.le_of_ble_eq_true rfl, Nat.le_of_ble_eq_true rfl⟩) (x_preV _ hw hA hG (cM0 hE) rfl) rfl rfl hl.1 rfl (lv_room (Nat.le_of_ble_eq_true rfl)) dX12_bake_7 ⟨Nat.le_of_ble_eq_true rfl, Nat.le_of_ble_eq_true rfl⟩) hw hA (fun H locs hw => ?_)
  clear hcl
  refine lv_if_eq (tgt := 26) hx hb dX12_bake_10 (by decide) (fun c10 => ?_) (fun c10 => ?_)
  · replace hf := xif_pos c10 hf
    refine lv_iconst (v := 0) hx hb dX12_bake_26 (by decide) ?_
    exact x_iret hx hb hr hlk hw hf dX12_bake_27
  · replace hf := xif_neg c10 hf
    refine lv_aload_n hx hb dX12_bake_13 rfl (lv_at hl 0 rfl) ?_
    refine lv_aload_n hx hb dX12_bake_14 rfl (lv_at hl 0 rfl) ?_
    refine lv_iload_n hx hb dX12_bake_15 rfl (lv_at hl 1 rfl) ?_
    obtain ⟨r5, σ6, hcl, hf⟩ := xc2_f hf
    refine x_calli (va_runV (As := [.int p0]) (rest := [.ref (E.a 0)]) ⟨hx, hb, hml, hown, hts⟩ (mX12_canBake hE p0 σ4 r5 σ6 hcl H.size) (cwV 1 hts gX12_bake_X12_canBake rfl rfl rfl (by decide +kernel) ⟨Nat.le_of_ble_eq_true rfl, Nat.le_of_ble_eq_true rfl⟩) (x_preV _ hw hA hG (cM0 hE) rfl) rfl rfl hl.1 rfl (lv_room (Nat.le_of_ble_eq_true rfl)) dX12_bake_16 ⟨Nat.le_of_ble_eq_true rfl, Nat.le_of_ble_eq_true rfl⟩) hw hA (fun H locs hw => ?_)
    clear hcl
    refine lv_iconst (v := 2) hx hb dX12_bake_19 (by decide) ?_
    obtain ⟨r7, σ8, hcl, hf⟩ := xc2_f hf
    refine x_calli (va_runV (As := [.int r5, .int 2]) (rest := []) ⟨hx, hb, hml, hown, hts⟩ (mX12_can hE r5 2 σ6 r7 σ8 hcl H.size) (cwV 2 hts gX12_bake_X12_can rfl rfl rfl (by decide +kernel) ⟨Nat.le_of_ble_eq_true rfl, Nat.le_of_ble_eq_true rfl⟩) (x_preV _ hw hA hG (cM0 hE) rfl) rfl rfl hl.1 rfl (lv_room (Nat.le_of_ble_eq_true rfl)) dX12_bake_20 ⟨Nat.le_of_ble_eq_true rfl, Nat.le_of_ble_eq_true rfl⟩) hw hA (fun H locs hw => ?_)
    clear hcl
    refine lv_if_ne (tgt := 28) hx hb dX12_bake_23 (by decide) (fun c23 => ?_) (fun c23 => ?_)
    · replace hf := xif_neg c23 hf
      refine lv_aload_n hx hb dX12_bake_28 rfl (lv_at hl 0 rfl) ?_
      obtain ⟨σ10, hcl, hf⟩ := xc_e hf
      refine x_callv (va_runV (As := []) (rest := []) ⟨hx, hb, hml, hown, hts⟩ (mX12_keep hE σ8 σ10 hcl H.size) (cwV 0 hts gX12_bake_X12_keep rfl rfl rfl (by decide +kernel) ⟨Nat.le_of_ble_eq_true rfl, Nat.le_of_ble_eq_true rfl⟩) (x_preV _ hw hA hG (cM0 hE) rfl) rfl rfl hl.1 rfl (lv_room (Nat.le_of_ble_eq_true rfl)) dX12_bake_29 ⟨Nat.le_of_ble_eq_true rfl, Nat.le_of_ble_eq_true rfl⟩) hw hA (fun H locs hw => ?_)
      clear hcl
      refine lv_aload_n hx hb dX12_bake_32 rfl (lv_at hl 0 rfl) ?_
      refine x_getr hx hb hw (cM0 hE) (own := RX12) (ref := RX12) (C := RX12) (T := TX12) (N := 20) hts hiX12 hown rfl 1 (by decide) hk9 (fun _ h9 => h9) rfl dX12_bake_33 ?_
      refine lv_sipush (v := 163) hx hb dX12_bake_36 (by decide) ?_
      refine lv_iload_n hx hb dX12_bake_39 rfl (lv_at hl 1 rfl) ?_
      refine lv_iadd hx hb dX12_bake_40 ?_
      refine lv_iconst (v := 2) hx hb dX12_bake_41 (by decide) ?_
      obtain ⟨hin, hf⟩ := xs_f hf
      refine x_iast hx hb hw (cM1 hE) hin dX12_bake_42 (fun σ11 H locs ex hw => ?_)
      replace hf := hf σ11 ex
      clear ex hin
      refine lv_aload_n hx hb dX12_bake_43 rfl (lv_at hl 0 rfl) ?_
      refine x_getr hx hb hw (cM0 hE) (own := RX12) (ref := RX12) (C := RX12) (T := TX12) (N := 20) hts hiX12 hown rfl 1 (by decide) hk9 (fun _ h9 => h9) rfl dX12_bake_44 ?_
      refine lv_sipush (v := 203) hx hb dX12_bake_47 (by decide) ?_
      refine lv_iload_n hx hb dX12_bake_50 rfl (lv_at hl 1 rfl) ?_
      refine lv_iadd hx hb dX12_bake_51 ?_
      refine lv_aload_n hx hb dX12_bake_52 rfl (lv_at hl 0 rfl) ?_
      refine x_getr hx hb hw (cM0 hE) (own := RX12) (ref := RX12) (C := RX12) (T := TX12) (N := 20) hts hiX12 hown rfl 1 (by decide) hk9 (fun _ h9 => h9) rfl dX12_bake_53 ?_
      refine lv_iconst (v := 0) hx hb dX12_bake_56 (by decide) ?_
      obtain ⟨hin, hf⟩ := xr_f hf
      refine x_iald hx hb hw (cM1 hE) hin dX12_bake_57 ?_
      refine lv_topi (fun v12 ex => ?_)
      replace hf := hf v12 ex
      clear ex hin
      obtain ⟨hin, hf⟩ := xs_f hf
      refine x_iast hx hb hw (cM1 hE) hin dX12_bake_58 (fun σ13 H locs ex hw => ?_)
      replace hf := hf σ13 ex
      clear ex hin
      refine lv_aload_n hx hb dX12_bake_59 rfl (lv_at hl 0 rfl) ?_
      refine x_getr hx hb hw (cM0 hE) (own := RX12) (ref := RX12) (C := RX12) (T := TX12) (N := 20) hts hiX12 hown rfl 1 (by decide) hk9 (fun _ h9 => h9) rfl dX12_bake_60 ?_
      refine lv_iconst (v := 0) hx hb dX12_bake_63 (by decide) ?_
      obtain ⟨hin, hf⟩ := xr_f hf
      refine x_iald hx hb hw (cM1 hE) hin dX12_bake_64 ?_
      refine lv_topi (fun v14 ex => ?_)
      replace hf := hf v14 ex
      clear ex hin
      refine lv_bipush (v := 10) hx hb dX12_bake_65 (by decide) ?_
      refine lv_iadd hx hb dX12_bake_67 ?_
      exact x_iret hx hb hr hlk hw hf dX12_bake_68
    · replace hf := xif_pos c23 hf
      refine lv_iconst (v := 0) hx hb dX12_bake_26 (by decide) ?_
      exact x_iret hx hb hr hlk hw hf dX12_bake_27
