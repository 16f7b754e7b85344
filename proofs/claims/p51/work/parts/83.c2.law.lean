def fL_isEvening_c168 (k11 : (Int32 → xSt → Option (Int32 × xSt))) (a1 : Int32) (a4 : Int64) (σ : xSt) : Option (Int32 × xSt) := (xc2 (fL_isKept σ) fun r28 σ29 => (if r28 = 0 then some (0, σ29) else (xc2 (fX12_next 3 σ29) fun r30 σ31 => (if r30 = 0 then (xco (fX11_undo σ31) σ31 fun r33 σ34 => (if r33 < 0 then some (0, σ34) else (xcm (fX11_checksum σ34) σ34 fun r35 σ36 => (if (lg_cmp r35 a4) = 0 then (xc2 (fL_isKept σ36) fun r37 σ38 => (if r37 = 0 then some (0, σ38) else (xl (a1 + (-1)) fun v39 => k11 v39 σ38))) else some (0, σ36))))) else (xl (a1 + (-1)) fun v32 => k11 v32 σ31)))))
def fL_isEvening_c116 (k11 : (Int32 → xSt → Option (Int32 × xSt))) (a1 : Int32) (a2 : Int32) (a4 : Int64) (σ : xSt) : Option (Int32 × xSt) := (xc2 (fX12_next 3 σ) fun r20 σ21 => (if r20 = 0 then (xco (fX11_crumble a2 σ21) σ21 fun r26 σ27 => (if 0 ≤ r26 then fL_isEvening_c168 k11 a1 a4 σ27 else some (0, σ27))) else (xcm (fX11_endDay σ21) σ21 fun r22 σ23 => (if r22 < 0 then some (0, σ23) else (xco (fX11_breads a2 0 σ23) σ23 fun r24 σ25 => (if r24 = 0 then fL_isEvening_c168 k11 a1 a4 σ25 else some (0, σ25)))))))
def fL_isEvening_c32 (k11 : (Int32 → xSt → Option (Int32 × xSt))) : Nat → Int32 → Int32 → Int32 → Int32 → xSt → Option (Int32 × xSt)
  | 0 => fun _ _ _ _ _ => none
  | n + 1 => fun a1 a2 a3 a4 σ => (if 4 ≤ a4 then (xcm (fX11_checksum σ) σ fun r6 σ7 => (if a3 ≤ 0 then fL_isEvening_c116 k11 a1 a2 r6 σ7 else (xc2 (fX12_next 2 σ7) fun r8 σ9 => (if r8 = 0 then (xl (if 99 < a3 then 99 else a3) fun v10 => (xc2 (fX12_next v10 σ9) fun r11 σ12 => (xl (1 + r11) fun v13 => (xco (fX11_sell a2 v13 σ12) σ12 fun r14 σ15 => (if 0 ≤ r14 then fL_isEvening_c168 k11 a1 r6 σ15 else some (0, σ15)))))) else fL_isEvening_c116 k11 a1 a2 r6 σ9)))) else (xco (fX11_breads a2 a4 σ) σ fun r16 σ17 => (xl (a3 + r16) fun v18 => (xl (a4 + 1) fun v19 => fL_isEvening_c32 k11 n a1 a2 v18 v19 σ17))))
theorem fL_isEvening_c32_s (k11 : (Int32 → xSt → Option (Int32 × xSt))) (n : Nat) (a1 : Int32) (a2 : Int32) (a3 : Int32) (a4 : Int32) (σ : xSt) : fL_isEvening_c32 k11 (n + 1) a1 a2 a3 a4 σ = ((if 4 ≤ a4 then (xcm (fX11_checksum σ) σ fun r6 σ7 => (if a3 ≤ 0 then fL_isEvening_c116 k11 a1 a2 r6 σ7 else (xc2 (fX12_next 2 σ7) fun r8 σ9 => (if r8 = 0 then (xl (if 99 < a3 then 99 else a3) fun v10 => (xc2 (fX12_next v10 σ9) fun r11 σ12 => (xl (1 + r11) fun v13 => (xco (fX11_sell a2 v13 σ12) σ12 fun r14 σ15 => (if 0 ≤ r14 then fL_isEvening_c168 k11 a1 r6 σ15 else some (0, σ15)))))) else fL_isEvening_c116 k11 a1 a2 r6 σ9)))) else (xco (fX11_breads a2 a4 σ) σ fun r16 σ17 => (xl (a3 + r16) fun v18 => (xl (a4 + 1) fun v19 => fL_isEvening_c32 k11 n a1 a2 v18 v19 σ17)))) : Option (Int32 × xSt)) := rfl
def fL_isEvening_c11 : Nat → Int32 → xSt → Option (Int32 × xSt)
  | 0 => fun _ _ => none
  | n + 1 => fun a1 σ => (if a1 ≤ 0 then some (1, σ) else (xc2 (fX12_next (σ 52 2) σ) fun r4 σ5 => fL_isEvening_c32 (fL_isEvening_c11 n) xF5 a1 r4 0 0 σ5))
theorem fL_isEvening_c11_s (n : Nat) (a1 : Int32) (σ : xSt) : fL_isEvening_c11 (n + 1) a1 σ = ((if a1 ≤ 0 then some (1, σ) else (xc2 (fX12_next (σ 52 2) σ) fun r4 σ5 => fL_isEvening_c32 (fL_isEvening_c11 n) xF5 a1 r4 0 0 σ5)) : Option (Int32 × xSt)) := rfl
def fL_isEvening (σ : xSt) : Option (Int32 × xSt) := (xc2 (fX12_next 4 σ) fun r1 σ2 => (xl (1 + r1) fun v3 => fL_isEvening_c11 xF5 v3 σ2))
abbrev rmL_isEvening : Room := { frames := 10, cells := 240, slots := 1440, locals := 174 }
set_option maxRecDepth 100000 in
set_option maxHeartbeats 8000000 in
theorem mL_isEvening {l : Launch} (hl0 : l.stackTraces = false) {E : xE} (hE : xLE E) (σ : xSt) (o1 : Int32) (o2 : xSt) (hf : fL_isEvening σ = some (o1, o2)) : xLi l yL_isEvening wsL_isEvening rmL_isEvening E [.ref (E.a 52)] σ o1 o2 240 1440 := by
  unfold fL_isEvening at hf
  refine xLi_of (cc := cL_isEvening) (maxL := 7) (ret := (some .boolean)) (by decide) rfl (Nat.le_of_ble_eq_true rfl) ?_
  intro p e s m args below meth c A ls ⟨hx, hb, hr, hml, hown, hts, hlk⟩ hA hGL hw hl
  have hG := hGL.1
  have eF5 : xF5 = 5 := rfl
  have hown : s.vm.findClass RL = some m.cls := hown
  have hl : lv_has ls 7 [(0, .ref (E.a 52))] := hl
  have hk34 := hts (.fieldLink RL 34 "OvenRoundLaw" "d" "LOvenRoundLaw$Draws;") (by decide +kernel)
  have hiL : ∀ w ∈ wsL0, w ∈ wsL_isEvening := by decide +kernel
  have hk62 := hts (.fieldLink RL 62 "OvenRoundLaw" "recipes" "I") (by decide +kernel)
  have hk10 := hts (.fieldLink RL 10 "OvenRoundLaw" "o" "LOvenRound;") (by decide +kernel)
  have h11 : ∀ (n : Nat) (a1 : Int32) (σ : xSt) (H : Heap) (locs : List Loc) (ls : Array Slot) (nc ns : Nat), xw E A s.heap s σ H locs → lv_has ls 7 [(0, .ref (E.a 52)), (1, .int a1)] → fL_isEvening_c11 n a1 σ = some (o1, o2) → nc + (0 + 48 * n) ≤ 240 → ns + (0 + 288 * n) ≤ 1440 → W p l e rmL_isEvening s m args below meth c H locs nc ns (MQ below (xQi E A o1 o2) args s 240 1440 A) (F0 m 11 ls []) := by
    intro n11
    induction n11 with
    | zero => intro a1 σ H locs ls nc ns hw hl hf hnc hns; exact nomatch hf
    | succ n11 ih11 =>
      have h168 : ∀ (a1 : Int32) (a4 : Int64) (σ : xSt) (H : Heap) (locs : List Loc) (ls : Array Slot) (nc ns : Nat), xw E A s.heap s σ H locs → lv_has ls 7 [(0, .ref (E.a 52)), (1, .int a1), (4, .long a4)] → fL_isEvening_c168 (fL_isEvening_c11 n11) a1 a4 σ = some (o1, o2) → nc + (35 + 48 * n11) ≤ 240 → ns + (210 + 288 * n11) ≤ 1440 → W p l e rmL_isEvening s m args below meth c H locs nc ns (MQ below (xQi E A o1 o2) args s 240 1440 A) (F0 m 168 ls []) := by
        intro a1 a4 σ H locs ls nc ns hw hl hf hnc hns
        unfold fL_isEvening_c168 at hf
        refine lv_aload_n hx hb dL_isEvening_168 rfl (lv_at hl 0 rfl) ?_
        obtain ⟨r28, σ29, hcl, hf⟩ := xc2_f hf
        refine x_callLi (va_runV (As := []) (rest := []) ⟨hx, hb, hml, hown, hts⟩ (mL_isKept hl0 hE σ r28 σ29 hcl H.size) (cwV 0 hts gL_isEvening_L_isKept rfl rfl rfl (by decide +kernel) ⟨Nat.le_of_ble_eq_true rfl, Nat.le_of_ble_eq_true rfl⟩) (x_preLV _ hw hA hGL (cL52 hE) rfl) rfl rfl hl.1 rfl (lv_room (Nat.le_of_ble_eq_true rfl)) dL_isEvening_169 ⟨show nc + 17 ≤ 240 by omega, show ns + 102 ≤ 1440 by omega⟩) hw hA (fun H locs hw => ?_)
        clear hcl
        refine lv_if_ne (tgt := 177) hx hb dL_isEvening_172 (by decide) (fun c172 => ?_) (fun c172 => ?_)
        · replace hf := xif_neg c172 hf
          refine lv_aload_n hx hb dL_isEvening_177 rfl (lv_at hl 0 rfl) ?_
          refine x_getr hx hb hw (cL52 hE) (own := RL) (ref := RL) (C := RL) (T := TL) (N := 10) hts hiL hown rfl 1 (by decide) hk34 (fun _ h9 => h9) rfl dL_isEvening_178 ?_
          refine lv_iconst (v := 3) hx hb dL_isEvening_181 (by decide) ?_
          obtain ⟨r30, σ31, hcl, hf⟩ := xc2_f hf
          refine x_callLi (va_runV (As := [.int 3]) (rest := []) ⟨hx, hb, hml, hown, hts⟩ (mX12_next hl0 hE 3 σ29 r30 σ31 hcl H.size) (cwV 1 hts gL_isEvening_X12_next rfl rfl rfl (by decide +kernel) ⟨Nat.le_of_ble_eq_true rfl, Nat.le_of_ble_eq_true rfl⟩) (x_preLV _ hw hA hGL (cL53 hE) rfl) rfl rfl hl.1 rfl (lv_room (Nat.le_of_ble_eq_true rfl)) dL_isEvening_182 ⟨show (nc + 17) + 0 ≤ 240 by omega, show (ns + 102) + 0 ≤ 1440 by omega⟩) hw hA (fun H locs hw => ?_)
          clear hcl
          refine lv_if_ne (tgt := 220) hx hb dL_isEvening_185 (by decide) (fun c185 => ?_) (fun c185 => ?_)
          · replace hf := xif_neg c185 hf
            obtain ⟨v32, ex⟩ : ∃ y : Int32, y = (a1 + (-1)) := ⟨_, rfl⟩
            replace hf := xl_f hf v32 ex
            refine lv_iinc (v := v32) (lv' := [(1, .int v32), (0, .ref (E.a 52)), (4, .long a4)]) hx hb dL_isEvening_220 hl (k := 1) rfl (by rw [ex]; rfl) (by decide) rfl (fun ls hl => ?_)
            clear ex
            refine lv_goto (tgt := 11) hx hb dL_isEvening_223 (by decide) ?_
            exact ih11 v32 σ31 _ _ _ ((nc + 17) + 0) ((ns + 102) + 0) hw (lv_sub hl [1, 0] rfl) hf (by omega) (by omega)
          · replace hf := xif_pos c185 hf
            refine lv_aload_n hx hb dL_isEvening_188 rfl (lv_at hl 0 rfl) ?_
            refine x_getr hx hb hw (cL52 hE) (own := RL) (ref := RL) (C := RL) (T := TL) (N := 10) hts hiL hown rfl 0 (by decide) hk10 (fun _ h9 => h9) rfl dL_isEvening_189 ?_
            obtain ⟨r33, τ9, hcl, hf⟩ := xco_g hf
            refine x_tcallo (vx_runV (As := []) (rest := []) ⟨hx, hb, hml, hown, hts⟩ (mX11_undo hl0 (E := xCut E σ31) rfl  σ31 (.inl r33) τ9 hcl H.size) (cwV 0 hts gL_isEvening_X11_undo rfl rfl rfl (by decide +kernel) ⟨Nat.le_of_ble_eq_true rfl, Nat.le_of_ble_eq_true rfl⟩) (x_preV _ (xw_cut hE hw) hA hG (cX0 (E := xCut E σ31) rfl) rfl) rfl rfl hl.1 rfl (lv_room (Nat.le_of_ble_eq_true rfl)) dL_isEvening_192 ⟨show ((nc + 17) + 0) + 1 ≤ 240 by omega, show ((ns + 102) + 0) + 6 ≤ 1440 by omega⟩) (xw_cut hE hw) hA (fun H locs hw => ?_)
            obtain ⟨σ34, eρ, hw⟩ := xw_unc2 hE hw
            replace hf := hf σ34 eρ
            clear eρ hcl
            refine lv_if_lt (tgt := 218) hx hb dL_isEvening_195 (by decide) (fun c195 => ?_) (fun c195 => ?_)
            · replace hf := xif_pos c195 hf
              refine lv_iconst (v := 0) hx hb dL_isEvening_218 (by decide) ?_
              exact x_Lzretc hx hb hr hlk hw (by decide) hf (show (((nc + 17) + 0) + 1) ≤ 240 by omega) (show (((ns + 102) + 0) + 6) ≤ 1440 by omega) dL_isEvening_219
            · replace hf := xif_neg c195 hf
              refine lv_aload_n hx hb dL_isEvening_198 rfl (lv_at hl 0 rfl) ?_
              refine x_getr hx hb hw (cL52 hE) (own := RL) (ref := RL) (C := RL) (T := TL) (N := 10) hts hiL hown rfl 0 (by decide) hk10 (fun _ h9 => h9) rfl dL_isEvening_199 ?_
              obtain ⟨r35, τ9, hcl, hf⟩ := xcm_g hf
              refine x_calll (va_runV (As := []) (rest := []) ⟨hx, hb, hml, hown, hts⟩ (mX11_checksum (E := xCut E σ34) rfl  σ34 r35 τ9 hcl H.size) (cwV 0 hts gL_isEvening_X11_checksum rfl rfl rfl (by decide +kernel) ⟨Nat.le_of_ble_eq_true rfl, Nat.le_of_ble_eq_true rfl⟩) (x_preV _ (xw_cut hE hw) hA hG (cX0 (E := xCut E σ34) rfl) rfl) rfl rfl hl.1 rfl (lv_room (Nat.le_of_ble_eq_true rfl)) dL_isEvening_202 ⟨show (((nc + 17) + 0) + 1) + 0 ≤ 240 by omega, show (((ns + 102) + 0) + 6) + 0 ≤ 1440 by omega⟩) (xw_cut hE hw) hA (fun H locs hw => ?_)
              obtain ⟨σ36, eρ, hw⟩ := xw_unc2 hE hw
              replace hf := hf σ36 eρ
              clear eρ hcl
              refine lv_lload hx hb dL_isEvening_205 (lv_at hl 2 rfl) ?_
              refine W.lcmp hx hb dL_isEvening_207 ?_
              refine lv_if_ne (tgt := 218) hx hb dL_isEvening_208 (by decide) (fun c208 => ?_) (fun c208 => ?_)
              · replace hf := xif_neg c208 hf
                refine lv_iconst (v := 0) hx hb dL_isEvening_218 (by decide) ?_
                exact x_Lzretc hx hb hr hlk hw (by decide) hf (show (((nc + 17) + 0) + 1) ≤ 240 by omega) (show (((ns + 102) + 0) + 6) ≤ 1440 by omega) dL_isEvening_219
              · replace hf := xif_pos c208 hf
                refine lv_aload_n hx hb dL_isEvening_211 rfl (lv_at hl 0 rfl) ?_
                obtain ⟨r37, σ38, hcl, hf⟩ := xc2_f hf
                refine x_callLi (va_runV (As := []) (rest := []) ⟨hx, hb, hml, hown, hts⟩ (mL_isKept hl0 hE σ36 r37 σ38 hcl H.size) (cwV 0 hts gL_isEvening_L_isKept rfl rfl rfl (by decide +kernel) ⟨Nat.le_of_ble_eq_true rfl, Nat.le_of_ble_eq_true rfl⟩) (x_preLV _ hw hA hGL (cL52 hE) rfl) rfl rfl hl.1 rfl (lv_room (Nat.le_of_ble_eq_true rfl)) dL_isEvening_212 ⟨show (((nc + 17) + 0) + 1) + 17 ≤ 240 by omega, show (((ns + 102) + 0) + 6) + 102 ≤ 1440 by omega⟩) hw hA (fun H locs hw => ?_)
                clear hcl
                refine lv_if_ne (tgt := 220) hx hb dL_isEvening_215 (by decide) (fun c215 => ?_) (fun c215 => ?_)
                · replace hf := xif_neg c215 hf
                  obtain ⟨v39, ex⟩ : ∃ y : Int32, y = (a1 + (-1)) := ⟨_, rfl⟩
                  replace hf := xl_f hf v39 ex
                  refine lv_iinc (v := v39) (lv' := [(1, .int v39), (0, .ref (E.a 52)), (4, .long a4)]) hx hb dL_isEvening_220 hl (k := 1) rfl (by rw [ex]; rfl) (by decide) rfl (fun ls hl => ?_)
                  clear ex
                  refine lv_goto (tgt := 11) hx hb dL_isEvening_223 (by decide) ?_
                  exact ih11 v39 σ38 _ _ _ ((((nc + 17) + 0) + 1) + 17) ((((ns + 102) + 0) + 6) + 102) hw (lv_sub hl [1, 0] rfl) hf (by omega) (by omega)
                · replace hf := xif_pos c215 hf
                  refine lv_iconst (v := 0) hx hb dL_isEvening_218 (by decide) ?_
                  exact x_Lzretc hx hb hr hlk hw (by decide) hf (show ((((nc + 17) + 0) + 1) + 17) ≤ 240 by omega) (show ((((ns + 102) + 0) + 6) + 102) ≤ 1440 by omega) dL_isEvening_219
        · replace hf := xif_pos c172 hf
          refine lv_iconst (v := 0) hx hb dL_isEvening_175 (by decide) ?_
          exact x_Lzretc hx hb hr hlk hw (by decide) hf (show (nc + 17) ≤ 240 by omega) (show (ns + 102) ≤ 1440 by omega) dL_isEvening_176
      have h116 : ∀ (a1 : Int32) (a2 : Int32) (a4 : Int64) (σ : xSt) (H : Heap) (locs : List Loc) (ls : Array Slot) (nc ns : Nat), xw E A s.heap s σ H locs → lv_has ls 7 [(0, .ref (E.a 52)), (1, .int a1), (2, .int a2), (4, .long a4)] → fL_isEvening_c116 (fL_isEvening_c11 n11) a1 a2 a4 σ = some (o1, o2) → nc + (37 + 48 * n11) ≤ 240 → ns + (222 + 288 * n11) ≤ 1440 → W p l e rmL_isEvening s m args below meth c H locs nc ns (MQ below (xQi E A o1 o2) args s 240 1440 A) (F0 m 116 ls []) := by
        intro a1 a2 a4 σ H locs ls nc ns hw hl hf hnc hns
        unfold fL_isEvening_c116 at hf
        refine lv_aload_n hx hb dL_isEvening_116 rfl (lv_at hl 0 rfl) ?_
        refine x_getr hx hb hw (cL52 hE) (own := RL) (ref := RL) (C := RL) (T := TL) (N := 10) hts hiL hown rfl 1 (by decide) hk34 (fun _ h9 => h9) rfl dL_isEvening_117 ?_
        refine lv_iconst (v := 3) hx hb dL_isEvening_120 (by decide) ?_
        obtain ⟨r20, σ21, hcl, hf⟩ := xc2_f hf
        refine x_callLi (va_runV (As := [.int 3]) (rest := []) ⟨hx, hb, hml, hown, hts⟩ (mX12_next hl0 hE 3 σ r20 σ21 hcl H.size) (cwV 1 hts gL_isEvening_X12_next rfl rfl rfl (by decide +kernel) ⟨Nat.le_of_ble_eq_true rfl, Nat.le_of_ble_eq_true rfl⟩) (x_preLV _ hw hA hGL (cL53 hE) rfl) rfl rfl hl.1 rfl (lv_room (Nat.le_of_ble_eq_true rfl)) dL_isEvening_121 ⟨show nc + 0 ≤ 240 by omega, show ns + 0 ≤ 1440 by omega⟩) hw hA (fun H locs hw => ?_)
        clear hcl
        refine lv_if_ne (tgt := 140) hx hb dL_isEvening_124 (by decide) (fun c124 => ?_) (fun c124 => ?_)
        · replace hf := xif_neg c124 hf
          refine lv_aload_n hx hb dL_isEvening_140 rfl (lv_at hl 0 rfl) ?_
          refine x_getr hx hb hw (cL52 hE) (own := RL) (ref := RL) (C := RL) (T := TL) (N := 10) hts hiL hown rfl 0 (by decide) hk10 (fun _ h9 => h9) rfl dL_isEvening_141 ?_
          obtain ⟨r22, τ9, hcl, hf⟩ := xcm_g hf
          refine x_calli (va_runV (As := []) (rest := []) ⟨hx, hb, hml, hown, hts⟩ (mX11_endDay (E := xCut E σ21) rfl  σ21 r22 τ9 hcl H.size) (cwV 0 hts gL_isEvening_X11_endDay rfl rfl rfl (by decide +kernel) ⟨Nat.le_of_ble_eq_true rfl, Nat.le_of_ble_eq_true rfl⟩) (x_preV _ (xw_cut hE hw) hA hG (cX0 (E := xCut E σ21) rfl) rfl) rfl rfl hl.1 rfl (lv_room (Nat.le_of_ble_eq_true rfl)) dL_isEvening_144 ⟨show (nc + 0) + 0 ≤ 240 by omega, show (ns + 0) + 0 ≤ 1440 by omega⟩) (xw_cut hE hw) hA (fun H locs hw => ?_)
          obtain ⟨σ23, eρ, hw⟩ := xw_unc2 hE hw
          replace hf := hf σ23 eρ
          clear eρ hcl
          refine lv_istore (lv' := [(6, .int r22), (0, .ref (E.a 52)), (1, .int a1), (2, .int a2), (4, .long a4)]) hx hb dL_isEvening_147 hl (by decide) rfl (fun ls hl => ?_)
          refine lv_iload hx hb dL_isEvening_149 (lv_at hl 0 rfl) ?_
          refine lv_if_lt (tgt := 166) hx hb dL_isEvening_151 (by decide) (fun c151 => ?_) (fun c151 => ?_)
          · replace hf := xif_pos c151 hf
            refine lv_iconst (v := 0) hx hb dL_isEvening_166 (by decide) ?_
            exact x_Lzretc hx hb hr hlk hw (by decide) hf (show (nc + 0) ≤ 240 by omega) (show (ns + 0) ≤ 1440 by omega) dL_isEvening_167
          · replace hf := xif_neg c151 hf
            refine lv_aload_n hx hb dL_isEvening_154 rfl (lv_at hl 1 rfl) ?_
            refine x_getr hx hb hw (cL52 hE) (own := RL) (ref := RL) (C := RL) (T := TL) (N := 10) hts hiL hown rfl 0 (by decide) hk10 (fun _ h9 => h9) rfl dL_isEvening_155 ?_
            refine lv_iload_n hx hb dL_isEvening_158 rfl (lv_at hl 3 rfl) ?_
            refine lv_iconst (v := 0) hx hb dL_isEvening_159 (by decide) ?_
            obtain ⟨r24, τ9, hcl, hf⟩ := xco_g hf
            refine x_tcallo (vx_runV (As := [.int a2, .int 0]) (rest := []) ⟨hx, hb, hml, hown, hts⟩ (mX11_breads hl0 (E := xCut E σ23) rfl a2 0 σ23 (.inl r24) τ9 hcl H.size) (cwV 2 hts gL_isEvening_X11_breads rfl rfl rfl (by decide +kernel) ⟨Nat.le_of_ble_eq_true rfl, Nat.le_of_ble_eq_true rfl⟩) (x_preV _ (xw_cut hE hw) hA hG (cX0 (E := xCut E σ23) rfl) rfl) rfl rfl hl.1 rfl (lv_room (Nat.le_of_ble_eq_true rfl)) dL_isEvening_160 ⟨show (nc + 0) + 2 ≤ 240 by omega, show (ns + 0) + 12 ≤ 1440 by omega⟩) (xw_cut hE hw) hA (fun H locs hw => ?_)
            obtain ⟨σ25, eρ, hw⟩ := xw_unc2 hE hw
            replace hf := hf σ25 eρ
            clear eρ hcl
            refine lv_if_eq (tgt := 168) hx hb dL_isEvening_163 (by decide) (fun c163 => ?_) (fun c163 => ?_)
            · replace hf := xif_pos c163 hf
              exact h168 a1 a4 σ25 _ _ _ ((nc + 0) + 2) ((ns + 0) + 12) hw (lv_sub hl [1, 2, 4] rfl) hf (by omega) (by omega)
            · replace hf := xif_neg c163 hf
              refine lv_iconst (v := 0) hx hb dL_isEvening_166 (by decide) ?_
              exact x_Lzretc hx hb hr hlk hw (by decide) hf (show ((nc + 0) + 2) ≤ 240 by omega) (show ((ns + 0) + 12) ≤ 1440 by omega) dL_isEvening_167
        · replace hf := xif_pos c124 hf
          refine lv_aload_n hx hb dL_isEvening_127 rfl (lv_at hl 0 rfl) ?_
          refine x_getr hx hb hw (cL52 hE) (own := RL) (ref := RL) (C := RL) (T := TL) (N := 10) hts hiL hown rfl 0 (by decide) hk10 (fun _ h9 => h9) rfl dL_isEvening_128 ?_
          refine lv_iload_n hx hb dL_isEvening_131 rfl (lv_at hl 2 rfl) ?_
          obtain ⟨r26, τ9, hcl, hf⟩ := xco_g hf
          refine x_tcallo (vx_runV (As := [.int a2]) (rest := []) ⟨hx, hb, hml, hown, hts⟩ (mX11_crumble hl0 (E := xCut E σ21) rfl a2 σ21 (.inl r26) τ9 hcl H.size) (cwV 1 hts gL_isEvening_X11_crumble rfl rfl rfl (by decide +kernel) ⟨Nat.le_of_ble_eq_true rfl, Nat.le_of_ble_eq_true rfl⟩) (x_preV _ (xw_cut hE hw) hA hG (cX0 (E := xCut E σ21) rfl) rfl) rfl rfl hl.1 rfl (lv_room (Nat.le_of_ble_eq_true rfl)) dL_isEvening_132 ⟨show (nc + 0) + 1 ≤ 240 by omega, show (ns + 0) + 6 ≤ 1440 by omega⟩) (xw_cut hE hw) hA (fun H locs hw => ?_)
          obtain ⟨σ27, eρ, hw⟩ := xw_unc2 hE hw
          replace hf := hf σ27 eρ
          clear eρ hcl
          refine lv_if_ge (tgt := 168) hx hb dL_isEvening_135 (by decide) (fun c135 => ?_) (fun c135 => ?_)
          · replace hf := xif_pos c135 hf
            exact h168 a1 a4 σ27 _ _ _ ((nc + 0) + 1) ((ns + 0) + 6) hw (lv_sub hl [0, 1, 3] rfl) hf (by omega) (by omega)
          · replace hf := xif_neg c135 hf
            refine lv_iconst (v := 0) hx hb dL_isEvening_138 (by decide) ?_
            exact x_Lzretc hx hb hr hlk hw (by decide) hf (show ((nc + 0) + 1) ≤ 240 by omega) (show ((ns + 0) + 6) ≤ 1440 by omega) dL_isEvening_139
      have h32 : ∀ (n : Nat) (a1 : Int32) (a2 : Int32) (a3 : Int32) (a4 : Int32) (σ : xSt) (H : Heap) (locs : List Loc) (ls : Array Slot) (nc ns : Nat), xw E A s.heap s σ H locs → lv_has ls 7 [(0, .ref (E.a 52)), (1, .int a1), (2, .int a2), (3, .int a3), (4, .int a4)] → fL_isEvening_c32 (fL_isEvening_c11 n11) n a1 a2 a3 a4 σ = some (o1, o2) → nc + (38 + 48 * n11 + 2 * n) ≤ 240 → ns + (228 + 288 * n11 + 12 * n) ≤ 1440 → W p l e rmL_isEvening s m args below meth c H locs nc ns (MQ below (xQi E A o1 o2) args s 240 1440 A) (F0 m 32 ls []) := by
        intro n32
        induction n32 with
        | zero => intro a1 a2 a3 a4 σ H locs ls nc ns hw hl hf hnc hns; exact nomatch hf
        | succ n32 ih32 =>
          intro a1 a2 a3 a4 σ H locs ls nc ns hw hl hf hnc hns
          rw [fL_isEvening_c32_s] at hf
          refine lv_iload hx hb dL_isEvening_32 (lv_at hl 4 rfl) ?_
          refine lv_iconst (v := 4) hx hb dL_isEvening_34 (by decide) ?_
          refine lv_icmp_ge (tgt := 57) hx hb dL_isEvening_35 (by decide) (fun c35 => ?_) (fun c35 => ?_)
          · replace hf := xif_pos c35 hf
            refine lv_aload_n hx hb dL_isEvening_57 rfl (lv_at hl 0 rfl) ?_
            refine x_getr hx hb hw (cL52 hE) (own := RL) (ref := RL) (C := RL) (T := TL) (N := 10) hts hiL hown rfl 0 (by decide) hk10 (fun _ h9 => h9) rfl dL_isEvening_58 ?_
            obtain ⟨r6, τ9, hcl, hf⟩ := xcm_g hf
            refine x_calll (va_runV (As := []) (rest := []) ⟨hx, hb, hml, hown, hts⟩ (mX11_checksum (E := xCut E σ) rfl  σ r6 τ9 hcl H.size) (cwV 0 hts gL_isEvening_X11_checksum rfl rfl rfl (by decide +kernel) ⟨Nat.le_of_ble_eq_true rfl, Nat.le_of_ble_eq_true rfl⟩) (x_preV _ (xw_cut hE hw) hA hG (cX0 (E := xCut E σ) rfl) rfl) rfl rfl hl.1 rfl (lv_room (Nat.le_of_ble_eq_true rfl)) dL_isEvening_61 ⟨show nc + 0 ≤ 240 by omega, show ns + 0 ≤ 1440 by omega⟩) (xw_cut hE hw) hA (fun H locs hw => ?_)
            obtain ⟨σ7, eρ, hw⟩ := xw_unc2 hE hw
            replace hf := hf σ7 eρ
            clear eρ hcl
            refine lv_lstore (lv' := [(4, .long r6), (0, .ref (E.a 52)), (1, .int a1), (2, .int a2), (3, .int a3)]) hx hb dL_isEvening_64 hl (by decide) rfl (fun ls hl => ?_)
            refine lv_iload_n hx hb dL_isEvening_66 rfl (lv_at hl 4 rfl) ?_
            refine lv_if_le (tgt := 116) hx hb dL_isEvening_67 (by decide) (fun c67 => ?_) (fun c67 => ?_)
            · replace hf := xif_pos c67 hf
              exact h116 a1 a2 r6 σ7 _ _ _ nc ns hw (lv_sub hl [1, 2, 3, 0] rfl) hf (by omega) (by omega)
            · replace hf := xif_neg c67 hf
              refine lv_aload_n hx hb dL_isEvening_70 rfl (lv_at hl 1 rfl) ?_
              refine x_getr hx hb hw (cL52 hE) (own := RL) (ref := RL) (C := RL) (T := TL) (N := 10) hts hiL hown rfl 1 (by decide) hk34 (fun _ h9 => h9) rfl dL_isEvening_71 ?_
              refine lv_iconst (v := 2) hx hb dL_isEvening_74 (by decide) ?_
              obtain ⟨r8, σ9, hcl, hf⟩ := xc2_f hf
              refine x_callLi (va_runV (As := [.int 2]) (rest := []) ⟨hx, hb, hml, hown, hts⟩ (mX12_next hl0 hE 2 σ7 r8 σ9 hcl H.size) (cwV 1 hts gL_isEvening_X12_next rfl rfl rfl (by decide +kernel) ⟨Nat.le_of_ble_eq_true rfl, Nat.le_of_ble_eq_true rfl⟩) (x_preLV _ hw hA hGL (cL53 hE) rfl) rfl rfl hl.1 rfl (lv_room (Nat.le_of_ble_eq_true rfl)) dL_isEvening_75 ⟨show nc + 0 ≤ 240 by omega, show ns + 0 ≤ 1440 by omega⟩) hw hA (fun H locs hw => ?_)
              clear hcl
              refine lv_if_ne (tgt := 116) hx hb dL_isEvening_78 (by decide) (fun c78 => ?_) (fun c78 => ?_)
              · replace hf := xif_neg c78 hf
                exact h116 a1 a2 r6 σ9 _ _ _ (nc + 0) (ns + 0) hw (lv_sub hl [1, 2, 3, 0] rfl) hf (by omega) (by omega)
              · replace hf := xif_pos c78 hf
                refine lv_iconst (v := 1) hx hb dL_isEvening_81 (by decide) ?_
                refine lv_aload_n hx hb dL_isEvening_82 rfl (lv_at hl 1 rfl) ?_
                refine x_getr hx hb hw (cL52 hE) (own := RL) (ref := RL) (C := RL) (T := TL) (N := 10) hts hiL hown rfl 1 (by decide) hk34 (fun _ h9 => h9) rfl dL_isEvening_83 ?_
                refine lv_iload_n hx hb dL_isEvening_86 rfl (lv_at hl 4 rfl) ?_
                refine lv_bipush (v := 99) hx hb dL_isEvening_87 (by decide) ?_
                refine va_mmin hx hb (hml.trans hl.1.symm) hown (hts (.methodLink RL 206 Lib.Math.min.name) (by decide +kernel)) (hts (.static Lib.Math.min.name) (by decide +kernel)) (hts (.initialized "java/lang/Math") (by decide +kernel)) (hts (.code Lib.Math.min.name Lib.Math.min.code 2 (some .int)) (by decide +kernel)) (Nat.le_of_ble_eq_true rfl) (Nat.le_of_ble_eq_true rfl) (show (nc + 0) ≤ 240 by omega) (show (ns + 0) ≤ 1440 by omega) dL_isEvening_89 ?_
                refine lv_topi (fun v10 ex => ?_)
                replace hf := xl_f hf v10 ex
                clear ex
                obtain ⟨r11, σ12, hcl, hf⟩ := xc2_f hf
                refine x_callLi (va_runV (As := [.int v10]) (rest := [.int 1]) ⟨hx, hb, hml, hown, hts⟩ (mX12_next hl0 hE v10 σ9 r11 σ12 hcl H.size) (cwV 1 hts gL_isEvening_X12_next rfl rfl rfl (by decide +kernel) ⟨Nat.le_of_ble_eq_true rfl, Nat.le_of_ble_eq_true rfl⟩) (x_preLV _ hw hA hGL (cL53 hE) rfl) rfl rfl hl.1 rfl (lv_room (Nat.le_of_ble_eq_true rfl)) dL_isEvening_92 ⟨show (nc + 0) + 0 ≤ 240 by omega, show (ns + 0) + 0 ≤ 1440 by omega⟩) hw hA (fun H locs hw => ?_)
                clear hcl
                refine lv_iadd hx hb dL_isEvening_95 ?_
                refine lv_topi (fun v13 ex => ?_)
                replace hf := xl_f hf v13 ex
                clear ex
                refine lv_istore (lv' := [(6, .int v13), (4, .long r6), (0, .ref (E.a 52)), (1, .int a1), (2, .int a2), (3, .int a3)]) hx hb dL_isEvening_96 hl (by decide) rfl (fun ls hl => ?_)
                refine lv_aload_n hx hb dL_isEvening_98 rfl (lv_at hl 2 rfl) ?_
                refine x_getr hx hb hw (cL52 hE) (own := RL) (ref := RL) (C := RL) (T := TL) (N := 10) hts hiL hown rfl 0 (by decide) hk10 (fun _ h9 => h9) rfl dL_isEvening_99 ?_
                refine lv_iload_n hx hb dL_isEvening_102 rfl (lv_at hl 4 rfl) ?_
                refine lv_iload hx hb dL_isEvening_103 (lv_at hl 0 rfl) ?_
                obtain ⟨r14, τ9, hcl, hf⟩ := xco_g hf
                refine x_tcallo (vx_runV (As := [.int a2, .int v13]) (rest := []) ⟨hx, hb, hml, hown, hts⟩ (mX11_sell hl0 (E := xCut E σ12) rfl a2 v13 σ12 (.inl r14) τ9 hcl H.size) (cwV 2 hts gL_isEvening_X11_sell rfl rfl rfl (by decide +kernel) ⟨Nat.le_of_ble_eq_true rfl, Nat.le_of_ble_eq_true rfl⟩) (x_preV _ (xw_cut hE hw) hA hG (cX0 (E := xCut E σ12) rfl) rfl) rfl rfl hl.1 rfl (lv_room (Nat.le_of_ble_eq_true rfl)) dL_isEvening_105 ⟨show ((nc + 0) + 0) + 3 ≤ 240 by omega, show ((ns + 0) + 0) + 18 ≤ 1440 by omega⟩) (xw_cut hE hw) hA (fun H locs hw => ?_)
                obtain ⟨σ15, eρ, hw⟩ := xw_unc2 hE hw
                replace hf := hf σ15 eρ
                clear eρ hcl
                refine lv_if_ge (tgt := 113) hx hb dL_isEvening_108 (by decide) (fun c108 => ?_) (fun c108 => ?_)
                · replace hf := xif_pos c108 hf
                  refine lv_goto (tgt := 168) hx hb dL_isEvening_113 (by decide) ?_
                  exact h168 a1 r6 σ15 _ _ _ (((nc + 0) + 0) + 3) (((ns + 0) + 0) + 18) hw (lv_sub hl [2, 3, 1] rfl) hf (by omega) (by omega)
                · replace hf := xif_neg c108 hf
                  refine lv_iconst (v := 0) hx hb dL_isEvening_111 (by decide) ?_
                  exact x_Lzretc hx hb hr hlk hw (by decide) hf (show (((nc + 0) + 0) + 3) ≤ 240 by omega) (show (((ns + 0) + 0) + 18) ≤ 1440 by omega) dL_isEvening_112
          · replace hf := xif_neg c35 hf
            refine lv_iload_n hx hb dL_isEvening_38 rfl (lv_at hl 3 rfl) ?_
            refine lv_aload_n hx hb dL_isEvening_39 rfl (lv_at hl 0 rfl) ?_
            refine x_getr hx hb hw (cL52 hE) (own := RL) (ref := RL) (C := RL) (T := TL) (N := 10) hts hiL hown rfl 0 (by decide) hk10 (fun _ h9 => h9) rfl dL_isEvening_40 ?_
            refine lv_iload_n hx hb dL_isEvening_43 rfl (lv_at hl 2 rfl) ?_
            refine lv_iload hx hb dL_isEvening_44 (lv_at hl 4 rfl) ?_
            obtain ⟨r16, τ9, hcl, hf⟩ := xco_g hf
            refine x_tcallo (vx_runV (As := [.int a2, .int a4]) (rest := [.int a3]) ⟨hx, hb, hml, hown, hts⟩ (mX11_breads hl0 (E := xCut E σ) rfl a2 a4 σ (.inl r16) τ9 hcl H.size) (cwV 2 hts gL_isEvening_X11_breads rfl rfl rfl (by decide +kernel) ⟨Nat.le_of_ble_eq_true rfl, Nat.le_of_ble_eq_true rfl⟩) (x_preV _ (xw_cut hE hw) hA hG (cX0 (E := xCut E σ) rfl) rfl) rfl rfl hl.1 rfl (lv_room (Nat.le_of_ble_eq_true rfl)) dL_isEvening_46 ⟨show nc + 2 ≤ 240 by omega, show ns + 12 ≤ 1440 by omega⟩) (xw_cut hE hw) hA (fun H locs hw => ?_)
            obtain ⟨σ17, eρ, hw⟩ := xw_unc2 hE hw
            replace hf := hf σ17 eρ
            clear eρ hcl
            refine lv_iadd hx hb dL_isEvening_49 ?_
            refine lv_topi (fun v18 ex => ?_)
            replace hf := xl_f hf v18 ex
            clear ex
            refine lv_istore_n (lv' := [(3, .int v18), (0, .ref (E.a 52)), (1, .int a1), (2, .int a2), (4, .int a4)]) hx hb dL_isEvening_50 rfl hl (by decide) rfl (fun ls hl => ?_)
            obtain ⟨v19, ex⟩ : ∃ y : Int32, y = (a4 + 1) := ⟨_, rfl⟩
            replace hf := xl_f hf v19 ex
            refine lv_iinc (v := v19) (lv' := [(4, .int v19), (3, .int v18), (0, .ref (E.a 52)), (1, .int a1), (2, .int a2)]) hx hb dL_isEvening_51 hl (k := 4) rfl (by rw [ex]; rfl) (by decide) rfl (fun ls hl => ?_)
            clear ex
            refine lv_goto (tgt := 32) hx hb dL_isEvening_54 (by decide) ?_
            exact ih32 a1 a2 v18 v19 σ17 _ _ _ (nc + 2) (ns + 12) hw (lv_sub hl [2, 3, 4, 1, 0] rfl) hf (by omega) (by omega)
      intro a1 σ H locs ls nc ns hw hl hf hnc hns
      rw [fL_isEvening_c11_s] at hf
      refine lv_iload_n hx hb dL_isEvening_11 rfl (lv_at hl 1 rfl) ?_
      refine lv_if_le (tgt := 226) hx hb dL_isEvening_12 (by decide) (fun c12 => ?_) (fun c12 => ?_)
      · replace hf := xif_pos c12 hf
        refine lv_iconst (v := 1) hx hb dL_isEvening_226 (by decide) ?_
        exact x_Lzretc hx hb hr hlk hw (by decide) hf (show nc ≤ 240 by omega) (show ns ≤ 1440 by omega) dL_isEvening_227
      · replace hf := xif_neg c12 hf
        refine lv_aload_n hx hb dL_isEvening_15 rfl (lv_at hl 0 rfl) ?_
        refine x_getr hx hb hw (cL52 hE) (own := RL) (ref := RL) (C := RL) (T := TL) (N := 10) hts hiL hown rfl 1 (by decide) hk34 (fun _ h9 => h9) rfl dL_isEvening_16 ?_
        refine lv_aload_n hx hb dL_isEvening_19 rfl (lv_at hl 0 rfl) ?_
        refine x_geti hx hb hw (cL52 hE) (own := RL) (ref := RL) (C := RL) (T := TL) (N := 10) hts hiL hown rfl 2 (by decide) hk62 (fun _ h9 => h9) rfl dL_isEvening_20 ?_
        obtain ⟨r4, σ5, hcl, hf⟩ := xc2_f hf
        refine x_callLi (va_runV (As := [.int (σ 52 2)]) (rest := []) ⟨hx, hb, hml, hown, hts⟩ (mX12_next hl0 hE (σ 52 2) σ r4 σ5 hcl H.size) (cwV 1 hts gL_isEvening_X12_next rfl rfl rfl (by decide +kernel) ⟨Nat.le_of_ble_eq_true rfl, Nat.le_of_ble_eq_true rfl⟩) (x_preLV _ hw hA hGL (cL53 hE) rfl) rfl rfl hl.1 rfl (lv_room (Nat.le_of_ble_eq_true rfl)) dL_isEvening_23 ⟨show nc + 0 ≤ 240 by omega, show ns + 0 ≤ 1440 by omega⟩) hw hA (fun H locs hw => ?_)
        clear hcl
        refine lv_istore_n (lv' := [(2, .int r4), (0, .ref (E.a 52)), (1, .int a1)]) hx hb dL_isEvening_26 rfl hl (by decide) rfl (fun ls hl => ?_)
        refine lv_iconst (v := 0) hx hb dL_isEvening_27 (by decide) ?_
        refine lv_istore_n (lv' := [(3, .int 0), (2, .int r4), (0, .ref (E.a 52)), (1, .int a1)]) hx hb dL_isEvening_28 rfl hl (by decide) rfl (fun ls hl => ?_)
        refine lv_iconst (v := 0) hx hb dL_isEvening_29 (by decide) ?_
        refine lv_istore (lv' := [(4, .int 0), (3, .int 0), (2, .int r4), (0, .ref (E.a 52)), (1, .int a1)]) hx hb dL_isEvening_30 hl (by decide) rfl (fun ls hl => ?_)
        exact h32 xF5 a1 r4 0 0 σ5 _ _ _ (nc + 0) (ns + 0) hw (lv_sub hl [3, 4, 2, 1, 0] rfl) hf (by omega) (by omega)
  refine lv_iconst (v := 1) hx hb dL_isEvening_0 (by decide) ?_
  refine lv_aload_n hx hb dL_isEvening_1 rfl (lv_at hl 0 rfl) ?_
  refine x_getr hx hb hw (cL52 hE) (own := RL) (ref := RL) (C := RL) (T := TL) (N := 10) hts hiL hown rfl 1 (by decide) hk34 (fun _ h9 => h9) rfl dL_isEvening_2 ?_
  refine lv_iconst (v := 4) hx hb dL_isEvening_5 (by decide) ?_
  obtain ⟨r1, σ2, hcl, hf⟩ := xc2_f hf
  refine x_callLi (va_runV (As := [.int 4]) (rest := [.int 1]) ⟨hx, hb, hml, hown, hts⟩ (mX12_next hl0 hE 4 σ r1 σ2 hcl s.heap.size) (cwV 1 hts gL_isEvening_X12_next rfl rfl rfl (by decide +kernel) ⟨Nat.le_of_ble_eq_true rfl, Nat.le_of_ble_eq_true rfl⟩) (x_preLV _ hw hA hGL (cL53 hE) rfl) rfl rfl hl.1 rfl (lv_room (Nat.le_of_ble_eq_true rfl)) dL_isEvening_6 ⟨show 0 + 0 ≤ 240 by omega, show 0 + 0 ≤ 1440 by omega⟩) hw hA (fun H locs hw => ?_)
  clear hcl
  refine lv_iadd hx hb dL_isEvening_9 ?_
  refine lv_topi (fun v3 ex => ?_)
  replace hf := xl_f hf v3 ex
  clear ex
  refine lv_istore_n (lv' := [(1, .int v3), (0, .ref (E.a 52))]) hx hb dL_isEvening_10 rfl hl (by decide) rfl (fun ls hl => ?_)
  exact h11 xF5 v3 σ2 _ _ _ (0 + 0) (0 + 0) hw (lv_sub hl [1, 0] rfl) hf (by omega) (by omega)
