def fL_isDay_c470 (k69 : (Int32 → xSt → Option (Int32 × xSt))) (a1 : Int32) (σ : xSt) : Option (Int32 × xSt) := (xcm (fX11_doughCount σ) σ fun r59 σ60 => (if r59 = (σ60 52 3) then (xc2 (fL_isKept σ60) fun r61 σ62 => (if r61 = 0 then some (0, σ62) else (xc2 (fL_isPlanned σ62) fun r63 σ64 => (if r63 = 0 then some (0, σ64) else (xl (a1 + (-1)) fun v65 => k69 v65 σ64))))) else some (0, σ60)))
def fL_isDay_c335 (k69 : (Int32 → xSt → Option (Int32 × xSt))) : Nat → Int32 → Int32 → xSt → Option (Int32 × xSt)
  | 0 => fun _ _ _ => none
  | n + 1 => fun a1 a3 σ => (if (σ 52 3) ≤ a3 then fL_isDay_c470 k69 a1 σ else (xc2 (fL_baked a3 σ) fun r47 σ48 => (xco (fX11_doughAt a3 0 σ48) σ48 fun r49 σ50 => (xco (fX11_doughAt a3 2 σ50) σ50 fun r51 σ52 => (if r47 = (-1) then (xl (a3 + 1) fun v53 => fL_isDay_c335 k69 n a1 v53 σ52) else (xcm (fX11_now σ52) σ52 fun r54 σ55 => (if r47 = (r54 + 10) then (xr σ55 54 4 r49 fun v56 => (if r51 < v56 then some (0, σ55) else (xr σ55 55 4 r49 fun v57 => (if r51 ≤ v57 then (xl (a3 + 1) fun v58 => fL_isDay_c335 k69 n a1 v58 σ55) else some (0, σ55))))) else some (0, σ55))))))))
theorem fL_isDay_c335_s (k69 : (Int32 → xSt → Option (Int32 × xSt))) (n : Nat) (a1 : Int32) (a3 : Int32) (σ : xSt) : fL_isDay_c335 k69 (n + 1) a1 a3 σ = ((if (σ 52 3) ≤ a3 then fL_isDay_c470 k69 a1 σ else (xc2 (fL_baked a3 σ) fun r47 σ48 => (xco (fX11_doughAt a3 0 σ48) σ48 fun r49 σ50 => (xco (fX11_doughAt a3 2 σ50) σ50 fun r51 σ52 => (if r47 = (-1) then (xl (a3 + 1) fun v53 => fL_isDay_c335 k69 n a1 v53 σ52) else (xcm (fX11_now σ52) σ52 fun r54 σ55 => (if r47 = (r54 + 10) then (xr σ55 54 4 r49 fun v56 => (if r51 < v56 then some (0, σ55) else (xr σ55 55 4 r49 fun v57 => (if r51 ≤ v57 then (xl (a3 + 1) fun v58 => fL_isDay_c335 k69 n a1 v58 σ55) else some (0, σ55))))) else some (0, σ55)))))))) : Option (Int32 × xSt)) := rfl
def fL_isDay_c327 (k69 : (Int32 → xSt → Option (Int32 × xSt))) (a1 : Int32) (a2 : Int32) (σ : xSt) : Option (Int32 × xSt) := (if a2 = 6 then fL_isDay_c335 k69 xF17 a1 0 σ else (if a2 = 7 then (if (σ 52 3) ≤ 0 then fL_isDay_c470 k69 a1 σ else (xc2 (fX12_next (σ 52 3) σ) fun r43 σ44 => (xco (fX11_doughAt r43 4 σ44) σ44 fun r45 σ46 => (if 50 ≤ r45 then fL_isDay_c470 k69 a1 σ46 else some (0, σ46))))) else fL_isDay_c470 k69 a1 σ))
def fL_isDay_c324 (k69 : (Int32 → xSt → Option (Int32 × xSt))) (a1 : Int32) (σ : xSt) : Option (Int32 × xSt) := fL_isDay_c470 k69 a1 σ
def fL_isDay_c283 (k69 : (Int32 → xSt → Option (Int32 × xSt))) (a1 : Int32) (a3 : Int32) (a5 : Int32) (t0 : Int32) (σ : xSt) : Option (Int32 × xSt) := (if t0 = 0 then fL_isDay_c324 k69 a1 σ else (xco (fX11_shape a3 σ) σ fun r37 σ38 => (if r37 = a5 then (xco (fX11_doughAt a3 5 σ38) σ38 fun r39 σ40 => (xcm (fX11_now σ40) σ40 fun r41 σ42 => (if r39 = r41 then fL_isDay_c324 k69 a1 σ42 else some (0, σ42)))) else some (0, σ38))))
def fL_isDay_c282 (k69 : (Int32 → xSt → Option (Int32 × xSt))) (a1 : Int32) (a3 : Int32) (a5 : Int32) (σ : xSt) : Option (Int32 × xSt) := fL_isDay_c283 k69 a1 a3 a5 0 σ
def fL_isDay_c173 (k69 : (Int32 → xSt → Option (Int32 × xSt))) (a1 : Int32) (a3 : Int32) (t0 : Int32) (σ : xSt) : Option (Int32 × xSt) := (xco (fX11_pass t0 σ) σ fun r35 σ36 => (if r35 = (a3 + t0) then fL_isDay_c470 k69 a1 σ36 else some (0, σ36)))
def fL_isDay_c69 : Nat → Int32 → xSt → Option (Int32 × xSt)
  | 0 => fun _ _ => none
  | n + 1 => fun a1 σ => (if a1 ≤ 0 then some (1, σ) else (xc2 (fX12_next 8 σ) fun r12 σ13 => (if 3 ≤ r12 then (if 5 ≤ r12 then (if r12 = 5 then (if (σ13 52 3) ≤ 0 then fL_isDay_c327 (fL_isDay_c69 n) a1 r12 σ13 else (xc2 (fX12_next (σ13 52 3) σ13) fun r14 σ15 => (xco (fX11_doughAt r14 0 σ15) σ15 fun r16 σ17 => (xco (fX11_doughAt r14 2 σ17) σ17 fun r18 σ19 => (xco (fX11_doughAt r14 3 σ19) σ19 fun r20 σ21 => (if r20 = 0 then (xr σ21 54 4 r16 fun v22 => (if r18 < v22 then fL_isDay_c282 (fL_isDay_c69 n) a1 r14 r18 σ21 else (xr σ21 55 4 r16 fun v23 => (if v23 < r18 then fL_isDay_c282 (fL_isDay_c69 n) a1 r14 r18 σ21 else fL_isDay_c283 (fL_isDay_c69 n) a1 r14 r18 1 σ21)))) else fL_isDay_c282 (fL_isDay_c69 n) a1 r14 r18 σ21)))))) else fL_isDay_c327 (fL_isDay_c69 n) a1 r12 σ13) else (xcm (fX11_now σ13) σ13 fun r24 σ25 => (if r12 = 3 then fL_isDay_c173 (fL_isDay_c69 n) a1 r24 (10 - (r24 - r24 / 10 * 10)) σ25 else (xc2 (fX12_next 12 σ25) fun r26 σ27 => fL_isDay_c173 (fL_isDay_c69 n) a1 r24 (1 + r26) σ27)))) else (xc2 (fX12_next (σ13 52 2) σ13) fun r28 σ29 => (xc2 (fX12_next 8 σ29) fun r30 σ31 => (xc2 (fL_mixed r28 (1 + r30) σ31) fun r32 σ33 => (if r32 = (-1) then fL_isDay_c470 (fL_isDay_c69 n) a1 σ33 else (xp σ33 52 3 ((σ33 52 3) + 1) fun σ34 => fL_isDay_c470 (fL_isDay_c69 n) a1 σ34))))))))
theorem fL_isDay_c69_s (n : Nat) (a1 : Int32) (σ : xSt) : fL_isDay_c69 (n + 1) a1 σ = ((if a1 ≤ 0 then some (1, σ) else (xc2 (fX12_next 8 σ) fun r12 σ13 => (if 3 ≤ r12 then (if 5 ≤ r12 then (if r12 = 5 then (if (σ13 52 3) ≤ 0 then fL_isDay_c327 (fL_isDay_c69 n) a1 r12 σ13 else (xc2 (fX12_next (σ13 52 3) σ13) fun r14 σ15 => (xco (fX11_doughAt r14 0 σ15) σ15 fun r16 σ17 => (xco (fX11_doughAt r14 2 σ17) σ17 fun r18 σ19 => (xco (fX11_doughAt r14 3 σ19) σ19 fun r20 σ21 => (if r20 = 0 then (xr σ21 54 4 r16 fun v22 => (if r18 < v22 then fL_isDay_c282 (fL_isDay_c69 n) a1 r14 r18 σ21 else (xr σ21 55 4 r16 fun v23 => (if v23 < r18 then fL_isDay_c282 (fL_isDay_c69 n) a1 r14 r18 σ21 else fL_isDay_c283 (fL_isDay_c69 n) a1 r14 r18 1 σ21)))) else fL_isDay_c282 (fL_isDay_c69 n) a1 r14 r18 σ21)))))) else fL_isDay_c327 (fL_isDay_c69 n) a1 r12 σ13) else (xcm (fX11_now σ13) σ13 fun r24 σ25 => (if r12 = 3 then fL_isDay_c173 (fL_isDay_c69 n) a1 r24 (10 - (r24 - r24 / 10 * 10)) σ25 else (xc2 (fX12_next 12 σ25) fun r26 σ27 => fL_isDay_c173 (fL_isDay_c69 n) a1 r24 (1 + r26) σ27)))) else (xc2 (fX12_next (σ13 52 2) σ13) fun r28 σ29 => (xc2 (fX12_next 8 σ29) fun r30 σ31 => (xc2 (fL_mixed r28 (1 + r30) σ31) fun r32 σ33 => (if r32 = (-1) then fL_isDay_c470 (fL_isDay_c69 n) a1 σ33 else (xp σ33 52 3 ((σ33 52 3) + 1) fun σ34 => fL_isDay_c470 (fL_isDay_c69 n) a1 σ34)))))))) : Option (Int32 × xSt)) := rfl
def fL_isDay (σ : xSt) : Option (Int32 × xSt) := (xc2 (fX12_next 30 σ) fun r1 σ2 => (xco (fX11_setHeat (100 + r1) σ2) σ2 fun r3 σ4 => (if r3 < 20 then some (0, σ4) else (xco (fX11_setDecks (σ4 52 4) σ4) σ4 fun r5 σ6 => (if r5 < 1 then some (0, σ6) else (xco (fX11_setWarmth (σ6 52 5) σ6) σ6 fun r7 σ8 => (if r7 = 2 then (xc2 (fX12_next 10 σ8) fun r9 σ10 => (xl (6 + r9) fun v11 => fL_isDay_c69 xF17 v11 σ10)) else some (0, σ8))))))))
abbrev rmL_isDay : Room := { frames := 11, cells := 5800, slots := 33780, locals := 209 }
set_option maxRecDepth 100000 in
set_option maxHeartbeats 8000000 in
theorem mL_isDay {l : Launch} (hl0 : l.stackTraces = false) {E : xE} (hE : xLE E) (σ : xSt) (o1 : Int32) (o2 : xSt) (hf : fL_isDay σ = some (o1, o2)) : xLi l yL_isDay wsL_isDay rmL_isDay E [.ref (E.a 52)] σ o1 o2 5800 33780 := by
  unfold fL_isDay at hf
  refine xLi_of (cc := cL_isDay) (maxL := 7) (ret := (some .boolean)) (by decide) rfl (Nat.le_of_ble_eq_true rfl) ?_
  intro p e s m args below meth c A ls ⟨hx, hb, hr, hml, hown, hts, hlk⟩ hA hGL hw hl
  have hG := hGL.1
  have eF17 : xF17 = 17 := rfl
  have hown : s.vm.findClass RL = some m.cls := hown
  have hl : lv_has ls 7 [(0, .ref (E.a 52))] := hl
  have hk10 := hts (.fieldLink RL 10 "OvenRoundLaw" "o" "LOvenRound;") (by decide +kernel)
  have hiL : ∀ w ∈ wsL0, w ∈ wsL_isDay := by decide +kernel
  have hk34 := hts (.fieldLink RL 34 "OvenRoundLaw" "d" "LOvenRoundLaw$Draws;") (by decide +kernel)
  have hk160 := hts (.fieldLink RL 160 "OvenRoundLaw" "decks" "I") (by decide +kernel)
  have hk139 := hts (.fieldLink RL 139 "OvenRoundLaw" "warmth" "I") (by decide +kernel)
  have hk143 := hts (.fieldLink RL 143 "OvenRoundLaw" "doughs" "I") (by decide +kernel)
  have hk16 := hts (.fieldLink RL 16 "OvenRoundLaw" "low" "[I") (by decide +kernel)
  have hk20 := hts (.fieldLink RL 20 "OvenRoundLaw" "high" "[I") (by decide +kernel)
  have hk62 := hts (.fieldLink RL 62 "OvenRoundLaw" "recipes" "I") (by decide +kernel)
  have h69 : ∀ (n : Nat) (a1 : Int32) (σ : xSt) (H : Heap) (locs : List Loc) (ls : Array Slot) (nc ns : Nat), xw E A s.heap s σ H locs → lv_has ls 7 [(0, .ref (E.a 52)), (1, .int a1)] → fL_isDay_c69 n a1 σ = some (o1, o2) → nc + (0 + 341 * n) ≤ 5800 → ns + (0 + 1986 * n) ≤ 33780 → W p l e rmL_isDay s m args below meth c H locs nc ns (MQ below (xQi E A o1 o2) args s 5800 33780 A) (F0 m 69 ls []) := by
    intro n69
    induction n69 with
    | zero => intro a1 σ H locs ls nc ns hw hl hf hnc hns; exact nomatch hf
    | succ n69 ih69 =>
      have h470 : ∀ (a1 : Int32) (σ : xSt) (H : Heap) (locs : List Loc) (ls : Array Slot) (nc ns : Nat), xw E A s.heap s σ H locs → lv_has ls 7 [(0, .ref (E.a 52)), (1, .int a1)] → fL_isDay_c470 (fL_isDay_c69 n69) a1 σ = some (o1, o2) → nc + (239 + 341 * n69) ≤ 5800 → ns + (1374 + 1986 * n69) ≤ 33780 → W p l e rmL_isDay s m args below meth c H locs nc ns (MQ below (xQi E A o1 o2) args s 5800 33780 A) (F0 m 470 ls []) := by
        intro a1 σ H locs ls nc ns hw hl hf hnc hns
        unfold fL_isDay_c470 at hf
        refine lv_aload_n hx hb dL_isDay_470 rfl (lv_at hl 0 rfl) ?_
        refine x_getr hx hb hw (cL52 hE) (own := RL) (ref := RL) (C := RL) (T := TL) (N := 10) hts hiL hown rfl 0 (by decide) hk10 (fun _ h9 => h9) rfl dL_isDay_471 ?_
        obtain ⟨r59, τ9, hcl, hf⟩ := xcm_g hf
        refine x_calli (va_runV (As := []) (rest := []) ⟨hx, hb, hml, hown, hts⟩ (mX11_doughCount (E := xCut E σ) rfl  σ r59 τ9 hcl H.size) (cwV 0 hts gL_isDay_X11_doughCount rfl rfl rfl (by decide +kernel) ⟨Nat.le_of_ble_eq_true rfl, Nat.le_of_ble_eq_true rfl⟩) (x_preV _ (xw_cut hE hw) hA hG (cX0 (E := xCut E σ) rfl) rfl) rfl rfl hl.1 rfl (lv_room (Nat.le_of_ble_eq_true rfl)) dL_isDay_474 ⟨show nc + 0 ≤ 5800 by omega, show ns + 0 ≤ 33780 by omega⟩) (xw_cut hE hw) hA (fun H locs hw => ?_)
        obtain ⟨σ60, eρ, hw⟩ := xw_unc2 hE hw
        replace hf := hf σ60 eρ
        clear eρ hcl
        refine lv_aload_n hx hb dL_isDay_477 rfl (lv_at hl 0 rfl) ?_
        refine x_geti hx hb hw (cL52 hE) (own := RL) (ref := RL) (C := RL) (T := TL) (N := 10) hts hiL hown rfl 3 (by decide) hk143 (fun _ h9 => h9) rfl dL_isDay_478 ?_
        refine lv_icmp_ne (tgt := 498) hx hb dL_isDay_481 (by decide) (fun c481 => ?_) (fun c481 => ?_)
        · replace hf := xif_neg c481 hf
          refine lv_iconst (v := 0) hx hb dL_isDay_498 (by decide) ?_
          exact x_Lzretc hx hb hr hlk hw (by decide) hf (show nc ≤ 5800 by omega) (show ns ≤ 33780 by omega) dL_isDay_499
        · replace hf := xif_pos c481 hf
          refine lv_aload_n hx hb dL_isDay_484 rfl (lv_at hl 0 rfl) ?_
          obtain ⟨r61, σ62, hcl, hf⟩ := xc2_f hf
          refine x_callLi (va_runV (As := []) (rest := []) ⟨hx, hb, hml, hown, hts⟩ (mL_isKept hl0 hE σ60 r61 σ62 hcl H.size) (cwV 0 hts gL_isDay_L_isKept rfl rfl rfl (by decide +kernel) ⟨Nat.le_of_ble_eq_true rfl, Nat.le_of_ble_eq_true rfl⟩) (x_preLV _ hw hA hGL (cL52 hE) rfl) rfl rfl hl.1 rfl (lv_room (Nat.le_of_ble_eq_true rfl)) dL_isDay_485 ⟨show nc + 17 ≤ 5800 by omega, show ns + 102 ≤ 33780 by omega⟩) hw hA (fun H locs hw => ?_)
          clear hcl
          refine lv_if_eq (tgt := 498) hx hb dL_isDay_488 (by decide) (fun c488 => ?_) (fun c488 => ?_)
          · replace hf := xif_pos c488 hf
            refine lv_iconst (v := 0) hx hb dL_isDay_498 (by decide) ?_
            exact x_Lzretc hx hb hr hlk hw (by decide) hf (show (nc + 17) ≤ 5800 by omega) (show (ns + 102) ≤ 33780 by omega) dL_isDay_499
          · replace hf := xif_neg c488 hf
            refine lv_aload_n hx hb dL_isDay_491 rfl (lv_at hl 0 rfl) ?_
            obtain ⟨r63, σ64, hcl, hf⟩ := xc2_f hf
            refine x_callLi (va_runV (As := []) (rest := []) ⟨hx, hb, hml, hown, hts⟩ (mL_isPlanned hl0 hE σ62 r63 σ64 hcl H.size) (cwV 0 hts gL_isDay_L_isPlanned rfl rfl rfl (by decide +kernel) ⟨Nat.le_of_ble_eq_true rfl, Nat.le_of_ble_eq_true rfl⟩) (x_preLV _ hw hA hGL (cL52 hE) rfl) rfl rfl hl.1 rfl (lv_room (Nat.le_of_ble_eq_true rfl)) dL_isDay_492 ⟨show (nc + 17) + 222 ≤ 5800 by omega, show (ns + 102) + 1272 ≤ 33780 by omega⟩) hw hA (fun H locs hw => ?_)
            clear hcl
            refine lv_if_ne (tgt := 500) hx hb dL_isDay_495 (by decide) (fun c495 => ?_) (fun c495 => ?_)
            · replace hf := xif_neg c495 hf
              obtain ⟨v65, ex⟩ : ∃ y : Int32, y = (a1 + (-1)) := ⟨_, rfl⟩
              replace hf := xl_f hf v65 ex
              refine lv_iinc (v := v65) (lv' := [(1, .int v65), (0, .ref (E.a 52))]) hx hb dL_isDay_500 hl (k := 1) rfl (by rw [ex]; rfl) (by decide) rfl (fun ls hl => ?_)
              clear ex
              refine lv_goto (tgt := 69) hx hb dL_isDay_503 (by decide) ?_
              exact ih69 v65 σ64 _ _ _ ((nc + 17) + 222) ((ns + 102) + 1272) hw (lv_sub hl [1, 0] rfl) hf (by omega) (by omega)
            · replace hf := xif_pos c495 hf
              refine lv_iconst (v := 0) hx hb dL_isDay_498 (by decide) ?_
              exact x_Lzretc hx hb hr hlk hw (by decide) hf (show ((nc + 17) + 222) ≤ 5800 by omega) (show ((ns + 102) + 1272) ≤ 33780 by omega) dL_isDay_499
      have h335 : ∀ (n : Nat) (a1 : Int32) (a3 : Int32) (σ : xSt) (H : Heap) (locs : List Loc) (ls : Array Slot) (nc ns : Nat), xw E A s.heap s σ H locs → lv_has ls 7 [(0, .ref (E.a 52)), (1, .int a1), (3, .int a3)] → fL_isDay_c335 (fL_isDay_c69 n69) n a1 a3 σ = some (o1, o2) → nc + (239 + 341 * n69 + 6 * n) ≤ 5800 → ns + (1374 + 1986 * n69 + 36 * n) ≤ 33780 → W p l e rmL_isDay s m args below meth c H locs nc ns (MQ below (xQi E A o1 o2) args s 5800 33780 A) (F0 m 335 ls []) := by
        intro n335
        induction n335 with
        | zero => intro a1 a3 σ H locs ls nc ns hw hl hf hnc hns; exact nomatch hf
        | succ n335 ih335 =>
          intro a1 a3 σ H locs ls nc ns hw hl hf hnc hns
          rw [fL_isDay_c335_s] at hf
          refine lv_iload_n hx hb dL_isDay_335 rfl (lv_at hl 2 rfl) ?_
          refine lv_aload_n hx hb dL_isDay_336 rfl (lv_at hl 0 rfl) ?_
          refine x_geti hx hb hw (cL52 hE) (own := RL) (ref := RL) (C := RL) (T := TL) (N := 10) hts hiL hown rfl 3 (by decide) hk143 (fun _ h9 => h9) rfl dL_isDay_337 ?_
          refine lv_icmp_ge (tgt := 428) hx hb dL_isDay_340 (by decide) (fun c340 => ?_) (fun c340 => ?_)
          · replace hf := xif_pos c340 hf
            refine lv_goto (tgt := 470) hx hb dL_isDay_428 (by decide) ?_
            exact h470 a1 σ _ _ _ nc ns hw (lv_sub hl [0, 1] rfl) hf (by omega) (by omega)
          · replace hf := xif_neg c340 hf
            refine lv_aload_n hx hb dL_isDay_343 rfl (lv_at hl 0 rfl) ?_
            refine x_getr hx hb hw (cL52 hE) (own := RL) (ref := RL) (C := RL) (T := TL) (N := 10) hts hiL hown rfl 0 (by decide) hk10 (fun _ h9 => h9) rfl dL_isDay_344 ?_
            refine lv_iload_n hx hb dL_isDay_347 rfl (lv_at hl 2 rfl) ?_
            obtain ⟨r47, σ48, hcl, hf⟩ := xc2_f hf
            refine x_callLx (vx_runSX (hh := [(0, 5, 6, 125)]) (As := [.ref (E.a 0), .int a3]) (rest := []) ⟨hx, hb, hml, hown, hts⟩ (mL_baked hl0 hE a3 σ r47 σ48 hcl H.size) (vx_cwSW 2 hts gL_isDay_L_baked rfl rfl rfl (by decide +kernel) ⟨Nat.le_of_ble_eq_true rfl, Nat.le_of_ble_eq_true rfl⟩) (x_preLS _ hw hA hGL) rfl rfl hl.1 rfl (lv_room (Nat.le_of_ble_eq_true rfl)) dL_isDay_348 ⟨show nc + 2 ≤ 5800 by omega, show ns + 12 ≤ 33780 by omega⟩) hw hA (fun H locs hw => ?_)
            clear hcl
            refine lv_istore (lv' := [(4, .int r47), (0, .ref (E.a 52)), (1, .int a1), (3, .int a3)]) hx hb dL_isDay_351 hl (by decide) rfl (fun ls hl => ?_)
            refine lv_aload_n hx hb dL_isDay_353 rfl (lv_at hl 1 rfl) ?_
            refine x_getr hx hb hw (cL52 hE) (own := RL) (ref := RL) (C := RL) (T := TL) (N := 10) hts hiL hown rfl 0 (by decide) hk10 (fun _ h9 => h9) rfl dL_isDay_354 ?_
            refine lv_iload_n hx hb dL_isDay_357 rfl (lv_at hl 3 rfl) ?_
            refine lv_iconst (v := 0) hx hb dL_isDay_358 (by decide) ?_
            obtain ⟨r49, τ9, hcl, hf⟩ := xco_g hf
            refine x_tcallo (vx_runV (As := [.int a3, .int 0]) (rest := []) ⟨hx, hb, hml, hown, hts⟩ (mX11_doughAt hl0 (E := xCut E σ48) rfl a3 0 σ48 (.inl r49) τ9 hcl H.size) (cwV 2 hts gL_isDay_X11_doughAt rfl rfl rfl (by decide +kernel) ⟨Nat.le_of_ble_eq_true rfl, Nat.le_of_ble_eq_true rfl⟩) (x_preV _ (xw_cut hE hw) hA hG (cX0 (E := xCut E σ48) rfl) rfl) rfl rfl hl.1 rfl (lv_room (Nat.le_of_ble_eq_true rfl)) dL_isDay_359 ⟨show (nc + 2) + 2 ≤ 5800 by omega, show (ns + 12) + 12 ≤ 33780 by omega⟩) (xw_cut hE hw) hA (fun H locs hw => ?_)
            obtain ⟨σ50, eρ, hw⟩ := xw_unc2 hE hw
            replace hf := hf σ50 eρ
            clear eρ hcl
            refine lv_istore (lv' := [(5, .int r49), (4, .int r47), (0, .ref (E.a 52)), (1, .int a1), (3, .int a3)]) hx hb dL_isDay_362 hl (by decide) rfl (fun ls hl => ?_)
            refine lv_aload_n hx hb dL_isDay_364 rfl (lv_at hl 2 rfl) ?_
            refine x_getr hx hb hw (cL52 hE) (own := RL) (ref := RL) (C := RL) (T := TL) (N := 10) hts hiL hown rfl 0 (by decide) hk10 (fun _ h9 => h9) rfl dL_isDay_365 ?_
            refine lv_iload_n hx hb dL_isDay_368 rfl (lv_at hl 4 rfl) ?_
            refine lv_iconst (v := 2) hx hb dL_isDay_369 (by decide) ?_
            obtain ⟨r51, τ9, hcl, hf⟩ := xco_g hf
            refine x_tcallo (vx_runV (As := [.int a3, .int 2]) (rest := []) ⟨hx, hb, hml, hown, hts⟩ (mX11_doughAt hl0 (E := xCut E σ50) rfl a3 2 σ50 (.inl r51) τ9 hcl H.size) (cwV 2 hts gL_isDay_X11_doughAt rfl rfl rfl (by decide +kernel) ⟨Nat.le_of_ble_eq_true rfl, Nat.le_of_ble_eq_true rfl⟩) (x_preV _ (xw_cut hE hw) hA hG (cX0 (E := xCut E σ50) rfl) rfl) rfl rfl hl.1 rfl (lv_room (Nat.le_of_ble_eq_true rfl)) dL_isDay_370 ⟨show ((nc + 2) + 2) + 2 ≤ 5800 by omega, show ((ns + 12) + 12) + 12 ≤ 33780 by omega⟩) (xw_cut hE hw) hA (fun H locs hw => ?_)
            obtain ⟨σ52, eρ, hw⟩ := xw_unc2 hE hw
            replace hf := hf σ52 eρ
            clear eρ hcl
            refine lv_istore (lv' := [(6, .int r51), (5, .int r49), (4, .int r47), (0, .ref (E.a 52)), (1, .int a1), (3, .int a3)]) hx hb dL_isDay_373 hl (by decide) rfl (fun ls hl => ?_)
            refine lv_iload hx hb dL_isDay_375 (lv_at hl 2 rfl) ?_
            refine lv_iconst (v := (-1)) hx hb dL_isDay_377 (by decide) ?_
            refine lv_icmp_eq (tgt := 422) hx hb dL_isDay_378 (by decide) (fun c378 => ?_) (fun c378 => ?_)
            · replace hf := xif_pos c378 hf
              obtain ⟨v53, ex⟩ : ∃ y : Int32, y = (a3 + 1) := ⟨_, rfl⟩
              replace hf := xl_f hf v53 ex
              refine lv_iinc (v := v53) (lv' := [(3, .int v53), (6, .int r51), (5, .int r49), (4, .int r47), (0, .ref (E.a 52)), (1, .int a1)]) hx hb dL_isDay_422 hl (k := 5) rfl (by rw [ex]; rfl) (by decide) rfl (fun ls hl => ?_)
              clear ex
              refine lv_goto (tgt := 335) hx hb dL_isDay_425 (by decide) ?_
              exact ih335 a1 v53 σ52 _ _ _ (((nc + 2) + 2) + 2) (((ns + 12) + 12) + 12) hw (lv_sub hl [4, 5, 0] rfl) hf (by omega) (by omega)
            · replace hf := xif_neg c378 hf
              refine lv_iload hx hb dL_isDay_381 (lv_at hl 2 rfl) ?_
              refine lv_aload_n hx hb dL_isDay_383 rfl (lv_at hl 3 rfl) ?_
              refine x_getr hx hb hw (cL52 hE) (own := RL) (ref := RL) (C := RL) (T := TL) (N := 10) hts hiL hown rfl 0 (by decide) hk10 (fun _ h9 => h9) rfl dL_isDay_384 ?_
              obtain ⟨r54, τ9, hcl, hf⟩ := xcm_g hf
              refine x_calli (va_runV (As := []) (rest := [.int r47]) ⟨hx, hb, hml, hown, hts⟩ (mX11_now (E := xCut E σ52) rfl  σ52 r54 τ9 hcl H.size) (cwV 0 hts gL_isDay_X11_now rfl rfl rfl (by decide +kernel) ⟨Nat.le_of_ble_eq_true rfl, Nat.le_of_ble_eq_true rfl⟩) (x_preV _ (xw_cut hE hw) hA hG (cX0 (E := xCut E σ52) rfl) rfl) rfl rfl hl.1 rfl (lv_room (Nat.le_of_ble_eq_true rfl)) dL_isDay_387 ⟨show (((nc + 2) + 2) + 2) + 0 ≤ 5800 by omega, show (((ns + 12) + 12) + 12) + 0 ≤ 33780 by omega⟩) (xw_cut hE hw) hA (fun H locs hw => ?_)
              obtain ⟨σ55, eρ, hw⟩ := xw_unc2 hE hw
              replace hf := hf σ55 eρ
              clear eρ hcl
              refine lv_bipush (v := 10) hx hb dL_isDay_390 (by decide) ?_
              refine lv_iadd hx hb dL_isDay_392 ?_
              refine lv_icmp_ne (tgt := 420) hx hb dL_isDay_393 (by decide) (fun c393 => ?_) (fun c393 => ?_)
              · replace hf := xif_neg c393 hf
                refine lv_iconst (v := 0) hx hb dL_isDay_420 (by decide) ?_
                exact x_Lzretc hx hb hr hlk hw (by decide) hf (show (((nc + 2) + 2) + 2) ≤ 5800 by omega) (show (((ns + 12) + 12) + 12) ≤ 33780 by omega) dL_isDay_421
              · replace hf := xif_pos c393 hf
                refine lv_iload hx hb dL_isDay_396 (lv_at hl 0 rfl) ?_
                refine lv_aload_n hx hb dL_isDay_398 rfl (lv_at hl 3 rfl) ?_
                refine x_getr hx hb hw (cL52 hE) (own := RL) (ref := RL) (C := RL) (T := TL) (N := 10) hts hiL hown rfl 6 (by decide) hk16 (fun _ h9 => h9) rfl dL_isDay_399 ?_
                refine lv_iload hx hb dL_isDay_402 (lv_at hl 1 rfl) ?_
                obtain ⟨hin, hf⟩ := xr_f hf
                refine x_iald hx hb hw (cL54 hE) hin dL_isDay_404 ?_
                refine lv_topi (fun v56 ex => ?_)
                replace hf := hf v56 ex
                clear ex hin
                refine lv_icmp_lt (tgt := 420) hx hb dL_isDay_405 (by decide) (fun c405 => ?_) (fun c405 => ?_)
                · replace hf := xif_pos c405 hf
                  refine lv_iconst (v := 0) hx hb dL_isDay_420 (by decide) ?_
                  exact x_Lzretc hx hb hr hlk hw (by decide) hf (show (((nc + 2) + 2) + 2) ≤ 5800 by omega) (show (((ns + 12) + 12) + 12) ≤ 33780 by omega) dL_isDay_421
                · replace hf := xif_neg c405 hf
                  refine lv_iload hx hb dL_isDay_408 (lv_at hl 0 rfl) ?_
                  refine lv_aload_n hx hb dL_isDay_410 rfl (lv_at hl 3 rfl) ?_
                  refine x_getr hx hb hw (cL52 hE) (own := RL) (ref := RL) (C := RL) (T := TL) (N := 10) hts hiL hown rfl 7 (by decide) hk20 (fun _ h9 => h9) rfl dL_isDay_411 ?_
                  refine lv_iload hx hb dL_isDay_414 (lv_at hl 1 rfl) ?_
                  obtain ⟨hin, hf⟩ := xr_f hf
                  refine x_iald hx hb hw (cL55 hE) hin dL_isDay_416 ?_
                  refine lv_topi (fun v57 ex => ?_)
                  replace hf := hf v57 ex
                  clear ex hin
                  refine lv_icmp_le (tgt := 422) hx hb dL_isDay_417 (by decide) (fun c417 => ?_) (fun c417 => ?_)
                  · replace hf := xif_pos c417 hf
                    obtain ⟨v58, ex⟩ : ∃ y : Int32, y = (a3 + 1) := ⟨_, rfl⟩
                    replace hf := xl_f hf v58 ex
                    refine lv_iinc (v := v58) (lv' := [(3, .int v58), (6, .int r51), (5, .int r49), (4, .int r47), (0, .ref (E.a 52)), (1, .int a1)]) hx hb dL_isDay_422 hl (k := 5) rfl (by rw [ex]; rfl) (by decide) rfl (fun ls hl => ?_)
                    clear ex
                    refine lv_goto (tgt := 335) hx hb dL_isDay_425 (by decide) ?_
                    exact ih335 a1 v58 σ55 _ _ _ (((nc + 2) + 2) + 2) (((ns + 12) + 12) + 12) hw (lv_sub hl [4, 5, 0] rfl) hf (by omega) (by omega)
                  · replace hf := xif_neg c417 hf
                    refine lv_iconst (v := 0) hx hb dL_isDay_420 (by decide) ?_
                    exact x_Lzretc hx hb hr hlk hw (by decide) hf (show (((nc + 2) + 2) + 2) ≤ 5800 by omega) (show (((ns + 12) + 12) + 12) ≤ 33780 by omega) dL_isDay_421
      have h327 : ∀ (a1 : Int32) (a2 : Int32) (σ : xSt) (H : Heap) (locs : List Loc) (ls : Array Slot) (nc ns : Nat), xw E A s.heap s σ H locs → lv_has ls 7 [(0, .ref (E.a 52)), (1, .int a1), (2, .int a2)] → fL_isDay_c327 (fL_isDay_c69 n69) a1 a2 σ = some (o1, o2) → nc + (341 + 341 * n69) ≤ 5800 → ns + (1986 + 1986 * n69) ≤ 33780 → W p l e rmL_isDay s m args below meth c H locs nc ns (MQ below (xQi E A o1 o2) args s 5800 33780 A) (F0 m 327 ls []) := by
        intro a1 a2 σ H locs ls nc ns hw hl hf hnc hns
        unfold fL_isDay_c327 at hf
        refine lv_iload_n hx hb dL_isDay_327 rfl (lv_at hl 2 rfl) ?_
        refine lv_bipush (v := 6) hx hb dL_isDay_328 (by decide) ?_
        refine lv_icmp_ne (tgt := 431) hx hb dL_isDay_330 (by decide) (fun c330 => ?_) (fun c330 => ?_)
        · replace hf := xif_neg c330 hf
          refine lv_iload_n hx hb dL_isDay_431 rfl (lv_at hl 2 rfl) ?_
          refine lv_bipush (v := 7) hx hb dL_isDay_432 (by decide) ?_
          refine lv_icmp_ne (tgt := 470) hx hb dL_isDay_434 (by decide) (fun c434 => ?_) (fun c434 => ?_)
          · replace hf := xif_neg c434 hf
            exact h470 a1 σ _ _ _ nc ns hw (lv_sub hl [0, 1] rfl) hf (by omega) (by omega)
          · replace hf := xif_pos c434 hf
            refine lv_aload_n hx hb dL_isDay_437 rfl (lv_at hl 0 rfl) ?_
            refine x_geti hx hb hw (cL52 hE) (own := RL) (ref := RL) (C := RL) (T := TL) (N := 10) hts hiL hown rfl 3 (by decide) hk143 (fun _ h9 => h9) rfl dL_isDay_438 ?_
            refine lv_if_le (tgt := 470) hx hb dL_isDay_441 (by decide) (fun c441 => ?_) (fun c441 => ?_)
            · replace hf := xif_pos c441 hf
              exact h470 a1 σ _ _ _ nc ns hw (lv_sub hl [0, 1] rfl) hf (by omega) (by omega)
            · replace hf := xif_neg c441 hf
              refine lv_aload_n hx hb dL_isDay_444 rfl (lv_at hl 0 rfl) ?_
              refine x_getr hx hb hw (cL52 hE) (own := RL) (ref := RL) (C := RL) (T := TL) (N := 10) hts hiL hown rfl 0 (by decide) hk10 (fun _ h9 => h9) rfl dL_isDay_445 ?_
              refine lv_aload_n hx hb dL_isDay_448 rfl (lv_at hl 0 rfl) ?_
              refine x_getr hx hb hw (cL52 hE) (own := RL) (ref := RL) (C := RL) (T := TL) (N := 10) hts hiL hown rfl 1 (by decide) hk34 (fun _ h9 => h9) rfl dL_isDay_449 ?_
              refine lv_aload_n hx hb dL_isDay_452 rfl (lv_at hl 0 rfl) ?_
              refine x_geti hx hb hw (cL52 hE) (own := RL) (ref := RL) (C := RL) (T := TL) (N := 10) hts hiL hown rfl 3 (by decide) hk143 (fun _ h9 => h9) rfl dL_isDay_453 ?_
              obtain ⟨r43, σ44, hcl, hf⟩ := xc2_f hf
              refine x_callLi (va_runV (As := [.int (σ 52 3)]) (rest := [.ref (E.a 0)]) ⟨hx, hb, hml, hown, hts⟩ (mX12_next hl0 hE (σ 52 3) σ r43 σ44 hcl H.size) (cwV 1 hts gL_isDay_X12_next rfl rfl rfl (by decide +kernel) ⟨Nat.le_of_ble_eq_true rfl, Nat.le_of_ble_eq_true rfl⟩) (x_preLV _ hw hA hGL (cL53 hE) rfl) rfl rfl hl.1 rfl (lv_room (Nat.le_of_ble_eq_true rfl)) dL_isDay_456 ⟨show nc + 0 ≤ 5800 by omega, show ns + 0 ≤ 33780 by omega⟩) hw hA (fun H locs hw => ?_)
              clear hcl
              refine lv_iconst (v := 4) hx hb dL_isDay_459 (by decide) ?_
              obtain ⟨r45, τ9, hcl, hf⟩ := xco_g hf
              refine x_tcallo (vx_runV (As := [.int r43, .int 4]) (rest := []) ⟨hx, hb, hml, hown, hts⟩ (mX11_doughAt hl0 (E := xCut E σ44) rfl r43 4 σ44 (.inl r45) τ9 hcl H.size) (cwV 2 hts gL_isDay_X11_doughAt rfl rfl rfl (by decide +kernel) ⟨Nat.le_of_ble_eq_true rfl, Nat.le_of_ble_eq_true rfl⟩) (x_preV _ (xw_cut hE hw) hA hG (cX0 (E := xCut E σ44) rfl) rfl) rfl rfl hl.1 rfl (lv_room (Nat.le_of_ble_eq_true rfl)) dL_isDay_460 ⟨show (nc + 0) + 2 ≤ 5800 by omega, show (ns + 0) + 12 ≤ 33780 by omega⟩) (xw_cut hE hw) hA (fun H locs hw => ?_)
              obtain ⟨σ46, eρ, hw⟩ := xw_unc2 hE hw
              replace hf := hf σ46 eρ
              clear eρ hcl
              refine lv_bipush (v := 50) hx hb dL_isDay_463 (by decide) ?_
              refine lv_icmp_ge (tgt := 470) hx hb dL_isDay_465 (by decide) (fun c465 => ?_) (fun c465 => ?_)
              · replace hf := xif_pos c465 hf
                exact h470 a1 σ46 _ _ _ ((nc + 0) + 2) ((ns + 0) + 12) hw (lv_sub hl [0, 1] rfl) hf (by omega) (by omega)
              · replace hf := xif_neg c465 hf
                refine lv_iconst (v := 0) hx hb dL_isDay_468 (by decide) ?_
                exact x_Lzretc hx hb hr hlk hw (by decide) hf (show ((nc + 0) + 2) ≤ 5800 by omega) (show ((ns + 0) + 12) ≤ 33780 by omega) dL_isDay_469
        · replace hf := xif_pos c330 hf
          refine lv_iconst (v := 0) hx hb dL_isDay_333 (by decide) ?_
          refine lv_istore_n (lv' := [(3, .int 0), (0, .ref (E.a 52)), (1, .int a1), (2, .int a2)]) hx hb dL_isDay_334 rfl hl (by decide) rfl (fun ls hl => ?_)
          exact h335 xF17 a1 0 σ _ _ _ nc ns hw (lv_sub hl [1, 2, 0] rfl) hf (by omega) (by omega)
      have h324 : ∀ (a1 : Int32) (σ : xSt) (H : Heap) (locs : List Loc) (ls : Array Slot) (nc ns : Nat), xw E A s.heap s σ H locs → lv_has ls 7 [(0, .ref (E.a 52)), (1, .int a1)] → fL_isDay_c324 (fL_isDay_c69 n69) a1 σ = some (o1, o2) → nc + (239 + 341 * n69) ≤ 5800 → ns + (1374 + 1986 * n69) ≤ 33780 → W p l e rmL_isDay s m args below meth c H locs nc ns (MQ below (xQi E A o1 o2) args s 5800 33780 A) (F0 m 324 ls []) := by
        intro a1 σ H locs ls nc ns hw hl hf hnc hns
        unfold fL_isDay_c324 at hf
        refine lv_goto (tgt := 470) hx hb dL_isDay_324 (by decide) ?_
        exact h470 a1 σ _ _ _ nc ns hw (lv_sub hl [0, 1] rfl) hf (by omega) (by omega)
      have h283 : ∀ (a1 : Int32) (a3 : Int32) (a5 : Int32) (t0 : Int32) (σ : xSt) (H : Heap) (locs : List Loc) (ls : Array Slot) (nc ns : Nat), xw E A s.heap s σ H locs → lv_has ls 7 [(0, .ref (E.a 52)), (1, .int a1), (3, .int a3), (5, .int a5)] → fL_isDay_c283 (fL_isDay_c69 n69) a1 a3 a5 t0 σ = some (o1, o2) → nc + (243 + 341 * n69) ≤ 5800 → ns + (1398 + 1986 * n69) ≤ 33780 → W p l e rmL_isDay s m args below meth c H locs nc ns (MQ below (xQi E A o1 o2) args s 5800 33780 A) (F0 m 283 ls [.int t0]) := by
        intro a1 a3 a5 t0 σ H locs ls nc ns hw hl hf hnc hns
        unfold fL_isDay_c283 at hf
        refine lv_istore (lv' := [(6, .int t0), (0, .ref (E.a 52)), (1, .int a1), (3, .int a3), (5, .int a5)]) hx hb dL_isDay_283 hl (by decide) rfl (fun ls hl => ?_)
        refine lv_iload hx hb dL_isDay_285 (lv_at hl 0 rfl) ?_
        refine lv_if_eq (tgt := 324) hx hb dL_isDay_287 (by decide) (fun c287 => ?_) (fun c287 => ?_)
        · replace hf := xif_pos c287 hf
          exact h324 a1 σ _ _ _ nc ns hw (lv_sub hl [1, 2] rfl) hf (by omega) (by omega)
        · replace hf := xif_neg c287 hf
          refine lv_aload_n hx hb dL_isDay_290 rfl (lv_at hl 1 rfl) ?_
          refine x_getr hx hb hw (cL52 hE) (own := RL) (ref := RL) (C := RL) (T := TL) (N := 10) hts hiL hown rfl 0 (by decide) hk10 (fun _ h9 => h9) rfl dL_isDay_291 ?_
          refine lv_iload_n hx hb dL_isDay_294 rfl (lv_at hl 3 rfl) ?_
          obtain ⟨r37, τ9, hcl, hf⟩ := xco_g hf
          refine x_tcallo (vx_runV (As := [.int a3]) (rest := []) ⟨hx, hb, hml, hown, hts⟩ (mX11_shape hl0 (E := xCut E σ) rfl a3 σ (.inl r37) τ9 hcl H.size) (cwV 1 hts gL_isDay_X11_shape rfl rfl rfl (by decide +kernel) ⟨Nat.le_of_ble_eq_true rfl, Nat.le_of_ble_eq_true rfl⟩) (x_preV _ (xw_cut hE hw) hA hG (cX0 (E := xCut E σ) rfl) rfl) rfl rfl hl.1 rfl (lv_room (Nat.le_of_ble_eq_true rfl)) dL_isDay_295 ⟨show nc + 2 ≤ 5800 by omega, show ns + 12 ≤ 33780 by omega⟩) (xw_cut hE hw) hA (fun H locs hw => ?_)
          obtain ⟨σ38, eρ, hw⟩ := xw_unc2 hE hw
          replace hf := hf σ38 eρ
          clear eρ hcl
          refine lv_iload hx hb dL_isDay_298 (lv_at hl 4 rfl) ?_
          refine lv_icmp_ne (tgt := 322) hx hb dL_isDay_300 (by decide) (fun c300 => ?_) (fun c300 => ?_)
          · replace hf := xif_neg c300 hf
            refine lv_iconst (v := 0) hx hb dL_isDay_322 (by decide) ?_
            exact x_Lzretc hx hb hr hlk hw (by decide) hf (show (nc + 2) ≤ 5800 by omega) (show (ns + 12) ≤ 33780 by omega) dL_isDay_323
          · replace hf := xif_pos c300 hf
            refine lv_aload_n hx hb dL_isDay_303 rfl (lv_at hl 1 rfl) ?_
            refine x_getr hx hb hw (cL52 hE) (own := RL) (ref := RL) (C := RL) (T := TL) (N := 10) hts hiL hown rfl 0 (by decide) hk10 (fun _ h9 => h9) rfl dL_isDay_304 ?_
            refine lv_iload_n hx hb dL_isDay_307 rfl (lv_at hl 3 rfl) ?_
            refine lv_iconst (v := 5) hx hb dL_isDay_308 (by decide) ?_
            obtain ⟨r39, τ9, hcl, hf⟩ := xco_g hf
            refine x_tcallo (vx_runV (As := [.int a3, .int 5]) (rest := []) ⟨hx, hb, hml, hown, hts⟩ (mX11_doughAt hl0 (E := xCut E σ38) rfl a3 5 σ38 (.inl r39) τ9 hcl H.size) (cwV 2 hts gL_isDay_X11_doughAt rfl rfl rfl (by decide +kernel) ⟨Nat.le_of_ble_eq_true rfl, Nat.le_of_ble_eq_true rfl⟩) (x_preV _ (xw_cut hE hw) hA hG (cX0 (E := xCut E σ38) rfl) rfl) rfl rfl hl.1 rfl (lv_room (Nat.le_of_ble_eq_true rfl)) dL_isDay_309 ⟨show (nc + 2) + 2 ≤ 5800 by omega, show (ns + 12) + 12 ≤ 33780 by omega⟩) (xw_cut hE hw) hA (fun H locs hw => ?_)
            obtain ⟨σ40, eρ, hw⟩ := xw_unc2 hE hw
            replace hf := hf σ40 eρ
            clear eρ hcl
            refine lv_aload_n hx hb dL_isDay_312 rfl (lv_at hl 1 rfl) ?_
            refine x_getr hx hb hw (cL52 hE) (own := RL) (ref := RL) (C := RL) (T := TL) (N := 10) hts hiL hown rfl 0 (by decide) hk10 (fun _ h9 => h9) rfl dL_isDay_313 ?_
            obtain ⟨r41, τ9, hcl, hf⟩ := xcm_g hf
            refine x_calli (va_runV (As := []) (rest := [.int r39]) ⟨hx, hb, hml, hown, hts⟩ (mX11_now (E := xCut E σ40) rfl  σ40 r41 τ9 hcl H.size) (cwV 0 hts gL_isDay_X11_now rfl rfl rfl (by decide +kernel) ⟨Nat.le_of_ble_eq_true rfl, Nat.le_of_ble_eq_true rfl⟩) (x_preV _ (xw_cut hE hw) hA hG (cX0 (E := xCut E σ40) rfl) rfl) rfl rfl hl.1 rfl (lv_room (Nat.le_of_ble_eq_true rfl)) dL_isDay_316 ⟨show ((nc + 2) + 2) + 0 ≤ 5800 by omega, show ((ns + 12) + 12) + 0 ≤ 33780 by omega⟩) (xw_cut hE hw) hA (fun H locs hw => ?_)
            obtain ⟨σ42, eρ, hw⟩ := xw_unc2 hE hw
            replace hf := hf σ42 eρ
            clear eρ hcl
            refine lv_icmp_eq (tgt := 324) hx hb dL_isDay_319 (by decide) (fun c319 => ?_) (fun c319 => ?_)
            · replace hf := xif_pos c319 hf
              exact h324 a1 σ42 _ _ _ ((nc + 2) + 2) ((ns + 12) + 12) hw (lv_sub hl [1, 2] rfl) hf (by omega) (by omega)
            · replace hf := xif_neg c319 hf
              refine lv_iconst (v := 0) hx hb dL_isDay_322 (by decide) ?_
              exact x_Lzretc hx hb hr hlk hw (by decide) hf (show ((nc + 2) + 2) ≤ 5800 by omega) (show ((ns + 12) + 12) ≤ 33780 by omega) dL_isDay_323
      have h282 : ∀ (a1 : Int32) (a3 : Int32) (a5 : Int32) (σ : xSt) (H : Heap) (locs : List Loc) (ls : Array Slot) (nc ns : Nat), xw E A s.heap s σ H locs → lv_has ls 7 [(0, .ref (E.a 52)), (1, .int a1), (3, .int a3), (5, .int a5)] → fL_isDay_c282 (fL_isDay_c69 n69) a1 a3 a5 σ = some (o1, o2) → nc + (243 + 341 * n69) ≤ 5800 → ns + (1398 + 1986 * n69) ≤ 33780 → W p l e rmL_isDay s m args below meth c H locs nc ns (MQ below (xQi E A o1 o2) args s 5800 33780 A) (F0 m 282 ls []) := by
        intro a1 a3 a5 σ H locs ls nc ns hw hl hf hnc hns
        unfold fL_isDay_c282 at hf
        refine lv_iconst (v := 0) hx hb dL_isDay_282 (by decide) ?_
        exact h283 a1 a3 a5 0 σ _ _ _ nc ns hw (lv_sub hl [0, 1, 2, 3] rfl) hf (by omega) (by omega)
      have h173 : ∀ (a1 : Int32) (a3 : Int32) (t0 : Int32) (σ : xSt) (H : Heap) (locs : List Loc) (ls : Array Slot) (nc ns : Nat), xw E A s.heap s σ H locs → lv_has ls 7 [(0, .ref (E.a 52)), (1, .int a1), (3, .int a3)] → fL_isDay_c173 (fL_isDay_c69 n69) a1 a3 t0 σ = some (o1, o2) → nc + (241 + 341 * n69) ≤ 5800 → ns + (1386 + 1986 * n69) ≤ 33780 → W p l e rmL_isDay s m args below meth c H locs nc ns (MQ below (xQi E A o1 o2) args s 5800 33780 A) (F0 m 173 ls [.int t0]) := by
        intro a1 a3 t0 σ H locs ls nc ns hw hl hf hnc hns
        unfold fL_isDay_c173 at hf
        refine lv_istore (lv' := [(4, .int t0), (0, .ref (E.a 52)), (1, .int a1), (3, .int a3)]) hx hb dL_isDay_173 hl (by decide) rfl (fun ls hl => ?_)
        refine lv_aload_n hx hb dL_isDay_175 rfl (lv_at hl 1 rfl) ?_
        refine x_getr hx hb hw (cL52 hE) (own := RL) (ref := RL) (C := RL) (T := TL) (N := 10) hts hiL hown rfl 0 (by decide) hk10 (fun _ h9 => h9) rfl dL_isDay_176 ?_
        refine lv_iload hx hb dL_isDay_179 (lv_at hl 0 rfl) ?_
        obtain ⟨r35, τ9, hcl, hf⟩ := xco_g hf
        refine x_tcallo (vx_runV (As := [.int t0]) (rest := []) ⟨hx, hb, hml, hown, hts⟩ (mX11_pass hl0 (E := xCut E σ) rfl t0 σ (.inl r35) τ9 hcl H.size) (cwV 1 hts gL_isDay_X11_pass rfl rfl rfl (by decide +kernel) ⟨Nat.le_of_ble_eq_true rfl, Nat.le_of_ble_eq_true rfl⟩) (x_preV _ (xw_cut hE hw) hA hG (cX0 (E := xCut E σ) rfl) rfl) rfl rfl hl.1 rfl (lv_room (Nat.le_of_ble_eq_true rfl)) dL_isDay_181 ⟨show nc + 2 ≤ 5800 by omega, show ns + 12 ≤ 33780 by omega⟩) (xw_cut hE hw) hA (fun H locs hw => ?_)
        obtain ⟨σ36, eρ, hw⟩ := xw_unc2 hE hw
        replace hf := hf σ36 eρ
        clear eρ hcl
        refine lv_iload_n hx hb dL_isDay_184 rfl (lv_at hl 3 rfl) ?_
        refine lv_iload hx hb dL_isDay_185 (lv_at hl 0 rfl) ?_
        refine lv_iadd hx hb dL_isDay_187 ?_
        refine lv_icmp_eq (tgt := 193) hx hb dL_isDay_188 (by decide) (fun c188 => ?_) (fun c188 => ?_)
        · replace hf := xif_pos c188 hf
          refine lv_goto (tgt := 470) hx hb dL_isDay_193 (by decide) ?_
          exact h470 a1 σ36 _ _ _ (nc + 2) (ns + 12) hw (lv_sub hl [1, 2] rfl) hf (by omega) (by omega)
        · replace hf := xif_neg c188 hf
          refine lv_iconst (v := 0) hx hb dL_isDay_191 (by decide) ?_
          exact x_Lzretc hx hb hr hlk hw (by decide) hf (show (nc + 2) ≤ 5800 by omega) (show (ns + 12) ≤ 33780 by omega) dL_isDay_192
      intro a1 σ H locs ls nc ns hw hl hf hnc hns
      rw [fL_isDay_c69_s] at hf
      refine lv_iload_n hx hb dL_isDay_69 rfl (lv_at hl 1 rfl) ?_
      refine lv_if_le (tgt := 506) hx hb dL_isDay_70 (by decide) (fun c70 => ?_) (fun c70 => ?_)
      · replace hf := xif_pos c70 hf
        refine lv_iconst (v := 1) hx hb dL_isDay_506 (by decide) ?_
        exact x_Lzretc hx hb hr hlk hw (by decide) hf (show nc ≤ 5800 by omega) (show ns ≤ 33780 by omega) dL_isDay_507
      · replace hf := xif_neg c70 hf
        refine lv_aload_n hx hb dL_isDay_73 rfl (lv_at hl 0 rfl) ?_
        refine x_getr hx hb hw (cL52 hE) (own := RL) (ref := RL) (C := RL) (T := TL) (N := 10) hts hiL hown rfl 1 (by decide) hk34 (fun _ h9 => h9) rfl dL_isDay_74 ?_
        refine lv_bipush (v := 8) hx hb dL_isDay_77 (by decide) ?_
        obtain ⟨r12, σ13, hcl, hf⟩ := xc2_f hf
        refine x_callLi (va_runV (As := [.int 8]) (rest := []) ⟨hx, hb, hml, hown, hts⟩ (mX12_next hl0 hE 8 σ r12 σ13 hcl H.size) (cwV 1 hts gL_isDay_X12_next rfl rfl rfl (by decide +kernel) ⟨Nat.le_of_ble_eq_true rfl, Nat.le_of_ble_eq_true rfl⟩) (x_preLV _ hw hA hGL (cL53 hE) rfl) rfl rfl hl.1 rfl (lv_room (Nat.le_of_ble_eq_true rfl)) dL_isDay_79 ⟨show nc + 0 ≤ 5800 by omega, show ns + 0 ≤ 33780 by omega⟩) hw hA (fun H locs hw => ?_)
        clear hcl
        refine lv_istore_n (lv' := [(2, .int r12), (0, .ref (E.a 52)), (1, .int a1)]) hx hb dL_isDay_82 rfl hl (by decide) rfl (fun ls hl => ?_)
        refine lv_iload_n hx hb dL_isDay_83 rfl (lv_at hl 0 rfl) ?_
        refine lv_iconst (v := 3) hx hb dL_isDay_84 (by decide) ?_
        refine lv_icmp_ge (tgt := 134) hx hb dL_isDay_85 (by decide) (fun c85 => ?_) (fun c85 => ?_)
        · replace hf := xif_pos c85 hf
          refine lv_iload_n hx hb dL_isDay_134 rfl (lv_at hl 0 rfl) ?_
          refine lv_iconst (v := 5) hx hb dL_isDay_135 (by decide) ?_
          refine lv_icmp_ge (tgt := 196) hx hb dL_isDay_136 (by decide) (fun c136 => ?_) (fun c136 => ?_)
          · replace hf := xif_pos c136 hf
            refine lv_iload_n hx hb dL_isDay_196 rfl (lv_at hl 0 rfl) ?_
            refine lv_iconst (v := 5) hx hb dL_isDay_197 (by decide) ?_
            refine lv_icmp_ne (tgt := 327) hx hb dL_isDay_198 (by decide) (fun c198 => ?_) (fun c198 => ?_)
            · replace hf := xif_neg c198 hf
              exact h327 a1 r12 σ13 _ _ _ (nc + 0) (ns + 0) hw (lv_sub hl [1, 2, 0] rfl) hf (by omega) (by omega)
            · replace hf := xif_pos c198 hf
              refine lv_aload_n hx hb dL_isDay_201 rfl (lv_at hl 1 rfl) ?_
              refine x_geti hx hb hw (cL52 hE) (own := RL) (ref := RL) (C := RL) (T := TL) (N := 10) hts hiL hown rfl 3 (by decide) hk143 (fun _ h9 => h9) rfl dL_isDay_202 ?_
              refine lv_if_le (tgt := 327) hx hb dL_isDay_205 (by decide) (fun c205 => ?_) (fun c205 => ?_)
              · replace hf := xif_pos c205 hf
                exact h327 a1 r12 σ13 _ _ _ (nc + 0) (ns + 0) hw (lv_sub hl [1, 2, 0] rfl) hf (by omega) (by omega)
              · replace hf := xif_neg c205 hf
                refine lv_aload_n hx hb dL_isDay_208 rfl (lv_at hl 1 rfl) ?_
                refine x_getr hx hb hw (cL52 hE) (own := RL) (ref := RL) (C := RL) (T := TL) (N := 10) hts hiL hown rfl 1 (by decide) hk34 (fun _ h9 => h9) rfl dL_isDay_209 ?_
                refine lv_aload_n hx hb dL_isDay_212 rfl (lv_at hl 1 rfl) ?_
                refine x_geti hx hb hw (cL52 hE) (own := RL) (ref := RL) (C := RL) (T := TL) (N := 10) hts hiL hown rfl 3 (by decide) hk143 (fun _ h9 => h9) rfl dL_isDay_213 ?_
                obtain ⟨r14, σ15, hcl, hf⟩ := xc2_f hf
                refine x_callLi (va_runV (As := [.int (σ13 52 3)]) (rest := []) ⟨hx, hb, hml, hown, hts⟩ (mX12_next hl0 hE (σ13 52 3) σ13 r14 σ15 hcl H.size) (cwV 1 hts gL_isDay_X12_next rfl rfl rfl (by decide +kernel) ⟨Nat.le_of_ble_eq_true rfl, Nat.le_of_ble_eq_true rfl⟩) (x_preLV _ hw hA hGL (cL53 hE) rfl) rfl rfl hl.1 rfl (lv_room (Nat.le_of_ble_eq_true rfl)) dL_isDay_216 ⟨show (nc + 0) + 0 ≤ 5800 by omega, show (ns + 0) + 0 ≤ 33780 by omega⟩) hw hA (fun H locs hw => ?_)
                clear hcl
                refine lv_istore_n (lv' := [(3, .int r14), (2, .int r12), (0, .ref (E.a 52)), (1, .int a1)]) hx hb dL_isDay_219 rfl hl (by decide) rfl (fun ls hl => ?_)
                refine lv_aload_n hx hb dL_isDay_220 rfl (lv_at hl 2 rfl) ?_
                refine x_getr hx hb hw (cL52 hE) (own := RL) (ref := RL) (C := RL) (T := TL) (N := 10) hts hiL hown rfl 0 (by decide) hk10 (fun _ h9 => h9) rfl dL_isDay_221 ?_
                refine lv_iload_n hx hb dL_isDay_224 rfl (lv_at hl 0 rfl) ?_
                refine lv_iconst (v := 0) hx hb dL_isDay_225 (by decide) ?_
                obtain ⟨r16, τ9, hcl, hf⟩ := xco_g hf
                refine x_tcallo (vx_runV (As := [.int r14, .int 0]) (rest := []) ⟨hx, hb, hml, hown, hts⟩ (mX11_doughAt hl0 (E := xCut E σ15) rfl r14 0 σ15 (.inl r16) τ9 hcl H.size) (cwV 2 hts gL_isDay_X11_doughAt rfl rfl rfl (by decide +kernel) ⟨Nat.le_of_ble_eq_true rfl, Nat.le_of_ble_eq_true rfl⟩) (x_preV _ (xw_cut hE hw) hA hG (cX0 (E := xCut E σ15) rfl) rfl) rfl rfl hl.1 rfl (lv_room (Nat.le_of_ble_eq_true rfl)) dL_isDay_226 ⟨show ((nc + 0) + 0) + 2 ≤ 5800 by omega, show ((ns + 0) + 0) + 12 ≤ 33780 by omega⟩) (xw_cut hE hw) hA (fun H locs hw => ?_)
                obtain ⟨σ17, eρ, hw⟩ := xw_unc2 hE hw
                replace hf := hf σ17 eρ
                clear eρ hcl
                refine lv_istore (lv' := [(4, .int r16), (3, .int r14), (2, .int r12), (0, .ref (E.a 52)), (1, .int a1)]) hx hb dL_isDay_229 hl (by decide) rfl (fun ls hl => ?_)
                refine lv_aload_n hx hb dL_isDay_231 rfl (lv_at hl 3 rfl) ?_
                refine x_getr hx hb hw (cL52 hE) (own := RL) (ref := RL) (C := RL) (T := TL) (N := 10) hts hiL hown rfl 0 (by decide) hk10 (fun _ h9 => h9) rfl dL_isDay_232 ?_
                refine lv_iload_n hx hb dL_isDay_235 rfl (lv_at hl 1 rfl) ?_
                refine lv_iconst (v := 2) hx hb dL_isDay_236 (by decide) ?_
                obtain ⟨r18, τ9, hcl, hf⟩ := xco_g hf
                refine x_tcallo (vx_runV (As := [.int r14, .int 2]) (rest := []) ⟨hx, hb, hml, hown, hts⟩ (mX11_doughAt hl0 (E := xCut E σ17) rfl r14 2 σ17 (.inl r18) τ9 hcl H.size) (cwV 2 hts gL_isDay_X11_doughAt rfl rfl rfl (by decide +kernel) ⟨Nat.le_of_ble_eq_true rfl, Nat.le_of_ble_eq_true rfl⟩) (x_preV _ (xw_cut hE hw) hA hG (cX0 (E := xCut E σ17) rfl) rfl) rfl rfl hl.1 rfl (lv_room (Nat.le_of_ble_eq_true rfl)) dL_isDay_237 ⟨show (((nc + 0) + 0) + 2) + 2 ≤ 5800 by omega, show (((ns + 0) + 0) + 12) + 12 ≤ 33780 by omega⟩) (xw_cut hE hw) hA (fun H locs hw => ?_)
                obtain ⟨σ19, eρ, hw⟩ := xw_unc2 hE hw
                replace hf := hf σ19 eρ
                clear eρ hcl
                refine lv_istore (lv' := [(5, .int r18), (4, .int r16), (3, .int r14), (2, .int r12), (0, .ref (E.a 52)), (1, .int a1)]) hx hb dL_isDay_240 hl (by decide) rfl (fun ls hl => ?_)
                refine lv_aload_n hx hb dL_isDay_242 rfl (lv_at hl 4 rfl) ?_
                refine x_getr hx hb hw (cL52 hE) (own := RL) (ref := RL) (C := RL) (T := TL) (N := 10) hts hiL hown rfl 0 (by decide) hk10 (fun _ h9 => h9) rfl dL_isDay_243 ?_
                refine lv_iload_n hx hb dL_isDay_246 rfl (lv_at hl 2 rfl) ?_
                refine lv_iconst (v := 3) hx hb dL_isDay_247 (by decide) ?_
                obtain ⟨r20, τ9, hcl, hf⟩ := xco_g hf
                refine x_tcallo (vx_runV (As := [.int r14, .int 3]) (rest := []) ⟨hx, hb, hml, hown, hts⟩ (mX11_doughAt hl0 (E := xCut E σ19) rfl r14 3 σ19 (.inl r20) τ9 hcl H.size) (cwV 2 hts gL_isDay_X11_doughAt rfl rfl rfl (by decide +kernel) ⟨Nat.le_of_ble_eq_true rfl, Nat.le_of_ble_eq_true rfl⟩) (x_preV _ (xw_cut hE hw) hA hG (cX0 (E := xCut E σ19) rfl) rfl) rfl rfl hl.1 rfl (lv_room (Nat.le_of_ble_eq_true rfl)) dL_isDay_248 ⟨show ((((nc + 0) + 0) + 2) + 2) + 2 ≤ 5800 by omega, show ((((ns + 0) + 0) + 12) + 12) + 12 ≤ 33780 by omega⟩) (xw_cut hE hw) hA (fun H locs hw => ?_)
                obtain ⟨σ21, eρ, hw⟩ := xw_unc2 hE hw
                replace hf := hf σ21 eρ
                clear eρ hcl
                refine lv_if_ne (tgt := 282) hx hb dL_isDay_251 (by decide) (fun c251 => ?_) (fun c251 => ?_)
                · replace hf := xif_neg c251 hf
                  exact h282 a1 r14 r18 σ21 _ _ _ (((((nc + 0) + 0) + 2) + 2) + 2) (((((ns + 0) + 0) + 12) + 12) + 12) hw (lv_sub hl [4, 5, 2, 0] rfl) hf (by omega) (by omega)
                · replace hf := xif_pos c251 hf
                  refine lv_iload hx hb dL_isDay_254 (lv_at hl 0 rfl) ?_
                  refine lv_aload_n hx hb dL_isDay_256 rfl (lv_at hl 4 rfl) ?_
                  refine x_getr hx hb hw (cL52 hE) (own := RL) (ref := RL) (C := RL) (T := TL) (N := 10) hts hiL hown rfl 6 (by decide) hk16 (fun _ h9 => h9) rfl dL_isDay_257 ?_
                  refine lv_iload hx hb dL_isDay_260 (lv_at hl 1 rfl) ?_
                  obtain ⟨hin, hf⟩ := xr_f hf
                  refine x_iald hx hb hw (cL54 hE) hin dL_isDay_262 ?_
                  refine lv_topi (fun v22 ex => ?_)
                  replace hf := hf v22 ex
                  clear ex hin
                  refine lv_icmp_lt (tgt := 282) hx hb dL_isDay_263 (by decide) (fun c263 => ?_) (fun c263 => ?_)
                  · replace hf := xif_pos c263 hf
                    exact h282 a1 r14 r18 σ21 _ _ _ (((((nc + 0) + 0) + 2) + 2) + 2) (((((ns + 0) + 0) + 12) + 12) + 12) hw (lv_sub hl [4, 5, 2, 0] rfl) hf (by omega) (by omega)
                  · replace hf := xif_neg c263 hf
                    refine lv_iload hx hb dL_isDay_266 (lv_at hl 0 rfl) ?_
                    refine lv_aload_n hx hb dL_isDay_268 rfl (lv_at hl 4 rfl) ?_
                    refine x_getr hx hb hw (cL52 hE) (own := RL) (ref := RL) (C := RL) (T := TL) (N := 10) hts hiL hown rfl 7 (by decide) hk20 (fun _ h9 => h9) rfl dL_isDay_269 ?_
                    refine lv_iload hx hb dL_isDay_272 (lv_at hl 1 rfl) ?_
                    obtain ⟨hin, hf⟩ := xr_f hf
                    refine x_iald hx hb hw (cL55 hE) hin dL_isDay_274 ?_
                    refine lv_topi (fun v23 ex => ?_)
                    replace hf := hf v23 ex
                    clear ex hin
                    refine lv_icmp_gt (tgt := 282) hx hb dL_isDay_275 (by decide) (fun c275 => ?_) (fun c275 => ?_)
                    · replace hf := xif_pos c275 hf
                      exact h282 a1 r14 r18 σ21 _ _ _ (((((nc + 0) + 0) + 2) + 2) + 2) (((((ns + 0) + 0) + 12) + 12) + 12) hw (lv_sub hl [4, 5, 2, 0] rfl) hf (by omega) (by omega)
                    · replace hf := xif_neg c275 hf
                      refine lv_iconst (v := 1) hx hb dL_isDay_278 (by decide) ?_
                      refine lv_goto (tgt := 283) hx hb dL_isDay_279 (by decide) ?_
                      exact h283 a1 r14 r18 1 σ21 _ _ _ (((((nc + 0) + 0) + 2) + 2) + 2) (((((ns + 0) + 0) + 12) + 12) + 12) hw (lv_sub hl [4, 5, 2, 0] rfl) hf (by omega) (by omega)
          · replace hf := xif_neg c136 hf
            refine lv_aload_n hx hb dL_isDay_139 rfl (lv_at hl 1 rfl) ?_
            refine x_getr hx hb hw (cL52 hE) (own := RL) (ref := RL) (C := RL) (T := TL) (N := 10) hts hiL hown rfl 0 (by decide) hk10 (fun _ h9 => h9) rfl dL_isDay_140 ?_
            obtain ⟨r24, τ9, hcl, hf⟩ := xcm_g hf
            refine x_calli (va_runV (As := []) (rest := []) ⟨hx, hb, hml, hown, hts⟩ (mX11_now (E := xCut E σ13) rfl  σ13 r24 τ9 hcl H.size) (cwV 0 hts gL_isDay_X11_now rfl rfl rfl (by decide +kernel) ⟨Nat.le_of_ble_eq_true rfl, Nat.le_of_ble_eq_true rfl⟩) (x_preV _ (xw_cut hE hw) hA hG (cX0 (E := xCut E σ13) rfl) rfl) rfl rfl hl.1 rfl (lv_room (Nat.le_of_ble_eq_true rfl)) dL_isDay_143 ⟨show (nc + 0) + 0 ≤ 5800 by omega, show (ns + 0) + 0 ≤ 33780 by omega⟩) (xw_cut hE hw) hA (fun H locs hw => ?_)
            obtain ⟨σ25, eρ, hw⟩ := xw_unc2 hE hw
            replace hf := hf σ25 eρ
            clear eρ hcl
            refine lv_istore_n (lv' := [(3, .int r24), (2, .int r12), (0, .ref (E.a 52)), (1, .int a1)]) hx hb dL_isDay_146 rfl hl (by decide) rfl (fun ls hl => ?_)
            refine lv_iload_n hx hb dL_isDay_147 rfl (lv_at hl 1 rfl) ?_
            refine lv_iconst (v := 3) hx hb dL_isDay_148 (by decide) ?_
            refine lv_icmp_ne (tgt := 162) hx hb dL_isDay_149 (by decide) (fun c149 => ?_) (fun c149 => ?_)
            · replace hf := xif_neg c149 hf
              refine lv_iconst (v := 1) hx hb dL_isDay_162 (by decide) ?_
              refine lv_aload_n hx hb dL_isDay_163 rfl (lv_at hl 2 rfl) ?_
              refine x_getr hx hb hw (cL52 hE) (own := RL) (ref := RL) (C := RL) (T := TL) (N := 10) hts hiL hown rfl 1 (by decide) hk34 (fun _ h9 => h9) rfl dL_isDay_164 ?_
              refine lv_bipush (v := 12) hx hb dL_isDay_167 (by decide) ?_
              obtain ⟨r26, σ27, hcl, hf⟩ := xc2_f hf
              refine x_callLi (va_runV (As := [.int 12]) (rest := [.int 1]) ⟨hx, hb, hml, hown, hts⟩ (mX12_next hl0 hE 12 σ25 r26 σ27 hcl H.size) (cwV 1 hts gL_isDay_X12_next rfl rfl rfl (by decide +kernel) ⟨Nat.le_of_ble_eq_true rfl, Nat.le_of_ble_eq_true rfl⟩) (x_preLV _ hw hA hGL (cL53 hE) rfl) rfl rfl hl.1 rfl (lv_room (Nat.le_of_ble_eq_true rfl)) dL_isDay_169 ⟨show (nc + 0) + 0 ≤ 5800 by omega, show (ns + 0) + 0 ≤ 33780 by omega⟩) hw hA (fun H locs hw => ?_)
              clear hcl
              refine lv_iadd hx hb dL_isDay_172 ?_
              exact h173 a1 r24 (1 + r26) σ27 _ _ _ ((nc + 0) + 0) ((ns + 0) + 0) hw (lv_sub hl [2, 3, 0] rfl) hf (by omega) (by omega)
            · replace hf := xif_pos c149 hf
              refine lv_bipush (v := 10) hx hb dL_isDay_152 (by decide) ?_
              refine lv_iload_n hx hb dL_isDay_154 rfl (lv_at hl 0 rfl) ?_
              refine lv_bipush (v := 10) hx hb dL_isDay_155 (by decide) ?_
              refine lv_irem hx hb dL_isDay_157 (by decide) ?_
              refine lv_isub hx hb dL_isDay_158 ?_
              refine lv_goto (tgt := 173) hx hb dL_isDay_159 (by decide) ?_
              exact h173 a1 r24 (10 - (r24 - r24 / 10 * 10)) σ25 _ _ _ (nc + 0) (ns + 0) hw (lv_sub hl [2, 3, 0] rfl) hf (by omega) (by omega)
        · replace hf := xif_neg c85 hf
          refine lv_aload_n hx hb dL_isDay_88 rfl (lv_at hl 1 rfl) ?_
          refine x_getr hx hb hw (cL52 hE) (own := RL) (ref := RL) (C := RL) (T := TL) (N := 10) hts hiL hown rfl 0 (by decide) hk10 (fun _ h9 => h9) rfl dL_isDay_89 ?_
          refine lv_aload_n hx hb dL_isDay_92 rfl (lv_at hl 1 rfl) ?_
          refine x_getr hx hb hw (cL52 hE) (own := RL) (ref := RL) (C := RL) (T := TL) (N := 10) hts hiL hown rfl 1 (by decide) hk34 (fun _ h9 => h9) rfl dL_isDay_93 ?_
          refine lv_aload_n hx hb dL_isDay_96 rfl (lv_at hl 1 rfl) ?_
          refine x_geti hx hb hw (cL52 hE) (own := RL) (ref := RL) (C := RL) (T := TL) (N := 10) hts hiL hown rfl 2 (by decide) hk62 (fun _ h9 => h9) rfl dL_isDay_97 ?_
          obtain ⟨r28, σ29, hcl, hf⟩ := xc2_f hf
          refine x_callLi (va_runV (As := [.int (σ13 52 2)]) (rest := [.ref (E.a 0)]) ⟨hx, hb, hml, hown, hts⟩ (mX12_next hl0 hE (σ13 52 2) σ13 r28 σ29 hcl H.size) (cwV 1 hts gL_isDay_X12_next rfl rfl rfl (by decide +kernel) ⟨Nat.le_of_ble_eq_true rfl, Nat.le_of_ble_eq_true rfl⟩) (x_preLV _ hw hA hGL (cL53 hE) rfl) rfl rfl hl.1 rfl (lv_room (Nat.le_of_ble_eq_true rfl)) dL_isDay_100 ⟨show (nc + 0) + 0 ≤ 5800 by omega, show (ns + 0) + 0 ≤ 33780 by omega⟩) hw hA (fun H locs hw => ?_)
          clear hcl
          refine lv_iconst (v := 1) hx hb dL_isDay_103 (by decide) ?_
          refine lv_aload_n hx hb dL_isDay_104 rfl (lv_at hl 1 rfl) ?_
          refine x_getr hx hb hw (cL52 hE) (own := RL) (ref := RL) (C := RL) (T := TL) (N := 10) hts hiL hown rfl 1 (by decide) hk34 (fun _ h9 => h9) rfl dL_isDay_105 ?_
          refine lv_bipush (v := 8) hx hb dL_isDay_108 (by decide) ?_
          obtain ⟨r30, σ31, hcl, hf⟩ := xc2_f hf
          refine x_callLi (va_runV (As := [.int 8]) (rest := [.int 1, .int r28, .ref (E.a 0)]) ⟨hx, hb, hml, hown, hts⟩ (mX12_next hl0 hE 8 σ29 r30 σ31 hcl H.size) (cwV 1 hts gL_isDay_X12_next rfl rfl rfl (by decide +kernel) ⟨Nat.le_of_ble_eq_true rfl, Nat.le_of_ble_eq_true rfl⟩) (x_preLV _ hw hA hGL (cL53 hE) rfl) rfl rfl hl.1 rfl (lv_room (Nat.le_of_ble_eq_true rfl)) dL_isDay_110 ⟨show ((nc + 0) + 0) + 0 ≤ 5800 by omega, show ((ns + 0) + 0) + 0 ≤ 33780 by omega⟩) hw hA (fun H locs hw => ?_)
          clear hcl
          refine lv_iadd hx hb dL_isDay_113 ?_
          obtain ⟨r32, σ33, hcl, hf⟩ := xc2_f hf
          refine x_callLx (vx_runSX (hh := [(0, 6, 7, 125)]) (As := [.ref (E.a 0), .int r28, .int (1 + r30)]) (rest := []) ⟨hx, hb, hml, hown, hts⟩ (mL_mixed hl0 hE r28 (1 + r30) σ31 r32 σ33 hcl H.size) (vx_cwSW 3 hts gL_isDay_L_mixed rfl rfl rfl (by decide +kernel) ⟨Nat.le_of_ble_eq_true rfl, Nat.le_of_ble_eq_true rfl⟩) (x_preLS _ hw hA hGL) rfl rfl hl.1 rfl (lv_room (Nat.le_of_ble_eq_true rfl)) dL_isDay_114 ⟨show (((nc + 0) + 0) + 0) + 3 ≤ 5800 by omega, show (((ns + 0) + 0) + 0) + 18 ≤ 33780 by omega⟩) hw hA (fun H locs hw => ?_)
          clear hcl
          refine lv_iconst (v := (-1)) hx hb dL_isDay_117 (by decide) ?_
          refine lv_icmp_eq (tgt := 470) hx hb dL_isDay_118 (by decide) (fun c118 => ?_) (fun c118 => ?_)
          · replace hf := xif_pos c118 hf
            exact h470 a1 σ33 _ _ _ ((((nc + 0) + 0) + 0) + 3) ((((ns + 0) + 0) + 0) + 18) hw (lv_sub hl [1, 2] rfl) hf (by omega) (by omega)
          · replace hf := xif_neg c118 hf
            refine lv_aload_n hx hb dL_isDay_121 rfl (lv_at hl 1 rfl) ?_
            refine lv_dup hx hb dL_isDay_122 rfl ?_
            refine x_geti hx hb hw (cL52 hE) (own := RL) (ref := RL) (C := RL) (T := TL) (N := 10) hts hiL hown rfl 3 (by decide) hk143 (fun _ h9 => h9) rfl dL_isDay_123 ?_
            refine lv_iconst (v := 1) hx hb dL_isDay_126 (by decide) ?_
            refine lv_iadd hx hb dL_isDay_127 ?_
            refine x_puti hx hb hw (cL52 hE) (own := RL) (ref := RL) (C := RL) (T := TL) (N := 10) hts hiL tyL tyL_ok nmL hown rfl 3 (by decide) hk143 (fun _ h9 => h9) rfl (by decide +kernel) rfl dL_isDay_128 (fun σ34 H locs ex hw => ?_)
            replace hf := xp_f hf σ34 ex
            clear ex
            refine lv_goto (tgt := 470) hx hb dL_isDay_131 (by decide) ?_
            exact h470 a1 σ34 _ _ _ ((((nc + 0) + 0) + 0) + 3) ((((ns + 0) + 0) + 0) + 18) hw (lv_sub hl [1, 2] rfl) hf (by omega) (by omega)
  refine lv_aload_n hx hb dL_isDay_0 rfl (lv_at hl 0 rfl) ?_
  refine x_getr hx hb hw (cL52 hE) (own := RL) (ref := RL) (C := RL) (T := TL) (N := 10) hts hiL hown rfl 0 (by decide) hk10 (fun _ h9 => h9) rfl dL_isDay_1 ?_
  refine lv_bipush (v := 100) hx hb dL_isDay_4 (by decide) ?_
  refine lv_aload_n hx hb dL_isDay_6 rfl (lv_at hl 0 rfl) ?_
  refine x_getr hx hb hw (cL52 hE) (own := RL) (ref := RL) (C := RL) (T := TL) (N := 10) hts hiL hown rfl 1 (by decide) hk34 (fun _ h9 => h9) rfl dL_isDay_7 ?_
  refine lv_bipush (v := 30) hx hb dL_isDay_10 (by decide) ?_
  obtain ⟨r1, σ2, hcl, hf⟩ := xc2_f hf
  refine x_callLi (va_runV (As := [.int 30]) (rest := [.int 100, .ref (E.a 0)]) ⟨hx, hb, hml, hown, hts⟩ (mX12_next hl0 hE 30 σ r1 σ2 hcl s.heap.size) (cwV 1 hts gL_isDay_X12_next rfl rfl rfl (by decide +kernel) ⟨Nat.le_of_ble_eq_true rfl, Nat.le_of_ble_eq_true rfl⟩) (x_preLV _ hw hA hGL (cL53 hE) rfl) rfl rfl hl.1 rfl (lv_room (Nat.le_of_ble_eq_true rfl)) dL_isDay_12 ⟨show 0 + 0 ≤ 5800 by omega, show 0 + 0 ≤ 33780 by omega⟩) hw hA (fun H locs hw => ?_)
  clear hcl
  refine lv_iadd hx hb dL_isDay_15 ?_
  obtain ⟨r3, τ9, hcl, hf⟩ := xco_g hf
  refine x_tcallo (vx_runV (As := [.int (100 + r1)]) (rest := []) ⟨hx, hb, hml, hown, hts⟩ (mX11_setHeat hl0 (E := xCut E σ2) rfl (100 + r1) σ2 (.inl r3) τ9 hcl H.size) (cwV 1 hts gL_isDay_X11_setHeat rfl rfl rfl (by decide +kernel) ⟨Nat.le_of_ble_eq_true rfl, Nat.le_of_ble_eq_true rfl⟩) (x_preV _ (xw_cut hE hw) hA hG (cX0 (E := xCut E σ2) rfl) rfl) rfl rfl hl.1 rfl (lv_room (Nat.le_of_ble_eq_true rfl)) dL_isDay_16 ⟨show (0 + 0) + 1 ≤ 5800 by omega, show (0 + 0) + 6 ≤ 33780 by omega⟩) (xw_cut hE hw) hA (fun H locs hw => ?_)
  obtain ⟨σ4, eρ, hw⟩ := xw_unc2 hE hw
  replace hf := hf σ4 eρ
  clear eρ hcl
  refine lv_bipush (v := 20) hx hb dL_isDay_19 (by decide) ?_
  refine lv_icmp_lt (tgt := 54) hx hb dL_isDay_21 (by decide) (fun c21 => ?_) (fun c21 => ?_)
  · replace hf := xif_pos c21 hf
    refine lv_iconst (v := 0) hx hb dL_isDay_54 (by decide) ?_
    exact x_Lzretc hx hb hr hlk hw (by decide) hf (show ((0 + 0) + 1) ≤ 5800 by omega) (show ((0 + 0) + 6) ≤ 33780 by omega) dL_isDay_55
  · replace hf := xif_neg c21 hf
    refine lv_aload_n hx hb dL_isDay_24 rfl (lv_at hl 0 rfl) ?_
    refine x_getr hx hb hw (cL52 hE) (own := RL) (ref := RL) (C := RL) (T := TL) (N := 10) hts hiL hown rfl 0 (by decide) hk10 (fun _ h9 => h9) rfl dL_isDay_25 ?_
    refine lv_aload_n hx hb dL_isDay_28 rfl (lv_at hl 0 rfl) ?_
    refine x_geti hx hb hw (cL52 hE) (own := RL) (ref := RL) (C := RL) (T := TL) (N := 10) hts hiL hown rfl 4 (by decide) hk160 (fun _ h9 => h9) rfl dL_isDay_29 ?_
    obtain ⟨r5, τ9, hcl, hf⟩ := xco_g hf
    refine x_tcallo (vx_runV (As := [.int (σ4 52 4)]) (rest := []) ⟨hx, hb, hml, hown, hts⟩ (mX11_setDecks hl0 (E := xCut E σ4) rfl (σ4 52 4) σ4 (.inl r5) τ9 hcl H.size) (cwV 1 hts gL_isDay_X11_setDecks rfl rfl rfl (by decide +kernel) ⟨Nat.le_of_ble_eq_true rfl, Nat.le_of_ble_eq_true rfl⟩) (x_preV _ (xw_cut hE hw) hA hG (cX0 (E := xCut E σ4) rfl) rfl) rfl rfl hl.1 rfl (lv_room (Nat.le_of_ble_eq_true rfl)) dL_isDay_32 ⟨show ((0 + 0) + 1) + 1 ≤ 5800 by omega, show ((0 + 0) + 6) + 6 ≤ 33780 by omega⟩) (xw_cut hE hw) hA (fun H locs hw => ?_)
    obtain ⟨σ6, eρ, hw⟩ := xw_unc2 hE hw
    replace hf := hf σ6 eρ
    clear eρ hcl
    refine lv_iconst (v := 1) hx hb dL_isDay_35 (by decide) ?_
    refine lv_icmp_lt (tgt := 54) hx hb dL_isDay_36 (by decide) (fun c36 => ?_) (fun c36 => ?_)
    · replace hf := xif_pos c36 hf
      refine lv_iconst (v := 0) hx hb dL_isDay_54 (by decide) ?_
      exact x_Lzretc hx hb hr hlk hw (by decide) hf (show (((0 + 0) + 1) + 1) ≤ 5800 by omega) (show (((0 + 0) + 6) + 6) ≤ 33780 by omega) dL_isDay_55
    · replace hf := xif_neg c36 hf
      refine lv_aload_n hx hb dL_isDay_39 rfl (lv_at hl 0 rfl) ?_
      refine x_getr hx hb hw (cL52 hE) (own := RL) (ref := RL) (C := RL) (T := TL) (N := 10) hts hiL hown rfl 0 (by decide) hk10 (fun _ h9 => h9) rfl dL_isDay_40 ?_
      refine lv_aload_n hx hb dL_isDay_43 rfl (lv_at hl 0 rfl) ?_
      refine x_geti hx hb hw (cL52 hE) (own := RL) (ref := RL) (C := RL) (T := TL) (N := 10) hts hiL hown rfl 5 (by decide) hk139 (fun _ h9 => h9) rfl dL_isDay_44 ?_
      obtain ⟨r7, τ9, hcl, hf⟩ := xco_g hf
      refine x_tcallo (vx_runV (As := [.int (σ6 52 5)]) (rest := []) ⟨hx, hb, hml, hown, hts⟩ (mX11_setWarmth hl0 (E := xCut E σ6) rfl (σ6 52 5) σ6 (.inl r7) τ9 hcl H.size) (cwV 1 hts gL_isDay_X11_setWarmth rfl rfl rfl (by decide +kernel) ⟨Nat.le_of_ble_eq_true rfl, Nat.le_of_ble_eq_true rfl⟩) (x_preV _ (xw_cut hE hw) hA hG (cX0 (E := xCut E σ6) rfl) rfl) rfl rfl hl.1 rfl (lv_room (Nat.le_of_ble_eq_true rfl)) dL_isDay_47 ⟨show (((0 + 0) + 1) + 1) + 1 ≤ 5800 by omega, show (((0 + 0) + 6) + 6) + 6 ≤ 33780 by omega⟩) (xw_cut hE hw) hA (fun H locs hw => ?_)
      obtain ⟨σ8, eρ, hw⟩ := xw_unc2 hE hw
      replace hf := hf σ8 eρ
      clear eρ hcl
      refine lv_iconst (v := 2) hx hb dL_isDay_50 (by decide) ?_
      refine lv_icmp_eq (tgt := 56) hx hb dL_isDay_51 (by decide) (fun c51 => ?_) (fun c51 => ?_)
      · replace hf := xif_pos c51 hf
        refine lv_bipush (v := 6) hx hb dL_isDay_56 (by decide) ?_
        refine lv_aload_n hx hb dL_isDay_58 rfl (lv_at hl 0 rfl) ?_
        refine x_getr hx hb hw (cL52 hE) (own := RL) (ref := RL) (C := RL) (T := TL) (N := 10) hts hiL hown rfl 1 (by decide) hk34 (fun _ h9 => h9) rfl dL_isDay_59 ?_
        refine lv_bipush (v := 10) hx hb dL_isDay_62 (by decide) ?_
        obtain ⟨r9, σ10, hcl, hf⟩ := xc2_f hf
        refine x_callLi (va_runV (As := [.int 10]) (rest := [.int 6]) ⟨hx, hb, hml, hown, hts⟩ (mX12_next hl0 hE 10 σ8 r9 σ10 hcl H.size) (cwV 1 hts gL_isDay_X12_next rfl rfl rfl (by decide +kernel) ⟨Nat.le_of_ble_eq_true rfl, Nat.le_of_ble_eq_true rfl⟩) (x_preLV _ hw hA hGL (cL53 hE) rfl) rfl rfl hl.1 rfl (lv_room (Nat.le_of_ble_eq_true rfl)) dL_isDay_64 ⟨show ((((0 + 0) + 1) + 1) + 1) + 0 ≤ 5800 by omega, show ((((0 + 0) + 6) + 6) + 6) + 0 ≤ 33780 by omega⟩) hw hA (fun H locs hw => ?_)
        clear hcl
        refine lv_iadd hx hb dL_isDay_67 ?_
        refine lv_topi (fun v11 ex => ?_)
        replace hf := xl_f hf v11 ex
        clear ex
        refine lv_istore_n (lv' := [(1, .int v11), (0, .ref (E.a 52))]) hx hb dL_isDay_68 rfl hl (by decide) rfl (fun ls hl => ?_)
        exact h69 xF17 v11 σ10 _ _ _ (((((0 + 0) + 1) + 1) + 1) + 0) (((((0 + 0) + 6) + 6) + 6) + 0) hw (lv_sub hl [1, 0] rfl) hf (by omega) (by omega)
      · replace hf := xif_neg c51 hf
        refine lv_iconst (v := 0) hx hb dL_isDay_54 (by decide) ?_
        exact x_Lzretc hx hb hr hlk hw (by decide) hf (show ((((0 + 0) + 1) + 1) + 1) ≤ 5800 by omega) (show ((((0 + 0) + 6) + 6) + 6) ≤ 33780 by omega) dL_isDay_55
