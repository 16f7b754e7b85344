def fL_isDriven_c229 : Nat → Int32 → Int32 → Int32 → Int32 → Int32 → xSt → Option (Int32 × xSt)
  | 0 => fun _ _ _ _ _ _ => none
  | n + 1 => fun a1 a2 a4 a6 a7 σ => (if a1 ≤ a7 then (if a6 = a4 then some (1, σ) else some (0, σ)) else (xco (fX11_shopOf a2 a7 σ) σ fun r33 σ34 => (xl ((10 * a6) + r33) fun v35 => (xl (a7 + 1) fun v36 => fL_isDriven_c229 n a1 a2 a4 v35 v36 σ34))))
theorem fL_isDriven_c229_s (n : Nat) (a1 : Int32) (a2 : Int32) (a4 : Int32) (a6 : Int32) (a7 : Int32) (σ : xSt) : fL_isDriven_c229 (n + 1) a1 a2 a4 a6 a7 σ = ((if a1 ≤ a7 then (if a6 = a4 then some (1, σ) else some (0, σ)) else (xco (fX11_shopOf a2 a7 σ) σ fun r33 σ34 => (xl ((10 * a6) + r33) fun v35 => (xl (a7 + 1) fun v36 => fL_isDriven_c229 n a1 a2 a4 v35 v36 σ34)))) : Option (Int32 × xSt)) := rfl
def fL_isDriven_c134 : Nat → Int32 → Int32 → Int32 → Int32 → Int32 → Int32 → xSt → Option (Int32 × xSt)
  | 0 => fun _ _ _ _ _ _ _ => none
  | n + 1 => fun a1 a2 a3 a4 a5 a6 σ => (if a5 ≤ a6 then (if a3 = 2147483647 then (xc2 (fL_hasNoWay a2 σ) fun r23 σ24 => xb r23 (some (r23, σ24))) else (xco (fX11_comesBack a2 σ) σ fun r21 σ22 => (if r21 = a3 then fL_isDriven_c229 xF6 a1 a2 a4 0 0 σ22 else some (0, σ22)))) else (xc2 (fL_isRow a6 a1 σ) fun r25 σ26 => (if r25 = 0 then (xl (a6 + 1) fun v32 => fL_isDriven_c134 n a1 a2 a3 a4 a5 v32 σ26) else (xco (fX11_wayBack a2 a6 σ26) σ26 fun r27 σ28 => (if r27 = (-1) then (xl (a6 + 1) fun v29 => fL_isDriven_c134 n a1 a2 a3 a4 a5 v29 σ28) else (if r27 < a3 then (xl (a6 + 1) fun v30 => fL_isDriven_c134 n a1 a2 r27 a6 a5 v30 σ28) else (xl (a6 + 1) fun v31 => fL_isDriven_c134 n a1 a2 a3 a4 a5 v31 σ28)))))))
theorem fL_isDriven_c134_s (n : Nat) (a1 : Int32) (a2 : Int32) (a3 : Int32) (a4 : Int32) (a5 : Int32) (a6 : Int32) (σ : xSt) : fL_isDriven_c134 (n + 1) a1 a2 a3 a4 a5 a6 σ = ((if a5 ≤ a6 then (if a3 = 2147483647 then (xc2 (fL_hasNoWay a2 σ) fun r23 σ24 => xb r23 (some (r23, σ24))) else (xco (fX11_comesBack a2 σ) σ fun r21 σ22 => (if r21 = a3 then fL_isDriven_c229 xF6 a1 a2 a4 0 0 σ22 else some (0, σ22)))) else (xc2 (fL_isRow a6 a1 σ) fun r25 σ26 => (if r25 = 0 then (xl (a6 + 1) fun v32 => fL_isDriven_c134 n a1 a2 a3 a4 a5 v32 σ26) else (xco (fX11_wayBack a2 a6 σ26) σ26 fun r27 σ28 => (if r27 = (-1) then (xl (a6 + 1) fun v29 => fL_isDriven_c134 n a1 a2 a3 a4 a5 v29 σ28) else (if r27 < a3 then (xl (a6 + 1) fun v30 => fL_isDriven_c134 n a1 a2 r27 a6 a5 v30 σ28) else (xl (a6 + 1) fun v31 => fL_isDriven_c134 n a1 a2 a3 a4 a5 v31 σ28))))))) : Option (Int32 × xSt)) := rfl
def fL_isDriven_c112 : Nat → Int32 → Int32 → Int32 → Int32 → Int32 → Int32 → xSt → Option (Int32 × xSt)
  | 0 => fun _ _ _ _ _ _ _ => none
  | n + 1 => fun a1 a2 a3 a4 a5 a6 σ => (if a1 ≤ a6 then fL_isDriven_c134 xF10002 a1 a2 a3 a4 a5 0 σ else (xl (a5 * 10) fun v19 => (xl (a6 + 1) fun v20 => fL_isDriven_c112 n a1 a2 a3 a4 v19 v20 σ)))
theorem fL_isDriven_c112_s (n : Nat) (a1 : Int32) (a2 : Int32) (a3 : Int32) (a4 : Int32) (a5 : Int32) (a6 : Int32) (σ : xSt) : fL_isDriven_c112 (n + 1) a1 a2 a3 a4 a5 a6 σ = ((if a1 ≤ a6 then fL_isDriven_c134 xF10002 a1 a2 a3 a4 a5 0 σ else (xl (a5 * 10) fun v19 => (xl (a6 + 1) fun v20 => fL_isDriven_c112 n a1 a2 a3 a4 v19 v20 σ))) : Option (Int32 × xSt)) := rfl
def fL_isDriven_c13 : Nat → Int32 → Int32 → xSt → Option (Int32 × xSt)
  | 0 => fun _ _ _ => none
  | n + 1 => fun a1 a2 σ => (if a1 ≤ a2 then (xc2 (fX12_next 40 σ) fun r4 σ5 => fL_isDriven_c112 xFU a1 r4 2147483647 0 1 0 σ5) else (xc2 (fX12_next 80 σ) fun r6 σ7 => (xc2 (fX12_next 21 σ7) fun r8 σ9 => (xc2 (fX12_next 21 σ9) fun r10 σ11 => (xc2 (fX12_next 120 σ11) fun r12 σ13 => (xc2 (fX12_next 10 σ13) fun r14 σ15 => (xco (fX11_addShop r8 r10 r6 ((r6 + 20) + r12) r14 σ15) σ15 fun r16 σ17 => (if r16 = a2 then (xl (a2 + 1) fun v18 => fL_isDriven_c13 n a1 v18 σ17) else some (0, σ17)))))))))
theorem fL_isDriven_c13_s (n : Nat) (a1 : Int32) (a2 : Int32) (σ : xSt) : fL_isDriven_c13 (n + 1) a1 a2 σ = ((if a1 ≤ a2 then (xc2 (fX12_next 40 σ) fun r4 σ5 => fL_isDriven_c112 xFU a1 r4 2147483647 0 1 0 σ5) else (xc2 (fX12_next 80 σ) fun r6 σ7 => (xc2 (fX12_next 21 σ7) fun r8 σ9 => (xc2 (fX12_next 21 σ9) fun r10 σ11 => (xc2 (fX12_next 120 σ11) fun r12 σ13 => (xc2 (fX12_next 10 σ13) fun r14 σ15 => (xco (fX11_addShop r8 r10 r6 ((r6 + 20) + r12) r14 σ15) σ15 fun r16 σ17 => (if r16 = a2 then (xl (a2 + 1) fun v18 => fL_isDriven_c13 n a1 v18 σ17) else some (0, σ17))))))))) : Option (Int32 × xSt)) := rfl
def fL_isDriven (σ : xSt) : Option (Int32 × xSt) := (xc2 (fX12_next 4 σ) fun r1 σ2 => (xl (1 + r1) fun v3 => fL_isDriven_c13 xF6 v3 0 σ2))
abbrev rmL_isDriven : Room := { frames := 17, cells := 10034, slots := 60204, locals := 468 }
set_option maxRecDepth 100000 in
set_option maxHeartbeats 8000000 in
theorem mL_isDriven {l : Launch} (hl0 : l.stackTraces = false) {E : xE} (hE : xLE E) (σ : xSt) (o1 : Int32) (o2 : xSt) (hf : fL_isDriven σ = some (o1, o2)) : xLi l yL_isDriven wsL_isDriven rmL_isDriven E [.ref (E.a 52)] σ o1 o2 10034 60204 := by
  unfold fL_isDriven at hf
  refine xLi_of (cc := cL_isDriven) (maxL := 8) (ret := (some .boolean)) (by decide) rfl (Nat.le_of_ble_eq_true rfl) ?_
  intro p e s m args below meth c A ls ⟨hx, hb, hr, hml, hown, hts, hlk⟩ hA hGL hw hl
  have hG := hGL.1
  have eF6 : xF6 = 6 := rfl
  have eF10002 : xF10002 = 10002 := rfl
  have hown : s.vm.findClass RL = some m.cls := hown
  have hl : lv_has ls 8 [(0, .ref (E.a 52))] := hl
  have hk34 := hts (.fieldLink RL 34 "OvenRoundLaw" "d" "LOvenRoundLaw$Draws;") (by decide +kernel)
  have hiL : ∀ w ∈ wsL0, w ∈ wsL_isDriven := by decide +kernel
  have hk10 := hts (.fieldLink RL 10 "OvenRoundLaw" "o" "LOvenRound;") (by decide +kernel)
  have h229 : ∀ (n : Nat) (a1 : Int32) (a2 : Int32) (a4 : Int32) (a6 : Int32) (a7 : Int32) (σ : xSt) (H : Heap) (locs : List Loc) (ls : Array Slot) (nc ns : Nat), xw E A s.heap s σ H locs → lv_has ls 8 [(0, .ref (E.a 52)), (1, .int a1), (2, .int a2), (4, .int a4), (6, .int a6), (7, .int a7)] → fL_isDriven_c229 n a1 a2 a4 a6 a7 σ = some (o1, o2) → nc + (0 + 3 * n) ≤ 10034 → ns + (0 + 18 * n) ≤ 60204 → W p l e rmL_isDriven s m args below meth c H locs nc ns (MQ below (xQi E A o1 o2) args s 10034 60204 A) (F0 m 229 ls []) := by
    intro n229
    induction n229 with
    | zero => intro a1 a2 a4 a6 a7 σ H locs ls nc ns hw hl hf hnc hns; exact nomatch hf
    | succ n229 ih229 =>
      intro a1 a2 a4 a6 a7 σ H locs ls nc ns hw hl hf hnc hns
      rw [fL_isDriven_c229_s] at hf
      refine lv_iload hx hb dL_isDriven_229 (lv_at hl 5 rfl) ?_
      refine lv_iload_n hx hb dL_isDriven_231 rfl (lv_at hl 1 rfl) ?_
      refine lv_icmp_ge (tgt := 259) hx hb dL_isDriven_232 (by decide) (fun c232 => ?_) (fun c232 => ?_)
      · replace hf := xif_pos c232 hf
        refine lv_iload hx hb dL_isDriven_259 (lv_at hl 4 rfl) ?_
        refine lv_iload hx hb dL_isDriven_261 (lv_at hl 3 rfl) ?_
        refine lv_icmp_ne (tgt := 270) hx hb dL_isDriven_263 (by decide) (fun c263 => ?_) (fun c263 => ?_)
        · replace hf := xif_neg c263 hf
          refine lv_iconst (v := 0) hx hb dL_isDriven_270 (by decide) ?_
          exact x_Lzretc hx hb hr hlk hw (by decide) hf (show nc ≤ 10034 by omega) (show ns ≤ 60204 by omega) dL_isDriven_271
        · replace hf := xif_pos c263 hf
          refine lv_iconst (v := 1) hx hb dL_isDriven_266 (by decide) ?_
          refine lv_goto (tgt := 271) hx hb dL_isDriven_267 (by decide) ?_
          exact x_Lzretc hx hb hr hlk hw (by decide) hf (show nc ≤ 10034 by omega) (show ns ≤ 60204 by omega) dL_isDriven_271
      · replace hf := xif_neg c232 hf
        refine lv_bipush (v := 10) hx hb dL_isDriven_235 (by decide) ?_
        refine lv_iload hx hb dL_isDriven_237 (lv_at hl 4 rfl) ?_
        refine lv_imul hx hb dL_isDriven_239 ?_
        refine lv_aload_n hx hb dL_isDriven_240 rfl (lv_at hl 0 rfl) ?_
        refine x_getr hx hb hw (cL52 hE) (own := RL) (ref := RL) (C := RL) (T := TL) (N := 10) hts hiL hown rfl 0 (by decide) hk10 (fun _ h9 => h9) rfl dL_isDriven_241 ?_
        refine lv_iload_n hx hb dL_isDriven_244 rfl (lv_at hl 2 rfl) ?_
        refine lv_iload hx hb dL_isDriven_245 (lv_at hl 5 rfl) ?_
        obtain ⟨r33, τ9, hcl, hf⟩ := xco_g hf
        refine x_tcallo (vx_runV (As := [.int a2, .int a7]) (rest := [.int (10 * a6)]) ⟨hx, hb, hml, hown, hts⟩ (mX11_shopOf hl0 (E := xCut E σ) rfl a2 a7 σ (.inl r33) τ9 hcl H.size) (cwV 2 hts gL_isDriven_X11_shopOf rfl rfl rfl (by decide +kernel) ⟨Nat.le_of_ble_eq_true rfl, Nat.le_of_ble_eq_true rfl⟩) (x_preV _ (xw_cut hE hw) hA hG (cX0 (E := xCut E σ) rfl) rfl) rfl rfl hl.1 rfl (lv_room (Nat.le_of_ble_eq_true rfl)) dL_isDriven_247 ⟨show nc + 3 ≤ 10034 by omega, show ns + 18 ≤ 60204 by omega⟩) (xw_cut hE hw) hA (fun H locs hw => ?_)
        obtain ⟨σ34, eρ, hw⟩ := xw_unc2 hE hw
        replace hf := hf σ34 eρ
        clear eρ hcl
        refine lv_iadd hx hb dL_isDriven_250 ?_
        refine lv_topi (fun v35 ex => ?_)
        replace hf := xl_f hf v35 ex
        clear ex
        refine lv_istore (lv' := [(6, .int v35), (0, .ref (E.a 52)), (1, .int a1), (2, .int a2), (4, .int a4), (7, .int a7)]) hx hb dL_isDriven_251 hl (by decide) rfl (fun ls hl => ?_)
        obtain ⟨v36, ex⟩ : ∃ y : Int32, y = (a7 + 1) := ⟨_, rfl⟩
        replace hf := xl_f hf v36 ex
        refine lv_iinc (v := v36) (lv' := [(7, .int v36), (6, .int v35), (0, .ref (E.a 52)), (1, .int a1), (2, .int a2), (4, .int a4)]) hx hb dL_isDriven_253 hl (k := 5) rfl (by rw [ex]; rfl) (by decide) rfl (fun ls hl => ?_)
        clear ex
        refine lv_goto (tgt := 229) hx hb dL_isDriven_256 (by decide) ?_
        exact ih229 a1 a2 a4 v35 v36 σ34 _ _ _ (nc + 3) (ns + 18) hw (lv_sub hl [2, 3, 4, 5, 1, 0] rfl) hf (by omega) (by omega)
  have h134 : ∀ (n : Nat) (a1 : Int32) (a2 : Int32) (a3 : Int32) (a4 : Int32) (a5 : Int32) (a6 : Int32) (σ : xSt) (H : Heap) (locs : List Loc) (ls : Array Slot) (nc ns : Nat), xw E A s.heap s σ H locs → lv_has ls 8 [(0, .ref (E.a 52)), (1, .int a1), (2, .int a2), (3, .int a3), (4, .int a4), (5, .int a5), (6, .int a6)] → fL_isDriven_c134 n a1 a2 a3 a4 a5 a6 σ = some (o1, o2) → nc + (20 + 1 * n) ≤ 10034 → ns + (120 + 6 * n) ≤ 60204 → W p l e rmL_isDriven s m args below meth c H locs nc ns (MQ below (xQi E A o1 o2) args s 10034 60204 A) (F0 m 134 ls []) := by
    intro n134
    induction n134 with
    | zero => intro a1 a2 a3 a4 a5 a6 σ H locs ls nc ns hw hl hf hnc hns; exact nomatch hf
    | succ n134 ih134 =>
      intro a1 a2 a3 a4 a5 a6 σ H locs ls nc ns hw hl hf hnc hns
      rw [fL_isDriven_c134_s] at hf
      refine lv_iload hx hb dL_isDriven_134 (lv_at hl 6 rfl) ?_
      refine lv_iload hx hb dL_isDriven_136 (lv_at hl 5 rfl) ?_
      refine lv_icmp_ge (tgt := 193) hx hb dL_isDriven_138 (by decide) (fun c138 => ?_) (fun c138 => ?_)
      · replace hf := xif_pos c138 hf
        refine lv_iload_n hx hb dL_isDriven_193 rfl (lv_at hl 3 rfl) ?_
        refine lv_ldcw hx hb hown (hts (.constant RL 268 (2147483647)) (by decide +kernel)) dL_isDriven_194 ?_
        refine lv_icmp_ne (tgt := 209) hx hb dL_isDriven_197 (by decide) (fun c197 => ?_) (fun c197 => ?_)
        · replace hf := xif_neg c197 hf
          refine lv_aload_n hx hb dL_isDriven_209 rfl (lv_at hl 0 rfl) ?_
          refine x_getr hx hb hw (cL52 hE) (own := RL) (ref := RL) (C := RL) (T := TL) (N := 10) hts hiL hown rfl 0 (by decide) hk10 (fun _ h9 => h9) rfl dL_isDriven_210 ?_
          refine lv_iload_n hx hb dL_isDriven_213 rfl (lv_at hl 2 rfl) ?_
          obtain ⟨r21, τ9, hcl, hf⟩ := xco_g hf
          refine x_tcallo (vx_runV (As := [.int a2]) (rest := []) ⟨hx, hb, hml, hown, hts⟩ (mX11_comesBack hl0 (E := xCut E σ) rfl a2 σ (.inl r21) τ9 hcl H.size) (cwV 1 hts gL_isDriven_X11_comesBack rfl rfl rfl (by decide +kernel) ⟨Nat.le_of_ble_eq_true rfl, Nat.le_of_ble_eq_true rfl⟩) (x_preV _ (xw_cut hE hw) hA hG (cX0 (E := xCut E σ) rfl) rfl) rfl rfl hl.1 rfl (lv_room (Nat.le_of_ble_eq_true rfl)) dL_isDriven_214 ⟨show nc + 2 ≤ 10034 by omega, show ns + 12 ≤ 60204 by omega⟩) (xw_cut hE hw) hA (fun H locs hw => ?_)
          obtain ⟨σ22, eρ, hw⟩ := xw_unc2 hE hw
          replace hf := hf σ22 eρ
          clear eρ hcl
          refine lv_iload_n hx hb dL_isDriven_217 rfl (lv_at hl 3 rfl) ?_
          refine lv_icmp_eq (tgt := 223) hx hb dL_isDriven_218 (by decide) (fun c218 => ?_) (fun c218 => ?_)
          · replace hf := xif_pos c218 hf
            refine lv_iconst (v := 0) hx hb dL_isDriven_223 (by decide) ?_
            refine lv_istore (lv' := [(6, .int 0), (0, .ref (E.a 52)), (1, .int a1), (2, .int a2), (3, .int a3), (4, .int a4), (5, .int a5)]) hx hb dL_isDriven_224 hl (by decide) rfl (fun ls hl => ?_)
            refine lv_iconst (v := 0) hx hb dL_isDriven_226 (by decide) ?_
            refine lv_istore (lv' := [(7, .int 0), (6, .int 0), (0, .ref (E.a 52)), (1, .int a1), (2, .int a2), (3, .int a3), (4, .int a4), (5, .int a5)]) hx hb dL_isDriven_227 hl (by decide) rfl (fun ls hl => ?_)
            exact h229 xF6 a1 a2 a4 0 0 σ22 _ _ _ (nc + 2) (ns + 12) hw (lv_sub hl [2, 3, 4, 6, 1, 0] rfl) hf (by omega) (by omega)
          · replace hf := xif_neg c218 hf
            refine lv_iconst (v := 0) hx hb dL_isDriven_221 (by decide) ?_
            exact x_Lzretc hx hb hr hlk hw (by decide) hf (show (nc + 2) ≤ 10034 by omega) (show (ns + 12) ≤ 60204 by omega) dL_isDriven_222
        · replace hf := xif_pos c197 hf
          refine lv_aload_n hx hb dL_isDriven_200 rfl (lv_at hl 0 rfl) ?_
          refine x_getr hx hb hw (cL52 hE) (own := RL) (ref := RL) (C := RL) (T := TL) (N := 10) hts hiL hown rfl 0 (by decide) hk10 (fun _ h9 => h9) rfl dL_isDriven_201 ?_
          refine lv_iload_n hx hb dL_isDriven_204 rfl (lv_at hl 2 rfl) ?_
          obtain ⟨r23, σ24, hcl, hf⟩ := xc2_f hf
          refine x_callLx (vx_runSX (hh := [(0, 13, 14, 229)]) (As := [.ref (E.a 0), .int a2]) (rest := []) ⟨hx, hb, hml, hown, hts⟩ (mL_hasNoWay hl0 hE a2 σ r23 σ24 hcl H.size) (vx_cwSW 2 hts gL_isDriven_L_hasNoWay rfl rfl rfl (by decide +kernel) ⟨Nat.le_of_ble_eq_true rfl, Nat.le_of_ble_eq_true rfl⟩) (x_preLS _ hw hA hGL) rfl rfl hl.1 rfl (lv_room (Nat.le_of_ble_eq_true rfl)) dL_isDriven_205 ⟨show nc + 2 ≤ 10034 by omega, show ns + 12 ≤ 60204 by omega⟩) hw hA (fun H locs hw => ?_)
          clear hcl
          exact x_Lzret hx hb hr hlk hw hf (show (nc + 2) ≤ 10034 by omega) (show (ns + 12) ≤ 60204 by omega) dL_isDriven_208
      · replace hf := xif_neg c138 hf
        refine lv_iload hx hb dL_isDriven_141 (lv_at hl 6 rfl) ?_
        refine lv_iload_n hx hb dL_isDriven_143 rfl (lv_at hl 1 rfl) ?_
        obtain ⟨r25, σ26, hcl, hf⟩ := xc2_f hf
        refine x_callLi (va_runS (As := [.int a6, .int a1]) (rest := []) ⟨hx, hb, hml, hown, hts⟩ (mL_isRow hl0 hE a6 a1 σ r25 σ26 hcl H.size) (va_cwS 2 hts gL_isDriven_L_isRow rfl rfl rfl (by decide +kernel) ⟨Nat.le_of_ble_eq_true rfl, Nat.le_of_ble_eq_true rfl⟩) (x_preLS _ hw hA hGL) rfl rfl hl.1 rfl (lv_room (Nat.le_of_ble_eq_true rfl)) dL_isDriven_144 ⟨show nc + 0 ≤ 10034 by omega, show ns + 0 ≤ 60204 by omega⟩) hw hA (fun H locs hw => ?_)
        clear hcl
        refine lv_if_ne (tgt := 153) hx hb dL_isDriven_147 (by decide) (fun c147 => ?_) (fun c147 => ?_)
        · replace hf := xif_neg c147 hf
          refine lv_aload_n hx hb dL_isDriven_153 rfl (lv_at hl 0 rfl) ?_
          refine x_getr hx hb hw (cL52 hE) (own := RL) (ref := RL) (C := RL) (T := TL) (N := 10) hts hiL hown rfl 0 (by decide) hk10 (fun _ h9 => h9) rfl dL_isDriven_154 ?_
          refine lv_iload_n hx hb dL_isDriven_157 rfl (lv_at hl 2 rfl) ?_
          refine lv_iload hx hb dL_isDriven_158 (lv_at hl 6 rfl) ?_
          obtain ⟨r27, τ9, hcl, hf⟩ := xco_g hf
          refine x_tcallo (vx_runV (As := [.int a2, .int a6]) (rest := []) ⟨hx, hb, hml, hown, hts⟩ (mX11_wayBack hl0 (E := xCut E σ26) rfl a2 a6 σ26 (.inl r27) τ9 hcl H.size) (cwV 2 hts gL_isDriven_X11_wayBack rfl rfl rfl (by decide +kernel) ⟨Nat.le_of_ble_eq_true rfl, Nat.le_of_ble_eq_true rfl⟩) (x_preV _ (xw_cut hE hw) hA hG (cX0 (E := xCut E σ26) rfl) rfl) rfl rfl hl.1 rfl (lv_room (Nat.le_of_ble_eq_true rfl)) dL_isDriven_160 ⟨show (nc + 0) + 1 ≤ 10034 by omega, show (ns + 0) + 6 ≤ 60204 by omega⟩) (xw_cut hE hw) hA (fun H locs hw => ?_)
          obtain ⟨σ28, eρ, hw⟩ := xw_unc2 hE hw
          replace hf := hf σ28 eρ
          clear eρ hcl
          refine lv_istore (lv' := [(7, .int r27), (0, .ref (E.a 52)), (1, .int a1), (2, .int a2), (3, .int a3), (4, .int a4), (5, .int a5), (6, .int a6)]) hx hb dL_isDriven_163 hl (by decide) rfl (fun ls hl => ?_)
          refine lv_iload hx hb dL_isDriven_165 (lv_at hl 0 rfl) ?_
          refine lv_iconst (v := (-1)) hx hb dL_isDriven_167 (by decide) ?_
          refine lv_icmp_eq (tgt := 187) hx hb dL_isDriven_168 (by decide) (fun c168 => ?_) (fun c168 => ?_)
          · replace hf := xif_pos c168 hf
            obtain ⟨v29, ex⟩ : ∃ y : Int32, y = (a6 + 1) := ⟨_, rfl⟩
            replace hf := xl_f hf v29 ex
            refine lv_iinc (v := v29) (lv' := [(6, .int v29), (7, .int r27), (0, .ref (E.a 52)), (1, .int a1), (2, .int a2), (3, .int a3), (4, .int a4), (5, .int a5)]) hx hb dL_isDriven_187 hl (k := 7) rfl (by rw [ex]; rfl) (by decide) rfl (fun ls hl => ?_)
            clear ex
            refine lv_goto (tgt := 134) hx hb dL_isDriven_190 (by decide) ?_
            exact ih134 a1 a2 a3 a4 a5 v29 σ28 _ _ _ ((nc + 0) + 1) ((ns + 0) + 6) hw (lv_sub hl [2, 3, 4, 5, 6, 7, 0] rfl) hf (by omega) (by omega)
          · replace hf := xif_neg c168 hf
            refine lv_iload hx hb dL_isDriven_171 (lv_at hl 0 rfl) ?_
            refine lv_iload_n hx hb dL_isDriven_173 rfl (lv_at hl 4 rfl) ?_
            refine lv_icmp_lt (tgt := 180) hx hb dL_isDriven_174 (by decide) (fun c174 => ?_) (fun c174 => ?_)
            · replace hf := xif_pos c174 hf
              refine lv_iload hx hb dL_isDriven_180 (lv_at hl 0 rfl) ?_
              refine lv_istore_n (lv' := [(3, .int r27), (7, .int r27), (0, .ref (E.a 52)), (1, .int a1), (2, .int a2), (4, .int a4), (5, .int a5), (6, .int a6)]) hx hb dL_isDriven_182 rfl hl (by decide) rfl (fun ls hl => ?_)
              refine lv_iload hx hb dL_isDriven_183 (lv_at hl 7 rfl) ?_
              refine lv_istore (lv' := [(4, .int a6), (3, .int r27), (7, .int r27), (0, .ref (E.a 52)), (1, .int a1), (2, .int a2), (5, .int a5), (6, .int a6)]) hx hb dL_isDriven_185 hl (by decide) rfl (fun ls hl => ?_)
              obtain ⟨v30, ex⟩ : ∃ y : Int32, y = (a6 + 1) := ⟨_, rfl⟩
              replace hf := xl_f hf v30 ex
              refine lv_iinc (v := v30) (lv' := [(6, .int v30), (4, .int a6), (3, .int r27), (7, .int r27), (0, .ref (E.a 52)), (1, .int a1), (2, .int a2), (5, .int a5)]) hx hb dL_isDriven_187 hl (k := 7) rfl (by rw [ex]; rfl) (by decide) rfl (fun ls hl => ?_)
              clear ex
              refine lv_goto (tgt := 134) hx hb dL_isDriven_190 (by decide) ?_
              exact ih134 a1 a2 r27 a6 a5 v30 σ28 _ _ _ ((nc + 0) + 1) ((ns + 0) + 6) hw (lv_sub hl [4, 5, 6, 2, 1, 7, 0] rfl) hf (by omega) (by omega)
            · replace hf := xif_neg c174 hf
              refine lv_goto (tgt := 187) hx hb dL_isDriven_177 (by decide) ?_
              obtain ⟨v31, ex⟩ : ∃ y : Int32, y = (a6 + 1) := ⟨_, rfl⟩
              replace hf := xl_f hf v31 ex
              refine lv_iinc (v := v31) (lv' := [(6, .int v31), (7, .int r27), (0, .ref (E.a 52)), (1, .int a1), (2, .int a2), (3, .int a3), (4, .int a4), (5, .int a5)]) hx hb dL_isDriven_187 hl (k := 7) rfl (by rw [ex]; rfl) (by decide) rfl (fun ls hl => ?_)
              clear ex
              refine lv_goto (tgt := 134) hx hb dL_isDriven_190 (by decide) ?_
              exact ih134 a1 a2 a3 a4 a5 v31 σ28 _ _ _ ((nc + 0) + 1) ((ns + 0) + 6) hw (lv_sub hl [2, 3, 4, 5, 6, 7, 0] rfl) hf (by omega) (by omega)
        · replace hf := xif_pos c147 hf
          refine lv_goto (tgt := 187) hx hb dL_isDriven_150 (by decide) ?_
          obtain ⟨v32, ex⟩ : ∃ y : Int32, y = (a6 + 1) := ⟨_, rfl⟩
          replace hf := xl_f hf v32 ex
          refine lv_iinc (v := v32) (lv' := [(6, .int v32), (0, .ref (E.a 52)), (1, .int a1), (2, .int a2), (3, .int a3), (4, .int a4), (5, .int a5)]) hx hb dL_isDriven_187 hl (k := 6) rfl (by rw [ex]; rfl) (by decide) rfl (fun ls hl => ?_)
          clear ex
          refine lv_goto (tgt := 134) hx hb dL_isDriven_190 (by decide) ?_
          exact ih134 a1 a2 a3 a4 a5 v32 σ26 _ _ _ (nc + 0) (ns + 0) hw (lv_sub hl [1, 2, 3, 4, 5, 6, 0] rfl) hf (by omega) (by omega)
  have h112 : ∀ (n : Nat) (a1 : Int32) (a2 : Int32) (a3 : Int32) (a4 : Int32) (a5 : Int32) (a6 : Int32) (σ : xSt) (H : Heap) (locs : List Loc) (ls : Array Slot) (nc ns : Nat), xw E A s.heap s σ H locs → lv_has ls 8 [(0, .ref (E.a 52)), (1, .int a1), (2, .int a2), (3, .int a3), (4, .int a4), (5, .int a5), (6, .int a6)] → fL_isDriven_c112 n a1 a2 a3 a4 a5 a6 σ = some (o1, o2) → nc + (10022) ≤ 10034 → ns + (60132) ≤ 60204 → W p l e rmL_isDriven s m args below meth c H locs nc ns (MQ below (xQi E A o1 o2) args s 10034 60204 A) (F0 m 112 ls []) := by
    intro n112
    induction n112 with
    | zero => intro a1 a2 a3 a4 a5 a6 σ H locs ls nc ns hw hl hf hnc hns; exact nomatch hf
    | succ n112 ih112 =>
      intro a1 a2 a3 a4 a5 a6 σ H locs ls nc ns hw hl hf hnc hns
      rw [fL_isDriven_c112_s] at hf
      refine lv_iload hx hb dL_isDriven_112 (lv_at hl 6 rfl) ?_
      refine lv_iload_n hx hb dL_isDriven_114 rfl (lv_at hl 1 rfl) ?_
      refine lv_icmp_ge (tgt := 131) hx hb dL_isDriven_115 (by decide) (fun c115 => ?_) (fun c115 => ?_)
      · replace hf := xif_pos c115 hf
        refine lv_iconst (v := 0) hx hb dL_isDriven_131 (by decide) ?_
        refine lv_istore (lv' := [(6, .int 0), (0, .ref (E.a 52)), (1, .int a1), (2, .int a2), (3, .int a3), (4, .int a4), (5, .int a5)]) hx hb dL_isDriven_132 hl (by decide) rfl (fun ls hl => ?_)
        exact h134 xF10002 a1 a2 a3 a4 a5 0 σ _ _ _ nc ns hw (lv_sub hl [1, 2, 3, 4, 5, 6, 0] rfl) hf (by omega) (by omega)
      · replace hf := xif_neg c115 hf
        refine lv_iload hx hb dL_isDriven_118 (lv_at hl 5 rfl) ?_
        refine lv_bipush (v := 10) hx hb dL_isDriven_120 (by decide) ?_
        refine lv_imul hx hb dL_isDriven_122 ?_
        refine lv_topi (fun v19 ex => ?_)
        replace hf := xl_f hf v19 ex
        clear ex
        refine lv_istore (lv' := [(5, .int v19), (0, .ref (E.a 52)), (1, .int a1), (2, .int a2), (3, .int a3), (4, .int a4), (6, .int a6)]) hx hb dL_isDriven_123 hl (by decide) rfl (fun ls hl => ?_)
        obtain ⟨v20, ex⟩ : ∃ y : Int32, y = (a6 + 1) := ⟨_, rfl⟩
        replace hf := xl_f hf v20 ex
        refine lv_iinc (v := v20) (lv' := [(6, .int v20), (5, .int v19), (0, .ref (E.a 52)), (1, .int a1), (2, .int a2), (3, .int a3), (4, .int a4)]) hx hb dL_isDriven_125 hl (k := 6) rfl (by rw [ex]; rfl) (by decide) rfl (fun ls hl => ?_)
        clear ex
        refine lv_goto (tgt := 112) hx hb dL_isDriven_128 (by decide) ?_
        exact ih112 a1 a2 a3 a4 v19 v20 σ _ _ _ nc ns hw (lv_sub hl [2, 3, 4, 5, 6, 1, 0] rfl) hf (by omega) (by omega)
  have h13 : ∀ (n : Nat) (a1 : Int32) (a2 : Int32) (σ : xSt) (H : Heap) (locs : List Loc) (ls : Array Slot) (nc ns : Nat), xw E A s.heap s σ H locs → lv_has ls 8 [(0, .ref (E.a 52)), (1, .int a1), (2, .int a2)] → fL_isDriven_c13 n a1 a2 σ = some (o1, o2) → nc + (10022 + 2 * n) ≤ 10034 → ns + (60132 + 12 * n) ≤ 60204 → W p l e rmL_isDriven s m args below meth c H locs nc ns (MQ below (xQi E A o1 o2) args s 10034 60204 A) (F0 m 13 ls []) := by
    intro n13
    induction n13 with
    | zero => intro a1 a2 σ H locs ls nc ns hw hl hf hnc hns; exact nomatch hf
    | succ n13 ih13 =>
      intro a1 a2 σ H locs ls nc ns hw hl hf hnc hns
      rw [fL_isDriven_c13_s] at hf
      refine lv_iload_n hx hb dL_isDriven_13 rfl (lv_at hl 2 rfl) ?_
      refine lv_iload_n hx hb dL_isDriven_14 rfl (lv_at hl 1 rfl) ?_
      refine lv_icmp_ge (tgt := 89) hx hb dL_isDriven_15 (by decide) (fun c15 => ?_) (fun c15 => ?_)
      · replace hf := xif_pos c15 hf
        refine lv_aload_n hx hb dL_isDriven_89 rfl (lv_at hl 0 rfl) ?_
        refine x_getr hx hb hw (cL52 hE) (own := RL) (ref := RL) (C := RL) (T := TL) (N := 10) hts hiL hown rfl 1 (by decide) hk34 (fun _ h9 => h9) rfl dL_isDriven_90 ?_
        refine lv_bipush (v := 40) hx hb dL_isDriven_93 (by decide) ?_
        obtain ⟨r4, σ5, hcl, hf⟩ := xc2_f hf
        refine x_callLi (va_runV (As := [.int 40]) (rest := []) ⟨hx, hb, hml, hown, hts⟩ (mX12_next hl0 hE 40 σ r4 σ5 hcl H.size) (cwV 1 hts gL_isDriven_X12_next rfl rfl rfl (by decide +kernel) ⟨Nat.le_of_ble_eq_true rfl, Nat.le_of_ble_eq_true rfl⟩) (x_preLV _ hw hA hGL (cL53 hE) rfl) rfl rfl hl.1 rfl (lv_room (Nat.le_of_ble_eq_true rfl)) dL_isDriven_95 ⟨show nc + 0 ≤ 10034 by omega, show ns + 0 ≤ 60204 by omega⟩) hw hA (fun H locs hw => ?_)
        clear hcl
        refine lv_istore_n (lv' := [(2, .int r4), (0, .ref (E.a 52)), (1, .int a1)]) hx hb dL_isDriven_98 rfl hl (by decide) rfl (fun ls hl => ?_)
        refine lv_ldcw hx hb hown (hts (.constant RL 268 (2147483647)) (by decide +kernel)) dL_isDriven_99 ?_
        refine lv_istore_n (lv' := [(3, .int 2147483647), (2, .int r4), (0, .ref (E.a 52)), (1, .int a1)]) hx hb dL_isDriven_102 rfl hl (by decide) rfl (fun ls hl => ?_)
        refine lv_iconst (v := 0) hx hb dL_isDriven_103 (by decide) ?_
        refine lv_istore (lv' := [(4, .int 0), (3, .int 2147483647), (2, .int r4), (0, .ref (E.a 52)), (1, .int a1)]) hx hb dL_isDriven_104 hl (by decide) rfl (fun ls hl => ?_)
        refine lv_iconst (v := 1) hx hb dL_isDriven_106 (by decide) ?_
        refine lv_istore (lv' := [(5, .int 1), (4, .int 0), (3, .int 2147483647), (2, .int r4), (0, .ref (E.a 52)), (1, .int a1)]) hx hb dL_isDriven_107 hl (by decide) rfl (fun ls hl => ?_)
        refine lv_iconst (v := 0) hx hb dL_isDriven_109 (by decide) ?_
        refine lv_istore (lv' := [(6, .int 0), (5, .int 1), (4, .int 0), (3, .int 2147483647), (2, .int r4), (0, .ref (E.a 52)), (1, .int a1)]) hx hb dL_isDriven_110 hl (by decide) rfl (fun ls hl => ?_)
        exact h112 xFU a1 r4 2147483647 0 1 0 σ5 _ _ _ (nc + 0) (ns + 0) hw (lv_sub hl [5, 6, 4, 3, 2, 1, 0] rfl) hf (by omega) (by omega)
      · replace hf := xif_neg c15 hf
        refine lv_aload_n hx hb dL_isDriven_18 rfl (lv_at hl 0 rfl) ?_
        refine x_getr hx hb hw (cL52 hE) (own := RL) (ref := RL) (C := RL) (T := TL) (N := 10) hts hiL hown rfl 1 (by decide) hk34 (fun _ h9 => h9) rfl dL_isDriven_19 ?_
        refine lv_bipush (v := 80) hx hb dL_isDriven_22 (by decide) ?_
        obtain ⟨r6, σ7, hcl, hf⟩ := xc2_f hf
        refine x_callLi (va_runV (As := [.int 80]) (rest := []) ⟨hx, hb, hml, hown, hts⟩ (mX12_next hl0 hE 80 σ r6 σ7 hcl H.size) (cwV 1 hts gL_isDriven_X12_next rfl rfl rfl (by decide +kernel) ⟨Nat.le_of_ble_eq_true rfl, Nat.le_of_ble_eq_true rfl⟩) (x_preLV _ hw hA hGL (cL53 hE) rfl) rfl rfl hl.1 rfl (lv_room (Nat.le_of_ble_eq_true rfl)) dL_isDriven_24 ⟨show nc + 0 ≤ 10034 by omega, show ns + 0 ≤ 60204 by omega⟩) hw hA (fun H locs hw => ?_)
        clear hcl
        refine lv_istore_n (lv' := [(3, .int r6), (0, .ref (E.a 52)), (1, .int a1), (2, .int a2)]) hx hb dL_isDriven_27 rfl hl (by decide) rfl (fun ls hl => ?_)
        refine lv_aload_n hx hb dL_isDriven_28 rfl (lv_at hl 1 rfl) ?_
        refine x_getr hx hb hw (cL52 hE) (own := RL) (ref := RL) (C := RL) (T := TL) (N := 10) hts hiL hown rfl 0 (by decide) hk10 (fun _ h9 => h9) rfl dL_isDriven_29 ?_
        refine lv_aload_n hx hb dL_isDriven_32 rfl (lv_at hl 1 rfl) ?_
        refine x_getr hx hb hw (cL52 hE) (own := RL) (ref := RL) (C := RL) (T := TL) (N := 10) hts hiL hown rfl 1 (by decide) hk34 (fun _ h9 => h9) rfl dL_isDriven_33 ?_
        refine lv_bipush (v := 21) hx hb dL_isDriven_36 (by decide) ?_
        obtain ⟨r8, σ9, hcl, hf⟩ := xc2_f hf
        refine x_callLi (va_runV (As := [.int 21]) (rest := [.ref (E.a 0)]) ⟨hx, hb, hml, hown, hts⟩ (mX12_next hl0 hE 21 σ7 r8 σ9 hcl H.size) (cwV 1 hts gL_isDriven_X12_next rfl rfl rfl (by decide +kernel) ⟨Nat.le_of_ble_eq_true rfl, Nat.le_of_ble_eq_true rfl⟩) (x_preLV _ hw hA hGL (cL53 hE) rfl) rfl rfl hl.1 rfl (lv_room (Nat.le_of_ble_eq_true rfl)) dL_isDriven_38 ⟨show (nc + 0) + 0 ≤ 10034 by omega, show (ns + 0) + 0 ≤ 60204 by omega⟩) hw hA (fun H locs hw => ?_)
        clear hcl
        refine lv_aload_n hx hb dL_isDriven_41 rfl (lv_at hl 1 rfl) ?_
        refine x_getr hx hb hw (cL52 hE) (own := RL) (ref := RL) (C := RL) (T := TL) (N := 10) hts hiL hown rfl 1 (by decide) hk34 (fun _ h9 => h9) rfl dL_isDriven_42 ?_
        refine lv_bipush (v := 21) hx hb dL_isDriven_45 (by decide) ?_
        obtain ⟨r10, σ11, hcl, hf⟩ := xc2_f hf
        refine x_callLi (va_runV (As := [.int 21]) (rest := [.int r8, .ref (E.a 0)]) ⟨hx, hb, hml, hown, hts⟩ (mX12_next hl0 hE 21 σ9 r10 σ11 hcl H.size) (cwV 1 hts gL_isDriven_X12_next rfl rfl rfl (by decide +kernel) ⟨Nat.le_of_ble_eq_true rfl, Nat.le_of_ble_eq_true rfl⟩) (x_preLV _ hw hA hGL (cL53 hE) rfl) rfl rfl hl.1 rfl (lv_room (Nat.le_of_ble_eq_true rfl)) dL_isDriven_47 ⟨show ((nc + 0) + 0) + 0 ≤ 10034 by omega, show ((ns + 0) + 0) + 0 ≤ 60204 by omega⟩) hw hA (fun H locs hw => ?_)
        clear hcl
        refine lv_iload_n hx hb dL_isDriven_50 rfl (lv_at hl 0 rfl) ?_
        refine lv_iload_n hx hb dL_isDriven_51 rfl (lv_at hl 0 rfl) ?_
        refine lv_bipush (v := 20) hx hb dL_isDriven_52 (by decide) ?_
        refine lv_iadd hx hb dL_isDriven_54 ?_
        refine lv_aload_n hx hb dL_isDriven_55 rfl (lv_at hl 1 rfl) ?_
        refine x_getr hx hb hw (cL52 hE) (own := RL) (ref := RL) (C := RL) (T := TL) (N := 10) hts hiL hown rfl 1 (by decide) hk34 (fun _ h9 => h9) rfl dL_isDriven_56 ?_
        refine lv_bipush (v := 120) hx hb dL_isDriven_59 (by decide) ?_
        obtain ⟨r12, σ13, hcl, hf⟩ := xc2_f hf
        refine x_callLi (va_runV (As := [.int 120]) (rest := [.int (r6 + 20), .int r6, .int r10, .int r8, .ref (E.a 0)]) ⟨hx, hb, hml, hown, hts⟩ (mX12_next hl0 hE 120 σ11 r12 σ13 hcl H.size) (cwV 1 hts gL_isDriven_X12_next rfl rfl rfl (by decide +kernel) ⟨Nat.le_of_ble_eq_true rfl, Nat.le_of_ble_eq_true rfl⟩) (x_preLV _ hw hA hGL (cL53 hE) rfl) rfl rfl hl.1 rfl (lv_room (Nat.le_of_ble_eq_true rfl)) dL_isDriven_61 ⟨show (((nc + 0) + 0) + 0) + 0 ≤ 10034 by omega, show (((ns + 0) + 0) + 0) + 0 ≤ 60204 by omega⟩) hw hA (fun H locs hw => ?_)
        clear hcl
        refine lv_iadd hx hb dL_isDriven_64 ?_
        refine lv_aload_n hx hb dL_isDriven_65 rfl (lv_at hl 1 rfl) ?_
        refine x_getr hx hb hw (cL52 hE) (own := RL) (ref := RL) (C := RL) (T := TL) (N := 10) hts hiL hown rfl 1 (by decide) hk34 (fun _ h9 => h9) rfl dL_isDriven_66 ?_
        refine lv_bipush (v := 10) hx hb dL_isDriven_69 (by decide) ?_
        obtain ⟨r14, σ15, hcl, hf⟩ := xc2_f hf
        refine x_callLi (va_runV (As := [.int 10]) (rest := [.int ((r6 + 20) + r12), .int r6, .int r10, .int r8, .ref (E.a 0)]) ⟨hx, hb, hml, hown, hts⟩ (mX12_next hl0 hE 10 σ13 r14 σ15 hcl H.size) (cwV 1 hts gL_isDriven_X12_next rfl rfl rfl (by decide +kernel) ⟨Nat.le_of_ble_eq_true rfl, Nat.le_of_ble_eq_true rfl⟩) (x_preLV _ hw hA hGL (cL53 hE) rfl) rfl rfl hl.1 rfl (lv_room (Nat.le_of_ble_eq_true rfl)) dL_isDriven_71 ⟨show ((((nc + 0) + 0) + 0) + 0) + 0 ≤ 10034 by omega, show ((((ns + 0) + 0) + 0) + 0) + 0 ≤ 60204 by omega⟩) hw hA (fun H locs hw => ?_)
        clear hcl
        obtain ⟨r16, τ9, hcl, hf⟩ := xco_g hf
        refine x_tcallo (vx_runV (As := [.int r8, .int r10, .int r6, .int ((r6 + 20) + r12), .int r14]) (rest := []) ⟨hx, hb, hml, hown, hts⟩ (mX11_addShop hl0 (E := xCut E σ15) rfl r8 r10 r6 ((r6 + 20) + r12) r14 σ15 (.inl r16) τ9 hcl H.size) (cwV 5 hts gL_isDriven_X11_addShop rfl rfl rfl (by decide +kernel) ⟨Nat.le_of_ble_eq_true rfl, Nat.le_of_ble_eq_true rfl⟩) (x_preV _ (xw_cut hE hw) hA hG (cX0 (E := xCut E σ15) rfl) rfl) rfl rfl hl.1 rfl (lv_room (Nat.le_of_ble_eq_true rfl)) dL_isDriven_74 ⟨show (((((nc + 0) + 0) + 0) + 0) + 0) + 2 ≤ 10034 by omega, show (((((ns + 0) + 0) + 0) + 0) + 0) + 12 ≤ 60204 by omega⟩) (xw_cut hE hw) hA (fun H locs hw => ?_)
        obtain ⟨σ17, eρ, hw⟩ := xw_unc2 hE hw
        replace hf := hf σ17 eρ
        clear eρ hcl
        refine lv_iload_n hx hb dL_isDriven_77 rfl (lv_at hl 3 rfl) ?_
        refine lv_icmp_eq (tgt := 83) hx hb dL_isDriven_78 (by decide) (fun c78 => ?_) (fun c78 => ?_)
        · replace hf := xif_pos c78 hf
          obtain ⟨v18, ex⟩ : ∃ y : Int32, y = (a2 + 1) := ⟨_, rfl⟩
          replace hf := xl_f hf v18 ex
          refine lv_iinc (v := v18) (lv' := [(2, .int v18), (3, .int r6), (0, .ref (E.a 52)), (1, .int a1)]) hx hb dL_isDriven_83 hl (k := 3) rfl (by rw [ex]; rfl) (by decide) rfl (fun ls hl => ?_)
          clear ex
          refine lv_goto (tgt := 13) hx hb dL_isDriven_86 (by decide) ?_
          exact ih13 a1 v18 σ17 _ _ _ ((((((nc + 0) + 0) + 0) + 0) + 0) + 2) ((((((ns + 0) + 0) + 0) + 0) + 0) + 12) hw (lv_sub hl [2, 3, 0] rfl) hf (by omega) (by omega)
        · replace hf := xif_neg c78 hf
          refine lv_iconst (v := 0) hx hb dL_isDriven_81 (by decide) ?_
          exact x_Lzretc hx hb hr hlk hw (by decide) hf (show ((((((nc + 0) + 0) + 0) + 0) + 0) + 2) ≤ 10034 by omega) (show ((((((ns + 0) + 0) + 0) + 0) + 0) + 12) ≤ 60204 by omega) dL_isDriven_82
  refine lv_iconst (v := 1) hx hb dL_isDriven_0 (by decide) ?_
  refine lv_aload_n hx hb dL_isDriven_1 rfl (lv_at hl 0 rfl) ?_
  refine x_getr hx hb hw (cL52 hE) (own := RL) (ref := RL) (C := RL) (T := TL) (N := 10) hts hiL hown rfl 1 (by decide) hk34 (fun _ h9 => h9) rfl dL_isDriven_2 ?_
  refine lv_iconst (v := 4) hx hb dL_isDriven_5 (by decide) ?_
  obtain ⟨r1, σ2, hcl, hf⟩ := xc2_f hf
  refine x_callLi (va_runV (As := [.int 4]) (rest := [.int 1]) ⟨hx, hb, hml, hown, hts⟩ (mX12_next hl0 hE 4 σ r1 σ2 hcl s.heap.size) (cwV 1 hts gL_isDriven_X12_next rfl rfl rfl (by decide +kernel) ⟨Nat.le_of_ble_eq_true rfl, Nat.le_of_ble_eq_true rfl⟩) (x_preLV _ hw hA hGL (cL53 hE) rfl) rfl rfl hl.1 rfl (lv_room (Nat.le_of_ble_eq_true rfl)) dL_isDriven_6 ⟨show 0 + 0 ≤ 10034 by omega, show 0 + 0 ≤ 60204 by omega⟩) hw hA (fun H locs hw => ?_)
  clear hcl
  refine lv_iadd hx hb dL_isDriven_9 ?_
  refine lv_topi (fun v3 ex => ?_)
  replace hf := xl_f hf v3 ex
  clear ex
  refine lv_istore_n (lv' := [(1, .int v3), (0, .ref (E.a 52))]) hx hb dL_isDriven_10 rfl hl (by decide) rfl (fun ls hl => ?_)
  refine lv_iconst (v := 0) hx hb dL_isDriven_11 (by decide) ?_
  refine lv_istore_n (lv' := [(2, .int 0), (1, .int v3), (0, .ref (E.a 52))]) hx hb dL_isDriven_12 rfl hl (by decide) rfl (fun ls hl => ?_)
  exact h13 xF6 v3 0 σ2 _ _ _ (0 + 0) (0 + 0) hw (lv_sub hl [2, 1, 0] rfl) hf (by omega) (by omega)
