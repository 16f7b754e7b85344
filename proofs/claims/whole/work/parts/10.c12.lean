def fX12_gramsOf (p0 : Int32) (σ : xSt) : Option (Int32 × xSt) := (xr σ 1 680 (123 + p0) fun v1 => (xr σ 1 680 (103 + p0) fun v2 => (xr σ 1 680 (19 + v2) fun v3 => some ((v1 * v3), σ))))
abbrev rmX12_gramsOf : Room := { frames := 0, cells := 0, slots := 0, locals := 0 }
set_option maxRecDepth 100000 in
set_option maxHeartbeats 4000000 in
theorem mX12_gramsOf {l : Launch} {E : xE} (hE : E.sh = shM) (p0 : Int32) (σ : xSt) (o1 : Int32) (o2 : xSt) (hf : fX12_gramsOf p0 σ = some (o1, o2)) : xMi l yX12_gramsOf wsX12_gramsOf rmX12_gramsOf E [.ref (E.a 0), .int p0] σ o1 o2 := by
  unfold fX12_gramsOf at hf
  refine xMi_of (cc := cX12_gramsOf) (maxL := 2) (ret := (some .int)) (by decide) rfl (Nat.le_of_ble_eq_true rfl) ?_
  intro p e s m args below meth c A ls ⟨hx, hb, hr, hml, hown, hts, hlk⟩ hA hG hw hl
  have hown : s.vm.findClass RX12 = some m.cls := hown
  have hl : lv_has ls 2 [(0, .ref (E.a 0)), (1, .int p0)] := hl
  have hk9 := hts (.fieldLink RX12 9 "OvenRoundModel" "w" "[I") (by decide +kernel)
  have hiX12 : ∀ w ∈ wsX120, w ∈ wsX12_gramsOf := by decide +kernel
  refine lv_aload_n hx hb dX12_gramsOf_0 rfl (lv_at hl 0 rfl) ?_
  refine x_getr hx hb hw (cM0 hE) (own := RX12) (ref := RX12) (C := RX12) (T := TX12) (N := 20) hts hiX12 hown rfl 1 (by decide) hk9 (fun _ h9 => h9) rfl dX12_gramsOf_1 ?_
  refine lv_bipush (v := 123) hx hb dX12_gramsOf_4 (by decide) ?_
  refine lv_iload_n hx hb dX12_gramsOf_6 rfl (lv_at hl 1 rfl) ?_
  refine lv_iadd hx hb dX12_gramsOf_7 ?_
  obtain ⟨hin, hf⟩ := xr_f hf
  refine x_iald hx hb hw (cM1 hE) hin dX12_gramsOf_8 ?_
  refine lv_topi (fun v1 ex => ?_)
  replace hf := hf v1 ex
  clear ex hin
  refine lv_aload_n hx hb dX12_gramsOf_9 rfl (lv_at hl 0 rfl) ?_
  refine x_getr hx hb hw (cM0 hE) (own := RX12) (ref := RX12) (C := RX12) (T := TX12) (N := 20) hts hiX12 hown rfl 1 (by decide) hk9 (fun _ h9 => h9) rfl dX12_gramsOf_10 ?_
  refine lv_bipush (v := 19) hx hb dX12_gramsOf_13 (by decide) ?_
  refine lv_aload_n hx hb dX12_gramsOf_15 rfl (lv_at hl 0 rfl) ?_
  refine x_getr hx hb hw (cM0 hE) (own := RX12) (ref := RX12) (C := RX12) (T := TX12) (N := 20) hts hiX12 hown rfl 1 (by decide) hk9 (fun _ h9 => h9) rfl dX12_gramsOf_16 ?_
  refine lv_bipush (v := 103) hx hb dX12_gramsOf_19 (by decide) ?_
  refine lv_iload_n hx hb dX12_gramsOf_21 rfl (lv_at hl 1 rfl) ?_
  refine lv_iadd hx hb dX12_gramsOf_22 ?_
  obtain ⟨hin, hf⟩ := xr_f hf
  refine x_iald hx hb hw (cM1 hE) hin dX12_gramsOf_23 ?_
  refine lv_topi (fun v2 ex => ?_)
  replace hf := hf v2 ex
  clear ex hin
  refine lv_iadd hx hb dX12_gramsOf_24 ?_
  obtain ⟨hin, hf⟩ := xr_f hf
  refine x_iald hx hb hw (cM1 hE) hin dX12_gramsOf_25 ?_
  refine lv_topi (fun v3 ex => ?_)
  replace hf := hf v3 ex
  clear ex hin
  refine lv_imul hx hb dX12_gramsOf_26 ?_
  exact x_iret hx hb hr hlk hw hf dX12_gramsOf_27

def fX12_isThere_c2 : Nat → Int32 → xSt → Option (Int32 × xSt)
  | 0 => fun _ _ => none
  | n + 1 => fun a1 σ => (if 8 ≤ a1 then some (1, σ) else (xr σ 5 8 a1 fun v1 => (xr σ 1 680 (11 + a1) fun v2 => (if v1 ≤ v2 then (xl (a1 + 1) fun v3 => fX12_isThere_c2 n v3 σ) else some (0, σ)))))
theorem fX12_isThere_c2_s (n : Nat) (a1 : Int32) (σ : xSt) : fX12_isThere_c2 (n + 1) a1 σ = ((if 8 ≤ a1 then some (1, σ) else (xr σ 5 8 a1 fun v1 => (xr σ 1 680 (11 + a1) fun v2 => (if v1 ≤ v2 then (xl (a1 + 1) fun v3 => fX12_isThere_c2 n v3 σ) else some (0, σ))))) : Option (Int32 × xSt)) := rfl
def fX12_isThere (σ : xSt) : Option (Int32 × xSt) := fX12_isThere_c2 xFU 0 σ
abbrev rmX12_isThere : Room := { frames := 0, cells := 0, slots := 0, locals := 0 }
set_option maxRecDepth 100000 in
set_option maxHeartbeats 4000000 in
theorem mX12_isThere {l : Launch} {E : xE} (hE : E.sh = shM) (σ : xSt) (o1 : Int32) (o2 : xSt) (hf : fX12_isThere σ = some (o1, o2)) : xMi l yX12_isThere wsX12_isThere rmX12_isThere E [.ref (E.a 0)] σ o1 o2 := by
  unfold fX12_isThere at hf
  refine xMi_of (cc := cX12_isThere) (maxL := 2) (ret := (some .boolean)) (by decide) rfl (Nat.le_of_ble_eq_true rfl) ?_
  intro p e s m args below meth c A ls ⟨hx, hb, hr, hml, hown, hts, hlk⟩ hA hG hw hl
  have hown : s.vm.findClass RX12 = some m.cls := hown
  have hl : lv_has ls 2 [(0, .ref (E.a 0))] := hl
  have hk22 := hts (.fieldLink RX12 22 "OvenRoundModel" "amounts" "[I") (by decide +kernel)
  have hiX12 : ∀ w ∈ wsX120, w ∈ wsX12_isThere := by decide +kernel
  have hk9 := hts (.fieldLink RX12 9 "OvenRoundModel" "w" "[I") (by decide +kernel)
  have h2 : ∀ (n : Nat) (a1 : Int32) (σ : xSt) (H : Heap) (locs : List Loc) (ls : Array Slot), xw E A s.heap s σ H locs → lv_has ls 2 [(0, .ref (E.a 0)), (1, .int a1)] → fX12_isThere_c2 n a1 σ = some (o1, o2) → W p l e rmX12_isThere s m args below meth c H locs 0 0 (MQ below (xQi E A o1 o2) args s 0 0 A) (F0 m 2 ls []) := by
    intro n2
    induction n2 with
    | zero => intro a1 σ H locs ls hw hl hf; exact nomatch hf
    | succ n2 ih2 =>
      intro a1 σ H locs ls hw hl hf
      rw [fX12_isThere_c2_s] at hf
      refine lv_iload_n hx hb dX12_isThere_2 rfl (lv_at hl 1 rfl) ?_
      refine lv_bipush (v := 8) hx hb dX12_isThere_3 (by decide) ?_
      refine lv_icmp_ge (tgt := 34) hx hb dX12_isThere_5 (by decide) (fun c5 => ?_) (fun c5 => ?_)
      · replace hf := xif_pos c5 hf
        refine lv_iconst (v := 1) hx hb dX12_isThere_34 (by decide) ?_
        exact x_zretc hx hb hr hlk hw (by decide) hf dX12_isThere_35
      · replace hf := xif_neg c5 hf
        refine lv_aload_n hx hb dX12_isThere_8 rfl (lv_at hl 0 rfl) ?_
        refine x_getr hx hb hw (cM0 hE) (own := RX12) (ref := RX12) (C := RX12) (T := TX12) (N := 20) hts hiX12 hown rfl 8 (by decide) hk22 (fun _ h9 => h9) rfl dX12_isThere_9 ?_
        refine lv_iload_n hx hb dX12_isThere_12 rfl (lv_at hl 1 rfl) ?_
        obtain ⟨hin, hf⟩ := xr_f hf
        refine x_iald hx hb hw (cM5 hE) hin dX12_isThere_13 ?_
        refine lv_topi (fun v1 ex => ?_)
        replace hf := hf v1 ex
        clear ex hin
        refine lv_aload_n hx hb dX12_isThere_14 rfl (lv_at hl 0 rfl) ?_
        refine x_getr hx hb hw (cM0 hE) (own := RX12) (ref := RX12) (C := RX12) (T := TX12) (N := 20) hts hiX12 hown rfl 1 (by decide) hk9 (fun _ h9 => h9) rfl dX12_isThere_15 ?_
        refine lv_bipush (v := 11) hx hb dX12_isThere_18 (by decide) ?_
        refine lv_iload_n hx hb dX12_isThere_20 rfl (lv_at hl 1 rfl) ?_
        refine lv_iadd hx hb dX12_isThere_21 ?_
        obtain ⟨hin, hf⟩ := xr_f hf
        refine x_iald hx hb hw (cM1 hE) hin dX12_isThere_22 ?_
        refine lv_topi (fun v2 ex => ?_)
        replace hf := hf v2 ex
        clear ex hin
        refine lv_icmp_le (tgt := 28) hx hb dX12_isThere_23 (by decide) (fun c23 => ?_) (fun c23 => ?_)
        · replace hf := xif_pos c23 hf
          obtain ⟨v3, ex⟩ : ∃ y : Int32, y = (a1 + 1) := ⟨_, rfl⟩
          replace hf := xl_f hf v3 ex
          refine lv_iinc (v := v3) (lv' := [(1, .int v3), (0, .ref (E.a 0))]) hx hb dX12_isThere_28 hl (k := 1) rfl (by rw [ex]; rfl) (by decide) rfl (fun ls hl => ?_)
          clear ex
          refine lv_goto (tgt := 2) hx hb dX12_isThere_31 (by decide) ?_
          exact ih2 v3 σ _ _ _ hw (lv_sub hl [1, 0] rfl) hf
        · replace hf := xif_neg c23 hf
          refine lv_iconst (v := 0) hx hb dX12_isThere_26 (by decide) ?_
          exact x_zretc hx hb hr hlk hw (by decide) hf dX12_isThere_27
  refine lv_iconst (v := 0) hx hb dX12_isThere_0 (by decide) ?_
  refine lv_istore_n (lv' := [(1, .int 0), (0, .ref (E.a 0))]) hx hb dX12_isThere_1 rfl hl (by decide) rfl (fun ls hl => ?_)
  exact h2 xFU 0 σ _ _ _ hw (lv_sub hl [1, 0] rfl) hf

def fX12_canMix (p0 : Int32) (p1 : Int32) (σ : xSt) : Option (Int32 × xSt) := (xr σ 1 680 6 fun v1 => (if v1 = 20 then some (0, σ) else (xc2 (fX12_allParts p0 σ) fun r2 σ3 => (if r2 = 0 then some (0, σ3) else (xr σ3 1 680 (19 + p0) fun v4 => (xc (fX12_scales p0 (p1 * v4) σ3) fun σ6 => (xc2 (fX12_isThere σ6) fun r7 σ8 => xb r7 (some (r7, σ8)))))))))
abbrev rmX12_canMix : Room := { frames := 3, cells := 0, slots := 0, locals := 74 }
set_option maxRecDepth 100000 in
set_option maxHeartbeats 4000000 in
theorem mX12_canMix {l : Launch} {E : xE} (hE : E.sh = shM) (p0 : Int32) (p1 : Int32) (σ : xSt) (o1 : Int32) (o2 : xSt) (hf : fX12_canMix p0 p1 σ = some (o1, o2)) : xMi l yX12_canMix wsX12_canMix rmX12_canMix E [.ref (E.a 0), .int p0, .int p1] σ o1 o2 := by
  unfold fX12_canMix at hf
  refine xMi_of (cc := cX12_canMix) (maxL := 3) (ret := (some .boolean)) (by decide) rfl (Nat.le_of_ble_eq_true rfl) ?_
  intro p e s m args below meth c A ls ⟨hx, hb, hr, hml, hown, hts, hlk⟩ hA hG hw hl
  have hown : s.vm.findClass RX12 = some m.cls := hown
  have hl : lv_has ls 3 [(0, .ref (E.a 0)), (1, .int p0), (2, .int p1)] := hl
  have hk9 := hts (.fieldLink RX12 9 "OvenRoundModel" "w" "[I") (by decide +kernel)
  have hiX12 : ∀ w ∈ wsX120, w ∈ wsX12_canMix := by decide +kernel
  refine lv_aload_n hx hb dX12_canMix_0 rfl (lv_at hl 0 rfl) ?_
  refine x_getr hx hb hw (cM0 hE) (own := RX12) (ref := RX12) (C := RX12) (T := TX12) (N := 20) hts hiX12 hown rfl 1 (by decide) hk9 (fun _ h9 => h9) rfl dX12_canMix_1 ?_
  refine lv_bipush (v := 6) hx hb dX12_canMix_4 (by decide) ?_
  obtain ⟨hin, hf⟩ := xr_f hf
  refine x_iald hx hb hw (cM1 hE) hin dX12_canMix_6 ?_
  refine lv_topi (fun v1 ex => ?_)
  replace hf := hf v1 ex
  clear ex hin
  refine lv_bipush (v := 20) hx hb dX12_canMix_7 (by decide) ?_
  refine lv_icmp_eq (tgt := 20) hx hb dX12_canMix_9 (by decide) (fun c9 => ?_) (fun c9 => ?_)
  · replace hf := xif_pos c9 hf
    refine lv_iconst (v := 0) hx hb dX12_canMix_20 (by decide) ?_
    exact x_zretc hx hb hr hlk hw (by decide) hf dX12_canMix_21
  · replace hf := xif_neg c9 hf
    refine lv_aload_n hx hb dX12_canMix_12 rfl (lv_at hl 0 rfl) ?_
    refine lv_iload_n hx hb dX12_canMix_13 rfl (lv_at hl 1 rfl) ?_
    obtain ⟨r2, σ3, hcl, hf⟩ := xc2_f hf
    refine x_calli (va_runV (As := [.int p0]) (rest := []) ⟨hx, hb, hml, hown, hts⟩ (mX12_allParts hE p0 σ r2 σ3 hcl s.heap.size) (cwV 1 hts gX12_canMix_X12_allParts rfl rfl rfl (by decide +kernel) ⟨Nat.le_of_ble_eq_true rfl, Nat.le_of_ble_eq_true rfl⟩) (x_preV _ hw hA hG (cM0 hE) rfl) rfl rfl hl.1 rfl (lv_room (Nat.le_of_ble_eq_true rfl)) dX12_canMix_14 ⟨Nat.le_of_ble_eq_true rfl, Nat.le_of_ble_eq_true rfl⟩) hw hA (fun H locs hw => ?_)
    clear hcl
    refine lv_if_ne (tgt := 22) hx hb dX12_canMix_17 (by decide) (fun c17 => ?_) (fun c17 => ?_)
    · replace hf := xif_neg c17 hf
      refine lv_aload_n hx hb dX12_canMix_22 rfl (lv_at hl 0 rfl) ?_
      refine lv_iload_n hx hb dX12_canMix_23 rfl (lv_at hl 1 rfl) ?_
      refine lv_iload_n hx hb dX12_canMix_24 rfl (lv_at hl 2 rfl) ?_
      refine lv_aload_n hx hb dX12_canMix_25 rfl (lv_at hl 0 rfl) ?_
      refine x_getr hx hb hw (cM0 hE) (own := RX12) (ref := RX12) (C := RX12) (T := TX12) (N := 20) hts hiX12 hown rfl 1 (by decide) hk9 (fun _ h9 => h9) rfl dX12_canMix_26 ?_
      refine lv_bipush (v := 19) hx hb dX12_canMix_29 (by decide) ?_
      refine lv_iload_n hx hb dX12_canMix_31 rfl (lv_at hl 1 rfl) ?_
      refine lv_iadd hx hb dX12_canMix_32 ?_
      obtain ⟨hin, hf⟩ := xr_f hf
      refine x_iald hx hb hw (cM1 hE) hin dX12_canMix_33 ?_
      refine lv_topi (fun v4 ex => ?_)
      replace hf := hf v4 ex
      clear ex hin
      refine lv_imul hx hb dX12_canMix_34 ?_
      obtain ⟨σ6, hcl, hf⟩ := xc_e hf
      refine x_callv (va_runV (As := [.int p0, .int (p1 * v4)]) (rest := []) ⟨hx, hb, hml, hown, hts⟩ (mX12_scales hE p0 (p1 * v4) σ3 σ6 hcl H.size) (cwV 2 hts gX12_canMix_X12_scales rfl rfl rfl (by decide +kernel) ⟨Nat.le_of_ble_eq_true rfl, Nat.le_of_ble_eq_true rfl⟩) (x_preV _ hw hA hG (cM0 hE) rfl) rfl rfl hl.1 rfl (lv_room (Nat.le_of_ble_eq_true rfl)) dX12_canMix_35 ⟨Nat.le_of_ble_eq_true rfl, Nat.le_of_ble_eq_true rfl⟩) hw hA (fun H locs hw => ?_)
      clear hcl
      refine lv_aload_n hx hb dX12_canMix_38 rfl (lv_at hl 0 rfl) ?_
      obtain ⟨r7, σ8, hcl, hf⟩ := xc2_f hf
      refine x_calli (va_runV (As := []) (rest := []) ⟨hx, hb, hml, hown, hts⟩ (mX12_isThere hE σ6 r7 σ8 hcl H.size) (cwV 0 hts gX12_canMix_X12_isThere rfl rfl rfl (by decide +kernel) ⟨Nat.le_of_ble_eq_true rfl, Nat.le_of_ble_eq_true rfl⟩) (x_preV _ hw hA hG (cM0 hE) rfl) rfl rfl hl.1 rfl (lv_room (Nat.le_of_ble_eq_true rfl)) dX12_canMix_39 ⟨Nat.le_of_ble_eq_true rfl, Nat.le_of_ble_eq_true rfl⟩) hw hA (fun H locs hw => ?_)
      clear hcl
      exact x_zret hx hb hr hlk hw hf dX12_canMix_42
    · replace hf := xif_pos c17 hf
      refine lv_iconst (v := 0) hx hb dX12_canMix_20 (by decide) ?_
      exact x_zretc hx hb hr hlk hw (by decide) hf dX12_canMix_21

def fX12_mix_c50 : Nat → Int32 → Int32 → Int32 → xSt → Option (Int32 × xSt)
  | 0 => fun _ _ _ _ => none
  | n + 1 => fun a1 a2 a3 σ => (if 8 ≤ a3 then (xr σ 1 680 6 fun v15 => (xr σ 1 680 6 fun v16 => (xs σ 1 680 6 (v16 + 1) fun σ17 => (xs σ17 1 680 (103 + v15) a1 fun σ18 => (xs σ18 1 680 (123 + v15) a2 fun σ19 => (xs σ19 1 680 (143 + v15) 0 fun σ20 => (xs σ20 1 680 (163 + v15) 0 fun σ21 => (xs σ21 1 680 (183 + v15) (-1) fun σ22 => (xs σ22 1 680 (203 + v15) (-1) fun σ23 => some (v15, σ23)))))))))) else (xl (11 + a3) fun v24 => (xr σ 1 680 v24 fun v25 => (xr σ 5 8 a3 fun v26 => (xs σ 1 680 v24 (v25 - v26) fun σ27 => (xl (a3 + 1) fun v28 => fX12_mix_c50 n a1 a2 v28 σ27))))))
theorem fX12_mix_c50_s (n : Nat) (a1 : Int32) (a2 : Int32) (a3 : Int32) (σ : xSt) : fX12_mix_c50 (n + 1) a1 a2 a3 σ = ((if 8 ≤ a3 then (xr σ 1 680 6 fun v15 => (xr σ 1 680 6 fun v16 => (xs σ 1 680 6 (v16 + 1) fun σ17 => (xs σ17 1 680 (103 + v15) a1 fun σ18 => (xs σ18 1 680 (123 + v15) a2 fun σ19 => (xs σ19 1 680 (143 + v15) 0 fun σ20 => (xs σ20 1 680 (163 + v15) 0 fun σ21 => (xs σ21 1 680 (183 + v15) (-1) fun σ22 => (xs σ22 1 680 (203 + v15) (-1) fun σ23 => some (v15, σ23)))))))))) else (xl (11 + a3) fun v24 => (xr σ 1 680 v24 fun v25 => (xr σ 5 8 a3 fun v26 => (xs σ 1 680 v24 (v25 - v26) fun σ27 => (xl (a3 + 1) fun v28 => fX12_mix_c50 n a1 a2 v28 σ27)))))) : Option (Int32 × xSt)) := rfl
def fX12_mix (p0 : Int32) (p1 : Int32) (σ : xSt) : Option (Int32 × xSt) := (xc2 (fX12_isRecipe p0 σ) fun r1 σ2 => (xc2 (fX12_can r1 1 σ2) fun r3 σ4 => (if r3 = 0 then some (0, σ4) else (xc2 (fX12_in p1 1 40 σ4) fun r5 σ6 => (xc2 (fX12_can r5 2 σ6) fun r7 σ8 => (if r7 = 0 then some (0, σ8) else (xc2 (fX12_canMix p0 p1 σ8) fun r9 σ10 => (xc2 (fX12_can r9 3 σ10) fun r11 σ12 => (if r11 = 0 then some (0, σ12) else (xc (fX12_keep σ12) fun σ14 => fX12_mix_c50 xFU p0 p1 0 σ14))))))))))
abbrev rmX12_mix : Room := { frames := 4, cells := 0, slots := 0, locals := 96 }
set_option maxRecDepth 100000 in
set_option maxHeartbeats 4000000 in
theorem mX12_mix {l : Launch} {E : xE} (hE : E.sh = shM) (p0 : Int32) (p1 : Int32) (σ : xSt) (o1 : Int32) (o2 : xSt) (hf : fX12_mix p0 p1 σ = some (o1, o2)) : xMi l yX12_mix wsX12_mix rmX12_mix E [.ref (E.a 0), .int p0, .int p1] σ o1 o2 := by
  unfold fX12_mix at hf
  refine xMi_of (cc := cX12_mix) (maxL := 4) (ret := (some .int)) (by decide) rfl (Nat.le_of_ble_eq_true rfl) ?_
  intro p e s m args below meth c A ls ⟨hx, hb, hr, hml, hown, hts, hlk⟩ hA hG hw hl
  have hown : s.vm.findClass RX12 = some m.cls := hown
  have hl : lv_has ls 4 [(0, .ref (E.a 0)), (1, .int p0), (2, .int p1)] := hl
  have hk9 := hts (.fieldLink RX12 9 "OvenRoundModel" "w" "[I") (by decide +kernel)
  have hiX12 : ∀ w ∈ wsX120, w ∈ wsX12_mix := by decide +kernel
  have hk22 := hts (.fieldLink RX12 22 "OvenRoundModel" "amounts" "[I") (by decide +kernel)
  have h50 : ∀ (n : Nat) (a1 : Int32) (a2 : Int32) (a3 : Int32) (σ : xSt) (H : Heap) (locs : List Loc) (ls : Array Slot), xw E A s.heap s σ H locs → lv_has ls 4 [(0, .ref (E.a 0)), (1, .int a1), (2, .int a2), (3, .int a3)] → fX12_mix_c50 n a1 a2 a3 σ = some (o1, o2) → W p l e rmX12_mix s m args below meth c H locs 0 0 (MQ below (xQi E A o1 o2) args s 0 0 A) (F0 m 50 ls []) := by
    intro n50
    induction n50 with
    | zero => intro a1 a2 a3 σ H locs ls hw hl hf; exact nomatch hf
    | succ n50 ih50 =>
      intro a1 a2 a3 σ H locs ls hw hl hf
      rw [fX12_mix_c50_s] at hf
      refine lv_iload_n hx hb dX12_mix_50 rfl (lv_at hl 3 rfl) ?_
      refine lv_bipush (v := 8) hx hb dX12_mix_51 (by decide) ?_
      refine lv_icmp_ge (tgt := 80) hx hb dX12_mix_53 (by decide) (fun c53 => ?_) (fun c53 => ?_)
      · replace hf := xif_pos c53 hf
        refine lv_aload_n hx hb dX12_mix_80 rfl (lv_at hl 0 rfl) ?_
        refine x_getr hx hb hw (cM0 hE) (own := RX12) (ref := RX12) (C := RX12) (T := TX12) (N := 20) hts hiX12 hown rfl 1 (by decide) hk9 (fun _ h9 => h9) rfl dX12_mix_81 ?_
        refine lv_bipush (v := 6) hx hb dX12_mix_84 (by decide) ?_
        obtain ⟨hin, hf⟩ := xr_f hf
        refine x_iald hx hb hw (cM1 hE) hin dX12_mix_86 ?_
        refine lv_topi (fun v15 ex => ?_)
        replace hf := hf v15 ex
        clear ex hin
        refine lv_istore_n (lv' := [(3, .int v15), (0, .ref (E.a 0)), (1, .int a1), (2, .int a2)]) hx hb dX12_mix_87 rfl hl (by decide) rfl (fun ls hl => ?_)
        refine lv_aload_n hx hb dX12_mix_88 rfl (lv_at hl 1 rfl) ?_
        refine x_getr hx hb hw (cM0 hE) (own := RX12) (ref := RX12) (C := RX12) (T := TX12) (N := 20) hts hiX12 hown rfl 1 (by decide) hk9 (fun _ h9 => h9) rfl dX12_mix_89 ?_
        refine lv_bipush (v := 6) hx hb dX12_mix_92 (by decide) ?_
        refine lv_dup2_11 hx hb dX12_mix_94 rfl rfl ?_
        obtain ⟨hin, hf⟩ := xr_f hf
        refine x_iald hx hb hw (cM1 hE) hin dX12_mix_95 ?_
        refine lv_topi (fun v16 ex => ?_)
        replace hf := hf v16 ex
        clear ex hin
        refine lv_iconst (v := 1) hx hb dX12_mix_96 (by decide) ?_
        refine lv_iadd hx hb dX12_mix_97 ?_
        obtain ⟨hin, hf⟩ := xs_f hf
        refine x_iast hx hb hw (cM1 hE) hin dX12_mix_98 (fun σ17 H locs ex hw => ?_)
        replace hf := hf σ17 ex
        clear ex hin
        refine lv_aload_n hx hb dX12_mix_99 rfl (lv_at hl 1 rfl) ?_
        refine x_getr hx hb hw (cM0 hE) (own := RX12) (ref := RX12) (C := RX12) (T := TX12) (N := 20) hts hiX12 hown rfl 1 (by decide) hk9 (fun _ h9 => h9) rfl dX12_mix_100 ?_
        refine lv_bipush (v := 103) hx hb dX12_mix_103 (by decide) ?_
        refine lv_iload_n hx hb dX12_mix_105 rfl (lv_at hl 0 rfl) ?_
        refine lv_iadd hx hb dX12_mix_106 ?_
        refine lv_iload_n hx hb dX12_mix_107 rfl (lv_at hl 2 rfl) ?_
        obtain ⟨hin, hf⟩ := xs_f hf
        refine x_iast hx hb hw (cM1 hE) hin dX12_mix_108 (fun σ18 H locs ex hw => ?_)
        replace hf := hf σ18 ex
        clear ex hin
        refine lv_aload_n hx hb dX12_mix_109 rfl (lv_at hl 1 rfl) ?_
        refine x_getr hx hb hw (cM0 hE) (own := RX12) (ref := RX12) (C := RX12) (T := TX12) (N := 20) hts hiX12 hown rfl 1 (by decide) hk9 (fun _ h9 => h9) rfl dX12_mix_110 ?_
        refine lv_bipush (v := 123) hx hb dX12_mix_113 (by decide) ?_
        refine lv_iload_n hx hb dX12_mix_115 rfl (lv_at hl 0 rfl) ?_
        refine lv_iadd hx hb dX12_mix_116 ?_
        refine lv_iload_n hx hb dX12_mix_117 rfl (lv_at hl 3 rfl) ?_
        obtain ⟨hin, hf⟩ := xs_f hf
        refine x_iast hx hb hw (cM1 hE) hin dX12_mix_118 (fun σ19 H locs ex hw => ?_)
        replace hf := hf σ19 ex
        clear ex hin
        refine lv_aload_n hx hb dX12_mix_119 rfl (lv_at hl 1 rfl) ?_
        refine x_getr hx hb hw (cM0 hE) (own := RX12) (ref := RX12) (C := RX12) (T := TX12) (N := 20) hts hiX12 hown rfl 1 (by decide) hk9 (fun _ h9 => h9) rfl dX12_mix_120 ?_
        refine lv_sipush (v := 143) hx hb dX12_mix_123 (by decide) ?_
        refine lv_iload_n hx hb dX12_mix_126 rfl (lv_at hl 0 rfl) ?_
        refine lv_iadd hx hb dX12_mix_127 ?_
        refine lv_iconst (v := 0) hx hb dX12_mix_128 (by decide) ?_
        obtain ⟨hin, hf⟩ := xs_f hf
        refine x_iast hx hb hw (cM1 hE) hin dX12_mix_129 (fun σ20 H locs ex hw => ?_)
        replace hf := hf σ20 ex
        clear ex hin
        refine lv_aload_n hx hb dX12_mix_130 rfl (lv_at hl 1 rfl) ?_
        refine x_getr hx hb hw (cM0 hE) (own := RX12) (ref := RX12) (C := RX12) (T := TX12) (N := 20) hts hiX12 hown rfl 1 (by decide) hk9 (fun _ h9 => h9) rfl dX12_mix_131 ?_
        refine lv_sipush (v := 163) hx hb dX12_mix_134 (by decide) ?_
        refine lv_iload_n hx hb dX12_mix_137 rfl (lv_at hl 0 rfl) ?_
        refine lv_iadd hx hb dX12_mix_138 ?_
        refine lv_iconst (v := 0) hx hb dX12_mix_139 (by decide) ?_
        obtain ⟨hin, hf⟩ := xs_f hf
        refine x_iast hx hb hw (cM1 hE) hin dX12_mix_140 (fun σ21 H locs ex hw => ?_)
        replace hf := hf σ21 ex
        clear ex hin
        refine lv_aload_n hx hb dX12_mix_141 rfl (lv_at hl 1 rfl) ?_
        refine x_getr hx hb hw (cM0 hE) (own := RX12) (ref := RX12) (C := RX12) (T := TX12) (N := 20) hts hiX12 hown rfl 1 (by decide) hk9 (fun _ h9 => h9) rfl dX12_mix_142 ?_
        refine lv_sipush (v := 183) hx hb dX12_mix_145 (by decide) ?_
        refine lv_iload_n hx hb dX12_mix_148 rfl (lv_at hl 0 rfl) ?_
        refine lv_iadd hx hb dX12_mix_149 ?_
        refine lv_iconst (v := (-1)) hx hb dX12_mix_150 (by decide) ?_
        obtain ⟨hin, hf⟩ := xs_f hf
        refine x_iast hx hb hw (cM1 hE) hin dX12_mix_151 (fun σ22 H locs ex hw => ?_)
        replace hf := hf σ22 ex
        clear ex hin
        refine lv_aload_n hx hb dX12_mix_152 rfl (lv_at hl 1 rfl) ?_
        refine x_getr hx hb hw (cM0 hE) (own := RX12) (ref := RX12) (C := RX12) (T := TX12) (N := 20) hts hiX12 hown rfl 1 (by decide) hk9 (fun _ h9 => h9) rfl dX12_mix_153 ?_
        refine lv_sipush (v := 203) hx hb dX12_mix_156 (by decide) ?_
        refine lv_iload_n hx hb dX12_mix_159 rfl (lv_at hl 0 rfl) ?_
        refine lv_iadd hx hb dX12_mix_160 ?_
        refine lv_iconst (v := (-1)) hx hb dX12_mix_161 (by decide) ?_
        obtain ⟨hin, hf⟩ := xs_f hf
        refine x_iast hx hb hw (cM1 hE) hin dX12_mix_162 (fun σ23 H locs ex hw => ?_)
        replace hf := hf σ23 ex
        clear ex hin
        refine lv_iload_n hx hb dX12_mix_163 rfl (lv_at hl 0 rfl) ?_
        exact x_iret hx hb hr hlk hw hf dX12_mix_164
      · replace hf := xif_neg c53 hf
        refine lv_aload_n hx hb dX12_mix_56 rfl (lv_at hl 0 rfl) ?_
        refine x_getr hx hb hw (cM0 hE) (own := RX12) (ref := RX12) (C := RX12) (T := TX12) (N := 20) hts hiX12 hown rfl 1 (by decide) hk9 (fun _ h9 => h9) rfl dX12_mix_57 ?_
        refine lv_bipush (v := 11) hx hb dX12_mix_60 (by decide) ?_
        refine lv_iload_n hx hb dX12_mix_62 rfl (lv_at hl 3 rfl) ?_
        refine lv_iadd hx hb dX12_mix_63 ?_
        refine lv_topi (fun v24 ex => ?_)
        replace hf := xl_f hf v24 ex
        clear ex
        refine lv_dup2_11 hx hb dX12_mix_64 rfl rfl ?_
        obtain ⟨hin, hf⟩ := xr_f hf
        refine x_iald hx hb hw (cM1 hE) hin dX12_mix_65 ?_
        refine lv_topi (fun v25 ex => ?_)
        replace hf := hf v25 ex
        clear ex hin
        refine lv_aload_n hx hb dX12_mix_66 rfl (lv_at hl 0 rfl) ?_
        refine x_getr hx hb hw (cM0 hE) (own := RX12) (ref := RX12) (C := RX12) (T := TX12) (N := 20) hts hiX12 hown rfl 8 (by decide) hk22 (fun _ h9 => h9) rfl dX12_mix_67 ?_
        refine lv_iload_n hx hb dX12_mix_70 rfl (lv_at hl 3 rfl) ?_
        obtain ⟨hin, hf⟩ := xr_f hf
        refine x_iald hx hb hw (cM5 hE) hin dX12_mix_71 ?_
        refine lv_topi (fun v26 ex => ?_)
        replace hf := hf v26 ex
        clear ex hin
        refine lv_isub hx hb dX12_mix_72 ?_
        obtain ⟨hin, hf⟩ := xs_f hf
        refine x_iast hx hb hw (cM1 hE) hin dX12_mix_73 (fun σ27 H locs ex hw => ?_)
        replace hf := hf σ27 ex
        clear ex hin
        obtain ⟨v28, ex⟩ : ∃ y : Int32, y = (a3 + 1) := ⟨_, rfl⟩
        replace hf := xl_f hf v28 ex
        refine lv_iinc (v := v28) (lv' := [(3, .int v28), (0, .ref (E.a 0)), (1, .int a1), (2, .int a2)]) hx hb dX12_mix_74 hl (k := 3) rfl (by rw [ex]; rfl) (by decide) rfl (fun ls hl => ?_)
        clear ex
        refine lv_goto (tgt := 50) hx hb dX12_mix_77 (by decide) ?_
        exact ih50 a1 a2 v28 σ27 _ _ _ hw (lv_sub hl [1, 2, 3, 0] rfl) hf
  refine lv_aload_n hx hb dX12_mix_0 rfl (lv_at hl 0 rfl) ?_
  refine lv_aload_n hx hb dX12_mix_1 rfl (lv_at hl 0 rfl) ?_
  refine lv_iload_n hx hb dX12_mix_2 rfl (lv_at hl 1 rfl) ?_
  obtain ⟨r1, σ2, hcl, hf⟩ := xc2_f hf
  refine x_calli (va_runV (As := [.int p0]) (rest := [.ref (E.a 0)]) ⟨hx, hb, hml, hown, hts⟩ (mX12_isRecipe hE p0 σ r1 σ2 hcl s.heap.size) (cwV 1 hts gX12_mix_X12_isRecipe rfl rfl rfl (by decide +kernel) ⟨Nat.le_of_ble_eq_true rfl, Nat.le_of_ble_eq_true rfl⟩) (x_preV _ hw hA hG (cM0 hE) rfl) rfl rfl hl.1 rfl (lv_room (Nat.le_of_ble_eq_true rfl)) dX12_mix_3 ⟨Nat.le_of_ble_eq_true rfl, Nat.le_of_ble_eq_true rfl⟩) hw hA (fun H locs hw => ?_)
  clear hcl
  refine lv_iconst (v := 1) hx hb dX12_mix_6 (by decide) ?_
  obtain ⟨r3, σ4, hcl, hf⟩ := xc2_f hf
  refine x_calli (va_runV (As := [.int r1, .int 1]) (rest := []) ⟨hx, hb, hml, hown, hts⟩ (mX12_can hE r1 1 σ2 r3 σ4 hcl H.size) (cwV 2 hts gX12_mix_X12_can rfl rfl rfl (by decide +kernel) ⟨Nat.le_of_ble_eq_true rfl, Nat.le_of_ble_eq_true rfl⟩) (x_preV _ hw hA hG (cM0 hE) rfl) rfl rfl hl.1 rfl (lv_room (Nat.le_of_ble_eq_true rfl)) dX12_mix_7 ⟨Nat.le_of_ble_eq_true rfl, Nat.le_of_ble_eq_true rfl⟩) hw hA (fun H locs hw => ?_)
  clear hcl
  refine lv_if_eq (tgt := 42) hx hb dX12_mix_10 (by decide) (fun c10 => ?_) (fun c10 => ?_)
  · replace hf := xif_pos c10 hf
    refine lv_iconst (v := 0) hx hb dX12_mix_42 (by decide) ?_
    exact x_iret hx hb hr hlk hw hf dX12_mix_43
  · replace hf := xif_neg c10 hf
    refine lv_aload_n hx hb dX12_mix_13 rfl (lv_at hl 0 rfl) ?_
    refine lv_iload_n hx hb dX12_mix_14 rfl (lv_at hl 2 rfl) ?_
    refine lv_iconst (v := 1) hx hb dX12_mix_15 (by decide) ?_
    refine lv_bipush (v := 40) hx hb dX12_mix_16 (by decide) ?_
    obtain ⟨r5, σ6, hcl, hf⟩ := xc2_f hf
    refine x_calli (va_runS (As := [.int p1, .int 1, .int 40]) (rest := [.ref (E.a 0)]) ⟨hx, hb, hml, hown, hts⟩ (mX12_in hE p1 1 40 σ4 r5 σ6 hcl H.size) (va_cwS 3 hts gX12_mix_X12_in rfl rfl rfl (by decide +kernel) ⟨Nat.le_of_ble_eq_true rfl, Nat.le_of_ble_eq_true rfl⟩) (x_preS _ hw hA hG) rfl rfl hl.1 rfl (lv_room (Nat.le_of_ble_eq_true rfl)) dX12_mix_18 ⟨Nat.le_of_ble_eq_true rfl, Nat.le_of_ble_eq_true rfl⟩) hw hA (fun H locs hw => ?_)
    clear hcl
    refine lv_iconst (v := 2) hx hb dX12_mix_21 (by decide) ?_
    obtain ⟨r7, σ8, hcl, hf⟩ := xc2_f hf
    refine x_calli (va_runV (As := [.int r5, .int 2]) (rest := []) ⟨hx, hb, hml, hown, hts⟩ (mX12_can hE r5 2 σ6 r7 σ8 hcl H.size) (cwV 2 hts gX12_mix_X12_can rfl rfl rfl (by decide +kernel) ⟨Nat.le_of_ble_eq_true rfl, Nat.le_of_ble_eq_true rfl⟩) (x_preV _ hw hA hG (cM0 hE) rfl) rfl rfl hl.1 rfl (lv_room (Nat.le_of_ble_eq_true rfl)) dX12_mix_22 ⟨Nat.le_of_ble_eq_true rfl, Nat.le_of_ble_eq_true rfl⟩) hw hA (fun H locs hw => ?_)
    clear hcl
    refine lv_if_eq (tgt := 42) hx hb dX12_mix_25 (by decide) (fun c25 => ?_) (fun c25 => ?_)
    · replace hf := xif_pos c25 hf
      refine lv_iconst (v := 0) hx hb dX12_mix_42 (by decide) ?_
      exact x_iret hx hb hr hlk hw hf dX12_mix_43
    · replace hf := xif_neg c25 hf
      refine lv_aload_n hx hb dX12_mix_28 rfl (lv_at hl 0 rfl) ?_
      refine lv_aload_n hx hb dX12_mix_29 rfl (lv_at hl 0 rfl) ?_
      refine lv_iload_n hx hb dX12_mix_30 rfl (lv_at hl 1 rfl) ?_
      refine lv_iload_n hx hb dX12_mix_31 rfl (lv_at hl 2 rfl) ?_
      obtain ⟨r9, σ10, hcl, hf⟩ := xc2_f hf
      refine x_calli (va_runV (As := [.int p0, .int p1]) (rest := [.ref (E.a 0)]) ⟨hx, hb, hml, hown, hts⟩ (mX12_canMix hE p0 p1 σ8 r9 σ10 hcl H.size) (cwV 2 hts gX12_mix_X12_canMix rfl rfl rfl (by decide +kernel) ⟨Nat.le_of_ble_eq_true rfl, Nat.le_of_ble_eq_true rfl⟩) (x_preV _ hw hA hG (cM0 hE) rfl) rfl rfl hl.1 rfl (lv_room (Nat.le_of_ble_eq_true rfl)) dX12_mix_32 ⟨Nat.le_of_ble_eq_true rfl, Nat.le_of_ble_eq_true rfl⟩) hw hA (fun H locs hw => ?_)
      clear hcl
      refine lv_iconst (v := 3) hx hb dX12_mix_35 (by decide) ?_
      obtain ⟨r11, σ12, hcl, hf⟩ := xc2_f hf
      refine x_calli (va_runV (As := [.int r9, .int 3]) (rest := []) ⟨hx, hb, hml, hown, hts⟩ (mX12_can hE r9 3 σ10 r11 σ12 hcl H.size) (cwV 2 hts gX12_mix_X12_can rfl rfl rfl (by decide +kernel) ⟨Nat.le_of_ble_eq_true rfl, Nat.le_of_ble_eq_true rfl⟩) (x_preV _ hw hA hG (cM0 hE) rfl) rfl rfl hl.1 rfl (lv_room (Nat.le_of_ble_eq_true rfl)) dX12_mix_36 ⟨Nat.le_of_ble_eq_true rfl, Nat.le_of_ble_eq_true rfl⟩) hw hA (fun H locs hw => ?_)
      clear hcl
      refine lv_if_ne (tgt := 44) hx hb dX12_mix_39 (by decide) (fun c39 => ?_) (fun c39 => ?_)
      · replace hf := xif_neg c39 hf
        refine lv_aload_n hx hb dX12_mix_44 rfl (lv_at hl 0 rfl) ?_
        obtain ⟨σ14, hcl, hf⟩ := xc_e hf
        refine x_callv (va_runV (As := []) (rest := []) ⟨hx, hb, hml, hown, hts⟩ (mX12_keep hE σ12 σ14 hcl H.size) (cwV 0 hts gX12_mix_X12_keep rfl rfl rfl (by decide +kernel) ⟨Nat.le_of_ble_eq_true rfl, Nat.le_of_ble_eq_true rfl⟩) (x_preV _ hw hA hG (cM0 hE) rfl) rfl rfl hl.1 rfl (lv_room (Nat.le_of_ble_eq_true rfl)) dX12_mix_45 ⟨Nat.le_of_ble_eq_true rfl, Nat.le_of_ble_eq_true rfl⟩) hw hA (fun H locs hw => ?_)
        clear hcl
        refine lv_iconst (v := 0) hx hb dX12_mix_48 (by decide) ?_
        refine lv_istore_n (lv' := [(3, .int 0), (0, .ref (E.a 0)), (1, .int p0), (2, .int p1)]) hx hb dX12_mix_49 rfl hl (by decide) rfl (fun ls hl => ?_)
        exact h50 xFU p0 p1 0 σ14 _ _ _ hw (lv_sub hl [1, 2, 3, 0] rfl) hf
      · replace hf := xif_pos c39 hf
        refine lv_iconst (v := 0) hx hb dX12_mix_42 (by decide) ?_
        exact x_iret hx hb hr hlk hw hf dX12_mix_43

def fX12_setWarmth (p0 : Int32) (σ : xSt) : Option (Int32 × xSt) := (xc2 (fX12_in p0 0 5 σ) fun r1 σ2 => (xc2 (fX12_can r1 1 σ2) fun r3 σ4 => (if r3 = 0 then some (0, σ4) else (xc (fX12_keep σ4) fun σ6 => (xr σ6 1 680 1 fun v7 => (xs σ6 1 680 1 p0 fun σ8 => some (v7, σ8)))))))
abbrev rmX12_setWarmth : Room := { frames := 2, cells := 0, slots := 0, locals := 42 }
set_option maxRecDepth 100000 in
set_option maxHeartbeats 4000000 in
theorem mX12_setWarmth {l : Launch} {E : xE} (hE : E.sh = shM) (p0 : Int32) (σ : xSt) (o1 : Int32) (o2 : xSt) (hf : fX12_setWarmth p0 σ = some (o1, o2)) : xMi l yX12_setWarmth wsX12_setWarmth rmX12_setWarmth E [.ref (E.a 0), .int p0] σ o1 o2 := by
  unfold fX12_setWarmth at hf
  refine xMi_of (cc := cX12_setWarmth) (maxL := 3) (ret := (some .int)) (by decide) rfl (Nat.le_of_ble_eq_true rfl) ?_
  intro p e s m args below meth c A ls ⟨hx, hb, hr, hml, hown, hts, hlk⟩ hA hG hw hl
  have hown : s.vm.findClass RX12 = some m.cls := hown
  have hl : lv_has ls 3 [(0, .ref (E.a 0)), (1, .int p0)] := hl
  have hk9 := hts (.fieldLink RX12 9 "OvenRoundModel" "w" "[I") (by decide +kernel)
  have hiX12 : ∀ w ∈ wsX120, w ∈ wsX12_setWarmth := by decide +kernel
  refine lv_aload_n hx hb dX12_setWarmth_0 rfl (lv_at hl 0 rfl) ?_
  refine lv_iload_n hx hb dX12_setWarmth_1 rfl (lv_at hl 1 rfl) ?_
  refine lv_iconst (v := 0) hx hb dX12_setWarmth_2 (by decide) ?_
  refine lv_iconst (v := 5) hx hb dX12_setWarmth_3 (by decide) ?_
  obtain ⟨r1, σ2, hcl, hf⟩ := xc2_f hf
  refine x_calli (va_runS (As := [.int p0, .int 0, .int 5]) (rest := [.ref (E.a 0)]) ⟨hx, hb, hml, hown, hts⟩ (mX12_in hE p0 0 5 σ r1 σ2 hcl s.heap.size) (va_cwS 3 hts gX12_setWarmth_X12_in rfl rfl rfl (by decide +kernel) ⟨Nat.le_of_ble_eq_true rfl, Nat.le_of_ble_eq_true rfl⟩) (x_preS _ hw hA hG) rfl rfl hl.1 rfl (lv_room (Nat.le_of_ble_eq_true rfl)) dX12_setWarmth_4 ⟨Nat.le_of_ble_eq_true rfl, Nat.le_of_ble_eq_true rfl⟩) hw hA (fun H locs hw => ?_)
  clear hcl
  refine lv_iconst (v := 1) hx hb dX12_setWarmth_7 (by decide) ?_
  obtain ⟨r3, σ4, hcl, hf⟩ := xc2_f hf
  refine x_calli (va_runV (As := [.int r1, .int 1]) (rest := []) ⟨hx, hb, hml, hown, hts⟩ (mX12_can hE r1 1 σ2 r3 σ4 hcl H.size) (cwV 2 hts gX12_setWarmth_X12_can rfl rfl rfl (by decide +kernel) ⟨Nat.le_of_ble_eq_true rfl, Nat.le_of_ble_eq_true rfl⟩) (x_preV _ hw hA hG (cM0 hE) rfl) rfl rfl hl.1 rfl (lv_room (Nat.le_of_ble_eq_true rfl)) dX12_setWarmth_8 ⟨Nat.le_of_ble_eq_true rfl, Nat.le_of_ble_eq_true rfl⟩) hw hA (fun H locs hw => ?_)
  clear hcl
  refine lv_if_ne (tgt := 16) hx hb dX12_setWarmth_11 (by decide) (fun c11 => ?_) (fun c11 => ?_)
  · replace hf := xif_neg c11 hf
    refine lv_aload_n hx hb dX12_setWarmth_16 rfl (lv_at hl 0 rfl) ?_
    obtain ⟨σ6, hcl, hf⟩ := xc_e hf
    refine x_callv (va_runV (As := []) (rest := []) ⟨hx, hb, hml, hown, hts⟩ (mX12_keep hE σ4 σ6 hcl H.size) (cwV 0 hts gX12_setWarmth_X12_keep rfl rfl rfl (by decide +kernel) ⟨Nat.le_of_ble_eq_true rfl, Nat.le_of_ble_eq_true rfl⟩) (x_preV _ hw hA hG (cM0 hE) rfl) rfl rfl hl.1 rfl (lv_room (Nat.le_of_ble_eq_true rfl)) dX12_setWarmth_17 ⟨Nat.le_of_ble_eq_true rfl, Nat.le_of_ble_eq_true rfl⟩) hw hA (fun H locs hw => ?_)
    clear hcl
    refine lv_aload_n hx hb dX12_setWarmth_20 rfl (lv_at hl 0 rfl) ?_
    refine x_getr hx hb hw (cM0 hE) (own := RX12) (ref := RX12) (C := RX12) (T := TX12) (N := 20) hts hiX12 hown rfl 1 (by decide) hk9 (fun _ h9 => h9) rfl dX12_setWarmth_21 ?_
    refine lv_iconst (v := 1) hx hb dX12_setWarmth_24 (by decide) ?_
    obtain ⟨hin, hf⟩ := xr_f hf
    refine x_iald hx hb hw (cM1 hE) hin dX12_setWarmth_25 ?_
    refine lv_topi (fun v7 ex => ?_)
    replace hf := hf v7 ex
    clear ex hin
    refine lv_istore_n (lv' := [(2, .int v7), (0, .ref (E.a 0)), (1, .int p0)]) hx hb dX12_setWarmth_26 rfl hl (by decide) rfl (fun ls hl => ?_)
    refine lv_aload_n hx hb dX12_setWarmth_27 rfl (lv_at hl 1 rfl) ?_
    refine x_getr hx hb hw (cM0 hE) (own := RX12) (ref := RX12) (C := RX12) (T := TX12) (N := 20) hts hiX12 hown rfl 1 (by decide) hk9 (fun _ h9 => h9) rfl dX12_setWarmth_28 ?_
    refine lv_iconst (v := 1) hx hb dX12_setWarmth_31 (by decide) ?_
    refine lv_iload_n hx hb dX12_setWarmth_32 rfl (lv_at hl 2 rfl) ?_
    obtain ⟨hin, hf⟩ := xs_f hf
    refine x_iast hx hb hw (cM1 hE) hin dX12_setWarmth_33 (fun σ8 H locs ex hw => ?_)
    replace hf := hf σ8 ex
    clear ex hin
    refine lv_iload_n hx hb dX12_setWarmth_34 rfl (lv_at hl 0 rfl) ?_
    exact x_iret hx hb hr hlk hw hf dX12_setWarmth_35
  · replace hf := xif_pos c11 hf
    refine lv_iconst (v := 0) hx hb dX12_setWarmth_14 (by decide) ?_
    exact x_iret hx hb hr hlk hw hf dX12_setWarmth_15

def fX12_gain (σ : xSt) : Option (Int32 × xSt) := (xr σ 1 680 1 fun v1 => (if v1 = 5 then some (3, σ) else (if v1 = 4 then some (6, σ) else (if v1 = 3 then some (4, σ) else some (v1, σ)))))
abbrev rmX12_gain : Room := { frames := 0, cells := 0, slots := 0, locals := 0 }
set_option maxRecDepth 100000 in
set_option maxHeartbeats 4000000 in
theorem mX12_gain {l : Launch} {E : xE} (hE : E.sh = shM) (σ : xSt) (o1 : Int32) (o2 : xSt) (hf : fX12_gain σ = some (o1, o2)) : xMi l yX12_gain wsX12_gain rmX12_gain E [.ref (E.a 0)] σ o1 o2 := by
  unfold fX12_gain at hf
  refine xMi_of (cc := cX12_gain) (maxL := 2) (ret := (some .int)) (by decide) rfl (Nat.le_of_ble_eq_true rfl) ?_
  intro p e s m args below meth c A ls ⟨hx, hb, hr, hml, hown, hts, hlk⟩ hA hG hw hl
  have hown : s.vm.findClass RX12 = some m.cls := hown
  have hl : lv_has ls 2 [(0, .ref (E.a 0))] := hl
  have hk9 := hts (.fieldLink RX12 9 "OvenRoundModel" "w" "[I") (by decide +kernel)
  have hiX12 : ∀ w ∈ wsX120, w ∈ wsX12_gain := by decide +kernel
  refine lv_aload_n hx hb dX12_gain_0 rfl (lv_at hl 0 rfl) ?_
  refine x_getr hx hb hw (cM0 hE) (own := RX12) (ref := RX12) (C := RX12) (T := TX12) (N := 20) hts hiX12 hown rfl 1 (by decide) hk9 (fun _ h9 => h9) rfl dX12_gain_1 ?_
  refine lv_iconst (v := 1) hx hb dX12_gain_4 (by decide) ?_
  obtain ⟨hin, hf⟩ := xr_f hf
  refine x_iald hx hb hw (cM1 hE) hin dX12_gain_5 ?_
  refine lv_topi (fun v1 ex => ?_)
  replace hf := hf v1 ex
  clear ex hin
  refine lv_istore_n (lv' := [(1, .int v1), (0, .ref (E.a 0))]) hx hb dX12_gain_6 rfl hl (by decide) rfl (fun ls hl => ?_)
  refine lv_iload_n hx hb dX12_gain_7 rfl (lv_at hl 0 rfl) ?_
  refine lv_iconst (v := 5) hx hb dX12_gain_8 (by decide) ?_
  refine lv_icmp_ne (tgt := 16) hx hb dX12_gain_9 (by decide) (fun c9 => ?_) (fun c9 => ?_)
  · replace hf := xif_neg c9 hf
    refine lv_iload_n hx hb dX12_gain_16 rfl (lv_at hl 0 rfl) ?_
    refine lv_iconst (v := 4) hx hb dX12_gain_17 (by decide) ?_
    refine lv_icmp_ne (tgt := 26) hx hb dX12_gain_18 (by decide) (fun c18 => ?_) (fun c18 => ?_)
    · replace hf := xif_neg c18 hf
      refine lv_iload_n hx hb dX12_gain_26 rfl (lv_at hl 0 rfl) ?_
      refine lv_iconst (v := 3) hx hb dX12_gain_27 (by decide) ?_
      refine lv_icmp_ne (tgt := 35) hx hb dX12_gain_28 (by decide) (fun c28 => ?_) (fun c28 => ?_)
      · replace hf := xif_neg c28 hf
        refine lv_iload_n hx hb dX12_gain_35 rfl (lv_at hl 0 rfl) ?_
        exact x_iret hx hb hr hlk hw hf dX12_gain_36
      · replace hf := xif_pos c28 hf
        refine lv_iconst (v := 4) hx hb dX12_gain_31 (by decide) ?_
        refine lv_goto (tgt := 36) hx hb dX12_gain_32 (by decide) ?_
        exact x_iret hx hb hr hlk hw hf dX12_gain_36
    · replace hf := xif_pos c18 hf
      refine lv_bipush (v := 6) hx hb dX12_gain_21 (by decide) ?_
      refine lv_goto (tgt := 36) hx hb dX12_gain_23 (by decide) ?_
      exact x_iret hx hb hr hlk hw hf dX12_gain_36
  · replace hf := xif_pos c9 hf
    refine lv_iconst (v := 3) hx hb dX12_gain_12 (by decide) ?_
    refine lv_goto (tgt := 36) hx hb dX12_gain_13 (by decide) ?_
    exact x_iret hx hb hr hlk hw hf dX12_gain_36

def fX12_passes_c109 : Nat → Int32 → xSt → Option xSt
  | 0 => fun _ _ => none
  | n + 1 => fun a2 σ => (xr σ 1 680 6 fun v20 => (if v20 ≤ a2 then some σ else (xr σ 1 680 (163 + a2) fun v21 => (if v21 = 2 then (xr σ 1 680 (203 + a2) fun v23 => (xr σ 1 680 0 fun v24 => (if (v23 + 10) = v24 then (xs σ 1 680 (163 + a2) 3 fun σ26 => (xr σ26 1 680 (103 + a2) fun v27 => (xl (223 + (4 * v27)) fun v28 => (xr σ26 1 680 v28 fun v29 => (xr σ26 1 680 (123 + a2) fun v30 => (xs σ26 1 680 v28 (v29 + v30) fun σ31 => (xl (a2 + 1) fun v32 => fX12_passes_c109 n v32 σ31))))))) else (xl (a2 + 1) fun v25 => fX12_passes_c109 n v25 σ)))) else (xl (a2 + 1) fun v22 => fX12_passes_c109 n v22 σ)))))
theorem fX12_passes_c109_s (n : Nat) (a2 : Int32) (σ : xSt) : fX12_passes_c109 (n + 1) a2 σ = ((xr σ 1 680 6 fun v20 => (if v20 ≤ a2 then some σ else (xr σ 1 680 (163 + a2) fun v21 => (if v21 = 2 then (xr σ 1 680 (203 + a2) fun v23 => (xr σ 1 680 0 fun v24 => (if (v23 + 10) = v24 then (xs σ 1 680 (163 + a2) 3 fun σ26 => (xr σ26 1 680 (103 + a2) fun v27 => (xl (223 + (4 * v27)) fun v28 => (xr σ26 1 680 v28 fun v29 => (xr σ26 1 680 (123 + a2) fun v30 => (xs σ26 1 680 v28 (v29 + v30) fun σ31 => (xl (a2 + 1) fun v32 => fX12_passes_c109 n v32 σ31))))))) else (xl (a2 + 1) fun v25 => fX12_passes_c109 n v25 σ)))) else (xl (a2 + 1) fun v22 => fX12_passes_c109 n v22 σ))))) : Option xSt) := rfl
def fX12_passes_c12 : Nat → Int32 → xSt → Option xSt
  | 0 => fun _ _ => none
  | n + 1 => fun a1 σ => (xr σ 1 680 6 fun v3 => (if v3 ≤ a1 then (xr σ 1 680 3 fun v4 => (xr σ 1 680 2 fun v5 => (xl (v4 - v5) fun v6 => (xr σ 1 680 2 fun v7 => (if v6 ≤ 5 then (if (-5) ≤ v6 then (xs σ 1 680 2 (v7 + v6) fun σ8 => fX12_passes_c109 xFU 0 σ8) else (xs σ 1 680 2 (v7 + (-5)) fun σ9 => fX12_passes_c109 xFU 0 σ9)) else (xs σ 1 680 2 (v7 + 5) fun σ10 => fX12_passes_c109 xFU 0 σ10)))))) else (xl (143 + a1) fun v11 => (xr σ 1 680 v11 fun v12 => (xr σ 1 680 (163 + a1) fun v13 => (if v13 = 0 then (xc2 (fX12_gain σ) fun r16 σ17 => (xs σ17 1 680 v11 (v12 + r16) fun σ18 => (xl (a1 + 1) fun v19 => fX12_passes_c12 n v19 σ18))) else (xs σ 1 680 v11 (v12 + 0) fun σ14 => (xl (a1 + 1) fun v15 => fX12_passes_c12 n v15 σ14))))))))
theorem fX12_passes_c12_s (n : Nat) (a1 : Int32) (σ : xSt) : fX12_passes_c12 (n + 1) a1 σ = ((xr σ 1 680 6 fun v3 => (if v3 ≤ a1 then (xr σ 1 680 3 fun v4 => (xr σ 1 680 2 fun v5 => (xl (v4 - v5) fun v6 => (xr σ 1 680 2 fun v7 => (if v6 ≤ 5 then (if (-5) ≤ v6 then (xs σ 1 680 2 (v7 + v6) fun σ8 => fX12_passes_c109 xFU 0 σ8) else (xs σ 1 680 2 (v7 + (-5)) fun σ9 => fX12_passes_c109 xFU 0 σ9)) else (xs σ 1 680 2 (v7 + 5) fun σ10 => fX12_passes_c109 xFU 0 σ10)))))) else (xl (143 + a1) fun v11 => (xr σ 1 680 v11 fun v12 => (xr σ 1 680 (163 + a1) fun v13 => (if v13 = 0 then (xc2 (fX12_gain σ) fun r16 σ17 => (xs σ17 1 680 v11 (v12 + r16) fun σ18 => (xl (a1 + 1) fun v19 => fX12_passes_c12 n v19 σ18))) else (xs σ 1 680 v11 (v12 + 0) fun σ14 => (xl (a1 + 1) fun v15 => fX12_passes_c12 n v15 σ14)))))))) : Option xSt) := rfl
def fX12_passes (σ : xSt) : Option xSt := (xr σ 1 680 0 fun v1 => (xs σ 1 680 0 (v1 + 1) fun σ2 => fX12_passes_c12 xFU 0 σ2))
abbrev rmX12_passes : Room := { frames := 1, cells := 0, slots := 0, locals := 21 }
set_option maxRecDepth 100000 in
set_option maxHeartbeats 4000000 in
theorem mX12_passes {l : Launch} {E : xE} (hE : E.sh = shM) (σ : xSt) (o1 : xSt) (hf : fX12_passes σ = some o1) : xMv l yX12_passes wsX12_passes rmX12_passes E [.ref (E.a 0)] σ o1 := by
  unfold fX12_passes at hf
  refine xMv_of (cc := cX12_passes) (maxL := 3) (ret := none) (by decide) rfl (Nat.le_of_ble_eq_true rfl) ?_
  intro p e s m args below meth c A ls ⟨hx, hb, hr, hml, hown, hts, hlk⟩ hA hG hw hl
  have hown : s.vm.findClass RX12 = some m.cls := hown
  have hl : lv_has ls 3 [(0, .ref (E.a 0))] := hl
  have hk9 := hts (.fieldLink RX12 9 "OvenRoundModel" "w" "[I") (by decide +kernel)
  have hiX12 : ∀ w ∈ wsX120, w ∈ wsX12_passes := by decide +kernel
  have h109 : ∀ (n : Nat) (a2 : Int32) (σ : xSt) (H : Heap) (locs : List Loc) (ls : Array Slot), xw E A s.heap s σ H locs → lv_has ls 3 [(0, .ref (E.a 0)), (2, .int a2)] → fX12_passes_c109 n a2 σ = some o1 → W p l e rmX12_passes s m args below meth c H locs 0 0 (MQ below (xQv E A o1) args s 0 0 A) (F0 m 109 ls []) := by
    intro n109
    induction n109 with
    | zero => intro a2 σ H locs ls hw hl hf; exact nomatch hf
    | succ n109 ih109 =>
      intro a2 σ H locs ls hw hl hf
      rw [fX12_passes_c109_s] at hf
      refine lv_iload_n hx hb dX12_passes_109 rfl (lv_at hl 1 rfl) ?_
      refine lv_aload_n hx hb dX12_passes_110 rfl (lv_at hl 0 rfl) ?_
      refine x_getr hx hb hw (cM0 hE) (own := RX12) (ref := RX12) (C := RX12) (T := TX12) (N := 20) hts hiX12 hown rfl 1 (by decide) hk9 (fun _ h9 => h9) rfl dX12_passes_111 ?_
      refine lv_bipush (v := 6) hx hb dX12_passes_114 (by decide) ?_
      obtain ⟨hin, hf⟩ := xr_f hf
      refine x_iald hx hb hw (cM1 hE) hin dX12_passes_116 ?_
      refine lv_topi (fun v20 ex => ?_)
      replace hf := hf v20 ex
      clear ex hin
      refine lv_icmp_ge (tgt := 205) hx hb dX12_passes_117 (by decide) (fun c117 => ?_) (fun c117 => ?_)
      · replace hf := xif_pos c117 hf
        exact x_vret hx hb hr hlk hw hf dX12_passes_205
      · replace hf := xif_neg c117 hf
        refine lv_aload_n hx hb dX12_passes_120 rfl (lv_at hl 0 rfl) ?_
        refine x_getr hx hb hw (cM0 hE) (own := RX12) (ref := RX12) (C := RX12) (T := TX12) (N := 20) hts hiX12 hown rfl 1 (by decide) hk9 (fun _ h9 => h9) rfl dX12_passes_121 ?_
        refine lv_sipush (v := 163) hx hb dX12_passes_124 (by decide) ?_
        refine lv_iload_n hx hb dX12_passes_127 rfl (lv_at hl 1 rfl) ?_
        refine lv_iadd hx hb dX12_passes_128 ?_
        obtain ⟨hin, hf⟩ := xr_f hf
        refine x_iald hx hb hw (cM1 hE) hin dX12_passes_129 ?_
        refine lv_topi (fun v21 ex => ?_)
        replace hf := hf v21 ex
        clear ex hin
        refine lv_iconst (v := 2) hx hb dX12_passes_130 (by decide) ?_
        refine lv_icmp_ne (tgt := 199) hx hb dX12_passes_131 (by decide) (fun c131 => ?_) (fun c131 => ?_)
        · replace hf := xif_neg c131 hf
          obtain ⟨v22, ex⟩ : ∃ y : Int32, y = (a2 + 1) := ⟨_, rfl⟩
          replace hf := xl_f hf v22 ex
          refine lv_iinc (v := v22) (lv' := [(2, .int v22), (0, .ref (E.a 0))]) hx hb dX12_passes_199 hl (k := 1) rfl (by rw [ex]; rfl) (by decide) rfl (fun ls hl => ?_)
          clear ex
          refine lv_goto (tgt := 109) hx hb dX12_passes_202 (by decide) ?_
          exact ih109 v22 σ _ _ _ hw (lv_sub hl [1, 0] rfl) hf
        · replace hf := xif_pos c131 hf
          refine lv_aload_n hx hb dX12_passes_134 rfl (lv_at hl 0 rfl) ?_
          refine x_getr hx hb hw (cM0 hE) (own := RX12) (ref := RX12) (C := RX12) (T := TX12) (N := 20) hts hiX12 hown rfl 1 (by decide) hk9 (fun _ h9 => h9) rfl dX12_passes_135 ?_
          refine lv_sipush (v := 203) hx hb dX12_passes_138 (by decide) ?_
          refine lv_iload_n hx hb dX12_passes_141 rfl (lv_at hl 1 rfl) ?_
          refine lv_iadd hx hb dX12_passes_142 ?_
          obtain ⟨hin, hf⟩ := xr_f hf
          refine x_iald hx hb hw (cM1 hE) hin dX12_passes_143 ?_
          refine lv_topi (fun v23 ex => ?_)
          replace hf := hf v23 ex
          clear ex hin
          refine lv_bipush (v := 10) hx hb dX12_passes_144 (by decide) ?_
          refine lv_iadd hx hb dX12_passes_146 ?_
          refine lv_aload_n hx hb dX12_passes_147 rfl (lv_at hl 0 rfl) ?_
          refine x_getr hx hb hw (cM0 hE) (own := RX12) (ref := RX12) (C := RX12) (T := TX12) (N := 20) hts hiX12 hown rfl 1 (by decide) hk9 (fun _ h9 => h9) rfl dX12_passes_148 ?_
          refine lv_iconst (v := 0) hx hb dX12_passes_151 (by decide) ?_
          obtain ⟨hin, hf⟩ := xr_f hf
          refine x_iald hx hb hw (cM1 hE) hin dX12_passes_152 ?_
          refine lv_topi (fun v24 ex => ?_)
          replace hf := hf v24 ex
          clear ex hin
          refine lv_icmp_ne (tgt := 199) hx hb dX12_passes_153 (by decide) (fun c153 => ?_) (fun c153 => ?_)
          · replace hf := xif_neg c153 hf
            obtain ⟨v25, ex⟩ : ∃ y : Int32, y = (a2 + 1) := ⟨_, rfl⟩
            replace hf := xl_f hf v25 ex
            refine lv_iinc (v := v25) (lv' := [(2, .int v25), (0, .ref (E.a 0))]) hx hb dX12_passes_199 hl (k := 1) rfl (by rw [ex]; rfl) (by decide) rfl (fun ls hl => ?_)
            clear ex
            refine lv_goto (tgt := 109) hx hb dX12_passes_202 (by decide) ?_
            exact ih109 v25 σ _ _ _ hw (lv_sub hl [1, 0] rfl) hf
          · replace hf := xif_pos c153 hf
            refine lv_aload_n hx hb dX12_passes_156 rfl (lv_at hl 0 rfl) ?_
            refine x_getr hx hb hw (cM0 hE) (own := RX12) (ref := RX12) (C := RX12) (T := TX12) (N := 20) hts hiX12 hown rfl 1 (by decide) hk9 (fun _ h9 => h9) rfl dX12_passes_157 ?_
            refine lv_sipush (v := 163) hx hb dX12_passes_160 (by decide) ?_
            refine lv_iload_n hx hb dX12_passes_163 rfl (lv_at hl 1 rfl) ?_
            refine lv_iadd hx hb dX12_passes_164 ?_
            refine lv_iconst (v := 3) hx hb dX12_passes_165 (by decide) ?_
            obtain ⟨hin, hf⟩ := xs_f hf
            refine x_iast hx hb hw (cM1 hE) hin dX12_passes_166 (fun σ26 H locs ex hw => ?_)
            replace hf := hf σ26 ex
            clear ex hin
            refine lv_aload_n hx hb dX12_passes_167 rfl (lv_at hl 0 rfl) ?_
            refine x_getr hx hb hw (cM0 hE) (own := RX12) (ref := RX12) (C := RX12) (T := TX12) (N := 20) hts hiX12 hown rfl 1 (by decide) hk9 (fun _ h9 => h9) rfl dX12_passes_168 ?_
            refine lv_sipush (v := 223) hx hb dX12_passes_171 (by decide) ?_
            refine lv_iconst (v := 4) hx hb dX12_passes_174 (by decide) ?_
            refine lv_aload_n hx hb dX12_passes_175 rfl (lv_at hl 0 rfl) ?_
            refine x_getr hx hb hw (cM0 hE) (own := RX12) (ref := RX12) (C := RX12) (T := TX12) (N := 20) hts hiX12 hown rfl 1 (by decide) hk9 (fun _ h9 => h9) rfl dX12_passes_176 ?_
            refine lv_bipush (v := 103) hx hb dX12_passes_179 (by decide) ?_
            refine lv_iload_n hx hb dX12_passes_181 rfl (lv_at hl 1 rfl) ?_
            refine lv_iadd hx hb dX12_passes_182 ?_
            obtain ⟨hin, hf⟩ := xr_f hf
            refine x_iald hx hb hw (cM1 hE) hin dX12_passes_183 ?_
            refine lv_topi (fun v27 ex => ?_)
            replace hf := hf v27 ex
            clear ex hin
            refine lv_imul hx hb dX12_passes_184 ?_
            refine lv_iadd hx hb dX12_passes_185 ?_
            refine lv_topi (fun v28 ex => ?_)
            replace hf := xl_f hf v28 ex
            clear ex
            refine lv_dup2_11 hx hb dX12_passes_186 rfl rfl ?_
            obtain ⟨hin, hf⟩ := xr_f hf
            refine x_iald hx hb hw (cM1 hE) hin dX12_passes_187 ?_
            refine lv_topi (fun v29 ex => ?_)
            replace hf := hf v29 ex
            clear ex hin
            refine lv_aload_n hx hb dX12_passes_188 rfl (lv_at hl 0 rfl) ?_
            refine x_getr hx hb hw (cM0 hE) (own := RX12) (ref := RX12) (C := RX12) (T := TX12) (N := 20) hts hiX12 hown rfl 1 (by decide) hk9 (fun _ h9 => h9) rfl dX12_passes_189 ?_
            refine lv_bipush (v := 123) hx hb dX12_passes_192 (by decide) ?_
            refine lv_iload_n hx hb dX12_passes_194 rfl (lv_at hl 1 rfl) ?_
            refine lv_iadd hx hb dX12_passes_195 ?_
            obtain ⟨hin, hf⟩ := xr_f hf
            refine x_iald hx hb hw (cM1 hE) hin dX12_passes_196 ?_
            refine lv_topi (fun v30 ex => ?_)
            replace hf := hf v30 ex
            clear ex hin
            refine lv_iadd hx hb dX12_passes_197 ?_
            obtain ⟨hin, hf⟩ := xs_f hf
            refine x_iast hx hb hw (cM1 hE) hin dX12_passes_198 (fun σ31 H locs ex hw => ?_)
            replace hf := hf σ31 ex
            clear ex hin
            obtain ⟨v32, ex⟩ : ∃ y : Int32, y = (a2 + 1) := ⟨_, rfl⟩
            replace hf := xl_f hf v32 ex
            refine lv_iinc (v := v32) (lv' := [(2, .int v32), (0, .ref (E.a 0))]) hx hb dX12_passes_199 hl (k := 1) rfl (by rw [ex]; rfl) (by decide) rfl (fun ls hl => ?_)
            clear ex
            refine lv_goto (tgt := 109) hx hb dX12_passes_202 (by decide) ?_
            exact ih109 v32 σ31 _ _ _ hw (lv_sub hl [1, 0] rfl) hf
  have h12 : ∀ (n : Nat) (a1 : Int32) (σ : xSt) (H : Heap) (locs : List Loc) (ls : Array Slot), xw E A s.heap s σ H locs → lv_has ls 3 [(0, .ref (E.a 0)), (1, .int a1)] → fX12_passes_c12 n a1 σ = some o1 → W p l e rmX12_passes s m args below meth c H locs 0 0 (MQ below (xQv E A o1) args s 0 0 A) (F0 m 12 ls []) := by
    intro n12
    induction n12 with
    | zero => intro a1 σ H locs ls hw hl hf; exact nomatch hf
    | succ n12 ih12 =>
      intro a1 σ H locs ls hw hl hf
      rw [fX12_passes_c12_s] at hf
      refine lv_iload_n hx hb dX12_passes_12 rfl (lv_at hl 1 rfl) ?_
      refine lv_aload_n hx hb dX12_passes_13 rfl (lv_at hl 0 rfl) ?_
      refine x_getr hx hb hw (cM0 hE) (own := RX12) (ref := RX12) (C := RX12) (T := TX12) (N := 20) hts hiX12 hown rfl 1 (by decide) hk9 (fun _ h9 => h9) rfl dX12_passes_14 ?_
      refine lv_bipush (v := 6) hx hb dX12_passes_17 (by decide) ?_
      obtain ⟨hin, hf⟩ := xr_f hf
      refine x_iald hx hb hw (cM1 hE) hin dX12_passes_19 ?_
      refine lv_topi (fun v3 ex => ?_)
      replace hf := hf v3 ex
      clear ex hin
      refine lv_icmp_ge (tgt := 63) hx hb dX12_passes_20 (by decide) (fun c20 => ?_) (fun c20 => ?_)
      · replace hf := xif_pos c20 hf
        refine lv_aload_n hx hb dX12_passes_63 rfl (lv_at hl 0 rfl) ?_
        refine x_getr hx hb hw (cM0 hE) (own := RX12) (ref := RX12) (C := RX12) (T := TX12) (N := 20) hts hiX12 hown rfl 1 (by decide) hk9 (fun _ h9 => h9) rfl dX12_passes_64 ?_
        refine lv_iconst (v := 3) hx hb dX12_passes_67 (by decide) ?_
        obtain ⟨hin, hf⟩ := xr_f hf
        refine x_iald hx hb hw (cM1 hE) hin dX12_passes_68 ?_
        refine lv_topi (fun v4 ex => ?_)
        replace hf := hf v4 ex
        clear ex hin
        refine lv_aload_n hx hb dX12_passes_69 rfl (lv_at hl 0 rfl) ?_
        refine x_getr hx hb hw (cM0 hE) (own := RX12) (ref := RX12) (C := RX12) (T := TX12) (N := 20) hts hiX12 hown rfl 1 (by decide) hk9 (fun _ h9 => h9) rfl dX12_passes_70 ?_
        refine lv_iconst (v := 2) hx hb dX12_passes_73 (by decide) ?_
        obtain ⟨hin, hf⟩ := xr_f hf
        refine x_iald hx hb hw (cM1 hE) hin dX12_passes_74 ?_
        refine lv_topi (fun v5 ex => ?_)
        replace hf := hf v5 ex
        clear ex hin
        refine lv_isub hx hb dX12_passes_75 ?_
        refine lv_topi (fun v6 ex => ?_)
        replace hf := xl_f hf v6 ex
        clear ex
        refine lv_istore_n (lv' := [(1, .int v6), (0, .ref (E.a 0))]) hx hb dX12_passes_76 rfl hl (by decide) rfl (fun ls hl => ?_)
        refine lv_aload_n hx hb dX12_passes_77 rfl (lv_at hl 1 rfl) ?_
        refine x_getr hx hb hw (cM0 hE) (own := RX12) (ref := RX12) (C := RX12) (T := TX12) (N := 20) hts hiX12 hown rfl 1 (by decide) hk9 (fun _ h9 => h9) rfl dX12_passes_78 ?_
        refine lv_iconst (v := 2) hx hb dX12_passes_81 (by decide) ?_
        refine lv_dup2_11 hx hb dX12_passes_82 rfl rfl ?_
        obtain ⟨hin, hf⟩ := xr_f hf
        refine x_iald hx hb hw (cM1 hE) hin dX12_passes_83 ?_
        refine lv_topi (fun v7 ex => ?_)
        replace hf := hf v7 ex
        clear ex hin
        refine lv_iload_n hx hb dX12_passes_84 rfl (lv_at hl 0 rfl) ?_
        refine lv_iconst (v := 5) hx hb dX12_passes_85 (by decide) ?_
        refine lv_icmp_le (tgt := 93) hx hb dX12_passes_86 (by decide) (fun c86 => ?_) (fun c86 => ?_)
        · replace hf := xif_pos c86 hf
          refine lv_iload_n hx hb dX12_passes_93 rfl (lv_at hl 0 rfl) ?_
          refine lv_bipush (v := (-5)) hx hb dX12_passes_94 (by decide) ?_
          refine lv_icmp_ge (tgt := 104) hx hb dX12_passes_96 (by decide) (fun c96 => ?_) (fun c96 => ?_)
          · replace hf := xif_pos c96 hf
            refine lv_iload_n hx hb dX12_passes_104 rfl (lv_at hl 0 rfl) ?_
            refine lv_iadd hx hb dX12_passes_105 ?_
            obtain ⟨hin, hf⟩ := xs_f hf
            refine x_iast hx hb hw (cM1 hE) hin dX12_passes_106 (fun σ8 H locs ex hw => ?_)
            replace hf := hf σ8 ex
            clear ex hin
            refine lv_iconst (v := 0) hx hb dX12_passes_107 (by decide) ?_
            refine lv_istore_n (lv' := [(2, .int 0), (1, .int v6), (0, .ref (E.a 0))]) hx hb dX12_passes_108 rfl hl (by decide) rfl (fun ls hl => ?_)
            exact h109 xFU 0 σ8 _ _ _ hw (lv_sub hl [2, 0] rfl) hf
          · replace hf := xif_neg c96 hf
            refine lv_bipush (v := (-5)) hx hb dX12_passes_99 (by decide) ?_
            refine lv_goto (tgt := 105) hx hb dX12_passes_101 (by decide) ?_
            refine lv_iadd hx hb dX12_passes_105 ?_
            obtain ⟨hin, hf⟩ := xs_f hf
            refine x_iast hx hb hw (cM1 hE) hin dX12_passes_106 (fun σ9 H locs ex hw => ?_)
            replace hf := hf σ9 ex
            clear ex hin
            refine lv_iconst (v := 0) hx hb dX12_passes_107 (by decide) ?_
            refine lv_istore_n (lv' := [(2, .int 0), (1, .int v6), (0, .ref (E.a 0))]) hx hb dX12_passes_108 rfl hl (by decide) rfl (fun ls hl => ?_)
            exact h109 xFU 0 σ9 _ _ _ hw (lv_sub hl [2, 0] rfl) hf
        · replace hf := xif_neg c86 hf
          refine lv_iconst (v := 5) hx hb dX12_passes_89 (by decide) ?_
          refine lv_goto (tgt := 105) hx hb dX12_passes_90 (by decide) ?_
          refine lv_iadd hx hb dX12_passes_105 ?_
          obtain ⟨hin, hf⟩ := xs_f hf
          refine x_iast hx hb hw (cM1 hE) hin dX12_passes_106 (fun σ10 H locs ex hw => ?_)
          replace hf := hf σ10 ex
          clear ex hin
          refine lv_iconst (v := 0) hx hb dX12_passes_107 (by decide) ?_
          refine lv_istore_n (lv' := [(2, .int 0), (1, .int v6), (0, .ref (E.a 0))]) hx hb dX12_passes_108 rfl hl (by decide) rfl (fun ls hl => ?_)
          exact h109 xFU 0 σ10 _ _ _ hw (lv_sub hl [2, 0] rfl) hf
      · replace hf := xif_neg c20 hf
        refine lv_aload_n hx hb dX12_passes_23 rfl (lv_at hl 0 rfl) ?_
        refine x_getr hx hb hw (cM0 hE) (own := RX12) (ref := RX12) (C := RX12) (T := TX12) (N := 20) hts hiX12 hown rfl 1 (by decide) hk9 (fun _ h9 => h9) rfl dX12_passes_24 ?_
        refine lv_sipush (v := 143) hx hb dX12_passes_27 (by decide) ?_
        refine lv_iload_n hx hb dX12_passes_30 rfl (lv_at hl 1 rfl) ?_
        refine lv_iadd hx hb dX12_passes_31 ?_
        refine lv_topi (fun v11 ex => ?_)
        replace hf := xl_f hf v11 ex
        clear ex
        refine lv_dup2_11 hx hb dX12_passes_32 rfl rfl ?_
        obtain ⟨hin, hf⟩ := xr_f hf
        refine x_iald hx hb hw (cM1 hE) hin dX12_passes_33 ?_
        refine lv_topi (fun v12 ex => ?_)
        replace hf := hf v12 ex
        clear ex hin
        refine lv_aload_n hx hb dX12_passes_34 rfl (lv_at hl 0 rfl) ?_
        refine x_getr hx hb hw (cM0 hE) (own := RX12) (ref := RX12) (C := RX12) (T := TX12) (N := 20) hts hiX12 hown rfl 1 (by decide) hk9 (fun _ h9 => h9) rfl dX12_passes_35 ?_
        refine lv_sipush (v := 163) hx hb dX12_passes_38 (by decide) ?_
        refine lv_iload_n hx hb dX12_passes_41 rfl (lv_at hl 1 rfl) ?_
        refine lv_iadd hx hb dX12_passes_42 ?_
        obtain ⟨hin, hf⟩ := xr_f hf
        refine x_iald hx hb hw (cM1 hE) hin dX12_passes_43 ?_
        refine lv_topi (fun v13 ex => ?_)
        replace hf := hf v13 ex
        clear ex hin
        refine lv_if_ne (tgt := 54) hx hb dX12_passes_44 (by decide) (fun c44 => ?_) (fun c44 => ?_)
        · replace hf := xif_neg c44 hf
          refine lv_iconst (v := 0) hx hb dX12_passes_54 (by decide) ?_
          refine lv_iadd hx hb dX12_passes_55 ?_
          obtain ⟨hin, hf⟩ := xs_f hf
          refine x_iast hx hb hw (cM1 hE) hin dX12_passes_56 (fun σ14 H locs ex hw => ?_)
          replace hf := hf σ14 ex
          clear ex hin
          obtain ⟨v15, ex⟩ : ∃ y : Int32, y = (a1 + 1) := ⟨_, rfl⟩
          replace hf := xl_f hf v15 ex
          refine lv_iinc (v := v15) (lv' := [(1, .int v15), (0, .ref (E.a 0))]) hx hb dX12_passes_57 hl (k := 1) rfl (by rw [ex]; rfl) (by decide) rfl (fun ls hl => ?_)
          clear ex
          refine lv_goto (tgt := 12) hx hb dX12_passes_60 (by decide) ?_
          exact ih12 v15 σ14 _ _ _ hw (lv_sub hl [1, 0] rfl) hf
        · replace hf := xif_pos c44 hf
          refine lv_aload_n hx hb dX12_passes_47 rfl (lv_at hl 0 rfl) ?_
          obtain ⟨r16, σ17, hcl, hf⟩ := xc2_f hf
          refine x_calli (va_runV (As := []) (rest := [.int v12, .int v11, .ref (E.a 1)]) ⟨hx, hb, hml, hown, hts⟩ (mX12_gain hE σ r16 σ17 hcl H.size) (cwV 0 hts gX12_passes_X12_gain rfl rfl rfl (by decide +kernel) ⟨Nat.le_of_ble_eq_true rfl, Nat.le_of_ble_eq_true rfl⟩) (x_preV _ hw hA hG (cM0 hE) rfl) rfl rfl hl.1 rfl (lv_room (Nat.le_of_ble_eq_true rfl)) dX12_passes_48 ⟨Nat.le_of_ble_eq_true rfl, Nat.le_of_ble_eq_true rfl⟩) hw hA (fun H locs hw => ?_)
          clear hcl
          refine lv_goto (tgt := 55) hx hb dX12_passes_51 (by decide) ?_
          refine lv_iadd hx hb dX12_passes_55 ?_
          obtain ⟨hin, hf⟩ := xs_f hf
          refine x_iast hx hb hw (cM1 hE) hin dX12_passes_56 (fun σ18 H locs ex hw => ?_)
          replace hf := hf σ18 ex
          clear ex hin
          obtain ⟨v19, ex⟩ : ∃ y : Int32, y = (a1 + 1) := ⟨_, rfl⟩
          replace hf := xl_f hf v19 ex
          refine lv_iinc (v := v19) (lv' := [(1, .int v19), (0, .ref (E.a 0))]) hx hb dX12_passes_57 hl (k := 1) rfl (by rw [ex]; rfl) (by decide) rfl (fun ls hl => ?_)
          clear ex
          refine lv_goto (tgt := 12) hx hb dX12_passes_60 (by decide) ?_
          exact ih12 v19 σ18 _ _ _ hw (lv_sub hl [1, 0] rfl) hf
  refine lv_aload_n hx hb dX12_passes_0 rfl (lv_at hl 0 rfl) ?_
  refine x_getr hx hb hw (cM0 hE) (own := RX12) (ref := RX12) (C := RX12) (T := TX12) (N := 20) hts hiX12 hown rfl 1 (by decide) hk9 (fun _ h9 => h9) rfl dX12_passes_1 ?_
  refine lv_iconst (v := 0) hx hb dX12_passes_4 (by decide) ?_
  refine lv_dup2_11 hx hb dX12_passes_5 rfl rfl ?_
  obtain ⟨hin, hf⟩ := xr_f hf
  refine x_iald hx hb hw (cM1 hE) hin dX12_passes_6 ?_
  refine lv_topi (fun v1 ex => ?_)
  replace hf := hf v1 ex
  clear ex hin
  refine lv_iconst (v := 1) hx hb dX12_passes_7 (by decide) ?_
  refine lv_iadd hx hb dX12_passes_8 ?_
  obtain ⟨hin, hf⟩ := xs_f hf
  refine x_iast hx hb hw (cM1 hE) hin dX12_passes_9 (fun σ2 H locs ex hw => ?_)
  replace hf := hf σ2 ex
  clear ex hin
  refine lv_iconst (v := 0) hx hb dX12_passes_10 (by decide) ?_
  refine lv_istore_n (lv' := [(1, .int 0), (0, .ref (E.a 0))]) hx hb dX12_passes_11 rfl hl (by decide) rfl (fun ls hl => ?_)
  exact h12 xFU 0 σ2 _ _ _ hw (lv_sub hl [1, 0] rfl) hf

def fX12_pass_c50 : Nat → Int32 → Int32 → xSt → Option (Int32 × xSt)
  | 0 => fun _ _ _ => none
  | n + 1 => fun a1 a2 σ => (if a1 ≤ a2 then (xr σ 1 680 0 fun v10 => some (v10, σ)) else (xc (fX12_passes σ) fun σ12 => (xl (a2 + 1) fun v13 => fX12_pass_c50 n a1 v13 σ12)))
theorem fX12_pass_c50_s (n : Nat) (a1 : Int32) (a2 : Int32) (σ : xSt) : fX12_pass_c50 (n + 1) a1 a2 σ = ((if a1 ≤ a2 then (xr σ 1 680 0 fun v10 => some (v10, σ)) else (xc (fX12_passes σ) fun σ12 => (xl (a2 + 1) fun v13 => fX12_pass_c50 n a1 v13 σ12))) : Option (Int32 × xSt)) := rfl
def fX12_pass_c35 (a1 : Int32) (t0 : Int32) (σ : xSt) : Option (Int32 × xSt) := (xc2 (fX12_can t0 2 σ) fun r6 σ7 => (if r6 = 0 then some (0, σ7) else (xc (fX12_keep σ7) fun σ9 => fX12_pass_c50 xFU a1 0 σ9)))
def fX12_pass (p0 : Int32) (σ : xSt) : Option (Int32 × xSt) := (xc2 (fX12_in p0 1 200 σ) fun r1 σ2 => (xc2 (fX12_can r1 1 σ2) fun r3 σ4 => (if r3 = 0 then some (0, σ4) else (xr σ4 1 680 0 fun v5 => (if 100000 < (v5 + p0) then fX12_pass_c35 p0 0 σ4 else fX12_pass_c35 p0 1 σ4)))))
abbrev rmX12_pass : Room := { frames := 2, cells := 0, slots := 0, locals := 43 }
set_option maxRecDepth 100000 in
set_option maxHeartbeats 4000000 in
theorem mX12_pass {l : Launch} {E : xE} (hE : E.sh = shM) (p0 : Int32) (σ : xSt) (o1 : Int32) (o2 : xSt) (hf : fX12_pass p0 σ = some (o1, o2)) : xMi l yX12_pass wsX12_pass rmX12_pass E [.ref (E.a 0), .int p0] σ o1 o2 := by
  unfold fX12_pass at hf
  refine xMi_of (cc := cX12_pass) (maxL := 3) (ret := (some .int)) (by decide) rfl (Nat.le_of_ble_eq_true rfl) ?_
  intro p e s m args below meth c A ls ⟨hx, hb, hr, hml, hown, hts, hlk⟩ hA hG hw hl
  have hown : s.vm.findClass RX12 = some m.cls := hown
  have hl : lv_has ls 3 [(0, .ref (E.a 0)), (1, .int p0)] := hl
  have hk9 := hts (.fieldLink RX12 9 "OvenRoundModel" "w" "[I") (by decide +kernel)
  have hiX12 : ∀ w ∈ wsX120, w ∈ wsX12_pass := by decide +kernel
  have h50 : ∀ (n : Nat) (a1 : Int32) (a2 : Int32) (σ : xSt) (H : Heap) (locs : List Loc) (ls : Array Slot), xw E A s.heap s σ H locs → lv_has ls 3 [(0, .ref (E.a 0)), (1, .int a1), (2, .int a2)] → fX12_pass_c50 n a1 a2 σ = some (o1, o2) → W p l e rmX12_pass s m args below meth c H locs 0 0 (MQ below (xQi E A o1 o2) args s 0 0 A) (F0 m 50 ls []) := by
    intro n50
    induction n50 with
    | zero => intro a1 a2 σ H locs ls hw hl hf; exact nomatch hf
    | succ n50 ih50 =>
      intro a1 a2 σ H locs ls hw hl hf
      rw [fX12_pass_c50_s] at hf
      refine lv_iload_n hx hb dX12_pass_50 rfl (lv_at hl 2 rfl) ?_
      refine lv_iload_n hx hb dX12_pass_51 rfl (lv_at hl 1 rfl) ?_
      refine lv_icmp_ge (tgt := 65) hx hb dX12_pass_52 (by decide) (fun c52 => ?_) (fun c52 => ?_)
      · replace hf := xif_pos c52 hf
        refine lv_aload_n hx hb dX12_pass_65 rfl (lv_at hl 0 rfl) ?_
        refine x_getr hx hb hw (cM0 hE) (own := RX12) (ref := RX12) (C := RX12) (T := TX12) (N := 20) hts hiX12 hown rfl 1 (by decide) hk9 (fun _ h9 => h9) rfl dX12_pass_66 ?_
        refine lv_iconst (v := 0) hx hb dX12_pass_69 (by decide) ?_
        obtain ⟨hin, hf⟩ := xr_f hf
        refine x_iald hx hb hw (cM1 hE) hin dX12_pass_70 ?_
        refine lv_topi (fun v10 ex => ?_)
        replace hf := hf v10 ex
        clear ex hin
        exact x_iret hx hb hr hlk hw hf dX12_pass_71
      · replace hf := xif_neg c52 hf
        refine lv_aload_n hx hb dX12_pass_55 rfl (lv_at hl 0 rfl) ?_
        obtain ⟨σ12, hcl, hf⟩ := xc_e hf
        refine x_callv (va_runV (As := []) (rest := []) ⟨hx, hb, hml, hown, hts⟩ (mX12_passes hE σ σ12 hcl H.size) (cwV 0 hts gX12_pass_X12_passes rfl rfl rfl (by decide +kernel) ⟨Nat.le_of_ble_eq_true rfl, Nat.le_of_ble_eq_true rfl⟩) (x_preV _ hw hA hG (cM0 hE) rfl) rfl rfl hl.1 rfl (lv_room (Nat.le_of_ble_eq_true rfl)) dX12_pass_56 ⟨Nat.le_of_ble_eq_true rfl, Nat.le_of_ble_eq_true rfl⟩) hw hA (fun H locs hw => ?_)
        clear hcl
        obtain ⟨v13, ex⟩ : ∃ y : Int32, y = (a2 + 1) := ⟨_, rfl⟩
        replace hf := xl_f hf v13 ex
        refine lv_iinc (v := v13) (lv' := [(2, .int v13), (0, .ref (E.a 0)), (1, .int a1)]) hx hb dX12_pass_59 hl (k := 2) rfl (by rw [ex]; rfl) (by decide) rfl (fun ls hl => ?_)
        clear ex
        refine lv_goto (tgt := 50) hx hb dX12_pass_62 (by decide) ?_
        exact ih50 a1 v13 σ12 _ _ _ hw (lv_sub hl [1, 2, 0] rfl) hf
  have h35 : ∀ (a1 : Int32) (t0 : Int32) (σ : xSt) (H : Heap) (locs : List Loc) (ls : Array Slot), xw E A s.heap s σ H locs → lv_has ls 3 [(0, .ref (E.a 0)), (1, .int a1)] → fX12_pass_c35 a1 t0 σ = some (o1, o2) → W p l e rmX12_pass s m args below meth c H locs 0 0 (MQ below (xQi E A o1 o2) args s 0 0 A) (F0 m 35 ls [.int t0, .ref (E.a 0)]) := by
    intro a1 t0 σ H locs ls hw hl hf
    unfold fX12_pass_c35 at hf
    refine lv_iconst (v := 2) hx hb dX12_pass_35 (by decide) ?_
    obtain ⟨r6, σ7, hcl, hf⟩ := xc2_f hf
    refine x_calli (va_runV (As := [.int t0, .int 2]) (rest := []) ⟨hx, hb, hml, hown, hts⟩ (mX12_can hE t0 2 σ r6 σ7 hcl H.size) (cwV 2 hts gX12_pass_X12_can rfl rfl rfl (by decide +kernel) ⟨Nat.le_of_ble_eq_true rfl, Nat.le_of_ble_eq_true rfl⟩) (x_preV _ hw hA hG (cM0 hE) rfl) rfl rfl hl.1 rfl (lv_room (Nat.le_of_ble_eq_true rfl)) dX12_pass_36 ⟨Nat.le_of_ble_eq_true rfl, Nat.le_of_ble_eq_true rfl⟩) hw hA (fun H locs hw => ?_)
    clear hcl
    refine lv_if_ne (tgt := 44) hx hb dX12_pass_39 (by decide) (fun c39 => ?_) (fun c39 => ?_)
    · replace hf := xif_neg c39 hf
      refine lv_aload_n hx hb dX12_pass_44 rfl (lv_at hl 0 rfl) ?_
      obtain ⟨σ9, hcl, hf⟩ := xc_e hf
      refine x_callv (va_runV (As := []) (rest := []) ⟨hx, hb, hml, hown, hts⟩ (mX12_keep hE σ7 σ9 hcl H.size) (cwV 0 hts gX12_pass_X12_keep rfl rfl rfl (by decide +kernel) ⟨Nat.le_of_ble_eq_true rfl, Nat.le_of_ble_eq_true rfl⟩) (x_preV _ hw hA hG (cM0 hE) rfl) rfl rfl hl.1 rfl (lv_room (Nat.le_of_ble_eq_true rfl)) dX12_pass_45 ⟨Nat.le_of_ble_eq_true rfl, Nat.le_of_ble_eq_true rfl⟩) hw hA (fun H locs hw => ?_)
      clear hcl
      refine lv_iconst (v := 0) hx hb dX12_pass_48 (by decide) ?_
      refine lv_istore_n (lv' := [(2, .int 0), (0, .ref (E.a 0)), (1, .int a1)]) hx hb dX12_pass_49 rfl hl (by decide) rfl (fun ls hl => ?_)
      exact h50 xFU a1 0 σ9 _ _ _ hw (lv_sub hl [1, 2, 0] rfl) hf
    · replace hf := xif_pos c39 hf
      refine lv_iconst (v := 0) hx hb dX12_pass_42 (by decide) ?_
      exact x_iret hx hb hr hlk hw hf dX12_pass_43
  refine lv_aload_n hx hb dX12_pass_0 rfl (lv_at hl 0 rfl) ?_
  refine lv_iload_n hx hb dX12_pass_1 rfl (lv_at hl 1 rfl) ?_
  refine lv_iconst (v := 1) hx hb dX12_pass_2 (by decide) ?_
  refine lv_sipush (v := 200) hx hb dX12_pass_3 (by decide) ?_
  obtain ⟨r1, σ2, hcl, hf⟩ := xc2_f hf
  refine x_calli (va_runS (As := [.int p0, .int 1, .int 200]) (rest := [.ref (E.a 0)]) ⟨hx, hb, hml, hown, hts⟩ (mX12_in hE p0 1 200 σ r1 σ2 hcl s.heap.size) (va_cwS 3 hts gX12_pass_X12_in rfl rfl rfl (by decide +kernel) ⟨Nat.le_of_ble_eq_true rfl, Nat.le_of_ble_eq_true rfl⟩) (x_preS _ hw hA hG) rfl rfl hl.1 rfl (lv_room (Nat.le_of_ble_eq_true rfl)) dX12_pass_6 ⟨Nat.le_of_ble_eq_true rfl, Nat.le_of_ble_eq_true rfl⟩) hw hA (fun H locs hw => ?_)
  clear hcl
  refine lv_iconst (v := 1) hx hb dX12_pass_9 (by decide) ?_
  obtain ⟨r3, σ4, hcl, hf⟩ := xc2_f hf
  refine x_calli (va_runV (As := [.int r1, .int 1]) (rest := []) ⟨hx, hb, hml, hown, hts⟩ (mX12_can hE r1 1 σ2 r3 σ4 hcl H.size) (cwV 2 hts gX12_pass_X12_can rfl rfl rfl (by decide +kernel) ⟨Nat.le_of_ble_eq_true rfl, Nat.le_of_ble_eq_true rfl⟩) (x_preV _ hw hA hG (cM0 hE) rfl) rfl rfl hl.1 rfl (lv_room (Nat.le_of_ble_eq_true rfl)) dX12_pass_10 ⟨Nat.le_of_ble_eq_true rfl, Nat.le_of_ble_eq_true rfl⟩) hw hA (fun H locs hw => ?_)
  clear hcl
  refine lv_if_eq (tgt := 42) hx hb dX12_pass_13 (by decide) (fun c13 => ?_) (fun c13 => ?_)
  · replace hf := xif_pos c13 hf
    refine lv_iconst (v := 0) hx hb dX12_pass_42 (by decide) ?_
    exact x_iret hx hb hr hlk hw hf dX12_pass_43
  · replace hf := xif_neg c13 hf
    refine lv_aload_n hx hb dX12_pass_16 rfl (lv_at hl 0 rfl) ?_
    refine lv_aload_n hx hb dX12_pass_17 rfl (lv_at hl 0 rfl) ?_
    refine x_getr hx hb hw (cM0 hE) (own := RX12) (ref := RX12) (C := RX12) (T := TX12) (N := 20) hts hiX12 hown rfl 1 (by decide) hk9 (fun _ h9 => h9) rfl dX12_pass_18 ?_
    refine lv_iconst (v := 0) hx hb dX12_pass_21 (by decide) ?_
    obtain ⟨hin, hf⟩ := xr_f hf
    refine x_iald hx hb hw (cM1 hE) hin dX12_pass_22 ?_
    refine lv_topi (fun v5 ex => ?_)
    replace hf := hf v5 ex
    clear ex hin
    refine lv_iload_n hx hb dX12_pass_23 rfl (lv_at hl 1 rfl) ?_
    refine lv_iadd hx hb dX12_pass_24 ?_
    refine lv_ldc hx hb hown (hts (.constant RX12 88 (100000)) (by decide +kernel)) dX12_pass_25 ?_
    refine lv_icmp_gt (tgt := 34) hx hb dX12_pass_27 (by decide) (fun c27 => ?_) (fun c27 => ?_)
    · replace hf := xif_pos c27 hf
      refine lv_iconst (v := 0) hx hb dX12_pass_34 (by decide) ?_
      exact h35 p0 0 σ4 _ _ _ hw (lv_sub hl [0, 1] rfl) hf
    · replace hf := xif_neg c27 hf
      refine lv_iconst (v := 1) hx hb dX12_pass_30 (by decide) ?_
      refine lv_goto (tgt := 35) hx hb dX12_pass_31 (by decide) ?_
      exact h35 p0 1 σ4 _ _ _ hw (lv_sub hl [0, 1] rfl) hf

def fX12_now (σ : xSt) : Option (Int32 × xSt) := (xp σ 0 0 0 fun σ1 => (xr σ1 1 680 0 fun v2 => some (v2, σ1)))
abbrev rmX12_now : Room := { frames := 0, cells := 0, slots := 0, locals := 0 }
set_option maxRecDepth 100000 in
set_option maxHeartbeats 4000000 in
theorem mX12_now {l : Launch} {E : xE} (hE : E.sh = shM) (σ : xSt) (o1 : Int32) (o2 : xSt) (hf : fX12_now σ = some (o1, o2)) : xMi l yX12_now wsX12_now rmX12_now E [.ref (E.a 0)] σ o1 o2 := by
  unfold fX12_now at hf
  refine xMi_of (cc := cX12_now) (maxL := 1) (ret := (some .int)) (by decide) rfl (Nat.le_of_ble_eq_true rfl) ?_
  intro p e s m args below meth c A ls ⟨hx, hb, hr, hml, hown, hts, hlk⟩ hA hG hw hl
  have hown : s.vm.findClass RX12 = some m.cls := hown
  have hl : lv_has ls 1 [(0, .ref (E.a 0))] := hl
  have hk46 := hts (.fieldLink RX12 46 "OvenRoundModel" "raised" "I") (by decide +kernel)
  have hiX12 : ∀ w ∈ wsX120, w ∈ wsX12_now := by decide +kernel
  have hk9 := hts (.fieldLink RX12 9 "OvenRoundModel" "w" "[I") (by decide +kernel)
  refine lv_aload_n hx hb dX12_now_0 rfl (lv_at hl 0 rfl) ?_
  refine lv_iconst (v := 0) hx hb dX12_now_1 (by decide) ?_
  refine x_puti hx hb hw (cM0 hE) (own := RX12) (ref := RX12) (C := RX12) (T := TX12) (N := 20) hts hiX12 tyX12 tyX12_ok nmX12 hown rfl 0 (by decide) hk46 (fun _ h9 => h9) rfl (by decide +kernel) rfl dX12_now_2 (fun σ1 H locs ex hw => ?_)
  replace hf := xp_f hf σ1 ex
  clear ex
  refine lv_aload_n hx hb dX12_now_5 rfl (lv_at hl 0 rfl) ?_
  refine x_getr hx hb hw (cM0 hE) (own := RX12) (ref := RX12) (C := RX12) (T := TX12) (N := 20) hts hiX12 hown rfl 1 (by decide) hk9 (fun _ h9 => h9) rfl dX12_now_6 ?_
  refine lv_iconst (v := 0) hx hb dX12_now_9 (by decide) ?_
  obtain ⟨hin, hf⟩ := xr_f hf
  refine x_iald hx hb hw (cM1 hE) hin dX12_now_10 ?_
  refine lv_topi (fun v2 ex => ?_)
  replace hf := hf v2 ex
  clear ex hin
  exact x_iret hx hb hr hlk hw hf dX12_now_11

def fX12_isRipe (p0 : Int32) (σ : xSt) : Option (Int32 × xSt) := (xr σ 1 680 (103 + p0) fun v1 => (xr σ 1 680 (143 + p0) fun v2 => (xr σ 1 680 (25 + v1) fun v3 => (xr σ 1 680 (31 + v1) fun v4 => (xc2 (fX12_in v2 v3 v4 σ) fun r5 σ6 => xb r5 (some (r5, σ6)))))))
abbrev rmX12_isRipe : Room := { frames := 1, cells := 0, slots := 0, locals := 22 }
set_option maxRecDepth 100000 in
set_option maxHeartbeats 4000000 in
theorem mX12_isRipe {l : Launch} {E : xE} (hE : E.sh = shM) (p0 : Int32) (σ : xSt) (o1 : Int32) (o2 : xSt) (hf : fX12_isRipe p0 σ = some (o1, o2)) : xMi l yX12_isRipe wsX12_isRipe rmX12_isRipe E [.ref (E.a 0), .int p0] σ o1 o2 := by
  unfold fX12_isRipe at hf
  refine xMi_of (cc := cX12_isRipe) (maxL := 3) (ret := (some .boolean)) (by decide) rfl (Nat.le_of_ble_eq_true rfl) ?_
  intro p e s m args below meth c A ls ⟨hx, hb, hr, hml, hown, hts, hlk⟩ hA hG hw hl
  have hown : s.vm.findClass RX12 = some m.cls := hown
  have hl : lv_has ls 3 [(0, .ref (E.a 0)), (1, .int p0)] := hl
  have hk9 := hts (.fieldLink RX12 9 "OvenRoundModel" "w" "[I") (by decide +kernel)
  have hiX12 : ∀ w ∈ wsX120, w ∈ wsX12_isRipe := by decide +kernel
  refine lv_aload_n hx hb dX12_isRipe_0 rfl (lv_at hl 0 rfl) ?_
  refine x_getr hx hb hw (cM0 hE) (own := RX12) (ref := RX12) (C := RX12) (T := TX12) (N := 20) hts hiX12 hown rfl 1 (by decide) hk9 (fun _ h9 => h9) rfl dX12_isRipe_1 ?_
  refine lv_bipush (v := 103) hx hb dX12_isRipe_4 (by decide) ?_
  refine lv_iload_n hx hb dX12_isRipe_6 rfl (lv_at hl 1 rfl) ?_
  refine lv_iadd hx hb dX12_isRipe_7 ?_
  obtain ⟨hin, hf⟩ := xr_f hf
  refine x_iald hx hb hw (cM1 hE) hin dX12_isRipe_8 ?_
  refine lv_topi (fun v1 ex => ?_)
  replace hf := hf v1 ex
  clear ex hin
  refine lv_istore_n (lv' := [(2, .int v1), (0, .ref (E.a 0)), (1, .int p0)]) hx hb dX12_isRipe_9 rfl hl (by decide) rfl (fun ls hl => ?_)
  refine lv_aload_n hx hb dX12_isRipe_10 rfl (lv_at hl 1 rfl) ?_
  refine x_getr hx hb hw (cM0 hE) (own := RX12) (ref := RX12) (C := RX12) (T := TX12) (N := 20) hts hiX12 hown rfl 1 (by decide) hk9 (fun _ h9 => h9) rfl dX12_isRipe_11 ?_
  refine lv_sipush (v := 143) hx hb dX12_isRipe_14 (by decide) ?_
  refine lv_iload_n hx hb dX12_isRipe_17 rfl (lv_at hl 2 rfl) ?_
  refine lv_iadd hx hb dX12_isRipe_18 ?_
  obtain ⟨hin, hf⟩ := xr_f hf
  refine x_iald hx hb hw (cM1 hE) hin dX12_isRipe_19 ?_
  refine lv_topi (fun v2 ex => ?_)
  replace hf := hf v2 ex
  clear ex hin
  refine lv_aload_n hx hb dX12_isRipe_20 rfl (lv_at hl 1 rfl) ?_
  refine x_getr hx hb hw (cM0 hE) (own := RX12) (ref := RX12) (C := RX12) (T := TX12) (N := 20) hts hiX12 hown rfl 1 (by decide) hk9 (fun _ h9 => h9) rfl dX12_isRipe_21 ?_
  refine lv_bipush (v := 25) hx hb dX12_isRipe_24 (by decide) ?_
  refine lv_iload_n hx hb dX12_isRipe_26 rfl (lv_at hl 0 rfl) ?_
  refine lv_iadd hx hb dX12_isRipe_27 ?_
  obtain ⟨hin, hf⟩ := xr_f hf
  refine x_iald hx hb hw (cM1 hE) hin dX12_isRipe_28 ?_
  refine lv_topi (fun v3 ex => ?_)
  replace hf := hf v3 ex
  clear ex hin
  refine lv_aload_n hx hb dX12_isRipe_29 rfl (lv_at hl 1 rfl) ?_
  refine x_getr hx hb hw (cM0 hE) (own := RX12) (ref := RX12) (C := RX12) (T := TX12) (N := 20) hts hiX12 hown rfl 1 (by decide) hk9 (fun _ h9 => h9) rfl dX12_isRipe_30 ?_
  refine lv_bipush (v := 31) hx hb dX12_isRipe_33 (by decide) ?_
  refine lv_iload_n hx hb dX12_isRipe_35 rfl (lv_at hl 0 rfl) ?_
  refine lv_iadd hx hb dX12_isRipe_36 ?_
  obtain ⟨hin, hf⟩ := xr_f hf
  refine x_iald hx hb hw (cM1 hE) hin dX12_isRipe_37 ?_
  refine lv_topi (fun v4 ex => ?_)
  replace hf := hf v4 ex
  clear ex hin
  obtain ⟨r5, σ6, hcl, hf⟩ := xc2_f hf
  refine x_calli (va_runS (As := [.int v2, .int v3, .int v4]) (rest := []) ⟨hx, hb, hml, hown, hts⟩ (mX12_in hE v2 v3 v4 σ r5 σ6 hcl s.heap.size) (va_cwS 3 hts gX12_isRipe_X12_in rfl rfl rfl (by decide +kernel) ⟨Nat.le_of_ble_eq_true rfl, Nat.le_of_ble_eq_true rfl⟩) (x_preS _ hw hA hG) rfl rfl hl.1 rfl (lv_room (Nat.le_of_ble_eq_true rfl)) dX12_isRipe_38 ⟨Nat.le_of_ble_eq_true rfl, Nat.le_of_ble_eq_true rfl⟩) hw hA (fun H locs hw => ?_)
  clear hcl
  exact x_zret hx hb hr hlk hw hf dX12_isRipe_41

def fX12_shape_c40 (a1 : Int32) (t0 : Int32) (σ : xSt) : Option (Int32 × xSt) := (xc2 (fX12_can t0 2 σ) fun r8 σ9 => (if r8 = 0 then some (0, σ9) else (xc (fX12_keep σ9) fun σ11 => (xs σ11 1 680 (163 + a1) 1 fun σ12 => (xr σ12 1 680 0 fun v13 => (xs σ12 1 680 (183 + a1) v13 fun σ14 => (xr σ14 1 680 (143 + a1) fun v15 => some (v15, σ14))))))))
def fX12_shape_c39 (a1 : Int32) (σ : xSt) : Option (Int32 × xSt) := fX12_shape_c40 a1 0 σ
def fX12_shape (p0 : Int32) (σ : xSt) : Option (Int32 × xSt) := (xc2 (fX12_isDough p0 σ) fun r1 σ2 => (xc2 (fX12_can r1 1 σ2) fun r3 σ4 => (if r3 = 0 then some (0, σ4) else (xr σ4 1 680 (163 + p0) fun v5 => (if v5 = 0 then (xc2 (fX12_isRipe p0 σ4) fun r6 σ7 => (if r6 = 0 then fX12_shape_c39 p0 σ7 else fX12_shape_c40 p0 1 σ7)) else fX12_shape_c39 p0 σ4)))))
abbrev rmX12_shape : Room := { frames := 2, cells := 0, slots := 0, locals := 44 }
set_option maxRecDepth 100000 in
set_option maxHeartbeats 4000000 in
theorem mX12_shape {l : Launch} {E : xE} (hE : E.sh = shM) (p0 : Int32) (σ : xSt) (o1 : Int32) (o2 : xSt) (hf : fX12_shape p0 σ = some (o1, o2)) : xMi l yX12_shape wsX12_shape rmX12_shape E [.ref (E.a 0), .int p0] σ o1 o2 := by
  unfold fX12_shape at hf
  refine xMi_of (cc := cX12_shape) (maxL := 2) (ret := (some .int)) (by decide) rfl (Nat.le_of_ble_eq_true rfl) ?_
  intro p e s m args below meth c A ls ⟨hx, hb, hr, hml, hown, hts, hlk⟩ hA hG hw hl
  have hown : s.vm.findClass RX12 = some m.cls := hown
  have hl : lv_has ls 2 [(0, .ref (E.a 0)), (1, .int p0)] := hl
  have hk9 := hts (.fieldLink RX12 9 "OvenRoundModel" "w" "[I") (by decide +kernel)
  have hiX12 : ∀ w ∈ wsX120, w ∈ wsX12_shape := by decide +kernel
  have h40 : ∀ (a1 : Int32) (t0 : Int32) (σ : xSt) (H : Heap) (locs : List Loc) (ls : Array Slot), xw E A s.heap s σ H locs → lv_has ls 2 [(0, .ref (E.a 0)), (1, .int a1)] → fX12_shape_c40 a1 t0 σ = some (o1, o2) → W p l e rmX12_shape s m args below meth c H locs 0 0 (MQ below (xQi E A o1 o2) args s 0 0 A) (F0 m 40 ls [.int t0, .ref (E.a 0)]) := by
    intro a1 t0 σ H locs ls hw hl hf
    unfold fX12_shape_c40 at hf
    refine lv_iconst (v := 2) hx hb dX12_shape_40 (by decide) ?_
    obtain ⟨r8, σ9, hcl, hf⟩ := xc2_f hf
    refine x_calli (va_runV (As := [.int t0, .int 2]) (rest := []) ⟨hx, hb, hml, hown, hts⟩ (mX12_can hE t0 2 σ r8 σ9 hcl H.size) (cwV 2 hts gX12_shape_X12_can rfl rfl rfl (by decide +kernel) ⟨Nat.le_of_ble_eq_true rfl, Nat.le_of_ble_eq_true rfl⟩) (x_preV _ hw hA hG (cM0 hE) rfl) rfl rfl hl.1 rfl (lv_room (Nat.le_of_ble_eq_true rfl)) dX12_shape_41 ⟨Nat.le_of_ble_eq_true rfl, Nat.le_of_ble_eq_true rfl⟩) hw hA (fun H locs hw => ?_)
    clear hcl
    refine lv_if_ne (tgt := 49) hx hb dX12_shape_44 (by decide) (fun c44 => ?_) (fun c44 => ?_)
    · replace hf := xif_neg c44 hf
      refine lv_aload_n hx hb dX12_shape_49 rfl (lv_at hl 0 rfl) ?_
      obtain ⟨σ11, hcl, hf⟩ := xc_e hf
      refine x_callv (va_runV (As := []) (rest := []) ⟨hx, hb, hml, hown, hts⟩ (mX12_keep hE σ9 σ11 hcl H.size) (cwV 0 hts gX12_shape_X12_keep rfl rfl rfl (by decide +kernel) ⟨Nat.le_of_ble_eq_true rfl, Nat.le_of_ble_eq_true rfl⟩) (x_preV _ hw hA hG (cM0 hE) rfl) rfl rfl hl.1 rfl (lv_room (Nat.le_of_ble_eq_true rfl)) dX12_shape_50 ⟨Nat.le_of_ble_eq_true rfl, Nat.le_of_ble_eq_true rfl⟩) hw hA (fun H locs hw => ?_)
      clear hcl
      refine lv_aload_n hx hb dX12_shape_53 rfl (lv_at hl 0 rfl) ?_
      refine x_getr hx hb hw (cM0 hE) (own := RX12) (ref := RX12) (C := RX12) (T := TX12) (N := 20) hts hiX12 hown rfl 1 (by decide) hk9 (fun _ h9 => h9) rfl dX12_shape_54 ?_
      refine lv_sipush (v := 163) hx hb dX12_shape_57 (by decide) ?_
      refine lv_iload_n hx hb dX12_shape_60 rfl (lv_at hl 1 rfl) ?_
      refine lv_iadd hx hb dX12_shape_61 ?_
      refine lv_iconst (v := 1) hx hb dX12_shape_62 (by decide) ?_
      obtain ⟨hin, hf⟩ := xs_f hf
      refine x_iast hx hb hw (cM1 hE) hin dX12_shape_63 (fun σ12 H locs ex hw => ?_)
      replace hf := hf σ12 ex
      clear ex hin
      refine lv_aload_n hx hb dX12_shape_64 rfl (lv_at hl 0 rfl) ?_
      refine x_getr hx hb hw (cM0 hE) (own := RX12) (ref := RX12) (C := RX12) (T := TX12) (N := 20) hts hiX12 hown rfl 1 (by decide) hk9 (fun _ h9 => h9) rfl dX12_shape_65 ?_
      refine lv_sipush (v := 183) hx hb dX12_shape_68 (by decide) ?_
      refine lv_iload_n hx hb dX12_shape_71 rfl (lv_at hl 1 rfl) ?_
      refine lv_iadd hx hb dX12_shape_72 ?_
      refine lv_aload_n hx hb dX12_shape_73 rfl (lv_at hl 0 rfl) ?_
      refine x_getr hx hb hw (cM0 hE) (own := RX12) (ref := RX12) (C := RX12) (T := TX12) (N := 20) hts hiX12 hown rfl 1 (by decide) hk9 (fun _ h9 => h9) rfl dX12_shape_74 ?_
      refine lv_iconst (v := 0) hx hb dX12_shape_77 (by decide) ?_
      obtain ⟨hin, hf⟩ := xr_f hf
      refine x_iald hx hb hw (cM1 hE) hin dX12_shape_78 ?_
      refine lv_topi (fun v13 ex => ?_)
      replace hf := hf v13 ex
      clear ex hin
      obtain ⟨hin, hf⟩ := xs_f hf
      refine x_iast hx hb hw (cM1 hE) hin dX12_shape_79 (fun σ14 H locs ex hw => ?_)
      replace hf := hf σ14 ex
      clear ex hin
      refine lv_aload_n hx hb dX12_shape_80 rfl (lv_at hl 0 rfl) ?_
      refine x_getr hx hb hw (cM0 hE) (own := RX12) (ref := RX12) (C := RX12) (T := TX12) (N := 20) hts hiX12 hown rfl 1 (by decide) hk9 (fun _ h9 => h9) rfl dX12_shape_81 ?_
      refine lv_sipush (v := 143) hx hb dX12_shape_84 (by decide) ?_
      refine lv_iload_n hx hb dX12_shape_87 rfl (lv_at hl 1 rfl) ?_
      refine lv_iadd hx hb dX12_shape_88 ?_
      obtain ⟨hin, hf⟩ := xr_f hf
      refine x_iald hx hb hw (cM1 hE) hin dX12_shape_89 ?_
      refine lv_topi (fun v15 ex => ?_)
      replace hf := hf v15 ex
      clear ex hin
      exact x_iret hx hb hr hlk hw hf dX12_shape_90
    · replace hf := xif_pos c44 hf
      refine lv_iconst (v := 0) hx hb dX12_shape_47 (by decide) ?_
      exact x_iret hx hb hr hlk hw hf dX12_shape_48
  have h39 : ∀ (a1 : Int32) (σ : xSt) (H : Heap) (locs : List Loc) (ls : Array Slot), xw E A s.heap s σ H locs → lv_has ls 2 [(0, .ref (E.a 0)), (1, .int a1)] → fX12_shape_c39 a1 σ = some (o1, o2) → W p l e rmX12_shape s m args below meth c H locs 0 0 (MQ below (xQi E A o1 o2) args s 0 0 A) (F0 m 39 ls [.ref (E.a 0)]) := by
    intro a1 σ H locs ls hw hl hf
    unfold fX12_shape_c39 at hf
    refine lv_iconst (v := 0) hx hb dX12_shape_39 (by decide) ?_
    exact h40 a1 0 σ _ _ _ hw (lv_sub hl [0, 1] rfl) hf
  refine lv_aload_n hx hb dX12_shape_0 rfl (lv_at hl 0 rfl) ?_
  refine lv_aload_n hx hb dX12_shape_1 rfl (lv_at hl 0 rfl) ?_
  refine lv_iload_n hx hb dX12_shape_2 rfl (lv_at hl 1 rfl) ?_
  obtain ⟨r1, σ2, hcl, hf⟩ := xc2_f hf
  refine x_calli (va_runV (As := [.int p0]) (rest := [.ref (E.a 0)]) ⟨hx, hb, hml, hown, hts⟩ (mX12_isDough hE p0 σ r1 σ2 hcl s.heap.size) (cwV 1 hts gX12_shape_X12_isDough rfl rfl rfl (by decide +kernel) ⟨Nat.le_of_ble_eq_true rfl, Nat.le_of_ble_eq_true rfl⟩) (x_preV _ hw hA hG (cM0 hE) rfl) rfl rfl hl.1 rfl (lv_room (Nat.le_of_ble_eq_true rfl)) dX12_shape_3 ⟨Nat.le_of_ble_eq_true rfl, Nat.le_of_ble_eq_true rfl⟩) hw hA (fun H locs hw => ?_)
  clear hcl
  refine lv_iconst (v := 1) hx hb dX12_shape_6 (by decide) ?_
  obtain ⟨r3, σ4, hcl, hf⟩ := xc2_f hf
  refine x_calli (va_runV (As := [.int r1, .int 1]) (rest := []) ⟨hx, hb, hml, hown, hts⟩ (mX12_can hE r1 1 σ2 r3 σ4 hcl H.size) (cwV 2 hts gX12_shape_X12_can rfl rfl rfl (by decide +kernel) ⟨Nat.le_of_ble_eq_true rfl, Nat.le_of_ble_eq_true rfl⟩) (x_preV _ hw hA hG (cM0 hE) rfl) rfl rfl hl.1 rfl (lv_room (Nat.le_of_ble_eq_true rfl)) dX12_shape_7 ⟨Nat.le_of_ble_eq_true rfl, Nat.le_of_ble_eq_true rfl⟩) hw hA (fun H locs hw => ?_)
  clear hcl
  refine lv_if_eq (tgt := 47) hx hb dX12_shape_10 (by decide) (fun c10 => ?_) (fun c10 => ?_)
  · replace hf := xif_pos c10 hf
    refine lv_iconst (v := 0) hx hb dX12_shape_47 (by decide) ?_
    exact x_iret hx hb hr hlk hw hf dX12_shape_48
  · replace hf := xif_neg c10 hf
    refine lv_aload_n hx hb dX12_shape_13 rfl (lv_at hl 0 rfl) ?_
    refine lv_aload_n hx hb dX12_shape_14 rfl (lv_at hl 0 rfl) ?_
    refine x_getr hx hb hw (cM0 hE) (own := RX12) (ref := RX12) (C := RX12) (T := TX12) (N := 20) hts hiX12 hown rfl 1 (by decide) hk9 (fun _ h9 => h9) rfl dX12_shape_15 ?_
    refine lv_sipush (v := 163) hx hb dX12_shape_18 (by decide) ?_
    refine lv_iload_n hx hb dX12_shape_21 rfl (lv_at hl 1 rfl) ?_
    refine lv_iadd hx hb dX12_shape_22 ?_
    obtain ⟨hin, hf⟩ := xr_f hf
    refine x_iald hx hb hw (cM1 hE) hin dX12_shape_23 ?_
    refine lv_topi (fun v5 ex => ?_)
    replace hf := hf v5 ex
    clear ex hin
    refine lv_if_ne (tgt := 39) hx hb dX12_shape_24 (by decide) (fun c24 => ?_) (fun c24 => ?_)
    · replace hf := xif_neg c24 hf
      exact h39 p0 σ4 _ _ _ hw (lv_sub hl [0, 1] rfl) hf
    · replace hf := xif_pos c24 hf
      refine lv_aload_n hx hb dX12_shape_27 rfl (lv_at hl 0 rfl) ?_
      refine lv_iload_n hx hb dX12_shape_28 rfl (lv_at hl 1 rfl) ?_
      obtain ⟨r6, σ7, hcl, hf⟩ := xc2_f hf
      refine x_calli (va_runV (As := [.int p0]) (rest := [.ref (E.a 0)]) ⟨hx, hb, hml, hown, hts⟩ (mX12_isRipe hE p0 σ4 r6 σ7 hcl H.size) (cwV 1 hts gX12_shape_X12_isRipe rfl rfl rfl (by decide +kernel) ⟨Nat.le_of_ble_eq_true rfl, Nat.le_of_ble_eq_true rfl⟩) (x_preV _ hw hA hG (cM0 hE) rfl) rfl rfl hl.1 rfl (lv_room (Nat.le_of_ble_eq_true rfl)) dX12_shape_29 ⟨Nat.le_of_ble_eq_true rfl, Nat.le_of_ble_eq_true rfl⟩) hw hA (fun H locs hw => ?_)
      clear hcl
      refine lv_if_eq (tgt := 39) hx hb dX12_shape_32 (by decide) (fun c32 => ?_) (fun c32 => ?_)
      · replace hf := xif_pos c32 hf
        exact h39 p0 σ7 _ _ _ hw (lv_sub hl [0, 1] rfl) hf
      · replace hf := xif_neg c32 hf
        refine lv_iconst (v := 1) hx hb dX12_shape_35 (by decide) ?_
        refine lv_goto (tgt := 40) hx hb dX12_shape_36 (by decide) ?_
        exact h40 p0 1 σ7 _ _ _ hw (lv_sub hl [0, 1] rfl) hf
