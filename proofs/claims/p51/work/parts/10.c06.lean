def fX8_load (p1 : Int32) (σ : xSt) : Option (Int32 × xSt) := (xr σ 1 1560 p1 fun v1 => (xp σ 4 7 v1 fun σ2 => (xcpy σ2 1 1560 (p1 + 1) 10 6 0 6 fun σ3 => (xcpy σ3 1 1560 ((p1 + 1) + 6) 11 48 0 48 fun σ4 => some ((p1 + 55), σ4)))))
abbrev rmX8_load : Room := { frames := 1, cells := 0, slots := 0, locals := 96 }
set_option maxRecDepth 100000 in
set_option maxHeartbeats 4000000 in
theorem mX8_load {l : Launch} {E : xE} (hE : E.sh = shX) (p1 : Int32) (σ : xSt) (o1 : Int32) (o2 : xSt) (hf : fX8_load p1 σ = some (o1, o2)) : xMi l yX8_load wsX8_load rmX8_load E [.ref (E.a 4), .ref (E.a 1), .int p1] σ o1 o2 := by
  unfold fX8_load at hf
  refine xMi_of (cc := cX8_load) (maxL := 3) (ret := (some .int)) (by decide) rfl (Nat.le_of_ble_eq_true rfl) ?_
  intro p e s m args below meth c A ls ⟨hx, hb, hr, hml, hown, hts, hlk⟩ hA hG hw hl
  have hown : s.vm.findClass RX8 = some m.cls := hown
  have hl : lv_has ls 3 [(0, .ref (E.a 4)), (1, .ref (E.a 1)), (2, .int p1)] := hl
  have hk45 := hts (.fieldLink RX8 45 "OvenRound$Recipes" "count" "I") (by decide +kernel)
  have hiX8 : ∀ w ∈ wsX80, w ∈ wsX8_load := by decide +kernel
  have hk27 := hts (.fieldLink RX8 27 "OvenRound$Recipes" "wait" "[I") (by decide +kernel)
  have hk30 := hts (.fieldLink RX8 30 "OvenRound$Recipes" "parts" "[I") (by decide +kernel)
  refine lv_aload_n hx hb dX8_load_0 rfl (lv_at hl 0 rfl) ?_
  refine lv_aload_n hx hb dX8_load_1 rfl (lv_at hl 1 rfl) ?_
  refine lv_iload_n hx hb dX8_load_2 rfl (lv_at hl 2 rfl) ?_
  obtain ⟨hin, hf⟩ := xr_f hf
  refine x_iald hx hb hw (cX1 hE) hin dX8_load_3 ?_
  refine lv_topi (fun v1 ex => ?_)
  replace hf := hf v1 ex
  clear ex hin
  refine x_puti hx hb hw (cX4 hE) (own := RX8) (ref := RX8) (C := RX8) (T := TX8) (N := 8) hts hiX8 tyX8 tyX8_ok nmX8 hown rfl 7 (by decide) hk45 (fun _ h9 => h9) rfl (by decide +kernel) rfl dX8_load_4 (fun σ2 H locs ex hw => ?_)
  replace hf := xp_f hf σ2 ex
  clear ex
  refine lv_aload_n hx hb dX8_load_7 rfl (lv_at hl 1 rfl) ?_
  refine lv_iload_n hx hb dX8_load_8 rfl (lv_at hl 2 rfl) ?_
  refine lv_iconst (v := 1) hx hb dX8_load_9 (by decide) ?_
  refine lv_iadd hx hb dX8_load_10 ?_
  refine lv_aload_n hx hb dX8_load_11 rfl (lv_at hl 0 rfl) ?_
  refine x_getr hx hb hw (cX4 hE) (own := RX8) (ref := RX8) (C := RX8) (T := TX8) (N := 8) hts hiX8 hown rfl 5 (by decide) hk27 (fun _ h9 => h9) rfl dX8_load_12 ?_
  refine lv_iconst (v := 0) hx hb dX8_load_15 (by decide) ?_
  refine lv_bipush (v := 6) hx hb dX8_load_16 (by decide) ?_
  obtain ⟨hin, hf⟩ := xcpy_f hf
  refine x_copy hx hb (hml.trans hl.1.symm) hw hown (hts (.methodLink RX8 49 arraycopyName) (by decide +kernel)) (hts (.native arraycopyName) (by decide +kernel)) (hts (.static arraycopyName) (by decide +kernel)) (hts (.initialized "java/lang/System") (by decide +kernel)) (cX1 hE) (cX10 hE) hin (Nat.le_of_ble_eq_true rfl) (Nat.le_of_ble_eq_true rfl) dX8_load_18 (fun σ3 H locs ex hw => ?_)
  replace hf := hf σ3 ex
  clear ex hin
  refine lv_aload_n hx hb dX8_load_21 rfl (lv_at hl 1 rfl) ?_
  refine lv_iload_n hx hb dX8_load_22 rfl (lv_at hl 2 rfl) ?_
  refine lv_iconst (v := 1) hx hb dX8_load_23 (by decide) ?_
  refine lv_iadd hx hb dX8_load_24 ?_
  refine lv_bipush (v := 6) hx hb dX8_load_25 (by decide) ?_
  refine lv_iadd hx hb dX8_load_27 ?_
  refine lv_aload_n hx hb dX8_load_28 rfl (lv_at hl 0 rfl) ?_
  refine x_getr hx hb hw (cX4 hE) (own := RX8) (ref := RX8) (C := RX8) (T := TX8) (N := 8) hts hiX8 hown rfl 6 (by decide) hk30 (fun _ h9 => h9) rfl dX8_load_29 ?_
  refine lv_iconst (v := 0) hx hb dX8_load_32 (by decide) ?_
  refine lv_bipush (v := 48) hx hb dX8_load_33 (by decide) ?_
  obtain ⟨hin, hf⟩ := xcpy_f hf
  refine x_copy hx hb (hml.trans hl.1.symm) hw hown (hts (.methodLink RX8 49 arraycopyName) (by decide +kernel)) (hts (.native arraycopyName) (by decide +kernel)) (hts (.static arraycopyName) (by decide +kernel)) (hts (.initialized "java/lang/System") (by decide +kernel)) (cX1 hE) (cX11 hE) hin (Nat.le_of_ble_eq_true rfl) (Nat.le_of_ble_eq_true rfl) dX8_load_35 (fun σ4 H locs ex hw => ?_)
  replace hf := hf σ4 ex
  clear ex hin
  refine lv_iload_n hx hb dX8_load_38 rfl (lv_at hl 2 rfl) ?_
  refine lv_bipush (v := 55) hx hb dX8_load_39 (by decide) ?_
  refine lv_iadd hx hb dX8_load_41 ?_
  exact x_iret hx hb hr hlk hw hf dX8_load_42

def fX9_priceBetween_c28 : Nat → Int32 → Int32 → Int32 → xSt → Option (Int32 × xSt)
  | 0 => fun _ _ _ _ => none
  | n + 1 => fun a3 a4 a5 σ => (if 4 ≤ a5 then some (a4, σ) else (if ((a3 >>> (a5 &&& 31)) &&& 1) = 0 then (xl (a5 + 1) fun v4 => fX9_priceBetween_c28 n a3 a4 v4 σ) else (xrs xPri 4 a5 fun v5 => (xl (a4 + v5) fun v6 => (xl (a5 + 1) fun v7 => fX9_priceBetween_c28 n a3 v6 v7 σ)))))
theorem fX9_priceBetween_c28_s (n : Nat) (a3 : Int32) (a4 : Int32) (a5 : Int32) (σ : xSt) : fX9_priceBetween_c28 (n + 1) a3 a4 a5 σ = ((if 4 ≤ a5 then some (a4, σ) else (if ((a3 >>> (a5 &&& 31)) &&& 1) = 0 then (xl (a5 + 1) fun v4 => fX9_priceBetween_c28 n a3 a4 v4 σ) else (xrs xPri 4 a5 fun v5 => (xl (a4 + v5) fun v6 => (xl (a5 + 1) fun v7 => fX9_priceBetween_c28 n a3 v6 v7 σ))))) : Option (Int32 × xSt)) := rfl
def fX9_priceBetween (p0 : Int32) (p1 : Int32) (σ : xSt) : Option (Int32 × xSt) := (xr σ 9 6 p0 fun v1 => (xr σ 9 6 p1 fun v2 => (xl (v1 &&& (v2 ^^^ (-1))) fun v3 => fX9_priceBetween_c28 xFU v3 0 0 σ)))
abbrev rmX9_priceBetween : Room := { frames := 0, cells := 0, slots := 0, locals := 0 }
set_option maxRecDepth 100000 in
set_option maxHeartbeats 4000000 in
theorem mX9_priceBetween {l : Launch} {E : xE} (hE : E.sh = shX) (p0 : Int32) (p1 : Int32) (σ : xSt) (o1 : Int32) (o2 : xSt) (hf : fX9_priceBetween p0 p1 σ = some (o1, o2)) : xMi l yX9_priceBetween wsX9_priceBetween rmX9_priceBetween E [.ref (E.a 46), .int p0, .int p1] σ o1 o2 := by
  unfold fX9_priceBetween at hf
  refine xMi_of (cc := cX9_priceBetween) (maxL := 6) (ret := (some .int)) (by decide) rfl (Nat.le_of_ble_eq_true rfl) ?_
  intro p e s m args below meth c A ls ⟨hx, hb, hr, hml, hown, hts, hlk⟩ hA hG hw hl
  have hown : s.vm.findClass RX9 = some m.cls := hown
  have hl : lv_has ls 6 [(0, .ref (E.a 46)), (1, .int p0), (2, .int p1)] := hl
  have hk18 := hts (.fieldLink RX9 18 "OvenRound$Row" "recipes" "LOvenRound$Recipes;") (by decide +kernel)
  have hiX9 : ∀ w ∈ wsX90, w ∈ wsX9_priceBetween := by decide +kernel
  have hk40 := hts (.fieldLink RX9 40 "OvenRound$Recipes" "allergens" "[I") (by decide +kernel)
  have hiX8 : ∀ w ∈ wsX80, w ∈ wsX9_priceBetween := by decide +kernel
  have h28 : ∀ (n : Nat) (a3 : Int32) (a4 : Int32) (a5 : Int32) (σ : xSt) (H : Heap) (locs : List Loc) (ls : Array Slot), xw E A s.heap s σ H locs → lv_has ls 6 [(3, .int a3), (4, .int a4), (5, .int a5)] → fX9_priceBetween_c28 n a3 a4 a5 σ = some (o1, o2) → W p l e rmX9_priceBetween s m args below meth c H locs 0 0 (MQ below (xQi E A o1 o2) args s 0 0 A) (F0 m 28 ls []) := by
    intro n28
    induction n28 with
    | zero => intro a3 a4 a5 σ H locs ls hw hl hf; exact nomatch hf
    | succ n28 ih28 =>
      intro a3 a4 a5 σ H locs ls hw hl hf
      rw [fX9_priceBetween_c28_s] at hf
      refine lv_iload hx hb dX9_priceBetween_28 (lv_at hl 2 rfl) ?_
      refine va_gets hx hb hG.2.2.1.1 hw.2.2.2 hown (hts (.fieldLink RX9 45 "OvenRound$Row" "PRICES" "[I") (by decide +kernel)) (fun _ h9 => h9) dX9_priceBetween_30 ?_
      refine va_tlen hx hb hG.2.2.1.2 hw.2.2.2 (v := 4) (by decide) dX9_priceBetween_33 ?_
      refine lv_icmp_ge (tgt := 63) hx hb dX9_priceBetween_34 (by decide) (fun c34 => ?_) (fun c34 => ?_)
      · replace hf := xif_pos c34 hf
        refine lv_iload hx hb dX9_priceBetween_63 (lv_at hl 1 rfl) ?_
        exact x_iret hx hb hr hlk hw hf dX9_priceBetween_65
      · replace hf := xif_neg c34 hf
        refine lv_iload_n hx hb dX9_priceBetween_37 rfl (lv_at hl 0 rfl) ?_
        refine lv_iload hx hb dX9_priceBetween_38 (lv_at hl 2 rfl) ?_
        refine lv_ishr hx hb dX9_priceBetween_40 ?_
        refine lv_iconst (v := 1) hx hb dX9_priceBetween_41 (by decide) ?_
        refine lv_iand hx hb dX9_priceBetween_42 ?_
        refine lv_if_eq (tgt := 57) hx hb dX9_priceBetween_43 (by decide) (fun c43 => ?_) (fun c43 => ?_)
        · replace hf := xif_pos c43 hf
          obtain ⟨v4, ex⟩ : ∃ y : Int32, y = (a5 + 1) := ⟨_, rfl⟩
          replace hf := xl_f hf v4 ex
          refine lv_iinc (v := v4) (lv' := [(5, .int v4), (3, .int a3), (4, .int a4)]) hx hb dX9_priceBetween_57 hl (k := 2) rfl (by rw [ex]; rfl) (by decide) rfl (fun ls hl => ?_)
          clear ex
          refine lv_goto (tgt := 28) hx hb dX9_priceBetween_60 (by decide) ?_
          exact ih28 a3 a4 v4 σ _ _ _ hw (lv_sub hl [1, 2, 0] rfl) hf
        · replace hf := xif_neg c43 hf
          refine lv_iload hx hb dX9_priceBetween_46 (lv_at hl 1 rfl) ?_
          refine va_gets hx hb hG.2.2.1.1 hw.2.2.2 hown (hts (.fieldLink RX9 45 "OvenRound$Row" "PRICES" "[I") (by decide +kernel)) (fun _ h9 => h9) dX9_priceBetween_48 ?_
          refine lv_iload hx hb dX9_priceBetween_51 (lv_at hl 2 rfl) ?_
          obtain ⟨hin, hf⟩ := xrs_f hf
          refine va_ti hx hb hG.2.2.1.2 hw.2.2.2 hin rfl dX9_priceBetween_53 ?_
          refine lv_topi (fun v5 ex => ?_)
          replace hf := hf v5 ex
          clear ex hin
          refine lv_iadd hx hb dX9_priceBetween_54 ?_
          refine lv_topi (fun v6 ex => ?_)
          replace hf := xl_f hf v6 ex
          clear ex
          refine lv_istore (lv' := [(4, .int v6), (3, .int a3), (5, .int a5)]) hx hb dX9_priceBetween_55 hl (by decide) rfl (fun ls hl => ?_)
          obtain ⟨v7, ex⟩ : ∃ y : Int32, y = (a5 + 1) := ⟨_, rfl⟩
          replace hf := xl_f hf v7 ex
          refine lv_iinc (v := v7) (lv' := [(5, .int v7), (4, .int v6), (3, .int a3)]) hx hb dX9_priceBetween_57 hl (k := 2) rfl (by rw [ex]; rfl) (by decide) rfl (fun ls hl => ?_)
          clear ex
          refine lv_goto (tgt := 28) hx hb dX9_priceBetween_60 (by decide) ?_
          exact ih28 a3 v6 v7 σ _ _ _ hw (lv_sub hl [2, 1, 0] rfl) hf
  refine lv_aload_n hx hb dX9_priceBetween_0 rfl (lv_at hl 0 rfl) ?_
  refine x_getr hx hb hw (cX46 hE) (own := RX9) (ref := RX9) (C := RX9) (T := TX9) (N := 4) hts hiX9 hown rfl 0 (by decide) hk18 (fun _ h9 => h9) rfl dX9_priceBetween_1 ?_
  refine x_getr hx hb hw (cX4 hE) (own := RX9) (ref := RX8) (C := RX8) (T := TX8) (N := 8) hts hiX8 hown rfl 4 (by decide) hk40 (fun _ h9 => h9) rfl dX9_priceBetween_4 ?_
  refine lv_iload_n hx hb dX9_priceBetween_7 rfl (lv_at hl 1 rfl) ?_
  obtain ⟨hin, hf⟩ := xr_f hf
  refine x_iald hx hb hw (cX9 hE) hin dX9_priceBetween_8 ?_
  refine lv_topi (fun v1 ex => ?_)
  replace hf := hf v1 ex
  clear ex hin
  refine lv_aload_n hx hb dX9_priceBetween_9 rfl (lv_at hl 0 rfl) ?_
  refine x_getr hx hb hw (cX46 hE) (own := RX9) (ref := RX9) (C := RX9) (T := TX9) (N := 4) hts hiX9 hown rfl 0 (by decide) hk18 (fun _ h9 => h9) rfl dX9_priceBetween_10 ?_
  refine x_getr hx hb hw (cX4 hE) (own := RX9) (ref := RX8) (C := RX8) (T := TX8) (N := 8) hts hiX8 hown rfl 4 (by decide) hk40 (fun _ h9 => h9) rfl dX9_priceBetween_13 ?_
  refine lv_iload_n hx hb dX9_priceBetween_16 rfl (lv_at hl 2 rfl) ?_
  obtain ⟨hin, hf⟩ := xr_f hf
  refine x_iald hx hb hw (cX9 hE) hin dX9_priceBetween_17 ?_
  refine lv_topi (fun v2 ex => ?_)
  replace hf := hf v2 ex
  clear ex hin
  refine lv_iconst (v := (-1)) hx hb dX9_priceBetween_18 (by decide) ?_
  refine lv_ixor hx hb dX9_priceBetween_19 ?_
  refine lv_iand hx hb dX9_priceBetween_20 ?_
  refine lv_topi (fun v3 ex => ?_)
  replace hf := xl_f hf v3 ex
  clear ex
  refine lv_istore_n (lv' := [(3, .int v3), (0, .ref (E.a 46)), (1, .int p0), (2, .int p1)]) hx hb dX9_priceBetween_21 rfl hl (by decide) rfl (fun ls hl => ?_)
  refine lv_iconst (v := 0) hx hb dX9_priceBetween_22 (by decide) ?_
  refine lv_istore (lv' := [(4, .int 0), (3, .int v3), (0, .ref (E.a 46)), (1, .int p0), (2, .int p1)]) hx hb dX9_priceBetween_23 hl (by decide) rfl (fun ls hl => ?_)
  refine lv_iconst (v := 0) hx hb dX9_priceBetween_25 (by decide) ?_
  refine lv_istore (lv' := [(5, .int 0), (4, .int 0), (3, .int v3), (0, .ref (E.a 46)), (1, .int p0), (2, .int p1)]) hx hb dX9_priceBetween_26 hl (by decide) rfl (fun ls hl => ?_)
  exact h28 xFU v3 0 0 σ _ _ _ hw (lv_sub hl [2, 1, 0] rfl) hf

def fX9_goOn_c97 (fr : (Int32 → Int32 → Int32 → xSt → Option xSt)) (k51 : (Int32 → Int32 → Int32 → Int32 → xSt → Option xSt)) (a1 : Int32) (a2 : Int32) (a3 : Int32) (a4 : Int32) (t0 : Int32) (σ : xSt) : Option xSt := (xc (fr (a1 + 1) (a2 &&& ((1 <<< (a4 &&& 31)) ^^^ (-1))) (a3 + t0) σ) fun σ9 => (xl (a4 + 1) fun v10 => k51 a1 a2 a3 v10 σ9))
def fX9_goOn_c51 (fr : (Int32 → Int32 → Int32 → xSt → Option xSt)) : Nat → Int32 → Int32 → Int32 → Int32 → xSt → Option xSt
  | 0 => fun _ _ _ _ _ => none
  | n + 1 => fun a1 a2 a3 a4 σ => (if 6 ≤ a4 then some σ else (if ((a2 >>> (a4 &&& 31)) &&& 1) = 0 then (xl (a4 + 1) fun v3 => fX9_goOn_c51 fr n a1 a2 a3 v3 σ) else (xs σ 47 6 a1 a4 fun σ4 => (if a1 ≤ 0 then fX9_goOn_c97 fr (fX9_goOn_c51 fr n) a1 a2 a3 a4 0 σ4 else (xr σ4 47 6 (a1 - 1) fun v5 => (xc2 (fX9_priceBetween v5 a4 σ4) fun r6 σ7 => fX9_goOn_c97 fr (fX9_goOn_c51 fr n) a1 a2 a3 a4 r6 σ7))))))
theorem fX9_goOn_c51_s (fr : (Int32 → Int32 → Int32 → xSt → Option xSt)) (n : Nat) (a1 : Int32) (a2 : Int32) (a3 : Int32) (a4 : Int32) (σ : xSt) : fX9_goOn_c51 fr (n + 1) a1 a2 a3 a4 σ = ((if 6 ≤ a4 then some σ else (if ((a2 >>> (a4 &&& 31)) &&& 1) = 0 then (xl (a4 + 1) fun v3 => fX9_goOn_c51 fr n a1 a2 a3 v3 σ) else (xs σ 47 6 a1 a4 fun σ4 => (if a1 ≤ 0 then fX9_goOn_c97 fr (fX9_goOn_c51 fr n) a1 a2 a3 a4 0 σ4 else (xr σ4 47 6 (a1 - 1) fun v5 => (xc2 (fX9_priceBetween v5 a4 σ4) fun r6 σ7 => fX9_goOn_c97 fr (fX9_goOn_c51 fr n) a1 a2 a3 a4 r6 σ7)))))) : Option xSt) := rfl
def fX9_goOn_c27 (fr : (Int32 → Int32 → Int32 → xSt → Option xSt)) (a3 : Int32) (σ : xSt) : Option xSt := (xp σ 46 3 a3 fun σ1 => (xcpy σ1 47 6 0 48 6 0 6 fun σ2 => some σ2))
def fX9_goOn_c17 (fr : (Int32 → Int32 → Int32 → xSt → Option xSt)) (a1 : Int32) (a2 : Int32) (a3 : Int32) (σ : xSt) : Option xSt := (if a2 = 0 then fX9_goOn_c27 fr a3 σ else (if a1 < 6 then fX9_goOn_c51 fr xFU a1 a2 a3 0 σ else fX9_goOn_c27 fr a3 σ))
def fX9_goOn : Nat → Int32 → Int32 → Int32 → xSt → Option xSt
  | 0 => fun _ _ _ _ => none
  | d + 1 => fun p1 p2 p3 σ => (if (σ 46 3) = (-1) then fX9_goOn_c17 (fX9_goOn d) p1 p2 p3 σ else (if p3 < (σ 46 3) then fX9_goOn_c17 (fX9_goOn d) p1 p2 p3 σ else some σ))
theorem fX9_goOn_s (d : Nat) (p1 : Int32) (p2 : Int32) (p3 : Int32) (σ : xSt) : fX9_goOn (d + 1) p1 p2 p3 σ = ((if (σ 46 3) = (-1) then fX9_goOn_c17 (fX9_goOn d) p1 p2 p3 σ else (if p3 < (σ 46 3) then fX9_goOn_c17 (fX9_goOn d) p1 p2 p3 σ else some σ)) : Option xSt) := rfl
abbrev rmX9_goOn (d : Nat) : Room := { frames := 1 + d, cells := 0, slots := 0, locals := 96 + 25 * d }
set_option maxRecDepth 100000 in
set_option maxHeartbeats 4000000 in
theorem mX9_goOn {l : Launch} {E : xE} (hE : E.sh = shX) : ∀ (d : Nat) (p1 : Int32) (p2 : Int32) (p3 : Int32) (σ : xSt) (o1 : xSt), fX9_goOn d p1 p2 p3 σ = some o1 → xMv l yX9_goOn wsX9_goOn (rmX9_goOn d) E [.ref (E.a 46), .int p1, .int p2, .int p3] σ o1 := by
  intro d
  induction d with
  | zero => intro p1 p2 p3 σ o1 hf; exact nomatch hf
  | succ d hrec =>
  intro p1 p2 p3 σ o1 hf
  rw [fX9_goOn_s] at hf
  refine xMv_of (cc := cX9_goOn) (maxL := 6) (ret := none) (by decide) rfl (Nat.le_of_ble_eq_true rfl) ?_
  intro p e s m args below meth c A ls ⟨hx, hb, hr, hml, hown, hts, hlk⟩ hA hG hw hl
  have hown : s.vm.findClass RX9 = some m.cls := hown
  have hl : lv_has ls 6 [(0, .ref (E.a 46)), (1, .int p1), (2, .int p2), (3, .int p3)] := hl
  have hk22 := hts (.fieldLink RX9 22 "OvenRound$Row" "bestPrice" "I") (by decide +kernel)
  have hiX9 : ∀ w ∈ wsX90, w ∈ wsX9_goOn := by decide +kernel
  have hk9 := hts (.fieldLink RX9 9 "OvenRound$Row" "tried" "[I") (by decide +kernel)
  have hk15 := hts (.fieldLink RX9 15 "OvenRound$Row" "best" "[I") (by decide +kernel)
  have h51 : ∀ (n : Nat) (a1 : Int32) (a2 : Int32) (a3 : Int32) (a4 : Int32) (σ : xSt) (H : Heap) (locs : List Loc) (ls : Array Slot), xw E A s.heap s σ H locs → lv_has ls 6 [(0, .ref (E.a 46)), (1, .int a1), (2, .int a2), (3, .int a3), (4, .int a4)] → fX9_goOn_c51 (fX9_goOn d) n a1 a2 a3 a4 σ = some o1 → W p l e (rmX9_goOn (d + 1)) s m args below meth c H locs 0 0 (MQ below (xQv E A o1) args s 0 0 A) (F0 m 51 ls []) := by
    intro n51
    induction n51 with
    | zero => intro a1 a2 a3 a4 σ H locs ls hw hl hf; exact nomatch hf
    | succ n51 ih51 =>
      have h97 : ∀ (a1 : Int32) (a2 : Int32) (a3 : Int32) (a4 : Int32) (t0 : Int32) (σ : xSt) (H : Heap) (locs : List Loc) (ls : Array Slot), xw E A s.heap s σ H locs → lv_has ls 6 [(0, .ref (E.a 46)), (1, .int a1), (2, .int a2), (3, .int a3), (4, .int a4)] → fX9_goOn_c97 (fX9_goOn d) (fX9_goOn_c51 (fX9_goOn d) n51) a1 a2 a3 a4 t0 σ = some o1 → W p l e (rmX9_goOn (d + 1)) s m args below meth c H locs 0 0 (MQ below (xQv E A o1) args s 0 0 A) (F0 m 97 ls [.int t0]) := by
        intro a1 a2 a3 a4 t0 σ H locs ls hw hl hf
        unfold fX9_goOn_c97 at hf
        refine lv_istore (lv' := [(5, .int t0), (0, .ref (E.a 46)), (1, .int a1), (2, .int a2), (3, .int a3), (4, .int a4)]) hx hb dX9_goOn_97 hl (by decide) rfl (fun ls hl => ?_)
        refine lv_aload_n hx hb dX9_goOn_99 rfl (lv_at hl 1 rfl) ?_
        refine lv_iload_n hx hb dX9_goOn_100 rfl (lv_at hl 2 rfl) ?_
        refine lv_iconst (v := 1) hx hb dX9_goOn_101 (by decide) ?_
        refine lv_iadd hx hb dX9_goOn_102 ?_
        refine lv_iload_n hx hb dX9_goOn_103 rfl (lv_at hl 3 rfl) ?_
        refine lv_iconst (v := 1) hx hb dX9_goOn_104 (by decide) ?_
        refine lv_iload hx hb dX9_goOn_105 (lv_at hl 5 rfl) ?_
        refine lv_ishl hx hb dX9_goOn_107 ?_
        refine lv_iconst (v := (-1)) hx hb dX9_goOn_108 (by decide) ?_
        refine lv_ixor hx hb dX9_goOn_109 ?_
        refine lv_iand hx hb dX9_goOn_110 ?_
        refine lv_iload_n hx hb dX9_goOn_111 rfl (lv_at hl 4 rfl) ?_
        refine lv_iload hx hb dX9_goOn_112 (lv_at hl 0 rfl) ?_
        refine lv_iadd hx hb dX9_goOn_114 ?_
        obtain ⟨σ9, hcl, hf⟩ := xc_e hf
        refine x_callv (va_runS (As := [.ref (E.a 46), .int (a1 + 1), .int (a2 &&& ((1 <<< (a4 &&& 31)) ^^^ (-1))), .int (a3 + t0)]) (rest := []) ⟨hx, hb, hml, hown, hts⟩ (hrec (a1 + 1) (a2 &&& ((1 <<< (a4 &&& 31)) ^^^ (-1))) (a3 + t0) σ σ9 hcl H.size) (va_cwS 4 hts gX9_goOn_X9_goOn rfl rfl rfl (by decide +kernel) ⟨(by first | exact Nat.le_of_ble_eq_true rfl | (simp only [rmX9_goOn, rmX9_goOn, rmX9_priceBetween]; omega)), (by first | exact Nat.le_of_ble_eq_true rfl | (simp only [rmX9_goOn, rmX9_goOn, rmX9_priceBetween]; omega))⟩) (x_preS _ hw hA hG) rfl rfl hl.1 rfl (lv_room ((by first | exact Nat.le_of_ble_eq_true rfl | (simp only [rmX9_goOn, rmX9_goOn, rmX9_priceBetween]; omega)))) dX9_goOn_115 ⟨(by first | exact Nat.le_of_ble_eq_true rfl | (simp only [rmX9_goOn, rmX9_goOn, rmX9_priceBetween]; omega)), (by first | exact Nat.le_of_ble_eq_true rfl | (simp only [rmX9_goOn, rmX9_goOn, rmX9_priceBetween]; omega))⟩) hw hA (fun H locs hw => ?_)
        clear hcl
        obtain ⟨v10, ex⟩ : ∃ y : Int32, y = (a4 + 1) := ⟨_, rfl⟩
        replace hf := xl_f hf v10 ex
        refine lv_iinc (v := v10) (lv' := [(4, .int v10), (5, .int t0), (0, .ref (E.a 46)), (1, .int a1), (2, .int a2), (3, .int a3)]) hx hb dX9_goOn_118 hl (k := 5) rfl (by rw [ex]; rfl) (by decide) rfl (fun ls hl => ?_)
        clear ex
        refine lv_goto (tgt := 51) hx hb dX9_goOn_121 (by decide) ?_
        exact ih51 a1 a2 a3 v10 σ9 _ _ _ hw (lv_sub hl [2, 3, 4, 5, 0] rfl) hf
      intro a1 a2 a3 a4 σ H locs ls hw hl hf
      rw [fX9_goOn_c51_s] at hf
      refine lv_iload hx hb dX9_goOn_51 (lv_at hl 4 rfl) ?_
      refine lv_bipush (v := 6) hx hb dX9_goOn_53 (by decide) ?_
      refine lv_icmp_ge (tgt := 124) hx hb dX9_goOn_55 (by decide) (fun c55 => ?_) (fun c55 => ?_)
      · replace hf := xif_pos c55 hf
        exact x_vret hx hb hr hlk hw hf dX9_goOn_124
      · replace hf := xif_neg c55 hf
        refine lv_iload_n hx hb dX9_goOn_58 rfl (lv_at hl 2 rfl) ?_
        refine lv_iload hx hb dX9_goOn_59 (lv_at hl 4 rfl) ?_
        refine lv_ishr hx hb dX9_goOn_61 ?_
        refine lv_iconst (v := 1) hx hb dX9_goOn_62 (by decide) ?_
        refine lv_iand hx hb dX9_goOn_63 ?_
        refine lv_if_eq (tgt := 118) hx hb dX9_goOn_64 (by decide) (fun c64 => ?_) (fun c64 => ?_)
        · replace hf := xif_pos c64 hf
          obtain ⟨v3, ex⟩ : ∃ y : Int32, y = (a4 + 1) := ⟨_, rfl⟩
          replace hf := xl_f hf v3 ex
          refine lv_iinc (v := v3) (lv' := [(4, .int v3), (0, .ref (E.a 46)), (1, .int a1), (2, .int a2), (3, .int a3)]) hx hb dX9_goOn_118 hl (k := 4) rfl (by rw [ex]; rfl) (by decide) rfl (fun ls hl => ?_)
          clear ex
          refine lv_goto (tgt := 51) hx hb dX9_goOn_121 (by decide) ?_
          exact ih51 a1 a2 a3 v3 σ _ _ _ hw (lv_sub hl [1, 2, 3, 4, 0] rfl) hf
        · replace hf := xif_neg c64 hf
          refine lv_aload_n hx hb dX9_goOn_67 rfl (lv_at hl 0 rfl) ?_
          refine x_getr hx hb hw (cX46 hE) (own := RX9) (ref := RX9) (C := RX9) (T := TX9) (N := 4) hts hiX9 hown rfl 1 (by decide) hk9 (fun _ h9 => h9) rfl dX9_goOn_68 ?_
          refine lv_iload_n hx hb dX9_goOn_71 rfl (lv_at hl 1 rfl) ?_
          refine lv_iload hx hb dX9_goOn_72 (lv_at hl 4 rfl) ?_
          obtain ⟨hin, hf⟩ := xs_f hf
          refine x_iast hx hb hw (cX47 hE) hin dX9_goOn_74 (fun σ4 H locs ex hw => ?_)
          replace hf := hf σ4 ex
          clear ex hin
          refine lv_iload_n hx hb dX9_goOn_75 rfl (lv_at hl 1 rfl) ?_
          refine lv_if_le (tgt := 96) hx hb dX9_goOn_76 (by decide) (fun c76 => ?_) (fun c76 => ?_)
          · replace hf := xif_pos c76 hf
            refine lv_iconst (v := 0) hx hb dX9_goOn_96 (by decide) ?_
            exact h97 a1 a2 a3 a4 0 σ4 _ _ _ hw (lv_sub hl [0, 1, 2, 3, 4] rfl) hf
          · replace hf := xif_neg c76 hf
            refine lv_aload_n hx hb dX9_goOn_79 rfl (lv_at hl 0 rfl) ?_
            refine lv_aload_n hx hb dX9_goOn_80 rfl (lv_at hl 0 rfl) ?_
            refine x_getr hx hb hw (cX46 hE) (own := RX9) (ref := RX9) (C := RX9) (T := TX9) (N := 4) hts hiX9 hown rfl 1 (by decide) hk9 (fun _ h9 => h9) rfl dX9_goOn_81 ?_
            refine lv_iload_n hx hb dX9_goOn_84 rfl (lv_at hl 1 rfl) ?_
            refine lv_iconst (v := 1) hx hb dX9_goOn_85 (by decide) ?_
            refine lv_isub hx hb dX9_goOn_86 ?_
            obtain ⟨hin, hf⟩ := xr_f hf
            refine x_iald hx hb hw (cX47 hE) hin dX9_goOn_87 ?_
            refine lv_topi (fun v5 ex => ?_)
            replace hf := hf v5 ex
            clear ex hin
            refine lv_iload hx hb dX9_goOn_88 (lv_at hl 4 rfl) ?_
            obtain ⟨r6, σ7, hcl, hf⟩ := xc2_f hf
            refine x_calli (va_runV (As := [.int v5, .int a4]) (rest := []) ⟨hx, hb, hml, hown, hts⟩ (mX9_priceBetween hE v5 a4 σ4 r6 σ7 hcl H.size) (cwV 2 hts gX9_goOn_X9_priceBetween rfl rfl rfl (by decide +kernel) ⟨(by first | exact Nat.le_of_ble_eq_true rfl | (simp only [rmX9_goOn, rmX9_goOn, rmX9_priceBetween]; omega)), (by first | exact Nat.le_of_ble_eq_true rfl | (simp only [rmX9_goOn, rmX9_goOn, rmX9_priceBetween]; omega))⟩) (x_preV _ hw hA hG (cX46 hE) rfl) rfl rfl hl.1 rfl (lv_room ((by first | exact Nat.le_of_ble_eq_true rfl | (simp only [rmX9_goOn, rmX9_goOn, rmX9_priceBetween]; omega)))) dX9_goOn_90 ⟨(by first | exact Nat.le_of_ble_eq_true rfl | (simp only [rmX9_goOn, rmX9_goOn, rmX9_priceBetween]; omega)), (by first | exact Nat.le_of_ble_eq_true rfl | (simp only [rmX9_goOn, rmX9_goOn, rmX9_priceBetween]; omega))⟩) hw hA (fun H locs hw => ?_)
            clear hcl
            refine lv_goto (tgt := 97) hx hb dX9_goOn_93 (by decide) ?_
            exact h97 a1 a2 a3 a4 r6 σ7 _ _ _ hw (lv_sub hl [0, 1, 2, 3, 4] rfl) hf
  have h27 : ∀ (a3 : Int32) (σ : xSt) (H : Heap) (locs : List Loc) (ls : Array Slot), xw E A s.heap s σ H locs → lv_has ls 6 [(0, .ref (E.a 46)), (3, .int a3)] → fX9_goOn_c27 (fX9_goOn d) a3 σ = some o1 → W p l e (rmX9_goOn (d + 1)) s m args below meth c H locs 0 0 (MQ below (xQv E A o1) args s 0 0 A) (F0 m 27 ls []) := by
    intro a3 σ H locs ls hw hl hf
    unfold fX9_goOn_c27 at hf
    refine lv_aload_n hx hb dX9_goOn_27 rfl (lv_at hl 0 rfl) ?_
    refine lv_iload_n hx hb dX9_goOn_28 rfl (lv_at hl 1 rfl) ?_
    refine x_puti hx hb hw (cX46 hE) (own := RX9) (ref := RX9) (C := RX9) (T := TX9) (N := 4) hts hiX9 tyX9 tyX9_ok nmX9 hown rfl 3 (by decide) hk22 (fun _ h9 => h9) rfl (by decide +kernel) rfl dX9_goOn_29 (fun σ1 H locs ex hw => ?_)
    replace hf := xp_f hf σ1 ex
    clear ex
    refine lv_aload_n hx hb dX9_goOn_32 rfl (lv_at hl 0 rfl) ?_
    refine x_getr hx hb hw (cX46 hE) (own := RX9) (ref := RX9) (C := RX9) (T := TX9) (N := 4) hts hiX9 hown rfl 1 (by decide) hk9 (fun _ h9 => h9) rfl dX9_goOn_33 ?_
    refine lv_iconst (v := 0) hx hb dX9_goOn_36 (by decide) ?_
    refine lv_aload_n hx hb dX9_goOn_37 rfl (lv_at hl 0 rfl) ?_
    refine x_getr hx hb hw (cX46 hE) (own := RX9) (ref := RX9) (C := RX9) (T := TX9) (N := 4) hts hiX9 hown rfl 2 (by decide) hk15 (fun _ h9 => h9) rfl dX9_goOn_38 ?_
    refine lv_iconst (v := 0) hx hb dX9_goOn_41 (by decide) ?_
    refine lv_bipush (v := 6) hx hb dX9_goOn_42 (by decide) ?_
    obtain ⟨hin, hf⟩ := xcpy_f hf
    refine x_copy hx hb (hml.trans hl.1.symm) hw hown (hts (.methodLink RX9 30 arraycopyName) (by decide +kernel)) (hts (.native arraycopyName) (by decide +kernel)) (hts (.static arraycopyName) (by decide +kernel)) (hts (.initialized "java/lang/System") (by decide +kernel)) (cX47 hE) (cX48 hE) hin ((by first | exact Nat.le_of_ble_eq_true rfl | (simp only [rmX9_goOn, rmX9_goOn, rmX9_priceBetween]; omega))) ((by first | exact Nat.le_of_ble_eq_true rfl | (simp only [rmX9_goOn, rmX9_goOn, rmX9_priceBetween]; omega))) dX9_goOn_44 (fun σ2 H locs ex hw => ?_)
    replace hf := hf σ2 ex
    clear ex hin
    exact x_vret hx hb hr hlk hw hf dX9_goOn_47
  have h17 : ∀ (a1 : Int32) (a2 : Int32) (a3 : Int32) (σ : xSt) (H : Heap) (locs : List Loc) (ls : Array Slot), xw E A s.heap s σ H locs → lv_has ls 6 [(0, .ref (E.a 46)), (1, .int a1), (2, .int a2), (3, .int a3)] → fX9_goOn_c17 (fX9_goOn d) a1 a2 a3 σ = some o1 → W p l e (rmX9_goOn (d + 1)) s m args below meth c H locs 0 0 (MQ below (xQv E A o1) args s 0 0 A) (F0 m 17 ls []) := by
    intro a1 a2 a3 σ H locs ls hw hl hf
    unfold fX9_goOn_c17 at hf
    refine lv_iload_n hx hb dX9_goOn_17 rfl (lv_at hl 2 rfl) ?_
    refine lv_if_eq (tgt := 27) hx hb dX9_goOn_18 (by decide) (fun c18 => ?_) (fun c18 => ?_)
    · replace hf := xif_pos c18 hf
      exact h27 a3 σ _ _ _ hw (lv_sub hl [0, 3] rfl) hf
    · replace hf := xif_neg c18 hf
      refine lv_iload_n hx hb dX9_goOn_21 rfl (lv_at hl 1 rfl) ?_
      refine lv_bipush (v := 6) hx hb dX9_goOn_22 (by decide) ?_
      refine lv_icmp_lt (tgt := 48) hx hb dX9_goOn_24 (by decide) (fun c24 => ?_) (fun c24 => ?_)
      · replace hf := xif_pos c24 hf
        refine lv_iconst (v := 0) hx hb dX9_goOn_48 (by decide) ?_
        refine lv_istore (lv' := [(4, .int 0), (0, .ref (E.a 46)), (1, .int a1), (2, .int a2), (3, .int a3)]) hx hb dX9_goOn_49 hl (by decide) rfl (fun ls hl => ?_)
        exact h51 xFU a1 a2 a3 0 σ _ _ _ hw (lv_sub hl [1, 2, 3, 4, 0] rfl) hf
      · replace hf := xif_neg c24 hf
        exact h27 a3 σ _ _ _ hw (lv_sub hl [0, 3] rfl) hf
  refine lv_aload_n hx hb dX9_goOn_0 rfl (lv_at hl 0 rfl) ?_
  refine x_geti hx hb hw (cX46 hE) (own := RX9) (ref := RX9) (C := RX9) (T := TX9) (N := 4) hts hiX9 hown rfl 3 (by decide) hk22 (fun _ h9 => h9) rfl dX9_goOn_1 ?_
  refine lv_iconst (v := (-1)) hx hb dX9_goOn_4 (by decide) ?_
  refine lv_icmp_eq (tgt := 17) hx hb dX9_goOn_5 (by decide) (fun c5 => ?_) (fun c5 => ?_)
  · replace hf := xif_pos c5 hf
    exact h17 p1 p2 p3 σ _ _ _ hw (lv_sub hl [0, 1, 2, 3] rfl) hf
  · replace hf := xif_neg c5 hf
    refine lv_iload_n hx hb dX9_goOn_8 rfl (lv_at hl 3 rfl) ?_
    refine lv_aload_n hx hb dX9_goOn_9 rfl (lv_at hl 0 rfl) ?_
    refine x_geti hx hb hw (cX46 hE) (own := RX9) (ref := RX9) (C := RX9) (T := TX9) (N := 4) hts hiX9 hown rfl 3 (by decide) hk22 (fun _ h9 => h9) rfl dX9_goOn_10 ?_
    refine lv_icmp_lt (tgt := 17) hx hb dX9_goOn_13 (by decide) (fun c13 => ?_) (fun c13 => ?_)
    · replace hf := xif_pos c13 hf
      exact h17 p1 p2 p3 σ _ _ _ hw (lv_sub hl [0, 1, 2, 3] rfl) hf
    · replace hf := xif_neg c13 hf
      exact x_vret hx hb hr hlk hw hf dX9_goOn_16

def fX9_find (p0 : Int32) (σ : xSt) : Option xSt := (xp σ 46 3 (-1) fun σ1 => (xc (fX9_goOn 10 0 p0 0 σ1) fun σ3 => some σ3))
abbrev rmX9_find : Room := { frames := 12, cells := 0, slots := 0, locals := 371 }
set_option maxRecDepth 100000 in
set_option maxHeartbeats 4000000 in
theorem mX9_find {l : Launch} {E : xE} (hE : E.sh = shX) (p0 : Int32) (σ : xSt) (o1 : xSt) (hf : fX9_find p0 σ = some o1) : xMv l yX9_find wsX9_find rmX9_find E [.ref (E.a 46), .int p0] σ o1 := by
  unfold fX9_find at hf
  refine xMv_of (cc := cX9_find) (maxL := 2) (ret := none) (by decide) rfl (Nat.le_of_ble_eq_true rfl) ?_
  intro p e s m args below meth c A ls ⟨hx, hb, hr, hml, hown, hts, hlk⟩ hA hG hw hl
  have hown : s.vm.findClass RX9 = some m.cls := hown
  have hl : lv_has ls 2 [(0, .ref (E.a 46)), (1, .int p0)] := hl
  have hk22 := hts (.fieldLink RX9 22 "OvenRound$Row" "bestPrice" "I") (by decide +kernel)
  have hiX9 : ∀ w ∈ wsX90, w ∈ wsX9_find := by decide +kernel
  refine lv_aload_n hx hb dX9_find_0 rfl (lv_at hl 0 rfl) ?_
  refine lv_iconst (v := (-1)) hx hb dX9_find_1 (by decide) ?_
  refine x_puti hx hb hw (cX46 hE) (own := RX9) (ref := RX9) (C := RX9) (T := TX9) (N := 4) hts hiX9 tyX9 tyX9_ok nmX9 hown rfl 3 (by decide) hk22 (fun _ h9 => h9) rfl (by decide +kernel) rfl dX9_find_2 (fun σ1 H locs ex hw => ?_)
  replace hf := xp_f hf σ1 ex
  clear ex
  refine lv_aload_n hx hb dX9_find_5 rfl (lv_at hl 0 rfl) ?_
  refine lv_iconst (v := 0) hx hb dX9_find_6 (by decide) ?_
  refine lv_iload_n hx hb dX9_find_7 rfl (lv_at hl 1 rfl) ?_
  refine lv_iconst (v := 0) hx hb dX9_find_8 (by decide) ?_
  obtain ⟨σ3, hcl, hf⟩ := xc_e hf
  refine x_callv (va_runS (As := [.ref (E.a 46), .int 0, .int p0, .int 0]) (rest := []) ⟨hx, hb, hml, hown, hts⟩ (mX9_goOn hE 10 0 p0 0 σ1 σ3 hcl H.size) (va_cwS 4 hts gX9_find_X9_goOn rfl rfl rfl (by decide +kernel) ⟨Nat.le_of_ble_eq_true rfl, Nat.le_of_ble_eq_true rfl⟩) (x_preS _ hw hA hG) rfl rfl hl.1 rfl (lv_room (Nat.le_of_ble_eq_true rfl)) dX9_find_9 ⟨Nat.le_of_ble_eq_true rfl, Nat.le_of_ble_eq_true rfl⟩) hw hA (fun H locs hw => ?_)
  clear hcl
  exact x_vret hx hb hr hlk hw hf dX9_find_12

def fX10_allGrams_c4 : Nat → Int32 → Int32 → xSt → Option (Int32 × xSt)
  | 0 => fun _ _ _ => none
  | n + 1 => fun a1 a2 σ => (if 8 ≤ a2 then some (a1, σ) else (xr σ 3 8 a2 fun v1 => (xl (a1 + v1) fun v2 => (xl (a2 + 1) fun v3 => fX10_allGrams_c4 n v2 v3 σ))))
theorem fX10_allGrams_c4_s (n : Nat) (a1 : Int32) (a2 : Int32) (σ : xSt) : fX10_allGrams_c4 (n + 1) a1 a2 σ = ((if 8 ≤ a2 then some (a1, σ) else (xr σ 3 8 a2 fun v1 => (xl (a1 + v1) fun v2 => (xl (a2 + 1) fun v3 => fX10_allGrams_c4 n v2 v3 σ)))) : Option (Int32 × xSt)) := rfl
def fX10_allGrams (σ : xSt) : Option (Int32 × xSt) := fX10_allGrams_c4 xFU 0 0 σ
abbrev rmX10_allGrams : Room := { frames := 0, cells := 0, slots := 0, locals := 0 }
set_option maxRecDepth 100000 in
set_option maxHeartbeats 4000000 in
theorem mX10_allGrams {l : Launch} {E : xE} (hE : E.sh = shX) (σ : xSt) (o1 : Int32) (o2 : xSt) (hf : fX10_allGrams σ = some (o1, o2)) : xMi l yX10_allGrams wsX10_allGrams rmX10_allGrams E [.ref (E.a 2)] σ o1 o2 := by
  unfold fX10_allGrams at hf
  refine xMi_of (cc := cX10_allGrams) (maxL := 3) (ret := (some .int)) (by decide) rfl (Nat.le_of_ble_eq_true rfl) ?_
  intro p e s m args below meth c A ls ⟨hx, hb, hr, hml, hown, hts, hlk⟩ hA hG hw hl
  have hown : s.vm.findClass RX10 = some m.cls := hown
  have hl : lv_has ls 3 [(0, .ref (E.a 2))] := hl
  have hk9 := hts (.fieldLink RX10 9 "OvenRound$Store" "grams" "[I") (by decide +kernel)
  have hiX10 : ∀ w ∈ wsX100, w ∈ wsX10_allGrams := by decide +kernel
  have h4 : ∀ (n : Nat) (a1 : Int32) (a2 : Int32) (σ : xSt) (H : Heap) (locs : List Loc) (ls : Array Slot), xw E A s.heap s σ H locs → lv_has ls 3 [(0, .ref (E.a 2)), (1, .int a1), (2, .int a2)] → fX10_allGrams_c4 n a1 a2 σ = some (o1, o2) → W p l e rmX10_allGrams s m args below meth c H locs 0 0 (MQ below (xQi E A o1 o2) args s 0 0 A) (F0 m 4 ls []) := by
    intro n4
    induction n4 with
    | zero => intro a1 a2 σ H locs ls hw hl hf; exact nomatch hf
    | succ n4 ih4 =>
      intro a1 a2 σ H locs ls hw hl hf
      rw [fX10_allGrams_c4_s] at hf
      refine lv_iload_n hx hb dX10_allGrams_4 rfl (lv_at hl 2 rfl) ?_
      refine lv_bipush (v := 8) hx hb dX10_allGrams_5 (by decide) ?_
      refine lv_icmp_ge (tgt := 25) hx hb dX10_allGrams_7 (by decide) (fun c7 => ?_) (fun c7 => ?_)
      · replace hf := xif_pos c7 hf
        refine lv_iload_n hx hb dX10_allGrams_25 rfl (lv_at hl 1 rfl) ?_
        exact x_iret hx hb hr hlk hw hf dX10_allGrams_26
      · replace hf := xif_neg c7 hf
        refine lv_iload_n hx hb dX10_allGrams_10 rfl (lv_at hl 1 rfl) ?_
        refine lv_aload_n hx hb dX10_allGrams_11 rfl (lv_at hl 0 rfl) ?_
        refine x_getr hx hb hw (cX2 hE) (own := RX10) (ref := RX10) (C := RX10) (T := TX10) (N := 4) hts hiX10 hown rfl 0 (by decide) hk9 (fun _ h9 => h9) rfl dX10_allGrams_12 ?_
        refine lv_iload_n hx hb dX10_allGrams_15 rfl (lv_at hl 2 rfl) ?_
        obtain ⟨hin, hf⟩ := xr_f hf
        refine x_iald hx hb hw (cX3 hE) hin dX10_allGrams_16 ?_
        refine lv_topi (fun v1 ex => ?_)
        replace hf := hf v1 ex
        clear ex hin
        refine lv_iadd hx hb dX10_allGrams_17 ?_
        refine lv_topi (fun v2 ex => ?_)
        replace hf := xl_f hf v2 ex
        clear ex
        refine lv_istore_n (lv' := [(1, .int v2), (0, .ref (E.a 2)), (2, .int a2)]) hx hb dX10_allGrams_18 rfl hl (by decide) rfl (fun ls hl => ?_)
        obtain ⟨v3, ex⟩ : ∃ y : Int32, y = (a2 + 1) := ⟨_, rfl⟩
        replace hf := xl_f hf v3 ex
        refine lv_iinc (v := v3) (lv' := [(2, .int v3), (1, .int v2), (0, .ref (E.a 2))]) hx hb dX10_allGrams_19 hl (k := 2) rfl (by rw [ex]; rfl) (by decide) rfl (fun ls hl => ?_)
        clear ex
        refine lv_goto (tgt := 4) hx hb dX10_allGrams_22 (by decide) ?_
        exact ih4 v2 v3 σ _ _ _ hw (lv_sub hl [2, 1, 0] rfl) hf
  refine lv_iconst (v := 0) hx hb dX10_allGrams_0 (by decide) ?_
  refine lv_istore_n (lv' := [(1, .int 0), (0, .ref (E.a 2))]) hx hb dX10_allGrams_1 rfl hl (by decide) rfl (fun ls hl => ?_)
  refine lv_iconst (v := 0) hx hb dX10_allGrams_2 (by decide) ?_
  refine lv_istore_n (lv' := [(2, .int 0), (1, .int 0), (0, .ref (E.a 2))]) hx hb dX10_allGrams_3 rfl hl (by decide) rfl (fun ls hl => ?_)
  exact h4 xFU 0 0 σ _ _ _ hw (lv_sub hl [2, 1, 0] rfl) hf

def fX10_save (p1 : Int32) (σ : xSt) : Option (Int32 × xSt) := (xcpy σ 3 8 0 1 1560 p1 8 fun σ1 => (xs σ1 1 1560 (p1 + 8) (σ1 2 1) fun σ2 => (xs σ2 1 1560 ((p1 + 8) + 1) (σ2 2 2) fun σ3 => (xs σ3 1 1560 ((p1 + 8) + 2) (σ3 2 3) fun σ4 => some ((p1 + 11), σ4)))))
abbrev rmX10_save : Room := { frames := 1, cells := 0, slots := 0, locals := 96 }
set_option maxRecDepth 100000 in
set_option maxHeartbeats 4000000 in
theorem mX10_save {l : Launch} {E : xE} (hE : E.sh = shX) (p1 : Int32) (σ : xSt) (o1 : Int32) (o2 : xSt) (hf : fX10_save p1 σ = some (o1, o2)) : xMi l yX10_save wsX10_save rmX10_save E [.ref (E.a 2), .ref (E.a 1), .int p1] σ o1 o2 := by
  unfold fX10_save at hf
  refine xMi_of (cc := cX10_save) (maxL := 3) (ret := (some .int)) (by decide) rfl (Nat.le_of_ble_eq_true rfl) ?_
  intro p e s m args below meth c A ls ⟨hx, hb, hr, hml, hown, hts, hlk⟩ hA hG hw hl
  have hown : s.vm.findClass RX10 = some m.cls := hown
  have hl : lv_has ls 3 [(0, .ref (E.a 2)), (1, .ref (E.a 1)), (2, .int p1)] := hl
  have hk9 := hts (.fieldLink RX10 9 "OvenRound$Store" "grams" "[I") (by decide +kernel)
  have hiX10 : ∀ w ∈ wsX100, w ∈ wsX10_save := by decide +kernel
  have hk21 := hts (.fieldLink RX10 21 "OvenRound$Store" "cameIn" "I") (by decide +kernel)
  have hk25 := hts (.fieldLink RX10 25 "OvenRound$Store" "sold" "I") (by decide +kernel)
  have hk28 := hts (.fieldLink RX10 28 "OvenRound$Store" "thrown" "I") (by decide +kernel)
  refine lv_aload_n hx hb dX10_save_0 rfl (lv_at hl 0 rfl) ?_
  refine x_getr hx hb hw (cX2 hE) (own := RX10) (ref := RX10) (C := RX10) (T := TX10) (N := 4) hts hiX10 hown rfl 0 (by decide) hk9 (fun _ h9 => h9) rfl dX10_save_1 ?_
  refine lv_iconst (v := 0) hx hb dX10_save_4 (by decide) ?_
  refine lv_aload_n hx hb dX10_save_5 rfl (lv_at hl 1 rfl) ?_
  refine lv_iload_n hx hb dX10_save_6 rfl (lv_at hl 2 rfl) ?_
  refine lv_bipush (v := 8) hx hb dX10_save_7 (by decide) ?_
  obtain ⟨hin, hf⟩ := xcpy_f hf
  refine x_copy hx hb (hml.trans hl.1.symm) hw hown (hts (.methodLink RX10 15 arraycopyName) (by decide +kernel)) (hts (.native arraycopyName) (by decide +kernel)) (hts (.static arraycopyName) (by decide +kernel)) (hts (.initialized "java/lang/System") (by decide +kernel)) (cX3 hE) (cX1 hE) hin (Nat.le_of_ble_eq_true rfl) (Nat.le_of_ble_eq_true rfl) dX10_save_9 (fun σ1 H locs ex hw => ?_)
  replace hf := hf σ1 ex
  clear ex hin
  refine lv_aload_n hx hb dX10_save_12 rfl (lv_at hl 1 rfl) ?_
  refine lv_iload_n hx hb dX10_save_13 rfl (lv_at hl 2 rfl) ?_
  refine lv_bipush (v := 8) hx hb dX10_save_14 (by decide) ?_
  refine lv_iadd hx hb dX10_save_16 ?_
  refine lv_aload_n hx hb dX10_save_17 rfl (lv_at hl 0 rfl) ?_
  refine x_geti hx hb hw (cX2 hE) (own := RX10) (ref := RX10) (C := RX10) (T := TX10) (N := 4) hts hiX10 hown rfl 1 (by decide) hk21 (fun _ h9 => h9) rfl dX10_save_18 ?_
  obtain ⟨hin, hf⟩ := xs_f hf
  refine x_iast hx hb hw (cX1 hE) hin dX10_save_21 (fun σ2 H locs ex hw => ?_)
  replace hf := hf σ2 ex
  clear ex hin
  refine lv_aload_n hx hb dX10_save_22 rfl (lv_at hl 1 rfl) ?_
  refine lv_iload_n hx hb dX10_save_23 rfl (lv_at hl 2 rfl) ?_
  refine lv_bipush (v := 8) hx hb dX10_save_24 (by decide) ?_
  refine lv_iadd hx hb dX10_save_26 ?_
  refine lv_iconst (v := 1) hx hb dX10_save_27 (by decide) ?_
  refine lv_iadd hx hb dX10_save_28 ?_
  refine lv_aload_n hx hb dX10_save_29 rfl (lv_at hl 0 rfl) ?_
  refine x_geti hx hb hw (cX2 hE) (own := RX10) (ref := RX10) (C := RX10) (T := TX10) (N := 4) hts hiX10 hown rfl 2 (by decide) hk25 (fun _ h9 => h9) rfl dX10_save_30 ?_
  obtain ⟨hin, hf⟩ := xs_f hf
  refine x_iast hx hb hw (cX1 hE) hin dX10_save_33 (fun σ3 H locs ex hw => ?_)
  replace hf := hf σ3 ex
  clear ex hin
  refine lv_aload_n hx hb dX10_save_34 rfl (lv_at hl 1 rfl) ?_
  refine lv_iload_n hx hb dX10_save_35 rfl (lv_at hl 2 rfl) ?_
  refine lv_bipush (v := 8) hx hb dX10_save_36 (by decide) ?_
  refine lv_iadd hx hb dX10_save_38 ?_
  refine lv_iconst (v := 2) hx hb dX10_save_39 (by decide) ?_
  refine lv_iadd hx hb dX10_save_40 ?_
  refine lv_aload_n hx hb dX10_save_41 rfl (lv_at hl 0 rfl) ?_
  refine x_geti hx hb hw (cX2 hE) (own := RX10) (ref := RX10) (C := RX10) (T := TX10) (N := 4) hts hiX10 hown rfl 3 (by decide) hk28 (fun _ h9 => h9) rfl dX10_save_42 ?_
  obtain ⟨hin, hf⟩ := xs_f hf
  refine x_iast hx hb hw (cX1 hE) hin dX10_save_45 (fun σ4 H locs ex hw => ?_)
  replace hf := hf σ4 ex
  clear ex hin
  refine lv_iload_n hx hb dX10_save_46 rfl (lv_at hl 2 rfl) ?_
  refine lv_bipush (v := 11) hx hb dX10_save_47 (by decide) ?_
  refine lv_iadd hx hb dX10_save_49 ?_
  exact x_iret hx hb hr hlk hw hf dX10_save_50

def fX10_load (p1 : Int32) (σ : xSt) : Option (Int32 × xSt) := (xcpy σ 1 1560 p1 3 8 0 8 fun σ1 => (xr σ1 1 1560 (p1 + 8) fun v2 => (xp σ1 2 1 v2 fun σ3 => (xr σ3 1 1560 ((p1 + 8) + 1) fun v4 => (xp σ3 2 2 v4 fun σ5 => (xr σ5 1 1560 ((p1 + 8) + 2) fun v6 => (xp σ5 2 3 v6 fun σ7 => some ((p1 + 11), σ7))))))))
abbrev rmX10_load : Room := { frames := 1, cells := 0, slots := 0, locals := 96 }
set_option maxRecDepth 100000 in
set_option maxHeartbeats 4000000 in
theorem mX10_load {l : Launch} {E : xE} (hE : E.sh = shX) (p1 : Int32) (σ : xSt) (o1 : Int32) (o2 : xSt) (hf : fX10_load p1 σ = some (o1, o2)) : xMi l yX10_load wsX10_load rmX10_load E [.ref (E.a 2), .ref (E.a 1), .int p1] σ o1 o2 := by
  unfold fX10_load at hf
  refine xMi_of (cc := cX10_load) (maxL := 3) (ret := (some .int)) (by decide) rfl (Nat.le_of_ble_eq_true rfl) ?_
  intro p e s m args below meth c A ls ⟨hx, hb, hr, hml, hown, hts, hlk⟩ hA hG hw hl
  have hown : s.vm.findClass RX10 = some m.cls := hown
  have hl : lv_has ls 3 [(0, .ref (E.a 2)), (1, .ref (E.a 1)), (2, .int p1)] := hl
  have hk9 := hts (.fieldLink RX10 9 "OvenRound$Store" "grams" "[I") (by decide +kernel)
  have hiX10 : ∀ w ∈ wsX100, w ∈ wsX10_load := by decide +kernel
  have hk21 := hts (.fieldLink RX10 21 "OvenRound$Store" "cameIn" "I") (by decide +kernel)
  have hk25 := hts (.fieldLink RX10 25 "OvenRound$Store" "sold" "I") (by decide +kernel)
  have hk28 := hts (.fieldLink RX10 28 "OvenRound$Store" "thrown" "I") (by decide +kernel)
  refine lv_aload_n hx hb dX10_load_0 rfl (lv_at hl 1 rfl) ?_
  refine lv_iload_n hx hb dX10_load_1 rfl (lv_at hl 2 rfl) ?_
  refine lv_aload_n hx hb dX10_load_2 rfl (lv_at hl 0 rfl) ?_
  refine x_getr hx hb hw (cX2 hE) (own := RX10) (ref := RX10) (C := RX10) (T := TX10) (N := 4) hts hiX10 hown rfl 0 (by decide) hk9 (fun _ h9 => h9) rfl dX10_load_3 ?_
  refine lv_iconst (v := 0) hx hb dX10_load_6 (by decide) ?_
  refine lv_bipush (v := 8) hx hb dX10_load_7 (by decide) ?_
  obtain ⟨hin, hf⟩ := xcpy_f hf
  refine x_copy hx hb (hml.trans hl.1.symm) hw hown (hts (.methodLink RX10 15 arraycopyName) (by decide +kernel)) (hts (.native arraycopyName) (by decide +kernel)) (hts (.static arraycopyName) (by decide +kernel)) (hts (.initialized "java/lang/System") (by decide +kernel)) (cX1 hE) (cX3 hE) hin (Nat.le_of_ble_eq_true rfl) (Nat.le_of_ble_eq_true rfl) dX10_load_9 (fun σ1 H locs ex hw => ?_)
  replace hf := hf σ1 ex
  clear ex hin
  refine lv_aload_n hx hb dX10_load_12 rfl (lv_at hl 0 rfl) ?_
  refine lv_aload_n hx hb dX10_load_13 rfl (lv_at hl 1 rfl) ?_
  refine lv_iload_n hx hb dX10_load_14 rfl (lv_at hl 2 rfl) ?_
  refine lv_bipush (v := 8) hx hb dX10_load_15 (by decide) ?_
  refine lv_iadd hx hb dX10_load_17 ?_
  obtain ⟨hin, hf⟩ := xr_f hf
  refine x_iald hx hb hw (cX1 hE) hin dX10_load_18 ?_
  refine lv_topi (fun v2 ex => ?_)
  replace hf := hf v2 ex
  clear ex hin
  refine x_puti hx hb hw (cX2 hE) (own := RX10) (ref := RX10) (C := RX10) (T := TX10) (N := 4) hts hiX10 tyX10 tyX10_ok nmX10 hown rfl 1 (by decide) hk21 (fun _ h9 => h9) rfl (by decide +kernel) rfl dX10_load_19 (fun σ3 H locs ex hw => ?_)
  replace hf := xp_f hf σ3 ex
  clear ex
  refine lv_aload_n hx hb dX10_load_22 rfl (lv_at hl 0 rfl) ?_
  refine lv_aload_n hx hb dX10_load_23 rfl (lv_at hl 1 rfl) ?_
  refine lv_iload_n hx hb dX10_load_24 rfl (lv_at hl 2 rfl) ?_
  refine lv_bipush (v := 8) hx hb dX10_load_25 (by decide) ?_
  refine lv_iadd hx hb dX10_load_27 ?_
  refine lv_iconst (v := 1) hx hb dX10_load_28 (by decide) ?_
  refine lv_iadd hx hb dX10_load_29 ?_
  obtain ⟨hin, hf⟩ := xr_f hf
  refine x_iald hx hb hw (cX1 hE) hin dX10_load_30 ?_
  refine lv_topi (fun v4 ex => ?_)
  replace hf := hf v4 ex
  clear ex hin
  refine x_puti hx hb hw (cX2 hE) (own := RX10) (ref := RX10) (C := RX10) (T := TX10) (N := 4) hts hiX10 tyX10 tyX10_ok nmX10 hown rfl 2 (by decide) hk25 (fun _ h9 => h9) rfl (by decide +kernel) rfl dX10_load_31 (fun σ5 H locs ex hw => ?_)
  replace hf := xp_f hf σ5 ex
  clear ex
  refine lv_aload_n hx hb dX10_load_34 rfl (lv_at hl 0 rfl) ?_
  refine lv_aload_n hx hb dX10_load_35 rfl (lv_at hl 1 rfl) ?_
  refine lv_iload_n hx hb dX10_load_36 rfl (lv_at hl 2 rfl) ?_
  refine lv_bipush (v := 8) hx hb dX10_load_37 (by decide) ?_
  refine lv_iadd hx hb dX10_load_39 ?_
  refine lv_iconst (v := 2) hx hb dX10_load_40 (by decide) ?_
  refine lv_iadd hx hb dX10_load_41 ?_
  obtain ⟨hin, hf⟩ := xr_f hf
  refine x_iald hx hb hw (cX1 hE) hin dX10_load_42 ?_
  refine lv_topi (fun v6 ex => ?_)
  replace hf := hf v6 ex
  clear ex hin
  refine x_puti hx hb hw (cX2 hE) (own := RX10) (ref := RX10) (C := RX10) (T := TX10) (N := 4) hts hiX10 tyX10 tyX10_ok nmX10 hown rfl 3 (by decide) hk28 (fun _ h9 => h9) rfl (by decide +kernel) rfl dX10_load_43 (fun σ7 H locs ex hw => ?_)
  replace hf := xp_f hf σ7 ex
  clear ex
  refine lv_iload_n hx hb dX10_load_46 rfl (lv_at hl 2 rfl) ?_
  refine lv_bipush (v := 11) hx hb dX10_load_47 (by decide) ?_
  refine lv_iadd hx hb dX10_load_49 ?_
  exact x_iret hx hb hr hlk hw hf dX10_load_50

def fX11_needGood (p0 : Int32) (σ : xSt) : Option (xO × xSt) := (xc2 (fX11_isWithin p0 0 7 σ) fun r1 σ2 => (xct (fX11_needIndex r1 σ2) fun r3 σ4 => some ((.inl 0 : xO), σ4)))
abbrev rmX11_needGood : Room := { frames := 7, cells := 1, slots := 6, locals := 110 }
set_option maxRecDepth 100000 in
set_option maxHeartbeats 4000000 in
theorem mX11_needGood {l : Launch} (hl0 : l.stackTraces = false) {E : xE} (hE : E.sh = shX) (p0 : Int32) (σ : xSt) (o1 : xO) (o2 : xSt) (hf : fX11_needGood p0 σ = some (o1, o2)) : xMtv l yX11_needGood wsX11_needGood rmX11_needGood E [.int p0] σ o1 o2 1 := by
  unfold fX11_needGood at hf
  refine xMtv_of (cc := cX11_needGood) (maxL := 1) (ret := none) (by decide) rfl (Nat.le_of_ble_eq_true rfl) ?_
  intro p e s m args below meth c A ls ⟨hx, hb, hr, hml, hown, hts, hlk⟩ hA hG hw hl hex
  have hown : s.vm.findClass RX11 = some m.cls := hown
  have hl : lv_has ls 1 [(0, .int p0)] := hl
  refine lv_iload_n hx hb dX11_needGood_0 rfl (lv_at hl 0 rfl) ?_
  refine lv_iconst (v := 0) hx hb dX11_needGood_1 (by decide) ?_
  refine lv_bipush (v := 7) hx hb dX11_needGood_2 (by decide) ?_
  obtain ⟨r1, σ2, hcl, hf⟩ := xc2_f hf
  refine x_calli (va_runS (As := [.int p0, .int 0, .int 7]) (rest := []) ⟨hx, hb, hml, hown, hts⟩ (mX11_isWithin hE p0 0 7 σ r1 σ2 hcl s.heap.size) (va_cwS 3 hts gX11_needGood_X11_isWithin rfl rfl rfl (by decide +kernel) ⟨Nat.le_of_ble_eq_true rfl, Nat.le_of_ble_eq_true rfl⟩) (x_preS _ hw hA hG) rfl rfl hl.1 rfl (lv_room (Nat.le_of_ble_eq_true rfl)) dX11_needGood_4 ⟨Nat.le_of_ble_eq_true rfl, Nat.le_of_ble_eq_true rfl⟩) hw hA (fun H locs hw => ?_)
  clear hcl
  rcases xct_e hf with ⟨k7, σ4, hcl, hf⟩ | ⟨r3, σ4, hcl, hf⟩
  · refine x_tcallv (vx_runS (As := [.int r1]) (rest := []) ⟨hx, hb, hml, hown, hts⟩ (mX11_needIndex hl0 r1 σ2 (.inr k7) σ4 hcl H.size) (va_cwS 1 hts gX11_needGood_X11_needIndex rfl rfl rfl (by decide +kernel) ⟨Nat.le_of_ble_eq_true rfl, Nat.le_of_ble_eq_true rfl⟩) (x_preS _ hw hA hG) rfl rfl hl.1 rfl (lv_room (Nat.le_of_ble_eq_true rfl)) dX11_needGood_7 ⟨Nat.le_of_ble_eq_true rfl, Nat.le_of_ble_eq_true rfl⟩) hw hA (fun q9 ce H locs h1 h2 h3 hw => ?_) (fun H locs h1 hw => nomatch h1)
    exact x_tout hlk hex h1 h2 h3 hw hf (Nat.le_of_ble_eq_true rfl) (Nat.le_of_ble_eq_true rfl)
  refine x_tcallv (vx_runS (As := [.int r1]) (rest := []) ⟨hx, hb, hml, hown, hts⟩ (mX11_needIndex hl0 r1 σ2 (.inl r3) σ4 hcl H.size) (va_cwS 1 hts gX11_needGood_X11_needIndex rfl rfl rfl (by decide +kernel) ⟨Nat.le_of_ble_eq_true rfl, Nat.le_of_ble_eq_true rfl⟩) (x_preS _ hw hA hG) rfl rfl hl.1 rfl (lv_room (Nat.le_of_ble_eq_true rfl)) dX11_needGood_7 ⟨Nat.le_of_ble_eq_true rfl, Nat.le_of_ble_eq_true rfl⟩) hw hA (fun q9 ce H locs h1 h2 h3 hw => by obtain ⟨_, h9, _⟩ := h3; cases h9) (fun H locs h1 hw => ?_)
  clear hcl h1
  exact x_tvret hx hb hr hlk hw hf (Nat.le_of_ble_eq_true rfl) (Nat.le_of_ble_eq_true rfl) dX11_needGood_10

def fX11_remember_c52 (a1 : Int32) (σ : xSt) : Option xSt := (xc2 (fX10_save a1 σ) fun r4 σ5 => (xc2 (fX8_save r4 σ5) fun r6 σ7 => (xc2 (fX2_save r6 σ7) fun r8 σ9 => (xc2 (fX5_save r8 σ9) fun r10 σ11 => (xc2 (fX0_save r10 σ11) fun r12 σ13 => (xc2 (fX3_save r12 σ13) fun r14 σ15 => (xc2 (fX4_save r14 σ15) fun r16 σ17 => (xc2 (fX1_save r16 σ17) fun r18 σ19 => some σ19))))))))
def fX11_remember (σ : xSt) : Option xSt := (xl ((((σ 0 12) + (σ 0 13)) - ((σ 0 12) + (σ 0 13)) / 8 * 8) * 195) fun v1 => (if 8 ≤ (σ 0 13) then (xp σ 0 12 (((σ 0 12) + 1) - ((σ 0 12) + 1) / 8 * 8) fun σ2 => fX11_remember_c52 v1 σ2) else (xp σ 0 13 ((σ 0 13) + 1) fun σ3 => fX11_remember_c52 v1 σ3)))
abbrev rmX11_remember : Room := { frames := 2, cells := 0, slots := 0, locals := 118 }
set_option maxRecDepth 100000 in
set_option maxHeartbeats 4000000 in
theorem mX11_remember {l : Launch} {E : xE} (hE : E.sh = shX) (σ : xSt) (o1 : xSt) (hf : fX11_remember σ = some o1) : xMv l yX11_remember wsX11_remember rmX11_remember E [.ref (E.a 0)] σ o1 := by
  unfold fX11_remember at hf
  refine xMv_of (cc := cX11_remember) (maxL := 2) (ret := none) (by decide) rfl (Nat.le_of_ble_eq_true rfl) ?_
  intro p e s m args below meth c A ls ⟨hx, hb, hr, hml, hown, hts, hlk⟩ hA hG hw hl
  have hown : s.vm.findClass RX11 = some m.cls := hown
  have hl : lv_has ls 2 [(0, .ref (E.a 0))] := hl
  have hk384 := hts (.fieldLink RX11 384 "OvenRound" "oldest" "I") (by decide +kernel)
  have hiX11 : ∀ w ∈ wsX110, w ∈ wsX11_remember := by decide +kernel
  have hk381 := hts (.fieldLink RX11 381 "OvenRound" "acts" "I") (by decide +kernel)
  have hk24 := hts (.fieldLink RX11 24 "OvenRound" "store" "LOvenRound$Store;") (by decide +kernel)
  have hk90 := hts (.fieldLink RX11 90 "OvenRound" "past" "[I") (by decide +kernel)
  have hk31 := hts (.fieldLink RX11 31 "OvenRound" "recipes" "LOvenRound$Recipes;") (by decide +kernel)
  have hk36 := hts (.fieldLink RX11 36 "OvenRound" "doughs" "LOvenRound$Doughs;") (by decide +kernel)
  have hk41 := hts (.fieldLink RX11 41 "OvenRound" "oven" "LOvenRound$Oven;") (by decide +kernel)
  have hk55 := hts (.fieldLink RX11 55 "OvenRound" "breads" "LOvenRound$Breads;") (by decide +kernel)
  have hk60 := hts (.fieldLink RX11 60 "OvenRound" "flours" "LOvenRound$Flours;") (by decide +kernel)
  have hk65 := hts (.fieldLink RX11 65 "OvenRound" "notes" "LOvenRound$Notes;") (by decide +kernel)
  have hk70 := hts (.fieldLink RX11 70 "OvenRound" "cart" "LOvenRound$Cart;") (by decide +kernel)
  have h52 : ∀ (a1 : Int32) (σ : xSt) (H : Heap) (locs : List Loc) (ls : Array Slot), xw E A s.heap s σ H locs → lv_has ls 2 [(0, .ref (E.a 0)), (1, .int a1)] → fX11_remember_c52 a1 σ = some o1 → W p l e rmX11_remember s m args below meth c H locs 0 0 (MQ below (xQv E A o1) args s 0 0 A) (F0 m 52 ls []) := by
    intro a1 σ H locs ls hw hl hf
    unfold fX11_remember_c52 at hf
    refine lv_aload_n hx hb dX11_remember_52 rfl (lv_at hl 0 rfl) ?_
    refine x_getr hx hb hw (cX0 hE) (own := RX11) (ref := RX11) (C := RX11) (T := TX11) (N := 14) hts hiX11 hown rfl 0 (by decide) hk24 (fun _ h9 => h9) rfl dX11_remember_53 ?_
    refine lv_aload_n hx hb dX11_remember_56 rfl (lv_at hl 0 rfl) ?_
    refine x_getr hx hb hw (cX0 hE) (own := RX11) (ref := RX11) (C := RX11) (T := TX11) (N := 14) hts hiX11 hown rfl 11 (by decide) hk90 (fun _ h9 => h9) rfl dX11_remember_57 ?_
    refine lv_iload_n hx hb dX11_remember_60 rfl (lv_at hl 1 rfl) ?_
    obtain ⟨r4, σ5, hcl, hf⟩ := xc2_f hf
    refine x_calli (va_runV (As := [.ref (E.a 1), .int a1]) (rest := []) ⟨hx, hb, hml, hown, hts⟩ (mX10_save hE a1 σ r4 σ5 hcl H.size) (cwV 2 hts gX11_remember_X10_save rfl rfl rfl (by decide +kernel) ⟨Nat.le_of_ble_eq_true rfl, Nat.le_of_ble_eq_true rfl⟩) (x_preV _ hw hA hG (cX2 hE) rfl) rfl rfl hl.1 rfl (lv_room (Nat.le_of_ble_eq_true rfl)) dX11_remember_61 ⟨Nat.le_of_ble_eq_true rfl, Nat.le_of_ble_eq_true rfl⟩) hw hA (fun H locs hw => ?_)
    clear hcl
    refine lv_istore_n (lv' := [(1, .int r4), (0, .ref (E.a 0))]) hx hb dX11_remember_64 rfl hl (by decide) rfl (fun ls hl => ?_)
    refine lv_aload_n hx hb dX11_remember_65 rfl (lv_at hl 1 rfl) ?_
    refine x_getr hx hb hw (cX0 hE) (own := RX11) (ref := RX11) (C := RX11) (T := TX11) (N := 14) hts hiX11 hown rfl 1 (by decide) hk31 (fun _ h9 => h9) rfl dX11_remember_66 ?_
    refine lv_aload_n hx hb dX11_remember_69 rfl (lv_at hl 1 rfl) ?_
    refine x_getr hx hb hw (cX0 hE) (own := RX11) (ref := RX11) (C := RX11) (T := TX11) (N := 14) hts hiX11 hown rfl 11 (by decide) hk90 (fun _ h9 => h9) rfl dX11_remember_70 ?_
    refine lv_iload_n hx hb dX11_remember_73 rfl (lv_at hl 0 rfl) ?_
    obtain ⟨r6, σ7, hcl, hf⟩ := xc2_f hf
    refine x_calli (va_runV (As := [.ref (E.a 1), .int r4]) (rest := []) ⟨hx, hb, hml, hown, hts⟩ (mX8_save hE r4 σ5 r6 σ7 hcl H.size) (cwV 2 hts gX11_remember_X8_save rfl rfl rfl (by decide +kernel) ⟨Nat.le_of_ble_eq_true rfl, Nat.le_of_ble_eq_true rfl⟩) (x_preV _ hw hA hG (cX4 hE) rfl) rfl rfl hl.1 rfl (lv_room (Nat.le_of_ble_eq_true rfl)) dX11_remember_74 ⟨Nat.le_of_ble_eq_true rfl, Nat.le_of_ble_eq_true rfl⟩) hw hA (fun H locs hw => ?_)
    clear hcl
    refine lv_istore_n (lv' := [(1, .int r6), (0, .ref (E.a 0))]) hx hb dX11_remember_77 rfl hl (by decide) rfl (fun ls hl => ?_)
    refine lv_aload_n hx hb dX11_remember_78 rfl (lv_at hl 1 rfl) ?_
    refine x_getr hx hb hw (cX0 hE) (own := RX11) (ref := RX11) (C := RX11) (T := TX11) (N := 14) hts hiX11 hown rfl 2 (by decide) hk36 (fun _ h9 => h9) rfl dX11_remember_79 ?_
    refine lv_aload_n hx hb dX11_remember_82 rfl (lv_at hl 1 rfl) ?_
    refine x_getr hx hb hw (cX0 hE) (own := RX11) (ref := RX11) (C := RX11) (T := TX11) (N := 14) hts hiX11 hown rfl 11 (by decide) hk90 (fun _ h9 => h9) rfl dX11_remember_83 ?_
    refine lv_iload_n hx hb dX11_remember_86 rfl (lv_at hl 0 rfl) ?_
    obtain ⟨r8, σ9, hcl, hf⟩ := xc2_f hf
    refine x_calli (va_runV (As := [.ref (E.a 1), .int r6]) (rest := []) ⟨hx, hb, hml, hown, hts⟩ (mX2_save hE r6 σ7 r8 σ9 hcl H.size) (cwV 2 hts gX11_remember_X2_save rfl rfl rfl (by decide +kernel) ⟨Nat.le_of_ble_eq_true rfl, Nat.le_of_ble_eq_true rfl⟩) (x_preV _ hw hA hG (cX12 hE) rfl) rfl rfl hl.1 rfl (lv_room (Nat.le_of_ble_eq_true rfl)) dX11_remember_87 ⟨Nat.le_of_ble_eq_true rfl, Nat.le_of_ble_eq_true rfl⟩) hw hA (fun H locs hw => ?_)
    clear hcl
    refine lv_istore_n (lv' := [(1, .int r8), (0, .ref (E.a 0))]) hx hb dX11_remember_90 rfl hl (by decide) rfl (fun ls hl => ?_)
    refine lv_aload_n hx hb dX11_remember_91 rfl (lv_at hl 1 rfl) ?_
    refine x_getr hx hb hw (cX0 hE) (own := RX11) (ref := RX11) (C := RX11) (T := TX11) (N := 14) hts hiX11 hown rfl 3 (by decide) hk41 (fun _ h9 => h9) rfl dX11_remember_92 ?_
    refine lv_aload_n hx hb dX11_remember_95 rfl (lv_at hl 1 rfl) ?_
    refine x_getr hx hb hw (cX0 hE) (own := RX11) (ref := RX11) (C := RX11) (T := TX11) (N := 14) hts hiX11 hown rfl 11 (by decide) hk90 (fun _ h9 => h9) rfl dX11_remember_96 ?_
    refine lv_iload_n hx hb dX11_remember_99 rfl (lv_at hl 0 rfl) ?_
    obtain ⟨r10, σ11, hcl, hf⟩ := xc2_f hf
    refine x_calli (va_runV (As := [.ref (E.a 1), .int r8]) (rest := []) ⟨hx, hb, hml, hown, hts⟩ (mX5_save hE r8 σ9 r10 σ11 hcl H.size) (cwV 2 hts gX11_remember_X5_save rfl rfl rfl (by decide +kernel) ⟨Nat.le_of_ble_eq_true rfl, Nat.le_of_ble_eq_true rfl⟩) (x_preV _ hw hA hG (cX20 hE) rfl) rfl rfl hl.1 rfl (lv_room (Nat.le_of_ble_eq_true rfl)) dX11_remember_100 ⟨Nat.le_of_ble_eq_true rfl, Nat.le_of_ble_eq_true rfl⟩) hw hA (fun H locs hw => ?_)
    clear hcl
    refine lv_istore_n (lv' := [(1, .int r10), (0, .ref (E.a 0))]) hx hb dX11_remember_103 rfl hl (by decide) rfl (fun ls hl => ?_)
    refine lv_aload_n hx hb dX11_remember_104 rfl (lv_at hl 1 rfl) ?_
    refine x_getr hx hb hw (cX0 hE) (own := RX11) (ref := RX11) (C := RX11) (T := TX11) (N := 14) hts hiX11 hown rfl 5 (by decide) hk55 (fun _ h9 => h9) rfl dX11_remember_105 ?_
    refine lv_aload_n hx hb dX11_remember_108 rfl (lv_at hl 1 rfl) ?_
    refine x_getr hx hb hw (cX0 hE) (own := RX11) (ref := RX11) (C := RX11) (T := TX11) (N := 14) hts hiX11 hown rfl 11 (by decide) hk90 (fun _ h9 => h9) rfl dX11_remember_109 ?_
    refine lv_iload_n hx hb dX11_remember_112 rfl (lv_at hl 0 rfl) ?_
    obtain ⟨r12, σ13, hcl, hf⟩ := xc2_f hf
    refine x_calli (va_runV (As := [.ref (E.a 1), .int r10]) (rest := []) ⟨hx, hb, hml, hown, hts⟩ (mX0_save hE r10 σ11 r12 σ13 hcl H.size) (cwV 2 hts gX11_remember_X0_save rfl rfl rfl (by decide +kernel) ⟨Nat.le_of_ble_eq_true rfl, Nat.le_of_ble_eq_true rfl⟩) (x_preV _ hw hA hG (cX27 hE) rfl) rfl rfl hl.1 rfl (lv_room (Nat.le_of_ble_eq_true rfl)) dX11_remember_113 ⟨Nat.le_of_ble_eq_true rfl, Nat.le_of_ble_eq_true rfl⟩) hw hA (fun H locs hw => ?_)
    clear hcl
    refine lv_istore_n (lv' := [(1, .int r12), (0, .ref (E.a 0))]) hx hb dX11_remember_116 rfl hl (by decide) rfl (fun ls hl => ?_)
    refine lv_aload_n hx hb dX11_remember_117 rfl (lv_at hl 1 rfl) ?_
    refine x_getr hx hb hw (cX0 hE) (own := RX11) (ref := RX11) (C := RX11) (T := TX11) (N := 14) hts hiX11 hown rfl 6 (by decide) hk60 (fun _ h9 => h9) rfl dX11_remember_118 ?_
    refine lv_aload_n hx hb dX11_remember_121 rfl (lv_at hl 1 rfl) ?_
    refine x_getr hx hb hw (cX0 hE) (own := RX11) (ref := RX11) (C := RX11) (T := TX11) (N := 14) hts hiX11 hown rfl 11 (by decide) hk90 (fun _ h9 => h9) rfl dX11_remember_122 ?_
    refine lv_iload_n hx hb dX11_remember_125 rfl (lv_at hl 0 rfl) ?_
    obtain ⟨r14, σ15, hcl, hf⟩ := xc2_f hf
    refine x_calli (va_runV (As := [.ref (E.a 1), .int r12]) (rest := []) ⟨hx, hb, hml, hown, hts⟩ (mX3_save hE r12 σ13 r14 σ15 hcl H.size) (cwV 2 hts gX11_remember_X3_save rfl rfl rfl (by decide +kernel) ⟨Nat.le_of_ble_eq_true rfl, Nat.le_of_ble_eq_true rfl⟩) (x_preV _ hw hA hG (cX29 hE) rfl) rfl rfl hl.1 rfl (lv_room (Nat.le_of_ble_eq_true rfl)) dX11_remember_126 ⟨Nat.le_of_ble_eq_true rfl, Nat.le_of_ble_eq_true rfl⟩) hw hA (fun H locs hw => ?_)
    clear hcl
    refine lv_istore_n (lv' := [(1, .int r14), (0, .ref (E.a 0))]) hx hb dX11_remember_129 rfl hl (by decide) rfl (fun ls hl => ?_)
    refine lv_aload_n hx hb dX11_remember_130 rfl (lv_at hl 1 rfl) ?_
    refine x_getr hx hb hw (cX0 hE) (own := RX11) (ref := RX11) (C := RX11) (T := TX11) (N := 14) hts hiX11 hown rfl 7 (by decide) hk65 (fun _ h9 => h9) rfl dX11_remember_131 ?_
    refine lv_aload_n hx hb dX11_remember_134 rfl (lv_at hl 1 rfl) ?_
    refine x_getr hx hb hw (cX0 hE) (own := RX11) (ref := RX11) (C := RX11) (T := TX11) (N := 14) hts hiX11 hown rfl 11 (by decide) hk90 (fun _ h9 => h9) rfl dX11_remember_135 ?_
    refine lv_iload_n hx hb dX11_remember_138 rfl (lv_at hl 0 rfl) ?_
    obtain ⟨r16, σ17, hcl, hf⟩ := xc2_f hf
    refine x_calli (va_runV (As := [.ref (E.a 1), .int r14]) (rest := []) ⟨hx, hb, hml, hown, hts⟩ (mX4_save hE r14 σ15 r16 σ17 hcl H.size) (cwV 2 hts gX11_remember_X4_save rfl rfl rfl (by decide +kernel) ⟨Nat.le_of_ble_eq_true rfl, Nat.le_of_ble_eq_true rfl⟩) (x_preV _ hw hA hG (cX35 hE) rfl) rfl rfl hl.1 rfl (lv_room (Nat.le_of_ble_eq_true rfl)) dX11_remember_139 ⟨Nat.le_of_ble_eq_true rfl, Nat.le_of_ble_eq_true rfl⟩) hw hA (fun H locs hw => ?_)
    clear hcl
    refine lv_istore_n (lv' := [(1, .int r16), (0, .ref (E.a 0))]) hx hb dX11_remember_142 rfl hl (by decide) rfl (fun ls hl => ?_)
    refine lv_aload_n hx hb dX11_remember_143 rfl (lv_at hl 1 rfl) ?_
    refine x_getr hx hb hw (cX0 hE) (own := RX11) (ref := RX11) (C := RX11) (T := TX11) (N := 14) hts hiX11 hown rfl 8 (by decide) hk70 (fun _ h9 => h9) rfl dX11_remember_144 ?_
    refine lv_aload_n hx hb dX11_remember_147 rfl (lv_at hl 1 rfl) ?_
    refine x_getr hx hb hw (cX0 hE) (own := RX11) (ref := RX11) (C := RX11) (T := TX11) (N := 14) hts hiX11 hown rfl 11 (by decide) hk90 (fun _ h9 => h9) rfl dX11_remember_148 ?_
    refine lv_iload_n hx hb dX11_remember_151 rfl (lv_at hl 0 rfl) ?_
    obtain ⟨r18, σ19, hcl, hf⟩ := xc2_f hf
    refine x_calli (va_runV (As := [.ref (E.a 1), .int r16]) (rest := []) ⟨hx, hb, hml, hown, hts⟩ (mX1_save hE r16 σ17 r18 σ19 hcl H.size) (cwV 2 hts gX11_remember_X1_save rfl rfl rfl (by decide +kernel) ⟨Nat.le_of_ble_eq_true rfl, Nat.le_of_ble_eq_true rfl⟩) (x_preV _ hw hA hG (cX38 hE) rfl) rfl rfl hl.1 rfl (lv_room (Nat.le_of_ble_eq_true rfl)) dX11_remember_152 ⟨Nat.le_of_ble_eq_true rfl, Nat.le_of_ble_eq_true rfl⟩) hw hA (fun H locs hw => ?_)
    clear hcl
    refine lv_pop hx hb dX11_remember_155 rfl ?_
    exact x_vret hx hb hr hlk hw hf dX11_remember_156
  refine lv_aload_n hx hb dX11_remember_0 rfl (lv_at hl 0 rfl) ?_
  refine x_geti hx hb hw (cX0 hE) (own := RX11) (ref := RX11) (C := RX11) (T := TX11) (N := 14) hts hiX11 hown rfl 12 (by decide) hk384 (fun _ h9 => h9) rfl dX11_remember_1 ?_
  refine lv_aload_n hx hb dX11_remember_4 rfl (lv_at hl 0 rfl) ?_
  refine x_geti hx hb hw (cX0 hE) (own := RX11) (ref := RX11) (C := RX11) (T := TX11) (N := 14) hts hiX11 hown rfl 13 (by decide) hk381 (fun _ h9 => h9) rfl dX11_remember_5 ?_
  refine lv_iadd hx hb dX11_remember_8 ?_
  refine lv_bipush (v := 8) hx hb dX11_remember_9 (by decide) ?_
  refine lv_irem hx hb dX11_remember_11 (by decide) ?_
  refine lv_sipush (v := 195) hx hb dX11_remember_12 (by decide) ?_
  refine lv_imul hx hb dX11_remember_15 ?_
  refine lv_topi (fun v1 ex => ?_)
  replace hf := xl_f hf v1 ex
  clear ex
  refine lv_istore_n (lv' := [(1, .int v1), (0, .ref (E.a 0))]) hx hb dX11_remember_16 rfl hl (by decide) rfl (fun ls hl => ?_)
  refine lv_aload_n hx hb dX11_remember_17 rfl (lv_at hl 1 rfl) ?_
  refine x_geti hx hb hw (cX0 hE) (own := RX11) (ref := RX11) (C := RX11) (T := TX11) (N := 14) hts hiX11 hown rfl 13 (by decide) hk381 (fun _ h9 => h9) rfl dX11_remember_18 ?_
  refine lv_bipush (v := 8) hx hb dX11_remember_21 (by decide) ?_
  refine lv_icmp_ge (tgt := 39) hx hb dX11_remember_23 (by decide) (fun c23 => ?_) (fun c23 => ?_)
  · replace hf := xif_pos c23 hf
    refine lv_aload_n hx hb dX11_remember_39 rfl (lv_at hl 1 rfl) ?_
    refine lv_aload_n hx hb dX11_remember_40 rfl (lv_at hl 1 rfl) ?_
    refine x_geti hx hb hw (cX0 hE) (own := RX11) (ref := RX11) (C := RX11) (T := TX11) (N := 14) hts hiX11 hown rfl 12 (by decide) hk384 (fun _ h9 => h9) rfl dX11_remember_41 ?_
    refine lv_iconst (v := 1) hx hb dX11_remember_44 (by decide) ?_
    refine lv_iadd hx hb dX11_remember_45 ?_
    refine lv_bipush (v := 8) hx hb dX11_remember_46 (by decide) ?_
    refine lv_irem hx hb dX11_remember_48 (by decide) ?_
    refine x_puti hx hb hw (cX0 hE) (own := RX11) (ref := RX11) (C := RX11) (T := TX11) (N := 14) hts hiX11 tyX11 tyX11_ok nmX11 hown rfl 12 (by decide) hk384 (fun _ h9 => h9) rfl (by decide +kernel) rfl dX11_remember_49 (fun σ2 H locs ex hw => ?_)
    replace hf := xp_f hf σ2 ex
    clear ex
    exact h52 v1 σ2 _ _ _ hw (lv_sub hl [1, 0] rfl) hf
  · replace hf := xif_neg c23 hf
    refine lv_aload_n hx hb dX11_remember_26 rfl (lv_at hl 1 rfl) ?_
    refine lv_dup hx hb dX11_remember_27 rfl ?_
    refine x_geti hx hb hw (cX0 hE) (own := RX11) (ref := RX11) (C := RX11) (T := TX11) (N := 14) hts hiX11 hown rfl 13 (by decide) hk381 (fun _ h9 => h9) rfl dX11_remember_28 ?_
    refine lv_iconst (v := 1) hx hb dX11_remember_31 (by decide) ?_
    refine lv_iadd hx hb dX11_remember_32 ?_
    refine x_puti hx hb hw (cX0 hE) (own := RX11) (ref := RX11) (C := RX11) (T := TX11) (N := 14) hts hiX11 tyX11 tyX11_ok nmX11 hown rfl 13 (by decide) hk381 (fun _ h9 => h9) rfl (by decide +kernel) rfl dX11_remember_33 (fun σ3 H locs ex hw => ?_)
    replace hf := xp_f hf σ3 ex
    clear ex
    refine lv_goto (tgt := 52) hx hb dX11_remember_36 (by decide) ?_
    exact h52 v1 σ3 _ _ _ hw (lv_sub hl [1, 0] rfl) hf

def fX11_receive_c49 (a1 : Int32) (a2 : Int32) (t0 : Int32) (σ : xSt) : Option (xO × xSt) := (xct (fX11_needState t0 σ) fun r8 σ9 => (xc (fX11_remember σ9) fun σ11 => (xr σ11 3 8 a1 fun v12 => (xs σ11 3 8 a1 (v12 + a2) fun σ13 => (xp σ13 2 1 ((σ13 2 1) + a2) fun σ14 => (xr σ14 3 8 a1 fun v15 => some ((.inl v15 : xO), σ14)))))))
def fX11_receive_c25 (a1 : Int32) (a2 : Int32) (t0 : Int32) (σ : xSt) : Option (xO × xSt) := (xct (fX11_needArgument t0 σ) fun r5 σ6 => (xr σ6 3 8 a1 fun v7 => (if 1000000 < (v7 + a2) then fX11_receive_c49 a1 a2 0 σ6 else fX11_receive_c49 a1 a2 1 σ6)))
def fX11_receive_c24 (a1 : Int32) (a2 : Int32) (σ : xSt) : Option (xO × xSt) := fX11_receive_c25 a1 a2 0 σ
def fX11_receive (p0 : Int32) (p1 : Int32) (σ : xSt) : Option (xO × xSt) := (xct (fX11_needGood p0 σ) fun r1 σ2 => (if p0 = 7 then fX11_receive_c24 p0 p1 σ2 else (xc2 (fX11_isWithin p1 1 200000 σ2) fun r3 σ4 => (if r3 = 0 then fX11_receive_c24 p0 p1 σ4 else fX11_receive_c25 p0 p1 1 σ4))))
abbrev rmX11_receive : Room := { frames := 8, cells := 3, slots := 18, locals := 139 }
set_option maxRecDepth 100000 in
set_option maxHeartbeats 4000000 in
theorem mX11_receive {l : Launch} (hl0 : l.stackTraces = false) {E : xE} (hE : E.sh = shX) (p0 : Int32) (p1 : Int32) (σ : xSt) (o1 : xO) (o2 : xSt) (hf : fX11_receive p0 p1 σ = some (o1, o2)) : xMt l yX11_receive wsX11_receive rmX11_receive E [.ref (E.a 0), .int p0, .int p1] σ o1 o2 3 := by
  unfold fX11_receive at hf
  refine xMt_of (cc := cX11_receive) (maxL := 3) (ret := (some .int)) (by decide) rfl (Nat.le_of_ble_eq_true rfl) ?_
  intro p e s m args below meth c A ls ⟨hx, hb, hr, hml, hown, hts, hlk⟩ hA hG hw hl hex
  have hown : s.vm.findClass RX11 = some m.cls := hown
  have hl : lv_has ls 3 [(0, .ref (E.a 0)), (1, .int p0), (2, .int p1)] := hl
  have hk24 := hts (.fieldLink RX11 24 "OvenRound" "store" "LOvenRound$Store;") (by decide +kernel)
  have hiX11 : ∀ w ∈ wsX110, w ∈ wsX11_receive := by decide +kernel
  have hk107 := hts (.fieldLink RX11 107 "OvenRound$Store" "grams" "[I") (by decide +kernel)
  have hiX10 : ∀ w ∈ wsX100, w ∈ wsX11_receive := by decide +kernel
  have hk117 := hts (.fieldLink RX11 117 "OvenRound$Store" "cameIn" "I") (by decide +kernel)
  have h49 : ∀ (a1 : Int32) (a2 : Int32) (t0 : Int32) (σ : xSt) (H : Heap) (locs : List Loc) (ls : Array Slot), xw E A s.heap s σ H locs → lv_has ls 3 [(0, .ref (E.a 0)), (1, .int a1), (2, .int a2)] → fX11_receive_c49 a1 a2 t0 σ = some (o1, o2) → W p l e rmX11_receive s m args below meth c H locs 2 12 (vx_MQ below (xQt E A o1 o2) (xXt E A o1 o2) args s 3 18 A) (F0 m 49 ls [.int t0]) := by
    intro a1 a2 t0 σ H locs ls hw hl hf
    unfold fX11_receive_c49 at hf
    rcases xct_e hf with ⟨k49, σ9, hcl, hf⟩ | ⟨r8, σ9, hcl, hf⟩
    · refine x_tcallv (vx_runS (As := [.int t0]) (rest := []) ⟨hx, hb, hml, hown, hts⟩ (mX11_needState hl0 t0 σ (.inr k49) σ9 hcl H.size) (va_cwS 1 hts gX11_receive_X11_needState rfl rfl rfl (by decide +kernel) ⟨Nat.le_of_ble_eq_true rfl, Nat.le_of_ble_eq_true rfl⟩) (x_preS _ hw hA hG) rfl rfl hl.1 rfl (lv_room (Nat.le_of_ble_eq_true rfl)) dX11_receive_49 ⟨Nat.le_of_ble_eq_true rfl, Nat.le_of_ble_eq_true rfl⟩) hw hA (fun q9 ce H locs h1 h2 h3 hw => ?_) (fun H locs h1 hw => nomatch h1)
      exact x_tout hlk hex h1 h2 h3 hw hf (Nat.le_of_ble_eq_true rfl) (Nat.le_of_ble_eq_true rfl)
    refine x_tcallv (vx_runS (As := [.int t0]) (rest := []) ⟨hx, hb, hml, hown, hts⟩ (mX11_needState hl0 t0 σ (.inl r8) σ9 hcl H.size) (va_cwS 1 hts gX11_receive_X11_needState rfl rfl rfl (by decide +kernel) ⟨Nat.le_of_ble_eq_true rfl, Nat.le_of_ble_eq_true rfl⟩) (x_preS _ hw hA hG) rfl rfl hl.1 rfl (lv_room (Nat.le_of_ble_eq_true rfl)) dX11_receive_49 ⟨Nat.le_of_ble_eq_true rfl, Nat.le_of_ble_eq_true rfl⟩) hw hA (fun q9 ce H locs h1 h2 h3 hw => by obtain ⟨_, h9, _⟩ := h3; cases h9) (fun H locs h1 hw => ?_)
    clear hcl h1
    refine lv_aload_n hx hb dX11_receive_52 rfl (lv_at hl 0 rfl) ?_
    obtain ⟨σ11, hcl, hf⟩ := xc_e hf
    refine x_callv (va_runV (As := []) (rest := []) ⟨hx, hb, hml, hown, hts⟩ (mX11_remember hE σ9 σ11 hcl H.size) (cwV 0 hts gX11_receive_X11_remember rfl rfl rfl (by decide +kernel) ⟨Nat.le_of_ble_eq_true rfl, Nat.le_of_ble_eq_true rfl⟩) (x_preV _ hw hA hG (cX0 hE) rfl) rfl rfl hl.1 rfl (lv_room (Nat.le_of_ble_eq_true rfl)) dX11_receive_53 ⟨Nat.le_of_ble_eq_true rfl, Nat.le_of_ble_eq_true rfl⟩) hw hA (fun H locs hw => ?_)
    clear hcl
    refine lv_aload_n hx hb dX11_receive_56 rfl (lv_at hl 0 rfl) ?_
    refine x_getr hx hb hw (cX0 hE) (own := RX11) (ref := RX11) (C := RX11) (T := TX11) (N := 14) hts hiX11 hown rfl 0 (by decide) hk24 (fun _ h9 => h9) rfl dX11_receive_57 ?_
    refine x_getr hx hb hw (cX2 hE) (own := RX11) (ref := RX10) (C := RX10) (T := TX10) (N := 4) hts hiX10 hown rfl 0 (by decide) hk107 (fun _ h9 => h9) rfl dX11_receive_60 ?_
    refine lv_iload_n hx hb dX11_receive_63 rfl (lv_at hl 1 rfl) ?_
    refine lv_dup2_11 hx hb dX11_receive_64 rfl rfl ?_
    obtain ⟨hin, hf⟩ := xr_f hf
    refine x_iald hx hb hw (cX3 hE) hin dX11_receive_65 ?_
    refine lv_topi (fun v12 ex => ?_)
    replace hf := hf v12 ex
    clear ex hin
    refine lv_iload_n hx hb dX11_receive_66 rfl (lv_at hl 2 rfl) ?_
    refine lv_iadd hx hb dX11_receive_67 ?_
    obtain ⟨hin, hf⟩ := xs_f hf
    refine x_iast hx hb hw (cX3 hE) hin dX11_receive_68 (fun σ13 H locs ex hw => ?_)
    replace hf := hf σ13 ex
    clear ex hin
    refine lv_aload_n hx hb dX11_receive_69 rfl (lv_at hl 0 rfl) ?_
    refine x_getr hx hb hw (cX0 hE) (own := RX11) (ref := RX11) (C := RX11) (T := TX11) (N := 14) hts hiX11 hown rfl 0 (by decide) hk24 (fun _ h9 => h9) rfl dX11_receive_70 ?_
    refine lv_dup hx hb dX11_receive_73 rfl ?_
    refine x_geti hx hb hw (cX2 hE) (own := RX11) (ref := RX10) (C := RX10) (T := TX10) (N := 4) hts hiX10 hown rfl 1 (by decide) hk117 (fun _ h9 => h9) rfl dX11_receive_74 ?_
    refine lv_iload_n hx hb dX11_receive_77 rfl (lv_at hl 2 rfl) ?_
    refine lv_iadd hx hb dX11_receive_78 ?_
    refine x_puti hx hb hw (cX2 hE) (own := RX11) (ref := RX10) (C := RX10) (T := TX10) (N := 4) hts hiX10 tyX10 tyX10_ok nmX10 hown rfl 1 (by decide) hk117 (fun _ h9 => h9) rfl (by decide +kernel) rfl dX11_receive_79 (fun σ14 H locs ex hw => ?_)
    replace hf := xp_f hf σ14 ex
    clear ex
    refine lv_aload_n hx hb dX11_receive_82 rfl (lv_at hl 0 rfl) ?_
    refine x_getr hx hb hw (cX0 hE) (own := RX11) (ref := RX11) (C := RX11) (T := TX11) (N := 14) hts hiX11 hown rfl 0 (by decide) hk24 (fun _ h9 => h9) rfl dX11_receive_83 ?_
    refine x_getr hx hb hw (cX2 hE) (own := RX11) (ref := RX10) (C := RX10) (T := TX10) (N := 4) hts hiX10 hown rfl 0 (by decide) hk107 (fun _ h9 => h9) rfl dX11_receive_86 ?_
    refine lv_iload_n hx hb dX11_receive_89 rfl (lv_at hl 1 rfl) ?_
    obtain ⟨hin, hf⟩ := xr_f hf
    refine x_iald hx hb hw (cX3 hE) hin dX11_receive_90 ?_
    refine lv_topi (fun v15 ex => ?_)
    replace hf := hf v15 ex
    clear ex hin
    exact x_tiret hx hb hr hlk hw hf (Nat.le_of_ble_eq_true rfl) (Nat.le_of_ble_eq_true rfl) dX11_receive_91
  have h25 : ∀ (a1 : Int32) (a2 : Int32) (t0 : Int32) (σ : xSt) (H : Heap) (locs : List Loc) (ls : Array Slot), xw E A s.heap s σ H locs → lv_has ls 3 [(0, .ref (E.a 0)), (1, .int a1), (2, .int a2)] → fX11_receive_c25 a1 a2 t0 σ = some (o1, o2) → W p l e rmX11_receive s m args below meth c H locs 1 6 (vx_MQ below (xQt E A o1 o2) (xXt E A o1 o2) args s 3 18 A) (F0 m 25 ls [.int t0]) := by
    intro a1 a2 t0 σ H locs ls hw hl hf
    unfold fX11_receive_c25 at hf
    rcases xct_e hf with ⟨k25, σ6, hcl, hf⟩ | ⟨r5, σ6, hcl, hf⟩
    · refine x_tcallv (vx_runS (As := [.int t0]) (rest := []) ⟨hx, hb, hml, hown, hts⟩ (mX11_needArgument hl0 t0 σ (.inr k25) σ6 hcl H.size) (va_cwS 1 hts gX11_receive_X11_needArgument rfl rfl rfl (by decide +kernel) ⟨Nat.le_of_ble_eq_true rfl, Nat.le_of_ble_eq_true rfl⟩) (x_preS _ hw hA hG) rfl rfl hl.1 rfl (lv_room (Nat.le_of_ble_eq_true rfl)) dX11_receive_25 ⟨Nat.le_of_ble_eq_true rfl, Nat.le_of_ble_eq_true rfl⟩) hw hA (fun q9 ce H locs h1 h2 h3 hw => ?_) (fun H locs h1 hw => nomatch h1)
      exact x_tout hlk hex h1 h2 h3 hw hf (Nat.le_of_ble_eq_true rfl) (Nat.le_of_ble_eq_true rfl)
    refine x_tcallv (vx_runS (As := [.int t0]) (rest := []) ⟨hx, hb, hml, hown, hts⟩ (mX11_needArgument hl0 t0 σ (.inl r5) σ6 hcl H.size) (va_cwS 1 hts gX11_receive_X11_needArgument rfl rfl rfl (by decide +kernel) ⟨Nat.le_of_ble_eq_true rfl, Nat.le_of_ble_eq_true rfl⟩) (x_preS _ hw hA hG) rfl rfl hl.1 rfl (lv_room (Nat.le_of_ble_eq_true rfl)) dX11_receive_25 ⟨Nat.le_of_ble_eq_true rfl, Nat.le_of_ble_eq_true rfl⟩) hw hA (fun q9 ce H locs h1 h2 h3 hw => by obtain ⟨_, h9, _⟩ := h3; cases h9) (fun H locs h1 hw => ?_)
    clear hcl h1
    refine lv_aload_n hx hb dX11_receive_28 rfl (lv_at hl 0 rfl) ?_
    refine x_getr hx hb hw (cX0 hE) (own := RX11) (ref := RX11) (C := RX11) (T := TX11) (N := 14) hts hiX11 hown rfl 0 (by decide) hk24 (fun _ h9 => h9) rfl dX11_receive_29 ?_
    refine x_getr hx hb hw (cX2 hE) (own := RX11) (ref := RX10) (C := RX10) (T := TX10) (N := 4) hts hiX10 hown rfl 0 (by decide) hk107 (fun _ h9 => h9) rfl dX11_receive_32 ?_
    refine lv_iload_n hx hb dX11_receive_35 rfl (lv_at hl 1 rfl) ?_
    obtain ⟨hin, hf⟩ := xr_f hf
    refine x_iald hx hb hw (cX3 hE) hin dX11_receive_36 ?_
    refine lv_topi (fun v7 ex => ?_)
    replace hf := hf v7 ex
    clear ex hin
    refine lv_iload_n hx hb dX11_receive_37 rfl (lv_at hl 2 rfl) ?_
    refine lv_iadd hx hb dX11_receive_38 ?_
    refine lv_ldc hx hb hown (hts (.constant RX11 110 (1000000)) (by decide +kernel)) dX11_receive_39 ?_
    refine lv_icmp_gt (tgt := 48) hx hb dX11_receive_41 (by decide) (fun c41 => ?_) (fun c41 => ?_)
    · replace hf := xif_pos c41 hf
      refine lv_iconst (v := 0) hx hb dX11_receive_48 (by decide) ?_
      exact h49 a1 a2 0 σ6 _ _ _ hw (lv_sub hl [0, 1, 2] rfl) hf
    · replace hf := xif_neg c41 hf
      refine lv_iconst (v := 1) hx hb dX11_receive_44 (by decide) ?_
      refine lv_goto (tgt := 49) hx hb dX11_receive_45 (by decide) ?_
      exact h49 a1 a2 1 σ6 _ _ _ hw (lv_sub hl [0, 1, 2] rfl) hf
  have h24 : ∀ (a1 : Int32) (a2 : Int32) (σ : xSt) (H : Heap) (locs : List Loc) (ls : Array Slot), xw E A s.heap s σ H locs → lv_has ls 3 [(0, .ref (E.a 0)), (1, .int a1), (2, .int a2)] → fX11_receive_c24 a1 a2 σ = some (o1, o2) → W p l e rmX11_receive s m args below meth c H locs 1 6 (vx_MQ below (xQt E A o1 o2) (xXt E A o1 o2) args s 3 18 A) (F0 m 24 ls []) := by
    intro a1 a2 σ H locs ls hw hl hf
    unfold fX11_receive_c24 at hf
    refine lv_iconst (v := 0) hx hb dX11_receive_24 (by decide) ?_
    exact h25 a1 a2 0 σ _ _ _ hw (lv_sub hl [0, 1, 2] rfl) hf
  refine lv_iload_n hx hb dX11_receive_0 rfl (lv_at hl 1 rfl) ?_
  rcases xct_e hf with ⟨k1, σ2, hcl, hf⟩ | ⟨r1, σ2, hcl, hf⟩
  · refine x_tcallv (vx_runS (As := [.int p0]) (rest := []) ⟨hx, hb, hml, hown, hts⟩ (mX11_needGood hl0 hE p0 σ (.inr k1) σ2 hcl s.heap.size) (va_cwS 1 hts gX11_receive_X11_needGood rfl rfl rfl (by decide +kernel) ⟨Nat.le_of_ble_eq_true rfl, Nat.le_of_ble_eq_true rfl⟩) (x_preS _ hw hA hG) rfl rfl hl.1 rfl (lv_room (Nat.le_of_ble_eq_true rfl)) dX11_receive_1 ⟨Nat.le_of_ble_eq_true rfl, Nat.le_of_ble_eq_true rfl⟩) hw hA (fun q9 ce H locs h1 h2 h3 hw => ?_) (fun H locs h1 hw => nomatch h1)
    exact x_tout hlk hex h1 h2 h3 hw hf (Nat.le_of_ble_eq_true rfl) (Nat.le_of_ble_eq_true rfl)
  refine x_tcallv (vx_runS (As := [.int p0]) (rest := []) ⟨hx, hb, hml, hown, hts⟩ (mX11_needGood hl0 hE p0 σ (.inl r1) σ2 hcl s.heap.size) (va_cwS 1 hts gX11_receive_X11_needGood rfl rfl rfl (by decide +kernel) ⟨Nat.le_of_ble_eq_true rfl, Nat.le_of_ble_eq_true rfl⟩) (x_preS _ hw hA hG) rfl rfl hl.1 rfl (lv_room (Nat.le_of_ble_eq_true rfl)) dX11_receive_1 ⟨Nat.le_of_ble_eq_true rfl, Nat.le_of_ble_eq_true rfl⟩) hw hA (fun q9 ce H locs h1 h2 h3 hw => by obtain ⟨_, h9, _⟩ := h3; cases h9) (fun H locs h1 hw => ?_)
  clear hcl h1
  refine lv_iload_n hx hb dX11_receive_4 rfl (lv_at hl 1 rfl) ?_
  refine lv_bipush (v := 7) hx hb dX11_receive_5 (by decide) ?_
  refine lv_icmp_eq (tgt := 24) hx hb dX11_receive_7 (by decide) (fun c7 => ?_) (fun c7 => ?_)
  · replace hf := xif_pos c7 hf
    exact h24 p0 p1 σ2 _ _ _ hw (lv_sub hl [0, 1, 2] rfl) hf
  · replace hf := xif_neg c7 hf
    refine lv_iload_n hx hb dX11_receive_10 rfl (lv_at hl 2 rfl) ?_
    refine lv_iconst (v := 1) hx hb dX11_receive_11 (by decide) ?_
    refine lv_ldc hx hb hown (hts (.constant RX11 98 (200000)) (by decide +kernel)) dX11_receive_12 ?_
    obtain ⟨r3, σ4, hcl, hf⟩ := xc2_f hf
    refine x_calli (va_runS (As := [.int p1, .int 1, .int 200000]) (rest := []) ⟨hx, hb, hml, hown, hts⟩ (mX11_isWithin hE p1 1 200000 σ2 r3 σ4 hcl H.size) (va_cwS 3 hts gX11_receive_X11_isWithin rfl rfl rfl (by decide +kernel) ⟨Nat.le_of_ble_eq_true rfl, Nat.le_of_ble_eq_true rfl⟩) (x_preS _ hw hA hG) rfl rfl hl.1 rfl (lv_room (Nat.le_of_ble_eq_true rfl)) dX11_receive_14 ⟨Nat.le_of_ble_eq_true rfl, Nat.le_of_ble_eq_true rfl⟩) hw hA (fun H locs hw => ?_)
    clear hcl
    refine lv_if_eq (tgt := 24) hx hb dX11_receive_17 (by decide) (fun c17 => ?_) (fun c17 => ?_)
    · replace hf := xif_pos c17 hf
      exact h24 p0 p1 σ4 _ _ _ hw (lv_sub hl [0, 1, 2] rfl) hf
    · replace hf := xif_neg c17 hf
      refine lv_iconst (v := 1) hx hb dX11_receive_20 (by decide) ?_
      refine lv_goto (tgt := 25) hx hb dX11_receive_21 (by decide) ?_
      exact h25 p0 p1 1 σ4 _ _ _ hw (lv_sub hl [0, 1, 2] rfl) hf

def fX11_store (p0 : Int32) (σ : xSt) : Option (xO × xSt) := (xct (fX11_needGood p0 σ) fun r1 σ2 => (xr σ2 3 8 p0 fun v3 => some ((.inl v3 : xO), σ2)))
abbrev rmX11_store : Room := { frames := 8, cells := 1, slots := 6, locals := 130 }
set_option maxRecDepth 100000 in
set_option maxHeartbeats 4000000 in
theorem mX11_store {l : Launch} (hl0 : l.stackTraces = false) {E : xE} (hE : E.sh = shX) (p0 : Int32) (σ : xSt) (o1 : xO) (o2 : xSt) (hf : fX11_store p0 σ = some (o1, o2)) : xMt l yX11_store wsX11_store rmX11_store E [.ref (E.a 0), .int p0] σ o1 o2 1 := by
  unfold fX11_store at hf
  refine xMt_of (cc := cX11_store) (maxL := 2) (ret := (some .int)) (by decide) rfl (Nat.le_of_ble_eq_true rfl) ?_
  intro p e s m args below meth c A ls ⟨hx, hb, hr, hml, hown, hts, hlk⟩ hA hG hw hl hex
  have hown : s.vm.findClass RX11 = some m.cls := hown
  have hl : lv_has ls 2 [(0, .ref (E.a 0)), (1, .int p0)] := hl
  have hk24 := hts (.fieldLink RX11 24 "OvenRound" "store" "LOvenRound$Store;") (by decide +kernel)
  have hiX11 : ∀ w ∈ wsX110, w ∈ wsX11_store := by decide +kernel
  have hk107 := hts (.fieldLink RX11 107 "OvenRound$Store" "grams" "[I") (by decide +kernel)
  have hiX10 : ∀ w ∈ wsX100, w ∈ wsX11_store := by decide +kernel
  refine lv_iload_n hx hb dX11_store_0 rfl (lv_at hl 1 rfl) ?_
  rcases xct_e hf with ⟨k1, σ2, hcl, hf⟩ | ⟨r1, σ2, hcl, hf⟩
  · refine x_tcallv (vx_runS (As := [.int p0]) (rest := []) ⟨hx, hb, hml, hown, hts⟩ (mX11_needGood hl0 hE p0 σ (.inr k1) σ2 hcl s.heap.size) (va_cwS 1 hts gX11_store_X11_needGood rfl rfl rfl (by decide +kernel) ⟨Nat.le_of_ble_eq_true rfl, Nat.le_of_ble_eq_true rfl⟩) (x_preS _ hw hA hG) rfl rfl hl.1 rfl (lv_room (Nat.le_of_ble_eq_true rfl)) dX11_store_1 ⟨Nat.le_of_ble_eq_true rfl, Nat.le_of_ble_eq_true rfl⟩) hw hA (fun q9 ce H locs h1 h2 h3 hw => ?_) (fun H locs h1 hw => nomatch h1)
    exact x_tout hlk hex h1 h2 h3 hw hf (Nat.le_of_ble_eq_true rfl) (Nat.le_of_ble_eq_true rfl)
  refine x_tcallv (vx_runS (As := [.int p0]) (rest := []) ⟨hx, hb, hml, hown, hts⟩ (mX11_needGood hl0 hE p0 σ (.inl r1) σ2 hcl s.heap.size) (va_cwS 1 hts gX11_store_X11_needGood rfl rfl rfl (by decide +kernel) ⟨Nat.le_of_ble_eq_true rfl, Nat.le_of_ble_eq_true rfl⟩) (x_preS _ hw hA hG) rfl rfl hl.1 rfl (lv_room (Nat.le_of_ble_eq_true rfl)) dX11_store_1 ⟨Nat.le_of_ble_eq_true rfl, Nat.le_of_ble_eq_true rfl⟩) hw hA (fun q9 ce H locs h1 h2 h3 hw => by obtain ⟨_, h9, _⟩ := h3; cases h9) (fun H locs h1 hw => ?_)
  clear hcl h1
  refine lv_aload_n hx hb dX11_store_4 rfl (lv_at hl 0 rfl) ?_
  refine x_getr hx hb hw (cX0 hE) (own := RX11) (ref := RX11) (C := RX11) (T := TX11) (N := 14) hts hiX11 hown rfl 0 (by decide) hk24 (fun _ h9 => h9) rfl dX11_store_5 ?_
  refine x_getr hx hb hw (cX2 hE) (own := RX11) (ref := RX10) (C := RX10) (T := TX10) (N := 4) hts hiX10 hown rfl 0 (by decide) hk107 (fun _ h9 => h9) rfl dX11_store_8 ?_
  refine lv_iload_n hx hb dX11_store_11 rfl (lv_at hl 1 rfl) ?_
  obtain ⟨hin, hf⟩ := xr_f hf
  refine x_iald hx hb hw (cX3 hE) hin dX11_store_12 ?_
  refine lv_topi (fun v3 ex => ?_)
  replace hf := hf v3 ex
  clear ex hin
  exact x_tiret hx hb hr hlk hw hf (Nat.le_of_ble_eq_true rfl) (Nat.le_of_ble_eq_true rfl) dX11_store_13

def fX11_addRecipe_c83 (a1 : Int32) (a2 : Int32) (a3 : Int32) (a4 : Int32) (a5 : Int32) (t0 : Int32) (σ : xSt) : Option (xO × xSt) := (xct (fX11_needState t0 σ) fun r13 σ14 => (xc (fX11_remember σ14) fun σ16 => (xl (σ16 4 7) fun v17 => (xs σ16 5 6 v17 a1 fun σ18 => (xs σ18 6 6 v17 a2 fun σ19 => (xs σ19 7 6 v17 a3 fun σ20 => (xs σ20 8 6 v17 a4 fun σ21 => (xs σ21 9 6 v17 a5 fun σ22 => (xp σ22 4 7 ((σ22 4 7) + 1) fun σ23 => some ((.inl v17 : xO), σ23))))))))))
def fX11_addRecipe_c63 (a1 : Int32) (a2 : Int32) (a3 : Int32) (a4 : Int32) (a5 : Int32) (t0 : Int32) (σ : xSt) : Option (xO × xSt) := (xct (fX11_needArgument t0 σ) fun r11 σ12 => (if 6 ≤ (σ12 4 7) then fX11_addRecipe_c83 a1 a2 a3 a4 a5 0 σ12 else fX11_addRecipe_c83 a1 a2 a3 a4 a5 1 σ12))
def fX11_addRecipe_c62 (a1 : Int32) (a2 : Int32) (a3 : Int32) (a4 : Int32) (a5 : Int32) (σ : xSt) : Option (xO × xSt) := fX11_addRecipe_c63 a1 a2 a3 a4 a5 0 σ
def fX11_addRecipe (p0 : Int32) (p1 : Int32) (p2 : Int32) (p3 : Int32) (p4 : Int32) (σ : xSt) : Option (xO × xSt) := (xc2 (fX11_isWithin p0 50 2000 σ) fun r1 σ2 => (if r1 = 0 then fX11_addRecipe_c62 p0 p1 p2 p3 p4 σ2 else (xc2 (fX11_isWithin p1 1 200 σ2) fun r3 σ4 => (if r3 = 0 then fX11_addRecipe_c62 p0 p1 p2 p3 p4 σ4 else (xc2 (fX11_isWithin p2 p1 200 σ4) fun r5 σ6 => (if r5 = 0 then fX11_addRecipe_c62 p0 p1 p2 p3 p4 σ6 else (xc2 (fX11_isWithin p3 100 300 σ6) fun r7 σ8 => (if r7 = 0 then fX11_addRecipe_c62 p0 p1 p2 p3 p4 σ8 else (xc2 (fX11_isWithin p4 0 15 σ8) fun r9 σ10 => (if r9 = 0 then fX11_addRecipe_c62 p0 p1 p2 p3 p4 σ10 else fX11_addRecipe_c63 p0 p1 p2 p3 p4 1 σ10))))))))))
abbrev rmX11_addRecipe : Room := { frames := 7, cells := 2, slots := 12, locals := 139 }
set_option maxRecDepth 100000 in
set_option maxHeartbeats 4000000 in
theorem mX11_addRecipe {l : Launch} (hl0 : l.stackTraces = false) {E : xE} (hE : E.sh = shX) (p0 : Int32) (p1 : Int32) (p2 : Int32) (p3 : Int32) (p4 : Int32) (σ : xSt) (o1 : xO) (o2 : xSt) (hf : fX11_addRecipe p0 p1 p2 p3 p4 σ = some (o1, o2)) : xMt l yX11_addRecipe wsX11_addRecipe rmX11_addRecipe E [.ref (E.a 0), .int p0, .int p1, .int p2, .int p3, .int p4] σ o1 o2 2 := by
  unfold fX11_addRecipe at hf
  refine xMt_of (cc := cX11_addRecipe) (maxL := 7) (ret := (some .int)) (by decide) rfl (Nat.le_of_ble_eq_true rfl) ?_
  intro p e s m args below meth c A ls ⟨hx, hb, hr, hml, hown, hts, hlk⟩ hA hG hw hl hex
  have hown : s.vm.findClass RX11 = some m.cls := hown
  have hl : lv_has ls 7 [(0, .ref (E.a 0)), (1, .int p0), (2, .int p1), (3, .int p2), (4, .int p3), (5, .int p4)] := hl
  have hk31 := hts (.fieldLink RX11 31 "OvenRound" "recipes" "LOvenRound$Recipes;") (by decide +kernel)
  have hiX11 : ∀ w ∈ wsX110, w ∈ wsX11_addRecipe := by decide +kernel
  have hk121 := hts (.fieldLink RX11 121 "OvenRound$Recipes" "count" "I") (by decide +kernel)
  have hiX8 : ∀ w ∈ wsX80, w ∈ wsX11_addRecipe := by decide +kernel
  have hk124 := hts (.fieldLink RX11 124 "OvenRound$Recipes" "piece" "[I") (by decide +kernel)
  have hk127 := hts (.fieldLink RX11 127 "OvenRound$Recipes" "low" "[I") (by decide +kernel)
  have hk130 := hts (.fieldLink RX11 130 "OvenRound$Recipes" "high" "[I") (by decide +kernel)
  have hk133 := hts (.fieldLink RX11 133 "OvenRound$Recipes" "heat" "[I") (by decide +kernel)
  have hk136 := hts (.fieldLink RX11 136 "OvenRound$Recipes" "allergens" "[I") (by decide +kernel)
  have h83 : ∀ (a1 : Int32) (a2 : Int32) (a3 : Int32) (a4 : Int32) (a5 : Int32) (t0 : Int32) (σ : xSt) (H : Heap) (locs : List Loc) (ls : Array Slot), xw E A s.heap s σ H locs → lv_has ls 7 [(0, .ref (E.a 0)), (1, .int a1), (2, .int a2), (3, .int a3), (4, .int a4), (5, .int a5)] → fX11_addRecipe_c83 a1 a2 a3 a4 a5 t0 σ = some (o1, o2) → W p l e rmX11_addRecipe s m args below meth c H locs 1 6 (vx_MQ below (xQt E A o1 o2) (xXt E A o1 o2) args s 2 12 A) (F0 m 83 ls [.int t0]) := by
    intro a1 a2 a3 a4 a5 t0 σ H locs ls hw hl hf
    unfold fX11_addRecipe_c83 at hf
    rcases xct_e hf with ⟨k83, σ14, hcl, hf⟩ | ⟨r13, σ14, hcl, hf⟩
    · refine x_tcallv (vx_runS (As := [.int t0]) (rest := []) ⟨hx, hb, hml, hown, hts⟩ (mX11_needState hl0 t0 σ (.inr k83) σ14 hcl H.size) (va_cwS 1 hts gX11_addRecipe_X11_needState rfl rfl rfl (by decide +kernel) ⟨Nat.le_of_ble_eq_true rfl, Nat.le_of_ble_eq_true rfl⟩) (x_preS _ hw hA hG) rfl rfl hl.1 rfl (lv_room (Nat.le_of_ble_eq_true rfl)) dX11_addRecipe_83 ⟨Nat.le_of_ble_eq_true rfl, Nat.le_of_ble_eq_true rfl⟩) hw hA (fun q9 ce H locs h1 h2 h3 hw => ?_) (fun H locs h1 hw => nomatch h1)
      exact x_tout hlk hex h1 h2 h3 hw hf (Nat.le_of_ble_eq_true rfl) (Nat.le_of_ble_eq_true rfl)
    refine x_tcallv (vx_runS (As := [.int t0]) (rest := []) ⟨hx, hb, hml, hown, hts⟩ (mX11_needState hl0 t0 σ (.inl r13) σ14 hcl H.size) (va_cwS 1 hts gX11_addRecipe_X11_needState rfl rfl rfl (by decide +kernel) ⟨Nat.le_of_ble_eq_true rfl, Nat.le_of_ble_eq_true rfl⟩) (x_preS _ hw hA hG) rfl rfl hl.1 rfl (lv_room (Nat.le_of_ble_eq_true rfl)) dX11_addRecipe_83 ⟨Nat.le_of_ble_eq_true rfl, Nat.le_of_ble_eq_true rfl⟩) hw hA (fun q9 ce H locs h1 h2 h3 hw => by obtain ⟨_, h9, _⟩ := h3; cases h9) (fun H locs h1 hw => ?_)
    clear hcl h1
    refine lv_aload_n hx hb dX11_addRecipe_86 rfl (lv_at hl 0 rfl) ?_
    obtain ⟨σ16, hcl, hf⟩ := xc_e hf
    refine x_callv (va_runV (As := []) (rest := []) ⟨hx, hb, hml, hown, hts⟩ (mX11_remember hE σ14 σ16 hcl H.size) (cwV 0 hts gX11_addRecipe_X11_remember rfl rfl rfl (by decide +kernel) ⟨Nat.le_of_ble_eq_true rfl, Nat.le_of_ble_eq_true rfl⟩) (x_preV _ hw hA hG (cX0 hE) rfl) rfl rfl hl.1 rfl (lv_room (Nat.le_of_ble_eq_true rfl)) dX11_addRecipe_87 ⟨Nat.le_of_ble_eq_true rfl, Nat.le_of_ble_eq_true rfl⟩) hw hA (fun H locs hw => ?_)
    clear hcl
    refine lv_aload_n hx hb dX11_addRecipe_90 rfl (lv_at hl 0 rfl) ?_
    refine x_getr hx hb hw (cX0 hE) (own := RX11) (ref := RX11) (C := RX11) (T := TX11) (N := 14) hts hiX11 hown rfl 1 (by decide) hk31 (fun _ h9 => h9) rfl dX11_addRecipe_91 ?_
    refine x_geti hx hb hw (cX4 hE) (own := RX11) (ref := RX8) (C := RX8) (T := TX8) (N := 8) hts hiX8 hown rfl 7 (by decide) hk121 (fun _ h9 => h9) rfl dX11_addRecipe_94 ?_
    refine lv_topi (fun v17 ex => ?_)
    replace hf := xl_f hf v17 ex
    clear ex
    refine lv_istore (lv' := [(6, .int v17), (0, .ref (E.a 0)), (1, .int a1), (2, .int a2), (3, .int a3), (4, .int a4), (5, .int a5)]) hx hb dX11_addRecipe_97 hl (by decide) rfl (fun ls hl => ?_)
    refine lv_aload_n hx hb dX11_addRecipe_99 rfl (lv_at hl 1 rfl) ?_
    refine x_getr hx hb hw (cX0 hE) (own := RX11) (ref := RX11) (C := RX11) (T := TX11) (N := 14) hts hiX11 hown rfl 1 (by decide) hk31 (fun _ h9 => h9) rfl dX11_addRecipe_100 ?_
    refine x_getr hx hb hw (cX4 hE) (own := RX11) (ref := RX8) (C := RX8) (T := TX8) (N := 8) hts hiX8 hown rfl 0 (by decide) hk124 (fun _ h9 => h9) rfl dX11_addRecipe_103 ?_
    refine lv_iload hx hb dX11_addRecipe_106 (lv_at hl 0 rfl) ?_
    refine lv_iload_n hx hb dX11_addRecipe_108 rfl (lv_at hl 2 rfl) ?_
    obtain ⟨hin, hf⟩ := xs_f hf
    refine x_iast hx hb hw (cX5 hE) hin dX11_addRecipe_109 (fun σ18 H locs ex hw => ?_)
    replace hf := hf σ18 ex
    clear ex hin
    refine lv_aload_n hx hb dX11_addRecipe_110 rfl (lv_at hl 1 rfl) ?_
    refine x_getr hx hb hw (cX0 hE) (own := RX11) (ref := RX11) (C := RX11) (T := TX11) (N := 14) hts hiX11 hown rfl 1 (by decide) hk31 (fun _ h9 => h9) rfl dX11_addRecipe_111 ?_
    refine x_getr hx hb hw (cX4 hE) (own := RX11) (ref := RX8) (C := RX8) (T := TX8) (N := 8) hts hiX8 hown rfl 1 (by decide) hk127 (fun _ h9 => h9) rfl dX11_addRecipe_114 ?_
    refine lv_iload hx hb dX11_addRecipe_117 (lv_at hl 0 rfl) ?_
    refine lv_iload_n hx hb dX11_addRecipe_119 rfl (lv_at hl 3 rfl) ?_
    obtain ⟨hin, hf⟩ := xs_f hf
    refine x_iast hx hb hw (cX6 hE) hin dX11_addRecipe_120 (fun σ19 H locs ex hw => ?_)
    replace hf := hf σ19 ex
    clear ex hin
    refine lv_aload_n hx hb dX11_addRecipe_121 rfl (lv_at hl 1 rfl) ?_
    refine x_getr hx hb hw (cX0 hE) (own := RX11) (ref := RX11) (C := RX11) (T := TX11) (N := 14) hts hiX11 hown rfl 1 (by decide) hk31 (fun _ h9 => h9) rfl dX11_addRecipe_122 ?_
    refine x_getr hx hb hw (cX4 hE) (own := RX11) (ref := RX8) (C := RX8) (T := TX8) (N := 8) hts hiX8 hown rfl 2 (by decide) hk130 (fun _ h9 => h9) rfl dX11_addRecipe_125 ?_
    refine lv_iload hx hb dX11_addRecipe_128 (lv_at hl 0 rfl) ?_
    refine lv_iload_n hx hb dX11_addRecipe_130 rfl (lv_at hl 4 rfl) ?_
    obtain ⟨hin, hf⟩ := xs_f hf
    refine x_iast hx hb hw (cX7 hE) hin dX11_addRecipe_131 (fun σ20 H locs ex hw => ?_)
    replace hf := hf σ20 ex
    clear ex hin
    refine lv_aload_n hx hb dX11_addRecipe_132 rfl (lv_at hl 1 rfl) ?_
    refine x_getr hx hb hw (cX0 hE) (own := RX11) (ref := RX11) (C := RX11) (T := TX11) (N := 14) hts hiX11 hown rfl 1 (by decide) hk31 (fun _ h9 => h9) rfl dX11_addRecipe_133 ?_
    refine x_getr hx hb hw (cX4 hE) (own := RX11) (ref := RX8) (C := RX8) (T := TX8) (N := 8) hts hiX8 hown rfl 3 (by decide) hk133 (fun _ h9 => h9) rfl dX11_addRecipe_136 ?_
    refine lv_iload hx hb dX11_addRecipe_139 (lv_at hl 0 rfl) ?_
    refine lv_iload hx hb dX11_addRecipe_141 (lv_at hl 5 rfl) ?_
    obtain ⟨hin, hf⟩ := xs_f hf
    refine x_iast hx hb hw (cX8 hE) hin dX11_addRecipe_143 (fun σ21 H locs ex hw => ?_)
    replace hf := hf σ21 ex
    clear ex hin
    refine lv_aload_n hx hb dX11_addRecipe_144 rfl (lv_at hl 1 rfl) ?_
    refine x_getr hx hb hw (cX0 hE) (own := RX11) (ref := RX11) (C := RX11) (T := TX11) (N := 14) hts hiX11 hown rfl 1 (by decide) hk31 (fun _ h9 => h9) rfl dX11_addRecipe_145 ?_
    refine x_getr hx hb hw (cX4 hE) (own := RX11) (ref := RX8) (C := RX8) (T := TX8) (N := 8) hts hiX8 hown rfl 4 (by decide) hk136 (fun _ h9 => h9) rfl dX11_addRecipe_148 ?_
    refine lv_iload hx hb dX11_addRecipe_151 (lv_at hl 0 rfl) ?_
    refine lv_iload hx hb dX11_addRecipe_153 (lv_at hl 6 rfl) ?_
    obtain ⟨hin, hf⟩ := xs_f hf
    refine x_iast hx hb hw (cX9 hE) hin dX11_addRecipe_155 (fun σ22 H locs ex hw => ?_)
    replace hf := hf σ22 ex
    clear ex hin
    refine lv_aload_n hx hb dX11_addRecipe_156 rfl (lv_at hl 1 rfl) ?_
    refine x_getr hx hb hw (cX0 hE) (own := RX11) (ref := RX11) (C := RX11) (T := TX11) (N := 14) hts hiX11 hown rfl 1 (by decide) hk31 (fun _ h9 => h9) rfl dX11_addRecipe_157 ?_
    refine lv_dup hx hb dX11_addRecipe_160 rfl ?_
    refine x_geti hx hb hw (cX4 hE) (own := RX11) (ref := RX8) (C := RX8) (T := TX8) (N := 8) hts hiX8 hown rfl 7 (by decide) hk121 (fun _ h9 => h9) rfl dX11_addRecipe_161 ?_
    refine lv_iconst (v := 1) hx hb dX11_addRecipe_164 (by decide) ?_
    refine lv_iadd hx hb dX11_addRecipe_165 ?_
    refine x_puti hx hb hw (cX4 hE) (own := RX11) (ref := RX8) (C := RX8) (T := TX8) (N := 8) hts hiX8 tyX8 tyX8_ok nmX8 hown rfl 7 (by decide) hk121 (fun _ h9 => h9) rfl (by decide +kernel) rfl dX11_addRecipe_166 (fun σ23 H locs ex hw => ?_)
    replace hf := xp_f hf σ23 ex
    clear ex
    refine lv_iload hx hb dX11_addRecipe_169 (lv_at hl 0 rfl) ?_
    exact x_tiret hx hb hr hlk hw hf (Nat.le_of_ble_eq_true rfl) (Nat.le_of_ble_eq_true rfl) dX11_addRecipe_171
  have h63 : ∀ (a1 : Int32) (a2 : Int32) (a3 : Int32) (a4 : Int32) (a5 : Int32) (t0 : Int32) (σ : xSt) (H : Heap) (locs : List Loc) (ls : Array Slot), xw E A s.heap s σ H locs → lv_has ls 7 [(0, .ref (E.a 0)), (1, .int a1), (2, .int a2), (3, .int a3), (4, .int a4), (5, .int a5)] → fX11_addRecipe_c63 a1 a2 a3 a4 a5 t0 σ = some (o1, o2) → W p l e rmX11_addRecipe s m args below meth c H locs 0 0 (vx_MQ below (xQt E A o1 o2) (xXt E A o1 o2) args s 2 12 A) (F0 m 63 ls [.int t0]) := by
    intro a1 a2 a3 a4 a5 t0 σ H locs ls hw hl hf
    unfold fX11_addRecipe_c63 at hf
    rcases xct_e hf with ⟨k63, σ12, hcl, hf⟩ | ⟨r11, σ12, hcl, hf⟩
    · refine x_tcallv (vx_runS (As := [.int t0]) (rest := []) ⟨hx, hb, hml, hown, hts⟩ (mX11_needArgument hl0 t0 σ (.inr k63) σ12 hcl H.size) (va_cwS 1 hts gX11_addRecipe_X11_needArgument rfl rfl rfl (by decide +kernel) ⟨Nat.le_of_ble_eq_true rfl, Nat.le_of_ble_eq_true rfl⟩) (x_preS _ hw hA hG) rfl rfl hl.1 rfl (lv_room (Nat.le_of_ble_eq_true rfl)) dX11_addRecipe_63 ⟨Nat.le_of_ble_eq_true rfl, Nat.le_of_ble_eq_true rfl⟩) hw hA (fun q9 ce H locs h1 h2 h3 hw => ?_) (fun H locs h1 hw => nomatch h1)
      exact x_tout hlk hex h1 h2 h3 hw hf (Nat.le_of_ble_eq_true rfl) (Nat.le_of_ble_eq_true rfl)
    refine x_tcallv (vx_runS (As := [.int t0]) (rest := []) ⟨hx, hb, hml, hown, hts⟩ (mX11_needArgument hl0 t0 σ (.inl r11) σ12 hcl H.size) (va_cwS 1 hts gX11_addRecipe_X11_needArgument rfl rfl rfl (by decide +kernel) ⟨Nat.le_of_ble_eq_true rfl, Nat.le_of_ble_eq_true rfl⟩) (x_preS _ hw hA hG) rfl rfl hl.1 rfl (lv_room (Nat.le_of_ble_eq_true rfl)) dX11_addRecipe_63 ⟨Nat.le_of_ble_eq_true rfl, Nat.le_of_ble_eq_true rfl⟩) hw hA (fun q9 ce H locs h1 h2 h3 hw => by obtain ⟨_, h9, _⟩ := h3; cases h9) (fun H locs h1 hw => ?_)
    clear hcl h1
    refine lv_aload_n hx hb dX11_addRecipe_66 rfl (lv_at hl 0 rfl) ?_
    refine x_getr hx hb hw (cX0 hE) (own := RX11) (ref := RX11) (C := RX11) (T := TX11) (N := 14) hts hiX11 hown rfl 1 (by decide) hk31 (fun _ h9 => h9) rfl dX11_addRecipe_67 ?_
    refine x_geti hx hb hw (cX4 hE) (own := RX11) (ref := RX8) (C := RX8) (T := TX8) (N := 8) hts hiX8 hown rfl 7 (by decide) hk121 (fun _ h9 => h9) rfl dX11_addRecipe_70 ?_
    refine lv_bipush (v := 6) hx hb dX11_addRecipe_73 (by decide) ?_
    refine lv_icmp_ge (tgt := 82) hx hb dX11_addRecipe_75 (by decide) (fun c75 => ?_) (fun c75 => ?_)
    · replace hf := xif_pos c75 hf
      refine lv_iconst (v := 0) hx hb dX11_addRecipe_82 (by decide) ?_
      exact h83 a1 a2 a3 a4 a5 0 σ12 _ _ _ hw (lv_sub hl [0, 1, 2, 3, 4, 5] rfl) hf
    · replace hf := xif_neg c75 hf
      refine lv_iconst (v := 1) hx hb dX11_addRecipe_78 (by decide) ?_
      refine lv_goto (tgt := 83) hx hb dX11_addRecipe_79 (by decide) ?_
      exact h83 a1 a2 a3 a4 a5 1 σ12 _ _ _ hw (lv_sub hl [0, 1, 2, 3, 4, 5] rfl) hf
  have h62 : ∀ (a1 : Int32) (a2 : Int32) (a3 : Int32) (a4 : Int32) (a5 : Int32) (σ : xSt) (H : Heap) (locs : List Loc) (ls : Array Slot), xw E A s.heap s σ H locs → lv_has ls 7 [(0, .ref (E.a 0)), (1, .int a1), (2, .int a2), (3, .int a3), (4, .int a4), (5, .int a5)] → fX11_addRecipe_c62 a1 a2 a3 a4 a5 σ = some (o1, o2) → W p l e rmX11_addRecipe s m args below meth c H locs 0 0 (vx_MQ below (xQt E A o1 o2) (xXt E A o1 o2) args s 2 12 A) (F0 m 62 ls []) := by
    intro a1 a2 a3 a4 a5 σ H locs ls hw hl hf
    unfold fX11_addRecipe_c62 at hf
    refine lv_iconst (v := 0) hx hb dX11_addRecipe_62 (by decide) ?_
    exact h63 a1 a2 a3 a4 a5 0 σ _ _ _ hw (lv_sub hl [0, 1, 2, 3, 4, 5] rfl) hf
  refine lv_iload_n hx hb dX11_addRecipe_0 rfl (lv_at hl 1 rfl) ?_
  refine lv_bipush (v := 50) hx hb dX11_addRecipe_1 (by decide) ?_
  refine lv_sipush (v := 2000) hx hb dX11_addRecipe_3 (by decide) ?_
  obtain ⟨r1, σ2, hcl, hf⟩ := xc2_f hf
  refine x_calli (va_runS (As := [.int p0, .int 50, .int 2000]) (rest := []) ⟨hx, hb, hml, hown, hts⟩ (mX11_isWithin hE p0 50 2000 σ r1 σ2 hcl s.heap.size) (va_cwS 3 hts gX11_addRecipe_X11_isWithin rfl rfl rfl (by decide +kernel) ⟨Nat.le_of_ble_eq_true rfl, Nat.le_of_ble_eq_true rfl⟩) (x_preS _ hw hA hG) rfl rfl hl.1 rfl (lv_room (Nat.le_of_ble_eq_true rfl)) dX11_addRecipe_6 ⟨Nat.le_of_ble_eq_true rfl, Nat.le_of_ble_eq_true rfl⟩) hw hA (fun H locs hw => ?_)
  clear hcl
  refine lv_if_eq (tgt := 62) hx hb dX11_addRecipe_9 (by decide) (fun c9 => ?_) (fun c9 => ?_)
  · replace hf := xif_pos c9 hf
    exact h62 p0 p1 p2 p3 p4 σ2 _ _ _ hw (lv_sub hl [0, 1, 2, 3, 4, 5] rfl) hf
  · replace hf := xif_neg c9 hf
    refine lv_iload_n hx hb dX11_addRecipe_12 rfl (lv_at hl 2 rfl) ?_
    refine lv_iconst (v := 1) hx hb dX11_addRecipe_13 (by decide) ?_
    refine lv_sipush (v := 200) hx hb dX11_addRecipe_14 (by decide) ?_
    obtain ⟨r3, σ4, hcl, hf⟩ := xc2_f hf
    refine x_calli (va_runS (As := [.int p1, .int 1, .int 200]) (rest := []) ⟨hx, hb, hml, hown, hts⟩ (mX11_isWithin hE p1 1 200 σ2 r3 σ4 hcl H.size) (va_cwS 3 hts gX11_addRecipe_X11_isWithin rfl rfl rfl (by decide +kernel) ⟨Nat.le_of_ble_eq_true rfl, Nat.le_of_ble_eq_true rfl⟩) (x_preS _ hw hA hG) rfl rfl hl.1 rfl (lv_room (Nat.le_of_ble_eq_true rfl)) dX11_addRecipe_17 ⟨Nat.le_of_ble_eq_true rfl, Nat.le_of_ble_eq_true rfl⟩) hw hA (fun H locs hw => ?_)
    clear hcl
    refine lv_if_eq (tgt := 62) hx hb dX11_addRecipe_20 (by decide) (fun c20 => ?_) (fun c20 => ?_)
    · replace hf := xif_pos c20 hf
      exact h62 p0 p1 p2 p3 p4 σ4 _ _ _ hw (lv_sub hl [0, 1, 2, 3, 4, 5] rfl) hf
    · replace hf := xif_neg c20 hf
      refine lv_iload_n hx hb dX11_addRecipe_23 rfl (lv_at hl 3 rfl) ?_
      refine lv_iload_n hx hb dX11_addRecipe_24 rfl (lv_at hl 2 rfl) ?_
      refine lv_sipush (v := 200) hx hb dX11_addRecipe_25 (by decide) ?_
      obtain ⟨r5, σ6, hcl, hf⟩ := xc2_f hf
      refine x_calli (va_runS (As := [.int p2, .int p1, .int 200]) (rest := []) ⟨hx, hb, hml, hown, hts⟩ (mX11_isWithin hE p2 p1 200 σ4 r5 σ6 hcl H.size) (va_cwS 3 hts gX11_addRecipe_X11_isWithin rfl rfl rfl (by decide +kernel) ⟨Nat.le_of_ble_eq_true rfl, Nat.le_of_ble_eq_true rfl⟩) (x_preS _ hw hA hG) rfl rfl hl.1 rfl (lv_room (Nat.le_of_ble_eq_true rfl)) dX11_addRecipe_28 ⟨Nat.le_of_ble_eq_true rfl, Nat.le_of_ble_eq_true rfl⟩) hw hA (fun H locs hw => ?_)
      clear hcl
      refine lv_if_eq (tgt := 62) hx hb dX11_addRecipe_31 (by decide) (fun c31 => ?_) (fun c31 => ?_)
      · replace hf := xif_pos c31 hf
        exact h62 p0 p1 p2 p3 p4 σ6 _ _ _ hw (lv_sub hl [0, 1, 2, 3, 4, 5] rfl) hf
      · replace hf := xif_neg c31 hf
        refine lv_iload hx hb dX11_addRecipe_34 (lv_at hl 4 rfl) ?_
        refine lv_bipush (v := 100) hx hb dX11_addRecipe_36 (by decide) ?_
        refine lv_sipush (v := 300) hx hb dX11_addRecipe_38 (by decide) ?_
        obtain ⟨r7, σ8, hcl, hf⟩ := xc2_f hf
        refine x_calli (va_runS (As := [.int p3, .int 100, .int 300]) (rest := []) ⟨hx, hb, hml, hown, hts⟩ (mX11_isWithin hE p3 100 300 σ6 r7 σ8 hcl H.size) (va_cwS 3 hts gX11_addRecipe_X11_isWithin rfl rfl rfl (by decide +kernel) ⟨Nat.le_of_ble_eq_true rfl, Nat.le_of_ble_eq_true rfl⟩) (x_preS _ hw hA hG) rfl rfl hl.1 rfl (lv_room (Nat.le_of_ble_eq_true rfl)) dX11_addRecipe_41 ⟨Nat.le_of_ble_eq_true rfl, Nat.le_of_ble_eq_true rfl⟩) hw hA (fun H locs hw => ?_)
        clear hcl
        refine lv_if_eq (tgt := 62) hx hb dX11_addRecipe_44 (by decide) (fun c44 => ?_) (fun c44 => ?_)
        · replace hf := xif_pos c44 hf
          exact h62 p0 p1 p2 p3 p4 σ8 _ _ _ hw (lv_sub hl [0, 1, 2, 3, 4, 5] rfl) hf
        · replace hf := xif_neg c44 hf
          refine lv_iload hx hb dX11_addRecipe_47 (lv_at hl 5 rfl) ?_
          refine lv_iconst (v := 0) hx hb dX11_addRecipe_49 (by decide) ?_
          refine lv_bipush (v := 15) hx hb dX11_addRecipe_50 (by decide) ?_
          obtain ⟨r9, σ10, hcl, hf⟩ := xc2_f hf
          refine x_calli (va_runS (As := [.int p4, .int 0, .int 15]) (rest := []) ⟨hx, hb, hml, hown, hts⟩ (mX11_isWithin hE p4 0 15 σ8 r9 σ10 hcl H.size) (va_cwS 3 hts gX11_addRecipe_X11_isWithin rfl rfl rfl (by decide +kernel) ⟨Nat.le_of_ble_eq_true rfl, Nat.le_of_ble_eq_true rfl⟩) (x_preS _ hw hA hG) rfl rfl hl.1 rfl (lv_room (Nat.le_of_ble_eq_true rfl)) dX11_addRecipe_52 ⟨Nat.le_of_ble_eq_true rfl, Nat.le_of_ble_eq_true rfl⟩) hw hA (fun H locs hw => ?_)
          clear hcl
          refine lv_if_eq (tgt := 62) hx hb dX11_addRecipe_55 (by decide) (fun c55 => ?_) (fun c55 => ?_)
          · replace hf := xif_pos c55 hf
            exact h62 p0 p1 p2 p3 p4 σ10 _ _ _ hw (lv_sub hl [0, 1, 2, 3, 4, 5] rfl) hf
          · replace hf := xif_neg c55 hf
            refine lv_iconst (v := 1) hx hb dX11_addRecipe_58 (by decide) ?_
            refine lv_goto (tgt := 63) hx hb dX11_addRecipe_59 (by decide) ?_
            exact h63 p0 p1 p2 p3 p4 1 σ10 _ _ _ hw (lv_sub hl [0, 1, 2, 3, 4, 5] rfl) hf

def fX11_needRecipe (p0 : Int32) (σ : xSt) : Option (xO × xSt) := (xc2 (fX11_isWithin p0 0 ((σ 4 7) - 1) σ) fun r1 σ2 => (xct (fX11_needIndex r1 σ2) fun r3 σ4 => some ((.inl 0 : xO), σ4)))
abbrev rmX11_needRecipe : Room := { frames := 7, cells := 1, slots := 6, locals := 110 }
set_option maxRecDepth 100000 in
set_option maxHeartbeats 4000000 in
theorem mX11_needRecipe {l : Launch} (hl0 : l.stackTraces = false) {E : xE} (hE : E.sh = shX) (p0 : Int32) (σ : xSt) (o1 : xO) (o2 : xSt) (hf : fX11_needRecipe p0 σ = some (o1, o2)) : xMtv l yX11_needRecipe wsX11_needRecipe rmX11_needRecipe E [.ref (E.a 0), .int p0] σ o1 o2 1 := by
  unfold fX11_needRecipe at hf
  refine xMtv_of (cc := cX11_needRecipe) (maxL := 2) (ret := none) (by decide) rfl (Nat.le_of_ble_eq_true rfl) ?_
  intro p e s m args below meth c A ls ⟨hx, hb, hr, hml, hown, hts, hlk⟩ hA hG hw hl hex
  have hown : s.vm.findClass RX11 = some m.cls := hown
  have hl : lv_has ls 2 [(0, .ref (E.a 0)), (1, .int p0)] := hl
  have hk31 := hts (.fieldLink RX11 31 "OvenRound" "recipes" "LOvenRound$Recipes;") (by decide +kernel)
  have hiX11 : ∀ w ∈ wsX110, w ∈ wsX11_needRecipe := by decide +kernel
  have hk121 := hts (.fieldLink RX11 121 "OvenRound$Recipes" "count" "I") (by decide +kernel)
  have hiX8 : ∀ w ∈ wsX80, w ∈ wsX11_needRecipe := by decide +kernel
  refine lv_iload_n hx hb dX11_needRecipe_0 rfl (lv_at hl 1 rfl) ?_
  refine lv_iconst (v := 0) hx hb dX11_needRecipe_1 (by decide) ?_
  refine lv_aload_n hx hb dX11_needRecipe_2 rfl (lv_at hl 0 rfl) ?_
  refine x_getr hx hb hw (cX0 hE) (own := RX11) (ref := RX11) (C := RX11) (T := TX11) (N := 14) hts hiX11 hown rfl 1 (by decide) hk31 (fun _ h9 => h9) rfl dX11_needRecipe_3 ?_
  refine x_geti hx hb hw (cX4 hE) (own := RX11) (ref := RX8) (C := RX8) (T := TX8) (N := 8) hts hiX8 hown rfl 7 (by decide) hk121 (fun _ h9 => h9) rfl dX11_needRecipe_6 ?_
  refine lv_iconst (v := 1) hx hb dX11_needRecipe_9 (by decide) ?_
  refine lv_isub hx hb dX11_needRecipe_10 ?_
  obtain ⟨r1, σ2, hcl, hf⟩ := xc2_f hf
  refine x_calli (va_runS (As := [.int p0, .int 0, .int ((σ 4 7) - 1)]) (rest := []) ⟨hx, hb, hml, hown, hts⟩ (mX11_isWithin hE p0 0 ((σ 4 7) - 1) σ r1 σ2 hcl s.heap.size) (va_cwS 3 hts gX11_needRecipe_X11_isWithin rfl rfl rfl (by decide +kernel) ⟨Nat.le_of_ble_eq_true rfl, Nat.le_of_ble_eq_true rfl⟩) (x_preS _ hw hA hG) rfl rfl hl.1 rfl (lv_room (Nat.le_of_ble_eq_true rfl)) dX11_needRecipe_11 ⟨Nat.le_of_ble_eq_true rfl, Nat.le_of_ble_eq_true rfl⟩) hw hA (fun H locs hw => ?_)
  clear hcl
  rcases xct_e hf with ⟨k14, σ4, hcl, hf⟩ | ⟨r3, σ4, hcl, hf⟩
  · refine x_tcallv (vx_runS (As := [.int r1]) (rest := []) ⟨hx, hb, hml, hown, hts⟩ (mX11_needIndex hl0 r1 σ2 (.inr k14) σ4 hcl H.size) (va_cwS 1 hts gX11_needRecipe_X11_needIndex rfl rfl rfl (by decide +kernel) ⟨Nat.le_of_ble_eq_true rfl, Nat.le_of_ble_eq_true rfl⟩) (x_preS _ hw hA hG) rfl rfl hl.1 rfl (lv_room (Nat.le_of_ble_eq_true rfl)) dX11_needRecipe_14 ⟨Nat.le_of_ble_eq_true rfl, Nat.le_of_ble_eq_true rfl⟩) hw hA (fun q9 ce H locs h1 h2 h3 hw => ?_) (fun H locs h1 hw => nomatch h1)
    exact x_tout hlk hex h1 h2 h3 hw hf (Nat.le_of_ble_eq_true rfl) (Nat.le_of_ble_eq_true rfl)
  refine x_tcallv (vx_runS (As := [.int r1]) (rest := []) ⟨hx, hb, hml, hown, hts⟩ (mX11_needIndex hl0 r1 σ2 (.inl r3) σ4 hcl H.size) (va_cwS 1 hts gX11_needRecipe_X11_needIndex rfl rfl rfl (by decide +kernel) ⟨Nat.le_of_ble_eq_true rfl, Nat.le_of_ble_eq_true rfl⟩) (x_preS _ hw hA hG) rfl rfl hl.1 rfl (lv_room (Nat.le_of_ble_eq_true rfl)) dX11_needRecipe_14 ⟨Nat.le_of_ble_eq_true rfl, Nat.le_of_ble_eq_true rfl⟩) hw hA (fun q9 ce H locs h1 h2 h3 hw => by obtain ⟨_, h9, _⟩ := h3; cases h9) (fun H locs h1 hw => ?_)
  clear hcl h1
  exact x_tvret hx hb hr hlk hw hf (Nat.le_of_ble_eq_true rfl) (Nat.le_of_ble_eq_true rfl) dX11_needRecipe_17
