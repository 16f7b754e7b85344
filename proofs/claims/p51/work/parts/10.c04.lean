def fX5_save (p1 : Int32) (σ : xSt) : Option (Int32 × xSt) := (xs σ 1 1560 p1 (σ 20 0) fun σ1 => (xs σ1 1 1560 (p1 + 1) (σ1 20 1) fun σ2 => (xs σ2 1 1560 (p1 + 2) (σ2 20 2) fun σ3 => (xs σ3 1 1560 (p1 + 3) (σ3 20 3) fun σ4 => (xs σ4 1 1560 (p1 + 4) (σ4 20 4) fun σ5 => some ((p1 + 5), σ5))))))
abbrev rmX5_save : Room := { frames := 0, cells := 0, slots := 0, locals := 0 }
set_option maxRecDepth 100000 in
set_option maxHeartbeats 4000000 in
theorem mX5_save {l : Launch} {E : xE} (hE : E.sh = shX) (p1 : Int32) (σ : xSt) (o1 : Int32) (o2 : xSt) (hf : fX5_save p1 σ = some (o1, o2)) : xMi l yX5_save wsX5_save rmX5_save E [.ref (E.a 20), .ref (E.a 1), .int p1] σ o1 o2 := by
  unfold fX5_save at hf
  refine xMi_of (cc := cX5_save) (maxL := 3) (ret := (some .int)) (by decide) rfl (Nat.le_of_ble_eq_true rfl) ?_
  intro p e s m args below meth c A ls ⟨hx, hb, hr, hml, hown, hts, hlk⟩ hA hG hw hl
  have hown : s.vm.findClass RX5 = some m.cls := hown
  have hl : lv_has ls 3 [(0, .ref (E.a 20)), (1, .ref (E.a 1)), (2, .int p1)] := hl
  have hk32 := hts (.fieldLink RX5 32 "OvenRound$Oven" "tick" "I") (by decide +kernel)
  have hiX5 : ∀ w ∈ wsX50, w ∈ wsX5_save := by decide +kernel
  have hk7 := hts (.fieldLink RX5 7 "OvenRound$Oven" "warmth" "I") (by decide +kernel)
  have hk13 := hts (.fieldLink RX5 13 "OvenRound$Oven" "decks" "I") (by decide +kernel)
  have hk16 := hts (.fieldLink RX5 16 "OvenRound$Oven" "heat" "I") (by decide +kernel)
  have hk19 := hts (.fieldLink RX5 19 "OvenRound$Oven" "setHeat" "I") (by decide +kernel)
  refine lv_aload_n hx hb dX5_save_0 rfl (lv_at hl 1 rfl) ?_
  refine lv_iload_n hx hb dX5_save_1 rfl (lv_at hl 2 rfl) ?_
  refine lv_aload_n hx hb dX5_save_2 rfl (lv_at hl 0 rfl) ?_
  refine x_geti hx hb hw (cX20 hE) (own := RX5) (ref := RX5) (C := RX5) (T := TX5) (N := 5) hts hiX5 hown rfl 0 (by decide) hk32 (fun _ h9 => h9) rfl dX5_save_3 ?_
  obtain ⟨hin, hf⟩ := xs_f hf
  refine x_iast hx hb hw (cX1 hE) hin dX5_save_6 (fun σ1 H locs ex hw => ?_)
  replace hf := hf σ1 ex
  clear ex hin
  refine lv_aload_n hx hb dX5_save_7 rfl (lv_at hl 1 rfl) ?_
  refine lv_iload_n hx hb dX5_save_8 rfl (lv_at hl 2 rfl) ?_
  refine lv_iconst (v := 1) hx hb dX5_save_9 (by decide) ?_
  refine lv_iadd hx hb dX5_save_10 ?_
  refine lv_aload_n hx hb dX5_save_11 rfl (lv_at hl 0 rfl) ?_
  refine x_geti hx hb hw (cX20 hE) (own := RX5) (ref := RX5) (C := RX5) (T := TX5) (N := 5) hts hiX5 hown rfl 1 (by decide) hk7 (fun _ h9 => h9) rfl dX5_save_12 ?_
  obtain ⟨hin, hf⟩ := xs_f hf
  refine x_iast hx hb hw (cX1 hE) hin dX5_save_15 (fun σ2 H locs ex hw => ?_)
  replace hf := hf σ2 ex
  clear ex hin
  refine lv_aload_n hx hb dX5_save_16 rfl (lv_at hl 1 rfl) ?_
  refine lv_iload_n hx hb dX5_save_17 rfl (lv_at hl 2 rfl) ?_
  refine lv_iconst (v := 2) hx hb dX5_save_18 (by decide) ?_
  refine lv_iadd hx hb dX5_save_19 ?_
  refine lv_aload_n hx hb dX5_save_20 rfl (lv_at hl 0 rfl) ?_
  refine x_geti hx hb hw (cX20 hE) (own := RX5) (ref := RX5) (C := RX5) (T := TX5) (N := 5) hts hiX5 hown rfl 2 (by decide) hk13 (fun _ h9 => h9) rfl dX5_save_21 ?_
  obtain ⟨hin, hf⟩ := xs_f hf
  refine x_iast hx hb hw (cX1 hE) hin dX5_save_24 (fun σ3 H locs ex hw => ?_)
  replace hf := hf σ3 ex
  clear ex hin
  refine lv_aload_n hx hb dX5_save_25 rfl (lv_at hl 1 rfl) ?_
  refine lv_iload_n hx hb dX5_save_26 rfl (lv_at hl 2 rfl) ?_
  refine lv_iconst (v := 3) hx hb dX5_save_27 (by decide) ?_
  refine lv_iadd hx hb dX5_save_28 ?_
  refine lv_aload_n hx hb dX5_save_29 rfl (lv_at hl 0 rfl) ?_
  refine x_geti hx hb hw (cX20 hE) (own := RX5) (ref := RX5) (C := RX5) (T := TX5) (N := 5) hts hiX5 hown rfl 3 (by decide) hk16 (fun _ h9 => h9) rfl dX5_save_30 ?_
  obtain ⟨hin, hf⟩ := xs_f hf
  refine x_iast hx hb hw (cX1 hE) hin dX5_save_33 (fun σ4 H locs ex hw => ?_)
  replace hf := hf σ4 ex
  clear ex hin
  refine lv_aload_n hx hb dX5_save_34 rfl (lv_at hl 1 rfl) ?_
  refine lv_iload_n hx hb dX5_save_35 rfl (lv_at hl 2 rfl) ?_
  refine lv_iconst (v := 4) hx hb dX5_save_36 (by decide) ?_
  refine lv_iadd hx hb dX5_save_37 ?_
  refine lv_aload_n hx hb dX5_save_38 rfl (lv_at hl 0 rfl) ?_
  refine x_geti hx hb hw (cX20 hE) (own := RX5) (ref := RX5) (C := RX5) (T := TX5) (N := 5) hts hiX5 hown rfl 4 (by decide) hk19 (fun _ h9 => h9) rfl dX5_save_39 ?_
  obtain ⟨hin, hf⟩ := xs_f hf
  refine x_iast hx hb hw (cX1 hE) hin dX5_save_42 (fun σ5 H locs ex hw => ?_)
  replace hf := hf σ5 ex
  clear ex hin
  refine lv_iload_n hx hb dX5_save_43 rfl (lv_at hl 2 rfl) ?_
  refine lv_iconst (v := 5) hx hb dX5_save_44 (by decide) ?_
  refine lv_iadd hx hb dX5_save_45 ?_
  exact x_iret hx hb hr hlk hw hf dX5_save_46

def fX5_load (p1 : Int32) (σ : xSt) : Option (Int32 × xSt) := (xr σ 1 1560 p1 fun v1 => (xp σ 20 0 v1 fun σ2 => (xr σ2 1 1560 (p1 + 1) fun v3 => (xp σ2 20 1 v3 fun σ4 => (xr σ4 1 1560 (p1 + 2) fun v5 => (xp σ4 20 2 v5 fun σ6 => (xr σ6 1 1560 (p1 + 3) fun v7 => (xp σ6 20 3 v7 fun σ8 => (xr σ8 1 1560 (p1 + 4) fun v9 => (xp σ8 20 4 v9 fun σ10 => some ((p1 + 5), σ10)))))))))))
abbrev rmX5_load : Room := { frames := 0, cells := 0, slots := 0, locals := 0 }
set_option maxRecDepth 100000 in
set_option maxHeartbeats 4000000 in
theorem mX5_load {l : Launch} {E : xE} (hE : E.sh = shX) (p1 : Int32) (σ : xSt) (o1 : Int32) (o2 : xSt) (hf : fX5_load p1 σ = some (o1, o2)) : xMi l yX5_load wsX5_load rmX5_load E [.ref (E.a 20), .ref (E.a 1), .int p1] σ o1 o2 := by
  unfold fX5_load at hf
  refine xMi_of (cc := cX5_load) (maxL := 3) (ret := (some .int)) (by decide) rfl (Nat.le_of_ble_eq_true rfl) ?_
  intro p e s m args below meth c A ls ⟨hx, hb, hr, hml, hown, hts, hlk⟩ hA hG hw hl
  have hown : s.vm.findClass RX5 = some m.cls := hown
  have hl : lv_has ls 3 [(0, .ref (E.a 20)), (1, .ref (E.a 1)), (2, .int p1)] := hl
  have hk32 := hts (.fieldLink RX5 32 "OvenRound$Oven" "tick" "I") (by decide +kernel)
  have hiX5 : ∀ w ∈ wsX50, w ∈ wsX5_load := by decide +kernel
  have hk7 := hts (.fieldLink RX5 7 "OvenRound$Oven" "warmth" "I") (by decide +kernel)
  have hk13 := hts (.fieldLink RX5 13 "OvenRound$Oven" "decks" "I") (by decide +kernel)
  have hk16 := hts (.fieldLink RX5 16 "OvenRound$Oven" "heat" "I") (by decide +kernel)
  have hk19 := hts (.fieldLink RX5 19 "OvenRound$Oven" "setHeat" "I") (by decide +kernel)
  refine lv_aload_n hx hb dX5_load_0 rfl (lv_at hl 0 rfl) ?_
  refine lv_aload_n hx hb dX5_load_1 rfl (lv_at hl 1 rfl) ?_
  refine lv_iload_n hx hb dX5_load_2 rfl (lv_at hl 2 rfl) ?_
  obtain ⟨hin, hf⟩ := xr_f hf
  refine x_iald hx hb hw (cX1 hE) hin dX5_load_3 ?_
  refine lv_topi (fun v1 ex => ?_)
  replace hf := hf v1 ex
  clear ex hin
  refine x_puti hx hb hw (cX20 hE) (own := RX5) (ref := RX5) (C := RX5) (T := TX5) (N := 5) hts hiX5 tyX5 tyX5_ok nmX5 hown rfl 0 (by decide) hk32 (fun _ h9 => h9) rfl (by decide +kernel) rfl dX5_load_4 (fun σ2 H locs ex hw => ?_)
  replace hf := xp_f hf σ2 ex
  clear ex
  refine lv_aload_n hx hb dX5_load_7 rfl (lv_at hl 0 rfl) ?_
  refine lv_aload_n hx hb dX5_load_8 rfl (lv_at hl 1 rfl) ?_
  refine lv_iload_n hx hb dX5_load_9 rfl (lv_at hl 2 rfl) ?_
  refine lv_iconst (v := 1) hx hb dX5_load_10 (by decide) ?_
  refine lv_iadd hx hb dX5_load_11 ?_
  obtain ⟨hin, hf⟩ := xr_f hf
  refine x_iald hx hb hw (cX1 hE) hin dX5_load_12 ?_
  refine lv_topi (fun v3 ex => ?_)
  replace hf := hf v3 ex
  clear ex hin
  refine x_puti hx hb hw (cX20 hE) (own := RX5) (ref := RX5) (C := RX5) (T := TX5) (N := 5) hts hiX5 tyX5 tyX5_ok nmX5 hown rfl 1 (by decide) hk7 (fun _ h9 => h9) rfl (by decide +kernel) rfl dX5_load_13 (fun σ4 H locs ex hw => ?_)
  replace hf := xp_f hf σ4 ex
  clear ex
  refine lv_aload_n hx hb dX5_load_16 rfl (lv_at hl 0 rfl) ?_
  refine lv_aload_n hx hb dX5_load_17 rfl (lv_at hl 1 rfl) ?_
  refine lv_iload_n hx hb dX5_load_18 rfl (lv_at hl 2 rfl) ?_
  refine lv_iconst (v := 2) hx hb dX5_load_19 (by decide) ?_
  refine lv_iadd hx hb dX5_load_20 ?_
  obtain ⟨hin, hf⟩ := xr_f hf
  refine x_iald hx hb hw (cX1 hE) hin dX5_load_21 ?_
  refine lv_topi (fun v5 ex => ?_)
  replace hf := hf v5 ex
  clear ex hin
  refine x_puti hx hb hw (cX20 hE) (own := RX5) (ref := RX5) (C := RX5) (T := TX5) (N := 5) hts hiX5 tyX5 tyX5_ok nmX5 hown rfl 2 (by decide) hk13 (fun _ h9 => h9) rfl (by decide +kernel) rfl dX5_load_22 (fun σ6 H locs ex hw => ?_)
  replace hf := xp_f hf σ6 ex
  clear ex
  refine lv_aload_n hx hb dX5_load_25 rfl (lv_at hl 0 rfl) ?_
  refine lv_aload_n hx hb dX5_load_26 rfl (lv_at hl 1 rfl) ?_
  refine lv_iload_n hx hb dX5_load_27 rfl (lv_at hl 2 rfl) ?_
  refine lv_iconst (v := 3) hx hb dX5_load_28 (by decide) ?_
  refine lv_iadd hx hb dX5_load_29 ?_
  obtain ⟨hin, hf⟩ := xr_f hf
  refine x_iald hx hb hw (cX1 hE) hin dX5_load_30 ?_
  refine lv_topi (fun v7 ex => ?_)
  replace hf := hf v7 ex
  clear ex hin
  refine x_puti hx hb hw (cX20 hE) (own := RX5) (ref := RX5) (C := RX5) (T := TX5) (N := 5) hts hiX5 tyX5 tyX5_ok nmX5 hown rfl 3 (by decide) hk16 (fun _ h9 => h9) rfl (by decide +kernel) rfl dX5_load_31 (fun σ8 H locs ex hw => ?_)
  replace hf := xp_f hf σ8 ex
  clear ex
  refine lv_aload_n hx hb dX5_load_34 rfl (lv_at hl 0 rfl) ?_
  refine lv_aload_n hx hb dX5_load_35 rfl (lv_at hl 1 rfl) ?_
  refine lv_iload_n hx hb dX5_load_36 rfl (lv_at hl 2 rfl) ?_
  refine lv_iconst (v := 4) hx hb dX5_load_37 (by decide) ?_
  refine lv_iadd hx hb dX5_load_38 ?_
  obtain ⟨hin, hf⟩ := xr_f hf
  refine x_iald hx hb hw (cX1 hE) hin dX5_load_39 ?_
  refine lv_topi (fun v9 ex => ?_)
  replace hf := hf v9 ex
  clear ex hin
  refine x_puti hx hb hw (cX20 hE) (own := RX5) (ref := RX5) (C := RX5) (T := TX5) (N := 5) hts hiX5 tyX5 tyX5_ok nmX5 hown rfl 4 (by decide) hk19 (fun _ h9 => h9) rfl (by decide +kernel) rfl dX5_load_40 (fun σ10 H locs ex hw => ?_)
  replace hf := xp_f hf σ10 ex
  clear ex
  refine lv_iload_n hx hb dX5_load_43 rfl (lv_at hl 2 rfl) ?_
  refine lv_iconst (v := 5) hx hb dX5_load_44 (by decide) ?_
  refine lv_iadd hx hb dX5_load_45 ?_
  exact x_iret hx hb hr hlk hw hf dX5_load_46

def fX6_byteOf (p0 : Int64) (p1 : Int32) (σ : xSt) : Option (Int32 × xSt) := some (((Int64.toInt32 ((Int64.toUInt64 p0 >>> ((Int32.toInt64 (8 * (7 - p1))).toUInt64 &&& Int64.toUInt64 63)).toInt64)) &&& 255), σ)
abbrev rmX6_byteOf : Room := { frames := 0, cells := 0, slots := 0, locals := 0 }
set_option maxRecDepth 100000 in
set_option maxHeartbeats 4000000 in
theorem mX6_byteOf {l : Launch} {E : xE} (hE : E.sh = shX) (p0 : Int64) (p1 : Int32) (σ : xSt) (o1 : Int32) (o2 : xSt) (hf : fX6_byteOf p0 p1 σ = some (o1, o2)) : xMi l yX6_byteOf wsX6_byteOf rmX6_byteOf E [.long p0, .int p1] σ o1 o2 := by
  unfold fX6_byteOf at hf
  refine xMi_of (cc := cX6_byteOf) (maxL := 3) (ret := (some .int)) (by decide) rfl (Nat.le_of_ble_eq_true rfl) ?_
  intro p e s m args below meth c A ls ⟨hx, hb, hr, hml, hown, hts, hlk⟩ hA hG hw hl
  have hown : s.vm.findClass RX6 = some m.cls := hown
  have hl : lv_has ls 3 [(0, .long p0), (2, .int p1)] := hl
  refine lv_lload_n hx hb dX6_byteOf_0 rfl (lv_at hl 0 rfl) ?_
  refine lv_bipush (v := 8) hx hb dX6_byteOf_1 (by decide) ?_
  refine lv_bipush (v := 7) hx hb dX6_byteOf_3 (by decide) ?_
  refine lv_iload_n hx hb dX6_byteOf_5 rfl (lv_at hl 1 rfl) ?_
  refine lv_isub hx hb dX6_byteOf_6 ?_
  refine lv_imul hx hb dX6_byteOf_7 ?_
  refine lv_lushr hx hb dX6_byteOf_8 rfl ?_
  refine lv_l2i hx hb dX6_byteOf_9 rfl ?_
  refine lv_sipush (v := 255) hx hb dX6_byteOf_10 (by decide) ?_
  refine lv_iand hx hb dX6_byteOf_13 ?_
  exact x_iret hx hb hr hlk hw hf dX6_byteOf_14

def fX6_countBytes_c39 (k5 : (Int64 → Int32 → Int32 → xSt → Option (Int32 × xSt))) (a1 : Int64) (a3 : Int32) (a4 : Int32) (a5 : Int32) (σ : xSt) : Option (Int32 × xSt) := (if a5 = 0 then (xl (a4 + 1) fun v5 => k5 a1 a3 v5 σ) else (xl (a3 + 1) fun v6 => (xl (a4 + 1) fun v7 => k5 a1 v6 v7 σ)))
def fX6_countBytes_c5 : Nat → Int64 → Int32 → Int32 → xSt → Option (Int32 × xSt)
  | 0 => fun _ _ _ _ => none
  | n + 1 => fun a1 a3 a4 σ => (if 8 ≤ a4 then some (a3, σ) else (xc2 (fX6_byteOf a1 a4 σ) fun r1 σ2 => (if r1 = 0 then fX6_countBytes_c39 (fX6_countBytes_c5 n) a1 a3 a4 r1 σ2 else (xc2 (fX11_isWithin r1 32 126 σ2) fun r3 σ4 => (if r3 = 0 then some ((-1), σ4) else fX6_countBytes_c39 (fX6_countBytes_c5 n) a1 a3 a4 r1 σ4)))))
theorem fX6_countBytes_c5_s (n : Nat) (a1 : Int64) (a3 : Int32) (a4 : Int32) (σ : xSt) : fX6_countBytes_c5 (n + 1) a1 a3 a4 σ = ((if 8 ≤ a4 then some (a3, σ) else (xc2 (fX6_byteOf a1 a4 σ) fun r1 σ2 => (if r1 = 0 then fX6_countBytes_c39 (fX6_countBytes_c5 n) a1 a3 a4 r1 σ2 else (xc2 (fX11_isWithin r1 32 126 σ2) fun r3 σ4 => (if r3 = 0 then some ((-1), σ4) else fX6_countBytes_c39 (fX6_countBytes_c5 n) a1 a3 a4 r1 σ4))))) : Option (Int32 × xSt)) := rfl
def fX6_countBytes (p0 : Int64) (σ : xSt) : Option (Int32 × xSt) := fX6_countBytes_c5 xFU p0 0 0 σ
abbrev rmX6_countBytes : Room := { frames := 1, cells := 0, slots := 0, locals := 22 }
set_option maxRecDepth 100000 in
set_option maxHeartbeats 4000000 in
theorem mX6_countBytes {l : Launch} {E : xE} (hE : E.sh = shX) (p0 : Int64) (σ : xSt) (o1 : Int32) (o2 : xSt) (hf : fX6_countBytes p0 σ = some (o1, o2)) : xMi l yX6_countBytes wsX6_countBytes rmX6_countBytes E [.ref (E.a 49), .long p0] σ o1 o2 := by
  unfold fX6_countBytes at hf
  refine xMi_of (cc := cX6_countBytes) (maxL := 6) (ret := (some .int)) (by decide) rfl (Nat.le_of_ble_eq_true rfl) ?_
  intro p e s m args below meth c A ls ⟨hx, hb, hr, hml, hown, hts, hlk⟩ hA hG hw hl
  have hown : s.vm.findClass RX6 = some m.cls := hown
  have hl : lv_has ls 6 [(0, .ref (E.a 49)), (1, .long p0)] := hl
  have h5 : ∀ (n : Nat) (a1 : Int64) (a3 : Int32) (a4 : Int32) (σ : xSt) (H : Heap) (locs : List Loc) (ls : Array Slot), xw E A s.heap s σ H locs → lv_has ls 6 [(1, .long a1), (3, .int a3), (4, .int a4)] → fX6_countBytes_c5 n a1 a3 a4 σ = some (o1, o2) → W p l e rmX6_countBytes s m args below meth c H locs 0 0 (MQ below (xQi E A o1 o2) args s 0 0 A) (F0 m 5 ls []) := by
    intro n5
    induction n5 with
    | zero => intro a1 a3 a4 σ H locs ls hw hl hf; exact nomatch hf
    | succ n5 ih5 =>
      have h39 : ∀ (a1 : Int64) (a3 : Int32) (a4 : Int32) (a5 : Int32) (σ : xSt) (H : Heap) (locs : List Loc) (ls : Array Slot), xw E A s.heap s σ H locs → lv_has ls 6 [(1, .long a1), (3, .int a3), (4, .int a4), (5, .int a5)] → fX6_countBytes_c39 (fX6_countBytes_c5 n5) a1 a3 a4 a5 σ = some (o1, o2) → W p l e rmX6_countBytes s m args below meth c H locs 0 0 (MQ below (xQi E A o1 o2) args s 0 0 A) (F0 m 39 ls []) := by
        intro a1 a3 a4 a5 σ H locs ls hw hl hf
        unfold fX6_countBytes_c39 at hf
        refine lv_iload hx hb dX6_countBytes_39 (lv_at hl 3 rfl) ?_
        refine lv_if_eq (tgt := 47) hx hb dX6_countBytes_41 (by decide) (fun c41 => ?_) (fun c41 => ?_)
        · replace hf := xif_pos c41 hf
          obtain ⟨v5, ex⟩ : ∃ y : Int32, y = (a4 + 1) := ⟨_, rfl⟩
          replace hf := xl_f hf v5 ex
          refine lv_iinc (v := v5) (lv' := [(4, .int v5), (1, .long a1), (3, .int a3), (5, .int a5)]) hx hb dX6_countBytes_47 hl (k := 2) rfl (by rw [ex]; rfl) (by decide) rfl (fun ls hl => ?_)
          clear ex
          refine lv_goto (tgt := 5) hx hb dX6_countBytes_50 (by decide) ?_
          exact ih5 a1 a3 v5 σ _ _ _ hw (lv_sub hl [1, 2, 0] rfl) hf
        · replace hf := xif_neg c41 hf
          obtain ⟨v6, ex⟩ : ∃ y : Int32, y = (a3 + 1) := ⟨_, rfl⟩
          replace hf := xl_f hf v6 ex
          refine lv_iinc (v := v6) (lv' := [(3, .int v6), (1, .long a1), (4, .int a4), (5, .int a5)]) hx hb dX6_countBytes_44 hl (k := 1) rfl (by rw [ex]; rfl) (by decide) rfl (fun ls hl => ?_)
          clear ex
          obtain ⟨v7, ex⟩ : ∃ y : Int32, y = (a4 + 1) := ⟨_, rfl⟩
          replace hf := xl_f hf v7 ex
          refine lv_iinc (v := v7) (lv' := [(4, .int v7), (3, .int v6), (1, .long a1), (5, .int a5)]) hx hb dX6_countBytes_47 hl (k := 2) rfl (by rw [ex]; rfl) (by decide) rfl (fun ls hl => ?_)
          clear ex
          refine lv_goto (tgt := 5) hx hb dX6_countBytes_50 (by decide) ?_
          exact ih5 a1 v6 v7 σ _ _ _ hw (lv_sub hl [2, 1, 0] rfl) hf
      intro a1 a3 a4 σ H locs ls hw hl hf
      rw [fX6_countBytes_c5_s] at hf
      refine lv_iload hx hb dX6_countBytes_5 (lv_at hl 2 rfl) ?_
      refine lv_bipush (v := 8) hx hb dX6_countBytes_7 (by decide) ?_
      refine lv_icmp_ge (tgt := 53) hx hb dX6_countBytes_9 (by decide) (fun c9 => ?_) (fun c9 => ?_)
      · replace hf := xif_pos c9 hf
        refine lv_iload_n hx hb dX6_countBytes_53 rfl (lv_at hl 1 rfl) ?_
        exact x_iret hx hb hr hlk hw hf dX6_countBytes_54
      · replace hf := xif_neg c9 hf
        refine lv_lload_n hx hb dX6_countBytes_12 rfl (lv_at hl 0 rfl) ?_
        refine lv_iload hx hb dX6_countBytes_13 (lv_at hl 2 rfl) ?_
        obtain ⟨r1, σ2, hcl, hf⟩ := xc2_f hf
        refine x_calli (va_runS (As := [.long a1, .int a4]) (rest := []) ⟨hx, hb, hml, hown, hts⟩ (mX6_byteOf hE a1 a4 σ r1 σ2 hcl H.size) (va_cwS 2 hts gX6_countBytes_X6_byteOf rfl rfl rfl (by decide +kernel) ⟨Nat.le_of_ble_eq_true rfl, Nat.le_of_ble_eq_true rfl⟩) (x_preS _ hw hA hG) rfl rfl hl.1 rfl (lv_room (Nat.le_of_ble_eq_true rfl)) dX6_countBytes_15 ⟨Nat.le_of_ble_eq_true rfl, Nat.le_of_ble_eq_true rfl⟩) hw hA (fun H locs hw => ?_)
        clear hcl
        refine lv_istore (lv' := [(5, .int r1), (1, .long a1), (3, .int a3), (4, .int a4)]) hx hb dX6_countBytes_18 hl (by decide) rfl (fun ls hl => ?_)
        refine lv_iload hx hb dX6_countBytes_20 (lv_at hl 0 rfl) ?_
        refine lv_if_eq (tgt := 39) hx hb dX6_countBytes_22 (by decide) (fun c22 => ?_) (fun c22 => ?_)
        · replace hf := xif_pos c22 hf
          exact h39 a1 a3 a4 r1 σ2 _ _ _ hw (lv_sub hl [1, 2, 3, 0] rfl) hf
        · replace hf := xif_neg c22 hf
          refine lv_iload hx hb dX6_countBytes_25 (lv_at hl 0 rfl) ?_
          refine lv_bipush (v := 32) hx hb dX6_countBytes_27 (by decide) ?_
          refine lv_bipush (v := 126) hx hb dX6_countBytes_29 (by decide) ?_
          obtain ⟨r3, σ4, hcl, hf⟩ := xc2_f hf
          refine x_calli (va_runSN (As := [.int r1, .int 32, .int 126]) (rest := []) ⟨hx, hb, hml, hown, hts⟩ (mX11_isWithin hE r1 32 126 σ2 r3 σ4 hcl H.size) ⟨va_cnB 3 hts gX6_countBytes_X11_isWithin_n22 rfl rfl rfl (hG.1 (.methodLinkNest RX6 22 yX11_isWithin RX11) (by decide +kernel)) (hts (.initialized RX11) (by decide +kernel)) (by decide +kernel) ⟨Nat.le_of_ble_eq_true rfl, Nat.le_of_ble_eq_true rfl⟩, hts (.static yX11_isWithin) (by decide +kernel), trivial⟩ (x_preS _ hw hA hG) rfl rfl hl.1 rfl (lv_room (Nat.le_of_ble_eq_true rfl)) dX6_countBytes_31 ⟨Nat.le_of_ble_eq_true rfl, Nat.le_of_ble_eq_true rfl⟩) hw hA (fun H locs hw => ?_)
          clear hcl
          refine lv_if_ne (tgt := 39) hx hb dX6_countBytes_34 (by decide) (fun c34 => ?_) (fun c34 => ?_)
          · replace hf := xif_neg c34 hf
            exact h39 a1 a3 a4 r1 σ4 _ _ _ hw (lv_sub hl [1, 2, 3, 0] rfl) hf
          · replace hf := xif_pos c34 hf
            refine lv_iconst (v := (-1)) hx hb dX6_countBytes_37 (by decide) ?_
            exact x_iret hx hb hr hlk hw hf dX6_countBytes_38
  refine lv_iconst (v := 0) hx hb dX6_countBytes_0 (by decide) ?_
  refine lv_istore_n (lv' := [(3, .int 0), (0, .ref (E.a 49)), (1, .long p0)]) hx hb dX6_countBytes_1 rfl hl (by decide) rfl (fun ls hl => ?_)
  refine lv_iconst (v := 0) hx hb dX6_countBytes_2 (by decide) ?_
  refine lv_istore (lv' := [(4, .int 0), (3, .int 0), (0, .ref (E.a 49)), (1, .long p0)]) hx hb dX6_countBytes_3 hl (by decide) rfl (fun ls hl => ?_)
  exact h5 xFU p0 0 0 σ _ _ _ hw (lv_sub hl [3, 1, 0] rfl) hf

def fX6_append_c2 : Nat → Int64 → Int32 → xSt → Option xSt
  | 0 => fun _ _ _ => none
  | n + 1 => fun a1 a3 σ => (if 8 ≤ a3 then some σ else (xc2 (fX6_byteOf a1 a3 σ) fun r1 σ2 => (if r1 = 0 then (xl (a3 + 1) fun v3 => fX6_append_c2 n a1 v3 σ2) else (if 80 ≤ (σ2 49 1) then (xl (a3 + 1) fun v4 => fX6_append_c2 n a1 v4 σ2) else (xs σ2 50 80 (σ2 49 1) r1 fun σ5 => (xp σ5 49 1 ((σ5 49 1) + 1) fun σ6 => (xl (a3 + 1) fun v7 => fX6_append_c2 n a1 v7 σ6)))))))
theorem fX6_append_c2_s (n : Nat) (a1 : Int64) (a3 : Int32) (σ : xSt) : fX6_append_c2 (n + 1) a1 a3 σ = ((if 8 ≤ a3 then some σ else (xc2 (fX6_byteOf a1 a3 σ) fun r1 σ2 => (if r1 = 0 then (xl (a3 + 1) fun v3 => fX6_append_c2 n a1 v3 σ2) else (if 80 ≤ (σ2 49 1) then (xl (a3 + 1) fun v4 => fX6_append_c2 n a1 v4 σ2) else (xs σ2 50 80 (σ2 49 1) r1 fun σ5 => (xp σ5 49 1 ((σ5 49 1) + 1) fun σ6 => (xl (a3 + 1) fun v7 => fX6_append_c2 n a1 v7 σ6))))))) : Option xSt) := rfl
def fX6_append (p0 : Int64) (σ : xSt) : Option xSt := fX6_append_c2 xFU p0 0 σ
abbrev rmX6_append : Room := { frames := 1, cells := 0, slots := 0, locals := 22 }
set_option maxRecDepth 100000 in
set_option maxHeartbeats 4000000 in
theorem mX6_append {l : Launch} {E : xE} (hE : E.sh = shX) (p0 : Int64) (σ : xSt) (o1 : xSt) (hf : fX6_append p0 σ = some o1) : xMv l yX6_append wsX6_append rmX6_append E [.ref (E.a 49), .long p0] σ o1 := by
  unfold fX6_append at hf
  refine xMv_of (cc := cX6_append) (maxL := 5) (ret := none) (by decide) rfl (Nat.le_of_ble_eq_true rfl) ?_
  intro p e s m args below meth c A ls ⟨hx, hb, hr, hml, hown, hts, hlk⟩ hA hG hw hl
  have hown : s.vm.findClass RX6 = some m.cls := hown
  have hl : lv_has ls 5 [(0, .ref (E.a 49)), (1, .long p0)] := hl
  have hk26 := hts (.fieldLink RX6 26 "OvenRound$PartsText" "length" "I") (by decide +kernel)
  have hiX6 : ∀ w ∈ wsX60, w ∈ wsX6_append := by decide +kernel
  have hk11 := hts (.fieldLink RX6 11 "OvenRound$PartsText" "bytes" "[I") (by decide +kernel)
  have h2 : ∀ (n : Nat) (a1 : Int64) (a3 : Int32) (σ : xSt) (H : Heap) (locs : List Loc) (ls : Array Slot), xw E A s.heap s σ H locs → lv_has ls 5 [(0, .ref (E.a 49)), (1, .long a1), (3, .int a3)] → fX6_append_c2 n a1 a3 σ = some o1 → W p l e rmX6_append s m args below meth c H locs 0 0 (MQ below (xQv E A o1) args s 0 0 A) (F0 m 2 ls []) := by
    intro n2
    induction n2 with
    | zero => intro a1 a3 σ H locs ls hw hl hf; exact nomatch hf
    | succ n2 ih2 =>
      intro a1 a3 σ H locs ls hw hl hf
      rw [fX6_append_c2_s] at hf
      refine lv_iload_n hx hb dX6_append_2 rfl (lv_at hl 2 rfl) ?_
      refine lv_bipush (v := 8) hx hb dX6_append_3 (by decide) ?_
      refine lv_icmp_ge (tgt := 56) hx hb dX6_append_5 (by decide) (fun c5 => ?_) (fun c5 => ?_)
      · replace hf := xif_pos c5 hf
        exact x_vret hx hb hr hlk hw hf dX6_append_56
      · replace hf := xif_neg c5 hf
        refine lv_lload_n hx hb dX6_append_8 rfl (lv_at hl 1 rfl) ?_
        refine lv_iload_n hx hb dX6_append_9 rfl (lv_at hl 2 rfl) ?_
        obtain ⟨r1, σ2, hcl, hf⟩ := xc2_f hf
        refine x_calli (va_runS (As := [.long a1, .int a3]) (rest := []) ⟨hx, hb, hml, hown, hts⟩ (mX6_byteOf hE a1 a3 σ r1 σ2 hcl H.size) (va_cwS 2 hts gX6_append_X6_byteOf rfl rfl rfl (by decide +kernel) ⟨Nat.le_of_ble_eq_true rfl, Nat.le_of_ble_eq_true rfl⟩) (x_preS _ hw hA hG) rfl rfl hl.1 rfl (lv_room (Nat.le_of_ble_eq_true rfl)) dX6_append_10 ⟨Nat.le_of_ble_eq_true rfl, Nat.le_of_ble_eq_true rfl⟩) hw hA (fun H locs hw => ?_)
        clear hcl
        refine lv_istore (lv' := [(4, .int r1), (0, .ref (E.a 49)), (1, .long a1), (3, .int a3)]) hx hb dX6_append_13 hl (by decide) rfl (fun ls hl => ?_)
        refine lv_iload hx hb dX6_append_15 (lv_at hl 0 rfl) ?_
        refine lv_if_eq (tgt := 50) hx hb dX6_append_17 (by decide) (fun c17 => ?_) (fun c17 => ?_)
        · replace hf := xif_pos c17 hf
          obtain ⟨v3, ex⟩ : ∃ y : Int32, y = (a3 + 1) := ⟨_, rfl⟩
          replace hf := xl_f hf v3 ex
          refine lv_iinc (v := v3) (lv' := [(3, .int v3), (4, .int r1), (0, .ref (E.a 49)), (1, .long a1)]) hx hb dX6_append_50 hl (k := 3) rfl (by rw [ex]; rfl) (by decide) rfl (fun ls hl => ?_)
          clear ex
          refine lv_goto (tgt := 2) hx hb dX6_append_53 (by decide) ?_
          exact ih2 a1 v3 σ2 _ _ _ hw (lv_sub hl [2, 3, 0] rfl) hf
        · replace hf := xif_neg c17 hf
          refine lv_aload_n hx hb dX6_append_20 rfl (lv_at hl 1 rfl) ?_
          refine x_geti hx hb hw (cX49 hE) (own := RX6) (ref := RX6) (C := RX6) (T := TX6) (N := 3) hts hiX6 hown rfl 1 (by decide) hk26 (fun _ h9 => h9) rfl dX6_append_21 ?_
          refine lv_bipush (v := 80) hx hb dX6_append_24 (by decide) ?_
          refine lv_icmp_ge (tgt := 50) hx hb dX6_append_26 (by decide) (fun c26 => ?_) (fun c26 => ?_)
          · replace hf := xif_pos c26 hf
            obtain ⟨v4, ex⟩ : ∃ y : Int32, y = (a3 + 1) := ⟨_, rfl⟩
            replace hf := xl_f hf v4 ex
            refine lv_iinc (v := v4) (lv' := [(3, .int v4), (4, .int r1), (0, .ref (E.a 49)), (1, .long a1)]) hx hb dX6_append_50 hl (k := 3) rfl (by rw [ex]; rfl) (by decide) rfl (fun ls hl => ?_)
            clear ex
            refine lv_goto (tgt := 2) hx hb dX6_append_53 (by decide) ?_
            exact ih2 a1 v4 σ2 _ _ _ hw (lv_sub hl [2, 3, 0] rfl) hf
          · replace hf := xif_neg c26 hf
            refine lv_aload_n hx hb dX6_append_29 rfl (lv_at hl 1 rfl) ?_
            refine x_getr hx hb hw (cX49 hE) (own := RX6) (ref := RX6) (C := RX6) (T := TX6) (N := 3) hts hiX6 hown rfl 0 (by decide) hk11 (fun _ h9 => h9) rfl dX6_append_30 ?_
            refine lv_aload_n hx hb dX6_append_33 rfl (lv_at hl 1 rfl) ?_
            refine x_geti hx hb hw (cX49 hE) (own := RX6) (ref := RX6) (C := RX6) (T := TX6) (N := 3) hts hiX6 hown rfl 1 (by decide) hk26 (fun _ h9 => h9) rfl dX6_append_34 ?_
            refine lv_iload hx hb dX6_append_37 (lv_at hl 0 rfl) ?_
            obtain ⟨hin, hf⟩ := xs_f hf
            refine x_iast hx hb hw (cX50 hE) hin dX6_append_39 (fun σ5 H locs ex hw => ?_)
            replace hf := hf σ5 ex
            clear ex hin
            refine lv_aload_n hx hb dX6_append_40 rfl (lv_at hl 1 rfl) ?_
            refine lv_dup hx hb dX6_append_41 rfl ?_
            refine x_geti hx hb hw (cX49 hE) (own := RX6) (ref := RX6) (C := RX6) (T := TX6) (N := 3) hts hiX6 hown rfl 1 (by decide) hk26 (fun _ h9 => h9) rfl dX6_append_42 ?_
            refine lv_iconst (v := 1) hx hb dX6_append_45 (by decide) ?_
            refine lv_iadd hx hb dX6_append_46 ?_
            refine x_puti hx hb hw (cX49 hE) (own := RX6) (ref := RX6) (C := RX6) (T := TX6) (N := 3) hts hiX6 tyX6 tyX6_ok nmX6 hown rfl 1 (by decide) hk26 (fun _ h9 => h9) rfl (by decide +kernel) rfl dX6_append_47 (fun σ6 H locs ex hw => ?_)
            replace hf := xp_f hf σ6 ex
            clear ex
            obtain ⟨v7, ex⟩ : ∃ y : Int32, y = (a3 + 1) := ⟨_, rfl⟩
            replace hf := xl_f hf v7 ex
            refine lv_iinc (v := v7) (lv' := [(3, .int v7), (4, .int r1), (0, .ref (E.a 49)), (1, .long a1)]) hx hb dX6_append_50 hl (k := 3) rfl (by rw [ex]; rfl) (by decide) rfl (fun ls hl => ?_)
            clear ex
            refine lv_goto (tgt := 2) hx hb dX6_append_53 (by decide) ?_
            exact ih2 a1 v7 σ6 _ _ _ hw (lv_sub hl [2, 3, 0] rfl) hf
  refine lv_iconst (v := 0) hx hb dX6_append_0 (by decide) ?_
  refine lv_istore_n (lv' := [(3, .int 0), (0, .ref (E.a 49)), (1, .long p0)]) hx hb dX6_append_1 rfl hl (by decide) rfl (fun ls hl => ?_)
  exact h2 xFU p0 0 σ _ _ _ hw (lv_sub hl [1, 2, 0] rfl) hf

def fJ7_fill_53178_c5 (q0 n0 : Nat) : Nat → Int32 → Int32 → Int32 → xSt → Option xSt
  | 0 => fun _ _ _ _ => none
  | n + 1 => fun a1 a2 a3 σ => (if a3 ≤ a2 then some σ else (xs σ q0 n0 a2 a1 fun σ2 => (xl (a2 + 1) fun v3 => fJ7_fill_53178_c5 q0 n0 n a1 v3 a3 σ2)))
theorem fJ7_fill_53178_c5_s (q0 n0 : Nat) (n : Nat) (a1 : Int32) (a2 : Int32) (a3 : Int32) (σ : xSt) : fJ7_fill_53178_c5 q0 n0 (n + 1) a1 a2 a3 σ = ((if a3 ≤ a2 then some σ else (xs σ q0 n0 a2 a1 fun σ2 => (xl (a2 + 1) fun v3 => fJ7_fill_53178_c5 q0 n0 n a1 v3 a3 σ2))) : Option xSt) := rfl
def fJ7_fill_53178 (q0 n0 : Nat) (p1 : Int32) (σ : xSt) : Option xSt := (xl (Int32.ofNat n0) fun v1 => fJ7_fill_53178_c5 q0 n0 xFU p1 0 v1 σ)
abbrev rmJ7_fill_53178 : Room := { frames := 0, cells := 0, slots := 0, locals := 0 }
set_option maxRecDepth 100000 in
set_option maxHeartbeats 4000000 in
theorem mJ7_fill_53178 {l : Launch} {E : xE} (q0 n0 : Nat) (hq_q0 : E.sh[q0]? = some (.inl n0)) (p1 : Int32) (σ : xSt) (o1 : xSt) (hf : fJ7_fill_53178 q0 n0 p1 σ = some o1) : xMv l yJ7_fill_53178 wsJ7_fill_53178 rmJ7_fill_53178 E [.ref (E.a q0), .int p1] σ o1 := by
  unfold fJ7_fill_53178 at hf
  refine xMv_of (cc := cJ7_fill_53178) (maxL := 4) (ret := none) (by decide) rfl (Nat.le_of_ble_eq_true rfl) ?_
  intro p e s m args below meth c A ls ⟨hx, hb, hr, hml, hown, hts, hlk⟩ hA hG hw hl
  have hown : s.vm.findClass RJ7 = some m.cls := hown
  have hl : lv_has ls 4 [(0, .ref (E.a q0)), (1, .int p1)] := hl
  have h5 : ∀ (n : Nat) (a1 : Int32) (a2 : Int32) (a3 : Int32) (σ : xSt) (H : Heap) (locs : List Loc) (ls : Array Slot), xw E A s.heap s σ H locs → lv_has ls 4 [(0, .ref (E.a q0)), (1, .int a1), (2, .int a2), (3, .int a3)] → fJ7_fill_53178_c5 q0 n0 n a1 a2 a3 σ = some o1 → W p l e rmJ7_fill_53178 s m args below meth c H locs 0 0 (MQ below (xQv E A o1) args s 0 0 A) (F0 m 5 ls []) := by
    intro n5
    induction n5 with
    | zero => intro a1 a2 a3 σ H locs ls hw hl hf; exact nomatch hf
    | succ n5 ih5 =>
      intro a1 a2 a3 σ H locs ls hw hl hf
      rw [fJ7_fill_53178_c5_s] at hf
      refine lv_iload_n hx hb dJ7_fill_53178_5 rfl (lv_at hl 2 rfl) ?_
      refine lv_iload_n hx hb dJ7_fill_53178_6 rfl (lv_at hl 3 rfl) ?_
      refine lv_icmp_ge (tgt := 20) hx hb dJ7_fill_53178_7 (by decide) (fun c7 => ?_) (fun c7 => ?_)
      · replace hf := xif_pos c7 hf
        exact x_vret hx hb hr hlk hw hf dJ7_fill_53178_20
      · replace hf := xif_neg c7 hf
        refine lv_aload_n hx hb dJ7_fill_53178_10 rfl (lv_at hl 0 rfl) ?_
        refine lv_iload_n hx hb dJ7_fill_53178_11 rfl (lv_at hl 2 rfl) ?_
        refine lv_iload_n hx hb dJ7_fill_53178_12 rfl (lv_at hl 1 rfl) ?_
        obtain ⟨hin, hf⟩ := xs_f hf
        refine x_iast hx hb hw hq_q0 hin dJ7_fill_53178_13 (fun σ2 H locs ex hw => ?_)
        replace hf := hf σ2 ex
        clear ex hin
        obtain ⟨v3, ex⟩ : ∃ y : Int32, y = (a2 + 1) := ⟨_, rfl⟩
        replace hf := xl_f hf v3 ex
        refine lv_iinc (v := v3) (lv' := [(2, .int v3), (0, .ref (E.a q0)), (1, .int a1), (3, .int a3)]) hx hb dJ7_fill_53178_14 hl (k := 2) rfl (by rw [ex]; rfl) (by decide) rfl (fun ls hl => ?_)
        clear ex
        refine lv_goto (tgt := 5) hx hb dJ7_fill_53178_17 (by decide) ?_
        exact ih5 a1 v3 a3 σ2 _ _ _ hw (lv_sub hl [1, 2, 0, 3] rfl) hf
  refine lv_iconst (v := 0) hx hb dJ7_fill_53178_0 (by decide) ?_
  refine lv_istore_n (lv' := [(2, .int 0), (0, .ref (E.a q0)), (1, .int p1)]) hx hb dJ7_fill_53178_1 rfl hl (by decide) rfl (fun ls hl => ?_)
  refine lv_aload_n hx hb dJ7_fill_53178_2 rfl (lv_at hl 1 rfl) ?_
  refine x_alen hx hb hw hq_q0 (v := Int32.ofNat n0) rfl dJ7_fill_53178_3 ?_
  refine lv_topi (fun v1 ex => ?_)
  replace hf := xl_f hf v1 ex
  clear ex
  refine lv_istore_n (lv' := [(3, .int v1), (2, .int 0), (0, .ref (E.a q0)), (1, .int p1)]) hx hb dJ7_fill_53178_4 rfl hl (by decide) rfl (fun ls hl => ?_)
  exact h5 xFU p1 0 v1 σ _ _ _ hw (lv_sub hl [2, 3, 1, 0] rfl) hf

def fX6_hasAt (p0 : Int32) (p1 : Int32) (σ : xSt) : Option (Int32 × xSt) := (if (σ 49 1) ≤ p0 then some (0, σ) else (xr σ 50 80 p0 fun v1 => (if v1 = p1 then some (1, σ) else some (0, σ))))
abbrev rmX6_hasAt : Room := { frames := 0, cells := 0, slots := 0, locals := 0 }
set_option maxRecDepth 100000 in
set_option maxHeartbeats 4000000 in
theorem mX6_hasAt {l : Launch} {E : xE} (hE : E.sh = shX) (p0 : Int32) (p1 : Int32) (σ : xSt) (o1 : Int32) (o2 : xSt) (hf : fX6_hasAt p0 p1 σ = some (o1, o2)) : xMi l yX6_hasAt wsX6_hasAt rmX6_hasAt E [.ref (E.a 49), .int p0, .int p1] σ o1 o2 := by
  unfold fX6_hasAt at hf
  refine xMi_of (cc := cX6_hasAt) (maxL := 3) (ret := (some .boolean)) (by decide) rfl (Nat.le_of_ble_eq_true rfl) ?_
  intro p e s m args below meth c A ls ⟨hx, hb, hr, hml, hown, hts, hlk⟩ hA hG hw hl
  have hown : s.vm.findClass RX6 = some m.cls := hown
  have hl : lv_has ls 3 [(0, .ref (E.a 49)), (1, .int p0), (2, .int p1)] := hl
  have hk26 := hts (.fieldLink RX6 26 "OvenRound$PartsText" "length" "I") (by decide +kernel)
  have hiX6 : ∀ w ∈ wsX60, w ∈ wsX6_hasAt := by decide +kernel
  have hk11 := hts (.fieldLink RX6 11 "OvenRound$PartsText" "bytes" "[I") (by decide +kernel)
  refine lv_iload_n hx hb dX6_hasAt_0 rfl (lv_at hl 1 rfl) ?_
  refine lv_aload_n hx hb dX6_hasAt_1 rfl (lv_at hl 0 rfl) ?_
  refine x_geti hx hb hw (cX49 hE) (own := RX6) (ref := RX6) (C := RX6) (T := TX6) (N := 3) hts hiX6 hown rfl 1 (by decide) hk26 (fun _ h9 => h9) rfl dX6_hasAt_2 ?_
  refine lv_icmp_ge (tgt := 22) hx hb dX6_hasAt_5 (by decide) (fun c5 => ?_) (fun c5 => ?_)
  · replace hf := xif_pos c5 hf
    refine lv_iconst (v := 0) hx hb dX6_hasAt_22 (by decide) ?_
    exact x_zretc hx hb hr hlk hw (by decide) hf dX6_hasAt_23
  · replace hf := xif_neg c5 hf
    refine lv_aload_n hx hb dX6_hasAt_8 rfl (lv_at hl 0 rfl) ?_
    refine x_getr hx hb hw (cX49 hE) (own := RX6) (ref := RX6) (C := RX6) (T := TX6) (N := 3) hts hiX6 hown rfl 0 (by decide) hk11 (fun _ h9 => h9) rfl dX6_hasAt_9 ?_
    refine lv_iload_n hx hb dX6_hasAt_12 rfl (lv_at hl 1 rfl) ?_
    obtain ⟨hin, hf⟩ := xr_f hf
    refine x_iald hx hb hw (cX50 hE) hin dX6_hasAt_13 ?_
    refine lv_topi (fun v1 ex => ?_)
    replace hf := hf v1 ex
    clear ex hin
    refine lv_iload_n hx hb dX6_hasAt_14 rfl (lv_at hl 2 rfl) ?_
    refine lv_icmp_ne (tgt := 22) hx hb dX6_hasAt_15 (by decide) (fun c15 => ?_) (fun c15 => ?_)
    · replace hf := xif_neg c15 hf
      refine lv_iconst (v := 0) hx hb dX6_hasAt_22 (by decide) ?_
      exact x_zretc hx hb hr hlk hw (by decide) hf dX6_hasAt_23
    · replace hf := xif_pos c15 hf
      refine lv_iconst (v := 1) hx hb dX6_hasAt_18 (by decide) ?_
      refine lv_goto (tgt := 23) hx hb dX6_hasAt_19 (by decide) ?_
      exact x_zretc hx hb hr hlk hw (by decide) hf dX6_hasAt_23

def fX6_skipBlanks_c2 : Nat → Int32 → xSt → Option (Int32 × xSt)
  | 0 => fun _ _ => none
  | n + 1 => fun a2 σ => (if (σ 49 1) ≤ a2 then some (a2, σ) else (xc2 (fX6_hasAt a2 32 σ) fun r1 σ2 => (if r1 = 0 then some (a2, σ2) else (xl (a2 + 1) fun v3 => fX6_skipBlanks_c2 n v3 σ2))))
theorem fX6_skipBlanks_c2_s (n : Nat) (a2 : Int32) (σ : xSt) : fX6_skipBlanks_c2 (n + 1) a2 σ = ((if (σ 49 1) ≤ a2 then some (a2, σ) else (xc2 (fX6_hasAt a2 32 σ) fun r1 σ2 => (if r1 = 0 then some (a2, σ2) else (xl (a2 + 1) fun v3 => fX6_skipBlanks_c2 n v3 σ2)))) : Option (Int32 × xSt)) := rfl
def fX6_skipBlanks (p0 : Int32) (σ : xSt) : Option (Int32 × xSt) := fX6_skipBlanks_c2 xFU p0 σ
abbrev rmX6_skipBlanks : Room := { frames := 1, cells := 0, slots := 0, locals := 22 }
set_option maxRecDepth 100000 in
set_option maxHeartbeats 4000000 in
theorem mX6_skipBlanks {l : Launch} {E : xE} (hE : E.sh = shX) (p0 : Int32) (σ : xSt) (o1 : Int32) (o2 : xSt) (hf : fX6_skipBlanks p0 σ = some (o1, o2)) : xMi l yX6_skipBlanks wsX6_skipBlanks rmX6_skipBlanks E [.ref (E.a 49), .int p0] σ o1 o2 := by
  unfold fX6_skipBlanks at hf
  refine xMi_of (cc := cX6_skipBlanks) (maxL := 3) (ret := (some .int)) (by decide) rfl (Nat.le_of_ble_eq_true rfl) ?_
  intro p e s m args below meth c A ls ⟨hx, hb, hr, hml, hown, hts, hlk⟩ hA hG hw hl
  have hown : s.vm.findClass RX6 = some m.cls := hown
  have hl : lv_has ls 3 [(0, .ref (E.a 49)), (1, .int p0)] := hl
  have hk26 := hts (.fieldLink RX6 26 "OvenRound$PartsText" "length" "I") (by decide +kernel)
  have hiX6 : ∀ w ∈ wsX60, w ∈ wsX6_skipBlanks := by decide +kernel
  have h2 : ∀ (n : Nat) (a2 : Int32) (σ : xSt) (H : Heap) (locs : List Loc) (ls : Array Slot), xw E A s.heap s σ H locs → lv_has ls 3 [(0, .ref (E.a 49)), (2, .int a2)] → fX6_skipBlanks_c2 n a2 σ = some (o1, o2) → W p l e rmX6_skipBlanks s m args below meth c H locs 0 0 (MQ below (xQi E A o1 o2) args s 0 0 A) (F0 m 2 ls []) := by
    intro n2
    induction n2 with
    | zero => intro a2 σ H locs ls hw hl hf; exact nomatch hf
    | succ n2 ih2 =>
      intro a2 σ H locs ls hw hl hf
      rw [fX6_skipBlanks_c2_s] at hf
      refine lv_iload_n hx hb dX6_skipBlanks_2 rfl (lv_at hl 1 rfl) ?_
      refine lv_aload_n hx hb dX6_skipBlanks_3 rfl (lv_at hl 0 rfl) ?_
      refine x_geti hx hb hw (cX49 hE) (own := RX6) (ref := RX6) (C := RX6) (T := TX6) (N := 3) hts hiX6 hown rfl 1 (by decide) hk26 (fun _ h9 => h9) rfl dX6_skipBlanks_4 ?_
      refine lv_icmp_ge (tgt := 26) hx hb dX6_skipBlanks_7 (by decide) (fun c7 => ?_) (fun c7 => ?_)
      · replace hf := xif_pos c7 hf
        refine lv_iload_n hx hb dX6_skipBlanks_26 rfl (lv_at hl 1 rfl) ?_
        exact x_iret hx hb hr hlk hw hf dX6_skipBlanks_27
      · replace hf := xif_neg c7 hf
        refine lv_aload_n hx hb dX6_skipBlanks_10 rfl (lv_at hl 0 rfl) ?_
        refine lv_iload_n hx hb dX6_skipBlanks_11 rfl (lv_at hl 1 rfl) ?_
        refine lv_bipush (v := 32) hx hb dX6_skipBlanks_12 (by decide) ?_
        obtain ⟨r1, σ2, hcl, hf⟩ := xc2_f hf
        refine x_calli (va_runV (As := [.int a2, .int 32]) (rest := []) ⟨hx, hb, hml, hown, hts⟩ (mX6_hasAt hE a2 32 σ r1 σ2 hcl H.size) (cwV 2 hts gX6_skipBlanks_X6_hasAt rfl rfl rfl (by decide +kernel) ⟨Nat.le_of_ble_eq_true rfl, Nat.le_of_ble_eq_true rfl⟩) (x_preV _ hw hA hG (cX49 hE) rfl) rfl rfl hl.1 rfl (lv_room (Nat.le_of_ble_eq_true rfl)) dX6_skipBlanks_14 ⟨Nat.le_of_ble_eq_true rfl, Nat.le_of_ble_eq_true rfl⟩) hw hA (fun H locs hw => ?_)
        clear hcl
        refine lv_if_eq (tgt := 26) hx hb dX6_skipBlanks_17 (by decide) (fun c17 => ?_) (fun c17 => ?_)
        · replace hf := xif_pos c17 hf
          refine lv_iload_n hx hb dX6_skipBlanks_26 rfl (lv_at hl 1 rfl) ?_
          exact x_iret hx hb hr hlk hw hf dX6_skipBlanks_27
        · replace hf := xif_neg c17 hf
          obtain ⟨v3, ex⟩ : ∃ y : Int32, y = (a2 + 1) := ⟨_, rfl⟩
          replace hf := xl_f hf v3 ex
          refine lv_iinc (v := v3) (lv' := [(2, .int v3), (0, .ref (E.a 49))]) hx hb dX6_skipBlanks_20 hl (k := 1) rfl (by rw [ex]; rfl) (by decide) rfl (fun ls hl => ?_)
          clear ex
          refine lv_goto (tgt := 2) hx hb dX6_skipBlanks_23 (by decide) ?_
          exact ih2 v3 σ2 _ _ _ hw (lv_sub hl [1, 0] rfl) hf
  refine lv_iload_n hx hb dX6_skipBlanks_0 rfl (lv_at hl 1 rfl) ?_
  refine lv_istore_n (lv' := [(2, .int p0), (0, .ref (E.a 49)), (1, .int p0)]) hx hb dX6_skipBlanks_1 rfl hl (by decide) rfl (fun ls hl => ?_)
  exact h2 xFU p0 σ _ _ _ hw (lv_sub hl [1, 0] rfl) hf

def fX6_endOfNumber_c2 : Nat → Int32 → xSt → Option (Int32 × xSt)
  | 0 => fun _ _ => none
  | n + 1 => fun a2 σ => (if (σ 49 1) ≤ a2 then some (a2, σ) else (xr σ 50 80 a2 fun v1 => (xc2 (fX11_isWithin v1 48 57 σ) fun r2 σ3 => (if r2 = 0 then some (a2, σ3) else (xl (a2 + 1) fun v4 => fX6_endOfNumber_c2 n v4 σ3)))))
theorem fX6_endOfNumber_c2_s (n : Nat) (a2 : Int32) (σ : xSt) : fX6_endOfNumber_c2 (n + 1) a2 σ = ((if (σ 49 1) ≤ a2 then some (a2, σ) else (xr σ 50 80 a2 fun v1 => (xc2 (fX11_isWithin v1 48 57 σ) fun r2 σ3 => (if r2 = 0 then some (a2, σ3) else (xl (a2 + 1) fun v4 => fX6_endOfNumber_c2 n v4 σ3))))) : Option (Int32 × xSt)) := rfl
def fX6_endOfNumber (p0 : Int32) (σ : xSt) : Option (Int32 × xSt) := fX6_endOfNumber_c2 xFU p0 σ
abbrev rmX6_endOfNumber : Room := { frames := 1, cells := 0, slots := 0, locals := 22 }
set_option maxRecDepth 100000 in
set_option maxHeartbeats 4000000 in
theorem mX6_endOfNumber {l : Launch} {E : xE} (hE : E.sh = shX) (p0 : Int32) (σ : xSt) (o1 : Int32) (o2 : xSt) (hf : fX6_endOfNumber p0 σ = some (o1, o2)) : xMi l yX6_endOfNumber wsX6_endOfNumber rmX6_endOfNumber E [.ref (E.a 49), .int p0] σ o1 o2 := by
  unfold fX6_endOfNumber at hf
  refine xMi_of (cc := cX6_endOfNumber) (maxL := 3) (ret := (some .int)) (by decide) rfl (Nat.le_of_ble_eq_true rfl) ?_
  intro p e s m args below meth c A ls ⟨hx, hb, hr, hml, hown, hts, hlk⟩ hA hG hw hl
  have hown : s.vm.findClass RX6 = some m.cls := hown
  have hl : lv_has ls 3 [(0, .ref (E.a 49)), (1, .int p0)] := hl
  have hk26 := hts (.fieldLink RX6 26 "OvenRound$PartsText" "length" "I") (by decide +kernel)
  have hiX6 : ∀ w ∈ wsX60, w ∈ wsX6_endOfNumber := by decide +kernel
  have hk11 := hts (.fieldLink RX6 11 "OvenRound$PartsText" "bytes" "[I") (by decide +kernel)
  have h2 : ∀ (n : Nat) (a2 : Int32) (σ : xSt) (H : Heap) (locs : List Loc) (ls : Array Slot), xw E A s.heap s σ H locs → lv_has ls 3 [(0, .ref (E.a 49)), (2, .int a2)] → fX6_endOfNumber_c2 n a2 σ = some (o1, o2) → W p l e rmX6_endOfNumber s m args below meth c H locs 0 0 (MQ below (xQi E A o1 o2) args s 0 0 A) (F0 m 2 ls []) := by
    intro n2
    induction n2 with
    | zero => intro a2 σ H locs ls hw hl hf; exact nomatch hf
    | succ n2 ih2 =>
      intro a2 σ H locs ls hw hl hf
      rw [fX6_endOfNumber_c2_s] at hf
      refine lv_iload_n hx hb dX6_endOfNumber_2 rfl (lv_at hl 1 rfl) ?_
      refine lv_aload_n hx hb dX6_endOfNumber_3 rfl (lv_at hl 0 rfl) ?_
      refine x_geti hx hb hw (cX49 hE) (own := RX6) (ref := RX6) (C := RX6) (T := TX6) (N := 3) hts hiX6 hown rfl 1 (by decide) hk26 (fun _ h9 => h9) rfl dX6_endOfNumber_4 ?_
      refine lv_icmp_ge (tgt := 32) hx hb dX6_endOfNumber_7 (by decide) (fun c7 => ?_) (fun c7 => ?_)
      · replace hf := xif_pos c7 hf
        refine lv_iload_n hx hb dX6_endOfNumber_32 rfl (lv_at hl 1 rfl) ?_
        exact x_iret hx hb hr hlk hw hf dX6_endOfNumber_33
      · replace hf := xif_neg c7 hf
        refine lv_aload_n hx hb dX6_endOfNumber_10 rfl (lv_at hl 0 rfl) ?_
        refine x_getr hx hb hw (cX49 hE) (own := RX6) (ref := RX6) (C := RX6) (T := TX6) (N := 3) hts hiX6 hown rfl 0 (by decide) hk11 (fun _ h9 => h9) rfl dX6_endOfNumber_11 ?_
        refine lv_iload_n hx hb dX6_endOfNumber_14 rfl (lv_at hl 1 rfl) ?_
        obtain ⟨hin, hf⟩ := xr_f hf
        refine x_iald hx hb hw (cX50 hE) hin dX6_endOfNumber_15 ?_
        refine lv_topi (fun v1 ex => ?_)
        replace hf := hf v1 ex
        clear ex hin
        refine lv_bipush (v := 48) hx hb dX6_endOfNumber_16 (by decide) ?_
        refine lv_bipush (v := 57) hx hb dX6_endOfNumber_18 (by decide) ?_
        obtain ⟨r2, σ3, hcl, hf⟩ := xc2_f hf
        refine x_calli (va_runSN (As := [.int v1, .int 48, .int 57]) (rest := []) ⟨hx, hb, hml, hown, hts⟩ (mX11_isWithin hE v1 48 57 σ r2 σ3 hcl H.size) ⟨va_cnB 3 hts gX6_endOfNumber_X11_isWithin_n22 rfl rfl rfl (hG.1 (.methodLinkNest RX6 22 yX11_isWithin RX11) (by decide +kernel)) (hts (.initialized RX11) (by decide +kernel)) (by decide +kernel) ⟨Nat.le_of_ble_eq_true rfl, Nat.le_of_ble_eq_true rfl⟩, hts (.static yX11_isWithin) (by decide +kernel), trivial⟩ (x_preS _ hw hA hG) rfl rfl hl.1 rfl (lv_room (Nat.le_of_ble_eq_true rfl)) dX6_endOfNumber_20 ⟨Nat.le_of_ble_eq_true rfl, Nat.le_of_ble_eq_true rfl⟩) hw hA (fun H locs hw => ?_)
        clear hcl
        refine lv_if_eq (tgt := 32) hx hb dX6_endOfNumber_23 (by decide) (fun c23 => ?_) (fun c23 => ?_)
        · replace hf := xif_pos c23 hf
          refine lv_iload_n hx hb dX6_endOfNumber_32 rfl (lv_at hl 1 rfl) ?_
          exact x_iret hx hb hr hlk hw hf dX6_endOfNumber_33
        · replace hf := xif_neg c23 hf
          obtain ⟨v4, ex⟩ : ∃ y : Int32, y = (a2 + 1) := ⟨_, rfl⟩
          replace hf := xl_f hf v4 ex
          refine lv_iinc (v := v4) (lv' := [(2, .int v4), (0, .ref (E.a 49))]) hx hb dX6_endOfNumber_26 hl (k := 1) rfl (by rw [ex]; rfl) (by decide) rfl (fun ls hl => ?_)
          clear ex
          refine lv_goto (tgt := 2) hx hb dX6_endOfNumber_29 (by decide) ?_
          exact ih2 v4 σ3 _ _ _ hw (lv_sub hl [1, 0] rfl) hf
  refine lv_iload_n hx hb dX6_endOfNumber_0 rfl (lv_at hl 1 rfl) ?_
  refine lv_istore_n (lv' := [(2, .int p0), (0, .ref (E.a 49)), (1, .int p0)]) hx hb dX6_endOfNumber_1 rfl hl (by decide) rfl (fun ls hl => ?_)
  exact h2 xFU p0 σ _ _ _ hw (lv_sub hl [1, 0] rfl) hf

def fX6_valueOf_c5 : Nat → Int32 → Int32 → Int32 → Int32 → xSt → Option (Int32 × xSt)
  | 0 => fun _ _ _ _ _ => none
  | n + 1 => fun a1 a2 a3 a4 σ => (if a2 ≤ a4 then some (a3, σ) else (if (a1 + 4) ≤ a4 then some (a3, σ) else (xr σ 50 80 a4 fun v1 => (xl (((10 * a3) + v1) - 48) fun v2 => (xl (a4 + 1) fun v3 => fX6_valueOf_c5 n a1 a2 v2 v3 σ)))))
theorem fX6_valueOf_c5_s (n : Nat) (a1 : Int32) (a2 : Int32) (a3 : Int32) (a4 : Int32) (σ : xSt) : fX6_valueOf_c5 (n + 1) a1 a2 a3 a4 σ = ((if a2 ≤ a4 then some (a3, σ) else (if (a1 + 4) ≤ a4 then some (a3, σ) else (xr σ 50 80 a4 fun v1 => (xl (((10 * a3) + v1) - 48) fun v2 => (xl (a4 + 1) fun v3 => fX6_valueOf_c5 n a1 a2 v2 v3 σ))))) : Option (Int32 × xSt)) := rfl
def fX6_valueOf (p0 : Int32) (p1 : Int32) (σ : xSt) : Option (Int32 × xSt) := fX6_valueOf_c5 xFU p0 p1 0 p0 σ
abbrev rmX6_valueOf : Room := { frames := 0, cells := 0, slots := 0, locals := 0 }
set_option maxRecDepth 100000 in
set_option maxHeartbeats 4000000 in
theorem mX6_valueOf {l : Launch} {E : xE} (hE : E.sh = shX) (p0 : Int32) (p1 : Int32) (σ : xSt) (o1 : Int32) (o2 : xSt) (hf : fX6_valueOf p0 p1 σ = some (o1, o2)) : xMi l yX6_valueOf wsX6_valueOf rmX6_valueOf E [.ref (E.a 49), .int p0, .int p1] σ o1 o2 := by
  unfold fX6_valueOf at hf
  refine xMi_of (cc := cX6_valueOf) (maxL := 5) (ret := (some .int)) (by decide) rfl (Nat.le_of_ble_eq_true rfl) ?_
  intro p e s m args below meth c A ls ⟨hx, hb, hr, hml, hown, hts, hlk⟩ hA hG hw hl
  have hown : s.vm.findClass RX6 = some m.cls := hown
  have hl : lv_has ls 5 [(0, .ref (E.a 49)), (1, .int p0), (2, .int p1)] := hl
  have hk11 := hts (.fieldLink RX6 11 "OvenRound$PartsText" "bytes" "[I") (by decide +kernel)
  have hiX6 : ∀ w ∈ wsX60, w ∈ wsX6_valueOf := by decide +kernel
  have h5 : ∀ (n : Nat) (a1 : Int32) (a2 : Int32) (a3 : Int32) (a4 : Int32) (σ : xSt) (H : Heap) (locs : List Loc) (ls : Array Slot), xw E A s.heap s σ H locs → lv_has ls 5 [(0, .ref (E.a 49)), (1, .int a1), (2, .int a2), (3, .int a3), (4, .int a4)] → fX6_valueOf_c5 n a1 a2 a3 a4 σ = some (o1, o2) → W p l e rmX6_valueOf s m args below meth c H locs 0 0 (MQ below (xQi E A o1 o2) args s 0 0 A) (F0 m 5 ls []) := by
    intro n5
    induction n5 with
    | zero => intro a1 a2 a3 a4 σ H locs ls hw hl hf; exact nomatch hf
    | succ n5 ih5 =>
      intro a1 a2 a3 a4 σ H locs ls hw hl hf
      rw [fX6_valueOf_c5_s] at hf
      refine lv_iload hx hb dX6_valueOf_5 (lv_at hl 4 rfl) ?_
      refine lv_iload_n hx hb dX6_valueOf_7 rfl (lv_at hl 2 rfl) ?_
      refine lv_icmp_ge (tgt := 41) hx hb dX6_valueOf_8 (by decide) (fun c8 => ?_) (fun c8 => ?_)
      · replace hf := xif_pos c8 hf
        refine lv_iload_n hx hb dX6_valueOf_41 rfl (lv_at hl 3 rfl) ?_
        exact x_iret hx hb hr hlk hw hf dX6_valueOf_42
      · replace hf := xif_neg c8 hf
        refine lv_iload hx hb dX6_valueOf_11 (lv_at hl 4 rfl) ?_
        refine lv_iload_n hx hb dX6_valueOf_13 rfl (lv_at hl 1 rfl) ?_
        refine lv_iconst (v := 4) hx hb dX6_valueOf_14 (by decide) ?_
        refine lv_iadd hx hb dX6_valueOf_15 ?_
        refine lv_icmp_ge (tgt := 41) hx hb dX6_valueOf_16 (by decide) (fun c16 => ?_) (fun c16 => ?_)
        · replace hf := xif_pos c16 hf
          refine lv_iload_n hx hb dX6_valueOf_41 rfl (lv_at hl 3 rfl) ?_
          exact x_iret hx hb hr hlk hw hf dX6_valueOf_42
        · replace hf := xif_neg c16 hf
          refine lv_bipush (v := 10) hx hb dX6_valueOf_19 (by decide) ?_
          refine lv_iload_n hx hb dX6_valueOf_21 rfl (lv_at hl 3 rfl) ?_
          refine lv_imul hx hb dX6_valueOf_22 ?_
          refine lv_aload_n hx hb dX6_valueOf_23 rfl (lv_at hl 0 rfl) ?_
          refine x_getr hx hb hw (cX49 hE) (own := RX6) (ref := RX6) (C := RX6) (T := TX6) (N := 3) hts hiX6 hown rfl 0 (by decide) hk11 (fun _ h9 => h9) rfl dX6_valueOf_24 ?_
          refine lv_iload hx hb dX6_valueOf_27 (lv_at hl 4 rfl) ?_
          obtain ⟨hin, hf⟩ := xr_f hf
          refine x_iald hx hb hw (cX50 hE) hin dX6_valueOf_29 ?_
          refine lv_topi (fun v1 ex => ?_)
          replace hf := hf v1 ex
          clear ex hin
          refine lv_iadd hx hb dX6_valueOf_30 ?_
          refine lv_bipush (v := 48) hx hb dX6_valueOf_31 (by decide) ?_
          refine lv_isub hx hb dX6_valueOf_33 ?_
          refine lv_topi (fun v2 ex => ?_)
          replace hf := xl_f hf v2 ex
          clear ex
          refine lv_istore_n (lv' := [(3, .int v2), (0, .ref (E.a 49)), (1, .int a1), (2, .int a2), (4, .int a4)]) hx hb dX6_valueOf_34 rfl hl (by decide) rfl (fun ls hl => ?_)
          obtain ⟨v3, ex⟩ : ∃ y : Int32, y = (a4 + 1) := ⟨_, rfl⟩
          replace hf := xl_f hf v3 ex
          refine lv_iinc (v := v3) (lv' := [(4, .int v3), (3, .int v2), (0, .ref (E.a 49)), (1, .int a1), (2, .int a2)]) hx hb dX6_valueOf_35 hl (k := 4) rfl (by rw [ex]; rfl) (by decide) rfl (fun ls hl => ?_)
          clear ex
          refine lv_goto (tgt := 5) hx hb dX6_valueOf_38 (by decide) ?_
          exact ih5 a1 a2 v2 v3 σ _ _ _ hw (lv_sub hl [2, 3, 4, 1, 0] rfl) hf
  refine lv_iconst (v := 0) hx hb dX6_valueOf_0 (by decide) ?_
  refine lv_istore_n (lv' := [(3, .int 0), (0, .ref (E.a 49)), (1, .int p0), (2, .int p1)]) hx hb dX6_valueOf_1 rfl hl (by decide) rfl (fun ls hl => ?_)
  refine lv_iload_n hx hb dX6_valueOf_2 rfl (lv_at hl 2 rfl) ?_
  refine lv_istore (lv' := [(4, .int p0), (3, .int 0), (0, .ref (E.a 49)), (1, .int p0), (2, .int p1)]) hx hb dX6_valueOf_3 hl (by decide) rfl (fun ls hl => ?_)
  exact h5 xFU p0 p1 0 p0 σ _ _ _ hw (lv_sub hl [2, 3, 4, 1, 0] rfl) hf

def fX6_isNumber (p0 : Int32) (p1 : Int32) (σ : xSt) : Option (Int32 × xSt) := (xc2 (fX11_isWithin (p1 - p0) 1 4 σ) fun r1 σ2 => xb r1 (some (r1, σ2)))
abbrev rmX6_isNumber : Room := { frames := 1, cells := 0, slots := 0, locals := 22 }
set_option maxRecDepth 100000 in
set_option maxHeartbeats 4000000 in
theorem mX6_isNumber {l : Launch} {E : xE} (hE : E.sh = shX) (p0 : Int32) (p1 : Int32) (σ : xSt) (o1 : Int32) (o2 : xSt) (hf : fX6_isNumber p0 p1 σ = some (o1, o2)) : xMi l yX6_isNumber wsX6_isNumber rmX6_isNumber E [.int p0, .int p1] σ o1 o2 := by
  unfold fX6_isNumber at hf
  refine xMi_of (cc := cX6_isNumber) (maxL := 2) (ret := (some .boolean)) (by decide) rfl (Nat.le_of_ble_eq_true rfl) ?_
  intro p e s m args below meth c A ls ⟨hx, hb, hr, hml, hown, hts, hlk⟩ hA hG hw hl
  have hown : s.vm.findClass RX6 = some m.cls := hown
  have hl : lv_has ls 2 [(0, .int p0), (1, .int p1)] := hl
  refine lv_iload_n hx hb dX6_isNumber_0 rfl (lv_at hl 1 rfl) ?_
  refine lv_iload_n hx hb dX6_isNumber_1 rfl (lv_at hl 0 rfl) ?_
  refine lv_isub hx hb dX6_isNumber_2 ?_
  refine lv_iconst (v := 1) hx hb dX6_isNumber_3 (by decide) ?_
  refine lv_iconst (v := 4) hx hb dX6_isNumber_4 (by decide) ?_
  obtain ⟨r1, σ2, hcl, hf⟩ := xc2_f hf
  refine x_calli (va_runSN (As := [.int (p1 - p0), .int 1, .int 4]) (rest := []) ⟨hx, hb, hml, hown, hts⟩ (mX11_isWithin hE (p1 - p0) 1 4 σ r1 σ2 hcl s.heap.size) ⟨va_cnB 3 hts gX6_isNumber_X11_isWithin_n22 rfl rfl rfl (hG.1 (.methodLinkNest RX6 22 yX11_isWithin RX11) (by decide +kernel)) (hts (.initialized RX11) (by decide +kernel)) (by decide +kernel) ⟨Nat.le_of_ble_eq_true rfl, Nat.le_of_ble_eq_true rfl⟩, hts (.static yX11_isWithin) (by decide +kernel), trivial⟩ (x_preS _ hw hA hG) rfl rfl hl.1 rfl (lv_room (Nat.le_of_ble_eq_true rfl)) dX6_isNumber_5 ⟨Nat.le_of_ble_eq_true rfl, Nat.le_of_ble_eq_true rfl⟩) hw hA (fun H locs hw => ?_)
  clear hcl
  exact x_zret hx hb hr hlk hw hf dX6_isNumber_8

def fX6_faultOfNumber (p0 : Int32) (p1 : Int32) (σ : xSt) : Option (Int32 × xSt) := (if p1 ≤ p0 then some (p0, σ) else some ((p0 + 4), σ))
abbrev rmX6_faultOfNumber : Room := { frames := 0, cells := 0, slots := 0, locals := 0 }
set_option maxRecDepth 100000 in
set_option maxHeartbeats 4000000 in
theorem mX6_faultOfNumber {l : Launch} {E : xE} (hE : E.sh = shX) (p0 : Int32) (p1 : Int32) (σ : xSt) (o1 : Int32) (o2 : xSt) (hf : fX6_faultOfNumber p0 p1 σ = some (o1, o2)) : xMi l yX6_faultOfNumber wsX6_faultOfNumber rmX6_faultOfNumber E [.int p0, .int p1] σ o1 o2 := by
  unfold fX6_faultOfNumber at hf
  refine xMi_of (cc := cX6_faultOfNumber) (maxL := 2) (ret := (some .int)) (by decide) rfl (Nat.le_of_ble_eq_true rfl) ?_
  intro p e s m args below meth c A ls ⟨hx, hb, hr, hml, hown, hts, hlk⟩ hA hG hw hl
  have hown : s.vm.findClass RX6 = some m.cls := hown
  have hl : lv_has ls 2 [(0, .int p0), (1, .int p1)] := hl
  refine lv_iload_n hx hb dX6_faultOfNumber_0 rfl (lv_at hl 1 rfl) ?_
  refine lv_iload_n hx hb dX6_faultOfNumber_1 rfl (lv_at hl 0 rfl) ?_
  refine lv_icmp_le (tgt := 11) hx hb dX6_faultOfNumber_2 (by decide) (fun c2 => ?_) (fun c2 => ?_)
  · replace hf := xif_pos c2 hf
    refine lv_iload_n hx hb dX6_faultOfNumber_11 rfl (lv_at hl 0 rfl) ?_
    exact x_iret hx hb hr hlk hw hf dX6_faultOfNumber_12
  · replace hf := xif_neg c2 hf
    refine lv_iload_n hx hb dX6_faultOfNumber_5 rfl (lv_at hl 0 rfl) ?_
    refine lv_iconst (v := 4) hx hb dX6_faultOfNumber_6 (by decide) ?_
    refine lv_iadd hx hb dX6_faultOfNumber_7 ?_
    refine lv_goto (tgt := 12) hx hb dX6_faultOfNumber_8 (by decide) ?_
    exact x_iret hx hb hr hlk hw hf dX6_faultOfNumber_12

def fX6_read_c14 : Nat → Int32 → Int32 → Int32 → xSt → Option (Int32 × xSt)
  | 0 => fun _ _ _ _ => none
  | n + 1 => fun a1 a2 a3 σ => (if 8 < a3 then some (a1, σ) else (xc2 (fX6_skipBlanks a1 σ) fun r3 σ4 => (xc2 (fX6_endOfNumber r3 σ4) fun r5 σ6 => (xc2 (fX6_valueOf r3 r5 σ6) fun r7 σ8 => (xc2 (fX6_isNumber r3 r5 σ8) fun r9 σ10 => (if r9 = 0 then (xc2 (fX6_faultOfNumber r3 r5 σ10) fun r32 σ33 => some (r32, σ33)) else (if 8 ≤ r7 then some (r3, σ10) else (if a2 < r7 then (xc2 (fX6_skipBlanks r5 σ10) fun r11 σ12 => (xc2 (fX6_hasAt r11 58 σ12) fun r13 σ14 => (if r13 = 0 then some (r11, σ14) else (xc2 (fX6_skipBlanks (r11 + 1) σ14) fun r15 σ16 => (xc2 (fX6_endOfNumber r15 σ16) fun r17 σ18 => (xc2 (fX6_isNumber r15 r17 σ18) fun r19 σ20 => (if r19 = 0 then (xc2 (fX6_faultOfNumber r15 r17 σ20) fun r30 σ31 => some (r30, σ31)) else (xc2 (fX6_valueOf r15 r17 σ20) fun r21 σ22 => (xs σ22 51 8 r7 r21 fun σ23 => (xc2 (fX6_skipBlanks r17 σ23) fun r24 σ25 => (if r24 < (σ25 49 1) then (xc2 (fX6_hasAt r24 44 σ25) fun r26 σ27 => (if r26 = 0 then some (r24, σ27) else (xl (r24 + 1) fun v28 => (xl (a3 + 1) fun v29 => fX6_read_c14 n v28 r7 v29 σ27)))) else some ((-1), σ25)))))))))))) else some (r3, σ10)))))))))
theorem fX6_read_c14_s (n : Nat) (a1 : Int32) (a2 : Int32) (a3 : Int32) (σ : xSt) : fX6_read_c14 (n + 1) a1 a2 a3 σ = ((if 8 < a3 then some (a1, σ) else (xc2 (fX6_skipBlanks a1 σ) fun r3 σ4 => (xc2 (fX6_endOfNumber r3 σ4) fun r5 σ6 => (xc2 (fX6_valueOf r3 r5 σ6) fun r7 σ8 => (xc2 (fX6_isNumber r3 r5 σ8) fun r9 σ10 => (if r9 = 0 then (xc2 (fX6_faultOfNumber r3 r5 σ10) fun r32 σ33 => some (r32, σ33)) else (if 8 ≤ r7 then some (r3, σ10) else (if a2 < r7 then (xc2 (fX6_skipBlanks r5 σ10) fun r11 σ12 => (xc2 (fX6_hasAt r11 58 σ12) fun r13 σ14 => (if r13 = 0 then some (r11, σ14) else (xc2 (fX6_skipBlanks (r11 + 1) σ14) fun r15 σ16 => (xc2 (fX6_endOfNumber r15 σ16) fun r17 σ18 => (xc2 (fX6_isNumber r15 r17 σ18) fun r19 σ20 => (if r19 = 0 then (xc2 (fX6_faultOfNumber r15 r17 σ20) fun r30 σ31 => some (r30, σ31)) else (xc2 (fX6_valueOf r15 r17 σ20) fun r21 σ22 => (xs σ22 51 8 r7 r21 fun σ23 => (xc2 (fX6_skipBlanks r17 σ23) fun r24 σ25 => (if r24 < (σ25 49 1) then (xc2 (fX6_hasAt r24 44 σ25) fun r26 σ27 => (if r26 = 0 then some (r24, σ27) else (xl (r24 + 1) fun v28 => (xl (a3 + 1) fun v29 => fX6_read_c14 n v28 r7 v29 σ27)))) else some ((-1), σ25)))))))))))) else some (r3, σ10))))))))) : Option (Int32 × xSt)) := rfl
def fX6_read (σ : xSt) : Option (Int32 × xSt) := (xc (fJ7_fill_53178 51 8 0 σ) fun σ2 => fX6_read_c14 xFU 0 (-1) 0 σ2)
abbrev rmX6_read : Room := { frames := 2, cells := 0, slots := 0, locals := 44 }
set_option maxRecDepth 100000 in
set_option maxHeartbeats 4000000 in
theorem mX6_read {l : Launch} {E : xE} (hE : E.sh = shX) (σ : xSt) (o1 : Int32) (o2 : xSt) (hf : fX6_read σ = some (o1, o2)) : xMi l yX6_read wsX6_read rmX6_read E [.ref (E.a 49)] σ o1 o2 := by
  unfold fX6_read at hf
  refine xMi_of (cc := cX6_read) (maxL := 11) (ret := (some .int)) (by decide) rfl (Nat.le_of_ble_eq_true rfl) ?_
  intro p e s m args below meth c A ls ⟨hx, hb, hr, hml, hown, hts, hlk⟩ hA hG hw hl
  have hown : s.vm.findClass RX6 = some m.cls := hown
  have hl : lv_has ls 11 [(0, .ref (E.a 49))] := hl
  have hk15 := hts (.fieldLink RX6 15 "OvenRound$PartsText" "parts" "[I") (by decide +kernel)
  have hiX6 : ∀ w ∈ wsX60, w ∈ wsX6_read := by decide +kernel
  have hk26 := hts (.fieldLink RX6 26 "OvenRound$PartsText" "length" "I") (by decide +kernel)
  have h14 : ∀ (n : Nat) (a1 : Int32) (a2 : Int32) (a3 : Int32) (σ : xSt) (H : Heap) (locs : List Loc) (ls : Array Slot), xw E A s.heap s σ H locs → lv_has ls 11 [(0, .ref (E.a 49)), (1, .int a1), (2, .int a2), (3, .int a3)] → fX6_read_c14 n a1 a2 a3 σ = some (o1, o2) → W p l e rmX6_read s m args below meth c H locs 0 0 (MQ below (xQi E A o1 o2) args s 0 0 A) (F0 m 14 ls []) := by
    intro n14
    induction n14 with
    | zero => intro a1 a2 a3 σ H locs ls hw hl hf; exact nomatch hf
    | succ n14 ih14 =>
      intro a1 a2 a3 σ H locs ls hw hl hf
      rw [fX6_read_c14_s] at hf
      refine lv_iload_n hx hb dX6_read_14 rfl (lv_at hl 3 rfl) ?_
      refine lv_bipush (v := 8) hx hb dX6_read_15 (by decide) ?_
      refine lv_icmp_gt (tgt := 199) hx hb dX6_read_17 (by decide) (fun c17 => ?_) (fun c17 => ?_)
      · replace hf := xif_pos c17 hf
        refine lv_iload_n hx hb dX6_read_199 rfl (lv_at hl 1 rfl) ?_
        exact x_iret hx hb hr hlk hw hf dX6_read_200
      · replace hf := xif_neg c17 hf
        refine lv_aload_n hx hb dX6_read_20 rfl (lv_at hl 0 rfl) ?_
        refine lv_iload_n hx hb dX6_read_21 rfl (lv_at hl 1 rfl) ?_
        obtain ⟨r3, σ4, hcl, hf⟩ := xc2_f hf
        refine x_calli (va_runV (As := [.int a1]) (rest := []) ⟨hx, hb, hml, hown, hts⟩ (mX6_skipBlanks hE a1 σ r3 σ4 hcl H.size) (cwV 1 hts gX6_read_X6_skipBlanks rfl rfl rfl (by decide +kernel) ⟨Nat.le_of_ble_eq_true rfl, Nat.le_of_ble_eq_true rfl⟩) (x_preV _ hw hA hG (cX49 hE) rfl) rfl rfl hl.1 rfl (lv_room (Nat.le_of_ble_eq_true rfl)) dX6_read_22 ⟨Nat.le_of_ble_eq_true rfl, Nat.le_of_ble_eq_true rfl⟩) hw hA (fun H locs hw => ?_)
        clear hcl
        refine lv_istore (lv' := [(4, .int r3), (0, .ref (E.a 49)), (1, .int a1), (2, .int a2), (3, .int a3)]) hx hb dX6_read_25 hl (by decide) rfl (fun ls hl => ?_)
        refine lv_aload_n hx hb dX6_read_27 rfl (lv_at hl 1 rfl) ?_
        refine lv_iload hx hb dX6_read_28 (lv_at hl 0 rfl) ?_
        obtain ⟨r5, σ6, hcl, hf⟩ := xc2_f hf
        refine x_calli (va_runV (As := [.int r3]) (rest := []) ⟨hx, hb, hml, hown, hts⟩ (mX6_endOfNumber hE r3 σ4 r5 σ6 hcl H.size) (cwV 1 hts gX6_read_X6_endOfNumber rfl rfl rfl (by decide +kernel) ⟨Nat.le_of_ble_eq_true rfl, Nat.le_of_ble_eq_true rfl⟩) (x_preV _ hw hA hG (cX49 hE) rfl) rfl rfl hl.1 rfl (lv_room (Nat.le_of_ble_eq_true rfl)) dX6_read_30 ⟨Nat.le_of_ble_eq_true rfl, Nat.le_of_ble_eq_true rfl⟩) hw hA (fun H locs hw => ?_)
        clear hcl
        refine lv_istore (lv' := [(5, .int r5), (4, .int r3), (0, .ref (E.a 49)), (1, .int a1), (2, .int a2), (3, .int a3)]) hx hb dX6_read_33 hl (by decide) rfl (fun ls hl => ?_)
        refine lv_aload_n hx hb dX6_read_35 rfl (lv_at hl 2 rfl) ?_
        refine lv_iload hx hb dX6_read_36 (lv_at hl 1 rfl) ?_
        refine lv_iload hx hb dX6_read_38 (lv_at hl 0 rfl) ?_
        obtain ⟨r7, σ8, hcl, hf⟩ := xc2_f hf
        refine x_calli (va_runV (As := [.int r3, .int r5]) (rest := []) ⟨hx, hb, hml, hown, hts⟩ (mX6_valueOf hE r3 r5 σ6 r7 σ8 hcl H.size) (cwV 2 hts gX6_read_X6_valueOf rfl rfl rfl (by decide +kernel) ⟨Nat.le_of_ble_eq_true rfl, Nat.le_of_ble_eq_true rfl⟩) (x_preV _ hw hA hG (cX49 hE) rfl) rfl rfl hl.1 rfl (lv_room (Nat.le_of_ble_eq_true rfl)) dX6_read_40 ⟨Nat.le_of_ble_eq_true rfl, Nat.le_of_ble_eq_true rfl⟩) hw hA (fun H locs hw => ?_)
        clear hcl
        refine lv_istore (lv' := [(6, .int r7), (5, .int r5), (4, .int r3), (0, .ref (E.a 49)), (1, .int a1), (2, .int a2), (3, .int a3)]) hx hb dX6_read_43 hl (by decide) rfl (fun ls hl => ?_)
        refine lv_iload hx hb dX6_read_45 (lv_at hl 2 rfl) ?_
        refine lv_iload hx hb dX6_read_47 (lv_at hl 1 rfl) ?_
        obtain ⟨r9, σ10, hcl, hf⟩ := xc2_f hf
        refine x_calli (va_runS (As := [.int r3, .int r5]) (rest := []) ⟨hx, hb, hml, hown, hts⟩ (mX6_isNumber hE r3 r5 σ8 r9 σ10 hcl H.size) (va_cwS 2 hts gX6_read_X6_isNumber rfl rfl rfl (by decide +kernel) ⟨Nat.le_of_ble_eq_true rfl, Nat.le_of_ble_eq_true rfl⟩) (x_preS _ hw hA hG) rfl rfl hl.1 rfl (lv_room (Nat.le_of_ble_eq_true rfl)) dX6_read_49 ⟨Nat.le_of_ble_eq_true rfl, Nat.le_of_ble_eq_true rfl⟩) hw hA (fun H locs hw => ?_)
        clear hcl
        refine lv_if_ne (tgt := 63) hx hb dX6_read_52 (by decide) (fun c52 => ?_) (fun c52 => ?_)
        · replace hf := xif_neg c52 hf
          refine lv_iload hx hb dX6_read_63 (lv_at hl 0 rfl) ?_
          refine lv_bipush (v := 8) hx hb dX6_read_65 (by decide) ?_
          refine lv_icmp_ge (tgt := 76) hx hb dX6_read_67 (by decide) (fun c67 => ?_) (fun c67 => ?_)
          · replace hf := xif_pos c67 hf
            refine lv_iload hx hb dX6_read_76 (lv_at hl 2 rfl) ?_
            exact x_iret hx hb hr hlk hw hf dX6_read_78
          · replace hf := xif_neg c67 hf
            refine lv_iload hx hb dX6_read_70 (lv_at hl 0 rfl) ?_
            refine lv_iload_n hx hb dX6_read_72 rfl (lv_at hl 5 rfl) ?_
            refine lv_icmp_gt (tgt := 79) hx hb dX6_read_73 (by decide) (fun c73 => ?_) (fun c73 => ?_)
            · replace hf := xif_pos c73 hf
              refine lv_aload_n hx hb dX6_read_79 rfl (lv_at hl 3 rfl) ?_
              refine lv_iload hx hb dX6_read_80 (lv_at hl 1 rfl) ?_
              obtain ⟨r11, σ12, hcl, hf⟩ := xc2_f hf
              refine x_calli (va_runV (As := [.int r5]) (rest := []) ⟨hx, hb, hml, hown, hts⟩ (mX6_skipBlanks hE r5 σ10 r11 σ12 hcl H.size) (cwV 1 hts gX6_read_X6_skipBlanks rfl rfl rfl (by decide +kernel) ⟨Nat.le_of_ble_eq_true rfl, Nat.le_of_ble_eq_true rfl⟩) (x_preV _ hw hA hG (cX49 hE) rfl) rfl rfl hl.1 rfl (lv_room (Nat.le_of_ble_eq_true rfl)) dX6_read_82 ⟨Nat.le_of_ble_eq_true rfl, Nat.le_of_ble_eq_true rfl⟩) hw hA (fun H locs hw => ?_)
              clear hcl
              refine lv_istore (lv' := [(7, .int r11), (6, .int r7), (5, .int r5), (4, .int r3), (0, .ref (E.a 49)), (1, .int a1), (2, .int a2), (3, .int a3)]) hx hb dX6_read_85 hl (by decide) rfl (fun ls hl => ?_)
              refine lv_aload_n hx hb dX6_read_87 rfl (lv_at hl 4 rfl) ?_
              refine lv_iload hx hb dX6_read_88 (lv_at hl 0 rfl) ?_
              refine lv_bipush (v := 58) hx hb dX6_read_90 (by decide) ?_
              obtain ⟨r13, σ14, hcl, hf⟩ := xc2_f hf
              refine x_calli (va_runV (As := [.int r11, .int 58]) (rest := []) ⟨hx, hb, hml, hown, hts⟩ (mX6_hasAt hE r11 58 σ12 r13 σ14 hcl H.size) (cwV 2 hts gX6_read_X6_hasAt rfl rfl rfl (by decide +kernel) ⟨Nat.le_of_ble_eq_true rfl, Nat.le_of_ble_eq_true rfl⟩) (x_preV _ hw hA hG (cX49 hE) rfl) rfl rfl hl.1 rfl (lv_room (Nat.le_of_ble_eq_true rfl)) dX6_read_92 ⟨Nat.le_of_ble_eq_true rfl, Nat.le_of_ble_eq_true rfl⟩) hw hA (fun H locs hw => ?_)
              clear hcl
              refine lv_if_ne (tgt := 101) hx hb dX6_read_95 (by decide) (fun c95 => ?_) (fun c95 => ?_)
              · replace hf := xif_neg c95 hf
                refine lv_aload_n hx hb dX6_read_101 rfl (lv_at hl 4 rfl) ?_
                refine lv_iload hx hb dX6_read_102 (lv_at hl 0 rfl) ?_
                refine lv_iconst (v := 1) hx hb dX6_read_104 (by decide) ?_
                refine lv_iadd hx hb dX6_read_105 ?_
                obtain ⟨r15, σ16, hcl, hf⟩ := xc2_f hf
                refine x_calli (va_runV (As := [.int (r11 + 1)]) (rest := []) ⟨hx, hb, hml, hown, hts⟩ (mX6_skipBlanks hE (r11 + 1) σ14 r15 σ16 hcl H.size) (cwV 1 hts gX6_read_X6_skipBlanks rfl rfl rfl (by decide +kernel) ⟨Nat.le_of_ble_eq_true rfl, Nat.le_of_ble_eq_true rfl⟩) (x_preV _ hw hA hG (cX49 hE) rfl) rfl rfl hl.1 rfl (lv_room (Nat.le_of_ble_eq_true rfl)) dX6_read_106 ⟨Nat.le_of_ble_eq_true rfl, Nat.le_of_ble_eq_true rfl⟩) hw hA (fun H locs hw => ?_)
                clear hcl
                refine lv_istore (lv' := [(8, .int r15), (7, .int r11), (6, .int r7), (5, .int r5), (4, .int r3), (0, .ref (E.a 49)), (1, .int a1), (2, .int a2), (3, .int a3)]) hx hb dX6_read_109 hl (by decide) rfl (fun ls hl => ?_)
                refine lv_aload_n hx hb dX6_read_111 rfl (lv_at hl 5 rfl) ?_
                refine lv_iload hx hb dX6_read_112 (lv_at hl 0 rfl) ?_
                obtain ⟨r17, σ18, hcl, hf⟩ := xc2_f hf
                refine x_calli (va_runV (As := [.int r15]) (rest := []) ⟨hx, hb, hml, hown, hts⟩ (mX6_endOfNumber hE r15 σ16 r17 σ18 hcl H.size) (cwV 1 hts gX6_read_X6_endOfNumber rfl rfl rfl (by decide +kernel) ⟨Nat.le_of_ble_eq_true rfl, Nat.le_of_ble_eq_true rfl⟩) (x_preV _ hw hA hG (cX49 hE) rfl) rfl rfl hl.1 rfl (lv_room (Nat.le_of_ble_eq_true rfl)) dX6_read_114 ⟨Nat.le_of_ble_eq_true rfl, Nat.le_of_ble_eq_true rfl⟩) hw hA (fun H locs hw => ?_)
                clear hcl
                refine lv_istore (lv' := [(9, .int r17), (8, .int r15), (7, .int r11), (6, .int r7), (5, .int r5), (4, .int r3), (0, .ref (E.a 49)), (1, .int a1), (2, .int a2), (3, .int a3)]) hx hb dX6_read_117 hl (by decide) rfl (fun ls hl => ?_)
                refine lv_iload hx hb dX6_read_119 (lv_at hl 1 rfl) ?_
                refine lv_iload hx hb dX6_read_121 (lv_at hl 0 rfl) ?_
                obtain ⟨r19, σ20, hcl, hf⟩ := xc2_f hf
                refine x_calli (va_runS (As := [.int r15, .int r17]) (rest := []) ⟨hx, hb, hml, hown, hts⟩ (mX6_isNumber hE r15 r17 σ18 r19 σ20 hcl H.size) (va_cwS 2 hts gX6_read_X6_isNumber rfl rfl rfl (by decide +kernel) ⟨Nat.le_of_ble_eq_true rfl, Nat.le_of_ble_eq_true rfl⟩) (x_preS _ hw hA hG) rfl rfl hl.1 rfl (lv_room (Nat.le_of_ble_eq_true rfl)) dX6_read_123 ⟨Nat.le_of_ble_eq_true rfl, Nat.le_of_ble_eq_true rfl⟩) hw hA (fun H locs hw => ?_)
                clear hcl
                refine lv_if_ne (tgt := 137) hx hb dX6_read_126 (by decide) (fun c126 => ?_) (fun c126 => ?_)
                · replace hf := xif_neg c126 hf
                  refine lv_aload_n hx hb dX6_read_137 rfl (lv_at hl 6 rfl) ?_
                  refine x_getr hx hb hw (cX49 hE) (own := RX6) (ref := RX6) (C := RX6) (T := TX6) (N := 3) hts hiX6 hown rfl 2 (by decide) hk15 (fun _ h9 => h9) rfl dX6_read_138 ?_
                  refine lv_iload hx hb dX6_read_141 (lv_at hl 3 rfl) ?_
                  refine lv_aload_n hx hb dX6_read_143 rfl (lv_at hl 6 rfl) ?_
                  refine lv_iload hx hb dX6_read_144 (lv_at hl 1 rfl) ?_
                  refine lv_iload hx hb dX6_read_146 (lv_at hl 0 rfl) ?_
                  obtain ⟨r21, σ22, hcl, hf⟩ := xc2_f hf
                  refine x_calli (va_runV (As := [.int r15, .int r17]) (rest := [.int r7, .ref (E.a 51)]) ⟨hx, hb, hml, hown, hts⟩ (mX6_valueOf hE r15 r17 σ20 r21 σ22 hcl H.size) (cwV 2 hts gX6_read_X6_valueOf rfl rfl rfl (by decide +kernel) ⟨Nat.le_of_ble_eq_true rfl, Nat.le_of_ble_eq_true rfl⟩) (x_preV _ hw hA hG (cX49 hE) rfl) rfl rfl hl.1 rfl (lv_room (Nat.le_of_ble_eq_true rfl)) dX6_read_148 ⟨Nat.le_of_ble_eq_true rfl, Nat.le_of_ble_eq_true rfl⟩) hw hA (fun H locs hw => ?_)
                  clear hcl
                  obtain ⟨hin, hf⟩ := xs_f hf
                  refine x_iast hx hb hw (cX51 hE) hin dX6_read_151 (fun σ23 H locs ex hw => ?_)
                  replace hf := hf σ23 ex
                  clear ex hin
                  refine lv_aload_n hx hb dX6_read_152 rfl (lv_at hl 6 rfl) ?_
                  refine lv_iload hx hb dX6_read_153 (lv_at hl 0 rfl) ?_
                  obtain ⟨r24, σ25, hcl, hf⟩ := xc2_f hf
                  refine x_calli (va_runV (As := [.int r17]) (rest := []) ⟨hx, hb, hml, hown, hts⟩ (mX6_skipBlanks hE r17 σ23 r24 σ25 hcl H.size) (cwV 1 hts gX6_read_X6_skipBlanks rfl rfl rfl (by decide +kernel) ⟨Nat.le_of_ble_eq_true rfl, Nat.le_of_ble_eq_true rfl⟩) (x_preV _ hw hA hG (cX49 hE) rfl) rfl rfl hl.1 rfl (lv_room (Nat.le_of_ble_eq_true rfl)) dX6_read_155 ⟨Nat.le_of_ble_eq_true rfl, Nat.le_of_ble_eq_true rfl⟩) hw hA (fun H locs hw => ?_)
                  clear hcl
                  refine lv_istore (lv' := [(10, .int r24), (9, .int r17), (8, .int r15), (7, .int r11), (6, .int r7), (5, .int r5), (4, .int r3), (0, .ref (E.a 49)), (1, .int a1), (2, .int a2), (3, .int a3)]) hx hb dX6_read_158 hl (by decide) rfl (fun ls hl => ?_)
                  refine lv_iload hx hb dX6_read_160 (lv_at hl 0 rfl) ?_
                  refine lv_aload_n hx hb dX6_read_162 rfl (lv_at hl 7 rfl) ?_
                  refine x_geti hx hb hw (cX49 hE) (own := RX6) (ref := RX6) (C := RX6) (T := TX6) (N := 3) hts hiX6 hown rfl 1 (by decide) hk26 (fun _ h9 => h9) rfl dX6_read_163 ?_
                  refine lv_icmp_lt (tgt := 171) hx hb dX6_read_166 (by decide) (fun c166 => ?_) (fun c166 => ?_)
                  · replace hf := xif_pos c166 hf
                    refine lv_aload_n hx hb dX6_read_171 rfl (lv_at hl 7 rfl) ?_
                    refine lv_iload hx hb dX6_read_172 (lv_at hl 0 rfl) ?_
                    refine lv_bipush (v := 44) hx hb dX6_read_174 (by decide) ?_
                    obtain ⟨r26, σ27, hcl, hf⟩ := xc2_f hf
                    refine x_calli (va_runV (As := [.int r24, .int 44]) (rest := []) ⟨hx, hb, hml, hown, hts⟩ (mX6_hasAt hE r24 44 σ25 r26 σ27 hcl H.size) (cwV 2 hts gX6_read_X6_hasAt rfl rfl rfl (by decide +kernel) ⟨Nat.le_of_ble_eq_true rfl, Nat.le_of_ble_eq_true rfl⟩) (x_preV _ hw hA hG (cX49 hE) rfl) rfl rfl hl.1 rfl (lv_room (Nat.le_of_ble_eq_true rfl)) dX6_read_176 ⟨Nat.le_of_ble_eq_true rfl, Nat.le_of_ble_eq_true rfl⟩) hw hA (fun H locs hw => ?_)
                    clear hcl
                    refine lv_if_ne (tgt := 185) hx hb dX6_read_179 (by decide) (fun c179 => ?_) (fun c179 => ?_)
                    · replace hf := xif_neg c179 hf
                      refine lv_iload hx hb dX6_read_185 (lv_at hl 0 rfl) ?_
                      refine lv_iconst (v := 1) hx hb dX6_read_187 (by decide) ?_
                      refine lv_iadd hx hb dX6_read_188 ?_
                      refine lv_topi (fun v28 ex => ?_)
                      replace hf := xl_f hf v28 ex
                      clear ex
                      refine lv_istore_n (lv' := [(1, .int v28), (10, .int r24), (9, .int r17), (8, .int r15), (7, .int r11), (6, .int r7), (5, .int r5), (4, .int r3), (0, .ref (E.a 49)), (2, .int a2), (3, .int a3)]) hx hb dX6_read_189 rfl hl (by decide) rfl (fun ls hl => ?_)
                      refine lv_iload hx hb dX6_read_190 (lv_at hl 5 rfl) ?_
                      refine lv_istore_n (lv' := [(2, .int r7), (1, .int v28), (10, .int r24), (9, .int r17), (8, .int r15), (7, .int r11), (6, .int r7), (5, .int r5), (4, .int r3), (0, .ref (E.a 49)), (3, .int a3)]) hx hb dX6_read_192 rfl hl (by decide) rfl (fun ls hl => ?_)
                      obtain ⟨v29, ex⟩ : ∃ y : Int32, y = (a3 + 1) := ⟨_, rfl⟩
                      replace hf := xl_f hf v29 ex
                      refine lv_iinc (v := v29) (lv' := [(3, .int v29), (2, .int r7), (1, .int v28), (10, .int r24), (9, .int r17), (8, .int r15), (7, .int r11), (6, .int r7), (5, .int r5), (4, .int r3), (0, .ref (E.a 49))]) hx hb dX6_read_193 hl (k := 10) rfl (by rw [ex]; rfl) (by decide) rfl (fun ls hl => ?_)
                      clear ex
                      refine lv_goto (tgt := 14) hx hb dX6_read_196 (by decide) ?_
                      exact ih14 v28 r7 v29 σ27 _ _ _ hw (lv_sub hl [10, 2, 1, 0] rfl) hf
                    · replace hf := xif_pos c179 hf
                      refine lv_iload hx hb dX6_read_182 (lv_at hl 0 rfl) ?_
                      exact x_iret hx hb hr hlk hw hf dX6_read_184
                  · replace hf := xif_neg c166 hf
                    refine lv_iconst (v := (-1)) hx hb dX6_read_169 (by decide) ?_
                    exact x_iret hx hb hr hlk hw hf dX6_read_170
                · replace hf := xif_pos c126 hf
                  refine lv_iload hx hb dX6_read_129 (lv_at hl 1 rfl) ?_
                  refine lv_iload hx hb dX6_read_131 (lv_at hl 0 rfl) ?_
                  obtain ⟨r30, σ31, hcl, hf⟩ := xc2_f hf
                  refine x_calli (va_runS (As := [.int r15, .int r17]) (rest := []) ⟨hx, hb, hml, hown, hts⟩ (mX6_faultOfNumber hE r15 r17 σ20 r30 σ31 hcl H.size) (va_cwS 2 hts gX6_read_X6_faultOfNumber rfl rfl rfl (by decide +kernel) ⟨Nat.le_of_ble_eq_true rfl, Nat.le_of_ble_eq_true rfl⟩) (x_preS _ hw hA hG) rfl rfl hl.1 rfl (lv_room (Nat.le_of_ble_eq_true rfl)) dX6_read_133 ⟨Nat.le_of_ble_eq_true rfl, Nat.le_of_ble_eq_true rfl⟩) hw hA (fun H locs hw => ?_)
                  clear hcl
                  exact x_iret hx hb hr hlk hw hf dX6_read_136
              · replace hf := xif_pos c95 hf
                refine lv_iload hx hb dX6_read_98 (lv_at hl 0 rfl) ?_
                exact x_iret hx hb hr hlk hw hf dX6_read_100
            · replace hf := xif_neg c73 hf
              refine lv_iload hx hb dX6_read_76 (lv_at hl 2 rfl) ?_
              exact x_iret hx hb hr hlk hw hf dX6_read_78
        · replace hf := xif_pos c52 hf
          refine lv_iload hx hb dX6_read_55 (lv_at hl 2 rfl) ?_
          refine lv_iload hx hb dX6_read_57 (lv_at hl 1 rfl) ?_
          obtain ⟨r32, σ33, hcl, hf⟩ := xc2_f hf
          refine x_calli (va_runS (As := [.int r3, .int r5]) (rest := []) ⟨hx, hb, hml, hown, hts⟩ (mX6_faultOfNumber hE r3 r5 σ10 r32 σ33 hcl H.size) (va_cwS 2 hts gX6_read_X6_faultOfNumber rfl rfl rfl (by decide +kernel) ⟨Nat.le_of_ble_eq_true rfl, Nat.le_of_ble_eq_true rfl⟩) (x_preS _ hw hA hG) rfl rfl hl.1 rfl (lv_room (Nat.le_of_ble_eq_true rfl)) dX6_read_59 ⟨Nat.le_of_ble_eq_true rfl, Nat.le_of_ble_eq_true rfl⟩) hw hA (fun H locs hw => ?_)
          clear hcl
          exact x_iret hx hb hr hlk hw hf dX6_read_62
  refine lv_aload_n hx hb dX6_read_0 rfl (lv_at hl 0 rfl) ?_
  refine x_getr hx hb hw (cX49 hE) (own := RX6) (ref := RX6) (C := RX6) (T := TX6) (N := 3) hts hiX6 hown rfl 2 (by decide) hk15 (fun _ h9 => h9) rfl dX6_read_1 ?_
  refine lv_iconst (v := 0) hx hb dX6_read_4 (by decide) ?_
  obtain ⟨σ2, hcl, hf⟩ := xc_e hf
  refine x_callv (va_runS (As := [.ref (E.a 51), .int 0]) (rest := []) ⟨hx, hb, hml, hown, hts⟩ (mJ7_fill_53178 51 8 (cX51 hE) 0 σ σ2 hcl s.heap.size) (va_cwS 2 hts gX6_read_J7_fill_53178 rfl rfl rfl (by decide +kernel) ⟨Nat.le_of_ble_eq_true rfl, Nat.le_of_ble_eq_true rfl⟩) (x_preS _ hw hA hG) rfl rfl hl.1 rfl (lv_room (Nat.le_of_ble_eq_true rfl)) dX6_read_5 ⟨Nat.le_of_ble_eq_true rfl, Nat.le_of_ble_eq_true rfl⟩) hw hA (fun H locs hw => ?_)
  clear hcl
  refine lv_iconst (v := 0) hx hb dX6_read_8 (by decide) ?_
  refine lv_istore_n (lv' := [(1, .int 0), (0, .ref (E.a 49))]) hx hb dX6_read_9 rfl hl (by decide) rfl (fun ls hl => ?_)
  refine lv_iconst (v := (-1)) hx hb dX6_read_10 (by decide) ?_
  refine lv_istore_n (lv' := [(2, .int (-1)), (1, .int 0), (0, .ref (E.a 49))]) hx hb dX6_read_11 rfl hl (by decide) rfl (fun ls hl => ?_)
  refine lv_iconst (v := 0) hx hb dX6_read_12 (by decide) ?_
  refine lv_istore_n (lv' := [(3, .int 0), (2, .int (-1)), (1, .int 0), (0, .ref (E.a 49))]) hx hb dX6_read_13 rfl hl (by decide) rfl (fun ls hl => ?_)
  exact h14 xFU 0 (-1) 0 σ2 _ _ _ hw (lv_sub hl [3, 2, 1, 0] rfl) hf

def fX7_setTicksOfRising (p0 : Int32) (p1 : Int32) (p2 : Int32) (σ : xSt) : Option xSt := (xc2 (fX5_pointsOfATick σ) fun r1 σ2 => (if 0 ≤ p2 then (if r1 ≤ 0 then (if 0 < p1 then some σ2 else (xs σ2 23 20 p0 1000000 fun σ3 => some σ3)) else (xl (if p1 < 0 then 0 else p1) fun v4 => (xnz r1 ((xs σ2 22 20 p0 ((σ2 20 0) + (((v4 + r1) - 1) / r1)) fun σ5 => (xnz r1 ((xs σ5 23 20 p0 ((σ5 20 0) + (p2 / r1)) fun σ6 => some σ6)))))))) else some σ2))
abbrev rmX7_setTicksOfRising : Room := { frames := 2, cells := 0, slots := 0, locals := 42 }
set_option maxRecDepth 100000 in
set_option maxHeartbeats 4000000 in
theorem mX7_setTicksOfRising {l : Launch} {E : xE} (hE : E.sh = shX) (p0 : Int32) (p1 : Int32) (p2 : Int32) (σ : xSt) (o1 : xSt) (hf : fX7_setTicksOfRising p0 p1 p2 σ = some o1) : xMv l yX7_setTicksOfRising wsX7_setTicksOfRising rmX7_setTicksOfRising E [.ref (E.a 21), .int p0, .int p1, .int p2] σ o1 := by
  unfold fX7_setTicksOfRising at hf
  refine xMv_of (cc := cX7_setTicksOfRising) (maxL := 5) (ret := none) (by decide) rfl (Nat.le_of_ble_eq_true rfl) ?_
  intro p e s m args below meth c A ls ⟨hx, hb, hr, hml, hown, hts, hlk⟩ hA hG hw hl
  have hown : s.vm.findClass RX7 = some m.cls := hown
  have hl : lv_has ls 5 [(0, .ref (E.a 21)), (1, .int p0), (2, .int p1), (3, .int p2)] := hl
  have hk35 := hts (.fieldLink RX7 35 "OvenRound$Plan" "oven" "LOvenRound$Oven;") (by decide +kernel)
  have hiX7 : ∀ w ∈ wsX70, w ∈ wsX7_setTicksOfRising := by decide +kernel
  have hk15 := hts (.fieldLink RX7 15 "OvenRound$Plan" "last" "[I") (by decide +kernel)
  have hk9 := hts (.fieldLink RX7 9 "OvenRound$Plan" "first" "[I") (by decide +kernel)
  have hk60 := hts (.fieldLink RX7 60 "OvenRound$Oven" "tick" "I") (by decide +kernel)
  have hiX5 : ∀ w ∈ wsX50, w ∈ wsX7_setTicksOfRising := by decide +kernel
  refine lv_aload_n hx hb dX7_setTicksOfRising_0 rfl (lv_at hl 0 rfl) ?_
  refine x_getr hx hb hw (cX21 hE) (own := RX7) (ref := RX7) (C := RX7) (T := TX7) (N := 8) hts hiX7 hown rfl 2 (by decide) hk35 (fun _ h9 => h9) rfl dX7_setTicksOfRising_1 ?_
  obtain ⟨r1, σ2, hcl, hf⟩ := xc2_f hf
  refine x_calli (va_runV (As := []) (rest := []) ⟨hx, hb, hml, hown, hts⟩ (mX5_pointsOfATick hE σ r1 σ2 hcl s.heap.size) (cwV 0 hts gX7_setTicksOfRising_X5_pointsOfATick rfl rfl rfl (by decide +kernel) ⟨Nat.le_of_ble_eq_true rfl, Nat.le_of_ble_eq_true rfl⟩) (x_preV _ hw hA hG (cX20 hE) rfl) rfl rfl hl.1 rfl (lv_room (Nat.le_of_ble_eq_true rfl)) dX7_setTicksOfRising_4 ⟨Nat.le_of_ble_eq_true rfl, Nat.le_of_ble_eq_true rfl⟩) hw hA (fun H locs hw => ?_)
  clear hcl
  refine lv_istore (lv' := [(4, .int r1), (0, .ref (E.a 21)), (1, .int p0), (2, .int p1), (3, .int p2)]) hx hb dX7_setTicksOfRising_7 hl (by decide) rfl (fun ls hl => ?_)
  refine lv_iload_n hx hb dX7_setTicksOfRising_9 rfl (lv_at hl 4 rfl) ?_
  refine lv_if_ge (tgt := 14) hx hb dX7_setTicksOfRising_10 (by decide) (fun c10 => ?_) (fun c10 => ?_)
  · replace hf := xif_pos c10 hf
    refine lv_iload hx hb dX7_setTicksOfRising_14 (lv_at hl 0 rfl) ?_
    refine lv_if_le (tgt := 67) hx hb dX7_setTicksOfRising_16 (by decide) (fun c16 => ?_) (fun c16 => ?_)
    · replace hf := xif_pos c16 hf
      refine lv_iload_n hx hb dX7_setTicksOfRising_67 rfl (lv_at hl 3 rfl) ?_
      refine lv_if_gt (tgt := 79) hx hb dX7_setTicksOfRising_68 (by decide) (fun c68 => ?_) (fun c68 => ?_)
      · replace hf := xif_pos c68 hf
        exact x_vret hx hb hr hlk hw hf dX7_setTicksOfRising_79
      · replace hf := xif_neg c68 hf
        refine lv_aload_n hx hb dX7_setTicksOfRising_71 rfl (lv_at hl 1 rfl) ?_
        refine x_getr hx hb hw (cX21 hE) (own := RX7) (ref := RX7) (C := RX7) (T := TX7) (N := 8) hts hiX7 hown rfl 4 (by decide) hk15 (fun _ h9 => h9) rfl dX7_setTicksOfRising_72 ?_
        refine lv_iload_n hx hb dX7_setTicksOfRising_75 rfl (lv_at hl 2 rfl) ?_
        refine lv_ldc hx hb hown (hts (.constant RX7 109 (1000000)) (by decide +kernel)) dX7_setTicksOfRising_76 ?_
        obtain ⟨hin, hf⟩ := xs_f hf
        refine x_iast hx hb hw (cX23 hE) hin dX7_setTicksOfRising_78 (fun σ3 H locs ex hw => ?_)
        replace hf := hf σ3 ex
        clear ex hin
        exact x_vret hx hb hr hlk hw hf dX7_setTicksOfRising_79
    · replace hf := xif_neg c16 hf
      refine lv_aload_n hx hb dX7_setTicksOfRising_19 rfl (lv_at hl 1 rfl) ?_
      refine x_getr hx hb hw (cX21 hE) (own := RX7) (ref := RX7) (C := RX7) (T := TX7) (N := 8) hts hiX7 hown rfl 3 (by decide) hk9 (fun _ h9 => h9) rfl dX7_setTicksOfRising_20 ?_
      refine lv_iload_n hx hb dX7_setTicksOfRising_23 rfl (lv_at hl 2 rfl) ?_
      refine lv_aload_n hx hb dX7_setTicksOfRising_24 rfl (lv_at hl 1 rfl) ?_
      refine x_getr hx hb hw (cX21 hE) (own := RX7) (ref := RX7) (C := RX7) (T := TX7) (N := 8) hts hiX7 hown rfl 2 (by decide) hk35 (fun _ h9 => h9) rfl dX7_setTicksOfRising_25 ?_
      refine x_geti hx hb hw (cX20 hE) (own := RX7) (ref := RX5) (C := RX5) (T := TX5) (N := 5) hts hiX5 hown rfl 0 (by decide) hk60 (fun _ h9 => h9) rfl dX7_setTicksOfRising_28 ?_
      refine lv_iload_n hx hb dX7_setTicksOfRising_31 rfl (lv_at hl 3 rfl) ?_
      refine lv_iconst (v := 0) hx hb dX7_setTicksOfRising_32 (by decide) ?_
      refine va_mmax hx hb (hml.trans hl.1.symm) hown (hts (.methodLink RX7 103 Lib.Math.max.name) (by decide +kernel)) (hts (.static Lib.Math.max.name) (by decide +kernel)) (hts (.initialized "java/lang/Math") (by decide +kernel)) (hts (.code Lib.Math.max.name Lib.Math.max.code 2 (some .int)) (by decide +kernel)) (Nat.le_of_ble_eq_true rfl) (Nat.le_of_ble_eq_true rfl) (Nat.le_of_ble_eq_true rfl) (Nat.le_of_ble_eq_true rfl) dX7_setTicksOfRising_33 ?_
      refine lv_topi (fun v4 ex => ?_)
      replace hf := xl_f hf v4 ex
      clear ex
      refine lv_iload hx hb dX7_setTicksOfRising_36 (lv_at hl 0 rfl) ?_
      refine lv_iadd hx hb dX7_setTicksOfRising_38 ?_
      refine lv_iconst (v := 1) hx hb dX7_setTicksOfRising_39 (by decide) ?_
      refine lv_isub hx hb dX7_setTicksOfRising_40 ?_
      refine lv_iload hx hb dX7_setTicksOfRising_41 (lv_at hl 0 rfl) ?_
      obtain ⟨hne, hf⟩ := xnz_e hf
      refine lv_idiv hx hb dX7_setTicksOfRising_43 hne ?_
      refine lv_iadd hx hb dX7_setTicksOfRising_44 ?_
      obtain ⟨hin, hf⟩ := xs_f hf
      refine x_iast hx hb hw (cX22 hE) hin dX7_setTicksOfRising_45 (fun σ5 H locs ex hw => ?_)
      replace hf := hf σ5 ex
      clear ex hin
      refine lv_aload_n hx hb dX7_setTicksOfRising_46 rfl (lv_at hl 1 rfl) ?_
      refine x_getr hx hb hw (cX21 hE) (own := RX7) (ref := RX7) (C := RX7) (T := TX7) (N := 8) hts hiX7 hown rfl 4 (by decide) hk15 (fun _ h9 => h9) rfl dX7_setTicksOfRising_47 ?_
      refine lv_iload_n hx hb dX7_setTicksOfRising_50 rfl (lv_at hl 2 rfl) ?_
      refine lv_aload_n hx hb dX7_setTicksOfRising_51 rfl (lv_at hl 1 rfl) ?_
      refine x_getr hx hb hw (cX21 hE) (own := RX7) (ref := RX7) (C := RX7) (T := TX7) (N := 8) hts hiX7 hown rfl 2 (by decide) hk35 (fun _ h9 => h9) rfl dX7_setTicksOfRising_52 ?_
      refine x_geti hx hb hw (cX20 hE) (own := RX7) (ref := RX5) (C := RX5) (T := TX5) (N := 5) hts hiX5 hown rfl 0 (by decide) hk60 (fun _ h9 => h9) rfl dX7_setTicksOfRising_55 ?_
      refine lv_iload_n hx hb dX7_setTicksOfRising_58 rfl (lv_at hl 4 rfl) ?_
      refine lv_iload hx hb dX7_setTicksOfRising_59 (lv_at hl 0 rfl) ?_
      obtain ⟨hne, hf⟩ := xnz_e hf
      refine lv_idiv hx hb dX7_setTicksOfRising_61 hne ?_
      refine lv_iadd hx hb dX7_setTicksOfRising_62 ?_
      obtain ⟨hin, hf⟩ := xs_f hf
      refine x_iast hx hb hw (cX23 hE) hin dX7_setTicksOfRising_63 (fun σ6 H locs ex hw => ?_)
      replace hf := hf σ6 ex
      clear ex hin
      refine lv_goto (tgt := 79) hx hb dX7_setTicksOfRising_64 (by decide) ?_
      exact x_vret hx hb hr hlk hw hf dX7_setTicksOfRising_79
  · replace hf := xif_neg c10 hf
    exact x_vret hx hb hr hlk hw hf dX7_setTicksOfRising_13

def fX7_setTicks (p0 : Int32) (σ : xSt) : Option xSt := (xs σ 22 20 p0 (σ 20 0) fun σ1 => (xs σ1 23 20 p0 (-1) fun σ2 => (xr σ2 13 20 p0 fun v3 => (xr σ2 17 20 p0 fun v4 => (if v4 = 1 then (xr σ2 18 20 p0 fun v12 => (xr σ2 10 6 v3 fun v13 => (xs σ2 23 20 p0 (v12 + v13) fun σ14 => some σ14))) else (xr σ2 17 20 p0 fun v5 => (if v5 = 0 then (xr σ2 6 6 v3 fun v6 => (xr σ2 16 20 p0 fun v7 => (xr σ2 7 6 v3 fun v8 => (xr σ2 16 20 p0 fun v9 => (xc (fX7_setTicksOfRising p0 (v6 - v7) (v8 - v9) σ2) fun σ11 => some σ11))))) else some σ2)))))))
abbrev rmX7_setTicks : Room := { frames := 3, cells := 0, slots := 0, locals := 66 }
set_option maxRecDepth 100000 in
set_option maxHeartbeats 4000000 in
theorem mX7_setTicks {l : Launch} {E : xE} (hE : E.sh = shX) (p0 : Int32) (σ : xSt) (o1 : xSt) (hf : fX7_setTicks p0 σ = some o1) : xMv l yX7_setTicks wsX7_setTicks rmX7_setTicks E [.ref (E.a 21), .int p0] σ o1 := by
  unfold fX7_setTicks at hf
  refine xMv_of (cc := cX7_setTicks) (maxL := 3) (ret := none) (by decide) rfl (Nat.le_of_ble_eq_true rfl) ?_
  intro p e s m args below meth c A ls ⟨hx, hb, hr, hml, hown, hts, hlk⟩ hA hG hw hl
  have hown : s.vm.findClass RX7 = some m.cls := hown
  have hl : lv_has ls 3 [(0, .ref (E.a 21)), (1, .int p0)] := hl
  have hk9 := hts (.fieldLink RX7 9 "OvenRound$Plan" "first" "[I") (by decide +kernel)
  have hiX7 : ∀ w ∈ wsX70, w ∈ wsX7_setTicks := by decide +kernel
  have hk35 := hts (.fieldLink RX7 35 "OvenRound$Plan" "oven" "LOvenRound$Oven;") (by decide +kernel)
  have hk60 := hts (.fieldLink RX7 60 "OvenRound$Oven" "tick" "I") (by decide +kernel)
  have hiX5 : ∀ w ∈ wsX50, w ∈ wsX7_setTicks := by decide +kernel
  have hk15 := hts (.fieldLink RX7 15 "OvenRound$Plan" "last" "[I") (by decide +kernel)
  have hk31 := hts (.fieldLink RX7 31 "OvenRound$Plan" "doughs" "LOvenRound$Doughs;") (by decide +kernel)
  have hk72 := hts (.fieldLink RX7 72 "OvenRound$Doughs" "recipe" "[I") (by decide +kernel)
  have hiX2 : ∀ w ∈ wsX20, w ∈ wsX7_setTicks := by decide +kernel
  have hk75 := hts (.fieldLink RX7 75 "OvenRound$Doughs" "state" "[I") (by decide +kernel)
  have hk27 := hts (.fieldLink RX7 27 "OvenRound$Plan" "recipes" "LOvenRound$Recipes;") (by decide +kernel)
  have hk86 := hts (.fieldLink RX7 86 "OvenRound$Recipes" "low" "[I") (by decide +kernel)
  have hiX8 : ∀ w ∈ wsX80, w ∈ wsX7_setTicks := by decide +kernel
  have hk89 := hts (.fieldLink RX7 89 "OvenRound$Doughs" "points" "[I") (by decide +kernel)
  have hk92 := hts (.fieldLink RX7 92 "OvenRound$Recipes" "high" "[I") (by decide +kernel)
  have hk78 := hts (.fieldLink RX7 78 "OvenRound$Doughs" "shapedAt" "[I") (by decide +kernel)
  have hk81 := hts (.fieldLink RX7 81 "OvenRound$Recipes" "wait" "[I") (by decide +kernel)
  refine lv_aload_n hx hb dX7_setTicks_0 rfl (lv_at hl 0 rfl) ?_
  refine x_getr hx hb hw (cX21 hE) (own := RX7) (ref := RX7) (C := RX7) (T := TX7) (N := 8) hts hiX7 hown rfl 3 (by decide) hk9 (fun _ h9 => h9) rfl dX7_setTicks_1 ?_
  refine lv_iload_n hx hb dX7_setTicks_4 rfl (lv_at hl 1 rfl) ?_
  refine lv_aload_n hx hb dX7_setTicks_5 rfl (lv_at hl 0 rfl) ?_
  refine x_getr hx hb hw (cX21 hE) (own := RX7) (ref := RX7) (C := RX7) (T := TX7) (N := 8) hts hiX7 hown rfl 2 (by decide) hk35 (fun _ h9 => h9) rfl dX7_setTicks_6 ?_
  refine x_geti hx hb hw (cX20 hE) (own := RX7) (ref := RX5) (C := RX5) (T := TX5) (N := 5) hts hiX5 hown rfl 0 (by decide) hk60 (fun _ h9 => h9) rfl dX7_setTicks_9 ?_
  obtain ⟨hin, hf⟩ := xs_f hf
  refine x_iast hx hb hw (cX22 hE) hin dX7_setTicks_12 (fun σ1 H locs ex hw => ?_)
  replace hf := hf σ1 ex
  clear ex hin
  refine lv_aload_n hx hb dX7_setTicks_13 rfl (lv_at hl 0 rfl) ?_
  refine x_getr hx hb hw (cX21 hE) (own := RX7) (ref := RX7) (C := RX7) (T := TX7) (N := 8) hts hiX7 hown rfl 4 (by decide) hk15 (fun _ h9 => h9) rfl dX7_setTicks_14 ?_
  refine lv_iload_n hx hb dX7_setTicks_17 rfl (lv_at hl 1 rfl) ?_
  refine lv_iconst (v := (-1)) hx hb dX7_setTicks_18 (by decide) ?_
  obtain ⟨hin, hf⟩ := xs_f hf
  refine x_iast hx hb hw (cX23 hE) hin dX7_setTicks_19 (fun σ2 H locs ex hw => ?_)
  replace hf := hf σ2 ex
  clear ex hin
  refine lv_aload_n hx hb dX7_setTicks_20 rfl (lv_at hl 0 rfl) ?_
  refine x_getr hx hb hw (cX21 hE) (own := RX7) (ref := RX7) (C := RX7) (T := TX7) (N := 8) hts hiX7 hown rfl 1 (by decide) hk31 (fun _ h9 => h9) rfl dX7_setTicks_21 ?_
  refine x_getr hx hb hw (cX12 hE) (own := RX7) (ref := RX2) (C := RX2) (T := TX2) (N := 8) hts hiX2 hown rfl 0 (by decide) hk72 (fun _ h9 => h9) rfl dX7_setTicks_24 ?_
  refine lv_iload_n hx hb dX7_setTicks_27 rfl (lv_at hl 1 rfl) ?_
  obtain ⟨hin, hf⟩ := xr_f hf
  refine x_iald hx hb hw (cX13 hE) hin dX7_setTicks_28 ?_
  refine lv_topi (fun v3 ex => ?_)
  replace hf := hf v3 ex
  clear ex hin
  refine lv_istore_n (lv' := [(2, .int v3), (0, .ref (E.a 21)), (1, .int p0)]) hx hb dX7_setTicks_29 rfl hl (by decide) rfl (fun ls hl => ?_)
  refine lv_aload_n hx hb dX7_setTicks_30 rfl (lv_at hl 1 rfl) ?_
  refine x_getr hx hb hw (cX21 hE) (own := RX7) (ref := RX7) (C := RX7) (T := TX7) (N := 8) hts hiX7 hown rfl 1 (by decide) hk31 (fun _ h9 => h9) rfl dX7_setTicks_31 ?_
  refine x_getr hx hb hw (cX12 hE) (own := RX7) (ref := RX2) (C := RX2) (T := TX2) (N := 8) hts hiX2 hown rfl 4 (by decide) hk75 (fun _ h9 => h9) rfl dX7_setTicks_34 ?_
  refine lv_iload_n hx hb dX7_setTicks_37 rfl (lv_at hl 2 rfl) ?_
  obtain ⟨hin, hf⟩ := xr_f hf
  refine x_iald hx hb hw (cX17 hE) hin dX7_setTicks_38 ?_
  refine lv_topi (fun v4 ex => ?_)
  replace hf := hf v4 ex
  clear ex hin
  refine lv_iconst (v := 1) hx hb dX7_setTicks_39 (by decide) ?_
  refine lv_icmp_ne (tgt := 71) hx hb dX7_setTicks_40 (by decide) (fun c40 => ?_) (fun c40 => ?_)
  · replace hf := xif_neg c40 hf
    refine lv_aload_n hx hb dX7_setTicks_71 rfl (lv_at hl 1 rfl) ?_
    refine x_getr hx hb hw (cX21 hE) (own := RX7) (ref := RX7) (C := RX7) (T := TX7) (N := 8) hts hiX7 hown rfl 1 (by decide) hk31 (fun _ h9 => h9) rfl dX7_setTicks_72 ?_
    refine x_getr hx hb hw (cX12 hE) (own := RX7) (ref := RX2) (C := RX2) (T := TX2) (N := 8) hts hiX2 hown rfl 4 (by decide) hk75 (fun _ h9 => h9) rfl dX7_setTicks_75 ?_
    refine lv_iload_n hx hb dX7_setTicks_78 rfl (lv_at hl 2 rfl) ?_
    obtain ⟨hin, hf⟩ := xr_f hf
    refine x_iald hx hb hw (cX17 hE) hin dX7_setTicks_79 ?_
    refine lv_topi (fun v5 ex => ?_)
    replace hf := hf v5 ex
    clear ex hin
    refine lv_if_ne (tgt := 126) hx hb dX7_setTicks_80 (by decide) (fun c80 => ?_) (fun c80 => ?_)
    · replace hf := xif_neg c80 hf
      exact x_vret hx hb hr hlk hw hf dX7_setTicks_126
    · replace hf := xif_pos c80 hf
      refine lv_aload_n hx hb dX7_setTicks_83 rfl (lv_at hl 1 rfl) ?_
      refine lv_iload_n hx hb dX7_setTicks_84 rfl (lv_at hl 2 rfl) ?_
      refine lv_aload_n hx hb dX7_setTicks_85 rfl (lv_at hl 1 rfl) ?_
      refine x_getr hx hb hw (cX21 hE) (own := RX7) (ref := RX7) (C := RX7) (T := TX7) (N := 8) hts hiX7 hown rfl 0 (by decide) hk27 (fun _ h9 => h9) rfl dX7_setTicks_86 ?_
      refine x_getr hx hb hw (cX4 hE) (own := RX7) (ref := RX8) (C := RX8) (T := TX8) (N := 8) hts hiX8 hown rfl 1 (by decide) hk86 (fun _ h9 => h9) rfl dX7_setTicks_89 ?_
      refine lv_iload_n hx hb dX7_setTicks_92 rfl (lv_at hl 0 rfl) ?_
      obtain ⟨hin, hf⟩ := xr_f hf
      refine x_iald hx hb hw (cX6 hE) hin dX7_setTicks_93 ?_
      refine lv_topi (fun v6 ex => ?_)
      replace hf := hf v6 ex
      clear ex hin
      refine lv_aload_n hx hb dX7_setTicks_94 rfl (lv_at hl 1 rfl) ?_
      refine x_getr hx hb hw (cX21 hE) (own := RX7) (ref := RX7) (C := RX7) (T := TX7) (N := 8) hts hiX7 hown rfl 1 (by decide) hk31 (fun _ h9 => h9) rfl dX7_setTicks_95 ?_
      refine x_getr hx hb hw (cX12 hE) (own := RX7) (ref := RX2) (C := RX2) (T := TX2) (N := 8) hts hiX2 hown rfl 3 (by decide) hk89 (fun _ h9 => h9) rfl dX7_setTicks_98 ?_
      refine lv_iload_n hx hb dX7_setTicks_101 rfl (lv_at hl 2 rfl) ?_
      obtain ⟨hin, hf⟩ := xr_f hf
      refine x_iald hx hb hw (cX16 hE) hin dX7_setTicks_102 ?_
      refine lv_topi (fun v7 ex => ?_)
      replace hf := hf v7 ex
      clear ex hin
      refine lv_isub hx hb dX7_setTicks_103 ?_
      refine lv_aload_n hx hb dX7_setTicks_104 rfl (lv_at hl 1 rfl) ?_
      refine x_getr hx hb hw (cX21 hE) (own := RX7) (ref := RX7) (C := RX7) (T := TX7) (N := 8) hts hiX7 hown rfl 0 (by decide) hk27 (fun _ h9 => h9) rfl dX7_setTicks_105 ?_
      refine x_getr hx hb hw (cX4 hE) (own := RX7) (ref := RX8) (C := RX8) (T := TX8) (N := 8) hts hiX8 hown rfl 2 (by decide) hk92 (fun _ h9 => h9) rfl dX7_setTicks_108 ?_
      refine lv_iload_n hx hb dX7_setTicks_111 rfl (lv_at hl 0 rfl) ?_
      obtain ⟨hin, hf⟩ := xr_f hf
      refine x_iald hx hb hw (cX7 hE) hin dX7_setTicks_112 ?_
      refine lv_topi (fun v8 ex => ?_)
      replace hf := hf v8 ex
      clear ex hin
      refine lv_aload_n hx hb dX7_setTicks_113 rfl (lv_at hl 1 rfl) ?_
      refine x_getr hx hb hw (cX21 hE) (own := RX7) (ref := RX7) (C := RX7) (T := TX7) (N := 8) hts hiX7 hown rfl 1 (by decide) hk31 (fun _ h9 => h9) rfl dX7_setTicks_114 ?_
      refine x_getr hx hb hw (cX12 hE) (own := RX7) (ref := RX2) (C := RX2) (T := TX2) (N := 8) hts hiX2 hown rfl 3 (by decide) hk89 (fun _ h9 => h9) rfl dX7_setTicks_117 ?_
      refine lv_iload_n hx hb dX7_setTicks_120 rfl (lv_at hl 2 rfl) ?_
      obtain ⟨hin, hf⟩ := xr_f hf
      refine x_iald hx hb hw (cX16 hE) hin dX7_setTicks_121 ?_
      refine lv_topi (fun v9 ex => ?_)
      replace hf := hf v9 ex
      clear ex hin
      refine lv_isub hx hb dX7_setTicks_122 ?_
      obtain ⟨σ11, hcl, hf⟩ := xc_e hf
      refine x_callv (va_runV (As := [.int p0, .int (v6 - v7), .int (v8 - v9)]) (rest := []) ⟨hx, hb, hml, hown, hts⟩ (mX7_setTicksOfRising hE p0 (v6 - v7) (v8 - v9) σ2 σ11 hcl H.size) (cwV 3 hts gX7_setTicks_X7_setTicksOfRising rfl rfl rfl (by decide +kernel) ⟨Nat.le_of_ble_eq_true rfl, Nat.le_of_ble_eq_true rfl⟩) (x_preV _ hw hA hG (cX21 hE) rfl) rfl rfl hl.1 rfl (lv_room (Nat.le_of_ble_eq_true rfl)) dX7_setTicks_123 ⟨Nat.le_of_ble_eq_true rfl, Nat.le_of_ble_eq_true rfl⟩) hw hA (fun H locs hw => ?_)
      clear hcl
      exact x_vret hx hb hr hlk hw hf dX7_setTicks_126
  · replace hf := xif_pos c40 hf
    refine lv_aload_n hx hb dX7_setTicks_43 rfl (lv_at hl 1 rfl) ?_
    refine x_getr hx hb hw (cX21 hE) (own := RX7) (ref := RX7) (C := RX7) (T := TX7) (N := 8) hts hiX7 hown rfl 4 (by decide) hk15 (fun _ h9 => h9) rfl dX7_setTicks_44 ?_
    refine lv_iload_n hx hb dX7_setTicks_47 rfl (lv_at hl 2 rfl) ?_
    refine lv_aload_n hx hb dX7_setTicks_48 rfl (lv_at hl 1 rfl) ?_
    refine x_getr hx hb hw (cX21 hE) (own := RX7) (ref := RX7) (C := RX7) (T := TX7) (N := 8) hts hiX7 hown rfl 1 (by decide) hk31 (fun _ h9 => h9) rfl dX7_setTicks_49 ?_
    refine x_getr hx hb hw (cX12 hE) (own := RX7) (ref := RX2) (C := RX2) (T := TX2) (N := 8) hts hiX2 hown rfl 5 (by decide) hk78 (fun _ h9 => h9) rfl dX7_setTicks_52 ?_
    refine lv_iload_n hx hb dX7_setTicks_55 rfl (lv_at hl 2 rfl) ?_
    obtain ⟨hin, hf⟩ := xr_f hf
    refine x_iald hx hb hw (cX18 hE) hin dX7_setTicks_56 ?_
    refine lv_topi (fun v12 ex => ?_)
    replace hf := hf v12 ex
    clear ex hin
    refine lv_aload_n hx hb dX7_setTicks_57 rfl (lv_at hl 1 rfl) ?_
    refine x_getr hx hb hw (cX21 hE) (own := RX7) (ref := RX7) (C := RX7) (T := TX7) (N := 8) hts hiX7 hown rfl 0 (by decide) hk27 (fun _ h9 => h9) rfl dX7_setTicks_58 ?_
    refine x_getr hx hb hw (cX4 hE) (own := RX7) (ref := RX8) (C := RX8) (T := TX8) (N := 8) hts hiX8 hown rfl 5 (by decide) hk81 (fun _ h9 => h9) rfl dX7_setTicks_61 ?_
    refine lv_iload_n hx hb dX7_setTicks_64 rfl (lv_at hl 0 rfl) ?_
    obtain ⟨hin, hf⟩ := xr_f hf
    refine x_iald hx hb hw (cX10 hE) hin dX7_setTicks_65 ?_
    refine lv_topi (fun v13 ex => ?_)
    replace hf := hf v13 ex
    clear ex hin
    refine lv_iadd hx hb dX7_setTicks_66 ?_
    obtain ⟨hin, hf⟩ := xs_f hf
    refine x_iast hx hb hw (cX23 hE) hin dX7_setTicks_67 (fun σ14 H locs ex hw => ?_)
    replace hf := hf σ14 ex
    clear ex hin
    refine lv_goto (tgt := 126) hx hb dX7_setTicks_68 (by decide) ?_
    exact x_vret hx hb hr hlk hw hf dX7_setTicks_126
