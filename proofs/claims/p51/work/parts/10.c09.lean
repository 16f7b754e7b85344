def fX11_mixShare_c36 (a1 : Int32) (a2 : Int32) (a3 : Int32) (a4 : Int32) (t0 : Int32) (σ : xSt) : Option (xO × xSt) := (xct (fX11_needArgument t0 σ) fun r9 σ10 => (xc2 (fX3_findMix a1 a2 σ10) fun r11 σ12 => (xct (fX11_needElement r11 σ12) fun r13 σ14 => (xr σ14 33 4 a3 fun v15 => (xc2 (fX11_lowestTerm v15 (σ14 29 4) a4 σ14) fun r16 σ17 => some ((.inl r16 : xO), σ17))))))
def fX11_mixShare_c35 (a1 : Int32) (a2 : Int32) (a3 : Int32) (a4 : Int32) (σ : xSt) : Option (xO × xSt) := fX11_mixShare_c36 a1 a2 a3 a4 0 σ
def fX11_mixShare (p0 : Int32) (p1 : Int32) (p2 : Int32) (p3 : Int32) (σ : xSt) : Option (xO × xSt) := (xc2 (fX11_isWithin p2 0 3 σ) fun r1 σ2 => (xct (fX11_needIndex r1 σ2) fun r3 σ4 => (xc2 (fX11_isWithin p0 0 200 σ4) fun r5 σ6 => (if r5 = 0 then fX11_mixShare_c35 p0 p1 p2 p3 σ6 else (xc2 (fX11_isWithin p1 p0 200 σ6) fun r7 σ8 => (if r7 = 0 then fX11_mixShare_c35 p0 p1 p2 p3 σ8 else fX11_mixShare_c36 p0 p1 p2 p3 1 σ8))))))
abbrev rmX11_mixShare : Room := { frames := 7, cells := 3, slots := 18, locals := 167 }
set_option maxRecDepth 100000 in
set_option maxHeartbeats 4000000 in
theorem mX11_mixShare {l : Launch} (hl0 : l.stackTraces = false) {E : xE} (hE : E.sh = shX) (p0 : Int32) (p1 : Int32) (p2 : Int32) (p3 : Int32) (σ : xSt) (o1 : xO) (o2 : xSt) (hf : fX11_mixShare p0 p1 p2 p3 σ = some (o1, o2)) : xMt l yX11_mixShare wsX11_mixShare rmX11_mixShare E [.ref (E.a 0), .int p0, .int p1, .int p2, .int p3] σ o1 o2 3 := by
  unfold fX11_mixShare at hf
  refine xMt_of (cc := cX11_mixShare) (maxL := 5) (ret := (some .int)) (by decide) rfl (Nat.le_of_ble_eq_true rfl) ?_
  intro p e s m args below meth c A ls ⟨hx, hb, hr, hml, hown, hts, hlk⟩ hA hG hw hl hex
  have hown : s.vm.findClass RX11 = some m.cls := hown
  have hl : lv_has ls 5 [(0, .ref (E.a 0)), (1, .int p0), (2, .int p1), (3, .int p2), (4, .int p3)] := hl
  have hk60 := hts (.fieldLink RX11 60 "OvenRound" "flours" "LOvenRound$Flours;") (by decide +kernel)
  have hiX11 : ∀ w ∈ wsX110, w ∈ wsX11_mixShare := by decide +kernel
  have hk290 := hts (.fieldLink RX11 290 "OvenRound$Flours" "bestTops" "[I") (by decide +kernel)
  have hiX3 : ∀ w ∈ wsX30, w ∈ wsX11_mixShare := by decide +kernel
  have hk297 := hts (.fieldLink RX11 297 "OvenRound$Flours" "bestBottom" "I") (by decide +kernel)
  have h36 : ∀ (a1 : Int32) (a2 : Int32) (a3 : Int32) (a4 : Int32) (t0 : Int32) (σ : xSt) (H : Heap) (locs : List Loc) (ls : Array Slot), xw E A s.heap s σ H locs → lv_has ls 5 [(0, .ref (E.a 0)), (1, .int a1), (2, .int a2), (3, .int a3), (4, .int a4)] → fX11_mixShare_c36 a1 a2 a3 a4 t0 σ = some (o1, o2) → W p l e rmX11_mixShare s m args below meth c H locs 1 6 (vx_MQ below (xQt E A o1 o2) (xXt E A o1 o2) args s 3 18 A) (F0 m 36 ls [.int t0]) := by
    intro a1 a2 a3 a4 t0 σ H locs ls hw hl hf
    unfold fX11_mixShare_c36 at hf
    rcases xct_e hf with ⟨k36, σ10, hcl, hf⟩ | ⟨r9, σ10, hcl, hf⟩
    · refine x_tcallv (vx_runS (As := [.int t0]) (rest := []) ⟨hx, hb, hml, hown, hts⟩ (mX11_needArgument hl0 t0 σ (.inr k36) σ10 hcl H.size) (va_cwS 1 hts gX11_mixShare_X11_needArgument rfl rfl rfl (by decide +kernel) ⟨Nat.le_of_ble_eq_true rfl, Nat.le_of_ble_eq_true rfl⟩) (x_preS _ hw hA hG) rfl rfl hl.1 rfl (lv_room (Nat.le_of_ble_eq_true rfl)) dX11_mixShare_36 ⟨Nat.le_of_ble_eq_true rfl, Nat.le_of_ble_eq_true rfl⟩) hw hA (fun q9 ce H locs h1 h2 h3 hw => ?_) (fun H locs h1 hw => nomatch h1)
      exact x_tout hlk hex h1 h2 h3 hw hf (Nat.le_of_ble_eq_true rfl) (Nat.le_of_ble_eq_true rfl)
    refine x_tcallv (vx_runS (As := [.int t0]) (rest := []) ⟨hx, hb, hml, hown, hts⟩ (mX11_needArgument hl0 t0 σ (.inl r9) σ10 hcl H.size) (va_cwS 1 hts gX11_mixShare_X11_needArgument rfl rfl rfl (by decide +kernel) ⟨Nat.le_of_ble_eq_true rfl, Nat.le_of_ble_eq_true rfl⟩) (x_preS _ hw hA hG) rfl rfl hl.1 rfl (lv_room (Nat.le_of_ble_eq_true rfl)) dX11_mixShare_36 ⟨Nat.le_of_ble_eq_true rfl, Nat.le_of_ble_eq_true rfl⟩) hw hA (fun q9 ce H locs h1 h2 h3 hw => by obtain ⟨_, h9, _⟩ := h3; cases h9) (fun H locs h1 hw => ?_)
    clear hcl h1
    refine lv_aload_n hx hb dX11_mixShare_39 rfl (lv_at hl 0 rfl) ?_
    refine x_getr hx hb hw (cX0 hE) (own := RX11) (ref := RX11) (C := RX11) (T := TX11) (N := 14) hts hiX11 hown rfl 6 (by decide) hk60 (fun _ h9 => h9) rfl dX11_mixShare_40 ?_
    refine lv_iload_n hx hb dX11_mixShare_43 rfl (lv_at hl 1 rfl) ?_
    refine lv_iload_n hx hb dX11_mixShare_44 rfl (lv_at hl 2 rfl) ?_
    obtain ⟨r11, σ12, hcl, hf⟩ := xc2_f hf
    refine x_calli (va_runV (As := [.int a1, .int a2]) (rest := []) ⟨hx, hb, hml, hown, hts⟩ (mX3_findMix hE a1 a2 σ10 r11 σ12 hcl H.size) (cwV 2 hts gX11_mixShare_X3_findMix rfl rfl rfl (by decide +kernel) ⟨Nat.le_of_ble_eq_true rfl, Nat.le_of_ble_eq_true rfl⟩) (x_preV _ hw hA hG (cX29 hE) rfl) rfl rfl hl.1 rfl (lv_room (Nat.le_of_ble_eq_true rfl)) dX11_mixShare_45 ⟨Nat.le_of_ble_eq_true rfl, Nat.le_of_ble_eq_true rfl⟩) hw hA (fun H locs hw => ?_)
    clear hcl
    rcases xct_e hf with ⟨k48, σ14, hcl, hf⟩ | ⟨r13, σ14, hcl, hf⟩
    · refine x_tcallv (vx_runS (As := [.int r11]) (rest := []) ⟨hx, hb, hml, hown, hts⟩ (mX11_needElement hl0 r11 σ12 (.inr k48) σ14 hcl H.size) (va_cwS 1 hts gX11_mixShare_X11_needElement rfl rfl rfl (by decide +kernel) ⟨Nat.le_of_ble_eq_true rfl, Nat.le_of_ble_eq_true rfl⟩) (x_preS _ hw hA hG) rfl rfl hl.1 rfl (lv_room (Nat.le_of_ble_eq_true rfl)) dX11_mixShare_48 ⟨Nat.le_of_ble_eq_true rfl, Nat.le_of_ble_eq_true rfl⟩) hw hA (fun q9 ce H locs h1 h2 h3 hw => ?_) (fun H locs h1 hw => nomatch h1)
      exact x_tout hlk hex h1 h2 h3 hw hf (Nat.le_of_ble_eq_true rfl) (Nat.le_of_ble_eq_true rfl)
    refine x_tcallv (vx_runS (As := [.int r11]) (rest := []) ⟨hx, hb, hml, hown, hts⟩ (mX11_needElement hl0 r11 σ12 (.inl r13) σ14 hcl H.size) (va_cwS 1 hts gX11_mixShare_X11_needElement rfl rfl rfl (by decide +kernel) ⟨Nat.le_of_ble_eq_true rfl, Nat.le_of_ble_eq_true rfl⟩) (x_preS _ hw hA hG) rfl rfl hl.1 rfl (lv_room (Nat.le_of_ble_eq_true rfl)) dX11_mixShare_48 ⟨Nat.le_of_ble_eq_true rfl, Nat.le_of_ble_eq_true rfl⟩) hw hA (fun q9 ce H locs h1 h2 h3 hw => by obtain ⟨_, h9, _⟩ := h3; cases h9) (fun H locs h1 hw => ?_)
    clear hcl h1
    refine lv_aload_n hx hb dX11_mixShare_51 rfl (lv_at hl 0 rfl) ?_
    refine x_getr hx hb hw (cX0 hE) (own := RX11) (ref := RX11) (C := RX11) (T := TX11) (N := 14) hts hiX11 hown rfl 6 (by decide) hk60 (fun _ h9 => h9) rfl dX11_mixShare_52 ?_
    refine x_getr hx hb hw (cX29 hE) (own := RX11) (ref := RX3) (C := RX3) (T := TX3) (N := 7) hts hiX3 hown rfl 3 (by decide) hk290 (fun _ h9 => h9) rfl dX11_mixShare_55 ?_
    refine lv_iload_n hx hb dX11_mixShare_58 rfl (lv_at hl 3 rfl) ?_
    obtain ⟨hin, hf⟩ := xr_f hf
    refine x_iald hx hb hw (cX33 hE) hin dX11_mixShare_59 ?_
    refine lv_topi (fun v15 ex => ?_)
    replace hf := hf v15 ex
    clear ex hin
    refine lv_aload_n hx hb dX11_mixShare_60 rfl (lv_at hl 0 rfl) ?_
    refine x_getr hx hb hw (cX0 hE) (own := RX11) (ref := RX11) (C := RX11) (T := TX11) (N := 14) hts hiX11 hown rfl 6 (by decide) hk60 (fun _ h9 => h9) rfl dX11_mixShare_61 ?_
    refine x_geti hx hb hw (cX29 hE) (own := RX11) (ref := RX3) (C := RX3) (T := TX3) (N := 7) hts hiX3 hown rfl 4 (by decide) hk297 (fun _ h9 => h9) rfl dX11_mixShare_64 ?_
    refine lv_iload hx hb dX11_mixShare_67 (lv_at hl 4 rfl) ?_
    obtain ⟨r16, σ17, hcl, hf⟩ := xc2_f hf
    refine x_calli (va_runS (As := [.int v15, .int (σ14 29 4), .int a4]) (rest := []) ⟨hx, hb, hml, hown, hts⟩ (mX11_lowestTerm hE v15 (σ14 29 4) a4 σ14 r16 σ17 hcl H.size) (va_cwS 3 hts gX11_mixShare_X11_lowestTerm rfl rfl rfl (by decide +kernel) ⟨Nat.le_of_ble_eq_true rfl, Nat.le_of_ble_eq_true rfl⟩) (x_preS _ hw hA hG) rfl rfl hl.1 rfl (lv_room (Nat.le_of_ble_eq_true rfl)) dX11_mixShare_69 ⟨Nat.le_of_ble_eq_true rfl, Nat.le_of_ble_eq_true rfl⟩) hw hA (fun H locs hw => ?_)
    clear hcl
    exact x_tiret hx hb hr hlk hw hf (Nat.le_of_ble_eq_true rfl) (Nat.le_of_ble_eq_true rfl) dX11_mixShare_72
  have h35 : ∀ (a1 : Int32) (a2 : Int32) (a3 : Int32) (a4 : Int32) (σ : xSt) (H : Heap) (locs : List Loc) (ls : Array Slot), xw E A s.heap s σ H locs → lv_has ls 5 [(0, .ref (E.a 0)), (1, .int a1), (2, .int a2), (3, .int a3), (4, .int a4)] → fX11_mixShare_c35 a1 a2 a3 a4 σ = some (o1, o2) → W p l e rmX11_mixShare s m args below meth c H locs 1 6 (vx_MQ below (xQt E A o1 o2) (xXt E A o1 o2) args s 3 18 A) (F0 m 35 ls []) := by
    intro a1 a2 a3 a4 σ H locs ls hw hl hf
    unfold fX11_mixShare_c35 at hf
    refine lv_iconst (v := 0) hx hb dX11_mixShare_35 (by decide) ?_
    exact h36 a1 a2 a3 a4 0 σ _ _ _ hw (lv_sub hl [0, 1, 2, 3, 4] rfl) hf
  refine lv_iload_n hx hb dX11_mixShare_0 rfl (lv_at hl 3 rfl) ?_
  refine lv_iconst (v := 0) hx hb dX11_mixShare_1 (by decide) ?_
  refine lv_iconst (v := 3) hx hb dX11_mixShare_2 (by decide) ?_
  obtain ⟨r1, σ2, hcl, hf⟩ := xc2_f hf
  refine x_calli (va_runS (As := [.int p2, .int 0, .int 3]) (rest := []) ⟨hx, hb, hml, hown, hts⟩ (mX11_isWithin hE p2 0 3 σ r1 σ2 hcl s.heap.size) (va_cwS 3 hts gX11_mixShare_X11_isWithin rfl rfl rfl (by decide +kernel) ⟨Nat.le_of_ble_eq_true rfl, Nat.le_of_ble_eq_true rfl⟩) (x_preS _ hw hA hG) rfl rfl hl.1 rfl (lv_room (Nat.le_of_ble_eq_true rfl)) dX11_mixShare_3 ⟨Nat.le_of_ble_eq_true rfl, Nat.le_of_ble_eq_true rfl⟩) hw hA (fun H locs hw => ?_)
  clear hcl
  rcases xct_e hf with ⟨k6, σ4, hcl, hf⟩ | ⟨r3, σ4, hcl, hf⟩
  · refine x_tcallv (vx_runS (As := [.int r1]) (rest := []) ⟨hx, hb, hml, hown, hts⟩ (mX11_needIndex hl0 r1 σ2 (.inr k6) σ4 hcl H.size) (va_cwS 1 hts gX11_mixShare_X11_needIndex rfl rfl rfl (by decide +kernel) ⟨Nat.le_of_ble_eq_true rfl, Nat.le_of_ble_eq_true rfl⟩) (x_preS _ hw hA hG) rfl rfl hl.1 rfl (lv_room (Nat.le_of_ble_eq_true rfl)) dX11_mixShare_6 ⟨Nat.le_of_ble_eq_true rfl, Nat.le_of_ble_eq_true rfl⟩) hw hA (fun q9 ce H locs h1 h2 h3 hw => ?_) (fun H locs h1 hw => nomatch h1)
    exact x_tout hlk hex h1 h2 h3 hw hf (Nat.le_of_ble_eq_true rfl) (Nat.le_of_ble_eq_true rfl)
  refine x_tcallv (vx_runS (As := [.int r1]) (rest := []) ⟨hx, hb, hml, hown, hts⟩ (mX11_needIndex hl0 r1 σ2 (.inl r3) σ4 hcl H.size) (va_cwS 1 hts gX11_mixShare_X11_needIndex rfl rfl rfl (by decide +kernel) ⟨Nat.le_of_ble_eq_true rfl, Nat.le_of_ble_eq_true rfl⟩) (x_preS _ hw hA hG) rfl rfl hl.1 rfl (lv_room (Nat.le_of_ble_eq_true rfl)) dX11_mixShare_6 ⟨Nat.le_of_ble_eq_true rfl, Nat.le_of_ble_eq_true rfl⟩) hw hA (fun q9 ce H locs h1 h2 h3 hw => by obtain ⟨_, h9, _⟩ := h3; cases h9) (fun H locs h1 hw => ?_)
  clear hcl h1
  refine lv_iload_n hx hb dX11_mixShare_9 rfl (lv_at hl 1 rfl) ?_
  refine lv_iconst (v := 0) hx hb dX11_mixShare_10 (by decide) ?_
  refine lv_sipush (v := 200) hx hb dX11_mixShare_11 (by decide) ?_
  obtain ⟨r5, σ6, hcl, hf⟩ := xc2_f hf
  refine x_calli (va_runS (As := [.int p0, .int 0, .int 200]) (rest := []) ⟨hx, hb, hml, hown, hts⟩ (mX11_isWithin hE p0 0 200 σ4 r5 σ6 hcl H.size) (va_cwS 3 hts gX11_mixShare_X11_isWithin rfl rfl rfl (by decide +kernel) ⟨Nat.le_of_ble_eq_true rfl, Nat.le_of_ble_eq_true rfl⟩) (x_preS _ hw hA hG) rfl rfl hl.1 rfl (lv_room (Nat.le_of_ble_eq_true rfl)) dX11_mixShare_14 ⟨Nat.le_of_ble_eq_true rfl, Nat.le_of_ble_eq_true rfl⟩) hw hA (fun H locs hw => ?_)
  clear hcl
  refine lv_if_eq (tgt := 35) hx hb dX11_mixShare_17 (by decide) (fun c17 => ?_) (fun c17 => ?_)
  · replace hf := xif_pos c17 hf
    exact h35 p0 p1 p2 p3 σ6 _ _ _ hw (lv_sub hl [0, 1, 2, 3, 4] rfl) hf
  · replace hf := xif_neg c17 hf
    refine lv_iload_n hx hb dX11_mixShare_20 rfl (lv_at hl 2 rfl) ?_
    refine lv_iload_n hx hb dX11_mixShare_21 rfl (lv_at hl 1 rfl) ?_
    refine lv_sipush (v := 200) hx hb dX11_mixShare_22 (by decide) ?_
    obtain ⟨r7, σ8, hcl, hf⟩ := xc2_f hf
    refine x_calli (va_runS (As := [.int p1, .int p0, .int 200]) (rest := []) ⟨hx, hb, hml, hown, hts⟩ (mX11_isWithin hE p1 p0 200 σ6 r7 σ8 hcl H.size) (va_cwS 3 hts gX11_mixShare_X11_isWithin rfl rfl rfl (by decide +kernel) ⟨Nat.le_of_ble_eq_true rfl, Nat.le_of_ble_eq_true rfl⟩) (x_preS _ hw hA hG) rfl rfl hl.1 rfl (lv_room (Nat.le_of_ble_eq_true rfl)) dX11_mixShare_25 ⟨Nat.le_of_ble_eq_true rfl, Nat.le_of_ble_eq_true rfl⟩) hw hA (fun H locs hw => ?_)
    clear hcl
    refine lv_if_eq (tgt := 35) hx hb dX11_mixShare_28 (by decide) (fun c28 => ?_) (fun c28 => ?_)
    · replace hf := xif_pos c28 hf
      exact h35 p0 p1 p2 p3 σ8 _ _ _ hw (lv_sub hl [0, 1, 2, 3, 4] rfl) hf
    · replace hf := xif_neg c28 hf
      refine lv_iconst (v := 1) hx hb dX11_mixShare_31 (by decide) ?_
      refine lv_goto (tgt := 36) hx hb dX11_mixShare_32 (by decide) ?_
      exact h36 p0 p1 p2 p3 1 σ8 _ _ _ hw (lv_sub hl [0, 1, 2, 3, 4] rfl) hf

def fX11_note_c34 (a1 : Int32) (a2 : Int32) (t0 : Int32) (σ : xSt) : Option (xO × xSt) := (xct (fX11_needState t0 σ) fun r8 σ9 => (xc (fX11_remember σ9) fun σ11 => (xr σ11 37 6 a1 fun v12 => (xs σ11 36 360 ((a1 * 60) + v12) a2 fun σ13 => (xr σ13 37 6 a1 fun v14 => (xs σ13 37 6 a1 (v14 + 1) fun σ15 => (xr σ15 37 6 a1 fun v16 => some ((.inl v16 : xO), σ15))))))))
def fX11_note (p0 : Int32) (p1 : Int32) (σ : xSt) : Option (xO × xSt) := (xct (fX11_needRecipe p0 σ) fun r1 σ2 => (xc2 (fX11_isWithin p1 0 99 σ2) fun r3 σ4 => (xct (fX11_needArgument r3 σ4) fun r5 σ6 => (xr σ6 37 6 p0 fun v7 => (if 60 ≤ v7 then fX11_note_c34 p0 p1 0 σ6 else fX11_note_c34 p0 p1 1 σ6)))))
abbrev rmX11_note : Room := { frames := 8, cells := 3, slots := 18, locals := 139 }
set_option maxRecDepth 100000 in
set_option maxHeartbeats 4000000 in
theorem mX11_note {l : Launch} (hl0 : l.stackTraces = false) {E : xE} (hE : E.sh = shX) (p0 : Int32) (p1 : Int32) (σ : xSt) (o1 : xO) (o2 : xSt) (hf : fX11_note p0 p1 σ = some (o1, o2)) : xMt l yX11_note wsX11_note rmX11_note E [.ref (E.a 0), .int p0, .int p1] σ o1 o2 3 := by
  unfold fX11_note at hf
  refine xMt_of (cc := cX11_note) (maxL := 3) (ret := (some .int)) (by decide) rfl (Nat.le_of_ble_eq_true rfl) ?_
  intro p e s m args below meth c A ls ⟨hx, hb, hr, hml, hown, hts, hlk⟩ hA hG hw hl hex
  have hown : s.vm.findClass RX11 = some m.cls := hown
  have hl : lv_has ls 3 [(0, .ref (E.a 0)), (1, .int p0), (2, .int p1)] := hl
  have hk65 := hts (.fieldLink RX11 65 "OvenRound" "notes" "LOvenRound$Notes;") (by decide +kernel)
  have hiX11 : ∀ w ∈ wsX110, w ∈ wsX11_note := by decide +kernel
  have hk304 := hts (.fieldLink RX11 304 "OvenRound$Notes" "count" "[I") (by decide +kernel)
  have hiX4 : ∀ w ∈ wsX40, w ∈ wsX11_note := by decide +kernel
  have hk306 := hts (.fieldLink RX11 306 "OvenRound$Notes" "wanted" "[I") (by decide +kernel)
  have h34 : ∀ (a1 : Int32) (a2 : Int32) (t0 : Int32) (σ : xSt) (H : Heap) (locs : List Loc) (ls : Array Slot), xw E A s.heap s σ H locs → lv_has ls 3 [(0, .ref (E.a 0)), (1, .int a1), (2, .int a2)] → fX11_note_c34 a1 a2 t0 σ = some (o1, o2) → W p l e rmX11_note s m args below meth c H locs 2 12 (vx_MQ below (xQt E A o1 o2) (xXt E A o1 o2) args s 3 18 A) (F0 m 34 ls [.int t0]) := by
    intro a1 a2 t0 σ H locs ls hw hl hf
    unfold fX11_note_c34 at hf
    rcases xct_e hf with ⟨k34, σ9, hcl, hf⟩ | ⟨r8, σ9, hcl, hf⟩
    · refine x_tcallv (vx_runS (As := [.int t0]) (rest := []) ⟨hx, hb, hml, hown, hts⟩ (mX11_needState hl0 t0 σ (.inr k34) σ9 hcl H.size) (va_cwS 1 hts gX11_note_X11_needState rfl rfl rfl (by decide +kernel) ⟨Nat.le_of_ble_eq_true rfl, Nat.le_of_ble_eq_true rfl⟩) (x_preS _ hw hA hG) rfl rfl hl.1 rfl (lv_room (Nat.le_of_ble_eq_true rfl)) dX11_note_34 ⟨Nat.le_of_ble_eq_true rfl, Nat.le_of_ble_eq_true rfl⟩) hw hA (fun q9 ce H locs h1 h2 h3 hw => ?_) (fun H locs h1 hw => nomatch h1)
      exact x_tout hlk hex h1 h2 h3 hw hf (Nat.le_of_ble_eq_true rfl) (Nat.le_of_ble_eq_true rfl)
    refine x_tcallv (vx_runS (As := [.int t0]) (rest := []) ⟨hx, hb, hml, hown, hts⟩ (mX11_needState hl0 t0 σ (.inl r8) σ9 hcl H.size) (va_cwS 1 hts gX11_note_X11_needState rfl rfl rfl (by decide +kernel) ⟨Nat.le_of_ble_eq_true rfl, Nat.le_of_ble_eq_true rfl⟩) (x_preS _ hw hA hG) rfl rfl hl.1 rfl (lv_room (Nat.le_of_ble_eq_true rfl)) dX11_note_34 ⟨Nat.le_of_ble_eq_true rfl, Nat.le_of_ble_eq_true rfl⟩) hw hA (fun q9 ce H locs h1 h2 h3 hw => by obtain ⟨_, h9, _⟩ := h3; cases h9) (fun H locs h1 hw => ?_)
    clear hcl h1
    refine lv_aload_n hx hb dX11_note_37 rfl (lv_at hl 0 rfl) ?_
    obtain ⟨σ11, hcl, hf⟩ := xc_e hf
    refine x_callv (va_runV (As := []) (rest := []) ⟨hx, hb, hml, hown, hts⟩ (mX11_remember hE σ9 σ11 hcl H.size) (cwV 0 hts gX11_note_X11_remember rfl rfl rfl (by decide +kernel) ⟨Nat.le_of_ble_eq_true rfl, Nat.le_of_ble_eq_true rfl⟩) (x_preV _ hw hA hG (cX0 hE) rfl) rfl rfl hl.1 rfl (lv_room (Nat.le_of_ble_eq_true rfl)) dX11_note_38 ⟨Nat.le_of_ble_eq_true rfl, Nat.le_of_ble_eq_true rfl⟩) hw hA (fun H locs hw => ?_)
    clear hcl
    refine lv_aload_n hx hb dX11_note_41 rfl (lv_at hl 0 rfl) ?_
    refine x_getr hx hb hw (cX0 hE) (own := RX11) (ref := RX11) (C := RX11) (T := TX11) (N := 14) hts hiX11 hown rfl 7 (by decide) hk65 (fun _ h9 => h9) rfl dX11_note_42 ?_
    refine x_getr hx hb hw (cX35 hE) (own := RX11) (ref := RX4) (C := RX4) (T := TX4) (N := 2) hts hiX4 hown rfl 0 (by decide) hk306 (fun _ h9 => h9) rfl dX11_note_45 ?_
    refine lv_iload_n hx hb dX11_note_48 rfl (lv_at hl 1 rfl) ?_
    refine lv_bipush (v := 60) hx hb dX11_note_49 (by decide) ?_
    refine lv_imul hx hb dX11_note_51 ?_
    refine lv_aload_n hx hb dX11_note_52 rfl (lv_at hl 0 rfl) ?_
    refine x_getr hx hb hw (cX0 hE) (own := RX11) (ref := RX11) (C := RX11) (T := TX11) (N := 14) hts hiX11 hown rfl 7 (by decide) hk65 (fun _ h9 => h9) rfl dX11_note_53 ?_
    refine x_getr hx hb hw (cX35 hE) (own := RX11) (ref := RX4) (C := RX4) (T := TX4) (N := 2) hts hiX4 hown rfl 1 (by decide) hk304 (fun _ h9 => h9) rfl dX11_note_56 ?_
    refine lv_iload_n hx hb dX11_note_59 rfl (lv_at hl 1 rfl) ?_
    obtain ⟨hin, hf⟩ := xr_f hf
    refine x_iald hx hb hw (cX37 hE) hin dX11_note_60 ?_
    refine lv_topi (fun v12 ex => ?_)
    replace hf := hf v12 ex
    clear ex hin
    refine lv_iadd hx hb dX11_note_61 ?_
    refine lv_iload_n hx hb dX11_note_62 rfl (lv_at hl 2 rfl) ?_
    obtain ⟨hin, hf⟩ := xs_f hf
    refine x_iast hx hb hw (cX36 hE) hin dX11_note_63 (fun σ13 H locs ex hw => ?_)
    replace hf := hf σ13 ex
    clear ex hin
    refine lv_aload_n hx hb dX11_note_64 rfl (lv_at hl 0 rfl) ?_
    refine x_getr hx hb hw (cX0 hE) (own := RX11) (ref := RX11) (C := RX11) (T := TX11) (N := 14) hts hiX11 hown rfl 7 (by decide) hk65 (fun _ h9 => h9) rfl dX11_note_65 ?_
    refine x_getr hx hb hw (cX35 hE) (own := RX11) (ref := RX4) (C := RX4) (T := TX4) (N := 2) hts hiX4 hown rfl 1 (by decide) hk304 (fun _ h9 => h9) rfl dX11_note_68 ?_
    refine lv_iload_n hx hb dX11_note_71 rfl (lv_at hl 1 rfl) ?_
    refine lv_dup2_11 hx hb dX11_note_72 rfl rfl ?_
    obtain ⟨hin, hf⟩ := xr_f hf
    refine x_iald hx hb hw (cX37 hE) hin dX11_note_73 ?_
    refine lv_topi (fun v14 ex => ?_)
    replace hf := hf v14 ex
    clear ex hin
    refine lv_iconst (v := 1) hx hb dX11_note_74 (by decide) ?_
    refine lv_iadd hx hb dX11_note_75 ?_
    obtain ⟨hin, hf⟩ := xs_f hf
    refine x_iast hx hb hw (cX37 hE) hin dX11_note_76 (fun σ15 H locs ex hw => ?_)
    replace hf := hf σ15 ex
    clear ex hin
    refine lv_aload_n hx hb dX11_note_77 rfl (lv_at hl 0 rfl) ?_
    refine x_getr hx hb hw (cX0 hE) (own := RX11) (ref := RX11) (C := RX11) (T := TX11) (N := 14) hts hiX11 hown rfl 7 (by decide) hk65 (fun _ h9 => h9) rfl dX11_note_78 ?_
    refine x_getr hx hb hw (cX35 hE) (own := RX11) (ref := RX4) (C := RX4) (T := TX4) (N := 2) hts hiX4 hown rfl 1 (by decide) hk304 (fun _ h9 => h9) rfl dX11_note_81 ?_
    refine lv_iload_n hx hb dX11_note_84 rfl (lv_at hl 1 rfl) ?_
    obtain ⟨hin, hf⟩ := xr_f hf
    refine x_iald hx hb hw (cX37 hE) hin dX11_note_85 ?_
    refine lv_topi (fun v16 ex => ?_)
    replace hf := hf v16 ex
    clear ex hin
    exact x_tiret hx hb hr hlk hw hf (Nat.le_of_ble_eq_true rfl) (Nat.le_of_ble_eq_true rfl) dX11_note_86
  refine lv_aload_n hx hb dX11_note_0 rfl (lv_at hl 0 rfl) ?_
  refine lv_iload_n hx hb dX11_note_1 rfl (lv_at hl 1 rfl) ?_
  rcases xct_e hf with ⟨k2, σ2, hcl, hf⟩ | ⟨r1, σ2, hcl, hf⟩
  · refine x_tcallv (vx_runV (As := [.int p0]) (rest := []) ⟨hx, hb, hml, hown, hts⟩ (mX11_needRecipe hl0 hE p0 σ (.inr k2) σ2 hcl s.heap.size) (cwV 1 hts gX11_note_X11_needRecipe rfl rfl rfl (by decide +kernel) ⟨Nat.le_of_ble_eq_true rfl, Nat.le_of_ble_eq_true rfl⟩) (x_preV _ hw hA hG (cX0 hE) rfl) rfl rfl hl.1 rfl (lv_room (Nat.le_of_ble_eq_true rfl)) dX11_note_2 ⟨Nat.le_of_ble_eq_true rfl, Nat.le_of_ble_eq_true rfl⟩) hw hA (fun q9 ce H locs h1 h2 h3 hw => ?_) (fun H locs h1 hw => nomatch h1)
    exact x_tout hlk hex h1 h2 h3 hw hf (Nat.le_of_ble_eq_true rfl) (Nat.le_of_ble_eq_true rfl)
  refine x_tcallv (vx_runV (As := [.int p0]) (rest := []) ⟨hx, hb, hml, hown, hts⟩ (mX11_needRecipe hl0 hE p0 σ (.inl r1) σ2 hcl s.heap.size) (cwV 1 hts gX11_note_X11_needRecipe rfl rfl rfl (by decide +kernel) ⟨Nat.le_of_ble_eq_true rfl, Nat.le_of_ble_eq_true rfl⟩) (x_preV _ hw hA hG (cX0 hE) rfl) rfl rfl hl.1 rfl (lv_room (Nat.le_of_ble_eq_true rfl)) dX11_note_2 ⟨Nat.le_of_ble_eq_true rfl, Nat.le_of_ble_eq_true rfl⟩) hw hA (fun q9 ce H locs h1 h2 h3 hw => by obtain ⟨_, h9, _⟩ := h3; cases h9) (fun H locs h1 hw => ?_)
  clear hcl h1
  refine lv_iload_n hx hb dX11_note_5 rfl (lv_at hl 2 rfl) ?_
  refine lv_iconst (v := 0) hx hb dX11_note_6 (by decide) ?_
  refine lv_bipush (v := 99) hx hb dX11_note_7 (by decide) ?_
  obtain ⟨r3, σ4, hcl, hf⟩ := xc2_f hf
  refine x_calli (va_runS (As := [.int p1, .int 0, .int 99]) (rest := []) ⟨hx, hb, hml, hown, hts⟩ (mX11_isWithin hE p1 0 99 σ2 r3 σ4 hcl H.size) (va_cwS 3 hts gX11_note_X11_isWithin rfl rfl rfl (by decide +kernel) ⟨Nat.le_of_ble_eq_true rfl, Nat.le_of_ble_eq_true rfl⟩) (x_preS _ hw hA hG) rfl rfl hl.1 rfl (lv_room (Nat.le_of_ble_eq_true rfl)) dX11_note_9 ⟨Nat.le_of_ble_eq_true rfl, Nat.le_of_ble_eq_true rfl⟩) hw hA (fun H locs hw => ?_)
  clear hcl
  rcases xct_e hf with ⟨k12, σ6, hcl, hf⟩ | ⟨r5, σ6, hcl, hf⟩
  · refine x_tcallv (vx_runS (As := [.int r3]) (rest := []) ⟨hx, hb, hml, hown, hts⟩ (mX11_needArgument hl0 r3 σ4 (.inr k12) σ6 hcl H.size) (va_cwS 1 hts gX11_note_X11_needArgument rfl rfl rfl (by decide +kernel) ⟨Nat.le_of_ble_eq_true rfl, Nat.le_of_ble_eq_true rfl⟩) (x_preS _ hw hA hG) rfl rfl hl.1 rfl (lv_room (Nat.le_of_ble_eq_true rfl)) dX11_note_12 ⟨Nat.le_of_ble_eq_true rfl, Nat.le_of_ble_eq_true rfl⟩) hw hA (fun q9 ce H locs h1 h2 h3 hw => ?_) (fun H locs h1 hw => nomatch h1)
    exact x_tout hlk hex h1 h2 h3 hw hf (Nat.le_of_ble_eq_true rfl) (Nat.le_of_ble_eq_true rfl)
  refine x_tcallv (vx_runS (As := [.int r3]) (rest := []) ⟨hx, hb, hml, hown, hts⟩ (mX11_needArgument hl0 r3 σ4 (.inl r5) σ6 hcl H.size) (va_cwS 1 hts gX11_note_X11_needArgument rfl rfl rfl (by decide +kernel) ⟨Nat.le_of_ble_eq_true rfl, Nat.le_of_ble_eq_true rfl⟩) (x_preS _ hw hA hG) rfl rfl hl.1 rfl (lv_room (Nat.le_of_ble_eq_true rfl)) dX11_note_12 ⟨Nat.le_of_ble_eq_true rfl, Nat.le_of_ble_eq_true rfl⟩) hw hA (fun q9 ce H locs h1 h2 h3 hw => by obtain ⟨_, h9, _⟩ := h3; cases h9) (fun H locs h1 hw => ?_)
  clear hcl h1
  refine lv_aload_n hx hb dX11_note_15 rfl (lv_at hl 0 rfl) ?_
  refine x_getr hx hb hw (cX0 hE) (own := RX11) (ref := RX11) (C := RX11) (T := TX11) (N := 14) hts hiX11 hown rfl 7 (by decide) hk65 (fun _ h9 => h9) rfl dX11_note_16 ?_
  refine x_getr hx hb hw (cX35 hE) (own := RX11) (ref := RX4) (C := RX4) (T := TX4) (N := 2) hts hiX4 hown rfl 1 (by decide) hk304 (fun _ h9 => h9) rfl dX11_note_19 ?_
  refine lv_iload_n hx hb dX11_note_22 rfl (lv_at hl 1 rfl) ?_
  obtain ⟨hin, hf⟩ := xr_f hf
  refine x_iald hx hb hw (cX37 hE) hin dX11_note_23 ?_
  refine lv_topi (fun v7 ex => ?_)
  replace hf := hf v7 ex
  clear ex hin
  refine lv_bipush (v := 60) hx hb dX11_note_24 (by decide) ?_
  refine lv_icmp_ge (tgt := 33) hx hb dX11_note_26 (by decide) (fun c26 => ?_) (fun c26 => ?_)
  · replace hf := xif_pos c26 hf
    refine lv_iconst (v := 0) hx hb dX11_note_33 (by decide) ?_
    exact h34 p0 p1 0 σ6 _ _ _ hw (lv_sub hl [0, 1, 2] rfl) hf
  · replace hf := xif_neg c26 hf
    refine lv_iconst (v := 1) hx hb dX11_note_29 (by decide) ?_
    refine lv_goto (tgt := 34) hx hb dX11_note_30 (by decide) ?_
    exact h34 p0 p1 1 σ6 _ _ _ hw (lv_sub hl [0, 1, 2] rfl) hf

def fX11_bestNumber_c50 (a1 : Int32) (a2 : Int32) (a3 : Int32) (t0 : Int32) (σ : xSt) : Option (xO × xSt) := (xct (fX11_needElement t0 σ) fun r10 σ11 => (xc2 (fX4_bestFor a1 a2 a3 σ11) fun r12 σ13 => some ((.inl r12 : xO), σ13)))
def fX11_bestNumber_c30 (a1 : Int32) (a2 : Int32) (a3 : Int32) (t0 : Int32) (σ : xSt) : Option (xO × xSt) := (xct (fX11_needArgument t0 σ) fun r7 σ8 => (xr σ8 37 6 a1 fun v9 => (if v9 ≤ 0 then fX11_bestNumber_c50 a1 a2 a3 0 σ8 else fX11_bestNumber_c50 a1 a2 a3 1 σ8)))
def fX11_bestNumber_c29 (a1 : Int32) (a2 : Int32) (a3 : Int32) (σ : xSt) : Option (xO × xSt) := fX11_bestNumber_c30 a1 a2 a3 0 σ
def fX11_bestNumber (p0 : Int32) (p1 : Int32) (p2 : Int32) (σ : xSt) : Option (xO × xSt) := (xct (fX11_needRecipe p0 σ) fun r1 σ2 => (xc2 (fX11_isWithin p1 0 99 σ2) fun r3 σ4 => (if r3 = 0 then fX11_bestNumber_c29 p0 p1 p2 σ4 else (xc2 (fX11_isWithin p2 0 99 σ4) fun r5 σ6 => (if r5 = 0 then fX11_bestNumber_c29 p0 p1 p2 σ6 else fX11_bestNumber_c30 p0 p1 p2 1 σ6)))))
abbrev rmX11_bestNumber : Room := { frames := 8, cells := 3, slots := 18, locals := 131 }
set_option maxRecDepth 100000 in
set_option maxHeartbeats 4000000 in
theorem mX11_bestNumber {l : Launch} (hl0 : l.stackTraces = false) {E : xE} (hE : E.sh = shX) (p0 : Int32) (p1 : Int32) (p2 : Int32) (σ : xSt) (o1 : xO) (o2 : xSt) (hf : fX11_bestNumber p0 p1 p2 σ = some (o1, o2)) : xMt l yX11_bestNumber wsX11_bestNumber rmX11_bestNumber E [.ref (E.a 0), .int p0, .int p1, .int p2] σ o1 o2 3 := by
  unfold fX11_bestNumber at hf
  refine xMt_of (cc := cX11_bestNumber) (maxL := 4) (ret := (some .int)) (by decide) rfl (Nat.le_of_ble_eq_true rfl) ?_
  intro p e s m args below meth c A ls ⟨hx, hb, hr, hml, hown, hts, hlk⟩ hA hG hw hl hex
  have hown : s.vm.findClass RX11 = some m.cls := hown
  have hl : lv_has ls 4 [(0, .ref (E.a 0)), (1, .int p0), (2, .int p1), (3, .int p2)] := hl
  have hk65 := hts (.fieldLink RX11 65 "OvenRound" "notes" "LOvenRound$Notes;") (by decide +kernel)
  have hiX11 : ∀ w ∈ wsX110, w ∈ wsX11_bestNumber := by decide +kernel
  have hk304 := hts (.fieldLink RX11 304 "OvenRound$Notes" "count" "[I") (by decide +kernel)
  have hiX4 : ∀ w ∈ wsX40, w ∈ wsX11_bestNumber := by decide +kernel
  have h50 : ∀ (a1 : Int32) (a2 : Int32) (a3 : Int32) (t0 : Int32) (σ : xSt) (H : Heap) (locs : List Loc) (ls : Array Slot), xw E A s.heap s σ H locs → lv_has ls 4 [(0, .ref (E.a 0)), (1, .int a1), (2, .int a2), (3, .int a3)] → fX11_bestNumber_c50 a1 a2 a3 t0 σ = some (o1, o2) → W p l e rmX11_bestNumber s m args below meth c H locs 2 12 (vx_MQ below (xQt E A o1 o2) (xXt E A o1 o2) args s 3 18 A) (F0 m 50 ls [.int t0]) := by
    intro a1 a2 a3 t0 σ H locs ls hw hl hf
    unfold fX11_bestNumber_c50 at hf
    rcases xct_e hf with ⟨k50, σ11, hcl, hf⟩ | ⟨r10, σ11, hcl, hf⟩
    · refine x_tcallv (vx_runS (As := [.int t0]) (rest := []) ⟨hx, hb, hml, hown, hts⟩ (mX11_needElement hl0 t0 σ (.inr k50) σ11 hcl H.size) (va_cwS 1 hts gX11_bestNumber_X11_needElement rfl rfl rfl (by decide +kernel) ⟨Nat.le_of_ble_eq_true rfl, Nat.le_of_ble_eq_true rfl⟩) (x_preS _ hw hA hG) rfl rfl hl.1 rfl (lv_room (Nat.le_of_ble_eq_true rfl)) dX11_bestNumber_50 ⟨Nat.le_of_ble_eq_true rfl, Nat.le_of_ble_eq_true rfl⟩) hw hA (fun q9 ce H locs h1 h2 h3 hw => ?_) (fun H locs h1 hw => nomatch h1)
      exact x_tout hlk hex h1 h2 h3 hw hf (Nat.le_of_ble_eq_true rfl) (Nat.le_of_ble_eq_true rfl)
    refine x_tcallv (vx_runS (As := [.int t0]) (rest := []) ⟨hx, hb, hml, hown, hts⟩ (mX11_needElement hl0 t0 σ (.inl r10) σ11 hcl H.size) (va_cwS 1 hts gX11_bestNumber_X11_needElement rfl rfl rfl (by decide +kernel) ⟨Nat.le_of_ble_eq_true rfl, Nat.le_of_ble_eq_true rfl⟩) (x_preS _ hw hA hG) rfl rfl hl.1 rfl (lv_room (Nat.le_of_ble_eq_true rfl)) dX11_bestNumber_50 ⟨Nat.le_of_ble_eq_true rfl, Nat.le_of_ble_eq_true rfl⟩) hw hA (fun q9 ce H locs h1 h2 h3 hw => by obtain ⟨_, h9, _⟩ := h3; cases h9) (fun H locs h1 hw => ?_)
    clear hcl h1
    refine lv_aload_n hx hb dX11_bestNumber_53 rfl (lv_at hl 0 rfl) ?_
    refine x_getr hx hb hw (cX0 hE) (own := RX11) (ref := RX11) (C := RX11) (T := TX11) (N := 14) hts hiX11 hown rfl 7 (by decide) hk65 (fun _ h9 => h9) rfl dX11_bestNumber_54 ?_
    refine lv_iload_n hx hb dX11_bestNumber_57 rfl (lv_at hl 1 rfl) ?_
    refine lv_iload_n hx hb dX11_bestNumber_58 rfl (lv_at hl 2 rfl) ?_
    refine lv_iload_n hx hb dX11_bestNumber_59 rfl (lv_at hl 3 rfl) ?_
    obtain ⟨r12, σ13, hcl, hf⟩ := xc2_f hf
    refine x_calli (va_runV (As := [.int a1, .int a2, .int a3]) (rest := []) ⟨hx, hb, hml, hown, hts⟩ (mX4_bestFor hE a1 a2 a3 σ11 r12 σ13 hcl H.size) (cwV 3 hts gX11_bestNumber_X4_bestFor rfl rfl rfl (by decide +kernel) ⟨Nat.le_of_ble_eq_true rfl, Nat.le_of_ble_eq_true rfl⟩) (x_preV _ hw hA hG (cX35 hE) rfl) rfl rfl hl.1 rfl (lv_room (Nat.le_of_ble_eq_true rfl)) dX11_bestNumber_60 ⟨Nat.le_of_ble_eq_true rfl, Nat.le_of_ble_eq_true rfl⟩) hw hA (fun H locs hw => ?_)
    clear hcl
    exact x_tiret hx hb hr hlk hw hf (Nat.le_of_ble_eq_true rfl) (Nat.le_of_ble_eq_true rfl) dX11_bestNumber_63
  have h30 : ∀ (a1 : Int32) (a2 : Int32) (a3 : Int32) (t0 : Int32) (σ : xSt) (H : Heap) (locs : List Loc) (ls : Array Slot), xw E A s.heap s σ H locs → lv_has ls 4 [(0, .ref (E.a 0)), (1, .int a1), (2, .int a2), (3, .int a3)] → fX11_bestNumber_c30 a1 a2 a3 t0 σ = some (o1, o2) → W p l e rmX11_bestNumber s m args below meth c H locs 1 6 (vx_MQ below (xQt E A o1 o2) (xXt E A o1 o2) args s 3 18 A) (F0 m 30 ls [.int t0]) := by
    intro a1 a2 a3 t0 σ H locs ls hw hl hf
    unfold fX11_bestNumber_c30 at hf
    rcases xct_e hf with ⟨k30, σ8, hcl, hf⟩ | ⟨r7, σ8, hcl, hf⟩
    · refine x_tcallv (vx_runS (As := [.int t0]) (rest := []) ⟨hx, hb, hml, hown, hts⟩ (mX11_needArgument hl0 t0 σ (.inr k30) σ8 hcl H.size) (va_cwS 1 hts gX11_bestNumber_X11_needArgument rfl rfl rfl (by decide +kernel) ⟨Nat.le_of_ble_eq_true rfl, Nat.le_of_ble_eq_true rfl⟩) (x_preS _ hw hA hG) rfl rfl hl.1 rfl (lv_room (Nat.le_of_ble_eq_true rfl)) dX11_bestNumber_30 ⟨Nat.le_of_ble_eq_true rfl, Nat.le_of_ble_eq_true rfl⟩) hw hA (fun q9 ce H locs h1 h2 h3 hw => ?_) (fun H locs h1 hw => nomatch h1)
      exact x_tout hlk hex h1 h2 h3 hw hf (Nat.le_of_ble_eq_true rfl) (Nat.le_of_ble_eq_true rfl)
    refine x_tcallv (vx_runS (As := [.int t0]) (rest := []) ⟨hx, hb, hml, hown, hts⟩ (mX11_needArgument hl0 t0 σ (.inl r7) σ8 hcl H.size) (va_cwS 1 hts gX11_bestNumber_X11_needArgument rfl rfl rfl (by decide +kernel) ⟨Nat.le_of_ble_eq_true rfl, Nat.le_of_ble_eq_true rfl⟩) (x_preS _ hw hA hG) rfl rfl hl.1 rfl (lv_room (Nat.le_of_ble_eq_true rfl)) dX11_bestNumber_30 ⟨Nat.le_of_ble_eq_true rfl, Nat.le_of_ble_eq_true rfl⟩) hw hA (fun q9 ce H locs h1 h2 h3 hw => by obtain ⟨_, h9, _⟩ := h3; cases h9) (fun H locs h1 hw => ?_)
    clear hcl h1
    refine lv_aload_n hx hb dX11_bestNumber_33 rfl (lv_at hl 0 rfl) ?_
    refine x_getr hx hb hw (cX0 hE) (own := RX11) (ref := RX11) (C := RX11) (T := TX11) (N := 14) hts hiX11 hown rfl 7 (by decide) hk65 (fun _ h9 => h9) rfl dX11_bestNumber_34 ?_
    refine x_getr hx hb hw (cX35 hE) (own := RX11) (ref := RX4) (C := RX4) (T := TX4) (N := 2) hts hiX4 hown rfl 1 (by decide) hk304 (fun _ h9 => h9) rfl dX11_bestNumber_37 ?_
    refine lv_iload_n hx hb dX11_bestNumber_40 rfl (lv_at hl 1 rfl) ?_
    obtain ⟨hin, hf⟩ := xr_f hf
    refine x_iald hx hb hw (cX37 hE) hin dX11_bestNumber_41 ?_
    refine lv_topi (fun v9 ex => ?_)
    replace hf := hf v9 ex
    clear ex hin
    refine lv_if_le (tgt := 49) hx hb dX11_bestNumber_42 (by decide) (fun c42 => ?_) (fun c42 => ?_)
    · replace hf := xif_pos c42 hf
      refine lv_iconst (v := 0) hx hb dX11_bestNumber_49 (by decide) ?_
      exact h50 a1 a2 a3 0 σ8 _ _ _ hw (lv_sub hl [0, 1, 2, 3] rfl) hf
    · replace hf := xif_neg c42 hf
      refine lv_iconst (v := 1) hx hb dX11_bestNumber_45 (by decide) ?_
      refine lv_goto (tgt := 50) hx hb dX11_bestNumber_46 (by decide) ?_
      exact h50 a1 a2 a3 1 σ8 _ _ _ hw (lv_sub hl [0, 1, 2, 3] rfl) hf
  have h29 : ∀ (a1 : Int32) (a2 : Int32) (a3 : Int32) (σ : xSt) (H : Heap) (locs : List Loc) (ls : Array Slot), xw E A s.heap s σ H locs → lv_has ls 4 [(0, .ref (E.a 0)), (1, .int a1), (2, .int a2), (3, .int a3)] → fX11_bestNumber_c29 a1 a2 a3 σ = some (o1, o2) → W p l e rmX11_bestNumber s m args below meth c H locs 1 6 (vx_MQ below (xQt E A o1 o2) (xXt E A o1 o2) args s 3 18 A) (F0 m 29 ls []) := by
    intro a1 a2 a3 σ H locs ls hw hl hf
    unfold fX11_bestNumber_c29 at hf
    refine lv_iconst (v := 0) hx hb dX11_bestNumber_29 (by decide) ?_
    exact h30 a1 a2 a3 0 σ _ _ _ hw (lv_sub hl [0, 1, 2, 3] rfl) hf
  refine lv_aload_n hx hb dX11_bestNumber_0 rfl (lv_at hl 0 rfl) ?_
  refine lv_iload_n hx hb dX11_bestNumber_1 rfl (lv_at hl 1 rfl) ?_
  rcases xct_e hf with ⟨k2, σ2, hcl, hf⟩ | ⟨r1, σ2, hcl, hf⟩
  · refine x_tcallv (vx_runV (As := [.int p0]) (rest := []) ⟨hx, hb, hml, hown, hts⟩ (mX11_needRecipe hl0 hE p0 σ (.inr k2) σ2 hcl s.heap.size) (cwV 1 hts gX11_bestNumber_X11_needRecipe rfl rfl rfl (by decide +kernel) ⟨Nat.le_of_ble_eq_true rfl, Nat.le_of_ble_eq_true rfl⟩) (x_preV _ hw hA hG (cX0 hE) rfl) rfl rfl hl.1 rfl (lv_room (Nat.le_of_ble_eq_true rfl)) dX11_bestNumber_2 ⟨Nat.le_of_ble_eq_true rfl, Nat.le_of_ble_eq_true rfl⟩) hw hA (fun q9 ce H locs h1 h2 h3 hw => ?_) (fun H locs h1 hw => nomatch h1)
    exact x_tout hlk hex h1 h2 h3 hw hf (Nat.le_of_ble_eq_true rfl) (Nat.le_of_ble_eq_true rfl)
  refine x_tcallv (vx_runV (As := [.int p0]) (rest := []) ⟨hx, hb, hml, hown, hts⟩ (mX11_needRecipe hl0 hE p0 σ (.inl r1) σ2 hcl s.heap.size) (cwV 1 hts gX11_bestNumber_X11_needRecipe rfl rfl rfl (by decide +kernel) ⟨Nat.le_of_ble_eq_true rfl, Nat.le_of_ble_eq_true rfl⟩) (x_preV _ hw hA hG (cX0 hE) rfl) rfl rfl hl.1 rfl (lv_room (Nat.le_of_ble_eq_true rfl)) dX11_bestNumber_2 ⟨Nat.le_of_ble_eq_true rfl, Nat.le_of_ble_eq_true rfl⟩) hw hA (fun q9 ce H locs h1 h2 h3 hw => by obtain ⟨_, h9, _⟩ := h3; cases h9) (fun H locs h1 hw => ?_)
  clear hcl h1
  refine lv_iload_n hx hb dX11_bestNumber_5 rfl (lv_at hl 2 rfl) ?_
  refine lv_iconst (v := 0) hx hb dX11_bestNumber_6 (by decide) ?_
  refine lv_bipush (v := 99) hx hb dX11_bestNumber_7 (by decide) ?_
  obtain ⟨r3, σ4, hcl, hf⟩ := xc2_f hf
  refine x_calli (va_runS (As := [.int p1, .int 0, .int 99]) (rest := []) ⟨hx, hb, hml, hown, hts⟩ (mX11_isWithin hE p1 0 99 σ2 r3 σ4 hcl H.size) (va_cwS 3 hts gX11_bestNumber_X11_isWithin rfl rfl rfl (by decide +kernel) ⟨Nat.le_of_ble_eq_true rfl, Nat.le_of_ble_eq_true rfl⟩) (x_preS _ hw hA hG) rfl rfl hl.1 rfl (lv_room (Nat.le_of_ble_eq_true rfl)) dX11_bestNumber_9 ⟨Nat.le_of_ble_eq_true rfl, Nat.le_of_ble_eq_true rfl⟩) hw hA (fun H locs hw => ?_)
  clear hcl
  refine lv_if_eq (tgt := 29) hx hb dX11_bestNumber_12 (by decide) (fun c12 => ?_) (fun c12 => ?_)
  · replace hf := xif_pos c12 hf
    exact h29 p0 p1 p2 σ4 _ _ _ hw (lv_sub hl [0, 1, 2, 3] rfl) hf
  · replace hf := xif_neg c12 hf
    refine lv_iload_n hx hb dX11_bestNumber_15 rfl (lv_at hl 3 rfl) ?_
    refine lv_iconst (v := 0) hx hb dX11_bestNumber_16 (by decide) ?_
    refine lv_bipush (v := 99) hx hb dX11_bestNumber_17 (by decide) ?_
    obtain ⟨r5, σ6, hcl, hf⟩ := xc2_f hf
    refine x_calli (va_runS (As := [.int p2, .int 0, .int 99]) (rest := []) ⟨hx, hb, hml, hown, hts⟩ (mX11_isWithin hE p2 0 99 σ4 r5 σ6 hcl H.size) (va_cwS 3 hts gX11_bestNumber_X11_isWithin rfl rfl rfl (by decide +kernel) ⟨Nat.le_of_ble_eq_true rfl, Nat.le_of_ble_eq_true rfl⟩) (x_preS _ hw hA hG) rfl rfl hl.1 rfl (lv_room (Nat.le_of_ble_eq_true rfl)) dX11_bestNumber_19 ⟨Nat.le_of_ble_eq_true rfl, Nat.le_of_ble_eq_true rfl⟩) hw hA (fun H locs hw => ?_)
    clear hcl
    refine lv_if_eq (tgt := 29) hx hb dX11_bestNumber_22 (by decide) (fun c22 => ?_) (fun c22 => ?_)
    · replace hf := xif_pos c22 hf
      exact h29 p0 p1 p2 σ6 _ _ _ hw (lv_sub hl [0, 1, 2, 3] rfl) hf
    · replace hf := xif_neg c22 hf
      refine lv_iconst (v := 1) hx hb dX11_bestNumber_25 (by decide) ?_
      refine lv_goto (tgt := 30) hx hb dX11_bestNumber_26 (by decide) ?_
      exact h30 p0 p1 p2 1 σ6 _ _ _ hw (lv_sub hl [0, 1, 2, 3] rfl) hf

def fX11_loss_c41 (a1 : Int32) (a2 : Int32) (a3 : Int32) (a4 : Int32) (t0 : Int32) (σ : xSt) : Option (xO × xSt) := (xct (fX11_needArgument t0 σ) fun r9 σ10 => (xc2 (fX4_lossOf a1 a2 a3 a4 σ10) fun r11 σ12 => some ((.inl r11 : xO), σ12)))
def fX11_loss_c40 (a1 : Int32) (a2 : Int32) (a3 : Int32) (a4 : Int32) (σ : xSt) : Option (xO × xSt) := fX11_loss_c41 a1 a2 a3 a4 0 σ
def fX11_loss (p0 : Int32) (p1 : Int32) (p2 : Int32) (p3 : Int32) (σ : xSt) : Option (xO × xSt) := (xct (fX11_needRecipe p0 σ) fun r1 σ2 => (xc2 (fX11_isWithin p1 0 99 σ2) fun r3 σ4 => (if r3 = 0 then fX11_loss_c40 p0 p1 p2 p3 σ4 else (xc2 (fX11_isWithin p2 0 99 σ4) fun r5 σ6 => (if r5 = 0 then fX11_loss_c40 p0 p1 p2 p3 σ6 else (xc2 (fX11_isWithin p3 0 99 σ6) fun r7 σ8 => (if r7 = 0 then fX11_loss_c40 p0 p1 p2 p3 σ8 else fX11_loss_c41 p0 p1 p2 p3 1 σ8)))))))
abbrev rmX11_loss : Room := { frames := 8, cells := 2, slots := 12, locals := 131 }
set_option maxRecDepth 100000 in
set_option maxHeartbeats 4000000 in
theorem mX11_loss {l : Launch} (hl0 : l.stackTraces = false) {E : xE} (hE : E.sh = shX) (p0 : Int32) (p1 : Int32) (p2 : Int32) (p3 : Int32) (σ : xSt) (o1 : xO) (o2 : xSt) (hf : fX11_loss p0 p1 p2 p3 σ = some (o1, o2)) : xMt l yX11_loss wsX11_loss rmX11_loss E [.ref (E.a 0), .int p0, .int p1, .int p2, .int p3] σ o1 o2 2 := by
  unfold fX11_loss at hf
  refine xMt_of (cc := cX11_loss) (maxL := 5) (ret := (some .int)) (by decide) rfl (Nat.le_of_ble_eq_true rfl) ?_
  intro p e s m args below meth c A ls ⟨hx, hb, hr, hml, hown, hts, hlk⟩ hA hG hw hl hex
  have hown : s.vm.findClass RX11 = some m.cls := hown
  have hl : lv_has ls 5 [(0, .ref (E.a 0)), (1, .int p0), (2, .int p1), (3, .int p2), (4, .int p3)] := hl
  have hk65 := hts (.fieldLink RX11 65 "OvenRound" "notes" "LOvenRound$Notes;") (by decide +kernel)
  have hiX11 : ∀ w ∈ wsX110, w ∈ wsX11_loss := by decide +kernel
  have h41 : ∀ (a1 : Int32) (a2 : Int32) (a3 : Int32) (a4 : Int32) (t0 : Int32) (σ : xSt) (H : Heap) (locs : List Loc) (ls : Array Slot), xw E A s.heap s σ H locs → lv_has ls 5 [(0, .ref (E.a 0)), (1, .int a1), (2, .int a2), (3, .int a3), (4, .int a4)] → fX11_loss_c41 a1 a2 a3 a4 t0 σ = some (o1, o2) → W p l e rmX11_loss s m args below meth c H locs 1 6 (vx_MQ below (xQt E A o1 o2) (xXt E A o1 o2) args s 2 12 A) (F0 m 41 ls [.int t0]) := by
    intro a1 a2 a3 a4 t0 σ H locs ls hw hl hf
    unfold fX11_loss_c41 at hf
    rcases xct_e hf with ⟨k41, σ10, hcl, hf⟩ | ⟨r9, σ10, hcl, hf⟩
    · refine x_tcallv (vx_runS (As := [.int t0]) (rest := []) ⟨hx, hb, hml, hown, hts⟩ (mX11_needArgument hl0 t0 σ (.inr k41) σ10 hcl H.size) (va_cwS 1 hts gX11_loss_X11_needArgument rfl rfl rfl (by decide +kernel) ⟨Nat.le_of_ble_eq_true rfl, Nat.le_of_ble_eq_true rfl⟩) (x_preS _ hw hA hG) rfl rfl hl.1 rfl (lv_room (Nat.le_of_ble_eq_true rfl)) dX11_loss_41 ⟨Nat.le_of_ble_eq_true rfl, Nat.le_of_ble_eq_true rfl⟩) hw hA (fun q9 ce H locs h1 h2 h3 hw => ?_) (fun H locs h1 hw => nomatch h1)
      exact x_tout hlk hex h1 h2 h3 hw hf (Nat.le_of_ble_eq_true rfl) (Nat.le_of_ble_eq_true rfl)
    refine x_tcallv (vx_runS (As := [.int t0]) (rest := []) ⟨hx, hb, hml, hown, hts⟩ (mX11_needArgument hl0 t0 σ (.inl r9) σ10 hcl H.size) (va_cwS 1 hts gX11_loss_X11_needArgument rfl rfl rfl (by decide +kernel) ⟨Nat.le_of_ble_eq_true rfl, Nat.le_of_ble_eq_true rfl⟩) (x_preS _ hw hA hG) rfl rfl hl.1 rfl (lv_room (Nat.le_of_ble_eq_true rfl)) dX11_loss_41 ⟨Nat.le_of_ble_eq_true rfl, Nat.le_of_ble_eq_true rfl⟩) hw hA (fun q9 ce H locs h1 h2 h3 hw => by obtain ⟨_, h9, _⟩ := h3; cases h9) (fun H locs h1 hw => ?_)
    clear hcl h1
    refine lv_aload_n hx hb dX11_loss_44 rfl (lv_at hl 0 rfl) ?_
    refine x_getr hx hb hw (cX0 hE) (own := RX11) (ref := RX11) (C := RX11) (T := TX11) (N := 14) hts hiX11 hown rfl 7 (by decide) hk65 (fun _ h9 => h9) rfl dX11_loss_45 ?_
    refine lv_iload_n hx hb dX11_loss_48 rfl (lv_at hl 1 rfl) ?_
    refine lv_iload_n hx hb dX11_loss_49 rfl (lv_at hl 2 rfl) ?_
    refine lv_iload_n hx hb dX11_loss_50 rfl (lv_at hl 3 rfl) ?_
    refine lv_iload hx hb dX11_loss_51 (lv_at hl 4 rfl) ?_
    obtain ⟨r11, σ12, hcl, hf⟩ := xc2_f hf
    refine x_calli (va_runV (As := [.int a1, .int a2, .int a3, .int a4]) (rest := []) ⟨hx, hb, hml, hown, hts⟩ (mX4_lossOf hE a1 a2 a3 a4 σ10 r11 σ12 hcl H.size) (cwV 4 hts gX11_loss_X4_lossOf rfl rfl rfl (by decide +kernel) ⟨Nat.le_of_ble_eq_true rfl, Nat.le_of_ble_eq_true rfl⟩) (x_preV _ hw hA hG (cX35 hE) rfl) rfl rfl hl.1 rfl (lv_room (Nat.le_of_ble_eq_true rfl)) dX11_loss_53 ⟨Nat.le_of_ble_eq_true rfl, Nat.le_of_ble_eq_true rfl⟩) hw hA (fun H locs hw => ?_)
    clear hcl
    exact x_tiret hx hb hr hlk hw hf (Nat.le_of_ble_eq_true rfl) (Nat.le_of_ble_eq_true rfl) dX11_loss_56
  have h40 : ∀ (a1 : Int32) (a2 : Int32) (a3 : Int32) (a4 : Int32) (σ : xSt) (H : Heap) (locs : List Loc) (ls : Array Slot), xw E A s.heap s σ H locs → lv_has ls 5 [(0, .ref (E.a 0)), (1, .int a1), (2, .int a2), (3, .int a3), (4, .int a4)] → fX11_loss_c40 a1 a2 a3 a4 σ = some (o1, o2) → W p l e rmX11_loss s m args below meth c H locs 1 6 (vx_MQ below (xQt E A o1 o2) (xXt E A o1 o2) args s 2 12 A) (F0 m 40 ls []) := by
    intro a1 a2 a3 a4 σ H locs ls hw hl hf
    unfold fX11_loss_c40 at hf
    refine lv_iconst (v := 0) hx hb dX11_loss_40 (by decide) ?_
    exact h41 a1 a2 a3 a4 0 σ _ _ _ hw (lv_sub hl [0, 1, 2, 3, 4] rfl) hf
  refine lv_aload_n hx hb dX11_loss_0 rfl (lv_at hl 0 rfl) ?_
  refine lv_iload_n hx hb dX11_loss_1 rfl (lv_at hl 1 rfl) ?_
  rcases xct_e hf with ⟨k2, σ2, hcl, hf⟩ | ⟨r1, σ2, hcl, hf⟩
  · refine x_tcallv (vx_runV (As := [.int p0]) (rest := []) ⟨hx, hb, hml, hown, hts⟩ (mX11_needRecipe hl0 hE p0 σ (.inr k2) σ2 hcl s.heap.size) (cwV 1 hts gX11_loss_X11_needRecipe rfl rfl rfl (by decide +kernel) ⟨Nat.le_of_ble_eq_true rfl, Nat.le_of_ble_eq_true rfl⟩) (x_preV _ hw hA hG (cX0 hE) rfl) rfl rfl hl.1 rfl (lv_room (Nat.le_of_ble_eq_true rfl)) dX11_loss_2 ⟨Nat.le_of_ble_eq_true rfl, Nat.le_of_ble_eq_true rfl⟩) hw hA (fun q9 ce H locs h1 h2 h3 hw => ?_) (fun H locs h1 hw => nomatch h1)
    exact x_tout hlk hex h1 h2 h3 hw hf (Nat.le_of_ble_eq_true rfl) (Nat.le_of_ble_eq_true rfl)
  refine x_tcallv (vx_runV (As := [.int p0]) (rest := []) ⟨hx, hb, hml, hown, hts⟩ (mX11_needRecipe hl0 hE p0 σ (.inl r1) σ2 hcl s.heap.size) (cwV 1 hts gX11_loss_X11_needRecipe rfl rfl rfl (by decide +kernel) ⟨Nat.le_of_ble_eq_true rfl, Nat.le_of_ble_eq_true rfl⟩) (x_preV _ hw hA hG (cX0 hE) rfl) rfl rfl hl.1 rfl (lv_room (Nat.le_of_ble_eq_true rfl)) dX11_loss_2 ⟨Nat.le_of_ble_eq_true rfl, Nat.le_of_ble_eq_true rfl⟩) hw hA (fun q9 ce H locs h1 h2 h3 hw => by obtain ⟨_, h9, _⟩ := h3; cases h9) (fun H locs h1 hw => ?_)
  clear hcl h1
  refine lv_iload_n hx hb dX11_loss_5 rfl (lv_at hl 2 rfl) ?_
  refine lv_iconst (v := 0) hx hb dX11_loss_6 (by decide) ?_
  refine lv_bipush (v := 99) hx hb dX11_loss_7 (by decide) ?_
  obtain ⟨r3, σ4, hcl, hf⟩ := xc2_f hf
  refine x_calli (va_runS (As := [.int p1, .int 0, .int 99]) (rest := []) ⟨hx, hb, hml, hown, hts⟩ (mX11_isWithin hE p1 0 99 σ2 r3 σ4 hcl H.size) (va_cwS 3 hts gX11_loss_X11_isWithin rfl rfl rfl (by decide +kernel) ⟨Nat.le_of_ble_eq_true rfl, Nat.le_of_ble_eq_true rfl⟩) (x_preS _ hw hA hG) rfl rfl hl.1 rfl (lv_room (Nat.le_of_ble_eq_true rfl)) dX11_loss_9 ⟨Nat.le_of_ble_eq_true rfl, Nat.le_of_ble_eq_true rfl⟩) hw hA (fun H locs hw => ?_)
  clear hcl
  refine lv_if_eq (tgt := 40) hx hb dX11_loss_12 (by decide) (fun c12 => ?_) (fun c12 => ?_)
  · replace hf := xif_pos c12 hf
    exact h40 p0 p1 p2 p3 σ4 _ _ _ hw (lv_sub hl [0, 1, 2, 3, 4] rfl) hf
  · replace hf := xif_neg c12 hf
    refine lv_iload_n hx hb dX11_loss_15 rfl (lv_at hl 3 rfl) ?_
    refine lv_iconst (v := 0) hx hb dX11_loss_16 (by decide) ?_
    refine lv_bipush (v := 99) hx hb dX11_loss_17 (by decide) ?_
    obtain ⟨r5, σ6, hcl, hf⟩ := xc2_f hf
    refine x_calli (va_runS (As := [.int p2, .int 0, .int 99]) (rest := []) ⟨hx, hb, hml, hown, hts⟩ (mX11_isWithin hE p2 0 99 σ4 r5 σ6 hcl H.size) (va_cwS 3 hts gX11_loss_X11_isWithin rfl rfl rfl (by decide +kernel) ⟨Nat.le_of_ble_eq_true rfl, Nat.le_of_ble_eq_true rfl⟩) (x_preS _ hw hA hG) rfl rfl hl.1 rfl (lv_room (Nat.le_of_ble_eq_true rfl)) dX11_loss_19 ⟨Nat.le_of_ble_eq_true rfl, Nat.le_of_ble_eq_true rfl⟩) hw hA (fun H locs hw => ?_)
    clear hcl
    refine lv_if_eq (tgt := 40) hx hb dX11_loss_22 (by decide) (fun c22 => ?_) (fun c22 => ?_)
    · replace hf := xif_pos c22 hf
      exact h40 p0 p1 p2 p3 σ6 _ _ _ hw (lv_sub hl [0, 1, 2, 3, 4] rfl) hf
    · replace hf := xif_neg c22 hf
      refine lv_iload hx hb dX11_loss_25 (lv_at hl 4 rfl) ?_
      refine lv_iconst (v := 0) hx hb dX11_loss_27 (by decide) ?_
      refine lv_bipush (v := 99) hx hb dX11_loss_28 (by decide) ?_
      obtain ⟨r7, σ8, hcl, hf⟩ := xc2_f hf
      refine x_calli (va_runS (As := [.int p3, .int 0, .int 99]) (rest := []) ⟨hx, hb, hml, hown, hts⟩ (mX11_isWithin hE p3 0 99 σ6 r7 σ8 hcl H.size) (va_cwS 3 hts gX11_loss_X11_isWithin rfl rfl rfl (by decide +kernel) ⟨Nat.le_of_ble_eq_true rfl, Nat.le_of_ble_eq_true rfl⟩) (x_preS _ hw hA hG) rfl rfl hl.1 rfl (lv_room (Nat.le_of_ble_eq_true rfl)) dX11_loss_30 ⟨Nat.le_of_ble_eq_true rfl, Nat.le_of_ble_eq_true rfl⟩) hw hA (fun H locs hw => ?_)
      clear hcl
      refine lv_if_eq (tgt := 40) hx hb dX11_loss_33 (by decide) (fun c33 => ?_) (fun c33 => ?_)
      · replace hf := xif_pos c33 hf
        exact h40 p0 p1 p2 p3 σ8 _ _ _ hw (lv_sub hl [0, 1, 2, 3, 4] rfl) hf
      · replace hf := xif_neg c33 hf
        refine lv_iconst (v := 1) hx hb dX11_loss_36 (by decide) ?_
        refine lv_goto (tgt := 41) hx hb dX11_loss_37 (by decide) ?_
        exact h41 p0 p1 p2 p3 1 σ8 _ _ _ hw (lv_sub hl [0, 1, 2, 3, 4] rfl) hf

def fX11_addShop_c79 (a1 : Int32) (a2 : Int32) (a3 : Int32) (a4 : Int32) (a5 : Int32) (t0 : Int32) (σ : xSt) : Option (xO × xSt) := (xct (fX11_needState t0 σ) fun r13 σ14 => (xc (fX11_remember σ14) fun σ16 => (xl (σ16 38 5) fun v17 => (xs σ16 39 8 v17 a1 fun σ18 => (xs σ18 40 8 v17 a2 fun σ19 => (xs σ19 41 7 v17 a3 fun σ20 => (xs σ20 42 7 v17 a4 fun σ21 => (xs σ21 43 7 v17 a5 fun σ22 => (xp σ22 38 5 ((σ22 38 5) + 1) fun σ23 => some ((.inl v17 : xO), σ23))))))))))
def fX11_addShop_c59 (a1 : Int32) (a2 : Int32) (a3 : Int32) (a4 : Int32) (a5 : Int32) (t0 : Int32) (σ : xSt) : Option (xO × xSt) := (xct (fX11_needArgument t0 σ) fun r11 σ12 => (if 7 ≤ (σ12 38 5) then fX11_addShop_c79 a1 a2 a3 a4 a5 0 σ12 else fX11_addShop_c79 a1 a2 a3 a4 a5 1 σ12))
def fX11_addShop_c58 (a1 : Int32) (a2 : Int32) (a3 : Int32) (a4 : Int32) (a5 : Int32) (σ : xSt) : Option (xO × xSt) := fX11_addShop_c59 a1 a2 a3 a4 a5 0 σ
def fX11_addShop (p0 : Int32) (p1 : Int32) (p2 : Int32) (p3 : Int32) (p4 : Int32) (σ : xSt) : Option (xO × xSt) := (xc2 (fX11_isWithin p0 0 20 σ) fun r1 σ2 => (if r1 = 0 then fX11_addShop_c58 p0 p1 p2 p3 p4 σ2 else (xc2 (fX11_isWithin p1 0 20 σ2) fun r3 σ4 => (if r3 = 0 then fX11_addShop_c58 p0 p1 p2 p3 p4 σ4 else (xc2 (fX11_isWithin p2 0 600 σ4) fun r5 σ6 => (if r5 = 0 then fX11_addShop_c58 p0 p1 p2 p3 p4 σ6 else (xc2 (fX11_isWithin p3 p2 600 σ6) fun r7 σ8 => (if r7 = 0 then fX11_addShop_c58 p0 p1 p2 p3 p4 σ8 else (xc2 (fX11_isWithin p4 0 30 σ8) fun r9 σ10 => (if r9 = 0 then fX11_addShop_c58 p0 p1 p2 p3 p4 σ10 else fX11_addShop_c59 p0 p1 p2 p3 p4 1 σ10))))))))))
abbrev rmX11_addShop : Room := { frames := 7, cells := 2, slots := 12, locals := 139 }
set_option maxRecDepth 100000 in
set_option maxHeartbeats 4000000 in
theorem mX11_addShop {l : Launch} (hl0 : l.stackTraces = false) {E : xE} (hE : E.sh = shX) (p0 : Int32) (p1 : Int32) (p2 : Int32) (p3 : Int32) (p4 : Int32) (σ : xSt) (o1 : xO) (o2 : xSt) (hf : fX11_addShop p0 p1 p2 p3 p4 σ = some (o1, o2)) : xMt l yX11_addShop wsX11_addShop rmX11_addShop E [.ref (E.a 0), .int p0, .int p1, .int p2, .int p3, .int p4] σ o1 o2 2 := by
  unfold fX11_addShop at hf
  refine xMt_of (cc := cX11_addShop) (maxL := 7) (ret := (some .int)) (by decide) rfl (Nat.le_of_ble_eq_true rfl) ?_
  intro p e s m args below meth c A ls ⟨hx, hb, hr, hml, hown, hts, hlk⟩ hA hG hw hl hex
  have hown : s.vm.findClass RX11 = some m.cls := hown
  have hl : lv_has ls 7 [(0, .ref (E.a 0)), (1, .int p0), (2, .int p1), (3, .int p2), (4, .int p3), (5, .int p4)] := hl
  have hk70 := hts (.fieldLink RX11 70 "OvenRound" "cart" "LOvenRound$Cart;") (by decide +kernel)
  have hiX11 : ∀ w ∈ wsX110, w ∈ wsX11_addShop := by decide +kernel
  have hk316 := hts (.fieldLink RX11 316 "OvenRound$Cart" "count" "I") (by decide +kernel)
  have hiX1 : ∀ w ∈ wsX10, w ∈ wsX11_addShop := by decide +kernel
  have hk317 := hts (.fieldLink RX11 317 "OvenRound$Cart" "x" "[I") (by decide +kernel)
  have hk320 := hts (.fieldLink RX11 320 "OvenRound$Cart" "y" "[I") (by decide +kernel)
  have hk323 := hts (.fieldLink RX11 323 "OvenRound$Cart" "opening" "[I") (by decide +kernel)
  have hk326 := hts (.fieldLink RX11 326 "OvenRound$Cart" "closing" "[I") (by decide +kernel)
  have hk329 := hts (.fieldLink RX11 329 "OvenRound$Cart" "stay" "[I") (by decide +kernel)
  have h79 : ∀ (a1 : Int32) (a2 : Int32) (a3 : Int32) (a4 : Int32) (a5 : Int32) (t0 : Int32) (σ : xSt) (H : Heap) (locs : List Loc) (ls : Array Slot), xw E A s.heap s σ H locs → lv_has ls 7 [(0, .ref (E.a 0)), (1, .int a1), (2, .int a2), (3, .int a3), (4, .int a4), (5, .int a5)] → fX11_addShop_c79 a1 a2 a3 a4 a5 t0 σ = some (o1, o2) → W p l e rmX11_addShop s m args below meth c H locs 1 6 (vx_MQ below (xQt E A o1 o2) (xXt E A o1 o2) args s 2 12 A) (F0 m 79 ls [.int t0]) := by
    intro a1 a2 a3 a4 a5 t0 σ H locs ls hw hl hf
    unfold fX11_addShop_c79 at hf
    rcases xct_e hf with ⟨k79, σ14, hcl, hf⟩ | ⟨r13, σ14, hcl, hf⟩
    · refine x_tcallv (vx_runS (As := [.int t0]) (rest := []) ⟨hx, hb, hml, hown, hts⟩ (mX11_needState hl0 t0 σ (.inr k79) σ14 hcl H.size) (va_cwS 1 hts gX11_addShop_X11_needState rfl rfl rfl (by decide +kernel) ⟨Nat.le_of_ble_eq_true rfl, Nat.le_of_ble_eq_true rfl⟩) (x_preS _ hw hA hG) rfl rfl hl.1 rfl (lv_room (Nat.le_of_ble_eq_true rfl)) dX11_addShop_79 ⟨Nat.le_of_ble_eq_true rfl, Nat.le_of_ble_eq_true rfl⟩) hw hA (fun q9 ce H locs h1 h2 h3 hw => ?_) (fun H locs h1 hw => nomatch h1)
      exact x_tout hlk hex h1 h2 h3 hw hf (Nat.le_of_ble_eq_true rfl) (Nat.le_of_ble_eq_true rfl)
    refine x_tcallv (vx_runS (As := [.int t0]) (rest := []) ⟨hx, hb, hml, hown, hts⟩ (mX11_needState hl0 t0 σ (.inl r13) σ14 hcl H.size) (va_cwS 1 hts gX11_addShop_X11_needState rfl rfl rfl (by decide +kernel) ⟨Nat.le_of_ble_eq_true rfl, Nat.le_of_ble_eq_true rfl⟩) (x_preS _ hw hA hG) rfl rfl hl.1 rfl (lv_room (Nat.le_of_ble_eq_true rfl)) dX11_addShop_79 ⟨Nat.le_of_ble_eq_true rfl, Nat.le_of_ble_eq_true rfl⟩) hw hA (fun q9 ce H locs h1 h2 h3 hw => by obtain ⟨_, h9, _⟩ := h3; cases h9) (fun H locs h1 hw => ?_)
    clear hcl h1
    refine lv_aload_n hx hb dX11_addShop_82 rfl (lv_at hl 0 rfl) ?_
    obtain ⟨σ16, hcl, hf⟩ := xc_e hf
    refine x_callv (va_runV (As := []) (rest := []) ⟨hx, hb, hml, hown, hts⟩ (mX11_remember hE σ14 σ16 hcl H.size) (cwV 0 hts gX11_addShop_X11_remember rfl rfl rfl (by decide +kernel) ⟨Nat.le_of_ble_eq_true rfl, Nat.le_of_ble_eq_true rfl⟩) (x_preV _ hw hA hG (cX0 hE) rfl) rfl rfl hl.1 rfl (lv_room (Nat.le_of_ble_eq_true rfl)) dX11_addShop_83 ⟨Nat.le_of_ble_eq_true rfl, Nat.le_of_ble_eq_true rfl⟩) hw hA (fun H locs hw => ?_)
    clear hcl
    refine lv_aload_n hx hb dX11_addShop_86 rfl (lv_at hl 0 rfl) ?_
    refine x_getr hx hb hw (cX0 hE) (own := RX11) (ref := RX11) (C := RX11) (T := TX11) (N := 14) hts hiX11 hown rfl 8 (by decide) hk70 (fun _ h9 => h9) rfl dX11_addShop_87 ?_
    refine x_geti hx hb hw (cX38 hE) (own := RX11) (ref := RX1) (C := RX1) (T := TX1) (N := 9) hts hiX1 hown rfl 5 (by decide) hk316 (fun _ h9 => h9) rfl dX11_addShop_90 ?_
    refine lv_topi (fun v17 ex => ?_)
    replace hf := xl_f hf v17 ex
    clear ex
    refine lv_istore (lv' := [(6, .int v17), (0, .ref (E.a 0)), (1, .int a1), (2, .int a2), (3, .int a3), (4, .int a4), (5, .int a5)]) hx hb dX11_addShop_93 hl (by decide) rfl (fun ls hl => ?_)
    refine lv_aload_n hx hb dX11_addShop_95 rfl (lv_at hl 1 rfl) ?_
    refine x_getr hx hb hw (cX0 hE) (own := RX11) (ref := RX11) (C := RX11) (T := TX11) (N := 14) hts hiX11 hown rfl 8 (by decide) hk70 (fun _ h9 => h9) rfl dX11_addShop_96 ?_
    refine x_getr hx hb hw (cX38 hE) (own := RX11) (ref := RX1) (C := RX1) (T := TX1) (N := 9) hts hiX1 hown rfl 0 (by decide) hk317 (fun _ h9 => h9) rfl dX11_addShop_99 ?_
    refine lv_iload hx hb dX11_addShop_102 (lv_at hl 0 rfl) ?_
    refine lv_iload_n hx hb dX11_addShop_104 rfl (lv_at hl 2 rfl) ?_
    obtain ⟨hin, hf⟩ := xs_f hf
    refine x_iast hx hb hw (cX39 hE) hin dX11_addShop_105 (fun σ18 H locs ex hw => ?_)
    replace hf := hf σ18 ex
    clear ex hin
    refine lv_aload_n hx hb dX11_addShop_106 rfl (lv_at hl 1 rfl) ?_
    refine x_getr hx hb hw (cX0 hE) (own := RX11) (ref := RX11) (C := RX11) (T := TX11) (N := 14) hts hiX11 hown rfl 8 (by decide) hk70 (fun _ h9 => h9) rfl dX11_addShop_107 ?_
    refine x_getr hx hb hw (cX38 hE) (own := RX11) (ref := RX1) (C := RX1) (T := TX1) (N := 9) hts hiX1 hown rfl 1 (by decide) hk320 (fun _ h9 => h9) rfl dX11_addShop_110 ?_
    refine lv_iload hx hb dX11_addShop_113 (lv_at hl 0 rfl) ?_
    refine lv_iload_n hx hb dX11_addShop_115 rfl (lv_at hl 3 rfl) ?_
    obtain ⟨hin, hf⟩ := xs_f hf
    refine x_iast hx hb hw (cX40 hE) hin dX11_addShop_116 (fun σ19 H locs ex hw => ?_)
    replace hf := hf σ19 ex
    clear ex hin
    refine lv_aload_n hx hb dX11_addShop_117 rfl (lv_at hl 1 rfl) ?_
    refine x_getr hx hb hw (cX0 hE) (own := RX11) (ref := RX11) (C := RX11) (T := TX11) (N := 14) hts hiX11 hown rfl 8 (by decide) hk70 (fun _ h9 => h9) rfl dX11_addShop_118 ?_
    refine x_getr hx hb hw (cX38 hE) (own := RX11) (ref := RX1) (C := RX1) (T := TX1) (N := 9) hts hiX1 hown rfl 2 (by decide) hk323 (fun _ h9 => h9) rfl dX11_addShop_121 ?_
    refine lv_iload hx hb dX11_addShop_124 (lv_at hl 0 rfl) ?_
    refine lv_iload_n hx hb dX11_addShop_126 rfl (lv_at hl 4 rfl) ?_
    obtain ⟨hin, hf⟩ := xs_f hf
    refine x_iast hx hb hw (cX41 hE) hin dX11_addShop_127 (fun σ20 H locs ex hw => ?_)
    replace hf := hf σ20 ex
    clear ex hin
    refine lv_aload_n hx hb dX11_addShop_128 rfl (lv_at hl 1 rfl) ?_
    refine x_getr hx hb hw (cX0 hE) (own := RX11) (ref := RX11) (C := RX11) (T := TX11) (N := 14) hts hiX11 hown rfl 8 (by decide) hk70 (fun _ h9 => h9) rfl dX11_addShop_129 ?_
    refine x_getr hx hb hw (cX38 hE) (own := RX11) (ref := RX1) (C := RX1) (T := TX1) (N := 9) hts hiX1 hown rfl 3 (by decide) hk326 (fun _ h9 => h9) rfl dX11_addShop_132 ?_
    refine lv_iload hx hb dX11_addShop_135 (lv_at hl 0 rfl) ?_
    refine lv_iload hx hb dX11_addShop_137 (lv_at hl 5 rfl) ?_
    obtain ⟨hin, hf⟩ := xs_f hf
    refine x_iast hx hb hw (cX42 hE) hin dX11_addShop_139 (fun σ21 H locs ex hw => ?_)
    replace hf := hf σ21 ex
    clear ex hin
    refine lv_aload_n hx hb dX11_addShop_140 rfl (lv_at hl 1 rfl) ?_
    refine x_getr hx hb hw (cX0 hE) (own := RX11) (ref := RX11) (C := RX11) (T := TX11) (N := 14) hts hiX11 hown rfl 8 (by decide) hk70 (fun _ h9 => h9) rfl dX11_addShop_141 ?_
    refine x_getr hx hb hw (cX38 hE) (own := RX11) (ref := RX1) (C := RX1) (T := TX1) (N := 9) hts hiX1 hown rfl 4 (by decide) hk329 (fun _ h9 => h9) rfl dX11_addShop_144 ?_
    refine lv_iload hx hb dX11_addShop_147 (lv_at hl 0 rfl) ?_
    refine lv_iload hx hb dX11_addShop_149 (lv_at hl 6 rfl) ?_
    obtain ⟨hin, hf⟩ := xs_f hf
    refine x_iast hx hb hw (cX43 hE) hin dX11_addShop_151 (fun σ22 H locs ex hw => ?_)
    replace hf := hf σ22 ex
    clear ex hin
    refine lv_aload_n hx hb dX11_addShop_152 rfl (lv_at hl 1 rfl) ?_
    refine x_getr hx hb hw (cX0 hE) (own := RX11) (ref := RX11) (C := RX11) (T := TX11) (N := 14) hts hiX11 hown rfl 8 (by decide) hk70 (fun _ h9 => h9) rfl dX11_addShop_153 ?_
    refine lv_dup hx hb dX11_addShop_156 rfl ?_
    refine x_geti hx hb hw (cX38 hE) (own := RX11) (ref := RX1) (C := RX1) (T := TX1) (N := 9) hts hiX1 hown rfl 5 (by decide) hk316 (fun _ h9 => h9) rfl dX11_addShop_157 ?_
    refine lv_iconst (v := 1) hx hb dX11_addShop_160 (by decide) ?_
    refine lv_iadd hx hb dX11_addShop_161 ?_
    refine x_puti hx hb hw (cX38 hE) (own := RX11) (ref := RX1) (C := RX1) (T := TX1) (N := 9) hts hiX1 tyX1 tyX1_ok nmX1 hown rfl 5 (by decide) hk316 (fun _ h9 => h9) rfl (by decide +kernel) rfl dX11_addShop_162 (fun σ23 H locs ex hw => ?_)
    replace hf := xp_f hf σ23 ex
    clear ex
    refine lv_iload hx hb dX11_addShop_165 (lv_at hl 0 rfl) ?_
    exact x_tiret hx hb hr hlk hw hf (Nat.le_of_ble_eq_true rfl) (Nat.le_of_ble_eq_true rfl) dX11_addShop_167
  have h59 : ∀ (a1 : Int32) (a2 : Int32) (a3 : Int32) (a4 : Int32) (a5 : Int32) (t0 : Int32) (σ : xSt) (H : Heap) (locs : List Loc) (ls : Array Slot), xw E A s.heap s σ H locs → lv_has ls 7 [(0, .ref (E.a 0)), (1, .int a1), (2, .int a2), (3, .int a3), (4, .int a4), (5, .int a5)] → fX11_addShop_c59 a1 a2 a3 a4 a5 t0 σ = some (o1, o2) → W p l e rmX11_addShop s m args below meth c H locs 0 0 (vx_MQ below (xQt E A o1 o2) (xXt E A o1 o2) args s 2 12 A) (F0 m 59 ls [.int t0]) := by
    intro a1 a2 a3 a4 a5 t0 σ H locs ls hw hl hf
    unfold fX11_addShop_c59 at hf
    rcases xct_e hf with ⟨k59, σ12, hcl, hf⟩ | ⟨r11, σ12, hcl, hf⟩
    · refine x_tcallv (vx_runS (As := [.int t0]) (rest := []) ⟨hx, hb, hml, hown, hts⟩ (mX11_needArgument hl0 t0 σ (.inr k59) σ12 hcl H.size) (va_cwS 1 hts gX11_addShop_X11_needArgument rfl rfl rfl (by decide +kernel) ⟨Nat.le_of_ble_eq_true rfl, Nat.le_of_ble_eq_true rfl⟩) (x_preS _ hw hA hG) rfl rfl hl.1 rfl (lv_room (Nat.le_of_ble_eq_true rfl)) dX11_addShop_59 ⟨Nat.le_of_ble_eq_true rfl, Nat.le_of_ble_eq_true rfl⟩) hw hA (fun q9 ce H locs h1 h2 h3 hw => ?_) (fun H locs h1 hw => nomatch h1)
      exact x_tout hlk hex h1 h2 h3 hw hf (Nat.le_of_ble_eq_true rfl) (Nat.le_of_ble_eq_true rfl)
    refine x_tcallv (vx_runS (As := [.int t0]) (rest := []) ⟨hx, hb, hml, hown, hts⟩ (mX11_needArgument hl0 t0 σ (.inl r11) σ12 hcl H.size) (va_cwS 1 hts gX11_addShop_X11_needArgument rfl rfl rfl (by decide +kernel) ⟨Nat.le_of_ble_eq_true rfl, Nat.le_of_ble_eq_true rfl⟩) (x_preS _ hw hA hG) rfl rfl hl.1 rfl (lv_room (Nat.le_of_ble_eq_true rfl)) dX11_addShop_59 ⟨Nat.le_of_ble_eq_true rfl, Nat.le_of_ble_eq_true rfl⟩) hw hA (fun q9 ce H locs h1 h2 h3 hw => by obtain ⟨_, h9, _⟩ := h3; cases h9) (fun H locs h1 hw => ?_)
    clear hcl h1
    refine lv_aload_n hx hb dX11_addShop_62 rfl (lv_at hl 0 rfl) ?_
    refine x_getr hx hb hw (cX0 hE) (own := RX11) (ref := RX11) (C := RX11) (T := TX11) (N := 14) hts hiX11 hown rfl 8 (by decide) hk70 (fun _ h9 => h9) rfl dX11_addShop_63 ?_
    refine x_geti hx hb hw (cX38 hE) (own := RX11) (ref := RX1) (C := RX1) (T := TX1) (N := 9) hts hiX1 hown rfl 5 (by decide) hk316 (fun _ h9 => h9) rfl dX11_addShop_66 ?_
    refine lv_bipush (v := 7) hx hb dX11_addShop_69 (by decide) ?_
    refine lv_icmp_ge (tgt := 78) hx hb dX11_addShop_71 (by decide) (fun c71 => ?_) (fun c71 => ?_)
    · replace hf := xif_pos c71 hf
      refine lv_iconst (v := 0) hx hb dX11_addShop_78 (by decide) ?_
      exact h79 a1 a2 a3 a4 a5 0 σ12 _ _ _ hw (lv_sub hl [0, 1, 2, 3, 4, 5] rfl) hf
    · replace hf := xif_neg c71 hf
      refine lv_iconst (v := 1) hx hb dX11_addShop_74 (by decide) ?_
      refine lv_goto (tgt := 79) hx hb dX11_addShop_75 (by decide) ?_
      exact h79 a1 a2 a3 a4 a5 1 σ12 _ _ _ hw (lv_sub hl [0, 1, 2, 3, 4, 5] rfl) hf
  have h58 : ∀ (a1 : Int32) (a2 : Int32) (a3 : Int32) (a4 : Int32) (a5 : Int32) (σ : xSt) (H : Heap) (locs : List Loc) (ls : Array Slot), xw E A s.heap s σ H locs → lv_has ls 7 [(0, .ref (E.a 0)), (1, .int a1), (2, .int a2), (3, .int a3), (4, .int a4), (5, .int a5)] → fX11_addShop_c58 a1 a2 a3 a4 a5 σ = some (o1, o2) → W p l e rmX11_addShop s m args below meth c H locs 0 0 (vx_MQ below (xQt E A o1 o2) (xXt E A o1 o2) args s 2 12 A) (F0 m 58 ls []) := by
    intro a1 a2 a3 a4 a5 σ H locs ls hw hl hf
    unfold fX11_addShop_c58 at hf
    refine lv_iconst (v := 0) hx hb dX11_addShop_58 (by decide) ?_
    exact h59 a1 a2 a3 a4 a5 0 σ _ _ _ hw (lv_sub hl [0, 1, 2, 3, 4, 5] rfl) hf
  refine lv_iload_n hx hb dX11_addShop_0 rfl (lv_at hl 1 rfl) ?_
  refine lv_iconst (v := 0) hx hb dX11_addShop_1 (by decide) ?_
  refine lv_bipush (v := 20) hx hb dX11_addShop_2 (by decide) ?_
  obtain ⟨r1, σ2, hcl, hf⟩ := xc2_f hf
  refine x_calli (va_runS (As := [.int p0, .int 0, .int 20]) (rest := []) ⟨hx, hb, hml, hown, hts⟩ (mX11_isWithin hE p0 0 20 σ r1 σ2 hcl s.heap.size) (va_cwS 3 hts gX11_addShop_X11_isWithin rfl rfl rfl (by decide +kernel) ⟨Nat.le_of_ble_eq_true rfl, Nat.le_of_ble_eq_true rfl⟩) (x_preS _ hw hA hG) rfl rfl hl.1 rfl (lv_room (Nat.le_of_ble_eq_true rfl)) dX11_addShop_4 ⟨Nat.le_of_ble_eq_true rfl, Nat.le_of_ble_eq_true rfl⟩) hw hA (fun H locs hw => ?_)
  clear hcl
  refine lv_if_eq (tgt := 58) hx hb dX11_addShop_7 (by decide) (fun c7 => ?_) (fun c7 => ?_)
  · replace hf := xif_pos c7 hf
    exact h58 p0 p1 p2 p3 p4 σ2 _ _ _ hw (lv_sub hl [0, 1, 2, 3, 4, 5] rfl) hf
  · replace hf := xif_neg c7 hf
    refine lv_iload_n hx hb dX11_addShop_10 rfl (lv_at hl 2 rfl) ?_
    refine lv_iconst (v := 0) hx hb dX11_addShop_11 (by decide) ?_
    refine lv_bipush (v := 20) hx hb dX11_addShop_12 (by decide) ?_
    obtain ⟨r3, σ4, hcl, hf⟩ := xc2_f hf
    refine x_calli (va_runS (As := [.int p1, .int 0, .int 20]) (rest := []) ⟨hx, hb, hml, hown, hts⟩ (mX11_isWithin hE p1 0 20 σ2 r3 σ4 hcl H.size) (va_cwS 3 hts gX11_addShop_X11_isWithin rfl rfl rfl (by decide +kernel) ⟨Nat.le_of_ble_eq_true rfl, Nat.le_of_ble_eq_true rfl⟩) (x_preS _ hw hA hG) rfl rfl hl.1 rfl (lv_room (Nat.le_of_ble_eq_true rfl)) dX11_addShop_14 ⟨Nat.le_of_ble_eq_true rfl, Nat.le_of_ble_eq_true rfl⟩) hw hA (fun H locs hw => ?_)
    clear hcl
    refine lv_if_eq (tgt := 58) hx hb dX11_addShop_17 (by decide) (fun c17 => ?_) (fun c17 => ?_)
    · replace hf := xif_pos c17 hf
      exact h58 p0 p1 p2 p3 p4 σ4 _ _ _ hw (lv_sub hl [0, 1, 2, 3, 4, 5] rfl) hf
    · replace hf := xif_neg c17 hf
      refine lv_iload_n hx hb dX11_addShop_20 rfl (lv_at hl 3 rfl) ?_
      refine lv_iconst (v := 0) hx hb dX11_addShop_21 (by decide) ?_
      refine lv_sipush (v := 600) hx hb dX11_addShop_22 (by decide) ?_
      obtain ⟨r5, σ6, hcl, hf⟩ := xc2_f hf
      refine x_calli (va_runS (As := [.int p2, .int 0, .int 600]) (rest := []) ⟨hx, hb, hml, hown, hts⟩ (mX11_isWithin hE p2 0 600 σ4 r5 σ6 hcl H.size) (va_cwS 3 hts gX11_addShop_X11_isWithin rfl rfl rfl (by decide +kernel) ⟨Nat.le_of_ble_eq_true rfl, Nat.le_of_ble_eq_true rfl⟩) (x_preS _ hw hA hG) rfl rfl hl.1 rfl (lv_room (Nat.le_of_ble_eq_true rfl)) dX11_addShop_25 ⟨Nat.le_of_ble_eq_true rfl, Nat.le_of_ble_eq_true rfl⟩) hw hA (fun H locs hw => ?_)
      clear hcl
      refine lv_if_eq (tgt := 58) hx hb dX11_addShop_28 (by decide) (fun c28 => ?_) (fun c28 => ?_)
      · replace hf := xif_pos c28 hf
        exact h58 p0 p1 p2 p3 p4 σ6 _ _ _ hw (lv_sub hl [0, 1, 2, 3, 4, 5] rfl) hf
      · replace hf := xif_neg c28 hf
        refine lv_iload hx hb dX11_addShop_31 (lv_at hl 4 rfl) ?_
        refine lv_iload_n hx hb dX11_addShop_33 rfl (lv_at hl 3 rfl) ?_
        refine lv_sipush (v := 600) hx hb dX11_addShop_34 (by decide) ?_
        obtain ⟨r7, σ8, hcl, hf⟩ := xc2_f hf
        refine x_calli (va_runS (As := [.int p3, .int p2, .int 600]) (rest := []) ⟨hx, hb, hml, hown, hts⟩ (mX11_isWithin hE p3 p2 600 σ6 r7 σ8 hcl H.size) (va_cwS 3 hts gX11_addShop_X11_isWithin rfl rfl rfl (by decide +kernel) ⟨Nat.le_of_ble_eq_true rfl, Nat.le_of_ble_eq_true rfl⟩) (x_preS _ hw hA hG) rfl rfl hl.1 rfl (lv_room (Nat.le_of_ble_eq_true rfl)) dX11_addShop_37 ⟨Nat.le_of_ble_eq_true rfl, Nat.le_of_ble_eq_true rfl⟩) hw hA (fun H locs hw => ?_)
        clear hcl
        refine lv_if_eq (tgt := 58) hx hb dX11_addShop_40 (by decide) (fun c40 => ?_) (fun c40 => ?_)
        · replace hf := xif_pos c40 hf
          exact h58 p0 p1 p2 p3 p4 σ8 _ _ _ hw (lv_sub hl [0, 1, 2, 3, 4, 5] rfl) hf
        · replace hf := xif_neg c40 hf
          refine lv_iload hx hb dX11_addShop_43 (lv_at hl 5 rfl) ?_
          refine lv_iconst (v := 0) hx hb dX11_addShop_45 (by decide) ?_
          refine lv_bipush (v := 30) hx hb dX11_addShop_46 (by decide) ?_
          obtain ⟨r9, σ10, hcl, hf⟩ := xc2_f hf
          refine x_calli (va_runS (As := [.int p4, .int 0, .int 30]) (rest := []) ⟨hx, hb, hml, hown, hts⟩ (mX11_isWithin hE p4 0 30 σ8 r9 σ10 hcl H.size) (va_cwS 3 hts gX11_addShop_X11_isWithin rfl rfl rfl (by decide +kernel) ⟨Nat.le_of_ble_eq_true rfl, Nat.le_of_ble_eq_true rfl⟩) (x_preS _ hw hA hG) rfl rfl hl.1 rfl (lv_room (Nat.le_of_ble_eq_true rfl)) dX11_addShop_48 ⟨Nat.le_of_ble_eq_true rfl, Nat.le_of_ble_eq_true rfl⟩) hw hA (fun H locs hw => ?_)
          clear hcl
          refine lv_if_eq (tgt := 58) hx hb dX11_addShop_51 (by decide) (fun c51 => ?_) (fun c51 => ?_)
          · replace hf := xif_pos c51 hf
            exact h58 p0 p1 p2 p3 p4 σ10 _ _ _ hw (lv_sub hl [0, 1, 2, 3, 4, 5] rfl) hf
          · replace hf := xif_neg c51 hf
            refine lv_iconst (v := 1) hx hb dX11_addShop_54 (by decide) ?_
            refine lv_goto (tgt := 59) hx hb dX11_addShop_55 (by decide) ?_
            exact h59 p0 p1 p2 p3 p4 1 σ10 _ _ _ hw (lv_sub hl [0, 1, 2, 3, 4, 5] rfl) hf

def fX11_comesBack (p0 : Int32) (σ : xSt) : Option (xO × xSt) := (xc2 (fX11_isWithin p0 0 600 σ) fun r1 σ2 => (xct (fX11_needArgument r1 σ2) fun r3 σ4 => (xc2 (fX1_findWay p0 σ4) fun r5 σ6 => (xct (fX11_needElement r5 σ6) fun r7 σ8 => some ((.inl (σ8 38 7) : xO), σ8)))))
abbrev rmX11_comesBack : Room := { frames := 15, cells := 2, slots := 12, locals := 425 }
set_option maxRecDepth 100000 in
set_option maxHeartbeats 4000000 in
theorem mX11_comesBack {l : Launch} (hl0 : l.stackTraces = false) {E : xE} (hE : E.sh = shX) (p0 : Int32) (σ : xSt) (o1 : xO) (o2 : xSt) (hf : fX11_comesBack p0 σ = some (o1, o2)) : xMt l yX11_comesBack wsX11_comesBack rmX11_comesBack E [.ref (E.a 0), .int p0] σ o1 o2 2 := by
  unfold fX11_comesBack at hf
  refine xMt_of (cc := cX11_comesBack) (maxL := 2) (ret := (some .int)) (by decide) rfl (Nat.le_of_ble_eq_true rfl) ?_
  intro p e s m args below meth c A ls ⟨hx, hb, hr, hml, hown, hts, hlk⟩ hA hG hw hl hex
  have hown : s.vm.findClass RX11 = some m.cls := hown
  have hl : lv_has ls 2 [(0, .ref (E.a 0)), (1, .int p0)] := hl
  have hk70 := hts (.fieldLink RX11 70 "OvenRound" "cart" "LOvenRound$Cart;") (by decide +kernel)
  have hiX11 : ∀ w ∈ wsX110, w ∈ wsX11_comesBack := by decide +kernel
  have hk335 := hts (.fieldLink RX11 335 "OvenRound$Cart" "bestBack" "I") (by decide +kernel)
  have hiX1 : ∀ w ∈ wsX10, w ∈ wsX11_comesBack := by decide +kernel
  refine lv_iload_n hx hb dX11_comesBack_0 rfl (lv_at hl 1 rfl) ?_
  refine lv_iconst (v := 0) hx hb dX11_comesBack_1 (by decide) ?_
  refine lv_sipush (v := 600) hx hb dX11_comesBack_2 (by decide) ?_
  obtain ⟨r1, σ2, hcl, hf⟩ := xc2_f hf
  refine x_calli (va_runS (As := [.int p0, .int 0, .int 600]) (rest := []) ⟨hx, hb, hml, hown, hts⟩ (mX11_isWithin hE p0 0 600 σ r1 σ2 hcl s.heap.size) (va_cwS 3 hts gX11_comesBack_X11_isWithin rfl rfl rfl (by decide +kernel) ⟨Nat.le_of_ble_eq_true rfl, Nat.le_of_ble_eq_true rfl⟩) (x_preS _ hw hA hG) rfl rfl hl.1 rfl (lv_room (Nat.le_of_ble_eq_true rfl)) dX11_comesBack_5 ⟨Nat.le_of_ble_eq_true rfl, Nat.le_of_ble_eq_true rfl⟩) hw hA (fun H locs hw => ?_)
  clear hcl
  rcases xct_e hf with ⟨k8, σ4, hcl, hf⟩ | ⟨r3, σ4, hcl, hf⟩
  · refine x_tcallv (vx_runS (As := [.int r1]) (rest := []) ⟨hx, hb, hml, hown, hts⟩ (mX11_needArgument hl0 r1 σ2 (.inr k8) σ4 hcl H.size) (va_cwS 1 hts gX11_comesBack_X11_needArgument rfl rfl rfl (by decide +kernel) ⟨Nat.le_of_ble_eq_true rfl, Nat.le_of_ble_eq_true rfl⟩) (x_preS _ hw hA hG) rfl rfl hl.1 rfl (lv_room (Nat.le_of_ble_eq_true rfl)) dX11_comesBack_8 ⟨Nat.le_of_ble_eq_true rfl, Nat.le_of_ble_eq_true rfl⟩) hw hA (fun q9 ce H locs h1 h2 h3 hw => ?_) (fun H locs h1 hw => nomatch h1)
    exact x_tout hlk hex h1 h2 h3 hw hf (Nat.le_of_ble_eq_true rfl) (Nat.le_of_ble_eq_true rfl)
  refine x_tcallv (vx_runS (As := [.int r1]) (rest := []) ⟨hx, hb, hml, hown, hts⟩ (mX11_needArgument hl0 r1 σ2 (.inl r3) σ4 hcl H.size) (va_cwS 1 hts gX11_comesBack_X11_needArgument rfl rfl rfl (by decide +kernel) ⟨Nat.le_of_ble_eq_true rfl, Nat.le_of_ble_eq_true rfl⟩) (x_preS _ hw hA hG) rfl rfl hl.1 rfl (lv_room (Nat.le_of_ble_eq_true rfl)) dX11_comesBack_8 ⟨Nat.le_of_ble_eq_true rfl, Nat.le_of_ble_eq_true rfl⟩) hw hA (fun q9 ce H locs h1 h2 h3 hw => by obtain ⟨_, h9, _⟩ := h3; cases h9) (fun H locs h1 hw => ?_)
  clear hcl h1
  refine lv_aload_n hx hb dX11_comesBack_11 rfl (lv_at hl 0 rfl) ?_
  refine x_getr hx hb hw (cX0 hE) (own := RX11) (ref := RX11) (C := RX11) (T := TX11) (N := 14) hts hiX11 hown rfl 8 (by decide) hk70 (fun _ h9 => h9) rfl dX11_comesBack_12 ?_
  refine lv_iload_n hx hb dX11_comesBack_15 rfl (lv_at hl 1 rfl) ?_
  obtain ⟨r5, σ6, hcl, hf⟩ := xc2_f hf
  refine x_calli (va_runV (As := [.int p0]) (rest := []) ⟨hx, hb, hml, hown, hts⟩ (mX1_findWay hE p0 σ4 r5 σ6 hcl H.size) (cwV 1 hts gX11_comesBack_X1_findWay rfl rfl rfl (by decide +kernel) ⟨Nat.le_of_ble_eq_true rfl, Nat.le_of_ble_eq_true rfl⟩) (x_preV _ hw hA hG (cX38 hE) rfl) rfl rfl hl.1 rfl (lv_room (Nat.le_of_ble_eq_true rfl)) dX11_comesBack_16 ⟨Nat.le_of_ble_eq_true rfl, Nat.le_of_ble_eq_true rfl⟩) hw hA (fun H locs hw => ?_)
  clear hcl
  rcases xct_e hf with ⟨k19, σ8, hcl, hf⟩ | ⟨r7, σ8, hcl, hf⟩
  · refine x_tcallv (vx_runS (As := [.int r5]) (rest := []) ⟨hx, hb, hml, hown, hts⟩ (mX11_needElement hl0 r5 σ6 (.inr k19) σ8 hcl H.size) (va_cwS 1 hts gX11_comesBack_X11_needElement rfl rfl rfl (by decide +kernel) ⟨Nat.le_of_ble_eq_true rfl, Nat.le_of_ble_eq_true rfl⟩) (x_preS _ hw hA hG) rfl rfl hl.1 rfl (lv_room (Nat.le_of_ble_eq_true rfl)) dX11_comesBack_19 ⟨Nat.le_of_ble_eq_true rfl, Nat.le_of_ble_eq_true rfl⟩) hw hA (fun q9 ce H locs h1 h2 h3 hw => ?_) (fun H locs h1 hw => nomatch h1)
    exact x_tout hlk hex h1 h2 h3 hw hf (Nat.le_of_ble_eq_true rfl) (Nat.le_of_ble_eq_true rfl)
  refine x_tcallv (vx_runS (As := [.int r5]) (rest := []) ⟨hx, hb, hml, hown, hts⟩ (mX11_needElement hl0 r5 σ6 (.inl r7) σ8 hcl H.size) (va_cwS 1 hts gX11_comesBack_X11_needElement rfl rfl rfl (by decide +kernel) ⟨Nat.le_of_ble_eq_true rfl, Nat.le_of_ble_eq_true rfl⟩) (x_preS _ hw hA hG) rfl rfl hl.1 rfl (lv_room (Nat.le_of_ble_eq_true rfl)) dX11_comesBack_19 ⟨Nat.le_of_ble_eq_true rfl, Nat.le_of_ble_eq_true rfl⟩) hw hA (fun q9 ce H locs h1 h2 h3 hw => by obtain ⟨_, h9, _⟩ := h3; cases h9) (fun H locs h1 hw => ?_)
  clear hcl h1
  refine lv_aload_n hx hb dX11_comesBack_22 rfl (lv_at hl 0 rfl) ?_
  refine x_getr hx hb hw (cX0 hE) (own := RX11) (ref := RX11) (C := RX11) (T := TX11) (N := 14) hts hiX11 hown rfl 8 (by decide) hk70 (fun _ h9 => h9) rfl dX11_comesBack_23 ?_
  refine x_geti hx hb hw (cX38 hE) (own := RX11) (ref := RX1) (C := RX1) (T := TX1) (N := 9) hts hiX1 hown rfl 7 (by decide) hk335 (fun _ h9 => h9) rfl dX11_comesBack_26 ?_
  exact x_tiret hx hb hr hlk hw hf (Nat.le_of_ble_eq_true rfl) (Nat.le_of_ble_eq_true rfl) dX11_comesBack_29

def fX11_shopOf (p0 : Int32) (p1 : Int32) (σ : xSt) : Option (xO × xSt) := (xc2 (fX11_isWithin p1 0 ((σ 38 5) - 1) σ) fun r1 σ2 => (xct (fX11_needIndex r1 σ2) fun r3 σ4 => (xc2 (fX11_isWithin p0 0 600 σ4) fun r5 σ6 => (xct (fX11_needArgument r5 σ6) fun r7 σ8 => (xc2 (fX1_findWay p0 σ8) fun r9 σ10 => (xct (fX11_needElement r9 σ10) fun r11 σ12 => (xr σ12 44 7 p1 fun v13 => some ((.inl v13 : xO), σ12))))))))
abbrev rmX11_shopOf : Room := { frames := 15, cells := 3, slots := 18, locals := 425 }
set_option maxRecDepth 100000 in
set_option maxHeartbeats 4000000 in
theorem mX11_shopOf {l : Launch} (hl0 : l.stackTraces = false) {E : xE} (hE : E.sh = shX) (p0 : Int32) (p1 : Int32) (σ : xSt) (o1 : xO) (o2 : xSt) (hf : fX11_shopOf p0 p1 σ = some (o1, o2)) : xMt l yX11_shopOf wsX11_shopOf rmX11_shopOf E [.ref (E.a 0), .int p0, .int p1] σ o1 o2 3 := by
  unfold fX11_shopOf at hf
  refine xMt_of (cc := cX11_shopOf) (maxL := 3) (ret := (some .int)) (by decide) rfl (Nat.le_of_ble_eq_true rfl) ?_
  intro p e s m args below meth c A ls ⟨hx, hb, hr, hml, hown, hts, hlk⟩ hA hG hw hl hex
  have hown : s.vm.findClass RX11 = some m.cls := hown
  have hl : lv_has ls 3 [(0, .ref (E.a 0)), (1, .int p0), (2, .int p1)] := hl
  have hk70 := hts (.fieldLink RX11 70 "OvenRound" "cart" "LOvenRound$Cart;") (by decide +kernel)
  have hiX11 : ∀ w ∈ wsX110, w ∈ wsX11_shopOf := by decide +kernel
  have hk316 := hts (.fieldLink RX11 316 "OvenRound$Cart" "count" "I") (by decide +kernel)
  have hiX1 : ∀ w ∈ wsX10, w ∈ wsX11_shopOf := by decide +kernel
  have hk338 := hts (.fieldLink RX11 338 "OvenRound$Cart" "bestWay" "[I") (by decide +kernel)
  refine lv_iload_n hx hb dX11_shopOf_0 rfl (lv_at hl 2 rfl) ?_
  refine lv_iconst (v := 0) hx hb dX11_shopOf_1 (by decide) ?_
  refine lv_aload_n hx hb dX11_shopOf_2 rfl (lv_at hl 0 rfl) ?_
  refine x_getr hx hb hw (cX0 hE) (own := RX11) (ref := RX11) (C := RX11) (T := TX11) (N := 14) hts hiX11 hown rfl 8 (by decide) hk70 (fun _ h9 => h9) rfl dX11_shopOf_3 ?_
  refine x_geti hx hb hw (cX38 hE) (own := RX11) (ref := RX1) (C := RX1) (T := TX1) (N := 9) hts hiX1 hown rfl 5 (by decide) hk316 (fun _ h9 => h9) rfl dX11_shopOf_6 ?_
  refine lv_iconst (v := 1) hx hb dX11_shopOf_9 (by decide) ?_
  refine lv_isub hx hb dX11_shopOf_10 ?_
  obtain ⟨r1, σ2, hcl, hf⟩ := xc2_f hf
  refine x_calli (va_runS (As := [.int p1, .int 0, .int ((σ 38 5) - 1)]) (rest := []) ⟨hx, hb, hml, hown, hts⟩ (mX11_isWithin hE p1 0 ((σ 38 5) - 1) σ r1 σ2 hcl s.heap.size) (va_cwS 3 hts gX11_shopOf_X11_isWithin rfl rfl rfl (by decide +kernel) ⟨Nat.le_of_ble_eq_true rfl, Nat.le_of_ble_eq_true rfl⟩) (x_preS _ hw hA hG) rfl rfl hl.1 rfl (lv_room (Nat.le_of_ble_eq_true rfl)) dX11_shopOf_11 ⟨Nat.le_of_ble_eq_true rfl, Nat.le_of_ble_eq_true rfl⟩) hw hA (fun H locs hw => ?_)
  clear hcl
  rcases xct_e hf with ⟨k14, σ4, hcl, hf⟩ | ⟨r3, σ4, hcl, hf⟩
  · refine x_tcallv (vx_runS (As := [.int r1]) (rest := []) ⟨hx, hb, hml, hown, hts⟩ (mX11_needIndex hl0 r1 σ2 (.inr k14) σ4 hcl H.size) (va_cwS 1 hts gX11_shopOf_X11_needIndex rfl rfl rfl (by decide +kernel) ⟨Nat.le_of_ble_eq_true rfl, Nat.le_of_ble_eq_true rfl⟩) (x_preS _ hw hA hG) rfl rfl hl.1 rfl (lv_room (Nat.le_of_ble_eq_true rfl)) dX11_shopOf_14 ⟨Nat.le_of_ble_eq_true rfl, Nat.le_of_ble_eq_true rfl⟩) hw hA (fun q9 ce H locs h1 h2 h3 hw => ?_) (fun H locs h1 hw => nomatch h1)
    exact x_tout hlk hex h1 h2 h3 hw hf (Nat.le_of_ble_eq_true rfl) (Nat.le_of_ble_eq_true rfl)
  refine x_tcallv (vx_runS (As := [.int r1]) (rest := []) ⟨hx, hb, hml, hown, hts⟩ (mX11_needIndex hl0 r1 σ2 (.inl r3) σ4 hcl H.size) (va_cwS 1 hts gX11_shopOf_X11_needIndex rfl rfl rfl (by decide +kernel) ⟨Nat.le_of_ble_eq_true rfl, Nat.le_of_ble_eq_true rfl⟩) (x_preS _ hw hA hG) rfl rfl hl.1 rfl (lv_room (Nat.le_of_ble_eq_true rfl)) dX11_shopOf_14 ⟨Nat.le_of_ble_eq_true rfl, Nat.le_of_ble_eq_true rfl⟩) hw hA (fun q9 ce H locs h1 h2 h3 hw => by obtain ⟨_, h9, _⟩ := h3; cases h9) (fun H locs h1 hw => ?_)
  clear hcl h1
  refine lv_iload_n hx hb dX11_shopOf_17 rfl (lv_at hl 1 rfl) ?_
  refine lv_iconst (v := 0) hx hb dX11_shopOf_18 (by decide) ?_
  refine lv_sipush (v := 600) hx hb dX11_shopOf_19 (by decide) ?_
  obtain ⟨r5, σ6, hcl, hf⟩ := xc2_f hf
  refine x_calli (va_runS (As := [.int p0, .int 0, .int 600]) (rest := []) ⟨hx, hb, hml, hown, hts⟩ (mX11_isWithin hE p0 0 600 σ4 r5 σ6 hcl H.size) (va_cwS 3 hts gX11_shopOf_X11_isWithin rfl rfl rfl (by decide +kernel) ⟨Nat.le_of_ble_eq_true rfl, Nat.le_of_ble_eq_true rfl⟩) (x_preS _ hw hA hG) rfl rfl hl.1 rfl (lv_room (Nat.le_of_ble_eq_true rfl)) dX11_shopOf_22 ⟨Nat.le_of_ble_eq_true rfl, Nat.le_of_ble_eq_true rfl⟩) hw hA (fun H locs hw => ?_)
  clear hcl
  rcases xct_e hf with ⟨k25, σ8, hcl, hf⟩ | ⟨r7, σ8, hcl, hf⟩
  · refine x_tcallv (vx_runS (As := [.int r5]) (rest := []) ⟨hx, hb, hml, hown, hts⟩ (mX11_needArgument hl0 r5 σ6 (.inr k25) σ8 hcl H.size) (va_cwS 1 hts gX11_shopOf_X11_needArgument rfl rfl rfl (by decide +kernel) ⟨Nat.le_of_ble_eq_true rfl, Nat.le_of_ble_eq_true rfl⟩) (x_preS _ hw hA hG) rfl rfl hl.1 rfl (lv_room (Nat.le_of_ble_eq_true rfl)) dX11_shopOf_25 ⟨Nat.le_of_ble_eq_true rfl, Nat.le_of_ble_eq_true rfl⟩) hw hA (fun q9 ce H locs h1 h2 h3 hw => ?_) (fun H locs h1 hw => nomatch h1)
    exact x_tout hlk hex h1 h2 h3 hw hf (Nat.le_of_ble_eq_true rfl) (Nat.le_of_ble_eq_true rfl)
  refine x_tcallv (vx_runS (As := [.int r5]) (rest := []) ⟨hx, hb, hml, hown, hts⟩ (mX11_needArgument hl0 r5 σ6 (.inl r7) σ8 hcl H.size) (va_cwS 1 hts gX11_shopOf_X11_needArgument rfl rfl rfl (by decide +kernel) ⟨Nat.le_of_ble_eq_true rfl, Nat.le_of_ble_eq_true rfl⟩) (x_preS _ hw hA hG) rfl rfl hl.1 rfl (lv_room (Nat.le_of_ble_eq_true rfl)) dX11_shopOf_25 ⟨Nat.le_of_ble_eq_true rfl, Nat.le_of_ble_eq_true rfl⟩) hw hA (fun q9 ce H locs h1 h2 h3 hw => by obtain ⟨_, h9, _⟩ := h3; cases h9) (fun H locs h1 hw => ?_)
  clear hcl h1
  refine lv_aload_n hx hb dX11_shopOf_28 rfl (lv_at hl 0 rfl) ?_
  refine x_getr hx hb hw (cX0 hE) (own := RX11) (ref := RX11) (C := RX11) (T := TX11) (N := 14) hts hiX11 hown rfl 8 (by decide) hk70 (fun _ h9 => h9) rfl dX11_shopOf_29 ?_
  refine lv_iload_n hx hb dX11_shopOf_32 rfl (lv_at hl 1 rfl) ?_
  obtain ⟨r9, σ10, hcl, hf⟩ := xc2_f hf
  refine x_calli (va_runV (As := [.int p0]) (rest := []) ⟨hx, hb, hml, hown, hts⟩ (mX1_findWay hE p0 σ8 r9 σ10 hcl H.size) (cwV 1 hts gX11_shopOf_X1_findWay rfl rfl rfl (by decide +kernel) ⟨Nat.le_of_ble_eq_true rfl, Nat.le_of_ble_eq_true rfl⟩) (x_preV _ hw hA hG (cX38 hE) rfl) rfl rfl hl.1 rfl (lv_room (Nat.le_of_ble_eq_true rfl)) dX11_shopOf_33 ⟨Nat.le_of_ble_eq_true rfl, Nat.le_of_ble_eq_true rfl⟩) hw hA (fun H locs hw => ?_)
  clear hcl
  rcases xct_e hf with ⟨k36, σ12, hcl, hf⟩ | ⟨r11, σ12, hcl, hf⟩
  · refine x_tcallv (vx_runS (As := [.int r9]) (rest := []) ⟨hx, hb, hml, hown, hts⟩ (mX11_needElement hl0 r9 σ10 (.inr k36) σ12 hcl H.size) (va_cwS 1 hts gX11_shopOf_X11_needElement rfl rfl rfl (by decide +kernel) ⟨Nat.le_of_ble_eq_true rfl, Nat.le_of_ble_eq_true rfl⟩) (x_preS _ hw hA hG) rfl rfl hl.1 rfl (lv_room (Nat.le_of_ble_eq_true rfl)) dX11_shopOf_36 ⟨Nat.le_of_ble_eq_true rfl, Nat.le_of_ble_eq_true rfl⟩) hw hA (fun q9 ce H locs h1 h2 h3 hw => ?_) (fun H locs h1 hw => nomatch h1)
    exact x_tout hlk hex h1 h2 h3 hw hf (Nat.le_of_ble_eq_true rfl) (Nat.le_of_ble_eq_true rfl)
  refine x_tcallv (vx_runS (As := [.int r9]) (rest := []) ⟨hx, hb, hml, hown, hts⟩ (mX11_needElement hl0 r9 σ10 (.inl r11) σ12 hcl H.size) (va_cwS 1 hts gX11_shopOf_X11_needElement rfl rfl rfl (by decide +kernel) ⟨Nat.le_of_ble_eq_true rfl, Nat.le_of_ble_eq_true rfl⟩) (x_preS _ hw hA hG) rfl rfl hl.1 rfl (lv_room (Nat.le_of_ble_eq_true rfl)) dX11_shopOf_36 ⟨Nat.le_of_ble_eq_true rfl, Nat.le_of_ble_eq_true rfl⟩) hw hA (fun q9 ce H locs h1 h2 h3 hw => by obtain ⟨_, h9, _⟩ := h3; cases h9) (fun H locs h1 hw => ?_)
  clear hcl h1
  refine lv_aload_n hx hb dX11_shopOf_39 rfl (lv_at hl 0 rfl) ?_
  refine x_getr hx hb hw (cX0 hE) (own := RX11) (ref := RX11) (C := RX11) (T := TX11) (N := 14) hts hiX11 hown rfl 8 (by decide) hk70 (fun _ h9 => h9) rfl dX11_shopOf_40 ?_
  refine x_getr hx hb hw (cX38 hE) (own := RX11) (ref := RX1) (C := RX1) (T := TX1) (N := 9) hts hiX1 hown rfl 6 (by decide) hk338 (fun _ h9 => h9) rfl dX11_shopOf_43 ?_
  refine lv_iload_n hx hb dX11_shopOf_46 rfl (lv_at hl 2 rfl) ?_
  obtain ⟨hin, hf⟩ := xr_f hf
  refine x_iald hx hb hw (cX44 hE) hin dX11_shopOf_47 ?_
  refine lv_topi (fun v13 ex => ?_)
  replace hf := hf v13 ex
  clear ex hin
  exact x_tiret hx hb hr hlk hw hf (Nat.le_of_ble_eq_true rfl) (Nat.le_of_ble_eq_true rfl) dX11_shopOf_48

def fX11_wayBack_c27 (a1 : Int32) (t0 : Int32) (σ : xSt) : Option (xO × xSt) := (xct (fX11_needArgument t0 σ) fun r5 σ6 => (xc2 (fX1_walk a1 σ6) fun r7 σ8 => some ((.inl r7 : xO), σ8)))
def fX11_wayBack_c26 (a1 : Int32) (σ : xSt) : Option (xO × xSt) := fX11_wayBack_c27 a1 0 σ
def fX11_wayBack (p0 : Int32) (p1 : Int32) (σ : xSt) : Option (xO × xSt) := (xc2 (fX11_isWithin p0 0 600 σ) fun r1 σ2 => (if r1 = 0 then fX11_wayBack_c26 p0 σ2 else (xc2 (fX1_readWay p1 σ2) fun r3 σ4 => (if r3 = 0 then fX11_wayBack_c26 p0 σ4 else fX11_wayBack_c27 p0 1 σ4))))
abbrev rmX11_wayBack : Room := { frames := 7, cells := 1, slots := 6, locals := 110 }
set_option maxRecDepth 100000 in
set_option maxHeartbeats 4000000 in
theorem mX11_wayBack {l : Launch} (hl0 : l.stackTraces = false) {E : xE} (hE : E.sh = shX) (p0 : Int32) (p1 : Int32) (σ : xSt) (o1 : xO) (o2 : xSt) (hf : fX11_wayBack p0 p1 σ = some (o1, o2)) : xMt l yX11_wayBack wsX11_wayBack rmX11_wayBack E [.ref (E.a 0), .int p0, .int p1] σ o1 o2 1 := by
  unfold fX11_wayBack at hf
  refine xMt_of (cc := cX11_wayBack) (maxL := 3) (ret := (some .int)) (by decide) rfl (Nat.le_of_ble_eq_true rfl) ?_
  intro p e s m args below meth c A ls ⟨hx, hb, hr, hml, hown, hts, hlk⟩ hA hG hw hl hex
  have hown : s.vm.findClass RX11 = some m.cls := hown
  have hl : lv_has ls 3 [(0, .ref (E.a 0)), (1, .int p0), (2, .int p1)] := hl
  have hk70 := hts (.fieldLink RX11 70 "OvenRound" "cart" "LOvenRound$Cart;") (by decide +kernel)
  have hiX11 : ∀ w ∈ wsX110, w ∈ wsX11_wayBack := by decide +kernel
  have h27 : ∀ (a1 : Int32) (t0 : Int32) (σ : xSt) (H : Heap) (locs : List Loc) (ls : Array Slot), xw E A s.heap s σ H locs → lv_has ls 3 [(0, .ref (E.a 0)), (1, .int a1)] → fX11_wayBack_c27 a1 t0 σ = some (o1, o2) → W p l e rmX11_wayBack s m args below meth c H locs 0 0 (vx_MQ below (xQt E A o1 o2) (xXt E A o1 o2) args s 1 6 A) (F0 m 27 ls [.int t0]) := by
    intro a1 t0 σ H locs ls hw hl hf
    unfold fX11_wayBack_c27 at hf
    rcases xct_e hf with ⟨k27, σ6, hcl, hf⟩ | ⟨r5, σ6, hcl, hf⟩
    · refine x_tcallv (vx_runS (As := [.int t0]) (rest := []) ⟨hx, hb, hml, hown, hts⟩ (mX11_needArgument hl0 t0 σ (.inr k27) σ6 hcl H.size) (va_cwS 1 hts gX11_wayBack_X11_needArgument rfl rfl rfl (by decide +kernel) ⟨Nat.le_of_ble_eq_true rfl, Nat.le_of_ble_eq_true rfl⟩) (x_preS _ hw hA hG) rfl rfl hl.1 rfl (lv_room (Nat.le_of_ble_eq_true rfl)) dX11_wayBack_27 ⟨Nat.le_of_ble_eq_true rfl, Nat.le_of_ble_eq_true rfl⟩) hw hA (fun q9 ce H locs h1 h2 h3 hw => ?_) (fun H locs h1 hw => nomatch h1)
      exact x_tout hlk hex h1 h2 h3 hw hf (Nat.le_of_ble_eq_true rfl) (Nat.le_of_ble_eq_true rfl)
    refine x_tcallv (vx_runS (As := [.int t0]) (rest := []) ⟨hx, hb, hml, hown, hts⟩ (mX11_needArgument hl0 t0 σ (.inl r5) σ6 hcl H.size) (va_cwS 1 hts gX11_wayBack_X11_needArgument rfl rfl rfl (by decide +kernel) ⟨Nat.le_of_ble_eq_true rfl, Nat.le_of_ble_eq_true rfl⟩) (x_preS _ hw hA hG) rfl rfl hl.1 rfl (lv_room (Nat.le_of_ble_eq_true rfl)) dX11_wayBack_27 ⟨Nat.le_of_ble_eq_true rfl, Nat.le_of_ble_eq_true rfl⟩) hw hA (fun q9 ce H locs h1 h2 h3 hw => by obtain ⟨_, h9, _⟩ := h3; cases h9) (fun H locs h1 hw => ?_)
    clear hcl h1
    refine lv_aload_n hx hb dX11_wayBack_30 rfl (lv_at hl 0 rfl) ?_
    refine x_getr hx hb hw (cX0 hE) (own := RX11) (ref := RX11) (C := RX11) (T := TX11) (N := 14) hts hiX11 hown rfl 8 (by decide) hk70 (fun _ h9 => h9) rfl dX11_wayBack_31 ?_
    refine lv_iload_n hx hb dX11_wayBack_34 rfl (lv_at hl 1 rfl) ?_
    obtain ⟨r7, σ8, hcl, hf⟩ := xc2_f hf
    refine x_calli (va_runV (As := [.int a1]) (rest := []) ⟨hx, hb, hml, hown, hts⟩ (mX1_walk hE a1 σ6 r7 σ8 hcl H.size) (cwV 1 hts gX11_wayBack_X1_walk rfl rfl rfl (by decide +kernel) ⟨Nat.le_of_ble_eq_true rfl, Nat.le_of_ble_eq_true rfl⟩) (x_preV _ hw hA hG (cX38 hE) rfl) rfl rfl hl.1 rfl (lv_room (Nat.le_of_ble_eq_true rfl)) dX11_wayBack_35 ⟨Nat.le_of_ble_eq_true rfl, Nat.le_of_ble_eq_true rfl⟩) hw hA (fun H locs hw => ?_)
    clear hcl
    exact x_tiret hx hb hr hlk hw hf (Nat.le_of_ble_eq_true rfl) (Nat.le_of_ble_eq_true rfl) dX11_wayBack_38
  have h26 : ∀ (a1 : Int32) (σ : xSt) (H : Heap) (locs : List Loc) (ls : Array Slot), xw E A s.heap s σ H locs → lv_has ls 3 [(0, .ref (E.a 0)), (1, .int a1)] → fX11_wayBack_c26 a1 σ = some (o1, o2) → W p l e rmX11_wayBack s m args below meth c H locs 0 0 (vx_MQ below (xQt E A o1 o2) (xXt E A o1 o2) args s 1 6 A) (F0 m 26 ls []) := by
    intro a1 σ H locs ls hw hl hf
    unfold fX11_wayBack_c26 at hf
    refine lv_iconst (v := 0) hx hb dX11_wayBack_26 (by decide) ?_
    exact h27 a1 0 σ _ _ _ hw (lv_sub hl [0, 1] rfl) hf
  refine lv_iload_n hx hb dX11_wayBack_0 rfl (lv_at hl 1 rfl) ?_
  refine lv_iconst (v := 0) hx hb dX11_wayBack_1 (by decide) ?_
  refine lv_sipush (v := 600) hx hb dX11_wayBack_2 (by decide) ?_
  obtain ⟨r1, σ2, hcl, hf⟩ := xc2_f hf
  refine x_calli (va_runS (As := [.int p0, .int 0, .int 600]) (rest := []) ⟨hx, hb, hml, hown, hts⟩ (mX11_isWithin hE p0 0 600 σ r1 σ2 hcl s.heap.size) (va_cwS 3 hts gX11_wayBack_X11_isWithin rfl rfl rfl (by decide +kernel) ⟨Nat.le_of_ble_eq_true rfl, Nat.le_of_ble_eq_true rfl⟩) (x_preS _ hw hA hG) rfl rfl hl.1 rfl (lv_room (Nat.le_of_ble_eq_true rfl)) dX11_wayBack_5 ⟨Nat.le_of_ble_eq_true rfl, Nat.le_of_ble_eq_true rfl⟩) hw hA (fun H locs hw => ?_)
  clear hcl
  refine lv_if_eq (tgt := 26) hx hb dX11_wayBack_8 (by decide) (fun c8 => ?_) (fun c8 => ?_)
  · replace hf := xif_pos c8 hf
    exact h26 p0 σ2 _ _ _ hw (lv_sub hl [0, 1] rfl) hf
  · replace hf := xif_neg c8 hf
    refine lv_aload_n hx hb dX11_wayBack_11 rfl (lv_at hl 0 rfl) ?_
    refine x_getr hx hb hw (cX0 hE) (own := RX11) (ref := RX11) (C := RX11) (T := TX11) (N := 14) hts hiX11 hown rfl 8 (by decide) hk70 (fun _ h9 => h9) rfl dX11_wayBack_12 ?_
    refine lv_iload_n hx hb dX11_wayBack_15 rfl (lv_at hl 2 rfl) ?_
    obtain ⟨r3, σ4, hcl, hf⟩ := xc2_f hf
    refine x_calli (va_runV (As := [.int p1]) (rest := []) ⟨hx, hb, hml, hown, hts⟩ (mX1_readWay hE p1 σ2 r3 σ4 hcl H.size) (cwV 1 hts gX11_wayBack_X1_readWay rfl rfl rfl (by decide +kernel) ⟨Nat.le_of_ble_eq_true rfl, Nat.le_of_ble_eq_true rfl⟩) (x_preV _ hw hA hG (cX38 hE) rfl) rfl rfl hl.1 rfl (lv_room (Nat.le_of_ble_eq_true rfl)) dX11_wayBack_16 ⟨Nat.le_of_ble_eq_true rfl, Nat.le_of_ble_eq_true rfl⟩) hw hA (fun H locs hw => ?_)
    clear hcl
    refine lv_if_eq (tgt := 26) hx hb dX11_wayBack_19 (by decide) (fun c19 => ?_) (fun c19 => ?_)
    · replace hf := xif_pos c19 hf
      exact h26 p0 σ4 _ _ _ hw (lv_sub hl [0, 1] rfl) hf
    · replace hf := xif_neg c19 hf
      refine lv_iconst (v := 1) hx hb dX11_wayBack_22 (by decide) ?_
      refine lv_goto (tgt := 27) hx hb dX11_wayBack_23 (by decide) ?_
      exact h27 p0 1 σ4 _ _ _ hw (lv_sub hl [0, 1] rfl) hf

def fX11_isSetOfRecipes (p0 : Int32) (σ : xSt) : Option (Int32 × xSt) := (xc2 (fX11_isWithin p0 0 ((1 <<< ((σ 4 7) &&& 31)) - 1) σ) fun r1 σ2 => xb r1 (some (r1, σ2)))
abbrev rmX11_isSetOfRecipes : Room := { frames := 1, cells := 0, slots := 0, locals := 22 }
set_option maxRecDepth 100000 in
set_option maxHeartbeats 4000000 in
theorem mX11_isSetOfRecipes {l : Launch} {E : xE} (hE : E.sh = shX) (p0 : Int32) (σ : xSt) (o1 : Int32) (o2 : xSt) (hf : fX11_isSetOfRecipes p0 σ = some (o1, o2)) : xMi l yX11_isSetOfRecipes wsX11_isSetOfRecipes rmX11_isSetOfRecipes E [.ref (E.a 0), .int p0] σ o1 o2 := by
  unfold fX11_isSetOfRecipes at hf
  refine xMi_of (cc := cX11_isSetOfRecipes) (maxL := 2) (ret := (some .boolean)) (by decide) rfl (Nat.le_of_ble_eq_true rfl) ?_
  intro p e s m args below meth c A ls ⟨hx, hb, hr, hml, hown, hts, hlk⟩ hA hG hw hl
  have hown : s.vm.findClass RX11 = some m.cls := hown
  have hl : lv_has ls 2 [(0, .ref (E.a 0)), (1, .int p0)] := hl
  have hk31 := hts (.fieldLink RX11 31 "OvenRound" "recipes" "LOvenRound$Recipes;") (by decide +kernel)
  have hiX11 : ∀ w ∈ wsX110, w ∈ wsX11_isSetOfRecipes := by decide +kernel
  have hk121 := hts (.fieldLink RX11 121 "OvenRound$Recipes" "count" "I") (by decide +kernel)
  have hiX8 : ∀ w ∈ wsX80, w ∈ wsX11_isSetOfRecipes := by decide +kernel
  refine lv_iload_n hx hb dX11_isSetOfRecipes_0 rfl (lv_at hl 1 rfl) ?_
  refine lv_iconst (v := 0) hx hb dX11_isSetOfRecipes_1 (by decide) ?_
  refine lv_iconst (v := 1) hx hb dX11_isSetOfRecipes_2 (by decide) ?_
  refine lv_aload_n hx hb dX11_isSetOfRecipes_3 rfl (lv_at hl 0 rfl) ?_
  refine x_getr hx hb hw (cX0 hE) (own := RX11) (ref := RX11) (C := RX11) (T := TX11) (N := 14) hts hiX11 hown rfl 1 (by decide) hk31 (fun _ h9 => h9) rfl dX11_isSetOfRecipes_4 ?_
  refine x_geti hx hb hw (cX4 hE) (own := RX11) (ref := RX8) (C := RX8) (T := TX8) (N := 8) hts hiX8 hown rfl 7 (by decide) hk121 (fun _ h9 => h9) rfl dX11_isSetOfRecipes_7 ?_
  refine lv_ishl hx hb dX11_isSetOfRecipes_10 ?_
  refine lv_iconst (v := 1) hx hb dX11_isSetOfRecipes_11 (by decide) ?_
  refine lv_isub hx hb dX11_isSetOfRecipes_12 ?_
  obtain ⟨r1, σ2, hcl, hf⟩ := xc2_f hf
  refine x_calli (va_runS (As := [.int p0, .int 0, .int ((1 <<< ((σ 4 7) &&& 31)) - 1)]) (rest := []) ⟨hx, hb, hml, hown, hts⟩ (mX11_isWithin hE p0 0 ((1 <<< ((σ 4 7) &&& 31)) - 1) σ r1 σ2 hcl s.heap.size) (va_cwS 3 hts gX11_isSetOfRecipes_X11_isWithin rfl rfl rfl (by decide +kernel) ⟨Nat.le_of_ble_eq_true rfl, Nat.le_of_ble_eq_true rfl⟩) (x_preS _ hw hA hG) rfl rfl hl.1 rfl (lv_room (Nat.le_of_ble_eq_true rfl)) dX11_isSetOfRecipes_13 ⟨Nat.le_of_ble_eq_true rfl, Nat.le_of_ble_eq_true rfl⟩) hw hA (fun H locs hw => ?_)
  clear hcl
  exact x_zret hx hb hr hlk hw hf dX11_isSetOfRecipes_16

def fX11_cleaning (p0 : Int32) (σ : xSt) : Option (xO × xSt) := (xc2 (fX11_isSetOfRecipes p0 σ) fun r1 σ2 => (xct (fX11_needArgument r1 σ2) fun r3 σ4 => (xc (fX9_find p0 σ4) fun σ6 => some ((.inl (σ6 46 3) : xO), σ6))))
abbrev rmX11_cleaning : Room := { frames := 13, cells := 1, slots := 6, locals := 392 }
set_option maxRecDepth 100000 in
set_option maxHeartbeats 4000000 in
theorem mX11_cleaning {l : Launch} (hl0 : l.stackTraces = false) {E : xE} (hE : E.sh = shX) (p0 : Int32) (σ : xSt) (o1 : xO) (o2 : xSt) (hf : fX11_cleaning p0 σ = some (o1, o2)) : xMt l yX11_cleaning wsX11_cleaning rmX11_cleaning E [.ref (E.a 0), .int p0] σ o1 o2 1 := by
  unfold fX11_cleaning at hf
  refine xMt_of (cc := cX11_cleaning) (maxL := 2) (ret := (some .int)) (by decide) rfl (Nat.le_of_ble_eq_true rfl) ?_
  intro p e s m args below meth c A ls ⟨hx, hb, hr, hml, hown, hts, hlk⟩ hA hG hw hl hex
  have hown : s.vm.findClass RX11 = some m.cls := hown
  have hl : lv_has ls 2 [(0, .ref (E.a 0)), (1, .int p0)] := hl
  have hk79 := hts (.fieldLink RX11 79 "OvenRound" "row" "LOvenRound$Row;") (by decide +kernel)
  have hiX11 : ∀ w ∈ wsX110, w ∈ wsX11_cleaning := by decide +kernel
  have hk353 := hts (.fieldLink RX11 353 "OvenRound$Row" "bestPrice" "I") (by decide +kernel)
  have hiX9 : ∀ w ∈ wsX90, w ∈ wsX11_cleaning := by decide +kernel
  refine lv_aload_n hx hb dX11_cleaning_0 rfl (lv_at hl 0 rfl) ?_
  refine lv_iload_n hx hb dX11_cleaning_1 rfl (lv_at hl 1 rfl) ?_
  obtain ⟨r1, σ2, hcl, hf⟩ := xc2_f hf
  refine x_calli (va_runV (As := [.int p0]) (rest := []) ⟨hx, hb, hml, hown, hts⟩ (mX11_isSetOfRecipes hE p0 σ r1 σ2 hcl s.heap.size) (cwV 1 hts gX11_cleaning_X11_isSetOfRecipes rfl rfl rfl (by decide +kernel) ⟨Nat.le_of_ble_eq_true rfl, Nat.le_of_ble_eq_true rfl⟩) (x_preV _ hw hA hG (cX0 hE) rfl) rfl rfl hl.1 rfl (lv_room (Nat.le_of_ble_eq_true rfl)) dX11_cleaning_2 ⟨Nat.le_of_ble_eq_true rfl, Nat.le_of_ble_eq_true rfl⟩) hw hA (fun H locs hw => ?_)
  clear hcl
  rcases xct_e hf with ⟨k5, σ4, hcl, hf⟩ | ⟨r3, σ4, hcl, hf⟩
  · refine x_tcallv (vx_runS (As := [.int r1]) (rest := []) ⟨hx, hb, hml, hown, hts⟩ (mX11_needArgument hl0 r1 σ2 (.inr k5) σ4 hcl H.size) (va_cwS 1 hts gX11_cleaning_X11_needArgument rfl rfl rfl (by decide +kernel) ⟨Nat.le_of_ble_eq_true rfl, Nat.le_of_ble_eq_true rfl⟩) (x_preS _ hw hA hG) rfl rfl hl.1 rfl (lv_room (Nat.le_of_ble_eq_true rfl)) dX11_cleaning_5 ⟨Nat.le_of_ble_eq_true rfl, Nat.le_of_ble_eq_true rfl⟩) hw hA (fun q9 ce H locs h1 h2 h3 hw => ?_) (fun H locs h1 hw => nomatch h1)
    exact x_tout hlk hex h1 h2 h3 hw hf (Nat.le_of_ble_eq_true rfl) (Nat.le_of_ble_eq_true rfl)
  refine x_tcallv (vx_runS (As := [.int r1]) (rest := []) ⟨hx, hb, hml, hown, hts⟩ (mX11_needArgument hl0 r1 σ2 (.inl r3) σ4 hcl H.size) (va_cwS 1 hts gX11_cleaning_X11_needArgument rfl rfl rfl (by decide +kernel) ⟨Nat.le_of_ble_eq_true rfl, Nat.le_of_ble_eq_true rfl⟩) (x_preS _ hw hA hG) rfl rfl hl.1 rfl (lv_room (Nat.le_of_ble_eq_true rfl)) dX11_cleaning_5 ⟨Nat.le_of_ble_eq_true rfl, Nat.le_of_ble_eq_true rfl⟩) hw hA (fun q9 ce H locs h1 h2 h3 hw => by obtain ⟨_, h9, _⟩ := h3; cases h9) (fun H locs h1 hw => ?_)
  clear hcl h1
  refine lv_aload_n hx hb dX11_cleaning_8 rfl (lv_at hl 0 rfl) ?_
  refine x_getr hx hb hw (cX0 hE) (own := RX11) (ref := RX11) (C := RX11) (T := TX11) (N := 14) hts hiX11 hown rfl 9 (by decide) hk79 (fun _ h9 => h9) rfl dX11_cleaning_9 ?_
  refine lv_iload_n hx hb dX11_cleaning_12 rfl (lv_at hl 1 rfl) ?_
  obtain ⟨σ6, hcl, hf⟩ := xc_e hf
  refine x_callv (va_runV (As := [.int p0]) (rest := []) ⟨hx, hb, hml, hown, hts⟩ (mX9_find hE p0 σ4 σ6 hcl H.size) (cwV 1 hts gX11_cleaning_X9_find rfl rfl rfl (by decide +kernel) ⟨Nat.le_of_ble_eq_true rfl, Nat.le_of_ble_eq_true rfl⟩) (x_preV _ hw hA hG (cX46 hE) rfl) rfl rfl hl.1 rfl (lv_room (Nat.le_of_ble_eq_true rfl)) dX11_cleaning_13 ⟨Nat.le_of_ble_eq_true rfl, Nat.le_of_ble_eq_true rfl⟩) hw hA (fun H locs hw => ?_)
  clear hcl
  refine lv_aload_n hx hb dX11_cleaning_16 rfl (lv_at hl 0 rfl) ?_
  refine x_getr hx hb hw (cX0 hE) (own := RX11) (ref := RX11) (C := RX11) (T := TX11) (N := 14) hts hiX11 hown rfl 9 (by decide) hk79 (fun _ h9 => h9) rfl dX11_cleaning_17 ?_
  refine x_geti hx hb hw (cX46 hE) (own := RX11) (ref := RX9) (C := RX9) (T := TX9) (N := 4) hts hiX9 hown rfl 3 (by decide) hk353 (fun _ h9 => h9) rfl dX11_cleaning_20 ?_
  exact x_tiret hx hb hr hlk hw hf (Nat.le_of_ble_eq_true rfl) (Nat.le_of_ble_eq_true rfl) dX11_cleaning_23

def fJ6_bitCount_0f7a4 (p0 : Int32) (σ : xSt) : Option (Int32 × xSt) := (xl (p0 - (((Int32.toUInt32 p0 >>> (Int32.toUInt32 1 &&& Int32.toUInt32 31)).toInt32) &&& 1431655765)) fun v1 => (xl ((v1 &&& 858993459) + (((Int32.toUInt32 v1 >>> (Int32.toUInt32 2 &&& Int32.toUInt32 31)).toInt32) &&& 858993459)) fun v2 => (xl ((v2 + ((Int32.toUInt32 v2 >>> (Int32.toUInt32 4 &&& Int32.toUInt32 31)).toInt32)) &&& 252645135) fun v3 => (xl (v3 + ((Int32.toUInt32 v3 >>> (Int32.toUInt32 8 &&& Int32.toUInt32 31)).toInt32)) fun v4 => (xl (v4 + ((Int32.toUInt32 v4 >>> (Int32.toUInt32 16 &&& Int32.toUInt32 31)).toInt32)) fun v5 => some ((v5 &&& 63), σ))))))
abbrev rmJ6_bitCount_0f7a4 : Room := { frames := 0, cells := 0, slots := 0, locals := 0 }
set_option maxRecDepth 100000 in
set_option maxHeartbeats 4000000 in
theorem mJ6_bitCount_0f7a4 {l : Launch} {E : xE} (p0 : Int32) (σ : xSt) (o1 : Int32) (o2 : xSt) (hf : fJ6_bitCount_0f7a4 p0 σ = some (o1, o2)) : xMi l yJ6_bitCount_0f7a4 wsJ6_bitCount_0f7a4 rmJ6_bitCount_0f7a4 E [.int p0] σ o1 o2 := by
  unfold fJ6_bitCount_0f7a4 at hf
  refine xMi_of (cc := cJ6_bitCount_0f7a4) (maxL := 1) (ret := (some .int)) (by decide) rfl (Nat.le_of_ble_eq_true rfl) ?_
  intro p e s m args below meth c A ls ⟨hx, hb, hr, hml, hown, hts, hlk⟩ hA hG hw hl
  have hown : s.vm.findClass RJ6 = some m.cls := hown
  have hl : lv_has ls 1 [(0, .int p0)] := hl
  refine lv_iload_n hx hb dJ6_bitCount_0f7a4_0 rfl (lv_at hl 0 rfl) ?_
  refine lv_iload_n hx hb dJ6_bitCount_0f7a4_1 rfl (lv_at hl 0 rfl) ?_
  refine lv_iconst (v := 1) hx hb dJ6_bitCount_0f7a4_2 (by decide) ?_
  refine lv_iushr hx hb dJ6_bitCount_0f7a4_3 rfl ?_
  refine lv_ldcw hx hb hown (hts (.constant RJ6 265 (1431655765)) (by decide +kernel)) dJ6_bitCount_0f7a4_4 ?_
  refine lv_iand hx hb dJ6_bitCount_0f7a4_7 ?_
  refine lv_isub hx hb dJ6_bitCount_0f7a4_8 ?_
  refine lv_topi (fun v1 ex => ?_)
  replace hf := xl_f hf v1 ex
  clear ex
  refine lv_istore_n (lv' := [(0, .int v1)]) hx hb dJ6_bitCount_0f7a4_9 rfl hl (by decide) rfl (fun ls hl => ?_)
  refine lv_iload_n hx hb dJ6_bitCount_0f7a4_10 rfl (lv_at hl 0 rfl) ?_
  refine lv_ldcw hx hb hown (hts (.constant RJ6 266 (858993459)) (by decide +kernel)) dJ6_bitCount_0f7a4_11 ?_
  refine lv_iand hx hb dJ6_bitCount_0f7a4_14 ?_
  refine lv_iload_n hx hb dJ6_bitCount_0f7a4_15 rfl (lv_at hl 0 rfl) ?_
  refine lv_iconst (v := 2) hx hb dJ6_bitCount_0f7a4_16 (by decide) ?_
  refine lv_iushr hx hb dJ6_bitCount_0f7a4_17 rfl ?_
  refine lv_ldcw hx hb hown (hts (.constant RJ6 266 (858993459)) (by decide +kernel)) dJ6_bitCount_0f7a4_18 ?_
  refine lv_iand hx hb dJ6_bitCount_0f7a4_21 ?_
  refine lv_iadd hx hb dJ6_bitCount_0f7a4_22 ?_
  refine lv_topi (fun v2 ex => ?_)
  replace hf := xl_f hf v2 ex
  clear ex
  refine lv_istore_n (lv' := [(0, .int v2)]) hx hb dJ6_bitCount_0f7a4_23 rfl hl (by decide) rfl (fun ls hl => ?_)
  refine lv_iload_n hx hb dJ6_bitCount_0f7a4_24 rfl (lv_at hl 0 rfl) ?_
  refine lv_iload_n hx hb dJ6_bitCount_0f7a4_25 rfl (lv_at hl 0 rfl) ?_
  refine lv_iconst (v := 4) hx hb dJ6_bitCount_0f7a4_26 (by decide) ?_
  refine lv_iushr hx hb dJ6_bitCount_0f7a4_27 rfl ?_
  refine lv_iadd hx hb dJ6_bitCount_0f7a4_28 ?_
  refine lv_ldcw hx hb hown (hts (.constant RJ6 267 (252645135)) (by decide +kernel)) dJ6_bitCount_0f7a4_29 ?_
  refine lv_iand hx hb dJ6_bitCount_0f7a4_32 ?_
  refine lv_topi (fun v3 ex => ?_)
  replace hf := xl_f hf v3 ex
  clear ex
  refine lv_istore_n (lv' := [(0, .int v3)]) hx hb dJ6_bitCount_0f7a4_33 rfl hl (by decide) rfl (fun ls hl => ?_)
  refine lv_iload_n hx hb dJ6_bitCount_0f7a4_34 rfl (lv_at hl 0 rfl) ?_
  refine lv_iload_n hx hb dJ6_bitCount_0f7a4_35 rfl (lv_at hl 0 rfl) ?_
  refine lv_bipush (v := 8) hx hb dJ6_bitCount_0f7a4_36 (by decide) ?_
  refine lv_iushr hx hb dJ6_bitCount_0f7a4_38 rfl ?_
  refine lv_iadd hx hb dJ6_bitCount_0f7a4_39 ?_
  refine lv_topi (fun v4 ex => ?_)
  replace hf := xl_f hf v4 ex
  clear ex
  refine lv_istore_n (lv' := [(0, .int v4)]) hx hb dJ6_bitCount_0f7a4_40 rfl hl (by decide) rfl (fun ls hl => ?_)
  refine lv_iload_n hx hb dJ6_bitCount_0f7a4_41 rfl (lv_at hl 0 rfl) ?_
  refine lv_iload_n hx hb dJ6_bitCount_0f7a4_42 rfl (lv_at hl 0 rfl) ?_
  refine lv_bipush (v := 16) hx hb dJ6_bitCount_0f7a4_43 (by decide) ?_
  refine lv_iushr hx hb dJ6_bitCount_0f7a4_45 rfl ?_
  refine lv_iadd hx hb dJ6_bitCount_0f7a4_46 ?_
  refine lv_topi (fun v5 ex => ?_)
  replace hf := xl_f hf v5 ex
  clear ex
  refine lv_istore_n (lv' := [(0, .int v5)]) hx hb dJ6_bitCount_0f7a4_47 rfl hl (by decide) rfl (fun ls hl => ?_)
  refine lv_iload_n hx hb dJ6_bitCount_0f7a4_48 rfl (lv_at hl 0 rfl) ?_
  refine lv_bipush (v := 63) hx hb dJ6_bitCount_0f7a4_49 (by decide) ?_
  refine lv_iand hx hb dJ6_bitCount_0f7a4_51 ?_
  exact x_iret hx hb hr hlk hw hf dJ6_bitCount_0f7a4_52

def fX11_rowAt (p0 : Int32) (p1 : Int32) (σ : xSt) : Option (xO × xSt) := (xc2 (fX11_isSetOfRecipes p0 σ) fun r1 σ2 => (xct (fX11_needArgument r1 σ2) fun r3 σ4 => (xc2 (fJ6_bitCount_0f7a4 p0 σ4) fun r5 σ6 => (xc2 (fX11_isWithin p1 0 (r5 - 1) σ6) fun r7 σ8 => (xct (fX11_needIndex r7 σ8) fun r9 σ10 => (xc (fX9_find p0 σ10) fun σ12 => (xr σ12 48 6 p1 fun v13 => some ((.inl v13 : xO), σ12))))))))
abbrev rmX11_rowAt : Room := { frames := 13, cells := 2, slots := 12, locals := 392 }
set_option maxRecDepth 100000 in
set_option maxHeartbeats 4000000 in
theorem mX11_rowAt {l : Launch} (hl0 : l.stackTraces = false) {E : xE} (hE : E.sh = shX) (p0 : Int32) (p1 : Int32) (σ : xSt) (o1 : xO) (o2 : xSt) (hf : fX11_rowAt p0 p1 σ = some (o1, o2)) : xMt l yX11_rowAt wsX11_rowAt rmX11_rowAt E [.ref (E.a 0), .int p0, .int p1] σ o1 o2 2 := by
  unfold fX11_rowAt at hf
  refine xMt_of (cc := cX11_rowAt) (maxL := 3) (ret := (some .int)) (by decide) rfl (Nat.le_of_ble_eq_true rfl) ?_
  intro p e s m args below meth c A ls ⟨hx, hb, hr, hml, hown, hts, hlk⟩ hA hG hw hl hex
  have hown : s.vm.findClass RX11 = some m.cls := hown
  have hl : lv_has ls 3 [(0, .ref (E.a 0)), (1, .int p0), (2, .int p1)] := hl
  have hk79 := hts (.fieldLink RX11 79 "OvenRound" "row" "LOvenRound$Row;") (by decide +kernel)
  have hiX11 : ∀ w ∈ wsX110, w ∈ wsX11_rowAt := by decide +kernel
  have hk361 := hts (.fieldLink RX11 361 "OvenRound$Row" "best" "[I") (by decide +kernel)
  have hiX9 : ∀ w ∈ wsX90, w ∈ wsX11_rowAt := by decide +kernel
  refine lv_aload_n hx hb dX11_rowAt_0 rfl (lv_at hl 0 rfl) ?_
  refine lv_iload_n hx hb dX11_rowAt_1 rfl (lv_at hl 1 rfl) ?_
  obtain ⟨r1, σ2, hcl, hf⟩ := xc2_f hf
  refine x_calli (va_runV (As := [.int p0]) (rest := []) ⟨hx, hb, hml, hown, hts⟩ (mX11_isSetOfRecipes hE p0 σ r1 σ2 hcl s.heap.size) (cwV 1 hts gX11_rowAt_X11_isSetOfRecipes rfl rfl rfl (by decide +kernel) ⟨Nat.le_of_ble_eq_true rfl, Nat.le_of_ble_eq_true rfl⟩) (x_preV _ hw hA hG (cX0 hE) rfl) rfl rfl hl.1 rfl (lv_room (Nat.le_of_ble_eq_true rfl)) dX11_rowAt_2 ⟨Nat.le_of_ble_eq_true rfl, Nat.le_of_ble_eq_true rfl⟩) hw hA (fun H locs hw => ?_)
  clear hcl
  rcases xct_e hf with ⟨k5, σ4, hcl, hf⟩ | ⟨r3, σ4, hcl, hf⟩
  · refine x_tcallv (vx_runS (As := [.int r1]) (rest := []) ⟨hx, hb, hml, hown, hts⟩ (mX11_needArgument hl0 r1 σ2 (.inr k5) σ4 hcl H.size) (va_cwS 1 hts gX11_rowAt_X11_needArgument rfl rfl rfl (by decide +kernel) ⟨Nat.le_of_ble_eq_true rfl, Nat.le_of_ble_eq_true rfl⟩) (x_preS _ hw hA hG) rfl rfl hl.1 rfl (lv_room (Nat.le_of_ble_eq_true rfl)) dX11_rowAt_5 ⟨Nat.le_of_ble_eq_true rfl, Nat.le_of_ble_eq_true rfl⟩) hw hA (fun q9 ce H locs h1 h2 h3 hw => ?_) (fun H locs h1 hw => nomatch h1)
    exact x_tout hlk hex h1 h2 h3 hw hf (Nat.le_of_ble_eq_true rfl) (Nat.le_of_ble_eq_true rfl)
  refine x_tcallv (vx_runS (As := [.int r1]) (rest := []) ⟨hx, hb, hml, hown, hts⟩ (mX11_needArgument hl0 r1 σ2 (.inl r3) σ4 hcl H.size) (va_cwS 1 hts gX11_rowAt_X11_needArgument rfl rfl rfl (by decide +kernel) ⟨Nat.le_of_ble_eq_true rfl, Nat.le_of_ble_eq_true rfl⟩) (x_preS _ hw hA hG) rfl rfl hl.1 rfl (lv_room (Nat.le_of_ble_eq_true rfl)) dX11_rowAt_5 ⟨Nat.le_of_ble_eq_true rfl, Nat.le_of_ble_eq_true rfl⟩) hw hA (fun q9 ce H locs h1 h2 h3 hw => by obtain ⟨_, h9, _⟩ := h3; cases h9) (fun H locs h1 hw => ?_)
  clear hcl h1
  refine lv_iload_n hx hb dX11_rowAt_8 rfl (lv_at hl 2 rfl) ?_
  refine lv_iconst (v := 0) hx hb dX11_rowAt_9 (by decide) ?_
  refine lv_iload_n hx hb dX11_rowAt_10 rfl (lv_at hl 1 rfl) ?_
  obtain ⟨r5, σ6, hcl, hf⟩ := xc2_f hf
  refine x_calli (va_runS (As := [.int p0]) (rest := [.int 0, .int p1]) ⟨hx, hb, hml, hown, hts⟩ (mJ6_bitCount_0f7a4 p0 σ4 r5 σ6 hcl H.size) (va_cwS 1 hts gX11_rowAt_J6_bitCount_0f7a4 rfl rfl rfl (by decide +kernel) ⟨Nat.le_of_ble_eq_true rfl, Nat.le_of_ble_eq_true rfl⟩) (x_preS _ hw hA hG) rfl rfl hl.1 rfl (lv_room (Nat.le_of_ble_eq_true rfl)) dX11_rowAt_11 ⟨Nat.le_of_ble_eq_true rfl, Nat.le_of_ble_eq_true rfl⟩) hw hA (fun H locs hw => ?_)
  clear hcl
  refine lv_iconst (v := 1) hx hb dX11_rowAt_14 (by decide) ?_
  refine lv_isub hx hb dX11_rowAt_15 ?_
  obtain ⟨r7, σ8, hcl, hf⟩ := xc2_f hf
  refine x_calli (va_runS (As := [.int p1, .int 0, .int (r5 - 1)]) (rest := []) ⟨hx, hb, hml, hown, hts⟩ (mX11_isWithin hE p1 0 (r5 - 1) σ6 r7 σ8 hcl H.size) (va_cwS 3 hts gX11_rowAt_X11_isWithin rfl rfl rfl (by decide +kernel) ⟨Nat.le_of_ble_eq_true rfl, Nat.le_of_ble_eq_true rfl⟩) (x_preS _ hw hA hG) rfl rfl hl.1 rfl (lv_room (Nat.le_of_ble_eq_true rfl)) dX11_rowAt_16 ⟨Nat.le_of_ble_eq_true rfl, Nat.le_of_ble_eq_true rfl⟩) hw hA (fun H locs hw => ?_)
  clear hcl
  rcases xct_e hf with ⟨k19, σ10, hcl, hf⟩ | ⟨r9, σ10, hcl, hf⟩
  · refine x_tcallv (vx_runS (As := [.int r7]) (rest := []) ⟨hx, hb, hml, hown, hts⟩ (mX11_needIndex hl0 r7 σ8 (.inr k19) σ10 hcl H.size) (va_cwS 1 hts gX11_rowAt_X11_needIndex rfl rfl rfl (by decide +kernel) ⟨Nat.le_of_ble_eq_true rfl, Nat.le_of_ble_eq_true rfl⟩) (x_preS _ hw hA hG) rfl rfl hl.1 rfl (lv_room (Nat.le_of_ble_eq_true rfl)) dX11_rowAt_19 ⟨Nat.le_of_ble_eq_true rfl, Nat.le_of_ble_eq_true rfl⟩) hw hA (fun q9 ce H locs h1 h2 h3 hw => ?_) (fun H locs h1 hw => nomatch h1)
    exact x_tout hlk hex h1 h2 h3 hw hf (Nat.le_of_ble_eq_true rfl) (Nat.le_of_ble_eq_true rfl)
  refine x_tcallv (vx_runS (As := [.int r7]) (rest := []) ⟨hx, hb, hml, hown, hts⟩ (mX11_needIndex hl0 r7 σ8 (.inl r9) σ10 hcl H.size) (va_cwS 1 hts gX11_rowAt_X11_needIndex rfl rfl rfl (by decide +kernel) ⟨Nat.le_of_ble_eq_true rfl, Nat.le_of_ble_eq_true rfl⟩) (x_preS _ hw hA hG) rfl rfl hl.1 rfl (lv_room (Nat.le_of_ble_eq_true rfl)) dX11_rowAt_19 ⟨Nat.le_of_ble_eq_true rfl, Nat.le_of_ble_eq_true rfl⟩) hw hA (fun q9 ce H locs h1 h2 h3 hw => by obtain ⟨_, h9, _⟩ := h3; cases h9) (fun H locs h1 hw => ?_)
  clear hcl h1
  refine lv_aload_n hx hb dX11_rowAt_22 rfl (lv_at hl 0 rfl) ?_
  refine x_getr hx hb hw (cX0 hE) (own := RX11) (ref := RX11) (C := RX11) (T := TX11) (N := 14) hts hiX11 hown rfl 9 (by decide) hk79 (fun _ h9 => h9) rfl dX11_rowAt_23 ?_
  refine lv_iload_n hx hb dX11_rowAt_26 rfl (lv_at hl 1 rfl) ?_
  obtain ⟨σ12, hcl, hf⟩ := xc_e hf
  refine x_callv (va_runV (As := [.int p0]) (rest := []) ⟨hx, hb, hml, hown, hts⟩ (mX9_find hE p0 σ10 σ12 hcl H.size) (cwV 1 hts gX11_rowAt_X9_find rfl rfl rfl (by decide +kernel) ⟨Nat.le_of_ble_eq_true rfl, Nat.le_of_ble_eq_true rfl⟩) (x_preV _ hw hA hG (cX46 hE) rfl) rfl rfl hl.1 rfl (lv_room (Nat.le_of_ble_eq_true rfl)) dX11_rowAt_27 ⟨Nat.le_of_ble_eq_true rfl, Nat.le_of_ble_eq_true rfl⟩) hw hA (fun H locs hw => ?_)
  clear hcl
  refine lv_aload_n hx hb dX11_rowAt_30 rfl (lv_at hl 0 rfl) ?_
  refine x_getr hx hb hw (cX0 hE) (own := RX11) (ref := RX11) (C := RX11) (T := TX11) (N := 14) hts hiX11 hown rfl 9 (by decide) hk79 (fun _ h9 => h9) rfl dX11_rowAt_31 ?_
  refine x_getr hx hb hw (cX46 hE) (own := RX11) (ref := RX9) (C := RX9) (T := TX9) (N := 4) hts hiX9 hown rfl 2 (by decide) hk361 (fun _ h9 => h9) rfl dX11_rowAt_34 ?_
  refine lv_iload_n hx hb dX11_rowAt_37 rfl (lv_at hl 2 rfl) ?_
  obtain ⟨hin, hf⟩ := xr_f hf
  refine x_iald hx hb hw (cX48 hE) hin dX11_rowAt_38 ?_
  refine lv_topi (fun v13 ex => ?_)
  replace hf := hf v13 ex
  clear ex hin
  exact x_tiret hx hb hr hlk hw hf (Nat.le_of_ble_eq_true rfl) (Nat.le_of_ble_eq_true rfl) dX11_rowAt_39

def fX11_gramsInBreads_c4 : Nat → Int32 → Int32 → xSt → Option (Int32 × xSt)
  | 0 => fun _ _ _ => none
  | n + 1 => fun a1 a2 σ => (if (σ 4 7) ≤ a2 then some (a1, σ) else (xc2 (fX0_from a2 0 σ) fun r1 σ2 => (xr σ2 5 6 a2 fun v3 => (xl (a1 + (r1 * v3)) fun v4 => (xl (a2 + 1) fun v5 => fX11_gramsInBreads_c4 n v4 v5 σ2)))))
theorem fX11_gramsInBreads_c4_s (n : Nat) (a1 : Int32) (a2 : Int32) (σ : xSt) : fX11_gramsInBreads_c4 (n + 1) a1 a2 σ = ((if (σ 4 7) ≤ a2 then some (a1, σ) else (xc2 (fX0_from a2 0 σ) fun r1 σ2 => (xr σ2 5 6 a2 fun v3 => (xl (a1 + (r1 * v3)) fun v4 => (xl (a2 + 1) fun v5 => fX11_gramsInBreads_c4 n v4 v5 σ2))))) : Option (Int32 × xSt)) := rfl
def fX11_gramsInBreads (σ : xSt) : Option (Int32 × xSt) := fX11_gramsInBreads_c4 xFU 0 0 σ
abbrev rmX11_gramsInBreads : Room := { frames := 1, cells := 0, slots := 0, locals := 24 }
set_option maxRecDepth 100000 in
set_option maxHeartbeats 4000000 in
theorem mX11_gramsInBreads {l : Launch} {E : xE} (hE : E.sh = shX) (σ : xSt) (o1 : Int32) (o2 : xSt) (hf : fX11_gramsInBreads σ = some (o1, o2)) : xMi l yX11_gramsInBreads wsX11_gramsInBreads rmX11_gramsInBreads E [.ref (E.a 0)] σ o1 o2 := by
  unfold fX11_gramsInBreads at hf
  refine xMi_of (cc := cX11_gramsInBreads) (maxL := 3) (ret := (some .int)) (by decide) rfl (Nat.le_of_ble_eq_true rfl) ?_
  intro p e s m args below meth c A ls ⟨hx, hb, hr, hml, hown, hts, hlk⟩ hA hG hw hl
  have hown : s.vm.findClass RX11 = some m.cls := hown
  have hl : lv_has ls 3 [(0, .ref (E.a 0))] := hl
  have hk31 := hts (.fieldLink RX11 31 "OvenRound" "recipes" "LOvenRound$Recipes;") (by decide +kernel)
  have hiX11 : ∀ w ∈ wsX110, w ∈ wsX11_gramsInBreads := by decide +kernel
  have hk121 := hts (.fieldLink RX11 121 "OvenRound$Recipes" "count" "I") (by decide +kernel)
  have hiX8 : ∀ w ∈ wsX80, w ∈ wsX11_gramsInBreads := by decide +kernel
  have hk55 := hts (.fieldLink RX11 55 "OvenRound" "breads" "LOvenRound$Breads;") (by decide +kernel)
  have hk124 := hts (.fieldLink RX11 124 "OvenRound$Recipes" "piece" "[I") (by decide +kernel)
  have h4 : ∀ (n : Nat) (a1 : Int32) (a2 : Int32) (σ : xSt) (H : Heap) (locs : List Loc) (ls : Array Slot), xw E A s.heap s σ H locs → lv_has ls 3 [(0, .ref (E.a 0)), (1, .int a1), (2, .int a2)] → fX11_gramsInBreads_c4 n a1 a2 σ = some (o1, o2) → W p l e rmX11_gramsInBreads s m args below meth c H locs 0 0 (MQ below (xQi E A o1 o2) args s 0 0 A) (F0 m 4 ls []) := by
    intro n4
    induction n4 with
    | zero => intro a1 a2 σ H locs ls hw hl hf; exact nomatch hf
    | succ n4 ih4 =>
      intro a1 a2 σ H locs ls hw hl hf
      rw [fX11_gramsInBreads_c4_s] at hf
      refine lv_iload_n hx hb dX11_gramsInBreads_4 rfl (lv_at hl 2 rfl) ?_
      refine lv_aload_n hx hb dX11_gramsInBreads_5 rfl (lv_at hl 0 rfl) ?_
      refine x_getr hx hb hw (cX0 hE) (own := RX11) (ref := RX11) (C := RX11) (T := TX11) (N := 14) hts hiX11 hown rfl 1 (by decide) hk31 (fun _ h9 => h9) rfl dX11_gramsInBreads_6 ?_
      refine x_geti hx hb hw (cX4 hE) (own := RX11) (ref := RX8) (C := RX8) (T := TX8) (N := 8) hts hiX8 hown rfl 7 (by decide) hk121 (fun _ h9 => h9) rfl dX11_gramsInBreads_9 ?_
      refine lv_icmp_ge (tgt := 43) hx hb dX11_gramsInBreads_12 (by decide) (fun c12 => ?_) (fun c12 => ?_)
      · replace hf := xif_pos c12 hf
        refine lv_iload_n hx hb dX11_gramsInBreads_43 rfl (lv_at hl 1 rfl) ?_
        exact x_iret hx hb hr hlk hw hf dX11_gramsInBreads_44
      · replace hf := xif_neg c12 hf
        refine lv_iload_n hx hb dX11_gramsInBreads_15 rfl (lv_at hl 1 rfl) ?_
        refine lv_aload_n hx hb dX11_gramsInBreads_16 rfl (lv_at hl 0 rfl) ?_
        refine x_getr hx hb hw (cX0 hE) (own := RX11) (ref := RX11) (C := RX11) (T := TX11) (N := 14) hts hiX11 hown rfl 5 (by decide) hk55 (fun _ h9 => h9) rfl dX11_gramsInBreads_17 ?_
        refine lv_iload_n hx hb dX11_gramsInBreads_20 rfl (lv_at hl 2 rfl) ?_
        refine lv_iconst (v := 0) hx hb dX11_gramsInBreads_21 (by decide) ?_
        obtain ⟨r1, σ2, hcl, hf⟩ := xc2_f hf
        refine x_calli (va_runV (As := [.int a2, .int 0]) (rest := [.int a1]) ⟨hx, hb, hml, hown, hts⟩ (mX0_from hE a2 0 σ r1 σ2 hcl H.size) (cwV 2 hts gX11_gramsInBreads_X0_from rfl rfl rfl (by decide +kernel) ⟨Nat.le_of_ble_eq_true rfl, Nat.le_of_ble_eq_true rfl⟩) (x_preV _ hw hA hG (cX27 hE) rfl) rfl rfl hl.1 rfl (lv_room (Nat.le_of_ble_eq_true rfl)) dX11_gramsInBreads_22 ⟨Nat.le_of_ble_eq_true rfl, Nat.le_of_ble_eq_true rfl⟩) hw hA (fun H locs hw => ?_)
        clear hcl
        refine lv_aload_n hx hb dX11_gramsInBreads_25 rfl (lv_at hl 0 rfl) ?_
        refine x_getr hx hb hw (cX0 hE) (own := RX11) (ref := RX11) (C := RX11) (T := TX11) (N := 14) hts hiX11 hown rfl 1 (by decide) hk31 (fun _ h9 => h9) rfl dX11_gramsInBreads_26 ?_
        refine x_getr hx hb hw (cX4 hE) (own := RX11) (ref := RX8) (C := RX8) (T := TX8) (N := 8) hts hiX8 hown rfl 0 (by decide) hk124 (fun _ h9 => h9) rfl dX11_gramsInBreads_29 ?_
        refine lv_iload_n hx hb dX11_gramsInBreads_32 rfl (lv_at hl 2 rfl) ?_
        obtain ⟨hin, hf⟩ := xr_f hf
        refine x_iald hx hb hw (cX5 hE) hin dX11_gramsInBreads_33 ?_
        refine lv_topi (fun v3 ex => ?_)
        replace hf := hf v3 ex
        clear ex hin
        refine lv_imul hx hb dX11_gramsInBreads_34 ?_
        refine lv_iadd hx hb dX11_gramsInBreads_35 ?_
        refine lv_topi (fun v4 ex => ?_)
        replace hf := xl_f hf v4 ex
        clear ex
        refine lv_istore_n (lv' := [(1, .int v4), (0, .ref (E.a 0)), (2, .int a2)]) hx hb dX11_gramsInBreads_36 rfl hl (by decide) rfl (fun ls hl => ?_)
        obtain ⟨v5, ex⟩ : ∃ y : Int32, y = (a2 + 1) := ⟨_, rfl⟩
        replace hf := xl_f hf v5 ex
        refine lv_iinc (v := v5) (lv' := [(2, .int v5), (1, .int v4), (0, .ref (E.a 0))]) hx hb dX11_gramsInBreads_37 hl (k := 2) rfl (by rw [ex]; rfl) (by decide) rfl (fun ls hl => ?_)
        clear ex
        refine lv_goto (tgt := 4) hx hb dX11_gramsInBreads_40 (by decide) ?_
        exact ih4 v4 v5 σ2 _ _ _ hw (lv_sub hl [2, 1, 0] rfl) hf
  refine lv_iconst (v := 0) hx hb dX11_gramsInBreads_0 (by decide) ?_
  refine lv_istore_n (lv' := [(1, .int 0), (0, .ref (E.a 0))]) hx hb dX11_gramsInBreads_1 rfl hl (by decide) rfl (fun ls hl => ?_)
  refine lv_iconst (v := 0) hx hb dX11_gramsInBreads_2 (by decide) ?_
  refine lv_istore_n (lv' := [(2, .int 0), (1, .int 0), (0, .ref (E.a 0))]) hx hb dX11_gramsInBreads_3 rfl hl (by decide) rfl (fun ls hl => ?_)
  exact h4 xFU 0 0 σ _ _ _ hw (lv_sub hl [2, 1, 0] rfl) hf

def fX11_book (p0 : Int32) (σ : xSt) : Option (xO × xSt) := (xc2 (fX11_isWithin p0 0 6 σ) fun r1 σ2 => (xct (fX11_needArgument r1 σ2) fun r3 σ4 => (if p0 = 0 then some ((.inl (σ4 2 1) : xO), σ4) else (if p0 = 1 then some ((.inl (σ4 2 2) : xO), σ4) else (if p0 = 2 then some ((.inl (σ4 2 3) : xO), σ4) else (if p0 = 3 then (xc2 (fX10_allGrams σ4) fun r5 σ6 => some ((.inl r5 : xO), σ6)) else (if p0 = 4 then (xc2 (fX2_gramsIn 0 σ4) fun r7 σ8 => (xc2 (fX2_gramsIn 1 σ8) fun r9 σ10 => some ((.inl (r7 + r9) : xO), σ10))) else (if p0 = 5 then (xc2 (fX2_gramsIn 2 σ4) fun r11 σ12 => some ((.inl r11 : xO), σ12)) else (xc2 (fX11_gramsInBreads σ4) fun r13 σ14 => some ((.inl r13 : xO), σ14))))))))))
abbrev rmX11_book : Room := { frames := 7, cells := 1, slots := 6, locals := 110 }
set_option maxRecDepth 100000 in
set_option maxHeartbeats 4000000 in
theorem mX11_book {l : Launch} (hl0 : l.stackTraces = false) {E : xE} (hE : E.sh = shX) (p0 : Int32) (σ : xSt) (o1 : xO) (o2 : xSt) (hf : fX11_book p0 σ = some (o1, o2)) : xMt l yX11_book wsX11_book rmX11_book E [.ref (E.a 0), .int p0] σ o1 o2 1 := by
  unfold fX11_book at hf
  refine xMt_of (cc := cX11_book) (maxL := 2) (ret := (some .int)) (by decide) rfl (Nat.le_of_ble_eq_true rfl) ?_
  intro p e s m args below meth c A ls ⟨hx, hb, hr, hml, hown, hts, hlk⟩ hA hG hw hl hex
  have hown : s.vm.findClass RX11 = some m.cls := hown
  have hl : lv_has ls 2 [(0, .ref (E.a 0)), (1, .int p0)] := hl
  have hk24 := hts (.fieldLink RX11 24 "OvenRound" "store" "LOvenRound$Store;") (by decide +kernel)
  have hiX11 : ∀ w ∈ wsX110, w ∈ wsX11_book := by decide +kernel
  have hk117 := hts (.fieldLink RX11 117 "OvenRound$Store" "cameIn" "I") (by decide +kernel)
  have hiX10 : ∀ w ∈ wsX100, w ∈ wsX11_book := by decide +kernel
  have hk266 := hts (.fieldLink RX11 266 "OvenRound$Store" "sold" "I") (by decide +kernel)
  have hk229 := hts (.fieldLink RX11 229 "OvenRound$Store" "thrown" "I") (by decide +kernel)
  have hk36 := hts (.fieldLink RX11 36 "OvenRound" "doughs" "LOvenRound$Doughs;") (by decide +kernel)
  refine lv_iload_n hx hb dX11_book_0 rfl (lv_at hl 1 rfl) ?_
  refine lv_iconst (v := 0) hx hb dX11_book_1 (by decide) ?_
  refine lv_bipush (v := 6) hx hb dX11_book_2 (by decide) ?_
  obtain ⟨r1, σ2, hcl, hf⟩ := xc2_f hf
  refine x_calli (va_runS (As := [.int p0, .int 0, .int 6]) (rest := []) ⟨hx, hb, hml, hown, hts⟩ (mX11_isWithin hE p0 0 6 σ r1 σ2 hcl s.heap.size) (va_cwS 3 hts gX11_book_X11_isWithin rfl rfl rfl (by decide +kernel) ⟨Nat.le_of_ble_eq_true rfl, Nat.le_of_ble_eq_true rfl⟩) (x_preS _ hw hA hG) rfl rfl hl.1 rfl (lv_room (Nat.le_of_ble_eq_true rfl)) dX11_book_4 ⟨Nat.le_of_ble_eq_true rfl, Nat.le_of_ble_eq_true rfl⟩) hw hA (fun H locs hw => ?_)
  clear hcl
  rcases xct_e hf with ⟨k7, σ4, hcl, hf⟩ | ⟨r3, σ4, hcl, hf⟩
  · refine x_tcallv (vx_runS (As := [.int r1]) (rest := []) ⟨hx, hb, hml, hown, hts⟩ (mX11_needArgument hl0 r1 σ2 (.inr k7) σ4 hcl H.size) (va_cwS 1 hts gX11_book_X11_needArgument rfl rfl rfl (by decide +kernel) ⟨Nat.le_of_ble_eq_true rfl, Nat.le_of_ble_eq_true rfl⟩) (x_preS _ hw hA hG) rfl rfl hl.1 rfl (lv_room (Nat.le_of_ble_eq_true rfl)) dX11_book_7 ⟨Nat.le_of_ble_eq_true rfl, Nat.le_of_ble_eq_true rfl⟩) hw hA (fun q9 ce H locs h1 h2 h3 hw => ?_) (fun H locs h1 hw => nomatch h1)
    exact x_tout hlk hex h1 h2 h3 hw hf (Nat.le_of_ble_eq_true rfl) (Nat.le_of_ble_eq_true rfl)
  refine x_tcallv (vx_runS (As := [.int r1]) (rest := []) ⟨hx, hb, hml, hown, hts⟩ (mX11_needArgument hl0 r1 σ2 (.inl r3) σ4 hcl H.size) (va_cwS 1 hts gX11_book_X11_needArgument rfl rfl rfl (by decide +kernel) ⟨Nat.le_of_ble_eq_true rfl, Nat.le_of_ble_eq_true rfl⟩) (x_preS _ hw hA hG) rfl rfl hl.1 rfl (lv_room (Nat.le_of_ble_eq_true rfl)) dX11_book_7 ⟨Nat.le_of_ble_eq_true rfl, Nat.le_of_ble_eq_true rfl⟩) hw hA (fun q9 ce H locs h1 h2 h3 hw => by obtain ⟨_, h9, _⟩ := h3; cases h9) (fun H locs h1 hw => ?_)
  clear hcl h1
  refine lv_iload_n hx hb dX11_book_10 rfl (lv_at hl 1 rfl) ?_
  by_cases c11_0 : p0 = 0
  · replace hf := xif_pos c11_0 hf
    refine lv_tableIn (off := 37) (tgt := 48) hx hb dX11_book_11 (by rw [c11_0]; decide) (by rw [c11_0]; decide) (by rw [c11_0]; rfl) (by decide) ?_
    refine lv_aload_n hx hb dX11_book_48 rfl (lv_at hl 0 rfl) ?_
    refine x_getr hx hb hw (cX0 hE) (own := RX11) (ref := RX11) (C := RX11) (T := TX11) (N := 14) hts hiX11 hown rfl 0 (by decide) hk24 (fun _ h9 => h9) rfl dX11_book_49 ?_
    refine x_geti hx hb hw (cX2 hE) (own := RX11) (ref := RX10) (C := RX10) (T := TX10) (N := 4) hts hiX10 hown rfl 1 (by decide) hk117 (fun _ h9 => h9) rfl dX11_book_52 ?_
    exact x_tiret hx hb hr hlk hw hf (Nat.le_of_ble_eq_true rfl) (Nat.le_of_ble_eq_true rfl) dX11_book_55
  · replace hf := xif_neg c11_0 hf
    by_cases c11_1 : p0 = 1
    · replace hf := xif_pos c11_1 hf
      refine lv_tableIn (off := 45) (tgt := 56) hx hb dX11_book_11 (by rw [c11_1]; decide) (by rw [c11_1]; decide) (by rw [c11_1]; rfl) (by decide) ?_
      refine lv_aload_n hx hb dX11_book_56 rfl (lv_at hl 0 rfl) ?_
      refine x_getr hx hb hw (cX0 hE) (own := RX11) (ref := RX11) (C := RX11) (T := TX11) (N := 14) hts hiX11 hown rfl 0 (by decide) hk24 (fun _ h9 => h9) rfl dX11_book_57 ?_
      refine x_geti hx hb hw (cX2 hE) (own := RX11) (ref := RX10) (C := RX10) (T := TX10) (N := 4) hts hiX10 hown rfl 2 (by decide) hk266 (fun _ h9 => h9) rfl dX11_book_60 ?_
      exact x_tiret hx hb hr hlk hw hf (Nat.le_of_ble_eq_true rfl) (Nat.le_of_ble_eq_true rfl) dX11_book_63
    · replace hf := xif_neg c11_1 hf
      by_cases c11_2 : p0 = 2
      · replace hf := xif_pos c11_2 hf
        refine lv_tableIn (off := 53) (tgt := 64) hx hb dX11_book_11 (by rw [c11_2]; decide) (by rw [c11_2]; decide) (by rw [c11_2]; rfl) (by decide) ?_
        refine lv_aload_n hx hb dX11_book_64 rfl (lv_at hl 0 rfl) ?_
        refine x_getr hx hb hw (cX0 hE) (own := RX11) (ref := RX11) (C := RX11) (T := TX11) (N := 14) hts hiX11 hown rfl 0 (by decide) hk24 (fun _ h9 => h9) rfl dX11_book_65 ?_
        refine x_geti hx hb hw (cX2 hE) (own := RX11) (ref := RX10) (C := RX10) (T := TX10) (N := 4) hts hiX10 hown rfl 3 (by decide) hk229 (fun _ h9 => h9) rfl dX11_book_68 ?_
        exact x_tiret hx hb hr hlk hw hf (Nat.le_of_ble_eq_true rfl) (Nat.le_of_ble_eq_true rfl) dX11_book_71
      · replace hf := xif_neg c11_2 hf
        by_cases c11_3 : p0 = 3
        · replace hf := xif_pos c11_3 hf
          refine lv_tableIn (off := 61) (tgt := 72) hx hb dX11_book_11 (by rw [c11_3]; decide) (by rw [c11_3]; decide) (by rw [c11_3]; rfl) (by decide) ?_
          refine lv_aload_n hx hb dX11_book_72 rfl (lv_at hl 0 rfl) ?_
          refine x_getr hx hb hw (cX0 hE) (own := RX11) (ref := RX11) (C := RX11) (T := TX11) (N := 14) hts hiX11 hown rfl 0 (by decide) hk24 (fun _ h9 => h9) rfl dX11_book_73 ?_
          obtain ⟨r5, σ6, hcl, hf⟩ := xc2_f hf
          refine x_calli (va_runV (As := []) (rest := []) ⟨hx, hb, hml, hown, hts⟩ (mX10_allGrams hE σ4 r5 σ6 hcl H.size) (cwV 0 hts gX11_book_X10_allGrams rfl rfl rfl (by decide +kernel) ⟨Nat.le_of_ble_eq_true rfl, Nat.le_of_ble_eq_true rfl⟩) (x_preV _ hw hA hG (cX2 hE) rfl) rfl rfl hl.1 rfl (lv_room (Nat.le_of_ble_eq_true rfl)) dX11_book_76 ⟨Nat.le_of_ble_eq_true rfl, Nat.le_of_ble_eq_true rfl⟩) hw hA (fun H locs hw => ?_)
          clear hcl
          exact x_tiret hx hb hr hlk hw hf (Nat.le_of_ble_eq_true rfl) (Nat.le_of_ble_eq_true rfl) dX11_book_79
        · replace hf := xif_neg c11_3 hf
          by_cases c11_4 : p0 = 4
          · replace hf := xif_pos c11_4 hf
            refine lv_tableIn (off := 69) (tgt := 80) hx hb dX11_book_11 (by rw [c11_4]; decide) (by rw [c11_4]; decide) (by rw [c11_4]; rfl) (by decide) ?_
            refine lv_aload_n hx hb dX11_book_80 rfl (lv_at hl 0 rfl) ?_
            refine x_getr hx hb hw (cX0 hE) (own := RX11) (ref := RX11) (C := RX11) (T := TX11) (N := 14) hts hiX11 hown rfl 2 (by decide) hk36 (fun _ h9 => h9) rfl dX11_book_81 ?_
            refine lv_iconst (v := 0) hx hb dX11_book_84 (by decide) ?_
            obtain ⟨r7, σ8, hcl, hf⟩ := xc2_f hf
            refine x_calli (va_runV (As := [.int 0]) (rest := []) ⟨hx, hb, hml, hown, hts⟩ (mX2_gramsIn hE 0 σ4 r7 σ8 hcl H.size) (cwV 1 hts gX11_book_X2_gramsIn rfl rfl rfl (by decide +kernel) ⟨Nat.le_of_ble_eq_true rfl, Nat.le_of_ble_eq_true rfl⟩) (x_preV _ hw hA hG (cX12 hE) rfl) rfl rfl hl.1 rfl (lv_room (Nat.le_of_ble_eq_true rfl)) dX11_book_85 ⟨Nat.le_of_ble_eq_true rfl, Nat.le_of_ble_eq_true rfl⟩) hw hA (fun H locs hw => ?_)
            clear hcl
            refine lv_aload_n hx hb dX11_book_88 rfl (lv_at hl 0 rfl) ?_
            refine x_getr hx hb hw (cX0 hE) (own := RX11) (ref := RX11) (C := RX11) (T := TX11) (N := 14) hts hiX11 hown rfl 2 (by decide) hk36 (fun _ h9 => h9) rfl dX11_book_89 ?_
            refine lv_iconst (v := 1) hx hb dX11_book_92 (by decide) ?_
            obtain ⟨r9, σ10, hcl, hf⟩ := xc2_f hf
            refine x_calli (va_runV (As := [.int 1]) (rest := [.int r7]) ⟨hx, hb, hml, hown, hts⟩ (mX2_gramsIn hE 1 σ8 r9 σ10 hcl H.size) (cwV 1 hts gX11_book_X2_gramsIn rfl rfl rfl (by decide +kernel) ⟨Nat.le_of_ble_eq_true rfl, Nat.le_of_ble_eq_true rfl⟩) (x_preV _ hw hA hG (cX12 hE) rfl) rfl rfl hl.1 rfl (lv_room (Nat.le_of_ble_eq_true rfl)) dX11_book_93 ⟨Nat.le_of_ble_eq_true rfl, Nat.le_of_ble_eq_true rfl⟩) hw hA (fun H locs hw => ?_)
            clear hcl
            refine lv_iadd hx hb dX11_book_96 ?_
            exact x_tiret hx hb hr hlk hw hf (Nat.le_of_ble_eq_true rfl) (Nat.le_of_ble_eq_true rfl) dX11_book_97
          · replace hf := xif_neg c11_4 hf
            by_cases c11_5 : p0 = 5
            · replace hf := xif_pos c11_5 hf
              refine lv_tableIn (off := 87) (tgt := 98) hx hb dX11_book_11 (by rw [c11_5]; decide) (by rw [c11_5]; decide) (by rw [c11_5]; rfl) (by decide) ?_
              refine lv_aload_n hx hb dX11_book_98 rfl (lv_at hl 0 rfl) ?_
              refine x_getr hx hb hw (cX0 hE) (own := RX11) (ref := RX11) (C := RX11) (T := TX11) (N := 14) hts hiX11 hown rfl 2 (by decide) hk36 (fun _ h9 => h9) rfl dX11_book_99 ?_
              refine lv_iconst (v := 2) hx hb dX11_book_102 (by decide) ?_
              obtain ⟨r11, σ12, hcl, hf⟩ := xc2_f hf
              refine x_calli (va_runV (As := [.int 2]) (rest := []) ⟨hx, hb, hml, hown, hts⟩ (mX2_gramsIn hE 2 σ4 r11 σ12 hcl H.size) (cwV 1 hts gX11_book_X2_gramsIn rfl rfl rfl (by decide +kernel) ⟨Nat.le_of_ble_eq_true rfl, Nat.le_of_ble_eq_true rfl⟩) (x_preV _ hw hA hG (cX12 hE) rfl) rfl rfl hl.1 rfl (lv_room (Nat.le_of_ble_eq_true rfl)) dX11_book_103 ⟨Nat.le_of_ble_eq_true rfl, Nat.le_of_ble_eq_true rfl⟩) hw hA (fun H locs hw => ?_)
              clear hcl
              exact x_tiret hx hb hr hlk hw hf (Nat.le_of_ble_eq_true rfl) (Nat.le_of_ble_eq_true rfl) dX11_book_106
            · replace hf := xif_neg c11_5 hf
              refine lv_tableOut (tgt := 107) hx hb dX11_book_11 (x_sw5 c11_0 c11_1 c11_2 c11_3 c11_4 c11_5) (by decide) ?_
              refine lv_aload_n hx hb dX11_book_107 rfl (lv_at hl 0 rfl) ?_
              obtain ⟨r13, σ14, hcl, hf⟩ := xc2_f hf
              refine x_calli (va_runV (As := []) (rest := []) ⟨hx, hb, hml, hown, hts⟩ (mX11_gramsInBreads hE σ4 r13 σ14 hcl H.size) (cwV 0 hts gX11_book_X11_gramsInBreads rfl rfl rfl (by decide +kernel) ⟨Nat.le_of_ble_eq_true rfl, Nat.le_of_ble_eq_true rfl⟩) (x_preV _ hw hA hG (cX0 hE) rfl) rfl rfl hl.1 rfl (lv_room (Nat.le_of_ble_eq_true rfl)) dX11_book_108 ⟨Nat.le_of_ble_eq_true rfl, Nat.le_of_ble_eq_true rfl⟩) hw hA (fun H locs hw => ?_)
              clear hcl
              exact x_tiret hx hb hr hlk hw hf (Nat.le_of_ble_eq_true rfl) (Nat.le_of_ble_eq_true rfl) dX11_book_111
