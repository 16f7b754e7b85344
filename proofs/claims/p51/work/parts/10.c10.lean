def fX11_type_c41 (a1 : Int64) (t0 : Int32) (σ : xSt) : Option (xO × xSt) := (xct (fX11_needState t0 σ) fun r5 σ6 => (xc (fX6_append a1 σ6) fun σ8 => some ((.inl (σ8 49 1) : xO), σ8)))
def fX11_type_c19 (a1 : Int64) (a3 : Int32) (t0 : Int32) (σ : xSt) : Option (xO × xSt) := (xct (fX11_needArgument t0 σ) fun r3 σ4 => (if 80 < ((σ4 49 1) + a3) then fX11_type_c41 a1 0 σ4 else fX11_type_c41 a1 1 σ4))
def fX11_type (p0 : Int64) (σ : xSt) : Option (xO × xSt) := (xc2 (fX6_countBytes p0 σ) fun r1 σ2 => (if r1 = (-1) then fX11_type_c19 p0 r1 0 σ2 else fX11_type_c19 p0 r1 1 σ2))
abbrev rmX11_type : Room := { frames := 7, cells := 2, slots := 12, locals := 110 }
set_option maxRecDepth 100000 in
set_option maxHeartbeats 4000000 in
theorem mX11_type {l : Launch} (hl0 : l.stackTraces = false) {E : xE} (hE : E.sh = shX) (p0 : Int64) (σ : xSt) (o1 : xO) (o2 : xSt) (hf : fX11_type p0 σ = some (o1, o2)) : xMt l yX11_type wsX11_type rmX11_type E [.ref (E.a 0), .long p0] σ o1 o2 2 := by
  unfold fX11_type at hf
  refine xMt_of (cc := cX11_type) (maxL := 4) (ret := (some .int)) (by decide) rfl (Nat.le_of_ble_eq_true rfl) ?_
  intro p e s m args below meth c A ls ⟨hx, hb, hr, hml, hown, hts, hlk⟩ hA hG hw hl hex
  have hown : s.vm.findClass RX11 = some m.cls := hown
  have hl : lv_has ls 4 [(0, .ref (E.a 0)), (1, .long p0)] := hl
  have hk86 := hts (.fieldLink RX11 86 "OvenRound" "text" "LOvenRound$PartsText;") (by decide +kernel)
  have hiX11 : ∀ w ∈ wsX110, w ∈ wsX11_type := by decide +kernel
  have hk152 := hts (.fieldLink RX11 152 "OvenRound$PartsText" "length" "I") (by decide +kernel)
  have hiX6 : ∀ w ∈ wsX60, w ∈ wsX11_type := by decide +kernel
  have h41 : ∀ (a1 : Int64) (t0 : Int32) (σ : xSt) (H : Heap) (locs : List Loc) (ls : Array Slot), xw E A s.heap s σ H locs → lv_has ls 4 [(0, .ref (E.a 0)), (1, .long a1)] → fX11_type_c41 a1 t0 σ = some (o1, o2) → W p l e rmX11_type s m args below meth c H locs 1 6 (vx_MQ below (xQt E A o1 o2) (xXt E A o1 o2) args s 2 12 A) (F0 m 41 ls [.int t0]) := by
    intro a1 t0 σ H locs ls hw hl hf
    unfold fX11_type_c41 at hf
    rcases xct_e hf with ⟨k41, σ6, hcl, hf⟩ | ⟨r5, σ6, hcl, hf⟩
    · refine x_tcallv (vx_runS (As := [.int t0]) (rest := []) ⟨hx, hb, hml, hown, hts⟩ (mX11_needState hl0 t0 σ (.inr k41) σ6 hcl H.size) (va_cwS 1 hts gX11_type_X11_needState rfl rfl rfl (by decide +kernel) ⟨Nat.le_of_ble_eq_true rfl, Nat.le_of_ble_eq_true rfl⟩) (x_preS _ hw hA hG) rfl rfl hl.1 rfl (lv_room (Nat.le_of_ble_eq_true rfl)) dX11_type_41 ⟨Nat.le_of_ble_eq_true rfl, Nat.le_of_ble_eq_true rfl⟩) hw hA (fun q9 ce H locs h1 h2 h3 hw => ?_) (fun H locs h1 hw => nomatch h1)
      exact x_tout hlk hex h1 h2 h3 hw hf (Nat.le_of_ble_eq_true rfl) (Nat.le_of_ble_eq_true rfl)
    refine x_tcallv (vx_runS (As := [.int t0]) (rest := []) ⟨hx, hb, hml, hown, hts⟩ (mX11_needState hl0 t0 σ (.inl r5) σ6 hcl H.size) (va_cwS 1 hts gX11_type_X11_needState rfl rfl rfl (by decide +kernel) ⟨Nat.le_of_ble_eq_true rfl, Nat.le_of_ble_eq_true rfl⟩) (x_preS _ hw hA hG) rfl rfl hl.1 rfl (lv_room (Nat.le_of_ble_eq_true rfl)) dX11_type_41 ⟨Nat.le_of_ble_eq_true rfl, Nat.le_of_ble_eq_true rfl⟩) hw hA (fun q9 ce H locs h1 h2 h3 hw => by obtain ⟨_, h9, _⟩ := h3; cases h9) (fun H locs h1 hw => ?_)
    clear hcl h1
    refine lv_aload_n hx hb dX11_type_44 rfl (lv_at hl 0 rfl) ?_
    refine x_getr hx hb hw (cX0 hE) (own := RX11) (ref := RX11) (C := RX11) (T := TX11) (N := 14) hts hiX11 hown rfl 10 (by decide) hk86 (fun _ h9 => h9) rfl dX11_type_45 ?_
    refine lv_lload_n hx hb dX11_type_48 rfl (lv_at hl 1 rfl) ?_
    obtain ⟨σ8, hcl, hf⟩ := xc_e hf
    refine x_callv (va_runV (As := [.long a1]) (rest := []) ⟨hx, hb, hml, hown, hts⟩ (mX6_append hE a1 σ6 σ8 hcl H.size) (cwV 1 hts gX11_type_X6_append rfl rfl rfl (by decide +kernel) ⟨Nat.le_of_ble_eq_true rfl, Nat.le_of_ble_eq_true rfl⟩) (x_preV _ hw hA hG (cX49 hE) rfl) rfl rfl hl.1 rfl (lv_room (Nat.le_of_ble_eq_true rfl)) dX11_type_49 ⟨Nat.le_of_ble_eq_true rfl, Nat.le_of_ble_eq_true rfl⟩) hw hA (fun H locs hw => ?_)
    clear hcl
    refine lv_aload_n hx hb dX11_type_52 rfl (lv_at hl 0 rfl) ?_
    refine x_getr hx hb hw (cX0 hE) (own := RX11) (ref := RX11) (C := RX11) (T := TX11) (N := 14) hts hiX11 hown rfl 10 (by decide) hk86 (fun _ h9 => h9) rfl dX11_type_53 ?_
    refine x_geti hx hb hw (cX49 hE) (own := RX11) (ref := RX6) (C := RX6) (T := TX6) (N := 3) hts hiX6 hown rfl 1 (by decide) hk152 (fun _ h9 => h9) rfl dX11_type_56 ?_
    exact x_tiret hx hb hr hlk hw hf (Nat.le_of_ble_eq_true rfl) (Nat.le_of_ble_eq_true rfl) dX11_type_59
  have h19 : ∀ (a1 : Int64) (a3 : Int32) (t0 : Int32) (σ : xSt) (H : Heap) (locs : List Loc) (ls : Array Slot), xw E A s.heap s σ H locs → lv_has ls 4 [(0, .ref (E.a 0)), (1, .long a1), (3, .int a3)] → fX11_type_c19 a1 a3 t0 σ = some (o1, o2) → W p l e rmX11_type s m args below meth c H locs 0 0 (vx_MQ below (xQt E A o1 o2) (xXt E A o1 o2) args s 2 12 A) (F0 m 19 ls [.int t0]) := by
    intro a1 a3 t0 σ H locs ls hw hl hf
    unfold fX11_type_c19 at hf
    rcases xct_e hf with ⟨k19, σ4, hcl, hf⟩ | ⟨r3, σ4, hcl, hf⟩
    · refine x_tcallv (vx_runS (As := [.int t0]) (rest := []) ⟨hx, hb, hml, hown, hts⟩ (mX11_needArgument hl0 t0 σ (.inr k19) σ4 hcl H.size) (va_cwS 1 hts gX11_type_X11_needArgument rfl rfl rfl (by decide +kernel) ⟨Nat.le_of_ble_eq_true rfl, Nat.le_of_ble_eq_true rfl⟩) (x_preS _ hw hA hG) rfl rfl hl.1 rfl (lv_room (Nat.le_of_ble_eq_true rfl)) dX11_type_19 ⟨Nat.le_of_ble_eq_true rfl, Nat.le_of_ble_eq_true rfl⟩) hw hA (fun q9 ce H locs h1 h2 h3 hw => ?_) (fun H locs h1 hw => nomatch h1)
      exact x_tout hlk hex h1 h2 h3 hw hf (Nat.le_of_ble_eq_true rfl) (Nat.le_of_ble_eq_true rfl)
    refine x_tcallv (vx_runS (As := [.int t0]) (rest := []) ⟨hx, hb, hml, hown, hts⟩ (mX11_needArgument hl0 t0 σ (.inl r3) σ4 hcl H.size) (va_cwS 1 hts gX11_type_X11_needArgument rfl rfl rfl (by decide +kernel) ⟨Nat.le_of_ble_eq_true rfl, Nat.le_of_ble_eq_true rfl⟩) (x_preS _ hw hA hG) rfl rfl hl.1 rfl (lv_room (Nat.le_of_ble_eq_true rfl)) dX11_type_19 ⟨Nat.le_of_ble_eq_true rfl, Nat.le_of_ble_eq_true rfl⟩) hw hA (fun q9 ce H locs h1 h2 h3 hw => by obtain ⟨_, h9, _⟩ := h3; cases h9) (fun H locs h1 hw => ?_)
    clear hcl h1
    refine lv_aload_n hx hb dX11_type_22 rfl (lv_at hl 0 rfl) ?_
    refine x_getr hx hb hw (cX0 hE) (own := RX11) (ref := RX11) (C := RX11) (T := TX11) (N := 14) hts hiX11 hown rfl 10 (by decide) hk86 (fun _ h9 => h9) rfl dX11_type_23 ?_
    refine x_geti hx hb hw (cX49 hE) (own := RX11) (ref := RX6) (C := RX6) (T := TX6) (N := 3) hts hiX6 hown rfl 1 (by decide) hk152 (fun _ h9 => h9) rfl dX11_type_26 ?_
    refine lv_iload_n hx hb dX11_type_29 rfl (lv_at hl 2 rfl) ?_
    refine lv_iadd hx hb dX11_type_30 ?_
    refine lv_bipush (v := 80) hx hb dX11_type_31 (by decide) ?_
    refine lv_icmp_gt (tgt := 40) hx hb dX11_type_33 (by decide) (fun c33 => ?_) (fun c33 => ?_)
    · replace hf := xif_pos c33 hf
      refine lv_iconst (v := 0) hx hb dX11_type_40 (by decide) ?_
      exact h41 a1 0 σ4 _ _ _ hw (lv_sub hl [0, 1] rfl) hf
    · replace hf := xif_neg c33 hf
      refine lv_iconst (v := 1) hx hb dX11_type_36 (by decide) ?_
      refine lv_goto (tgt := 41) hx hb dX11_type_37 (by decide) ?_
      exact h41 a1 1 σ4 _ _ _ hw (lv_sub hl [0, 1] rfl) hf
  refine lv_aload_n hx hb dX11_type_0 rfl (lv_at hl 0 rfl) ?_
  refine x_getr hx hb hw (cX0 hE) (own := RX11) (ref := RX11) (C := RX11) (T := TX11) (N := 14) hts hiX11 hown rfl 10 (by decide) hk86 (fun _ h9 => h9) rfl dX11_type_1 ?_
  refine lv_lload_n hx hb dX11_type_4 rfl (lv_at hl 1 rfl) ?_
  obtain ⟨r1, σ2, hcl, hf⟩ := xc2_f hf
  refine x_calli (va_runV (As := [.long p0]) (rest := []) ⟨hx, hb, hml, hown, hts⟩ (mX6_countBytes hE p0 σ r1 σ2 hcl s.heap.size) (cwV 1 hts gX11_type_X6_countBytes rfl rfl rfl (by decide +kernel) ⟨Nat.le_of_ble_eq_true rfl, Nat.le_of_ble_eq_true rfl⟩) (x_preV _ hw hA hG (cX49 hE) rfl) rfl rfl hl.1 rfl (lv_room (Nat.le_of_ble_eq_true rfl)) dX11_type_5 ⟨Nat.le_of_ble_eq_true rfl, Nat.le_of_ble_eq_true rfl⟩) hw hA (fun H locs hw => ?_)
  clear hcl
  refine lv_istore_n (lv' := [(3, .int r1), (0, .ref (E.a 0)), (1, .long p0)]) hx hb dX11_type_8 rfl hl (by decide) rfl (fun ls hl => ?_)
  refine lv_iload_n hx hb dX11_type_9 rfl (lv_at hl 0 rfl) ?_
  refine lv_iconst (v := (-1)) hx hb dX11_type_10 (by decide) ?_
  refine lv_icmp_eq (tgt := 18) hx hb dX11_type_11 (by decide) (fun c11 => ?_) (fun c11 => ?_)
  · replace hf := xif_pos c11 hf
    refine lv_iconst (v := 0) hx hb dX11_type_18 (by decide) ?_
    exact h19 p0 r1 0 σ2 _ _ _ hw (lv_sub hl [1, 2, 0] rfl) hf
  · replace hf := xif_neg c11 hf
    refine lv_iconst (v := 1) hx hb dX11_type_14 (by decide) ?_
    refine lv_goto (tgt := 19) hx hb dX11_type_15 (by decide) ?_
    exact h19 p0 r1 1 σ2 _ _ _ hw (lv_sub hl [1, 2, 0] rfl) hf

def fX11_fault (σ : xSt) : Option (Int32 × xSt) := (xc2 (fX6_read σ) fun r1 σ2 => some (r1, σ2))
abbrev rmX11_fault : Room := { frames := 3, cells := 0, slots := 0, locals := 74 }
set_option maxRecDepth 100000 in
set_option maxHeartbeats 4000000 in
theorem mX11_fault {l : Launch} {E : xE} (hE : E.sh = shX) (σ : xSt) (o1 : Int32) (o2 : xSt) (hf : fX11_fault σ = some (o1, o2)) : xMi l yX11_fault wsX11_fault rmX11_fault E [.ref (E.a 0)] σ o1 o2 := by
  unfold fX11_fault at hf
  refine xMi_of (cc := cX11_fault) (maxL := 1) (ret := (some .int)) (by decide) rfl (Nat.le_of_ble_eq_true rfl) ?_
  intro p e s m args below meth c A ls ⟨hx, hb, hr, hml, hown, hts, hlk⟩ hA hG hw hl
  have hown : s.vm.findClass RX11 = some m.cls := hown
  have hl : lv_has ls 1 [(0, .ref (E.a 0))] := hl
  have hk86 := hts (.fieldLink RX11 86 "OvenRound" "text" "LOvenRound$PartsText;") (by decide +kernel)
  have hiX11 : ∀ w ∈ wsX110, w ∈ wsX11_fault := by decide +kernel
  refine lv_aload_n hx hb dX11_fault_0 rfl (lv_at hl 0 rfl) ?_
  refine x_getr hx hb hw (cX0 hE) (own := RX11) (ref := RX11) (C := RX11) (T := TX11) (N := 14) hts hiX11 hown rfl 10 (by decide) hk86 (fun _ h9 => h9) rfl dX11_fault_1 ?_
  obtain ⟨r1, σ2, hcl, hf⟩ := xc2_f hf
  refine x_calli (va_runV (As := []) (rest := []) ⟨hx, hb, hml, hown, hts⟩ (mX6_read hE σ r1 σ2 hcl s.heap.size) (cwV 0 hts gX11_fault_X6_read rfl rfl rfl (by decide +kernel) ⟨Nat.le_of_ble_eq_true rfl, Nat.le_of_ble_eq_true rfl⟩) (x_preV _ hw hA hG (cX49 hE) rfl) rfl rfl hl.1 rfl (lv_room (Nat.le_of_ble_eq_true rfl)) dX11_fault_4 ⟨Nat.le_of_ble_eq_true rfl, Nat.le_of_ble_eq_true rfl⟩) hw hA (fun H locs hw => ?_)
  clear hcl
  exact x_iret hx hb hr hlk hw hf dX11_fault_7

def fX11_bringBack (p0 : Int32) (σ : xSt) : Option xSt := (xc2 (fX10_load p0 σ) fun r1 σ2 => (xc2 (fX8_load r1 σ2) fun r3 σ4 => (xc2 (fX2_load r3 σ4) fun r5 σ6 => (xc2 (fX5_load r5 σ6) fun r7 σ8 => (xc2 (fX0_load r7 σ8) fun r9 σ10 => (xc2 (fX3_load r9 σ10) fun r11 σ12 => (xc2 (fX4_load r11 σ12) fun r13 σ14 => (xc2 (fX1_load r13 σ14) fun r15 σ16 => some σ16))))))))
abbrev rmX11_bringBack : Room := { frames := 2, cells := 0, slots := 0, locals := 118 }
set_option maxRecDepth 100000 in
set_option maxHeartbeats 4000000 in
theorem mX11_bringBack {l : Launch} {E : xE} (hE : E.sh = shX) (p0 : Int32) (σ : xSt) (o1 : xSt) (hf : fX11_bringBack p0 σ = some o1) : xMv l yX11_bringBack wsX11_bringBack rmX11_bringBack E [.ref (E.a 0), .int p0] σ o1 := by
  unfold fX11_bringBack at hf
  refine xMv_of (cc := cX11_bringBack) (maxL := 3) (ret := none) (by decide) rfl (Nat.le_of_ble_eq_true rfl) ?_
  intro p e s m args below meth c A ls ⟨hx, hb, hr, hml, hown, hts, hlk⟩ hA hG hw hl
  have hown : s.vm.findClass RX11 = some m.cls := hown
  have hl : lv_has ls 3 [(0, .ref (E.a 0)), (1, .int p0)] := hl
  have hk24 := hts (.fieldLink RX11 24 "OvenRound" "store" "LOvenRound$Store;") (by decide +kernel)
  have hiX11 : ∀ w ∈ wsX110, w ∈ wsX11_bringBack := by decide +kernel
  have hk90 := hts (.fieldLink RX11 90 "OvenRound" "past" "[I") (by decide +kernel)
  have hk31 := hts (.fieldLink RX11 31 "OvenRound" "recipes" "LOvenRound$Recipes;") (by decide +kernel)
  have hk36 := hts (.fieldLink RX11 36 "OvenRound" "doughs" "LOvenRound$Doughs;") (by decide +kernel)
  have hk41 := hts (.fieldLink RX11 41 "OvenRound" "oven" "LOvenRound$Oven;") (by decide +kernel)
  have hk55 := hts (.fieldLink RX11 55 "OvenRound" "breads" "LOvenRound$Breads;") (by decide +kernel)
  have hk60 := hts (.fieldLink RX11 60 "OvenRound" "flours" "LOvenRound$Flours;") (by decide +kernel)
  have hk65 := hts (.fieldLink RX11 65 "OvenRound" "notes" "LOvenRound$Notes;") (by decide +kernel)
  have hk70 := hts (.fieldLink RX11 70 "OvenRound" "cart" "LOvenRound$Cart;") (by decide +kernel)
  refine lv_iload_n hx hb dX11_bringBack_0 rfl (lv_at hl 1 rfl) ?_
  refine lv_istore_n (lv' := [(2, .int p0), (0, .ref (E.a 0)), (1, .int p0)]) hx hb dX11_bringBack_1 rfl hl (by decide) rfl (fun ls hl => ?_)
  refine lv_aload_n hx hb dX11_bringBack_2 rfl (lv_at hl 1 rfl) ?_
  refine x_getr hx hb hw (cX0 hE) (own := RX11) (ref := RX11) (C := RX11) (T := TX11) (N := 14) hts hiX11 hown rfl 0 (by decide) hk24 (fun _ h9 => h9) rfl dX11_bringBack_3 ?_
  refine lv_aload_n hx hb dX11_bringBack_6 rfl (lv_at hl 1 rfl) ?_
  refine x_getr hx hb hw (cX0 hE) (own := RX11) (ref := RX11) (C := RX11) (T := TX11) (N := 14) hts hiX11 hown rfl 11 (by decide) hk90 (fun _ h9 => h9) rfl dX11_bringBack_7 ?_
  refine lv_iload_n hx hb dX11_bringBack_10 rfl (lv_at hl 0 rfl) ?_
  obtain ⟨r1, σ2, hcl, hf⟩ := xc2_f hf
  refine x_calli (va_runV (As := [.ref (E.a 1), .int p0]) (rest := []) ⟨hx, hb, hml, hown, hts⟩ (mX10_load hE p0 σ r1 σ2 hcl s.heap.size) (cwV 2 hts gX11_bringBack_X10_load rfl rfl rfl (by decide +kernel) ⟨Nat.le_of_ble_eq_true rfl, Nat.le_of_ble_eq_true rfl⟩) (x_preV _ hw hA hG (cX2 hE) rfl) rfl rfl hl.1 rfl (lv_room (Nat.le_of_ble_eq_true rfl)) dX11_bringBack_11 ⟨Nat.le_of_ble_eq_true rfl, Nat.le_of_ble_eq_true rfl⟩) hw hA (fun H locs hw => ?_)
  clear hcl
  refine lv_istore_n (lv' := [(2, .int r1), (0, .ref (E.a 0)), (1, .int p0)]) hx hb dX11_bringBack_14 rfl hl (by decide) rfl (fun ls hl => ?_)
  refine lv_aload_n hx hb dX11_bringBack_15 rfl (lv_at hl 1 rfl) ?_
  refine x_getr hx hb hw (cX0 hE) (own := RX11) (ref := RX11) (C := RX11) (T := TX11) (N := 14) hts hiX11 hown rfl 1 (by decide) hk31 (fun _ h9 => h9) rfl dX11_bringBack_16 ?_
  refine lv_aload_n hx hb dX11_bringBack_19 rfl (lv_at hl 1 rfl) ?_
  refine x_getr hx hb hw (cX0 hE) (own := RX11) (ref := RX11) (C := RX11) (T := TX11) (N := 14) hts hiX11 hown rfl 11 (by decide) hk90 (fun _ h9 => h9) rfl dX11_bringBack_20 ?_
  refine lv_iload_n hx hb dX11_bringBack_23 rfl (lv_at hl 0 rfl) ?_
  obtain ⟨r3, σ4, hcl, hf⟩ := xc2_f hf
  refine x_calli (va_runV (As := [.ref (E.a 1), .int r1]) (rest := []) ⟨hx, hb, hml, hown, hts⟩ (mX8_load hE r1 σ2 r3 σ4 hcl H.size) (cwV 2 hts gX11_bringBack_X8_load rfl rfl rfl (by decide +kernel) ⟨Nat.le_of_ble_eq_true rfl, Nat.le_of_ble_eq_true rfl⟩) (x_preV _ hw hA hG (cX4 hE) rfl) rfl rfl hl.1 rfl (lv_room (Nat.le_of_ble_eq_true rfl)) dX11_bringBack_24 ⟨Nat.le_of_ble_eq_true rfl, Nat.le_of_ble_eq_true rfl⟩) hw hA (fun H locs hw => ?_)
  clear hcl
  refine lv_istore_n (lv' := [(2, .int r3), (0, .ref (E.a 0)), (1, .int p0)]) hx hb dX11_bringBack_27 rfl hl (by decide) rfl (fun ls hl => ?_)
  refine lv_aload_n hx hb dX11_bringBack_28 rfl (lv_at hl 1 rfl) ?_
  refine x_getr hx hb hw (cX0 hE) (own := RX11) (ref := RX11) (C := RX11) (T := TX11) (N := 14) hts hiX11 hown rfl 2 (by decide) hk36 (fun _ h9 => h9) rfl dX11_bringBack_29 ?_
  refine lv_aload_n hx hb dX11_bringBack_32 rfl (lv_at hl 1 rfl) ?_
  refine x_getr hx hb hw (cX0 hE) (own := RX11) (ref := RX11) (C := RX11) (T := TX11) (N := 14) hts hiX11 hown rfl 11 (by decide) hk90 (fun _ h9 => h9) rfl dX11_bringBack_33 ?_
  refine lv_iload_n hx hb dX11_bringBack_36 rfl (lv_at hl 0 rfl) ?_
  obtain ⟨r5, σ6, hcl, hf⟩ := xc2_f hf
  refine x_calli (va_runV (As := [.ref (E.a 1), .int r3]) (rest := []) ⟨hx, hb, hml, hown, hts⟩ (mX2_load hE r3 σ4 r5 σ6 hcl H.size) (cwV 2 hts gX11_bringBack_X2_load rfl rfl rfl (by decide +kernel) ⟨Nat.le_of_ble_eq_true rfl, Nat.le_of_ble_eq_true rfl⟩) (x_preV _ hw hA hG (cX12 hE) rfl) rfl rfl hl.1 rfl (lv_room (Nat.le_of_ble_eq_true rfl)) dX11_bringBack_37 ⟨Nat.le_of_ble_eq_true rfl, Nat.le_of_ble_eq_true rfl⟩) hw hA (fun H locs hw => ?_)
  clear hcl
  refine lv_istore_n (lv' := [(2, .int r5), (0, .ref (E.a 0)), (1, .int p0)]) hx hb dX11_bringBack_40 rfl hl (by decide) rfl (fun ls hl => ?_)
  refine lv_aload_n hx hb dX11_bringBack_41 rfl (lv_at hl 1 rfl) ?_
  refine x_getr hx hb hw (cX0 hE) (own := RX11) (ref := RX11) (C := RX11) (T := TX11) (N := 14) hts hiX11 hown rfl 3 (by decide) hk41 (fun _ h9 => h9) rfl dX11_bringBack_42 ?_
  refine lv_aload_n hx hb dX11_bringBack_45 rfl (lv_at hl 1 rfl) ?_
  refine x_getr hx hb hw (cX0 hE) (own := RX11) (ref := RX11) (C := RX11) (T := TX11) (N := 14) hts hiX11 hown rfl 11 (by decide) hk90 (fun _ h9 => h9) rfl dX11_bringBack_46 ?_
  refine lv_iload_n hx hb dX11_bringBack_49 rfl (lv_at hl 0 rfl) ?_
  obtain ⟨r7, σ8, hcl, hf⟩ := xc2_f hf
  refine x_calli (va_runV (As := [.ref (E.a 1), .int r5]) (rest := []) ⟨hx, hb, hml, hown, hts⟩ (mX5_load hE r5 σ6 r7 σ8 hcl H.size) (cwV 2 hts gX11_bringBack_X5_load rfl rfl rfl (by decide +kernel) ⟨Nat.le_of_ble_eq_true rfl, Nat.le_of_ble_eq_true rfl⟩) (x_preV _ hw hA hG (cX20 hE) rfl) rfl rfl hl.1 rfl (lv_room (Nat.le_of_ble_eq_true rfl)) dX11_bringBack_50 ⟨Nat.le_of_ble_eq_true rfl, Nat.le_of_ble_eq_true rfl⟩) hw hA (fun H locs hw => ?_)
  clear hcl
  refine lv_istore_n (lv' := [(2, .int r7), (0, .ref (E.a 0)), (1, .int p0)]) hx hb dX11_bringBack_53 rfl hl (by decide) rfl (fun ls hl => ?_)
  refine lv_aload_n hx hb dX11_bringBack_54 rfl (lv_at hl 1 rfl) ?_
  refine x_getr hx hb hw (cX0 hE) (own := RX11) (ref := RX11) (C := RX11) (T := TX11) (N := 14) hts hiX11 hown rfl 5 (by decide) hk55 (fun _ h9 => h9) rfl dX11_bringBack_55 ?_
  refine lv_aload_n hx hb dX11_bringBack_58 rfl (lv_at hl 1 rfl) ?_
  refine x_getr hx hb hw (cX0 hE) (own := RX11) (ref := RX11) (C := RX11) (T := TX11) (N := 14) hts hiX11 hown rfl 11 (by decide) hk90 (fun _ h9 => h9) rfl dX11_bringBack_59 ?_
  refine lv_iload_n hx hb dX11_bringBack_62 rfl (lv_at hl 0 rfl) ?_
  obtain ⟨r9, σ10, hcl, hf⟩ := xc2_f hf
  refine x_calli (va_runV (As := [.ref (E.a 1), .int r7]) (rest := []) ⟨hx, hb, hml, hown, hts⟩ (mX0_load hE r7 σ8 r9 σ10 hcl H.size) (cwV 2 hts gX11_bringBack_X0_load rfl rfl rfl (by decide +kernel) ⟨Nat.le_of_ble_eq_true rfl, Nat.le_of_ble_eq_true rfl⟩) (x_preV _ hw hA hG (cX27 hE) rfl) rfl rfl hl.1 rfl (lv_room (Nat.le_of_ble_eq_true rfl)) dX11_bringBack_63 ⟨Nat.le_of_ble_eq_true rfl, Nat.le_of_ble_eq_true rfl⟩) hw hA (fun H locs hw => ?_)
  clear hcl
  refine lv_istore_n (lv' := [(2, .int r9), (0, .ref (E.a 0)), (1, .int p0)]) hx hb dX11_bringBack_66 rfl hl (by decide) rfl (fun ls hl => ?_)
  refine lv_aload_n hx hb dX11_bringBack_67 rfl (lv_at hl 1 rfl) ?_
  refine x_getr hx hb hw (cX0 hE) (own := RX11) (ref := RX11) (C := RX11) (T := TX11) (N := 14) hts hiX11 hown rfl 6 (by decide) hk60 (fun _ h9 => h9) rfl dX11_bringBack_68 ?_
  refine lv_aload_n hx hb dX11_bringBack_71 rfl (lv_at hl 1 rfl) ?_
  refine x_getr hx hb hw (cX0 hE) (own := RX11) (ref := RX11) (C := RX11) (T := TX11) (N := 14) hts hiX11 hown rfl 11 (by decide) hk90 (fun _ h9 => h9) rfl dX11_bringBack_72 ?_
  refine lv_iload_n hx hb dX11_bringBack_75 rfl (lv_at hl 0 rfl) ?_
  obtain ⟨r11, σ12, hcl, hf⟩ := xc2_f hf
  refine x_calli (va_runV (As := [.ref (E.a 1), .int r9]) (rest := []) ⟨hx, hb, hml, hown, hts⟩ (mX3_load hE r9 σ10 r11 σ12 hcl H.size) (cwV 2 hts gX11_bringBack_X3_load rfl rfl rfl (by decide +kernel) ⟨Nat.le_of_ble_eq_true rfl, Nat.le_of_ble_eq_true rfl⟩) (x_preV _ hw hA hG (cX29 hE) rfl) rfl rfl hl.1 rfl (lv_room (Nat.le_of_ble_eq_true rfl)) dX11_bringBack_76 ⟨Nat.le_of_ble_eq_true rfl, Nat.le_of_ble_eq_true rfl⟩) hw hA (fun H locs hw => ?_)
  clear hcl
  refine lv_istore_n (lv' := [(2, .int r11), (0, .ref (E.a 0)), (1, .int p0)]) hx hb dX11_bringBack_79 rfl hl (by decide) rfl (fun ls hl => ?_)
  refine lv_aload_n hx hb dX11_bringBack_80 rfl (lv_at hl 1 rfl) ?_
  refine x_getr hx hb hw (cX0 hE) (own := RX11) (ref := RX11) (C := RX11) (T := TX11) (N := 14) hts hiX11 hown rfl 7 (by decide) hk65 (fun _ h9 => h9) rfl dX11_bringBack_81 ?_
  refine lv_aload_n hx hb dX11_bringBack_84 rfl (lv_at hl 1 rfl) ?_
  refine x_getr hx hb hw (cX0 hE) (own := RX11) (ref := RX11) (C := RX11) (T := TX11) (N := 14) hts hiX11 hown rfl 11 (by decide) hk90 (fun _ h9 => h9) rfl dX11_bringBack_85 ?_
  refine lv_iload_n hx hb dX11_bringBack_88 rfl (lv_at hl 0 rfl) ?_
  obtain ⟨r13, σ14, hcl, hf⟩ := xc2_f hf
  refine x_calli (va_runV (As := [.ref (E.a 1), .int r11]) (rest := []) ⟨hx, hb, hml, hown, hts⟩ (mX4_load hE r11 σ12 r13 σ14 hcl H.size) (cwV 2 hts gX11_bringBack_X4_load rfl rfl rfl (by decide +kernel) ⟨Nat.le_of_ble_eq_true rfl, Nat.le_of_ble_eq_true rfl⟩) (x_preV _ hw hA hG (cX35 hE) rfl) rfl rfl hl.1 rfl (lv_room (Nat.le_of_ble_eq_true rfl)) dX11_bringBack_89 ⟨Nat.le_of_ble_eq_true rfl, Nat.le_of_ble_eq_true rfl⟩) hw hA (fun H locs hw => ?_)
  clear hcl
  refine lv_istore_n (lv' := [(2, .int r13), (0, .ref (E.a 0)), (1, .int p0)]) hx hb dX11_bringBack_92 rfl hl (by decide) rfl (fun ls hl => ?_)
  refine lv_aload_n hx hb dX11_bringBack_93 rfl (lv_at hl 1 rfl) ?_
  refine x_getr hx hb hw (cX0 hE) (own := RX11) (ref := RX11) (C := RX11) (T := TX11) (N := 14) hts hiX11 hown rfl 8 (by decide) hk70 (fun _ h9 => h9) rfl dX11_bringBack_94 ?_
  refine lv_aload_n hx hb dX11_bringBack_97 rfl (lv_at hl 1 rfl) ?_
  refine x_getr hx hb hw (cX0 hE) (own := RX11) (ref := RX11) (C := RX11) (T := TX11) (N := 14) hts hiX11 hown rfl 11 (by decide) hk90 (fun _ h9 => h9) rfl dX11_bringBack_98 ?_
  refine lv_iload_n hx hb dX11_bringBack_101 rfl (lv_at hl 0 rfl) ?_
  obtain ⟨r15, σ16, hcl, hf⟩ := xc2_f hf
  refine x_calli (va_runV (As := [.ref (E.a 1), .int r13]) (rest := []) ⟨hx, hb, hml, hown, hts⟩ (mX1_load hE r13 σ14 r15 σ16 hcl H.size) (cwV 2 hts gX11_bringBack_X1_load rfl rfl rfl (by decide +kernel) ⟨Nat.le_of_ble_eq_true rfl, Nat.le_of_ble_eq_true rfl⟩) (x_preV _ hw hA hG (cX38 hE) rfl) rfl rfl hl.1 rfl (lv_room (Nat.le_of_ble_eq_true rfl)) dX11_bringBack_102 ⟨Nat.le_of_ble_eq_true rfl, Nat.le_of_ble_eq_true rfl⟩) hw hA (fun H locs hw => ?_)
  clear hcl
  refine lv_pop hx hb dX11_bringBack_105 rfl ?_
  exact x_vret hx hb hr hlk hw hf dX11_bringBack_106

def fX11_undo_c12 (t0 : Int32) (σ : xSt) : Option (xO × xSt) := (xct (fX11_needState t0 σ) fun r1 σ2 => (xp σ2 0 13 ((σ2 0 13) - 1) fun σ3 => (xc (fX11_bringBack ((((σ3 0 12) + (σ3 0 13)) - ((σ3 0 12) + (σ3 0 13)) / 8 * 8) * 195) σ3) fun σ5 => some ((.inl (σ5 0 13) : xO), σ5))))
def fX11_undo (σ : xSt) : Option (xO × xSt) := (if (σ 0 13) ≤ 0 then fX11_undo_c12 0 σ else fX11_undo_c12 1 σ)
abbrev rmX11_undo : Room := { frames := 7, cells := 1, slots := 6, locals := 140 }
set_option maxRecDepth 100000 in
set_option maxHeartbeats 4000000 in
theorem mX11_undo {l : Launch} (hl0 : l.stackTraces = false) {E : xE} (hE : E.sh = shX) (σ : xSt) (o1 : xO) (o2 : xSt) (hf : fX11_undo σ = some (o1, o2)) : xMt l yX11_undo wsX11_undo rmX11_undo E [.ref (E.a 0)] σ o1 o2 1 := by
  unfold fX11_undo at hf
  refine xMt_of (cc := cX11_undo) (maxL := 1) (ret := (some .int)) (by decide) rfl (Nat.le_of_ble_eq_true rfl) ?_
  intro p e s m args below meth c A ls ⟨hx, hb, hr, hml, hown, hts, hlk⟩ hA hG hw hl hex
  have hown : s.vm.findClass RX11 = some m.cls := hown
  have hl : lv_has ls 1 [(0, .ref (E.a 0))] := hl
  have hk381 := hts (.fieldLink RX11 381 "OvenRound" "acts" "I") (by decide +kernel)
  have hiX11 : ∀ w ∈ wsX110, w ∈ wsX11_undo := by decide +kernel
  have hk384 := hts (.fieldLink RX11 384 "OvenRound" "oldest" "I") (by decide +kernel)
  have h12 : ∀ (t0 : Int32) (σ : xSt) (H : Heap) (locs : List Loc) (ls : Array Slot), xw E A s.heap s σ H locs → lv_has ls 1 [(0, .ref (E.a 0))] → fX11_undo_c12 t0 σ = some (o1, o2) → W p l e rmX11_undo s m args below meth c H locs 0 0 (vx_MQ below (xQt E A o1 o2) (xXt E A o1 o2) args s 1 6 A) (F0 m 12 ls [.int t0]) := by
    intro t0 σ H locs ls hw hl hf
    unfold fX11_undo_c12 at hf
    rcases xct_e hf with ⟨k12, σ2, hcl, hf⟩ | ⟨r1, σ2, hcl, hf⟩
    · refine x_tcallv (vx_runS (As := [.int t0]) (rest := []) ⟨hx, hb, hml, hown, hts⟩ (mX11_needState hl0 t0 σ (.inr k12) σ2 hcl H.size) (va_cwS 1 hts gX11_undo_X11_needState rfl rfl rfl (by decide +kernel) ⟨Nat.le_of_ble_eq_true rfl, Nat.le_of_ble_eq_true rfl⟩) (x_preS _ hw hA hG) rfl rfl hl.1 rfl (lv_room (Nat.le_of_ble_eq_true rfl)) dX11_undo_12 ⟨Nat.le_of_ble_eq_true rfl, Nat.le_of_ble_eq_true rfl⟩) hw hA (fun q9 ce H locs h1 h2 h3 hw => ?_) (fun H locs h1 hw => nomatch h1)
      exact x_tout hlk hex h1 h2 h3 hw hf (Nat.le_of_ble_eq_true rfl) (Nat.le_of_ble_eq_true rfl)
    refine x_tcallv (vx_runS (As := [.int t0]) (rest := []) ⟨hx, hb, hml, hown, hts⟩ (mX11_needState hl0 t0 σ (.inl r1) σ2 hcl H.size) (va_cwS 1 hts gX11_undo_X11_needState rfl rfl rfl (by decide +kernel) ⟨Nat.le_of_ble_eq_true rfl, Nat.le_of_ble_eq_true rfl⟩) (x_preS _ hw hA hG) rfl rfl hl.1 rfl (lv_room (Nat.le_of_ble_eq_true rfl)) dX11_undo_12 ⟨Nat.le_of_ble_eq_true rfl, Nat.le_of_ble_eq_true rfl⟩) hw hA (fun q9 ce H locs h1 h2 h3 hw => by obtain ⟨_, h9, _⟩ := h3; cases h9) (fun H locs h1 hw => ?_)
    clear hcl h1
    refine lv_aload_n hx hb dX11_undo_15 rfl (lv_at hl 0 rfl) ?_
    refine lv_dup hx hb dX11_undo_16 rfl ?_
    refine x_geti hx hb hw (cX0 hE) (own := RX11) (ref := RX11) (C := RX11) (T := TX11) (N := 14) hts hiX11 hown rfl 13 (by decide) hk381 (fun _ h9 => h9) rfl dX11_undo_17 ?_
    refine lv_iconst (v := 1) hx hb dX11_undo_20 (by decide) ?_
    refine lv_isub hx hb dX11_undo_21 ?_
    refine x_puti hx hb hw (cX0 hE) (own := RX11) (ref := RX11) (C := RX11) (T := TX11) (N := 14) hts hiX11 tyX11 tyX11_ok nmX11 hown rfl 13 (by decide) hk381 (fun _ h9 => h9) rfl (by decide +kernel) rfl dX11_undo_22 (fun σ3 H locs ex hw => ?_)
    replace hf := xp_f hf σ3 ex
    clear ex
    refine lv_aload_n hx hb dX11_undo_25 rfl (lv_at hl 0 rfl) ?_
    refine lv_aload_n hx hb dX11_undo_26 rfl (lv_at hl 0 rfl) ?_
    refine x_geti hx hb hw (cX0 hE) (own := RX11) (ref := RX11) (C := RX11) (T := TX11) (N := 14) hts hiX11 hown rfl 12 (by decide) hk384 (fun _ h9 => h9) rfl dX11_undo_27 ?_
    refine lv_aload_n hx hb dX11_undo_30 rfl (lv_at hl 0 rfl) ?_
    refine x_geti hx hb hw (cX0 hE) (own := RX11) (ref := RX11) (C := RX11) (T := TX11) (N := 14) hts hiX11 hown rfl 13 (by decide) hk381 (fun _ h9 => h9) rfl dX11_undo_31 ?_
    refine lv_iadd hx hb dX11_undo_34 ?_
    refine lv_bipush (v := 8) hx hb dX11_undo_35 (by decide) ?_
    refine lv_irem hx hb dX11_undo_37 (by decide) ?_
    refine lv_sipush (v := 195) hx hb dX11_undo_38 (by decide) ?_
    refine lv_imul hx hb dX11_undo_41 ?_
    obtain ⟨σ5, hcl, hf⟩ := xc_e hf
    refine x_callv (va_runV (As := [.int ((((σ3 0 12) + (σ3 0 13)) - ((σ3 0 12) + (σ3 0 13)) / 8 * 8) * 195)]) (rest := []) ⟨hx, hb, hml, hown, hts⟩ (mX11_bringBack hE ((((σ3 0 12) + (σ3 0 13)) - ((σ3 0 12) + (σ3 0 13)) / 8 * 8) * 195) σ3 σ5 hcl H.size) (cwV 1 hts gX11_undo_X11_bringBack rfl rfl rfl (by decide +kernel) ⟨Nat.le_of_ble_eq_true rfl, Nat.le_of_ble_eq_true rfl⟩) (x_preV _ hw hA hG (cX0 hE) rfl) rfl rfl hl.1 rfl (lv_room (Nat.le_of_ble_eq_true rfl)) dX11_undo_42 ⟨Nat.le_of_ble_eq_true rfl, Nat.le_of_ble_eq_true rfl⟩) hw hA (fun H locs hw => ?_)
    clear hcl
    refine lv_aload_n hx hb dX11_undo_45 rfl (lv_at hl 0 rfl) ?_
    refine x_geti hx hb hw (cX0 hE) (own := RX11) (ref := RX11) (C := RX11) (T := TX11) (N := 14) hts hiX11 hown rfl 13 (by decide) hk381 (fun _ h9 => h9) rfl dX11_undo_46 ?_
    exact x_tiret hx hb hr hlk hw hf (Nat.le_of_ble_eq_true rfl) (Nat.le_of_ble_eq_true rfl) dX11_undo_49
  refine lv_aload_n hx hb dX11_undo_0 rfl (lv_at hl 0 rfl) ?_
  refine x_geti hx hb hw (cX0 hE) (own := RX11) (ref := RX11) (C := RX11) (T := TX11) (N := 14) hts hiX11 hown rfl 13 (by decide) hk381 (fun _ h9 => h9) rfl dX11_undo_1 ?_
  refine lv_if_le (tgt := 11) hx hb dX11_undo_4 (by decide) (fun c4 => ?_) (fun c4 => ?_)
  · replace hf := xif_pos c4 hf
    refine lv_iconst (v := 0) hx hb dX11_undo_11 (by decide) ?_
    exact h12 0 σ _ _ _ hw (lv_sub hl [0] rfl) hf
  · replace hf := xif_neg c4 hf
    refine lv_iconst (v := 1) hx hb dX11_undo_7 (by decide) ?_
    refine lv_goto (tgt := 12) hx hb dX11_undo_8 (by decide) ?_
    exact h12 1 σ _ _ _ hw (lv_sub hl [0] rfl) hf

def fX11_gramsToldOf (σ : xSt) : Option (Int32 × xSt) := (xc2 (fX10_allGrams σ) fun r1 σ2 => (xc2 (fX2_gramsIn 0 σ2) fun r3 σ4 => (xc2 (fX2_gramsIn 1 σ4) fun r5 σ6 => (xc2 (fX2_gramsIn 2 σ6) fun r7 σ8 => (xc2 (fX11_gramsInBreads σ8) fun r9 σ10 => some ((((((((σ 2 2) + (σ 2 3)) + r1) + r3) + r5) + r7) + r9), σ10))))))
abbrev rmX11_gramsToldOf : Room := { frames := 2, cells := 0, slots := 0, locals := 46 }
set_option maxRecDepth 100000 in
set_option maxHeartbeats 4000000 in
theorem mX11_gramsToldOf {l : Launch} {E : xE} (hE : E.sh = shX) (σ : xSt) (o1 : Int32) (o2 : xSt) (hf : fX11_gramsToldOf σ = some (o1, o2)) : xMi l yX11_gramsToldOf wsX11_gramsToldOf rmX11_gramsToldOf E [.ref (E.a 0)] σ o1 o2 := by
  unfold fX11_gramsToldOf at hf
  refine xMi_of (cc := cX11_gramsToldOf) (maxL := 1) (ret := (some .int)) (by decide) rfl (Nat.le_of_ble_eq_true rfl) ?_
  intro p e s m args below meth c A ls ⟨hx, hb, hr, hml, hown, hts, hlk⟩ hA hG hw hl
  have hown : s.vm.findClass RX11 = some m.cls := hown
  have hl : lv_has ls 1 [(0, .ref (E.a 0))] := hl
  have hk24 := hts (.fieldLink RX11 24 "OvenRound" "store" "LOvenRound$Store;") (by decide +kernel)
  have hiX11 : ∀ w ∈ wsX110, w ∈ wsX11_gramsToldOf := by decide +kernel
  have hk266 := hts (.fieldLink RX11 266 "OvenRound$Store" "sold" "I") (by decide +kernel)
  have hiX10 : ∀ w ∈ wsX100, w ∈ wsX11_gramsToldOf := by decide +kernel
  have hk229 := hts (.fieldLink RX11 229 "OvenRound$Store" "thrown" "I") (by decide +kernel)
  have hk36 := hts (.fieldLink RX11 36 "OvenRound" "doughs" "LOvenRound$Doughs;") (by decide +kernel)
  refine lv_aload_n hx hb dX11_gramsToldOf_0 rfl (lv_at hl 0 rfl) ?_
  refine x_getr hx hb hw (cX0 hE) (own := RX11) (ref := RX11) (C := RX11) (T := TX11) (N := 14) hts hiX11 hown rfl 0 (by decide) hk24 (fun _ h9 => h9) rfl dX11_gramsToldOf_1 ?_
  refine x_geti hx hb hw (cX2 hE) (own := RX11) (ref := RX10) (C := RX10) (T := TX10) (N := 4) hts hiX10 hown rfl 2 (by decide) hk266 (fun _ h9 => h9) rfl dX11_gramsToldOf_4 ?_
  refine lv_aload_n hx hb dX11_gramsToldOf_7 rfl (lv_at hl 0 rfl) ?_
  refine x_getr hx hb hw (cX0 hE) (own := RX11) (ref := RX11) (C := RX11) (T := TX11) (N := 14) hts hiX11 hown rfl 0 (by decide) hk24 (fun _ h9 => h9) rfl dX11_gramsToldOf_8 ?_
  refine x_geti hx hb hw (cX2 hE) (own := RX11) (ref := RX10) (C := RX10) (T := TX10) (N := 4) hts hiX10 hown rfl 3 (by decide) hk229 (fun _ h9 => h9) rfl dX11_gramsToldOf_11 ?_
  refine lv_iadd hx hb dX11_gramsToldOf_14 ?_
  refine lv_aload_n hx hb dX11_gramsToldOf_15 rfl (lv_at hl 0 rfl) ?_
  refine x_getr hx hb hw (cX0 hE) (own := RX11) (ref := RX11) (C := RX11) (T := TX11) (N := 14) hts hiX11 hown rfl 0 (by decide) hk24 (fun _ h9 => h9) rfl dX11_gramsToldOf_16 ?_
  obtain ⟨r1, σ2, hcl, hf⟩ := xc2_f hf
  refine x_calli (va_runV (As := []) (rest := [.int ((σ 2 2) + (σ 2 3))]) ⟨hx, hb, hml, hown, hts⟩ (mX10_allGrams hE σ r1 σ2 hcl s.heap.size) (cwV 0 hts gX11_gramsToldOf_X10_allGrams rfl rfl rfl (by decide +kernel) ⟨Nat.le_of_ble_eq_true rfl, Nat.le_of_ble_eq_true rfl⟩) (x_preV _ hw hA hG (cX2 hE) rfl) rfl rfl hl.1 rfl (lv_room (Nat.le_of_ble_eq_true rfl)) dX11_gramsToldOf_19 ⟨Nat.le_of_ble_eq_true rfl, Nat.le_of_ble_eq_true rfl⟩) hw hA (fun H locs hw => ?_)
  clear hcl
  refine lv_iadd hx hb dX11_gramsToldOf_22 ?_
  refine lv_aload_n hx hb dX11_gramsToldOf_23 rfl (lv_at hl 0 rfl) ?_
  refine x_getr hx hb hw (cX0 hE) (own := RX11) (ref := RX11) (C := RX11) (T := TX11) (N := 14) hts hiX11 hown rfl 2 (by decide) hk36 (fun _ h9 => h9) rfl dX11_gramsToldOf_24 ?_
  refine lv_iconst (v := 0) hx hb dX11_gramsToldOf_27 (by decide) ?_
  obtain ⟨r3, σ4, hcl, hf⟩ := xc2_f hf
  refine x_calli (va_runV (As := [.int 0]) (rest := [.int (((σ 2 2) + (σ 2 3)) + r1)]) ⟨hx, hb, hml, hown, hts⟩ (mX2_gramsIn hE 0 σ2 r3 σ4 hcl H.size) (cwV 1 hts gX11_gramsToldOf_X2_gramsIn rfl rfl rfl (by decide +kernel) ⟨Nat.le_of_ble_eq_true rfl, Nat.le_of_ble_eq_true rfl⟩) (x_preV _ hw hA hG (cX12 hE) rfl) rfl rfl hl.1 rfl (lv_room (Nat.le_of_ble_eq_true rfl)) dX11_gramsToldOf_28 ⟨Nat.le_of_ble_eq_true rfl, Nat.le_of_ble_eq_true rfl⟩) hw hA (fun H locs hw => ?_)
  clear hcl
  refine lv_iadd hx hb dX11_gramsToldOf_31 ?_
  refine lv_aload_n hx hb dX11_gramsToldOf_32 rfl (lv_at hl 0 rfl) ?_
  refine x_getr hx hb hw (cX0 hE) (own := RX11) (ref := RX11) (C := RX11) (T := TX11) (N := 14) hts hiX11 hown rfl 2 (by decide) hk36 (fun _ h9 => h9) rfl dX11_gramsToldOf_33 ?_
  refine lv_iconst (v := 1) hx hb dX11_gramsToldOf_36 (by decide) ?_
  obtain ⟨r5, σ6, hcl, hf⟩ := xc2_f hf
  refine x_calli (va_runV (As := [.int 1]) (rest := [.int ((((σ 2 2) + (σ 2 3)) + r1) + r3)]) ⟨hx, hb, hml, hown, hts⟩ (mX2_gramsIn hE 1 σ4 r5 σ6 hcl H.size) (cwV 1 hts gX11_gramsToldOf_X2_gramsIn rfl rfl rfl (by decide +kernel) ⟨Nat.le_of_ble_eq_true rfl, Nat.le_of_ble_eq_true rfl⟩) (x_preV _ hw hA hG (cX12 hE) rfl) rfl rfl hl.1 rfl (lv_room (Nat.le_of_ble_eq_true rfl)) dX11_gramsToldOf_37 ⟨Nat.le_of_ble_eq_true rfl, Nat.le_of_ble_eq_true rfl⟩) hw hA (fun H locs hw => ?_)
  clear hcl
  refine lv_iadd hx hb dX11_gramsToldOf_40 ?_
  refine lv_aload_n hx hb dX11_gramsToldOf_41 rfl (lv_at hl 0 rfl) ?_
  refine x_getr hx hb hw (cX0 hE) (own := RX11) (ref := RX11) (C := RX11) (T := TX11) (N := 14) hts hiX11 hown rfl 2 (by decide) hk36 (fun _ h9 => h9) rfl dX11_gramsToldOf_42 ?_
  refine lv_iconst (v := 2) hx hb dX11_gramsToldOf_45 (by decide) ?_
  obtain ⟨r7, σ8, hcl, hf⟩ := xc2_f hf
  refine x_calli (va_runV (As := [.int 2]) (rest := [.int (((((σ 2 2) + (σ 2 3)) + r1) + r3) + r5)]) ⟨hx, hb, hml, hown, hts⟩ (mX2_gramsIn hE 2 σ6 r7 σ8 hcl H.size) (cwV 1 hts gX11_gramsToldOf_X2_gramsIn rfl rfl rfl (by decide +kernel) ⟨Nat.le_of_ble_eq_true rfl, Nat.le_of_ble_eq_true rfl⟩) (x_preV _ hw hA hG (cX12 hE) rfl) rfl rfl hl.1 rfl (lv_room (Nat.le_of_ble_eq_true rfl)) dX11_gramsToldOf_46 ⟨Nat.le_of_ble_eq_true rfl, Nat.le_of_ble_eq_true rfl⟩) hw hA (fun H locs hw => ?_)
  clear hcl
  refine lv_iadd hx hb dX11_gramsToldOf_49 ?_
  refine lv_aload_n hx hb dX11_gramsToldOf_50 rfl (lv_at hl 0 rfl) ?_
  obtain ⟨r9, σ10, hcl, hf⟩ := xc2_f hf
  refine x_calli (va_runV (As := []) (rest := [.int ((((((σ 2 2) + (σ 2 3)) + r1) + r3) + r5) + r7)]) ⟨hx, hb, hml, hown, hts⟩ (mX11_gramsInBreads hE σ8 r9 σ10 hcl H.size) (cwV 0 hts gX11_gramsToldOf_X11_gramsInBreads rfl rfl rfl (by decide +kernel) ⟨Nat.le_of_ble_eq_true rfl, Nat.le_of_ble_eq_true rfl⟩) (x_preV _ hw hA hG (cX0 hE) rfl) rfl rfl hl.1 rfl (lv_room (Nat.le_of_ble_eq_true rfl)) dX11_gramsToldOf_51 ⟨Nat.le_of_ble_eq_true rfl, Nat.le_of_ble_eq_true rfl⟩) hw hA (fun H locs hw => ?_)
  clear hcl
  refine lv_iadd hx hb dX11_gramsToldOf_54 ?_
  exact x_iret hx hb hr hlk hw hf dX11_gramsToldOf_55

def fX11_errors_c32 (a1 : Int32) (σ : xSt) : Option (Int32 × xSt) := (xc2 (fX1_hasEarlierWay σ) fun r7 σ8 => (if r7 = 0 then some (a1, σ8) else (xl (a1 + 1) fun v9 => some (v9, σ8))))
def fX11_errors_c19 (a1 : Int32) (σ : xSt) : Option (Int32 × xSt) := (xc2 (fX7_leavesOneInVain σ) fun r4 σ5 => (if r4 = 0 then fX11_errors_c32 a1 σ5 else (xl (a1 + 1) fun v6 => fX11_errors_c32 v6 σ5)))
def fX11_errors (σ : xSt) : Option (Int32 × xSt) := (xc2 (fX11_gramsToldOf σ) fun r1 σ2 => (if (σ 2 1) = r1 then fX11_errors_c19 0 σ2 else (xl (0 + 1) fun v3 => fX11_errors_c19 v3 σ2)))
abbrev rmX11_errors : Room := { frames := 16, cells := 0, slots := 0, locals := 448 }
set_option maxRecDepth 100000 in
set_option maxHeartbeats 4000000 in
theorem mX11_errors {l : Launch} {E : xE} (hE : E.sh = shX) (σ : xSt) (o1 : Int32) (o2 : xSt) (hf : fX11_errors σ = some (o1, o2)) : xMi l yX11_errors wsX11_errors rmX11_errors E [.ref (E.a 0)] σ o1 o2 := by
  unfold fX11_errors at hf
  refine xMi_of (cc := cX11_errors) (maxL := 2) (ret := (some .int)) (by decide) rfl (Nat.le_of_ble_eq_true rfl) ?_
  intro p e s m args below meth c A ls ⟨hx, hb, hr, hml, hown, hts, hlk⟩ hA hG hw hl
  have hown : s.vm.findClass RX11 = some m.cls := hown
  have hl : lv_has ls 2 [(0, .ref (E.a 0))] := hl
  have hk24 := hts (.fieldLink RX11 24 "OvenRound" "store" "LOvenRound$Store;") (by decide +kernel)
  have hiX11 : ∀ w ∈ wsX110, w ∈ wsX11_errors := by decide +kernel
  have hk117 := hts (.fieldLink RX11 117 "OvenRound$Store" "cameIn" "I") (by decide +kernel)
  have hiX10 : ∀ w ∈ wsX100, w ∈ wsX11_errors := by decide +kernel
  have hk50 := hts (.fieldLink RX11 50 "OvenRound" "plan" "LOvenRound$Plan;") (by decide +kernel)
  have hk70 := hts (.fieldLink RX11 70 "OvenRound" "cart" "LOvenRound$Cart;") (by decide +kernel)
  have h32 : ∀ (a1 : Int32) (σ : xSt) (H : Heap) (locs : List Loc) (ls : Array Slot), xw E A s.heap s σ H locs → lv_has ls 2 [(0, .ref (E.a 0)), (1, .int a1)] → fX11_errors_c32 a1 σ = some (o1, o2) → W p l e rmX11_errors s m args below meth c H locs 0 0 (MQ below (xQi E A o1 o2) args s 0 0 A) (F0 m 32 ls []) := by
    intro a1 σ H locs ls hw hl hf
    unfold fX11_errors_c32 at hf
    refine lv_aload_n hx hb dX11_errors_32 rfl (lv_at hl 0 rfl) ?_
    refine x_getr hx hb hw (cX0 hE) (own := RX11) (ref := RX11) (C := RX11) (T := TX11) (N := 14) hts hiX11 hown rfl 8 (by decide) hk70 (fun _ h9 => h9) rfl dX11_errors_33 ?_
    obtain ⟨r7, σ8, hcl, hf⟩ := xc2_f hf
    refine x_calli (va_runV (As := []) (rest := []) ⟨hx, hb, hml, hown, hts⟩ (mX1_hasEarlierWay hE σ r7 σ8 hcl H.size) (cwV 0 hts gX11_errors_X1_hasEarlierWay rfl rfl rfl (by decide +kernel) ⟨Nat.le_of_ble_eq_true rfl, Nat.le_of_ble_eq_true rfl⟩) (x_preV _ hw hA hG (cX38 hE) rfl) rfl rfl hl.1 rfl (lv_room (Nat.le_of_ble_eq_true rfl)) dX11_errors_36 ⟨Nat.le_of_ble_eq_true rfl, Nat.le_of_ble_eq_true rfl⟩) hw hA (fun H locs hw => ?_)
    clear hcl
    refine lv_if_eq (tgt := 45) hx hb dX11_errors_39 (by decide) (fun c39 => ?_) (fun c39 => ?_)
    · replace hf := xif_pos c39 hf
      refine lv_iload_n hx hb dX11_errors_45 rfl (lv_at hl 1 rfl) ?_
      exact x_iret hx hb hr hlk hw hf dX11_errors_46
    · replace hf := xif_neg c39 hf
      obtain ⟨v9, ex⟩ : ∃ y : Int32, y = (a1 + 1) := ⟨_, rfl⟩
      replace hf := xl_f hf v9 ex
      refine lv_iinc (v := v9) (lv' := [(1, .int v9), (0, .ref (E.a 0))]) hx hb dX11_errors_42 hl (k := 1) rfl (by rw [ex]; rfl) (by decide) rfl (fun ls hl => ?_)
      clear ex
      refine lv_iload_n hx hb dX11_errors_45 rfl (lv_at hl 0 rfl) ?_
      exact x_iret hx hb hr hlk hw hf dX11_errors_46
  have h19 : ∀ (a1 : Int32) (σ : xSt) (H : Heap) (locs : List Loc) (ls : Array Slot), xw E A s.heap s σ H locs → lv_has ls 2 [(0, .ref (E.a 0)), (1, .int a1)] → fX11_errors_c19 a1 σ = some (o1, o2) → W p l e rmX11_errors s m args below meth c H locs 0 0 (MQ below (xQi E A o1 o2) args s 0 0 A) (F0 m 19 ls []) := by
    intro a1 σ H locs ls hw hl hf
    unfold fX11_errors_c19 at hf
    refine lv_aload_n hx hb dX11_errors_19 rfl (lv_at hl 0 rfl) ?_
    refine x_getr hx hb hw (cX0 hE) (own := RX11) (ref := RX11) (C := RX11) (T := TX11) (N := 14) hts hiX11 hown rfl 4 (by decide) hk50 (fun _ h9 => h9) rfl dX11_errors_20 ?_
    obtain ⟨r4, σ5, hcl, hf⟩ := xc2_f hf
    refine x_calli (va_runV (As := []) (rest := []) ⟨hx, hb, hml, hown, hts⟩ (mX7_leavesOneInVain hE σ r4 σ5 hcl H.size) (cwV 0 hts gX11_errors_X7_leavesOneInVain rfl rfl rfl (by decide +kernel) ⟨Nat.le_of_ble_eq_true rfl, Nat.le_of_ble_eq_true rfl⟩) (x_preV _ hw hA hG (cX21 hE) rfl) rfl rfl hl.1 rfl (lv_room (Nat.le_of_ble_eq_true rfl)) dX11_errors_23 ⟨Nat.le_of_ble_eq_true rfl, Nat.le_of_ble_eq_true rfl⟩) hw hA (fun H locs hw => ?_)
    clear hcl
    refine lv_if_eq (tgt := 32) hx hb dX11_errors_26 (by decide) (fun c26 => ?_) (fun c26 => ?_)
    · replace hf := xif_pos c26 hf
      exact h32 a1 σ5 _ _ _ hw (lv_sub hl [0, 1] rfl) hf
    · replace hf := xif_neg c26 hf
      obtain ⟨v6, ex⟩ : ∃ y : Int32, y = (a1 + 1) := ⟨_, rfl⟩
      replace hf := xl_f hf v6 ex
      refine lv_iinc (v := v6) (lv' := [(1, .int v6), (0, .ref (E.a 0))]) hx hb dX11_errors_29 hl (k := 1) rfl (by rw [ex]; rfl) (by decide) rfl (fun ls hl => ?_)
      clear ex
      exact h32 v6 σ5 _ _ _ hw (lv_sub hl [1, 0] rfl) hf
  refine lv_iconst (v := 0) hx hb dX11_errors_0 (by decide) ?_
  refine lv_istore_n (lv' := [(1, .int 0), (0, .ref (E.a 0))]) hx hb dX11_errors_1 rfl hl (by decide) rfl (fun ls hl => ?_)
  refine lv_aload_n hx hb dX11_errors_2 rfl (lv_at hl 1 rfl) ?_
  refine x_getr hx hb hw (cX0 hE) (own := RX11) (ref := RX11) (C := RX11) (T := TX11) (N := 14) hts hiX11 hown rfl 0 (by decide) hk24 (fun _ h9 => h9) rfl dX11_errors_3 ?_
  refine x_geti hx hb hw (cX2 hE) (own := RX11) (ref := RX10) (C := RX10) (T := TX10) (N := 4) hts hiX10 hown rfl 1 (by decide) hk117 (fun _ h9 => h9) rfl dX11_errors_6 ?_
  refine lv_aload_n hx hb dX11_errors_9 rfl (lv_at hl 1 rfl) ?_
  obtain ⟨r1, σ2, hcl, hf⟩ := xc2_f hf
  refine x_calli (va_runV (As := []) (rest := [.int (σ 2 1)]) ⟨hx, hb, hml, hown, hts⟩ (mX11_gramsToldOf hE σ r1 σ2 hcl s.heap.size) (cwV 0 hts gX11_errors_X11_gramsToldOf rfl rfl rfl (by decide +kernel) ⟨Nat.le_of_ble_eq_true rfl, Nat.le_of_ble_eq_true rfl⟩) (x_preV _ hw hA hG (cX0 hE) rfl) rfl rfl hl.1 rfl (lv_room (Nat.le_of_ble_eq_true rfl)) dX11_errors_10 ⟨Nat.le_of_ble_eq_true rfl, Nat.le_of_ble_eq_true rfl⟩) hw hA (fun H locs hw => ?_)
  clear hcl
  refine lv_icmp_eq (tgt := 19) hx hb dX11_errors_13 (by decide) (fun c13 => ?_) (fun c13 => ?_)
  · replace hf := xif_pos c13 hf
    exact h19 0 σ2 _ _ _ hw (lv_sub hl [1, 0] rfl) hf
  · replace hf := xif_neg c13 hf
    obtain ⟨v3, ex⟩ : ∃ y : Int32, y = (0 + 1) := ⟨_, rfl⟩
    replace hf := xl_f hf v3 ex
    refine lv_iinc (v := v3) (lv' := [(1, .int v3), (0, .ref (E.a 0))]) hx hb dX11_errors_16 hl (k := 0) rfl (by rw [ex]; rfl) (by decide) rfl (fun ls hl => ?_)
    clear ex
    exact h19 v3 σ2 _ _ _ hw (lv_sub hl [1, 0] rfl) hf
