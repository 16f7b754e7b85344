def fX11_wayBack_c27 (a1 : Int32) (t0 : Int32) (σ : xSt) : Option (xO × xSt) := (xct (fX11_needArgument t0 σ) fun r5 σ6 => (xc2 (fX1_walk a1 σ6) fun r7 σ8 => some ((.inl r7 : xO), σ8)))
def fX11_wayBack_c26 (a1 : Int32) (σ : xSt) : Option (xO × xSt) := fX11_wayBack_c27 a1 0 σ
def fX11_wayBack (p0 : Int32) (p1 : Int32) (σ : xSt) : Option (xO × xSt) := (xc2 (fX11_isWithin p0 0 600 σ) fun r1 σ2 => (if r1 = 0 then fX11_wayBack_c26 p0 σ2 else (xc2 (fX1_readWay p1 σ2) fun r3 σ4 => (if r3 = 0 then fX11_wayBack_c26 p0 σ4 else fX11_wayBack_c27 p0 1 σ4))))
abbrev rmX11_wayBack : Room := { frames := 7, cells := 1, slots := 6, locals := 110 }
set_option maxRecDepth 100000 in
set_option maxHeartbeats 4000000 in
theorem mX11_wayBack {l : Launch} (hl0 : l.stackTraces = false) {E : xE} (hE : E.sh = shX) (p0 : Int32) (p1 : Int32) (σ : xSt) (o1 : xO) (o2 : xSt) (hf : fX11_wayBack p0 p1 σ = some (o1, o2)) : xMt l yX11_wayBack wsX11_wayBack rmX11_wayBack E [.ref (E.a 0), .int p0, .int p1] σ o1 o2 1 := by
  unfold fX11_wayBack at hf
  refine xMt_of (cc := cX11_wayBack) (maxL := 3) (ret := (some .int)) (by decide) rfl (Nat.le_of_ble_eq_true rfl) ?_
  intro p e s m args below meth c A ls ⟨hx, hb, hr, hml, hown, hts, hlk⟩ hA hG hw hl hex
  have hown : s.vm.findClass RX11 = some m.cls := hown
  have hl : lv_has ls 3 [(0, .ref (E.a 0)), (1, .int p0), (2, .int p1)] := hl
  have hk70 := hts (.fieldLink RX11 70 "OvenRound" "cart" "LOvenRound$Cart;") (by decide +kernel)
  have hiX11 : ∀ w ∈ wsX110, w ∈ wsX11_wayBack := by decide +kernel
  have h27 : ∀ (a1 : Int32) (t0 : Int32) (σ : xSt) (H : Heap) (locs : List Loc) (ls : Array Slot), xw E A s.heap s σ H locs → lv_has ls 3 [(0, .ref (E.a 0)), (1, .int a1)] → fX11_wayBack_c27 a1 t0 σ = some (o1, o2) → W p l e rmX11_wayBack s m args below meth c H locs 0 0 (vx_MQ below (xQt E A o1 o2) (xXt E A o1 o2) args s 1 6 A) (F0 m 27 ls [.int t0]) := by
    intro a1 t0 σ H locs ls hw hl hf
    unfold fX11_wayBack_c27 at hf
    rcases xct_e hf with ⟨k27, σ6, hcl, hf⟩ | ⟨r5, σ6, hcl, hf⟩
    · refine x_tcallv (vx_runS (As := [.int t0]) (rest := []) ⟨hx, hb, hml, hown, hts⟩ (mX11_needArgument hl0 t0 σ (.inr k27) σ6 hcl H.size) (va_cwS 1 hts gX11_wayBack_X11_needArgument rfl rfl rfl (by decide +kernel) ⟨Nat.le_of_ble_eq_true rfl, Nat.le_of_ble_eq_true rfl⟩) (x_preS _ hw hA hG) rfl rfl hl.1 rfl (lv_room (Nat.le_of_ble_eq_true rfl)) dX11_wayBack_27 ⟨Nat.le_of_ble_eq_true rfl, Nat.le_of_ble_eq_true rfl⟩) hw hA (fun q9 ce H locs h1 h2 h3 hw => ?_) (fun H locs h1 hw => nomatch h1)
      exact x_tout hlk hex h1 h2 h3 hw hf (Nat.le_of_ble_eq_true rfl) (Nat.le_of_ble_eq_true rfl)
    refine x_tcallv (vx_runS (As := [.int t0]) (rest := []) ⟨hx, hb, hml, hown, hts⟩ (mX11_needArgument hl0 t0 σ (.inl r5) σ6 hcl H.size) (va_cwS 1 hts gX11_wayBack_X11_needArgument rfl rfl rfl (by decide +kernel) ⟨Nat.le_of_ble_eq_true rfl, Nat.le_of_ble_eq_true rfl⟩) (x_preS _ hw hA hG) rfl rfl hl.1 rfl (lv_room (Nat.le_of_ble_eq_true rfl)) dX11_wayBack_27 ⟨Nat.le_of_ble_eq_true rfl, Nat.le_of_ble_eq_true rfl⟩) hw hA (fun q9 ce H locs h1 h2 h3 hw => by obtain ⟨_, h9, _⟩ := h3; cases h9) (fun H locs h1 hw => ?_)
    clear hcl h1
    refine lv_aload_n hx hb dX11_wayBack_30 rfl (lv_at hl 0 rfl) ?_
    refine x_getr hx hb hw (cX0 hE) (own := RX11) (ref := RX11) (C := RX11) (T := TX11) (N := 14) hts hiX11 hown rfl 8 (by decide) hk70 (fun _ h9 => h9) rfl dX11_wayBack_31 ?_
    refine lv_iload_n hx hb dX11_wayBack_34 rfl (lv_at hl 1 rfl) ?_
    obtain ⟨r7, σ8, hcl, hf⟩ := xc2_f hf
    refine x_calli (va_runV (As := [.int a1]) (rest := []) ⟨hx, hb, hml, hown, hts⟩ (mX1_walk hE a1 σ6 r7 σ8 hcl H.size) (cwV 1 hts gX11_wayBack_X1_walk rfl rfl rfl (by decide +kernel) ⟨Nat.le_of_ble_eq_true rfl, Nat.le_of_ble_eq_true rfl⟩) (x_preV _ hw hA hG (cX38 hE) rfl) rfl rfl hl.1 rfl (lv_room (Nat.le_of_ble_eq_true rfl)) dX11_wayBack_35 ⟨Nat.le_of_ble_eq_true rfl, Nat.le_of_ble_eq_true rfl⟩) hw hA (fun H locs hw => ?_)
    clear hcl
    exact x_tiret hx hb hr hlk hw hf (Nat.le_of_ble_eq_true rfl) (Nat.le_of_ble_eq_true rfl) dX11_wayBack_38
  have h26 : ∀ (a1 : Int32) (σ : xSt) (H : Heap) (locs : List Loc) (ls : Array Slot), xw E A s.heap s σ H locs → lv_has ls 3 [(0, .ref (E.a 0)), (1, .int a1)] → fX11_wayBack_c26 a1 σ = some (o1, o2) → W p l e rmX11_wayBack s m args below meth c H locs 0 0 (vx_MQ below (xQt E A o1 o2) (xXt E A o1 o2) args s 1 6 A) (F0 m 26 ls []) := by
    intro a1 σ H locs ls hw hl hf
    unfold fX11_wayBack_c26 at hf
    refine lv_iconst (v := 0) hx hb dX11_wayBack_26 (by decide) ?_
    exact h27 a1 0 σ _ _ _ hw (lv_sub hl [0, 1] rfl) hf
  refine lv_iload_n hx hb dX11_wayBack_0 rfl (lv_at hl 1 rfl) ?_
  refine lv_iconst (v := 0) hx hb dX11_wayBack_1 (by decide) ?_
  refine lv_sipush (v := 600) hx hb dX11_wayBack_2 (by decide) ?_
  obtain ⟨r1, σ2, hcl, hf⟩ := xc2_f hf
  refine x_calli (va_runS (As := [.int p0, .int 0, .int 600]) (rest := []) ⟨hx, hb, hml, hown, hts⟩ (mX11_isWithin hE p0 0 600 σ r1 σ2 hcl s.heap.size) (va_cwS 3 hts gX11_wayBack_X11_isWithin rfl rfl rfl (by decide +kernel) ⟨Nat.le_of_ble_eq_true rfl, Nat.le_of_ble_eq_true rfl⟩) (x_preS _ hw hA hG) rfl rfl hl.1 rfl (lv_room (Nat.le_of_ble_eq_true rfl)) dX11_wayBack_5 ⟨Nat.le_of_ble_eq_true rfl, Nat.le_of_ble_eq_true rfl⟩) hw hA (fun H locs hw => ?_)
  clear hcl
  refine lv_if_eq (tgt := 26) hx hb dX11_wayBack_8 (by decide) (fun c8 => ?_) (fun c8 => ?_)
  · replace hf := xif_pos c8 hf
    exact h26 p0 σ2 _ _ _ hw (lv_sub hl [0, 1] rfl) hf
  · replace hf := xif_neg c8 hf
    refine lv_aload_n hx hb dX11_wayBack_11 rfl (lv_at hl 0 rfl) ?_
    refine x_getr hx hb hw (cX0 hE) (own := RX11) (ref := RX11) (C := RX11) (T := TX11) (N := 14) hts hiX11 hown rfl 8 (by decide) hk70 (fun _ h9 => h9) rfl dX11_wayBack_12 ?_
    refine lv_iload_n hx hb dX11_wayBack_15 rfl (lv_at hl 2 rfl) ?_
    obtain ⟨r3, σ4, hcl, hf⟩ := xc2_f hf
    refine x_calli (va_runV (As := [.int p1]) (rest := []) ⟨hx, hb, hml, hown, hts⟩ (mX1_readWay hE p1 σ2 r3 σ4 hcl H.size) (cwV 1 hts gX11_wayBack_X1_readWay rfl rfl rfl (by decide +kernel) ⟨Nat.le_of_ble_eq_true rfl, Nat.le_of_ble_eq_true rfl⟩) (x_preV _ hw hA hG (cX38 hE) rfl) rfl rfl hl.1 rfl (lv_room (Nat.le_of_ble_eq_true rfl)) dX11_wayBack_16 ⟨Nat.le_of_ble_eq_true rfl, Nat.le_of_ble_eq_true rfl⟩) hw hA (fun H locs hw => ?_)
    clear hcl
    refine lv_if_eq (tgt := 26) hx hb dX11_wayBack_19 (by decide) (fun c19 => ?_) (fun c19 => ?_)
    · replace hf := xif_pos c19 hf
      exact h26 p0 σ4 _ _ _ hw (lv_sub hl [0, 1] rfl) hf
    · replace hf := xif_neg c19 hf
      refine lv_iconst (v := 1) hx hb dX11_wayBack_22 (by decide) ?_
      refine lv_goto (tgt := 27) hx hb dX11_wayBack_23 (by decide) ?_
      exact h27 p0 1 σ4 _ _ _ hw (lv_sub hl [0, 1] rfl) hf

def fX11_isSetOfRecipes (p0 : Int32) (σ : xSt) : Option (Int32 × xSt) := (xc2 (fX11_isWithin p0 0 ((1 <<< ((σ 4 7) &&& 31)) - 1) σ) fun r1 σ2 => xb r1 (some (r1, σ2)))
abbrev rmX11_isSetOfRecipes : Room := { frames := 1, cells := 0, slots := 0, locals := 22 }
set_option maxRecDepth 100000 in
set_option maxHeartbeats 4000000 in
theorem mX11_isSetOfRecipes {l : Launch} {E : xE} (hE : E.sh = shX) (p0 : Int32) (σ : xSt) (o1 : Int32) (o2 : xSt) (hf : fX11_isSetOfRecipes p0 σ = some (o1, o2)) : xMi l yX11_isSetOfRecipes wsX11_isSetOfRecipes rmX11_isSetOfRecipes E [.ref (E.a 0), .int p0] σ o1 o2 := by
  unfold fX11_isSetOfRecipes at hf
  refine xMi_of (cc := cX11_isSetOfRecipes) (maxL := 2) (ret := (some .boolean)) (by decide) rfl (Nat.le_of_ble_eq_true rfl) ?_
  intro p e s m args below meth c A ls ⟨hx, hb, hr, hml, hown, hts, hlk⟩ hA hG hw hl
  have hown : s.vm.findClass RX11 = some m.cls := hown
  have hl : lv_has ls 2 [(0, .ref (E.a 0)), (1, .int p0)] := hl
  have hk31 := hts (.fieldLink RX11 31 "OvenRound" "recipes" "LOvenRound$Recipes;") (by decide +kernel)
  have hiX11 : ∀ w ∈ wsX110, w ∈ wsX11_isSetOfRecipes := by decide +kernel
  have hk121 := hts (.fieldLink RX11 121 "OvenRound$Recipes" "count" "I") (by decide +kernel)
  have hiX8 : ∀ w ∈ wsX80, w ∈ wsX11_isSetOfRecipes := by decide +kernel
  refine lv_iload_n hx hb dX11_isSetOfRecipes_0 rfl (lv_at hl 1 rfl) ?_
  refine lv_iconst (v := 0) hx hb dX11_isSetOfRecipes_1 (by decide) ?_
  refine lv_iconst (v := 1) hx hb dX11_isSetOfRecipes_2 (by decide) ?_
  refine lv_aload_n hx hb dX11_isSetOfRecipes_3 rfl (lv_at hl 0 rfl) ?_
  refine x_getr hx hb hw (cX0 hE) (own := RX11) (ref := RX11) (C := RX11) (T := TX11) (N := 14) hts hiX11 hown rfl 1 (by decide) hk31 (fun _ h9 => h9) rfl dX11_isSetOfRecipes_4 ?_
  refine x_geti hx hb hw (cX4 hE) (own := RX11) (ref := RX8) (C := RX8) (T := TX8) (N := 8) hts hiX8 hown rfl 7 (by decide) hk121 (fun _ h9 => h9) rfl dX11_isSetOfRecipes_7 ?_
  refine lv_ishl hx hb dX11_isSetOfRecipes_10 ?_
  refine lv_iconst (v := 1) hx hb dX11_isSetOfRecipes_11 (by decide) ?_
  refine lv_isub hx hb dX11_isSetOfRecipes_12 ?_
  obtain ⟨r1, σ2, hcl, hf⟩ := xc2_f hf
  refine x_calli (va_runS (As := [.int p0, .int 0, .int ((1 <<< ((σ 4 7) &&& 31)) - 1)]) (rest := []) ⟨hx, hb, hml, hown, hts⟩ (mX11_isWithin hE p0 0 ((1 <<< ((σ 4 7) &&& 31)) - 1) σ r1 σ2 hcl s.heap.size) (va_cwS 3 hts gX11_isSetOfRecipes_X11_isWithin rfl rfl rfl (by decide +kernel) ⟨Nat.le_of_ble_eq_true rfl, Nat.le_of_ble_eq_true rfl⟩) (x_preS _ hw hA hG) rfl rfl hl.1 rfl (lv_room (Nat.le_of_ble_eq_true rfl)) dX11_isSetOfRecipes_13 ⟨Nat.le_of_ble_eq_true rfl, Nat.le_of_ble_eq_true rfl⟩) hw hA (fun H locs hw => ?_)
  clear hcl
  exact x_zret hx hb hr hlk hw hf dX11_isSetOfRecipes_16

def fX11_cleaning (p0 : Int32) (σ : xSt) : Option (xO × xSt) := (xc2 (fX11_isSetOfRecipes p0 σ) fun r1 σ2 => (xct (fX11_needArgument r1 σ2) fun r3 σ4 => (xc (fX9_find p0 σ4) fun σ6 => some ((.inl (σ6 46 3) : xO), σ6))))
abbrev rmX11_cleaning : Room := { frames := 13, cells := 1, slots := 6, locals := 392 }
set_option maxRecDepth 100000 in
set_option maxHeartbeats 4000000 in
theorem mX11_cleaning {l : Launch} (hl0 : l.stackTraces = false) {E : xE} (hE : E.sh = shX) (p0 : Int32) (σ : xSt) (o1 : xO) (o2 : xSt) (hf : fX11_cleaning p0 σ = some (o1, o2)) : xMt l yX11_cleaning wsX11_cleaning rmX11_cleaning E [.ref (E.a 0), .int p0] σ o1 o2 1 := by
  unfold fX11_cleaning at hf
  refine xMt_of (cc := cX11_cleaning) (maxL := 2) (ret := (some .int)) (by decide) rfl (Nat.le_of_ble_eq_true rfl) ?_
  intro p e s m args below meth c A ls ⟨hx, hb, hr, hml, hown, hts, hlk⟩ hA hG hw hl hex
  have hown : s.vm.findClass RX11 = some m.cls := hown
  have hl : lv_has ls 2 [(0, .ref (E.a 0)), (1, .int p0)] := hl
  have hk79 := hts (.fieldLink RX11 79 "OvenRound" "row" "LOvenRound$Row;") (by decide +kernel)
  have hiX11 : ∀ w ∈ wsX110, w ∈ wsX11_cleaning := by decide +kernel
  have hk353 := hts (.fieldLink RX11 353 "OvenRound$Row" "bestPrice" "I") (by decide +kernel)
  have hiX9 : ∀ w ∈ wsX90, w ∈ wsX11_cleaning := by decide +kernel
  refine lv_aload_n hx hb dX11_cleaning_0 rfl (lv_at hl 0 rfl) ?_
  refine lv_iload_n hx hb dX11_cleaning_1 rfl (lv_at hl 1 rfl) ?_
  obtain ⟨r1, σ2, hcl, hf⟩ := xc2_f hf
  refine x_calli (va_runV (As := [.int p0]) (rest := []) ⟨hx, hb, hml, hown, hts⟩ (mX11_isSetOfRecipes hE p0 σ r1 σ2 hcl s.heap.size) (cwV 1 hts gX11_cleaning_X11_isSetOfRecipes rfl rfl rfl (by decide +kernel) ⟨Nat.le_of_ble_eq_true rfl, Nat.le_of_ble_eq_true rfl⟩) (x_preV _ hw hA hG (cX0 hE) rfl) rfl rfl hl.1 rfl (lv_room (Nat.le_of_ble_eq_true rfl)) dX11_cleaning_2 ⟨Nat.le_of_ble_eq_true rfl, Nat.le_of_ble_eq_true rfl⟩) hw hA (fun H locs hw => ?_)
  clear hcl
  rcases xct_e hf with ⟨k5, σ4, hcl, hf⟩ | ⟨r3, σ4, hcl, hf⟩
  · refine x_tcallv (vx_runS (As := [.int r1]) (rest := []) ⟨hx, hb, hml, hown, hts⟩ (mX11_needArgument hl0 r1 σ2 (.inr k5) σ4 hcl H.size) (va_cwS 1 hts gX11_cleaning_X11_needArgument rfl rfl rfl (by decide +kernel) ⟨Nat.le_of_ble_eq_true rfl, Nat.le_of_ble_eq_true rfl⟩) (x_preS _ hw hA hG) rfl rfl hl.1 rfl (lv_room (Nat.le_of_ble_eq_true rfl)) dX11_cleaning_5 ⟨Nat.le_of_ble_eq_true rfl, Nat.le_of_ble_eq_true rfl⟩) hw hA (fun q9 ce H locs h1 h2 h3 hw => ?_) (fun H locs h1 hw => nomatch h1)
    exact x_tout hlk hex h1 h2 h3 hw hf (Nat.le_of_ble_eq_true rfl) (Nat.le_of_ble_eq_true rfl)
  refine x_tcallv (vx_runS (As := [.int r1]) (rest := []) ⟨hx, hb, hml, hown, hts⟩ (mX11_needArgument hl0 r1 σ2 (.inl r3) σ4 hcl H.size) (va_cwS 1 hts gX11_cleaning_X11_needArgument rfl rfl rfl (by decide +kernel) ⟨Nat.le_of_ble_eq_true rfl, Nat.le_of_ble_eq_true rfl⟩) (x_preS _ hw hA hG) rfl rfl hl.1 rfl (lv_room (Nat.le_of_ble_eq_true rfl)) dX11_cleaning_5 ⟨Nat.le_of_ble_eq_true rfl, Nat.le_of_ble_eq_true rfl⟩) hw hA (fun q9 ce H locs h1 h2 h3 hw => by obtain ⟨_, h9, _⟩ := h3; cases h9) (fun H locs h1 hw => ?_)
  clear hcl h1
  refine lv_aload_n hx hb dX11_cleaning_8 rfl (lv_at hl 0 rfl) ?_
  refine x_getr hx hb hw (cX0 hE) (own := RX11) (ref := RX11) (C := RX11) (T := TX11) (N := 14) hts hiX11 hown rfl 9 (by decide) hk79 (fun _ h9 => h9) rfl dX11_cleaning_9 ?_
  refine lv_iload_n hx hb dX11_cleaning_12 rfl (lv_at hl 1 rfl) ?_
  obtain ⟨σ6, hcl, hf⟩ := xc_e hf
  refine x_callv (va_runV (As := [.int p0]) (rest := []) ⟨hx, hb, hml, hown, hts⟩ (mX9_find hE p0 σ4 σ6 hcl H.size) (cwV 1 hts gX11_cleaning_X9_find rfl rfl rfl (by decide +kernel) ⟨Nat.le_of_ble_eq_true rfl, Nat.le_of_ble_eq_true rfl⟩) (x_preV _ hw hA hG (cX46 hE) rfl) rfl rfl hl.1 rfl (lv_room (Nat.le_of_ble_eq_true rfl)) dX11_cleaning_13 ⟨Nat.le_of_ble_eq_true rfl, Nat.le_of_ble_eq_true rfl⟩) hw hA (fun H locs hw => ?_)
  clear hcl
  refine lv_aload_n hx hb dX11_cleaning_16 rfl (lv_at hl 0 rfl) ?_
  refine x_getr hx hb hw (cX0 hE) (own := RX11) (ref := RX11) (C := RX11) (T := TX11) (N := 14) hts hiX11 hown rfl 9 (by decide) hk79 (fun _ h9 => h9) rfl dX11_cleaning_17 ?_
  refine x_geti hx hb hw (cX46 hE) (own := RX11) (ref := RX9) (C := RX9) (T := TX9) (N := 4) hts hiX9 hown rfl 3 (by decide) hk353 (fun _ h9 => h9) rfl dX11_cleaning_20 ?_
  exact x_tiret hx hb hr hlk hw hf (Nat.le_of_ble_eq_true rfl) (Nat.le_of_ble_eq_true rfl) dX11_cleaning_23

def fJ6_bitCount_0f7a4 (p0 : Int32) (σ : xSt) : Option (Int32 × xSt) := (xl (p0 - (((Int32.toUInt32 p0 >>> (Int32.toUInt32 1 &&& Int32.toUInt32 31)).toInt32) &&& 1431655765)) fun v1 => (xl ((v1 &&& 858993459) + (((Int32.toUInt32 v1 >>> (Int32.toUInt32 2 &&& Int32.toUInt32 31)).toInt32) &&& 858993459)) fun v2 => (xl ((v2 + ((Int32.toUInt32 v2 >>> (Int32.toUInt32 4 &&& Int32.toUInt32 31)).toInt32)) &&& 252645135) fun v3 => (xl (v3 + ((Int32.toUInt32 v3 >>> (Int32.toUInt32 8 &&& Int32.toUInt32 31)).toInt32)) fun v4 => (xl (v4 + ((Int32.toUInt32 v4 >>> (Int32.toUInt32 16 &&& Int32.toUInt32 31)).toInt32)) fun v5 => some ((v5 &&& 63), σ))))))
abbrev rmJ6_bitCount_0f7a4 : Room := { frames := 0, cells := 0, slots := 0, locals := 0 }
set_option maxRecDepth 100000 in
set_option maxHeartbeats 4000000 in
theorem mJ6_bitCount_0f7a4 {l : Launch} {E : xE} (p0 : Int32) (σ : xSt) (o1 : Int32) (o2 : xSt) (hf : fJ6_bitCount_0f7a4 p0 σ = some (o1, o2)) : xMi l yJ6_bitCount_0f7a4 wsJ6_bitCount_0f7a4 rmJ6_bitCount_0f7a4 E [.int p0] σ o1 o2 := by
  unfold fJ6_bitCount_0f7a4 at hf
  refine xMi_of (cc := cJ6_bitCount_0f7a4) (maxL := 1) (ret := (some .int)) (by decide) rfl (Nat.le_of_ble_eq_true rfl) ?_
  intro p e s m args below meth c A ls ⟨hx, hb, hr, hml, hown, hts, hlk⟩ hA hG hw hl
  have hown : s.vm.findClass RJ6 = some m.cls := hown
  have hl : lv_has ls 1 [(0, .int p0)] := hl
  refine lv_iload_n hx hb dJ6_bitCount_0f7a4_0 rfl (lv_at hl 0 rfl) ?_
  refine lv_iload_n hx hb dJ6_bitCount_0f7a4_1 rfl (lv_at hl 0 rfl) ?_
  refine lv_iconst (v := 1) hx hb dJ6_bitCount_0f7a4_2 (by decide) ?_
  refine lv_iushr hx hb dJ6_bitCount_0f7a4_3 rfl ?_
  refine lv_ldcw hx hb hown (hts (.constant RJ6 265 (1431655765)) (by decide +kernel)) dJ6_bitCount_0f7a4_4 ?_
  refine lv_iand hx hb dJ6_bitCount_0f7a4_7 ?_
  refine lv_isub hx hb dJ6_bitCount_0f7a4_8 ?_
  refine lv_topi (fun v1 ex => ?_)
  replace hf := xl_f hf v1 ex
  clear ex
  refine lv_istore_n (lv' := [(0, .int v1)]) hx hb dJ6_bitCount_0f7a4_9 rfl hl (by decide) rfl (fun ls hl => ?_)
  refine lv_iload_n hx hb dJ6_bitCount_0f7a4_10 rfl (lv_at hl 0 rfl) ?_
  refine lv_ldcw hx hb hown (hts (.constant RJ6 266 (858993459)) (by decide +kernel)) dJ6_bitCount_0f7a4_11 ?_
  refine lv_iand hx hb dJ6_bitCount_0f7a4_14 ?_
  refine lv_iload_n hx hb dJ6_bitCount_0f7a4_15 rfl (lv_at hl 0 rfl) ?_
  refine lv_iconst (v := 2) hx hb dJ6_bitCount_0f7a4_16 (by decide) ?_
  refine lv_iushr hx hb dJ6_bitCount_0f7a4_17 rfl ?_
  refine lv_ldcw hx hb hown (hts (.constant RJ6 266 (858993459)) (by decide +kernel)) dJ6_bitCount_0f7a4_18 ?_
  refine lv_iand hx hb dJ6_bitCount_0f7a4_21 ?_
  refine lv_iadd hx hb dJ6_bitCount_0f7a4_22 ?_
  refine lv_topi (fun v2 ex => ?_)
  replace hf := xl_f hf v2 ex
  clear ex
  refine lv_istore_n (lv' := [(0, .int v2)]) hx hb dJ6_bitCount_0f7a4_23 rfl hl (by decide) rfl (fun ls hl => ?_)
  refine lv_iload_n hx hb dJ6_bitCount_0f7a4_24 rfl (lv_at hl 0 rfl) ?_
  refine lv_iload_n hx hb dJ6_bitCount_0f7a4_25 rfl (lv_at hl 0 rfl) ?_
  refine lv_iconst (v := 4) hx hb dJ6_bitCount_0f7a4_26 (by decide) ?_
  refine lv_iushr hx hb dJ6_bitCount_0f7a4_27 rfl ?_
  refine lv_iadd hx hb dJ6_bitCount_0f7a4_28 ?_
  refine lv_ldcw hx hb hown (hts (.constant RJ6 267 (252645135)) (by decide +kernel)) dJ6_bitCount_0f7a4_29 ?_
  refine lv_iand hx hb dJ6_bitCount_0f7a4_32 ?_
  refine lv_topi (fun v3 ex => ?_)
  replace hf := xl_f hf v3 ex
  clear ex
  refine lv_istore_n (lv' := [(0, .int v3)]) hx hb dJ6_bitCount_0f7a4_33 rfl hl (by decide) rfl (fun ls hl => ?_)
  refine lv_iload_n hx hb dJ6_bitCount_0f7a4_34 rfl (lv_at hl 0 rfl) ?_
  refine lv_iload_n hx hb dJ6_bitCount_0f7a4_35 rfl (lv_at hl 0 rfl) ?_
  refine lv_bipush (v := 8) hx hb dJ6_bitCount_0f7a4_36 (by decide) ?_
  refine lv_iushr hx hb dJ6_bitCount_0f7a4_38 rfl ?_
  refine lv_iadd hx hb dJ6_bitCount_0f7a4_39 ?_
  refine lv_topi (fun v4 ex => ?_)
  replace hf := xl_f hf v4 ex
  clear ex
  refine lv_istore_n (lv' := [(0, .int v4)]) hx hb dJ6_bitCount_0f7a4_40 rfl hl (by decide) rfl (fun ls hl => ?_)
  refine lv_iload_n hx hb dJ6_bitCount_0f7a4_41 rfl (lv_at hl 0 rfl) ?_
  refine lv_iload_n hx hb dJ6_bitCount_0f7a4_42 rfl (lv_at hl 0 rfl) ?_
  refine lv_bipush (v := 16) hx hb dJ6_bitCount_0f7a4_43 (by decide) ?_
  refine lv_iushr hx hb dJ6_bitCount_0f7a4_45 rfl ?_
  refine lv_iadd hx hb dJ6_bitCount_0f7a4_46 ?_
  refine lv_topi (fun v5 ex => ?_)
  replace hf := xl_f hf v5 ex
  clear ex
  refine lv_istore_n (lv' := [(0, .int v5)]) hx hb dJ6_bitCount_0f7a4_47 rfl hl (by decide) rfl (fun ls hl => ?_)
  refine lv_iload_n hx hb dJ6_bitCount_0f7a4_48 rfl (lv_at hl 0 rfl) ?_
  refine lv_bipush (v := 63) hx hb dJ6_bitCount_0f7a4_49 (by decide) ?_
  refine lv_iand hx hb dJ6_bitCount_0f7a4_51 ?_
  exact x_iret hx hb hr hlk hw hf dJ6_bitCount_0f7a4_52

def fX11_rowAt (p0 : Int32) (p1 : Int32) (σ : xSt) : Option (xO × xSt) := (xc2 (fX11_isSetOfRecipes p0 σ) fun r1 σ2 => (xct (fX11_needArgument r1 σ2) fun r3 σ4 => (xc2 (fJ6_bitCount_0f7a4 p0 σ4) fun r5 σ6 => (xc2 (fX11_isWithin p1 0 (r5 - 1) σ6) fun r7 σ8 => (xct (fX11_needIndex r7 σ8) fun r9 σ10 => (xc (fX9_find p0 σ10) fun σ12 => (xr σ12 48 6 p1 fun v13 => some ((.inl v13 : xO), σ12))))))))
abbrev rmX11_rowAt : Room := { frames := 13, cells := 2, slots := 12, locals := 392 }
set_option maxRecDepth 100000 in
set_option maxHeartbeats 4000000 in
theorem mX11_rowAt {l : Launch} (hl0 : l.stackTraces = false) {E : xE} (hE : E.sh = shX) (p0 : Int32) (p1 : Int32) (σ : xSt) (o1 : xO) (o2 : xSt) (hf : fX11_rowAt p0 p1 σ = some (o1, o2)) : xMt l yX11_rowAt wsX11_rowAt rmX11_rowAt E [.ref (E.a 0), .int p0, .int p1] σ o1 o2 2 := by
  unfold fX11_rowAt at hf
  refine xMt_of (cc := cX11_rowAt) (maxL := 3) (ret := (some .int)) (by decide) rfl (Nat.le_of_ble_eq_true rfl) ?_
  intro p e s m args below meth c A ls ⟨hx, hb, hr, hml, hown, hts, hlk⟩ hA hG hw hl hex
  have hown : s.vm.findClass RX11 = some m.cls := hown
  have hl : lv_has ls 3 [(0, .ref (E.a 0)), (1, .int p0), (2, .int p1)] := hl
  have hk79 := hts (.fieldLink RX11 79 "OvenRound" "row" "LOvenRound$Row;") (by decide +kernel)
  have hiX11 : ∀ w ∈ wsX110, w ∈ wsX11_rowAt := by decide +kernel
  have hk361 := hts (.fieldLink RX11 361 "OvenRound$Row" "best" "[I") (by decide +kernel)
  have hiX9 : ∀ w ∈ wsX90, w ∈ wsX11_rowAt := by decide +kernel
  refine lv_aload_n hx hb dX11_rowAt_0 rfl (lv_at hl 0 rfl) ?_
  refine lv_iload_n hx hb dX11_rowAt_1 rfl (lv_at hl 1 rfl) ?_
  obtain ⟨r1, σ2, hcl, hf⟩ := xc2_f hf
  refine x_calli (va_runV (As := [.int p0]) (rest := []) ⟨hx, hb, hml, hown, hts⟩ (mX11_isSetOfRecipes hE p0 σ r1 σ2 hcl s.heap.size) (cwV 1 hts gX11_rowAt_X11_isSetOfRecipes rfl rfl rfl (by decide +kernel) ⟨Nat.le_of_ble_eq_true rfl, Nat.le_of_ble_eq_true rfl⟩) (x_preV _ hw hA hG (cX0 hE) rfl) rfl rfl hl.1 rfl (lv_room (Nat.le_of_ble_eq_true rfl)) dX11_rowAt_2 ⟨Nat.le_of_ble_eq_true rfl, Nat.le_of_ble_eq_true rfl⟩) hw hA (fun H locs hw => ?_)
  clear hcl
  rcases xct_e hf with ⟨k5, σ4, hcl, hf⟩ | ⟨r3, σ4, hcl, hf⟩
  · refine x_tcallv (vx_runS (As := [.int r1]) (rest := []) ⟨hx, hb, hml, hown, hts⟩ (mX11_needArgument hl0 r1 σ2 (.inr k5) σ4 hcl H.size) (va_cwS 1 hts gX11_rowAt_X11_needArgument rfl rfl rfl (by decide +kernel) ⟨Nat.le_of_ble_eq_true rfl, Nat.le_of_ble_eq_true rfl⟩) (x_preS _ hw hA hG) rfl rfl hl.1 rfl (lv_room (Nat.le_of_ble_eq_true rfl)) dX11_rowAt_5 ⟨Nat.le_of_ble_eq_true rfl, Nat.le_of_ble_eq_true rfl⟩) hw hA (fun q9 ce H locs h1 h2 h3 hw => ?_) (fun H locs h1 hw => nomatch h1)
    exact x_tout hlk hex h1 h2 h3 hw hf (Nat.le_of_ble_eq_true rfl) (Nat.le_of_ble_eq_true rfl)
  refine x_tcallv (vx_runS (As := [.int r1]) (rest := []) ⟨hx, hb, hml, hown, hts⟩ (mX11_needArgument hl0 r1 σ2 (.inl r3) σ4 hcl H.size) (va_cwS 1 hts gX11_rowAt_X11_needArgument rfl rfl rfl (by decide +kernel) ⟨Nat.le_of_ble_eq_true rfl, Nat.le_of_ble_eq_true rfl⟩) (x_preS _ hw hA hG) rfl rfl hl.1 rfl (lv_room (Nat.le_of_ble_eq_true rfl)) dX11_rowAt_5 ⟨Nat.le_of_ble_eq_true rfl, Nat.le_of_ble_eq_true rfl⟩) hw hA (fun q9 ce H locs h1 h2 h3 hw => by obtain ⟨_, h9, _⟩ := h3; cases h9) (fun H locs h1 hw => ?_)
  clear hcl h1
  refine lv_iload_n hx hb dX11_rowAt_8 rfl (lv_at hl 2 rfl) ?_
  refine lv_iconst (v := 0) hx hb dX11_rowAt_9 (by decide) ?_
  refine lv_iload_n hx hb dX11_rowAt_10 rfl (lv_at hl 1 rfl) ?_
  obtain ⟨r5, σ6, hcl, hf⟩ := xc2_f hf
  refine x_calli (va_runS (As := [.int p0]) (rest := [.int 0, .int p1]) ⟨hx, hb, hml, hown, hts⟩ (mJ6_bitCount_0f7a4 p0 σ4 r5 σ6 hcl H.size) (va_cwS 1 hts gX11_rowAt_J6_bitCount_0f7a4 rfl rfl rfl (by decide +kernel) ⟨Nat.le_of_ble_eq_true rfl, Nat.le_of_ble_eq_true rfl⟩) (x_preS _ hw hA hG) rfl rfl hl.1 rfl (lv_room (Nat.le_of_ble_eq_true rfl)) dX11_rowAt_11 ⟨Nat.le_of_ble_eq_true rfl, Nat.le_of_ble_eq_true rfl⟩) hw hA (fun H locs hw => ?_)
  clear hcl
  refine lv_iconst (v := 1) hx hb dX11_rowAt_14 (by decide) ?_
  refine lv_isub hx hb dX11_rowAt_15 ?_
  obtain ⟨r7, σ8, hcl, hf⟩ := xc2_f hf
  refine x_calli (va_runS (As := [.int p1, .int 0, .int (r5 - 1)]) (rest := []) ⟨hx, hb, hml, hown, hts⟩ (mX11_isWithin hE p1 0 (r5 - 1) σ6 r7 σ8 hcl H.size) (va_cwS 3 hts gX11_rowAt_X11_isWithin rfl rfl rfl (by decide +kernel) ⟨Nat.le_of_ble_eq_true rfl, Nat.le_of_ble_eq_true rfl⟩) (x_preS _ hw hA hG) rfl rfl hl.1 rfl (lv_room (Nat.le_of_ble_eq_true rfl)) dX11_rowAt_16 ⟨Nat.le_of_ble_eq_true rfl, Nat.le_of_ble_eq_true rfl⟩) hw hA (fun H locs hw => ?_)
  clear hcl
  rcases xct_e hf with ⟨k19, σ10, hcl, hf⟩ | ⟨r9, σ10, hcl, hf⟩
  · refine x_tcallv (vx_runS (As := [.int r7]) (rest := []) ⟨hx, hb, hml, hown, hts⟩ (mX11_needIndex hl0 r7 σ8 (.inr k19) σ10 hcl H.size) (va_cwS 1 hts gX11_rowAt_X11_needIndex rfl rfl rfl (by decide +kernel) ⟨Nat.le_of_ble_eq_true rfl, Nat.le_of_ble_eq_true rfl⟩) (x_preS _ hw hA hG) rfl rfl hl.1 rfl (lv_room (Nat.le_of_ble_eq_true rfl)) dX11_rowAt_19 ⟨Nat.le_of_ble_eq_true rfl, Nat.le_of_ble_eq_true rfl⟩) hw hA (fun q9 ce H locs h1 h2 h3 hw => ?_) (fun H locs h1 hw => nomatch h1)
    exact x_tout hlk hex h1 h2 h3 hw hf (Nat.le_of_ble_eq_true rfl) (Nat.le_of_ble_eq_true rfl)
  refine x_tcallv (vx_runS (As := [.int r7]) (rest := []) ⟨hx, hb, hml, hown, hts⟩ (mX11_needIndex hl0 r7 σ8 (.inl r9) σ10 hcl H.size) (va_cwS 1 hts gX11_rowAt_X11_needIndex rfl rfl rfl (by decide +kernel) ⟨Nat.le_of_ble_eq_true rfl, Nat.le_of_ble_eq_true rfl⟩) (x_preS _ hw hA hG) rfl rfl hl.1 rfl (lv_room (Nat.le_of_ble_eq_true rfl)) dX11_rowAt_19 ⟨Nat.le_of_ble_eq_true rfl, Nat.le_of_ble_eq_true rfl⟩) hw hA (fun q9 ce H locs h1 h2 h3 hw => by obtain ⟨_, h9, _⟩ := h3; cases h9) (fun H locs h1 hw => ?_)
  clear hcl h1
  refine lv_aload_n hx hb dX11_rowAt_22 rfl (lv_at hl 0 rfl) ?_
  refine x_getr hx hb hw (cX0 hE) (own := RX11) (ref := RX11) (C := RX11) (T := TX11) (N := 14) hts hiX11 hown rfl 9 (by decide) hk79 (fun _ h9 => h9) rfl dX11_rowAt_23 ?_
  refine lv_iload_n hx hb dX11_rowAt_26 rfl (lv_at hl 1 rfl) ?_
  obtain ⟨σ12, hcl, hf⟩ := xc_e hf
  refine x_callv (va_runV (As := [.int p0]) (rest := []) ⟨hx, hb, hml, hown, hts⟩ (mX9_find hE p0 σ10 σ12 hcl H.size) (cwV 1 hts gX11_rowAt_X9_find rfl rfl rfl (by decide +kernel) ⟨Nat.le_of_ble_eq_true rfl, Nat.le_of_ble_eq_true rfl⟩) (x_preV _ hw hA hG (cX46 hE) rfl) rfl rfl hl.1 rfl (lv_room (Nat.le_of_ble_eq_true rfl)) dX11_rowAt_27 ⟨Nat.le_of_ble_eq_true rfl, Nat.le_of_ble_eq_true rfl⟩) hw hA (fun H locs hw => ?_)
  clear hcl
  refine lv_aload_n hx hb dX11_rowAt_30 rfl (lv_at hl 0 rfl) ?_
  refine x_getr hx hb hw (cX0 hE) (own := RX11) (ref := RX11) (C := RX11) (T := TX11) (N := 14) hts hiX11 hown rfl 9 (by decide) hk79 (fun _ h9 => h9) rfl dX11_rowAt_31 ?_
  refine x_getr hx hb hw (cX46 hE) (own := RX11) (ref := RX9) (C := RX9) (T := TX9) (N := 4) hts hiX9 hown rfl 2 (by decide) hk361 (fun _ h9 => h9) rfl dX11_rowAt_34 ?_
  refine lv_iload_n hx hb dX11_rowAt_37 rfl (lv_at hl 2 rfl) ?_
  obtain ⟨hin, hf⟩ := xr_f hf
  refine x_iald hx hb hw (cX48 hE) hin dX11_rowAt_38 ?_
  refine lv_topi (fun v13 ex => ?_)
  replace hf := hf v13 ex
  clear ex hin
  exact x_tiret hx hb hr hlk hw hf (Nat.le_of_ble_eq_true rfl) (Nat.le_of_ble_eq_true rfl) dX11_rowAt_39

def fX11_gramsInBreads_c4 : Nat → Int32 → Int32 → xSt → Option (Int32 × xSt)
  | 0 => fun _ _ _ => none
  | n + 1 => fun a1 a2 σ => (if (σ 4 7) ≤ a2 then some (a1, σ) else (xc2 (fX0_from a2 0 σ) fun r1 σ2 => (xr σ2 5 6 a2 fun v3 => (xl (a1 + (r1 * v3)) fun v4 => (xl (a2 + 1) fun v5 => fX11_gramsInBreads_c4 n v4 v5 σ2)))))
theorem fX11_gramsInBreads_c4_s (n : Nat) (a1 : Int32) (a2 : Int32) (σ : xSt) : fX11_gramsInBreads_c4 (n + 1) a1 a2 σ = ((if (σ 4 7) ≤ a2 then some (a1, σ) else (xc2 (fX0_from a2 0 σ) fun r1 σ2 => (xr σ2 5 6 a2 fun v3 => (xl (a1 + (r1 * v3)) fun v4 => (xl (a2 + 1) fun v5 => fX11_gramsInBreads_c4 n v4 v5 σ2))))) : Option (Int32 × xSt)) := rfl
def fX11_gramsInBreads (σ : xSt) : Option (Int32 × xSt) := fX11_gramsInBreads_c4 xFU 0 0 σ
abbrev rmX11_gramsInBreads : Room := { frames := 1, cells := 0, slots := 0, locals := 24 }
set_option maxRecDepth 100000 in
set_option maxHeartbeats 4000000 in
theorem mX11_gramsInBreads {l : Launch} {E : xE} (hE : E.sh = shX) (σ : xSt) (o1 : Int32) (o2 : xSt) (hf : fX11_gramsInBreads σ = some (o1, o2)) : xMi l yX11_gramsInBreads wsX11_gramsInBreads rmX11_gramsInBreads E [.ref (E.a 0)] σ o1 o2 := by
  unfold fX11_gramsInBreads at hf
  refine xMi_of (cc := cX11_gramsInBreads) (maxL := 3) (ret := (some .int)) (by decide) rfl (Nat.le_of_ble_eq_true rfl) ?_
  intro p e s m args below meth c A ls ⟨hx, hb, hr, hml, hown, hts, hlk⟩ hA hG hw hl
  have hown : s.vm.findClass RX11 = some m.cls := hown
  have hl : lv_has ls 3 [(0, .ref (E.a 0))] := hl
  have hk31 := hts (.fieldLink RX11 31 "OvenRound" "recipes" "LOvenRound$Recipes;") (by decide +kernel)
  have hiX11 : ∀ w ∈ wsX110, w ∈ wsX11_gramsInBreads := by decide +kernel
  have hk121 := hts (.fieldLink RX11 121 "OvenRound$Recipes" "count" "I") (by decide +kernel)
  have hiX8 : ∀ w ∈ wsX80, w ∈ wsX11_gramsInBreads := by decide +kernel
  have hk55 := hts (.fieldLink RX11 55 "OvenRound" "breads" "LOvenRound$Breads;") (by decide +kernel)
  have hk124 := hts (.fieldLink RX11 124 "OvenRound$Recipes" "piece" "[I") (by decide +kernel)
  have h4 : ∀ (n : Nat) (a1 : Int32) (a2 : Int32) (σ : xSt) (H : Heap) (locs : List Loc) (ls : Array Slot), xw E A s.heap s σ H locs → lv_has ls 3 [(0, .ref (E.a 0)), (1, .int a1), (2, .int a2)] → fX11_gramsInBreads_c4 n a1 a2 σ = some (o1, o2) → W p l e rmX11_gramsInBreads s m args below meth c H locs 0 0 (MQ below (xQi E A o1 o2) args s 0 0 A) (F0 m 4 ls []) := by
    intro n4
    induction n4 with
    | zero => intro a1 a2 σ H locs ls hw hl hf; exact nomatch hf
    | succ n4 ih4 =>
      intro a1 a2 σ H locs ls hw hl hf
      rw [fX11_gramsInBreads_c4_s] at hf
      refine lv_iload_n hx hb dX11_gramsInBreads_4 rfl (lv_at hl 2 rfl) ?_
      refine lv_aload_n hx hb dX11_gramsInBreads_5 rfl (lv_at hl 0 rfl) ?_
      refine x_getr hx hb hw (cX0 hE) (own := RX11) (ref := RX11) (C := RX11) (T := TX11) (N := 14) hts hiX11 hown rfl 1 (by decide) hk31 (fun _ h9 => h9) rfl dX11_gramsInBreads_6 ?_
      refine x_geti hx hb hw (cX4 hE) (own := RX11) (ref := RX8) (C := RX8) (T := TX8) (N := 8) hts hiX8 hown rfl 7 (by decide) hk121 (fun _ h9 => h9) rfl dX11_gramsInBreads_9 ?_
      refine lv_icmp_ge (tgt := 43) hx hb dX11_gramsInBreads_12 (by decide) (fun c12 => ?_) (fun c12 => ?_)
      · replace hf := xif_pos c12 hf
        refine lv_iload_n hx hb dX11_gramsInBreads_43 rfl (lv_at hl 1 rfl) ?_
        exact x_iret hx hb hr hlk hw hf dX11_gramsInBreads_44
      · replace hf := xif_neg c12 hf
        refine lv_iload_n hx hb dX11_gramsInBreads_15 rfl (lv_at hl 1 rfl) ?_
        refine lv_aload_n hx hb dX11_gramsInBreads_16 rfl (lv_at hl 0 rfl) ?_
        refine x_getr hx hb hw (cX0 hE) (own := RX11) (ref := RX11) (C := RX11) (T := TX11) (N := 14) hts hiX11 hown rfl 5 (by decide) hk55 (fun _ h9 => h9) rfl dX11_gramsInBreads_17 ?_
        refine lv_iload_n hx hb dX11_gramsInBreads_20 rfl (lv_at hl 2 rfl) ?_
        refine lv_iconst (v := 0) hx hb dX11_gramsInBreads_21 (by decide) ?_
        obtain ⟨r1, σ2, hcl, hf⟩ := xc2_f hf
        refine x_calli (va_runV (As := [.int a2, .int 0]) (rest := [.int a1]) ⟨hx, hb, hml, hown, hts⟩ (mX0_from hE a2 0 σ r1 σ2 hcl H.size) (cwV 2 hts gX11_gramsInBreads_X0_from rfl rfl rfl (by decide +kernel) ⟨Nat.le_of_ble_eq_true rfl, Nat.le_of_ble_eq_true rfl⟩) (x_preV _ hw hA hG (cX27 hE) rfl) rfl rfl hl.1 rfl (lv_room (Nat.le_of_ble_eq_true rfl)) dX11_gramsInBreads_22 ⟨Nat.le_of_ble_eq_true rfl, Nat.le_of_ble_eq_true rfl⟩) hw hA (fun H locs hw => ?_)
        clear hcl
        refine lv_aload_n hx hb dX11_gramsInBreads_25 rfl (lv_at hl 0 rfl) ?_
        refine x_getr hx hb hw (cX0 hE) (own := RX11) (ref := RX11) (C := RX11) (T := TX11) (N := 14) hts hiX11 hown rfl 1 (by decide) hk31 (fun _ h9 => h9) rfl dX11_gramsInBreads_26 ?_
        refine x_getr hx hb hw (cX4 hE) (own := RX11) (ref := RX8) (C := RX8) (T := TX8) (N := 8) hts hiX8 hown rfl 0 (by decide) hk124 (fun _ h9 => h9) rfl dX11_gramsInBreads_29 ?_
        refine lv_iload_n hx hb dX11_gramsInBreads_32 rfl (lv_at hl 2 rfl) ?_
        obtain ⟨hin, hf⟩ := xr_f hf
        refine x_iald hx hb hw (cX5 hE) hin dX11_gramsInBreads_33 ?_
        refine lv_topi (fun v3 ex => ?_)
        replace hf := hf v3 ex
        clear ex hin
        refine lv_imul hx hb dX11_gramsInBreads_34 ?_
        refine lv_iadd hx hb dX11_gramsInBreads_35 ?_
        refine lv_topi (fun v4 ex => ?_)
        replace hf := xl_f hf v4 ex
        clear ex
        refine lv_istore_n (lv' := [(1, .int v4), (0, .ref (E.a 0)), (2, .int a2)]) hx hb dX11_gramsInBreads_36 rfl hl (by decide) rfl (fun ls hl => ?_)
        obtain ⟨v5, ex⟩ : ∃ y : Int32, y = (a2 + 1) := ⟨_, rfl⟩
        replace hf := xl_f hf v5 ex
        refine lv_iinc (v := v5) (lv' := [(2, .int v5), (1, .int v4), (0, .ref (E.a 0))]) hx hb dX11_gramsInBreads_37 hl (k := 2) rfl (by rw [ex]; rfl) (by decide) rfl (fun ls hl => ?_)
        clear ex
        refine lv_goto (tgt := 4) hx hb dX11_gramsInBreads_40 (by decide) ?_
        exact ih4 v4 v5 σ2 _ _ _ hw (lv_sub hl [2, 1, 0] rfl) hf
  refine lv_iconst (v := 0) hx hb dX11_gramsInBreads_0 (by decide) ?_
  refine lv_istore_n (lv' := [(1, .int 0), (0, .ref (E.a 0))]) hx hb dX11_gramsInBreads_1 rfl hl (by decide) rfl (fun ls hl => ?_)
  refine lv_iconst (v := 0) hx hb dX11_gramsInBreads_2 (by decide) ?_
  refine lv_istore_n (lv' := [(2, .int 0), (1, .int 0), (0, .ref (E.a 0))]) hx hb dX11_gramsInBreads_3 rfl hl (by decide) rfl (fun ls hl => ?_)
  exact h4 xFU 0 0 σ _ _ _ hw (lv_sub hl [2, 1, 0] rfl) hf

def fX11_book (p0 : Int32) (σ : xSt) : Option (xO × xSt) := (xc2 (fX11_isWithin p0 0 6 σ) fun r1 σ2 => (xct (fX11_needArgument r1 σ2) fun r3 σ4 => (if p0 = 0 then some ((.inl (σ4 2 1) : xO), σ4) else (if p0 = 1 then some ((.inl (σ4 2 2) : xO), σ4) else (if p0 = 2 then some ((.inl (σ4 2 3) : xO), σ4) else (if p0 = 3 then (xc2 (fX10_allGrams σ4) fun r5 σ6 => some ((.inl r5 : xO), σ6)) else (if p0 = 4 then (xc2 (fX2_gramsIn 0 σ4) fun r7 σ8 => (xc2 (fX2_gramsIn 1 σ8) fun r9 σ10 => some ((.inl (r7 + r9) : xO), σ10))) else (if p0 = 5 then (xc2 (fX2_gramsIn 2 σ4) fun r11 σ12 => some ((.inl r11 : xO), σ12)) else (xc2 (fX11_gramsInBreads σ4) fun r13 σ14 => some ((.inl r13 : xO), σ14))))))))))
abbrev rmX11_book : Room := { frames := 7, cells := 1, slots := 6, locals := 110 }
set_option maxRecDepth 100000 in
set_option maxHeartbeats 4000000 in
theorem mX11_book {l : Launch} (hl0 : l.stackTraces = false) {E : xE} (hE : E.sh = shX) (p0 : Int32) (σ : xSt) (o1 : xO) (o2 : xSt) (hf : fX11_book p0 σ = some (o1, o2)) : xMt l yX11_book wsX11_book rmX11_book E [.ref (E.a 0), .int p0] σ o1 o2 1 := by
  unfold fX11_book at hf
  refine xMt_of (cc := cX11_book) (maxL := 2) (ret := (some .int)) (by decide) rfl (Nat.le_of_ble_eq_true rfl) ?_
  intro p e s m args below meth c A ls ⟨hx, hb, hr, hml, hown, hts, hlk⟩ hA hG hw hl hex
  have hown : s.vm.findClass RX11 = some m.cls := hown
  have hl : lv_has ls 2 [(0, .ref (E.a 0)), (1, .int p0)] := hl
  have hk24 := hts (.fieldLink RX11 24 "OvenRound" "store" "LOvenRound$Store;") (by decide +kernel)
  have hiX11 : ∀ w ∈ wsX110, w ∈ wsX11_book := by decide +kernel
  have hk117 := hts (.fieldLink RX11 117 "OvenRound$Store" "cameIn" "I") (by decide +kernel)
  have hiX10 : ∀ w ∈ wsX100, w ∈ wsX11_book := by decide +kernel
  have hk266 := hts (.fieldLink RX11 266 "OvenRound$Store" "sold" "I") (by decide +kernel)
  have hk229 := hts (.fieldLink RX11 229 "OvenRound$Store" "thrown" "I") (by decide +kernel)
  have hk36 := hts (.fieldLink RX11 36 "OvenRound" "doughs" "LOvenRound$Doughs;") (by decide +kernel)
  refine lv_iload_n hx hb dX11_book_0 rfl (lv_at hl 1 rfl) ?_
  refine lv_iconst (v := 0) hx hb dX11_book_1 (by decide) ?_
  refine lv_bipush (v := 6) hx hb dX11_book_2 (by decide) ?_
  obtain ⟨r1, σ2, hcl, hf⟩ := xc2_f hf
  refine x_calli (va_runS (As := [.int p0, .int 0, .int 6]) (rest := []) ⟨hx, hb, hml, hown, hts⟩ (mX11_isWithin hE p0 0 6 σ r1 σ2 hcl s.heap.size) (va_cwS 3 hts gX11_book_X11_isWithin rfl rfl rfl (by decide +kernel) ⟨Nat.le_of_ble_eq_true rfl, Nat.le_of_ble_eq_true rfl⟩) (x_preS _ hw hA hG) rfl rfl hl.1 rfl (lv_room (Nat.le_of_ble_eq_true rfl)) dX11_book_4 ⟨Nat.le_of_ble_eq_true rfl, Nat.le_of_ble_eq_true rfl⟩) hw hA (fun H locs hw => ?_)
  clear hcl
  rcases xct_e hf with ⟨k7, σ4, hcl, hf⟩ | ⟨r3, σ4, hcl, hf⟩
  · refine x_tcallv (vx_runS (As := [.int r1]) (rest := []) ⟨hx, hb, hml, hown, hts⟩ (mX11_needArgument hl0 r1 σ2 (.inr k7) σ4 hcl H.size) (va_cwS 1 hts gX11_book_X11_needArgument rfl rfl rfl (by decide +kernel) ⟨Nat.le_of_ble_eq_true rfl, Nat.le_of_ble_eq_true rfl⟩) (x_preS _ hw hA hG) rfl rfl hl.1 rfl (lv_room (Nat.le_of_ble_eq_true rfl)) dX11_book_7 ⟨Nat.le_of_ble_eq_true rfl, Nat.le_of_ble_eq_true rfl⟩) hw hA (fun q9 ce H locs h1 h2 h3 hw => ?_) (fun H locs h1 hw => nomatch h1)
    exact x_tout hlk hex h1 h2 h3 hw hf (Nat.le_of_ble_eq_true rfl) (Nat.le_of_ble_eq_true rfl)
  refine x_tcallv (vx_runS (As := [.int r1]) (rest := []) ⟨hx, hb, hml, hown, hts⟩ (mX11_needArgument hl0 r1 σ2 (.inl r3) σ4 hcl H.size) (va_cwS 1 hts gX11_book_X11_needArgument rfl rfl rfl (by decide +kernel) ⟨Nat.le_of_ble_eq_true rfl, Nat.le_of_ble_eq_true rfl⟩) (x_preS _ hw hA hG) rfl rfl hl.1 rfl (lv_room (Nat.le_of_ble_eq_true rfl)) dX11_book_7 ⟨Nat.le_of_ble_eq_true rfl, Nat.le_of_ble_eq_true rfl⟩) hw hA (fun q9 ce H locs h1 h2 h3 hw => by obtain ⟨_, h9, _⟩ := h3; cases h9) (fun H locs h1 hw => ?_)
  clear hcl h1
  refine lv_iload_n hx hb dX11_book_10 rfl (lv_at hl 1 rfl) ?_
  by_cases c11_0 : p0 = 0
  · replace hf := xif_pos c11_0 hf
    refine lv_tableIn (off := 37) (tgt := 48) hx hb dX11_book_11 (by rw [c11_0]; decide) (by rw [c11_0]; decide) (by rw [c11_0]; rfl) (by decide) ?_
    refine lv_aload_n hx hb dX11_book_48 rfl (lv_at hl 0 rfl) ?_
    refine x_getr hx hb hw (cX0 hE) (own := RX11) (ref := RX11) (C := RX11) (T := TX11) (N := 14) hts hiX11 hown rfl 0 (by decide) hk24 (fun _ h9 => h9) rfl dX11_book_49 ?_
    refine x_geti hx hb hw (cX2 hE) (own := RX11) (ref := RX10) (C := RX10) (T := TX10) (N := 4) hts hiX10 hown rfl 1 (by decide) hk117 (fun _ h9 => h9) rfl dX11_book_52 ?_
    exact x_tiret hx hb hr hlk hw hf (Nat.le_of_ble_eq_true rfl) (Nat.le_of_ble_eq_true rfl) dX11_book_55
  · replace hf := xif_neg c11_0 hf
    by_cases c11_1 : p0 = 1
    · replace hf := xif_pos c11_1 hf
      refine lv_tableIn (off := 45) (tgt := 56) hx hb dX11_book_11 (by rw [c11_1]; decide) (by rw [c11_1]; decide) (by rw [c11_1]; rfl) (by decide) ?_
      refine lv_aload_n hx hb dX11_book_56 rfl (lv_at hl 0 rfl) ?_
      refine x_getr hx hb hw (cX0 hE) (own := RX11) (ref := RX11) (C := RX11) (T := TX11) (N := 14) hts hiX11 hown rfl 0 (by decide) hk24 (fun _ h9 => h9) rfl dX11_book_57 ?_
      refine x_geti hx hb hw (cX2 hE) (own := RX11) (ref := RX10) (C := RX10) (T := TX10) (N := 4) hts hiX10 hown rfl 2 (by decide) hk266 (fun _ h9 => h9) rfl dX11_book_60 ?_
      exact x_tiret hx hb hr hlk hw hf (Nat.le_of_ble_eq_true rfl) (Nat.le_of_ble_eq_true rfl) dX11_book_63
    · replace hf := xif_neg c11_1 hf
      by_cases c11_2 : p0 = 2
      · replace hf := xif_pos c11_2 hf
        refine lv_tableIn (off := 53) (tgt := 64) hx hb dX11_book_11 (by rw [c11_2]; decide) (by rw [c11_2]; decide) (by rw [c11_2]; rfl) (by decide) ?_
        refine lv_aload_n hx hb dX11_book_64 rfl (lv_at hl 0 rfl) ?_
        refine x_getr hx hb hw (cX0 hE) (own := RX11) (ref := RX11) (C := RX11) (T := TX11) (N := 14) hts hiX11 hown rfl 0 (by decide) hk24 (fun _ h9 => h9) rfl dX11_book_65 ?_
        refine x_geti hx hb hw (cX2 hE) (own := RX11) (ref := RX10) (C := RX10) (T := TX10) (N := 4) hts hiX10 hown rfl 3 (by decide) hk229 (fun _ h9 => h9) rfl dX11_book_68 ?_
        exact x_tiret hx hb hr hlk hw hf (Nat.le_of_ble_eq_true rfl) (Nat.le_of_ble_eq_true rfl) dX11_book_71
      · replace hf := xif_neg c11_2 hf
        by_cases c11_3 : p0 = 3
        · replace hf := xif_pos c11_3 hf
          refine lv_tableIn (off := 61) (tgt := 72) hx hb dX11_book_11 (by rw [c11_3]; decide) (by rw [c11_3]; decide) (by rw [c11_3]; rfl) (by decide) ?_
          refine lv_aload_n hx hb dX11_book_72 rfl (lv_at hl 0 rfl) ?_
          refine x_getr hx hb hw (cX0 hE) (own := RX11) (ref := RX11) (C := RX11) (T := TX11) (N := 14) hts hiX11 hown rfl 0 (by decide) hk24 (fun _ h9 => h9) rfl dX11_book_73 ?_
          obtain ⟨r5, σ6, hcl, hf⟩ := xc2_f hf
          refine x_calli (va_runV (As := []) (rest := []) ⟨hx, hb, hml, hown, hts⟩ (mX10_allGrams hE σ4 r5 σ6 hcl H.size) (cwV 0 hts gX11_book_X10_allGrams rfl rfl rfl (by decide +kernel) ⟨Nat.le_of_ble_eq_true rfl, Nat.le_of_ble_eq_true rfl⟩) (x_preV _ hw hA hG (cX2 hE) rfl) rfl rfl hl.1 rfl (lv_room (Nat.le_of_ble_eq_true rfl)) dX11_book_76 ⟨Nat.le_of_ble_eq_true rfl, Nat.le_of_ble_eq_true rfl⟩) hw hA (fun H locs hw => ?_)
          clear hcl
          exact x_tiret hx hb hr hlk hw hf (Nat.le_of_ble_eq_true rfl) (Nat.le_of_ble_eq_true rfl) dX11_book_79
        · replace hf := xif_neg c11_3 hf
          by_cases c11_4 : p0 = 4
          · replace hf := xif_pos c11_4 hf
            refine lv_tableIn (off := 69) (tgt := 80) hx hb dX11_book_11 (by rw [c11_4]; decide) (by rw [c11_4]; decide) (by rw [c11_4]; rfl) (by decide) ?_
            refine lv_aload_n hx hb dX11_book_80 rfl (lv_at hl 0 rfl) ?_
            refine x_getr hx hb hw (cX0 hE) (own := RX11) (ref := RX11) (C := RX11) (T := TX11) (N := 14) hts hiX11 hown rfl 2 (by decide) hk36 (fun _ h9 => h9) rfl dX11_book_81 ?_
            refine lv_iconst (v := 0) hx hb dX11_book_84 (by decide) ?_
            obtain ⟨r7, σ8, hcl, hf⟩ := xc2_f hf
            refine x_calli (va_runV (As := [.int 0]) (rest := []) ⟨hx, hb, hml, hown, hts⟩ (mX2_gramsIn hE 0 σ4 r7 σ8 hcl H.size) (cwV 1 hts gX11_book_X2_gramsIn rfl rfl rfl (by decide +kernel) ⟨Nat.le_of_ble_eq_true rfl, Nat.le_of_ble_eq_true rfl⟩) (x_preV _ hw hA hG (cX12 hE) rfl) rfl rfl hl.1 rfl (lv_room (Nat.le_of_ble_eq_true rfl)) dX11_book_85 ⟨Nat.le_of_ble_eq_true rfl, Nat.le_of_ble_eq_true rfl⟩) hw hA (fun H locs hw => ?_)
            clear hcl
            refine lv_aload_n hx hb dX11_book_88 rfl (lv_at hl 0 rfl) ?_
            refine x_getr hx hb hw (cX0 hE) (own := RX11) (ref := RX11) (C := RX11) (T := TX11) (N := 14) hts hiX11 hown rfl 2 (by decide) hk36 (fun _ h9 => h9) rfl dX11_book_89 ?_
            refine lv_iconst (v := 1) hx hb dX11_book_92 (by decide) ?_
            obtain ⟨r9, σ10, hcl, hf⟩ := xc2_f hf
            refine x_calli (va_runV (As := [.int 1]) (rest := [.int r7]) ⟨hx, hb, hml, hown, hts⟩ (mX2_gramsIn hE 1 σ8 r9 σ10 hcl H.size) (cwV 1 hts gX11_book_X2_gramsIn rfl rfl rfl (by decide +kernel) ⟨Nat.le_of_ble_eq_true rfl, Nat.le_of_ble_eq_true rfl⟩) (x_preV _ hw hA hG (cX12 hE) rfl) rfl rfl hl.1 rfl (lv_room (Nat.le_of_ble_eq_true rfl)) dX11_book_93 ⟨Nat.le_of_ble_eq_true rfl, Nat.le_of_ble_eq_true rfl⟩) hw hA (fun H locs hw => ?_)
            clear hcl
            refine lv_iadd hx hb dX11_book_96 ?_
            exact x_tiret hx hb hr hlk hw hf (Nat.le_of_ble_eq_true rfl) (Nat.le_of_ble_eq_true rfl) dX11_book_97
          · replace hf := xif_neg c11_4 hf
            by_cases c11_5 : p0 = 5
            · replace hf := xif_pos c11_5 hf
              refine lv_tableIn (off := 87) (tgt := 98) hx hb dX11_book_11 (by rw [c11_5]; decide) (by rw [c11_5]; decide) (by rw [c11_5]; rfl) (by decide) ?_
              refine lv_aload_n hx hb dX11_book_98 rfl (lv_at hl 0 rfl) ?_
              refine x_getr hx hb hw (cX0 hE) (own := RX11) (ref := RX11) (C := RX11) (T := TX11) (N := 14) hts hiX11 hown rfl 2 (by decide) hk36 (fun _ h9 => h9) rfl dX11_book_99 ?_
              refine lv_iconst (v := 2) hx hb dX11_book_102 (by decide) ?_
              obtain ⟨r11, σ12, hcl, hf⟩ := xc2_f hf
              refine x_calli (va_runV (As := [.int 2]) (rest := []) ⟨hx, hb, hml, hown, hts⟩ (mX2_gramsIn hE 2 σ4 r11 σ12 hcl H.size) (cwV 1 hts gX11_book_X2_gramsIn rfl rfl rfl (by decide +kernel) ⟨Nat.le_of_ble_eq_true rfl, Nat.le_of_ble_eq_true rfl⟩) (x_preV _ hw hA hG (cX12 hE) rfl) rfl rfl hl.1 rfl (lv_room (Nat.le_of_ble_eq_true rfl)) dX11_book_103 ⟨Nat.le_of_ble_eq_true rfl, Nat.le_of_ble_eq_true rfl⟩) hw hA (fun H locs hw => ?_)
              clear hcl
              exact x_tiret hx hb hr hlk hw hf (Nat.le_of_ble_eq_true rfl) (Nat.le_of_ble_eq_true rfl) dX11_book_106
            · replace hf := xif_neg c11_5 hf
              refine lv_tableOut (tgt := 107) hx hb dX11_book_11 (x_sw5 c11_0 c11_1 c11_2 c11_3 c11_4 c11_5) (by decide) ?_
              refine lv_aload_n hx hb dX11_book_107 rfl (lv_at hl 0 rfl) ?_
              obtain ⟨r13, σ14, hcl, hf⟩ := xc2_f hf
              refine x_calli (va_runV (As := []) (rest := []) ⟨hx, hb, hml, hown, hts⟩ (mX11_gramsInBreads hE σ4 r13 σ14 hcl H.size) (cwV 0 hts gX11_book_X11_gramsInBreads rfl rfl rfl (by decide +kernel) ⟨Nat.le_of_ble_eq_true rfl, Nat.le_of_ble_eq_true rfl⟩) (x_preV _ hw hA hG (cX0 hE) rfl) rfl rfl hl.1 rfl (lv_room (Nat.le_of_ble_eq_true rfl)) dX11_book_108 ⟨Nat.le_of_ble_eq_true rfl, Nat.le_of_ble_eq_true rfl⟩) hw hA (fun H locs hw => ?_)
              clear hcl
              exact x_tiret hx hb hr hlk hw hf (Nat.le_of_ble_eq_true rfl) (Nat.le_of_ble_eq_true rfl) dX11_book_111

def fX11_type_c41 (a1 : Int64) (t0 : Int32) (σ : xSt) : Option (xO × xSt) := (xct (fX11_needState t0 σ) fun r5 σ6 => (xc (fX6_append a1 σ6) fun σ8 => some ((.inl (σ8 49 1) : xO), σ8)))
def fX11_type_c19 (a1 : Int64) (a3 : Int32) (t0 : Int32) (σ : xSt) : Option (xO × xSt) := (xct (fX11_needArgument t0 σ) fun r3 σ4 => (if 80 < ((σ4 49 1) + a3) then fX11_type_c41 a1 0 σ4 else fX11_type_c41 a1 1 σ4))
def fX11_type (p0 : Int64) (σ : xSt) : Option (xO × xSt) := (xc2 (fX6_countBytes p0 σ) fun r1 σ2 => (if r1 = (-1) then fX11_type_c19 p0 r1 0 σ2 else fX11_type_c19 p0 r1 1 σ2))
abbrev rmX11_type : Room := { frames := 7, cells := 2, slots := 12, locals := 110 }
set_option maxRecDepth 100000 in
set_option maxHeartbeats 4000000 in
theorem mX11_type {l : Launch} (hl0 : l.stackTraces = false) {E : xE} (hE : E.sh = shX) (p0 : Int64) (σ : xSt) (o1 : xO) (o2 : xSt) (hf : fX11_type p0 σ = some (o1, o2)) : xMt l yX11_type wsX11_type rmX11_type E [.ref (E.a 0), .long p0] σ o1 o2 2 := by
  unfold fX11_type at hf
  refine xMt_of (cc := cX11_type) (maxL := 4) (ret := (some .int)) (by decide) rfl (Nat.le_of_ble_eq_true rfl) ?_
  intro p e s m args below meth c A ls ⟨hx, hb, hr, hml, hown, hts, hlk⟩ hA hG hw hl hex
  have hown : s.vm.findClass RX11 = some m.cls := hown
  have hl : lv_has ls 4 [(0, .ref (E.a 0)), (1, .long p0)] := hl
  have hk86 := hts (.fieldLink RX11 86 "OvenRound" "text" "LOvenRound$PartsText;") (by decide +kernel)
  have hiX11 : ∀ w ∈ wsX110, w ∈ wsX11_type := by decide +kernel
  have hk152 := hts (.fieldLink RX11 152 "OvenRound$PartsText" "length" "I") (by decide +kernel)
  have hiX6 : ∀ w ∈ wsX60, w ∈ wsX11_type := by decide +kernel
  have h41 : ∀ (a1 : Int64) (t0 : Int32) (σ : xSt) (H : Heap) (locs : List Loc) (ls : Array Slot), xw E A s.heap s σ H locs → lv_has ls 4 [(0, .ref (E.a 0)), (1, .long a1)] → fX11_type_c41 a1 t0 σ = some (o1, o2) → W p l e rmX11_type s m args below meth c H locs 1 6 (vx_MQ below (xQt E A o1 o2) (xXt E A o1 o2) args s 2 12 A) (F0 m 41 ls [.int t0]) := by
    intro a1 t0 σ H locs ls hw hl hf
    unfold fX11_type_c41 at hf
    rcases xct_e hf with ⟨k41, σ6, hcl, hf⟩ | ⟨r5, σ6, hcl, hf⟩
    · refine x_tcallv (vx_runS (As := [.int t0]) (rest := []) ⟨hx, hb, hml, hown, hts⟩ (mX11_needState hl0 t0 σ (.inr k41) σ6 hcl H.size) (va_cwS 1 hts gX11_type_X11_needState rfl rfl rfl (by decide +kernel) ⟨Nat.le_of_ble_eq_true rfl, Nat.le_of_ble_eq_true rfl⟩) (x_preS _ hw hA hG) rfl rfl hl.1 rfl (lv_room (Nat.le_of_ble_eq_true rfl)) dX11_type_41 ⟨Nat.le_of_ble_eq_true rfl, Nat.le_of_ble_eq_true rfl⟩) hw hA (fun q9 ce H locs h1 h2 h3 hw => ?_) (fun H locs h1 hw => nomatch h1)
      exact x_tout hlk hex h1 h2 h3 hw hf (Nat.le_of_ble_eq_true rfl) (Nat.le_of_ble_eq_true rfl)
    refine x_tcallv (vx_runS (As := [.int t0]) (rest := []) ⟨hx, hb, hml, hown, hts⟩ (mX11_needState hl0 t0 σ (.inl r5) σ6 hcl H.size) (va_cwS 1 hts gX11_type_X11_needState rfl rfl rfl (by decide +kernel) ⟨Nat.le_of_ble_eq_true rfl, Nat.le_of_ble_eq_true rfl⟩) (x_preS _ hw hA hG) rfl rfl hl.1 rfl (lv_room (Nat.le_of_ble_eq_true rfl)) dX11_type_41 ⟨Nat.le_of_ble_eq_true rfl, Nat.le_of_ble_eq_true rfl⟩) hw hA (fun q9 ce H locs h1 h2 h3 hw => by obtain ⟨_, h9, _⟩ := h3; cases h9) (fun H locs h1 hw => ?_)
    clear hcl h1
    refine lv_aload_n hx hb dX11_type_44 rfl (lv_at hl 0 rfl) ?_
    refine x_getr hx hb hw (cX0 hE) (own := RX11) (ref := RX11) (C := RX11) (T := TX11) (N := 14) hts hiX11 hown rfl 10 (by decide) hk86 (fun _ h9 => h9) rfl dX11_type_45 ?_
    refine lv_lload_n hx hb dX11_type_48 rfl (lv_at hl 1 rfl) ?_
    obtain ⟨σ8, hcl, hf⟩ := xc_e hf
    refine x_callv (va_runV (As := [.long a1]) (rest := []) ⟨hx, hb, hml, hown, hts⟩ (mX6_append hE a1 σ6 σ8 hcl H.size) (cwV 1 hts gX11_type_X6_append rfl rfl rfl (by decide +kernel) ⟨Nat.le_of_ble_eq_true rfl, Nat.le_of_ble_eq_true rfl⟩) (x_preV _ hw hA hG (cX49 hE) rfl) rfl rfl hl.1 rfl (lv_room (Nat.le_of_ble_eq_true rfl)) dX11_type_49 ⟨Nat.le_of_ble_eq_true rfl, Nat.le_of_ble_eq_true rfl⟩) hw hA (fun H locs hw => ?_)
    clear hcl
    refine lv_aload_n hx hb dX11_type_52 rfl (lv_at hl 0 rfl) ?_
    refine x_getr hx hb hw (cX0 hE) (own := RX11) (ref := RX11) (C := RX11) (T := TX11) (N := 14) hts hiX11 hown rfl 10 (by decide) hk86 (fun _ h9 => h9) rfl dX11_type_53 ?_
    refine x_geti hx hb hw (cX49 hE) (own := RX11) (ref := RX6) (C := RX6) (T := TX6) (N := 3) hts hiX6 hown rfl 1 (by decide) hk152 (fun _ h9 => h9) rfl dX11_type_56 ?_
    exact x_tiret hx hb hr hlk hw hf (Nat.le_of_ble_eq_true rfl) (Nat.le_of_ble_eq_true rfl) dX11_type_59
  have h19 : ∀ (a1 : Int64) (a3 : Int32) (t0 : Int32) (σ : xSt) (H : Heap) (locs : List Loc) (ls : Array Slot), xw E A s.heap s σ H locs → lv_has ls 4 [(0, .ref (E.a 0)), (1, .long a1), (3, .int a3)] → fX11_type_c19 a1 a3 t0 σ = some (o1, o2) → W p l e rmX11_type s m args below meth c H locs 0 0 (vx_MQ below (xQt E A o1 o2) (xXt E A o1 o2) args s 2 12 A) (F0 m 19 ls [.int t0]) := by
    intro a1 a3 t0 σ H locs ls hw hl hf
    unfold fX11_type_c19 at hf
    rcases xct_e hf with ⟨k19, σ4, hcl, hf⟩ | ⟨r3, σ4, hcl, hf⟩
    · refine x_tcallv (vx_runS (As := [.int t0]) (rest := []) ⟨hx, hb, hml, hown, hts⟩ (mX11_needArgument hl0 t0 σ (.inr k19) σ4 hcl H.size) (va_cwS 1 hts gX11_type_X11_needArgument rfl rfl rfl (by decide +kernel) ⟨Nat.le_of_ble_eq_true rfl, Nat.le_of_ble_eq_true rfl⟩) (x_preS _ hw hA hG) rfl rfl hl.1 rfl (lv_room (Nat.le_of_ble_eq_true rfl)) dX11_type_19 ⟨Nat.le_of_ble_eq_true rfl, Nat.le_of_ble_eq_true rfl⟩) hw hA (fun q9 ce H locs h1 h2 h3 hw => ?_) (fun H locs h1 hw => nomatch h1)
      exact x_tout hlk hex h1 h2 h3 hw hf (Nat.le_of_ble_eq_true rfl) (Nat.le_of_ble_eq_true rfl)
    refine x_tcallv (vx_runS (As := [.int t0]) (rest := []) ⟨hx, hb, hml, hown, hts⟩ (mX11_needArgument hl0 t0 σ (.inl r3) σ4 hcl H.size) (va_cwS 1 hts gX11_type_X11_needArgument rfl rfl rfl (by decide +kernel) ⟨Nat.le_of_ble_eq_true rfl, Nat.le_of_ble_eq_true rfl⟩) (x_preS _ hw hA hG) rfl rfl hl.1 rfl (lv_room (Nat.le_of_ble_eq_true rfl)) dX11_type_19 ⟨Nat.le_of_ble_eq_true rfl, Nat.le_of_ble_eq_true rfl⟩) hw hA (fun q9 ce H locs h1 h2 h3 hw => by obtain ⟨_, h9, _⟩ := h3; cases h9) (fun H locs h1 hw => ?_)
    clear hcl h1
    refine lv_aload_n hx hb dX11_type_22 rfl (lv_at hl 0 rfl) ?_
    refine x_getr hx hb hw (cX0 hE) (own := RX11) (ref := RX11) (C := RX11) (T := TX11) (N := 14) hts hiX11 hown rfl 10 (by decide) hk86 (fun _ h9 => h9) rfl dX11_type_23 ?_
    refine x_geti hx hb hw (cX49 hE) (own := RX11) (ref := RX6) (C := RX6) (T := TX6) (N := 3) hts hiX6 hown rfl 1 (by decide) hk152 (fun _ h9 => h9) rfl dX11_type_26 ?_
    refine lv_iload_n hx hb dX11_type_29 rfl (lv_at hl 2 rfl) ?_
    refine lv_iadd hx hb dX11_type_30 ?_
    refine lv_bipush (v := 80) hx hb dX11_type_31 (by decide) ?_
    refine lv_icmp_gt (tgt := 40) hx hb dX11_type_33 (by decide) (fun c33 => ?_) (fun c33 => ?_)
    · replace hf := xif_pos c33 hf
      refine lv_iconst (v := 0) hx hb dX11_type_40 (by decide) ?_
      exact h41 a1 0 σ4 _ _ _ hw (lv_sub hl [0, 1] rfl) hf
    · replace hf := xif_neg c33 hf
      refine lv_iconst (v := 1) hx hb dX11_type_36 (by decide) ?_
      refine lv_goto (tgt := 41) hx hb dX11_type_37 (by decide) ?_
      exact h41 a1 1 σ4 _ _ _ hw (lv_sub hl [0, 1] rfl) hf
  refine lv_aload_n hx hb dX11_type_0 rfl (lv_at hl 0 rfl) ?_
  refine x_getr hx hb hw (cX0 hE) (own := RX11) (ref := RX11) (C := RX11) (T := TX11) (N := 14) hts hiX11 hown rfl 10 (by decide) hk86 (fun _ h9 => h9) rfl dX11_type_1 ?_
  refine lv_lload_n hx hb dX11_type_4 rfl (lv_at hl 1 rfl) ?_
  obtain ⟨r1, σ2, hcl, hf⟩ := xc2_f hf
  refine x_calli (va_runV (As := [.long p0]) (rest := []) ⟨hx, hb, hml, hown, hts⟩ (mX6_countBytes hE p0 σ r1 σ2 hcl s.heap.size) (cwV 1 hts gX11_type_X6_countBytes rfl rfl rfl (by decide +kernel) ⟨Nat.le_of_ble_eq_true rfl, Nat.le_of_ble_eq_true rfl⟩) (x_preV _ hw hA hG (cX49 hE) rfl) rfl rfl hl.1 rfl (lv_room (Nat.le_of_ble_eq_true rfl)) dX11_type_5 ⟨Nat.le_of_ble_eq_true rfl, Nat.le_of_ble_eq_true rfl⟩) hw hA (fun H locs hw => ?_)
  clear hcl
  refine lv_istore_n (lv' := [(3, .int r1), (0, .ref (E.a 0)), (1, .long p0)]) hx hb dX11_type_8 rfl hl (by decide) rfl (fun ls hl => ?_)
  refine lv_iload_n hx hb dX11_type_9 rfl (lv_at hl 0 rfl) ?_
  refine lv_iconst (v := (-1)) hx hb dX11_type_10 (by decide) ?_
  refine lv_icmp_eq (tgt := 18) hx hb dX11_type_11 (by decide) (fun c11 => ?_) (fun c11 => ?_)
  · replace hf := xif_pos c11 hf
    refine lv_iconst (v := 0) hx hb dX11_type_18 (by decide) ?_
    exact h19 p0 r1 0 σ2 _ _ _ hw (lv_sub hl [1, 2, 0] rfl) hf
  · replace hf := xif_neg c11 hf
    refine lv_iconst (v := 1) hx hb dX11_type_14 (by decide) ?_
    refine lv_goto (tgt := 19) hx hb dX11_type_15 (by decide) ?_
    exact h19 p0 r1 1 σ2 _ _ _ hw (lv_sub hl [1, 2, 0] rfl) hf

def fX11_fault (σ : xSt) : Option (Int32 × xSt) := (xc2 (fX6_read σ) fun r1 σ2 => some (r1, σ2))
abbrev rmX11_fault : Room := { frames := 3, cells := 0, slots := 0, locals := 74 }
set_option maxRecDepth 100000 in
set_option maxHeartbeats 4000000 in
theorem mX11_fault {l : Launch} {E : xE} (hE : E.sh = shX) (σ : xSt) (o1 : Int32) (o2 : xSt) (hf : fX11_fault σ = some (o1, o2)) : xMi l yX11_fault wsX11_fault rmX11_fault E [.ref (E.a 0)] σ o1 o2 := by
  unfold fX11_fault at hf
  refine xMi_of (cc := cX11_fault) (maxL := 1) (ret := (some .int)) (by decide) rfl (Nat.le_of_ble_eq_true rfl) ?_
  intro p e s m args below meth c A ls ⟨hx, hb, hr, hml, hown, hts, hlk⟩ hA hG hw hl
  have hown : s.vm.findClass RX11 = some m.cls := hown
  have hl : lv_has ls 1 [(0, .ref (E.a 0))] := hl
  have hk86 := hts (.fieldLink RX11 86 "OvenRound" "text" "LOvenRound$PartsText;") (by decide +kernel)
  have hiX11 : ∀ w ∈ wsX110, w ∈ wsX11_fault := by decide +kernel
  refine lv_aload_n hx hb dX11_fault_0 rfl (lv_at hl 0 rfl) ?_
  refine x_getr hx hb hw (cX0 hE) (own := RX11) (ref := RX11) (C := RX11) (T := TX11) (N := 14) hts hiX11 hown rfl 10 (by decide) hk86 (fun _ h9 => h9) rfl dX11_fault_1 ?_
  obtain ⟨r1, σ2, hcl, hf⟩ := xc2_f hf
  refine x_calli (va_runV (As := []) (rest := []) ⟨hx, hb, hml, hown, hts⟩ (mX6_read hE σ r1 σ2 hcl s.heap.size) (cwV 0 hts gX11_fault_X6_read rfl rfl rfl (by decide +kernel) ⟨Nat.le_of_ble_eq_true rfl, Nat.le_of_ble_eq_true rfl⟩) (x_preV _ hw hA hG (cX49 hE) rfl) rfl rfl hl.1 rfl (lv_room (Nat.le_of_ble_eq_true rfl)) dX11_fault_4 ⟨Nat.le_of_ble_eq_true rfl, Nat.le_of_ble_eq_true rfl⟩) hw hA (fun H locs hw => ?_)
  clear hcl
  exact x_iret hx hb hr hlk hw hf dX11_fault_7

def fX11_bringBack (p0 : Int32) (σ : xSt) : Option xSt := (xc2 (fX10_load p0 σ) fun r1 σ2 => (xc2 (fX8_load r1 σ2) fun r3 σ4 => (xc2 (fX2_load r3 σ4) fun r5 σ6 => (xc2 (fX5_load r5 σ6) fun r7 σ8 => (xc2 (fX0_load r7 σ8) fun r9 σ10 => (xc2 (fX3_load r9 σ10) fun r11 σ12 => (xc2 (fX4_load r11 σ12) fun r13 σ14 => (xc2 (fX1_load r13 σ14) fun r15 σ16 => some σ16))))))))
abbrev rmX11_bringBack : Room := { frames := 2, cells := 0, slots := 0, locals := 118 }
set_option maxRecDepth 100000 in
set_option maxHeartbeats 4000000 in
theorem mX11_bringBack {l : Launch} {E : xE} (hE : E.sh = shX) (p0 : Int32) (σ : xSt) (o1 : xSt) (hf : fX11_bringBack p0 σ = some o1) : xMv l yX11_bringBack wsX11_bringBack rmX11_bringBack E [.ref (E.a 0), .int p0] σ o1 := by
  unfold fX11_bringBack at hf
  refine xMv_of (cc := cX11_bringBack) (maxL := 3) (ret := none) (by decide) rfl (Nat.le_of_ble_eq_true rfl) ?_
  intro p e s m args below meth c A ls ⟨hx, hb, hr, hml, hown, hts, hlk⟩ hA hG hw hl
  have hown : s.vm.findClass RX11 = some m.cls := hown
  have hl : lv_has ls 3 [(0, .ref (E.a 0)), (1, .int p0)] := hl
  have hk24 := hts (.fieldLink RX11 24 "OvenRound" "store" "LOvenRound$Store;") (by decide +kernel)
  have hiX11 : ∀ w ∈ wsX110, w ∈ wsX11_bringBack := by decide +kernel
  have hk90 := hts (.fieldLink RX11 90 "OvenRound" "past" "[I") (by decide +kernel)
  have hk31 := hts (.fieldLink RX11 31 "OvenRound" "recipes" "LOvenRound$Recipes;") (by decide +kernel)
  have hk36 := hts (.fieldLink RX11 36 "OvenRound" "doughs" "LOvenRound$Doughs;") (by decide +kernel)
  have hk41 := hts (.fieldLink RX11 41 "OvenRound" "oven" "LOvenRound$Oven;") (by decide +kernel)
  have hk55 := hts (.fieldLink RX11 55 "OvenRound" "breads" "LOvenRound$Breads;") (by decide +kernel)
  have hk60 := hts (.fieldLink RX11 60 "OvenRound" "flours" "LOvenRound$Flours;") (by decide +kernel)
  have hk65 := hts (.fieldLink RX11 65 "OvenRound" "notes" "LOvenRound$Notes;") (by decide +kernel)
  have hk70 := hts (.fieldLink RX11 70 "OvenRound" "cart" "LOvenRound$Cart;") (by decide +kernel)
  refine lv_iload_n hx hb dX11_bringBack_0 rfl (lv_at hl 1 rfl) ?_
  refine lv_istore_n (lv' := [(2, .int p0), (0, .ref (E.a 0)), (1, .int p0)]) hx hb dX11_bringBack_1 rfl hl (by decide) rfl (fun ls hl => ?_)
  refine lv_aload_n hx hb dX11_bringBack_2 rfl (lv_at hl 1 rfl) ?_
  refine x_getr hx hb hw (cX0 hE) (own := RX11) (ref := RX11) (C := RX11) (T := TX11) (N := 14) hts hiX11 hown rfl 0 (by decide) hk24 (fun _ h9 => h9) rfl dX11_bringBack_3 ?_
  refine lv_aload_n hx hb dX11_bringBack_6 rfl (lv_at hl 1 rfl) ?_
  refine x_getr hx hb hw (cX0 hE) (own := RX11) (ref := RX11) (C := RX11) (T := TX11) (N := 14) hts hiX11 hown rfl 11 (by decide) hk90 (fun _ h9 => h9) rfl dX11_bringBack_7 ?_
  refine lv_iload_n hx hb dX11_bringBack_10 rfl (lv_at hl 0 rfl) ?_
  obtain ⟨r1, σ2, hcl, hf⟩ := xc2_f hf
  refine x_calli (va_runV (As := [.ref (E.a 1), .int p0]) (rest := []) ⟨hx, hb, hml, hown, hts⟩ (mX10_load hE p0 σ r1 σ2 hcl s.heap.size) (cwV 2 hts gX11_bringBack_X10_load rfl rfl rfl (by decide +kernel) ⟨Nat.le_of_ble_eq_true rfl, Nat.le_of_ble_eq_true rfl⟩) (x_preV _ hw hA hG (cX2 hE) rfl) rfl rfl hl.1 rfl (lv_room (Nat.le_of_ble_eq_true rfl)) dX11_bringBack_11 ⟨Nat.le_of_ble_eq_true rfl, Nat.le_of_ble_eq_true rfl⟩) hw hA (fun H locs hw => ?_)
  clear hcl
  refine lv_istore_n (lv' := [(2, .int r1), (0, .ref (E.a 0)), (1, .int p0)]) hx hb dX11_bringBack_14 rfl hl (by decide) rfl (fun ls hl => ?_)
  refine lv_aload_n hx hb dX11_bringBack_15 rfl (lv_at hl 1 rfl) ?_
  refine x_getr hx hb hw (cX0 hE) (own := RX11) (ref := RX11) (C := RX11) (T := TX11) (N := 14) hts hiX11 hown rfl 1 (by decide) hk31 (fun _ h9 => h9) rfl dX11_bringBack_16 ?_
  refine lv_aload_n hx hb dX11_bringBack_19 rfl (lv_at hl 1 rfl) ?_
  refine x_getr hx hb hw (cX0 hE) (own := RX11) (ref := RX11) (C := RX11) (T := TX11) (N := 14) hts hiX11 hown rfl 11 (by decide) hk90 (fun _ h9 => h9) rfl dX11_bringBack_20 ?_
  refine lv_iload_n hx hb dX11_bringBack_23 rfl (lv_at hl 0 rfl) ?_
  obtain ⟨r3, σ4, hcl, hf⟩ := xc2_f hf
  refine x_calli (va_runV (As := [.ref (E.a 1), .int r1]) (rest := []) ⟨hx, hb, hml, hown, hts⟩ (mX8_load hE r1 σ2 r3 σ4 hcl H.size) (cwV 2 hts gX11_bringBack_X8_load rfl rfl rfl (by decide +kernel) ⟨Nat.le_of_ble_eq_true rfl, Nat.le_of_ble_eq_true rfl⟩) (x_preV _ hw hA hG (cX4 hE) rfl) rfl rfl hl.1 rfl (lv_room (Nat.le_of_ble_eq_true rfl)) dX11_bringBack_24 ⟨Nat.le_of_ble_eq_true rfl, Nat.le_of_ble_eq_true rfl⟩) hw hA (fun H locs hw => ?_)
  clear hcl
  refine lv_istore_n (lv' := [(2, .int r3), (0, .ref (E.a 0)), (1, .int p0)]) hx hb dX11_bringBack_27 rfl hl (by decide) rfl (fun ls hl => ?_)
  refine lv_aload_n hx hb dX11_bringBack_28 rfl (lv_at hl 1 rfl) ?_
  refine x_getr hx hb hw (cX0 hE) (own := RX11) (ref := RX11) (C := RX11) (T := TX11) (N := 14) hts hiX11 hown rfl 2 (by decide) hk36 (fun _ h9 => h9) rfl dX11_bringBack_29 ?_
  refine lv_aload_n hx hb dX11_bringBack_32 rfl (lv_at hl 1 rfl) ?_
  refine x_getr hx hb hw (cX0 hE) (own := RX11) (ref := RX11) (C := RX11) (T := TX11) (N := 14) hts hiX11 hown rfl 11 (by decide) hk90 (fun _ h9 => h9) rfl dX11_bringBack_33 ?_
  refine lv_iload_n hx hb dX11_bringBack_36 rfl (lv_at hl 0 rfl) ?_
  obtain ⟨r5, σ6, hcl, hf⟩ := xc2_f hf
  refine x_calli (va_runV (As := [.ref (E.a 1), .int r3]) (rest := []) ⟨hx, hb, hml, hown, hts⟩ (mX2_load hE r3 σ4 r5 σ6 hcl H.size) (cwV 2 hts gX11_bringBack_X2_load rfl rfl rfl (by decide +kernel) ⟨Nat.le_of_ble_eq_true rfl, Nat.le_of_ble_eq_true rfl⟩) (x_preV _ hw hA hG (cX12 hE) rfl) rfl rfl hl.1 rfl (lv_room (Nat.le_of_ble_eq_true rfl)) dX11_bringBack_37 ⟨Nat.le_of_ble_eq_true rfl, Nat.le_of_ble_eq_true rfl⟩) hw hA (fun H locs hw => ?_)
  clear hcl
  refine lv_istore_n (lv' := [(2, .int r5), (0, .ref (E.a 0)), (1, .int p0)]) hx hb dX11_bringBack_40 rfl hl (by decide) rfl (fun ls hl => ?_)
  refine lv_aload_n hx hb dX11_bringBack_41 rfl (lv_at hl 1 rfl) ?_
  refine x_getr hx hb hw (cX0 hE) (own := RX11) (ref := RX11) (C := RX11) (T := TX11) (N := 14) hts hiX11 hown rfl 3 (by decide) hk41 (fun _ h9 => h9) rfl dX11_bringBack_42 ?_
  refine lv_aload_n hx hb dX11_bringBack_45 rfl (lv_at hl 1 rfl) ?_
  refine x_getr hx hb hw (cX0 hE) (own := RX11) (ref := RX11) (C := RX11) (T := TX11) (N := 14) hts hiX11 hown rfl 11 (by decide) hk90 (fun _ h9 => h9) rfl dX11_bringBack_46 ?_
  refine lv_iload_n hx hb dX11_bringBack_49 rfl (lv_at hl 0 rfl) ?_
  obtain ⟨r7, σ8, hcl, hf⟩ := xc2_f hf
  refine x_calli (va_runV (As := [.ref (E.a 1), .int r5]) (rest := []) ⟨hx, hb, hml, hown, hts⟩ (mX5_load hE r5 σ6 r7 σ8 hcl H.size) (cwV 2 hts gX11_bringBack_X5_load rfl rfl rfl (by decide +kernel) ⟨Nat.le_of_ble_eq_true rfl, Nat.le_of_ble_eq_true rfl⟩) (x_preV _ hw hA hG (cX20 hE) rfl) rfl rfl hl.1 rfl (lv_room (Nat.le_of_ble_eq_true rfl)) dX11_bringBack_50 ⟨Nat.le_of_ble_eq_true rfl, Nat.le_of_ble_eq_true rfl⟩) hw hA (fun H locs hw => ?_)
  clear hcl
  refine lv_istore_n (lv' := [(2, .int r7), (0, .ref (E.a 0)), (1, .int p0)]) hx hb dX11_bringBack_53 rfl hl (by decide) rfl (fun ls hl => ?_)
  refine lv_aload_n hx hb dX11_bringBack_54 rfl (lv_at hl 1 rfl) ?_
  refine x_getr hx hb hw (cX0 hE) (own := RX11) (ref := RX11) (C := RX11) (T := TX11) (N := 14) hts hiX11 hown rfl 5 (by decide) hk55 (fun _ h9 => h9) rfl dX11_bringBack_55 ?_
  refine lv_aload_n hx hb dX11_bringBack_58 rfl (lv_at hl 1 rfl) ?_
  refine x_getr hx hb hw (cX0 hE) (own := RX11) (ref := RX11) (C := RX11) (T := TX11) (N := 14) hts hiX11 hown rfl 11 (by decide) hk90 (fun _ h9 => h9) rfl dX11_bringBack_59 ?_
  refine lv_iload_n hx hb dX11_bringBack_62 rfl (lv_at hl 0 rfl) ?_
  obtain ⟨r9, σ10, hcl, hf⟩ := xc2_f hf
  refine x_calli (va_runV (As := [.ref (E.a 1), .int r7]) (rest := []) ⟨hx, hb, hml, hown, hts⟩ (mX0_load hE r7 σ8 r9 σ10 hcl H.size) (cwV 2 hts gX11_bringBack_X0_load rfl rfl rfl (by decide +kernel) ⟨Nat.le_of_ble_eq_true rfl, Nat.le_of_ble_eq_true rfl⟩) (x_preV _ hw hA hG (cX27 hE) rfl) rfl rfl hl.1 rfl (lv_room (Nat.le_of_ble_eq_true rfl)) dX11_bringBack_63 ⟨Nat.le_of_ble_eq_true rfl, Nat.le_of_ble_eq_true rfl⟩) hw hA (fun H locs hw => ?_)
  clear hcl
  refine lv_istore_n (lv' := [(2, .int r9), (0, .ref (E.a 0)), (1, .int p0)]) hx hb dX11_bringBack_66 rfl hl (by decide) rfl (fun ls hl => ?_)
  refine lv_aload_n hx hb dX11_bringBack_67 rfl (lv_at hl 1 rfl) ?_
  refine x_getr hx hb hw (cX0 hE) (own := RX11) (ref := RX11) (C := RX11) (T := TX11) (N := 14) hts hiX11 hown rfl 6 (by decide) hk60 (fun _ h9 => h9) rfl dX11_bringBack_68 ?_
  refine lv_aload_n hx hb dX11_bringBack_71 rfl (lv_at hl 1 rfl) ?_
  refine x_getr hx hb hw (cX0 hE) (own := RX11) (ref := RX11) (C := RX11) (T := TX11) (N := 14) hts hiX11 hown rfl 11 (by decide) hk90 (fun _ h9 => h9) rfl dX11_bringBack_72 ?_
  refine lv_iload_n hx hb dX11_bringBack_75 rfl (lv_at hl 0 rfl) ?_
  obtain ⟨r11, σ12, hcl, hf⟩ := xc2_f hf
  refine x_calli (va_runV (As := [.ref (E.a 1), .int r9]) (rest := []) ⟨hx, hb, hml, hown, hts⟩ (mX3_load hE r9 σ10 r11 σ12 hcl H.size) (cwV 2 hts gX11_bringBack_X3_load rfl rfl rfl (by decide +kernel) ⟨Nat.le_of_ble_eq_true rfl, Nat.le_of_ble_eq_true rfl⟩) (x_preV _ hw hA hG (cX29 hE) rfl) rfl rfl hl.1 rfl (lv_room (Nat.le_of_ble_eq_true rfl)) dX11_bringBack_76 ⟨Nat.le_of_ble_eq_true rfl, Nat.le_of_ble_eq_true rfl⟩) hw hA (fun H locs hw => ?_)
  clear hcl
  refine lv_istore_n (lv' := [(2, .int r11), (0, .ref (E.a 0)), (1, .int p0)]) hx hb dX11_bringBack_79 rfl hl (by decide) rfl (fun ls hl => ?_)
  refine lv_aload_n hx hb dX11_bringBack_80 rfl (lv_at hl 1 rfl) ?_
  refine x_getr hx hb hw (cX0 hE) (own := RX11) (ref := RX11) (C := RX11) (T := TX11) (N := 14) hts hiX11 hown rfl 7 (by decide) hk65 (fun _ h9 => h9) rfl dX11_bringBack_81 ?_
  refine lv_aload_n hx hb dX11_bringBack_84 rfl (lv_at hl 1 rfl) ?_
  refine x_getr hx hb hw (cX0 hE) (own := RX11) (ref := RX11) (C := RX11) (T := TX11) (N := 14) hts hiX11 hown rfl 11 (by decide) hk90 (fun _ h9 => h9) rfl dX11_bringBack_85 ?_
  refine lv_iload_n hx hb dX11_bringBack_88 rfl (lv_at hl 0 rfl) ?_
  obtain ⟨r13, σ14, hcl, hf⟩ := xc2_f hf
  refine x_calli (va_runV (As := [.ref (E.a 1), .int r11]) (rest := []) ⟨hx, hb, hml, hown, hts⟩ (mX4_load hE r11 σ12 r13 σ14 hcl H.size) (cwV 2 hts gX11_bringBack_X4_load rfl rfl rfl (by decide +kernel) ⟨Nat.le_of_ble_eq_true rfl, Nat.le_of_ble_eq_true rfl⟩) (x_preV _ hw hA hG (cX35 hE) rfl) rfl rfl hl.1 rfl (lv_room (Nat.le_of_ble_eq_true rfl)) dX11_bringBack_89 ⟨Nat.le_of_ble_eq_true rfl, Nat.le_of_ble_eq_true rfl⟩) hw hA (fun H locs hw => ?_)
  clear hcl
  refine lv_istore_n (lv' := [(2, .int r13), (0, .ref (E.a 0)), (1, .int p0)]) hx hb dX11_bringBack_92 rfl hl (by decide) rfl (fun ls hl => ?_)
  refine lv_aload_n hx hb dX11_bringBack_93 rfl (lv_at hl 1 rfl) ?_
  refine x_getr hx hb hw (cX0 hE) (own := RX11) (ref := RX11) (C := RX11) (T := TX11) (N := 14) hts hiX11 hown rfl 8 (by decide) hk70 (fun _ h9 => h9) rfl dX11_bringBack_94 ?_
  refine lv_aload_n hx hb dX11_bringBack_97 rfl (lv_at hl 1 rfl) ?_
  refine x_getr hx hb hw (cX0 hE) (own := RX11) (ref := RX11) (C := RX11) (T := TX11) (N := 14) hts hiX11 hown rfl 11 (by decide) hk90 (fun _ h9 => h9) rfl dX11_bringBack_98 ?_
  refine lv_iload_n hx hb dX11_bringBack_101 rfl (lv_at hl 0 rfl) ?_
  obtain ⟨r15, σ16, hcl, hf⟩ := xc2_f hf
  refine x_calli (va_runV (As := [.ref (E.a 1), .int r13]) (rest := []) ⟨hx, hb, hml, hown, hts⟩ (mX1_load hE r13 σ14 r15 σ16 hcl H.size) (cwV 2 hts gX11_bringBack_X1_load rfl rfl rfl (by decide +kernel) ⟨Nat.le_of_ble_eq_true rfl, Nat.le_of_ble_eq_true rfl⟩) (x_preV _ hw hA hG (cX38 hE) rfl) rfl rfl hl.1 rfl (lv_room (Nat.le_of_ble_eq_true rfl)) dX11_bringBack_102 ⟨Nat.le_of_ble_eq_true rfl, Nat.le_of_ble_eq_true rfl⟩) hw hA (fun H locs hw => ?_)
  clear hcl
  refine lv_pop hx hb dX11_bringBack_105 rfl ?_
  exact x_vret hx hb hr hlk hw hf dX11_bringBack_106

def fX11_undo_c12 (t0 : Int32) (σ : xSt) : Option (xO × xSt) := (xct (fX11_needState t0 σ) fun r1 σ2 => (xp σ2 0 13 ((σ2 0 13) - 1) fun σ3 => (xc (fX11_bringBack ((((σ3 0 12) + (σ3 0 13)) - ((σ3 0 12) + (σ3 0 13)) / 8 * 8) * 195) σ3) fun σ5 => some ((.inl (σ5 0 13) : xO), σ5))))
def fX11_undo (σ : xSt) : Option (xO × xSt) := (if (σ 0 13) ≤ 0 then fX11_undo_c12 0 σ else fX11_undo_c12 1 σ)
abbrev rmX11_undo : Room := { frames := 7, cells := 1, slots := 6, locals := 140 }
set_option maxRecDepth 100000 in
set_option maxHeartbeats 4000000 in
theorem mX11_undo {l : Launch} (hl0 : l.stackTraces = false) {E : xE} (hE : E.sh = shX) (σ : xSt) (o1 : xO) (o2 : xSt) (hf : fX11_undo σ = some (o1, o2)) : xMt l yX11_undo wsX11_undo rmX11_undo E [.ref (E.a 0)] σ o1 o2 1 := by
  unfold fX11_undo at hf
  refine xMt_of (cc := cX11_undo) (maxL := 1) (ret := (some .int)) (by decide) rfl (Nat.le_of_ble_eq_true rfl) ?_
  intro p e s m args below meth c A ls ⟨hx, hb, hr, hml, hown, hts, hlk⟩ hA hG hw hl hex
  have hown : s.vm.findClass RX11 = some m.cls := hown
  have hl : lv_has ls 1 [(0, .ref (E.a 0))] := hl
  have hk381 := hts (.fieldLink RX11 381 "OvenRound" "acts" "I") (by decide +kernel)
  have hiX11 : ∀ w ∈ wsX110, w ∈ wsX11_undo := by decide +kernel
  have hk384 := hts (.fieldLink RX11 384 "OvenRound" "oldest" "I") (by decide +kernel)
  have h12 : ∀ (t0 : Int32) (σ : xSt) (H : Heap) (locs : List Loc) (ls : Array Slot), xw E A s.heap s σ H locs → lv_has ls 1 [(0, .ref (E.a 0))] → fX11_undo_c12 t0 σ = some (o1, o2) → W p l e rmX11_undo s m args below meth c H locs 0 0 (vx_MQ below (xQt E A o1 o2) (xXt E A o1 o2) args s 1 6 A) (F0 m 12 ls [.int t0]) := by
    intro t0 σ H locs ls hw hl hf
    unfold fX11_undo_c12 at hf
    rcases xct_e hf with ⟨k12, σ2, hcl, hf⟩ | ⟨r1, σ2, hcl, hf⟩
    · refine x_tcallv (vx_runS (As := [.int t0]) (rest := []) ⟨hx, hb, hml, hown, hts⟩ (mX11_needState hl0 t0 σ (.inr k12) σ2 hcl H.size) (va_cwS 1 hts gX11_undo_X11_needState rfl rfl rfl (by decide +kernel) ⟨Nat.le_of_ble_eq_true rfl, Nat.le_of_ble_eq_true rfl⟩) (x_preS _ hw hA hG) rfl rfl hl.1 rfl (lv_room (Nat.le_of_ble_eq_true rfl)) dX11_undo_12 ⟨Nat.le_of_ble_eq_true rfl, Nat.le_of_ble_eq_true rfl⟩) hw hA (fun q9 ce H locs h1 h2 h3 hw => ?_) (fun H locs h1 hw => nomatch h1)
      exact x_tout hlk hex h1 h2 h3 hw hf (Nat.le_of_ble_eq_true rfl) (Nat.le_of_ble_eq_true rfl)
    refine x_tcallv (vx_runS (As := [.int t0]) (rest := []) ⟨hx, hb, hml, hown, hts⟩ (mX11_needState hl0 t0 σ (.inl r1) σ2 hcl H.size) (va_cwS 1 hts gX11_undo_X11_needState rfl rfl rfl (by decide +kernel) ⟨Nat.le_of_ble_eq_true rfl, Nat.le_of_ble_eq_true rfl⟩) (x_preS _ hw hA hG) rfl rfl hl.1 rfl (lv_room (Nat.le_of_ble_eq_true rfl)) dX11_undo_12 ⟨Nat.le_of_ble_eq_true rfl, Nat.le_of_ble_eq_true rfl⟩) hw hA (fun q9 ce H locs h1 h2 h3 hw => by obtain ⟨_, h9, _⟩ := h3; cases h9) (fun H locs h1 hw => ?_)
    clear hcl h1
    refine lv_aload_n hx hb dX11_undo_15 rfl (lv_at hl 0 rfl) ?_
    refine lv_dup hx hb dX11_undo_16 rfl ?_
    refine x_geti hx hb hw (cX0 hE) (own := RX11) (ref := RX11) (C := RX11) (T := TX11) (N := 14) hts hiX11 hown rfl 13 (by decide) hk381 (fun _ h9 => h9) rfl dX11_undo_17 ?_
    refine lv_iconst (v := 1) hx hb dX11_undo_20 (by decide) ?_
    refine lv_isub hx hb dX11_undo_21 ?_
    refine x_puti hx hb hw (cX0 hE) (own := RX11) (ref := RX11) (C := RX11) (T := TX11) (N := 14) hts hiX11 tyX11 tyX11_ok nmX11 hown rfl 13 (by decide) hk381 (fun _ h9 => h9) rfl (by decide +kernel) rfl dX11_undo_22 (fun σ3 H locs ex hw => ?_)
    replace hf := xp_f hf σ3 ex
    clear ex
    refine lv_aload_n hx hb dX11_undo_25 rfl (lv_at hl 0 rfl) ?_
    refine lv_aload_n hx hb dX11_undo_26 rfl (lv_at hl 0 rfl) ?_
    refine x_geti hx hb hw (cX0 hE) (own := RX11) (ref := RX11) (C := RX11) (T := TX11) (N := 14) hts hiX11 hown rfl 12 (by decide) hk384 (fun _ h9 => h9) rfl dX11_undo_27 ?_
    refine lv_aload_n hx hb dX11_undo_30 rfl (lv_at hl 0 rfl) ?_
    refine x_geti hx hb hw (cX0 hE) (own := RX11) (ref := RX11) (C := RX11) (T := TX11) (N := 14) hts hiX11 hown rfl 13 (by decide) hk381 (fun _ h9 => h9) rfl dX11_undo_31 ?_
    refine lv_iadd hx hb dX11_undo_34 ?_
    refine lv_bipush (v := 8) hx hb dX11_undo_35 (by decide) ?_
    refine lv_irem hx hb dX11_undo_37 (by decide) ?_
    refine lv_sipush (v := 195) hx hb dX11_undo_38 (by decide) ?_
    refine lv_imul hx hb dX11_undo_41 ?_
    obtain ⟨σ5, hcl, hf⟩ := xc_e hf
    refine x_callv (va_runV (As := [.int ((((σ3 0 12) + (σ3 0 13)) - ((σ3 0 12) + (σ3 0 13)) / 8 * 8) * 195)]) (rest := []) ⟨hx, hb, hml, hown, hts⟩ (mX11_bringBack hE ((((σ3 0 12) + (σ3 0 13)) - ((σ3 0 12) + (σ3 0 13)) / 8 * 8) * 195) σ3 σ5 hcl H.size) (cwV 1 hts gX11_undo_X11_bringBack rfl rfl rfl (by decide +kernel) ⟨Nat.le_of_ble_eq_true rfl, Nat.le_of_ble_eq_true rfl⟩) (x_preV _ hw hA hG (cX0 hE) rfl) rfl rfl hl.1 rfl (lv_room (Nat.le_of_ble_eq_true rfl)) dX11_undo_42 ⟨Nat.le_of_ble_eq_true rfl, Nat.le_of_ble_eq_true rfl⟩) hw hA (fun H locs hw => ?_)
    clear hcl
    refine lv_aload_n hx hb dX11_undo_45 rfl (lv_at hl 0 rfl) ?_
    refine x_geti hx hb hw (cX0 hE) (own := RX11) (ref := RX11) (C := RX11) (T := TX11) (N := 14) hts hiX11 hown rfl 13 (by decide) hk381 (fun _ h9 => h9) rfl dX11_undo_46 ?_
    exact x_tiret hx hb hr hlk hw hf (Nat.le_of_ble_eq_true rfl) (Nat.le_of_ble_eq_true rfl) dX11_undo_49
  refine lv_aload_n hx hb dX11_undo_0 rfl (lv_at hl 0 rfl) ?_
  refine x_geti hx hb hw (cX0 hE) (own := RX11) (ref := RX11) (C := RX11) (T := TX11) (N := 14) hts hiX11 hown rfl 13 (by decide) hk381 (fun _ h9 => h9) rfl dX11_undo_1 ?_
  refine lv_if_le (tgt := 11) hx hb dX11_undo_4 (by decide) (fun c4 => ?_) (fun c4 => ?_)
  · replace hf := xif_pos c4 hf
    refine lv_iconst (v := 0) hx hb dX11_undo_11 (by decide) ?_
    exact h12 0 σ _ _ _ hw (lv_sub hl [0] rfl) hf
  · replace hf := xif_neg c4 hf
    refine lv_iconst (v := 1) hx hb dX11_undo_7 (by decide) ?_
    refine lv_goto (tgt := 12) hx hb dX11_undo_8 (by decide) ?_
    exact h12 1 σ _ _ _ hw (lv_sub hl [0] rfl) hf

def fX11_actCount (σ : xSt) : Option (Int32 × xSt) := some ((σ 0 13), σ)
abbrev rmX11_actCount : Room := { frames := 0, cells := 0, slots := 0, locals := 0 }
set_option maxRecDepth 100000 in
set_option maxHeartbeats 4000000 in
theorem mX11_actCount {l : Launch} {E : xE} (hE : E.sh = shX) (σ : xSt) (o1 : Int32) (o2 : xSt) (hf : fX11_actCount σ = some (o1, o2)) : xMi l yX11_actCount wsX11_actCount rmX11_actCount E [.ref (E.a 0)] σ o1 o2 := by
  unfold fX11_actCount at hf
  refine xMi_of (cc := cX11_actCount) (maxL := 1) (ret := (some .int)) (by decide) rfl (Nat.le_of_ble_eq_true rfl) ?_
  intro p e s m args below meth c A ls ⟨hx, hb, hr, hml, hown, hts, hlk⟩ hA hG hw hl
  have hown : s.vm.findClass RX11 = some m.cls := hown
  have hl : lv_has ls 1 [(0, .ref (E.a 0))] := hl
  have hk381 := hts (.fieldLink RX11 381 "OvenRound" "acts" "I") (by decide +kernel)
  have hiX11 : ∀ w ∈ wsX110, w ∈ wsX11_actCount := by decide +kernel
  refine lv_aload_n hx hb dX11_actCount_0 rfl (lv_at hl 0 rfl) ?_
  refine x_geti hx hb hw (cX0 hE) (own := RX11) (ref := RX11) (C := RX11) (T := TX11) (N := 14) hts hiX11 hown rfl 13 (by decide) hk381 (fun _ h9 => h9) rfl dX11_actCount_1 ?_
  exact x_iret hx hb hr hlk hw hf dX11_actCount_4

def fX11_gramsToldOf (σ : xSt) : Option (Int32 × xSt) := (xc2 (fX10_allGrams σ) fun r1 σ2 => (xc2 (fX2_gramsIn 0 σ2) fun r3 σ4 => (xc2 (fX2_gramsIn 1 σ4) fun r5 σ6 => (xc2 (fX2_gramsIn 2 σ6) fun r7 σ8 => (xc2 (fX11_gramsInBreads σ8) fun r9 σ10 => some ((((((((σ 2 2) + (σ 2 3)) + r1) + r3) + r5) + r7) + r9), σ10))))))
abbrev rmX11_gramsToldOf : Room := { frames := 2, cells := 0, slots := 0, locals := 46 }
set_option maxRecDepth 100000 in
set_option maxHeartbeats 4000000 in
theorem mX11_gramsToldOf {l : Launch} {E : xE} (hE : E.sh = shX) (σ : xSt) (o1 : Int32) (o2 : xSt) (hf : fX11_gramsToldOf σ = some (o1, o2)) : xMi l yX11_gramsToldOf wsX11_gramsToldOf rmX11_gramsToldOf E [.ref (E.a 0)] σ o1 o2 := by
  unfold fX11_gramsToldOf at hf
  refine xMi_of (cc := cX11_gramsToldOf) (maxL := 1) (ret := (some .int)) (by decide) rfl (Nat.le_of_ble_eq_true rfl) ?_
  intro p e s m args below meth c A ls ⟨hx, hb, hr, hml, hown, hts, hlk⟩ hA hG hw hl
  have hown : s.vm.findClass RX11 = some m.cls := hown
  have hl : lv_has ls 1 [(0, .ref (E.a 0))] := hl
  have hk24 := hts (.fieldLink RX11 24 "OvenRound" "store" "LOvenRound$Store;") (by decide +kernel)
  have hiX11 : ∀ w ∈ wsX110, w ∈ wsX11_gramsToldOf := by decide +kernel
  have hk266 := hts (.fieldLink RX11 266 "OvenRound$Store" "sold" "I") (by decide +kernel)
  have hiX10 : ∀ w ∈ wsX100, w ∈ wsX11_gramsToldOf := by decide +kernel
  have hk229 := hts (.fieldLink RX11 229 "OvenRound$Store" "thrown" "I") (by decide +kernel)
  have hk36 := hts (.fieldLink RX11 36 "OvenRound" "doughs" "LOvenRound$Doughs;") (by decide +kernel)
  refine lv_aload_n hx hb dX11_gramsToldOf_0 rfl (lv_at hl 0 rfl) ?_
  refine x_getr hx hb hw (cX0 hE) (own := RX11) (ref := RX11) (C := RX11) (T := TX11) (N := 14) hts hiX11 hown rfl 0 (by decide) hk24 (fun _ h9 => h9) rfl dX11_gramsToldOf_1 ?_
  refine x_geti hx hb hw (cX2 hE) (own := RX11) (ref := RX10) (C := RX10) (T := TX10) (N := 4) hts hiX10 hown rfl 2 (by decide) hk266 (fun _ h9 => h9) rfl dX11_gramsToldOf_4 ?_
  refine lv_aload_n hx hb dX11_gramsToldOf_7 rfl (lv_at hl 0 rfl) ?_
  refine x_getr hx hb hw (cX0 hE) (own := RX11) (ref := RX11) (C := RX11) (T := TX11) (N := 14) hts hiX11 hown rfl 0 (by decide) hk24 (fun _ h9 => h9) rfl dX11_gramsToldOf_8 ?_
  refine x_geti hx hb hw (cX2 hE) (own := RX11) (ref := RX10) (C := RX10) (T := TX10) (N := 4) hts hiX10 hown rfl 3 (by decide) hk229 (fun _ h9 => h9) rfl dX11_gramsToldOf_11 ?_
  refine lv_iadd hx hb dX11_gramsToldOf_14 ?_
  refine lv_aload_n hx hb dX11_gramsToldOf_15 rfl (lv_at hl 0 rfl) ?_
  refine x_getr hx hb hw (cX0 hE) (own := RX11) (ref := RX11) (C := RX11) (T := TX11) (N := 14) hts hiX11 hown rfl 0 (by decide) hk24 (fun _ h9 => h9) rfl dX11_gramsToldOf_16 ?_
  obtain ⟨r1, σ2, hcl, hf⟩ := xc2_f hf
  refine x_calli (va_runV (As := []) (rest := [.int ((σ 2 2) + (σ 2 3))]) ⟨hx, hb, hml, hown, hts⟩ (mX10_allGrams hE σ r1 σ2 hcl s.heap.size) (cwV 0 hts gX11_gramsToldOf_X10_allGrams rfl rfl rfl (by decide +kernel) ⟨Nat.le_of_ble_eq_true rfl, Nat.le_of_ble_eq_true rfl⟩) (x_preV _ hw hA hG (cX2 hE) rfl) rfl rfl hl.1 rfl (lv_room (Nat.le_of_ble_eq_true rfl)) dX11_gramsToldOf_19 ⟨Nat.le_of_ble_eq_true rfl, Nat.le_of_ble_eq_true rfl⟩) hw hA (fun H locs hw => ?_)
  clear hcl
  refine lv_iadd hx hb dX11_gramsToldOf_22 ?_
  refine lv_aload_n hx hb dX11_gramsToldOf_23 rfl (lv_at hl 0 rfl) ?_
  refine x_getr hx hb hw (cX0 hE) (own := RX11) (ref := RX11) (C := RX11) (T := TX11) (N := 14) hts hiX11 hown rfl 2 (by decide) hk36 (fun _ h9 => h9) rfl dX11_gramsToldOf_24 ?_
  refine lv_iconst (v := 0) hx hb dX11_gramsToldOf_27 (by decide) ?_
  obtain ⟨r3, σ4, hcl, hf⟩ := xc2_f hf
  refine x_calli (va_runV (As := [.int 0]) (rest := [.int (((σ 2 2) + (σ 2 3)) + r1)]) ⟨hx, hb, hml, hown, hts⟩ (mX2_gramsIn hE 0 σ2 r3 σ4 hcl H.size) (cwV 1 hts gX11_gramsToldOf_X2_gramsIn rfl rfl rfl (by decide +kernel) ⟨Nat.le_of_ble_eq_true rfl, Nat.le_of_ble_eq_true rfl⟩) (x_preV _ hw hA hG (cX12 hE) rfl) rfl rfl hl.1 rfl (lv_room (Nat.le_of_ble_eq_true rfl)) dX11_gramsToldOf_28 ⟨Nat.le_of_ble_eq_true rfl, Nat.le_of_ble_eq_true rfl⟩) hw hA (fun H locs hw => ?_)
  clear hcl
  refine lv_iadd hx hb dX11_gramsToldOf_31 ?_
  refine lv_aload_n hx hb dX11_gramsToldOf_32 rfl (lv_at hl 0 rfl) ?_
  refine x_getr hx hb hw (cX0 hE) (own := RX11) (ref := RX11) (C := RX11) (T := TX11) (N := 14) hts hiX11 hown rfl 2 (by decide) hk36 (fun _ h9 => h9) rfl dX11_gramsToldOf_33 ?_
  refine lv_iconst (v := 1) hx hb dX11_gramsToldOf_36 (by decide) ?_
  obtain ⟨r5, σ6, hcl, hf⟩ := xc2_f hf
  refine x_calli (va_runV (As := [.int 1]) (rest := [.int ((((σ 2 2) + (σ 2 3)) + r1) + r3)]) ⟨hx, hb, hml, hown, hts⟩ (mX2_gramsIn hE 1 σ4 r5 σ6 hcl H.size) (cwV 1 hts gX11_gramsToldOf_X2_gramsIn rfl rfl rfl (by decide +kernel) ⟨Nat.le_of_ble_eq_true rfl, Nat.le_of_ble_eq_true rfl⟩) (x_preV _ hw hA hG (cX12 hE) rfl) rfl rfl hl.1 rfl (lv_room (Nat.le_of_ble_eq_true rfl)) dX11_gramsToldOf_37 ⟨Nat.le_of_ble_eq_true rfl, Nat.le_of_ble_eq_true rfl⟩) hw hA (fun H locs hw => ?_)
  clear hcl
  refine lv_iadd hx hb dX11_gramsToldOf_40 ?_
  refine lv_aload_n hx hb dX11_gramsToldOf_41 rfl (lv_at hl 0 rfl) ?_
  refine x_getr hx hb hw (cX0 hE) (own := RX11) (ref := RX11) (C := RX11) (T := TX11) (N := 14) hts hiX11 hown rfl 2 (by decide) hk36 (fun _ h9 => h9) rfl dX11_gramsToldOf_42 ?_
  refine lv_iconst (v := 2) hx hb dX11_gramsToldOf_45 (by decide) ?_
  obtain ⟨r7, σ8, hcl, hf⟩ := xc2_f hf
  refine x_calli (va_runV (As := [.int 2]) (rest := [.int (((((σ 2 2) + (σ 2 3)) + r1) + r3) + r5)]) ⟨hx, hb, hml, hown, hts⟩ (mX2_gramsIn hE 2 σ6 r7 σ8 hcl H.size) (cwV 1 hts gX11_gramsToldOf_X2_gramsIn rfl rfl rfl (by decide +kernel) ⟨Nat.le_of_ble_eq_true rfl, Nat.le_of_ble_eq_true rfl⟩) (x_preV _ hw hA hG (cX12 hE) rfl) rfl rfl hl.1 rfl (lv_room (Nat.le_of_ble_eq_true rfl)) dX11_gramsToldOf_46 ⟨Nat.le_of_ble_eq_true rfl, Nat.le_of_ble_eq_true rfl⟩) hw hA (fun H locs hw => ?_)
  clear hcl
  refine lv_iadd hx hb dX11_gramsToldOf_49 ?_
  refine lv_aload_n hx hb dX11_gramsToldOf_50 rfl (lv_at hl 0 rfl) ?_
  obtain ⟨r9, σ10, hcl, hf⟩ := xc2_f hf
  refine x_calli (va_runV (As := []) (rest := [.int ((((((σ 2 2) + (σ 2 3)) + r1) + r3) + r5) + r7)]) ⟨hx, hb, hml, hown, hts⟩ (mX11_gramsInBreads hE σ8 r9 σ10 hcl H.size) (cwV 0 hts gX11_gramsToldOf_X11_gramsInBreads rfl rfl rfl (by decide +kernel) ⟨Nat.le_of_ble_eq_true rfl, Nat.le_of_ble_eq_true rfl⟩) (x_preV _ hw hA hG (cX0 hE) rfl) rfl rfl hl.1 rfl (lv_room (Nat.le_of_ble_eq_true rfl)) dX11_gramsToldOf_51 ⟨Nat.le_of_ble_eq_true rfl, Nat.le_of_ble_eq_true rfl⟩) hw hA (fun H locs hw => ?_)
  clear hcl
  refine lv_iadd hx hb dX11_gramsToldOf_54 ?_
  exact x_iret hx hb hr hlk hw hf dX11_gramsToldOf_55

def fX11_errors_c32 (a1 : Int32) (σ : xSt) : Option (Int32 × xSt) := (xc2 (fX1_hasEarlierWay σ) fun r7 σ8 => (if r7 = 0 then some (a1, σ8) else (xl (a1 + 1) fun v9 => some (v9, σ8))))
def fX11_errors_c19 (a1 : Int32) (σ : xSt) : Option (Int32 × xSt) := (xc2 (fX7_leavesOneInVain σ) fun r4 σ5 => (if r4 = 0 then fX11_errors_c32 a1 σ5 else (xl (a1 + 1) fun v6 => fX11_errors_c32 v6 σ5)))
def fX11_errors (σ : xSt) : Option (Int32 × xSt) := (xc2 (fX11_gramsToldOf σ) fun r1 σ2 => (if (σ 2 1) = r1 then fX11_errors_c19 0 σ2 else (xl (0 + 1) fun v3 => fX11_errors_c19 v3 σ2)))
abbrev rmX11_errors : Room := { frames := 16, cells := 0, slots := 0, locals := 448 }
set_option maxRecDepth 100000 in
set_option maxHeartbeats 4000000 in
theorem mX11_errors {l : Launch} {E : xE} (hE : E.sh = shX) (σ : xSt) (o1 : Int32) (o2 : xSt) (hf : fX11_errors σ = some (o1, o2)) : xMi l yX11_errors wsX11_errors rmX11_errors E [.ref (E.a 0)] σ o1 o2 := by
  unfold fX11_errors at hf
  refine xMi_of (cc := cX11_errors) (maxL := 2) (ret := (some .int)) (by decide) rfl (Nat.le_of_ble_eq_true rfl) ?_
  intro p e s m args below meth c A ls ⟨hx, hb, hr, hml, hown, hts, hlk⟩ hA hG hw hl
  have hown : s.vm.findClass RX11 = some m.cls := hown
  have hl : lv_has ls 2 [(0, .ref (E.a 0))] := hl
  have hk24 := hts (.fieldLink RX11 24 "OvenRound" "store" "LOvenRound$Store;") (by decide +kernel)
  have hiX11 : ∀ w ∈ wsX110, w ∈ wsX11_errors := by decide +kernel
  have hk117 := hts (.fieldLink RX11 117 "OvenRound$Store" "cameIn" "I") (by decide +kernel)
  have hiX10 : ∀ w ∈ wsX100, w ∈ wsX11_errors := by decide +kernel
  have hk50 := hts (.fieldLink RX11 50 "OvenRound" "plan" "LOvenRound$Plan;") (by decide +kernel)
  have hk70 := hts (.fieldLink RX11 70 "OvenRound" "cart" "LOvenRound$Cart;") (by decide +kernel)
  have h32 : ∀ (a1 : Int32) (σ : xSt) (H : Heap) (locs : List Loc) (ls : Array Slot), xw E A s.heap s σ H locs → lv_has ls 2 [(0, .ref (E.a 0)), (1, .int a1)] → fX11_errors_c32 a1 σ = some (o1, o2) → W p l e rmX11_errors s m args below meth c H locs 0 0 (MQ below (xQi E A o1 o2) args s 0 0 A) (F0 m 32 ls []) := by
    intro a1 σ H locs ls hw hl hf
    unfold fX11_errors_c32 at hf
    refine lv_aload_n hx hb dX11_errors_32 rfl (lv_at hl 0 rfl) ?_
    refine x_getr hx hb hw (cX0 hE) (own := RX11) (ref := RX11) (C := RX11) (T := TX11) (N := 14) hts hiX11 hown rfl 8 (by decide) hk70 (fun _ h9 => h9) rfl dX11_errors_33 ?_
    obtain ⟨r7, σ8, hcl, hf⟩ := xc2_f hf
    refine x_calli (va_runV (As := []) (rest := []) ⟨hx, hb, hml, hown, hts⟩ (mX1_hasEarlierWay hE σ r7 σ8 hcl H.size) (cwV 0 hts gX11_errors_X1_hasEarlierWay rfl rfl rfl (by decide +kernel) ⟨Nat.le_of_ble_eq_true rfl, Nat.le_of_ble_eq_true rfl⟩) (x_preV _ hw hA hG (cX38 hE) rfl) rfl rfl hl.1 rfl (lv_room (Nat.le_of_ble_eq_true rfl)) dX11_errors_36 ⟨Nat.le_of_ble_eq_true rfl, Nat.le_of_ble_eq_true rfl⟩) hw hA (fun H locs hw => ?_)
    clear hcl
    refine lv_if_eq (tgt := 45) hx hb dX11_errors_39 (by decide) (fun c39 => ?_) (fun c39 => ?_)
    · replace hf := xif_pos c39 hf
      refine lv_iload_n hx hb dX11_errors_45 rfl (lv_at hl 1 rfl) ?_
      exact x_iret hx hb hr hlk hw hf dX11_errors_46
    · replace hf := xif_neg c39 hf
      obtain ⟨v9, ex⟩ : ∃ y : Int32, y = (a1 + 1) := ⟨_, rfl⟩
      replace hf := xl_f hf v9 ex
      refine lv_iinc (v := v9) (lv' := [(1, .int v9), (0, .ref (E.a 0))]) hx hb dX11_errors_42 hl (k := 1) rfl (by rw [ex]; rfl) (by decide) rfl (fun ls hl => ?_)
      clear ex
      refine lv_iload_n hx hb dX11_errors_45 rfl (lv_at hl 0 rfl) ?_
      exact x_iret hx hb hr hlk hw hf dX11_errors_46
  have h19 : ∀ (a1 : Int32) (σ : xSt) (H : Heap) (locs : List Loc) (ls : Array Slot), xw E A s.heap s σ H locs → lv_has ls 2 [(0, .ref (E.a 0)), (1, .int a1)] → fX11_errors_c19 a1 σ = some (o1, o2) → W p l e rmX11_errors s m args below meth c H locs 0 0 (MQ below (xQi E A o1 o2) args s 0 0 A) (F0 m 19 ls []) := by
    intro a1 σ H locs ls hw hl hf
    unfold fX11_errors_c19 at hf
    refine lv_aload_n hx hb dX11_errors_19 rfl (lv_at hl 0 rfl) ?_
    refine x_getr hx hb hw (cX0 hE) (own := RX11) (ref := RX11) (C := RX11) (T := TX11) (N := 14) hts hiX11 hown rfl 4 (by decide) hk50 (fun _ h9 => h9) rfl dX11_errors_20 ?_
    obtain ⟨r4, σ5, hcl, hf⟩ := xc2_f hf
    refine x_calli (va_runV (As := []) (rest := []) ⟨hx, hb, hml, hown, hts⟩ (mX7_leavesOneInVain hE σ r4 σ5 hcl H.size) (cwV 0 hts gX11_errors_X7_leavesOneInVain rfl rfl rfl (by decide +kernel) ⟨Nat.le_of_ble_eq_true rfl, Nat.le_of_ble_eq_true rfl⟩) (x_preV _ hw hA hG (cX21 hE) rfl) rfl rfl hl.1 rfl (lv_room (Nat.le_of_ble_eq_true rfl)) dX11_errors_23 ⟨Nat.le_of_ble_eq_true rfl, Nat.le_of_ble_eq_true rfl⟩) hw hA (fun H locs hw => ?_)
    clear hcl
    refine lv_if_eq (tgt := 32) hx hb dX11_errors_26 (by decide) (fun c26 => ?_) (fun c26 => ?_)
    · replace hf := xif_pos c26 hf
      exact h32 a1 σ5 _ _ _ hw (lv_sub hl [0, 1] rfl) hf
    · replace hf := xif_neg c26 hf
      obtain ⟨v6, ex⟩ : ∃ y : Int32, y = (a1 + 1) := ⟨_, rfl⟩
      replace hf := xl_f hf v6 ex
      refine lv_iinc (v := v6) (lv' := [(1, .int v6), (0, .ref (E.a 0))]) hx hb dX11_errors_29 hl (k := 1) rfl (by rw [ex]; rfl) (by decide) rfl (fun ls hl => ?_)
      clear ex
      exact h32 v6 σ5 _ _ _ hw (lv_sub hl [1, 0] rfl) hf
  refine lv_iconst (v := 0) hx hb dX11_errors_0 (by decide) ?_
  refine lv_istore_n (lv' := [(1, .int 0), (0, .ref (E.a 0))]) hx hb dX11_errors_1 rfl hl (by decide) rfl (fun ls hl => ?_)
  refine lv_aload_n hx hb dX11_errors_2 rfl (lv_at hl 1 rfl) ?_
  refine x_getr hx hb hw (cX0 hE) (own := RX11) (ref := RX11) (C := RX11) (T := TX11) (N := 14) hts hiX11 hown rfl 0 (by decide) hk24 (fun _ h9 => h9) rfl dX11_errors_3 ?_
  refine x_geti hx hb hw (cX2 hE) (own := RX11) (ref := RX10) (C := RX10) (T := TX10) (N := 4) hts hiX10 hown rfl 1 (by decide) hk117 (fun _ h9 => h9) rfl dX11_errors_6 ?_
  refine lv_aload_n hx hb dX11_errors_9 rfl (lv_at hl 1 rfl) ?_
  obtain ⟨r1, σ2, hcl, hf⟩ := xc2_f hf
  refine x_calli (va_runV (As := []) (rest := [.int (σ 2 1)]) ⟨hx, hb, hml, hown, hts⟩ (mX11_gramsToldOf hE σ r1 σ2 hcl s.heap.size) (cwV 0 hts gX11_errors_X11_gramsToldOf rfl rfl rfl (by decide +kernel) ⟨Nat.le_of_ble_eq_true rfl, Nat.le_of_ble_eq_true rfl⟩) (x_preV _ hw hA hG (cX0 hE) rfl) rfl rfl hl.1 rfl (lv_room (Nat.le_of_ble_eq_true rfl)) dX11_errors_10 ⟨Nat.le_of_ble_eq_true rfl, Nat.le_of_ble_eq_true rfl⟩) hw hA (fun H locs hw => ?_)
  clear hcl
  refine lv_icmp_eq (tgt := 19) hx hb dX11_errors_13 (by decide) (fun c13 => ?_) (fun c13 => ?_)
  · replace hf := xif_pos c13 hf
    exact h19 0 σ2 _ _ _ hw (lv_sub hl [1, 0] rfl) hf
  · replace hf := xif_neg c13 hf
    obtain ⟨v3, ex⟩ : ∃ y : Int32, y = (0 + 1) := ⟨_, rfl⟩
    replace hf := xl_f hf v3 ex
    refine lv_iinc (v := v3) (lv' := [(1, .int v3), (0, .ref (E.a 0))]) hx hb dX11_errors_16 hl (k := 0) rfl (by rw [ex]; rfl) (by decide) rfl (fun ls hl => ?_)
    clear ex
    exact h19 v3 σ2 _ _ _ hw (lv_sub hl [1, 0] rfl) hf

def fX12_thrown (σ : xSt) : Option (Int32 × xSt) := some ((σ 0 0), σ)
abbrev rmX12_thrown : Room := { frames := 0, cells := 0, slots := 0, locals := 0 }
set_option maxRecDepth 100000 in
set_option maxHeartbeats 4000000 in
theorem mX12_thrown {l : Launch} {E : xE} (hE : E.sh = shM) (σ : xSt) (o1 : Int32) (o2 : xSt) (hf : fX12_thrown σ = some (o1, o2)) : xMi l yX12_thrown wsX12_thrown rmX12_thrown E [.ref (E.a 0)] σ o1 o2 := by
  unfold fX12_thrown at hf
  refine xMi_of (cc := cX12_thrown) (maxL := 1) (ret := (some .int)) (by decide) rfl (Nat.le_of_ble_eq_true rfl) ?_
  intro p e s m args below meth c A ls ⟨hx, hb, hr, hml, hown, hts, hlk⟩ hA hG hw hl
  have hown : s.vm.findClass RX12 = some m.cls := hown
  have hl : lv_has ls 1 [(0, .ref (E.a 0))] := hl
  have hk46 := hts (.fieldLink RX12 46 "OvenRoundModel" "raised" "I") (by decide +kernel)
  have hiX12 : ∀ w ∈ wsX120, w ∈ wsX12_thrown := by decide +kernel
  refine lv_aload_n hx hb dX12_thrown_0 rfl (lv_at hl 0 rfl) ?_
  refine x_geti hx hb hw (cM0 hE) (own := RX12) (ref := RX12) (C := RX12) (T := TX12) (N := 20) hts hiX12 hown rfl 0 (by decide) hk46 (fun _ h9 => h9) rfl dX12_thrown_1 ?_
  exact x_iret hx hb hr hlk hw hf dX12_thrown_4

def fX12_can (p0 : Int32) (p1 : Int32) (σ : xSt) : Option (Int32 × xSt) := (if p0 = 0 then (xp σ 0 0 p1 fun σ1 => xb p0 (some (p0, σ1))) else (xp σ 0 0 0 fun σ2 => xb p0 (some (p0, σ2))))
abbrev rmX12_can : Room := { frames := 0, cells := 0, slots := 0, locals := 0 }
set_option maxRecDepth 100000 in
set_option maxHeartbeats 4000000 in
theorem mX12_can {l : Launch} {E : xE} (hE : E.sh = shM) (p0 : Int32) (p1 : Int32) (σ : xSt) (o1 : Int32) (o2 : xSt) (hf : fX12_can p0 p1 σ = some (o1, o2)) : xMi l yX12_can wsX12_can rmX12_can E [.ref (E.a 0), .int p0, .int p1] σ o1 o2 := by
  unfold fX12_can at hf
  refine xMi_of (cc := cX12_can) (maxL := 3) (ret := (some .boolean)) (by decide) rfl (Nat.le_of_ble_eq_true rfl) ?_
  intro p e s m args below meth c A ls ⟨hx, hb, hr, hml, hown, hts, hlk⟩ hA hG hw hl
  have hown : s.vm.findClass RX12 = some m.cls := hown
  have hl : lv_has ls 3 [(0, .ref (E.a 0)), (1, .int p0), (2, .int p1)] := hl
  have hk46 := hts (.fieldLink RX12 46 "OvenRoundModel" "raised" "I") (by decide +kernel)
  have hiX12 : ∀ w ∈ wsX120, w ∈ wsX12_can := by decide +kernel
  refine lv_aload_n hx hb dX12_can_0 rfl (lv_at hl 0 rfl) ?_
  refine lv_iload_n hx hb dX12_can_1 rfl (lv_at hl 1 rfl) ?_
  refine lv_if_eq (tgt := 9) hx hb dX12_can_2 (by decide) (fun c2 => ?_) (fun c2 => ?_)
  · replace hf := xif_pos c2 hf
    refine lv_iload_n hx hb dX12_can_9 rfl (lv_at hl 2 rfl) ?_
    refine x_puti hx hb hw (cM0 hE) (own := RX12) (ref := RX12) (C := RX12) (T := TX12) (N := 20) hts hiX12 tyX12 tyX12_ok nmX12 hown rfl 0 (by decide) hk46 (fun _ h9 => h9) rfl (by decide +kernel) rfl dX12_can_10 (fun σ1 H locs ex hw => ?_)
    replace hf := xp_f hf σ1 ex
    clear ex
    refine lv_iload_n hx hb dX12_can_13 rfl (lv_at hl 1 rfl) ?_
    exact x_zret hx hb hr hlk hw hf dX12_can_14
  · replace hf := xif_neg c2 hf
    refine lv_iconst (v := 0) hx hb dX12_can_5 (by decide) ?_
    refine lv_goto (tgt := 10) hx hb dX12_can_6 (by decide) ?_
    refine x_puti hx hb hw (cM0 hE) (own := RX12) (ref := RX12) (C := RX12) (T := TX12) (N := 20) hts hiX12 tyX12 tyX12_ok nmX12 hown rfl 0 (by decide) hk46 (fun _ h9 => h9) rfl (by decide +kernel) rfl dX12_can_10 (fun σ2 H locs ex hw => ?_)
    replace hf := xp_f hf σ2 ex
    clear ex
    refine lv_iload_n hx hb dX12_can_13 rfl (lv_at hl 1 rfl) ?_
    exact x_zret hx hb hr hlk hw hf dX12_can_14

def fX12_in (p0 : Int32) (p1 : Int32) (p2 : Int32) (σ : xSt) : Option (Int32 × xSt) := (if p0 < p1 then some (0, σ) else (if p2 < p0 then some (0, σ) else some (1, σ)))
abbrev rmX12_in : Room := { frames := 0, cells := 0, slots := 0, locals := 0 }
set_option maxRecDepth 100000 in
set_option maxHeartbeats 4000000 in
theorem mX12_in {l : Launch} {E : xE} (hE : E.sh = shM) (p0 : Int32) (p1 : Int32) (p2 : Int32) (σ : xSt) (o1 : Int32) (o2 : xSt) (hf : fX12_in p0 p1 p2 σ = some (o1, o2)) : xMi l yX12_in wsX12_in rmX12_in E [.int p0, .int p1, .int p2] σ o1 o2 := by
  unfold fX12_in at hf
  refine xMi_of (cc := cX12_in) (maxL := 3) (ret := (some .boolean)) (by decide) rfl (Nat.le_of_ble_eq_true rfl) ?_
  intro p e s m args below meth c A ls ⟨hx, hb, hr, hml, hown, hts, hlk⟩ hA hG hw hl
  have hown : s.vm.findClass RX12 = some m.cls := hown
  have hl : lv_has ls 3 [(0, .int p0), (1, .int p1), (2, .int p2)] := hl
  refine lv_iload_n hx hb dX12_in_0 rfl (lv_at hl 0 rfl) ?_
  refine lv_iload_n hx hb dX12_in_1 rfl (lv_at hl 1 rfl) ?_
  refine lv_icmp_lt (tgt := 14) hx hb dX12_in_2 (by decide) (fun c2 => ?_) (fun c2 => ?_)
  · replace hf := xif_pos c2 hf
    refine lv_iconst (v := 0) hx hb dX12_in_14 (by decide) ?_
    exact x_zretc hx hb hr hlk hw (by decide) hf dX12_in_15
  · replace hf := xif_neg c2 hf
    refine lv_iload_n hx hb dX12_in_5 rfl (lv_at hl 0 rfl) ?_
    refine lv_iload_n hx hb dX12_in_6 rfl (lv_at hl 2 rfl) ?_
    refine lv_icmp_gt (tgt := 14) hx hb dX12_in_7 (by decide) (fun c7 => ?_) (fun c7 => ?_)
    · replace hf := xif_pos c7 hf
      refine lv_iconst (v := 0) hx hb dX12_in_14 (by decide) ?_
      exact x_zretc hx hb hr hlk hw (by decide) hf dX12_in_15
    · replace hf := xif_neg c7 hf
      refine lv_iconst (v := 1) hx hb dX12_in_10 (by decide) ?_
      refine lv_goto (tgt := 15) hx hb dX12_in_11 (by decide) ?_
      exact x_zretc hx hb hr hlk hw (by decide) hf dX12_in_15

def fX12_keptAt (σ : xSt) : Option (Int32 × xSt) := some ((660 * (((σ 0 4) + (σ 0 3)) - ((σ 0 4) + (σ 0 3)) / 8 * 8)), σ)
abbrev rmX12_keptAt : Room := { frames := 0, cells := 0, slots := 0, locals := 0 }
set_option maxRecDepth 100000 in
set_option maxHeartbeats 4000000 in
theorem mX12_keptAt {l : Launch} {E : xE} (hE : E.sh = shM) (σ : xSt) (o1 : Int32) (o2 : xSt) (hf : fX12_keptAt σ = some (o1, o2)) : xMi l yX12_keptAt wsX12_keptAt rmX12_keptAt E [.ref (E.a 0)] σ o1 o2 := by
  unfold fX12_keptAt at hf
  refine xMi_of (cc := cX12_keptAt) (maxL := 1) (ret := (some .int)) (by decide) rfl (Nat.le_of_ble_eq_true rfl) ?_
  intro p e s m args below meth c A ls ⟨hx, hb, hr, hml, hown, hts, hlk⟩ hA hG hw hl
  have hown : s.vm.findClass RX12 = some m.cls := hown
  have hl : lv_has ls 1 [(0, .ref (E.a 0))] := hl
  have hk50 := hts (.fieldLink RX12 50 "OvenRoundModel" "eldest" "I") (by decide +kernel)
  have hiX12 : ∀ w ∈ wsX120, w ∈ wsX12_keptAt := by decide +kernel
  have hk53 := hts (.fieldLink RX12 53 "OvenRoundModel" "undos" "I") (by decide +kernel)
  refine lv_sipush (v := 660) hx hb dX12_keptAt_0 (by decide) ?_
  refine lv_aload_n hx hb dX12_keptAt_3 rfl (lv_at hl 0 rfl) ?_
  refine x_geti hx hb hw (cM0 hE) (own := RX12) (ref := RX12) (C := RX12) (T := TX12) (N := 20) hts hiX12 hown rfl 4 (by decide) hk50 (fun _ h9 => h9) rfl dX12_keptAt_4 ?_
  refine lv_aload_n hx hb dX12_keptAt_7 rfl (lv_at hl 0 rfl) ?_
  refine x_geti hx hb hw (cM0 hE) (own := RX12) (ref := RX12) (C := RX12) (T := TX12) (N := 20) hts hiX12 hown rfl 3 (by decide) hk53 (fun _ h9 => h9) rfl dX12_keptAt_8 ?_
  refine lv_iadd hx hb dX12_keptAt_11 ?_
  refine lv_bipush (v := 8) hx hb dX12_keptAt_12 (by decide) ?_
  refine lv_irem hx hb dX12_keptAt_14 (by decide) ?_
  refine lv_imul hx hb dX12_keptAt_15 ?_
  exact x_iret hx hb hr hlk hw hf dX12_keptAt_16

def fX12_keep_c39 : Nat → Int32 → Int32 → xSt → Option xSt
  | 0 => fun _ _ _ => none
  | n + 1 => fun a1 a2 σ => (if 660 ≤ a2 then (xp σ 0 3 ((σ 0 3) + 1) fun σ5 => some σ5) else (xr σ 1 680 a2 fun v6 => (xs σ 2 5440 (a1 + a2) v6 fun σ7 => (xl (a2 + 1) fun v8 => fX12_keep_c39 n a1 v8 σ7))))
theorem fX12_keep_c39_s (n : Nat) (a1 : Int32) (a2 : Int32) (σ : xSt) : fX12_keep_c39 (n + 1) a1 a2 σ = ((if 660 ≤ a2 then (xp σ 0 3 ((σ 0 3) + 1) fun σ5 => some σ5) else (xr σ 1 680 a2 fun v6 => (xs σ 2 5440 (a1 + a2) v6 fun σ7 => (xl (a2 + 1) fun v8 => fX12_keep_c39 n a1 v8 σ7)))) : Option xSt) := rfl
def fX12_keep_c32 (σ : xSt) : Option xSt := (xc2 (fX12_keptAt σ) fun r3 σ4 => fX12_keep_c39 xFU r3 0 σ4)
def fX12_keep (σ : xSt) : Option xSt := (if (σ 0 3) = 8 then (xp σ 0 4 (((σ 0 4) + 1) - ((σ 0 4) + 1) / 8 * 8) fun σ1 => (xp σ1 0 3 ((σ1 0 3) - 1) fun σ2 => fX12_keep_c32 σ2)) else fX12_keep_c32 σ)
abbrev rmX12_keep : Room := { frames := 1, cells := 0, slots := 0, locals := 20 }
set_option maxRecDepth 100000 in
set_option maxHeartbeats 4000000 in
theorem mX12_keep {l : Launch} {E : xE} (hE : E.sh = shM) (σ : xSt) (o1 : xSt) (hf : fX12_keep σ = some o1) : xMv l yX12_keep wsX12_keep rmX12_keep E [.ref (E.a 0)] σ o1 := by
  unfold fX12_keep at hf
  refine xMv_of (cc := cX12_keep) (maxL := 3) (ret := none) (by decide) rfl (Nat.le_of_ble_eq_true rfl) ?_
  intro p e s m args below meth c A ls ⟨hx, hb, hr, hml, hown, hts, hlk⟩ hA hG hw hl
  have hown : s.vm.findClass RX12 = some m.cls := hown
  have hl : lv_has ls 3 [(0, .ref (E.a 0))] := hl
  have hk53 := hts (.fieldLink RX12 53 "OvenRoundModel" "undos" "I") (by decide +kernel)
  have hiX12 : ∀ w ∈ wsX120, w ∈ wsX12_keep := by decide +kernel
  have hk50 := hts (.fieldLink RX12 50 "OvenRoundModel" "eldest" "I") (by decide +kernel)
  have hk13 := hts (.fieldLink RX12 13 "OvenRoundModel" "kept" "[I") (by decide +kernel)
  have hk9 := hts (.fieldLink RX12 9 "OvenRoundModel" "w" "[I") (by decide +kernel)
  have h39 : ∀ (n : Nat) (a1 : Int32) (a2 : Int32) (σ : xSt) (H : Heap) (locs : List Loc) (ls : Array Slot), xw E A s.heap s σ H locs → lv_has ls 3 [(0, .ref (E.a 0)), (1, .int a1), (2, .int a2)] → fX12_keep_c39 n a1 a2 σ = some o1 → W p l e rmX12_keep s m args below meth c H locs 0 0 (MQ below (xQv E A o1) args s 0 0 A) (F0 m 39 ls []) := by
    intro n39
    induction n39 with
    | zero => intro a1 a2 σ H locs ls hw hl hf; exact nomatch hf
    | succ n39 ih39 =>
      intro a1 a2 σ H locs ls hw hl hf
      rw [fX12_keep_c39_s] at hf
      refine lv_iload_n hx hb dX12_keep_39 rfl (lv_at hl 2 rfl) ?_
      refine lv_sipush (v := 660) hx hb dX12_keep_40 (by decide) ?_
      refine lv_icmp_ge (tgt := 66) hx hb dX12_keep_43 (by decide) (fun c43 => ?_) (fun c43 => ?_)
      · replace hf := xif_pos c43 hf
        refine lv_aload_n hx hb dX12_keep_66 rfl (lv_at hl 0 rfl) ?_
        refine lv_dup hx hb dX12_keep_67 rfl ?_
        refine x_geti hx hb hw (cM0 hE) (own := RX12) (ref := RX12) (C := RX12) (T := TX12) (N := 20) hts hiX12 hown rfl 3 (by decide) hk53 (fun _ h9 => h9) rfl dX12_keep_68 ?_
        refine lv_iconst (v := 1) hx hb dX12_keep_71 (by decide) ?_
        refine lv_iadd hx hb dX12_keep_72 ?_
        refine x_puti hx hb hw (cM0 hE) (own := RX12) (ref := RX12) (C := RX12) (T := TX12) (N := 20) hts hiX12 tyX12 tyX12_ok nmX12 hown rfl 3 (by decide) hk53 (fun _ h9 => h9) rfl (by decide +kernel) rfl dX12_keep_73 (fun σ5 H locs ex hw => ?_)
        replace hf := xp_f hf σ5 ex
        clear ex
        exact x_vret hx hb hr hlk hw hf dX12_keep_76
      · replace hf := xif_neg c43 hf
        refine lv_aload_n hx hb dX12_keep_46 rfl (lv_at hl 0 rfl) ?_
        refine x_getr hx hb hw (cM0 hE) (own := RX12) (ref := RX12) (C := RX12) (T := TX12) (N := 20) hts hiX12 hown rfl 2 (by decide) hk13 (fun _ h9 => h9) rfl dX12_keep_47 ?_
        refine lv_iload_n hx hb dX12_keep_50 rfl (lv_at hl 1 rfl) ?_
        refine lv_iload_n hx hb dX12_keep_51 rfl (lv_at hl 2 rfl) ?_
        refine lv_iadd hx hb dX12_keep_52 ?_
        refine lv_aload_n hx hb dX12_keep_53 rfl (lv_at hl 0 rfl) ?_
        refine x_getr hx hb hw (cM0 hE) (own := RX12) (ref := RX12) (C := RX12) (T := TX12) (N := 20) hts hiX12 hown rfl 1 (by decide) hk9 (fun _ h9 => h9) rfl dX12_keep_54 ?_
        refine lv_iload_n hx hb dX12_keep_57 rfl (lv_at hl 2 rfl) ?_
        obtain ⟨hin, hf⟩ := xr_f hf
        refine x_iald hx hb hw (cM1 hE) hin dX12_keep_58 ?_
        refine lv_topi (fun v6 ex => ?_)
        replace hf := hf v6 ex
        clear ex hin
        obtain ⟨hin, hf⟩ := xs_f hf
        refine x_iast hx hb hw (cM2 hE) hin dX12_keep_59 (fun σ7 H locs ex hw => ?_)
        replace hf := hf σ7 ex
        clear ex hin
        obtain ⟨v8, ex⟩ : ∃ y : Int32, y = (a2 + 1) := ⟨_, rfl⟩
        replace hf := xl_f hf v8 ex
        refine lv_iinc (v := v8) (lv' := [(2, .int v8), (0, .ref (E.a 0)), (1, .int a1)]) hx hb dX12_keep_60 hl (k := 2) rfl (by rw [ex]; rfl) (by decide) rfl (fun ls hl => ?_)
        clear ex
        refine lv_goto (tgt := 39) hx hb dX12_keep_63 (by decide) ?_
        exact ih39 a1 v8 σ7 _ _ _ hw (lv_sub hl [1, 2, 0] rfl) hf
  have h32 : ∀ (σ : xSt) (H : Heap) (locs : List Loc) (ls : Array Slot), xw E A s.heap s σ H locs → lv_has ls 3 [(0, .ref (E.a 0))] → fX12_keep_c32 σ = some o1 → W p l e rmX12_keep s m args below meth c H locs 0 0 (MQ below (xQv E A o1) args s 0 0 A) (F0 m 32 ls []) := by
    intro σ H locs ls hw hl hf
    unfold fX12_keep_c32 at hf
    refine lv_aload_n hx hb dX12_keep_32 rfl (lv_at hl 0 rfl) ?_
    obtain ⟨r3, σ4, hcl, hf⟩ := xc2_f hf
    refine x_calli (va_runV (As := []) (rest := []) ⟨hx, hb, hml, hown, hts⟩ (mX12_keptAt hE σ r3 σ4 hcl H.size) (cwV 0 hts gX12_keep_X12_keptAt rfl rfl rfl (by decide +kernel) ⟨Nat.le_of_ble_eq_true rfl, Nat.le_of_ble_eq_true rfl⟩) (x_preV _ hw hA hG (cM0 hE) rfl) rfl rfl hl.1 rfl (lv_room (Nat.le_of_ble_eq_true rfl)) dX12_keep_33 ⟨Nat.le_of_ble_eq_true rfl, Nat.le_of_ble_eq_true rfl⟩) hw hA (fun H locs hw => ?_)
    clear hcl
    refine lv_istore_n (lv' := [(1, .int r3), (0, .ref (E.a 0))]) hx hb dX12_keep_36 rfl hl (by decide) rfl (fun ls hl => ?_)
    refine lv_iconst (v := 0) hx hb dX12_keep_37 (by decide) ?_
    refine lv_istore_n (lv' := [(2, .int 0), (1, .int r3), (0, .ref (E.a 0))]) hx hb dX12_keep_38 rfl hl (by decide) rfl (fun ls hl => ?_)
    exact h39 xFU r3 0 σ4 _ _ _ hw (lv_sub hl [2, 1, 0] rfl) hf
  refine lv_aload_n hx hb dX12_keep_0 rfl (lv_at hl 0 rfl) ?_
  refine x_geti hx hb hw (cM0 hE) (own := RX12) (ref := RX12) (C := RX12) (T := TX12) (N := 20) hts hiX12 hown rfl 3 (by decide) hk53 (fun _ h9 => h9) rfl dX12_keep_1 ?_
  refine lv_bipush (v := 8) hx hb dX12_keep_4 (by decide) ?_
  refine lv_icmp_ne (tgt := 32) hx hb dX12_keep_6 (by decide) (fun c6 => ?_) (fun c6 => ?_)
  · replace hf := xif_neg c6 hf
    exact h32  σ _ _ _ hw (lv_sub hl [0] rfl) hf
  · replace hf := xif_pos c6 hf
    refine lv_aload_n hx hb dX12_keep_9 rfl (lv_at hl 0 rfl) ?_
    refine lv_aload_n hx hb dX12_keep_10 rfl (lv_at hl 0 rfl) ?_
    refine x_geti hx hb hw (cM0 hE) (own := RX12) (ref := RX12) (C := RX12) (T := TX12) (N := 20) hts hiX12 hown rfl 4 (by decide) hk50 (fun _ h9 => h9) rfl dX12_keep_11 ?_
    refine lv_iconst (v := 1) hx hb dX12_keep_14 (by decide) ?_
    refine lv_iadd hx hb dX12_keep_15 ?_
    refine lv_bipush (v := 8) hx hb dX12_keep_16 (by decide) ?_
    refine lv_irem hx hb dX12_keep_18 (by decide) ?_
    refine x_puti hx hb hw (cM0 hE) (own := RX12) (ref := RX12) (C := RX12) (T := TX12) (N := 20) hts hiX12 tyX12 tyX12_ok nmX12 hown rfl 4 (by decide) hk50 (fun _ h9 => h9) rfl (by decide +kernel) rfl dX12_keep_19 (fun σ1 H locs ex hw => ?_)
    replace hf := xp_f hf σ1 ex
    clear ex
    refine lv_aload_n hx hb dX12_keep_22 rfl (lv_at hl 0 rfl) ?_
    refine lv_dup hx hb dX12_keep_23 rfl ?_
    refine x_geti hx hb hw (cM0 hE) (own := RX12) (ref := RX12) (C := RX12) (T := TX12) (N := 20) hts hiX12 hown rfl 3 (by decide) hk53 (fun _ h9 => h9) rfl dX12_keep_24 ?_
    refine lv_iconst (v := 1) hx hb dX12_keep_27 (by decide) ?_
    refine lv_isub hx hb dX12_keep_28 ?_
    refine x_puti hx hb hw (cM0 hE) (own := RX12) (ref := RX12) (C := RX12) (T := TX12) (N := 20) hts hiX12 tyX12 tyX12_ok nmX12 hown rfl 3 (by decide) hk53 (fun _ h9 => h9) rfl (by decide +kernel) rfl dX12_keep_29 (fun σ2 H locs ex hw => ?_)
    replace hf := xp_f hf σ2 ex
    clear ex
    exact h32  σ2 _ _ _ hw (lv_sub hl [0] rfl) hf
